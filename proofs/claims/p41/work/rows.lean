section
-- ===== PART A: goes FIRST, ahead of the names: the tables' words, and 'selects' of the private methods out of them =====
/-- a private method of a class that the tables say can be made, by its rows of tables_1 -/
def lw_okq (q : MethodName × Nat) : Prop := (q.1.cls ≠ "java/lang/invoke/MethodHandle" ∧ q.1.cls ≠ "java/lang/invoke/VarHandle") ∧ Cond.instantiable q.1.cls q.2 ∈ tables_1 ∧ Cond.privateMethod q.1 ∈ tables_1 ∧ Cond.instanceMethod q.1 ∈ tables_1
theorem lw_p0 : lw_okq (⟨"TapestryScene", "found", "(I)LTapestryScene$Node;"⟩, 10) := ⟨⟨by decide +kernel, by decide +kernel⟩, List.mem_of_getElem? (i := 29) (by decide +kernel), List.mem_of_getElem? (i := 27) (by decide +kernel), List.mem_of_getElem? (i := 28) (by decide +kernel)⟩
theorem lw_p1 : lw_okq (⟨"TapestryScene", "nodeOrNull", "(I)LTapestryScene$Node;"⟩, 10) := ⟨⟨by decide +kernel, by decide +kernel⟩, List.mem_of_getElem? (i := 29) (by decide +kernel), List.mem_of_getElem? (i := 32) (by decide +kernel), List.mem_of_getElem? (i := 33) (by decide +kernel)⟩
theorem lw_p2 : lw_okq (⟨"java/lang/Throwable", "fillInStackTrace", "(I)Ljava/lang/Throwable;"⟩, 6) := ⟨⟨by decide +kernel, by decide +kernel⟩, List.mem_of_getElem? (i := 76) (by decide +kernel), List.mem_of_getElem? (i := 74) (by decide +kernel), List.mem_of_getElem? (i := 75) (by decide +kernel)⟩
theorem lw_p3 : lw_okq (⟨"TapestryScene", "raise", "(LTapestryScene$Node;II)V"⟩, 10) := ⟨⟨by decide +kernel, by decide +kernel⟩, List.mem_of_getElem? (i := 29) (by decide +kernel), List.mem_of_getElem? (i := 160) (by decide +kernel), List.mem_of_getElem? (i := 161) (by decide +kernel)⟩
theorem lw_p4 : lw_okq (⟨"TapestryScene$Property", "lastKeyUpTo", "(I)LTapestryScene$Key;"⟩, 9) := ⟨⟨by decide +kernel, by decide +kernel⟩, List.mem_of_getElem? (i := 178) (by decide +kernel), List.mem_of_getElem? (i := 176) (by decide +kernel), List.mem_of_getElem? (i := 177) (by decide +kernel)⟩
theorem lw_p5 : lw_okq (⟨"TapestryScene$Property", "countedTime", "(III)I"⟩, 9) := ⟨⟨by decide +kernel, by decide +kernel⟩, List.mem_of_getElem? (i := 178) (by decide +kernel), List.mem_of_getElem? (i := 181) (by decide +kernel), List.mem_of_getElem? (i := 182) (by decide +kernel)⟩
theorem lw_p6 : lw_okq (⟨"TapestryScene$Property", "valueFrom", "(LTapestryScene$Key;I)I"⟩, 9) := ⟨⟨by decide +kernel, by decide +kernel⟩, List.mem_of_getElem? (i := 178) (by decide +kernel), List.mem_of_getElem? (i := 185) (by decide +kernel), List.mem_of_getElem? (i := 186) (by decide +kernel)⟩
theorem lw_p7 : lw_okq (⟨"TapestryScene$Point", "turnQuarters", "(I)V"⟩, 4) := ⟨⟨by decide +kernel, by decide +kernel⟩, List.mem_of_getElem? (i := 193) (by decide +kernel), List.mem_of_getElem? (i := 191) (by decide +kernel), List.mem_of_getElem? (i := 192) (by decide +kernel)⟩
theorem lw_p8 : lw_okq (⟨"TapestryScene", "gatherBounds", "(LTapestryScene$Node;)V"⟩, 10) := ⟨⟨by decide +kernel, by decide +kernel⟩, List.mem_of_getElem? (i := 29) (by decide +kernel), List.mem_of_getElem? (i := 227) (by decide +kernel), List.mem_of_getElem? (i := 228) (by decide +kernel)⟩
theorem lw_p9 : lw_okq (⟨"TapestryScene", "coversAt", "(LTapestryScene$Node;IIII)Z"⟩, 10) := ⟨⟨by decide +kernel, by decide +kernel⟩, List.mem_of_getElem? (i := 29) (by decide +kernel), List.mem_of_getElem? (i := 292) (by decide +kernel), List.mem_of_getElem? (i := 293) (by decide +kernel)⟩
theorem lw_p10 : lw_okq (⟨"TapestryScene", "topAt", "(IIIILTapestryScene$Node;)I"⟩, 10) := ⟨⟨by decide +kernel, by decide +kernel⟩, List.mem_of_getElem? (i := 29) (by decide +kernel), List.mem_of_getElem? (i := 309) (by decide +kernel), List.mem_of_getElem? (i := 310) (by decide +kernel)⟩
theorem lw_p11 : lw_okq (⟨"TapestryScene", "isToldAnew", "(I)Z"⟩, 10) := ⟨⟨by decide +kernel, by decide +kernel⟩, List.mem_of_getElem? (i := 29) (by decide +kernel), List.mem_of_getElem? (i := 346) (by decide +kernel), List.mem_of_getElem? (i := 347) (by decide +kernel)⟩
theorem lw_p12 : lw_okq (⟨"TapestryScene", "mixedWithNode", "(JLTapestryScene$Node;)J"⟩, 10) := ⟨⟨by decide +kernel, by decide +kernel⟩, List.mem_of_getElem? (i := 29) (by decide +kernel), List.mem_of_getElem? (i := 368) (by decide +kernel), List.mem_of_getElem? (i := 369) (by decide +kernel)⟩
theorem lw_p13 : lw_okq (⟨"TapestryScene", "mixedWithPoint", "(J)J"⟩, 10) := ⟨⟨by decide +kernel, by decide +kernel⟩, List.mem_of_getElem? (i := 29) (by decide +kernel), List.mem_of_getElem? (i := 372) (by decide +kernel), List.mem_of_getElem? (i := 373) (by decide +kernel)⟩
theorem lw_p14 : lw_okq (⟨"TapestrySceneLaw$Loom", "put", "(IIIII)V"⟩, 14) := ⟨⟨by decide +kernel, by decide +kernel⟩, List.mem_of_getElem? (i := 378) (by decide +kernel), List.mem_of_getElem? (i := 631) (by decide +kernel), List.mem_of_getElem? (i := 632) (by decide +kernel)⟩
theorem lw_p15 : lw_okq (⟨"TapestryScene", "layOrder", "()V"⟩, 10) := ⟨⟨by decide +kernel, by decide +kernel⟩, List.mem_of_getElem? (i := 29) (by decide +kernel), List.mem_of_getElem? (i := 744) (by decide +kernel), List.mem_of_getElem? (i := 745) (by decide +kernel)⟩
def lw_privs_1 : List (MethodName × Nat) := [(⟨"TapestryScene", "found", "(I)LTapestryScene$Node;"⟩, 10), (⟨"TapestryScene", "nodeOrNull", "(I)LTapestryScene$Node;"⟩, 10), (⟨"java/lang/Throwable", "fillInStackTrace", "(I)Ljava/lang/Throwable;"⟩, 6), (⟨"TapestryScene", "raise", "(LTapestryScene$Node;II)V"⟩, 10), (⟨"TapestryScene$Property", "lastKeyUpTo", "(I)LTapestryScene$Key;"⟩, 9), (⟨"TapestryScene$Property", "countedTime", "(III)I"⟩, 9), (⟨"TapestryScene$Property", "valueFrom", "(LTapestryScene$Key;I)I"⟩, 9), (⟨"TapestryScene$Point", "turnQuarters", "(I)V"⟩, 4), (⟨"TapestryScene", "gatherBounds", "(LTapestryScene$Node;)V"⟩, 10), (⟨"TapestryScene", "coversAt", "(LTapestryScene$Node;IIII)Z"⟩, 10), (⟨"TapestryScene", "topAt", "(IIIILTapestryScene$Node;)I"⟩, 10), (⟨"TapestryScene", "isToldAnew", "(I)Z"⟩, 10), (⟨"TapestryScene", "mixedWithNode", "(JLTapestryScene$Node;)J"⟩, 10), (⟨"TapestryScene", "mixedWithPoint", "(J)J"⟩, 10), (⟨"TapestrySceneLaw$Loom", "put", "(IIIII)V"⟩, 14), (⟨"TapestryScene", "layOrder", "()V"⟩, 10)]
theorem lw_r1 : ∀ q ∈ lw_privs_1, lw_okq q := List.forall_mem_cons.mpr ⟨lw_p0, List.forall_mem_cons.mpr ⟨lw_p1, List.forall_mem_cons.mpr ⟨lw_p2, List.forall_mem_cons.mpr ⟨lw_p3, List.forall_mem_cons.mpr ⟨lw_p4, List.forall_mem_cons.mpr ⟨lw_p5, List.forall_mem_cons.mpr ⟨lw_p6, List.forall_mem_cons.mpr ⟨lw_p7, List.forall_mem_cons.mpr ⟨lw_p8, List.forall_mem_cons.mpr ⟨lw_p9, List.forall_mem_cons.mpr ⟨lw_p10, List.forall_mem_cons.mpr ⟨lw_p11, List.forall_mem_cons.mpr ⟨lw_p12, List.forall_mem_cons.mpr ⟨lw_p13, List.forall_mem_cons.mpr ⟨lw_p14, List.forall_mem_cons.mpr ⟨lw_p15, fun _ h => absurd h List.not_mem_nil⟩⟩⟩⟩⟩⟩⟩⟩⟩⟩⟩⟩⟩⟩⟩⟩
theorem lw_p16 : lw_okq (⟨"TapestryScene", "lay", "(LTapestryScene$Node;I)V"⟩, 10) := ⟨⟨by decide +kernel, by decide +kernel⟩, List.mem_of_getElem? (i := 29) (by decide +kernel), List.mem_of_getElem? (i := 748) (by decide +kernel), List.mem_of_getElem? (i := 749) (by decide +kernel)⟩
theorem lw_p17 : lw_okq (⟨"TapestryScene", "layHanging", "(LTapestryScene$Node;III)V"⟩, 10) := ⟨⟨by decide +kernel, by decide +kernel⟩, List.mem_of_getElem? (i := 29) (by decide +kernel), List.mem_of_getElem? (i := 752) (by decide +kernel), List.mem_of_getElem? (i := 753) (by decide +kernel)⟩
theorem lw_p18 : lw_okq (⟨"TapestryScene", "foundBelowWhole", "(I)LTapestryScene$Node;"⟩, 10) := ⟨⟨by decide +kernel, by decide +kernel⟩, List.mem_of_getElem? (i := 29) (by decide +kernel), List.mem_of_getElem? (i := 766) (by decide +kernel), List.mem_of_getElem? (i := 767) (by decide +kernel)⟩
theorem lw_p19 : lw_okq (⟨"TapestryScene", "depthUnder", "(LTapestryScene$Node;)I"⟩, 10) := ⟨⟨by decide +kernel, by decide +kernel⟩, List.mem_of_getElem? (i := 29) (by decide +kernel), List.mem_of_getElem? (i := 821) (by decide +kernel), List.mem_of_getElem? (i := 822) (by decide +kernel)⟩
theorem lw_p20 : lw_okq (⟨"TapestryScene", "foundTrack", "(I)LTapestryScene$Property;"⟩, 10) := ⟨⟨by decide +kernel, by decide +kernel⟩, List.mem_of_getElem? (i := 29) (by decide +kernel), List.mem_of_getElem? (i := 870) (by decide +kernel), List.mem_of_getElem? (i := 871) (by decide +kernel)⟩
def lw_privs_2 : List (MethodName × Nat) := [(⟨"TapestryScene", "lay", "(LTapestryScene$Node;I)V"⟩, 10), (⟨"TapestryScene", "layHanging", "(LTapestryScene$Node;III)V"⟩, 10), (⟨"TapestryScene", "foundBelowWhole", "(I)LTapestryScene$Node;"⟩, 10), (⟨"TapestryScene", "depthUnder", "(LTapestryScene$Node;)I"⟩, 10), (⟨"TapestryScene", "foundTrack", "(I)LTapestryScene$Property;"⟩, 10)]
theorem lw_r2 : ∀ q ∈ lw_privs_2, lw_okq q := List.forall_mem_cons.mpr ⟨lw_p16, List.forall_mem_cons.mpr ⟨lw_p17, List.forall_mem_cons.mpr ⟨lw_p18, List.forall_mem_cons.mpr ⟨lw_p19, List.forall_mem_cons.mpr ⟨lw_p20, fun _ h => absurd h List.not_mem_nil⟩⟩⟩⟩⟩
def lw_privs : List (MethodName × Nat) := lw_privs_1 ++ (lw_privs_2)
def lw_tbl : List Cond := k2_sels lw_privs ++ tables_1
theorem lw_privs_ok : ∀ q ∈ lw_privs, lw_okq q := by
  show ∀ q ∈ lw_privs_1 ++ (lw_privs_2), lw_okq q
  exact List.forall_mem_append.mpr ⟨lw_r1, lw_r2⟩
-- ===== end of PART A; then your names; then what follows =====
end
section
/-! ===== BEGIN words of one list among another's, by their places ===== -/
theorem goodIn_r {big : List Cond} (ws : List Cond) (ps : List Nat) (hp : ws = ps.filterMap (fun i => big[i]?)) (h : ws.all goodWord = true) : GoodIn big ws := by
  intro w hw
  have h1 := List.all_eq_true.mp h w hw
  rw [hp] at hw
  obtain ⟨i, -, hi⟩ := List.mem_filterMap.mp hw
  have hm : w ∈ big := by first | exact List.mem_of_getElem? hi | exact List.getElem?_mem hi
  exact ⟨hm, good_of_word h1⟩
theorem goodIn_app {big a b : List Cond} (ha : GoodIn big a) (hb : GoodIn big b) : GoodIn big (a ++ b) := fun w h => (List.mem_append.mp h).elim (ha w) (hb w)
theorem goodIn_ca {big a b : List Cond} {c : Cond} (ha : GoodIn big (c :: a)) (hb : GoodIn big b) : GoodIn big (c :: (a ++ b)) := fun w h => (List.mem_cons.mp h).elim (fun e => ha w (List.mem_cons.mpr (Or.inl e))) (fun h => (List.mem_append.mp h).elim (fun h => ha w (List.mem_cons.mpr (Or.inr h))) (hb w))
theorem goodIn_sub {big ws : List Cond} (hm : ∀ w ∈ ws, w ∈ big) (h : ws.all goodWord = true) : GoodIn big ws := fun w hw => ⟨hm w hw, good_of_word (List.all_eq_true.mp h w hw)⟩
/-! ===== END ===== -/



/-! ===== BEGIN exceptions that leave a method, and their catching by the caller (launches without stack traces) ===== -/
section VXA
/-! The laws vx_back, vx_callV, vx_callS, vx_callSW, vx_throw0, vx_throwS follow proofs of the library, with one case more: JvmDerived/Free/Laws.lean (Back.of_free), Shelf42/LK1.lean (callV, callS), Shelf/KitTraced.lean (throwNew0V, throwNewS). -/
/-- where a method has thrown q: the class by its name, the cell, what was written, the world -/
def vx_T (XC : String → State → State → Prop) (st : State) (q : Addr) (t : State) (mc ms : Nat) (free : Addr → Prop) : Prop :=
  ∃ (E : String) (ce : Cell) (L : List Loc), XC E st t ∧ t.heap[q]? = some ce ∧ ce.vm = .none ∧ st.vm.findClass E = some ce.cls ∧ st.WarmedH t.vm ∧ st.sameButNew ({ t with vm := st.vm } : State) L mc ms ∧ ∀ z ∈ L, free z.base
def vx_Q (Qc : Array Value → State → Outcome → State → Prop) (XC : String → State → State → Prop) (mc ms : Nat) (free : Addr → Prop) : Array Value → State → Outcome → State → Prop := fun a st o t =>
  (Qc a st o t ∧ ∃ L, FrameEnd st o t L mc ms ∧ ∀ q ∈ L, free q.base) ∨ ∃ q, o = .threw q ∧ vx_T XC st q t mc ms free
/-- a callee that returns or throws -/
def vx_Met (l : Launch) (y : MethodName) (ws : List Cond) (rm : Room) (Pc : Array Value → State → Prop) (Qc : Array Value → State → Outcome → State → Prop) (XC : String → State → State → Prop) (mc ms : Nat) (free : Addr → Prop) : Prop :=
  MetFree l y (headSpec ws rm) Pc (fun _ _ _ _ _ => True) (vx_Q Qc XC mc ms free)
def vx_Post (XC : String → State → State → Prop) (mc ms : Nat) (free : Addr → Prop) : Pt → Array Value → Addr → Pt → Prop := fun A a q B =>
  ∃ (g : JFrame) (mk : MethodId) (t : State) (L : List Loc) (E : String) (ce : Cell), B.U.heap = t.heap ∧ B.U.vm = t.vm ∧ XC E (A.U.calling g mk a) t ∧ t.heap[q]? = some ce ∧ ce.vm = .none ∧ A.U.vm.findClass E = some ce.cls ∧ B.locs = A.locs ++ L ∧ (∀ z ∈ L, free z.base) ∧ B.cells = A.cells + mc ∧ B.slots = A.slots + ms
def vx_Back (l : Launch) (R : Room) (p : Program) (e : Env) (below : List Frame) (s : State) (sargs : Array Value) (y : MethodName) (len W9 : Nat)
    (Pre : Pt → Array Value → Prop) (Post : Pt → Array Value → Option Value → Pt → Prop) (PostX : Pt → Array Value → Addr → Pt → Prop) : Prop :=
  ∀ (m : MethodId) (meth : Method) (c : Code) (A : Pt) (g : JFrame) (ig : Instr) (mk : MethodId) (a : Array Value),
    Stand p l e R s m sargs below meth c A.U A.locs A.cells A.slots → g.method = m → g.locals.size = c.maxLocals → decode c.code g.pc = .ok (ig, len) →
    2 * g.monitorRoom + (g.stack.map fun v => v.category).sum ≤ W9 → A.U.methodNamed? y = some mk → Pre A a →
    (∃ (v : Option Value) (B : Pt), Stand p l e R s m sargs below meth c B.U B.locs B.cells B.slots ∧ Post A a v B ∧
      Steps p.tables e below (doInvoke e (A.U.setTop g) [] mk a).1 (B.U.setTop { g with pc := g.pc + len, stack := v.toList ++ g.stack })) ∨
    (∃ (q : Addr) (B : Pt), Stand p l e R s m sargs below meth c B.U B.locs B.cells B.slots ∧ PostX A a q B ∧
      Steps p.tables e below (doInvoke e (A.U.setTop g) [] mk a).1 ((B.U.setTop g).pushFrame (.throwing q)))
section Payer
variable {l : Launch} {R : Room} {p : Program} {e : Env} {below : List Frame} {s : State} {sargs : Array Value} {y : MethodName} {len W9 : Nat}
theorem vx_back {ws : List Cond} {rm : Room} {Pc : Array Value → State → Prop} {Qc : Array Value → State → Outcome → State → Prop} {XC : String → State → State → Prop} {mc ms : Nat} {free : Addr → Prop} {bytes : ByteArray} {maxL : Nat} {ret : Option FieldType}
    (hM : vx_Met l y ws rm Pc Qc XC mc ms free) (hblind : FrameBlind Pc) (hrc : rm.cells = mc) (hrs : rm.slots = ms)
    (hframes : rm.frames + 1 ≤ R.frames) (hlocals : W9 + (maxL + 11) + rm.locals ≤ R.locals)
    (hws : ∀ w ∈ ws, ∀ a' U, s.WarmedH U.vm → w.before a' U = true) (hcode : Cond.code y bytes maxL ret ∈ ws) (hinit : ∀ a' U, s.WarmedH U.vm → (Cond.initialized y.cls).before a' U = true) :
    vx_Back l R p e below s sargs y len W9 (PreOf R mc ms Pc) (PostOf Qc mc ms free) (vx_Post XC mc ms free) := by
  intro m meth c A g ig mk a X hg hsize hdg hW hn hp
  have h1 : (headSpec ws rm).pre.before a A.U = true := atoms_intro fun w hw => hws w hw _ _ X.warmed
  have h2 : (Cond.code y bytes maxL ret).before a A.U = true := hws _ hcode _ _ X.warmed
  have h3 : (Cond.initialized y.cls).before a A.U = true := hinit _ _ X.warmed
  have h4 : A.cells + (headSpec ws rm).room.cells ≤ R.cells := by rw [show (headSpec ws rm).room.cells = mc from hrc]; exact hp.1
  have h5 : A.slots + (headSpec ws rm).room.slots ≤ R.slots := by rw [show (headSpec ws rm).room.slots = ms from hrs]; exact hp.2.1
  have hPc : Pc a (A.U.calling g mk a) := hblind _ _ _ _ hp.2.2
  obtain ⟨U, Ls, c0, s0⟩ := A
  dsimp only [Pt.U, Pt.locs, Pt.cells, Pt.slots] at h1 h2 h3 h4 h5 X hn hPc ⊢
  obtain ⟨methY, cY, hmY, hcY, -, hlY, -, -, -, -⟩ := Cond.code_spec hn h2
  obtain ⟨kY, hkY, -⟩ := className_of_methodNamed hn
  have hinitY : kY.init = .initialized := Cond.initialized_spec (findClass_of_methodNamed hn) hkY h3
  have h : At U g.method c below := by rw [hg]; exact X.here
  have hlocals9 : W9 + (maxL + 11) + (headSpec ws rm).room.locals ≤ R.locals := hlocals
  have happ : (headSpec ws rm).appliesLoose y e.platform (U.calling g mk a) = true :=
    Spec.appliesLoose_calling (g := g) h hdg hn hkY hinitY
      (X.room_calling (g := g) (R' := (headSpec ws rm).room) hsize hmY hcY hframes (by rw [hlY]; omega) h4 h5) h1
  obtain ⟨mid, hmid⟩ := h.above
  have hfr : (U.setTop g).frames = (.java g :: mid) ++ below := by rw [State.frames_setTop' g h.top, hmid]; rfl
  obtain ⟨o, s₂, hsteps, -, hend, hq⟩ := Steps.callFree hM p X.admits X.cas X.clock (acts := []) hfr happ hPc trivial
  have hq' : vx_Q Qc XC mc ms free a (U.calling g mk a) o s₂ := hq
  rw [State.frames_setTop' g h.top] at hend
  obtain ⟨g₀, hg0⟩ := Option.isSome_iff_exists.mp h.top
  obtain ⟨r, hr⟩ := State.topJava?_eq_some.mp hg0
  have hr' : (({ U with heap := s₂.heap, slotsUsed := s₂.slotsUsed } : State).setVm s₂.vm).frames = .java g₀ :: r := hr
  rcases hq' with ⟨hqc, L, hfe, hL⟩ | ⟨q, rfl, E, ce, L, hx, hce, hcv, hcl, hW₂, hsm, hL⟩
  · obtain ⟨⟨v, rfl⟩, hW₂, e2, q2, q3, q4, q5, q6⟩ := id hfe
    have e3 : s₂ = ({ (U.calling g mk a).setFrames s₂.frames with heap := s₂.heap, slotsUsed := s₂.slotsUsed } : State).setVm s₂.vm := by
      have : s₂ = ({ s₂ with vm := (U.calling g mk a).vm } : State).setVm s₂.vm := rfl
      rw [e2] at this
      exact this
    obtain ⟨c₂, i₂, len₂, hc₂, hd₂, hf₂⟩ := hend
    have hW' : U.WarmedH s₂.vm := hW₂
    have hcc : c₂ = c := by
      have h1 : s₂.code? g.method = U.code? g.method := by
        rw [State.code?_eq, State.code?_eq, hW'.alike.method?]
      exact Option.some.inj (hc₂.symm.trans (h1.trans h.code))
    subst hcc
    have hlen : len₂ = len := by rw [hdg] at hd₂; cases hd₂; rfl
    subst hlen
    have hs₂ : s₂ = (({ U with heap := s₂.heap, slotsUsed := s₂.slotsUsed } : State).setVm s₂.vm).setTop { g with pc := g.pc + len₂, stack := v.toList ++ g.stack } := by
      refine e3.trans ?_
      rw [hf₂, State.calling_eq h.top, State.setFrames_setFrames, State.setTop_of_frames _ hr', hr]
      rfl
    have hsame : U.sameButNew ({ U with heap := s₂.heap, slotsUsed := s₂.slotsUsed } : State) L mc ms := by
      refine ⟨?_, q2, q3, q4, q5, q6⟩
      obtain ⟨t, ht, -⟩ := State.frames_cons hr
      show ({ U with heap := s₂.heap, slotsUsed := s₂.slotsUsed } : State) = { U.setFrames U.frames with heap := s₂.heap, slotsUsed := s₂.slotsUsed }
      rw [State.setFrames_self ht]
    subst hg
    refine Or.inl ⟨v, ⟨(({ U with heap := s₂.heap, slotsUsed := s₂.slotsUsed } : State).setVm s₂.vm), Ls ++ L, c0 + mc, s0 + ms⟩,
      ⟨X.admits, X.cas, X.clock, X.frames, X.room, X.hears, X.method, X.code, (X.here.setHeapUsed s₂.heap s₂.slotsUsed).setVm hW'.alike, X.tail, State.WarmedH.trans X.warmed hW', X.limits, X.bytes, X.same.trans (hsame.setVm s.vm)⟩,
      ⟨g, mk, s₂, L, rfl, rfl, hqc, rfl, hL, rfl, rfl⟩, ?_⟩
    show Steps p.tables e below _ ((({ U with heap := s₂.heap, slotsUsed := s₂.slotsUsed } : State).setVm s₂.vm).setTop { g with pc := g.pc + len₂, stack := v.toList ++ g.stack })
    rw [← hs₂]
    exact hsteps
  · obtain ⟨e2, q2, q3, q4, q5, q6⟩ := id hsm
    have e3 : s₂ = ({ (U.calling g mk a).setFrames s₂.frames with heap := s₂.heap, slotsUsed := s₂.slotsUsed } : State).setVm s₂.vm := by
      have : s₂ = ({ s₂ with vm := (U.calling g mk a).vm } : State).setVm s₂.vm := rfl
      rw [e2] at this
      exact this
    have hf₂ : s₂.frames = .throwing q :: .java g :: U.frames.tail := hend
    have hW' : U.WarmedH s₂.vm := hW₂
    have hs₂ : s₂ = ((({ U with heap := s₂.heap, slotsUsed := s₂.slotsUsed } : State).setVm s₂.vm).setTop g).pushFrame (.throwing q) := by
      refine e3.trans ?_
      rw [hf₂, State.calling_eq h.top, State.setFrames_setFrames, State.pushFrame, State.frames_setTop _ hr', State.setTop_of_frames _ hr', State.setFrames_setFrames, hr]
      rfl
    have hsame : U.sameButNew ({ U with heap := s₂.heap, slotsUsed := s₂.slotsUsed } : State) L mc ms := by
      refine ⟨?_, q2, q3, q4, q5, q6⟩
      obtain ⟨t, ht, -⟩ := State.frames_cons hr
      show ({ U with heap := s₂.heap, slotsUsed := s₂.slotsUsed } : State) = { U.setFrames U.frames with heap := s₂.heap, slotsUsed := s₂.slotsUsed }
      rw [State.setFrames_self ht]
    subst hg
    refine Or.inr ⟨q, ⟨(({ U with heap := s₂.heap, slotsUsed := s₂.slotsUsed } : State).setVm s₂.vm), Ls ++ L, c0 + mc, s0 + ms⟩,
      ⟨X.admits, X.cas, X.clock, X.frames, X.room, X.hears, X.method, X.code, (X.here.setHeapUsed s₂.heap s₂.slotsUsed).setVm hW'.alike, X.tail, State.WarmedH.trans X.warmed hW', X.limits, X.bytes, X.same.trans (hsame.setVm s.vm)⟩,
      ⟨g, mk, s₂, L, E, ce, rfl, rfl, hx, hce, hcv, hcl, rfl, hL, rfl, rfl⟩, ?_⟩
    show Steps p.tables e below _ (((({ U with heap := s₂.heap, slotsUsed := s₂.slotsUsed } : State).setVm s₂.vm).setTop g).pushFrame (.throwing q))
    rw [← hs₂]
    exact hsteps
end Payer
section Calls
variable {p : Program} {l : Launch} {e : Env} {R : Room} {s : State} {m : MethodId} {args : Array Value} {below : List Frame} {meth : Method} {c : Code} {T : State} {locs : List Loc} {cells slots : Nat}
theorem vx_callV (X : Stand p l e R s m args below meth c T locs cells slots) (hexec : p.tables.exec = Jvm.exec) {own C : String} {index : Nat} {y : MethodName} {bytes : ByteArray} {maxL : Nat} {ret : Option FieldType}
    (hown : s.vm.findClass own = some m.cls) (hlink : (Cond.methodLink own index y).before args s = true) (hinst : (Cond.instanceMethod y).before args s = true) (hsel : (Cond.selects C y y).before args s = true)
    (hcode : (Cond.code y bytes maxL ret).before args s = true) (hy : y.cls ≠ "java/lang/invoke/MethodHandle" ∧ y.cls ≠ "java/lang/invoke/VarHandle")
    {W9 : Nat} {Pre : Pt → Array Value → Prop} {Post : Pt → Array Value → Option Value → Pt → Prop} {PostX : Pt → Array Value → Addr → Pt → Prop} (hK : vx_Back l R p e below s args y 3 W9 Pre Post PostX)
    {b : Addr} {cellB : Cell} (hcell : T.heap[b]? = some cellB) (hobj : cellB.vm.isStatics = false) (hcls : s.vm.findClass C = some cellB.cls)
    {g : JFrame} (hg : g.method = m) (hsize : g.locals.size = c.maxLocals) {argsL rest : List Value} (hlen : ∀ sig, parseMethodDescriptor y.desc = some sig → argsL.length = sig.parameters.length)
    (hstack : g.stack = argsL.reverse ++ .ref b :: rest) (hW : 2 * g.monitorRoom + (rest.map fun v => v.category).sum ≤ W9) (hdg : decode c.code g.pc = .ok (.invokevirtual index, 3))
    (hpre : ∀ vm₁, s.WarmedH vm₁ → Pre ⟨T.setVm vm₁, locs, cells, slots⟩ (Value.ref b :: argsL).toArray) :
    (∃ (v : Option Value) (vm₁ : Vm) (B : Pt), s.WarmedH vm₁ ∧ Stand p l e R s m args below meth c B.U B.locs B.cells B.slots ∧ Post ⟨T.setVm vm₁, locs, cells, slots⟩ (Value.ref b :: argsL).toArray v B ∧
      ∀ target, Steps p.tables e below (B.U.setTop { g with pc := g.pc + 3, stack := v.toList ++ rest }) target → Steps p.tables e below (T.setTop g) target) ∨
    (∃ (q : Addr) (vm₁ : Vm) (B : Pt), s.WarmedH vm₁ ∧ Stand p l e R s m args below meth c B.U B.locs B.cells B.slots ∧ PostX ⟨T.setVm vm₁, locs, cells, slots⟩ (Value.ref b :: argsL).toArray q B ∧
      Steps p.tables e below (T.setTop g) ((B.U.setTop { g with stack := rest }).pushFrame (.throwing q))) := by
  obtain ⟨mk, methM, hnamed, hmethM, hstM, habM⟩ := Cond.instanceMethod_spec hinst
  obtain ⟨methM', cM, hmethM', -, -, -, -, -, -, hsigM⟩ := Cond.code_spec hnamed hcode
  cases hmethM.symm.trans hmethM'
  obtain ⟨c2, r2, m2, q1, q2, q3, q4, kP, hkP, hkPi⟩ := Cond.selects_spec hsel
  cases hcls.symm.trans q1
  cases (State.methodFound?_of_named hnamed hy).symm.trans q2
  cases hnamed.symm.trans q3
  have hselP : selectMethod e.platform s.vm cellB.cls mk = .method mk := by rw [Launch.admits_selectMethod X.admits]; exact q4
  obtain ⟨vm₁, X₁, hstep₁⟩ := X.invokevirtual hexec hown hlink hnamed hmethM hstM hkP hkPi hy (a := b) (cell := cellB) hcell
    (fun z h => by rw [h] at hobj; cases hobj) hselP hmethM habM hkP hkPi (g := g) hg (argsL := argsL) (rest := rest) (hlen _ hsigM) hstack hdg
  rcases hK m meth c ⟨T.setVm vm₁, locs, cells, slots⟩ { g with stack := rest } (.invokevirtual index) mk (Value.ref b :: argsL).toArray X₁ hg hsize hdg hW (X₁.named hnamed) (hpre vm₁ X₁.warmed) with ⟨v, B, X', hpost, hsteps⟩ | ⟨q, B, X', hpost, hsteps⟩
  · exact Or.inl ⟨v, vm₁, B, X₁.warmed, X', hpost, fun target h => hstep₁ _ fun acts => by rw [doInvoke_state]; exact hsteps.trans h⟩
  · exact Or.inr ⟨q, vm₁, B, X₁.warmed, X', hpost, hstep₁ _ fun acts => by rw [doInvoke_state]; exact hsteps⟩
theorem vx_callS (X : Stand p l e R s m args below meth c T locs cells slots) (hexec : p.tables.exec = Jvm.exec) {own : String} {index : Nat} {y : MethodName} {bytes : ByteArray} {maxL : Nat} {ret : Option FieldType}
    (hown : s.vm.findClass own = some m.cls) (hlink : (Cond.methodLink own index y).before args s = true) (hstat : (Cond.static y).before args s = true) (hinit : (Cond.initialized y.cls).before args s = true)
    (hcode : (Cond.code y bytes maxL ret).before args s = true) (hy : y.cls ≠ "java/lang/invoke/MethodHandle" ∧ y.cls ≠ "java/lang/invoke/VarHandle")
    {W9 : Nat} {Pre : Pt → Array Value → Prop} {Post : Pt → Array Value → Option Value → Pt → Prop} {PostX : Pt → Array Value → Addr → Pt → Prop} (hK : vx_Back l R p e below s args y 3 W9 Pre Post PostX)
    {g : JFrame} (hg : g.method = m) (hsize : g.locals.size = c.maxLocals) {argsL rest : List Value} (hlen : ∀ sig, parseMethodDescriptor y.desc = some sig → argsL.length = sig.parameters.length)
    (hstack : g.stack = argsL.reverse ++ rest) (hW : 2 * g.monitorRoom + (rest.map fun v => v.category).sum ≤ W9) (hdg : decode c.code g.pc = .ok (.invokestatic index, 3))
    (hpre : ∀ vm₁, s.WarmedH vm₁ → Pre ⟨T.setVm vm₁, locs, cells, slots⟩ argsL.toArray) :
    (∃ (v : Option Value) (vm₁ : Vm) (B : Pt), s.WarmedH vm₁ ∧ Stand p l e R s m args below meth c B.U B.locs B.cells B.slots ∧ Post ⟨T.setVm vm₁, locs, cells, slots⟩ argsL.toArray v B ∧
      ∀ target, Steps p.tables e below (B.U.setTop { g with pc := g.pc + 3, stack := v.toList ++ rest }) target → Steps p.tables e below (T.setTop g) target) ∨
    (∃ (q : Addr) (vm₁ : Vm) (B : Pt), s.WarmedH vm₁ ∧ Stand p l e R s m args below meth c B.U B.locs B.cells B.slots ∧ PostX ⟨T.setVm vm₁, locs, cells, slots⟩ argsL.toArray q B ∧
      Steps p.tables e below (T.setTop g) ((B.U.setTop { g with stack := rest }).pushFrame (.throwing q))) := by
  obtain ⟨mk, hnamed⟩ := Cond.code_named hcode
  obtain ⟨methM, cM, hmethM, -, -, -, -, -, -, hsigM⟩ := Cond.code_spec hnamed hcode
  have hstatic : methM.isStatic = true := Cond.static_spec hnamed hmethM hstat
  obtain ⟨kP, hkP, -⟩ := className_of_methodNamed hnamed
  have hinitP : kP.init = .initialized := Cond.initialized_spec (findClass_of_methodNamed hnamed) hkP hinit
  obtain ⟨vm₁, X₁, hstep₁⟩ := X.invokestatic hexec hown hlink hnamed hmethM hstatic hkP hinitP hy (g := g) hg (argsL := argsL) (rest := rest) (hlen _ hsigM) hstack hdg
  rcases hK m meth c ⟨T.setVm vm₁, locs, cells, slots⟩ { g with stack := rest } (.invokestatic index) mk argsL.toArray X₁ hg hsize hdg hW (X₁.named hnamed) (hpre vm₁ X₁.warmed) with ⟨v, B, X', hpost, hsteps⟩ | ⟨q, B, X', hpost, hsteps⟩
  · exact Or.inl ⟨v, vm₁, B, X₁.warmed, X', hpost, fun target h => hstep₁ _ fun acts => by rw [doInvoke_state]; exact hsteps.trans h⟩
  · exact Or.inr ⟨q, vm₁, B, X₁.warmed, X', hpost, hstep₁ _ fun acts => by rw [doInvoke_state]; exact hsteps⟩
end Calls
theorem vx_cls {s : State} {T : State} {vm₁ : Vm} {E : String} {k : ClassId} (hW : s.WarmedH vm₁) (h : (T.setVm vm₁).vm.findClass E = some k) : s.vm.findClass E = some k := by
  have h1 : vm₁.findClass E = some k := h
  rw [hW.alike.findClass] at h1
  exact h1
/-- the method's frame g, with q thrown over it -/
def vx_W (p : Program) (l : Launch) (e : Env) (R : Room) (s : State) (m : MethodId) (args : Array Value) (below : List Frame) (meth : Method) (c : Code) (H : Heap) (locs : List Loc) (cells slots : Nat) (Q : State → Prop) (g : JFrame) (q : Addr) : Prop :=
  ∀ T : State, T.heap = H → Stand p l e R s m args below meth c T locs cells slots → ∃ t, Steps p.tables e below ((T.setTop g).pushFrame (.throwing q)) t ∧ Q t
def vx_Run (p : Program) (l : Launch) (e : Env) (R : Room) (s : State) (m : MethodId) (args : Array Value) (below : List Frame) (meth : Method) (c : Code) (H : Heap) (locs : List Loc) (cells slots mc ms : Nat) (g : JFrame) (rest : List Value) (Qa : State → Outcome → State → Prop) (XC : String → State → State → Prop) (free : Addr → Prop) : Prop :=
  ∀ T : State, T.heap = H → Stand p l e R s m args below meth c T locs cells slots →
    (∃ (v : Option Value) (st₀ t T' : State) (L : List Loc), st₀.heap = H ∧ Stand p l e R s m args below meth c T' (locs ++ L) (cells + mc) (slots + ms) ∧ (∀ q ∈ L, free q.base) ∧ T'.heap = t.heap ∧ T'.vm = t.vm ∧ Qa st₀ (.returned v) t ∧
      Goes p e below T g T' { g with pc := g.pc + 3, stack := v.toList ++ rest }) ∨
    (∃ (q : Addr) (st₀ t T' : State) (L : List Loc) (E : String) (ce : Cell), st₀.heap = H ∧ Stand p l e R s m args below meth c T' (locs ++ L) (cells + mc) (slots + ms) ∧ (∀ z ∈ L, free z.base) ∧ T'.heap = t.heap ∧ T'.vm = t.vm ∧ XC E st₀ t ∧ t.heap[q]? = some ce ∧ ce.vm = .none ∧ s.vm.findClass E = some ce.cls ∧
      Steps p.tables e below (T.setTop g) ((T'.setTop { g with stack := rest }).pushFrame (.throwing q)))
def vx_X {S : Type} (px : S → Prop) (B : String → S → State → Prop) (A : Nat → Prop) : String → State → State → Prop := fun E st t => ∃ u : S, px u ∧ B E u t ∧ va_F A st t
section Runs
variable {p : Program} {l : Launch} {e : Env} {R : Room} {s : State} {m : MethodId} {args : Array Value} {below : List Frame} {meth : Method} {c : Code} {H : Heap} {locs : List Loc} {cells slots : Nat}
variable {y : MethodName} {bytes cc : ByteArray} {maxL nL mc ms n index : Nat} {ret : Option FieldType} {ws : List Cond} {rm : Room} {Pc : Array Value → State → Prop} {Qc : Array Value → State → Outcome → State → Prop} {XC : String → State → State → Prop} {free : Addr → Prop} {Ts : List Cond} {own C : String} {b : Addr} {As rest : List Value} {g : JFrame}
theorem vx_callBack (cb : CallB R s args own index y bytes maxL ret ws rm mc ms n) (hM : vx_Met l y ws rm Pc Qc XC mc ms free) (hbl : FrameBlind Pc) : vx_Back l R p e below s args y 3 8 (PreOf R mc ms Pc) (PostOf Qc mc ms free) (vx_Post XC mc ms free) := by
  obtain ⟨hrc, hrs, hfr, hlo, hws, hcw, -, hini, -⟩ := cb
  exact vx_back (bytes := bytes) (maxL := maxL) (ret := ret) hM hbl hrc hrs hfr hlo hws hcw (fun a' U hW => word_at hW (Or.inl (by first | rfl | simp [Cond.onTables, Cond.keeps, Cond.steady])) hini)
theorem vx_runV (S : CallFix p m c cc nL s args Ts own) (hM : vx_Met l y ws rm Pc Qc XC mc ms free) (cw : CallW R s args own C index y bytes maxL ret ws rm mc ms n) (hp : PreV s H C b Pc As)
    (hg : g.method = m) (hn : As.length = n) (hsize : g.locals.size = nL) (hstack : g.stack = As.reverse ++ .ref b :: rest) (hW : 2 * g.monitorRoom + (rest.map fun v => v.category).sum ≤ 8) (hdg : decode cc g.pc = .ok (.invokevirtual index, 3)) (hf : cells + mc ≤ R.cells ∧ slots + ms ≤ R.slots) :
    vx_Run p l e R s m args below meth c H locs cells slots mc ms g rest (Qc (Value.ref b :: As).toArray) XC free := by
  have hK : vx_Back l R p e below s args y 3 8 (PreOf R mc ms Pc) (PostOf Qc mc ms free) (vx_Post XC mc ms free) := vx_callBack cw.1 hM hp.1
  obtain ⟨⟨-, -, -, -, -, -, hcode, -, hy, hlen, hl⟩, hin, hse⟩ := cw
  obtain ⟨hx, hb, hml, ho, -⟩ := S
  obtain ⟨-, ⟨cellB, hcB, hoB, hclB⟩, hPc⟩ := hp
  intro T hT X
  rcases vx_callV X hx (C := C) (bytes := bytes) (maxL := maxL) (ret := ret) ho hl hin hse hcode hy hK (by rw [hT]; exact hcB) hoB hclB hg (hsize.trans hml.symm) (argsL := As) (rest := rest) (fun sig h => hn.trans (hlen sig h)) hstack hW (by rw [hb]; exact hdg)
    (fun vm₁ hW₁ => ⟨hf.1, hf.2, hPc (T.setVm vm₁) hT hW₁⟩) with ⟨v, vm₁, ⟨U', l2, c2, s2⟩, hW₁, X', ⟨g', mk, t, L, e1, e2, hq, h1, hL, h2, h3⟩, st⟩ | ⟨q, vm₁, ⟨U', l2, c2, s2⟩, hW₁, X', ⟨g', mk, t, L, E, ce, e1, e2, hq, hce, hcv, hcl, h1, hL, h2, h3⟩, st⟩
  · dsimp only [Pt.U, Pt.locs, Pt.cells, Pt.slots] at X' e1 e2 h1 h2 h3 st
    subst h1; subst h2; subst h3
    exact Or.inl ⟨v, (T.setVm vm₁).calling g' mk (Value.ref b :: As).toArray, t, U', L, hT, X', hL, e1, e2, hq, st⟩
  · dsimp only [Pt.U, Pt.locs, Pt.cells, Pt.slots] at X' e1 e2 h1 h2 h3 st hcl
    subst h1; subst h2; subst h3
    exact Or.inr ⟨q, (T.setVm vm₁).calling g' mk (Value.ref b :: As).toArray, t, U', L, E, ce, hT, X', hL, e1, e2, hq, hce, hcv, vx_cls hW₁ hcl, st⟩
theorem vx_runS (S : CallFix p m c cc nL s args Ts own) (hM : vx_Met l y ws rm Pc Qc XC mc ms free) (cw : CallB R s args own index y bytes maxL ret ws rm mc ms n ∧ (Cond.static y).before args s = true) (hp : PreS s H Pc As)
    (hg : g.method = m) (hn : As.length = n) (hsize : g.locals.size = nL) (hstack : g.stack = As.reverse ++ rest) (hW : 2 * g.monitorRoom + (rest.map fun v => v.category).sum ≤ 8) (hdg : decode cc g.pc = .ok (.invokestatic index, 3)) (hf : cells + mc ≤ R.cells ∧ slots + ms ≤ R.slots) :
    vx_Run p l e R s m args below meth c H locs cells slots mc ms g rest (Qc As.toArray) XC free := by
  have hK : vx_Back l R p e below s args y 3 8 (PreOf R mc ms Pc) (PostOf Qc mc ms free) (vx_Post XC mc ms free) := vx_callBack cw.1 hM hp.1
  obtain ⟨⟨-, -, -, -, -, -, hcode, hini, hy, hlen, hl⟩, hstt⟩ := cw
  obtain ⟨hx, hb, hml, ho, -⟩ := S
  intro T hT X
  rcases vx_callS X hx (bytes := bytes) (maxL := maxL) (ret := ret) ho hl hstt hini hcode hy hK hg (hsize.trans hml.symm) (argsL := As) (rest := rest) (fun sig h => hn.trans (hlen sig h)) hstack hW (by rw [hb]; exact hdg)
    (fun vm₁ hW₁ => ⟨hf.1, hf.2, hp.2 (T.setVm vm₁) hT hW₁⟩) with ⟨v, vm₁, ⟨U', l2, c2, s2⟩, hW₁, X', ⟨g', mk, t, L, e1, e2, hq, h1, hL, h2, h3⟩, st⟩ | ⟨q, vm₁, ⟨U', l2, c2, s2⟩, hW₁, X', ⟨g', mk, t, L, E, ce, e1, e2, hq, hce, hcv, hcl, h1, hL, h2, h3⟩, st⟩
  · dsimp only [Pt.U, Pt.locs, Pt.cells, Pt.slots] at X' e1 e2 h1 h2 h3 st
    subst h1; subst h2; subst h3
    exact Or.inl ⟨v, (T.setVm vm₁).calling g' mk As.toArray, t, U', L, hT, X', hL, e1, e2, hq, st⟩
  · dsimp only [Pt.U, Pt.locs, Pt.cells, Pt.slots] at X' e1 e2 h1 h2 h3 st hcl
    subst h1; subst h2; subst h3
    exact Or.inr ⟨q, (T.setVm vm₁).calling g' mk As.toArray, t, U', L, E, ce, hT, X', hL, e1, e2, hq, hce, hcv, vx_cls hW₁ hcl, st⟩
end Runs
section Rows
variable {p : Program} {l : Launch} {e : Env} {R : Room} {s : State} {m : MethodId} {args : Array Value} {below : List Frame} {meth : Method} {c : Code} {H : Heap} {locs : List Loc} {cells slots : Nat} {Q : State → Prop}
variable {mc ms : Nat} {free : Addr → Prop} {A0 A1 : Nat → Prop} {H0 : Heap} {a : Array Value} {pc : Nat} {ls : Array Slot} {st0 rest : List Value}
theorem vx_keep {st₀ t T' : State} {L : List Loc} (h0 : st₀.heap = H) (e1 : T'.heap = t.heap) (hS : va_S A0 H0 H locs) (hA : ∀ q, q < H.size → A1 q → A0 q) (hf : ∀ q, free q → A0 q) (hL : ∀ q ∈ L, free q.base) (hF : va_F A1 st₀ t) :
    H.size ≤ T'.heap.size ∧ (∀ q : Nat, q < H.size → ¬ A1 q → T'.heap[q]? = H[q]?) ∧ va_S A0 H0 T'.heap (locs ++ L) := by
  obtain ⟨hz, hk⟩ := hF
  rw [h0] at hz hk
  exact ⟨by rw [e1]; exact hz, fun q h1 h2 => by rw [e1]; exact hk q h1 h2,
    ⟨Nat.le_trans hS.1 (by rw [e1]; exact hz), fun q h1 h2 => by rw [e1, hk q (Nat.lt_of_lt_of_le h1 hS.1) (fun z => h2 (hA q (Nat.lt_of_lt_of_le h1 hS.1) z))]; exact hS.2.1 q h1 h2, fun q hq => by
      rcases List.mem_append.mp hq with h | h
      · exact hS.2.2 q h
      · exact hf _ (hL q h)⟩⟩
theorem vx_calli {S SX : Type} {post : Int32 → S → Prop} {px : SX → Prop} {B : S → State → Prop} {BX : String → SX → State → Prop} {AX : Nat → Prop} (hr : vx_Run p l e R s m args below meth c H locs cells slots mc ms (F0 m pc ls st0) rest (va_Qi post B A1 a) (vx_X px BX AX) free) (hS : va_S A0 H0 H locs) (hA : ∀ q, q < H.size → A1 q → A0 q) (hf : ∀ q, free q → A0 q) (hAX : ∀ q, q < H.size → AX q → A0 q)
    (kx : ∀ (E : String) (ce : Cell) (q9 : Addr) (u : SX) (t : State) (H1 : Heap) (locs1 : List Loc), t.heap = H1 → s.vm.Alike t.vm → px u → BX E u t → H.size ≤ H1.size → (∀ q : Nat, q < H.size → ¬ AX q → H1[q]? = H[q]?) → va_S A0 H0 H1 locs1 → H1[q9]? = some ce → ce.vm = .none → s.vm.findClass E = some ce.cls → vx_W p l e R s m args below meth c H1 locs1 (cells + mc) (slots + ms) Q (F0 m pc ls rest) q9)
    (kk : ∀ (r : Int32) (u : S) (t : State) (H1 : Heap) (locs1 : List Loc), t.heap = H1 → s.vm.Alike t.vm → post r u → B u t → H.size ≤ H1.size → (∀ q : Nat, q < H.size → ¬ A1 q → H1[q]? = H[q]?) → va_S A0 H0 H1 locs1 → W p l e R s m args below meth c H1 locs1 (cells + mc) (slots + ms) Q (F0 m (pc + 3) ls (.int r :: rest))) : W p l e R s m args below meth c H locs cells slots Q (F0 m pc ls st0) := by
  intro T hT X
  rcases hr T hT X with ⟨v, st₀, t, T', L, h0, X', hL, e1, e2, ⟨⟨r, u, hv, hp, hb⟩, hF⟩, st⟩ | ⟨q, st₀, t, T', L, E, ce, h0, X', hL, e1, e2, ⟨u, hp, hb, hF⟩, hce, hcv, hcl, st⟩
  · cases hv
    obtain ⟨k1, k2, k3⟩ := vx_keep h0 e1 hS hA hf hL hF
    obtain ⟨t2, a1, b1⟩ := kk r u t T'.heap (locs ++ L) e1.symm (by rw [← e2]; exact X'.warmed.alike) hp hb k1 k2 k3 T' rfl X'
    exact ⟨t2, st t2 a1, b1⟩
  · obtain ⟨k1, k2, k3⟩ := vx_keep h0 e1 hS hAX hf hL hF
    obtain ⟨t2, a1, b1⟩ := kx E ce q u t T'.heap (locs ++ L) e1.symm (by rw [← e2]; exact X'.warmed.alike) hp hb k1 k2 k3 (by rw [e1]; exact hce) hcv hcl T' rfl X'
    exact ⟨t2, st.trans a1, b1⟩
theorem vx_calll {S SX : Type} {post : Int64 → S → Prop} {px : SX → Prop} {B : S → State → Prop} {BX : String → SX → State → Prop} {AX : Nat → Prop} (hr : vx_Run p l e R s m args below meth c H locs cells slots mc ms (F0 m pc ls st0) rest (va_Ql post B A1 a) (vx_X px BX AX) free) (hS : va_S A0 H0 H locs) (hA : ∀ q, q < H.size → A1 q → A0 q) (hf : ∀ q, free q → A0 q) (hAX : ∀ q, q < H.size → AX q → A0 q)
    (kx : ∀ (E : String) (ce : Cell) (q9 : Addr) (u : SX) (t : State) (H1 : Heap) (locs1 : List Loc), t.heap = H1 → s.vm.Alike t.vm → px u → BX E u t → H.size ≤ H1.size → (∀ q : Nat, q < H.size → ¬ AX q → H1[q]? = H[q]?) → va_S A0 H0 H1 locs1 → H1[q9]? = some ce → ce.vm = .none → s.vm.findClass E = some ce.cls → vx_W p l e R s m args below meth c H1 locs1 (cells + mc) (slots + ms) Q (F0 m pc ls rest) q9)
    (kk : ∀ (r : Int64) (u : S) (t : State) (H1 : Heap) (locs1 : List Loc), t.heap = H1 → s.vm.Alike t.vm → post r u → B u t → H.size ≤ H1.size → (∀ q : Nat, q < H.size → ¬ A1 q → H1[q]? = H[q]?) → va_S A0 H0 H1 locs1 → W p l e R s m args below meth c H1 locs1 (cells + mc) (slots + ms) Q (F0 m (pc + 3) ls (.long r :: rest))) : W p l e R s m args below meth c H locs cells slots Q (F0 m pc ls st0) := by
  intro T hT X
  rcases hr T hT X with ⟨v, st₀, t, T', L, h0, X', hL, e1, e2, ⟨⟨r, u, hv, hp, hb⟩, hF⟩, st⟩ | ⟨q, st₀, t, T', L, E, ce, h0, X', hL, e1, e2, ⟨u, hp, hb, hF⟩, hce, hcv, hcl, st⟩
  · cases hv
    obtain ⟨k1, k2, k3⟩ := vx_keep h0 e1 hS hA hf hL hF
    obtain ⟨t2, a1, b1⟩ := kk r u t T'.heap (locs ++ L) e1.symm (by rw [← e2]; exact X'.warmed.alike) hp hb k1 k2 k3 T' rfl X'
    exact ⟨t2, st t2 a1, b1⟩
  · obtain ⟨k1, k2, k3⟩ := vx_keep h0 e1 hS hAX hf hL hF
    obtain ⟨t2, a1, b1⟩ := kx E ce q u t T'.heap (locs ++ L) e1.symm (by rw [← e2]; exact X'.warmed.alike) hp hb k1 k2 k3 (by rw [e1]; exact hce) hcv hcl T' rfl X'
    exact ⟨t2, st.trans a1, b1⟩
theorem vx_callf {S SX : Type} {post : UInt32 → S → Prop} {px : SX → Prop} {B : S → State → Prop} {BX : String → SX → State → Prop} {AX : Nat → Prop} (hr : vx_Run p l e R s m args below meth c H locs cells slots mc ms (F0 m pc ls st0) rest (va_Qf post B A1 a) (vx_X px BX AX) free) (hS : va_S A0 H0 H locs) (hA : ∀ q, q < H.size → A1 q → A0 q) (hf : ∀ q, free q → A0 q) (hAX : ∀ q, q < H.size → AX q → A0 q)
    (kx : ∀ (E : String) (ce : Cell) (q9 : Addr) (u : SX) (t : State) (H1 : Heap) (locs1 : List Loc), t.heap = H1 → s.vm.Alike t.vm → px u → BX E u t → H.size ≤ H1.size → (∀ q : Nat, q < H.size → ¬ AX q → H1[q]? = H[q]?) → va_S A0 H0 H1 locs1 → H1[q9]? = some ce → ce.vm = .none → s.vm.findClass E = some ce.cls → vx_W p l e R s m args below meth c H1 locs1 (cells + mc) (slots + ms) Q (F0 m pc ls rest) q9)
    (kk : ∀ (r : UInt32) (u : S) (t : State) (H1 : Heap) (locs1 : List Loc), t.heap = H1 → s.vm.Alike t.vm → post r u → B u t → H.size ≤ H1.size → (∀ q : Nat, q < H.size → ¬ A1 q → H1[q]? = H[q]?) → va_S A0 H0 H1 locs1 → W p l e R s m args below meth c H1 locs1 (cells + mc) (slots + ms) Q (F0 m (pc + 3) ls (.float r :: rest))) : W p l e R s m args below meth c H locs cells slots Q (F0 m pc ls st0) := by
  intro T hT X
  rcases hr T hT X with ⟨v, st₀, t, T', L, h0, X', hL, e1, e2, ⟨⟨r, u, hv, hp, hb⟩, hF⟩, st⟩ | ⟨q, st₀, t, T', L, E, ce, h0, X', hL, e1, e2, ⟨u, hp, hb, hF⟩, hce, hcv, hcl, st⟩
  · cases hv
    obtain ⟨k1, k2, k3⟩ := vx_keep h0 e1 hS hA hf hL hF
    obtain ⟨t2, a1, b1⟩ := kk r u t T'.heap (locs ++ L) e1.symm (by rw [← e2]; exact X'.warmed.alike) hp hb k1 k2 k3 T' rfl X'
    exact ⟨t2, st t2 a1, b1⟩
  · obtain ⟨k1, k2, k3⟩ := vx_keep h0 e1 hS hAX hf hL hF
    obtain ⟨t2, a1, b1⟩ := kx E ce q u t T'.heap (locs ++ L) e1.symm (by rw [← e2]; exact X'.warmed.alike) hp hb k1 k2 k3 (by rw [e1]; exact hce) hcv hcl T' rfl X'
    exact ⟨t2, st.trans a1, b1⟩
theorem vx_calld {S SX : Type} {post : UInt64 → S → Prop} {px : SX → Prop} {B : S → State → Prop} {BX : String → SX → State → Prop} {AX : Nat → Prop} (hr : vx_Run p l e R s m args below meth c H locs cells slots mc ms (F0 m pc ls st0) rest (va_Qd post B A1 a) (vx_X px BX AX) free) (hS : va_S A0 H0 H locs) (hA : ∀ q, q < H.size → A1 q → A0 q) (hf : ∀ q, free q → A0 q) (hAX : ∀ q, q < H.size → AX q → A0 q)
    (kx : ∀ (E : String) (ce : Cell) (q9 : Addr) (u : SX) (t : State) (H1 : Heap) (locs1 : List Loc), t.heap = H1 → s.vm.Alike t.vm → px u → BX E u t → H.size ≤ H1.size → (∀ q : Nat, q < H.size → ¬ AX q → H1[q]? = H[q]?) → va_S A0 H0 H1 locs1 → H1[q9]? = some ce → ce.vm = .none → s.vm.findClass E = some ce.cls → vx_W p l e R s m args below meth c H1 locs1 (cells + mc) (slots + ms) Q (F0 m pc ls rest) q9)
    (kk : ∀ (r : UInt64) (u : S) (t : State) (H1 : Heap) (locs1 : List Loc), t.heap = H1 → s.vm.Alike t.vm → post r u → B u t → H.size ≤ H1.size → (∀ q : Nat, q < H.size → ¬ A1 q → H1[q]? = H[q]?) → va_S A0 H0 H1 locs1 → W p l e R s m args below meth c H1 locs1 (cells + mc) (slots + ms) Q (F0 m (pc + 3) ls (.double r :: rest))) : W p l e R s m args below meth c H locs cells slots Q (F0 m pc ls st0) := by
  intro T hT X
  rcases hr T hT X with ⟨v, st₀, t, T', L, h0, X', hL, e1, e2, ⟨⟨r, u, hv, hp, hb⟩, hF⟩, st⟩ | ⟨q, st₀, t, T', L, E, ce, h0, X', hL, e1, e2, ⟨u, hp, hb, hF⟩, hce, hcv, hcl, st⟩
  · cases hv
    obtain ⟨k1, k2, k3⟩ := vx_keep h0 e1 hS hA hf hL hF
    obtain ⟨t2, a1, b1⟩ := kk r u t T'.heap (locs ++ L) e1.symm (by rw [← e2]; exact X'.warmed.alike) hp hb k1 k2 k3 T' rfl X'
    exact ⟨t2, st t2 a1, b1⟩
  · obtain ⟨k1, k2, k3⟩ := vx_keep h0 e1 hS hAX hf hL hF
    obtain ⟨t2, a1, b1⟩ := kx E ce q u t T'.heap (locs ++ L) e1.symm (by rw [← e2]; exact X'.warmed.alike) hp hb k1 k2 k3 (by rw [e1]; exact hce) hcv hcl T' rfl X'
    exact ⟨t2, st.trans a1, b1⟩
theorem vx_callv {S SX : Type} {post : S → Prop} {px : SX → Prop} {B : S → State → Prop} {BX : String → SX → State → Prop} {AX : Nat → Prop} (hr : vx_Run p l e R s m args below meth c H locs cells slots mc ms (F0 m pc ls st0) rest (va_Qv post B A1 a) (vx_X px BX AX) free) (hS : va_S A0 H0 H locs) (hA : ∀ q, q < H.size → A1 q → A0 q) (hf : ∀ q, free q → A0 q) (hAX : ∀ q, q < H.size → AX q → A0 q)
    (kx : ∀ (E : String) (ce : Cell) (q9 : Addr) (u : SX) (t : State) (H1 : Heap) (locs1 : List Loc), t.heap = H1 → s.vm.Alike t.vm → px u → BX E u t → H.size ≤ H1.size → (∀ q : Nat, q < H.size → ¬ AX q → H1[q]? = H[q]?) → va_S A0 H0 H1 locs1 → H1[q9]? = some ce → ce.vm = .none → s.vm.findClass E = some ce.cls → vx_W p l e R s m args below meth c H1 locs1 (cells + mc) (slots + ms) Q (F0 m pc ls rest) q9)
    (kk : ∀ (u : S) (t : State) (H1 : Heap) (locs1 : List Loc), t.heap = H1 → s.vm.Alike t.vm → post u → B u t → H.size ≤ H1.size → (∀ q : Nat, q < H.size → ¬ A1 q → H1[q]? = H[q]?) → va_S A0 H0 H1 locs1 → W p l e R s m args below meth c H1 locs1 (cells + mc) (slots + ms) Q (F0 m (pc + 3) ls (rest))) : W p l e R s m args below meth c H locs cells slots Q (F0 m pc ls st0) := by
  intro T hT X
  rcases hr T hT X with ⟨v, st₀, t, T', L, h0, X', hL, e1, e2, ⟨⟨u, hv, hp, hb⟩, hF⟩, st⟩ | ⟨q, st₀, t, T', L, E, ce, h0, X', hL, e1, e2, ⟨u, hp, hb, hF⟩, hce, hcv, hcl, st⟩
  · cases hv
    obtain ⟨k1, k2, k3⟩ := vx_keep h0 e1 hS hA hf hL hF
    obtain ⟨t2, a1, b1⟩ := kk u t T'.heap (locs ++ L) e1.symm (by rw [← e2]; exact X'.warmed.alike) hp hb k1 k2 k3 T' rfl X'
    exact ⟨t2, st t2 a1, b1⟩
  · obtain ⟨k1, k2, k3⟩ := vx_keep h0 e1 hS hAX hf hL hF
    obtain ⟨t2, a1, b1⟩ := kx E ce q u t T'.heap (locs ++ L) e1.symm (by rw [← e2]; exact X'.warmed.alike) hp hb k1 k2 k3 (by rw [e1]; exact hce) hcv hcl T' rfl X'
    exact ⟨t2, st.trans a1, b1⟩
/-- caught by the row x of this method's table; the rows ahead don't take it -/
theorem vx_catch {own name : String} {E : String} {ce : Cell} {q : Addr} (hown : s.vm.findClass own = some m.cls) (pre : List ExceptionTableEntry) (x : ExceptionTableEntry) (suf : List ExceptionTableEntry) (hsplit : c.exceptionTable.toList = pre ++ x :: suf)
    (hpass : ∀ z ∈ pre, covers z pc = false ∨ (z.catchType ≠ 0 ∧ ∃ nm : String, (Cond.classLink own z.catchType nm).before args s = true ∧ va_Nc E nm s)) (hx : covers x pc = true) (h0 : x.catchType ≠ 0)
    (hlink : (Cond.classLink own x.catchType name).before args s = true) (hcast : (Cond.castable E name).before args s = true) (hcell : H[q]? = some ce) (hv : ce.vm = .none) (hcl : s.vm.findClass E = some ce.cls)
    (kk : W p l e R s m args below meth c H locs cells slots Q (F0 m x.handlerPc ls [.ref q])) : vx_W p l e R s m args below meth c H locs cells slots Q (F0 m pc ls rest) q := by
  intro T hT X
  have hpl : e.platform.magicAccessors = ({} : Platform).magicAccessors := by rw [X.admits.platform]
  obtain ⟨c3, c4, hc3, hc4, hasg⟩ := Cond.castable_spec hcast
  cases Option.some.inj (hc3.symm.trans hcl)
  obtain ⟨c5, hc5, hcl5⟩ := Cond.classLink_spec hown hlink e.platform hpl
  cases Option.some.inj (hc4.symm.trans hc5)
  obtain ⟨vm', X', st⟩ := X.thenCaughtThrough q (g := F0 m pc ls rest) rfl (Steps.refl _) (by rw [hT]; exact hcell) (by rw [hv]; rfl) (by obtain ⟨k9, h9, -⟩ := Vm.findClass_spec hcl; exact ⟨k9, h9⟩) pre x suf hsplit
    (fun z hz => by
      rcases hpass z hz with h | ⟨hz0, nm, hl1, hn1⟩
      · exact Or.inl h
      · obtain ⟨c6, hc6, hcl6⟩ := Cond.classLink_spec hown hl1 e.platform hpl
        obtain ⟨a8, b8, h1, h2, h3⟩ := hn1
        cases Option.some.inj (h1.symm.trans hcl)
        cases Option.some.inj (h2.symm.trans hc6)
        exact Or.inr ⟨hz0, _, hcl6, h3⟩) hx (Or.inr ⟨h0, c4, hcl5, hasg⟩)
  obtain ⟨t, a1, b1⟩ := kk (T.setVm vm') hT X'
  exact ⟨t, st.trans a1, b1⟩
end Rows
section Ends
variable {p : Program} {l : Launch} {e : Env} {R : Room} {s : State} {m : MethodId} {args : Array Value} {below : List Frame} {meth : Method} {c : Code} {H : Heap} {locs : List Loc} {cells slots : Nat} {Q : State → Prop}
variable {mc ms : Nat} {free : Addr → Prop} {A0 A1 : Nat → Prop} {H0 : Heap} {a : Array Value} {ls : Array Slot} {st0 rest : List Value}
variable {Qc : Array Value → State → Outcome → State → Prop} {XC : String → State → State → Prop}
/-- what a body that may throw owes at its end -/
def vx_MQ (below : List Frame) (Qc : Array Value → State → Outcome → State → Prop) (XC : String → State → State → Prop) (a : Array Value) (s : State) (mc ms : Nat) (free : Addr → Prop) : State → Prop := fun t =>
  ∃ o, t.status = .running ∧ Ended t below o ∧ vx_Q Qc XC mc ms free a s o t
theorem vx_ret {g : JFrame} {mc ms : Nat} (k : W p l e R s m args below meth c H locs cells slots (MQ below Qc args s mc ms free) g) : W p l e R s m args below meth c H locs cells slots (vx_MQ below Qc XC args s mc ms free) g := by
  intro T hT X
  obtain ⟨t, a1, o, b1, b2, b3, b4⟩ := k T hT X
  exact ⟨t, a1, o, b1, b2, Or.inl ⟨b3, b4⟩⟩
/-- not caught here: it goes on to the caller -/
theorem vx_widen {g : JFrame} {q : Addr} {k n : Nat} (h1 : cells ≤ k) (h2 : slots ≤ n) (kk : vx_W p l e R s m args below meth c H locs k n Q g q) : vx_W p l e R s m args below meth c H locs cells slots Q g q := fun T hT X => kk T hT (stand_widen X h1 h2)
theorem vx_out {pc : Nat} {E : String} {ce : Cell} {q : Addr} {mc ms : Nat} (hout : ∀ x ∈ c.exceptionTable.toList, covers x pc = false) (hlocks : meth.locks = false) (hcell : H[q]? = some ce) (hv : ce.vm = .none) (hcl : s.vm.findClass E = some ce.cls)
    (hx : ∀ t : State, t.heap = H → s.vm.Alike t.vm → XC E s t) (hf : ∀ z ∈ locs, free z.base) (hc : cells ≤ mc) (hs : slots ≤ ms) :
    vx_W p l e R s m args below meth c H locs cells slots (vx_MQ below Qc XC args s mc ms free) (F0 m pc ls rest) q := by
  intro T hT X
  obtain ⟨st1, hrun, hend, hW, hsm⟩ := X.leaveThrown q (g := F0 m pc ls rest) rfl rfl rfl hout hlocks
  have hcell9 : (T.setFrames (.throwing q :: below)).heap[q]? = some ce := by
    show T.heap[q]? = some ce
    rw [hT]; exact hcell
  exact ⟨_, st1, .threw q, hrun, hend, Or.inr ⟨q, rfl, E, ce, locs, hx _ hT hW.alike, hcell9, hv, hcl, hW, hsm.mono hc hs, hf⟩⟩
theorem vx_frame {U : State} {k n : Nat} (h : s.sameButNew ({ U with vm := s.vm } : State) locs k n) : s.heap.size ≤ U.heap.size ∧ ∀ q : Nat, q < s.heap.size → (∀ z ∈ locs, z.base ≠ q) → U.heap[q]? = s.heap[q]? := by
  obtain ⟨-, h2, -, -, -, h6⟩ := h
  refine ⟨h2, fun q hq hz => ?_⟩
  obtain ⟨c9, e1, e2, e3, e4⟩ := h6 q _ (Array.getElem?_eq_getElem hq)
  have hs : c9.slots = (s.heap[q]).slots := Array.ext_getElem? fun i => e4 i fun hm => hz _ hm rfl
  have h9 : c9 = s.heap[q] := by
    rw [hs] at e2
    exact e2
  have e5 : U.heap[q]? = some c9 := e1
  rw [e5, h9, Array.getElem?_eq_getElem hq]
/-- the words of a throw but the four that speak of the heap -/
def vx_no (w : Cond) : Bool := decide (w ≠ .isRef (.static Bundle.tN "UNASSIGNED_STACK" Bundle.steD)) && decide (w ≠ .isRef (.static Bundle.tN "SUPPRESSED_SENTINEL" Bundle.listD)) && decide (w ≠ .laysStatic Bundle.tN "UNASSIGNED_STACK" Bundle.steD) && decide (w ≠ .laysStatic Bundle.tN "SUPPRESSED_SENTINEL" Bundle.listD)
def vx_at0 (own : String) (ic : Nat) (X : String) (names : List String) : List Cond := (Bundle.ownAtoms0 own ic X names).filter vx_no
def vx_atS (own : String) (ic : Nat) (X : String) (names : List String) : List Cond := (Bundle.ownAtoms own ic X names).filter vx_no
/-- a word that the tables alone decide, or a good one -/
def vx_ot (w : Cond) : Bool := w.onTables || goodWord w
theorem vx_ot_at {args a' : Array Value} {s U : State} {w : Cond} (hW : s.WarmedH U.vm) (hvm : s.vm = U.vm) (hg : vx_ot w = true) (h : w.before args s = true) : w.before a' U = true := by
  simp only [vx_ot, Bool.or_eq_true] at hg
  rcases hg with hg | hg
  · exact va_tabs hg hvm h
  · exact word_at hW (good_of_word hg) h
/-- a list's words: the good ones out of the method's own list, the others by premises of their own -/
theorem vx_hat {args : Array Value} {s : State} {L B : List Cond} (h1 : ∀ w ∈ L.filter goodWord, w.before args s = true) (h2 : ∀ w ∈ L.filter (fun w => !goodWord w), w ∈ B) (h3 : ∀ w ∈ B, w.before args s = true) : ∀ w ∈ L, w.before args s = true := by
  intro w hw
  by_cases g : goodWord w = true
  · exact h1 w (List.mem_filter.mpr ⟨hw, g⟩)
  · refine h3 w (h2 w (List.mem_filter.mpr ⟨hw, ?_⟩))
    show (!goodWord w) = true
    cases hgw : goodWord w
    · rfl
    · exact absurd hgw g
theorem vx_c {args : Array Value} {s : State} {w : Cond} {B : List Cond} (h : w.before args s = true) (t : ∀ w ∈ B, w.before args s = true) : ∀ w' ∈ w :: B, w'.before args s = true := fun w' h' => (List.mem_cons.mp h').elim (fun e => by rw [e]; exact h) (t w')
theorem vx_n {args : Array Value} {s : State} : ∀ w ∈ ([] : List Cond), w.before args s = true := fun _ h => nomatch h
theorem vx_own {args : Array Value} {s : State} {L : List Cond} (h1 : ∀ w ∈ L.filter vx_no, w.before args s = true)
    (hU : (Cond.isRef (.static Bundle.tN "UNASSIGNED_STACK" Bundle.steD)).before args s = true) (hN : (Cond.isRef (.static Bundle.tN "SUPPRESSED_SENTINEL" Bundle.listD)).before args s = true)
    (lU : (Cond.laysStatic Bundle.tN "UNASSIGNED_STACK" Bundle.steD).before args s = true) (lN : (Cond.laysStatic Bundle.tN "SUPPRESSED_SENTINEL" Bundle.listD).before args s = true) : ∀ w ∈ L, w.before args s = true := by
  intro w hw
  by_cases e1 : w = .isRef (.static Bundle.tN "UNASSIGNED_STACK" Bundle.steD)
  · rw [e1]; exact hU
  · by_cases e2 : w = .isRef (.static Bundle.tN "SUPPRESSED_SENTINEL" Bundle.listD)
    · rw [e2]; exact hN
    · by_cases e3 : w = .laysStatic Bundle.tN "UNASSIGNED_STACK" Bundle.steD
      · rw [e3]; exact lU
      · by_cases e4 : w = .laysStatic Bundle.tN "SUPPRESSED_SENTINEL" Bundle.listD
        · rw [e4]; exact lN
        · exact h1 w (List.mem_filter.mpr ⟨hw, by unfold vx_no; rw [decide_eq_true e1, decide_eq_true e2, decide_eq_true e3, decide_eq_true e4]; rfl⟩)
/-- where a static field lies, its class's statics cell in H -/
def vx_L (C n d : String) (A : Nat → Prop) (U : State) (H : Heap) : Prop := ∃ (c : ClassId) (k : Class) (i : Nat) (f : Field) (a : Nat) (cell : Cell), U.vm.findClass C = some c ∧ U.fieldFound? C n d = some (c, k, i, f) ∧ f.isStatic = true ∧ k.statics = some a ∧ H[a]? = some cell ∧ cell.vm.isStatics = true ∧ cell.cls = c ∧ f.slot < cell.slots.size ∧ k.staticTypes[f.slot]? = some f.type ∧ ¬ A a
theorem vx_L.moved {C n d : String} {A : Nat → Prop} {u U : State} {H : Heap} (hvm : u.vm.Alike U.vm) (h : vx_L C n d A u H) : vx_L C n d A U H := by
  obtain ⟨c, k, i, f, a, cell, h1, h2, h3, h4, h5, h6, h7, h8, h9, h10⟩ := h
  obtain ⟨k', hi', he⟩ := State.fieldFound?_setVm hvm h2
  exact ⟨c, k', i, f, a, cell, by rw [hvm.findClass]; exact h1, hi', h3, by rw [he]; exact h4, h5, h6, h7, h8, by rw [he]; exact h9, h10⟩
theorem vx_L.kept {C n d : String} {A : Nat → Prop} {U : State} {H H1 : Heap} (h : vx_L C n d A U H) (hq : ∀ a : Nat, a < H.size → ¬ A a → H1[a]? = H[a]?) : vx_L C n d A U H1 := by
  obtain ⟨c, k, i, f, a, cell, h1, h2, h3, h4, h5, h6, h7, h8, h9, h10⟩ := h
  exact ⟨c, k, i, f, a, cell, h1, h2, h3, h4, by rw [hq a (Array.getElem?_eq_some_iff.mp h5).1 h10]; exact h5, h6, h7, h8, h9, h10⟩
theorem vx_L.narrow {C n d : String} {A B : Nat → Prop} {U : State} {H : Heap} (h : vx_L C n d A U H) (hAB : ∀ q, B q → A q) : vx_L C n d B U H := by
  obtain ⟨c, k, i, f, a, cell, h1, h2, h3, h4, h5, h6, h7, h8, h9, h10⟩ := h
  exact ⟨c, k, i, f, a, cell, h1, h2, h3, h4, h5, h6, h7, h8, h9, fun z => h10 (hAB _ z)⟩
theorem vx_L.word {C n d : String} {A : Nat → Prop} {s : State} {args : Array Value} (h : vx_L C n d A s s.heap) : (Cond.laysStatic C n d).before args s = true := by
  obtain ⟨c, k, i, f, a, cell, h1, h2, h3, h4, h5, h6, h7, h8, h9, -⟩ := h
  show (Cond.laysStatic C n d).holds args s none s [] = true
  exact Cond.laysStatic_of h1 h2 h3 h4 h5 h6 h7 h8 h9
/-- .. and what it holds: null or some reference -/
def vx_Zq (C n d : String) (A : Nat → Prop) (U : State) (H : Heap) : Prop := va_Zq C n d A U H ∧ vx_L C n d A U H
theorem vx_Zq.moved {C n d : String} {A : Nat → Prop} {u U : State} {H : Heap} (hvm : u.vm.Alike U.vm) (h : vx_Zq C n d A u H) : vx_Zq C n d A U H := ⟨va_Zq.moved hvm h.1, vx_L.moved hvm h.2⟩
theorem vx_Zq.kept {C n d : String} {A : Nat → Prop} {U : State} {H H1 : Heap} (h : vx_Zq C n d A U H) (hq : ∀ a : Nat, a < H.size → ¬ A a → H1[a]? = H[a]?) : vx_Zq C n d A U H1 := ⟨va_Zq.kept h.1 hq, vx_L.kept h.2 hq⟩
theorem vx_Zq.narrow {C n d : String} {A B : Nat → Prop} {U : State} {H : Heap} (h : vx_Zq C n d A U H) (hAB : ∀ q, B q → A q) : vx_Zq C n d B U H := ⟨va_Zq.narrow h.1 hAB, vx_L.narrow h.2 hAB⟩
theorem vx_Zqof {args : Array Value} {s : State} {C n d : String} {A : Nat → Prop} (hl : (Cond.laysStatic C n d).before args s = true) (hini : (Cond.initialized C).before args s = true) (h : (Cond.isRef (.static C n d)).before args s = true) (hA : ∀ a : Nat, a < s.heap.size → ¬ A a) : vx_Zq C n d A s s.heap := by
  refine ⟨va_Zqof hl hini h hA, ?_⟩
  obtain ⟨c, k, i, f, a, cell, h1, h2, h3, h4, h5, h6, h7, h8, h9⟩ := Cond.laysStatic_spec hl
  exact ⟨c, k, i, f, a, cell, h1, h2, h3, h4, h5, h6, h7, h8, h9, hA a (Array.getElem?_eq_some_iff.mp h5).1⟩
theorem vx_isRef {C n d : String} {v : Value} {A : Nat → Prop} {s : State} {args : Array Value} (h : va_Z C n d v A s s.heap) (hv : v.isRef = true) : (Cond.isRef (.static C n d)).before args s = true := by
  obtain ⟨cf, kf, fi, f, a, cell, h1, h2, h3, h4, h5, h6, h7, -⟩ := h
  have he : (Term.static C n d).eval args s none [] s = some v := by
    simp [Term.eval, State.fieldNamed?, h1, h2, h4, h5, h6, h7]
  simp only [Cond.before, Cond.holds, Cond.value, he]
  cases v <;> simp_all [Value.isRef]
theorem vx_isRefq {C n d : String} {A : Nat → Prop} {s : State} {args : Array Value} (h : va_Zq C n d A s s.heap) : (Cond.isRef (.static C n d)).before args s = true := by
  rcases h with h | ⟨t, h⟩
  · exact vx_isRef h rfl
  · exact vx_isRef h rfl
/-- the same frame, seen from here: as if the method were called anew in this heap -/
theorem vx_rebase {T : State} (X : Stand p l e R s m args below meth c T locs cells slots) {R' : Room} (hf : R'.frames ≤ R.frames) (hl : R'.locals ≤ R.locals) (hc : cells + R'.cells ≤ R.cells) (hs : slots + R'.slots ≤ R.slots) :
    Stand p l e R' ((T.setVm s.vm).setFrames (.invoking m args :: below)) m args below meth c T [] 0 0 := by
  have htop : (T.setVm s.vm).topJava?.isSome := X.here.top
  have hF : ((T.setVm s.vm).setFrames (.invoking m args :: below)).frames = .invoking m args :: below := State.frames_setFrames _ (State.cur_lt_of_top htop)
  obtain ⟨g₀, hg0⟩ := Option.isSome_iff_exists.mp htop
  obtain ⟨r, hr⟩ := State.topJava?_eq_some.mp hg0
  have hl9 : e.platform.stackLimits (T.setVm s.vm).me = e.platform.stackLimits s.me := X.limits
  have hb9 : (T.setVm s.vm).me.stackBytes = s.me.stackBytes := X.bytes
  refine ⟨X.admits, X.cas, X.clock, hF, ?_, X.hears, X.method, X.code, X.here, X.tail, X.warmed, ?_, ?_, ?_⟩
  · have h := X.room
    have hU : ((T.setVm s.vm).setFrames (.invoking m args :: below)).localsInUse = s.localsInUse := by
      rw [State.localsInUse_invoking hF (meth := meth) (c := c) X.method X.code, State.localsInUse_invoking X.frames X.method X.code]
    simp only [State.hasRoom, Bool.and_eq_true, decide_eq_true_eq] at h ⊢
    obtain ⟨⟨⟨⟨h1, h2, h3, h4, h5, h6⟩, h7⟩, h8⟩, h9⟩ := h
    rw [X.frames, List.length_cons] at h2 h3
    have q1 := X.heapSize
    have q2 := X.used
    simp only [hF, hU, List.length_cons, State.stackLimits_setFrames, State.stackBytes_setFrames, hl9, hb9]
    refine ⟨⟨⟨⟨by omega, by omega, by omega, by omega, by omega, h6⟩, ?_⟩, ?_⟩, X.book⟩
    · show T.heap.size + R'.cells ≤ e.platform.maxCells
      omega
    · show T.slotsUsed + R'.slots ≤ e.platform.maxSlots
      omega
  · rw [State.stackLimits_setFrames]; rfl
  · rw [State.stackBytes_setFrames]; rfl
  · refine ⟨?_, Nat.le_refl _, Nat.le_refl _, ?_, ?_, fun a c9 h9 => ⟨c9, h9, rfl, rfl, fun _ _ => rfl⟩⟩
    · obtain ⟨t, ht, -⟩ := State.frames_cons hr
      show T.setVm s.vm = { ((T.setVm s.vm).setFrames (.invoking m args :: below)).setFrames (T.setVm s.vm).frames with heap := T.heap, slotsUsed := T.slotsUsed }
      rw [State.setFrames_setFrames, State.setFrames_self ht]
      rfl
    · show T.slotsUsed = T.slotsUsed + ((T.heap.toList.drop T.heap.size).map (·.slots.size)).sum
      rw [List.drop_eq_nil_of_le (Nat.le_of_eq Array.length_toList)]
      rfl
    · show ((T.heap.toList.drop T.heap.size).map (·.slots.size)).sum ≤ 0
      rw [List.drop_eq_nil_of_le (Nat.le_of_eq Array.length_toList)]
      exact Nat.le_refl _
/-- 'throw new E()': new; dup; invokespecial; athrow -/
theorem vx_throw0 {cc : ByteArray} {pc : Nat} (hexec : p.tables.exec = Jvm.exec) (hb : c.code = cc) (hl : l.stackTraces = false) {own cls : String} {names : List String} {ik ic mc ms : Nat} {A : Nat → Prop}
    (hown : s.vm.findClass own = some m.cls) (hcls : Bundle.fit cls = true) (hnames : ∀ n ∈ names, Bundle.fit n = true)
    (hk : (Cond.classLink own ik cls).before args s = true) (hini : (Cond.initialized cls).before args s = true) (hat : ∀ w ∈ vx_at0 own ic cls names, w.before args s = true)
    (hgood : ∀ w ∈ Cond.classLink own ik cls :: Cond.initialized cls :: vx_at0 own ic cls names, vx_ot w = true)
    (hU : vx_Zq Bundle.tN "UNASSIGNED_STACK" Bundle.steD A s s.heap) (hN : vx_Zq Bundle.tN "SUPPRESSED_SENTINEL" Bundle.listD A s s.heap) (hS : va_S A s.heap H locs) (hsize : ls.size = c.maxLocals)
    (d0 : decode cc pc = .ok (.new ik, 3)) (d3 : decode cc (pc + 3) = .ok (.dup, 1)) (d4 : decode cc (pc + 4) = .ok (.invokespecial ic, 3)) (d7 : decode cc (pc + 7) = .ok (.athrow, 1))
    (hout : ∀ x ∈ c.exceptionTable.toList, covers x (pc + 7) = false)
    (hRframes : names.length + 3 < R.frames) (hRlocals : (rest.map fun v => v.category).sum + (13 * (names.length + 1) + 42) ≤ R.locals) (hRcells : cells + 1 ≤ R.cells) (hRslots : slots + 6 ≤ R.slots) (hlocks : meth.locks = false)
    (hx : ∀ t : State, s.vm.Alike t.vm → H.size ≤ t.heap.size → (∀ q : Nat, q < H.size → t.heap[q]? = H[q]?) → XC cls s t)
    (hf : ∀ z ∈ locs, free z.base) (hc : cells + 1 ≤ mc) (hs : slots + 6 ≤ ms) :
    W p l e R s m args below meth c H locs cells slots (vx_MQ below Qc XC args s mc ms free) (F0 m pc ls rest) := by
  intro T hT X
  have htr : e.platform.stackTraces = false := (show e.platform.stackTraces = l.stackTraces by rw [X.admits.platform]).trans hl
  have Y := vx_rebase X (R' := { frames := R.frames, locals := R.locals, cells := 1, slots := 6 }) (Nat.le_refl _) (Nat.le_refl _) hRcells hRslots
  obtain ⟨s', hA⟩ : ∃ z, z = (T.setVm s.vm).setFrames (.invoking m args :: below) := ⟨_, rfl⟩
  rw [← hA] at Y
  have hvm : s'.vm = s.vm := by rw [hA]; rfl
  have hhp : s'.heap = H := by rw [hA]; exact hT
  have hW0 : s.WarmedH s'.vm := by rw [hvm]; exact State.WarmedH.refl s
  have hat' : ∀ w ∈ vx_at0 own ic cls names, w.before args s' = true := fun w hw => vx_ot_at hW0 hvm.symm (hgood w (List.mem_cons_of_mem _ (List.mem_cons_of_mem _ hw))) (hat w hw)
  have hk' : (Cond.classLink own ik cls).before args s' = true := vx_ot_at hW0 hvm.symm (hgood _ List.mem_cons_self) hk
  have hini' : (Cond.initialized cls).before args s' = true := vx_ot_at hW0 hvm.symm (hgood _ (List.mem_cons_of_mem _ List.mem_cons_self)) hini
  have hU' : vx_Zq Bundle.tN "UNASSIGNED_STACK" Bundle.steD A s' s'.heap := by rw [hhp]; exact vx_Zq.moved hW0.alike (hU.kept hS.2.1)
  have hN' : vx_Zq Bundle.tN "SUPPRESSED_SENTINEL" Bundle.listD A s' s'.heap := by rw [hhp]; exact vx_Zq.moved hW0.alike (hN.kept hS.2.1)
  have h : ∀ w ∈ Bundle.ownAtoms0 own ic cls names, w.before args s' = true := vx_own hat' (vx_isRefq hU'.1) (vx_isRefq hN'.1) hU'.2.word hN'.2.word
  have hown' : s'.vm.findClass own = some m.cls := by rw [hvm]; exact hown
  have hins : (Cond.instantiable cls 6).before args s' = true := h _ (by simp [Bundle.ownAtoms0])
  obtain ⟨vm₁, cX, kX, hfX, hkX, -, -, X₁, st1⟩ := Y.newCold hexec (own := own) (C := cls) (index := ik) (n := 6) hown' hk' hins hini'
    (g := F0 m pc ls rest) rfl (by rw [hb]; exact d0) (Nat.le_refl _) (Nat.le_refl _)
  generalize hT1 : (T.setVm vm₁).pushCell { cls := cX, slots := kX.instanceTypes.map defaultValue, vm := .none } = T1 at X₁ st1
  have hcat : (Value.ref T.heap.size).category = 1 := rfl
  have hcellA : T1.heap[T.heap.size]? = some (freshCell cX kX) := by rw [← hT1]; exact State.heap_pushCell_size _ _
  have d3' : decode c.code (pc + 3) = .ok (.dup, 1) := by rw [hb]; exact d3
  obtain ⟨U, hsteps, hrun, hend, hW, hsame, ce, hce, hO⟩ := X₁.ctorThrow0 hexec htr (own := own) (cls := cls) (names := names) (ic := ic) hown' hcls hnames h (fun x hx => nomatch hx) hfX hkX hcellA (by rw [hhp, hT]; exact Nat.le_refl _)
    (g := { method := m, pc := pc + 4, locals := ls, stack := .ref T.heap.size :: .ref T.heap.size :: rest, locked := none }) rfl hsize rfl rfl (rest := rest) rfl
    (by rw [hb]; exact d4) (by rw [hb]; exact d7) hout hRframes (by simp only [List.map_cons, List.sum_cons, hcat]; omega) hlocks
  obtain ⟨f1, f2⟩ := vx_frame hsame
  rw [hhp] at f1 f2
  have hWs : s.WarmedH U.vm := State.WarmedH.trans hW0 hW
  have hcl : s.vm.findClass cls = some ce.cls := by
    have h9 := hO.cls
    rw [hvm] at h9
    exact h9
  have hall : s.sameButNew ({ U with vm := s.vm } : State) locs mc ms := by
    subst hA
    obtain ⟨e1, e2⟩ := hsame
    rw [State.setFrames_setFrames] at e1
    have h2 : (T.setVm s.vm).sameButNew ({ U with vm := s.vm } : State) [] (0 + 1) (0 + 6) := ⟨e1, e2⟩
    have h3 := X.same.trans h2
    rw [List.append_nil] at h3
    exact h3.mono hc hs
  refine ⟨U, ?_, .threw T.heap.size, hrun, hend, Or.inr ⟨T.heap.size, rfl, cls, ce, locs, hx U hWs.alike f1 (fun q hq => f2 q hq (fun z hz => nomatch hz)), hce, hO.vm, hcl, hWs, hall, hf⟩⟩
  refine st1 _ ?_
  show Steps p.tables e below (T1.setTop { method := m, pc := pc + 3, locals := ls, stack := .ref T.heap.size :: rest, locked := none }) _
  jvm_step X₁.here [X₁.here.top, hexec, d3', Value.category]
  exact hsteps
/-- 'throw new E("text")': new; dup; ldc; invokespecial; athrow -/
theorem vx_throwS {cc : ByteArray} {pc : Nat} (hexec : p.tables.exec = Jvm.exec) (hb : c.code = cc) (hl : l.stackTraces = false) {own cls text : String} {names : List String} {ik is ic mc ms sa : Nat} {A : Nat → Prop}
    (hown : s.vm.findClass own = some m.cls) (hcls : Bundle.fit cls = true) (hnames : ∀ n ∈ names, Bundle.fit n = true)
    (hk : (Cond.classLink own ik cls).before args s = true) (hini : (Cond.initialized cls).before args s = true) (hstr : vk_R own is text sa s) (hat : ∀ w ∈ vx_atS own ic cls names, w.before args s = true)
    (hgood : ∀ w ∈ Cond.classLink own ik cls :: Cond.initialized cls :: vx_atS own ic cls names, vx_ot w = true)
    (hU : vx_Zq Bundle.tN "UNASSIGNED_STACK" Bundle.steD A s s.heap) (hN : vx_Zq Bundle.tN "SUPPRESSED_SENTINEL" Bundle.listD A s s.heap) (hS : va_S A s.heap H locs) (hsize : ls.size = c.maxLocals)
    (d0 : decode cc pc = .ok (.new ik, 3)) (d3 : decode cc (pc + 3) = .ok (.dup, 1)) (d4 : decode cc (pc + 4) = .ok (.ldc is, 2)) (d6 : decode cc (pc + 6) = .ok (.invokespecial ic, 3)) (d9 : decode cc (pc + 9) = .ok (.athrow, 1))
    (hout : ∀ x ∈ c.exceptionTable.toList, covers x (pc + 9) = false)
    (hRframes : names.length + 3 < R.frames) (hRlocals : (rest.map fun v => v.category).sum + (13 * (names.length + 1) + 43) ≤ R.locals) (hRcells : cells + 1 ≤ R.cells) (hRslots : slots + 6 ≤ R.slots) (hlocks : meth.locks = false)
    (hx : ∀ t : State, s.vm.Alike t.vm → H.size ≤ t.heap.size → (∀ q : Nat, q < H.size → t.heap[q]? = H[q]?) → XC cls s t)
    (hf : ∀ z ∈ locs, free z.base) (hc : cells + 1 ≤ mc) (hs : slots + 6 ≤ ms) :
    W p l e R s m args below meth c H locs cells slots (vx_MQ below Qc XC args s mc ms free) (F0 m pc ls rest) := by
  intro T hT X
  have htr : e.platform.stackTraces = false := (show e.platform.stackTraces = l.stackTraces by rw [X.admits.platform]).trans hl
  have Y := vx_rebase X (R' := { frames := R.frames, locals := R.locals, cells := 1, slots := 6 }) (Nat.le_refl _) (Nat.le_refl _) hRcells hRslots
  obtain ⟨s', hA⟩ : ∃ z, z = (T.setVm s.vm).setFrames (.invoking m args :: below) := ⟨_, rfl⟩
  rw [← hA] at Y
  have hvm : s'.vm = s.vm := by rw [hA]; rfl
  have hhp : s'.heap = H := by rw [hA]; exact hT
  have hW0 : s.WarmedH s'.vm := by rw [hvm]; exact State.WarmedH.refl s
  have hat' : ∀ w ∈ vx_atS own ic cls names, w.before args s' = true := fun w hw => vx_ot_at hW0 hvm.symm (hgood w (List.mem_cons_of_mem _ (List.mem_cons_of_mem _ hw))) (hat w hw)
  have hk' : (Cond.classLink own ik cls).before args s' = true := vx_ot_at hW0 hvm.symm (hgood _ List.mem_cons_self) hk
  have hini' : (Cond.initialized cls).before args s' = true := vx_ot_at hW0 hvm.symm (hgood _ (List.mem_cons_of_mem _ List.mem_cons_self)) hini
  have hU' : vx_Zq Bundle.tN "UNASSIGNED_STACK" Bundle.steD A s' s'.heap := by rw [hhp]; exact vx_Zq.moved hW0.alike (hU.kept hS.2.1)
  have hN' : vx_Zq Bundle.tN "SUPPRESSED_SENTINEL" Bundle.listD A s' s'.heap := by rw [hhp]; exact vx_Zq.moved hW0.alike (hN.kept hS.2.1)
  have h : ∀ w ∈ Bundle.ownAtoms own ic cls names, w.before args s' = true := vx_own hat' (vx_isRefq hU'.1) (vx_isRefq hN'.1) hU'.2.word hN'.2.word
  have hown' : s'.vm.findClass own = some m.cls := by rw [hvm]; exact hown
  have hins : (Cond.instantiable cls 6).before args s' = true := h _ (by simp [Bundle.ownAtoms])
  obtain ⟨vm₁, cX, kX, hfX, hkX, -, -, X₁, st1⟩ := Y.newCold hexec (own := own) (C := cls) (index := ik) (n := 6) hown' hk' hins hini'
    (g := F0 m pc ls rest) rfl (by rw [hb]; exact d0) (Nat.le_refl _) (Nat.le_refl _)
  generalize hT1 : (T.setVm vm₁).pushCell { cls := cX, slots := kX.instanceTypes.map defaultValue, vm := .none } = T1 at X₁ st1
  have hcat : (Value.ref T.heap.size).category = 1 := rfl
  have hcellA : T1.heap[T.heap.size]? = some (freshCell cX kX) := by rw [← hT1]; exact State.heap_pushCell_size _ _
  have d3' : decode c.code (pc + 3) = .ok (.dup, 1) := by rw [hb]; exact d3
  have d4' : decode c.code (pc + 4) = .ok (.ldc is, 2) := by rw [hb]; exact d4
  have hstr' : vk_R own is text sa s' := vk_R.warm hW0 hstr
  obtain ⟨U, hsteps, hrun, hend, hW, hsame, ce, hce, hO⟩ := X₁.ctorThrowS hexec htr (own := own) (cls := cls) (names := names) (ic := ic) hown' hcls hnames h (fun x hx => nomatch hx) hfX hkX hcellA (by rw [hhp, hT]; exact Nat.le_refl _) (msg := .ref sa) rfl
    (g := { method := m, pc := pc + 6, locals := ls, stack := .ref sa :: .ref T.heap.size :: .ref T.heap.size :: rest, locked := none }) rfl hsize rfl rfl (rest := rest) rfl
    (by rw [hb]; exact d6) (by rw [hb]; exact d9) hout hRframes (by simp only [List.map_cons, List.sum_cons, hcat]; omega) hlocks
  obtain ⟨f1, f2⟩ := vx_frame hsame
  rw [hhp] at f1 f2
  have hWs : s.WarmedH U.vm := State.WarmedH.trans hW0 hW
  have hcl : s.vm.findClass cls = some ce.cls := by
    have h9 := hO.cls
    rw [hvm] at h9
    exact h9
  have hall : s.sameButNew ({ U with vm := s.vm } : State) locs mc ms := by
    subst hA
    obtain ⟨e1, e2⟩ := hsame
    rw [State.setFrames_setFrames] at e1
    have h2 : (T.setVm s.vm).sameButNew ({ U with vm := s.vm } : State) [] (0 + 1) (0 + 6) := ⟨e1, e2⟩
    have h3 := X.same.trans h2
    rw [List.append_nil] at h3
    exact h3.mono hc hs
  refine ⟨U, ?_, .threw T.heap.size, hrun, hend, Or.inr ⟨T.heap.size, rfl, cls, ce, locs, hx U hWs.alike f1 (fun q hq => f2 q hq (fun z hz => nomatch hz)), hce, hO.vm, hcl, hWs, hall, hf⟩⟩
  refine st1 _ ?_
  show Steps p.tables e below (T1.setTop { method := m, pc := pc + 3, locals := ls, stack := .ref T.heap.size :: rest, locked := none }) _
  jvm_step X₁.here [X₁.here.top, hexec, d3', Value.category]
  exact X₁.ldcString hexec (own := own) (text := text) (index := is) (a := sa) hown' hstr'.1 hstr'.2
    (g := { method := m, pc := pc + 4, locals := ls, stack := .ref T.heap.size :: .ref T.heap.size :: rest, locked := none }) rfl d4' _ hsteps
/-- 'throw new E("text")', the text by a wide index -/
theorem vx_throwSW {cc : ByteArray} {pc : Nat} (hexec : p.tables.exec = Jvm.exec) (hb : c.code = cc) (hl : l.stackTraces = false) {own cls text : String} {names : List String} {ik is ic mc ms sa : Nat} {A : Nat → Prop}
    (hown : s.vm.findClass own = some m.cls) (hcls : Bundle.fit cls = true) (hnames : ∀ n ∈ names, Bundle.fit n = true)
    (hk : (Cond.classLink own ik cls).before args s = true) (hini : (Cond.initialized cls).before args s = true) (hstr : vk_R own is text sa s) (hat : ∀ w ∈ vx_atS own ic cls names, w.before args s = true)
    (hgood : ∀ w ∈ Cond.classLink own ik cls :: Cond.initialized cls :: vx_atS own ic cls names, vx_ot w = true)
    (hU : vx_Zq Bundle.tN "UNASSIGNED_STACK" Bundle.steD A s s.heap) (hN : vx_Zq Bundle.tN "SUPPRESSED_SENTINEL" Bundle.listD A s s.heap) (hS : va_S A s.heap H locs) (hsize : ls.size = c.maxLocals)
    (d0 : decode cc pc = .ok (.new ik, 3)) (d3 : decode cc (pc + 3) = .ok (.dup, 1)) (d4 : decode cc (pc + 4) = .ok (.ldc_w is, 3)) (d7 : decode cc (pc + 7) = .ok (.invokespecial ic, 3)) (d10 : decode cc (pc + 10) = .ok (.athrow, 1))
    (hout : ∀ x ∈ c.exceptionTable.toList, covers x (pc + 10) = false)
    (hRframes : names.length + 3 < R.frames) (hRlocals : (rest.map fun v => v.category).sum + (13 * (names.length + 1) + 43) ≤ R.locals) (hRcells : cells + 1 ≤ R.cells) (hRslots : slots + 6 ≤ R.slots) (hlocks : meth.locks = false)
    (hx : ∀ t : State, s.vm.Alike t.vm → H.size ≤ t.heap.size → (∀ q : Nat, q < H.size → t.heap[q]? = H[q]?) → XC cls s t)
    (hf : ∀ z ∈ locs, free z.base) (hc : cells + 1 ≤ mc) (hs : slots + 6 ≤ ms) :
    W p l e R s m args below meth c H locs cells slots (vx_MQ below Qc XC args s mc ms free) (F0 m pc ls rest) := by
  intro T hT X
  have htr : e.platform.stackTraces = false := (show e.platform.stackTraces = l.stackTraces by rw [X.admits.platform]).trans hl
  have Y := vx_rebase X (R' := { frames := R.frames, locals := R.locals, cells := 1, slots := 6 }) (Nat.le_refl _) (Nat.le_refl _) hRcells hRslots
  obtain ⟨s', hA⟩ : ∃ z, z = (T.setVm s.vm).setFrames (.invoking m args :: below) := ⟨_, rfl⟩
  rw [← hA] at Y
  have hvm : s'.vm = s.vm := by rw [hA]; rfl
  have hhp : s'.heap = H := by rw [hA]; exact hT
  have hW0 : s.WarmedH s'.vm := by rw [hvm]; exact State.WarmedH.refl s
  have hat' : ∀ w ∈ vx_atS own ic cls names, w.before args s' = true := fun w hw => vx_ot_at hW0 hvm.symm (hgood w (List.mem_cons_of_mem _ (List.mem_cons_of_mem _ hw))) (hat w hw)
  have hk' : (Cond.classLink own ik cls).before args s' = true := vx_ot_at hW0 hvm.symm (hgood _ List.mem_cons_self) hk
  have hini' : (Cond.initialized cls).before args s' = true := vx_ot_at hW0 hvm.symm (hgood _ (List.mem_cons_of_mem _ List.mem_cons_self)) hini
  have hU' : vx_Zq Bundle.tN "UNASSIGNED_STACK" Bundle.steD A s' s'.heap := by rw [hhp]; exact vx_Zq.moved hW0.alike (hU.kept hS.2.1)
  have hN' : vx_Zq Bundle.tN "SUPPRESSED_SENTINEL" Bundle.listD A s' s'.heap := by rw [hhp]; exact vx_Zq.moved hW0.alike (hN.kept hS.2.1)
  have h : ∀ w ∈ Bundle.ownAtoms own ic cls names, w.before args s' = true := vx_own hat' (vx_isRefq hU'.1) (vx_isRefq hN'.1) hU'.2.word hN'.2.word
  have hown' : s'.vm.findClass own = some m.cls := by rw [hvm]; exact hown
  have hins : (Cond.instantiable cls 6).before args s' = true := h _ (by simp [Bundle.ownAtoms])
  obtain ⟨vm₁, cX, kX, hfX, hkX, -, -, X₁, st1⟩ := Y.newCold hexec (own := own) (C := cls) (index := ik) (n := 6) hown' hk' hins hini'
    (g := F0 m pc ls rest) rfl (by rw [hb]; exact d0) (Nat.le_refl _) (Nat.le_refl _)
  generalize hT1 : (T.setVm vm₁).pushCell { cls := cX, slots := kX.instanceTypes.map defaultValue, vm := .none } = T1 at X₁ st1
  have hcat : (Value.ref T.heap.size).category = 1 := rfl
  have hcellA : T1.heap[T.heap.size]? = some (freshCell cX kX) := by rw [← hT1]; exact State.heap_pushCell_size _ _
  have d3' : decode c.code (pc + 3) = .ok (.dup, 1) := by rw [hb]; exact d3
  have d4' : decode c.code (pc + 4) = .ok (.ldc_w is, 3) := by rw [hb]; exact d4
  have hstr' : vk_R own is text sa s' := vk_R.warm hW0 hstr
  obtain ⟨U, hsteps, hrun, hend, hW, hsame, ce, hce, hO⟩ := X₁.ctorThrowS hexec htr (own := own) (cls := cls) (names := names) (ic := ic) hown' hcls hnames h (fun x hx => nomatch hx) hfX hkX hcellA (by rw [hhp, hT]; exact Nat.le_refl _) (msg := .ref sa) rfl
    (g := { method := m, pc := pc + 7, locals := ls, stack := .ref sa :: .ref T.heap.size :: .ref T.heap.size :: rest, locked := none }) rfl hsize rfl rfl (rest := rest) rfl
    (by rw [hb]; exact d7) (by rw [hb]; exact d10) hout hRframes (by simp only [List.map_cons, List.sum_cons, hcat]; omega) hlocks
  obtain ⟨f1, f2⟩ := vx_frame hsame
  rw [hhp] at f1 f2
  have hWs : s.WarmedH U.vm := State.WarmedH.trans hW0 hW
  have hcl : s.vm.findClass cls = some ce.cls := by
    have h9 := hO.cls
    rw [hvm] at h9
    exact h9
  have hall : s.sameButNew ({ U with vm := s.vm } : State) locs mc ms := by
    subst hA
    obtain ⟨e1, e2⟩ := hsame
    rw [State.setFrames_setFrames] at e1
    have h2 : (T.setVm s.vm).sameButNew ({ U with vm := s.vm } : State) [] (0 + 1) (0 + 6) := ⟨e1, e2⟩
    have h3 := X.same.trans h2
    rw [List.append_nil] at h3
    exact h3.mono hc hs
  refine ⟨U, ?_, .threw T.heap.size, hrun, hend, Or.inr ⟨T.heap.size, rfl, cls, ce, locs, hx U hWs.alike f1 (fun q hq => f2 q hq (fun z hz => nomatch hz)), hce, hO.vm, hcl, hWs, hall, hf⟩⟩
  refine st1 _ ?_
  show Steps p.tables e below (T1.setTop { method := m, pc := pc + 3, locals := ls, stack := .ref T.heap.size :: rest, locked := none }) _
  jvm_step X₁.here [X₁.here.top, hexec, d3', Value.category]
  exact X₁.ldcStringW hexec (own := own) (text := text) (index := is) (a := sa) hown' hstr'.1 hstr'.2
    (g := { method := m, pc := pc + 4, locals := ls, stack := .ref T.heap.size :: .ref T.heap.size :: rest, locked := none }) rfl d4' _ hsteps
end Ends
section Bodies
variable {l : Launch}
theorem vx_ofW {y : MethodName} {ws ws' : List Cond} {rm : Room} {Pc : Array Value → State → Prop} {Qc : Array Value → State → Outcome → State → Prop} {XC : String → State → State → Prop} {mc ms : Nat} {free : Addr → Prop} {cc : ByteArray} {maxL : Nat} {ret : Option FieldType}
    (hy : plainName y.cls = true) (hw : ws = Cond.code y cc maxL ret :: ws')
    (body : ∀ p e s m args below meth c s₁, BodyLoose p l y (headSpec ws rm) cc maxL ret e s m args below meth c s₁ → c.maxLocals = maxL → (∀ x ∈ c.exceptionTable.toList, False) → Pc args s →
      W p l e (headSpec ws rm).room s m args below meth c s.heap [] 0 0 (vx_MQ below Qc XC args s mc ms free) (entryFrame m args maxL)) : vx_Met l y ws rm Pc Qc XC mc ms free := by
  refine MetFree.of_bodyS (code := cc) (maxLocals := maxL) (ret := ret) hy ?_ ?_
  · intro args s m h hn
    obtain ⟨meth, c, h1, h2, h3, h4, h5, h6, -, -⟩ := Cond.code_spec hn (atoms_spec (ws := ws) h _ (by rw [hw]; exact List.mem_cons_self))
    exact ⟨meth, c, h1, h2, h3, h4, h5, h6⟩
  · intro p e s m args below meth c s₁ B hml hP _
    have hh0 : s₁.heap = s.heap := by rw [B.state]; rfl
    have ht : ∀ x ∈ c.exceptionTable.toList, False := by
      obtain ⟨meth9, c9, h1, h2, -, -, -, -, h7, -⟩ := Cond.code_spec B.named (atoms_spec (ws := ws) B.pre _ (by rw [hw]; exact List.mem_cons_self))
      cases Option.some.inj (h1.symm.trans B.method)
      cases Option.some.inj (h2.symm.trans (Stand.of_body B).code)
      intro x hx
      rw [Array.isEmpty_iff.mp h7] at hx
      cases hx
    obtain ⟨t, a1, o, b1, b2, b3⟩ := body p e s m args below meth c s₁ B hml ht hP s₁ hh0 (Stand.of_body B)
    exact ⟨t, o, a1, b1, b2, b3⟩
/-- the table of a body with handlers -/
theorem vx_table {p : Program} {x y : MethodName} {S : Spec} {cc bytes : ByteArray} {maxL maxL' : Nat} {ret ret' : Option FieldType} {e : Env} {s s₁ : State} {m : MethodId} {args : Array Value} {below : List Frame} {meth : Method} {c : Code} {hh : List (Nat × Nat × Nat × Nat)}
    (B : BodyLoose p l y S cc maxL ret e s m args below meth c s₁) (h : (Cond.codeWith y bytes maxL' ret' hh).before args s = true) : c.exceptionTable.toList = tableOf hh := by
  obtain ⟨m9, meth9, c9, hn9, h1, h2, -, -, h6, -⟩ := Cond.codeWith_spec h
  cases Option.some.inj (hn9.symm.trans B.named)
  cases Option.some.inj (h1.symm.trans B.method)
  cases Option.some.inj (h2.symm.trans (Stand.of_body B).code)
  rw [← h6, table_eq]
end Bodies
end VXA
/-! ===== END ===== -/
/-! ===== BEGIN a static call of a method with an exception table ===== -/
section VXS
variable {p : Program} {l : Launch} {e : Env} {R : Room} {s : State} {m : MethodId} {args : Array Value} {below : List Frame} {meth : Method} {c : Code} {T : State} {H : Heap} {locs : List Loc} {cells slots : Nat}
abbrev vx_CSW (R : Room) (s : State) (args : Array Value) (own : String) (index : Nat) (y : MethodName) (bytes : ByteArray) (maxL : Nat) (ret : Option FieldType) (hh : List (Nat × Nat × Nat × Nat)) (ws : List Cond) (rm : Room) (mc ms n : Nat) : Prop :=
  (rm.cells = mc ∧ rm.slots = ms ∧ rm.frames + 1 ≤ R.frames ∧ 8 + (maxL + 11) + rm.locals ≤ R.locals ∧ (∀ w ∈ ws, ∀ (a' : Array Value) (U : State), s.WarmedH U.vm → w.before a' U = true) ∧ Cond.codeWith y bytes maxL ret hh ∈ ws) ∧
  (Cond.codeWith y bytes maxL ret hh).before args s = true ∧ (Cond.initialized y.cls).before args s = true ∧ (y.cls ≠ "java/lang/invoke/MethodHandle" ∧ y.cls ≠ "java/lang/invoke/VarHandle") ∧
  (∀ sig, parseMethodDescriptor y.desc = some sig → n = sig.parameters.length) ∧ (Cond.methodLink own index y).before args s = true ∧ (Cond.static y).before args s = true
theorem vx_cwSW {own : String} {index maxL mc ms : Nat} {y : MethodName} {bytes : ByteArray} {ret : Option FieldType} {hh : List (Nat × Nat × Nat × Nat)} {Ts ws ws' : List Cond} {rm : Room} (n : Nat) (ht : ∀ w ∈ Ts, w.before args s = true) (hT : GoodIn Ts (va_wsS own index y ws)) (hw : ws = Cond.codeWith y bytes maxL ret hh :: ws') (hrc : rm.cells = mc) (hrs : rm.slots = ms)
    (hd : y.cls ≠ "java/lang/invoke/MethodHandle" ∧ y.cls ≠ "java/lang/invoke/VarHandle" ∧ (parseMethodDescriptor y.desc).map (fun d => d.parameters.length) = some n) (hR : rm.frames + 1 ≤ R.frames ∧ 8 + (maxL + 11) + rm.locals ≤ R.locals) :
    vx_CSW R s args own index y bytes maxL ret hh ws rm mc ms n := by
  have ok : ∀ w ∈ va_wsS own index y ws, w.before args s = true := fun w h => ht w (hT w h).1
  have hG : GoodIn Ts ws := fun w h => hT w (by unfold va_wsS; exact List.mem_append_right _ h)
  have hc : Cond.codeWith y bytes maxL ret hh ∈ ws := by rw [hw]; exact List.mem_cons_self
  refine ⟨⟨hrc, hrs, hR.1, hR.2, pay_in ht hG, hc⟩, ht _ (hG _ hc).1, ok _ (by simp [va_wsS]), ⟨hd.1, hd.2.1⟩, fun sig h => ?_, ok _ (by simp [va_wsS]), ok _ (by simp [va_wsS])⟩
  have h2 := hd.2.2
  rw [h] at h2
  exact (Option.some.inj h2).symm
theorem vx_callSW (X : Stand p l e R s m args below meth c T locs cells slots) (hexec : p.tables.exec = Jvm.exec) {own : String} {index : Nat} {y : MethodName} {bytes : ByteArray} {maxL : Nat} {ret : Option FieldType} {hh : List (Nat × Nat × Nat × Nat)}
    (hown : s.vm.findClass own = some m.cls) (hlink : (Cond.methodLink own index y).before args s = true) (hstat : (Cond.static y).before args s = true) (hinit : (Cond.initialized y.cls).before args s = true)
    (hcode : (Cond.codeWith y bytes maxL ret hh).before args s = true) (hy : y.cls ≠ "java/lang/invoke/MethodHandle" ∧ y.cls ≠ "java/lang/invoke/VarHandle")
    {W9 : Nat} {Pre : Pt → Array Value → Prop} {Post : Pt → Array Value → Option Value → Pt → Prop} (hK : Back l R p e below s args y 3 W9 Pre Post)
    {g : JFrame} (hg : g.method = m) (hsize : g.locals.size = c.maxLocals) {argsL rest : List Value} (hlen : ∀ sig, parseMethodDescriptor y.desc = some sig → argsL.length = sig.parameters.length)
    (hstack : g.stack = argsL.reverse ++ rest) (hW : 2 * g.monitorRoom + (rest.map fun v => v.category).sum ≤ W9) (hdg : decode c.code g.pc = .ok (.invokestatic index, 3))
    (hpre : ∀ vm₁, s.WarmedH vm₁ → Pre ⟨T.setVm vm₁, locs, cells, slots⟩ argsL.toArray) :
    ∃ (v : Option Value) (vm₁ : Vm) (B : Pt), s.WarmedH vm₁ ∧ Stand p l e R s m args below meth c B.U B.locs B.cells B.slots ∧ Post ⟨T.setVm vm₁, locs, cells, slots⟩ argsL.toArray v B ∧
      ∀ target, Steps p.tables e below (B.U.setTop { g with pc := g.pc + 3, stack := v.toList ++ rest }) target → Steps p.tables e below (T.setTop g) target := by
  obtain ⟨mk, methM, cM, hnamed, hmethM, -, -, -, -, -, -, hsigM⟩ := Cond.codeWith_spec hcode
  have hstatic : methM.isStatic = true := Cond.static_spec hnamed hmethM hstat
  obtain ⟨kP, hkP, -⟩ := className_of_methodNamed hnamed
  have hinitP : kP.init = .initialized := Cond.initialized_spec (findClass_of_methodNamed hnamed) hkP hinit
  obtain ⟨vm₁, X₁, hstep₁⟩ := X.invokestatic hexec hown hlink hnamed hmethM hstatic hkP hinitP hy (g := g) hg (argsL := argsL) (rest := rest) (hlen _ hsigM) hstack hdg
  obtain ⟨v, B, X', hpost, hsteps⟩ := hK m meth c ⟨T.setVm vm₁, locs, cells, slots⟩ { g with stack := rest } (.invokestatic index) mk argsL.toArray X₁ hg hsize hdg hW (X₁.named hnamed) (hpre vm₁ X₁.warmed)
  exact ⟨v, vm₁, B, X₁.warmed, X', hpost, fun target h => hstep₁ _ fun acts => by rw [doInvoke_state]; exact hsteps.trans h⟩
theorem vx_runSW {y : MethodName} {bytes cc : ByteArray} {maxL nL mc ms n index : Nat} {ret : Option FieldType} {hh : List (Nat × Nat × Nat × Nat)} {ws : List Cond} {rm : Room} {Pc : Array Value → State → Prop} {Qc : Array Value → State → Outcome → State → Prop} {free : Addr → Prop} {Ts : List Cond} {own : String} {As rest : List Value} {g : JFrame}
    (S : CallFix p m c cc nL s args Ts own) (hM : Met l y ws rm Pc Qc mc ms free) (cw : vx_CSW R s args own index y bytes maxL ret hh ws rm mc ms n) (hp : PreS s H Pc As)
    (hg : g.method = m) (hn : As.length = n) (hsize : g.locals.size = nL) (hstack : g.stack = As.reverse ++ rest) (hW : 2 * g.monitorRoom + (rest.map fun v => v.category).sum ≤ 8) (hdg : decode cc g.pc = .ok (.invokestatic index, 3)) (hf : cells + mc ≤ R.cells ∧ slots + ms ≤ R.slots) :
    va_Run p l e R s m args below meth c H locs cells slots mc ms g rest (Qc As.toArray) (free) := by
  obtain ⟨⟨hrc, hrs, hfr, hlo, hws, hcw⟩, hcode, hini, hy, hlen, hl, hstt⟩ := cw
  have hK : Back l R p e below s args y 3 8 (PreOf R mc ms Pc) (PostOf Qc mc ms free) := va_backW (hh := hh) (bytes := bytes) (maxL := maxL) (ret := ret) hM hp.1 hrc hrs hfr hlo hws hcw (fun a' U hW => word_at hW (Or.inl (by first | rfl | simp [Cond.onTables, Cond.keeps, Cond.steady])) hini)
  obtain ⟨hx, hb, hml, ho, -⟩ := S
  intro T hT X
  obtain ⟨v, vm₁, ⟨U', l2, c2, s2⟩, hW₁, X', ⟨g', mk, t, L, e1, e2, hq, h1, hL, h2, h3⟩, st⟩ := vx_callSW X hx (hh := hh) (bytes := bytes) (maxL := maxL) (ret := ret) ho hl hstt hini hcode hy hK hg (hsize.trans hml.symm) (argsL := As) (rest := rest) (fun sig h => hn.trans (hlen sig h)) hstack hW (by rw [hb]; exact hdg)
    (fun vm₁ hW₁ => ⟨hf.1, hf.2, hp.2 (T.setVm vm₁) hT hW₁⟩)
  dsimp only [Pt.U, Pt.locs, Pt.cells, Pt.slots] at X' e1 e2 h1 h2 h3 st
  subst h1; subst h2; subst h3
  exact ⟨v, (T.setVm vm₁).calling g' mk As.toArray, t, U', L, hT, X', hL, e1, e2, hq, st⟩
/-- not caught here, past rows that name other classes: it goes on to the caller -/
theorem vx_outP {p : Program} {l : Launch} {e : Env} {R : Room} {s : State} {m : MethodId} {args : Array Value} {below : List Frame} {meth : Method} {c : Code} {H : Heap} {locs : List Loc} {cells slots : Nat} {free : Addr → Prop} {ls : Array Slot} {rest : List Value} {Qc : Array Value → State → Outcome → State → Prop} {XC : String → State → State → Prop}
    {pc : Nat} {own E : String} {ce : Cell} {q : Addr} {mc ms : Nat} (hown : s.vm.findClass own = some m.cls) (hlocks : meth.locks = false)
    (hpass : ∀ z ∈ c.exceptionTable.toList, covers z pc = false ∨ (z.catchType ≠ 0 ∧ ∃ nm : String, (Cond.classLink own z.catchType nm).before args s = true ∧ va_Nc E nm s)) (hcell : H[q]? = some ce) (hv : ce.vm = .none) (hcl : s.vm.findClass E = some ce.cls)
    (hx : ∀ t : State, t.heap = H → s.vm.Alike t.vm → XC E s t) (hf : ∀ z ∈ locs, free z.base) (hc : cells ≤ mc) (hs : slots ≤ ms) :
    vx_W p l e R s m args below meth c H locs cells slots (vx_MQ below Qc XC args s mc ms free) (F0 m pc ls rest) q := by
  intro T hT X
  have hpl : e.platform.magicAccessors = ({} : Platform).magicAccessors := by rw [X.admits.platform]
  obtain ⟨vm', hW', X', st⟩ := X.outThrough hlocks q (g := F0 m pc ls rest) rfl rfl rfl (cell := ce) (by rw [hT]; exact hcell) (by rw [hv]; rfl)
    (by obtain ⟨k9, h9, -⟩ := Vm.findClass_spec hcl; exact ⟨k9, h9⟩) (fun z hz => by
      rcases hpass z hz with h | ⟨hz0, nm, hl1, hn1⟩
      · exact Or.inl h
      · obtain ⟨c6, hc6, hcl6⟩ := Cond.classLink_spec hown hl1 e.platform hpl
        obtain ⟨a8, b8, h1, h2, h3⟩ := hn1
        cases Option.some.inj (h1.symm.trans hcl)
        cases Option.some.inj (h2.symm.trans hc6)
        exact Or.inr ⟨hz0, _, hcl6, h3⟩)
  obtain ⟨g₀, hfr⟩ := X'.frames_eq
  have hcell9 : ((T.setVm vm').setFrames (.throwing q :: below)).heap[q]? = some ce := by
    show T.heap[q]? = some ce
    rw [hT]; exact hcell
  have hend : Ended ((T.setVm vm').setFrames (.throwing q :: below)) below (.threw q) := State.frames_setFrames _ (State.cur_lt_of_frames hfr)
  refine ⟨(T.setVm vm').setFrames (.throwing q :: below), ?_, .threw q, X'.here.running, hend, Or.inr ⟨q, rfl, E, ce, locs, hx _ hT (X'.ends _).1.alike, hcell9, hv, hcl, (X'.ends _).1, (X'.ends _).2.mono hc hs, hf⟩⟩
  rw [X.pushThrowing_eq]
  exact st
/-- a thing of a world lies in the heap -/
theorem vx_lt {D : va_G} {cl : List vw_C} {ws : va_W} {H1 : Heap} (h : va_P D cl ws H1) {k : Nat} {q : Nat × va_E} (hk : ws[k]? = some q) : q.1 < H1.size := (h k q hk).lt
end VXS
/-! ===== END ===== -/
/-! ===== BEGIN methods with a table of their own: called by a name, returning or throwing ===== -/
section VXH
/-! vx_backW, vx_callVX, vx_callSX, vx_callVW, vx_runVW, vx_runVX, vx_runSX, vx_ofWH follow the same proofs as their sisters above (Free/Laws.lean, Shelf42/LK1.lean); vx_outP calls Shelf42/NT130.lean (outThrough). -/
section
variable {l : Launch} {R : Room} {p : Program} {e : Env} {below : List Frame} {s : State} {sargs : Array Value} {y : MethodName} {len W9 : Nat}
theorem vx_backW {ws : List Cond} {rm : Room} {Pc : Array Value → State → Prop} {Qc : Array Value → State → Outcome → State → Prop} {XC : String → State → State → Prop} {mc ms : Nat} {free : Addr → Prop} {bytes : ByteArray} {maxL : Nat} {ret : Option FieldType} {hh : List (Nat × Nat × Nat × Nat)}
    (hM : vx_Met l y ws rm Pc Qc XC mc ms free) (hblind : FrameBlind Pc) (hrc : rm.cells = mc) (hrs : rm.slots = ms)
    (hframes : rm.frames + 1 ≤ R.frames) (hlocals : W9 + (maxL + 11) + rm.locals ≤ R.locals)
    (hws : ∀ w ∈ ws, ∀ a' U, s.WarmedH U.vm → w.before a' U = true) (hcode : Cond.codeWith y bytes maxL ret hh ∈ ws) (hinit : ∀ a' U, s.WarmedH U.vm → (Cond.initialized y.cls).before a' U = true) :
    vx_Back l R p e below s sargs y len W9 (PreOf R mc ms Pc) (PostOf Qc mc ms free) (vx_Post XC mc ms free) := by
  intro m meth c A g ig mk a X hg hsize hdg hW hn hp
  have h1 : (headSpec ws rm).pre.before a A.U = true := atoms_intro fun w hw => hws w hw _ _ X.warmed
  have h2 : (Cond.codeWith y bytes maxL ret hh).before a A.U = true := hws _ hcode _ _ X.warmed
  have h3 : (Cond.initialized y.cls).before a A.U = true := hinit _ _ X.warmed
  have h4 : A.cells + (headSpec ws rm).room.cells ≤ R.cells := by rw [show (headSpec ws rm).room.cells = mc from hrc]; exact hp.1
  have h5 : A.slots + (headSpec ws rm).room.slots ≤ R.slots := by rw [show (headSpec ws rm).room.slots = ms from hrs]; exact hp.2.1
  have hPc : Pc a (A.U.calling g mk a) := hblind _ _ _ _ hp.2.2
  obtain ⟨U, Ls, c0, s0⟩ := A
  dsimp only [Pt.U, Pt.locs, Pt.cells, Pt.slots] at h1 h2 h3 h4 h5 X hn hPc ⊢
  obtain ⟨m9, methY, cY, hn9, hmY, hcY, -, hlY, -⟩ := Cond.codeWith_spec h2
  cases Option.some.inj (hn9.symm.trans hn)
  obtain ⟨kY, hkY, -⟩ := className_of_methodNamed hn
  have hinitY : kY.init = .initialized := Cond.initialized_spec (findClass_of_methodNamed hn) hkY h3
  have h : At U g.method c below := by rw [hg]; exact X.here
  have hlocals9 : W9 + (maxL + 11) + (headSpec ws rm).room.locals ≤ R.locals := hlocals
  have happ : (headSpec ws rm).appliesLoose y e.platform (U.calling g mk a) = true :=
    Spec.appliesLoose_calling (g := g) h hdg hn hkY hinitY
      (X.room_calling (g := g) (R' := (headSpec ws rm).room) hsize hmY hcY hframes (by rw [hlY]; omega) h4 h5) h1
  obtain ⟨mid, hmid⟩ := h.above
  have hfr : (U.setTop g).frames = (.java g :: mid) ++ below := by rw [State.frames_setTop' g h.top, hmid]; rfl
  obtain ⟨o, s₂, hsteps, -, hend, hq⟩ := Steps.callFree hM p X.admits X.cas X.clock (acts := []) hfr happ hPc trivial
  have hq' : vx_Q Qc XC mc ms free a (U.calling g mk a) o s₂ := hq
  rw [State.frames_setTop' g h.top] at hend
  obtain ⟨g₀, hg0⟩ := Option.isSome_iff_exists.mp h.top
  obtain ⟨r, hr⟩ := State.topJava?_eq_some.mp hg0
  have hr' : (({ U with heap := s₂.heap, slotsUsed := s₂.slotsUsed } : State).setVm s₂.vm).frames = .java g₀ :: r := hr
  rcases hq' with ⟨hqc, L, hfe, hL⟩ | ⟨q, rfl, E, ce, L, hx, hce, hcv, hcl, hW₂, hsm, hL⟩
  · obtain ⟨⟨v, rfl⟩, hW₂, e2, q2, q3, q4, q5, q6⟩ := id hfe
    have e3 : s₂ = ({ (U.calling g mk a).setFrames s₂.frames with heap := s₂.heap, slotsUsed := s₂.slotsUsed } : State).setVm s₂.vm := by
      have : s₂ = ({ s₂ with vm := (U.calling g mk a).vm } : State).setVm s₂.vm := rfl
      rw [e2] at this
      exact this
    obtain ⟨c₂, i₂, len₂, hc₂, hd₂, hf₂⟩ := hend
    have hW' : U.WarmedH s₂.vm := hW₂
    have hcc : c₂ = c := by
      have h1 : s₂.code? g.method = U.code? g.method := by
        rw [State.code?_eq, State.code?_eq, hW'.alike.method?]
      exact Option.some.inj (hc₂.symm.trans (h1.trans h.code))
    subst hcc
    have hlen : len₂ = len := by rw [hdg] at hd₂; cases hd₂; rfl
    subst hlen
    have hs₂ : s₂ = (({ U with heap := s₂.heap, slotsUsed := s₂.slotsUsed } : State).setVm s₂.vm).setTop { g with pc := g.pc + len₂, stack := v.toList ++ g.stack } := by
      refine e3.trans ?_
      rw [hf₂, State.calling_eq h.top, State.setFrames_setFrames, State.setTop_of_frames _ hr', hr]
      rfl
    have hsame : U.sameButNew ({ U with heap := s₂.heap, slotsUsed := s₂.slotsUsed } : State) L mc ms := by
      refine ⟨?_, q2, q3, q4, q5, q6⟩
      obtain ⟨t, ht, -⟩ := State.frames_cons hr
      show ({ U with heap := s₂.heap, slotsUsed := s₂.slotsUsed } : State) = { U.setFrames U.frames with heap := s₂.heap, slotsUsed := s₂.slotsUsed }
      rw [State.setFrames_self ht]
    subst hg
    refine Or.inl ⟨v, ⟨(({ U with heap := s₂.heap, slotsUsed := s₂.slotsUsed } : State).setVm s₂.vm), Ls ++ L, c0 + mc, s0 + ms⟩,
      ⟨X.admits, X.cas, X.clock, X.frames, X.room, X.hears, X.method, X.code, (X.here.setHeapUsed s₂.heap s₂.slotsUsed).setVm hW'.alike, X.tail, State.WarmedH.trans X.warmed hW', X.limits, X.bytes, X.same.trans (hsame.setVm s.vm)⟩,
      ⟨g, mk, s₂, L, rfl, rfl, hqc, rfl, hL, rfl, rfl⟩, ?_⟩
    show Steps p.tables e below _ ((({ U with heap := s₂.heap, slotsUsed := s₂.slotsUsed } : State).setVm s₂.vm).setTop { g with pc := g.pc + len₂, stack := v.toList ++ g.stack })
    rw [← hs₂]
    exact hsteps
  · obtain ⟨e2, q2, q3, q4, q5, q6⟩ := id hsm
    have e3 : s₂ = ({ (U.calling g mk a).setFrames s₂.frames with heap := s₂.heap, slotsUsed := s₂.slotsUsed } : State).setVm s₂.vm := by
      have : s₂ = ({ s₂ with vm := (U.calling g mk a).vm } : State).setVm s₂.vm := rfl
      rw [e2] at this
      exact this
    have hf₂ : s₂.frames = .throwing q :: .java g :: U.frames.tail := hend
    have hW' : U.WarmedH s₂.vm := hW₂
    have hs₂ : s₂ = ((({ U with heap := s₂.heap, slotsUsed := s₂.slotsUsed } : State).setVm s₂.vm).setTop g).pushFrame (.throwing q) := by
      refine e3.trans ?_
      rw [hf₂, State.calling_eq h.top, State.setFrames_setFrames, State.pushFrame, State.frames_setTop _ hr', State.setTop_of_frames _ hr', State.setFrames_setFrames, hr]
      rfl
    have hsame : U.sameButNew ({ U with heap := s₂.heap, slotsUsed := s₂.slotsUsed } : State) L mc ms := by
      refine ⟨?_, q2, q3, q4, q5, q6⟩
      obtain ⟨t, ht, -⟩ := State.frames_cons hr
      show ({ U with heap := s₂.heap, slotsUsed := s₂.slotsUsed } : State) = { U.setFrames U.frames with heap := s₂.heap, slotsUsed := s₂.slotsUsed }
      rw [State.setFrames_self ht]
    subst hg
    refine Or.inr ⟨q, ⟨(({ U with heap := s₂.heap, slotsUsed := s₂.slotsUsed } : State).setVm s₂.vm), Ls ++ L, c0 + mc, s0 + ms⟩,
      ⟨X.admits, X.cas, X.clock, X.frames, X.room, X.hears, X.method, X.code, (X.here.setHeapUsed s₂.heap s₂.slotsUsed).setVm hW'.alike, X.tail, State.WarmedH.trans X.warmed hW', X.limits, X.bytes, X.same.trans (hsame.setVm s.vm)⟩,
      ⟨g, mk, s₂, L, E, ce, rfl, rfl, hx, hce, hcv, hcl, rfl, hL, rfl, rfl⟩, ?_⟩
    show Steps p.tables e below _ (((({ U with heap := s₂.heap, slotsUsed := s₂.slotsUsed } : State).setVm s₂.vm).setTop g).pushFrame (.throwing q))
    rw [← hs₂]
    exact hsteps
end
variable {p : Program} {l : Launch} {e : Env} {R : Room} {s : State} {m : MethodId} {args : Array Value} {below : List Frame} {meth : Method} {c : Code} {T : State} {H : Heap} {locs : List Loc} {cells slots : Nat}
theorem vx_callVX (X : Stand p l e R s m args below meth c T locs cells slots) (hexec : p.tables.exec = Jvm.exec) {own C : String} {index : Nat} {y : MethodName} {bytes : ByteArray} {maxL : Nat} {ret : Option FieldType} {hh : List (Nat × Nat × Nat × Nat)}
    (hown : s.vm.findClass own = some m.cls) (hlink : (Cond.methodLink own index y).before args s = true) (hinst : (Cond.instanceMethod y).before args s = true) (hsel : (Cond.selects C y y).before args s = true)
    (hcode : (Cond.codeWith y bytes maxL ret hh).before args s = true) (hy : y.cls ≠ "java/lang/invoke/MethodHandle" ∧ y.cls ≠ "java/lang/invoke/VarHandle")
    {W9 : Nat} {Pre : Pt → Array Value → Prop} {Post : Pt → Array Value → Option Value → Pt → Prop} {PostX : Pt → Array Value → Addr → Pt → Prop} (hK : vx_Back l R p e below s args y 3 W9 Pre Post PostX)
    {b : Addr} {cellB : Cell} (hcell : T.heap[b]? = some cellB) (hobj : cellB.vm.isStatics = false) (hcls : s.vm.findClass C = some cellB.cls)
    {g : JFrame} (hg : g.method = m) (hsize : g.locals.size = c.maxLocals) {argsL rest : List Value} (hlen : ∀ sig, parseMethodDescriptor y.desc = some sig → argsL.length = sig.parameters.length)
    (hstack : g.stack = argsL.reverse ++ .ref b :: rest) (hW : 2 * g.monitorRoom + (rest.map fun v => v.category).sum ≤ W9) (hdg : decode c.code g.pc = .ok (.invokevirtual index, 3))
    (hpre : ∀ vm₁, s.WarmedH vm₁ → Pre ⟨T.setVm vm₁, locs, cells, slots⟩ (Value.ref b :: argsL).toArray) :
    (∃ (v : Option Value) (vm₁ : Vm) (B : Pt), s.WarmedH vm₁ ∧ Stand p l e R s m args below meth c B.U B.locs B.cells B.slots ∧ Post ⟨T.setVm vm₁, locs, cells, slots⟩ (Value.ref b :: argsL).toArray v B ∧
      ∀ target, Steps p.tables e below (B.U.setTop { g with pc := g.pc + 3, stack := v.toList ++ rest }) target → Steps p.tables e below (T.setTop g) target) ∨
    (∃ (q : Addr) (vm₁ : Vm) (B : Pt), s.WarmedH vm₁ ∧ Stand p l e R s m args below meth c B.U B.locs B.cells B.slots ∧ PostX ⟨T.setVm vm₁, locs, cells, slots⟩ (Value.ref b :: argsL).toArray q B ∧
      Steps p.tables e below (T.setTop g) ((B.U.setTop { g with stack := rest }).pushFrame (.throwing q))) := by
  obtain ⟨mk, methM, hnamed, hmethM, hstM, habM⟩ := Cond.instanceMethod_spec hinst
  obtain ⟨m8, methM', cM, hn8, hmethM', -, -, -, -, -, -, hsigM⟩ := Cond.codeWith_spec hcode
  cases Option.some.inj (hn8.symm.trans hnamed)
  cases hmethM.symm.trans hmethM'
  obtain ⟨c2, r2, m2, q1, q2, q3, q4, kP, hkP, hkPi⟩ := Cond.selects_spec hsel
  cases hcls.symm.trans q1
  cases (State.methodFound?_of_named hnamed hy).symm.trans q2
  cases hnamed.symm.trans q3
  have hselP : selectMethod e.platform s.vm cellB.cls mk = .method mk := by rw [Launch.admits_selectMethod X.admits]; exact q4
  obtain ⟨vm₁, X₁, hstep₁⟩ := X.invokevirtual hexec hown hlink hnamed hmethM hstM hkP hkPi hy (a := b) (cell := cellB) hcell
    (fun z h => by rw [h] at hobj; cases hobj) hselP hmethM habM hkP hkPi (g := g) hg (argsL := argsL) (rest := rest) (hlen _ hsigM) hstack hdg
  rcases hK m meth c ⟨T.setVm vm₁, locs, cells, slots⟩ { g with stack := rest } (.invokevirtual index) mk (Value.ref b :: argsL).toArray X₁ hg hsize hdg hW (X₁.named hnamed) (hpre vm₁ X₁.warmed) with ⟨v, B, X', hpost, hsteps⟩ | ⟨q, B, X', hpost, hsteps⟩
  · exact Or.inl ⟨v, vm₁, B, X₁.warmed, X', hpost, fun target h => hstep₁ _ fun acts => by rw [doInvoke_state]; exact hsteps.trans h⟩
  · exact Or.inr ⟨q, vm₁, B, X₁.warmed, X', hpost, hstep₁ _ fun acts => by rw [doInvoke_state]; exact hsteps⟩
theorem vx_callSX (X : Stand p l e R s m args below meth c T locs cells slots) (hexec : p.tables.exec = Jvm.exec) {own : String} {index : Nat} {y : MethodName} {bytes : ByteArray} {maxL : Nat} {ret : Option FieldType} {hh : List (Nat × Nat × Nat × Nat)}
    (hown : s.vm.findClass own = some m.cls) (hlink : (Cond.methodLink own index y).before args s = true) (hstat : (Cond.static y).before args s = true) (hinit : (Cond.initialized y.cls).before args s = true)
    (hcode : (Cond.codeWith y bytes maxL ret hh).before args s = true) (hy : y.cls ≠ "java/lang/invoke/MethodHandle" ∧ y.cls ≠ "java/lang/invoke/VarHandle")
    {W9 : Nat} {Pre : Pt → Array Value → Prop} {Post : Pt → Array Value → Option Value → Pt → Prop} {PostX : Pt → Array Value → Addr → Pt → Prop} (hK : vx_Back l R p e below s args y 3 W9 Pre Post PostX)
    {g : JFrame} (hg : g.method = m) (hsize : g.locals.size = c.maxLocals) {argsL rest : List Value} (hlen : ∀ sig, parseMethodDescriptor y.desc = some sig → argsL.length = sig.parameters.length)
    (hstack : g.stack = argsL.reverse ++ rest) (hW : 2 * g.monitorRoom + (rest.map fun v => v.category).sum ≤ W9) (hdg : decode c.code g.pc = .ok (.invokestatic index, 3))
    (hpre : ∀ vm₁, s.WarmedH vm₁ → Pre ⟨T.setVm vm₁, locs, cells, slots⟩ argsL.toArray) :
    (∃ (v : Option Value) (vm₁ : Vm) (B : Pt), s.WarmedH vm₁ ∧ Stand p l e R s m args below meth c B.U B.locs B.cells B.slots ∧ Post ⟨T.setVm vm₁, locs, cells, slots⟩ argsL.toArray v B ∧
      ∀ target, Steps p.tables e below (B.U.setTop { g with pc := g.pc + 3, stack := v.toList ++ rest }) target → Steps p.tables e below (T.setTop g) target) ∨
    (∃ (q : Addr) (vm₁ : Vm) (B : Pt), s.WarmedH vm₁ ∧ Stand p l e R s m args below meth c B.U B.locs B.cells B.slots ∧ PostX ⟨T.setVm vm₁, locs, cells, slots⟩ argsL.toArray q B ∧
      Steps p.tables e below (T.setTop g) ((B.U.setTop { g with stack := rest }).pushFrame (.throwing q))) := by
  obtain ⟨mk, methM, cM, hnamed, hmethM, -, -, -, -, -, -, hsigM⟩ := Cond.codeWith_spec hcode
  have hstatic : methM.isStatic = true := Cond.static_spec hnamed hmethM hstat
  obtain ⟨kP, hkP, -⟩ := className_of_methodNamed hnamed
  have hinitP : kP.init = .initialized := Cond.initialized_spec (findClass_of_methodNamed hnamed) hkP hinit
  obtain ⟨vm₁, X₁, hstep₁⟩ := X.invokestatic hexec hown hlink hnamed hmethM hstatic hkP hinitP hy (g := g) hg (argsL := argsL) (rest := rest) (hlen _ hsigM) hstack hdg
  rcases hK m meth c ⟨T.setVm vm₁, locs, cells, slots⟩ { g with stack := rest } (.invokestatic index) mk argsL.toArray X₁ hg hsize hdg hW (X₁.named hnamed) (hpre vm₁ X₁.warmed) with ⟨v, B, X', hpost, hsteps⟩ | ⟨q, B, X', hpost, hsteps⟩
  · exact Or.inl ⟨v, vm₁, B, X₁.warmed, X', hpost, fun target h => hstep₁ _ fun acts => by rw [doInvoke_state]; exact hsteps.trans h⟩
  · exact Or.inr ⟨q, vm₁, B, X₁.warmed, X', hpost, hstep₁ _ fun acts => by rw [doInvoke_state]; exact hsteps⟩
theorem vx_callVW (X : Stand p l e R s m args below meth c T locs cells slots) (hexec : p.tables.exec = Jvm.exec) {own C : String} {index : Nat} {y : MethodName} {bytes : ByteArray} {maxL : Nat} {ret : Option FieldType} {hh : List (Nat × Nat × Nat × Nat)}
    (hown : s.vm.findClass own = some m.cls) (hlink : (Cond.methodLink own index y).before args s = true) (hinst : (Cond.instanceMethod y).before args s = true) (hsel : (Cond.selects C y y).before args s = true)
    (hcode : (Cond.codeWith y bytes maxL ret hh).before args s = true) (hy : y.cls ≠ "java/lang/invoke/MethodHandle" ∧ y.cls ≠ "java/lang/invoke/VarHandle")
    {W9 : Nat} {Pre : Pt → Array Value → Prop} {Post : Pt → Array Value → Option Value → Pt → Prop} (hK : Back l R p e below s args y 3 W9 Pre Post)
    {b : Addr} {cellB : Cell} (hcell : T.heap[b]? = some cellB) (hobj : cellB.vm.isStatics = false) (hcls : s.vm.findClass C = some cellB.cls)
    {g : JFrame} (hg : g.method = m) (hsize : g.locals.size = c.maxLocals) {argsL rest : List Value} (hlen : ∀ sig, parseMethodDescriptor y.desc = some sig → argsL.length = sig.parameters.length)
    (hstack : g.stack = argsL.reverse ++ .ref b :: rest) (hW : 2 * g.monitorRoom + (rest.map fun v => v.category).sum ≤ W9) (hdg : decode c.code g.pc = .ok (.invokevirtual index, 3))
    (hpre : ∀ vm₁, s.WarmedH vm₁ → Pre ⟨T.setVm vm₁, locs, cells, slots⟩ (Value.ref b :: argsL).toArray) :
    ∃ (v : Option Value) (vm₁ : Vm) (B : Pt), s.WarmedH vm₁ ∧ Stand p l e R s m args below meth c B.U B.locs B.cells B.slots ∧ Post ⟨T.setVm vm₁, locs, cells, slots⟩ (Value.ref b :: argsL).toArray v B ∧
      ∀ target, Steps p.tables e below (B.U.setTop { g with pc := g.pc + 3, stack := v.toList ++ rest }) target → Steps p.tables e below (T.setTop g) target := by
  obtain ⟨mk, methM, hnamed, hmethM, hstM, habM⟩ := Cond.instanceMethod_spec hinst
  obtain ⟨m8, methM', cM, hn8, hmethM', -, -, -, -, -, -, hsigM⟩ := Cond.codeWith_spec hcode
  cases Option.some.inj (hn8.symm.trans hnamed)
  cases hmethM.symm.trans hmethM'
  obtain ⟨c2, r2, m2, q1, q2, q3, q4, kP, hkP, hkPi⟩ := Cond.selects_spec hsel
  cases hcls.symm.trans q1
  cases (State.methodFound?_of_named hnamed hy).symm.trans q2
  cases hnamed.symm.trans q3
  have hselP : selectMethod e.platform s.vm cellB.cls mk = .method mk := by rw [Launch.admits_selectMethod X.admits]; exact q4
  obtain ⟨vm₁, X₁, hstep₁⟩ := X.invokevirtual hexec hown hlink hnamed hmethM hstM hkP hkPi hy (a := b) (cell := cellB) hcell
    (fun z h => by rw [h] at hobj; cases hobj) hselP hmethM habM hkP hkPi (g := g) hg (argsL := argsL) (rest := rest) (hlen _ hsigM) hstack hdg
  obtain ⟨v, B, X', hpost, hsteps⟩ := hK m meth c ⟨T.setVm vm₁, locs, cells, slots⟩ { g with stack := rest } (.invokevirtual index) mk (Value.ref b :: argsL).toArray X₁ hg hsize hdg hW (X₁.named hnamed) (hpre vm₁ X₁.warmed)
  exact ⟨v, vm₁, B, X₁.warmed, X', hpost, fun target h => hstep₁ _ fun acts => by rw [doInvoke_state]; exact hsteps.trans h⟩
abbrev vx_CVW (R : Room) (s : State) (args : Array Value) (own C : String) (index : Nat) (y : MethodName) (bytes : ByteArray) (maxL : Nat) (ret : Option FieldType) (hh : List (Nat × Nat × Nat × Nat)) (ws : List Cond) (rm : Room) (mc ms n : Nat) : Prop :=
  (rm.cells = mc ∧ rm.slots = ms ∧ rm.frames + 1 ≤ R.frames ∧ 8 + (maxL + 11) + rm.locals ≤ R.locals ∧ (∀ w ∈ ws, ∀ (a' : Array Value) (U : State), s.WarmedH U.vm → w.before a' U = true) ∧ Cond.codeWith y bytes maxL ret hh ∈ ws) ∧
  (Cond.codeWith y bytes maxL ret hh).before args s = true ∧ (Cond.initialized y.cls).before args s = true ∧ (y.cls ≠ "java/lang/invoke/MethodHandle" ∧ y.cls ≠ "java/lang/invoke/VarHandle") ∧
  (∀ sig, parseMethodDescriptor y.desc = some sig → n = sig.parameters.length) ∧ (Cond.methodLink own index y).before args s = true ∧ (Cond.instanceMethod y).before args s = true ∧ (Cond.selects C y y).before args s = true
theorem vx_cwVW {own C : String} {index maxL mc ms : Nat} {y : MethodName} {bytes : ByteArray} {ret : Option FieldType} {hh : List (Nat × Nat × Nat × Nat)} {Ts ws ws' : List Cond} {rm : Room} (n : Nat) (ht : ∀ w ∈ Ts, w.before args s = true) (hT : GoodIn Ts (wsV own index C y ws)) (hw : ws = Cond.codeWith y bytes maxL ret hh :: ws') (hrc : rm.cells = mc) (hrs : rm.slots = ms)
    (hd : y.cls = C ∧ y.cls ≠ "java/lang/invoke/MethodHandle" ∧ y.cls ≠ "java/lang/invoke/VarHandle" ∧ (parseMethodDescriptor y.desc).map (fun d => d.parameters.length) = some n) (hR : rm.frames + 1 ≤ R.frames ∧ 8 + (maxL + 11) + rm.locals ≤ R.locals) :
    vx_CVW R s args own C index y bytes maxL ret hh ws rm mc ms n := by
  obtain ⟨hC, hd⟩ := hd
  subst hC
  have ok : ∀ w ∈ wsV own index y.cls y ws, w.before args s = true := fun w h => ht w (hT w h).1
  have hG : GoodIn Ts ws := fun w h => hT w (by unfold wsV; exact List.mem_append_right _ h)
  have hc : Cond.codeWith y bytes maxL ret hh ∈ ws := by rw [hw]; exact List.mem_cons_self
  refine ⟨⟨hrc, hrs, hR.1, hR.2, pay_in ht hG, hc⟩, ht _ (hG _ hc).1, ok _ (by simp [wsV]), ⟨hd.1, hd.2.1⟩, fun sig h => ?_, ok _ (by simp [wsV]), ok _ (by simp [wsV]), ok _ (by simp [wsV])⟩
  have h2 := hd.2.2
  rw [h] at h2
  exact (Option.some.inj h2).symm
theorem vx_runVW {y : MethodName} {bytes cc : ByteArray} {maxL nL mc ms n index : Nat} {ret : Option FieldType} {hh : List (Nat × Nat × Nat × Nat)} {ws : List Cond} {rm : Room} {Pc : Array Value → State → Prop} {Qc : Array Value → State → Outcome → State → Prop} {free : Addr → Prop} {Ts : List Cond} {own C : String} {b : Addr} {As rest : List Value} {g : JFrame}
    (S : CallFix p m c cc nL s args Ts own) (hM : Met l y ws rm Pc Qc mc ms free) (cw : vx_CVW R s args own C index y bytes maxL ret hh ws rm mc ms n) (hp : PreV s H C b Pc As)
    (hg : g.method = m) (hn : As.length = n) (hsize : g.locals.size = nL) (hstack : g.stack = As.reverse ++ .ref b :: rest) (hW : 2 * g.monitorRoom + (rest.map fun v => v.category).sum ≤ 8) (hdg : decode cc g.pc = .ok (.invokevirtual index, 3)) (hf : cells + mc ≤ R.cells ∧ slots + ms ≤ R.slots) :
    va_Run p l e R s m args below meth c H locs cells slots mc ms g rest (Qc (Value.ref b :: As).toArray) free := by
  obtain ⟨⟨hrc, hrs, hfr, hlo, hws, hcw⟩, hcode, hini, hy, hlen, hl, hin, hse⟩ := cw
  have hK : Back l R p e below s args y 3 8 (PreOf R mc ms Pc) (PostOf Qc mc ms free) := va_backW (hh := hh) (bytes := bytes) (maxL := maxL) (ret := ret) hM hp.1 hrc hrs hfr hlo hws hcw (fun a' U hW => word_at hW (Or.inl (by first | rfl | simp [Cond.onTables, Cond.keeps, Cond.steady])) hini)
  obtain ⟨hx, hb, hml, ho, -⟩ := S
  obtain ⟨-, ⟨cellB, hcB, hoB, hclB⟩, hPc⟩ := hp
  intro T hT X
  obtain ⟨v, vm₁, ⟨U', l2, c2, s2⟩, hW₁, X', ⟨g', mk, t, L, e1, e2, hq, h1, hL, h2, h3⟩, st⟩ := vx_callVW X hx (C := C) (hh := hh) (bytes := bytes) (maxL := maxL) (ret := ret) ho hl hin hse hcode hy hK (by rw [hT]; exact hcB) hoB hclB hg (hsize.trans hml.symm) (argsL := As) (rest := rest) (fun sig h => hn.trans (hlen sig h)) hstack hW (by rw [hb]; exact hdg)
    (fun vm₁ hW₁ => ⟨hf.1, hf.2, hPc (T.setVm vm₁) hT hW₁⟩)
  dsimp only [Pt.U, Pt.locs, Pt.cells, Pt.slots] at X' e1 e2 h1 h2 h3 st
  subst h1; subst h2; subst h3
  exact ⟨v, (T.setVm vm₁).calling g' mk (Value.ref b :: As).toArray, t, U', L, hT, X', hL, e1, e2, hq, st⟩
section
variable {y : MethodName} {bytes cc : ByteArray} {maxL nL mc ms n index : Nat} {ret : Option FieldType} {ws : List Cond} {rm : Room} {Pc : Array Value → State → Prop} {Qc : Array Value → State → Outcome → State → Prop} {XC : String → State → State → Prop} {free : Addr → Prop} {Ts : List Cond} {own C : String} {b : Addr} {As rest : List Value} {g : JFrame}
theorem vx_runVX {hh : List (Nat × Nat × Nat × Nat)} (S : CallFix p m c cc nL s args Ts own) (hM : vx_Met l y ws rm Pc Qc XC mc ms free) (cw : vx_CVW R s args own C index y bytes maxL ret hh ws rm mc ms n) (hp : PreV s H C b Pc As)
    (hg : g.method = m) (hn : As.length = n) (hsize : g.locals.size = nL) (hstack : g.stack = As.reverse ++ .ref b :: rest) (hW : 2 * g.monitorRoom + (rest.map fun v => v.category).sum ≤ 8) (hdg : decode cc g.pc = .ok (.invokevirtual index, 3)) (hf : cells + mc ≤ R.cells ∧ slots + ms ≤ R.slots) :
    vx_Run p l e R s m args below meth c H locs cells slots mc ms g rest (Qc (Value.ref b :: As).toArray) XC free := by
  obtain ⟨⟨hrc, hrs, hfr, hlo, hws, hcw⟩, hcode, hini, hy, hlen, hl, hin, hse⟩ := cw
  have hK : vx_Back l R p e below s args y 3 8 (PreOf R mc ms Pc) (PostOf Qc mc ms free) (vx_Post XC mc ms free) := vx_backW (hh := hh) (bytes := bytes) (maxL := maxL) (ret := ret) hM hp.1 hrc hrs hfr hlo hws hcw (fun a' U hW => word_at hW (Or.inl (by first | rfl | simp [Cond.onTables, Cond.keeps, Cond.steady])) hini)
  obtain ⟨hx, hb, hml, ho, -⟩ := S
  obtain ⟨-, ⟨cellB, hcB, hoB, hclB⟩, hPc⟩ := hp
  intro T hT X
  rcases vx_callVX X hx (C := C) (hh := hh) (bytes := bytes) (maxL := maxL) (ret := ret) ho hl hin hse hcode hy hK (by rw [hT]; exact hcB) hoB hclB hg (hsize.trans hml.symm) (argsL := As) (rest := rest) (fun sig h => hn.trans (hlen sig h)) hstack hW (by rw [hb]; exact hdg)
    (fun vm₁ hW₁ => ⟨hf.1, hf.2, hPc (T.setVm vm₁) hT hW₁⟩) with ⟨v, vm₁, ⟨U', l2, c2, s2⟩, hW₁, X', ⟨g', mk, t, L, e1, e2, hq, h1, hL, h2, h3⟩, st⟩ | ⟨q, vm₁, ⟨U', l2, c2, s2⟩, hW₁, X', ⟨g', mk, t, L, E, ce, e1, e2, hq, hce, hcv, hcl, h1, hL, h2, h3⟩, st⟩
  · dsimp only [Pt.U, Pt.locs, Pt.cells, Pt.slots] at X' e1 e2 h1 h2 h3 st
    subst h1; subst h2; subst h3
    exact Or.inl ⟨v, (T.setVm vm₁).calling g' mk (Value.ref b :: As).toArray, t, U', L, hT, X', hL, e1, e2, hq, st⟩
  · dsimp only [Pt.U, Pt.locs, Pt.cells, Pt.slots] at X' e1 e2 h1 h2 h3 st hcl
    subst h1; subst h2; subst h3
    exact Or.inr ⟨q, (T.setVm vm₁).calling g' mk (Value.ref b :: As).toArray, t, U', L, E, ce, hT, X', hL, e1, e2, hq, hce, hcv, vx_cls hW₁ hcl, st⟩
theorem vx_runSX {hh : List (Nat × Nat × Nat × Nat)} (S : CallFix p m c cc nL s args Ts own) (hM : vx_Met l y ws rm Pc Qc XC mc ms free) (cw : vx_CSW R s args own index y bytes maxL ret hh ws rm mc ms n) (hp : PreS s H Pc As)
    (hg : g.method = m) (hn : As.length = n) (hsize : g.locals.size = nL) (hstack : g.stack = As.reverse ++ rest) (hW : 2 * g.monitorRoom + (rest.map fun v => v.category).sum ≤ 8) (hdg : decode cc g.pc = .ok (.invokestatic index, 3)) (hf : cells + mc ≤ R.cells ∧ slots + ms ≤ R.slots) :
    vx_Run p l e R s m args below meth c H locs cells slots mc ms g rest (Qc As.toArray) XC free := by
  obtain ⟨⟨hrc, hrs, hfr, hlo, hws, hcw⟩, hcode, hini, hy, hlen, hl, hstt⟩ := cw
  have hK : vx_Back l R p e below s args y 3 8 (PreOf R mc ms Pc) (PostOf Qc mc ms free) (vx_Post XC mc ms free) := vx_backW (hh := hh) (bytes := bytes) (maxL := maxL) (ret := ret) hM hp.1 hrc hrs hfr hlo hws hcw (fun a' U hW => word_at hW (Or.inl (by first | rfl | simp [Cond.onTables, Cond.keeps, Cond.steady])) hini)
  obtain ⟨hx, hb, hml, ho, -⟩ := S
  intro T hT X
  rcases vx_callSX X hx (hh := hh) (bytes := bytes) (maxL := maxL) (ret := ret) ho hl hstt hini hcode hy hK hg (hsize.trans hml.symm) (argsL := As) (rest := rest) (fun sig h => hn.trans (hlen sig h)) hstack hW (by rw [hb]; exact hdg)
    (fun vm₁ hW₁ => ⟨hf.1, hf.2, hp.2 (T.setVm vm₁) hT hW₁⟩) with ⟨v, vm₁, ⟨U', l2, c2, s2⟩, hW₁, X', ⟨g', mk, t, L, e1, e2, hq, h1, hL, h2, h3⟩, st⟩ | ⟨q, vm₁, ⟨U', l2, c2, s2⟩, hW₁, X', ⟨g', mk, t, L, E, ce, e1, e2, hq, hce, hcv, hcl, h1, hL, h2, h3⟩, st⟩
  · dsimp only [Pt.U, Pt.locs, Pt.cells, Pt.slots] at X' e1 e2 h1 h2 h3 st
    subst h1; subst h2; subst h3
    exact Or.inl ⟨v, (T.setVm vm₁).calling g' mk As.toArray, t, U', L, hT, X', hL, e1, e2, hq, st⟩
  · dsimp only [Pt.U, Pt.locs, Pt.cells, Pt.slots] at X' e1 e2 h1 h2 h3 st hcl
    subst h1; subst h2; subst h3
    exact Or.inr ⟨q, (T.setVm vm₁).calling g' mk As.toArray, t, U', L, E, ce, hT, X', hL, e1, e2, hq, hce, hcv, vx_cls hW₁ hcl, st⟩
end
end VXH
theorem vx_ofWH {l : Launch} {y : MethodName} {ws ws' : List Cond} {rm : Room} {Pc : Array Value → State → Prop} {Qc : Array Value → State → Outcome → State → Prop} {XC : String → State → State → Prop} {mc ms : Nat} {free : Addr → Prop} {cc : ByteArray} {maxL : Nat} {ret : Option FieldType} {hh : List (Nat × Nat × Nat × Nat)}
    (hy : plainName y.cls = true) (hw : ws = Cond.codeWith y cc maxL ret hh :: ws')
    (body : ∀ p e s m args below meth c s₁, BodyLoose p l y (headSpec ws rm) cc maxL ret e s m args below meth c s₁ → c.maxLocals = maxL → Pc args s →
      W p l e (headSpec ws rm).room s m args below meth c s.heap [] 0 0 (vx_MQ below Qc XC args s mc ms free) (entryFrame m args maxL)) : vx_Met l y ws rm Pc Qc XC mc ms free := by
  refine MetFree.of_bodyS (code := cc) (maxLocals := maxL) (ret := ret) hy ?_ ?_
  · intro args s m h hn
    obtain ⟨m9, meth, c, hn9, h1, h2, h3, h4, -, h5, h6, -⟩ := Cond.codeWith_spec (atoms_spec (ws := ws) h _ (by rw [hw]; exact List.mem_cons_self))
    cases hn.symm.trans hn9
    exact ⟨meth, c, h1, h2, h3, h4, h5, h6⟩
  · intro p e s m args below meth c s₁ B hml hP _
    have hh0 : s₁.heap = s.heap := by rw [B.state]; rfl
    obtain ⟨t, a1, o, b1, b2, b3⟩ := body p e s m args below meth c s₁ B hml hP s₁ hh0 (Stand.of_body B)
    exact ⟨t, o, a1, b1, b2, b3⟩
/-! ===== END ===== -/
end
section
/-! ===== BEGIN printed: names, fields, word lists, decode rows ===== -/
def RX0 : String := "TapestryScene$Bounds"
def TX0 : u_T := fun k => match k with
  | 0 => ("TapestryScene$Bounds", "leastX", "LTapestryScene$Fraction;", true)
  | 1 => ("TapestryScene$Bounds", "leastY", "LTapestryScene$Fraction;", true)
  | 2 => ("TapestryScene$Bounds", "greatestX", "LTapestryScene$Fraction;", true)
  | _ => ("TapestryScene$Bounds", "greatestY", "LTapestryScene$Fraction;", true)
def tyX0 : Nat → FieldType := fun k => match k with
  | 0 => .object "TapestryScene$Fraction"
  | 1 => .object "TapestryScene$Fraction"
  | 2 => .object "TapestryScene$Fraction"
  | _ => .object "TapestryScene$Fraction"
abbrev wsX00 : List Cond := u_ws RX0 TX0 4
theorem nmX0 : ∀ a, a < 4 → ∀ b, b < 4 → a ≠ b → (TX0 a).2.1 ≠ (TX0 b).2.1 := by decide +kernel
theorem tyX0_ok : ∀ k, k < 4 → parseFieldDescriptor (TX0 k).2.2.1 = some (tyX0 k) := by decide +kernel
abbrev cX0_init : ByteArray := prog_2_method_1_code
def yX0_init : MethodName := ⟨RX0, "<init>", "()V"⟩
abbrev cX0_clear : ByteArray := prog_2_method_2_code
def yX0_clear : MethodName := ⟨RX0, "clear", "()V"⟩
abbrev cX0_include : ByteArray := prog_2_method_3_code
def yX0_include : MethodName := ⟨RX0, "include", "(LTapestryScene$Point;)V"⟩
abbrev cX0_side : ByteArray := prog_2_method_4_code
def yX0_side : MethodName := ⟨RX0, "side", "(I)LTapestryScene$Fraction;"⟩
def RX1 : String := "TapestryScene$Fraction"
def TX1 : u_T := fun k => match k with
  | 0 => ("TapestryScene$Fraction", "over", "J", false)
  | _ => ("TapestryScene$Fraction", "under", "J", false)
def tyX1 : Nat → FieldType := fun k => match k with
  | 0 => .long
  | _ => .long
abbrev wsX10 : List Cond := u_ws RX1 TX1 2
theorem nmX1 : ∀ a, a < 2 → ∀ b, b < 2 → a ≠ b → (TX1 a).2.1 ≠ (TX1 b).2.1 := by decide +kernel
theorem tyX1_ok : ∀ k, k < 2 → parseFieldDescriptor (TX1 k).2.2.1 = some (tyX1 k) := by decide +kernel
abbrev cX1_init : ByteArray := prog_3_method_1_code
def yX1_init : MethodName := ⟨RX1, "<init>", "()V"⟩
abbrev cX1_set : ByteArray := prog_3_method_2_code
def yX1_set : MethodName := ⟨RX1, "set", "(JJ)V"⟩
abbrev cX1_lowerTo : ByteArray := prog_3_method_3_code
def yX1_lowerTo : MethodName := ⟨RX1, "lowerTo", "(JJ)V"⟩
abbrev cX1_raiseTo : ByteArray := prog_3_method_4_code
def yX1_raiseTo : MethodName := ⟨RX1, "raiseTo", "(JJ)V"⟩
def RX2 : String := "TapestryScene$Frame"
def TX2 : u_T := fun k => match k with
  | 0 => ("TapestryScene$Frame", "left", "I", true)
  | 1 => ("TapestryScene$Frame", "top", "I", true)
  | 2 => ("TapestryScene$Frame", "right", "I", true)
  | _ => ("TapestryScene$Frame", "bottom", "I", true)
def tyX2 : Nat → FieldType := fun k => match k with
  | 0 => .int
  | 1 => .int
  | 2 => .int
  | _ => .int
abbrev wsX20 : List Cond := u_ws RX2 TX2 4
theorem nmX2 : ∀ a, a < 4 → ∀ b, b < 4 → a ≠ b → (TX2 a).2.1 ≠ (TX2 b).2.1 := by decide +kernel
theorem tyX2_ok : ∀ k, k < 4 → parseFieldDescriptor (TX2 k).2.2.1 = some (tyX2 k) := by decide +kernel
abbrev cX2_init : ByteArray := prog_4_method_1_code
def yX2_init : MethodName := ⟨RX2, "<init>", "(IIII)V"⟩
abbrev cX2_holds : ByteArray := prog_4_method_2_code
def yX2_holds : MethodName := ⟨RX2, "holds", "(LTapestryScene$Point;)Z"⟩
abbrev cX2_isAheadOfSlope : ByteArray := prog_4_method_3_code
def yX2_isAheadOfSlope : MethodName := ⟨RX2, "isAheadOfSlope", "(LTapestryScene$Point;)Z"⟩
def RX3 : String := "TapestryScene$Key"
def TX3 : u_T := fun k => match k with
  | 0 => ("TapestryScene$Key", "time", "I", true)
  | 1 => ("TapestryScene$Key", "value", "I", false)
  | _ => ("TapestryScene$Key", "next", "LTapestryScene$Key;", false)
def tyX3 : Nat → FieldType := fun k => match k with
  | 0 => .int
  | 1 => .int
  | _ => .object "TapestryScene$Key"
abbrev wsX30 : List Cond := u_ws RX3 TX3 3
theorem nmX3 : ∀ a, a < 3 → ∀ b, b < 3 → a ≠ b → (TX3 a).2.1 ≠ (TX3 b).2.1 := by decide +kernel
theorem tyX3_ok : ∀ k, k < 3 → parseFieldDescriptor (TX3 k).2.2.1 = some (tyX3 k) := by decide +kernel
abbrev cX3_init : ByteArray := prog_5_method_1_code
def yX3_init : MethodName := ⟨RX3, "<init>", "(II)V"⟩
def RX4 : String := "TapestryScene$Node"
def TX4 : u_T := fun k => match k with
  | 0 => ("TapestryScene$Node", "number", "I", true)
  | 1 => ("TapestryScene$Node", "kind", "I", true)
  | 2 => ("TapestryScene$Node", "frame", "LTapestryScene$Frame;", true)
  | 3 => ("TapestryScene$Node", "x", "LTapestryScene$Property;", true)
  | 4 => ("TapestryScene$Node", "y", "LTapestryScene$Property;", true)
  | 5 => ("TapestryScene$Node", "turns", "LTapestryScene$Property;", true)
  | 6 => ("TapestryScene$Node", "opacity", "LTapestryScene$Property;", true)
  | 7 => ("TapestryScene$Node", "over", "I", false)
  | 8 => ("TapestryScene$Node", "under", "I", false)
  | 9 => ("TapestryScene$Node", "isMirrored", "Z", false)
  | 10 => ("TapestryScene$Node", "layer", "I", false)
  | 11 => ("TapestryScene$Node", "isHidden", "Z", false)
  | 12 => ("TapestryScene$Node", "cut", "LTapestryScene$Frame;", false)
  | 13 => ("TapestryScene$Node", "isGone", "Z", false)
  | 14 => ("TapestryScene$Node", "parent", "LTapestryScene$Node;", false)
  | 15 => ("TapestryScene$Node", "firstHanging", "LTapestryScene$Node;", false)
  | 16 => ("TapestryScene$Node", "nextHanging", "LTapestryScene$Node;", false)
  | 17 => ("TapestryScene$Node", "before", "LTapestryScene$Node;", false)
  | _ => ("TapestryScene$Node", "place", "I", false)
def tyX4 : Nat → FieldType := fun k => match k with
  | 0 => .int
  | 1 => .int
  | 2 => .object "TapestryScene$Frame"
  | 3 => .object "TapestryScene$Property"
  | 4 => .object "TapestryScene$Property"
  | 5 => .object "TapestryScene$Property"
  | 6 => .object "TapestryScene$Property"
  | 7 => .int
  | 8 => .int
  | 9 => .boolean
  | 10 => .int
  | 11 => .boolean
  | 12 => .object "TapestryScene$Frame"
  | 13 => .boolean
  | 14 => .object "TapestryScene$Node"
  | 15 => .object "TapestryScene$Node"
  | 16 => .object "TapestryScene$Node"
  | 17 => .object "TapestryScene$Node"
  | _ => .int
abbrev wsX40 : List Cond := u_ws RX4 TX4 19
theorem nmX4 : ∀ a, a < 19 → ∀ b, b < 19 → a ≠ b → (TX4 a).2.1 ≠ (TX4 b).2.1 := by decide +kernel
theorem tyX4_ok : ∀ k, k < 19 → parseFieldDescriptor (TX4 k).2.2.1 = some (tyX4 k) := by decide +kernel
abbrev cX4_init : ByteArray := prog_6_method_1_code
def yX4_init : MethodName := ⟨RX4, "<init>", "(IIII)V"⟩
abbrev cX4_property : ByteArray := prog_6_method_2_code
def yX4_property : MethodName := ⟨RX4, "property", "(I)LTapestryScene$Property;"⟩
abbrev cX4_depth : ByteArray := prog_6_method_3_code
def yX4_depth : MethodName := ⟨RX4, "depth", "()I"⟩
abbrev cX4_isWithin : ByteArray := prog_6_method_4_code
def yX4_isWithin : MethodName := ⟨RX4, "isWithin", "(LTapestryScene$Node;)Z"⟩
abbrev cX4_takeIn : ByteArray := prog_6_method_5_code
def yX4_takeIn : MethodName := ⟨RX4, "takeIn", "(LTapestryScene$Node;)V"⟩
abbrev cX4_leaveParent : ByteArray := prog_6_method_6_code
def yX4_leaveParent : MethodName := ⟨RX4, "leaveParent", "()V"⟩
abbrev cX4_countHanging : ByteArray := prog_6_method_7_code
def yX4_countHanging : MethodName := ⟨RX4, "countHanging", "()I"⟩
abbrev cX4_vanish : ByteArray := prog_6_method_8_code
def yX4_vanish : MethodName := ⟨RX4, "vanish", "()V"⟩
abbrev cX4_isShownAt : ByteArray := prog_6_method_9_code
def yX4_isShownAt : MethodName := ⟨RX4, "isShownAt", "(I)Z"⟩
abbrev cX4_differs : ByteArray := prog_6_method_10_code
def yX4_differs : MethodName := ⟨RX4, "differs", "(II)Z"⟩
abbrev cX4_owns : ByteArray := prog_6_method_11_code
def yX4_owns : MethodName := ⟨RX4, "owns", "(LTapestryScene$Point;)Z"⟩
def RX5 : String := "TapestryScene$Point"
def TX5 : u_T := fun k => match k with
  | 0 => ("TapestryScene$Point", "x", "J", false)
  | 1 => ("TapestryScene$Point", "y", "J", false)
  | 2 => ("TapestryScene$Point", "under", "J", false)
  | _ => ("TapestryScene$Point", "isCutAway", "Z", false)
def tyX5 : Nat → FieldType := fun k => match k with
  | 0 => .long
  | 1 => .long
  | 2 => .long
  | _ => .boolean
abbrev wsX50 : List Cond := u_ws RX5 TX5 4
theorem nmX5 : ∀ a, a < 4 → ∀ b, b < 4 → a ≠ b → (TX5 a).2.1 ≠ (TX5 b).2.1 := by decide +kernel
theorem tyX5_ok : ∀ k, k < 4 → parseFieldDescriptor (TX5 k).2.2.1 = some (tyX5 k) := by decide +kernel
abbrev cX5_init : ByteArray := prog_7_method_1_code
def yX5_init : MethodName := ⟨RX5, "<init>", "()V"⟩
abbrev cX5_set : ByteArray := prog_7_method_2_code
def yX5_set : MethodName := ⟨RX5, "set", "(JJJ)V"⟩
abbrev cX5_leave : ByteArray := prog_7_method_3_code
def yX5_leave : MethodName := ⟨RX5, "leave", "(LTapestryScene$Node;I)V"⟩
abbrev cX5_enter : ByteArray := prog_7_method_4_code
def yX5_enter : MethodName := ⟨RX5, "enter", "(LTapestryScene$Node;I)V"⟩
abbrev cX5_turnQuarters : ByteArray := prog_7_method_5_code
def yX5_turnQuarters : MethodName := ⟨RX5, "turnQuarters", "(I)V"⟩
abbrev cX5_part : ByteArray := prog_7_method_6_code
def yX5_part : MethodName := ⟨RX5, "part", "(I)J"⟩
def RX6 : String := "TapestryScene$Property"
def TX6 : u_T := fun k => match k with
  | 0 => ("TapestryScene$Property", "least", "I", true)
  | 1 => ("TapestryScene$Property", "most", "I", true)
  | 2 => ("TapestryScene$Property", "own", "I", false)
  | 3 => ("TapestryScene$Property", "isTracked", "Z", false)
  | 4 => ("TapestryScene$Property", "isOver", "Z", false)
  | 5 => ("TapestryScene$Property", "ease", "I", false)
  | 6 => ("TapestryScene$Property", "end", "I", false)
  | 7 => ("TapestryScene$Property", "firstKey", "LTapestryScene$Key;", false)
  | _ => ("TapestryScene$Property", "keyCount", "I", false)
def tyX6 : Nat → FieldType := fun k => match k with
  | 0 => .int
  | 1 => .int
  | 2 => .int
  | 3 => .boolean
  | 4 => .boolean
  | 5 => .int
  | 6 => .int
  | 7 => .object "TapestryScene$Key"
  | _ => .int
abbrev wsX60 : List Cond := u_ws RX6 TX6 9
theorem nmX6 : ∀ a, a < 9 → ∀ b, b < 9 → a ≠ b → (TX6 a).2.1 ≠ (TX6 b).2.1 := by decide +kernel
theorem tyX6_ok : ∀ k, k < 9 → parseFieldDescriptor (TX6 k).2.2.1 = some (tyX6 k) := by decide +kernel
abbrev cX6_init : ByteArray := prog_8_method_1_code
def yX6_init : MethodName := ⟨RX6, "<init>", "(III)V"⟩
abbrev cX6_allows : ByteArray := prog_8_method_2_code
def yX6_allows : MethodName := ⟨RX6, "allows", "(I)Z"⟩
abbrev cX6_keyAt : ByteArray := prog_8_method_3_code
def yX6_keyAt : MethodName := ⟨RX6, "keyAt", "(I)LTapestryScene$Key;"⟩
abbrev cX6_putKey : ByteArray := prog_8_method_4_code
def yX6_putKey : MethodName := ⟨RX6, "putKey", "(II)V"⟩
abbrev cX6_endTrack : ByteArray := prog_8_method_6_code
def yX6_endTrack : MethodName := ⟨RX6, "endTrack", "()V"⟩
abbrev cX6_nextKeyTime : ByteArray := prog_8_method_7_code
def yX6_nextKeyTime : MethodName := ⟨RX6, "nextKeyTime", "(I)I"⟩
abbrev cX6_differs : ByteArray := prog_8_method_8_code
def yX6_differs : MethodName := ⟨RX6, "differs", "(II)Z"⟩
abbrev cX6_at : ByteArray := prog_8_method_9_code
def yX6_at : MethodName := ⟨RX6, "at", "(I)I"⟩
abbrev cX6_countedTime : ByteArray := prog_8_method_10_code
def yX6_countedTime : MethodName := ⟨RX6, "countedTime", "(III)I"⟩
abbrev cX6_valueFrom : ByteArray := prog_8_method_11_code
def yX6_valueFrom : MethodName := ⟨RX6, "valueFrom", "(LTapestryScene$Key;I)I"⟩
abbrev cX6_lastKeyUpTo : ByteArray := prog_8_method_12_code
def yX6_lastKeyUpTo : MethodName := ⟨RX6, "lastKeyUpTo", "(I)LTapestryScene$Key;"⟩
def RX7 : String := "TapestryScene"
def TX7 : u_T := fun k => match k with
  | 0 => ("TapestryScene", "nodes", "[LTapestryScene$Node;", true)
  | 1 => ("TapestryScene", "tracks", "[LTapestryScene$Property;", true)
  | 2 => ("TapestryScene", "whole", "LTapestryScene$Node;", true)
  | 3 => ("TapestryScene", "point", "LTapestryScene$Point;", true)
  | 4 => ("TapestryScene", "bounds", "LTapestryScene$Bounds;", true)
  | 5 => ("TapestryScene", "added", "I", false)
  | 6 => ("TapestryScene", "tracked", "I", false)
  | 7 => ("TapestryScene", "time", "I", false)
  | 8 => ("TapestryScene", "last", "LTapestryScene$Node;", false)
  | _ => ("TapestryScene", "ordered", "I", false)
def tyX7 : Nat → FieldType := fun k => match k with
  | 0 => .array (.object "TapestryScene$Node")
  | 1 => .array (.object "TapestryScene$Property")
  | 2 => .object "TapestryScene$Node"
  | 3 => .object "TapestryScene$Point"
  | 4 => .object "TapestryScene$Bounds"
  | 5 => .int
  | 6 => .int
  | 7 => .int
  | 8 => .object "TapestryScene$Node"
  | _ => .int
abbrev wsX70 : List Cond := u_ws RX7 TX7 10
theorem nmX7 : ∀ a, a < 10 → ∀ b, b < 10 → a ≠ b → (TX7 a).2.1 ≠ (TX7 b).2.1 := by decide +kernel
theorem tyX7_ok : ∀ k, k < 10 → parseFieldDescriptor (TX7 k).2.2.1 = some (tyX7 k) := by decide +kernel
abbrev cX7_init : ByteArray := prog_1_method_1_code
def yX7_init : MethodName := ⟨RX7, "<init>", "()V"⟩
abbrev cX7_add : ByteArray := prog_1_method_2_code
def yX7_add : MethodName := ⟨RX7, "add", "(IIII)I"⟩
abbrev cX7_remove : ByteArray := prog_1_method_3_code
def yX7_remove : MethodName := ⟨RX7, "remove", "(I)I"⟩
abbrev cX7_hang : ByteArray := prog_1_method_4_code
def yX7_hang : MethodName := ⟨RX7, "hang", "(II)I"⟩
abbrev cX7_move : ByteArray := prog_1_method_5_code
def yX7_move : MethodName := ⟨RX7, "move", "(III)I"⟩
abbrev cX7_scale : ByteArray := prog_1_method_6_code
def yX7_scale : MethodName := ⟨RX7, "scale", "(III)I"⟩
abbrev cX7_turn : ByteArray := prog_1_method_7_code
def yX7_turn : MethodName := ⟨RX7, "turn", "(IIZ)I"⟩
abbrev cX7_look : ByteArray := prog_1_method_8_code
def yX7_look : MethodName := ⟨RX7, "look", "(IIIZ)I"⟩
abbrev cX7_cut : ByteArray := prog_1_method_9_code
def yX7_cut : MethodName := ⟨RX7, "cut", "(IIIII)Z"⟩
abbrev cX7_uncut : ByteArray := prog_1_method_10_code
def yX7_uncut : MethodName := ⟨RX7, "uncut", "(I)Z"⟩
abbrev cX7_nodes : ByteArray := prog_1_method_12_code
def yX7_nodes : MethodName := ⟨RX7, "nodes", "()I"⟩
abbrev cX7_parent : ByteArray := prog_1_method_13_code
def yX7_parent : MethodName := ⟨RX7, "parent", "(I)I"⟩
abbrev cX7_level : ByteArray := prog_1_method_14_code
def yX7_level : MethodName := ⟨RX7, "level", "(I)I"⟩
abbrev cX7_common : ByteArray := prog_1_method_15_code
def yX7_common : MethodName := ⟨RX7, "common", "(II)I"⟩
abbrev cX7_track : ByteArray := prog_1_method_16_code
def yX7_track : MethodName := ⟨RX7, "track", "(IIII)I"⟩
abbrev cX7_key : ByteArray := prog_1_method_17_code
def yX7_key : MethodName := ⟨RX7, "key", "(III)I"⟩
abbrev cX7_setTime : ByteArray := prog_1_method_19_code
def yX7_setTime : MethodName := ⟨RX7, "setTime", "(I)I"⟩
abbrev cX7_nextKey : ByteArray := prog_1_method_22_code
def yX7_nextKey : MethodName := ⟨RX7, "nextKey", "()I"⟩
abbrev cX7_toWhole : ByteArray := prog_1_method_23_code
def yX7_toWhole : MethodName := ⟨RX7, "toWhole", "(IIII)I"⟩
abbrev cX7_fromWhole : ByteArray := prog_1_method_24_code
def yX7_fromWhole : MethodName := ⟨RX7, "fromWhole", "(IIII)I"⟩
abbrev cX7_between : ByteArray := prog_1_method_25_code
def yX7_between : MethodName := ⟨RX7, "between", "(IIIII)I"⟩
abbrev cX7_bound : ByteArray := prog_1_method_26_code
def yX7_bound : MethodName := ⟨RX7, "bound", "(IIZ)I"⟩
abbrev cX7_isShown : ByteArray := prog_1_method_27_code
def yX7_isShown : MethodName := ⟨RX7, "isShown", "(I)Z"⟩
abbrev cX7_strength : ByteArray := prog_1_method_28_code
def yX7_strength : MethodName := ⟨RX7, "strength", "(I)I"⟩
abbrev cX7_orderAt : ByteArray := prog_1_method_29_code
def yX7_orderAt : MethodName := ⟨RX7, "orderAt", "(I)I"⟩
abbrev cX7_placeOf : ByteArray := prog_1_method_30_code
def yX7_placeOf : MethodName := ⟨RX7, "placeOf", "(I)I"⟩
abbrev cX7_covers : ByteArray := prog_1_method_31_code
def yX7_covers : MethodName := ⟨RX7, "covers", "(IIII)Z"⟩
abbrev cX7_pick : ByteArray := prog_1_method_32_code
def yX7_pick : MethodName := ⟨RX7, "pick", "(III)I"⟩
abbrev cX7_many : ByteArray := prog_1_method_33_code
def yX7_many : MethodName := ⟨RX7, "many", "(III)I"⟩
abbrev cX7_through : ByteArray := prog_1_method_34_code
def yX7_through : MethodName := ⟨RX7, "through", "(III)I"⟩
abbrev cX7_changes : ByteArray := prog_1_method_35_code
def yX7_changes : MethodName := ⟨RX7, "changes", "(II)I"⟩
abbrev cX7_pickWithout : ByteArray := prog_1_method_36_code
def yX7_pickWithout : MethodName := ⟨RX7, "pickWithout", "(IIII)I"⟩
abbrev cX7_nextPick : ByteArray := prog_1_method_37_code
def yX7_nextPick : MethodName := ⟨RX7, "nextPick", "(IIII)I"⟩
abbrev cX7_digest : ByteArray := prog_1_method_39_code
def yX7_digest : MethodName := ⟨RX7, "digest", "()J"⟩
abbrev cX7_nodeOrNull : ByteArray := prog_1_method_40_code
def yX7_nodeOrNull : MethodName := ⟨RX7, "nodeOrNull", "(I)LTapestryScene$Node;"⟩
abbrev cX7_found : ByteArray := prog_1_method_41_code
def yX7_found : MethodName := ⟨RX7, "found", "(I)LTapestryScene$Node;"⟩
abbrev cX7_foundBelowWhole : ByteArray := prog_1_method_42_code
def yX7_foundBelowWhole : MethodName := ⟨RX7, "foundBelowWhole", "(I)LTapestryScene$Node;"⟩
abbrev cX7_foundTrack : ByteArray := prog_1_method_43_code
def yX7_foundTrack : MethodName := ⟨RX7, "foundTrack", "(I)LTapestryScene$Property;"⟩
abbrev cX7_isFrom : ByteArray := prog_1_method_44_code
def yX7_isFrom : MethodName := ⟨RX7, "isFrom", "(III)Z"⟩
abbrev cX7_checkTime : ByteArray := prog_1_method_45_code
def yX7_checkTime : MethodName := ⟨RX7, "checkTime", "(I)V"⟩
abbrev cX7_checkPoint : ByteArray := prog_1_method_46_code
def yX7_checkPoint : MethodName := ⟨RX7, "checkPoint", "(III)V"⟩
abbrev cX7_checkSpot : ByteArray := prog_1_method_47_code
def yX7_checkSpot : MethodName := ⟨RX7, "checkSpot", "(III)V"⟩
abbrev cX7_parentNumber : ByteArray := prog_1_method_48_code
def yX7_parentNumber : MethodName := ⟨RX7, "parentNumber", "(LTapestryScene$Node;)I"⟩
abbrev cX7_depthUnder : ByteArray := prog_1_method_49_code
def yX7_depthUnder : MethodName := ⟨RX7, "depthUnder", "(LTapestryScene$Node;)I"⟩
abbrev cX7_layOrder : ByteArray := prog_1_method_50_code
def yX7_layOrder : MethodName := ⟨RX7, "layOrder", "()V"⟩
abbrev cX7_lay : ByteArray := prog_1_method_51_code
def yX7_lay : MethodName := ⟨RX7, "lay", "(LTapestryScene$Node;I)V"⟩
abbrev cX7_layHanging : ByteArray := prog_1_method_52_code
def yX7_layHanging : MethodName := ⟨RX7, "layHanging", "(LTapestryScene$Node;III)V"⟩
abbrev cX7_raise : ByteArray := prog_1_method_53_code
def yX7_raise : MethodName := ⟨RX7, "raise", "(LTapestryScene$Node;II)V"⟩
abbrev cX7_sink : ByteArray := prog_1_method_54_code
def yX7_sink : MethodName := ⟨RX7, "sink", "(LTapestryScene$Point;LTapestryScene$Node;II)V"⟩
abbrev cX7_gatherBounds : ByteArray := prog_1_method_55_code
def yX7_gatherBounds : MethodName := ⟨RX7, "gatherBounds", "(LTapestryScene$Node;)V"⟩
abbrev cX7_strengthOf : ByteArray := prog_1_method_56_code
def yX7_strengthOf : MethodName := ⟨RX7, "strengthOf", "(LTapestryScene$Node;II)I"⟩
abbrev cX7_coversAt : ByteArray := prog_1_method_57_code
def yX7_coversAt : MethodName := ⟨RX7, "coversAt", "(LTapestryScene$Node;IIII)Z"⟩
abbrev cX7_topAt : ByteArray := prog_1_method_58_code
def yX7_topAt : MethodName := ⟨RX7, "topAt", "(IIIILTapestryScene$Node;)I"⟩
abbrev cX7_isToldAnew : ByteArray := prog_1_method_59_code
def yX7_isToldAnew : MethodName := ⟨RX7, "isToldAnew", "(I)Z"⟩
abbrev cX7_mixed : ByteArray := prog_1_method_60_code
def yX7_mixed : MethodName := ⟨RX7, "mixed", "(JJ)J"⟩
abbrev cX7_mixedWithNode : ByteArray := prog_1_method_61_code
def yX7_mixedWithNode : MethodName := ⟨RX7, "mixedWithNode", "(JLTapestryScene$Node;)J"⟩
abbrev cX7_mixedWithPoint : ByteArray := prog_1_method_62_code
def yX7_mixedWithPoint : MethodName := ⟨RX7, "mixedWithPoint", "(J)J"⟩
abbrev cX7_commonDivisor : ByteArray := prog_1_method_63_code
def yX7_commonDivisor : MethodName := ⟨RX7, "commonDivisor", "(JJ)J"⟩
def RX8 : String := "TapestrySceneLaw$Loom"
def TX8 : u_T := fun k => match k with
  | 0 => ("TapestrySceneLaw$Loom", "m", "LTapestryScene;", true)
  | 1 => ("TapestrySceneLaw$Loom", "s", "[I", true)
  | 2 => ("TapestrySceneLaw$Loom", "draws", "I", false)
  | 3 => ("TapestrySceneLaw$Loom", "added", "I", false)
  | 4 => ("TapestrySceneLaw$Loom", "node", "[[I", true)
  | 5 => ("TapestrySceneLaw$Loom", "own", "[[I", true)
  | 6 => ("TapestrySceneLaw$Loom", "isMirrored", "[Z", true)
  | 7 => ("TapestrySceneLaw$Loom", "isHidden", "[Z", true)
  | 8 => ("TapestrySceneLaw$Loom", "cut", "[[I", true)
  | 9 => ("TapestrySceneLaw$Loom", "hangs", "I", false)
  | 10 => ("TapestrySceneLaw$Loom", "tracks", "I", false)
  | 11 => ("TapestrySceneLaw$Loom", "track", "[[I", true)
  | 12 => ("TapestrySceneLaw$Loom", "keys", "[[I", false)
  | _ => ("TapestrySceneLaw$Loom", "time", "I", false)
def tyX8 : Nat → FieldType := fun k => match k with
  | 0 => .object "TapestryScene"
  | 1 => .array .int
  | 2 => .int
  | 3 => .int
  | 4 => .array (.array .int)
  | 5 => .array (.array .int)
  | 6 => .array .boolean
  | 7 => .array .boolean
  | 8 => .array (.array .int)
  | 9 => .int
  | 10 => .int
  | 11 => .array (.array .int)
  | 12 => .array (.array .int)
  | _ => .int
abbrev wsX80 : List Cond := u_ws RX8 TX8 14
theorem nmX8 : ∀ a, a < 14 → ∀ b, b < 14 → a ≠ b → (TX8 a).2.1 ≠ (TX8 b).2.1 := by decide +kernel
theorem tyX8_ok : ∀ k, k < 14 → parseFieldDescriptor (TX8 k).2.2.1 = some (tyX8 k) := by decide +kernel
abbrev cX8_init : ByteArray := prog_10_method_1_code
def yX8_init : MethodName := ⟨RX8, "<init>", "([II)V"⟩
abbrev cX8_draw : ByteArray := prog_10_method_2_code
def yX8_draw : MethodName := ⟨RX8, "draw", "(I)I"⟩
abbrev cX8_put : ByteArray := prog_10_method_3_code
def yX8_put : MethodName := ⟨RX8, "put", "(IIIII)V"⟩
abbrev cX8_isThere : ByteArray := prog_10_method_4_code
def yX8_isThere : MethodName := ⟨RX8, "isThere", "(I)Z"⟩
abbrev cX8_any : ByteArray := prog_10_method_5_code
def yX8_any : MethodName := ⟨RX8, "any", "()I"⟩
abbrev cX8_one : ByteArray := prog_10_method_6_code
def yX8_one : MethodName := ⟨RX8, "one", "()I"⟩
abbrev cX8_level : ByteArray := prog_10_method_7_code
def yX8_level : MethodName := ⟨RX8, "level", "(I)I"⟩
abbrev cX8_isIn : ByteArray := prog_10_method_8_code
def yX8_isIn : MethodName := ⟨RX8, "isIn", "(II)Z"⟩
abbrev cX8_add : ByteArray := prog_10_method_9_code
def yX8_add : MethodName := ⟨RX8, "add", "()Z"⟩
abbrev cX8_change : ByteArray := prog_10_method_10_code
def yX8_change : MethodName := ⟨RX8, "change", "()Z"⟩
abbrev cX8_hanging : ByteArray := prog_10_method_11_code
def yX8_hanging : MethodName := ⟨RX8, "hanging", "(I)I"⟩
abbrev cX8_hang : ByteArray := prog_10_method_12_code
def yX8_hang : MethodName := ⟨RX8, "hang", "(II)Z"⟩
abbrev cX8_remove : ByteArray := prog_10_method_13_code
def yX8_remove : MethodName := ⟨RX8, "remove", "()Z"⟩
abbrev cX8_addTrack : ByteArray := prog_10_method_14_code
def yX8_addTrack : MethodName := ⟨RX8, "addTrack", "()Z"⟩
abbrev cX8_key : ByteArray := prog_10_method_15_code
def yX8_key : MethodName := ⟨RX8, "key", "(I)Z"⟩
def RX9 : String := "TapestrySceneModel"
def TX9 : u_T := fun k => match k with
  | _ => ("", "", "", false)
def tyX9 : Nat → FieldType := fun k => match k with
  | _ => .int
abbrev wsX90 : List Cond := u_ws RX9 TX9 0
theorem nmX9 : ∀ a, a < 0 → ∀ b, b < 0 → a ≠ b → (TX9 a).2.1 ≠ (TX9 b).2.1 := by decide +kernel
theorem tyX9_ok : ∀ k, k < 0 → parseFieldDescriptor (TX9 k).2.2.1 = some (tyX9 k) := by decide +kernel
def RJ9 : String := "java/lang/Math"
def TJ9 : u_T := fun k => match k with
  | _ => ("", "", "", false)
def tyJ9 : Nat → FieldType := fun k => match k with
  | _ => .int
abbrev wsJ90 : List Cond := u_ws RJ9 TJ9 0
theorem nmJ9 : ∀ a, a < 0 → ∀ b, b < 0 → a ≠ b → (TJ9 a).2.1 ≠ (TJ9 b).2.1 := by decide +kernel
theorem tyJ9_ok : ∀ k, k < 0 → parseFieldDescriptor (TJ9 k).2.2.1 = some (tyJ9 k) := by decide +kernel
abbrev cJ9_abs_0f7a4 : ByteArray := prog_16_method_59_code
def yJ9_abs_0f7a4 : MethodName := ⟨RJ9, "abs", "(I)I"⟩
abbrev cJ9_max_7cf53 : ByteArray := prog_16_method_65_code
def yJ9_max_7cf53 : MethodName := ⟨RJ9, "max", "(II)I"⟩
abbrev cJ9_min_7cf53 : ByteArray := prog_16_method_69_code
def yJ9_min_7cf53 : MethodName := ⟨RJ9, "min", "(II)I"⟩
def RJ0 : String := "java/lang/String"
def TJ0 : u_T := fun k => match k with
  | _ => ("", "", "", false)
def tyJ0 : Nat → FieldType := fun k => match k with
  | _ => .int
abbrev wsJ00 : List Cond := u_ws RJ0 TJ0 0
theorem nmJ0 : ∀ a, a < 0 → ∀ b, b < 0 → a ≠ b → (TJ0 a).2.1 ≠ (TJ0 b).2.1 := by decide +kernel
theorem tyJ0_ok : ∀ k, k < 0 → parseFieldDescriptor (TJ0 k).2.2.1 = some (tyJ0 k) := by decide +kernel
def RJ10 : String := "java/lang/System"
def TJ10 : u_T := fun k => match k with
  | _ => ("", "", "", false)
def tyJ10 : Nat → FieldType := fun k => match k with
  | _ => .int
abbrev wsJ100 : List Cond := u_ws RJ10 TJ10 0
theorem nmJ10 : ∀ a, a < 0 → ∀ b, b < 0 → a ≠ b → (TJ10 a).2.1 ≠ (TJ10 b).2.1 := by decide +kernel
theorem tyJ10_ok : ∀ k, k < 0 → parseFieldDescriptor (TJ10 k).2.2.1 = some (tyJ10 k) := by decide +kernel
def RL : String := "TapestrySceneLaw"
abbrev cL_below : ByteArray := method_2_code
def yL_below : MethodName := ⟨RL, "below", "(II)I"⟩
abbrev cL_cell : ByteArray := method_3_code
def yL_cell : MethodName := ⟨RL, "cell", "([II)I"⟩
abbrev cL_law : ByteArray := code
def yL_law : MethodName := ⟨RL, "law", "([I)Z"⟩
def fcl : List vw_C := [(RX0, TX0, 4), (RX1, TX1, 2), (RX2, TX2, 4), (RX3, TX3, 3), (RX4, TX4, 19), (RX5, TX5, 4), (RX6, TX6, 9), (RX7, TX7, 10), (RX8, TX8, 14)]
def ftl : List FieldType := [.int, .boolean, .object "TapestryScene$Node", .object "TapestryScene$Property", .array .int]
def WA : List Cond := lw_tbl.filter goodWord
theorem wIn {w : Cond} (i : Nat) (h : lw_tbl[i]? = some w) (g : goodWord w = true) : w ∈ WA := List.mem_filter.mpr ⟨List.mem_of_getElem? h, g⟩
def fStr : List (String × Nat × String) := [("TapestryScene", 343, "no such node, or it is gone"), ("TapestryScene", 349, "a time is not 0 to 9999"), ("TapestryScene", 351, "x or y is not -1000 to 1000"), ("TapestryScene", 353, "what is not 0 to 3"), ("TapestryScene", 264, "side is not 0 to 3"), ("TapestryScene", 292, "no such place"), ("TapestryScene", 355, "x or y is not -10000 to 10000"), ("TapestryScene", 357, "under is not 1 to 60"), ("TapestryScene", 310, "most is not 1 to 100"), ("TapestryScene", 62, "no such kind"), ("TapestryScene", 67, "width or height is not 1 to 200"), ("TapestryScene", 75, "30 nodes were added, or the parent is too deep"), ("TapestryScene", 345, "it is the whole"), ("TapestryScene", 126, "x or y is not -200 to 200"), ("TapestryScene", 131, "over or under is not 1 to 4"), ("TapestryScene", 142, "turns is not 0 to 3"), ("TapestryScene", 151, "layer is not -9 to 9, or opacity not 0 to 100"), ("TapestryScene", 159, "left or right is not -200 to 200, or left above right"), ("TapestryScene", 161, "top or bottom is not -200 to 200, or top above bottom"), ("TapestryScene", 104, "a node can't hang in itself, and the whole in none"), ("TapestryScene", 110, "a level would be above 4"), ("TapestryScene", 347, "no such track"), ("TapestryScene", 199, "time is not 0 to 999, or the property can't have the value"), ("TapestryScene", 211, "the node is gone, or there are 8 keys"), ("TapestryScene", 180, "no such property, ease or end"), ("TapestryScene", 188, "the whole, 12 tracks, or one of this property")]
def fNc : List (String × String) := []
def fNgood (w : Cond) : Bool := match w with
  | .methodLinkNest _ _ _ _ => true
  | .declares _ => true
  | .castable _ _ => true
  | .arrayOver (.object _) => true
  | _ => false
def fNw : List Cond := lw_tbl.filter fNgood
theorem nIn {w : Cond} (i : Nat) (h : lw_tbl[i]? = some w) (g : fNgood w = true) : w ∈ fNw := List.mem_filter.mpr ⟨List.mem_of_getElem? h, g⟩
def CT (ci : Nat) (C : String) (T : u_T) (N : Nat) (ty : Nat → FieldType) : Prop := fcl[ci]? = some (C, T, N) ∧ (∀ w ∈ u_ws C T N, w ∈ WA) ∧ (∀ k, k < N → parseFieldDescriptor (T k).2.2.1 = some (ty k)) ∧ (∀ a, a < N → ∀ b, b < N → a ≠ b → (T a).2.1 ≠ (T b).2.1)
theorem ct_0 : CT 0 RX0 TX0 4 tyX0 := ⟨rfl, by decide +kernel, tyX0_ok, nmX0⟩
theorem ct_1 : CT 1 RX1 TX1 2 tyX1 := ⟨rfl, by decide +kernel, tyX1_ok, nmX1⟩
theorem ct_2 : CT 2 RX2 TX2 4 tyX2 := ⟨rfl, by decide +kernel, tyX2_ok, nmX2⟩
theorem ct_3 : CT 3 RX3 TX3 3 tyX3 := ⟨rfl, by decide +kernel, tyX3_ok, nmX3⟩
theorem ct_4 : CT 4 RX4 TX4 19 tyX4 := ⟨rfl, by decide +kernel, tyX4_ok, nmX4⟩
theorem ct_5 : CT 5 RX5 TX5 4 tyX5 := ⟨rfl, by decide +kernel, tyX5_ok, nmX5⟩
theorem ct_6 : CT 6 RX6 TX6 9 tyX6 := ⟨rfl, by decide +kernel, tyX6_ok, nmX6⟩
theorem ct_7 : CT 7 RX7 TX7 10 tyX7 := ⟨rfl, by decide +kernel, tyX7_ok, nmX7⟩
theorem ct_8 : CT 8 RX8 TX8 14 tyX8 := ⟨rfl, by decide +kernel, tyX8_ok, nmX8⟩
end
section
/-! THE FUNCTIONAL HEAP: a state of the system is a partial function from addresses to cells, the next address, the slots made, and the caps of both; a method is a function of it. -/
section FH1
theorem obind {α β : Type} {o : Option α} {f : α → Option β} {r : β} (h : o.bind f = some r) : ∃ x, o = some x ∧ f x = some r := by
  cases o with
  | none => cases h
  | some x => exact ⟨x, rfl, h⟩
theorem opos {c : Prop} [Decidable c] {α : Type} {a b : α} {r : α} (hc : c) (h : (if c then a else b) = r) : a = r := (if_pos hc).symm.trans h
theorem oneg {c : Prop} [Decidable c] {α : Type} {a b : α} {r : α} (hc : ¬ c) (h : (if c then a else b) = r) : b = r := (if_neg hc).symm.trans h
abbrev fCe : Type := (Nat × List Value) ⊕ (Nat × vp_A)
abbrev fSt : Type := (Nat → Option fCe) × Nat × Nat × Nat × Nat × (Nat × Nat × (Nat → Int32))
def fF (h : fSt) : Nat → Option fCe := h.1
def fZ (h : fSt) : Nat := h.2.1
def fL (h : fSt) : Nat := h.2.2.1
def fCB (h : fSt) : Nat := h.2.2.2.1
def fLB (h : fSt) : Nat := h.2.2.2.2.1
/-- the script: its address, its length, its ints -/
def fX (h : fSt) : Nat × Nat × (Nat → Int32) := h.2.2.2.2.2
def fE (cA : Nat → ClassId) (e : fCe) : va_E := match e with
  | .inl o => .inr o
  | .inr a => .inl (cA a.1, a.2)
def fTys (cA : Nat → ClassId) : List (ClassId × FieldType) := ftl.zipIdx.map (fun q => (cA q.2, q.1))
def fRep (D : va_G) (cA : Nat → ClassId) (F : Nat → Option fCe) (H : Heap) : Prop := ∀ (a : Nat) (e : fCe), F a = some e → va_at D fcl (a, fE cA e) H
/-- the slots of all cells -/
def fW (H : Heap) : Nat := (H.toList.map (fun c => c.slots.size)).sum
theorem fW_eq {H H' : Heap} (h : ∀ q : Nat, (H'[q]?).map (fun c => c.slots.size) = (H[q]?).map (fun c => c.slots.size)) : fW H' = fW H := by
  unfold fW
  congr 1
  apply List.ext_getElem?
  intro q
  rw [List.getElem?_map, List.getElem?_map, Array.getElem?_toList, Array.getElem?_toList]
  exact h q
theorem fW_put {H H' : Heap} {a i : Nat} {c : Cell} {v : Value} (h0 : H[a]? = some c) (h1 : H'[a]? = some (c.setSlot i v)) (h2 : ∀ q : Nat, q ≠ a → H'[q]? = H[q]?) : fW H' = fW H := by
  apply fW_eq
  intro q
  by_cases hq : q = a
  · subst hq
    rw [h0, h1]
    simp [Cell.setSlot]
  · rw [h2 q hq]
theorem fW_push {H H' : Heap} {c : Cell} (h0 : H'.size = H.size + 1) (h1 : H'[H.size]? = some c) (h2 : ∀ q : Nat, q < H.size → H'[q]? = H[q]?) : fW H' = fW H + c.slots.size := by
  have h : H'.toList = H.toList ++ [c] := by
    apply List.ext_getElem?
    intro q
    rw [Array.getElem?_toList]
    by_cases hq : q < H.size
    · rw [h2 q hq, List.getElem?_append_left (by simpa using hq), Array.getElem?_toList]
    · by_cases hq2 : q = H.size
      · subst hq2
        rw [h1, List.getElem?_append_right (by simp)]
        simp
      · rw [Array.getElem?_eq_none (by omega), List.getElem?_eq_none (by simp; omega)]
  unfold fW
  rw [h]
  simp
theorem fW_fold (l : List Cell) (n : Nat) : l.foldl (fun n c => n + c.slots.size) n = n + (l.map (fun c => c.slots.size)).sum := by
  induction l generalizing n with
  | nil => simp
  | cons c l ih => simp only [List.foldl_cons, ih, List.map_cons, List.sum_cons]; omega
theorem fW_used {s : State} (h : s.slotsTrue = true) : s.slotsUsed = fW s.heap := by
  unfold State.slotsTrue at h
  have h1 := beq_iff_eq.mp h
  rw [h1, ← Array.foldl_toList, fW_fold]
  unfold fW
  omega
end FH1
section FH2
variable {p : Program} {l : Launch} {e : Env} {R : Room} {s : State} {m : MethodId} {args : Array Value} {below : List Frame} {meth : Method} {c : Code} {H : Heap} {locs : List Loc} {cells slots : Nat} {Q : State → Prop}
theorem fStand {T : State} (X : Stand p l e R s m args below meth c T locs cells slots) {k n : Nat} (h1 : T.heap.size ≤ s.heap.size + k) (h2 : fW T.heap ≤ fW s.heap + n) : Stand p l e R s m args below meth c T locs k n := by
  have hb := fW_used X.book
  have h0 : s.slotsTrue = true := by
    have h := X.room
    simp only [State.hasRoom, Bool.and_eq_true] at h
    exact h.2
  have h0 := fW_used h0
  refine { X with same := ?_ }
  obtain ⟨e1, e2, e3, e4, e5, e6⟩ := X.same
  refine ⟨e1, e2, h1, e4, ?_, e6⟩
  have e7 : T.slotsUsed = s.slotsUsed + ((T.heap.toList.drop s.heap.size).map (·.slots.size)).sum := e4
  show ((T.heap.toList.drop s.heap.size).map (·.slots.size)).sum ≤ n
  omega
theorem fTight {g : JFrame} {k n : Nat} (h1 : H.size ≤ s.heap.size + k) (h2 : fW H ≤ fW s.heap + n) (kk : W p l e R s m args below meth c H locs k n Q g) : W p l e R s m args below meth c H locs cells slots Q g := by
  intro T hT X
  exact kk T hT (fStand X (by rw [hT]; exact h1) (by rw [hT]; exact h2))
end FH2
end
section
section FH3
def fExt (h0 h : fSt) : Prop := fZ h0 ≤ fZ h ∧ fL h0 ≤ fL h ∧ fCB h = fCB h0 ∧ fLB h = fLB h0 ∧ (∀ a, fF h a ≠ none → fF h0 a ≠ none ∨ fZ h0 ≤ a) ∧ fX h = fX h0
theorem fExt.rfl {h : fSt} : fExt h h := ⟨Nat.le_refl _, Nat.le_refl _, Eq.refl _, Eq.refl _, fun _ q => Or.inl q, Eq.refl _⟩
theorem fExt.trans {h0 h1 h2 : fSt} (a : fExt h0 h1) (b : fExt h1 h2) : fExt h0 h2 := ⟨Nat.le_trans a.1 b.1, Nat.le_trans a.2.1 b.2.1, b.2.2.1.trans a.2.2.1, b.2.2.2.1.trans a.2.2.2.1, fun q hq => (b.2.2.2.2.1 q hq).elim (a.2.2.2.2.1 q) (fun z => Or.inr (Nat.le_trans a.1 z)), b.2.2.2.2.2.trans a.2.2.2.2.2⟩
def fA (h : fSt) : Nat → Prop := fun q => fF h q ≠ none ∨ fZ h ≤ q
theorem fA.sub {h0 h : fSt} (a : fExt h0 h) : ∀ q, fA h q → fA h0 q := fun q hq => hq.elim (a.2.2.2.2.1 q) (fun z => Or.inr (Nat.le_trans a.1 z))
def fOk (h : fSt) : Prop := fZ h ≤ fCB h ∧ fL h ≤ fLB h
def fCur (D : va_G) (cA : Nat → ClassId) (s : State) (h0 h : fSt) (H : Heap) (locs : List Loc) : Prop := fRep D cA (fF h) H ∧ H.size = fZ h ∧ fW H ≤ fW s.heap + (fL h - fL h0) ∧ fExt h0 h ∧ fOk h ∧ va_S (fA h0) s.heap H locs ∧ s.heap.size = fZ h0
/-- the script lies in the old heap -/
def fScr (h : fSt) (s : State) : Prop := va_X (fX h).1 (fX h).2.1 (fX h).2.2 s s.heap ∧ (fX h).1 < s.heap.size ∧ ¬ fA h (fX h).1
/-- the class of arrays of arrays of ints -/
def fAA (cA : Nat → ClassId) (s : State) : Prop := s.vm.findClass "[I" = some (cA 0) ∧ (s.vm.classes.findIdx? fun x => match x.kind with | .array component _ => component == cA 0 | _ => false) = some (cA 4) ∧ (∃ k, s.vm.classes[cA 4]? = some k ∧ k.kind = .array (cA 0) (.array .int)) ∧ ∃ (k : Class) (c : ClassId), s.vm.classes[cA 0]? = some k ∧ k.kind = .array c .int
theorem fAA.moved {cA : Nat → ClassId} {u U : State} (hal : u.vm.Alike U.vm) (h : fAA cA u) : fAA cA U := by
  obtain ⟨h1, h2, ⟨k, h3, h4⟩, k2, c, h5, h6⟩ := h
  obtain ⟨k', hk', he⟩ := hal.2.2 _ _ h3
  obtain ⟨k2', hk2', he2⟩ := hal.2.2 _ _ h5
  exact ⟨by rw [hal.findClass]; exact h1, by rw [hal.findIdx?_eq _ (fun _ => rfl)]; exact h2, ⟨k', hk', by rw [he]; exact h4⟩, k2', c, hk2', by rw [he2]; exact h6⟩
theorem fScr.moved {h0 h : fSt} {u U : State} (hal : u.vm.Alike U.vm) (e : fExt h0 h) (hs : u.heap.size ≤ U.heap.size) (hu : u.heap.size = fZ h0) (ho : ∀ q, q < u.heap.size → ¬ fA h0 q → U.heap[q]? = u.heap[q]?) (k : fScr h0 u) : fScr h U := by
  obtain ⟨⟨scr, c1, ⟨c2, k9, c3, comp, c4⟩, c5, c6, c7⟩, k2, k3⟩ := k
  obtain ⟨k', hk', he⟩ := hal.2.2 _ _ c3
  unfold fScr
  rw [e.2.2.2.2.2]
  refine ⟨⟨scr, (ho _ k2 k3).trans c1, ⟨c2, k', hk', comp, by rw [he]; exact c4⟩, c5, c6, c7⟩, Nat.lt_of_lt_of_le k2 hs, fun z => k3 (fA.sub e _ z)⟩
def fKw (D : va_G) (cA : Nat → ClassId) (h : fSt) (s : State) : Prop := va_K D fcl (fTys cA) s ∧ vx_Zq Bundle.tN "UNASSIGNED_STACK" Bundle.steD (fA h) s s.heap ∧ vx_Zq Bundle.tN "SUPPRESSED_SENTINEL" Bundle.listD (fA h) s s.heap ∧ (∀ q ∈ fStr, ∃ a, vk_R q.1 q.2.1 q.2.2 a s) ∧ (∀ q ∈ fNc, va_Nc q.1 q.2 s) ∧ (∀ w ∈ fNw, va_Nw w s) ∧ fScr h s ∧ fAA cA s
theorem fNw_same {w : Cond} (hw : fNgood w = true) {u U : State} (h : u.vm = U.vm) (hZ : va_Nw w u) : va_Nw w U := by
  unfold fNgood at hw
  split at hw
  · exact va_Nw.same rfl h hZ
  · exact va_Nw.same rfl h hZ
  · exact va_Nw.same rfl h hZ
  · exact va_AO.moved (by rw [h]; exact Vm.Alike.refl U.vm) hZ
  · cases hw
theorem fNw_warm {w : Cond} (hw : fNgood w = true) {s U : State} (hW : s.WarmedH U.vm) (hZ : va_Nw w s) : va_Nw w U := by
  unfold fNgood at hw
  split at hw
  · exact va_Nw.warmM hW hZ
  · exact va_Nw.warmD hW hZ
  · exact va_tabs rfl (rfl : (s.setVm U.vm).vm = U.vm) (by rw [Cond.castable_setVm hW.alike]; exact hZ)
  · exact va_AO.moved hW.alike hZ
  · cases hw
def fCp (D : va_G) (cA : Nat → ClassId) (h : fSt) (U : State) : Prop := fRep D cA (fF h) U.heap ∧ U.heap.size = fZ h ∧ fOk h ∧ fKw D cA h U
def fFin (D : va_G) (cA : Nat → ClassId) (h0 h : fSt) (s t : State) : Prop := fRep D cA (fF h) t.heap ∧ t.heap.size = fZ h ∧ fW t.heap ≤ fW s.heap + (fL h - fL h0) ∧ fExt h0 h ∧ fOk h ∧ va_F (fA h0) s t
def fQ (D : va_G) (cA : Nat → ClassId) (h h' : fSt) (v : Option Value) : Array Value → State → Outcome → State → Prop := fun _ st o t => o = .returned v ∧ fFin D cA h h' st t
def fQX (D : va_G) (cA : Nat → ClassId) (h h' : fSt) (r : Option Value ⊕ Nat) : Array Value → State → Outcome → State → Prop := fun _ st o t => ∃ v, r = .inl v ∧ o = .returned v ∧ fFin D cA h h' st t
def fEx (k : Nat) : String := match k with
  | 0 => "java/lang/IndexOutOfBoundsException"
  | 1 => "java/lang/IllegalArgumentException"
  | _ => "java/lang/IllegalStateException"
def fXC (D : va_G) (cA : Nat → ClassId) (h h' : fSt) (r : Option Value ⊕ Nat) : String → State → State → Prop := fun E st t => ∃ k, r = .inr k ∧ E = fEx k ∧ fFin D cA h h' st t
/-- a contract: from the state h the method returns v in the state h' -/
def fMet (l : Launch) (y : MethodName) (ws : List Cond) (fr lo : Nat) (D : va_G) (cA : Nat → ClassId) (as : List Value) (h h' : fSt) (v : Option Value) : Prop := Met l y ws { frames := fr, cells := fCB h - fZ h, slots := fLB h - fL h, locals := lo } (va_Pc as (fCp D cA h)) (fQ D cA h h' v) (fCB h - fZ h) (fLB h - fL h) (fA h)
def fMetX (l : Launch) (y : MethodName) (ws : List Cond) (fr lo : Nat) (D : va_G) (cA : Nat → ClassId) (as : List Value) (h h' : fSt) (r : Option Value ⊕ Nat) : Prop := vx_Met l y ws { frames := fr, cells := fCB h - fZ h, slots := fLB h - fL h, locals := lo } (va_Pc as (fCp D cA h)) (fQX D cA h h' r) (fXC D cA h h' r) (fCB h - fZ h) (fLB h - fL h) (fA h)
theorem fBlind {D : va_G} {cA : Nat → ClassId} {as : List Value} {h : fSt} : FrameBlind (va_Pc as (fCp D cA h)) := by
  intro a U g mk hp
  obtain ⟨e, r, z, o, k1, k2, k3, k4, k5, k6, k7, k8⟩ := hp
  refine ⟨e, r, z, o, va_K.moved (u := U) (U := U.calling g mk a) (Vm.Alike.refl U.vm) k1, vx_Zq.moved (u := U) (U := U.calling g mk a) (Vm.Alike.refl U.vm) k2, vx_Zq.moved (u := U) (U := U.calling g mk a) (Vm.Alike.refl U.vm) k3, fun q hq => ?_, fun q hq => va_Nc.moved (u := U) (U := U.calling g mk a) (Vm.Alike.refl U.vm) (k5 q hq), fun w hw => fNw_same (u := U) (U := U.calling g mk a) (List.mem_filter.mp hw).2 (Eq.refl _) (k6 w hw), k7, k8⟩
  obtain ⟨x, hx⟩ := k4 q hq
  exact ⟨x, vk_R.same (u := U) (U := U.calling g mk a) (Eq.refl _) hx⟩
theorem fRep.set {D : va_G} {cA : Nat → ClassId} {F : Nat → Option fCe} {H H1 : Heap} {a : Nat} {e : fCe} (h : fRep D cA F H) (he : va_at D fcl (a, fE cA e) H1) (oq : ∀ q : Nat, q ≠ a → H1[q]? = H[q]?) : fRep D cA (fun b => if b = a then some e else F b) H1 := by
  intro b x hb
  have hb : (if b = a then some e else F b) = some x := hb
  by_cases hq : b = a
  · subst hq
    rw [if_pos (Eq.refl _)] at hb
    cases hb
    exact he
  · rw [if_neg hq] at hb
    exact (h b x hb).kept (oq b hq)
theorem fRep.push {D : va_G} {cA : Nat → ClassId} {F : Nat → Option fCe} {H H1 : Heap} {e : fCe} (h : fRep D cA F H) (he : va_at D fcl (H.size, fE cA e) H1) (oq : ∀ q : Nat, q < H.size → H1[q]? = H[q]?) : fRep D cA (fun b => if b = H.size then some e else F b) H1 := by
  intro b x hb
  have hb : (if b = H.size then some e else F b) = some x := hb
  by_cases hq : b = H.size
  · subst hq
    rw [if_pos (Eq.refl _)] at hb
    cases hb
    exact he
  · rw [if_neg hq] at hb
    exact (h b x hb).kept (oq b (h b x hb).lt)
def fSet (h : fSt) (a : Nat) (e : fCe) : fSt := (fun b => if b = a then some e else fF h b, fZ h, fL h, fCB h, fLB h, fX h)
def fPush (h : fSt) (e : fCe) (n : Nat) : fSt := (fun b => if b = fZ h then some e else fF h b, fZ h + 1, fL h + n, fCB h, fLB h, fX h)
theorem fCur.start {D : va_G} {cA : Nat → ClassId} {s : State} {h : fSt} (c : fCp D cA h s) : fCur D cA s h h s.heap [] := ⟨c.1, c.2.1, Nat.le_add_right _ _, fExt.rfl, c.2.2.1, va_S.rf, c.2.1⟩
theorem fCur.fin {D : va_G} {cA : Nat → ClassId} {s t : State} {h0 h : fSt} {H : Heap} {locs : List Loc} (c : fCur D cA s h0 h H locs) (ht : t.heap = H) : fFin D cA h0 h s t := by
  obtain ⟨c1, c2, c3, c4, c5, c6, c7⟩ := c
  exact ⟨by rw [ht]; exact c1, by rw [ht]; exact c2, by rw [ht]; exact c3, c4, c5, c6.F ht⟩
theorem fCur.call {D : va_G} {cA : Nat → ClassId} {s : State} {h0 h : fSt} {H : Heap} {locs : List Loc} (c : fCur D cA s h0 h H locs) (K : fKw D cA h0 s) {U : State} (hU : U.heap = H) (hW : s.WarmedH U.vm) : fCp D cA h U := by
  obtain ⟨c1, c2, c3, c4, c5, c6, c7⟩ := c
  obtain ⟨k1, k2, k3, k4, k5, k6, k7, k8⟩ := K
  refine ⟨by rw [hU]; exact c1, by rw [hU]; exact c2, c5, va_K.moved hW.alike k1, ?_, ?_, fun q hq => ?_, fun q hq => (k5 q hq).moved hW.alike, fun w hw => fNw_warm (List.mem_filter.mp hw).2 hW (k6 w hw), k7.moved hW.alike c4 (by rw [hU]; exact c6.1) c7 (fun q h1 h2 => by rw [hU]; exact c6.2.1 q h1 h2), k8.moved hW.alike⟩
  · rw [hU]; exact vx_Zq.moved hW.alike ((k2.kept c6.2.1).narrow (fA.sub c4))
  · rw [hU]; exact vx_Zq.moved hW.alike ((k3.kept c6.2.1).narrow (fA.sub c4))
  · obtain ⟨x, hx⟩ := k4 q hq
    exact ⟨x, vk_R.warm hW hx⟩
theorem fCur.set {D : va_G} {cA : Nat → ClassId} {s : State} {h0 h : fSt} {H H1 : Heap} {locs : List Loc} {a k : Nat} {e0 e : fCe} (c : fCur D cA s h0 h H locs) (h0a : fF h a = some e0) (he : va_at D fcl (a, fE cA e) H1) (hz : H1.size = H.size) (oq : ∀ q : Nat, q ≠ a → H1[q]? = H[q]?) (hw : fW H1 = fW H) : fCur D cA s h0 (fSet h a e) H1 (locs ++ [⟨a, k⟩]) := by
  obtain ⟨c1, c2, c3, c4, c5, c6, c7⟩ := c
  have ha : fF h a ≠ none := by rw [h0a]; exact fun z => nomatch z
  refine ⟨c1.set he oq, hz.trans c2, by rw [hw]; exact c3, ⟨c4.1, c4.2.1, c4.2.2.1, c4.2.2.2.1, fun q hq => ?_, c4.2.2.2.2.2⟩, c5, c6.put hz oq (c4.2.2.2.2.1 a ha), c7⟩
  by_cases z : q = a
  · subst z; exact c4.2.2.2.2.1 q ha
  · have hq : (if q = a then some e else fF h q) ≠ none := hq
    rw [if_neg z] at hq
    exact c4.2.2.2.2.1 q hq
theorem fCur.push {D : va_G} {cA : Nat → ClassId} {s : State} {h0 h : fSt} {H H1 : Heap} {locs : List Loc} {n : Nat} {e : fCe} {cl : Cell} (c : fCur D cA s h0 h H locs) (he : va_at D fcl (H.size, fE cA e) H1) (hz : H1.size = H.size + 1) (hc : H1[H.size]? = some cl) (hn : cl.slots.size ≤ n) (oq : ∀ q : Nat, q < H.size → H1[q]? = H[q]?) (h1 : fZ h + 1 ≤ fCB h) (h2 : fL h + n ≤ fLB h) : fCur D cA s h0 (fPush h e n) H1 locs := by
  obtain ⟨c1, c2, c3, c4, c5, c6, c7⟩ := c
  have hw := fW_push hz hc oq
  have c8 : s.heap.size ≤ H.size := c6.1
  have hR := c1.push he oq
  rw [c2] at hR
  refine ⟨hR, by rw [hz, c2]; rfl, ?_, ⟨?_, ?_, c4.2.2.1, c4.2.2.2.1, fun q hq => ?_, c4.2.2.2.2.2⟩, ⟨h1, h2⟩, ⟨by omega, fun x y z => (oq x (Nat.lt_of_lt_of_le y c6.1)).trans (c6.2.1 x y z), c6.2.2⟩, c7⟩
  · have e1 : fL (fPush h e n) = fL h + n := rfl
    have e2 := c4.2.1
    omega
  · exact Nat.le_trans c4.1 (Nat.le_succ _)
  · exact Nat.le_trans c4.2.1 (Nat.le_add_right _ _)
  · by_cases z : q = fZ h
    · subst z; exact Or.inr c4.1
    · have hq : (if q = fZ h then some e else fF h q) ≠ none := hq
      rw [if_neg z] at hq
      exact c4.2.2.2.2.1 q hq
end FH3
section FH4
variable {p : Program} {l : Launch} {e : Env} {R : Room} {s : State} {m : MethodId} {args : Array Value} {below : List Frame} {meth : Method} {c : Code} {H : Heap} {locs : List Loc} {cells slots : Nat} {Q : State → Prop}
variable {D : va_G} {cA : Nat → ClassId} {h0 h h2 : fSt} {cc : ByteArray} {pc : Nat} {ls : Array Slot} {rest : List Value}
/-- the counts as the state tells them -/
theorem fr_tight {g : JFrame} (hC : fCur D cA s h0 h H locs) (kk : W p l e R s m args below meth c H locs (fZ h - fZ h0) (fL h - fL h0) Q g) : W p l e R s m args below meth c H locs cells slots Q g := by
  obtain ⟨c1, c2, c3, c4, c5, c6, c7⟩ := hC
  have c8 := c4.1
  exact fTight (by omega) c3 kk
theorem fr_end {g : JFrame} (hC : fCur D cA s h0 h H locs) (kk : W p l e R s m args below meth c H locs (fCB h0 - fZ h0) (fLB h0 - fL h0) Q g) : W p l e R s m args below meth c H locs cells slots Q g := by
  obtain ⟨c1, c2, c3, c4, c5, c6, c7⟩ := hC
  obtain ⟨d1, d2, d3, d4, -⟩ := c4
  obtain ⟨o1, o2⟩ := c5
  exact fTight (by omega) (by omega) kk
def fget (h : fSt) (r : Option Nat) (ci k : Nat) : Option Value := match r with
  | none => none
  | some a => match fF h a with
    | some (.inl (cj, fs)) => if cj = ci then fs[k]? else none
    | _ => none
theorem fget_inv {r : Option Nat} {ci k : Nat} {v : Value} (h1 : fget h r ci k = some v) : ∃ (a : Nat) (fs : List Value), r = some a ∧ fF h a = some (.inl (ci, fs)) ∧ fs[k]? = some v := by
  unfold fget at h1
  split at h1
  · cases h1
  · rename_i a
    split at h1
    · rename_i cj fs hq
      by_cases z : cj = ci
      · subst z
        rw [if_pos (Eq.refl _)] at h1
        exact ⟨a, fs, rfl, hq, h1⟩
      · rw [if_neg z] at h1; cases h1
    · cases h1
def fgI (h : fSt) (r : Option Nat) (ci k : Nat) : Option Int32 := match fget h r ci k with
  | some (.int x) => some x
  | _ => none
theorem fgI_get {r : Option Nat} {ci k : Nat} {x : Int32} (h1 : fgI h r ci k = some x) : fget h r ci k = some (.int x) := by
  unfold fgI at h1
  split at h1
  · rename_i y hq; cases h1; exact hq
  · cases h1
def fgJ (h : fSt) (r : Option Nat) (ci k : Nat) : Option Int64 := match fget h r ci k with
  | some (.long x) => some x
  | _ => none
theorem fgJ_get {r : Option Nat} {ci k : Nat} {x : Int64} (h1 : fgJ h r ci k = some x) : fget h r ci k = some (.long x) := by
  unfold fgJ at h1
  split at h1
  · rename_i y hq; cases h1; exact hq
  · cases h1
def fgR (h : fSt) (r : Option Nat) (ci k : Nat) : Option (Option Nat) := match fget h r ci k with
  | some .null => some none
  | some (.ref a) => some (some a)
  | _ => none
theorem fgR_get {r : Option Nat} {ci k : Nat} {x : Option Nat} (h1 : fgR h r ci k = some x) : fget h r ci k = some (va_rf x) := by
  unfold fgR at h1
  split at h1
  · rename_i hq; cases h1; exact hq
  · rename_i a hq; cases h1; exact hq
  · cases h1
def fput (h : fSt) (r : Option Nat) (ci k : Nat) (v : Value) : Option fSt := match r with
  | none => none
  | some a => match fF h a with
    | some (.inl (cj, fs)) => if cj = ci ∧ k < fs.length then some (fSet h a (.inl (ci, fs.set k v))) else none
    | _ => none
theorem fput_inv {r : Option Nat} {ci k : Nat} {v : Value} (h1 : fput h r ci k v = some h2) : ∃ (a : Nat) (fs : List Value), r = some a ∧ fF h a = some (.inl (ci, fs)) ∧ k < fs.length ∧ h2 = fSet h a (.inl (ci, fs.set k v)) := by
  unfold fput at h1
  split at h1
  · cases h1
  · rename_i a
    split at h1
    · rename_i cj fs hq
      by_cases z : cj = ci ∧ k < fs.length
      · rw [if_pos z] at h1
        cases h1
        obtain ⟨z1, z2⟩ := z
        subst z1
        exact ⟨a, fs, rfl, hq, z2, rfl⟩
      · rw [if_neg z] at h1; cases h1
    · cases h1
/-- getfield -/
theorem fr_get (hexec : p.tables.exec = Jvm.exec) (hb : c.code = cc) (hts : ∀ w ∈ WA, w.before args s = true) {own ref C : String} {T : u_T} {N ci k index : Nat} {ty : Nat → FieldType} (hown : s.vm.findClass own = some m.cls) (K : fKw D cA h0 s) (hC : fCur D cA s h0 h H locs) (ct : CT ci C T N ty) {r : Option Nat} {v : Value} (hg : fget h r ci k = some v) (hk : k < N) (hl : Cond.fieldLink own index ref (T k).2.1 (T k).2.2.1 ∈ WA) (hsame : (T k).1 = ref) (hdg : decode cc pc = .ok (.getfield index, 3))
    (kk : W p l e R s m args below meth c H locs cells slots Q (F0 m (pc + 3) ls (v :: rest))) : W p l e R s m args below meth c H locs cells slots Q (F0 m pc ls (va_rf r :: rest)) := by
  obtain ⟨a, fs, rfl, hF, hv⟩ := fget_inv hg
  have hP : va_P D fcl [(a, .inr (ci, fs))] H := by
    intro j q hq
    have hz : j < 1 := (List.getElem?_eq_some_iff.mp hq).1
    rw [show j = 0 by omega] at hq
    cases hq
    exact hC.1 a _ hF
  subst hsame
  exact va_get (D := D) (ci := ci) (v := v) (C := C) (T := T) (N := N) hexec hb hts ct.2.1 hown K.1 hP 0 rfl ct.1 k hk (hts _ hl) (fun _ h9 => h9) hv hdg kk
/-- putfield -/
theorem fr_put (hexec : p.tables.exec = Jvm.exec) (hb : c.code = cc) (hts : ∀ w ∈ WA, w.before args s = true) {own ref C : String} {T : u_T} {N ci k index : Nat} {ty : Nat → FieldType} (hown : s.vm.findClass own = some m.cls) (K : fKw D cA h0 s) (hC : fCur D cA s h0 h H locs) (ct : CT ci C T N ty) {r : Option Nat} {v : Value} (hg : fput h r ci k v = some h2) (hk : k < N) (hl : Cond.fieldLink own index ref (T k).2.1 (T k).2.2.1 ∈ WA) (hsame : (T k).1 = ref) (hfin : (T k).2.2.2 = false) (hn : narrow (ty k) v = v) (hfit : fits (ty k) v = true) (hdg : decode cc pc = .ok (.putfield index, 3))
    (kk : ∀ (H1 : Heap) (locs1 : List Loc), fCur D cA s h0 h2 H1 locs1 → W p l e R s m args below meth c H1 locs1 cells slots Q (F0 m (pc + 3) ls rest)) : W p l e R s m args below meth c H locs cells slots Q (F0 m pc ls (v :: va_rf r :: rest)) := by
  obtain ⟨a, fs, rfl, hF, hlen, rfl⟩ := fput_inv hg
  subst hsame
  obtain ⟨cc1, cc2, cc3, cc4⟩ := ct
  have hap := va_apart (own := own) hts cc2 ty cc3 cc4 K.1 cc1
  obtain ⟨r, h1, cell, q1, q2, q3, q4⟩ := hC.1 a _ hF
  have hr : r = (C, T, N) := Option.some.inj (h1.symm.trans cc1)
  subst hr
  obtain ⟨hS, hfc, kC, hkC, hkind⟩ := K.1.1 ci _ cc1
  obtain ⟨cf, kf, fi, f, hi, hsl⟩ := hS k hk
  have hlay := hts _ (cc2 _ (u_in_lay hk))
  unfold u_lay at hlay
  rw [if_neg (by rw [hfin]; decide)] at hlay
  have hst := (u_facts hfc hkC (u_lays hts cc2 hk) hi).1
  have h6 := u_store hfc hkC hkind hlay hi (cc3 k hk) hn hfit
  refine W.putK hexec hb (f := f) ⟨hown, hts _ hl, ⟨_, _, _, hi⟩, hst⟩ (by rw [q2]; exact h6) q1 q3 (by rw [hsl]; exact k2_hasslot (q4 k hk)) rfl rfl hdg fun H' e1 e2 e3 => ?_
  have hw := fW_put q1 e1 e3
  rw [hsl] at e1 ⊢
  exact kk H' _ (hC.set hF ⟨_, cc1, t_OB.to (V := updV (vp_V fs) k v) ⟨_, e1, q2, q3, t_set q4 hap hk v⟩ (fun j _ => vp_updV_set hlen v j)⟩ e2 e3 hw)
/-- putfield of a final field, in a constructor -/
theorem fr_putF (hexec : p.tables.exec = Jvm.exec) (hb : c.code = cc) (hts : ∀ w ∈ WA, w.before args s = true) {own ref C : String} {T : u_T} {N ci k index : Nat} {ty : Nat → FieldType} (hown : s.vm.findClass own = some m.cls) (K : fKw D cA h0 s) (hC : fCur D cA s h0 h H locs) (ct : CT ci C T N ty) {r : Option Nat} {v : Value} (hg : fput h r ci k v = some h2) (hk : k < N) (hl : Cond.fieldLink own index ref (T k).2.1 (T k).2.2.1 ∈ WA) (hsame : (T k).1 = ref) (hfin : (T k).2.2.2 = true) (hin2 : meth.name = "<init>") (hdecl : (T k).1 = own) (hn : narrow (ty k) v = v) (hfit : fits (ty k) v = true) (hdg : decode cc pc = .ok (.putfield index, 3))
    (kk : ∀ (H1 : Heap) (locs1 : List Loc), fCur D cA s h0 h2 H1 locs1 → W p l e R s m args below meth c H1 locs1 cells slots Q (F0 m (pc + 3) ls rest)) : W p l e R s m args below meth c H locs cells slots Q (F0 m pc ls (v :: va_rf r :: rest)) := by
  obtain ⟨a, fs, rfl, hF, hlen, rfl⟩ := fput_inv hg
  subst hsame
  obtain ⟨cc1, cc2, cc3, cc4⟩ := ct
  have hap := va_apart (own := own) hts cc2 ty cc3 cc4 K.1 cc1
  obtain ⟨r, h1, cell, q1, q2, q3, q4⟩ := hC.1 a _ hF
  have hr : r = (C, T, N) := Option.some.inj (h1.symm.trans cc1)
  subst hr
  obtain ⟨hS, hfc, kC, hkC, hkind⟩ := K.1.1 ci _ cc1
  obtain ⟨cf, kf, fi, f, hi, hsl⟩ := hS k hk
  have hlay := hts _ (cc2 _ (u_in_lay hk))
  unfold u_lay at hlay
  rw [if_pos hfin] at hlay
  have hst := (u_facts hfc hkC (u_lays hts cc2 hk) hi).1
  have hcf : m.cls = cf := by
    obtain ⟨_, _, c', _, _, _, -, -, hf', -, -, -, hown2, -⟩ := Cond.laysFinal_spec hlay
    have e1 : c' = cf := by have := hi.symm.trans hf'; simp at this; exact this.1.symm
    rw [hdecl] at hown2
    rw [← e1]; exact Option.some.inj (hown.symm.trans hown2)
  have h6 := u_fits hfc hkC hkind (Or.inr hlay) hi (cc3 k hk) hn hfit
  refine W.putFinK hexec hb hown (hts _ hl) hi hst hcf hin2 (by rw [q2]; exact h6) q1 q3 (by rw [hsl]; exact k2_hasslot (q4 k hk)) rfl rfl hdg fun H' e1 e2 e3 => ?_
  have hw := fW_put q1 e1 e3
  rw [hsl] at e1 ⊢
  exact kk H' _ (hC.set hF ⟨_, cc1, t_OB.to (V := updV (vp_V fs) k v) ⟨_, e1, q2, q3, t_set q4 hap hk v⟩ (fun j _ => vp_updV_set hlen v j)⟩ e2 e3 hw)
end FH4
end
section
section FH5
variable {p : Program} {l : Launch} {e : Env} {R : Room} {s : State} {m : MethodId} {args : Array Value} {below : List Frame} {meth : Method} {c : Code} {H : Heap} {locs : List Loc} {cells slots : Nat} {Q : State → Prop}
variable {D : va_G} {cA : Nat → ClassId} {h0 h h2 : fSt} {cc : ByteArray} {pc : Nat} {ls : Array Slot} {rest : List Value}
/-- an array: its kind, its contents -/
def farr (h : fSt) (r : Option Nat) (t : Nat) : Option vp_A := match r with
  | none => none
  | some a => match fF h a with
    | some (.inr (u, x)) => if u = t then some x else none
    | _ => none
theorem farr_inv {r : Option Nat} {t : Nat} {x : vp_A} (h1 : farr h r t = some x) : ∃ a : Nat, r = some a ∧ fF h a = some (.inr (t, x)) := by
  unfold farr at h1
  split at h1
  · cases h1
  · rename_i a
    split at h1
    · rename_i u y hq
      by_cases z : u = t
      · subst z
        rw [if_pos (Eq.refl _)] at h1
        cases h1
        exact ⟨a, rfl, hq⟩
      · rw [if_neg z] at h1; cases h1
    · cases h1
def faI (h : fSt) (r : Option Nat) (t : Nat) (i : Int32) : Option Int32 := match farr h r t with
  | some (n, .inl f) => if i < 0 ∨ n ≤ i.toNatClampNeg then none else some (f i.toNatClampNeg)
  | _ => none
def faJ (h : fSt) (r : Option Nat) (t : Nat) (i : Int32) : Option Int64 := match farr h r t with
  | some (n, .inr (.inl f)) => if i < 0 ∨ n ≤ i.toNatClampNeg then none else some (f i.toNatClampNeg)
  | _ => none
def faD (h : fSt) (r : Option Nat) (t : Nat) (i : Int32) : Option UInt64 := match farr h r t with
  | some (n, .inr (.inr (.inr (.inl f)))) => if i < 0 ∨ n ≤ i.toNatClampNeg then none else some (f i.toNatClampNeg)
  | _ => none
def faR (h : fSt) (r : Option Nat) (t : Nat) (i : Int32) : Option (Option Nat) := match farr h r t with
  | some (n, .inr (.inr (.inr (.inr f)))) => if i < 0 ∨ n ≤ i.toNatClampNeg then none else some (f i.toNatClampNeg)
  | _ => none
theorem faI_inv {r : Option Nat} {t : Nat} {i x : Int32} (h1 : faI h r t i = some x) : ∃ (a n : Nat) (f : Nat → Int32), r = some a ∧ fF h a = some (.inr (t, n, .inl f)) ∧ vp_in i n ∧ f i.toNatClampNeg = x := by
  unfold faI at h1
  split at h1
  · rename_i n f hq
    obtain ⟨a, h2, h3⟩ := farr_inv hq
    by_cases z : i < 0 ∨ n ≤ i.toNatClampNeg
    · rw [if_pos z] at h1; cases h1
    · rw [if_neg z] at h1; cases h1
      exact ⟨a, n, f, h2, h3, z, rfl⟩
  · cases h1
theorem faJ_inv {r : Option Nat} {t : Nat} {i : Int32} {x : Int64} (h1 : faJ h r t i = some x) : ∃ (a n : Nat) (f : Nat → Int64), r = some a ∧ fF h a = some (.inr (t, n, .inr (.inl f))) ∧ vp_in i n ∧ f i.toNatClampNeg = x := by
  unfold faJ at h1
  split at h1
  · rename_i n f hq
    obtain ⟨a, h2, h3⟩ := farr_inv hq
    by_cases z : i < 0 ∨ n ≤ i.toNatClampNeg
    · rw [if_pos z] at h1; cases h1
    · rw [if_neg z] at h1; cases h1
      exact ⟨a, n, f, h2, h3, z, rfl⟩
  · cases h1
theorem faD_inv {r : Option Nat} {t : Nat} {i : Int32} {x : UInt64} (h1 : faD h r t i = some x) : ∃ (a n : Nat) (f : Nat → UInt64), r = some a ∧ fF h a = some (.inr (t, n, .inr (.inr (.inr (.inl f))))) ∧ vp_in i n ∧ f i.toNatClampNeg = x := by
  unfold faD at h1
  split at h1
  · rename_i n f hq
    obtain ⟨a, h2, h3⟩ := farr_inv hq
    by_cases z : i < 0 ∨ n ≤ i.toNatClampNeg
    · rw [if_pos z] at h1; cases h1
    · rw [if_neg z] at h1; cases h1
      exact ⟨a, n, f, h2, h3, z, rfl⟩
  · cases h1
theorem faR_inv {r : Option Nat} {t : Nat} {i : Int32} {x : Option Nat} (h1 : faR h r t i = some x) : ∃ (a n : Nat) (f : Nat → Option Nat), r = some a ∧ fF h a = some (.inr (t, n, .inr (.inr (.inr (.inr f))))) ∧ vp_in i n ∧ f i.toNatClampNeg = x := by
  unfold faR at h1
  split at h1
  · rename_i n f hq
    obtain ⟨a, h2, h3⟩ := farr_inv hq
    by_cases z : i < 0 ∨ n ≤ i.toNatClampNeg
    · rw [if_pos z] at h1; cases h1
    · rw [if_neg z] at h1; cases h1
      exact ⟨a, n, f, h2, h3, z, rfl⟩
  · cases h1
def flen (h : fSt) (r : Option Nat) (t : Nat) : Option Int32 := (farr h r t).map (fun x => Int32.ofNat x.1)
def fsI (h : fSt) (r : Option Nat) (t : Nat) (i x : Int32) : Option fSt := match r, farr h r t with
  | some a, some (n, .inl f) => if i < 0 ∨ n ≤ i.toNatClampNeg then none else some (fSet h a (.inr (t, n, .inl (upd f i.toNatClampNeg x))))
  | _, _ => none
def fsJ (h : fSt) (r : Option Nat) (t : Nat) (i : Int32) (x : Int64) : Option fSt := match r, farr h r t with
  | some a, some (n, .inr (.inl f)) => if i < 0 ∨ n ≤ i.toNatClampNeg then none else some (fSet h a (.inr (t, n, .inr (.inl (vp_updL f i.toNatClampNeg x)))))
  | _, _ => none
def fsD (h : fSt) (r : Option Nat) (t : Nat) (i : Int32) (x : UInt64) : Option fSt := match r, farr h r t with
  | some a, some (n, .inr (.inr (.inr (.inl f)))) => if i < 0 ∨ n ≤ i.toNatClampNeg then none else some (fSet h a (.inr (t, n, .inr (.inr (.inr (.inl (vf_upd f i.toNatClampNeg x)))))))
  | _, _ => none
/-- a store of an object of class ci -/
def fsR (h : fSt) (r : Option Nat) (t ci : Nat) (i : Int32) (x : Option Nat) : Option fSt := match r, farr h r t, x with
  | some a, some (n, .inr (.inr (.inr (.inr f)))), some v => match fF h v with
    | some (.inl (cj, _)) => if cj = ci then if i < 0 ∨ n ≤ i.toNatClampNeg then none else some (fSet h a (.inr (t, n, .inr (.inr (.inr (.inr (va_up f i.toNatClampNeg (some v)))))))) else none
    | _ => none
  | _, _, _ => none
theorem fsI_inv {r : Option Nat} {t : Nat} {i x : Int32} (h1 : fsI h r t i x = some h2) : ∃ (a n : Nat) (f : Nat → Int32), r = some a ∧ fF h a = some (.inr (t, n, .inl f)) ∧ vp_in i n ∧ h2 = fSet h a (.inr (t, n, .inl (upd f i.toNatClampNeg x))) := by
  unfold fsI at h1
  split at h1
  · rename_i a n f hq
    obtain ⟨b, h2, h3⟩ := farr_inv hq
    cases h2
    by_cases z : i < 0 ∨ n ≤ i.toNatClampNeg
    · rw [if_pos z] at h1; cases h1
    · rw [if_neg z] at h1; cases h1
      exact ⟨a, n, f, rfl, h3, z, rfl⟩
  · cases h1
theorem fsJ_inv {r : Option Nat} {t : Nat} {i : Int32} {x : Int64} (h1 : fsJ h r t i x = some h2) : ∃ (a n : Nat) (f : Nat → Int64), r = some a ∧ fF h a = some (.inr (t, n, .inr (.inl f))) ∧ vp_in i n ∧ h2 = fSet h a (.inr (t, n, .inr (.inl (vp_updL f i.toNatClampNeg x)))) := by
  unfold fsJ at h1
  split at h1
  · rename_i a n f hq
    obtain ⟨b, h2, h3⟩ := farr_inv hq
    cases h2
    by_cases z : i < 0 ∨ n ≤ i.toNatClampNeg
    · rw [if_pos z] at h1; cases h1
    · rw [if_neg z] at h1; cases h1
      exact ⟨a, n, f, rfl, h3, z, rfl⟩
  · cases h1
theorem fsD_inv {r : Option Nat} {t : Nat} {i : Int32} {x : UInt64} (h1 : fsD h r t i x = some h2) : ∃ (a n : Nat) (f : Nat → UInt64), r = some a ∧ fF h a = some (.inr (t, n, .inr (.inr (.inr (.inl f))))) ∧ vp_in i n ∧ h2 = fSet h a (.inr (t, n, .inr (.inr (.inr (.inl (vf_upd f i.toNatClampNeg x)))))) := by
  unfold fsD at h1
  split at h1
  · rename_i a n f hq
    obtain ⟨b, h2, h3⟩ := farr_inv hq
    cases h2
    by_cases z : i < 0 ∨ n ≤ i.toNatClampNeg
    · rw [if_pos z] at h1; cases h1
    · rw [if_neg z] at h1; cases h1
      exact ⟨a, n, f, rfl, h3, z, rfl⟩
  · cases h1
theorem fsR_inv {r x : Option Nat} {t ci : Nat} {i : Int32} (h1 : fsR h r t ci i x = some h2) : ∃ (a n v : Nat) (f : Nat → Option Nat) (vs : List Value), r = some a ∧ x = some v ∧ fF h a = some (.inr (t, n, .inr (.inr (.inr (.inr f))))) ∧ fF h v = some (.inl (ci, vs)) ∧ vp_in i n ∧ h2 = fSet h a (.inr (t, n, .inr (.inr (.inr (.inr (va_up f i.toNatClampNeg (some v))))))) := by
  unfold fsR at h1
  split at h1
  · rename_i a n f v hq
    obtain ⟨b, h2, h3⟩ := farr_inv hq
    cases h2
    split at h1
    · rename_i cj vs hv
      by_cases y : cj = ci
      · subst y
        rw [if_pos (Eq.refl _)] at h1
        by_cases z : i < 0 ∨ n ≤ i.toNatClampNeg
        · rw [if_pos z] at h1; cases h1
        · rw [if_neg z] at h1; cases h1
          exact ⟨a, n, v, f, vs, rfl, rfl, h3, hv, z, rfl⟩
      · rw [if_neg y] at h1; cases h1
    · cases h1
  · cases h1
theorem fTys_at {t : Nat} {ty : FieldType} (ht : ftl[t]? = some ty) : (fTys cA)[t]? = some (cA t, ty) := by
  unfold fTys
  rw [List.getElem?_map, List.getElem?_zipIdx, ht]
  simp
theorem fOne {a : Nat} {x : fCe} (hC : fCur D cA s h0 h H locs) (hF : fF h a = some x) : va_P D fcl [(a, fE cA x)] H := by
  intro j q hq
  have hz : j < 1 := (List.getElem?_eq_some_iff.mp hq).1
  rw [show j = 0 by omega] at hq
  cases hq
  exact hC.1 a _ hF
theorem fr_iald (hexec : p.tables.exec = Jvm.exec) (hb : c.code = cc) (K : fKw D cA h0 s) (hC : fCur D cA s h0 h H locs) {t : Nat} (ht : ftl[t]? = some .int) {r : Option Nat} {i x : Int32} (hg : faI h r t i = some x) (hdg : decode cc pc = .ok (.iaload, 1))
    (kk : W p l e R s m args below meth c H locs cells slots Q (F0 m (pc + 1) ls (.int x :: rest))) : W p l e R s m args below meth c H locs cells slots Q (F0 m pc ls (.int i :: va_rf r :: rest)) := by
  obtain ⟨a, n, f, rfl, hF, hin, rfl⟩ := faI_inv hg
  exact va_iald hexec hb K.1 (fOne hC hF) 0 t rfl (fTys_at ht) hin hdg kk
theorem fr_zald (hexec : p.tables.exec = Jvm.exec) (hb : c.code = cc) (K : fKw D cA h0 s) (hC : fCur D cA s h0 h H locs) {t : Nat} (ht : ftl[t]? = some .boolean) {r : Option Nat} {i x : Int32} (hg : faI h r t i = some x) (hdg : decode cc pc = .ok (.baload, 1))
    (kk : W p l e R s m args below meth c H locs cells slots Q (F0 m (pc + 1) ls (.int x :: rest))) : W p l e R s m args below meth c H locs cells slots Q (F0 m pc ls (.int i :: va_rf r :: rest)) := by
  obtain ⟨a, n, f, rfl, hF, hin, rfl⟩ := faI_inv hg
  exact va_zald hexec hb K.1 (fOne hC hF) 0 t rfl (fTys_at ht) hin hdg kk
theorem fr_lald (hexec : p.tables.exec = Jvm.exec) (hb : c.code = cc) (K : fKw D cA h0 s) (hC : fCur D cA s h0 h H locs) {t : Nat} (ht : ftl[t]? = some .long) {r : Option Nat} {i : Int32} {x : Int64} (hg : faJ h r t i = some x) (hdg : decode cc pc = .ok (.laload, 1))
    (kk : W p l e R s m args below meth c H locs cells slots Q (F0 m (pc + 1) ls (.long x :: rest))) : W p l e R s m args below meth c H locs cells slots Q (F0 m pc ls (.int i :: va_rf r :: rest)) := by
  obtain ⟨a, n, f, rfl, hF, hin, rfl⟩ := faJ_inv hg
  exact va_lald hexec hb K.1 (fOne hC hF) 0 t rfl (fTys_at ht) hin hdg kk
theorem fr_dald (hexec : p.tables.exec = Jvm.exec) (hb : c.code = cc) (K : fKw D cA h0 s) (hC : fCur D cA s h0 h H locs) {t : Nat} (ht : ftl[t]? = some .double) {r : Option Nat} {i : Int32} {x : UInt64} (hg : faD h r t i = some x) (hdg : decode cc pc = .ok (.daload, 1))
    (kk : W p l e R s m args below meth c H locs cells slots Q (F0 m (pc + 1) ls (.double x :: rest))) : W p l e R s m args below meth c H locs cells slots Q (F0 m pc ls (.int i :: va_rf r :: rest)) := by
  obtain ⟨a, n, f, rfl, hF, hin, rfl⟩ := faD_inv hg
  exact va_dald hexec hb K.1 (fOne hC hF) 0 t rfl (fTys_at ht) hin hdg kk
theorem fr_aald (hexec : p.tables.exec = Jvm.exec) (hb : c.code = cc) (K : fKw D cA h0 s) (hC : fCur D cA s h0 h H locs) {t : Nat} {C : String} (ht : ftl[t]? = some (.object C)) {r : Option Nat} {i : Int32} {x : Option Nat} (hg : faR h r t i = some x) (hdg : decode cc pc = .ok (.aaload, 1))
    (kk : W p l e R s m args below meth c H locs cells slots Q (F0 m (pc + 1) ls (va_rf x :: rest))) : W p l e R s m args below meth c H locs cells slots Q (F0 m pc ls (.int i :: va_rf r :: rest)) := by
  obtain ⟨a, n, f, rfl, hF, hin, rfl⟩ := faR_inv hg
  exact va_aldq hexec hb K.1 (fOne hC hF) 0 t rfl (fTys_at ht) hin hdg kk
theorem fr_alen (hexec : p.tables.exec = Jvm.exec) (hb : c.code = cc) (K : fKw D cA h0 s) (hC : fCur D cA s h0 h H locs) {t : Nat} {ty : FieldType} (ht : ftl[t]? = some ty) {r : Option Nat} {x : Int32} (hg : flen h r t = some x) (hdg : decode cc pc = .ok (.arraylength, 1))
    (kk : W p l e R s m args below meth c H locs cells slots Q (F0 m (pc + 1) ls (.int x :: rest))) : W p l e R s m args below meth c H locs cells slots Q (F0 m pc ls (va_rf r :: rest)) := by
  unfold flen at hg
  cases hq : farr h r t with
  | none => rw [hq] at hg; cases hg
  | some y =>
    rw [hq] at hg
    cases hg
    obtain ⟨a, rfl, hF⟩ := farr_inv hq
    exact va_alen hexec hb K.1 (fOne hC hF) 0 t rfl (fTys_at ht) rfl hdg kk
theorem fr_iast (hexec : p.tables.exec = Jvm.exec) (hb : c.code = cc) (K : fKw D cA h0 s) (hC : fCur D cA s h0 h H locs) {t : Nat} (ht : ftl[t]? = some .int) {r : Option Nat} {i x : Int32} (hg : fsI h r t i x = some h2) (hdg : decode cc pc = .ok (.iastore, 1))
    (kk : ∀ (H1 : Heap) (locs1 : List Loc), fCur D cA s h0 h2 H1 locs1 → W p l e R s m args below meth c H1 locs1 cells slots Q (F0 m (pc + 1) ls rest)) : W p l e R s m args below meth c H locs cells slots Q (F0 m pc ls (.int x :: .int i :: va_rf r :: rest)) := by
  obtain ⟨a, n, f, rfl, hF, hin, rfl⟩ := fsI_inv hg
  refine W.iast hexec hb (hC.1 a _ hF) ((K.1.2 t _ (fTys_at ht)).1 n (fun j => .int (f j))) (fun q => by cases q) (by show ¬ (i < 0 ∨ (arrV _ _ _).slots.size ≤ _); rw [arrV_size]; exact hin) rfl rfl hdg fun H1 e z oq => ?_
  refine kk H1 _ (hC.set hF ?_ z oq (fW_put (hC.1 a _ hF) e oq))
  show H1[a]? = some (vp_cell _ _)
  rw [e]
  show some (Cell.setSlot (vp_cell (cA t) (n, .inl f)) _ _) = some (vp_cell (cA t) (n, .inl (upd f i.toNatClampNeg x)))
  rw [vp_cell_i, vp_cell_i, arrV_store]
  congr 2
  funext q
  by_cases hq : q = i.toNatClampNeg
  · subst hq
    simp [updV, upd]
  · simp [updV, upd, hq]
theorem fr_zast (hexec : p.tables.exec = Jvm.exec) (hb : c.code = cc) (K : fKw D cA h0 s) (hC : fCur D cA s h0 h H locs) {t : Nat} (ht : ftl[t]? = some .boolean) {r : Option Nat} {i x : Int32} (hg : fsI h r t i (vp_nar .boolean x) = some h2) (hdg : decode cc pc = .ok (.bastore, 1))
    (kk : ∀ (H1 : Heap) (locs1 : List Loc), fCur D cA s h0 h2 H1 locs1 → W p l e R s m args below meth c H1 locs1 cells slots Q (F0 m (pc + 1) ls rest)) : W p l e R s m args below meth c H locs cells slots Q (F0 m pc ls (.int x :: .int i :: va_rf r :: rest)) := by
  obtain ⟨a, n, f, rfl, hF, hin, rfl⟩ := fsI_inv hg
  refine W.zast hexec hb (hC.1 a _ hF) ((K.1.2 t _ (fTys_at ht)).1 n (fun j => .int (f j))) (fun q => by cases q) (by show ¬ (i < 0 ∨ (arrV _ _ _).slots.size ≤ _); rw [arrV_size]; exact hin) rfl rfl hdg fun H1 e z oq => ?_
  refine kk H1 _ (hC.set hF ?_ z oq (fW_put (hC.1 a _ hF) e oq))
  show H1[a]? = some (vp_cell _ _)
  rw [e]
  show some (Cell.setSlot (vp_cell (cA t) (n, .inl f)) _ _) = some (vp_cell (cA t) (n, .inl (upd f i.toNatClampNeg (vp_nar .boolean x))))
  rw [vp_cell_i, vp_cell_i, arrV_store]
  congr 2
  funext q
  by_cases hq : q = i.toNatClampNeg
  · subst hq
    simp [updV, upd, vp_nar, narrow]
  · simp [updV, upd, hq]
theorem fr_last (hexec : p.tables.exec = Jvm.exec) (hb : c.code = cc) (K : fKw D cA h0 s) (hC : fCur D cA s h0 h H locs) {t : Nat} (ht : ftl[t]? = some .long) {r : Option Nat} {i : Int32} {x : Int64} (hg : fsJ h r t i x = some h2) (hdg : decode cc pc = .ok (.lastore, 1))
    (kk : ∀ (H1 : Heap) (locs1 : List Loc), fCur D cA s h0 h2 H1 locs1 → W p l e R s m args below meth c H1 locs1 cells slots Q (F0 m (pc + 1) ls rest)) : W p l e R s m args below meth c H locs cells slots Q (F0 m pc ls (.long x :: .int i :: va_rf r :: rest)) := by
  obtain ⟨a, n, f, rfl, hF, hin, rfl⟩ := fsJ_inv hg
  refine W.last hexec hb (hC.1 a _ hF) ((K.1.2 t _ (fTys_at ht)).1 n (fun j => .long (f j))) (fun q => by cases q) (by show ¬ (i < 0 ∨ (arrV _ _ _).slots.size ≤ _); rw [arrV_size]; exact hin) rfl rfl hdg fun H1 e z oq => ?_
  refine kk H1 _ (hC.set hF ?_ z oq (fW_put (hC.1 a _ hF) e oq))
  show H1[a]? = some (vp_cell _ _)
  rw [e]
  show some (Cell.setSlot (vp_cell (cA t) (n, .inr (.inl f))) _ _) = some (vp_cell (cA t) (n, .inr (.inl (vp_updL f i.toNatClampNeg x))))
  rw [vp_cell_l, vp_cell_l, arrV_store]
  congr 2
  funext q
  by_cases hq : q = i.toNatClampNeg
  · subst hq
    simp [updV, vp_updL]
  · simp [updV, vp_updL, hq]
theorem fr_dast (hexec : p.tables.exec = Jvm.exec) (hb : c.code = cc) (K : fKw D cA h0 s) (hC : fCur D cA s h0 h H locs) {t : Nat} (ht : ftl[t]? = some .double) {r : Option Nat} {i : Int32} {x : UInt64} (hg : fsD h r t i x = some h2) (hdg : decode cc pc = .ok (.dastore, 1))
    (kk : ∀ (H1 : Heap) (locs1 : List Loc), fCur D cA s h0 h2 H1 locs1 → W p l e R s m args below meth c H1 locs1 cells slots Q (F0 m (pc + 1) ls rest)) : W p l e R s m args below meth c H locs cells slots Q (F0 m pc ls (.double x :: .int i :: va_rf r :: rest)) := by
  obtain ⟨a, n, f, rfl, hF, hin, rfl⟩ := fsD_inv hg
  refine W.dast hexec hb (hC.1 a _ hF) ((K.1.2 t _ (fTys_at ht)).1 n (fun j => .double (f j))) (fun q => by cases q) (by show ¬ (i < 0 ∨ (arrV _ _ _).slots.size ≤ _); rw [arrV_size]; exact hin) rfl rfl hdg fun H1 e z oq => ?_
  refine kk H1 _ (hC.set hF ?_ z oq (fW_put (hC.1 a _ hF) e oq))
  show H1[a]? = some (vp_cell _ _)
  rw [e]
  show some (Cell.setSlot (vp_cell (cA t) (n, .inr (.inr (.inr (.inl f))))) _ _) = some (vp_cell (cA t) (n, .inr (.inr (.inr (.inl (vf_upd f i.toNatClampNeg x))))))
  rw [vp_cell_d, vp_cell_d, arrV_store]
  congr 2
  funext q
  by_cases hq : q = i.toNatClampNeg
  · subst hq
    simp [updV, vf_upd]
  · simp [updV, vf_upd, hq]
theorem fr_aast (hexec : p.tables.exec = Jvm.exec) (hb : c.code = cc) (K : fKw D cA h0 s) (hC : fCur D cA s h0 h H locs) {t ci : Nat} {C : String} {T : u_T} {N : Nat} {ty : Nat → FieldType} (ct : CT ci C T N ty) (ht : ftl[t]? = some (.object C)) {r x : Option Nat} {i : Int32} (hg : fsR h r t ci i x = some h2) (hdg : decode cc pc = .ok (.aastore, 1))
    (kk : ∀ (H1 : Heap) (locs1 : List Loc), fCur D cA s h0 h2 H1 locs1 → W p l e R s m args below meth c H1 locs1 cells slots Q (F0 m (pc + 1) ls rest)) : W p l e R s m args below meth c H locs cells slots Q (F0 m pc ls (va_rf x :: .int i :: va_rf r :: rest)) := by
  obtain ⟨a, n, v, f, vs, rfl, rfl, hF, hV, hin, rfl⟩ := fsR_inv hg
  have hlt : i.toNatClampNeg < n := Nat.not_le.mp fun q => hin (Or.inr q)
  have hneg : ¬ i < 0 := fun q => hin (Or.inl q)
  obtain ⟨r', hr', cellV, g1, g2, g3, -⟩ := hC.1 v _ hV
  have hcls := (K.1.1 ci _ ct.1).2
  obtain ⟨kA, comp, k1, k2, k3, -⟩ := (K.1.2 t _ (fTys_at ht)).2
  have hcomp : comp = D.1 ci := Option.some.inj (k3.symm.trans hcls.1)
  subst hcomp
  obtain ⟨kC, hkC, -⟩ := hcls.2
  refine W.aast hexec hb (hC.1 a _ hF) (fun q h => by cases h) (fun h => by cases h) k1 k2 rfl hkC ⟨hneg, by show _ < (arrV _ _ _).slots.size; rw [arrV_size]; exact hlt⟩ g1 (fun q h => by rw [g3] at h; cases h) (by rw [g2]; exact hkC) (by rw [g2]; exact va_assign hcls) rfl rfl hdg fun H1 e z oq => ?_
  refine kk H1 _ (hC.set hF ?_ z oq (fW_put (hC.1 a _ hF) e oq))
  show H1[a]? = some (vp_cell _ _)
  rw [e]
  show some (Cell.setSlot (vp_cell (cA t) (n, .inr (.inr (.inr (.inr f))))) _ _) = some (vp_cell (cA t) (n, .inr (.inr (.inr (.inr (va_up f i.toNatClampNeg (some v)))))))
  rw [vp_cell_q, vp_cell_q, arrV_store]
  congr 2
  funext q
  by_cases hq : q = i.toNatClampNeg
  · subst hq
    simp [updV, va_up, va_rf]
  · simp [updV, va_up, hq]
def fnew (h : fSt) (e : fCe) (n : Nat) : Option (Nat × fSt) := if fZ h + 1 ≤ fCB h ∧ fL h + n ≤ fLB h then some (fZ h, fPush h e n) else none
theorem fnew_inv {x : fCe} {n : Nat} {r : Nat × fSt} (h1 : fnew h x n = some r) : fZ h + 1 ≤ fCB h ∧ fL h + n ≤ fLB h ∧ r = (fZ h, fPush h x n) := by
  unfold fnew at h1
  by_cases z : fZ h + 1 ≤ fCB h ∧ fL h + n ≤ fLB h
  · rw [if_pos z] at h1; cases h1; exact ⟨z.1, z.2, rfl⟩
  · rw [if_neg z] at h1; cases h1
/-- new, of a class of ours -/
theorem fr_new (hexec : p.tables.exec = Jvm.exec) (hb : c.code = cc) (hts : ∀ w ∈ WA, w.before args s = true) {own C : String} {T : u_T} {N ci index : Nat} {ty : Nat → FieldType} (hown : s.vm.findClass own = some m.cls) (K : fKw D cA h0 s) (hC : fCur D cA s h0 h H locs) (ct : CT ci C T N ty) (hR : R.cells = fCB h0 - fZ h0 ∧ R.slots = fLB h0 - fL h0) {fs : List Value} {r : Nat × fSt} (hg : fnew h (.inl (ci, fs)) N = some r) (hfs : ∀ j, j < N → defaultValue (ty j) = vp_V fs j) (hcl : Cond.classLink own index C ∈ WA) (hinst : Cond.instantiable C N ∈ WA) (hini : Cond.initialized C ∈ WA) (hdg : decode cc pc = .ok (.new index, 3))
    (kk : ∀ (H1 : Heap) (k n : Nat), fCur D cA s h0 r.2 H1 locs → W p l e R s m args below meth c H1 locs k n Q (F0 m (pc + 3) ls (va_rf (some r.1) :: rest))) : W p l e R s m args below meth c H locs cells slots Q (F0 m pc ls rest) := by
  obtain ⟨g1, g2, rfl⟩ := fnew_inv hg
  refine fr_tight hC ?_
  obtain ⟨c1, c2, c3, c4, c5, c6, c7⟩ := id hC
  obtain ⟨d1, d2, d3, d4, -⟩ := c4
  have hKn := K.1.1 ci _ ct.1
  have hins := hts _ hinst
  have hfc : s.vm.findClass C = some (D.1 ci) := hKn.2.1
  refine W.newc hexec hb hown (hts _ hcl) hins (hts _ hini) (g := F0 m pc ls rest) rfl hdg (by rw [hR.1]; omega) (by rw [hR.2]; omega) fun cC' kC f1 f2 f3 f4 => ?_
  have hcc : cC' = D.1 ci := Option.some.inj (f1.symm.trans hfc)
  subst hcc
  generalize hH : H.push ({ cls := D.1 ci, slots := kC.instanceTypes.map defaultValue, vm := .none } : Cell) = H1
  have z1 : H1.size = H.size + 1 := by rw [← hH, Array.size_push]
  have e1 : H1[H.size]? = some ({ cls := D.1 ci, slots := kC.instanceTypes.map defaultValue, vm := .none } : Cell) := by rw [← hH, Array.getElem?_push_size]
  have o1 : ∀ q : Nat, q < H.size → H1[q]? = H[q]? := fun q hq => by rw [← hH, Array.getElem?_push, if_neg (Nat.ne_of_lt hq)]
  have hat : va_at D fcl (H.size, fE cA (.inl (ci, fs))) H1 := ⟨_, ct.1, (u_born ty hts ct.2.1 hKn f2 e1 ct.2.2.1).to hfs⟩
  have hcu := hC.push (n := N) hat z1 e1 (by show (kC.instanceTypes.map defaultValue).size ≤ N; rw [Array.size_map]; omega) o1 g1 g2
  have hk := kk H1 (fZ h - fZ h0 + 1) (fL h - fL h0 + N) hcu
  rw [c2]
  exact hk
/-- newarray -/
theorem fr_newa (hexec : p.tables.exec = Jvm.exec) (hb : c.code = cc) (hts : ∀ w ∈ WA, w.before args s = true) (K : fKw D cA h0 s) (hC : fCur D cA s h0 h H locs) (hR : R.cells = fCB h0 - fZ h0 ∧ R.slots = fLB h0 - fL h0) {atype : ArrayType} {t : Nat} (ht : ftl[t]? = some (newarray.typeOf atype)) (hw : Cond.arrayClass (newarray.typeOf atype) ∈ WA) {n : Int32} {a0 : vp_A} (ha : ∀ cA : ClassId, vp_cell cA a0 = arrV cA n.toNatClampNeg (fun _ => defaultValue (newarray.typeOf atype))) (hprim : va_RA s (cA t) (newarray.typeOf atype) = (s.vm.findClass ("[" ++ (newarray.typeOf atype).toString) = some (cA t))) {r : Nat × fSt} (hn : ¬ n < 0) (hg : fnew h (.inr (t, a0)) n.toNatClampNeg = some r) (hbytes : n.toNatClampNeg * componentBytes (newarray.typeOf atype) ≤ 536870912) (hdg : decode cc pc = .ok (.newarray atype, 2))
    (kk : ∀ (H1 : Heap) (k n : Nat), fCur D cA s h0 r.2 H1 locs → W p l e R s m args below meth c H1 locs k n Q (F0 m (pc + 2) ls (va_rf (some r.1) :: rest))) : W p l e R s m args below meth c H locs cells slots Q (F0 m pc ls (.int n :: rest)) := by
  obtain ⟨g1, g2, rfl⟩ := fnew_inv hg
  refine fr_tight hC ?_
  obtain ⟨c1, c2, c3, c4, c5, c6, c7⟩ := id hC
  obtain ⟨d1, d2, d3, d4, -⟩ := c4
  refine va_newaK hexec hb (hts _ hw) rfl hdg rfl hn rfl hbytes (by rw [hR.1]; omega) (by rw [hR.2]; omega) rfl fun H1 cB e1 z1 o1 hAr hNm => ?_
  have hcB : cB = cA t := by
    have h9 := (K.1.2 t _ (fTys_at ht)).2
    have h9 : va_RA s (cA t) (newarray.typeOf atype) := h9
    rw [hprim] at h9
    exact Option.some.inj (hNm.symm.trans h9)
  subst hcB
  have hat : va_at D fcl (H.size, fE cA (.inr (t, a0))) H1 := by
    show H1[H.size]? = some (vp_cell (cA t) a0)
    rw [ha, e1]
  have hcu := hC.push (n := n.toNatClampNeg) hat z1 e1 (by rw [arrV_size]; exact Nat.le_refl _) o1 g1 g2
  have hk := kk H1 (fZ h - fZ h0 + 1) (fL h - fL h0 + n.toNatClampNeg) hcu
  rw [c2]
  exact hk
/-- anewarray -/
theorem fr_newq (hexec : p.tables.exec = Jvm.exec) (hb : c.code = cc) (hts : ∀ w ∈ WA, w.before args s = true) {own C : String} {index : Nat} (hown : s.vm.findClass own = some m.cls) (K : fKw D cA h0 s) (hC : fCur D cA s h0 h H locs) (hR : R.cells = fCB h0 - fZ h0 ∧ R.slots = fLB h0 - fL h0) {t : Nat} (ht : ftl[t]? = some (.object C)) (hcl : Cond.classLink own index C ∈ WA) (hover : Cond.arrayOver (.object C) ∈ WA) {n : Int32} {r : Nat × fSt} (hn : ¬ n < 0) (hg : fnew h (.inr (t, n.toNatClampNeg, .inr (.inr (.inr (.inr (fun _ => none)))))) n.toNatClampNeg = some r) (hbytes : n.toNatClampNeg * 4 ≤ 536870912) (hdg : decode cc pc = .ok (.anewarray index, 3))
    (kk : ∀ (H1 : Heap) (k n : Nat), fCur D cA s h0 r.2 H1 locs → W p l e R s m args below meth c H1 locs k n Q (F0 m (pc + 3) ls (va_rf (some r.1) :: rest))) : W p l e R s m args below meth c H locs cells slots Q (F0 m pc ls (.int n :: rest)) := by
  obtain ⟨g1, g2, rfl⟩ := fnew_inv hg
  refine fr_tight hC ?_
  obtain ⟨c1, c2, c3, c4, c5, c6, c7⟩ := id hC
  obtain ⟨d1, d2, d3, d4, -⟩ := c4
  refine W.anew hexec hb hown (hts _ hcl) (hts _ hover) rfl hdg rfl hn hbytes (by rw [hR.1]; omega) (by rw [hR.2]; omega) fun cB kA comp f1 f2 f3 f4 => ?_
  have hcB : cB = cA t := by
    obtain ⟨kA', comp', -, -, -, h4⟩ := (K.1.2 t _ (fTys_at ht)).2
    exact Option.some.inj (f1.symm.trans h4)
  subst hcB
  generalize hH1 : H.push ({ cls := cA t, slots := Array.replicate n.toNatClampNeg .null, vm := .none } : Cell) = H1
  have z1 : H1.size = H.size + 1 := by rw [← hH1, Array.size_push]
  have e1 : H1[H.size]? = some (arrV (cA t) n.toNatClampNeg (fun _ => .null)) := by rw [← hH1, Array.getElem?_push_size, ← arrV_new]
  have o1 : ∀ q : Nat, q < H.size → H1[q]? = H[q]? := fun q hq => by rw [← hH1, Array.getElem?_push, if_neg (Nat.ne_of_lt hq)]
  have hat : va_at D fcl (H.size, fE cA (.inr (t, n.toNatClampNeg, .inr (.inr (.inr (.inr (fun _ => none))))))) H1 := e1
  have hcu := hC.push (n := n.toNatClampNeg) hat z1 e1 (by rw [arrV_size]; exact Nat.le_refl _) o1 g1 g2
  have hk := kk H1 (fZ h - fZ h0 + 1) (fL h - fL h0 + n.toNatClampNeg) hcu
  rw [c2]
  exact hk
end FH5
end
section
section FH6
variable {p : Program} {l : Launch} {e : Env} {R : Room} {s : State} {m : MethodId} {args : Array Value} {below : List Frame} {meth : Method} {c : Code} {H : Heap} {locs : List Loc} {cells slots : Nat} {Q : State → Prop}
variable {D : va_G} {cA : Nat → ClassId} {h0 h h2 : fSt} {cc : ByteArray} {pc : Nat} {ls : Array Slot} {rest st0 : List Value}
theorem wGood {w : Cond} (h : w ∈ WA) : goodWord w = true := (List.mem_filter.mp h).2
theorem wGoodIn {ws : List Cond} (h : ∀ w ∈ ws, w ∈ WA) : GoodIn WA ws := fun w hw => ⟨h w hw, good_of_word (wGood (h w hw))⟩
/-- a method's words: its code, and all words -/
abbrev wsC (y : MethodName) (cd : ByteArray) (maxL : Nat) (ret : Option FieldType) : List Cond := Cond.code y cd maxL ret :: WA
abbrev wsCH (y : MethodName) (cd : ByteArray) (maxL : Nat) (ret : Option FieldType) (hh : List (Nat × Nat × Nat × Nat)) : List Cond := Cond.codeWith y cd maxL ret hh :: WA
theorem fr_room (hC : fCur D cA s h0 h H locs) (hR : R.cells = fCB h0 - fZ h0 ∧ R.slots = fLB h0 - fL h0) : fZ h - fZ h0 + (fCB h - fZ h) ≤ R.cells ∧ fL h - fL h0 + (fLB h - fL h) ≤ R.slots := by
  obtain ⟨c1, c2, c3, ⟨d1, d2, d3, d4, -⟩, ⟨o1, o2⟩, c6, c7⟩ := hC
  rw [hR.1, hR.2]
  omega
/-- what a call that returns leaves -/
theorem fCur.after (hC : fCur D cA s h0 h H locs) {st t T' : State} {L : List Loc} (e0 : st.heap = H) (e1 : T'.heap = t.heap) (hF : fFin D cA h h2 st t) (hL : ∀ q ∈ L, fA h q.base) : fCur D cA s h0 h2 T'.heap (locs ++ L) := by
  obtain ⟨c1, c2, c3, c4, c5, c6, c7⟩ := hC
  obtain ⟨f1, f2, f3, f4, f5, f6, f7⟩ := hF
  rw [e0] at f3 f6 f7
  rw [e1]
  have d2 := c4.2.1
  have d3 := f4.2.1
  refine ⟨f1, f2, by omega, c4.trans f4, f5, ⟨Nat.le_trans c6.1 f6, fun q h1 h3 => ?_, fun q hq => ?_⟩, c7⟩
  · rw [f7 q (Nat.lt_of_lt_of_le h1 c6.1) (fun z => h3 (fA.sub c4 q z))]
    exact c6.2.1 q h1 h3
  · rcases List.mem_append.mp hq with z | z
    · exact c6.2.2 q z
    · exact fA.sub c4 _ (hL q z)
theorem fr_ret {v : Option Value} {a : Array Value} {mc ms : Nat} (hr : va_Run p l e R s m args below meth c H locs (fZ h - fZ h0) (fL h - fL h0) mc ms (F0 m pc ls st0) rest (fQ D cA h h2 v a) (fA h)) (hC : fCur D cA s h0 h H locs)
    (kk : ∀ (H1 : Heap) (locs1 : List Loc) (k n : Nat), fCur D cA s h0 h2 H1 locs1 → W p l e R s m args below meth c H1 locs1 k n Q (F0 m (pc + 3) ls (v.toList ++ rest))) : W p l e R s m args below meth c H locs cells slots Q (F0 m pc ls st0) := by
  refine fr_tight hC ?_
  intro T hT X
  obtain ⟨v', st, t, T', L, e0, X', hL, e1, e2, ⟨hv, hF⟩, stp⟩ := hr T hT X
  cases hv
  obtain ⟨t2, a1, b1⟩ := kk T'.heap (locs ++ L) _ _ (hC.after e0 e1 hF hL) T' rfl X'
  exact ⟨t2, stp t2 a1, b1⟩
theorem fr_retX {v : Option Value} {a : Array Value} {mc ms : Nat} (hr : vx_Run p l e R s m args below meth c H locs (fZ h - fZ h0) (fL h - fL h0) mc ms (F0 m pc ls st0) rest (fQX D cA h h2 (.inl v) a) (fXC D cA h h2 (.inl v)) (fA h)) (hC : fCur D cA s h0 h H locs)
    (kk : ∀ (H1 : Heap) (locs1 : List Loc) (k n : Nat), fCur D cA s h0 h2 H1 locs1 → W p l e R s m args below meth c H1 locs1 k n Q (F0 m (pc + 3) ls (v.toList ++ rest))) : W p l e R s m args below meth c H locs cells slots Q (F0 m pc ls st0) := by
  refine fr_tight hC ?_
  intro T hT X
  rcases hr T hT X with ⟨v', st, t, T', L, e0, X', hL, e1, e2, ⟨v2, hv2, hv, hF⟩, stp⟩ | ⟨q, st, t, T', L, E, ce, e0, X', hL, e1, e2, ⟨k, hk, -⟩, -⟩
  · cases hv2
    cases hv
    obtain ⟨t2, a1, b1⟩ := kk T'.heap (locs ++ L) _ _ (hC.after e0 e1 hF hL) T' rfl X'
    exact ⟨t2, stp t2 a1, b1⟩
  · cases hk
/-- a call that throws -/
theorem fr_thr {k9 : Nat} {a : Array Value} {mc ms : Nat} (hr : vx_Run p l e R s m args below meth c H locs (fZ h - fZ h0) (fL h - fL h0) mc ms (F0 m pc ls st0) rest (fQX D cA h h2 (.inr k9) a) (fXC D cA h h2 (.inr k9)) (fA h)) (hC : fCur D cA s h0 h H locs)
    (kk : ∀ (H1 : Heap) (locs1 : List Loc) (k n : Nat) (q : Addr) (ce : Cell), fCur D cA s h0 h2 H1 locs1 → H1[q]? = some ce → ce.vm = .none → s.vm.findClass (fEx k9) = some ce.cls → vx_W p l e R s m args below meth c H1 locs1 k n Q (F0 m pc ls rest) q) : W p l e R s m args below meth c H locs cells slots Q (F0 m pc ls st0) := by
  refine fr_tight hC ?_
  intro T hT X
  rcases hr T hT X with ⟨v', st, t, T', L, e0, X', hL, e1, e2, ⟨v2, hv2, -⟩, -⟩ | ⟨q, st, t, T', L, E, ce, e0, X', hL, e1, e2, ⟨k, hk, hE, hF⟩, hce, hcv, hcl, stp⟩
  · cases hv2
  · cases hk
    subst hE
    obtain ⟨t2, a1, b1⟩ := kk T'.heap (locs ++ L) _ _ q ce (hC.after e0 e1 hF hL) (by rw [e1]; exact hce) hcv hcl T' rfl X'
    exact ⟨t2, stp.trans a1, b1⟩
/-- the words and the room of a callee -/
theorem fWords (hts : ∀ w ∈ WA, w.before args s = true) {y : MethodName} {cd : ByteArray} {maxL : Nat} {ret : Option FieldType} (hcode : Cond.code y cd maxL ret ∈ WA) : ∀ w ∈ wsC y cd maxL ret, w ∈ WA := fun w hw => (List.mem_cons.mp hw).elim (fun z => by rw [z]; exact hcode) id
theorem fCallB (hts : ∀ w ∈ WA, w.before args s = true) {own : String} {index maxL mc ms fr lo : Nat} {y : MethodName} {cd : ByteArray} {ret : Option FieldType} (n : Nat) (hcode : Cond.code y cd maxL ret ∈ WA) (hlink : Cond.methodLink own index y ∈ WA) (hini : Cond.initialized y.cls ∈ WA) (hd : y.cls ≠ "java/lang/invoke/MethodHandle" ∧ y.cls ≠ "java/lang/invoke/VarHandle" ∧ (parseMethodDescriptor y.desc).map (fun d => d.parameters.length) = some n) (hRm : fr + 1 ≤ R.frames ∧ 8 + (maxL + 11) + lo ≤ R.locals) :
    CallB R s args own index y cd maxL ret (wsC y cd maxL ret) { frames := fr, cells := mc, slots := ms, locals := lo } mc ms n :=
  callB_of n hts (wGoodIn (fWords hts hcode)) rfl rfl rfl (hts _ hini) (hts _ hlink) hd hRm
theorem fPreV {y : MethodName} (hC : fCur D cA s h0 h H locs) (K : fKw D cA h0 s) {C : String} {T : u_T} {N ci : Nat} {ty : Nat → FieldType} (ct : CT ci C T N ty) {b : Nat} {fs : List Value} (hb : fF h b = some (.inl (ci, fs))) (As : List Value) : PreV s H C b (va_Pc (.ref b :: As) (fCp D cA h)) As := by
  refine ⟨fBlind, va_recv (D := D) (cl := fcl) (ws := [(b, .inr (ci, fs))]) (q0 := 0) (ci := ci) (q := (C, T, N)) K.1 (fOne hC hb) ct.1 rfl, fun U hU hW => ⟨rfl, hC.call K hU hW⟩⟩
theorem fPreS (hC : fCur D cA s h0 h H locs) (K : fKw D cA h0 s) (As : List Value) : PreS s H (va_Pc As (fCp D cA h)) As := ⟨fBlind, fun U hU hW => ⟨rfl, hC.call K hU hW⟩⟩
/-- the class of the receiver -/
def fobj (h : fSt) (r : Option Nat) (ci : Nat) : Option Nat := match r with
  | none => none
  | some a => match fF h a with
    | some (.inl (cj, _)) => if cj = ci then some a else none
    | _ => none
theorem fobj_inv {r : Option Nat} {ci b : Nat} (h1 : fobj h r ci = some b) : r = some b ∧ ∃ fs, fF h b = some (.inl (ci, fs)) := by
  unfold fobj at h1
  split at h1
  · cases h1
  · rename_i a
    split at h1
    · rename_i cj fs hq
      by_cases z : cj = ci
      · subst z
        rw [if_pos (Eq.refl _)] at h1
        cases h1
        exact ⟨rfl, fs, hq⟩
      · rw [if_neg z] at h1; cases h1
    · cases h1
/-- invokevirtual of a method that returns v -/
theorem fr_callV (hexec : p.tables.exec = Jvm.exec) (hb : c.code = cc) {nL : Nat} (hml : c.maxLocals = nL) (hts : ∀ w ∈ WA, w.before args s = true) {own C : String} {T : u_T} {N ci index maxL fr lo : Nat} {ty : Nat → FieldType} (hown : s.vm.findClass own = some m.cls) (K : fKw D cA h0 s) (hC : fCur D cA s h0 h H locs) (hR : R.cells = fCB h0 - fZ h0 ∧ R.slots = fLB h0 - fL h0) (ct : CT ci C T N ty)
    {y : MethodName} {cd : ByteArray} {ret : Option FieldType} {r : Option Nat} {b : Nat} {As : List Value} {v : Option Value} (hM : fMet l y (wsC y cd maxL ret) fr lo D cA (.ref b :: As) h h2 v) (n : Nat) (hg : fobj h r ci = some b) (hcode : Cond.code y cd maxL ret ∈ WA) (hlink : Cond.methodLink own index y ∈ WA) (hinst : Cond.instanceMethod y ∈ WA) (hsel : Cond.selects C y y ∈ WA) (hini : Cond.initialized y.cls ∈ WA)
    (hd : y.cls ≠ "java/lang/invoke/MethodHandle" ∧ y.cls ≠ "java/lang/invoke/VarHandle" ∧ (parseMethodDescriptor y.desc).map (fun d => d.parameters.length) = some n) (hRm : fr + 1 ≤ R.frames ∧ 8 + (maxL + 11) + lo ≤ R.locals) (hn : As.length = n) (hsize : ls.size = nL) (hW : (rest.map fun v => v.category).sum ≤ 8) (hdg : decode cc pc = .ok (.invokevirtual index, 3)) (hst : st0 = As.reverse ++ va_rf r :: rest)
    (kk : ∀ (H1 : Heap) (locs1 : List Loc) (k n : Nat), fCur D cA s h0 h2 H1 locs1 → W p l e R s m args below meth c H1 locs1 k n Q (F0 m (pc + 3) ls (v.toList ++ rest))) : W p l e R s m args below meth c H locs cells slots Q (F0 m pc ls st0) := by
  obtain ⟨rfl, fs, hbo⟩ := fobj_inv hg
  subst hst
  exact fr_ret (va_runV ⟨hexec, hb, hml, hown, hts⟩ hM ⟨fCallB hts n hcode hlink hini hd hRm, hts _ hinst, hts _ hsel⟩ (fPreV (y := y) hC K ct hbo As) rfl hn hsize rfl (by show 2 * 0 + _ ≤ 8; omega) hdg (fr_room hC hR)) hC kk
theorem fr_callVX (hexec : p.tables.exec = Jvm.exec) (hb : c.code = cc) {nL : Nat} (hml : c.maxLocals = nL) (hts : ∀ w ∈ WA, w.before args s = true) {own C : String} {T : u_T} {N ci index maxL fr lo : Nat} {ty : Nat → FieldType} (hown : s.vm.findClass own = some m.cls) (K : fKw D cA h0 s) (hC : fCur D cA s h0 h H locs) (hR : R.cells = fCB h0 - fZ h0 ∧ R.slots = fLB h0 - fL h0) (ct : CT ci C T N ty)
    {y : MethodName} {cd : ByteArray} {ret : Option FieldType} {r : Option Nat} {b : Nat} {As : List Value} {v : Option Value} (hM : fMetX l y (wsC y cd maxL ret) fr lo D cA (.ref b :: As) h h2 (.inl v)) (n : Nat) (hg : fobj h r ci = some b) (hcode : Cond.code y cd maxL ret ∈ WA) (hlink : Cond.methodLink own index y ∈ WA) (hinst : Cond.instanceMethod y ∈ WA) (hsel : Cond.selects C y y ∈ WA) (hini : Cond.initialized y.cls ∈ WA)
    (hd : y.cls ≠ "java/lang/invoke/MethodHandle" ∧ y.cls ≠ "java/lang/invoke/VarHandle" ∧ (parseMethodDescriptor y.desc).map (fun d => d.parameters.length) = some n) (hRm : fr + 1 ≤ R.frames ∧ 8 + (maxL + 11) + lo ≤ R.locals) (hn : As.length = n) (hsize : ls.size = nL) (hW : (rest.map fun v => v.category).sum ≤ 8) (hdg : decode cc pc = .ok (.invokevirtual index, 3)) (hst : st0 = As.reverse ++ va_rf r :: rest)
    (kk : ∀ (H1 : Heap) (locs1 : List Loc) (k n : Nat), fCur D cA s h0 h2 H1 locs1 → W p l e R s m args below meth c H1 locs1 k n Q (F0 m (pc + 3) ls (v.toList ++ rest))) : W p l e R s m args below meth c H locs cells slots Q (F0 m pc ls st0) := by
  obtain ⟨rfl, fs, hbo⟩ := fobj_inv hg
  subst hst
  exact fr_retX (vx_runV ⟨hexec, hb, hml, hown, hts⟩ hM ⟨fCallB hts n hcode hlink hini hd hRm, hts _ hinst, hts _ hsel⟩ (fPreV (y := y) hC K ct hbo As) rfl hn hsize rfl (by show 2 * 0 + _ ≤ 8; omega) hdg (fr_room hC hR)) hC kk
theorem fr_callVT (hexec : p.tables.exec = Jvm.exec) (hb : c.code = cc) {nL : Nat} (hml : c.maxLocals = nL) (hts : ∀ w ∈ WA, w.before args s = true) {own C : String} {T : u_T} {N ci index maxL fr lo : Nat} {ty : Nat → FieldType} (hown : s.vm.findClass own = some m.cls) (K : fKw D cA h0 s) (hC : fCur D cA s h0 h H locs) (hR : R.cells = fCB h0 - fZ h0 ∧ R.slots = fLB h0 - fL h0) (ct : CT ci C T N ty)
    {y : MethodName} {cd : ByteArray} {ret : Option FieldType} {r : Option Nat} {b k9 : Nat} {As : List Value} (hM : fMetX l y (wsC y cd maxL ret) fr lo D cA (.ref b :: As) h h2 (.inr k9)) (n : Nat) (hg : fobj h r ci = some b) (hcode : Cond.code y cd maxL ret ∈ WA) (hlink : Cond.methodLink own index y ∈ WA) (hinst : Cond.instanceMethod y ∈ WA) (hsel : Cond.selects C y y ∈ WA) (hini : Cond.initialized y.cls ∈ WA)
    (hd : y.cls ≠ "java/lang/invoke/MethodHandle" ∧ y.cls ≠ "java/lang/invoke/VarHandle" ∧ (parseMethodDescriptor y.desc).map (fun d => d.parameters.length) = some n) (hRm : fr + 1 ≤ R.frames ∧ 8 + (maxL + 11) + lo ≤ R.locals) (hn : As.length = n) (hsize : ls.size = nL) (hW : (rest.map fun v => v.category).sum ≤ 8) (hdg : decode cc pc = .ok (.invokevirtual index, 3)) (hst : st0 = As.reverse ++ va_rf r :: rest)
    (kk : ∀ (H1 : Heap) (locs1 : List Loc) (k n : Nat) (q : Addr) (ce : Cell), fCur D cA s h0 h2 H1 locs1 → H1[q]? = some ce → ce.vm = .none → s.vm.findClass (fEx k9) = some ce.cls → vx_W p l e R s m args below meth c H1 locs1 k n Q (F0 m pc ls rest) q) : W p l e R s m args below meth c H locs cells slots Q (F0 m pc ls st0) := by
  obtain ⟨rfl, fs, hbo⟩ := fobj_inv hg
  subst hst
  exact fr_thr (vx_runV ⟨hexec, hb, hml, hown, hts⟩ hM ⟨fCallB hts n hcode hlink hini hd hRm, hts _ hinst, hts _ hsel⟩ (fPreV (y := y) hC K ct hbo As) rfl hn hsize rfl (by show 2 * 0 + _ ≤ 8; omega) hdg (fr_room hC hR)) hC kk
/-- invokestatic -/
theorem fr_callS (hexec : p.tables.exec = Jvm.exec) (hb : c.code = cc) {nL : Nat} (hml : c.maxLocals = nL) (hts : ∀ w ∈ WA, w.before args s = true) {own : String} {index maxL fr lo : Nat} (hown : s.vm.findClass own = some m.cls) (K : fKw D cA h0 s) (hC : fCur D cA s h0 h H locs) (hR : R.cells = fCB h0 - fZ h0 ∧ R.slots = fLB h0 - fL h0)
    {y : MethodName} {cd : ByteArray} {ret : Option FieldType} {As : List Value} {v : Option Value} (hM : fMet l y (wsC y cd maxL ret) fr lo D cA As h h2 v) (n : Nat) (hcode : Cond.code y cd maxL ret ∈ WA) (hlink : Cond.methodLink own index y ∈ WA) (hstat : Cond.static y ∈ WA) (hini : Cond.initialized y.cls ∈ WA)
    (hd : y.cls ≠ "java/lang/invoke/MethodHandle" ∧ y.cls ≠ "java/lang/invoke/VarHandle" ∧ (parseMethodDescriptor y.desc).map (fun d => d.parameters.length) = some n) (hRm : fr + 1 ≤ R.frames ∧ 8 + (maxL + 11) + lo ≤ R.locals) (hn : As.length = n) (hsize : ls.size = nL) (hW : (rest.map fun v => v.category).sum ≤ 8) (hdg : decode cc pc = .ok (.invokestatic index, 3)) (hst : st0 = As.reverse ++ rest)
    (kk : ∀ (H1 : Heap) (locs1 : List Loc) (k n : Nat), fCur D cA s h0 h2 H1 locs1 → W p l e R s m args below meth c H1 locs1 k n Q (F0 m (pc + 3) ls (v.toList ++ rest))) : W p l e R s m args below meth c H locs cells slots Q (F0 m pc ls st0) := by
  subst hst
  exact fr_ret (va_runS ⟨hexec, hb, hml, hown, hts⟩ hM ⟨fCallB hts n hcode hlink hini hd hRm, hts _ hstat⟩ (fPreS hC K As) rfl hn hsize rfl (by show 2 * 0 + _ ≤ 8; omega) hdg (fr_room hC hR)) hC kk
theorem fr_callSX (hexec : p.tables.exec = Jvm.exec) (hb : c.code = cc) {nL : Nat} (hml : c.maxLocals = nL) (hts : ∀ w ∈ WA, w.before args s = true) {own : String} {index maxL fr lo : Nat} (hown : s.vm.findClass own = some m.cls) (K : fKw D cA h0 s) (hC : fCur D cA s h0 h H locs) (hR : R.cells = fCB h0 - fZ h0 ∧ R.slots = fLB h0 - fL h0)
    {y : MethodName} {cd : ByteArray} {ret : Option FieldType} {As : List Value} {v : Option Value} (hM : fMetX l y (wsC y cd maxL ret) fr lo D cA As h h2 (.inl v)) (n : Nat) (hcode : Cond.code y cd maxL ret ∈ WA) (hlink : Cond.methodLink own index y ∈ WA) (hstat : Cond.static y ∈ WA) (hini : Cond.initialized y.cls ∈ WA)
    (hd : y.cls ≠ "java/lang/invoke/MethodHandle" ∧ y.cls ≠ "java/lang/invoke/VarHandle" ∧ (parseMethodDescriptor y.desc).map (fun d => d.parameters.length) = some n) (hRm : fr + 1 ≤ R.frames ∧ 8 + (maxL + 11) + lo ≤ R.locals) (hn : As.length = n) (hsize : ls.size = nL) (hW : (rest.map fun v => v.category).sum ≤ 8) (hdg : decode cc pc = .ok (.invokestatic index, 3)) (hst : st0 = As.reverse ++ rest)
    (kk : ∀ (H1 : Heap) (locs1 : List Loc) (k n : Nat), fCur D cA s h0 h2 H1 locs1 → W p l e R s m args below meth c H1 locs1 k n Q (F0 m (pc + 3) ls (v.toList ++ rest))) : W p l e R s m args below meth c H locs cells slots Q (F0 m pc ls st0) := by
  subst hst
  exact fr_retX (vx_runS ⟨hexec, hb, hml, hown, hts⟩ hM ⟨fCallB hts n hcode hlink hini hd hRm, hts _ hstat⟩ (fPreS hC K As) rfl hn hsize rfl (by show 2 * 0 + _ ≤ 8; omega) hdg (fr_room hC hR)) hC kk
theorem fr_callST (hexec : p.tables.exec = Jvm.exec) (hb : c.code = cc) {nL : Nat} (hml : c.maxLocals = nL) (hts : ∀ w ∈ WA, w.before args s = true) {own : String} {index maxL fr lo : Nat} (hown : s.vm.findClass own = some m.cls) (K : fKw D cA h0 s) (hC : fCur D cA s h0 h H locs) (hR : R.cells = fCB h0 - fZ h0 ∧ R.slots = fLB h0 - fL h0)
    {y : MethodName} {cd : ByteArray} {ret : Option FieldType} {As : List Value} {k9 : Nat} (hM : fMetX l y (wsC y cd maxL ret) fr lo D cA As h h2 (.inr k9)) (n : Nat) (hcode : Cond.code y cd maxL ret ∈ WA) (hlink : Cond.methodLink own index y ∈ WA) (hstat : Cond.static y ∈ WA) (hini : Cond.initialized y.cls ∈ WA)
    (hd : y.cls ≠ "java/lang/invoke/MethodHandle" ∧ y.cls ≠ "java/lang/invoke/VarHandle" ∧ (parseMethodDescriptor y.desc).map (fun d => d.parameters.length) = some n) (hRm : fr + 1 ≤ R.frames ∧ 8 + (maxL + 11) + lo ≤ R.locals) (hn : As.length = n) (hsize : ls.size = nL) (hW : (rest.map fun v => v.category).sum ≤ 8) (hdg : decode cc pc = .ok (.invokestatic index, 3)) (hst : st0 = As.reverse ++ rest)
    (kk : ∀ (H1 : Heap) (locs1 : List Loc) (k n : Nat) (q : Addr) (ce : Cell), fCur D cA s h0 h2 H1 locs1 → H1[q]? = some ce → ce.vm = .none → s.vm.findClass (fEx k9) = some ce.cls → vx_W p l e R s m args below meth c H1 locs1 k n Q (F0 m pc ls rest) q) : W p l e R s m args below meth c H locs cells slots Q (F0 m pc ls st0) := by
  subst hst
  exact fr_thr (vx_runS ⟨hexec, hb, hml, hown, hts⟩ hM ⟨fCallB hts n hcode hlink hini hd hRm, hts _ hstat⟩ (fPreS hC K As) rfl hn hsize rfl (by show 2 * 0 + _ ≤ 8; omega) hdg (fr_room hC hR)) hC kk
/-- a constructor of ours -/
theorem fr_callI (hexec : p.tables.exec = Jvm.exec) (hb : c.code = cc) {nL : Nat} (hml : c.maxLocals = nL) (hts : ∀ w ∈ WA, w.before args s = true) {own : String} {index maxL fr lo : Nat} (hown : s.vm.findClass own = some m.cls) (K : fKw D cA h0 s) (hC : fCur D cA s h0 h H locs) (hR : R.cells = fCB h0 - fZ h0 ∧ R.slots = fLB h0 - fL h0)
    {y : MethodName} {cd : ByteArray} {b : Nat} {As : List Value} (hM : fMet l y (wsC y cd maxL none) fr lo D cA (.ref b :: As) h h2 none) (n : Nat) (hcode : Cond.code y cd maxL none ∈ WA) (hlink : Cond.methodLink own index y ∈ WA) (hinst : Cond.instanceMethod y ∈ WA) (hini : Cond.initialized y.cls ∈ WA) (hnm : y.name = "<init>")
    (hd : y.cls ≠ "java/lang/invoke/MethodHandle" ∧ y.cls ≠ "java/lang/invoke/VarHandle" ∧ (parseMethodDescriptor y.desc).map (fun d => d.parameters.length) = some n) (hRm : fr + 1 ≤ R.frames ∧ 8 + (maxL + 11) + lo ≤ R.locals) (hn : As.length = n) (hsize : ls.size = nL) (hW : (rest.map fun v => v.category).sum ≤ 8) (hdg : decode cc pc = .ok (.invokespecial index, 3)) (hst : st0 = As.reverse ++ va_rf (some b) :: rest)
    (kk : ∀ (H1 : Heap) (locs1 : List Loc) (k n : Nat), fCur D cA s h0 h2 H1 locs1 → W p l e R s m args below meth c H1 locs1 k n Q (F0 m (pc + 3) ls rest)) : W p l e R s m args below meth c H locs cells slots Q (F0 m pc ls st0) := by
  subst hst
  exact fr_ret (va_runI ⟨hexec, hb, hml, hown, hts⟩ hM ⟨fCallB hts n hcode hlink hini hd hRm, hnm, hts _ hinst⟩ (fPreS hC K (.ref b :: As)) rfl hn hsize rfl (by show 2 * 0 + _ ≤ 8; omega) hdg (fr_room hC hR)) hC kk
end FH6
end
section
section FH7
variable {p : Program} {l : Launch} {e : Env} {R : Room} {s : State} {m : MethodId} {args : Array Value} {below : List Frame} {meth : Method} {c : Code} {H : Heap} {locs : List Loc} {cells slots : Nat} {Q : State → Prop}
variable {D : va_G} {cA : Nat → ClassId} {h0 h h2 : fSt} {cc : ByteArray} {pc : Nat} {ls : Array Slot} {rest st0 : List Value}
/-- a static private method of the nest -/
theorem fr_callSN (hexec : p.tables.exec = Jvm.exec) (hb : c.code = cc) {nL : Nat} (hml : c.maxLocals = nL) (hts : ∀ w ∈ WA, w.before args s = true) {own host : String} {index maxL fr lo : Nat} (hown : s.vm.findClass own = some m.cls) (K : fKw D cA h0 s) (hC : fCur D cA s h0 h H locs) (hR : R.cells = fCB h0 - fZ h0 ∧ R.slots = fLB h0 - fL h0)
    {y : MethodName} {cd : ByteArray} {ret : Option FieldType} {As : List Value} {v : Option Value} (hM : fMet l y (wsC y cd maxL ret) fr lo D cA As h h2 v) (n : Nat) (hcode : Cond.code y cd maxL ret ∈ WA) (hlink : Cond.methodLinkNest own index y host ∈ fNw) (hstat : Cond.static y ∈ WA) (hini : Cond.initialized y.cls ∈ WA)
    (hd : y.cls ≠ "java/lang/invoke/MethodHandle" ∧ y.cls ≠ "java/lang/invoke/VarHandle" ∧ (parseMethodDescriptor y.desc).map (fun d => d.parameters.length) = some n) (hRm : fr + 1 ≤ R.frames ∧ 8 + (maxL + 11) + lo ≤ R.locals) (hn : As.length = n) (hsize : ls.size = nL) (hW : (rest.map fun v => v.category).sum ≤ 8) (hdg : decode cc pc = .ok (.invokestatic index, 3)) (hst : st0 = As.reverse ++ rest)
    (kk : ∀ (H1 : Heap) (locs1 : List Loc) (k n : Nat), fCur D cA s h0 h2 H1 locs1 → W p l e R s m args below meth c H1 locs1 k n Q (F0 m (pc + 3) ls (v.toList ++ rest))) : W p l e R s m args below meth c H locs cells slots Q (F0 m pc ls st0) := by
  subst hst
  exact fr_ret (va_runSN ⟨hexec, hb, hml, hown, hts⟩ hM ⟨va_cnB n hts (wGoodIn (fWords hts hcode)) rfl rfl rfl (K.2.2.2.2.2.1 _ hlink) (hts _ hini) hd hRm, hts _ hstat, trivial⟩ (fPreS hC K As) rfl hn hsize rfl (by show 2 * 0 + _ ≤ 8; omega) hdg (fr_room hC hR)) hC kk
/-- a private constructor of the nest -/
theorem fr_callIN (hexec : p.tables.exec = Jvm.exec) (hb : c.code = cc) {nL : Nat} (hml : c.maxLocals = nL) (hts : ∀ w ∈ WA, w.before args s = true) {own host : String} {index maxL fr lo : Nat} (hown : s.vm.findClass own = some m.cls) (K : fKw D cA h0 s) (hC : fCur D cA s h0 h H locs) (hR : R.cells = fCB h0 - fZ h0 ∧ R.slots = fLB h0 - fL h0)
    {y : MethodName} {cd : ByteArray} {b : Nat} {As : List Value} (hM : fMet l y (wsC y cd maxL none) fr lo D cA (.ref b :: As) h h2 none) (n : Nat) (hcode : Cond.code y cd maxL none ∈ WA) (hlink : Cond.methodLinkNest own index y host ∈ fNw) (hinst : Cond.instanceMethod y ∈ WA) (hini : Cond.initialized y.cls ∈ WA) (hnm : y.name = "<init>")
    (hd : y.cls ≠ "java/lang/invoke/MethodHandle" ∧ y.cls ≠ "java/lang/invoke/VarHandle" ∧ (parseMethodDescriptor y.desc).map (fun d => d.parameters.length) = some n) (hRm : fr + 1 ≤ R.frames ∧ 8 + (maxL + 11) + lo ≤ R.locals) (hn : As.length = n) (hsize : ls.size = nL) (hW : (rest.map fun v => v.category).sum ≤ 8) (hdg : decode cc pc = .ok (.invokespecial index, 3)) (hst : st0 = As.reverse ++ va_rf (some b) :: rest)
    (kk : ∀ (H1 : Heap) (locs1 : List Loc) (k n : Nat), fCur D cA s h0 h2 H1 locs1 → W p l e R s m args below meth c H1 locs1 k n Q (F0 m (pc + 3) ls rest)) : W p l e R s m args below meth c H locs cells slots Q (F0 m pc ls st0) := by
  subst hst
  exact fr_ret (va_runIN ⟨hexec, hb, hml, hown, hts⟩ hM ⟨va_cnB n hts (wGoodIn (fWords hts hcode)) rfl rfl rfl (K.2.2.2.2.2.1 _ hlink) (hts _ hini) hd hRm, hnm, hts _ hinst⟩ (fPreS hC K (.ref b :: As)) rfl hn hsize rfl (by show 2 * 0 + _ ≤ 8; omega) hdg (fr_room hC hR)) hC kk
/-- a static method with handlers, that returns -/
theorem fr_callVH (hexec : p.tables.exec = Jvm.exec) (hb : c.code = cc) {nL : Nat} (hml : c.maxLocals = nL) (hts : ∀ w ∈ WA, w.before args s = true) {own C : String} {T : u_T} {N ci index maxL fr lo : Nat} {ty : Nat → FieldType} (hown : s.vm.findClass own = some m.cls) (K : fKw D cA h0 s) (hC : fCur D cA s h0 h H locs) (hR : R.cells = fCB h0 - fZ h0 ∧ R.slots = fLB h0 - fL h0) (ct : CT ci C T N ty)
    {y : MethodName} {cd : ByteArray} {ret : Option FieldType} {hh : List (Nat × Nat × Nat × Nat)} {r : Option Nat} {b : Nat} {As : List Value} {v : Option Value} (hM : fMetX l y (wsCH y cd maxL ret hh) fr lo D cA (.ref b :: As) h h2 (.inl v)) (hcy : y.cls = C) (n : Nat) (hg : fobj h r ci = some b) (hcode : Cond.codeWith y cd maxL ret hh ∈ WA) (hlink : Cond.methodLink own index y ∈ WA) (hinst : Cond.instanceMethod y ∈ WA) (hsel : Cond.selects C y y ∈ WA) (hini : Cond.initialized y.cls ∈ WA)
    (hd : y.cls ≠ "java/lang/invoke/MethodHandle" ∧ y.cls ≠ "java/lang/invoke/VarHandle" ∧ (parseMethodDescriptor y.desc).map (fun d => d.parameters.length) = some n) (hRm : fr + 1 ≤ R.frames ∧ 8 + (maxL + 11) + lo ≤ R.locals) (hn : As.length = n) (hsize : ls.size = nL) (hW : (rest.map fun v => v.category).sum ≤ 8) (hdg : decode cc pc = .ok (.invokevirtual index, 3)) (hst : st0 = As.reverse ++ va_rf r :: rest)
    (kk : ∀ (H1 : Heap) (locs1 : List Loc) (k n : Nat), fCur D cA s h0 h2 H1 locs1 → W p l e R s m args below meth c H1 locs1 k n Q (F0 m (pc + 3) ls (v.toList ++ rest))) : W p l e R s m args below meth c H locs cells slots Q (F0 m pc ls st0) := by
  obtain ⟨rfl, fs, hbo⟩ := fobj_inv hg
  subst hst
  have hall : ∀ w ∈ wsV own index C y (wsCH y cd maxL ret hh), w ∈ WA := by
    intro w hw
    simp only [wsV, List.mem_append, List.mem_cons, List.not_mem_nil, or_false] at hw
    rcases hw with (h | h | h | h) | h | h
    · rw [h]; exact hlink
    · rw [h]; exact hinst
    · rw [h]; exact hsel
    · rw [h, ← hcy]; exact hini
    · rw [h]; exact hcode
    · exact h
  exact fr_retX (vx_runVX ⟨hexec, hb, hml, hown, hts⟩ hM (vx_cwVW n hts (wGoodIn hall) rfl rfl rfl ⟨hcy, hd⟩ hRm) (fPreV (y := y) hC K ct hbo As) rfl hn hsize rfl (by show 2 * 0 + _ ≤ 8; omega) hdg (fr_room hC hR)) hC kk
theorem fr_callSH (hexec : p.tables.exec = Jvm.exec) (hb : c.code = cc) {nL : Nat} (hml : c.maxLocals = nL) (hts : ∀ w ∈ WA, w.before args s = true) {own : String} {index maxL fr lo : Nat} (hown : s.vm.findClass own = some m.cls) (K : fKw D cA h0 s) (hC : fCur D cA s h0 h H locs) (hR : R.cells = fCB h0 - fZ h0 ∧ R.slots = fLB h0 - fL h0)
    {y : MethodName} {cd : ByteArray} {ret : Option FieldType} {hh : List (Nat × Nat × Nat × Nat)} {As : List Value} {v : Option Value} (hM : fMetX l y (wsCH y cd maxL ret hh) fr lo D cA As h h2 (.inl v)) (n : Nat) (hcode : Cond.codeWith y cd maxL ret hh ∈ WA) (hlink : Cond.methodLink own index y ∈ WA) (hstat : Cond.static y ∈ WA) (hini : Cond.initialized y.cls ∈ WA)
    (hd : y.cls ≠ "java/lang/invoke/MethodHandle" ∧ y.cls ≠ "java/lang/invoke/VarHandle" ∧ (parseMethodDescriptor y.desc).map (fun d => d.parameters.length) = some n) (hRm : fr + 1 ≤ R.frames ∧ 8 + (maxL + 11) + lo ≤ R.locals) (hn : As.length = n) (hsize : ls.size = nL) (hW : (rest.map fun v => v.category).sum ≤ 8) (hdg : decode cc pc = .ok (.invokestatic index, 3)) (hst : st0 = As.reverse ++ rest)
    (kk : ∀ (H1 : Heap) (locs1 : List Loc) (k n : Nat), fCur D cA s h0 h2 H1 locs1 → W p l e R s m args below meth c H1 locs1 k n Q (F0 m (pc + 3) ls (v.toList ++ rest))) : W p l e R s m args below meth c H locs cells slots Q (F0 m pc ls st0) := by
  subst hst
  have hall : ∀ w ∈ va_wsS own index y (wsCH y cd maxL ret hh), w ∈ WA := by
    intro w hw
    simp only [va_wsS, List.mem_append, List.mem_cons, List.not_mem_nil, or_false] at hw
    rcases hw with (h | h | h) | h | h
    · rw [h]; exact hlink
    · rw [h]; exact hstat
    · rw [h]; exact hini
    · rw [h]; exact hcode
    · exact h
  exact fr_retX (vx_runSX ⟨hexec, hb, hml, hown, hts⟩ hM (vx_cwSW n hts (wGoodIn hall) rfl rfl rfl hd hRm) (fPreS hC K As) rfl hn hsize rfl (by show 2 * 0 + _ ≤ 8; omega) hdg (fr_room hC hR)) hC kk
theorem fr_iret (hexec : p.tables.exec = Jvm.exec) (hb : c.code = cc) (hr : meth.sig.returnType = some .int) (hlocks : meth.locks = false) (hC : fCur D cA s h0 h H locs) {x : Int32} (hdg : decode cc pc = .ok (.ireturn, 1)) : W p l e R s m args below meth c H locs cells slots (MQ below (fQ D cA h0 h (some (.int x))) args s (fCB h0 - fZ h0) (fLB h0 - fL h0) (fA h0)) (F0 m pc ls [.int x]) :=
  fr_end hC (W.iret hexec hb hr (fun t ht hW => ⟨rfl, hC.fin ht⟩) hC.2.2.2.2.2.1.2.2 hdg hlocks)
theorem fr_zret (hexec : p.tables.exec = Jvm.exec) (hb : c.code = cc) (hr : meth.sig.returnType = some .boolean) (hlocks : meth.locks = false) (hC : fCur D cA s h0 h H locs) {x : Int32} (hx : x = 0 ∨ x = 1) (hdg : decode cc pc = .ok (.ireturn, 1)) : W p l e R s m args below meth c H locs cells slots (MQ below (fQ D cA h0 h (some (.int x))) args s (fCB h0 - fZ h0) (fLB h0 - fL h0) (fA h0)) (F0 m pc ls [.int x]) :=
  fr_end hC (W.zret hexec hb hr (by rcases hx with rfl | rfl <;> rfl) (fun t ht hW => ⟨rfl, hC.fin ht⟩) hC.2.2.2.2.2.1.2.2 hdg hlocks)
theorem fr_lret (hexec : p.tables.exec = Jvm.exec) (hb : c.code = cc) (hr : meth.sig.returnType = some .long) (hlocks : meth.locks = false) (hC : fCur D cA s h0 h H locs) {x : Int64} (hdg : decode cc pc = .ok (.lreturn, 1)) : W p l e R s m args below meth c H locs cells slots (MQ below (fQ D cA h0 h (some (.long x))) args s (fCB h0 - fZ h0) (fLB h0 - fL h0) (fA h0)) (F0 m pc ls [.long x]) :=
  fr_end hC (W.lret hexec hb hr (fun t ht hW => ⟨rfl, hC.fin ht⟩) hC.2.2.2.2.2.1.2.2 hdg hlocks)
theorem fr_dret (hexec : p.tables.exec = Jvm.exec) (hb : c.code = cc) (hr : meth.sig.returnType = some .double) (hlocks : meth.locks = false) (hC : fCur D cA s h0 h H locs) {x : UInt64} (hdg : decode cc pc = .ok (.dreturn, 1)) : W p l e R s m args below meth c H locs cells slots (MQ below (fQ D cA h0 h (some (.double x))) args s (fCB h0 - fZ h0) (fLB h0 - fL h0) (fA h0)) (F0 m pc ls [.double x]) :=
  fr_end hC (W.dret hexec hb hr (fun t ht hW => ⟨rfl, hC.fin ht⟩) hC.2.2.2.2.2.1.2.2 hdg)
theorem fr_vret (hexec : p.tables.exec = Jvm.exec) (hb : c.code = cc) (hr : meth.sig.returnType = none) (hlocks : meth.locks = false) (hC : fCur D cA s h0 h H locs) (hdg : decode cc pc = .ok (.return_, 1)) : W p l e R s m args below meth c H locs cells slots (MQ below (fQ D cA h0 h none) args s (fCB h0 - fZ h0) (fLB h0 - fL h0) (fA h0)) (F0 m pc ls []) :=
  fr_end hC (W.vret hexec hb hr (fun t ht hW => ⟨rfl, hC.fin ht⟩) hC.2.2.2.2.2.1.2.2 hdg hlocks)
theorem fr_aret (hexec : p.tables.exec = Jvm.exec) (hb : c.code = cc) {rt : FieldType} (hr : meth.sig.returnType = some rt) (hrt : (∃ n, rt = .object n) ∨ ∃ t, rt = .array t) (hlocks : meth.locks = false) (hC : fCur D cA s h0 h H locs) {x : Option Nat} (hdg : decode cc pc = .ok (.areturn, 1)) : W p l e R s m args below meth c H locs cells slots (MQ below (fQ D cA h0 h (some (va_rf x))) args s (fCB h0 - fZ h0) (fLB h0 - fL h0) (fA h0)) (F0 m pc ls [va_rf x]) :=
  fr_end hC (W.aret hexec hb hr hrt (by cases x with | none => exact Or.inl rfl | some a => exact Or.inr ⟨a, rfl⟩) (fun t ht hW => ⟨rfl, hC.fin ht⟩) hC.2.2.2.2.2.1.2.2 hdg hlocks)
/-- a return of a method that may throw -/
theorem fr_retQ {v : Option Value} {g : JFrame} {mc ms : Nat} {XC : String → State → State → Prop} {free : Addr → Prop} (kk : W p l e R s m args below meth c H locs cells slots (MQ below (fQ D cA h0 h v) args s mc ms free) g) : W p l e R s m args below meth c H locs cells slots (vx_MQ below (fQX D cA h0 h (.inl v)) XC args s mc ms free) g := by
  intro T hT X
  obtain ⟨t, a1, o, b1, b2, b3, b4⟩ := kk T hT X
  exact ⟨t, a1, o, b1, b2, Or.inl ⟨⟨v, rfl, b3⟩, b4⟩⟩
/-- thrown on to the caller -/
theorem fr_out {k9 : Nat} {ce : Cell} {q : Addr} (hout : ∀ x ∈ c.exceptionTable.toList, covers x pc = false) (hlocks : meth.locks = false) (hC : fCur D cA s h0 h H locs) (hcell : H[q]? = some ce) (hv : ce.vm = .none) (hcl : s.vm.findClass (fEx k9) = some ce.cls) :
    vx_W p l e R s m args below meth c H locs cells slots (vx_MQ below (fQX D cA h0 h (.inr k9)) (fXC D cA h0 h (.inr k9)) args s (fCB h0 - fZ h0) (fLB h0 - fL h0) (fA h0)) (F0 m pc ls rest) q := by
  intro T hT X
  obtain ⟨c1, c2, c3, c4, c5, c6, c7⟩ := id hC
  obtain ⟨d1, d2, d3, d4, -⟩ := c4
  obtain ⟨o1, o2⟩ := c5
  have X2 : Stand p l e R s m args below meth c T locs (fCB h0 - fZ h0) (fLB h0 - fL h0) := fStand X (by rw [hT]; omega) (by rw [hT]; omega)
  exact vx_out (E := fEx k9) hout hlocks hcell hv hcl (fun t ht hvm => ⟨k9, rfl, rfl, hC.fin ht⟩) c6.2.2 (Nat.le_refl _) (Nat.le_refl _) T hT X2
def fthr (h : fSt) : Option fSt := if fZ h + 1 ≤ fCB h ∧ fL h + 6 ≤ fLB h then some (fF h, fZ h + 1, fL h + 6, fCB h, fLB h, fX h) else none
theorem fthr_inv (h1 : fthr h = some h2) : fZ h + 1 ≤ fCB h ∧ fL h + 6 ≤ fLB h ∧ h2 = (fF h, fZ h + 1, fL h + 6, fCB h, fLB h, fX h) := by
  unfold fthr at h1
  by_cases z : fZ h + 1 ≤ fCB h ∧ fL h + 6 ≤ fLB h
  · rw [if_pos z] at h1; cases h1; exact ⟨z.1, z.2, rfl⟩
  · rw [if_neg z] at h1; cases h1
/-- the state behind a throw -/
theorem fCur.thrown {t : State} (hC : fCur D cA s h0 h H locs) (h1 : fthr h = some h2) (z1 : t.heap.size = H.size + 1) (w1 : fW t.heap ≤ fW H + 6) (o1 : ∀ q : Nat, q < H.size → t.heap[q]? = H[q]?) : fFin D cA h0 h2 s t := by
  obtain ⟨g1, g2, rfl⟩ := fthr_inv h1
  obtain ⟨c1, c2, c3, c4, c5, c6, c7⟩ := hC
  obtain ⟨d1, d2, d3, d4, d5⟩ := c4
  refine ⟨fun a e he => (c1 a e he).kept (o1 a (c1 a e he).lt), by rw [z1, c2]; rfl, ?_, ⟨?_, ?_, d3, d4, d5⟩, ⟨g1, g2⟩, ⟨?_, fun x y z => (o1 x (Nat.lt_of_lt_of_le y c6.1)).trans (c6.2.1 x y z)⟩⟩
  · show fW t.heap ≤ fW s.heap + (fL h + 6 - fL h0)
    omega
  · exact Nat.le_trans d1 (Nat.le_succ _)
  · exact Nat.le_trans d2 (Nat.le_add_right _ _)
  · have := c6.1; omega
/-- caught by the row x of the table -/
theorem fr_catch {own name : String} {k9 : Nat} {ce : Cell} {q : Addr} (hts : ∀ w ∈ WA, w.before args s = true) (K : fKw D cA h0 s) (hown : s.vm.findClass own = some m.cls) (pre : List ExceptionTableEntry) (x : ExceptionTableEntry) (suf : List ExceptionTableEntry) (hsplit : c.exceptionTable.toList = pre ++ x :: suf)
    (hpass : ∀ z ∈ pre, z.catchType ≠ 0 ∧ ∃ nm : String, Cond.classLink own z.catchType nm ∈ WA ∧ (fEx k9, nm) ∈ fNc) (hx : covers x pc = true) (hne : x.catchType ≠ 0)
    (hlink : Cond.classLink own x.catchType name ∈ WA) (hcast : Cond.castable (fEx k9) name ∈ fNw) (hcell : H[q]? = some ce) (hv : ce.vm = .none) (hcl : s.vm.findClass (fEx k9) = some ce.cls)
    (kk : W p l e R s m args below meth c H locs cells slots Q (F0 m x.handlerPc ls [va_rf (some q)])) : vx_W p l e R s m args below meth c H locs cells slots Q (F0 m pc ls rest) q :=
  vx_catch hown pre x suf hsplit (fun z hz => Or.inr ⟨(hpass z hz).1, (hpass z hz).2.imp fun nm hn => ⟨hts _ hn.1, K.2.2.2.2.1 _ hn.2⟩⟩) hx hne (hts _ hlink) (va_Nw.use rfl (K.2.2.2.2.2.1 _ hcast)) hcell hv hcl kk
theorem fr_objInit (hexec : p.tables.exec = Jvm.exec) (hb : c.code = cc) {nL : Nat} (hml : c.maxLocals = nL) (hts : ∀ w ∈ WA, w.before args s = true) {own : String} {idx : Nat} (hown : s.vm.findClass own = some m.cls) (hlink : Cond.methodLink own idx objectInit ∈ WA) (hinst : Cond.instanceMethod objectInit ∈ WA) (hcode : Cond.code objectInit ⟨#[0xb1]⟩ 1 none ∈ WA) (hsize : ls.size = nL) {a : Nat} {r : Option Nat} (hra : r = some a) (hdg : decode cc pc = .ok (.invokespecial idx, 3)) (hfr : 1 ≤ R.frames) (hlo : (rest.map fun v => v.category).sum + 12 ≤ R.locals)
    (kk : W p l e R s m args below meth c H locs cells slots Q (F0 m (pc + 3) ls rest)) : W p l e R s m args below meth c H locs cells slots Q (F0 m pc ls (va_rf r :: rest)) := by
  subst hra
  exact W.objInit hexec hb hown (hts _ hlink) (hts _ hinst) (hts _ hcode) (g := F0 m pc ls (va_rf (some a) :: rest)) rfl (hsize.trans hml.symm) rfl hdg hfr (by show 2 * 0 + _ + 12 ≤ _; omega) kk
theorem fr_ldc2 (hexec : p.tables.exec = Jvm.exec) (hb : c.code = cc) (hts : ∀ w ∈ WA, w.before args s = true) {own : String} {index : Nat} {v : Int64} (hown : s.vm.findClass own = some m.cls) (hconst : Cond.constantLong own index v ∈ WA) (hdg : decode cc pc = .ok (.ldc2_w index, 3)) (kk : W p l e R s m args below meth c H locs cells slots Q (F0 m (pc + 3) ls (.long v :: rest))) : W p l e R s m args below meth c H locs cells slots Q (F0 m pc ls rest) := lv_ldc2 hexec hb hown (hts _ hconst) hdg kk
theorem fr_mcount (hC : fCur D cA s h0 h H locs) (hR : R.cells = fCB h0 - fZ h0 ∧ R.slots = fLB h0 - fL h0) : fZ h - fZ h0 ≤ R.cells ∧ fL h - fL h0 ≤ R.slots := by
  obtain ⟨c1, c2, c3, ⟨d1, d2, d3, d4, -⟩, ⟨o1, o2⟩, c6, c7⟩ := hC
  rw [hR.1, hR.2]
  omega
theorem fr_mmin (hexec : p.tables.exec = Jvm.exec) (hb : c.code = cc) {nL : Nat} (hml : c.maxLocals = nL) (hts : ∀ w ∈ WA, w.before args s = true) {own : String} {index : Nat} (hown : s.vm.findClass own = some m.cls) (hC : fCur D cA s h0 h H locs) (hR : R.cells = fCB h0 - fZ h0 ∧ R.slots = fLB h0 - fL h0) (hlink : Cond.methodLink own index Lib.Math.min.name ∈ WA) (hstat : Cond.static Lib.Math.min.name ∈ WA) (hini : Cond.initialized "java/lang/Math" ∈ WA) (hcode : Cond.code Lib.Math.min.name Lib.Math.min.code 2 (some .int) ∈ WA) (hsize : ls.size = nL) (hfr : 1 ≤ R.frames) (hlo : (rest.map fun v => v.category).sum + 13 ≤ R.locals) {x y : Int32} (hdg : decode cc pc = .ok (.invokestatic index, 3))
    (kk : ∀ k n : Nat, W p l e R s m args below meth c H locs k n Q (F0 m (pc + 3) ls (.int (if y < x then y else x) :: rest))) : W p l e R s m args below meth c H locs cells slots Q (F0 m pc ls (.int y :: .int x :: rest)) :=
  fr_tight hC (va_mmin hexec hb (hml.trans hsize.symm) hown (hts _ hlink) (hts _ hstat) (hts _ hini) (hts _ hcode) hfr hlo (fr_mcount hC hR).1 (fr_mcount hC hR).2 hdg (kk _ _))
theorem fr_mmax (hexec : p.tables.exec = Jvm.exec) (hb : c.code = cc) {nL : Nat} (hml : c.maxLocals = nL) (hts : ∀ w ∈ WA, w.before args s = true) {own : String} {index : Nat} (hown : s.vm.findClass own = some m.cls) (hC : fCur D cA s h0 h H locs) (hR : R.cells = fCB h0 - fZ h0 ∧ R.slots = fLB h0 - fL h0) (hlink : Cond.methodLink own index Lib.Math.max.name ∈ WA) (hstat : Cond.static Lib.Math.max.name ∈ WA) (hini : Cond.initialized "java/lang/Math" ∈ WA) (hcode : Cond.code Lib.Math.max.name Lib.Math.max.code 2 (some .int) ∈ WA) (hsize : ls.size = nL) (hfr : 1 ≤ R.frames) (hlo : (rest.map fun v => v.category).sum + 13 ≤ R.locals) {x y : Int32} (hdg : decode cc pc = .ok (.invokestatic index, 3))
    (kk : ∀ k n : Nat, W p l e R s m args below meth c H locs k n Q (F0 m (pc + 3) ls (.int (if x < y then y else x) :: rest))) : W p l e R s m args below meth c H locs cells slots Q (F0 m pc ls (.int y :: .int x :: rest)) :=
  fr_tight hC (va_mmax hexec hb (hml.trans hsize.symm) hown (hts _ hlink) (hts _ hstat) (hts _ hini) (hts _ hcode) hfr hlo (fr_mcount hC hR).1 (fr_mcount hC hR).2 hdg (kk _ _))
theorem fr_mabsl (hexec : p.tables.exec = Jvm.exec) (hb : c.code = cc) {nL : Nat} (hml : c.maxLocals = nL) (hts : ∀ w ∈ WA, w.before args s = true) {own : String} {index : Nat} (hown : s.vm.findClass own = some m.cls) (hC : fCur D cA s h0 h H locs) (hR : R.cells = fCB h0 - fZ h0 ∧ R.slots = fLB h0 - fL h0) (hlink : Cond.methodLink own index Lib.MathLoose.abs_long.x ∈ WA) (hstat : Cond.static Lib.MathLoose.abs_long.x ∈ WA) (hini : Cond.initialized "java/lang/Math" ∈ WA) (hcode : Cond.code Lib.MathLoose.abs_long.x Lib.MathLoose.abs_long.code 2 (some .long) ∈ WA) (hsize : ls.size = nL) (hfr : 1 ≤ R.frames) (hlo : (rest.map fun v => v.category).sum + 13 ≤ R.locals) {x : Int64} (hdg : decode cc pc = .ok (.invokestatic index, 3))
    (kk : ∀ k n : Nat, W p l e R s m args below meth c H locs k n Q (F0 m (pc + 3) ls (.long (if 0 < x then x else -x) :: rest))) : W p l e R s m args below meth c H locs cells slots Q (F0 m pc ls (.long x :: rest)) :=
  fr_tight hC (va_mabs_long hexec hb (hml.trans hsize.symm) hown (hts _ hlink) (hts _ hstat) (hts _ hini) (hts _ hcode) hfr hlo (fr_mcount hC hR).1 (fr_mcount hC hR).2 hdg (kk _ _))
end FH7
end
section
section FH8
variable {p : Program} {l : Launch} {e : Env} {R : Room} {s : State} {m : MethodId} {args : Array Value} {below : List Frame} {meth : Method} {c : Code} {H : Heap} {locs : List Loc} {cells slots : Nat} {Q : State → Prop}
variable {mc ms : Nat} {free : Addr → Prop} {A0 A1 : Nat → Prop} {H0 : Heap} {a : Array Value} {ls : Array Slot} {st0 rest : List Value}
variable {Qc : Array Value → State → Outcome → State → Prop} {XC : String → State → State → Prop}
theorem fvx_throwS {cc : ByteArray} {pc : Nat} (hexec : p.tables.exec = Jvm.exec) (hb : c.code = cc) (hl : l.stackTraces = false) {own cls text : String} {names : List String} {ik is ic mc ms sa : Nat} {A : Nat → Prop}
    (hown : s.vm.findClass own = some m.cls) (hcls : Bundle.fit cls = true) (hnames : ∀ n ∈ names, Bundle.fit n = true)
    (hk : (Cond.classLink own ik cls).before args s = true) (hini : (Cond.initialized cls).before args s = true) (hstr : vk_R own is text sa s) (hat : ∀ w ∈ vx_atS own ic cls names, w.before args s = true)
    (hgood : ∀ w ∈ Cond.classLink own ik cls :: Cond.initialized cls :: vx_atS own ic cls names, vx_ot w = true)
    (hU : vx_Zq Bundle.tN "UNASSIGNED_STACK" Bundle.steD A s s.heap) (hN : vx_Zq Bundle.tN "SUPPRESSED_SENTINEL" Bundle.listD A s s.heap) (hS : va_S A s.heap H locs) (hsize : ls.size = c.maxLocals)
    (d0 : decode cc pc = .ok (.new ik, 3)) (d3 : decode cc (pc + 3) = .ok (.dup, 1)) (d4 : decode cc (pc + 4) = .ok (.ldc is, 2)) (d6 : decode cc (pc + 6) = .ok (.invokespecial ic, 3)) (d9 : decode cc (pc + 9) = .ok (.athrow, 1))
    (hout : ∀ x ∈ c.exceptionTable.toList, covers x (pc + 9) = false)
    (hRframes : names.length + 3 < R.frames) (hRlocals : (rest.map fun v => v.category).sum + (13 * (names.length + 1) + 43) ≤ R.locals) (hRcells : cells + 1 ≤ R.cells) (hRslots : slots + 6 ≤ R.slots) (hlocks : meth.locks = false)
    (hx : ∀ t : State, t.heap.size = H.size + 1 → fW t.heap ≤ fW H + 6 → (∀ q : Nat, q < H.size → t.heap[q]? = H[q]?) → XC cls s t)
    (hf : ∀ z ∈ locs, free z.base) (hc : cells + 1 ≤ mc) (hs : slots + 6 ≤ ms) :
    W p l e R s m args below meth c H locs cells slots (vx_MQ below Qc XC args s mc ms free) (F0 m pc ls rest) := by
  intro T hT X
  have htr : e.platform.stackTraces = false := (show e.platform.stackTraces = l.stackTraces by rw [X.admits.platform]).trans hl
  have Y := vx_rebase X (R' := { frames := R.frames, locals := R.locals, cells := 1, slots := 6 }) (Nat.le_refl _) (Nat.le_refl _) hRcells hRslots
  obtain ⟨s', hA⟩ : ∃ z, z = (T.setVm s.vm).setFrames (.invoking m args :: below) := ⟨_, rfl⟩
  rw [← hA] at Y
  have hvm : s'.vm = s.vm := by rw [hA]; rfl
  have hhp : s'.heap = H := by rw [hA]; exact hT
  have hW0 : s.WarmedH s'.vm := by rw [hvm]; exact State.WarmedH.refl s
  have hat' : ∀ w ∈ vx_atS own ic cls names, w.before args s' = true := fun w hw => vx_ot_at hW0 hvm.symm (hgood w (List.mem_cons_of_mem _ (List.mem_cons_of_mem _ hw))) (hat w hw)
  have hk' : (Cond.classLink own ik cls).before args s' = true := vx_ot_at hW0 hvm.symm (hgood _ List.mem_cons_self) hk
  have hini' : (Cond.initialized cls).before args s' = true := vx_ot_at hW0 hvm.symm (hgood _ (List.mem_cons_of_mem _ List.mem_cons_self)) hini
  have hU' : vx_Zq Bundle.tN "UNASSIGNED_STACK" Bundle.steD A s' s'.heap := by rw [hhp]; exact vx_Zq.moved hW0.alike (hU.kept hS.2.1)
  have hN' : vx_Zq Bundle.tN "SUPPRESSED_SENTINEL" Bundle.listD A s' s'.heap := by rw [hhp]; exact vx_Zq.moved hW0.alike (hN.kept hS.2.1)
  have h : ∀ w ∈ Bundle.ownAtoms own ic cls names, w.before args s' = true := vx_own hat' (vx_isRefq hU'.1) (vx_isRefq hN'.1) hU'.2.word hN'.2.word
  have hown' : s'.vm.findClass own = some m.cls := by rw [hvm]; exact hown
  have hins : (Cond.instantiable cls 6).before args s' = true := h _ (by simp [Bundle.ownAtoms])
  obtain ⟨vm₁, cX, kX, hfX, hkX, -, -, X₁, st1⟩ := Y.newCold hexec (own := own) (C := cls) (index := ik) (n := 6) hown' hk' hins hini'
    (g := F0 m pc ls rest) rfl (by rw [hb]; exact d0) (Nat.le_refl _) (Nat.le_refl _)
  generalize hT1 : (T.setVm vm₁).pushCell { cls := cX, slots := kX.instanceTypes.map defaultValue, vm := .none } = T1 at X₁ st1
  have hcat : (Value.ref T.heap.size).category = 1 := rfl
  have hcellA : T1.heap[T.heap.size]? = some (freshCell cX kX) := by rw [← hT1]; exact State.heap_pushCell_size _ _
  have d3' : decode c.code (pc + 3) = .ok (.dup, 1) := by rw [hb]; exact d3
  have d4' : decode c.code (pc + 4) = .ok (.ldc is, 2) := by rw [hb]; exact d4
  have hstr' : vk_R own is text sa s' := vk_R.warm hW0 hstr
  obtain ⟨U, hsteps, hrun, hend, hW, hsame, ce, hce, hO⟩ := X₁.ctorThrowS hexec htr (own := own) (cls := cls) (names := names) (ic := ic) hown' hcls hnames h (fun x hx => nomatch hx) hfX hkX hcellA (by rw [hhp, hT]; exact Nat.le_refl _) (msg := .ref sa) rfl
    (g := { method := m, pc := pc + 6, locals := ls, stack := .ref sa :: .ref T.heap.size :: .ref T.heap.size :: rest, locked := none }) rfl hsize rfl rfl (rest := rest) rfl
    (by rw [hb]; exact d6) (by rw [hb]; exact d9) hout hRframes (by simp only [List.map_cons, List.sum_cons, hcat]; omega) hlocks
  obtain ⟨f1, f2⟩ := vx_frame hsame
  rw [hhp] at f1 f2
  have hWs : s.WarmedH U.vm := State.WarmedH.trans hW0 hW
  have hz9 : U.heap.size = H.size + 1 := by
    have q1 : U.heap.size ≤ s'.heap.size + (0 + 1) := hsame.2.2.1
    have q2 := (Array.getElem?_eq_some_iff.mp hce).1
    rw [hhp] at q1
    rw [hT] at q2
    omega
  have hw9 : fW U.heap ≤ fW H + 6 := by
    have q3 : ((U.heap.toList.drop s'.heap.size).map (·.slots.size)).sum ≤ 0 + 6 := hsame.2.2.2.2.1
    have q4 : U.heap[H.size]? = some ce := by rw [← hT]; exact hce
    have q5 := fW_push hz9 q4 (fun q hq => f2 q hq (fun z hz => nomatch hz))
    have q6 : U.heap.toList.drop s'.heap.size = [ce] := by
      rw [hhp]
      apply List.ext_getElem?
      intro j
      rw [List.getElem?_drop, Array.getElem?_toList]
      cases j with
      | zero => rw [Nat.add_zero, q4]; rfl
      | succ j => rw [Array.getElem?_eq_none (by omega)]; rfl
    rw [q6] at q3
    simp only [List.map_cons, List.map_nil, List.sum_cons, List.sum_nil] at q3
    omega
  have hcl : s.vm.findClass cls = some ce.cls := by
    have h9 := hO.cls
    rw [hvm] at h9
    exact h9
  have hall : s.sameButNew ({ U with vm := s.vm } : State) locs mc ms := by
    subst hA
    obtain ⟨e1, e2⟩ := hsame
    rw [State.setFrames_setFrames] at e1
    have h2 : (T.setVm s.vm).sameButNew ({ U with vm := s.vm } : State) [] (0 + 1) (0 + 6) := ⟨e1, e2⟩
    have h3 := X.same.trans h2
    rw [List.append_nil] at h3
    exact h3.mono hc hs
  refine ⟨U, ?_, .threw T.heap.size, hrun, hend, Or.inr ⟨T.heap.size, rfl, cls, ce, locs, hx U hz9 hw9 (fun q hq => f2 q hq (fun z hz => nomatch hz)), hce, hO.vm, hcl, hWs, hall, hf⟩⟩
  refine st1 _ ?_
  show Steps p.tables e below (T1.setTop { method := m, pc := pc + 3, locals := ls, stack := .ref T.heap.size :: rest, locked := none }) _
  jvm_step X₁.here [X₁.here.top, hexec, d3', Value.category]
  exact X₁.ldcString hexec (own := own) (text := text) (index := is) (a := sa) hown' hstr'.1 hstr'.2
    (g := { method := m, pc := pc + 4, locals := ls, stack := .ref T.heap.size :: .ref T.heap.size :: rest, locked := none }) rfl d4' _ hsteps
theorem fvx_throwSW {cc : ByteArray} {pc : Nat} (hexec : p.tables.exec = Jvm.exec) (hb : c.code = cc) (hl : l.stackTraces = false) {own cls text : String} {names : List String} {ik is ic mc ms sa : Nat} {A : Nat → Prop}
    (hown : s.vm.findClass own = some m.cls) (hcls : Bundle.fit cls = true) (hnames : ∀ n ∈ names, Bundle.fit n = true)
    (hk : (Cond.classLink own ik cls).before args s = true) (hini : (Cond.initialized cls).before args s = true) (hstr : vk_R own is text sa s) (hat : ∀ w ∈ vx_atS own ic cls names, w.before args s = true)
    (hgood : ∀ w ∈ Cond.classLink own ik cls :: Cond.initialized cls :: vx_atS own ic cls names, vx_ot w = true)
    (hU : vx_Zq Bundle.tN "UNASSIGNED_STACK" Bundle.steD A s s.heap) (hN : vx_Zq Bundle.tN "SUPPRESSED_SENTINEL" Bundle.listD A s s.heap) (hS : va_S A s.heap H locs) (hsize : ls.size = c.maxLocals)
    (d0 : decode cc pc = .ok (.new ik, 3)) (d3 : decode cc (pc + 3) = .ok (.dup, 1)) (d4 : decode cc (pc + 4) = .ok (.ldc_w is, 3)) (d7 : decode cc (pc + 7) = .ok (.invokespecial ic, 3)) (d10 : decode cc (pc + 10) = .ok (.athrow, 1))
    (hout : ∀ x ∈ c.exceptionTable.toList, covers x (pc + 10) = false)
    (hRframes : names.length + 3 < R.frames) (hRlocals : (rest.map fun v => v.category).sum + (13 * (names.length + 1) + 43) ≤ R.locals) (hRcells : cells + 1 ≤ R.cells) (hRslots : slots + 6 ≤ R.slots) (hlocks : meth.locks = false)
    (hx : ∀ t : State, t.heap.size = H.size + 1 → fW t.heap ≤ fW H + 6 → (∀ q : Nat, q < H.size → t.heap[q]? = H[q]?) → XC cls s t)
    (hf : ∀ z ∈ locs, free z.base) (hc : cells + 1 ≤ mc) (hs : slots + 6 ≤ ms) :
    W p l e R s m args below meth c H locs cells slots (vx_MQ below Qc XC args s mc ms free) (F0 m pc ls rest) := by
  intro T hT X
  have htr : e.platform.stackTraces = false := (show e.platform.stackTraces = l.stackTraces by rw [X.admits.platform]).trans hl
  have Y := vx_rebase X (R' := { frames := R.frames, locals := R.locals, cells := 1, slots := 6 }) (Nat.le_refl _) (Nat.le_refl _) hRcells hRslots
  obtain ⟨s', hA⟩ : ∃ z, z = (T.setVm s.vm).setFrames (.invoking m args :: below) := ⟨_, rfl⟩
  rw [← hA] at Y
  have hvm : s'.vm = s.vm := by rw [hA]; rfl
  have hhp : s'.heap = H := by rw [hA]; exact hT
  have hW0 : s.WarmedH s'.vm := by rw [hvm]; exact State.WarmedH.refl s
  have hat' : ∀ w ∈ vx_atS own ic cls names, w.before args s' = true := fun w hw => vx_ot_at hW0 hvm.symm (hgood w (List.mem_cons_of_mem _ (List.mem_cons_of_mem _ hw))) (hat w hw)
  have hk' : (Cond.classLink own ik cls).before args s' = true := vx_ot_at hW0 hvm.symm (hgood _ List.mem_cons_self) hk
  have hini' : (Cond.initialized cls).before args s' = true := vx_ot_at hW0 hvm.symm (hgood _ (List.mem_cons_of_mem _ List.mem_cons_self)) hini
  have hU' : vx_Zq Bundle.tN "UNASSIGNED_STACK" Bundle.steD A s' s'.heap := by rw [hhp]; exact vx_Zq.moved hW0.alike (hU.kept hS.2.1)
  have hN' : vx_Zq Bundle.tN "SUPPRESSED_SENTINEL" Bundle.listD A s' s'.heap := by rw [hhp]; exact vx_Zq.moved hW0.alike (hN.kept hS.2.1)
  have h : ∀ w ∈ Bundle.ownAtoms own ic cls names, w.before args s' = true := vx_own hat' (vx_isRefq hU'.1) (vx_isRefq hN'.1) hU'.2.word hN'.2.word
  have hown' : s'.vm.findClass own = some m.cls := by rw [hvm]; exact hown
  have hins : (Cond.instantiable cls 6).before args s' = true := h _ (by simp [Bundle.ownAtoms])
  obtain ⟨vm₁, cX, kX, hfX, hkX, -, -, X₁, st1⟩ := Y.newCold hexec (own := own) (C := cls) (index := ik) (n := 6) hown' hk' hins hini'
    (g := F0 m pc ls rest) rfl (by rw [hb]; exact d0) (Nat.le_refl _) (Nat.le_refl _)
  generalize hT1 : (T.setVm vm₁).pushCell { cls := cX, slots := kX.instanceTypes.map defaultValue, vm := .none } = T1 at X₁ st1
  have hcat : (Value.ref T.heap.size).category = 1 := rfl
  have hcellA : T1.heap[T.heap.size]? = some (freshCell cX kX) := by rw [← hT1]; exact State.heap_pushCell_size _ _
  have d3' : decode c.code (pc + 3) = .ok (.dup, 1) := by rw [hb]; exact d3
  have d4' : decode c.code (pc + 4) = .ok (.ldc_w is, 3) := by rw [hb]; exact d4
  have hstr' : vk_R own is text sa s' := vk_R.warm hW0 hstr
  obtain ⟨U, hsteps, hrun, hend, hW, hsame, ce, hce, hO⟩ := X₁.ctorThrowS hexec htr (own := own) (cls := cls) (names := names) (ic := ic) hown' hcls hnames h (fun x hx => nomatch hx) hfX hkX hcellA (by rw [hhp, hT]; exact Nat.le_refl _) (msg := .ref sa) rfl
    (g := { method := m, pc := pc + 7, locals := ls, stack := .ref sa :: .ref T.heap.size :: .ref T.heap.size :: rest, locked := none }) rfl hsize rfl rfl (rest := rest) rfl
    (by rw [hb]; exact d7) (by rw [hb]; exact d10) hout hRframes (by simp only [List.map_cons, List.sum_cons, hcat]; omega) hlocks
  obtain ⟨f1, f2⟩ := vx_frame hsame
  rw [hhp] at f1 f2
  have hWs : s.WarmedH U.vm := State.WarmedH.trans hW0 hW
  have hz9 : U.heap.size = H.size + 1 := by
    have q1 : U.heap.size ≤ s'.heap.size + (0 + 1) := hsame.2.2.1
    have q2 := (Array.getElem?_eq_some_iff.mp hce).1
    rw [hhp] at q1
    rw [hT] at q2
    omega
  have hw9 : fW U.heap ≤ fW H + 6 := by
    have q3 : ((U.heap.toList.drop s'.heap.size).map (·.slots.size)).sum ≤ 0 + 6 := hsame.2.2.2.2.1
    have q4 : U.heap[H.size]? = some ce := by rw [← hT]; exact hce
    have q5 := fW_push hz9 q4 (fun q hq => f2 q hq (fun z hz => nomatch hz))
    have q6 : U.heap.toList.drop s'.heap.size = [ce] := by
      rw [hhp]
      apply List.ext_getElem?
      intro j
      rw [List.getElem?_drop, Array.getElem?_toList]
      cases j with
      | zero => rw [Nat.add_zero, q4]; rfl
      | succ j => rw [Array.getElem?_eq_none (by omega)]; rfl
    rw [q6] at q3
    simp only [List.map_cons, List.map_nil, List.sum_cons, List.sum_nil] at q3
    omega
  have hcl : s.vm.findClass cls = some ce.cls := by
    have h9 := hO.cls
    rw [hvm] at h9
    exact h9
  have hall : s.sameButNew ({ U with vm := s.vm } : State) locs mc ms := by
    subst hA
    obtain ⟨e1, e2⟩ := hsame
    rw [State.setFrames_setFrames] at e1
    have h2 : (T.setVm s.vm).sameButNew ({ U with vm := s.vm } : State) [] (0 + 1) (0 + 6) := ⟨e1, e2⟩
    have h3 := X.same.trans h2
    rw [List.append_nil] at h3
    exact h3.mono hc hs
  refine ⟨U, ?_, .threw T.heap.size, hrun, hend, Or.inr ⟨T.heap.size, rfl, cls, ce, locs, hx U hz9 hw9 (fun q hq => f2 q hq (fun z hz => nomatch hz)), hce, hO.vm, hcl, hWs, hall, hf⟩⟩
  refine st1 _ ?_
  show Steps p.tables e below (T1.setTop { method := m, pc := pc + 3, locals := ls, stack := .ref T.heap.size :: rest, locked := none }) _
  jvm_step X₁.here [X₁.here.top, hexec, d3', Value.category]
  exact X₁.ldcStringW hexec (own := own) (text := text) (index := is) (a := sa) hown' hstr'.1 hstr'.2
    (g := { method := m, pc := pc + 4, locals := ls, stack := .ref T.heap.size :: .ref T.heap.size :: rest, locked := none }) rfl d4' _ hsteps
end FH8
section FH9
variable {p : Program} {l : Launch} {e : Env} {R : Room} {s : State} {m : MethodId} {args : Array Value} {below : List Frame} {meth : Method} {c : Code} {H : Heap} {locs : List Loc} {cells slots : Nat} {Q : State → Prop}
variable {D : va_G} {cA : Nat → ClassId} {h0 h h2 : fSt} {cc : ByteArray} {pc : Nat} {ls : Array Slot} {rest st0 : List Value}
/-- the words of a throw -/
def TH (own : String) (ik ic k9 : Nat) : Prop := (∀ w ∈ (vx_atS own ic (fEx k9) ["java/lang/RuntimeException", "java/lang/Exception"]).filter goodWord, w ∈ WA) ∧ (∀ w ∈ (vx_atS own ic (fEx k9) ["java/lang/RuntimeException", "java/lang/Exception"]).filter (fun w => !goodWord w), w ∈ fNw) ∧ (∀ w ∈ Cond.classLink own ik (fEx k9) :: Cond.initialized (fEx k9) :: vx_atS own ic (fEx k9) ["java/lang/RuntimeException", "java/lang/Exception"], vx_ot w = true) ∧ Cond.classLink own ik (fEx k9) ∈ WA ∧ Cond.initialized (fEx k9) ∈ WA
theorem fNw_before {w : Cond} (hw : fNgood w = true) (hZ : va_Nw w s) : w.before args s = true := by
  unfold fNgood at hw
  split at hw
  · exact va_Nw.use rfl hZ
  · exact va_Nw.use rfl hZ
  · exact va_Nw.use rfl hZ
  · exact va_AO.use hZ
  · cases hw
theorem TH.at {own : String} {ik ic k9 : Nat} (t : TH own ik ic k9) (hts : ∀ w ∈ WA, w.before args s = true) (K : fKw D cA h0 s) : ∀ w ∈ vx_atS own ic (fEx k9) ["java/lang/RuntimeException", "java/lang/Exception"], w.before args s = true := by
  intro w hw
  by_cases g : goodWord w = true
  · exact hts w (t.1 w (List.mem_filter.mpr ⟨hw, g⟩))
  · have hn := t.2.1 w (List.mem_filter.mpr ⟨hw, by simpa using g⟩)
    exact fNw_before (List.mem_filter.mp hn).2 (K.2.2.2.2.2.1 w hn)
theorem fEx_fit (k9 : Nat) : Bundle.fit (fEx k9) = true := by
  match k9 with
  | 0 => decide +kernel
  | 1 => decide +kernel
  | k + 2 => exact (by decide +kernel : Bundle.fit "java/lang/IllegalStateException" = true)
theorem fr_throwS (hexec : p.tables.exec = Jvm.exec) (hb : c.code = cc) {nL : Nat} (hml : c.maxLocals = nL) (hts : ∀ w ∈ WA, w.before args s = true) (hl : l.stackTraces = false) {own text : String} {ik is ic k9 : Nat} (hown : s.vm.findClass own = some m.cls) (K : fKw D cA h0 s) (hC : fCur D cA s h0 h H locs) (hR : R.cells = fCB h0 - fZ h0 ∧ R.slots = fLB h0 - fL h0) (t : TH own ik ic k9) (hstr : (own, is, text) ∈ fStr) (hsize : ls.size = nL)
    (d0 : decode cc pc = .ok (.new ik, 3)) (d3 : decode cc (pc + 3) = .ok (.dup, 1)) (d4 : decode cc (pc + 4) = .ok (.ldc is, 2)) (d6 : decode cc (pc + 6) = .ok (.invokespecial ic, 3)) (d9 : decode cc (pc + 9) = .ok (.athrow, 1))
    (hout : ∀ x ∈ c.exceptionTable.toList, False) (hRf : 5 < R.frames) (hRl : (rest.map fun v => v.category).sum + 82 ≤ R.locals) (hlocks : meth.locks = false) (hg : fthr h = some h2) :
    W p l e R s m args below meth c H locs cells slots (vx_MQ below (fQX D cA h0 h2 (.inr k9)) (fXC D cA h0 h2 (.inr k9)) args s (fCB h0 - fZ h0) (fLB h0 - fL h0) (fA h0)) (F0 m pc ls rest) := by
  obtain ⟨g1, g2, -⟩ := fthr_inv hg
  obtain ⟨sa, hsa⟩ := K.2.2.2.1 _ hstr
  refine fr_tight hC ?_
  obtain ⟨c1, c2, c3, c4, c5, c6, c7⟩ := id hC
  obtain ⟨d1, d2, d3', d4', -⟩ := c4
  exact fvx_throwS (cls := fEx k9) (names := ["java/lang/RuntimeException", "java/lang/Exception"]) hexec hb hl hown (fEx_fit k9) (by decide +kernel) (hts _ t.2.2.2.1) (hts _ t.2.2.2.2) hsa (t.at hts K) t.2.2.1 K.2.1 K.2.2.1 c6 (hsize.trans hml.symm) d0 d3 d4 d6 d9 (fun x hx => (hout x hx).elim) hRf (by show _ + (13 * 3 + 43) ≤ _; omega) (by rw [hR.1]; omega) (by rw [hR.2]; omega) hlocks (fun t9 z1 w1 o1 => ⟨k9, rfl, rfl, hC.thrown hg z1 w1 o1⟩) c6.2.2 (by omega) (by omega)
theorem fr_throwSW (hexec : p.tables.exec = Jvm.exec) (hb : c.code = cc) {nL : Nat} (hml : c.maxLocals = nL) (hts : ∀ w ∈ WA, w.before args s = true) (hl : l.stackTraces = false) {own text : String} {ik is ic k9 : Nat} (hown : s.vm.findClass own = some m.cls) (K : fKw D cA h0 s) (hC : fCur D cA s h0 h H locs) (hR : R.cells = fCB h0 - fZ h0 ∧ R.slots = fLB h0 - fL h0) (t : TH own ik ic k9) (hstr : (own, is, text) ∈ fStr) (hsize : ls.size = nL)
    (d0 : decode cc pc = .ok (.new ik, 3)) (d3 : decode cc (pc + 3) = .ok (.dup, 1)) (d4 : decode cc (pc + 4) = .ok (.ldc_w is, 3)) (d7 : decode cc (pc + 7) = .ok (.invokespecial ic, 3)) (d10 : decode cc (pc + 10) = .ok (.athrow, 1))
    (hout : ∀ x ∈ c.exceptionTable.toList, False) (hRf : 5 < R.frames) (hRl : (rest.map fun v => v.category).sum + 82 ≤ R.locals) (hlocks : meth.locks = false) (hg : fthr h = some h2) :
    W p l e R s m args below meth c H locs cells slots (vx_MQ below (fQX D cA h0 h2 (.inr k9)) (fXC D cA h0 h2 (.inr k9)) args s (fCB h0 - fZ h0) (fLB h0 - fL h0) (fA h0)) (F0 m pc ls rest) := by
  obtain ⟨g1, g2, -⟩ := fthr_inv hg
  obtain ⟨sa, hsa⟩ := K.2.2.2.1 _ hstr
  refine fr_tight hC ?_
  obtain ⟨c1, c2, c3, c4, c5, c6, c7⟩ := id hC
  obtain ⟨d1, d2, d3', d4', -⟩ := c4
  exact fvx_throwSW (cls := fEx k9) (names := ["java/lang/RuntimeException", "java/lang/Exception"]) hexec hb hl hown (fEx_fit k9) (by decide +kernel) (hts _ t.2.2.2.1) (hts _ t.2.2.2.2) hsa (t.at hts K) t.2.2.1 K.2.1 K.2.2.1 c6 (hsize.trans hml.symm) d0 d3 d4 d7 d10 (fun x hx => (hout x hx).elim) hRf (by show _ + (13 * 3 + 43) ≤ _; omega) (by rw [hR.1]; omega) (by rw [hR.2]; omega) hlocks (fun t9 z1 w1 o1 => ⟨k9, rfl, rfl, hC.thrown hg z1 w1 o1⟩) c6.2.2 (by omega) (by omega)
end FH9
end
section
section FH10
variable {p : Program} {l : Launch} {e : Env} {R : Room} {s : State} {m : MethodId} {args : Array Value} {below : List Frame} {meth : Method} {c : Code} {H : Heap} {locs : List Loc} {cells slots : Nat} {Q : State → Prop}
variable {D : va_G} {cA : Nat → ClassId} {h0 h h2 : fSt} {cc : ByteArray} {pc : Nat} {ls : Array Slot} {rest st0 : List Value}
theorem fCur.setL {H1 : Heap} {L : List Loc} {a : Nat} {e0 e1 : fCe} (c : fCur D cA s h0 h H locs) (h0a : fF h a = some e0) (he : va_at D fcl (a, fE cA e1) H1) (hz : H1.size = H.size) (oq : ∀ q : Nat, q ≠ a → H1[q]? = H[q]?) (hw : fW H1 = fW H) (hL : ∀ q ∈ L, q.base = a) : fCur D cA s h0 (fSet h a e1) H1 (locs ++ L) := by
  obtain ⟨d1, d2, d3, d4, d5, d6, d7⟩ := c.set (k := 0) h0a he hz oq hw
  refine ⟨d1, d2, d3, d4, d5, ⟨d6.1, d6.2.1, fun q hq => ?_⟩, d7⟩
  rcases List.mem_append.mp hq with z | z
  · exact d6.2.2 q (List.mem_append.mpr (Or.inl z))
  · rw [hL q z]
    exact d6.2.2 ⟨a, 0⟩ (List.mem_append.mpr (Or.inr List.mem_cons_self))
def fcpy (h : fSt) (r0 : Option Nat) (sp : Int32) (r1 : Option Nat) (dp n : Int32) (t : Nat) : Option fSt := match farr h r0 t, r1, farr h r1 t with
  | some (n0, .inl f), some a1, some (n1, .inl g) => if ¬ sp < 0 ∧ ¬ dp < 0 ∧ ¬ n < 0 ∧ sp.toNatClampNeg + n.toNatClampNeg ≤ n0 ∧ dp.toNatClampNeg + n.toNatClampNeg ≤ n1 then some (fSet h a1 (.inr (t, n1, .inl (va_cpy f g sp.toNatClampNeg dp.toNatClampNeg n.toNatClampNeg)))) else none
  | _, _, _ => none
theorem fcpy_inv {r0 r1 : Option Nat} {sp dp n : Int32} {t : Nat} (h1 : fcpy h r0 sp r1 dp n t = some h2) : ∃ (a0 a1 n0 n1 : Nat) (f g : Nat → Int32), r0 = some a0 ∧ r1 = some a1 ∧ fF h a0 = some (.inr (t, n0, .inl f)) ∧ fF h a1 = some (.inr (t, n1, .inl g)) ∧ (¬ sp < 0 ∧ ¬ dp < 0 ∧ ¬ n < 0 ∧ sp.toNatClampNeg + n.toNatClampNeg ≤ n0 ∧ dp.toNatClampNeg + n.toNatClampNeg ≤ n1) ∧ h2 = fSet h a1 (.inr (t, n1, .inl (va_cpy f g sp.toNatClampNeg dp.toNatClampNeg n.toNatClampNeg))) := by
  unfold fcpy at h1
  split at h1
  · rename_i n0 f a1 n1 g hq0 hq1
    obtain ⟨b0, e0, f0⟩ := farr_inv hq0
    obtain ⟨b1, e1, f1⟩ := farr_inv hq1
    cases e1
    by_cases z : ¬ sp < 0 ∧ ¬ dp < 0 ∧ ¬ n < 0 ∧ sp.toNatClampNeg + n.toNatClampNeg ≤ n0 ∧ dp.toNatClampNeg + n.toNatClampNeg ≤ n1
    · rw [if_pos z] at h1
      cases h1
      exact ⟨b0, a1, n0, n1, f, g, e0, rfl, f0, f1, z, rfl⟩
    · rw [if_neg z] at h1; cases h1
  · cases h1
theorem fr_copyi (hexec : p.tables.exec = Jvm.exec) (hb : c.code = cc) {nL : Nat} (hml : c.maxLocals = nL) (hts : ∀ w ∈ WA, w.before args s = true) {own : String} {index : Nat} (hown : s.vm.findClass own = some m.cls) (K : fKw D cA h0 s) (hC : fCur D cA s h0 h H locs) (hlink : Cond.methodLink own index arraycopyName ∈ WA) (hnat : Cond.native arraycopyName ∈ WA) (hstat : Cond.static arraycopyName ∈ WA) (hini : Cond.initialized "java/lang/System" ∈ WA) {t : Nat} (ht : ftl[t]? = some .int) {r0 r1 : Option Nat} {sp dp n : Int32} (hg : fcpy h r0 sp r1 dp n t = some h2) (hsize : ls.size = nL)
    (hframes : 1 ≤ R.frames) (hlocals : (rest.map fun v => v.category).sum + (nativeFrameWords "java/lang/System" "arraycopy" 5 + 11) ≤ R.locals) (hdg : decode cc pc = .ok (.invokestatic index, 3))
    (kk : ∀ (H1 : Heap) (locs1 : List Loc), fCur D cA s h0 h2 H1 locs1 → W p l e R s m args below meth c H1 locs1 cells slots Q (F0 m (pc + 3) ls rest)) : W p l e R s m args below meth c H locs cells slots Q (F0 m pc ls (.int n :: .int dp :: va_rf r1 :: .int sp :: va_rf r0 :: rest)) := by
  obtain ⟨a0, a, n0, n1, f, g, rfl, rfl, hF0, hF1, ⟨h1, h2, h3, h4, h5⟩, rfl⟩ := fcpy_inv hg
  have nn : ∀ z : Int32, ¬ z < 0 → z.toInt = (z.toNatClampNeg : Int) := by
    intro z hz
    have hz0 : (0 : Int) ≤ z.toInt := by
      have := Int32.not_lt.mp hz
      simpa using Int32.le_iff_toInt_le.mp this
    show z.toInt = ((z.toInt.toNat : Nat) : Int)
    omega
  intro T hT X
  have hc0 : H[a0]? = some (vp_cell (cA t) (n0, .inl f)) := hC.1 a0 _ hF0
  have hc1 : H[a]? = some (vp_cell (cA t) (n1, .inl g)) := hC.1 a _ hF1
  obtain ⟨-, k0, hk0, cm0, hkk0⟩ := (K.1.2 t _ (fTys_at ht)).1 n0 (fun j => .int (f j))
  obtain ⟨-, k1, hk1, cm1, hkk1⟩ := (K.1.2 t _ (fTys_at ht)).1 n1 (fun j => .int (g j))
  obtain ⟨vm', X', step⟩ := X.arraycopy hexec hown (hts _ hlink) (hts _ hnat) (hts _ hstat) (hts _ hini) (src := a0) (dst := a) (cs := vp_cell (cA t) (n0, .inl f)) (cd := vp_cell (cA t) (n1, .inl g)) (srcPos := sp) (destPos := dp) (n := n) (by rw [hT]; exact hc0) (by rw [hT]; exact hc1)
    (fun _ h => by cases h) (fun _ h => by cases h) (fun h => by cases h) (fun h => by cases h) hk0 hk1 hkk0 hkk1 (by simp [refKind]) h1 h2 h3
    (by rw [nn sp h1, nn n h3]; show ¬ _ > ((arrV (cA t) n0 (fun j => .int (f j))).slots.size : Int); rw [arrV_size]; omega)
    (by rw [nn dp h2, nn n h3]; show ¬ _ > ((arrV (cA t) n1 (fun j => .int (g j))).slots.size : Int); rw [arrV_size]; omega)
    (fun vm₁ _ i hi => by
      have e : (vp_cell (cA t) (n0, .inl f)).slots.getD (sp.toNatClampNeg + i) .null = .int (f (sp.toNatClampNeg + i)) := by
        show (arrV (cA t) n0 (fun j => .int (f j))).slots.getD _ _ = _
        rw [Array.getD_eq_getD_getElem?, arrV_read _ _ (by omega)]
        rfl
      refine ⟨?_, ?_⟩
      · rw [e]
        rfl
      · rw [e]
        exact trivial)
    (g := F0 m pc ls (.int n :: .int dp :: .ref a :: .int sp :: .ref a0 :: rest)) rfl (by rw [hml]; exact hsize) (rest := rest) rfl (by rw [hb]; exact hdg) hframes (by show 2 * 0 + _ + _ ≤ _; omega)
  have e1 : copied (vp_cell (cA t) (n0, .inl f)) (vp_cell (cA t) (n1, .inl g)) sp dp n = vp_cell (cA t) (n1, .inl (va_cpy f g sp.toNatClampNeg dp.toNatClampNeg n.toNatClampNeg)) := va_copied (fun z => .int z) (cA t) (cA t) f g h4
  rw [e1] at X' step
  have hl : a < H.size := (Array.getElem?_eq_some_iff.mp hc1).1
  have hheap : ((T.setVm vm').setCell a (vp_cell (cA t) (n1, .inl (va_cpy f g sp.toNatClampNeg dp.toNatClampNeg n.toNatClampNeg)))).heap = H.setIfInBounds a (vp_cell (cA t) (n1, .inl (va_cpy f g sp.toNatClampNeg dp.toNatClampNeg n.toNatClampNeg))) := by rw [← hT]; rfl
  have oq : ∀ q : Nat, q ≠ a → (H.setIfInBounds a (vp_cell (cA t) (n1, .inl (va_cpy f g sp.toNatClampNeg dp.toNatClampNeg n.toNatClampNeg))))[q]? = H[q]? := fun q hq => by simp [Array.getElem?_setIfInBounds, Ne.symm hq]
  have hat : (H.setIfInBounds a (vp_cell (cA t) (n1, .inl (va_cpy f g sp.toNatClampNeg dp.toNatClampNeg n.toNatClampNeg))))[a]? = some (vp_cell (cA t) (n1, .inl (va_cpy f g sp.toNatClampNeg dp.toNatClampNeg n.toNatClampNeg))) := by simp [Array.getElem?_setIfInBounds, hl]
  have hw : fW (H.setIfInBounds a (vp_cell (cA t) (n1, .inl (va_cpy f g sp.toNatClampNeg dp.toNatClampNeg n.toNatClampNeg)))) = fW H := by
    apply fW_eq
    intro q
    by_cases hq : q = a
    · subst hq
      rw [hat, hc1]
      show some (arrV _ _ _).slots.size = some (arrV _ _ _).slots.size
      rw [arrV_size, arrV_size]
    · rw [oq q hq]
  obtain ⟨t9, a1, b1⟩ := kk _ _ (hC.setL hF1 (e1 := .inr (t, n1, .inl (va_cpy f g sp.toNatClampNeg dp.toNatClampNeg n.toNatClampNeg))) hat (by simp) oq hw (fun q hq => by
      obtain ⟨z, -, hz⟩ := List.mem_map.mp hq
      rw [← hz])) _ hheap X'
  exact ⟨t9, step t9 a1, b1⟩
theorem lva0 {i : Nat} : lv_args i [] = [] := rfl
theorem lva1 {i : Nat} {v : Value} {vs : List Value} {l : List (Nat × Value)} (h : v.category = 1) (t : lv_args (i + 1) vs = l) : lv_args i (v :: vs) = (i, v) :: l := by
  show (i, v) :: lv_args (if v.category = 2 then i + 2 else i + 1) vs = _
  rw [if_neg (by rw [h]; decide), t]
theorem lva2 {i : Nat} {v : Value} {vs : List Value} {l : List (Nat × Value)} (h : v.category = 2) (t : lv_args (i + 2) vs = l) : lv_args i (v :: vs) = (i, v) :: l := by
  show (i, v) :: lv_args (if v.category = 2 then i + 2 else i + 1) vs = _
  rw [if_pos h, t]
theorem lgl0 : (lg_sl []).length = 0 := rfl
theorem lgl1 {v : Value} {vs : List Value} {n : Nat} (h : v.category = 1) (t : (lg_sl vs).length = n) : (lg_sl (v :: vs)).length = n + 1 := by
  unfold lg_sl at t ⊢
  rw [List.flatMap_cons, if_neg (by rw [h]; decide), List.length_append, t]
  simp; omega
theorem lgl2 {v : Value} {vs : List Value} {n : Nat} (h : v.category = 2) (t : (lg_sl vs).length = n) : (lg_sl (v :: vs)).length = n + 2 := by
  unfold lg_sl at t ⊢
  rw [List.flatMap_cons, if_pos h, List.length_append, t]
  simp; omega
/-- what stands of the machine and of a method in each of its rows -/
def fM (p : Program) (s : State) (m : MethodId) (args : Array Value) (meth : Method) (c : Code) (D : va_G) (cA : Nat → ClassId) (h0 : fSt) (R : Room) (cc : ByteArray) (nL : Nat) (ret : Option FieldType) (own : String) : Prop :=
  p.tables.exec = Jvm.exec ∧ c.code = cc ∧ c.maxLocals = nL ∧ meth.sig.returnType = ret ∧ meth.locks = false ∧ (∀ w ∈ WA, w.before args s = true) ∧ s.vm.findClass own = some m.cls ∧ fKw D cA h0 s ∧ (R.cells = fCB h0 - fZ h0 ∧ R.slots = fLB h0 - fL h0)
/-- a contract out of the walk of the body -/
theorem fMet.of {y : MethodName} {cd : ByteArray} {maxL fr lo : Nat} {ret : Option FieldType} {as : List Value} {v : Option Value} {own : String} (hy : plainName y.cls = true) (ho : y.cls = own) {lv0 : List (Nat × Value)} {k0 : Nat} (ha0 : lv_args 0 as = lv0) (hk0 : (lg_sl as).length = k0) (hlen : k0 ≤ maxL)
    (body : ∀ (p : Program) (e : Env) (s : State) (m : MethodId) (args : Array Value) (below : List Frame) (meth : Method) (c : Code) (ls : Array Slot), meth.name = y.name → (∀ x ∈ c.exceptionTable.toList, True) → fM p s m args meth c D cA h { frames := fr, cells := fCB h - fZ h, slots := fLB h - fL h, locals := lo } cd maxL ret own → fCur D cA s h h s.heap [] → lv_has ls maxL lv0 →
      W p l e { frames := fr, cells := fCB h - fZ h, slots := fLB h - fL h, locals := lo } s m args below meth c s.heap [] 0 0 (MQ below (fQ D cA h h2 v) args s (fCB h - fZ h) (fLB h - fL h) (fA h)) (F0 m 0 ls [])) : fMet l y (wsC y cd maxL ret) fr lo D cA as h h2 v := by
  refine Met.ofW (cc := cd) (maxL := maxL) (ret := ret) hy rfl ?_
  intro p e s m args below meth c s₁ B hml hv
  obtain ⟨rfl, hv⟩ := hv
  have hts := atoms_spec (ws := wsC y cd maxL ret) B.pre
  have hown : s.vm.findClass y.cls = some m.cls := findClass_of_methodNamed B.named
  rw [ho] at hown
  have hl := lv_entry as (n := maxL) (by rw [hk0]; exact hlen)
  rw [ha0] at hl
  rw [lg_entry_eq]
  exact body p e s m as.toArray below meth c _ (name_of_methodNamed B.named B.method).1 (fun _ _ => trivial) ⟨B.exec, B.bytes, hml, B.returns, B.notSynchronized, fun w hw => hts w (List.mem_cons_of_mem _ hw), hown, hv.2.2.2, rfl, rfl⟩ (fCur.start hv) hl
theorem fMetX.of {y : MethodName} {cd : ByteArray} {maxL fr lo : Nat} {ret : Option FieldType} {as : List Value} {r : Option Value ⊕ Nat} {own : String} (hy : plainName y.cls = true) (ho : y.cls = own) {lv0 : List (Nat × Value)} {k0 : Nat} (ha0 : lv_args 0 as = lv0) (hk0 : (lg_sl as).length = k0) (hlen : k0 ≤ maxL)
    (body : ∀ (p : Program) (e : Env) (s : State) (m : MethodId) (args : Array Value) (below : List Frame) (meth : Method) (c : Code) (ls : Array Slot), (∀ x ∈ c.exceptionTable.toList, False) → fM p s m args meth c D cA h { frames := fr, cells := fCB h - fZ h, slots := fLB h - fL h, locals := lo } cd maxL ret own → fCur D cA s h h s.heap [] → lv_has ls maxL lv0 →
      W p l e { frames := fr, cells := fCB h - fZ h, slots := fLB h - fL h, locals := lo } s m args below meth c s.heap [] 0 0 (vx_MQ below (fQX D cA h h2 r) (fXC D cA h h2 r) args s (fCB h - fZ h) (fLB h - fL h) (fA h)) (F0 m 0 ls [])) : fMetX l y (wsC y cd maxL ret) fr lo D cA as h h2 r := by
  refine vx_ofW (cc := cd) (maxL := maxL) (ret := ret) hy rfl ?_
  intro p e s m args below meth c s₁ B hml hno hv
  obtain ⟨rfl, hv⟩ := hv
  have hts := atoms_spec (ws := wsC y cd maxL ret) B.pre
  have hown : s.vm.findClass y.cls = some m.cls := findClass_of_methodNamed B.named
  rw [ho] at hown
  have hl := lv_entry as (n := maxL) (by rw [hk0]; exact hlen)
  rw [ha0] at hl
  rw [lg_entry_eq]
  exact body p e s m as.toArray below meth c _ hno ⟨B.exec, B.bytes, hml, B.returns, B.notSynchronized, fun w hw => hts w (List.mem_cons_of_mem _ hw), hown, hv.2.2.2, rfl, rfl⟩ (fCur.start hv) hl
theorem fMetX.ofH {y : MethodName} {cd : ByteArray} {maxL fr lo : Nat} {ret : Option FieldType} {hh : List (Nat × Nat × Nat × Nat)} {as : List Value} {r : Option Value ⊕ Nat} {own : String} (hy : plainName y.cls = true) (ho : y.cls = own) {lv0 : List (Nat × Value)} {k0 : Nat} (ha0 : lv_args 0 as = lv0) (hk0 : (lg_sl as).length = k0) (hlen : k0 ≤ maxL)
    (body : ∀ (p : Program) (e : Env) (s : State) (m : MethodId) (args : Array Value) (below : List Frame) (meth : Method) (c : Code) (ls : Array Slot), c.exceptionTable.toList = tableOf hh → fM p s m args meth c D cA h { frames := fr, cells := fCB h - fZ h, slots := fLB h - fL h, locals := lo } cd maxL ret own → fCur D cA s h h s.heap [] → lv_has ls maxL lv0 →
      W p l e { frames := fr, cells := fCB h - fZ h, slots := fLB h - fL h, locals := lo } s m args below meth c s.heap [] 0 0 (vx_MQ below (fQX D cA h h2 r) (fXC D cA h h2 r) args s (fCB h - fZ h) (fLB h - fL h) (fA h)) (F0 m 0 ls [])) : fMetX l y (wsCH y cd maxL ret hh) fr lo D cA as h h2 r := by
  refine vx_ofWH (cc := cd) (maxL := maxL) (ret := ret) (hh := hh) hy rfl ?_
  intro p e s m args below meth c s₁ B hml hv
  obtain ⟨rfl, hv⟩ := hv
  have hts := atoms_spec (ws := wsCH y cd maxL ret hh) B.pre
  have hown : s.vm.findClass y.cls = some m.cls := findClass_of_methodNamed B.named
  rw [ho] at hown
  have hl := lv_entry as (n := maxL) (by rw [hk0]; exact hlen)
  rw [ha0] at hl
  rw [lg_entry_eq]
  exact body p e s m as.toArray below meth c _ (vx_table (x := y) B (hts _ List.mem_cons_self)) ⟨B.exec, B.bytes, hml, B.returns, B.notSynchronized, fun w hw => hts w (List.mem_cons_of_mem _ hw), hown, hv.2.2.2, rfl, rfl⟩ (fCur.start hv) hl
end FH10
end
section
section FH11
variable {p : Program} {l : Launch} {e : Env} {R : Room} {s : State} {m : MethodId} {args : Array Value} {below : List Frame} {meth : Method} {c : Code} {H : Heap} {locs : List Loc} {cells slots : Nat} {Q : State → Prop}
variable {cc : ByteArray} {pc : Nat} {ls : Array Slot} {rest : List Value}
theorem va_rf_cat (r : Option Nat) : (va_rf r).category = 1 := by cases r <;> rfl
theorem fr_aload_n (hexec : p.tables.exec = Jvm.exec) (hb : c.code = cc) {k : Fin 4} {i : Nat} {r : Option Nat} (hdg : decode cc pc = .ok (.aload_n k, 1)) (hi : (k : Nat) = i) (hl : ls[i]? = some (.val (va_rf r)))
    (kk : W p l e R s m args below meth c H locs cells slots Q (F0 m (pc + 1) ls (va_rf r :: rest))) : W p l e R s m args below meth c H locs cells slots Q (F0 m pc ls rest) := by
  cases r with
  | none => exact lv_aload_nN hexec hb hdg hi hl kk
  | some a => exact lv_aload_n hexec hb hdg hi hl kk
theorem fr_aload (hexec : p.tables.exec = Jvm.exec) (hb : c.code = cc) {i : Nat} {r : Option Nat} (hdg : decode cc pc = .ok (.aload i, 2)) (hl : ls[i]? = some (.val (va_rf r)))
    (kk : W p l e R s m args below meth c H locs cells slots Q (F0 m (pc + 2) ls (va_rf r :: rest))) : W p l e R s m args below meth c H locs cells slots Q (F0 m pc ls rest) := by
  cases r with
  | none => exact lv_aloadN hexec hb hdg hl kk
  | some a => exact lv_aload hexec hb hdg hl kk
theorem fr_astore_n (hexec : p.tables.exec = Jvm.exec) (hb : c.code = cc) {k : Fin 4} {i nL : Nat} {r : Option Nat} {lv lv' : List (Nat × Value)} (hdg : decode cc pc = .ok (.astore_n k, 1)) (hi : (k : Nat) = i) (h : lv_has ls nL lv) (hn : i < nL) (hl : (i, va_rf r) :: lv.filter (fun q => !(q.1 == i) && !(q.1 + 1 == i && q.2.category == 2)) = lv')
    (kk : ∀ ls' : Array Slot, lv_has ls' nL lv' → W p l e R s m args below meth c H locs cells slots Q (F0 m (pc + 1) ls' rest)) : W p l e R s m args below meth c H locs cells slots Q (F0 m pc ls (va_rf r :: rest)) := by
  cases r with
  | none => exact lv_astore_nN hexec hb hdg hi h hn hl kk
  | some a => exact lv_astore_n hexec hb hdg hi h hn hl kk
theorem fr_astore (hexec : p.tables.exec = Jvm.exec) (hb : c.code = cc) {i nL : Nat} {r : Option Nat} {lv lv' : List (Nat × Value)} (hdg : decode cc pc = .ok (.astore i, 2)) (h : lv_has ls nL lv) (hn : i < nL) (hl : (i, va_rf r) :: lv.filter (fun q => !(q.1 == i) && !(q.1 + 1 == i && q.2.category == 2)) = lv')
    (kk : ∀ ls' : Array Slot, lv_has ls' nL lv' → W p l e R s m args below meth c H locs cells slots Q (F0 m (pc + 2) ls' rest)) : W p l e R s m args below meth c H locs cells slots Q (F0 m pc ls (va_rf r :: rest)) := by
  cases r with
  | none => exact lv_astoreN hexec hb hdg h hn hl kk
  | some a => exact lv_astore hexec hb hdg h hn hl kk
theorem fr_null (hexec : p.tables.exec = Jvm.exec) (hb : c.code = cc) (hdg : decode cc pc = .ok (.aconst_null, 1)) (kk : W p l e R s m args below meth c H locs cells slots Q (F0 m (pc + 1) ls (va_rf none :: rest))) : W p l e R s m args below meth c H locs cells slots Q (F0 m pc ls rest) := lv_null hexec hb hdg kk
theorem fr_ifnull (hexec : p.tables.exec = Jvm.exec) (hb : c.code = cc) {r : Option Nat} {off : Int} {tgt : Nat} (hdg : decode cc pc = .ok (.ifnull off, 3)) (ht : (pc : Int) + off = (tgt : Int)) (kt : r = none → W p l e R s m args below meth c H locs cells slots Q (F0 m tgt ls rest)) (kf : ¬ r = none → W p l e R s m args below meth c H locs cells slots Q (F0 m (pc + 3) ls rest)) : W p l e R s m args below meth c H locs cells slots Q (F0 m pc ls (va_rf r :: rest)) := by
  cases r with
  | none => exact lv_ifnullN hexec hb hdg ht (kt rfl)
  | some a => exact lv_ifnull hexec hb hdg (kf (fun h => nomatch h))
theorem fr_ifnonnull (hexec : p.tables.exec = Jvm.exec) (hb : c.code = cc) {r : Option Nat} {off : Int} {tgt : Nat} (hdg : decode cc pc = .ok (.ifnonnull off, 3)) (ht : (pc : Int) + off = (tgt : Int)) (kt : ¬ r = none → W p l e R s m args below meth c H locs cells slots Q (F0 m tgt ls rest)) (kf : r = none → W p l e R s m args below meth c H locs cells slots Q (F0 m (pc + 3) ls rest)) : W p l e R s m args below meth c H locs cells slots Q (F0 m pc ls (va_rf r :: rest)) := by
  cases r with
  | none => exact lv_ifnonnullN hexec hb hdg (kf rfl)
  | some a => exact lv_ifnonnull hexec hb hdg ht (kt (fun h => nomatch h))
theorem fr_lcmp_lt (hexec : p.tables.exec = Jvm.exec) (hb : c.code = cc) {x y : Int64} {off : Int} {tgt : Nat} (hd0 : decode cc pc = .ok (.lcmp, 1)) (hdg : decode cc (pc + 1) = .ok (.ifCond .lt off, 3)) (ht : ((pc + 1 : Nat) : Int) + off = (tgt : Int))
    (kt : x < y → W p l e R s m args below meth c H locs cells slots Q (F0 m tgt ls rest)) (kf : ¬ x < y → W p l e R s m args below meth c H locs cells slots Q (F0 m (pc + 1 + 3) ls rest)) : W p l e R s m args below meth c H locs cells slots Q (F0 m pc ls (.long y :: .long x :: rest)) :=
  W.lcmp hexec hb hd0 (lv_if_lt hexec hb hdg ht (fun z => kt ((lg_cmp_lt x y).mp z)) (fun z => kf (fun q => z ((lg_cmp_lt x y).mpr q))))
theorem fr_lcmp_ge (hexec : p.tables.exec = Jvm.exec) (hb : c.code = cc) {x y : Int64} {off : Int} {tgt : Nat} (hd0 : decode cc pc = .ok (.lcmp, 1)) (hdg : decode cc (pc + 1) = .ok (.ifCond .ge off, 3)) (ht : ((pc + 1 : Nat) : Int) + off = (tgt : Int))
    (kt : y ≤ x → W p l e R s m args below meth c H locs cells slots Q (F0 m tgt ls rest)) (kf : ¬ y ≤ x → W p l e R s m args below meth c H locs cells slots Q (F0 m (pc + 1 + 3) ls rest)) : W p l e R s m args below meth c H locs cells slots Q (F0 m pc ls (.long y :: .long x :: rest)) :=
  W.lcmp hexec hb hd0 (lv_if_ge hexec hb hdg ht (fun z => kt ((lg_cmp_ge x y).mp z)) (fun z => kf (fun q => z ((lg_cmp_ge x y).mpr q))))
theorem fr_lcmp_gt (hexec : p.tables.exec = Jvm.exec) (hb : c.code = cc) {x y : Int64} {off : Int} {tgt : Nat} (hd0 : decode cc pc = .ok (.lcmp, 1)) (hdg : decode cc (pc + 1) = .ok (.ifCond .gt off, 3)) (ht : ((pc + 1 : Nat) : Int) + off = (tgt : Int))
    (kt : y < x → W p l e R s m args below meth c H locs cells slots Q (F0 m tgt ls rest)) (kf : ¬ y < x → W p l e R s m args below meth c H locs cells slots Q (F0 m (pc + 1 + 3) ls rest)) : W p l e R s m args below meth c H locs cells slots Q (F0 m pc ls (.long y :: .long x :: rest)) :=
  W.lcmp hexec hb hd0 (lv_if_gt hexec hb hdg ht (fun z => kt ((lg_cmp_gt x y).mp z)) (fun z => kf (fun q => z ((lg_cmp_gt x y).mpr q))))
theorem fr_lcmp_le (hexec : p.tables.exec = Jvm.exec) (hb : c.code = cc) {x y : Int64} {off : Int} {tgt : Nat} (hd0 : decode cc pc = .ok (.lcmp, 1)) (hdg : decode cc (pc + 1) = .ok (.ifCond .le off, 3)) (ht : ((pc + 1 : Nat) : Int) + off = (tgt : Int))
    (kt : x ≤ y → W p l e R s m args below meth c H locs cells slots Q (F0 m tgt ls rest)) (kf : ¬ x ≤ y → W p l e R s m args below meth c H locs cells slots Q (F0 m (pc + 1 + 3) ls rest)) : W p l e R s m args below meth c H locs cells slots Q (F0 m pc ls (.long y :: .long x :: rest)) :=
  W.lcmp hexec hb hd0 (lv_if_le hexec hb hdg ht (fun z => kt ((lg_cmp_le x y).mp z)) (fun z => kf (fun q => z ((lg_cmp_le x y).mpr q))))
theorem fr_lcmp_eq (hexec : p.tables.exec = Jvm.exec) (hb : c.code = cc) {x y : Int64} {off : Int} {tgt : Nat} (hd0 : decode cc pc = .ok (.lcmp, 1)) (hdg : decode cc (pc + 1) = .ok (.ifCond .eq off, 3)) (ht : ((pc + 1 : Nat) : Int) + off = (tgt : Int))
    (kt : x = y → W p l e R s m args below meth c H locs cells slots Q (F0 m tgt ls rest)) (kf : ¬ x = y → W p l e R s m args below meth c H locs cells slots Q (F0 m (pc + 1 + 3) ls rest)) : W p l e R s m args below meth c H locs cells slots Q (F0 m pc ls (.long y :: .long x :: rest)) :=
  W.lcmp hexec hb hd0 (lv_if_eq hexec hb hdg ht (fun z => kt ((lg_cmp_eq x y).mp z)) (fun z => kf (fun q => z ((lg_cmp_eq x y).mpr q))))
theorem fr_lcmp_ne (hexec : p.tables.exec = Jvm.exec) (hb : c.code = cc) {x y : Int64} {off : Int} {tgt : Nat} (hd0 : decode cc pc = .ok (.lcmp, 1)) (hdg : decode cc (pc + 1) = .ok (.ifCond .ne off, 3)) (ht : ((pc + 1 : Nat) : Int) + off = (tgt : Int))
    (kt : ¬ x = y → W p l e R s m args below meth c H locs cells slots Q (F0 m tgt ls rest)) (kf : x = y → W p l e R s m args below meth c H locs cells slots Q (F0 m (pc + 1 + 3) ls rest)) : W p l e R s m args below meth c H locs cells slots Q (F0 m pc ls (.long y :: .long x :: rest)) :=
  W.lcmp hexec hb hd0 (lv_if_ne hexec hb hdg ht (fun z => kt (fun q => z ((lg_cmp_eq x y).mpr q))) (fun z => kf ((lg_cmp_eq x y).mp z)))
end FH11
end
section
section FH12
theorem nZ {x : Int32} (h : x = 0 ∨ x = 1) : narrow .boolean (.int x) = .int x := by rcases h with rfl | rfl <;> rfl
theorem fZ9 {x : Int32} (h : x = 0 ∨ x = 1) : fits .boolean (.int x) = true := by rcases h with rfl | rfl <;> rfl
theorem nR (n : String) (r : Option Nat) : narrow (.object n) (va_rf r) = va_rf r := by cases r <;> rfl
theorem fR (n : String) (r : Option Nat) : fits (.object n) (va_rf r) = true := by cases r <;> rfl
theorem nAr (t : FieldType) (r : Option Nat) : narrow (.array t) (va_rf r) = va_rf r := by cases r <;> rfl
theorem fAr (t : FieldType) (r : Option Nat) : fits (.array t) (va_rf r) = true := by cases r <;> rfl
def fputZ (h : fSt) (r : Option Nat) (ci k : Nat) (x : Int32) : Option fSt := if x = 0 ∨ x = 1 then fput h r ci k (.int x) else none
theorem fputZ_inv {h h2 : fSt} {r : Option Nat} {ci k : Nat} {x : Int32} (h1 : fputZ h r ci k x = some h2) : (x = 0 ∨ x = 1) ∧ fput h r ci k (.int x) = some h2 := by
  unfold fputZ at h1
  by_cases z : x = 0 ∨ x = 1
  · rw [if_pos z] at h1; exact ⟨z, h1⟩
  · rw [if_neg z] at h1; cases h1
theorem fln {P : Nat × Value → Bool} : ([] : List (Nat × Value)).filter P = [] := rfl
theorem flk {P : Nat × Value → Bool} {q : Nat × Value} {l l2 : List (Nat × Value)} (h : P q = true) (t : l.filter P = l2) : (q :: l).filter P = q :: l2 := by rw [List.filter_cons_of_pos h, t]
theorem fld {P : Nat × Value → Bool} {q : Nat × Value} {l l2 : List (Nat × Value)} (h : P q = false) (t : l.filter P = l2) : (q :: l).filter P = l2 := by rw [List.filter_cons_of_neg (by rw [h]; exact Bool.false_ne_true), t]
theorem adj1 (i : Nat) (r : Option Nat) : (fun q : Nat × Value => !(q.1 == i + 1) && !(q.1 + 1 == i + 1 && q.2.category == 2)) (i, va_rf r) = true := by simp [va_rf_cat]
theorem adj2 (i : Nat) (r : Option Nat) : (fun q : Nat × Value => !(q.1 == i + 1) && (!(q.1 == i + 1 + 1) && !(q.1 + 1 == i + 1 && q.2.category == 2))) (i, va_rf r) = true := by simp [va_rf_cat, show ¬ i = i + 1 + 1 by omega]
theorem cat_le (v : Value) : v.category ≤ 2 := by rcases lv_cat v with h | h <;> rw [h] <;> decide
theorem cat_sum (l : List Value) : (l.map fun v => v.category).sum ≤ 2 * l.length := by
  induction l with
  | nil => exact Nat.le_refl _
  | cons v l ih =>
    have h := cat_le v
    simp only [List.map_cons, List.sum_cons, List.length_cons]
    omega
theorem cat8 (l : List Value) (h : l.length ≤ 4) : (l.map fun v => v.category).sum ≤ 8 := by
  have h1 := cat_sum l
  omega
theorem catL (l : List Value) (k : Nat) {n : Nat} (h : l.length ≤ 4) (h2 : 8 + k ≤ n) : (l.map fun v => v.category).sum + k ≤ n := by
  have h1 := cat8 l h
  omega
theorem newa_b {n : Nat} {k : Nat} (h : ¬ 67000000 < n) (hk : k ≤ 8) : n * k ≤ 536870912 := by
  have h1 : n ≤ 67000000 := Nat.le_of_not_lt h
  have h2 := Nat.mul_le_mul h1 hk
  omega
theorem all1 {α : Type} {P : α → Prop} {x : α} (h : P x) : ∀ z ∈ [x], P z := fun z hz => by rw [List.mem_singleton.mp hz]; exact h
theorem all2 {α : Type} {P : α → Prop} {x y : α} (h : P x) (k : P y) : ∀ z ∈ [x, y], P z := fun z hz => (List.mem_cons.mp hz).elim (fun e => by rw [e]; exact h) (all1 k z)
def rI (x : Int32 ⊕ Nat) : Option Value ⊕ Nat := match x with
  | .inl v => .inl (some (.int v))
  | .inr k => .inr k
def rJ (x : Int64 ⊕ Nat) : Option Value ⊕ Nat := match x with
  | .inl v => .inl (some (.long v))
  | .inr k => .inr k
def rD (x : UInt64 ⊕ Nat) : Option Value ⊕ Nat := match x with
  | .inl v => .inl (some (.double v))
  | .inr k => .inr k
def rR (x : Option Nat ⊕ Nat) : Option Value ⊕ Nat := match x with
  | .inl v => .inl (some (va_rf v))
  | .inr k => .inr k
def rV (x : Unit ⊕ Nat) : Option Value ⊕ Nat := match x with
  | .inl _ => .inl none
  | .inr k => .inr k
theorem swG {x : Int32} {n : Nat} (hn : n < 2 ^ 31) (h : ∀ k : Nat, k < n → ¬ x = nI k) : x.toInt < 0 ∨ (n : Int) - 1 < x.toInt := by
  by_cases h0 : x < 0
  · exact Or.inl (by simpa using Int32.lt_iff_toInt_lt.mp h0)
  · obtain ⟨j, hj, rfl⟩ := nI_of h0
    have h1 : ¬ j < n := fun q => h j q rfl
    rw [nI_toInt hj]
    exact Or.inr (by omega)
theorem swOut3 {x : Int32} (c0 : ¬ x = (0 : Int32)) (c1 : ¬ x = (1 : Int32)) (c2 : ¬ x = (2 : Int32)) : x.toInt < 0 ∨ (2 : Int) < x.toInt := by
  have h := swG (x := x) (n := 3) (by decide) (fun k hk => match k, hk with
    | 0, _ => c0
    | 1, _ => c1
    | 2, _ => c2
    | k + 3, hk => absurd hk (by omega))
  omega
theorem swOut4 {x : Int32} (c0 : ¬ x = (0 : Int32)) (c1 : ¬ x = (1 : Int32)) (c2 : ¬ x = (2 : Int32)) (c3 : ¬ x = (3 : Int32)) : x.toInt < 0 ∨ (3 : Int) < x.toInt := by
  have h := swG (x := x) (n := 4) (by decide) (fun k hk => match k, hk with
    | 0, _ => c0
    | 1, _ => c1
    | 2, _ => c2
    | 3, _ => c3
    | k + 4, hk => absurd hk (by omega))
  omega
theorem swOut38 {x : Int32} (c0 : ¬ x = (0 : Int32)) (c1 : ¬ x = (1 : Int32)) (c2 : ¬ x = (2 : Int32)) (c3 : ¬ x = (3 : Int32)) (c4 : ¬ x = (4 : Int32)) (c5 : ¬ x = (5 : Int32)) (c6 : ¬ x = (6 : Int32)) (c7 : ¬ x = (7 : Int32)) (c8 : ¬ x = (8 : Int32)) (c9 : ¬ x = (9 : Int32)) (c10 : ¬ x = (10 : Int32)) (c11 : ¬ x = (11 : Int32)) (c12 : ¬ x = (12 : Int32)) (c13 : ¬ x = (13 : Int32)) (c14 : ¬ x = (14 : Int32)) (c15 : ¬ x = (15 : Int32)) (c16 : ¬ x = (16 : Int32)) (c17 : ¬ x = (17 : Int32)) (c18 : ¬ x = (18 : Int32)) (c19 : ¬ x = (19 : Int32)) (c20 : ¬ x = (20 : Int32)) (c21 : ¬ x = (21 : Int32)) (c22 : ¬ x = (22 : Int32)) (c23 : ¬ x = (23 : Int32)) (c24 : ¬ x = (24 : Int32)) (c25 : ¬ x = (25 : Int32)) (c26 : ¬ x = (26 : Int32)) (c27 : ¬ x = (27 : Int32)) (c28 : ¬ x = (28 : Int32)) (c29 : ¬ x = (29 : Int32)) (c30 : ¬ x = (30 : Int32)) (c31 : ¬ x = (31 : Int32)) (c32 : ¬ x = (32 : Int32)) (c33 : ¬ x = (33 : Int32)) (c34 : ¬ x = (34 : Int32)) (c35 : ¬ x = (35 : Int32)) (c36 : ¬ x = (36 : Int32)) (c37 : ¬ x = (37 : Int32)) : x.toInt < 0 ∨ (37 : Int) < x.toInt := by
  have h := swG (x := x) (n := 38) (by decide) (fun k hk => match k, hk with
    | 0, _ => c0
    | 1, _ => c1
    | 2, _ => c2
    | 3, _ => c3
    | 4, _ => c4
    | 5, _ => c5
    | 6, _ => c6
    | 7, _ => c7
    | 8, _ => c8
    | 9, _ => c9
    | 10, _ => c10
    | 11, _ => c11
    | 12, _ => c12
    | 13, _ => c13
    | 14, _ => c14
    | 15, _ => c15
    | 16, _ => c16
    | 17, _ => c17
    | 18, _ => c18
    | 19, _ => c19
    | 20, _ => c20
    | 21, _ => c21
    | 22, _ => c22
    | 23, _ => c23
    | 24, _ => c24
    | 25, _ => c25
    | 26, _ => c26
    | 27, _ => c27
    | 28, _ => c28
    | 29, _ => c29
    | 30, _ => c30
    | 31, _ => c31
    | 32, _ => c32
    | 33, _ => c33
    | 34, _ => c34
    | 35, _ => c35
    | 36, _ => c36
    | 37, _ => c37
    | k + 38, hk => absurd hk (by omega))
  omega
end FH12
end
section
theorem dv_0 : ∀ j, j < 4 → defaultValue (tyX0 j) = vp_V [.null, .null, .null, .null] j := by decide +kernel
theorem dv_1 : ∀ j, j < 2 → defaultValue (tyX1 j) = vp_V [.long 0, .long 0] j := by decide +kernel
theorem dv_2 : ∀ j, j < 4 → defaultValue (tyX2 j) = vp_V [.int 0, .int 0, .int 0, .int 0] j := by decide +kernel
theorem dv_3 : ∀ j, j < 3 → defaultValue (tyX3 j) = vp_V [.int 0, .int 0, .null] j := by decide +kernel
theorem dv_4 : ∀ j, j < 19 → defaultValue (tyX4 j) = vp_V [.int 0, .int 0, .null, .null, .null, .null, .null, .int 0, .int 0, .int 0, .int 0, .int 0, .null, .int 0, .null, .null, .null, .null, .int 0] j := by decide +kernel
theorem dv_5 : ∀ j, j < 4 → defaultValue (tyX5 j) = vp_V [.long 0, .long 0, .long 0, .int 0] j := by decide +kernel
theorem dv_6 : ∀ j, j < 9 → defaultValue (tyX6 j) = vp_V [.int 0, .int 0, .int 0, .int 0, .int 0, .int 0, .int 0, .null, .int 0] j := by decide +kernel
theorem dv_7 : ∀ j, j < 10 → defaultValue (tyX7 j) = vp_V [.null, .null, .null, .null, .null, .int 0, .int 0, .int 0, .null, .int 0] j := by decide +kernel
theorem dv_8 : ∀ j, j < 14 → defaultValue (tyX8 j) = vp_V [.null, .null, .int 0, .int 0, .null, .null, .null, .null, .null, .int 0, .int 0, .null, .null, .int 0] j := by decide +kernel
theorem kw0 : (Jvm.Cond.selects "TapestryScene" ({ cls := "TapestryScene", name := "found", desc := "(I)LTapestryScene$Node;" } : Jvm.MethodName) ({ cls := "TapestryScene", name := "found", desc := "(I)LTapestryScene$Node;" } : Jvm.MethodName)) ∈ WA := wIn 0 (by decide +kernel) (by decide +kernel)
theorem kw1 : (Jvm.Cond.selects "TapestryScene" ({ cls := "TapestryScene", name := "nodeOrNull", desc := "(I)LTapestryScene$Node;" } : Jvm.MethodName) ({ cls := "TapestryScene", name := "nodeOrNull", desc := "(I)LTapestryScene$Node;" } : Jvm.MethodName)) ∈ WA := wIn 1 (by decide +kernel) (by decide +kernel)
theorem kw3 : (Jvm.Cond.selects "TapestryScene" ({ cls := "TapestryScene", name := "raise", desc := "(LTapestryScene$Node;II)V" } : Jvm.MethodName) ({ cls := "TapestryScene", name := "raise", desc := "(LTapestryScene$Node;II)V" } : Jvm.MethodName)) ∈ WA := wIn 3 (by decide +kernel) (by decide +kernel)
theorem kw4 : (Jvm.Cond.selects "TapestryScene$Property" ({ cls := "TapestryScene$Property", name := "lastKeyUpTo", desc := "(I)LTapestryScene$Key;" } : Jvm.MethodName) ({ cls := "TapestryScene$Property", name := "lastKeyUpTo", desc := "(I)LTapestryScene$Key;" } : Jvm.MethodName)) ∈ WA := wIn 4 (by decide +kernel) (by decide +kernel)
theorem kw5 : (Jvm.Cond.selects "TapestryScene$Property" ({ cls := "TapestryScene$Property", name := "countedTime", desc := "(III)I" } : Jvm.MethodName) ({ cls := "TapestryScene$Property", name := "countedTime", desc := "(III)I" } : Jvm.MethodName)) ∈ WA := wIn 5 (by decide +kernel) (by decide +kernel)
theorem kw6 : (Jvm.Cond.selects "TapestryScene$Property" ({ cls := "TapestryScene$Property", name := "valueFrom", desc := "(LTapestryScene$Key;I)I" } : Jvm.MethodName) ({ cls := "TapestryScene$Property", name := "valueFrom", desc := "(LTapestryScene$Key;I)I" } : Jvm.MethodName)) ∈ WA := wIn 6 (by decide +kernel) (by decide +kernel)
theorem kw7 : (Jvm.Cond.selects "TapestryScene$Point" ({ cls := "TapestryScene$Point", name := "turnQuarters", desc := "(I)V" } : Jvm.MethodName) ({ cls := "TapestryScene$Point", name := "turnQuarters", desc := "(I)V" } : Jvm.MethodName)) ∈ WA := wIn 7 (by decide +kernel) (by decide +kernel)
theorem kw8 : (Jvm.Cond.selects "TapestryScene" ({ cls := "TapestryScene", name := "gatherBounds", desc := "(LTapestryScene$Node;)V" } : Jvm.MethodName) ({ cls := "TapestryScene", name := "gatherBounds", desc := "(LTapestryScene$Node;)V" } : Jvm.MethodName)) ∈ WA := wIn 8 (by decide +kernel) (by decide +kernel)
theorem kw9 : (Jvm.Cond.selects "TapestryScene" ({ cls := "TapestryScene", name := "coversAt", desc := "(LTapestryScene$Node;IIII)Z" } : Jvm.MethodName) ({ cls := "TapestryScene", name := "coversAt", desc := "(LTapestryScene$Node;IIII)Z" } : Jvm.MethodName)) ∈ WA := wIn 9 (by decide +kernel) (by decide +kernel)
theorem kw10 : (Jvm.Cond.selects "TapestryScene" ({ cls := "TapestryScene", name := "topAt", desc := "(IIIILTapestryScene$Node;)I" } : Jvm.MethodName) ({ cls := "TapestryScene", name := "topAt", desc := "(IIIILTapestryScene$Node;)I" } : Jvm.MethodName)) ∈ WA := wIn 10 (by decide +kernel) (by decide +kernel)
theorem kw11 : (Jvm.Cond.selects "TapestryScene" ({ cls := "TapestryScene", name := "isToldAnew", desc := "(I)Z" } : Jvm.MethodName) ({ cls := "TapestryScene", name := "isToldAnew", desc := "(I)Z" } : Jvm.MethodName)) ∈ WA := wIn 11 (by decide +kernel) (by decide +kernel)
theorem kw12 : (Jvm.Cond.selects "TapestryScene" ({ cls := "TapestryScene", name := "mixedWithNode", desc := "(JLTapestryScene$Node;)J" } : Jvm.MethodName) ({ cls := "TapestryScene", name := "mixedWithNode", desc := "(JLTapestryScene$Node;)J" } : Jvm.MethodName)) ∈ WA := wIn 12 (by decide +kernel) (by decide +kernel)
theorem kw13 : (Jvm.Cond.selects "TapestryScene" ({ cls := "TapestryScene", name := "mixedWithPoint", desc := "(J)J" } : Jvm.MethodName) ({ cls := "TapestryScene", name := "mixedWithPoint", desc := "(J)J" } : Jvm.MethodName)) ∈ WA := wIn 13 (by decide +kernel) (by decide +kernel)
theorem kw14 : (Jvm.Cond.selects "TapestrySceneLaw$Loom" ({ cls := "TapestrySceneLaw$Loom", name := "put", desc := "(IIIII)V" } : Jvm.MethodName) ({ cls := "TapestrySceneLaw$Loom", name := "put", desc := "(IIIII)V" } : Jvm.MethodName)) ∈ WA := wIn 14 (by decide +kernel) (by decide +kernel)
theorem kw15 : (Jvm.Cond.selects "TapestryScene" ({ cls := "TapestryScene", name := "layOrder", desc := "()V" } : Jvm.MethodName) ({ cls := "TapestryScene", name := "layOrder", desc := "()V" } : Jvm.MethodName)) ∈ WA := wIn 15 (by decide +kernel) (by decide +kernel)
theorem kw16 : (Jvm.Cond.selects "TapestryScene" ({ cls := "TapestryScene", name := "lay", desc := "(LTapestryScene$Node;I)V" } : Jvm.MethodName) ({ cls := "TapestryScene", name := "lay", desc := "(LTapestryScene$Node;I)V" } : Jvm.MethodName)) ∈ WA := wIn 16 (by decide +kernel) (by decide +kernel)
theorem kw17 : (Jvm.Cond.selects "TapestryScene" ({ cls := "TapestryScene", name := "layHanging", desc := "(LTapestryScene$Node;III)V" } : Jvm.MethodName) ({ cls := "TapestryScene", name := "layHanging", desc := "(LTapestryScene$Node;III)V" } : Jvm.MethodName)) ∈ WA := wIn 17 (by decide +kernel) (by decide +kernel)
theorem kw18 : (Jvm.Cond.selects "TapestryScene" ({ cls := "TapestryScene", name := "foundBelowWhole", desc := "(I)LTapestryScene$Node;" } : Jvm.MethodName) ({ cls := "TapestryScene", name := "foundBelowWhole", desc := "(I)LTapestryScene$Node;" } : Jvm.MethodName)) ∈ WA := wIn 18 (by decide +kernel) (by decide +kernel)
theorem kw19 : (Jvm.Cond.selects "TapestryScene" ({ cls := "TapestryScene", name := "depthUnder", desc := "(LTapestryScene$Node;)I" } : Jvm.MethodName) ({ cls := "TapestryScene", name := "depthUnder", desc := "(LTapestryScene$Node;)I" } : Jvm.MethodName)) ∈ WA := wIn 19 (by decide +kernel) (by decide +kernel)
theorem kw20 : (Jvm.Cond.selects "TapestryScene" ({ cls := "TapestryScene", name := "foundTrack", desc := "(I)LTapestryScene$Property;" } : Jvm.MethodName) ({ cls := "TapestryScene", name := "foundTrack", desc := "(I)LTapestryScene$Property;" } : Jvm.MethodName)) ∈ WA := wIn 20 (by decide +kernel) (by decide +kernel)
theorem kw21 : (Jvm.Cond.initialized "TapestrySceneLaw") ∈ WA := wIn 21 (by decide +kernel) (by decide +kernel)
theorem kw22 : (Jvm.Cond.initialized "TapestrySceneLaw$Loom") ∈ WA := wIn 22 (by decide +kernel) (by decide +kernel)
theorem kw23 : (Jvm.Cond.initialized "TapestryScene") ∈ WA := wIn 23 (by decide +kernel) (by decide +kernel)
theorem kw24 : (Jvm.Cond.initialized "TapestryScene$Node") ∈ WA := wIn 24 (by decide +kernel) (by decide +kernel)
theorem kw25 : (Jvm.Cond.initialized "TapestryScene$Property") ∈ WA := wIn 25 (by decide +kernel) (by decide +kernel)
theorem kw26 : (Jvm.Cond.initialized "TapestryScene$Frame") ∈ WA := wIn 26 (by decide +kernel) (by decide +kernel)
theorem kw27 : (Jvm.Cond.initialized "TapestryScene$Point") ∈ WA := wIn 27 (by decide +kernel) (by decide +kernel)
theorem kw28 : (Jvm.Cond.initialized "TapestryScene$Bounds") ∈ WA := wIn 28 (by decide +kernel) (by decide +kernel)
theorem kw29 : (Jvm.Cond.initialized "TapestryScene$Fraction") ∈ WA := wIn 29 (by decide +kernel) (by decide +kernel)
theorem kw36 : (Jvm.Cond.initialized "java/lang/System") ∈ WA := wIn 36 (by decide +kernel) (by decide +kernel)
theorem kw37 : (Jvm.Cond.initialized "TapestryScene$Key") ∈ WA := wIn 37 (by decide +kernel) (by decide +kernel)
theorem kw38 : (Jvm.Cond.initialized "java/lang/Math") ∈ WA := wIn 38 (by decide +kernel) (by decide +kernel)
theorem kw39 : (Jvm.Cond.methodLink "TapestrySceneLaw" (66 : Nat) ({ cls := "TapestryScene", name := "nodes", desc := "()I" } : Jvm.MethodName)) ∈ WA := wIn 39 (by decide +kernel) (by decide +kernel)
theorem kw40 : (Jvm.Cond.instanceMethod ({ cls := "TapestryScene", name := "nodes", desc := "()I" } : Jvm.MethodName)) ∈ WA := wIn 40 (by decide +kernel) (by decide +kernel)
theorem kw41 : (Jvm.Cond.selects "TapestryScene" ({ cls := "TapestryScene", name := "nodes", desc := "()I" } : Jvm.MethodName) ({ cls := "TapestryScene", name := "nodes", desc := "()I" } : Jvm.MethodName)) ∈ WA := wIn 41 (by decide +kernel) (by decide +kernel)
theorem kw42 : (Jvm.Cond.code ({ cls := "TapestryScene", name := "nodes", desc := "()I" } : Jvm.MethodName) prog_1_method_12_code (1 : Nat) (Option.some Jvm.ClassFile.FieldType.int)) ∈ WA := wIn 42 (by decide +kernel) (by decide +kernel)
theorem kw43 : (Jvm.Cond.methodLink "TapestrySceneLaw" (79 : Nat) ({ cls := "TapestryScene", name := "parent", desc := "(I)I" } : Jvm.MethodName)) ∈ WA := wIn 43 (by decide +kernel) (by decide +kernel)
theorem kw44 : (Jvm.Cond.instanceMethod ({ cls := "TapestryScene", name := "parent", desc := "(I)I" } : Jvm.MethodName)) ∈ WA := wIn 44 (by decide +kernel) (by decide +kernel)
theorem kw45 : (Jvm.Cond.selects "TapestryScene" ({ cls := "TapestryScene", name := "parent", desc := "(I)I" } : Jvm.MethodName) ({ cls := "TapestryScene", name := "parent", desc := "(I)I" } : Jvm.MethodName)) ∈ WA := wIn 45 (by decide +kernel) (by decide +kernel)
theorem kw46 : (Jvm.Cond.code ({ cls := "TapestryScene", name := "parent", desc := "(I)I" } : Jvm.MethodName) prog_1_method_13_code (2 : Nat) (Option.some Jvm.ClassFile.FieldType.int)) ∈ WA := wIn 46 (by decide +kernel) (by decide +kernel)
theorem kw47 : (Jvm.Cond.methodLink "TapestryScene" (52 : Nat) ({ cls := "TapestryScene", name := "found", desc := "(I)LTapestryScene$Node;" } : Jvm.MethodName)) ∈ WA := wIn 47 (by decide +kernel) (by decide +kernel)
theorem kw49 : (Jvm.Cond.instanceMethod ({ cls := "TapestryScene", name := "found", desc := "(I)LTapestryScene$Node;" } : Jvm.MethodName)) ∈ WA := wIn 49 (by decide +kernel) (by decide +kernel)
theorem kw50 : (Jvm.Cond.instantiable "TapestryScene" (10 : Nat)) ∈ WA := wIn 50 (by decide +kernel) (by decide +kernel)
theorem kw51 : (Jvm.Cond.code ({ cls := "TapestryScene", name := "found", desc := "(I)LTapestryScene$Node;" } : Jvm.MethodName) prog_1_method_41_code (3 : Nat) (Option.some (Jvm.ClassFile.FieldType.object "TapestryScene$Node"))) ∈ WA := wIn 51 (by decide +kernel) (by decide +kernel)
theorem kw52 : (Jvm.Cond.methodLink "TapestryScene" (330 : Nat) ({ cls := "TapestryScene", name := "nodeOrNull", desc := "(I)LTapestryScene$Node;" } : Jvm.MethodName)) ∈ WA := wIn 52 (by decide +kernel) (by decide +kernel)
theorem kw54 : (Jvm.Cond.instanceMethod ({ cls := "TapestryScene", name := "nodeOrNull", desc := "(I)LTapestryScene$Node;" } : Jvm.MethodName)) ∈ WA := wIn 54 (by decide +kernel) (by decide +kernel)
theorem kw55 : (Jvm.Cond.code ({ cls := "TapestryScene", name := "nodeOrNull", desc := "(I)LTapestryScene$Node;" } : Jvm.MethodName) prog_1_method_40_code (3 : Nat) (Option.some (Jvm.ClassFile.FieldType.object "TapestryScene$Node"))) ∈ WA := wIn 55 (by decide +kernel) (by decide +kernel)
theorem kw82 : (Jvm.Cond.instanceMethod ({ cls := "java/lang/Object", name := "<init>", desc := "()V" } : Jvm.MethodName)) ∈ WA := wIn 82 (by decide +kernel) (by decide +kernel)
theorem kw83 : (Jvm.Cond.code ({ cls := "java/lang/Object", name := "<init>", desc := "()V" } : Jvm.MethodName) object_method_1_code (1 : Nat) (Option.none : Option Jvm.ClassFile.FieldType)) ∈ WA := wIn 83 (by decide +kernel) (by decide +kernel)
theorem kw126 : (Jvm.Cond.methodLink "TapestryScene" (170 : Nat) ({ cls := "TapestryScene", name := "parentNumber", desc := "(LTapestryScene$Node;)I" } : Jvm.MethodName)) ∈ WA := wIn 126 (by decide +kernel) (by decide +kernel)
theorem kw127 : (Jvm.Cond.static ({ cls := "TapestryScene", name := "parentNumber", desc := "(LTapestryScene$Node;)I" } : Jvm.MethodName)) ∈ WA := wIn 127 (by decide +kernel) (by decide +kernel)
theorem kw128 : (Jvm.Cond.code ({ cls := "TapestryScene", name := "parentNumber", desc := "(LTapestryScene$Node;)I" } : Jvm.MethodName) prog_1_method_48_code (1 : Nat) (Option.some Jvm.ClassFile.FieldType.int)) ∈ WA := wIn 128 (by decide +kernel) (by decide +kernel)
theorem kw129 : (Jvm.Cond.methodLink "TapestrySceneLaw" (116 : Nat) ({ cls := "TapestryScene", name := "level", desc := "(I)I" } : Jvm.MethodName)) ∈ WA := wIn 129 (by decide +kernel) (by decide +kernel)
theorem kw130 : (Jvm.Cond.instanceMethod ({ cls := "TapestryScene", name := "level", desc := "(I)I" } : Jvm.MethodName)) ∈ WA := wIn 130 (by decide +kernel) (by decide +kernel)
theorem kw131 : (Jvm.Cond.selects "TapestryScene" ({ cls := "TapestryScene", name := "level", desc := "(I)I" } : Jvm.MethodName) ({ cls := "TapestryScene", name := "level", desc := "(I)I" } : Jvm.MethodName)) ∈ WA := wIn 131 (by decide +kernel) (by decide +kernel)
theorem kw132 : (Jvm.Cond.code ({ cls := "TapestryScene", name := "level", desc := "(I)I" } : Jvm.MethodName) prog_1_method_14_code (2 : Nat) (Option.some Jvm.ClassFile.FieldType.int)) ∈ WA := wIn 132 (by decide +kernel) (by decide +kernel)
theorem kw133 : (Jvm.Cond.methodLink "TapestryScene" (69 : Nat) ({ cls := "TapestryScene$Node", name := "depth", desc := "()I" } : Jvm.MethodName)) ∈ WA := wIn 133 (by decide +kernel) (by decide +kernel)
theorem kw134 : (Jvm.Cond.instanceMethod ({ cls := "TapestryScene$Node", name := "depth", desc := "()I" } : Jvm.MethodName)) ∈ WA := wIn 134 (by decide +kernel) (by decide +kernel)
theorem kw135 : (Jvm.Cond.selects "TapestryScene$Node" ({ cls := "TapestryScene$Node", name := "depth", desc := "()I" } : Jvm.MethodName) ({ cls := "TapestryScene$Node", name := "depth", desc := "()I" } : Jvm.MethodName)) ∈ WA := wIn 135 (by decide +kernel) (by decide +kernel)
theorem kw136 : (Jvm.Cond.code ({ cls := "TapestryScene$Node", name := "depth", desc := "()I" } : Jvm.MethodName) prog_6_method_3_code (3 : Nat) (Option.some Jvm.ClassFile.FieldType.int)) ∈ WA := wIn 136 (by decide +kernel) (by decide +kernel)
theorem kw137 : (Jvm.Cond.methodLink "TapestrySceneLaw" (149 : Nat) ({ cls := "TapestryScene", name := "common", desc := "(II)I" } : Jvm.MethodName)) ∈ WA := wIn 137 (by decide +kernel) (by decide +kernel)
theorem kw138 : (Jvm.Cond.instanceMethod ({ cls := "TapestryScene", name := "common", desc := "(II)I" } : Jvm.MethodName)) ∈ WA := wIn 138 (by decide +kernel) (by decide +kernel)
theorem kw139 : (Jvm.Cond.selects "TapestryScene" ({ cls := "TapestryScene", name := "common", desc := "(II)I" } : Jvm.MethodName) ({ cls := "TapestryScene", name := "common", desc := "(II)I" } : Jvm.MethodName)) ∈ WA := wIn 139 (by decide +kernel) (by decide +kernel)
theorem kw140 : (Jvm.Cond.code ({ cls := "TapestryScene", name := "common", desc := "(II)I" } : Jvm.MethodName) prog_1_method_15_code (6 : Nat) (Option.some Jvm.ClassFile.FieldType.int)) ∈ WA := wIn 140 (by decide +kernel) (by decide +kernel)
theorem kw141 : (Jvm.Cond.methodLink "TapestryScene" (91 : Nat) ({ cls := "TapestryScene$Node", name := "isWithin", desc := "(LTapestryScene$Node;)Z" } : Jvm.MethodName)) ∈ WA := wIn 141 (by decide +kernel) (by decide +kernel)
theorem kw142 : (Jvm.Cond.instanceMethod ({ cls := "TapestryScene$Node", name := "isWithin", desc := "(LTapestryScene$Node;)Z" } : Jvm.MethodName)) ∈ WA := wIn 142 (by decide +kernel) (by decide +kernel)
theorem kw143 : (Jvm.Cond.selects "TapestryScene$Node" ({ cls := "TapestryScene$Node", name := "isWithin", desc := "(LTapestryScene$Node;)Z" } : Jvm.MethodName) ({ cls := "TapestryScene$Node", name := "isWithin", desc := "(LTapestryScene$Node;)Z" } : Jvm.MethodName)) ∈ WA := wIn 143 (by decide +kernel) (by decide +kernel)
theorem kw144 : (Jvm.Cond.code ({ cls := "TapestryScene$Node", name := "isWithin", desc := "(LTapestryScene$Node;)Z" } : Jvm.MethodName) prog_6_method_4_code (3 : Nat) (Option.some Jvm.ClassFile.FieldType.boolean)) ∈ WA := wIn 144 (by decide +kernel) (by decide +kernel)
theorem kw145 : (Jvm.Cond.methodLink "TapestrySceneLaw" (54 : Nat) ({ cls := "TapestryScene", name := "setTime", desc := "(I)I" } : Jvm.MethodName)) ∈ WA := wIn 145 (by decide +kernel) (by decide +kernel)
theorem kw146 : (Jvm.Cond.instanceMethod ({ cls := "TapestryScene", name := "setTime", desc := "(I)I" } : Jvm.MethodName)) ∈ WA := wIn 146 (by decide +kernel) (by decide +kernel)
theorem kw147 : (Jvm.Cond.selects "TapestryScene" ({ cls := "TapestryScene", name := "setTime", desc := "(I)I" } : Jvm.MethodName) ({ cls := "TapestryScene", name := "setTime", desc := "(I)I" } : Jvm.MethodName)) ∈ WA := wIn 147 (by decide +kernel) (by decide +kernel)
theorem kw148 : (Jvm.Cond.code ({ cls := "TapestryScene", name := "setTime", desc := "(I)I" } : Jvm.MethodName) prog_1_method_19_code (3 : Nat) (Option.some Jvm.ClassFile.FieldType.int)) ∈ WA := wIn 148 (by decide +kernel) (by decide +kernel)
theorem kw149 : (Jvm.Cond.methodLink "TapestryScene" (228 : Nat) ({ cls := "TapestryScene", name := "checkTime", desc := "(I)V" } : Jvm.MethodName)) ∈ WA := wIn 149 (by decide +kernel) (by decide +kernel)
theorem kw150 : (Jvm.Cond.static ({ cls := "TapestryScene", name := "checkTime", desc := "(I)V" } : Jvm.MethodName)) ∈ WA := wIn 150 (by decide +kernel) (by decide +kernel)
theorem kw151 : (Jvm.Cond.code ({ cls := "TapestryScene", name := "checkTime", desc := "(I)V" } : Jvm.MethodName) prog_1_method_45_code (1 : Nat) (Option.none : Option Jvm.ClassFile.FieldType)) ∈ WA := wIn 151 (by decide +kernel) (by decide +kernel)
theorem kw152 : (Jvm.Cond.methodLink "TapestryScene" (56 : Nat) ({ cls := "TapestryScene", name := "isFrom", desc := "(III)Z" } : Jvm.MethodName)) ∈ WA := wIn 152 (by decide +kernel) (by decide +kernel)
theorem kw153 : (Jvm.Cond.static ({ cls := "TapestryScene", name := "isFrom", desc := "(III)Z" } : Jvm.MethodName)) ∈ WA := wIn 153 (by decide +kernel) (by decide +kernel)
theorem kw154 : (Jvm.Cond.code ({ cls := "TapestryScene", name := "isFrom", desc := "(III)Z" } : Jvm.MethodName) prog_1_method_44_code (3 : Nat) (Option.some Jvm.ClassFile.FieldType.boolean)) ∈ WA := wIn 154 (by decide +kernel) (by decide +kernel)
theorem kw171 : (Jvm.Cond.methodLink "TapestrySceneLaw" (93 : Nat) ({ cls := "TapestryScene", name := "toWhole", desc := "(IIII)I" } : Jvm.MethodName)) ∈ WA := wIn 171 (by decide +kernel) (by decide +kernel)
theorem kw172 : (Jvm.Cond.instanceMethod ({ cls := "TapestryScene", name := "toWhole", desc := "(IIII)I" } : Jvm.MethodName)) ∈ WA := wIn 172 (by decide +kernel) (by decide +kernel)
theorem kw173 : (Jvm.Cond.selects "TapestryScene" ({ cls := "TapestryScene", name := "toWhole", desc := "(IIII)I" } : Jvm.MethodName) ({ cls := "TapestryScene", name := "toWhole", desc := "(IIII)I" } : Jvm.MethodName)) ∈ WA := wIn 173 (by decide +kernel) (by decide +kernel)
theorem kw174 : (Jvm.Cond.code ({ cls := "TapestryScene", name := "toWhole", desc := "(IIII)I" } : Jvm.MethodName) prog_1_method_23_code (6 : Nat) (Option.some Jvm.ClassFile.FieldType.int)) ∈ WA := wIn 174 (by decide +kernel) (by decide +kernel)
theorem kw175 : (Jvm.Cond.methodLink "TapestryScene" (244 : Nat) ({ cls := "TapestryScene", name := "checkPoint", desc := "(III)V" } : Jvm.MethodName)) ∈ WA := wIn 175 (by decide +kernel) (by decide +kernel)
theorem kw176 : (Jvm.Cond.static ({ cls := "TapestryScene", name := "checkPoint", desc := "(III)V" } : Jvm.MethodName)) ∈ WA := wIn 176 (by decide +kernel) (by decide +kernel)
theorem kw177 : (Jvm.Cond.code ({ cls := "TapestryScene", name := "checkPoint", desc := "(III)V" } : Jvm.MethodName) prog_1_method_46_code (3 : Nat) (Option.none : Option Jvm.ClassFile.FieldType)) ∈ WA := wIn 177 (by decide +kernel) (by decide +kernel)
theorem kw180 : (Jvm.Cond.methodLink "TapestryScene" (248 : Nat) ({ cls := "TapestryScene", name := "raise", desc := "(LTapestryScene$Node;II)V" } : Jvm.MethodName)) ∈ WA := wIn 180 (by decide +kernel) (by decide +kernel)
theorem kw182 : (Jvm.Cond.instanceMethod ({ cls := "TapestryScene", name := "raise", desc := "(LTapestryScene$Node;II)V" } : Jvm.MethodName)) ∈ WA := wIn 182 (by decide +kernel) (by decide +kernel)
theorem kw183 : (Jvm.Cond.code ({ cls := "TapestryScene", name := "raise", desc := "(LTapestryScene$Node;II)V" } : Jvm.MethodName) prog_1_method_53_code (5 : Nat) (Option.none : Option Jvm.ClassFile.FieldType)) ∈ WA := wIn 183 (by decide +kernel) (by decide +kernel)
theorem kw184 : (Jvm.Cond.methodLink "TapestryScene" (256 : Nat) ({ cls := "TapestryScene$Point", name := "set", desc := "(JJJ)V" } : Jvm.MethodName)) ∈ WA := wIn 184 (by decide +kernel) (by decide +kernel)
theorem kw185 : (Jvm.Cond.instanceMethod ({ cls := "TapestryScene$Point", name := "set", desc := "(JJJ)V" } : Jvm.MethodName)) ∈ WA := wIn 185 (by decide +kernel) (by decide +kernel)
theorem kw186 : (Jvm.Cond.selects "TapestryScene$Point" ({ cls := "TapestryScene$Point", name := "set", desc := "(JJJ)V" } : Jvm.MethodName) ({ cls := "TapestryScene$Point", name := "set", desc := "(JJJ)V" } : Jvm.MethodName)) ∈ WA := wIn 186 (by decide +kernel) (by decide +kernel)
theorem kw187 : (Jvm.Cond.code ({ cls := "TapestryScene$Point", name := "set", desc := "(JJJ)V" } : Jvm.MethodName) prog_7_method_2_code (7 : Nat) (Option.none : Option Jvm.ClassFile.FieldType)) ∈ WA := wIn 187 (by decide +kernel) (by decide +kernel)
theorem kw188 : (Jvm.Cond.methodLink "TapestryScene" (376 : Nat) ({ cls := "TapestryScene$Point", name := "leave", desc := "(LTapestryScene$Node;I)V" } : Jvm.MethodName)) ∈ WA := wIn 188 (by decide +kernel) (by decide +kernel)
theorem kw189 : (Jvm.Cond.instanceMethod ({ cls := "TapestryScene$Point", name := "leave", desc := "(LTapestryScene$Node;I)V" } : Jvm.MethodName)) ∈ WA := wIn 189 (by decide +kernel) (by decide +kernel)
theorem kw190 : (Jvm.Cond.selects "TapestryScene$Point" ({ cls := "TapestryScene$Point", name := "leave", desc := "(LTapestryScene$Node;I)V" } : Jvm.MethodName) ({ cls := "TapestryScene$Point", name := "leave", desc := "(LTapestryScene$Node;I)V" } : Jvm.MethodName)) ∈ WA := wIn 190 (by decide +kernel) (by decide +kernel)
theorem kw191 : (Jvm.Cond.code ({ cls := "TapestryScene$Point", name := "leave", desc := "(LTapestryScene$Node;I)V" } : Jvm.MethodName) prog_7_method_3_code (3 : Nat) (Option.none : Option Jvm.ClassFile.FieldType)) ∈ WA := wIn 191 (by decide +kernel) (by decide +kernel)
theorem kw192 : (Jvm.Cond.methodLink "TapestryScene$Point" (40 : Nat) ({ cls := "TapestryScene$Property", name := "at", desc := "(I)I" } : Jvm.MethodName)) ∈ WA := wIn 192 (by decide +kernel) (by decide +kernel)
theorem kw193 : (Jvm.Cond.instanceMethod ({ cls := "TapestryScene$Property", name := "at", desc := "(I)I" } : Jvm.MethodName)) ∈ WA := wIn 193 (by decide +kernel) (by decide +kernel)
theorem kw194 : (Jvm.Cond.selects "TapestryScene$Property" ({ cls := "TapestryScene$Property", name := "at", desc := "(I)I" } : Jvm.MethodName) ({ cls := "TapestryScene$Property", name := "at", desc := "(I)I" } : Jvm.MethodName)) ∈ WA := wIn 194 (by decide +kernel) (by decide +kernel)
theorem kw195 : (Jvm.Cond.code ({ cls := "TapestryScene$Property", name := "at", desc := "(I)I" } : Jvm.MethodName) prog_8_method_9_code (4 : Nat) (Option.some Jvm.ClassFile.FieldType.int)) ∈ WA := wIn 195 (by decide +kernel) (by decide +kernel)
theorem kw196 : (Jvm.Cond.methodLink "TapestryScene$Property" (25 : Nat) ({ cls := "TapestryScene$Property", name := "lastKeyUpTo", desc := "(I)LTapestryScene$Key;" } : Jvm.MethodName)) ∈ WA := wIn 196 (by decide +kernel) (by decide +kernel)
theorem kw198 : (Jvm.Cond.instanceMethod ({ cls := "TapestryScene$Property", name := "lastKeyUpTo", desc := "(I)LTapestryScene$Key;" } : Jvm.MethodName)) ∈ WA := wIn 198 (by decide +kernel) (by decide +kernel)
theorem kw199 : (Jvm.Cond.instantiable "TapestryScene$Property" (9 : Nat)) ∈ WA := wIn 199 (by decide +kernel) (by decide +kernel)
theorem kw200 : (Jvm.Cond.code ({ cls := "TapestryScene$Property", name := "lastKeyUpTo", desc := "(I)LTapestryScene$Key;" } : Jvm.MethodName) prog_8_method_12_code (4 : Nat) (Option.some (Jvm.ClassFile.FieldType.object "TapestryScene$Key"))) ∈ WA := wIn 200 (by decide +kernel) (by decide +kernel)
theorem kw201 : (Jvm.Cond.methodLink "TapestryScene$Property" (58 : Nat) ({ cls := "TapestryScene$Property", name := "countedTime", desc := "(III)I" } : Jvm.MethodName)) ∈ WA := wIn 201 (by decide +kernel) (by decide +kernel)
theorem kw203 : (Jvm.Cond.instanceMethod ({ cls := "TapestryScene$Property", name := "countedTime", desc := "(III)I" } : Jvm.MethodName)) ∈ WA := wIn 203 (by decide +kernel) (by decide +kernel)
theorem kw204 : (Jvm.Cond.code ({ cls := "TapestryScene$Property", name := "countedTime", desc := "(III)I" } : Jvm.MethodName) prog_8_method_10_code (7 : Nat) (Option.some Jvm.ClassFile.FieldType.int)) ∈ WA := wIn 204 (by decide +kernel) (by decide +kernel)
theorem kw205 : (Jvm.Cond.methodLink "TapestryScene$Property" (62 : Nat) ({ cls := "TapestryScene$Property", name := "valueFrom", desc := "(LTapestryScene$Key;I)I" } : Jvm.MethodName)) ∈ WA := wIn 205 (by decide +kernel) (by decide +kernel)
theorem kw207 : (Jvm.Cond.instanceMethod ({ cls := "TapestryScene$Property", name := "valueFrom", desc := "(LTapestryScene$Key;I)I" } : Jvm.MethodName)) ∈ WA := wIn 207 (by decide +kernel) (by decide +kernel)
theorem kw208 : (Jvm.Cond.code ({ cls := "TapestryScene$Property", name := "valueFrom", desc := "(LTapestryScene$Key;I)I" } : Jvm.MethodName) prog_8_method_11_code (10 : Nat) (Option.some Jvm.ClassFile.FieldType.int)) ∈ WA := wIn 208 (by decide +kernel) (by decide +kernel)
theorem kw209 : (Jvm.Cond.constantLong "TapestryScene$Property" (72 : Nat) (3 : Int64)) ∈ WA := wIn 209 (by decide +kernel) (by decide +kernel)
theorem kw210 : (Jvm.Cond.constantLong "TapestryScene$Property" (74 : Nat) (2 : Int64)) ∈ WA := wIn 210 (by decide +kernel) (by decide +kernel)
theorem kw211 : (Jvm.Cond.methodLink "TapestryScene$Point" (46 : Nat) ({ cls := "TapestryScene$Point", name := "turnQuarters", desc := "(I)V" } : Jvm.MethodName)) ∈ WA := wIn 211 (by decide +kernel) (by decide +kernel)
theorem kw213 : (Jvm.Cond.instanceMethod ({ cls := "TapestryScene$Point", name := "turnQuarters", desc := "(I)V" } : Jvm.MethodName)) ∈ WA := wIn 213 (by decide +kernel) (by decide +kernel)
theorem kw214 : (Jvm.Cond.instantiable "TapestryScene$Point" (4 : Nat)) ∈ WA := wIn 214 (by decide +kernel) (by decide +kernel)
theorem kw215 : (Jvm.Cond.code ({ cls := "TapestryScene$Point", name := "turnQuarters", desc := "(I)V" } : Jvm.MethodName) prog_7_method_5_code (5 : Nat) (Option.none : Option Jvm.ClassFile.FieldType)) ∈ WA := wIn 215 (by decide +kernel) (by decide +kernel)
theorem kw216 : (Jvm.Cond.methodLink "TapestryScene" (252 : Nat) ({ cls := "TapestryScene$Point", name := "part", desc := "(I)J" } : Jvm.MethodName)) ∈ WA := wIn 216 (by decide +kernel) (by decide +kernel)
theorem kw217 : (Jvm.Cond.instanceMethod ({ cls := "TapestryScene$Point", name := "part", desc := "(I)J" } : Jvm.MethodName)) ∈ WA := wIn 217 (by decide +kernel) (by decide +kernel)
theorem kw218 : (Jvm.Cond.selects "TapestryScene$Point" ({ cls := "TapestryScene$Point", name := "part", desc := "(I)J" } : Jvm.MethodName) ({ cls := "TapestryScene$Point", name := "part", desc := "(I)J" } : Jvm.MethodName)) ∈ WA := wIn 218 (by decide +kernel) (by decide +kernel)
theorem kw219 : (Jvm.Cond.code ({ cls := "TapestryScene$Point", name := "part", desc := "(I)J" } : Jvm.MethodName) prog_7_method_6_code (6 : Nat) (Option.some Jvm.ClassFile.FieldType.long)) ∈ WA := wIn 219 (by decide +kernel) (by decide +kernel)
theorem kw221 : (Jvm.Cond.static ({ cls := "TapestryScene", name := "commonDivisor", desc := "(JJ)J" } : Jvm.MethodName)) ∈ WA := wIn 221 (by decide +kernel) (by decide +kernel)
theorem kw222 : (Jvm.Cond.code ({ cls := "TapestryScene", name := "commonDivisor", desc := "(JJ)J" } : Jvm.MethodName) prog_1_method_63_code (11 : Nat) (Option.some Jvm.ClassFile.FieldType.long)) ∈ WA := wIn 222 (by decide +kernel) (by decide +kernel)
theorem kw223 : (Jvm.Cond.methodLink "TapestrySceneLaw" (99 : Nat) ({ cls := "TapestryScene", name := "fromWhole", desc := "(IIII)I" } : Jvm.MethodName)) ∈ WA := wIn 223 (by decide +kernel) (by decide +kernel)
theorem kw224 : (Jvm.Cond.instanceMethod ({ cls := "TapestryScene", name := "fromWhole", desc := "(IIII)I" } : Jvm.MethodName)) ∈ WA := wIn 224 (by decide +kernel) (by decide +kernel)
theorem kw225 : (Jvm.Cond.selects "TapestryScene" ({ cls := "TapestryScene", name := "fromWhole", desc := "(IIII)I" } : Jvm.MethodName) ({ cls := "TapestryScene", name := "fromWhole", desc := "(IIII)I" } : Jvm.MethodName)) ∈ WA := wIn 225 (by decide +kernel) (by decide +kernel)
theorem kw226 : (Jvm.Cond.code ({ cls := "TapestryScene", name := "fromWhole", desc := "(IIII)I" } : Jvm.MethodName) prog_1_method_24_code (6 : Nat) (Option.some Jvm.ClassFile.FieldType.int)) ∈ WA := wIn 226 (by decide +kernel) (by decide +kernel)
theorem kw227 : (Jvm.Cond.methodLink "TapestryScene" (260 : Nat) ({ cls := "TapestryScene", name := "sink", desc := "(LTapestryScene$Point;LTapestryScene$Node;II)V" } : Jvm.MethodName)) ∈ WA := wIn 227 (by decide +kernel) (by decide +kernel)
theorem kw228 : (Jvm.Cond.static ({ cls := "TapestryScene", name := "sink", desc := "(LTapestryScene$Point;LTapestryScene$Node;II)V" } : Jvm.MethodName)) ∈ WA := wIn 228 (by decide +kernel) (by decide +kernel)
theorem kw229 : (Jvm.Cond.code ({ cls := "TapestryScene", name := "sink", desc := "(LTapestryScene$Point;LTapestryScene$Node;II)V" } : Jvm.MethodName) prog_1_method_54_code (4 : Nat) (Option.none : Option Jvm.ClassFile.FieldType)) ∈ WA := wIn 229 (by decide +kernel) (by decide +kernel)
theorem kw230 : (Jvm.Cond.methodLink "TapestryScene" (379 : Nat) ({ cls := "TapestryScene$Point", name := "enter", desc := "(LTapestryScene$Node;I)V" } : Jvm.MethodName)) ∈ WA := wIn 230 (by decide +kernel) (by decide +kernel)
theorem kw231 : (Jvm.Cond.instanceMethod ({ cls := "TapestryScene$Point", name := "enter", desc := "(LTapestryScene$Node;I)V" } : Jvm.MethodName)) ∈ WA := wIn 231 (by decide +kernel) (by decide +kernel)
theorem kw232 : (Jvm.Cond.selects "TapestryScene$Point" ({ cls := "TapestryScene$Point", name := "enter", desc := "(LTapestryScene$Node;I)V" } : Jvm.MethodName) ({ cls := "TapestryScene$Point", name := "enter", desc := "(LTapestryScene$Node;I)V" } : Jvm.MethodName)) ∈ WA := wIn 232 (by decide +kernel) (by decide +kernel)
theorem kw233 : (Jvm.Cond.code ({ cls := "TapestryScene$Point", name := "enter", desc := "(LTapestryScene$Node;I)V" } : Jvm.MethodName) prog_7_method_4_code (3 : Nat) (Option.none : Option Jvm.ClassFile.FieldType)) ∈ WA := wIn 233 (by decide +kernel) (by decide +kernel)
theorem kw234 : (Jvm.Cond.methodLink "TapestryScene$Point" (58 : Nat) ({ cls := "TapestryScene$Frame", name := "holds", desc := "(LTapestryScene$Point;)Z" } : Jvm.MethodName)) ∈ WA := wIn 234 (by decide +kernel) (by decide +kernel)
theorem kw235 : (Jvm.Cond.instanceMethod ({ cls := "TapestryScene$Frame", name := "holds", desc := "(LTapestryScene$Point;)Z" } : Jvm.MethodName)) ∈ WA := wIn 235 (by decide +kernel) (by decide +kernel)
theorem kw236 : (Jvm.Cond.selects "TapestryScene$Frame" ({ cls := "TapestryScene$Frame", name := "holds", desc := "(LTapestryScene$Point;)Z" } : Jvm.MethodName) ({ cls := "TapestryScene$Frame", name := "holds", desc := "(LTapestryScene$Point;)Z" } : Jvm.MethodName)) ∈ WA := wIn 236 (by decide +kernel) (by decide +kernel)
theorem kw237 : (Jvm.Cond.code ({ cls := "TapestryScene$Frame", name := "holds", desc := "(LTapestryScene$Point;)Z" } : Jvm.MethodName) prog_4_method_2_code (2 : Nat) (Option.some Jvm.ClassFile.FieldType.boolean)) ∈ WA := wIn 237 (by decide +kernel) (by decide +kernel)
theorem kw238 : (Jvm.Cond.methodLink "TapestrySceneLaw" (102 : Nat) ({ cls := "TapestryScene", name := "between", desc := "(IIIII)I" } : Jvm.MethodName)) ∈ WA := wIn 238 (by decide +kernel) (by decide +kernel)
theorem kw239 : (Jvm.Cond.instanceMethod ({ cls := "TapestryScene", name := "between", desc := "(IIIII)I" } : Jvm.MethodName)) ∈ WA := wIn 239 (by decide +kernel) (by decide +kernel)
theorem kw240 : (Jvm.Cond.selects "TapestryScene" ({ cls := "TapestryScene", name := "between", desc := "(IIIII)I" } : Jvm.MethodName) ({ cls := "TapestryScene", name := "between", desc := "(IIIII)I" } : Jvm.MethodName)) ∈ WA := wIn 240 (by decide +kernel) (by decide +kernel)
theorem kw241 : (Jvm.Cond.code ({ cls := "TapestryScene", name := "between", desc := "(IIIII)I" } : Jvm.MethodName) prog_1_method_25_code (8 : Nat) (Option.some Jvm.ClassFile.FieldType.int)) ∈ WA := wIn 241 (by decide +kernel) (by decide +kernel)
theorem kw242 : (Jvm.Cond.methodLink "TapestrySceneLaw" (126 : Nat) ({ cls := "TapestryScene", name := "bound", desc := "(IIZ)I" } : Jvm.MethodName)) ∈ WA := wIn 242 (by decide +kernel) (by decide +kernel)
theorem kw243 : (Jvm.Cond.instanceMethod ({ cls := "TapestryScene", name := "bound", desc := "(IIZ)I" } : Jvm.MethodName)) ∈ WA := wIn 243 (by decide +kernel) (by decide +kernel)
theorem kw244 : (Jvm.Cond.selects "TapestryScene" ({ cls := "TapestryScene", name := "bound", desc := "(IIZ)I" } : Jvm.MethodName) ({ cls := "TapestryScene", name := "bound", desc := "(IIZ)I" } : Jvm.MethodName)) ∈ WA := wIn 244 (by decide +kernel) (by decide +kernel)
theorem kw245 : (Jvm.Cond.code ({ cls := "TapestryScene", name := "bound", desc := "(IIZ)I" } : Jvm.MethodName) prog_1_method_26_code (6 : Nat) (Option.some Jvm.ClassFile.FieldType.int)) ∈ WA := wIn 245 (by decide +kernel) (by decide +kernel)
theorem kw247 : (Jvm.Cond.methodLink "TapestryScene" (266 : Nat) ({ cls := "TapestryScene", name := "gatherBounds", desc := "(LTapestryScene$Node;)V" } : Jvm.MethodName)) ∈ WA := wIn 247 (by decide +kernel) (by decide +kernel)
theorem kw249 : (Jvm.Cond.instanceMethod ({ cls := "TapestryScene", name := "gatherBounds", desc := "(LTapestryScene$Node;)V" } : Jvm.MethodName)) ∈ WA := wIn 249 (by decide +kernel) (by decide +kernel)
theorem kw250 : (Jvm.Cond.code ({ cls := "TapestryScene", name := "gatherBounds", desc := "(LTapestryScene$Node;)V" } : Jvm.MethodName) prog_1_method_55_code (3 : Nat) (Option.none : Option Jvm.ClassFile.FieldType)) ∈ WA := wIn 250 (by decide +kernel) (by decide +kernel)
theorem kw251 : (Jvm.Cond.methodLink "TapestryScene" (382 : Nat) ({ cls := "TapestryScene$Bounds", name := "clear", desc := "()V" } : Jvm.MethodName)) ∈ WA := wIn 251 (by decide +kernel) (by decide +kernel)
theorem kw252 : (Jvm.Cond.instanceMethod ({ cls := "TapestryScene$Bounds", name := "clear", desc := "()V" } : Jvm.MethodName)) ∈ WA := wIn 252 (by decide +kernel) (by decide +kernel)
theorem kw253 : (Jvm.Cond.selects "TapestryScene$Bounds" ({ cls := "TapestryScene$Bounds", name := "clear", desc := "()V" } : Jvm.MethodName) ({ cls := "TapestryScene$Bounds", name := "clear", desc := "()V" } : Jvm.MethodName)) ∈ WA := wIn 253 (by decide +kernel) (by decide +kernel)
theorem kw254 : (Jvm.Cond.code ({ cls := "TapestryScene$Bounds", name := "clear", desc := "()V" } : Jvm.MethodName) prog_2_method_2_code (1 : Nat) (Option.none : Option Jvm.ClassFile.FieldType)) ∈ WA := wIn 254 (by decide +kernel) (by decide +kernel)
theorem kw255 : (Jvm.Cond.methodLink "TapestryScene$Bounds" (25 : Nat) ({ cls := "TapestryScene$Fraction", name := "set", desc := "(JJ)V" } : Jvm.MethodName)) ∈ WA := wIn 255 (by decide +kernel) (by decide +kernel)
theorem kw256 : (Jvm.Cond.instanceMethod ({ cls := "TapestryScene$Fraction", name := "set", desc := "(JJ)V" } : Jvm.MethodName)) ∈ WA := wIn 256 (by decide +kernel) (by decide +kernel)
theorem kw257 : (Jvm.Cond.selects "TapestryScene$Fraction" ({ cls := "TapestryScene$Fraction", name := "set", desc := "(JJ)V" } : Jvm.MethodName) ({ cls := "TapestryScene$Fraction", name := "set", desc := "(JJ)V" } : Jvm.MethodName)) ∈ WA := wIn 257 (by decide +kernel) (by decide +kernel)
theorem kw258 : (Jvm.Cond.code ({ cls := "TapestryScene$Fraction", name := "set", desc := "(JJ)V" } : Jvm.MethodName) prog_3_method_2_code (7 : Nat) (Option.none : Option Jvm.ClassFile.FieldType)) ∈ WA := wIn 258 (by decide +kernel) (by decide +kernel)
theorem kw260 : (Jvm.Cond.methodLink "TapestryScene" (280 : Nat) ({ cls := "TapestryScene$Node", name := "isShownAt", desc := "(I)Z" } : Jvm.MethodName)) ∈ WA := wIn 260 (by decide +kernel) (by decide +kernel)
theorem kw261 : (Jvm.Cond.instanceMethod ({ cls := "TapestryScene$Node", name := "isShownAt", desc := "(I)Z" } : Jvm.MethodName)) ∈ WA := wIn 261 (by decide +kernel) (by decide +kernel)
theorem kw262 : (Jvm.Cond.selects "TapestryScene$Node" ({ cls := "TapestryScene$Node", name := "isShownAt", desc := "(I)Z" } : Jvm.MethodName) ({ cls := "TapestryScene$Node", name := "isShownAt", desc := "(I)Z" } : Jvm.MethodName)) ∈ WA := wIn 262 (by decide +kernel) (by decide +kernel)
theorem kw263 : (Jvm.Cond.code ({ cls := "TapestryScene$Node", name := "isShownAt", desc := "(I)Z" } : Jvm.MethodName) prog_6_method_9_code (3 : Nat) (Option.some Jvm.ClassFile.FieldType.boolean)) ∈ WA := wIn 263 (by decide +kernel) (by decide +kernel)
theorem kw264 : (Jvm.Cond.methodLink "TapestryScene$Node" (71 : Nat) ({ cls := "TapestryScene$Property", name := "at", desc := "(I)I" } : Jvm.MethodName)) ∈ WA := wIn 264 (by decide +kernel) (by decide +kernel)
theorem kw265 : (Jvm.Cond.methodLink "TapestryScene" (397 : Nat) ({ cls := "TapestryScene$Bounds", name := "include", desc := "(LTapestryScene$Point;)V" } : Jvm.MethodName)) ∈ WA := wIn 265 (by decide +kernel) (by decide +kernel)
theorem kw266 : (Jvm.Cond.instanceMethod ({ cls := "TapestryScene$Bounds", name := "include", desc := "(LTapestryScene$Point;)V" } : Jvm.MethodName)) ∈ WA := wIn 266 (by decide +kernel) (by decide +kernel)
theorem kw267 : (Jvm.Cond.selects "TapestryScene$Bounds" ({ cls := "TapestryScene$Bounds", name := "include", desc := "(LTapestryScene$Point;)V" } : Jvm.MethodName) ({ cls := "TapestryScene$Bounds", name := "include", desc := "(LTapestryScene$Point;)V" } : Jvm.MethodName)) ∈ WA := wIn 267 (by decide +kernel) (by decide +kernel)
theorem kw268 : (Jvm.Cond.code ({ cls := "TapestryScene$Bounds", name := "include", desc := "(LTapestryScene$Point;)V" } : Jvm.MethodName) prog_2_method_3_code (2 : Nat) (Option.none : Option Jvm.ClassFile.FieldType)) ∈ WA := wIn 268 (by decide +kernel) (by decide +kernel)
theorem kw269 : (Jvm.Cond.methodLink "TapestryScene$Bounds" (38 : Nat) ({ cls := "TapestryScene$Fraction", name := "lowerTo", desc := "(JJ)V" } : Jvm.MethodName)) ∈ WA := wIn 269 (by decide +kernel) (by decide +kernel)
theorem kw270 : (Jvm.Cond.instanceMethod ({ cls := "TapestryScene$Fraction", name := "lowerTo", desc := "(JJ)V" } : Jvm.MethodName)) ∈ WA := wIn 270 (by decide +kernel) (by decide +kernel)
theorem kw271 : (Jvm.Cond.selects "TapestryScene$Fraction" ({ cls := "TapestryScene$Fraction", name := "lowerTo", desc := "(JJ)V" } : Jvm.MethodName) ({ cls := "TapestryScene$Fraction", name := "lowerTo", desc := "(JJ)V" } : Jvm.MethodName)) ∈ WA := wIn 271 (by decide +kernel) (by decide +kernel)
theorem kw272 : (Jvm.Cond.code ({ cls := "TapestryScene$Fraction", name := "lowerTo", desc := "(JJ)V" } : Jvm.MethodName) prog_3_method_3_code (5 : Nat) (Option.none : Option Jvm.ClassFile.FieldType)) ∈ WA := wIn 272 (by decide +kernel) (by decide +kernel)
theorem kw273 : (Jvm.Cond.methodLink "TapestryScene$Fraction" (22 : Nat) ({ cls := "TapestryScene$Fraction", name := "set", desc := "(JJ)V" } : Jvm.MethodName)) ∈ WA := wIn 273 (by decide +kernel) (by decide +kernel)
theorem kw274 : (Jvm.Cond.methodLink "TapestryScene$Bounds" (44 : Nat) ({ cls := "TapestryScene$Fraction", name := "raiseTo", desc := "(JJ)V" } : Jvm.MethodName)) ∈ WA := wIn 274 (by decide +kernel) (by decide +kernel)
theorem kw275 : (Jvm.Cond.instanceMethod ({ cls := "TapestryScene$Fraction", name := "raiseTo", desc := "(JJ)V" } : Jvm.MethodName)) ∈ WA := wIn 275 (by decide +kernel) (by decide +kernel)
theorem kw276 : (Jvm.Cond.selects "TapestryScene$Fraction" ({ cls := "TapestryScene$Fraction", name := "raiseTo", desc := "(JJ)V" } : Jvm.MethodName) ({ cls := "TapestryScene$Fraction", name := "raiseTo", desc := "(JJ)V" } : Jvm.MethodName)) ∈ WA := wIn 276 (by decide +kernel) (by decide +kernel)
theorem kw277 : (Jvm.Cond.code ({ cls := "TapestryScene$Fraction", name := "raiseTo", desc := "(JJ)V" } : Jvm.MethodName) prog_3_method_4_code (5 : Nat) (Option.none : Option Jvm.ClassFile.FieldType)) ∈ WA := wIn 277 (by decide +kernel) (by decide +kernel)
theorem kw278 : (Jvm.Cond.methodLink "TapestryScene" (269 : Nat) ({ cls := "TapestryScene$Bounds", name := "side", desc := "(I)LTapestryScene$Fraction;" } : Jvm.MethodName)) ∈ WA := wIn 278 (by decide +kernel) (by decide +kernel)
theorem kw279 : (Jvm.Cond.instanceMethod ({ cls := "TapestryScene$Bounds", name := "side", desc := "(I)LTapestryScene$Fraction;" } : Jvm.MethodName)) ∈ WA := wIn 279 (by decide +kernel) (by decide +kernel)
theorem kw280 : (Jvm.Cond.selects "TapestryScene$Bounds" ({ cls := "TapestryScene$Bounds", name := "side", desc := "(I)LTapestryScene$Fraction;" } : Jvm.MethodName) ({ cls := "TapestryScene$Bounds", name := "side", desc := "(I)LTapestryScene$Fraction;" } : Jvm.MethodName)) ∈ WA := wIn 280 (by decide +kernel) (by decide +kernel)
theorem kw281 : (Jvm.Cond.code ({ cls := "TapestryScene$Bounds", name := "side", desc := "(I)LTapestryScene$Fraction;" } : Jvm.MethodName) prog_2_method_4_code (2 : Nat) (Option.some (Jvm.ClassFile.FieldType.object "TapestryScene$Fraction"))) ∈ WA := wIn 281 (by decide +kernel) (by decide +kernel)
theorem kw282 : (Jvm.Cond.methodLink "TapestrySceneLaw" (106 : Nat) ({ cls := "TapestryScene", name := "isShown", desc := "(I)Z" } : Jvm.MethodName)) ∈ WA := wIn 282 (by decide +kernel) (by decide +kernel)
theorem kw283 : (Jvm.Cond.instanceMethod ({ cls := "TapestryScene", name := "isShown", desc := "(I)Z" } : Jvm.MethodName)) ∈ WA := wIn 283 (by decide +kernel) (by decide +kernel)
theorem kw284 : (Jvm.Cond.selects "TapestryScene" ({ cls := "TapestryScene", name := "isShown", desc := "(I)Z" } : Jvm.MethodName) ({ cls := "TapestryScene", name := "isShown", desc := "(I)Z" } : Jvm.MethodName)) ∈ WA := wIn 284 (by decide +kernel) (by decide +kernel)
theorem kw285 : (Jvm.Cond.code ({ cls := "TapestryScene", name := "isShown", desc := "(I)Z" } : Jvm.MethodName) prog_1_method_27_code (2 : Nat) (Option.some Jvm.ClassFile.FieldType.boolean)) ∈ WA := wIn 285 (by decide +kernel) (by decide +kernel)
theorem kw286 : (Jvm.Cond.methodLink "TapestrySceneLaw" (109 : Nat) ({ cls := "TapestryScene", name := "strength", desc := "(I)I" } : Jvm.MethodName)) ∈ WA := wIn 286 (by decide +kernel) (by decide +kernel)
theorem kw287 : (Jvm.Cond.instanceMethod ({ cls := "TapestryScene", name := "strength", desc := "(I)I" } : Jvm.MethodName)) ∈ WA := wIn 287 (by decide +kernel) (by decide +kernel)
theorem kw288 : (Jvm.Cond.selects "TapestryScene" ({ cls := "TapestryScene", name := "strength", desc := "(I)I" } : Jvm.MethodName) ({ cls := "TapestryScene", name := "strength", desc := "(I)I" } : Jvm.MethodName)) ∈ WA := wIn 288 (by decide +kernel) (by decide +kernel)
theorem kw289 : (Jvm.Cond.code ({ cls := "TapestryScene", name := "strength", desc := "(I)I" } : Jvm.MethodName) prog_1_method_28_code (2 : Nat) (Option.some Jvm.ClassFile.FieldType.int)) ∈ WA := wIn 289 (by decide +kernel) (by decide +kernel)
theorem kw290 : (Jvm.Cond.methodLink "TapestryScene" (283 : Nat) ({ cls := "TapestryScene", name := "strengthOf", desc := "(LTapestryScene$Node;II)I" } : Jvm.MethodName)) ∈ WA := wIn 290 (by decide +kernel) (by decide +kernel)
theorem kw291 : (Jvm.Cond.static ({ cls := "TapestryScene", name := "strengthOf", desc := "(LTapestryScene$Node;II)I" } : Jvm.MethodName)) ∈ WA := wIn 291 (by decide +kernel) (by decide +kernel)
theorem kw292 : (Jvm.Cond.code ({ cls := "TapestryScene", name := "strengthOf", desc := "(LTapestryScene$Node;II)I" } : Jvm.MethodName) prog_1_method_56_code (5 : Nat) (Option.some Jvm.ClassFile.FieldType.int)) ∈ WA := wIn 292 (by decide +kernel) (by decide +kernel)
theorem kw293 : (Jvm.Cond.methodLink "TapestryScene" (237 : Nat) ({ cls := "TapestryScene$Property", name := "at", desc := "(I)I" } : Jvm.MethodName)) ∈ WA := wIn 293 (by decide +kernel) (by decide +kernel)
theorem kw294 : (Jvm.Cond.methodLink "TapestrySceneLaw" (73 : Nat) ({ cls := "TapestryScene", name := "orderAt", desc := "(I)I" } : Jvm.MethodName)) ∈ WA := wIn 294 (by decide +kernel) (by decide +kernel)
theorem kw295 : (Jvm.Cond.instanceMethod ({ cls := "TapestryScene", name := "orderAt", desc := "(I)I" } : Jvm.MethodName)) ∈ WA := wIn 295 (by decide +kernel) (by decide +kernel)
theorem kw296 : (Jvm.Cond.selects "TapestryScene" ({ cls := "TapestryScene", name := "orderAt", desc := "(I)I" } : Jvm.MethodName) ({ cls := "TapestryScene", name := "orderAt", desc := "(I)I" } : Jvm.MethodName)) ∈ WA := wIn 296 (by decide +kernel) (by decide +kernel)
theorem kw297 : (Jvm.Cond.code ({ cls := "TapestryScene", name := "orderAt", desc := "(I)I" } : Jvm.MethodName) prog_1_method_29_code (3 : Nat) (Option.some Jvm.ClassFile.FieldType.int)) ∈ WA := wIn 297 (by decide +kernel) (by decide +kernel)
theorem kw299 : (Jvm.Cond.methodLink "TapestrySceneLaw" (76 : Nat) ({ cls := "TapestryScene", name := "placeOf", desc := "(I)I" } : Jvm.MethodName)) ∈ WA := wIn 299 (by decide +kernel) (by decide +kernel)
theorem kw300 : (Jvm.Cond.instanceMethod ({ cls := "TapestryScene", name := "placeOf", desc := "(I)I" } : Jvm.MethodName)) ∈ WA := wIn 300 (by decide +kernel) (by decide +kernel)
theorem kw301 : (Jvm.Cond.selects "TapestryScene" ({ cls := "TapestryScene", name := "placeOf", desc := "(I)I" } : Jvm.MethodName) ({ cls := "TapestryScene", name := "placeOf", desc := "(I)I" } : Jvm.MethodName)) ∈ WA := wIn 301 (by decide +kernel) (by decide +kernel)
theorem kw302 : (Jvm.Cond.code ({ cls := "TapestryScene", name := "placeOf", desc := "(I)I" } : Jvm.MethodName) prog_1_method_30_code (2 : Nat) (Option.some Jvm.ClassFile.FieldType.int)) ∈ WA := wIn 302 (by decide +kernel) (by decide +kernel)
theorem kw303 : (Jvm.Cond.methodLink "TapestrySceneLaw" (112 : Nat) ({ cls := "TapestryScene", name := "covers", desc := "(IIII)Z" } : Jvm.MethodName)) ∈ WA := wIn 303 (by decide +kernel) (by decide +kernel)
theorem kw304 : (Jvm.Cond.instanceMethod ({ cls := "TapestryScene", name := "covers", desc := "(IIII)Z" } : Jvm.MethodName)) ∈ WA := wIn 304 (by decide +kernel) (by decide +kernel)
theorem kw305 : (Jvm.Cond.selects "TapestryScene" ({ cls := "TapestryScene", name := "covers", desc := "(IIII)Z" } : Jvm.MethodName) ({ cls := "TapestryScene", name := "covers", desc := "(IIII)Z" } : Jvm.MethodName)) ∈ WA := wIn 305 (by decide +kernel) (by decide +kernel)
theorem kw306 : (Jvm.Cond.code ({ cls := "TapestryScene", name := "covers", desc := "(IIII)Z" } : Jvm.MethodName) prog_1_method_31_code (6 : Nat) (Option.some Jvm.ClassFile.FieldType.boolean)) ∈ WA := wIn 306 (by decide +kernel) (by decide +kernel)
theorem kw307 : (Jvm.Cond.methodLink "TapestryScene" (295 : Nat) ({ cls := "TapestryScene", name := "checkSpot", desc := "(III)V" } : Jvm.MethodName)) ∈ WA := wIn 307 (by decide +kernel) (by decide +kernel)
theorem kw308 : (Jvm.Cond.static ({ cls := "TapestryScene", name := "checkSpot", desc := "(III)V" } : Jvm.MethodName)) ∈ WA := wIn 308 (by decide +kernel) (by decide +kernel)
theorem kw309 : (Jvm.Cond.code ({ cls := "TapestryScene", name := "checkSpot", desc := "(III)V" } : Jvm.MethodName) prog_1_method_47_code (3 : Nat) (Option.none : Option Jvm.ClassFile.FieldType)) ∈ WA := wIn 309 (by decide +kernel) (by decide +kernel)
theorem kw312 : (Jvm.Cond.methodLink "TapestryScene" (298 : Nat) ({ cls := "TapestryScene", name := "coversAt", desc := "(LTapestryScene$Node;IIII)Z" } : Jvm.MethodName)) ∈ WA := wIn 312 (by decide +kernel) (by decide +kernel)
theorem kw314 : (Jvm.Cond.instanceMethod ({ cls := "TapestryScene", name := "coversAt", desc := "(LTapestryScene$Node;IIII)Z" } : Jvm.MethodName)) ∈ WA := wIn 314 (by decide +kernel) (by decide +kernel)
theorem kw315 : (Jvm.Cond.code ({ cls := "TapestryScene", name := "coversAt", desc := "(LTapestryScene$Node;IIII)Z" } : Jvm.MethodName) prog_1_method_57_code (6 : Nat) (Option.some Jvm.ClassFile.FieldType.boolean)) ∈ WA := wIn 315 (by decide +kernel) (by decide +kernel)
theorem kw316 : (Jvm.Cond.methodLink "TapestryScene" (410 : Nat) ({ cls := "TapestryScene$Node", name := "owns", desc := "(LTapestryScene$Point;)Z" } : Jvm.MethodName)) ∈ WA := wIn 316 (by decide +kernel) (by decide +kernel)
theorem kw317 : (Jvm.Cond.instanceMethod ({ cls := "TapestryScene$Node", name := "owns", desc := "(LTapestryScene$Point;)Z" } : Jvm.MethodName)) ∈ WA := wIn 317 (by decide +kernel) (by decide +kernel)
theorem kw318 : (Jvm.Cond.selects "TapestryScene$Node" ({ cls := "TapestryScene$Node", name := "owns", desc := "(LTapestryScene$Point;)Z" } : Jvm.MethodName) ({ cls := "TapestryScene$Node", name := "owns", desc := "(LTapestryScene$Point;)Z" } : Jvm.MethodName)) ∈ WA := wIn 318 (by decide +kernel) (by decide +kernel)
theorem kw319 : (Jvm.Cond.code ({ cls := "TapestryScene$Node", name := "owns", desc := "(LTapestryScene$Point;)Z" } : Jvm.MethodName) prog_6_method_11_code (2 : Nat) (Option.some Jvm.ClassFile.FieldType.boolean)) ∈ WA := wIn 319 (by decide +kernel) (by decide +kernel)
theorem kw320 : (Jvm.Cond.methodLink "TapestryScene$Node" (79 : Nat) ({ cls := "TapestryScene$Frame", name := "holds", desc := "(LTapestryScene$Point;)Z" } : Jvm.MethodName)) ∈ WA := wIn 320 (by decide +kernel) (by decide +kernel)
theorem kw321 : (Jvm.Cond.methodLink "TapestryScene$Node" (83 : Nat) ({ cls := "TapestryScene$Frame", name := "isAheadOfSlope", desc := "(LTapestryScene$Point;)Z" } : Jvm.MethodName)) ∈ WA := wIn 321 (by decide +kernel) (by decide +kernel)
theorem kw322 : (Jvm.Cond.instanceMethod ({ cls := "TapestryScene$Frame", name := "isAheadOfSlope", desc := "(LTapestryScene$Point;)Z" } : Jvm.MethodName)) ∈ WA := wIn 322 (by decide +kernel) (by decide +kernel)
theorem kw323 : (Jvm.Cond.selects "TapestryScene$Frame" ({ cls := "TapestryScene$Frame", name := "isAheadOfSlope", desc := "(LTapestryScene$Point;)Z" } : Jvm.MethodName) ({ cls := "TapestryScene$Frame", name := "isAheadOfSlope", desc := "(LTapestryScene$Point;)Z" } : Jvm.MethodName)) ∈ WA := wIn 323 (by decide +kernel) (by decide +kernel)
theorem kw324 : (Jvm.Cond.code ({ cls := "TapestryScene$Frame", name := "isAheadOfSlope", desc := "(LTapestryScene$Point;)Z" } : Jvm.MethodName) prog_4_method_3_code (2 : Nat) (Option.some Jvm.ClassFile.FieldType.boolean)) ∈ WA := wIn 324 (by decide +kernel) (by decide +kernel)
theorem kw325 : (Jvm.Cond.methodLink "TapestrySceneLaw" (134 : Nat) ({ cls := "TapestryScene", name := "pick", desc := "(III)I" } : Jvm.MethodName)) ∈ WA := wIn 325 (by decide +kernel) (by decide +kernel)
theorem kw326 : (Jvm.Cond.instanceMethod ({ cls := "TapestryScene", name := "pick", desc := "(III)I" } : Jvm.MethodName)) ∈ WA := wIn 326 (by decide +kernel) (by decide +kernel)
theorem kw327 : (Jvm.Cond.selects "TapestryScene" ({ cls := "TapestryScene", name := "pick", desc := "(III)I" } : Jvm.MethodName) ({ cls := "TapestryScene", name := "pick", desc := "(III)I" } : Jvm.MethodName)) ∈ WA := wIn 327 (by decide +kernel) (by decide +kernel)
theorem kw328 : (Jvm.Cond.code ({ cls := "TapestryScene", name := "pick", desc := "(III)I" } : Jvm.MethodName) prog_1_method_32_code (4 : Nat) (Option.some Jvm.ClassFile.FieldType.int)) ∈ WA := wIn 328 (by decide +kernel) (by decide +kernel)
theorem kw329 : (Jvm.Cond.methodLink "TapestryScene" (302 : Nat) ({ cls := "TapestryScene", name := "topAt", desc := "(IIIILTapestryScene$Node;)I" } : Jvm.MethodName)) ∈ WA := wIn 329 (by decide +kernel) (by decide +kernel)
theorem kw331 : (Jvm.Cond.instanceMethod ({ cls := "TapestryScene", name := "topAt", desc := "(IIIILTapestryScene$Node;)I" } : Jvm.MethodName)) ∈ WA := wIn 331 (by decide +kernel) (by decide +kernel)
theorem kw332 : (Jvm.Cond.code ({ cls := "TapestryScene", name := "topAt", desc := "(IIIILTapestryScene$Node;)I" } : Jvm.MethodName) prog_1_method_58_code (7 : Nat) (Option.some Jvm.ClassFile.FieldType.int)) ∈ WA := wIn 332 (by decide +kernel) (by decide +kernel)
theorem kw333 : (Jvm.Cond.methodLink "TapestrySceneLaw" (130 : Nat) ({ cls := "TapestryScene", name := "many", desc := "(III)I" } : Jvm.MethodName)) ∈ WA := wIn 333 (by decide +kernel) (by decide +kernel)
theorem kw334 : (Jvm.Cond.instanceMethod ({ cls := "TapestryScene", name := "many", desc := "(III)I" } : Jvm.MethodName)) ∈ WA := wIn 334 (by decide +kernel) (by decide +kernel)
theorem kw335 : (Jvm.Cond.selects "TapestryScene" ({ cls := "TapestryScene", name := "many", desc := "(III)I" } : Jvm.MethodName) ({ cls := "TapestryScene", name := "many", desc := "(III)I" } : Jvm.MethodName)) ∈ WA := wIn 335 (by decide +kernel) (by decide +kernel)
theorem kw336 : (Jvm.Cond.code ({ cls := "TapestryScene", name := "many", desc := "(III)I" } : Jvm.MethodName) prog_1_method_33_code (6 : Nat) (Option.some Jvm.ClassFile.FieldType.int)) ∈ WA := wIn 336 (by decide +kernel) (by decide +kernel)
theorem kw337 : (Jvm.Cond.methodLink "TapestrySceneLaw" (137 : Nat) ({ cls := "TapestryScene", name := "through", desc := "(III)I" } : Jvm.MethodName)) ∈ WA := wIn 337 (by decide +kernel) (by decide +kernel)
theorem kw338 : (Jvm.Cond.instanceMethod ({ cls := "TapestryScene", name := "through", desc := "(III)I" } : Jvm.MethodName)) ∈ WA := wIn 338 (by decide +kernel) (by decide +kernel)
theorem kw339 : (Jvm.Cond.selects "TapestryScene" ({ cls := "TapestryScene", name := "through", desc := "(III)I" } : Jvm.MethodName) ({ cls := "TapestryScene", name := "through", desc := "(III)I" } : Jvm.MethodName)) ∈ WA := wIn 339 (by decide +kernel) (by decide +kernel)
theorem kw340 : (Jvm.Cond.code ({ cls := "TapestryScene", name := "through", desc := "(III)I" } : Jvm.MethodName) prog_1_method_34_code (6 : Nat) (Option.some Jvm.ClassFile.FieldType.int)) ∈ WA := wIn 340 (by decide +kernel) (by decide +kernel)
theorem kw341 : (Jvm.Cond.methodLink "TapestrySceneLaw" (140 : Nat) ({ cls := "TapestryScene", name := "changes", desc := "(II)I" } : Jvm.MethodName)) ∈ WA := wIn 341 (by decide +kernel) (by decide +kernel)
theorem kw342 : (Jvm.Cond.instanceMethod ({ cls := "TapestryScene", name := "changes", desc := "(II)I" } : Jvm.MethodName)) ∈ WA := wIn 342 (by decide +kernel) (by decide +kernel)
theorem kw343 : (Jvm.Cond.selects "TapestryScene" ({ cls := "TapestryScene", name := "changes", desc := "(II)I" } : Jvm.MethodName) ({ cls := "TapestryScene", name := "changes", desc := "(II)I" } : Jvm.MethodName)) ∈ WA := wIn 343 (by decide +kernel) (by decide +kernel)
theorem kw344 : (Jvm.Cond.code ({ cls := "TapestryScene", name := "changes", desc := "(II)I" } : Jvm.MethodName) prog_1_method_35_code (5 : Nat) (Option.some Jvm.ClassFile.FieldType.int)) ∈ WA := wIn 344 (by decide +kernel) (by decide +kernel)
theorem kw345 : (Jvm.Cond.methodLink "TapestryScene" (306 : Nat) ({ cls := "TapestryScene$Node", name := "differs", desc := "(II)Z" } : Jvm.MethodName)) ∈ WA := wIn 345 (by decide +kernel) (by decide +kernel)
theorem kw346 : (Jvm.Cond.instanceMethod ({ cls := "TapestryScene$Node", name := "differs", desc := "(II)Z" } : Jvm.MethodName)) ∈ WA := wIn 346 (by decide +kernel) (by decide +kernel)
theorem kw347 : (Jvm.Cond.selects "TapestryScene$Node" ({ cls := "TapestryScene$Node", name := "differs", desc := "(II)Z" } : Jvm.MethodName) ({ cls := "TapestryScene$Node", name := "differs", desc := "(II)Z" } : Jvm.MethodName)) ∈ WA := wIn 347 (by decide +kernel) (by decide +kernel)
theorem kw348 : (Jvm.Cond.code ({ cls := "TapestryScene$Node", name := "differs", desc := "(II)Z" } : Jvm.MethodName) prog_6_method_10_code (4 : Nat) (Option.some Jvm.ClassFile.FieldType.boolean)) ∈ WA := wIn 348 (by decide +kernel) (by decide +kernel)
theorem kw349 : (Jvm.Cond.methodLink "TapestryScene$Node" (75 : Nat) ({ cls := "TapestryScene$Property", name := "differs", desc := "(II)Z" } : Jvm.MethodName)) ∈ WA := wIn 349 (by decide +kernel) (by decide +kernel)
theorem kw350 : (Jvm.Cond.instanceMethod ({ cls := "TapestryScene$Property", name := "differs", desc := "(II)Z" } : Jvm.MethodName)) ∈ WA := wIn 350 (by decide +kernel) (by decide +kernel)
theorem kw351 : (Jvm.Cond.selects "TapestryScene$Property" ({ cls := "TapestryScene$Property", name := "differs", desc := "(II)Z" } : Jvm.MethodName) ({ cls := "TapestryScene$Property", name := "differs", desc := "(II)Z" } : Jvm.MethodName)) ∈ WA := wIn 351 (by decide +kernel) (by decide +kernel)
theorem kw352 : (Jvm.Cond.code ({ cls := "TapestryScene$Property", name := "differs", desc := "(II)Z" } : Jvm.MethodName) prog_8_method_8_code (3 : Nat) (Option.some Jvm.ClassFile.FieldType.boolean)) ∈ WA := wIn 352 (by decide +kernel) (by decide +kernel)
theorem kw353 : (Jvm.Cond.methodLink "TapestryScene$Property" (54 : Nat) ({ cls := "TapestryScene$Property", name := "at", desc := "(I)I" } : Jvm.MethodName)) ∈ WA := wIn 353 (by decide +kernel) (by decide +kernel)
theorem kw354 : (Jvm.Cond.methodLink "TapestrySceneLaw" (146 : Nat) ({ cls := "TapestryScene", name := "pickWithout", desc := "(IIII)I" } : Jvm.MethodName)) ∈ WA := wIn 354 (by decide +kernel) (by decide +kernel)
theorem kw355 : (Jvm.Cond.instanceMethod ({ cls := "TapestryScene", name := "pickWithout", desc := "(IIII)I" } : Jvm.MethodName)) ∈ WA := wIn 355 (by decide +kernel) (by decide +kernel)
theorem kw356 : (Jvm.Cond.selects "TapestryScene" ({ cls := "TapestryScene", name := "pickWithout", desc := "(IIII)I" } : Jvm.MethodName) ({ cls := "TapestryScene", name := "pickWithout", desc := "(IIII)I" } : Jvm.MethodName)) ∈ WA := wIn 356 (by decide +kernel) (by decide +kernel)
theorem kw357 : (Jvm.Cond.code ({ cls := "TapestryScene", name := "pickWithout", desc := "(IIII)I" } : Jvm.MethodName) prog_1_method_36_code (6 : Nat) (Option.some Jvm.ClassFile.FieldType.int)) ∈ WA := wIn 357 (by decide +kernel) (by decide +kernel)
theorem kw358 : (Jvm.Cond.methodLink "TapestrySceneLaw" (152 : Nat) ({ cls := "TapestryScene", name := "nextPick", desc := "(IIII)I" } : Jvm.MethodName)) ∈ WA := wIn 358 (by decide +kernel) (by decide +kernel)
theorem kw359 : (Jvm.Cond.instanceMethod ({ cls := "TapestryScene", name := "nextPick", desc := "(IIII)I" } : Jvm.MethodName)) ∈ WA := wIn 359 (by decide +kernel) (by decide +kernel)
theorem kw360 : (Jvm.Cond.selects "TapestryScene" ({ cls := "TapestryScene", name := "nextPick", desc := "(IIII)I" } : Jvm.MethodName) ({ cls := "TapestryScene", name := "nextPick", desc := "(IIII)I" } : Jvm.MethodName)) ∈ WA := wIn 360 (by decide +kernel) (by decide +kernel)
theorem kw361 : (Jvm.Cond.code ({ cls := "TapestryScene", name := "nextPick", desc := "(IIII)I" } : Jvm.MethodName) prog_1_method_37_code (8 : Nat) (Option.some Jvm.ClassFile.FieldType.int)) ∈ WA := wIn 361 (by decide +kernel) (by decide +kernel)
theorem kw363 : (Jvm.Cond.methodLink "TapestryScene" (312 : Nat) ({ cls := "java/lang/Math", name := "min", desc := "(II)I" } : Jvm.MethodName)) ∈ WA := wIn 363 (by decide +kernel) (by decide +kernel)
theorem kw364 : (Jvm.Cond.static ({ cls := "java/lang/Math", name := "min", desc := "(II)I" } : Jvm.MethodName)) ∈ WA := wIn 364 (by decide +kernel) (by decide +kernel)
theorem kw365 : (Jvm.Cond.code ({ cls := "java/lang/Math", name := "min", desc := "(II)I" } : Jvm.MethodName) prog_16_method_69_code (2 : Nat) (Option.some Jvm.ClassFile.FieldType.int)) ∈ WA := wIn 365 (by decide +kernel) (by decide +kernel)
theorem kw366 : (Jvm.Cond.methodLink "TapestryScene" (318 : Nat) ({ cls := "TapestryScene", name := "isToldAnew", desc := "(I)Z" } : Jvm.MethodName)) ∈ WA := wIn 366 (by decide +kernel) (by decide +kernel)
theorem kw368 : (Jvm.Cond.instanceMethod ({ cls := "TapestryScene", name := "isToldAnew", desc := "(I)Z" } : Jvm.MethodName)) ∈ WA := wIn 368 (by decide +kernel) (by decide +kernel)
theorem kw369 : (Jvm.Cond.code ({ cls := "TapestryScene", name := "isToldAnew", desc := "(I)Z" } : Jvm.MethodName) prog_1_method_59_code (3 : Nat) (Option.some Jvm.ClassFile.FieldType.boolean)) ∈ WA := wIn 369 (by decide +kernel) (by decide +kernel)
theorem kw370 : (Jvm.Cond.methodLink "TapestryScene" (414 : Nat) ({ cls := "TapestryScene$Property", name := "differs", desc := "(II)Z" } : Jvm.MethodName)) ∈ WA := wIn 370 (by decide +kernel) (by decide +kernel)
theorem kw371 : (Jvm.Cond.methodLink "TapestrySceneLaw" (62 : Nat) ({ cls := "TapestryScene", name := "digest", desc := "()J" } : Jvm.MethodName)) ∈ WA := wIn 371 (by decide +kernel) (by decide +kernel)
theorem kw372 : (Jvm.Cond.instanceMethod ({ cls := "TapestryScene", name := "digest", desc := "()J" } : Jvm.MethodName)) ∈ WA := wIn 372 (by decide +kernel) (by decide +kernel)
theorem kw373 : (Jvm.Cond.selects "TapestryScene" ({ cls := "TapestryScene", name := "digest", desc := "()J" } : Jvm.MethodName) ({ cls := "TapestryScene", name := "digest", desc := "()J" } : Jvm.MethodName)) ∈ WA := wIn 373 (by decide +kernel) (by decide +kernel)
theorem kw374 : (Jvm.Cond.code ({ cls := "TapestryScene", name := "digest", desc := "()J" } : Jvm.MethodName) prog_1_method_39_code (5 : Nat) (Option.some Jvm.ClassFile.FieldType.long)) ∈ WA := wIn 374 (by decide +kernel) (by decide +kernel)
theorem kw375 : (Jvm.Cond.constantLong "TapestryScene" (321 : Nat) (2647 : Int64)) ∈ WA := wIn 375 (by decide +kernel) (by decide +kernel)
theorem kw376 : (Jvm.Cond.methodLink "TapestryScene" (323 : Nat) ({ cls := "TapestryScene", name := "mixed", desc := "(JJ)J" } : Jvm.MethodName)) ∈ WA := wIn 376 (by decide +kernel) (by decide +kernel)
theorem kw377 : (Jvm.Cond.static ({ cls := "TapestryScene", name := "mixed", desc := "(JJ)J" } : Jvm.MethodName)) ∈ WA := wIn 377 (by decide +kernel) (by decide +kernel)
theorem kw378 : (Jvm.Cond.code ({ cls := "TapestryScene", name := "mixed", desc := "(JJ)J" } : Jvm.MethodName) prog_1_method_60_code (4 : Nat) (Option.some Jvm.ClassFile.FieldType.long)) ∈ WA := wIn 378 (by decide +kernel) (by decide +kernel)
theorem kw379 : (Jvm.Cond.constantLong "TapestryScene" (415 : Nat) (31 : Int64)) ∈ WA := wIn 379 (by decide +kernel) (by decide +kernel)
theorem kw380 : (Jvm.Cond.methodLink "TapestryScene" (327 : Nat) ({ cls := "TapestryScene", name := "nextKey", desc := "()I" } : Jvm.MethodName)) ∈ WA := wIn 380 (by decide +kernel) (by decide +kernel)
theorem kw381 : (Jvm.Cond.instanceMethod ({ cls := "TapestryScene", name := "nextKey", desc := "()I" } : Jvm.MethodName)) ∈ WA := wIn 381 (by decide +kernel) (by decide +kernel)
theorem kw382 : (Jvm.Cond.selects "TapestryScene" ({ cls := "TapestryScene", name := "nextKey", desc := "()I" } : Jvm.MethodName) ({ cls := "TapestryScene", name := "nextKey", desc := "()I" } : Jvm.MethodName)) ∈ WA := wIn 382 (by decide +kernel) (by decide +kernel)
theorem kw383 : (Jvm.Cond.code ({ cls := "TapestryScene", name := "nextKey", desc := "()I" } : Jvm.MethodName) prog_1_method_22_code (4 : Nat) (Option.some Jvm.ClassFile.FieldType.int)) ∈ WA := wIn 383 (by decide +kernel) (by decide +kernel)
theorem kw384 : (Jvm.Cond.methodLink "TapestryScene" (241 : Nat) ({ cls := "TapestryScene$Property", name := "nextKeyTime", desc := "(I)I" } : Jvm.MethodName)) ∈ WA := wIn 384 (by decide +kernel) (by decide +kernel)
theorem kw385 : (Jvm.Cond.instanceMethod ({ cls := "TapestryScene$Property", name := "nextKeyTime", desc := "(I)I" } : Jvm.MethodName)) ∈ WA := wIn 385 (by decide +kernel) (by decide +kernel)
theorem kw386 : (Jvm.Cond.selects "TapestryScene$Property" ({ cls := "TapestryScene$Property", name := "nextKeyTime", desc := "(I)I" } : Jvm.MethodName) ({ cls := "TapestryScene$Property", name := "nextKeyTime", desc := "(I)I" } : Jvm.MethodName)) ∈ WA := wIn 386 (by decide +kernel) (by decide +kernel)
theorem kw387 : (Jvm.Cond.code ({ cls := "TapestryScene$Property", name := "nextKeyTime", desc := "(I)I" } : Jvm.MethodName) prog_8_method_7_code (3 : Nat) (Option.some Jvm.ClassFile.FieldType.int)) ∈ WA := wIn 387 (by decide +kernel) (by decide +kernel)
theorem kw388 : (Jvm.Cond.methodLink "TapestryScene" (333 : Nat) ({ cls := "TapestryScene", name := "mixedWithNode", desc := "(JLTapestryScene$Node;)J" } : Jvm.MethodName)) ∈ WA := wIn 388 (by decide +kernel) (by decide +kernel)
theorem kw390 : (Jvm.Cond.instanceMethod ({ cls := "TapestryScene", name := "mixedWithNode", desc := "(JLTapestryScene$Node;)J" } : Jvm.MethodName)) ∈ WA := wIn 390 (by decide +kernel) (by decide +kernel)
theorem kw391 : (Jvm.Cond.code ({ cls := "TapestryScene", name := "mixedWithNode", desc := "(JLTapestryScene$Node;)J" } : Jvm.MethodName) prog_1_method_61_code (8 : Nat) (Option.some Jvm.ClassFile.FieldType.long)) ∈ WA := wIn 391 (by decide +kernel) (by decide +kernel)
theorem kw392 : (Jvm.Cond.methodLink "TapestryScene" (417 : Nat) ({ cls := "TapestryScene", name := "mixedWithPoint", desc := "(J)J" } : Jvm.MethodName)) ∈ WA := wIn 392 (by decide +kernel) (by decide +kernel)
theorem kw394 : (Jvm.Cond.instanceMethod ({ cls := "TapestryScene", name := "mixedWithPoint", desc := "(J)J" } : Jvm.MethodName)) ∈ WA := wIn 394 (by decide +kernel) (by decide +kernel)
theorem kw395 : (Jvm.Cond.code ({ cls := "TapestryScene", name := "mixedWithPoint", desc := "(J)J" } : Jvm.MethodName) prog_1_method_62_code (6 : Nat) (Option.some Jvm.ClassFile.FieldType.long)) ∈ WA := wIn 395 (by decide +kernel) (by decide +kernel)
theorem kw396 : (Jvm.Cond.constantLong "TapestryScene" (421 : Nat) (2 : Int64)) ∈ WA := wIn 396 (by decide +kernel) (by decide +kernel)
theorem kw397 : (Jvm.Cond.methodLink "TapestryScene" (337 : Nat) ({ cls := "TapestryScene", name := "changes", desc := "(II)I" } : Jvm.MethodName)) ∈ WA := wIn 397 (by decide +kernel) (by decide +kernel)
theorem kw398 : (Jvm.Cond.classLink "TapestrySceneLaw" (27 : Nat) "TapestrySceneLaw$Loom") ∈ WA := wIn 398 (by decide +kernel) (by decide +kernel)
theorem kw399 : (Jvm.Cond.instantiable "TapestrySceneLaw$Loom" (14 : Nat)) ∈ WA := wIn 399 (by decide +kernel) (by decide +kernel)
theorem kw400 : (Jvm.Cond.methodLink "TapestrySceneLaw" (29 : Nat) ({ cls := "TapestrySceneLaw$Loom", name := "<init>", desc := "([II)V" } : Jvm.MethodName)) ∈ WA := wIn 400 (by decide +kernel) (by decide +kernel)
theorem kw401 : (Jvm.Cond.instanceMethod ({ cls := "TapestrySceneLaw$Loom", name := "<init>", desc := "([II)V" } : Jvm.MethodName)) ∈ WA := wIn 401 (by decide +kernel) (by decide +kernel)
theorem kw402 : (Jvm.Cond.code ({ cls := "TapestrySceneLaw$Loom", name := "<init>", desc := "([II)V" } : Jvm.MethodName) prog_10_method_1_code (3 : Nat) (Option.none : Option Jvm.ClassFile.FieldType)) ∈ WA := wIn 402 (by decide +kernel) (by decide +kernel)
theorem kw403 : (Jvm.Cond.methodLink "TapestrySceneLaw$Loom" (1 : Nat) ({ cls := "java/lang/Object", name := "<init>", desc := "()V" } : Jvm.MethodName)) ∈ WA := wIn 403 (by decide +kernel) (by decide +kernel)
theorem kw404 : (Jvm.Cond.classLink "TapestrySceneLaw$Loom" (7 : Nat) "TapestryScene") ∈ WA := wIn 404 (by decide +kernel) (by decide +kernel)
theorem kw405 : (Jvm.Cond.methodLink "TapestrySceneLaw$Loom" (9 : Nat) ({ cls := "TapestryScene", name := "<init>", desc := "()V" } : Jvm.MethodName)) ∈ WA := wIn 405 (by decide +kernel) (by decide +kernel)
theorem kw406 : (Jvm.Cond.instanceMethod ({ cls := "TapestryScene", name := "<init>", desc := "()V" } : Jvm.MethodName)) ∈ WA := wIn 406 (by decide +kernel) (by decide +kernel)
theorem kw407 : (Jvm.Cond.code ({ cls := "TapestryScene", name := "<init>", desc := "()V" } : Jvm.MethodName) prog_1_method_1_code (1 : Nat) (Option.none : Option Jvm.ClassFile.FieldType)) ∈ WA := wIn 407 (by decide +kernel) (by decide +kernel)
theorem kw408 : (Jvm.Cond.methodLink "TapestryScene" (1 : Nat) ({ cls := "java/lang/Object", name := "<init>", desc := "()V" } : Jvm.MethodName)) ∈ WA := wIn 408 (by decide +kernel) (by decide +kernel)
theorem kw409 : (Jvm.Cond.classLink "TapestryScene" (9 : Nat) "TapestryScene$Node") ∈ WA := wIn 409 (by decide +kernel) (by decide +kernel)
theorem kw411 : (Jvm.Cond.classLink "TapestryScene" (15 : Nat) "TapestryScene$Property") ∈ WA := wIn 411 (by decide +kernel) (by decide +kernel)
theorem kw413 : (Jvm.Cond.instantiable "TapestryScene$Node" (19 : Nat)) ∈ WA := wIn 413 (by decide +kernel) (by decide +kernel)
theorem kw414 : (Jvm.Cond.methodLink "TapestryScene" (21 : Nat) ({ cls := "TapestryScene$Node", name := "<init>", desc := "(IIII)V" } : Jvm.MethodName)) ∈ WA := wIn 414 (by decide +kernel) (by decide +kernel)
theorem kw415 : (Jvm.Cond.instanceMethod ({ cls := "TapestryScene$Node", name := "<init>", desc := "(IIII)V" } : Jvm.MethodName)) ∈ WA := wIn 415 (by decide +kernel) (by decide +kernel)
theorem kw416 : (Jvm.Cond.code ({ cls := "TapestryScene$Node", name := "<init>", desc := "(IIII)V" } : Jvm.MethodName) prog_6_method_1_code (5 : Nat) (Option.none : Option Jvm.ClassFile.FieldType)) ∈ WA := wIn 416 (by decide +kernel) (by decide +kernel)
theorem kw417 : (Jvm.Cond.methodLink "TapestryScene$Node" (3 : Nat) ({ cls := "java/lang/Object", name := "<init>", desc := "()V" } : Jvm.MethodName)) ∈ WA := wIn 417 (by decide +kernel) (by decide +kernel)
theorem kw418 : (Jvm.Cond.classLink "TapestryScene$Node" (9 : Nat) "TapestryScene$Property") ∈ WA := wIn 418 (by decide +kernel) (by decide +kernel)
theorem kw419 : (Jvm.Cond.methodLink "TapestryScene$Node" (11 : Nat) ({ cls := "TapestryScene$Property", name := "<init>", desc := "(III)V" } : Jvm.MethodName)) ∈ WA := wIn 419 (by decide +kernel) (by decide +kernel)
theorem kw420 : (Jvm.Cond.instanceMethod ({ cls := "TapestryScene$Property", name := "<init>", desc := "(III)V" } : Jvm.MethodName)) ∈ WA := wIn 420 (by decide +kernel) (by decide +kernel)
theorem kw421 : (Jvm.Cond.code ({ cls := "TapestryScene$Property", name := "<init>", desc := "(III)V" } : Jvm.MethodName) prog_8_method_1_code (4 : Nat) (Option.none : Option Jvm.ClassFile.FieldType)) ∈ WA := wIn 421 (by decide +kernel) (by decide +kernel)
theorem kw422 : (Jvm.Cond.methodLink "TapestryScene$Property" (3 : Nat) ({ cls := "java/lang/Object", name := "<init>", desc := "()V" } : Jvm.MethodName)) ∈ WA := wIn 422 (by decide +kernel) (by decide +kernel)
theorem kw423 : (Jvm.Cond.fieldLink "TapestryScene$Property" (15 : Nat) "TapestryScene$Property" "least" "I") ∈ WA := wIn 423 (by decide +kernel) (by decide +kernel)
theorem kw424 : (Jvm.Cond.fieldLink "TapestryScene$Property" (18 : Nat) "TapestryScene$Property" "most" "I") ∈ WA := wIn 424 (by decide +kernel) (by decide +kernel)
theorem kw425 : (Jvm.Cond.fieldLink "TapestryScene$Property" (9 : Nat) "TapestryScene$Property" "own" "I") ∈ WA := wIn 425 (by decide +kernel) (by decide +kernel)
theorem kw426 : (Jvm.Cond.fieldLink "TapestryScene" (128 : Nat) "TapestryScene$Property" "own" "I") ∈ WA := wIn 426 (by decide +kernel) (by decide +kernel)
theorem kw427 : (Jvm.Cond.fieldLink "TapestryScene" (182 : Nat) "TapestryScene$Property" "isTracked" "Z") ∈ WA := wIn 427 (by decide +kernel) (by decide +kernel)
theorem kw428 : (Jvm.Cond.fieldLink "TapestryScene$Property" (50 : Nat) "TapestryScene$Property" "isOver" "Z") ∈ WA := wIn 428 (by decide +kernel) (by decide +kernel)
theorem kw429 : (Jvm.Cond.fieldLink "TapestryScene" (201 : Nat) "TapestryScene$Property" "isOver" "Z") ∈ WA := wIn 429 (by decide +kernel) (by decide +kernel)
theorem kw430 : (Jvm.Cond.fieldLink "TapestryScene$Property" (69 : Nat) "TapestryScene$Property" "ease" "I") ∈ WA := wIn 430 (by decide +kernel) (by decide +kernel)
theorem kw431 : (Jvm.Cond.fieldLink "TapestryScene" (190 : Nat) "TapestryScene$Property" "ease" "I") ∈ WA := wIn 431 (by decide +kernel) (by decide +kernel)
theorem kw432 : (Jvm.Cond.fieldLink "TapestryScene$Property" (66 : Nat) "TapestryScene$Property" "end" "I") ∈ WA := wIn 432 (by decide +kernel) (by decide +kernel)
theorem kw433 : (Jvm.Cond.fieldLink "TapestryScene" (193 : Nat) "TapestryScene$Property" "end" "I") ∈ WA := wIn 433 (by decide +kernel) (by decide +kernel)
theorem kw434 : (Jvm.Cond.fieldLink "TapestryScene$Property" (40 : Nat) "TapestryScene$Property" "firstKey" "LTapestryScene$Key;") ∈ WA := wIn 434 (by decide +kernel) (by decide +kernel)
theorem kw435 : (Jvm.Cond.fieldLink "TapestryScene$Property" (47 : Nat) "TapestryScene$Property" "keyCount" "I") ∈ WA := wIn 435 (by decide +kernel) (by decide +kernel)
theorem kw436 : (Jvm.Cond.fieldLink "TapestryScene" (204 : Nat) "TapestryScene$Property" "keyCount" "I") ∈ WA := wIn 436 (by decide +kernel) (by decide +kernel)
theorem kw456 : (Jvm.Cond.classLink "TapestryScene$Node" (42 : Nat) "TapestryScene$Frame") ∈ WA := wIn 456 (by decide +kernel) (by decide +kernel)
theorem kw457 : (Jvm.Cond.instantiable "TapestryScene$Frame" (4 : Nat)) ∈ WA := wIn 457 (by decide +kernel) (by decide +kernel)
theorem kw458 : (Jvm.Cond.methodLink "TapestryScene$Node" (44 : Nat) ({ cls := "TapestryScene$Frame", name := "<init>", desc := "(IIII)V" } : Jvm.MethodName)) ∈ WA := wIn 458 (by decide +kernel) (by decide +kernel)
theorem kw459 : (Jvm.Cond.instanceMethod ({ cls := "TapestryScene$Frame", name := "<init>", desc := "(IIII)V" } : Jvm.MethodName)) ∈ WA := wIn 459 (by decide +kernel) (by decide +kernel)
theorem kw460 : (Jvm.Cond.code ({ cls := "TapestryScene$Frame", name := "<init>", desc := "(IIII)V" } : Jvm.MethodName) prog_4_method_1_code (5 : Nat) (Option.none : Option Jvm.ClassFile.FieldType)) ∈ WA := wIn 460 (by decide +kernel) (by decide +kernel)
theorem kw461 : (Jvm.Cond.methodLink "TapestryScene$Frame" (1 : Nat) ({ cls := "java/lang/Object", name := "<init>", desc := "()V" } : Jvm.MethodName)) ∈ WA := wIn 461 (by decide +kernel) (by decide +kernel)
theorem kw462 : (Jvm.Cond.fieldLink "TapestryScene$Frame" (7 : Nat) "TapestryScene$Frame" "left" "I") ∈ WA := wIn 462 (by decide +kernel) (by decide +kernel)
theorem kw463 : (Jvm.Cond.fieldLink "TapestryScene" (391 : Nat) "TapestryScene$Frame" "left" "I") ∈ WA := wIn 463 (by decide +kernel) (by decide +kernel)
theorem kw464 : (Jvm.Cond.fieldLink "TapestryScene$Frame" (13 : Nat) "TapestryScene$Frame" "top" "I") ∈ WA := wIn 464 (by decide +kernel) (by decide +kernel)
theorem kw465 : (Jvm.Cond.fieldLink "TapestryScene" (394 : Nat) "TapestryScene$Frame" "top" "I") ∈ WA := wIn 465 (by decide +kernel) (by decide +kernel)
theorem kw466 : (Jvm.Cond.fieldLink "TapestryScene$Frame" (16 : Nat) "TapestryScene$Frame" "right" "I") ∈ WA := wIn 466 (by decide +kernel) (by decide +kernel)
theorem kw467 : (Jvm.Cond.fieldLink "TapestryScene" (401 : Nat) "TapestryScene$Frame" "right" "I") ∈ WA := wIn 467 (by decide +kernel) (by decide +kernel)
theorem kw468 : (Jvm.Cond.fieldLink "TapestryScene$Frame" (19 : Nat) "TapestryScene$Frame" "bottom" "I") ∈ WA := wIn 468 (by decide +kernel) (by decide +kernel)
theorem kw469 : (Jvm.Cond.fieldLink "TapestryScene" (404 : Nat) "TapestryScene$Frame" "bottom" "I") ∈ WA := wIn 469 (by decide +kernel) (by decide +kernel)
theorem kw479 : (Jvm.Cond.fieldLink "TapestryScene$Node" (36 : Nat) "TapestryScene$Node" "number" "I") ∈ WA := wIn 479 (by decide +kernel) (by decide +kernel)
theorem kw480 : (Jvm.Cond.fieldLink "TapestryScene" (85 : Nat) "TapestryScene$Node" "number" "I") ∈ WA := wIn 480 (by decide +kernel) (by decide +kernel)
theorem kw481 : (Jvm.Cond.fieldLink "TapestryScene$Node" (39 : Nat) "TapestryScene$Node" "kind" "I") ∈ WA := wIn 481 (by decide +kernel) (by decide +kernel)
theorem kw482 : (Jvm.Cond.fieldLink "TapestryScene" (385 : Nat) "TapestryScene$Node" "kind" "I") ∈ WA := wIn 482 (by decide +kernel) (by decide +kernel)
theorem kw483 : (Jvm.Cond.fieldLink "TapestryScene$Node" (47 : Nat) "TapestryScene$Node" "frame" "LTapestryScene$Frame;") ∈ WA := wIn 483 (by decide +kernel) (by decide +kernel)
theorem kw484 : (Jvm.Cond.fieldLink "TapestryScene" (388 : Nat) "TapestryScene$Node" "frame" "LTapestryScene$Frame;") ∈ WA := wIn 484 (by decide +kernel) (by decide +kernel)
theorem kw485 : (Jvm.Cond.fieldLink "TapestryScene$Node" (14 : Nat) "TapestryScene$Node" "x" "LTapestryScene$Property;") ∈ WA := wIn 485 (by decide +kernel) (by decide +kernel)
theorem kw486 : (Jvm.Cond.fieldLink "TapestryScene$Point" (50 : Nat) "TapestryScene$Node" "x" "LTapestryScene$Property;") ∈ WA := wIn 486 (by decide +kernel) (by decide +kernel)
theorem kw487 : (Jvm.Cond.fieldLink "TapestryScene" (115 : Nat) "TapestryScene$Node" "x" "LTapestryScene$Property;") ∈ WA := wIn 487 (by decide +kernel) (by decide +kernel)
theorem kw488 : (Jvm.Cond.fieldLink "TapestryScene$Node" (20 : Nat) "TapestryScene$Node" "y" "LTapestryScene$Property;") ∈ WA := wIn 488 (by decide +kernel) (by decide +kernel)
theorem kw489 : (Jvm.Cond.fieldLink "TapestryScene$Point" (52 : Nat) "TapestryScene$Node" "y" "LTapestryScene$Property;") ∈ WA := wIn 489 (by decide +kernel) (by decide +kernel)
theorem kw490 : (Jvm.Cond.fieldLink "TapestryScene" (123 : Nat) "TapestryScene$Node" "y" "LTapestryScene$Property;") ∈ WA := wIn 490 (by decide +kernel) (by decide +kernel)
theorem kw491 : (Jvm.Cond.fieldLink "TapestryScene$Node" (23 : Nat) "TapestryScene$Node" "turns" "LTapestryScene$Property;") ∈ WA := wIn 491 (by decide +kernel) (by decide +kernel)
theorem kw492 : (Jvm.Cond.fieldLink "TapestryScene$Point" (36 : Nat) "TapestryScene$Node" "turns" "LTapestryScene$Property;") ∈ WA := wIn 492 (by decide +kernel) (by decide +kernel)
theorem kw493 : (Jvm.Cond.fieldLink "TapestryScene" (139 : Nat) "TapestryScene$Node" "turns" "LTapestryScene$Property;") ∈ WA := wIn 493 (by decide +kernel) (by decide +kernel)
theorem kw494 : (Jvm.Cond.fieldLink "TapestryScene$Node" (26 : Nat) "TapestryScene$Node" "opacity" "LTapestryScene$Property;") ∈ WA := wIn 494 (by decide +kernel) (by decide +kernel)
theorem kw495 : (Jvm.Cond.fieldLink "TapestryScene" (148 : Nat) "TapestryScene$Node" "opacity" "LTapestryScene$Property;") ∈ WA := wIn 495 (by decide +kernel) (by decide +kernel)
theorem kw496 : (Jvm.Cond.fieldLink "TapestryScene$Node" (29 : Nat) "TapestryScene$Node" "over" "I") ∈ WA := wIn 496 (by decide +kernel) (by decide +kernel)
theorem kw497 : (Jvm.Cond.fieldLink "TapestryScene$Point" (25 : Nat) "TapestryScene$Node" "over" "I") ∈ WA := wIn 497 (by decide +kernel) (by decide +kernel)
theorem kw498 : (Jvm.Cond.fieldLink "TapestryScene" (133 : Nat) "TapestryScene$Node" "over" "I") ∈ WA := wIn 498 (by decide +kernel) (by decide +kernel)
theorem kw499 : (Jvm.Cond.fieldLink "TapestryScene$Node" (33 : Nat) "TapestryScene$Node" "under" "I") ∈ WA := wIn 499 (by decide +kernel) (by decide +kernel)
theorem kw500 : (Jvm.Cond.fieldLink "TapestryScene$Point" (31 : Nat) "TapestryScene$Node" "under" "I") ∈ WA := wIn 500 (by decide +kernel) (by decide +kernel)
theorem kw501 : (Jvm.Cond.fieldLink "TapestryScene" (136 : Nat) "TapestryScene$Node" "under" "I") ∈ WA := wIn 501 (by decide +kernel) (by decide +kernel)
theorem kw502 : (Jvm.Cond.fieldLink "TapestryScene$Point" (33 : Nat) "TapestryScene$Node" "isMirrored" "Z") ∈ WA := wIn 502 (by decide +kernel) (by decide +kernel)
theorem kw503 : (Jvm.Cond.fieldLink "TapestryScene" (144 : Nat) "TapestryScene$Node" "isMirrored" "Z") ∈ WA := wIn 503 (by decide +kernel) (by decide +kernel)
theorem kw504 : (Jvm.Cond.fieldLink "TapestryScene" (153 : Nat) "TapestryScene$Node" "layer" "I") ∈ WA := wIn 504 (by decide +kernel) (by decide +kernel)
theorem kw505 : (Jvm.Cond.fieldLink "TapestryScene" (156 : Nat) "TapestryScene$Node" "isHidden" "Z") ∈ WA := wIn 505 (by decide +kernel) (by decide +kernel)
theorem kw506 : (Jvm.Cond.fieldLink "TapestryScene$Node" (68 : Nat) "TapestryScene$Node" "isHidden" "Z") ∈ WA := wIn 506 (by decide +kernel) (by decide +kernel)
theorem kw507 : (Jvm.Cond.fieldLink "TapestryScene$Point" (54 : Nat) "TapestryScene$Node" "cut" "LTapestryScene$Frame;") ∈ WA := wIn 507 (by decide +kernel) (by decide +kernel)
theorem kw508 : (Jvm.Cond.fieldLink "TapestryScene" (163 : Nat) "TapestryScene$Node" "cut" "LTapestryScene$Frame;") ∈ WA := wIn 508 (by decide +kernel) (by decide +kernel)
theorem kw509 : (Jvm.Cond.fieldLink "TapestryScene$Node" (61 : Nat) "TapestryScene$Node" "isGone" "Z") ∈ WA := wIn 509 (by decide +kernel) (by decide +kernel)
theorem kw510 : (Jvm.Cond.fieldLink "TapestryScene" (340 : Nat) "TapestryScene$Node" "isGone" "Z") ∈ WA := wIn 510 (by decide +kernel) (by decide +kernel)
theorem kw511 : (Jvm.Cond.fieldLink "TapestryScene$Node" (51 : Nat) "TapestryScene$Node" "parent" "LTapestryScene$Node;") ∈ WA := wIn 511 (by decide +kernel) (by decide +kernel)
theorem kw512 : (Jvm.Cond.fieldLink "TapestryScene" (173 : Nat) "TapestryScene$Node" "parent" "LTapestryScene$Node;") ∈ WA := wIn 512 (by decide +kernel) (by decide +kernel)
theorem kw513 : (Jvm.Cond.fieldLink "TapestryScene$Node" (55 : Nat) "TapestryScene$Node" "firstHanging" "LTapestryScene$Node;") ∈ WA := wIn 513 (by decide +kernel) (by decide +kernel)
theorem kw514 : (Jvm.Cond.fieldLink "TapestryScene" (370 : Nat) "TapestryScene$Node" "firstHanging" "LTapestryScene$Node;") ∈ WA := wIn 514 (by decide +kernel) (by decide +kernel)
theorem kw515 : (Jvm.Cond.fieldLink "TapestryScene$Node" (58 : Nat) "TapestryScene$Node" "nextHanging" "LTapestryScene$Node;") ∈ WA := wIn 515 (by decide +kernel) (by decide +kernel)
theorem kw516 : (Jvm.Cond.fieldLink "TapestryScene" (373 : Nat) "TapestryScene$Node" "nextHanging" "LTapestryScene$Node;") ∈ WA := wIn 516 (by decide +kernel) (by decide +kernel)
theorem kw517 : (Jvm.Cond.fieldLink "TapestryScene" (98 : Nat) "TapestryScene$Node" "before" "LTapestryScene$Node;") ∈ WA := wIn 517 (by decide +kernel) (by decide +kernel)
theorem kw518 : (Jvm.Cond.fieldLink "TapestryScene" (287 : Nat) "TapestryScene$Node" "place" "I") ∈ WA := wIn 518 (by decide +kernel) (by decide +kernel)
theorem kw558 : (Jvm.Cond.classLink "TapestryScene" (28 : Nat) "TapestryScene$Point") ∈ WA := wIn 558 (by decide +kernel) (by decide +kernel)
theorem kw560 : (Jvm.Cond.instanceMethod ({ cls := "TapestryScene$Point", name := "<init>", desc := "()V" } : Jvm.MethodName)) ∈ WA := wIn 560 (by decide +kernel) (by decide +kernel)
theorem kw561 : (Jvm.Cond.code ({ cls := "TapestryScene$Point", name := "<init>", desc := "()V" } : Jvm.MethodName) prog_7_method_1_code (1 : Nat) (Option.none : Option Jvm.ClassFile.FieldType)) ∈ WA := wIn 561 (by decide +kernel) (by decide +kernel)
theorem kw562 : (Jvm.Cond.methodLink "TapestryScene$Point" (3 : Nat) ({ cls := "java/lang/Object", name := "<init>", desc := "()V" } : Jvm.MethodName)) ∈ WA := wIn 562 (by decide +kernel) (by decide +kernel)
theorem kw563 : (Jvm.Cond.fieldLink "TapestryScene$Frame" (22 : Nat) "TapestryScene$Point" "x" "J") ∈ WA := wIn 563 (by decide +kernel) (by decide +kernel)
theorem kw564 : (Jvm.Cond.fieldLink "TapestryScene$Point" (15 : Nat) "TapestryScene$Point" "x" "J") ∈ WA := wIn 564 (by decide +kernel) (by decide +kernel)
theorem kw565 : (Jvm.Cond.fieldLink "TapestryScene$Bounds" (29 : Nat) "TapestryScene$Point" "x" "J") ∈ WA := wIn 565 (by decide +kernel) (by decide +kernel)
theorem kw566 : (Jvm.Cond.fieldLink "TapestryScene$Point" (18 : Nat) "TapestryScene$Point" "y" "J") ∈ WA := wIn 566 (by decide +kernel) (by decide +kernel)
theorem kw567 : (Jvm.Cond.fieldLink "TapestryScene$Frame" (31 : Nat) "TapestryScene$Point" "y" "J") ∈ WA := wIn 567 (by decide +kernel) (by decide +kernel)
theorem kw568 : (Jvm.Cond.fieldLink "TapestryScene$Bounds" (41 : Nat) "TapestryScene$Point" "y" "J") ∈ WA := wIn 568 (by decide +kernel) (by decide +kernel)
theorem kw569 : (Jvm.Cond.fieldLink "TapestryScene$Point" (9 : Nat) "TapestryScene$Point" "under" "J") ∈ WA := wIn 569 (by decide +kernel) (by decide +kernel)
theorem kw570 : (Jvm.Cond.fieldLink "TapestryScene$Frame" (28 : Nat) "TapestryScene$Point" "under" "J") ∈ WA := wIn 570 (by decide +kernel) (by decide +kernel)
theorem kw571 : (Jvm.Cond.fieldLink "TapestryScene$Bounds" (35 : Nat) "TapestryScene$Point" "under" "J") ∈ WA := wIn 571 (by decide +kernel) (by decide +kernel)
theorem kw572 : (Jvm.Cond.fieldLink "TapestryScene$Point" (21 : Nat) "TapestryScene$Point" "isCutAway" "Z") ∈ WA := wIn 572 (by decide +kernel) (by decide +kernel)
theorem kw573 : (Jvm.Cond.fieldLink "TapestryScene" (407 : Nat) "TapestryScene$Point" "isCutAway" "Z") ∈ WA := wIn 573 (by decide +kernel) (by decide +kernel)
theorem kw583 : (Jvm.Cond.classLink "TapestryScene" (35 : Nat) "TapestryScene$Bounds") ∈ WA := wIn 583 (by decide +kernel) (by decide +kernel)
theorem kw584 : (Jvm.Cond.instantiable "TapestryScene$Bounds" (4 : Nat)) ∈ WA := wIn 584 (by decide +kernel) (by decide +kernel)
theorem kw586 : (Jvm.Cond.instanceMethod ({ cls := "TapestryScene$Bounds", name := "<init>", desc := "()V" } : Jvm.MethodName)) ∈ WA := wIn 586 (by decide +kernel) (by decide +kernel)
theorem kw587 : (Jvm.Cond.code ({ cls := "TapestryScene$Bounds", name := "<init>", desc := "()V" } : Jvm.MethodName) prog_2_method_1_code (1 : Nat) (Option.none : Option Jvm.ClassFile.FieldType)) ∈ WA := wIn 587 (by decide +kernel) (by decide +kernel)
theorem kw588 : (Jvm.Cond.methodLink "TapestryScene$Bounds" (1 : Nat) ({ cls := "java/lang/Object", name := "<init>", desc := "()V" } : Jvm.MethodName)) ∈ WA := wIn 588 (by decide +kernel) (by decide +kernel)
theorem kw589 : (Jvm.Cond.classLink "TapestryScene$Bounds" (7 : Nat) "TapestryScene$Fraction") ∈ WA := wIn 589 (by decide +kernel) (by decide +kernel)
theorem kw590 : (Jvm.Cond.instantiable "TapestryScene$Fraction" (2 : Nat)) ∈ WA := wIn 590 (by decide +kernel) (by decide +kernel)
theorem kw592 : (Jvm.Cond.instanceMethod ({ cls := "TapestryScene$Fraction", name := "<init>", desc := "()V" } : Jvm.MethodName)) ∈ WA := wIn 592 (by decide +kernel) (by decide +kernel)
theorem kw593 : (Jvm.Cond.code ({ cls := "TapestryScene$Fraction", name := "<init>", desc := "()V" } : Jvm.MethodName) prog_3_method_1_code (1 : Nat) (Option.none : Option Jvm.ClassFile.FieldType)) ∈ WA := wIn 593 (by decide +kernel) (by decide +kernel)
theorem kw594 : (Jvm.Cond.methodLink "TapestryScene$Fraction" (1 : Nat) ({ cls := "java/lang/Object", name := "<init>", desc := "()V" } : Jvm.MethodName)) ∈ WA := wIn 594 (by decide +kernel) (by decide +kernel)
theorem kw595 : (Jvm.Cond.fieldLink "TapestryScene$Fraction" (13 : Nat) "TapestryScene$Fraction" "over" "J") ∈ WA := wIn 595 (by decide +kernel) (by decide +kernel)
theorem kw596 : (Jvm.Cond.fieldLink "TapestryScene" (278 : Nat) "TapestryScene$Fraction" "over" "J") ∈ WA := wIn 596 (by decide +kernel) (by decide +kernel)
theorem kw597 : (Jvm.Cond.fieldLink "TapestryScene$Fraction" (19 : Nat) "TapestryScene$Fraction" "under" "J") ∈ WA := wIn 597 (by decide +kernel) (by decide +kernel)
theorem kw598 : (Jvm.Cond.fieldLink "TapestryScene" (273 : Nat) "TapestryScene$Fraction" "under" "J") ∈ WA := wIn 598 (by decide +kernel) (by decide +kernel)
theorem kw604 : (Jvm.Cond.fieldLink "TapestryScene$Bounds" (10 : Nat) "TapestryScene$Bounds" "leastX" "LTapestryScene$Fraction;") ∈ WA := wIn 604 (by decide +kernel) (by decide +kernel)
theorem kw605 : (Jvm.Cond.fieldLink "TapestryScene$Bounds" (16 : Nat) "TapestryScene$Bounds" "leastY" "LTapestryScene$Fraction;") ∈ WA := wIn 605 (by decide +kernel) (by decide +kernel)
theorem kw606 : (Jvm.Cond.fieldLink "TapestryScene$Bounds" (19 : Nat) "TapestryScene$Bounds" "greatestX" "LTapestryScene$Fraction;") ∈ WA := wIn 606 (by decide +kernel) (by decide +kernel)
theorem kw607 : (Jvm.Cond.fieldLink "TapestryScene$Bounds" (22 : Nat) "TapestryScene$Bounds" "greatestY" "LTapestryScene$Fraction;") ∈ WA := wIn 607 (by decide +kernel) (by decide +kernel)
theorem kw617 : (Jvm.Cond.fieldLink "TapestryScene" (11 : Nat) "TapestryScene" "nodes" "[LTapestryScene$Node;") ∈ WA := wIn 617 (by decide +kernel) (by decide +kernel)
theorem kw618 : (Jvm.Cond.fieldLink "TapestryScene" (17 : Nat) "TapestryScene" "tracks" "[LTapestryScene$Property;") ∈ WA := wIn 618 (by decide +kernel) (by decide +kernel)
theorem kw619 : (Jvm.Cond.fieldLink "TapestryScene" (24 : Nat) "TapestryScene" "whole" "LTapestryScene$Node;") ∈ WA := wIn 619 (by decide +kernel) (by decide +kernel)
theorem kw620 : (Jvm.Cond.fieldLink "TapestryScene" (31 : Nat) "TapestryScene" "point" "LTapestryScene$Point;") ∈ WA := wIn 620 (by decide +kernel) (by decide +kernel)
theorem kw621 : (Jvm.Cond.fieldLink "TapestryScene" (38 : Nat) "TapestryScene" "bounds" "LTapestryScene$Bounds;") ∈ WA := wIn 621 (by decide +kernel) (by decide +kernel)
theorem kw622 : (Jvm.Cond.fieldLink "TapestryScene" (42 : Nat) "TapestryScene" "added" "I") ∈ WA := wIn 622 (by decide +kernel) (by decide +kernel)
theorem kw623 : (Jvm.Cond.fieldLink "TapestryScene" (185 : Nat) "TapestryScene" "tracked" "I") ∈ WA := wIn 623 (by decide +kernel) (by decide +kernel)
theorem kw624 : (Jvm.Cond.fieldLink "TapestryScene" (232 : Nat) "TapestryScene" "time" "I") ∈ WA := wIn 624 (by decide +kernel) (by decide +kernel)
theorem kw625 : (Jvm.Cond.fieldLink "TapestryScene" (46 : Nat) "TapestryScene" "last" "LTapestryScene$Node;") ∈ WA := wIn 625 (by decide +kernel) (by decide +kernel)
theorem kw626 : (Jvm.Cond.fieldLink "TapestryScene" (49 : Nat) "TapestryScene" "ordered" "I") ∈ WA := wIn 626 (by decide +kernel) (by decide +kernel)
theorem kw648 : (Jvm.Cond.classLink "TapestrySceneLaw$Loom" (20 : Nat) "[I") ∈ WA := wIn 648 (by decide +kernel) (by decide +kernel)
theorem kw650 : (Jvm.Cond.classLink "TapestrySceneLaw$Loom" (42 : Nat) "[[I") ∈ WA := wIn 650 (by decide +kernel) (by decide +kernel)
theorem kw651 : (Jvm.Cond.methodLink "TapestrySceneLaw$Loom" (52 : Nat) ({ cls := "TapestrySceneLaw$Loom", name := "put", desc := "(IIIII)V" } : Jvm.MethodName)) ∈ WA := wIn 651 (by decide +kernel) (by decide +kernel)
theorem kw653 : (Jvm.Cond.instanceMethod ({ cls := "TapestrySceneLaw$Loom", name := "put", desc := "(IIIII)V" } : Jvm.MethodName)) ∈ WA := wIn 653 (by decide +kernel) (by decide +kernel)
theorem kw654 : (Jvm.Cond.code ({ cls := "TapestrySceneLaw$Loom", name := "put", desc := "(IIIII)V" } : Jvm.MethodName) prog_10_method_3_code (8 : Nat) (Option.none : Option Jvm.ClassFile.FieldType)) ∈ WA := wIn 654 (by decide +kernel) (by decide +kernel)
theorem kw655 : (Jvm.Cond.fieldLink "TapestrySceneLaw$Loom" (10 : Nat) "TapestrySceneLaw$Loom" "m" "LTapestryScene;") ∈ WA := wIn 655 (by decide +kernel) (by decide +kernel)
theorem kw656 : (Jvm.Cond.fieldLink "TapestrySceneLaw" (32 : Nat) "TapestrySceneLaw$Loom" "m" "LTapestryScene;") ∈ WA := wIn 656 (by decide +kernel) (by decide +kernel)
theorem kw657 : (Jvm.Cond.fieldLink "TapestrySceneLaw$Loom" (46 : Nat) "TapestrySceneLaw$Loom" "s" "[I") ∈ WA := wIn 657 (by decide +kernel) (by decide +kernel)
theorem kw658 : (Jvm.Cond.fieldLink "TapestrySceneLaw$Loom" (49 : Nat) "TapestrySceneLaw$Loom" "draws" "I") ∈ WA := wIn 658 (by decide +kernel) (by decide +kernel)
theorem kw659 : (Jvm.Cond.fieldLink "TapestrySceneLaw$Loom" (16 : Nat) "TapestrySceneLaw$Loom" "added" "I") ∈ WA := wIn 659 (by decide +kernel) (by decide +kernel)
theorem kw660 : (Jvm.Cond.fieldLink "TapestrySceneLaw" (70 : Nat) "TapestrySceneLaw$Loom" "added" "I") ∈ WA := wIn 660 (by decide +kernel) (by decide +kernel)
theorem kw661 : (Jvm.Cond.fieldLink "TapestrySceneLaw$Loom" (22 : Nat) "TapestrySceneLaw$Loom" "node" "[[I") ∈ WA := wIn 661 (by decide +kernel) (by decide +kernel)
theorem kw662 : (Jvm.Cond.fieldLink "TapestrySceneLaw" (82 : Nat) "TapestrySceneLaw$Loom" "node" "[[I") ∈ WA := wIn 662 (by decide +kernel) (by decide +kernel)
theorem kw663 : (Jvm.Cond.fieldLink "TapestrySceneLaw$Loom" (26 : Nat) "TapestrySceneLaw$Loom" "own" "[[I") ∈ WA := wIn 663 (by decide +kernel) (by decide +kernel)
theorem kw664 : (Jvm.Cond.fieldLink "TapestrySceneLaw$Loom" (29 : Nat) "TapestrySceneLaw$Loom" "isMirrored" "[Z") ∈ WA := wIn 664 (by decide +kernel) (by decide +kernel)
theorem kw665 : (Jvm.Cond.fieldLink "TapestrySceneLaw$Loom" (33 : Nat) "TapestrySceneLaw$Loom" "isHidden" "[Z") ∈ WA := wIn 665 (by decide +kernel) (by decide +kernel)
theorem kw666 : (Jvm.Cond.fieldLink "TapestrySceneLaw$Loom" (36 : Nat) "TapestrySceneLaw$Loom" "cut" "[[I") ∈ WA := wIn 666 (by decide +kernel) (by decide +kernel)
theorem kw667 : (Jvm.Cond.fieldLink "TapestrySceneLaw$Loom" (66 : Nat) "TapestrySceneLaw$Loom" "hangs" "I") ∈ WA := wIn 667 (by decide +kernel) (by decide +kernel)
theorem kw668 : (Jvm.Cond.fieldLink "TapestrySceneLaw$Loom" (134 : Nat) "TapestrySceneLaw$Loom" "tracks" "I") ∈ WA := wIn 668 (by decide +kernel) (by decide +kernel)
theorem kw669 : (Jvm.Cond.fieldLink "TapestrySceneLaw$Loom" (39 : Nat) "TapestrySceneLaw$Loom" "track" "[[I") ∈ WA := wIn 669 (by decide +kernel) (by decide +kernel)
theorem kw670 : (Jvm.Cond.fieldLink "TapestrySceneLaw$Loom" (43 : Nat) "TapestrySceneLaw$Loom" "keys" "[[I") ∈ WA := wIn 670 (by decide +kernel) (by decide +kernel)
theorem kw671 : (Jvm.Cond.fieldLink "TapestrySceneLaw" (50 : Nat) "TapestrySceneLaw$Loom" "time" "I") ∈ WA := wIn 671 (by decide +kernel) (by decide +kernel)
theorem kw701 : (Jvm.Cond.arrayClass Jvm.ClassFile.FieldType.boolean) ∈ WA := wIn 701 (by decide +kernel) (by decide +kernel)
theorem kw702 : (Jvm.Cond.arrayClass Jvm.ClassFile.FieldType.int) ∈ WA := wIn 702 (by decide +kernel) (by decide +kernel)
theorem kw703 : (Jvm.Cond.methodLink "TapestrySceneLaw" (46 : Nat) ({ cls := "TapestrySceneLaw$Loom", name := "draw", desc := "(I)I" } : Jvm.MethodName)) ∈ WA := wIn 703 (by decide +kernel) (by decide +kernel)
theorem kw704 : (Jvm.Cond.instanceMethod ({ cls := "TapestrySceneLaw$Loom", name := "draw", desc := "(I)I" } : Jvm.MethodName)) ∈ WA := wIn 704 (by decide +kernel) (by decide +kernel)
theorem kw705 : (Jvm.Cond.selects "TapestrySceneLaw$Loom" ({ cls := "TapestrySceneLaw$Loom", name := "draw", desc := "(I)I" } : Jvm.MethodName) ({ cls := "TapestrySceneLaw$Loom", name := "draw", desc := "(I)I" } : Jvm.MethodName)) ∈ WA := wIn 705 (by decide +kernel) (by decide +kernel)
theorem kw706 : (Jvm.Cond.code ({ cls := "TapestrySceneLaw$Loom", name := "draw", desc := "(I)I" } : Jvm.MethodName) prog_10_method_2_code (3 : Nat) (Option.some Jvm.ClassFile.FieldType.int)) ∈ WA := wIn 706 (by decide +kernel) (by decide +kernel)
theorem kw708 : (Jvm.Cond.static ({ cls := "TapestrySceneLaw", name := "cell", desc := "([II)I" } : Jvm.MethodName)) ∈ WA := wIn 708 (by decide +kernel) (by decide +kernel)
theorem kw709 : (Jvm.Cond.code ({ cls := "TapestrySceneLaw", name := "cell", desc := "([II)I" } : Jvm.MethodName) method_3_code (2 : Nat) (Option.some Jvm.ClassFile.FieldType.int)) ∈ WA := wIn 709 (by decide +kernel) (by decide +kernel)
theorem kw710 : (Jvm.Cond.constant "TapestrySceneLaw" (8 : Nat) (790386105 : Int32)) ∈ WA := wIn 710 (by decide +kernel) (by decide +kernel)
theorem kw712 : (Jvm.Cond.static ({ cls := "TapestrySceneLaw", name := "below", desc := "(II)I" } : Jvm.MethodName)) ∈ WA := wIn 712 (by decide +kernel) (by decide +kernel)
theorem kw713 : (Jvm.Cond.code ({ cls := "TapestrySceneLaw", name := "below", desc := "(II)I" } : Jvm.MethodName) method_2_code (2 : Nat) (Option.some Jvm.ClassFile.FieldType.int)) ∈ WA := wIn 713 (by decide +kernel) (by decide +kernel)
theorem kw714 : (Jvm.Cond.constant "TapestrySceneLaw" (7 : Nat) (2147483647 : Int32)) ∈ WA := wIn 714 (by decide +kernel) (by decide +kernel)
theorem kw715 : (Jvm.Cond.methodLink "TapestrySceneLaw" (86 : Nat) ({ cls := "TapestrySceneLaw$Loom", name := "isThere", desc := "(I)Z" } : Jvm.MethodName)) ∈ WA := wIn 715 (by decide +kernel) (by decide +kernel)
theorem kw716 : (Jvm.Cond.instanceMethod ({ cls := "TapestrySceneLaw$Loom", name := "isThere", desc := "(I)Z" } : Jvm.MethodName)) ∈ WA := wIn 716 (by decide +kernel) (by decide +kernel)
theorem kw717 : (Jvm.Cond.selects "TapestrySceneLaw$Loom" ({ cls := "TapestrySceneLaw$Loom", name := "isThere", desc := "(I)Z" } : Jvm.MethodName) ({ cls := "TapestrySceneLaw$Loom", name := "isThere", desc := "(I)Z" } : Jvm.MethodName)) ∈ WA := wIn 717 (by decide +kernel) (by decide +kernel)
theorem kw718 : (Jvm.Cond.code ({ cls := "TapestrySceneLaw$Loom", name := "isThere", desc := "(I)Z" } : Jvm.MethodName) prog_10_method_4_code (2 : Nat) (Option.some Jvm.ClassFile.FieldType.boolean)) ∈ WA := wIn 718 (by decide +kernel) (by decide +kernel)
theorem kw719 : (Jvm.Cond.methodLink "TapestrySceneLaw" (90 : Nat) ({ cls := "TapestrySceneLaw$Loom", name := "any", desc := "()I" } : Jvm.MethodName)) ∈ WA := wIn 719 (by decide +kernel) (by decide +kernel)
theorem kw720 : (Jvm.Cond.instanceMethod ({ cls := "TapestrySceneLaw$Loom", name := "any", desc := "()I" } : Jvm.MethodName)) ∈ WA := wIn 720 (by decide +kernel) (by decide +kernel)
theorem kw721 : (Jvm.Cond.selects "TapestrySceneLaw$Loom" ({ cls := "TapestrySceneLaw$Loom", name := "any", desc := "()I" } : Jvm.MethodName) ({ cls := "TapestrySceneLaw$Loom", name := "any", desc := "()I" } : Jvm.MethodName)) ∈ WA := wIn 721 (by decide +kernel) (by decide +kernel)
theorem kw722 : (Jvm.Cond.code ({ cls := "TapestrySceneLaw$Loom", name := "any", desc := "()I" } : Jvm.MethodName) prog_10_method_5_code (2 : Nat) (Option.some Jvm.ClassFile.FieldType.int)) ∈ WA := wIn 722 (by decide +kernel) (by decide +kernel)
theorem kw723 : (Jvm.Cond.methodLink "TapestrySceneLaw$Loom" (69 : Nat) ({ cls := "TapestrySceneLaw$Loom", name := "draw", desc := "(I)I" } : Jvm.MethodName)) ∈ WA := wIn 723 (by decide +kernel) (by decide +kernel)
theorem kw724 : (Jvm.Cond.methodLink "TapestrySceneLaw$Loom" (73 : Nat) ({ cls := "TapestrySceneLaw$Loom", name := "isThere", desc := "(I)Z" } : Jvm.MethodName)) ∈ WA := wIn 724 (by decide +kernel) (by decide +kernel)
theorem kw725 : (Jvm.Cond.methodLink "TapestrySceneLaw" (143 : Nat) ({ cls := "TapestrySceneLaw$Loom", name := "one", desc := "()I" } : Jvm.MethodName)) ∈ WA := wIn 725 (by decide +kernel) (by decide +kernel)
theorem kw726 : (Jvm.Cond.instanceMethod ({ cls := "TapestrySceneLaw$Loom", name := "one", desc := "()I" } : Jvm.MethodName)) ∈ WA := wIn 726 (by decide +kernel) (by decide +kernel)
theorem kw727 : (Jvm.Cond.selects "TapestrySceneLaw$Loom" ({ cls := "TapestrySceneLaw$Loom", name := "one", desc := "()I" } : Jvm.MethodName) ({ cls := "TapestrySceneLaw$Loom", name := "one", desc := "()I" } : Jvm.MethodName)) ∈ WA := wIn 727 (by decide +kernel) (by decide +kernel)
theorem kw728 : (Jvm.Cond.code ({ cls := "TapestrySceneLaw$Loom", name := "one", desc := "()I" } : Jvm.MethodName) prog_10_method_6_code (3 : Nat) (Option.some Jvm.ClassFile.FieldType.int)) ∈ WA := wIn 728 (by decide +kernel) (by decide +kernel)
theorem kw729 : (Jvm.Cond.methodLink "TapestrySceneLaw$Loom" (77 : Nat) ({ cls := "TapestrySceneLaw$Loom", name := "any", desc := "()I" } : Jvm.MethodName)) ∈ WA := wIn 729 (by decide +kernel) (by decide +kernel)
theorem kw730 : (Jvm.Cond.methodLink "TapestrySceneLaw" (36 : Nat) ({ cls := "TapestrySceneLaw$Loom", name := "add", desc := "()Z" } : Jvm.MethodName)) ∈ WA := wIn 730 (by decide +kernel) (by decide +kernel)
theorem kw731 : (Jvm.Cond.instanceMethod ({ cls := "TapestrySceneLaw$Loom", name := "add", desc := "()Z" } : Jvm.MethodName)) ∈ WA := wIn 731 (by decide +kernel) (by decide +kernel)
theorem kw732 : (Jvm.Cond.selects "TapestrySceneLaw$Loom" ({ cls := "TapestrySceneLaw$Loom", name := "add", desc := "()Z" } : Jvm.MethodName) ({ cls := "TapestrySceneLaw$Loom", name := "add", desc := "()Z" } : Jvm.MethodName)) ∈ WA := wIn 732 (by decide +kernel) (by decide +kernel)
theorem kw733 : (Jvm.Cond.code ({ cls := "TapestrySceneLaw$Loom", name := "add", desc := "()Z" } : Jvm.MethodName) prog_10_method_9_code (5 : Nat) (Option.some Jvm.ClassFile.FieldType.boolean)) ∈ WA := wIn 733 (by decide +kernel) (by decide +kernel)
theorem kw734 : (Jvm.Cond.methodLink "TapestrySceneLaw$Loom" (81 : Nat) ({ cls := "TapestrySceneLaw$Loom", name := "level", desc := "(I)I" } : Jvm.MethodName)) ∈ WA := wIn 734 (by decide +kernel) (by decide +kernel)
theorem kw735 : (Jvm.Cond.instanceMethod ({ cls := "TapestrySceneLaw$Loom", name := "level", desc := "(I)I" } : Jvm.MethodName)) ∈ WA := wIn 735 (by decide +kernel) (by decide +kernel)
theorem kw736 : (Jvm.Cond.selects "TapestrySceneLaw$Loom" ({ cls := "TapestrySceneLaw$Loom", name := "level", desc := "(I)I" } : Jvm.MethodName) ({ cls := "TapestrySceneLaw$Loom", name := "level", desc := "(I)I" } : Jvm.MethodName)) ∈ WA := wIn 736 (by decide +kernel) (by decide +kernel)
theorem kw737 : (Jvm.Cond.code ({ cls := "TapestrySceneLaw$Loom", name := "level", desc := "(I)I" } : Jvm.MethodName) prog_10_method_7_code (2 : Nat) (Option.some Jvm.ClassFile.FieldType.int)) ∈ WA := wIn 737 (by decide +kernel) (by decide +kernel)
theorem kw738 : (Jvm.Cond.methodLink "TapestrySceneLaw$Loom" (88 : Nat) ({ cls := "TapestryScene", name := "add", desc := "(IIII)I" } : Jvm.MethodName)) ∈ WA := wIn 738 (by decide +kernel) (by decide +kernel)
theorem kw739 : (Jvm.Cond.instanceMethod ({ cls := "TapestryScene", name := "add", desc := "(IIII)I" } : Jvm.MethodName)) ∈ WA := wIn 739 (by decide +kernel) (by decide +kernel)
theorem kw740 : (Jvm.Cond.selects "TapestryScene" ({ cls := "TapestryScene", name := "add", desc := "(IIII)I" } : Jvm.MethodName) ({ cls := "TapestryScene", name := "add", desc := "(IIII)I" } : Jvm.MethodName)) ∈ WA := wIn 740 (by decide +kernel) (by decide +kernel)
theorem kw741 : (Jvm.Cond.code ({ cls := "TapestryScene", name := "add", desc := "(IIII)I" } : Jvm.MethodName) prog_1_method_2_code (7 : Nat) (Option.some Jvm.ClassFile.FieldType.int)) ∈ WA := wIn 741 (by decide +kernel) (by decide +kernel)
theorem kw760 : (Jvm.Cond.methodLink "TapestryScene" (78 : Nat) ({ cls := "TapestryScene$Node", name := "takeIn", desc := "(LTapestryScene$Node;)V" } : Jvm.MethodName)) ∈ WA := wIn 760 (by decide +kernel) (by decide +kernel)
theorem kw761 : (Jvm.Cond.instanceMethod ({ cls := "TapestryScene$Node", name := "takeIn", desc := "(LTapestryScene$Node;)V" } : Jvm.MethodName)) ∈ WA := wIn 761 (by decide +kernel) (by decide +kernel)
theorem kw762 : (Jvm.Cond.selects "TapestryScene$Node" ({ cls := "TapestryScene$Node", name := "takeIn", desc := "(LTapestryScene$Node;)V" } : Jvm.MethodName) ({ cls := "TapestryScene$Node", name := "takeIn", desc := "(LTapestryScene$Node;)V" } : Jvm.MethodName)) ∈ WA := wIn 762 (by decide +kernel) (by decide +kernel)
theorem kw763 : (Jvm.Cond.code ({ cls := "TapestryScene$Node", name := "takeIn", desc := "(LTapestryScene$Node;)V" } : Jvm.MethodName) prog_6_method_5_code (4 : Nat) (Option.none : Option Jvm.ClassFile.FieldType)) ∈ WA := wIn 763 (by decide +kernel) (by decide +kernel)
theorem kw764 : (Jvm.Cond.methodLink "TapestryScene" (82 : Nat) ({ cls := "TapestryScene", name := "layOrder", desc := "()V" } : Jvm.MethodName)) ∈ WA := wIn 764 (by decide +kernel) (by decide +kernel)
theorem kw766 : (Jvm.Cond.instanceMethod ({ cls := "TapestryScene", name := "layOrder", desc := "()V" } : Jvm.MethodName)) ∈ WA := wIn 766 (by decide +kernel) (by decide +kernel)
theorem kw767 : (Jvm.Cond.code ({ cls := "TapestryScene", name := "layOrder", desc := "()V" } : Jvm.MethodName) prog_1_method_50_code (1 : Nat) (Option.none : Option Jvm.ClassFile.FieldType)) ∈ WA := wIn 767 (by decide +kernel) (by decide +kernel)
theorem kw768 : (Jvm.Cond.methodLink "TapestryScene" (362 : Nat) ({ cls := "TapestryScene", name := "lay", desc := "(LTapestryScene$Node;I)V" } : Jvm.MethodName)) ∈ WA := wIn 768 (by decide +kernel) (by decide +kernel)
theorem kw770 : (Jvm.Cond.instanceMethod ({ cls := "TapestryScene", name := "lay", desc := "(LTapestryScene$Node;I)V" } : Jvm.MethodName)) ∈ WA := wIn 770 (by decide +kernel) (by decide +kernel)
theorem kw771 : (Jvm.Cond.code ({ cls := "TapestryScene", name := "lay", desc := "(LTapestryScene$Node;I)V" } : Jvm.MethodName) prog_1_method_51_code (3 : Nat) (Option.none : Option Jvm.ClassFile.FieldType)) ∈ WA := wIn 771 (by decide +kernel) (by decide +kernel)
theorem kw772 : (Jvm.Cond.methodLink "TapestryScene" (366 : Nat) ({ cls := "TapestryScene", name := "layHanging", desc := "(LTapestryScene$Node;III)V" } : Jvm.MethodName)) ∈ WA := wIn 772 (by decide +kernel) (by decide +kernel)
theorem kw774 : (Jvm.Cond.instanceMethod ({ cls := "TapestryScene", name := "layHanging", desc := "(LTapestryScene$Node;III)V" } : Jvm.MethodName)) ∈ WA := wIn 774 (by decide +kernel) (by decide +kernel)
theorem kw775 : (Jvm.Cond.code ({ cls := "TapestryScene", name := "layHanging", desc := "(LTapestryScene$Node;III)V" } : Jvm.MethodName) prog_1_method_52_code (7 : Nat) (Option.none : Option Jvm.ClassFile.FieldType)) ∈ WA := wIn 775 (by decide +kernel) (by decide +kernel)
theorem kw776 : (Jvm.Cond.methodLink "TapestrySceneLaw" (43 : Nat) ({ cls := "TapestrySceneLaw$Loom", name := "change", desc := "()Z" } : Jvm.MethodName)) ∈ WA := wIn 776 (by decide +kernel) (by decide +kernel)
theorem kw777 : (Jvm.Cond.instanceMethod ({ cls := "TapestrySceneLaw$Loom", name := "change", desc := "()Z" } : Jvm.MethodName)) ∈ WA := wIn 777 (by decide +kernel) (by decide +kernel)
theorem kw778 : (Jvm.Cond.selects "TapestrySceneLaw$Loom" ({ cls := "TapestrySceneLaw$Loom", name := "change", desc := "()Z" } : Jvm.MethodName) ({ cls := "TapestrySceneLaw$Loom", name := "change", desc := "()Z" } : Jvm.MethodName)) ∈ WA := wIn 778 (by decide +kernel) (by decide +kernel)
theorem kw779 : (Jvm.Cond.code ({ cls := "TapestrySceneLaw$Loom", name := "change", desc := "()Z" } : Jvm.MethodName) prog_10_method_10_code (9 : Nat) (Option.some Jvm.ClassFile.FieldType.boolean)) ∈ WA := wIn 779 (by decide +kernel) (by decide +kernel)
theorem kw780 : (Jvm.Cond.methodLink "TapestrySceneLaw$Loom" (92 : Nat) ({ cls := "TapestrySceneLaw$Loom", name := "one", desc := "()I" } : Jvm.MethodName)) ∈ WA := wIn 780 (by decide +kernel) (by decide +kernel)
theorem kw781 : (Jvm.Cond.methodLink "TapestrySceneLaw$Loom" (95 : Nat) ({ cls := "TapestrySceneLaw$Loom", name := "add", desc := "()Z" } : Jvm.MethodName)) ∈ WA := wIn 781 (by decide +kernel) (by decide +kernel)
theorem kw782 : (Jvm.Cond.methodLink "TapestrySceneLaw$Loom" (98 : Nat) ({ cls := "TapestryScene", name := "move", desc := "(III)I" } : Jvm.MethodName)) ∈ WA := wIn 782 (by decide +kernel) (by decide +kernel)
theorem kw783 : (Jvm.Cond.instanceMethod ({ cls := "TapestryScene", name := "move", desc := "(III)I" } : Jvm.MethodName)) ∈ WA := wIn 783 (by decide +kernel) (by decide +kernel)
theorem kw784 : (Jvm.Cond.selects "TapestryScene" ({ cls := "TapestryScene", name := "move", desc := "(III)I" } : Jvm.MethodName) ({ cls := "TapestryScene", name := "move", desc := "(III)I" } : Jvm.MethodName)) ∈ WA := wIn 784 (by decide +kernel) (by decide +kernel)
theorem kw785 : (Jvm.Cond.code ({ cls := "TapestryScene", name := "move", desc := "(III)I" } : Jvm.MethodName) prog_1_method_5_code (6 : Nat) (Option.some Jvm.ClassFile.FieldType.int)) ∈ WA := wIn 785 (by decide +kernel) (by decide +kernel)
theorem kw786 : (Jvm.Cond.methodLink "TapestryScene" (88 : Nat) ({ cls := "TapestryScene", name := "foundBelowWhole", desc := "(I)LTapestryScene$Node;" } : Jvm.MethodName)) ∈ WA := wIn 786 (by decide +kernel) (by decide +kernel)
theorem kw788 : (Jvm.Cond.instanceMethod ({ cls := "TapestryScene", name := "foundBelowWhole", desc := "(I)LTapestryScene$Node;" } : Jvm.MethodName)) ∈ WA := wIn 788 (by decide +kernel) (by decide +kernel)
theorem kw789 : (Jvm.Cond.code ({ cls := "TapestryScene", name := "foundBelowWhole", desc := "(I)LTapestryScene$Node;" } : Jvm.MethodName) prog_1_method_42_code (3 : Nat) (Option.some (Jvm.ClassFile.FieldType.object "TapestryScene$Node"))) ∈ WA := wIn 789 (by decide +kernel) (by decide +kernel)
theorem kw791 : (Jvm.Cond.methodLink "TapestryScene" (119 : Nat) ({ cls := "TapestryScene$Property", name := "allows", desc := "(I)Z" } : Jvm.MethodName)) ∈ WA := wIn 791 (by decide +kernel) (by decide +kernel)
theorem kw792 : (Jvm.Cond.instanceMethod ({ cls := "TapestryScene$Property", name := "allows", desc := "(I)Z" } : Jvm.MethodName)) ∈ WA := wIn 792 (by decide +kernel) (by decide +kernel)
theorem kw793 : (Jvm.Cond.selects "TapestryScene$Property" ({ cls := "TapestryScene$Property", name := "allows", desc := "(I)Z" } : Jvm.MethodName) ({ cls := "TapestryScene$Property", name := "allows", desc := "(I)Z" } : Jvm.MethodName)) ∈ WA := wIn 793 (by decide +kernel) (by decide +kernel)
theorem kw794 : (Jvm.Cond.code ({ cls := "TapestryScene$Property", name := "allows", desc := "(I)Z" } : Jvm.MethodName) prog_8_method_2_code (2 : Nat) (Option.some Jvm.ClassFile.FieldType.boolean)) ∈ WA := wIn 794 (by decide +kernel) (by decide +kernel)
theorem kw797 : (Jvm.Cond.methodLink "TapestrySceneLaw$Loom" (102 : Nat) ({ cls := "TapestryScene", name := "scale", desc := "(III)I" } : Jvm.MethodName)) ∈ WA := wIn 797 (by decide +kernel) (by decide +kernel)
theorem kw798 : (Jvm.Cond.instanceMethod ({ cls := "TapestryScene", name := "scale", desc := "(III)I" } : Jvm.MethodName)) ∈ WA := wIn 798 (by decide +kernel) (by decide +kernel)
theorem kw799 : (Jvm.Cond.selects "TapestryScene" ({ cls := "TapestryScene", name := "scale", desc := "(III)I" } : Jvm.MethodName) ({ cls := "TapestryScene", name := "scale", desc := "(III)I" } : Jvm.MethodName)) ∈ WA := wIn 799 (by decide +kernel) (by decide +kernel)
theorem kw800 : (Jvm.Cond.code ({ cls := "TapestryScene", name := "scale", desc := "(III)I" } : Jvm.MethodName) prog_1_method_6_code (6 : Nat) (Option.some Jvm.ClassFile.FieldType.int)) ∈ WA := wIn 800 (by decide +kernel) (by decide +kernel)
theorem kw802 : (Jvm.Cond.methodLink "TapestrySceneLaw$Loom" (105 : Nat) ({ cls := "TapestryScene", name := "turn", desc := "(IIZ)I" } : Jvm.MethodName)) ∈ WA := wIn 802 (by decide +kernel) (by decide +kernel)
theorem kw803 : (Jvm.Cond.instanceMethod ({ cls := "TapestryScene", name := "turn", desc := "(IIZ)I" } : Jvm.MethodName)) ∈ WA := wIn 803 (by decide +kernel) (by decide +kernel)
theorem kw804 : (Jvm.Cond.selects "TapestryScene" ({ cls := "TapestryScene", name := "turn", desc := "(IIZ)I" } : Jvm.MethodName) ({ cls := "TapestryScene", name := "turn", desc := "(IIZ)I" } : Jvm.MethodName)) ∈ WA := wIn 804 (by decide +kernel) (by decide +kernel)
theorem kw805 : (Jvm.Cond.code ({ cls := "TapestryScene", name := "turn", desc := "(IIZ)I" } : Jvm.MethodName) prog_1_method_7_code (6 : Nat) (Option.some Jvm.ClassFile.FieldType.int)) ∈ WA := wIn 805 (by decide +kernel) (by decide +kernel)
theorem kw807 : (Jvm.Cond.methodLink "TapestrySceneLaw$Loom" (109 : Nat) ({ cls := "TapestryScene", name := "look", desc := "(IIIZ)I" } : Jvm.MethodName)) ∈ WA := wIn 807 (by decide +kernel) (by decide +kernel)
theorem kw808 : (Jvm.Cond.instanceMethod ({ cls := "TapestryScene", name := "look", desc := "(IIIZ)I" } : Jvm.MethodName)) ∈ WA := wIn 808 (by decide +kernel) (by decide +kernel)
theorem kw809 : (Jvm.Cond.selects "TapestryScene" ({ cls := "TapestryScene", name := "look", desc := "(IIIZ)I" } : Jvm.MethodName) ({ cls := "TapestryScene", name := "look", desc := "(IIIZ)I" } : Jvm.MethodName)) ∈ WA := wIn 809 (by decide +kernel) (by decide +kernel)
theorem kw810 : (Jvm.Cond.code ({ cls := "TapestryScene", name := "look", desc := "(IIIZ)I" } : Jvm.MethodName) prog_1_method_8_code (7 : Nat) (Option.some Jvm.ClassFile.FieldType.int)) ∈ WA := wIn 810 (by decide +kernel) (by decide +kernel)
theorem kw812 : (Jvm.Cond.methodLink "TapestrySceneLaw$Loom" (113 : Nat) ({ cls := "TapestryScene", name := "uncut", desc := "(I)Z" } : Jvm.MethodName)) ∈ WA := wIn 812 (by decide +kernel) (by decide +kernel)
theorem kw813 : (Jvm.Cond.instanceMethod ({ cls := "TapestryScene", name := "uncut", desc := "(I)Z" } : Jvm.MethodName)) ∈ WA := wIn 813 (by decide +kernel) (by decide +kernel)
theorem kw814 : (Jvm.Cond.selects "TapestryScene" ({ cls := "TapestryScene", name := "uncut", desc := "(I)Z" } : Jvm.MethodName) ({ cls := "TapestryScene", name := "uncut", desc := "(I)Z" } : Jvm.MethodName)) ∈ WA := wIn 814 (by decide +kernel) (by decide +kernel)
theorem kw815 : (Jvm.Cond.code ({ cls := "TapestryScene", name := "uncut", desc := "(I)Z" } : Jvm.MethodName) prog_1_method_10_code (4 : Nat) (Option.some Jvm.ClassFile.FieldType.boolean)) ∈ WA := wIn 815 (by decide +kernel) (by decide +kernel)
theorem kw816 : (Jvm.Cond.methodLink "TapestrySceneLaw$Loom" (116 : Nat) ({ cls := "TapestryScene", name := "cut", desc := "(IIIII)Z" } : Jvm.MethodName)) ∈ WA := wIn 816 (by decide +kernel) (by decide +kernel)
theorem kw817 : (Jvm.Cond.instanceMethod ({ cls := "TapestryScene", name := "cut", desc := "(IIIII)Z" } : Jvm.MethodName)) ∈ WA := wIn 817 (by decide +kernel) (by decide +kernel)
theorem kw818 : (Jvm.Cond.selects "TapestryScene" ({ cls := "TapestryScene", name := "cut", desc := "(IIIII)Z" } : Jvm.MethodName) ({ cls := "TapestryScene", name := "cut", desc := "(IIIII)Z" } : Jvm.MethodName)) ∈ WA := wIn 818 (by decide +kernel) (by decide +kernel)
theorem kw819 : (Jvm.Cond.code ({ cls := "TapestryScene", name := "cut", desc := "(IIIII)Z" } : Jvm.MethodName) prog_1_method_9_code (8 : Nat) (Option.some Jvm.ClassFile.FieldType.boolean)) ∈ WA := wIn 819 (by decide +kernel) (by decide +kernel)
theorem kw822 : (Jvm.Cond.classLink "TapestryScene" (167 : Nat) "TapestryScene$Frame") ∈ WA := wIn 822 (by decide +kernel) (by decide +kernel)
theorem kw823 : (Jvm.Cond.methodLink "TapestryScene" (169 : Nat) ({ cls := "TapestryScene$Frame", name := "<init>", desc := "(IIII)V" } : Jvm.MethodName)) ∈ WA := wIn 823 (by decide +kernel) (by decide +kernel)
theorem kw824 : (Jvm.Cond.methodLink "TapestrySceneLaw$Loom" (119 : Nat) ({ cls := "TapestrySceneLaw$Loom", name := "hang", desc := "(II)Z" } : Jvm.MethodName)) ∈ WA := wIn 824 (by decide +kernel) (by decide +kernel)
theorem kw825 : (Jvm.Cond.instanceMethod ({ cls := "TapestrySceneLaw$Loom", name := "hang", desc := "(II)Z" } : Jvm.MethodName)) ∈ WA := wIn 825 (by decide +kernel) (by decide +kernel)
theorem kw826 : (Jvm.Cond.selects "TapestrySceneLaw$Loom" ({ cls := "TapestrySceneLaw$Loom", name := "hang", desc := "(II)Z" } : Jvm.MethodName) ({ cls := "TapestrySceneLaw$Loom", name := "hang", desc := "(II)Z" } : Jvm.MethodName)) ∈ WA := wIn 826 (by decide +kernel) (by decide +kernel)
theorem kw827 : (Jvm.Cond.codeWith ({ cls := "TapestrySceneLaw$Loom", name := "hang", desc := "(II)Z" } : Jvm.MethodName) prog_10_method_12_code (6 : Nat) (Option.some Jvm.ClassFile.FieldType.boolean) [((85 : Nat), (145 : Nat), (146 : Nat), (132 : Nat))]) ∈ WA := wIn 827 (by decide +kernel) (by decide +kernel)
theorem kw828 : (Jvm.Cond.classLink "TapestrySceneLaw$Loom" (132 : Nat) "java/lang/IllegalStateException") ∈ WA := wIn 828 (by decide +kernel) (by decide +kernel)
theorem kw829 : (Jvm.Cond.methodLink "TapestrySceneLaw$Loom" (84 : Nat) ({ cls := "TapestrySceneLaw$Loom", name := "isIn", desc := "(II)Z" } : Jvm.MethodName)) ∈ WA := wIn 829 (by decide +kernel) (by decide +kernel)
theorem kw830 : (Jvm.Cond.instanceMethod ({ cls := "TapestrySceneLaw$Loom", name := "isIn", desc := "(II)Z" } : Jvm.MethodName)) ∈ WA := wIn 830 (by decide +kernel) (by decide +kernel)
theorem kw831 : (Jvm.Cond.selects "TapestrySceneLaw$Loom" ({ cls := "TapestrySceneLaw$Loom", name := "isIn", desc := "(II)Z" } : Jvm.MethodName) ({ cls := "TapestrySceneLaw$Loom", name := "isIn", desc := "(II)Z" } : Jvm.MethodName)) ∈ WA := wIn 831 (by decide +kernel) (by decide +kernel)
theorem kw832 : (Jvm.Cond.code ({ cls := "TapestrySceneLaw$Loom", name := "isIn", desc := "(II)Z" } : Jvm.MethodName) prog_10_method_8_code (3 : Nat) (Option.some Jvm.ClassFile.FieldType.boolean)) ∈ WA := wIn 832 (by decide +kernel) (by decide +kernel)
theorem kw833 : (Jvm.Cond.methodLink "TapestrySceneLaw$Loom" (122 : Nat) ({ cls := "java/lang/Math", name := "max", desc := "(II)I" } : Jvm.MethodName)) ∈ WA := wIn 833 (by decide +kernel) (by decide +kernel)
theorem kw834 : (Jvm.Cond.static ({ cls := "java/lang/Math", name := "max", desc := "(II)I" } : Jvm.MethodName)) ∈ WA := wIn 834 (by decide +kernel) (by decide +kernel)
theorem kw835 : (Jvm.Cond.code ({ cls := "java/lang/Math", name := "max", desc := "(II)I" } : Jvm.MethodName) prog_16_method_65_code (2 : Nat) (Option.some Jvm.ClassFile.FieldType.int)) ∈ WA := wIn 835 (by decide +kernel) (by decide +kernel)
theorem kw836 : (Jvm.Cond.methodLink "TapestrySceneLaw$Loom" (127 : Nat) ({ cls := "TapestryScene", name := "hang", desc := "(II)I" } : Jvm.MethodName)) ∈ WA := wIn 836 (by decide +kernel) (by decide +kernel)
theorem kw837 : (Jvm.Cond.instanceMethod ({ cls := "TapestryScene", name := "hang", desc := "(II)I" } : Jvm.MethodName)) ∈ WA := wIn 837 (by decide +kernel) (by decide +kernel)
theorem kw838 : (Jvm.Cond.selects "TapestryScene" ({ cls := "TapestryScene", name := "hang", desc := "(II)I" } : Jvm.MethodName) ({ cls := "TapestryScene", name := "hang", desc := "(II)I" } : Jvm.MethodName)) ∈ WA := wIn 838 (by decide +kernel) (by decide +kernel)
theorem kw839 : (Jvm.Cond.code ({ cls := "TapestryScene", name := "hang", desc := "(II)I" } : Jvm.MethodName) prog_1_method_4_code (5 : Nat) (Option.some Jvm.ClassFile.FieldType.int)) ∈ WA := wIn 839 (by decide +kernel) (by decide +kernel)
theorem kw841 : (Jvm.Cond.methodLink "TapestryScene" (106 : Nat) ({ cls := "TapestryScene", name := "depthUnder", desc := "(LTapestryScene$Node;)I" } : Jvm.MethodName)) ∈ WA := wIn 841 (by decide +kernel) (by decide +kernel)
theorem kw843 : (Jvm.Cond.instanceMethod ({ cls := "TapestryScene", name := "depthUnder", desc := "(LTapestryScene$Node;)I" } : Jvm.MethodName)) ∈ WA := wIn 843 (by decide +kernel) (by decide +kernel)
theorem kw844 : (Jvm.Cond.code ({ cls := "TapestryScene", name := "depthUnder", desc := "(LTapestryScene$Node;)I" } : Jvm.MethodName) prog_1_method_49_code (4 : Nat) (Option.some Jvm.ClassFile.FieldType.int)) ∈ WA := wIn 844 (by decide +kernel) (by decide +kernel)
theorem kw845 : (Jvm.Cond.methodLink "TapestryScene" (359 : Nat) ({ cls := "java/lang/Math", name := "max", desc := "(II)I" } : Jvm.MethodName)) ∈ WA := wIn 845 (by decide +kernel) (by decide +kernel)
theorem kw847 : (Jvm.Cond.methodLink "TapestryScene" (101 : Nat) ({ cls := "TapestryScene$Node", name := "leaveParent", desc := "()V" } : Jvm.MethodName)) ∈ WA := wIn 847 (by decide +kernel) (by decide +kernel)
theorem kw848 : (Jvm.Cond.instanceMethod ({ cls := "TapestryScene$Node", name := "leaveParent", desc := "()V" } : Jvm.MethodName)) ∈ WA := wIn 848 (by decide +kernel) (by decide +kernel)
theorem kw849 : (Jvm.Cond.selects "TapestryScene$Node" ({ cls := "TapestryScene$Node", name := "leaveParent", desc := "()V" } : Jvm.MethodName) ({ cls := "TapestryScene$Node", name := "leaveParent", desc := "()V" } : Jvm.MethodName)) ∈ WA := wIn 849 (by decide +kernel) (by decide +kernel)
theorem kw850 : (Jvm.Cond.code ({ cls := "TapestryScene$Node", name := "leaveParent", desc := "()V" } : Jvm.MethodName) prog_6_method_6_code (2 : Nat) (Option.none : Option Jvm.ClassFile.FieldType)) ∈ WA := wIn 850 (by decide +kernel) (by decide +kernel)
theorem kw851 : (Jvm.Cond.methodLink "TapestryScene" (112 : Nat) ({ cls := "TapestryScene$Node", name := "countHanging", desc := "()I" } : Jvm.MethodName)) ∈ WA := wIn 851 (by decide +kernel) (by decide +kernel)
theorem kw852 : (Jvm.Cond.instanceMethod ({ cls := "TapestryScene$Node", name := "countHanging", desc := "()I" } : Jvm.MethodName)) ∈ WA := wIn 852 (by decide +kernel) (by decide +kernel)
theorem kw853 : (Jvm.Cond.selects "TapestryScene$Node" ({ cls := "TapestryScene$Node", name := "countHanging", desc := "()I" } : Jvm.MethodName) ({ cls := "TapestryScene$Node", name := "countHanging", desc := "()I" } : Jvm.MethodName)) ∈ WA := wIn 853 (by decide +kernel) (by decide +kernel)
theorem kw854 : (Jvm.Cond.code ({ cls := "TapestryScene$Node", name := "countHanging", desc := "()I" } : Jvm.MethodName) prog_6_method_7_code (3 : Nat) (Option.some Jvm.ClassFile.FieldType.int)) ∈ WA := wIn 854 (by decide +kernel) (by decide +kernel)
theorem kw855 : (Jvm.Cond.methodLink "TapestrySceneLaw$Loom" (129 : Nat) ({ cls := "TapestrySceneLaw$Loom", name := "hanging", desc := "(I)I" } : Jvm.MethodName)) ∈ WA := wIn 855 (by decide +kernel) (by decide +kernel)
theorem kw856 : (Jvm.Cond.instanceMethod ({ cls := "TapestrySceneLaw$Loom", name := "hanging", desc := "(I)I" } : Jvm.MethodName)) ∈ WA := wIn 856 (by decide +kernel) (by decide +kernel)
theorem kw857 : (Jvm.Cond.selects "TapestrySceneLaw$Loom" ({ cls := "TapestrySceneLaw$Loom", name := "hanging", desc := "(I)I" } : Jvm.MethodName) ({ cls := "TapestrySceneLaw$Loom", name := "hanging", desc := "(I)I" } : Jvm.MethodName)) ∈ WA := wIn 857 (by decide +kernel) (by decide +kernel)
theorem kw858 : (Jvm.Cond.code ({ cls := "TapestrySceneLaw$Loom", name := "hanging", desc := "(I)I" } : Jvm.MethodName) prog_10_method_11_code (4 : Nat) (Option.some Jvm.ClassFile.FieldType.int)) ∈ WA := wIn 858 (by decide +kernel) (by decide +kernel)
theorem kw859 : (Jvm.Cond.methodLink "TapestrySceneLaw" (59 : Nat) ({ cls := "TapestrySceneLaw$Loom", name := "remove", desc := "()Z" } : Jvm.MethodName)) ∈ WA := wIn 859 (by decide +kernel) (by decide +kernel)
theorem kw860 : (Jvm.Cond.instanceMethod ({ cls := "TapestrySceneLaw$Loom", name := "remove", desc := "()Z" } : Jvm.MethodName)) ∈ WA := wIn 860 (by decide +kernel) (by decide +kernel)
theorem kw861 : (Jvm.Cond.selects "TapestrySceneLaw$Loom" ({ cls := "TapestrySceneLaw$Loom", name := "remove", desc := "()Z" } : Jvm.MethodName) ({ cls := "TapestrySceneLaw$Loom", name := "remove", desc := "()Z" } : Jvm.MethodName)) ∈ WA := wIn 861 (by decide +kernel) (by decide +kernel)
theorem kw862 : (Jvm.Cond.code ({ cls := "TapestrySceneLaw$Loom", name := "remove", desc := "()Z" } : Jvm.MethodName) prog_10_method_13_code (5 : Nat) (Option.some Jvm.ClassFile.FieldType.boolean)) ∈ WA := wIn 862 (by decide +kernel) (by decide +kernel)
theorem kw863 : (Jvm.Cond.methodLink "TapestrySceneLaw$Loom" (137 : Nat) ({ cls := "TapestryScene", name := "remove", desc := "(I)I" } : Jvm.MethodName)) ∈ WA := wIn 863 (by decide +kernel) (by decide +kernel)
theorem kw864 : (Jvm.Cond.instanceMethod ({ cls := "TapestryScene", name := "remove", desc := "(I)I" } : Jvm.MethodName)) ∈ WA := wIn 864 (by decide +kernel) (by decide +kernel)
theorem kw865 : (Jvm.Cond.selects "TapestryScene" ({ cls := "TapestryScene", name := "remove", desc := "(I)I" } : Jvm.MethodName) ({ cls := "TapestryScene", name := "remove", desc := "(I)I" } : Jvm.MethodName)) ∈ WA := wIn 865 (by decide +kernel) (by decide +kernel)
theorem kw866 : (Jvm.Cond.code ({ cls := "TapestryScene", name := "remove", desc := "(I)I" } : Jvm.MethodName) prog_1_method_3_code (5 : Nat) (Option.some Jvm.ClassFile.FieldType.int)) ∈ WA := wIn 866 (by decide +kernel) (by decide +kernel)
theorem kw867 : (Jvm.Cond.methodLink "TapestryScene" (95 : Nat) ({ cls := "TapestryScene$Node", name := "vanish", desc := "()V" } : Jvm.MethodName)) ∈ WA := wIn 867 (by decide +kernel) (by decide +kernel)
theorem kw868 : (Jvm.Cond.instanceMethod ({ cls := "TapestryScene$Node", name := "vanish", desc := "()V" } : Jvm.MethodName)) ∈ WA := wIn 868 (by decide +kernel) (by decide +kernel)
theorem kw869 : (Jvm.Cond.selects "TapestryScene$Node" ({ cls := "TapestryScene$Node", name := "vanish", desc := "()V" } : Jvm.MethodName) ({ cls := "TapestryScene$Node", name := "vanish", desc := "()V" } : Jvm.MethodName)) ∈ WA := wIn 869 (by decide +kernel) (by decide +kernel)
theorem kw870 : (Jvm.Cond.code ({ cls := "TapestryScene$Node", name := "vanish", desc := "()V" } : Jvm.MethodName) prog_6_method_8_code (1 : Nat) (Option.none : Option Jvm.ClassFile.FieldType)) ∈ WA := wIn 870 (by decide +kernel) (by decide +kernel)
theorem kw871 : (Jvm.Cond.methodLink "TapestryScene$Node" (65 : Nat) ({ cls := "TapestryScene$Property", name := "endTrack", desc := "()V" } : Jvm.MethodName)) ∈ WA := wIn 871 (by decide +kernel) (by decide +kernel)
theorem kw872 : (Jvm.Cond.instanceMethod ({ cls := "TapestryScene$Property", name := "endTrack", desc := "()V" } : Jvm.MethodName)) ∈ WA := wIn 872 (by decide +kernel) (by decide +kernel)
theorem kw873 : (Jvm.Cond.selects "TapestryScene$Property" ({ cls := "TapestryScene$Property", name := "endTrack", desc := "()V" } : Jvm.MethodName) ({ cls := "TapestryScene$Property", name := "endTrack", desc := "()V" } : Jvm.MethodName)) ∈ WA := wIn 873 (by decide +kernel) (by decide +kernel)
theorem kw874 : (Jvm.Cond.code ({ cls := "TapestryScene$Property", name := "endTrack", desc := "()V" } : Jvm.MethodName) prog_8_method_6_code (1 : Nat) (Option.none : Option Jvm.ClassFile.FieldType)) ∈ WA := wIn 874 (by decide +kernel) (by decide +kernel)
theorem kw875 : (Jvm.Cond.methodLink "TapestrySceneLaw" (40 : Nat) ({ cls := "TapestrySceneLaw$Loom", name := "addTrack", desc := "()Z" } : Jvm.MethodName)) ∈ WA := wIn 875 (by decide +kernel) (by decide +kernel)
theorem kw876 : (Jvm.Cond.instanceMethod ({ cls := "TapestrySceneLaw$Loom", name := "addTrack", desc := "()Z" } : Jvm.MethodName)) ∈ WA := wIn 876 (by decide +kernel) (by decide +kernel)
theorem kw877 : (Jvm.Cond.selects "TapestrySceneLaw$Loom" ({ cls := "TapestrySceneLaw$Loom", name := "addTrack", desc := "()Z" } : Jvm.MethodName) ({ cls := "TapestrySceneLaw$Loom", name := "addTrack", desc := "()Z" } : Jvm.MethodName)) ∈ WA := wIn 877 (by decide +kernel) (by decide +kernel)
theorem kw878 : (Jvm.Cond.code ({ cls := "TapestrySceneLaw$Loom", name := "addTrack", desc := "()Z" } : Jvm.MethodName) prog_10_method_14_code (4 : Nat) (Option.some Jvm.ClassFile.FieldType.boolean)) ∈ WA := wIn 878 (by decide +kernel) (by decide +kernel)
theorem kw879 : (Jvm.Cond.methodLink "TapestrySceneLaw$Loom" (140 : Nat) ({ cls := "TapestrySceneLaw$Loom", name := "key", desc := "(I)Z" } : Jvm.MethodName)) ∈ WA := wIn 879 (by decide +kernel) (by decide +kernel)
theorem kw880 : (Jvm.Cond.instanceMethod ({ cls := "TapestrySceneLaw$Loom", name := "key", desc := "(I)Z" } : Jvm.MethodName)) ∈ WA := wIn 880 (by decide +kernel) (by decide +kernel)
theorem kw881 : (Jvm.Cond.selects "TapestrySceneLaw$Loom" ({ cls := "TapestrySceneLaw$Loom", name := "key", desc := "(I)Z" } : Jvm.MethodName) ({ cls := "TapestrySceneLaw$Loom", name := "key", desc := "(I)Z" } : Jvm.MethodName)) ∈ WA := wIn 881 (by decide +kernel) (by decide +kernel)
theorem kw882 : (Jvm.Cond.code ({ cls := "TapestrySceneLaw$Loom", name := "key", desc := "(I)Z" } : Jvm.MethodName) prog_10_method_15_code (6 : Nat) (Option.some Jvm.ClassFile.FieldType.boolean)) ∈ WA := wIn 882 (by decide +kernel) (by decide +kernel)
theorem kw883 : (Jvm.Cond.methodLink "TapestrySceneLaw$Loom" (145 : Nat) ({ cls := "java/lang/System", name := "arraycopy", desc := "(Ljava/lang/Object;ILjava/lang/Object;II)V" } : Jvm.MethodName)) ∈ WA := wIn 883 (by decide +kernel) (by decide +kernel)
theorem kw884 : (Jvm.Cond.static ({ cls := "java/lang/System", name := "arraycopy", desc := "(Ljava/lang/Object;ILjava/lang/Object;II)V" } : Jvm.MethodName)) ∈ WA := wIn 884 (by decide +kernel) (by decide +kernel)
theorem kw885 : (Jvm.Cond.native ({ cls := "java/lang/System", name := "arraycopy", desc := "(Ljava/lang/Object;ILjava/lang/Object;II)V" } : Jvm.MethodName)) ∈ WA := wIn 885 (by decide +kernel) (by decide +kernel)
theorem kw886 : (Jvm.Cond.methodLink "TapestrySceneLaw$Loom" (151 : Nat) ({ cls := "TapestryScene", name := "key", desc := "(III)I" } : Jvm.MethodName)) ∈ WA := wIn 886 (by decide +kernel) (by decide +kernel)
theorem kw887 : (Jvm.Cond.instanceMethod ({ cls := "TapestryScene", name := "key", desc := "(III)I" } : Jvm.MethodName)) ∈ WA := wIn 887 (by decide +kernel) (by decide +kernel)
theorem kw888 : (Jvm.Cond.selects "TapestryScene" ({ cls := "TapestryScene", name := "key", desc := "(III)I" } : Jvm.MethodName) ({ cls := "TapestryScene", name := "key", desc := "(III)I" } : Jvm.MethodName)) ∈ WA := wIn 888 (by decide +kernel) (by decide +kernel)
theorem kw889 : (Jvm.Cond.code ({ cls := "TapestryScene", name := "key", desc := "(III)I" } : Jvm.MethodName) prog_1_method_17_code (5 : Nat) (Option.some Jvm.ClassFile.FieldType.int)) ∈ WA := wIn 889 (by decide +kernel) (by decide +kernel)
theorem kw890 : (Jvm.Cond.methodLink "TapestryScene" (196 : Nat) ({ cls := "TapestryScene", name := "foundTrack", desc := "(I)LTapestryScene$Property;" } : Jvm.MethodName)) ∈ WA := wIn 890 (by decide +kernel) (by decide +kernel)
theorem kw892 : (Jvm.Cond.instanceMethod ({ cls := "TapestryScene", name := "foundTrack", desc := "(I)LTapestryScene$Property;" } : Jvm.MethodName)) ∈ WA := wIn 892 (by decide +kernel) (by decide +kernel)
theorem kw893 : (Jvm.Cond.code ({ cls := "TapestryScene", name := "foundTrack", desc := "(I)LTapestryScene$Property;" } : Jvm.MethodName) prog_1_method_43_code (3 : Nat) (Option.some (Jvm.ClassFile.FieldType.object "TapestryScene$Property"))) ∈ WA := wIn 893 (by decide +kernel) (by decide +kernel)
theorem kw896 : (Jvm.Cond.methodLink "TapestryScene" (207 : Nat) ({ cls := "TapestryScene$Property", name := "keyAt", desc := "(I)LTapestryScene$Key;" } : Jvm.MethodName)) ∈ WA := wIn 896 (by decide +kernel) (by decide +kernel)
theorem kw897 : (Jvm.Cond.instanceMethod ({ cls := "TapestryScene$Property", name := "keyAt", desc := "(I)LTapestryScene$Key;" } : Jvm.MethodName)) ∈ WA := wIn 897 (by decide +kernel) (by decide +kernel)
theorem kw898 : (Jvm.Cond.selects "TapestryScene$Property" ({ cls := "TapestryScene$Property", name := "keyAt", desc := "(I)LTapestryScene$Key;" } : Jvm.MethodName) ({ cls := "TapestryScene$Property", name := "keyAt", desc := "(I)LTapestryScene$Key;" } : Jvm.MethodName)) ∈ WA := wIn 898 (by decide +kernel) (by decide +kernel)
theorem kw899 : (Jvm.Cond.code ({ cls := "TapestryScene$Property", name := "keyAt", desc := "(I)LTapestryScene$Key;" } : Jvm.MethodName) prog_8_method_3_code (3 : Nat) (Option.some (Jvm.ClassFile.FieldType.object "TapestryScene$Key"))) ∈ WA := wIn 899 (by decide +kernel) (by decide +kernel)
theorem kw901 : (Jvm.Cond.methodLink "TapestryScene" (213 : Nat) ({ cls := "TapestryScene$Property", name := "putKey", desc := "(II)V" } : Jvm.MethodName)) ∈ WA := wIn 901 (by decide +kernel) (by decide +kernel)
theorem kw902 : (Jvm.Cond.instanceMethod ({ cls := "TapestryScene$Property", name := "putKey", desc := "(II)V" } : Jvm.MethodName)) ∈ WA := wIn 902 (by decide +kernel) (by decide +kernel)
theorem kw903 : (Jvm.Cond.selects "TapestryScene$Property" ({ cls := "TapestryScene$Property", name := "putKey", desc := "(II)V" } : Jvm.MethodName) ({ cls := "TapestryScene$Property", name := "putKey", desc := "(II)V" } : Jvm.MethodName)) ∈ WA := wIn 903 (by decide +kernel) (by decide +kernel)
theorem kw904 : (Jvm.Cond.code ({ cls := "TapestryScene$Property", name := "putKey", desc := "(II)V" } : Jvm.MethodName) prog_8_method_4_code (5 : Nat) (Option.none : Option Jvm.ClassFile.FieldType)) ∈ WA := wIn 904 (by decide +kernel) (by decide +kernel)
theorem kw905 : (Jvm.Cond.classLink "TapestryScene$Property" (30 : Nat) "TapestryScene$Key") ∈ WA := wIn 905 (by decide +kernel) (by decide +kernel)
theorem kw906 : (Jvm.Cond.instantiable "TapestryScene$Key" (3 : Nat)) ∈ WA := wIn 906 (by decide +kernel) (by decide +kernel)
theorem kw907 : (Jvm.Cond.methodLink "TapestryScene$Property" (37 : Nat) ({ cls := "TapestryScene$Key", name := "<init>", desc := "(II)V" } : Jvm.MethodName)) ∈ WA := wIn 907 (by decide +kernel) (by decide +kernel)
theorem kw908 : (Jvm.Cond.instanceMethod ({ cls := "TapestryScene$Key", name := "<init>", desc := "(II)V" } : Jvm.MethodName)) ∈ WA := wIn 908 (by decide +kernel) (by decide +kernel)
theorem kw909 : (Jvm.Cond.code ({ cls := "TapestryScene$Key", name := "<init>", desc := "(II)V" } : Jvm.MethodName) prog_5_method_1_code (3 : Nat) (Option.none : Option Jvm.ClassFile.FieldType)) ∈ WA := wIn 909 (by decide +kernel) (by decide +kernel)
theorem kw910 : (Jvm.Cond.methodLink "TapestryScene$Key" (1 : Nat) ({ cls := "java/lang/Object", name := "<init>", desc := "()V" } : Jvm.MethodName)) ∈ WA := wIn 910 (by decide +kernel) (by decide +kernel)
theorem kw911 : (Jvm.Cond.fieldLink "TapestryScene$Key" (7 : Nat) "TapestryScene$Key" "time" "I") ∈ WA := wIn 911 (by decide +kernel) (by decide +kernel)
theorem kw912 : (Jvm.Cond.fieldLink "TapestryScene$Property" (29 : Nat) "TapestryScene$Key" "time" "I") ∈ WA := wIn 912 (by decide +kernel) (by decide +kernel)
theorem kw913 : (Jvm.Cond.fieldLink "TapestryScene$Key" (13 : Nat) "TapestryScene$Key" "value" "I") ∈ WA := wIn 913 (by decide +kernel) (by decide +kernel)
theorem kw914 : (Jvm.Cond.fieldLink "TapestryScene$Property" (34 : Nat) "TapestryScene$Key" "value" "I") ∈ WA := wIn 914 (by decide +kernel) (by decide +kernel)
theorem kw915 : (Jvm.Cond.fieldLink "TapestryScene$Property" (44 : Nat) "TapestryScene$Key" "next" "LTapestryScene$Key;") ∈ WA := wIn 915 (by decide +kernel) (by decide +kernel)
theorem kw923 : (Jvm.Cond.methodLink "TapestrySceneLaw$Loom" (143 : Nat) ({ cls := "TapestryScene", name := "track", desc := "(IIII)I" } : Jvm.MethodName)) ∈ WA := wIn 923 (by decide +kernel) (by decide +kernel)
theorem kw924 : (Jvm.Cond.instanceMethod ({ cls := "TapestryScene", name := "track", desc := "(IIII)I" } : Jvm.MethodName)) ∈ WA := wIn 924 (by decide +kernel) (by decide +kernel)
theorem kw925 : (Jvm.Cond.selects "TapestryScene" ({ cls := "TapestryScene", name := "track", desc := "(IIII)I" } : Jvm.MethodName) ({ cls := "TapestryScene", name := "track", desc := "(IIII)I" } : Jvm.MethodName)) ∈ WA := wIn 925 (by decide +kernel) (by decide +kernel)
theorem kw926 : (Jvm.Cond.code ({ cls := "TapestryScene", name := "track", desc := "(IIII)I" } : Jvm.MethodName) prog_1_method_16_code (7 : Nat) (Option.some Jvm.ClassFile.FieldType.int)) ∈ WA := wIn 926 (by decide +kernel) (by decide +kernel)
theorem kw927 : (Jvm.Cond.methodLink "TapestryScene" (176 : Nat) ({ cls := "TapestryScene$Node", name := "property", desc := "(I)LTapestryScene$Property;" } : Jvm.MethodName)) ∈ WA := wIn 927 (by decide +kernel) (by decide +kernel)
theorem kw928 : (Jvm.Cond.instanceMethod ({ cls := "TapestryScene$Node", name := "property", desc := "(I)LTapestryScene$Property;" } : Jvm.MethodName)) ∈ WA := wIn 928 (by decide +kernel) (by decide +kernel)
theorem kw929 : (Jvm.Cond.selects "TapestryScene$Node" ({ cls := "TapestryScene$Node", name := "property", desc := "(I)LTapestryScene$Property;" } : Jvm.MethodName) ({ cls := "TapestryScene$Node", name := "property", desc := "(I)LTapestryScene$Property;" } : Jvm.MethodName)) ∈ WA := wIn 929 (by decide +kernel) (by decide +kernel)
theorem kw930 : (Jvm.Cond.code ({ cls := "TapestryScene$Node", name := "property", desc := "(I)LTapestryScene$Property;" } : Jvm.MethodName) prog_6_method_2_code (2 : Nat) (Option.some (Jvm.ClassFile.FieldType.object "TapestryScene$Property"))) ∈ WA := wIn 930 (by decide +kernel) (by decide +kernel)
theorem kw933 : (Jvm.Cond.methodLink "TapestrySceneLaw" (97 : Nat) ({ cls := "java/lang/Math", name := "abs", desc := "(I)I" } : Jvm.MethodName)) ∈ WA := wIn 933 (by decide +kernel) (by decide +kernel)
theorem kw934 : (Jvm.Cond.static ({ cls := "java/lang/Math", name := "abs", desc := "(I)I" } : Jvm.MethodName)) ∈ WA := wIn 934 (by decide +kernel) (by decide +kernel)
theorem kw935 : (Jvm.Cond.code ({ cls := "java/lang/Math", name := "abs", desc := "(I)I" } : Jvm.MethodName) prog_16_method_59_code (1 : Nat) (Option.some Jvm.ClassFile.FieldType.int)) ∈ WA := wIn 935 (by decide +kernel) (by decide +kernel)
theorem kw936 : (Jvm.Cond.methodLink "TapestrySceneLaw" (119 : Nat) ({ cls := "java/lang/Math", name := "max", desc := "(II)I" } : Jvm.MethodName)) ∈ WA := wIn 936 (by decide +kernel) (by decide +kernel)
theorem kw937 : (Jvm.Cond.methodLink "TapestrySceneLaw" (123 : Nat) ({ cls := "java/lang/Math", name := "min", desc := "(II)I" } : Jvm.MethodName)) ∈ WA := wIn 937 (by decide +kernel) (by decide +kernel)
theorem kn220 : (Jvm.Cond.methodLinkNest "TapestryScene$Point" (64 : Nat) ({ cls := "TapestryScene", name := "commonDivisor", desc := "(JJ)J" } : Jvm.MethodName) "TapestryScene") ∈ fNw := nIn 220 (by decide +kernel) (by decide +kernel)
theorem kn259 : (Jvm.Cond.methodLinkNest "TapestryScene$Fraction" (7 : Nat) ({ cls := "TapestryScene", name := "commonDivisor", desc := "(JJ)J" } : Jvm.MethodName) "TapestryScene") ∈ fNw := nIn 259 (by decide +kernel) (by decide +kernel)
theorem kn410 : (Jvm.Cond.arrayOver (Jvm.ClassFile.FieldType.object "TapestryScene$Node")) ∈ fNw := nIn 410 (by decide +kernel) (by decide +kernel)
theorem kn412 : (Jvm.Cond.arrayOver (Jvm.ClassFile.FieldType.object "TapestryScene$Property")) ∈ fNw := nIn 412 (by decide +kernel) (by decide +kernel)
theorem kn559 : (Jvm.Cond.methodLinkNest "TapestryScene" (30 : Nat) ({ cls := "TapestryScene$Point", name := "<init>", desc := "()V" } : Jvm.MethodName) "TapestryScene") ∈ fNw := nIn 559 (by decide +kernel) (by decide +kernel)
theorem kn585 : (Jvm.Cond.methodLinkNest "TapestryScene" (37 : Nat) ({ cls := "TapestryScene$Bounds", name := "<init>", desc := "()V" } : Jvm.MethodName) "TapestryScene") ∈ fNw := nIn 585 (by decide +kernel) (by decide +kernel)
theorem kn591 : (Jvm.Cond.methodLinkNest "TapestryScene$Bounds" (9 : Nat) ({ cls := "TapestryScene$Fraction", name := "<init>", desc := "()V" } : Jvm.MethodName) "TapestryScene") ∈ fNw := nIn 591 (by decide +kernel) (by decide +kernel)
theorem kn707 : (Jvm.Cond.methodLinkNest "TapestrySceneLaw$Loom" (56 : Nat) ({ cls := "TapestrySceneLaw", name := "cell", desc := "([II)I" } : Jvm.MethodName) "TapestrySceneLaw") ∈ fNw := nIn 707 (by decide +kernel) (by decide +kernel)
theorem kn711 : (Jvm.Cond.methodLinkNest "TapestrySceneLaw$Loom" (62 : Nat) ({ cls := "TapestrySceneLaw", name := "below", desc := "(II)I" } : Jvm.MethodName) "TapestrySceneLaw") ∈ fNw := nIn 711 (by decide +kernel) (by decide +kernel)
theorem kn746 : (Jvm.Cond.castable "java/lang/IllegalStateException" "java/lang/IllegalStateException") ∈ fNw := nIn 746 (by decide +kernel) (by decide +kernel)
theorem kn795 : (Jvm.Cond.methodLinkNest "TapestryScene$Property" (21 : Nat) ({ cls := "TapestryScene", name := "isFrom", desc := "(III)Z" } : Jvm.MethodName) "TapestryScene") ∈ fNw := nIn 795 (by decide +kernel) (by decide +kernel)
theorem th_RX7_290_294_0 : TH RX7 290 294 0 := ⟨by decide +kernel, by decide +kernel, by decide +kernel, by decide +kernel, by decide +kernel⟩
theorem th_RX7_60_64_1 : TH RX7 60 64 1 := ⟨by decide +kernel, by decide +kernel, by decide +kernel, by decide +kernel, by decide +kernel⟩
theorem th_RX7_73_77_2 : TH RX7 73 77 2 := ⟨by decide +kernel, by decide +kernel, by decide +kernel, by decide +kernel, by decide +kernel⟩
theorem st_RX7_104 : ("TapestryScene", 104, "a node can't hang in itself, and the whole in none") ∈ fStr := by decide +kernel
theorem st_RX7_110 : ("TapestryScene", 110, "a level would be above 4") ∈ fStr := by decide +kernel
theorem st_RX7_126 : ("TapestryScene", 126, "x or y is not -200 to 200") ∈ fStr := by decide +kernel
theorem st_RX7_131 : ("TapestryScene", 131, "over or under is not 1 to 4") ∈ fStr := by decide +kernel
theorem st_RX7_142 : ("TapestryScene", 142, "turns is not 0 to 3") ∈ fStr := by decide +kernel
theorem st_RX7_151 : ("TapestryScene", 151, "layer is not -9 to 9, or opacity not 0 to 100") ∈ fStr := by decide +kernel
theorem st_RX7_159 : ("TapestryScene", 159, "left or right is not -200 to 200, or left above right") ∈ fStr := by decide +kernel
theorem st_RX7_161 : ("TapestryScene", 161, "top or bottom is not -200 to 200, or top above bottom") ∈ fStr := by decide +kernel
theorem st_RX7_180 : ("TapestryScene", 180, "no such property, ease or end") ∈ fStr := by decide +kernel
theorem st_RX7_188 : ("TapestryScene", 188, "the whole, 12 tracks, or one of this property") ∈ fStr := by decide +kernel
theorem st_RX7_199 : ("TapestryScene", 199, "time is not 0 to 999, or the property can't have the value") ∈ fStr := by decide +kernel
theorem st_RX7_211 : ("TapestryScene", 211, "the node is gone, or there are 8 keys") ∈ fStr := by decide +kernel
theorem st_RX7_264 : ("TapestryScene", 264, "side is not 0 to 3") ∈ fStr := by decide +kernel
theorem st_RX7_292 : ("TapestryScene", 292, "no such place") ∈ fStr := by decide +kernel
theorem st_RX7_310 : ("TapestryScene", 310, "most is not 1 to 100") ∈ fStr := by decide +kernel
theorem st_RX7_343 : ("TapestryScene", 343, "no such node, or it is gone") ∈ fStr := by decide +kernel
theorem st_RX7_345 : ("TapestryScene", 345, "it is the whole") ∈ fStr := by decide +kernel
theorem st_RX7_347 : ("TapestryScene", 347, "no such track") ∈ fStr := by decide +kernel
theorem st_RX7_349 : ("TapestryScene", 349, "a time is not 0 to 9999") ∈ fStr := by decide +kernel
theorem st_RX7_351 : ("TapestryScene", 351, "x or y is not -1000 to 1000") ∈ fStr := by decide +kernel
theorem st_RX7_353 : ("TapestryScene", 353, "what is not 0 to 3") ∈ fStr := by decide +kernel
theorem st_RX7_355 : ("TapestryScene", 355, "x or y is not -10000 to 10000") ∈ fStr := by decide +kernel
theorem st_RX7_357 : ("TapestryScene", 357, "under is not 1 to 60") ∈ fStr := by decide +kernel
theorem st_RX7_62 : ("TapestryScene", 62, "no such kind") ∈ fStr := by decide +kernel
theorem st_RX7_67 : ("TapestryScene", 67, "width or height is not 1 to 200") ∈ fStr := by decide +kernel
theorem st_RX7_75 : ("TapestryScene", 75, "30 nodes were added, or the parent is too deep") ∈ fStr := by decide +kernel
end
section
theorem fci {α β γ : Type} {f : α → γ} {g : β → γ} {v : α} {r : γ} (h : Sum.elim f g (.inl v) = r) : f v = r := h
theorem fcr {α β γ : Type} {f : α → γ} {g : β → γ} {v : β} {r : γ} (h : Sum.elim f g (.inr v) = r) : g v = r := h
section FH5
variable {p : Program} {l : Launch} {e : Env} {R : Room} {s : State} {m : MethodId} {args : Array Value} {below : List Frame} {meth : Method} {c : Code} {H : Heap} {locs : List Loc} {cells slots : Nat} {Q : State → Prop}
variable {D : va_G} {cA : Nat → ClassId} {h0 h h2 : fSt} {cc : ByteArray} {pc : Nat} {ls : Array Slot} {rest : List Value}
/-- anewarray -/
theorem fr_newqN (hexec : p.tables.exec = Jvm.exec) (hb : c.code = cc) (hts : ∀ w ∈ WA, w.before args s = true) {own C : String} {index : Nat} (hown : s.vm.findClass own = some m.cls) (K : fKw D cA h0 s) (hC : fCur D cA s h0 h H locs) (hR : R.cells = fCB h0 - fZ h0 ∧ R.slots = fLB h0 - fL h0) {t : Nat} (ht : ftl[t]? = some (.object C)) (hcl : Cond.classLink own index C ∈ WA) (hover : Cond.arrayOver (.object C) ∈ fNw) {n : Int32} {r : Nat × fSt} (hn : ¬ n < 0) (hg : fnew h (.inr (t, n.toNatClampNeg, .inr (.inr (.inr (.inr (fun _ => none)))))) n.toNatClampNeg = some r) (hbytes : n.toNatClampNeg * 4 ≤ 536870912) (hdg : decode cc pc = .ok (.anewarray index, 3))
    (kk : ∀ (H1 : Heap) (k n : Nat), fCur D cA s h0 r.2 H1 locs → W p l e R s m args below meth c H1 locs k n Q (F0 m (pc + 3) ls (va_rf (some r.1) :: rest))) : W p l e R s m args below meth c H locs cells slots Q (F0 m pc ls (.int n :: rest)) := by
  obtain ⟨g1, g2, rfl⟩ := fnew_inv hg
  refine fr_tight hC ?_
  obtain ⟨c1, c2, c3, c4, c5, c6, c7⟩ := id hC
  obtain ⟨d1, d2, d3, d4, -⟩ := c4
  refine W.anew hexec hb hown (hts _ hcl) (va_AO.use (K.2.2.2.2.2.1 _ hover)) rfl hdg rfl hn hbytes (by rw [hR.1]; omega) (by rw [hR.2]; omega) fun cB kA comp f1 f2 f3 f4 => ?_
  have hcB : cB = cA t := by
    obtain ⟨kA', comp', -, -, -, h4⟩ := (K.1.2 t _ (fTys_at ht)).2
    exact Option.some.inj (f1.symm.trans h4)
  subst hcB
  generalize hH1 : H.push ({ cls := cA t, slots := Array.replicate n.toNatClampNeg .null, vm := .none } : Cell) = H1
  have z1 : H1.size = H.size + 1 := by rw [← hH1, Array.size_push]
  have e1 : H1[H.size]? = some (arrV (cA t) n.toNatClampNeg (fun _ => .null)) := by rw [← hH1, Array.getElem?_push_size, ← arrV_new]
  have o1 : ∀ q : Nat, q < H.size → H1[q]? = H[q]? := fun q hq => by rw [← hH1, Array.getElem?_push, if_neg (Nat.ne_of_lt hq)]
  have hat : va_at D fcl (H.size, fE cA (.inr (t, n.toNatClampNeg, .inr (.inr (.inr (.inr (fun _ => none))))))) H1 := e1
  have hcu := hC.push (n := n.toNatClampNeg) hat z1 e1 (by rw [arrV_size]; exact Nat.le_refl _) o1 g1 g2
  have hk := kk H1 (fZ h - fZ h0 + 1) (fL h - fL h0 + n.toNatClampNeg) hcu
  rw [c2]
  exact hk
end FH5
section FH20
variable {p : Program} {l : Launch} {e : Env} {R : Room} {s : State} {m : MethodId} {args : Array Value} {below : List Frame} {meth : Method} {c : Code} {H : Heap} {locs : List Loc} {cells slots : Nat} {Q : State → Prop}
variable {D : va_G} {cA : Nat → ClassId} {h0 h h2 : fSt} {cc : ByteArray} {pc : Nat} {ls : Array Slot} {rest : List Value}
/-- the script read -/
def fxl (h : fSt) (r : Option Nat) : Option Int32 := if r = some (fX h).1 then some (Int32.ofNat (fX h).2.1) else none
def fxI (h : fSt) (r : Option Nat) (i : Int32) : Option Int32 := if r = some (fX h).1 then (if i < 0 ∨ (fX h).2.1 ≤ i.toNatClampNeg then none else some ((fX h).2.2 i.toNatClampNeg)) else none
theorem fr_xlen (hexec : p.tables.exec = Jvm.exec) (hb : c.code = cc) (K : fKw D cA h0 s) (hC : fCur D cA s h0 h H locs) {r : Option Nat} {x : Int32} (hg : fxl h r = some x) (hdg : decode cc pc = .ok (.arraylength, 1))
    (kk : W p l e R s m args below meth c H locs cells slots Q (F0 m (pc + 1) ls (.int x :: rest))) : W p l e R s m args below meth c H locs cells slots Q (F0 m pc ls (va_rf r :: rest)) := by
  obtain ⟨k1, k2, k3⟩ := K.2.2.2.2.2.2.1
  have e1 : fX h = fX h0 := hC.2.2.2.1.2.2.2.2.2
  unfold fxl at hg
  by_cases q : r = some (fX h).1
  · rw [if_pos q] at hg
    cases hg
    subst q
    rw [e1] at kk ⊢
    exact va_slen hexec hb k1 k2 k3 hC.2.2.2.2.2.1 hdg kk
  · rw [if_neg q] at hg; cases hg
theorem fr_xld (hexec : p.tables.exec = Jvm.exec) (hb : c.code = cc) (K : fKw D cA h0 s) (hC : fCur D cA s h0 h H locs) {r : Option Nat} {i x : Int32} (hg : fxI h r i = some x) (hdg : decode cc pc = .ok (.iaload, 1))
    (kk : W p l e R s m args below meth c H locs cells slots Q (F0 m (pc + 1) ls (.int x :: rest))) : W p l e R s m args below meth c H locs cells slots Q (F0 m pc ls (.int i :: va_rf r :: rest)) := by
  obtain ⟨k1, k2, k3⟩ := K.2.2.2.2.2.2.1
  have e1 : fX h = fX h0 := hC.2.2.2.1.2.2.2.2.2
  unfold fxI at hg
  by_cases q : r = some (fX h).1
  · rw [if_pos q] at hg
    by_cases q2 : i < 0 ∨ (fX h).2.1 ≤ i.toNatClampNeg
    · rw [if_pos q2] at hg; cases hg
    · rw [if_neg q2] at hg
      cases hg
      subst q
      rw [e1] at kk q2 ⊢
      exact va_sld hexec hb k1 k2 k3 hC.2.2.2.2.2.1 q2 hdg kk
  · rw [if_neg q] at hg; cases hg
/-- a row of an array of rows -/
theorem fr_aaldA (hexec : p.tables.exec = Jvm.exec) (hb : c.code = cc) (K : fKw D cA h0 s) (hC : fCur D cA s h0 h H locs) {t : Nat} (ht : ftl[t]? = some (.array .int)) {r : Option Nat} {i : Int32} {x : Option Nat} (hg : faR h r t i = some x) (hdg : decode cc pc = .ok (.aaload, 1))
    (kk : W p l e R s m args below meth c H locs cells slots Q (F0 m (pc + 1) ls (va_rf x :: rest))) : W p l e R s m args below meth c H locs cells slots Q (F0 m pc ls (.int i :: va_rf r :: rest)) := by
  obtain ⟨a, n, f, rfl, hF, hin, rfl⟩ := faR_inv hg
  have hlt : i.toNatClampNeg < n := Nat.not_le.mp fun q => hin (Or.inr q)
  have hc : H[a]? = some (vp_cell (cA t) (n, .inr (.inr (.inr (.inr f))))) := hC.1 a _ hF
  refine W.aald (v := va_rf (f i.toNatClampNeg)) (ty := .array .int) hexec hb hc ((K.1.2 t _ (fTys_at ht)).1 n (fun j => va_rf (f j))) rfl (fun q => by cases q) ?_ ?_ rfl rfl hdg kk
  · show ¬ (i < 0 ∨ (arrV _ _ _).slots.size ≤ _)
    rw [arrV_size]; exact hin
  · show (arrV _ _ _).slots[_]? = _
    rw [arrV_read _ _ hlt]
theorem mu_asg (vm : Vm) (q : ClassId) : vm.assignable q q = true := by
  show Vm.assignableAux vm (255 + 1) q q = true
  unfold Vm.assignableAux
  rw [beq_self_eq_true, Bool.true_or]
/-- a store of a row (an array of kind t0), or null -/
def fsA (h : fSt) (r : Option Nat) (t t0 : Nat) (i : Int32) (x : Option Nat) : Option fSt := match r, farr h r t with
  | some a, some (n, .inr (.inr (.inr (.inr f)))) => if i < 0 ∨ n ≤ i.toNatClampNeg then none else match x with
    | none => some (fSet h a (.inr (t, n, .inr (.inr (.inr (.inr (va_up f i.toNatClampNeg none)))))))
    | some v => match fF h v with
      | some (.inr (u, _)) => if u = t0 then some (fSet h a (.inr (t, n, .inr (.inr (.inr (.inr (va_up f i.toNatClampNeg (some v)))))))) else none
      | _ => none
  | _, _ => none
theorem fsA_inv {r x : Option Nat} {t t0 : Nat} {i : Int32} (h1 : fsA h r t t0 i x = some h2) : ∃ (a n : Nat) (f : Nat → Option Nat), r = some a ∧ fF h a = some (.inr (t, n, .inr (.inr (.inr (.inr f))))) ∧ vp_in i n ∧ h2 = fSet h a (.inr (t, n, .inr (.inr (.inr (.inr (va_up f i.toNatClampNeg x)))))) ∧ (x = none ∨ ∃ v y, x = some v ∧ fF h v = some (.inr (t0, y))) := by
  unfold fsA at h1
  split at h1
  · rename_i a n f hq
    obtain ⟨b, h2', h3⟩ := farr_inv hq
    cases h2'
    by_cases z : i < 0 ∨ n ≤ i.toNatClampNeg
    · rw [if_pos z] at h1; cases h1
    · rw [if_neg z] at h1
      split at h1
      · cases h1
        exact ⟨a, n, f, rfl, h3, z, rfl, Or.inl rfl⟩
      · rename_i v
        split at h1
        · rename_i u y hv
          by_cases w : u = t0
          · subst w
            rw [if_pos (Eq.refl _)] at h1
            cases h1
            exact ⟨a, n, f, rfl, h3, z, rfl, Or.inr ⟨v, y, rfl, hv⟩⟩
          · rw [if_neg w] at h1; cases h1
        · cases h1
  · cases h1
theorem fr_aastA (hexec : p.tables.exec = Jvm.exec) (hb : c.code = cc) (K : fKw D cA h0 s) (hC : fCur D cA s h0 h H locs) (ht : ftl[4]? = some (.array .int)) (ht0 : ftl[0]? = some .int) {r x : Option Nat} {i : Int32} (hg : fsA h r 4 0 i x = some h2) (hdg : decode cc pc = .ok (.aastore, 1))
    (kk : ∀ (H1 : Heap) (locs1 : List Loc), fCur D cA s h0 h2 H1 locs1 → W p l e R s m args below meth c H1 locs1 cells slots Q (F0 m (pc + 1) ls rest)) : W p l e R s m args below meth c H locs cells slots Q (F0 m pc ls (va_rf x :: .int i :: va_rf r :: rest)) := by
  obtain ⟨a, n, f, rfl, hF, hin, rfl, hx⟩ := fsA_inv hg
  have hlt : i.toNatClampNeg < n := Nat.not_le.mp fun q => hin (Or.inr q)
  have hneg : ¬ i < 0 := fun q => hin (Or.inl q)
  have hcell : H[a]? = some (vp_cell (cA 4) (n, .inr (.inr (.inr (.inr f))))) := hC.1 a _ hF
  obtain ⟨-, -, ⟨kA, k1, k2⟩, kI, cI, k3, k4⟩ := K.2.2.2.2.2.2.2
  have fin : ∀ H1 : Heap, H1[a]? = some ((vp_cell (cA 4) (n, .inr (.inr (.inr (.inr f))))).setSlot i.toNatClampNeg (va_rf x)) → H1[a]? = some (vp_cell (cA 4) (n, .inr (.inr (.inr (.inr (va_up f i.toNatClampNeg x)))))) := by
    intro H1 e
    rw [e, vp_cell_q, vp_cell_q, arrV_store]
    congr 2
    funext q
    by_cases hq : q = i.toNatClampNeg
    · subst hq
      simp [updV, va_up]
    · simp [updV, va_up, hq]
  have hbd : ¬ i < 0 ∧ i.toNatClampNeg < (vp_cell (cA 4) (n, .inr (.inr (.inr (.inr f))))).slots.size := ⟨hneg, by show _ < (arrV _ _ _).slots.size; rw [arrV_size]; exact hlt⟩
  rcases hx with rfl | ⟨v, y, rfl, hV⟩
  · intro T hT X
    have hT' : T.heap[a]? = some (vp_cell (cA 4) (n, .inr (.inr (.inr (.inr f))))) := by rw [hT]; exact hcell
    obtain ⟨X', st⟩ := X.aastoreNullInK hexec hT' (fun q h => by cases h) (fun h => by cases h) k1 k2 rfl hbd (g := F0 m pc ls (.null :: .int i :: .ref a :: rest)) rfl rfl (by rw [hb]; exact hdg)
    have hlt2 : a < T.heap.size := (Array.getElem?_eq_some_iff.mp hT').1
    have e := heapAt_setCell_self (s := T) ((vp_cell (cA 4) (n, .inr (.inr (.inr (.inr f))))).setSlot i.toNatClampNeg .null) hlt2
    have oq : ∀ q, q ≠ a → (T.setCell a ((vp_cell (cA 4) (n, .inr (.inr (.inr (.inr f))))).setSlot i.toNatClampNeg .null)).heap[q]? = H[q]? := fun q hq => by rw [heapAt_setCell_ne _ (Ne.symm hq), hT]
    obtain ⟨t', a1, b1⟩ := kk _ _ (hC.set hF (fin _ e) (by rw [size_setCell, hT]) oq (fW_put hcell e oq)) (T.setCell a _) rfl X'
    exact ⟨t', st t' a1, b1⟩
  · have hv : H[v]? = some (vp_cell (cA 0) y) := hC.1 v _ hV
    have hvv : (vp_cell (cA 0) y).cls = cA 0 ∧ (vp_cell (cA 0) y).vm = .none := by
      obtain ⟨yn, yc⟩ := y
      rcases yc with q | q | q | q | q <;> exact ⟨rfl, rfl⟩
    refine W.aast hexec hb hcell (fun q h => by cases h) (fun h => by cases h) k1 k2 rfl k3 hbd hv (fun q h => by rw [hvv.2] at h; cases h) (by rw [hvv.1]; exact k3) (by rw [hvv.1]; exact mu_asg _ _) rfl rfl hdg fun H1 e z oq => ?_
    exact kk H1 _ (hC.set hF (fin H1 e) z oq (fW_put hcell e oq))
end FH20
section FH21
variable {p : Program} {l : Launch} {e : Env} {R : Room} {s : State} {m : MethodId} {args : Array Value} {below : List Frame} {meth : Method} {c : Code} {H : Heap} {locs : List Loc} {cells slots : Nat} {Q : State → Prop}
variable {D : va_G} {cA : Nat → ClassId} {h0 h h2 : fSt} {cc : ByteArray} {pc : Nat} {ls : Array Slot} {rest : List Value}
theorem fr_ldc (hexec : p.tables.exec = Jvm.exec) (hb : c.code = cc) (hts : ∀ w ∈ WA, w.before args s = true) {own : String} {index : Nat} {v : Int32} (hown : s.vm.findClass own = some m.cls) (hconst : Cond.constant own index v ∈ WA) (hdg : decode cc pc = .ok (.ldc index, 2)) (kk : W p l e R s m args below meth c H locs cells slots Q (F0 m (pc + 2) ls (.int v :: rest))) : W p l e R s m args below meth c H locs cells slots Q (F0 m pc ls rest) := lv_ldc hexec hb hown (hts _ hconst) hdg kk
theorem fr_mabs (hexec : p.tables.exec = Jvm.exec) (hb : c.code = cc) {nL : Nat} (hml : c.maxLocals = nL) (hts : ∀ w ∈ WA, w.before args s = true) {own : String} {index : Nat} (hown : s.vm.findClass own = some m.cls) (hC : fCur D cA s h0 h H locs) (hR : R.cells = fCB h0 - fZ h0 ∧ R.slots = fLB h0 - fL h0) (hlink : Cond.methodLink own index Lib.Math.abs.name ∈ WA) (hstat : Cond.static Lib.Math.abs.name ∈ WA) (hini : Cond.initialized "java/lang/Math" ∈ WA) (hcode : Cond.code Lib.Math.abs.name Lib.Math.abs.code 1 (some .int) ∈ WA) (hsize : ls.size = nL) (hfr : 1 ≤ R.frames) (hlo : (rest.map fun v => v.category).sum + 13 ≤ R.locals) {x : Int32} (hdg : decode cc pc = .ok (.invokestatic index, 3))
    (kk : ∀ k n : Nat, W p l e R s m args below meth c H locs k n Q (F0 m (pc + 3) ls (.int (if 0 ≤ x then x else 0 - x) :: rest))) : W p l e R s m args below meth c H locs cells slots Q (F0 m pc ls (.int x :: rest)) :=
  fr_tight hC (va_mabs hexec hb (hml.trans hsize.symm) hown (hts _ hlink) (hts _ hstat) (hts _ hini) (hts _ hcode) hfr hlo (fr_mcount hC hR).1 (fr_mcount hC hR).2 hdg (kk _ _))
theorem swOut5 {x : Int32} (c0 : ¬ x = (0 : Int32)) (c1 : ¬ x = (1 : Int32)) (c2 : ¬ x = (2 : Int32)) (c3 : ¬ x = (3 : Int32)) (c4 : ¬ x = (4 : Int32)) : x.toInt < 0 ∨ (4 : Int) < x.toInt := by
  have h := swG (x := x) (n := 5) (by decide) (fun k hk => match k, hk with
    | 0, _ => c0
    | 1, _ => c1
    | 2, _ => c2
    | 3, _ => c3
    | 4, _ => c4
    | k + 5, hk => absurd hk (by omega))
  omega
theorem fAA.over {cA : Nat → ClassId} {U : State} {A : Array Value} (h : fAA cA U) (f2 : U.vm.findClass ("[" ++ (FieldType.array .int).toString) = some (cA 4)) : (Cond.arrayOver (.array .int)).before A U = true := by
  obtain ⟨h1, h2, ⟨k, h3, h4⟩, -⟩ := h
  have f1 : U.vm.findClass (FieldType.array .int).toString = some (cA 0) := h1
  unfold Cond.before Cond.holds
  simp only [Cond.value]
  rw [f1, Option.bind_some]
  refine (congrArg (fun o : Option Nat => (o.bind (fun c => (U.vm.classes[c]?).map fun (k : Class) => match k.kind with | .array _ ty => decide (ty = FieldType.array .int) && decide (U.vm.findClass ("[" ++ (FieldType.array .int).toString) = some c) | _ => false) == some true)) h2).trans ?_
  simp [h3, h4, f2]
/-- anewarray of rows of ints -/
theorem fr_newqA (hexec : p.tables.exec = Jvm.exec) (hb : c.code = cc) (hts : ∀ w ∈ WA, w.before args s = true) {own : String} {index : Nat} (hown : s.vm.findClass own = some m.cls) (K : fKw D cA h0 s) (hC : fCur D cA s h0 h H locs) (hR : R.cells = fCB h0 - fZ h0 ∧ R.slots = fLB h0 - fL h0) (ht : ftl[4]? = some (.array .int)) (hcl : Cond.classLink own index "[I" ∈ WA) {n : Int32} {r : Nat × fSt} (hn : ¬ n < 0) (hg : fnew h (.inr (4, n.toNatClampNeg, .inr (.inr (.inr (.inr (fun _ => none)))))) n.toNatClampNeg = some r) (hbytes : n.toNatClampNeg * 4 ≤ 536870912) (hdg : decode cc pc = .ok (.anewarray index, 3))
    (kk : ∀ (H1 : Heap) (k n : Nat), fCur D cA s h0 r.2 H1 locs → W p l e R s m args below meth c H1 locs k n Q (F0 m (pc + 3) ls (va_rf (some r.1) :: rest))) : W p l e R s m args below meth c H locs cells slots Q (F0 m pc ls (.int n :: rest)) := by
  obtain ⟨g1, g2, rfl⟩ := fnew_inv hg
  refine fr_tight hC ?_
  obtain ⟨c1, c2, c3, c4, c5, c6, c7⟩ := id hC
  obtain ⟨d1, d2, d3, d4, -⟩ := c4
  have hf4 : s.vm.findClass ("[" ++ (FieldType.array .int).toString) = some (cA 4) := (K.1.2 4 _ (fTys_at ht)).2
  refine W.anewA (t := .int) hexec hb hown (hts _ hcl) (K.2.2.2.2.2.2.2.over hf4) rfl hdg rfl hn hbytes (by rw [hR.1]; omega) (by rw [hR.2]; omega) fun cB kA comp f1 f2 f3 f4 => ?_
  have hcB : cB = cA 4 := Option.some.inj (f1.symm.trans hf4)
  subst hcB
  generalize hH1 : H.push ({ cls := cA 4, slots := Array.replicate n.toNatClampNeg .null, vm := .none } : Cell) = H1
  have z1 : H1.size = H.size + 1 := by rw [← hH1, Array.size_push]
  have e1 : H1[H.size]? = some (arrV (cA 4) n.toNatClampNeg (fun _ => .null)) := by rw [← hH1, Array.getElem?_push_size, ← arrV_new]
  have o1 : ∀ q : Nat, q < H.size → H1[q]? = H[q]? := fun q hq => by rw [← hH1, Array.getElem?_push, if_neg (Nat.ne_of_lt hq)]
  have hat : va_at D fcl (H.size, fE cA (.inr (4, n.toNatClampNeg, .inr (.inr (.inr (.inr (fun _ => none))))))) H1 := e1
  have hcu := hC.push (n := n.toNatClampNeg) hat z1 e1 (by rw [arrV_size]; exact Nat.le_refl _) o1 g1 g2
  have hk := kk H1 (fZ h - fZ h0 + 1) (fL h - fL h0 + n.toNatClampNeg) hcu
  rw [c2]
  exact hk
end FH21
/-! an array of n empty rows -/
section FH22
def muF (z i : Nat) : Nat → Option Nat := fun j => if j < i then some (z + 1 + j) else none
def muO (c : ClassId) (n z i : Nat) : Cell := vp_cell c (n, .inr (.inr (.inr (.inr (muF z i)))))
def muI (c : ClassId) : Cell := vp_cell c (0, .inl (fun _ => 0))
def muS (s : State) (c c0 : ClassId) (n : Nat) : Nat → State
  | 0 => s.pushCell (muO c n s.heap.size 0)
  | i + 1 => ((muS s c c0 n i).pushCell (muI c0)).setCell s.heap.size (muO c n s.heap.size (i + 1))
theorem muO_new (c : ClassId) (n z : Nat) : ({ cls := c, slots := Array.replicate n .null, vm := .none } : Cell) = muO c n z 0 := by
  rw [arrV_new]
  unfold muO
  rw [vp_cell_q]
  congr 1
theorem muO_next (c : ClassId) (n z i : Nat) : (muO c n z i).setSlot i (.ref (z + 1 + i)) = muO c n z (i + 1) := by
  unfold muO
  rw [vp_cell_q, vp_cell_q, arrV_store]
  congr 1
  funext q
  show (if q = i then Value.ref (z + 1 + i) else va_rf (if q < i then some (z + 1 + q) else none)) = va_rf (if q < i + 1 then some (z + 1 + q) else none)
  by_cases h : q = i
  · subst h
    rw [if_pos (Eq.refl _), if_pos (Nat.lt_succ_self _)]
    rfl
  · rw [if_neg h]
    by_cases h2 : q < i
    · rw [if_pos h2, if_pos (by omega)]
    · rw [if_neg h2, if_neg (by omega)]
theorem muO_size (c : ClassId) (n z i : Nat) : (muO c n z i).slots.size = n := arrV_size _ _ _
theorem muI_new (c : ClassId) : ({ cls := c, slots := Array.replicate 0 (.int 0), vm := .none } : Cell) = muI c := by
  rw [arrV_new]
  rfl
theorem muI_size (c : ClassId) : (muI c).slots.size = 0 := arrV_size _ _ _
theorem muS_is (s : State) (c c0 : ClassId) (n : Nat) : ∀ i, (muS s c c0 n i).heap.size = s.heap.size + 1 + i ∧ (muS s c c0 n i).heap[s.heap.size]? = some (muO c n s.heap.size i) ∧ (muS s c c0 n i).vm = s.vm ∧ (muS s c c0 n i).slotsUsed = s.slotsUsed + n
  | 0 => ⟨by simp [muS], by simp [muS], rfl, by simp [muS, muO_size]⟩
  | i + 1 => by
    obtain ⟨a, b, d, u⟩ := muS_is s c c0 n i
    have hlt : s.heap.size < (muS s c c0 n i).heap.size := by omega
    have hb' : ((muS s c c0 n i).pushCell (muI c0)).heap[s.heap.size]? = some (muO c n s.heap.size i) := by rw [State.heap_pushCell_of_lt (h := hlt)]; exact b
    refine ⟨?_, State.heap_setCell_self hb', by simp [muS, d], ?_⟩
    · simp [muS, State.setCell, a]; omega
    · simp [muS, u, muI_size]
theorem muS_top (s : State) (f : JFrame) (c c0 : ClassId) (n : Nat) : ∀ i, muS (s.setTop f) c c0 n i = (muS s c c0 n i).setTop f
  | 0 => rfl
  | i + 1 => by simp only [muS, muS_top s f c c0 n i, State.heap_setTop, State.pushCell_setTop, State.setCell_setTop]
section
variable {E : CtlPost} {e : Env} {d : Bool} {acts : List Action} {s : State}
theorem mu_fits {t : FieldType} (h : t.isReference = true) (v : Value) (hv : v = .null ∨ ∃ a, v = .ref a) : fits t v = true := by
  rcases hv with rfl | ⟨a, rfl⟩ <;> cases t <;> simp [FieldType.isReference] at h <;> rfl
theorem mu_inner {c0 cc : ClassId} {kc : Class} (hkc : s.vm.classes[c0]? = some kc) (hkind : kc.kind = .array cc .int) (h1 : s.heap.size < e.platform.maxCells) (h2 : s.slotsUsed ≤ e.platform.maxSlots) {Q : Addr → Pre} (hq : ∀ acts', Q s.heap.size d acts' (s.pushCell (muI c0))) : wp (multianewarray.make c0 [0]) Q E e d acts s := by
  have hm : ¬ (0 : Int32) < 0 := by decide
  rw [multianewarray.make]
  simp only [wp_bind', W.ite, hm, if_false, wp_pure', W.theClass, hkc, hkind, Option.some.injEq, exists_eq_left']
  refine W.newArray_of hkc hkind (Nat.not_lt.mpr (Nat.zero_le _)) (by show ¬ 0 * _ > _; omega) h1 h2 rfl (fun acts' => ?_)
  have := hq acts'
  rw [← muI_new] at this
  exact this
theorem mu_make {c c0 cc : ClassId} {k kc : Class} {t0 : FieldType} {n : Int32} (hk : s.vm.classes[c]? = some k) (hkind : k.kind = .array c0 t0) (href : t0.isReference = true) (hkc : s.vm.classes[c0]? = some kc) (hkindc : kc.kind = .array cc .int) (hn : ¬ n < 0)
    (hl1 : ¬ n.toNatClampNeg > e.platform.arrayLengthLimit) (hh1 : ¬ n.toNatClampNeg * componentBytes t0 > e.platform.maxHeapBytes)
    (hc : s.heap.size + 1 + n.toNatClampNeg ≤ e.platform.maxCells) (hs : s.slotsUsed + n.toNatClampNeg ≤ e.platform.maxSlots)
    {Q : Addr → Pre} (hq : ∀ d' acts', Q s.heap.size d' acts' (muS s c c0 n.toNatClampNeg n.toNatClampNeg)) : wp (multianewarray.make c [n, 0]) Q E e d acts s := by
  have hfind : (([0] : List Int32).find? (· < 0)) = none := by decide
  rw [multianewarray.make]
  simp only [wp_bind', W.ite, hn, if_false, wp_pure', W.theClass, hk, hkind, Option.some.injEq, exists_eq_left']
  refine W.newArray_of hk hkind hl1 hh1 (by omega) hs (mu_fits href _ (Or.inl rfl)) (fun acts1 => ?_)
  rw [muO_new c _ s.heap.size]
  simp only [hfind]
  rw [ite_self, wp_bind', Std.Legacy.Range.forIn_eq_forIn_range']
  have hsz : ([:n.toNatClampNeg] : Std.Legacy.Range).size = n.toNatClampNeg := by simp [Std.Legacy.Range.size]
  rw [hsz]
  show wp (forIn (List.range' 0 n.toNatClampNeg 1) PUnit.unit _) _ E e d acts1 _
  refine wp_forIn_inv (fun rest s' => ∃ i, i ≤ n.toNatClampNeg ∧ rest = List.range' i (n.toNatClampNeg - i) ∧ s' = muS s c c0 n.toNatClampNeg i) _ _ ⟨0, Nat.zero_le _, rfl, rfl⟩ ?_ ?_
  · rintro x rest s' d' acts' Q' ⟨i, hi, hl, rfl⟩ hnext
    have hlt : i < n.toNatClampNeg := by
      rcases Nat.lt_or_ge i n.toNatClampNeg with h | h
      · exact h
      · rw [show n.toNatClampNeg - i = 0 from by omega] at hl; simp at hl
    rw [show n.toNatClampNeg - i = (n.toNatClampNeg - (i + 1)) + 1 from by omega, List.range'_succ] at hl
    obtain ⟨rfl, hrest⟩ := List.cons.inj hl
    obtain ⟨f1, f2, f3, f4⟩ := muS_is s c c0 n.toNatClampNeg x
    simp only [wp_bind']
    refine mu_inner (by rw [f3]; exact hkc) hkindc (by rw [f1]; omega) (by rw [f4]; exact hs) (fun acts2 => ?_)
    have hlt0 : s.heap.size < (muS s c c0 n.toNatClampNeg x).heap.size := by rw [f1]; omega
    simp only [wp_bind', W.writeLoc, wp_pure']
    refine ⟨muO c n.toNatClampNeg s.heap.size x, by rw [State.heap_pushCell_of_lt (h := hlt0)]; exact f2, (show VmData.none ≠ VmData.unknown from fun z => by cases z), by rw [muO_size]; exact hlt, ?_, hnext _ _ _ ⟨x + 1, hlt, hrest, ?_⟩⟩
    · have e1 : (muO c n.toNatClampNeg s.heap.size x).cls = c := rfl
      have e2 : (muO c n.toNatClampNeg s.heap.size x).vm = .none := rfl
      rw [e1, e2]
      simp [State.fitsSlot, State.slotType?, f3, hk, hkind, mu_fits href _ (Or.inr ⟨_, rfl⟩)]
    · rw [f1, muO_next]; rfl
  · rintro s' d' acts' ⟨i, hi, hl, rfl⟩
    have hiN : i = n.toNatClampNeg := by
      rcases Nat.lt_or_ge i n.toNatClampNeg with h | h
      · rw [show n.toNatClampNeg - i = (n.toNatClampNeg - (i + 1)) + 1 from by omega, List.range'_succ] at hl; cases hl
      · omega
    subst hiN
    simp only [wp_pure']
    exact hq _ _
end
variable {p : Program} {l : Launch} {e : Env} {R : Room} {s : State} {m : MethodId} {args : Array Value} {below : List Frame} {meth : Method} {c : Code} {T : State} {H : Heap} {locs : List Loc} {cells slots : Nat} {Q : State → Prop}
variable {D : va_G} {cA : Nat → ClassId} {h0 h h2 : fSt} {cc : ByteArray} {pc : Nat} {ls : Array Slot} {rest : List Value}
/-- the functional heap with an outer array and i rows -/
def fmul (h : fSt) (n : Nat) : Nat → fSt
  | 0 => fPush h (.inr (4, n, .inr (.inr (.inr (.inr (muF (fZ h) 0)))))) n
  | i + 1 => fSet (fPush (fmul h n i) (.inr (0, 0, .inl (fun _ => 0))) 0) (fZ h) (.inr (4, n, .inr (.inr (.inr (.inr (muF (fZ h) (i + 1)))))))
def fmula (h : fSt) (n : Nat) : Option (Nat × fSt) := if fZ h + 1 + n ≤ fCB h ∧ fL h + n ≤ fLB h then some (fZ h, fmul h n n) else none
theorem fmul_is (h : fSt) (n : Nat) : ∀ i, fZ (fmul h n i) = fZ h + 1 + i ∧ fL (fmul h n i) = fL h + n ∧ fCB (fmul h n i) = fCB h ∧ fLB (fmul h n i) = fLB h ∧ fF (fmul h n i) (fZ h) = some (.inr (4, n, .inr (.inr (.inr (.inr (muF (fZ h) i))))))
  | 0 => ⟨rfl, rfl, rfl, rfl, if_pos rfl⟩
  | i + 1 => by
    obtain ⟨a, b, d, u, -⟩ := fmul_is h n i
    refine ⟨?_, ?_, d, u, if_pos rfl⟩
    · show fZ (fmul h n i) + 1 = _
      omega
    · show fL (fmul h n i) + 0 = _
      omega
theorem muStand (X : Stand p l e R s m args below meth c T locs cells slots) (hC : fCur D cA s h0 h T.heap locs) {n : Nat} (g1 : fZ h + 1 + n ≤ fCB h) (g2 : fL h + n ≤ fLB h) : ∀ i, i ≤ n → ∃ locs', Stand p l e R s m args below meth c (muS T (cA 4) (cA 0) n i) locs' (cells + 1 + i) (slots + n) ∧ fCur D cA s h0 (fmul h n i) (muS T (cA 4) (cA 0) n i).heap locs'
  | 0, _ => by
    have h1 := X.pushed (muO (cA 4) n T.heap.size 0)
    rw [muO_size] at h1
    have c2 : T.heap.size = fZ h := hC.2.1
    refine ⟨locs, h1, ?_⟩
    have e1 : (muS T (cA 4) (cA 0) n 0).heap[T.heap.size]? = some (muO (cA 4) n T.heap.size 0) := by simp [muS]
    refine hC.push (n := n) (e := .inr (4, n, .inr (.inr (.inr (.inr (muF (fZ h) 0)))))) (by rw [← c2]; exact e1) (by simp [muS]) e1 (by rw [muO_size]; exact Nat.le_refl _) (fun q hq => ?_) (by omega) g2
    exact State.heap_pushCell_of_lt _ _ hq
  | i + 1, hi => by
    obtain ⟨locs', Xi, hCi⟩ := muStand X hC g1 g2 i (Nat.le_of_succ_le hi)
    have c2 : T.heap.size = fZ h := hC.2.1
    obtain ⟨f1, f2, f3, f4⟩ := muS_is T (cA 4) (cA 0) n i
    obtain ⟨k1, k2, k3, k4, k5⟩ := fmul_is h n i
    have hlt0 : T.heap.size < (muS T (cA 4) (cA 0) n i).heap.size := by rw [f1]; omega
    have hcell : ((muS T (cA 4) (cA 0) n i).pushCell (muI (cA 0))).heap[T.heap.size]? = some (muO (cA 4) n T.heap.size i) := by rw [State.heap_pushCell_of_lt (h := hlt0)]; exact f2
    have h1 := (Xi.pushed (muI (cA 0))).stored hcell i (.ref (T.heap.size + 1 + i))
    rw [muO_next, muI_size] at h1
    have p1 : ((muS T (cA 4) (cA 0) n i).pushCell (muI (cA 0))).heap[(muS T (cA 4) (cA 0) n i).heap.size]? = some (muI (cA 0)) := State.heap_pushCell_size _ _
    have hP := hCi.push (n := 0) (e := .inr (0, 0, .inl (fun _ => 0))) (H1 := ((muS T (cA 4) (cA 0) n i).pushCell (muI (cA 0))).heap) p1 (by simp) p1 (by rw [muI_size]; exact Nat.le_refl _) (fun q hq => State.heap_pushCell_of_lt _ _ hq) (by rw [k1, k3]; omega) (by rw [k2, k4]; omega)
    have e1 : (muS T (cA 4) (cA 0) n (i + 1)).heap[T.heap.size]? = some (muO (cA 4) n T.heap.size (i + 1)) := (muS_is T (cA 4) (cA 0) n (i + 1)).2.1
    have oq : ∀ q, q ≠ T.heap.size → (muS T (cA 4) (cA 0) n (i + 1)).heap[q]? = ((muS T (cA 4) (cA 0) n i).pushCell (muI (cA 0))).heap[q]? := fun q hq => heapAt_setCell_ne _ (Ne.symm hq)
    have hF : fF (fPush (fmul h n i) (.inr (0, 0, .inl (fun _ => 0))) 0) (fZ h) = some (.inr (4, n, .inr (.inr (.inr (.inr (muF (fZ h) i)))))) := by
      show (if fZ h = fZ (fmul h n i) then _ else fF (fmul h n i) (fZ h)) = _
      rw [if_neg (by omega), k5]
    have hS := hP.set (k := i) (H1 := (muS T (cA 4) (cA 0) n (i + 1)).heap) (e := .inr (4, n, .inr (.inr (.inr (.inr (muF (fZ h) (i + 1))))))) hF (by rw [← c2]; exact e1) (by rw [(muS_is T (cA 4) (cA 0) n (i + 1)).1]; simp [f1]; omega) (by rw [← c2]; exact oq) (fW_put (i := i) (v := .ref (T.heap.size + 1 + i)) hcell (by rw [muO_next]; exact e1) oq)
    refine ⟨_, ?_, hS⟩
    rw [show fZ h = T.heap.size from c2.symm]
    exact h1
theorem fmula_inv {n : Nat} {r : Nat × fSt} (h1 : fmula h n = some r) : fZ h + 1 + n ≤ fCB h ∧ fL h + n ≤ fLB h ∧ r = (fZ h, fmul h n n) := by
  unfold fmula at h1
  by_cases z : fZ h + 1 + n ≤ fCB h ∧ fL h + n ≤ fLB h
  · rw [if_pos z] at h1
    exact ⟨z.1, z.2, (Option.some.inj h1).symm⟩
  · rw [if_neg z] at h1; cases h1
theorem fCur.vm {s : State} {H : Heap} (hC : fCur D cA s h0 h H locs) : fCur D cA s h0 h H locs := hC
theorem fr_mul (hexec : p.tables.exec = Jvm.exec) (hb : c.code = cc) (hts : ∀ w ∈ WA, w.before args s = true) {own : String} {index : Nat} (hown : s.vm.findClass own = some m.cls) (K : fKw D cA h0 s) (hC : fCur D cA s h0 h H locs) (hR : R.cells = fCB h0 - fZ h0 ∧ R.slots = fLB h0 - fL h0) (ht : ftl[4]? = some (.array .int)) (hcl : Cond.classLink own index "[[I" ∈ WA) {n : Int32} {r : Nat × fSt} (hn : ¬ n < 0) (hg : fmula h n.toNatClampNeg = some r) (hbytes : n.toNatClampNeg * 4 ≤ 536870912) (hdg : decode cc pc = .ok (.multianewarray index 2, 4))
    (kk : ∀ (H1 : Heap) (locs1 : List Loc) (k n : Nat), fCur D cA s h0 r.2 H1 locs1 → W p l e R s m args below meth c H1 locs1 k n Q (F0 m (pc + 4) ls (va_rf (some r.1) :: rest))) : W p l e R s m args below meth c H locs cells slots Q (F0 m pc ls (.int 0 :: .int n :: rest)) := by
  obtain ⟨g1, g2, rfl⟩ := fmula_inv hg
  refine fr_tight hC ?_
  intro T hT X
  subst hT; subst hb
  obtain ⟨c1, c2, c3, c4, c5, c6, c7⟩ := id hC
  obtain ⟨d1, d2, d3, d4, -⟩ := c4
  have hpl : e.platform.magicAccessors = ({} : Platform).magicAccessors := by rw [X.admits.platform]
  have hf4 : s.vm.findClass "[[I" = some (cA 4) := (K.1.2 4 _ (fTys_at ht)).2
  obtain ⟨-, -, ⟨kA, hkA, hkindA⟩, kC, cI, hkC, hkindC⟩ := K.2.2.2.2.2.2.2
  obtain ⟨q0, hfc0, hl0⟩ := Cond.classLink_spec hown (hts _ hcl) e.platform hpl
  cases hf4.symm.trans hfc0
  obtain ⟨hg₁, hwarm₁, hready₁⟩ := State.classEntry (e := e) X.warmed hl0
  generalize T.vm.noted m.cls index (.cls (cA 4)) = vm₁ at hg₁ hwarm₁ hready₁
  have hal : s.vm.Alike vm₁ := hwarm₁.alike
  obtain ⟨kA₁, hkA₁, heA⟩ := hal.2.2 _ _ hkA
  obtain ⟨kC₁, hkC₁, heC⟩ := hal.2.2 _ _ hkC
  have hkindA₁ : kA₁.kind = .array (cA 0) (.array .int) := by rw [heA]; exact hkindA
  have hkindC₁ : kC₁.kind = .array cI .int := by rw [heC]; exact hkindC
  have X₁ := X.noted hwarm₁
  obtain ⟨hr1, hr2⟩ := X.roomAbove (a := 1 + n.toNatClampNeg) (b := n.toNatClampNeg) (by rw [hR.1]; omega) (by rw [hR.2]; omega)
  obtain ⟨locs', XF, hCF⟩ := muStand (T := T.setVm vm₁) X₁ hC (n := n.toNatClampNeg) g1 g2 n.toNatClampNeg (Nat.le_refl _)
  obtain ⟨t', a1, b1⟩ := kk _ _ _ _ hCF _ rfl XF
  refine ⟨t', ?_, b1⟩
  have hl1 : ¬ n.toNatClampNeg > e.platform.arrayLengthLimit := by rw [Launch.admits_arrayLengthLimit X.admits]; omega
  have hh1 : ¬ n.toNatClampNeg * componentBytes (.array .int) > e.platform.maxHeapBytes := by
    rw [Launch.admits_maxHeapBytes X.admits]; show ¬ n.toNatClampNeg * 4 > 536870912; omega
  jvm_step X.here [hexec, hdg]
  simp only [multianewarray.sem, wp_bind', W.resolveClassAt_links (State.method?_setTop (F0 m pc ls (.int 0 :: .int n :: rest)) X.here.top) hg₁]
  rw [W.popN, if_neg (by decide)]
  refine ⟨_, State.topJava?_setTop' (s := T.setVm vm₁) (F0 m pc ls (.int 0 :: .int n :: rest)) X.here.top, [.int n, .int 0], rest, rfl, rfl, ?_⟩
  simp only [List.mapM_cons, List.mapM_nil, wp_bind', wp_pure']
  refine mu_make (k := kA₁) (kc := kC₁) (c0 := cA 0) (cc := cI) (t0 := .array .int) hkA₁ hkindA₁ rfl hkC₁ hkindC₁ hn hl1 hh1 (by show T.heap.size + 1 + _ ≤ _; omega) (by show T.slotsUsed + _ ≤ _; omega) (fun d' acts' => ?_)
  have eS : ((T.setTop (F0 m pc ls (.int 0 :: .int n :: rest))).setVm vm₁).setTop { F0 m pc ls (.int 0 :: .int n :: rest) with stack := rest } = (T.setVm vm₁).setTop { F0 m pc ls (.int 0 :: .int n :: rest) with stack := rest } := by
    show ((T.setVm vm₁).setTop _).setTop _ = _
    rw [State.setTop_setTop]
  rw [eS, muS_top]
  simp only [wp_bind', W.mark, W.pushRef, State.topJava?_setTop' _ XF.here.top, Option.some.injEq, exists_eq_left', State.setTop_setTop, State.heap_setTop]
  intro acts
  simp [jvm, XF.here.top]
  rw [show fZ h = T.heap.size from c2.symm] at a1
  exact a1
end FH22
end
