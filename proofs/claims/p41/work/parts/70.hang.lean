/-! add and hang, as they are called. -/
section HANG
variable {G : qS} {F : Nat → Option fCe} {X : Nat × Nat × (Nat → Int32)} {k : Nat} {h : fSt} {a c : Nat}
theorem dpW {par : Nat → Option Nat} {Lv : Nat → Prop} {wh : Nat} : ∀ (n : Nat) {d b x : Nat}, qDp par Lv wh d b → qWi par n x b → Lv x
  | 0, d, b, x, q, w => by
    have w : b = x := w
    rw [← w]; exact q.lv
  | n + 1, d, b, x, q, w => by
    obtain ⟨r, e, z⟩ := w
    cases d with
    | zero => rw [q.2.2] at e; cases e
    | succ d =>
      obtain ⟨-, r2, e2, q2⟩ := q
      rw [e] at e2; cases e2
      exact dpW n q2 z
theorem add_dp {H : qS} {m p0 p1 p2 p3 f : Nat} {kind w hh : Int32} (I : qI G) (n : qNw G m p0 p1 p2 p3 f) (A : qAf G H m p0 p1 p2 p3 f kind w hh) (la : G.Lv a) (hd : (G.up a).length ≤ 4) : ∀ b, H.Lv b → ∃ d, d ≤ 4 ∧ qDp (qTake H a m).parF (qLvf H.N H.goneF) H.wh d b := by
  have ne : ∀ {b}, G.N b → b ≠ m := fun hb z => n.m (by rw [← z]; exact hb)
  have lvG : ∀ {b}, qLvf G.N G.goneF b → qLvf H.N H.goneF b := fun {b} z => ⟨(A.N b).mpr (Or.inr z.1), by show (H.nd b).gone = 0; rw [A.nd b z.1]; exact z.2⟩
  have lvH : ∀ {b}, qLvf H.N H.goneF b → b ≠ m → qLvf G.N G.goneF b := fun {b} z q => by
    have zN := ((A.N b).mp z.1).resolve_left q
    refine ⟨zN, ?_⟩
    have := z.2
    rw [show H.goneF b = (H.nd b).gone from rfl, A.nd b zN] at this
    exact this
  have tr : ∀ (d b : Nat), qDp G.parF (qLvf G.N G.goneF) G.wh d b → qDp H.parF (qLvf H.N H.goneF) H.wh d b ∧ qDp H.parF (qLvf G.N G.goneF) G.wh d b := by
    intro d
    induction d with
    | zero =>
      intro b q
      have e : H.parF b = none := by
        show (H.nd b).par = none
        rw [A.nd b q.2.1.1]; exact q.2.2
      exact ⟨⟨by rw [A.st.2.2.2.2.1]; exact q.1, lvG q.2.1, e⟩, ⟨q.1, q.2.1, e⟩⟩
    | succ d ih =>
      intro b q
      obtain ⟨lb, p, e, q2⟩ := q
      have e : H.parF b = some p := by
        show (H.nd b).par = some p
        rw [A.nd b lb.1]; exact e
      exact ⟨⟨lvG lb, p, e, (ih p q2).1⟩, ⟨lb, p, e, (ih p q2).2⟩⟩
  have mp : H.parF m = none := by
    show (H.nd m).par = none
    rw [A.nm]; rfl
  obtain ⟨da, -, qa, -, lda⟩ := I.up la
  have nw : ∀ (i b : Nat), G.Lv b → ¬ qWi H.parF i m b := by
    intro i b lb w
    obtain ⟨d, -, q⟩ := I.B.dp b lb
    exact n.m (dpW i (tr d b q).2 w).1
  refine take_dp (fun x => take_par x) (tr da a qa).1 (fun i => nw i a la) (fun i w => ?_) (fun i b w lb => ?_) (fun b p lb e bm => ?_) (fun b lb => ?_)
  · obtain ⟨p, e, -⟩ := w
    have e : H.parF m = some p := e
    rw [mp] at e; cases e
  · by_cases bm : b = m
    · subst bm
      cases i with
      | zero => omega
      | succ i =>
        obtain ⟨p, e, -⟩ := w
        have e : H.parF b = some p := e
        rw [mp] at e; cases e
    · exact absurd w (nw i b (lvH lb bm))
  · have lb2 := lvH lb bm
    have e2 : (G.nd b).par = some p := by
      rw [← A.nd b lb2.1]; exact e
    exact lvG (I.up_par lb2 e2).1
  · by_cases bm : b = m
    · exact Or.inl bm
    · obtain ⟨d, hd, q⟩ := I.B.dp b (lvH lb bm)
      exact Or.inr ⟨d, hd, (tr d b q).1⟩
theorem up_len (I : qI G) (la : G.Lv a) : 1 ≤ (G.up a).length ∧ (G.up a).length ≤ 5 := by
  obtain ⟨d, h1, -, -, h2⟩ := I.up la
  omega
theorem m_add (R : qR G F X (k + 6) h) (I : qI G) {i kind w hh : Int32} (q : qIs G i a) (hk : 0 ≤ kind.toInt ∧ kind.toInt ≤ 2) (hw : 1 ≤ w.toInt ∧ w.toInt ≤ 200) (hhh : 1 ≤ hh.toInt ∧ hh.toInt ≤ 200) (had : G.added.toInt < 30) (hd : (G.up a).length ≤ 4) : ∃ m p0 p1 p2 p3 f H h2, qNw G m p0 p1 p2 p3 f ∧ qAf G H m p0 p1 p2 p3 f kind w hh ∧ f_X7_add G.z i kind w hh h = some (.inl G.added, h2) ∧ qR (qLO (qTake H a m)) F X k h2 ∧ qI (qLO (qTake H a m)) := by
  have la := q.2.2.2
  obtain ⟨a1, a2⟩ := I.A.ad
  have V := I.V
  obtain ⟨m, p0, p1, p2, p3, f, h1, h2, f1, f2, R2, n1, n2, n3, n4⟩ := x_newN R G.added kind w hh
  have n : qNw G m p0 p1 p2 p3 f := ⟨n1, n2, n3, n4⟩
  obtain ⟨h3, w3, R4⟩ := sna R2 (i := G.added) (i32_cl (by omega) (by omega)) (v := m) (Or.inl rfl)
  obtain ⟨h4, w4, R5⟩ := wS_added R4 (G.added + 1)
  have gna := gS_na R2
  have gad := gS_added R2
  have gad4 := gS_added R4
  replace w3 : fsR h2 (some G.na) 2 4 G.added (some m) = some h3 := w3
  replace w4 : fput h3 (some G.z) 7 5 (.int (G.added + 1)) = some h4 := w4
  replace gna : fgR h2 (some G.z) 7 0 = some (some G.na) := gna
  replace gad : fgI h2 (some G.z) 7 5 = some G.added := gad
  replace gad4 : fgI h3 (some G.z) 7 5 = some G.added := gad4
  replace R5 : qR (qAdd1 G m p0 p1 p2 p3 f kind w hh) F X k h4 := R5
  replace R5 := R5.gh m p0 p1 p2 p3 f
  obtain ⟨H, eH⟩ : ∃ H, H = qGh (qAdd1 G m p0 p1 p2 p3 f kind w hh) m p0 p1 p2 p3 f := ⟨_, rfl⟩
  have A := add_f n eH
  rw [← eH] at R5
  clear R2 R4 eH
  have J := add_J I n A had ⟨⟨by omega, by omega⟩, by omega, by omega⟩
  have lH : H.Lv a := ⟨(A.N a).mpr (Or.inr la.1), by rw [A.nd a la.1]; exact la.2⟩
  have mN : H.N m := (A.N m).mpr (Or.inl rfl)
  have am : a ≠ m := fun z => n.m (by rw [← z]; exact la.1)
  have JT := take_J J lH am (add_dp I n A la hd)
  have kc := (J.B.ch a lH).mono (D2 := H.N) (fun _ z => z.1)
  have kl : (H.kd a).length ≤ 100 := by
    have := I.kc.2 a la
    rw [A.kd a la.1]; exact this.2
  obtain ⟨h5, w5, R6⟩ := x_take R5 (c := m) lH.1 mN kc kl
  obtain ⟨h6, w6, R7⟩ := x_lo R6 JT.kc
  have o5 := oS R6
  have zT : (qTake H a m).z = G.z := by
    have e1 : (qTake H a m).z = H.z := by
      show (qTk1 H a m).z = H.z
      unfold qTk1
      cases qLs none (H.kd a) <;> rfl
    rw [e1, A.z]
  rw [zT] at o5 w6
  have mT : (qLO (qTake H a m)).N m := by
    rw [lo_N]
    show (qTk1 H a m).N m
    unfold qTk1
    cases qLs none (H.kd a) <;> exact mN
  have nm := gN_number R7 mT
  rw [lon_number, show ((qTake H a m).nd m).number = (H.nd m).number from take_f qN.number (fun _ _ => rfl) (fun _ _ => rfl) (fun _ _ => rfl) m, A.nm, show (qNn G.added kind p0 p1 p2 p3 f).number = G.added from rfl] at nm
  have oa := oN R5 lH.1
  refine ⟨m, p0, p1, p2, p3, f, H, h6, n, A, ?_, R7, JT.lo⟩
  have e30 : (30 : Int32).toInt = 30 := by decide
  have e4 : (4 : Int32).toInt = 4 := by decide
  obtain ⟨u1, u2⟩ := up_len I la
  have d4 : nI ((G.up a).length - 1) < 4 := i32_lt2 (by rw [nI_toInt (by omega)]; omega)
  have g1 : fgI h1 (some G.z) 7 5 = some G.added := by
    have RN := R.newN (k := k + 5) qNd0 (n := 19) (by decide)
    have e := f1.symm.trans (fnew_C (h := h) (e := qNd0.c) (n := 19) (by have := R.rm.1; omega) (by have := R.rm.2; omega))
    have e2 := congrArg Prod.snd (Option.some.inj e)
    have e2 : h1 = fPush h qNd0.c 19 := e2
    rw [e2]
    have g := gS_added RN
    exact g
  have L63 : f_X7_add_L63 (some G.z) kind w hh (some a) h = some (.inl G.added, h6) := by
    unfold f_X7_add_L63
    rw [gS_added R, Option.bind_some, if_neg (i32_nlt (by have e0 : (0 : Int32).toInt = 0 := by decide
                                                          omega)), Option.bind_some, gS_na R, Option.bind_some, lna R, Option.bind_some, if_neg (i32_nle (by omega)), oN R la.1, Option.bind_some, x_dep R V la, Option.bind_some]
    dsimp only
    rw [if_pos d4, f1, Option.bind_some]
    dsimp only
    rw [g1, Option.bind_some, f2, Option.bind_some]
    dsimp only
    rw [gna, Option.bind_some, gad, Option.bind_some, w3, Option.bind_some, gad4, Option.bind_some, w4, Option.bind_some, oa, Option.bind_some, w5, Option.bind_some]
    dsimp only
    rw [o5, Option.bind_some, w6, Option.bind_some]
    dsimp only
    rw [nm, Option.bind_some]
  unfold f_X7_add f_X7_add_L0
  rw [oS R, Option.bind_some, x_found R q, Option.bind_some]
  dsimp only [Sum.elim_inl]
  rw [x_from1 (l := 0) (u := 2) hk, Option.bind_some]
  dsimp only
  rw [if_neg (show ¬ (1 : Int32) = 0 by decide)]
  by_cases k0 : kind = 0
  · rw [if_pos k0, L63]
  · rw [if_neg k0, x_from1 (l := 1) (u := 200) hw, Option.bind_some]
    dsimp only
    rw [if_neg (show ¬ (1 : Int32) = 0 by decide), x_from1 (l := 1) (u := 200) hhh, Option.bind_some]
    dsimp only
    rw [if_neg (show ¬ (1 : Int32) = 0 by decide), L63]
/-! hang -/
theorem nI_lt2 {m n : Nat} (hm : m < 1000) (hn : n < 1000) : nI m < nI n ↔ m < n := by
  rw [Int32.lt_iff_toInt_lt, nI_toInt (by omega), nI_toInt (by omega)]
  omega
theorem qMxD_ex (w : Nat) : ∀ (l : List Nat) (d : Nat), d < 100 → (∀ b, b ∈ l → (G.up b).length < 100) → ∃ m, qMxD G w (nI d) l = nI m ∧ m < 100 ∧ d ≤ m ∧ (∀ b, b ∈ l → qIn (some w) (G.up b) = true → (G.up b).length - 1 ≤ m) ∧ (m = d ∨ ∃ b, b ∈ l ∧ qIn (some w) (G.up b) = true ∧ (G.up b).length - 1 = m)
  | [], d, hd, _ => ⟨d, rfl, hd, Nat.le_refl _, fun b hb => (nomatch hb), Or.inl rfl⟩
  | x :: l, d, hd, hl => by
    have hx := hl x List.mem_cons_self
    have hl2 : ∀ b, b ∈ l → (G.up b).length < 100 := fun b hb => hl b (List.mem_cons_of_mem _ hb)
    unfold qMxD
    by_cases q : qIn (some w) (G.up x) = true
    · rw [if_pos q]
      by_cases q2 : nI d < nI ((G.up x).length - 1)
      · rw [if_pos q2]
        have q3 := (nI_lt2 (by omega) (by omega)).mp q2
        obtain ⟨m, e, h1, h2, h3, h4⟩ := qMxD_ex w l ((G.up x).length - 1) (by omega) hl2
        refine ⟨m, e, h1, by omega, fun b hb hq => ?_, Or.inr ?_⟩
        · rcases List.mem_cons.mp hb with z | z
          · rw [z]; exact h2
          · exact h3 b z hq
        · rcases h4 with z | ⟨b, z1, z2, z3⟩
          · exact ⟨x, List.mem_cons_self, q, z.symm⟩
          · exact ⟨b, List.mem_cons_of_mem _ z1, z2, z3⟩
      · rw [if_neg q2]
        have q3 : ¬ d < (G.up x).length - 1 := fun z => q2 ((nI_lt2 (by omega) (by omega)).mpr z)
        obtain ⟨m, e, h1, h2, h3, h4⟩ := qMxD_ex w l d hd hl2
        refine ⟨m, e, h1, h2, fun b hb hq => ?_, h4.imp id (fun ⟨b, z1, z2, z3⟩ => ⟨b, List.mem_cons_of_mem _ z1, z2, z3⟩)⟩
        rcases List.mem_cons.mp hb with z | z
        · rw [z]; omega
        · exact h3 b z hq
    · rw [if_neg q]
      obtain ⟨m, e, h1, h2, h3, h4⟩ := qMxD_ex w l d hd hl2
      refine ⟨m, e, h1, h2, fun b hb hq => ?_, h4.imp id (fun ⟨b, z1, z2, z3⟩ => ⟨b, List.mem_cons_of_mem _ z1, z2, z3⟩)⟩
      rcases List.mem_cons.mp hb with z | z
      · rw [z] at hq; exact absurd hq q
      · exact h3 b z hq
/-- whether a node may be hung in another one -/
def qOkH (G : qS) (c a : Nat) : Prop := ¬ c ∈ G.up a ∧ ∀ b, G.Lv b → c ∈ G.up b → (G.up a).length + (G.up b).length ≤ 4 + (G.up c).length
theorem up_self : a ∈ G.up a := List.mem_cons_self
theorem od_mem (I : qI G) (b : Nat) : b ∈ G.od ↔ G.Lv b := by
  rw [I.C.od, List.mem_reverse]
  exact I.odm.2 b
/-- where a node hangs -/
theorem qI.at_ (I : qI G) (lc : G.Lv c) (hw : c ≠ G.wh) : ∃ p l1 l2, (G.nd c).par = some p ∧ G.Lv p ∧ p ≠ c ∧ G.kd p = l1 ++ c :: l2 := by
  cases e : (G.nd c).par with
  | none => exact absurd (I.par_none lc e) hw
  | some p =>
    obtain ⟨lp, eu⟩ := I.up_par lc e
    have hm := ((I.B.tk.1 p lp).2 c).mpr ⟨lc, e⟩
    obtain ⟨l1, l2, e2⟩ := List.append_of_mem hm
    refine ⟨p, l1, l2, rfl, lp, fun z => ?_, e2⟩
    rw [z] at eu
    have := congrArg List.length eu
    rw [List.length_cons] at this
    omega
theorem m_hang (R : qR G F X (k + 1) h) (I : qI G) {i j : Int32} (q : qIs G i c) (q2 : qIs G j a) (hw : c ≠ G.wh) : (qOkH G c a → ∃ p l1 l2 h2, (G.nd c).par = some p ∧ G.kd p = l1 ++ c :: l2 ∧ f_X7_hang G.z i j h = some (.inl (nI ((qLO (qTake (qLeave G c p l1 l2) a c)).kd a).length), h2) ∧ qR (qLO (qTake (qLeave G c p l1 l2) a c)) F X k h2 ∧ qI (qLO (qTake (qLeave G c p l1 l2) a c))) ∧ (¬ qOkH G c a → ∃ h2, f_X7_hang G.z i j h = some (.inr 2, h2) ∧ qR G F X k h2) := by
  have lc := q.2.2.2
  have la := q2.2.2.2
  have V := I.V
  have e4 : (4 : Int32).toInt = 4 := by decide
  obtain ⟨cu, lu⟩ := V.up a la
  obtain ⟨ua1, ua2⟩ := up_len I la
  obtain ⟨uc1, uc2⟩ := up_len I lc
  obtain ⟨mx, em, m1, m2, m3, m4⟩ := qMxD_ex (G := G) c G.od ((G.up c).length - 1) (by omega) (fun b hb => by have := (up_len I ((od_mem I b).mp hb)).2; omega)
  have mx5 : mx ≤ 4 := by
    rcases m4 with z | ⟨b, z1, -, z3⟩
    · omega
    · have := (up_len I ((od_mem I b).mp z1)).2; omega
  obtain ⟨hT, fT, RT⟩ := R.thr
  have RK : qR G F X k h := R.le (Nat.le_succ _)
  -- the numbers
  have t1 : (nI ((G.up a).length - 1)).toInt = ((G.up a).length - 1 : Nat) := nI_toInt (by omega)
  have t2 : (nI ((G.up c).length - 1)).toInt = ((G.up c).length - 1 : Nat) := nI_toInt (by omega)
  have t3 : (nI mx).toInt = (mx : Nat) := nI_toInt (by omega)
  have t4 : (nI ((G.up a).length - 1) + 1).toInt = (G.up a).length := by
    rw [i32_s (by omega) (by omega)]; omega
  have t5 : (nI mx - nI ((G.up c).length - 1)).toInt = (mx : Int) - ((G.up c).length - 1 : Nat) := by
    rw [i32_sub (by omega) (by omega), t2, t3]
  have t6 : (nI ((G.up a).length - 1) + 1 + (nI mx - nI ((G.up c).length - 1))).toInt = (G.up a).length + ((mx : Int) - ((G.up c).length - 1 : Nat)) := by
    rw [i32_add (by omega) (by omega), t4, t5]
  have start : f_X7_hang G.z i j h = if some c = some G.wh then f_X7_hang_L30 h else (f_X4_isWithin a (some c) h).bind fun r20 => (if r20.1 = 0 then (fobj r20.2 (some a) 4).bind fun b27 => (f_X4_depth b27 r20.2).bind fun r25 => (fobj r25.2 (some G.z) 7).bind fun b31 => (f_X7_depthUnder b31 (some c) r25.2).bind fun r29 => (if ((r25.1 + (1 : Int32)) + r29.1) ≤ (4 : Int32) then (fobj r29.2 (some c) 4).bind fun b36 => (f_X4_leaveParent b36 r29.2).bind fun r34 => (fobj r34.2 (some a) 4).bind fun b40 => (f_X4_takeIn b40 (some c) r34.2).bind fun r38 => (fobj r38.2 (some G.z) 7).bind fun b44 => (f_X7_layOrder b44 r38.2).bind fun r42 => (fobj r42.2 (some a) 4).bind fun b48 => (f_X4_countHanging b48 r42.2).bind fun r46 => some (.inl r46.1, r46.2) else (fthr r29.2).bind fun h50 => some (.inr 2, h50)) else f_X7_hang_L30 r20.2) := by
    unfold f_X7_hang f_X7_hang_L0
    rw [oS R, Option.bind_some, x_found R q, Option.bind_some]
    dsimp only [Sum.elim_inl]
    rw [oS R, Option.bind_some, x_found R q2, Option.bind_some]
    dsimp only [Sum.elim_inl]
    rw [gS_wh R, Option.bind_some, oN R la.1, Option.bind_some]
  rw [start, if_neg (fun z => hw (Option.some.inj z)), x_within R (some c) cu (by omega), Option.bind_some]
  dsimp only
  constructor
  · intro ok
    obtain ⟨ok1, ok2⟩ := ok
    have nin : ¬ qIn (some c) (G.up a) = true := fun z => ok1 ((qIn_mem c _).mp z)
    have cle : (G.up a).length + ((mx : Int) - ((G.up c).length - 1 : Nat)) ≤ 4 := by
      rcases m4 with z | ⟨b, z1, z2, z3⟩
      · have := ok2 c lc up_self; omega
      · have lb := (od_mem I b).mp z1
        have := ok2 b lb ((qIn_mem c _).mp z2)
        have := (up_len I lb).1
        omega
    obtain ⟨p, l1, l2, ep, lp, pc, ek⟩ := I.at_ lc hw
    have J := leave_J I.J lc ep ek
    have Ld : ∀ b, (qLeave G c p l1 l2).Lv b ↔ G.Lv b := fun b => by
      show (qLeave G c p l1 l2).N b ∧ ((qLeave G c p l1 l2).nd b).gone = 0 ↔ _
      rw [show (qLeave G c p l1 l2).N = G.N from leave_st qS.N (fun _ _ _ => rfl) (fun _ _ => rfl), show ((qLeave G c p l1 l2).nd b).gone = (G.nd b).gone from leave_f qN.gone (fun _ _ => rfl) (fun _ _ => rfl) b]
      exact Iff.rfl
    have ac : a ≠ c := fun z => ok1 (by rw [z]; exact up_self)
    have pF : (qLeave G c p l1 l2).parF = G.parF := funext fun x => leave_f qN.par (fun _ _ => rfl) (fun _ _ => rfl) x
    have gF : (qLeave G c p l1 l2).goneF = G.goneF := funext fun x => leave_f qN.gone (fun _ _ => rfl) (fun _ _ => rfl) x
    have NF : (qLeave G c p l1 l2).N = G.N := leave_st qS.N (fun _ _ _ => rfl) (fun _ _ => rfl)
    have wF : (qLeave G c p l1 l2).wh = G.wh := leave_st qS.wh (fun _ _ _ => rfl) (fun _ _ => rfl)
    have zF : (qLeave G c p l1 l2).z = G.z := leave_st qS.z (fun _ _ _ => rfl) (fun _ _ => rfl)
    obtain ⟨da, -, qa, -, lda⟩ := I.up la
    obtain ⟨dc, -, qc, -, ldc⟩ := I.up lc
    have dpT : ∀ b, (qLeave G c p l1 l2).Lv b → ∃ d, d ≤ 4 ∧ qDp (qTake (qLeave G c p l1 l2) a c).parF (qLvf (qLeave G c p l1 l2).N (qLeave G c p l1 l2).goneF) (qLeave G c p l1 l2).wh d b := by
      rw [NF, gF, wF]
      intro b lb
      refine take_dp (par := G.parF) (c := c) (a := a) (da := da) (fun x => (take_par x).trans ?_) qa (fun n w => nin ((I.inW la).mpr ⟨n, w⟩)) (fun n w => ?_) (fun n b w lb => ?_) (fun b p lb e _ => (I.up_par lb e).1) (fun b lb => Or.inr (I.B.dp b lb)) b ((Ld b).mp lb)
      · rw [show ((qLeave G c p l1 l2).nd x).par = (G.nd x).par from congrFun pF x]
      · have := qWi.dp qc w qc
        omega
      · have := ok2 b lb ((qIn_mem c _).mp ((I.inW lb).mpr ⟨n, w⟩))
        obtain ⟨db, -, qb, -, ldb⟩ := I.up lb
        have := qWi.dp qc w qb
        omega
    have JT := take_J J ((Ld a).mpr la) ac dpT
    have kc := I.kc.2 p lp
    obtain ⟨h1, w1, R1⟩ := x_leaveP RK lc.1 lp.1 ep pc ek (kc.1.mono (fun _ z => z.1)) kc.2 (I.B.tk.1 p lp).1
    have lJ := J.B.ch a ((Ld a).mpr la)
    have kl2 : ((qLeave G c p l1 l2).kd a).length ≤ 100 := by
      rw [leave_kd]
      by_cases z : a = p
      · rw [if_pos z]
        have := kc.2
        rw [ek] at this
        simp only [List.length_append, List.length_cons] at this ⊢
        omega
      · rw [if_neg z]; exact (I.kc.2 a la).2
    obtain ⟨h2, w2, R2⟩ := x_take R1 (a := a) (c := c) (by rw [NF]; exact la.1) (by rw [NF]; exact lc.1) (lJ.mono (fun _ z => z.1)) kl2
    obtain ⟨h3, w3, R3⟩ := x_lo R2 JT.kc
    have IT := JT.lo
    have TN : (qTake (qLeave G c p l1 l2) a c).N = G.N := by
      rw [← NF]
      show (qTk1 (qLeave G c p l1 l2) a c).N = _
      unfold qTk1
      cases qLs none ((qLeave G c p l1 l2).kd a) <;> rfl
    have Tz : (qTake (qLeave G c p l1 l2) a c).z = G.z := by
      rw [← zF]
      show (qTk1 (qLeave G c p l1 l2) a c).z = _
      unfold qTk1
      cases qLs none ((qLeave G c p l1 l2).kd a) <;> rfl
    have lT : (qLO (qTake (qLeave G c p l1 l2) a c)).Lv a := by
      refine ⟨by rw [lo_N, TN]; exact la.1, ?_⟩
      rw [lon_gone, show ((qTake (qLeave G c p l1 l2) a c).nd a).gone = ((qLeave G c p l1 l2).nd a).gone from take_f qN.gone (fun _ _ => rfl) (fun _ _ => rfl) (fun _ _ => rfl) a, show ((qLeave G c p l1 l2).nd a).gone = (G.nd a).gone from congrFun gF a]
      exact la.2
    have kT := IT.kc.2 a lT
    have w4 := x_cntH R3 lT.1 (kT.1.mono (fun _ z => z.1)) kT.2
    have o1 := oN R1 (a := a) (by rw [NF]; exact la.1)
    have o2 := oS R2
    have o3 := oN R3 lT.1
    rw [Tz] at o2 w3
    refine ⟨p, l1, l2, h3, ep, ek, ?_, R3, IT⟩
    simp +decide only [nin, if_true, if_false]
    rw [oN R la.1, Option.bind_some, x_dep R V la, Option.bind_some]
    dsimp only
    rw [oS R, Option.bind_some, x_du R V lc, Option.bind_some, em]
    dsimp only
    rw [if_pos (i32_le (by rw [t6, e4]; exact cle)), oN R lc.1, Option.bind_some, w1, Option.bind_some]
    dsimp only
    rw [o1, Option.bind_some, w2, Option.bind_some]
    dsimp only
    rw [o2, Option.bind_some, w3, Option.bind_some]
    dsimp only
    rw [o3, Option.bind_some, w4, Option.bind_some]
  · intro ok
    refine ⟨hT, ?_, RT⟩
    by_cases nin : qIn (some c) (G.up a) = true
    · simp +decide only [nin, if_true, if_false]
      unfold f_X7_hang_L30
      rw [fT, Option.bind_some]
    · simp +decide only [nin, if_true, if_false]
      have cgt : 4 < (G.up a).length + ((mx : Int) - ((G.up c).length - 1 : Nat)) := by
        apply Int.not_le.mp
        intro z
        refine ok ⟨fun w => nin ((qIn_mem c _).mpr w), fun b lb hb => ?_⟩
        have := m3 b ((od_mem I b).mpr lb) ((qIn_mem c _).mpr hb)
        have := (up_len I lb).1
        omega
      rw [oN R la.1, Option.bind_some, x_dep R V la, Option.bind_some]
      dsimp only
      rw [oS R, Option.bind_some, x_du R V lc, Option.bind_some, em]
      dsimp only
      rw [if_neg (i32_nle (by rw [t6, e4]; exact cgt)), fT, Option.bind_some]
end HANG
