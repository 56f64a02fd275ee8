/-! What the law asks of the answers. -/
section FACTS
variable {G : qS} {a : Nat}
theorem h100 : (100 : Int32).toInt = 100 := by decide
theorem d100 {x : Int32} (h : 0 ≤ x.toInt ∧ x.toInt ≤ 10000000) : (x / 100).toInt = x.toInt / 100 := by
  have e : x.toInt.tdiv (100 : Int32).toInt = x.toInt / 100 := by
    rw [h100]
    exact Int.tdiv_eq_ediv_of_nonneg h.1
  rw [i32_div (by rw [e]; omega) (by rw [e]; omega), e]
theorem str_rg (I : qI G) (t : Int32) : ∀ l : List Nat, (∀ b, b ∈ l → G.N b) → 0 ≤ (qStr G t l).toInt ∧ (qStr G t l).toInt ≤ 100
  | [], _ => by
    show 0 ≤ (100 : Int32).toInt ∧ (100 : Int32).toInt ≤ 100
    decide
  | b :: l, h => by
    obtain ⟨s1, s2⟩ := str_rg I t l (fun x hx => h x (List.mem_cons_of_mem _ hx))
    have v : 0 ≤ (G.vl b 3 t).toInt ∧ (G.vl b 3 t).toInt ≤ 100 := I.vl (h b List.mem_cons_self) (j := 3) (by decide) t
    have p0 := Int.mul_nonneg s1 v.1
    have p1 := Int.mul_le_mul s2 v.2 v.1 (by decide : (0 : Int) ≤ 100)
    have e := i32_mul (a := qStr G t l) (b := G.vl b 3 t) (by omega) (by omega)
    show 0 ≤ (qStr G t l * G.vl b 3 t / 100).toInt ∧ (qStr G t l * G.vl b 3 t / 100).toInt ≤ 100
    rw [d100 (by omega)]
    omega
theorem qI.str (I : qI G) (la : G.Lv a) (t : Int32) : 0 ≤ (qStr G t (G.up a)).toInt ∧ (qStr G t (G.up a)).toInt ≤ 100 := by
  obtain ⟨d, hd, q, c, e⟩ := I.up la
  exact str_rg I t _ (fun b hb => (c.D b hb).1)
theorem thr_st {c s : Int32} (hc : 0 ≤ c.toInt ∧ c.toInt ≤ 10000) (hs : 0 ≤ s.toInt ∧ s.toInt ≤ 100) : (c * (100 - s) / 100).toInt = c.toInt * (100 - s.toInt) / 100 ∧ 0 ≤ c.toInt * (100 - s.toInt) ∧ c.toInt * (100 - s.toInt) ≤ c.toInt * 100 ∧ c.toInt * (100 - s.toInt) ≤ 10000 * (100 - s.toInt) := by
  have e1 : (100 - s).toInt = 100 - s.toInt := by rw [i32_sub (by rw [h100]; omega) (by rw [h100]; omega), h100]
  have p0 := Int.mul_nonneg hc.1 (show 0 ≤ 100 - s.toInt by omega)
  have p1 := Int.mul_le_mul_of_nonneg_left (show 100 - s.toInt ≤ 100 by omega) hc.1
  have p2 := Int.mul_le_mul_of_nonneg_right hc.2 (show 0 ≤ 100 - s.toInt by omega)
  have e2 : (c * (100 - s)).toInt = c.toInt * (100 - s.toInt) := by rw [i32_mul (by rw [e1]; omega) (by rw [e1]; omega), e1]
  refine ⟨?_, p0, p1, p2⟩
  rw [d100 (by omega), e2]
theorem thr_z (I : qI G) {x y u : Int32} : ∀ (l : List Nat) (c : Int32), (∀ b, b ∈ l → G.Lv b) → (0 ≤ c.toInt ∧ c.toInt ≤ 10000) → (qThr G x y u c l).toInt ≤ c.toInt ∧ ∀ b, b ∈ l → qCov G x y u G.time b = true → (qThr G x y u c l).toInt ≤ 10000 * (100 - (qStr G G.time (G.up b)).toInt) / 100
  | [], c, _, hc => ⟨Int.le_refl _, fun b hb => (nomatch hb)⟩
  | b :: l, c, hl, hc => by
    have hl2 : ∀ b, b ∈ l → G.Lv b := fun b hb => hl b (List.mem_cons_of_mem _ hb)
    have s := I.str (hl b List.mem_cons_self) G.time
    obtain ⟨e1, e2, e3, e4⟩ := thr_st hc s
    by_cases q : qCov G x y u G.time b = true
    · have e : qThr G x y u c (b :: l) = qThr G x y u (c * (100 - qStr G G.time (G.up b)) / 100) l := by
        show (if qCov G x y u G.time b then _ else _) = _
        rw [if_pos q]
      obtain ⟨i1, i2⟩ := thr_z I (x := x) (y := y) (u := u) l (c * (100 - qStr G G.time (G.up b)) / 100) hl2 (by omega)
      rw [e]
      refine ⟨by omega, fun d hd hq => ?_⟩
      rcases List.mem_cons.mp hd with z | z
      · subst z
        omega
      · exact i2 d z hq
    · have e : qThr G x y u c (b :: l) = qThr G x y u c l := by
        show (if qCov G x y u G.time b then _ else _) = _
        rw [if_neg q]
      obtain ⟨i1, i2⟩ := thr_z I (x := x) (y := y) (u := u) l c hl2 hc
      rw [e]
      refine ⟨i1, fun d hd hq => ?_⟩
      rcases List.mem_cons.mp hd with z | z
      · subst z
        exact absurd hq q
      · exact i2 d z hq
theorem many_z (x y u : Int32) : ∀ (l : List Nat) (c : Int32), qMany G x y u c l = c + nI (l.countP (fun b => qCov G x y u G.time b))
  | [], c => (Int32.add_zero c).symm
  | b :: l, c => by
    by_cases q : qCov G x y u G.time b = true
    · rw [List.countP_cons_of_pos (p := fun b => qCov G x y u G.time b) q, ← nI_len, ← many_z x y u l]
      show (if qCov G x y u G.time b then _ else _) = _
      rw [if_pos q]
    · rw [List.countP_cons_of_neg (p := fun b => qCov G x y u G.time b) q, ← many_z x y u l]
      show (if qCov G x y u G.time b then _ else _) = _
      rw [if_neg q]
theorem qIn_none : ∀ l : List Nat, qIn none l = false
  | [] => rfl
  | b :: l => by
    unfold qIn
    rw [if_neg (by simp)]
    exact qIn_none l
theorem top_c {x y u t : Int32} {w : Option Nat} {b : Nat} {l : List Nat} : qTop G x y u t w (b :: l) = if qIn w (G.up b) then qTop G x y u t w l else if qCov G x y u t b then (G.nd b).number else qTop G x y u t w l := rfl
theorem top_no {x y u t : Int32} : ∀ l : List Nat, (∀ b, b ∈ l → ¬ qCov G x y u t b = true) → qTop G x y u t none l = -1
  | [], _ => rfl
  | b :: l, h => by
    rw [top_c, qIn_none, if_neg (by decide), if_neg (h b List.mem_cons_self)]
    exact top_no l (fun c hc => h c (List.mem_cons_of_mem _ hc))
theorem top_is {x y u t : Int32} {b : Nat} (cb : qCov G x y u t b = true) : ∀ l : List Nat, List.Pairwise (fun x y => (G.nd y).place.toInt < (G.nd x).place.toInt) l → b ∈ l → (∀ c, c ∈ l → qCov G x y u t c = true → (G.nd c).place.toInt ≤ (G.nd b).place.toInt) → qTop G x y u t none l = (G.nd b).number
  | [], _, hb, _ => (nomatch hb)
  | c :: l, hp, hb, h => by
    obtain ⟨p1, p2⟩ := List.pairwise_cons.mp hp
    rw [top_c, qIn_none, if_neg (by decide)]
    by_cases q : qCov G x y u t c = true
    · rw [if_pos q]
      rcases List.mem_cons.mp hb with z | z
      · rw [z]
      · have h1 := p1 b z
        have h2 := h c List.mem_cons_self q
        omega
    · rw [if_neg q]
      rcases List.mem_cons.mp hb with z | z
      · rw [← z] at q
        exact absurd cb q
      · exact top_is cb l p2 z (fun d hd => h d (List.mem_cons_of_mem _ hd))
theorem top_ex {x y u t : Int32} {w : Option Nat} : ∀ l : List Nat, qTop G x y u t w l = -1 ∨ ∃ c, c ∈ l ∧ ¬ qIn w (G.up c) = true ∧ qCov G x y u t c = true ∧ qTop G x y u t w l = (G.nd c).number
  | [] => Or.inl rfl
  | b :: l => by
    rw [top_c]
    by_cases q : qIn w (G.up b) = true
    · rw [if_pos q]
      exact (top_ex l).imp id (fun ⟨c, h, r⟩ => ⟨c, List.mem_cons_of_mem _ h, r⟩)
    · rw [if_neg q]
      by_cases q2 : qCov G x y u t b = true
      · rw [if_pos q2]
        exact Or.inr ⟨b, List.mem_cons_self, q, q2, rfl⟩
      · rw [if_neg q2]
        exact (top_ex l).imp id (fun ⟨c, h, r⟩ => ⟨c, List.mem_cons_of_mem _ h, r⟩)
theorem qI.whu (I : qI G) : ∀ (d : Nat) {b : Nat}, qDp G.parF (qLvf G.N G.goneF) G.wh d b → G.wh ∈ G.up b
  | 0, b, q => by
    rw [q.1, I.up_wh]
    exact List.mem_cons_self
  | d + 1, b, q => by
    obtain ⟨lb, p, e, q2⟩ := q
    obtain ⟨lp, eu⟩ := I.up_par lb e
    rw [eu]
    exact List.mem_cons_of_mem _ (I.whu d q2)
theorem qI.whi (I : qI G) (la : G.Lv a) : qIn (some G.wh) (G.up a) = true := by
  obtain ⟨d, hd, q, -⟩ := I.up la
  rw [qIn_mem]
  exact I.whu d q
theorem top_wh (I : qI G) {x y u t : Int32} : ∀ l : List Nat, (∀ b, b ∈ l → G.Lv b) → qTop G x y u t (some G.wh) l = -1
  | [], _ => rfl
  | b :: l, h => by
    rw [top_c, if_pos (I.whi (h b List.mem_cons_self))]
    exact top_wh I l (fun c hc => h c (List.mem_cons_of_mem _ hc))
theorem com_ex {l2 : List Nat} : ∀ l : List Nat, qCom G l2 l = (G.nd G.wh).number ∨ ∃ x, x ∈ l ∧ qCom G l2 l = (G.nd x).number
  | [] => Or.inl rfl
  | b :: l => by
    by_cases q : qIn (some b) l2 = true
    · refine Or.inr ⟨b, List.mem_cons_self, ?_⟩
      show (if qIn (some b) l2 then _ else _) = _
      rw [if_pos q]
    · have e : qCom G l2 (b :: l) = qCom G l2 l := by
        show (if qIn (some b) l2 then _ else _) = _
        rw [if_neg q]
      rw [e]
      exact (com_ex l).imp id (fun ⟨x, h, r⟩ => ⟨x, List.mem_cons_of_mem _ h, r⟩)
theorem com_ne (I : qI G) {b c : Nat} (lb : G.Lv b) (lc : G.Lv c) (hn : ¬ qIn (some b) (G.up c) = true) : qCom G (G.up b) (G.up c) ≠ (G.nd b).number := by
  obtain ⟨d, hd, q, ch, -⟩ := I.up lc
  intro e
  rcases com_ex (G := G) (l2 := G.up b) (G.up c) with z | ⟨x, hx, z⟩
  · rw [z] at e
    have := I.inj I.B.wl.1 lb.1 e
    rw [← this] at hn
    exact hn (I.whi lc)
  · rw [z] at e
    have := I.inj (ch.D x hx).1 lb.1 e
    rw [← this, qIn_mem] at hn
    exact hn hx
theorem df_same (p : Nat) (t : Int32) : qDf G p t t = false := by
  unfold qDf
  rw [bne_self_eq_false, Bool.and_false]
theorem dfn_same (t : Int32) : ∀ l : List Nat, qDfN G t t l = false
  | [] => rfl
  | b :: l => by
    unfold qDfN
    rw [df_same, df_same, df_same, df_same, if_neg (by decide), if_neg (by decide), if_neg (by decide), if_neg (by decide)]
    exact dfn_same t l
theorem chg_same (t : Int32) : ∀ (l : List Nat) (c : Int32), qChg G t t c l = c
  | [], c => rfl
  | b :: l, c => by
    unfold qChg
    rw [dfn_same, if_neg (by decide)]
    exact chg_same t l c
/-! places -/
theorem nI30 {n : Nat} (h : n ≤ 30) : (nI n).toInt = n := nI_toInt (by omega)
theorem qI.vlen (I : qI G) : (qVs G).length ≤ 30 := I.len I.odm.1 (fun b hb => ((I.odm.2 b).mp hb).1)
theorem qI.plV (I : qI G) : List.Pairwise (fun x y => (G.nd x).place.toInt < (G.nd y).place.toInt) (qVs G) := by
  rw [List.pairwise_iff_getElem]
  intro i j hi hj hij
  have v := I.vlen
  have e1 := I.C.pl i _ (List.getElem?_eq_getElem hi)
  have e2 := I.C.pl j _ (List.getElem?_eq_getElem hj)
  have e1 : (G.nd (qVs G)[i]).place = nI i := e1
  have e2 : (G.nd (qVs G)[j]).place = nI j := e2
  rw [e1, e2, nI30 (by omega), nI30 (by omega)]
  omega
theorem qI.plO (I : qI G) : List.Pairwise (fun x y => (G.nd y).place.toInt < (G.nd x).place.toInt) G.od := by
  rw [I.C.od, List.pairwise_reverse]
  exact I.plV
theorem qI.odL (I : qI G) {b : Nat} : b ∈ G.od ↔ G.Lv b := by
  rw [I.C.od, List.mem_reverse]
  exact I.odm.2 b
/-- the node at a place -/
theorem qI.at (I : qI G) {i : Nat} (h : i < (qVs G).length) : ∃ b, G.Lv b ∧ (qVs G)[i]? = some b ∧ (G.nd b).place = nI i ∧ ∀ c, c ∈ G.od → (G.nd c).place = (G.nd b).place → c = b := by
  refine ⟨(qVs G)[i], (I.odm.2 _).mp (List.getElem_mem h), List.getElem?_eq_getElem h, I.C.pl i _ (List.getElem?_eq_getElem h), fun c hc e => ?_⟩
  have v := I.vlen
  have e1 : (G.nd (qVs G)[i]).place = nI i := I.C.pl i _ (List.getElem?_eq_getElem h)
  have hc : c ∈ qVs G := (I.odm.2 c).mpr (I.odL.mp hc)
  obtain ⟨j, hj, ej⟩ := List.mem_iff_getElem.mp hc
  have e2 : (G.nd (qVs G)[j]).place = nI j := I.C.pl j _ (List.getElem?_eq_getElem hj)
  rw [ej] at e2
  rw [e1, e2] at e
  have := nI_inj (by omega) (by omega) e
  subst this
  exact ej.symm
theorem qI.rel (I : qI G) {b p : Nat} (lb : G.Lv b) (e : (G.nd b).par = some p) : if (G.nd b).layer.toInt < 0 then (G.nd b).place.toInt < (G.nd p).place.toInt else (G.nd p).place.toInt < (G.nd b).place.toInt := by
  obtain ⟨d, hd, q⟩ := I.B.dp b lb
  cases d with
  | zero =>
    have := q.2.2
    rw [show G.parF b = some p from e] at this
    cases this
  | succ d =>
    obtain ⟨-, p2, e2, q2⟩ := q
    rw [show G.parF b = some p from e] at e2
    cases e2
    have s := qLay_rel I.B.tk (m := 5) q2 (by omega) lb e
    have pw := I.plV
    by_cases z : (G.nd b).layer.toInt < 0
    · rw [if_pos z]
      rw [if_pos (show (qLyF G b).toInt < 0 from z)] at s
      exact (List.pairwise_cons.mp (pw.sublist s)).1 p List.mem_cons_self
    · rw [if_neg z]
      rw [if_neg (show ¬ (qLyF G b).toInt < 0 from z)] at s
      exact (List.pairwise_cons.mp (pw.sublist s)).1 b List.mem_cons_self
/-! another time: the tree is the same -/
theorem up_time (v : Int32) : ∀ (n : Nat) (o : Option Nat), qUp (G.s_time v) n o = qUp G n o
  | 0, _ => rfl
  | n + 1, none => rfl
  | n + 1, some a => congrArg (List.cons a) (up_time v n (G.nd a).par)
theorem last_time (v t : Int32) : ∀ (l : List Nat) (r : Option Nat), qLast (G.s_time v) t r l = qLast G t r l
  | [], r => rfl
  | a :: l, r => by
    show (if t < (G.ky a).time then r else qLast (G.s_time v) t (some a) l) = (if t < (G.ky a).time then r else qLast G t (some a) l)
    rw [last_time v t l]
theorem val_time (v : Int32) (p b : Nat) (t : Int32) : qVal (G.s_time v) p b t = qVal G p b t := rfl
theorem at_time (v : Int32) (p : Nat) (l : List Nat) (t : Int32) : qAt (G.s_time v) p l t = qAt G p l t := by
  have e : qLast (G.s_time v) = qLast G := funext fun t => funext fun r => funext fun l => last_time v t l r
  unfold qAt
  rw [e]
  rfl
theorem vl_time (v : Int32) (a j : Nat) (t : Int32) : (G.s_time v).vl a j t = G.vl a j t := at_time v _ _ t
theorem sh_time (v t : Int32) : ∀ l : List Nat, qSh (G.s_time v) t l = qSh G t l
  | [] => rfl
  | a :: l => by
    show (if (G.nd a).hid = 0 then (if (G.s_time v).vl a 3 t = 0 then false else qSh (G.s_time v) t l) else false) = (if (G.nd a).hid = 0 then (if G.vl a 3 t = 0 then false else qSh G t l) else false)
    rw [vl_time, sh_time v t l]
theorem en_time (v t : Int32) (a : Nat) (P : qPt) : qEn (G.s_time v) t a P = qEn G t a P := by
  have e0 : qEnX (G.s_time v) t a P = qEnX G t a P := by
    unfold qEnX
    rw [vl_time, vl_time, vl_time]
  have e1 : qEn3 (G.s_time v) t a P = qEn3 G t a P := by
    unfold qEn3
    rw [e0]
    rfl
  unfold qEn
  rw [e1]
  rfl
theorem dn_time (v t : Int32) (P : qPt) : ∀ l : List Nat, qDnP (G.s_time v) t l P = qDnP G t l P
  | [] => rfl
  | a :: l => by
    show qEn (G.s_time v) t a (qDnP (G.s_time v) t l P) = qEn G t a (qDnP G t l P)
    rw [en_time, dn_time v t P l]
theorem cov_time (v x y u t : Int32) (a : Nat) : qCov (G.s_time v) x y u t a = qCov G x y u t a := by
  have e : (G.s_time v).up a = G.up a := up_time v 6 (some a)
  unfold qCov
  rw [e, sh_time, dn_time]
  rfl
theorem top_time (v x y u t : Int32) (w : Option Nat) : ∀ l : List Nat, qTop (G.s_time v) x y u t w l = qTop G x y u t w l
  | [] => rfl
  | a :: l => by
    have e : (G.s_time v).up a = G.up a := up_time v 6 (some a)
    rw [top_c, top_c, e, cov_time, top_time v x y u t w l]
    rfl
end FACTS
