/-! The order laid anew keeps all else, and makes the order right. -/
section LO2
variable {G : qS} {a : Nat}
/-- the invariant but for the order -/
def qJ (G : qS) : Prop :=
  (qIA G.added G.no G.N G.numF G.wh) ∧
  (qIB G.N G.goneF G.parF G.fstF G.nxtF (qLyF G) G.kd G.wh) ∧
  (qIX G.N G.xF G.yF G.tuF G.opF G.pr G.P) ∧
  (qID G.N G.pr G.pp) ∧
  (qIK G.P G.pp G.K G.ky G.kl) ∧
  (qIO G.N G.goneF G.pr G.pp) ∧
  (qIE G.N G.ovF G.unF G.frF G.cuF G.fr G.M G.fm) ∧
  (qIF G.tracked G.tr G.P G.pp) ∧
  (qIW G.wh G.ovF G.unF G.miF G.cuF G.pr G.pp) ∧
  (qFd G)
theorem qJ.A {G : qS} (hq0 : qJ G) : qIA G.added G.no G.N G.numF G.wh := hq0.1
theorem qJ.B {G : qS} (hq0 : qJ G) : qIB G.N G.goneF G.parF G.fstF G.nxtF (qLyF G) G.kd G.wh := hq0.2.1
theorem qJ.Y {G : qS} (hq0 : qJ G) : qIX G.N G.xF G.yF G.tuF G.opF G.pr G.P := hq0.2.2.1
theorem qJ.D {G : qS} (hq0 : qJ G) : qID G.N G.pr G.pp := hq0.2.2.2.1
theorem qJ.K {G : qS} (hq0 : qJ G) : qIK G.P G.pp G.K G.ky G.kl := hq0.2.2.2.2.1
theorem qJ.O {G : qS} (hq0 : qJ G) : qIO G.N G.goneF G.pr G.pp := hq0.2.2.2.2.2.1
theorem qJ.E {G : qS} (hq0 : qJ G) : qIE G.N G.ovF G.unF G.frF G.cuF G.fr G.M G.fm := hq0.2.2.2.2.2.2.1
theorem qJ.T {G : qS} (hq0 : qJ G) : qIF G.tracked G.tr G.P G.pp := hq0.2.2.2.2.2.2.2.1
theorem qJ.W {G : qS} (hq0 : qJ G) : qIW G.wh G.ovF G.unF G.miF G.cuF G.pr G.pp := hq0.2.2.2.2.2.2.2.2.1
theorem qJ.fd {G : qS} (hq0 : qJ G) : qFd G := hq0.2.2.2.2.2.2.2.2.2
theorem qI.J (I : qI G) : qJ G := ⟨I.A, I.B, I.Y, I.D, I.K, I.O, I.E, I.T, I.W, I.fd⟩
theorem lo_z : (qLO G).z = G.z := qStps_z _ _
theorem lo_na : (qLO G).na = G.na := qStps_na _ _
theorem lo_ta : (qLO G).ta = G.ta := qStps_ta _ _
theorem lo_wh : (qLO G).wh = G.wh := qStps_wh _ _
theorem lo_pt : (qLO G).pt = G.pt := qStps_pt _ _
theorem lo_bo : (qLO G).bo = G.bo := qStps_bo _ _
theorem lo_f0 : (qLO G).f0 = G.f0 := qStps_f0 _ _
theorem lo_f1 : (qLO G).f1 = G.f1 := qStps_f1 _ _
theorem lo_f2 : (qLO G).f2 = G.f2 := qStps_f2 _ _
theorem lo_f3 : (qLO G).f3 = G.f3 := qStps_f3 _ _
theorem lo_added : (qLO G).added = G.added := qStps_added _ _
theorem lo_tracked : (qLO G).tracked = G.tracked := qStps_tracked _ _
theorem lo_time : (qLO G).time = G.time := qStps_time _ _
theorem lo_no : (qLO G).no = G.no := qStps_no _ _
theorem lo_tr : (qLO G).tr = G.tr := qStps_tr _ _
theorem lo_N : (qLO G).N = G.N := qStps_N _ _
theorem lo_P : (qLO G).P = G.P := qStps_P _ _
theorem lo_K : (qLO G).K = G.K := qStps_K _ _
theorem lo_M : (qLO G).M = G.M := qStps_M _ _
theorem lo_pp : (qLO G).pp = G.pp := qStps_pp _ _
theorem lo_ky : (qLO G).ky = G.ky := qStps_ky _ _
theorem lo_fm : (qLO G).fm = G.fm := qStps_fm _ _
theorem lo_pr : (qLO G).pr = G.pr := qStps_pr _ _
theorem lo_fr : (qLO G).fr = G.fr := qStps_fr _ _
theorem lo_kl : (qLO G).kl = G.kl := qStps_kl _ _
theorem lo_kd : (qLO G).kd = G.kd := qStps_kd _ _
theorem lon_number (b : Nat) : ((qLO G).nd b).number = (G.nd b).number := qStps_n_number _ _ b
theorem lon_kind (b : Nat) : ((qLO G).nd b).kind = (G.nd b).kind := qStps_n_kind _ _ b
theorem lon_frame (b : Nat) : ((qLO G).nd b).frame = (G.nd b).frame := qStps_n_frame _ _ b
theorem lon_x (b : Nat) : ((qLO G).nd b).x = (G.nd b).x := qStps_n_x _ _ b
theorem lon_y (b : Nat) : ((qLO G).nd b).y = (G.nd b).y := qStps_n_y _ _ b
theorem lon_turns (b : Nat) : ((qLO G).nd b).turns = (G.nd b).turns := qStps_n_turns _ _ b
theorem lon_opac (b : Nat) : ((qLO G).nd b).opac = (G.nd b).opac := qStps_n_opac _ _ b
theorem lon_over (b : Nat) : ((qLO G).nd b).over = (G.nd b).over := qStps_n_over _ _ b
theorem lon_under (b : Nat) : ((qLO G).nd b).under = (G.nd b).under := qStps_n_under _ _ b
theorem lon_mir (b : Nat) : ((qLO G).nd b).mir = (G.nd b).mir := qStps_n_mir _ _ b
theorem lon_layer (b : Nat) : ((qLO G).nd b).layer = (G.nd b).layer := qStps_n_layer _ _ b
theorem lon_hid (b : Nat) : ((qLO G).nd b).hid = (G.nd b).hid := qStps_n_hid _ _ b
theorem lon_cut (b : Nat) : ((qLO G).nd b).cut = (G.nd b).cut := qStps_n_cut _ _ b
theorem lon_gone (b : Nat) : ((qLO G).nd b).gone = (G.nd b).gone := qStps_n_gone _ _ b
theorem lon_par (b : Nat) : ((qLO G).nd b).par = (G.nd b).par := qStps_n_par _ _ b
theorem lon_fst (b : Nat) : ((qLO G).nd b).fst = (G.nd b).fst := qStps_n_fst _ _ b
theorem lon_nxt (b : Nat) : ((qLO G).nd b).nxt = (G.nd b).nxt := qStps_n_nxt _ _ b
theorem qIB.odm {N : Nat → Prop} {gone : Nat → Int32} {par fst nxt : Nat → Option Nat} {ly : Nat → Int32} {kd : Nat → List Nat} {wh : Nat} (B : qIB N gone par fst nxt ly kd wh) : (qLay ly kd 5 wh).Nodup ∧ ∀ b, b ∈ qLay ly kd 5 wh ↔ qLvf N gone b := by
  obtain ⟨d, hd, q⟩ := B.dp wh B.wl
  cases d with
  | succ d =>
    obtain ⟨-, p, e, -⟩ := q
    rw [B.wp] at e
    cases e
  | zero =>
    refine ⟨qLay_nodup B.tk q, fun b => ⟨fun hb => ?_, fun lb => ?_⟩⟩
    · obtain ⟨n, -, -, q2⟩ := qLay_mem B.tk q hb
      exact q2.lv
    · obtain ⟨e, he, q2⟩ := B.dp b lb
      exact qLay_all B.tk q2 (by omega)
theorem qVs_lo : qVs (qLO G) = qVs G := by
  unfold qVs
  rw [show qLyF (qLO G) = qLyF G from funext fun b => lon_layer b, lo_kd, lo_wh]
theorem qJ.lo (J : qJ G) : qI (qLO G) := by
  obtain ⟨n1, n2⟩ := J.B.odm
  have n1 : (qVs G).Nodup := n1
  have n2 : ∀ b, b ∈ qVs G ↔ qLvf G.N G.goneF b := n2
  have ch := qStps_ch (D := G.N) (qVs G) ((G.s_last none).s_ord 0) [] n1 (fun b hb => ⟨((n2 b).mp hb).1, fun z => nomatch z⟩) rfl
  rw [List.append_nil] at ch
  refine ⟨?_, ?_, ⟨?_, ?_, ?_, fun j b e => ?_⟩, ?_, ?_, ?_, ?_, ?_, ?_, ?_, ?_⟩
  · rw [lo_added, lo_no, lo_N, lo_wh, show (qLO G).numF = G.numF from funext fun b => lon_number b]; exact J.A
  · rw [lo_N, lo_wh, lo_kd, show (qLO G).goneF = G.goneF from funext fun b => lon_gone b, show (qLO G).parF = G.parF from funext fun b => lon_par b, show (qLO G).fstF = G.fstF from funext fun b => lon_fst b, show (qLO G).nxtF = G.nxtF from funext fun b => lon_nxt b, show qLyF (qLO G) = qLyF G from funext fun b => lon_layer b]; exact J.B
  · rw [qVs_lo]; rfl
  · rw [lo_N]; exact ch
  · rw [qVs_lo]
    refine (qStps_ord (qVs G) ((G.s_last none).s_ord 0)).trans ?_
    show 0 + _ = _
    rw [Int32.zero_add]
  · rw [qVs_lo] at e
    refine (qStps_place (qVs G) ((G.s_last none).s_ord 0) j b n1 e).trans ?_
    show 0 + _ = _
    rw [Int32.zero_add]
  · rw [lo_N, lo_P, lo_pr, show (qLO G).xF = G.xF from funext fun b => lon_x b, show (qLO G).yF = G.yF from funext fun b => lon_y b, show (qLO G).tuF = G.tuF from funext fun b => lon_turns b, show (qLO G).opF = G.opF from funext fun b => lon_opac b]; exact J.Y
  · rw [lo_N, lo_pr, lo_pp]; exact J.D
  · rw [lo_P, lo_pp, lo_K, lo_ky, lo_kl]; exact J.K
  · rw [lo_N, lo_pr, lo_pp, show (qLO G).goneF = G.goneF from funext fun b => lon_gone b]; exact J.O
  · rw [lo_N, lo_fr, lo_M, lo_fm, show (qLO G).ovF = G.ovF from funext fun b => lon_over b, show (qLO G).unF = G.unF from funext fun b => lon_under b, show (qLO G).frF = G.frF from funext fun b => lon_frame b, show (qLO G).cuF = G.cuF from funext fun b => lon_cut b]; exact J.E
  · rw [lo_tracked, lo_tr, lo_P, lo_pp]; exact J.T
  · rw [lo_wh, lo_pr, lo_pp, show (qLO G).ovF = G.ovF from funext fun b => lon_over b, show (qLO G).unF = G.unF from funext fun b => lon_under b, show (qLO G).miF = G.miF from funext fun b => lon_mir b, show (qLO G).cuF = G.cuF from funext fun b => lon_cut b]; exact J.W
  · unfold qFd
    rw [lo_f0, lo_f1, lo_f2, lo_f3]; exact J.fd
/-- a look: layer and hidden of a node -/
theorem qI.layN (I : qI G) {q : qN} (s : qSmN ((q).s_layer ((G.nd a).layer)) (G.nd a)) (e1 : q.over = (G.nd a).over ∧ q.under = (G.nd a).under ∧ q.mir = (G.nd a).mir ∧ q.cut = (G.nd a).cut) (hy : -9 ≤ q.layer.toInt ∧ q.layer.toInt ≤ 9) : qJ (G.setN a q) := by
  have s1 : q.number = (G.nd a).number := s.number
  have s2 : q.gone = (G.nd a).gone := s.gone
  have s3 : q.par = (G.nd a).par := s.par
  have s4 : q.fst = (G.nd a).fst := s.fst
  have s5 : q.nxt = (G.nd a).nxt := s.nxt
  have s6 : q.x = (G.nd a).x := s.x
  have s7 : q.y = (G.nd a).y := s.y
  have s8 : q.turns = (G.nd a).turns := s.turns
  have s9 : q.opac = (G.nd a).opac := s.opac
  have s10 : q.frame = (G.nd a).frame := s.frame
  refine ⟨?_, ?_, ?_, I.D, I.K, ?_, ?_, I.T, ?_, I.fd⟩
  · show qIA G.added G.no G.N (fun b => qN.number (qu G.nd a q b)) G.wh
    rw [qfld qN.number s1]; exact I.A
  · show qIB G.N (fun b => qN.gone (qu G.nd a q b)) (fun b => qN.par (qu G.nd a q b)) (fun b => qN.fst (qu G.nd a q b)) (fun b => qN.nxt (qu G.nd a q b)) (fun b => qN.layer (qu G.nd a q b)) G.kd G.wh
    rw [qfld qN.gone s2, qfld qN.par s3, qfld qN.fst s4, qfld qN.nxt s5]
    refine ⟨I.B.wl, I.B.wp, ⟨I.B.tk.1, fun b lb => ?_⟩, I.B.ch, I.B.dp⟩
    show -9 ≤ (qu G.nd a q b).layer.toInt ∧ (qu G.nd a q b).layer.toInt ≤ 9
    by_cases n : b = a
    · subst n; rw [qu_eq]; exact hy
    · rw [qu_ne n]; exact I.B.tk.2 b lb
  · show qIX G.N (fun b => qN.x (qu G.nd a q b)) (fun b => qN.y (qu G.nd a q b)) (fun b => qN.turns (qu G.nd a q b)) (fun b => qN.opac (qu G.nd a q b)) G.pr G.P
    rw [qfld qN.x s6, qfld qN.y s7, qfld qN.turns s8, qfld qN.opac s9]; exact I.Y
  · show qIO G.N (fun b => qN.gone (qu G.nd a q b)) G.pr G.pp
    rw [qfld qN.gone s2]; exact I.O
  · show qIE G.N (fun b => qN.over (qu G.nd a q b)) (fun b => qN.under (qu G.nd a q b)) (fun b => qN.frame (qu G.nd a q b)) (fun b => qN.cut (qu G.nd a q b)) G.fr G.M G.fm
    rw [qfld qN.over e1.1, qfld qN.under e1.2.1, qfld qN.frame s10, qfld qN.cut e1.2.2.2]; exact I.E
  · show qIW G.wh (fun b => qN.over (qu G.nd a q b)) (fun b => qN.under (qu G.nd a q b)) (fun b => qN.mir (qu G.nd a q b)) (fun b => qN.cut (qu G.nd a q b)) G.pr G.pp
    rw [qfld qN.over e1.1, qfld qN.under e1.2.1, qfld qN.mir e1.2.2.1, qfld qN.cut e1.2.2.2]; exact I.W
theorem qI.lookJ (I : qI G) (ha : G.N a) (hw : a ≠ G.wh) {y o hd : Int32} (hy : -9 ≤ y.toInt ∧ y.toInt ≤ 9) (ho : 0 ≤ o.toInt ∧ o.toInt ≤ 100) : qJ ((qOwn (G.setN a ((G.nd a).s_layer (y))) (G.pr a 3) o).setN a (((G.nd a).s_layer (y)).s_hid (hd))) := by
  have e : (qOwn (G.setN a ((G.nd a).s_layer (y))) (G.pr a 3) o).setN a (((G.nd a).s_layer (y)).s_hid (hd)) = (qOwn G (G.pr a 3) o).setN a (((G.nd a).s_layer (y)).s_hid (hd)) := by
    show ((qOwn G (G.pr a 3) o).setN a ((G.nd a).s_layer (y))).setN a (((G.nd a).s_layer (y)).s_hid (hd)) = _
    exact setN_setN
  rw [e]
  have I1 := I.own (j := 3) ha (by decide) hw (v := o) ho
  exact I1.layN (a := a) (q := (((G.nd a).s_layer (y)).s_hid (hd))) ⟨rfl, rfl, rfl, rfl, rfl, rfl, rfl, rfl, rfl, rfl, rfl, rfl, rfl⟩ ⟨rfl, rfl, rfl, rfl⟩ hy
theorem qJ.kc (J : qJ G) : qKc G := by
  have := J.lo.kc
  obtain ⟨w, h⟩ := this
  refine ⟨J.B.wl, fun b lb => ⟨J.B.ch b lb, ?_⟩⟩
  have := (h b ⟨by rw [lo_N]; exact lb.1, by rw [lon_gone]; exact lb.2⟩).2
  rw [lo_kd] at this
  exact this
theorem qI.look (I : qI G) (ha : G.N a) (hw : a ≠ G.wh) {y o hd : Int32} (hy : -9 ≤ y.toInt ∧ y.toInt ≤ 9) (ho : 0 ≤ o.toInt ∧ o.toInt ≤ 100) : qI (qLook G a y o hd) := (I.lookJ ha hw hy ho).lo
end LO2
