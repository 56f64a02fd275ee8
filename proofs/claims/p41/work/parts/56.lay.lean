/-! The order laid anew: the walk, and the state that it leaves. -/
section LAYO
variable {G G0 : qS} {F : Nat → Option fCe} {X : Nat × Nat × (Nat → Int32)} {k : Nat} {h : fSt} {a : Nat}
/-- one node laid -/
def qStp (G : qS) (a : Nat) : qS := ((((G.setN a ((G.nd a).s_bef G.last)).setN a (((G.nd a).s_bef G.last).s_place G.ord)).s_last (some a)).s_ord (G.ord + 1))
def qStps (G : qS) (V : List Nat) : qS := V.foldl qStp G
theorem qStps_nil : qStps G [] = G := rfl
theorem qStps_cons {V : List Nat} : qStps G (a :: V) = qStps (qStp G a) V := rfl
theorem qStps_app {V W : List Nat} : qStps G (V ++ W) = qStps (qStps G V) W := List.foldl_append
theorem qStp_ne {b : Nat} (q : b ≠ a) : (qStp G a).nd b = G.nd b := by
  show qu (qu G.nd a _) a _ b = _
  rw [qu_ne q, qu_ne q]
theorem qStp_eq : (qStp G a).nd a = ((G.nd a).s_bef G.last).s_place G.ord := by
  show qu (qu G.nd a _) a _ a = _
  rw [qu_eq]
theorem qStps_z : ∀ (V : List Nat) (G : qS), (qStps G V).z = G.z
  | [], _ => rfl
  | a :: V, G => qStps_z V (qStp G a)
theorem qStps_na : ∀ (V : List Nat) (G : qS), (qStps G V).na = G.na
  | [], _ => rfl
  | a :: V, G => qStps_na V (qStp G a)
theorem qStps_ta : ∀ (V : List Nat) (G : qS), (qStps G V).ta = G.ta
  | [], _ => rfl
  | a :: V, G => qStps_ta V (qStp G a)
theorem qStps_wh : ∀ (V : List Nat) (G : qS), (qStps G V).wh = G.wh
  | [], _ => rfl
  | a :: V, G => qStps_wh V (qStp G a)
theorem qStps_pt : ∀ (V : List Nat) (G : qS), (qStps G V).pt = G.pt
  | [], _ => rfl
  | a :: V, G => qStps_pt V (qStp G a)
theorem qStps_bo : ∀ (V : List Nat) (G : qS), (qStps G V).bo = G.bo
  | [], _ => rfl
  | a :: V, G => qStps_bo V (qStp G a)
theorem qStps_f0 : ∀ (V : List Nat) (G : qS), (qStps G V).f0 = G.f0
  | [], _ => rfl
  | a :: V, G => qStps_f0 V (qStp G a)
theorem qStps_f1 : ∀ (V : List Nat) (G : qS), (qStps G V).f1 = G.f1
  | [], _ => rfl
  | a :: V, G => qStps_f1 V (qStp G a)
theorem qStps_f2 : ∀ (V : List Nat) (G : qS), (qStps G V).f2 = G.f2
  | [], _ => rfl
  | a :: V, G => qStps_f2 V (qStp G a)
theorem qStps_f3 : ∀ (V : List Nat) (G : qS), (qStps G V).f3 = G.f3
  | [], _ => rfl
  | a :: V, G => qStps_f3 V (qStp G a)
theorem qStps_added : ∀ (V : List Nat) (G : qS), (qStps G V).added = G.added
  | [], _ => rfl
  | a :: V, G => qStps_added V (qStp G a)
theorem qStps_tracked : ∀ (V : List Nat) (G : qS), (qStps G V).tracked = G.tracked
  | [], _ => rfl
  | a :: V, G => qStps_tracked V (qStp G a)
theorem qStps_time : ∀ (V : List Nat) (G : qS), (qStps G V).time = G.time
  | [], _ => rfl
  | a :: V, G => qStps_time V (qStp G a)
theorem qStps_no : ∀ (V : List Nat) (G : qS), (qStps G V).no = G.no
  | [], _ => rfl
  | a :: V, G => qStps_no V (qStp G a)
theorem qStps_tr : ∀ (V : List Nat) (G : qS), (qStps G V).tr = G.tr
  | [], _ => rfl
  | a :: V, G => qStps_tr V (qStp G a)
theorem qStps_N : ∀ (V : List Nat) (G : qS), (qStps G V).N = G.N
  | [], _ => rfl
  | a :: V, G => qStps_N V (qStp G a)
theorem qStps_P : ∀ (V : List Nat) (G : qS), (qStps G V).P = G.P
  | [], _ => rfl
  | a :: V, G => qStps_P V (qStp G a)
theorem qStps_K : ∀ (V : List Nat) (G : qS), (qStps G V).K = G.K
  | [], _ => rfl
  | a :: V, G => qStps_K V (qStp G a)
theorem qStps_M : ∀ (V : List Nat) (G : qS), (qStps G V).M = G.M
  | [], _ => rfl
  | a :: V, G => qStps_M V (qStp G a)
theorem qStps_pp : ∀ (V : List Nat) (G : qS), (qStps G V).pp = G.pp
  | [], _ => rfl
  | a :: V, G => qStps_pp V (qStp G a)
theorem qStps_ky : ∀ (V : List Nat) (G : qS), (qStps G V).ky = G.ky
  | [], _ => rfl
  | a :: V, G => qStps_ky V (qStp G a)
theorem qStps_fm : ∀ (V : List Nat) (G : qS), (qStps G V).fm = G.fm
  | [], _ => rfl
  | a :: V, G => qStps_fm V (qStp G a)
theorem qStps_pr : ∀ (V : List Nat) (G : qS), (qStps G V).pr = G.pr
  | [], _ => rfl
  | a :: V, G => qStps_pr V (qStp G a)
theorem qStps_fr : ∀ (V : List Nat) (G : qS), (qStps G V).fr = G.fr
  | [], _ => rfl
  | a :: V, G => qStps_fr V (qStp G a)
theorem qStps_kl : ∀ (V : List Nat) (G : qS), (qStps G V).kl = G.kl
  | [], _ => rfl
  | a :: V, G => qStps_kl V (qStp G a)
theorem qStps_kd : ∀ (V : List Nat) (G : qS), (qStps G V).kd = G.kd
  | [], _ => rfl
  | a :: V, G => qStps_kd V (qStp G a)
theorem qStps_od : ∀ (V : List Nat) (G : qS), (qStps G V).od = G.od
  | [], _ => rfl
  | a :: V, G => qStps_od V (qStp G a)
theorem qStps_n_number : ∀ (V : List Nat) (G : qS) (b : Nat), ((qStps G V).nd b).number = (G.nd b).number
  | [], _, _ => rfl
  | a :: V, G, b => by
    rw [qStps_cons, qStps_n_number V (qStp G a) b]
    by_cases q : b = a
    · subst q; rw [qStp_eq]; rfl
    · rw [qStp_ne q]
theorem qStps_n_kind : ∀ (V : List Nat) (G : qS) (b : Nat), ((qStps G V).nd b).kind = (G.nd b).kind
  | [], _, _ => rfl
  | a :: V, G, b => by
    rw [qStps_cons, qStps_n_kind V (qStp G a) b]
    by_cases q : b = a
    · subst q; rw [qStp_eq]; rfl
    · rw [qStp_ne q]
theorem qStps_n_frame : ∀ (V : List Nat) (G : qS) (b : Nat), ((qStps G V).nd b).frame = (G.nd b).frame
  | [], _, _ => rfl
  | a :: V, G, b => by
    rw [qStps_cons, qStps_n_frame V (qStp G a) b]
    by_cases q : b = a
    · subst q; rw [qStp_eq]; rfl
    · rw [qStp_ne q]
theorem qStps_n_x : ∀ (V : List Nat) (G : qS) (b : Nat), ((qStps G V).nd b).x = (G.nd b).x
  | [], _, _ => rfl
  | a :: V, G, b => by
    rw [qStps_cons, qStps_n_x V (qStp G a) b]
    by_cases q : b = a
    · subst q; rw [qStp_eq]; rfl
    · rw [qStp_ne q]
theorem qStps_n_y : ∀ (V : List Nat) (G : qS) (b : Nat), ((qStps G V).nd b).y = (G.nd b).y
  | [], _, _ => rfl
  | a :: V, G, b => by
    rw [qStps_cons, qStps_n_y V (qStp G a) b]
    by_cases q : b = a
    · subst q; rw [qStp_eq]; rfl
    · rw [qStp_ne q]
theorem qStps_n_turns : ∀ (V : List Nat) (G : qS) (b : Nat), ((qStps G V).nd b).turns = (G.nd b).turns
  | [], _, _ => rfl
  | a :: V, G, b => by
    rw [qStps_cons, qStps_n_turns V (qStp G a) b]
    by_cases q : b = a
    · subst q; rw [qStp_eq]; rfl
    · rw [qStp_ne q]
theorem qStps_n_opac : ∀ (V : List Nat) (G : qS) (b : Nat), ((qStps G V).nd b).opac = (G.nd b).opac
  | [], _, _ => rfl
  | a :: V, G, b => by
    rw [qStps_cons, qStps_n_opac V (qStp G a) b]
    by_cases q : b = a
    · subst q; rw [qStp_eq]; rfl
    · rw [qStp_ne q]
theorem qStps_n_over : ∀ (V : List Nat) (G : qS) (b : Nat), ((qStps G V).nd b).over = (G.nd b).over
  | [], _, _ => rfl
  | a :: V, G, b => by
    rw [qStps_cons, qStps_n_over V (qStp G a) b]
    by_cases q : b = a
    · subst q; rw [qStp_eq]; rfl
    · rw [qStp_ne q]
theorem qStps_n_under : ∀ (V : List Nat) (G : qS) (b : Nat), ((qStps G V).nd b).under = (G.nd b).under
  | [], _, _ => rfl
  | a :: V, G, b => by
    rw [qStps_cons, qStps_n_under V (qStp G a) b]
    by_cases q : b = a
    · subst q; rw [qStp_eq]; rfl
    · rw [qStp_ne q]
theorem qStps_n_mir : ∀ (V : List Nat) (G : qS) (b : Nat), ((qStps G V).nd b).mir = (G.nd b).mir
  | [], _, _ => rfl
  | a :: V, G, b => by
    rw [qStps_cons, qStps_n_mir V (qStp G a) b]
    by_cases q : b = a
    · subst q; rw [qStp_eq]; rfl
    · rw [qStp_ne q]
theorem qStps_n_layer : ∀ (V : List Nat) (G : qS) (b : Nat), ((qStps G V).nd b).layer = (G.nd b).layer
  | [], _, _ => rfl
  | a :: V, G, b => by
    rw [qStps_cons, qStps_n_layer V (qStp G a) b]
    by_cases q : b = a
    · subst q; rw [qStp_eq]; rfl
    · rw [qStp_ne q]
theorem qStps_n_hid : ∀ (V : List Nat) (G : qS) (b : Nat), ((qStps G V).nd b).hid = (G.nd b).hid
  | [], _, _ => rfl
  | a :: V, G, b => by
    rw [qStps_cons, qStps_n_hid V (qStp G a) b]
    by_cases q : b = a
    · subst q; rw [qStp_eq]; rfl
    · rw [qStp_ne q]
theorem qStps_n_cut : ∀ (V : List Nat) (G : qS) (b : Nat), ((qStps G V).nd b).cut = (G.nd b).cut
  | [], _, _ => rfl
  | a :: V, G, b => by
    rw [qStps_cons, qStps_n_cut V (qStp G a) b]
    by_cases q : b = a
    · subst q; rw [qStp_eq]; rfl
    · rw [qStp_ne q]
theorem qStps_n_gone : ∀ (V : List Nat) (G : qS) (b : Nat), ((qStps G V).nd b).gone = (G.nd b).gone
  | [], _, _ => rfl
  | a :: V, G, b => by
    rw [qStps_cons, qStps_n_gone V (qStp G a) b]
    by_cases q : b = a
    · subst q; rw [qStp_eq]; rfl
    · rw [qStp_ne q]
theorem qStps_n_par : ∀ (V : List Nat) (G : qS) (b : Nat), ((qStps G V).nd b).par = (G.nd b).par
  | [], _, _ => rfl
  | a :: V, G, b => by
    rw [qStps_cons, qStps_n_par V (qStp G a) b]
    by_cases q : b = a
    · subst q; rw [qStp_eq]; rfl
    · rw [qStp_ne q]
theorem qStps_n_fst : ∀ (V : List Nat) (G : qS) (b : Nat), ((qStps G V).nd b).fst = (G.nd b).fst
  | [], _, _ => rfl
  | a :: V, G, b => by
    rw [qStps_cons, qStps_n_fst V (qStp G a) b]
    by_cases q : b = a
    · subst q; rw [qStp_eq]; rfl
    · rw [qStp_ne q]
theorem qStps_n_nxt : ∀ (V : List Nat) (G : qS) (b : Nat), ((qStps G V).nd b).nxt = (G.nd b).nxt
  | [], _, _ => rfl
  | a :: V, G, b => by
    rw [qStps_cons, qStps_n_nxt V (qStp G a) b]
    by_cases q : b = a
    · subst q; rw [qStp_eq]; rfl
    · rw [qStp_ne q]
theorem qStps_out : ∀ (V : List Nat) (G : qS) (b : Nat), ¬ b ∈ V → (qStps G V).nd b = G.nd b
  | [], _, _, _ => rfl
  | a :: V, G, b, q => by
    rw [qStps_cons, qStps_out V (qStp G a) b (fun z => q (List.mem_cons_of_mem _ z)), qStp_ne (fun z => q (by rw [z]; exact List.mem_cons_self))]
theorem qStps_ord : ∀ (V : List Nat) (G : qS), (qStps G V).ord = G.ord + nI V.length
  | [], G => by
    show G.ord = G.ord + nI 0
    rw [show nI 0 = 0 from rfl, Int32.add_zero]
  | a :: V, G => by
    rw [qStps_cons, qStps_ord V (qStp G a)]
    show G.ord + 1 + nI V.length = _
    rw [nI_len]
    rfl
theorem qStps_place : ∀ (V : List Nat) (G : qS) (j a : Nat), V.Nodup → V[j]? = some a → ((qStps G V).nd a).place = G.ord + nI j
  | [], _, j, a, _, e => by simp at e
  | b :: V, G, 0, a, d, e => by
    have e2 : b = a := by simpa using e
    subst e2
    rw [qStps_cons, qStps_out V _ _ (List.nodup_cons.mp d).1, qStp_eq]
    show G.ord = G.ord + nI 0
    rw [show nI 0 = 0 from rfl, Int32.add_zero]
  | b :: V, G, j + 1, a, d, e => by
    have e2 : V[j]? = some a := by simpa using e
    rw [qStps_cons, qStps_place V (qStp G b) j a (List.nodup_cons.mp d).2 e2]
    show G.ord + 1 + nI j = _
    rw [nI_len]
theorem Ch.cg {nx nx2 : Nat → Option Nat} {D D2 : Nat → Prop} : ∀ {l : List Nat} {o : Option Nat}, Ch nx D l o → (∀ b, b ∈ l → nx2 b = nx b ∧ D2 b) → Ch nx2 D2 l o
  | [], _, c, _ => c
  | a :: l, _, c, q => by
    obtain ⟨e, ha, c2⟩ := c
    refine ⟨e, (q a List.mem_cons_self).2, ?_⟩
    rw [(q a List.mem_cons_self).1]
    exact Ch.cg c2 (fun b hb => q b (List.mem_cons_of_mem _ hb))
theorem qStps_ch {D : Nat → Prop} : ∀ (V : List Nat) (G : qS) (O : List Nat), V.Nodup → (∀ b, b ∈ V → D b ∧ ¬ b ∈ O) → Ch G.befF D O G.last → Ch (qStps G V).befF D (V.reverse ++ O) (qStps G V).last
  | [], _, _, _, _, c => c
  | a :: V, G, O, d, q, c => by
    obtain ⟨d1, d2⟩ := List.nodup_cons.mp d
    rw [qStps_cons, List.reverse_cons, List.append_assoc]
    refine qStps_ch V (qStp G a) (a :: O) d2 (fun b hb => ⟨(q b (List.mem_cons_of_mem _ hb)).1, ?_⟩) ⟨rfl, (q a List.mem_cons_self).1, ?_⟩
    · rintro z
      rcases List.mem_cons.mp z with z | z
      · exact d1 (by rw [← z]; exact hb)
      · exact (q b (List.mem_cons_of_mem _ hb)).2 z
    · have e : (qStp G a).befF a = G.last := by
        show ((qStp G a).nd a).bef = _
        rw [qStp_eq]; rfl
      rw [e]
      refine c.cg (fun b hb => ⟨?_, c.D b hb⟩)
      have n : b ≠ a := fun z => (q a List.mem_cons_self).2 (by rw [← z]; exact hb)
      show ((qStp G a).nd b).bef = (G.nd b).bef
      rw [qStp_ne n]
def qHgL (g : Nat → List Nat) (ly : Nat → Int32) (L : Int32) : List Nat → List Nat
  | [] => []
  | b :: ks => (if ly b = L then g b else []) ++ qHgL g ly L ks
def qHg (g : Nat → List Nat) (ly : Nat → Int32) (ks : List Nat) : Nat → Int32 → List Nat
  | 0, _ => []
  | n + 1, L => qHgL g ly L ks ++ qHg g ly ks n (L + 1)
def qLay (ly : Nat → Int32) (kd : Nat → List Nat) : Nat → Nat → List Nat
  | 0, _ => []
  | f + 1, a => qHg (qLay ly kd f) ly (kd a) 9 (-9) ++ a :: qHg (qLay ly kd f) ly (kd a) 10 0
/-- alike in what the laying reads -/
def qSm (G0 G : qS) : Prop := G.z = G0.z ∧ G.N = G0.N ∧ ∀ b, (G.nd b).nxt = (G0.nd b).nxt ∧ (G.nd b).fst = (G0.nd b).fst ∧ (G.nd b).layer = (G0.nd b).layer
theorem qSm.stps (q : qSm G0 G) (V : List Nat) : qSm G0 (qStps G V) := ⟨(qStps_z V G).trans q.1, (qStps_N V G).trans q.2.1, fun b => ⟨(qStps_n_nxt V G b).trans (q.2.2 b).1, (qStps_n_fst V G b).trans (q.2.2 b).2.1, (qStps_n_layer V G b).trans (q.2.2 b).2.2⟩⟩
def qLyF (G : qS) : Nat → Int32 := fun b => (G.nd b).layer
theorem x_hgL {self : Nat → Option Nat → Int32 → fSt → Option (Unit × fSt)} {k3 : Option Nat → Option Nat → Int32 → Int32 → Int32 → fSt → Option (Unit × fSt)} {g : Nat → List Nat} {D : Nat → Prop} {a3 a4 L : Int32} (hD : ∀ b, D b → G0.N b)
    (S : ∀ (b : Nat) (G : qS) (h : fSt), D b → qSm G0 G → qR G F X k h → ∃ h2, self G0.z (some b) a4 h = some ((), h2) ∧ qR (qStps G (g b)) F X k h2) : ∀ (ks : List Nat) (o : Option Nat) (n : Nat) (G : qS) (h : fSt), Ch G0.nxtF D ks o → ks.length < n → qSm G0 G → qR G F X k h → ∃ h2, f_X7_layHanging_L15 self k3 n (some G0.z) (some a) a3 a4 L o h = k3 (some G0.z) (some a) a3 a4 (L + 1) h2 ∧ qR (qStps G (qHgL g (qLyF G0) L ks)) F X k h2
  | [], o, n + 1, G, h, c, _, q, R => by
    obtain rfl : o = none := c
    rw [sN_X7_layHanging_L15]
    exact ⟨h, rfl, R⟩
  | b :: ks, o, n + 1, G, h, c, hn, q, R => by
    obtain ⟨rfl, hb, c2⟩ := c
    have hn2 : ks.length + 1 < n + 1 := hn
    have eN : G.N b := by rw [q.2.1]; exact hD b hb
    rw [sS_X7_layHanging_L15, gN_layer R eN, Option.bind_some, (q.2.2 b).2.2]
    unfold f_X7_layHanging_L38 qHgL
    have nx : ∀ (G : qS) (h : fSt), qSm G0 G → qR G F X k h → ∃ h2, ((fgR h (some b) 4 16).bind fun x1 => f_X7_layHanging_L15 self k3 n (some G0.z) (some a) a3 a4 L x1 h) = k3 (some G0.z) (some a) a3 a4 (L + 1) h2 ∧ qR (qStps G (qHgL g (qLyF G0) L ks)) F X k h2 := by
      intro G h q R
      have eN : G.N b := by rw [q.2.1]; exact hD b hb
      rw [gN_nxt R eN, Option.bind_some, (q.2.2 b).1]
      exact x_hgL hD S ks _ n G h c2 (by omega) q R
    by_cases z : (G0.nd b).layer = L
    · obtain ⟨h2, e2, R2⟩ := S b G h hb q R
      have oz : fobj h (some G0.z) 7 = some G0.z := by
        have := oS R
        rw [q.1] at this
        exact this
      rw [if_pos z, if_pos (show qLyF G0 b = L from z), oz, Option.bind_some, e2, Option.bind_some, qStps_app]
      exact nx _ h2 (q.stps _) R2
    · rw [if_neg z, if_neg (show ¬ qLyF G0 b = L from z), List.nil_append]
      exact nx G h q R
theorem x_hg {self : Nat → Option Nat → Int32 → fSt → Option (Unit × fSt)} {g : Nat → List Nat} {D : Nat → Prop} {kd : Nat → List Nat} {a3 a4 : Int32} (hD : ∀ b, D b → G0.N b) (ha : D a) (hk : Ch G0.nxtF D (kd a) (G0.nd a).fst ∧ (kd a).length ≤ 100) (h3 : a3.toInt ≤ 100)
    (S : ∀ (b : Nat) (G : qS) (h : fSt), D b → qSm G0 G → qR G F X k h → ∃ h2, self G0.z (some b) a4 h = some ((), h2) ∧ qR (qStps G (g b)) F X k h2) : ∀ (m n : Nat) (L : Int32) (G : qS) (h : fSt), m < n → -100 ≤ L.toInt → L.toInt + m = a3.toInt + 1 → qSm G0 G → qR G F X k h → ∃ h2, f_X7_layHanging_L3 self n (some G0.z) (some a) a3 a4 L h = some ((), h2) ∧ qR (qStps G (qHg g (qLyF G0) (kd a) m L)) F X k h2
  | 0, n + 1, L, G, h, _, _, e, q, R => by
    rw [st_X7_layHanging_L3, if_pos (i32_lt2 (by omega))]
    exact ⟨h, rfl, R⟩
  | m + 1, n + 1, L, G, h, hn, h0, e, q, R => by
    have eN : G.N a := by rw [q.2.1]; exact hD a ha
    have s1 := i32_s (i := L) (by omega) (by omega)
    rw [st_X7_layHanging_L3, if_neg (i32_nlt (by omega)), gN_fst R eN, Option.bind_some, (q.2.2 a).2.1]
    obtain ⟨h2, e2, R2⟩ := x_hgL (a := a) (k3 := f_X7_layHanging_L3 self n) (a3 := a3) (a4 := a4) (L := L) hD S (kd a) _ 4096 G h hk.1 (by omega) q R
    obtain ⟨h3, e3, R3⟩ := x_hg hD ha hk h3 S m n (L + 1) _ h2 (by omega) (by omega) (by omega) (q.stps _) R2
    refine ⟨h3, e2.trans e3, ?_⟩
    unfold qHg
    rw [qStps_app]
    exact R3
theorem x_stp (R : qR G F X k h) (ha : G.N a) : ∃ h1 h2 h3 h4, fput h (some a) 4 17 (va_rf G.last) = some h1 ∧ fgI h1 (some G.z) 7 9 = some G.ord ∧ fput h1 (some a) 4 18 (.int G.ord) = some h2 ∧ fput h2 (some G.z) 7 8 (va_rf (some a)) = some h3 ∧ fgI h3 (some G.z) 7 9 = some G.ord ∧ fput h3 (some G.z) 7 9 (.int (G.ord + 1)) = some h4 ∧ qR (qStp G a) F X k h4 := by
  obtain ⟨h1, w1, R1⟩ := wN_bef R ha rfl G.last
  obtain ⟨h2, w2, R2⟩ := wN_place R1 (a := a) ha at_setN G.ord
  obtain ⟨h3, w3, R3⟩ := wS_last R2 (some a)
  obtain ⟨h4, w4, R4⟩ := wS_ord R3 (G.ord + 1)
  have o1 := gS_ord R1
  have o3 := gS_ord R3
  exact ⟨h1, h2, h3, h4, w1, o1, w2, w3, o3, w4, R4⟩
theorem x_lay {D : Nat → Prop} {kd : Nat → List Nat} (hD : ∀ b, D b → G0.N b) (hk : ∀ a, D a → Ch G0.nxtF D (kd a) (G0.nd a).fst ∧ (kd a).length ≤ 100) : ∀ (f a d : Nat) (i : Int32) (G : qS) (h : fSt), D a → f < d → 0 ≤ i.toInt → (f : Int) + i.toInt = 5 → qSm G0 G → qR G F X k h → ∃ h2, f_X7_lay d G0.z (some a) i h = some ((), h2) ∧ qR (qStps G (qLay (qLyF G0) kd f a)) F X k h2
  | 0, a, d + 1, i, G, h, ha, _, _, e, q, R => by
    have e4 : (4 : Int32).toInt = 4 := by decide
    rw [st_X7_lay]
    unfold f_X7_lay_L0
    rw [if_neg (i32_nle (by omega))]
    exact ⟨h, rfl, R⟩
  | f + 1, a, d + 1, i, G, h, ha, hd, h0, e, q, R => by
    have e4 : (4 : Int32).toInt = 4 := by decide
    have s1 := i32_s (i := i) (by omega) (by omega)
    have S : ∀ (b : Nat) (G : qS) (h : fSt), D b → qSm G0 G → qR G F X k h → ∃ h2, f_X7_lay d G0.z (some b) (i + 1) h = some ((), h2) ∧ qR (qStps G (qLay (qLyF G0) kd f b)) F X k h2 := fun b G h hb q R => x_lay hD hk f b d (i + 1) G h hb (by omega) (by omega) (by omega) q R
    have oz : ∀ (G : qS) (h : fSt), qSm G0 G → qR G F X k h → fobj h (some G0.z) 7 = some G0.z := fun G h q R => by
      have := oS R
      rw [q.1] at this
      exact this
    obtain ⟨h1, e1, R1⟩ := x_hg (a3 := -1) (a4 := i + 1) hD ha (hk a ha) (by decide) S 9 4096 (-9) G h (by decide) (by decide) (by decide) q R
    have q1 := q.stps (qHg (qLay (qLyF G0) kd f) (qLyF G0) (kd a) 9 (-9))
    have eN : (qStps G (qHg (qLay (qLyF G0) kd f) (qLyF G0) (kd a) 9 (-9))).N a := by rw [q1.2.1]; exact hD a ha
    obtain ⟨h2, h3, h4, h5, w1, g1, w2, w3, g2, w4, R5⟩ := x_stp R1 eN
    rw [q1.1] at g1 w3 g2 w4
    have gl := gS_last R1
    rw [q1.1] at gl
    have q5 : qSm G0 (qStp (qStps G (qHg (qLay (qLyF G0) kd f) (qLyF G0) (kd a) 9 (-9))) a) := q1.stps [a]
    obtain ⟨h6, e6, R6⟩ := x_hg (a3 := 9) (a4 := i + 1) hD ha (hk a ha) (by decide) S 10 4096 0 _ h5 (by decide) (by decide) (by decide) q5 R5
    refine ⟨h6, ?_, ?_⟩
    · rw [st_X7_lay]
      unfold f_X7_lay_L0 f_X7_layHanging f_X7_layHanging_L0
      rw [if_pos (i32_le (by omega)), oz G h q R, Option.bind_some, e1, Option.bind_some]
      dsimp only
      rw [gl, Option.bind_some, w1, Option.bind_some, g1, Option.bind_some, w2, Option.bind_some, w3, Option.bind_some, g2, Option.bind_some, w4, Option.bind_some, oz _ _ q5 R5, Option.bind_some, e6, Option.bind_some]
    · unfold qLay
      rw [qStps_app, qStps_cons]
      exact R6
/-- the order as the tree has it, first to last -/
def qVs (G : qS) : List Nat := qLay (qLyF G) G.kd 5 G.wh
def qLO (G : qS) : qS := (qStps ((G.s_last none).s_ord 0) (qVs G)).s_od (qVs G).reverse
theorem x_layOrder (R : qR G F X k h) {D : Nat → Prop} (hD : ∀ b, D b → G.N b) (hk : ∀ a, D a → Ch G.nxtF D (G.kd a) (G.nd a).fst ∧ (G.kd a).length ≤ 100) (hw : D G.wh) : ∃ h2, f_X7_layOrder G.z h = some ((), h2) ∧ qR (qLO G) F X k h2 := by
  obtain ⟨h1, w1, R1⟩ := wS_last R none
  obtain ⟨h2, w2, R2⟩ := wS_ord R1 0
  have q : qSm G ((G.s_last none).s_ord 0) := ⟨rfl, rfl, fun b => ⟨rfl, rfl, rfl⟩⟩
  obtain ⟨h3, e3, R3⟩ := x_lay hD hk 5 G.wh 8 0 _ h2 hw (by decide) (by decide) (by decide) q R2
  refine ⟨h3, ?_, R3⟩
  unfold f_X7_layOrder f_X7_layOrder_L0
  have g := gS_wh R2
  have oz := oS R2
  rw [show ((G.s_last none).s_ord 0).z = G.z from rfl] at g oz
  rw [show (G.s_last none).z = G.z from rfl] at w2
  rw [w1, Option.bind_some, w2, Option.bind_some, g, Option.bind_some, oz, Option.bind_some]
  rw [show ((G.s_last none).s_ord 0).wh = G.wh from rfl, e3, Option.bind_some]
end LAYO
