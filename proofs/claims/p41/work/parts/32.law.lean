noncomputable def f_L_law_L58  (h : fSt) : Option (Int32 × fSt) := some ((0 : Int32), h)
noncomputable def f_L_law_L197  (h : fSt) : Option (Int32 × fSt) := some ((0 : Int32), h)
noncomputable def f_L_law_L253 (k2 : Option Nat → Int32 → fSt → Option (Int32 × fSt)) (k69 : Option Nat → Int32 → Option Nat → Option Nat → Int32 → fSt → Option (Int32 × fSt)) (k163 : Option Nat → Int32 → Option Nat → Option Nat → Int32 → Int64 → Int32 → Option Nat → Int32 → fSt → Option (Int32 × fSt)) (a0 : Option Nat) (a1 : Int32) (a2 : Option Nat) (a3 : Option Nat) (a4 : Int32) (a5 : Int64) (a7 : Int32) (a8 : Option Nat) (a9 : Int32) (h : fSt) : Option (Int32 × fSt) := k163 a0 a1 a2 a3 a4 a5 a7 a8 (a9 + (1 : Int32)) h
noncomputable def f_L_law_L248 (k2 : Option Nat → Int32 → fSt → Option (Int32 × fSt)) (k69 : Option Nat → Int32 → Option Nat → Option Nat → Int32 → fSt → Option (Int32 × fSt)) (k163 : Option Nat → Int32 → Option Nat → Option Nat → Int32 → Int64 → Int32 → Option Nat → Int32 → fSt → Option (Int32 × fSt)) (a0 : Option Nat) (a1 : Int32) (a2 : Option Nat) (a3 : Option Nat) (a4 : Int32) (a5 : Int64) (a7 : Int32) (a8 : Option Nat) (a9 : Int32) (s1 : Int32) (s0 : Int32) (h : fSt) : Option (Int32 × fSt) := (if s0 = s1 then f_L_law_L253 k2 k69 k163 a0 a1 a2 a3 a4 a5 a7 a8 a9 h else some ((0 : Int32), h))
noncomputable def f_L_law_L230 (k2 : Option Nat → Int32 → fSt → Option (Int32 × fSt)) (k69 : Option Nat → Int32 → Option Nat → Option Nat → Int32 → fSt → Option (Int32 × fSt)) (k163 : Option Nat → Int32 → Option Nat → Option Nat → Int32 → Int64 → Int32 → Option Nat → Int32 → fSt → Option (Int32 × fSt)) (a0 : Option Nat) (a1 : Int32) (a2 : Option Nat) (a3 : Option Nat) (a4 : Int32) (a5 : Int64) (a7 : Int32) (a8 : Option Nat) (a9 : Int32) (a10 : Int32) (s0 : Int32) (h : fSt) : Option (Int32 × fSt) := (fgR h a2 8 4).bind fun x2 => (faR h x2 4 a10).bind fun x4 => (faI h x4 0 (6 : Int32)).bind fun x6 => (if 0 ≤ x6 then f_L_law_L248 k2 k69 k163 a0 a1 a2 a3 a4 a5 a7 a8 a9 (0 : Int32) s0 h else f_L_law_L248 k2 k69 k163 a0 a1 a2 a3 a4 a5 a7 a8 a9 (1 : Int32) s0 h)
noncomputable def f_L_law_L808 (k2 : Option Nat → Int32 → fSt → Option (Int32 × fSt)) (k69 : Option Nat → Int32 → Option Nat → Option Nat → Int32 → fSt → Option (Int32 × fSt)) (k310 : Option Nat → Int32 → Option Nat → Option Nat → Int32 → Int64 → Int32 → Int32 → Int32 → Int32 → Int32 → Int32 → Int32 → fSt → Option (Int32 × fSt)) (a0 : Option Nat) (a1 : Int32) (a2 : Option Nat) (a3 : Option Nat) (a4 : Int32) (a5 : Int64) (a9 : Int32) (a10 : Int32) (a11 : Int32) (a12 : Int32) (a13 : Int32) (a14 : Int32) (a15 : Int32) (h : fSt) : Option (Int32 × fSt) := k310 a0 a1 a2 a3 a4 a5 a9 a10 a11 a12 a13 a14 (a15 + (1 : Int32)) h
noncomputable def f_L_law_L461  (h : fSt) : Option (Int32 × fSt) := some ((0 : Int32), h)
noncomputable def f_L_law_L561  (h : fSt) : Option (Int32 × fSt) := some ((0 : Int32), h)
noncomputable def f_L_law_L506 (k2 : Option Nat → Int32 → fSt → Option (Int32 × fSt)) (k69 : Option Nat → Int32 → Option Nat → Option Nat → Int32 → fSt → Option (Int32 × fSt)) (k310 : Option Nat → Int32 → Option Nat → Option Nat → Int32 → Int64 → Int32 → Int32 → Int32 → Int32 → Int32 → Int32 → Int32 → fSt → Option (Int32 × fSt)) (k466 : Option Nat → Int32 → Option Nat → Option Nat → Int32 → Int64 → Int32 → Int32 → Int32 → Int32 → Int32 → Int32 → Int32 → Int32 → Int32 → fSt → Option (Int32 × fSt)) (a0 : Option Nat) (a1 : Int32) (a2 : Option Nat) (a3 : Option Nat) (a4 : Int32) (a5 : Int64) (a9 : Int32) (a10 : Int32) (a11 : Int32) (a12 : Int32) (a13 : Int32) (a14 : Int32) (a15 : Int32) (a16 : Int32) (a18 : Int32) (s1 : Int32) (s0 : Int32) (h : fSt) : Option (Int32 × fSt) := (if s0 = s1 then (fobj h a3 7).bind fun b12 => (f_X7_between b12 (0 : Int32) a16 (5 : Int32) (6 : Int32) a18 h).bind fun r10 => Sum.elim (fun v14 => (fobj r10.2 a3 7).bind fun b19 => (f_X7_fromWhole b19 a16 (5 : Int32) (6 : Int32) a18 r10.2).bind fun r17 => Sum.elim (fun v21 => (if v14 = v21 then (fobj r17.2 a3 7).bind fun b27 => (f_X7_between b27 a16 (0 : Int32) (5 : Int32) (6 : Int32) a18 r17.2).bind fun r25 => Sum.elim (fun v29 => (fobj r25.2 a3 7).bind fun b34 => (f_X7_toWhole b34 a16 (5 : Int32) (6 : Int32) a18 r25.2).bind fun r32 => Sum.elim (fun v36 => (if v29 = v36 then k466 a0 a1 a2 a3 a4 a5 a9 a10 a11 a12 a13 a14 a15 a16 (a18 + (1 : Int32)) r32.2 else f_L_law_L561 r32.2)) (fun _ => none) r32.1) (fun _ => none) r25.1 else f_L_law_L561 r17.2)) (fun _ => none) r17.1) (fun _ => none) r10.1 else f_L_law_L561 h)
noncomputable def f_L_law_L647  (h : fSt) : Option (Int32 × fSt) := some ((0 : Int32), h)
noncomputable def f_L_law_L800  (h : fSt) : Option (Int32 × fSt) := some ((0 : Int32), h)
noncomputable def f_L_law_L802 (k2 : Option Nat → Int32 → fSt → Option (Int32 × fSt)) (k69 : Option Nat → Int32 → Option Nat → Option Nat → Int32 → fSt → Option (Int32 × fSt)) (k310 : Option Nat → Int32 → Option Nat → Option Nat → Int32 → Int64 → Int32 → Int32 → Int32 → Int32 → Int32 → Int32 → Int32 → fSt → Option (Int32 × fSt)) (k725 : Option Nat → Int32 → Option Nat → Option Nat → Int32 → Int64 → Int32 → Int32 → Int32 → Int32 → Int32 → Int32 → Int32 → Int32 → fSt → Option (Int32 × fSt)) (a0 : Option Nat) (a1 : Int32) (a2 : Option Nat) (a3 : Option Nat) (a4 : Int32) (a5 : Int64) (a9 : Int32) (a10 : Int32) (a11 : Int32) (a12 : Int32) (a13 : Int32) (a14 : Int32) (a15 : Int32) (a18 : Int32) (h : fSt) : Option (Int32 × fSt) := k725 a0 a1 a2 a3 a4 a5 a9 a10 a11 a12 a13 a14 a15 (a18 + (1 : Int32)) h
noncomputable def f_L_law_L745 (k2 : Option Nat → Int32 → fSt → Option (Int32 × fSt)) (k69 : Option Nat → Int32 → Option Nat → Option Nat → Int32 → fSt → Option (Int32 × fSt)) (k310 : Option Nat → Int32 → Option Nat → Option Nat → Int32 → Int64 → Int32 → Int32 → Int32 → Int32 → Int32 → Int32 → Int32 → fSt → Option (Int32 × fSt)) (k725 : Option Nat → Int32 → Option Nat → Option Nat → Int32 → Int64 → Int32 → Int32 → Int32 → Int32 → Int32 → Int32 → Int32 → Int32 → fSt → Option (Int32 × fSt)) (a0 : Option Nat) (a1 : Int32) (a2 : Option Nat) (a3 : Option Nat) (a4 : Int32) (a5 : Int64) (a9 : Int32) (a10 : Int32) (a11 : Int32) (a12 : Int32) (a13 : Int32) (a14 : Int32) (a15 : Int32) (a18 : Int32) (s0 : Int32) (h : fSt) : Option (Int32 × fSt) := (fobj h a3 7).bind fun b42 => (f_X7_bound b42 a15 a18 (1 : Int32) h).bind fun r40 => Sum.elim (fun v44 => (fobj r40.2 a3 7).bind fun b49 => (f_X7_bound b49 a15 a18 (0 : Int32) r40.2).bind fun r47 => Sum.elim (fun v51 => (if (2 : Int32) ≤ a18 then (if ((Int32.toInt64 s0) * (Int32.toInt64 v44)) ≤ ((Int32.toInt64 v51) * (Int32.toInt64 a9)) then f_L_law_L802 k2 k69 k310 k725 a0 a1 a2 a3 a4 a5 a9 a10 a11 a12 a13 a14 a15 a18 r47.2 else f_L_law_L800 r47.2) else (if ((Int32.toInt64 v51) * (Int32.toInt64 a9)) ≤ ((Int32.toInt64 s0) * (Int32.toInt64 v44)) then f_L_law_L802 k2 k69 k310 k725 a0 a1 a2 a3 a4 a5 a9 a10 a11 a12 a13 a14 a15 a18 r47.2 else f_L_law_L800 r47.2))) (fun _ => none) r47.1) (fun _ => none) r40.1
noncomputable def f_L_law_L725 (k2 : Option Nat → Int32 → fSt → Option (Int32 × fSt)) (k69 : Option Nat → Int32 → Option Nat → Option Nat → Int32 → fSt → Option (Int32 × fSt)) (k310 : Option Nat → Int32 → Option Nat → Option Nat → Int32 → Int64 → Int32 → Int32 → Int32 → Int32 → Int32 → Int32 → Int32 → fSt → Option (Int32 × fSt)) (n : Nat) : Option Nat → Int32 → Option Nat → Option Nat → Int32 → Int64 → Int32 → Int32 → Int32 → Int32 → Int32 → Int32 → Int32 → Int32 → fSt → Option (Int32 × fSt) := Nat.rec (motive := fun _ => Option Nat → Int32 → Option Nat → Option Nat → Int32 → Int64 → Int32 → Int32 → Int32 → Int32 → Int32 → Int32 → Int32 → Int32 → fSt → Option (Int32 × fSt)) (fun _ _ _ _ _ _ _ _ _ _ _ _ _ _ _ => none) (fun _ k725 (a0 : Option Nat) (a1 : Int32) (a2 : Option Nat) (a3 : Option Nat) (a4 : Int32) (a5 : Int64) (a9 : Int32) (a10 : Int32) (a11 : Int32) (a12 : Int32) (a13 : Int32) (a14 : Int32) (a15 : Int32) (a18 : Int32) (h : fSt) => (if (4 : Int32) ≤ a18 then f_L_law_L808 k2 k69 k310 a0 a1 a2 a3 a4 a5 a9 a10 a11 a12 a13 a14 a15 h else (if (a18 - a18 / (2 : Int32) * (2 : Int32)) = 0 then f_L_law_L745 k2 k69 k310 k725 a0 a1 a2 a3 a4 a5 a9 a10 a11 a12 a13 a14 a15 a18 a10 h else f_L_law_L745 k2 k69 k310 k725 a0 a1 a2 a3 a4 a5 a9 a10 a11 a12 a13 a14 a15 a18 a11 h))) n
noncomputable def f_L_law_L697 (k2 : Option Nat → Int32 → fSt → Option (Int32 × fSt)) (k69 : Option Nat → Int32 → Option Nat → Option Nat → Int32 → fSt → Option (Int32 × fSt)) (k310 : Option Nat → Int32 → Option Nat → Option Nat → Int32 → Int64 → Int32 → Int32 → Int32 → Int32 → Int32 → Int32 → Int32 → fSt → Option (Int32 × fSt)) (a0 : Option Nat) (a1 : Int32) (a2 : Option Nat) (a3 : Option Nat) (a4 : Int32) (a5 : Int64) (a9 : Int32) (a10 : Int32) (a11 : Int32) (a12 : Int32) (a14 : Int32) (a15 : Int32) (s0 : Int32) (h : fSt) : Option (Int32 × fSt) := (fobj h a3 7).bind fun b61 => (f_X7_strength b61 a15 h).bind fun r59 => Sum.elim (fun v63 => f_L_law_L725 k2 k69 k310 4096 a0 a1 a2 a3 a4 a5 a9 a10 a11 a12 s0 (if (((10000 : Int32) * ((100 : Int32) - v63)) / (100 : Int32)) < a14 then (((10000 : Int32) * ((100 : Int32) - v63)) / (100 : Int32)) else a14) a15 (0 : Int32) r59.2) (fun _ => none) r59.1
noncomputable def f_L_law_L690 (k2 : Option Nat → Int32 → fSt → Option (Int32 × fSt)) (k69 : Option Nat → Int32 → Option Nat → Option Nat → Int32 → fSt → Option (Int32 × fSt)) (k310 : Option Nat → Int32 → Option Nat → Option Nat → Int32 → Int64 → Int32 → Int32 → Int32 → Int32 → Int32 → Int32 → Int32 → fSt → Option (Int32 × fSt)) (a0 : Option Nat) (a1 : Int32) (a2 : Option Nat) (a3 : Option Nat) (a4 : Int32) (a5 : Int64) (a9 : Int32) (a10 : Int32) (a11 : Int32) (a12 : Int32) (a14 : Int32) (a15 : Int32) (h : fSt) : Option (Int32 × fSt) := f_L_law_L697 k2 k69 k310 a0 a1 a2 a3 a4 a5 a9 a10 a11 a12 a14 a15 a15 h
noncomputable def f_L_law_L643 (k2 : Option Nat → Int32 → fSt → Option (Int32 × fSt)) (k69 : Option Nat → Int32 → Option Nat → Option Nat → Int32 → fSt → Option (Int32 × fSt)) (k310 : Option Nat → Int32 → Option Nat → Option Nat → Int32 → Int64 → Int32 → Int32 → Int32 → Int32 → Int32 → Int32 → Int32 → fSt → Option (Int32 × fSt)) (a0 : Option Nat) (a1 : Int32) (a2 : Option Nat) (a3 : Option Nat) (a4 : Int32) (a5 : Int64) (a9 : Int32) (a10 : Int32) (a11 : Int32) (a12 : Int32) (a13 : Int32) (a14 : Int32) (a15 : Int32) (s2 : Int32) (s1 : Int32) (s0 : Int32) (h : fSt) : Option (Int32 × fSt) := (if s0 = (s1 + s2) then (fobj h a3 7).bind fun b69 => (f_X7_covers b69 a15 a10 a11 a9 h).bind fun r67 => Sum.elim (fun v71 => (if v71 = 0 then f_L_law_L808 k2 k69 k310 a0 a1 a2 a3 a4 a5 a9 a10 a11 a12 a13 a14 a15 r67.2 else (if a13 < 0 then f_L_law_L690 k2 k69 k310 a0 a1 a2 a3 a4 a5 a9 a10 a11 (a12 + (1 : Int32)) a14 a15 r67.2 else (fobj r67.2 a3 7).bind fun b78 => (f_X7_placeOf b78 a15 r67.2).bind fun r76 => Sum.elim (fun v80 => (fobj r76.2 a3 7).bind fun b85 => (f_X7_placeOf b85 a13 r76.2).bind fun r83 => Sum.elim (fun v87 => (if v80 ≤ v87 then f_L_law_L697 k2 k69 k310 a0 a1 a2 a3 a4 a5 a9 a10 a11 (a12 + (1 : Int32)) a14 a15 a13 r83.2 else f_L_law_L690 k2 k69 k310 a0 a1 a2 a3 a4 a5 a9 a10 a11 (a12 + (1 : Int32)) a14 a15 r83.2)) (fun _ => none) r83.1) (fun _ => none) r76.1))) (fun _ => none) r67.1 else f_L_law_L647 h)
noncomputable def f_L_law_L613 (k2 : Option Nat → Int32 → fSt → Option (Int32 × fSt)) (k69 : Option Nat → Int32 → Option Nat → Option Nat → Int32 → fSt → Option (Int32 × fSt)) (k310 : Option Nat → Int32 → Option Nat → Option Nat → Int32 → Int64 → Int32 → Int32 → Int32 → Int32 → Int32 → Int32 → Int32 → fSt → Option (Int32 × fSt)) (a0 : Option Nat) (a1 : Int32) (a2 : Option Nat) (a3 : Option Nat) (a4 : Int32) (a5 : Int64) (a9 : Int32) (a10 : Int32) (a11 : Int32) (a12 : Int32) (a13 : Int32) (a14 : Int32) (a15 : Int32) (h : fSt) : Option (Int32 × fSt) := (fobj h a3 7).bind fun b93 => (f_X7_level b93 a15 h).bind fun r91 => Sum.elim (fun v95 => (fobj r91.2 a3 7).bind fun b100 => (f_X7_parent b100 a15 r91.2).bind fun r98 => Sum.elim (fun v102 => (fobj r98.2 a3 7).bind fun b107 => (f_X7_level b107 (if (0 : Int32) < v102 then v102 else (0 : Int32)) r98.2).bind fun r105 => Sum.elim (fun v109 => (if a15 = 0 then f_L_law_L643 k2 k69 k310 a0 a1 a2 a3 a4 a5 a9 a10 a11 a12 a13 a14 a15 (0 : Int32) v109 v95 r105.2 else f_L_law_L643 k2 k69 k310 a0 a1 a2 a3 a4 a5 a9 a10 a11 a12 a13 a14 a15 (1 : Int32) v109 v95 r105.2)) (fun _ => none) r105.1) (fun _ => none) r98.1) (fun _ => none) r91.1
noncomputable def f_L_law_L589 (k2 : Option Nat → Int32 → fSt → Option (Int32 × fSt)) (k69 : Option Nat → Int32 → Option Nat → Option Nat → Int32 → fSt → Option (Int32 × fSt)) (k310 : Option Nat → Int32 → Option Nat → Option Nat → Int32 → Int64 → Int32 → Int32 → Int32 → Int32 → Int32 → Int32 → Int32 → fSt → Option (Int32 × fSt)) (a0 : Option Nat) (a1 : Int32) (a2 : Option Nat) (a3 : Option Nat) (a4 : Int32) (a5 : Int64) (a9 : Int32) (a10 : Int32) (a11 : Int32) (a12 : Int32) (a13 : Int32) (a14 : Int32) (a15 : Int32) (h : fSt) : Option (Int32 × fSt) := (fobj h a3 7).bind fun b115 => (f_X7_isShown b115 a15 h).bind fun r113 => Sum.elim (fun v117 => (if v117 = 0 then (fobj r113.2 a3 7).bind fun b123 => (f_X7_covers b123 a15 a10 a11 a9 r113.2).bind fun r121 => Sum.elim (fun v125 => (if v125 = 0 then f_L_law_L613 k2 k69 k310 a0 a1 a2 a3 a4 a5 a9 a10 a11 a12 a13 a14 a15 r121.2 else f_L_law_L647 r121.2)) (fun _ => none) r121.1 else f_L_law_L613 k2 k69 k310 a0 a1 a2 a3 a4 a5 a9 a10 a11 a12 a13 a14 a15 r113.2)) (fun _ => none) r113.1
noncomputable def f_L_law_L466 (k2 : Option Nat → Int32 → fSt → Option (Int32 × fSt)) (k69 : Option Nat → Int32 → Option Nat → Option Nat → Int32 → fSt → Option (Int32 × fSt)) (k310 : Option Nat → Int32 → Option Nat → Option Nat → Int32 → Int64 → Int32 → Int32 → Int32 → Int32 → Int32 → Int32 → Int32 → fSt → Option (Int32 × fSt)) (n : Nat) : Option Nat → Int32 → Option Nat → Option Nat → Int32 → Int64 → Int32 → Int32 → Int32 → Int32 → Int32 → Int32 → Int32 → Int32 → Int32 → fSt → Option (Int32 × fSt) := Nat.rec (motive := fun _ => Option Nat → Int32 → Option Nat → Option Nat → Int32 → Int64 → Int32 → Int32 → Int32 → Int32 → Int32 → Int32 → Int32 → Int32 → Int32 → fSt → Option (Int32 × fSt)) (fun _ _ _ _ _ _ _ _ _ _ _ _ _ _ _ _ => none) (fun _ k466 (a0 : Option Nat) (a1 : Int32) (a2 : Option Nat) (a3 : Option Nat) (a4 : Int32) (a5 : Int64) (a9 : Int32) (a10 : Int32) (a11 : Int32) (a12 : Int32) (a13 : Int32) (a14 : Int32) (a15 : Int32) (a16 : Int32) (a18 : Int32) (h : fSt) => (if (4 : Int32) ≤ a18 then (fobj h a3 7).bind fun b132 => (f_X7_isShown b132 a15 h).bind fun r130 => Sum.elim (fun v134 => (if v134 = 0 then f_L_law_L589 k2 k69 k310 a0 a1 a2 a3 a4 a5 a9 a10 a11 a12 a13 a14 a15 r130.2 else (fobj r130.2 a3 7).bind fun b140 => (f_X7_strength b140 a15 r130.2).bind fun r138 => Sum.elim (fun v142 => (if (100 : Int32) < v142 then f_L_law_L647 r138.2 else f_L_law_L589 k2 k69 k310 a0 a1 a2 a3 a4 a5 a9 a10 a11 a12 a13 a14 a15 r138.2)) (fun _ => none) r138.1)) (fun _ => none) r130.1 else (fobj h a3 7).bind fun b148 => (f_X7_between b148 a15 a15 (5 : Int32) (6 : Int32) a18 h).bind fun r146 => Sum.elim (fun v150 => (if a18 = 0 then f_L_law_L506 k2 k69 k310 k466 a0 a1 a2 a3 a4 a5 a9 a10 a11 a12 a13 a14 a15 a16 a18 (5 : Int32) v150 r146.2 else (if a18 = (2 : Int32) then f_L_law_L506 k2 k69 k310 k466 a0 a1 a2 a3 a4 a5 a9 a10 a11 a12 a13 a14 a15 a16 a18 (6 : Int32) v150 r146.2 else f_L_law_L506 k2 k69 k310 k466 a0 a1 a2 a3 a4 a5 a9 a10 a11 a12 a13 a14 a15 a16 a18 (1 : Int32) v150 r146.2))) (fun _ => none) r146.1)) n
noncomputable def f_L_law_L463 (k2 : Option Nat → Int32 → fSt → Option (Int32 × fSt)) (k69 : Option Nat → Int32 → Option Nat → Option Nat → Int32 → fSt → Option (Int32 × fSt)) (k310 : Option Nat → Int32 → Option Nat → Option Nat → Int32 → Int64 → Int32 → Int32 → Int32 → Int32 → Int32 → Int32 → Int32 → fSt → Option (Int32 × fSt)) (a0 : Option Nat) (a1 : Int32) (a2 : Option Nat) (a3 : Option Nat) (a4 : Int32) (a5 : Int64) (a9 : Int32) (a10 : Int32) (a11 : Int32) (a12 : Int32) (a13 : Int32) (a14 : Int32) (a15 : Int32) (a16 : Int32) (h : fSt) : Option (Int32 × fSt) := f_L_law_L466 k2 k69 k310 4096 a0 a1 a2 a3 a4 a5 a9 a10 a11 a12 a13 a14 a15 a16 (0 : Int32) h
noncomputable def f_L_law_L884  (h : fSt) : Option (Int32 × fSt) := some ((0 : Int32), h)
noncomputable def f_L_law_L954  (h : fSt) : Option (Int32 × fSt) := some ((0 : Int32), h)
noncomputable def f_L_law_L1037  (h : fSt) : Option (Int32 × fSt) := some ((0 : Int32), h)
noncomputable def f_L_law_L1039 (k2 : Option Nat → Int32 → fSt → Option (Int32 × fSt)) (k69 : Option Nat → Int32 → Option Nat → Option Nat → Int32 → fSt → Option (Int32 × fSt)) (a0 : Option Nat) (a1 : Int32) (a2 : Option Nat) (a3 : Option Nat) (a4 : Int32) (a5 : Int64) (h : fSt) : Option (Int32 × fSt) := (fobj h a3 7).bind fun b157 => (f_X7_digest b157 h).bind fun r155 => (if r155.1 = a5 then k69 a0 a1 a2 a3 (a4 + (1 : Int32)) r155.2 else some ((0 : Int32), r155.2))
noncomputable def f_L_law_L939 (k2 : Option Nat → Int32 → fSt → Option (Int32 × fSt)) (k69 : Option Nat → Int32 → Option Nat → Option Nat → Int32 → fSt → Option (Int32 × fSt)) (a0 : Option Nat) (a1 : Int32) (a2 : Option Nat) (a3 : Option Nat) (a4 : Int32) (a5 : Int64) (a9 : Int32) (a10 : Int32) (a11 : Int32) (a13 : Int32) (h : fSt) : Option (Int32 × fSt) := (fobj h a3 7).bind fun b162 => (f_X7_pickWithout b162 (0 : Int32) a10 a11 a9 h).bind fun r160 => Sum.elim (fun v164 => (if v164 = (-1 : Int32) then (fobj r160.2 a3 7).bind fun b170 => (f_X7_nextPick b170 a10 a11 a9 (20 : Int32) r160.2).bind fun r168 => Sum.elim (fun v172 => (if v172 < 0 then f_L_law_L1039 k2 k69 a0 a1 a2 a3 a4 a5 r168.2 else (fgI r168.2 a2 8 13).bind fun x176 => (if v172 ≤ x176 then f_L_law_L1037 r168.2 else (fgI r168.2 a2 8 13).bind fun x179 => (if (x179 + (20 : Int32)) < v172 then f_L_law_L1037 r168.2 else (fobj r168.2 a3 7).bind fun b184 => (f_X7_setTime b184 v172 r168.2).bind fun r182 => Sum.elim (fun v186 => (fgI r182.2 a2 8 13).bind fun x189 => (if v186 = x189 then (fobj r182.2 a3 7).bind fun b194 => (f_X7_pick b194 a10 a11 a9 r182.2).bind fun r192 => Sum.elim (fun v196 => (if v196 = a13 then f_L_law_L1037 r192.2 else (fgI r192.2 a2 8 13).bind fun x200 => (fobj r192.2 a3 7).bind fun b204 => (f_X7_setTime b204 x200 r192.2).bind fun r202 => Sum.elim (fun v206 => (if v206 = v172 then f_L_law_L1039 k2 k69 a0 a1 a2 a3 a4 a5 r202.2 else f_L_law_L1037 r202.2)) (fun _ => none) r202.1)) (fun _ => none) r192.1 else f_L_law_L1037 r182.2)) (fun _ => none) r182.1)))) (fun _ => none) r168.1 else f_L_law_L954 r160.2)) (fun _ => none) r160.1
noncomputable def f_L_law_L310 (k2 : Option Nat → Int32 → fSt → Option (Int32 × fSt)) (k69 : Option Nat → Int32 → Option Nat → Option Nat → Int32 → fSt → Option (Int32 × fSt)) (n : Nat) : Option Nat → Int32 → Option Nat → Option Nat → Int32 → Int64 → Int32 → Int32 → Int32 → Int32 → Int32 → Int32 → Int32 → fSt → Option (Int32 × fSt) := Nat.rec (motive := fun _ => Option Nat → Int32 → Option Nat → Option Nat → Int32 → Int64 → Int32 → Int32 → Int32 → Int32 → Int32 → Int32 → Int32 → fSt → Option (Int32 × fSt)) (fun _ _ _ _ _ _ _ _ _ _ _ _ _ _ => none) (fun _ k310 (a0 : Option Nat) (a1 : Int32) (a2 : Option Nat) (a3 : Option Nat) (a4 : Int32) (a5 : Int64) (a9 : Int32) (a10 : Int32) (a11 : Int32) (a12 : Int32) (a13 : Int32) (a14 : Int32) (a15 : Int32) (h : fSt) => (fgI h a2 8 3).bind fun x210 => (if x210 ≤ a15 then (fobj h a3 7).bind fun b215 => (f_X7_many b215 a10 a11 a9 h).bind fun r213 => Sum.elim (fun v217 => (if v217 = a12 then (fobj r213.2 a3 7).bind fun b223 => (f_X7_pick b223 a10 a11 a9 r213.2).bind fun r221 => Sum.elim (fun v225 => (if v225 = a13 then (fobj r221.2 a3 7).bind fun b231 => (f_X7_through b231 a10 a11 a9 r221.2).bind fun r229 => Sum.elim (fun v233 => (if a14 < v233 then f_L_law_L884 r229.2 else (fgI r229.2 a2 8 13).bind fun x237 => (fgI r229.2 a2 8 13).bind fun x239 => (fobj r229.2 a3 7).bind fun b243 => (f_X7_changes b243 x237 x239 r229.2).bind fun r241 => Sum.elim (fun v245 => (if v245 = 0 then (fobj r241.2 a3 7).bind fun b251 => (f_X7_digest b251 r241.2).bind fun r249 => (if r249.1 = a5 then (fobj r249.2 a2 8).bind fun b256 => (f_X8_one b256 r249.2).bind fun r254 => (fobj r254.2 a3 7).bind fun b260 => (f_X7_pickWithout b260 r254.1 a10 a11 a9 r254.2).bind fun r258 => Sum.elim (fun v262 => (if v262 < 0 then f_L_law_L939 k2 k69 a0 a1 a2 a3 a4 a5 a9 a10 a11 a13 r258.2 else (fobj r258.2 a3 7).bind fun b268 => (f_X7_covers b268 v262 a10 a11 a9 r258.2).bind fun r266 => Sum.elim (fun v270 => (if v270 = 0 then f_L_law_L954 r266.2 else (fobj r266.2 a3 7).bind fun b276 => (f_X7_common b276 v262 r254.1 r266.2).bind fun r274 => Sum.elim (fun v278 => (if v278 = r254.1 then f_L_law_L954 r274.2 else f_L_law_L939 k2 k69 a0 a1 a2 a3 a4 a5 a9 a10 a11 a13 r274.2)) (fun _ => none) r274.1)) (fun _ => none) r266.1)) (fun _ => none) r258.1 else f_L_law_L884 r249.2) else f_L_law_L884 r241.2)) (fun _ => none) r241.1)) (fun _ => none) r229.1 else f_L_law_L884 r221.2)) (fun _ => none) r221.1 else f_L_law_L884 r213.2)) (fun _ => none) r213.1 else (fobj h a2 8).bind fun b284 => (f_X8_isThere b284 a15 h).bind fun r282 => (if r282.1 = 0 then f_L_law_L808 k2 k69 k310 a0 a1 a2 a3 a4 a5 a9 a10 a11 a12 a13 a14 a15 r282.2 else (fobj r282.2 a2 8).bind fun b289 => (f_X8_any b289 r282.2).bind fun r287 => (fobj r287.2 a3 7).bind fun b293 => (f_X7_toWhole b293 a15 (4 : Int32) (-7 : Int32) (1 : Int32) r287.2).bind fun r291 => Sum.elim (fun v295 => (if v295 = (1 : Int32) then (fobj r291.2 a3 7).bind fun b301 => (f_X7_toWhole b301 a15 (4 : Int32) (-7 : Int32) (3 : Int32) r291.2).bind fun r299 => Sum.elim (fun v303 => (if v303 = (1 : Int32) then (fobj r299.2 a3 7).bind fun b309 => (f_X7_toWhole b309 a15 (4 : Int32) (-7 : Int32) (0 : Int32) r299.2).bind fun r307 => Sum.elim (fun v311 => (fobj r307.2 a3 7).bind fun b316 => (f_X7_toWhole b316 a15 (4 : Int32) (-7 : Int32) (2 : Int32) r307.2).bind fun r314 => Sum.elim (fun v318 => (if (1000 : Int32) < (if 0 ≤ v311 then v311 else 0 - v311) then f_L_law_L463 k2 k69 k310 a0 a1 a2 a3 a4 a5 a9 a10 a11 a12 a13 a14 a15 r287.1 r314.2 else (if (1000 : Int32) < (if 0 ≤ v318 then v318 else 0 - v318) then f_L_law_L463 k2 k69 k310 a0 a1 a2 a3 a4 a5 a9 a10 a11 a12 a13 a14 a15 r287.1 r314.2 else (fobj r314.2 a3 7).bind fun b325 => (f_X7_fromWhole b325 a15 v311 v318 (0 : Int32) r314.2).bind fun r323 => Sum.elim (fun v327 => (if v327 = (4 : Int32) then (fobj r323.2 a3 7).bind fun b333 => (f_X7_fromWhole b333 a15 v311 v318 (1 : Int32) r323.2).bind fun r331 => Sum.elim (fun v335 => (if v335 = (1 : Int32) then (fobj r331.2 a3 7).bind fun b341 => (f_X7_fromWhole b341 a15 v311 v318 (2 : Int32) r331.2).bind fun r339 => Sum.elim (fun v343 => (if v343 = (-7 : Int32) then f_L_law_L463 k2 k69 k310 a0 a1 a2 a3 a4 a5 a9 a10 a11 a12 a13 a14 a15 r287.1 r339.2 else f_L_law_L461 r339.2)) (fun _ => none) r339.1 else f_L_law_L461 r331.2)) (fun _ => none) r331.1 else f_L_law_L461 r323.2)) (fun _ => none) r323.1))) (fun _ => none) r314.1) (fun _ => none) r307.1 else f_L_law_L463 k2 k69 k310 a0 a1 a2 a3 a4 a5 a9 a10 a11 a12 a13 a14 a15 r287.1 r299.2)) (fun _ => none) r299.1 else f_L_law_L463 k2 k69 k310 a0 a1 a2 a3 a4 a5 a9 a10 a11 a12 a13 a14 a15 r287.1 r291.2)) (fun _ => none) r291.1))) n
noncomputable def f_L_law_L163 (k2 : Option Nat → Int32 → fSt → Option (Int32 × fSt)) (k69 : Option Nat → Int32 → Option Nat → Option Nat → Int32 → fSt → Option (Int32 × fSt)) (n : Nat) : Option Nat → Int32 → Option Nat → Option Nat → Int32 → Int64 → Int32 → Option Nat → Int32 → fSt → Option (Int32 × fSt) := Nat.rec (motive := fun _ => Option Nat → Int32 → Option Nat → Option Nat → Int32 → Int64 → Int32 → Option Nat → Int32 → fSt → Option (Int32 × fSt)) (fun _ _ _ _ _ _ _ _ _ _ => none) (fun _ k163 (a0 : Option Nat) (a1 : Int32) (a2 : Option Nat) (a3 : Option Nat) (a4 : Int32) (a5 : Int64) (a7 : Int32) (a8 : Option Nat) (a9 : Int32) (h : fSt) => (if a7 ≤ a9 then (fobj h a2 8).bind fun b350 => (f_X8_draw b350 (3 : Int32) h).bind fun r348 => (fobj r348.2 a2 8).bind fun b354 => (f_X8_draw b354 ((40 : Int32) * ((1 : Int32) + r348.1)) r348.2).bind fun r352 => (fobj r352.2 a2 8).bind fun b358 => (f_X8_draw b358 ((40 : Int32) * ((1 : Int32) + r348.1)) r352.2).bind fun r356 => f_L_law_L310 k2 k69 4096 a0 a1 a2 a3 a4 a5 ((1 : Int32) + r348.1) (r352.1 - (10 : Int32)) (r356.1 - (10 : Int32)) (0 : Int32) (-1 : Int32) (10000 : Int32) (0 : Int32) r356.2 else (fobj h a3 7).bind fun b362 => (f_X7_orderAt b362 a9 h).bind fun r360 => Sum.elim (fun v364 => (faI r360.2 a8 1 v364).bind fun x367 => (if x367 = 0 then (fobj r360.2 a3 7).bind fun b372 => (f_X7_placeOf b372 v364 r360.2).bind fun r370 => Sum.elim (fun v374 => (if v374 = a9 then (fsI r370.2 a8 1 v364 (vp_nar .boolean (1 : Int32))).bind fun h378 => (if v364 ≤ 0 then f_L_law_L253 k2 k69 k163 a0 a1 a2 a3 a4 a5 a7 a8 a9 h378 else (fobj h378 a3 7).bind fun b383 => (f_X7_parent b383 v364 h378).bind fun r381 => Sum.elim (fun v385 => (fobj r381.2 a3 7).bind fun b390 => (f_X7_placeOf b390 v385 r381.2).bind fun r388 => Sum.elim (fun v392 => (if v392 ≤ a9 then f_L_law_L230 k2 k69 k163 a0 a1 a2 a3 a4 a5 a7 a8 a9 v364 (0 : Int32) r388.2 else f_L_law_L230 k2 k69 k163 a0 a1 a2 a3 a4 a5 a7 a8 a9 v364 (1 : Int32) r388.2)) (fun _ => none) r388.1) (fun _ => none) r381.1) else f_L_law_L197 r370.2)) (fun _ => none) r370.1 else f_L_law_L197 r360.2)) (fun _ => none) r360.1)) n
noncomputable def f_L_law_L140 (k2 : Option Nat → Int32 → fSt → Option (Int32 × fSt)) (k69 : Option Nat → Int32 → Option Nat → Option Nat → Int32 → fSt → Option (Int32 × fSt)) (a0 : Option Nat) (a1 : Int32) (a2 : Option Nat) (a3 : Option Nat) (a4 : Int32) (h : fSt) : Option (Int32 × fSt) := (fobj h a3 7).bind fun b398 => (f_X7_digest b398 h).bind fun r396 => (fobj r396.2 a3 7).bind fun b402 => (f_X7_nodes b402 r396.2).bind fun r400 => (fgI r400.2 a2 8 3).bind fun x404 => (if x404 < 0 ∨ 67000000 < (x404).toNatClampNeg then none else (fnew r400.2 (.inr (1, (x404).toNatClampNeg, .inl (fun _ => 0))) (x404).toNatClampNeg).bind fun r407 => f_L_law_L163 k2 k69 4096 a0 a1 a2 a3 a4 r396.1 r400.1 (some r407.1) (0 : Int32) r407.2)
noncomputable def f_L_law_L138  (h : fSt) : Option (Int32 × fSt) := some ((0 : Int32), h)
noncomputable def f_L_law_L69 (k2 : Option Nat → Int32 → fSt → Option (Int32 × fSt)) (n : Nat) : Option Nat → Int32 → Option Nat → Option Nat → Int32 → fSt → Option (Int32 × fSt) := Nat.rec (motive := fun _ => Option Nat → Int32 → Option Nat → Option Nat → Int32 → fSt → Option (Int32 × fSt)) (fun _ _ _ _ _ _ => none) (fun _ k69 (a0 : Option Nat) (a1 : Int32) (a2 : Option Nat) (a3 : Option Nat) (a4 : Int32) (h : fSt) => (if (6 : Int32) ≤ a4 then k2 a0 (a1 + (1 : Int32)) h else (fobj h a2 8).bind fun b412 => (f_X8_draw b412 (60 : Int32) h).bind fun r410 => (fput r410.2 a2 8 13 (.int r410.1)).bind fun h414 => (fgI h414 a2 8 13).bind fun x416 => (fobj h414 a3 7).bind fun b420 => (f_X7_setTime b420 x416 h414).bind fun r418 => Sum.elim (fun v422 => (fobj r418.2 a2 8).bind fun b427 => (f_X8_draw b427 (5 : Int32) r418.2).bind fun r425 => (if r425.1 = 0 then (fobj r425.2 a2 8).bind fun b447 => (f_X8_remove b447 r425.2).bind fun r445 => (if r445.1 = 0 then f_L_law_L138 r445.2 else f_L_law_L140 k2 k69 a0 a1 a2 a3 a4 r445.2) else (fobj r425.2 a2 8).bind fun b432 => (f_X8_draw b432 (3 : Int32) r425.2).bind fun r430 => (if r430.1 = 0 then (fobj r430.2 a2 8).bind fun b442 => (f_X8_add b442 r430.2).bind fun r440 => (if r440.1 = 0 then f_L_law_L138 r440.2 else f_L_law_L140 k2 k69 a0 a1 a2 a3 a4 r440.2) else (fobj r430.2 a2 8).bind fun b437 => (f_X8_change b437 r430.2).bind fun r435 => (if r435.1 = 0 then f_L_law_L138 r435.2 else f_L_law_L140 k2 k69 a0 a1 a2 a3 a4 r435.2)))) (fun _ => none) r418.1)) n
noncomputable def f_L_law_L31 (k2 : Option Nat → Int32 → fSt → Option (Int32 × fSt)) (n : Nat) : Option Nat → Int32 → Option Nat → Option Nat → Int32 → fSt → Option (Int32 × fSt) := Nat.rec (motive := fun _ => Option Nat → Int32 → Option Nat → Option Nat → Int32 → fSt → Option (Int32 × fSt)) (fun _ _ _ _ _ _ => none) (fun _ k31 (a0 : Option Nat) (a1 : Int32) (a2 : Option Nat) (a3 : Option Nat) (a4 : Int32) (h : fSt) => (if (5 : Int32) ≤ a4 then f_L_law_L69 k2 4096 a0 a1 a2 a3 (0 : Int32) h else (fobj h a2 8).bind fun b453 => (f_X8_add b453 h).bind fun r451 => (if r451.1 = 0 then f_L_law_L58 r451.2 else (fobj r451.2 a2 8).bind fun b458 => (f_X8_addTrack b458 r451.2).bind fun r456 => (if r456.1 = 0 then f_L_law_L58 r456.2 else (fobj r456.2 a2 8).bind fun b463 => (f_X8_change b463 r456.2).bind fun r461 => (if r461.1 = 0 then f_L_law_L58 r461.2 else k31 a0 a1 a2 a3 (a4 + (1 : Int32)) r461.2))))) n
noncomputable def f_L_law_L2 (n : Nat) : Option Nat → Int32 → fSt → Option (Int32 × fSt) := Nat.rec (motive := fun _ => Option Nat → Int32 → fSt → Option (Int32 × fSt)) (fun _ _ _ => none) (fun _ k2 (a0 : Option Nat) (a1 : Int32) (h : fSt) => (if (2 : Int32) ≤ a1 then some ((1 : Int32), h) else (fnew h (.inl (8, [.null, .null, .int 0, .int 0, .null, .null, .null, .null, .null, .int 0, .int 0, .null, .null, .int 0])) 14).bind fun r467 => (f_X8_init r467.1 a0 (((31 : Int32) * a1) + (7 : Int32)) r467.2).bind fun r469 => (fgR r469.2 (some r467.1) 8 0).bind fun x471 => f_L_law_L31 k2 4096 a0 a1 (some r467.1) x471 (0 : Int32) r469.2)) n
noncomputable def f_L_law_L0 (a0 : Option Nat) (h : fSt) : Option (Int32 × fSt) := f_L_law_L2 4096 a0 (0 : Int32) h
set_option maxHeartbeats 4000000 in
set_option maxRecDepth 100000 in
theorem w_L_law_L58 {p : Program} {l : Launch} {e : Env} {s : State} {m : MethodId} {args : Array Value} {below : List Frame} {meth : Method} {c : Code} {D : va_G} {cA : Nat → ClassId} {h0 : fSt} {r : (Int32 × fSt)} {Q : State → Prop} {R : Room} (M : fM p s m args meth c D cA h0 R cL_law 23 (some (.boolean)) RL) (hfl : l.stackTraces = false) (hRf : 28 ≤ R.frames) (hRl : 693 ≤ R.locals) (hend : ∀ (x : Int32) (h : fSt) (H : Heap) (locs : List Loc) (cells slots : Nat) (ls : Array Slot) (pc : Nat), (x, h) = r → fCur D cA s h0 h H locs → decode code pc = .ok (.ireturn, 1) → W p l e R s m args below meth c H locs cells slots Q (F0 m pc ls [.int x]))  (h : fSt) (hf : f_L_law_L58  h = some r) : ∀ (H : Heap) (locs : List Loc) (cells slots : Nat) (ls : Array Slot), fCur D cA s h0 h H locs → lv_has ls 23 [] → W p l e R s m args below meth c H locs cells slots Q (F0 m 58 ls []) := by
  obtain ⟨hx, hb, hml, hr, hlocks, hts, hown, K, hR⟩ := id M
  intro H locs cells slots ls hC hl
  refine lv_iconst (v := (0 : Int32)) hx hb dL_law_58 (by decide) ?_
  exact hend _ _ _ _ _ _ _ _ (Option.some.inj hf) hC dL_law_59
set_option maxHeartbeats 4000000 in
set_option maxRecDepth 100000 in
theorem w_L_law_L197 {p : Program} {l : Launch} {e : Env} {s : State} {m : MethodId} {args : Array Value} {below : List Frame} {meth : Method} {c : Code} {D : va_G} {cA : Nat → ClassId} {h0 : fSt} {r : (Int32 × fSt)} {Q : State → Prop} {R : Room} (M : fM p s m args meth c D cA h0 R cL_law 23 (some (.boolean)) RL) (hfl : l.stackTraces = false) (hRf : 28 ≤ R.frames) (hRl : 693 ≤ R.locals) (hend : ∀ (x : Int32) (h : fSt) (H : Heap) (locs : List Loc) (cells slots : Nat) (ls : Array Slot) (pc : Nat), (x, h) = r → fCur D cA s h0 h H locs → decode code pc = .ok (.ireturn, 1) → W p l e R s m args below meth c H locs cells slots Q (F0 m pc ls [.int x]))  (h : fSt) (hf : f_L_law_L197  h = some r) : ∀ (H : Heap) (locs : List Loc) (cells slots : Nat) (ls : Array Slot), fCur D cA s h0 h H locs → lv_has ls 23 [] → W p l e R s m args below meth c H locs cells slots Q (F0 m 197 ls []) := by
  obtain ⟨hx, hb, hml, hr, hlocks, hts, hown, K, hR⟩ := id M
  intro H locs cells slots ls hC hl
  refine lv_iconst (v := (0 : Int32)) hx hb dL_law_197 (by decide) ?_
  exact hend _ _ _ _ _ _ _ _ (Option.some.inj hf) hC dL_law_198
set_option maxHeartbeats 4000000 in
set_option maxRecDepth 100000 in
theorem w_L_law_L253 {p : Program} {l : Launch} {e : Env} {s : State} {m : MethodId} {args : Array Value} {below : List Frame} {meth : Method} {c : Code} {D : va_G} {cA : Nat → ClassId} {h0 : fSt} {r : (Int32 × fSt)} {Q : State → Prop} {R : Room} (M : fM p s m args meth c D cA h0 R cL_law 23 (some (.boolean)) RL) (hfl : l.stackTraces = false) (hRf : 28 ≤ R.frames) (hRl : 693 ≤ R.locals) (hend : ∀ (x : Int32) (h : fSt) (H : Heap) (locs : List Loc) (cells slots : Nat) (ls : Array Slot) (pc : Nat), (x, h) = r → fCur D cA s h0 h H locs → decode code pc = .ok (.ireturn, 1) → W p l e R s m args below meth c H locs cells slots Q (F0 m pc ls [.int x])) {k2 : Option Nat → Int32 → fSt → Option (Int32 × fSt)} (hk2 : ∀ (a0 : Option Nat) (a1 : Int32) (h : fSt), k2 a0 a1 h = some r → ∀ (H : Heap) (locs : List Loc) (cells slots : Nat) (ls : Array Slot), fCur D cA s h0 h H locs → lv_has ls 23 [(0, va_rf a0), (1, .int a1)] → W p l e R s m args below meth c H locs cells slots Q (F0 m 2 ls [])) {k69 : Option Nat → Int32 → Option Nat → Option Nat → Int32 → fSt → Option (Int32 × fSt)} (hk69 : ∀ (a0 : Option Nat) (a1 : Int32) (a2 : Option Nat) (a3 : Option Nat) (a4 : Int32) (h : fSt), k69 a0 a1 a2 a3 a4 h = some r → ∀ (H : Heap) (locs : List Loc) (cells slots : Nat) (ls : Array Slot), fCur D cA s h0 h H locs → lv_has ls 23 [(0, va_rf a0), (1, .int a1), (2, va_rf a2), (3, va_rf a3), (4, .int a4)] → W p l e R s m args below meth c H locs cells slots Q (F0 m 69 ls [])) {k163 : Option Nat → Int32 → Option Nat → Option Nat → Int32 → Int64 → Int32 → Option Nat → Int32 → fSt → Option (Int32 × fSt)} (hk163 : ∀ (a0 : Option Nat) (a1 : Int32) (a2 : Option Nat) (a3 : Option Nat) (a4 : Int32) (a5 : Int64) (a7 : Int32) (a8 : Option Nat) (a9 : Int32) (h : fSt), k163 a0 a1 a2 a3 a4 a5 a7 a8 a9 h = some r → ∀ (H : Heap) (locs : List Loc) (cells slots : Nat) (ls : Array Slot), fCur D cA s h0 h H locs → lv_has ls 23 [(0, va_rf a0), (1, .int a1), (2, va_rf a2), (3, va_rf a3), (4, .int a4), (5, .long a5), (7, .int a7), (8, va_rf a8), (9, .int a9)] → W p l e R s m args below meth c H locs cells slots Q (F0 m 163 ls [])) (a0 : Option Nat) (a1 : Int32) (a2 : Option Nat) (a3 : Option Nat) (a4 : Int32) (a5 : Int64) (a7 : Int32) (a8 : Option Nat) (a9 : Int32) (h : fSt) (hf : f_L_law_L253 k2 k69 k163 a0 a1 a2 a3 a4 a5 a7 a8 a9 h = some r) : ∀ (H : Heap) (locs : List Loc) (cells slots : Nat) (ls : Array Slot), fCur D cA s h0 h H locs → lv_has ls 23 [(0, va_rf a0), (1, .int a1), (2, va_rf a2), (3, va_rf a3), (4, .int a4), (5, .long a5), (7, .int a7), (8, va_rf a8), (9, .int a9)] → W p l e R s m args below meth c H locs cells slots Q (F0 m 253 ls []) := by
  obtain ⟨hx, hb, hml, hr, hlocks, hts, hown, K, hR⟩ := id M
  intro H locs cells slots ls hC hl
  refine lv_iinc (v := (a9 + (1 : Int32))) (lv' := [(9, .int (a9 + (1 : Int32))), (0, va_rf a0), (1, .int a1), (2, va_rf a2), (3, va_rf a3), (4, .int a4), (5, .long a5), (7, .int a7), (8, va_rf a8)]) hx hb dL_law_253 hl (k := 8) rfl rfl (by decide) (congrArg (List.cons _) (flk rfl (flk rfl (flk rfl (flk rfl (flk rfl (flk rfl (flk rfl (flk (adj1 _ _) (fld rfl fln)))))))))) (fun ls hl => ?_)
  refine lv_goto (tgt := 163) hx hb dL_law_256 (by decide) ?_
  exact hk163 _ _ _ _ _ _ _ _ _ _ hf _ _ _ _ _ hC (lv_sub hl [1, 2, 3, 4, 5, 6, 7, 8, 0] rfl)
set_option maxHeartbeats 4000000 in
set_option maxRecDepth 100000 in
theorem w_L_law_L248 {p : Program} {l : Launch} {e : Env} {s : State} {m : MethodId} {args : Array Value} {below : List Frame} {meth : Method} {c : Code} {D : va_G} {cA : Nat → ClassId} {h0 : fSt} {r : (Int32 × fSt)} {Q : State → Prop} {R : Room} (M : fM p s m args meth c D cA h0 R cL_law 23 (some (.boolean)) RL) (hfl : l.stackTraces = false) (hRf : 28 ≤ R.frames) (hRl : 693 ≤ R.locals) (hend : ∀ (x : Int32) (h : fSt) (H : Heap) (locs : List Loc) (cells slots : Nat) (ls : Array Slot) (pc : Nat), (x, h) = r → fCur D cA s h0 h H locs → decode code pc = .ok (.ireturn, 1) → W p l e R s m args below meth c H locs cells slots Q (F0 m pc ls [.int x])) {k2 : Option Nat → Int32 → fSt → Option (Int32 × fSt)} (hk2 : ∀ (a0 : Option Nat) (a1 : Int32) (h : fSt), k2 a0 a1 h = some r → ∀ (H : Heap) (locs : List Loc) (cells slots : Nat) (ls : Array Slot), fCur D cA s h0 h H locs → lv_has ls 23 [(0, va_rf a0), (1, .int a1)] → W p l e R s m args below meth c H locs cells slots Q (F0 m 2 ls [])) {k69 : Option Nat → Int32 → Option Nat → Option Nat → Int32 → fSt → Option (Int32 × fSt)} (hk69 : ∀ (a0 : Option Nat) (a1 : Int32) (a2 : Option Nat) (a3 : Option Nat) (a4 : Int32) (h : fSt), k69 a0 a1 a2 a3 a4 h = some r → ∀ (H : Heap) (locs : List Loc) (cells slots : Nat) (ls : Array Slot), fCur D cA s h0 h H locs → lv_has ls 23 [(0, va_rf a0), (1, .int a1), (2, va_rf a2), (3, va_rf a3), (4, .int a4)] → W p l e R s m args below meth c H locs cells slots Q (F0 m 69 ls [])) {k163 : Option Nat → Int32 → Option Nat → Option Nat → Int32 → Int64 → Int32 → Option Nat → Int32 → fSt → Option (Int32 × fSt)} (hk163 : ∀ (a0 : Option Nat) (a1 : Int32) (a2 : Option Nat) (a3 : Option Nat) (a4 : Int32) (a5 : Int64) (a7 : Int32) (a8 : Option Nat) (a9 : Int32) (h : fSt), k163 a0 a1 a2 a3 a4 a5 a7 a8 a9 h = some r → ∀ (H : Heap) (locs : List Loc) (cells slots : Nat) (ls : Array Slot), fCur D cA s h0 h H locs → lv_has ls 23 [(0, va_rf a0), (1, .int a1), (2, va_rf a2), (3, va_rf a3), (4, .int a4), (5, .long a5), (7, .int a7), (8, va_rf a8), (9, .int a9)] → W p l e R s m args below meth c H locs cells slots Q (F0 m 163 ls [])) (a0 : Option Nat) (a1 : Int32) (a2 : Option Nat) (a3 : Option Nat) (a4 : Int32) (a5 : Int64) (a7 : Int32) (a8 : Option Nat) (a9 : Int32) (s1 : Int32) (s0 : Int32) (h : fSt) (hf : f_L_law_L248 k2 k69 k163 a0 a1 a2 a3 a4 a5 a7 a8 a9 s1 s0 h = some r) : ∀ (H : Heap) (locs : List Loc) (cells slots : Nat) (ls : Array Slot), fCur D cA s h0 h H locs → lv_has ls 23 [(0, va_rf a0), (1, .int a1), (2, va_rf a2), (3, va_rf a3), (4, .int a4), (5, .long a5), (7, .int a7), (8, va_rf a8), (9, .int a9)] → W p l e R s m args below meth c H locs cells slots Q (F0 m 248 ls [.int s1, .int s0]) := by
  obtain ⟨hx, hb, hml, hr, hlocks, hts, hown, K, hR⟩ := id M
  intro H locs cells slots ls hC hl
  refine lv_icmp_eq (tgt := 253) hx hb dL_law_248 (by decide) (fun c1 => ?_) (fun c1 => ?_)
  · replace hf := opos c1 hf
    exact w_L_law_L253 M hfl hRf hRl hend hk2 hk69 hk163 _ _ _ _ _ _ _ _ _ _ hf _ _ _ _ _ hC (lv_sub hl [0, 1, 2, 3, 4, 5, 6, 7, 8] rfl)
  · replace hf := oneg c1 hf
    refine lv_iconst (v := (0 : Int32)) hx hb dL_law_251 (by decide) ?_
    exact hend _ _ _ _ _ _ _ _ (Option.some.inj hf) hC dL_law_252
set_option maxHeartbeats 4000000 in
set_option maxRecDepth 100000 in
theorem w_L_law_L230 {p : Program} {l : Launch} {e : Env} {s : State} {m : MethodId} {args : Array Value} {below : List Frame} {meth : Method} {c : Code} {D : va_G} {cA : Nat → ClassId} {h0 : fSt} {r : (Int32 × fSt)} {Q : State → Prop} {R : Room} (M : fM p s m args meth c D cA h0 R cL_law 23 (some (.boolean)) RL) (hfl : l.stackTraces = false) (hRf : 28 ≤ R.frames) (hRl : 693 ≤ R.locals) (hend : ∀ (x : Int32) (h : fSt) (H : Heap) (locs : List Loc) (cells slots : Nat) (ls : Array Slot) (pc : Nat), (x, h) = r → fCur D cA s h0 h H locs → decode code pc = .ok (.ireturn, 1) → W p l e R s m args below meth c H locs cells slots Q (F0 m pc ls [.int x])) {k2 : Option Nat → Int32 → fSt → Option (Int32 × fSt)} (hk2 : ∀ (a0 : Option Nat) (a1 : Int32) (h : fSt), k2 a0 a1 h = some r → ∀ (H : Heap) (locs : List Loc) (cells slots : Nat) (ls : Array Slot), fCur D cA s h0 h H locs → lv_has ls 23 [(0, va_rf a0), (1, .int a1)] → W p l e R s m args below meth c H locs cells slots Q (F0 m 2 ls [])) {k69 : Option Nat → Int32 → Option Nat → Option Nat → Int32 → fSt → Option (Int32 × fSt)} (hk69 : ∀ (a0 : Option Nat) (a1 : Int32) (a2 : Option Nat) (a3 : Option Nat) (a4 : Int32) (h : fSt), k69 a0 a1 a2 a3 a4 h = some r → ∀ (H : Heap) (locs : List Loc) (cells slots : Nat) (ls : Array Slot), fCur D cA s h0 h H locs → lv_has ls 23 [(0, va_rf a0), (1, .int a1), (2, va_rf a2), (3, va_rf a3), (4, .int a4)] → W p l e R s m args below meth c H locs cells slots Q (F0 m 69 ls [])) {k163 : Option Nat → Int32 → Option Nat → Option Nat → Int32 → Int64 → Int32 → Option Nat → Int32 → fSt → Option (Int32 × fSt)} (hk163 : ∀ (a0 : Option Nat) (a1 : Int32) (a2 : Option Nat) (a3 : Option Nat) (a4 : Int32) (a5 : Int64) (a7 : Int32) (a8 : Option Nat) (a9 : Int32) (h : fSt), k163 a0 a1 a2 a3 a4 a5 a7 a8 a9 h = some r → ∀ (H : Heap) (locs : List Loc) (cells slots : Nat) (ls : Array Slot), fCur D cA s h0 h H locs → lv_has ls 23 [(0, va_rf a0), (1, .int a1), (2, va_rf a2), (3, va_rf a3), (4, .int a4), (5, .long a5), (7, .int a7), (8, va_rf a8), (9, .int a9)] → W p l e R s m args below meth c H locs cells slots Q (F0 m 163 ls [])) (a0 : Option Nat) (a1 : Int32) (a2 : Option Nat) (a3 : Option Nat) (a4 : Int32) (a5 : Int64) (a7 : Int32) (a8 : Option Nat) (a9 : Int32) (a10 : Int32) (s0 : Int32) (h : fSt) (hf : f_L_law_L230 k2 k69 k163 a0 a1 a2 a3 a4 a5 a7 a8 a9 a10 s0 h = some r) : ∀ (H : Heap) (locs : List Loc) (cells slots : Nat) (ls : Array Slot), fCur D cA s h0 h H locs → lv_has ls 23 [(0, va_rf a0), (1, .int a1), (2, va_rf a2), (3, va_rf a3), (4, .int a4), (5, .long a5), (7, .int a7), (8, va_rf a8), (9, .int a9), (10, .int a10)] → W p l e R s m args below meth c H locs cells slots Q (F0 m 230 ls [.int s0]) := by
  obtain ⟨hx, hb, hml, hr, hlocks, hts, hown, K, hR⟩ := id M
  intro H locs cells slots ls hC hl
  refine fr_aload_n hx hb dL_law_230 rfl (lv_at hl 2 rfl) ?_
  obtain ⟨x2, g3, hf⟩ := obind hf
  refine fr_get hx hb hts hown K hC ct_8 (fgR_get g3) (by decide) kw662 rfl dL_law_231 ?_
  refine lv_iload hx hb dL_law_234 (lv_at hl 9 rfl) ?_
  obtain ⟨x4, g5, hf⟩ := obind hf
  refine fr_aaldA hx hb K hC (t := 4) rfl g5 dL_law_236 ?_
  refine lv_bipush (v := (6 : Int32)) hx hb dL_law_237 (by decide) ?_
  obtain ⟨x6, g7, hf⟩ := obind hf
  refine fr_iald hx hb K hC (t := 0) rfl g7 dL_law_239 ?_
  refine lv_if_ge (tgt := 247) hx hb dL_law_240 (by decide) (fun c8 => ?_) (fun c8 => ?_)
  · replace hf := opos c8 hf
    refine lv_iconst (v := (0 : Int32)) hx hb dL_law_247 (by decide) ?_
    exact w_L_law_L248 M hfl hRf hRl hend hk2 hk69 hk163 _ _ _ _ _ _ _ _ _ _ _ _ hf _ _ _ _ _ hC (lv_sub hl [0, 1, 2, 3, 4, 5, 6, 7, 8] rfl)
  · replace hf := oneg c8 hf
    refine lv_iconst (v := (1 : Int32)) hx hb dL_law_243 (by decide) ?_
    refine lv_goto (tgt := 248) hx hb dL_law_244 (by decide) ?_
    exact w_L_law_L248 M hfl hRf hRl hend hk2 hk69 hk163 _ _ _ _ _ _ _ _ _ _ _ _ hf _ _ _ _ _ hC (lv_sub hl [0, 1, 2, 3, 4, 5, 6, 7, 8] rfl)
set_option maxHeartbeats 4000000 in
set_option maxRecDepth 100000 in
theorem w_L_law_L808 {p : Program} {l : Launch} {e : Env} {s : State} {m : MethodId} {args : Array Value} {below : List Frame} {meth : Method} {c : Code} {D : va_G} {cA : Nat → ClassId} {h0 : fSt} {r : (Int32 × fSt)} {Q : State → Prop} {R : Room} (M : fM p s m args meth c D cA h0 R cL_law 23 (some (.boolean)) RL) (hfl : l.stackTraces = false) (hRf : 28 ≤ R.frames) (hRl : 693 ≤ R.locals) (hend : ∀ (x : Int32) (h : fSt) (H : Heap) (locs : List Loc) (cells slots : Nat) (ls : Array Slot) (pc : Nat), (x, h) = r → fCur D cA s h0 h H locs → decode code pc = .ok (.ireturn, 1) → W p l e R s m args below meth c H locs cells slots Q (F0 m pc ls [.int x])) {k2 : Option Nat → Int32 → fSt → Option (Int32 × fSt)} (hk2 : ∀ (a0 : Option Nat) (a1 : Int32) (h : fSt), k2 a0 a1 h = some r → ∀ (H : Heap) (locs : List Loc) (cells slots : Nat) (ls : Array Slot), fCur D cA s h0 h H locs → lv_has ls 23 [(0, va_rf a0), (1, .int a1)] → W p l e R s m args below meth c H locs cells slots Q (F0 m 2 ls [])) {k69 : Option Nat → Int32 → Option Nat → Option Nat → Int32 → fSt → Option (Int32 × fSt)} (hk69 : ∀ (a0 : Option Nat) (a1 : Int32) (a2 : Option Nat) (a3 : Option Nat) (a4 : Int32) (h : fSt), k69 a0 a1 a2 a3 a4 h = some r → ∀ (H : Heap) (locs : List Loc) (cells slots : Nat) (ls : Array Slot), fCur D cA s h0 h H locs → lv_has ls 23 [(0, va_rf a0), (1, .int a1), (2, va_rf a2), (3, va_rf a3), (4, .int a4)] → W p l e R s m args below meth c H locs cells slots Q (F0 m 69 ls [])) {k310 : Option Nat → Int32 → Option Nat → Option Nat → Int32 → Int64 → Int32 → Int32 → Int32 → Int32 → Int32 → Int32 → Int32 → fSt → Option (Int32 × fSt)} (hk310 : ∀ (a0 : Option Nat) (a1 : Int32) (a2 : Option Nat) (a3 : Option Nat) (a4 : Int32) (a5 : Int64) (a9 : Int32) (a10 : Int32) (a11 : Int32) (a12 : Int32) (a13 : Int32) (a14 : Int32) (a15 : Int32) (h : fSt), k310 a0 a1 a2 a3 a4 a5 a9 a10 a11 a12 a13 a14 a15 h = some r → ∀ (H : Heap) (locs : List Loc) (cells slots : Nat) (ls : Array Slot), fCur D cA s h0 h H locs → lv_has ls 23 [(0, va_rf a0), (1, .int a1), (2, va_rf a2), (3, va_rf a3), (4, .int a4), (5, .long a5), (9, .int a9), (10, .int a10), (11, .int a11), (12, .int a12), (13, .int a13), (14, .int a14), (15, .int a15)] → W p l e R s m args below meth c H locs cells slots Q (F0 m 310 ls [])) (a0 : Option Nat) (a1 : Int32) (a2 : Option Nat) (a3 : Option Nat) (a4 : Int32) (a5 : Int64) (a9 : Int32) (a10 : Int32) (a11 : Int32) (a12 : Int32) (a13 : Int32) (a14 : Int32) (a15 : Int32) (h : fSt) (hf : f_L_law_L808 k2 k69 k310 a0 a1 a2 a3 a4 a5 a9 a10 a11 a12 a13 a14 a15 h = some r) : ∀ (H : Heap) (locs : List Loc) (cells slots : Nat) (ls : Array Slot), fCur D cA s h0 h H locs → lv_has ls 23 [(0, va_rf a0), (1, .int a1), (2, va_rf a2), (3, va_rf a3), (4, .int a4), (5, .long a5), (9, .int a9), (10, .int a10), (11, .int a11), (12, .int a12), (13, .int a13), (14, .int a14), (15, .int a15)] → W p l e R s m args below meth c H locs cells slots Q (F0 m 808 ls []) := by
  obtain ⟨hx, hb, hml, hr, hlocks, hts, hown, K, hR⟩ := id M
  intro H locs cells slots ls hC hl
  refine lv_iinc (v := (a15 + (1 : Int32))) (lv' := [(15, .int (a15 + (1 : Int32))), (0, va_rf a0), (1, .int a1), (2, va_rf a2), (3, va_rf a3), (4, .int a4), (5, .long a5), (9, .int a9), (10, .int a10), (11, .int a11), (12, .int a12), (13, .int a13), (14, .int a14)]) hx hb dL_law_808 hl (k := 12) rfl rfl (by decide) (congrArg (List.cons _) (flk rfl (flk rfl (flk rfl (flk rfl (flk rfl (flk rfl (flk rfl (flk rfl (flk rfl (flk rfl (flk rfl (flk rfl (fld rfl fln)))))))))))))) (fun ls hl => ?_)
  refine lv_goto (tgt := 310) hx hb dL_law_811 (by decide) ?_
  exact hk310 _ _ _ _ _ _ _ _ _ _ _ _ _ _ hf _ _ _ _ _ hC (lv_sub hl [1, 2, 3, 4, 5, 6, 7, 8, 9, 10, 11, 12, 0] rfl)
set_option maxHeartbeats 4000000 in
set_option maxRecDepth 100000 in
theorem w_L_law_L461 {p : Program} {l : Launch} {e : Env} {s : State} {m : MethodId} {args : Array Value} {below : List Frame} {meth : Method} {c : Code} {D : va_G} {cA : Nat → ClassId} {h0 : fSt} {r : (Int32 × fSt)} {Q : State → Prop} {R : Room} (M : fM p s m args meth c D cA h0 R cL_law 23 (some (.boolean)) RL) (hfl : l.stackTraces = false) (hRf : 28 ≤ R.frames) (hRl : 693 ≤ R.locals) (hend : ∀ (x : Int32) (h : fSt) (H : Heap) (locs : List Loc) (cells slots : Nat) (ls : Array Slot) (pc : Nat), (x, h) = r → fCur D cA s h0 h H locs → decode code pc = .ok (.ireturn, 1) → W p l e R s m args below meth c H locs cells slots Q (F0 m pc ls [.int x]))  (h : fSt) (hf : f_L_law_L461  h = some r) : ∀ (H : Heap) (locs : List Loc) (cells slots : Nat) (ls : Array Slot), fCur D cA s h0 h H locs → lv_has ls 23 [] → W p l e R s m args below meth c H locs cells slots Q (F0 m 461 ls []) := by
  obtain ⟨hx, hb, hml, hr, hlocks, hts, hown, K, hR⟩ := id M
  intro H locs cells slots ls hC hl
  refine lv_iconst (v := (0 : Int32)) hx hb dL_law_461 (by decide) ?_
  exact hend _ _ _ _ _ _ _ _ (Option.some.inj hf) hC dL_law_462
set_option maxHeartbeats 4000000 in
set_option maxRecDepth 100000 in
theorem w_L_law_L561 {p : Program} {l : Launch} {e : Env} {s : State} {m : MethodId} {args : Array Value} {below : List Frame} {meth : Method} {c : Code} {D : va_G} {cA : Nat → ClassId} {h0 : fSt} {r : (Int32 × fSt)} {Q : State → Prop} {R : Room} (M : fM p s m args meth c D cA h0 R cL_law 23 (some (.boolean)) RL) (hfl : l.stackTraces = false) (hRf : 28 ≤ R.frames) (hRl : 693 ≤ R.locals) (hend : ∀ (x : Int32) (h : fSt) (H : Heap) (locs : List Loc) (cells slots : Nat) (ls : Array Slot) (pc : Nat), (x, h) = r → fCur D cA s h0 h H locs → decode code pc = .ok (.ireturn, 1) → W p l e R s m args below meth c H locs cells slots Q (F0 m pc ls [.int x]))  (h : fSt) (hf : f_L_law_L561  h = some r) : ∀ (H : Heap) (locs : List Loc) (cells slots : Nat) (ls : Array Slot), fCur D cA s h0 h H locs → lv_has ls 23 [] → W p l e R s m args below meth c H locs cells slots Q (F0 m 561 ls []) := by
  obtain ⟨hx, hb, hml, hr, hlocks, hts, hown, K, hR⟩ := id M
  intro H locs cells slots ls hC hl
  refine lv_iconst (v := (0 : Int32)) hx hb dL_law_561 (by decide) ?_
  exact hend _ _ _ _ _ _ _ _ (Option.some.inj hf) hC dL_law_562
set_option maxHeartbeats 4000000 in
set_option maxRecDepth 100000 in
theorem w_L_law_L506 {p : Program} {l : Launch} {e : Env} {s : State} {m : MethodId} {args : Array Value} {below : List Frame} {meth : Method} {c : Code} {D : va_G} {cA : Nat → ClassId} {h0 : fSt} {r : (Int32 × fSt)} {Q : State → Prop} {R : Room} (M : fM p s m args meth c D cA h0 R cL_law 23 (some (.boolean)) RL) (hfl : l.stackTraces = false) (hRf : 28 ≤ R.frames) (hRl : 693 ≤ R.locals) (hend : ∀ (x : Int32) (h : fSt) (H : Heap) (locs : List Loc) (cells slots : Nat) (ls : Array Slot) (pc : Nat), (x, h) = r → fCur D cA s h0 h H locs → decode code pc = .ok (.ireturn, 1) → W p l e R s m args below meth c H locs cells slots Q (F0 m pc ls [.int x])) {k2 : Option Nat → Int32 → fSt → Option (Int32 × fSt)} (hk2 : ∀ (a0 : Option Nat) (a1 : Int32) (h : fSt), k2 a0 a1 h = some r → ∀ (H : Heap) (locs : List Loc) (cells slots : Nat) (ls : Array Slot), fCur D cA s h0 h H locs → lv_has ls 23 [(0, va_rf a0), (1, .int a1)] → W p l e R s m args below meth c H locs cells slots Q (F0 m 2 ls [])) {k69 : Option Nat → Int32 → Option Nat → Option Nat → Int32 → fSt → Option (Int32 × fSt)} (hk69 : ∀ (a0 : Option Nat) (a1 : Int32) (a2 : Option Nat) (a3 : Option Nat) (a4 : Int32) (h : fSt), k69 a0 a1 a2 a3 a4 h = some r → ∀ (H : Heap) (locs : List Loc) (cells slots : Nat) (ls : Array Slot), fCur D cA s h0 h H locs → lv_has ls 23 [(0, va_rf a0), (1, .int a1), (2, va_rf a2), (3, va_rf a3), (4, .int a4)] → W p l e R s m args below meth c H locs cells slots Q (F0 m 69 ls [])) {k310 : Option Nat → Int32 → Option Nat → Option Nat → Int32 → Int64 → Int32 → Int32 → Int32 → Int32 → Int32 → Int32 → Int32 → fSt → Option (Int32 × fSt)} (hk310 : ∀ (a0 : Option Nat) (a1 : Int32) (a2 : Option Nat) (a3 : Option Nat) (a4 : Int32) (a5 : Int64) (a9 : Int32) (a10 : Int32) (a11 : Int32) (a12 : Int32) (a13 : Int32) (a14 : Int32) (a15 : Int32) (h : fSt), k310 a0 a1 a2 a3 a4 a5 a9 a10 a11 a12 a13 a14 a15 h = some r → ∀ (H : Heap) (locs : List Loc) (cells slots : Nat) (ls : Array Slot), fCur D cA s h0 h H locs → lv_has ls 23 [(0, va_rf a0), (1, .int a1), (2, va_rf a2), (3, va_rf a3), (4, .int a4), (5, .long a5), (9, .int a9), (10, .int a10), (11, .int a11), (12, .int a12), (13, .int a13), (14, .int a14), (15, .int a15)] → W p l e R s m args below meth c H locs cells slots Q (F0 m 310 ls [])) {k466 : Option Nat → Int32 → Option Nat → Option Nat → Int32 → Int64 → Int32 → Int32 → Int32 → Int32 → Int32 → Int32 → Int32 → Int32 → Int32 → fSt → Option (Int32 × fSt)} (hk466 : ∀ (a0 : Option Nat) (a1 : Int32) (a2 : Option Nat) (a3 : Option Nat) (a4 : Int32) (a5 : Int64) (a9 : Int32) (a10 : Int32) (a11 : Int32) (a12 : Int32) (a13 : Int32) (a14 : Int32) (a15 : Int32) (a16 : Int32) (a18 : Int32) (h : fSt), k466 a0 a1 a2 a3 a4 a5 a9 a10 a11 a12 a13 a14 a15 a16 a18 h = some r → ∀ (H : Heap) (locs : List Loc) (cells slots : Nat) (ls : Array Slot), fCur D cA s h0 h H locs → lv_has ls 23 [(0, va_rf a0), (1, .int a1), (2, va_rf a2), (3, va_rf a3), (4, .int a4), (5, .long a5), (9, .int a9), (10, .int a10), (11, .int a11), (12, .int a12), (13, .int a13), (14, .int a14), (15, .int a15), (16, .int a16), (18, .int a18)] → W p l e R s m args below meth c H locs cells slots Q (F0 m 466 ls [])) (a0 : Option Nat) (a1 : Int32) (a2 : Option Nat) (a3 : Option Nat) (a4 : Int32) (a5 : Int64) (a9 : Int32) (a10 : Int32) (a11 : Int32) (a12 : Int32) (a13 : Int32) (a14 : Int32) (a15 : Int32) (a16 : Int32) (a18 : Int32) (s1 : Int32) (s0 : Int32) (h : fSt) (hf : f_L_law_L506 k2 k69 k310 k466 a0 a1 a2 a3 a4 a5 a9 a10 a11 a12 a13 a14 a15 a16 a18 s1 s0 h = some r) : ∀ (H : Heap) (locs : List Loc) (cells slots : Nat) (ls : Array Slot), fCur D cA s h0 h H locs → lv_has ls 23 [(0, va_rf a0), (1, .int a1), (2, va_rf a2), (3, va_rf a3), (4, .int a4), (5, .long a5), (9, .int a9), (10, .int a10), (11, .int a11), (12, .int a12), (13, .int a13), (14, .int a14), (15, .int a15), (16, .int a16), (18, .int a18)] → W p l e R s m args below meth c H locs cells slots Q (F0 m 506 ls [.int s1, .int s0]) := by
  obtain ⟨hx, hb, hml, hr, hlocks, hts, hown, K, hR⟩ := id M
  intro H locs cells slots ls hC hl
  refine lv_icmp_ne (tgt := 561) hx hb dL_law_506 (by decide) (fun c9 => ?_) (fun c9 => ?_)
  · replace hf := oneg c9 hf
    exact w_L_law_L561 M hfl hRf hRl hend _ hf _ _ _ _ _ hC (lv_sub hl [] rfl)
  · replace hf := opos c9 hf
    refine fr_aload_n hx hb dL_law_509 rfl (lv_at hl 3 rfl) ?_
    refine lv_iconst (v := (0 : Int32)) hx hb dL_law_510 (by decide) ?_
    refine lv_iload hx hb dL_law_511 (lv_at hl 13 rfl) ?_
    refine lv_iconst (v := (5 : Int32)) hx hb dL_law_513 (by decide) ?_
    refine lv_bipush (v := (6 : Int32)) hx hb dL_law_514 (by decide) ?_
    refine lv_iload hx hb dL_law_516 (lv_at hl 14 rfl) ?_
    obtain ⟨b12, q13, hf⟩ := obind hf
    obtain ⟨⟨v14 | k15, h16⟩, g11, hf⟩ := obind hf
    rotate_left
    · exact nomatch (show (none : Option (Int32 × fSt)) = some _ from hf)
    replace hf := fci hf
    refine fr_callVX hx hb hml hts hown K hC hR ct_7 (c_X7_between hfl D cA g11) 5 q13 kw241 kw238 kw239 kw240 kw23 (by decide +kernel) ⟨by omega, by omega⟩ rfl hl.1 (cat8 _ (by exact Nat.le_of_ble_eq_true rfl)) dL_law_518 rfl (fun H locs _ _ hC => ?_)
    refine fr_aload_n hx hb dL_law_521 rfl (lv_at hl 3 rfl) ?_
    refine lv_iload hx hb dL_law_522 (lv_at hl 13 rfl) ?_
    refine lv_iconst (v := (5 : Int32)) hx hb dL_law_524 (by decide) ?_
    refine lv_bipush (v := (6 : Int32)) hx hb dL_law_525 (by decide) ?_
    refine lv_iload hx hb dL_law_527 (lv_at hl 14 rfl) ?_
    obtain ⟨b19, q20, hf⟩ := obind hf
    obtain ⟨⟨v21 | k22, h23⟩, g18, hf⟩ := obind hf
    rotate_left
    · exact nomatch (show (none : Option (Int32 × fSt)) = some _ from hf)
    replace hf := fci hf
    refine fr_callVX hx hb hml hts hown K hC hR ct_7 (c_X7_fromWhole hfl D cA g18) 4 q20 kw226 kw223 kw224 kw225 kw23 (by decide +kernel) ⟨by omega, by omega⟩ rfl hl.1 (cat8 _ (by exact Nat.le_of_ble_eq_true rfl)) dL_law_529 rfl (fun H locs _ _ hC => ?_)
    refine lv_icmp_ne (tgt := 561) hx hb dL_law_532 (by decide) (fun c24 => ?_) (fun c24 => ?_)
    · replace hf := oneg c24 hf
      exact w_L_law_L561 M hfl hRf hRl hend _ hf _ _ _ _ _ hC (lv_sub hl [] rfl)
    · replace hf := opos c24 hf
      refine fr_aload_n hx hb dL_law_535 rfl (lv_at hl 3 rfl) ?_
      refine lv_iload hx hb dL_law_536 (lv_at hl 13 rfl) ?_
      refine lv_iconst (v := (0 : Int32)) hx hb dL_law_538 (by decide) ?_
      refine lv_iconst (v := (5 : Int32)) hx hb dL_law_539 (by decide) ?_
      refine lv_bipush (v := (6 : Int32)) hx hb dL_law_540 (by decide) ?_
      refine lv_iload hx hb dL_law_542 (lv_at hl 14 rfl) ?_
      obtain ⟨b27, q28, hf⟩ := obind hf
      obtain ⟨⟨v29 | k30, h31⟩, g26, hf⟩ := obind hf
      rotate_left
      · exact nomatch (show (none : Option (Int32 × fSt)) = some _ from hf)
      replace hf := fci hf
      refine fr_callVX hx hb hml hts hown K hC hR ct_7 (c_X7_between hfl D cA g26) 5 q28 kw241 kw238 kw239 kw240 kw23 (by decide +kernel) ⟨by omega, by omega⟩ rfl hl.1 (cat8 _ (by exact Nat.le_of_ble_eq_true rfl)) dL_law_544 rfl (fun H locs _ _ hC => ?_)
      refine fr_aload_n hx hb dL_law_547 rfl (lv_at hl 3 rfl) ?_
      refine lv_iload hx hb dL_law_548 (lv_at hl 13 rfl) ?_
      refine lv_iconst (v := (5 : Int32)) hx hb dL_law_550 (by decide) ?_
      refine lv_bipush (v := (6 : Int32)) hx hb dL_law_551 (by decide) ?_
      refine lv_iload hx hb dL_law_553 (lv_at hl 14 rfl) ?_
      obtain ⟨b34, q35, hf⟩ := obind hf
      obtain ⟨⟨v36 | k37, h38⟩, g33, hf⟩ := obind hf
      rotate_left
      · exact nomatch (show (none : Option (Int32 × fSt)) = some _ from hf)
      replace hf := fci hf
      refine fr_callVX hx hb hml hts hown K hC hR ct_7 (c_X7_toWhole hfl D cA g33) 4 q35 kw174 kw171 kw172 kw173 kw23 (by decide +kernel) ⟨by omega, by omega⟩ rfl hl.1 (cat8 _ (by exact Nat.le_of_ble_eq_true rfl)) dL_law_555 rfl (fun H locs _ _ hC => ?_)
      refine lv_icmp_eq (tgt := 563) hx hb dL_law_558 (by decide) (fun c39 => ?_) (fun c39 => ?_)
      · replace hf := opos c39 hf
        refine lv_iinc (v := (a18 + (1 : Int32))) (lv' := [(18, .int (a18 + (1 : Int32))), (0, va_rf a0), (1, .int a1), (2, va_rf a2), (3, va_rf a3), (4, .int a4), (5, .long a5), (9, .int a9), (10, .int a10), (11, .int a11), (12, .int a12), (13, .int a13), (14, .int a14), (15, .int a15), (16, .int a16)]) hx hb dL_law_563 hl (k := 14) rfl rfl (by decide) (congrArg (List.cons _) (flk rfl (flk rfl (flk rfl (flk rfl (flk rfl (flk rfl (flk rfl (flk rfl (flk rfl (flk rfl (flk rfl (flk rfl (flk rfl (flk rfl (fld rfl fln)))))))))))))))) (fun ls hl => ?_)
        refine lv_goto (tgt := 466) hx hb dL_law_566 (by decide) ?_
        exact hk466 _ _ _ _ _ _ _ _ _ _ _ _ _ _ _ _ hf _ _ _ _ _ hC (lv_sub hl [1, 2, 3, 4, 5, 6, 7, 8, 9, 10, 11, 12, 13, 14, 0] rfl)
      · replace hf := oneg c39 hf
        exact w_L_law_L561 M hfl hRf hRl hend _ hf _ _ _ _ _ hC (lv_sub hl [] rfl)
set_option maxHeartbeats 4000000 in
set_option maxRecDepth 100000 in
theorem w_L_law_L647 {p : Program} {l : Launch} {e : Env} {s : State} {m : MethodId} {args : Array Value} {below : List Frame} {meth : Method} {c : Code} {D : va_G} {cA : Nat → ClassId} {h0 : fSt} {r : (Int32 × fSt)} {Q : State → Prop} {R : Room} (M : fM p s m args meth c D cA h0 R cL_law 23 (some (.boolean)) RL) (hfl : l.stackTraces = false) (hRf : 28 ≤ R.frames) (hRl : 693 ≤ R.locals) (hend : ∀ (x : Int32) (h : fSt) (H : Heap) (locs : List Loc) (cells slots : Nat) (ls : Array Slot) (pc : Nat), (x, h) = r → fCur D cA s h0 h H locs → decode code pc = .ok (.ireturn, 1) → W p l e R s m args below meth c H locs cells slots Q (F0 m pc ls [.int x]))  (h : fSt) (hf : f_L_law_L647  h = some r) : ∀ (H : Heap) (locs : List Loc) (cells slots : Nat) (ls : Array Slot), fCur D cA s h0 h H locs → lv_has ls 23 [] → W p l e R s m args below meth c H locs cells slots Q (F0 m 647 ls []) := by
  obtain ⟨hx, hb, hml, hr, hlocks, hts, hown, K, hR⟩ := id M
  intro H locs cells slots ls hC hl
  refine lv_iconst (v := (0 : Int32)) hx hb dL_law_647 (by decide) ?_
  exact hend _ _ _ _ _ _ _ _ (Option.some.inj hf) hC dL_law_648
set_option maxHeartbeats 4000000 in
set_option maxRecDepth 100000 in
theorem w_L_law_L800 {p : Program} {l : Launch} {e : Env} {s : State} {m : MethodId} {args : Array Value} {below : List Frame} {meth : Method} {c : Code} {D : va_G} {cA : Nat → ClassId} {h0 : fSt} {r : (Int32 × fSt)} {Q : State → Prop} {R : Room} (M : fM p s m args meth c D cA h0 R cL_law 23 (some (.boolean)) RL) (hfl : l.stackTraces = false) (hRf : 28 ≤ R.frames) (hRl : 693 ≤ R.locals) (hend : ∀ (x : Int32) (h : fSt) (H : Heap) (locs : List Loc) (cells slots : Nat) (ls : Array Slot) (pc : Nat), (x, h) = r → fCur D cA s h0 h H locs → decode code pc = .ok (.ireturn, 1) → W p l e R s m args below meth c H locs cells slots Q (F0 m pc ls [.int x]))  (h : fSt) (hf : f_L_law_L800  h = some r) : ∀ (H : Heap) (locs : List Loc) (cells slots : Nat) (ls : Array Slot), fCur D cA s h0 h H locs → lv_has ls 23 [] → W p l e R s m args below meth c H locs cells slots Q (F0 m 800 ls []) := by
  obtain ⟨hx, hb, hml, hr, hlocks, hts, hown, K, hR⟩ := id M
  intro H locs cells slots ls hC hl
  refine lv_iconst (v := (0 : Int32)) hx hb dL_law_800 (by decide) ?_
  exact hend _ _ _ _ _ _ _ _ (Option.some.inj hf) hC dL_law_801
set_option maxHeartbeats 4000000 in
set_option maxRecDepth 100000 in
theorem w_L_law_L802 {p : Program} {l : Launch} {e : Env} {s : State} {m : MethodId} {args : Array Value} {below : List Frame} {meth : Method} {c : Code} {D : va_G} {cA : Nat → ClassId} {h0 : fSt} {r : (Int32 × fSt)} {Q : State → Prop} {R : Room} (M : fM p s m args meth c D cA h0 R cL_law 23 (some (.boolean)) RL) (hfl : l.stackTraces = false) (hRf : 28 ≤ R.frames) (hRl : 693 ≤ R.locals) (hend : ∀ (x : Int32) (h : fSt) (H : Heap) (locs : List Loc) (cells slots : Nat) (ls : Array Slot) (pc : Nat), (x, h) = r → fCur D cA s h0 h H locs → decode code pc = .ok (.ireturn, 1) → W p l e R s m args below meth c H locs cells slots Q (F0 m pc ls [.int x])) {k2 : Option Nat → Int32 → fSt → Option (Int32 × fSt)} (hk2 : ∀ (a0 : Option Nat) (a1 : Int32) (h : fSt), k2 a0 a1 h = some r → ∀ (H : Heap) (locs : List Loc) (cells slots : Nat) (ls : Array Slot), fCur D cA s h0 h H locs → lv_has ls 23 [(0, va_rf a0), (1, .int a1)] → W p l e R s m args below meth c H locs cells slots Q (F0 m 2 ls [])) {k69 : Option Nat → Int32 → Option Nat → Option Nat → Int32 → fSt → Option (Int32 × fSt)} (hk69 : ∀ (a0 : Option Nat) (a1 : Int32) (a2 : Option Nat) (a3 : Option Nat) (a4 : Int32) (h : fSt), k69 a0 a1 a2 a3 a4 h = some r → ∀ (H : Heap) (locs : List Loc) (cells slots : Nat) (ls : Array Slot), fCur D cA s h0 h H locs → lv_has ls 23 [(0, va_rf a0), (1, .int a1), (2, va_rf a2), (3, va_rf a3), (4, .int a4)] → W p l e R s m args below meth c H locs cells slots Q (F0 m 69 ls [])) {k310 : Option Nat → Int32 → Option Nat → Option Nat → Int32 → Int64 → Int32 → Int32 → Int32 → Int32 → Int32 → Int32 → Int32 → fSt → Option (Int32 × fSt)} (hk310 : ∀ (a0 : Option Nat) (a1 : Int32) (a2 : Option Nat) (a3 : Option Nat) (a4 : Int32) (a5 : Int64) (a9 : Int32) (a10 : Int32) (a11 : Int32) (a12 : Int32) (a13 : Int32) (a14 : Int32) (a15 : Int32) (h : fSt), k310 a0 a1 a2 a3 a4 a5 a9 a10 a11 a12 a13 a14 a15 h = some r → ∀ (H : Heap) (locs : List Loc) (cells slots : Nat) (ls : Array Slot), fCur D cA s h0 h H locs → lv_has ls 23 [(0, va_rf a0), (1, .int a1), (2, va_rf a2), (3, va_rf a3), (4, .int a4), (5, .long a5), (9, .int a9), (10, .int a10), (11, .int a11), (12, .int a12), (13, .int a13), (14, .int a14), (15, .int a15)] → W p l e R s m args below meth c H locs cells slots Q (F0 m 310 ls [])) {k725 : Option Nat → Int32 → Option Nat → Option Nat → Int32 → Int64 → Int32 → Int32 → Int32 → Int32 → Int32 → Int32 → Int32 → Int32 → fSt → Option (Int32 × fSt)} (hk725 : ∀ (a0 : Option Nat) (a1 : Int32) (a2 : Option Nat) (a3 : Option Nat) (a4 : Int32) (a5 : Int64) (a9 : Int32) (a10 : Int32) (a11 : Int32) (a12 : Int32) (a13 : Int32) (a14 : Int32) (a15 : Int32) (a18 : Int32) (h : fSt), k725 a0 a1 a2 a3 a4 a5 a9 a10 a11 a12 a13 a14 a15 a18 h = some r → ∀ (H : Heap) (locs : List Loc) (cells slots : Nat) (ls : Array Slot), fCur D cA s h0 h H locs → lv_has ls 23 [(0, va_rf a0), (1, .int a1), (2, va_rf a2), (3, va_rf a3), (4, .int a4), (5, .long a5), (9, .int a9), (10, .int a10), (11, .int a11), (12, .int a12), (13, .int a13), (14, .int a14), (15, .int a15), (18, .int a18)] → W p l e R s m args below meth c H locs cells slots Q (F0 m 725 ls [])) (a0 : Option Nat) (a1 : Int32) (a2 : Option Nat) (a3 : Option Nat) (a4 : Int32) (a5 : Int64) (a9 : Int32) (a10 : Int32) (a11 : Int32) (a12 : Int32) (a13 : Int32) (a14 : Int32) (a15 : Int32) (a18 : Int32) (h : fSt) (hf : f_L_law_L802 k2 k69 k310 k725 a0 a1 a2 a3 a4 a5 a9 a10 a11 a12 a13 a14 a15 a18 h = some r) : ∀ (H : Heap) (locs : List Loc) (cells slots : Nat) (ls : Array Slot), fCur D cA s h0 h H locs → lv_has ls 23 [(0, va_rf a0), (1, .int a1), (2, va_rf a2), (3, va_rf a3), (4, .int a4), (5, .long a5), (9, .int a9), (10, .int a10), (11, .int a11), (12, .int a12), (13, .int a13), (14, .int a14), (15, .int a15), (18, .int a18)] → W p l e R s m args below meth c H locs cells slots Q (F0 m 802 ls []) := by
  obtain ⟨hx, hb, hml, hr, hlocks, hts, hown, K, hR⟩ := id M
  intro H locs cells slots ls hC hl
  refine lv_iinc (v := (a18 + (1 : Int32))) (lv' := [(18, .int (a18 + (1 : Int32))), (0, va_rf a0), (1, .int a1), (2, va_rf a2), (3, va_rf a3), (4, .int a4), (5, .long a5), (9, .int a9), (10, .int a10), (11, .int a11), (12, .int a12), (13, .int a13), (14, .int a14), (15, .int a15)]) hx hb dL_law_802 hl (k := 13) rfl rfl (by decide) (congrArg (List.cons _) (flk rfl (flk rfl (flk rfl (flk rfl (flk rfl (flk rfl (flk rfl (flk rfl (flk rfl (flk rfl (flk rfl (flk rfl (flk rfl (fld rfl fln))))))))))))))) (fun ls hl => ?_)
  refine lv_goto (tgt := 725) hx hb dL_law_805 (by decide) ?_
  exact hk725 _ _ _ _ _ _ _ _ _ _ _ _ _ _ _ hf _ _ _ _ _ hC (lv_sub hl [1, 2, 3, 4, 5, 6, 7, 8, 9, 10, 11, 12, 13, 0] rfl)
set_option maxHeartbeats 4000000 in
set_option maxRecDepth 100000 in
theorem w_L_law_L745 {p : Program} {l : Launch} {e : Env} {s : State} {m : MethodId} {args : Array Value} {below : List Frame} {meth : Method} {c : Code} {D : va_G} {cA : Nat → ClassId} {h0 : fSt} {r : (Int32 × fSt)} {Q : State → Prop} {R : Room} (M : fM p s m args meth c D cA h0 R cL_law 23 (some (.boolean)) RL) (hfl : l.stackTraces = false) (hRf : 28 ≤ R.frames) (hRl : 693 ≤ R.locals) (hend : ∀ (x : Int32) (h : fSt) (H : Heap) (locs : List Loc) (cells slots : Nat) (ls : Array Slot) (pc : Nat), (x, h) = r → fCur D cA s h0 h H locs → decode code pc = .ok (.ireturn, 1) → W p l e R s m args below meth c H locs cells slots Q (F0 m pc ls [.int x])) {k2 : Option Nat → Int32 → fSt → Option (Int32 × fSt)} (hk2 : ∀ (a0 : Option Nat) (a1 : Int32) (h : fSt), k2 a0 a1 h = some r → ∀ (H : Heap) (locs : List Loc) (cells slots : Nat) (ls : Array Slot), fCur D cA s h0 h H locs → lv_has ls 23 [(0, va_rf a0), (1, .int a1)] → W p l e R s m args below meth c H locs cells slots Q (F0 m 2 ls [])) {k69 : Option Nat → Int32 → Option Nat → Option Nat → Int32 → fSt → Option (Int32 × fSt)} (hk69 : ∀ (a0 : Option Nat) (a1 : Int32) (a2 : Option Nat) (a3 : Option Nat) (a4 : Int32) (h : fSt), k69 a0 a1 a2 a3 a4 h = some r → ∀ (H : Heap) (locs : List Loc) (cells slots : Nat) (ls : Array Slot), fCur D cA s h0 h H locs → lv_has ls 23 [(0, va_rf a0), (1, .int a1), (2, va_rf a2), (3, va_rf a3), (4, .int a4)] → W p l e R s m args below meth c H locs cells slots Q (F0 m 69 ls [])) {k310 : Option Nat → Int32 → Option Nat → Option Nat → Int32 → Int64 → Int32 → Int32 → Int32 → Int32 → Int32 → Int32 → Int32 → fSt → Option (Int32 × fSt)} (hk310 : ∀ (a0 : Option Nat) (a1 : Int32) (a2 : Option Nat) (a3 : Option Nat) (a4 : Int32) (a5 : Int64) (a9 : Int32) (a10 : Int32) (a11 : Int32) (a12 : Int32) (a13 : Int32) (a14 : Int32) (a15 : Int32) (h : fSt), k310 a0 a1 a2 a3 a4 a5 a9 a10 a11 a12 a13 a14 a15 h = some r → ∀ (H : Heap) (locs : List Loc) (cells slots : Nat) (ls : Array Slot), fCur D cA s h0 h H locs → lv_has ls 23 [(0, va_rf a0), (1, .int a1), (2, va_rf a2), (3, va_rf a3), (4, .int a4), (5, .long a5), (9, .int a9), (10, .int a10), (11, .int a11), (12, .int a12), (13, .int a13), (14, .int a14), (15, .int a15)] → W p l e R s m args below meth c H locs cells slots Q (F0 m 310 ls [])) {k725 : Option Nat → Int32 → Option Nat → Option Nat → Int32 → Int64 → Int32 → Int32 → Int32 → Int32 → Int32 → Int32 → Int32 → Int32 → fSt → Option (Int32 × fSt)} (hk725 : ∀ (a0 : Option Nat) (a1 : Int32) (a2 : Option Nat) (a3 : Option Nat) (a4 : Int32) (a5 : Int64) (a9 : Int32) (a10 : Int32) (a11 : Int32) (a12 : Int32) (a13 : Int32) (a14 : Int32) (a15 : Int32) (a18 : Int32) (h : fSt), k725 a0 a1 a2 a3 a4 a5 a9 a10 a11 a12 a13 a14 a15 a18 h = some r → ∀ (H : Heap) (locs : List Loc) (cells slots : Nat) (ls : Array Slot), fCur D cA s h0 h H locs → lv_has ls 23 [(0, va_rf a0), (1, .int a1), (2, va_rf a2), (3, va_rf a3), (4, .int a4), (5, .long a5), (9, .int a9), (10, .int a10), (11, .int a11), (12, .int a12), (13, .int a13), (14, .int a14), (15, .int a15), (18, .int a18)] → W p l e R s m args below meth c H locs cells slots Q (F0 m 725 ls [])) (a0 : Option Nat) (a1 : Int32) (a2 : Option Nat) (a3 : Option Nat) (a4 : Int32) (a5 : Int64) (a9 : Int32) (a10 : Int32) (a11 : Int32) (a12 : Int32) (a13 : Int32) (a14 : Int32) (a15 : Int32) (a18 : Int32) (s0 : Int32) (h : fSt) (hf : f_L_law_L745 k2 k69 k310 k725 a0 a1 a2 a3 a4 a5 a9 a10 a11 a12 a13 a14 a15 a18 s0 h = some r) : ∀ (H : Heap) (locs : List Loc) (cells slots : Nat) (ls : Array Slot), fCur D cA s h0 h H locs → lv_has ls 23 [(0, va_rf a0), (1, .int a1), (2, va_rf a2), (3, va_rf a3), (4, .int a4), (5, .long a5), (9, .int a9), (10, .int a10), (11, .int a11), (12, .int a12), (13, .int a13), (14, .int a14), (15, .int a15), (18, .int a18)] → W p l e R s m args below meth c H locs cells slots Q (F0 m 745 ls [.int s0]) := by
  obtain ⟨hx, hb, hml, hr, hlocks, hts, hown, K, hR⟩ := id M
  intro H locs cells slots ls hC hl
  refine lv_i2l (v := (Int32.toInt64 s0)) hx hb dL_law_745 rfl ?_
  refine fr_aload_n hx hb dL_law_746 rfl (lv_at hl 3 rfl) ?_
  refine lv_iload hx hb dL_law_747 (lv_at hl 12 rfl) ?_
  refine lv_iload hx hb dL_law_749 (lv_at hl 13 rfl) ?_
  refine lv_iconst (v := (1 : Int32)) hx hb dL_law_751 (by decide) ?_
  obtain ⟨b42, q43, hf⟩ := obind hf
  obtain ⟨⟨v44 | k45, h46⟩, g41, hf⟩ := obind hf
  rotate_left
  · exact nomatch (show (none : Option (Int32 × fSt)) = some _ from hf)
  replace hf := fci hf
  refine fr_callVX hx hb hml hts hown K hC hR ct_7 (c_X7_bound hfl D cA g41) 3 q43 kw245 kw242 kw243 kw244 kw23 (by decide +kernel) ⟨by omega, by omega⟩ rfl hl.1 (cat8 _ (by exact Nat.le_of_ble_eq_true rfl)) dL_law_752 rfl (fun H locs _ _ hC => ?_)
  refine lv_i2l (v := (Int32.toInt64 v44)) hx hb dL_law_755 rfl ?_
  refine lv_lmul hx hb dL_law_756 ?_
  refine lv_lstore (lv' := [(19, .long ((Int32.toInt64 s0) * (Int32.toInt64 v44))), (0, va_rf a0), (1, .int a1), (2, va_rf a2), (3, va_rf a3), (4, .int a4), (5, .long a5), (9, .int a9), (10, .int a10), (11, .int a11), (12, .int a12), (13, .int a13), (14, .int a14), (15, .int a15), (18, .int a18)]) hx hb dL_law_757 hl (by decide) (congrArg (List.cons _) (flk rfl (flk rfl (flk rfl (flk rfl (flk rfl (flk rfl (flk rfl (flk rfl (flk rfl (flk rfl (flk rfl (flk rfl (flk rfl (flk rfl fln))))))))))))))) (fun ls hl => ?_)
  refine fr_aload_n hx hb dL_law_759 rfl (lv_at hl 4 rfl) ?_
  refine lv_iload hx hb dL_law_760 (lv_at hl 13 rfl) ?_
  refine lv_iload hx hb dL_law_762 (lv_at hl 14 rfl) ?_
  refine lv_iconst (v := (0 : Int32)) hx hb dL_law_764 (by decide) ?_
  obtain ⟨b49, q50, hf⟩ := obind hf
  obtain ⟨⟨v51 | k52, h53⟩, g48, hf⟩ := obind hf
  rotate_left
  · exact nomatch (show (none : Option (Int32 × fSt)) = some _ from hf)
  replace hf := fci hf
  refine fr_callVX hx hb hml hts hown K hC hR ct_7 (c_X7_bound hfl D cA g48) 3 q50 kw245 kw242 kw243 kw244 kw23 (by decide +kernel) ⟨by omega, by omega⟩ rfl hl.1 (cat8 _ (by exact Nat.le_of_ble_eq_true rfl)) dL_law_765 rfl (fun H locs _ _ hC => ?_)
  refine lv_i2l (v := (Int32.toInt64 v51)) hx hb dL_law_768 rfl ?_
  refine lv_iload hx hb dL_law_769 (lv_at hl 7 rfl) ?_
  refine lv_i2l (v := (Int32.toInt64 a9)) hx hb dL_law_771 rfl ?_
  refine lv_lmul hx hb dL_law_772 ?_
  refine lv_lstore (lv' := [(21, .long ((Int32.toInt64 v51) * (Int32.toInt64 a9))), (19, .long ((Int32.toInt64 s0) * (Int32.toInt64 v44))), (0, va_rf a0), (1, .int a1), (2, va_rf a2), (3, va_rf a3), (4, .int a4), (5, .long a5), (9, .int a9), (10, .int a10), (11, .int a11), (12, .int a12), (13, .int a13), (14, .int a14), (15, .int a15), (18, .int a18)]) hx hb dL_law_773 hl (by decide) (congrArg (List.cons _) (flk rfl (flk rfl (flk rfl (flk rfl (flk rfl (flk rfl (flk rfl (flk rfl (flk rfl (flk rfl (flk rfl (flk rfl (flk rfl (flk rfl (flk rfl fln)))))))))))))))) (fun ls hl => ?_)
  refine lv_iload hx hb dL_law_775 (lv_at hl 15 rfl) ?_
  refine lv_iconst (v := (2 : Int32)) hx hb dL_law_777 (by decide) ?_
  refine lv_icmp_ge (tgt := 792) hx hb dL_law_778 (by decide) (fun c54 => ?_) (fun c54 => ?_)
  · replace hf := opos c54 hf
    refine lv_lload hx hb dL_law_792 (lv_at hl 1 rfl) ?_
    refine lv_lload hx hb dL_law_794 (lv_at hl 0 rfl) ?_
    refine fr_lcmp_le (tgt := 802) hx hb dL_law_796 dL_law_797 (by decide) (fun c55 => ?_) (fun c55 => ?_)
    · replace hf := opos c55 hf
      exact w_L_law_L802 M hfl hRf hRl hend hk2 hk69 hk310 hk725 _ _ _ _ _ _ _ _ _ _ _ _ _ _ _ hf _ _ _ _ _ hC (lv_sub hl [2, 3, 4, 5, 6, 7, 8, 9, 10, 11, 12, 13, 14, 15] rfl)
    · replace hf := oneg c55 hf
      exact w_L_law_L800 M hfl hRf hRl hend _ hf _ _ _ _ _ hC (lv_sub hl [] rfl)
  · replace hf := oneg c54 hf
    refine lv_lload hx hb dL_law_781 (lv_at hl 1 rfl) ?_
    refine lv_lload hx hb dL_law_783 (lv_at hl 0 rfl) ?_
    refine fr_lcmp_ge (tgt := 802) hx hb dL_law_785 dL_law_786 (by decide) (fun c56 => ?_) (fun c56 => ?_)
    · replace hf := opos c56 hf
      exact w_L_law_L802 M hfl hRf hRl hend hk2 hk69 hk310 hk725 _ _ _ _ _ _ _ _ _ _ _ _ _ _ _ hf _ _ _ _ _ hC (lv_sub hl [2, 3, 4, 5, 6, 7, 8, 9, 10, 11, 12, 13, 14, 15] rfl)
    · replace hf := oneg c56 hf
      refine lv_goto (tgt := 800) hx hb dL_law_789 (by decide) ?_
      exact w_L_law_L800 M hfl hRf hRl hend _ hf _ _ _ _ _ hC (lv_sub hl [] rfl)
set_option maxHeartbeats 4000000 in
set_option maxRecDepth 100000 in
theorem w_L_law_L725 {p : Program} {l : Launch} {e : Env} {s : State} {m : MethodId} {args : Array Value} {below : List Frame} {meth : Method} {c : Code} {D : va_G} {cA : Nat → ClassId} {h0 : fSt} {r : (Int32 × fSt)} {Q : State → Prop} {R : Room} (M : fM p s m args meth c D cA h0 R cL_law 23 (some (.boolean)) RL) (hfl : l.stackTraces = false) (hRf : 28 ≤ R.frames) (hRl : 693 ≤ R.locals) (hend : ∀ (x : Int32) (h : fSt) (H : Heap) (locs : List Loc) (cells slots : Nat) (ls : Array Slot) (pc : Nat), (x, h) = r → fCur D cA s h0 h H locs → decode code pc = .ok (.ireturn, 1) → W p l e R s m args below meth c H locs cells slots Q (F0 m pc ls [.int x])) {k2 : Option Nat → Int32 → fSt → Option (Int32 × fSt)} (hk2 : ∀ (a0 : Option Nat) (a1 : Int32) (h : fSt), k2 a0 a1 h = some r → ∀ (H : Heap) (locs : List Loc) (cells slots : Nat) (ls : Array Slot), fCur D cA s h0 h H locs → lv_has ls 23 [(0, va_rf a0), (1, .int a1)] → W p l e R s m args below meth c H locs cells slots Q (F0 m 2 ls [])) {k69 : Option Nat → Int32 → Option Nat → Option Nat → Int32 → fSt → Option (Int32 × fSt)} (hk69 : ∀ (a0 : Option Nat) (a1 : Int32) (a2 : Option Nat) (a3 : Option Nat) (a4 : Int32) (h : fSt), k69 a0 a1 a2 a3 a4 h = some r → ∀ (H : Heap) (locs : List Loc) (cells slots : Nat) (ls : Array Slot), fCur D cA s h0 h H locs → lv_has ls 23 [(0, va_rf a0), (1, .int a1), (2, va_rf a2), (3, va_rf a3), (4, .int a4)] → W p l e R s m args below meth c H locs cells slots Q (F0 m 69 ls [])) {k310 : Option Nat → Int32 → Option Nat → Option Nat → Int32 → Int64 → Int32 → Int32 → Int32 → Int32 → Int32 → Int32 → Int32 → fSt → Option (Int32 × fSt)} (hk310 : ∀ (a0 : Option Nat) (a1 : Int32) (a2 : Option Nat) (a3 : Option Nat) (a4 : Int32) (a5 : Int64) (a9 : Int32) (a10 : Int32) (a11 : Int32) (a12 : Int32) (a13 : Int32) (a14 : Int32) (a15 : Int32) (h : fSt), k310 a0 a1 a2 a3 a4 a5 a9 a10 a11 a12 a13 a14 a15 h = some r → ∀ (H : Heap) (locs : List Loc) (cells slots : Nat) (ls : Array Slot), fCur D cA s h0 h H locs → lv_has ls 23 [(0, va_rf a0), (1, .int a1), (2, va_rf a2), (3, va_rf a3), (4, .int a4), (5, .long a5), (9, .int a9), (10, .int a10), (11, .int a11), (12, .int a12), (13, .int a13), (14, .int a14), (15, .int a15)] → W p l e R s m args below meth c H locs cells slots Q (F0 m 310 ls [])) : ∀ (n : Nat) (a0 : Option Nat) (a1 : Int32) (a2 : Option Nat) (a3 : Option Nat) (a4 : Int32) (a5 : Int64) (a9 : Int32) (a10 : Int32) (a11 : Int32) (a12 : Int32) (a13 : Int32) (a14 : Int32) (a15 : Int32) (a18 : Int32) (h : fSt), f_L_law_L725 k2 k69 k310 n a0 a1 a2 a3 a4 a5 a9 a10 a11 a12 a13 a14 a15 a18 h = some r → ∀ (H : Heap) (locs : List Loc) (cells slots : Nat) (ls : Array Slot), fCur D cA s h0 h H locs → lv_has ls 23 [(0, va_rf a0), (1, .int a1), (2, va_rf a2), (3, va_rf a3), (4, .int a4), (5, .long a5), (9, .int a9), (10, .int a10), (11, .int a11), (12, .int a12), (13, .int a13), (14, .int a14), (15, .int a15), (18, .int a18)] → W p l e R s m args below meth c H locs cells slots Q (F0 m 725 ls []) := by
  obtain ⟨hx, hb, hml, hr, hlocks, hts, hown, K, hR⟩ := id M
  intro n
  induction n with
  | zero =>
    intro a0 a1 a2 a3 a4 a5 a9 a10 a11 a12 a13 a14 a15 a18 h hf
    exact nomatch (show (none : Option (Int32 × fSt)) = some r from hf)
  | succ n hk725 =>
    intro a0 a1 a2 a3 a4 a5 a9 a10 a11 a12 a13 a14 a15 a18 h hf H locs cells slots ls hC hl
    refine lv_iload hx hb dL_law_725 (lv_at hl 13 rfl) ?_
    refine lv_iconst (v := (4 : Int32)) hx hb dL_law_727 (by decide) ?_
    refine lv_icmp_ge (tgt := 808) hx hb dL_law_728 (by decide) (fun c57 => ?_) (fun c57 => ?_)
    · replace hf := opos c57 hf
      exact w_L_law_L808 M hfl hRf hRl hend hk2 hk69 hk310 _ _ _ _ _ _ _ _ _ _ _ _ _ _ hf _ _ _ _ _ hC (lv_sub hl [0, 1, 2, 3, 4, 5, 6, 7, 8, 9, 10, 11, 12] rfl)
    · replace hf := oneg c57 hf
      refine lv_iload hx hb dL_law_731 (lv_at hl 13 rfl) ?_
      refine lv_iconst (v := (2 : Int32)) hx hb dL_law_733 (by decide) ?_
      refine lv_irem hx hb dL_law_734 (by decide) ?_
      refine lv_if_ne (tgt := 743) hx hb dL_law_735 (by decide) (fun c58 => ?_) (fun c58 => ?_)
      · replace hf := oneg c58 hf
        refine lv_iload hx hb dL_law_743 (lv_at hl 8 rfl) ?_
        exact w_L_law_L745 M hfl hRf hRl hend hk2 hk69 hk310 hk725 _ _ _ _ _ _ _ _ _ _ _ _ _ _ _ _ hf _ _ _ _ _ hC (lv_sub hl [0, 1, 2, 3, 4, 5, 6, 7, 8, 9, 10, 11, 12, 13] rfl)
      · replace hf := opos c58 hf
        refine lv_iload hx hb dL_law_738 (lv_at hl 7 rfl) ?_
        refine lv_goto (tgt := 745) hx hb dL_law_740 (by decide) ?_
        exact w_L_law_L745 M hfl hRf hRl hend hk2 hk69 hk310 hk725 _ _ _ _ _ _ _ _ _ _ _ _ _ _ _ _ hf _ _ _ _ _ hC (lv_sub hl [0, 1, 2, 3, 4, 5, 6, 7, 8, 9, 10, 11, 12, 13] rfl)
set_option maxHeartbeats 4000000 in
set_option maxRecDepth 100000 in
theorem w_L_law_L697 {p : Program} {l : Launch} {e : Env} {s : State} {m : MethodId} {args : Array Value} {below : List Frame} {meth : Method} {c : Code} {D : va_G} {cA : Nat → ClassId} {h0 : fSt} {r : (Int32 × fSt)} {Q : State → Prop} {R : Room} (M : fM p s m args meth c D cA h0 R cL_law 23 (some (.boolean)) RL) (hfl : l.stackTraces = false) (hRf : 28 ≤ R.frames) (hRl : 693 ≤ R.locals) (hend : ∀ (x : Int32) (h : fSt) (H : Heap) (locs : List Loc) (cells slots : Nat) (ls : Array Slot) (pc : Nat), (x, h) = r → fCur D cA s h0 h H locs → decode code pc = .ok (.ireturn, 1) → W p l e R s m args below meth c H locs cells slots Q (F0 m pc ls [.int x])) {k2 : Option Nat → Int32 → fSt → Option (Int32 × fSt)} (hk2 : ∀ (a0 : Option Nat) (a1 : Int32) (h : fSt), k2 a0 a1 h = some r → ∀ (H : Heap) (locs : List Loc) (cells slots : Nat) (ls : Array Slot), fCur D cA s h0 h H locs → lv_has ls 23 [(0, va_rf a0), (1, .int a1)] → W p l e R s m args below meth c H locs cells slots Q (F0 m 2 ls [])) {k69 : Option Nat → Int32 → Option Nat → Option Nat → Int32 → fSt → Option (Int32 × fSt)} (hk69 : ∀ (a0 : Option Nat) (a1 : Int32) (a2 : Option Nat) (a3 : Option Nat) (a4 : Int32) (h : fSt), k69 a0 a1 a2 a3 a4 h = some r → ∀ (H : Heap) (locs : List Loc) (cells slots : Nat) (ls : Array Slot), fCur D cA s h0 h H locs → lv_has ls 23 [(0, va_rf a0), (1, .int a1), (2, va_rf a2), (3, va_rf a3), (4, .int a4)] → W p l e R s m args below meth c H locs cells slots Q (F0 m 69 ls [])) {k310 : Option Nat → Int32 → Option Nat → Option Nat → Int32 → Int64 → Int32 → Int32 → Int32 → Int32 → Int32 → Int32 → Int32 → fSt → Option (Int32 × fSt)} (hk310 : ∀ (a0 : Option Nat) (a1 : Int32) (a2 : Option Nat) (a3 : Option Nat) (a4 : Int32) (a5 : Int64) (a9 : Int32) (a10 : Int32) (a11 : Int32) (a12 : Int32) (a13 : Int32) (a14 : Int32) (a15 : Int32) (h : fSt), k310 a0 a1 a2 a3 a4 a5 a9 a10 a11 a12 a13 a14 a15 h = some r → ∀ (H : Heap) (locs : List Loc) (cells slots : Nat) (ls : Array Slot), fCur D cA s h0 h H locs → lv_has ls 23 [(0, va_rf a0), (1, .int a1), (2, va_rf a2), (3, va_rf a3), (4, .int a4), (5, .long a5), (9, .int a9), (10, .int a10), (11, .int a11), (12, .int a12), (13, .int a13), (14, .int a14), (15, .int a15)] → W p l e R s m args below meth c H locs cells slots Q (F0 m 310 ls [])) (a0 : Option Nat) (a1 : Int32) (a2 : Option Nat) (a3 : Option Nat) (a4 : Int32) (a5 : Int64) (a9 : Int32) (a10 : Int32) (a11 : Int32) (a12 : Int32) (a14 : Int32) (a15 : Int32) (s0 : Int32) (h : fSt) (hf : f_L_law_L697 k2 k69 k310 a0 a1 a2 a3 a4 a5 a9 a10 a11 a12 a14 a15 s0 h = some r) : ∀ (H : Heap) (locs : List Loc) (cells slots : Nat) (ls : Array Slot), fCur D cA s h0 h H locs → lv_has ls 23 [(0, va_rf a0), (1, .int a1), (2, va_rf a2), (3, va_rf a3), (4, .int a4), (5, .long a5), (9, .int a9), (10, .int a10), (11, .int a11), (12, .int a12), (14, .int a14), (15, .int a15)] → W p l e R s m args below meth c H locs cells slots Q (F0 m 697 ls [.int s0]) := by
  obtain ⟨hx, hb, hml, hr, hlocks, hts, hown, K, hR⟩ := id M
  intro H locs cells slots ls hC hl
  refine lv_istore (lv' := [(13, .int s0), (0, va_rf a0), (1, .int a1), (2, va_rf a2), (3, va_rf a3), (4, .int a4), (5, .long a5), (9, .int a9), (10, .int a10), (11, .int a11), (12, .int a12), (14, .int a14), (15, .int a15)]) hx hb dL_law_697 hl (by decide) (congrArg (List.cons _) (flk rfl (flk rfl (flk rfl (flk rfl (flk rfl (flk rfl (flk rfl (flk rfl (flk rfl (flk rfl (flk rfl (flk rfl fln))))))))))))) (fun ls hl => ?_)
  refine lv_iload hx hb dL_law_699 (lv_at hl 11 rfl) ?_
  refine lv_sipush (v := (10000 : Int32)) hx hb dL_law_701 (by decide) ?_
  refine lv_bipush (v := (100 : Int32)) hx hb dL_law_704 (by decide) ?_
  refine fr_aload_n hx hb dL_law_706 rfl (lv_at hl 4 rfl) ?_
  refine lv_iload hx hb dL_law_707 (lv_at hl 12 rfl) ?_
  obtain ⟨b61, q62, hf⟩ := obind hf
  obtain ⟨⟨v63 | k64, h65⟩, g60, hf⟩ := obind hf
  rotate_left
  · exact nomatch (show (none : Option (Int32 × fSt)) = some _ from hf)
  replace hf := fci hf
  refine fr_callVX hx hb hml hts hown K hC hR ct_7 (c_X7_strength hfl D cA g60) 1 q62 kw289 kw286 kw287 kw288 kw23 (by decide +kernel) ⟨by omega, by omega⟩ rfl hl.1 (cat8 _ (by exact Nat.le_of_ble_eq_true rfl)) dL_law_709 rfl (fun H locs _ _ hC => ?_)
  refine lv_isub hx hb dL_law_712 ?_
  refine lv_imul hx hb dL_law_713 ?_
  refine lv_bipush (v := (100 : Int32)) hx hb dL_law_714 (by decide) ?_
  refine lv_idiv hx hb dL_law_716 (by decide) ?_
  refine fr_mmin hx hb hml hts hown hC hR kw937 kw364 kw38 kw365 hl.1 (by omega) (catL _ _ (by exact Nat.le_of_ble_eq_true rfl) (by omega)) dL_law_717 (fun _ _ => ?_)
  refine lv_istore (lv' := [(14, .int (if (((10000 : Int32) * ((100 : Int32) - v63)) / (100 : Int32)) < a14 then (((10000 : Int32) * ((100 : Int32) - v63)) / (100 : Int32)) else a14)), (13, .int s0), (0, va_rf a0), (1, .int a1), (2, va_rf a2), (3, va_rf a3), (4, .int a4), (5, .long a5), (9, .int a9), (10, .int a10), (11, .int a11), (12, .int a12), (15, .int a15)]) hx hb dL_law_720 hl (by decide) (congrArg (List.cons _) (flk rfl (flk rfl (flk rfl (flk rfl (flk rfl (flk rfl (flk rfl (flk rfl (flk rfl (flk rfl (flk rfl (fld rfl (flk rfl fln)))))))))))))) (fun ls hl => ?_)
  refine lv_iconst (v := (0 : Int32)) hx hb dL_law_722 (by decide) ?_
  refine lv_istore (lv' := [(18, .int (0 : Int32)), (14, .int (if (((10000 : Int32) * ((100 : Int32) - v63)) / (100 : Int32)) < a14 then (((10000 : Int32) * ((100 : Int32) - v63)) / (100 : Int32)) else a14)), (13, .int s0), (0, va_rf a0), (1, .int a1), (2, va_rf a2), (3, va_rf a3), (4, .int a4), (5, .long a5), (9, .int a9), (10, .int a10), (11, .int a11), (12, .int a12), (15, .int a15)]) hx hb dL_law_723 hl (by decide) (congrArg (List.cons _) (flk rfl (flk rfl (flk rfl (flk rfl (flk rfl (flk rfl (flk rfl (flk rfl (flk rfl (flk rfl (flk rfl (flk rfl (flk rfl fln)))))))))))))) (fun ls hl => ?_)
  exact w_L_law_L725 M hfl hRf hRl hend hk2 hk69 hk310 4096 _ _ _ _ _ _ _ _ _ _ _ _ _ _ _ hf _ _ _ _ _ hC (lv_sub hl [3, 4, 5, 6, 7, 8, 9, 10, 11, 12, 2, 1, 13, 0] rfl)
set_option maxHeartbeats 4000000 in
set_option maxRecDepth 100000 in
theorem w_L_law_L690 {p : Program} {l : Launch} {e : Env} {s : State} {m : MethodId} {args : Array Value} {below : List Frame} {meth : Method} {c : Code} {D : va_G} {cA : Nat → ClassId} {h0 : fSt} {r : (Int32 × fSt)} {Q : State → Prop} {R : Room} (M : fM p s m args meth c D cA h0 R cL_law 23 (some (.boolean)) RL) (hfl : l.stackTraces = false) (hRf : 28 ≤ R.frames) (hRl : 693 ≤ R.locals) (hend : ∀ (x : Int32) (h : fSt) (H : Heap) (locs : List Loc) (cells slots : Nat) (ls : Array Slot) (pc : Nat), (x, h) = r → fCur D cA s h0 h H locs → decode code pc = .ok (.ireturn, 1) → W p l e R s m args below meth c H locs cells slots Q (F0 m pc ls [.int x])) {k2 : Option Nat → Int32 → fSt → Option (Int32 × fSt)} (hk2 : ∀ (a0 : Option Nat) (a1 : Int32) (h : fSt), k2 a0 a1 h = some r → ∀ (H : Heap) (locs : List Loc) (cells slots : Nat) (ls : Array Slot), fCur D cA s h0 h H locs → lv_has ls 23 [(0, va_rf a0), (1, .int a1)] → W p l e R s m args below meth c H locs cells slots Q (F0 m 2 ls [])) {k69 : Option Nat → Int32 → Option Nat → Option Nat → Int32 → fSt → Option (Int32 × fSt)} (hk69 : ∀ (a0 : Option Nat) (a1 : Int32) (a2 : Option Nat) (a3 : Option Nat) (a4 : Int32) (h : fSt), k69 a0 a1 a2 a3 a4 h = some r → ∀ (H : Heap) (locs : List Loc) (cells slots : Nat) (ls : Array Slot), fCur D cA s h0 h H locs → lv_has ls 23 [(0, va_rf a0), (1, .int a1), (2, va_rf a2), (3, va_rf a3), (4, .int a4)] → W p l e R s m args below meth c H locs cells slots Q (F0 m 69 ls [])) {k310 : Option Nat → Int32 → Option Nat → Option Nat → Int32 → Int64 → Int32 → Int32 → Int32 → Int32 → Int32 → Int32 → Int32 → fSt → Option (Int32 × fSt)} (hk310 : ∀ (a0 : Option Nat) (a1 : Int32) (a2 : Option Nat) (a3 : Option Nat) (a4 : Int32) (a5 : Int64) (a9 : Int32) (a10 : Int32) (a11 : Int32) (a12 : Int32) (a13 : Int32) (a14 : Int32) (a15 : Int32) (h : fSt), k310 a0 a1 a2 a3 a4 a5 a9 a10 a11 a12 a13 a14 a15 h = some r → ∀ (H : Heap) (locs : List Loc) (cells slots : Nat) (ls : Array Slot), fCur D cA s h0 h H locs → lv_has ls 23 [(0, va_rf a0), (1, .int a1), (2, va_rf a2), (3, va_rf a3), (4, .int a4), (5, .long a5), (9, .int a9), (10, .int a10), (11, .int a11), (12, .int a12), (13, .int a13), (14, .int a14), (15, .int a15)] → W p l e R s m args below meth c H locs cells slots Q (F0 m 310 ls [])) (a0 : Option Nat) (a1 : Int32) (a2 : Option Nat) (a3 : Option Nat) (a4 : Int32) (a5 : Int64) (a9 : Int32) (a10 : Int32) (a11 : Int32) (a12 : Int32) (a14 : Int32) (a15 : Int32) (h : fSt) (hf : f_L_law_L690 k2 k69 k310 a0 a1 a2 a3 a4 a5 a9 a10 a11 a12 a14 a15 h = some r) : ∀ (H : Heap) (locs : List Loc) (cells slots : Nat) (ls : Array Slot), fCur D cA s h0 h H locs → lv_has ls 23 [(0, va_rf a0), (1, .int a1), (2, va_rf a2), (3, va_rf a3), (4, .int a4), (5, .long a5), (9, .int a9), (10, .int a10), (11, .int a11), (12, .int a12), (14, .int a14), (15, .int a15)] → W p l e R s m args below meth c H locs cells slots Q (F0 m 690 ls []) := by
  obtain ⟨hx, hb, hml, hr, hlocks, hts, hown, K, hR⟩ := id M
  intro H locs cells slots ls hC hl
  refine lv_iload hx hb dL_law_690 (lv_at hl 11 rfl) ?_
  refine lv_goto (tgt := 697) hx hb dL_law_692 (by decide) ?_
  exact w_L_law_L697 M hfl hRf hRl hend hk2 hk69 hk310 _ _ _ _ _ _ _ _ _ _ _ _ _ _ hf _ _ _ _ _ hC (lv_sub hl [0, 1, 2, 3, 4, 5, 6, 7, 8, 9, 10, 11] rfl)
set_option maxHeartbeats 4000000 in
set_option maxRecDepth 100000 in
theorem w_L_law_L643 {p : Program} {l : Launch} {e : Env} {s : State} {m : MethodId} {args : Array Value} {below : List Frame} {meth : Method} {c : Code} {D : va_G} {cA : Nat → ClassId} {h0 : fSt} {r : (Int32 × fSt)} {Q : State → Prop} {R : Room} (M : fM p s m args meth c D cA h0 R cL_law 23 (some (.boolean)) RL) (hfl : l.stackTraces = false) (hRf : 28 ≤ R.frames) (hRl : 693 ≤ R.locals) (hend : ∀ (x : Int32) (h : fSt) (H : Heap) (locs : List Loc) (cells slots : Nat) (ls : Array Slot) (pc : Nat), (x, h) = r → fCur D cA s h0 h H locs → decode code pc = .ok (.ireturn, 1) → W p l e R s m args below meth c H locs cells slots Q (F0 m pc ls [.int x])) {k2 : Option Nat → Int32 → fSt → Option (Int32 × fSt)} (hk2 : ∀ (a0 : Option Nat) (a1 : Int32) (h : fSt), k2 a0 a1 h = some r → ∀ (H : Heap) (locs : List Loc) (cells slots : Nat) (ls : Array Slot), fCur D cA s h0 h H locs → lv_has ls 23 [(0, va_rf a0), (1, .int a1)] → W p l e R s m args below meth c H locs cells slots Q (F0 m 2 ls [])) {k69 : Option Nat → Int32 → Option Nat → Option Nat → Int32 → fSt → Option (Int32 × fSt)} (hk69 : ∀ (a0 : Option Nat) (a1 : Int32) (a2 : Option Nat) (a3 : Option Nat) (a4 : Int32) (h : fSt), k69 a0 a1 a2 a3 a4 h = some r → ∀ (H : Heap) (locs : List Loc) (cells slots : Nat) (ls : Array Slot), fCur D cA s h0 h H locs → lv_has ls 23 [(0, va_rf a0), (1, .int a1), (2, va_rf a2), (3, va_rf a3), (4, .int a4)] → W p l e R s m args below meth c H locs cells slots Q (F0 m 69 ls [])) {k310 : Option Nat → Int32 → Option Nat → Option Nat → Int32 → Int64 → Int32 → Int32 → Int32 → Int32 → Int32 → Int32 → Int32 → fSt → Option (Int32 × fSt)} (hk310 : ∀ (a0 : Option Nat) (a1 : Int32) (a2 : Option Nat) (a3 : Option Nat) (a4 : Int32) (a5 : Int64) (a9 : Int32) (a10 : Int32) (a11 : Int32) (a12 : Int32) (a13 : Int32) (a14 : Int32) (a15 : Int32) (h : fSt), k310 a0 a1 a2 a3 a4 a5 a9 a10 a11 a12 a13 a14 a15 h = some r → ∀ (H : Heap) (locs : List Loc) (cells slots : Nat) (ls : Array Slot), fCur D cA s h0 h H locs → lv_has ls 23 [(0, va_rf a0), (1, .int a1), (2, va_rf a2), (3, va_rf a3), (4, .int a4), (5, .long a5), (9, .int a9), (10, .int a10), (11, .int a11), (12, .int a12), (13, .int a13), (14, .int a14), (15, .int a15)] → W p l e R s m args below meth c H locs cells slots Q (F0 m 310 ls [])) (a0 : Option Nat) (a1 : Int32) (a2 : Option Nat) (a3 : Option Nat) (a4 : Int32) (a5 : Int64) (a9 : Int32) (a10 : Int32) (a11 : Int32) (a12 : Int32) (a13 : Int32) (a14 : Int32) (a15 : Int32) (s2 : Int32) (s1 : Int32) (s0 : Int32) (h : fSt) (hf : f_L_law_L643 k2 k69 k310 a0 a1 a2 a3 a4 a5 a9 a10 a11 a12 a13 a14 a15 s2 s1 s0 h = some r) : ∀ (H : Heap) (locs : List Loc) (cells slots : Nat) (ls : Array Slot), fCur D cA s h0 h H locs → lv_has ls 23 [(0, va_rf a0), (1, .int a1), (2, va_rf a2), (3, va_rf a3), (4, .int a4), (5, .long a5), (9, .int a9), (10, .int a10), (11, .int a11), (12, .int a12), (13, .int a13), (14, .int a14), (15, .int a15)] → W p l e R s m args below meth c H locs cells slots Q (F0 m 643 ls [.int s2, .int s1, .int s0]) := by
  obtain ⟨hx, hb, hml, hr, hlocks, hts, hown, K, hR⟩ := id M
  intro H locs cells slots ls hC hl
  refine lv_iadd hx hb dL_law_643 ?_
  refine lv_icmp_eq (tgt := 649) hx hb dL_law_644 (by decide) (fun c66 => ?_) (fun c66 => ?_)
  · replace hf := opos c66 hf
    refine fr_aload_n hx hb dL_law_649 rfl (lv_at hl 3 rfl) ?_
    refine lv_iload hx hb dL_law_650 (lv_at hl 12 rfl) ?_
    refine lv_iload hx hb dL_law_652 (lv_at hl 7 rfl) ?_
    refine lv_iload hx hb dL_law_654 (lv_at hl 8 rfl) ?_
    refine lv_iload hx hb dL_law_656 (lv_at hl 6 rfl) ?_
    obtain ⟨b69, q70, hf⟩ := obind hf
    obtain ⟨⟨v71 | k72, h73⟩, g68, hf⟩ := obind hf
    rotate_left
    · exact nomatch (show (none : Option (Int32 × fSt)) = some _ from hf)
    replace hf := fci hf
    refine fr_callVX hx hb hml hts hown K hC hR ct_7 (c_X7_covers hfl D cA g68) 4 q70 kw306 kw303 kw304 kw305 kw23 (by decide +kernel) ⟨by omega, by omega⟩ rfl hl.1 (cat8 _ (by exact Nat.le_of_ble_eq_true rfl)) dL_law_658 rfl (fun H locs _ _ hC => ?_)
    refine lv_if_ne (tgt := 667) hx hb dL_law_661 (by decide) (fun c74 => ?_) (fun c74 => ?_)
    · replace hf := oneg c74 hf
      refine lv_iinc (v := (a12 + (1 : Int32))) (lv' := [(12, .int (a12 + (1 : Int32))), (0, va_rf a0), (1, .int a1), (2, va_rf a2), (3, va_rf a3), (4, .int a4), (5, .long a5), (9, .int a9), (10, .int a10), (11, .int a11), (13, .int a13), (14, .int a14), (15, .int a15)]) hx hb dL_law_667 hl (k := 9) rfl rfl (by decide) (congrArg (List.cons _) (flk rfl (flk rfl (flk rfl (flk rfl (flk rfl (flk rfl (flk rfl (flk rfl (flk rfl (fld rfl (flk rfl (flk rfl (flk rfl fln)))))))))))))) (fun ls hl => ?_)
      refine lv_iload hx hb dL_law_670 (lv_at hl 10 rfl) ?_
      refine lv_if_lt (tgt := 690) hx hb dL_law_672 (by decide) (fun c75 => ?_) (fun c75 => ?_)
      · replace hf := opos c75 hf
        exact w_L_law_L690 M hfl hRf hRl hend hk2 hk69 hk310 _ _ _ _ _ _ _ _ _ _ _ _ _ hf _ _ _ _ _ hC (lv_sub hl [1, 2, 3, 4, 5, 6, 7, 8, 9, 0, 11, 12] rfl)
      · replace hf := oneg c75 hf
        refine fr_aload_n hx hb dL_law_675 rfl (lv_at hl 4 rfl) ?_
        refine lv_iload hx hb dL_law_676 (lv_at hl 12 rfl) ?_
        obtain ⟨b78, q79, hf⟩ := obind hf
        obtain ⟨⟨v80 | k81, h82⟩, g77, hf⟩ := obind hf
        rotate_left
        · exact nomatch (show (none : Option (Int32 × fSt)) = some _ from hf)
        replace hf := fci hf
        refine fr_callVX hx hb hml hts hown K hC hR ct_7 (c_X7_placeOf hfl D cA g77) 1 q79 kw302 kw299 kw300 kw301 kw23 (by decide +kernel) ⟨by omega, by omega⟩ rfl hl.1 (cat8 _ (by exact Nat.le_of_ble_eq_true rfl)) dL_law_678 rfl (fun H locs _ _ hC => ?_)
        refine fr_aload_n hx hb dL_law_681 rfl (lv_at hl 4 rfl) ?_
        refine lv_iload hx hb dL_law_682 (lv_at hl 10 rfl) ?_
        obtain ⟨b85, q86, hf⟩ := obind hf
        obtain ⟨⟨v87 | k88, h89⟩, g84, hf⟩ := obind hf
        rotate_left
        · exact nomatch (show (none : Option (Int32 × fSt)) = some _ from hf)
        replace hf := fci hf
        refine fr_callVX hx hb hml hts hown K hC hR ct_7 (c_X7_placeOf hfl D cA g84) 1 q86 kw302 kw299 kw300 kw301 kw23 (by decide +kernel) ⟨by omega, by omega⟩ rfl hl.1 (cat8 _ (by exact Nat.le_of_ble_eq_true rfl)) dL_law_684 rfl (fun H locs _ _ hC => ?_)
        refine lv_icmp_le (tgt := 695) hx hb dL_law_687 (by decide) (fun c90 => ?_) (fun c90 => ?_)
        · replace hf := opos c90 hf
          refine lv_iload hx hb dL_law_695 (lv_at hl 10 rfl) ?_
          exact w_L_law_L697 M hfl hRf hRl hend hk2 hk69 hk310 _ _ _ _ _ _ _ _ _ _ _ _ _ _ hf _ _ _ _ _ hC (lv_sub hl [1, 2, 3, 4, 5, 6, 7, 8, 9, 0, 11, 12] rfl)
        · replace hf := oneg c90 hf
          exact w_L_law_L690 M hfl hRf hRl hend hk2 hk69 hk310 _ _ _ _ _ _ _ _ _ _ _ _ _ hf _ _ _ _ _ hC (lv_sub hl [1, 2, 3, 4, 5, 6, 7, 8, 9, 0, 11, 12] rfl)
    · replace hf := opos c74 hf
      refine lv_goto (tgt := 808) hx hb dL_law_664 (by decide) ?_
      exact w_L_law_L808 M hfl hRf hRl hend hk2 hk69 hk310 _ _ _ _ _ _ _ _ _ _ _ _ _ _ hf _ _ _ _ _ hC (lv_sub hl [0, 1, 2, 3, 4, 5, 6, 7, 8, 9, 10, 11, 12] rfl)
  · replace hf := oneg c66 hf
    exact w_L_law_L647 M hfl hRf hRl hend _ hf _ _ _ _ _ hC (lv_sub hl [] rfl)
set_option maxHeartbeats 4000000 in
set_option maxRecDepth 100000 in
theorem w_L_law_L613 {p : Program} {l : Launch} {e : Env} {s : State} {m : MethodId} {args : Array Value} {below : List Frame} {meth : Method} {c : Code} {D : va_G} {cA : Nat → ClassId} {h0 : fSt} {r : (Int32 × fSt)} {Q : State → Prop} {R : Room} (M : fM p s m args meth c D cA h0 R cL_law 23 (some (.boolean)) RL) (hfl : l.stackTraces = false) (hRf : 28 ≤ R.frames) (hRl : 693 ≤ R.locals) (hend : ∀ (x : Int32) (h : fSt) (H : Heap) (locs : List Loc) (cells slots : Nat) (ls : Array Slot) (pc : Nat), (x, h) = r → fCur D cA s h0 h H locs → decode code pc = .ok (.ireturn, 1) → W p l e R s m args below meth c H locs cells slots Q (F0 m pc ls [.int x])) {k2 : Option Nat → Int32 → fSt → Option (Int32 × fSt)} (hk2 : ∀ (a0 : Option Nat) (a1 : Int32) (h : fSt), k2 a0 a1 h = some r → ∀ (H : Heap) (locs : List Loc) (cells slots : Nat) (ls : Array Slot), fCur D cA s h0 h H locs → lv_has ls 23 [(0, va_rf a0), (1, .int a1)] → W p l e R s m args below meth c H locs cells slots Q (F0 m 2 ls [])) {k69 : Option Nat → Int32 → Option Nat → Option Nat → Int32 → fSt → Option (Int32 × fSt)} (hk69 : ∀ (a0 : Option Nat) (a1 : Int32) (a2 : Option Nat) (a3 : Option Nat) (a4 : Int32) (h : fSt), k69 a0 a1 a2 a3 a4 h = some r → ∀ (H : Heap) (locs : List Loc) (cells slots : Nat) (ls : Array Slot), fCur D cA s h0 h H locs → lv_has ls 23 [(0, va_rf a0), (1, .int a1), (2, va_rf a2), (3, va_rf a3), (4, .int a4)] → W p l e R s m args below meth c H locs cells slots Q (F0 m 69 ls [])) {k310 : Option Nat → Int32 → Option Nat → Option Nat → Int32 → Int64 → Int32 → Int32 → Int32 → Int32 → Int32 → Int32 → Int32 → fSt → Option (Int32 × fSt)} (hk310 : ∀ (a0 : Option Nat) (a1 : Int32) (a2 : Option Nat) (a3 : Option Nat) (a4 : Int32) (a5 : Int64) (a9 : Int32) (a10 : Int32) (a11 : Int32) (a12 : Int32) (a13 : Int32) (a14 : Int32) (a15 : Int32) (h : fSt), k310 a0 a1 a2 a3 a4 a5 a9 a10 a11 a12 a13 a14 a15 h = some r → ∀ (H : Heap) (locs : List Loc) (cells slots : Nat) (ls : Array Slot), fCur D cA s h0 h H locs → lv_has ls 23 [(0, va_rf a0), (1, .int a1), (2, va_rf a2), (3, va_rf a3), (4, .int a4), (5, .long a5), (9, .int a9), (10, .int a10), (11, .int a11), (12, .int a12), (13, .int a13), (14, .int a14), (15, .int a15)] → W p l e R s m args below meth c H locs cells slots Q (F0 m 310 ls [])) (a0 : Option Nat) (a1 : Int32) (a2 : Option Nat) (a3 : Option Nat) (a4 : Int32) (a5 : Int64) (a9 : Int32) (a10 : Int32) (a11 : Int32) (a12 : Int32) (a13 : Int32) (a14 : Int32) (a15 : Int32) (h : fSt) (hf : f_L_law_L613 k2 k69 k310 a0 a1 a2 a3 a4 a5 a9 a10 a11 a12 a13 a14 a15 h = some r) : ∀ (H : Heap) (locs : List Loc) (cells slots : Nat) (ls : Array Slot), fCur D cA s h0 h H locs → lv_has ls 23 [(0, va_rf a0), (1, .int a1), (2, va_rf a2), (3, va_rf a3), (4, .int a4), (5, .long a5), (9, .int a9), (10, .int a10), (11, .int a11), (12, .int a12), (13, .int a13), (14, .int a14), (15, .int a15)] → W p l e R s m args below meth c H locs cells slots Q (F0 m 613 ls []) := by
  obtain ⟨hx, hb, hml, hr, hlocks, hts, hown, K, hR⟩ := id M
  intro H locs cells slots ls hC hl
  refine fr_aload_n hx hb dL_law_613 rfl (lv_at hl 3 rfl) ?_
  refine lv_iload hx hb dL_law_614 (lv_at hl 12 rfl) ?_
  obtain ⟨b93, q94, hf⟩ := obind hf
  obtain ⟨⟨v95 | k96, h97⟩, g92, hf⟩ := obind hf
  rotate_left
  · exact nomatch (show (none : Option (Int32 × fSt)) = some _ from hf)
  replace hf := fci hf
  refine fr_callVX hx hb hml hts hown K hC hR ct_7 (c_X7_level hfl D cA g92) 1 q94 kw132 kw129 kw130 kw131 kw23 (by decide +kernel) ⟨by omega, by omega⟩ rfl hl.1 (cat8 _ (by exact Nat.le_of_ble_eq_true rfl)) dL_law_616 rfl (fun H locs _ _ hC => ?_)
  refine fr_aload_n hx hb dL_law_619 rfl (lv_at hl 3 rfl) ?_
  refine lv_iconst (v := (0 : Int32)) hx hb dL_law_620 (by decide) ?_
  refine fr_aload_n hx hb dL_law_621 rfl (lv_at hl 3 rfl) ?_
  refine lv_iload hx hb dL_law_622 (lv_at hl 12 rfl) ?_
  obtain ⟨b100, q101, hf⟩ := obind hf
  obtain ⟨⟨v102 | k103, h104⟩, g99, hf⟩ := obind hf
  rotate_left
  · exact nomatch (show (none : Option (Int32 × fSt)) = some _ from hf)
  replace hf := fci hf
  refine fr_callVX hx hb hml hts hown K hC hR ct_7 (c_X7_parent hfl D cA g99) 1 q101 kw46 kw43 kw44 kw45 kw23 (by decide +kernel) ⟨by omega, by omega⟩ rfl hl.1 (cat8 _ (by exact Nat.le_of_ble_eq_true rfl)) dL_law_624 rfl (fun H locs _ _ hC => ?_)
  refine fr_mmax hx hb hml hts hown hC hR kw936 kw834 kw38 kw835 hl.1 (by omega) (catL _ _ (by exact Nat.le_of_ble_eq_true rfl) (by omega)) dL_law_627 (fun _ _ => ?_)
  obtain ⟨b107, q108, hf⟩ := obind hf
  obtain ⟨⟨v109 | k110, h111⟩, g106, hf⟩ := obind hf
  rotate_left
  · exact nomatch (show (none : Option (Int32 × fSt)) = some _ from hf)
  replace hf := fci hf
  refine fr_callVX hx hb hml hts hown K hC hR ct_7 (c_X7_level hfl D cA g106) 1 q108 kw132 kw129 kw130 kw131 kw23 (by decide +kernel) ⟨by omega, by omega⟩ rfl hl.1 (cat8 _ (by exact Nat.le_of_ble_eq_true rfl)) dL_law_630 rfl (fun H locs _ _ hC => ?_)
  refine lv_iload hx hb dL_law_633 (lv_at hl 12 rfl) ?_
  refine lv_if_ne (tgt := 642) hx hb dL_law_635 (by decide) (fun c112 => ?_) (fun c112 => ?_)
  · replace hf := oneg c112 hf
    refine lv_iconst (v := (1 : Int32)) hx hb dL_law_642 (by decide) ?_
    exact w_L_law_L643 M hfl hRf hRl hend hk2 hk69 hk310 _ _ _ _ _ _ _ _ _ _ _ _ _ _ _ _ _ hf _ _ _ _ _ hC (lv_sub hl [0, 1, 2, 3, 4, 5, 6, 7, 8, 9, 10, 11, 12] rfl)
  · replace hf := opos c112 hf
    refine lv_iconst (v := (0 : Int32)) hx hb dL_law_638 (by decide) ?_
    refine lv_goto (tgt := 643) hx hb dL_law_639 (by decide) ?_
    exact w_L_law_L643 M hfl hRf hRl hend hk2 hk69 hk310 _ _ _ _ _ _ _ _ _ _ _ _ _ _ _ _ _ hf _ _ _ _ _ hC (lv_sub hl [0, 1, 2, 3, 4, 5, 6, 7, 8, 9, 10, 11, 12] rfl)
set_option maxHeartbeats 4000000 in
set_option maxRecDepth 100000 in
theorem w_L_law_L589 {p : Program} {l : Launch} {e : Env} {s : State} {m : MethodId} {args : Array Value} {below : List Frame} {meth : Method} {c : Code} {D : va_G} {cA : Nat → ClassId} {h0 : fSt} {r : (Int32 × fSt)} {Q : State → Prop} {R : Room} (M : fM p s m args meth c D cA h0 R cL_law 23 (some (.boolean)) RL) (hfl : l.stackTraces = false) (hRf : 28 ≤ R.frames) (hRl : 693 ≤ R.locals) (hend : ∀ (x : Int32) (h : fSt) (H : Heap) (locs : List Loc) (cells slots : Nat) (ls : Array Slot) (pc : Nat), (x, h) = r → fCur D cA s h0 h H locs → decode code pc = .ok (.ireturn, 1) → W p l e R s m args below meth c H locs cells slots Q (F0 m pc ls [.int x])) {k2 : Option Nat → Int32 → fSt → Option (Int32 × fSt)} (hk2 : ∀ (a0 : Option Nat) (a1 : Int32) (h : fSt), k2 a0 a1 h = some r → ∀ (H : Heap) (locs : List Loc) (cells slots : Nat) (ls : Array Slot), fCur D cA s h0 h H locs → lv_has ls 23 [(0, va_rf a0), (1, .int a1)] → W p l e R s m args below meth c H locs cells slots Q (F0 m 2 ls [])) {k69 : Option Nat → Int32 → Option Nat → Option Nat → Int32 → fSt → Option (Int32 × fSt)} (hk69 : ∀ (a0 : Option Nat) (a1 : Int32) (a2 : Option Nat) (a3 : Option Nat) (a4 : Int32) (h : fSt), k69 a0 a1 a2 a3 a4 h = some r → ∀ (H : Heap) (locs : List Loc) (cells slots : Nat) (ls : Array Slot), fCur D cA s h0 h H locs → lv_has ls 23 [(0, va_rf a0), (1, .int a1), (2, va_rf a2), (3, va_rf a3), (4, .int a4)] → W p l e R s m args below meth c H locs cells slots Q (F0 m 69 ls [])) {k310 : Option Nat → Int32 → Option Nat → Option Nat → Int32 → Int64 → Int32 → Int32 → Int32 → Int32 → Int32 → Int32 → Int32 → fSt → Option (Int32 × fSt)} (hk310 : ∀ (a0 : Option Nat) (a1 : Int32) (a2 : Option Nat) (a3 : Option Nat) (a4 : Int32) (a5 : Int64) (a9 : Int32) (a10 : Int32) (a11 : Int32) (a12 : Int32) (a13 : Int32) (a14 : Int32) (a15 : Int32) (h : fSt), k310 a0 a1 a2 a3 a4 a5 a9 a10 a11 a12 a13 a14 a15 h = some r → ∀ (H : Heap) (locs : List Loc) (cells slots : Nat) (ls : Array Slot), fCur D cA s h0 h H locs → lv_has ls 23 [(0, va_rf a0), (1, .int a1), (2, va_rf a2), (3, va_rf a3), (4, .int a4), (5, .long a5), (9, .int a9), (10, .int a10), (11, .int a11), (12, .int a12), (13, .int a13), (14, .int a14), (15, .int a15)] → W p l e R s m args below meth c H locs cells slots Q (F0 m 310 ls [])) (a0 : Option Nat) (a1 : Int32) (a2 : Option Nat) (a3 : Option Nat) (a4 : Int32) (a5 : Int64) (a9 : Int32) (a10 : Int32) (a11 : Int32) (a12 : Int32) (a13 : Int32) (a14 : Int32) (a15 : Int32) (h : fSt) (hf : f_L_law_L589 k2 k69 k310 a0 a1 a2 a3 a4 a5 a9 a10 a11 a12 a13 a14 a15 h = some r) : ∀ (H : Heap) (locs : List Loc) (cells slots : Nat) (ls : Array Slot), fCur D cA s h0 h H locs → lv_has ls 23 [(0, va_rf a0), (1, .int a1), (2, va_rf a2), (3, va_rf a3), (4, .int a4), (5, .long a5), (9, .int a9), (10, .int a10), (11, .int a11), (12, .int a12), (13, .int a13), (14, .int a14), (15, .int a15)] → W p l e R s m args below meth c H locs cells slots Q (F0 m 589 ls []) := by
  obtain ⟨hx, hb, hml, hr, hlocks, hts, hown, K, hR⟩ := id M
  intro H locs cells slots ls hC hl
  refine fr_aload_n hx hb dL_law_589 rfl (lv_at hl 3 rfl) ?_
  refine lv_iload hx hb dL_law_590 (lv_at hl 12 rfl) ?_
  obtain ⟨b115, q116, hf⟩ := obind hf
  obtain ⟨⟨v117 | k118, h119⟩, g114, hf⟩ := obind hf
  rotate_left
  · exact nomatch (show (none : Option (Int32 × fSt)) = some _ from hf)
  replace hf := fci hf
  refine fr_callVX hx hb hml hts hown K hC hR ct_7 (c_X7_isShown hfl D cA g114) 1 q116 kw285 kw282 kw283 kw284 kw23 (by decide +kernel) ⟨by omega, by omega⟩ rfl hl.1 (cat8 _ (by exact Nat.le_of_ble_eq_true rfl)) dL_law_592 rfl (fun H locs _ _ hC => ?_)
  refine lv_if_ne (tgt := 613) hx hb dL_law_595 (by decide) (fun c120 => ?_) (fun c120 => ?_)
  · replace hf := oneg c120 hf
    exact w_L_law_L613 M hfl hRf hRl hend hk2 hk69 hk310 _ _ _ _ _ _ _ _ _ _ _ _ _ _ hf _ _ _ _ _ hC (lv_sub hl [0, 1, 2, 3, 4, 5, 6, 7, 8, 9, 10, 11, 12] rfl)
  · replace hf := opos c120 hf
    refine fr_aload_n hx hb dL_law_598 rfl (lv_at hl 3 rfl) ?_
    refine lv_iload hx hb dL_law_599 (lv_at hl 12 rfl) ?_
    refine lv_iload hx hb dL_law_601 (lv_at hl 7 rfl) ?_
    refine lv_iload hx hb dL_law_603 (lv_at hl 8 rfl) ?_
    refine lv_iload hx hb dL_law_605 (lv_at hl 6 rfl) ?_
    obtain ⟨b123, q124, hf⟩ := obind hf
    obtain ⟨⟨v125 | k126, h127⟩, g122, hf⟩ := obind hf
    rotate_left
    · exact nomatch (show (none : Option (Int32 × fSt)) = some _ from hf)
    replace hf := fci hf
    refine fr_callVX hx hb hml hts hown K hC hR ct_7 (c_X7_covers hfl D cA g122) 4 q124 kw306 kw303 kw304 kw305 kw23 (by decide +kernel) ⟨by omega, by omega⟩ rfl hl.1 (cat8 _ (by exact Nat.le_of_ble_eq_true rfl)) dL_law_607 rfl (fun H locs _ _ hC => ?_)
    refine lv_if_ne (tgt := 647) hx hb dL_law_610 (by decide) (fun c128 => ?_) (fun c128 => ?_)
    · replace hf := oneg c128 hf
      exact w_L_law_L647 M hfl hRf hRl hend _ hf _ _ _ _ _ hC (lv_sub hl [] rfl)
    · replace hf := opos c128 hf
      exact w_L_law_L613 M hfl hRf hRl hend hk2 hk69 hk310 _ _ _ _ _ _ _ _ _ _ _ _ _ _ hf _ _ _ _ _ hC (lv_sub hl [0, 1, 2, 3, 4, 5, 6, 7, 8, 9, 10, 11, 12] rfl)
set_option maxHeartbeats 4000000 in
set_option maxRecDepth 100000 in
theorem w_L_law_L466 {p : Program} {l : Launch} {e : Env} {s : State} {m : MethodId} {args : Array Value} {below : List Frame} {meth : Method} {c : Code} {D : va_G} {cA : Nat → ClassId} {h0 : fSt} {r : (Int32 × fSt)} {Q : State → Prop} {R : Room} (M : fM p s m args meth c D cA h0 R cL_law 23 (some (.boolean)) RL) (hfl : l.stackTraces = false) (hRf : 28 ≤ R.frames) (hRl : 693 ≤ R.locals) (hend : ∀ (x : Int32) (h : fSt) (H : Heap) (locs : List Loc) (cells slots : Nat) (ls : Array Slot) (pc : Nat), (x, h) = r → fCur D cA s h0 h H locs → decode code pc = .ok (.ireturn, 1) → W p l e R s m args below meth c H locs cells slots Q (F0 m pc ls [.int x])) {k2 : Option Nat → Int32 → fSt → Option (Int32 × fSt)} (hk2 : ∀ (a0 : Option Nat) (a1 : Int32) (h : fSt), k2 a0 a1 h = some r → ∀ (H : Heap) (locs : List Loc) (cells slots : Nat) (ls : Array Slot), fCur D cA s h0 h H locs → lv_has ls 23 [(0, va_rf a0), (1, .int a1)] → W p l e R s m args below meth c H locs cells slots Q (F0 m 2 ls [])) {k69 : Option Nat → Int32 → Option Nat → Option Nat → Int32 → fSt → Option (Int32 × fSt)} (hk69 : ∀ (a0 : Option Nat) (a1 : Int32) (a2 : Option Nat) (a3 : Option Nat) (a4 : Int32) (h : fSt), k69 a0 a1 a2 a3 a4 h = some r → ∀ (H : Heap) (locs : List Loc) (cells slots : Nat) (ls : Array Slot), fCur D cA s h0 h H locs → lv_has ls 23 [(0, va_rf a0), (1, .int a1), (2, va_rf a2), (3, va_rf a3), (4, .int a4)] → W p l e R s m args below meth c H locs cells slots Q (F0 m 69 ls [])) {k310 : Option Nat → Int32 → Option Nat → Option Nat → Int32 → Int64 → Int32 → Int32 → Int32 → Int32 → Int32 → Int32 → Int32 → fSt → Option (Int32 × fSt)} (hk310 : ∀ (a0 : Option Nat) (a1 : Int32) (a2 : Option Nat) (a3 : Option Nat) (a4 : Int32) (a5 : Int64) (a9 : Int32) (a10 : Int32) (a11 : Int32) (a12 : Int32) (a13 : Int32) (a14 : Int32) (a15 : Int32) (h : fSt), k310 a0 a1 a2 a3 a4 a5 a9 a10 a11 a12 a13 a14 a15 h = some r → ∀ (H : Heap) (locs : List Loc) (cells slots : Nat) (ls : Array Slot), fCur D cA s h0 h H locs → lv_has ls 23 [(0, va_rf a0), (1, .int a1), (2, va_rf a2), (3, va_rf a3), (4, .int a4), (5, .long a5), (9, .int a9), (10, .int a10), (11, .int a11), (12, .int a12), (13, .int a13), (14, .int a14), (15, .int a15)] → W p l e R s m args below meth c H locs cells slots Q (F0 m 310 ls [])) : ∀ (n : Nat) (a0 : Option Nat) (a1 : Int32) (a2 : Option Nat) (a3 : Option Nat) (a4 : Int32) (a5 : Int64) (a9 : Int32) (a10 : Int32) (a11 : Int32) (a12 : Int32) (a13 : Int32) (a14 : Int32) (a15 : Int32) (a16 : Int32) (a18 : Int32) (h : fSt), f_L_law_L466 k2 k69 k310 n a0 a1 a2 a3 a4 a5 a9 a10 a11 a12 a13 a14 a15 a16 a18 h = some r → ∀ (H : Heap) (locs : List Loc) (cells slots : Nat) (ls : Array Slot), fCur D cA s h0 h H locs → lv_has ls 23 [(0, va_rf a0), (1, .int a1), (2, va_rf a2), (3, va_rf a3), (4, .int a4), (5, .long a5), (9, .int a9), (10, .int a10), (11, .int a11), (12, .int a12), (13, .int a13), (14, .int a14), (15, .int a15), (16, .int a16), (18, .int a18)] → W p l e R s m args below meth c H locs cells slots Q (F0 m 466 ls []) := by
  obtain ⟨hx, hb, hml, hr, hlocks, hts, hown, K, hR⟩ := id M
  intro n
  induction n with
  | zero =>
    intro a0 a1 a2 a3 a4 a5 a9 a10 a11 a12 a13 a14 a15 a16 a18 h hf
    exact nomatch (show (none : Option (Int32 × fSt)) = some r from hf)
  | succ n hk466 =>
    intro a0 a1 a2 a3 a4 a5 a9 a10 a11 a12 a13 a14 a15 a16 a18 h hf H locs cells slots ls hC hl
    refine lv_iload hx hb dL_law_466 (lv_at hl 14 rfl) ?_
    refine lv_iconst (v := (4 : Int32)) hx hb dL_law_468 (by decide) ?_
    refine lv_icmp_ge (tgt := 569) hx hb dL_law_469 (by decide) (fun c129 => ?_) (fun c129 => ?_)
    · replace hf := opos c129 hf
      refine fr_aload_n hx hb dL_law_569 rfl (lv_at hl 3 rfl) ?_
      refine lv_iload hx hb dL_law_570 (lv_at hl 12 rfl) ?_
      obtain ⟨b132, q133, hf⟩ := obind hf
      obtain ⟨⟨v134 | k135, h136⟩, g131, hf⟩ := obind hf
      rotate_left
      · exact nomatch (show (none : Option (Int32 × fSt)) = some _ from hf)
      replace hf := fci hf
      refine fr_callVX hx hb hml hts hown K hC hR ct_7 (c_X7_isShown hfl D cA g131) 1 q133 kw285 kw282 kw283 kw284 kw23 (by decide +kernel) ⟨by omega, by omega⟩ rfl hl.1 (cat8 _ (by exact Nat.le_of_ble_eq_true rfl)) dL_law_572 rfl (fun H locs _ _ hC => ?_)
      refine lv_if_eq (tgt := 589) hx hb dL_law_575 (by decide) (fun c137 => ?_) (fun c137 => ?_)
      · replace hf := opos c137 hf
        exact w_L_law_L589 M hfl hRf hRl hend hk2 hk69 hk310 _ _ _ _ _ _ _ _ _ _ _ _ _ _ hf _ _ _ _ _ hC (lv_sub hl [0, 1, 2, 3, 4, 5, 6, 7, 8, 9, 10, 11, 12] rfl)
      · replace hf := oneg c137 hf
        refine fr_aload_n hx hb dL_law_578 rfl (lv_at hl 3 rfl) ?_
        refine lv_iload hx hb dL_law_579 (lv_at hl 12 rfl) ?_
        obtain ⟨b140, q141, hf⟩ := obind hf
        obtain ⟨⟨v142 | k143, h144⟩, g139, hf⟩ := obind hf
        rotate_left
        · exact nomatch (show (none : Option (Int32 × fSt)) = some _ from hf)
        replace hf := fci hf
        refine fr_callVX hx hb hml hts hown K hC hR ct_7 (c_X7_strength hfl D cA g139) 1 q141 kw289 kw286 kw287 kw288 kw23 (by decide +kernel) ⟨by omega, by omega⟩ rfl hl.1 (cat8 _ (by exact Nat.le_of_ble_eq_true rfl)) dL_law_581 rfl (fun H locs _ _ hC => ?_)
        refine lv_bipush (v := (100 : Int32)) hx hb dL_law_584 (by decide) ?_
        refine lv_icmp_gt (tgt := 647) hx hb dL_law_586 (by decide) (fun c145 => ?_) (fun c145 => ?_)
        · replace hf := opos c145 hf
          exact w_L_law_L647 M hfl hRf hRl hend _ hf _ _ _ _ _ hC (lv_sub hl [] rfl)
        · replace hf := oneg c145 hf
          exact w_L_law_L589 M hfl hRf hRl hend hk2 hk69 hk310 _ _ _ _ _ _ _ _ _ _ _ _ _ _ hf _ _ _ _ _ hC (lv_sub hl [0, 1, 2, 3, 4, 5, 6, 7, 8, 9, 10, 11, 12] rfl)
    · replace hf := oneg c129 hf
      refine fr_aload_n hx hb dL_law_472 rfl (lv_at hl 3 rfl) ?_
      refine lv_iload hx hb dL_law_473 (lv_at hl 12 rfl) ?_
      refine lv_iload hx hb dL_law_475 (lv_at hl 12 rfl) ?_
      refine lv_iconst (v := (5 : Int32)) hx hb dL_law_477 (by decide) ?_
      refine lv_bipush (v := (6 : Int32)) hx hb dL_law_478 (by decide) ?_
      refine lv_iload hx hb dL_law_480 (lv_at hl 14 rfl) ?_
      obtain ⟨b148, q149, hf⟩ := obind hf
      obtain ⟨⟨v150 | k151, h152⟩, g147, hf⟩ := obind hf
      rotate_left
      · exact nomatch (show (none : Option (Int32 × fSt)) = some _ from hf)
      replace hf := fci hf
      refine fr_callVX hx hb hml hts hown K hC hR ct_7 (c_X7_between hfl D cA g147) 5 q149 kw241 kw238 kw239 kw240 kw23 (by decide +kernel) ⟨by omega, by omega⟩ rfl hl.1 (cat8 _ (by exact Nat.le_of_ble_eq_true rfl)) dL_law_482 rfl (fun H locs _ _ hC => ?_)
      refine lv_iload hx hb dL_law_485 (lv_at hl 14 rfl) ?_
      refine lv_if_ne (tgt := 494) hx hb dL_law_487 (by decide) (fun c153 => ?_) (fun c153 => ?_)
      · replace hf := oneg c153 hf
        refine lv_iload hx hb dL_law_494 (lv_at hl 14 rfl) ?_
        refine lv_iconst (v := (2 : Int32)) hx hb dL_law_496 (by decide) ?_
        refine lv_icmp_ne (tgt := 505) hx hb dL_law_497 (by decide) (fun c154 => ?_) (fun c154 => ?_)
        · replace hf := oneg c154 hf
          refine lv_iconst (v := (1 : Int32)) hx hb dL_law_505 (by decide) ?_
          exact w_L_law_L506 M hfl hRf hRl hend hk2 hk69 hk310 hk466 _ _ _ _ _ _ _ _ _ _ _ _ _ _ _ _ _ _ hf _ _ _ _ _ hC (lv_sub hl [0, 1, 2, 3, 4, 5, 6, 7, 8, 9, 10, 11, 12, 13, 14] rfl)
        · replace hf := opos c154 hf
          refine lv_bipush (v := (6 : Int32)) hx hb dL_law_500 (by decide) ?_
          refine lv_goto (tgt := 506) hx hb dL_law_502 (by decide) ?_
          exact w_L_law_L506 M hfl hRf hRl hend hk2 hk69 hk310 hk466 _ _ _ _ _ _ _ _ _ _ _ _ _ _ _ _ _ _ hf _ _ _ _ _ hC (lv_sub hl [0, 1, 2, 3, 4, 5, 6, 7, 8, 9, 10, 11, 12, 13, 14] rfl)
      · replace hf := opos c153 hf
        refine lv_iconst (v := (5 : Int32)) hx hb dL_law_490 (by decide) ?_
        refine lv_goto (tgt := 506) hx hb dL_law_491 (by decide) ?_
        exact w_L_law_L506 M hfl hRf hRl hend hk2 hk69 hk310 hk466 _ _ _ _ _ _ _ _ _ _ _ _ _ _ _ _ _ _ hf _ _ _ _ _ hC (lv_sub hl [0, 1, 2, 3, 4, 5, 6, 7, 8, 9, 10, 11, 12, 13, 14] rfl)
set_option maxHeartbeats 4000000 in
set_option maxRecDepth 100000 in
theorem w_L_law_L463 {p : Program} {l : Launch} {e : Env} {s : State} {m : MethodId} {args : Array Value} {below : List Frame} {meth : Method} {c : Code} {D : va_G} {cA : Nat → ClassId} {h0 : fSt} {r : (Int32 × fSt)} {Q : State → Prop} {R : Room} (M : fM p s m args meth c D cA h0 R cL_law 23 (some (.boolean)) RL) (hfl : l.stackTraces = false) (hRf : 28 ≤ R.frames) (hRl : 693 ≤ R.locals) (hend : ∀ (x : Int32) (h : fSt) (H : Heap) (locs : List Loc) (cells slots : Nat) (ls : Array Slot) (pc : Nat), (x, h) = r → fCur D cA s h0 h H locs → decode code pc = .ok (.ireturn, 1) → W p l e R s m args below meth c H locs cells slots Q (F0 m pc ls [.int x])) {k2 : Option Nat → Int32 → fSt → Option (Int32 × fSt)} (hk2 : ∀ (a0 : Option Nat) (a1 : Int32) (h : fSt), k2 a0 a1 h = some r → ∀ (H : Heap) (locs : List Loc) (cells slots : Nat) (ls : Array Slot), fCur D cA s h0 h H locs → lv_has ls 23 [(0, va_rf a0), (1, .int a1)] → W p l e R s m args below meth c H locs cells slots Q (F0 m 2 ls [])) {k69 : Option Nat → Int32 → Option Nat → Option Nat → Int32 → fSt → Option (Int32 × fSt)} (hk69 : ∀ (a0 : Option Nat) (a1 : Int32) (a2 : Option Nat) (a3 : Option Nat) (a4 : Int32) (h : fSt), k69 a0 a1 a2 a3 a4 h = some r → ∀ (H : Heap) (locs : List Loc) (cells slots : Nat) (ls : Array Slot), fCur D cA s h0 h H locs → lv_has ls 23 [(0, va_rf a0), (1, .int a1), (2, va_rf a2), (3, va_rf a3), (4, .int a4)] → W p l e R s m args below meth c H locs cells slots Q (F0 m 69 ls [])) {k310 : Option Nat → Int32 → Option Nat → Option Nat → Int32 → Int64 → Int32 → Int32 → Int32 → Int32 → Int32 → Int32 → Int32 → fSt → Option (Int32 × fSt)} (hk310 : ∀ (a0 : Option Nat) (a1 : Int32) (a2 : Option Nat) (a3 : Option Nat) (a4 : Int32) (a5 : Int64) (a9 : Int32) (a10 : Int32) (a11 : Int32) (a12 : Int32) (a13 : Int32) (a14 : Int32) (a15 : Int32) (h : fSt), k310 a0 a1 a2 a3 a4 a5 a9 a10 a11 a12 a13 a14 a15 h = some r → ∀ (H : Heap) (locs : List Loc) (cells slots : Nat) (ls : Array Slot), fCur D cA s h0 h H locs → lv_has ls 23 [(0, va_rf a0), (1, .int a1), (2, va_rf a2), (3, va_rf a3), (4, .int a4), (5, .long a5), (9, .int a9), (10, .int a10), (11, .int a11), (12, .int a12), (13, .int a13), (14, .int a14), (15, .int a15)] → W p l e R s m args below meth c H locs cells slots Q (F0 m 310 ls [])) (a0 : Option Nat) (a1 : Int32) (a2 : Option Nat) (a3 : Option Nat) (a4 : Int32) (a5 : Int64) (a9 : Int32) (a10 : Int32) (a11 : Int32) (a12 : Int32) (a13 : Int32) (a14 : Int32) (a15 : Int32) (a16 : Int32) (h : fSt) (hf : f_L_law_L463 k2 k69 k310 a0 a1 a2 a3 a4 a5 a9 a10 a11 a12 a13 a14 a15 a16 h = some r) : ∀ (H : Heap) (locs : List Loc) (cells slots : Nat) (ls : Array Slot), fCur D cA s h0 h H locs → lv_has ls 23 [(0, va_rf a0), (1, .int a1), (2, va_rf a2), (3, va_rf a3), (4, .int a4), (5, .long a5), (9, .int a9), (10, .int a10), (11, .int a11), (12, .int a12), (13, .int a13), (14, .int a14), (15, .int a15), (16, .int a16)] → W p l e R s m args below meth c H locs cells slots Q (F0 m 463 ls []) := by
  obtain ⟨hx, hb, hml, hr, hlocks, hts, hown, K, hR⟩ := id M
  intro H locs cells slots ls hC hl
  refine lv_iconst (v := (0 : Int32)) hx hb dL_law_463 (by decide) ?_
  refine lv_istore (lv' := [(18, .int (0 : Int32)), (0, va_rf a0), (1, .int a1), (2, va_rf a2), (3, va_rf a3), (4, .int a4), (5, .long a5), (9, .int a9), (10, .int a10), (11, .int a11), (12, .int a12), (13, .int a13), (14, .int a14), (15, .int a15), (16, .int a16)]) hx hb dL_law_464 hl (by decide) (congrArg (List.cons _) (flk rfl (flk rfl (flk rfl (flk rfl (flk rfl (flk rfl (flk rfl (flk rfl (flk rfl (flk rfl (flk rfl (flk rfl (flk rfl (flk rfl fln))))))))))))))) (fun ls hl => ?_)
  exact w_L_law_L466 M hfl hRf hRl hend hk2 hk69 hk310 4096 _ _ _ _ _ _ _ _ _ _ _ _ _ _ _ _ hf _ _ _ _ _ hC (lv_sub hl [1, 2, 3, 4, 5, 6, 7, 8, 9, 10, 11, 12, 13, 14, 0] rfl)
set_option maxHeartbeats 4000000 in
set_option maxRecDepth 100000 in
theorem w_L_law_L884 {p : Program} {l : Launch} {e : Env} {s : State} {m : MethodId} {args : Array Value} {below : List Frame} {meth : Method} {c : Code} {D : va_G} {cA : Nat → ClassId} {h0 : fSt} {r : (Int32 × fSt)} {Q : State → Prop} {R : Room} (M : fM p s m args meth c D cA h0 R cL_law 23 (some (.boolean)) RL) (hfl : l.stackTraces = false) (hRf : 28 ≤ R.frames) (hRl : 693 ≤ R.locals) (hend : ∀ (x : Int32) (h : fSt) (H : Heap) (locs : List Loc) (cells slots : Nat) (ls : Array Slot) (pc : Nat), (x, h) = r → fCur D cA s h0 h H locs → decode code pc = .ok (.ireturn, 1) → W p l e R s m args below meth c H locs cells slots Q (F0 m pc ls [.int x]))  (h : fSt) (hf : f_L_law_L884  h = some r) : ∀ (H : Heap) (locs : List Loc) (cells slots : Nat) (ls : Array Slot), fCur D cA s h0 h H locs → lv_has ls 23 [] → W p l e R s m args below meth c H locs cells slots Q (F0 m 884 ls []) := by
  obtain ⟨hx, hb, hml, hr, hlocks, hts, hown, K, hR⟩ := id M
  intro H locs cells slots ls hC hl
  refine lv_iconst (v := (0 : Int32)) hx hb dL_law_884 (by decide) ?_
  exact hend _ _ _ _ _ _ _ _ (Option.some.inj hf) hC dL_law_885
set_option maxHeartbeats 4000000 in
set_option maxRecDepth 100000 in
theorem w_L_law_L954 {p : Program} {l : Launch} {e : Env} {s : State} {m : MethodId} {args : Array Value} {below : List Frame} {meth : Method} {c : Code} {D : va_G} {cA : Nat → ClassId} {h0 : fSt} {r : (Int32 × fSt)} {Q : State → Prop} {R : Room} (M : fM p s m args meth c D cA h0 R cL_law 23 (some (.boolean)) RL) (hfl : l.stackTraces = false) (hRf : 28 ≤ R.frames) (hRl : 693 ≤ R.locals) (hend : ∀ (x : Int32) (h : fSt) (H : Heap) (locs : List Loc) (cells slots : Nat) (ls : Array Slot) (pc : Nat), (x, h) = r → fCur D cA s h0 h H locs → decode code pc = .ok (.ireturn, 1) → W p l e R s m args below meth c H locs cells slots Q (F0 m pc ls [.int x]))  (h : fSt) (hf : f_L_law_L954  h = some r) : ∀ (H : Heap) (locs : List Loc) (cells slots : Nat) (ls : Array Slot), fCur D cA s h0 h H locs → lv_has ls 23 [] → W p l e R s m args below meth c H locs cells slots Q (F0 m 954 ls []) := by
  obtain ⟨hx, hb, hml, hr, hlocks, hts, hown, K, hR⟩ := id M
  intro H locs cells slots ls hC hl
  refine lv_iconst (v := (0 : Int32)) hx hb dL_law_954 (by decide) ?_
  exact hend _ _ _ _ _ _ _ _ (Option.some.inj hf) hC dL_law_955
set_option maxHeartbeats 4000000 in
set_option maxRecDepth 100000 in
theorem w_L_law_L1037 {p : Program} {l : Launch} {e : Env} {s : State} {m : MethodId} {args : Array Value} {below : List Frame} {meth : Method} {c : Code} {D : va_G} {cA : Nat → ClassId} {h0 : fSt} {r : (Int32 × fSt)} {Q : State → Prop} {R : Room} (M : fM p s m args meth c D cA h0 R cL_law 23 (some (.boolean)) RL) (hfl : l.stackTraces = false) (hRf : 28 ≤ R.frames) (hRl : 693 ≤ R.locals) (hend : ∀ (x : Int32) (h : fSt) (H : Heap) (locs : List Loc) (cells slots : Nat) (ls : Array Slot) (pc : Nat), (x, h) = r → fCur D cA s h0 h H locs → decode code pc = .ok (.ireturn, 1) → W p l e R s m args below meth c H locs cells slots Q (F0 m pc ls [.int x]))  (h : fSt) (hf : f_L_law_L1037  h = some r) : ∀ (H : Heap) (locs : List Loc) (cells slots : Nat) (ls : Array Slot), fCur D cA s h0 h H locs → lv_has ls 23 [] → W p l e R s m args below meth c H locs cells slots Q (F0 m 1037 ls []) := by
  obtain ⟨hx, hb, hml, hr, hlocks, hts, hown, K, hR⟩ := id M
  intro H locs cells slots ls hC hl
  refine lv_iconst (v := (0 : Int32)) hx hb dL_law_1037 (by decide) ?_
  exact hend _ _ _ _ _ _ _ _ (Option.some.inj hf) hC dL_law_1038
set_option maxHeartbeats 4000000 in
set_option maxRecDepth 100000 in
theorem w_L_law_L1039 {p : Program} {l : Launch} {e : Env} {s : State} {m : MethodId} {args : Array Value} {below : List Frame} {meth : Method} {c : Code} {D : va_G} {cA : Nat → ClassId} {h0 : fSt} {r : (Int32 × fSt)} {Q : State → Prop} {R : Room} (M : fM p s m args meth c D cA h0 R cL_law 23 (some (.boolean)) RL) (hfl : l.stackTraces = false) (hRf : 28 ≤ R.frames) (hRl : 693 ≤ R.locals) (hend : ∀ (x : Int32) (h : fSt) (H : Heap) (locs : List Loc) (cells slots : Nat) (ls : Array Slot) (pc : Nat), (x, h) = r → fCur D cA s h0 h H locs → decode code pc = .ok (.ireturn, 1) → W p l e R s m args below meth c H locs cells slots Q (F0 m pc ls [.int x])) {k2 : Option Nat → Int32 → fSt → Option (Int32 × fSt)} (hk2 : ∀ (a0 : Option Nat) (a1 : Int32) (h : fSt), k2 a0 a1 h = some r → ∀ (H : Heap) (locs : List Loc) (cells slots : Nat) (ls : Array Slot), fCur D cA s h0 h H locs → lv_has ls 23 [(0, va_rf a0), (1, .int a1)] → W p l e R s m args below meth c H locs cells slots Q (F0 m 2 ls [])) {k69 : Option Nat → Int32 → Option Nat → Option Nat → Int32 → fSt → Option (Int32 × fSt)} (hk69 : ∀ (a0 : Option Nat) (a1 : Int32) (a2 : Option Nat) (a3 : Option Nat) (a4 : Int32) (h : fSt), k69 a0 a1 a2 a3 a4 h = some r → ∀ (H : Heap) (locs : List Loc) (cells slots : Nat) (ls : Array Slot), fCur D cA s h0 h H locs → lv_has ls 23 [(0, va_rf a0), (1, .int a1), (2, va_rf a2), (3, va_rf a3), (4, .int a4)] → W p l e R s m args below meth c H locs cells slots Q (F0 m 69 ls [])) (a0 : Option Nat) (a1 : Int32) (a2 : Option Nat) (a3 : Option Nat) (a4 : Int32) (a5 : Int64) (h : fSt) (hf : f_L_law_L1039 k2 k69 a0 a1 a2 a3 a4 a5 h = some r) : ∀ (H : Heap) (locs : List Loc) (cells slots : Nat) (ls : Array Slot), fCur D cA s h0 h H locs → lv_has ls 23 [(0, va_rf a0), (1, .int a1), (2, va_rf a2), (3, va_rf a3), (4, .int a4), (5, .long a5)] → W p l e R s m args below meth c H locs cells slots Q (F0 m 1039 ls []) := by
  obtain ⟨hx, hb, hml, hr, hlocks, hts, hown, K, hR⟩ := id M
  intro H locs cells slots ls hC hl
  refine fr_aload_n hx hb dL_law_1039 rfl (lv_at hl 3 rfl) ?_
  obtain ⟨b157, q158, hf⟩ := obind hf
  obtain ⟨r155, g156, hf⟩ := obind hf
  refine fr_callV hx hb hml hts hown K hC hR ct_7 (c_X7_digest hfl D cA g156) 0 q158 kw374 kw371 kw372 kw373 kw23 (by decide +kernel) ⟨by omega, by omega⟩ rfl hl.1 (cat8 _ (by exact Nat.le_of_ble_eq_true rfl)) dL_law_1040 rfl (fun H locs _ _ hC => ?_)
  refine lv_lload hx hb dL_law_1043 (lv_at hl 5 rfl) ?_
  refine fr_lcmp_eq (tgt := 1051) hx hb dL_law_1045 dL_law_1046 (by decide) (fun c159 => ?_) (fun c159 => ?_)
  · replace hf := opos c159 hf
    refine lv_iinc (v := (a4 + (1 : Int32))) (lv' := [(4, .int (a4 + (1 : Int32))), (0, va_rf a0), (1, .int a1), (2, va_rf a2), (3, va_rf a3), (5, .long a5)]) hx hb dL_law_1051 hl (k := 4) rfl rfl (by decide) (congrArg (List.cons _) (flk rfl (flk rfl (flk rfl (flk (adj1 _ _) (fld rfl (flk rfl fln))))))) (fun ls hl => ?_)
    refine lv_goto (tgt := 69) hx hb dL_law_1054 (by decide) ?_
    exact hk69 _ _ _ _ _ _ hf _ _ _ _ _ hC (lv_sub hl [1, 2, 3, 4, 0] rfl)
  · replace hf := oneg c159 hf
    refine lv_iconst (v := (0 : Int32)) hx hb dL_law_1049 (by decide) ?_
    exact hend _ _ _ _ _ _ _ _ (Option.some.inj hf) hC dL_law_1050
set_option maxHeartbeats 4000000 in
set_option maxRecDepth 100000 in
theorem w_L_law_L939 {p : Program} {l : Launch} {e : Env} {s : State} {m : MethodId} {args : Array Value} {below : List Frame} {meth : Method} {c : Code} {D : va_G} {cA : Nat → ClassId} {h0 : fSt} {r : (Int32 × fSt)} {Q : State → Prop} {R : Room} (M : fM p s m args meth c D cA h0 R cL_law 23 (some (.boolean)) RL) (hfl : l.stackTraces = false) (hRf : 28 ≤ R.frames) (hRl : 693 ≤ R.locals) (hend : ∀ (x : Int32) (h : fSt) (H : Heap) (locs : List Loc) (cells slots : Nat) (ls : Array Slot) (pc : Nat), (x, h) = r → fCur D cA s h0 h H locs → decode code pc = .ok (.ireturn, 1) → W p l e R s m args below meth c H locs cells slots Q (F0 m pc ls [.int x])) {k2 : Option Nat → Int32 → fSt → Option (Int32 × fSt)} (hk2 : ∀ (a0 : Option Nat) (a1 : Int32) (h : fSt), k2 a0 a1 h = some r → ∀ (H : Heap) (locs : List Loc) (cells slots : Nat) (ls : Array Slot), fCur D cA s h0 h H locs → lv_has ls 23 [(0, va_rf a0), (1, .int a1)] → W p l e R s m args below meth c H locs cells slots Q (F0 m 2 ls [])) {k69 : Option Nat → Int32 → Option Nat → Option Nat → Int32 → fSt → Option (Int32 × fSt)} (hk69 : ∀ (a0 : Option Nat) (a1 : Int32) (a2 : Option Nat) (a3 : Option Nat) (a4 : Int32) (h : fSt), k69 a0 a1 a2 a3 a4 h = some r → ∀ (H : Heap) (locs : List Loc) (cells slots : Nat) (ls : Array Slot), fCur D cA s h0 h H locs → lv_has ls 23 [(0, va_rf a0), (1, .int a1), (2, va_rf a2), (3, va_rf a3), (4, .int a4)] → W p l e R s m args below meth c H locs cells slots Q (F0 m 69 ls [])) (a0 : Option Nat) (a1 : Int32) (a2 : Option Nat) (a3 : Option Nat) (a4 : Int32) (a5 : Int64) (a9 : Int32) (a10 : Int32) (a11 : Int32) (a13 : Int32) (h : fSt) (hf : f_L_law_L939 k2 k69 a0 a1 a2 a3 a4 a5 a9 a10 a11 a13 h = some r) : ∀ (H : Heap) (locs : List Loc) (cells slots : Nat) (ls : Array Slot), fCur D cA s h0 h H locs → lv_has ls 23 [(0, va_rf a0), (1, .int a1), (2, va_rf a2), (3, va_rf a3), (4, .int a4), (5, .long a5), (9, .int a9), (10, .int a10), (11, .int a11), (13, .int a13)] → W p l e R s m args below meth c H locs cells slots Q (F0 m 939 ls []) := by
  obtain ⟨hx, hb, hml, hr, hlocks, hts, hown, K, hR⟩ := id M
  intro H locs cells slots ls hC hl
  refine fr_aload_n hx hb dL_law_939 rfl (lv_at hl 3 rfl) ?_
  refine lv_iconst (v := (0 : Int32)) hx hb dL_law_940 (by decide) ?_
  refine lv_iload hx hb dL_law_941 (lv_at hl 7 rfl) ?_
  refine lv_iload hx hb dL_law_943 (lv_at hl 8 rfl) ?_
  refine lv_iload hx hb dL_law_945 (lv_at hl 6 rfl) ?_
  obtain ⟨b162, q163, hf⟩ := obind hf
  obtain ⟨⟨v164 | k165, h166⟩, g161, hf⟩ := obind hf
  rotate_left
  · exact nomatch (show (none : Option (Int32 × fSt)) = some _ from hf)
  replace hf := fci hf
  refine fr_callVX hx hb hml hts hown K hC hR ct_7 (c_X7_pickWithout hfl D cA g161) 4 q163 kw357 kw354 kw355 kw356 kw23 (by decide +kernel) ⟨by omega, by omega⟩ rfl hl.1 (cat8 _ (by exact Nat.le_of_ble_eq_true rfl)) dL_law_947 rfl (fun H locs _ _ hC => ?_)
  refine lv_iconst (v := (-1 : Int32)) hx hb dL_law_950 (by decide) ?_
  refine lv_icmp_eq (tgt := 956) hx hb dL_law_951 (by decide) (fun c167 => ?_) (fun c167 => ?_)
  · replace hf := opos c167 hf
    refine fr_aload_n hx hb dL_law_956 rfl (lv_at hl 3 rfl) ?_
    refine lv_iload hx hb dL_law_957 (lv_at hl 7 rfl) ?_
    refine lv_iload hx hb dL_law_959 (lv_at hl 8 rfl) ?_
    refine lv_iload hx hb dL_law_961 (lv_at hl 6 rfl) ?_
    refine lv_bipush (v := (20 : Int32)) hx hb dL_law_963 (by decide) ?_
    obtain ⟨b170, q171, hf⟩ := obind hf
    obtain ⟨⟨v172 | k173, h174⟩, g169, hf⟩ := obind hf
    rotate_left
    · exact nomatch (show (none : Option (Int32 × fSt)) = some _ from hf)
    replace hf := fci hf
    refine fr_callVX hx hb hml hts hown K hC hR ct_7 (c_X7_nextPick hfl D cA g169) 4 q171 kw361 kw358 kw359 kw360 kw23 (by decide +kernel) ⟨by omega, by omega⟩ rfl hl.1 (cat8 _ (by exact Nat.le_of_ble_eq_true rfl)) dL_law_965 rfl (fun H locs _ _ hC => ?_)
    refine lv_istore (lv' := [(17, .int v172), (0, va_rf a0), (1, .int a1), (2, va_rf a2), (3, va_rf a3), (4, .int a4), (5, .long a5), (9, .int a9), (10, .int a10), (11, .int a11), (13, .int a13)]) hx hb dL_law_968 hl (by decide) (congrArg (List.cons _) (flk rfl (flk rfl (flk rfl (flk rfl (flk rfl (flk rfl (flk rfl (flk rfl (flk rfl (flk rfl fln))))))))))) (fun ls hl => ?_)
    refine lv_iload hx hb dL_law_970 (lv_at hl 0 rfl) ?_
    refine lv_if_lt (tgt := 1039) hx hb dL_law_972 (by decide) (fun c175 => ?_) (fun c175 => ?_)
    · replace hf := opos c175 hf
      exact w_L_law_L1039 M hfl hRf hRl hend hk2 hk69 _ _ _ _ _ _ _ hf _ _ _ _ _ hC (lv_sub hl [1, 2, 3, 4, 5, 6] rfl)
    · replace hf := oneg c175 hf
      refine lv_iload hx hb dL_law_975 (lv_at hl 0 rfl) ?_
      refine fr_aload_n hx hb dL_law_977 rfl (lv_at hl 3 rfl) ?_
      obtain ⟨x176, g177, hf⟩ := obind hf
      refine fr_get hx hb hts hown K hC ct_8 (fgI_get g177) (by decide) kw671 rfl dL_law_978 ?_
      refine lv_icmp_le (tgt := 1037) hx hb dL_law_981 (by decide) (fun c178 => ?_) (fun c178 => ?_)
      · replace hf := opos c178 hf
        exact w_L_law_L1037 M hfl hRf hRl hend _ hf _ _ _ _ _ hC (lv_sub hl [] rfl)
      · replace hf := oneg c178 hf
        refine lv_iload hx hb dL_law_984 (lv_at hl 0 rfl) ?_
        refine fr_aload_n hx hb dL_law_986 rfl (lv_at hl 3 rfl) ?_
        obtain ⟨x179, g180, hf⟩ := obind hf
        refine fr_get hx hb hts hown K hC ct_8 (fgI_get g180) (by decide) kw671 rfl dL_law_987 ?_
        refine lv_bipush (v := (20 : Int32)) hx hb dL_law_990 (by decide) ?_
        refine lv_iadd hx hb dL_law_992 ?_
        refine lv_icmp_gt (tgt := 1037) hx hb dL_law_993 (by decide) (fun c181 => ?_) (fun c181 => ?_)
        · replace hf := opos c181 hf
          exact w_L_law_L1037 M hfl hRf hRl hend _ hf _ _ _ _ _ hC (lv_sub hl [] rfl)
        · replace hf := oneg c181 hf
          refine fr_aload_n hx hb dL_law_996 rfl (lv_at hl 4 rfl) ?_
          refine lv_iload hx hb dL_law_997 (lv_at hl 0 rfl) ?_
          obtain ⟨b184, q185, hf⟩ := obind hf
          obtain ⟨⟨v186 | k187, h188⟩, g183, hf⟩ := obind hf
          rotate_left
          · exact nomatch (show (none : Option (Int32 × fSt)) = some _ from hf)
          replace hf := fci hf
          refine fr_callVX hx hb hml hts hown K hC hR ct_7 (c_X7_setTime hfl D cA g183) 1 q185 kw148 kw145 kw146 kw147 kw23 (by decide +kernel) ⟨by omega, by omega⟩ rfl hl.1 (cat8 _ (by exact Nat.le_of_ble_eq_true rfl)) dL_law_999 rfl (fun H locs _ _ hC => ?_)
          refine fr_aload_n hx hb dL_law_1002 rfl (lv_at hl 3 rfl) ?_
          obtain ⟨x189, g190, hf⟩ := obind hf
          refine fr_get hx hb hts hown K hC ct_8 (fgI_get g190) (by decide) kw671 rfl dL_law_1003 ?_
          refine lv_icmp_ne (tgt := 1037) hx hb dL_law_1006 (by decide) (fun c191 => ?_) (fun c191 => ?_)
          · replace hf := oneg c191 hf
            exact w_L_law_L1037 M hfl hRf hRl hend _ hf _ _ _ _ _ hC (lv_sub hl [] rfl)
          · replace hf := opos c191 hf
            refine fr_aload_n hx hb dL_law_1009 rfl (lv_at hl 4 rfl) ?_
            refine lv_iload hx hb dL_law_1010 (lv_at hl 8 rfl) ?_
            refine lv_iload hx hb dL_law_1012 (lv_at hl 9 rfl) ?_
            refine lv_iload hx hb dL_law_1014 (lv_at hl 7 rfl) ?_
            obtain ⟨b194, q195, hf⟩ := obind hf
            obtain ⟨⟨v196 | k197, h198⟩, g193, hf⟩ := obind hf
            rotate_left
            · exact nomatch (show (none : Option (Int32 × fSt)) = some _ from hf)
            replace hf := fci hf
            refine fr_callVX hx hb hml hts hown K hC hR ct_7 (c_X7_pick hfl D cA g193) 3 q195 kw328 kw325 kw326 kw327 kw23 (by decide +kernel) ⟨by omega, by omega⟩ rfl hl.1 (cat8 _ (by exact Nat.le_of_ble_eq_true rfl)) dL_law_1016 rfl (fun H locs _ _ hC => ?_)
            refine lv_iload hx hb dL_law_1019 (lv_at hl 10 rfl) ?_
            refine lv_icmp_eq (tgt := 1037) hx hb dL_law_1021 (by decide) (fun c199 => ?_) (fun c199 => ?_)
            · replace hf := opos c199 hf
              exact w_L_law_L1037 M hfl hRf hRl hend _ hf _ _ _ _ _ hC (lv_sub hl [] rfl)
            · replace hf := oneg c199 hf
              refine fr_aload_n hx hb dL_law_1024 rfl (lv_at hl 4 rfl) ?_
              refine fr_aload_n hx hb dL_law_1025 rfl (lv_at hl 3 rfl) ?_
              obtain ⟨x200, g201, hf⟩ := obind hf
              refine fr_get hx hb hts hown K hC ct_8 (fgI_get g201) (by decide) kw671 rfl dL_law_1026 ?_
              obtain ⟨b204, q205, hf⟩ := obind hf
              obtain ⟨⟨v206 | k207, h208⟩, g203, hf⟩ := obind hf
              rotate_left
              · exact nomatch (show (none : Option (Int32 × fSt)) = some _ from hf)
              replace hf := fci hf
              refine fr_callVX hx hb hml hts hown K hC hR ct_7 (c_X7_setTime hfl D cA g203) 1 q205 kw148 kw145 kw146 kw147 kw23 (by decide +kernel) ⟨by omega, by omega⟩ rfl hl.1 (cat8 _ (by exact Nat.le_of_ble_eq_true rfl)) dL_law_1029 rfl (fun H locs _ _ hC => ?_)
              refine lv_iload hx hb dL_law_1032 (lv_at hl 0 rfl) ?_
              refine lv_icmp_eq (tgt := 1039) hx hb dL_law_1034 (by decide) (fun c209 => ?_) (fun c209 => ?_)
              · replace hf := opos c209 hf
                exact w_L_law_L1039 M hfl hRf hRl hend hk2 hk69 _ _ _ _ _ _ _ hf _ _ _ _ _ hC (lv_sub hl [1, 2, 3, 4, 5, 6] rfl)
              · replace hf := oneg c209 hf
                exact w_L_law_L1037 M hfl hRf hRl hend _ hf _ _ _ _ _ hC (lv_sub hl [] rfl)
  · replace hf := oneg c167 hf
    exact w_L_law_L954 M hfl hRf hRl hend _ hf _ _ _ _ _ hC (lv_sub hl [] rfl)
set_option maxHeartbeats 4000000 in
set_option maxRecDepth 100000 in
theorem w_L_law_L310 {p : Program} {l : Launch} {e : Env} {s : State} {m : MethodId} {args : Array Value} {below : List Frame} {meth : Method} {c : Code} {D : va_G} {cA : Nat → ClassId} {h0 : fSt} {r : (Int32 × fSt)} {Q : State → Prop} {R : Room} (M : fM p s m args meth c D cA h0 R cL_law 23 (some (.boolean)) RL) (hfl : l.stackTraces = false) (hRf : 28 ≤ R.frames) (hRl : 693 ≤ R.locals) (hend : ∀ (x : Int32) (h : fSt) (H : Heap) (locs : List Loc) (cells slots : Nat) (ls : Array Slot) (pc : Nat), (x, h) = r → fCur D cA s h0 h H locs → decode code pc = .ok (.ireturn, 1) → W p l e R s m args below meth c H locs cells slots Q (F0 m pc ls [.int x])) {k2 : Option Nat → Int32 → fSt → Option (Int32 × fSt)} (hk2 : ∀ (a0 : Option Nat) (a1 : Int32) (h : fSt), k2 a0 a1 h = some r → ∀ (H : Heap) (locs : List Loc) (cells slots : Nat) (ls : Array Slot), fCur D cA s h0 h H locs → lv_has ls 23 [(0, va_rf a0), (1, .int a1)] → W p l e R s m args below meth c H locs cells slots Q (F0 m 2 ls [])) {k69 : Option Nat → Int32 → Option Nat → Option Nat → Int32 → fSt → Option (Int32 × fSt)} (hk69 : ∀ (a0 : Option Nat) (a1 : Int32) (a2 : Option Nat) (a3 : Option Nat) (a4 : Int32) (h : fSt), k69 a0 a1 a2 a3 a4 h = some r → ∀ (H : Heap) (locs : List Loc) (cells slots : Nat) (ls : Array Slot), fCur D cA s h0 h H locs → lv_has ls 23 [(0, va_rf a0), (1, .int a1), (2, va_rf a2), (3, va_rf a3), (4, .int a4)] → W p l e R s m args below meth c H locs cells slots Q (F0 m 69 ls [])) : ∀ (n : Nat) (a0 : Option Nat) (a1 : Int32) (a2 : Option Nat) (a3 : Option Nat) (a4 : Int32) (a5 : Int64) (a9 : Int32) (a10 : Int32) (a11 : Int32) (a12 : Int32) (a13 : Int32) (a14 : Int32) (a15 : Int32) (h : fSt), f_L_law_L310 k2 k69 n a0 a1 a2 a3 a4 a5 a9 a10 a11 a12 a13 a14 a15 h = some r → ∀ (H : Heap) (locs : List Loc) (cells slots : Nat) (ls : Array Slot), fCur D cA s h0 h H locs → lv_has ls 23 [(0, va_rf a0), (1, .int a1), (2, va_rf a2), (3, va_rf a3), (4, .int a4), (5, .long a5), (9, .int a9), (10, .int a10), (11, .int a11), (12, .int a12), (13, .int a13), (14, .int a14), (15, .int a15)] → W p l e R s m args below meth c H locs cells slots Q (F0 m 310 ls []) := by
  obtain ⟨hx, hb, hml, hr, hlocks, hts, hown, K, hR⟩ := id M
  intro n
  induction n with
  | zero =>
    intro a0 a1 a2 a3 a4 a5 a9 a10 a11 a12 a13 a14 a15 h hf
    exact nomatch (show (none : Option (Int32 × fSt)) = some r from hf)
  | succ n hk310 =>
    intro a0 a1 a2 a3 a4 a5 a9 a10 a11 a12 a13 a14 a15 h hf H locs cells slots ls hC hl
    refine lv_iload hx hb dL_law_310 (lv_at hl 12 rfl) ?_
    refine fr_aload_n hx hb dL_law_312 rfl (lv_at hl 2 rfl) ?_
    obtain ⟨x210, g211, hf⟩ := obind hf
    refine fr_get hx hb hts hown K hC ct_8 (fgI_get g211) (by decide) kw660 rfl dL_law_313 ?_
    refine lv_icmp_ge (tgt := 814) hx hb dL_law_316 (by decide) (fun c212 => ?_) (fun c212 => ?_)
    · replace hf := opos c212 hf
      refine fr_aload_n hx hb dL_law_814 rfl (lv_at hl 3 rfl) ?_
      refine lv_iload hx hb dL_law_815 (lv_at hl 7 rfl) ?_
      refine lv_iload hx hb dL_law_817 (lv_at hl 8 rfl) ?_
      refine lv_iload hx hb dL_law_819 (lv_at hl 6 rfl) ?_
      obtain ⟨b215, q216, hf⟩ := obind hf
      obtain ⟨⟨v217 | k218, h219⟩, g214, hf⟩ := obind hf
      rotate_left
      · exact nomatch (show (none : Option (Int32 × fSt)) = some _ from hf)
      replace hf := fci hf
      refine fr_callVX hx hb hml hts hown K hC hR ct_7 (c_X7_many hfl D cA g214) 3 q216 kw336 kw333 kw334 kw335 kw23 (by decide +kernel) ⟨by omega, by omega⟩ rfl hl.1 (cat8 _ (by exact Nat.le_of_ble_eq_true rfl)) dL_law_821 rfl (fun H locs _ _ hC => ?_)
      refine lv_iload hx hb dL_law_824 (lv_at hl 9 rfl) ?_
      refine lv_icmp_ne (tgt := 884) hx hb dL_law_826 (by decide) (fun c220 => ?_) (fun c220 => ?_)
      · replace hf := oneg c220 hf
        exact w_L_law_L884 M hfl hRf hRl hend _ hf _ _ _ _ _ hC (lv_sub hl [] rfl)
      · replace hf := opos c220 hf
        refine fr_aload_n hx hb dL_law_829 rfl (lv_at hl 3 rfl) ?_
        refine lv_iload hx hb dL_law_830 (lv_at hl 7 rfl) ?_
        refine lv_iload hx hb dL_law_832 (lv_at hl 8 rfl) ?_
        refine lv_iload hx hb dL_law_834 (lv_at hl 6 rfl) ?_
        obtain ⟨b223, q224, hf⟩ := obind hf
        obtain ⟨⟨v225 | k226, h227⟩, g222, hf⟩ := obind hf
        rotate_left
        · exact nomatch (show (none : Option (Int32 × fSt)) = some _ from hf)
        replace hf := fci hf
        refine fr_callVX hx hb hml hts hown K hC hR ct_7 (c_X7_pick hfl D cA g222) 3 q224 kw328 kw325 kw326 kw327 kw23 (by decide +kernel) ⟨by omega, by omega⟩ rfl hl.1 (cat8 _ (by exact Nat.le_of_ble_eq_true rfl)) dL_law_836 rfl (fun H locs _ _ hC => ?_)
        refine lv_iload hx hb dL_law_839 (lv_at hl 10 rfl) ?_
        refine lv_icmp_ne (tgt := 884) hx hb dL_law_841 (by decide) (fun c228 => ?_) (fun c228 => ?_)
        · replace hf := oneg c228 hf
          exact w_L_law_L884 M hfl hRf hRl hend _ hf _ _ _ _ _ hC (lv_sub hl [] rfl)
        · replace hf := opos c228 hf
          refine fr_aload_n hx hb dL_law_844 rfl (lv_at hl 3 rfl) ?_
          refine lv_iload hx hb dL_law_845 (lv_at hl 7 rfl) ?_
          refine lv_iload hx hb dL_law_847 (lv_at hl 8 rfl) ?_
          refine lv_iload hx hb dL_law_849 (lv_at hl 6 rfl) ?_
          obtain ⟨b231, q232, hf⟩ := obind hf
          obtain ⟨⟨v233 | k234, h235⟩, g230, hf⟩ := obind hf
          rotate_left
          · exact nomatch (show (none : Option (Int32 × fSt)) = some _ from hf)
          replace hf := fci hf
          refine fr_callVX hx hb hml hts hown K hC hR ct_7 (c_X7_through hfl D cA g230) 3 q232 kw340 kw337 kw338 kw339 kw23 (by decide +kernel) ⟨by omega, by omega⟩ rfl hl.1 (cat8 _ (by exact Nat.le_of_ble_eq_true rfl)) dL_law_851 rfl (fun H locs _ _ hC => ?_)
          refine lv_iload hx hb dL_law_854 (lv_at hl 11 rfl) ?_
          refine lv_icmp_gt (tgt := 884) hx hb dL_law_856 (by decide) (fun c236 => ?_) (fun c236 => ?_)
          · replace hf := opos c236 hf
            exact w_L_law_L884 M hfl hRf hRl hend _ hf _ _ _ _ _ hC (lv_sub hl [] rfl)
          · replace hf := oneg c236 hf
            refine fr_aload_n hx hb dL_law_859 rfl (lv_at hl 3 rfl) ?_
            refine fr_aload_n hx hb dL_law_860 rfl (lv_at hl 2 rfl) ?_
            obtain ⟨x237, g238, hf⟩ := obind hf
            refine fr_get hx hb hts hown K hC ct_8 (fgI_get g238) (by decide) kw671 rfl dL_law_861 ?_
            refine fr_aload_n hx hb dL_law_864 rfl (lv_at hl 2 rfl) ?_
            obtain ⟨x239, g240, hf⟩ := obind hf
            refine fr_get hx hb hts hown K hC ct_8 (fgI_get g240) (by decide) kw671 rfl dL_law_865 ?_
            obtain ⟨b243, q244, hf⟩ := obind hf
            obtain ⟨⟨v245 | k246, h247⟩, g242, hf⟩ := obind hf
            rotate_left
            · exact nomatch (show (none : Option (Int32 × fSt)) = some _ from hf)
            replace hf := fci hf
            refine fr_callVX hx hb hml hts hown K hC hR ct_7 (c_X7_changes hfl D cA g242) 2 q244 kw344 kw341 kw342 kw343 kw23 (by decide +kernel) ⟨by omega, by omega⟩ rfl hl.1 (cat8 _ (by exact Nat.le_of_ble_eq_true rfl)) dL_law_868 rfl (fun H locs _ _ hC => ?_)
            refine lv_if_ne (tgt := 884) hx hb dL_law_871 (by decide) (fun c248 => ?_) (fun c248 => ?_)
            · replace hf := oneg c248 hf
              exact w_L_law_L884 M hfl hRf hRl hend _ hf _ _ _ _ _ hC (lv_sub hl [] rfl)
            · replace hf := opos c248 hf
              refine fr_aload_n hx hb dL_law_874 rfl (lv_at hl 3 rfl) ?_
              obtain ⟨b251, q252, hf⟩ := obind hf
              obtain ⟨r249, g250, hf⟩ := obind hf
              refine fr_callV hx hb hml hts hown K hC hR ct_7 (c_X7_digest hfl D cA g250) 0 q252 kw374 kw371 kw372 kw373 kw23 (by decide +kernel) ⟨by omega, by omega⟩ rfl hl.1 (cat8 _ (by exact Nat.le_of_ble_eq_true rfl)) dL_law_875 rfl (fun H locs _ _ hC => ?_)
              refine lv_lload hx hb dL_law_878 (lv_at hl 5 rfl) ?_
              refine fr_lcmp_eq (tgt := 886) hx hb dL_law_880 dL_law_881 (by decide) (fun c253 => ?_) (fun c253 => ?_)
              · replace hf := opos c253 hf
                refine fr_aload_n hx hb dL_law_886 rfl (lv_at hl 2 rfl) ?_
                obtain ⟨b256, q257, hf⟩ := obind hf
                obtain ⟨r254, g255, hf⟩ := obind hf
                refine fr_callV hx hb hml hts hown K hC hR ct_8 (c_X8_one hfl D cA g255) 0 q257 kw728 kw725 kw726 kw727 kw22 (by decide +kernel) ⟨by omega, by omega⟩ rfl hl.1 (cat8 _ (by exact Nat.le_of_ble_eq_true rfl)) dL_law_887 rfl (fun H locs _ _ hC => ?_)
                refine lv_istore (lv' := [(15, .int r254.1), (0, va_rf a0), (1, .int a1), (2, va_rf a2), (3, va_rf a3), (4, .int a4), (5, .long a5), (9, .int a9), (10, .int a10), (11, .int a11), (12, .int a12), (13, .int a13), (14, .int a14)]) hx hb dL_law_890 hl (by decide) (congrArg (List.cons _) (flk rfl (flk rfl (flk rfl (flk rfl (flk rfl (flk rfl (flk rfl (flk rfl (flk rfl (flk rfl (flk rfl (flk rfl (fld rfl fln)))))))))))))) (fun ls hl => ?_)
                refine fr_aload_n hx hb dL_law_892 rfl (lv_at hl 4 rfl) ?_
                refine lv_iload hx hb dL_law_893 (lv_at hl 0 rfl) ?_
                refine lv_iload hx hb dL_law_895 (lv_at hl 8 rfl) ?_
                refine lv_iload hx hb dL_law_897 (lv_at hl 9 rfl) ?_
                refine lv_iload hx hb dL_law_899 (lv_at hl 7 rfl) ?_
                obtain ⟨b260, q261, hf⟩ := obind hf
                obtain ⟨⟨v262 | k263, h264⟩, g259, hf⟩ := obind hf
                rotate_left
                · exact nomatch (show (none : Option (Int32 × fSt)) = some _ from hf)
                replace hf := fci hf
                refine fr_callVX hx hb hml hts hown K hC hR ct_7 (c_X7_pickWithout hfl D cA g259) 4 q261 kw357 kw354 kw355 kw356 kw23 (by decide +kernel) ⟨by omega, by omega⟩ rfl hl.1 (cat8 _ (by exact Nat.le_of_ble_eq_true rfl)) dL_law_901 rfl (fun H locs _ _ hC => ?_)
                refine lv_istore (lv' := [(16, .int v262), (15, .int r254.1), (0, va_rf a0), (1, .int a1), (2, va_rf a2), (3, va_rf a3), (4, .int a4), (5, .long a5), (9, .int a9), (10, .int a10), (11, .int a11), (12, .int a12), (13, .int a13), (14, .int a14)]) hx hb dL_law_904 hl (by decide) (congrArg (List.cons _) (flk rfl (flk rfl (flk rfl (flk rfl (flk rfl (flk rfl (flk rfl (flk rfl (flk rfl (flk rfl (flk rfl (flk rfl (flk rfl fln)))))))))))))) (fun ls hl => ?_)
                refine lv_iload hx hb dL_law_906 (lv_at hl 0 rfl) ?_
                refine lv_if_lt (tgt := 939) hx hb dL_law_908 (by decide) (fun c265 => ?_) (fun c265 => ?_)
                · replace hf := opos c265 hf
                  exact w_L_law_L939 M hfl hRf hRl hend hk2 hk69 _ _ _ _ _ _ _ _ _ _ _ hf _ _ _ _ _ hC (lv_sub hl [2, 3, 4, 5, 6, 7, 8, 9, 10, 12] rfl)
                · replace hf := oneg c265 hf
                  refine fr_aload_n hx hb dL_law_911 rfl (lv_at hl 5 rfl) ?_
                  refine lv_iload hx hb dL_law_912 (lv_at hl 0 rfl) ?_
                  refine lv_iload hx hb dL_law_914 (lv_at hl 9 rfl) ?_
                  refine lv_iload hx hb dL_law_916 (lv_at hl 10 rfl) ?_
                  refine lv_iload hx hb dL_law_918 (lv_at hl 8 rfl) ?_
                  obtain ⟨b268, q269, hf⟩ := obind hf
                  obtain ⟨⟨v270 | k271, h272⟩, g267, hf⟩ := obind hf
                  rotate_left
                  · exact nomatch (show (none : Option (Int32 × fSt)) = some _ from hf)
                  replace hf := fci hf
                  refine fr_callVX hx hb hml hts hown K hC hR ct_7 (c_X7_covers hfl D cA g267) 4 q269 kw306 kw303 kw304 kw305 kw23 (by decide +kernel) ⟨by omega, by omega⟩ rfl hl.1 (cat8 _ (by exact Nat.le_of_ble_eq_true rfl)) dL_law_920 rfl (fun H locs _ _ hC => ?_)
                  refine lv_if_eq (tgt := 954) hx hb dL_law_923 (by decide) (fun c273 => ?_) (fun c273 => ?_)
                  · replace hf := opos c273 hf
                    exact w_L_law_L954 M hfl hRf hRl hend _ hf _ _ _ _ _ hC (lv_sub hl [] rfl)
                  · replace hf := oneg c273 hf
                    refine fr_aload_n hx hb dL_law_926 rfl (lv_at hl 5 rfl) ?_
                    refine lv_iload hx hb dL_law_927 (lv_at hl 0 rfl) ?_
                    refine lv_iload hx hb dL_law_929 (lv_at hl 1 rfl) ?_
                    obtain ⟨b276, q277, hf⟩ := obind hf
                    obtain ⟨⟨v278 | k279, h280⟩, g275, hf⟩ := obind hf
                    rotate_left
                    · exact nomatch (show (none : Option (Int32 × fSt)) = some _ from hf)
                    replace hf := fci hf
                    refine fr_callVX hx hb hml hts hown K hC hR ct_7 (c_X7_common hfl D cA g275) 2 q277 kw140 kw137 kw138 kw139 kw23 (by decide +kernel) ⟨by omega, by omega⟩ rfl hl.1 (cat8 _ (by exact Nat.le_of_ble_eq_true rfl)) dL_law_931 rfl (fun H locs _ _ hC => ?_)
                    refine lv_iload hx hb dL_law_934 (lv_at hl 1 rfl) ?_
                    refine lv_icmp_eq (tgt := 954) hx hb dL_law_936 (by decide) (fun c281 => ?_) (fun c281 => ?_)
                    · replace hf := opos c281 hf
                      exact w_L_law_L954 M hfl hRf hRl hend _ hf _ _ _ _ _ hC (lv_sub hl [] rfl)
                    · replace hf := oneg c281 hf
                      exact w_L_law_L939 M hfl hRf hRl hend hk2 hk69 _ _ _ _ _ _ _ _ _ _ _ hf _ _ _ _ _ hC (lv_sub hl [2, 3, 4, 5, 6, 7, 8, 9, 10, 12] rfl)
              · replace hf := oneg c253 hf
                exact w_L_law_L884 M hfl hRf hRl hend _ hf _ _ _ _ _ hC (lv_sub hl [] rfl)
    · replace hf := oneg c212 hf
      refine fr_aload_n hx hb dL_law_319 rfl (lv_at hl 2 rfl) ?_
      refine lv_iload hx hb dL_law_320 (lv_at hl 12 rfl) ?_
      obtain ⟨b284, q285, hf⟩ := obind hf
      obtain ⟨r282, g283, hf⟩ := obind hf
      refine fr_callV hx hb hml hts hown K hC hR ct_8 (c_X8_isThere hfl D cA g283) 1 q285 kw718 kw715 kw716 kw717 kw22 (by decide +kernel) ⟨by omega, by omega⟩ rfl hl.1 (cat8 _ (by exact Nat.le_of_ble_eq_true rfl)) dL_law_322 rfl (fun H locs _ _ hC => ?_)
      refine lv_if_ne (tgt := 331) hx hb dL_law_325 (by decide) (fun c286 => ?_) (fun c286 => ?_)
      · replace hf := oneg c286 hf
        refine fr_aload_n hx hb dL_law_331 rfl (lv_at hl 2 rfl) ?_
        obtain ⟨b289, q290, hf⟩ := obind hf
        obtain ⟨r287, g288, hf⟩ := obind hf
        refine fr_callV hx hb hml hts hown K hC hR ct_8 (c_X8_any hfl D cA g288) 0 q290 kw722 kw719 kw720 kw721 kw22 (by decide +kernel) ⟨by omega, by omega⟩ rfl hl.1 (cat8 _ (by exact Nat.le_of_ble_eq_true rfl)) dL_law_332 rfl (fun H locs _ _ hC => ?_)
        refine lv_istore (lv' := [(16, .int r287.1), (0, va_rf a0), (1, .int a1), (2, va_rf a2), (3, va_rf a3), (4, .int a4), (5, .long a5), (9, .int a9), (10, .int a10), (11, .int a11), (12, .int a12), (13, .int a13), (14, .int a14), (15, .int a15)]) hx hb dL_law_335 hl (by decide) (congrArg (List.cons _) (flk rfl (flk rfl (flk rfl (flk rfl (flk rfl (flk rfl (flk rfl (flk rfl (flk rfl (flk rfl (flk rfl (flk rfl (flk rfl fln)))))))))))))) (fun ls hl => ?_)
        refine fr_aload_n hx hb dL_law_337 rfl (lv_at hl 4 rfl) ?_
        refine lv_iload hx hb dL_law_338 (lv_at hl 13 rfl) ?_
        refine lv_iconst (v := (4 : Int32)) hx hb dL_law_340 (by decide) ?_
        refine lv_bipush (v := (-7 : Int32)) hx hb dL_law_341 (by decide) ?_
        refine lv_iconst (v := (1 : Int32)) hx hb dL_law_343 (by decide) ?_
        obtain ⟨b293, q294, hf⟩ := obind hf
        obtain ⟨⟨v295 | k296, h297⟩, g292, hf⟩ := obind hf
        rotate_left
        · exact nomatch (show (none : Option (Int32 × fSt)) = some _ from hf)
        replace hf := fci hf
        refine fr_callVX hx hb hml hts hown K hC hR ct_7 (c_X7_toWhole hfl D cA g292) 4 q294 kw174 kw171 kw172 kw173 kw23 (by decide +kernel) ⟨by omega, by omega⟩ rfl hl.1 (cat8 _ (by exact Nat.le_of_ble_eq_true rfl)) dL_law_344 rfl (fun H locs _ _ hC => ?_)
        refine lv_istore (lv' := [(17, .int v295), (16, .int r287.1), (0, va_rf a0), (1, .int a1), (2, va_rf a2), (3, va_rf a3), (4, .int a4), (5, .long a5), (9, .int a9), (10, .int a10), (11, .int a11), (12, .int a12), (13, .int a13), (14, .int a14), (15, .int a15)]) hx hb dL_law_347 hl (by decide) (congrArg (List.cons _) (flk rfl (flk rfl (flk rfl (flk rfl (flk rfl (flk rfl (flk rfl (flk rfl (flk rfl (flk rfl (flk rfl (flk rfl (flk rfl (flk rfl fln))))))))))))))) (fun ls hl => ?_)
        refine lv_iload hx hb dL_law_349 (lv_at hl 0 rfl) ?_
        refine lv_iconst (v := (1 : Int32)) hx hb dL_law_351 (by decide) ?_
        refine lv_icmp_ne (tgt := 463) hx hb dL_law_352 (by decide) (fun c298 => ?_) (fun c298 => ?_)
        · replace hf := oneg c298 hf
          exact w_L_law_L463 M hfl hRf hRl hend hk2 hk69 hk310 _ _ _ _ _ _ _ _ _ _ _ _ _ _ _ hf _ _ _ _ _ hC (lv_sub hl [2, 3, 4, 5, 6, 7, 8, 9, 10, 11, 12, 13, 14, 1] rfl)
        · replace hf := opos c298 hf
          refine fr_aload_n hx hb dL_law_355 rfl (lv_at hl 5 rfl) ?_
          refine lv_iload hx hb dL_law_356 (lv_at hl 14 rfl) ?_
          refine lv_iconst (v := (4 : Int32)) hx hb dL_law_358 (by decide) ?_
          refine lv_bipush (v := (-7 : Int32)) hx hb dL_law_359 (by decide) ?_
          refine lv_iconst (v := (3 : Int32)) hx hb dL_law_361 (by decide) ?_
          obtain ⟨b301, q302, hf⟩ := obind hf
          obtain ⟨⟨v303 | k304, h305⟩, g300, hf⟩ := obind hf
          rotate_left
          · exact nomatch (show (none : Option (Int32 × fSt)) = some _ from hf)
          replace hf := fci hf
          refine fr_callVX hx hb hml hts hown K hC hR ct_7 (c_X7_toWhole hfl D cA g300) 4 q302 kw174 kw171 kw172 kw173 kw23 (by decide +kernel) ⟨by omega, by omega⟩ rfl hl.1 (cat8 _ (by exact Nat.le_of_ble_eq_true rfl)) dL_law_362 rfl (fun H locs _ _ hC => ?_)
          refine lv_iconst (v := (1 : Int32)) hx hb dL_law_365 (by decide) ?_
          refine lv_icmp_ne (tgt := 463) hx hb dL_law_366 (by decide) (fun c306 => ?_) (fun c306 => ?_)
          · replace hf := oneg c306 hf
            exact w_L_law_L463 M hfl hRf hRl hend hk2 hk69 hk310 _ _ _ _ _ _ _ _ _ _ _ _ _ _ _ hf _ _ _ _ _ hC (lv_sub hl [2, 3, 4, 5, 6, 7, 8, 9, 10, 11, 12, 13, 14, 1] rfl)
          · replace hf := opos c306 hf
            refine fr_aload_n hx hb dL_law_369 rfl (lv_at hl 5 rfl) ?_
            refine lv_iload hx hb dL_law_370 (lv_at hl 14 rfl) ?_
            refine lv_iconst (v := (4 : Int32)) hx hb dL_law_372 (by decide) ?_
            refine lv_bipush (v := (-7 : Int32)) hx hb dL_law_373 (by decide) ?_
            refine lv_iconst (v := (0 : Int32)) hx hb dL_law_375 (by decide) ?_
            obtain ⟨b309, q310, hf⟩ := obind hf
            obtain ⟨⟨v311 | k312, h313⟩, g308, hf⟩ := obind hf
            rotate_left
            · exact nomatch (show (none : Option (Int32 × fSt)) = some _ from hf)
            replace hf := fci hf
            refine fr_callVX hx hb hml hts hown K hC hR ct_7 (c_X7_toWhole hfl D cA g308) 4 q310 kw174 kw171 kw172 kw173 kw23 (by decide +kernel) ⟨by omega, by omega⟩ rfl hl.1 (cat8 _ (by exact Nat.le_of_ble_eq_true rfl)) dL_law_376 rfl (fun H locs _ _ hC => ?_)
            refine lv_istore (lv' := [(18, .int v311), (17, .int v295), (16, .int r287.1), (0, va_rf a0), (1, .int a1), (2, va_rf a2), (3, va_rf a3), (4, .int a4), (5, .long a5), (9, .int a9), (10, .int a10), (11, .int a11), (12, .int a12), (13, .int a13), (14, .int a14), (15, .int a15)]) hx hb dL_law_379 hl (by decide) (congrArg (List.cons _) (flk rfl (flk rfl (flk rfl (flk rfl (flk rfl (flk rfl (flk rfl (flk rfl (flk rfl (flk rfl (flk rfl (flk rfl (flk rfl (flk rfl (flk rfl fln)))))))))))))))) (fun ls hl => ?_)
            refine fr_aload_n hx hb dL_law_381 rfl (lv_at hl 6 rfl) ?_
            refine lv_iload hx hb dL_law_382 (lv_at hl 15 rfl) ?_
            refine lv_iconst (v := (4 : Int32)) hx hb dL_law_384 (by decide) ?_
            refine lv_bipush (v := (-7 : Int32)) hx hb dL_law_385 (by decide) ?_
            refine lv_iconst (v := (2 : Int32)) hx hb dL_law_387 (by decide) ?_
            obtain ⟨b316, q317, hf⟩ := obind hf
            obtain ⟨⟨v318 | k319, h320⟩, g315, hf⟩ := obind hf
            rotate_left
            · exact nomatch (show (none : Option (Int32 × fSt)) = some _ from hf)
            replace hf := fci hf
            refine fr_callVX hx hb hml hts hown K hC hR ct_7 (c_X7_toWhole hfl D cA g315) 4 q317 kw174 kw171 kw172 kw173 kw23 (by decide +kernel) ⟨by omega, by omega⟩ rfl hl.1 (cat8 _ (by exact Nat.le_of_ble_eq_true rfl)) dL_law_388 rfl (fun H locs _ _ hC => ?_)
            refine lv_istore (lv' := [(19, .int v318), (18, .int v311), (17, .int v295), (16, .int r287.1), (0, va_rf a0), (1, .int a1), (2, va_rf a2), (3, va_rf a3), (4, .int a4), (5, .long a5), (9, .int a9), (10, .int a10), (11, .int a11), (12, .int a12), (13, .int a13), (14, .int a14), (15, .int a15)]) hx hb dL_law_391 hl (by decide) (congrArg (List.cons _) (flk rfl (flk rfl (flk rfl (flk rfl (flk rfl (flk rfl (flk rfl (flk rfl (flk rfl (flk rfl (flk rfl (flk rfl (flk rfl (flk rfl (flk rfl (flk rfl fln))))))))))))))))) (fun ls hl => ?_)
            refine lv_iload hx hb dL_law_393 (lv_at hl 1 rfl) ?_
            refine fr_mabs hx hb hml hts hown hC hR kw933 kw934 kw38 kw935 hl.1 (by omega) (catL _ _ (by exact Nat.le_of_ble_eq_true rfl) (by omega)) dL_law_395 (fun _ _ => ?_)
            refine lv_sipush (v := (1000 : Int32)) hx hb dL_law_398 (by decide) ?_
            refine lv_icmp_gt (tgt := 463) hx hb dL_law_401 (by decide) (fun c321 => ?_) (fun c321 => ?_)
            · replace hf := opos c321 hf
              exact w_L_law_L463 M hfl hRf hRl hend hk2 hk69 hk310 _ _ _ _ _ _ _ _ _ _ _ _ _ _ _ hf _ _ _ _ _ hC (lv_sub hl [4, 5, 6, 7, 8, 9, 10, 11, 12, 13, 14, 15, 16, 3] rfl)
            · replace hf := oneg c321 hf
              refine lv_iload hx hb dL_law_404 (lv_at hl 0 rfl) ?_
              refine fr_mabs hx hb hml hts hown hC hR kw933 kw934 kw38 kw935 hl.1 (by omega) (catL _ _ (by exact Nat.le_of_ble_eq_true rfl) (by omega)) dL_law_406 (fun _ _ => ?_)
              refine lv_sipush (v := (1000 : Int32)) hx hb dL_law_409 (by decide) ?_
              refine lv_icmp_gt (tgt := 463) hx hb dL_law_412 (by decide) (fun c322 => ?_) (fun c322 => ?_)
              · replace hf := opos c322 hf
                exact w_L_law_L463 M hfl hRf hRl hend hk2 hk69 hk310 _ _ _ _ _ _ _ _ _ _ _ _ _ _ _ hf _ _ _ _ _ hC (lv_sub hl [4, 5, 6, 7, 8, 9, 10, 11, 12, 13, 14, 15, 16, 3] rfl)
              · replace hf := oneg c322 hf
                refine fr_aload_n hx hb dL_law_415 rfl (lv_at hl 7 rfl) ?_
                refine lv_iload hx hb dL_law_416 (lv_at hl 16 rfl) ?_
                refine lv_iload hx hb dL_law_418 (lv_at hl 1 rfl) ?_
                refine lv_iload hx hb dL_law_420 (lv_at hl 0 rfl) ?_
                refine lv_iconst (v := (0 : Int32)) hx hb dL_law_422 (by decide) ?_
                obtain ⟨b325, q326, hf⟩ := obind hf
                obtain ⟨⟨v327 | k328, h329⟩, g324, hf⟩ := obind hf
                rotate_left
                · exact nomatch (show (none : Option (Int32 × fSt)) = some _ from hf)
                replace hf := fci hf
                refine fr_callVX hx hb hml hts hown K hC hR ct_7 (c_X7_fromWhole hfl D cA g324) 4 q326 kw226 kw223 kw224 kw225 kw23 (by decide +kernel) ⟨by omega, by omega⟩ rfl hl.1 (cat8 _ (by exact Nat.le_of_ble_eq_true rfl)) dL_law_423 rfl (fun H locs _ _ hC => ?_)
                refine lv_iconst (v := (4 : Int32)) hx hb dL_law_426 (by decide) ?_
                refine lv_icmp_ne (tgt := 461) hx hb dL_law_427 (by decide) (fun c330 => ?_) (fun c330 => ?_)
                · replace hf := oneg c330 hf
                  exact w_L_law_L461 M hfl hRf hRl hend _ hf _ _ _ _ _ hC (lv_sub hl [] rfl)
                · replace hf := opos c330 hf
                  refine fr_aload_n hx hb dL_law_430 rfl (lv_at hl 7 rfl) ?_
                  refine lv_iload hx hb dL_law_431 (lv_at hl 16 rfl) ?_
                  refine lv_iload hx hb dL_law_433 (lv_at hl 1 rfl) ?_
                  refine lv_iload hx hb dL_law_435 (lv_at hl 0 rfl) ?_
                  refine lv_iconst (v := (1 : Int32)) hx hb dL_law_437 (by decide) ?_
                  obtain ⟨b333, q334, hf⟩ := obind hf
                  obtain ⟨⟨v335 | k336, h337⟩, g332, hf⟩ := obind hf
                  rotate_left
                  · exact nomatch (show (none : Option (Int32 × fSt)) = some _ from hf)
                  replace hf := fci hf
                  refine fr_callVX hx hb hml hts hown K hC hR ct_7 (c_X7_fromWhole hfl D cA g332) 4 q334 kw226 kw223 kw224 kw225 kw23 (by decide +kernel) ⟨by omega, by omega⟩ rfl hl.1 (cat8 _ (by exact Nat.le_of_ble_eq_true rfl)) dL_law_438 rfl (fun H locs _ _ hC => ?_)
                  refine lv_iconst (v := (1 : Int32)) hx hb dL_law_441 (by decide) ?_
                  refine lv_icmp_ne (tgt := 461) hx hb dL_law_442 (by decide) (fun c338 => ?_) (fun c338 => ?_)
                  · replace hf := oneg c338 hf
                    exact w_L_law_L461 M hfl hRf hRl hend _ hf _ _ _ _ _ hC (lv_sub hl [] rfl)
                  · replace hf := opos c338 hf
                    refine fr_aload_n hx hb dL_law_445 rfl (lv_at hl 7 rfl) ?_
                    refine lv_iload hx hb dL_law_446 (lv_at hl 16 rfl) ?_
                    refine lv_iload hx hb dL_law_448 (lv_at hl 1 rfl) ?_
                    refine lv_iload hx hb dL_law_450 (lv_at hl 0 rfl) ?_
                    refine lv_iconst (v := (2 : Int32)) hx hb dL_law_452 (by decide) ?_
                    obtain ⟨b341, q342, hf⟩ := obind hf
                    obtain ⟨⟨v343 | k344, h345⟩, g340, hf⟩ := obind hf
                    rotate_left
                    · exact nomatch (show (none : Option (Int32 × fSt)) = some _ from hf)
                    replace hf := fci hf
                    refine fr_callVX hx hb hml hts hown K hC hR ct_7 (c_X7_fromWhole hfl D cA g340) 4 q342 kw226 kw223 kw224 kw225 kw23 (by decide +kernel) ⟨by omega, by omega⟩ rfl hl.1 (cat8 _ (by exact Nat.le_of_ble_eq_true rfl)) dL_law_453 rfl (fun H locs _ _ hC => ?_)
                    refine lv_bipush (v := (-7 : Int32)) hx hb dL_law_456 (by decide) ?_
                    refine lv_icmp_eq (tgt := 463) hx hb dL_law_458 (by decide) (fun c346 => ?_) (fun c346 => ?_)
                    · replace hf := opos c346 hf
                      exact w_L_law_L463 M hfl hRf hRl hend hk2 hk69 hk310 _ _ _ _ _ _ _ _ _ _ _ _ _ _ _ hf _ _ _ _ _ hC (lv_sub hl [4, 5, 6, 7, 8, 9, 10, 11, 12, 13, 14, 15, 16, 3] rfl)
                    · replace hf := oneg c346 hf
                      exact w_L_law_L461 M hfl hRf hRl hend _ hf _ _ _ _ _ hC (lv_sub hl [] rfl)
      · replace hf := opos c286 hf
        refine lv_goto (tgt := 808) hx hb dL_law_328 (by decide) ?_
        exact w_L_law_L808 M hfl hRf hRl hend hk2 hk69 hk310 _ _ _ _ _ _ _ _ _ _ _ _ _ _ hf _ _ _ _ _ hC (lv_sub hl [0, 1, 2, 3, 4, 5, 6, 7, 8, 9, 10, 11, 12] rfl)
set_option maxHeartbeats 4000000 in
set_option maxRecDepth 100000 in
theorem w_L_law_L163 {p : Program} {l : Launch} {e : Env} {s : State} {m : MethodId} {args : Array Value} {below : List Frame} {meth : Method} {c : Code} {D : va_G} {cA : Nat → ClassId} {h0 : fSt} {r : (Int32 × fSt)} {Q : State → Prop} {R : Room} (M : fM p s m args meth c D cA h0 R cL_law 23 (some (.boolean)) RL) (hfl : l.stackTraces = false) (hRf : 28 ≤ R.frames) (hRl : 693 ≤ R.locals) (hend : ∀ (x : Int32) (h : fSt) (H : Heap) (locs : List Loc) (cells slots : Nat) (ls : Array Slot) (pc : Nat), (x, h) = r → fCur D cA s h0 h H locs → decode code pc = .ok (.ireturn, 1) → W p l e R s m args below meth c H locs cells slots Q (F0 m pc ls [.int x])) {k2 : Option Nat → Int32 → fSt → Option (Int32 × fSt)} (hk2 : ∀ (a0 : Option Nat) (a1 : Int32) (h : fSt), k2 a0 a1 h = some r → ∀ (H : Heap) (locs : List Loc) (cells slots : Nat) (ls : Array Slot), fCur D cA s h0 h H locs → lv_has ls 23 [(0, va_rf a0), (1, .int a1)] → W p l e R s m args below meth c H locs cells slots Q (F0 m 2 ls [])) {k69 : Option Nat → Int32 → Option Nat → Option Nat → Int32 → fSt → Option (Int32 × fSt)} (hk69 : ∀ (a0 : Option Nat) (a1 : Int32) (a2 : Option Nat) (a3 : Option Nat) (a4 : Int32) (h : fSt), k69 a0 a1 a2 a3 a4 h = some r → ∀ (H : Heap) (locs : List Loc) (cells slots : Nat) (ls : Array Slot), fCur D cA s h0 h H locs → lv_has ls 23 [(0, va_rf a0), (1, .int a1), (2, va_rf a2), (3, va_rf a3), (4, .int a4)] → W p l e R s m args below meth c H locs cells slots Q (F0 m 69 ls [])) : ∀ (n : Nat) (a0 : Option Nat) (a1 : Int32) (a2 : Option Nat) (a3 : Option Nat) (a4 : Int32) (a5 : Int64) (a7 : Int32) (a8 : Option Nat) (a9 : Int32) (h : fSt), f_L_law_L163 k2 k69 n a0 a1 a2 a3 a4 a5 a7 a8 a9 h = some r → ∀ (H : Heap) (locs : List Loc) (cells slots : Nat) (ls : Array Slot), fCur D cA s h0 h H locs → lv_has ls 23 [(0, va_rf a0), (1, .int a1), (2, va_rf a2), (3, va_rf a3), (4, .int a4), (5, .long a5), (7, .int a7), (8, va_rf a8), (9, .int a9)] → W p l e R s m args below meth c H locs cells slots Q (F0 m 163 ls []) := by
  obtain ⟨hx, hb, hml, hr, hlocks, hts, hown, K, hR⟩ := id M
  intro n
  induction n with
  | zero =>
    intro a0 a1 a2 a3 a4 a5 a7 a8 a9 h hf
    exact nomatch (show (none : Option (Int32 × fSt)) = some r from hf)
  | succ n hk163 =>
    intro a0 a1 a2 a3 a4 a5 a7 a8 a9 h hf H locs cells slots ls hC hl
    refine lv_iload hx hb dL_law_163 (lv_at hl 8 rfl) ?_
    refine lv_iload hx hb dL_law_165 (lv_at hl 6 rfl) ?_
    refine lv_icmp_ge (tgt := 259) hx hb dL_law_167 (by decide) (fun c347 => ?_) (fun c347 => ?_)
    · replace hf := opos c347 hf
      refine lv_iconst (v := (1 : Int32)) hx hb dL_law_259 (by decide) ?_
      refine fr_aload_n hx hb dL_law_260 rfl (lv_at hl 2 rfl) ?_
      refine lv_iconst (v := (3 : Int32)) hx hb dL_law_261 (by decide) ?_
      obtain ⟨b350, q351, hf⟩ := obind hf
      obtain ⟨r348, g349, hf⟩ := obind hf
      refine fr_callV hx hb hml hts hown K hC hR ct_8 (c_X8_draw hfl D cA g349) 1 q351 kw706 kw703 kw704 kw705 kw22 (by decide +kernel) ⟨by omega, by omega⟩ rfl hl.1 (cat8 _ (by exact Nat.le_of_ble_eq_true rfl)) dL_law_262 rfl (fun H locs _ _ hC => ?_)
      refine lv_iadd hx hb dL_law_265 ?_
      refine lv_istore (lv' := [(9, .int ((1 : Int32) + r348.1)), (0, va_rf a0), (1, .int a1), (2, va_rf a2), (3, va_rf a3), (4, .int a4), (5, .long a5), (7, .int a7), (8, va_rf a8)]) hx hb dL_law_266 hl (by decide) (congrArg (List.cons _) (flk rfl (flk rfl (flk rfl (flk rfl (flk rfl (flk rfl (flk rfl (flk (adj1 _ _) (fld rfl fln)))))))))) (fun ls hl => ?_)
      refine fr_aload_n hx hb dL_law_268 rfl (lv_at hl 3 rfl) ?_
      refine lv_bipush (v := (40 : Int32)) hx hb dL_law_269 (by decide) ?_
      refine lv_iload hx hb dL_law_271 (lv_at hl 0 rfl) ?_
      refine lv_imul hx hb dL_law_273 ?_
      obtain ⟨b354, q355, hf⟩ := obind hf
      obtain ⟨r352, g353, hf⟩ := obind hf
      refine fr_callV hx hb hml hts hown K hC hR ct_8 (c_X8_draw hfl D cA g353) 1 q355 kw706 kw703 kw704 kw705 kw22 (by decide +kernel) ⟨by omega, by omega⟩ rfl hl.1 (cat8 _ (by exact Nat.le_of_ble_eq_true rfl)) dL_law_274 rfl (fun H locs _ _ hC => ?_)
      refine lv_bipush (v := (10 : Int32)) hx hb dL_law_277 (by decide) ?_
      refine lv_isub hx hb dL_law_279 ?_
      refine lv_istore (lv' := [(10, .int (r352.1 - (10 : Int32))), (9, .int ((1 : Int32) + r348.1)), (0, va_rf a0), (1, .int a1), (2, va_rf a2), (3, va_rf a3), (4, .int a4), (5, .long a5), (7, .int a7), (8, va_rf a8)]) hx hb dL_law_280 hl (by decide) (congrArg (List.cons _) (flk rfl (flk rfl (flk rfl (flk rfl (flk rfl (flk rfl (flk rfl (flk rfl (flk rfl fln)))))))))) (fun ls hl => ?_)
      refine fr_aload_n hx hb dL_law_282 rfl (lv_at hl 4 rfl) ?_
      refine lv_bipush (v := (40 : Int32)) hx hb dL_law_283 (by decide) ?_
      refine lv_iload hx hb dL_law_285 (lv_at hl 1 rfl) ?_
      refine lv_imul hx hb dL_law_287 ?_
      obtain ⟨b358, q359, hf⟩ := obind hf
      obtain ⟨r356, g357, hf⟩ := obind hf
      refine fr_callV hx hb hml hts hown K hC hR ct_8 (c_X8_draw hfl D cA g357) 1 q359 kw706 kw703 kw704 kw705 kw22 (by decide +kernel) ⟨by omega, by omega⟩ rfl hl.1 (cat8 _ (by exact Nat.le_of_ble_eq_true rfl)) dL_law_288 rfl (fun H locs _ _ hC => ?_)
      refine lv_bipush (v := (10 : Int32)) hx hb dL_law_291 (by decide) ?_
      refine lv_isub hx hb dL_law_293 ?_
      refine lv_istore (lv' := [(11, .int (r356.1 - (10 : Int32))), (10, .int (r352.1 - (10 : Int32))), (9, .int ((1 : Int32) + r348.1)), (0, va_rf a0), (1, .int a1), (2, va_rf a2), (3, va_rf a3), (4, .int a4), (5, .long a5), (7, .int a7), (8, va_rf a8)]) hx hb dL_law_294 hl (by decide) (congrArg (List.cons _) (flk rfl (flk rfl (flk rfl (flk rfl (flk rfl (flk rfl (flk rfl (flk rfl (flk rfl (flk rfl fln))))))))))) (fun ls hl => ?_)
      refine lv_iconst (v := (0 : Int32)) hx hb dL_law_296 (by decide) ?_
      refine lv_istore (lv' := [(12, .int (0 : Int32)), (11, .int (r356.1 - (10 : Int32))), (10, .int (r352.1 - (10 : Int32))), (9, .int ((1 : Int32) + r348.1)), (0, va_rf a0), (1, .int a1), (2, va_rf a2), (3, va_rf a3), (4, .int a4), (5, .long a5), (7, .int a7), (8, va_rf a8)]) hx hb dL_law_297 hl (by decide) (congrArg (List.cons _) (flk rfl (flk rfl (flk rfl (flk rfl (flk rfl (flk rfl (flk rfl (flk rfl (flk rfl (flk rfl (flk rfl fln)))))))))))) (fun ls hl => ?_)
      refine lv_iconst (v := (-1 : Int32)) hx hb dL_law_299 (by decide) ?_
      refine lv_istore (lv' := [(13, .int (-1 : Int32)), (12, .int (0 : Int32)), (11, .int (r356.1 - (10 : Int32))), (10, .int (r352.1 - (10 : Int32))), (9, .int ((1 : Int32) + r348.1)), (0, va_rf a0), (1, .int a1), (2, va_rf a2), (3, va_rf a3), (4, .int a4), (5, .long a5), (7, .int a7), (8, va_rf a8)]) hx hb dL_law_300 hl (by decide) (congrArg (List.cons _) (flk rfl (flk rfl (flk rfl (flk rfl (flk rfl (flk rfl (flk rfl (flk rfl (flk rfl (flk rfl (flk rfl (flk rfl fln))))))))))))) (fun ls hl => ?_)
      refine lv_sipush (v := (10000 : Int32)) hx hb dL_law_302 (by decide) ?_
      refine lv_istore (lv' := [(14, .int (10000 : Int32)), (13, .int (-1 : Int32)), (12, .int (0 : Int32)), (11, .int (r356.1 - (10 : Int32))), (10, .int (r352.1 - (10 : Int32))), (9, .int ((1 : Int32) + r348.1)), (0, va_rf a0), (1, .int a1), (2, va_rf a2), (3, va_rf a3), (4, .int a4), (5, .long a5), (7, .int a7), (8, va_rf a8)]) hx hb dL_law_305 hl (by decide) (congrArg (List.cons _) (flk rfl (flk rfl (flk rfl (flk rfl (flk rfl (flk rfl (flk rfl (flk rfl (flk rfl (flk rfl (flk rfl (flk rfl (flk rfl fln)))))))))))))) (fun ls hl => ?_)
      refine lv_iconst (v := (0 : Int32)) hx hb dL_law_307 (by decide) ?_
      refine lv_istore (lv' := [(15, .int (0 : Int32)), (14, .int (10000 : Int32)), (13, .int (-1 : Int32)), (12, .int (0 : Int32)), (11, .int (r356.1 - (10 : Int32))), (10, .int (r352.1 - (10 : Int32))), (9, .int ((1 : Int32) + r348.1)), (0, va_rf a0), (1, .int a1), (2, va_rf a2), (3, va_rf a3), (4, .int a4), (5, .long a5), (7, .int a7), (8, va_rf a8)]) hx hb dL_law_308 hl (by decide) (congrArg (List.cons _) (flk rfl (flk rfl (flk rfl (flk rfl (flk rfl (flk rfl (flk rfl (flk rfl (flk rfl (flk rfl (flk rfl (flk rfl (flk rfl (flk rfl fln))))))))))))))) (fun ls hl => ?_)
      exact w_L_law_L310 M hfl hRf hRl hend hk2 hk69 4096 _ _ _ _ _ _ _ _ _ _ _ _ _ _ hf _ _ _ _ _ hC (lv_sub hl [7, 8, 9, 10, 11, 12, 6, 5, 4, 3, 2, 1, 0] rfl)
    · replace hf := oneg c347 hf
      refine fr_aload_n hx hb dL_law_170 rfl (lv_at hl 3 rfl) ?_
      refine lv_iload hx hb dL_law_171 (lv_at hl 8 rfl) ?_
      obtain ⟨b362, q363, hf⟩ := obind hf
      obtain ⟨⟨v364 | k365, h366⟩, g361, hf⟩ := obind hf
      rotate_left
      · exact nomatch (show (none : Option (Int32 × fSt)) = some _ from hf)
      replace hf := fci hf
      refine fr_callVX hx hb hml hts hown K hC hR ct_7 (c_X7_orderAt hfl D cA g361) 1 q363 kw297 kw294 kw295 kw296 kw23 (by decide +kernel) ⟨by omega, by omega⟩ rfl hl.1 (cat8 _ (by exact Nat.le_of_ble_eq_true rfl)) dL_law_173 rfl (fun H locs _ _ hC => ?_)
      refine lv_istore (lv' := [(10, .int v364), (0, va_rf a0), (1, .int a1), (2, va_rf a2), (3, va_rf a3), (4, .int a4), (5, .long a5), (7, .int a7), (8, va_rf a8), (9, .int a9)]) hx hb dL_law_176 hl (by decide) (congrArg (List.cons _) (flk rfl (flk rfl (flk rfl (flk rfl (flk rfl (flk rfl (flk rfl (flk rfl (flk rfl fln)))))))))) (fun ls hl => ?_)
      refine fr_aload hx hb dL_law_178 (lv_at hl 8 rfl) ?_
      refine lv_iload hx hb dL_law_180 (lv_at hl 0 rfl) ?_
      obtain ⟨x367, g368, hf⟩ := obind hf
      refine fr_zald hx hb K hC (t := 1) rfl g368 dL_law_182 ?_
      refine lv_if_ne (tgt := 197) hx hb dL_law_183 (by decide) (fun c369 => ?_) (fun c369 => ?_)
      · replace hf := oneg c369 hf
        exact w_L_law_L197 M hfl hRf hRl hend _ hf _ _ _ _ _ hC (lv_sub hl [] rfl)
      · replace hf := opos c369 hf
        refine fr_aload_n hx hb dL_law_186 rfl (lv_at hl 4 rfl) ?_
        refine lv_iload hx hb dL_law_187 (lv_at hl 0 rfl) ?_
        obtain ⟨b372, q373, hf⟩ := obind hf
        obtain ⟨⟨v374 | k375, h376⟩, g371, hf⟩ := obind hf
        rotate_left
        · exact nomatch (show (none : Option (Int32 × fSt)) = some _ from hf)
        replace hf := fci hf
        refine fr_callVX hx hb hml hts hown K hC hR ct_7 (c_X7_placeOf hfl D cA g371) 1 q373 kw302 kw299 kw300 kw301 kw23 (by decide +kernel) ⟨by omega, by omega⟩ rfl hl.1 (cat8 _ (by exact Nat.le_of_ble_eq_true rfl)) dL_law_189 rfl (fun H locs _ _ hC => ?_)
        refine lv_iload hx hb dL_law_192 (lv_at hl 9 rfl) ?_
        refine lv_icmp_eq (tgt := 199) hx hb dL_law_194 (by decide) (fun c377 => ?_) (fun c377 => ?_)
        · replace hf := opos c377 hf
          refine fr_aload hx hb dL_law_199 (lv_at hl 8 rfl) ?_
          refine lv_iload hx hb dL_law_201 (lv_at hl 0 rfl) ?_
          refine lv_iconst (v := (1 : Int32)) hx hb dL_law_203 (by decide) ?_
          obtain ⟨h378, g379, hf⟩ := obind hf
          refine fr_zast hx hb K hC (t := 1) rfl g379 dL_law_204 (fun H locs hC => ?_)
          refine lv_iload hx hb dL_law_205 (lv_at hl 0 rfl) ?_
          refine lv_if_le (tgt := 253) hx hb dL_law_207 (by decide) (fun c380 => ?_) (fun c380 => ?_)
          · replace hf := opos c380 hf
            exact w_L_law_L253 M hfl hRf hRl hend hk2 hk69 hk163 _ _ _ _ _ _ _ _ _ _ hf _ _ _ _ _ hC (lv_sub hl [1, 2, 3, 4, 5, 6, 7, 8, 9] rfl)
          · replace hf := oneg c380 hf
            refine fr_aload_n hx hb dL_law_210 rfl (lv_at hl 4 rfl) ?_
            refine fr_aload_n hx hb dL_law_211 rfl (lv_at hl 4 rfl) ?_
            refine lv_iload hx hb dL_law_212 (lv_at hl 0 rfl) ?_
            obtain ⟨b383, q384, hf⟩ := obind hf
            obtain ⟨⟨v385 | k386, h387⟩, g382, hf⟩ := obind hf
            rotate_left
            · exact nomatch (show (none : Option (Int32 × fSt)) = some _ from hf)
            replace hf := fci hf
            refine fr_callVX hx hb hml hts hown K hC hR ct_7 (c_X7_parent hfl D cA g382) 1 q384 kw46 kw43 kw44 kw45 kw23 (by decide +kernel) ⟨by omega, by omega⟩ rfl hl.1 (cat8 _ (by exact Nat.le_of_ble_eq_true rfl)) dL_law_214 rfl (fun H locs _ _ hC => ?_)
            obtain ⟨b390, q391, hf⟩ := obind hf
            obtain ⟨⟨v392 | k393, h394⟩, g389, hf⟩ := obind hf
            rotate_left
            · exact nomatch (show (none : Option (Int32 × fSt)) = some _ from hf)
            replace hf := fci hf
            refine fr_callVX hx hb hml hts hown K hC hR ct_7 (c_X7_placeOf hfl D cA g389) 1 q391 kw302 kw299 kw300 kw301 kw23 (by decide +kernel) ⟨by omega, by omega⟩ rfl hl.1 (cat8 _ (by exact Nat.le_of_ble_eq_true rfl)) dL_law_217 rfl (fun H locs _ _ hC => ?_)
            refine lv_iload hx hb dL_law_220 (lv_at hl 9 rfl) ?_
            refine lv_icmp_le (tgt := 229) hx hb dL_law_222 (by decide) (fun c395 => ?_) (fun c395 => ?_)
            · replace hf := opos c395 hf
              refine lv_iconst (v := (0 : Int32)) hx hb dL_law_229 (by decide) ?_
              exact w_L_law_L230 M hfl hRf hRl hend hk2 hk69 hk163 _ _ _ _ _ _ _ _ _ _ _ _ hf _ _ _ _ _ hC (lv_sub hl [1, 2, 3, 4, 5, 6, 7, 8, 9, 0] rfl)
            · replace hf := oneg c395 hf
              refine lv_iconst (v := (1 : Int32)) hx hb dL_law_225 (by decide) ?_
              refine lv_goto (tgt := 230) hx hb dL_law_226 (by decide) ?_
              exact w_L_law_L230 M hfl hRf hRl hend hk2 hk69 hk163 _ _ _ _ _ _ _ _ _ _ _ _ hf _ _ _ _ _ hC (lv_sub hl [1, 2, 3, 4, 5, 6, 7, 8, 9, 0] rfl)
        · replace hf := oneg c377 hf
          exact w_L_law_L197 M hfl hRf hRl hend _ hf _ _ _ _ _ hC (lv_sub hl [] rfl)
set_option maxHeartbeats 4000000 in
set_option maxRecDepth 100000 in
theorem w_L_law_L140 {p : Program} {l : Launch} {e : Env} {s : State} {m : MethodId} {args : Array Value} {below : List Frame} {meth : Method} {c : Code} {D : va_G} {cA : Nat → ClassId} {h0 : fSt} {r : (Int32 × fSt)} {Q : State → Prop} {R : Room} (M : fM p s m args meth c D cA h0 R cL_law 23 (some (.boolean)) RL) (hfl : l.stackTraces = false) (hRf : 28 ≤ R.frames) (hRl : 693 ≤ R.locals) (hend : ∀ (x : Int32) (h : fSt) (H : Heap) (locs : List Loc) (cells slots : Nat) (ls : Array Slot) (pc : Nat), (x, h) = r → fCur D cA s h0 h H locs → decode code pc = .ok (.ireturn, 1) → W p l e R s m args below meth c H locs cells slots Q (F0 m pc ls [.int x])) {k2 : Option Nat → Int32 → fSt → Option (Int32 × fSt)} (hk2 : ∀ (a0 : Option Nat) (a1 : Int32) (h : fSt), k2 a0 a1 h = some r → ∀ (H : Heap) (locs : List Loc) (cells slots : Nat) (ls : Array Slot), fCur D cA s h0 h H locs → lv_has ls 23 [(0, va_rf a0), (1, .int a1)] → W p l e R s m args below meth c H locs cells slots Q (F0 m 2 ls [])) {k69 : Option Nat → Int32 → Option Nat → Option Nat → Int32 → fSt → Option (Int32 × fSt)} (hk69 : ∀ (a0 : Option Nat) (a1 : Int32) (a2 : Option Nat) (a3 : Option Nat) (a4 : Int32) (h : fSt), k69 a0 a1 a2 a3 a4 h = some r → ∀ (H : Heap) (locs : List Loc) (cells slots : Nat) (ls : Array Slot), fCur D cA s h0 h H locs → lv_has ls 23 [(0, va_rf a0), (1, .int a1), (2, va_rf a2), (3, va_rf a3), (4, .int a4)] → W p l e R s m args below meth c H locs cells slots Q (F0 m 69 ls [])) (a0 : Option Nat) (a1 : Int32) (a2 : Option Nat) (a3 : Option Nat) (a4 : Int32) (h : fSt) (hf : f_L_law_L140 k2 k69 a0 a1 a2 a3 a4 h = some r) : ∀ (H : Heap) (locs : List Loc) (cells slots : Nat) (ls : Array Slot), fCur D cA s h0 h H locs → lv_has ls 23 [(0, va_rf a0), (1, .int a1), (2, va_rf a2), (3, va_rf a3), (4, .int a4)] → W p l e R s m args below meth c H locs cells slots Q (F0 m 140 ls []) := by
  obtain ⟨hx, hb, hml, hr, hlocks, hts, hown, K, hR⟩ := id M
  intro H locs cells slots ls hC hl
  refine fr_aload_n hx hb dL_law_140 rfl (lv_at hl 3 rfl) ?_
  obtain ⟨b398, q399, hf⟩ := obind hf
  obtain ⟨r396, g397, hf⟩ := obind hf
  refine fr_callV hx hb hml hts hown K hC hR ct_7 (c_X7_digest hfl D cA g397) 0 q399 kw374 kw371 kw372 kw373 kw23 (by decide +kernel) ⟨by omega, by omega⟩ rfl hl.1 (cat8 _ (by exact Nat.le_of_ble_eq_true rfl)) dL_law_141 rfl (fun H locs _ _ hC => ?_)
  refine lv_lstore (lv' := [(5, .long r396.1), (0, va_rf a0), (1, .int a1), (2, va_rf a2), (3, va_rf a3), (4, .int a4)]) hx hb dL_law_144 hl (by decide) (congrArg (List.cons _) (flk rfl (flk rfl (flk rfl (flk rfl (flk rfl fln)))))) (fun ls hl => ?_)
  refine fr_aload_n hx hb dL_law_146 rfl (lv_at hl 4 rfl) ?_
  obtain ⟨b402, q403, hf⟩ := obind hf
  obtain ⟨r400, g401, hf⟩ := obind hf
  refine fr_callV hx hb hml hts hown K hC hR ct_7 (c_X7_nodes hfl D cA g401) 0 q403 kw42 kw39 kw40 kw41 kw23 (by decide +kernel) ⟨by omega, by omega⟩ rfl hl.1 (cat8 _ (by exact Nat.le_of_ble_eq_true rfl)) dL_law_147 rfl (fun H locs _ _ hC => ?_)
  refine lv_istore (lv' := [(7, .int r400.1), (5, .long r396.1), (0, va_rf a0), (1, .int a1), (2, va_rf a2), (3, va_rf a3), (4, .int a4)]) hx hb dL_law_150 hl (by decide) (congrArg (List.cons _) (flk rfl (flk rfl (flk rfl (flk rfl (flk rfl (flk rfl fln))))))) (fun ls hl => ?_)
  refine fr_aload_n hx hb dL_law_152 rfl (lv_at hl 4 rfl) ?_
  obtain ⟨x404, g405, hf⟩ := obind hf
  refine fr_get hx hb hts hown K hC ct_8 (fgI_get g405) (by decide) kw660 rfl dL_law_153 ?_
  by_cases c406 : x404 < 0 ∨ 67000000 < (x404).toNatClampNeg
  · exact nomatch (opos c406 hf)
  obtain ⟨r407, g408, hf⟩ := obind (oneg c406 hf)
  refine fr_newa hx hb hts K hC hR (atype := .boolean) (t := 1) rfl kw701 (fun _ => rfl) rfl (fun z => c406 (Or.inl z)) g408 (newa_b (fun z => c406 (Or.inr z)) (Nat.le_of_ble_eq_true rfl)) dL_law_156 (fun H _ _ hC => ?_)
  refine fr_astore (lv' := [(8, va_rf (some r407.1)), (7, .int r400.1), (5, .long r396.1), (0, va_rf a0), (1, .int a1), (2, va_rf a2), (3, va_rf a3), (4, .int a4)]) hx hb dL_law_158 hl (by decide) (congrArg (List.cons _) (flk rfl (flk rfl (flk rfl (flk rfl (flk rfl (flk rfl (flk rfl fln)))))))) (fun ls hl => ?_)
  refine lv_iconst (v := (0 : Int32)) hx hb dL_law_160 (by decide) ?_
  refine lv_istore (lv' := [(9, .int (0 : Int32)), (8, va_rf (some r407.1)), (7, .int r400.1), (5, .long r396.1), (0, va_rf a0), (1, .int a1), (2, va_rf a2), (3, va_rf a3), (4, .int a4)]) hx hb dL_law_161 hl (by decide) (congrArg (List.cons _) (flk (adj1 _ _) (flk rfl (flk rfl (flk rfl (flk rfl (flk rfl (flk rfl (flk rfl fln))))))))) (fun ls hl => ?_)
  exact w_L_law_L163 M hfl hRf hRl hend hk2 hk69 4096 _ _ _ _ _ _ _ _ _ _ hf _ _ _ _ _ hC (lv_sub hl [4, 5, 6, 7, 8, 3, 2, 1, 0] rfl)
set_option maxHeartbeats 4000000 in
set_option maxRecDepth 100000 in
theorem w_L_law_L138 {p : Program} {l : Launch} {e : Env} {s : State} {m : MethodId} {args : Array Value} {below : List Frame} {meth : Method} {c : Code} {D : va_G} {cA : Nat → ClassId} {h0 : fSt} {r : (Int32 × fSt)} {Q : State → Prop} {R : Room} (M : fM p s m args meth c D cA h0 R cL_law 23 (some (.boolean)) RL) (hfl : l.stackTraces = false) (hRf : 28 ≤ R.frames) (hRl : 693 ≤ R.locals) (hend : ∀ (x : Int32) (h : fSt) (H : Heap) (locs : List Loc) (cells slots : Nat) (ls : Array Slot) (pc : Nat), (x, h) = r → fCur D cA s h0 h H locs → decode code pc = .ok (.ireturn, 1) → W p l e R s m args below meth c H locs cells slots Q (F0 m pc ls [.int x]))  (h : fSt) (hf : f_L_law_L138  h = some r) : ∀ (H : Heap) (locs : List Loc) (cells slots : Nat) (ls : Array Slot), fCur D cA s h0 h H locs → lv_has ls 23 [] → W p l e R s m args below meth c H locs cells slots Q (F0 m 138 ls []) := by
  obtain ⟨hx, hb, hml, hr, hlocks, hts, hown, K, hR⟩ := id M
  intro H locs cells slots ls hC hl
  refine lv_iconst (v := (0 : Int32)) hx hb dL_law_138 (by decide) ?_
  exact hend _ _ _ _ _ _ _ _ (Option.some.inj hf) hC dL_law_139
set_option maxHeartbeats 4000000 in
set_option maxRecDepth 100000 in
theorem w_L_law_L69 {p : Program} {l : Launch} {e : Env} {s : State} {m : MethodId} {args : Array Value} {below : List Frame} {meth : Method} {c : Code} {D : va_G} {cA : Nat → ClassId} {h0 : fSt} {r : (Int32 × fSt)} {Q : State → Prop} {R : Room} (M : fM p s m args meth c D cA h0 R cL_law 23 (some (.boolean)) RL) (hfl : l.stackTraces = false) (hRf : 28 ≤ R.frames) (hRl : 693 ≤ R.locals) (hend : ∀ (x : Int32) (h : fSt) (H : Heap) (locs : List Loc) (cells slots : Nat) (ls : Array Slot) (pc : Nat), (x, h) = r → fCur D cA s h0 h H locs → decode code pc = .ok (.ireturn, 1) → W p l e R s m args below meth c H locs cells slots Q (F0 m pc ls [.int x])) {k2 : Option Nat → Int32 → fSt → Option (Int32 × fSt)} (hk2 : ∀ (a0 : Option Nat) (a1 : Int32) (h : fSt), k2 a0 a1 h = some r → ∀ (H : Heap) (locs : List Loc) (cells slots : Nat) (ls : Array Slot), fCur D cA s h0 h H locs → lv_has ls 23 [(0, va_rf a0), (1, .int a1)] → W p l e R s m args below meth c H locs cells slots Q (F0 m 2 ls [])) : ∀ (n : Nat) (a0 : Option Nat) (a1 : Int32) (a2 : Option Nat) (a3 : Option Nat) (a4 : Int32) (h : fSt), f_L_law_L69 k2 n a0 a1 a2 a3 a4 h = some r → ∀ (H : Heap) (locs : List Loc) (cells slots : Nat) (ls : Array Slot), fCur D cA s h0 h H locs → lv_has ls 23 [(0, va_rf a0), (1, .int a1), (2, va_rf a2), (3, va_rf a3), (4, .int a4)] → W p l e R s m args below meth c H locs cells slots Q (F0 m 69 ls []) := by
  obtain ⟨hx, hb, hml, hr, hlocks, hts, hown, K, hR⟩ := id M
  intro n
  induction n with
  | zero =>
    intro a0 a1 a2 a3 a4 h hf
    exact nomatch (show (none : Option (Int32 × fSt)) = some r from hf)
  | succ n hk69 =>
    intro a0 a1 a2 a3 a4 h hf H locs cells slots ls hC hl
    refine lv_iload hx hb dL_law_69 (lv_at hl 4 rfl) ?_
    refine lv_bipush (v := (6 : Int32)) hx hb dL_law_71 (by decide) ?_
    refine lv_icmp_ge (tgt := 1057) hx hb dL_law_73 (by decide) (fun c409 => ?_) (fun c409 => ?_)
    · replace hf := opos c409 hf
      refine lv_iinc (v := (a1 + (1 : Int32))) (lv' := [(1, .int (a1 + (1 : Int32))), (0, va_rf a0), (2, va_rf a2), (3, va_rf a3), (4, .int a4)]) hx hb dL_law_1057 hl (k := 1) rfl rfl (by decide) (congrArg (List.cons _) (flk (adj1 _ _) (fld rfl (flk rfl (flk rfl (flk rfl fln)))))) (fun ls hl => ?_)
      refine lv_goto (tgt := 2) hx hb dL_law_1060 (by decide) ?_
      exact hk2 _ _ _ hf _ _ _ _ _ hC (lv_sub hl [1, 0] rfl)
    · replace hf := oneg c409 hf
      refine fr_aload_n hx hb dL_law_76 rfl (lv_at hl 2 rfl) ?_
      refine fr_aload_n hx hb dL_law_77 rfl (lv_at hl 2 rfl) ?_
      refine lv_bipush (v := (60 : Int32)) hx hb dL_law_78 (by decide) ?_
      obtain ⟨b412, q413, hf⟩ := obind hf
      obtain ⟨r410, g411, hf⟩ := obind hf
      refine fr_callV hx hb hml hts hown K hC hR ct_8 (c_X8_draw hfl D cA g411) 1 q413 kw706 kw703 kw704 kw705 kw22 (by decide +kernel) ⟨by omega, by omega⟩ rfl hl.1 (cat8 _ (by exact Nat.le_of_ble_eq_true rfl)) dL_law_80 rfl (fun H locs _ _ hC => ?_)
      obtain ⟨h414, g415, hf⟩ := obind hf
      refine fr_put hx hb hts hown K hC ct_8 g415 (by decide) kw671 rfl rfl rfl rfl dL_law_83 (fun H locs hC => ?_)
      refine fr_aload_n hx hb dL_law_86 rfl (lv_at hl 3 rfl) ?_
      refine fr_aload_n hx hb dL_law_87 rfl (lv_at hl 2 rfl) ?_
      obtain ⟨x416, g417, hf⟩ := obind hf
      refine fr_get hx hb hts hown K hC ct_8 (fgI_get g417) (by decide) kw671 rfl dL_law_88 ?_
      obtain ⟨b420, q421, hf⟩ := obind hf
      obtain ⟨⟨v422 | k423, h424⟩, g419, hf⟩ := obind hf
      rotate_left
      · exact nomatch (show (none : Option (Int32 × fSt)) = some _ from hf)
      replace hf := fci hf
      refine fr_callVX hx hb hml hts hown K hC hR ct_7 (c_X7_setTime hfl D cA g419) 1 q421 kw148 kw145 kw146 kw147 kw23 (by decide +kernel) ⟨by omega, by omega⟩ rfl hl.1 (cat8 _ (by exact Nat.le_of_ble_eq_true rfl)) dL_law_91 rfl (fun H locs _ _ hC => ?_)
      refine lv_pop hx hb dL_law_94 rfl ?_
      refine fr_aload_n hx hb dL_law_95 rfl (lv_at hl 2 rfl) ?_
      refine lv_iconst (v := (5 : Int32)) hx hb dL_law_96 (by decide) ?_
      obtain ⟨b427, q428, hf⟩ := obind hf
      obtain ⟨r425, g426, hf⟩ := obind hf
      refine fr_callV hx hb hml hts hown K hC hR ct_8 (c_X8_draw hfl D cA g426) 1 q428 kw706 kw703 kw704 kw705 kw22 (by decide +kernel) ⟨by omega, by omega⟩ rfl hl.1 (cat8 _ (by exact Nat.le_of_ble_eq_true rfl)) dL_law_97 rfl (fun H locs _ _ hC => ?_)
      refine lv_if_ne (tgt := 113) hx hb dL_law_100 (by decide) (fun c429 => ?_) (fun c429 => ?_)
      · replace hf := oneg c429 hf
        refine fr_aload_n hx hb dL_law_113 rfl (lv_at hl 2 rfl) ?_
        refine lv_iconst (v := (3 : Int32)) hx hb dL_law_114 (by decide) ?_
        obtain ⟨b432, q433, hf⟩ := obind hf
        obtain ⟨r430, g431, hf⟩ := obind hf
        refine fr_callV hx hb hml hts hown K hC hR ct_8 (c_X8_draw hfl D cA g431) 1 q433 kw706 kw703 kw704 kw705 kw22 (by decide +kernel) ⟨by omega, by omega⟩ rfl hl.1 (cat8 _ (by exact Nat.le_of_ble_eq_true rfl)) dL_law_115 rfl (fun H locs _ _ hC => ?_)
        refine lv_if_ne (tgt := 131) hx hb dL_law_118 (by decide) (fun c434 => ?_) (fun c434 => ?_)
        · replace hf := oneg c434 hf
          refine fr_aload_n hx hb dL_law_131 rfl (lv_at hl 2 rfl) ?_
          obtain ⟨b437, q438, hf⟩ := obind hf
          obtain ⟨r435, g436, hf⟩ := obind hf
          refine fr_callV hx hb hml hts hown K hC hR ct_8 (c_X8_change hfl D cA g436) 0 q438 kw779 kw776 kw777 kw778 kw22 (by decide +kernel) ⟨by omega, by omega⟩ rfl hl.1 (cat8 _ (by exact Nat.le_of_ble_eq_true rfl)) dL_law_132 rfl (fun H locs _ _ hC => ?_)
          refine lv_if_ne (tgt := 140) hx hb dL_law_135 (by decide) (fun c439 => ?_) (fun c439 => ?_)
          · replace hf := oneg c439 hf
            exact w_L_law_L140 M hfl hRf hRl hend hk2 hk69 _ _ _ _ _ _ hf _ _ _ _ _ hC (lv_sub hl [0, 1, 2, 3, 4] rfl)
          · replace hf := opos c439 hf
            exact w_L_law_L138 M hfl hRf hRl hend _ hf _ _ _ _ _ hC (lv_sub hl [] rfl)
        · replace hf := opos c434 hf
          refine fr_aload_n hx hb dL_law_121 rfl (lv_at hl 2 rfl) ?_
          obtain ⟨b442, q443, hf⟩ := obind hf
          obtain ⟨r440, g441, hf⟩ := obind hf
          refine fr_callV hx hb hml hts hown K hC hR ct_8 (c_X8_add hfl D cA g441) 0 q443 kw733 kw730 kw731 kw732 kw22 (by decide +kernel) ⟨by omega, by omega⟩ rfl hl.1 (cat8 _ (by exact Nat.le_of_ble_eq_true rfl)) dL_law_122 rfl (fun H locs _ _ hC => ?_)
          refine lv_if_eq (tgt := 138) hx hb dL_law_125 (by decide) (fun c444 => ?_) (fun c444 => ?_)
          · replace hf := opos c444 hf
            exact w_L_law_L138 M hfl hRf hRl hend _ hf _ _ _ _ _ hC (lv_sub hl [] rfl)
          · replace hf := oneg c444 hf
            refine lv_goto (tgt := 140) hx hb dL_law_128 (by decide) ?_
            exact w_L_law_L140 M hfl hRf hRl hend hk2 hk69 _ _ _ _ _ _ hf _ _ _ _ _ hC (lv_sub hl [0, 1, 2, 3, 4] rfl)
      · replace hf := opos c429 hf
        refine fr_aload_n hx hb dL_law_103 rfl (lv_at hl 2 rfl) ?_
        obtain ⟨b447, q448, hf⟩ := obind hf
        obtain ⟨r445, g446, hf⟩ := obind hf
        refine fr_callV hx hb hml hts hown K hC hR ct_8 (c_X8_remove hfl D cA g446) 0 q448 kw862 kw859 kw860 kw861 kw22 (by decide +kernel) ⟨by omega, by omega⟩ rfl hl.1 (cat8 _ (by exact Nat.le_of_ble_eq_true rfl)) dL_law_104 rfl (fun H locs _ _ hC => ?_)
        refine lv_if_eq (tgt := 138) hx hb dL_law_107 (by decide) (fun c449 => ?_) (fun c449 => ?_)
        · replace hf := opos c449 hf
          exact w_L_law_L138 M hfl hRf hRl hend _ hf _ _ _ _ _ hC (lv_sub hl [] rfl)
        · replace hf := oneg c449 hf
          refine lv_goto (tgt := 140) hx hb dL_law_110 (by decide) ?_
          exact w_L_law_L140 M hfl hRf hRl hend hk2 hk69 _ _ _ _ _ _ hf _ _ _ _ _ hC (lv_sub hl [0, 1, 2, 3, 4] rfl)
set_option maxHeartbeats 4000000 in
set_option maxRecDepth 100000 in
theorem w_L_law_L31 {p : Program} {l : Launch} {e : Env} {s : State} {m : MethodId} {args : Array Value} {below : List Frame} {meth : Method} {c : Code} {D : va_G} {cA : Nat → ClassId} {h0 : fSt} {r : (Int32 × fSt)} {Q : State → Prop} {R : Room} (M : fM p s m args meth c D cA h0 R cL_law 23 (some (.boolean)) RL) (hfl : l.stackTraces = false) (hRf : 28 ≤ R.frames) (hRl : 693 ≤ R.locals) (hend : ∀ (x : Int32) (h : fSt) (H : Heap) (locs : List Loc) (cells slots : Nat) (ls : Array Slot) (pc : Nat), (x, h) = r → fCur D cA s h0 h H locs → decode code pc = .ok (.ireturn, 1) → W p l e R s m args below meth c H locs cells slots Q (F0 m pc ls [.int x])) {k2 : Option Nat → Int32 → fSt → Option (Int32 × fSt)} (hk2 : ∀ (a0 : Option Nat) (a1 : Int32) (h : fSt), k2 a0 a1 h = some r → ∀ (H : Heap) (locs : List Loc) (cells slots : Nat) (ls : Array Slot), fCur D cA s h0 h H locs → lv_has ls 23 [(0, va_rf a0), (1, .int a1)] → W p l e R s m args below meth c H locs cells slots Q (F0 m 2 ls [])) : ∀ (n : Nat) (a0 : Option Nat) (a1 : Int32) (a2 : Option Nat) (a3 : Option Nat) (a4 : Int32) (h : fSt), f_L_law_L31 k2 n a0 a1 a2 a3 a4 h = some r → ∀ (H : Heap) (locs : List Loc) (cells slots : Nat) (ls : Array Slot), fCur D cA s h0 h H locs → lv_has ls 23 [(0, va_rf a0), (1, .int a1), (2, va_rf a2), (3, va_rf a3), (4, .int a4)] → W p l e R s m args below meth c H locs cells slots Q (F0 m 31 ls []) := by
  obtain ⟨hx, hb, hml, hr, hlocks, hts, hown, K, hR⟩ := id M
  intro n
  induction n with
  | zero =>
    intro a0 a1 a2 a3 a4 h hf
    exact nomatch (show (none : Option (Int32 × fSt)) = some r from hf)
  | succ n hk31 =>
    intro a0 a1 a2 a3 a4 h hf H locs cells slots ls hC hl
    refine lv_iload hx hb dL_law_31 (lv_at hl 4 rfl) ?_
    refine lv_iconst (v := (5 : Int32)) hx hb dL_law_33 (by decide) ?_
    refine lv_icmp_ge (tgt := 66) hx hb dL_law_34 (by decide) (fun c450 => ?_) (fun c450 => ?_)
    · replace hf := opos c450 hf
      refine lv_iconst (v := (0 : Int32)) hx hb dL_law_66 (by decide) ?_
      refine lv_istore (lv' := [(4, .int (0 : Int32)), (0, va_rf a0), (1, .int a1), (2, va_rf a2), (3, va_rf a3)]) hx hb dL_law_67 hl (by decide) (congrArg (List.cons _) (flk rfl (flk rfl (flk rfl (flk (adj1 _ _) (fld rfl fln)))))) (fun ls hl => ?_)
      exact w_L_law_L69 M hfl hRf hRl hend hk2 4096 _ _ _ _ _ _ hf _ _ _ _ _ hC (lv_sub hl [1, 2, 3, 4, 0] rfl)
    · replace hf := oneg c450 hf
      refine fr_aload_n hx hb dL_law_37 rfl (lv_at hl 2 rfl) ?_
      obtain ⟨b453, q454, hf⟩ := obind hf
      obtain ⟨r451, g452, hf⟩ := obind hf
      refine fr_callV hx hb hml hts hown K hC hR ct_8 (c_X8_add hfl D cA g452) 0 q454 kw733 kw730 kw731 kw732 kw22 (by decide +kernel) ⟨by omega, by omega⟩ rfl hl.1 (cat8 _ (by exact Nat.le_of_ble_eq_true rfl)) dL_law_38 rfl (fun H locs _ _ hC => ?_)
      refine lv_if_eq (tgt := 58) hx hb dL_law_41 (by decide) (fun c455 => ?_) (fun c455 => ?_)
      · replace hf := opos c455 hf
        exact w_L_law_L58 M hfl hRf hRl hend _ hf _ _ _ _ _ hC (lv_sub hl [] rfl)
      · replace hf := oneg c455 hf
        refine fr_aload_n hx hb dL_law_44 rfl (lv_at hl 2 rfl) ?_
        obtain ⟨b458, q459, hf⟩ := obind hf
        obtain ⟨r456, g457, hf⟩ := obind hf
        refine fr_callV hx hb hml hts hown K hC hR ct_8 (c_X8_addTrack hfl D cA g457) 0 q459 kw878 kw875 kw876 kw877 kw22 (by decide +kernel) ⟨by omega, by omega⟩ rfl hl.1 (cat8 _ (by exact Nat.le_of_ble_eq_true rfl)) dL_law_45 rfl (fun H locs _ _ hC => ?_)
        refine lv_if_eq (tgt := 58) hx hb dL_law_48 (by decide) (fun c460 => ?_) (fun c460 => ?_)
        · replace hf := opos c460 hf
          exact w_L_law_L58 M hfl hRf hRl hend _ hf _ _ _ _ _ hC (lv_sub hl [] rfl)
        · replace hf := oneg c460 hf
          refine fr_aload_n hx hb dL_law_51 rfl (lv_at hl 2 rfl) ?_
          obtain ⟨b463, q464, hf⟩ := obind hf
          obtain ⟨r461, g462, hf⟩ := obind hf
          refine fr_callV hx hb hml hts hown K hC hR ct_8 (c_X8_change hfl D cA g462) 0 q464 kw779 kw776 kw777 kw778 kw22 (by decide +kernel) ⟨by omega, by omega⟩ rfl hl.1 (cat8 _ (by exact Nat.le_of_ble_eq_true rfl)) dL_law_52 rfl (fun H locs _ _ hC => ?_)
          refine lv_if_ne (tgt := 60) hx hb dL_law_55 (by decide) (fun c465 => ?_) (fun c465 => ?_)
          · replace hf := oneg c465 hf
            refine lv_iinc (v := (a4 + (1 : Int32))) (lv' := [(4, .int (a4 + (1 : Int32))), (0, va_rf a0), (1, .int a1), (2, va_rf a2), (3, va_rf a3)]) hx hb dL_law_60 hl (k := 4) rfl rfl (by decide) (congrArg (List.cons _) (flk rfl (flk rfl (flk rfl (flk (adj1 _ _) (fld rfl fln)))))) (fun ls hl => ?_)
            refine lv_goto (tgt := 31) hx hb dL_law_63 (by decide) ?_
            exact hk31 _ _ _ _ _ _ hf _ _ _ _ _ hC (lv_sub hl [1, 2, 3, 4, 0] rfl)
          · replace hf := opos c465 hf
            exact w_L_law_L58 M hfl hRf hRl hend _ hf _ _ _ _ _ hC (lv_sub hl [] rfl)
set_option maxHeartbeats 4000000 in
set_option maxRecDepth 100000 in
theorem w_L_law_L2 {p : Program} {l : Launch} {e : Env} {s : State} {m : MethodId} {args : Array Value} {below : List Frame} {meth : Method} {c : Code} {D : va_G} {cA : Nat → ClassId} {h0 : fSt} {r : (Int32 × fSt)} {Q : State → Prop} {R : Room} (M : fM p s m args meth c D cA h0 R cL_law 23 (some (.boolean)) RL) (hfl : l.stackTraces = false) (hRf : 28 ≤ R.frames) (hRl : 693 ≤ R.locals) (hend : ∀ (x : Int32) (h : fSt) (H : Heap) (locs : List Loc) (cells slots : Nat) (ls : Array Slot) (pc : Nat), (x, h) = r → fCur D cA s h0 h H locs → decode code pc = .ok (.ireturn, 1) → W p l e R s m args below meth c H locs cells slots Q (F0 m pc ls [.int x])) : ∀ (n : Nat) (a0 : Option Nat) (a1 : Int32) (h : fSt), f_L_law_L2 n a0 a1 h = some r → ∀ (H : Heap) (locs : List Loc) (cells slots : Nat) (ls : Array Slot), fCur D cA s h0 h H locs → lv_has ls 23 [(0, va_rf a0), (1, .int a1)] → W p l e R s m args below meth c H locs cells slots Q (F0 m 2 ls []) := by
  obtain ⟨hx, hb, hml, hr, hlocks, hts, hown, K, hR⟩ := id M
  intro n
  induction n with
  | zero =>
    intro a0 a1 h hf
    exact nomatch (show (none : Option (Int32 × fSt)) = some r from hf)
  | succ n hk2 =>
    intro a0 a1 h hf H locs cells slots ls hC hl
    refine lv_iload_n hx hb dL_law_2 rfl (lv_at hl 1 rfl) ?_
    refine lv_iconst (v := (2 : Int32)) hx hb dL_law_3 (by decide) ?_
    refine lv_icmp_ge (tgt := 1063) hx hb dL_law_4 (by decide) (fun c466 => ?_) (fun c466 => ?_)
    · replace hf := opos c466 hf
      refine lv_iconst (v := (1 : Int32)) hx hb dL_law_1063 (by decide) ?_
      exact hend _ _ _ _ _ _ _ _ (Option.some.inj hf) hC dL_law_1064
    · replace hf := oneg c466 hf
      obtain ⟨r467, g468, hf⟩ := obind hf
      refine fr_new hx hb hts hown K hC ct_8 hR g468 dv_8 kw398 kw399 kw22 dL_law_7 (fun H _ _ hC => ?_)
      refine lv_dup hx hb dL_law_10 (va_rf_cat _) ?_
      refine fr_aload_n hx hb dL_law_11 rfl (lv_at hl 0 rfl) ?_
      refine lv_bipush (v := (31 : Int32)) hx hb dL_law_12 (by decide) ?_
      refine lv_iload_n hx hb dL_law_14 rfl (lv_at hl 1 rfl) ?_
      refine lv_imul hx hb dL_law_15 ?_
      refine lv_bipush (v := (7 : Int32)) hx hb dL_law_16 (by decide) ?_
      refine lv_iadd hx hb dL_law_18 ?_
      obtain ⟨r469, g470, hf⟩ := obind hf
      refine fr_callI hx hb hml hts hown K hC hR (c_X8_init hfl D cA g470) 2 kw402 kw400 kw401 kw22 rfl (by decide +kernel) ⟨by omega, by omega⟩ rfl hl.1 (cat8 _ (by exact Nat.le_of_ble_eq_true rfl)) dL_law_19 rfl (fun H locs _ _ hC => ?_)
      refine fr_astore_n (lv' := [(2, va_rf (some r467.1)), (0, va_rf a0), (1, .int a1)]) hx hb dL_law_22 rfl hl (by decide) (congrArg (List.cons _) (flk rfl (flk rfl fln))) (fun ls hl => ?_)
      refine fr_aload_n hx hb dL_law_23 rfl (lv_at hl 0 rfl) ?_
      obtain ⟨x471, g472, hf⟩ := obind hf
      refine fr_get hx hb hts hown K hC ct_8 (fgR_get g472) (by decide) kw656 rfl dL_law_24 ?_
      refine fr_astore_n (lv' := [(3, va_rf x471), (2, va_rf (some r467.1)), (0, va_rf a0), (1, .int a1)]) hx hb dL_law_27 rfl hl (by decide) (congrArg (List.cons _) (flk (adj1 _ _) (flk rfl (flk rfl fln)))) (fun ls hl => ?_)
      refine lv_iconst (v := (0 : Int32)) hx hb dL_law_28 (by decide) ?_
      refine lv_istore (lv' := [(4, .int (0 : Int32)), (3, va_rf x471), (2, va_rf (some r467.1)), (0, va_rf a0), (1, .int a1)]) hx hb dL_law_29 hl (by decide) (congrArg (List.cons _) (flk (adj1 _ _) (flk rfl (flk rfl (flk rfl fln))))) (fun ls hl => ?_)
      exact w_L_law_L31 M hfl hRf hRl hend hk2 4096 _ _ _ _ _ _ hf _ _ _ _ _ hC (lv_sub hl [3, 4, 2, 1, 0] rfl)
set_option maxHeartbeats 4000000 in
set_option maxRecDepth 100000 in
theorem w_L_law_L0 {p : Program} {l : Launch} {e : Env} {s : State} {m : MethodId} {args : Array Value} {below : List Frame} {meth : Method} {c : Code} {D : va_G} {cA : Nat → ClassId} {h0 : fSt} {r : (Int32 × fSt)} {Q : State → Prop} {R : Room} (M : fM p s m args meth c D cA h0 R cL_law 23 (some (.boolean)) RL) (hfl : l.stackTraces = false) (hRf : 28 ≤ R.frames) (hRl : 693 ≤ R.locals) (hend : ∀ (x : Int32) (h : fSt) (H : Heap) (locs : List Loc) (cells slots : Nat) (ls : Array Slot) (pc : Nat), (x, h) = r → fCur D cA s h0 h H locs → decode code pc = .ok (.ireturn, 1) → W p l e R s m args below meth c H locs cells slots Q (F0 m pc ls [.int x])) (a0 : Option Nat) (h : fSt) (hf : f_L_law_L0 a0 h = some r) : ∀ (H : Heap) (locs : List Loc) (cells slots : Nat) (ls : Array Slot), fCur D cA s h0 h H locs → lv_has ls 23 [(0, va_rf a0)] → W p l e R s m args below meth c H locs cells slots Q (F0 m 0 ls []) := by
  obtain ⟨hx, hb, hml, hr, hlocks, hts, hown, K, hR⟩ := id M
  intro H locs cells slots ls hC hl
  refine lv_iconst (v := (0 : Int32)) hx hb dL_law_0 (by decide) ?_
  refine lv_istore_n (lv' := [(1, .int (0 : Int32)), (0, va_rf a0)]) hx hb dL_law_1 rfl hl (by decide) (congrArg (List.cons _) (flk (adj1 _ _) fln)) (fun ls hl => ?_)
  exact w_L_law_L2 M hfl hRf hRl hend 4096 _ _ _ hf _ _ _ _ _ hC (lv_sub hl [1, 0] rfl)
