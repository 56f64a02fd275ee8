noncomputable def f_L_law_L2859 (L : Nat) (xs : Nat → Int32) (k28 : Option Nat → Option Nat → Option Nat → Option Nat → Int32 → fSt → Option (Int32 × fSt)) (a1 : Option Nat) (a2 : Option Nat) (a3 : Option Nat) (a4 : Option Nat) (a5 : Int32) (h : fSt) : Option (Int32 × fSt) := k28 a1 a2 a3 a4 (a5 + (6 : Int32)) h
noncomputable def f_L_law_L301 (L : Nat) (xs : Nat → Int32) (k28 : Option Nat → Option Nat → Option Nat → Option Nat → Int32 → fSt → Option (Int32 × fSt)) (a1 : Option Nat) (a2 : Option Nat) (a3 : Option Nat) (a4 : Option Nat) (a5 : Int32) (h : fSt) : Option (Int32 × fSt) := f_L_law_L2859 L xs k28 a1 a2 a3 a4 a5 h
noncomputable def f_L_law_L212 (L : Nat) (xs : Nat → Int32) (k28 : Option Nat → Option Nat → Option Nat → Option Nat → Int32 → fSt → Option (Int32 × fSt)) (a1 : Option Nat) (a2 : Option Nat) (a3 : Option Nat) (a4 : Option Nat) (a5 : Int32) (h : fSt) : Option (Int32 × fSt) := (if (a5 + (1 : Int32)) < 0 ∨ L ≤ ((a5 + (1 : Int32))).toNatClampNeg then none else (if (a5 + (2 : Int32)) < 0 ∨ L ≤ ((a5 + (2 : Int32))).toNatClampNeg then none else (if (a5 + (3 : Int32)) < 0 ∨ L ≤ ((a5 + (3 : Int32))).toNatClampNeg then none else (if (a5 + (4 : Int32)) < 0 ∨ L ≤ ((a5 + (4 : Int32))).toNatClampNeg then none else (f_L_add a1 (xs ((a5 + (1 : Int32))).toNatClampNeg) (xs ((a5 + (2 : Int32))).toNatClampNeg) (xs ((a5 + (3 : Int32))).toNatClampNeg) (xs ((a5 + (4 : Int32))).toNatClampNeg) a3 h).bind fun r5 => Sum.elim (fun v7 => (if (a5 + (1 : Int32)) < 0 ∨ L ≤ ((a5 + (1 : Int32))).toNatClampNeg then none else (if (a5 + (2 : Int32)) < 0 ∨ L ≤ ((a5 + (2 : Int32))).toNatClampNeg then none else (if (a5 + (3 : Int32)) < 0 ∨ L ≤ ((a5 + (3 : Int32))).toNatClampNeg then none else (if (a5 + (4 : Int32)) < 0 ∨ L ≤ ((a5 + (4 : Int32))).toNatClampNeg then none else (fobj r5.2 a2 8).bind fun b16 => (f_X8_add b16 (xs ((a5 + (1 : Int32))).toNatClampNeg) (xs ((a5 + (2 : Int32))).toNatClampNeg) (xs ((a5 + (3 : Int32))).toNatClampNeg) (xs ((a5 + (4 : Int32))).toNatClampNeg) r5.2).bind fun r14 => (fobj r14.2 a2 8).bind fun b20 => (f_X8_thrown b20 r14.2).bind fun r18 => (if r18.1 = v7 then (if v7 = 0 then (faJ r18.2 a3 1 (0 : Int32)).bind fun x24 => (if x24 = (Int32.toInt64 r14.1) then f_L_law_L301 L xs k28 a1 a2 a3 a4 a5 r18.2 else some ((0 : Int32), r18.2)) else f_L_law_L301 L xs k28 a1 a2 a3 a4 a5 r18.2) else some ((0 : Int32), r18.2))))))) (fun _ => none) r5.1))))
noncomputable def f_L_law_L357 (L : Nat) (xs : Nat → Int32) (k28 : Option Nat → Option Nat → Option Nat → Option Nat → Int32 → fSt → Option (Int32 × fSt)) (a1 : Option Nat) (a2 : Option Nat) (a3 : Option Nat) (a4 : Option Nat) (a5 : Int32) (h : fSt) : Option (Int32 × fSt) := f_L_law_L2859 L xs k28 a1 a2 a3 a4 a5 h
noncomputable def f_L_law_L304 (L : Nat) (xs : Nat → Int32) (k28 : Option Nat → Option Nat → Option Nat → Option Nat → Int32 → fSt → Option (Int32 × fSt)) (a1 : Option Nat) (a2 : Option Nat) (a3 : Option Nat) (a4 : Option Nat) (a5 : Int32) (h : fSt) : Option (Int32 × fSt) := (if (a5 + (1 : Int32)) < 0 ∨ L ≤ ((a5 + (1 : Int32))).toNatClampNeg then none else (f_L_remove a1 (xs ((a5 + (1 : Int32))).toNatClampNeg) a3 h).bind fun r28 => Sum.elim (fun v30 => (if (a5 + (1 : Int32)) < 0 ∨ L ≤ ((a5 + (1 : Int32))).toNatClampNeg then none else (fobj r28.2 a2 8).bind fun b36 => (f_X8_remove b36 (xs ((a5 + (1 : Int32))).toNatClampNeg) r28.2).bind fun r34 => (fobj r34.2 a2 8).bind fun b40 => (f_X8_thrown b40 r34.2).bind fun r38 => (if r38.1 = v30 then (if v30 = 0 then (faJ r38.2 a3 1 (0 : Int32)).bind fun x44 => (if x44 = (Int32.toInt64 r34.1) then f_L_law_L357 L xs k28 a1 a2 a3 a4 a5 r38.2 else some ((0 : Int32), r38.2)) else f_L_law_L357 L xs k28 a1 a2 a3 a4 a5 r38.2) else some ((0 : Int32), r38.2)))) (fun _ => none) r28.1)
noncomputable def f_L_law_L425 (L : Nat) (xs : Nat → Int32) (k28 : Option Nat → Option Nat → Option Nat → Option Nat → Int32 → fSt → Option (Int32 × fSt)) (a1 : Option Nat) (a2 : Option Nat) (a3 : Option Nat) (a4 : Option Nat) (a5 : Int32) (h : fSt) : Option (Int32 × fSt) := f_L_law_L2859 L xs k28 a1 a2 a3 a4 a5 h
noncomputable def f_L_law_L360 (L : Nat) (xs : Nat → Int32) (k28 : Option Nat → Option Nat → Option Nat → Option Nat → Int32 → fSt → Option (Int32 × fSt)) (a1 : Option Nat) (a2 : Option Nat) (a3 : Option Nat) (a4 : Option Nat) (a5 : Int32) (h : fSt) : Option (Int32 × fSt) := (if (a5 + (1 : Int32)) < 0 ∨ L ≤ ((a5 + (1 : Int32))).toNatClampNeg then none else (if (a5 + (2 : Int32)) < 0 ∨ L ≤ ((a5 + (2 : Int32))).toNatClampNeg then none else (f_L_hang a1 (xs ((a5 + (1 : Int32))).toNatClampNeg) (xs ((a5 + (2 : Int32))).toNatClampNeg) a3 h).bind fun r49 => Sum.elim (fun v51 => (if (a5 + (1 : Int32)) < 0 ∨ L ≤ ((a5 + (1 : Int32))).toNatClampNeg then none else (if (a5 + (2 : Int32)) < 0 ∨ L ≤ ((a5 + (2 : Int32))).toNatClampNeg then none else (fobj r49.2 a2 8).bind fun b58 => (f_X8_hang b58 (xs ((a5 + (1 : Int32))).toNatClampNeg) (xs ((a5 + (2 : Int32))).toNatClampNeg) r49.2).bind fun r56 => (fobj r56.2 a2 8).bind fun b62 => (f_X8_thrown b62 r56.2).bind fun r60 => (if r60.1 = v51 then (if v51 = 0 then (faJ r60.2 a3 1 (0 : Int32)).bind fun x66 => (if x66 = (Int32.toInt64 r56.1) then f_L_law_L425 L xs k28 a1 a2 a3 a4 a5 r60.2 else some ((0 : Int32), r60.2)) else f_L_law_L425 L xs k28 a1 a2 a3 a4 a5 r60.2) else some ((0 : Int32), r60.2))))) (fun _ => none) r49.1))
noncomputable def f_L_law_L505 (L : Nat) (xs : Nat → Int32) (k28 : Option Nat → Option Nat → Option Nat → Option Nat → Int32 → fSt → Option (Int32 × fSt)) (a1 : Option Nat) (a2 : Option Nat) (a3 : Option Nat) (a4 : Option Nat) (a5 : Int32) (h : fSt) : Option (Int32 × fSt) := f_L_law_L2859 L xs k28 a1 a2 a3 a4 a5 h
noncomputable def f_L_law_L428 (L : Nat) (xs : Nat → Int32) (k28 : Option Nat → Option Nat → Option Nat → Option Nat → Int32 → fSt → Option (Int32 × fSt)) (a1 : Option Nat) (a2 : Option Nat) (a3 : Option Nat) (a4 : Option Nat) (a5 : Int32) (h : fSt) : Option (Int32 × fSt) := (if (a5 + (1 : Int32)) < 0 ∨ L ≤ ((a5 + (1 : Int32))).toNatClampNeg then none else (if (a5 + (2 : Int32)) < 0 ∨ L ≤ ((a5 + (2 : Int32))).toNatClampNeg then none else (if (a5 + (3 : Int32)) < 0 ∨ L ≤ ((a5 + (3 : Int32))).toNatClampNeg then none else (f_L_move a1 (xs ((a5 + (1 : Int32))).toNatClampNeg) (xs ((a5 + (2 : Int32))).toNatClampNeg) (xs ((a5 + (3 : Int32))).toNatClampNeg) a3 h).bind fun r72 => Sum.elim (fun v74 => (if (a5 + (1 : Int32)) < 0 ∨ L ≤ ((a5 + (1 : Int32))).toNatClampNeg then none else (if (a5 + (2 : Int32)) < 0 ∨ L ≤ ((a5 + (2 : Int32))).toNatClampNeg then none else (if (a5 + (3 : Int32)) < 0 ∨ L ≤ ((a5 + (3 : Int32))).toNatClampNeg then none else (fobj r72.2 a2 8).bind fun b82 => (f_X8_move b82 (xs ((a5 + (1 : Int32))).toNatClampNeg) (xs ((a5 + (2 : Int32))).toNatClampNeg) (xs ((a5 + (3 : Int32))).toNatClampNeg) r72.2).bind fun r80 => (fobj r80.2 a2 8).bind fun b86 => (f_X8_thrown b86 r80.2).bind fun r84 => (if r84.1 = v74 then (if v74 = 0 then (faJ r84.2 a3 1 (0 : Int32)).bind fun x90 => (if x90 = (Int32.toInt64 r80.1) then f_L_law_L505 L xs k28 a1 a2 a3 a4 a5 r84.2 else some ((0 : Int32), r84.2)) else f_L_law_L505 L xs k28 a1 a2 a3 a4 a5 r84.2) else some ((0 : Int32), r84.2)))))) (fun _ => none) r72.1)))
noncomputable def f_L_law_L585 (L : Nat) (xs : Nat → Int32) (k28 : Option Nat → Option Nat → Option Nat → Option Nat → Int32 → fSt → Option (Int32 × fSt)) (a1 : Option Nat) (a2 : Option Nat) (a3 : Option Nat) (a4 : Option Nat) (a5 : Int32) (h : fSt) : Option (Int32 × fSt) := f_L_law_L2859 L xs k28 a1 a2 a3 a4 a5 h
noncomputable def f_L_law_L508 (L : Nat) (xs : Nat → Int32) (k28 : Option Nat → Option Nat → Option Nat → Option Nat → Int32 → fSt → Option (Int32 × fSt)) (a1 : Option Nat) (a2 : Option Nat) (a3 : Option Nat) (a4 : Option Nat) (a5 : Int32) (h : fSt) : Option (Int32 × fSt) := (if (a5 + (1 : Int32)) < 0 ∨ L ≤ ((a5 + (1 : Int32))).toNatClampNeg then none else (if (a5 + (2 : Int32)) < 0 ∨ L ≤ ((a5 + (2 : Int32))).toNatClampNeg then none else (if (a5 + (3 : Int32)) < 0 ∨ L ≤ ((a5 + (3 : Int32))).toNatClampNeg then none else (f_L_scale a1 (xs ((a5 + (1 : Int32))).toNatClampNeg) (xs ((a5 + (2 : Int32))).toNatClampNeg) (xs ((a5 + (3 : Int32))).toNatClampNeg) a3 h).bind fun r96 => Sum.elim (fun v98 => (if (a5 + (1 : Int32)) < 0 ∨ L ≤ ((a5 + (1 : Int32))).toNatClampNeg then none else (if (a5 + (2 : Int32)) < 0 ∨ L ≤ ((a5 + (2 : Int32))).toNatClampNeg then none else (if (a5 + (3 : Int32)) < 0 ∨ L ≤ ((a5 + (3 : Int32))).toNatClampNeg then none else (fobj r96.2 a2 8).bind fun b106 => (f_X8_scale b106 (xs ((a5 + (1 : Int32))).toNatClampNeg) (xs ((a5 + (2 : Int32))).toNatClampNeg) (xs ((a5 + (3 : Int32))).toNatClampNeg) r96.2).bind fun r104 => (fobj r104.2 a2 8).bind fun b110 => (f_X8_thrown b110 r104.2).bind fun r108 => (if r108.1 = v98 then (if v98 = 0 then (faJ r108.2 a3 1 (0 : Int32)).bind fun x114 => (if x114 = (Int32.toInt64 r104.1) then f_L_law_L585 L xs k28 a1 a2 a3 a4 a5 r108.2 else some ((0 : Int32), r108.2)) else f_L_law_L585 L xs k28 a1 a2 a3 a4 a5 r108.2) else some ((0 : Int32), r108.2)))))) (fun _ => none) r96.1)))
noncomputable def f_L_law_L681 (L : Nat) (xs : Nat → Int32) (k28 : Option Nat → Option Nat → Option Nat → Option Nat → Int32 → fSt → Option (Int32 × fSt)) (a1 : Option Nat) (a2 : Option Nat) (a3 : Option Nat) (a4 : Option Nat) (a5 : Int32) (h : fSt) : Option (Int32 × fSt) := f_L_law_L2859 L xs k28 a1 a2 a3 a4 a5 h
noncomputable def f_L_law_L648 (L : Nat) (xs : Nat → Int32) (k28 : Option Nat → Option Nat → Option Nat → Option Nat → Int32 → fSt → Option (Int32 × fSt)) (a1 : Option Nat) (a2 : Option Nat) (a3 : Option Nat) (a4 : Option Nat) (a5 : Int32) (a6 : Int32) (s3 : Int32) (s2 : Int32) (s1 : Int32) (s0 : Option Nat) (h : fSt) : Option (Int32 × fSt) := (fobj h s0 8).bind fun b119 => (f_X8_turn b119 s1 s2 s3 h).bind fun r117 => (fobj r117.2 a2 8).bind fun b123 => (f_X8_thrown b123 r117.2).bind fun r121 => (if r121.1 = a6 then (if a6 = 0 then (faJ r121.2 a3 1 (0 : Int32)).bind fun x127 => (if x127 = (Int32.toInt64 r117.1) then f_L_law_L681 L xs k28 a1 a2 a3 a4 a5 r121.2 else some ((0 : Int32), r121.2)) else f_L_law_L681 L xs k28 a1 a2 a3 a4 a5 r121.2) else some ((0 : Int32), r121.2))
noncomputable def f_L_law_L615 (L : Nat) (xs : Nat → Int32) (k28 : Option Nat → Option Nat → Option Nat → Option Nat → Int32 → fSt → Option (Int32 × fSt)) (a1 : Option Nat) (a2 : Option Nat) (a3 : Option Nat) (a4 : Option Nat) (a5 : Int32) (s3 : Int32) (s2 : Int32) (s1 : Int32) (s0 : Option Nat) (h : fSt) : Option (Int32 × fSt) := (f_L_turn s0 s1 s2 s3 a3 h).bind fun r130 => Sum.elim (fun v132 => (if (a5 + (1 : Int32)) < 0 ∨ L ≤ ((a5 + (1 : Int32))).toNatClampNeg then none else (if (a5 + (2 : Int32)) < 0 ∨ L ≤ ((a5 + (2 : Int32))).toNatClampNeg then none else (if (a5 + (3 : Int32)) < 0 ∨ L ≤ ((a5 + (3 : Int32))).toNatClampNeg then none else (if (xs ((a5 + (3 : Int32))).toNatClampNeg) = 0 then f_L_law_L648 L xs k28 a1 a2 a3 a4 a5 v132 (0 : Int32) (xs ((a5 + (2 : Int32))).toNatClampNeg) (xs ((a5 + (1 : Int32))).toNatClampNeg) a2 r130.2 else f_L_law_L648 L xs k28 a1 a2 a3 a4 a5 v132 (1 : Int32) (xs ((a5 + (2 : Int32))).toNatClampNeg) (xs ((a5 + (1 : Int32))).toNatClampNeg) a2 r130.2))))) (fun _ => none) r130.1
noncomputable def f_L_law_L588 (L : Nat) (xs : Nat → Int32) (k28 : Option Nat → Option Nat → Option Nat → Option Nat → Int32 → fSt → Option (Int32 × fSt)) (a1 : Option Nat) (a2 : Option Nat) (a3 : Option Nat) (a4 : Option Nat) (a5 : Int32) (h : fSt) : Option (Int32 × fSt) := (if (a5 + (1 : Int32)) < 0 ∨ L ≤ ((a5 + (1 : Int32))).toNatClampNeg then none else (if (a5 + (2 : Int32)) < 0 ∨ L ≤ ((a5 + (2 : Int32))).toNatClampNeg then none else (if (a5 + (3 : Int32)) < 0 ∨ L ≤ ((a5 + (3 : Int32))).toNatClampNeg then none else (if (xs ((a5 + (3 : Int32))).toNatClampNeg) = 0 then f_L_law_L615 L xs k28 a1 a2 a3 a4 a5 (0 : Int32) (xs ((a5 + (2 : Int32))).toNatClampNeg) (xs ((a5 + (1 : Int32))).toNatClampNeg) a1 h else f_L_law_L615 L xs k28 a1 a2 a3 a4 a5 (1 : Int32) (xs ((a5 + (2 : Int32))).toNatClampNeg) (xs ((a5 + (1 : Int32))).toNatClampNeg) a1 h))))
noncomputable def f_L_law_L789 (L : Nat) (xs : Nat → Int32) (k28 : Option Nat → Option Nat → Option Nat → Option Nat → Int32 → fSt → Option (Int32 × fSt)) (a1 : Option Nat) (a2 : Option Nat) (a3 : Option Nat) (a4 : Option Nat) (a5 : Int32) (h : fSt) : Option (Int32 × fSt) := f_L_law_L2859 L xs k28 a1 a2 a3 a4 a5 h
noncomputable def f_L_law_L756 (L : Nat) (xs : Nat → Int32) (k28 : Option Nat → Option Nat → Option Nat → Option Nat → Int32 → fSt → Option (Int32 × fSt)) (a1 : Option Nat) (a2 : Option Nat) (a3 : Option Nat) (a4 : Option Nat) (a5 : Int32) (a6 : Int32) (s4 : Int32) (s3 : Int32) (s2 : Int32) (s1 : Int32) (s0 : Option Nat) (h : fSt) : Option (Int32 × fSt) := (fobj h s0 8).bind fun b145 => (f_X8_look b145 s1 s2 s3 s4 h).bind fun r143 => (fobj r143.2 a2 8).bind fun b149 => (f_X8_thrown b149 r143.2).bind fun r147 => (if r147.1 = a6 then (if a6 = 0 then (faJ r147.2 a3 1 (0 : Int32)).bind fun x153 => (if x153 = (Int32.toInt64 r143.1) then f_L_law_L789 L xs k28 a1 a2 a3 a4 a5 r147.2 else some ((0 : Int32), r147.2)) else f_L_law_L789 L xs k28 a1 a2 a3 a4 a5 r147.2) else some ((0 : Int32), r147.2))
noncomputable def f_L_law_L717 (L : Nat) (xs : Nat → Int32) (k28 : Option Nat → Option Nat → Option Nat → Option Nat → Int32 → fSt → Option (Int32 × fSt)) (a1 : Option Nat) (a2 : Option Nat) (a3 : Option Nat) (a4 : Option Nat) (a5 : Int32) (s4 : Int32) (s3 : Int32) (s2 : Int32) (s1 : Int32) (s0 : Option Nat) (h : fSt) : Option (Int32 × fSt) := (f_L_look s0 s1 s2 s3 s4 a3 h).bind fun r156 => Sum.elim (fun v158 => (if (a5 + (1 : Int32)) < 0 ∨ L ≤ ((a5 + (1 : Int32))).toNatClampNeg then none else (if (a5 + (2 : Int32)) < 0 ∨ L ≤ ((a5 + (2 : Int32))).toNatClampNeg then none else (if (a5 + (3 : Int32)) < 0 ∨ L ≤ ((a5 + (3 : Int32))).toNatClampNeg then none else (if (a5 + (4 : Int32)) < 0 ∨ L ≤ ((a5 + (4 : Int32))).toNatClampNeg then none else (if (xs ((a5 + (4 : Int32))).toNatClampNeg) = 0 then f_L_law_L756 L xs k28 a1 a2 a3 a4 a5 v158 (0 : Int32) (xs ((a5 + (3 : Int32))).toNatClampNeg) (xs ((a5 + (2 : Int32))).toNatClampNeg) (xs ((a5 + (1 : Int32))).toNatClampNeg) a2 r156.2 else f_L_law_L756 L xs k28 a1 a2 a3 a4 a5 v158 (1 : Int32) (xs ((a5 + (3 : Int32))).toNatClampNeg) (xs ((a5 + (2 : Int32))).toNatClampNeg) (xs ((a5 + (1 : Int32))).toNatClampNeg) a2 r156.2)))))) (fun _ => none) r156.1
noncomputable def f_L_law_L684 (L : Nat) (xs : Nat → Int32) (k28 : Option Nat → Option Nat → Option Nat → Option Nat → Int32 → fSt → Option (Int32 × fSt)) (a1 : Option Nat) (a2 : Option Nat) (a3 : Option Nat) (a4 : Option Nat) (a5 : Int32) (h : fSt) : Option (Int32 × fSt) := (if (a5 + (1 : Int32)) < 0 ∨ L ≤ ((a5 + (1 : Int32))).toNatClampNeg then none else (if (a5 + (2 : Int32)) < 0 ∨ L ≤ ((a5 + (2 : Int32))).toNatClampNeg then none else (if (a5 + (3 : Int32)) < 0 ∨ L ≤ ((a5 + (3 : Int32))).toNatClampNeg then none else (if (a5 + (4 : Int32)) < 0 ∨ L ≤ ((a5 + (4 : Int32))).toNatClampNeg then none else (if (xs ((a5 + (4 : Int32))).toNatClampNeg) = 0 then f_L_law_L717 L xs k28 a1 a2 a3 a4 a5 (0 : Int32) (xs ((a5 + (3 : Int32))).toNatClampNeg) (xs ((a5 + (2 : Int32))).toNatClampNeg) (xs ((a5 + (1 : Int32))).toNatClampNeg) a1 h else f_L_law_L717 L xs k28 a1 a2 a3 a4 a5 (1 : Int32) (xs ((a5 + (3 : Int32))).toNatClampNeg) (xs ((a5 + (2 : Int32))).toNatClampNeg) (xs ((a5 + (1 : Int32))).toNatClampNeg) a1 h)))))
noncomputable def f_L_law_L900 (L : Nat) (xs : Nat → Int32) (k28 : Option Nat → Option Nat → Option Nat → Option Nat → Int32 → fSt → Option (Int32 × fSt)) (a1 : Option Nat) (a2 : Option Nat) (a3 : Option Nat) (a4 : Option Nat) (a5 : Int32) (h : fSt) : Option (Int32 × fSt) := f_L_law_L2859 L xs k28 a1 a2 a3 a4 a5 h
noncomputable def f_L_law_L894 (L : Nat) (xs : Nat → Int32) (k28 : Option Nat → Option Nat → Option Nat → Option Nat → Int32 → fSt → Option (Int32 × fSt)) (a1 : Option Nat) (a2 : Option Nat) (a3 : Option Nat) (a4 : Option Nat) (a5 : Int32) (s1 : Int64) (s0 : Int64) (h : fSt) : Option (Int32 × fSt) := (if s0 = s1 then f_L_law_L900 L xs k28 a1 a2 a3 a4 a5 h else some ((0 : Int32), h))
noncomputable def f_L_law_L792 (L : Nat) (xs : Nat → Int32) (k28 : Option Nat → Option Nat → Option Nat → Option Nat → Int32 → fSt → Option (Int32 × fSt)) (a1 : Option Nat) (a2 : Option Nat) (a3 : Option Nat) (a4 : Option Nat) (a5 : Int32) (h : fSt) : Option (Int32 × fSt) := (if (a5 + (1 : Int32)) < 0 ∨ L ≤ ((a5 + (1 : Int32))).toNatClampNeg then none else (if (a5 + (2 : Int32)) < 0 ∨ L ≤ ((a5 + (2 : Int32))).toNatClampNeg then none else (if (a5 + (3 : Int32)) < 0 ∨ L ≤ ((a5 + (3 : Int32))).toNatClampNeg then none else (if (a5 + (4 : Int32)) < 0 ∨ L ≤ ((a5 + (4 : Int32))).toNatClampNeg then none else (if (a5 + (5 : Int32)) < 0 ∨ L ≤ ((a5 + (5 : Int32))).toNatClampNeg then none else (f_L_cut a1 (xs ((a5 + (1 : Int32))).toNatClampNeg) (xs ((a5 + (2 : Int32))).toNatClampNeg) (xs ((a5 + (3 : Int32))).toNatClampNeg) (xs ((a5 + (4 : Int32))).toNatClampNeg) (xs ((a5 + (5 : Int32))).toNatClampNeg) a3 h).bind fun r177 => Sum.elim (fun v179 => (if (a5 + (1 : Int32)) < 0 ∨ L ≤ ((a5 + (1 : Int32))).toNatClampNeg then none else (if (a5 + (2 : Int32)) < 0 ∨ L ≤ ((a5 + (2 : Int32))).toNatClampNeg then none else (if (a5 + (3 : Int32)) < 0 ∨ L ≤ ((a5 + (3 : Int32))).toNatClampNeg then none else (if (a5 + (4 : Int32)) < 0 ∨ L ≤ ((a5 + (4 : Int32))).toNatClampNeg then none else (if (a5 + (5 : Int32)) < 0 ∨ L ≤ ((a5 + (5 : Int32))).toNatClampNeg then none else (fobj r177.2 a2 8).bind fun b189 => (f_X8_cut b189 (xs ((a5 + (1 : Int32))).toNatClampNeg) (xs ((a5 + (2 : Int32))).toNatClampNeg) (xs ((a5 + (3 : Int32))).toNatClampNeg) (xs ((a5 + (4 : Int32))).toNatClampNeg) (xs ((a5 + (5 : Int32))).toNatClampNeg) r177.2).bind fun r187 => (fobj r187.2 a2 8).bind fun b193 => (f_X8_thrown b193 r187.2).bind fun r191 => (if r191.1 = v179 then (if v179 = 0 then (faJ r191.2 a3 1 (0 : Int32)).bind fun x197 => (if r187.1 = 0 then f_L_law_L894 L xs k28 a1 a2 a3 a4 a5 (0 : Int64) x197 r191.2 else f_L_law_L894 L xs k28 a1 a2 a3 a4 a5 (1 : Int64) x197 r191.2) else f_L_law_L900 L xs k28 a1 a2 a3 a4 a5 r191.2) else some ((0 : Int32), r191.2)))))))) (fun _ => none) r177.1)))))
noncomputable def f_L_law_L963 (L : Nat) (xs : Nat → Int32) (k28 : Option Nat → Option Nat → Option Nat → Option Nat → Int32 → fSt → Option (Int32 × fSt)) (a1 : Option Nat) (a2 : Option Nat) (a3 : Option Nat) (a4 : Option Nat) (a5 : Int32) (h : fSt) : Option (Int32 × fSt) := f_L_law_L2859 L xs k28 a1 a2 a3 a4 a5 h
noncomputable def f_L_law_L957 (L : Nat) (xs : Nat → Int32) (k28 : Option Nat → Option Nat → Option Nat → Option Nat → Int32 → fSt → Option (Int32 × fSt)) (a1 : Option Nat) (a2 : Option Nat) (a3 : Option Nat) (a4 : Option Nat) (a5 : Int32) (s1 : Int64) (s0 : Int64) (h : fSt) : Option (Int32 × fSt) := (if s0 = s1 then f_L_law_L963 L xs k28 a1 a2 a3 a4 a5 h else some ((0 : Int32), h))
noncomputable def f_L_law_L903 (L : Nat) (xs : Nat → Int32) (k28 : Option Nat → Option Nat → Option Nat → Option Nat → Int32 → fSt → Option (Int32 × fSt)) (a1 : Option Nat) (a2 : Option Nat) (a3 : Option Nat) (a4 : Option Nat) (a5 : Int32) (h : fSt) : Option (Int32 × fSt) := (if (a5 + (1 : Int32)) < 0 ∨ L ≤ ((a5 + (1 : Int32))).toNatClampNeg then none else (f_L_uncut a1 (xs ((a5 + (1 : Int32))).toNatClampNeg) a3 h).bind fun r202 => Sum.elim (fun v204 => (if (a5 + (1 : Int32)) < 0 ∨ L ≤ ((a5 + (1 : Int32))).toNatClampNeg then none else (fobj r202.2 a2 8).bind fun b210 => (f_X8_uncut b210 (xs ((a5 + (1 : Int32))).toNatClampNeg) r202.2).bind fun r208 => (fobj r208.2 a2 8).bind fun b214 => (f_X8_thrown b214 r208.2).bind fun r212 => (if r212.1 = v204 then (if v204 = 0 then (faJ r212.2 a3 1 (0 : Int32)).bind fun x218 => (if r208.1 = 0 then f_L_law_L957 L xs k28 a1 a2 a3 a4 a5 (0 : Int64) x218 r212.2 else f_L_law_L957 L xs k28 a1 a2 a3 a4 a5 (1 : Int64) x218 r212.2) else f_L_law_L963 L xs k28 a1 a2 a3 a4 a5 r212.2) else some ((0 : Int32), r212.2)))) (fun _ => none) r202.1)
noncomputable def f_L_law_L966 (L : Nat) (xs : Nat → Int32) (k28 : Option Nat → Option Nat → Option Nat → Option Nat → Int32 → fSt → Option (Int32 × fSt)) (a1 : Option Nat) (a2 : Option Nat) (a3 : Option Nat) (a4 : Option Nat) (a5 : Int32) (h : fSt) : Option (Int32 × fSt) := (fobj h a1 7).bind fun b223 => (f_X7_added b223 h).bind fun r221 => (fobj r221.2 a2 8).bind fun b227 => (f_X8_added b227 r221.2).bind fun r225 => (if r221.1 = r225.1 then f_L_law_L2859 L xs k28 a1 a2 a3 a4 a5 r225.2 else some ((0 : Int32), r225.2))
noncomputable def f_L_law_L979 (L : Nat) (xs : Nat → Int32) (k28 : Option Nat → Option Nat → Option Nat → Option Nat → Int32 → fSt → Option (Int32 × fSt)) (a1 : Option Nat) (a2 : Option Nat) (a3 : Option Nat) (a4 : Option Nat) (a5 : Int32) (h : fSt) : Option (Int32 × fSt) := (fobj h a1 7).bind fun b232 => (f_X7_nodes b232 h).bind fun r230 => (fobj r230.2 a2 8).bind fun b236 => (f_X8_nodes b236 r230.2).bind fun r234 => (if r230.1 = r234.1 then f_L_law_L2859 L xs k28 a1 a2 a3 a4 a5 r234.2 else some ((0 : Int32), r234.2))
noncomputable def f_L_law_L1045 (L : Nat) (xs : Nat → Int32) (k28 : Option Nat → Option Nat → Option Nat → Option Nat → Int32 → fSt → Option (Int32 × fSt)) (a1 : Option Nat) (a2 : Option Nat) (a3 : Option Nat) (a4 : Option Nat) (a5 : Int32) (h : fSt) : Option (Int32 × fSt) := f_L_law_L2859 L xs k28 a1 a2 a3 a4 a5 h
noncomputable def f_L_law_L992 (L : Nat) (xs : Nat → Int32) (k28 : Option Nat → Option Nat → Option Nat → Option Nat → Int32 → fSt → Option (Int32 × fSt)) (a1 : Option Nat) (a2 : Option Nat) (a3 : Option Nat) (a4 : Option Nat) (a5 : Int32) (h : fSt) : Option (Int32 × fSt) := (if (a5 + (1 : Int32)) < 0 ∨ L ≤ ((a5 + (1 : Int32))).toNatClampNeg then none else (f_L_parent a1 (xs ((a5 + (1 : Int32))).toNatClampNeg) a3 h).bind fun r240 => Sum.elim (fun v242 => (if (a5 + (1 : Int32)) < 0 ∨ L ≤ ((a5 + (1 : Int32))).toNatClampNeg then none else (fobj r240.2 a2 8).bind fun b248 => (f_X8_parent b248 (xs ((a5 + (1 : Int32))).toNatClampNeg) r240.2).bind fun r246 => (fobj r246.2 a2 8).bind fun b252 => (f_X8_thrown b252 r246.2).bind fun r250 => (if r250.1 = v242 then (if v242 = 0 then (faJ r250.2 a3 1 (0 : Int32)).bind fun x256 => (if x256 = (Int32.toInt64 r246.1) then f_L_law_L1045 L xs k28 a1 a2 a3 a4 a5 r250.2 else some ((0 : Int32), r250.2)) else f_L_law_L1045 L xs k28 a1 a2 a3 a4 a5 r250.2) else some ((0 : Int32), r250.2)))) (fun _ => none) r240.1)
noncomputable def f_L_law_L1101 (L : Nat) (xs : Nat → Int32) (k28 : Option Nat → Option Nat → Option Nat → Option Nat → Int32 → fSt → Option (Int32 × fSt)) (a1 : Option Nat) (a2 : Option Nat) (a3 : Option Nat) (a4 : Option Nat) (a5 : Int32) (h : fSt) : Option (Int32 × fSt) := f_L_law_L2859 L xs k28 a1 a2 a3 a4 a5 h
noncomputable def f_L_law_L1048 (L : Nat) (xs : Nat → Int32) (k28 : Option Nat → Option Nat → Option Nat → Option Nat → Int32 → fSt → Option (Int32 × fSt)) (a1 : Option Nat) (a2 : Option Nat) (a3 : Option Nat) (a4 : Option Nat) (a5 : Int32) (h : fSt) : Option (Int32 × fSt) := (if (a5 + (1 : Int32)) < 0 ∨ L ≤ ((a5 + (1 : Int32))).toNatClampNeg then none else (f_L_level a1 (xs ((a5 + (1 : Int32))).toNatClampNeg) a3 h).bind fun r260 => Sum.elim (fun v262 => (if (a5 + (1 : Int32)) < 0 ∨ L ≤ ((a5 + (1 : Int32))).toNatClampNeg then none else (fobj r260.2 a2 8).bind fun b268 => (f_X8_level b268 (xs ((a5 + (1 : Int32))).toNatClampNeg) r260.2).bind fun r266 => (fobj r266.2 a2 8).bind fun b272 => (f_X8_thrown b272 r266.2).bind fun r270 => (if r270.1 = v262 then (if v262 = 0 then (faJ r270.2 a3 1 (0 : Int32)).bind fun x276 => (if x276 = (Int32.toInt64 r266.1) then f_L_law_L1101 L xs k28 a1 a2 a3 a4 a5 r270.2 else some ((0 : Int32), r270.2)) else f_L_law_L1101 L xs k28 a1 a2 a3 a4 a5 r270.2) else some ((0 : Int32), r270.2)))) (fun _ => none) r260.1)
noncomputable def f_L_law_L1169 (L : Nat) (xs : Nat → Int32) (k28 : Option Nat → Option Nat → Option Nat → Option Nat → Int32 → fSt → Option (Int32 × fSt)) (a1 : Option Nat) (a2 : Option Nat) (a3 : Option Nat) (a4 : Option Nat) (a5 : Int32) (h : fSt) : Option (Int32 × fSt) := f_L_law_L2859 L xs k28 a1 a2 a3 a4 a5 h
noncomputable def f_L_law_L1104 (L : Nat) (xs : Nat → Int32) (k28 : Option Nat → Option Nat → Option Nat → Option Nat → Int32 → fSt → Option (Int32 × fSt)) (a1 : Option Nat) (a2 : Option Nat) (a3 : Option Nat) (a4 : Option Nat) (a5 : Int32) (h : fSt) : Option (Int32 × fSt) := (if (a5 + (1 : Int32)) < 0 ∨ L ≤ ((a5 + (1 : Int32))).toNatClampNeg then none else (if (a5 + (2 : Int32)) < 0 ∨ L ≤ ((a5 + (2 : Int32))).toNatClampNeg then none else (f_L_common a1 (xs ((a5 + (1 : Int32))).toNatClampNeg) (xs ((a5 + (2 : Int32))).toNatClampNeg) a3 h).bind fun r281 => Sum.elim (fun v283 => (if (a5 + (1 : Int32)) < 0 ∨ L ≤ ((a5 + (1 : Int32))).toNatClampNeg then none else (if (a5 + (2 : Int32)) < 0 ∨ L ≤ ((a5 + (2 : Int32))).toNatClampNeg then none else (fobj r281.2 a2 8).bind fun b290 => (f_X8_common b290 (xs ((a5 + (1 : Int32))).toNatClampNeg) (xs ((a5 + (2 : Int32))).toNatClampNeg) r281.2).bind fun r288 => (fobj r288.2 a2 8).bind fun b294 => (f_X8_thrown b294 r288.2).bind fun r292 => (if r292.1 = v283 then (if v283 = 0 then (faJ r292.2 a3 1 (0 : Int32)).bind fun x298 => (if x298 = (Int32.toInt64 r288.1) then f_L_law_L1169 L xs k28 a1 a2 a3 a4 a5 r292.2 else some ((0 : Int32), r292.2)) else f_L_law_L1169 L xs k28 a1 a2 a3 a4 a5 r292.2) else some ((0 : Int32), r292.2))))) (fun _ => none) r281.1))
noncomputable def f_L_law_L1261 (L : Nat) (xs : Nat → Int32) (k28 : Option Nat → Option Nat → Option Nat → Option Nat → Int32 → fSt → Option (Int32 × fSt)) (a1 : Option Nat) (a2 : Option Nat) (a3 : Option Nat) (a4 : Option Nat) (a5 : Int32) (h : fSt) : Option (Int32 × fSt) := f_L_law_L2859 L xs k28 a1 a2 a3 a4 a5 h
noncomputable def f_L_law_L1172 (L : Nat) (xs : Nat → Int32) (k28 : Option Nat → Option Nat → Option Nat → Option Nat → Int32 → fSt → Option (Int32 × fSt)) (a1 : Option Nat) (a2 : Option Nat) (a3 : Option Nat) (a4 : Option Nat) (a5 : Int32) (h : fSt) : Option (Int32 × fSt) := (if (a5 + (1 : Int32)) < 0 ∨ L ≤ ((a5 + (1 : Int32))).toNatClampNeg then none else (if (a5 + (2 : Int32)) < 0 ∨ L ≤ ((a5 + (2 : Int32))).toNatClampNeg then none else (if (a5 + (3 : Int32)) < 0 ∨ L ≤ ((a5 + (3 : Int32))).toNatClampNeg then none else (if (a5 + (4 : Int32)) < 0 ∨ L ≤ ((a5 + (4 : Int32))).toNatClampNeg then none else (f_L_track a1 (xs ((a5 + (1 : Int32))).toNatClampNeg) (xs ((a5 + (2 : Int32))).toNatClampNeg) (xs ((a5 + (3 : Int32))).toNatClampNeg) (xs ((a5 + (4 : Int32))).toNatClampNeg) a3 h).bind fun r305 => Sum.elim (fun v307 => (if (a5 + (1 : Int32)) < 0 ∨ L ≤ ((a5 + (1 : Int32))).toNatClampNeg then none else (if (a5 + (2 : Int32)) < 0 ∨ L ≤ ((a5 + (2 : Int32))).toNatClampNeg then none else (if (a5 + (3 : Int32)) < 0 ∨ L ≤ ((a5 + (3 : Int32))).toNatClampNeg then none else (if (a5 + (4 : Int32)) < 0 ∨ L ≤ ((a5 + (4 : Int32))).toNatClampNeg then none else (fobj r305.2 a2 8).bind fun b316 => (f_X8_track b316 (xs ((a5 + (1 : Int32))).toNatClampNeg) (xs ((a5 + (2 : Int32))).toNatClampNeg) (xs ((a5 + (3 : Int32))).toNatClampNeg) (xs ((a5 + (4 : Int32))).toNatClampNeg) r305.2).bind fun r314 => (fobj r314.2 a2 8).bind fun b320 => (f_X8_thrown b320 r314.2).bind fun r318 => (if r318.1 = v307 then (if v307 = 0 then (faJ r318.2 a3 1 (0 : Int32)).bind fun x324 => (if x324 = (Int32.toInt64 r314.1) then f_L_law_L1261 L xs k28 a1 a2 a3 a4 a5 r318.2 else some ((0 : Int32), r318.2)) else f_L_law_L1261 L xs k28 a1 a2 a3 a4 a5 r318.2) else some ((0 : Int32), r318.2))))))) (fun _ => none) r305.1))))
noncomputable def f_L_law_L1341 (L : Nat) (xs : Nat → Int32) (k28 : Option Nat → Option Nat → Option Nat → Option Nat → Int32 → fSt → Option (Int32 × fSt)) (a1 : Option Nat) (a2 : Option Nat) (a3 : Option Nat) (a4 : Option Nat) (a5 : Int32) (h : fSt) : Option (Int32 × fSt) := f_L_law_L2859 L xs k28 a1 a2 a3 a4 a5 h
noncomputable def f_L_law_L1264 (L : Nat) (xs : Nat → Int32) (k28 : Option Nat → Option Nat → Option Nat → Option Nat → Int32 → fSt → Option (Int32 × fSt)) (a1 : Option Nat) (a2 : Option Nat) (a3 : Option Nat) (a4 : Option Nat) (a5 : Int32) (h : fSt) : Option (Int32 × fSt) := (if (a5 + (1 : Int32)) < 0 ∨ L ≤ ((a5 + (1 : Int32))).toNatClampNeg then none else (if (a5 + (2 : Int32)) < 0 ∨ L ≤ ((a5 + (2 : Int32))).toNatClampNeg then none else (if (a5 + (3 : Int32)) < 0 ∨ L ≤ ((a5 + (3 : Int32))).toNatClampNeg then none else (f_L_key a1 (xs ((a5 + (1 : Int32))).toNatClampNeg) (xs ((a5 + (2 : Int32))).toNatClampNeg) (xs ((a5 + (3 : Int32))).toNatClampNeg) a3 h).bind fun r330 => Sum.elim (fun v332 => (if (a5 + (1 : Int32)) < 0 ∨ L ≤ ((a5 + (1 : Int32))).toNatClampNeg then none else (if (a5 + (2 : Int32)) < 0 ∨ L ≤ ((a5 + (2 : Int32))).toNatClampNeg then none else (if (a5 + (3 : Int32)) < 0 ∨ L ≤ ((a5 + (3 : Int32))).toNatClampNeg then none else (fobj r330.2 a2 8).bind fun b340 => (f_X8_key b340 (xs ((a5 + (1 : Int32))).toNatClampNeg) (xs ((a5 + (2 : Int32))).toNatClampNeg) (xs ((a5 + (3 : Int32))).toNatClampNeg) r330.2).bind fun r338 => (fobj r338.2 a2 8).bind fun b344 => (f_X8_thrown b344 r338.2).bind fun r342 => (if r342.1 = v332 then (if v332 = 0 then (faJ r342.2 a3 1 (0 : Int32)).bind fun x348 => (if x348 = (Int32.toInt64 r338.1) then f_L_law_L1341 L xs k28 a1 a2 a3 a4 a5 r342.2 else some ((0 : Int32), r342.2)) else f_L_law_L1341 L xs k28 a1 a2 a3 a4 a5 r342.2) else some ((0 : Int32), r342.2)))))) (fun _ => none) r330.1)))
noncomputable def f_L_law_L1409 (L : Nat) (xs : Nat → Int32) (k28 : Option Nat → Option Nat → Option Nat → Option Nat → Int32 → fSt → Option (Int32 × fSt)) (a1 : Option Nat) (a2 : Option Nat) (a3 : Option Nat) (a4 : Option Nat) (a5 : Int32) (h : fSt) : Option (Int32 × fSt) := f_L_law_L2859 L xs k28 a1 a2 a3 a4 a5 h
noncomputable def f_L_law_L1344 (L : Nat) (xs : Nat → Int32) (k28 : Option Nat → Option Nat → Option Nat → Option Nat → Int32 → fSt → Option (Int32 × fSt)) (a1 : Option Nat) (a2 : Option Nat) (a3 : Option Nat) (a4 : Option Nat) (a5 : Int32) (h : fSt) : Option (Int32 × fSt) := (if (a5 + (1 : Int32)) < 0 ∨ L ≤ ((a5 + (1 : Int32))).toNatClampNeg then none else (if (a5 + (2 : Int32)) < 0 ∨ L ≤ ((a5 + (2 : Int32))).toNatClampNeg then none else (f_L_unkey a1 (xs ((a5 + (1 : Int32))).toNatClampNeg) (xs ((a5 + (2 : Int32))).toNatClampNeg) a3 h).bind fun r353 => Sum.elim (fun v355 => (if (a5 + (1 : Int32)) < 0 ∨ L ≤ ((a5 + (1 : Int32))).toNatClampNeg then none else (if (a5 + (2 : Int32)) < 0 ∨ L ≤ ((a5 + (2 : Int32))).toNatClampNeg then none else (fobj r353.2 a2 8).bind fun b362 => (f_X8_unkey b362 (xs ((a5 + (1 : Int32))).toNatClampNeg) (xs ((a5 + (2 : Int32))).toNatClampNeg) r353.2).bind fun r360 => (fobj r360.2 a2 8).bind fun b366 => (f_X8_thrown b366 r360.2).bind fun r364 => (if r364.1 = v355 then (if v355 = 0 then (faJ r364.2 a3 1 (0 : Int32)).bind fun x370 => (if x370 = (Int32.toInt64 r360.1) then f_L_law_L1409 L xs k28 a1 a2 a3 a4 a5 r364.2 else some ((0 : Int32), r364.2)) else f_L_law_L1409 L xs k28 a1 a2 a3 a4 a5 r364.2) else some ((0 : Int32), r364.2))))) (fun _ => none) r353.1))
noncomputable def f_L_law_L1465 (L : Nat) (xs : Nat → Int32) (k28 : Option Nat → Option Nat → Option Nat → Option Nat → Int32 → fSt → Option (Int32 × fSt)) (a1 : Option Nat) (a2 : Option Nat) (a3 : Option Nat) (a4 : Option Nat) (a5 : Int32) (h : fSt) : Option (Int32 × fSt) := f_L_law_L2859 L xs k28 a1 a2 a3 a4 a5 h
noncomputable def f_L_law_L1412 (L : Nat) (xs : Nat → Int32) (k28 : Option Nat → Option Nat → Option Nat → Option Nat → Int32 → fSt → Option (Int32 × fSt)) (a1 : Option Nat) (a2 : Option Nat) (a3 : Option Nat) (a4 : Option Nat) (a5 : Int32) (h : fSt) : Option (Int32 × fSt) := (if (a5 + (1 : Int32)) < 0 ∨ L ≤ ((a5 + (1 : Int32))).toNatClampNeg then none else (f_L_setTime a1 (xs ((a5 + (1 : Int32))).toNatClampNeg) a3 h).bind fun r374 => Sum.elim (fun v376 => (if (a5 + (1 : Int32)) < 0 ∨ L ≤ ((a5 + (1 : Int32))).toNatClampNeg then none else (fobj r374.2 a2 8).bind fun b382 => (f_X8_setTime b382 (xs ((a5 + (1 : Int32))).toNatClampNeg) r374.2).bind fun r380 => (fobj r380.2 a2 8).bind fun b386 => (f_X8_thrown b386 r380.2).bind fun r384 => (if r384.1 = v376 then (if v376 = 0 then (faJ r384.2 a3 1 (0 : Int32)).bind fun x390 => (if x390 = (Int32.toInt64 r380.1) then f_L_law_L1465 L xs k28 a1 a2 a3 a4 a5 r384.2 else some ((0 : Int32), r384.2)) else f_L_law_L1465 L xs k28 a1 a2 a3 a4 a5 r384.2) else some ((0 : Int32), r384.2)))) (fun _ => none) r374.1)
noncomputable def f_L_law_L1468 (L : Nat) (xs : Nat → Int32) (k28 : Option Nat → Option Nat → Option Nat → Option Nat → Int32 → fSt → Option (Int32 × fSt)) (a1 : Option Nat) (a2 : Option Nat) (a3 : Option Nat) (a4 : Option Nat) (a5 : Int32) (h : fSt) : Option (Int32 × fSt) := (fobj h a1 7).bind fun b395 => (f_X7_tracks b395 h).bind fun r393 => (fobj r393.2 a2 8).bind fun b399 => (f_X8_tracks b399 r393.2).bind fun r397 => (if r393.1 = r397.1 then f_L_law_L2859 L xs k28 a1 a2 a3 a4 a5 r397.2 else some ((0 : Int32), r397.2))
noncomputable def f_L_law_L1546 (L : Nat) (xs : Nat → Int32) (k28 : Option Nat → Option Nat → Option Nat → Option Nat → Int32 → fSt → Option (Int32 × fSt)) (a1 : Option Nat) (a2 : Option Nat) (a3 : Option Nat) (a4 : Option Nat) (a5 : Int32) (h : fSt) : Option (Int32 × fSt) := f_L_law_L2859 L xs k28 a1 a2 a3 a4 a5 h
noncomputable def f_L_law_L1481 (L : Nat) (xs : Nat → Int32) (k28 : Option Nat → Option Nat → Option Nat → Option Nat → Int32 → fSt → Option (Int32 × fSt)) (a1 : Option Nat) (a2 : Option Nat) (a3 : Option Nat) (a4 : Option Nat) (a5 : Int32) (h : fSt) : Option (Int32 × fSt) := (if (a5 + (1 : Int32)) < 0 ∨ L ≤ ((a5 + (1 : Int32))).toNatClampNeg then none else (if (a5 + (2 : Int32)) < 0 ∨ L ≤ ((a5 + (2 : Int32))).toNatClampNeg then none else (f_L_now a1 (xs ((a5 + (1 : Int32))).toNatClampNeg) (xs ((a5 + (2 : Int32))).toNatClampNeg) a3 h).bind fun r404 => Sum.elim (fun v406 => (if (a5 + (1 : Int32)) < 0 ∨ L ≤ ((a5 + (1 : Int32))).toNatClampNeg then none else (if (a5 + (2 : Int32)) < 0 ∨ L ≤ ((a5 + (2 : Int32))).toNatClampNeg then none else (fobj r404.2 a2 8).bind fun b413 => (f_X8_now b413 (xs ((a5 + (1 : Int32))).toNatClampNeg) (xs ((a5 + (2 : Int32))).toNatClampNeg) r404.2).bind fun r411 => (fobj r411.2 a2 8).bind fun b417 => (f_X8_thrown b417 r411.2).bind fun r415 => (if r415.1 = v406 then (if v406 = 0 then (faJ r415.2 a3 1 (0 : Int32)).bind fun x421 => (if x421 = (Int32.toInt64 r411.1) then f_L_law_L1546 L xs k28 a1 a2 a3 a4 a5 r415.2 else some ((0 : Int32), r415.2)) else f_L_law_L1546 L xs k28 a1 a2 a3 a4 a5 r415.2) else some ((0 : Int32), r415.2))))) (fun _ => none) r404.1))
noncomputable def f_L_law_L1549 (L : Nat) (xs : Nat → Int32) (k28 : Option Nat → Option Nat → Option Nat → Option Nat → Int32 → fSt → Option (Int32 × fSt)) (a1 : Option Nat) (a2 : Option Nat) (a3 : Option Nat) (a4 : Option Nat) (a5 : Int32) (h : fSt) : Option (Int32 × fSt) := (fobj h a1 7).bind fun b426 => (f_X7_nextKey b426 h).bind fun r424 => (fobj r424.2 a2 8).bind fun b430 => (f_X8_nextKey b430 r424.2).bind fun r428 => (if r424.1 = r428.1 then f_L_law_L2859 L xs k28 a1 a2 a3 a4 a5 r428.2 else some ((0 : Int32), r428.2))
noncomputable def f_L_law_L1651 (L : Nat) (xs : Nat → Int32) (k28 : Option Nat → Option Nat → Option Nat → Option Nat → Int32 → fSt → Option (Int32 × fSt)) (a1 : Option Nat) (a2 : Option Nat) (a3 : Option Nat) (a4 : Option Nat) (a5 : Int32) (h : fSt) : Option (Int32 × fSt) := f_L_law_L2859 L xs k28 a1 a2 a3 a4 a5 h
noncomputable def f_L_law_L1562 (L : Nat) (xs : Nat → Int32) (k28 : Option Nat → Option Nat → Option Nat → Option Nat → Int32 → fSt → Option (Int32 × fSt)) (a1 : Option Nat) (a2 : Option Nat) (a3 : Option Nat) (a4 : Option Nat) (a5 : Int32) (h : fSt) : Option (Int32 × fSt) := (if (a5 + (1 : Int32)) < 0 ∨ L ≤ ((a5 + (1 : Int32))).toNatClampNeg then none else (if (a5 + (2 : Int32)) < 0 ∨ L ≤ ((a5 + (2 : Int32))).toNatClampNeg then none else (if (a5 + (3 : Int32)) < 0 ∨ L ≤ ((a5 + (3 : Int32))).toNatClampNeg then none else (if (a5 + (4 : Int32)) < 0 ∨ L ≤ ((a5 + (4 : Int32))).toNatClampNeg then none else (f_L_toWhole a1 (xs ((a5 + (1 : Int32))).toNatClampNeg) (xs ((a5 + (2 : Int32))).toNatClampNeg) (xs ((a5 + (3 : Int32))).toNatClampNeg) (xs ((a5 + (4 : Int32))).toNatClampNeg) a3 h).bind fun r437 => Sum.elim (fun v439 => (if (a5 + (1 : Int32)) < 0 ∨ L ≤ ((a5 + (1 : Int32))).toNatClampNeg then none else (if (a5 + (2 : Int32)) < 0 ∨ L ≤ ((a5 + (2 : Int32))).toNatClampNeg then none else (if (a5 + (3 : Int32)) < 0 ∨ L ≤ ((a5 + (3 : Int32))).toNatClampNeg then none else (if (a5 + (4 : Int32)) < 0 ∨ L ≤ ((a5 + (4 : Int32))).toNatClampNeg then none else (fobj r437.2 a2 8).bind fun b448 => (f_X8_toWhole b448 (xs ((a5 + (1 : Int32))).toNatClampNeg) (xs ((a5 + (2 : Int32))).toNatClampNeg) (xs ((a5 + (3 : Int32))).toNatClampNeg) (xs ((a5 + (4 : Int32))).toNatClampNeg) r437.2).bind fun r446 => (fobj r446.2 a2 8).bind fun b452 => (f_X8_thrown b452 r446.2).bind fun r450 => (if r450.1 = v439 then (if v439 = 0 then (faJ r450.2 a3 1 (0 : Int32)).bind fun x456 => (if x456 = (Int32.toInt64 r446.1) then f_L_law_L1651 L xs k28 a1 a2 a3 a4 a5 r450.2 else some ((0 : Int32), r450.2)) else f_L_law_L1651 L xs k28 a1 a2 a3 a4 a5 r450.2) else some ((0 : Int32), r450.2))))))) (fun _ => none) r437.1))))
noncomputable def f_L_law_L1743 (L : Nat) (xs : Nat → Int32) (k28 : Option Nat → Option Nat → Option Nat → Option Nat → Int32 → fSt → Option (Int32 × fSt)) (a1 : Option Nat) (a2 : Option Nat) (a3 : Option Nat) (a4 : Option Nat) (a5 : Int32) (h : fSt) : Option (Int32 × fSt) := f_L_law_L2859 L xs k28 a1 a2 a3 a4 a5 h
noncomputable def f_L_law_L1654 (L : Nat) (xs : Nat → Int32) (k28 : Option Nat → Option Nat → Option Nat → Option Nat → Int32 → fSt → Option (Int32 × fSt)) (a1 : Option Nat) (a2 : Option Nat) (a3 : Option Nat) (a4 : Option Nat) (a5 : Int32) (h : fSt) : Option (Int32 × fSt) := (if (a5 + (1 : Int32)) < 0 ∨ L ≤ ((a5 + (1 : Int32))).toNatClampNeg then none else (if (a5 + (2 : Int32)) < 0 ∨ L ≤ ((a5 + (2 : Int32))).toNatClampNeg then none else (if (a5 + (3 : Int32)) < 0 ∨ L ≤ ((a5 + (3 : Int32))).toNatClampNeg then none else (if (a5 + (4 : Int32)) < 0 ∨ L ≤ ((a5 + (4 : Int32))).toNatClampNeg then none else (f_L_fromWhole a1 (xs ((a5 + (1 : Int32))).toNatClampNeg) (xs ((a5 + (2 : Int32))).toNatClampNeg) (xs ((a5 + (3 : Int32))).toNatClampNeg) (xs ((a5 + (4 : Int32))).toNatClampNeg) a3 h).bind fun r463 => Sum.elim (fun v465 => (if (a5 + (1 : Int32)) < 0 ∨ L ≤ ((a5 + (1 : Int32))).toNatClampNeg then none else (if (a5 + (2 : Int32)) < 0 ∨ L ≤ ((a5 + (2 : Int32))).toNatClampNeg then none else (if (a5 + (3 : Int32)) < 0 ∨ L ≤ ((a5 + (3 : Int32))).toNatClampNeg then none else (if (a5 + (4 : Int32)) < 0 ∨ L ≤ ((a5 + (4 : Int32))).toNatClampNeg then none else (fobj r463.2 a2 8).bind fun b474 => (f_X8_fromWhole b474 (xs ((a5 + (1 : Int32))).toNatClampNeg) (xs ((a5 + (2 : Int32))).toNatClampNeg) (xs ((a5 + (3 : Int32))).toNatClampNeg) (xs ((a5 + (4 : Int32))).toNatClampNeg) r463.2).bind fun r472 => (fobj r472.2 a2 8).bind fun b478 => (f_X8_thrown b478 r472.2).bind fun r476 => (if r476.1 = v465 then (if v465 = 0 then (faJ r476.2 a3 1 (0 : Int32)).bind fun x482 => (if x482 = (Int32.toInt64 r472.1) then f_L_law_L1743 L xs k28 a1 a2 a3 a4 a5 r476.2 else some ((0 : Int32), r476.2)) else f_L_law_L1743 L xs k28 a1 a2 a3 a4 a5 r476.2) else some ((0 : Int32), r476.2))))))) (fun _ => none) r463.1))))
noncomputable def f_L_law_L1847 (L : Nat) (xs : Nat → Int32) (k28 : Option Nat → Option Nat → Option Nat → Option Nat → Int32 → fSt → Option (Int32 × fSt)) (a1 : Option Nat) (a2 : Option Nat) (a3 : Option Nat) (a4 : Option Nat) (a5 : Int32) (h : fSt) : Option (Int32 × fSt) := f_L_law_L2859 L xs k28 a1 a2 a3 a4 a5 h
noncomputable def f_L_law_L1746 (L : Nat) (xs : Nat → Int32) (k28 : Option Nat → Option Nat → Option Nat → Option Nat → Int32 → fSt → Option (Int32 × fSt)) (a1 : Option Nat) (a2 : Option Nat) (a3 : Option Nat) (a4 : Option Nat) (a5 : Int32) (h : fSt) : Option (Int32 × fSt) := (if (a5 + (1 : Int32)) < 0 ∨ L ≤ ((a5 + (1 : Int32))).toNatClampNeg then none else (if (a5 + (2 : Int32)) < 0 ∨ L ≤ ((a5 + (2 : Int32))).toNatClampNeg then none else (if (a5 + (3 : Int32)) < 0 ∨ L ≤ ((a5 + (3 : Int32))).toNatClampNeg then none else (if (a5 + (4 : Int32)) < 0 ∨ L ≤ ((a5 + (4 : Int32))).toNatClampNeg then none else (if (a5 + (5 : Int32)) < 0 ∨ L ≤ ((a5 + (5 : Int32))).toNatClampNeg then none else (f_L_between a1 (xs ((a5 + (1 : Int32))).toNatClampNeg) (xs ((a5 + (2 : Int32))).toNatClampNeg) (xs ((a5 + (3 : Int32))).toNatClampNeg) (xs ((a5 + (4 : Int32))).toNatClampNeg) (xs ((a5 + (5 : Int32))).toNatClampNeg) a3 h).bind fun r490 => Sum.elim (fun v492 => (if (a5 + (1 : Int32)) < 0 ∨ L ≤ ((a5 + (1 : Int32))).toNatClampNeg then none else (if (a5 + (2 : Int32)) < 0 ∨ L ≤ ((a5 + (2 : Int32))).toNatClampNeg then none else (if (a5 + (3 : Int32)) < 0 ∨ L ≤ ((a5 + (3 : Int32))).toNatClampNeg then none else (if (a5 + (4 : Int32)) < 0 ∨ L ≤ ((a5 + (4 : Int32))).toNatClampNeg then none else (if (a5 + (5 : Int32)) < 0 ∨ L ≤ ((a5 + (5 : Int32))).toNatClampNeg then none else (fobj r490.2 a2 8).bind fun b502 => (f_X8_between b502 (xs ((a5 + (1 : Int32))).toNatClampNeg) (xs ((a5 + (2 : Int32))).toNatClampNeg) (xs ((a5 + (3 : Int32))).toNatClampNeg) (xs ((a5 + (4 : Int32))).toNatClampNeg) (xs ((a5 + (5 : Int32))).toNatClampNeg) r490.2).bind fun r500 => (fobj r500.2 a2 8).bind fun b506 => (f_X8_thrown b506 r500.2).bind fun r504 => (if r504.1 = v492 then (if v492 = 0 then (faJ r504.2 a3 1 (0 : Int32)).bind fun x510 => (if x510 = (Int32.toInt64 r500.1) then f_L_law_L1847 L xs k28 a1 a2 a3 a4 a5 r504.2 else some ((0 : Int32), r504.2)) else f_L_law_L1847 L xs k28 a1 a2 a3 a4 a5 r504.2) else some ((0 : Int32), r504.2)))))))) (fun _ => none) r490.1)))))
noncomputable def f_L_law_L1943 (L : Nat) (xs : Nat → Int32) (k28 : Option Nat → Option Nat → Option Nat → Option Nat → Int32 → fSt → Option (Int32 × fSt)) (a1 : Option Nat) (a2 : Option Nat) (a3 : Option Nat) (a4 : Option Nat) (a5 : Int32) (h : fSt) : Option (Int32 × fSt) := f_L_law_L2859 L xs k28 a1 a2 a3 a4 a5 h
noncomputable def f_L_law_L1910 (L : Nat) (xs : Nat → Int32) (k28 : Option Nat → Option Nat → Option Nat → Option Nat → Int32 → fSt → Option (Int32 × fSt)) (a1 : Option Nat) (a2 : Option Nat) (a3 : Option Nat) (a4 : Option Nat) (a5 : Int32) (a6 : Int32) (s3 : Int32) (s2 : Int32) (s1 : Int32) (s0 : Option Nat) (h : fSt) : Option (Int32 × fSt) := (fobj h s0 8).bind fun b515 => (f_X8_bound b515 s1 s2 s3 h).bind fun r513 => (fobj r513.2 a2 8).bind fun b519 => (f_X8_thrown b519 r513.2).bind fun r517 => (if r517.1 = a6 then (if a6 = 0 then (faJ r517.2 a3 1 (0 : Int32)).bind fun x523 => (if x523 = (Int32.toInt64 r513.1) then f_L_law_L1943 L xs k28 a1 a2 a3 a4 a5 r517.2 else some ((0 : Int32), r517.2)) else f_L_law_L1943 L xs k28 a1 a2 a3 a4 a5 r517.2) else some ((0 : Int32), r517.2))
noncomputable def f_L_law_L1877 (L : Nat) (xs : Nat → Int32) (k28 : Option Nat → Option Nat → Option Nat → Option Nat → Int32 → fSt → Option (Int32 × fSt)) (a1 : Option Nat) (a2 : Option Nat) (a3 : Option Nat) (a4 : Option Nat) (a5 : Int32) (s3 : Int32) (s2 : Int32) (s1 : Int32) (s0 : Option Nat) (h : fSt) : Option (Int32 × fSt) := (f_L_bound s0 s1 s2 s3 a3 h).bind fun r526 => Sum.elim (fun v528 => (if (a5 + (1 : Int32)) < 0 ∨ L ≤ ((a5 + (1 : Int32))).toNatClampNeg then none else (if (a5 + (2 : Int32)) < 0 ∨ L ≤ ((a5 + (2 : Int32))).toNatClampNeg then none else (if (a5 + (3 : Int32)) < 0 ∨ L ≤ ((a5 + (3 : Int32))).toNatClampNeg then none else (if (xs ((a5 + (3 : Int32))).toNatClampNeg) = 0 then f_L_law_L1910 L xs k28 a1 a2 a3 a4 a5 v528 (0 : Int32) (xs ((a5 + (2 : Int32))).toNatClampNeg) (xs ((a5 + (1 : Int32))).toNatClampNeg) a2 r526.2 else f_L_law_L1910 L xs k28 a1 a2 a3 a4 a5 v528 (1 : Int32) (xs ((a5 + (2 : Int32))).toNatClampNeg) (xs ((a5 + (1 : Int32))).toNatClampNeg) a2 r526.2))))) (fun _ => none) r526.1
noncomputable def f_L_law_L1850 (L : Nat) (xs : Nat → Int32) (k28 : Option Nat → Option Nat → Option Nat → Option Nat → Int32 → fSt → Option (Int32 × fSt)) (a1 : Option Nat) (a2 : Option Nat) (a3 : Option Nat) (a4 : Option Nat) (a5 : Int32) (h : fSt) : Option (Int32 × fSt) := (if (a5 + (1 : Int32)) < 0 ∨ L ≤ ((a5 + (1 : Int32))).toNatClampNeg then none else (if (a5 + (2 : Int32)) < 0 ∨ L ≤ ((a5 + (2 : Int32))).toNatClampNeg then none else (if (a5 + (3 : Int32)) < 0 ∨ L ≤ ((a5 + (3 : Int32))).toNatClampNeg then none else (if (xs ((a5 + (3 : Int32))).toNatClampNeg) = 0 then f_L_law_L1877 L xs k28 a1 a2 a3 a4 a5 (0 : Int32) (xs ((a5 + (2 : Int32))).toNatClampNeg) (xs ((a5 + (1 : Int32))).toNatClampNeg) a1 h else f_L_law_L1877 L xs k28 a1 a2 a3 a4 a5 (1 : Int32) (xs ((a5 + (2 : Int32))).toNatClampNeg) (xs ((a5 + (1 : Int32))).toNatClampNeg) a1 h))))
noncomputable def f_L_law_L2006 (L : Nat) (xs : Nat → Int32) (k28 : Option Nat → Option Nat → Option Nat → Option Nat → Int32 → fSt → Option (Int32 × fSt)) (a1 : Option Nat) (a2 : Option Nat) (a3 : Option Nat) (a4 : Option Nat) (a5 : Int32) (h : fSt) : Option (Int32 × fSt) := f_L_law_L2859 L xs k28 a1 a2 a3 a4 a5 h
noncomputable def f_L_law_L2000 (L : Nat) (xs : Nat → Int32) (k28 : Option Nat → Option Nat → Option Nat → Option Nat → Int32 → fSt → Option (Int32 × fSt)) (a1 : Option Nat) (a2 : Option Nat) (a3 : Option Nat) (a4 : Option Nat) (a5 : Int32) (s1 : Int64) (s0 : Int64) (h : fSt) : Option (Int32 × fSt) := (if s0 = s1 then f_L_law_L2006 L xs k28 a1 a2 a3 a4 a5 h else some ((0 : Int32), h))
noncomputable def f_L_law_L1946 (L : Nat) (xs : Nat → Int32) (k28 : Option Nat → Option Nat → Option Nat → Option Nat → Int32 → fSt → Option (Int32 × fSt)) (a1 : Option Nat) (a2 : Option Nat) (a3 : Option Nat) (a4 : Option Nat) (a5 : Int32) (h : fSt) : Option (Int32 × fSt) := (if (a5 + (1 : Int32)) < 0 ∨ L ≤ ((a5 + (1 : Int32))).toNatClampNeg then none else (f_L_isShown a1 (xs ((a5 + (1 : Int32))).toNatClampNeg) a3 h).bind fun r541 => Sum.elim (fun v543 => (if (a5 + (1 : Int32)) < 0 ∨ L ≤ ((a5 + (1 : Int32))).toNatClampNeg then none else (fobj r541.2 a2 8).bind fun b549 => (f_X8_isShown b549 (xs ((a5 + (1 : Int32))).toNatClampNeg) r541.2).bind fun r547 => (fobj r547.2 a2 8).bind fun b553 => (f_X8_thrown b553 r547.2).bind fun r551 => (if r551.1 = v543 then (if v543 = 0 then (faJ r551.2 a3 1 (0 : Int32)).bind fun x557 => (if r547.1 = 0 then f_L_law_L2000 L xs k28 a1 a2 a3 a4 a5 (0 : Int64) x557 r551.2 else f_L_law_L2000 L xs k28 a1 a2 a3 a4 a5 (1 : Int64) x557 r551.2) else f_L_law_L2006 L xs k28 a1 a2 a3 a4 a5 r551.2) else some ((0 : Int32), r551.2)))) (fun _ => none) r541.1)
noncomputable def f_L_law_L2062 (L : Nat) (xs : Nat → Int32) (k28 : Option Nat → Option Nat → Option Nat → Option Nat → Int32 → fSt → Option (Int32 × fSt)) (a1 : Option Nat) (a2 : Option Nat) (a3 : Option Nat) (a4 : Option Nat) (a5 : Int32) (h : fSt) : Option (Int32 × fSt) := f_L_law_L2859 L xs k28 a1 a2 a3 a4 a5 h
noncomputable def f_L_law_L2009 (L : Nat) (xs : Nat → Int32) (k28 : Option Nat → Option Nat → Option Nat → Option Nat → Int32 → fSt → Option (Int32 × fSt)) (a1 : Option Nat) (a2 : Option Nat) (a3 : Option Nat) (a4 : Option Nat) (a5 : Int32) (h : fSt) : Option (Int32 × fSt) := (if (a5 + (1 : Int32)) < 0 ∨ L ≤ ((a5 + (1 : Int32))).toNatClampNeg then none else (f_L_strength a1 (xs ((a5 + (1 : Int32))).toNatClampNeg) a3 h).bind fun r561 => Sum.elim (fun v563 => (if (a5 + (1 : Int32)) < 0 ∨ L ≤ ((a5 + (1 : Int32))).toNatClampNeg then none else (fobj r561.2 a2 8).bind fun b569 => (f_X8_strength b569 (xs ((a5 + (1 : Int32))).toNatClampNeg) r561.2).bind fun r567 => (fobj r567.2 a2 8).bind fun b573 => (f_X8_thrown b573 r567.2).bind fun r571 => (if r571.1 = v563 then (if v563 = 0 then (faJ r571.2 a3 1 (0 : Int32)).bind fun x577 => (if x577 = (Int32.toInt64 r567.1) then f_L_law_L2062 L xs k28 a1 a2 a3 a4 a5 r571.2 else some ((0 : Int32), r571.2)) else f_L_law_L2062 L xs k28 a1 a2 a3 a4 a5 r571.2) else some ((0 : Int32), r571.2)))) (fun _ => none) r561.1)
noncomputable def f_L_law_L2118 (L : Nat) (xs : Nat → Int32) (k28 : Option Nat → Option Nat → Option Nat → Option Nat → Int32 → fSt → Option (Int32 × fSt)) (a1 : Option Nat) (a2 : Option Nat) (a3 : Option Nat) (a4 : Option Nat) (a5 : Int32) (h : fSt) : Option (Int32 × fSt) := f_L_law_L2859 L xs k28 a1 a2 a3 a4 a5 h
noncomputable def f_L_law_L2065 (L : Nat) (xs : Nat → Int32) (k28 : Option Nat → Option Nat → Option Nat → Option Nat → Int32 → fSt → Option (Int32 × fSt)) (a1 : Option Nat) (a2 : Option Nat) (a3 : Option Nat) (a4 : Option Nat) (a5 : Int32) (h : fSt) : Option (Int32 × fSt) := (if (a5 + (1 : Int32)) < 0 ∨ L ≤ ((a5 + (1 : Int32))).toNatClampNeg then none else (f_L_orderAt a1 (xs ((a5 + (1 : Int32))).toNatClampNeg) a3 h).bind fun r581 => Sum.elim (fun v583 => (if (a5 + (1 : Int32)) < 0 ∨ L ≤ ((a5 + (1 : Int32))).toNatClampNeg then none else (fobj r581.2 a2 8).bind fun b589 => (f_X8_orderAt b589 (xs ((a5 + (1 : Int32))).toNatClampNeg) r581.2).bind fun r587 => (fobj r587.2 a2 8).bind fun b593 => (f_X8_thrown b593 r587.2).bind fun r591 => (if r591.1 = v583 then (if v583 = 0 then (faJ r591.2 a3 1 (0 : Int32)).bind fun x597 => (if x597 = (Int32.toInt64 r587.1) then f_L_law_L2118 L xs k28 a1 a2 a3 a4 a5 r591.2 else some ((0 : Int32), r591.2)) else f_L_law_L2118 L xs k28 a1 a2 a3 a4 a5 r591.2) else some ((0 : Int32), r591.2)))) (fun _ => none) r581.1)
noncomputable def f_L_law_L2174 (L : Nat) (xs : Nat → Int32) (k28 : Option Nat → Option Nat → Option Nat → Option Nat → Int32 → fSt → Option (Int32 × fSt)) (a1 : Option Nat) (a2 : Option Nat) (a3 : Option Nat) (a4 : Option Nat) (a5 : Int32) (h : fSt) : Option (Int32 × fSt) := f_L_law_L2859 L xs k28 a1 a2 a3 a4 a5 h
noncomputable def f_L_law_L2121 (L : Nat) (xs : Nat → Int32) (k28 : Option Nat → Option Nat → Option Nat → Option Nat → Int32 → fSt → Option (Int32 × fSt)) (a1 : Option Nat) (a2 : Option Nat) (a3 : Option Nat) (a4 : Option Nat) (a5 : Int32) (h : fSt) : Option (Int32 × fSt) := (if (a5 + (1 : Int32)) < 0 ∨ L ≤ ((a5 + (1 : Int32))).toNatClampNeg then none else (f_L_placeOf a1 (xs ((a5 + (1 : Int32))).toNatClampNeg) a3 h).bind fun r601 => Sum.elim (fun v603 => (if (a5 + (1 : Int32)) < 0 ∨ L ≤ ((a5 + (1 : Int32))).toNatClampNeg then none else (fobj r601.2 a2 8).bind fun b609 => (f_X8_placeOf b609 (xs ((a5 + (1 : Int32))).toNatClampNeg) r601.2).bind fun r607 => (fobj r607.2 a2 8).bind fun b613 => (f_X8_thrown b613 r607.2).bind fun r611 => (if r611.1 = v603 then (if v603 = 0 then (faJ r611.2 a3 1 (0 : Int32)).bind fun x617 => (if x617 = (Int32.toInt64 r607.1) then f_L_law_L2174 L xs k28 a1 a2 a3 a4 a5 r611.2 else some ((0 : Int32), r611.2)) else f_L_law_L2174 L xs k28 a1 a2 a3 a4 a5 r611.2) else some ((0 : Int32), r611.2)))) (fun _ => none) r601.1)
noncomputable def f_L_law_L2273 (L : Nat) (xs : Nat → Int32) (k28 : Option Nat → Option Nat → Option Nat → Option Nat → Int32 → fSt → Option (Int32 × fSt)) (a1 : Option Nat) (a2 : Option Nat) (a3 : Option Nat) (a4 : Option Nat) (a5 : Int32) (h : fSt) : Option (Int32 × fSt) := f_L_law_L2859 L xs k28 a1 a2 a3 a4 a5 h
noncomputable def f_L_law_L2267 (L : Nat) (xs : Nat → Int32) (k28 : Option Nat → Option Nat → Option Nat → Option Nat → Int32 → fSt → Option (Int32 × fSt)) (a1 : Option Nat) (a2 : Option Nat) (a3 : Option Nat) (a4 : Option Nat) (a5 : Int32) (s1 : Int64) (s0 : Int64) (h : fSt) : Option (Int32 × fSt) := (if s0 = s1 then f_L_law_L2273 L xs k28 a1 a2 a3 a4 a5 h else some ((0 : Int32), h))
noncomputable def f_L_law_L2177 (L : Nat) (xs : Nat → Int32) (k28 : Option Nat → Option Nat → Option Nat → Option Nat → Int32 → fSt → Option (Int32 × fSt)) (a1 : Option Nat) (a2 : Option Nat) (a3 : Option Nat) (a4 : Option Nat) (a5 : Int32) (h : fSt) : Option (Int32 × fSt) := (if (a5 + (1 : Int32)) < 0 ∨ L ≤ ((a5 + (1 : Int32))).toNatClampNeg then none else (if (a5 + (2 : Int32)) < 0 ∨ L ≤ ((a5 + (2 : Int32))).toNatClampNeg then none else (if (a5 + (3 : Int32)) < 0 ∨ L ≤ ((a5 + (3 : Int32))).toNatClampNeg then none else (if (a5 + (4 : Int32)) < 0 ∨ L ≤ ((a5 + (4 : Int32))).toNatClampNeg then none else (f_L_covers a1 (xs ((a5 + (1 : Int32))).toNatClampNeg) (xs ((a5 + (2 : Int32))).toNatClampNeg) (xs ((a5 + (3 : Int32))).toNatClampNeg) (xs ((a5 + (4 : Int32))).toNatClampNeg) a3 h).bind fun r625 => Sum.elim (fun v627 => (if (a5 + (1 : Int32)) < 0 ∨ L ≤ ((a5 + (1 : Int32))).toNatClampNeg then none else (if (a5 + (2 : Int32)) < 0 ∨ L ≤ ((a5 + (2 : Int32))).toNatClampNeg then none else (if (a5 + (3 : Int32)) < 0 ∨ L ≤ ((a5 + (3 : Int32))).toNatClampNeg then none else (if (a5 + (4 : Int32)) < 0 ∨ L ≤ ((a5 + (4 : Int32))).toNatClampNeg then none else (fobj r625.2 a2 8).bind fun b636 => (f_X8_covers b636 (xs ((a5 + (1 : Int32))).toNatClampNeg) (xs ((a5 + (2 : Int32))).toNatClampNeg) (xs ((a5 + (3 : Int32))).toNatClampNeg) (xs ((a5 + (4 : Int32))).toNatClampNeg) r625.2).bind fun r634 => (fobj r634.2 a2 8).bind fun b640 => (f_X8_thrown b640 r634.2).bind fun r638 => (if r638.1 = v627 then (if v627 = 0 then (faJ r638.2 a3 1 (0 : Int32)).bind fun x644 => (if r634.1 = 0 then f_L_law_L2267 L xs k28 a1 a2 a3 a4 a5 (0 : Int64) x644 r638.2 else f_L_law_L2267 L xs k28 a1 a2 a3 a4 a5 (1 : Int64) x644 r638.2) else f_L_law_L2273 L xs k28 a1 a2 a3 a4 a5 r638.2) else some ((0 : Int32), r638.2))))))) (fun _ => none) r625.1))))
noncomputable def f_L_law_L2353 (L : Nat) (xs : Nat → Int32) (k28 : Option Nat → Option Nat → Option Nat → Option Nat → Int32 → fSt → Option (Int32 × fSt)) (a1 : Option Nat) (a2 : Option Nat) (a3 : Option Nat) (a4 : Option Nat) (a5 : Int32) (h : fSt) : Option (Int32 × fSt) := f_L_law_L2859 L xs k28 a1 a2 a3 a4 a5 h
noncomputable def f_L_law_L2276 (L : Nat) (xs : Nat → Int32) (k28 : Option Nat → Option Nat → Option Nat → Option Nat → Int32 → fSt → Option (Int32 × fSt)) (a1 : Option Nat) (a2 : Option Nat) (a3 : Option Nat) (a4 : Option Nat) (a5 : Int32) (h : fSt) : Option (Int32 × fSt) := (if (a5 + (1 : Int32)) < 0 ∨ L ≤ ((a5 + (1 : Int32))).toNatClampNeg then none else (if (a5 + (2 : Int32)) < 0 ∨ L ≤ ((a5 + (2 : Int32))).toNatClampNeg then none else (if (a5 + (3 : Int32)) < 0 ∨ L ≤ ((a5 + (3 : Int32))).toNatClampNeg then none else (f_L_pick a1 (xs ((a5 + (1 : Int32))).toNatClampNeg) (xs ((a5 + (2 : Int32))).toNatClampNeg) (xs ((a5 + (3 : Int32))).toNatClampNeg) a3 h).bind fun r650 => Sum.elim (fun v652 => (if (a5 + (1 : Int32)) < 0 ∨ L ≤ ((a5 + (1 : Int32))).toNatClampNeg then none else (if (a5 + (2 : Int32)) < 0 ∨ L ≤ ((a5 + (2 : Int32))).toNatClampNeg then none else (if (a5 + (3 : Int32)) < 0 ∨ L ≤ ((a5 + (3 : Int32))).toNatClampNeg then none else (fobj r650.2 a2 8).bind fun b660 => (f_X8_pick b660 (xs ((a5 + (1 : Int32))).toNatClampNeg) (xs ((a5 + (2 : Int32))).toNatClampNeg) (xs ((a5 + (3 : Int32))).toNatClampNeg) r650.2).bind fun r658 => (fobj r658.2 a2 8).bind fun b664 => (f_X8_thrown b664 r658.2).bind fun r662 => (if r662.1 = v652 then (if v652 = 0 then (faJ r662.2 a3 1 (0 : Int32)).bind fun x668 => (if x668 = (Int32.toInt64 r658.1) then f_L_law_L2353 L xs k28 a1 a2 a3 a4 a5 r662.2 else some ((0 : Int32), r662.2)) else f_L_law_L2353 L xs k28 a1 a2 a3 a4 a5 r662.2) else some ((0 : Int32), r662.2)))))) (fun _ => none) r650.1)))
noncomputable def f_L_law_L2433 (L : Nat) (xs : Nat → Int32) (k28 : Option Nat → Option Nat → Option Nat → Option Nat → Int32 → fSt → Option (Int32 × fSt)) (a1 : Option Nat) (a2 : Option Nat) (a3 : Option Nat) (a4 : Option Nat) (a5 : Int32) (h : fSt) : Option (Int32 × fSt) := f_L_law_L2859 L xs k28 a1 a2 a3 a4 a5 h
noncomputable def f_L_law_L2356 (L : Nat) (xs : Nat → Int32) (k28 : Option Nat → Option Nat → Option Nat → Option Nat → Int32 → fSt → Option (Int32 × fSt)) (a1 : Option Nat) (a2 : Option Nat) (a3 : Option Nat) (a4 : Option Nat) (a5 : Int32) (h : fSt) : Option (Int32 × fSt) := (if (a5 + (1 : Int32)) < 0 ∨ L ≤ ((a5 + (1 : Int32))).toNatClampNeg then none else (if (a5 + (2 : Int32)) < 0 ∨ L ≤ ((a5 + (2 : Int32))).toNatClampNeg then none else (if (a5 + (3 : Int32)) < 0 ∨ L ≤ ((a5 + (3 : Int32))).toNatClampNeg then none else (f_L_many a1 (xs ((a5 + (1 : Int32))).toNatClampNeg) (xs ((a5 + (2 : Int32))).toNatClampNeg) (xs ((a5 + (3 : Int32))).toNatClampNeg) a3 h).bind fun r674 => Sum.elim (fun v676 => (if (a5 + (1 : Int32)) < 0 ∨ L ≤ ((a5 + (1 : Int32))).toNatClampNeg then none else (if (a5 + (2 : Int32)) < 0 ∨ L ≤ ((a5 + (2 : Int32))).toNatClampNeg then none else (if (a5 + (3 : Int32)) < 0 ∨ L ≤ ((a5 + (3 : Int32))).toNatClampNeg then none else (fobj r674.2 a2 8).bind fun b684 => (f_X8_many b684 (xs ((a5 + (1 : Int32))).toNatClampNeg) (xs ((a5 + (2 : Int32))).toNatClampNeg) (xs ((a5 + (3 : Int32))).toNatClampNeg) r674.2).bind fun r682 => (fobj r682.2 a2 8).bind fun b688 => (f_X8_thrown b688 r682.2).bind fun r686 => (if r686.1 = v676 then (if v676 = 0 then (faJ r686.2 a3 1 (0 : Int32)).bind fun x692 => (if x692 = (Int32.toInt64 r682.1) then f_L_law_L2433 L xs k28 a1 a2 a3 a4 a5 r686.2 else some ((0 : Int32), r686.2)) else f_L_law_L2433 L xs k28 a1 a2 a3 a4 a5 r686.2) else some ((0 : Int32), r686.2)))))) (fun _ => none) r674.1)))
noncomputable def f_L_law_L2513 (L : Nat) (xs : Nat → Int32) (k28 : Option Nat → Option Nat → Option Nat → Option Nat → Int32 → fSt → Option (Int32 × fSt)) (a1 : Option Nat) (a2 : Option Nat) (a3 : Option Nat) (a4 : Option Nat) (a5 : Int32) (h : fSt) : Option (Int32 × fSt) := f_L_law_L2859 L xs k28 a1 a2 a3 a4 a5 h
noncomputable def f_L_law_L2436 (L : Nat) (xs : Nat → Int32) (k28 : Option Nat → Option Nat → Option Nat → Option Nat → Int32 → fSt → Option (Int32 × fSt)) (a1 : Option Nat) (a2 : Option Nat) (a3 : Option Nat) (a4 : Option Nat) (a5 : Int32) (h : fSt) : Option (Int32 × fSt) := (if (a5 + (1 : Int32)) < 0 ∨ L ≤ ((a5 + (1 : Int32))).toNatClampNeg then none else (if (a5 + (2 : Int32)) < 0 ∨ L ≤ ((a5 + (2 : Int32))).toNatClampNeg then none else (if (a5 + (3 : Int32)) < 0 ∨ L ≤ ((a5 + (3 : Int32))).toNatClampNeg then none else (f_L_through a1 (xs ((a5 + (1 : Int32))).toNatClampNeg) (xs ((a5 + (2 : Int32))).toNatClampNeg) (xs ((a5 + (3 : Int32))).toNatClampNeg) a3 h).bind fun r698 => Sum.elim (fun v700 => (if (a5 + (1 : Int32)) < 0 ∨ L ≤ ((a5 + (1 : Int32))).toNatClampNeg then none else (if (a5 + (2 : Int32)) < 0 ∨ L ≤ ((a5 + (2 : Int32))).toNatClampNeg then none else (if (a5 + (3 : Int32)) < 0 ∨ L ≤ ((a5 + (3 : Int32))).toNatClampNeg then none else (fobj r698.2 a2 8).bind fun b708 => (f_X8_through b708 (xs ((a5 + (1 : Int32))).toNatClampNeg) (xs ((a5 + (2 : Int32))).toNatClampNeg) (xs ((a5 + (3 : Int32))).toNatClampNeg) r698.2).bind fun r706 => (fobj r706.2 a2 8).bind fun b712 => (f_X8_thrown b712 r706.2).bind fun r710 => (if r710.1 = v700 then (if v700 = 0 then (faJ r710.2 a3 1 (0 : Int32)).bind fun x716 => (if x716 = (Int32.toInt64 r706.1) then f_L_law_L2513 L xs k28 a1 a2 a3 a4 a5 r710.2 else some ((0 : Int32), r710.2)) else f_L_law_L2513 L xs k28 a1 a2 a3 a4 a5 r710.2) else some ((0 : Int32), r710.2)))))) (fun _ => none) r698.1)))
noncomputable def f_L_law_L2581 (L : Nat) (xs : Nat → Int32) (k28 : Option Nat → Option Nat → Option Nat → Option Nat → Int32 → fSt → Option (Int32 × fSt)) (a1 : Option Nat) (a2 : Option Nat) (a3 : Option Nat) (a4 : Option Nat) (a5 : Int32) (h : fSt) : Option (Int32 × fSt) := f_L_law_L2859 L xs k28 a1 a2 a3 a4 a5 h
noncomputable def f_L_law_L2516 (L : Nat) (xs : Nat → Int32) (k28 : Option Nat → Option Nat → Option Nat → Option Nat → Int32 → fSt → Option (Int32 × fSt)) (a1 : Option Nat) (a2 : Option Nat) (a3 : Option Nat) (a4 : Option Nat) (a5 : Int32) (h : fSt) : Option (Int32 × fSt) := (if (a5 + (1 : Int32)) < 0 ∨ L ≤ ((a5 + (1 : Int32))).toNatClampNeg then none else (if (a5 + (2 : Int32)) < 0 ∨ L ≤ ((a5 + (2 : Int32))).toNatClampNeg then none else (f_L_changes a1 (xs ((a5 + (1 : Int32))).toNatClampNeg) (xs ((a5 + (2 : Int32))).toNatClampNeg) a3 h).bind fun r721 => Sum.elim (fun v723 => (if (a5 + (1 : Int32)) < 0 ∨ L ≤ ((a5 + (1 : Int32))).toNatClampNeg then none else (if (a5 + (2 : Int32)) < 0 ∨ L ≤ ((a5 + (2 : Int32))).toNatClampNeg then none else (fobj r721.2 a2 8).bind fun b730 => (f_X8_changes b730 (xs ((a5 + (1 : Int32))).toNatClampNeg) (xs ((a5 + (2 : Int32))).toNatClampNeg) r721.2).bind fun r728 => (fobj r728.2 a2 8).bind fun b734 => (f_X8_thrown b734 r728.2).bind fun r732 => (if r732.1 = v723 then (if v723 = 0 then (faJ r732.2 a3 1 (0 : Int32)).bind fun x738 => (if x738 = (Int32.toInt64 r728.1) then f_L_law_L2581 L xs k28 a1 a2 a3 a4 a5 r732.2 else some ((0 : Int32), r732.2)) else f_L_law_L2581 L xs k28 a1 a2 a3 a4 a5 r732.2) else some ((0 : Int32), r732.2))))) (fun _ => none) r721.1))
noncomputable def f_L_law_L2673 (L : Nat) (xs : Nat → Int32) (k28 : Option Nat → Option Nat → Option Nat → Option Nat → Int32 → fSt → Option (Int32 × fSt)) (a1 : Option Nat) (a2 : Option Nat) (a3 : Option Nat) (a4 : Option Nat) (a5 : Int32) (h : fSt) : Option (Int32 × fSt) := f_L_law_L2859 L xs k28 a1 a2 a3 a4 a5 h
noncomputable def f_L_law_L2584 (L : Nat) (xs : Nat → Int32) (k28 : Option Nat → Option Nat → Option Nat → Option Nat → Int32 → fSt → Option (Int32 × fSt)) (a1 : Option Nat) (a2 : Option Nat) (a3 : Option Nat) (a4 : Option Nat) (a5 : Int32) (h : fSt) : Option (Int32 × fSt) := (if (a5 + (1 : Int32)) < 0 ∨ L ≤ ((a5 + (1 : Int32))).toNatClampNeg then none else (if (a5 + (2 : Int32)) < 0 ∨ L ≤ ((a5 + (2 : Int32))).toNatClampNeg then none else (if (a5 + (3 : Int32)) < 0 ∨ L ≤ ((a5 + (3 : Int32))).toNatClampNeg then none else (if (a5 + (4 : Int32)) < 0 ∨ L ≤ ((a5 + (4 : Int32))).toNatClampNeg then none else (f_L_pickWithout a1 (xs ((a5 + (1 : Int32))).toNatClampNeg) (xs ((a5 + (2 : Int32))).toNatClampNeg) (xs ((a5 + (3 : Int32))).toNatClampNeg) (xs ((a5 + (4 : Int32))).toNatClampNeg) a3 h).bind fun r745 => Sum.elim (fun v747 => (if (a5 + (1 : Int32)) < 0 ∨ L ≤ ((a5 + (1 : Int32))).toNatClampNeg then none else (if (a5 + (2 : Int32)) < 0 ∨ L ≤ ((a5 + (2 : Int32))).toNatClampNeg then none else (if (a5 + (3 : Int32)) < 0 ∨ L ≤ ((a5 + (3 : Int32))).toNatClampNeg then none else (if (a5 + (4 : Int32)) < 0 ∨ L ≤ ((a5 + (4 : Int32))).toNatClampNeg then none else (fobj r745.2 a2 8).bind fun b756 => (f_X8_pickWithout b756 (xs ((a5 + (1 : Int32))).toNatClampNeg) (xs ((a5 + (2 : Int32))).toNatClampNeg) (xs ((a5 + (3 : Int32))).toNatClampNeg) (xs ((a5 + (4 : Int32))).toNatClampNeg) r745.2).bind fun r754 => (fobj r754.2 a2 8).bind fun b760 => (f_X8_thrown b760 r754.2).bind fun r758 => (if r758.1 = v747 then (if v747 = 0 then (faJ r758.2 a3 1 (0 : Int32)).bind fun x764 => (if x764 = (Int32.toInt64 r754.1) then f_L_law_L2673 L xs k28 a1 a2 a3 a4 a5 r758.2 else some ((0 : Int32), r758.2)) else f_L_law_L2673 L xs k28 a1 a2 a3 a4 a5 r758.2) else some ((0 : Int32), r758.2))))))) (fun _ => none) r745.1))))
noncomputable def f_L_law_L2765 (L : Nat) (xs : Nat → Int32) (k28 : Option Nat → Option Nat → Option Nat → Option Nat → Int32 → fSt → Option (Int32 × fSt)) (a1 : Option Nat) (a2 : Option Nat) (a3 : Option Nat) (a4 : Option Nat) (a5 : Int32) (h : fSt) : Option (Int32 × fSt) := f_L_law_L2859 L xs k28 a1 a2 a3 a4 a5 h
noncomputable def f_L_law_L2676 (L : Nat) (xs : Nat → Int32) (k28 : Option Nat → Option Nat → Option Nat → Option Nat → Int32 → fSt → Option (Int32 × fSt)) (a1 : Option Nat) (a2 : Option Nat) (a3 : Option Nat) (a4 : Option Nat) (a5 : Int32) (h : fSt) : Option (Int32 × fSt) := (if (a5 + (1 : Int32)) < 0 ∨ L ≤ ((a5 + (1 : Int32))).toNatClampNeg then none else (if (a5 + (2 : Int32)) < 0 ∨ L ≤ ((a5 + (2 : Int32))).toNatClampNeg then none else (if (a5 + (3 : Int32)) < 0 ∨ L ≤ ((a5 + (3 : Int32))).toNatClampNeg then none else (if (a5 + (4 : Int32)) < 0 ∨ L ≤ ((a5 + (4 : Int32))).toNatClampNeg then none else (f_L_nextPick a1 (xs ((a5 + (1 : Int32))).toNatClampNeg) (xs ((a5 + (2 : Int32))).toNatClampNeg) (xs ((a5 + (3 : Int32))).toNatClampNeg) (xs ((a5 + (4 : Int32))).toNatClampNeg) a3 h).bind fun r771 => Sum.elim (fun v773 => (if (a5 + (1 : Int32)) < 0 ∨ L ≤ ((a5 + (1 : Int32))).toNatClampNeg then none else (if (a5 + (2 : Int32)) < 0 ∨ L ≤ ((a5 + (2 : Int32))).toNatClampNeg then none else (if (a5 + (3 : Int32)) < 0 ∨ L ≤ ((a5 + (3 : Int32))).toNatClampNeg then none else (if (a5 + (4 : Int32)) < 0 ∨ L ≤ ((a5 + (4 : Int32))).toNatClampNeg then none else (fobj r771.2 a2 8).bind fun b782 => (f_X8_nextPick b782 (xs ((a5 + (1 : Int32))).toNatClampNeg) (xs ((a5 + (2 : Int32))).toNatClampNeg) (xs ((a5 + (3 : Int32))).toNatClampNeg) (xs ((a5 + (4 : Int32))).toNatClampNeg) r771.2).bind fun r780 => (fobj r780.2 a2 8).bind fun b786 => (f_X8_thrown b786 r780.2).bind fun r784 => (if r784.1 = v773 then (if v773 = 0 then (faJ r784.2 a3 1 (0 : Int32)).bind fun x790 => (if x790 = (Int32.toInt64 r780.1) then f_L_law_L2765 L xs k28 a1 a2 a3 a4 a5 r784.2 else some ((0 : Int32), r784.2)) else f_L_law_L2765 L xs k28 a1 a2 a3 a4 a5 r784.2) else some ((0 : Int32), r784.2))))))) (fun _ => none) r771.1))))
noncomputable def f_L_law_L2840 (L : Nat) (xs : Nat → Int32)  (h : fSt) : Option (Int32 × fSt) := some ((0 : Int32), h)
noncomputable def f_L_law_L2842 (L : Nat) (xs : Nat → Int32) (k28 : Option Nat → Option Nat → Option Nat → Option Nat → Int32 → fSt → Option (Int32 × fSt)) (a1 : Option Nat) (a2 : Option Nat) (a3 : Option Nat) (a4 : Option Nat) (a5 : Int32) (h : fSt) : Option (Int32 × fSt) := f_L_law_L2859 L xs k28 a1 a2 a3 a4 a5 h
noncomputable def f_L_law_L2768 (L : Nat) (xs : Nat → Int32) (k28 : Option Nat → Option Nat → Option Nat → Option Nat → Int32 → fSt → Option (Int32 × fSt)) (a1 : Option Nat) (a2 : Option Nat) (a3 : Option Nat) (a4 : Option Nat) (a5 : Int32) (h : fSt) : Option (Int32 × fSt) := (if (a5 + (1 : Int32)) < 0 ∨ L ≤ ((a5 + (1 : Int32))).toNatClampNeg then none else (f_L_size a1 (xs ((a5 + (1 : Int32))).toNatClampNeg) a4 h).bind fun r794 => Sum.elim (fun v796 => (if (a5 + (1 : Int32)) < 0 ∨ L ≤ ((a5 + (1 : Int32))).toNatClampNeg then none else (fobj r794.2 a2 8).bind fun b802 => (f_X8_size b802 (xs ((a5 + (1 : Int32))).toNatClampNeg) r794.2).bind fun r800 => (fobj r800.2 a2 8).bind fun b806 => (f_X8_thrown b806 r800.2).bind fun r804 => (if r804.1 = v796 then (if v796 = 0 then (faD r804.2 a4 3 (0 : Int32)).bind fun x810 => (if (Op.cmpValue (FP.dcmp x810 r800.1) CmpOp.l) = 0 then f_L_law_L2842 L xs k28 a1 a2 a3 a4 a5 r804.2 else (faD r804.2 a4 3 (0 : Int32)).bind fun x813 => (faD r804.2 a4 3 (0 : Int32)).bind fun x815 => (if (Op.cmpValue (FP.dcmp x813 x815) CmpOp.l) = 0 then f_L_law_L2840 L xs r804.2 else (if (Op.cmpValue (FP.dcmp r800.1 r800.1) CmpOp.l) = 0 then f_L_law_L2840 L xs r804.2 else f_L_law_L2842 L xs k28 a1 a2 a3 a4 a5 r804.2))) else f_L_law_L2842 L xs k28 a1 a2 a3 a4 a5 r804.2) else some ((0 : Int32), r804.2)))) (fun _ => none) r794.1)
noncomputable def f_L_law_L2845 (L : Nat) (xs : Nat → Int32) (k28 : Option Nat → Option Nat → Option Nat → Option Nat → Int32 → fSt → Option (Int32 × fSt)) (a1 : Option Nat) (a2 : Option Nat) (a3 : Option Nat) (a4 : Option Nat) (a5 : Int32) (h : fSt) : Option (Int32 × fSt) := (fobj h a1 7).bind fun b821 => (f_X7_digest b821 h).bind fun r819 => (fobj r819.2 a2 8).bind fun b825 => (f_X8_digest b825 r819.2).bind fun r823 => (if r819.1 = r823.1 then f_L_law_L2859 L xs k28 a1 a2 a3 a4 a5 r823.2 else some ((0 : Int32), r823.2))
noncomputable def f_L_law_L28 (L : Nat) (xs : Nat → Int32) (n : Nat) : Option Nat → Option Nat → Option Nat → Option Nat → Int32 → fSt → Option (Int32 × fSt) := Nat.rec (motive := fun _ => Option Nat → Option Nat → Option Nat → Option Nat → Int32 → fSt → Option (Int32 × fSt)) (fun _ _ _ _ _ _ => none) (fun _ k28 (a1 : Option Nat) (a2 : Option Nat) (a3 : Option Nat) (a4 : Option Nat) (a5 : Int32) (h : fSt) => (if ((Int32.ofNat L) - (6 : Int32)) < a5 then some ((1 : Int32), h) else (if a5 < 0 ∨ L ≤ (a5).toNatClampNeg then none else (if ((xs (a5).toNatClampNeg) &&& (63 : Int32)) = (0 : Int32) then f_L_law_L212 L xs k28 a1 a2 a3 a4 a5 h else (if ((xs (a5).toNatClampNeg) &&& (63 : Int32)) = (1 : Int32) then f_L_law_L304 L xs k28 a1 a2 a3 a4 a5 h else (if ((xs (a5).toNatClampNeg) &&& (63 : Int32)) = (2 : Int32) then f_L_law_L360 L xs k28 a1 a2 a3 a4 a5 h else (if ((xs (a5).toNatClampNeg) &&& (63 : Int32)) = (3 : Int32) then f_L_law_L428 L xs k28 a1 a2 a3 a4 a5 h else (if ((xs (a5).toNatClampNeg) &&& (63 : Int32)) = (4 : Int32) then f_L_law_L508 L xs k28 a1 a2 a3 a4 a5 h else (if ((xs (a5).toNatClampNeg) &&& (63 : Int32)) = (5 : Int32) then f_L_law_L588 L xs k28 a1 a2 a3 a4 a5 h else (if ((xs (a5).toNatClampNeg) &&& (63 : Int32)) = (6 : Int32) then f_L_law_L684 L xs k28 a1 a2 a3 a4 a5 h else (if ((xs (a5).toNatClampNeg) &&& (63 : Int32)) = (7 : Int32) then f_L_law_L792 L xs k28 a1 a2 a3 a4 a5 h else (if ((xs (a5).toNatClampNeg) &&& (63 : Int32)) = (8 : Int32) then f_L_law_L903 L xs k28 a1 a2 a3 a4 a5 h else (if ((xs (a5).toNatClampNeg) &&& (63 : Int32)) = (9 : Int32) then f_L_law_L966 L xs k28 a1 a2 a3 a4 a5 h else (if ((xs (a5).toNatClampNeg) &&& (63 : Int32)) = (10 : Int32) then f_L_law_L979 L xs k28 a1 a2 a3 a4 a5 h else (if ((xs (a5).toNatClampNeg) &&& (63 : Int32)) = (11 : Int32) then f_L_law_L992 L xs k28 a1 a2 a3 a4 a5 h else (if ((xs (a5).toNatClampNeg) &&& (63 : Int32)) = (12 : Int32) then f_L_law_L1048 L xs k28 a1 a2 a3 a4 a5 h else (if ((xs (a5).toNatClampNeg) &&& (63 : Int32)) = (13 : Int32) then f_L_law_L1104 L xs k28 a1 a2 a3 a4 a5 h else (if ((xs (a5).toNatClampNeg) &&& (63 : Int32)) = (14 : Int32) then f_L_law_L1172 L xs k28 a1 a2 a3 a4 a5 h else (if ((xs (a5).toNatClampNeg) &&& (63 : Int32)) = (15 : Int32) then f_L_law_L1264 L xs k28 a1 a2 a3 a4 a5 h else (if ((xs (a5).toNatClampNeg) &&& (63 : Int32)) = (16 : Int32) then f_L_law_L1344 L xs k28 a1 a2 a3 a4 a5 h else (if ((xs (a5).toNatClampNeg) &&& (63 : Int32)) = (17 : Int32) then f_L_law_L1412 L xs k28 a1 a2 a3 a4 a5 h else (if ((xs (a5).toNatClampNeg) &&& (63 : Int32)) = (18 : Int32) then f_L_law_L1468 L xs k28 a1 a2 a3 a4 a5 h else (if ((xs (a5).toNatClampNeg) &&& (63 : Int32)) = (19 : Int32) then f_L_law_L1481 L xs k28 a1 a2 a3 a4 a5 h else (if ((xs (a5).toNatClampNeg) &&& (63 : Int32)) = (20 : Int32) then f_L_law_L1549 L xs k28 a1 a2 a3 a4 a5 h else (if ((xs (a5).toNatClampNeg) &&& (63 : Int32)) = (21 : Int32) then f_L_law_L1562 L xs k28 a1 a2 a3 a4 a5 h else (if ((xs (a5).toNatClampNeg) &&& (63 : Int32)) = (22 : Int32) then f_L_law_L1654 L xs k28 a1 a2 a3 a4 a5 h else (if ((xs (a5).toNatClampNeg) &&& (63 : Int32)) = (23 : Int32) then f_L_law_L1746 L xs k28 a1 a2 a3 a4 a5 h else (if ((xs (a5).toNatClampNeg) &&& (63 : Int32)) = (24 : Int32) then f_L_law_L1850 L xs k28 a1 a2 a3 a4 a5 h else (if ((xs (a5).toNatClampNeg) &&& (63 : Int32)) = (25 : Int32) then f_L_law_L1946 L xs k28 a1 a2 a3 a4 a5 h else (if ((xs (a5).toNatClampNeg) &&& (63 : Int32)) = (26 : Int32) then f_L_law_L2009 L xs k28 a1 a2 a3 a4 a5 h else (if ((xs (a5).toNatClampNeg) &&& (63 : Int32)) = (27 : Int32) then f_L_law_L2065 L xs k28 a1 a2 a3 a4 a5 h else (if ((xs (a5).toNatClampNeg) &&& (63 : Int32)) = (28 : Int32) then f_L_law_L2121 L xs k28 a1 a2 a3 a4 a5 h else (if ((xs (a5).toNatClampNeg) &&& (63 : Int32)) = (29 : Int32) then f_L_law_L2177 L xs k28 a1 a2 a3 a4 a5 h else (if ((xs (a5).toNatClampNeg) &&& (63 : Int32)) = (30 : Int32) then f_L_law_L2276 L xs k28 a1 a2 a3 a4 a5 h else (if ((xs (a5).toNatClampNeg) &&& (63 : Int32)) = (31 : Int32) then f_L_law_L2356 L xs k28 a1 a2 a3 a4 a5 h else (if ((xs (a5).toNatClampNeg) &&& (63 : Int32)) = (32 : Int32) then f_L_law_L2436 L xs k28 a1 a2 a3 a4 a5 h else (if ((xs (a5).toNatClampNeg) &&& (63 : Int32)) = (33 : Int32) then f_L_law_L2516 L xs k28 a1 a2 a3 a4 a5 h else (if ((xs (a5).toNatClampNeg) &&& (63 : Int32)) = (34 : Int32) then f_L_law_L2584 L xs k28 a1 a2 a3 a4 a5 h else (if ((xs (a5).toNatClampNeg) &&& (63 : Int32)) = (35 : Int32) then f_L_law_L2676 L xs k28 a1 a2 a3 a4 a5 h else (if ((xs (a5).toNatClampNeg) &&& (63 : Int32)) = (36 : Int32) then f_L_law_L2768 L xs k28 a1 a2 a3 a4 a5 h else (if ((xs (a5).toNatClampNeg) &&& (63 : Int32)) = (37 : Int32) then f_L_law_L2845 L xs k28 a1 a2 a3 a4 a5 h else f_L_law_L2859 L xs k28 a1 a2 a3 a4 a5 h))))))))))))))))))))))))))))))))))))))))) n
noncomputable def f_L_law_L0 (L : Nat) (xs : Nat → Int32)  (h : fSt) : Option (Int32 × fSt) := (fnew h (.inl (7, [.null, .null, .null, .null, .null, .int 0, .int 0, .int 0, .null, .int 0])) 10).bind fun r868 => (f_X7_init r868.1 r868.2).bind fun r870 => (fnew r870.2 (.inl (8, [.int 0, .int 0, .null, .null, .null, .null, .null, .null, .null, .null, .null, .null, .null, .null, .null, .null, .int 0, .int 0, .null, .null, .null, .null, .null, .null, .null, .int 0])) 26).bind fun r872 => (f_X8_init r872.1 r872.2).bind fun r874 => (if (1 : Int32) < 0 ∨ 67000000 < ((1 : Int32)).toNatClampNeg then none else (fnew r874.2 (.inr (1, ((1 : Int32)).toNatClampNeg, .inr (.inl (fun _ => 0)))) ((1 : Int32)).toNatClampNeg).bind fun r877 => (if (1 : Int32) < 0 ∨ 67000000 < ((1 : Int32)).toNatClampNeg then none else (fnew r877.2 (.inr (3, ((1 : Int32)).toNatClampNeg, .inr (.inr (.inr (.inl (fun _ => 0)))))) ((1 : Int32)).toNatClampNeg).bind fun r880 => f_L_law_L28 L xs 4096 (some r868.1) (some r872.1) (some r877.1) (some r880.1) (0 : Int32) r880.2))
set_option maxHeartbeats 4000000 in
set_option maxRecDepth 100000 in
theorem w_L_law_L2859 {p : Program} {l : Launch} {e : Env} {s : State} {m : MethodId} {args : Array Value} {below : List Frame} {meth : Method} {c : Code} {D : va_G} {cA : Nat → ClassId} {h0 : fSt} {r : (Int32 × fSt)} {Q : State → Prop} {R : Room} {b L : Nat} {xs : Nat → Int32} (M : fM p s m args meth c D cA h0 R cL_law 9 (some (.boolean)) RL) (hfl : l.stackTraces = false) (hRf : 35 ≤ R.frames) (hRl : 944 ≤ R.locals) (X : va_X b L xs s s.heap ∧ b < s.heap.size ∧ ¬ fA h0 b) (hend : ∀ (x : Int32) (h : fSt) (H : Heap) (locs : List Loc) (cells slots : Nat) (ls : Array Slot) (pc : Nat), (x, h) = r → fCur D cA s h0 h H locs → decode code pc = .ok (.ireturn, 1) → W p l e R s m args below meth c H locs cells slots Q (F0 m pc ls [.int x])) {k28 : Option Nat → Option Nat → Option Nat → Option Nat → Int32 → fSt → Option (Int32 × fSt)} (hk28 : ∀ (a1 : Option Nat) (a2 : Option Nat) (a3 : Option Nat) (a4 : Option Nat) (a5 : Int32) (h : fSt), k28 a1 a2 a3 a4 a5 h = some r → ∀ (H : Heap) (locs : List Loc) (cells slots : Nat) (ls : Array Slot), fCur D cA s h0 h H locs → lv_has ls 9 [(0, .ref b), (1, va_rf a1), (2, va_rf a2), (3, va_rf a3), (4, va_rf a4), (5, .int a5)] → W p l e R s m args below meth c H locs cells slots Q (F0 m 28 ls [])) (a1 : Option Nat) (a2 : Option Nat) (a3 : Option Nat) (a4 : Option Nat) (a5 : Int32) (h : fSt) (hf : f_L_law_L2859 L xs k28 a1 a2 a3 a4 a5 h = some r) : ∀ (H : Heap) (locs : List Loc) (cells slots : Nat) (ls : Array Slot), fCur D cA s h0 h H locs → lv_has ls 9 [(0, .ref b), (1, va_rf a1), (2, va_rf a2), (3, va_rf a3), (4, va_rf a4), (5, .int a5)] → W p l e R s m args below meth c H locs cells slots Q (F0 m 2859 ls []) := by
  obtain ⟨hx, hb, hml, hr, hlocks, hts, hown, K, hR⟩ := id M
  intro H locs cells slots ls hC hl
  refine lv_iinc (v := (a5 + (6 : Int32))) (lv' := [(5, .int (a5 + (6 : Int32))), (0, .ref b), (1, va_rf a1), (2, va_rf a2), (3, va_rf a3), (4, va_rf a4)]) hx hb dL_law_2859 hl (k := 5) rfl rfl (by decide) (congrArg (List.cons _) (flk rfl (flk rfl (flk rfl (flk rfl (flk (adj1 _ _) (fld rfl fln))))))) (fun ls hl => ?_)
  refine lv_goto (tgt := 28) hx hb dL_law_2862 (by decide) ?_
  exact hk28 _ _ _ _ _ _ hf _ _ _ _ _ hC (lv_sub hl [1, 2, 3, 4, 5, 0] rfl)
set_option maxHeartbeats 4000000 in
set_option maxRecDepth 100000 in
theorem w_L_law_L301 {p : Program} {l : Launch} {e : Env} {s : State} {m : MethodId} {args : Array Value} {below : List Frame} {meth : Method} {c : Code} {D : va_G} {cA : Nat → ClassId} {h0 : fSt} {r : (Int32 × fSt)} {Q : State → Prop} {R : Room} {b L : Nat} {xs : Nat → Int32} (M : fM p s m args meth c D cA h0 R cL_law 9 (some (.boolean)) RL) (hfl : l.stackTraces = false) (hRf : 35 ≤ R.frames) (hRl : 944 ≤ R.locals) (X : va_X b L xs s s.heap ∧ b < s.heap.size ∧ ¬ fA h0 b) (hend : ∀ (x : Int32) (h : fSt) (H : Heap) (locs : List Loc) (cells slots : Nat) (ls : Array Slot) (pc : Nat), (x, h) = r → fCur D cA s h0 h H locs → decode code pc = .ok (.ireturn, 1) → W p l e R s m args below meth c H locs cells slots Q (F0 m pc ls [.int x])) {k28 : Option Nat → Option Nat → Option Nat → Option Nat → Int32 → fSt → Option (Int32 × fSt)} (hk28 : ∀ (a1 : Option Nat) (a2 : Option Nat) (a3 : Option Nat) (a4 : Option Nat) (a5 : Int32) (h : fSt), k28 a1 a2 a3 a4 a5 h = some r → ∀ (H : Heap) (locs : List Loc) (cells slots : Nat) (ls : Array Slot), fCur D cA s h0 h H locs → lv_has ls 9 [(0, .ref b), (1, va_rf a1), (2, va_rf a2), (3, va_rf a3), (4, va_rf a4), (5, .int a5)] → W p l e R s m args below meth c H locs cells slots Q (F0 m 28 ls [])) (a1 : Option Nat) (a2 : Option Nat) (a3 : Option Nat) (a4 : Option Nat) (a5 : Int32) (h : fSt) (hf : f_L_law_L301 L xs k28 a1 a2 a3 a4 a5 h = some r) : ∀ (H : Heap) (locs : List Loc) (cells slots : Nat) (ls : Array Slot), fCur D cA s h0 h H locs → lv_has ls 9 [(0, .ref b), (1, va_rf a1), (2, va_rf a2), (3, va_rf a3), (4, va_rf a4), (5, .int a5)] → W p l e R s m args below meth c H locs cells slots Q (F0 m 301 ls []) := by
  obtain ⟨hx, hb, hml, hr, hlocks, hts, hown, K, hR⟩ := id M
  intro H locs cells slots ls hC hl
  refine lv_goto (tgt := 2859) hx hb dL_law_301 (by decide) ?_
  exact w_L_law_L2859 M hfl hRf hRl X hend hk28 _ _ _ _ _ _ hf _ _ _ _ _ hC (lv_sub hl [0, 1, 2, 3, 4, 5] rfl)
set_option maxHeartbeats 4000000 in
set_option maxRecDepth 100000 in
theorem w_L_law_L212 {p : Program} {l : Launch} {e : Env} {s : State} {m : MethodId} {args : Array Value} {below : List Frame} {meth : Method} {c : Code} {D : va_G} {cA : Nat → ClassId} {h0 : fSt} {r : (Int32 × fSt)} {Q : State → Prop} {R : Room} {b L : Nat} {xs : Nat → Int32} (M : fM p s m args meth c D cA h0 R cL_law 9 (some (.boolean)) RL) (hfl : l.stackTraces = false) (hRf : 35 ≤ R.frames) (hRl : 944 ≤ R.locals) (X : va_X b L xs s s.heap ∧ b < s.heap.size ∧ ¬ fA h0 b) (hend : ∀ (x : Int32) (h : fSt) (H : Heap) (locs : List Loc) (cells slots : Nat) (ls : Array Slot) (pc : Nat), (x, h) = r → fCur D cA s h0 h H locs → decode code pc = .ok (.ireturn, 1) → W p l e R s m args below meth c H locs cells slots Q (F0 m pc ls [.int x])) {k28 : Option Nat → Option Nat → Option Nat → Option Nat → Int32 → fSt → Option (Int32 × fSt)} (hk28 : ∀ (a1 : Option Nat) (a2 : Option Nat) (a3 : Option Nat) (a4 : Option Nat) (a5 : Int32) (h : fSt), k28 a1 a2 a3 a4 a5 h = some r → ∀ (H : Heap) (locs : List Loc) (cells slots : Nat) (ls : Array Slot), fCur D cA s h0 h H locs → lv_has ls 9 [(0, .ref b), (1, va_rf a1), (2, va_rf a2), (3, va_rf a3), (4, va_rf a4), (5, .int a5)] → W p l e R s m args below meth c H locs cells slots Q (F0 m 28 ls [])) (a1 : Option Nat) (a2 : Option Nat) (a3 : Option Nat) (a4 : Option Nat) (a5 : Int32) (h : fSt) (hf : f_L_law_L212 L xs k28 a1 a2 a3 a4 a5 h = some r) : ∀ (H : Heap) (locs : List Loc) (cells slots : Nat) (ls : Array Slot), fCur D cA s h0 h H locs → lv_has ls 9 [(0, .ref b), (1, va_rf a1), (2, va_rf a2), (3, va_rf a3), (4, va_rf a4), (5, .int a5)] → W p l e R s m args below meth c H locs cells slots Q (F0 m 212 ls []) := by
  obtain ⟨hx, hb, hml, hr, hlocks, hts, hown, K, hR⟩ := id M
  intro H locs cells slots ls hC hl
  refine fr_aload_n hx hb dL_law_212 rfl (lv_at hl 1 rfl) ?_
  refine lv_aload_n hx hb dL_law_213 rfl (lv_at hl 0 rfl) ?_
  refine lv_iload hx hb dL_law_214 (lv_at hl 5 rfl) ?_
  refine lv_iconst (v := (1 : Int32)) hx hb dL_law_216 (by decide) ?_
  refine lv_iadd hx hb dL_law_217 ?_
  by_cases c1 : (a5 + (1 : Int32)) < 0 ∨ L ≤ ((a5 + (1 : Int32))).toNatClampNeg
  · exact nomatch (opos c1 hf)
  replace hf := oneg c1 hf
  refine va_sld hx hb X.1 X.2.1 X.2.2 hC.2.2.2.2.2.1 c1 dL_law_218 ?_
  refine lv_aload_n hx hb dL_law_219 rfl (lv_at hl 0 rfl) ?_
  refine lv_iload hx hb dL_law_220 (lv_at hl 5 rfl) ?_
  refine lv_iconst (v := (2 : Int32)) hx hb dL_law_222 (by decide) ?_
  refine lv_iadd hx hb dL_law_223 ?_
  by_cases c2 : (a5 + (2 : Int32)) < 0 ∨ L ≤ ((a5 + (2 : Int32))).toNatClampNeg
  · exact nomatch (opos c2 hf)
  replace hf := oneg c2 hf
  refine va_sld hx hb X.1 X.2.1 X.2.2 hC.2.2.2.2.2.1 c2 dL_law_224 ?_
  refine lv_aload_n hx hb dL_law_225 rfl (lv_at hl 0 rfl) ?_
  refine lv_iload hx hb dL_law_226 (lv_at hl 5 rfl) ?_
  refine lv_iconst (v := (3 : Int32)) hx hb dL_law_228 (by decide) ?_
  refine lv_iadd hx hb dL_law_229 ?_
  by_cases c3 : (a5 + (3 : Int32)) < 0 ∨ L ≤ ((a5 + (3 : Int32))).toNatClampNeg
  · exact nomatch (opos c3 hf)
  replace hf := oneg c3 hf
  refine va_sld hx hb X.1 X.2.1 X.2.2 hC.2.2.2.2.2.1 c3 dL_law_230 ?_
  refine lv_aload_n hx hb dL_law_231 rfl (lv_at hl 0 rfl) ?_
  refine lv_iload hx hb dL_law_232 (lv_at hl 5 rfl) ?_
  refine lv_iconst (v := (4 : Int32)) hx hb dL_law_234 (by decide) ?_
  refine lv_iadd hx hb dL_law_235 ?_
  by_cases c4 : (a5 + (4 : Int32)) < 0 ∨ L ≤ ((a5 + (4 : Int32))).toNatClampNeg
  · exact nomatch (opos c4 hf)
  replace hf := oneg c4 hf
  refine va_sld hx hb X.1 X.2.1 X.2.2 hC.2.2.2.2.2.1 c4 dL_law_236 ?_
  refine fr_aload_n hx hb dL_law_237 rfl (lv_at hl 3 rfl) ?_
  obtain ⟨⟨v7 | k8, h9⟩, g6, hf⟩ := obind hf
  rotate_left
  · exact nomatch (show (none : Option (Int32 × fSt)) = some _ from hf)
  replace hf := fci hf
  refine fr_callSH hx hb hml hts hown K hC hR (c_L_add hfl D cA g6) 6 kw572 kw570 kw571 kw54 (by decide +kernel) ⟨by omega, by omega⟩ rfl hl.1 (cat8 _ (by exact Nat.le_of_ble_eq_true rfl)) dL_law_238 rfl (fun H locs _ _ hC => ?_)
  refine lv_istore (lv' := [(6, .int v7), (0, .ref b), (1, va_rf a1), (2, va_rf a2), (3, va_rf a3), (4, va_rf a4), (5, .int a5)]) hx hb dL_law_241 hl (by decide) (congrArg (List.cons _) (flk rfl (flk rfl (flk rfl (flk rfl (flk rfl (flk rfl fln))))))) (fun ls hl => ?_)
  refine fr_aload_n hx hb dL_law_243 rfl (lv_at hl 3 rfl) ?_
  refine lv_aload_n hx hb dL_law_244 rfl (lv_at hl 1 rfl) ?_
  refine lv_iload hx hb dL_law_245 (lv_at hl 6 rfl) ?_
  refine lv_iconst (v := (1 : Int32)) hx hb dL_law_247 (by decide) ?_
  refine lv_iadd hx hb dL_law_248 ?_
  by_cases c10 : (a5 + (1 : Int32)) < 0 ∨ L ≤ ((a5 + (1 : Int32))).toNatClampNeg
  · exact nomatch (opos c10 hf)
  replace hf := oneg c10 hf
  refine va_sld hx hb X.1 X.2.1 X.2.2 hC.2.2.2.2.2.1 c10 dL_law_249 ?_
  refine lv_aload_n hx hb dL_law_250 rfl (lv_at hl 1 rfl) ?_
  refine lv_iload hx hb dL_law_251 (lv_at hl 6 rfl) ?_
  refine lv_iconst (v := (2 : Int32)) hx hb dL_law_253 (by decide) ?_
  refine lv_iadd hx hb dL_law_254 ?_
  by_cases c11 : (a5 + (2 : Int32)) < 0 ∨ L ≤ ((a5 + (2 : Int32))).toNatClampNeg
  · exact nomatch (opos c11 hf)
  replace hf := oneg c11 hf
  refine va_sld hx hb X.1 X.2.1 X.2.2 hC.2.2.2.2.2.1 c11 dL_law_255 ?_
  refine lv_aload_n hx hb dL_law_256 rfl (lv_at hl 1 rfl) ?_
  refine lv_iload hx hb dL_law_257 (lv_at hl 6 rfl) ?_
  refine lv_iconst (v := (3 : Int32)) hx hb dL_law_259 (by decide) ?_
  refine lv_iadd hx hb dL_law_260 ?_
  by_cases c12 : (a5 + (3 : Int32)) < 0 ∨ L ≤ ((a5 + (3 : Int32))).toNatClampNeg
  · exact nomatch (opos c12 hf)
  replace hf := oneg c12 hf
  refine va_sld hx hb X.1 X.2.1 X.2.2 hC.2.2.2.2.2.1 c12 dL_law_261 ?_
  refine lv_aload_n hx hb dL_law_262 rfl (lv_at hl 1 rfl) ?_
  refine lv_iload hx hb dL_law_263 (lv_at hl 6 rfl) ?_
  refine lv_iconst (v := (4 : Int32)) hx hb dL_law_265 (by decide) ?_
  refine lv_iadd hx hb dL_law_266 ?_
  by_cases c13 : (a5 + (4 : Int32)) < 0 ∨ L ≤ ((a5 + (4 : Int32))).toNatClampNeg
  · exact nomatch (opos c13 hf)
  replace hf := oneg c13 hf
  refine va_sld hx hb X.1 X.2.1 X.2.2 hC.2.2.2.2.2.1 c13 dL_law_267 ?_
  obtain ⟨b16, q17, hf⟩ := obind hf
  obtain ⟨r14, g15, hf⟩ := obind hf
  refine fr_callV hx hb hml hts hown K hC hR ct_8 (c_X8_add hfl D cA g15) 4 q17 kw1059 kw1056 kw1057 kw1058 kw62 (by decide +kernel) ⟨by omega, by omega⟩ rfl hl.1 (cat8 _ (by exact Nat.le_of_ble_eq_true rfl)) dL_law_268 rfl (fun H locs _ _ hC => ?_)
  refine lv_istore (lv' := [(7, .int r14.1), (6, .int v7), (0, .ref b), (1, va_rf a1), (2, va_rf a2), (3, va_rf a3), (4, va_rf a4), (5, .int a5)]) hx hb dL_law_271 hl (by decide) (congrArg (List.cons _) (flk rfl (flk rfl (flk rfl (flk rfl (flk rfl (flk rfl (flk rfl fln)))))))) (fun ls hl => ?_)
  refine fr_aload_n hx hb dL_law_273 rfl (lv_at hl 4 rfl) ?_
  obtain ⟨b20, q21, hf⟩ := obind hf
  obtain ⟨r18, g19, hf⟩ := obind hf
  refine fr_callV hx hb hml hts hown K hC hR ct_8 (c_X8_thrown hfl D cA g19) 0 q21 kw1055 kw1052 kw1053 kw1054 kw62 (by decide +kernel) ⟨by omega, by omega⟩ rfl hl.1 (cat8 _ (by exact Nat.le_of_ble_eq_true rfl)) dL_law_274 rfl (fun H locs _ _ hC => ?_)
  refine lv_iload hx hb dL_law_277 (lv_at hl 1 rfl) ?_
  refine lv_icmp_eq (tgt := 284) hx hb dL_law_279 (by decide) (fun c22 => ?_) (fun c22 => ?_)
  · replace hf := opos c22 hf
    refine lv_iload hx hb dL_law_284 (lv_at hl 1 rfl) ?_
    refine lv_if_ne (tgt := 301) hx hb dL_law_286 (by decide) (fun c23 => ?_) (fun c23 => ?_)
    · replace hf := oneg c23 hf
      exact w_L_law_L301 M hfl hRf hRl X hend hk28 _ _ _ _ _ _ hf _ _ _ _ _ hC (lv_sub hl [2, 3, 4, 5, 6, 7] rfl)
    · replace hf := opos c23 hf
      refine fr_aload_n hx hb dL_law_289 rfl (lv_at hl 5 rfl) ?_
      refine lv_iconst (v := (0 : Int32)) hx hb dL_law_290 (by decide) ?_
      obtain ⟨x24, g25, hf⟩ := obind hf
      refine fr_lald hx hb K hC (t := 1) rfl g25 dL_law_291 ?_
      refine lv_iload hx hb dL_law_292 (lv_at hl 0 rfl) ?_
      refine lv_i2l (v := (Int32.toInt64 r14.1)) hx hb dL_law_294 rfl ?_
      refine fr_lcmp_eq (tgt := 301) hx hb dL_law_295 dL_law_296 (by decide) (fun c26 => ?_) (fun c26 => ?_)
      · replace hf := opos c26 hf
        exact w_L_law_L301 M hfl hRf hRl X hend hk28 _ _ _ _ _ _ hf _ _ _ _ _ hC (lv_sub hl [2, 3, 4, 5, 6, 7] rfl)
      · replace hf := oneg c26 hf
        refine lv_iconst (v := (0 : Int32)) hx hb dL_law_299 (by decide) ?_
        exact hend _ _ _ _ _ _ _ _ (Option.some.inj hf) hC dL_law_300
  · replace hf := oneg c22 hf
    refine lv_iconst (v := (0 : Int32)) hx hb dL_law_282 (by decide) ?_
    exact hend _ _ _ _ _ _ _ _ (Option.some.inj hf) hC dL_law_283
set_option maxHeartbeats 4000000 in
set_option maxRecDepth 100000 in
theorem w_L_law_L357 {p : Program} {l : Launch} {e : Env} {s : State} {m : MethodId} {args : Array Value} {below : List Frame} {meth : Method} {c : Code} {D : va_G} {cA : Nat → ClassId} {h0 : fSt} {r : (Int32 × fSt)} {Q : State → Prop} {R : Room} {b L : Nat} {xs : Nat → Int32} (M : fM p s m args meth c D cA h0 R cL_law 9 (some (.boolean)) RL) (hfl : l.stackTraces = false) (hRf : 35 ≤ R.frames) (hRl : 944 ≤ R.locals) (X : va_X b L xs s s.heap ∧ b < s.heap.size ∧ ¬ fA h0 b) (hend : ∀ (x : Int32) (h : fSt) (H : Heap) (locs : List Loc) (cells slots : Nat) (ls : Array Slot) (pc : Nat), (x, h) = r → fCur D cA s h0 h H locs → decode code pc = .ok (.ireturn, 1) → W p l e R s m args below meth c H locs cells slots Q (F0 m pc ls [.int x])) {k28 : Option Nat → Option Nat → Option Nat → Option Nat → Int32 → fSt → Option (Int32 × fSt)} (hk28 : ∀ (a1 : Option Nat) (a2 : Option Nat) (a3 : Option Nat) (a4 : Option Nat) (a5 : Int32) (h : fSt), k28 a1 a2 a3 a4 a5 h = some r → ∀ (H : Heap) (locs : List Loc) (cells slots : Nat) (ls : Array Slot), fCur D cA s h0 h H locs → lv_has ls 9 [(0, .ref b), (1, va_rf a1), (2, va_rf a2), (3, va_rf a3), (4, va_rf a4), (5, .int a5)] → W p l e R s m args below meth c H locs cells slots Q (F0 m 28 ls [])) (a1 : Option Nat) (a2 : Option Nat) (a3 : Option Nat) (a4 : Option Nat) (a5 : Int32) (h : fSt) (hf : f_L_law_L357 L xs k28 a1 a2 a3 a4 a5 h = some r) : ∀ (H : Heap) (locs : List Loc) (cells slots : Nat) (ls : Array Slot), fCur D cA s h0 h H locs → lv_has ls 9 [(0, .ref b), (1, va_rf a1), (2, va_rf a2), (3, va_rf a3), (4, va_rf a4), (5, .int a5)] → W p l e R s m args below meth c H locs cells slots Q (F0 m 357 ls []) := by
  obtain ⟨hx, hb, hml, hr, hlocks, hts, hown, K, hR⟩ := id M
  intro H locs cells slots ls hC hl
  refine lv_goto (tgt := 2859) hx hb dL_law_357 (by decide) ?_
  exact w_L_law_L2859 M hfl hRf hRl X hend hk28 _ _ _ _ _ _ hf _ _ _ _ _ hC (lv_sub hl [0, 1, 2, 3, 4, 5] rfl)
set_option maxHeartbeats 4000000 in
set_option maxRecDepth 100000 in
theorem w_L_law_L304 {p : Program} {l : Launch} {e : Env} {s : State} {m : MethodId} {args : Array Value} {below : List Frame} {meth : Method} {c : Code} {D : va_G} {cA : Nat → ClassId} {h0 : fSt} {r : (Int32 × fSt)} {Q : State → Prop} {R : Room} {b L : Nat} {xs : Nat → Int32} (M : fM p s m args meth c D cA h0 R cL_law 9 (some (.boolean)) RL) (hfl : l.stackTraces = false) (hRf : 35 ≤ R.frames) (hRl : 944 ≤ R.locals) (X : va_X b L xs s s.heap ∧ b < s.heap.size ∧ ¬ fA h0 b) (hend : ∀ (x : Int32) (h : fSt) (H : Heap) (locs : List Loc) (cells slots : Nat) (ls : Array Slot) (pc : Nat), (x, h) = r → fCur D cA s h0 h H locs → decode code pc = .ok (.ireturn, 1) → W p l e R s m args below meth c H locs cells slots Q (F0 m pc ls [.int x])) {k28 : Option Nat → Option Nat → Option Nat → Option Nat → Int32 → fSt → Option (Int32 × fSt)} (hk28 : ∀ (a1 : Option Nat) (a2 : Option Nat) (a3 : Option Nat) (a4 : Option Nat) (a5 : Int32) (h : fSt), k28 a1 a2 a3 a4 a5 h = some r → ∀ (H : Heap) (locs : List Loc) (cells slots : Nat) (ls : Array Slot), fCur D cA s h0 h H locs → lv_has ls 9 [(0, .ref b), (1, va_rf a1), (2, va_rf a2), (3, va_rf a3), (4, va_rf a4), (5, .int a5)] → W p l e R s m args below meth c H locs cells slots Q (F0 m 28 ls [])) (a1 : Option Nat) (a2 : Option Nat) (a3 : Option Nat) (a4 : Option Nat) (a5 : Int32) (h : fSt) (hf : f_L_law_L304 L xs k28 a1 a2 a3 a4 a5 h = some r) : ∀ (H : Heap) (locs : List Loc) (cells slots : Nat) (ls : Array Slot), fCur D cA s h0 h H locs → lv_has ls 9 [(0, .ref b), (1, va_rf a1), (2, va_rf a2), (3, va_rf a3), (4, va_rf a4), (5, .int a5)] → W p l e R s m args below meth c H locs cells slots Q (F0 m 304 ls []) := by
  obtain ⟨hx, hb, hml, hr, hlocks, hts, hown, K, hR⟩ := id M
  intro H locs cells slots ls hC hl
  refine fr_aload_n hx hb dL_law_304 rfl (lv_at hl 1 rfl) ?_
  refine lv_aload_n hx hb dL_law_305 rfl (lv_at hl 0 rfl) ?_
  refine lv_iload hx hb dL_law_306 (lv_at hl 5 rfl) ?_
  refine lv_iconst (v := (1 : Int32)) hx hb dL_law_308 (by decide) ?_
  refine lv_iadd hx hb dL_law_309 ?_
  by_cases c27 : (a5 + (1 : Int32)) < 0 ∨ L ≤ ((a5 + (1 : Int32))).toNatClampNeg
  · exact nomatch (opos c27 hf)
  replace hf := oneg c27 hf
  refine va_sld hx hb X.1 X.2.1 X.2.2 hC.2.2.2.2.2.1 c27 dL_law_310 ?_
  refine fr_aload_n hx hb dL_law_311 rfl (lv_at hl 3 rfl) ?_
  obtain ⟨⟨v30 | k31, h32⟩, g29, hf⟩ := obind hf
  rotate_left
  · exact nomatch (show (none : Option (Int32 × fSt)) = some _ from hf)
  replace hf := fci hf
  refine fr_callSH hx hb hml hts hown K hC hR (c_L_remove hfl D cA g29) 3 kw636 kw634 kw635 kw54 (by decide +kernel) ⟨by omega, by omega⟩ rfl hl.1 (cat8 _ (by exact Nat.le_of_ble_eq_true rfl)) dL_law_312 rfl (fun H locs _ _ hC => ?_)
  refine lv_istore (lv' := [(6, .int v30), (0, .ref b), (1, va_rf a1), (2, va_rf a2), (3, va_rf a3), (4, va_rf a4), (5, .int a5)]) hx hb dL_law_315 hl (by decide) (congrArg (List.cons _) (flk rfl (flk rfl (flk rfl (flk rfl (flk rfl (flk rfl fln))))))) (fun ls hl => ?_)
  refine fr_aload_n hx hb dL_law_317 rfl (lv_at hl 3 rfl) ?_
  refine lv_aload_n hx hb dL_law_318 rfl (lv_at hl 1 rfl) ?_
  refine lv_iload hx hb dL_law_319 (lv_at hl 6 rfl) ?_
  refine lv_iconst (v := (1 : Int32)) hx hb dL_law_321 (by decide) ?_
  refine lv_iadd hx hb dL_law_322 ?_
  by_cases c33 : (a5 + (1 : Int32)) < 0 ∨ L ≤ ((a5 + (1 : Int32))).toNatClampNeg
  · exact nomatch (opos c33 hf)
  replace hf := oneg c33 hf
  refine va_sld hx hb X.1 X.2.1 X.2.2 hC.2.2.2.2.2.1 c33 dL_law_323 ?_
  obtain ⟨b36, q37, hf⟩ := obind hf
  obtain ⟨r34, g35, hf⟩ := obind hf
  refine fr_callV hx hb hml hts hown K hC hR ct_8 (c_X8_remove hfl D cA g35) 1 q37 kw1078 kw1075 kw1076 kw1077 kw62 (by decide +kernel) ⟨by omega, by omega⟩ rfl hl.1 (cat8 _ (by exact Nat.le_of_ble_eq_true rfl)) dL_law_324 rfl (fun H locs _ _ hC => ?_)
  refine lv_istore (lv' := [(7, .int r34.1), (6, .int v30), (0, .ref b), (1, va_rf a1), (2, va_rf a2), (3, va_rf a3), (4, va_rf a4), (5, .int a5)]) hx hb dL_law_327 hl (by decide) (congrArg (List.cons _) (flk rfl (flk rfl (flk rfl (flk rfl (flk rfl (flk rfl (flk rfl fln)))))))) (fun ls hl => ?_)
  refine fr_aload_n hx hb dL_law_329 rfl (lv_at hl 4 rfl) ?_
  obtain ⟨b40, q41, hf⟩ := obind hf
  obtain ⟨r38, g39, hf⟩ := obind hf
  refine fr_callV hx hb hml hts hown K hC hR ct_8 (c_X8_thrown hfl D cA g39) 0 q41 kw1055 kw1052 kw1053 kw1054 kw62 (by decide +kernel) ⟨by omega, by omega⟩ rfl hl.1 (cat8 _ (by exact Nat.le_of_ble_eq_true rfl)) dL_law_330 rfl (fun H locs _ _ hC => ?_)
  refine lv_iload hx hb dL_law_333 (lv_at hl 1 rfl) ?_
  refine lv_icmp_eq (tgt := 340) hx hb dL_law_335 (by decide) (fun c42 => ?_) (fun c42 => ?_)
  · replace hf := opos c42 hf
    refine lv_iload hx hb dL_law_340 (lv_at hl 1 rfl) ?_
    refine lv_if_ne (tgt := 357) hx hb dL_law_342 (by decide) (fun c43 => ?_) (fun c43 => ?_)
    · replace hf := oneg c43 hf
      exact w_L_law_L357 M hfl hRf hRl X hend hk28 _ _ _ _ _ _ hf _ _ _ _ _ hC (lv_sub hl [2, 3, 4, 5, 6, 7] rfl)
    · replace hf := opos c43 hf
      refine fr_aload_n hx hb dL_law_345 rfl (lv_at hl 5 rfl) ?_
      refine lv_iconst (v := (0 : Int32)) hx hb dL_law_346 (by decide) ?_
      obtain ⟨x44, g45, hf⟩ := obind hf
      refine fr_lald hx hb K hC (t := 1) rfl g45 dL_law_347 ?_
      refine lv_iload hx hb dL_law_348 (lv_at hl 0 rfl) ?_
      refine lv_i2l (v := (Int32.toInt64 r34.1)) hx hb dL_law_350 rfl ?_
      refine fr_lcmp_eq (tgt := 357) hx hb dL_law_351 dL_law_352 (by decide) (fun c46 => ?_) (fun c46 => ?_)
      · replace hf := opos c46 hf
        exact w_L_law_L357 M hfl hRf hRl X hend hk28 _ _ _ _ _ _ hf _ _ _ _ _ hC (lv_sub hl [2, 3, 4, 5, 6, 7] rfl)
      · replace hf := oneg c46 hf
        refine lv_iconst (v := (0 : Int32)) hx hb dL_law_355 (by decide) ?_
        exact hend _ _ _ _ _ _ _ _ (Option.some.inj hf) hC dL_law_356
  · replace hf := oneg c42 hf
    refine lv_iconst (v := (0 : Int32)) hx hb dL_law_338 (by decide) ?_
    exact hend _ _ _ _ _ _ _ _ (Option.some.inj hf) hC dL_law_339
set_option maxHeartbeats 4000000 in
set_option maxRecDepth 100000 in
theorem w_L_law_L425 {p : Program} {l : Launch} {e : Env} {s : State} {m : MethodId} {args : Array Value} {below : List Frame} {meth : Method} {c : Code} {D : va_G} {cA : Nat → ClassId} {h0 : fSt} {r : (Int32 × fSt)} {Q : State → Prop} {R : Room} {b L : Nat} {xs : Nat → Int32} (M : fM p s m args meth c D cA h0 R cL_law 9 (some (.boolean)) RL) (hfl : l.stackTraces = false) (hRf : 35 ≤ R.frames) (hRl : 944 ≤ R.locals) (X : va_X b L xs s s.heap ∧ b < s.heap.size ∧ ¬ fA h0 b) (hend : ∀ (x : Int32) (h : fSt) (H : Heap) (locs : List Loc) (cells slots : Nat) (ls : Array Slot) (pc : Nat), (x, h) = r → fCur D cA s h0 h H locs → decode code pc = .ok (.ireturn, 1) → W p l e R s m args below meth c H locs cells slots Q (F0 m pc ls [.int x])) {k28 : Option Nat → Option Nat → Option Nat → Option Nat → Int32 → fSt → Option (Int32 × fSt)} (hk28 : ∀ (a1 : Option Nat) (a2 : Option Nat) (a3 : Option Nat) (a4 : Option Nat) (a5 : Int32) (h : fSt), k28 a1 a2 a3 a4 a5 h = some r → ∀ (H : Heap) (locs : List Loc) (cells slots : Nat) (ls : Array Slot), fCur D cA s h0 h H locs → lv_has ls 9 [(0, .ref b), (1, va_rf a1), (2, va_rf a2), (3, va_rf a3), (4, va_rf a4), (5, .int a5)] → W p l e R s m args below meth c H locs cells slots Q (F0 m 28 ls [])) (a1 : Option Nat) (a2 : Option Nat) (a3 : Option Nat) (a4 : Option Nat) (a5 : Int32) (h : fSt) (hf : f_L_law_L425 L xs k28 a1 a2 a3 a4 a5 h = some r) : ∀ (H : Heap) (locs : List Loc) (cells slots : Nat) (ls : Array Slot), fCur D cA s h0 h H locs → lv_has ls 9 [(0, .ref b), (1, va_rf a1), (2, va_rf a2), (3, va_rf a3), (4, va_rf a4), (5, .int a5)] → W p l e R s m args below meth c H locs cells slots Q (F0 m 425 ls []) := by
  obtain ⟨hx, hb, hml, hr, hlocks, hts, hown, K, hR⟩ := id M
  intro H locs cells slots ls hC hl
  refine lv_goto (tgt := 2859) hx hb dL_law_425 (by decide) ?_
  exact w_L_law_L2859 M hfl hRf hRl X hend hk28 _ _ _ _ _ _ hf _ _ _ _ _ hC (lv_sub hl [0, 1, 2, 3, 4, 5] rfl)
set_option maxHeartbeats 4000000 in
set_option maxRecDepth 100000 in
theorem w_L_law_L360 {p : Program} {l : Launch} {e : Env} {s : State} {m : MethodId} {args : Array Value} {below : List Frame} {meth : Method} {c : Code} {D : va_G} {cA : Nat → ClassId} {h0 : fSt} {r : (Int32 × fSt)} {Q : State → Prop} {R : Room} {b L : Nat} {xs : Nat → Int32} (M : fM p s m args meth c D cA h0 R cL_law 9 (some (.boolean)) RL) (hfl : l.stackTraces = false) (hRf : 35 ≤ R.frames) (hRl : 944 ≤ R.locals) (X : va_X b L xs s s.heap ∧ b < s.heap.size ∧ ¬ fA h0 b) (hend : ∀ (x : Int32) (h : fSt) (H : Heap) (locs : List Loc) (cells slots : Nat) (ls : Array Slot) (pc : Nat), (x, h) = r → fCur D cA s h0 h H locs → decode code pc = .ok (.ireturn, 1) → W p l e R s m args below meth c H locs cells slots Q (F0 m pc ls [.int x])) {k28 : Option Nat → Option Nat → Option Nat → Option Nat → Int32 → fSt → Option (Int32 × fSt)} (hk28 : ∀ (a1 : Option Nat) (a2 : Option Nat) (a3 : Option Nat) (a4 : Option Nat) (a5 : Int32) (h : fSt), k28 a1 a2 a3 a4 a5 h = some r → ∀ (H : Heap) (locs : List Loc) (cells slots : Nat) (ls : Array Slot), fCur D cA s h0 h H locs → lv_has ls 9 [(0, .ref b), (1, va_rf a1), (2, va_rf a2), (3, va_rf a3), (4, va_rf a4), (5, .int a5)] → W p l e R s m args below meth c H locs cells slots Q (F0 m 28 ls [])) (a1 : Option Nat) (a2 : Option Nat) (a3 : Option Nat) (a4 : Option Nat) (a5 : Int32) (h : fSt) (hf : f_L_law_L360 L xs k28 a1 a2 a3 a4 a5 h = some r) : ∀ (H : Heap) (locs : List Loc) (cells slots : Nat) (ls : Array Slot), fCur D cA s h0 h H locs → lv_has ls 9 [(0, .ref b), (1, va_rf a1), (2, va_rf a2), (3, va_rf a3), (4, va_rf a4), (5, .int a5)] → W p l e R s m args below meth c H locs cells slots Q (F0 m 360 ls []) := by
  obtain ⟨hx, hb, hml, hr, hlocks, hts, hown, K, hR⟩ := id M
  intro H locs cells slots ls hC hl
  refine fr_aload_n hx hb dL_law_360 rfl (lv_at hl 1 rfl) ?_
  refine lv_aload_n hx hb dL_law_361 rfl (lv_at hl 0 rfl) ?_
  refine lv_iload hx hb dL_law_362 (lv_at hl 5 rfl) ?_
  refine lv_iconst (v := (1 : Int32)) hx hb dL_law_364 (by decide) ?_
  refine lv_iadd hx hb dL_law_365 ?_
  by_cases c47 : (a5 + (1 : Int32)) < 0 ∨ L ≤ ((a5 + (1 : Int32))).toNatClampNeg
  · exact nomatch (opos c47 hf)
  replace hf := oneg c47 hf
  refine va_sld hx hb X.1 X.2.1 X.2.2 hC.2.2.2.2.2.1 c47 dL_law_366 ?_
  refine lv_aload_n hx hb dL_law_367 rfl (lv_at hl 0 rfl) ?_
  refine lv_iload hx hb dL_law_368 (lv_at hl 5 rfl) ?_
  refine lv_iconst (v := (2 : Int32)) hx hb dL_law_370 (by decide) ?_
  refine lv_iadd hx hb dL_law_371 ?_
  by_cases c48 : (a5 + (2 : Int32)) < 0 ∨ L ≤ ((a5 + (2 : Int32))).toNatClampNeg
  · exact nomatch (opos c48 hf)
  replace hf := oneg c48 hf
  refine va_sld hx hb X.1 X.2.1 X.2.2 hC.2.2.2.2.2.1 c48 dL_law_372 ?_
  refine fr_aload_n hx hb dL_law_373 rfl (lv_at hl 3 rfl) ?_
  obtain ⟨⟨v51 | k52, h53⟩, g50, hf⟩ := obind hf
  rotate_left
  · exact nomatch (show (none : Option (Int32 × fSt)) = some _ from hf)
  replace hf := fci hf
  refine fr_callSH hx hb hml hts hown K hC hR (c_L_hang hfl D cA g50) 4 kw660 kw658 kw659 kw54 (by decide +kernel) ⟨by omega, by omega⟩ rfl hl.1 (cat8 _ (by exact Nat.le_of_ble_eq_true rfl)) dL_law_374 rfl (fun H locs _ _ hC => ?_)
  refine lv_istore (lv' := [(6, .int v51), (0, .ref b), (1, va_rf a1), (2, va_rf a2), (3, va_rf a3), (4, va_rf a4), (5, .int a5)]) hx hb dL_law_377 hl (by decide) (congrArg (List.cons _) (flk rfl (flk rfl (flk rfl (flk rfl (flk rfl (flk rfl fln))))))) (fun ls hl => ?_)
  refine fr_aload_n hx hb dL_law_379 rfl (lv_at hl 3 rfl) ?_
  refine lv_aload_n hx hb dL_law_380 rfl (lv_at hl 1 rfl) ?_
  refine lv_iload hx hb dL_law_381 (lv_at hl 6 rfl) ?_
  refine lv_iconst (v := (1 : Int32)) hx hb dL_law_383 (by decide) ?_
  refine lv_iadd hx hb dL_law_384 ?_
  by_cases c54 : (a5 + (1 : Int32)) < 0 ∨ L ≤ ((a5 + (1 : Int32))).toNatClampNeg
  · exact nomatch (opos c54 hf)
  replace hf := oneg c54 hf
  refine va_sld hx hb X.1 X.2.1 X.2.2 hC.2.2.2.2.2.1 c54 dL_law_385 ?_
  refine lv_aload_n hx hb dL_law_386 rfl (lv_at hl 1 rfl) ?_
  refine lv_iload hx hb dL_law_387 (lv_at hl 6 rfl) ?_
  refine lv_iconst (v := (2 : Int32)) hx hb dL_law_389 (by decide) ?_
  refine lv_iadd hx hb dL_law_390 ?_
  by_cases c55 : (a5 + (2 : Int32)) < 0 ∨ L ≤ ((a5 + (2 : Int32))).toNatClampNeg
  · exact nomatch (opos c55 hf)
  replace hf := oneg c55 hf
  refine va_sld hx hb X.1 X.2.1 X.2.2 hC.2.2.2.2.2.1 c55 dL_law_391 ?_
  obtain ⟨b58, q59, hf⟩ := obind hf
  obtain ⟨r56, g57, hf⟩ := obind hf
  refine fr_callV hx hb hml hts hown K hC hR ct_8 (c_X8_hang hfl D cA g57) 2 q59 kw1086 kw1083 kw1084 kw1085 kw62 (by decide +kernel) ⟨by omega, by omega⟩ rfl hl.1 (cat8 _ (by exact Nat.le_of_ble_eq_true rfl)) dL_law_392 rfl (fun H locs _ _ hC => ?_)
  refine lv_istore (lv' := [(7, .int r56.1), (6, .int v51), (0, .ref b), (1, va_rf a1), (2, va_rf a2), (3, va_rf a3), (4, va_rf a4), (5, .int a5)]) hx hb dL_law_395 hl (by decide) (congrArg (List.cons _) (flk rfl (flk rfl (flk rfl (flk rfl (flk rfl (flk rfl (flk rfl fln)))))))) (fun ls hl => ?_)
  refine fr_aload_n hx hb dL_law_397 rfl (lv_at hl 4 rfl) ?_
  obtain ⟨b62, q63, hf⟩ := obind hf
  obtain ⟨r60, g61, hf⟩ := obind hf
  refine fr_callV hx hb hml hts hown K hC hR ct_8 (c_X8_thrown hfl D cA g61) 0 q63 kw1055 kw1052 kw1053 kw1054 kw62 (by decide +kernel) ⟨by omega, by omega⟩ rfl hl.1 (cat8 _ (by exact Nat.le_of_ble_eq_true rfl)) dL_law_398 rfl (fun H locs _ _ hC => ?_)
  refine lv_iload hx hb dL_law_401 (lv_at hl 1 rfl) ?_
  refine lv_icmp_eq (tgt := 408) hx hb dL_law_403 (by decide) (fun c64 => ?_) (fun c64 => ?_)
  · replace hf := opos c64 hf
    refine lv_iload hx hb dL_law_408 (lv_at hl 1 rfl) ?_
    refine lv_if_ne (tgt := 425) hx hb dL_law_410 (by decide) (fun c65 => ?_) (fun c65 => ?_)
    · replace hf := oneg c65 hf
      exact w_L_law_L425 M hfl hRf hRl X hend hk28 _ _ _ _ _ _ hf _ _ _ _ _ hC (lv_sub hl [2, 3, 4, 5, 6, 7] rfl)
    · replace hf := opos c65 hf
      refine fr_aload_n hx hb dL_law_413 rfl (lv_at hl 5 rfl) ?_
      refine lv_iconst (v := (0 : Int32)) hx hb dL_law_414 (by decide) ?_
      obtain ⟨x66, g67, hf⟩ := obind hf
      refine fr_lald hx hb K hC (t := 1) rfl g67 dL_law_415 ?_
      refine lv_iload hx hb dL_law_416 (lv_at hl 0 rfl) ?_
      refine lv_i2l (v := (Int32.toInt64 r56.1)) hx hb dL_law_418 rfl ?_
      refine fr_lcmp_eq (tgt := 425) hx hb dL_law_419 dL_law_420 (by decide) (fun c68 => ?_) (fun c68 => ?_)
      · replace hf := opos c68 hf
        exact w_L_law_L425 M hfl hRf hRl X hend hk28 _ _ _ _ _ _ hf _ _ _ _ _ hC (lv_sub hl [2, 3, 4, 5, 6, 7] rfl)
      · replace hf := oneg c68 hf
        refine lv_iconst (v := (0 : Int32)) hx hb dL_law_423 (by decide) ?_
        exact hend _ _ _ _ _ _ _ _ (Option.some.inj hf) hC dL_law_424
  · replace hf := oneg c64 hf
    refine lv_iconst (v := (0 : Int32)) hx hb dL_law_406 (by decide) ?_
    exact hend _ _ _ _ _ _ _ _ (Option.some.inj hf) hC dL_law_407
set_option maxHeartbeats 4000000 in
set_option maxRecDepth 100000 in
theorem w_L_law_L505 {p : Program} {l : Launch} {e : Env} {s : State} {m : MethodId} {args : Array Value} {below : List Frame} {meth : Method} {c : Code} {D : va_G} {cA : Nat → ClassId} {h0 : fSt} {r : (Int32 × fSt)} {Q : State → Prop} {R : Room} {b L : Nat} {xs : Nat → Int32} (M : fM p s m args meth c D cA h0 R cL_law 9 (some (.boolean)) RL) (hfl : l.stackTraces = false) (hRf : 35 ≤ R.frames) (hRl : 944 ≤ R.locals) (X : va_X b L xs s s.heap ∧ b < s.heap.size ∧ ¬ fA h0 b) (hend : ∀ (x : Int32) (h : fSt) (H : Heap) (locs : List Loc) (cells slots : Nat) (ls : Array Slot) (pc : Nat), (x, h) = r → fCur D cA s h0 h H locs → decode code pc = .ok (.ireturn, 1) → W p l e R s m args below meth c H locs cells slots Q (F0 m pc ls [.int x])) {k28 : Option Nat → Option Nat → Option Nat → Option Nat → Int32 → fSt → Option (Int32 × fSt)} (hk28 : ∀ (a1 : Option Nat) (a2 : Option Nat) (a3 : Option Nat) (a4 : Option Nat) (a5 : Int32) (h : fSt), k28 a1 a2 a3 a4 a5 h = some r → ∀ (H : Heap) (locs : List Loc) (cells slots : Nat) (ls : Array Slot), fCur D cA s h0 h H locs → lv_has ls 9 [(0, .ref b), (1, va_rf a1), (2, va_rf a2), (3, va_rf a3), (4, va_rf a4), (5, .int a5)] → W p l e R s m args below meth c H locs cells slots Q (F0 m 28 ls [])) (a1 : Option Nat) (a2 : Option Nat) (a3 : Option Nat) (a4 : Option Nat) (a5 : Int32) (h : fSt) (hf : f_L_law_L505 L xs k28 a1 a2 a3 a4 a5 h = some r) : ∀ (H : Heap) (locs : List Loc) (cells slots : Nat) (ls : Array Slot), fCur D cA s h0 h H locs → lv_has ls 9 [(0, .ref b), (1, va_rf a1), (2, va_rf a2), (3, va_rf a3), (4, va_rf a4), (5, .int a5)] → W p l e R s m args below meth c H locs cells slots Q (F0 m 505 ls []) := by
  obtain ⟨hx, hb, hml, hr, hlocks, hts, hown, K, hR⟩ := id M
  intro H locs cells slots ls hC hl
  refine lv_goto (tgt := 2859) hx hb dL_law_505 (by decide) ?_
  exact w_L_law_L2859 M hfl hRf hRl X hend hk28 _ _ _ _ _ _ hf _ _ _ _ _ hC (lv_sub hl [0, 1, 2, 3, 4, 5] rfl)
set_option maxHeartbeats 4000000 in
set_option maxRecDepth 100000 in
theorem w_L_law_L428 {p : Program} {l : Launch} {e : Env} {s : State} {m : MethodId} {args : Array Value} {below : List Frame} {meth : Method} {c : Code} {D : va_G} {cA : Nat → ClassId} {h0 : fSt} {r : (Int32 × fSt)} {Q : State → Prop} {R : Room} {b L : Nat} {xs : Nat → Int32} (M : fM p s m args meth c D cA h0 R cL_law 9 (some (.boolean)) RL) (hfl : l.stackTraces = false) (hRf : 35 ≤ R.frames) (hRl : 944 ≤ R.locals) (X : va_X b L xs s s.heap ∧ b < s.heap.size ∧ ¬ fA h0 b) (hend : ∀ (x : Int32) (h : fSt) (H : Heap) (locs : List Loc) (cells slots : Nat) (ls : Array Slot) (pc : Nat), (x, h) = r → fCur D cA s h0 h H locs → decode code pc = .ok (.ireturn, 1) → W p l e R s m args below meth c H locs cells slots Q (F0 m pc ls [.int x])) {k28 : Option Nat → Option Nat → Option Nat → Option Nat → Int32 → fSt → Option (Int32 × fSt)} (hk28 : ∀ (a1 : Option Nat) (a2 : Option Nat) (a3 : Option Nat) (a4 : Option Nat) (a5 : Int32) (h : fSt), k28 a1 a2 a3 a4 a5 h = some r → ∀ (H : Heap) (locs : List Loc) (cells slots : Nat) (ls : Array Slot), fCur D cA s h0 h H locs → lv_has ls 9 [(0, .ref b), (1, va_rf a1), (2, va_rf a2), (3, va_rf a3), (4, va_rf a4), (5, .int a5)] → W p l e R s m args below meth c H locs cells slots Q (F0 m 28 ls [])) (a1 : Option Nat) (a2 : Option Nat) (a3 : Option Nat) (a4 : Option Nat) (a5 : Int32) (h : fSt) (hf : f_L_law_L428 L xs k28 a1 a2 a3 a4 a5 h = some r) : ∀ (H : Heap) (locs : List Loc) (cells slots : Nat) (ls : Array Slot), fCur D cA s h0 h H locs → lv_has ls 9 [(0, .ref b), (1, va_rf a1), (2, va_rf a2), (3, va_rf a3), (4, va_rf a4), (5, .int a5)] → W p l e R s m args below meth c H locs cells slots Q (F0 m 428 ls []) := by
  obtain ⟨hx, hb, hml, hr, hlocks, hts, hown, K, hR⟩ := id M
  intro H locs cells slots ls hC hl
  refine fr_aload_n hx hb dL_law_428 rfl (lv_at hl 1 rfl) ?_
  refine lv_aload_n hx hb dL_law_429 rfl (lv_at hl 0 rfl) ?_
  refine lv_iload hx hb dL_law_430 (lv_at hl 5 rfl) ?_
  refine lv_iconst (v := (1 : Int32)) hx hb dL_law_432 (by decide) ?_
  refine lv_iadd hx hb dL_law_433 ?_
  by_cases c69 : (a5 + (1 : Int32)) < 0 ∨ L ≤ ((a5 + (1 : Int32))).toNatClampNeg
  · exact nomatch (opos c69 hf)
  replace hf := oneg c69 hf
  refine va_sld hx hb X.1 X.2.1 X.2.2 hC.2.2.2.2.2.1 c69 dL_law_434 ?_
  refine lv_aload_n hx hb dL_law_435 rfl (lv_at hl 0 rfl) ?_
  refine lv_iload hx hb dL_law_436 (lv_at hl 5 rfl) ?_
  refine lv_iconst (v := (2 : Int32)) hx hb dL_law_438 (by decide) ?_
  refine lv_iadd hx hb dL_law_439 ?_
  by_cases c70 : (a5 + (2 : Int32)) < 0 ∨ L ≤ ((a5 + (2 : Int32))).toNatClampNeg
  · exact nomatch (opos c70 hf)
  replace hf := oneg c70 hf
  refine va_sld hx hb X.1 X.2.1 X.2.2 hC.2.2.2.2.2.1 c70 dL_law_440 ?_
  refine lv_aload_n hx hb dL_law_441 rfl (lv_at hl 0 rfl) ?_
  refine lv_iload hx hb dL_law_442 (lv_at hl 5 rfl) ?_
  refine lv_iconst (v := (3 : Int32)) hx hb dL_law_444 (by decide) ?_
  refine lv_iadd hx hb dL_law_445 ?_
  by_cases c71 : (a5 + (3 : Int32)) < 0 ∨ L ≤ ((a5 + (3 : Int32))).toNatClampNeg
  · exact nomatch (opos c71 hf)
  replace hf := oneg c71 hf
  refine va_sld hx hb X.1 X.2.1 X.2.2 hC.2.2.2.2.2.1 c71 dL_law_446 ?_
  refine fr_aload_n hx hb dL_law_447 rfl (lv_at hl 3 rfl) ?_
  obtain ⟨⟨v74 | k75, h76⟩, g73, hf⟩ := obind hf
  rotate_left
  · exact nomatch (show (none : Option (Int32 × fSt)) = some _ from hf)
  replace hf := fci hf
  refine fr_callSH hx hb hml hts hown K hC hR (c_L_move hfl D cA g73) 5 kw680 kw678 kw679 kw54 (by decide +kernel) ⟨by omega, by omega⟩ rfl hl.1 (cat8 _ (by exact Nat.le_of_ble_eq_true rfl)) dL_law_448 rfl (fun H locs _ _ hC => ?_)
  refine lv_istore (lv' := [(6, .int v74), (0, .ref b), (1, va_rf a1), (2, va_rf a2), (3, va_rf a3), (4, va_rf a4), (5, .int a5)]) hx hb dL_law_451 hl (by decide) (congrArg (List.cons _) (flk rfl (flk rfl (flk rfl (flk rfl (flk rfl (flk rfl fln))))))) (fun ls hl => ?_)
  refine fr_aload_n hx hb dL_law_453 rfl (lv_at hl 3 rfl) ?_
  refine lv_aload_n hx hb dL_law_454 rfl (lv_at hl 1 rfl) ?_
  refine lv_iload hx hb dL_law_455 (lv_at hl 6 rfl) ?_
  refine lv_iconst (v := (1 : Int32)) hx hb dL_law_457 (by decide) ?_
  refine lv_iadd hx hb dL_law_458 ?_
  by_cases c77 : (a5 + (1 : Int32)) < 0 ∨ L ≤ ((a5 + (1 : Int32))).toNatClampNeg
  · exact nomatch (opos c77 hf)
  replace hf := oneg c77 hf
  refine va_sld hx hb X.1 X.2.1 X.2.2 hC.2.2.2.2.2.1 c77 dL_law_459 ?_
  refine lv_aload_n hx hb dL_law_460 rfl (lv_at hl 1 rfl) ?_
  refine lv_iload hx hb dL_law_461 (lv_at hl 6 rfl) ?_
  refine lv_iconst (v := (2 : Int32)) hx hb dL_law_463 (by decide) ?_
  refine lv_iadd hx hb dL_law_464 ?_
  by_cases c78 : (a5 + (2 : Int32)) < 0 ∨ L ≤ ((a5 + (2 : Int32))).toNatClampNeg
  · exact nomatch (opos c78 hf)
  replace hf := oneg c78 hf
  refine va_sld hx hb X.1 X.2.1 X.2.2 hC.2.2.2.2.2.1 c78 dL_law_465 ?_
  refine lv_aload_n hx hb dL_law_466 rfl (lv_at hl 1 rfl) ?_
  refine lv_iload hx hb dL_law_467 (lv_at hl 6 rfl) ?_
  refine lv_iconst (v := (3 : Int32)) hx hb dL_law_469 (by decide) ?_
  refine lv_iadd hx hb dL_law_470 ?_
  by_cases c79 : (a5 + (3 : Int32)) < 0 ∨ L ≤ ((a5 + (3 : Int32))).toNatClampNeg
  · exact nomatch (opos c79 hf)
  replace hf := oneg c79 hf
  refine va_sld hx hb X.1 X.2.1 X.2.2 hC.2.2.2.2.2.1 c79 dL_law_471 ?_
  obtain ⟨b82, q83, hf⟩ := obind hf
  obtain ⟨r80, g81, hf⟩ := obind hf
  refine fr_callV hx hb hml hts hown K hC hR ct_8 (c_X8_move hfl D cA g81) 3 q83 kw1095 kw1092 kw1093 kw1094 kw62 (by decide +kernel) ⟨by omega, by omega⟩ rfl hl.1 (cat8 _ (by exact Nat.le_of_ble_eq_true rfl)) dL_law_472 rfl (fun H locs _ _ hC => ?_)
  refine lv_istore (lv' := [(7, .int r80.1), (6, .int v74), (0, .ref b), (1, va_rf a1), (2, va_rf a2), (3, va_rf a3), (4, va_rf a4), (5, .int a5)]) hx hb dL_law_475 hl (by decide) (congrArg (List.cons _) (flk rfl (flk rfl (flk rfl (flk rfl (flk rfl (flk rfl (flk rfl fln)))))))) (fun ls hl => ?_)
  refine fr_aload_n hx hb dL_law_477 rfl (lv_at hl 4 rfl) ?_
  obtain ⟨b86, q87, hf⟩ := obind hf
  obtain ⟨r84, g85, hf⟩ := obind hf
  refine fr_callV hx hb hml hts hown K hC hR ct_8 (c_X8_thrown hfl D cA g85) 0 q87 kw1055 kw1052 kw1053 kw1054 kw62 (by decide +kernel) ⟨by omega, by omega⟩ rfl hl.1 (cat8 _ (by exact Nat.le_of_ble_eq_true rfl)) dL_law_478 rfl (fun H locs _ _ hC => ?_)
  refine lv_iload hx hb dL_law_481 (lv_at hl 1 rfl) ?_
  refine lv_icmp_eq (tgt := 488) hx hb dL_law_483 (by decide) (fun c88 => ?_) (fun c88 => ?_)
  · replace hf := opos c88 hf
    refine lv_iload hx hb dL_law_488 (lv_at hl 1 rfl) ?_
    refine lv_if_ne (tgt := 505) hx hb dL_law_490 (by decide) (fun c89 => ?_) (fun c89 => ?_)
    · replace hf := oneg c89 hf
      exact w_L_law_L505 M hfl hRf hRl X hend hk28 _ _ _ _ _ _ hf _ _ _ _ _ hC (lv_sub hl [2, 3, 4, 5, 6, 7] rfl)
    · replace hf := opos c89 hf
      refine fr_aload_n hx hb dL_law_493 rfl (lv_at hl 5 rfl) ?_
      refine lv_iconst (v := (0 : Int32)) hx hb dL_law_494 (by decide) ?_
      obtain ⟨x90, g91, hf⟩ := obind hf
      refine fr_lald hx hb K hC (t := 1) rfl g91 dL_law_495 ?_
      refine lv_iload hx hb dL_law_496 (lv_at hl 0 rfl) ?_
      refine lv_i2l (v := (Int32.toInt64 r80.1)) hx hb dL_law_498 rfl ?_
      refine fr_lcmp_eq (tgt := 505) hx hb dL_law_499 dL_law_500 (by decide) (fun c92 => ?_) (fun c92 => ?_)
      · replace hf := opos c92 hf
        exact w_L_law_L505 M hfl hRf hRl X hend hk28 _ _ _ _ _ _ hf _ _ _ _ _ hC (lv_sub hl [2, 3, 4, 5, 6, 7] rfl)
      · replace hf := oneg c92 hf
        refine lv_iconst (v := (0 : Int32)) hx hb dL_law_503 (by decide) ?_
        exact hend _ _ _ _ _ _ _ _ (Option.some.inj hf) hC dL_law_504
  · replace hf := oneg c88 hf
    refine lv_iconst (v := (0 : Int32)) hx hb dL_law_486 (by decide) ?_
    exact hend _ _ _ _ _ _ _ _ (Option.some.inj hf) hC dL_law_487
set_option maxHeartbeats 4000000 in
set_option maxRecDepth 100000 in
theorem w_L_law_L585 {p : Program} {l : Launch} {e : Env} {s : State} {m : MethodId} {args : Array Value} {below : List Frame} {meth : Method} {c : Code} {D : va_G} {cA : Nat → ClassId} {h0 : fSt} {r : (Int32 × fSt)} {Q : State → Prop} {R : Room} {b L : Nat} {xs : Nat → Int32} (M : fM p s m args meth c D cA h0 R cL_law 9 (some (.boolean)) RL) (hfl : l.stackTraces = false) (hRf : 35 ≤ R.frames) (hRl : 944 ≤ R.locals) (X : va_X b L xs s s.heap ∧ b < s.heap.size ∧ ¬ fA h0 b) (hend : ∀ (x : Int32) (h : fSt) (H : Heap) (locs : List Loc) (cells slots : Nat) (ls : Array Slot) (pc : Nat), (x, h) = r → fCur D cA s h0 h H locs → decode code pc = .ok (.ireturn, 1) → W p l e R s m args below meth c H locs cells slots Q (F0 m pc ls [.int x])) {k28 : Option Nat → Option Nat → Option Nat → Option Nat → Int32 → fSt → Option (Int32 × fSt)} (hk28 : ∀ (a1 : Option Nat) (a2 : Option Nat) (a3 : Option Nat) (a4 : Option Nat) (a5 : Int32) (h : fSt), k28 a1 a2 a3 a4 a5 h = some r → ∀ (H : Heap) (locs : List Loc) (cells slots : Nat) (ls : Array Slot), fCur D cA s h0 h H locs → lv_has ls 9 [(0, .ref b), (1, va_rf a1), (2, va_rf a2), (3, va_rf a3), (4, va_rf a4), (5, .int a5)] → W p l e R s m args below meth c H locs cells slots Q (F0 m 28 ls [])) (a1 : Option Nat) (a2 : Option Nat) (a3 : Option Nat) (a4 : Option Nat) (a5 : Int32) (h : fSt) (hf : f_L_law_L585 L xs k28 a1 a2 a3 a4 a5 h = some r) : ∀ (H : Heap) (locs : List Loc) (cells slots : Nat) (ls : Array Slot), fCur D cA s h0 h H locs → lv_has ls 9 [(0, .ref b), (1, va_rf a1), (2, va_rf a2), (3, va_rf a3), (4, va_rf a4), (5, .int a5)] → W p l e R s m args below meth c H locs cells slots Q (F0 m 585 ls []) := by
  obtain ⟨hx, hb, hml, hr, hlocks, hts, hown, K, hR⟩ := id M
  intro H locs cells slots ls hC hl
  refine lv_goto (tgt := 2859) hx hb dL_law_585 (by decide) ?_
  exact w_L_law_L2859 M hfl hRf hRl X hend hk28 _ _ _ _ _ _ hf _ _ _ _ _ hC (lv_sub hl [0, 1, 2, 3, 4, 5] rfl)
set_option maxHeartbeats 4000000 in
set_option maxRecDepth 100000 in
theorem w_L_law_L508 {p : Program} {l : Launch} {e : Env} {s : State} {m : MethodId} {args : Array Value} {below : List Frame} {meth : Method} {c : Code} {D : va_G} {cA : Nat → ClassId} {h0 : fSt} {r : (Int32 × fSt)} {Q : State → Prop} {R : Room} {b L : Nat} {xs : Nat → Int32} (M : fM p s m args meth c D cA h0 R cL_law 9 (some (.boolean)) RL) (hfl : l.stackTraces = false) (hRf : 35 ≤ R.frames) (hRl : 944 ≤ R.locals) (X : va_X b L xs s s.heap ∧ b < s.heap.size ∧ ¬ fA h0 b) (hend : ∀ (x : Int32) (h : fSt) (H : Heap) (locs : List Loc) (cells slots : Nat) (ls : Array Slot) (pc : Nat), (x, h) = r → fCur D cA s h0 h H locs → decode code pc = .ok (.ireturn, 1) → W p l e R s m args below meth c H locs cells slots Q (F0 m pc ls [.int x])) {k28 : Option Nat → Option Nat → Option Nat → Option Nat → Int32 → fSt → Option (Int32 × fSt)} (hk28 : ∀ (a1 : Option Nat) (a2 : Option Nat) (a3 : Option Nat) (a4 : Option Nat) (a5 : Int32) (h : fSt), k28 a1 a2 a3 a4 a5 h = some r → ∀ (H : Heap) (locs : List Loc) (cells slots : Nat) (ls : Array Slot), fCur D cA s h0 h H locs → lv_has ls 9 [(0, .ref b), (1, va_rf a1), (2, va_rf a2), (3, va_rf a3), (4, va_rf a4), (5, .int a5)] → W p l e R s m args below meth c H locs cells slots Q (F0 m 28 ls [])) (a1 : Option Nat) (a2 : Option Nat) (a3 : Option Nat) (a4 : Option Nat) (a5 : Int32) (h : fSt) (hf : f_L_law_L508 L xs k28 a1 a2 a3 a4 a5 h = some r) : ∀ (H : Heap) (locs : List Loc) (cells slots : Nat) (ls : Array Slot), fCur D cA s h0 h H locs → lv_has ls 9 [(0, .ref b), (1, va_rf a1), (2, va_rf a2), (3, va_rf a3), (4, va_rf a4), (5, .int a5)] → W p l e R s m args below meth c H locs cells slots Q (F0 m 508 ls []) := by
  obtain ⟨hx, hb, hml, hr, hlocks, hts, hown, K, hR⟩ := id M
  intro H locs cells slots ls hC hl
  refine fr_aload_n hx hb dL_law_508 rfl (lv_at hl 1 rfl) ?_
  refine lv_aload_n hx hb dL_law_509 rfl (lv_at hl 0 rfl) ?_
  refine lv_iload hx hb dL_law_510 (lv_at hl 5 rfl) ?_
  refine lv_iconst (v := (1 : Int32)) hx hb dL_law_512 (by decide) ?_
  refine lv_iadd hx hb dL_law_513 ?_
  by_cases c93 : (a5 + (1 : Int32)) < 0 ∨ L ≤ ((a5 + (1 : Int32))).toNatClampNeg
  · exact nomatch (opos c93 hf)
  replace hf := oneg c93 hf
  refine va_sld hx hb X.1 X.2.1 X.2.2 hC.2.2.2.2.2.1 c93 dL_law_514 ?_
  refine lv_aload_n hx hb dL_law_515 rfl (lv_at hl 0 rfl) ?_
  refine lv_iload hx hb dL_law_516 (lv_at hl 5 rfl) ?_
  refine lv_iconst (v := (2 : Int32)) hx hb dL_law_518 (by decide) ?_
  refine lv_iadd hx hb dL_law_519 ?_
  by_cases c94 : (a5 + (2 : Int32)) < 0 ∨ L ≤ ((a5 + (2 : Int32))).toNatClampNeg
  · exact nomatch (opos c94 hf)
  replace hf := oneg c94 hf
  refine va_sld hx hb X.1 X.2.1 X.2.2 hC.2.2.2.2.2.1 c94 dL_law_520 ?_
  refine lv_aload_n hx hb dL_law_521 rfl (lv_at hl 0 rfl) ?_
  refine lv_iload hx hb dL_law_522 (lv_at hl 5 rfl) ?_
  refine lv_iconst (v := (3 : Int32)) hx hb dL_law_524 (by decide) ?_
  refine lv_iadd hx hb dL_law_525 ?_
  by_cases c95 : (a5 + (3 : Int32)) < 0 ∨ L ≤ ((a5 + (3 : Int32))).toNatClampNeg
  · exact nomatch (opos c95 hf)
  replace hf := oneg c95 hf
  refine va_sld hx hb X.1 X.2.1 X.2.2 hC.2.2.2.2.2.1 c95 dL_law_526 ?_
  refine fr_aload_n hx hb dL_law_527 rfl (lv_at hl 3 rfl) ?_
  obtain ⟨⟨v98 | k99, h100⟩, g97, hf⟩ := obind hf
  rotate_left
  · exact nomatch (show (none : Option (Int32 × fSt)) = some _ from hf)
  replace hf := fci hf
  refine fr_callSH hx hb hml hts hown K hC hR (c_L_scale hfl D cA g97) 5 kw693 kw691 kw692 kw54 (by decide +kernel) ⟨by omega, by omega⟩ rfl hl.1 (cat8 _ (by exact Nat.le_of_ble_eq_true rfl)) dL_law_528 rfl (fun H locs _ _ hC => ?_)
  refine lv_istore (lv' := [(6, .int v98), (0, .ref b), (1, va_rf a1), (2, va_rf a2), (3, va_rf a3), (4, va_rf a4), (5, .int a5)]) hx hb dL_law_531 hl (by decide) (congrArg (List.cons _) (flk rfl (flk rfl (flk rfl (flk rfl (flk rfl (flk rfl fln))))))) (fun ls hl => ?_)
  refine fr_aload_n hx hb dL_law_533 rfl (lv_at hl 3 rfl) ?_
  refine lv_aload_n hx hb dL_law_534 rfl (lv_at hl 1 rfl) ?_
  refine lv_iload hx hb dL_law_535 (lv_at hl 6 rfl) ?_
  refine lv_iconst (v := (1 : Int32)) hx hb dL_law_537 (by decide) ?_
  refine lv_iadd hx hb dL_law_538 ?_
  by_cases c101 : (a5 + (1 : Int32)) < 0 ∨ L ≤ ((a5 + (1 : Int32))).toNatClampNeg
  · exact nomatch (opos c101 hf)
  replace hf := oneg c101 hf
  refine va_sld hx hb X.1 X.2.1 X.2.2 hC.2.2.2.2.2.1 c101 dL_law_539 ?_
  refine lv_aload_n hx hb dL_law_540 rfl (lv_at hl 1 rfl) ?_
  refine lv_iload hx hb dL_law_541 (lv_at hl 6 rfl) ?_
  refine lv_iconst (v := (2 : Int32)) hx hb dL_law_543 (by decide) ?_
  refine lv_iadd hx hb dL_law_544 ?_
  by_cases c102 : (a5 + (2 : Int32)) < 0 ∨ L ≤ ((a5 + (2 : Int32))).toNatClampNeg
  · exact nomatch (opos c102 hf)
  replace hf := oneg c102 hf
  refine va_sld hx hb X.1 X.2.1 X.2.2 hC.2.2.2.2.2.1 c102 dL_law_545 ?_
  refine lv_aload_n hx hb dL_law_546 rfl (lv_at hl 1 rfl) ?_
  refine lv_iload hx hb dL_law_547 (lv_at hl 6 rfl) ?_
  refine lv_iconst (v := (3 : Int32)) hx hb dL_law_549 (by decide) ?_
  refine lv_iadd hx hb dL_law_550 ?_
  by_cases c103 : (a5 + (3 : Int32)) < 0 ∨ L ≤ ((a5 + (3 : Int32))).toNatClampNeg
  · exact nomatch (opos c103 hf)
  replace hf := oneg c103 hf
  refine va_sld hx hb X.1 X.2.1 X.2.2 hC.2.2.2.2.2.1 c103 dL_law_551 ?_
  obtain ⟨b106, q107, hf⟩ := obind hf
  obtain ⟨r104, g105, hf⟩ := obind hf
  refine fr_callV hx hb hml hts hown K hC hR ct_8 (c_X8_scale hfl D cA g105) 3 q107 kw1103 kw1100 kw1101 kw1102 kw62 (by decide +kernel) ⟨by omega, by omega⟩ rfl hl.1 (cat8 _ (by exact Nat.le_of_ble_eq_true rfl)) dL_law_552 rfl (fun H locs _ _ hC => ?_)
  refine lv_istore (lv' := [(7, .int r104.1), (6, .int v98), (0, .ref b), (1, va_rf a1), (2, va_rf a2), (3, va_rf a3), (4, va_rf a4), (5, .int a5)]) hx hb dL_law_555 hl (by decide) (congrArg (List.cons _) (flk rfl (flk rfl (flk rfl (flk rfl (flk rfl (flk rfl (flk rfl fln)))))))) (fun ls hl => ?_)
  refine fr_aload_n hx hb dL_law_557 rfl (lv_at hl 4 rfl) ?_
  obtain ⟨b110, q111, hf⟩ := obind hf
  obtain ⟨r108, g109, hf⟩ := obind hf
  refine fr_callV hx hb hml hts hown K hC hR ct_8 (c_X8_thrown hfl D cA g109) 0 q111 kw1055 kw1052 kw1053 kw1054 kw62 (by decide +kernel) ⟨by omega, by omega⟩ rfl hl.1 (cat8 _ (by exact Nat.le_of_ble_eq_true rfl)) dL_law_558 rfl (fun H locs _ _ hC => ?_)
  refine lv_iload hx hb dL_law_561 (lv_at hl 1 rfl) ?_
  refine lv_icmp_eq (tgt := 568) hx hb dL_law_563 (by decide) (fun c112 => ?_) (fun c112 => ?_)
  · replace hf := opos c112 hf
    refine lv_iload hx hb dL_law_568 (lv_at hl 1 rfl) ?_
    refine lv_if_ne (tgt := 585) hx hb dL_law_570 (by decide) (fun c113 => ?_) (fun c113 => ?_)
    · replace hf := oneg c113 hf
      exact w_L_law_L585 M hfl hRf hRl X hend hk28 _ _ _ _ _ _ hf _ _ _ _ _ hC (lv_sub hl [2, 3, 4, 5, 6, 7] rfl)
    · replace hf := opos c113 hf
      refine fr_aload_n hx hb dL_law_573 rfl (lv_at hl 5 rfl) ?_
      refine lv_iconst (v := (0 : Int32)) hx hb dL_law_574 (by decide) ?_
      obtain ⟨x114, g115, hf⟩ := obind hf
      refine fr_lald hx hb K hC (t := 1) rfl g115 dL_law_575 ?_
      refine lv_iload hx hb dL_law_576 (lv_at hl 0 rfl) ?_
      refine lv_i2l (v := (Int32.toInt64 r104.1)) hx hb dL_law_578 rfl ?_
      refine fr_lcmp_eq (tgt := 585) hx hb dL_law_579 dL_law_580 (by decide) (fun c116 => ?_) (fun c116 => ?_)
      · replace hf := opos c116 hf
        exact w_L_law_L585 M hfl hRf hRl X hend hk28 _ _ _ _ _ _ hf _ _ _ _ _ hC (lv_sub hl [2, 3, 4, 5, 6, 7] rfl)
      · replace hf := oneg c116 hf
        refine lv_iconst (v := (0 : Int32)) hx hb dL_law_583 (by decide) ?_
        exact hend _ _ _ _ _ _ _ _ (Option.some.inj hf) hC dL_law_584
  · replace hf := oneg c112 hf
    refine lv_iconst (v := (0 : Int32)) hx hb dL_law_566 (by decide) ?_
    exact hend _ _ _ _ _ _ _ _ (Option.some.inj hf) hC dL_law_567
set_option maxHeartbeats 4000000 in
set_option maxRecDepth 100000 in
theorem w_L_law_L681 {p : Program} {l : Launch} {e : Env} {s : State} {m : MethodId} {args : Array Value} {below : List Frame} {meth : Method} {c : Code} {D : va_G} {cA : Nat → ClassId} {h0 : fSt} {r : (Int32 × fSt)} {Q : State → Prop} {R : Room} {b L : Nat} {xs : Nat → Int32} (M : fM p s m args meth c D cA h0 R cL_law 9 (some (.boolean)) RL) (hfl : l.stackTraces = false) (hRf : 35 ≤ R.frames) (hRl : 944 ≤ R.locals) (X : va_X b L xs s s.heap ∧ b < s.heap.size ∧ ¬ fA h0 b) (hend : ∀ (x : Int32) (h : fSt) (H : Heap) (locs : List Loc) (cells slots : Nat) (ls : Array Slot) (pc : Nat), (x, h) = r → fCur D cA s h0 h H locs → decode code pc = .ok (.ireturn, 1) → W p l e R s m args below meth c H locs cells slots Q (F0 m pc ls [.int x])) {k28 : Option Nat → Option Nat → Option Nat → Option Nat → Int32 → fSt → Option (Int32 × fSt)} (hk28 : ∀ (a1 : Option Nat) (a2 : Option Nat) (a3 : Option Nat) (a4 : Option Nat) (a5 : Int32) (h : fSt), k28 a1 a2 a3 a4 a5 h = some r → ∀ (H : Heap) (locs : List Loc) (cells slots : Nat) (ls : Array Slot), fCur D cA s h0 h H locs → lv_has ls 9 [(0, .ref b), (1, va_rf a1), (2, va_rf a2), (3, va_rf a3), (4, va_rf a4), (5, .int a5)] → W p l e R s m args below meth c H locs cells slots Q (F0 m 28 ls [])) (a1 : Option Nat) (a2 : Option Nat) (a3 : Option Nat) (a4 : Option Nat) (a5 : Int32) (h : fSt) (hf : f_L_law_L681 L xs k28 a1 a2 a3 a4 a5 h = some r) : ∀ (H : Heap) (locs : List Loc) (cells slots : Nat) (ls : Array Slot), fCur D cA s h0 h H locs → lv_has ls 9 [(0, .ref b), (1, va_rf a1), (2, va_rf a2), (3, va_rf a3), (4, va_rf a4), (5, .int a5)] → W p l e R s m args below meth c H locs cells slots Q (F0 m 681 ls []) := by
  obtain ⟨hx, hb, hml, hr, hlocks, hts, hown, K, hR⟩ := id M
  intro H locs cells slots ls hC hl
  refine lv_goto (tgt := 2859) hx hb dL_law_681 (by decide) ?_
  exact w_L_law_L2859 M hfl hRf hRl X hend hk28 _ _ _ _ _ _ hf _ _ _ _ _ hC (lv_sub hl [0, 1, 2, 3, 4, 5] rfl)
set_option maxHeartbeats 4000000 in
set_option maxRecDepth 100000 in
theorem w_L_law_L648 {p : Program} {l : Launch} {e : Env} {s : State} {m : MethodId} {args : Array Value} {below : List Frame} {meth : Method} {c : Code} {D : va_G} {cA : Nat → ClassId} {h0 : fSt} {r : (Int32 × fSt)} {Q : State → Prop} {R : Room} {b L : Nat} {xs : Nat → Int32} (M : fM p s m args meth c D cA h0 R cL_law 9 (some (.boolean)) RL) (hfl : l.stackTraces = false) (hRf : 35 ≤ R.frames) (hRl : 944 ≤ R.locals) (X : va_X b L xs s s.heap ∧ b < s.heap.size ∧ ¬ fA h0 b) (hend : ∀ (x : Int32) (h : fSt) (H : Heap) (locs : List Loc) (cells slots : Nat) (ls : Array Slot) (pc : Nat), (x, h) = r → fCur D cA s h0 h H locs → decode code pc = .ok (.ireturn, 1) → W p l e R s m args below meth c H locs cells slots Q (F0 m pc ls [.int x])) {k28 : Option Nat → Option Nat → Option Nat → Option Nat → Int32 → fSt → Option (Int32 × fSt)} (hk28 : ∀ (a1 : Option Nat) (a2 : Option Nat) (a3 : Option Nat) (a4 : Option Nat) (a5 : Int32) (h : fSt), k28 a1 a2 a3 a4 a5 h = some r → ∀ (H : Heap) (locs : List Loc) (cells slots : Nat) (ls : Array Slot), fCur D cA s h0 h H locs → lv_has ls 9 [(0, .ref b), (1, va_rf a1), (2, va_rf a2), (3, va_rf a3), (4, va_rf a4), (5, .int a5)] → W p l e R s m args below meth c H locs cells slots Q (F0 m 28 ls [])) (a1 : Option Nat) (a2 : Option Nat) (a3 : Option Nat) (a4 : Option Nat) (a5 : Int32) (a6 : Int32) (s3 : Int32) (s2 : Int32) (s1 : Int32) (s0 : Option Nat) (h : fSt) (hf : f_L_law_L648 L xs k28 a1 a2 a3 a4 a5 a6 s3 s2 s1 s0 h = some r) : ∀ (H : Heap) (locs : List Loc) (cells slots : Nat) (ls : Array Slot), fCur D cA s h0 h H locs → lv_has ls 9 [(0, .ref b), (1, va_rf a1), (2, va_rf a2), (3, va_rf a3), (4, va_rf a4), (5, .int a5), (6, .int a6)] → W p l e R s m args below meth c H locs cells slots Q (F0 m 648 ls [.int s3, .int s2, .int s1, va_rf s0]) := by
  obtain ⟨hx, hb, hml, hr, hlocks, hts, hown, K, hR⟩ := id M
  intro H locs cells slots ls hC hl
  obtain ⟨b119, q120, hf⟩ := obind hf
  obtain ⟨r117, g118, hf⟩ := obind hf
  refine fr_callV hx hb hml hts hown K hC hR ct_8 (c_X8_turn hfl D cA g118) 3 q120 kw1107 kw1104 kw1105 kw1106 kw62 (by decide +kernel) ⟨by omega, by omega⟩ rfl hl.1 (cat8 _ (by exact Nat.le_of_ble_eq_true rfl)) dL_law_648 rfl (fun H locs _ _ hC => ?_)
  refine lv_istore (lv' := [(7, .int r117.1), (0, .ref b), (1, va_rf a1), (2, va_rf a2), (3, va_rf a3), (4, va_rf a4), (5, .int a5), (6, .int a6)]) hx hb dL_law_651 hl (by decide) (congrArg (List.cons _) (flk rfl (flk rfl (flk rfl (flk rfl (flk rfl (flk rfl (flk rfl fln)))))))) (fun ls hl => ?_)
  refine fr_aload_n hx hb dL_law_653 rfl (lv_at hl 3 rfl) ?_
  obtain ⟨b123, q124, hf⟩ := obind hf
  obtain ⟨r121, g122, hf⟩ := obind hf
  refine fr_callV hx hb hml hts hown K hC hR ct_8 (c_X8_thrown hfl D cA g122) 0 q124 kw1055 kw1052 kw1053 kw1054 kw62 (by decide +kernel) ⟨by omega, by omega⟩ rfl hl.1 (cat8 _ (by exact Nat.le_of_ble_eq_true rfl)) dL_law_654 rfl (fun H locs _ _ hC => ?_)
  refine lv_iload hx hb dL_law_657 (lv_at hl 7 rfl) ?_
  refine lv_icmp_eq (tgt := 664) hx hb dL_law_659 (by decide) (fun c125 => ?_) (fun c125 => ?_)
  · replace hf := opos c125 hf
    refine lv_iload hx hb dL_law_664 (lv_at hl 7 rfl) ?_
    refine lv_if_ne (tgt := 681) hx hb dL_law_666 (by decide) (fun c126 => ?_) (fun c126 => ?_)
    · replace hf := oneg c126 hf
      exact w_L_law_L681 M hfl hRf hRl X hend hk28 _ _ _ _ _ _ hf _ _ _ _ _ hC (lv_sub hl [1, 2, 3, 4, 5, 6] rfl)
    · replace hf := opos c126 hf
      refine fr_aload_n hx hb dL_law_669 rfl (lv_at hl 4 rfl) ?_
      refine lv_iconst (v := (0 : Int32)) hx hb dL_law_670 (by decide) ?_
      obtain ⟨x127, g128, hf⟩ := obind hf
      refine fr_lald hx hb K hC (t := 1) rfl g128 dL_law_671 ?_
      refine lv_iload hx hb dL_law_672 (lv_at hl 0 rfl) ?_
      refine lv_i2l (v := (Int32.toInt64 r117.1)) hx hb dL_law_674 rfl ?_
      refine fr_lcmp_eq (tgt := 681) hx hb dL_law_675 dL_law_676 (by decide) (fun c129 => ?_) (fun c129 => ?_)
      · replace hf := opos c129 hf
        exact w_L_law_L681 M hfl hRf hRl X hend hk28 _ _ _ _ _ _ hf _ _ _ _ _ hC (lv_sub hl [1, 2, 3, 4, 5, 6] rfl)
      · replace hf := oneg c129 hf
        refine lv_iconst (v := (0 : Int32)) hx hb dL_law_679 (by decide) ?_
        exact hend _ _ _ _ _ _ _ _ (Option.some.inj hf) hC dL_law_680
  · replace hf := oneg c125 hf
    refine lv_iconst (v := (0 : Int32)) hx hb dL_law_662 (by decide) ?_
    exact hend _ _ _ _ _ _ _ _ (Option.some.inj hf) hC dL_law_663
set_option maxHeartbeats 4000000 in
set_option maxRecDepth 100000 in
theorem w_L_law_L615 {p : Program} {l : Launch} {e : Env} {s : State} {m : MethodId} {args : Array Value} {below : List Frame} {meth : Method} {c : Code} {D : va_G} {cA : Nat → ClassId} {h0 : fSt} {r : (Int32 × fSt)} {Q : State → Prop} {R : Room} {b L : Nat} {xs : Nat → Int32} (M : fM p s m args meth c D cA h0 R cL_law 9 (some (.boolean)) RL) (hfl : l.stackTraces = false) (hRf : 35 ≤ R.frames) (hRl : 944 ≤ R.locals) (X : va_X b L xs s s.heap ∧ b < s.heap.size ∧ ¬ fA h0 b) (hend : ∀ (x : Int32) (h : fSt) (H : Heap) (locs : List Loc) (cells slots : Nat) (ls : Array Slot) (pc : Nat), (x, h) = r → fCur D cA s h0 h H locs → decode code pc = .ok (.ireturn, 1) → W p l e R s m args below meth c H locs cells slots Q (F0 m pc ls [.int x])) {k28 : Option Nat → Option Nat → Option Nat → Option Nat → Int32 → fSt → Option (Int32 × fSt)} (hk28 : ∀ (a1 : Option Nat) (a2 : Option Nat) (a3 : Option Nat) (a4 : Option Nat) (a5 : Int32) (h : fSt), k28 a1 a2 a3 a4 a5 h = some r → ∀ (H : Heap) (locs : List Loc) (cells slots : Nat) (ls : Array Slot), fCur D cA s h0 h H locs → lv_has ls 9 [(0, .ref b), (1, va_rf a1), (2, va_rf a2), (3, va_rf a3), (4, va_rf a4), (5, .int a5)] → W p l e R s m args below meth c H locs cells slots Q (F0 m 28 ls [])) (a1 : Option Nat) (a2 : Option Nat) (a3 : Option Nat) (a4 : Option Nat) (a5 : Int32) (s3 : Int32) (s2 : Int32) (s1 : Int32) (s0 : Option Nat) (h : fSt) (hf : f_L_law_L615 L xs k28 a1 a2 a3 a4 a5 s3 s2 s1 s0 h = some r) : ∀ (H : Heap) (locs : List Loc) (cells slots : Nat) (ls : Array Slot), fCur D cA s h0 h H locs → lv_has ls 9 [(0, .ref b), (1, va_rf a1), (2, va_rf a2), (3, va_rf a3), (4, va_rf a4), (5, .int a5)] → W p l e R s m args below meth c H locs cells slots Q (F0 m 615 ls [.int s3, .int s2, .int s1, va_rf s0]) := by
  obtain ⟨hx, hb, hml, hr, hlocks, hts, hown, K, hR⟩ := id M
  intro H locs cells slots ls hC hl
  refine fr_aload_n hx hb dL_law_615 rfl (lv_at hl 3 rfl) ?_
  obtain ⟨⟨v132 | k133, h134⟩, g131, hf⟩ := obind hf
  rotate_left
  · exact nomatch (show (none : Option (Int32 × fSt)) = some _ from hf)
  replace hf := fci hf
  refine fr_callSH hx hb hml hts hown K hC hR (c_L_turn hfl D cA g131) 5 kw701 kw699 kw700 kw54 (by decide +kernel) ⟨by omega, by omega⟩ rfl hl.1 (cat8 _ (by exact Nat.le_of_ble_eq_true rfl)) dL_law_616 rfl (fun H locs _ _ hC => ?_)
  refine lv_istore (lv' := [(6, .int v132), (0, .ref b), (1, va_rf a1), (2, va_rf a2), (3, va_rf a3), (4, va_rf a4), (5, .int a5)]) hx hb dL_law_619 hl (by decide) (congrArg (List.cons _) (flk rfl (flk rfl (flk rfl (flk rfl (flk rfl (flk rfl fln))))))) (fun ls hl => ?_)
  refine fr_aload_n hx hb dL_law_621 rfl (lv_at hl 3 rfl) ?_
  refine lv_aload_n hx hb dL_law_622 rfl (lv_at hl 1 rfl) ?_
  refine lv_iload hx hb dL_law_623 (lv_at hl 6 rfl) ?_
  refine lv_iconst (v := (1 : Int32)) hx hb dL_law_625 (by decide) ?_
  refine lv_iadd hx hb dL_law_626 ?_
  by_cases c135 : (a5 + (1 : Int32)) < 0 ∨ L ≤ ((a5 + (1 : Int32))).toNatClampNeg
  · exact nomatch (opos c135 hf)
  replace hf := oneg c135 hf
  refine va_sld hx hb X.1 X.2.1 X.2.2 hC.2.2.2.2.2.1 c135 dL_law_627 ?_
  refine lv_aload_n hx hb dL_law_628 rfl (lv_at hl 1 rfl) ?_
  refine lv_iload hx hb dL_law_629 (lv_at hl 6 rfl) ?_
  refine lv_iconst (v := (2 : Int32)) hx hb dL_law_631 (by decide) ?_
  refine lv_iadd hx hb dL_law_632 ?_
  by_cases c136 : (a5 + (2 : Int32)) < 0 ∨ L ≤ ((a5 + (2 : Int32))).toNatClampNeg
  · exact nomatch (opos c136 hf)
  replace hf := oneg c136 hf
  refine va_sld hx hb X.1 X.2.1 X.2.2 hC.2.2.2.2.2.1 c136 dL_law_633 ?_
  refine lv_aload_n hx hb dL_law_634 rfl (lv_at hl 1 rfl) ?_
  refine lv_iload hx hb dL_law_635 (lv_at hl 6 rfl) ?_
  refine lv_iconst (v := (3 : Int32)) hx hb dL_law_637 (by decide) ?_
  refine lv_iadd hx hb dL_law_638 ?_
  by_cases c137 : (a5 + (3 : Int32)) < 0 ∨ L ≤ ((a5 + (3 : Int32))).toNatClampNeg
  · exact nomatch (opos c137 hf)
  replace hf := oneg c137 hf
  refine va_sld hx hb X.1 X.2.1 X.2.2 hC.2.2.2.2.2.1 c137 dL_law_639 ?_
  refine lv_if_eq (tgt := 647) hx hb dL_law_640 (by decide) (fun c138 => ?_) (fun c138 => ?_)
  · replace hf := opos c138 hf
    refine lv_iconst (v := (0 : Int32)) hx hb dL_law_647 (by decide) ?_
    exact w_L_law_L648 M hfl hRf hRl X hend hk28 _ _ _ _ _ _ _ _ _ _ _ hf _ _ _ _ _ hC (lv_sub hl [1, 2, 3, 4, 5, 6, 0] rfl)
  · replace hf := oneg c138 hf
    refine lv_iconst (v := (1 : Int32)) hx hb dL_law_643 (by decide) ?_
    refine lv_goto (tgt := 648) hx hb dL_law_644 (by decide) ?_
    exact w_L_law_L648 M hfl hRf hRl X hend hk28 _ _ _ _ _ _ _ _ _ _ _ hf _ _ _ _ _ hC (lv_sub hl [1, 2, 3, 4, 5, 6, 0] rfl)
set_option maxHeartbeats 4000000 in
set_option maxRecDepth 100000 in
theorem w_L_law_L588 {p : Program} {l : Launch} {e : Env} {s : State} {m : MethodId} {args : Array Value} {below : List Frame} {meth : Method} {c : Code} {D : va_G} {cA : Nat → ClassId} {h0 : fSt} {r : (Int32 × fSt)} {Q : State → Prop} {R : Room} {b L : Nat} {xs : Nat → Int32} (M : fM p s m args meth c D cA h0 R cL_law 9 (some (.boolean)) RL) (hfl : l.stackTraces = false) (hRf : 35 ≤ R.frames) (hRl : 944 ≤ R.locals) (X : va_X b L xs s s.heap ∧ b < s.heap.size ∧ ¬ fA h0 b) (hend : ∀ (x : Int32) (h : fSt) (H : Heap) (locs : List Loc) (cells slots : Nat) (ls : Array Slot) (pc : Nat), (x, h) = r → fCur D cA s h0 h H locs → decode code pc = .ok (.ireturn, 1) → W p l e R s m args below meth c H locs cells slots Q (F0 m pc ls [.int x])) {k28 : Option Nat → Option Nat → Option Nat → Option Nat → Int32 → fSt → Option (Int32 × fSt)} (hk28 : ∀ (a1 : Option Nat) (a2 : Option Nat) (a3 : Option Nat) (a4 : Option Nat) (a5 : Int32) (h : fSt), k28 a1 a2 a3 a4 a5 h = some r → ∀ (H : Heap) (locs : List Loc) (cells slots : Nat) (ls : Array Slot), fCur D cA s h0 h H locs → lv_has ls 9 [(0, .ref b), (1, va_rf a1), (2, va_rf a2), (3, va_rf a3), (4, va_rf a4), (5, .int a5)] → W p l e R s m args below meth c H locs cells slots Q (F0 m 28 ls [])) (a1 : Option Nat) (a2 : Option Nat) (a3 : Option Nat) (a4 : Option Nat) (a5 : Int32) (h : fSt) (hf : f_L_law_L588 L xs k28 a1 a2 a3 a4 a5 h = some r) : ∀ (H : Heap) (locs : List Loc) (cells slots : Nat) (ls : Array Slot), fCur D cA s h0 h H locs → lv_has ls 9 [(0, .ref b), (1, va_rf a1), (2, va_rf a2), (3, va_rf a3), (4, va_rf a4), (5, .int a5)] → W p l e R s m args below meth c H locs cells slots Q (F0 m 588 ls []) := by
  obtain ⟨hx, hb, hml, hr, hlocks, hts, hown, K, hR⟩ := id M
  intro H locs cells slots ls hC hl
  refine fr_aload_n hx hb dL_law_588 rfl (lv_at hl 1 rfl) ?_
  refine lv_aload_n hx hb dL_law_589 rfl (lv_at hl 0 rfl) ?_
  refine lv_iload hx hb dL_law_590 (lv_at hl 5 rfl) ?_
  refine lv_iconst (v := (1 : Int32)) hx hb dL_law_592 (by decide) ?_
  refine lv_iadd hx hb dL_law_593 ?_
  by_cases c139 : (a5 + (1 : Int32)) < 0 ∨ L ≤ ((a5 + (1 : Int32))).toNatClampNeg
  · exact nomatch (opos c139 hf)
  replace hf := oneg c139 hf
  refine va_sld hx hb X.1 X.2.1 X.2.2 hC.2.2.2.2.2.1 c139 dL_law_594 ?_
  refine lv_aload_n hx hb dL_law_595 rfl (lv_at hl 0 rfl) ?_
  refine lv_iload hx hb dL_law_596 (lv_at hl 5 rfl) ?_
  refine lv_iconst (v := (2 : Int32)) hx hb dL_law_598 (by decide) ?_
  refine lv_iadd hx hb dL_law_599 ?_
  by_cases c140 : (a5 + (2 : Int32)) < 0 ∨ L ≤ ((a5 + (2 : Int32))).toNatClampNeg
  · exact nomatch (opos c140 hf)
  replace hf := oneg c140 hf
  refine va_sld hx hb X.1 X.2.1 X.2.2 hC.2.2.2.2.2.1 c140 dL_law_600 ?_
  refine lv_aload_n hx hb dL_law_601 rfl (lv_at hl 0 rfl) ?_
  refine lv_iload hx hb dL_law_602 (lv_at hl 5 rfl) ?_
  refine lv_iconst (v := (3 : Int32)) hx hb dL_law_604 (by decide) ?_
  refine lv_iadd hx hb dL_law_605 ?_
  by_cases c141 : (a5 + (3 : Int32)) < 0 ∨ L ≤ ((a5 + (3 : Int32))).toNatClampNeg
  · exact nomatch (opos c141 hf)
  replace hf := oneg c141 hf
  refine va_sld hx hb X.1 X.2.1 X.2.2 hC.2.2.2.2.2.1 c141 dL_law_606 ?_
  refine lv_if_eq (tgt := 614) hx hb dL_law_607 (by decide) (fun c142 => ?_) (fun c142 => ?_)
  · replace hf := opos c142 hf
    refine lv_iconst (v := (0 : Int32)) hx hb dL_law_614 (by decide) ?_
    exact w_L_law_L615 M hfl hRf hRl X hend hk28 _ _ _ _ _ _ _ _ _ _ hf _ _ _ _ _ hC (lv_sub hl [0, 1, 2, 3, 4, 5] rfl)
  · replace hf := oneg c142 hf
    refine lv_iconst (v := (1 : Int32)) hx hb dL_law_610 (by decide) ?_
    refine lv_goto (tgt := 615) hx hb dL_law_611 (by decide) ?_
    exact w_L_law_L615 M hfl hRf hRl X hend hk28 _ _ _ _ _ _ _ _ _ _ hf _ _ _ _ _ hC (lv_sub hl [0, 1, 2, 3, 4, 5] rfl)
set_option maxHeartbeats 4000000 in
set_option maxRecDepth 100000 in
theorem w_L_law_L789 {p : Program} {l : Launch} {e : Env} {s : State} {m : MethodId} {args : Array Value} {below : List Frame} {meth : Method} {c : Code} {D : va_G} {cA : Nat → ClassId} {h0 : fSt} {r : (Int32 × fSt)} {Q : State → Prop} {R : Room} {b L : Nat} {xs : Nat → Int32} (M : fM p s m args meth c D cA h0 R cL_law 9 (some (.boolean)) RL) (hfl : l.stackTraces = false) (hRf : 35 ≤ R.frames) (hRl : 944 ≤ R.locals) (X : va_X b L xs s s.heap ∧ b < s.heap.size ∧ ¬ fA h0 b) (hend : ∀ (x : Int32) (h : fSt) (H : Heap) (locs : List Loc) (cells slots : Nat) (ls : Array Slot) (pc : Nat), (x, h) = r → fCur D cA s h0 h H locs → decode code pc = .ok (.ireturn, 1) → W p l e R s m args below meth c H locs cells slots Q (F0 m pc ls [.int x])) {k28 : Option Nat → Option Nat → Option Nat → Option Nat → Int32 → fSt → Option (Int32 × fSt)} (hk28 : ∀ (a1 : Option Nat) (a2 : Option Nat) (a3 : Option Nat) (a4 : Option Nat) (a5 : Int32) (h : fSt), k28 a1 a2 a3 a4 a5 h = some r → ∀ (H : Heap) (locs : List Loc) (cells slots : Nat) (ls : Array Slot), fCur D cA s h0 h H locs → lv_has ls 9 [(0, .ref b), (1, va_rf a1), (2, va_rf a2), (3, va_rf a3), (4, va_rf a4), (5, .int a5)] → W p l e R s m args below meth c H locs cells slots Q (F0 m 28 ls [])) (a1 : Option Nat) (a2 : Option Nat) (a3 : Option Nat) (a4 : Option Nat) (a5 : Int32) (h : fSt) (hf : f_L_law_L789 L xs k28 a1 a2 a3 a4 a5 h = some r) : ∀ (H : Heap) (locs : List Loc) (cells slots : Nat) (ls : Array Slot), fCur D cA s h0 h H locs → lv_has ls 9 [(0, .ref b), (1, va_rf a1), (2, va_rf a2), (3, va_rf a3), (4, va_rf a4), (5, .int a5)] → W p l e R s m args below meth c H locs cells slots Q (F0 m 789 ls []) := by
  obtain ⟨hx, hb, hml, hr, hlocks, hts, hown, K, hR⟩ := id M
  intro H locs cells slots ls hC hl
  refine lv_goto (tgt := 2859) hx hb dL_law_789 (by decide) ?_
  exact w_L_law_L2859 M hfl hRf hRl X hend hk28 _ _ _ _ _ _ hf _ _ _ _ _ hC (lv_sub hl [0, 1, 2, 3, 4, 5] rfl)
set_option maxHeartbeats 4000000 in
set_option maxRecDepth 100000 in
theorem w_L_law_L756 {p : Program} {l : Launch} {e : Env} {s : State} {m : MethodId} {args : Array Value} {below : List Frame} {meth : Method} {c : Code} {D : va_G} {cA : Nat → ClassId} {h0 : fSt} {r : (Int32 × fSt)} {Q : State → Prop} {R : Room} {b L : Nat} {xs : Nat → Int32} (M : fM p s m args meth c D cA h0 R cL_law 9 (some (.boolean)) RL) (hfl : l.stackTraces = false) (hRf : 35 ≤ R.frames) (hRl : 944 ≤ R.locals) (X : va_X b L xs s s.heap ∧ b < s.heap.size ∧ ¬ fA h0 b) (hend : ∀ (x : Int32) (h : fSt) (H : Heap) (locs : List Loc) (cells slots : Nat) (ls : Array Slot) (pc : Nat), (x, h) = r → fCur D cA s h0 h H locs → decode code pc = .ok (.ireturn, 1) → W p l e R s m args below meth c H locs cells slots Q (F0 m pc ls [.int x])) {k28 : Option Nat → Option Nat → Option Nat → Option Nat → Int32 → fSt → Option (Int32 × fSt)} (hk28 : ∀ (a1 : Option Nat) (a2 : Option Nat) (a3 : Option Nat) (a4 : Option Nat) (a5 : Int32) (h : fSt), k28 a1 a2 a3 a4 a5 h = some r → ∀ (H : Heap) (locs : List Loc) (cells slots : Nat) (ls : Array Slot), fCur D cA s h0 h H locs → lv_has ls 9 [(0, .ref b), (1, va_rf a1), (2, va_rf a2), (3, va_rf a3), (4, va_rf a4), (5, .int a5)] → W p l e R s m args below meth c H locs cells slots Q (F0 m 28 ls [])) (a1 : Option Nat) (a2 : Option Nat) (a3 : Option Nat) (a4 : Option Nat) (a5 : Int32) (a6 : Int32) (s4 : Int32) (s3 : Int32) (s2 : Int32) (s1 : Int32) (s0 : Option Nat) (h : fSt) (hf : f_L_law_L756 L xs k28 a1 a2 a3 a4 a5 a6 s4 s3 s2 s1 s0 h = some r) : ∀ (H : Heap) (locs : List Loc) (cells slots : Nat) (ls : Array Slot), fCur D cA s h0 h H locs → lv_has ls 9 [(0, .ref b), (1, va_rf a1), (2, va_rf a2), (3, va_rf a3), (4, va_rf a4), (5, .int a5), (6, .int a6)] → W p l e R s m args below meth c H locs cells slots Q (F0 m 756 ls [.int s4, .int s3, .int s2, .int s1, va_rf s0]) := by
  obtain ⟨hx, hb, hml, hr, hlocks, hts, hown, K, hR⟩ := id M
  intro H locs cells slots ls hC hl
  obtain ⟨b145, q146, hf⟩ := obind hf
  obtain ⟨r143, g144, hf⟩ := obind hf
  refine fr_callV hx hb hml hts hown K hC hR ct_8 (c_X8_look hfl D cA g144) 4 q146 kw1111 kw1108 kw1109 kw1110 kw62 (by decide +kernel) ⟨by omega, by omega⟩ rfl hl.1 (cat8 _ (by exact Nat.le_of_ble_eq_true rfl)) dL_law_756 rfl (fun H locs _ _ hC => ?_)
  refine lv_istore (lv' := [(7, .int r143.1), (0, .ref b), (1, va_rf a1), (2, va_rf a2), (3, va_rf a3), (4, va_rf a4), (5, .int a5), (6, .int a6)]) hx hb dL_law_759 hl (by decide) (congrArg (List.cons _) (flk rfl (flk rfl (flk rfl (flk rfl (flk rfl (flk rfl (flk rfl fln)))))))) (fun ls hl => ?_)
  refine fr_aload_n hx hb dL_law_761 rfl (lv_at hl 3 rfl) ?_
  obtain ⟨b149, q150, hf⟩ := obind hf
  obtain ⟨r147, g148, hf⟩ := obind hf
  refine fr_callV hx hb hml hts hown K hC hR ct_8 (c_X8_thrown hfl D cA g148) 0 q150 kw1055 kw1052 kw1053 kw1054 kw62 (by decide +kernel) ⟨by omega, by omega⟩ rfl hl.1 (cat8 _ (by exact Nat.le_of_ble_eq_true rfl)) dL_law_762 rfl (fun H locs _ _ hC => ?_)
  refine lv_iload hx hb dL_law_765 (lv_at hl 7 rfl) ?_
  refine lv_icmp_eq (tgt := 772) hx hb dL_law_767 (by decide) (fun c151 => ?_) (fun c151 => ?_)
  · replace hf := opos c151 hf
    refine lv_iload hx hb dL_law_772 (lv_at hl 7 rfl) ?_
    refine lv_if_ne (tgt := 789) hx hb dL_law_774 (by decide) (fun c152 => ?_) (fun c152 => ?_)
    · replace hf := oneg c152 hf
      exact w_L_law_L789 M hfl hRf hRl X hend hk28 _ _ _ _ _ _ hf _ _ _ _ _ hC (lv_sub hl [1, 2, 3, 4, 5, 6] rfl)
    · replace hf := opos c152 hf
      refine fr_aload_n hx hb dL_law_777 rfl (lv_at hl 4 rfl) ?_
      refine lv_iconst (v := (0 : Int32)) hx hb dL_law_778 (by decide) ?_
      obtain ⟨x153, g154, hf⟩ := obind hf
      refine fr_lald hx hb K hC (t := 1) rfl g154 dL_law_779 ?_
      refine lv_iload hx hb dL_law_780 (lv_at hl 0 rfl) ?_
      refine lv_i2l (v := (Int32.toInt64 r143.1)) hx hb dL_law_782 rfl ?_
      refine fr_lcmp_eq (tgt := 789) hx hb dL_law_783 dL_law_784 (by decide) (fun c155 => ?_) (fun c155 => ?_)
      · replace hf := opos c155 hf
        exact w_L_law_L789 M hfl hRf hRl X hend hk28 _ _ _ _ _ _ hf _ _ _ _ _ hC (lv_sub hl [1, 2, 3, 4, 5, 6] rfl)
      · replace hf := oneg c155 hf
        refine lv_iconst (v := (0 : Int32)) hx hb dL_law_787 (by decide) ?_
        exact hend _ _ _ _ _ _ _ _ (Option.some.inj hf) hC dL_law_788
  · replace hf := oneg c151 hf
    refine lv_iconst (v := (0 : Int32)) hx hb dL_law_770 (by decide) ?_
    exact hend _ _ _ _ _ _ _ _ (Option.some.inj hf) hC dL_law_771
set_option maxHeartbeats 4000000 in
set_option maxRecDepth 100000 in
theorem w_L_law_L717 {p : Program} {l : Launch} {e : Env} {s : State} {m : MethodId} {args : Array Value} {below : List Frame} {meth : Method} {c : Code} {D : va_G} {cA : Nat → ClassId} {h0 : fSt} {r : (Int32 × fSt)} {Q : State → Prop} {R : Room} {b L : Nat} {xs : Nat → Int32} (M : fM p s m args meth c D cA h0 R cL_law 9 (some (.boolean)) RL) (hfl : l.stackTraces = false) (hRf : 35 ≤ R.frames) (hRl : 944 ≤ R.locals) (X : va_X b L xs s s.heap ∧ b < s.heap.size ∧ ¬ fA h0 b) (hend : ∀ (x : Int32) (h : fSt) (H : Heap) (locs : List Loc) (cells slots : Nat) (ls : Array Slot) (pc : Nat), (x, h) = r → fCur D cA s h0 h H locs → decode code pc = .ok (.ireturn, 1) → W p l e R s m args below meth c H locs cells slots Q (F0 m pc ls [.int x])) {k28 : Option Nat → Option Nat → Option Nat → Option Nat → Int32 → fSt → Option (Int32 × fSt)} (hk28 : ∀ (a1 : Option Nat) (a2 : Option Nat) (a3 : Option Nat) (a4 : Option Nat) (a5 : Int32) (h : fSt), k28 a1 a2 a3 a4 a5 h = some r → ∀ (H : Heap) (locs : List Loc) (cells slots : Nat) (ls : Array Slot), fCur D cA s h0 h H locs → lv_has ls 9 [(0, .ref b), (1, va_rf a1), (2, va_rf a2), (3, va_rf a3), (4, va_rf a4), (5, .int a5)] → W p l e R s m args below meth c H locs cells slots Q (F0 m 28 ls [])) (a1 : Option Nat) (a2 : Option Nat) (a3 : Option Nat) (a4 : Option Nat) (a5 : Int32) (s4 : Int32) (s3 : Int32) (s2 : Int32) (s1 : Int32) (s0 : Option Nat) (h : fSt) (hf : f_L_law_L717 L xs k28 a1 a2 a3 a4 a5 s4 s3 s2 s1 s0 h = some r) : ∀ (H : Heap) (locs : List Loc) (cells slots : Nat) (ls : Array Slot), fCur D cA s h0 h H locs → lv_has ls 9 [(0, .ref b), (1, va_rf a1), (2, va_rf a2), (3, va_rf a3), (4, va_rf a4), (5, .int a5)] → W p l e R s m args below meth c H locs cells slots Q (F0 m 717 ls [.int s4, .int s3, .int s2, .int s1, va_rf s0]) := by
  obtain ⟨hx, hb, hml, hr, hlocks, hts, hown, K, hR⟩ := id M
  intro H locs cells slots ls hC hl
  refine fr_aload_n hx hb dL_law_717 rfl (lv_at hl 3 rfl) ?_
  obtain ⟨⟨v158 | k159, h160⟩, g157, hf⟩ := obind hf
  rotate_left
  · exact nomatch (show (none : Option (Int32 × fSt)) = some _ from hf)
  replace hf := fci hf
  refine fr_callSH hx hb hml hts hown K hC hR (c_L_look hfl D cA g157) 6 kw709 kw707 kw708 kw54 (by decide +kernel) ⟨by omega, by omega⟩ rfl hl.1 (cat8 _ (by exact Nat.le_of_ble_eq_true rfl)) dL_law_718 rfl (fun H locs _ _ hC => ?_)
  refine lv_istore (lv' := [(6, .int v158), (0, .ref b), (1, va_rf a1), (2, va_rf a2), (3, va_rf a3), (4, va_rf a4), (5, .int a5)]) hx hb dL_law_721 hl (by decide) (congrArg (List.cons _) (flk rfl (flk rfl (flk rfl (flk rfl (flk rfl (flk rfl fln))))))) (fun ls hl => ?_)
  refine fr_aload_n hx hb dL_law_723 rfl (lv_at hl 3 rfl) ?_
  refine lv_aload_n hx hb dL_law_724 rfl (lv_at hl 1 rfl) ?_
  refine lv_iload hx hb dL_law_725 (lv_at hl 6 rfl) ?_
  refine lv_iconst (v := (1 : Int32)) hx hb dL_law_727 (by decide) ?_
  refine lv_iadd hx hb dL_law_728 ?_
  by_cases c161 : (a5 + (1 : Int32)) < 0 ∨ L ≤ ((a5 + (1 : Int32))).toNatClampNeg
  · exact nomatch (opos c161 hf)
  replace hf := oneg c161 hf
  refine va_sld hx hb X.1 X.2.1 X.2.2 hC.2.2.2.2.2.1 c161 dL_law_729 ?_
  refine lv_aload_n hx hb dL_law_730 rfl (lv_at hl 1 rfl) ?_
  refine lv_iload hx hb dL_law_731 (lv_at hl 6 rfl) ?_
  refine lv_iconst (v := (2 : Int32)) hx hb dL_law_733 (by decide) ?_
  refine lv_iadd hx hb dL_law_734 ?_
  by_cases c162 : (a5 + (2 : Int32)) < 0 ∨ L ≤ ((a5 + (2 : Int32))).toNatClampNeg
  · exact nomatch (opos c162 hf)
  replace hf := oneg c162 hf
  refine va_sld hx hb X.1 X.2.1 X.2.2 hC.2.2.2.2.2.1 c162 dL_law_735 ?_
  refine lv_aload_n hx hb dL_law_736 rfl (lv_at hl 1 rfl) ?_
  refine lv_iload hx hb dL_law_737 (lv_at hl 6 rfl) ?_
  refine lv_iconst (v := (3 : Int32)) hx hb dL_law_739 (by decide) ?_
  refine lv_iadd hx hb dL_law_740 ?_
  by_cases c163 : (a5 + (3 : Int32)) < 0 ∨ L ≤ ((a5 + (3 : Int32))).toNatClampNeg
  · exact nomatch (opos c163 hf)
  replace hf := oneg c163 hf
  refine va_sld hx hb X.1 X.2.1 X.2.2 hC.2.2.2.2.2.1 c163 dL_law_741 ?_
  refine lv_aload_n hx hb dL_law_742 rfl (lv_at hl 1 rfl) ?_
  refine lv_iload hx hb dL_law_743 (lv_at hl 6 rfl) ?_
  refine lv_iconst (v := (4 : Int32)) hx hb dL_law_745 (by decide) ?_
  refine lv_iadd hx hb dL_law_746 ?_
  by_cases c164 : (a5 + (4 : Int32)) < 0 ∨ L ≤ ((a5 + (4 : Int32))).toNatClampNeg
  · exact nomatch (opos c164 hf)
  replace hf := oneg c164 hf
  refine va_sld hx hb X.1 X.2.1 X.2.2 hC.2.2.2.2.2.1 c164 dL_law_747 ?_
  refine lv_if_eq (tgt := 755) hx hb dL_law_748 (by decide) (fun c165 => ?_) (fun c165 => ?_)
  · replace hf := opos c165 hf
    refine lv_iconst (v := (0 : Int32)) hx hb dL_law_755 (by decide) ?_
    exact w_L_law_L756 M hfl hRf hRl X hend hk28 _ _ _ _ _ _ _ _ _ _ _ _ hf _ _ _ _ _ hC (lv_sub hl [1, 2, 3, 4, 5, 6, 0] rfl)
  · replace hf := oneg c165 hf
    refine lv_iconst (v := (1 : Int32)) hx hb dL_law_751 (by decide) ?_
    refine lv_goto (tgt := 756) hx hb dL_law_752 (by decide) ?_
    exact w_L_law_L756 M hfl hRf hRl X hend hk28 _ _ _ _ _ _ _ _ _ _ _ _ hf _ _ _ _ _ hC (lv_sub hl [1, 2, 3, 4, 5, 6, 0] rfl)
set_option maxHeartbeats 4000000 in
set_option maxRecDepth 100000 in
theorem w_L_law_L684 {p : Program} {l : Launch} {e : Env} {s : State} {m : MethodId} {args : Array Value} {below : List Frame} {meth : Method} {c : Code} {D : va_G} {cA : Nat → ClassId} {h0 : fSt} {r : (Int32 × fSt)} {Q : State → Prop} {R : Room} {b L : Nat} {xs : Nat → Int32} (M : fM p s m args meth c D cA h0 R cL_law 9 (some (.boolean)) RL) (hfl : l.stackTraces = false) (hRf : 35 ≤ R.frames) (hRl : 944 ≤ R.locals) (X : va_X b L xs s s.heap ∧ b < s.heap.size ∧ ¬ fA h0 b) (hend : ∀ (x : Int32) (h : fSt) (H : Heap) (locs : List Loc) (cells slots : Nat) (ls : Array Slot) (pc : Nat), (x, h) = r → fCur D cA s h0 h H locs → decode code pc = .ok (.ireturn, 1) → W p l e R s m args below meth c H locs cells slots Q (F0 m pc ls [.int x])) {k28 : Option Nat → Option Nat → Option Nat → Option Nat → Int32 → fSt → Option (Int32 × fSt)} (hk28 : ∀ (a1 : Option Nat) (a2 : Option Nat) (a3 : Option Nat) (a4 : Option Nat) (a5 : Int32) (h : fSt), k28 a1 a2 a3 a4 a5 h = some r → ∀ (H : Heap) (locs : List Loc) (cells slots : Nat) (ls : Array Slot), fCur D cA s h0 h H locs → lv_has ls 9 [(0, .ref b), (1, va_rf a1), (2, va_rf a2), (3, va_rf a3), (4, va_rf a4), (5, .int a5)] → W p l e R s m args below meth c H locs cells slots Q (F0 m 28 ls [])) (a1 : Option Nat) (a2 : Option Nat) (a3 : Option Nat) (a4 : Option Nat) (a5 : Int32) (h : fSt) (hf : f_L_law_L684 L xs k28 a1 a2 a3 a4 a5 h = some r) : ∀ (H : Heap) (locs : List Loc) (cells slots : Nat) (ls : Array Slot), fCur D cA s h0 h H locs → lv_has ls 9 [(0, .ref b), (1, va_rf a1), (2, va_rf a2), (3, va_rf a3), (4, va_rf a4), (5, .int a5)] → W p l e R s m args below meth c H locs cells slots Q (F0 m 684 ls []) := by
  obtain ⟨hx, hb, hml, hr, hlocks, hts, hown, K, hR⟩ := id M
  intro H locs cells slots ls hC hl
  refine fr_aload_n hx hb dL_law_684 rfl (lv_at hl 1 rfl) ?_
  refine lv_aload_n hx hb dL_law_685 rfl (lv_at hl 0 rfl) ?_
  refine lv_iload hx hb dL_law_686 (lv_at hl 5 rfl) ?_
  refine lv_iconst (v := (1 : Int32)) hx hb dL_law_688 (by decide) ?_
  refine lv_iadd hx hb dL_law_689 ?_
  by_cases c166 : (a5 + (1 : Int32)) < 0 ∨ L ≤ ((a5 + (1 : Int32))).toNatClampNeg
  · exact nomatch (opos c166 hf)
  replace hf := oneg c166 hf
  refine va_sld hx hb X.1 X.2.1 X.2.2 hC.2.2.2.2.2.1 c166 dL_law_690 ?_
  refine lv_aload_n hx hb dL_law_691 rfl (lv_at hl 0 rfl) ?_
  refine lv_iload hx hb dL_law_692 (lv_at hl 5 rfl) ?_
  refine lv_iconst (v := (2 : Int32)) hx hb dL_law_694 (by decide) ?_
  refine lv_iadd hx hb dL_law_695 ?_
  by_cases c167 : (a5 + (2 : Int32)) < 0 ∨ L ≤ ((a5 + (2 : Int32))).toNatClampNeg
  · exact nomatch (opos c167 hf)
  replace hf := oneg c167 hf
  refine va_sld hx hb X.1 X.2.1 X.2.2 hC.2.2.2.2.2.1 c167 dL_law_696 ?_
  refine lv_aload_n hx hb dL_law_697 rfl (lv_at hl 0 rfl) ?_
  refine lv_iload hx hb dL_law_698 (lv_at hl 5 rfl) ?_
  refine lv_iconst (v := (3 : Int32)) hx hb dL_law_700 (by decide) ?_
  refine lv_iadd hx hb dL_law_701 ?_
  by_cases c168 : (a5 + (3 : Int32)) < 0 ∨ L ≤ ((a5 + (3 : Int32))).toNatClampNeg
  · exact nomatch (opos c168 hf)
  replace hf := oneg c168 hf
  refine va_sld hx hb X.1 X.2.1 X.2.2 hC.2.2.2.2.2.1 c168 dL_law_702 ?_
  refine lv_aload_n hx hb dL_law_703 rfl (lv_at hl 0 rfl) ?_
  refine lv_iload hx hb dL_law_704 (lv_at hl 5 rfl) ?_
  refine lv_iconst (v := (4 : Int32)) hx hb dL_law_706 (by decide) ?_
  refine lv_iadd hx hb dL_law_707 ?_
  by_cases c169 : (a5 + (4 : Int32)) < 0 ∨ L ≤ ((a5 + (4 : Int32))).toNatClampNeg
  · exact nomatch (opos c169 hf)
  replace hf := oneg c169 hf
  refine va_sld hx hb X.1 X.2.1 X.2.2 hC.2.2.2.2.2.1 c169 dL_law_708 ?_
  refine lv_if_eq (tgt := 716) hx hb dL_law_709 (by decide) (fun c170 => ?_) (fun c170 => ?_)
  · replace hf := opos c170 hf
    refine lv_iconst (v := (0 : Int32)) hx hb dL_law_716 (by decide) ?_
    exact w_L_law_L717 M hfl hRf hRl X hend hk28 _ _ _ _ _ _ _ _ _ _ _ hf _ _ _ _ _ hC (lv_sub hl [0, 1, 2, 3, 4, 5] rfl)
  · replace hf := oneg c170 hf
    refine lv_iconst (v := (1 : Int32)) hx hb dL_law_712 (by decide) ?_
    refine lv_goto (tgt := 717) hx hb dL_law_713 (by decide) ?_
    exact w_L_law_L717 M hfl hRf hRl X hend hk28 _ _ _ _ _ _ _ _ _ _ _ hf _ _ _ _ _ hC (lv_sub hl [0, 1, 2, 3, 4, 5] rfl)
set_option maxHeartbeats 4000000 in
set_option maxRecDepth 100000 in
theorem w_L_law_L900 {p : Program} {l : Launch} {e : Env} {s : State} {m : MethodId} {args : Array Value} {below : List Frame} {meth : Method} {c : Code} {D : va_G} {cA : Nat → ClassId} {h0 : fSt} {r : (Int32 × fSt)} {Q : State → Prop} {R : Room} {b L : Nat} {xs : Nat → Int32} (M : fM p s m args meth c D cA h0 R cL_law 9 (some (.boolean)) RL) (hfl : l.stackTraces = false) (hRf : 35 ≤ R.frames) (hRl : 944 ≤ R.locals) (X : va_X b L xs s s.heap ∧ b < s.heap.size ∧ ¬ fA h0 b) (hend : ∀ (x : Int32) (h : fSt) (H : Heap) (locs : List Loc) (cells slots : Nat) (ls : Array Slot) (pc : Nat), (x, h) = r → fCur D cA s h0 h H locs → decode code pc = .ok (.ireturn, 1) → W p l e R s m args below meth c H locs cells slots Q (F0 m pc ls [.int x])) {k28 : Option Nat → Option Nat → Option Nat → Option Nat → Int32 → fSt → Option (Int32 × fSt)} (hk28 : ∀ (a1 : Option Nat) (a2 : Option Nat) (a3 : Option Nat) (a4 : Option Nat) (a5 : Int32) (h : fSt), k28 a1 a2 a3 a4 a5 h = some r → ∀ (H : Heap) (locs : List Loc) (cells slots : Nat) (ls : Array Slot), fCur D cA s h0 h H locs → lv_has ls 9 [(0, .ref b), (1, va_rf a1), (2, va_rf a2), (3, va_rf a3), (4, va_rf a4), (5, .int a5)] → W p l e R s m args below meth c H locs cells slots Q (F0 m 28 ls [])) (a1 : Option Nat) (a2 : Option Nat) (a3 : Option Nat) (a4 : Option Nat) (a5 : Int32) (h : fSt) (hf : f_L_law_L900 L xs k28 a1 a2 a3 a4 a5 h = some r) : ∀ (H : Heap) (locs : List Loc) (cells slots : Nat) (ls : Array Slot), fCur D cA s h0 h H locs → lv_has ls 9 [(0, .ref b), (1, va_rf a1), (2, va_rf a2), (3, va_rf a3), (4, va_rf a4), (5, .int a5)] → W p l e R s m args below meth c H locs cells slots Q (F0 m 900 ls []) := by
  obtain ⟨hx, hb, hml, hr, hlocks, hts, hown, K, hR⟩ := id M
  intro H locs cells slots ls hC hl
  refine lv_goto (tgt := 2859) hx hb dL_law_900 (by decide) ?_
  exact w_L_law_L2859 M hfl hRf hRl X hend hk28 _ _ _ _ _ _ hf _ _ _ _ _ hC (lv_sub hl [0, 1, 2, 3, 4, 5] rfl)
set_option maxHeartbeats 4000000 in
set_option maxRecDepth 100000 in
theorem w_L_law_L894 {p : Program} {l : Launch} {e : Env} {s : State} {m : MethodId} {args : Array Value} {below : List Frame} {meth : Method} {c : Code} {D : va_G} {cA : Nat → ClassId} {h0 : fSt} {r : (Int32 × fSt)} {Q : State → Prop} {R : Room} {b L : Nat} {xs : Nat → Int32} (M : fM p s m args meth c D cA h0 R cL_law 9 (some (.boolean)) RL) (hfl : l.stackTraces = false) (hRf : 35 ≤ R.frames) (hRl : 944 ≤ R.locals) (X : va_X b L xs s s.heap ∧ b < s.heap.size ∧ ¬ fA h0 b) (hend : ∀ (x : Int32) (h : fSt) (H : Heap) (locs : List Loc) (cells slots : Nat) (ls : Array Slot) (pc : Nat), (x, h) = r → fCur D cA s h0 h H locs → decode code pc = .ok (.ireturn, 1) → W p l e R s m args below meth c H locs cells slots Q (F0 m pc ls [.int x])) {k28 : Option Nat → Option Nat → Option Nat → Option Nat → Int32 → fSt → Option (Int32 × fSt)} (hk28 : ∀ (a1 : Option Nat) (a2 : Option Nat) (a3 : Option Nat) (a4 : Option Nat) (a5 : Int32) (h : fSt), k28 a1 a2 a3 a4 a5 h = some r → ∀ (H : Heap) (locs : List Loc) (cells slots : Nat) (ls : Array Slot), fCur D cA s h0 h H locs → lv_has ls 9 [(0, .ref b), (1, va_rf a1), (2, va_rf a2), (3, va_rf a3), (4, va_rf a4), (5, .int a5)] → W p l e R s m args below meth c H locs cells slots Q (F0 m 28 ls [])) (a1 : Option Nat) (a2 : Option Nat) (a3 : Option Nat) (a4 : Option Nat) (a5 : Int32) (s1 : Int64) (s0 : Int64) (h : fSt) (hf : f_L_law_L894 L xs k28 a1 a2 a3 a4 a5 s1 s0 h = some r) : ∀ (H : Heap) (locs : List Loc) (cells slots : Nat) (ls : Array Slot), fCur D cA s h0 h H locs → lv_has ls 9 [(0, .ref b), (1, va_rf a1), (2, va_rf a2), (3, va_rf a3), (4, va_rf a4), (5, .int a5)] → W p l e R s m args below meth c H locs cells slots Q (F0 m 894 ls [.long s1, .long s0]) := by
  obtain ⟨hx, hb, hml, hr, hlocks, hts, hown, K, hR⟩ := id M
  intro H locs cells slots ls hC hl
  refine fr_lcmp_eq (tgt := 900) hx hb dL_law_894 dL_law_895 (by decide) (fun c171 => ?_) (fun c171 => ?_)
  · replace hf := opos c171 hf
    exact w_L_law_L900 M hfl hRf hRl X hend hk28 _ _ _ _ _ _ hf _ _ _ _ _ hC (lv_sub hl [0, 1, 2, 3, 4, 5] rfl)
  · replace hf := oneg c171 hf
    refine lv_iconst (v := (0 : Int32)) hx hb dL_law_898 (by decide) ?_
    exact hend _ _ _ _ _ _ _ _ (Option.some.inj hf) hC dL_law_899
set_option maxHeartbeats 4000000 in
set_option maxRecDepth 100000 in
theorem w_L_law_L792 {p : Program} {l : Launch} {e : Env} {s : State} {m : MethodId} {args : Array Value} {below : List Frame} {meth : Method} {c : Code} {D : va_G} {cA : Nat → ClassId} {h0 : fSt} {r : (Int32 × fSt)} {Q : State → Prop} {R : Room} {b L : Nat} {xs : Nat → Int32} (M : fM p s m args meth c D cA h0 R cL_law 9 (some (.boolean)) RL) (hfl : l.stackTraces = false) (hRf : 35 ≤ R.frames) (hRl : 944 ≤ R.locals) (X : va_X b L xs s s.heap ∧ b < s.heap.size ∧ ¬ fA h0 b) (hend : ∀ (x : Int32) (h : fSt) (H : Heap) (locs : List Loc) (cells slots : Nat) (ls : Array Slot) (pc : Nat), (x, h) = r → fCur D cA s h0 h H locs → decode code pc = .ok (.ireturn, 1) → W p l e R s m args below meth c H locs cells slots Q (F0 m pc ls [.int x])) {k28 : Option Nat → Option Nat → Option Nat → Option Nat → Int32 → fSt → Option (Int32 × fSt)} (hk28 : ∀ (a1 : Option Nat) (a2 : Option Nat) (a3 : Option Nat) (a4 : Option Nat) (a5 : Int32) (h : fSt), k28 a1 a2 a3 a4 a5 h = some r → ∀ (H : Heap) (locs : List Loc) (cells slots : Nat) (ls : Array Slot), fCur D cA s h0 h H locs → lv_has ls 9 [(0, .ref b), (1, va_rf a1), (2, va_rf a2), (3, va_rf a3), (4, va_rf a4), (5, .int a5)] → W p l e R s m args below meth c H locs cells slots Q (F0 m 28 ls [])) (a1 : Option Nat) (a2 : Option Nat) (a3 : Option Nat) (a4 : Option Nat) (a5 : Int32) (h : fSt) (hf : f_L_law_L792 L xs k28 a1 a2 a3 a4 a5 h = some r) : ∀ (H : Heap) (locs : List Loc) (cells slots : Nat) (ls : Array Slot), fCur D cA s h0 h H locs → lv_has ls 9 [(0, .ref b), (1, va_rf a1), (2, va_rf a2), (3, va_rf a3), (4, va_rf a4), (5, .int a5)] → W p l e R s m args below meth c H locs cells slots Q (F0 m 792 ls []) := by
  obtain ⟨hx, hb, hml, hr, hlocks, hts, hown, K, hR⟩ := id M
  intro H locs cells slots ls hC hl
  refine fr_aload_n hx hb dL_law_792 rfl (lv_at hl 1 rfl) ?_
  refine lv_aload_n hx hb dL_law_793 rfl (lv_at hl 0 rfl) ?_
  refine lv_iload hx hb dL_law_794 (lv_at hl 5 rfl) ?_
  refine lv_iconst (v := (1 : Int32)) hx hb dL_law_796 (by decide) ?_
  refine lv_iadd hx hb dL_law_797 ?_
  by_cases c172 : (a5 + (1 : Int32)) < 0 ∨ L ≤ ((a5 + (1 : Int32))).toNatClampNeg
  · exact nomatch (opos c172 hf)
  replace hf := oneg c172 hf
  refine va_sld hx hb X.1 X.2.1 X.2.2 hC.2.2.2.2.2.1 c172 dL_law_798 ?_
  refine lv_aload_n hx hb dL_law_799 rfl (lv_at hl 0 rfl) ?_
  refine lv_iload hx hb dL_law_800 (lv_at hl 5 rfl) ?_
  refine lv_iconst (v := (2 : Int32)) hx hb dL_law_802 (by decide) ?_
  refine lv_iadd hx hb dL_law_803 ?_
  by_cases c173 : (a5 + (2 : Int32)) < 0 ∨ L ≤ ((a5 + (2 : Int32))).toNatClampNeg
  · exact nomatch (opos c173 hf)
  replace hf := oneg c173 hf
  refine va_sld hx hb X.1 X.2.1 X.2.2 hC.2.2.2.2.2.1 c173 dL_law_804 ?_
  refine lv_aload_n hx hb dL_law_805 rfl (lv_at hl 0 rfl) ?_
  refine lv_iload hx hb dL_law_806 (lv_at hl 5 rfl) ?_
  refine lv_iconst (v := (3 : Int32)) hx hb dL_law_808 (by decide) ?_
  refine lv_iadd hx hb dL_law_809 ?_
  by_cases c174 : (a5 + (3 : Int32)) < 0 ∨ L ≤ ((a5 + (3 : Int32))).toNatClampNeg
  · exact nomatch (opos c174 hf)
  replace hf := oneg c174 hf
  refine va_sld hx hb X.1 X.2.1 X.2.2 hC.2.2.2.2.2.1 c174 dL_law_810 ?_
  refine lv_aload_n hx hb dL_law_811 rfl (lv_at hl 0 rfl) ?_
  refine lv_iload hx hb dL_law_812 (lv_at hl 5 rfl) ?_
  refine lv_iconst (v := (4 : Int32)) hx hb dL_law_814 (by decide) ?_
  refine lv_iadd hx hb dL_law_815 ?_
  by_cases c175 : (a5 + (4 : Int32)) < 0 ∨ L ≤ ((a5 + (4 : Int32))).toNatClampNeg
  · exact nomatch (opos c175 hf)
  replace hf := oneg c175 hf
  refine va_sld hx hb X.1 X.2.1 X.2.2 hC.2.2.2.2.2.1 c175 dL_law_816 ?_
  refine lv_aload_n hx hb dL_law_817 rfl (lv_at hl 0 rfl) ?_
  refine lv_iload hx hb dL_law_818 (lv_at hl 5 rfl) ?_
  refine lv_iconst (v := (5 : Int32)) hx hb dL_law_820 (by decide) ?_
  refine lv_iadd hx hb dL_law_821 ?_
  by_cases c176 : (a5 + (5 : Int32)) < 0 ∨ L ≤ ((a5 + (5 : Int32))).toNatClampNeg
  · exact nomatch (opos c176 hf)
  replace hf := oneg c176 hf
  refine va_sld hx hb X.1 X.2.1 X.2.2 hC.2.2.2.2.2.1 c176 dL_law_822 ?_
  refine fr_aload_n hx hb dL_law_823 rfl (lv_at hl 3 rfl) ?_
  obtain ⟨⟨v179 | k180, h181⟩, g178, hf⟩ := obind hf
  rotate_left
  · exact nomatch (show (none : Option (Int32 × fSt)) = some _ from hf)
  replace hf := fci hf
  refine fr_callSH hx hb hml hts hown K hC hR (c_L_cut hfl D cA g178) 7 kw717 kw715 kw716 kw54 (by decide +kernel) ⟨by omega, by omega⟩ rfl hl.1 (cat8 _ (by exact Nat.le_of_ble_eq_true rfl)) dL_law_824 rfl (fun H locs _ _ hC => ?_)
  refine lv_istore (lv' := [(6, .int v179), (0, .ref b), (1, va_rf a1), (2, va_rf a2), (3, va_rf a3), (4, va_rf a4), (5, .int a5)]) hx hb dL_law_827 hl (by decide) (congrArg (List.cons _) (flk rfl (flk rfl (flk rfl (flk rfl (flk rfl (flk rfl fln))))))) (fun ls hl => ?_)
  refine fr_aload_n hx hb dL_law_829 rfl (lv_at hl 3 rfl) ?_
  refine lv_aload_n hx hb dL_law_830 rfl (lv_at hl 1 rfl) ?_
  refine lv_iload hx hb dL_law_831 (lv_at hl 6 rfl) ?_
  refine lv_iconst (v := (1 : Int32)) hx hb dL_law_833 (by decide) ?_
  refine lv_iadd hx hb dL_law_834 ?_
  by_cases c182 : (a5 + (1 : Int32)) < 0 ∨ L ≤ ((a5 + (1 : Int32))).toNatClampNeg
  · exact nomatch (opos c182 hf)
  replace hf := oneg c182 hf
  refine va_sld hx hb X.1 X.2.1 X.2.2 hC.2.2.2.2.2.1 c182 dL_law_835 ?_
  refine lv_aload_n hx hb dL_law_836 rfl (lv_at hl 1 rfl) ?_
  refine lv_iload hx hb dL_law_837 (lv_at hl 6 rfl) ?_
  refine lv_iconst (v := (2 : Int32)) hx hb dL_law_839 (by decide) ?_
  refine lv_iadd hx hb dL_law_840 ?_
  by_cases c183 : (a5 + (2 : Int32)) < 0 ∨ L ≤ ((a5 + (2 : Int32))).toNatClampNeg
  · exact nomatch (opos c183 hf)
  replace hf := oneg c183 hf
  refine va_sld hx hb X.1 X.2.1 X.2.2 hC.2.2.2.2.2.1 c183 dL_law_841 ?_
  refine lv_aload_n hx hb dL_law_842 rfl (lv_at hl 1 rfl) ?_
  refine lv_iload hx hb dL_law_843 (lv_at hl 6 rfl) ?_
  refine lv_iconst (v := (3 : Int32)) hx hb dL_law_845 (by decide) ?_
  refine lv_iadd hx hb dL_law_846 ?_
  by_cases c184 : (a5 + (3 : Int32)) < 0 ∨ L ≤ ((a5 + (3 : Int32))).toNatClampNeg
  · exact nomatch (opos c184 hf)
  replace hf := oneg c184 hf
  refine va_sld hx hb X.1 X.2.1 X.2.2 hC.2.2.2.2.2.1 c184 dL_law_847 ?_
  refine lv_aload_n hx hb dL_law_848 rfl (lv_at hl 1 rfl) ?_
  refine lv_iload hx hb dL_law_849 (lv_at hl 6 rfl) ?_
  refine lv_iconst (v := (4 : Int32)) hx hb dL_law_851 (by decide) ?_
  refine lv_iadd hx hb dL_law_852 ?_
  by_cases c185 : (a5 + (4 : Int32)) < 0 ∨ L ≤ ((a5 + (4 : Int32))).toNatClampNeg
  · exact nomatch (opos c185 hf)
  replace hf := oneg c185 hf
  refine va_sld hx hb X.1 X.2.1 X.2.2 hC.2.2.2.2.2.1 c185 dL_law_853 ?_
  refine lv_aload_n hx hb dL_law_854 rfl (lv_at hl 1 rfl) ?_
  refine lv_iload hx hb dL_law_855 (lv_at hl 6 rfl) ?_
  refine lv_iconst (v := (5 : Int32)) hx hb dL_law_857 (by decide) ?_
  refine lv_iadd hx hb dL_law_858 ?_
  by_cases c186 : (a5 + (5 : Int32)) < 0 ∨ L ≤ ((a5 + (5 : Int32))).toNatClampNeg
  · exact nomatch (opos c186 hf)
  replace hf := oneg c186 hf
  refine va_sld hx hb X.1 X.2.1 X.2.2 hC.2.2.2.2.2.1 c186 dL_law_859 ?_
  obtain ⟨b189, q190, hf⟩ := obind hf
  obtain ⟨r187, g188, hf⟩ := obind hf
  refine fr_callV hx hb hml hts hown K hC hR ct_8 (c_X8_cut hfl D cA g188) 5 q190 kw1115 kw1112 kw1113 kw1114 kw62 (by decide +kernel) ⟨by omega, by omega⟩ rfl hl.1 (cat8 _ (by exact Nat.le_of_ble_eq_true rfl)) dL_law_860 rfl (fun H locs _ _ hC => ?_)
  refine lv_istore (lv' := [(7, .int r187.1), (6, .int v179), (0, .ref b), (1, va_rf a1), (2, va_rf a2), (3, va_rf a3), (4, va_rf a4), (5, .int a5)]) hx hb dL_law_863 hl (by decide) (congrArg (List.cons _) (flk rfl (flk rfl (flk rfl (flk rfl (flk rfl (flk rfl (flk rfl fln)))))))) (fun ls hl => ?_)
  refine fr_aload_n hx hb dL_law_865 rfl (lv_at hl 4 rfl) ?_
  obtain ⟨b193, q194, hf⟩ := obind hf
  obtain ⟨r191, g192, hf⟩ := obind hf
  refine fr_callV hx hb hml hts hown K hC hR ct_8 (c_X8_thrown hfl D cA g192) 0 q194 kw1055 kw1052 kw1053 kw1054 kw62 (by decide +kernel) ⟨by omega, by omega⟩ rfl hl.1 (cat8 _ (by exact Nat.le_of_ble_eq_true rfl)) dL_law_866 rfl (fun H locs _ _ hC => ?_)
  refine lv_iload hx hb dL_law_869 (lv_at hl 1 rfl) ?_
  refine lv_icmp_eq (tgt := 876) hx hb dL_law_871 (by decide) (fun c195 => ?_) (fun c195 => ?_)
  · replace hf := opos c195 hf
    refine lv_iload hx hb dL_law_876 (lv_at hl 1 rfl) ?_
    refine lv_if_ne (tgt := 900) hx hb dL_law_878 (by decide) (fun c196 => ?_) (fun c196 => ?_)
    · replace hf := oneg c196 hf
      exact w_L_law_L900 M hfl hRf hRl X hend hk28 _ _ _ _ _ _ hf _ _ _ _ _ hC (lv_sub hl [2, 3, 4, 5, 6, 7] rfl)
    · replace hf := opos c196 hf
      refine fr_aload_n hx hb dL_law_881 rfl (lv_at hl 5 rfl) ?_
      refine lv_iconst (v := (0 : Int32)) hx hb dL_law_882 (by decide) ?_
      obtain ⟨x197, g198, hf⟩ := obind hf
      refine fr_lald hx hb K hC (t := 1) rfl g198 dL_law_883 ?_
      refine lv_iload hx hb dL_law_884 (lv_at hl 0 rfl) ?_
      refine lv_if_eq (tgt := 893) hx hb dL_law_886 (by decide) (fun c199 => ?_) (fun c199 => ?_)
      · replace hf := opos c199 hf
        refine lv_lconst (v := (0 : Int64)) hx hb dL_law_893 (by decide) ?_
        exact w_L_law_L894 M hfl hRf hRl X hend hk28 _ _ _ _ _ _ _ _ hf _ _ _ _ _ hC (lv_sub hl [2, 3, 4, 5, 6, 7] rfl)
      · replace hf := oneg c199 hf
        refine lv_lconst (v := (1 : Int64)) hx hb dL_law_889 (by decide) ?_
        refine lv_goto (tgt := 894) hx hb dL_law_890 (by decide) ?_
        exact w_L_law_L894 M hfl hRf hRl X hend hk28 _ _ _ _ _ _ _ _ hf _ _ _ _ _ hC (lv_sub hl [2, 3, 4, 5, 6, 7] rfl)
  · replace hf := oneg c195 hf
    refine lv_iconst (v := (0 : Int32)) hx hb dL_law_874 (by decide) ?_
    exact hend _ _ _ _ _ _ _ _ (Option.some.inj hf) hC dL_law_875
set_option maxHeartbeats 4000000 in
set_option maxRecDepth 100000 in
theorem w_L_law_L963 {p : Program} {l : Launch} {e : Env} {s : State} {m : MethodId} {args : Array Value} {below : List Frame} {meth : Method} {c : Code} {D : va_G} {cA : Nat → ClassId} {h0 : fSt} {r : (Int32 × fSt)} {Q : State → Prop} {R : Room} {b L : Nat} {xs : Nat → Int32} (M : fM p s m args meth c D cA h0 R cL_law 9 (some (.boolean)) RL) (hfl : l.stackTraces = false) (hRf : 35 ≤ R.frames) (hRl : 944 ≤ R.locals) (X : va_X b L xs s s.heap ∧ b < s.heap.size ∧ ¬ fA h0 b) (hend : ∀ (x : Int32) (h : fSt) (H : Heap) (locs : List Loc) (cells slots : Nat) (ls : Array Slot) (pc : Nat), (x, h) = r → fCur D cA s h0 h H locs → decode code pc = .ok (.ireturn, 1) → W p l e R s m args below meth c H locs cells slots Q (F0 m pc ls [.int x])) {k28 : Option Nat → Option Nat → Option Nat → Option Nat → Int32 → fSt → Option (Int32 × fSt)} (hk28 : ∀ (a1 : Option Nat) (a2 : Option Nat) (a3 : Option Nat) (a4 : Option Nat) (a5 : Int32) (h : fSt), k28 a1 a2 a3 a4 a5 h = some r → ∀ (H : Heap) (locs : List Loc) (cells slots : Nat) (ls : Array Slot), fCur D cA s h0 h H locs → lv_has ls 9 [(0, .ref b), (1, va_rf a1), (2, va_rf a2), (3, va_rf a3), (4, va_rf a4), (5, .int a5)] → W p l e R s m args below meth c H locs cells slots Q (F0 m 28 ls [])) (a1 : Option Nat) (a2 : Option Nat) (a3 : Option Nat) (a4 : Option Nat) (a5 : Int32) (h : fSt) (hf : f_L_law_L963 L xs k28 a1 a2 a3 a4 a5 h = some r) : ∀ (H : Heap) (locs : List Loc) (cells slots : Nat) (ls : Array Slot), fCur D cA s h0 h H locs → lv_has ls 9 [(0, .ref b), (1, va_rf a1), (2, va_rf a2), (3, va_rf a3), (4, va_rf a4), (5, .int a5)] → W p l e R s m args below meth c H locs cells slots Q (F0 m 963 ls []) := by
  obtain ⟨hx, hb, hml, hr, hlocks, hts, hown, K, hR⟩ := id M
  intro H locs cells slots ls hC hl
  refine lv_goto (tgt := 2859) hx hb dL_law_963 (by decide) ?_
  exact w_L_law_L2859 M hfl hRf hRl X hend hk28 _ _ _ _ _ _ hf _ _ _ _ _ hC (lv_sub hl [0, 1, 2, 3, 4, 5] rfl)
set_option maxHeartbeats 4000000 in
set_option maxRecDepth 100000 in
theorem w_L_law_L957 {p : Program} {l : Launch} {e : Env} {s : State} {m : MethodId} {args : Array Value} {below : List Frame} {meth : Method} {c : Code} {D : va_G} {cA : Nat → ClassId} {h0 : fSt} {r : (Int32 × fSt)} {Q : State → Prop} {R : Room} {b L : Nat} {xs : Nat → Int32} (M : fM p s m args meth c D cA h0 R cL_law 9 (some (.boolean)) RL) (hfl : l.stackTraces = false) (hRf : 35 ≤ R.frames) (hRl : 944 ≤ R.locals) (X : va_X b L xs s s.heap ∧ b < s.heap.size ∧ ¬ fA h0 b) (hend : ∀ (x : Int32) (h : fSt) (H : Heap) (locs : List Loc) (cells slots : Nat) (ls : Array Slot) (pc : Nat), (x, h) = r → fCur D cA s h0 h H locs → decode code pc = .ok (.ireturn, 1) → W p l e R s m args below meth c H locs cells slots Q (F0 m pc ls [.int x])) {k28 : Option Nat → Option Nat → Option Nat → Option Nat → Int32 → fSt → Option (Int32 × fSt)} (hk28 : ∀ (a1 : Option Nat) (a2 : Option Nat) (a3 : Option Nat) (a4 : Option Nat) (a5 : Int32) (h : fSt), k28 a1 a2 a3 a4 a5 h = some r → ∀ (H : Heap) (locs : List Loc) (cells slots : Nat) (ls : Array Slot), fCur D cA s h0 h H locs → lv_has ls 9 [(0, .ref b), (1, va_rf a1), (2, va_rf a2), (3, va_rf a3), (4, va_rf a4), (5, .int a5)] → W p l e R s m args below meth c H locs cells slots Q (F0 m 28 ls [])) (a1 : Option Nat) (a2 : Option Nat) (a3 : Option Nat) (a4 : Option Nat) (a5 : Int32) (s1 : Int64) (s0 : Int64) (h : fSt) (hf : f_L_law_L957 L xs k28 a1 a2 a3 a4 a5 s1 s0 h = some r) : ∀ (H : Heap) (locs : List Loc) (cells slots : Nat) (ls : Array Slot), fCur D cA s h0 h H locs → lv_has ls 9 [(0, .ref b), (1, va_rf a1), (2, va_rf a2), (3, va_rf a3), (4, va_rf a4), (5, .int a5)] → W p l e R s m args below meth c H locs cells slots Q (F0 m 957 ls [.long s1, .long s0]) := by
  obtain ⟨hx, hb, hml, hr, hlocks, hts, hown, K, hR⟩ := id M
  intro H locs cells slots ls hC hl
  refine fr_lcmp_eq (tgt := 963) hx hb dL_law_957 dL_law_958 (by decide) (fun c200 => ?_) (fun c200 => ?_)
  · replace hf := opos c200 hf
    exact w_L_law_L963 M hfl hRf hRl X hend hk28 _ _ _ _ _ _ hf _ _ _ _ _ hC (lv_sub hl [0, 1, 2, 3, 4, 5] rfl)
  · replace hf := oneg c200 hf
    refine lv_iconst (v := (0 : Int32)) hx hb dL_law_961 (by decide) ?_
    exact hend _ _ _ _ _ _ _ _ (Option.some.inj hf) hC dL_law_962
set_option maxHeartbeats 4000000 in
set_option maxRecDepth 100000 in
theorem w_L_law_L903 {p : Program} {l : Launch} {e : Env} {s : State} {m : MethodId} {args : Array Value} {below : List Frame} {meth : Method} {c : Code} {D : va_G} {cA : Nat → ClassId} {h0 : fSt} {r : (Int32 × fSt)} {Q : State → Prop} {R : Room} {b L : Nat} {xs : Nat → Int32} (M : fM p s m args meth c D cA h0 R cL_law 9 (some (.boolean)) RL) (hfl : l.stackTraces = false) (hRf : 35 ≤ R.frames) (hRl : 944 ≤ R.locals) (X : va_X b L xs s s.heap ∧ b < s.heap.size ∧ ¬ fA h0 b) (hend : ∀ (x : Int32) (h : fSt) (H : Heap) (locs : List Loc) (cells slots : Nat) (ls : Array Slot) (pc : Nat), (x, h) = r → fCur D cA s h0 h H locs → decode code pc = .ok (.ireturn, 1) → W p l e R s m args below meth c H locs cells slots Q (F0 m pc ls [.int x])) {k28 : Option Nat → Option Nat → Option Nat → Option Nat → Int32 → fSt → Option (Int32 × fSt)} (hk28 : ∀ (a1 : Option Nat) (a2 : Option Nat) (a3 : Option Nat) (a4 : Option Nat) (a5 : Int32) (h : fSt), k28 a1 a2 a3 a4 a5 h = some r → ∀ (H : Heap) (locs : List Loc) (cells slots : Nat) (ls : Array Slot), fCur D cA s h0 h H locs → lv_has ls 9 [(0, .ref b), (1, va_rf a1), (2, va_rf a2), (3, va_rf a3), (4, va_rf a4), (5, .int a5)] → W p l e R s m args below meth c H locs cells slots Q (F0 m 28 ls [])) (a1 : Option Nat) (a2 : Option Nat) (a3 : Option Nat) (a4 : Option Nat) (a5 : Int32) (h : fSt) (hf : f_L_law_L903 L xs k28 a1 a2 a3 a4 a5 h = some r) : ∀ (H : Heap) (locs : List Loc) (cells slots : Nat) (ls : Array Slot), fCur D cA s h0 h H locs → lv_has ls 9 [(0, .ref b), (1, va_rf a1), (2, va_rf a2), (3, va_rf a3), (4, va_rf a4), (5, .int a5)] → W p l e R s m args below meth c H locs cells slots Q (F0 m 903 ls []) := by
  obtain ⟨hx, hb, hml, hr, hlocks, hts, hown, K, hR⟩ := id M
  intro H locs cells slots ls hC hl
  refine fr_aload_n hx hb dL_law_903 rfl (lv_at hl 1 rfl) ?_
  refine lv_aload_n hx hb dL_law_904 rfl (lv_at hl 0 rfl) ?_
  refine lv_iload hx hb dL_law_905 (lv_at hl 5 rfl) ?_
  refine lv_iconst (v := (1 : Int32)) hx hb dL_law_907 (by decide) ?_
  refine lv_iadd hx hb dL_law_908 ?_
  by_cases c201 : (a5 + (1 : Int32)) < 0 ∨ L ≤ ((a5 + (1 : Int32))).toNatClampNeg
  · exact nomatch (opos c201 hf)
  replace hf := oneg c201 hf
  refine va_sld hx hb X.1 X.2.1 X.2.2 hC.2.2.2.2.2.1 c201 dL_law_909 ?_
  refine fr_aload_n hx hb dL_law_910 rfl (lv_at hl 3 rfl) ?_
  obtain ⟨⟨v204 | k205, h206⟩, g203, hf⟩ := obind hf
  rotate_left
  · exact nomatch (show (none : Option (Int32 × fSt)) = some _ from hf)
  replace hf := fci hf
  refine fr_callSH hx hb hml hts hown K hC hR (c_L_uncut hfl D cA g203) 3 kw728 kw726 kw727 kw54 (by decide +kernel) ⟨by omega, by omega⟩ rfl hl.1 (cat8 _ (by exact Nat.le_of_ble_eq_true rfl)) dL_law_911 rfl (fun H locs _ _ hC => ?_)
  refine lv_istore (lv' := [(6, .int v204), (0, .ref b), (1, va_rf a1), (2, va_rf a2), (3, va_rf a3), (4, va_rf a4), (5, .int a5)]) hx hb dL_law_914 hl (by decide) (congrArg (List.cons _) (flk rfl (flk rfl (flk rfl (flk rfl (flk rfl (flk rfl fln))))))) (fun ls hl => ?_)
  refine fr_aload_n hx hb dL_law_916 rfl (lv_at hl 3 rfl) ?_
  refine lv_aload_n hx hb dL_law_917 rfl (lv_at hl 1 rfl) ?_
  refine lv_iload hx hb dL_law_918 (lv_at hl 6 rfl) ?_
  refine lv_iconst (v := (1 : Int32)) hx hb dL_law_920 (by decide) ?_
  refine lv_iadd hx hb dL_law_921 ?_
  by_cases c207 : (a5 + (1 : Int32)) < 0 ∨ L ≤ ((a5 + (1 : Int32))).toNatClampNeg
  · exact nomatch (opos c207 hf)
  replace hf := oneg c207 hf
  refine va_sld hx hb X.1 X.2.1 X.2.2 hC.2.2.2.2.2.1 c207 dL_law_922 ?_
  obtain ⟨b210, q211, hf⟩ := obind hf
  obtain ⟨r208, g209, hf⟩ := obind hf
  refine fr_callV hx hb hml hts hown K hC hR ct_8 (c_X8_uncut hfl D cA g209) 1 q211 kw1122 kw1119 kw1120 kw1121 kw62 (by decide +kernel) ⟨by omega, by omega⟩ rfl hl.1 (cat8 _ (by exact Nat.le_of_ble_eq_true rfl)) dL_law_923 rfl (fun H locs _ _ hC => ?_)
  refine lv_istore (lv' := [(7, .int r208.1), (6, .int v204), (0, .ref b), (1, va_rf a1), (2, va_rf a2), (3, va_rf a3), (4, va_rf a4), (5, .int a5)]) hx hb dL_law_926 hl (by decide) (congrArg (List.cons _) (flk rfl (flk rfl (flk rfl (flk rfl (flk rfl (flk rfl (flk rfl fln)))))))) (fun ls hl => ?_)
  refine fr_aload_n hx hb dL_law_928 rfl (lv_at hl 4 rfl) ?_
  obtain ⟨b214, q215, hf⟩ := obind hf
  obtain ⟨r212, g213, hf⟩ := obind hf
  refine fr_callV hx hb hml hts hown K hC hR ct_8 (c_X8_thrown hfl D cA g213) 0 q215 kw1055 kw1052 kw1053 kw1054 kw62 (by decide +kernel) ⟨by omega, by omega⟩ rfl hl.1 (cat8 _ (by exact Nat.le_of_ble_eq_true rfl)) dL_law_929 rfl (fun H locs _ _ hC => ?_)
  refine lv_iload hx hb dL_law_932 (lv_at hl 1 rfl) ?_
  refine lv_icmp_eq (tgt := 939) hx hb dL_law_934 (by decide) (fun c216 => ?_) (fun c216 => ?_)
  · replace hf := opos c216 hf
    refine lv_iload hx hb dL_law_939 (lv_at hl 1 rfl) ?_
    refine lv_if_ne (tgt := 963) hx hb dL_law_941 (by decide) (fun c217 => ?_) (fun c217 => ?_)
    · replace hf := oneg c217 hf
      exact w_L_law_L963 M hfl hRf hRl X hend hk28 _ _ _ _ _ _ hf _ _ _ _ _ hC (lv_sub hl [2, 3, 4, 5, 6, 7] rfl)
    · replace hf := opos c217 hf
      refine fr_aload_n hx hb dL_law_944 rfl (lv_at hl 5 rfl) ?_
      refine lv_iconst (v := (0 : Int32)) hx hb dL_law_945 (by decide) ?_
      obtain ⟨x218, g219, hf⟩ := obind hf
      refine fr_lald hx hb K hC (t := 1) rfl g219 dL_law_946 ?_
      refine lv_iload hx hb dL_law_947 (lv_at hl 0 rfl) ?_
      refine lv_if_eq (tgt := 956) hx hb dL_law_949 (by decide) (fun c220 => ?_) (fun c220 => ?_)
      · replace hf := opos c220 hf
        refine lv_lconst (v := (0 : Int64)) hx hb dL_law_956 (by decide) ?_
        exact w_L_law_L957 M hfl hRf hRl X hend hk28 _ _ _ _ _ _ _ _ hf _ _ _ _ _ hC (lv_sub hl [2, 3, 4, 5, 6, 7] rfl)
      · replace hf := oneg c220 hf
        refine lv_lconst (v := (1 : Int64)) hx hb dL_law_952 (by decide) ?_
        refine lv_goto (tgt := 957) hx hb dL_law_953 (by decide) ?_
        exact w_L_law_L957 M hfl hRf hRl X hend hk28 _ _ _ _ _ _ _ _ hf _ _ _ _ _ hC (lv_sub hl [2, 3, 4, 5, 6, 7] rfl)
  · replace hf := oneg c216 hf
    refine lv_iconst (v := (0 : Int32)) hx hb dL_law_937 (by decide) ?_
    exact hend _ _ _ _ _ _ _ _ (Option.some.inj hf) hC dL_law_938
set_option maxHeartbeats 4000000 in
set_option maxRecDepth 100000 in
theorem w_L_law_L966 {p : Program} {l : Launch} {e : Env} {s : State} {m : MethodId} {args : Array Value} {below : List Frame} {meth : Method} {c : Code} {D : va_G} {cA : Nat → ClassId} {h0 : fSt} {r : (Int32 × fSt)} {Q : State → Prop} {R : Room} {b L : Nat} {xs : Nat → Int32} (M : fM p s m args meth c D cA h0 R cL_law 9 (some (.boolean)) RL) (hfl : l.stackTraces = false) (hRf : 35 ≤ R.frames) (hRl : 944 ≤ R.locals) (X : va_X b L xs s s.heap ∧ b < s.heap.size ∧ ¬ fA h0 b) (hend : ∀ (x : Int32) (h : fSt) (H : Heap) (locs : List Loc) (cells slots : Nat) (ls : Array Slot) (pc : Nat), (x, h) = r → fCur D cA s h0 h H locs → decode code pc = .ok (.ireturn, 1) → W p l e R s m args below meth c H locs cells slots Q (F0 m pc ls [.int x])) {k28 : Option Nat → Option Nat → Option Nat → Option Nat → Int32 → fSt → Option (Int32 × fSt)} (hk28 : ∀ (a1 : Option Nat) (a2 : Option Nat) (a3 : Option Nat) (a4 : Option Nat) (a5 : Int32) (h : fSt), k28 a1 a2 a3 a4 a5 h = some r → ∀ (H : Heap) (locs : List Loc) (cells slots : Nat) (ls : Array Slot), fCur D cA s h0 h H locs → lv_has ls 9 [(0, .ref b), (1, va_rf a1), (2, va_rf a2), (3, va_rf a3), (4, va_rf a4), (5, .int a5)] → W p l e R s m args below meth c H locs cells slots Q (F0 m 28 ls [])) (a1 : Option Nat) (a2 : Option Nat) (a3 : Option Nat) (a4 : Option Nat) (a5 : Int32) (h : fSt) (hf : f_L_law_L966 L xs k28 a1 a2 a3 a4 a5 h = some r) : ∀ (H : Heap) (locs : List Loc) (cells slots : Nat) (ls : Array Slot), fCur D cA s h0 h H locs → lv_has ls 9 [(0, .ref b), (1, va_rf a1), (2, va_rf a2), (3, va_rf a3), (4, va_rf a4), (5, .int a5)] → W p l e R s m args below meth c H locs cells slots Q (F0 m 966 ls []) := by
  obtain ⟨hx, hb, hml, hr, hlocks, hts, hown, K, hR⟩ := id M
  intro H locs cells slots ls hC hl
  refine fr_aload_n hx hb dL_law_966 rfl (lv_at hl 1 rfl) ?_
  obtain ⟨b223, q224, hf⟩ := obind hf
  obtain ⟨r221, g222, hf⟩ := obind hf
  refine fr_callV hx hb hml hts hown K hC hR ct_7 (c_X7_added hfl D cA g222) 0 q224 kw324 kw321 kw322 kw323 kw55 (by decide +kernel) ⟨by omega, by omega⟩ rfl hl.1 (cat8 _ (by exact Nat.le_of_ble_eq_true rfl)) dL_law_967 rfl (fun H locs _ _ hC => ?_)
  refine fr_aload_n hx hb dL_law_970 rfl (lv_at hl 2 rfl) ?_
  obtain ⟨b227, q228, hf⟩ := obind hf
  obtain ⟨r225, g226, hf⟩ := obind hf
  refine fr_callV hx hb hml hts hown K hC hR ct_8 (c_X8_added hfl D cA g226) 0 q228 kw1130 kw1127 kw1128 kw1129 kw62 (by decide +kernel) ⟨by omega, by omega⟩ rfl hl.1 (cat8 _ (by exact Nat.le_of_ble_eq_true rfl)) dL_law_971 rfl (fun H locs _ _ hC => ?_)
  refine lv_icmp_eq (tgt := 2859) hx hb dL_law_974 (by decide) (fun c229 => ?_) (fun c229 => ?_)
  · replace hf := opos c229 hf
    exact w_L_law_L2859 M hfl hRf hRl X hend hk28 _ _ _ _ _ _ hf _ _ _ _ _ hC (lv_sub hl [0, 1, 2, 3, 4, 5] rfl)
  · replace hf := oneg c229 hf
    refine lv_iconst (v := (0 : Int32)) hx hb dL_law_977 (by decide) ?_
    exact hend _ _ _ _ _ _ _ _ (Option.some.inj hf) hC dL_law_978
set_option maxHeartbeats 4000000 in
set_option maxRecDepth 100000 in
theorem w_L_law_L979 {p : Program} {l : Launch} {e : Env} {s : State} {m : MethodId} {args : Array Value} {below : List Frame} {meth : Method} {c : Code} {D : va_G} {cA : Nat → ClassId} {h0 : fSt} {r : (Int32 × fSt)} {Q : State → Prop} {R : Room} {b L : Nat} {xs : Nat → Int32} (M : fM p s m args meth c D cA h0 R cL_law 9 (some (.boolean)) RL) (hfl : l.stackTraces = false) (hRf : 35 ≤ R.frames) (hRl : 944 ≤ R.locals) (X : va_X b L xs s s.heap ∧ b < s.heap.size ∧ ¬ fA h0 b) (hend : ∀ (x : Int32) (h : fSt) (H : Heap) (locs : List Loc) (cells slots : Nat) (ls : Array Slot) (pc : Nat), (x, h) = r → fCur D cA s h0 h H locs → decode code pc = .ok (.ireturn, 1) → W p l e R s m args below meth c H locs cells slots Q (F0 m pc ls [.int x])) {k28 : Option Nat → Option Nat → Option Nat → Option Nat → Int32 → fSt → Option (Int32 × fSt)} (hk28 : ∀ (a1 : Option Nat) (a2 : Option Nat) (a3 : Option Nat) (a4 : Option Nat) (a5 : Int32) (h : fSt), k28 a1 a2 a3 a4 a5 h = some r → ∀ (H : Heap) (locs : List Loc) (cells slots : Nat) (ls : Array Slot), fCur D cA s h0 h H locs → lv_has ls 9 [(0, .ref b), (1, va_rf a1), (2, va_rf a2), (3, va_rf a3), (4, va_rf a4), (5, .int a5)] → W p l e R s m args below meth c H locs cells slots Q (F0 m 28 ls [])) (a1 : Option Nat) (a2 : Option Nat) (a3 : Option Nat) (a4 : Option Nat) (a5 : Int32) (h : fSt) (hf : f_L_law_L979 L xs k28 a1 a2 a3 a4 a5 h = some r) : ∀ (H : Heap) (locs : List Loc) (cells slots : Nat) (ls : Array Slot), fCur D cA s h0 h H locs → lv_has ls 9 [(0, .ref b), (1, va_rf a1), (2, va_rf a2), (3, va_rf a3), (4, va_rf a4), (5, .int a5)] → W p l e R s m args below meth c H locs cells slots Q (F0 m 979 ls []) := by
  obtain ⟨hx, hb, hml, hr, hlocks, hts, hown, K, hR⟩ := id M
  intro H locs cells slots ls hC hl
  refine fr_aload_n hx hb dL_law_979 rfl (lv_at hl 1 rfl) ?_
  obtain ⟨b232, q233, hf⟩ := obind hf
  obtain ⟨r230, g231, hf⟩ := obind hf
  refine fr_callV hx hb hml hts hown K hC hR ct_7 (c_X7_nodes hfl D cA g231) 0 q233 kw328 kw325 kw326 kw327 kw55 (by decide +kernel) ⟨by omega, by omega⟩ rfl hl.1 (cat8 _ (by exact Nat.le_of_ble_eq_true rfl)) dL_law_980 rfl (fun H locs _ _ hC => ?_)
  refine fr_aload_n hx hb dL_law_983 rfl (lv_at hl 2 rfl) ?_
  obtain ⟨b236, q237, hf⟩ := obind hf
  obtain ⟨r234, g235, hf⟩ := obind hf
  refine fr_callV hx hb hml hts hown K hC hR ct_8 (c_X8_nodes hfl D cA g235) 0 q237 kw1138 kw1135 kw1136 kw1137 kw62 (by decide +kernel) ⟨by omega, by omega⟩ rfl hl.1 (cat8 _ (by exact Nat.le_of_ble_eq_true rfl)) dL_law_984 rfl (fun H locs _ _ hC => ?_)
  refine lv_icmp_eq (tgt := 2859) hx hb dL_law_987 (by decide) (fun c238 => ?_) (fun c238 => ?_)
  · replace hf := opos c238 hf
    exact w_L_law_L2859 M hfl hRf hRl X hend hk28 _ _ _ _ _ _ hf _ _ _ _ _ hC (lv_sub hl [0, 1, 2, 3, 4, 5] rfl)
  · replace hf := oneg c238 hf
    refine lv_iconst (v := (0 : Int32)) hx hb dL_law_990 (by decide) ?_
    exact hend _ _ _ _ _ _ _ _ (Option.some.inj hf) hC dL_law_991
set_option maxHeartbeats 4000000 in
set_option maxRecDepth 100000 in
theorem w_L_law_L1045 {p : Program} {l : Launch} {e : Env} {s : State} {m : MethodId} {args : Array Value} {below : List Frame} {meth : Method} {c : Code} {D : va_G} {cA : Nat → ClassId} {h0 : fSt} {r : (Int32 × fSt)} {Q : State → Prop} {R : Room} {b L : Nat} {xs : Nat → Int32} (M : fM p s m args meth c D cA h0 R cL_law 9 (some (.boolean)) RL) (hfl : l.stackTraces = false) (hRf : 35 ≤ R.frames) (hRl : 944 ≤ R.locals) (X : va_X b L xs s s.heap ∧ b < s.heap.size ∧ ¬ fA h0 b) (hend : ∀ (x : Int32) (h : fSt) (H : Heap) (locs : List Loc) (cells slots : Nat) (ls : Array Slot) (pc : Nat), (x, h) = r → fCur D cA s h0 h H locs → decode code pc = .ok (.ireturn, 1) → W p l e R s m args below meth c H locs cells slots Q (F0 m pc ls [.int x])) {k28 : Option Nat → Option Nat → Option Nat → Option Nat → Int32 → fSt → Option (Int32 × fSt)} (hk28 : ∀ (a1 : Option Nat) (a2 : Option Nat) (a3 : Option Nat) (a4 : Option Nat) (a5 : Int32) (h : fSt), k28 a1 a2 a3 a4 a5 h = some r → ∀ (H : Heap) (locs : List Loc) (cells slots : Nat) (ls : Array Slot), fCur D cA s h0 h H locs → lv_has ls 9 [(0, .ref b), (1, va_rf a1), (2, va_rf a2), (3, va_rf a3), (4, va_rf a4), (5, .int a5)] → W p l e R s m args below meth c H locs cells slots Q (F0 m 28 ls [])) (a1 : Option Nat) (a2 : Option Nat) (a3 : Option Nat) (a4 : Option Nat) (a5 : Int32) (h : fSt) (hf : f_L_law_L1045 L xs k28 a1 a2 a3 a4 a5 h = some r) : ∀ (H : Heap) (locs : List Loc) (cells slots : Nat) (ls : Array Slot), fCur D cA s h0 h H locs → lv_has ls 9 [(0, .ref b), (1, va_rf a1), (2, va_rf a2), (3, va_rf a3), (4, va_rf a4), (5, .int a5)] → W p l e R s m args below meth c H locs cells slots Q (F0 m 1045 ls []) := by
  obtain ⟨hx, hb, hml, hr, hlocks, hts, hown, K, hR⟩ := id M
  intro H locs cells slots ls hC hl
  refine lv_goto (tgt := 2859) hx hb dL_law_1045 (by decide) ?_
  exact w_L_law_L2859 M hfl hRf hRl X hend hk28 _ _ _ _ _ _ hf _ _ _ _ _ hC (lv_sub hl [0, 1, 2, 3, 4, 5] rfl)
set_option maxHeartbeats 4000000 in
set_option maxRecDepth 100000 in
theorem w_L_law_L992 {p : Program} {l : Launch} {e : Env} {s : State} {m : MethodId} {args : Array Value} {below : List Frame} {meth : Method} {c : Code} {D : va_G} {cA : Nat → ClassId} {h0 : fSt} {r : (Int32 × fSt)} {Q : State → Prop} {R : Room} {b L : Nat} {xs : Nat → Int32} (M : fM p s m args meth c D cA h0 R cL_law 9 (some (.boolean)) RL) (hfl : l.stackTraces = false) (hRf : 35 ≤ R.frames) (hRl : 944 ≤ R.locals) (X : va_X b L xs s s.heap ∧ b < s.heap.size ∧ ¬ fA h0 b) (hend : ∀ (x : Int32) (h : fSt) (H : Heap) (locs : List Loc) (cells slots : Nat) (ls : Array Slot) (pc : Nat), (x, h) = r → fCur D cA s h0 h H locs → decode code pc = .ok (.ireturn, 1) → W p l e R s m args below meth c H locs cells slots Q (F0 m pc ls [.int x])) {k28 : Option Nat → Option Nat → Option Nat → Option Nat → Int32 → fSt → Option (Int32 × fSt)} (hk28 : ∀ (a1 : Option Nat) (a2 : Option Nat) (a3 : Option Nat) (a4 : Option Nat) (a5 : Int32) (h : fSt), k28 a1 a2 a3 a4 a5 h = some r → ∀ (H : Heap) (locs : List Loc) (cells slots : Nat) (ls : Array Slot), fCur D cA s h0 h H locs → lv_has ls 9 [(0, .ref b), (1, va_rf a1), (2, va_rf a2), (3, va_rf a3), (4, va_rf a4), (5, .int a5)] → W p l e R s m args below meth c H locs cells slots Q (F0 m 28 ls [])) (a1 : Option Nat) (a2 : Option Nat) (a3 : Option Nat) (a4 : Option Nat) (a5 : Int32) (h : fSt) (hf : f_L_law_L992 L xs k28 a1 a2 a3 a4 a5 h = some r) : ∀ (H : Heap) (locs : List Loc) (cells slots : Nat) (ls : Array Slot), fCur D cA s h0 h H locs → lv_has ls 9 [(0, .ref b), (1, va_rf a1), (2, va_rf a2), (3, va_rf a3), (4, va_rf a4), (5, .int a5)] → W p l e R s m args below meth c H locs cells slots Q (F0 m 992 ls []) := by
  obtain ⟨hx, hb, hml, hr, hlocks, hts, hown, K, hR⟩ := id M
  intro H locs cells slots ls hC hl
  refine fr_aload_n hx hb dL_law_992 rfl (lv_at hl 1 rfl) ?_
  refine lv_aload_n hx hb dL_law_993 rfl (lv_at hl 0 rfl) ?_
  refine lv_iload hx hb dL_law_994 (lv_at hl 5 rfl) ?_
  refine lv_iconst (v := (1 : Int32)) hx hb dL_law_996 (by decide) ?_
  refine lv_iadd hx hb dL_law_997 ?_
  by_cases c239 : (a5 + (1 : Int32)) < 0 ∨ L ≤ ((a5 + (1 : Int32))).toNatClampNeg
  · exact nomatch (opos c239 hf)
  replace hf := oneg c239 hf
  refine va_sld hx hb X.1 X.2.1 X.2.2 hC.2.2.2.2.2.1 c239 dL_law_998 ?_
  refine fr_aload_n hx hb dL_law_999 rfl (lv_at hl 3 rfl) ?_
  obtain ⟨⟨v242 | k243, h244⟩, g241, hf⟩ := obind hf
  rotate_left
  · exact nomatch (show (none : Option (Int32 × fSt)) = some _ from hf)
  replace hf := fci hf
  refine fr_callSH hx hb hml hts hown K hC hR (c_L_parent hfl D cA g241) 3 kw735 kw733 kw734 kw54 (by decide +kernel) ⟨by omega, by omega⟩ rfl hl.1 (cat8 _ (by exact Nat.le_of_ble_eq_true rfl)) dL_law_1000 rfl (fun H locs _ _ hC => ?_)
  refine lv_istore (lv' := [(6, .int v242), (0, .ref b), (1, va_rf a1), (2, va_rf a2), (3, va_rf a3), (4, va_rf a4), (5, .int a5)]) hx hb dL_law_1003 hl (by decide) (congrArg (List.cons _) (flk rfl (flk rfl (flk rfl (flk rfl (flk rfl (flk rfl fln))))))) (fun ls hl => ?_)
  refine fr_aload_n hx hb dL_law_1005 rfl (lv_at hl 3 rfl) ?_
  refine lv_aload_n hx hb dL_law_1006 rfl (lv_at hl 1 rfl) ?_
  refine lv_iload hx hb dL_law_1007 (lv_at hl 6 rfl) ?_
  refine lv_iconst (v := (1 : Int32)) hx hb dL_law_1009 (by decide) ?_
  refine lv_iadd hx hb dL_law_1010 ?_
  by_cases c245 : (a5 + (1 : Int32)) < 0 ∨ L ≤ ((a5 + (1 : Int32))).toNatClampNeg
  · exact nomatch (opos c245 hf)
  replace hf := oneg c245 hf
  refine va_sld hx hb X.1 X.2.1 X.2.2 hC.2.2.2.2.2.1 c245 dL_law_1011 ?_
  obtain ⟨b248, q249, hf⟩ := obind hf
  obtain ⟨r246, g247, hf⟩ := obind hf
  refine fr_callV hx hb hml hts hown K hC hR ct_8 (c_X8_parent hfl D cA g247) 1 q249 kw1146 kw1143 kw1144 kw1145 kw62 (by decide +kernel) ⟨by omega, by omega⟩ rfl hl.1 (cat8 _ (by exact Nat.le_of_ble_eq_true rfl)) dL_law_1012 rfl (fun H locs _ _ hC => ?_)
  refine lv_istore (lv' := [(7, .int r246.1), (6, .int v242), (0, .ref b), (1, va_rf a1), (2, va_rf a2), (3, va_rf a3), (4, va_rf a4), (5, .int a5)]) hx hb dL_law_1015 hl (by decide) (congrArg (List.cons _) (flk rfl (flk rfl (flk rfl (flk rfl (flk rfl (flk rfl (flk rfl fln)))))))) (fun ls hl => ?_)
  refine fr_aload_n hx hb dL_law_1017 rfl (lv_at hl 4 rfl) ?_
  obtain ⟨b252, q253, hf⟩ := obind hf
  obtain ⟨r250, g251, hf⟩ := obind hf
  refine fr_callV hx hb hml hts hown K hC hR ct_8 (c_X8_thrown hfl D cA g251) 0 q253 kw1055 kw1052 kw1053 kw1054 kw62 (by decide +kernel) ⟨by omega, by omega⟩ rfl hl.1 (cat8 _ (by exact Nat.le_of_ble_eq_true rfl)) dL_law_1018 rfl (fun H locs _ _ hC => ?_)
  refine lv_iload hx hb dL_law_1021 (lv_at hl 1 rfl) ?_
  refine lv_icmp_eq (tgt := 1028) hx hb dL_law_1023 (by decide) (fun c254 => ?_) (fun c254 => ?_)
  · replace hf := opos c254 hf
    refine lv_iload hx hb dL_law_1028 (lv_at hl 1 rfl) ?_
    refine lv_if_ne (tgt := 1045) hx hb dL_law_1030 (by decide) (fun c255 => ?_) (fun c255 => ?_)
    · replace hf := oneg c255 hf
      exact w_L_law_L1045 M hfl hRf hRl X hend hk28 _ _ _ _ _ _ hf _ _ _ _ _ hC (lv_sub hl [2, 3, 4, 5, 6, 7] rfl)
    · replace hf := opos c255 hf
      refine fr_aload_n hx hb dL_law_1033 rfl (lv_at hl 5 rfl) ?_
      refine lv_iconst (v := (0 : Int32)) hx hb dL_law_1034 (by decide) ?_
      obtain ⟨x256, g257, hf⟩ := obind hf
      refine fr_lald hx hb K hC (t := 1) rfl g257 dL_law_1035 ?_
      refine lv_iload hx hb dL_law_1036 (lv_at hl 0 rfl) ?_
      refine lv_i2l (v := (Int32.toInt64 r246.1)) hx hb dL_law_1038 rfl ?_
      refine fr_lcmp_eq (tgt := 1045) hx hb dL_law_1039 dL_law_1040 (by decide) (fun c258 => ?_) (fun c258 => ?_)
      · replace hf := opos c258 hf
        exact w_L_law_L1045 M hfl hRf hRl X hend hk28 _ _ _ _ _ _ hf _ _ _ _ _ hC (lv_sub hl [2, 3, 4, 5, 6, 7] rfl)
      · replace hf := oneg c258 hf
        refine lv_iconst (v := (0 : Int32)) hx hb dL_law_1043 (by decide) ?_
        exact hend _ _ _ _ _ _ _ _ (Option.some.inj hf) hC dL_law_1044
  · replace hf := oneg c254 hf
    refine lv_iconst (v := (0 : Int32)) hx hb dL_law_1026 (by decide) ?_
    exact hend _ _ _ _ _ _ _ _ (Option.some.inj hf) hC dL_law_1027
set_option maxHeartbeats 4000000 in
set_option maxRecDepth 100000 in
theorem w_L_law_L1101 {p : Program} {l : Launch} {e : Env} {s : State} {m : MethodId} {args : Array Value} {below : List Frame} {meth : Method} {c : Code} {D : va_G} {cA : Nat → ClassId} {h0 : fSt} {r : (Int32 × fSt)} {Q : State → Prop} {R : Room} {b L : Nat} {xs : Nat → Int32} (M : fM p s m args meth c D cA h0 R cL_law 9 (some (.boolean)) RL) (hfl : l.stackTraces = false) (hRf : 35 ≤ R.frames) (hRl : 944 ≤ R.locals) (X : va_X b L xs s s.heap ∧ b < s.heap.size ∧ ¬ fA h0 b) (hend : ∀ (x : Int32) (h : fSt) (H : Heap) (locs : List Loc) (cells slots : Nat) (ls : Array Slot) (pc : Nat), (x, h) = r → fCur D cA s h0 h H locs → decode code pc = .ok (.ireturn, 1) → W p l e R s m args below meth c H locs cells slots Q (F0 m pc ls [.int x])) {k28 : Option Nat → Option Nat → Option Nat → Option Nat → Int32 → fSt → Option (Int32 × fSt)} (hk28 : ∀ (a1 : Option Nat) (a2 : Option Nat) (a3 : Option Nat) (a4 : Option Nat) (a5 : Int32) (h : fSt), k28 a1 a2 a3 a4 a5 h = some r → ∀ (H : Heap) (locs : List Loc) (cells slots : Nat) (ls : Array Slot), fCur D cA s h0 h H locs → lv_has ls 9 [(0, .ref b), (1, va_rf a1), (2, va_rf a2), (3, va_rf a3), (4, va_rf a4), (5, .int a5)] → W p l e R s m args below meth c H locs cells slots Q (F0 m 28 ls [])) (a1 : Option Nat) (a2 : Option Nat) (a3 : Option Nat) (a4 : Option Nat) (a5 : Int32) (h : fSt) (hf : f_L_law_L1101 L xs k28 a1 a2 a3 a4 a5 h = some r) : ∀ (H : Heap) (locs : List Loc) (cells slots : Nat) (ls : Array Slot), fCur D cA s h0 h H locs → lv_has ls 9 [(0, .ref b), (1, va_rf a1), (2, va_rf a2), (3, va_rf a3), (4, va_rf a4), (5, .int a5)] → W p l e R s m args below meth c H locs cells slots Q (F0 m 1101 ls []) := by
  obtain ⟨hx, hb, hml, hr, hlocks, hts, hown, K, hR⟩ := id M
  intro H locs cells slots ls hC hl
  refine lv_goto (tgt := 2859) hx hb dL_law_1101 (by decide) ?_
  exact w_L_law_L2859 M hfl hRf hRl X hend hk28 _ _ _ _ _ _ hf _ _ _ _ _ hC (lv_sub hl [0, 1, 2, 3, 4, 5] rfl)
set_option maxHeartbeats 4000000 in
set_option maxRecDepth 100000 in
theorem w_L_law_L1048 {p : Program} {l : Launch} {e : Env} {s : State} {m : MethodId} {args : Array Value} {below : List Frame} {meth : Method} {c : Code} {D : va_G} {cA : Nat → ClassId} {h0 : fSt} {r : (Int32 × fSt)} {Q : State → Prop} {R : Room} {b L : Nat} {xs : Nat → Int32} (M : fM p s m args meth c D cA h0 R cL_law 9 (some (.boolean)) RL) (hfl : l.stackTraces = false) (hRf : 35 ≤ R.frames) (hRl : 944 ≤ R.locals) (X : va_X b L xs s s.heap ∧ b < s.heap.size ∧ ¬ fA h0 b) (hend : ∀ (x : Int32) (h : fSt) (H : Heap) (locs : List Loc) (cells slots : Nat) (ls : Array Slot) (pc : Nat), (x, h) = r → fCur D cA s h0 h H locs → decode code pc = .ok (.ireturn, 1) → W p l e R s m args below meth c H locs cells slots Q (F0 m pc ls [.int x])) {k28 : Option Nat → Option Nat → Option Nat → Option Nat → Int32 → fSt → Option (Int32 × fSt)} (hk28 : ∀ (a1 : Option Nat) (a2 : Option Nat) (a3 : Option Nat) (a4 : Option Nat) (a5 : Int32) (h : fSt), k28 a1 a2 a3 a4 a5 h = some r → ∀ (H : Heap) (locs : List Loc) (cells slots : Nat) (ls : Array Slot), fCur D cA s h0 h H locs → lv_has ls 9 [(0, .ref b), (1, va_rf a1), (2, va_rf a2), (3, va_rf a3), (4, va_rf a4), (5, .int a5)] → W p l e R s m args below meth c H locs cells slots Q (F0 m 28 ls [])) (a1 : Option Nat) (a2 : Option Nat) (a3 : Option Nat) (a4 : Option Nat) (a5 : Int32) (h : fSt) (hf : f_L_law_L1048 L xs k28 a1 a2 a3 a4 a5 h = some r) : ∀ (H : Heap) (locs : List Loc) (cells slots : Nat) (ls : Array Slot), fCur D cA s h0 h H locs → lv_has ls 9 [(0, .ref b), (1, va_rf a1), (2, va_rf a2), (3, va_rf a3), (4, va_rf a4), (5, .int a5)] → W p l e R s m args below meth c H locs cells slots Q (F0 m 1048 ls []) := by
  obtain ⟨hx, hb, hml, hr, hlocks, hts, hown, K, hR⟩ := id M
  intro H locs cells slots ls hC hl
  refine fr_aload_n hx hb dL_law_1048 rfl (lv_at hl 1 rfl) ?_
  refine lv_aload_n hx hb dL_law_1049 rfl (lv_at hl 0 rfl) ?_
  refine lv_iload hx hb dL_law_1050 (lv_at hl 5 rfl) ?_
  refine lv_iconst (v := (1 : Int32)) hx hb dL_law_1052 (by decide) ?_
  refine lv_iadd hx hb dL_law_1053 ?_
  by_cases c259 : (a5 + (1 : Int32)) < 0 ∨ L ≤ ((a5 + (1 : Int32))).toNatClampNeg
  · exact nomatch (opos c259 hf)
  replace hf := oneg c259 hf
  refine va_sld hx hb X.1 X.2.1 X.2.2 hC.2.2.2.2.2.1 c259 dL_law_1054 ?_
  refine fr_aload_n hx hb dL_law_1055 rfl (lv_at hl 3 rfl) ?_
  obtain ⟨⟨v262 | k263, h264⟩, g261, hf⟩ := obind hf
  rotate_left
  · exact nomatch (show (none : Option (Int32 × fSt)) = some _ from hf)
  replace hf := fci hf
  refine fr_callSH hx hb hml hts hown K hC hR (c_L_level hfl D cA g261) 3 kw742 kw740 kw741 kw54 (by decide +kernel) ⟨by omega, by omega⟩ rfl hl.1 (cat8 _ (by exact Nat.le_of_ble_eq_true rfl)) dL_law_1056 rfl (fun H locs _ _ hC => ?_)
  refine lv_istore (lv' := [(6, .int v262), (0, .ref b), (1, va_rf a1), (2, va_rf a2), (3, va_rf a3), (4, va_rf a4), (5, .int a5)]) hx hb dL_law_1059 hl (by decide) (congrArg (List.cons _) (flk rfl (flk rfl (flk rfl (flk rfl (flk rfl (flk rfl fln))))))) (fun ls hl => ?_)
  refine fr_aload_n hx hb dL_law_1061 rfl (lv_at hl 3 rfl) ?_
  refine lv_aload_n hx hb dL_law_1062 rfl (lv_at hl 1 rfl) ?_
  refine lv_iload hx hb dL_law_1063 (lv_at hl 6 rfl) ?_
  refine lv_iconst (v := (1 : Int32)) hx hb dL_law_1065 (by decide) ?_
  refine lv_iadd hx hb dL_law_1066 ?_
  by_cases c265 : (a5 + (1 : Int32)) < 0 ∨ L ≤ ((a5 + (1 : Int32))).toNatClampNeg
  · exact nomatch (opos c265 hf)
  replace hf := oneg c265 hf
  refine va_sld hx hb X.1 X.2.1 X.2.2 hC.2.2.2.2.2.1 c265 dL_law_1067 ?_
  obtain ⟨b268, q269, hf⟩ := obind hf
  obtain ⟨r266, g267, hf⟩ := obind hf
  refine fr_callV hx hb hml hts hown K hC hR ct_8 (c_X8_level hfl D cA g267) 1 q269 kw1150 kw1147 kw1148 kw1149 kw62 (by decide +kernel) ⟨by omega, by omega⟩ rfl hl.1 (cat8 _ (by exact Nat.le_of_ble_eq_true rfl)) dL_law_1068 rfl (fun H locs _ _ hC => ?_)
  refine lv_istore (lv' := [(7, .int r266.1), (6, .int v262), (0, .ref b), (1, va_rf a1), (2, va_rf a2), (3, va_rf a3), (4, va_rf a4), (5, .int a5)]) hx hb dL_law_1071 hl (by decide) (congrArg (List.cons _) (flk rfl (flk rfl (flk rfl (flk rfl (flk rfl (flk rfl (flk rfl fln)))))))) (fun ls hl => ?_)
  refine fr_aload_n hx hb dL_law_1073 rfl (lv_at hl 4 rfl) ?_
  obtain ⟨b272, q273, hf⟩ := obind hf
  obtain ⟨r270, g271, hf⟩ := obind hf
  refine fr_callV hx hb hml hts hown K hC hR ct_8 (c_X8_thrown hfl D cA g271) 0 q273 kw1055 kw1052 kw1053 kw1054 kw62 (by decide +kernel) ⟨by omega, by omega⟩ rfl hl.1 (cat8 _ (by exact Nat.le_of_ble_eq_true rfl)) dL_law_1074 rfl (fun H locs _ _ hC => ?_)
  refine lv_iload hx hb dL_law_1077 (lv_at hl 1 rfl) ?_
  refine lv_icmp_eq (tgt := 1084) hx hb dL_law_1079 (by decide) (fun c274 => ?_) (fun c274 => ?_)
  · replace hf := opos c274 hf
    refine lv_iload hx hb dL_law_1084 (lv_at hl 1 rfl) ?_
    refine lv_if_ne (tgt := 1101) hx hb dL_law_1086 (by decide) (fun c275 => ?_) (fun c275 => ?_)
    · replace hf := oneg c275 hf
      exact w_L_law_L1101 M hfl hRf hRl X hend hk28 _ _ _ _ _ _ hf _ _ _ _ _ hC (lv_sub hl [2, 3, 4, 5, 6, 7] rfl)
    · replace hf := opos c275 hf
      refine fr_aload_n hx hb dL_law_1089 rfl (lv_at hl 5 rfl) ?_
      refine lv_iconst (v := (0 : Int32)) hx hb dL_law_1090 (by decide) ?_
      obtain ⟨x276, g277, hf⟩ := obind hf
      refine fr_lald hx hb K hC (t := 1) rfl g277 dL_law_1091 ?_
      refine lv_iload hx hb dL_law_1092 (lv_at hl 0 rfl) ?_
      refine lv_i2l (v := (Int32.toInt64 r266.1)) hx hb dL_law_1094 rfl ?_
      refine fr_lcmp_eq (tgt := 1101) hx hb dL_law_1095 dL_law_1096 (by decide) (fun c278 => ?_) (fun c278 => ?_)
      · replace hf := opos c278 hf
        exact w_L_law_L1101 M hfl hRf hRl X hend hk28 _ _ _ _ _ _ hf _ _ _ _ _ hC (lv_sub hl [2, 3, 4, 5, 6, 7] rfl)
      · replace hf := oneg c278 hf
        refine lv_iconst (v := (0 : Int32)) hx hb dL_law_1099 (by decide) ?_
        exact hend _ _ _ _ _ _ _ _ (Option.some.inj hf) hC dL_law_1100
  · replace hf := oneg c274 hf
    refine lv_iconst (v := (0 : Int32)) hx hb dL_law_1082 (by decide) ?_
    exact hend _ _ _ _ _ _ _ _ (Option.some.inj hf) hC dL_law_1083
set_option maxHeartbeats 4000000 in
set_option maxRecDepth 100000 in
theorem w_L_law_L1169 {p : Program} {l : Launch} {e : Env} {s : State} {m : MethodId} {args : Array Value} {below : List Frame} {meth : Method} {c : Code} {D : va_G} {cA : Nat → ClassId} {h0 : fSt} {r : (Int32 × fSt)} {Q : State → Prop} {R : Room} {b L : Nat} {xs : Nat → Int32} (M : fM p s m args meth c D cA h0 R cL_law 9 (some (.boolean)) RL) (hfl : l.stackTraces = false) (hRf : 35 ≤ R.frames) (hRl : 944 ≤ R.locals) (X : va_X b L xs s s.heap ∧ b < s.heap.size ∧ ¬ fA h0 b) (hend : ∀ (x : Int32) (h : fSt) (H : Heap) (locs : List Loc) (cells slots : Nat) (ls : Array Slot) (pc : Nat), (x, h) = r → fCur D cA s h0 h H locs → decode code pc = .ok (.ireturn, 1) → W p l e R s m args below meth c H locs cells slots Q (F0 m pc ls [.int x])) {k28 : Option Nat → Option Nat → Option Nat → Option Nat → Int32 → fSt → Option (Int32 × fSt)} (hk28 : ∀ (a1 : Option Nat) (a2 : Option Nat) (a3 : Option Nat) (a4 : Option Nat) (a5 : Int32) (h : fSt), k28 a1 a2 a3 a4 a5 h = some r → ∀ (H : Heap) (locs : List Loc) (cells slots : Nat) (ls : Array Slot), fCur D cA s h0 h H locs → lv_has ls 9 [(0, .ref b), (1, va_rf a1), (2, va_rf a2), (3, va_rf a3), (4, va_rf a4), (5, .int a5)] → W p l e R s m args below meth c H locs cells slots Q (F0 m 28 ls [])) (a1 : Option Nat) (a2 : Option Nat) (a3 : Option Nat) (a4 : Option Nat) (a5 : Int32) (h : fSt) (hf : f_L_law_L1169 L xs k28 a1 a2 a3 a4 a5 h = some r) : ∀ (H : Heap) (locs : List Loc) (cells slots : Nat) (ls : Array Slot), fCur D cA s h0 h H locs → lv_has ls 9 [(0, .ref b), (1, va_rf a1), (2, va_rf a2), (3, va_rf a3), (4, va_rf a4), (5, .int a5)] → W p l e R s m args below meth c H locs cells slots Q (F0 m 1169 ls []) := by
  obtain ⟨hx, hb, hml, hr, hlocks, hts, hown, K, hR⟩ := id M
  intro H locs cells slots ls hC hl
  refine lv_goto (tgt := 2859) hx hb dL_law_1169 (by decide) ?_
  exact w_L_law_L2859 M hfl hRf hRl X hend hk28 _ _ _ _ _ _ hf _ _ _ _ _ hC (lv_sub hl [0, 1, 2, 3, 4, 5] rfl)
set_option maxHeartbeats 4000000 in
set_option maxRecDepth 100000 in
theorem w_L_law_L1104 {p : Program} {l : Launch} {e : Env} {s : State} {m : MethodId} {args : Array Value} {below : List Frame} {meth : Method} {c : Code} {D : va_G} {cA : Nat → ClassId} {h0 : fSt} {r : (Int32 × fSt)} {Q : State → Prop} {R : Room} {b L : Nat} {xs : Nat → Int32} (M : fM p s m args meth c D cA h0 R cL_law 9 (some (.boolean)) RL) (hfl : l.stackTraces = false) (hRf : 35 ≤ R.frames) (hRl : 944 ≤ R.locals) (X : va_X b L xs s s.heap ∧ b < s.heap.size ∧ ¬ fA h0 b) (hend : ∀ (x : Int32) (h : fSt) (H : Heap) (locs : List Loc) (cells slots : Nat) (ls : Array Slot) (pc : Nat), (x, h) = r → fCur D cA s h0 h H locs → decode code pc = .ok (.ireturn, 1) → W p l e R s m args below meth c H locs cells slots Q (F0 m pc ls [.int x])) {k28 : Option Nat → Option Nat → Option Nat → Option Nat → Int32 → fSt → Option (Int32 × fSt)} (hk28 : ∀ (a1 : Option Nat) (a2 : Option Nat) (a3 : Option Nat) (a4 : Option Nat) (a5 : Int32) (h : fSt), k28 a1 a2 a3 a4 a5 h = some r → ∀ (H : Heap) (locs : List Loc) (cells slots : Nat) (ls : Array Slot), fCur D cA s h0 h H locs → lv_has ls 9 [(0, .ref b), (1, va_rf a1), (2, va_rf a2), (3, va_rf a3), (4, va_rf a4), (5, .int a5)] → W p l e R s m args below meth c H locs cells slots Q (F0 m 28 ls [])) (a1 : Option Nat) (a2 : Option Nat) (a3 : Option Nat) (a4 : Option Nat) (a5 : Int32) (h : fSt) (hf : f_L_law_L1104 L xs k28 a1 a2 a3 a4 a5 h = some r) : ∀ (H : Heap) (locs : List Loc) (cells slots : Nat) (ls : Array Slot), fCur D cA s h0 h H locs → lv_has ls 9 [(0, .ref b), (1, va_rf a1), (2, va_rf a2), (3, va_rf a3), (4, va_rf a4), (5, .int a5)] → W p l e R s m args below meth c H locs cells slots Q (F0 m 1104 ls []) := by
  obtain ⟨hx, hb, hml, hr, hlocks, hts, hown, K, hR⟩ := id M
  intro H locs cells slots ls hC hl
  refine fr_aload_n hx hb dL_law_1104 rfl (lv_at hl 1 rfl) ?_
  refine lv_aload_n hx hb dL_law_1105 rfl (lv_at hl 0 rfl) ?_
  refine lv_iload hx hb dL_law_1106 (lv_at hl 5 rfl) ?_
  refine lv_iconst (v := (1 : Int32)) hx hb dL_law_1108 (by decide) ?_
  refine lv_iadd hx hb dL_law_1109 ?_
  by_cases c279 : (a5 + (1 : Int32)) < 0 ∨ L ≤ ((a5 + (1 : Int32))).toNatClampNeg
  · exact nomatch (opos c279 hf)
  replace hf := oneg c279 hf
  refine va_sld hx hb X.1 X.2.1 X.2.2 hC.2.2.2.2.2.1 c279 dL_law_1110 ?_
  refine lv_aload_n hx hb dL_law_1111 rfl (lv_at hl 0 rfl) ?_
  refine lv_iload hx hb dL_law_1112 (lv_at hl 5 rfl) ?_
  refine lv_iconst (v := (2 : Int32)) hx hb dL_law_1114 (by decide) ?_
  refine lv_iadd hx hb dL_law_1115 ?_
  by_cases c280 : (a5 + (2 : Int32)) < 0 ∨ L ≤ ((a5 + (2 : Int32))).toNatClampNeg
  · exact nomatch (opos c280 hf)
  replace hf := oneg c280 hf
  refine va_sld hx hb X.1 X.2.1 X.2.2 hC.2.2.2.2.2.1 c280 dL_law_1116 ?_
  refine fr_aload_n hx hb dL_law_1117 rfl (lv_at hl 3 rfl) ?_
  obtain ⟨⟨v283 | k284, h285⟩, g282, hf⟩ := obind hf
  rotate_left
  · exact nomatch (show (none : Option (Int32 × fSt)) = some _ from hf)
  replace hf := fci hf
  refine fr_callSH hx hb hml hts hown K hC hR (c_L_common hfl D cA g282) 4 kw749 kw747 kw748 kw54 (by decide +kernel) ⟨by omega, by omega⟩ rfl hl.1 (cat8 _ (by exact Nat.le_of_ble_eq_true rfl)) dL_law_1118 rfl (fun H locs _ _ hC => ?_)
  refine lv_istore (lv' := [(6, .int v283), (0, .ref b), (1, va_rf a1), (2, va_rf a2), (3, va_rf a3), (4, va_rf a4), (5, .int a5)]) hx hb dL_law_1121 hl (by decide) (congrArg (List.cons _) (flk rfl (flk rfl (flk rfl (flk rfl (flk rfl (flk rfl fln))))))) (fun ls hl => ?_)
  refine fr_aload_n hx hb dL_law_1123 rfl (lv_at hl 3 rfl) ?_
  refine lv_aload_n hx hb dL_law_1124 rfl (lv_at hl 1 rfl) ?_
  refine lv_iload hx hb dL_law_1125 (lv_at hl 6 rfl) ?_
  refine lv_iconst (v := (1 : Int32)) hx hb dL_law_1127 (by decide) ?_
  refine lv_iadd hx hb dL_law_1128 ?_
  by_cases c286 : (a5 + (1 : Int32)) < 0 ∨ L ≤ ((a5 + (1 : Int32))).toNatClampNeg
  · exact nomatch (opos c286 hf)
  replace hf := oneg c286 hf
  refine va_sld hx hb X.1 X.2.1 X.2.2 hC.2.2.2.2.2.1 c286 dL_law_1129 ?_
  refine lv_aload_n hx hb dL_law_1130 rfl (lv_at hl 1 rfl) ?_
  refine lv_iload hx hb dL_law_1131 (lv_at hl 6 rfl) ?_
  refine lv_iconst (v := (2 : Int32)) hx hb dL_law_1133 (by decide) ?_
  refine lv_iadd hx hb dL_law_1134 ?_
  by_cases c287 : (a5 + (2 : Int32)) < 0 ∨ L ≤ ((a5 + (2 : Int32))).toNatClampNeg
  · exact nomatch (opos c287 hf)
  replace hf := oneg c287 hf
  refine va_sld hx hb X.1 X.2.1 X.2.2 hC.2.2.2.2.2.1 c287 dL_law_1135 ?_
  obtain ⟨b290, q291, hf⟩ := obind hf
  obtain ⟨r288, g289, hf⟩ := obind hf
  refine fr_callV hx hb hml hts hown K hC hR ct_8 (c_X8_common hfl D cA g289) 2 q291 kw1154 kw1151 kw1152 kw1153 kw62 (by decide +kernel) ⟨by omega, by omega⟩ rfl hl.1 (cat8 _ (by exact Nat.le_of_ble_eq_true rfl)) dL_law_1136 rfl (fun H locs _ _ hC => ?_)
  refine lv_istore (lv' := [(7, .int r288.1), (6, .int v283), (0, .ref b), (1, va_rf a1), (2, va_rf a2), (3, va_rf a3), (4, va_rf a4), (5, .int a5)]) hx hb dL_law_1139 hl (by decide) (congrArg (List.cons _) (flk rfl (flk rfl (flk rfl (flk rfl (flk rfl (flk rfl (flk rfl fln)))))))) (fun ls hl => ?_)
  refine fr_aload_n hx hb dL_law_1141 rfl (lv_at hl 4 rfl) ?_
  obtain ⟨b294, q295, hf⟩ := obind hf
  obtain ⟨r292, g293, hf⟩ := obind hf
  refine fr_callV hx hb hml hts hown K hC hR ct_8 (c_X8_thrown hfl D cA g293) 0 q295 kw1055 kw1052 kw1053 kw1054 kw62 (by decide +kernel) ⟨by omega, by omega⟩ rfl hl.1 (cat8 _ (by exact Nat.le_of_ble_eq_true rfl)) dL_law_1142 rfl (fun H locs _ _ hC => ?_)
  refine lv_iload hx hb dL_law_1145 (lv_at hl 1 rfl) ?_
  refine lv_icmp_eq (tgt := 1152) hx hb dL_law_1147 (by decide) (fun c296 => ?_) (fun c296 => ?_)
  · replace hf := opos c296 hf
    refine lv_iload hx hb dL_law_1152 (lv_at hl 1 rfl) ?_
    refine lv_if_ne (tgt := 1169) hx hb dL_law_1154 (by decide) (fun c297 => ?_) (fun c297 => ?_)
    · replace hf := oneg c297 hf
      exact w_L_law_L1169 M hfl hRf hRl X hend hk28 _ _ _ _ _ _ hf _ _ _ _ _ hC (lv_sub hl [2, 3, 4, 5, 6, 7] rfl)
    · replace hf := opos c297 hf
      refine fr_aload_n hx hb dL_law_1157 rfl (lv_at hl 5 rfl) ?_
      refine lv_iconst (v := (0 : Int32)) hx hb dL_law_1158 (by decide) ?_
      obtain ⟨x298, g299, hf⟩ := obind hf
      refine fr_lald hx hb K hC (t := 1) rfl g299 dL_law_1159 ?_
      refine lv_iload hx hb dL_law_1160 (lv_at hl 0 rfl) ?_
      refine lv_i2l (v := (Int32.toInt64 r288.1)) hx hb dL_law_1162 rfl ?_
      refine fr_lcmp_eq (tgt := 1169) hx hb dL_law_1163 dL_law_1164 (by decide) (fun c300 => ?_) (fun c300 => ?_)
      · replace hf := opos c300 hf
        exact w_L_law_L1169 M hfl hRf hRl X hend hk28 _ _ _ _ _ _ hf _ _ _ _ _ hC (lv_sub hl [2, 3, 4, 5, 6, 7] rfl)
      · replace hf := oneg c300 hf
        refine lv_iconst (v := (0 : Int32)) hx hb dL_law_1167 (by decide) ?_
        exact hend _ _ _ _ _ _ _ _ (Option.some.inj hf) hC dL_law_1168
  · replace hf := oneg c296 hf
    refine lv_iconst (v := (0 : Int32)) hx hb dL_law_1150 (by decide) ?_
    exact hend _ _ _ _ _ _ _ _ (Option.some.inj hf) hC dL_law_1151
set_option maxHeartbeats 4000000 in
set_option maxRecDepth 100000 in
theorem w_L_law_L1261 {p : Program} {l : Launch} {e : Env} {s : State} {m : MethodId} {args : Array Value} {below : List Frame} {meth : Method} {c : Code} {D : va_G} {cA : Nat → ClassId} {h0 : fSt} {r : (Int32 × fSt)} {Q : State → Prop} {R : Room} {b L : Nat} {xs : Nat → Int32} (M : fM p s m args meth c D cA h0 R cL_law 9 (some (.boolean)) RL) (hfl : l.stackTraces = false) (hRf : 35 ≤ R.frames) (hRl : 944 ≤ R.locals) (X : va_X b L xs s s.heap ∧ b < s.heap.size ∧ ¬ fA h0 b) (hend : ∀ (x : Int32) (h : fSt) (H : Heap) (locs : List Loc) (cells slots : Nat) (ls : Array Slot) (pc : Nat), (x, h) = r → fCur D cA s h0 h H locs → decode code pc = .ok (.ireturn, 1) → W p l e R s m args below meth c H locs cells slots Q (F0 m pc ls [.int x])) {k28 : Option Nat → Option Nat → Option Nat → Option Nat → Int32 → fSt → Option (Int32 × fSt)} (hk28 : ∀ (a1 : Option Nat) (a2 : Option Nat) (a3 : Option Nat) (a4 : Option Nat) (a5 : Int32) (h : fSt), k28 a1 a2 a3 a4 a5 h = some r → ∀ (H : Heap) (locs : List Loc) (cells slots : Nat) (ls : Array Slot), fCur D cA s h0 h H locs → lv_has ls 9 [(0, .ref b), (1, va_rf a1), (2, va_rf a2), (3, va_rf a3), (4, va_rf a4), (5, .int a5)] → W p l e R s m args below meth c H locs cells slots Q (F0 m 28 ls [])) (a1 : Option Nat) (a2 : Option Nat) (a3 : Option Nat) (a4 : Option Nat) (a5 : Int32) (h : fSt) (hf : f_L_law_L1261 L xs k28 a1 a2 a3 a4 a5 h = some r) : ∀ (H : Heap) (locs : List Loc) (cells slots : Nat) (ls : Array Slot), fCur D cA s h0 h H locs → lv_has ls 9 [(0, .ref b), (1, va_rf a1), (2, va_rf a2), (3, va_rf a3), (4, va_rf a4), (5, .int a5)] → W p l e R s m args below meth c H locs cells slots Q (F0 m 1261 ls []) := by
  obtain ⟨hx, hb, hml, hr, hlocks, hts, hown, K, hR⟩ := id M
  intro H locs cells slots ls hC hl
  refine lv_goto (tgt := 2859) hx hb dL_law_1261 (by decide) ?_
  exact w_L_law_L2859 M hfl hRf hRl X hend hk28 _ _ _ _ _ _ hf _ _ _ _ _ hC (lv_sub hl [0, 1, 2, 3, 4, 5] rfl)
set_option maxHeartbeats 4000000 in
set_option maxRecDepth 100000 in
theorem w_L_law_L1172 {p : Program} {l : Launch} {e : Env} {s : State} {m : MethodId} {args : Array Value} {below : List Frame} {meth : Method} {c : Code} {D : va_G} {cA : Nat → ClassId} {h0 : fSt} {r : (Int32 × fSt)} {Q : State → Prop} {R : Room} {b L : Nat} {xs : Nat → Int32} (M : fM p s m args meth c D cA h0 R cL_law 9 (some (.boolean)) RL) (hfl : l.stackTraces = false) (hRf : 35 ≤ R.frames) (hRl : 944 ≤ R.locals) (X : va_X b L xs s s.heap ∧ b < s.heap.size ∧ ¬ fA h0 b) (hend : ∀ (x : Int32) (h : fSt) (H : Heap) (locs : List Loc) (cells slots : Nat) (ls : Array Slot) (pc : Nat), (x, h) = r → fCur D cA s h0 h H locs → decode code pc = .ok (.ireturn, 1) → W p l e R s m args below meth c H locs cells slots Q (F0 m pc ls [.int x])) {k28 : Option Nat → Option Nat → Option Nat → Option Nat → Int32 → fSt → Option (Int32 × fSt)} (hk28 : ∀ (a1 : Option Nat) (a2 : Option Nat) (a3 : Option Nat) (a4 : Option Nat) (a5 : Int32) (h : fSt), k28 a1 a2 a3 a4 a5 h = some r → ∀ (H : Heap) (locs : List Loc) (cells slots : Nat) (ls : Array Slot), fCur D cA s h0 h H locs → lv_has ls 9 [(0, .ref b), (1, va_rf a1), (2, va_rf a2), (3, va_rf a3), (4, va_rf a4), (5, .int a5)] → W p l e R s m args below meth c H locs cells slots Q (F0 m 28 ls [])) (a1 : Option Nat) (a2 : Option Nat) (a3 : Option Nat) (a4 : Option Nat) (a5 : Int32) (h : fSt) (hf : f_L_law_L1172 L xs k28 a1 a2 a3 a4 a5 h = some r) : ∀ (H : Heap) (locs : List Loc) (cells slots : Nat) (ls : Array Slot), fCur D cA s h0 h H locs → lv_has ls 9 [(0, .ref b), (1, va_rf a1), (2, va_rf a2), (3, va_rf a3), (4, va_rf a4), (5, .int a5)] → W p l e R s m args below meth c H locs cells slots Q (F0 m 1172 ls []) := by
  obtain ⟨hx, hb, hml, hr, hlocks, hts, hown, K, hR⟩ := id M
  intro H locs cells slots ls hC hl
  refine fr_aload_n hx hb dL_law_1172 rfl (lv_at hl 1 rfl) ?_
  refine lv_aload_n hx hb dL_law_1173 rfl (lv_at hl 0 rfl) ?_
  refine lv_iload hx hb dL_law_1174 (lv_at hl 5 rfl) ?_
  refine lv_iconst (v := (1 : Int32)) hx hb dL_law_1176 (by decide) ?_
  refine lv_iadd hx hb dL_law_1177 ?_
  by_cases c301 : (a5 + (1 : Int32)) < 0 ∨ L ≤ ((a5 + (1 : Int32))).toNatClampNeg
  · exact nomatch (opos c301 hf)
  replace hf := oneg c301 hf
  refine va_sld hx hb X.1 X.2.1 X.2.2 hC.2.2.2.2.2.1 c301 dL_law_1178 ?_
  refine lv_aload_n hx hb dL_law_1179 rfl (lv_at hl 0 rfl) ?_
  refine lv_iload hx hb dL_law_1180 (lv_at hl 5 rfl) ?_
  refine lv_iconst (v := (2 : Int32)) hx hb dL_law_1182 (by decide) ?_
  refine lv_iadd hx hb dL_law_1183 ?_
  by_cases c302 : (a5 + (2 : Int32)) < 0 ∨ L ≤ ((a5 + (2 : Int32))).toNatClampNeg
  · exact nomatch (opos c302 hf)
  replace hf := oneg c302 hf
  refine va_sld hx hb X.1 X.2.1 X.2.2 hC.2.2.2.2.2.1 c302 dL_law_1184 ?_
  refine lv_aload_n hx hb dL_law_1185 rfl (lv_at hl 0 rfl) ?_
  refine lv_iload hx hb dL_law_1186 (lv_at hl 5 rfl) ?_
  refine lv_iconst (v := (3 : Int32)) hx hb dL_law_1188 (by decide) ?_
  refine lv_iadd hx hb dL_law_1189 ?_
  by_cases c303 : (a5 + (3 : Int32)) < 0 ∨ L ≤ ((a5 + (3 : Int32))).toNatClampNeg
  · exact nomatch (opos c303 hf)
  replace hf := oneg c303 hf
  refine va_sld hx hb X.1 X.2.1 X.2.2 hC.2.2.2.2.2.1 c303 dL_law_1190 ?_
  refine lv_aload_n hx hb dL_law_1191 rfl (lv_at hl 0 rfl) ?_
  refine lv_iload hx hb dL_law_1192 (lv_at hl 5 rfl) ?_
  refine lv_iconst (v := (4 : Int32)) hx hb dL_law_1194 (by decide) ?_
  refine lv_iadd hx hb dL_law_1195 ?_
  by_cases c304 : (a5 + (4 : Int32)) < 0 ∨ L ≤ ((a5 + (4 : Int32))).toNatClampNeg
  · exact nomatch (opos c304 hf)
  replace hf := oneg c304 hf
  refine va_sld hx hb X.1 X.2.1 X.2.2 hC.2.2.2.2.2.1 c304 dL_law_1196 ?_
  refine fr_aload_n hx hb dL_law_1197 rfl (lv_at hl 3 rfl) ?_
  obtain ⟨⟨v307 | k308, h309⟩, g306, hf⟩ := obind hf
  rotate_left
  · exact nomatch (show (none : Option (Int32 × fSt)) = some _ from hf)
  replace hf := fci hf
  refine fr_callSH hx hb hml hts hown K hC hR (c_L_track hfl D cA g306) 6 kw756 kw754 kw755 kw54 (by decide +kernel) ⟨by omega, by omega⟩ rfl hl.1 (cat8 _ (by exact Nat.le_of_ble_eq_true rfl)) dL_law_1198 rfl (fun H locs _ _ hC => ?_)
  refine lv_istore (lv' := [(6, .int v307), (0, .ref b), (1, va_rf a1), (2, va_rf a2), (3, va_rf a3), (4, va_rf a4), (5, .int a5)]) hx hb dL_law_1201 hl (by decide) (congrArg (List.cons _) (flk rfl (flk rfl (flk rfl (flk rfl (flk rfl (flk rfl fln))))))) (fun ls hl => ?_)
  refine fr_aload_n hx hb dL_law_1203 rfl (lv_at hl 3 rfl) ?_
  refine lv_aload_n hx hb dL_law_1204 rfl (lv_at hl 1 rfl) ?_
  refine lv_iload hx hb dL_law_1205 (lv_at hl 6 rfl) ?_
  refine lv_iconst (v := (1 : Int32)) hx hb dL_law_1207 (by decide) ?_
  refine lv_iadd hx hb dL_law_1208 ?_
  by_cases c310 : (a5 + (1 : Int32)) < 0 ∨ L ≤ ((a5 + (1 : Int32))).toNatClampNeg
  · exact nomatch (opos c310 hf)
  replace hf := oneg c310 hf
  refine va_sld hx hb X.1 X.2.1 X.2.2 hC.2.2.2.2.2.1 c310 dL_law_1209 ?_
  refine lv_aload_n hx hb dL_law_1210 rfl (lv_at hl 1 rfl) ?_
  refine lv_iload hx hb dL_law_1211 (lv_at hl 6 rfl) ?_
  refine lv_iconst (v := (2 : Int32)) hx hb dL_law_1213 (by decide) ?_
  refine lv_iadd hx hb dL_law_1214 ?_
  by_cases c311 : (a5 + (2 : Int32)) < 0 ∨ L ≤ ((a5 + (2 : Int32))).toNatClampNeg
  · exact nomatch (opos c311 hf)
  replace hf := oneg c311 hf
  refine va_sld hx hb X.1 X.2.1 X.2.2 hC.2.2.2.2.2.1 c311 dL_law_1215 ?_
  refine lv_aload_n hx hb dL_law_1216 rfl (lv_at hl 1 rfl) ?_
  refine lv_iload hx hb dL_law_1217 (lv_at hl 6 rfl) ?_
  refine lv_iconst (v := (3 : Int32)) hx hb dL_law_1219 (by decide) ?_
  refine lv_iadd hx hb dL_law_1220 ?_
  by_cases c312 : (a5 + (3 : Int32)) < 0 ∨ L ≤ ((a5 + (3 : Int32))).toNatClampNeg
  · exact nomatch (opos c312 hf)
  replace hf := oneg c312 hf
  refine va_sld hx hb X.1 X.2.1 X.2.2 hC.2.2.2.2.2.1 c312 dL_law_1221 ?_
  refine lv_aload_n hx hb dL_law_1222 rfl (lv_at hl 1 rfl) ?_
  refine lv_iload hx hb dL_law_1223 (lv_at hl 6 rfl) ?_
  refine lv_iconst (v := (4 : Int32)) hx hb dL_law_1225 (by decide) ?_
  refine lv_iadd hx hb dL_law_1226 ?_
  by_cases c313 : (a5 + (4 : Int32)) < 0 ∨ L ≤ ((a5 + (4 : Int32))).toNatClampNeg
  · exact nomatch (opos c313 hf)
  replace hf := oneg c313 hf
  refine va_sld hx hb X.1 X.2.1 X.2.2 hC.2.2.2.2.2.1 c313 dL_law_1227 ?_
  obtain ⟨b316, q317, hf⟩ := obind hf
  obtain ⟨r314, g315, hf⟩ := obind hf
  refine fr_callV hx hb hml hts hown K hC hR ct_8 (c_X8_track hfl D cA g315) 4 q317 kw1158 kw1155 kw1156 kw1157 kw62 (by decide +kernel) ⟨by omega, by omega⟩ rfl hl.1 (cat8 _ (by exact Nat.le_of_ble_eq_true rfl)) dL_law_1228 rfl (fun H locs _ _ hC => ?_)
  refine lv_istore (lv' := [(7, .int r314.1), (6, .int v307), (0, .ref b), (1, va_rf a1), (2, va_rf a2), (3, va_rf a3), (4, va_rf a4), (5, .int a5)]) hx hb dL_law_1231 hl (by decide) (congrArg (List.cons _) (flk rfl (flk rfl (flk rfl (flk rfl (flk rfl (flk rfl (flk rfl fln)))))))) (fun ls hl => ?_)
  refine fr_aload_n hx hb dL_law_1233 rfl (lv_at hl 4 rfl) ?_
  obtain ⟨b320, q321, hf⟩ := obind hf
  obtain ⟨r318, g319, hf⟩ := obind hf
  refine fr_callV hx hb hml hts hown K hC hR ct_8 (c_X8_thrown hfl D cA g319) 0 q321 kw1055 kw1052 kw1053 kw1054 kw62 (by decide +kernel) ⟨by omega, by omega⟩ rfl hl.1 (cat8 _ (by exact Nat.le_of_ble_eq_true rfl)) dL_law_1234 rfl (fun H locs _ _ hC => ?_)
  refine lv_iload hx hb dL_law_1237 (lv_at hl 1 rfl) ?_
  refine lv_icmp_eq (tgt := 1244) hx hb dL_law_1239 (by decide) (fun c322 => ?_) (fun c322 => ?_)
  · replace hf := opos c322 hf
    refine lv_iload hx hb dL_law_1244 (lv_at hl 1 rfl) ?_
    refine lv_if_ne (tgt := 1261) hx hb dL_law_1246 (by decide) (fun c323 => ?_) (fun c323 => ?_)
    · replace hf := oneg c323 hf
      exact w_L_law_L1261 M hfl hRf hRl X hend hk28 _ _ _ _ _ _ hf _ _ _ _ _ hC (lv_sub hl [2, 3, 4, 5, 6, 7] rfl)
    · replace hf := opos c323 hf
      refine fr_aload_n hx hb dL_law_1249 rfl (lv_at hl 5 rfl) ?_
      refine lv_iconst (v := (0 : Int32)) hx hb dL_law_1250 (by decide) ?_
      obtain ⟨x324, g325, hf⟩ := obind hf
      refine fr_lald hx hb K hC (t := 1) rfl g325 dL_law_1251 ?_
      refine lv_iload hx hb dL_law_1252 (lv_at hl 0 rfl) ?_
      refine lv_i2l (v := (Int32.toInt64 r314.1)) hx hb dL_law_1254 rfl ?_
      refine fr_lcmp_eq (tgt := 1261) hx hb dL_law_1255 dL_law_1256 (by decide) (fun c326 => ?_) (fun c326 => ?_)
      · replace hf := opos c326 hf
        exact w_L_law_L1261 M hfl hRf hRl X hend hk28 _ _ _ _ _ _ hf _ _ _ _ _ hC (lv_sub hl [2, 3, 4, 5, 6, 7] rfl)
      · replace hf := oneg c326 hf
        refine lv_iconst (v := (0 : Int32)) hx hb dL_law_1259 (by decide) ?_
        exact hend _ _ _ _ _ _ _ _ (Option.some.inj hf) hC dL_law_1260
  · replace hf := oneg c322 hf
    refine lv_iconst (v := (0 : Int32)) hx hb dL_law_1242 (by decide) ?_
    exact hend _ _ _ _ _ _ _ _ (Option.some.inj hf) hC dL_law_1243
set_option maxHeartbeats 4000000 in
set_option maxRecDepth 100000 in
theorem w_L_law_L1341 {p : Program} {l : Launch} {e : Env} {s : State} {m : MethodId} {args : Array Value} {below : List Frame} {meth : Method} {c : Code} {D : va_G} {cA : Nat → ClassId} {h0 : fSt} {r : (Int32 × fSt)} {Q : State → Prop} {R : Room} {b L : Nat} {xs : Nat → Int32} (M : fM p s m args meth c D cA h0 R cL_law 9 (some (.boolean)) RL) (hfl : l.stackTraces = false) (hRf : 35 ≤ R.frames) (hRl : 944 ≤ R.locals) (X : va_X b L xs s s.heap ∧ b < s.heap.size ∧ ¬ fA h0 b) (hend : ∀ (x : Int32) (h : fSt) (H : Heap) (locs : List Loc) (cells slots : Nat) (ls : Array Slot) (pc : Nat), (x, h) = r → fCur D cA s h0 h H locs → decode code pc = .ok (.ireturn, 1) → W p l e R s m args below meth c H locs cells slots Q (F0 m pc ls [.int x])) {k28 : Option Nat → Option Nat → Option Nat → Option Nat → Int32 → fSt → Option (Int32 × fSt)} (hk28 : ∀ (a1 : Option Nat) (a2 : Option Nat) (a3 : Option Nat) (a4 : Option Nat) (a5 : Int32) (h : fSt), k28 a1 a2 a3 a4 a5 h = some r → ∀ (H : Heap) (locs : List Loc) (cells slots : Nat) (ls : Array Slot), fCur D cA s h0 h H locs → lv_has ls 9 [(0, .ref b), (1, va_rf a1), (2, va_rf a2), (3, va_rf a3), (4, va_rf a4), (5, .int a5)] → W p l e R s m args below meth c H locs cells slots Q (F0 m 28 ls [])) (a1 : Option Nat) (a2 : Option Nat) (a3 : Option Nat) (a4 : Option Nat) (a5 : Int32) (h : fSt) (hf : f_L_law_L1341 L xs k28 a1 a2 a3 a4 a5 h = some r) : ∀ (H : Heap) (locs : List Loc) (cells slots : Nat) (ls : Array Slot), fCur D cA s h0 h H locs → lv_has ls 9 [(0, .ref b), (1, va_rf a1), (2, va_rf a2), (3, va_rf a3), (4, va_rf a4), (5, .int a5)] → W p l e R s m args below meth c H locs cells slots Q (F0 m 1341 ls []) := by
  obtain ⟨hx, hb, hml, hr, hlocks, hts, hown, K, hR⟩ := id M
  intro H locs cells slots ls hC hl
  refine lv_goto (tgt := 2859) hx hb dL_law_1341 (by decide) ?_
  exact w_L_law_L2859 M hfl hRf hRl X hend hk28 _ _ _ _ _ _ hf _ _ _ _ _ hC (lv_sub hl [0, 1, 2, 3, 4, 5] rfl)
set_option maxHeartbeats 4000000 in
set_option maxRecDepth 100000 in
theorem w_L_law_L1264 {p : Program} {l : Launch} {e : Env} {s : State} {m : MethodId} {args : Array Value} {below : List Frame} {meth : Method} {c : Code} {D : va_G} {cA : Nat → ClassId} {h0 : fSt} {r : (Int32 × fSt)} {Q : State → Prop} {R : Room} {b L : Nat} {xs : Nat → Int32} (M : fM p s m args meth c D cA h0 R cL_law 9 (some (.boolean)) RL) (hfl : l.stackTraces = false) (hRf : 35 ≤ R.frames) (hRl : 944 ≤ R.locals) (X : va_X b L xs s s.heap ∧ b < s.heap.size ∧ ¬ fA h0 b) (hend : ∀ (x : Int32) (h : fSt) (H : Heap) (locs : List Loc) (cells slots : Nat) (ls : Array Slot) (pc : Nat), (x, h) = r → fCur D cA s h0 h H locs → decode code pc = .ok (.ireturn, 1) → W p l e R s m args below meth c H locs cells slots Q (F0 m pc ls [.int x])) {k28 : Option Nat → Option Nat → Option Nat → Option Nat → Int32 → fSt → Option (Int32 × fSt)} (hk28 : ∀ (a1 : Option Nat) (a2 : Option Nat) (a3 : Option Nat) (a4 : Option Nat) (a5 : Int32) (h : fSt), k28 a1 a2 a3 a4 a5 h = some r → ∀ (H : Heap) (locs : List Loc) (cells slots : Nat) (ls : Array Slot), fCur D cA s h0 h H locs → lv_has ls 9 [(0, .ref b), (1, va_rf a1), (2, va_rf a2), (3, va_rf a3), (4, va_rf a4), (5, .int a5)] → W p l e R s m args below meth c H locs cells slots Q (F0 m 28 ls [])) (a1 : Option Nat) (a2 : Option Nat) (a3 : Option Nat) (a4 : Option Nat) (a5 : Int32) (h : fSt) (hf : f_L_law_L1264 L xs k28 a1 a2 a3 a4 a5 h = some r) : ∀ (H : Heap) (locs : List Loc) (cells slots : Nat) (ls : Array Slot), fCur D cA s h0 h H locs → lv_has ls 9 [(0, .ref b), (1, va_rf a1), (2, va_rf a2), (3, va_rf a3), (4, va_rf a4), (5, .int a5)] → W p l e R s m args below meth c H locs cells slots Q (F0 m 1264 ls []) := by
  obtain ⟨hx, hb, hml, hr, hlocks, hts, hown, K, hR⟩ := id M
  intro H locs cells slots ls hC hl
  refine fr_aload_n hx hb dL_law_1264 rfl (lv_at hl 1 rfl) ?_
  refine lv_aload_n hx hb dL_law_1265 rfl (lv_at hl 0 rfl) ?_
  refine lv_iload hx hb dL_law_1266 (lv_at hl 5 rfl) ?_
  refine lv_iconst (v := (1 : Int32)) hx hb dL_law_1268 (by decide) ?_
  refine lv_iadd hx hb dL_law_1269 ?_
  by_cases c327 : (a5 + (1 : Int32)) < 0 ∨ L ≤ ((a5 + (1 : Int32))).toNatClampNeg
  · exact nomatch (opos c327 hf)
  replace hf := oneg c327 hf
  refine va_sld hx hb X.1 X.2.1 X.2.2 hC.2.2.2.2.2.1 c327 dL_law_1270 ?_
  refine lv_aload_n hx hb dL_law_1271 rfl (lv_at hl 0 rfl) ?_
  refine lv_iload hx hb dL_law_1272 (lv_at hl 5 rfl) ?_
  refine lv_iconst (v := (2 : Int32)) hx hb dL_law_1274 (by decide) ?_
  refine lv_iadd hx hb dL_law_1275 ?_
  by_cases c328 : (a5 + (2 : Int32)) < 0 ∨ L ≤ ((a5 + (2 : Int32))).toNatClampNeg
  · exact nomatch (opos c328 hf)
  replace hf := oneg c328 hf
  refine va_sld hx hb X.1 X.2.1 X.2.2 hC.2.2.2.2.2.1 c328 dL_law_1276 ?_
  refine lv_aload_n hx hb dL_law_1277 rfl (lv_at hl 0 rfl) ?_
  refine lv_iload hx hb dL_law_1278 (lv_at hl 5 rfl) ?_
  refine lv_iconst (v := (3 : Int32)) hx hb dL_law_1280 (by decide) ?_
  refine lv_iadd hx hb dL_law_1281 ?_
  by_cases c329 : (a5 + (3 : Int32)) < 0 ∨ L ≤ ((a5 + (3 : Int32))).toNatClampNeg
  · exact nomatch (opos c329 hf)
  replace hf := oneg c329 hf
  refine va_sld hx hb X.1 X.2.1 X.2.2 hC.2.2.2.2.2.1 c329 dL_law_1282 ?_
  refine fr_aload_n hx hb dL_law_1283 rfl (lv_at hl 3 rfl) ?_
  obtain ⟨⟨v332 | k333, h334⟩, g331, hf⟩ := obind hf
  rotate_left
  · exact nomatch (show (none : Option (Int32 × fSt)) = some _ from hf)
  replace hf := fci hf
  refine fr_callSH hx hb hml hts hown K hC hR (c_L_key hfl D cA g331) 5 kw769 kw767 kw768 kw54 (by decide +kernel) ⟨by omega, by omega⟩ rfl hl.1 (cat8 _ (by exact Nat.le_of_ble_eq_true rfl)) dL_law_1284 rfl (fun H locs _ _ hC => ?_)
  refine lv_istore (lv' := [(6, .int v332), (0, .ref b), (1, va_rf a1), (2, va_rf a2), (3, va_rf a3), (4, va_rf a4), (5, .int a5)]) hx hb dL_law_1287 hl (by decide) (congrArg (List.cons _) (flk rfl (flk rfl (flk rfl (flk rfl (flk rfl (flk rfl fln))))))) (fun ls hl => ?_)
  refine fr_aload_n hx hb dL_law_1289 rfl (lv_at hl 3 rfl) ?_
  refine lv_aload_n hx hb dL_law_1290 rfl (lv_at hl 1 rfl) ?_
  refine lv_iload hx hb dL_law_1291 (lv_at hl 6 rfl) ?_
  refine lv_iconst (v := (1 : Int32)) hx hb dL_law_1293 (by decide) ?_
  refine lv_iadd hx hb dL_law_1294 ?_
  by_cases c335 : (a5 + (1 : Int32)) < 0 ∨ L ≤ ((a5 + (1 : Int32))).toNatClampNeg
  · exact nomatch (opos c335 hf)
  replace hf := oneg c335 hf
  refine va_sld hx hb X.1 X.2.1 X.2.2 hC.2.2.2.2.2.1 c335 dL_law_1295 ?_
  refine lv_aload_n hx hb dL_law_1296 rfl (lv_at hl 1 rfl) ?_
  refine lv_iload hx hb dL_law_1297 (lv_at hl 6 rfl) ?_
  refine lv_iconst (v := (2 : Int32)) hx hb dL_law_1299 (by decide) ?_
  refine lv_iadd hx hb dL_law_1300 ?_
  by_cases c336 : (a5 + (2 : Int32)) < 0 ∨ L ≤ ((a5 + (2 : Int32))).toNatClampNeg
  · exact nomatch (opos c336 hf)
  replace hf := oneg c336 hf
  refine va_sld hx hb X.1 X.2.1 X.2.2 hC.2.2.2.2.2.1 c336 dL_law_1301 ?_
  refine lv_aload_n hx hb dL_law_1302 rfl (lv_at hl 1 rfl) ?_
  refine lv_iload hx hb dL_law_1303 (lv_at hl 6 rfl) ?_
  refine lv_iconst (v := (3 : Int32)) hx hb dL_law_1305 (by decide) ?_
  refine lv_iadd hx hb dL_law_1306 ?_
  by_cases c337 : (a5 + (3 : Int32)) < 0 ∨ L ≤ ((a5 + (3 : Int32))).toNatClampNeg
  · exact nomatch (opos c337 hf)
  replace hf := oneg c337 hf
  refine va_sld hx hb X.1 X.2.1 X.2.2 hC.2.2.2.2.2.1 c337 dL_law_1307 ?_
  obtain ⟨b340, q341, hf⟩ := obind hf
  obtain ⟨r338, g339, hf⟩ := obind hf
  refine fr_callV hx hb hml hts hown K hC hR ct_8 (c_X8_key hfl D cA g339) 3 q341 kw1166 kw1163 kw1164 kw1165 kw62 (by decide +kernel) ⟨by omega, by omega⟩ rfl hl.1 (cat8 _ (by exact Nat.le_of_ble_eq_true rfl)) dL_law_1308 rfl (fun H locs _ _ hC => ?_)
  refine lv_istore (lv' := [(7, .int r338.1), (6, .int v332), (0, .ref b), (1, va_rf a1), (2, va_rf a2), (3, va_rf a3), (4, va_rf a4), (5, .int a5)]) hx hb dL_law_1311 hl (by decide) (congrArg (List.cons _) (flk rfl (flk rfl (flk rfl (flk rfl (flk rfl (flk rfl (flk rfl fln)))))))) (fun ls hl => ?_)
  refine fr_aload_n hx hb dL_law_1313 rfl (lv_at hl 4 rfl) ?_
  obtain ⟨b344, q345, hf⟩ := obind hf
  obtain ⟨r342, g343, hf⟩ := obind hf
  refine fr_callV hx hb hml hts hown K hC hR ct_8 (c_X8_thrown hfl D cA g343) 0 q345 kw1055 kw1052 kw1053 kw1054 kw62 (by decide +kernel) ⟨by omega, by omega⟩ rfl hl.1 (cat8 _ (by exact Nat.le_of_ble_eq_true rfl)) dL_law_1314 rfl (fun H locs _ _ hC => ?_)
  refine lv_iload hx hb dL_law_1317 (lv_at hl 1 rfl) ?_
  refine lv_icmp_eq (tgt := 1324) hx hb dL_law_1319 (by decide) (fun c346 => ?_) (fun c346 => ?_)
  · replace hf := opos c346 hf
    refine lv_iload hx hb dL_law_1324 (lv_at hl 1 rfl) ?_
    refine lv_if_ne (tgt := 1341) hx hb dL_law_1326 (by decide) (fun c347 => ?_) (fun c347 => ?_)
    · replace hf := oneg c347 hf
      exact w_L_law_L1341 M hfl hRf hRl X hend hk28 _ _ _ _ _ _ hf _ _ _ _ _ hC (lv_sub hl [2, 3, 4, 5, 6, 7] rfl)
    · replace hf := opos c347 hf
      refine fr_aload_n hx hb dL_law_1329 rfl (lv_at hl 5 rfl) ?_
      refine lv_iconst (v := (0 : Int32)) hx hb dL_law_1330 (by decide) ?_
      obtain ⟨x348, g349, hf⟩ := obind hf
      refine fr_lald hx hb K hC (t := 1) rfl g349 dL_law_1331 ?_
      refine lv_iload hx hb dL_law_1332 (lv_at hl 0 rfl) ?_
      refine lv_i2l (v := (Int32.toInt64 r338.1)) hx hb dL_law_1334 rfl ?_
      refine fr_lcmp_eq (tgt := 1341) hx hb dL_law_1335 dL_law_1336 (by decide) (fun c350 => ?_) (fun c350 => ?_)
      · replace hf := opos c350 hf
        exact w_L_law_L1341 M hfl hRf hRl X hend hk28 _ _ _ _ _ _ hf _ _ _ _ _ hC (lv_sub hl [2, 3, 4, 5, 6, 7] rfl)
      · replace hf := oneg c350 hf
        refine lv_iconst (v := (0 : Int32)) hx hb dL_law_1339 (by decide) ?_
        exact hend _ _ _ _ _ _ _ _ (Option.some.inj hf) hC dL_law_1340
  · replace hf := oneg c346 hf
    refine lv_iconst (v := (0 : Int32)) hx hb dL_law_1322 (by decide) ?_
    exact hend _ _ _ _ _ _ _ _ (Option.some.inj hf) hC dL_law_1323
set_option maxHeartbeats 4000000 in
set_option maxRecDepth 100000 in
theorem w_L_law_L1409 {p : Program} {l : Launch} {e : Env} {s : State} {m : MethodId} {args : Array Value} {below : List Frame} {meth : Method} {c : Code} {D : va_G} {cA : Nat → ClassId} {h0 : fSt} {r : (Int32 × fSt)} {Q : State → Prop} {R : Room} {b L : Nat} {xs : Nat → Int32} (M : fM p s m args meth c D cA h0 R cL_law 9 (some (.boolean)) RL) (hfl : l.stackTraces = false) (hRf : 35 ≤ R.frames) (hRl : 944 ≤ R.locals) (X : va_X b L xs s s.heap ∧ b < s.heap.size ∧ ¬ fA h0 b) (hend : ∀ (x : Int32) (h : fSt) (H : Heap) (locs : List Loc) (cells slots : Nat) (ls : Array Slot) (pc : Nat), (x, h) = r → fCur D cA s h0 h H locs → decode code pc = .ok (.ireturn, 1) → W p l e R s m args below meth c H locs cells slots Q (F0 m pc ls [.int x])) {k28 : Option Nat → Option Nat → Option Nat → Option Nat → Int32 → fSt → Option (Int32 × fSt)} (hk28 : ∀ (a1 : Option Nat) (a2 : Option Nat) (a3 : Option Nat) (a4 : Option Nat) (a5 : Int32) (h : fSt), k28 a1 a2 a3 a4 a5 h = some r → ∀ (H : Heap) (locs : List Loc) (cells slots : Nat) (ls : Array Slot), fCur D cA s h0 h H locs → lv_has ls 9 [(0, .ref b), (1, va_rf a1), (2, va_rf a2), (3, va_rf a3), (4, va_rf a4), (5, .int a5)] → W p l e R s m args below meth c H locs cells slots Q (F0 m 28 ls [])) (a1 : Option Nat) (a2 : Option Nat) (a3 : Option Nat) (a4 : Option Nat) (a5 : Int32) (h : fSt) (hf : f_L_law_L1409 L xs k28 a1 a2 a3 a4 a5 h = some r) : ∀ (H : Heap) (locs : List Loc) (cells slots : Nat) (ls : Array Slot), fCur D cA s h0 h H locs → lv_has ls 9 [(0, .ref b), (1, va_rf a1), (2, va_rf a2), (3, va_rf a3), (4, va_rf a4), (5, .int a5)] → W p l e R s m args below meth c H locs cells slots Q (F0 m 1409 ls []) := by
  obtain ⟨hx, hb, hml, hr, hlocks, hts, hown, K, hR⟩ := id M
  intro H locs cells slots ls hC hl
  refine lv_goto (tgt := 2859) hx hb dL_law_1409 (by decide) ?_
  exact w_L_law_L2859 M hfl hRf hRl X hend hk28 _ _ _ _ _ _ hf _ _ _ _ _ hC (lv_sub hl [0, 1, 2, 3, 4, 5] rfl)
set_option maxHeartbeats 4000000 in
set_option maxRecDepth 100000 in
theorem w_L_law_L1344 {p : Program} {l : Launch} {e : Env} {s : State} {m : MethodId} {args : Array Value} {below : List Frame} {meth : Method} {c : Code} {D : va_G} {cA : Nat → ClassId} {h0 : fSt} {r : (Int32 × fSt)} {Q : State → Prop} {R : Room} {b L : Nat} {xs : Nat → Int32} (M : fM p s m args meth c D cA h0 R cL_law 9 (some (.boolean)) RL) (hfl : l.stackTraces = false) (hRf : 35 ≤ R.frames) (hRl : 944 ≤ R.locals) (X : va_X b L xs s s.heap ∧ b < s.heap.size ∧ ¬ fA h0 b) (hend : ∀ (x : Int32) (h : fSt) (H : Heap) (locs : List Loc) (cells slots : Nat) (ls : Array Slot) (pc : Nat), (x, h) = r → fCur D cA s h0 h H locs → decode code pc = .ok (.ireturn, 1) → W p l e R s m args below meth c H locs cells slots Q (F0 m pc ls [.int x])) {k28 : Option Nat → Option Nat → Option Nat → Option Nat → Int32 → fSt → Option (Int32 × fSt)} (hk28 : ∀ (a1 : Option Nat) (a2 : Option Nat) (a3 : Option Nat) (a4 : Option Nat) (a5 : Int32) (h : fSt), k28 a1 a2 a3 a4 a5 h = some r → ∀ (H : Heap) (locs : List Loc) (cells slots : Nat) (ls : Array Slot), fCur D cA s h0 h H locs → lv_has ls 9 [(0, .ref b), (1, va_rf a1), (2, va_rf a2), (3, va_rf a3), (4, va_rf a4), (5, .int a5)] → W p l e R s m args below meth c H locs cells slots Q (F0 m 28 ls [])) (a1 : Option Nat) (a2 : Option Nat) (a3 : Option Nat) (a4 : Option Nat) (a5 : Int32) (h : fSt) (hf : f_L_law_L1344 L xs k28 a1 a2 a3 a4 a5 h = some r) : ∀ (H : Heap) (locs : List Loc) (cells slots : Nat) (ls : Array Slot), fCur D cA s h0 h H locs → lv_has ls 9 [(0, .ref b), (1, va_rf a1), (2, va_rf a2), (3, va_rf a3), (4, va_rf a4), (5, .int a5)] → W p l e R s m args below meth c H locs cells slots Q (F0 m 1344 ls []) := by
  obtain ⟨hx, hb, hml, hr, hlocks, hts, hown, K, hR⟩ := id M
  intro H locs cells slots ls hC hl
  refine fr_aload_n hx hb dL_law_1344 rfl (lv_at hl 1 rfl) ?_
  refine lv_aload_n hx hb dL_law_1345 rfl (lv_at hl 0 rfl) ?_
  refine lv_iload hx hb dL_law_1346 (lv_at hl 5 rfl) ?_
  refine lv_iconst (v := (1 : Int32)) hx hb dL_law_1348 (by decide) ?_
  refine lv_iadd hx hb dL_law_1349 ?_
  by_cases c351 : (a5 + (1 : Int32)) < 0 ∨ L ≤ ((a5 + (1 : Int32))).toNatClampNeg
  · exact nomatch (opos c351 hf)
  replace hf := oneg c351 hf
  refine va_sld hx hb X.1 X.2.1 X.2.2 hC.2.2.2.2.2.1 c351 dL_law_1350 ?_
  refine lv_aload_n hx hb dL_law_1351 rfl (lv_at hl 0 rfl) ?_
  refine lv_iload hx hb dL_law_1352 (lv_at hl 5 rfl) ?_
  refine lv_iconst (v := (2 : Int32)) hx hb dL_law_1354 (by decide) ?_
  refine lv_iadd hx hb dL_law_1355 ?_
  by_cases c352 : (a5 + (2 : Int32)) < 0 ∨ L ≤ ((a5 + (2 : Int32))).toNatClampNeg
  · exact nomatch (opos c352 hf)
  replace hf := oneg c352 hf
  refine va_sld hx hb X.1 X.2.1 X.2.2 hC.2.2.2.2.2.1 c352 dL_law_1356 ?_
  refine fr_aload_n hx hb dL_law_1357 rfl (lv_at hl 3 rfl) ?_
  obtain ⟨⟨v355 | k356, h357⟩, g354, hf⟩ := obind hf
  rotate_left
  · exact nomatch (show (none : Option (Int32 × fSt)) = some _ from hf)
  replace hf := fci hf
  refine fr_callSH hx hb hml hts hown K hC hR (c_L_unkey hfl D cA g354) 4 kw810 kw808 kw809 kw54 (by decide +kernel) ⟨by omega, by omega⟩ rfl hl.1 (cat8 _ (by exact Nat.le_of_ble_eq_true rfl)) dL_law_1358 rfl (fun H locs _ _ hC => ?_)
  refine lv_istore (lv' := [(6, .int v355), (0, .ref b), (1, va_rf a1), (2, va_rf a2), (3, va_rf a3), (4, va_rf a4), (5, .int a5)]) hx hb dL_law_1361 hl (by decide) (congrArg (List.cons _) (flk rfl (flk rfl (flk rfl (flk rfl (flk rfl (flk rfl fln))))))) (fun ls hl => ?_)
  refine fr_aload_n hx hb dL_law_1363 rfl (lv_at hl 3 rfl) ?_
  refine lv_aload_n hx hb dL_law_1364 rfl (lv_at hl 1 rfl) ?_
  refine lv_iload hx hb dL_law_1365 (lv_at hl 6 rfl) ?_
  refine lv_iconst (v := (1 : Int32)) hx hb dL_law_1367 (by decide) ?_
  refine lv_iadd hx hb dL_law_1368 ?_
  by_cases c358 : (a5 + (1 : Int32)) < 0 ∨ L ≤ ((a5 + (1 : Int32))).toNatClampNeg
  · exact nomatch (opos c358 hf)
  replace hf := oneg c358 hf
  refine va_sld hx hb X.1 X.2.1 X.2.2 hC.2.2.2.2.2.1 c358 dL_law_1369 ?_
  refine lv_aload_n hx hb dL_law_1370 rfl (lv_at hl 1 rfl) ?_
  refine lv_iload hx hb dL_law_1371 (lv_at hl 6 rfl) ?_
  refine lv_iconst (v := (2 : Int32)) hx hb dL_law_1373 (by decide) ?_
  refine lv_iadd hx hb dL_law_1374 ?_
  by_cases c359 : (a5 + (2 : Int32)) < 0 ∨ L ≤ ((a5 + (2 : Int32))).toNatClampNeg
  · exact nomatch (opos c359 hf)
  replace hf := oneg c359 hf
  refine va_sld hx hb X.1 X.2.1 X.2.2 hC.2.2.2.2.2.1 c359 dL_law_1375 ?_
  obtain ⟨b362, q363, hf⟩ := obind hf
  obtain ⟨r360, g361, hf⟩ := obind hf
  refine fr_callV hx hb hml hts hown K hC hR ct_8 (c_X8_unkey hfl D cA g361) 2 q363 kw1185 kw1182 kw1183 kw1184 kw62 (by decide +kernel) ⟨by omega, by omega⟩ rfl hl.1 (cat8 _ (by exact Nat.le_of_ble_eq_true rfl)) dL_law_1376 rfl (fun H locs _ _ hC => ?_)
  refine lv_istore (lv' := [(7, .int r360.1), (6, .int v355), (0, .ref b), (1, va_rf a1), (2, va_rf a2), (3, va_rf a3), (4, va_rf a4), (5, .int a5)]) hx hb dL_law_1379 hl (by decide) (congrArg (List.cons _) (flk rfl (flk rfl (flk rfl (flk rfl (flk rfl (flk rfl (flk rfl fln)))))))) (fun ls hl => ?_)
  refine fr_aload_n hx hb dL_law_1381 rfl (lv_at hl 4 rfl) ?_
  obtain ⟨b366, q367, hf⟩ := obind hf
  obtain ⟨r364, g365, hf⟩ := obind hf
  refine fr_callV hx hb hml hts hown K hC hR ct_8 (c_X8_thrown hfl D cA g365) 0 q367 kw1055 kw1052 kw1053 kw1054 kw62 (by decide +kernel) ⟨by omega, by omega⟩ rfl hl.1 (cat8 _ (by exact Nat.le_of_ble_eq_true rfl)) dL_law_1382 rfl (fun H locs _ _ hC => ?_)
  refine lv_iload hx hb dL_law_1385 (lv_at hl 1 rfl) ?_
  refine lv_icmp_eq (tgt := 1392) hx hb dL_law_1387 (by decide) (fun c368 => ?_) (fun c368 => ?_)
  · replace hf := opos c368 hf
    refine lv_iload hx hb dL_law_1392 (lv_at hl 1 rfl) ?_
    refine lv_if_ne (tgt := 1409) hx hb dL_law_1394 (by decide) (fun c369 => ?_) (fun c369 => ?_)
    · replace hf := oneg c369 hf
      exact w_L_law_L1409 M hfl hRf hRl X hend hk28 _ _ _ _ _ _ hf _ _ _ _ _ hC (lv_sub hl [2, 3, 4, 5, 6, 7] rfl)
    · replace hf := opos c369 hf
      refine fr_aload_n hx hb dL_law_1397 rfl (lv_at hl 5 rfl) ?_
      refine lv_iconst (v := (0 : Int32)) hx hb dL_law_1398 (by decide) ?_
      obtain ⟨x370, g371, hf⟩ := obind hf
      refine fr_lald hx hb K hC (t := 1) rfl g371 dL_law_1399 ?_
      refine lv_iload hx hb dL_law_1400 (lv_at hl 0 rfl) ?_
      refine lv_i2l (v := (Int32.toInt64 r360.1)) hx hb dL_law_1402 rfl ?_
      refine fr_lcmp_eq (tgt := 1409) hx hb dL_law_1403 dL_law_1404 (by decide) (fun c372 => ?_) (fun c372 => ?_)
      · replace hf := opos c372 hf
        exact w_L_law_L1409 M hfl hRf hRl X hend hk28 _ _ _ _ _ _ hf _ _ _ _ _ hC (lv_sub hl [2, 3, 4, 5, 6, 7] rfl)
      · replace hf := oneg c372 hf
        refine lv_iconst (v := (0 : Int32)) hx hb dL_law_1407 (by decide) ?_
        exact hend _ _ _ _ _ _ _ _ (Option.some.inj hf) hC dL_law_1408
  · replace hf := oneg c368 hf
    refine lv_iconst (v := (0 : Int32)) hx hb dL_law_1390 (by decide) ?_
    exact hend _ _ _ _ _ _ _ _ (Option.some.inj hf) hC dL_law_1391
set_option maxHeartbeats 4000000 in
set_option maxRecDepth 100000 in
theorem w_L_law_L1465 {p : Program} {l : Launch} {e : Env} {s : State} {m : MethodId} {args : Array Value} {below : List Frame} {meth : Method} {c : Code} {D : va_G} {cA : Nat → ClassId} {h0 : fSt} {r : (Int32 × fSt)} {Q : State → Prop} {R : Room} {b L : Nat} {xs : Nat → Int32} (M : fM p s m args meth c D cA h0 R cL_law 9 (some (.boolean)) RL) (hfl : l.stackTraces = false) (hRf : 35 ≤ R.frames) (hRl : 944 ≤ R.locals) (X : va_X b L xs s s.heap ∧ b < s.heap.size ∧ ¬ fA h0 b) (hend : ∀ (x : Int32) (h : fSt) (H : Heap) (locs : List Loc) (cells slots : Nat) (ls : Array Slot) (pc : Nat), (x, h) = r → fCur D cA s h0 h H locs → decode code pc = .ok (.ireturn, 1) → W p l e R s m args below meth c H locs cells slots Q (F0 m pc ls [.int x])) {k28 : Option Nat → Option Nat → Option Nat → Option Nat → Int32 → fSt → Option (Int32 × fSt)} (hk28 : ∀ (a1 : Option Nat) (a2 : Option Nat) (a3 : Option Nat) (a4 : Option Nat) (a5 : Int32) (h : fSt), k28 a1 a2 a3 a4 a5 h = some r → ∀ (H : Heap) (locs : List Loc) (cells slots : Nat) (ls : Array Slot), fCur D cA s h0 h H locs → lv_has ls 9 [(0, .ref b), (1, va_rf a1), (2, va_rf a2), (3, va_rf a3), (4, va_rf a4), (5, .int a5)] → W p l e R s m args below meth c H locs cells slots Q (F0 m 28 ls [])) (a1 : Option Nat) (a2 : Option Nat) (a3 : Option Nat) (a4 : Option Nat) (a5 : Int32) (h : fSt) (hf : f_L_law_L1465 L xs k28 a1 a2 a3 a4 a5 h = some r) : ∀ (H : Heap) (locs : List Loc) (cells slots : Nat) (ls : Array Slot), fCur D cA s h0 h H locs → lv_has ls 9 [(0, .ref b), (1, va_rf a1), (2, va_rf a2), (3, va_rf a3), (4, va_rf a4), (5, .int a5)] → W p l e R s m args below meth c H locs cells slots Q (F0 m 1465 ls []) := by
  obtain ⟨hx, hb, hml, hr, hlocks, hts, hown, K, hR⟩ := id M
  intro H locs cells slots ls hC hl
  refine lv_goto (tgt := 2859) hx hb dL_law_1465 (by decide) ?_
  exact w_L_law_L2859 M hfl hRf hRl X hend hk28 _ _ _ _ _ _ hf _ _ _ _ _ hC (lv_sub hl [0, 1, 2, 3, 4, 5] rfl)
set_option maxHeartbeats 4000000 in
set_option maxRecDepth 100000 in
theorem w_L_law_L1412 {p : Program} {l : Launch} {e : Env} {s : State} {m : MethodId} {args : Array Value} {below : List Frame} {meth : Method} {c : Code} {D : va_G} {cA : Nat → ClassId} {h0 : fSt} {r : (Int32 × fSt)} {Q : State → Prop} {R : Room} {b L : Nat} {xs : Nat → Int32} (M : fM p s m args meth c D cA h0 R cL_law 9 (some (.boolean)) RL) (hfl : l.stackTraces = false) (hRf : 35 ≤ R.frames) (hRl : 944 ≤ R.locals) (X : va_X b L xs s s.heap ∧ b < s.heap.size ∧ ¬ fA h0 b) (hend : ∀ (x : Int32) (h : fSt) (H : Heap) (locs : List Loc) (cells slots : Nat) (ls : Array Slot) (pc : Nat), (x, h) = r → fCur D cA s h0 h H locs → decode code pc = .ok (.ireturn, 1) → W p l e R s m args below meth c H locs cells slots Q (F0 m pc ls [.int x])) {k28 : Option Nat → Option Nat → Option Nat → Option Nat → Int32 → fSt → Option (Int32 × fSt)} (hk28 : ∀ (a1 : Option Nat) (a2 : Option Nat) (a3 : Option Nat) (a4 : Option Nat) (a5 : Int32) (h : fSt), k28 a1 a2 a3 a4 a5 h = some r → ∀ (H : Heap) (locs : List Loc) (cells slots : Nat) (ls : Array Slot), fCur D cA s h0 h H locs → lv_has ls 9 [(0, .ref b), (1, va_rf a1), (2, va_rf a2), (3, va_rf a3), (4, va_rf a4), (5, .int a5)] → W p l e R s m args below meth c H locs cells slots Q (F0 m 28 ls [])) (a1 : Option Nat) (a2 : Option Nat) (a3 : Option Nat) (a4 : Option Nat) (a5 : Int32) (h : fSt) (hf : f_L_law_L1412 L xs k28 a1 a2 a3 a4 a5 h = some r) : ∀ (H : Heap) (locs : List Loc) (cells slots : Nat) (ls : Array Slot), fCur D cA s h0 h H locs → lv_has ls 9 [(0, .ref b), (1, va_rf a1), (2, va_rf a2), (3, va_rf a3), (4, va_rf a4), (5, .int a5)] → W p l e R s m args below meth c H locs cells slots Q (F0 m 1412 ls []) := by
  obtain ⟨hx, hb, hml, hr, hlocks, hts, hown, K, hR⟩ := id M
  intro H locs cells slots ls hC hl
  refine fr_aload_n hx hb dL_law_1412 rfl (lv_at hl 1 rfl) ?_
  refine lv_aload_n hx hb dL_law_1413 rfl (lv_at hl 0 rfl) ?_
  refine lv_iload hx hb dL_law_1414 (lv_at hl 5 rfl) ?_
  refine lv_iconst (v := (1 : Int32)) hx hb dL_law_1416 (by decide) ?_
  refine lv_iadd hx hb dL_law_1417 ?_
  by_cases c373 : (a5 + (1 : Int32)) < 0 ∨ L ≤ ((a5 + (1 : Int32))).toNatClampNeg
  · exact nomatch (opos c373 hf)
  replace hf := oneg c373 hf
  refine va_sld hx hb X.1 X.2.1 X.2.2 hC.2.2.2.2.2.1 c373 dL_law_1418 ?_
  refine fr_aload_n hx hb dL_law_1419 rfl (lv_at hl 3 rfl) ?_
  obtain ⟨⟨v376 | k377, h378⟩, g375, hf⟩ := obind hf
  rotate_left
  · exact nomatch (show (none : Option (Int32 × fSt)) = some _ from hf)
  replace hf := fci hf
  refine fr_callSH hx hb hml hts hown K hC hR (c_L_setTime hfl D cA g375) 3 kw822 kw820 kw821 kw54 (by decide +kernel) ⟨by omega, by omega⟩ rfl hl.1 (cat8 _ (by exact Nat.le_of_ble_eq_true rfl)) dL_law_1420 rfl (fun H locs _ _ hC => ?_)
  refine lv_istore (lv' := [(6, .int v376), (0, .ref b), (1, va_rf a1), (2, va_rf a2), (3, va_rf a3), (4, va_rf a4), (5, .int a5)]) hx hb dL_law_1423 hl (by decide) (congrArg (List.cons _) (flk rfl (flk rfl (flk rfl (flk rfl (flk rfl (flk rfl fln))))))) (fun ls hl => ?_)
  refine fr_aload_n hx hb dL_law_1425 rfl (lv_at hl 3 rfl) ?_
  refine lv_aload_n hx hb dL_law_1426 rfl (lv_at hl 1 rfl) ?_
  refine lv_iload hx hb dL_law_1427 (lv_at hl 6 rfl) ?_
  refine lv_iconst (v := (1 : Int32)) hx hb dL_law_1429 (by decide) ?_
  refine lv_iadd hx hb dL_law_1430 ?_
  by_cases c379 : (a5 + (1 : Int32)) < 0 ∨ L ≤ ((a5 + (1 : Int32))).toNatClampNeg
  · exact nomatch (opos c379 hf)
  replace hf := oneg c379 hf
  refine va_sld hx hb X.1 X.2.1 X.2.2 hC.2.2.2.2.2.1 c379 dL_law_1431 ?_
  obtain ⟨b382, q383, hf⟩ := obind hf
  obtain ⟨r380, g381, hf⟩ := obind hf
  refine fr_callV hx hb hml hts hown K hC hR ct_8 (c_X8_setTime hfl D cA g381) 1 q383 kw1189 kw1186 kw1187 kw1188 kw62 (by decide +kernel) ⟨by omega, by omega⟩ rfl hl.1 (cat8 _ (by exact Nat.le_of_ble_eq_true rfl)) dL_law_1432 rfl (fun H locs _ _ hC => ?_)
  refine lv_istore (lv' := [(7, .int r380.1), (6, .int v376), (0, .ref b), (1, va_rf a1), (2, va_rf a2), (3, va_rf a3), (4, va_rf a4), (5, .int a5)]) hx hb dL_law_1435 hl (by decide) (congrArg (List.cons _) (flk rfl (flk rfl (flk rfl (flk rfl (flk rfl (flk rfl (flk rfl fln)))))))) (fun ls hl => ?_)
  refine fr_aload_n hx hb dL_law_1437 rfl (lv_at hl 4 rfl) ?_
  obtain ⟨b386, q387, hf⟩ := obind hf
  obtain ⟨r384, g385, hf⟩ := obind hf
  refine fr_callV hx hb hml hts hown K hC hR ct_8 (c_X8_thrown hfl D cA g385) 0 q387 kw1055 kw1052 kw1053 kw1054 kw62 (by decide +kernel) ⟨by omega, by omega⟩ rfl hl.1 (cat8 _ (by exact Nat.le_of_ble_eq_true rfl)) dL_law_1438 rfl (fun H locs _ _ hC => ?_)
  refine lv_iload hx hb dL_law_1441 (lv_at hl 1 rfl) ?_
  refine lv_icmp_eq (tgt := 1448) hx hb dL_law_1443 (by decide) (fun c388 => ?_) (fun c388 => ?_)
  · replace hf := opos c388 hf
    refine lv_iload hx hb dL_law_1448 (lv_at hl 1 rfl) ?_
    refine lv_if_ne (tgt := 1465) hx hb dL_law_1450 (by decide) (fun c389 => ?_) (fun c389 => ?_)
    · replace hf := oneg c389 hf
      exact w_L_law_L1465 M hfl hRf hRl X hend hk28 _ _ _ _ _ _ hf _ _ _ _ _ hC (lv_sub hl [2, 3, 4, 5, 6, 7] rfl)
    · replace hf := opos c389 hf
      refine fr_aload_n hx hb dL_law_1453 rfl (lv_at hl 5 rfl) ?_
      refine lv_iconst (v := (0 : Int32)) hx hb dL_law_1454 (by decide) ?_
      obtain ⟨x390, g391, hf⟩ := obind hf
      refine fr_lald hx hb K hC (t := 1) rfl g391 dL_law_1455 ?_
      refine lv_iload hx hb dL_law_1456 (lv_at hl 0 rfl) ?_
      refine lv_i2l (v := (Int32.toInt64 r380.1)) hx hb dL_law_1458 rfl ?_
      refine fr_lcmp_eq (tgt := 1465) hx hb dL_law_1459 dL_law_1460 (by decide) (fun c392 => ?_) (fun c392 => ?_)
      · replace hf := opos c392 hf
        exact w_L_law_L1465 M hfl hRf hRl X hend hk28 _ _ _ _ _ _ hf _ _ _ _ _ hC (lv_sub hl [2, 3, 4, 5, 6, 7] rfl)
      · replace hf := oneg c392 hf
        refine lv_iconst (v := (0 : Int32)) hx hb dL_law_1463 (by decide) ?_
        exact hend _ _ _ _ _ _ _ _ (Option.some.inj hf) hC dL_law_1464
  · replace hf := oneg c388 hf
    refine lv_iconst (v := (0 : Int32)) hx hb dL_law_1446 (by decide) ?_
    exact hend _ _ _ _ _ _ _ _ (Option.some.inj hf) hC dL_law_1447
set_option maxHeartbeats 4000000 in
set_option maxRecDepth 100000 in
theorem w_L_law_L1468 {p : Program} {l : Launch} {e : Env} {s : State} {m : MethodId} {args : Array Value} {below : List Frame} {meth : Method} {c : Code} {D : va_G} {cA : Nat → ClassId} {h0 : fSt} {r : (Int32 × fSt)} {Q : State → Prop} {R : Room} {b L : Nat} {xs : Nat → Int32} (M : fM p s m args meth c D cA h0 R cL_law 9 (some (.boolean)) RL) (hfl : l.stackTraces = false) (hRf : 35 ≤ R.frames) (hRl : 944 ≤ R.locals) (X : va_X b L xs s s.heap ∧ b < s.heap.size ∧ ¬ fA h0 b) (hend : ∀ (x : Int32) (h : fSt) (H : Heap) (locs : List Loc) (cells slots : Nat) (ls : Array Slot) (pc : Nat), (x, h) = r → fCur D cA s h0 h H locs → decode code pc = .ok (.ireturn, 1) → W p l e R s m args below meth c H locs cells slots Q (F0 m pc ls [.int x])) {k28 : Option Nat → Option Nat → Option Nat → Option Nat → Int32 → fSt → Option (Int32 × fSt)} (hk28 : ∀ (a1 : Option Nat) (a2 : Option Nat) (a3 : Option Nat) (a4 : Option Nat) (a5 : Int32) (h : fSt), k28 a1 a2 a3 a4 a5 h = some r → ∀ (H : Heap) (locs : List Loc) (cells slots : Nat) (ls : Array Slot), fCur D cA s h0 h H locs → lv_has ls 9 [(0, .ref b), (1, va_rf a1), (2, va_rf a2), (3, va_rf a3), (4, va_rf a4), (5, .int a5)] → W p l e R s m args below meth c H locs cells slots Q (F0 m 28 ls [])) (a1 : Option Nat) (a2 : Option Nat) (a3 : Option Nat) (a4 : Option Nat) (a5 : Int32) (h : fSt) (hf : f_L_law_L1468 L xs k28 a1 a2 a3 a4 a5 h = some r) : ∀ (H : Heap) (locs : List Loc) (cells slots : Nat) (ls : Array Slot), fCur D cA s h0 h H locs → lv_has ls 9 [(0, .ref b), (1, va_rf a1), (2, va_rf a2), (3, va_rf a3), (4, va_rf a4), (5, .int a5)] → W p l e R s m args below meth c H locs cells slots Q (F0 m 1468 ls []) := by
  obtain ⟨hx, hb, hml, hr, hlocks, hts, hown, K, hR⟩ := id M
  intro H locs cells slots ls hC hl
  refine fr_aload_n hx hb dL_law_1468 rfl (lv_at hl 1 rfl) ?_
  obtain ⟨b395, q396, hf⟩ := obind hf
  obtain ⟨r393, g394, hf⟩ := obind hf
  refine fr_callV hx hb hml hts hown K hC hR ct_7 (c_X7_tracks hfl D cA g394) 0 q396 kw332 kw329 kw330 kw331 kw55 (by decide +kernel) ⟨by omega, by omega⟩ rfl hl.1 (cat8 _ (by exact Nat.le_of_ble_eq_true rfl)) dL_law_1469 rfl (fun H locs _ _ hC => ?_)
  refine fr_aload_n hx hb dL_law_1472 rfl (lv_at hl 2 rfl) ?_
  obtain ⟨b399, q400, hf⟩ := obind hf
  obtain ⟨r397, g398, hf⟩ := obind hf
  refine fr_callV hx hb hml hts hown K hC hR ct_8 (c_X8_tracks hfl D cA g398) 0 q400 kw1193 kw1190 kw1191 kw1192 kw62 (by decide +kernel) ⟨by omega, by omega⟩ rfl hl.1 (cat8 _ (by exact Nat.le_of_ble_eq_true rfl)) dL_law_1473 rfl (fun H locs _ _ hC => ?_)
  refine lv_icmp_eq (tgt := 2859) hx hb dL_law_1476 (by decide) (fun c401 => ?_) (fun c401 => ?_)
  · replace hf := opos c401 hf
    exact w_L_law_L2859 M hfl hRf hRl X hend hk28 _ _ _ _ _ _ hf _ _ _ _ _ hC (lv_sub hl [0, 1, 2, 3, 4, 5] rfl)
  · replace hf := oneg c401 hf
    refine lv_iconst (v := (0 : Int32)) hx hb dL_law_1479 (by decide) ?_
    exact hend _ _ _ _ _ _ _ _ (Option.some.inj hf) hC dL_law_1480
set_option maxHeartbeats 4000000 in
set_option maxRecDepth 100000 in
theorem w_L_law_L1546 {p : Program} {l : Launch} {e : Env} {s : State} {m : MethodId} {args : Array Value} {below : List Frame} {meth : Method} {c : Code} {D : va_G} {cA : Nat → ClassId} {h0 : fSt} {r : (Int32 × fSt)} {Q : State → Prop} {R : Room} {b L : Nat} {xs : Nat → Int32} (M : fM p s m args meth c D cA h0 R cL_law 9 (some (.boolean)) RL) (hfl : l.stackTraces = false) (hRf : 35 ≤ R.frames) (hRl : 944 ≤ R.locals) (X : va_X b L xs s s.heap ∧ b < s.heap.size ∧ ¬ fA h0 b) (hend : ∀ (x : Int32) (h : fSt) (H : Heap) (locs : List Loc) (cells slots : Nat) (ls : Array Slot) (pc : Nat), (x, h) = r → fCur D cA s h0 h H locs → decode code pc = .ok (.ireturn, 1) → W p l e R s m args below meth c H locs cells slots Q (F0 m pc ls [.int x])) {k28 : Option Nat → Option Nat → Option Nat → Option Nat → Int32 → fSt → Option (Int32 × fSt)} (hk28 : ∀ (a1 : Option Nat) (a2 : Option Nat) (a3 : Option Nat) (a4 : Option Nat) (a5 : Int32) (h : fSt), k28 a1 a2 a3 a4 a5 h = some r → ∀ (H : Heap) (locs : List Loc) (cells slots : Nat) (ls : Array Slot), fCur D cA s h0 h H locs → lv_has ls 9 [(0, .ref b), (1, va_rf a1), (2, va_rf a2), (3, va_rf a3), (4, va_rf a4), (5, .int a5)] → W p l e R s m args below meth c H locs cells slots Q (F0 m 28 ls [])) (a1 : Option Nat) (a2 : Option Nat) (a3 : Option Nat) (a4 : Option Nat) (a5 : Int32) (h : fSt) (hf : f_L_law_L1546 L xs k28 a1 a2 a3 a4 a5 h = some r) : ∀ (H : Heap) (locs : List Loc) (cells slots : Nat) (ls : Array Slot), fCur D cA s h0 h H locs → lv_has ls 9 [(0, .ref b), (1, va_rf a1), (2, va_rf a2), (3, va_rf a3), (4, va_rf a4), (5, .int a5)] → W p l e R s m args below meth c H locs cells slots Q (F0 m 1546 ls []) := by
  obtain ⟨hx, hb, hml, hr, hlocks, hts, hown, K, hR⟩ := id M
  intro H locs cells slots ls hC hl
  refine lv_goto (tgt := 2859) hx hb dL_law_1546 (by decide) ?_
  exact w_L_law_L2859 M hfl hRf hRl X hend hk28 _ _ _ _ _ _ hf _ _ _ _ _ hC (lv_sub hl [0, 1, 2, 3, 4, 5] rfl)
set_option maxHeartbeats 4000000 in
set_option maxRecDepth 100000 in
theorem w_L_law_L1481 {p : Program} {l : Launch} {e : Env} {s : State} {m : MethodId} {args : Array Value} {below : List Frame} {meth : Method} {c : Code} {D : va_G} {cA : Nat → ClassId} {h0 : fSt} {r : (Int32 × fSt)} {Q : State → Prop} {R : Room} {b L : Nat} {xs : Nat → Int32} (M : fM p s m args meth c D cA h0 R cL_law 9 (some (.boolean)) RL) (hfl : l.stackTraces = false) (hRf : 35 ≤ R.frames) (hRl : 944 ≤ R.locals) (X : va_X b L xs s s.heap ∧ b < s.heap.size ∧ ¬ fA h0 b) (hend : ∀ (x : Int32) (h : fSt) (H : Heap) (locs : List Loc) (cells slots : Nat) (ls : Array Slot) (pc : Nat), (x, h) = r → fCur D cA s h0 h H locs → decode code pc = .ok (.ireturn, 1) → W p l e R s m args below meth c H locs cells slots Q (F0 m pc ls [.int x])) {k28 : Option Nat → Option Nat → Option Nat → Option Nat → Int32 → fSt → Option (Int32 × fSt)} (hk28 : ∀ (a1 : Option Nat) (a2 : Option Nat) (a3 : Option Nat) (a4 : Option Nat) (a5 : Int32) (h : fSt), k28 a1 a2 a3 a4 a5 h = some r → ∀ (H : Heap) (locs : List Loc) (cells slots : Nat) (ls : Array Slot), fCur D cA s h0 h H locs → lv_has ls 9 [(0, .ref b), (1, va_rf a1), (2, va_rf a2), (3, va_rf a3), (4, va_rf a4), (5, .int a5)] → W p l e R s m args below meth c H locs cells slots Q (F0 m 28 ls [])) (a1 : Option Nat) (a2 : Option Nat) (a3 : Option Nat) (a4 : Option Nat) (a5 : Int32) (h : fSt) (hf : f_L_law_L1481 L xs k28 a1 a2 a3 a4 a5 h = some r) : ∀ (H : Heap) (locs : List Loc) (cells slots : Nat) (ls : Array Slot), fCur D cA s h0 h H locs → lv_has ls 9 [(0, .ref b), (1, va_rf a1), (2, va_rf a2), (3, va_rf a3), (4, va_rf a4), (5, .int a5)] → W p l e R s m args below meth c H locs cells slots Q (F0 m 1481 ls []) := by
  obtain ⟨hx, hb, hml, hr, hlocks, hts, hown, K, hR⟩ := id M
  intro H locs cells slots ls hC hl
  refine fr_aload_n hx hb dL_law_1481 rfl (lv_at hl 1 rfl) ?_
  refine lv_aload_n hx hb dL_law_1482 rfl (lv_at hl 0 rfl) ?_
  refine lv_iload hx hb dL_law_1483 (lv_at hl 5 rfl) ?_
  refine lv_iconst (v := (1 : Int32)) hx hb dL_law_1485 (by decide) ?_
  refine lv_iadd hx hb dL_law_1486 ?_
  by_cases c402 : (a5 + (1 : Int32)) < 0 ∨ L ≤ ((a5 + (1 : Int32))).toNatClampNeg
  · exact nomatch (opos c402 hf)
  replace hf := oneg c402 hf
  refine va_sld hx hb X.1 X.2.1 X.2.2 hC.2.2.2.2.2.1 c402 dL_law_1487 ?_
  refine lv_aload_n hx hb dL_law_1488 rfl (lv_at hl 0 rfl) ?_
  refine lv_iload hx hb dL_law_1489 (lv_at hl 5 rfl) ?_
  refine lv_iconst (v := (2 : Int32)) hx hb dL_law_1491 (by decide) ?_
  refine lv_iadd hx hb dL_law_1492 ?_
  by_cases c403 : (a5 + (2 : Int32)) < 0 ∨ L ≤ ((a5 + (2 : Int32))).toNatClampNeg
  · exact nomatch (opos c403 hf)
  replace hf := oneg c403 hf
  refine va_sld hx hb X.1 X.2.1 X.2.2 hC.2.2.2.2.2.1 c403 dL_law_1493 ?_
  refine fr_aload_n hx hb dL_law_1494 rfl (lv_at hl 3 rfl) ?_
  obtain ⟨⟨v406 | k407, h408⟩, g405, hf⟩ := obind hf
  rotate_left
  · exact nomatch (show (none : Option (Int32 × fSt)) = some _ from hf)
  replace hf := fci hf
  refine fr_callSH hx hb hml hts hown K hC hR (c_L_now hfl D cA g405) 4 kw829 kw827 kw828 kw54 (by decide +kernel) ⟨by omega, by omega⟩ rfl hl.1 (cat8 _ (by exact Nat.le_of_ble_eq_true rfl)) dL_law_1495 rfl (fun H locs _ _ hC => ?_)
  refine lv_istore (lv' := [(6, .int v406), (0, .ref b), (1, va_rf a1), (2, va_rf a2), (3, va_rf a3), (4, va_rf a4), (5, .int a5)]) hx hb dL_law_1498 hl (by decide) (congrArg (List.cons _) (flk rfl (flk rfl (flk rfl (flk rfl (flk rfl (flk rfl fln))))))) (fun ls hl => ?_)
  refine fr_aload_n hx hb dL_law_1500 rfl (lv_at hl 3 rfl) ?_
  refine lv_aload_n hx hb dL_law_1501 rfl (lv_at hl 1 rfl) ?_
  refine lv_iload hx hb dL_law_1502 (lv_at hl 6 rfl) ?_
  refine lv_iconst (v := (1 : Int32)) hx hb dL_law_1504 (by decide) ?_
  refine lv_iadd hx hb dL_law_1505 ?_
  by_cases c409 : (a5 + (1 : Int32)) < 0 ∨ L ≤ ((a5 + (1 : Int32))).toNatClampNeg
  · exact nomatch (opos c409 hf)
  replace hf := oneg c409 hf
  refine va_sld hx hb X.1 X.2.1 X.2.2 hC.2.2.2.2.2.1 c409 dL_law_1506 ?_
  refine lv_aload_n hx hb dL_law_1507 rfl (lv_at hl 1 rfl) ?_
  refine lv_iload hx hb dL_law_1508 (lv_at hl 6 rfl) ?_
  refine lv_iconst (v := (2 : Int32)) hx hb dL_law_1510 (by decide) ?_
  refine lv_iadd hx hb dL_law_1511 ?_
  by_cases c410 : (a5 + (2 : Int32)) < 0 ∨ L ≤ ((a5 + (2 : Int32))).toNatClampNeg
  · exact nomatch (opos c410 hf)
  replace hf := oneg c410 hf
  refine va_sld hx hb X.1 X.2.1 X.2.2 hC.2.2.2.2.2.1 c410 dL_law_1512 ?_
  obtain ⟨b413, q414, hf⟩ := obind hf
  obtain ⟨r411, g412, hf⟩ := obind hf
  refine fr_callV hx hb hml hts hown K hC hR ct_8 (c_X8_now hfl D cA g412) 2 q414 kw1197 kw1194 kw1195 kw1196 kw62 (by decide +kernel) ⟨by omega, by omega⟩ rfl hl.1 (cat8 _ (by exact Nat.le_of_ble_eq_true rfl)) dL_law_1513 rfl (fun H locs _ _ hC => ?_)
  refine lv_istore (lv' := [(7, .int r411.1), (6, .int v406), (0, .ref b), (1, va_rf a1), (2, va_rf a2), (3, va_rf a3), (4, va_rf a4), (5, .int a5)]) hx hb dL_law_1516 hl (by decide) (congrArg (List.cons _) (flk rfl (flk rfl (flk rfl (flk rfl (flk rfl (flk rfl (flk rfl fln)))))))) (fun ls hl => ?_)
  refine fr_aload_n hx hb dL_law_1518 rfl (lv_at hl 4 rfl) ?_
  obtain ⟨b417, q418, hf⟩ := obind hf
  obtain ⟨r415, g416, hf⟩ := obind hf
  refine fr_callV hx hb hml hts hown K hC hR ct_8 (c_X8_thrown hfl D cA g416) 0 q418 kw1055 kw1052 kw1053 kw1054 kw62 (by decide +kernel) ⟨by omega, by omega⟩ rfl hl.1 (cat8 _ (by exact Nat.le_of_ble_eq_true rfl)) dL_law_1519 rfl (fun H locs _ _ hC => ?_)
  refine lv_iload hx hb dL_law_1522 (lv_at hl 1 rfl) ?_
  refine lv_icmp_eq (tgt := 1529) hx hb dL_law_1524 (by decide) (fun c419 => ?_) (fun c419 => ?_)
  · replace hf := opos c419 hf
    refine lv_iload hx hb dL_law_1529 (lv_at hl 1 rfl) ?_
    refine lv_if_ne (tgt := 1546) hx hb dL_law_1531 (by decide) (fun c420 => ?_) (fun c420 => ?_)
    · replace hf := oneg c420 hf
      exact w_L_law_L1546 M hfl hRf hRl X hend hk28 _ _ _ _ _ _ hf _ _ _ _ _ hC (lv_sub hl [2, 3, 4, 5, 6, 7] rfl)
    · replace hf := opos c420 hf
      refine fr_aload_n hx hb dL_law_1534 rfl (lv_at hl 5 rfl) ?_
      refine lv_iconst (v := (0 : Int32)) hx hb dL_law_1535 (by decide) ?_
      obtain ⟨x421, g422, hf⟩ := obind hf
      refine fr_lald hx hb K hC (t := 1) rfl g422 dL_law_1536 ?_
      refine lv_iload hx hb dL_law_1537 (lv_at hl 0 rfl) ?_
      refine lv_i2l (v := (Int32.toInt64 r411.1)) hx hb dL_law_1539 rfl ?_
      refine fr_lcmp_eq (tgt := 1546) hx hb dL_law_1540 dL_law_1541 (by decide) (fun c423 => ?_) (fun c423 => ?_)
      · replace hf := opos c423 hf
        exact w_L_law_L1546 M hfl hRf hRl X hend hk28 _ _ _ _ _ _ hf _ _ _ _ _ hC (lv_sub hl [2, 3, 4, 5, 6, 7] rfl)
      · replace hf := oneg c423 hf
        refine lv_iconst (v := (0 : Int32)) hx hb dL_law_1544 (by decide) ?_
        exact hend _ _ _ _ _ _ _ _ (Option.some.inj hf) hC dL_law_1545
  · replace hf := oneg c419 hf
    refine lv_iconst (v := (0 : Int32)) hx hb dL_law_1527 (by decide) ?_
    exact hend _ _ _ _ _ _ _ _ (Option.some.inj hf) hC dL_law_1528
set_option maxHeartbeats 4000000 in
set_option maxRecDepth 100000 in
theorem w_L_law_L1549 {p : Program} {l : Launch} {e : Env} {s : State} {m : MethodId} {args : Array Value} {below : List Frame} {meth : Method} {c : Code} {D : va_G} {cA : Nat → ClassId} {h0 : fSt} {r : (Int32 × fSt)} {Q : State → Prop} {R : Room} {b L : Nat} {xs : Nat → Int32} (M : fM p s m args meth c D cA h0 R cL_law 9 (some (.boolean)) RL) (hfl : l.stackTraces = false) (hRf : 35 ≤ R.frames) (hRl : 944 ≤ R.locals) (X : va_X b L xs s s.heap ∧ b < s.heap.size ∧ ¬ fA h0 b) (hend : ∀ (x : Int32) (h : fSt) (H : Heap) (locs : List Loc) (cells slots : Nat) (ls : Array Slot) (pc : Nat), (x, h) = r → fCur D cA s h0 h H locs → decode code pc = .ok (.ireturn, 1) → W p l e R s m args below meth c H locs cells slots Q (F0 m pc ls [.int x])) {k28 : Option Nat → Option Nat → Option Nat → Option Nat → Int32 → fSt → Option (Int32 × fSt)} (hk28 : ∀ (a1 : Option Nat) (a2 : Option Nat) (a3 : Option Nat) (a4 : Option Nat) (a5 : Int32) (h : fSt), k28 a1 a2 a3 a4 a5 h = some r → ∀ (H : Heap) (locs : List Loc) (cells slots : Nat) (ls : Array Slot), fCur D cA s h0 h H locs → lv_has ls 9 [(0, .ref b), (1, va_rf a1), (2, va_rf a2), (3, va_rf a3), (4, va_rf a4), (5, .int a5)] → W p l e R s m args below meth c H locs cells slots Q (F0 m 28 ls [])) (a1 : Option Nat) (a2 : Option Nat) (a3 : Option Nat) (a4 : Option Nat) (a5 : Int32) (h : fSt) (hf : f_L_law_L1549 L xs k28 a1 a2 a3 a4 a5 h = some r) : ∀ (H : Heap) (locs : List Loc) (cells slots : Nat) (ls : Array Slot), fCur D cA s h0 h H locs → lv_has ls 9 [(0, .ref b), (1, va_rf a1), (2, va_rf a2), (3, va_rf a3), (4, va_rf a4), (5, .int a5)] → W p l e R s m args below meth c H locs cells slots Q (F0 m 1549 ls []) := by
  obtain ⟨hx, hb, hml, hr, hlocks, hts, hown, K, hR⟩ := id M
  intro H locs cells slots ls hC hl
  refine fr_aload_n hx hb dL_law_1549 rfl (lv_at hl 1 rfl) ?_
  obtain ⟨b426, q427, hf⟩ := obind hf
  obtain ⟨r424, g425, hf⟩ := obind hf
  refine fr_callV hx hb hml hts hown K hC hR ct_7 (c_X7_nextKey hfl D cA g425) 0 q427 kw336 kw333 kw334 kw335 kw55 (by decide +kernel) ⟨by omega, by omega⟩ rfl hl.1 (cat8 _ (by exact Nat.le_of_ble_eq_true rfl)) dL_law_1550 rfl (fun H locs _ _ hC => ?_)
  refine fr_aload_n hx hb dL_law_1553 rfl (lv_at hl 2 rfl) ?_
  obtain ⟨b430, q431, hf⟩ := obind hf
  obtain ⟨r428, g429, hf⟩ := obind hf
  refine fr_callV hx hb hml hts hown K hC hR ct_8 (c_X8_nextKey hfl D cA g429) 0 q431 kw1215 kw1212 kw1213 kw1214 kw62 (by decide +kernel) ⟨by omega, by omega⟩ rfl hl.1 (cat8 _ (by exact Nat.le_of_ble_eq_true rfl)) dL_law_1554 rfl (fun H locs _ _ hC => ?_)
  refine lv_icmp_eq (tgt := 2859) hx hb dL_law_1557 (by decide) (fun c432 => ?_) (fun c432 => ?_)
  · replace hf := opos c432 hf
    exact w_L_law_L2859 M hfl hRf hRl X hend hk28 _ _ _ _ _ _ hf _ _ _ _ _ hC (lv_sub hl [0, 1, 2, 3, 4, 5] rfl)
  · replace hf := oneg c432 hf
    refine lv_iconst (v := (0 : Int32)) hx hb dL_law_1560 (by decide) ?_
    exact hend _ _ _ _ _ _ _ _ (Option.some.inj hf) hC dL_law_1561
set_option maxHeartbeats 4000000 in
set_option maxRecDepth 100000 in
theorem w_L_law_L1651 {p : Program} {l : Launch} {e : Env} {s : State} {m : MethodId} {args : Array Value} {below : List Frame} {meth : Method} {c : Code} {D : va_G} {cA : Nat → ClassId} {h0 : fSt} {r : (Int32 × fSt)} {Q : State → Prop} {R : Room} {b L : Nat} {xs : Nat → Int32} (M : fM p s m args meth c D cA h0 R cL_law 9 (some (.boolean)) RL) (hfl : l.stackTraces = false) (hRf : 35 ≤ R.frames) (hRl : 944 ≤ R.locals) (X : va_X b L xs s s.heap ∧ b < s.heap.size ∧ ¬ fA h0 b) (hend : ∀ (x : Int32) (h : fSt) (H : Heap) (locs : List Loc) (cells slots : Nat) (ls : Array Slot) (pc : Nat), (x, h) = r → fCur D cA s h0 h H locs → decode code pc = .ok (.ireturn, 1) → W p l e R s m args below meth c H locs cells slots Q (F0 m pc ls [.int x])) {k28 : Option Nat → Option Nat → Option Nat → Option Nat → Int32 → fSt → Option (Int32 × fSt)} (hk28 : ∀ (a1 : Option Nat) (a2 : Option Nat) (a3 : Option Nat) (a4 : Option Nat) (a5 : Int32) (h : fSt), k28 a1 a2 a3 a4 a5 h = some r → ∀ (H : Heap) (locs : List Loc) (cells slots : Nat) (ls : Array Slot), fCur D cA s h0 h H locs → lv_has ls 9 [(0, .ref b), (1, va_rf a1), (2, va_rf a2), (3, va_rf a3), (4, va_rf a4), (5, .int a5)] → W p l e R s m args below meth c H locs cells slots Q (F0 m 28 ls [])) (a1 : Option Nat) (a2 : Option Nat) (a3 : Option Nat) (a4 : Option Nat) (a5 : Int32) (h : fSt) (hf : f_L_law_L1651 L xs k28 a1 a2 a3 a4 a5 h = some r) : ∀ (H : Heap) (locs : List Loc) (cells slots : Nat) (ls : Array Slot), fCur D cA s h0 h H locs → lv_has ls 9 [(0, .ref b), (1, va_rf a1), (2, va_rf a2), (3, va_rf a3), (4, va_rf a4), (5, .int a5)] → W p l e R s m args below meth c H locs cells slots Q (F0 m 1651 ls []) := by
  obtain ⟨hx, hb, hml, hr, hlocks, hts, hown, K, hR⟩ := id M
  intro H locs cells slots ls hC hl
  refine lv_goto (tgt := 2859) hx hb dL_law_1651 (by decide) ?_
  exact w_L_law_L2859 M hfl hRf hRl X hend hk28 _ _ _ _ _ _ hf _ _ _ _ _ hC (lv_sub hl [0, 1, 2, 3, 4, 5] rfl)
set_option maxHeartbeats 4000000 in
set_option maxRecDepth 100000 in
theorem w_L_law_L1562 {p : Program} {l : Launch} {e : Env} {s : State} {m : MethodId} {args : Array Value} {below : List Frame} {meth : Method} {c : Code} {D : va_G} {cA : Nat → ClassId} {h0 : fSt} {r : (Int32 × fSt)} {Q : State → Prop} {R : Room} {b L : Nat} {xs : Nat → Int32} (M : fM p s m args meth c D cA h0 R cL_law 9 (some (.boolean)) RL) (hfl : l.stackTraces = false) (hRf : 35 ≤ R.frames) (hRl : 944 ≤ R.locals) (X : va_X b L xs s s.heap ∧ b < s.heap.size ∧ ¬ fA h0 b) (hend : ∀ (x : Int32) (h : fSt) (H : Heap) (locs : List Loc) (cells slots : Nat) (ls : Array Slot) (pc : Nat), (x, h) = r → fCur D cA s h0 h H locs → decode code pc = .ok (.ireturn, 1) → W p l e R s m args below meth c H locs cells slots Q (F0 m pc ls [.int x])) {k28 : Option Nat → Option Nat → Option Nat → Option Nat → Int32 → fSt → Option (Int32 × fSt)} (hk28 : ∀ (a1 : Option Nat) (a2 : Option Nat) (a3 : Option Nat) (a4 : Option Nat) (a5 : Int32) (h : fSt), k28 a1 a2 a3 a4 a5 h = some r → ∀ (H : Heap) (locs : List Loc) (cells slots : Nat) (ls : Array Slot), fCur D cA s h0 h H locs → lv_has ls 9 [(0, .ref b), (1, va_rf a1), (2, va_rf a2), (3, va_rf a3), (4, va_rf a4), (5, .int a5)] → W p l e R s m args below meth c H locs cells slots Q (F0 m 28 ls [])) (a1 : Option Nat) (a2 : Option Nat) (a3 : Option Nat) (a4 : Option Nat) (a5 : Int32) (h : fSt) (hf : f_L_law_L1562 L xs k28 a1 a2 a3 a4 a5 h = some r) : ∀ (H : Heap) (locs : List Loc) (cells slots : Nat) (ls : Array Slot), fCur D cA s h0 h H locs → lv_has ls 9 [(0, .ref b), (1, va_rf a1), (2, va_rf a2), (3, va_rf a3), (4, va_rf a4), (5, .int a5)] → W p l e R s m args below meth c H locs cells slots Q (F0 m 1562 ls []) := by
  obtain ⟨hx, hb, hml, hr, hlocks, hts, hown, K, hR⟩ := id M
  intro H locs cells slots ls hC hl
  refine fr_aload_n hx hb dL_law_1562 rfl (lv_at hl 1 rfl) ?_
  refine lv_aload_n hx hb dL_law_1563 rfl (lv_at hl 0 rfl) ?_
  refine lv_iload hx hb dL_law_1564 (lv_at hl 5 rfl) ?_
  refine lv_iconst (v := (1 : Int32)) hx hb dL_law_1566 (by decide) ?_
  refine lv_iadd hx hb dL_law_1567 ?_
  by_cases c433 : (a5 + (1 : Int32)) < 0 ∨ L ≤ ((a5 + (1 : Int32))).toNatClampNeg
  · exact nomatch (opos c433 hf)
  replace hf := oneg c433 hf
  refine va_sld hx hb X.1 X.2.1 X.2.2 hC.2.2.2.2.2.1 c433 dL_law_1568 ?_
  refine lv_aload_n hx hb dL_law_1569 rfl (lv_at hl 0 rfl) ?_
  refine lv_iload hx hb dL_law_1570 (lv_at hl 5 rfl) ?_
  refine lv_iconst (v := (2 : Int32)) hx hb dL_law_1572 (by decide) ?_
  refine lv_iadd hx hb dL_law_1573 ?_
  by_cases c434 : (a5 + (2 : Int32)) < 0 ∨ L ≤ ((a5 + (2 : Int32))).toNatClampNeg
  · exact nomatch (opos c434 hf)
  replace hf := oneg c434 hf
  refine va_sld hx hb X.1 X.2.1 X.2.2 hC.2.2.2.2.2.1 c434 dL_law_1574 ?_
  refine lv_aload_n hx hb dL_law_1575 rfl (lv_at hl 0 rfl) ?_
  refine lv_iload hx hb dL_law_1576 (lv_at hl 5 rfl) ?_
  refine lv_iconst (v := (3 : Int32)) hx hb dL_law_1578 (by decide) ?_
  refine lv_iadd hx hb dL_law_1579 ?_
  by_cases c435 : (a5 + (3 : Int32)) < 0 ∨ L ≤ ((a5 + (3 : Int32))).toNatClampNeg
  · exact nomatch (opos c435 hf)
  replace hf := oneg c435 hf
  refine va_sld hx hb X.1 X.2.1 X.2.2 hC.2.2.2.2.2.1 c435 dL_law_1580 ?_
  refine lv_aload_n hx hb dL_law_1581 rfl (lv_at hl 0 rfl) ?_
  refine lv_iload hx hb dL_law_1582 (lv_at hl 5 rfl) ?_
  refine lv_iconst (v := (4 : Int32)) hx hb dL_law_1584 (by decide) ?_
  refine lv_iadd hx hb dL_law_1585 ?_
  by_cases c436 : (a5 + (4 : Int32)) < 0 ∨ L ≤ ((a5 + (4 : Int32))).toNatClampNeg
  · exact nomatch (opos c436 hf)
  replace hf := oneg c436 hf
  refine va_sld hx hb X.1 X.2.1 X.2.2 hC.2.2.2.2.2.1 c436 dL_law_1586 ?_
  refine fr_aload_n hx hb dL_law_1587 rfl (lv_at hl 3 rfl) ?_
  obtain ⟨⟨v439 | k440, h441⟩, g438, hf⟩ := obind hf
  rotate_left
  · exact nomatch (show (none : Option (Int32 × fSt)) = some _ from hf)
  replace hf := fci hf
  refine fr_callSH hx hb hml hts hown K hC hR (c_L_toWhole hfl D cA g438) 6 kw837 kw835 kw836 kw54 (by decide +kernel) ⟨by omega, by omega⟩ rfl hl.1 (cat8 _ (by exact Nat.le_of_ble_eq_true rfl)) dL_law_1588 rfl (fun H locs _ _ hC => ?_)
  refine lv_istore (lv' := [(6, .int v439), (0, .ref b), (1, va_rf a1), (2, va_rf a2), (3, va_rf a3), (4, va_rf a4), (5, .int a5)]) hx hb dL_law_1591 hl (by decide) (congrArg (List.cons _) (flk rfl (flk rfl (flk rfl (flk rfl (flk rfl (flk rfl fln))))))) (fun ls hl => ?_)
  refine fr_aload_n hx hb dL_law_1593 rfl (lv_at hl 3 rfl) ?_
  refine lv_aload_n hx hb dL_law_1594 rfl (lv_at hl 1 rfl) ?_
  refine lv_iload hx hb dL_law_1595 (lv_at hl 6 rfl) ?_
  refine lv_iconst (v := (1 : Int32)) hx hb dL_law_1597 (by decide) ?_
  refine lv_iadd hx hb dL_law_1598 ?_
  by_cases c442 : (a5 + (1 : Int32)) < 0 ∨ L ≤ ((a5 + (1 : Int32))).toNatClampNeg
  · exact nomatch (opos c442 hf)
  replace hf := oneg c442 hf
  refine va_sld hx hb X.1 X.2.1 X.2.2 hC.2.2.2.2.2.1 c442 dL_law_1599 ?_
  refine lv_aload_n hx hb dL_law_1600 rfl (lv_at hl 1 rfl) ?_
  refine lv_iload hx hb dL_law_1601 (lv_at hl 6 rfl) ?_
  refine lv_iconst (v := (2 : Int32)) hx hb dL_law_1603 (by decide) ?_
  refine lv_iadd hx hb dL_law_1604 ?_
  by_cases c443 : (a5 + (2 : Int32)) < 0 ∨ L ≤ ((a5 + (2 : Int32))).toNatClampNeg
  · exact nomatch (opos c443 hf)
  replace hf := oneg c443 hf
  refine va_sld hx hb X.1 X.2.1 X.2.2 hC.2.2.2.2.2.1 c443 dL_law_1605 ?_
  refine lv_aload_n hx hb dL_law_1606 rfl (lv_at hl 1 rfl) ?_
  refine lv_iload hx hb dL_law_1607 (lv_at hl 6 rfl) ?_
  refine lv_iconst (v := (3 : Int32)) hx hb dL_law_1609 (by decide) ?_
  refine lv_iadd hx hb dL_law_1610 ?_
  by_cases c444 : (a5 + (3 : Int32)) < 0 ∨ L ≤ ((a5 + (3 : Int32))).toNatClampNeg
  · exact nomatch (opos c444 hf)
  replace hf := oneg c444 hf
  refine va_sld hx hb X.1 X.2.1 X.2.2 hC.2.2.2.2.2.1 c444 dL_law_1611 ?_
  refine lv_aload_n hx hb dL_law_1612 rfl (lv_at hl 1 rfl) ?_
  refine lv_iload hx hb dL_law_1613 (lv_at hl 6 rfl) ?_
  refine lv_iconst (v := (4 : Int32)) hx hb dL_law_1615 (by decide) ?_
  refine lv_iadd hx hb dL_law_1616 ?_
  by_cases c445 : (a5 + (4 : Int32)) < 0 ∨ L ≤ ((a5 + (4 : Int32))).toNatClampNeg
  · exact nomatch (opos c445 hf)
  replace hf := oneg c445 hf
  refine va_sld hx hb X.1 X.2.1 X.2.2 hC.2.2.2.2.2.1 c445 dL_law_1617 ?_
  obtain ⟨b448, q449, hf⟩ := obind hf
  obtain ⟨r446, g447, hf⟩ := obind hf
  refine fr_callV hx hb hml hts hown K hC hR ct_8 (c_X8_toWhole hfl D cA g447) 4 q449 kw1223 kw1220 kw1221 kw1222 kw62 (by decide +kernel) ⟨by omega, by omega⟩ rfl hl.1 (cat8 _ (by exact Nat.le_of_ble_eq_true rfl)) dL_law_1618 rfl (fun H locs _ _ hC => ?_)
  refine lv_istore (lv' := [(7, .int r446.1), (6, .int v439), (0, .ref b), (1, va_rf a1), (2, va_rf a2), (3, va_rf a3), (4, va_rf a4), (5, .int a5)]) hx hb dL_law_1621 hl (by decide) (congrArg (List.cons _) (flk rfl (flk rfl (flk rfl (flk rfl (flk rfl (flk rfl (flk rfl fln)))))))) (fun ls hl => ?_)
  refine fr_aload_n hx hb dL_law_1623 rfl (lv_at hl 4 rfl) ?_
  obtain ⟨b452, q453, hf⟩ := obind hf
  obtain ⟨r450, g451, hf⟩ := obind hf
  refine fr_callV hx hb hml hts hown K hC hR ct_8 (c_X8_thrown hfl D cA g451) 0 q453 kw1055 kw1052 kw1053 kw1054 kw62 (by decide +kernel) ⟨by omega, by omega⟩ rfl hl.1 (cat8 _ (by exact Nat.le_of_ble_eq_true rfl)) dL_law_1624 rfl (fun H locs _ _ hC => ?_)
  refine lv_iload hx hb dL_law_1627 (lv_at hl 1 rfl) ?_
  refine lv_icmp_eq (tgt := 1634) hx hb dL_law_1629 (by decide) (fun c454 => ?_) (fun c454 => ?_)
  · replace hf := opos c454 hf
    refine lv_iload hx hb dL_law_1634 (lv_at hl 1 rfl) ?_
    refine lv_if_ne (tgt := 1651) hx hb dL_law_1636 (by decide) (fun c455 => ?_) (fun c455 => ?_)
    · replace hf := oneg c455 hf
      exact w_L_law_L1651 M hfl hRf hRl X hend hk28 _ _ _ _ _ _ hf _ _ _ _ _ hC (lv_sub hl [2, 3, 4, 5, 6, 7] rfl)
    · replace hf := opos c455 hf
      refine fr_aload_n hx hb dL_law_1639 rfl (lv_at hl 5 rfl) ?_
      refine lv_iconst (v := (0 : Int32)) hx hb dL_law_1640 (by decide) ?_
      obtain ⟨x456, g457, hf⟩ := obind hf
      refine fr_lald hx hb K hC (t := 1) rfl g457 dL_law_1641 ?_
      refine lv_iload hx hb dL_law_1642 (lv_at hl 0 rfl) ?_
      refine lv_i2l (v := (Int32.toInt64 r446.1)) hx hb dL_law_1644 rfl ?_
      refine fr_lcmp_eq (tgt := 1651) hx hb dL_law_1645 dL_law_1646 (by decide) (fun c458 => ?_) (fun c458 => ?_)
      · replace hf := opos c458 hf
        exact w_L_law_L1651 M hfl hRf hRl X hend hk28 _ _ _ _ _ _ hf _ _ _ _ _ hC (lv_sub hl [2, 3, 4, 5, 6, 7] rfl)
      · replace hf := oneg c458 hf
        refine lv_iconst (v := (0 : Int32)) hx hb dL_law_1649 (by decide) ?_
        exact hend _ _ _ _ _ _ _ _ (Option.some.inj hf) hC dL_law_1650
  · replace hf := oneg c454 hf
    refine lv_iconst (v := (0 : Int32)) hx hb dL_law_1632 (by decide) ?_
    exact hend _ _ _ _ _ _ _ _ (Option.some.inj hf) hC dL_law_1633
set_option maxHeartbeats 4000000 in
set_option maxRecDepth 100000 in
theorem w_L_law_L1743 {p : Program} {l : Launch} {e : Env} {s : State} {m : MethodId} {args : Array Value} {below : List Frame} {meth : Method} {c : Code} {D : va_G} {cA : Nat → ClassId} {h0 : fSt} {r : (Int32 × fSt)} {Q : State → Prop} {R : Room} {b L : Nat} {xs : Nat → Int32} (M : fM p s m args meth c D cA h0 R cL_law 9 (some (.boolean)) RL) (hfl : l.stackTraces = false) (hRf : 35 ≤ R.frames) (hRl : 944 ≤ R.locals) (X : va_X b L xs s s.heap ∧ b < s.heap.size ∧ ¬ fA h0 b) (hend : ∀ (x : Int32) (h : fSt) (H : Heap) (locs : List Loc) (cells slots : Nat) (ls : Array Slot) (pc : Nat), (x, h) = r → fCur D cA s h0 h H locs → decode code pc = .ok (.ireturn, 1) → W p l e R s m args below meth c H locs cells slots Q (F0 m pc ls [.int x])) {k28 : Option Nat → Option Nat → Option Nat → Option Nat → Int32 → fSt → Option (Int32 × fSt)} (hk28 : ∀ (a1 : Option Nat) (a2 : Option Nat) (a3 : Option Nat) (a4 : Option Nat) (a5 : Int32) (h : fSt), k28 a1 a2 a3 a4 a5 h = some r → ∀ (H : Heap) (locs : List Loc) (cells slots : Nat) (ls : Array Slot), fCur D cA s h0 h H locs → lv_has ls 9 [(0, .ref b), (1, va_rf a1), (2, va_rf a2), (3, va_rf a3), (4, va_rf a4), (5, .int a5)] → W p l e R s m args below meth c H locs cells slots Q (F0 m 28 ls [])) (a1 : Option Nat) (a2 : Option Nat) (a3 : Option Nat) (a4 : Option Nat) (a5 : Int32) (h : fSt) (hf : f_L_law_L1743 L xs k28 a1 a2 a3 a4 a5 h = some r) : ∀ (H : Heap) (locs : List Loc) (cells slots : Nat) (ls : Array Slot), fCur D cA s h0 h H locs → lv_has ls 9 [(0, .ref b), (1, va_rf a1), (2, va_rf a2), (3, va_rf a3), (4, va_rf a4), (5, .int a5)] → W p l e R s m args below meth c H locs cells slots Q (F0 m 1743 ls []) := by
  obtain ⟨hx, hb, hml, hr, hlocks, hts, hown, K, hR⟩ := id M
  intro H locs cells slots ls hC hl
  refine lv_goto (tgt := 2859) hx hb dL_law_1743 (by decide) ?_
  exact w_L_law_L2859 M hfl hRf hRl X hend hk28 _ _ _ _ _ _ hf _ _ _ _ _ hC (lv_sub hl [0, 1, 2, 3, 4, 5] rfl)
set_option maxHeartbeats 4000000 in
set_option maxRecDepth 100000 in
theorem w_L_law_L1654 {p : Program} {l : Launch} {e : Env} {s : State} {m : MethodId} {args : Array Value} {below : List Frame} {meth : Method} {c : Code} {D : va_G} {cA : Nat → ClassId} {h0 : fSt} {r : (Int32 × fSt)} {Q : State → Prop} {R : Room} {b L : Nat} {xs : Nat → Int32} (M : fM p s m args meth c D cA h0 R cL_law 9 (some (.boolean)) RL) (hfl : l.stackTraces = false) (hRf : 35 ≤ R.frames) (hRl : 944 ≤ R.locals) (X : va_X b L xs s s.heap ∧ b < s.heap.size ∧ ¬ fA h0 b) (hend : ∀ (x : Int32) (h : fSt) (H : Heap) (locs : List Loc) (cells slots : Nat) (ls : Array Slot) (pc : Nat), (x, h) = r → fCur D cA s h0 h H locs → decode code pc = .ok (.ireturn, 1) → W p l e R s m args below meth c H locs cells slots Q (F0 m pc ls [.int x])) {k28 : Option Nat → Option Nat → Option Nat → Option Nat → Int32 → fSt → Option (Int32 × fSt)} (hk28 : ∀ (a1 : Option Nat) (a2 : Option Nat) (a3 : Option Nat) (a4 : Option Nat) (a5 : Int32) (h : fSt), k28 a1 a2 a3 a4 a5 h = some r → ∀ (H : Heap) (locs : List Loc) (cells slots : Nat) (ls : Array Slot), fCur D cA s h0 h H locs → lv_has ls 9 [(0, .ref b), (1, va_rf a1), (2, va_rf a2), (3, va_rf a3), (4, va_rf a4), (5, .int a5)] → W p l e R s m args below meth c H locs cells slots Q (F0 m 28 ls [])) (a1 : Option Nat) (a2 : Option Nat) (a3 : Option Nat) (a4 : Option Nat) (a5 : Int32) (h : fSt) (hf : f_L_law_L1654 L xs k28 a1 a2 a3 a4 a5 h = some r) : ∀ (H : Heap) (locs : List Loc) (cells slots : Nat) (ls : Array Slot), fCur D cA s h0 h H locs → lv_has ls 9 [(0, .ref b), (1, va_rf a1), (2, va_rf a2), (3, va_rf a3), (4, va_rf a4), (5, .int a5)] → W p l e R s m args below meth c H locs cells slots Q (F0 m 1654 ls []) := by
  obtain ⟨hx, hb, hml, hr, hlocks, hts, hown, K, hR⟩ := id M
  intro H locs cells slots ls hC hl
  refine fr_aload_n hx hb dL_law_1654 rfl (lv_at hl 1 rfl) ?_
  refine lv_aload_n hx hb dL_law_1655 rfl (lv_at hl 0 rfl) ?_
  refine lv_iload hx hb dL_law_1656 (lv_at hl 5 rfl) ?_
  refine lv_iconst (v := (1 : Int32)) hx hb dL_law_1658 (by decide) ?_
  refine lv_iadd hx hb dL_law_1659 ?_
  by_cases c459 : (a5 + (1 : Int32)) < 0 ∨ L ≤ ((a5 + (1 : Int32))).toNatClampNeg
  · exact nomatch (opos c459 hf)
  replace hf := oneg c459 hf
  refine va_sld hx hb X.1 X.2.1 X.2.2 hC.2.2.2.2.2.1 c459 dL_law_1660 ?_
  refine lv_aload_n hx hb dL_law_1661 rfl (lv_at hl 0 rfl) ?_
  refine lv_iload hx hb dL_law_1662 (lv_at hl 5 rfl) ?_
  refine lv_iconst (v := (2 : Int32)) hx hb dL_law_1664 (by decide) ?_
  refine lv_iadd hx hb dL_law_1665 ?_
  by_cases c460 : (a5 + (2 : Int32)) < 0 ∨ L ≤ ((a5 + (2 : Int32))).toNatClampNeg
  · exact nomatch (opos c460 hf)
  replace hf := oneg c460 hf
  refine va_sld hx hb X.1 X.2.1 X.2.2 hC.2.2.2.2.2.1 c460 dL_law_1666 ?_
  refine lv_aload_n hx hb dL_law_1667 rfl (lv_at hl 0 rfl) ?_
  refine lv_iload hx hb dL_law_1668 (lv_at hl 5 rfl) ?_
  refine lv_iconst (v := (3 : Int32)) hx hb dL_law_1670 (by decide) ?_
  refine lv_iadd hx hb dL_law_1671 ?_
  by_cases c461 : (a5 + (3 : Int32)) < 0 ∨ L ≤ ((a5 + (3 : Int32))).toNatClampNeg
  · exact nomatch (opos c461 hf)
  replace hf := oneg c461 hf
  refine va_sld hx hb X.1 X.2.1 X.2.2 hC.2.2.2.2.2.1 c461 dL_law_1672 ?_
  refine lv_aload_n hx hb dL_law_1673 rfl (lv_at hl 0 rfl) ?_
  refine lv_iload hx hb dL_law_1674 (lv_at hl 5 rfl) ?_
  refine lv_iconst (v := (4 : Int32)) hx hb dL_law_1676 (by decide) ?_
  refine lv_iadd hx hb dL_law_1677 ?_
  by_cases c462 : (a5 + (4 : Int32)) < 0 ∨ L ≤ ((a5 + (4 : Int32))).toNatClampNeg
  · exact nomatch (opos c462 hf)
  replace hf := oneg c462 hf
  refine va_sld hx hb X.1 X.2.1 X.2.2 hC.2.2.2.2.2.1 c462 dL_law_1678 ?_
  refine fr_aload_n hx hb dL_law_1679 rfl (lv_at hl 3 rfl) ?_
  obtain ⟨⟨v465 | k466, h467⟩, g464, hf⟩ := obind hf
  rotate_left
  · exact nomatch (show (none : Option (Int32 × fSt)) = some _ from hf)
  replace hf := fci hf
  refine fr_callSH hx hb hml hts hown K hC hR (c_L_fromWhole hfl D cA g464) 6 kw849 kw847 kw848 kw54 (by decide +kernel) ⟨by omega, by omega⟩ rfl hl.1 (cat8 _ (by exact Nat.le_of_ble_eq_true rfl)) dL_law_1680 rfl (fun H locs _ _ hC => ?_)
  refine lv_istore (lv' := [(6, .int v465), (0, .ref b), (1, va_rf a1), (2, va_rf a2), (3, va_rf a3), (4, va_rf a4), (5, .int a5)]) hx hb dL_law_1683 hl (by decide) (congrArg (List.cons _) (flk rfl (flk rfl (flk rfl (flk rfl (flk rfl (flk rfl fln))))))) (fun ls hl => ?_)
  refine fr_aload_n hx hb dL_law_1685 rfl (lv_at hl 3 rfl) ?_
  refine lv_aload_n hx hb dL_law_1686 rfl (lv_at hl 1 rfl) ?_
  refine lv_iload hx hb dL_law_1687 (lv_at hl 6 rfl) ?_
  refine lv_iconst (v := (1 : Int32)) hx hb dL_law_1689 (by decide) ?_
  refine lv_iadd hx hb dL_law_1690 ?_
  by_cases c468 : (a5 + (1 : Int32)) < 0 ∨ L ≤ ((a5 + (1 : Int32))).toNatClampNeg
  · exact nomatch (opos c468 hf)
  replace hf := oneg c468 hf
  refine va_sld hx hb X.1 X.2.1 X.2.2 hC.2.2.2.2.2.1 c468 dL_law_1691 ?_
  refine lv_aload_n hx hb dL_law_1692 rfl (lv_at hl 1 rfl) ?_
  refine lv_iload hx hb dL_law_1693 (lv_at hl 6 rfl) ?_
  refine lv_iconst (v := (2 : Int32)) hx hb dL_law_1695 (by decide) ?_
  refine lv_iadd hx hb dL_law_1696 ?_
  by_cases c469 : (a5 + (2 : Int32)) < 0 ∨ L ≤ ((a5 + (2 : Int32))).toNatClampNeg
  · exact nomatch (opos c469 hf)
  replace hf := oneg c469 hf
  refine va_sld hx hb X.1 X.2.1 X.2.2 hC.2.2.2.2.2.1 c469 dL_law_1697 ?_
  refine lv_aload_n hx hb dL_law_1698 rfl (lv_at hl 1 rfl) ?_
  refine lv_iload hx hb dL_law_1699 (lv_at hl 6 rfl) ?_
  refine lv_iconst (v := (3 : Int32)) hx hb dL_law_1701 (by decide) ?_
  refine lv_iadd hx hb dL_law_1702 ?_
  by_cases c470 : (a5 + (3 : Int32)) < 0 ∨ L ≤ ((a5 + (3 : Int32))).toNatClampNeg
  · exact nomatch (opos c470 hf)
  replace hf := oneg c470 hf
  refine va_sld hx hb X.1 X.2.1 X.2.2 hC.2.2.2.2.2.1 c470 dL_law_1703 ?_
  refine lv_aload_n hx hb dL_law_1704 rfl (lv_at hl 1 rfl) ?_
  refine lv_iload hx hb dL_law_1705 (lv_at hl 6 rfl) ?_
  refine lv_iconst (v := (4 : Int32)) hx hb dL_law_1707 (by decide) ?_
  refine lv_iadd hx hb dL_law_1708 ?_
  by_cases c471 : (a5 + (4 : Int32)) < 0 ∨ L ≤ ((a5 + (4 : Int32))).toNatClampNeg
  · exact nomatch (opos c471 hf)
  replace hf := oneg c471 hf
  refine va_sld hx hb X.1 X.2.1 X.2.2 hC.2.2.2.2.2.1 c471 dL_law_1709 ?_
  obtain ⟨b474, q475, hf⟩ := obind hf
  obtain ⟨r472, g473, hf⟩ := obind hf
  refine fr_callV hx hb hml hts hown K hC hR ct_8 (c_X8_fromWhole hfl D cA g473) 4 q475 kw1253 kw1250 kw1251 kw1252 kw62 (by decide +kernel) ⟨by omega, by omega⟩ rfl hl.1 (cat8 _ (by exact Nat.le_of_ble_eq_true rfl)) dL_law_1710 rfl (fun H locs _ _ hC => ?_)
  refine lv_istore (lv' := [(7, .int r472.1), (6, .int v465), (0, .ref b), (1, va_rf a1), (2, va_rf a2), (3, va_rf a3), (4, va_rf a4), (5, .int a5)]) hx hb dL_law_1713 hl (by decide) (congrArg (List.cons _) (flk rfl (flk rfl (flk rfl (flk rfl (flk rfl (flk rfl (flk rfl fln)))))))) (fun ls hl => ?_)
  refine fr_aload_n hx hb dL_law_1715 rfl (lv_at hl 4 rfl) ?_
  obtain ⟨b478, q479, hf⟩ := obind hf
  obtain ⟨r476, g477, hf⟩ := obind hf
  refine fr_callV hx hb hml hts hown K hC hR ct_8 (c_X8_thrown hfl D cA g477) 0 q479 kw1055 kw1052 kw1053 kw1054 kw62 (by decide +kernel) ⟨by omega, by omega⟩ rfl hl.1 (cat8 _ (by exact Nat.le_of_ble_eq_true rfl)) dL_law_1716 rfl (fun H locs _ _ hC => ?_)
  refine lv_iload hx hb dL_law_1719 (lv_at hl 1 rfl) ?_
  refine lv_icmp_eq (tgt := 1726) hx hb dL_law_1721 (by decide) (fun c480 => ?_) (fun c480 => ?_)
  · replace hf := opos c480 hf
    refine lv_iload hx hb dL_law_1726 (lv_at hl 1 rfl) ?_
    refine lv_if_ne (tgt := 1743) hx hb dL_law_1728 (by decide) (fun c481 => ?_) (fun c481 => ?_)
    · replace hf := oneg c481 hf
      exact w_L_law_L1743 M hfl hRf hRl X hend hk28 _ _ _ _ _ _ hf _ _ _ _ _ hC (lv_sub hl [2, 3, 4, 5, 6, 7] rfl)
    · replace hf := opos c481 hf
      refine fr_aload_n hx hb dL_law_1731 rfl (lv_at hl 5 rfl) ?_
      refine lv_iconst (v := (0 : Int32)) hx hb dL_law_1732 (by decide) ?_
      obtain ⟨x482, g483, hf⟩ := obind hf
      refine fr_lald hx hb K hC (t := 1) rfl g483 dL_law_1733 ?_
      refine lv_iload hx hb dL_law_1734 (lv_at hl 0 rfl) ?_
      refine lv_i2l (v := (Int32.toInt64 r472.1)) hx hb dL_law_1736 rfl ?_
      refine fr_lcmp_eq (tgt := 1743) hx hb dL_law_1737 dL_law_1738 (by decide) (fun c484 => ?_) (fun c484 => ?_)
      · replace hf := opos c484 hf
        exact w_L_law_L1743 M hfl hRf hRl X hend hk28 _ _ _ _ _ _ hf _ _ _ _ _ hC (lv_sub hl [2, 3, 4, 5, 6, 7] rfl)
      · replace hf := oneg c484 hf
        refine lv_iconst (v := (0 : Int32)) hx hb dL_law_1741 (by decide) ?_
        exact hend _ _ _ _ _ _ _ _ (Option.some.inj hf) hC dL_law_1742
  · replace hf := oneg c480 hf
    refine lv_iconst (v := (0 : Int32)) hx hb dL_law_1724 (by decide) ?_
    exact hend _ _ _ _ _ _ _ _ (Option.some.inj hf) hC dL_law_1725
set_option maxHeartbeats 4000000 in
set_option maxRecDepth 100000 in
theorem w_L_law_L1847 {p : Program} {l : Launch} {e : Env} {s : State} {m : MethodId} {args : Array Value} {below : List Frame} {meth : Method} {c : Code} {D : va_G} {cA : Nat → ClassId} {h0 : fSt} {r : (Int32 × fSt)} {Q : State → Prop} {R : Room} {b L : Nat} {xs : Nat → Int32} (M : fM p s m args meth c D cA h0 R cL_law 9 (some (.boolean)) RL) (hfl : l.stackTraces = false) (hRf : 35 ≤ R.frames) (hRl : 944 ≤ R.locals) (X : va_X b L xs s s.heap ∧ b < s.heap.size ∧ ¬ fA h0 b) (hend : ∀ (x : Int32) (h : fSt) (H : Heap) (locs : List Loc) (cells slots : Nat) (ls : Array Slot) (pc : Nat), (x, h) = r → fCur D cA s h0 h H locs → decode code pc = .ok (.ireturn, 1) → W p l e R s m args below meth c H locs cells slots Q (F0 m pc ls [.int x])) {k28 : Option Nat → Option Nat → Option Nat → Option Nat → Int32 → fSt → Option (Int32 × fSt)} (hk28 : ∀ (a1 : Option Nat) (a2 : Option Nat) (a3 : Option Nat) (a4 : Option Nat) (a5 : Int32) (h : fSt), k28 a1 a2 a3 a4 a5 h = some r → ∀ (H : Heap) (locs : List Loc) (cells slots : Nat) (ls : Array Slot), fCur D cA s h0 h H locs → lv_has ls 9 [(0, .ref b), (1, va_rf a1), (2, va_rf a2), (3, va_rf a3), (4, va_rf a4), (5, .int a5)] → W p l e R s m args below meth c H locs cells slots Q (F0 m 28 ls [])) (a1 : Option Nat) (a2 : Option Nat) (a3 : Option Nat) (a4 : Option Nat) (a5 : Int32) (h : fSt) (hf : f_L_law_L1847 L xs k28 a1 a2 a3 a4 a5 h = some r) : ∀ (H : Heap) (locs : List Loc) (cells slots : Nat) (ls : Array Slot), fCur D cA s h0 h H locs → lv_has ls 9 [(0, .ref b), (1, va_rf a1), (2, va_rf a2), (3, va_rf a3), (4, va_rf a4), (5, .int a5)] → W p l e R s m args below meth c H locs cells slots Q (F0 m 1847 ls []) := by
  obtain ⟨hx, hb, hml, hr, hlocks, hts, hown, K, hR⟩ := id M
  intro H locs cells slots ls hC hl
  refine lv_goto (tgt := 2859) hx hb dL_law_1847 (by decide) ?_
  exact w_L_law_L2859 M hfl hRf hRl X hend hk28 _ _ _ _ _ _ hf _ _ _ _ _ hC (lv_sub hl [0, 1, 2, 3, 4, 5] rfl)
set_option maxHeartbeats 4000000 in
set_option maxRecDepth 100000 in
theorem w_L_law_L1746 {p : Program} {l : Launch} {e : Env} {s : State} {m : MethodId} {args : Array Value} {below : List Frame} {meth : Method} {c : Code} {D : va_G} {cA : Nat → ClassId} {h0 : fSt} {r : (Int32 × fSt)} {Q : State → Prop} {R : Room} {b L : Nat} {xs : Nat → Int32} (M : fM p s m args meth c D cA h0 R cL_law 9 (some (.boolean)) RL) (hfl : l.stackTraces = false) (hRf : 35 ≤ R.frames) (hRl : 944 ≤ R.locals) (X : va_X b L xs s s.heap ∧ b < s.heap.size ∧ ¬ fA h0 b) (hend : ∀ (x : Int32) (h : fSt) (H : Heap) (locs : List Loc) (cells slots : Nat) (ls : Array Slot) (pc : Nat), (x, h) = r → fCur D cA s h0 h H locs → decode code pc = .ok (.ireturn, 1) → W p l e R s m args below meth c H locs cells slots Q (F0 m pc ls [.int x])) {k28 : Option Nat → Option Nat → Option Nat → Option Nat → Int32 → fSt → Option (Int32 × fSt)} (hk28 : ∀ (a1 : Option Nat) (a2 : Option Nat) (a3 : Option Nat) (a4 : Option Nat) (a5 : Int32) (h : fSt), k28 a1 a2 a3 a4 a5 h = some r → ∀ (H : Heap) (locs : List Loc) (cells slots : Nat) (ls : Array Slot), fCur D cA s h0 h H locs → lv_has ls 9 [(0, .ref b), (1, va_rf a1), (2, va_rf a2), (3, va_rf a3), (4, va_rf a4), (5, .int a5)] → W p l e R s m args below meth c H locs cells slots Q (F0 m 28 ls [])) (a1 : Option Nat) (a2 : Option Nat) (a3 : Option Nat) (a4 : Option Nat) (a5 : Int32) (h : fSt) (hf : f_L_law_L1746 L xs k28 a1 a2 a3 a4 a5 h = some r) : ∀ (H : Heap) (locs : List Loc) (cells slots : Nat) (ls : Array Slot), fCur D cA s h0 h H locs → lv_has ls 9 [(0, .ref b), (1, va_rf a1), (2, va_rf a2), (3, va_rf a3), (4, va_rf a4), (5, .int a5)] → W p l e R s m args below meth c H locs cells slots Q (F0 m 1746 ls []) := by
  obtain ⟨hx, hb, hml, hr, hlocks, hts, hown, K, hR⟩ := id M
  intro H locs cells slots ls hC hl
  refine fr_aload_n hx hb dL_law_1746 rfl (lv_at hl 1 rfl) ?_
  refine lv_aload_n hx hb dL_law_1747 rfl (lv_at hl 0 rfl) ?_
  refine lv_iload hx hb dL_law_1748 (lv_at hl 5 rfl) ?_
  refine lv_iconst (v := (1 : Int32)) hx hb dL_law_1750 (by decide) ?_
  refine lv_iadd hx hb dL_law_1751 ?_
  by_cases c485 : (a5 + (1 : Int32)) < 0 ∨ L ≤ ((a5 + (1 : Int32))).toNatClampNeg
  · exact nomatch (opos c485 hf)
  replace hf := oneg c485 hf
  refine va_sld hx hb X.1 X.2.1 X.2.2 hC.2.2.2.2.2.1 c485 dL_law_1752 ?_
  refine lv_aload_n hx hb dL_law_1753 rfl (lv_at hl 0 rfl) ?_
  refine lv_iload hx hb dL_law_1754 (lv_at hl 5 rfl) ?_
  refine lv_iconst (v := (2 : Int32)) hx hb dL_law_1756 (by decide) ?_
  refine lv_iadd hx hb dL_law_1757 ?_
  by_cases c486 : (a5 + (2 : Int32)) < 0 ∨ L ≤ ((a5 + (2 : Int32))).toNatClampNeg
  · exact nomatch (opos c486 hf)
  replace hf := oneg c486 hf
  refine va_sld hx hb X.1 X.2.1 X.2.2 hC.2.2.2.2.2.1 c486 dL_law_1758 ?_
  refine lv_aload_n hx hb dL_law_1759 rfl (lv_at hl 0 rfl) ?_
  refine lv_iload hx hb dL_law_1760 (lv_at hl 5 rfl) ?_
  refine lv_iconst (v := (3 : Int32)) hx hb dL_law_1762 (by decide) ?_
  refine lv_iadd hx hb dL_law_1763 ?_
  by_cases c487 : (a5 + (3 : Int32)) < 0 ∨ L ≤ ((a5 + (3 : Int32))).toNatClampNeg
  · exact nomatch (opos c487 hf)
  replace hf := oneg c487 hf
  refine va_sld hx hb X.1 X.2.1 X.2.2 hC.2.2.2.2.2.1 c487 dL_law_1764 ?_
  refine lv_aload_n hx hb dL_law_1765 rfl (lv_at hl 0 rfl) ?_
  refine lv_iload hx hb dL_law_1766 (lv_at hl 5 rfl) ?_
  refine lv_iconst (v := (4 : Int32)) hx hb dL_law_1768 (by decide) ?_
  refine lv_iadd hx hb dL_law_1769 ?_
  by_cases c488 : (a5 + (4 : Int32)) < 0 ∨ L ≤ ((a5 + (4 : Int32))).toNatClampNeg
  · exact nomatch (opos c488 hf)
  replace hf := oneg c488 hf
  refine va_sld hx hb X.1 X.2.1 X.2.2 hC.2.2.2.2.2.1 c488 dL_law_1770 ?_
  refine lv_aload_n hx hb dL_law_1771 rfl (lv_at hl 0 rfl) ?_
  refine lv_iload hx hb dL_law_1772 (lv_at hl 5 rfl) ?_
  refine lv_iconst (v := (5 : Int32)) hx hb dL_law_1774 (by decide) ?_
  refine lv_iadd hx hb dL_law_1775 ?_
  by_cases c489 : (a5 + (5 : Int32)) < 0 ∨ L ≤ ((a5 + (5 : Int32))).toNatClampNeg
  · exact nomatch (opos c489 hf)
  replace hf := oneg c489 hf
  refine va_sld hx hb X.1 X.2.1 X.2.2 hC.2.2.2.2.2.1 c489 dL_law_1776 ?_
  refine fr_aload_n hx hb dL_law_1777 rfl (lv_at hl 3 rfl) ?_
  obtain ⟨⟨v492 | k493, h494⟩, g491, hf⟩ := obind hf
  rotate_left
  · exact nomatch (show (none : Option (Int32 × fSt)) = some _ from hf)
  replace hf := fci hf
  refine fr_callSH hx hb hml hts hown K hC hR (c_L_between hfl D cA g491) 7 kw856 kw854 kw855 kw54 (by decide +kernel) ⟨by omega, by omega⟩ rfl hl.1 (cat8 _ (by exact Nat.le_of_ble_eq_true rfl)) dL_law_1778 rfl (fun H locs _ _ hC => ?_)
  refine lv_istore (lv' := [(6, .int v492), (0, .ref b), (1, va_rf a1), (2, va_rf a2), (3, va_rf a3), (4, va_rf a4), (5, .int a5)]) hx hb dL_law_1781 hl (by decide) (congrArg (List.cons _) (flk rfl (flk rfl (flk rfl (flk rfl (flk rfl (flk rfl fln))))))) (fun ls hl => ?_)
  refine fr_aload_n hx hb dL_law_1783 rfl (lv_at hl 3 rfl) ?_
  refine lv_aload_n hx hb dL_law_1784 rfl (lv_at hl 1 rfl) ?_
  refine lv_iload hx hb dL_law_1785 (lv_at hl 6 rfl) ?_
  refine lv_iconst (v := (1 : Int32)) hx hb dL_law_1787 (by decide) ?_
  refine lv_iadd hx hb dL_law_1788 ?_
  by_cases c495 : (a5 + (1 : Int32)) < 0 ∨ L ≤ ((a5 + (1 : Int32))).toNatClampNeg
  · exact nomatch (opos c495 hf)
  replace hf := oneg c495 hf
  refine va_sld hx hb X.1 X.2.1 X.2.2 hC.2.2.2.2.2.1 c495 dL_law_1789 ?_
  refine lv_aload_n hx hb dL_law_1790 rfl (lv_at hl 1 rfl) ?_
  refine lv_iload hx hb dL_law_1791 (lv_at hl 6 rfl) ?_
  refine lv_iconst (v := (2 : Int32)) hx hb dL_law_1793 (by decide) ?_
  refine lv_iadd hx hb dL_law_1794 ?_
  by_cases c496 : (a5 + (2 : Int32)) < 0 ∨ L ≤ ((a5 + (2 : Int32))).toNatClampNeg
  · exact nomatch (opos c496 hf)
  replace hf := oneg c496 hf
  refine va_sld hx hb X.1 X.2.1 X.2.2 hC.2.2.2.2.2.1 c496 dL_law_1795 ?_
  refine lv_aload_n hx hb dL_law_1796 rfl (lv_at hl 1 rfl) ?_
  refine lv_iload hx hb dL_law_1797 (lv_at hl 6 rfl) ?_
  refine lv_iconst (v := (3 : Int32)) hx hb dL_law_1799 (by decide) ?_
  refine lv_iadd hx hb dL_law_1800 ?_
  by_cases c497 : (a5 + (3 : Int32)) < 0 ∨ L ≤ ((a5 + (3 : Int32))).toNatClampNeg
  · exact nomatch (opos c497 hf)
  replace hf := oneg c497 hf
  refine va_sld hx hb X.1 X.2.1 X.2.2 hC.2.2.2.2.2.1 c497 dL_law_1801 ?_
  refine lv_aload_n hx hb dL_law_1802 rfl (lv_at hl 1 rfl) ?_
  refine lv_iload hx hb dL_law_1803 (lv_at hl 6 rfl) ?_
  refine lv_iconst (v := (4 : Int32)) hx hb dL_law_1805 (by decide) ?_
  refine lv_iadd hx hb dL_law_1806 ?_
  by_cases c498 : (a5 + (4 : Int32)) < 0 ∨ L ≤ ((a5 + (4 : Int32))).toNatClampNeg
  · exact nomatch (opos c498 hf)
  replace hf := oneg c498 hf
  refine va_sld hx hb X.1 X.2.1 X.2.2 hC.2.2.2.2.2.1 c498 dL_law_1807 ?_
  refine lv_aload_n hx hb dL_law_1808 rfl (lv_at hl 1 rfl) ?_
  refine lv_iload hx hb dL_law_1809 (lv_at hl 6 rfl) ?_
  refine lv_iconst (v := (5 : Int32)) hx hb dL_law_1811 (by decide) ?_
  refine lv_iadd hx hb dL_law_1812 ?_
  by_cases c499 : (a5 + (5 : Int32)) < 0 ∨ L ≤ ((a5 + (5 : Int32))).toNatClampNeg
  · exact nomatch (opos c499 hf)
  replace hf := oneg c499 hf
  refine va_sld hx hb X.1 X.2.1 X.2.2 hC.2.2.2.2.2.1 c499 dL_law_1813 ?_
  obtain ⟨b502, q503, hf⟩ := obind hf
  obtain ⟨r500, g501, hf⟩ := obind hf
  refine fr_callV hx hb hml hts hown K hC hR ct_8 (c_X8_between hfl D cA g501) 5 q503 kw1269 kw1266 kw1267 kw1268 kw62 (by decide +kernel) ⟨by omega, by omega⟩ rfl hl.1 (cat8 _ (by exact Nat.le_of_ble_eq_true rfl)) dL_law_1814 rfl (fun H locs _ _ hC => ?_)
  refine lv_istore (lv' := [(7, .int r500.1), (6, .int v492), (0, .ref b), (1, va_rf a1), (2, va_rf a2), (3, va_rf a3), (4, va_rf a4), (5, .int a5)]) hx hb dL_law_1817 hl (by decide) (congrArg (List.cons _) (flk rfl (flk rfl (flk rfl (flk rfl (flk rfl (flk rfl (flk rfl fln)))))))) (fun ls hl => ?_)
  refine fr_aload_n hx hb dL_law_1819 rfl (lv_at hl 4 rfl) ?_
  obtain ⟨b506, q507, hf⟩ := obind hf
  obtain ⟨r504, g505, hf⟩ := obind hf
  refine fr_callV hx hb hml hts hown K hC hR ct_8 (c_X8_thrown hfl D cA g505) 0 q507 kw1055 kw1052 kw1053 kw1054 kw62 (by decide +kernel) ⟨by omega, by omega⟩ rfl hl.1 (cat8 _ (by exact Nat.le_of_ble_eq_true rfl)) dL_law_1820 rfl (fun H locs _ _ hC => ?_)
  refine lv_iload hx hb dL_law_1823 (lv_at hl 1 rfl) ?_
  refine lv_icmp_eq (tgt := 1830) hx hb dL_law_1825 (by decide) (fun c508 => ?_) (fun c508 => ?_)
  · replace hf := opos c508 hf
    refine lv_iload hx hb dL_law_1830 (lv_at hl 1 rfl) ?_
    refine lv_if_ne (tgt := 1847) hx hb dL_law_1832 (by decide) (fun c509 => ?_) (fun c509 => ?_)
    · replace hf := oneg c509 hf
      exact w_L_law_L1847 M hfl hRf hRl X hend hk28 _ _ _ _ _ _ hf _ _ _ _ _ hC (lv_sub hl [2, 3, 4, 5, 6, 7] rfl)
    · replace hf := opos c509 hf
      refine fr_aload_n hx hb dL_law_1835 rfl (lv_at hl 5 rfl) ?_
      refine lv_iconst (v := (0 : Int32)) hx hb dL_law_1836 (by decide) ?_
      obtain ⟨x510, g511, hf⟩ := obind hf
      refine fr_lald hx hb K hC (t := 1) rfl g511 dL_law_1837 ?_
      refine lv_iload hx hb dL_law_1838 (lv_at hl 0 rfl) ?_
      refine lv_i2l (v := (Int32.toInt64 r500.1)) hx hb dL_law_1840 rfl ?_
      refine fr_lcmp_eq (tgt := 1847) hx hb dL_law_1841 dL_law_1842 (by decide) (fun c512 => ?_) (fun c512 => ?_)
      · replace hf := opos c512 hf
        exact w_L_law_L1847 M hfl hRf hRl X hend hk28 _ _ _ _ _ _ hf _ _ _ _ _ hC (lv_sub hl [2, 3, 4, 5, 6, 7] rfl)
      · replace hf := oneg c512 hf
        refine lv_iconst (v := (0 : Int32)) hx hb dL_law_1845 (by decide) ?_
        exact hend _ _ _ _ _ _ _ _ (Option.some.inj hf) hC dL_law_1846
  · replace hf := oneg c508 hf
    refine lv_iconst (v := (0 : Int32)) hx hb dL_law_1828 (by decide) ?_
    exact hend _ _ _ _ _ _ _ _ (Option.some.inj hf) hC dL_law_1829
set_option maxHeartbeats 4000000 in
set_option maxRecDepth 100000 in
theorem w_L_law_L1943 {p : Program} {l : Launch} {e : Env} {s : State} {m : MethodId} {args : Array Value} {below : List Frame} {meth : Method} {c : Code} {D : va_G} {cA : Nat → ClassId} {h0 : fSt} {r : (Int32 × fSt)} {Q : State → Prop} {R : Room} {b L : Nat} {xs : Nat → Int32} (M : fM p s m args meth c D cA h0 R cL_law 9 (some (.boolean)) RL) (hfl : l.stackTraces = false) (hRf : 35 ≤ R.frames) (hRl : 944 ≤ R.locals) (X : va_X b L xs s s.heap ∧ b < s.heap.size ∧ ¬ fA h0 b) (hend : ∀ (x : Int32) (h : fSt) (H : Heap) (locs : List Loc) (cells slots : Nat) (ls : Array Slot) (pc : Nat), (x, h) = r → fCur D cA s h0 h H locs → decode code pc = .ok (.ireturn, 1) → W p l e R s m args below meth c H locs cells slots Q (F0 m pc ls [.int x])) {k28 : Option Nat → Option Nat → Option Nat → Option Nat → Int32 → fSt → Option (Int32 × fSt)} (hk28 : ∀ (a1 : Option Nat) (a2 : Option Nat) (a3 : Option Nat) (a4 : Option Nat) (a5 : Int32) (h : fSt), k28 a1 a2 a3 a4 a5 h = some r → ∀ (H : Heap) (locs : List Loc) (cells slots : Nat) (ls : Array Slot), fCur D cA s h0 h H locs → lv_has ls 9 [(0, .ref b), (1, va_rf a1), (2, va_rf a2), (3, va_rf a3), (4, va_rf a4), (5, .int a5)] → W p l e R s m args below meth c H locs cells slots Q (F0 m 28 ls [])) (a1 : Option Nat) (a2 : Option Nat) (a3 : Option Nat) (a4 : Option Nat) (a5 : Int32) (h : fSt) (hf : f_L_law_L1943 L xs k28 a1 a2 a3 a4 a5 h = some r) : ∀ (H : Heap) (locs : List Loc) (cells slots : Nat) (ls : Array Slot), fCur D cA s h0 h H locs → lv_has ls 9 [(0, .ref b), (1, va_rf a1), (2, va_rf a2), (3, va_rf a3), (4, va_rf a4), (5, .int a5)] → W p l e R s m args below meth c H locs cells slots Q (F0 m 1943 ls []) := by
  obtain ⟨hx, hb, hml, hr, hlocks, hts, hown, K, hR⟩ := id M
  intro H locs cells slots ls hC hl
  refine lv_goto (tgt := 2859) hx hb dL_law_1943 (by decide) ?_
  exact w_L_law_L2859 M hfl hRf hRl X hend hk28 _ _ _ _ _ _ hf _ _ _ _ _ hC (lv_sub hl [0, 1, 2, 3, 4, 5] rfl)
set_option maxHeartbeats 4000000 in
set_option maxRecDepth 100000 in
theorem w_L_law_L1910 {p : Program} {l : Launch} {e : Env} {s : State} {m : MethodId} {args : Array Value} {below : List Frame} {meth : Method} {c : Code} {D : va_G} {cA : Nat → ClassId} {h0 : fSt} {r : (Int32 × fSt)} {Q : State → Prop} {R : Room} {b L : Nat} {xs : Nat → Int32} (M : fM p s m args meth c D cA h0 R cL_law 9 (some (.boolean)) RL) (hfl : l.stackTraces = false) (hRf : 35 ≤ R.frames) (hRl : 944 ≤ R.locals) (X : va_X b L xs s s.heap ∧ b < s.heap.size ∧ ¬ fA h0 b) (hend : ∀ (x : Int32) (h : fSt) (H : Heap) (locs : List Loc) (cells slots : Nat) (ls : Array Slot) (pc : Nat), (x, h) = r → fCur D cA s h0 h H locs → decode code pc = .ok (.ireturn, 1) → W p l e R s m args below meth c H locs cells slots Q (F0 m pc ls [.int x])) {k28 : Option Nat → Option Nat → Option Nat → Option Nat → Int32 → fSt → Option (Int32 × fSt)} (hk28 : ∀ (a1 : Option Nat) (a2 : Option Nat) (a3 : Option Nat) (a4 : Option Nat) (a5 : Int32) (h : fSt), k28 a1 a2 a3 a4 a5 h = some r → ∀ (H : Heap) (locs : List Loc) (cells slots : Nat) (ls : Array Slot), fCur D cA s h0 h H locs → lv_has ls 9 [(0, .ref b), (1, va_rf a1), (2, va_rf a2), (3, va_rf a3), (4, va_rf a4), (5, .int a5)] → W p l e R s m args below meth c H locs cells slots Q (F0 m 28 ls [])) (a1 : Option Nat) (a2 : Option Nat) (a3 : Option Nat) (a4 : Option Nat) (a5 : Int32) (a6 : Int32) (s3 : Int32) (s2 : Int32) (s1 : Int32) (s0 : Option Nat) (h : fSt) (hf : f_L_law_L1910 L xs k28 a1 a2 a3 a4 a5 a6 s3 s2 s1 s0 h = some r) : ∀ (H : Heap) (locs : List Loc) (cells slots : Nat) (ls : Array Slot), fCur D cA s h0 h H locs → lv_has ls 9 [(0, .ref b), (1, va_rf a1), (2, va_rf a2), (3, va_rf a3), (4, va_rf a4), (5, .int a5), (6, .int a6)] → W p l e R s m args below meth c H locs cells slots Q (F0 m 1910 ls [.int s3, .int s2, .int s1, va_rf s0]) := by
  obtain ⟨hx, hb, hml, hr, hlocks, hts, hown, K, hR⟩ := id M
  intro H locs cells slots ls hC hl
  obtain ⟨b515, q516, hf⟩ := obind hf
  obtain ⟨r513, g514, hf⟩ := obind hf
  refine fr_callV hx hb hml hts hown K hC hR ct_8 (c_X8_bound hfl D cA g514) 3 q516 kw1273 kw1270 kw1271 kw1272 kw62 (by decide +kernel) ⟨by omega, by omega⟩ rfl hl.1 (cat8 _ (by exact Nat.le_of_ble_eq_true rfl)) dL_law_1910 rfl (fun H locs _ _ hC => ?_)
  refine lv_istore (lv' := [(7, .int r513.1), (0, .ref b), (1, va_rf a1), (2, va_rf a2), (3, va_rf a3), (4, va_rf a4), (5, .int a5), (6, .int a6)]) hx hb dL_law_1913 hl (by decide) (congrArg (List.cons _) (flk rfl (flk rfl (flk rfl (flk rfl (flk rfl (flk rfl (flk rfl fln)))))))) (fun ls hl => ?_)
  refine fr_aload_n hx hb dL_law_1915 rfl (lv_at hl 3 rfl) ?_
  obtain ⟨b519, q520, hf⟩ := obind hf
  obtain ⟨r517, g518, hf⟩ := obind hf
  refine fr_callV hx hb hml hts hown K hC hR ct_8 (c_X8_thrown hfl D cA g518) 0 q520 kw1055 kw1052 kw1053 kw1054 kw62 (by decide +kernel) ⟨by omega, by omega⟩ rfl hl.1 (cat8 _ (by exact Nat.le_of_ble_eq_true rfl)) dL_law_1916 rfl (fun H locs _ _ hC => ?_)
  refine lv_iload hx hb dL_law_1919 (lv_at hl 7 rfl) ?_
  refine lv_icmp_eq (tgt := 1926) hx hb dL_law_1921 (by decide) (fun c521 => ?_) (fun c521 => ?_)
  · replace hf := opos c521 hf
    refine lv_iload hx hb dL_law_1926 (lv_at hl 7 rfl) ?_
    refine lv_if_ne (tgt := 1943) hx hb dL_law_1928 (by decide) (fun c522 => ?_) (fun c522 => ?_)
    · replace hf := oneg c522 hf
      exact w_L_law_L1943 M hfl hRf hRl X hend hk28 _ _ _ _ _ _ hf _ _ _ _ _ hC (lv_sub hl [1, 2, 3, 4, 5, 6] rfl)
    · replace hf := opos c522 hf
      refine fr_aload_n hx hb dL_law_1931 rfl (lv_at hl 4 rfl) ?_
      refine lv_iconst (v := (0 : Int32)) hx hb dL_law_1932 (by decide) ?_
      obtain ⟨x523, g524, hf⟩ := obind hf
      refine fr_lald hx hb K hC (t := 1) rfl g524 dL_law_1933 ?_
      refine lv_iload hx hb dL_law_1934 (lv_at hl 0 rfl) ?_
      refine lv_i2l (v := (Int32.toInt64 r513.1)) hx hb dL_law_1936 rfl ?_
      refine fr_lcmp_eq (tgt := 1943) hx hb dL_law_1937 dL_law_1938 (by decide) (fun c525 => ?_) (fun c525 => ?_)
      · replace hf := opos c525 hf
        exact w_L_law_L1943 M hfl hRf hRl X hend hk28 _ _ _ _ _ _ hf _ _ _ _ _ hC (lv_sub hl [1, 2, 3, 4, 5, 6] rfl)
      · replace hf := oneg c525 hf
        refine lv_iconst (v := (0 : Int32)) hx hb dL_law_1941 (by decide) ?_
        exact hend _ _ _ _ _ _ _ _ (Option.some.inj hf) hC dL_law_1942
  · replace hf := oneg c521 hf
    refine lv_iconst (v := (0 : Int32)) hx hb dL_law_1924 (by decide) ?_
    exact hend _ _ _ _ _ _ _ _ (Option.some.inj hf) hC dL_law_1925
set_option maxHeartbeats 4000000 in
set_option maxRecDepth 100000 in
theorem w_L_law_L1877 {p : Program} {l : Launch} {e : Env} {s : State} {m : MethodId} {args : Array Value} {below : List Frame} {meth : Method} {c : Code} {D : va_G} {cA : Nat → ClassId} {h0 : fSt} {r : (Int32 × fSt)} {Q : State → Prop} {R : Room} {b L : Nat} {xs : Nat → Int32} (M : fM p s m args meth c D cA h0 R cL_law 9 (some (.boolean)) RL) (hfl : l.stackTraces = false) (hRf : 35 ≤ R.frames) (hRl : 944 ≤ R.locals) (X : va_X b L xs s s.heap ∧ b < s.heap.size ∧ ¬ fA h0 b) (hend : ∀ (x : Int32) (h : fSt) (H : Heap) (locs : List Loc) (cells slots : Nat) (ls : Array Slot) (pc : Nat), (x, h) = r → fCur D cA s h0 h H locs → decode code pc = .ok (.ireturn, 1) → W p l e R s m args below meth c H locs cells slots Q (F0 m pc ls [.int x])) {k28 : Option Nat → Option Nat → Option Nat → Option Nat → Int32 → fSt → Option (Int32 × fSt)} (hk28 : ∀ (a1 : Option Nat) (a2 : Option Nat) (a3 : Option Nat) (a4 : Option Nat) (a5 : Int32) (h : fSt), k28 a1 a2 a3 a4 a5 h = some r → ∀ (H : Heap) (locs : List Loc) (cells slots : Nat) (ls : Array Slot), fCur D cA s h0 h H locs → lv_has ls 9 [(0, .ref b), (1, va_rf a1), (2, va_rf a2), (3, va_rf a3), (4, va_rf a4), (5, .int a5)] → W p l e R s m args below meth c H locs cells slots Q (F0 m 28 ls [])) (a1 : Option Nat) (a2 : Option Nat) (a3 : Option Nat) (a4 : Option Nat) (a5 : Int32) (s3 : Int32) (s2 : Int32) (s1 : Int32) (s0 : Option Nat) (h : fSt) (hf : f_L_law_L1877 L xs k28 a1 a2 a3 a4 a5 s3 s2 s1 s0 h = some r) : ∀ (H : Heap) (locs : List Loc) (cells slots : Nat) (ls : Array Slot), fCur D cA s h0 h H locs → lv_has ls 9 [(0, .ref b), (1, va_rf a1), (2, va_rf a2), (3, va_rf a3), (4, va_rf a4), (5, .int a5)] → W p l e R s m args below meth c H locs cells slots Q (F0 m 1877 ls [.int s3, .int s2, .int s1, va_rf s0]) := by
  obtain ⟨hx, hb, hml, hr, hlocks, hts, hown, K, hR⟩ := id M
  intro H locs cells slots ls hC hl
  refine fr_aload_n hx hb dL_law_1877 rfl (lv_at hl 3 rfl) ?_
  obtain ⟨⟨v528 | k529, h530⟩, g527, hf⟩ := obind hf
  rotate_left
  · exact nomatch (show (none : Option (Int32 × fSt)) = some _ from hf)
  replace hf := fci hf
  refine fr_callSH hx hb hml hts hown K hC hR (c_L_bound hfl D cA g527) 5 kw863 kw861 kw862 kw54 (by decide +kernel) ⟨by omega, by omega⟩ rfl hl.1 (cat8 _ (by exact Nat.le_of_ble_eq_true rfl)) dL_law_1878 rfl (fun H locs _ _ hC => ?_)
  refine lv_istore (lv' := [(6, .int v528), (0, .ref b), (1, va_rf a1), (2, va_rf a2), (3, va_rf a3), (4, va_rf a4), (5, .int a5)]) hx hb dL_law_1881 hl (by decide) (congrArg (List.cons _) (flk rfl (flk rfl (flk rfl (flk rfl (flk rfl (flk rfl fln))))))) (fun ls hl => ?_)
  refine fr_aload_n hx hb dL_law_1883 rfl (lv_at hl 3 rfl) ?_
  refine lv_aload_n hx hb dL_law_1884 rfl (lv_at hl 1 rfl) ?_
  refine lv_iload hx hb dL_law_1885 (lv_at hl 6 rfl) ?_
  refine lv_iconst (v := (1 : Int32)) hx hb dL_law_1887 (by decide) ?_
  refine lv_iadd hx hb dL_law_1888 ?_
  by_cases c531 : (a5 + (1 : Int32)) < 0 ∨ L ≤ ((a5 + (1 : Int32))).toNatClampNeg
  · exact nomatch (opos c531 hf)
  replace hf := oneg c531 hf
  refine va_sld hx hb X.1 X.2.1 X.2.2 hC.2.2.2.2.2.1 c531 dL_law_1889 ?_
  refine lv_aload_n hx hb dL_law_1890 rfl (lv_at hl 1 rfl) ?_
  refine lv_iload hx hb dL_law_1891 (lv_at hl 6 rfl) ?_
  refine lv_iconst (v := (2 : Int32)) hx hb dL_law_1893 (by decide) ?_
  refine lv_iadd hx hb dL_law_1894 ?_
  by_cases c532 : (a5 + (2 : Int32)) < 0 ∨ L ≤ ((a5 + (2 : Int32))).toNatClampNeg
  · exact nomatch (opos c532 hf)
  replace hf := oneg c532 hf
  refine va_sld hx hb X.1 X.2.1 X.2.2 hC.2.2.2.2.2.1 c532 dL_law_1895 ?_
  refine lv_aload_n hx hb dL_law_1896 rfl (lv_at hl 1 rfl) ?_
  refine lv_iload hx hb dL_law_1897 (lv_at hl 6 rfl) ?_
  refine lv_iconst (v := (3 : Int32)) hx hb dL_law_1899 (by decide) ?_
  refine lv_iadd hx hb dL_law_1900 ?_
  by_cases c533 : (a5 + (3 : Int32)) < 0 ∨ L ≤ ((a5 + (3 : Int32))).toNatClampNeg
  · exact nomatch (opos c533 hf)
  replace hf := oneg c533 hf
  refine va_sld hx hb X.1 X.2.1 X.2.2 hC.2.2.2.2.2.1 c533 dL_law_1901 ?_
  refine lv_if_eq (tgt := 1909) hx hb dL_law_1902 (by decide) (fun c534 => ?_) (fun c534 => ?_)
  · replace hf := opos c534 hf
    refine lv_iconst (v := (0 : Int32)) hx hb dL_law_1909 (by decide) ?_
    exact w_L_law_L1910 M hfl hRf hRl X hend hk28 _ _ _ _ _ _ _ _ _ _ _ hf _ _ _ _ _ hC (lv_sub hl [1, 2, 3, 4, 5, 6, 0] rfl)
  · replace hf := oneg c534 hf
    refine lv_iconst (v := (1 : Int32)) hx hb dL_law_1905 (by decide) ?_
    refine lv_goto (tgt := 1910) hx hb dL_law_1906 (by decide) ?_
    exact w_L_law_L1910 M hfl hRf hRl X hend hk28 _ _ _ _ _ _ _ _ _ _ _ hf _ _ _ _ _ hC (lv_sub hl [1, 2, 3, 4, 5, 6, 0] rfl)
set_option maxHeartbeats 4000000 in
set_option maxRecDepth 100000 in
theorem w_L_law_L1850 {p : Program} {l : Launch} {e : Env} {s : State} {m : MethodId} {args : Array Value} {below : List Frame} {meth : Method} {c : Code} {D : va_G} {cA : Nat → ClassId} {h0 : fSt} {r : (Int32 × fSt)} {Q : State → Prop} {R : Room} {b L : Nat} {xs : Nat → Int32} (M : fM p s m args meth c D cA h0 R cL_law 9 (some (.boolean)) RL) (hfl : l.stackTraces = false) (hRf : 35 ≤ R.frames) (hRl : 944 ≤ R.locals) (X : va_X b L xs s s.heap ∧ b < s.heap.size ∧ ¬ fA h0 b) (hend : ∀ (x : Int32) (h : fSt) (H : Heap) (locs : List Loc) (cells slots : Nat) (ls : Array Slot) (pc : Nat), (x, h) = r → fCur D cA s h0 h H locs → decode code pc = .ok (.ireturn, 1) → W p l e R s m args below meth c H locs cells slots Q (F0 m pc ls [.int x])) {k28 : Option Nat → Option Nat → Option Nat → Option Nat → Int32 → fSt → Option (Int32 × fSt)} (hk28 : ∀ (a1 : Option Nat) (a2 : Option Nat) (a3 : Option Nat) (a4 : Option Nat) (a5 : Int32) (h : fSt), k28 a1 a2 a3 a4 a5 h = some r → ∀ (H : Heap) (locs : List Loc) (cells slots : Nat) (ls : Array Slot), fCur D cA s h0 h H locs → lv_has ls 9 [(0, .ref b), (1, va_rf a1), (2, va_rf a2), (3, va_rf a3), (4, va_rf a4), (5, .int a5)] → W p l e R s m args below meth c H locs cells slots Q (F0 m 28 ls [])) (a1 : Option Nat) (a2 : Option Nat) (a3 : Option Nat) (a4 : Option Nat) (a5 : Int32) (h : fSt) (hf : f_L_law_L1850 L xs k28 a1 a2 a3 a4 a5 h = some r) : ∀ (H : Heap) (locs : List Loc) (cells slots : Nat) (ls : Array Slot), fCur D cA s h0 h H locs → lv_has ls 9 [(0, .ref b), (1, va_rf a1), (2, va_rf a2), (3, va_rf a3), (4, va_rf a4), (5, .int a5)] → W p l e R s m args below meth c H locs cells slots Q (F0 m 1850 ls []) := by
  obtain ⟨hx, hb, hml, hr, hlocks, hts, hown, K, hR⟩ := id M
  intro H locs cells slots ls hC hl
  refine fr_aload_n hx hb dL_law_1850 rfl (lv_at hl 1 rfl) ?_
  refine lv_aload_n hx hb dL_law_1851 rfl (lv_at hl 0 rfl) ?_
  refine lv_iload hx hb dL_law_1852 (lv_at hl 5 rfl) ?_
  refine lv_iconst (v := (1 : Int32)) hx hb dL_law_1854 (by decide) ?_
  refine lv_iadd hx hb dL_law_1855 ?_
  by_cases c535 : (a5 + (1 : Int32)) < 0 ∨ L ≤ ((a5 + (1 : Int32))).toNatClampNeg
  · exact nomatch (opos c535 hf)
  replace hf := oneg c535 hf
  refine va_sld hx hb X.1 X.2.1 X.2.2 hC.2.2.2.2.2.1 c535 dL_law_1856 ?_
  refine lv_aload_n hx hb dL_law_1857 rfl (lv_at hl 0 rfl) ?_
  refine lv_iload hx hb dL_law_1858 (lv_at hl 5 rfl) ?_
  refine lv_iconst (v := (2 : Int32)) hx hb dL_law_1860 (by decide) ?_
  refine lv_iadd hx hb dL_law_1861 ?_
  by_cases c536 : (a5 + (2 : Int32)) < 0 ∨ L ≤ ((a5 + (2 : Int32))).toNatClampNeg
  · exact nomatch (opos c536 hf)
  replace hf := oneg c536 hf
  refine va_sld hx hb X.1 X.2.1 X.2.2 hC.2.2.2.2.2.1 c536 dL_law_1862 ?_
  refine lv_aload_n hx hb dL_law_1863 rfl (lv_at hl 0 rfl) ?_
  refine lv_iload hx hb dL_law_1864 (lv_at hl 5 rfl) ?_
  refine lv_iconst (v := (3 : Int32)) hx hb dL_law_1866 (by decide) ?_
  refine lv_iadd hx hb dL_law_1867 ?_
  by_cases c537 : (a5 + (3 : Int32)) < 0 ∨ L ≤ ((a5 + (3 : Int32))).toNatClampNeg
  · exact nomatch (opos c537 hf)
  replace hf := oneg c537 hf
  refine va_sld hx hb X.1 X.2.1 X.2.2 hC.2.2.2.2.2.1 c537 dL_law_1868 ?_
  refine lv_if_eq (tgt := 1876) hx hb dL_law_1869 (by decide) (fun c538 => ?_) (fun c538 => ?_)
  · replace hf := opos c538 hf
    refine lv_iconst (v := (0 : Int32)) hx hb dL_law_1876 (by decide) ?_
    exact w_L_law_L1877 M hfl hRf hRl X hend hk28 _ _ _ _ _ _ _ _ _ _ hf _ _ _ _ _ hC (lv_sub hl [0, 1, 2, 3, 4, 5] rfl)
  · replace hf := oneg c538 hf
    refine lv_iconst (v := (1 : Int32)) hx hb dL_law_1872 (by decide) ?_
    refine lv_goto (tgt := 1877) hx hb dL_law_1873 (by decide) ?_
    exact w_L_law_L1877 M hfl hRf hRl X hend hk28 _ _ _ _ _ _ _ _ _ _ hf _ _ _ _ _ hC (lv_sub hl [0, 1, 2, 3, 4, 5] rfl)
set_option maxHeartbeats 4000000 in
set_option maxRecDepth 100000 in
theorem w_L_law_L2006 {p : Program} {l : Launch} {e : Env} {s : State} {m : MethodId} {args : Array Value} {below : List Frame} {meth : Method} {c : Code} {D : va_G} {cA : Nat → ClassId} {h0 : fSt} {r : (Int32 × fSt)} {Q : State → Prop} {R : Room} {b L : Nat} {xs : Nat → Int32} (M : fM p s m args meth c D cA h0 R cL_law 9 (some (.boolean)) RL) (hfl : l.stackTraces = false) (hRf : 35 ≤ R.frames) (hRl : 944 ≤ R.locals) (X : va_X b L xs s s.heap ∧ b < s.heap.size ∧ ¬ fA h0 b) (hend : ∀ (x : Int32) (h : fSt) (H : Heap) (locs : List Loc) (cells slots : Nat) (ls : Array Slot) (pc : Nat), (x, h) = r → fCur D cA s h0 h H locs → decode code pc = .ok (.ireturn, 1) → W p l e R s m args below meth c H locs cells slots Q (F0 m pc ls [.int x])) {k28 : Option Nat → Option Nat → Option Nat → Option Nat → Int32 → fSt → Option (Int32 × fSt)} (hk28 : ∀ (a1 : Option Nat) (a2 : Option Nat) (a3 : Option Nat) (a4 : Option Nat) (a5 : Int32) (h : fSt), k28 a1 a2 a3 a4 a5 h = some r → ∀ (H : Heap) (locs : List Loc) (cells slots : Nat) (ls : Array Slot), fCur D cA s h0 h H locs → lv_has ls 9 [(0, .ref b), (1, va_rf a1), (2, va_rf a2), (3, va_rf a3), (4, va_rf a4), (5, .int a5)] → W p l e R s m args below meth c H locs cells slots Q (F0 m 28 ls [])) (a1 : Option Nat) (a2 : Option Nat) (a3 : Option Nat) (a4 : Option Nat) (a5 : Int32) (h : fSt) (hf : f_L_law_L2006 L xs k28 a1 a2 a3 a4 a5 h = some r) : ∀ (H : Heap) (locs : List Loc) (cells slots : Nat) (ls : Array Slot), fCur D cA s h0 h H locs → lv_has ls 9 [(0, .ref b), (1, va_rf a1), (2, va_rf a2), (3, va_rf a3), (4, va_rf a4), (5, .int a5)] → W p l e R s m args below meth c H locs cells slots Q (F0 m 2006 ls []) := by
  obtain ⟨hx, hb, hml, hr, hlocks, hts, hown, K, hR⟩ := id M
  intro H locs cells slots ls hC hl
  refine lv_goto (tgt := 2859) hx hb dL_law_2006 (by decide) ?_
  exact w_L_law_L2859 M hfl hRf hRl X hend hk28 _ _ _ _ _ _ hf _ _ _ _ _ hC (lv_sub hl [0, 1, 2, 3, 4, 5] rfl)
set_option maxHeartbeats 4000000 in
set_option maxRecDepth 100000 in
theorem w_L_law_L2000 {p : Program} {l : Launch} {e : Env} {s : State} {m : MethodId} {args : Array Value} {below : List Frame} {meth : Method} {c : Code} {D : va_G} {cA : Nat → ClassId} {h0 : fSt} {r : (Int32 × fSt)} {Q : State → Prop} {R : Room} {b L : Nat} {xs : Nat → Int32} (M : fM p s m args meth c D cA h0 R cL_law 9 (some (.boolean)) RL) (hfl : l.stackTraces = false) (hRf : 35 ≤ R.frames) (hRl : 944 ≤ R.locals) (X : va_X b L xs s s.heap ∧ b < s.heap.size ∧ ¬ fA h0 b) (hend : ∀ (x : Int32) (h : fSt) (H : Heap) (locs : List Loc) (cells slots : Nat) (ls : Array Slot) (pc : Nat), (x, h) = r → fCur D cA s h0 h H locs → decode code pc = .ok (.ireturn, 1) → W p l e R s m args below meth c H locs cells slots Q (F0 m pc ls [.int x])) {k28 : Option Nat → Option Nat → Option Nat → Option Nat → Int32 → fSt → Option (Int32 × fSt)} (hk28 : ∀ (a1 : Option Nat) (a2 : Option Nat) (a3 : Option Nat) (a4 : Option Nat) (a5 : Int32) (h : fSt), k28 a1 a2 a3 a4 a5 h = some r → ∀ (H : Heap) (locs : List Loc) (cells slots : Nat) (ls : Array Slot), fCur D cA s h0 h H locs → lv_has ls 9 [(0, .ref b), (1, va_rf a1), (2, va_rf a2), (3, va_rf a3), (4, va_rf a4), (5, .int a5)] → W p l e R s m args below meth c H locs cells slots Q (F0 m 28 ls [])) (a1 : Option Nat) (a2 : Option Nat) (a3 : Option Nat) (a4 : Option Nat) (a5 : Int32) (s1 : Int64) (s0 : Int64) (h : fSt) (hf : f_L_law_L2000 L xs k28 a1 a2 a3 a4 a5 s1 s0 h = some r) : ∀ (H : Heap) (locs : List Loc) (cells slots : Nat) (ls : Array Slot), fCur D cA s h0 h H locs → lv_has ls 9 [(0, .ref b), (1, va_rf a1), (2, va_rf a2), (3, va_rf a3), (4, va_rf a4), (5, .int a5)] → W p l e R s m args below meth c H locs cells slots Q (F0 m 2000 ls [.long s1, .long s0]) := by
  obtain ⟨hx, hb, hml, hr, hlocks, hts, hown, K, hR⟩ := id M
  intro H locs cells slots ls hC hl
  refine fr_lcmp_eq (tgt := 2006) hx hb dL_law_2000 dL_law_2001 (by decide) (fun c539 => ?_) (fun c539 => ?_)
  · replace hf := opos c539 hf
    exact w_L_law_L2006 M hfl hRf hRl X hend hk28 _ _ _ _ _ _ hf _ _ _ _ _ hC (lv_sub hl [0, 1, 2, 3, 4, 5] rfl)
  · replace hf := oneg c539 hf
    refine lv_iconst (v := (0 : Int32)) hx hb dL_law_2004 (by decide) ?_
    exact hend _ _ _ _ _ _ _ _ (Option.some.inj hf) hC dL_law_2005
set_option maxHeartbeats 4000000 in
set_option maxRecDepth 100000 in
theorem w_L_law_L1946 {p : Program} {l : Launch} {e : Env} {s : State} {m : MethodId} {args : Array Value} {below : List Frame} {meth : Method} {c : Code} {D : va_G} {cA : Nat → ClassId} {h0 : fSt} {r : (Int32 × fSt)} {Q : State → Prop} {R : Room} {b L : Nat} {xs : Nat → Int32} (M : fM p s m args meth c D cA h0 R cL_law 9 (some (.boolean)) RL) (hfl : l.stackTraces = false) (hRf : 35 ≤ R.frames) (hRl : 944 ≤ R.locals) (X : va_X b L xs s s.heap ∧ b < s.heap.size ∧ ¬ fA h0 b) (hend : ∀ (x : Int32) (h : fSt) (H : Heap) (locs : List Loc) (cells slots : Nat) (ls : Array Slot) (pc : Nat), (x, h) = r → fCur D cA s h0 h H locs → decode code pc = .ok (.ireturn, 1) → W p l e R s m args below meth c H locs cells slots Q (F0 m pc ls [.int x])) {k28 : Option Nat → Option Nat → Option Nat → Option Nat → Int32 → fSt → Option (Int32 × fSt)} (hk28 : ∀ (a1 : Option Nat) (a2 : Option Nat) (a3 : Option Nat) (a4 : Option Nat) (a5 : Int32) (h : fSt), k28 a1 a2 a3 a4 a5 h = some r → ∀ (H : Heap) (locs : List Loc) (cells slots : Nat) (ls : Array Slot), fCur D cA s h0 h H locs → lv_has ls 9 [(0, .ref b), (1, va_rf a1), (2, va_rf a2), (3, va_rf a3), (4, va_rf a4), (5, .int a5)] → W p l e R s m args below meth c H locs cells slots Q (F0 m 28 ls [])) (a1 : Option Nat) (a2 : Option Nat) (a3 : Option Nat) (a4 : Option Nat) (a5 : Int32) (h : fSt) (hf : f_L_law_L1946 L xs k28 a1 a2 a3 a4 a5 h = some r) : ∀ (H : Heap) (locs : List Loc) (cells slots : Nat) (ls : Array Slot), fCur D cA s h0 h H locs → lv_has ls 9 [(0, .ref b), (1, va_rf a1), (2, va_rf a2), (3, va_rf a3), (4, va_rf a4), (5, .int a5)] → W p l e R s m args below meth c H locs cells slots Q (F0 m 1946 ls []) := by
  obtain ⟨hx, hb, hml, hr, hlocks, hts, hown, K, hR⟩ := id M
  intro H locs cells slots ls hC hl
  refine fr_aload_n hx hb dL_law_1946 rfl (lv_at hl 1 rfl) ?_
  refine lv_aload_n hx hb dL_law_1947 rfl (lv_at hl 0 rfl) ?_
  refine lv_iload hx hb dL_law_1948 (lv_at hl 5 rfl) ?_
  refine lv_iconst (v := (1 : Int32)) hx hb dL_law_1950 (by decide) ?_
  refine lv_iadd hx hb dL_law_1951 ?_
  by_cases c540 : (a5 + (1 : Int32)) < 0 ∨ L ≤ ((a5 + (1 : Int32))).toNatClampNeg
  · exact nomatch (opos c540 hf)
  replace hf := oneg c540 hf
  refine va_sld hx hb X.1 X.2.1 X.2.2 hC.2.2.2.2.2.1 c540 dL_law_1952 ?_
  refine fr_aload_n hx hb dL_law_1953 rfl (lv_at hl 3 rfl) ?_
  obtain ⟨⟨v543 | k544, h545⟩, g542, hf⟩ := obind hf
  rotate_left
  · exact nomatch (show (none : Option (Int32 × fSt)) = some _ from hf)
  replace hf := fci hf
  refine fr_callSH hx hb hml hts hown K hC hR (c_L_isShown hfl D cA g542) 3 kw871 kw869 kw870 kw54 (by decide +kernel) ⟨by omega, by omega⟩ rfl hl.1 (cat8 _ (by exact Nat.le_of_ble_eq_true rfl)) dL_law_1954 rfl (fun H locs _ _ hC => ?_)
  refine lv_istore (lv' := [(6, .int v543), (0, .ref b), (1, va_rf a1), (2, va_rf a2), (3, va_rf a3), (4, va_rf a4), (5, .int a5)]) hx hb dL_law_1957 hl (by decide) (congrArg (List.cons _) (flk rfl (flk rfl (flk rfl (flk rfl (flk rfl (flk rfl fln))))))) (fun ls hl => ?_)
  refine fr_aload_n hx hb dL_law_1959 rfl (lv_at hl 3 rfl) ?_
  refine lv_aload_n hx hb dL_law_1960 rfl (lv_at hl 1 rfl) ?_
  refine lv_iload hx hb dL_law_1961 (lv_at hl 6 rfl) ?_
  refine lv_iconst (v := (1 : Int32)) hx hb dL_law_1963 (by decide) ?_
  refine lv_iadd hx hb dL_law_1964 ?_
  by_cases c546 : (a5 + (1 : Int32)) < 0 ∨ L ≤ ((a5 + (1 : Int32))).toNatClampNeg
  · exact nomatch (opos c546 hf)
  replace hf := oneg c546 hf
  refine va_sld hx hb X.1 X.2.1 X.2.2 hC.2.2.2.2.2.1 c546 dL_law_1965 ?_
  obtain ⟨b549, q550, hf⟩ := obind hf
  obtain ⟨r547, g548, hf⟩ := obind hf
  refine fr_callV hx hb hml hts hown K hC hR ct_8 (c_X8_isShown hfl D cA g548) 1 q550 kw1285 kw1282 kw1283 kw1284 kw62 (by decide +kernel) ⟨by omega, by omega⟩ rfl hl.1 (cat8 _ (by exact Nat.le_of_ble_eq_true rfl)) dL_law_1966 rfl (fun H locs _ _ hC => ?_)
  refine lv_istore (lv' := [(7, .int r547.1), (6, .int v543), (0, .ref b), (1, va_rf a1), (2, va_rf a2), (3, va_rf a3), (4, va_rf a4), (5, .int a5)]) hx hb dL_law_1969 hl (by decide) (congrArg (List.cons _) (flk rfl (flk rfl (flk rfl (flk rfl (flk rfl (flk rfl (flk rfl fln)))))))) (fun ls hl => ?_)
  refine fr_aload_n hx hb dL_law_1971 rfl (lv_at hl 4 rfl) ?_
  obtain ⟨b553, q554, hf⟩ := obind hf
  obtain ⟨r551, g552, hf⟩ := obind hf
  refine fr_callV hx hb hml hts hown K hC hR ct_8 (c_X8_thrown hfl D cA g552) 0 q554 kw1055 kw1052 kw1053 kw1054 kw62 (by decide +kernel) ⟨by omega, by omega⟩ rfl hl.1 (cat8 _ (by exact Nat.le_of_ble_eq_true rfl)) dL_law_1972 rfl (fun H locs _ _ hC => ?_)
  refine lv_iload hx hb dL_law_1975 (lv_at hl 1 rfl) ?_
  refine lv_icmp_eq (tgt := 1982) hx hb dL_law_1977 (by decide) (fun c555 => ?_) (fun c555 => ?_)
  · replace hf := opos c555 hf
    refine lv_iload hx hb dL_law_1982 (lv_at hl 1 rfl) ?_
    refine lv_if_ne (tgt := 2006) hx hb dL_law_1984 (by decide) (fun c556 => ?_) (fun c556 => ?_)
    · replace hf := oneg c556 hf
      exact w_L_law_L2006 M hfl hRf hRl X hend hk28 _ _ _ _ _ _ hf _ _ _ _ _ hC (lv_sub hl [2, 3, 4, 5, 6, 7] rfl)
    · replace hf := opos c556 hf
      refine fr_aload_n hx hb dL_law_1987 rfl (lv_at hl 5 rfl) ?_
      refine lv_iconst (v := (0 : Int32)) hx hb dL_law_1988 (by decide) ?_
      obtain ⟨x557, g558, hf⟩ := obind hf
      refine fr_lald hx hb K hC (t := 1) rfl g558 dL_law_1989 ?_
      refine lv_iload hx hb dL_law_1990 (lv_at hl 0 rfl) ?_
      refine lv_if_eq (tgt := 1999) hx hb dL_law_1992 (by decide) (fun c559 => ?_) (fun c559 => ?_)
      · replace hf := opos c559 hf
        refine lv_lconst (v := (0 : Int64)) hx hb dL_law_1999 (by decide) ?_
        exact w_L_law_L2000 M hfl hRf hRl X hend hk28 _ _ _ _ _ _ _ _ hf _ _ _ _ _ hC (lv_sub hl [2, 3, 4, 5, 6, 7] rfl)
      · replace hf := oneg c559 hf
        refine lv_lconst (v := (1 : Int64)) hx hb dL_law_1995 (by decide) ?_
        refine lv_goto (tgt := 2000) hx hb dL_law_1996 (by decide) ?_
        exact w_L_law_L2000 M hfl hRf hRl X hend hk28 _ _ _ _ _ _ _ _ hf _ _ _ _ _ hC (lv_sub hl [2, 3, 4, 5, 6, 7] rfl)
  · replace hf := oneg c555 hf
    refine lv_iconst (v := (0 : Int32)) hx hb dL_law_1980 (by decide) ?_
    exact hend _ _ _ _ _ _ _ _ (Option.some.inj hf) hC dL_law_1981
set_option maxHeartbeats 4000000 in
set_option maxRecDepth 100000 in
theorem w_L_law_L2062 {p : Program} {l : Launch} {e : Env} {s : State} {m : MethodId} {args : Array Value} {below : List Frame} {meth : Method} {c : Code} {D : va_G} {cA : Nat → ClassId} {h0 : fSt} {r : (Int32 × fSt)} {Q : State → Prop} {R : Room} {b L : Nat} {xs : Nat → Int32} (M : fM p s m args meth c D cA h0 R cL_law 9 (some (.boolean)) RL) (hfl : l.stackTraces = false) (hRf : 35 ≤ R.frames) (hRl : 944 ≤ R.locals) (X : va_X b L xs s s.heap ∧ b < s.heap.size ∧ ¬ fA h0 b) (hend : ∀ (x : Int32) (h : fSt) (H : Heap) (locs : List Loc) (cells slots : Nat) (ls : Array Slot) (pc : Nat), (x, h) = r → fCur D cA s h0 h H locs → decode code pc = .ok (.ireturn, 1) → W p l e R s m args below meth c H locs cells slots Q (F0 m pc ls [.int x])) {k28 : Option Nat → Option Nat → Option Nat → Option Nat → Int32 → fSt → Option (Int32 × fSt)} (hk28 : ∀ (a1 : Option Nat) (a2 : Option Nat) (a3 : Option Nat) (a4 : Option Nat) (a5 : Int32) (h : fSt), k28 a1 a2 a3 a4 a5 h = some r → ∀ (H : Heap) (locs : List Loc) (cells slots : Nat) (ls : Array Slot), fCur D cA s h0 h H locs → lv_has ls 9 [(0, .ref b), (1, va_rf a1), (2, va_rf a2), (3, va_rf a3), (4, va_rf a4), (5, .int a5)] → W p l e R s m args below meth c H locs cells slots Q (F0 m 28 ls [])) (a1 : Option Nat) (a2 : Option Nat) (a3 : Option Nat) (a4 : Option Nat) (a5 : Int32) (h : fSt) (hf : f_L_law_L2062 L xs k28 a1 a2 a3 a4 a5 h = some r) : ∀ (H : Heap) (locs : List Loc) (cells slots : Nat) (ls : Array Slot), fCur D cA s h0 h H locs → lv_has ls 9 [(0, .ref b), (1, va_rf a1), (2, va_rf a2), (3, va_rf a3), (4, va_rf a4), (5, .int a5)] → W p l e R s m args below meth c H locs cells slots Q (F0 m 2062 ls []) := by
  obtain ⟨hx, hb, hml, hr, hlocks, hts, hown, K, hR⟩ := id M
  intro H locs cells slots ls hC hl
  refine lv_goto (tgt := 2859) hx hb dL_law_2062 (by decide) ?_
  exact w_L_law_L2859 M hfl hRf hRl X hend hk28 _ _ _ _ _ _ hf _ _ _ _ _ hC (lv_sub hl [0, 1, 2, 3, 4, 5] rfl)
set_option maxHeartbeats 4000000 in
set_option maxRecDepth 100000 in
theorem w_L_law_L2009 {p : Program} {l : Launch} {e : Env} {s : State} {m : MethodId} {args : Array Value} {below : List Frame} {meth : Method} {c : Code} {D : va_G} {cA : Nat → ClassId} {h0 : fSt} {r : (Int32 × fSt)} {Q : State → Prop} {R : Room} {b L : Nat} {xs : Nat → Int32} (M : fM p s m args meth c D cA h0 R cL_law 9 (some (.boolean)) RL) (hfl : l.stackTraces = false) (hRf : 35 ≤ R.frames) (hRl : 944 ≤ R.locals) (X : va_X b L xs s s.heap ∧ b < s.heap.size ∧ ¬ fA h0 b) (hend : ∀ (x : Int32) (h : fSt) (H : Heap) (locs : List Loc) (cells slots : Nat) (ls : Array Slot) (pc : Nat), (x, h) = r → fCur D cA s h0 h H locs → decode code pc = .ok (.ireturn, 1) → W p l e R s m args below meth c H locs cells slots Q (F0 m pc ls [.int x])) {k28 : Option Nat → Option Nat → Option Nat → Option Nat → Int32 → fSt → Option (Int32 × fSt)} (hk28 : ∀ (a1 : Option Nat) (a2 : Option Nat) (a3 : Option Nat) (a4 : Option Nat) (a5 : Int32) (h : fSt), k28 a1 a2 a3 a4 a5 h = some r → ∀ (H : Heap) (locs : List Loc) (cells slots : Nat) (ls : Array Slot), fCur D cA s h0 h H locs → lv_has ls 9 [(0, .ref b), (1, va_rf a1), (2, va_rf a2), (3, va_rf a3), (4, va_rf a4), (5, .int a5)] → W p l e R s m args below meth c H locs cells slots Q (F0 m 28 ls [])) (a1 : Option Nat) (a2 : Option Nat) (a3 : Option Nat) (a4 : Option Nat) (a5 : Int32) (h : fSt) (hf : f_L_law_L2009 L xs k28 a1 a2 a3 a4 a5 h = some r) : ∀ (H : Heap) (locs : List Loc) (cells slots : Nat) (ls : Array Slot), fCur D cA s h0 h H locs → lv_has ls 9 [(0, .ref b), (1, va_rf a1), (2, va_rf a2), (3, va_rf a3), (4, va_rf a4), (5, .int a5)] → W p l e R s m args below meth c H locs cells slots Q (F0 m 2009 ls []) := by
  obtain ⟨hx, hb, hml, hr, hlocks, hts, hown, K, hR⟩ := id M
  intro H locs cells slots ls hC hl
  refine fr_aload_n hx hb dL_law_2009 rfl (lv_at hl 1 rfl) ?_
  refine lv_aload_n hx hb dL_law_2010 rfl (lv_at hl 0 rfl) ?_
  refine lv_iload hx hb dL_law_2011 (lv_at hl 5 rfl) ?_
  refine lv_iconst (v := (1 : Int32)) hx hb dL_law_2013 (by decide) ?_
  refine lv_iadd hx hb dL_law_2014 ?_
  by_cases c560 : (a5 + (1 : Int32)) < 0 ∨ L ≤ ((a5 + (1 : Int32))).toNatClampNeg
  · exact nomatch (opos c560 hf)
  replace hf := oneg c560 hf
  refine va_sld hx hb X.1 X.2.1 X.2.2 hC.2.2.2.2.2.1 c560 dL_law_2015 ?_
  refine fr_aload_n hx hb dL_law_2016 rfl (lv_at hl 3 rfl) ?_
  obtain ⟨⟨v563 | k564, h565⟩, g562, hf⟩ := obind hf
  rotate_left
  · exact nomatch (show (none : Option (Int32 × fSt)) = some _ from hf)
  replace hf := fci hf
  refine fr_callSH hx hb hml hts hown K hC hR (c_L_strength hfl D cA g562) 3 kw878 kw876 kw877 kw54 (by decide +kernel) ⟨by omega, by omega⟩ rfl hl.1 (cat8 _ (by exact Nat.le_of_ble_eq_true rfl)) dL_law_2017 rfl (fun H locs _ _ hC => ?_)
  refine lv_istore (lv' := [(6, .int v563), (0, .ref b), (1, va_rf a1), (2, va_rf a2), (3, va_rf a3), (4, va_rf a4), (5, .int a5)]) hx hb dL_law_2020 hl (by decide) (congrArg (List.cons _) (flk rfl (flk rfl (flk rfl (flk rfl (flk rfl (flk rfl fln))))))) (fun ls hl => ?_)
  refine fr_aload_n hx hb dL_law_2022 rfl (lv_at hl 3 rfl) ?_
  refine lv_aload_n hx hb dL_law_2023 rfl (lv_at hl 1 rfl) ?_
  refine lv_iload hx hb dL_law_2024 (lv_at hl 6 rfl) ?_
  refine lv_iconst (v := (1 : Int32)) hx hb dL_law_2026 (by decide) ?_
  refine lv_iadd hx hb dL_law_2027 ?_
  by_cases c566 : (a5 + (1 : Int32)) < 0 ∨ L ≤ ((a5 + (1 : Int32))).toNatClampNeg
  · exact nomatch (opos c566 hf)
  replace hf := oneg c566 hf
  refine va_sld hx hb X.1 X.2.1 X.2.2 hC.2.2.2.2.2.1 c566 dL_law_2028 ?_
  obtain ⟨b569, q570, hf⟩ := obind hf
  obtain ⟨r567, g568, hf⟩ := obind hf
  refine fr_callV hx hb hml hts hown K hC hR ct_8 (c_X8_strength hfl D cA g568) 1 q570 kw1289 kw1286 kw1287 kw1288 kw62 (by decide +kernel) ⟨by omega, by omega⟩ rfl hl.1 (cat8 _ (by exact Nat.le_of_ble_eq_true rfl)) dL_law_2029 rfl (fun H locs _ _ hC => ?_)
  refine lv_istore (lv' := [(7, .int r567.1), (6, .int v563), (0, .ref b), (1, va_rf a1), (2, va_rf a2), (3, va_rf a3), (4, va_rf a4), (5, .int a5)]) hx hb dL_law_2032 hl (by decide) (congrArg (List.cons _) (flk rfl (flk rfl (flk rfl (flk rfl (flk rfl (flk rfl (flk rfl fln)))))))) (fun ls hl => ?_)
  refine fr_aload_n hx hb dL_law_2034 rfl (lv_at hl 4 rfl) ?_
  obtain ⟨b573, q574, hf⟩ := obind hf
  obtain ⟨r571, g572, hf⟩ := obind hf
  refine fr_callV hx hb hml hts hown K hC hR ct_8 (c_X8_thrown hfl D cA g572) 0 q574 kw1055 kw1052 kw1053 kw1054 kw62 (by decide +kernel) ⟨by omega, by omega⟩ rfl hl.1 (cat8 _ (by exact Nat.le_of_ble_eq_true rfl)) dL_law_2035 rfl (fun H locs _ _ hC => ?_)
  refine lv_iload hx hb dL_law_2038 (lv_at hl 1 rfl) ?_
  refine lv_icmp_eq (tgt := 2045) hx hb dL_law_2040 (by decide) (fun c575 => ?_) (fun c575 => ?_)
  · replace hf := opos c575 hf
    refine lv_iload hx hb dL_law_2045 (lv_at hl 1 rfl) ?_
    refine lv_if_ne (tgt := 2062) hx hb dL_law_2047 (by decide) (fun c576 => ?_) (fun c576 => ?_)
    · replace hf := oneg c576 hf
      exact w_L_law_L2062 M hfl hRf hRl X hend hk28 _ _ _ _ _ _ hf _ _ _ _ _ hC (lv_sub hl [2, 3, 4, 5, 6, 7] rfl)
    · replace hf := opos c576 hf
      refine fr_aload_n hx hb dL_law_2050 rfl (lv_at hl 5 rfl) ?_
      refine lv_iconst (v := (0 : Int32)) hx hb dL_law_2051 (by decide) ?_
      obtain ⟨x577, g578, hf⟩ := obind hf
      refine fr_lald hx hb K hC (t := 1) rfl g578 dL_law_2052 ?_
      refine lv_iload hx hb dL_law_2053 (lv_at hl 0 rfl) ?_
      refine lv_i2l (v := (Int32.toInt64 r567.1)) hx hb dL_law_2055 rfl ?_
      refine fr_lcmp_eq (tgt := 2062) hx hb dL_law_2056 dL_law_2057 (by decide) (fun c579 => ?_) (fun c579 => ?_)
      · replace hf := opos c579 hf
        exact w_L_law_L2062 M hfl hRf hRl X hend hk28 _ _ _ _ _ _ hf _ _ _ _ _ hC (lv_sub hl [2, 3, 4, 5, 6, 7] rfl)
      · replace hf := oneg c579 hf
        refine lv_iconst (v := (0 : Int32)) hx hb dL_law_2060 (by decide) ?_
        exact hend _ _ _ _ _ _ _ _ (Option.some.inj hf) hC dL_law_2061
  · replace hf := oneg c575 hf
    refine lv_iconst (v := (0 : Int32)) hx hb dL_law_2043 (by decide) ?_
    exact hend _ _ _ _ _ _ _ _ (Option.some.inj hf) hC dL_law_2044
set_option maxHeartbeats 4000000 in
set_option maxRecDepth 100000 in
theorem w_L_law_L2118 {p : Program} {l : Launch} {e : Env} {s : State} {m : MethodId} {args : Array Value} {below : List Frame} {meth : Method} {c : Code} {D : va_G} {cA : Nat → ClassId} {h0 : fSt} {r : (Int32 × fSt)} {Q : State → Prop} {R : Room} {b L : Nat} {xs : Nat → Int32} (M : fM p s m args meth c D cA h0 R cL_law 9 (some (.boolean)) RL) (hfl : l.stackTraces = false) (hRf : 35 ≤ R.frames) (hRl : 944 ≤ R.locals) (X : va_X b L xs s s.heap ∧ b < s.heap.size ∧ ¬ fA h0 b) (hend : ∀ (x : Int32) (h : fSt) (H : Heap) (locs : List Loc) (cells slots : Nat) (ls : Array Slot) (pc : Nat), (x, h) = r → fCur D cA s h0 h H locs → decode code pc = .ok (.ireturn, 1) → W p l e R s m args below meth c H locs cells slots Q (F0 m pc ls [.int x])) {k28 : Option Nat → Option Nat → Option Nat → Option Nat → Int32 → fSt → Option (Int32 × fSt)} (hk28 : ∀ (a1 : Option Nat) (a2 : Option Nat) (a3 : Option Nat) (a4 : Option Nat) (a5 : Int32) (h : fSt), k28 a1 a2 a3 a4 a5 h = some r → ∀ (H : Heap) (locs : List Loc) (cells slots : Nat) (ls : Array Slot), fCur D cA s h0 h H locs → lv_has ls 9 [(0, .ref b), (1, va_rf a1), (2, va_rf a2), (3, va_rf a3), (4, va_rf a4), (5, .int a5)] → W p l e R s m args below meth c H locs cells slots Q (F0 m 28 ls [])) (a1 : Option Nat) (a2 : Option Nat) (a3 : Option Nat) (a4 : Option Nat) (a5 : Int32) (h : fSt) (hf : f_L_law_L2118 L xs k28 a1 a2 a3 a4 a5 h = some r) : ∀ (H : Heap) (locs : List Loc) (cells slots : Nat) (ls : Array Slot), fCur D cA s h0 h H locs → lv_has ls 9 [(0, .ref b), (1, va_rf a1), (2, va_rf a2), (3, va_rf a3), (4, va_rf a4), (5, .int a5)] → W p l e R s m args below meth c H locs cells slots Q (F0 m 2118 ls []) := by
  obtain ⟨hx, hb, hml, hr, hlocks, hts, hown, K, hR⟩ := id M
  intro H locs cells slots ls hC hl
  refine lv_goto (tgt := 2859) hx hb dL_law_2118 (by decide) ?_
  exact w_L_law_L2859 M hfl hRf hRl X hend hk28 _ _ _ _ _ _ hf _ _ _ _ _ hC (lv_sub hl [0, 1, 2, 3, 4, 5] rfl)
set_option maxHeartbeats 4000000 in
set_option maxRecDepth 100000 in
theorem w_L_law_L2065 {p : Program} {l : Launch} {e : Env} {s : State} {m : MethodId} {args : Array Value} {below : List Frame} {meth : Method} {c : Code} {D : va_G} {cA : Nat → ClassId} {h0 : fSt} {r : (Int32 × fSt)} {Q : State → Prop} {R : Room} {b L : Nat} {xs : Nat → Int32} (M : fM p s m args meth c D cA h0 R cL_law 9 (some (.boolean)) RL) (hfl : l.stackTraces = false) (hRf : 35 ≤ R.frames) (hRl : 944 ≤ R.locals) (X : va_X b L xs s s.heap ∧ b < s.heap.size ∧ ¬ fA h0 b) (hend : ∀ (x : Int32) (h : fSt) (H : Heap) (locs : List Loc) (cells slots : Nat) (ls : Array Slot) (pc : Nat), (x, h) = r → fCur D cA s h0 h H locs → decode code pc = .ok (.ireturn, 1) → W p l e R s m args below meth c H locs cells slots Q (F0 m pc ls [.int x])) {k28 : Option Nat → Option Nat → Option Nat → Option Nat → Int32 → fSt → Option (Int32 × fSt)} (hk28 : ∀ (a1 : Option Nat) (a2 : Option Nat) (a3 : Option Nat) (a4 : Option Nat) (a5 : Int32) (h : fSt), k28 a1 a2 a3 a4 a5 h = some r → ∀ (H : Heap) (locs : List Loc) (cells slots : Nat) (ls : Array Slot), fCur D cA s h0 h H locs → lv_has ls 9 [(0, .ref b), (1, va_rf a1), (2, va_rf a2), (3, va_rf a3), (4, va_rf a4), (5, .int a5)] → W p l e R s m args below meth c H locs cells slots Q (F0 m 28 ls [])) (a1 : Option Nat) (a2 : Option Nat) (a3 : Option Nat) (a4 : Option Nat) (a5 : Int32) (h : fSt) (hf : f_L_law_L2065 L xs k28 a1 a2 a3 a4 a5 h = some r) : ∀ (H : Heap) (locs : List Loc) (cells slots : Nat) (ls : Array Slot), fCur D cA s h0 h H locs → lv_has ls 9 [(0, .ref b), (1, va_rf a1), (2, va_rf a2), (3, va_rf a3), (4, va_rf a4), (5, .int a5)] → W p l e R s m args below meth c H locs cells slots Q (F0 m 2065 ls []) := by
  obtain ⟨hx, hb, hml, hr, hlocks, hts, hown, K, hR⟩ := id M
  intro H locs cells slots ls hC hl
  refine fr_aload_n hx hb dL_law_2065 rfl (lv_at hl 1 rfl) ?_
  refine lv_aload_n hx hb dL_law_2066 rfl (lv_at hl 0 rfl) ?_
  refine lv_iload hx hb dL_law_2067 (lv_at hl 5 rfl) ?_
  refine lv_iconst (v := (1 : Int32)) hx hb dL_law_2069 (by decide) ?_
  refine lv_iadd hx hb dL_law_2070 ?_
  by_cases c580 : (a5 + (1 : Int32)) < 0 ∨ L ≤ ((a5 + (1 : Int32))).toNatClampNeg
  · exact nomatch (opos c580 hf)
  replace hf := oneg c580 hf
  refine va_sld hx hb X.1 X.2.1 X.2.2 hC.2.2.2.2.2.1 c580 dL_law_2071 ?_
  refine fr_aload_n hx hb dL_law_2072 rfl (lv_at hl 3 rfl) ?_
  obtain ⟨⟨v583 | k584, h585⟩, g582, hf⟩ := obind hf
  rotate_left
  · exact nomatch (show (none : Option (Int32 × fSt)) = some _ from hf)
  replace hf := fci hf
  refine fr_callSH hx hb hml hts hown K hC hR (c_L_orderAt hfl D cA g582) 3 kw885 kw883 kw884 kw54 (by decide +kernel) ⟨by omega, by omega⟩ rfl hl.1 (cat8 _ (by exact Nat.le_of_ble_eq_true rfl)) dL_law_2073 rfl (fun H locs _ _ hC => ?_)
  refine lv_istore (lv' := [(6, .int v583), (0, .ref b), (1, va_rf a1), (2, va_rf a2), (3, va_rf a3), (4, va_rf a4), (5, .int a5)]) hx hb dL_law_2076 hl (by decide) (congrArg (List.cons _) (flk rfl (flk rfl (flk rfl (flk rfl (flk rfl (flk rfl fln))))))) (fun ls hl => ?_)
  refine fr_aload_n hx hb dL_law_2078 rfl (lv_at hl 3 rfl) ?_
  refine lv_aload_n hx hb dL_law_2079 rfl (lv_at hl 1 rfl) ?_
  refine lv_iload hx hb dL_law_2080 (lv_at hl 6 rfl) ?_
  refine lv_iconst (v := (1 : Int32)) hx hb dL_law_2082 (by decide) ?_
  refine lv_iadd hx hb dL_law_2083 ?_
  by_cases c586 : (a5 + (1 : Int32)) < 0 ∨ L ≤ ((a5 + (1 : Int32))).toNatClampNeg
  · exact nomatch (opos c586 hf)
  replace hf := oneg c586 hf
  refine va_sld hx hb X.1 X.2.1 X.2.2 hC.2.2.2.2.2.1 c586 dL_law_2084 ?_
  obtain ⟨b589, q590, hf⟩ := obind hf
  obtain ⟨r587, g588, hf⟩ := obind hf
  refine fr_callV hx hb hml hts hown K hC hR ct_8 (c_X8_orderAt hfl D cA g588) 1 q590 kw1297 kw1294 kw1295 kw1296 kw62 (by decide +kernel) ⟨by omega, by omega⟩ rfl hl.1 (cat8 _ (by exact Nat.le_of_ble_eq_true rfl)) dL_law_2085 rfl (fun H locs _ _ hC => ?_)
  refine lv_istore (lv' := [(7, .int r587.1), (6, .int v583), (0, .ref b), (1, va_rf a1), (2, va_rf a2), (3, va_rf a3), (4, va_rf a4), (5, .int a5)]) hx hb dL_law_2088 hl (by decide) (congrArg (List.cons _) (flk rfl (flk rfl (flk rfl (flk rfl (flk rfl (flk rfl (flk rfl fln)))))))) (fun ls hl => ?_)
  refine fr_aload_n hx hb dL_law_2090 rfl (lv_at hl 4 rfl) ?_
  obtain ⟨b593, q594, hf⟩ := obind hf
  obtain ⟨r591, g592, hf⟩ := obind hf
  refine fr_callV hx hb hml hts hown K hC hR ct_8 (c_X8_thrown hfl D cA g592) 0 q594 kw1055 kw1052 kw1053 kw1054 kw62 (by decide +kernel) ⟨by omega, by omega⟩ rfl hl.1 (cat8 _ (by exact Nat.le_of_ble_eq_true rfl)) dL_law_2091 rfl (fun H locs _ _ hC => ?_)
  refine lv_iload hx hb dL_law_2094 (lv_at hl 1 rfl) ?_
  refine lv_icmp_eq (tgt := 2101) hx hb dL_law_2096 (by decide) (fun c595 => ?_) (fun c595 => ?_)
  · replace hf := opos c595 hf
    refine lv_iload hx hb dL_law_2101 (lv_at hl 1 rfl) ?_
    refine lv_if_ne (tgt := 2118) hx hb dL_law_2103 (by decide) (fun c596 => ?_) (fun c596 => ?_)
    · replace hf := oneg c596 hf
      exact w_L_law_L2118 M hfl hRf hRl X hend hk28 _ _ _ _ _ _ hf _ _ _ _ _ hC (lv_sub hl [2, 3, 4, 5, 6, 7] rfl)
    · replace hf := opos c596 hf
      refine fr_aload_n hx hb dL_law_2106 rfl (lv_at hl 5 rfl) ?_
      refine lv_iconst (v := (0 : Int32)) hx hb dL_law_2107 (by decide) ?_
      obtain ⟨x597, g598, hf⟩ := obind hf
      refine fr_lald hx hb K hC (t := 1) rfl g598 dL_law_2108 ?_
      refine lv_iload hx hb dL_law_2109 (lv_at hl 0 rfl) ?_
      refine lv_i2l (v := (Int32.toInt64 r587.1)) hx hb dL_law_2111 rfl ?_
      refine fr_lcmp_eq (tgt := 2118) hx hb dL_law_2112 dL_law_2113 (by decide) (fun c599 => ?_) (fun c599 => ?_)
      · replace hf := opos c599 hf
        exact w_L_law_L2118 M hfl hRf hRl X hend hk28 _ _ _ _ _ _ hf _ _ _ _ _ hC (lv_sub hl [2, 3, 4, 5, 6, 7] rfl)
      · replace hf := oneg c599 hf
        refine lv_iconst (v := (0 : Int32)) hx hb dL_law_2116 (by decide) ?_
        exact hend _ _ _ _ _ _ _ _ (Option.some.inj hf) hC dL_law_2117
  · replace hf := oneg c595 hf
    refine lv_iconst (v := (0 : Int32)) hx hb dL_law_2099 (by decide) ?_
    exact hend _ _ _ _ _ _ _ _ (Option.some.inj hf) hC dL_law_2100
set_option maxHeartbeats 4000000 in
set_option maxRecDepth 100000 in
theorem w_L_law_L2174 {p : Program} {l : Launch} {e : Env} {s : State} {m : MethodId} {args : Array Value} {below : List Frame} {meth : Method} {c : Code} {D : va_G} {cA : Nat → ClassId} {h0 : fSt} {r : (Int32 × fSt)} {Q : State → Prop} {R : Room} {b L : Nat} {xs : Nat → Int32} (M : fM p s m args meth c D cA h0 R cL_law 9 (some (.boolean)) RL) (hfl : l.stackTraces = false) (hRf : 35 ≤ R.frames) (hRl : 944 ≤ R.locals) (X : va_X b L xs s s.heap ∧ b < s.heap.size ∧ ¬ fA h0 b) (hend : ∀ (x : Int32) (h : fSt) (H : Heap) (locs : List Loc) (cells slots : Nat) (ls : Array Slot) (pc : Nat), (x, h) = r → fCur D cA s h0 h H locs → decode code pc = .ok (.ireturn, 1) → W p l e R s m args below meth c H locs cells slots Q (F0 m pc ls [.int x])) {k28 : Option Nat → Option Nat → Option Nat → Option Nat → Int32 → fSt → Option (Int32 × fSt)} (hk28 : ∀ (a1 : Option Nat) (a2 : Option Nat) (a3 : Option Nat) (a4 : Option Nat) (a5 : Int32) (h : fSt), k28 a1 a2 a3 a4 a5 h = some r → ∀ (H : Heap) (locs : List Loc) (cells slots : Nat) (ls : Array Slot), fCur D cA s h0 h H locs → lv_has ls 9 [(0, .ref b), (1, va_rf a1), (2, va_rf a2), (3, va_rf a3), (4, va_rf a4), (5, .int a5)] → W p l e R s m args below meth c H locs cells slots Q (F0 m 28 ls [])) (a1 : Option Nat) (a2 : Option Nat) (a3 : Option Nat) (a4 : Option Nat) (a5 : Int32) (h : fSt) (hf : f_L_law_L2174 L xs k28 a1 a2 a3 a4 a5 h = some r) : ∀ (H : Heap) (locs : List Loc) (cells slots : Nat) (ls : Array Slot), fCur D cA s h0 h H locs → lv_has ls 9 [(0, .ref b), (1, va_rf a1), (2, va_rf a2), (3, va_rf a3), (4, va_rf a4), (5, .int a5)] → W p l e R s m args below meth c H locs cells slots Q (F0 m 2174 ls []) := by
  obtain ⟨hx, hb, hml, hr, hlocks, hts, hown, K, hR⟩ := id M
  intro H locs cells slots ls hC hl
  refine lv_goto (tgt := 2859) hx hb dL_law_2174 (by decide) ?_
  exact w_L_law_L2859 M hfl hRf hRl X hend hk28 _ _ _ _ _ _ hf _ _ _ _ _ hC (lv_sub hl [0, 1, 2, 3, 4, 5] rfl)
set_option maxHeartbeats 4000000 in
set_option maxRecDepth 100000 in
theorem w_L_law_L2121 {p : Program} {l : Launch} {e : Env} {s : State} {m : MethodId} {args : Array Value} {below : List Frame} {meth : Method} {c : Code} {D : va_G} {cA : Nat → ClassId} {h0 : fSt} {r : (Int32 × fSt)} {Q : State → Prop} {R : Room} {b L : Nat} {xs : Nat → Int32} (M : fM p s m args meth c D cA h0 R cL_law 9 (some (.boolean)) RL) (hfl : l.stackTraces = false) (hRf : 35 ≤ R.frames) (hRl : 944 ≤ R.locals) (X : va_X b L xs s s.heap ∧ b < s.heap.size ∧ ¬ fA h0 b) (hend : ∀ (x : Int32) (h : fSt) (H : Heap) (locs : List Loc) (cells slots : Nat) (ls : Array Slot) (pc : Nat), (x, h) = r → fCur D cA s h0 h H locs → decode code pc = .ok (.ireturn, 1) → W p l e R s m args below meth c H locs cells slots Q (F0 m pc ls [.int x])) {k28 : Option Nat → Option Nat → Option Nat → Option Nat → Int32 → fSt → Option (Int32 × fSt)} (hk28 : ∀ (a1 : Option Nat) (a2 : Option Nat) (a3 : Option Nat) (a4 : Option Nat) (a5 : Int32) (h : fSt), k28 a1 a2 a3 a4 a5 h = some r → ∀ (H : Heap) (locs : List Loc) (cells slots : Nat) (ls : Array Slot), fCur D cA s h0 h H locs → lv_has ls 9 [(0, .ref b), (1, va_rf a1), (2, va_rf a2), (3, va_rf a3), (4, va_rf a4), (5, .int a5)] → W p l e R s m args below meth c H locs cells slots Q (F0 m 28 ls [])) (a1 : Option Nat) (a2 : Option Nat) (a3 : Option Nat) (a4 : Option Nat) (a5 : Int32) (h : fSt) (hf : f_L_law_L2121 L xs k28 a1 a2 a3 a4 a5 h = some r) : ∀ (H : Heap) (locs : List Loc) (cells slots : Nat) (ls : Array Slot), fCur D cA s h0 h H locs → lv_has ls 9 [(0, .ref b), (1, va_rf a1), (2, va_rf a2), (3, va_rf a3), (4, va_rf a4), (5, .int a5)] → W p l e R s m args below meth c H locs cells slots Q (F0 m 2121 ls []) := by
  obtain ⟨hx, hb, hml, hr, hlocks, hts, hown, K, hR⟩ := id M
  intro H locs cells slots ls hC hl
  refine fr_aload_n hx hb dL_law_2121 rfl (lv_at hl 1 rfl) ?_
  refine lv_aload_n hx hb dL_law_2122 rfl (lv_at hl 0 rfl) ?_
  refine lv_iload hx hb dL_law_2123 (lv_at hl 5 rfl) ?_
  refine lv_iconst (v := (1 : Int32)) hx hb dL_law_2125 (by decide) ?_
  refine lv_iadd hx hb dL_law_2126 ?_
  by_cases c600 : (a5 + (1 : Int32)) < 0 ∨ L ≤ ((a5 + (1 : Int32))).toNatClampNeg
  · exact nomatch (opos c600 hf)
  replace hf := oneg c600 hf
  refine va_sld hx hb X.1 X.2.1 X.2.2 hC.2.2.2.2.2.1 c600 dL_law_2127 ?_
  refine fr_aload_n hx hb dL_law_2128 rfl (lv_at hl 3 rfl) ?_
  obtain ⟨⟨v603 | k604, h605⟩, g602, hf⟩ := obind hf
  rotate_left
  · exact nomatch (show (none : Option (Int32 × fSt)) = some _ from hf)
  replace hf := fci hf
  refine fr_callSH hx hb hml hts hown K hC hR (c_L_placeOf hfl D cA g602) 3 kw893 kw891 kw892 kw54 (by decide +kernel) ⟨by omega, by omega⟩ rfl hl.1 (cat8 _ (by exact Nat.le_of_ble_eq_true rfl)) dL_law_2129 rfl (fun H locs _ _ hC => ?_)
  refine lv_istore (lv' := [(6, .int v603), (0, .ref b), (1, va_rf a1), (2, va_rf a2), (3, va_rf a3), (4, va_rf a4), (5, .int a5)]) hx hb dL_law_2132 hl (by decide) (congrArg (List.cons _) (flk rfl (flk rfl (flk rfl (flk rfl (flk rfl (flk rfl fln))))))) (fun ls hl => ?_)
  refine fr_aload_n hx hb dL_law_2134 rfl (lv_at hl 3 rfl) ?_
  refine lv_aload_n hx hb dL_law_2135 rfl (lv_at hl 1 rfl) ?_
  refine lv_iload hx hb dL_law_2136 (lv_at hl 6 rfl) ?_
  refine lv_iconst (v := (1 : Int32)) hx hb dL_law_2138 (by decide) ?_
  refine lv_iadd hx hb dL_law_2139 ?_
  by_cases c606 : (a5 + (1 : Int32)) < 0 ∨ L ≤ ((a5 + (1 : Int32))).toNatClampNeg
  · exact nomatch (opos c606 hf)
  replace hf := oneg c606 hf
  refine va_sld hx hb X.1 X.2.1 X.2.2 hC.2.2.2.2.2.1 c606 dL_law_2140 ?_
  obtain ⟨b609, q610, hf⟩ := obind hf
  obtain ⟨r607, g608, hf⟩ := obind hf
  refine fr_callV hx hb hml hts hown K hC hR ct_8 (c_X8_placeOf hfl D cA g608) 1 q610 kw1313 kw1310 kw1311 kw1312 kw62 (by decide +kernel) ⟨by omega, by omega⟩ rfl hl.1 (cat8 _ (by exact Nat.le_of_ble_eq_true rfl)) dL_law_2141 rfl (fun H locs _ _ hC => ?_)
  refine lv_istore (lv' := [(7, .int r607.1), (6, .int v603), (0, .ref b), (1, va_rf a1), (2, va_rf a2), (3, va_rf a3), (4, va_rf a4), (5, .int a5)]) hx hb dL_law_2144 hl (by decide) (congrArg (List.cons _) (flk rfl (flk rfl (flk rfl (flk rfl (flk rfl (flk rfl (flk rfl fln)))))))) (fun ls hl => ?_)
  refine fr_aload_n hx hb dL_law_2146 rfl (lv_at hl 4 rfl) ?_
  obtain ⟨b613, q614, hf⟩ := obind hf
  obtain ⟨r611, g612, hf⟩ := obind hf
  refine fr_callV hx hb hml hts hown K hC hR ct_8 (c_X8_thrown hfl D cA g612) 0 q614 kw1055 kw1052 kw1053 kw1054 kw62 (by decide +kernel) ⟨by omega, by omega⟩ rfl hl.1 (cat8 _ (by exact Nat.le_of_ble_eq_true rfl)) dL_law_2147 rfl (fun H locs _ _ hC => ?_)
  refine lv_iload hx hb dL_law_2150 (lv_at hl 1 rfl) ?_
  refine lv_icmp_eq (tgt := 2157) hx hb dL_law_2152 (by decide) (fun c615 => ?_) (fun c615 => ?_)
  · replace hf := opos c615 hf
    refine lv_iload hx hb dL_law_2157 (lv_at hl 1 rfl) ?_
    refine lv_if_ne (tgt := 2174) hx hb dL_law_2159 (by decide) (fun c616 => ?_) (fun c616 => ?_)
    · replace hf := oneg c616 hf
      exact w_L_law_L2174 M hfl hRf hRl X hend hk28 _ _ _ _ _ _ hf _ _ _ _ _ hC (lv_sub hl [2, 3, 4, 5, 6, 7] rfl)
    · replace hf := opos c616 hf
      refine fr_aload_n hx hb dL_law_2162 rfl (lv_at hl 5 rfl) ?_
      refine lv_iconst (v := (0 : Int32)) hx hb dL_law_2163 (by decide) ?_
      obtain ⟨x617, g618, hf⟩ := obind hf
      refine fr_lald hx hb K hC (t := 1) rfl g618 dL_law_2164 ?_
      refine lv_iload hx hb dL_law_2165 (lv_at hl 0 rfl) ?_
      refine lv_i2l (v := (Int32.toInt64 r607.1)) hx hb dL_law_2167 rfl ?_
      refine fr_lcmp_eq (tgt := 2174) hx hb dL_law_2168 dL_law_2169 (by decide) (fun c619 => ?_) (fun c619 => ?_)
      · replace hf := opos c619 hf
        exact w_L_law_L2174 M hfl hRf hRl X hend hk28 _ _ _ _ _ _ hf _ _ _ _ _ hC (lv_sub hl [2, 3, 4, 5, 6, 7] rfl)
      · replace hf := oneg c619 hf
        refine lv_iconst (v := (0 : Int32)) hx hb dL_law_2172 (by decide) ?_
        exact hend _ _ _ _ _ _ _ _ (Option.some.inj hf) hC dL_law_2173
  · replace hf := oneg c615 hf
    refine lv_iconst (v := (0 : Int32)) hx hb dL_law_2155 (by decide) ?_
    exact hend _ _ _ _ _ _ _ _ (Option.some.inj hf) hC dL_law_2156
set_option maxHeartbeats 4000000 in
set_option maxRecDepth 100000 in
theorem w_L_law_L2273 {p : Program} {l : Launch} {e : Env} {s : State} {m : MethodId} {args : Array Value} {below : List Frame} {meth : Method} {c : Code} {D : va_G} {cA : Nat → ClassId} {h0 : fSt} {r : (Int32 × fSt)} {Q : State → Prop} {R : Room} {b L : Nat} {xs : Nat → Int32} (M : fM p s m args meth c D cA h0 R cL_law 9 (some (.boolean)) RL) (hfl : l.stackTraces = false) (hRf : 35 ≤ R.frames) (hRl : 944 ≤ R.locals) (X : va_X b L xs s s.heap ∧ b < s.heap.size ∧ ¬ fA h0 b) (hend : ∀ (x : Int32) (h : fSt) (H : Heap) (locs : List Loc) (cells slots : Nat) (ls : Array Slot) (pc : Nat), (x, h) = r → fCur D cA s h0 h H locs → decode code pc = .ok (.ireturn, 1) → W p l e R s m args below meth c H locs cells slots Q (F0 m pc ls [.int x])) {k28 : Option Nat → Option Nat → Option Nat → Option Nat → Int32 → fSt → Option (Int32 × fSt)} (hk28 : ∀ (a1 : Option Nat) (a2 : Option Nat) (a3 : Option Nat) (a4 : Option Nat) (a5 : Int32) (h : fSt), k28 a1 a2 a3 a4 a5 h = some r → ∀ (H : Heap) (locs : List Loc) (cells slots : Nat) (ls : Array Slot), fCur D cA s h0 h H locs → lv_has ls 9 [(0, .ref b), (1, va_rf a1), (2, va_rf a2), (3, va_rf a3), (4, va_rf a4), (5, .int a5)] → W p l e R s m args below meth c H locs cells slots Q (F0 m 28 ls [])) (a1 : Option Nat) (a2 : Option Nat) (a3 : Option Nat) (a4 : Option Nat) (a5 : Int32) (h : fSt) (hf : f_L_law_L2273 L xs k28 a1 a2 a3 a4 a5 h = some r) : ∀ (H : Heap) (locs : List Loc) (cells slots : Nat) (ls : Array Slot), fCur D cA s h0 h H locs → lv_has ls 9 [(0, .ref b), (1, va_rf a1), (2, va_rf a2), (3, va_rf a3), (4, va_rf a4), (5, .int a5)] → W p l e R s m args below meth c H locs cells slots Q (F0 m 2273 ls []) := by
  obtain ⟨hx, hb, hml, hr, hlocks, hts, hown, K, hR⟩ := id M
  intro H locs cells slots ls hC hl
  refine lv_goto (tgt := 2859) hx hb dL_law_2273 (by decide) ?_
  exact w_L_law_L2859 M hfl hRf hRl X hend hk28 _ _ _ _ _ _ hf _ _ _ _ _ hC (lv_sub hl [0, 1, 2, 3, 4, 5] rfl)
set_option maxHeartbeats 4000000 in
set_option maxRecDepth 100000 in
theorem w_L_law_L2267 {p : Program} {l : Launch} {e : Env} {s : State} {m : MethodId} {args : Array Value} {below : List Frame} {meth : Method} {c : Code} {D : va_G} {cA : Nat → ClassId} {h0 : fSt} {r : (Int32 × fSt)} {Q : State → Prop} {R : Room} {b L : Nat} {xs : Nat → Int32} (M : fM p s m args meth c D cA h0 R cL_law 9 (some (.boolean)) RL) (hfl : l.stackTraces = false) (hRf : 35 ≤ R.frames) (hRl : 944 ≤ R.locals) (X : va_X b L xs s s.heap ∧ b < s.heap.size ∧ ¬ fA h0 b) (hend : ∀ (x : Int32) (h : fSt) (H : Heap) (locs : List Loc) (cells slots : Nat) (ls : Array Slot) (pc : Nat), (x, h) = r → fCur D cA s h0 h H locs → decode code pc = .ok (.ireturn, 1) → W p l e R s m args below meth c H locs cells slots Q (F0 m pc ls [.int x])) {k28 : Option Nat → Option Nat → Option Nat → Option Nat → Int32 → fSt → Option (Int32 × fSt)} (hk28 : ∀ (a1 : Option Nat) (a2 : Option Nat) (a3 : Option Nat) (a4 : Option Nat) (a5 : Int32) (h : fSt), k28 a1 a2 a3 a4 a5 h = some r → ∀ (H : Heap) (locs : List Loc) (cells slots : Nat) (ls : Array Slot), fCur D cA s h0 h H locs → lv_has ls 9 [(0, .ref b), (1, va_rf a1), (2, va_rf a2), (3, va_rf a3), (4, va_rf a4), (5, .int a5)] → W p l e R s m args below meth c H locs cells slots Q (F0 m 28 ls [])) (a1 : Option Nat) (a2 : Option Nat) (a3 : Option Nat) (a4 : Option Nat) (a5 : Int32) (s1 : Int64) (s0 : Int64) (h : fSt) (hf : f_L_law_L2267 L xs k28 a1 a2 a3 a4 a5 s1 s0 h = some r) : ∀ (H : Heap) (locs : List Loc) (cells slots : Nat) (ls : Array Slot), fCur D cA s h0 h H locs → lv_has ls 9 [(0, .ref b), (1, va_rf a1), (2, va_rf a2), (3, va_rf a3), (4, va_rf a4), (5, .int a5)] → W p l e R s m args below meth c H locs cells slots Q (F0 m 2267 ls [.long s1, .long s0]) := by
  obtain ⟨hx, hb, hml, hr, hlocks, hts, hown, K, hR⟩ := id M
  intro H locs cells slots ls hC hl
  refine fr_lcmp_eq (tgt := 2273) hx hb dL_law_2267 dL_law_2268 (by decide) (fun c620 => ?_) (fun c620 => ?_)
  · replace hf := opos c620 hf
    exact w_L_law_L2273 M hfl hRf hRl X hend hk28 _ _ _ _ _ _ hf _ _ _ _ _ hC (lv_sub hl [0, 1, 2, 3, 4, 5] rfl)
  · replace hf := oneg c620 hf
    refine lv_iconst (v := (0 : Int32)) hx hb dL_law_2271 (by decide) ?_
    exact hend _ _ _ _ _ _ _ _ (Option.some.inj hf) hC dL_law_2272
set_option maxHeartbeats 4000000 in
set_option maxRecDepth 100000 in
theorem w_L_law_L2177 {p : Program} {l : Launch} {e : Env} {s : State} {m : MethodId} {args : Array Value} {below : List Frame} {meth : Method} {c : Code} {D : va_G} {cA : Nat → ClassId} {h0 : fSt} {r : (Int32 × fSt)} {Q : State → Prop} {R : Room} {b L : Nat} {xs : Nat → Int32} (M : fM p s m args meth c D cA h0 R cL_law 9 (some (.boolean)) RL) (hfl : l.stackTraces = false) (hRf : 35 ≤ R.frames) (hRl : 944 ≤ R.locals) (X : va_X b L xs s s.heap ∧ b < s.heap.size ∧ ¬ fA h0 b) (hend : ∀ (x : Int32) (h : fSt) (H : Heap) (locs : List Loc) (cells slots : Nat) (ls : Array Slot) (pc : Nat), (x, h) = r → fCur D cA s h0 h H locs → decode code pc = .ok (.ireturn, 1) → W p l e R s m args below meth c H locs cells slots Q (F0 m pc ls [.int x])) {k28 : Option Nat → Option Nat → Option Nat → Option Nat → Int32 → fSt → Option (Int32 × fSt)} (hk28 : ∀ (a1 : Option Nat) (a2 : Option Nat) (a3 : Option Nat) (a4 : Option Nat) (a5 : Int32) (h : fSt), k28 a1 a2 a3 a4 a5 h = some r → ∀ (H : Heap) (locs : List Loc) (cells slots : Nat) (ls : Array Slot), fCur D cA s h0 h H locs → lv_has ls 9 [(0, .ref b), (1, va_rf a1), (2, va_rf a2), (3, va_rf a3), (4, va_rf a4), (5, .int a5)] → W p l e R s m args below meth c H locs cells slots Q (F0 m 28 ls [])) (a1 : Option Nat) (a2 : Option Nat) (a3 : Option Nat) (a4 : Option Nat) (a5 : Int32) (h : fSt) (hf : f_L_law_L2177 L xs k28 a1 a2 a3 a4 a5 h = some r) : ∀ (H : Heap) (locs : List Loc) (cells slots : Nat) (ls : Array Slot), fCur D cA s h0 h H locs → lv_has ls 9 [(0, .ref b), (1, va_rf a1), (2, va_rf a2), (3, va_rf a3), (4, va_rf a4), (5, .int a5)] → W p l e R s m args below meth c H locs cells slots Q (F0 m 2177 ls []) := by
  obtain ⟨hx, hb, hml, hr, hlocks, hts, hown, K, hR⟩ := id M
  intro H locs cells slots ls hC hl
  refine fr_aload_n hx hb dL_law_2177 rfl (lv_at hl 1 rfl) ?_
  refine lv_aload_n hx hb dL_law_2178 rfl (lv_at hl 0 rfl) ?_
  refine lv_iload hx hb dL_law_2179 (lv_at hl 5 rfl) ?_
  refine lv_iconst (v := (1 : Int32)) hx hb dL_law_2181 (by decide) ?_
  refine lv_iadd hx hb dL_law_2182 ?_
  by_cases c621 : (a5 + (1 : Int32)) < 0 ∨ L ≤ ((a5 + (1 : Int32))).toNatClampNeg
  · exact nomatch (opos c621 hf)
  replace hf := oneg c621 hf
  refine va_sld hx hb X.1 X.2.1 X.2.2 hC.2.2.2.2.2.1 c621 dL_law_2183 ?_
  refine lv_aload_n hx hb dL_law_2184 rfl (lv_at hl 0 rfl) ?_
  refine lv_iload hx hb dL_law_2185 (lv_at hl 5 rfl) ?_
  refine lv_iconst (v := (2 : Int32)) hx hb dL_law_2187 (by decide) ?_
  refine lv_iadd hx hb dL_law_2188 ?_
  by_cases c622 : (a5 + (2 : Int32)) < 0 ∨ L ≤ ((a5 + (2 : Int32))).toNatClampNeg
  · exact nomatch (opos c622 hf)
  replace hf := oneg c622 hf
  refine va_sld hx hb X.1 X.2.1 X.2.2 hC.2.2.2.2.2.1 c622 dL_law_2189 ?_
  refine lv_aload_n hx hb dL_law_2190 rfl (lv_at hl 0 rfl) ?_
  refine lv_iload hx hb dL_law_2191 (lv_at hl 5 rfl) ?_
  refine lv_iconst (v := (3 : Int32)) hx hb dL_law_2193 (by decide) ?_
  refine lv_iadd hx hb dL_law_2194 ?_
  by_cases c623 : (a5 + (3 : Int32)) < 0 ∨ L ≤ ((a5 + (3 : Int32))).toNatClampNeg
  · exact nomatch (opos c623 hf)
  replace hf := oneg c623 hf
  refine va_sld hx hb X.1 X.2.1 X.2.2 hC.2.2.2.2.2.1 c623 dL_law_2195 ?_
  refine lv_aload_n hx hb dL_law_2196 rfl (lv_at hl 0 rfl) ?_
  refine lv_iload hx hb dL_law_2197 (lv_at hl 5 rfl) ?_
  refine lv_iconst (v := (4 : Int32)) hx hb dL_law_2199 (by decide) ?_
  refine lv_iadd hx hb dL_law_2200 ?_
  by_cases c624 : (a5 + (4 : Int32)) < 0 ∨ L ≤ ((a5 + (4 : Int32))).toNatClampNeg
  · exact nomatch (opos c624 hf)
  replace hf := oneg c624 hf
  refine va_sld hx hb X.1 X.2.1 X.2.2 hC.2.2.2.2.2.1 c624 dL_law_2201 ?_
  refine fr_aload_n hx hb dL_law_2202 rfl (lv_at hl 3 rfl) ?_
  obtain ⟨⟨v627 | k628, h629⟩, g626, hf⟩ := obind hf
  rotate_left
  · exact nomatch (show (none : Option (Int32 × fSt)) = some _ from hf)
  replace hf := fci hf
  refine fr_callSH hx hb hml hts hown K hC hR (c_L_covers hfl D cA g626) 6 kw900 kw898 kw899 kw54 (by decide +kernel) ⟨by omega, by omega⟩ rfl hl.1 (cat8 _ (by exact Nat.le_of_ble_eq_true rfl)) dL_law_2203 rfl (fun H locs _ _ hC => ?_)
  refine lv_istore (lv' := [(6, .int v627), (0, .ref b), (1, va_rf a1), (2, va_rf a2), (3, va_rf a3), (4, va_rf a4), (5, .int a5)]) hx hb dL_law_2206 hl (by decide) (congrArg (List.cons _) (flk rfl (flk rfl (flk rfl (flk rfl (flk rfl (flk rfl fln))))))) (fun ls hl => ?_)
  refine fr_aload_n hx hb dL_law_2208 rfl (lv_at hl 3 rfl) ?_
  refine lv_aload_n hx hb dL_law_2209 rfl (lv_at hl 1 rfl) ?_
  refine lv_iload hx hb dL_law_2210 (lv_at hl 6 rfl) ?_
  refine lv_iconst (v := (1 : Int32)) hx hb dL_law_2212 (by decide) ?_
  refine lv_iadd hx hb dL_law_2213 ?_
  by_cases c630 : (a5 + (1 : Int32)) < 0 ∨ L ≤ ((a5 + (1 : Int32))).toNatClampNeg
  · exact nomatch (opos c630 hf)
  replace hf := oneg c630 hf
  refine va_sld hx hb X.1 X.2.1 X.2.2 hC.2.2.2.2.2.1 c630 dL_law_2214 ?_
  refine lv_aload_n hx hb dL_law_2215 rfl (lv_at hl 1 rfl) ?_
  refine lv_iload hx hb dL_law_2216 (lv_at hl 6 rfl) ?_
  refine lv_iconst (v := (2 : Int32)) hx hb dL_law_2218 (by decide) ?_
  refine lv_iadd hx hb dL_law_2219 ?_
  by_cases c631 : (a5 + (2 : Int32)) < 0 ∨ L ≤ ((a5 + (2 : Int32))).toNatClampNeg
  · exact nomatch (opos c631 hf)
  replace hf := oneg c631 hf
  refine va_sld hx hb X.1 X.2.1 X.2.2 hC.2.2.2.2.2.1 c631 dL_law_2220 ?_
  refine lv_aload_n hx hb dL_law_2221 rfl (lv_at hl 1 rfl) ?_
  refine lv_iload hx hb dL_law_2222 (lv_at hl 6 rfl) ?_
  refine lv_iconst (v := (3 : Int32)) hx hb dL_law_2224 (by decide) ?_
  refine lv_iadd hx hb dL_law_2225 ?_
  by_cases c632 : (a5 + (3 : Int32)) < 0 ∨ L ≤ ((a5 + (3 : Int32))).toNatClampNeg
  · exact nomatch (opos c632 hf)
  replace hf := oneg c632 hf
  refine va_sld hx hb X.1 X.2.1 X.2.2 hC.2.2.2.2.2.1 c632 dL_law_2226 ?_
  refine lv_aload_n hx hb dL_law_2227 rfl (lv_at hl 1 rfl) ?_
  refine lv_iload hx hb dL_law_2228 (lv_at hl 6 rfl) ?_
  refine lv_iconst (v := (4 : Int32)) hx hb dL_law_2230 (by decide) ?_
  refine lv_iadd hx hb dL_law_2231 ?_
  by_cases c633 : (a5 + (4 : Int32)) < 0 ∨ L ≤ ((a5 + (4 : Int32))).toNatClampNeg
  · exact nomatch (opos c633 hf)
  replace hf := oneg c633 hf
  refine va_sld hx hb X.1 X.2.1 X.2.2 hC.2.2.2.2.2.1 c633 dL_law_2232 ?_
  obtain ⟨b636, q637, hf⟩ := obind hf
  obtain ⟨r634, g635, hf⟩ := obind hf
  refine fr_callV hx hb hml hts hown K hC hR ct_8 (c_X8_covers hfl D cA g635) 4 q637 kw1320 kw1317 kw1318 kw1319 kw62 (by decide +kernel) ⟨by omega, by omega⟩ rfl hl.1 (cat8 _ (by exact Nat.le_of_ble_eq_true rfl)) dL_law_2233 rfl (fun H locs _ _ hC => ?_)
  refine lv_istore (lv' := [(7, .int r634.1), (6, .int v627), (0, .ref b), (1, va_rf a1), (2, va_rf a2), (3, va_rf a3), (4, va_rf a4), (5, .int a5)]) hx hb dL_law_2236 hl (by decide) (congrArg (List.cons _) (flk rfl (flk rfl (flk rfl (flk rfl (flk rfl (flk rfl (flk rfl fln)))))))) (fun ls hl => ?_)
  refine fr_aload_n hx hb dL_law_2238 rfl (lv_at hl 4 rfl) ?_
  obtain ⟨b640, q641, hf⟩ := obind hf
  obtain ⟨r638, g639, hf⟩ := obind hf
  refine fr_callV hx hb hml hts hown K hC hR ct_8 (c_X8_thrown hfl D cA g639) 0 q641 kw1055 kw1052 kw1053 kw1054 kw62 (by decide +kernel) ⟨by omega, by omega⟩ rfl hl.1 (cat8 _ (by exact Nat.le_of_ble_eq_true rfl)) dL_law_2239 rfl (fun H locs _ _ hC => ?_)
  refine lv_iload hx hb dL_law_2242 (lv_at hl 1 rfl) ?_
  refine lv_icmp_eq (tgt := 2249) hx hb dL_law_2244 (by decide) (fun c642 => ?_) (fun c642 => ?_)
  · replace hf := opos c642 hf
    refine lv_iload hx hb dL_law_2249 (lv_at hl 1 rfl) ?_
    refine lv_if_ne (tgt := 2273) hx hb dL_law_2251 (by decide) (fun c643 => ?_) (fun c643 => ?_)
    · replace hf := oneg c643 hf
      exact w_L_law_L2273 M hfl hRf hRl X hend hk28 _ _ _ _ _ _ hf _ _ _ _ _ hC (lv_sub hl [2, 3, 4, 5, 6, 7] rfl)
    · replace hf := opos c643 hf
      refine fr_aload_n hx hb dL_law_2254 rfl (lv_at hl 5 rfl) ?_
      refine lv_iconst (v := (0 : Int32)) hx hb dL_law_2255 (by decide) ?_
      obtain ⟨x644, g645, hf⟩ := obind hf
      refine fr_lald hx hb K hC (t := 1) rfl g645 dL_law_2256 ?_
      refine lv_iload hx hb dL_law_2257 (lv_at hl 0 rfl) ?_
      refine lv_if_eq (tgt := 2266) hx hb dL_law_2259 (by decide) (fun c646 => ?_) (fun c646 => ?_)
      · replace hf := opos c646 hf
        refine lv_lconst (v := (0 : Int64)) hx hb dL_law_2266 (by decide) ?_
        exact w_L_law_L2267 M hfl hRf hRl X hend hk28 _ _ _ _ _ _ _ _ hf _ _ _ _ _ hC (lv_sub hl [2, 3, 4, 5, 6, 7] rfl)
      · replace hf := oneg c646 hf
        refine lv_lconst (v := (1 : Int64)) hx hb dL_law_2262 (by decide) ?_
        refine lv_goto (tgt := 2267) hx hb dL_law_2263 (by decide) ?_
        exact w_L_law_L2267 M hfl hRf hRl X hend hk28 _ _ _ _ _ _ _ _ hf _ _ _ _ _ hC (lv_sub hl [2, 3, 4, 5, 6, 7] rfl)
  · replace hf := oneg c642 hf
    refine lv_iconst (v := (0 : Int32)) hx hb dL_law_2247 (by decide) ?_
    exact hend _ _ _ _ _ _ _ _ (Option.some.inj hf) hC dL_law_2248
set_option maxHeartbeats 4000000 in
set_option maxRecDepth 100000 in
theorem w_L_law_L2353 {p : Program} {l : Launch} {e : Env} {s : State} {m : MethodId} {args : Array Value} {below : List Frame} {meth : Method} {c : Code} {D : va_G} {cA : Nat → ClassId} {h0 : fSt} {r : (Int32 × fSt)} {Q : State → Prop} {R : Room} {b L : Nat} {xs : Nat → Int32} (M : fM p s m args meth c D cA h0 R cL_law 9 (some (.boolean)) RL) (hfl : l.stackTraces = false) (hRf : 35 ≤ R.frames) (hRl : 944 ≤ R.locals) (X : va_X b L xs s s.heap ∧ b < s.heap.size ∧ ¬ fA h0 b) (hend : ∀ (x : Int32) (h : fSt) (H : Heap) (locs : List Loc) (cells slots : Nat) (ls : Array Slot) (pc : Nat), (x, h) = r → fCur D cA s h0 h H locs → decode code pc = .ok (.ireturn, 1) → W p l e R s m args below meth c H locs cells slots Q (F0 m pc ls [.int x])) {k28 : Option Nat → Option Nat → Option Nat → Option Nat → Int32 → fSt → Option (Int32 × fSt)} (hk28 : ∀ (a1 : Option Nat) (a2 : Option Nat) (a3 : Option Nat) (a4 : Option Nat) (a5 : Int32) (h : fSt), k28 a1 a2 a3 a4 a5 h = some r → ∀ (H : Heap) (locs : List Loc) (cells slots : Nat) (ls : Array Slot), fCur D cA s h0 h H locs → lv_has ls 9 [(0, .ref b), (1, va_rf a1), (2, va_rf a2), (3, va_rf a3), (4, va_rf a4), (5, .int a5)] → W p l e R s m args below meth c H locs cells slots Q (F0 m 28 ls [])) (a1 : Option Nat) (a2 : Option Nat) (a3 : Option Nat) (a4 : Option Nat) (a5 : Int32) (h : fSt) (hf : f_L_law_L2353 L xs k28 a1 a2 a3 a4 a5 h = some r) : ∀ (H : Heap) (locs : List Loc) (cells slots : Nat) (ls : Array Slot), fCur D cA s h0 h H locs → lv_has ls 9 [(0, .ref b), (1, va_rf a1), (2, va_rf a2), (3, va_rf a3), (4, va_rf a4), (5, .int a5)] → W p l e R s m args below meth c H locs cells slots Q (F0 m 2353 ls []) := by
  obtain ⟨hx, hb, hml, hr, hlocks, hts, hown, K, hR⟩ := id M
  intro H locs cells slots ls hC hl
  refine lv_goto (tgt := 2859) hx hb dL_law_2353 (by decide) ?_
  exact w_L_law_L2859 M hfl hRf hRl X hend hk28 _ _ _ _ _ _ hf _ _ _ _ _ hC (lv_sub hl [0, 1, 2, 3, 4, 5] rfl)
set_option maxHeartbeats 4000000 in
set_option maxRecDepth 100000 in
theorem w_L_law_L2276 {p : Program} {l : Launch} {e : Env} {s : State} {m : MethodId} {args : Array Value} {below : List Frame} {meth : Method} {c : Code} {D : va_G} {cA : Nat → ClassId} {h0 : fSt} {r : (Int32 × fSt)} {Q : State → Prop} {R : Room} {b L : Nat} {xs : Nat → Int32} (M : fM p s m args meth c D cA h0 R cL_law 9 (some (.boolean)) RL) (hfl : l.stackTraces = false) (hRf : 35 ≤ R.frames) (hRl : 944 ≤ R.locals) (X : va_X b L xs s s.heap ∧ b < s.heap.size ∧ ¬ fA h0 b) (hend : ∀ (x : Int32) (h : fSt) (H : Heap) (locs : List Loc) (cells slots : Nat) (ls : Array Slot) (pc : Nat), (x, h) = r → fCur D cA s h0 h H locs → decode code pc = .ok (.ireturn, 1) → W p l e R s m args below meth c H locs cells slots Q (F0 m pc ls [.int x])) {k28 : Option Nat → Option Nat → Option Nat → Option Nat → Int32 → fSt → Option (Int32 × fSt)} (hk28 : ∀ (a1 : Option Nat) (a2 : Option Nat) (a3 : Option Nat) (a4 : Option Nat) (a5 : Int32) (h : fSt), k28 a1 a2 a3 a4 a5 h = some r → ∀ (H : Heap) (locs : List Loc) (cells slots : Nat) (ls : Array Slot), fCur D cA s h0 h H locs → lv_has ls 9 [(0, .ref b), (1, va_rf a1), (2, va_rf a2), (3, va_rf a3), (4, va_rf a4), (5, .int a5)] → W p l e R s m args below meth c H locs cells slots Q (F0 m 28 ls [])) (a1 : Option Nat) (a2 : Option Nat) (a3 : Option Nat) (a4 : Option Nat) (a5 : Int32) (h : fSt) (hf : f_L_law_L2276 L xs k28 a1 a2 a3 a4 a5 h = some r) : ∀ (H : Heap) (locs : List Loc) (cells slots : Nat) (ls : Array Slot), fCur D cA s h0 h H locs → lv_has ls 9 [(0, .ref b), (1, va_rf a1), (2, va_rf a2), (3, va_rf a3), (4, va_rf a4), (5, .int a5)] → W p l e R s m args below meth c H locs cells slots Q (F0 m 2276 ls []) := by
  obtain ⟨hx, hb, hml, hr, hlocks, hts, hown, K, hR⟩ := id M
  intro H locs cells slots ls hC hl
  refine fr_aload_n hx hb dL_law_2276 rfl (lv_at hl 1 rfl) ?_
  refine lv_aload_n hx hb dL_law_2277 rfl (lv_at hl 0 rfl) ?_
  refine lv_iload hx hb dL_law_2278 (lv_at hl 5 rfl) ?_
  refine lv_iconst (v := (1 : Int32)) hx hb dL_law_2280 (by decide) ?_
  refine lv_iadd hx hb dL_law_2281 ?_
  by_cases c647 : (a5 + (1 : Int32)) < 0 ∨ L ≤ ((a5 + (1 : Int32))).toNatClampNeg
  · exact nomatch (opos c647 hf)
  replace hf := oneg c647 hf
  refine va_sld hx hb X.1 X.2.1 X.2.2 hC.2.2.2.2.2.1 c647 dL_law_2282 ?_
  refine lv_aload_n hx hb dL_law_2283 rfl (lv_at hl 0 rfl) ?_
  refine lv_iload hx hb dL_law_2284 (lv_at hl 5 rfl) ?_
  refine lv_iconst (v := (2 : Int32)) hx hb dL_law_2286 (by decide) ?_
  refine lv_iadd hx hb dL_law_2287 ?_
  by_cases c648 : (a5 + (2 : Int32)) < 0 ∨ L ≤ ((a5 + (2 : Int32))).toNatClampNeg
  · exact nomatch (opos c648 hf)
  replace hf := oneg c648 hf
  refine va_sld hx hb X.1 X.2.1 X.2.2 hC.2.2.2.2.2.1 c648 dL_law_2288 ?_
  refine lv_aload_n hx hb dL_law_2289 rfl (lv_at hl 0 rfl) ?_
  refine lv_iload hx hb dL_law_2290 (lv_at hl 5 rfl) ?_
  refine lv_iconst (v := (3 : Int32)) hx hb dL_law_2292 (by decide) ?_
  refine lv_iadd hx hb dL_law_2293 ?_
  by_cases c649 : (a5 + (3 : Int32)) < 0 ∨ L ≤ ((a5 + (3 : Int32))).toNatClampNeg
  · exact nomatch (opos c649 hf)
  replace hf := oneg c649 hf
  refine va_sld hx hb X.1 X.2.1 X.2.2 hC.2.2.2.2.2.1 c649 dL_law_2294 ?_
  refine fr_aload_n hx hb dL_law_2295 rfl (lv_at hl 3 rfl) ?_
  obtain ⟨⟨v652 | k653, h654⟩, g651, hf⟩ := obind hf
  rotate_left
  · exact nomatch (show (none : Option (Int32 × fSt)) = some _ from hf)
  replace hf := fci hf
  refine fr_callSH hx hb hml hts hown K hC hR (c_L_pick hfl D cA g651) 5 kw912 kw910 kw911 kw54 (by decide +kernel) ⟨by omega, by omega⟩ rfl hl.1 (cat8 _ (by exact Nat.le_of_ble_eq_true rfl)) dL_law_2296 rfl (fun H locs _ _ hC => ?_)
  refine lv_istore (lv' := [(6, .int v652), (0, .ref b), (1, va_rf a1), (2, va_rf a2), (3, va_rf a3), (4, va_rf a4), (5, .int a5)]) hx hb dL_law_2299 hl (by decide) (congrArg (List.cons _) (flk rfl (flk rfl (flk rfl (flk rfl (flk rfl (flk rfl fln))))))) (fun ls hl => ?_)
  refine fr_aload_n hx hb dL_law_2301 rfl (lv_at hl 3 rfl) ?_
  refine lv_aload_n hx hb dL_law_2302 rfl (lv_at hl 1 rfl) ?_
  refine lv_iload hx hb dL_law_2303 (lv_at hl 6 rfl) ?_
  refine lv_iconst (v := (1 : Int32)) hx hb dL_law_2305 (by decide) ?_
  refine lv_iadd hx hb dL_law_2306 ?_
  by_cases c655 : (a5 + (1 : Int32)) < 0 ∨ L ≤ ((a5 + (1 : Int32))).toNatClampNeg
  · exact nomatch (opos c655 hf)
  replace hf := oneg c655 hf
  refine va_sld hx hb X.1 X.2.1 X.2.2 hC.2.2.2.2.2.1 c655 dL_law_2307 ?_
  refine lv_aload_n hx hb dL_law_2308 rfl (lv_at hl 1 rfl) ?_
  refine lv_iload hx hb dL_law_2309 (lv_at hl 6 rfl) ?_
  refine lv_iconst (v := (2 : Int32)) hx hb dL_law_2311 (by decide) ?_
  refine lv_iadd hx hb dL_law_2312 ?_
  by_cases c656 : (a5 + (2 : Int32)) < 0 ∨ L ≤ ((a5 + (2 : Int32))).toNatClampNeg
  · exact nomatch (opos c656 hf)
  replace hf := oneg c656 hf
  refine va_sld hx hb X.1 X.2.1 X.2.2 hC.2.2.2.2.2.1 c656 dL_law_2313 ?_
  refine lv_aload_n hx hb dL_law_2314 rfl (lv_at hl 1 rfl) ?_
  refine lv_iload hx hb dL_law_2315 (lv_at hl 6 rfl) ?_
  refine lv_iconst (v := (3 : Int32)) hx hb dL_law_2317 (by decide) ?_
  refine lv_iadd hx hb dL_law_2318 ?_
  by_cases c657 : (a5 + (3 : Int32)) < 0 ∨ L ≤ ((a5 + (3 : Int32))).toNatClampNeg
  · exact nomatch (opos c657 hf)
  replace hf := oneg c657 hf
  refine va_sld hx hb X.1 X.2.1 X.2.2 hC.2.2.2.2.2.1 c657 dL_law_2319 ?_
  obtain ⟨b660, q661, hf⟩ := obind hf
  obtain ⟨r658, g659, hf⟩ := obind hf
  refine fr_callV hx hb hml hts hown K hC hR ct_8 (c_X8_pick hfl D cA g659) 3 q661 kw1331 kw1328 kw1329 kw1330 kw62 (by decide +kernel) ⟨by omega, by omega⟩ rfl hl.1 (cat8 _ (by exact Nat.le_of_ble_eq_true rfl)) dL_law_2320 rfl (fun H locs _ _ hC => ?_)
  refine lv_istore (lv' := [(7, .int r658.1), (6, .int v652), (0, .ref b), (1, va_rf a1), (2, va_rf a2), (3, va_rf a3), (4, va_rf a4), (5, .int a5)]) hx hb dL_law_2323 hl (by decide) (congrArg (List.cons _) (flk rfl (flk rfl (flk rfl (flk rfl (flk rfl (flk rfl (flk rfl fln)))))))) (fun ls hl => ?_)
  refine fr_aload_n hx hb dL_law_2325 rfl (lv_at hl 4 rfl) ?_
  obtain ⟨b664, q665, hf⟩ := obind hf
  obtain ⟨r662, g663, hf⟩ := obind hf
  refine fr_callV hx hb hml hts hown K hC hR ct_8 (c_X8_thrown hfl D cA g663) 0 q665 kw1055 kw1052 kw1053 kw1054 kw62 (by decide +kernel) ⟨by omega, by omega⟩ rfl hl.1 (cat8 _ (by exact Nat.le_of_ble_eq_true rfl)) dL_law_2326 rfl (fun H locs _ _ hC => ?_)
  refine lv_iload hx hb dL_law_2329 (lv_at hl 1 rfl) ?_
  refine lv_icmp_eq (tgt := 2336) hx hb dL_law_2331 (by decide) (fun c666 => ?_) (fun c666 => ?_)
  · replace hf := opos c666 hf
    refine lv_iload hx hb dL_law_2336 (lv_at hl 1 rfl) ?_
    refine lv_if_ne (tgt := 2353) hx hb dL_law_2338 (by decide) (fun c667 => ?_) (fun c667 => ?_)
    · replace hf := oneg c667 hf
      exact w_L_law_L2353 M hfl hRf hRl X hend hk28 _ _ _ _ _ _ hf _ _ _ _ _ hC (lv_sub hl [2, 3, 4, 5, 6, 7] rfl)
    · replace hf := opos c667 hf
      refine fr_aload_n hx hb dL_law_2341 rfl (lv_at hl 5 rfl) ?_
      refine lv_iconst (v := (0 : Int32)) hx hb dL_law_2342 (by decide) ?_
      obtain ⟨x668, g669, hf⟩ := obind hf
      refine fr_lald hx hb K hC (t := 1) rfl g669 dL_law_2343 ?_
      refine lv_iload hx hb dL_law_2344 (lv_at hl 0 rfl) ?_
      refine lv_i2l (v := (Int32.toInt64 r658.1)) hx hb dL_law_2346 rfl ?_
      refine fr_lcmp_eq (tgt := 2353) hx hb dL_law_2347 dL_law_2348 (by decide) (fun c670 => ?_) (fun c670 => ?_)
      · replace hf := opos c670 hf
        exact w_L_law_L2353 M hfl hRf hRl X hend hk28 _ _ _ _ _ _ hf _ _ _ _ _ hC (lv_sub hl [2, 3, 4, 5, 6, 7] rfl)
      · replace hf := oneg c670 hf
        refine lv_iconst (v := (0 : Int32)) hx hb dL_law_2351 (by decide) ?_
        exact hend _ _ _ _ _ _ _ _ (Option.some.inj hf) hC dL_law_2352
  · replace hf := oneg c666 hf
    refine lv_iconst (v := (0 : Int32)) hx hb dL_law_2334 (by decide) ?_
    exact hend _ _ _ _ _ _ _ _ (Option.some.inj hf) hC dL_law_2335
set_option maxHeartbeats 4000000 in
set_option maxRecDepth 100000 in
theorem w_L_law_L2433 {p : Program} {l : Launch} {e : Env} {s : State} {m : MethodId} {args : Array Value} {below : List Frame} {meth : Method} {c : Code} {D : va_G} {cA : Nat → ClassId} {h0 : fSt} {r : (Int32 × fSt)} {Q : State → Prop} {R : Room} {b L : Nat} {xs : Nat → Int32} (M : fM p s m args meth c D cA h0 R cL_law 9 (some (.boolean)) RL) (hfl : l.stackTraces = false) (hRf : 35 ≤ R.frames) (hRl : 944 ≤ R.locals) (X : va_X b L xs s s.heap ∧ b < s.heap.size ∧ ¬ fA h0 b) (hend : ∀ (x : Int32) (h : fSt) (H : Heap) (locs : List Loc) (cells slots : Nat) (ls : Array Slot) (pc : Nat), (x, h) = r → fCur D cA s h0 h H locs → decode code pc = .ok (.ireturn, 1) → W p l e R s m args below meth c H locs cells slots Q (F0 m pc ls [.int x])) {k28 : Option Nat → Option Nat → Option Nat → Option Nat → Int32 → fSt → Option (Int32 × fSt)} (hk28 : ∀ (a1 : Option Nat) (a2 : Option Nat) (a3 : Option Nat) (a4 : Option Nat) (a5 : Int32) (h : fSt), k28 a1 a2 a3 a4 a5 h = some r → ∀ (H : Heap) (locs : List Loc) (cells slots : Nat) (ls : Array Slot), fCur D cA s h0 h H locs → lv_has ls 9 [(0, .ref b), (1, va_rf a1), (2, va_rf a2), (3, va_rf a3), (4, va_rf a4), (5, .int a5)] → W p l e R s m args below meth c H locs cells slots Q (F0 m 28 ls [])) (a1 : Option Nat) (a2 : Option Nat) (a3 : Option Nat) (a4 : Option Nat) (a5 : Int32) (h : fSt) (hf : f_L_law_L2433 L xs k28 a1 a2 a3 a4 a5 h = some r) : ∀ (H : Heap) (locs : List Loc) (cells slots : Nat) (ls : Array Slot), fCur D cA s h0 h H locs → lv_has ls 9 [(0, .ref b), (1, va_rf a1), (2, va_rf a2), (3, va_rf a3), (4, va_rf a4), (5, .int a5)] → W p l e R s m args below meth c H locs cells slots Q (F0 m 2433 ls []) := by
  obtain ⟨hx, hb, hml, hr, hlocks, hts, hown, K, hR⟩ := id M
  intro H locs cells slots ls hC hl
  refine lv_goto (tgt := 2859) hx hb dL_law_2433 (by decide) ?_
  exact w_L_law_L2859 M hfl hRf hRl X hend hk28 _ _ _ _ _ _ hf _ _ _ _ _ hC (lv_sub hl [0, 1, 2, 3, 4, 5] rfl)
set_option maxHeartbeats 4000000 in
set_option maxRecDepth 100000 in
theorem w_L_law_L2356 {p : Program} {l : Launch} {e : Env} {s : State} {m : MethodId} {args : Array Value} {below : List Frame} {meth : Method} {c : Code} {D : va_G} {cA : Nat → ClassId} {h0 : fSt} {r : (Int32 × fSt)} {Q : State → Prop} {R : Room} {b L : Nat} {xs : Nat → Int32} (M : fM p s m args meth c D cA h0 R cL_law 9 (some (.boolean)) RL) (hfl : l.stackTraces = false) (hRf : 35 ≤ R.frames) (hRl : 944 ≤ R.locals) (X : va_X b L xs s s.heap ∧ b < s.heap.size ∧ ¬ fA h0 b) (hend : ∀ (x : Int32) (h : fSt) (H : Heap) (locs : List Loc) (cells slots : Nat) (ls : Array Slot) (pc : Nat), (x, h) = r → fCur D cA s h0 h H locs → decode code pc = .ok (.ireturn, 1) → W p l e R s m args below meth c H locs cells slots Q (F0 m pc ls [.int x])) {k28 : Option Nat → Option Nat → Option Nat → Option Nat → Int32 → fSt → Option (Int32 × fSt)} (hk28 : ∀ (a1 : Option Nat) (a2 : Option Nat) (a3 : Option Nat) (a4 : Option Nat) (a5 : Int32) (h : fSt), k28 a1 a2 a3 a4 a5 h = some r → ∀ (H : Heap) (locs : List Loc) (cells slots : Nat) (ls : Array Slot), fCur D cA s h0 h H locs → lv_has ls 9 [(0, .ref b), (1, va_rf a1), (2, va_rf a2), (3, va_rf a3), (4, va_rf a4), (5, .int a5)] → W p l e R s m args below meth c H locs cells slots Q (F0 m 28 ls [])) (a1 : Option Nat) (a2 : Option Nat) (a3 : Option Nat) (a4 : Option Nat) (a5 : Int32) (h : fSt) (hf : f_L_law_L2356 L xs k28 a1 a2 a3 a4 a5 h = some r) : ∀ (H : Heap) (locs : List Loc) (cells slots : Nat) (ls : Array Slot), fCur D cA s h0 h H locs → lv_has ls 9 [(0, .ref b), (1, va_rf a1), (2, va_rf a2), (3, va_rf a3), (4, va_rf a4), (5, .int a5)] → W p l e R s m args below meth c H locs cells slots Q (F0 m 2356 ls []) := by
  obtain ⟨hx, hb, hml, hr, hlocks, hts, hown, K, hR⟩ := id M
  intro H locs cells slots ls hC hl
  refine fr_aload_n hx hb dL_law_2356 rfl (lv_at hl 1 rfl) ?_
  refine lv_aload_n hx hb dL_law_2357 rfl (lv_at hl 0 rfl) ?_
  refine lv_iload hx hb dL_law_2358 (lv_at hl 5 rfl) ?_
  refine lv_iconst (v := (1 : Int32)) hx hb dL_law_2360 (by decide) ?_
  refine lv_iadd hx hb dL_law_2361 ?_
  by_cases c671 : (a5 + (1 : Int32)) < 0 ∨ L ≤ ((a5 + (1 : Int32))).toNatClampNeg
  · exact nomatch (opos c671 hf)
  replace hf := oneg c671 hf
  refine va_sld hx hb X.1 X.2.1 X.2.2 hC.2.2.2.2.2.1 c671 dL_law_2362 ?_
  refine lv_aload_n hx hb dL_law_2363 rfl (lv_at hl 0 rfl) ?_
  refine lv_iload hx hb dL_law_2364 (lv_at hl 5 rfl) ?_
  refine lv_iconst (v := (2 : Int32)) hx hb dL_law_2366 (by decide) ?_
  refine lv_iadd hx hb dL_law_2367 ?_
  by_cases c672 : (a5 + (2 : Int32)) < 0 ∨ L ≤ ((a5 + (2 : Int32))).toNatClampNeg
  · exact nomatch (opos c672 hf)
  replace hf := oneg c672 hf
  refine va_sld hx hb X.1 X.2.1 X.2.2 hC.2.2.2.2.2.1 c672 dL_law_2368 ?_
  refine lv_aload_n hx hb dL_law_2369 rfl (lv_at hl 0 rfl) ?_
  refine lv_iload hx hb dL_law_2370 (lv_at hl 5 rfl) ?_
  refine lv_iconst (v := (3 : Int32)) hx hb dL_law_2372 (by decide) ?_
  refine lv_iadd hx hb dL_law_2373 ?_
  by_cases c673 : (a5 + (3 : Int32)) < 0 ∨ L ≤ ((a5 + (3 : Int32))).toNatClampNeg
  · exact nomatch (opos c673 hf)
  replace hf := oneg c673 hf
  refine va_sld hx hb X.1 X.2.1 X.2.2 hC.2.2.2.2.2.1 c673 dL_law_2374 ?_
  refine fr_aload_n hx hb dL_law_2375 rfl (lv_at hl 3 rfl) ?_
  obtain ⟨⟨v676 | k677, h678⟩, g675, hf⟩ := obind hf
  rotate_left
  · exact nomatch (show (none : Option (Int32 × fSt)) = some _ from hf)
  replace hf := fci hf
  refine fr_callSH hx hb hml hts hown K hC hR (c_L_many hfl D cA g675) 5 kw919 kw917 kw918 kw54 (by decide +kernel) ⟨by omega, by omega⟩ rfl hl.1 (cat8 _ (by exact Nat.le_of_ble_eq_true rfl)) dL_law_2376 rfl (fun H locs _ _ hC => ?_)
  refine lv_istore (lv' := [(6, .int v676), (0, .ref b), (1, va_rf a1), (2, va_rf a2), (3, va_rf a3), (4, va_rf a4), (5, .int a5)]) hx hb dL_law_2379 hl (by decide) (congrArg (List.cons _) (flk rfl (flk rfl (flk rfl (flk rfl (flk rfl (flk rfl fln))))))) (fun ls hl => ?_)
  refine fr_aload_n hx hb dL_law_2381 rfl (lv_at hl 3 rfl) ?_
  refine lv_aload_n hx hb dL_law_2382 rfl (lv_at hl 1 rfl) ?_
  refine lv_iload hx hb dL_law_2383 (lv_at hl 6 rfl) ?_
  refine lv_iconst (v := (1 : Int32)) hx hb dL_law_2385 (by decide) ?_
  refine lv_iadd hx hb dL_law_2386 ?_
  by_cases c679 : (a5 + (1 : Int32)) < 0 ∨ L ≤ ((a5 + (1 : Int32))).toNatClampNeg
  · exact nomatch (opos c679 hf)
  replace hf := oneg c679 hf
  refine va_sld hx hb X.1 X.2.1 X.2.2 hC.2.2.2.2.2.1 c679 dL_law_2387 ?_
  refine lv_aload_n hx hb dL_law_2388 rfl (lv_at hl 1 rfl) ?_
  refine lv_iload hx hb dL_law_2389 (lv_at hl 6 rfl) ?_
  refine lv_iconst (v := (2 : Int32)) hx hb dL_law_2391 (by decide) ?_
  refine lv_iadd hx hb dL_law_2392 ?_
  by_cases c680 : (a5 + (2 : Int32)) < 0 ∨ L ≤ ((a5 + (2 : Int32))).toNatClampNeg
  · exact nomatch (opos c680 hf)
  replace hf := oneg c680 hf
  refine va_sld hx hb X.1 X.2.1 X.2.2 hC.2.2.2.2.2.1 c680 dL_law_2393 ?_
  refine lv_aload_n hx hb dL_law_2394 rfl (lv_at hl 1 rfl) ?_
  refine lv_iload hx hb dL_law_2395 (lv_at hl 6 rfl) ?_
  refine lv_iconst (v := (3 : Int32)) hx hb dL_law_2397 (by decide) ?_
  refine lv_iadd hx hb dL_law_2398 ?_
  by_cases c681 : (a5 + (3 : Int32)) < 0 ∨ L ≤ ((a5 + (3 : Int32))).toNatClampNeg
  · exact nomatch (opos c681 hf)
  replace hf := oneg c681 hf
  refine va_sld hx hb X.1 X.2.1 X.2.2 hC.2.2.2.2.2.1 c681 dL_law_2399 ?_
  obtain ⟨b684, q685, hf⟩ := obind hf
  obtain ⟨r682, g683, hf⟩ := obind hf
  refine fr_callV hx hb hml hts hown K hC hR ct_8 (c_X8_many hfl D cA g683) 3 q685 kw1339 kw1336 kw1337 kw1338 kw62 (by decide +kernel) ⟨by omega, by omega⟩ rfl hl.1 (cat8 _ (by exact Nat.le_of_ble_eq_true rfl)) dL_law_2400 rfl (fun H locs _ _ hC => ?_)
  refine lv_istore (lv' := [(7, .int r682.1), (6, .int v676), (0, .ref b), (1, va_rf a1), (2, va_rf a2), (3, va_rf a3), (4, va_rf a4), (5, .int a5)]) hx hb dL_law_2403 hl (by decide) (congrArg (List.cons _) (flk rfl (flk rfl (flk rfl (flk rfl (flk rfl (flk rfl (flk rfl fln)))))))) (fun ls hl => ?_)
  refine fr_aload_n hx hb dL_law_2405 rfl (lv_at hl 4 rfl) ?_
  obtain ⟨b688, q689, hf⟩ := obind hf
  obtain ⟨r686, g687, hf⟩ := obind hf
  refine fr_callV hx hb hml hts hown K hC hR ct_8 (c_X8_thrown hfl D cA g687) 0 q689 kw1055 kw1052 kw1053 kw1054 kw62 (by decide +kernel) ⟨by omega, by omega⟩ rfl hl.1 (cat8 _ (by exact Nat.le_of_ble_eq_true rfl)) dL_law_2406 rfl (fun H locs _ _ hC => ?_)
  refine lv_iload hx hb dL_law_2409 (lv_at hl 1 rfl) ?_
  refine lv_icmp_eq (tgt := 2416) hx hb dL_law_2411 (by decide) (fun c690 => ?_) (fun c690 => ?_)
  · replace hf := opos c690 hf
    refine lv_iload hx hb dL_law_2416 (lv_at hl 1 rfl) ?_
    refine lv_if_ne (tgt := 2433) hx hb dL_law_2418 (by decide) (fun c691 => ?_) (fun c691 => ?_)
    · replace hf := oneg c691 hf
      exact w_L_law_L2433 M hfl hRf hRl X hend hk28 _ _ _ _ _ _ hf _ _ _ _ _ hC (lv_sub hl [2, 3, 4, 5, 6, 7] rfl)
    · replace hf := opos c691 hf
      refine fr_aload_n hx hb dL_law_2421 rfl (lv_at hl 5 rfl) ?_
      refine lv_iconst (v := (0 : Int32)) hx hb dL_law_2422 (by decide) ?_
      obtain ⟨x692, g693, hf⟩ := obind hf
      refine fr_lald hx hb K hC (t := 1) rfl g693 dL_law_2423 ?_
      refine lv_iload hx hb dL_law_2424 (lv_at hl 0 rfl) ?_
      refine lv_i2l (v := (Int32.toInt64 r682.1)) hx hb dL_law_2426 rfl ?_
      refine fr_lcmp_eq (tgt := 2433) hx hb dL_law_2427 dL_law_2428 (by decide) (fun c694 => ?_) (fun c694 => ?_)
      · replace hf := opos c694 hf
        exact w_L_law_L2433 M hfl hRf hRl X hend hk28 _ _ _ _ _ _ hf _ _ _ _ _ hC (lv_sub hl [2, 3, 4, 5, 6, 7] rfl)
      · replace hf := oneg c694 hf
        refine lv_iconst (v := (0 : Int32)) hx hb dL_law_2431 (by decide) ?_
        exact hend _ _ _ _ _ _ _ _ (Option.some.inj hf) hC dL_law_2432
  · replace hf := oneg c690 hf
    refine lv_iconst (v := (0 : Int32)) hx hb dL_law_2414 (by decide) ?_
    exact hend _ _ _ _ _ _ _ _ (Option.some.inj hf) hC dL_law_2415
set_option maxHeartbeats 4000000 in
set_option maxRecDepth 100000 in
theorem w_L_law_L2513 {p : Program} {l : Launch} {e : Env} {s : State} {m : MethodId} {args : Array Value} {below : List Frame} {meth : Method} {c : Code} {D : va_G} {cA : Nat → ClassId} {h0 : fSt} {r : (Int32 × fSt)} {Q : State → Prop} {R : Room} {b L : Nat} {xs : Nat → Int32} (M : fM p s m args meth c D cA h0 R cL_law 9 (some (.boolean)) RL) (hfl : l.stackTraces = false) (hRf : 35 ≤ R.frames) (hRl : 944 ≤ R.locals) (X : va_X b L xs s s.heap ∧ b < s.heap.size ∧ ¬ fA h0 b) (hend : ∀ (x : Int32) (h : fSt) (H : Heap) (locs : List Loc) (cells slots : Nat) (ls : Array Slot) (pc : Nat), (x, h) = r → fCur D cA s h0 h H locs → decode code pc = .ok (.ireturn, 1) → W p l e R s m args below meth c H locs cells slots Q (F0 m pc ls [.int x])) {k28 : Option Nat → Option Nat → Option Nat → Option Nat → Int32 → fSt → Option (Int32 × fSt)} (hk28 : ∀ (a1 : Option Nat) (a2 : Option Nat) (a3 : Option Nat) (a4 : Option Nat) (a5 : Int32) (h : fSt), k28 a1 a2 a3 a4 a5 h = some r → ∀ (H : Heap) (locs : List Loc) (cells slots : Nat) (ls : Array Slot), fCur D cA s h0 h H locs → lv_has ls 9 [(0, .ref b), (1, va_rf a1), (2, va_rf a2), (3, va_rf a3), (4, va_rf a4), (5, .int a5)] → W p l e R s m args below meth c H locs cells slots Q (F0 m 28 ls [])) (a1 : Option Nat) (a2 : Option Nat) (a3 : Option Nat) (a4 : Option Nat) (a5 : Int32) (h : fSt) (hf : f_L_law_L2513 L xs k28 a1 a2 a3 a4 a5 h = some r) : ∀ (H : Heap) (locs : List Loc) (cells slots : Nat) (ls : Array Slot), fCur D cA s h0 h H locs → lv_has ls 9 [(0, .ref b), (1, va_rf a1), (2, va_rf a2), (3, va_rf a3), (4, va_rf a4), (5, .int a5)] → W p l e R s m args below meth c H locs cells slots Q (F0 m 2513 ls []) := by
  obtain ⟨hx, hb, hml, hr, hlocks, hts, hown, K, hR⟩ := id M
  intro H locs cells slots ls hC hl
  refine lv_goto (tgt := 2859) hx hb dL_law_2513 (by decide) ?_
  exact w_L_law_L2859 M hfl hRf hRl X hend hk28 _ _ _ _ _ _ hf _ _ _ _ _ hC (lv_sub hl [0, 1, 2, 3, 4, 5] rfl)
set_option maxHeartbeats 4000000 in
set_option maxRecDepth 100000 in
theorem w_L_law_L2436 {p : Program} {l : Launch} {e : Env} {s : State} {m : MethodId} {args : Array Value} {below : List Frame} {meth : Method} {c : Code} {D : va_G} {cA : Nat → ClassId} {h0 : fSt} {r : (Int32 × fSt)} {Q : State → Prop} {R : Room} {b L : Nat} {xs : Nat → Int32} (M : fM p s m args meth c D cA h0 R cL_law 9 (some (.boolean)) RL) (hfl : l.stackTraces = false) (hRf : 35 ≤ R.frames) (hRl : 944 ≤ R.locals) (X : va_X b L xs s s.heap ∧ b < s.heap.size ∧ ¬ fA h0 b) (hend : ∀ (x : Int32) (h : fSt) (H : Heap) (locs : List Loc) (cells slots : Nat) (ls : Array Slot) (pc : Nat), (x, h) = r → fCur D cA s h0 h H locs → decode code pc = .ok (.ireturn, 1) → W p l e R s m args below meth c H locs cells slots Q (F0 m pc ls [.int x])) {k28 : Option Nat → Option Nat → Option Nat → Option Nat → Int32 → fSt → Option (Int32 × fSt)} (hk28 : ∀ (a1 : Option Nat) (a2 : Option Nat) (a3 : Option Nat) (a4 : Option Nat) (a5 : Int32) (h : fSt), k28 a1 a2 a3 a4 a5 h = some r → ∀ (H : Heap) (locs : List Loc) (cells slots : Nat) (ls : Array Slot), fCur D cA s h0 h H locs → lv_has ls 9 [(0, .ref b), (1, va_rf a1), (2, va_rf a2), (3, va_rf a3), (4, va_rf a4), (5, .int a5)] → W p l e R s m args below meth c H locs cells slots Q (F0 m 28 ls [])) (a1 : Option Nat) (a2 : Option Nat) (a3 : Option Nat) (a4 : Option Nat) (a5 : Int32) (h : fSt) (hf : f_L_law_L2436 L xs k28 a1 a2 a3 a4 a5 h = some r) : ∀ (H : Heap) (locs : List Loc) (cells slots : Nat) (ls : Array Slot), fCur D cA s h0 h H locs → lv_has ls 9 [(0, .ref b), (1, va_rf a1), (2, va_rf a2), (3, va_rf a3), (4, va_rf a4), (5, .int a5)] → W p l e R s m args below meth c H locs cells slots Q (F0 m 2436 ls []) := by
  obtain ⟨hx, hb, hml, hr, hlocks, hts, hown, K, hR⟩ := id M
  intro H locs cells slots ls hC hl
  refine fr_aload_n hx hb dL_law_2436 rfl (lv_at hl 1 rfl) ?_
  refine lv_aload_n hx hb dL_law_2437 rfl (lv_at hl 0 rfl) ?_
  refine lv_iload hx hb dL_law_2438 (lv_at hl 5 rfl) ?_
  refine lv_iconst (v := (1 : Int32)) hx hb dL_law_2440 (by decide) ?_
  refine lv_iadd hx hb dL_law_2441 ?_
  by_cases c695 : (a5 + (1 : Int32)) < 0 ∨ L ≤ ((a5 + (1 : Int32))).toNatClampNeg
  · exact nomatch (opos c695 hf)
  replace hf := oneg c695 hf
  refine va_sld hx hb X.1 X.2.1 X.2.2 hC.2.2.2.2.2.1 c695 dL_law_2442 ?_
  refine lv_aload_n hx hb dL_law_2443 rfl (lv_at hl 0 rfl) ?_
  refine lv_iload hx hb dL_law_2444 (lv_at hl 5 rfl) ?_
  refine lv_iconst (v := (2 : Int32)) hx hb dL_law_2446 (by decide) ?_
  refine lv_iadd hx hb dL_law_2447 ?_
  by_cases c696 : (a5 + (2 : Int32)) < 0 ∨ L ≤ ((a5 + (2 : Int32))).toNatClampNeg
  · exact nomatch (opos c696 hf)
  replace hf := oneg c696 hf
  refine va_sld hx hb X.1 X.2.1 X.2.2 hC.2.2.2.2.2.1 c696 dL_law_2448 ?_
  refine lv_aload_n hx hb dL_law_2449 rfl (lv_at hl 0 rfl) ?_
  refine lv_iload hx hb dL_law_2450 (lv_at hl 5 rfl) ?_
  refine lv_iconst (v := (3 : Int32)) hx hb dL_law_2452 (by decide) ?_
  refine lv_iadd hx hb dL_law_2453 ?_
  by_cases c697 : (a5 + (3 : Int32)) < 0 ∨ L ≤ ((a5 + (3 : Int32))).toNatClampNeg
  · exact nomatch (opos c697 hf)
  replace hf := oneg c697 hf
  refine va_sld hx hb X.1 X.2.1 X.2.2 hC.2.2.2.2.2.1 c697 dL_law_2454 ?_
  refine fr_aload_n hx hb dL_law_2455 rfl (lv_at hl 3 rfl) ?_
  obtain ⟨⟨v700 | k701, h702⟩, g699, hf⟩ := obind hf
  rotate_left
  · exact nomatch (show (none : Option (Int32 × fSt)) = some _ from hf)
  replace hf := fci hf
  refine fr_callSH hx hb hml hts hown K hC hR (c_L_through hfl D cA g699) 5 kw926 kw924 kw925 kw54 (by decide +kernel) ⟨by omega, by omega⟩ rfl hl.1 (cat8 _ (by exact Nat.le_of_ble_eq_true rfl)) dL_law_2456 rfl (fun H locs _ _ hC => ?_)
  refine lv_istore (lv' := [(6, .int v700), (0, .ref b), (1, va_rf a1), (2, va_rf a2), (3, va_rf a3), (4, va_rf a4), (5, .int a5)]) hx hb dL_law_2459 hl (by decide) (congrArg (List.cons _) (flk rfl (flk rfl (flk rfl (flk rfl (flk rfl (flk rfl fln))))))) (fun ls hl => ?_)
  refine fr_aload_n hx hb dL_law_2461 rfl (lv_at hl 3 rfl) ?_
  refine lv_aload_n hx hb dL_law_2462 rfl (lv_at hl 1 rfl) ?_
  refine lv_iload hx hb dL_law_2463 (lv_at hl 6 rfl) ?_
  refine lv_iconst (v := (1 : Int32)) hx hb dL_law_2465 (by decide) ?_
  refine lv_iadd hx hb dL_law_2466 ?_
  by_cases c703 : (a5 + (1 : Int32)) < 0 ∨ L ≤ ((a5 + (1 : Int32))).toNatClampNeg
  · exact nomatch (opos c703 hf)
  replace hf := oneg c703 hf
  refine va_sld hx hb X.1 X.2.1 X.2.2 hC.2.2.2.2.2.1 c703 dL_law_2467 ?_
  refine lv_aload_n hx hb dL_law_2468 rfl (lv_at hl 1 rfl) ?_
  refine lv_iload hx hb dL_law_2469 (lv_at hl 6 rfl) ?_
  refine lv_iconst (v := (2 : Int32)) hx hb dL_law_2471 (by decide) ?_
  refine lv_iadd hx hb dL_law_2472 ?_
  by_cases c704 : (a5 + (2 : Int32)) < 0 ∨ L ≤ ((a5 + (2 : Int32))).toNatClampNeg
  · exact nomatch (opos c704 hf)
  replace hf := oneg c704 hf
  refine va_sld hx hb X.1 X.2.1 X.2.2 hC.2.2.2.2.2.1 c704 dL_law_2473 ?_
  refine lv_aload_n hx hb dL_law_2474 rfl (lv_at hl 1 rfl) ?_
  refine lv_iload hx hb dL_law_2475 (lv_at hl 6 rfl) ?_
  refine lv_iconst (v := (3 : Int32)) hx hb dL_law_2477 (by decide) ?_
  refine lv_iadd hx hb dL_law_2478 ?_
  by_cases c705 : (a5 + (3 : Int32)) < 0 ∨ L ≤ ((a5 + (3 : Int32))).toNatClampNeg
  · exact nomatch (opos c705 hf)
  replace hf := oneg c705 hf
  refine va_sld hx hb X.1 X.2.1 X.2.2 hC.2.2.2.2.2.1 c705 dL_law_2479 ?_
  obtain ⟨b708, q709, hf⟩ := obind hf
  obtain ⟨r706, g707, hf⟩ := obind hf
  refine fr_callV hx hb hml hts hown K hC hR ct_8 (c_X8_through hfl D cA g707) 3 q709 kw1343 kw1340 kw1341 kw1342 kw62 (by decide +kernel) ⟨by omega, by omega⟩ rfl hl.1 (cat8 _ (by exact Nat.le_of_ble_eq_true rfl)) dL_law_2480 rfl (fun H locs _ _ hC => ?_)
  refine lv_istore (lv' := [(7, .int r706.1), (6, .int v700), (0, .ref b), (1, va_rf a1), (2, va_rf a2), (3, va_rf a3), (4, va_rf a4), (5, .int a5)]) hx hb dL_law_2483 hl (by decide) (congrArg (List.cons _) (flk rfl (flk rfl (flk rfl (flk rfl (flk rfl (flk rfl (flk rfl fln)))))))) (fun ls hl => ?_)
  refine fr_aload_n hx hb dL_law_2485 rfl (lv_at hl 4 rfl) ?_
  obtain ⟨b712, q713, hf⟩ := obind hf
  obtain ⟨r710, g711, hf⟩ := obind hf
  refine fr_callV hx hb hml hts hown K hC hR ct_8 (c_X8_thrown hfl D cA g711) 0 q713 kw1055 kw1052 kw1053 kw1054 kw62 (by decide +kernel) ⟨by omega, by omega⟩ rfl hl.1 (cat8 _ (by exact Nat.le_of_ble_eq_true rfl)) dL_law_2486 rfl (fun H locs _ _ hC => ?_)
  refine lv_iload hx hb dL_law_2489 (lv_at hl 1 rfl) ?_
  refine lv_icmp_eq (tgt := 2496) hx hb dL_law_2491 (by decide) (fun c714 => ?_) (fun c714 => ?_)
  · replace hf := opos c714 hf
    refine lv_iload hx hb dL_law_2496 (lv_at hl 1 rfl) ?_
    refine lv_if_ne (tgt := 2513) hx hb dL_law_2498 (by decide) (fun c715 => ?_) (fun c715 => ?_)
    · replace hf := oneg c715 hf
      exact w_L_law_L2513 M hfl hRf hRl X hend hk28 _ _ _ _ _ _ hf _ _ _ _ _ hC (lv_sub hl [2, 3, 4, 5, 6, 7] rfl)
    · replace hf := opos c715 hf
      refine fr_aload_n hx hb dL_law_2501 rfl (lv_at hl 5 rfl) ?_
      refine lv_iconst (v := (0 : Int32)) hx hb dL_law_2502 (by decide) ?_
      obtain ⟨x716, g717, hf⟩ := obind hf
      refine fr_lald hx hb K hC (t := 1) rfl g717 dL_law_2503 ?_
      refine lv_iload hx hb dL_law_2504 (lv_at hl 0 rfl) ?_
      refine lv_i2l (v := (Int32.toInt64 r706.1)) hx hb dL_law_2506 rfl ?_
      refine fr_lcmp_eq (tgt := 2513) hx hb dL_law_2507 dL_law_2508 (by decide) (fun c718 => ?_) (fun c718 => ?_)
      · replace hf := opos c718 hf
        exact w_L_law_L2513 M hfl hRf hRl X hend hk28 _ _ _ _ _ _ hf _ _ _ _ _ hC (lv_sub hl [2, 3, 4, 5, 6, 7] rfl)
      · replace hf := oneg c718 hf
        refine lv_iconst (v := (0 : Int32)) hx hb dL_law_2511 (by decide) ?_
        exact hend _ _ _ _ _ _ _ _ (Option.some.inj hf) hC dL_law_2512
  · replace hf := oneg c714 hf
    refine lv_iconst (v := (0 : Int32)) hx hb dL_law_2494 (by decide) ?_
    exact hend _ _ _ _ _ _ _ _ (Option.some.inj hf) hC dL_law_2495
set_option maxHeartbeats 4000000 in
set_option maxRecDepth 100000 in
theorem w_L_law_L2581 {p : Program} {l : Launch} {e : Env} {s : State} {m : MethodId} {args : Array Value} {below : List Frame} {meth : Method} {c : Code} {D : va_G} {cA : Nat → ClassId} {h0 : fSt} {r : (Int32 × fSt)} {Q : State → Prop} {R : Room} {b L : Nat} {xs : Nat → Int32} (M : fM p s m args meth c D cA h0 R cL_law 9 (some (.boolean)) RL) (hfl : l.stackTraces = false) (hRf : 35 ≤ R.frames) (hRl : 944 ≤ R.locals) (X : va_X b L xs s s.heap ∧ b < s.heap.size ∧ ¬ fA h0 b) (hend : ∀ (x : Int32) (h : fSt) (H : Heap) (locs : List Loc) (cells slots : Nat) (ls : Array Slot) (pc : Nat), (x, h) = r → fCur D cA s h0 h H locs → decode code pc = .ok (.ireturn, 1) → W p l e R s m args below meth c H locs cells slots Q (F0 m pc ls [.int x])) {k28 : Option Nat → Option Nat → Option Nat → Option Nat → Int32 → fSt → Option (Int32 × fSt)} (hk28 : ∀ (a1 : Option Nat) (a2 : Option Nat) (a3 : Option Nat) (a4 : Option Nat) (a5 : Int32) (h : fSt), k28 a1 a2 a3 a4 a5 h = some r → ∀ (H : Heap) (locs : List Loc) (cells slots : Nat) (ls : Array Slot), fCur D cA s h0 h H locs → lv_has ls 9 [(0, .ref b), (1, va_rf a1), (2, va_rf a2), (3, va_rf a3), (4, va_rf a4), (5, .int a5)] → W p l e R s m args below meth c H locs cells slots Q (F0 m 28 ls [])) (a1 : Option Nat) (a2 : Option Nat) (a3 : Option Nat) (a4 : Option Nat) (a5 : Int32) (h : fSt) (hf : f_L_law_L2581 L xs k28 a1 a2 a3 a4 a5 h = some r) : ∀ (H : Heap) (locs : List Loc) (cells slots : Nat) (ls : Array Slot), fCur D cA s h0 h H locs → lv_has ls 9 [(0, .ref b), (1, va_rf a1), (2, va_rf a2), (3, va_rf a3), (4, va_rf a4), (5, .int a5)] → W p l e R s m args below meth c H locs cells slots Q (F0 m 2581 ls []) := by
  obtain ⟨hx, hb, hml, hr, hlocks, hts, hown, K, hR⟩ := id M
  intro H locs cells slots ls hC hl
  refine lv_goto (tgt := 2859) hx hb dL_law_2581 (by decide) ?_
  exact w_L_law_L2859 M hfl hRf hRl X hend hk28 _ _ _ _ _ _ hf _ _ _ _ _ hC (lv_sub hl [0, 1, 2, 3, 4, 5] rfl)
set_option maxHeartbeats 4000000 in
set_option maxRecDepth 100000 in
theorem w_L_law_L2516 {p : Program} {l : Launch} {e : Env} {s : State} {m : MethodId} {args : Array Value} {below : List Frame} {meth : Method} {c : Code} {D : va_G} {cA : Nat → ClassId} {h0 : fSt} {r : (Int32 × fSt)} {Q : State → Prop} {R : Room} {b L : Nat} {xs : Nat → Int32} (M : fM p s m args meth c D cA h0 R cL_law 9 (some (.boolean)) RL) (hfl : l.stackTraces = false) (hRf : 35 ≤ R.frames) (hRl : 944 ≤ R.locals) (X : va_X b L xs s s.heap ∧ b < s.heap.size ∧ ¬ fA h0 b) (hend : ∀ (x : Int32) (h : fSt) (H : Heap) (locs : List Loc) (cells slots : Nat) (ls : Array Slot) (pc : Nat), (x, h) = r → fCur D cA s h0 h H locs → decode code pc = .ok (.ireturn, 1) → W p l e R s m args below meth c H locs cells slots Q (F0 m pc ls [.int x])) {k28 : Option Nat → Option Nat → Option Nat → Option Nat → Int32 → fSt → Option (Int32 × fSt)} (hk28 : ∀ (a1 : Option Nat) (a2 : Option Nat) (a3 : Option Nat) (a4 : Option Nat) (a5 : Int32) (h : fSt), k28 a1 a2 a3 a4 a5 h = some r → ∀ (H : Heap) (locs : List Loc) (cells slots : Nat) (ls : Array Slot), fCur D cA s h0 h H locs → lv_has ls 9 [(0, .ref b), (1, va_rf a1), (2, va_rf a2), (3, va_rf a3), (4, va_rf a4), (5, .int a5)] → W p l e R s m args below meth c H locs cells slots Q (F0 m 28 ls [])) (a1 : Option Nat) (a2 : Option Nat) (a3 : Option Nat) (a4 : Option Nat) (a5 : Int32) (h : fSt) (hf : f_L_law_L2516 L xs k28 a1 a2 a3 a4 a5 h = some r) : ∀ (H : Heap) (locs : List Loc) (cells slots : Nat) (ls : Array Slot), fCur D cA s h0 h H locs → lv_has ls 9 [(0, .ref b), (1, va_rf a1), (2, va_rf a2), (3, va_rf a3), (4, va_rf a4), (5, .int a5)] → W p l e R s m args below meth c H locs cells slots Q (F0 m 2516 ls []) := by
  obtain ⟨hx, hb, hml, hr, hlocks, hts, hown, K, hR⟩ := id M
  intro H locs cells slots ls hC hl
  refine fr_aload_n hx hb dL_law_2516 rfl (lv_at hl 1 rfl) ?_
  refine lv_aload_n hx hb dL_law_2517 rfl (lv_at hl 0 rfl) ?_
  refine lv_iload hx hb dL_law_2518 (lv_at hl 5 rfl) ?_
  refine lv_iconst (v := (1 : Int32)) hx hb dL_law_2520 (by decide) ?_
  refine lv_iadd hx hb dL_law_2521 ?_
  by_cases c719 : (a5 + (1 : Int32)) < 0 ∨ L ≤ ((a5 + (1 : Int32))).toNatClampNeg
  · exact nomatch (opos c719 hf)
  replace hf := oneg c719 hf
  refine va_sld hx hb X.1 X.2.1 X.2.2 hC.2.2.2.2.2.1 c719 dL_law_2522 ?_
  refine lv_aload_n hx hb dL_law_2523 rfl (lv_at hl 0 rfl) ?_
  refine lv_iload hx hb dL_law_2524 (lv_at hl 5 rfl) ?_
  refine lv_iconst (v := (2 : Int32)) hx hb dL_law_2526 (by decide) ?_
  refine lv_iadd hx hb dL_law_2527 ?_
  by_cases c720 : (a5 + (2 : Int32)) < 0 ∨ L ≤ ((a5 + (2 : Int32))).toNatClampNeg
  · exact nomatch (opos c720 hf)
  replace hf := oneg c720 hf
  refine va_sld hx hb X.1 X.2.1 X.2.2 hC.2.2.2.2.2.1 c720 dL_law_2528 ?_
  refine fr_aload_n hx hb dL_law_2529 rfl (lv_at hl 3 rfl) ?_
  obtain ⟨⟨v723 | k724, h725⟩, g722, hf⟩ := obind hf
  rotate_left
  · exact nomatch (show (none : Option (Int32 × fSt)) = some _ from hf)
  replace hf := fci hf
  refine fr_callSH hx hb hml hts hown K hC hR (c_L_changes hfl D cA g722) 4 kw933 kw931 kw932 kw54 (by decide +kernel) ⟨by omega, by omega⟩ rfl hl.1 (cat8 _ (by exact Nat.le_of_ble_eq_true rfl)) dL_law_2530 rfl (fun H locs _ _ hC => ?_)
  refine lv_istore (lv' := [(6, .int v723), (0, .ref b), (1, va_rf a1), (2, va_rf a2), (3, va_rf a3), (4, va_rf a4), (5, .int a5)]) hx hb dL_law_2533 hl (by decide) (congrArg (List.cons _) (flk rfl (flk rfl (flk rfl (flk rfl (flk rfl (flk rfl fln))))))) (fun ls hl => ?_)
  refine fr_aload_n hx hb dL_law_2535 rfl (lv_at hl 3 rfl) ?_
  refine lv_aload_n hx hb dL_law_2536 rfl (lv_at hl 1 rfl) ?_
  refine lv_iload hx hb dL_law_2537 (lv_at hl 6 rfl) ?_
  refine lv_iconst (v := (1 : Int32)) hx hb dL_law_2539 (by decide) ?_
  refine lv_iadd hx hb dL_law_2540 ?_
  by_cases c726 : (a5 + (1 : Int32)) < 0 ∨ L ≤ ((a5 + (1 : Int32))).toNatClampNeg
  · exact nomatch (opos c726 hf)
  replace hf := oneg c726 hf
  refine va_sld hx hb X.1 X.2.1 X.2.2 hC.2.2.2.2.2.1 c726 dL_law_2541 ?_
  refine lv_aload_n hx hb dL_law_2542 rfl (lv_at hl 1 rfl) ?_
  refine lv_iload hx hb dL_law_2543 (lv_at hl 6 rfl) ?_
  refine lv_iconst (v := (2 : Int32)) hx hb dL_law_2545 (by decide) ?_
  refine lv_iadd hx hb dL_law_2546 ?_
  by_cases c727 : (a5 + (2 : Int32)) < 0 ∨ L ≤ ((a5 + (2 : Int32))).toNatClampNeg
  · exact nomatch (opos c727 hf)
  replace hf := oneg c727 hf
  refine va_sld hx hb X.1 X.2.1 X.2.2 hC.2.2.2.2.2.1 c727 dL_law_2547 ?_
  obtain ⟨b730, q731, hf⟩ := obind hf
  obtain ⟨r728, g729, hf⟩ := obind hf
  refine fr_callV hx hb hml hts hown K hC hR ct_8 (c_X8_changes hfl D cA g729) 2 q731 kw1347 kw1344 kw1345 kw1346 kw62 (by decide +kernel) ⟨by omega, by omega⟩ rfl hl.1 (cat8 _ (by exact Nat.le_of_ble_eq_true rfl)) dL_law_2548 rfl (fun H locs _ _ hC => ?_)
  refine lv_istore (lv' := [(7, .int r728.1), (6, .int v723), (0, .ref b), (1, va_rf a1), (2, va_rf a2), (3, va_rf a3), (4, va_rf a4), (5, .int a5)]) hx hb dL_law_2551 hl (by decide) (congrArg (List.cons _) (flk rfl (flk rfl (flk rfl (flk rfl (flk rfl (flk rfl (flk rfl fln)))))))) (fun ls hl => ?_)
  refine fr_aload_n hx hb dL_law_2553 rfl (lv_at hl 4 rfl) ?_
  obtain ⟨b734, q735, hf⟩ := obind hf
  obtain ⟨r732, g733, hf⟩ := obind hf
  refine fr_callV hx hb hml hts hown K hC hR ct_8 (c_X8_thrown hfl D cA g733) 0 q735 kw1055 kw1052 kw1053 kw1054 kw62 (by decide +kernel) ⟨by omega, by omega⟩ rfl hl.1 (cat8 _ (by exact Nat.le_of_ble_eq_true rfl)) dL_law_2554 rfl (fun H locs _ _ hC => ?_)
  refine lv_iload hx hb dL_law_2557 (lv_at hl 1 rfl) ?_
  refine lv_icmp_eq (tgt := 2564) hx hb dL_law_2559 (by decide) (fun c736 => ?_) (fun c736 => ?_)
  · replace hf := opos c736 hf
    refine lv_iload hx hb dL_law_2564 (lv_at hl 1 rfl) ?_
    refine lv_if_ne (tgt := 2581) hx hb dL_law_2566 (by decide) (fun c737 => ?_) (fun c737 => ?_)
    · replace hf := oneg c737 hf
      exact w_L_law_L2581 M hfl hRf hRl X hend hk28 _ _ _ _ _ _ hf _ _ _ _ _ hC (lv_sub hl [2, 3, 4, 5, 6, 7] rfl)
    · replace hf := opos c737 hf
      refine fr_aload_n hx hb dL_law_2569 rfl (lv_at hl 5 rfl) ?_
      refine lv_iconst (v := (0 : Int32)) hx hb dL_law_2570 (by decide) ?_
      obtain ⟨x738, g739, hf⟩ := obind hf
      refine fr_lald hx hb K hC (t := 1) rfl g739 dL_law_2571 ?_
      refine lv_iload hx hb dL_law_2572 (lv_at hl 0 rfl) ?_
      refine lv_i2l (v := (Int32.toInt64 r728.1)) hx hb dL_law_2574 rfl ?_
      refine fr_lcmp_eq (tgt := 2581) hx hb dL_law_2575 dL_law_2576 (by decide) (fun c740 => ?_) (fun c740 => ?_)
      · replace hf := opos c740 hf
        exact w_L_law_L2581 M hfl hRf hRl X hend hk28 _ _ _ _ _ _ hf _ _ _ _ _ hC (lv_sub hl [2, 3, 4, 5, 6, 7] rfl)
      · replace hf := oneg c740 hf
        refine lv_iconst (v := (0 : Int32)) hx hb dL_law_2579 (by decide) ?_
        exact hend _ _ _ _ _ _ _ _ (Option.some.inj hf) hC dL_law_2580
  · replace hf := oneg c736 hf
    refine lv_iconst (v := (0 : Int32)) hx hb dL_law_2562 (by decide) ?_
    exact hend _ _ _ _ _ _ _ _ (Option.some.inj hf) hC dL_law_2563
set_option maxHeartbeats 4000000 in
set_option maxRecDepth 100000 in
theorem w_L_law_L2673 {p : Program} {l : Launch} {e : Env} {s : State} {m : MethodId} {args : Array Value} {below : List Frame} {meth : Method} {c : Code} {D : va_G} {cA : Nat → ClassId} {h0 : fSt} {r : (Int32 × fSt)} {Q : State → Prop} {R : Room} {b L : Nat} {xs : Nat → Int32} (M : fM p s m args meth c D cA h0 R cL_law 9 (some (.boolean)) RL) (hfl : l.stackTraces = false) (hRf : 35 ≤ R.frames) (hRl : 944 ≤ R.locals) (X : va_X b L xs s s.heap ∧ b < s.heap.size ∧ ¬ fA h0 b) (hend : ∀ (x : Int32) (h : fSt) (H : Heap) (locs : List Loc) (cells slots : Nat) (ls : Array Slot) (pc : Nat), (x, h) = r → fCur D cA s h0 h H locs → decode code pc = .ok (.ireturn, 1) → W p l e R s m args below meth c H locs cells slots Q (F0 m pc ls [.int x])) {k28 : Option Nat → Option Nat → Option Nat → Option Nat → Int32 → fSt → Option (Int32 × fSt)} (hk28 : ∀ (a1 : Option Nat) (a2 : Option Nat) (a3 : Option Nat) (a4 : Option Nat) (a5 : Int32) (h : fSt), k28 a1 a2 a3 a4 a5 h = some r → ∀ (H : Heap) (locs : List Loc) (cells slots : Nat) (ls : Array Slot), fCur D cA s h0 h H locs → lv_has ls 9 [(0, .ref b), (1, va_rf a1), (2, va_rf a2), (3, va_rf a3), (4, va_rf a4), (5, .int a5)] → W p l e R s m args below meth c H locs cells slots Q (F0 m 28 ls [])) (a1 : Option Nat) (a2 : Option Nat) (a3 : Option Nat) (a4 : Option Nat) (a5 : Int32) (h : fSt) (hf : f_L_law_L2673 L xs k28 a1 a2 a3 a4 a5 h = some r) : ∀ (H : Heap) (locs : List Loc) (cells slots : Nat) (ls : Array Slot), fCur D cA s h0 h H locs → lv_has ls 9 [(0, .ref b), (1, va_rf a1), (2, va_rf a2), (3, va_rf a3), (4, va_rf a4), (5, .int a5)] → W p l e R s m args below meth c H locs cells slots Q (F0 m 2673 ls []) := by
  obtain ⟨hx, hb, hml, hr, hlocks, hts, hown, K, hR⟩ := id M
  intro H locs cells slots ls hC hl
  refine lv_goto (tgt := 2859) hx hb dL_law_2673 (by decide) ?_
  exact w_L_law_L2859 M hfl hRf hRl X hend hk28 _ _ _ _ _ _ hf _ _ _ _ _ hC (lv_sub hl [0, 1, 2, 3, 4, 5] rfl)
set_option maxHeartbeats 4000000 in
set_option maxRecDepth 100000 in
theorem w_L_law_L2584 {p : Program} {l : Launch} {e : Env} {s : State} {m : MethodId} {args : Array Value} {below : List Frame} {meth : Method} {c : Code} {D : va_G} {cA : Nat → ClassId} {h0 : fSt} {r : (Int32 × fSt)} {Q : State → Prop} {R : Room} {b L : Nat} {xs : Nat → Int32} (M : fM p s m args meth c D cA h0 R cL_law 9 (some (.boolean)) RL) (hfl : l.stackTraces = false) (hRf : 35 ≤ R.frames) (hRl : 944 ≤ R.locals) (X : va_X b L xs s s.heap ∧ b < s.heap.size ∧ ¬ fA h0 b) (hend : ∀ (x : Int32) (h : fSt) (H : Heap) (locs : List Loc) (cells slots : Nat) (ls : Array Slot) (pc : Nat), (x, h) = r → fCur D cA s h0 h H locs → decode code pc = .ok (.ireturn, 1) → W p l e R s m args below meth c H locs cells slots Q (F0 m pc ls [.int x])) {k28 : Option Nat → Option Nat → Option Nat → Option Nat → Int32 → fSt → Option (Int32 × fSt)} (hk28 : ∀ (a1 : Option Nat) (a2 : Option Nat) (a3 : Option Nat) (a4 : Option Nat) (a5 : Int32) (h : fSt), k28 a1 a2 a3 a4 a5 h = some r → ∀ (H : Heap) (locs : List Loc) (cells slots : Nat) (ls : Array Slot), fCur D cA s h0 h H locs → lv_has ls 9 [(0, .ref b), (1, va_rf a1), (2, va_rf a2), (3, va_rf a3), (4, va_rf a4), (5, .int a5)] → W p l e R s m args below meth c H locs cells slots Q (F0 m 28 ls [])) (a1 : Option Nat) (a2 : Option Nat) (a3 : Option Nat) (a4 : Option Nat) (a5 : Int32) (h : fSt) (hf : f_L_law_L2584 L xs k28 a1 a2 a3 a4 a5 h = some r) : ∀ (H : Heap) (locs : List Loc) (cells slots : Nat) (ls : Array Slot), fCur D cA s h0 h H locs → lv_has ls 9 [(0, .ref b), (1, va_rf a1), (2, va_rf a2), (3, va_rf a3), (4, va_rf a4), (5, .int a5)] → W p l e R s m args below meth c H locs cells slots Q (F0 m 2584 ls []) := by
  obtain ⟨hx, hb, hml, hr, hlocks, hts, hown, K, hR⟩ := id M
  intro H locs cells slots ls hC hl
  refine fr_aload_n hx hb dL_law_2584 rfl (lv_at hl 1 rfl) ?_
  refine lv_aload_n hx hb dL_law_2585 rfl (lv_at hl 0 rfl) ?_
  refine lv_iload hx hb dL_law_2586 (lv_at hl 5 rfl) ?_
  refine lv_iconst (v := (1 : Int32)) hx hb dL_law_2588 (by decide) ?_
  refine lv_iadd hx hb dL_law_2589 ?_
  by_cases c741 : (a5 + (1 : Int32)) < 0 ∨ L ≤ ((a5 + (1 : Int32))).toNatClampNeg
  · exact nomatch (opos c741 hf)
  replace hf := oneg c741 hf
  refine va_sld hx hb X.1 X.2.1 X.2.2 hC.2.2.2.2.2.1 c741 dL_law_2590 ?_
  refine lv_aload_n hx hb dL_law_2591 rfl (lv_at hl 0 rfl) ?_
  refine lv_iload hx hb dL_law_2592 (lv_at hl 5 rfl) ?_
  refine lv_iconst (v := (2 : Int32)) hx hb dL_law_2594 (by decide) ?_
  refine lv_iadd hx hb dL_law_2595 ?_
  by_cases c742 : (a5 + (2 : Int32)) < 0 ∨ L ≤ ((a5 + (2 : Int32))).toNatClampNeg
  · exact nomatch (opos c742 hf)
  replace hf := oneg c742 hf
  refine va_sld hx hb X.1 X.2.1 X.2.2 hC.2.2.2.2.2.1 c742 dL_law_2596 ?_
  refine lv_aload_n hx hb dL_law_2597 rfl (lv_at hl 0 rfl) ?_
  refine lv_iload hx hb dL_law_2598 (lv_at hl 5 rfl) ?_
  refine lv_iconst (v := (3 : Int32)) hx hb dL_law_2600 (by decide) ?_
  refine lv_iadd hx hb dL_law_2601 ?_
  by_cases c743 : (a5 + (3 : Int32)) < 0 ∨ L ≤ ((a5 + (3 : Int32))).toNatClampNeg
  · exact nomatch (opos c743 hf)
  replace hf := oneg c743 hf
  refine va_sld hx hb X.1 X.2.1 X.2.2 hC.2.2.2.2.2.1 c743 dL_law_2602 ?_
  refine lv_aload_n hx hb dL_law_2603 rfl (lv_at hl 0 rfl) ?_
  refine lv_iload hx hb dL_law_2604 (lv_at hl 5 rfl) ?_
  refine lv_iconst (v := (4 : Int32)) hx hb dL_law_2606 (by decide) ?_
  refine lv_iadd hx hb dL_law_2607 ?_
  by_cases c744 : (a5 + (4 : Int32)) < 0 ∨ L ≤ ((a5 + (4 : Int32))).toNatClampNeg
  · exact nomatch (opos c744 hf)
  replace hf := oneg c744 hf
  refine va_sld hx hb X.1 X.2.1 X.2.2 hC.2.2.2.2.2.1 c744 dL_law_2608 ?_
  refine fr_aload_n hx hb dL_law_2609 rfl (lv_at hl 3 rfl) ?_
  obtain ⟨⟨v747 | k748, h749⟩, g746, hf⟩ := obind hf
  rotate_left
  · exact nomatch (show (none : Option (Int32 × fSt)) = some _ from hf)
  replace hf := fci hf
  refine fr_callSH hx hb hml hts hown K hC hR (c_L_pickWithout hfl D cA g746) 6 kw937 kw935 kw936 kw54 (by decide +kernel) ⟨by omega, by omega⟩ rfl hl.1 (cat8 _ (by exact Nat.le_of_ble_eq_true rfl)) dL_law_2610 rfl (fun H locs _ _ hC => ?_)
  refine lv_istore (lv' := [(6, .int v747), (0, .ref b), (1, va_rf a1), (2, va_rf a2), (3, va_rf a3), (4, va_rf a4), (5, .int a5)]) hx hb dL_law_2613 hl (by decide) (congrArg (List.cons _) (flk rfl (flk rfl (flk rfl (flk rfl (flk rfl (flk rfl fln))))))) (fun ls hl => ?_)
  refine fr_aload_n hx hb dL_law_2615 rfl (lv_at hl 3 rfl) ?_
  refine lv_aload_n hx hb dL_law_2616 rfl (lv_at hl 1 rfl) ?_
  refine lv_iload hx hb dL_law_2617 (lv_at hl 6 rfl) ?_
  refine lv_iconst (v := (1 : Int32)) hx hb dL_law_2619 (by decide) ?_
  refine lv_iadd hx hb dL_law_2620 ?_
  by_cases c750 : (a5 + (1 : Int32)) < 0 ∨ L ≤ ((a5 + (1 : Int32))).toNatClampNeg
  · exact nomatch (opos c750 hf)
  replace hf := oneg c750 hf
  refine va_sld hx hb X.1 X.2.1 X.2.2 hC.2.2.2.2.2.1 c750 dL_law_2621 ?_
  refine lv_aload_n hx hb dL_law_2622 rfl (lv_at hl 1 rfl) ?_
  refine lv_iload hx hb dL_law_2623 (lv_at hl 6 rfl) ?_
  refine lv_iconst (v := (2 : Int32)) hx hb dL_law_2625 (by decide) ?_
  refine lv_iadd hx hb dL_law_2626 ?_
  by_cases c751 : (a5 + (2 : Int32)) < 0 ∨ L ≤ ((a5 + (2 : Int32))).toNatClampNeg
  · exact nomatch (opos c751 hf)
  replace hf := oneg c751 hf
  refine va_sld hx hb X.1 X.2.1 X.2.2 hC.2.2.2.2.2.1 c751 dL_law_2627 ?_
  refine lv_aload_n hx hb dL_law_2628 rfl (lv_at hl 1 rfl) ?_
  refine lv_iload hx hb dL_law_2629 (lv_at hl 6 rfl) ?_
  refine lv_iconst (v := (3 : Int32)) hx hb dL_law_2631 (by decide) ?_
  refine lv_iadd hx hb dL_law_2632 ?_
  by_cases c752 : (a5 + (3 : Int32)) < 0 ∨ L ≤ ((a5 + (3 : Int32))).toNatClampNeg
  · exact nomatch (opos c752 hf)
  replace hf := oneg c752 hf
  refine va_sld hx hb X.1 X.2.1 X.2.2 hC.2.2.2.2.2.1 c752 dL_law_2633 ?_
  refine lv_aload_n hx hb dL_law_2634 rfl (lv_at hl 1 rfl) ?_
  refine lv_iload hx hb dL_law_2635 (lv_at hl 6 rfl) ?_
  refine lv_iconst (v := (4 : Int32)) hx hb dL_law_2637 (by decide) ?_
  refine lv_iadd hx hb dL_law_2638 ?_
  by_cases c753 : (a5 + (4 : Int32)) < 0 ∨ L ≤ ((a5 + (4 : Int32))).toNatClampNeg
  · exact nomatch (opos c753 hf)
  replace hf := oneg c753 hf
  refine va_sld hx hb X.1 X.2.1 X.2.2 hC.2.2.2.2.2.1 c753 dL_law_2639 ?_
  obtain ⟨b756, q757, hf⟩ := obind hf
  obtain ⟨r754, g755, hf⟩ := obind hf
  refine fr_callV hx hb hml hts hown K hC hR ct_8 (c_X8_pickWithout hfl D cA g755) 4 q757 kw1359 kw1356 kw1357 kw1358 kw62 (by decide +kernel) ⟨by omega, by omega⟩ rfl hl.1 (cat8 _ (by exact Nat.le_of_ble_eq_true rfl)) dL_law_2640 rfl (fun H locs _ _ hC => ?_)
  refine lv_istore (lv' := [(7, .int r754.1), (6, .int v747), (0, .ref b), (1, va_rf a1), (2, va_rf a2), (3, va_rf a3), (4, va_rf a4), (5, .int a5)]) hx hb dL_law_2643 hl (by decide) (congrArg (List.cons _) (flk rfl (flk rfl (flk rfl (flk rfl (flk rfl (flk rfl (flk rfl fln)))))))) (fun ls hl => ?_)
  refine fr_aload_n hx hb dL_law_2645 rfl (lv_at hl 4 rfl) ?_
  obtain ⟨b760, q761, hf⟩ := obind hf
  obtain ⟨r758, g759, hf⟩ := obind hf
  refine fr_callV hx hb hml hts hown K hC hR ct_8 (c_X8_thrown hfl D cA g759) 0 q761 kw1055 kw1052 kw1053 kw1054 kw62 (by decide +kernel) ⟨by omega, by omega⟩ rfl hl.1 (cat8 _ (by exact Nat.le_of_ble_eq_true rfl)) dL_law_2646 rfl (fun H locs _ _ hC => ?_)
  refine lv_iload hx hb dL_law_2649 (lv_at hl 1 rfl) ?_
  refine lv_icmp_eq (tgt := 2656) hx hb dL_law_2651 (by decide) (fun c762 => ?_) (fun c762 => ?_)
  · replace hf := opos c762 hf
    refine lv_iload hx hb dL_law_2656 (lv_at hl 1 rfl) ?_
    refine lv_if_ne (tgt := 2673) hx hb dL_law_2658 (by decide) (fun c763 => ?_) (fun c763 => ?_)
    · replace hf := oneg c763 hf
      exact w_L_law_L2673 M hfl hRf hRl X hend hk28 _ _ _ _ _ _ hf _ _ _ _ _ hC (lv_sub hl [2, 3, 4, 5, 6, 7] rfl)
    · replace hf := opos c763 hf
      refine fr_aload_n hx hb dL_law_2661 rfl (lv_at hl 5 rfl) ?_
      refine lv_iconst (v := (0 : Int32)) hx hb dL_law_2662 (by decide) ?_
      obtain ⟨x764, g765, hf⟩ := obind hf
      refine fr_lald hx hb K hC (t := 1) rfl g765 dL_law_2663 ?_
      refine lv_iload hx hb dL_law_2664 (lv_at hl 0 rfl) ?_
      refine lv_i2l (v := (Int32.toInt64 r754.1)) hx hb dL_law_2666 rfl ?_
      refine fr_lcmp_eq (tgt := 2673) hx hb dL_law_2667 dL_law_2668 (by decide) (fun c766 => ?_) (fun c766 => ?_)
      · replace hf := opos c766 hf
        exact w_L_law_L2673 M hfl hRf hRl X hend hk28 _ _ _ _ _ _ hf _ _ _ _ _ hC (lv_sub hl [2, 3, 4, 5, 6, 7] rfl)
      · replace hf := oneg c766 hf
        refine lv_iconst (v := (0 : Int32)) hx hb dL_law_2671 (by decide) ?_
        exact hend _ _ _ _ _ _ _ _ (Option.some.inj hf) hC dL_law_2672
  · replace hf := oneg c762 hf
    refine lv_iconst (v := (0 : Int32)) hx hb dL_law_2654 (by decide) ?_
    exact hend _ _ _ _ _ _ _ _ (Option.some.inj hf) hC dL_law_2655
set_option maxHeartbeats 4000000 in
set_option maxRecDepth 100000 in
theorem w_L_law_L2765 {p : Program} {l : Launch} {e : Env} {s : State} {m : MethodId} {args : Array Value} {below : List Frame} {meth : Method} {c : Code} {D : va_G} {cA : Nat → ClassId} {h0 : fSt} {r : (Int32 × fSt)} {Q : State → Prop} {R : Room} {b L : Nat} {xs : Nat → Int32} (M : fM p s m args meth c D cA h0 R cL_law 9 (some (.boolean)) RL) (hfl : l.stackTraces = false) (hRf : 35 ≤ R.frames) (hRl : 944 ≤ R.locals) (X : va_X b L xs s s.heap ∧ b < s.heap.size ∧ ¬ fA h0 b) (hend : ∀ (x : Int32) (h : fSt) (H : Heap) (locs : List Loc) (cells slots : Nat) (ls : Array Slot) (pc : Nat), (x, h) = r → fCur D cA s h0 h H locs → decode code pc = .ok (.ireturn, 1) → W p l e R s m args below meth c H locs cells slots Q (F0 m pc ls [.int x])) {k28 : Option Nat → Option Nat → Option Nat → Option Nat → Int32 → fSt → Option (Int32 × fSt)} (hk28 : ∀ (a1 : Option Nat) (a2 : Option Nat) (a3 : Option Nat) (a4 : Option Nat) (a5 : Int32) (h : fSt), k28 a1 a2 a3 a4 a5 h = some r → ∀ (H : Heap) (locs : List Loc) (cells slots : Nat) (ls : Array Slot), fCur D cA s h0 h H locs → lv_has ls 9 [(0, .ref b), (1, va_rf a1), (2, va_rf a2), (3, va_rf a3), (4, va_rf a4), (5, .int a5)] → W p l e R s m args below meth c H locs cells slots Q (F0 m 28 ls [])) (a1 : Option Nat) (a2 : Option Nat) (a3 : Option Nat) (a4 : Option Nat) (a5 : Int32) (h : fSt) (hf : f_L_law_L2765 L xs k28 a1 a2 a3 a4 a5 h = some r) : ∀ (H : Heap) (locs : List Loc) (cells slots : Nat) (ls : Array Slot), fCur D cA s h0 h H locs → lv_has ls 9 [(0, .ref b), (1, va_rf a1), (2, va_rf a2), (3, va_rf a3), (4, va_rf a4), (5, .int a5)] → W p l e R s m args below meth c H locs cells slots Q (F0 m 2765 ls []) := by
  obtain ⟨hx, hb, hml, hr, hlocks, hts, hown, K, hR⟩ := id M
  intro H locs cells slots ls hC hl
  refine lv_goto (tgt := 2859) hx hb dL_law_2765 (by decide) ?_
  exact w_L_law_L2859 M hfl hRf hRl X hend hk28 _ _ _ _ _ _ hf _ _ _ _ _ hC (lv_sub hl [0, 1, 2, 3, 4, 5] rfl)
set_option maxHeartbeats 4000000 in
set_option maxRecDepth 100000 in
theorem w_L_law_L2676 {p : Program} {l : Launch} {e : Env} {s : State} {m : MethodId} {args : Array Value} {below : List Frame} {meth : Method} {c : Code} {D : va_G} {cA : Nat → ClassId} {h0 : fSt} {r : (Int32 × fSt)} {Q : State → Prop} {R : Room} {b L : Nat} {xs : Nat → Int32} (M : fM p s m args meth c D cA h0 R cL_law 9 (some (.boolean)) RL) (hfl : l.stackTraces = false) (hRf : 35 ≤ R.frames) (hRl : 944 ≤ R.locals) (X : va_X b L xs s s.heap ∧ b < s.heap.size ∧ ¬ fA h0 b) (hend : ∀ (x : Int32) (h : fSt) (H : Heap) (locs : List Loc) (cells slots : Nat) (ls : Array Slot) (pc : Nat), (x, h) = r → fCur D cA s h0 h H locs → decode code pc = .ok (.ireturn, 1) → W p l e R s m args below meth c H locs cells slots Q (F0 m pc ls [.int x])) {k28 : Option Nat → Option Nat → Option Nat → Option Nat → Int32 → fSt → Option (Int32 × fSt)} (hk28 : ∀ (a1 : Option Nat) (a2 : Option Nat) (a3 : Option Nat) (a4 : Option Nat) (a5 : Int32) (h : fSt), k28 a1 a2 a3 a4 a5 h = some r → ∀ (H : Heap) (locs : List Loc) (cells slots : Nat) (ls : Array Slot), fCur D cA s h0 h H locs → lv_has ls 9 [(0, .ref b), (1, va_rf a1), (2, va_rf a2), (3, va_rf a3), (4, va_rf a4), (5, .int a5)] → W p l e R s m args below meth c H locs cells slots Q (F0 m 28 ls [])) (a1 : Option Nat) (a2 : Option Nat) (a3 : Option Nat) (a4 : Option Nat) (a5 : Int32) (h : fSt) (hf : f_L_law_L2676 L xs k28 a1 a2 a3 a4 a5 h = some r) : ∀ (H : Heap) (locs : List Loc) (cells slots : Nat) (ls : Array Slot), fCur D cA s h0 h H locs → lv_has ls 9 [(0, .ref b), (1, va_rf a1), (2, va_rf a2), (3, va_rf a3), (4, va_rf a4), (5, .int a5)] → W p l e R s m args below meth c H locs cells slots Q (F0 m 2676 ls []) := by
  obtain ⟨hx, hb, hml, hr, hlocks, hts, hown, K, hR⟩ := id M
  intro H locs cells slots ls hC hl
  refine fr_aload_n hx hb dL_law_2676 rfl (lv_at hl 1 rfl) ?_
  refine lv_aload_n hx hb dL_law_2677 rfl (lv_at hl 0 rfl) ?_
  refine lv_iload hx hb dL_law_2678 (lv_at hl 5 rfl) ?_
  refine lv_iconst (v := (1 : Int32)) hx hb dL_law_2680 (by decide) ?_
  refine lv_iadd hx hb dL_law_2681 ?_
  by_cases c767 : (a5 + (1 : Int32)) < 0 ∨ L ≤ ((a5 + (1 : Int32))).toNatClampNeg
  · exact nomatch (opos c767 hf)
  replace hf := oneg c767 hf
  refine va_sld hx hb X.1 X.2.1 X.2.2 hC.2.2.2.2.2.1 c767 dL_law_2682 ?_
  refine lv_aload_n hx hb dL_law_2683 rfl (lv_at hl 0 rfl) ?_
  refine lv_iload hx hb dL_law_2684 (lv_at hl 5 rfl) ?_
  refine lv_iconst (v := (2 : Int32)) hx hb dL_law_2686 (by decide) ?_
  refine lv_iadd hx hb dL_law_2687 ?_
  by_cases c768 : (a5 + (2 : Int32)) < 0 ∨ L ≤ ((a5 + (2 : Int32))).toNatClampNeg
  · exact nomatch (opos c768 hf)
  replace hf := oneg c768 hf
  refine va_sld hx hb X.1 X.2.1 X.2.2 hC.2.2.2.2.2.1 c768 dL_law_2688 ?_
  refine lv_aload_n hx hb dL_law_2689 rfl (lv_at hl 0 rfl) ?_
  refine lv_iload hx hb dL_law_2690 (lv_at hl 5 rfl) ?_
  refine lv_iconst (v := (3 : Int32)) hx hb dL_law_2692 (by decide) ?_
  refine lv_iadd hx hb dL_law_2693 ?_
  by_cases c769 : (a5 + (3 : Int32)) < 0 ∨ L ≤ ((a5 + (3 : Int32))).toNatClampNeg
  · exact nomatch (opos c769 hf)
  replace hf := oneg c769 hf
  refine va_sld hx hb X.1 X.2.1 X.2.2 hC.2.2.2.2.2.1 c769 dL_law_2694 ?_
  refine lv_aload_n hx hb dL_law_2695 rfl (lv_at hl 0 rfl) ?_
  refine lv_iload hx hb dL_law_2696 (lv_at hl 5 rfl) ?_
  refine lv_iconst (v := (4 : Int32)) hx hb dL_law_2698 (by decide) ?_
  refine lv_iadd hx hb dL_law_2699 ?_
  by_cases c770 : (a5 + (4 : Int32)) < 0 ∨ L ≤ ((a5 + (4 : Int32))).toNatClampNeg
  · exact nomatch (opos c770 hf)
  replace hf := oneg c770 hf
  refine va_sld hx hb X.1 X.2.1 X.2.2 hC.2.2.2.2.2.1 c770 dL_law_2700 ?_
  refine fr_aload_n hx hb dL_law_2701 rfl (lv_at hl 3 rfl) ?_
  obtain ⟨⟨v773 | k774, h775⟩, g772, hf⟩ := obind hf
  rotate_left
  · exact nomatch (show (none : Option (Int32 × fSt)) = some _ from hf)
  replace hf := fci hf
  refine fr_callSH hx hb hml hts hown K hC hR (c_L_nextPick hfl D cA g772) 6 kw944 kw942 kw943 kw54 (by decide +kernel) ⟨by omega, by omega⟩ rfl hl.1 (cat8 _ (by exact Nat.le_of_ble_eq_true rfl)) dL_law_2702 rfl (fun H locs _ _ hC => ?_)
  refine lv_istore (lv' := [(6, .int v773), (0, .ref b), (1, va_rf a1), (2, va_rf a2), (3, va_rf a3), (4, va_rf a4), (5, .int a5)]) hx hb dL_law_2705 hl (by decide) (congrArg (List.cons _) (flk rfl (flk rfl (flk rfl (flk rfl (flk rfl (flk rfl fln))))))) (fun ls hl => ?_)
  refine fr_aload_n hx hb dL_law_2707 rfl (lv_at hl 3 rfl) ?_
  refine lv_aload_n hx hb dL_law_2708 rfl (lv_at hl 1 rfl) ?_
  refine lv_iload hx hb dL_law_2709 (lv_at hl 6 rfl) ?_
  refine lv_iconst (v := (1 : Int32)) hx hb dL_law_2711 (by decide) ?_
  refine lv_iadd hx hb dL_law_2712 ?_
  by_cases c776 : (a5 + (1 : Int32)) < 0 ∨ L ≤ ((a5 + (1 : Int32))).toNatClampNeg
  · exact nomatch (opos c776 hf)
  replace hf := oneg c776 hf
  refine va_sld hx hb X.1 X.2.1 X.2.2 hC.2.2.2.2.2.1 c776 dL_law_2713 ?_
  refine lv_aload_n hx hb dL_law_2714 rfl (lv_at hl 1 rfl) ?_
  refine lv_iload hx hb dL_law_2715 (lv_at hl 6 rfl) ?_
  refine lv_iconst (v := (2 : Int32)) hx hb dL_law_2717 (by decide) ?_
  refine lv_iadd hx hb dL_law_2718 ?_
  by_cases c777 : (a5 + (2 : Int32)) < 0 ∨ L ≤ ((a5 + (2 : Int32))).toNatClampNeg
  · exact nomatch (opos c777 hf)
  replace hf := oneg c777 hf
  refine va_sld hx hb X.1 X.2.1 X.2.2 hC.2.2.2.2.2.1 c777 dL_law_2719 ?_
  refine lv_aload_n hx hb dL_law_2720 rfl (lv_at hl 1 rfl) ?_
  refine lv_iload hx hb dL_law_2721 (lv_at hl 6 rfl) ?_
  refine lv_iconst (v := (3 : Int32)) hx hb dL_law_2723 (by decide) ?_
  refine lv_iadd hx hb dL_law_2724 ?_
  by_cases c778 : (a5 + (3 : Int32)) < 0 ∨ L ≤ ((a5 + (3 : Int32))).toNatClampNeg
  · exact nomatch (opos c778 hf)
  replace hf := oneg c778 hf
  refine va_sld hx hb X.1 X.2.1 X.2.2 hC.2.2.2.2.2.1 c778 dL_law_2725 ?_
  refine lv_aload_n hx hb dL_law_2726 rfl (lv_at hl 1 rfl) ?_
  refine lv_iload hx hb dL_law_2727 (lv_at hl 6 rfl) ?_
  refine lv_iconst (v := (4 : Int32)) hx hb dL_law_2729 (by decide) ?_
  refine lv_iadd hx hb dL_law_2730 ?_
  by_cases c779 : (a5 + (4 : Int32)) < 0 ∨ L ≤ ((a5 + (4 : Int32))).toNatClampNeg
  · exact nomatch (opos c779 hf)
  replace hf := oneg c779 hf
  refine va_sld hx hb X.1 X.2.1 X.2.2 hC.2.2.2.2.2.1 c779 dL_law_2731 ?_
  obtain ⟨b782, q783, hf⟩ := obind hf
  obtain ⟨r780, g781, hf⟩ := obind hf
  refine fr_callV hx hb hml hts hown K hC hR ct_8 (c_X8_nextPick hfl D cA g781) 4 q783 kw1363 kw1360 kw1361 kw1362 kw62 (by decide +kernel) ⟨by omega, by omega⟩ rfl hl.1 (cat8 _ (by exact Nat.le_of_ble_eq_true rfl)) dL_law_2732 rfl (fun H locs _ _ hC => ?_)
  refine lv_istore (lv' := [(7, .int r780.1), (6, .int v773), (0, .ref b), (1, va_rf a1), (2, va_rf a2), (3, va_rf a3), (4, va_rf a4), (5, .int a5)]) hx hb dL_law_2735 hl (by decide) (congrArg (List.cons _) (flk rfl (flk rfl (flk rfl (flk rfl (flk rfl (flk rfl (flk rfl fln)))))))) (fun ls hl => ?_)
  refine fr_aload_n hx hb dL_law_2737 rfl (lv_at hl 4 rfl) ?_
  obtain ⟨b786, q787, hf⟩ := obind hf
  obtain ⟨r784, g785, hf⟩ := obind hf
  refine fr_callV hx hb hml hts hown K hC hR ct_8 (c_X8_thrown hfl D cA g785) 0 q787 kw1055 kw1052 kw1053 kw1054 kw62 (by decide +kernel) ⟨by omega, by omega⟩ rfl hl.1 (cat8 _ (by exact Nat.le_of_ble_eq_true rfl)) dL_law_2738 rfl (fun H locs _ _ hC => ?_)
  refine lv_iload hx hb dL_law_2741 (lv_at hl 1 rfl) ?_
  refine lv_icmp_eq (tgt := 2748) hx hb dL_law_2743 (by decide) (fun c788 => ?_) (fun c788 => ?_)
  · replace hf := opos c788 hf
    refine lv_iload hx hb dL_law_2748 (lv_at hl 1 rfl) ?_
    refine lv_if_ne (tgt := 2765) hx hb dL_law_2750 (by decide) (fun c789 => ?_) (fun c789 => ?_)
    · replace hf := oneg c789 hf
      exact w_L_law_L2765 M hfl hRf hRl X hend hk28 _ _ _ _ _ _ hf _ _ _ _ _ hC (lv_sub hl [2, 3, 4, 5, 6, 7] rfl)
    · replace hf := opos c789 hf
      refine fr_aload_n hx hb dL_law_2753 rfl (lv_at hl 5 rfl) ?_
      refine lv_iconst (v := (0 : Int32)) hx hb dL_law_2754 (by decide) ?_
      obtain ⟨x790, g791, hf⟩ := obind hf
      refine fr_lald hx hb K hC (t := 1) rfl g791 dL_law_2755 ?_
      refine lv_iload hx hb dL_law_2756 (lv_at hl 0 rfl) ?_
      refine lv_i2l (v := (Int32.toInt64 r780.1)) hx hb dL_law_2758 rfl ?_
      refine fr_lcmp_eq (tgt := 2765) hx hb dL_law_2759 dL_law_2760 (by decide) (fun c792 => ?_) (fun c792 => ?_)
      · replace hf := opos c792 hf
        exact w_L_law_L2765 M hfl hRf hRl X hend hk28 _ _ _ _ _ _ hf _ _ _ _ _ hC (lv_sub hl [2, 3, 4, 5, 6, 7] rfl)
      · replace hf := oneg c792 hf
        refine lv_iconst (v := (0 : Int32)) hx hb dL_law_2763 (by decide) ?_
        exact hend _ _ _ _ _ _ _ _ (Option.some.inj hf) hC dL_law_2764
  · replace hf := oneg c788 hf
    refine lv_iconst (v := (0 : Int32)) hx hb dL_law_2746 (by decide) ?_
    exact hend _ _ _ _ _ _ _ _ (Option.some.inj hf) hC dL_law_2747
set_option maxHeartbeats 4000000 in
set_option maxRecDepth 100000 in
theorem w_L_law_L2840 {p : Program} {l : Launch} {e : Env} {s : State} {m : MethodId} {args : Array Value} {below : List Frame} {meth : Method} {c : Code} {D : va_G} {cA : Nat → ClassId} {h0 : fSt} {r : (Int32 × fSt)} {Q : State → Prop} {R : Room} {b L : Nat} {xs : Nat → Int32} (M : fM p s m args meth c D cA h0 R cL_law 9 (some (.boolean)) RL) (hfl : l.stackTraces = false) (hRf : 35 ≤ R.frames) (hRl : 944 ≤ R.locals) (X : va_X b L xs s s.heap ∧ b < s.heap.size ∧ ¬ fA h0 b) (hend : ∀ (x : Int32) (h : fSt) (H : Heap) (locs : List Loc) (cells slots : Nat) (ls : Array Slot) (pc : Nat), (x, h) = r → fCur D cA s h0 h H locs → decode code pc = .ok (.ireturn, 1) → W p l e R s m args below meth c H locs cells slots Q (F0 m pc ls [.int x]))  (h : fSt) (hf : f_L_law_L2840 L xs  h = some r) : ∀ (H : Heap) (locs : List Loc) (cells slots : Nat) (ls : Array Slot), fCur D cA s h0 h H locs → lv_has ls 9 [] → W p l e R s m args below meth c H locs cells slots Q (F0 m 2840 ls []) := by
  obtain ⟨hx, hb, hml, hr, hlocks, hts, hown, K, hR⟩ := id M
  intro H locs cells slots ls hC hl
  refine lv_iconst (v := (0 : Int32)) hx hb dL_law_2840 (by decide) ?_
  exact hend _ _ _ _ _ _ _ _ (Option.some.inj hf) hC dL_law_2841
set_option maxHeartbeats 4000000 in
set_option maxRecDepth 100000 in
theorem w_L_law_L2842 {p : Program} {l : Launch} {e : Env} {s : State} {m : MethodId} {args : Array Value} {below : List Frame} {meth : Method} {c : Code} {D : va_G} {cA : Nat → ClassId} {h0 : fSt} {r : (Int32 × fSt)} {Q : State → Prop} {R : Room} {b L : Nat} {xs : Nat → Int32} (M : fM p s m args meth c D cA h0 R cL_law 9 (some (.boolean)) RL) (hfl : l.stackTraces = false) (hRf : 35 ≤ R.frames) (hRl : 944 ≤ R.locals) (X : va_X b L xs s s.heap ∧ b < s.heap.size ∧ ¬ fA h0 b) (hend : ∀ (x : Int32) (h : fSt) (H : Heap) (locs : List Loc) (cells slots : Nat) (ls : Array Slot) (pc : Nat), (x, h) = r → fCur D cA s h0 h H locs → decode code pc = .ok (.ireturn, 1) → W p l e R s m args below meth c H locs cells slots Q (F0 m pc ls [.int x])) {k28 : Option Nat → Option Nat → Option Nat → Option Nat → Int32 → fSt → Option (Int32 × fSt)} (hk28 : ∀ (a1 : Option Nat) (a2 : Option Nat) (a3 : Option Nat) (a4 : Option Nat) (a5 : Int32) (h : fSt), k28 a1 a2 a3 a4 a5 h = some r → ∀ (H : Heap) (locs : List Loc) (cells slots : Nat) (ls : Array Slot), fCur D cA s h0 h H locs → lv_has ls 9 [(0, .ref b), (1, va_rf a1), (2, va_rf a2), (3, va_rf a3), (4, va_rf a4), (5, .int a5)] → W p l e R s m args below meth c H locs cells slots Q (F0 m 28 ls [])) (a1 : Option Nat) (a2 : Option Nat) (a3 : Option Nat) (a4 : Option Nat) (a5 : Int32) (h : fSt) (hf : f_L_law_L2842 L xs k28 a1 a2 a3 a4 a5 h = some r) : ∀ (H : Heap) (locs : List Loc) (cells slots : Nat) (ls : Array Slot), fCur D cA s h0 h H locs → lv_has ls 9 [(0, .ref b), (1, va_rf a1), (2, va_rf a2), (3, va_rf a3), (4, va_rf a4), (5, .int a5)] → W p l e R s m args below meth c H locs cells slots Q (F0 m 2842 ls []) := by
  obtain ⟨hx, hb, hml, hr, hlocks, hts, hown, K, hR⟩ := id M
  intro H locs cells slots ls hC hl
  refine lv_goto (tgt := 2859) hx hb dL_law_2842 (by decide) ?_
  exact w_L_law_L2859 M hfl hRf hRl X hend hk28 _ _ _ _ _ _ hf _ _ _ _ _ hC (lv_sub hl [0, 1, 2, 3, 4, 5] rfl)
set_option maxHeartbeats 4000000 in
set_option maxRecDepth 100000 in
theorem w_L_law_L2768 {p : Program} {l : Launch} {e : Env} {s : State} {m : MethodId} {args : Array Value} {below : List Frame} {meth : Method} {c : Code} {D : va_G} {cA : Nat → ClassId} {h0 : fSt} {r : (Int32 × fSt)} {Q : State → Prop} {R : Room} {b L : Nat} {xs : Nat → Int32} (M : fM p s m args meth c D cA h0 R cL_law 9 (some (.boolean)) RL) (hfl : l.stackTraces = false) (hRf : 35 ≤ R.frames) (hRl : 944 ≤ R.locals) (X : va_X b L xs s s.heap ∧ b < s.heap.size ∧ ¬ fA h0 b) (hend : ∀ (x : Int32) (h : fSt) (H : Heap) (locs : List Loc) (cells slots : Nat) (ls : Array Slot) (pc : Nat), (x, h) = r → fCur D cA s h0 h H locs → decode code pc = .ok (.ireturn, 1) → W p l e R s m args below meth c H locs cells slots Q (F0 m pc ls [.int x])) {k28 : Option Nat → Option Nat → Option Nat → Option Nat → Int32 → fSt → Option (Int32 × fSt)} (hk28 : ∀ (a1 : Option Nat) (a2 : Option Nat) (a3 : Option Nat) (a4 : Option Nat) (a5 : Int32) (h : fSt), k28 a1 a2 a3 a4 a5 h = some r → ∀ (H : Heap) (locs : List Loc) (cells slots : Nat) (ls : Array Slot), fCur D cA s h0 h H locs → lv_has ls 9 [(0, .ref b), (1, va_rf a1), (2, va_rf a2), (3, va_rf a3), (4, va_rf a4), (5, .int a5)] → W p l e R s m args below meth c H locs cells slots Q (F0 m 28 ls [])) (a1 : Option Nat) (a2 : Option Nat) (a3 : Option Nat) (a4 : Option Nat) (a5 : Int32) (h : fSt) (hf : f_L_law_L2768 L xs k28 a1 a2 a3 a4 a5 h = some r) : ∀ (H : Heap) (locs : List Loc) (cells slots : Nat) (ls : Array Slot), fCur D cA s h0 h H locs → lv_has ls 9 [(0, .ref b), (1, va_rf a1), (2, va_rf a2), (3, va_rf a3), (4, va_rf a4), (5, .int a5)] → W p l e R s m args below meth c H locs cells slots Q (F0 m 2768 ls []) := by
  obtain ⟨hx, hb, hml, hr, hlocks, hts, hown, K, hR⟩ := id M
  intro H locs cells slots ls hC hl
  refine fr_aload_n hx hb dL_law_2768 rfl (lv_at hl 1 rfl) ?_
  refine lv_aload_n hx hb dL_law_2769 rfl (lv_at hl 0 rfl) ?_
  refine lv_iload hx hb dL_law_2770 (lv_at hl 5 rfl) ?_
  refine lv_iconst (v := (1 : Int32)) hx hb dL_law_2772 (by decide) ?_
  refine lv_iadd hx hb dL_law_2773 ?_
  by_cases c793 : (a5 + (1 : Int32)) < 0 ∨ L ≤ ((a5 + (1 : Int32))).toNatClampNeg
  · exact nomatch (opos c793 hf)
  replace hf := oneg c793 hf
  refine va_sld hx hb X.1 X.2.1 X.2.2 hC.2.2.2.2.2.1 c793 dL_law_2774 ?_
  refine fr_aload hx hb dL_law_2775 (lv_at hl 4 rfl) ?_
  obtain ⟨⟨v796 | k797, h798⟩, g795, hf⟩ := obind hf
  rotate_left
  · exact nomatch (show (none : Option (Int32 × fSt)) = some _ from hf)
  replace hf := fci hf
  refine fr_callSH hx hb hml hts hown K hC hR (c_L_size hfl D cA g795) 3 kw960 kw958 kw959 kw54 (by decide +kernel) ⟨by omega, by omega⟩ rfl hl.1 (cat8 _ (by exact Nat.le_of_ble_eq_true rfl)) dL_law_2777 rfl (fun H locs _ _ hC => ?_)
  refine lv_istore (lv' := [(6, .int v796), (0, .ref b), (1, va_rf a1), (2, va_rf a2), (3, va_rf a3), (4, va_rf a4), (5, .int a5)]) hx hb dL_law_2780 hl (by decide) (congrArg (List.cons _) (flk rfl (flk rfl (flk rfl (flk rfl (flk rfl (flk rfl fln))))))) (fun ls hl => ?_)
  refine fr_aload_n hx hb dL_law_2782 rfl (lv_at hl 3 rfl) ?_
  refine lv_aload_n hx hb dL_law_2783 rfl (lv_at hl 1 rfl) ?_
  refine lv_iload hx hb dL_law_2784 (lv_at hl 6 rfl) ?_
  refine lv_iconst (v := (1 : Int32)) hx hb dL_law_2786 (by decide) ?_
  refine lv_iadd hx hb dL_law_2787 ?_
  by_cases c799 : (a5 + (1 : Int32)) < 0 ∨ L ≤ ((a5 + (1 : Int32))).toNatClampNeg
  · exact nomatch (opos c799 hf)
  replace hf := oneg c799 hf
  refine va_sld hx hb X.1 X.2.1 X.2.2 hC.2.2.2.2.2.1 c799 dL_law_2788 ?_
  obtain ⟨b802, q803, hf⟩ := obind hf
  obtain ⟨r800, g801, hf⟩ := obind hf
  refine fr_callV hx hb hml hts hown K hC hR ct_8 (c_X8_size hfl D cA g801) 1 q803 kw1367 kw1364 kw1365 kw1366 kw62 (by decide +kernel) ⟨by omega, by omega⟩ rfl hl.1 (cat8 _ (by exact Nat.le_of_ble_eq_true rfl)) dL_law_2789 rfl (fun H locs _ _ hC => ?_)
  refine lv_dstore (lv' := [(7, .double r800.1), (6, .int v796), (0, .ref b), (1, va_rf a1), (2, va_rf a2), (3, va_rf a3), (4, va_rf a4), (5, .int a5)]) hx hb dL_law_2792 hl (by decide) (congrArg (List.cons _) (flk rfl (flk rfl (flk rfl (flk rfl (flk rfl (flk rfl (flk rfl fln)))))))) (fun ls hl => ?_)
  refine fr_aload_n hx hb dL_law_2794 rfl (lv_at hl 4 rfl) ?_
  obtain ⟨b806, q807, hf⟩ := obind hf
  obtain ⟨r804, g805, hf⟩ := obind hf
  refine fr_callV hx hb hml hts hown K hC hR ct_8 (c_X8_thrown hfl D cA g805) 0 q807 kw1055 kw1052 kw1053 kw1054 kw62 (by decide +kernel) ⟨by omega, by omega⟩ rfl hl.1 (cat8 _ (by exact Nat.le_of_ble_eq_true rfl)) dL_law_2795 rfl (fun H locs _ _ hC => ?_)
  refine lv_iload hx hb dL_law_2798 (lv_at hl 1 rfl) ?_
  refine lv_icmp_eq (tgt := 2805) hx hb dL_law_2800 (by decide) (fun c808 => ?_) (fun c808 => ?_)
  · replace hf := opos c808 hf
    refine lv_iload hx hb dL_law_2805 (lv_at hl 1 rfl) ?_
    refine lv_if_ne (tgt := 2842) hx hb dL_law_2807 (by decide) (fun c809 => ?_) (fun c809 => ?_)
    · replace hf := oneg c809 hf
      exact w_L_law_L2842 M hfl hRf hRl X hend hk28 _ _ _ _ _ _ hf _ _ _ _ _ hC (lv_sub hl [2, 3, 4, 5, 6, 7] rfl)
    · replace hf := opos c809 hf
      refine fr_aload hx hb dL_law_2810 (lv_at hl 6 rfl) ?_
      refine lv_iconst (v := (0 : Int32)) hx hb dL_law_2812 (by decide) ?_
      obtain ⟨x810, g811, hf⟩ := obind hf
      refine fr_dald hx hb K hC (t := 3) rfl g811 dL_law_2813 ?_
      refine lv_dload hx hb dL_law_2814 (lv_at hl 0 rfl) ?_
      refine lv_dcmp hx hb dL_law_2816 ?_
      refine lv_if_eq (tgt := 2842) hx hb dL_law_2817 (by decide) (fun c812 => ?_) (fun c812 => ?_)
      · replace hf := opos c812 hf
        exact w_L_law_L2842 M hfl hRf hRl X hend hk28 _ _ _ _ _ _ hf _ _ _ _ _ hC (lv_sub hl [2, 3, 4, 5, 6, 7] rfl)
      · replace hf := oneg c812 hf
        refine fr_aload hx hb dL_law_2820 (lv_at hl 6 rfl) ?_
        refine lv_iconst (v := (0 : Int32)) hx hb dL_law_2822 (by decide) ?_
        obtain ⟨x813, g814, hf⟩ := obind hf
        refine fr_dald hx hb K hC (t := 3) rfl g814 dL_law_2823 ?_
        refine fr_aload hx hb dL_law_2824 (lv_at hl 6 rfl) ?_
        refine lv_iconst (v := (0 : Int32)) hx hb dL_law_2826 (by decide) ?_
        obtain ⟨x815, g816, hf⟩ := obind hf
        refine fr_dald hx hb K hC (t := 3) rfl g816 dL_law_2827 ?_
        refine lv_dcmp hx hb dL_law_2828 ?_
        refine lv_if_eq (tgt := 2840) hx hb dL_law_2829 (by decide) (fun c817 => ?_) (fun c817 => ?_)
        · replace hf := opos c817 hf
          exact w_L_law_L2840 M hfl hRf hRl X hend _ hf _ _ _ _ _ hC (lv_sub hl [] rfl)
        · replace hf := oneg c817 hf
          refine lv_dload hx hb dL_law_2832 (lv_at hl 0 rfl) ?_
          refine lv_dload hx hb dL_law_2834 (lv_at hl 0 rfl) ?_
          refine lv_dcmp hx hb dL_law_2836 ?_
          refine lv_if_ne (tgt := 2842) hx hb dL_law_2837 (by decide) (fun c818 => ?_) (fun c818 => ?_)
          · replace hf := oneg c818 hf
            exact w_L_law_L2842 M hfl hRf hRl X hend hk28 _ _ _ _ _ _ hf _ _ _ _ _ hC (lv_sub hl [2, 3, 4, 5, 6, 7] rfl)
          · replace hf := opos c818 hf
            exact w_L_law_L2840 M hfl hRf hRl X hend _ hf _ _ _ _ _ hC (lv_sub hl [] rfl)
  · replace hf := oneg c808 hf
    refine lv_iconst (v := (0 : Int32)) hx hb dL_law_2803 (by decide) ?_
    exact hend _ _ _ _ _ _ _ _ (Option.some.inj hf) hC dL_law_2804
set_option maxHeartbeats 4000000 in
set_option maxRecDepth 100000 in
theorem w_L_law_L2845 {p : Program} {l : Launch} {e : Env} {s : State} {m : MethodId} {args : Array Value} {below : List Frame} {meth : Method} {c : Code} {D : va_G} {cA : Nat → ClassId} {h0 : fSt} {r : (Int32 × fSt)} {Q : State → Prop} {R : Room} {b L : Nat} {xs : Nat → Int32} (M : fM p s m args meth c D cA h0 R cL_law 9 (some (.boolean)) RL) (hfl : l.stackTraces = false) (hRf : 35 ≤ R.frames) (hRl : 944 ≤ R.locals) (X : va_X b L xs s s.heap ∧ b < s.heap.size ∧ ¬ fA h0 b) (hend : ∀ (x : Int32) (h : fSt) (H : Heap) (locs : List Loc) (cells slots : Nat) (ls : Array Slot) (pc : Nat), (x, h) = r → fCur D cA s h0 h H locs → decode code pc = .ok (.ireturn, 1) → W p l e R s m args below meth c H locs cells slots Q (F0 m pc ls [.int x])) {k28 : Option Nat → Option Nat → Option Nat → Option Nat → Int32 → fSt → Option (Int32 × fSt)} (hk28 : ∀ (a1 : Option Nat) (a2 : Option Nat) (a3 : Option Nat) (a4 : Option Nat) (a5 : Int32) (h : fSt), k28 a1 a2 a3 a4 a5 h = some r → ∀ (H : Heap) (locs : List Loc) (cells slots : Nat) (ls : Array Slot), fCur D cA s h0 h H locs → lv_has ls 9 [(0, .ref b), (1, va_rf a1), (2, va_rf a2), (3, va_rf a3), (4, va_rf a4), (5, .int a5)] → W p l e R s m args below meth c H locs cells slots Q (F0 m 28 ls [])) (a1 : Option Nat) (a2 : Option Nat) (a3 : Option Nat) (a4 : Option Nat) (a5 : Int32) (h : fSt) (hf : f_L_law_L2845 L xs k28 a1 a2 a3 a4 a5 h = some r) : ∀ (H : Heap) (locs : List Loc) (cells slots : Nat) (ls : Array Slot), fCur D cA s h0 h H locs → lv_has ls 9 [(0, .ref b), (1, va_rf a1), (2, va_rf a2), (3, va_rf a3), (4, va_rf a4), (5, .int a5)] → W p l e R s m args below meth c H locs cells slots Q (F0 m 2845 ls []) := by
  obtain ⟨hx, hb, hml, hr, hlocks, hts, hown, K, hR⟩ := id M
  intro H locs cells slots ls hC hl
  refine fr_aload_n hx hb dL_law_2845 rfl (lv_at hl 1 rfl) ?_
  obtain ⟨b821, q822, hf⟩ := obind hf
  obtain ⟨r819, g820, hf⟩ := obind hf
  refine fr_callV hx hb hml hts hown K hC hR ct_7 (c_X7_digest hfl D cA g820) 0 q822 kw344 kw341 kw342 kw343 kw55 (by decide +kernel) ⟨by omega, by omega⟩ rfl hl.1 (cat8 _ (by exact Nat.le_of_ble_eq_true rfl)) dL_law_2846 rfl (fun H locs _ _ hC => ?_)
  refine fr_aload_n hx hb dL_law_2849 rfl (lv_at hl 2 rfl) ?_
  obtain ⟨b825, q826, hf⟩ := obind hf
  obtain ⟨r823, g824, hf⟩ := obind hf
  refine fr_callV hx hb hml hts hown K hC hR ct_8 (c_X8_digest hfl D cA g824) 0 q826 kw1371 kw1368 kw1369 kw1370 kw62 (by decide +kernel) ⟨by omega, by omega⟩ rfl hl.1 (cat8 _ (by exact Nat.le_of_ble_eq_true rfl)) dL_law_2850 rfl (fun H locs _ _ hC => ?_)
  refine fr_lcmp_eq (tgt := 2859) hx hb dL_law_2853 dL_law_2854 (by decide) (fun c827 => ?_) (fun c827 => ?_)
  · replace hf := opos c827 hf
    exact w_L_law_L2859 M hfl hRf hRl X hend hk28 _ _ _ _ _ _ hf _ _ _ _ _ hC (lv_sub hl [0, 1, 2, 3, 4, 5] rfl)
  · replace hf := oneg c827 hf
    refine lv_iconst (v := (0 : Int32)) hx hb dL_law_2857 (by decide) ?_
    exact hend _ _ _ _ _ _ _ _ (Option.some.inj hf) hC dL_law_2858
set_option maxHeartbeats 4000000 in
set_option maxRecDepth 100000 in
theorem w_L_law_L28 {p : Program} {l : Launch} {e : Env} {s : State} {m : MethodId} {args : Array Value} {below : List Frame} {meth : Method} {c : Code} {D : va_G} {cA : Nat → ClassId} {h0 : fSt} {r : (Int32 × fSt)} {Q : State → Prop} {R : Room} {b L : Nat} {xs : Nat → Int32} (M : fM p s m args meth c D cA h0 R cL_law 9 (some (.boolean)) RL) (hfl : l.stackTraces = false) (hRf : 35 ≤ R.frames) (hRl : 944 ≤ R.locals) (X : va_X b L xs s s.heap ∧ b < s.heap.size ∧ ¬ fA h0 b) (hend : ∀ (x : Int32) (h : fSt) (H : Heap) (locs : List Loc) (cells slots : Nat) (ls : Array Slot) (pc : Nat), (x, h) = r → fCur D cA s h0 h H locs → decode code pc = .ok (.ireturn, 1) → W p l e R s m args below meth c H locs cells slots Q (F0 m pc ls [.int x])) : ∀ (n : Nat) (a1 : Option Nat) (a2 : Option Nat) (a3 : Option Nat) (a4 : Option Nat) (a5 : Int32) (h : fSt), f_L_law_L28 L xs n a1 a2 a3 a4 a5 h = some r → ∀ (H : Heap) (locs : List Loc) (cells slots : Nat) (ls : Array Slot), fCur D cA s h0 h H locs → lv_has ls 9 [(0, .ref b), (1, va_rf a1), (2, va_rf a2), (3, va_rf a3), (4, va_rf a4), (5, .int a5)] → W p l e R s m args below meth c H locs cells slots Q (F0 m 28 ls []) := by
  obtain ⟨hx, hb, hml, hr, hlocks, hts, hown, K, hR⟩ := id M
  intro n
  induction n with
  | zero =>
    intro a1 a2 a3 a4 a5 h hf
    exact nomatch (show (none : Option (Int32 × fSt)) = some r from hf)
  | succ n hk28 =>
    intro a1 a2 a3 a4 a5 h hf H locs cells slots ls hC hl
    refine lv_iload hx hb dL_law_28 (lv_at hl 5 rfl) ?_
    refine lv_aload_n hx hb dL_law_30 rfl (lv_at hl 0 rfl) ?_
    refine va_slen hx hb X.1 X.2.1 X.2.2 hC.2.2.2.2.2.1 dL_law_31 ?_
    refine lv_bipush (v := (6 : Int32)) hx hb dL_law_32 (by decide) ?_
    refine lv_isub hx hb dL_law_34 ?_
    refine lv_icmp_gt (tgt := 2865) hx hb dL_law_35 (by decide) (fun c828 => ?_) (fun c828 => ?_)
    · replace hf := opos c828 hf
      refine lv_iconst (v := (1 : Int32)) hx hb dL_law_2865 (by decide) ?_
      exact hend _ _ _ _ _ _ _ _ (Option.some.inj hf) hC dL_law_2866
    · replace hf := oneg c828 hf
      refine lv_aload_n hx hb dL_law_38 rfl (lv_at hl 0 rfl) ?_
      refine lv_iload hx hb dL_law_39 (lv_at hl 5 rfl) ?_
      by_cases c829 : a5 < 0 ∨ L ≤ (a5).toNatClampNeg
      · exact nomatch (opos c829 hf)
      replace hf := oneg c829 hf
      refine va_sld hx hb X.1 X.2.1 X.2.2 hC.2.2.2.2.2.1 c829 dL_law_41 ?_
      refine lv_bipush (v := (63 : Int32)) hx hb dL_law_42 (by decide) ?_
      refine lv_iand hx hb dL_law_44 ?_
      by_cases c830 : ((xs (a5).toNatClampNeg) &&& (63 : Int32)) = (0 : Int32)
      · replace hf := opos c830 hf
        refine lv_tableIn (off := 167) (tgt := 212) hx hb dL_law_45 (by rw [c830]; decide) (by rw [c830]; decide) (by rw [c830]; rfl) (by decide) ?_
        exact w_L_law_L212 M hfl hRf hRl X hend hk28 _ _ _ _ _ _ hf _ _ _ _ _ hC (lv_sub hl [0, 1, 2, 3, 4, 5] rfl)
      replace hf := oneg c830 hf
      by_cases c831 : ((xs (a5).toNatClampNeg) &&& (63 : Int32)) = (1 : Int32)
      · replace hf := opos c831 hf
        refine lv_tableIn (off := 259) (tgt := 304) hx hb dL_law_45 (by rw [c831]; decide) (by rw [c831]; decide) (by rw [c831]; rfl) (by decide) ?_
        exact w_L_law_L304 M hfl hRf hRl X hend hk28 _ _ _ _ _ _ hf _ _ _ _ _ hC (lv_sub hl [0, 1, 2, 3, 4, 5] rfl)
      replace hf := oneg c831 hf
      by_cases c832 : ((xs (a5).toNatClampNeg) &&& (63 : Int32)) = (2 : Int32)
      · replace hf := opos c832 hf
        refine lv_tableIn (off := 315) (tgt := 360) hx hb dL_law_45 (by rw [c832]; decide) (by rw [c832]; decide) (by rw [c832]; rfl) (by decide) ?_
        exact w_L_law_L360 M hfl hRf hRl X hend hk28 _ _ _ _ _ _ hf _ _ _ _ _ hC (lv_sub hl [0, 1, 2, 3, 4, 5] rfl)
      replace hf := oneg c832 hf
      by_cases c833 : ((xs (a5).toNatClampNeg) &&& (63 : Int32)) = (3 : Int32)
      · replace hf := opos c833 hf
        refine lv_tableIn (off := 383) (tgt := 428) hx hb dL_law_45 (by rw [c833]; decide) (by rw [c833]; decide) (by rw [c833]; rfl) (by decide) ?_
        exact w_L_law_L428 M hfl hRf hRl X hend hk28 _ _ _ _ _ _ hf _ _ _ _ _ hC (lv_sub hl [0, 1, 2, 3, 4, 5] rfl)
      replace hf := oneg c833 hf
      by_cases c834 : ((xs (a5).toNatClampNeg) &&& (63 : Int32)) = (4 : Int32)
      · replace hf := opos c834 hf
        refine lv_tableIn (off := 463) (tgt := 508) hx hb dL_law_45 (by rw [c834]; decide) (by rw [c834]; decide) (by rw [c834]; rfl) (by decide) ?_
        exact w_L_law_L508 M hfl hRf hRl X hend hk28 _ _ _ _ _ _ hf _ _ _ _ _ hC (lv_sub hl [0, 1, 2, 3, 4, 5] rfl)
      replace hf := oneg c834 hf
      by_cases c835 : ((xs (a5).toNatClampNeg) &&& (63 : Int32)) = (5 : Int32)
      · replace hf := opos c835 hf
        refine lv_tableIn (off := 543) (tgt := 588) hx hb dL_law_45 (by rw [c835]; decide) (by rw [c835]; decide) (by rw [c835]; rfl) (by decide) ?_
        exact w_L_law_L588 M hfl hRf hRl X hend hk28 _ _ _ _ _ _ hf _ _ _ _ _ hC (lv_sub hl [0, 1, 2, 3, 4, 5] rfl)
      replace hf := oneg c835 hf
      by_cases c836 : ((xs (a5).toNatClampNeg) &&& (63 : Int32)) = (6 : Int32)
      · replace hf := opos c836 hf
        refine lv_tableIn (off := 639) (tgt := 684) hx hb dL_law_45 (by rw [c836]; decide) (by rw [c836]; decide) (by rw [c836]; rfl) (by decide) ?_
        exact w_L_law_L684 M hfl hRf hRl X hend hk28 _ _ _ _ _ _ hf _ _ _ _ _ hC (lv_sub hl [0, 1, 2, 3, 4, 5] rfl)
      replace hf := oneg c836 hf
      by_cases c837 : ((xs (a5).toNatClampNeg) &&& (63 : Int32)) = (7 : Int32)
      · replace hf := opos c837 hf
        refine lv_tableIn (off := 747) (tgt := 792) hx hb dL_law_45 (by rw [c837]; decide) (by rw [c837]; decide) (by rw [c837]; rfl) (by decide) ?_
        exact w_L_law_L792 M hfl hRf hRl X hend hk28 _ _ _ _ _ _ hf _ _ _ _ _ hC (lv_sub hl [0, 1, 2, 3, 4, 5] rfl)
      replace hf := oneg c837 hf
      by_cases c838 : ((xs (a5).toNatClampNeg) &&& (63 : Int32)) = (8 : Int32)
      · replace hf := opos c838 hf
        refine lv_tableIn (off := 858) (tgt := 903) hx hb dL_law_45 (by rw [c838]; decide) (by rw [c838]; decide) (by rw [c838]; rfl) (by decide) ?_
        exact w_L_law_L903 M hfl hRf hRl X hend hk28 _ _ _ _ _ _ hf _ _ _ _ _ hC (lv_sub hl [0, 1, 2, 3, 4, 5] rfl)
      replace hf := oneg c838 hf
      by_cases c839 : ((xs (a5).toNatClampNeg) &&& (63 : Int32)) = (9 : Int32)
      · replace hf := opos c839 hf
        refine lv_tableIn (off := 921) (tgt := 966) hx hb dL_law_45 (by rw [c839]; decide) (by rw [c839]; decide) (by rw [c839]; rfl) (by decide) ?_
        exact w_L_law_L966 M hfl hRf hRl X hend hk28 _ _ _ _ _ _ hf _ _ _ _ _ hC (lv_sub hl [0, 1, 2, 3, 4, 5] rfl)
      replace hf := oneg c839 hf
      by_cases c840 : ((xs (a5).toNatClampNeg) &&& (63 : Int32)) = (10 : Int32)
      · replace hf := opos c840 hf
        refine lv_tableIn (off := 934) (tgt := 979) hx hb dL_law_45 (by rw [c840]; decide) (by rw [c840]; decide) (by rw [c840]; rfl) (by decide) ?_
        exact w_L_law_L979 M hfl hRf hRl X hend hk28 _ _ _ _ _ _ hf _ _ _ _ _ hC (lv_sub hl [0, 1, 2, 3, 4, 5] rfl)
      replace hf := oneg c840 hf
      by_cases c841 : ((xs (a5).toNatClampNeg) &&& (63 : Int32)) = (11 : Int32)
      · replace hf := opos c841 hf
        refine lv_tableIn (off := 947) (tgt := 992) hx hb dL_law_45 (by rw [c841]; decide) (by rw [c841]; decide) (by rw [c841]; rfl) (by decide) ?_
        exact w_L_law_L992 M hfl hRf hRl X hend hk28 _ _ _ _ _ _ hf _ _ _ _ _ hC (lv_sub hl [0, 1, 2, 3, 4, 5] rfl)
      replace hf := oneg c841 hf
      by_cases c842 : ((xs (a5).toNatClampNeg) &&& (63 : Int32)) = (12 : Int32)
      · replace hf := opos c842 hf
        refine lv_tableIn (off := 1003) (tgt := 1048) hx hb dL_law_45 (by rw [c842]; decide) (by rw [c842]; decide) (by rw [c842]; rfl) (by decide) ?_
        exact w_L_law_L1048 M hfl hRf hRl X hend hk28 _ _ _ _ _ _ hf _ _ _ _ _ hC (lv_sub hl [0, 1, 2, 3, 4, 5] rfl)
      replace hf := oneg c842 hf
      by_cases c843 : ((xs (a5).toNatClampNeg) &&& (63 : Int32)) = (13 : Int32)
      · replace hf := opos c843 hf
        refine lv_tableIn (off := 1059) (tgt := 1104) hx hb dL_law_45 (by rw [c843]; decide) (by rw [c843]; decide) (by rw [c843]; rfl) (by decide) ?_
        exact w_L_law_L1104 M hfl hRf hRl X hend hk28 _ _ _ _ _ _ hf _ _ _ _ _ hC (lv_sub hl [0, 1, 2, 3, 4, 5] rfl)
      replace hf := oneg c843 hf
      by_cases c844 : ((xs (a5).toNatClampNeg) &&& (63 : Int32)) = (14 : Int32)
      · replace hf := opos c844 hf
        refine lv_tableIn (off := 1127) (tgt := 1172) hx hb dL_law_45 (by rw [c844]; decide) (by rw [c844]; decide) (by rw [c844]; rfl) (by decide) ?_
        exact w_L_law_L1172 M hfl hRf hRl X hend hk28 _ _ _ _ _ _ hf _ _ _ _ _ hC (lv_sub hl [0, 1, 2, 3, 4, 5] rfl)
      replace hf := oneg c844 hf
      by_cases c845 : ((xs (a5).toNatClampNeg) &&& (63 : Int32)) = (15 : Int32)
      · replace hf := opos c845 hf
        refine lv_tableIn (off := 1219) (tgt := 1264) hx hb dL_law_45 (by rw [c845]; decide) (by rw [c845]; decide) (by rw [c845]; rfl) (by decide) ?_
        exact w_L_law_L1264 M hfl hRf hRl X hend hk28 _ _ _ _ _ _ hf _ _ _ _ _ hC (lv_sub hl [0, 1, 2, 3, 4, 5] rfl)
      replace hf := oneg c845 hf
      by_cases c846 : ((xs (a5).toNatClampNeg) &&& (63 : Int32)) = (16 : Int32)
      · replace hf := opos c846 hf
        refine lv_tableIn (off := 1299) (tgt := 1344) hx hb dL_law_45 (by rw [c846]; decide) (by rw [c846]; decide) (by rw [c846]; rfl) (by decide) ?_
        exact w_L_law_L1344 M hfl hRf hRl X hend hk28 _ _ _ _ _ _ hf _ _ _ _ _ hC (lv_sub hl [0, 1, 2, 3, 4, 5] rfl)
      replace hf := oneg c846 hf
      by_cases c847 : ((xs (a5).toNatClampNeg) &&& (63 : Int32)) = (17 : Int32)
      · replace hf := opos c847 hf
        refine lv_tableIn (off := 1367) (tgt := 1412) hx hb dL_law_45 (by rw [c847]; decide) (by rw [c847]; decide) (by rw [c847]; rfl) (by decide) ?_
        exact w_L_law_L1412 M hfl hRf hRl X hend hk28 _ _ _ _ _ _ hf _ _ _ _ _ hC (lv_sub hl [0, 1, 2, 3, 4, 5] rfl)
      replace hf := oneg c847 hf
      by_cases c848 : ((xs (a5).toNatClampNeg) &&& (63 : Int32)) = (18 : Int32)
      · replace hf := opos c848 hf
        refine lv_tableIn (off := 1423) (tgt := 1468) hx hb dL_law_45 (by rw [c848]; decide) (by rw [c848]; decide) (by rw [c848]; rfl) (by decide) ?_
        exact w_L_law_L1468 M hfl hRf hRl X hend hk28 _ _ _ _ _ _ hf _ _ _ _ _ hC (lv_sub hl [0, 1, 2, 3, 4, 5] rfl)
      replace hf := oneg c848 hf
      by_cases c849 : ((xs (a5).toNatClampNeg) &&& (63 : Int32)) = (19 : Int32)
      · replace hf := opos c849 hf
        refine lv_tableIn (off := 1436) (tgt := 1481) hx hb dL_law_45 (by rw [c849]; decide) (by rw [c849]; decide) (by rw [c849]; rfl) (by decide) ?_
        exact w_L_law_L1481 M hfl hRf hRl X hend hk28 _ _ _ _ _ _ hf _ _ _ _ _ hC (lv_sub hl [0, 1, 2, 3, 4, 5] rfl)
      replace hf := oneg c849 hf
      by_cases c850 : ((xs (a5).toNatClampNeg) &&& (63 : Int32)) = (20 : Int32)
      · replace hf := opos c850 hf
        refine lv_tableIn (off := 1504) (tgt := 1549) hx hb dL_law_45 (by rw [c850]; decide) (by rw [c850]; decide) (by rw [c850]; rfl) (by decide) ?_
        exact w_L_law_L1549 M hfl hRf hRl X hend hk28 _ _ _ _ _ _ hf _ _ _ _ _ hC (lv_sub hl [0, 1, 2, 3, 4, 5] rfl)
      replace hf := oneg c850 hf
      by_cases c851 : ((xs (a5).toNatClampNeg) &&& (63 : Int32)) = (21 : Int32)
      · replace hf := opos c851 hf
        refine lv_tableIn (off := 1517) (tgt := 1562) hx hb dL_law_45 (by rw [c851]; decide) (by rw [c851]; decide) (by rw [c851]; rfl) (by decide) ?_
        exact w_L_law_L1562 M hfl hRf hRl X hend hk28 _ _ _ _ _ _ hf _ _ _ _ _ hC (lv_sub hl [0, 1, 2, 3, 4, 5] rfl)
      replace hf := oneg c851 hf
      by_cases c852 : ((xs (a5).toNatClampNeg) &&& (63 : Int32)) = (22 : Int32)
      · replace hf := opos c852 hf
        refine lv_tableIn (off := 1609) (tgt := 1654) hx hb dL_law_45 (by rw [c852]; decide) (by rw [c852]; decide) (by rw [c852]; rfl) (by decide) ?_
        exact w_L_law_L1654 M hfl hRf hRl X hend hk28 _ _ _ _ _ _ hf _ _ _ _ _ hC (lv_sub hl [0, 1, 2, 3, 4, 5] rfl)
      replace hf := oneg c852 hf
      by_cases c853 : ((xs (a5).toNatClampNeg) &&& (63 : Int32)) = (23 : Int32)
      · replace hf := opos c853 hf
        refine lv_tableIn (off := 1701) (tgt := 1746) hx hb dL_law_45 (by rw [c853]; decide) (by rw [c853]; decide) (by rw [c853]; rfl) (by decide) ?_
        exact w_L_law_L1746 M hfl hRf hRl X hend hk28 _ _ _ _ _ _ hf _ _ _ _ _ hC (lv_sub hl [0, 1, 2, 3, 4, 5] rfl)
      replace hf := oneg c853 hf
      by_cases c854 : ((xs (a5).toNatClampNeg) &&& (63 : Int32)) = (24 : Int32)
      · replace hf := opos c854 hf
        refine lv_tableIn (off := 1805) (tgt := 1850) hx hb dL_law_45 (by rw [c854]; decide) (by rw [c854]; decide) (by rw [c854]; rfl) (by decide) ?_
        exact w_L_law_L1850 M hfl hRf hRl X hend hk28 _ _ _ _ _ _ hf _ _ _ _ _ hC (lv_sub hl [0, 1, 2, 3, 4, 5] rfl)
      replace hf := oneg c854 hf
      by_cases c855 : ((xs (a5).toNatClampNeg) &&& (63 : Int32)) = (25 : Int32)
      · replace hf := opos c855 hf
        refine lv_tableIn (off := 1901) (tgt := 1946) hx hb dL_law_45 (by rw [c855]; decide) (by rw [c855]; decide) (by rw [c855]; rfl) (by decide) ?_
        exact w_L_law_L1946 M hfl hRf hRl X hend hk28 _ _ _ _ _ _ hf _ _ _ _ _ hC (lv_sub hl [0, 1, 2, 3, 4, 5] rfl)
      replace hf := oneg c855 hf
      by_cases c856 : ((xs (a5).toNatClampNeg) &&& (63 : Int32)) = (26 : Int32)
      · replace hf := opos c856 hf
        refine lv_tableIn (off := 1964) (tgt := 2009) hx hb dL_law_45 (by rw [c856]; decide) (by rw [c856]; decide) (by rw [c856]; rfl) (by decide) ?_
        exact w_L_law_L2009 M hfl hRf hRl X hend hk28 _ _ _ _ _ _ hf _ _ _ _ _ hC (lv_sub hl [0, 1, 2, 3, 4, 5] rfl)
      replace hf := oneg c856 hf
      by_cases c857 : ((xs (a5).toNatClampNeg) &&& (63 : Int32)) = (27 : Int32)
      · replace hf := opos c857 hf
        refine lv_tableIn (off := 2020) (tgt := 2065) hx hb dL_law_45 (by rw [c857]; decide) (by rw [c857]; decide) (by rw [c857]; rfl) (by decide) ?_
        exact w_L_law_L2065 M hfl hRf hRl X hend hk28 _ _ _ _ _ _ hf _ _ _ _ _ hC (lv_sub hl [0, 1, 2, 3, 4, 5] rfl)
      replace hf := oneg c857 hf
      by_cases c858 : ((xs (a5).toNatClampNeg) &&& (63 : Int32)) = (28 : Int32)
      · replace hf := opos c858 hf
        refine lv_tableIn (off := 2076) (tgt := 2121) hx hb dL_law_45 (by rw [c858]; decide) (by rw [c858]; decide) (by rw [c858]; rfl) (by decide) ?_
        exact w_L_law_L2121 M hfl hRf hRl X hend hk28 _ _ _ _ _ _ hf _ _ _ _ _ hC (lv_sub hl [0, 1, 2, 3, 4, 5] rfl)
      replace hf := oneg c858 hf
      by_cases c859 : ((xs (a5).toNatClampNeg) &&& (63 : Int32)) = (29 : Int32)
      · replace hf := opos c859 hf
        refine lv_tableIn (off := 2132) (tgt := 2177) hx hb dL_law_45 (by rw [c859]; decide) (by rw [c859]; decide) (by rw [c859]; rfl) (by decide) ?_
        exact w_L_law_L2177 M hfl hRf hRl X hend hk28 _ _ _ _ _ _ hf _ _ _ _ _ hC (lv_sub hl [0, 1, 2, 3, 4, 5] rfl)
      replace hf := oneg c859 hf
      by_cases c860 : ((xs (a5).toNatClampNeg) &&& (63 : Int32)) = (30 : Int32)
      · replace hf := opos c860 hf
        refine lv_tableIn (off := 2231) (tgt := 2276) hx hb dL_law_45 (by rw [c860]; decide) (by rw [c860]; decide) (by rw [c860]; rfl) (by decide) ?_
        exact w_L_law_L2276 M hfl hRf hRl X hend hk28 _ _ _ _ _ _ hf _ _ _ _ _ hC (lv_sub hl [0, 1, 2, 3, 4, 5] rfl)
      replace hf := oneg c860 hf
      by_cases c861 : ((xs (a5).toNatClampNeg) &&& (63 : Int32)) = (31 : Int32)
      · replace hf := opos c861 hf
        refine lv_tableIn (off := 2311) (tgt := 2356) hx hb dL_law_45 (by rw [c861]; decide) (by rw [c861]; decide) (by rw [c861]; rfl) (by decide) ?_
        exact w_L_law_L2356 M hfl hRf hRl X hend hk28 _ _ _ _ _ _ hf _ _ _ _ _ hC (lv_sub hl [0, 1, 2, 3, 4, 5] rfl)
      replace hf := oneg c861 hf
      by_cases c862 : ((xs (a5).toNatClampNeg) &&& (63 : Int32)) = (32 : Int32)
      · replace hf := opos c862 hf
        refine lv_tableIn (off := 2391) (tgt := 2436) hx hb dL_law_45 (by rw [c862]; decide) (by rw [c862]; decide) (by rw [c862]; rfl) (by decide) ?_
        exact w_L_law_L2436 M hfl hRf hRl X hend hk28 _ _ _ _ _ _ hf _ _ _ _ _ hC (lv_sub hl [0, 1, 2, 3, 4, 5] rfl)
      replace hf := oneg c862 hf
      by_cases c863 : ((xs (a5).toNatClampNeg) &&& (63 : Int32)) = (33 : Int32)
      · replace hf := opos c863 hf
        refine lv_tableIn (off := 2471) (tgt := 2516) hx hb dL_law_45 (by rw [c863]; decide) (by rw [c863]; decide) (by rw [c863]; rfl) (by decide) ?_
        exact w_L_law_L2516 M hfl hRf hRl X hend hk28 _ _ _ _ _ _ hf _ _ _ _ _ hC (lv_sub hl [0, 1, 2, 3, 4, 5] rfl)
      replace hf := oneg c863 hf
      by_cases c864 : ((xs (a5).toNatClampNeg) &&& (63 : Int32)) = (34 : Int32)
      · replace hf := opos c864 hf
        refine lv_tableIn (off := 2539) (tgt := 2584) hx hb dL_law_45 (by rw [c864]; decide) (by rw [c864]; decide) (by rw [c864]; rfl) (by decide) ?_
        exact w_L_law_L2584 M hfl hRf hRl X hend hk28 _ _ _ _ _ _ hf _ _ _ _ _ hC (lv_sub hl [0, 1, 2, 3, 4, 5] rfl)
      replace hf := oneg c864 hf
      by_cases c865 : ((xs (a5).toNatClampNeg) &&& (63 : Int32)) = (35 : Int32)
      · replace hf := opos c865 hf
        refine lv_tableIn (off := 2631) (tgt := 2676) hx hb dL_law_45 (by rw [c865]; decide) (by rw [c865]; decide) (by rw [c865]; rfl) (by decide) ?_
        exact w_L_law_L2676 M hfl hRf hRl X hend hk28 _ _ _ _ _ _ hf _ _ _ _ _ hC (lv_sub hl [0, 1, 2, 3, 4, 5] rfl)
      replace hf := oneg c865 hf
      by_cases c866 : ((xs (a5).toNatClampNeg) &&& (63 : Int32)) = (36 : Int32)
      · replace hf := opos c866 hf
        refine lv_tableIn (off := 2723) (tgt := 2768) hx hb dL_law_45 (by rw [c866]; decide) (by rw [c866]; decide) (by rw [c866]; rfl) (by decide) ?_
        exact w_L_law_L2768 M hfl hRf hRl X hend hk28 _ _ _ _ _ _ hf _ _ _ _ _ hC (lv_sub hl [0, 1, 2, 3, 4, 5] rfl)
      replace hf := oneg c866 hf
      by_cases c867 : ((xs (a5).toNatClampNeg) &&& (63 : Int32)) = (37 : Int32)
      · replace hf := opos c867 hf
        refine lv_tableIn (off := 2800) (tgt := 2845) hx hb dL_law_45 (by rw [c867]; decide) (by rw [c867]; decide) (by rw [c867]; rfl) (by decide) ?_
        exact w_L_law_L2845 M hfl hRf hRl X hend hk28 _ _ _ _ _ _ hf _ _ _ _ _ hC (lv_sub hl [0, 1, 2, 3, 4, 5] rfl)
      replace hf := oneg c867 hf
      refine lv_tableOut (tgt := 2859) hx hb dL_law_45 (swOut38 c830 c831 c832 c833 c834 c835 c836 c837 c838 c839 c840 c841 c842 c843 c844 c845 c846 c847 c848 c849 c850 c851 c852 c853 c854 c855 c856 c857 c858 c859 c860 c861 c862 c863 c864 c865 c866 c867) (by decide) ?_
      exact w_L_law_L2859 M hfl hRf hRl X hend hk28 _ _ _ _ _ _ hf _ _ _ _ _ hC (lv_sub hl [0, 1, 2, 3, 4, 5] rfl)
set_option maxHeartbeats 4000000 in
set_option maxRecDepth 100000 in
theorem w_L_law_L0 {p : Program} {l : Launch} {e : Env} {s : State} {m : MethodId} {args : Array Value} {below : List Frame} {meth : Method} {c : Code} {D : va_G} {cA : Nat → ClassId} {h0 : fSt} {r : (Int32 × fSt)} {Q : State → Prop} {R : Room} {b L : Nat} {xs : Nat → Int32} (M : fM p s m args meth c D cA h0 R cL_law 9 (some (.boolean)) RL) (hfl : l.stackTraces = false) (hRf : 35 ≤ R.frames) (hRl : 944 ≤ R.locals) (X : va_X b L xs s s.heap ∧ b < s.heap.size ∧ ¬ fA h0 b) (hend : ∀ (x : Int32) (h : fSt) (H : Heap) (locs : List Loc) (cells slots : Nat) (ls : Array Slot) (pc : Nat), (x, h) = r → fCur D cA s h0 h H locs → decode code pc = .ok (.ireturn, 1) → W p l e R s m args below meth c H locs cells slots Q (F0 m pc ls [.int x]))  (h : fSt) (hf : f_L_law_L0 L xs  h = some r) : ∀ (H : Heap) (locs : List Loc) (cells slots : Nat) (ls : Array Slot), fCur D cA s h0 h H locs → lv_has ls 9 [(0, .ref b)] → W p l e R s m args below meth c H locs cells slots Q (F0 m 0 ls []) := by
  obtain ⟨hx, hb, hml, hr, hlocks, hts, hown, K, hR⟩ := id M
  intro H locs cells slots ls hC hl
  obtain ⟨r868, g869, hf⟩ := obind hf
  refine fr_new hx hb hts hown K hC ct_7 hR g869 dv_7 kw72 kw73 kw55 dL_law_0 (fun H _ _ hC => ?_)
  refine lv_dup hx hb dL_law_3 (va_rf_cat _) ?_
  obtain ⟨r870, g871, hf⟩ := obind hf
  refine fr_callI hx hb hml hts hown K hC hR (c_X7_init hfl D cA g871) 0 kw76 kw74 kw75 kw55 rfl (by decide +kernel) ⟨by omega, by omega⟩ rfl hl.1 (cat8 _ (by exact Nat.le_of_ble_eq_true rfl)) dL_law_4 rfl (fun H locs _ _ hC => ?_)
  refine fr_astore_n (lv' := [(1, va_rf (some r868.1)), (0, .ref b)]) hx hb dL_law_7 rfl hl (by decide) (congrArg (List.cons _) (flk rfl fln)) (fun ls hl => ?_)
  obtain ⟨r872, g873, hf⟩ := obind hf
  refine fr_new hx hb hts hown K hC ct_8 hR g873 dv_8 kw965 kw966 kw62 dL_law_8 (fun H _ _ hC => ?_)
  refine lv_dup hx hb dL_law_11 (va_rf_cat _) ?_
  obtain ⟨r874, g875, hf⟩ := obind hf
  refine fr_callI hx hb hml hts hown K hC hR (c_X8_init hfl D cA g875) 0 kw969 kw967 kw968 kw62 rfl (by decide +kernel) ⟨by omega, by omega⟩ rfl hl.1 (cat8 _ (by exact Nat.le_of_ble_eq_true rfl)) dL_law_12 rfl (fun H locs _ _ hC => ?_)
  refine fr_astore_n (lv' := [(2, va_rf (some r872.1)), (1, va_rf (some r868.1)), (0, .ref b)]) hx hb dL_law_15 rfl hl (by decide) (congrArg (List.cons _) (flk (adj1 _ _) (flk rfl fln))) (fun ls hl => ?_)
  refine lv_iconst (v := (1 : Int32)) hx hb dL_law_16 (by decide) ?_
  by_cases c876 : (1 : Int32) < 0 ∨ 67000000 < ((1 : Int32)).toNatClampNeg
  · exact nomatch (opos c876 hf)
  obtain ⟨r877, g878, hf⟩ := obind (oneg c876 hf)
  refine fr_newa hx hb hts K hC hR (atype := .long) (t := 1) rfl kw1249 (fun _ => rfl) rfl (fun z => c876 (Or.inl z)) g878 (newa_b (fun z => c876 (Or.inr z)) (Nat.le_of_ble_eq_true rfl)) dL_law_17 (fun H _ _ hC => ?_)
  refine fr_astore_n (lv' := [(3, va_rf (some r877.1)), (2, va_rf (some r872.1)), (1, va_rf (some r868.1)), (0, .ref b)]) hx hb dL_law_19 rfl hl (by decide) (congrArg (List.cons _) (flk (adj1 _ _) (flk rfl (flk rfl fln)))) (fun ls hl => ?_)
  refine lv_iconst (v := (1 : Int32)) hx hb dL_law_20 (by decide) ?_
  by_cases c879 : (1 : Int32) < 0 ∨ 67000000 < ((1 : Int32)).toNatClampNeg
  · exact nomatch (opos c879 hf)
  obtain ⟨r880, g881, hf⟩ := obind (oneg c879 hf)
  refine fr_newa hx hb hts K hC hR (atype := .double) (t := 3) rfl kw1374 (fun _ => rfl) rfl (fun z => c879 (Or.inl z)) g881 (newa_b (fun z => c879 (Or.inr z)) (Nat.le_of_ble_eq_true rfl)) dL_law_21 (fun H _ _ hC => ?_)
  refine fr_astore (lv' := [(4, va_rf (some r880.1)), (3, va_rf (some r877.1)), (2, va_rf (some r872.1)), (1, va_rf (some r868.1)), (0, .ref b)]) hx hb dL_law_23 hl (by decide) (congrArg (List.cons _) (flk (adj1 _ _) (flk rfl (flk rfl (flk rfl fln))))) (fun ls hl => ?_)
  refine lv_iconst (v := (0 : Int32)) hx hb dL_law_25 (by decide) ?_
  refine lv_istore (lv' := [(5, .int (0 : Int32)), (4, va_rf (some r880.1)), (3, va_rf (some r877.1)), (2, va_rf (some r872.1)), (1, va_rf (some r868.1)), (0, .ref b)]) hx hb dL_law_26 hl (by decide) (congrArg (List.cons _) (flk (adj1 _ _) (flk rfl (flk rfl (flk rfl (flk rfl fln)))))) (fun ls hl => ?_)
  exact w_L_law_L28 M hfl hRf hRl X hend 4096 _ _ _ _ _ _ hf _ _ _ _ _ hC (lv_sub hl [5, 4, 3, 2, 1, 0] rfl)
