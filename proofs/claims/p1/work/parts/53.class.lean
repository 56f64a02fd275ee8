/-! The class on the fresh object. -/
section CLS
variable {z : Nat} {h : fSt}
theorem xa2_n (F : XF z h) {i : Int32} (h1 : ¬ i < 0) (h2 : i < 12) : faR h (some (z + 2)) 5 i = some none := by
  obtain ⟨f0, f1, f2, f3, f4, f5, f6, f7, f8, f9, f10, f11, f12, f13⟩ := F
  have e : ¬ (i < 0 ∨ 12 ≤ i.toNatClampNeg) := i32_lt h1 h2 (by decide)
  simp only [faR, farr, f2, if_true, if_neg e]
theorem x_nodeOrNull0 (F : XF z h) : f_X7_nodeOrNull z 0 h = some (some (z + 3), h) := by
  simp +decide only [f_X7_nodeOrNull, f_X7_nodeOrNull_L0, f_X7_nodeOrNull_L38, xr0_7_0 F, xr0_7_1 F, xr0_7_2 F, xr0_7_3 F, xr0_7_4 F, xr0_7_5 F, xr0_7_6 F, xr0_7_7 F, xr0_7_8 F, xr0_7_9 F, xr3_4_0 F, xr3_4_1 F, xr3_4_2 F, xr3_4_3 F, xr3_4_4 F, xr3_4_5 F, xr3_4_6 F, xr3_4_7 F, xr3_4_8 F, xr3_4_9 F, xr3_4_10 F, xr3_4_11 F, xr3_4_12 F, xr3_4_13 F, xr3_4_14 F, xr3_4_15 F, xr3_4_16 F, xr3_4_17 F, xr3_4_18 F, xr4_6_0 F, xr4_6_1 F, xr4_6_2 F, xr4_6_7 F, xr5_6_0 F, xr5_6_1 F, xr5_6_2 F, xr5_6_7 F, xr6_6_0 F, xr6_6_1 F, xr6_6_2 F, xr6_6_7 F, xr7_6_0 F, xr7_6_1 F, xr7_6_2 F, xr7_6_7 F, xr10_0_0 F, xr10_0_1 F, xr10_0_2 F, xr10_0_3 F, xo0 F, xo3 F, xo4 F, xo5 F, xo6 F, xo7 F, xo10 F, xo9 F, xo11 F, xo12 F, xo13 F, xo14 F, xl1 F, xl2 F, xa1_0 F, Option.bind_some, Sum.elim_inl, Sum.elim_inr, reduceIte, reduceCtorEq, if_true, if_false]
theorem x_nodeOrNulln (F : XF z h) {a : Int32} (ha : a ≠ 0) : f_X7_nodeOrNull z a h = some (none, h) := by
  unfold f_X7_nodeOrNull f_X7_nodeOrNull_L0
  by_cases q : a < 0
  · rw [if_pos q]; rfl
  · rw [if_neg q]
    simp only [xr0_7_0 F, xl1 F, Option.bind_some]
    by_cases q2 : a < 30
    · rw [if_pos q2]
      simp only [xa1_n F q q2 ha, Option.bind_some, if_true]
      rfl
    · rw [if_neg q2]; rfl
theorem x_found0 (F : XF z h) : f_X7_found z 0 h = some (.inl (some (z + 3)), h) := by
  simp +decide only [f_X7_found, f_X7_found_L0, xo0 F, x_nodeOrNull0 F, Option.bind_some, Sum.elim_inl, Sum.elim_inr, reduceIte, reduceCtorEq, if_true, if_false]
theorem x_foundn {k : Nat} (R : RM (k + 1) h) (F : XF z h) {a : Int32} (ha : a ≠ 0) : f_X7_found z a h = some (.inr 0, tH h) := by
  simp +decide only [f_X7_found, f_X7_found_L0, xo0 F, x_nodeOrNulln F ha, th_eq R, Option.bind_some, Sum.elim_inl, Sum.elim_inr, reduceIte, reduceCtorEq, if_true, if_false]
theorem x_fbw0 {k : Nat} (R : RM (k + 1) h) (F : XF z h) : f_X7_foundBelowWhole z 0 h = some (.inr 2, tH h) := by
  simp +decide only [f_X7_foundBelowWhole, f_X7_foundBelowWhole_L0, xo0 F, x_found0 F, xr0_7_2 F, th_eq R, Option.bind_some, Sum.elim_inl, Sum.elim_inr, reduceIte, reduceCtorEq, if_true, if_false]
theorem x_fbwn {k : Nat} (R : RM (k + 1) h) (F : XF z h) {a : Int32} (ha : a ≠ 0) : f_X7_foundBelowWhole z a h = some (.inr 0, tH h) := by
  simp +decide only [f_X7_foundBelowWhole, f_X7_foundBelowWhole_L0, xo0 F, x_foundn R F ha, Option.bind_some, Sum.elim_inl, Sum.elim_inr, reduceIte, reduceCtorEq, if_true, if_false]
theorem x_fbw {k : Nat} (R : RM (k + 1) h) (F : XF z h) (a : Int32) : f_X7_foundBelowWhole z a h = some (.inr (if a = 0 then 2 else 0), tH h) := by
  by_cases q : a = 0
  · subst q; rw [x_fbw0 R F]; rfl
  · rw [x_fbwn R F q, if_neg q]
theorem x_foundTrack {k : Nat} (R : RM (k + 1) h) (F : XF z h) (a : Int32) : f_X7_foundTrack z a h = some (.inr 0, tH h) := by
  have e : ∀ h1, f_X7_foundTrack_L23 none h1 = (fthr h1).bind fun h2 => some (.inr 0, h2) := fun _ => rfl
  unfold f_X7_foundTrack f_X7_foundTrack_L0 f_X7_foundTrack_L13
  by_cases q : a < 0
  · rw [if_pos q, e, th_eq R]; rfl
  · rw [if_neg q]
    simp only [xr0_7_1 F, xl2 F, Option.bind_some]
    by_cases q2 : a < 12
    · rw [if_pos q2]
      simp only [xa2_n F q q2, Option.bind_some]
      rw [e, th_eq R]; rfl
    · rw [if_neg q2, e, th_eq R]; rfl
theorem x_checkTime {k : Nat} (R : RM (k + 1) h) (a : Int32) : f_X7_checkTime a h = if rng a 0 9999 = 0 then some (.inr 1, tH h) else some (.inl (), h) := by
  simp only [f_X7_checkTime, f_X7_checkTime_L0, x_isFrom, th_eq R, Option.bind_some]
def badP (a b c : Int32) : Prop := rng a (-1000) 1000 = 0 ∨ rng b (-1000) 1000 = 0 ∨ rng c 0 3 = 0
def badS (a b c : Int32) : Prop := rng a (-10000) 10000 = 0 ∨ rng b (-10000) 10000 = 0 ∨ rng c 1 60 = 0
theorem x_checkPoint_b {k : Nat} (R : RM (k + 1) h) {a b c : Int32} (q : badP a b c) : f_X7_checkPoint a b c h = some (.inr 1, tH h) := by
  unfold f_X7_checkPoint f_X7_checkPoint_L0 f_X7_checkPoint_L26
  simp only [x_isFrom, th_eq R, Option.bind_some]
  rcases q with q | q | q
  · rw [if_pos q]
  · rw [if_pos q]; simp only [ite_self]
  · rw [if_pos q]; simp only [ite_self]
theorem x_checkPoint_g {a b c : Int32} (q : ¬ badP a b c) : f_X7_checkPoint a b c h = some (.inl (), h) := by
  unfold f_X7_checkPoint f_X7_checkPoint_L0
  simp only [x_isFrom, Option.bind_some]
  rw [if_neg (fun y => q (Or.inl y)), if_neg (fun y => q (Or.inr (Or.inl y))), if_neg (fun y => q (Or.inr (Or.inr y)))]
theorem x_checkSpot_b {k : Nat} (R : RM (k + 1) h) {a b c : Int32} (q : badS a b c) : f_X7_checkSpot a b c h = some (.inr 1, tH h) := by
  unfold f_X7_checkSpot f_X7_checkSpot_L0 f_X7_checkSpot_L26
  simp only [x_isFrom, th_eq R, Option.bind_some]
  rcases q with q | q | q
  · rw [if_pos q]
  · rw [if_pos q]; simp only [ite_self]
  · rw [if_pos q]; simp only [ite_self]
theorem x_checkSpot_g {a b c : Int32} (q : ¬ badS a b c) : f_X7_checkSpot a b c h = some (.inl (), h) := by
  unfold f_X7_checkSpot f_X7_checkSpot_L0
  simp only [x_isFrom, Option.bind_some]
  rw [if_neg (fun y => q (Or.inl y)), if_neg (fun y => q (Or.inr (Or.inl y))), if_neg (fun y => q (Or.inr (Or.inr y)))]
theorem x_at {p : Nat} {v t : Int32} (e1 : fgR h (some p) 6 7 = some none) (e2 : fgI h (some p) 6 2 = some v) : f_X6_at p t h = some (v, h) := by
  simp only [f_X6_at, f_X6_at_L0, e1, e2, Option.bind_some, Sum.elim_inl, Sum.elim_inr, reduceIte, reduceCtorEq, if_true, if_false]
theorem x_at4 (F : XF z h) (t : Int32) : f_X6_at (z + 4) t h = some (0, h) := by
  exact x_at (xr4_6_7 F) (xr4_6_2 F)
theorem x_at5 (F : XF z h) (t : Int32) : f_X6_at (z + 5) t h = some (0, h) := by
  exact x_at (xr5_6_7 F) (xr5_6_2 F)
theorem x_at6 (F : XF z h) (t : Int32) : f_X6_at (z + 6) t h = some (0, h) := by
  exact x_at (xr6_6_7 F) (xr6_6_2 F)
theorem x_at7 (F : XF z h) (t : Int32) : f_X6_at (z + 7) t h = some (100, h) := by
  exact x_at (xr7_6_7 F) (xr7_6_2 F)
theorem x_isWithinN (F : XF z h) : f_X4_isWithin (z + 3) none h = some (0, h) := by
  simp +decide only [f_X4_isWithin, f_X4_isWithin_L0, sS_X4_isWithin_L2, sN_X4_isWithin_L2, xr0_7_0 F, xr0_7_1 F, xr0_7_2 F, xr0_7_3 F, xr0_7_4 F, xr0_7_5 F, xr0_7_6 F, xr0_7_7 F, xr0_7_8 F, xr0_7_9 F, xr3_4_0 F, xr3_4_1 F, xr3_4_2 F, xr3_4_3 F, xr3_4_4 F, xr3_4_5 F, xr3_4_6 F, xr3_4_7 F, xr3_4_8 F, xr3_4_9 F, xr3_4_10 F, xr3_4_11 F, xr3_4_12 F, xr3_4_13 F, xr3_4_14 F, xr3_4_15 F, xr3_4_16 F, xr3_4_17 F, xr3_4_18 F, xr4_6_0 F, xr4_6_1 F, xr4_6_2 F, xr4_6_7 F, xr5_6_0 F, xr5_6_1 F, xr5_6_2 F, xr5_6_7 F, xr6_6_0 F, xr6_6_1 F, xr6_6_2 F, xr6_6_7 F, xr7_6_0 F, xr7_6_1 F, xr7_6_2 F, xr7_6_7 F, xr10_0_0 F, xr10_0_1 F, xr10_0_2 F, xr10_0_3 F, xo0 F, xo3 F, xo4 F, xo5 F, xo6 F, xo7 F, xo10 F, xo9 F, xo11 F, xo12 F, xo13 F, xo14 F, xl1 F, xl2 F, xa1_0 F, Option.bind_some, Sum.elim_inl, Sum.elim_inr, reduceIte, reduceCtorEq, if_true, if_false]
theorem x_isWithinS (F : XF z h) : f_X4_isWithin (z + 3) (some (z + 3)) h = some (1, h) := by
  simp +decide only [f_X4_isWithin, f_X4_isWithin_L0, sS_X4_isWithin_L2, sN_X4_isWithin_L2, xr0_7_0 F, xr0_7_1 F, xr0_7_2 F, xr0_7_3 F, xr0_7_4 F, xr0_7_5 F, xr0_7_6 F, xr0_7_7 F, xr0_7_8 F, xr0_7_9 F, xr3_4_0 F, xr3_4_1 F, xr3_4_2 F, xr3_4_3 F, xr3_4_4 F, xr3_4_5 F, xr3_4_6 F, xr3_4_7 F, xr3_4_8 F, xr3_4_9 F, xr3_4_10 F, xr3_4_11 F, xr3_4_12 F, xr3_4_13 F, xr3_4_14 F, xr3_4_15 F, xr3_4_16 F, xr3_4_17 F, xr3_4_18 F, xr4_6_0 F, xr4_6_1 F, xr4_6_2 F, xr4_6_7 F, xr5_6_0 F, xr5_6_1 F, xr5_6_2 F, xr5_6_7 F, xr6_6_0 F, xr6_6_1 F, xr6_6_2 F, xr6_6_7 F, xr7_6_0 F, xr7_6_1 F, xr7_6_2 F, xr7_6_7 F, xr10_0_0 F, xr10_0_1 F, xr10_0_2 F, xr10_0_3 F, xo0 F, xo3 F, xo4 F, xo5 F, xo6 F, xo7 F, xo10 F, xo9 F, xo11 F, xo12 F, xo13 F, xo14 F, xl1 F, xl2 F, xa1_0 F, Option.bind_some, Sum.elim_inl, Sum.elim_inr, reduceIte, reduceCtorEq, if_true, if_false]
theorem x_depth (F : XF z h) : f_X4_depth (z + 3) h = some (0, h) := by
  simp +decide only [f_X4_depth, f_X4_depth_L0, sN_X4_depth_L7, xr0_7_0 F, xr0_7_1 F, xr0_7_2 F, xr0_7_3 F, xr0_7_4 F, xr0_7_5 F, xr0_7_6 F, xr0_7_7 F, xr0_7_8 F, xr0_7_9 F, xr3_4_0 F, xr3_4_1 F, xr3_4_2 F, xr3_4_3 F, xr3_4_4 F, xr3_4_5 F, xr3_4_6 F, xr3_4_7 F, xr3_4_8 F, xr3_4_9 F, xr3_4_10 F, xr3_4_11 F, xr3_4_12 F, xr3_4_13 F, xr3_4_14 F, xr3_4_15 F, xr3_4_16 F, xr3_4_17 F, xr3_4_18 F, xr4_6_0 F, xr4_6_1 F, xr4_6_2 F, xr4_6_7 F, xr5_6_0 F, xr5_6_1 F, xr5_6_2 F, xr5_6_7 F, xr6_6_0 F, xr6_6_1 F, xr6_6_2 F, xr6_6_7 F, xr7_6_0 F, xr7_6_1 F, xr7_6_2 F, xr7_6_7 F, xr10_0_0 F, xr10_0_1 F, xr10_0_2 F, xr10_0_3 F, xo0 F, xo3 F, xo4 F, xo5 F, xo6 F, xo7 F, xo10 F, xo9 F, xo11 F, xo12 F, xo13 F, xo14 F, xl1 F, xl2 F, xa1_0 F, Option.bind_some, Sum.elim_inl, Sum.elim_inr, reduceIte, reduceCtorEq, if_true, if_false]
theorem x_isShownAt (F : XF z h) (t : Int32) : f_X4_isShownAt (z + 3) t h = some (1, h) := by
  simp +decide only [f_X4_isShownAt, f_X4_isShownAt_L0, sS_X4_isShownAt_L2, sN_X4_isShownAt_L2, x_at4 F, x_at5 F, x_at6 F, x_at7 F, xr0_7_0 F, xr0_7_1 F, xr0_7_2 F, xr0_7_3 F, xr0_7_4 F, xr0_7_5 F, xr0_7_6 F, xr0_7_7 F, xr0_7_8 F, xr0_7_9 F, xr3_4_0 F, xr3_4_1 F, xr3_4_2 F, xr3_4_3 F, xr3_4_4 F, xr3_4_5 F, xr3_4_6 F, xr3_4_7 F, xr3_4_8 F, xr3_4_9 F, xr3_4_10 F, xr3_4_11 F, xr3_4_12 F, xr3_4_13 F, xr3_4_14 F, xr3_4_15 F, xr3_4_16 F, xr3_4_17 F, xr3_4_18 F, xr4_6_0 F, xr4_6_1 F, xr4_6_2 F, xr4_6_7 F, xr5_6_0 F, xr5_6_1 F, xr5_6_2 F, xr5_6_7 F, xr6_6_0 F, xr6_6_1 F, xr6_6_2 F, xr6_6_7 F, xr7_6_0 F, xr7_6_1 F, xr7_6_2 F, xr7_6_7 F, xr10_0_0 F, xr10_0_1 F, xr10_0_2 F, xr10_0_3 F, xo0 F, xo3 F, xo4 F, xo5 F, xo6 F, xo7 F, xo10 F, xo9 F, xo11 F, xo12 F, xo13 F, xo14 F, xl1 F, xl2 F, xa1_0 F, Option.bind_some, Sum.elim_inl, Sum.elim_inr, reduceIte, reduceCtorEq, if_true, if_false]
theorem x_coversAt (F : XF z h) (a b c t : Int32) : f_X7_coversAt z (some (z + 3)) a b c t h = some (0, h) := by
  simp +decide only [f_X7_coversAt, f_X7_coversAt_L0, f_X7_coversAt_L16, xr0_7_0 F, xr0_7_1 F, xr0_7_2 F, xr0_7_3 F, xr0_7_4 F, xr0_7_5 F, xr0_7_6 F, xr0_7_7 F, xr0_7_8 F, xr0_7_9 F, xr3_4_0 F, xr3_4_1 F, xr3_4_2 F, xr3_4_3 F, xr3_4_4 F, xr3_4_5 F, xr3_4_6 F, xr3_4_7 F, xr3_4_8 F, xr3_4_9 F, xr3_4_10 F, xr3_4_11 F, xr3_4_12 F, xr3_4_13 F, xr3_4_14 F, xr3_4_15 F, xr3_4_16 F, xr3_4_17 F, xr3_4_18 F, xr4_6_0 F, xr4_6_1 F, xr4_6_2 F, xr4_6_7 F, xr5_6_0 F, xr5_6_1 F, xr5_6_2 F, xr5_6_7 F, xr6_6_0 F, xr6_6_1 F, xr6_6_2 F, xr6_6_7 F, xr7_6_0 F, xr7_6_1 F, xr7_6_2 F, xr7_6_7 F, xr10_0_0 F, xr10_0_1 F, xr10_0_2 F, xr10_0_3 F, xo0 F, xo3 F, xo4 F, xo5 F, xo6 F, xo7 F, xo10 F, xo9 F, xo11 F, xo12 F, xo13 F, xo14 F, xl1 F, xl2 F, xa1_0 F, Option.bind_some, Sum.elim_inl, Sum.elim_inr, reduceIte, reduceCtorEq, if_true, if_false]
theorem x_topAtN (F : XF z h) (a b c t : Int32) : f_X7_topAt z a b c t none h = some (-1, h) := by
  simp +decide only [f_X7_topAt, f_X7_topAt_L0, f_X7_topAt_L41, sS_X7_topAt_L6, sN_X7_topAt_L6, x_isWithinN F, x_coversAt F, xr0_7_0 F, xr0_7_1 F, xr0_7_2 F, xr0_7_3 F, xr0_7_4 F, xr0_7_5 F, xr0_7_6 F, xr0_7_7 F, xr0_7_8 F, xr0_7_9 F, xr3_4_0 F, xr3_4_1 F, xr3_4_2 F, xr3_4_3 F, xr3_4_4 F, xr3_4_5 F, xr3_4_6 F, xr3_4_7 F, xr3_4_8 F, xr3_4_9 F, xr3_4_10 F, xr3_4_11 F, xr3_4_12 F, xr3_4_13 F, xr3_4_14 F, xr3_4_15 F, xr3_4_16 F, xr3_4_17 F, xr3_4_18 F, xr4_6_0 F, xr4_6_1 F, xr4_6_2 F, xr4_6_7 F, xr5_6_0 F, xr5_6_1 F, xr5_6_2 F, xr5_6_7 F, xr6_6_0 F, xr6_6_1 F, xr6_6_2 F, xr6_6_7 F, xr7_6_0 F, xr7_6_1 F, xr7_6_2 F, xr7_6_7 F, xr10_0_0 F, xr10_0_1 F, xr10_0_2 F, xr10_0_3 F, xo0 F, xo3 F, xo4 F, xo5 F, xo6 F, xo7 F, xo10 F, xo9 F, xo11 F, xo12 F, xo13 F, xo14 F, xl1 F, xl2 F, xa1_0 F, Option.bind_some, Sum.elim_inl, Sum.elim_inr, reduceIte, reduceCtorEq, if_true, if_false]
theorem x_topAtS (F : XF z h) (a b c t : Int32) : f_X7_topAt z a b c t (some (z + 3)) h = some (-1, h) := by
  simp +decide only [f_X7_topAt, f_X7_topAt_L0, f_X7_topAt_L41, sS_X7_topAt_L6, sN_X7_topAt_L6, x_isWithinS F, x_coversAt F, xr0_7_0 F, xr0_7_1 F, xr0_7_2 F, xr0_7_3 F, xr0_7_4 F, xr0_7_5 F, xr0_7_6 F, xr0_7_7 F, xr0_7_8 F, xr0_7_9 F, xr3_4_0 F, xr3_4_1 F, xr3_4_2 F, xr3_4_3 F, xr3_4_4 F, xr3_4_5 F, xr3_4_6 F, xr3_4_7 F, xr3_4_8 F, xr3_4_9 F, xr3_4_10 F, xr3_4_11 F, xr3_4_12 F, xr3_4_13 F, xr3_4_14 F, xr3_4_15 F, xr3_4_16 F, xr3_4_17 F, xr3_4_18 F, xr4_6_0 F, xr4_6_1 F, xr4_6_2 F, xr4_6_7 F, xr5_6_0 F, xr5_6_1 F, xr5_6_2 F, xr5_6_7 F, xr6_6_0 F, xr6_6_1 F, xr6_6_2 F, xr6_6_7 F, xr7_6_0 F, xr7_6_1 F, xr7_6_2 F, xr7_6_7 F, xr10_0_0 F, xr10_0_1 F, xr10_0_2 F, xr10_0_3 F, xo0 F, xo3 F, xo4 F, xo5 F, xo6 F, xo7 F, xo10 F, xo9 F, xo11 F, xo12 F, xo13 F, xo14 F, xl1 F, xl2 F, xa1_0 F, Option.bind_some, Sum.elim_inl, Sum.elim_inr, reduceIte, reduceCtorEq, if_true, if_false]
theorem x_strengthOf (F : XF z h) (t : Int32) : f_X7_strengthOf 8 (some (z + 3)) t 0 h = some (100, h) := by
  simp +decide only [s0_X7_strengthOf, f_X7_strengthOf_L0, f_X7_strengthOf_L12, f_X7_strengthOf_L17, f_X7_strengthOf_L38, x_at4 F, x_at5 F, x_at6 F, x_at7 F, xr0_7_0 F, xr0_7_1 F, xr0_7_2 F, xr0_7_3 F, xr0_7_4 F, xr0_7_5 F, xr0_7_6 F, xr0_7_7 F, xr0_7_8 F, xr0_7_9 F, xr3_4_0 F, xr3_4_1 F, xr3_4_2 F, xr3_4_3 F, xr3_4_4 F, xr3_4_5 F, xr3_4_6 F, xr3_4_7 F, xr3_4_8 F, xr3_4_9 F, xr3_4_10 F, xr3_4_11 F, xr3_4_12 F, xr3_4_13 F, xr3_4_14 F, xr3_4_15 F, xr3_4_16 F, xr3_4_17 F, xr3_4_18 F, xr4_6_0 F, xr4_6_1 F, xr4_6_2 F, xr4_6_7 F, xr5_6_0 F, xr5_6_1 F, xr5_6_2 F, xr5_6_7 F, xr6_6_0 F, xr6_6_1 F, xr6_6_2 F, xr6_6_7 F, xr7_6_0 F, xr7_6_1 F, xr7_6_2 F, xr7_6_7 F, xr10_0_0 F, xr10_0_1 F, xr10_0_2 F, xr10_0_3 F, xo0 F, xo3 F, xo4 F, xo5 F, xo6 F, xo7 F, xo10 F, xo9 F, xo11 F, xo12 F, xo13 F, xo14 F, xl1 F, xl2 F, xa1_0 F, Option.bind_some, Sum.elim_inl, Sum.elim_inr, reduceIte, reduceCtorEq, if_true, if_false]
  rfl
theorem x_parentNumber (F : XF z h) : f_X7_parentNumber (some (z + 3)) h = some (-1, h) := by
  simp +decide only [f_X7_parentNumber, f_X7_parentNumber_L0, f_X7_parentNumber_L18, xr0_7_0 F, xr0_7_1 F, xr0_7_2 F, xr0_7_3 F, xr0_7_4 F, xr0_7_5 F, xr0_7_6 F, xr0_7_7 F, xr0_7_8 F, xr0_7_9 F, xr3_4_0 F, xr3_4_1 F, xr3_4_2 F, xr3_4_3 F, xr3_4_4 F, xr3_4_5 F, xr3_4_6 F, xr3_4_7 F, xr3_4_8 F, xr3_4_9 F, xr3_4_10 F, xr3_4_11 F, xr3_4_12 F, xr3_4_13 F, xr3_4_14 F, xr3_4_15 F, xr3_4_16 F, xr3_4_17 F, xr3_4_18 F, xr4_6_0 F, xr4_6_1 F, xr4_6_2 F, xr4_6_7 F, xr5_6_0 F, xr5_6_1 F, xr5_6_2 F, xr5_6_7 F, xr6_6_0 F, xr6_6_1 F, xr6_6_2 F, xr6_6_7 F, xr7_6_0 F, xr7_6_1 F, xr7_6_2 F, xr7_6_7 F, xr10_0_0 F, xr10_0_1 F, xr10_0_2 F, xr10_0_3 F, xo0 F, xo3 F, xo4 F, xo5 F, xo6 F, xo7 F, xo10 F, xo9 F, xo11 F, xo12 F, xo13 F, xo14 F, xl1 F, xl2 F, xa1_0 F, Option.bind_some, Sum.elim_inl, Sum.elim_inr, reduceIte, reduceCtorEq, if_true, if_false]
theorem x_differs {p : Nat} {a b : Int32} (e : fgR h (some p) 6 7 = some none) : f_X6_differs p a b h = some (0, h) := by
  simp +decide only [f_X6_differs, f_X6_differs_L0, f_X6_differs_L24, f_X6_differs_L25, e, true_or, Option.bind_some, Sum.elim_inl, Sum.elim_inr, reduceIte, reduceCtorEq, if_true, if_false]
theorem x_differs4 (F : XF z h) (a b : Int32) : f_X4_differs (z + 3) a b h = some (0, h) := by
  simp +decide only [f_X4_differs, f_X4_differs_L0, sS_X4_differs_L2, sN_X4_differs_L2, x_differs (xr4_6_7 F), x_differs (xr5_6_7 F), x_differs (xr6_6_7 F), x_differs (xr7_6_7 F), xr0_7_0 F, xr0_7_1 F, xr0_7_2 F, xr0_7_3 F, xr0_7_4 F, xr0_7_5 F, xr0_7_6 F, xr0_7_7 F, xr0_7_8 F, xr0_7_9 F, xr3_4_0 F, xr3_4_1 F, xr3_4_2 F, xr3_4_3 F, xr3_4_4 F, xr3_4_5 F, xr3_4_6 F, xr3_4_7 F, xr3_4_8 F, xr3_4_9 F, xr3_4_10 F, xr3_4_11 F, xr3_4_12 F, xr3_4_13 F, xr3_4_14 F, xr3_4_15 F, xr3_4_16 F, xr3_4_17 F, xr3_4_18 F, xr4_6_0 F, xr4_6_1 F, xr4_6_2 F, xr4_6_7 F, xr5_6_0 F, xr5_6_1 F, xr5_6_2 F, xr5_6_7 F, xr6_6_0 F, xr6_6_1 F, xr6_6_2 F, xr6_6_7 F, xr7_6_0 F, xr7_6_1 F, xr7_6_2 F, xr7_6_7 F, xr10_0_0 F, xr10_0_1 F, xr10_0_2 F, xr10_0_3 F, xo0 F, xo3 F, xo4 F, xo5 F, xo6 F, xo7 F, xo10 F, xo9 F, xo11 F, xo12 F, xo13 F, xo14 F, xl1 F, xl2 F, xa1_0 F, Option.bind_some, Sum.elim_inl, Sum.elim_inr, reduceIte, reduceCtorEq, if_true, if_false]
theorem x_isToldAnew (F : XF z h) (t : Int32) : f_X7_isToldAnew z t h = some (0, h) := by
  simp +decide only [f_X7_isToldAnew, f_X7_isToldAnew_L0, s0_X7_isToldAnew_L2, f_X7_isToldAnew_L53, xr0_7_6 F, Option.bind_some, Sum.elim_inl, Sum.elim_inr, reduceIte, reduceCtorEq, if_true, if_false]
theorem x_nextKey (F : XF z h) : f_X7_nextKey z h = some (-1, h) := by
  simp +decide only [f_X7_nextKey, f_X7_nextKey_L0, s0_X7_nextKey_L4, f_X7_nextKey_L71, xr0_7_6 F, Option.bind_some, Sum.elim_inl, Sum.elim_inr, reduceIte, reduceCtorEq, if_true, if_false]
theorem x_changes_g (F : XF z h) {a b : Int32} (qa : ¬ rng a 0 9999 = 0) (qb : ¬ rng b 0 9999 = 0) : f_X7_changes z a b h = some (.inl 0, h) := by
  simp +decide only [f_X7_changes, f_X7_changes_L0, f_X7_checkTime, f_X7_checkTime_L0, x_isFrom, if_neg qa, if_neg qb, sS_X7_changes_L16, sN_X7_changes_L16, f_X7_changes_L34, x_differs4 F, xr0_7_0 F, xr0_7_1 F, xr0_7_2 F, xr0_7_3 F, xr0_7_4 F, xr0_7_5 F, xr0_7_6 F, xr0_7_7 F, xr0_7_8 F, xr0_7_9 F, xr3_4_0 F, xr3_4_1 F, xr3_4_2 F, xr3_4_3 F, xr3_4_4 F, xr3_4_5 F, xr3_4_6 F, xr3_4_7 F, xr3_4_8 F, xr3_4_9 F, xr3_4_10 F, xr3_4_11 F, xr3_4_12 F, xr3_4_13 F, xr3_4_14 F, xr3_4_15 F, xr3_4_16 F, xr3_4_17 F, xr3_4_18 F, xr4_6_0 F, xr4_6_1 F, xr4_6_2 F, xr4_6_7 F, xr5_6_0 F, xr5_6_1 F, xr5_6_2 F, xr5_6_7 F, xr6_6_0 F, xr6_6_1 F, xr6_6_2 F, xr6_6_7 F, xr7_6_0 F, xr7_6_1 F, xr7_6_2 F, xr7_6_7 F, xr10_0_0 F, xr10_0_1 F, xr10_0_2 F, xr10_0_3 F, xo0 F, xo3 F, xo4 F, xo5 F, xo6 F, xo7 F, xo10 F, xo9 F, xo11 F, xo12 F, xo13 F, xo14 F, xl1 F, xl2 F, xa1_0 F, Option.bind_some, Sum.elim_inl, Sum.elim_inr, reduceIte, reduceCtorEq, if_true, if_false]
theorem x_set (F : XF z h) (x y u : Int64) : f_X5_set (z + 9) x y u h = some ((), PT z x y u 0 h) := by
  obtain ⟨x0, y0, u0, c0, e⟩ := pt_of F
  rw [e]
  simp only [f_X5_set, f_X5_set_L0, pP0, pP1, pP2, pZ3, Option.bind_some]
  rw [PT_PT]
theorem x_turn0 (n : Nat) : f_X5_turnQuarters (z + 9) 0 h = some ((), h) := by
  simp +decide only [f_X5_turnQuarters, f_X5_turnQuarters_L0, s0_X5_turnQuarters_L2, Option.bind_some, Sum.elim_inl, Sum.elim_inr, reduceIte, reduceCtorEq, if_true, if_false]
theorem x_turn4 {x y u : Int64} {c : Int32} : f_X5_turnQuarters (z + 9) 4 (PT z x y u c h) = some ((), PT z x y u c h) := by
  simp +decide only [f_X5_turnQuarters, f_X5_turnQuarters_L0, s0_X5_turnQuarters_L2, s1_X5_turnQuarters_L2, s2_X5_turnQuarters_L2, s3_X5_turnQuarters_L2, s4_X5_turnQuarters_L2, pJ0, pJ1, pJ2, pI3, pO9, pP0, pP1, pP2, Int64.neg_neg, Option.bind_some, Sum.elim_inl, Sum.elim_inr, reduceIte, reduceCtorEq, if_true, if_false]
theorem i64_0 : Int32.toInt64 0 = 0 := by decide
theorem i64_1 : Int32.toInt64 1 = 1 := by decide
theorem x_enter (F : XF z h) (t : Int32) {x y u : Int64} {c : Int32} : f_X5_enter (z + 9) (some (z + 3)) t (PT z x y u c h) = some ((), PT z x y u c h) := by
  have e4 : ∀ (x y u : Int64) (c : Int32), f_X6_at (z + 4) t (PT z x y u c h) = some (0, PT z x y u c h) := fun x y u c => x_at4 (XF_PT F) t
  have e5 : ∀ (x y u : Int64) (c : Int32), f_X6_at (z + 5) t (PT z x y u c h) = some (0, PT z x y u c h) := fun x y u c => x_at5 (XF_PT F) t
  have e6 : ∀ (x y u : Int64) (c : Int32), f_X6_at (z + 6) t (PT z x y u c h) = some (0, PT z x y u c h) := fun x y u c => x_at6 (XF_PT F) t
  have r3 : ∀ (x y u : Int64) (c : Int32) (ci k : Nat), fgR (PT z x y u c h) (some (z + 3)) ci k = fgR h (some (z + 3)) ci k := fun x y u c => fgR_F (pF (by decide))
  have i3 : ∀ (x y u : Int64) (c : Int32) (ci k : Nat), fgI (PT z x y u c h) (some (z + 3)) ci k = fgI h (some (z + 3)) ci k := fun x y u c => fgI_F (pF (by decide))
  have o4 : ∀ (x y u : Int64) (c : Int32) (ci : Nat), fobj (PT z x y u c h) (some (z + 4)) ci = fobj h (some (z + 4)) ci := fun x y u c => fobj_F (pF (by decide))
  have o5 : ∀ (x y u : Int64) (c : Int32) (ci : Nat), fobj (PT z x y u c h) (some (z + 5)) ci = fobj h (some (z + 5)) ci := fun x y u c => fobj_F (pF (by decide))
  have o6 : ∀ (x y u : Int64) (c : Int32) (ci : Nat), fobj (PT z x y u c h) (some (z + 6)) ci = fobj h (some (z + 6)) ci := fun x y u c => fobj_F (pF (by decide))
  have t4 : ((4 : Int32) - 0) = 4 := by decide
  simp +decide only [f_X5_enter, f_X5_enter_L0, f_X5_enter_L76, f_X5_enter_L141, e4, e5, e6, r3, i3, o4, o5, o6, t4, x_turn4, pJ0, pJ1, pJ2, pI3, pO9, pP0, pP1, pP2, Int64.sub_zero, Int64.add_zero, Int64.zero_mul, Int64.mul_one, i64_0, i64_1, xr0_7_0 F, xr0_7_1 F, xr0_7_2 F, xr0_7_3 F, xr0_7_4 F, xr0_7_5 F, xr0_7_6 F, xr0_7_7 F, xr0_7_8 F, xr0_7_9 F, xr3_4_0 F, xr3_4_1 F, xr3_4_2 F, xr3_4_3 F, xr3_4_4 F, xr3_4_5 F, xr3_4_6 F, xr3_4_7 F, xr3_4_8 F, xr3_4_9 F, xr3_4_10 F, xr3_4_11 F, xr3_4_12 F, xr3_4_13 F, xr3_4_14 F, xr3_4_15 F, xr3_4_16 F, xr3_4_17 F, xr3_4_18 F, xr4_6_0 F, xr4_6_1 F, xr4_6_2 F, xr4_6_7 F, xr5_6_0 F, xr5_6_1 F, xr5_6_2 F, xr5_6_7 F, xr6_6_0 F, xr6_6_1 F, xr6_6_2 F, xr6_6_7 F, xr7_6_0 F, xr7_6_1 F, xr7_6_2 F, xr7_6_7 F, xr10_0_0 F, xr10_0_1 F, xr10_0_2 F, xr10_0_3 F, xo0 F, xo3 F, xo4 F, xo5 F, xo6 F, xo7 F, xo10 F, xo9 F, xo11 F, xo12 F, xo13 F, xo14 F, xl1 F, xl2 F, xa1_0 F, Option.bind_some, Sum.elim_inl, Sum.elim_inr, reduceIte, reduceCtorEq, if_true, if_false]
theorem x_leave (F : XF z h) (t : Int32) {x y u : Int64} {c : Int32} : f_X5_leave (z + 9) (some (z + 3)) t (PT z x y u c h) = some ((), PT z x y u c h) := by
  have e4 : ∀ (x y u : Int64) (c : Int32), f_X6_at (z + 4) t (PT z x y u c h) = some (0, PT z x y u c h) := fun x y u c => x_at4 (XF_PT F) t
  have e5 : ∀ (x y u : Int64) (c : Int32), f_X6_at (z + 5) t (PT z x y u c h) = some (0, PT z x y u c h) := fun x y u c => x_at5 (XF_PT F) t
  have e6 : ∀ (x y u : Int64) (c : Int32), f_X6_at (z + 6) t (PT z x y u c h) = some (0, PT z x y u c h) := fun x y u c => x_at6 (XF_PT F) t
  have r3 : ∀ (x y u : Int64) (c : Int32) (ci k : Nat), fgR (PT z x y u c h) (some (z + 3)) ci k = fgR h (some (z + 3)) ci k := fun x y u c => fgR_F (pF (by decide))
  have i3 : ∀ (x y u : Int64) (c : Int32) (ci k : Nat), fgI (PT z x y u c h) (some (z + 3)) ci k = fgI h (some (z + 3)) ci k := fun x y u c => fgI_F (pF (by decide))
  have o4 : ∀ (x y u : Int64) (c : Int32) (ci : Nat), fobj (PT z x y u c h) (some (z + 4)) ci = fobj h (some (z + 4)) ci := fun x y u c => fobj_F (pF (by decide))
  have o5 : ∀ (x y u : Int64) (c : Int32) (ci : Nat), fobj (PT z x y u c h) (some (z + 5)) ci = fobj h (some (z + 5)) ci := fun x y u c => fobj_F (pF (by decide))
  have o6 : ∀ (x y u : Int64) (c : Int32) (ci : Nat), fobj (PT z x y u c h) (some (z + 6)) ci = fobj h (some (z + 6)) ci := fun x y u c => fobj_F (pF (by decide))
  have t0 : ∀ (x y u : Int64) (c : Int32), f_X5_turnQuarters (z + 9) 0 (PT z x y u c h) = some ((), PT z x y u c h) := fun x y u c => x_turn0 0
  simp +decide only [f_X5_leave, f_X5_leave_L0, f_X5_leave_L58, e4, e5, e6, r3, i3, o4, o5, o6, t0, pJ0, pJ1, pJ2, pI3, pO9, pP0, pP1, pP2, Int64.sub_zero, Int64.add_zero, Int64.zero_mul, Int64.mul_one, i64_0, i64_1, xr0_7_0 F, xr0_7_1 F, xr0_7_2 F, xr0_7_3 F, xr0_7_4 F, xr0_7_5 F, xr0_7_6 F, xr0_7_7 F, xr0_7_8 F, xr0_7_9 F, xr3_4_0 F, xr3_4_1 F, xr3_4_2 F, xr3_4_3 F, xr3_4_4 F, xr3_4_5 F, xr3_4_6 F, xr3_4_7 F, xr3_4_8 F, xr3_4_9 F, xr3_4_10 F, xr3_4_11 F, xr3_4_12 F, xr3_4_13 F, xr3_4_14 F, xr3_4_15 F, xr3_4_16 F, xr3_4_17 F, xr3_4_18 F, xr4_6_0 F, xr4_6_1 F, xr4_6_2 F, xr4_6_7 F, xr5_6_0 F, xr5_6_1 F, xr5_6_2 F, xr5_6_7 F, xr6_6_0 F, xr6_6_1 F, xr6_6_2 F, xr6_6_7 F, xr7_6_0 F, xr7_6_1 F, xr7_6_2 F, xr7_6_7 F, xr10_0_0 F, xr10_0_1 F, xr10_0_2 F, xr10_0_3 F, xo0 F, xo3 F, xo4 F, xo5 F, xo6 F, xo7 F, xo10 F, xo9 F, xo11 F, xo12 F, xo13 F, xo14 F, xl1 F, xl2 F, xa1_0 F, Option.bind_some, Sum.elim_inl, Sum.elim_inr, reduceIte, reduceCtorEq, if_true, if_false]
theorem x_sink (F : XF z h) (t : Int32) {x y u : Int64} {c : Int32} : f_X7_sink 8 (some (z + 9)) (some (z + 3)) t 0 (PT z x y u c h) = some ((), PT z x y u c h) := by
  simp +decide only [s0_X7_sink, f_X7_sink_L0, f_X7_sink_L24, x_enter F, xr3_4_14 (XF_PT F), pO9, Option.bind_some, Sum.elim_inl, Sum.elim_inr, reduceIte, reduceCtorEq, if_true, if_false]
theorem x_raise (F : XF z h) (a b : Int32) : f_X7_raise z (some (z + 3)) a b h = some ((), PT z a.toInt64 b.toInt64 1 0 h) := by
  simp +decide only [f_X7_raise, f_X7_raise_L0, sS_X7_raise_L15, sN_X7_raise_L15, x_set F, x_leave F, xr0_7_3 F, xo9 F, xr0_7_3 (XF_PT F), xr0_7_7 (XF_PT F), xr3_4_14 (XF_PT F), pO9, Option.bind_some, Sum.elim_inl, Sum.elim_inr, reduceIte, reduceCtorEq, if_true, if_false]
theorem i64_sub1 (x : Int64) : x - x / 1 * 1 = 0 := by
  rw [Int64.div_one, Int64.mul_one, Int64.sub_self]
theorem x_cd1 (x : Int64) : f_X7_commonDivisor x 1 h = some (1, h) := by
  have e : ∀ y : Int64, f_X7_commonDivisor_L31 4096 y 1 0 h = some (1, h) := fun y => by
    simp +decide only [s0_X7_commonDivisor_L31, s1_X7_commonDivisor_L31, i64_sub1, f_X7_commonDivisor_L67, f_X7_commonDivisor_L80, if_true, if_false, reduceIte]
  unfold f_X7_commonDivisor f_X7_commonDivisor_L0 f_X7_commonDivisor_L12 f_X7_commonDivisor_L26
  by_cases q : (0 : Int64) ≤ x
  · rw [if_pos q, if_pos (by decide), e]
  · rw [if_neg q, if_pos (by decide), e]
theorem x_cd0 : f_X7_commonDivisor 0 0 h = some (1, h) := by
  simp +decide only [f_X7_commonDivisor, f_X7_commonDivisor_L0, f_X7_commonDivisor_L12, f_X7_commonDivisor_L26, s0_X7_commonDivisor_L31, f_X7_commonDivisor_L67, f_X7_commonDivisor_L80, if_true, if_false, reduceIte]
/-- a part of the point (x, y) over 1 -/
def part1 (x y : Int64) (w : Int32) : Int64 := if w - w / 2 * 2 = 0 then (if 2 ≤ w then y else x) else 1
theorem x_part {x y : Int64} {c : Int32} (w : Int32) : f_X5_part (z + 9) w (PT z x y 1 c h) = some (part1 x y w, PT z x y 1 c h) := by
  unfold f_X5_part f_X5_part_L0 part1
  by_cases q : (2 : Int32) ≤ w
  · rw [if_pos q, if_pos q]
    simp +decide only [pJ1, f_X5_part_L16, f_X5_part_L41, pJ2, x_cd1, Option.bind_some, if_false, reduceIte, Int64.div_one]
    by_cases q2 : w - w / 2 * 2 = 0
    · rw [if_pos q2, if_pos q2]
    · rw [if_neg q2, if_neg q2]
  · rw [if_neg q, if_neg q]
    simp +decide only [pJ0, f_X5_part_L16, f_X5_part_L41, pJ2, x_cd1, Option.bind_some, if_false, reduceIte, Int64.div_one]
    by_cases q2 : w - w / 2 * 2 = 0
    · rw [if_pos q2, if_pos q2]
    · rw [if_neg q2, if_neg q2]
theorem x_fset {a : Nat} {x y : Int64} (e : fF h a = some (.inl (1, [.long x, .long y]))) : f_X1_set a 0 0 h = some ((), B0 h a) := by
  have p1 : fput h (some a) 1 0 (.long ((0 : Int64) / 1)) = some (fSet h a (.inl (1, [.long 0, .long y]))) := by
    exact fput_C e (Nat.le_of_ble_eq_true rfl)
  have p2 : fput (fSet h a (.inl (1, [.long 0, .long y]))) (some a) 1 1 (.long ((0 : Int64) / 1)) = some (B0 h a) := by
    rw [fput_C fF_set_eq (Nat.le_of_ble_eq_true rfl)]
    congr 1
    refine fSt_ext (fun b => ?_) rfl
    unfold B0
    by_cases q : b = a
    · subst q; rw [fF_set_eq, fF_set_eq]; rfl
    · rw [fF_set_ne q, fF_set_ne q, fF_set_ne q]
  have n1 : ¬ ((1 : Int64) = 0) := by decide
  simp only [f_X1_set, f_X1_set_L0, x_cd0, p1, p2, Option.bind_some, if_neg n1]
theorem x_clear (F : XF z h) : f_X0_clear (z + 10) h = some ((), BD z h) := by
  obtain ⟨f0, f1, f2, f3, f4, f5, f6, f7, f8, f9, ⟨x1, y1, f10⟩, ⟨x2, y2, f11⟩, ⟨x3, y3, f12⟩, ⟨x4, y4, f13⟩⟩ := id F
  have g1 : ∀ a, a ≠ z + 10 → ∀ (h : fSt) (ci k : Nat), fgR (B0 h a) (some (z + 10)) ci k = fgR h (some (z + 10)) ci k := fun a ha h => fgR_F (b0F (Ne.symm ha))
  have g2 : ∀ a b, b ≠ a → ∀ (h : fSt) (ci : Nat), fobj (B0 h a) (some b) ci = fobj h (some b) ci := fun a b ha h => fobj_F (b0F ha)
  have q2 : fF (B0 h (z + 11)) (z + 12) = some (.inl (1, [.long x2, .long y2])) := by rw [b0F (by omega)]; exact f11
  have q3 : fF (B0 (B0 h (z + 11)) (z + 12)) (z + 13) = some (.inl (1, [.long x3, .long y3])) := by rw [b0F (by omega), b0F (by omega)]; exact f12
  have q4 : fF (B0 (B0 (B0 h (z + 11)) (z + 12)) (z + 13)) (z + 14) = some (.inl (1, [.long x4, .long y4])) := by rw [b0F (by omega), b0F (by omega), b0F (by omega)]; exact f13
  unfold BD
  simp only [f_X0_clear, f_X0_clear_L0, xr10_0_0 F, xr10_0_1 F, xr10_0_2 F, xr10_0_3 F, xo11 F, xo12 F, xo13 F, xo14 F, x_fset f10, x_fset q2, x_fset q3, x_fset q4, Option.bind_some, g1 (z + 11) (by omega), g1 (z + 12) (by omega), g1 (z + 13) (by omega), g2 (z + 11) (z + 12) (by omega), g2 (z + 11) (z + 13) (by omega), g2 (z + 11) (z + 14) (by omega), g2 (z + 12) (z + 13) (by omega), g2 (z + 12) (z + 14) (by omega), g2 (z + 13) (z + 14) (by omega)]
theorem x_gather (F : XF z h) : f_X7_gatherBounds z (some (z + 3)) h = some ((), BD z h) := by
  simp +decide only [f_X7_gatherBounds, f_X7_gatherBounds_L0, x_clear F, xr0_7_4 F, xo10 F, xr0_7_8 (XF_BD F), sS_X7_gatherBounds_L12, sN_X7_gatherBounds_L12, f_X7_gatherBounds_L102, xr3_4_1 (XF_BD F), xr3_4_17 (XF_BD F), Option.bind_some, Sum.elim_inl, Sum.elim_inr, reduceIte, reduceCtorEq, if_true, if_false]
end CLS
