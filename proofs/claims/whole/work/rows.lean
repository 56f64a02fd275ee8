section
-- ===== PART A: goes FIRST, ahead of the names: the tables' words, and 'selects' of the private methods out of them =====
/-- a private method of a class that the tables say can be made, by its rows of tables_1 -/
def lw_okq (q : MethodName × Nat) : Prop := (q.1.cls ≠ "java/lang/invoke/MethodHandle" ∧ q.1.cls ≠ "java/lang/invoke/VarHandle") ∧ Cond.instantiable q.1.cls q.2 ∈ tables_1 ∧ Cond.privateMethod q.1 ∈ tables_1 ∧ Cond.instanceMethod q.1 ∈ tables_1
theorem lw_p0 : lw_okq (⟨"TapestryScene", "nodeOrNull", "(I)LTapestryScene$Node;"⟩, 10) := ⟨⟨by decide +kernel, by decide +kernel⟩, List.mem_of_getElem? (i := 19) (by decide +kernel), List.mem_of_getElem? (i := 298) (by decide +kernel), List.mem_of_getElem? (i := 299) (by decide +kernel)⟩
theorem lw_p1 : lw_okq (⟨"TapestryScene", "mixedWithNode", "(JLTapestryScene$Node;)J"⟩, 10) := ⟨⟨by decide +kernel, by decide +kernel⟩, List.mem_of_getElem? (i := 19) (by decide +kernel), List.mem_of_getElem? (i := 302) (by decide +kernel), List.mem_of_getElem? (i := 303) (by decide +kernel)⟩
theorem lw_p2 : lw_okq (⟨"TapestryScene$Property", "countedTime", "(I)I"⟩, 9) := ⟨⟨by decide +kernel, by decide +kernel⟩, List.mem_of_getElem? (i := 36) (by decide +kernel), List.mem_of_getElem? (i := 317) (by decide +kernel), List.mem_of_getElem? (i := 318) (by decide +kernel)⟩
theorem lw_p3 : lw_okq (⟨"TapestryScene$Property", "lastKeyUpTo", "(I)LTapestryScene$Key;"⟩, 9) := ⟨⟨by decide +kernel, by decide +kernel⟩, List.mem_of_getElem? (i := 36) (by decide +kernel), List.mem_of_getElem? (i := 321) (by decide +kernel), List.mem_of_getElem? (i := 322) (by decide +kernel)⟩
theorem lw_p4 : lw_okq (⟨"TapestryScene", "raise", "(LTapestryScene$Node;II)V"⟩, 10) := ⟨⟨by decide +kernel, by decide +kernel⟩, List.mem_of_getElem? (i := 19) (by decide +kernel), List.mem_of_getElem? (i := 335) (by decide +kernel), List.mem_of_getElem? (i := 336) (by decide +kernel)⟩
theorem lw_p5 : lw_okq (⟨"TapestryScene$Point", "turnQuarters", "(I)V"⟩, 4) := ⟨⟨by decide +kernel, by decide +kernel⟩, List.mem_of_getElem? (i := 177) (by decide +kernel), List.mem_of_getElem? (i := 348) (by decide +kernel), List.mem_of_getElem? (i := 349) (by decide +kernel)⟩
theorem lw_p6 : lw_okq (⟨"TapestryScene", "mixedWithPoint", "(J)J"⟩, 10) := ⟨⟨by decide +kernel, by decide +kernel⟩, List.mem_of_getElem? (i := 19) (by decide +kernel), List.mem_of_getElem? (i := 352) (by decide +kernel), List.mem_of_getElem? (i := 353) (by decide +kernel)⟩
theorem lw_p7 : lw_okq (⟨"TapestryScene", "gatherBounds", "(LTapestryScene$Node;)V"⟩, 10) := ⟨⟨by decide +kernel, by decide +kernel⟩, List.mem_of_getElem? (i := 19) (by decide +kernel), List.mem_of_getElem? (i := 375) (by decide +kernel), List.mem_of_getElem? (i := 376) (by decide +kernel)⟩
theorem lw_p8 : lw_okq (⟨"TapestryScene", "topAt", "(IIIILTapestryScene$Node;)I"⟩, 10) := ⟨⟨by decide +kernel, by decide +kernel⟩, List.mem_of_getElem? (i := 19) (by decide +kernel), List.mem_of_getElem? (i := 409) (by decide +kernel), List.mem_of_getElem? (i := 410) (by decide +kernel)⟩
theorem lw_p9 : lw_okq (⟨"TapestryScene", "coversAt", "(LTapestryScene$Node;IIII)Z"⟩, 10) := ⟨⟨by decide +kernel, by decide +kernel⟩, List.mem_of_getElem? (i := 19) (by decide +kernel), List.mem_of_getElem? (i := 413) (by decide +kernel), List.mem_of_getElem? (i := 414) (by decide +kernel)⟩
theorem lw_p10 : lw_okq (⟨"java/lang/Throwable", "fillInStackTrace", "(I)Ljava/lang/Throwable;"⟩, 6) := ⟨⟨by decide +kernel, by decide +kernel⟩, List.mem_of_getElem? (i := 474) (by decide +kernel), List.mem_of_getElem? (i := 472) (by decide +kernel), List.mem_of_getElem? (i := 473) (by decide +kernel)⟩
theorem lw_p11 : lw_okq (⟨"TapestryScene", "found", "(I)LTapestryScene$Node;"⟩, 10) := ⟨⟨by decide +kernel, by decide +kernel⟩, List.mem_of_getElem? (i := 19) (by decide +kernel), List.mem_of_getElem? (i := 523) (by decide +kernel), List.mem_of_getElem? (i := 524) (by decide +kernel)⟩
theorem lw_p12 : lw_okq (⟨"TapestryScene", "layOrder", "()V"⟩, 10) := ⟨⟨by decide +kernel, by decide +kernel⟩, List.mem_of_getElem? (i := 19) (by decide +kernel), List.mem_of_getElem? (i := 565) (by decide +kernel), List.mem_of_getElem? (i := 566) (by decide +kernel)⟩
theorem lw_p13 : lw_okq (⟨"TapestryScene", "lay", "(LTapestryScene$Node;I)V"⟩, 10) := ⟨⟨by decide +kernel, by decide +kernel⟩, List.mem_of_getElem? (i := 19) (by decide +kernel), List.mem_of_getElem? (i := 569) (by decide +kernel), List.mem_of_getElem? (i := 570) (by decide +kernel)⟩
theorem lw_p14 : lw_okq (⟨"TapestryScene", "layHanging", "(LTapestryScene$Node;III)V"⟩, 10) := ⟨⟨by decide +kernel, by decide +kernel⟩, List.mem_of_getElem? (i := 19) (by decide +kernel), List.mem_of_getElem? (i := 573) (by decide +kernel), List.mem_of_getElem? (i := 574) (by decide +kernel)⟩
theorem lw_p15 : lw_okq (⟨"TapestryScene", "foundBelowWhole", "(I)LTapestryScene$Node;"⟩, 10) := ⟨⟨by decide +kernel, by decide +kernel⟩, List.mem_of_getElem? (i := 19) (by decide +kernel), List.mem_of_getElem? (i := 584) (by decide +kernel), List.mem_of_getElem? (i := 585) (by decide +kernel)⟩
def lw_privs_1 : List (MethodName × Nat) := [(⟨"TapestryScene", "nodeOrNull", "(I)LTapestryScene$Node;"⟩, 10), (⟨"TapestryScene", "mixedWithNode", "(JLTapestryScene$Node;)J"⟩, 10), (⟨"TapestryScene$Property", "countedTime", "(I)I"⟩, 9), (⟨"TapestryScene$Property", "lastKeyUpTo", "(I)LTapestryScene$Key;"⟩, 9), (⟨"TapestryScene", "raise", "(LTapestryScene$Node;II)V"⟩, 10), (⟨"TapestryScene$Point", "turnQuarters", "(I)V"⟩, 4), (⟨"TapestryScene", "mixedWithPoint", "(J)J"⟩, 10), (⟨"TapestryScene", "gatherBounds", "(LTapestryScene$Node;)V"⟩, 10), (⟨"TapestryScene", "topAt", "(IIIILTapestryScene$Node;)I"⟩, 10), (⟨"TapestryScene", "coversAt", "(LTapestryScene$Node;IIII)Z"⟩, 10), (⟨"java/lang/Throwable", "fillInStackTrace", "(I)Ljava/lang/Throwable;"⟩, 6), (⟨"TapestryScene", "found", "(I)LTapestryScene$Node;"⟩, 10), (⟨"TapestryScene", "layOrder", "()V"⟩, 10), (⟨"TapestryScene", "lay", "(LTapestryScene$Node;I)V"⟩, 10), (⟨"TapestryScene", "layHanging", "(LTapestryScene$Node;III)V"⟩, 10), (⟨"TapestryScene", "foundBelowWhole", "(I)LTapestryScene$Node;"⟩, 10)]
theorem lw_r1 : ∀ q ∈ lw_privs_1, lw_okq q := List.forall_mem_cons.mpr ⟨lw_p0, List.forall_mem_cons.mpr ⟨lw_p1, List.forall_mem_cons.mpr ⟨lw_p2, List.forall_mem_cons.mpr ⟨lw_p3, List.forall_mem_cons.mpr ⟨lw_p4, List.forall_mem_cons.mpr ⟨lw_p5, List.forall_mem_cons.mpr ⟨lw_p6, List.forall_mem_cons.mpr ⟨lw_p7, List.forall_mem_cons.mpr ⟨lw_p8, List.forall_mem_cons.mpr ⟨lw_p9, List.forall_mem_cons.mpr ⟨lw_p10, List.forall_mem_cons.mpr ⟨lw_p11, List.forall_mem_cons.mpr ⟨lw_p12, List.forall_mem_cons.mpr ⟨lw_p13, List.forall_mem_cons.mpr ⟨lw_p14, List.forall_mem_cons.mpr ⟨lw_p15, fun _ h => absurd h List.not_mem_nil⟩⟩⟩⟩⟩⟩⟩⟩⟩⟩⟩⟩⟩⟩⟩⟩
theorem lw_p16 : lw_okq (⟨"TapestryScene", "depthUnder", "(LTapestryScene$Node;)I"⟩, 10) := ⟨⟨by decide +kernel, by decide +kernel⟩, List.mem_of_getElem? (i := 19) (by decide +kernel), List.mem_of_getElem? (i := 609) (by decide +kernel), List.mem_of_getElem? (i := 610) (by decide +kernel)⟩
theorem lw_p17 : lw_okq (⟨"TapestryScene", "foundTrack", "(I)LTapestryScene$Property;"⟩, 10) := ⟨⟨by decide +kernel, by decide +kernel⟩, List.mem_of_getElem? (i := 19) (by decide +kernel), List.mem_of_getElem? (i := 717) (by decide +kernel), List.mem_of_getElem? (i := 718) (by decide +kernel)⟩
theorem lw_p18 : lw_okq (⟨"TapestryScene", "isToldAnew", "(I)Z"⟩, 10) := ⟨⟨by decide +kernel, by decide +kernel⟩, List.mem_of_getElem? (i := 19) (by decide +kernel), List.mem_of_getElem? (i := 896) (by decide +kernel), List.mem_of_getElem? (i := 897) (by decide +kernel)⟩
theorem lw_p19 : lw_okq (⟨"TapestrySceneModel", "isNode", "(I)Z"⟩, 26) := ⟨⟨by decide +kernel, by decide +kernel⟩, List.mem_of_getElem? (i := 908) (by decide +kernel), List.mem_of_getElem? (i := 1003) (by decide +kernel), List.mem_of_getElem? (i := 1004) (by decide +kernel)⟩
theorem lw_p20 : lw_okq (⟨"TapestrySceneModel", "no", "(I)I"⟩, 26) := ⟨⟨by decide +kernel, by decide +kernel⟩, List.mem_of_getElem? (i := 908) (by decide +kernel), List.mem_of_getElem? (i := 1010) (by decide +kernel), List.mem_of_getElem? (i := 1011) (by decide +kernel)⟩
theorem lw_p21 : lw_okq (⟨"TapestrySceneModel", "levelNow", "(I)I"⟩, 26) := ⟨⟨by decide +kernel, by decide +kernel⟩, List.mem_of_getElem? (i := 908) (by decide +kernel), List.mem_of_getElem? (i := 1014) (by decide +kernel), List.mem_of_getElem? (i := 1015) (by decide +kernel)⟩
theorem lw_p22 : lw_okq (⟨"TapestrySceneModel", "isWithin", "(II)Z"⟩, 26) := ⟨⟨by decide +kernel, by decide +kernel⟩, List.mem_of_getElem? (i := 908) (by decide +kernel), List.mem_of_getElem? (i := 1022) (by decide +kernel), List.mem_of_getElem? (i := 1023) (by decide +kernel)⟩
theorem lw_p23 : lw_okq (⟨"TapestrySceneModel", "hanging", "(I)I"⟩, 26) := ⟨⟨by decide +kernel, by decide +kernel⟩, List.mem_of_getElem? (i := 908) (by decide +kernel), List.mem_of_getElem? (i := 1031) (by decide +kernel), List.mem_of_getElem? (i := 1032) (by decide +kernel)⟩
theorem lw_p24 : lw_okq (⟨"TapestrySceneModel", "refusal", "(IZ)I"⟩, 26) := ⟨⟨by decide +kernel, by decide +kernel⟩, List.mem_of_getElem? (i := 908) (by decide +kernel), List.mem_of_getElem? (i := 1039) (by decide +kernel), List.mem_of_getElem? (i := 1040) (by decide +kernel)⟩
theorem lw_p25 : lw_okq (⟨"TapestrySceneModel", "isNot", "(I)Z"⟩, 26) := ⟨⟨by decide +kernel, by decide +kernel⟩, List.mem_of_getElem? (i := 908) (by decide +kernel), List.mem_of_getElem? (i := 1066) (by decide +kernel), List.mem_of_getElem? (i := 1067) (by decide +kernel)⟩
theorem lw_p26 : lw_okq (⟨"TapestrySceneModel", "ok", "(I)I"⟩, 26) := ⟨⟨by decide +kernel, by decide +kernel⟩, List.mem_of_getElem? (i := 908) (by decide +kernel), List.mem_of_getElem? (i := 1074) (by decide +kernel), List.mem_of_getElem? (i := 1075) (by decide +kernel)⟩
theorem lw_p27 : lw_okq (⟨"TapestrySceneModel", "nodesNow", "()I"⟩, 26) := ⟨⟨by decide +kernel, by decide +kernel⟩, List.mem_of_getElem? (i := 908) (by decide +kernel), List.mem_of_getElem? (i := 1082) (by decide +kernel), List.mem_of_getElem? (i := 1083) (by decide +kernel)⟩
theorem lw_p28 : lw_okq (⟨"TapestrySceneModel", "trackOf", "(II)I"⟩, 26) := ⟨⟨by decide +kernel, by decide +kernel⟩, List.mem_of_getElem? (i := 908) (by decide +kernel), List.mem_of_getElem? (i := 1102) (by decide +kernel), List.mem_of_getElem? (i := 1103) (by decide +kernel)⟩
theorem lw_p29 : lw_okq (⟨"TapestrySceneModel", "isTrack", "(I)Z"⟩, 26) := ⟨⟨by decide +kernel, by decide +kernel⟩, List.mem_of_getElem? (i := 908) (by decide +kernel), List.mem_of_getElem? (i := 1110) (by decide +kernel), List.mem_of_getElem? (i := 1111) (by decide +kernel)⟩
theorem lw_p30 : lw_okq (⟨"TapestrySceneModel", "hasKey", "(II)Z"⟩, 26) := ⟨⟨by decide +kernel, by decide +kernel⟩, List.mem_of_getElem? (i := 908) (by decide +kernel), List.mem_of_getElem? (i := 1117) (by decide +kernel), List.mem_of_getElem? (i := 1118) (by decide +kernel)⟩
theorem lw_p31 : lw_okq (⟨"TapestrySceneModel", "keyPlace", "(II)I"⟩, 26) := ⟨⟨by decide +kernel, by decide +kernel⟩, List.mem_of_getElem? (i := 908) (by decide +kernel), List.mem_of_getElem? (i := 1121) (by decide +kernel), List.mem_of_getElem? (i := 1122) (by decide +kernel)⟩
def lw_privs_2 : List (MethodName × Nat) := [(⟨"TapestryScene", "depthUnder", "(LTapestryScene$Node;)I"⟩, 10), (⟨"TapestryScene", "foundTrack", "(I)LTapestryScene$Property;"⟩, 10), (⟨"TapestryScene", "isToldAnew", "(I)Z"⟩, 10), (⟨"TapestrySceneModel", "isNode", "(I)Z"⟩, 26), (⟨"TapestrySceneModel", "no", "(I)I"⟩, 26), (⟨"TapestrySceneModel", "levelNow", "(I)I"⟩, 26), (⟨"TapestrySceneModel", "isWithin", "(II)Z"⟩, 26), (⟨"TapestrySceneModel", "hanging", "(I)I"⟩, 26), (⟨"TapestrySceneModel", "refusal", "(IZ)I"⟩, 26), (⟨"TapestrySceneModel", "isNot", "(I)Z"⟩, 26), (⟨"TapestrySceneModel", "ok", "(I)I"⟩, 26), (⟨"TapestrySceneModel", "nodesNow", "()I"⟩, 26), (⟨"TapestrySceneModel", "trackOf", "(II)I"⟩, 26), (⟨"TapestrySceneModel", "isTrack", "(I)Z"⟩, 26), (⟨"TapestrySceneModel", "hasKey", "(II)Z"⟩, 26), (⟨"TapestrySceneModel", "keyPlace", "(II)I"⟩, 26)]
theorem lw_r2 : ∀ q ∈ lw_privs_2, lw_okq q := List.forall_mem_cons.mpr ⟨lw_p16, List.forall_mem_cons.mpr ⟨lw_p17, List.forall_mem_cons.mpr ⟨lw_p18, List.forall_mem_cons.mpr ⟨lw_p19, List.forall_mem_cons.mpr ⟨lw_p20, List.forall_mem_cons.mpr ⟨lw_p21, List.forall_mem_cons.mpr ⟨lw_p22, List.forall_mem_cons.mpr ⟨lw_p23, List.forall_mem_cons.mpr ⟨lw_p24, List.forall_mem_cons.mpr ⟨lw_p25, List.forall_mem_cons.mpr ⟨lw_p26, List.forall_mem_cons.mpr ⟨lw_p27, List.forall_mem_cons.mpr ⟨lw_p28, List.forall_mem_cons.mpr ⟨lw_p29, List.forall_mem_cons.mpr ⟨lw_p30, List.forall_mem_cons.mpr ⟨lw_p31, fun _ h => absurd h List.not_mem_nil⟩⟩⟩⟩⟩⟩⟩⟩⟩⟩⟩⟩⟩⟩⟩⟩
theorem lw_p32 : lw_okq (⟨"TapestrySceneModel", "has", "(II)I"⟩, 26) := ⟨⟨by decide +kernel, by decide +kernel⟩, List.mem_of_getElem? (i := 908) (by decide +kernel), List.mem_of_getElem? (i := 1141) (by decide +kernel), List.mem_of_getElem? (i := 1142) (by decide +kernel)⟩
theorem lw_p33 : lw_okq (⟨"TapestrySceneModel", "valueAt", "(III)I"⟩, 26) := ⟨⟨by decide +kernel, by decide +kernel⟩, List.mem_of_getElem? (i := 908) (by decide +kernel), List.mem_of_getElem? (i := 1145) (by decide +kernel), List.mem_of_getElem? (i := 1146) (by decide +kernel)⟩
theorem lw_p34 : lw_okq (⟨"TapestrySceneModel", "tells", "(II)I"⟩, 26) := ⟨⟨by decide +kernel, by decide +kernel⟩, List.mem_of_getElem? (i := 908) (by decide +kernel), List.mem_of_getElem? (i := 1149) (by decide +kernel), List.mem_of_getElem? (i := 1150) (by decide +kernel)⟩
theorem lw_p35 : lw_okq (⟨"TapestrySceneModel", "nextKeyNow", "()I"⟩, 26) := ⟨⟨by decide +kernel, by decide +kernel⟩, List.mem_of_getElem? (i := 908) (by decide +kernel), List.mem_of_getElem? (i := 1159) (by decide +kernel), List.mem_of_getElem? (i := 1160) (by decide +kernel)⟩
theorem lw_p36 : lw_okq (⟨"TapestrySceneModel", "asked", "(ZIII)I"⟩, 26) := ⟨⟨by decide +kernel, by decide +kernel⟩, List.mem_of_getElem? (i := 908) (by decide +kernel), List.mem_of_getElem? (i := 1167) (by decide +kernel), List.mem_of_getElem? (i := 1168) (by decide +kernel)⟩
theorem lw_p37 : lw_okq (⟨"TapestrySceneModel", "toWholeNow", "(IIII)I"⟩, 26) := ⟨⟨by decide +kernel, by decide +kernel⟩, List.mem_of_getElem? (i := 908) (by decide +kernel), List.mem_of_getElem? (i := 1171) (by decide +kernel), List.mem_of_getElem? (i := 1172) (by decide +kernel)⟩
theorem lw_p38 : lw_okq (⟨"TapestrySceneModel", "upAll", "(I[J)V"⟩, 26) := ⟨⟨by decide +kernel, by decide +kernel⟩, List.mem_of_getElem? (i := 908) (by decide +kernel), List.mem_of_getElem? (i := 1178) (by decide +kernel), List.mem_of_getElem? (i := 1179) (by decide +kernel)⟩
theorem lw_p39 : lw_okq (⟨"TapestrySceneModel", "up", "(I[J)V"⟩, 26) := ⟨⟨by decide +kernel, by decide +kernel⟩, List.mem_of_getElem? (i := 908) (by decide +kernel), List.mem_of_getElem? (i := 1182) (by decide +kernel), List.mem_of_getElem? (i := 1183) (by decide +kernel)⟩
theorem lw_p40 : lw_okq (⟨"TapestrySceneModel", "fromWholeNow", "(IIII)I"⟩, 26) := ⟨⟨by decide +kernel, by decide +kernel⟩, List.mem_of_getElem? (i := 908) (by decide +kernel), List.mem_of_getElem? (i := 1197) (by decide +kernel), List.mem_of_getElem? (i := 1198) (by decide +kernel)⟩
theorem lw_p41 : lw_okq (⟨"TapestrySceneModel", "downAll", "(I[J)V"⟩, 26) := ⟨⟨by decide +kernel, by decide +kernel⟩, List.mem_of_getElem? (i := 908) (by decide +kernel), List.mem_of_getElem? (i := 1201) (by decide +kernel), List.mem_of_getElem? (i := 1202) (by decide +kernel)⟩
theorem lw_p42 : lw_okq (⟨"TapestrySceneModel", "down", "(I[J)V"⟩, 26) := ⟨⟨by decide +kernel, by decide +kernel⟩, List.mem_of_getElem? (i := 908) (by decide +kernel), List.mem_of_getElem? (i := 1205) (by decide +kernel), List.mem_of_getElem? (i := 1206) (by decide +kernel)⟩
theorem lw_p43 : lw_okq (⟨"TapestrySceneModel", "boundNow", "(IIZ)I"⟩, 26) := ⟨⟨by decide +kernel, by decide +kernel⟩, List.mem_of_getElem? (i := 908) (by decide +kernel), List.mem_of_getElem? (i := 1217) (by decide +kernel), List.mem_of_getElem? (i := 1218) (by decide +kernel)⟩
theorem lw_p44 : lw_okq (⟨"TapestrySceneModel", "isShownNow", "(I)Z"⟩, 26) := ⟨⟨by decide +kernel, by decide +kernel⟩, List.mem_of_getElem? (i := 908) (by decide +kernel), List.mem_of_getElem? (i := 1221) (by decide +kernel), List.mem_of_getElem? (i := 1222) (by decide +kernel)⟩
theorem lw_p45 : lw_okq (⟨"TapestrySceneModel", "strengthNow", "(I)I"⟩, 26) := ⟨⟨by decide +kernel, by decide +kernel⟩, List.mem_of_getElem? (i := 908) (by decide +kernel), List.mem_of_getElem? (i := 1233) (by decide +kernel), List.mem_of_getElem? (i := 1234) (by decide +kernel)⟩
theorem lw_p46 : lw_okq (⟨"TapestrySceneModel", "ordered", "()[I"⟩, 26) := ⟨⟨by decide +kernel, by decide +kernel⟩, List.mem_of_getElem? (i := 908) (by decide +kernel), List.mem_of_getElem? (i := 1241) (by decide +kernel), List.mem_of_getElem? (i := 1242) (by decide +kernel)⟩
theorem lw_p47 : lw_okq (⟨"TapestrySceneModel", "order", "(I[II)I"⟩, 26) := ⟨⟨by decide +kernel, by decide +kernel⟩, List.mem_of_getElem? (i := 908) (by decide +kernel), List.mem_of_getElem? (i := 1245) (by decide +kernel), List.mem_of_getElem? (i := 1246) (by decide +kernel)⟩
def lw_privs_3 : List (MethodName × Nat) := [(⟨"TapestrySceneModel", "has", "(II)I"⟩, 26), (⟨"TapestrySceneModel", "valueAt", "(III)I"⟩, 26), (⟨"TapestrySceneModel", "tells", "(II)I"⟩, 26), (⟨"TapestrySceneModel", "nextKeyNow", "()I"⟩, 26), (⟨"TapestrySceneModel", "asked", "(ZIII)I"⟩, 26), (⟨"TapestrySceneModel", "toWholeNow", "(IIII)I"⟩, 26), (⟨"TapestrySceneModel", "upAll", "(I[J)V"⟩, 26), (⟨"TapestrySceneModel", "up", "(I[J)V"⟩, 26), (⟨"TapestrySceneModel", "fromWholeNow", "(IIII)I"⟩, 26), (⟨"TapestrySceneModel", "downAll", "(I[J)V"⟩, 26), (⟨"TapestrySceneModel", "down", "(I[J)V"⟩, 26), (⟨"TapestrySceneModel", "boundNow", "(IIZ)I"⟩, 26), (⟨"TapestrySceneModel", "isShownNow", "(I)Z"⟩, 26), (⟨"TapestrySceneModel", "strengthNow", "(I)I"⟩, 26), (⟨"TapestrySceneModel", "ordered", "()[I"⟩, 26), (⟨"TapestrySceneModel", "order", "(I[II)I"⟩, 26)]
theorem lw_r3 : ∀ q ∈ lw_privs_3, lw_okq q := List.forall_mem_cons.mpr ⟨lw_p32, List.forall_mem_cons.mpr ⟨lw_p33, List.forall_mem_cons.mpr ⟨lw_p34, List.forall_mem_cons.mpr ⟨lw_p35, List.forall_mem_cons.mpr ⟨lw_p36, List.forall_mem_cons.mpr ⟨lw_p37, List.forall_mem_cons.mpr ⟨lw_p38, List.forall_mem_cons.mpr ⟨lw_p39, List.forall_mem_cons.mpr ⟨lw_p40, List.forall_mem_cons.mpr ⟨lw_p41, List.forall_mem_cons.mpr ⟨lw_p42, List.forall_mem_cons.mpr ⟨lw_p43, List.forall_mem_cons.mpr ⟨lw_p44, List.forall_mem_cons.mpr ⟨lw_p45, List.forall_mem_cons.mpr ⟨lw_p46, List.forall_mem_cons.mpr ⟨lw_p47, fun _ h => absurd h List.not_mem_nil⟩⟩⟩⟩⟩⟩⟩⟩⟩⟩⟩⟩⟩⟩⟩⟩
theorem lw_p48 : lw_okq (⟨"TapestrySceneModel", "isAhead", "(II)Z"⟩, 26) := ⟨⟨by decide +kernel, by decide +kernel⟩, List.mem_of_getElem? (i := 908) (by decide +kernel), List.mem_of_getElem? (i := 1249) (by decide +kernel), List.mem_of_getElem? (i := 1250) (by decide +kernel)⟩
theorem lw_p49 : lw_okq (⟨"TapestrySceneModel", "coversNow", "(IIII)Z"⟩, 26) := ⟨⟨by decide +kernel, by decide +kernel⟩, List.mem_of_getElem? (i := 908) (by decide +kernel), List.mem_of_getElem? (i := 1267) (by decide +kernel), List.mem_of_getElem? (i := 1268) (by decide +kernel)⟩
theorem lw_p50 : lw_okq (⟨"TapestrySceneModel", "pickNow", "(III)I"⟩, 26) := ⟨⟨by decide +kernel, by decide +kernel⟩, List.mem_of_getElem? (i := 908) (by decide +kernel), List.mem_of_getElem? (i := 1275) (by decide +kernel), List.mem_of_getElem? (i := 1276) (by decide +kernel)⟩
theorem lw_p51 : lw_okq (⟨"TapestrySceneModel", "changesNow", "(II)I"⟩, 26) := ⟨⟨by decide +kernel, by decide +kernel⟩, List.mem_of_getElem? (i := 908) (by decide +kernel), List.mem_of_getElem? (i := 1291) (by decide +kernel), List.mem_of_getElem? (i := 1292) (by decide +kernel)⟩
theorem lw_p52 : lw_okq (⟨"TapestrySceneModel", "isOther", "(III)Z"⟩, 26) := ⟨⟨by decide +kernel, by decide +kernel⟩, List.mem_of_getElem? (i := 908) (by decide +kernel), List.mem_of_getElem? (i := 1295) (by decide +kernel), List.mem_of_getElem? (i := 1296) (by decide +kernel)⟩
def lw_privs_4 : List (MethodName × Nat) := [(⟨"TapestrySceneModel", "isAhead", "(II)Z"⟩, 26), (⟨"TapestrySceneModel", "coversNow", "(IIII)Z"⟩, 26), (⟨"TapestrySceneModel", "pickNow", "(III)I"⟩, 26), (⟨"TapestrySceneModel", "changesNow", "(II)I"⟩, 26), (⟨"TapestrySceneModel", "isOther", "(III)Z"⟩, 26)]
theorem lw_r4 : ∀ q ∈ lw_privs_4, lw_okq q := List.forall_mem_cons.mpr ⟨lw_p48, List.forall_mem_cons.mpr ⟨lw_p49, List.forall_mem_cons.mpr ⟨lw_p50, List.forall_mem_cons.mpr ⟨lw_p51, List.forall_mem_cons.mpr ⟨lw_p52, fun _ h => absurd h List.not_mem_nil⟩⟩⟩⟩⟩
def lw_privs : List (MethodName × Nat) := lw_privs_1 ++ (lw_privs_2 ++ (lw_privs_3 ++ (lw_privs_4)))
def lw_tbl : List Cond := k2_sels lw_privs ++ tables_1
theorem lw_privs_ok : ∀ q ∈ lw_privs, lw_okq q := by
  show ∀ q ∈ lw_privs_1 ++ (lw_privs_2 ++ (lw_privs_3 ++ (lw_privs_4))), lw_okq q
  exact List.forall_mem_append.mpr ⟨lw_r1, List.forall_mem_append.mpr ⟨lw_r2, List.forall_mem_append.mpr ⟨lw_r3, lw_r4⟩⟩⟩
/-- the streams that the claim lets the run draw from -/
abbrev lw_cs : List Choice := [Jvm.Choice.named "NaN.bits"]
theorem lw_bits : nanBits ∈ lw_cs := by first | decide | exact List.mem_cons_self | simp [lw_cs, nanBits]
-- ===== end of PART A; then your names; then what follows =====
end
section
/-! ===== BEGIN words of one list among another's, by their places ===== -/
theorem goodIn_r {big : List Cond} (ws : List Cond) (ps : List Nat) (hp : ws = ps.filterMap (fun i => big[i]?)) (h : ws.all goodWord = true) : GoodIn big ws := by
  intro w hw
  have h1 := List.all_eq_true.mp h w hw
  rw [hp] at hw
  obtain ⟨i, -, hi⟩ := List.mem_filterMap.mp hw
  have hm : w ∈ big := by first | exact List.mem_of_getElem? hi | exact List.getElem?_mem hi
  exact ⟨hm, good_of_word h1⟩
theorem goodIn_app {big a b : List Cond} (ha : GoodIn big a) (hb : GoodIn big b) : GoodIn big (a ++ b) := fun w h => (List.mem_append.mp h).elim (ha w) (hb w)
theorem goodIn_ca {big a b : List Cond} {c : Cond} (ha : GoodIn big (c :: a)) (hb : GoodIn big b) : GoodIn big (c :: (a ++ b)) := fun w h => (List.mem_cons.mp h).elim (fun e => ha w (List.mem_cons.mpr (Or.inl e))) (fun h => (List.mem_append.mp h).elim (fun h => ha w (List.mem_cons.mpr (Or.inr h))) (hb w))
theorem goodIn_sub {big ws : List Cond} (hm : ∀ w ∈ ws, w ∈ big) (h : ws.all goodWord = true) : GoodIn big ws := fun w hw => ⟨hm w hw, good_of_word (List.all_eq_true.mp h w hw)⟩
/-! ===== END ===== -/

/-! ===== BEGIN exceptions that leave a method, and their catching by the caller (launches without stack traces) ===== -/
section VXA
/-! The laws vx_back, vx_callV, vx_callS, vx_callSW, vx_throw0, vx_throwS follow proofs of the library, with one case more: JvmDerived/Free/Laws.lean (Back.of_free), Shelf42/LK1.lean (callV, callS), Shelf/KitTraced.lean (throwNew0V, throwNewS). -/
/-- where a method has thrown q: the class by its name, the cell, what was written, the world -/
def vx_T (XC : String → State → State → Prop) (st : State) (q : Addr) (t : State) (mc ms : Nat) (free : Addr → Prop) : Prop :=
  ∃ (E : String) (ce : Cell) (L : List Loc), XC E st t ∧ t.heap[q]? = some ce ∧ ce.vm = .none ∧ st.vm.findClass E = some ce.cls ∧ st.WarmedH t.vm ∧ st.sameButNew ({ t with vm := st.vm } : State) L mc ms ∧ ∀ z ∈ L, free z.base
def vx_Q (Qc : Array Value → State → Outcome → State → Prop) (XC : String → State → State → Prop) (mc ms : Nat) (free : Addr → Prop) : Array Value → State → Outcome → State → Prop := fun a st o t =>
  (Qc a st o t ∧ ∃ L, FrameEnd st o t L mc ms ∧ ∀ q ∈ L, free q.base) ∨ ∃ q, o = .threw q ∧ vx_T XC st q t mc ms free
/-- a callee that returns or throws -/
def vx_Met (l : Launch) (y : MethodName) (ws : List Cond) (rm : Room) (Pc : Array Value → State → Prop) (Qc : Array Value → State → Outcome → State → Prop) (XC : String → State → State → Prop) (mc ms : Nat) (free : Addr → Prop) : Prop :=
  MetFree l y (headSpec ws rm) Pc (fun _ _ _ _ _ => True) (vx_Q Qc XC mc ms free)
def vx_Post (XC : String → State → State → Prop) (mc ms : Nat) (free : Addr → Prop) : Pt → Array Value → Addr → Pt → Prop := fun A a q B =>
  ∃ (g : JFrame) (mk : MethodId) (t : State) (L : List Loc) (E : String) (ce : Cell), B.U.heap = t.heap ∧ B.U.vm = t.vm ∧ XC E (A.U.calling g mk a) t ∧ t.heap[q]? = some ce ∧ ce.vm = .none ∧ A.U.vm.findClass E = some ce.cls ∧ B.locs = A.locs ++ L ∧ (∀ z ∈ L, free z.base) ∧ B.cells = A.cells + mc ∧ B.slots = A.slots + ms
def vx_Back (l : Launch) (R : Room) (p : Program) (e : Env) (below : List Frame) (s : State) (sargs : Array Value) (y : MethodName) (len W9 : Nat)
    (Pre : Pt → Array Value → Prop) (Post : Pt → Array Value → Option Value → Pt → Prop) (PostX : Pt → Array Value → Addr → Pt → Prop) : Prop :=
  ∀ (m : MethodId) (meth : Method) (c : Code) (A : Pt) (g : JFrame) (ig : Instr) (mk : MethodId) (a : Array Value),
    Stand p l e R s m sargs below meth c A.U A.locs A.cells A.slots → g.method = m → g.locals.size = c.maxLocals → decode c.code g.pc = .ok (ig, len) →
    2 * g.monitorRoom + (g.stack.map fun v => v.category).sum ≤ W9 → A.U.methodNamed? y = some mk → Pre A a →
    (∃ (v : Option Value) (B : Pt), Stand p l e R s m sargs below meth c B.U B.locs B.cells B.slots ∧ Post A a v B ∧
      Steps p.tables e below (doInvoke e (A.U.setTop g) [] mk a).1 (B.U.setTop { g with pc := g.pc + len, stack := v.toList ++ g.stack })) ∨
    (∃ (q : Addr) (B : Pt), Stand p l e R s m sargs below meth c B.U B.locs B.cells B.slots ∧ PostX A a q B ∧
      Steps p.tables e below (doInvoke e (A.U.setTop g) [] mk a).1 ((B.U.setTop g).pushFrame (.throwing q)))
section Payer
variable {l : Launch} {R : Room} {p : Program} {e : Env} {below : List Frame} {s : State} {sargs : Array Value} {y : MethodName} {len W9 : Nat}
theorem vx_back {ws : List Cond} {rm : Room} {Pc : Array Value → State → Prop} {Qc : Array Value → State → Outcome → State → Prop} {XC : String → State → State → Prop} {mc ms : Nat} {free : Addr → Prop} {bytes : ByteArray} {maxL : Nat} {ret : Option FieldType}
    (hM : vx_Met l y ws rm Pc Qc XC mc ms free) (hblind : FrameBlind Pc) (hrc : rm.cells = mc) (hrs : rm.slots = ms)
    (hframes : rm.frames + 1 ≤ R.frames) (hlocals : W9 + (maxL + 11) + rm.locals ≤ R.locals)
    (hws : ∀ w ∈ ws, ∀ a' U, s.WarmedH U.vm → w.before a' U = true) (hcode : Cond.code y bytes maxL ret ∈ ws) (hinit : ∀ a' U, s.WarmedH U.vm → (Cond.initialized y.cls).before a' U = true) :
    vx_Back l R p e below s sargs y len W9 (PreOf R mc ms Pc) (PostOf Qc mc ms free) (vx_Post XC mc ms free) := by
  intro m meth c A g ig mk a X hg hsize hdg hW hn hp
  have h1 : (headSpec ws rm).pre.before a A.U = true := atoms_intro fun w hw => hws w hw _ _ X.warmed
  have h2 : (Cond.code y bytes maxL ret).before a A.U = true := hws _ hcode _ _ X.warmed
  have h3 : (Cond.initialized y.cls).before a A.U = true := hinit _ _ X.warmed
  have h4 : A.cells + (headSpec ws rm).room.cells ≤ R.cells := by rw [show (headSpec ws rm).room.cells = mc from hrc]; exact hp.1
  have h5 : A.slots + (headSpec ws rm).room.slots ≤ R.slots := by rw [show (headSpec ws rm).room.slots = ms from hrs]; exact hp.2.1
  have hPc : Pc a (A.U.calling g mk a) := hblind _ _ _ _ hp.2.2
  obtain ⟨U, Ls, c0, s0⟩ := A
  dsimp only [Pt.U, Pt.locs, Pt.cells, Pt.slots] at h1 h2 h3 h4 h5 X hn hPc ⊢
  obtain ⟨methY, cY, hmY, hcY, -, hlY, -, -, -, -⟩ := Cond.code_spec hn h2
  obtain ⟨kY, hkY, -⟩ := className_of_methodNamed hn
  have hinitY : kY.init = .initialized := Cond.initialized_spec (findClass_of_methodNamed hn) hkY h3
  have h : At U g.method c below := by rw [hg]; exact X.here
  have hlocals9 : W9 + (maxL + 11) + (headSpec ws rm).room.locals ≤ R.locals := hlocals
  have happ : (headSpec ws rm).appliesLoose y e.platform (U.calling g mk a) = true :=
    Spec.appliesLoose_calling (g := g) h hdg hn hkY hinitY
      (X.room_calling (g := g) (R' := (headSpec ws rm).room) hsize hmY hcY hframes (by rw [hlY]; omega) h4 h5) h1
  obtain ⟨mid, hmid⟩ := h.above
  have hfr : (U.setTop g).frames = (.java g :: mid) ++ below := by rw [State.frames_setTop' g h.top, hmid]; rfl
  obtain ⟨o, s₂, hsteps, -, hend, hq⟩ := Steps.callFree hM p X.admits X.cas X.clock (acts := []) hfr happ hPc trivial
  have hq' : vx_Q Qc XC mc ms free a (U.calling g mk a) o s₂ := hq
  rw [State.frames_setTop' g h.top] at hend
  obtain ⟨g₀, hg0⟩ := Option.isSome_iff_exists.mp h.top
  obtain ⟨r, hr⟩ := State.topJava?_eq_some.mp hg0
  have hr' : (({ U with heap := s₂.heap, slotsUsed := s₂.slotsUsed } : State).setVm s₂.vm).frames = .java g₀ :: r := hr
  rcases hq' with ⟨hqc, L, hfe, hL⟩ | ⟨q, rfl, E, ce, L, hx, hce, hcv, hcl, hW₂, hsm, hL⟩
  · obtain ⟨⟨v, rfl⟩, hW₂, e2, q2, q3, q4, q5, q6⟩ := id hfe
    have e3 : s₂ = ({ (U.calling g mk a).setFrames s₂.frames with heap := s₂.heap, slotsUsed := s₂.slotsUsed } : State).setVm s₂.vm := by
      have : s₂ = ({ s₂ with vm := (U.calling g mk a).vm } : State).setVm s₂.vm := rfl
      rw [e2] at this
      exact this
    obtain ⟨c₂, i₂, len₂, hc₂, hd₂, hf₂⟩ := hend
    have hW' : U.WarmedH s₂.vm := hW₂
    have hcc : c₂ = c := by
      have h1 : s₂.code? g.method = U.code? g.method := by
        rw [State.code?_eq, State.code?_eq, hW'.alike.method?]
      exact Option.some.inj (hc₂.symm.trans (h1.trans h.code))
    subst hcc
    have hlen : len₂ = len := by rw [hdg] at hd₂; cases hd₂; rfl
    subst hlen
    have hs₂ : s₂ = (({ U with heap := s₂.heap, slotsUsed := s₂.slotsUsed } : State).setVm s₂.vm).setTop { g with pc := g.pc + len₂, stack := v.toList ++ g.stack } := by
      refine e3.trans ?_
      rw [hf₂, State.calling_eq h.top, State.setFrames_setFrames, State.setTop_of_frames _ hr', hr]
      rfl
    have hsame : U.sameButNew ({ U with heap := s₂.heap, slotsUsed := s₂.slotsUsed } : State) L mc ms := by
      refine ⟨?_, q2, q3, q4, q5, q6⟩
      obtain ⟨t, ht, -⟩ := State.frames_cons hr
      show ({ U with heap := s₂.heap, slotsUsed := s₂.slotsUsed } : State) = { U.setFrames U.frames with heap := s₂.heap, slotsUsed := s₂.slotsUsed }
      rw [State.setFrames_self ht]
    subst hg
    refine Or.inl ⟨v, ⟨(({ U with heap := s₂.heap, slotsUsed := s₂.slotsUsed } : State).setVm s₂.vm), Ls ++ L, c0 + mc, s0 + ms⟩,
      ⟨X.admits, X.cas, X.clock, X.frames, X.room, X.hears, X.method, X.code, (X.here.setHeapUsed s₂.heap s₂.slotsUsed).setVm hW'.alike, X.tail, State.WarmedH.trans X.warmed hW', X.limits, X.bytes, X.same.trans (hsame.setVm s.vm)⟩,
      ⟨g, mk, s₂, L, rfl, rfl, hqc, rfl, hL, rfl, rfl⟩, ?_⟩
    show Steps p.tables e below _ ((({ U with heap := s₂.heap, slotsUsed := s₂.slotsUsed } : State).setVm s₂.vm).setTop { g with pc := g.pc + len₂, stack := v.toList ++ g.stack })
    rw [← hs₂]
    exact hsteps
  · obtain ⟨e2, q2, q3, q4, q5, q6⟩ := id hsm
    have e3 : s₂ = ({ (U.calling g mk a).setFrames s₂.frames with heap := s₂.heap, slotsUsed := s₂.slotsUsed } : State).setVm s₂.vm := by
      have : s₂ = ({ s₂ with vm := (U.calling g mk a).vm } : State).setVm s₂.vm := rfl
      rw [e2] at this
      exact this
    have hf₂ : s₂.frames = .throwing q :: .java g :: U.frames.tail := hend
    have hW' : U.WarmedH s₂.vm := hW₂
    have hs₂ : s₂ = ((({ U with heap := s₂.heap, slotsUsed := s₂.slotsUsed } : State).setVm s₂.vm).setTop g).pushFrame (.throwing q) := by
      refine e3.trans ?_
      rw [hf₂, State.calling_eq h.top, State.setFrames_setFrames, State.pushFrame, State.frames_setTop _ hr', State.setTop_of_frames _ hr', State.setFrames_setFrames, hr]
      rfl
    have hsame : U.sameButNew ({ U with heap := s₂.heap, slotsUsed := s₂.slotsUsed } : State) L mc ms := by
      refine ⟨?_, q2, q3, q4, q5, q6⟩
      obtain ⟨t, ht, -⟩ := State.frames_cons hr
      show ({ U with heap := s₂.heap, slotsUsed := s₂.slotsUsed } : State) = { U.setFrames U.frames with heap := s₂.heap, slotsUsed := s₂.slotsUsed }
      rw [State.setFrames_self ht]
    subst hg
    refine Or.inr ⟨q, ⟨(({ U with heap := s₂.heap, slotsUsed := s₂.slotsUsed } : State).setVm s₂.vm), Ls ++ L, c0 + mc, s0 + ms⟩,
      ⟨X.admits, X.cas, X.clock, X.frames, X.room, X.hears, X.method, X.code, (X.here.setHeapUsed s₂.heap s₂.slotsUsed).setVm hW'.alike, X.tail, State.WarmedH.trans X.warmed hW', X.limits, X.bytes, X.same.trans (hsame.setVm s.vm)⟩,
      ⟨g, mk, s₂, L, E, ce, rfl, rfl, hx, hce, hcv, hcl, rfl, hL, rfl, rfl⟩, ?_⟩
    show Steps p.tables e below _ (((({ U with heap := s₂.heap, slotsUsed := s₂.slotsUsed } : State).setVm s₂.vm).setTop g).pushFrame (.throwing q))
    rw [← hs₂]
    exact hsteps
end Payer
section Calls
variable {p : Program} {l : Launch} {e : Env} {R : Room} {s : State} {m : MethodId} {args : Array Value} {below : List Frame} {meth : Method} {c : Code} {T : State} {locs : List Loc} {cells slots : Nat}
theorem vx_callV (X : Stand p l e R s m args below meth c T locs cells slots) (hexec : p.tables.exec = Jvm.exec) {own C : String} {index : Nat} {y : MethodName} {bytes : ByteArray} {maxL : Nat} {ret : Option FieldType}
    (hown : s.vm.findClass own = some m.cls) (hlink : (Cond.methodLink own index y).before args s = true) (hinst : (Cond.instanceMethod y).before args s = true) (hsel : (Cond.selects C y y).before args s = true)
    (hcode : (Cond.code y bytes maxL ret).before args s = true) (hy : y.cls ≠ "java/lang/invoke/MethodHandle" ∧ y.cls ≠ "java/lang/invoke/VarHandle")
    {W9 : Nat} {Pre : Pt → Array Value → Prop} {Post : Pt → Array Value → Option Value → Pt → Prop} {PostX : Pt → Array Value → Addr → Pt → Prop} (hK : vx_Back l R p e below s args y 3 W9 Pre Post PostX)
    {b : Addr} {cellB : Cell} (hcell : T.heap[b]? = some cellB) (hobj : cellB.vm.isStatics = false) (hcls : s.vm.findClass C = some cellB.cls)
    {g : JFrame} (hg : g.method = m) (hsize : g.locals.size = c.maxLocals) {argsL rest : List Value} (hlen : ∀ sig, parseMethodDescriptor y.desc = some sig → argsL.length = sig.parameters.length)
    (hstack : g.stack = argsL.reverse ++ .ref b :: rest) (hW : 2 * g.monitorRoom + (rest.map fun v => v.category).sum ≤ W9) (hdg : decode c.code g.pc = .ok (.invokevirtual index, 3))
    (hpre : ∀ vm₁, s.WarmedH vm₁ → Pre ⟨T.setVm vm₁, locs, cells, slots⟩ (Value.ref b :: argsL).toArray) :
    (∃ (v : Option Value) (vm₁ : Vm) (B : Pt), s.WarmedH vm₁ ∧ Stand p l e R s m args below meth c B.U B.locs B.cells B.slots ∧ Post ⟨T.setVm vm₁, locs, cells, slots⟩ (Value.ref b :: argsL).toArray v B ∧
      ∀ target, Steps p.tables e below (B.U.setTop { g with pc := g.pc + 3, stack := v.toList ++ rest }) target → Steps p.tables e below (T.setTop g) target) ∨
    (∃ (q : Addr) (vm₁ : Vm) (B : Pt), s.WarmedH vm₁ ∧ Stand p l e R s m args below meth c B.U B.locs B.cells B.slots ∧ PostX ⟨T.setVm vm₁, locs, cells, slots⟩ (Value.ref b :: argsL).toArray q B ∧
      Steps p.tables e below (T.setTop g) ((B.U.setTop { g with stack := rest }).pushFrame (.throwing q))) := by
  obtain ⟨mk, methM, hnamed, hmethM, hstM, habM⟩ := Cond.instanceMethod_spec hinst
  obtain ⟨methM', cM, hmethM', -, -, -, -, -, -, hsigM⟩ := Cond.code_spec hnamed hcode
  cases hmethM.symm.trans hmethM'
  obtain ⟨c2, r2, m2, q1, q2, q3, q4, kP, hkP, hkPi⟩ := Cond.selects_spec hsel
  cases hcls.symm.trans q1
  cases (State.methodFound?_of_named hnamed hy).symm.trans q2
  cases hnamed.symm.trans q3
  have hselP : selectMethod e.platform s.vm cellB.cls mk = .method mk := by rw [Launch.admits_selectMethod X.admits]; exact q4
  obtain ⟨vm₁, X₁, hstep₁⟩ := X.invokevirtual hexec hown hlink hnamed hmethM hstM hkP hkPi hy (a := b) (cell := cellB) hcell
    (fun z h => by rw [h] at hobj; cases hobj) hselP hmethM habM hkP hkPi (g := g) hg (argsL := argsL) (rest := rest) (hlen _ hsigM) hstack hdg
  rcases hK m meth c ⟨T.setVm vm₁, locs, cells, slots⟩ { g with stack := rest } (.invokevirtual index) mk (Value.ref b :: argsL).toArray X₁ hg hsize hdg hW (X₁.named hnamed) (hpre vm₁ X₁.warmed) with ⟨v, B, X', hpost, hsteps⟩ | ⟨q, B, X', hpost, hsteps⟩
  · exact Or.inl ⟨v, vm₁, B, X₁.warmed, X', hpost, fun target h => hstep₁ _ fun acts => by rw [doInvoke_state]; exact hsteps.trans h⟩
  · exact Or.inr ⟨q, vm₁, B, X₁.warmed, X', hpost, hstep₁ _ fun acts => by rw [doInvoke_state]; exact hsteps⟩
theorem vx_callS (X : Stand p l e R s m args below meth c T locs cells slots) (hexec : p.tables.exec = Jvm.exec) {own : String} {index : Nat} {y : MethodName} {bytes : ByteArray} {maxL : Nat} {ret : Option FieldType}
    (hown : s.vm.findClass own = some m.cls) (hlink : (Cond.methodLink own index y).before args s = true) (hstat : (Cond.static y).before args s = true) (hinit : (Cond.initialized y.cls).before args s = true)
    (hcode : (Cond.code y bytes maxL ret).before args s = true) (hy : y.cls ≠ "java/lang/invoke/MethodHandle" ∧ y.cls ≠ "java/lang/invoke/VarHandle")
    {W9 : Nat} {Pre : Pt → Array Value → Prop} {Post : Pt → Array Value → Option Value → Pt → Prop} {PostX : Pt → Array Value → Addr → Pt → Prop} (hK : vx_Back l R p e below s args y 3 W9 Pre Post PostX)
    {g : JFrame} (hg : g.method = m) (hsize : g.locals.size = c.maxLocals) {argsL rest : List Value} (hlen : ∀ sig, parseMethodDescriptor y.desc = some sig → argsL.length = sig.parameters.length)
    (hstack : g.stack = argsL.reverse ++ rest) (hW : 2 * g.monitorRoom + (rest.map fun v => v.category).sum ≤ W9) (hdg : decode c.code g.pc = .ok (.invokestatic index, 3))
    (hpre : ∀ vm₁, s.WarmedH vm₁ → Pre ⟨T.setVm vm₁, locs, cells, slots⟩ argsL.toArray) :
    (∃ (v : Option Value) (vm₁ : Vm) (B : Pt), s.WarmedH vm₁ ∧ Stand p l e R s m args below meth c B.U B.locs B.cells B.slots ∧ Post ⟨T.setVm vm₁, locs, cells, slots⟩ argsL.toArray v B ∧
      ∀ target, Steps p.tables e below (B.U.setTop { g with pc := g.pc + 3, stack := v.toList ++ rest }) target → Steps p.tables e below (T.setTop g) target) ∨
    (∃ (q : Addr) (vm₁ : Vm) (B : Pt), s.WarmedH vm₁ ∧ Stand p l e R s m args below meth c B.U B.locs B.cells B.slots ∧ PostX ⟨T.setVm vm₁, locs, cells, slots⟩ argsL.toArray q B ∧
      Steps p.tables e below (T.setTop g) ((B.U.setTop { g with stack := rest }).pushFrame (.throwing q))) := by
  obtain ⟨mk, hnamed⟩ := Cond.code_named hcode
  obtain ⟨methM, cM, hmethM, -, -, -, -, -, -, hsigM⟩ := Cond.code_spec hnamed hcode
  have hstatic : methM.isStatic = true := Cond.static_spec hnamed hmethM hstat
  obtain ⟨kP, hkP, -⟩ := className_of_methodNamed hnamed
  have hinitP : kP.init = .initialized := Cond.initialized_spec (findClass_of_methodNamed hnamed) hkP hinit
  obtain ⟨vm₁, X₁, hstep₁⟩ := X.invokestatic hexec hown hlink hnamed hmethM hstatic hkP hinitP hy (g := g) hg (argsL := argsL) (rest := rest) (hlen _ hsigM) hstack hdg
  rcases hK m meth c ⟨T.setVm vm₁, locs, cells, slots⟩ { g with stack := rest } (.invokestatic index) mk argsL.toArray X₁ hg hsize hdg hW (X₁.named hnamed) (hpre vm₁ X₁.warmed) with ⟨v, B, X', hpost, hsteps⟩ | ⟨q, B, X', hpost, hsteps⟩
  · exact Or.inl ⟨v, vm₁, B, X₁.warmed, X', hpost, fun target h => hstep₁ _ fun acts => by rw [doInvoke_state]; exact hsteps.trans h⟩
  · exact Or.inr ⟨q, vm₁, B, X₁.warmed, X', hpost, hstep₁ _ fun acts => by rw [doInvoke_state]; exact hsteps⟩
end Calls
theorem vx_cls {s : State} {T : State} {vm₁ : Vm} {E : String} {k : ClassId} (hW : s.WarmedH vm₁) (h : (T.setVm vm₁).vm.findClass E = some k) : s.vm.findClass E = some k := by
  have h1 : vm₁.findClass E = some k := h
  rw [hW.alike.findClass] at h1
  exact h1
/-- the method's frame g, with q thrown over it -/
def vx_W (p : Program) (l : Launch) (e : Env) (R : Room) (s : State) (m : MethodId) (args : Array Value) (below : List Frame) (meth : Method) (c : Code) (H : Heap) (locs : List Loc) (cells slots : Nat) (Q : State → Prop) (g : JFrame) (q : Addr) : Prop :=
  ∀ T : State, T.heap = H → Stand p l e R s m args below meth c T locs cells slots → ∃ t, Steps p.tables e below ((T.setTop g).pushFrame (.throwing q)) t ∧ Q t
def vx_Run (p : Program) (l : Launch) (e : Env) (R : Room) (s : State) (m : MethodId) (args : Array Value) (below : List Frame) (meth : Method) (c : Code) (H : Heap) (locs : List Loc) (cells slots mc ms : Nat) (g : JFrame) (rest : List Value) (Qa : State → Outcome → State → Prop) (XC : String → State → State → Prop) (free : Addr → Prop) : Prop :=
  ∀ T : State, T.heap = H → Stand p l e R s m args below meth c T locs cells slots →
    (∃ (v : Option Value) (st₀ t T' : State) (L : List Loc), st₀.heap = H ∧ Stand p l e R s m args below meth c T' (locs ++ L) (cells + mc) (slots + ms) ∧ (∀ q ∈ L, free q.base) ∧ T'.heap = t.heap ∧ T'.vm = t.vm ∧ Qa st₀ (.returned v) t ∧
      Goes p e below T g T' { g with pc := g.pc + 3, stack := v.toList ++ rest }) ∨
    (∃ (q : Addr) (st₀ t T' : State) (L : List Loc) (E : String) (ce : Cell), st₀.heap = H ∧ Stand p l e R s m args below meth c T' (locs ++ L) (cells + mc) (slots + ms) ∧ (∀ z ∈ L, free z.base) ∧ T'.heap = t.heap ∧ T'.vm = t.vm ∧ XC E st₀ t ∧ t.heap[q]? = some ce ∧ ce.vm = .none ∧ s.vm.findClass E = some ce.cls ∧
      Steps p.tables e below (T.setTop g) ((T'.setTop { g with stack := rest }).pushFrame (.throwing q)))
def vx_X {S : Type} (px : S → Prop) (B : String → S → State → Prop) (A : Nat → Prop) : String → State → State → Prop := fun E st t => ∃ u : S, px u ∧ B E u t ∧ va_F A st t
section Runs
variable {p : Program} {l : Launch} {e : Env} {R : Room} {s : State} {m : MethodId} {args : Array Value} {below : List Frame} {meth : Method} {c : Code} {H : Heap} {locs : List Loc} {cells slots : Nat}
variable {y : MethodName} {bytes cc : ByteArray} {maxL nL mc ms n index : Nat} {ret : Option FieldType} {ws : List Cond} {rm : Room} {Pc : Array Value → State → Prop} {Qc : Array Value → State → Outcome → State → Prop} {XC : String → State → State → Prop} {free : Addr → Prop} {Ts : List Cond} {own C : String} {b : Addr} {As rest : List Value} {g : JFrame}
theorem vx_callBack (cb : CallB R s args own index y bytes maxL ret ws rm mc ms n) (hM : vx_Met l y ws rm Pc Qc XC mc ms free) (hbl : FrameBlind Pc) : vx_Back l R p e below s args y 3 8 (PreOf R mc ms Pc) (PostOf Qc mc ms free) (vx_Post XC mc ms free) := by
  obtain ⟨hrc, hrs, hfr, hlo, hws, hcw, -, hini, -⟩ := cb
  exact vx_back (bytes := bytes) (maxL := maxL) (ret := ret) hM hbl hrc hrs hfr hlo hws hcw (fun a' U hW => word_at hW (Or.inl (by first | rfl | simp [Cond.onTables, Cond.keeps, Cond.steady])) hini)
theorem vx_runV (S : CallFix p m c cc nL s args Ts own) (hM : vx_Met l y ws rm Pc Qc XC mc ms free) (cw : CallW R s args own C index y bytes maxL ret ws rm mc ms n) (hp : PreV s H C b Pc As)
    (hg : g.method = m) (hn : As.length = n) (hsize : g.locals.size = nL) (hstack : g.stack = As.reverse ++ .ref b :: rest) (hW : 2 * g.monitorRoom + (rest.map fun v => v.category).sum ≤ 8) (hdg : decode cc g.pc = .ok (.invokevirtual index, 3)) (hf : cells + mc ≤ R.cells ∧ slots + ms ≤ R.slots) :
    vx_Run p l e R s m args below meth c H locs cells slots mc ms g rest (Qc (Value.ref b :: As).toArray) XC free := by
  have hK : vx_Back l R p e below s args y 3 8 (PreOf R mc ms Pc) (PostOf Qc mc ms free) (vx_Post XC mc ms free) := vx_callBack cw.1 hM hp.1
  obtain ⟨⟨-, -, -, -, -, -, hcode, -, hy, hlen, hl⟩, hin, hse⟩ := cw
  obtain ⟨hx, hb, hml, ho, -⟩ := S
  obtain ⟨-, ⟨cellB, hcB, hoB, hclB⟩, hPc⟩ := hp
  intro T hT X
  rcases vx_callV X hx (C := C) (bytes := bytes) (maxL := maxL) (ret := ret) ho hl hin hse hcode hy hK (by rw [hT]; exact hcB) hoB hclB hg (hsize.trans hml.symm) (argsL := As) (rest := rest) (fun sig h => hn.trans (hlen sig h)) hstack hW (by rw [hb]; exact hdg)
    (fun vm₁ hW₁ => ⟨hf.1, hf.2, hPc (T.setVm vm₁) hT hW₁⟩) with ⟨v, vm₁, ⟨U', l2, c2, s2⟩, hW₁, X', ⟨g', mk, t, L, e1, e2, hq, h1, hL, h2, h3⟩, st⟩ | ⟨q, vm₁, ⟨U', l2, c2, s2⟩, hW₁, X', ⟨g', mk, t, L, E, ce, e1, e2, hq, hce, hcv, hcl, h1, hL, h2, h3⟩, st⟩
  · dsimp only [Pt.U, Pt.locs, Pt.cells, Pt.slots] at X' e1 e2 h1 h2 h3 st
    subst h1; subst h2; subst h3
    exact Or.inl ⟨v, (T.setVm vm₁).calling g' mk (Value.ref b :: As).toArray, t, U', L, hT, X', hL, e1, e2, hq, st⟩
  · dsimp only [Pt.U, Pt.locs, Pt.cells, Pt.slots] at X' e1 e2 h1 h2 h3 st hcl
    subst h1; subst h2; subst h3
    exact Or.inr ⟨q, (T.setVm vm₁).calling g' mk (Value.ref b :: As).toArray, t, U', L, E, ce, hT, X', hL, e1, e2, hq, hce, hcv, vx_cls hW₁ hcl, st⟩
theorem vx_runS (S : CallFix p m c cc nL s args Ts own) (hM : vx_Met l y ws rm Pc Qc XC mc ms free) (cw : CallB R s args own index y bytes maxL ret ws rm mc ms n ∧ (Cond.static y).before args s = true) (hp : PreS s H Pc As)
    (hg : g.method = m) (hn : As.length = n) (hsize : g.locals.size = nL) (hstack : g.stack = As.reverse ++ rest) (hW : 2 * g.monitorRoom + (rest.map fun v => v.category).sum ≤ 8) (hdg : decode cc g.pc = .ok (.invokestatic index, 3)) (hf : cells + mc ≤ R.cells ∧ slots + ms ≤ R.slots) :
    vx_Run p l e R s m args below meth c H locs cells slots mc ms g rest (Qc As.toArray) XC free := by
  have hK : vx_Back l R p e below s args y 3 8 (PreOf R mc ms Pc) (PostOf Qc mc ms free) (vx_Post XC mc ms free) := vx_callBack cw.1 hM hp.1
  obtain ⟨⟨-, -, -, -, -, -, hcode, hini, hy, hlen, hl⟩, hstt⟩ := cw
  obtain ⟨hx, hb, hml, ho, -⟩ := S
  intro T hT X
  rcases vx_callS X hx (bytes := bytes) (maxL := maxL) (ret := ret) ho hl hstt hini hcode hy hK hg (hsize.trans hml.symm) (argsL := As) (rest := rest) (fun sig h => hn.trans (hlen sig h)) hstack hW (by rw [hb]; exact hdg)
    (fun vm₁ hW₁ => ⟨hf.1, hf.2, hp.2 (T.setVm vm₁) hT hW₁⟩) with ⟨v, vm₁, ⟨U', l2, c2, s2⟩, hW₁, X', ⟨g', mk, t, L, e1, e2, hq, h1, hL, h2, h3⟩, st⟩ | ⟨q, vm₁, ⟨U', l2, c2, s2⟩, hW₁, X', ⟨g', mk, t, L, E, ce, e1, e2, hq, hce, hcv, hcl, h1, hL, h2, h3⟩, st⟩
  · dsimp only [Pt.U, Pt.locs, Pt.cells, Pt.slots] at X' e1 e2 h1 h2 h3 st
    subst h1; subst h2; subst h3
    exact Or.inl ⟨v, (T.setVm vm₁).calling g' mk As.toArray, t, U', L, hT, X', hL, e1, e2, hq, st⟩
  · dsimp only [Pt.U, Pt.locs, Pt.cells, Pt.slots] at X' e1 e2 h1 h2 h3 st hcl
    subst h1; subst h2; subst h3
    exact Or.inr ⟨q, (T.setVm vm₁).calling g' mk As.toArray, t, U', L, E, ce, hT, X', hL, e1, e2, hq, hce, hcv, vx_cls hW₁ hcl, st⟩
end Runs
section Rows
variable {p : Program} {l : Launch} {e : Env} {R : Room} {s : State} {m : MethodId} {args : Array Value} {below : List Frame} {meth : Method} {c : Code} {H : Heap} {locs : List Loc} {cells slots : Nat} {Q : State → Prop}
variable {mc ms : Nat} {free : Addr → Prop} {A0 A1 : Nat → Prop} {H0 : Heap} {a : Array Value} {pc : Nat} {ls : Array Slot} {st0 rest : List Value}
theorem vx_keep {st₀ t T' : State} {L : List Loc} (h0 : st₀.heap = H) (e1 : T'.heap = t.heap) (hS : va_S A0 H0 H locs) (hA : ∀ q, q < H.size → A1 q → A0 q) (hf : ∀ q, free q → A0 q) (hL : ∀ q ∈ L, free q.base) (hF : va_F A1 st₀ t) :
    H.size ≤ T'.heap.size ∧ (∀ q : Nat, q < H.size → ¬ A1 q → T'.heap[q]? = H[q]?) ∧ va_S A0 H0 T'.heap (locs ++ L) := by
  obtain ⟨hz, hk⟩ := hF
  rw [h0] at hz hk
  exact ⟨by rw [e1]; exact hz, fun q h1 h2 => by rw [e1]; exact hk q h1 h2,
    ⟨Nat.le_trans hS.1 (by rw [e1]; exact hz), fun q h1 h2 => by rw [e1, hk q (Nat.lt_of_lt_of_le h1 hS.1) (fun z => h2 (hA q (Nat.lt_of_lt_of_le h1 hS.1) z))]; exact hS.2.1 q h1 h2, fun q hq => by
      rcases List.mem_append.mp hq with h | h
      · exact hS.2.2 q h
      · exact hf _ (hL q h)⟩⟩
theorem vx_calli {S SX : Type} {post : Int32 → S → Prop} {px : SX → Prop} {B : S → State → Prop} {BX : String → SX → State → Prop} {AX : Nat → Prop} (hr : vx_Run p l e R s m args below meth c H locs cells slots mc ms (F0 m pc ls st0) rest (va_Qi post B A1 a) (vx_X px BX AX) free) (hS : va_S A0 H0 H locs) (hA : ∀ q, q < H.size → A1 q → A0 q) (hf : ∀ q, free q → A0 q) (hAX : ∀ q, q < H.size → AX q → A0 q)
    (kx : ∀ (E : String) (ce : Cell) (q9 : Addr) (u : SX) (t : State) (H1 : Heap) (locs1 : List Loc), t.heap = H1 → s.vm.Alike t.vm → px u → BX E u t → H.size ≤ H1.size → (∀ q : Nat, q < H.size → ¬ AX q → H1[q]? = H[q]?) → va_S A0 H0 H1 locs1 → H1[q9]? = some ce → ce.vm = .none → s.vm.findClass E = some ce.cls → vx_W p l e R s m args below meth c H1 locs1 (cells + mc) (slots + ms) Q (F0 m pc ls rest) q9)
    (kk : ∀ (r : Int32) (u : S) (t : State) (H1 : Heap) (locs1 : List Loc), t.heap = H1 → s.vm.Alike t.vm → post r u → B u t → H.size ≤ H1.size → (∀ q : Nat, q < H.size → ¬ A1 q → H1[q]? = H[q]?) → va_S A0 H0 H1 locs1 → W p l e R s m args below meth c H1 locs1 (cells + mc) (slots + ms) Q (F0 m (pc + 3) ls (.int r :: rest))) : W p l e R s m args below meth c H locs cells slots Q (F0 m pc ls st0) := by
  intro T hT X
  rcases hr T hT X with ⟨v, st₀, t, T', L, h0, X', hL, e1, e2, ⟨⟨r, u, hv, hp, hb⟩, hF⟩, st⟩ | ⟨q, st₀, t, T', L, E, ce, h0, X', hL, e1, e2, ⟨u, hp, hb, hF⟩, hce, hcv, hcl, st⟩
  · cases hv
    obtain ⟨k1, k2, k3⟩ := vx_keep h0 e1 hS hA hf hL hF
    obtain ⟨t2, a1, b1⟩ := kk r u t T'.heap (locs ++ L) e1.symm (by rw [← e2]; exact X'.warmed.alike) hp hb k1 k2 k3 T' rfl X'
    exact ⟨t2, st t2 a1, b1⟩
  · obtain ⟨k1, k2, k3⟩ := vx_keep h0 e1 hS hAX hf hL hF
    obtain ⟨t2, a1, b1⟩ := kx E ce q u t T'.heap (locs ++ L) e1.symm (by rw [← e2]; exact X'.warmed.alike) hp hb k1 k2 k3 (by rw [e1]; exact hce) hcv hcl T' rfl X'
    exact ⟨t2, st.trans a1, b1⟩
theorem vx_calll {S SX : Type} {post : Int64 → S → Prop} {px : SX → Prop} {B : S → State → Prop} {BX : String → SX → State → Prop} {AX : Nat → Prop} (hr : vx_Run p l e R s m args below meth c H locs cells slots mc ms (F0 m pc ls st0) rest (va_Ql post B A1 a) (vx_X px BX AX) free) (hS : va_S A0 H0 H locs) (hA : ∀ q, q < H.size → A1 q → A0 q) (hf : ∀ q, free q → A0 q) (hAX : ∀ q, q < H.size → AX q → A0 q)
    (kx : ∀ (E : String) (ce : Cell) (q9 : Addr) (u : SX) (t : State) (H1 : Heap) (locs1 : List Loc), t.heap = H1 → s.vm.Alike t.vm → px u → BX E u t → H.size ≤ H1.size → (∀ q : Nat, q < H.size → ¬ AX q → H1[q]? = H[q]?) → va_S A0 H0 H1 locs1 → H1[q9]? = some ce → ce.vm = .none → s.vm.findClass E = some ce.cls → vx_W p l e R s m args below meth c H1 locs1 (cells + mc) (slots + ms) Q (F0 m pc ls rest) q9)
    (kk : ∀ (r : Int64) (u : S) (t : State) (H1 : Heap) (locs1 : List Loc), t.heap = H1 → s.vm.Alike t.vm → post r u → B u t → H.size ≤ H1.size → (∀ q : Nat, q < H.size → ¬ A1 q → H1[q]? = H[q]?) → va_S A0 H0 H1 locs1 → W p l e R s m args below meth c H1 locs1 (cells + mc) (slots + ms) Q (F0 m (pc + 3) ls (.long r :: rest))) : W p l e R s m args below meth c H locs cells slots Q (F0 m pc ls st0) := by
  intro T hT X
  rcases hr T hT X with ⟨v, st₀, t, T', L, h0, X', hL, e1, e2, ⟨⟨r, u, hv, hp, hb⟩, hF⟩, st⟩ | ⟨q, st₀, t, T', L, E, ce, h0, X', hL, e1, e2, ⟨u, hp, hb, hF⟩, hce, hcv, hcl, st⟩
  · cases hv
    obtain ⟨k1, k2, k3⟩ := vx_keep h0 e1 hS hA hf hL hF
    obtain ⟨t2, a1, b1⟩ := kk r u t T'.heap (locs ++ L) e1.symm (by rw [← e2]; exact X'.warmed.alike) hp hb k1 k2 k3 T' rfl X'
    exact ⟨t2, st t2 a1, b1⟩
  · obtain ⟨k1, k2, k3⟩ := vx_keep h0 e1 hS hAX hf hL hF
    obtain ⟨t2, a1, b1⟩ := kx E ce q u t T'.heap (locs ++ L) e1.symm (by rw [← e2]; exact X'.warmed.alike) hp hb k1 k2 k3 (by rw [e1]; exact hce) hcv hcl T' rfl X'
    exact ⟨t2, st.trans a1, b1⟩
theorem vx_callf {S SX : Type} {post : UInt32 → S → Prop} {px : SX → Prop} {B : S → State → Prop} {BX : String → SX → State → Prop} {AX : Nat → Prop} (hr : vx_Run p l e R s m args below meth c H locs cells slots mc ms (F0 m pc ls st0) rest (va_Qf post B A1 a) (vx_X px BX AX) free) (hS : va_S A0 H0 H locs) (hA : ∀ q, q < H.size → A1 q → A0 q) (hf : ∀ q, free q → A0 q) (hAX : ∀ q, q < H.size → AX q → A0 q)
    (kx : ∀ (E : String) (ce : Cell) (q9 : Addr) (u : SX) (t : State) (H1 : Heap) (locs1 : List Loc), t.heap = H1 → s.vm.Alike t.vm → px u → BX E u t → H.size ≤ H1.size → (∀ q : Nat, q < H.size → ¬ AX q → H1[q]? = H[q]?) → va_S A0 H0 H1 locs1 → H1[q9]? = some ce → ce.vm = .none → s.vm.findClass E = some ce.cls → vx_W p l e R s m args below meth c H1 locs1 (cells + mc) (slots + ms) Q (F0 m pc ls rest) q9)
    (kk : ∀ (r : UInt32) (u : S) (t : State) (H1 : Heap) (locs1 : List Loc), t.heap = H1 → s.vm.Alike t.vm → post r u → B u t → H.size ≤ H1.size → (∀ q : Nat, q < H.size → ¬ A1 q → H1[q]? = H[q]?) → va_S A0 H0 H1 locs1 → W p l e R s m args below meth c H1 locs1 (cells + mc) (slots + ms) Q (F0 m (pc + 3) ls (.float r :: rest))) : W p l e R s m args below meth c H locs cells slots Q (F0 m pc ls st0) := by
  intro T hT X
  rcases hr T hT X with ⟨v, st₀, t, T', L, h0, X', hL, e1, e2, ⟨⟨r, u, hv, hp, hb⟩, hF⟩, st⟩ | ⟨q, st₀, t, T', L, E, ce, h0, X', hL, e1, e2, ⟨u, hp, hb, hF⟩, hce, hcv, hcl, st⟩
  · cases hv
    obtain ⟨k1, k2, k3⟩ := vx_keep h0 e1 hS hA hf hL hF
    obtain ⟨t2, a1, b1⟩ := kk r u t T'.heap (locs ++ L) e1.symm (by rw [← e2]; exact X'.warmed.alike) hp hb k1 k2 k3 T' rfl X'
    exact ⟨t2, st t2 a1, b1⟩
  · obtain ⟨k1, k2, k3⟩ := vx_keep h0 e1 hS hAX hf hL hF
    obtain ⟨t2, a1, b1⟩ := kx E ce q u t T'.heap (locs ++ L) e1.symm (by rw [← e2]; exact X'.warmed.alike) hp hb k1 k2 k3 (by rw [e1]; exact hce) hcv hcl T' rfl X'
    exact ⟨t2, st.trans a1, b1⟩
theorem vx_calld {S SX : Type} {post : UInt64 → S → Prop} {px : SX → Prop} {B : S → State → Prop} {BX : String → SX → State → Prop} {AX : Nat → Prop} (hr : vx_Run p l e R s m args below meth c H locs cells slots mc ms (F0 m pc ls st0) rest (va_Qd post B A1 a) (vx_X px BX AX) free) (hS : va_S A0 H0 H locs) (hA : ∀ q, q < H.size → A1 q → A0 q) (hf : ∀ q, free q → A0 q) (hAX : ∀ q, q < H.size → AX q → A0 q)
    (kx : ∀ (E : String) (ce : Cell) (q9 : Addr) (u : SX) (t : State) (H1 : Heap) (locs1 : List Loc), t.heap = H1 → s.vm.Alike t.vm → px u → BX E u t → H.size ≤ H1.size → (∀ q : Nat, q < H.size → ¬ AX q → H1[q]? = H[q]?) → va_S A0 H0 H1 locs1 → H1[q9]? = some ce → ce.vm = .none → s.vm.findClass E = some ce.cls → vx_W p l e R s m args below meth c H1 locs1 (cells + mc) (slots + ms) Q (F0 m pc ls rest) q9)
    (kk : ∀ (r : UInt64) (u : S) (t : State) (H1 : Heap) (locs1 : List Loc), t.heap = H1 → s.vm.Alike t.vm → post r u → B u t → H.size ≤ H1.size → (∀ q : Nat, q < H.size → ¬ A1 q → H1[q]? = H[q]?) → va_S A0 H0 H1 locs1 → W p l e R s m args below meth c H1 locs1 (cells + mc) (slots + ms) Q (F0 m (pc + 3) ls (.double r :: rest))) : W p l e R s m args below meth c H locs cells slots Q (F0 m pc ls st0) := by
  intro T hT X
  rcases hr T hT X with ⟨v, st₀, t, T', L, h0, X', hL, e1, e2, ⟨⟨r, u, hv, hp, hb⟩, hF⟩, st⟩ | ⟨q, st₀, t, T', L, E, ce, h0, X', hL, e1, e2, ⟨u, hp, hb, hF⟩, hce, hcv, hcl, st⟩
  · cases hv
    obtain ⟨k1, k2, k3⟩ := vx_keep h0 e1 hS hA hf hL hF
    obtain ⟨t2, a1, b1⟩ := kk r u t T'.heap (locs ++ L) e1.symm (by rw [← e2]; exact X'.warmed.alike) hp hb k1 k2 k3 T' rfl X'
    exact ⟨t2, st t2 a1, b1⟩
  · obtain ⟨k1, k2, k3⟩ := vx_keep h0 e1 hS hAX hf hL hF
    obtain ⟨t2, a1, b1⟩ := kx E ce q u t T'.heap (locs ++ L) e1.symm (by rw [← e2]; exact X'.warmed.alike) hp hb k1 k2 k3 (by rw [e1]; exact hce) hcv hcl T' rfl X'
    exact ⟨t2, st.trans a1, b1⟩
theorem vx_callv {S SX : Type} {post : S → Prop} {px : SX → Prop} {B : S → State → Prop} {BX : String → SX → State → Prop} {AX : Nat → Prop} (hr : vx_Run p l e R s m args below meth c H locs cells slots mc ms (F0 m pc ls st0) rest (va_Qv post B A1 a) (vx_X px BX AX) free) (hS : va_S A0 H0 H locs) (hA : ∀ q, q < H.size → A1 q → A0 q) (hf : ∀ q, free q → A0 q) (hAX : ∀ q, q < H.size → AX q → A0 q)
    (kx : ∀ (E : String) (ce : Cell) (q9 : Addr) (u : SX) (t : State) (H1 : Heap) (locs1 : List Loc), t.heap = H1 → s.vm.Alike t.vm → px u → BX E u t → H.size ≤ H1.size → (∀ q : Nat, q < H.size → ¬ AX q → H1[q]? = H[q]?) → va_S A0 H0 H1 locs1 → H1[q9]? = some ce → ce.vm = .none → s.vm.findClass E = some ce.cls → vx_W p l e R s m args below meth c H1 locs1 (cells + mc) (slots + ms) Q (F0 m pc ls rest) q9)
    (kk : ∀ (u : S) (t : State) (H1 : Heap) (locs1 : List Loc), t.heap = H1 → s.vm.Alike t.vm → post u → B u t → H.size ≤ H1.size → (∀ q : Nat, q < H.size → ¬ A1 q → H1[q]? = H[q]?) → va_S A0 H0 H1 locs1 → W p l e R s m args below meth c H1 locs1 (cells + mc) (slots + ms) Q (F0 m (pc + 3) ls (rest))) : W p l e R s m args below meth c H locs cells slots Q (F0 m pc ls st0) := by
  intro T hT X
  rcases hr T hT X with ⟨v, st₀, t, T', L, h0, X', hL, e1, e2, ⟨⟨u, hv, hp, hb⟩, hF⟩, st⟩ | ⟨q, st₀, t, T', L, E, ce, h0, X', hL, e1, e2, ⟨u, hp, hb, hF⟩, hce, hcv, hcl, st⟩
  · cases hv
    obtain ⟨k1, k2, k3⟩ := vx_keep h0 e1 hS hA hf hL hF
    obtain ⟨t2, a1, b1⟩ := kk u t T'.heap (locs ++ L) e1.symm (by rw [← e2]; exact X'.warmed.alike) hp hb k1 k2 k3 T' rfl X'
    exact ⟨t2, st t2 a1, b1⟩
  · obtain ⟨k1, k2, k3⟩ := vx_keep h0 e1 hS hAX hf hL hF
    obtain ⟨t2, a1, b1⟩ := kx E ce q u t T'.heap (locs ++ L) e1.symm (by rw [← e2]; exact X'.warmed.alike) hp hb k1 k2 k3 (by rw [e1]; exact hce) hcv hcl T' rfl X'
    exact ⟨t2, st.trans a1, b1⟩
/-- caught by the row x of this method's table; the rows ahead don't take it -/
theorem vx_catch {own name : String} {E : String} {ce : Cell} {q : Addr} (hown : s.vm.findClass own = some m.cls) (pre : List ExceptionTableEntry) (x : ExceptionTableEntry) (suf : List ExceptionTableEntry) (hsplit : c.exceptionTable.toList = pre ++ x :: suf)
    (hpass : ∀ z ∈ pre, covers z pc = false ∨ (z.catchType ≠ 0 ∧ ∃ nm : String, (Cond.classLink own z.catchType nm).before args s = true ∧ va_Nc E nm s)) (hx : covers x pc = true) (h0 : x.catchType ≠ 0)
    (hlink : (Cond.classLink own x.catchType name).before args s = true) (hcast : (Cond.castable E name).before args s = true) (hcell : H[q]? = some ce) (hv : ce.vm = .none) (hcl : s.vm.findClass E = some ce.cls)
    (kk : W p l e R s m args below meth c H locs cells slots Q (F0 m x.handlerPc ls [.ref q])) : vx_W p l e R s m args below meth c H locs cells slots Q (F0 m pc ls rest) q := by
  intro T hT X
  have hpl : e.platform.magicAccessors = ({} : Platform).magicAccessors := by rw [X.admits.platform]
  obtain ⟨c3, c4, hc3, hc4, hasg⟩ := Cond.castable_spec hcast
  cases Option.some.inj (hc3.symm.trans hcl)
  obtain ⟨c5, hc5, hcl5⟩ := Cond.classLink_spec hown hlink e.platform hpl
  cases Option.some.inj (hc4.symm.trans hc5)
  obtain ⟨vm', X', st⟩ := X.thenCaughtThrough q (g := F0 m pc ls rest) rfl (Steps.refl _) (by rw [hT]; exact hcell) (by rw [hv]; rfl) (by obtain ⟨k9, h9, -⟩ := Vm.findClass_spec hcl; exact ⟨k9, h9⟩) pre x suf hsplit
    (fun z hz => by
      rcases hpass z hz with h | ⟨hz0, nm, hl1, hn1⟩
      · exact Or.inl h
      · obtain ⟨c6, hc6, hcl6⟩ := Cond.classLink_spec hown hl1 e.platform hpl
        obtain ⟨a8, b8, h1, h2, h3⟩ := hn1
        cases Option.some.inj (h1.symm.trans hcl)
        cases Option.some.inj (h2.symm.trans hc6)
        exact Or.inr ⟨hz0, _, hcl6, h3⟩) hx (Or.inr ⟨h0, c4, hcl5, hasg⟩)
  obtain ⟨t, a1, b1⟩ := kk (T.setVm vm') hT X'
  exact ⟨t, st.trans a1, b1⟩
end Rows
section Ends
variable {p : Program} {l : Launch} {e : Env} {R : Room} {s : State} {m : MethodId} {args : Array Value} {below : List Frame} {meth : Method} {c : Code} {H : Heap} {locs : List Loc} {cells slots : Nat} {Q : State → Prop}
variable {mc ms : Nat} {free : Addr → Prop} {A0 A1 : Nat → Prop} {H0 : Heap} {a : Array Value} {ls : Array Slot} {st0 rest : List Value}
variable {Qc : Array Value → State → Outcome → State → Prop} {XC : String → State → State → Prop}
/-- what a body that may throw owes at its end -/
def vx_MQ (below : List Frame) (Qc : Array Value → State → Outcome → State → Prop) (XC : String → State → State → Prop) (a : Array Value) (s : State) (mc ms : Nat) (free : Addr → Prop) : State → Prop := fun t =>
  ∃ o, t.status = .running ∧ Ended t below o ∧ vx_Q Qc XC mc ms free a s o t
theorem vx_ret {g : JFrame} {mc ms : Nat} (k : W p l e R s m args below meth c H locs cells slots (MQ below Qc args s mc ms free) g) : W p l e R s m args below meth c H locs cells slots (vx_MQ below Qc XC args s mc ms free) g := by
  intro T hT X
  obtain ⟨t, a1, o, b1, b2, b3, b4⟩ := k T hT X
  exact ⟨t, a1, o, b1, b2, Or.inl ⟨b3, b4⟩⟩
/-- not caught here: it goes on to the caller -/
theorem vx_widen {g : JFrame} {q : Addr} {k n : Nat} (h1 : cells ≤ k) (h2 : slots ≤ n) (kk : vx_W p l e R s m args below meth c H locs k n Q g q) : vx_W p l e R s m args below meth c H locs cells slots Q g q := fun T hT X => kk T hT (stand_widen X h1 h2)
theorem vx_out {pc : Nat} {E : String} {ce : Cell} {q : Addr} {mc ms : Nat} (hout : ∀ x ∈ c.exceptionTable.toList, covers x pc = false) (hlocks : meth.locks = false) (hcell : H[q]? = some ce) (hv : ce.vm = .none) (hcl : s.vm.findClass E = some ce.cls)
    (hx : ∀ t : State, t.heap = H → s.vm.Alike t.vm → XC E s t) (hf : ∀ z ∈ locs, free z.base) (hc : cells ≤ mc) (hs : slots ≤ ms) :
    vx_W p l e R s m args below meth c H locs cells slots (vx_MQ below Qc XC args s mc ms free) (F0 m pc ls rest) q := by
  intro T hT X
  obtain ⟨st1, hrun, hend, hW, hsm⟩ := X.leaveThrown q (g := F0 m pc ls rest) rfl rfl rfl hout hlocks
  have hcell9 : (T.setFrames (.throwing q :: below)).heap[q]? = some ce := by
    show T.heap[q]? = some ce
    rw [hT]; exact hcell
  exact ⟨_, st1, .threw q, hrun, hend, Or.inr ⟨q, rfl, E, ce, locs, hx _ hT hW.alike, hcell9, hv, hcl, hW, hsm.mono hc hs, hf⟩⟩
theorem vx_frame {U : State} {k n : Nat} (h : s.sameButNew ({ U with vm := s.vm } : State) locs k n) : s.heap.size ≤ U.heap.size ∧ ∀ q : Nat, q < s.heap.size → (∀ z ∈ locs, z.base ≠ q) → U.heap[q]? = s.heap[q]? := by
  obtain ⟨-, h2, -, -, -, h6⟩ := h
  refine ⟨h2, fun q hq hz => ?_⟩
  obtain ⟨c9, e1, e2, e3, e4⟩ := h6 q _ (Array.getElem?_eq_getElem hq)
  have hs : c9.slots = (s.heap[q]).slots := Array.ext_getElem? fun i => e4 i fun hm => hz _ hm rfl
  have h9 : c9 = s.heap[q] := by
    rw [hs] at e2
    exact e2
  have e5 : U.heap[q]? = some c9 := e1
  rw [e5, h9, Array.getElem?_eq_getElem hq]
/-- the words of a throw but the four that speak of the heap -/
def vx_no (w : Cond) : Bool := decide (w ≠ .isRef (.static Bundle.tN "UNASSIGNED_STACK" Bundle.steD)) && decide (w ≠ .isRef (.static Bundle.tN "SUPPRESSED_SENTINEL" Bundle.listD)) && decide (w ≠ .laysStatic Bundle.tN "UNASSIGNED_STACK" Bundle.steD) && decide (w ≠ .laysStatic Bundle.tN "SUPPRESSED_SENTINEL" Bundle.listD)
def vx_at0 (own : String) (ic : Nat) (X : String) (names : List String) : List Cond := (Bundle.ownAtoms0 own ic X names).filter vx_no
def vx_atS (own : String) (ic : Nat) (X : String) (names : List String) : List Cond := (Bundle.ownAtoms own ic X names).filter vx_no
/-- a word that the tables alone decide, or a good one -/
def vx_ot (w : Cond) : Bool := w.onTables || goodWord w
theorem vx_ot_at {args a' : Array Value} {s U : State} {w : Cond} (hW : s.WarmedH U.vm) (hvm : s.vm = U.vm) (hg : vx_ot w = true) (h : w.before args s = true) : w.before a' U = true := by
  simp only [vx_ot, Bool.or_eq_true] at hg
  rcases hg with hg | hg
  · exact va_tabs hg hvm h
  · exact word_at hW (good_of_word hg) h
/-- a list's words: the good ones out of the method's own list, the others by premises of their own -/
theorem vx_hat {args : Array Value} {s : State} {L B : List Cond} (h1 : ∀ w ∈ L.filter goodWord, w.before args s = true) (h2 : ∀ w ∈ L.filter (fun w => !goodWord w), w ∈ B) (h3 : ∀ w ∈ B, w.before args s = true) : ∀ w ∈ L, w.before args s = true := by
  intro w hw
  by_cases g : goodWord w = true
  · exact h1 w (List.mem_filter.mpr ⟨hw, g⟩)
  · refine h3 w (h2 w (List.mem_filter.mpr ⟨hw, ?_⟩))
    show (!goodWord w) = true
    cases hgw : goodWord w
    · rfl
    · exact absurd hgw g
theorem vx_c {args : Array Value} {s : State} {w : Cond} {B : List Cond} (h : w.before args s = true) (t : ∀ w ∈ B, w.before args s = true) : ∀ w' ∈ w :: B, w'.before args s = true := fun w' h' => (List.mem_cons.mp h').elim (fun e => by rw [e]; exact h) (t w')
theorem vx_n {args : Array Value} {s : State} : ∀ w ∈ ([] : List Cond), w.before args s = true := fun _ h => nomatch h
theorem vx_own {args : Array Value} {s : State} {L : List Cond} (h1 : ∀ w ∈ L.filter vx_no, w.before args s = true)
    (hU : (Cond.isRef (.static Bundle.tN "UNASSIGNED_STACK" Bundle.steD)).before args s = true) (hN : (Cond.isRef (.static Bundle.tN "SUPPRESSED_SENTINEL" Bundle.listD)).before args s = true)
    (lU : (Cond.laysStatic Bundle.tN "UNASSIGNED_STACK" Bundle.steD).before args s = true) (lN : (Cond.laysStatic Bundle.tN "SUPPRESSED_SENTINEL" Bundle.listD).before args s = true) : ∀ w ∈ L, w.before args s = true := by
  intro w hw
  by_cases e1 : w = .isRef (.static Bundle.tN "UNASSIGNED_STACK" Bundle.steD)
  · rw [e1]; exact hU
  · by_cases e2 : w = .isRef (.static Bundle.tN "SUPPRESSED_SENTINEL" Bundle.listD)
    · rw [e2]; exact hN
    · by_cases e3 : w = .laysStatic Bundle.tN "UNASSIGNED_STACK" Bundle.steD
      · rw [e3]; exact lU
      · by_cases e4 : w = .laysStatic Bundle.tN "SUPPRESSED_SENTINEL" Bundle.listD
        · rw [e4]; exact lN
        · exact h1 w (List.mem_filter.mpr ⟨hw, by unfold vx_no; rw [decide_eq_true e1, decide_eq_true e2, decide_eq_true e3, decide_eq_true e4]; rfl⟩)
/-- where a static field lies, its class's statics cell in H -/
def vx_L (C n d : String) (A : Nat → Prop) (U : State) (H : Heap) : Prop := ∃ (c : ClassId) (k : Class) (i : Nat) (f : Field) (a : Nat) (cell : Cell), U.vm.findClass C = some c ∧ U.fieldFound? C n d = some (c, k, i, f) ∧ f.isStatic = true ∧ k.statics = some a ∧ H[a]? = some cell ∧ cell.vm.isStatics = true ∧ cell.cls = c ∧ f.slot < cell.slots.size ∧ k.staticTypes[f.slot]? = some f.type ∧ ¬ A a
theorem vx_L.moved {C n d : String} {A : Nat → Prop} {u U : State} {H : Heap} (hvm : u.vm.Alike U.vm) (h : vx_L C n d A u H) : vx_L C n d A U H := by
  obtain ⟨c, k, i, f, a, cell, h1, h2, h3, h4, h5, h6, h7, h8, h9, h10⟩ := h
  obtain ⟨k', hi', he⟩ := State.fieldFound?_setVm hvm h2
  exact ⟨c, k', i, f, a, cell, by rw [hvm.findClass]; exact h1, hi', h3, by rw [he]; exact h4, h5, h6, h7, h8, by rw [he]; exact h9, h10⟩
theorem vx_L.kept {C n d : String} {A : Nat → Prop} {U : State} {H H1 : Heap} (h : vx_L C n d A U H) (hq : ∀ a : Nat, a < H.size → ¬ A a → H1[a]? = H[a]?) : vx_L C n d A U H1 := by
  obtain ⟨c, k, i, f, a, cell, h1, h2, h3, h4, h5, h6, h7, h8, h9, h10⟩ := h
  exact ⟨c, k, i, f, a, cell, h1, h2, h3, h4, by rw [hq a (Array.getElem?_eq_some_iff.mp h5).1 h10]; exact h5, h6, h7, h8, h9, h10⟩
theorem vx_L.narrow {C n d : String} {A B : Nat → Prop} {U : State} {H : Heap} (h : vx_L C n d A U H) (hAB : ∀ q, B q → A q) : vx_L C n d B U H := by
  obtain ⟨c, k, i, f, a, cell, h1, h2, h3, h4, h5, h6, h7, h8, h9, h10⟩ := h
  exact ⟨c, k, i, f, a, cell, h1, h2, h3, h4, h5, h6, h7, h8, h9, fun z => h10 (hAB _ z)⟩
theorem vx_L.word {C n d : String} {A : Nat → Prop} {s : State} {args : Array Value} (h : vx_L C n d A s s.heap) : (Cond.laysStatic C n d).before args s = true := by
  obtain ⟨c, k, i, f, a, cell, h1, h2, h3, h4, h5, h6, h7, h8, h9, -⟩ := h
  show (Cond.laysStatic C n d).holds args s none s [] = true
  exact Cond.laysStatic_of h1 h2 h3 h4 h5 h6 h7 h8 h9
/-- .. and what it holds: null or some reference -/
def vx_Zq (C n d : String) (A : Nat → Prop) (U : State) (H : Heap) : Prop := va_Zq C n d A U H ∧ vx_L C n d A U H
theorem vx_Zq.moved {C n d : String} {A : Nat → Prop} {u U : State} {H : Heap} (hvm : u.vm.Alike U.vm) (h : vx_Zq C n d A u H) : vx_Zq C n d A U H := ⟨va_Zq.moved hvm h.1, vx_L.moved hvm h.2⟩
theorem vx_Zq.kept {C n d : String} {A : Nat → Prop} {U : State} {H H1 : Heap} (h : vx_Zq C n d A U H) (hq : ∀ a : Nat, a < H.size → ¬ A a → H1[a]? = H[a]?) : vx_Zq C n d A U H1 := ⟨va_Zq.kept h.1 hq, vx_L.kept h.2 hq⟩
theorem vx_Zq.narrow {C n d : String} {A B : Nat → Prop} {U : State} {H : Heap} (h : vx_Zq C n d A U H) (hAB : ∀ q, B q → A q) : vx_Zq C n d B U H := ⟨va_Zq.narrow h.1 hAB, vx_L.narrow h.2 hAB⟩
theorem vx_Zqof {args : Array Value} {s : State} {C n d : String} {A : Nat → Prop} (hl : (Cond.laysStatic C n d).before args s = true) (hini : (Cond.initialized C).before args s = true) (h : (Cond.isRef (.static C n d)).before args s = true) (hA : ∀ a : Nat, a < s.heap.size → ¬ A a) : vx_Zq C n d A s s.heap := by
  refine ⟨va_Zqof hl hini h hA, ?_⟩
  obtain ⟨c, k, i, f, a, cell, h1, h2, h3, h4, h5, h6, h7, h8, h9⟩ := Cond.laysStatic_spec hl
  exact ⟨c, k, i, f, a, cell, h1, h2, h3, h4, h5, h6, h7, h8, h9, hA a (Array.getElem?_eq_some_iff.mp h5).1⟩
theorem vx_isRef {C n d : String} {v : Value} {A : Nat → Prop} {s : State} {args : Array Value} (h : va_Z C n d v A s s.heap) (hv : v.isRef = true) : (Cond.isRef (.static C n d)).before args s = true := by
  obtain ⟨cf, kf, fi, f, a, cell, h1, h2, h3, h4, h5, h6, h7, -⟩ := h
  have he : (Term.static C n d).eval args s none [] s = some v := by
    simp [Term.eval, State.fieldNamed?, h1, h2, h4, h5, h6, h7]
  simp only [Cond.before, Cond.holds, Cond.value, he]
  cases v <;> simp_all [Value.isRef]
theorem vx_isRefq {C n d : String} {A : Nat → Prop} {s : State} {args : Array Value} (h : va_Zq C n d A s s.heap) : (Cond.isRef (.static C n d)).before args s = true := by
  rcases h with h | ⟨t, h⟩
  · exact vx_isRef h rfl
  · exact vx_isRef h rfl
/-- the same frame, seen from here: as if the method were called anew in this heap -/
theorem vx_rebase {T : State} (X : Stand p l e R s m args below meth c T locs cells slots) {R' : Room} (hf : R'.frames ≤ R.frames) (hl : R'.locals ≤ R.locals) (hc : cells + R'.cells ≤ R.cells) (hs : slots + R'.slots ≤ R.slots) :
    Stand p l e R' ((T.setVm s.vm).setFrames (.invoking m args :: below)) m args below meth c T [] 0 0 := by
  have htop : (T.setVm s.vm).topJava?.isSome := X.here.top
  have hF : ((T.setVm s.vm).setFrames (.invoking m args :: below)).frames = .invoking m args :: below := State.frames_setFrames _ (State.cur_lt_of_top htop)
  obtain ⟨g₀, hg0⟩ := Option.isSome_iff_exists.mp htop
  obtain ⟨r, hr⟩ := State.topJava?_eq_some.mp hg0
  have hl9 : e.platform.stackLimits (T.setVm s.vm).me = e.platform.stackLimits s.me := X.limits
  have hb9 : (T.setVm s.vm).me.stackBytes = s.me.stackBytes := X.bytes
  refine ⟨X.admits, X.cas, X.clock, hF, ?_, X.hears, X.method, X.code, X.here, X.tail, X.warmed, ?_, ?_, ?_⟩
  · have h := X.room
    have hU : ((T.setVm s.vm).setFrames (.invoking m args :: below)).localsInUse = s.localsInUse := by
      rw [State.localsInUse_invoking hF (meth := meth) (c := c) X.method X.code, State.localsInUse_invoking X.frames X.method X.code]
    simp only [State.hasRoom, Bool.and_eq_true, decide_eq_true_eq] at h ⊢
    obtain ⟨⟨⟨⟨h1, h2, h3, h4, h5, h6⟩, h7⟩, h8⟩, h9⟩ := h
    rw [X.frames, List.length_cons] at h2 h3
    have q1 := X.heapSize
    have q2 := X.used
    simp only [hF, hU, List.length_cons, State.stackLimits_setFrames, State.stackBytes_setFrames, hl9, hb9]
    refine ⟨⟨⟨⟨by omega, by omega, by omega, by omega, by omega, h6⟩, ?_⟩, ?_⟩, X.book⟩
    · show T.heap.size + R'.cells ≤ e.platform.maxCells
      omega
    · show T.slotsUsed + R'.slots ≤ e.platform.maxSlots
      omega
  · rw [State.stackLimits_setFrames]; rfl
  · rw [State.stackBytes_setFrames]; rfl
  · refine ⟨?_, Nat.le_refl _, Nat.le_refl _, ?_, ?_, fun a c9 h9 => ⟨c9, h9, rfl, rfl, fun _ _ => rfl⟩⟩
    · obtain ⟨t, ht, -⟩ := State.frames_cons hr
      show T.setVm s.vm = { ((T.setVm s.vm).setFrames (.invoking m args :: below)).setFrames (T.setVm s.vm).frames with heap := T.heap, slotsUsed := T.slotsUsed }
      rw [State.setFrames_setFrames, State.setFrames_self ht]
      rfl
    · show T.slotsUsed = T.slotsUsed + ((T.heap.toList.drop T.heap.size).map (·.slots.size)).sum
      rw [List.drop_eq_nil_of_le (Nat.le_of_eq Array.length_toList)]
      rfl
    · show ((T.heap.toList.drop T.heap.size).map (·.slots.size)).sum ≤ 0
      rw [List.drop_eq_nil_of_le (Nat.le_of_eq Array.length_toList)]
      exact Nat.le_refl _
/-- 'throw new E()': new; dup; invokespecial; athrow -/
theorem vx_throw0 {cc : ByteArray} {pc : Nat} (hexec : p.tables.exec = Jvm.exec) (hb : c.code = cc) (hl : l.stackTraces = false) {own cls : String} {names : List String} {ik ic mc ms : Nat} {A : Nat → Prop}
    (hown : s.vm.findClass own = some m.cls) (hcls : Bundle.fit cls = true) (hnames : ∀ n ∈ names, Bundle.fit n = true)
    (hk : (Cond.classLink own ik cls).before args s = true) (hini : (Cond.initialized cls).before args s = true) (hat : ∀ w ∈ vx_at0 own ic cls names, w.before args s = true)
    (hgood : ∀ w ∈ Cond.classLink own ik cls :: Cond.initialized cls :: vx_at0 own ic cls names, vx_ot w = true)
    (hU : vx_Zq Bundle.tN "UNASSIGNED_STACK" Bundle.steD A s s.heap) (hN : vx_Zq Bundle.tN "SUPPRESSED_SENTINEL" Bundle.listD A s s.heap) (hS : va_S A s.heap H locs) (hsize : ls.size = c.maxLocals)
    (d0 : decode cc pc = .ok (.new ik, 3)) (d3 : decode cc (pc + 3) = .ok (.dup, 1)) (d4 : decode cc (pc + 4) = .ok (.invokespecial ic, 3)) (d7 : decode cc (pc + 7) = .ok (.athrow, 1))
    (hout : ∀ x ∈ c.exceptionTable.toList, covers x (pc + 7) = false)
    (hRframes : names.length + 3 < R.frames) (hRlocals : (rest.map fun v => v.category).sum + (13 * (names.length + 1) + 42) ≤ R.locals) (hRcells : cells + 1 ≤ R.cells) (hRslots : slots + 6 ≤ R.slots) (hlocks : meth.locks = false)
    (hx : ∀ t : State, s.vm.Alike t.vm → H.size ≤ t.heap.size → (∀ q : Nat, q < H.size → t.heap[q]? = H[q]?) → XC cls s t)
    (hf : ∀ z ∈ locs, free z.base) (hc : cells + 1 ≤ mc) (hs : slots + 6 ≤ ms) :
    W p l e R s m args below meth c H locs cells slots (vx_MQ below Qc XC args s mc ms free) (F0 m pc ls rest) := by
  intro T hT X
  have htr : e.platform.stackTraces = false := (show e.platform.stackTraces = l.stackTraces by rw [X.admits.platform]).trans hl
  have Y := vx_rebase X (R' := { frames := R.frames, locals := R.locals, cells := 1, slots := 6 }) (Nat.le_refl _) (Nat.le_refl _) hRcells hRslots
  obtain ⟨s', hA⟩ : ∃ z, z = (T.setVm s.vm).setFrames (.invoking m args :: below) := ⟨_, rfl⟩
  rw [← hA] at Y
  have hvm : s'.vm = s.vm := by rw [hA]; rfl
  have hhp : s'.heap = H := by rw [hA]; exact hT
  have hW0 : s.WarmedH s'.vm := by rw [hvm]; exact State.WarmedH.refl s
  have hat' : ∀ w ∈ vx_at0 own ic cls names, w.before args s' = true := fun w hw => vx_ot_at hW0 hvm.symm (hgood w (List.mem_cons_of_mem _ (List.mem_cons_of_mem _ hw))) (hat w hw)
  have hk' : (Cond.classLink own ik cls).before args s' = true := vx_ot_at hW0 hvm.symm (hgood _ List.mem_cons_self) hk
  have hini' : (Cond.initialized cls).before args s' = true := vx_ot_at hW0 hvm.symm (hgood _ (List.mem_cons_of_mem _ List.mem_cons_self)) hini
  have hU' : vx_Zq Bundle.tN "UNASSIGNED_STACK" Bundle.steD A s' s'.heap := by rw [hhp]; exact vx_Zq.moved hW0.alike (hU.kept hS.2.1)
  have hN' : vx_Zq Bundle.tN "SUPPRESSED_SENTINEL" Bundle.listD A s' s'.heap := by rw [hhp]; exact vx_Zq.moved hW0.alike (hN.kept hS.2.1)
  have h : ∀ w ∈ Bundle.ownAtoms0 own ic cls names, w.before args s' = true := vx_own hat' (vx_isRefq hU'.1) (vx_isRefq hN'.1) hU'.2.word hN'.2.word
  have hown' : s'.vm.findClass own = some m.cls := by rw [hvm]; exact hown
  have hins : (Cond.instantiable cls 6).before args s' = true := h _ (by simp [Bundle.ownAtoms0])
  obtain ⟨vm₁, cX, kX, hfX, hkX, -, -, X₁, st1⟩ := Y.newCold hexec (own := own) (C := cls) (index := ik) (n := 6) hown' hk' hins hini'
    (g := F0 m pc ls rest) rfl (by rw [hb]; exact d0) (Nat.le_refl _) (Nat.le_refl _)
  generalize hT1 : (T.setVm vm₁).pushCell { cls := cX, slots := kX.instanceTypes.map defaultValue, vm := .none } = T1 at X₁ st1
  have hcat : (Value.ref T.heap.size).category = 1 := rfl
  have hcellA : T1.heap[T.heap.size]? = some (freshCell cX kX) := by rw [← hT1]; exact State.heap_pushCell_size _ _
  have d3' : decode c.code (pc + 3) = .ok (.dup, 1) := by rw [hb]; exact d3
  obtain ⟨U, hsteps, hrun, hend, hW, hsame, ce, hce, hO⟩ := X₁.ctorThrow0 hexec htr (own := own) (cls := cls) (names := names) (ic := ic) hown' hcls hnames h (fun x hx => nomatch hx) hfX hkX hcellA (by rw [hhp, hT]; exact Nat.le_refl _)
    (g := { method := m, pc := pc + 4, locals := ls, stack := .ref T.heap.size :: .ref T.heap.size :: rest, locked := none }) rfl hsize rfl rfl (rest := rest) rfl
    (by rw [hb]; exact d4) (by rw [hb]; exact d7) hout hRframes (by simp only [List.map_cons, List.sum_cons, hcat]; omega) hlocks
  obtain ⟨f1, f2⟩ := vx_frame hsame
  rw [hhp] at f1 f2
  have hWs : s.WarmedH U.vm := State.WarmedH.trans hW0 hW
  have hcl : s.vm.findClass cls = some ce.cls := by
    have h9 := hO.cls
    rw [hvm] at h9
    exact h9
  have hall : s.sameButNew ({ U with vm := s.vm } : State) locs mc ms := by
    subst hA
    obtain ⟨e1, e2⟩ := hsame
    rw [State.setFrames_setFrames] at e1
    have h2 : (T.setVm s.vm).sameButNew ({ U with vm := s.vm } : State) [] (0 + 1) (0 + 6) := ⟨e1, e2⟩
    have h3 := X.same.trans h2
    rw [List.append_nil] at h3
    exact h3.mono hc hs
  refine ⟨U, ?_, .threw T.heap.size, hrun, hend, Or.inr ⟨T.heap.size, rfl, cls, ce, locs, hx U hWs.alike f1 (fun q hq => f2 q hq (fun z hz => nomatch hz)), hce, hO.vm, hcl, hWs, hall, hf⟩⟩
  refine st1 _ ?_
  show Steps p.tables e below (T1.setTop { method := m, pc := pc + 3, locals := ls, stack := .ref T.heap.size :: rest, locked := none }) _
  jvm_step X₁.here [X₁.here.top, hexec, d3', Value.category]
  exact hsteps
/-- 'throw new E("text")': new; dup; ldc; invokespecial; athrow -/
theorem vx_throwS {cc : ByteArray} {pc : Nat} (hexec : p.tables.exec = Jvm.exec) (hb : c.code = cc) (hl : l.stackTraces = false) {own cls text : String} {names : List String} {ik is ic mc ms sa : Nat} {A : Nat → Prop}
    (hown : s.vm.findClass own = some m.cls) (hcls : Bundle.fit cls = true) (hnames : ∀ n ∈ names, Bundle.fit n = true)
    (hk : (Cond.classLink own ik cls).before args s = true) (hini : (Cond.initialized cls).before args s = true) (hstr : vk_R own is text sa s) (hat : ∀ w ∈ vx_atS own ic cls names, w.before args s = true)
    (hgood : ∀ w ∈ Cond.classLink own ik cls :: Cond.initialized cls :: vx_atS own ic cls names, vx_ot w = true)
    (hU : vx_Zq Bundle.tN "UNASSIGNED_STACK" Bundle.steD A s s.heap) (hN : vx_Zq Bundle.tN "SUPPRESSED_SENTINEL" Bundle.listD A s s.heap) (hS : va_S A s.heap H locs) (hsize : ls.size = c.maxLocals)
    (d0 : decode cc pc = .ok (.new ik, 3)) (d3 : decode cc (pc + 3) = .ok (.dup, 1)) (d4 : decode cc (pc + 4) = .ok (.ldc is, 2)) (d6 : decode cc (pc + 6) = .ok (.invokespecial ic, 3)) (d9 : decode cc (pc + 9) = .ok (.athrow, 1))
    (hout : ∀ x ∈ c.exceptionTable.toList, covers x (pc + 9) = false)
    (hRframes : names.length + 3 < R.frames) (hRlocals : (rest.map fun v => v.category).sum + (13 * (names.length + 1) + 43) ≤ R.locals) (hRcells : cells + 1 ≤ R.cells) (hRslots : slots + 6 ≤ R.slots) (hlocks : meth.locks = false)
    (hx : ∀ t : State, s.vm.Alike t.vm → H.size ≤ t.heap.size → (∀ q : Nat, q < H.size → t.heap[q]? = H[q]?) → XC cls s t)
    (hf : ∀ z ∈ locs, free z.base) (hc : cells + 1 ≤ mc) (hs : slots + 6 ≤ ms) :
    W p l e R s m args below meth c H locs cells slots (vx_MQ below Qc XC args s mc ms free) (F0 m pc ls rest) := by
  intro T hT X
  have htr : e.platform.stackTraces = false := (show e.platform.stackTraces = l.stackTraces by rw [X.admits.platform]).trans hl
  have Y := vx_rebase X (R' := { frames := R.frames, locals := R.locals, cells := 1, slots := 6 }) (Nat.le_refl _) (Nat.le_refl _) hRcells hRslots
  obtain ⟨s', hA⟩ : ∃ z, z = (T.setVm s.vm).setFrames (.invoking m args :: below) := ⟨_, rfl⟩
  rw [← hA] at Y
  have hvm : s'.vm = s.vm := by rw [hA]; rfl
  have hhp : s'.heap = H := by rw [hA]; exact hT
  have hW0 : s.WarmedH s'.vm := by rw [hvm]; exact State.WarmedH.refl s
  have hat' : ∀ w ∈ vx_atS own ic cls names, w.before args s' = true := fun w hw => vx_ot_at hW0 hvm.symm (hgood w (List.mem_cons_of_mem _ (List.mem_cons_of_mem _ hw))) (hat w hw)
  have hk' : (Cond.classLink own ik cls).before args s' = true := vx_ot_at hW0 hvm.symm (hgood _ List.mem_cons_self) hk
  have hini' : (Cond.initialized cls).before args s' = true := vx_ot_at hW0 hvm.symm (hgood _ (List.mem_cons_of_mem _ List.mem_cons_self)) hini
  have hU' : vx_Zq Bundle.tN "UNASSIGNED_STACK" Bundle.steD A s' s'.heap := by rw [hhp]; exact vx_Zq.moved hW0.alike (hU.kept hS.2.1)
  have hN' : vx_Zq Bundle.tN "SUPPRESSED_SENTINEL" Bundle.listD A s' s'.heap := by rw [hhp]; exact vx_Zq.moved hW0.alike (hN.kept hS.2.1)
  have h : ∀ w ∈ Bundle.ownAtoms own ic cls names, w.before args s' = true := vx_own hat' (vx_isRefq hU'.1) (vx_isRefq hN'.1) hU'.2.word hN'.2.word
  have hown' : s'.vm.findClass own = some m.cls := by rw [hvm]; exact hown
  have hins : (Cond.instantiable cls 6).before args s' = true := h _ (by simp [Bundle.ownAtoms])
  obtain ⟨vm₁, cX, kX, hfX, hkX, -, -, X₁, st1⟩ := Y.newCold hexec (own := own) (C := cls) (index := ik) (n := 6) hown' hk' hins hini'
    (g := F0 m pc ls rest) rfl (by rw [hb]; exact d0) (Nat.le_refl _) (Nat.le_refl _)
  generalize hT1 : (T.setVm vm₁).pushCell { cls := cX, slots := kX.instanceTypes.map defaultValue, vm := .none } = T1 at X₁ st1
  have hcat : (Value.ref T.heap.size).category = 1 := rfl
  have hcellA : T1.heap[T.heap.size]? = some (freshCell cX kX) := by rw [← hT1]; exact State.heap_pushCell_size _ _
  have d3' : decode c.code (pc + 3) = .ok (.dup, 1) := by rw [hb]; exact d3
  have d4' : decode c.code (pc + 4) = .ok (.ldc is, 2) := by rw [hb]; exact d4
  have hstr' : vk_R own is text sa s' := vk_R.warm hW0 hstr
  obtain ⟨U, hsteps, hrun, hend, hW, hsame, ce, hce, hO⟩ := X₁.ctorThrowS hexec htr (own := own) (cls := cls) (names := names) (ic := ic) hown' hcls hnames h (fun x hx => nomatch hx) hfX hkX hcellA (by rw [hhp, hT]; exact Nat.le_refl _) (msg := .ref sa) rfl
    (g := { method := m, pc := pc + 6, locals := ls, stack := .ref sa :: .ref T.heap.size :: .ref T.heap.size :: rest, locked := none }) rfl hsize rfl rfl (rest := rest) rfl
    (by rw [hb]; exact d6) (by rw [hb]; exact d9) hout hRframes (by simp only [List.map_cons, List.sum_cons, hcat]; omega) hlocks
  obtain ⟨f1, f2⟩ := vx_frame hsame
  rw [hhp] at f1 f2
  have hWs : s.WarmedH U.vm := State.WarmedH.trans hW0 hW
  have hcl : s.vm.findClass cls = some ce.cls := by
    have h9 := hO.cls
    rw [hvm] at h9
    exact h9
  have hall : s.sameButNew ({ U with vm := s.vm } : State) locs mc ms := by
    subst hA
    obtain ⟨e1, e2⟩ := hsame
    rw [State.setFrames_setFrames] at e1
    have h2 : (T.setVm s.vm).sameButNew ({ U with vm := s.vm } : State) [] (0 + 1) (0 + 6) := ⟨e1, e2⟩
    have h3 := X.same.trans h2
    rw [List.append_nil] at h3
    exact h3.mono hc hs
  refine ⟨U, ?_, .threw T.heap.size, hrun, hend, Or.inr ⟨T.heap.size, rfl, cls, ce, locs, hx U hWs.alike f1 (fun q hq => f2 q hq (fun z hz => nomatch hz)), hce, hO.vm, hcl, hWs, hall, hf⟩⟩
  refine st1 _ ?_
  show Steps p.tables e below (T1.setTop { method := m, pc := pc + 3, locals := ls, stack := .ref T.heap.size :: rest, locked := none }) _
  jvm_step X₁.here [X₁.here.top, hexec, d3', Value.category]
  exact X₁.ldcString hexec (own := own) (text := text) (index := is) (a := sa) hown' hstr'.1 hstr'.2
    (g := { method := m, pc := pc + 4, locals := ls, stack := .ref T.heap.size :: .ref T.heap.size :: rest, locked := none }) rfl d4' _ hsteps
/-- 'throw new E("text")', the text by a wide index -/
theorem vx_throwSW {cc : ByteArray} {pc : Nat} (hexec : p.tables.exec = Jvm.exec) (hb : c.code = cc) (hl : l.stackTraces = false) {own cls text : String} {names : List String} {ik is ic mc ms sa : Nat} {A : Nat → Prop}
    (hown : s.vm.findClass own = some m.cls) (hcls : Bundle.fit cls = true) (hnames : ∀ n ∈ names, Bundle.fit n = true)
    (hk : (Cond.classLink own ik cls).before args s = true) (hini : (Cond.initialized cls).before args s = true) (hstr : vk_R own is text sa s) (hat : ∀ w ∈ vx_atS own ic cls names, w.before args s = true)
    (hgood : ∀ w ∈ Cond.classLink own ik cls :: Cond.initialized cls :: vx_atS own ic cls names, vx_ot w = true)
    (hU : vx_Zq Bundle.tN "UNASSIGNED_STACK" Bundle.steD A s s.heap) (hN : vx_Zq Bundle.tN "SUPPRESSED_SENTINEL" Bundle.listD A s s.heap) (hS : va_S A s.heap H locs) (hsize : ls.size = c.maxLocals)
    (d0 : decode cc pc = .ok (.new ik, 3)) (d3 : decode cc (pc + 3) = .ok (.dup, 1)) (d4 : decode cc (pc + 4) = .ok (.ldc_w is, 3)) (d7 : decode cc (pc + 7) = .ok (.invokespecial ic, 3)) (d10 : decode cc (pc + 10) = .ok (.athrow, 1))
    (hout : ∀ x ∈ c.exceptionTable.toList, covers x (pc + 10) = false)
    (hRframes : names.length + 3 < R.frames) (hRlocals : (rest.map fun v => v.category).sum + (13 * (names.length + 1) + 43) ≤ R.locals) (hRcells : cells + 1 ≤ R.cells) (hRslots : slots + 6 ≤ R.slots) (hlocks : meth.locks = false)
    (hx : ∀ t : State, s.vm.Alike t.vm → H.size ≤ t.heap.size → (∀ q : Nat, q < H.size → t.heap[q]? = H[q]?) → XC cls s t)
    (hf : ∀ z ∈ locs, free z.base) (hc : cells + 1 ≤ mc) (hs : slots + 6 ≤ ms) :
    W p l e R s m args below meth c H locs cells slots (vx_MQ below Qc XC args s mc ms free) (F0 m pc ls rest) := by
  intro T hT X
  have htr : e.platform.stackTraces = false := (show e.platform.stackTraces = l.stackTraces by rw [X.admits.platform]).trans hl
  have Y := vx_rebase X (R' := { frames := R.frames, locals := R.locals, cells := 1, slots := 6 }) (Nat.le_refl _) (Nat.le_refl _) hRcells hRslots
  obtain ⟨s', hA⟩ : ∃ z, z = (T.setVm s.vm).setFrames (.invoking m args :: below) := ⟨_, rfl⟩
  rw [← hA] at Y
  have hvm : s'.vm = s.vm := by rw [hA]; rfl
  have hhp : s'.heap = H := by rw [hA]; exact hT
  have hW0 : s.WarmedH s'.vm := by rw [hvm]; exact State.WarmedH.refl s
  have hat' : ∀ w ∈ vx_atS own ic cls names, w.before args s' = true := fun w hw => vx_ot_at hW0 hvm.symm (hgood w (List.mem_cons_of_mem _ (List.mem_cons_of_mem _ hw))) (hat w hw)
  have hk' : (Cond.classLink own ik cls).before args s' = true := vx_ot_at hW0 hvm.symm (hgood _ List.mem_cons_self) hk
  have hini' : (Cond.initialized cls).before args s' = true := vx_ot_at hW0 hvm.symm (hgood _ (List.mem_cons_of_mem _ List.mem_cons_self)) hini
  have hU' : vx_Zq Bundle.tN "UNASSIGNED_STACK" Bundle.steD A s' s'.heap := by rw [hhp]; exact vx_Zq.moved hW0.alike (hU.kept hS.2.1)
  have hN' : vx_Zq Bundle.tN "SUPPRESSED_SENTINEL" Bundle.listD A s' s'.heap := by rw [hhp]; exact vx_Zq.moved hW0.alike (hN.kept hS.2.1)
  have h : ∀ w ∈ Bundle.ownAtoms own ic cls names, w.before args s' = true := vx_own hat' (vx_isRefq hU'.1) (vx_isRefq hN'.1) hU'.2.word hN'.2.word
  have hown' : s'.vm.findClass own = some m.cls := by rw [hvm]; exact hown
  have hins : (Cond.instantiable cls 6).before args s' = true := h _ (by simp [Bundle.ownAtoms])
  obtain ⟨vm₁, cX, kX, hfX, hkX, -, -, X₁, st1⟩ := Y.newCold hexec (own := own) (C := cls) (index := ik) (n := 6) hown' hk' hins hini'
    (g := F0 m pc ls rest) rfl (by rw [hb]; exact d0) (Nat.le_refl _) (Nat.le_refl _)
  generalize hT1 : (T.setVm vm₁).pushCell { cls := cX, slots := kX.instanceTypes.map defaultValue, vm := .none } = T1 at X₁ st1
  have hcat : (Value.ref T.heap.size).category = 1 := rfl
  have hcellA : T1.heap[T.heap.size]? = some (freshCell cX kX) := by rw [← hT1]; exact State.heap_pushCell_size _ _
  have d3' : decode c.code (pc + 3) = .ok (.dup, 1) := by rw [hb]; exact d3
  have d4' : decode c.code (pc + 4) = .ok (.ldc_w is, 3) := by rw [hb]; exact d4
  have hstr' : vk_R own is text sa s' := vk_R.warm hW0 hstr
  obtain ⟨U, hsteps, hrun, hend, hW, hsame, ce, hce, hO⟩ := X₁.ctorThrowS hexec htr (own := own) (cls := cls) (names := names) (ic := ic) hown' hcls hnames h (fun x hx => nomatch hx) hfX hkX hcellA (by rw [hhp, hT]; exact Nat.le_refl _) (msg := .ref sa) rfl
    (g := { method := m, pc := pc + 7, locals := ls, stack := .ref sa :: .ref T.heap.size :: .ref T.heap.size :: rest, locked := none }) rfl hsize rfl rfl (rest := rest) rfl
    (by rw [hb]; exact d7) (by rw [hb]; exact d10) hout hRframes (by simp only [List.map_cons, List.sum_cons, hcat]; omega) hlocks
  obtain ⟨f1, f2⟩ := vx_frame hsame
  rw [hhp] at f1 f2
  have hWs : s.WarmedH U.vm := State.WarmedH.trans hW0 hW
  have hcl : s.vm.findClass cls = some ce.cls := by
    have h9 := hO.cls
    rw [hvm] at h9
    exact h9
  have hall : s.sameButNew ({ U with vm := s.vm } : State) locs mc ms := by
    subst hA
    obtain ⟨e1, e2⟩ := hsame
    rw [State.setFrames_setFrames] at e1
    have h2 : (T.setVm s.vm).sameButNew ({ U with vm := s.vm } : State) [] (0 + 1) (0 + 6) := ⟨e1, e2⟩
    have h3 := X.same.trans h2
    rw [List.append_nil] at h3
    exact h3.mono hc hs
  refine ⟨U, ?_, .threw T.heap.size, hrun, hend, Or.inr ⟨T.heap.size, rfl, cls, ce, locs, hx U hWs.alike f1 (fun q hq => f2 q hq (fun z hz => nomatch hz)), hce, hO.vm, hcl, hWs, hall, hf⟩⟩
  refine st1 _ ?_
  show Steps p.tables e below (T1.setTop { method := m, pc := pc + 3, locals := ls, stack := .ref T.heap.size :: rest, locked := none }) _
  jvm_step X₁.here [X₁.here.top, hexec, d3', Value.category]
  exact X₁.ldcStringW hexec (own := own) (text := text) (index := is) (a := sa) hown' hstr'.1 hstr'.2
    (g := { method := m, pc := pc + 4, locals := ls, stack := .ref T.heap.size :: .ref T.heap.size :: rest, locked := none }) rfl d4' _ hsteps
end Ends
section Bodies
variable {l : Launch}
theorem vx_ofW {y : MethodName} {ws ws' : List Cond} {rm : Room} {Pc : Array Value → State → Prop} {Qc : Array Value → State → Outcome → State → Prop} {XC : String → State → State → Prop} {mc ms : Nat} {free : Addr → Prop} {cc : ByteArray} {maxL : Nat} {ret : Option FieldType}
    (hy : plainName y.cls = true) (hw : ws = Cond.code y cc maxL ret :: ws')
    (body : ∀ p e s m args below meth c s₁, BodyLoose p l y (headSpec ws rm) cc maxL ret e s m args below meth c s₁ → c.maxLocals = maxL → (∀ x ∈ c.exceptionTable.toList, False) → Pc args s →
      W p l e (headSpec ws rm).room s m args below meth c s.heap [] 0 0 (vx_MQ below Qc XC args s mc ms free) (entryFrame m args maxL)) : vx_Met l y ws rm Pc Qc XC mc ms free := by
  refine MetFree.of_bodyS (code := cc) (maxLocals := maxL) (ret := ret) hy ?_ ?_
  · intro args s m h hn
    obtain ⟨meth, c, h1, h2, h3, h4, h5, h6, -, -⟩ := Cond.code_spec hn (atoms_spec (ws := ws) h _ (by rw [hw]; exact List.mem_cons_self))
    exact ⟨meth, c, h1, h2, h3, h4, h5, h6⟩
  · intro p e s m args below meth c s₁ B hml hP _
    have hh0 : s₁.heap = s.heap := by rw [B.state]; rfl
    have ht : ∀ x ∈ c.exceptionTable.toList, False := by
      obtain ⟨meth9, c9, h1, h2, -, -, -, -, h7, -⟩ := Cond.code_spec B.named (atoms_spec (ws := ws) B.pre _ (by rw [hw]; exact List.mem_cons_self))
      cases Option.some.inj (h1.symm.trans B.method)
      cases Option.some.inj (h2.symm.trans (Stand.of_body B).code)
      intro x hx
      rw [Array.isEmpty_iff.mp h7] at hx
      cases hx
    obtain ⟨t, a1, o, b1, b2, b3⟩ := body p e s m args below meth c s₁ B hml ht hP s₁ hh0 (Stand.of_body B)
    exact ⟨t, o, a1, b1, b2, b3⟩
/-- the table of a body with handlers -/
theorem vx_table {p : Program} {x y : MethodName} {S : Spec} {cc bytes : ByteArray} {maxL maxL' : Nat} {ret ret' : Option FieldType} {e : Env} {s s₁ : State} {m : MethodId} {args : Array Value} {below : List Frame} {meth : Method} {c : Code} {hh : List (Nat × Nat × Nat × Nat)}
    (B : BodyLoose p l y S cc maxL ret e s m args below meth c s₁) (h : (Cond.codeWith y bytes maxL' ret' hh).before args s = true) : c.exceptionTable.toList = tableOf hh := by
  obtain ⟨m9, meth9, c9, hn9, h1, h2, -, -, h6, -⟩ := Cond.codeWith_spec h
  cases Option.some.inj (hn9.symm.trans B.named)
  cases Option.some.inj (h1.symm.trans B.method)
  cases Option.some.inj (h2.symm.trans (Stand.of_body B).code)
  rw [← h6, table_eq]
end Bodies
end VXA
/-! ===== END ===== -/
/-! ===== BEGIN a static call of a method with an exception table ===== -/
section VXS
variable {p : Program} {l : Launch} {e : Env} {R : Room} {s : State} {m : MethodId} {args : Array Value} {below : List Frame} {meth : Method} {c : Code} {T : State} {H : Heap} {locs : List Loc} {cells slots : Nat}
abbrev vx_CSW (R : Room) (s : State) (args : Array Value) (own : String) (index : Nat) (y : MethodName) (bytes : ByteArray) (maxL : Nat) (ret : Option FieldType) (hh : List (Nat × Nat × Nat × Nat)) (ws : List Cond) (rm : Room) (mc ms n : Nat) : Prop :=
  (rm.cells = mc ∧ rm.slots = ms ∧ rm.frames + 1 ≤ R.frames ∧ 8 + (maxL + 11) + rm.locals ≤ R.locals ∧ (∀ w ∈ ws, ∀ (a' : Array Value) (U : State), s.WarmedH U.vm → w.before a' U = true) ∧ Cond.codeWith y bytes maxL ret hh ∈ ws) ∧
  (Cond.codeWith y bytes maxL ret hh).before args s = true ∧ (Cond.initialized y.cls).before args s = true ∧ (y.cls ≠ "java/lang/invoke/MethodHandle" ∧ y.cls ≠ "java/lang/invoke/VarHandle") ∧
  (∀ sig, parseMethodDescriptor y.desc = some sig → n = sig.parameters.length) ∧ (Cond.methodLink own index y).before args s = true ∧ (Cond.static y).before args s = true
theorem vx_cwSW {own : String} {index maxL mc ms : Nat} {y : MethodName} {bytes : ByteArray} {ret : Option FieldType} {hh : List (Nat × Nat × Nat × Nat)} {Ts ws ws' : List Cond} {rm : Room} (n : Nat) (ht : ∀ w ∈ Ts, w.before args s = true) (hT : GoodIn Ts (va_wsS own index y ws)) (hw : ws = Cond.codeWith y bytes maxL ret hh :: ws') (hrc : rm.cells = mc) (hrs : rm.slots = ms)
    (hd : y.cls ≠ "java/lang/invoke/MethodHandle" ∧ y.cls ≠ "java/lang/invoke/VarHandle" ∧ (parseMethodDescriptor y.desc).map (fun d => d.parameters.length) = some n) (hR : rm.frames + 1 ≤ R.frames ∧ 8 + (maxL + 11) + rm.locals ≤ R.locals) :
    vx_CSW R s args own index y bytes maxL ret hh ws rm mc ms n := by
  have ok : ∀ w ∈ va_wsS own index y ws, w.before args s = true := fun w h => ht w (hT w h).1
  have hG : GoodIn Ts ws := fun w h => hT w (by unfold va_wsS; exact List.mem_append_right _ h)
  have hc : Cond.codeWith y bytes maxL ret hh ∈ ws := by rw [hw]; exact List.mem_cons_self
  refine ⟨⟨hrc, hrs, hR.1, hR.2, pay_in ht hG, hc⟩, ht _ (hG _ hc).1, ok _ (by simp [va_wsS]), ⟨hd.1, hd.2.1⟩, fun sig h => ?_, ok _ (by simp [va_wsS]), ok _ (by simp [va_wsS])⟩
  have h2 := hd.2.2
  rw [h] at h2
  exact (Option.some.inj h2).symm
theorem vx_callSW (X : Stand p l e R s m args below meth c T locs cells slots) (hexec : p.tables.exec = Jvm.exec) {own : String} {index : Nat} {y : MethodName} {bytes : ByteArray} {maxL : Nat} {ret : Option FieldType} {hh : List (Nat × Nat × Nat × Nat)}
    (hown : s.vm.findClass own = some m.cls) (hlink : (Cond.methodLink own index y).before args s = true) (hstat : (Cond.static y).before args s = true) (hinit : (Cond.initialized y.cls).before args s = true)
    (hcode : (Cond.codeWith y bytes maxL ret hh).before args s = true) (hy : y.cls ≠ "java/lang/invoke/MethodHandle" ∧ y.cls ≠ "java/lang/invoke/VarHandle")
    {W9 : Nat} {Pre : Pt → Array Value → Prop} {Post : Pt → Array Value → Option Value → Pt → Prop} (hK : Back l R p e below s args y 3 W9 Pre Post)
    {g : JFrame} (hg : g.method = m) (hsize : g.locals.size = c.maxLocals) {argsL rest : List Value} (hlen : ∀ sig, parseMethodDescriptor y.desc = some sig → argsL.length = sig.parameters.length)
    (hstack : g.stack = argsL.reverse ++ rest) (hW : 2 * g.monitorRoom + (rest.map fun v => v.category).sum ≤ W9) (hdg : decode c.code g.pc = .ok (.invokestatic index, 3))
    (hpre : ∀ vm₁, s.WarmedH vm₁ → Pre ⟨T.setVm vm₁, locs, cells, slots⟩ argsL.toArray) :
    ∃ (v : Option Value) (vm₁ : Vm) (B : Pt), s.WarmedH vm₁ ∧ Stand p l e R s m args below meth c B.U B.locs B.cells B.slots ∧ Post ⟨T.setVm vm₁, locs, cells, slots⟩ argsL.toArray v B ∧
      ∀ target, Steps p.tables e below (B.U.setTop { g with pc := g.pc + 3, stack := v.toList ++ rest }) target → Steps p.tables e below (T.setTop g) target := by
  obtain ⟨mk, methM, cM, hnamed, hmethM, -, -, -, -, -, -, hsigM⟩ := Cond.codeWith_spec hcode
  have hstatic : methM.isStatic = true := Cond.static_spec hnamed hmethM hstat
  obtain ⟨kP, hkP, -⟩ := className_of_methodNamed hnamed
  have hinitP : kP.init = .initialized := Cond.initialized_spec (findClass_of_methodNamed hnamed) hkP hinit
  obtain ⟨vm₁, X₁, hstep₁⟩ := X.invokestatic hexec hown hlink hnamed hmethM hstatic hkP hinitP hy (g := g) hg (argsL := argsL) (rest := rest) (hlen _ hsigM) hstack hdg
  obtain ⟨v, B, X', hpost, hsteps⟩ := hK m meth c ⟨T.setVm vm₁, locs, cells, slots⟩ { g with stack := rest } (.invokestatic index) mk argsL.toArray X₁ hg hsize hdg hW (X₁.named hnamed) (hpre vm₁ X₁.warmed)
  exact ⟨v, vm₁, B, X₁.warmed, X', hpost, fun target h => hstep₁ _ fun acts => by rw [doInvoke_state]; exact hsteps.trans h⟩
theorem vx_runSW {y : MethodName} {bytes cc : ByteArray} {maxL nL mc ms n index : Nat} {ret : Option FieldType} {hh : List (Nat × Nat × Nat × Nat)} {ws : List Cond} {rm : Room} {Pc : Array Value → State → Prop} {Qc : Array Value → State → Outcome → State → Prop} {free : Addr → Prop} {Ts : List Cond} {own : String} {As rest : List Value} {g : JFrame}
    (S : CallFix p m c cc nL s args Ts own) (hM : Met l y ws rm Pc Qc mc ms free) (cw : vx_CSW R s args own index y bytes maxL ret hh ws rm mc ms n) (hp : PreS s H Pc As)
    (hg : g.method = m) (hn : As.length = n) (hsize : g.locals.size = nL) (hstack : g.stack = As.reverse ++ rest) (hW : 2 * g.monitorRoom + (rest.map fun v => v.category).sum ≤ 8) (hdg : decode cc g.pc = .ok (.invokestatic index, 3)) (hf : cells + mc ≤ R.cells ∧ slots + ms ≤ R.slots) :
    va_Run p l e R s m args below meth c H locs cells slots mc ms g rest (Qc As.toArray) (free) := by
  obtain ⟨⟨hrc, hrs, hfr, hlo, hws, hcw⟩, hcode, hini, hy, hlen, hl, hstt⟩ := cw
  have hK : Back l R p e below s args y 3 8 (PreOf R mc ms Pc) (PostOf Qc mc ms free) := va_backW (hh := hh) (bytes := bytes) (maxL := maxL) (ret := ret) hM hp.1 hrc hrs hfr hlo hws hcw (fun a' U hW => word_at hW (Or.inl (by first | rfl | simp [Cond.onTables, Cond.keeps, Cond.steady])) hini)
  obtain ⟨hx, hb, hml, ho, -⟩ := S
  intro T hT X
  obtain ⟨v, vm₁, ⟨U', l2, c2, s2⟩, hW₁, X', ⟨g', mk, t, L, e1, e2, hq, h1, hL, h2, h3⟩, st⟩ := vx_callSW X hx (hh := hh) (bytes := bytes) (maxL := maxL) (ret := ret) ho hl hstt hini hcode hy hK hg (hsize.trans hml.symm) (argsL := As) (rest := rest) (fun sig h => hn.trans (hlen sig h)) hstack hW (by rw [hb]; exact hdg)
    (fun vm₁ hW₁ => ⟨hf.1, hf.2, hp.2 (T.setVm vm₁) hT hW₁⟩)
  dsimp only [Pt.U, Pt.locs, Pt.cells, Pt.slots] at X' e1 e2 h1 h2 h3 st
  subst h1; subst h2; subst h3
  exact ⟨v, (T.setVm vm₁).calling g' mk As.toArray, t, U', L, hT, X', hL, e1, e2, hq, st⟩
/-- not caught here, past rows that name other classes: it goes on to the caller -/
theorem vx_outP {p : Program} {l : Launch} {e : Env} {R : Room} {s : State} {m : MethodId} {args : Array Value} {below : List Frame} {meth : Method} {c : Code} {H : Heap} {locs : List Loc} {cells slots : Nat} {free : Addr → Prop} {ls : Array Slot} {rest : List Value} {Qc : Array Value → State → Outcome → State → Prop} {XC : String → State → State → Prop}
    {pc : Nat} {own E : String} {ce : Cell} {q : Addr} {mc ms : Nat} (hown : s.vm.findClass own = some m.cls) (hlocks : meth.locks = false)
    (hpass : ∀ z ∈ c.exceptionTable.toList, covers z pc = false ∨ (z.catchType ≠ 0 ∧ ∃ nm : String, (Cond.classLink own z.catchType nm).before args s = true ∧ va_Nc E nm s)) (hcell : H[q]? = some ce) (hv : ce.vm = .none) (hcl : s.vm.findClass E = some ce.cls)
    (hx : ∀ t : State, t.heap = H → s.vm.Alike t.vm → XC E s t) (hf : ∀ z ∈ locs, free z.base) (hc : cells ≤ mc) (hs : slots ≤ ms) :
    vx_W p l e R s m args below meth c H locs cells slots (vx_MQ below Qc XC args s mc ms free) (F0 m pc ls rest) q := by
  intro T hT X
  have hpl : e.platform.magicAccessors = ({} : Platform).magicAccessors := by rw [X.admits.platform]
  obtain ⟨vm', hW', X', st⟩ := X.outThrough hlocks q (g := F0 m pc ls rest) rfl rfl rfl (cell := ce) (by rw [hT]; exact hcell) (by rw [hv]; rfl)
    (by obtain ⟨k9, h9, -⟩ := Vm.findClass_spec hcl; exact ⟨k9, h9⟩) (fun z hz => by
      rcases hpass z hz with h | ⟨hz0, nm, hl1, hn1⟩
      · exact Or.inl h
      · obtain ⟨c6, hc6, hcl6⟩ := Cond.classLink_spec hown hl1 e.platform hpl
        obtain ⟨a8, b8, h1, h2, h3⟩ := hn1
        cases Option.some.inj (h1.symm.trans hcl)
        cases Option.some.inj (h2.symm.trans hc6)
        exact Or.inr ⟨hz0, _, hcl6, h3⟩)
  obtain ⟨g₀, hfr⟩ := X'.frames_eq
  have hcell9 : ((T.setVm vm').setFrames (.throwing q :: below)).heap[q]? = some ce := by
    show T.heap[q]? = some ce
    rw [hT]; exact hcell
  have hend : Ended ((T.setVm vm').setFrames (.throwing q :: below)) below (.threw q) := State.frames_setFrames _ (State.cur_lt_of_frames hfr)
  refine ⟨(T.setVm vm').setFrames (.throwing q :: below), ?_, .threw q, X'.here.running, hend, Or.inr ⟨q, rfl, E, ce, locs, hx _ hT (X'.ends _).1.alike, hcell9, hv, hcl, (X'.ends _).1, (X'.ends _).2.mono hc hs, hf⟩⟩
  rw [X.pushThrowing_eq]
  exact st
/-- a thing of a world lies in the heap -/
theorem vx_lt {D : va_G} {cl : List vw_C} {ws : va_W} {H1 : Heap} (h : va_P D cl ws H1) {k : Nat} {q : Nat × va_E} (hk : ws[k]? = some q) : q.1 < H1.size := (h k q hk).lt
end VXS
/-! ===== END ===== -/
/-! ===== BEGIN methods with a table of their own: called by a name, returning or throwing ===== -/
section VXH
/-! vx_backW, vx_callVX, vx_callSX, vx_callVW, vx_runVW, vx_runVX, vx_runSX, vx_ofWH follow the same proofs as their sisters above (Free/Laws.lean, Shelf42/LK1.lean); vx_outP calls Shelf42/NT130.lean (outThrough). -/
section
variable {l : Launch} {R : Room} {p : Program} {e : Env} {below : List Frame} {s : State} {sargs : Array Value} {y : MethodName} {len W9 : Nat}
theorem vx_backW {ws : List Cond} {rm : Room} {Pc : Array Value → State → Prop} {Qc : Array Value → State → Outcome → State → Prop} {XC : String → State → State → Prop} {mc ms : Nat} {free : Addr → Prop} {bytes : ByteArray} {maxL : Nat} {ret : Option FieldType} {hh : List (Nat × Nat × Nat × Nat)}
    (hM : vx_Met l y ws rm Pc Qc XC mc ms free) (hblind : FrameBlind Pc) (hrc : rm.cells = mc) (hrs : rm.slots = ms)
    (hframes : rm.frames + 1 ≤ R.frames) (hlocals : W9 + (maxL + 11) + rm.locals ≤ R.locals)
    (hws : ∀ w ∈ ws, ∀ a' U, s.WarmedH U.vm → w.before a' U = true) (hcode : Cond.codeWith y bytes maxL ret hh ∈ ws) (hinit : ∀ a' U, s.WarmedH U.vm → (Cond.initialized y.cls).before a' U = true) :
    vx_Back l R p e below s sargs y len W9 (PreOf R mc ms Pc) (PostOf Qc mc ms free) (vx_Post XC mc ms free) := by
  intro m meth c A g ig mk a X hg hsize hdg hW hn hp
  have h1 : (headSpec ws rm).pre.before a A.U = true := atoms_intro fun w hw => hws w hw _ _ X.warmed
  have h2 : (Cond.codeWith y bytes maxL ret hh).before a A.U = true := hws _ hcode _ _ X.warmed
  have h3 : (Cond.initialized y.cls).before a A.U = true := hinit _ _ X.warmed
  have h4 : A.cells + (headSpec ws rm).room.cells ≤ R.cells := by rw [show (headSpec ws rm).room.cells = mc from hrc]; exact hp.1
  have h5 : A.slots + (headSpec ws rm).room.slots ≤ R.slots := by rw [show (headSpec ws rm).room.slots = ms from hrs]; exact hp.2.1
  have hPc : Pc a (A.U.calling g mk a) := hblind _ _ _ _ hp.2.2
  obtain ⟨U, Ls, c0, s0⟩ := A
  dsimp only [Pt.U, Pt.locs, Pt.cells, Pt.slots] at h1 h2 h3 h4 h5 X hn hPc ⊢
  obtain ⟨m9, methY, cY, hn9, hmY, hcY, -, hlY, -⟩ := Cond.codeWith_spec h2
  cases Option.some.inj (hn9.symm.trans hn)
  obtain ⟨kY, hkY, -⟩ := className_of_methodNamed hn
  have hinitY : kY.init = .initialized := Cond.initialized_spec (findClass_of_methodNamed hn) hkY h3
  have h : At U g.method c below := by rw [hg]; exact X.here
  have hlocals9 : W9 + (maxL + 11) + (headSpec ws rm).room.locals ≤ R.locals := hlocals
  have happ : (headSpec ws rm).appliesLoose y e.platform (U.calling g mk a) = true :=
    Spec.appliesLoose_calling (g := g) h hdg hn hkY hinitY
      (X.room_calling (g := g) (R' := (headSpec ws rm).room) hsize hmY hcY hframes (by rw [hlY]; omega) h4 h5) h1
  obtain ⟨mid, hmid⟩ := h.above
  have hfr : (U.setTop g).frames = (.java g :: mid) ++ below := by rw [State.frames_setTop' g h.top, hmid]; rfl
  obtain ⟨o, s₂, hsteps, -, hend, hq⟩ := Steps.callFree hM p X.admits X.cas X.clock (acts := []) hfr happ hPc trivial
  have hq' : vx_Q Qc XC mc ms free a (U.calling g mk a) o s₂ := hq
  rw [State.frames_setTop' g h.top] at hend
  obtain ⟨g₀, hg0⟩ := Option.isSome_iff_exists.mp h.top
  obtain ⟨r, hr⟩ := State.topJava?_eq_some.mp hg0
  have hr' : (({ U with heap := s₂.heap, slotsUsed := s₂.slotsUsed } : State).setVm s₂.vm).frames = .java g₀ :: r := hr
  rcases hq' with ⟨hqc, L, hfe, hL⟩ | ⟨q, rfl, E, ce, L, hx, hce, hcv, hcl, hW₂, hsm, hL⟩
  · obtain ⟨⟨v, rfl⟩, hW₂, e2, q2, q3, q4, q5, q6⟩ := id hfe
    have e3 : s₂ = ({ (U.calling g mk a).setFrames s₂.frames with heap := s₂.heap, slotsUsed := s₂.slotsUsed } : State).setVm s₂.vm := by
      have : s₂ = ({ s₂ with vm := (U.calling g mk a).vm } : State).setVm s₂.vm := rfl
      rw [e2] at this
      exact this
    obtain ⟨c₂, i₂, len₂, hc₂, hd₂, hf₂⟩ := hend
    have hW' : U.WarmedH s₂.vm := hW₂
    have hcc : c₂ = c := by
      have h1 : s₂.code? g.method = U.code? g.method := by
        rw [State.code?_eq, State.code?_eq, hW'.alike.method?]
      exact Option.some.inj (hc₂.symm.trans (h1.trans h.code))
    subst hcc
    have hlen : len₂ = len := by rw [hdg] at hd₂; cases hd₂; rfl
    subst hlen
    have hs₂ : s₂ = (({ U with heap := s₂.heap, slotsUsed := s₂.slotsUsed } : State).setVm s₂.vm).setTop { g with pc := g.pc + len₂, stack := v.toList ++ g.stack } := by
      refine e3.trans ?_
      rw [hf₂, State.calling_eq h.top, State.setFrames_setFrames, State.setTop_of_frames _ hr', hr]
      rfl
    have hsame : U.sameButNew ({ U with heap := s₂.heap, slotsUsed := s₂.slotsUsed } : State) L mc ms := by
      refine ⟨?_, q2, q3, q4, q5, q6⟩
      obtain ⟨t, ht, -⟩ := State.frames_cons hr
      show ({ U with heap := s₂.heap, slotsUsed := s₂.slotsUsed } : State) = { U.setFrames U.frames with heap := s₂.heap, slotsUsed := s₂.slotsUsed }
      rw [State.setFrames_self ht]
    subst hg
    refine Or.inl ⟨v, ⟨(({ U with heap := s₂.heap, slotsUsed := s₂.slotsUsed } : State).setVm s₂.vm), Ls ++ L, c0 + mc, s0 + ms⟩,
      ⟨X.admits, X.cas, X.clock, X.frames, X.room, X.hears, X.method, X.code, (X.here.setHeapUsed s₂.heap s₂.slotsUsed).setVm hW'.alike, X.tail, State.WarmedH.trans X.warmed hW', X.limits, X.bytes, X.same.trans (hsame.setVm s.vm)⟩,
      ⟨g, mk, s₂, L, rfl, rfl, hqc, rfl, hL, rfl, rfl⟩, ?_⟩
    show Steps p.tables e below _ ((({ U with heap := s₂.heap, slotsUsed := s₂.slotsUsed } : State).setVm s₂.vm).setTop { g with pc := g.pc + len₂, stack := v.toList ++ g.stack })
    rw [← hs₂]
    exact hsteps
  · obtain ⟨e2, q2, q3, q4, q5, q6⟩ := id hsm
    have e3 : s₂ = ({ (U.calling g mk a).setFrames s₂.frames with heap := s₂.heap, slotsUsed := s₂.slotsUsed } : State).setVm s₂.vm := by
      have : s₂ = ({ s₂ with vm := (U.calling g mk a).vm } : State).setVm s₂.vm := rfl
      rw [e2] at this
      exact this
    have hf₂ : s₂.frames = .throwing q :: .java g :: U.frames.tail := hend
    have hW' : U.WarmedH s₂.vm := hW₂
    have hs₂ : s₂ = ((({ U with heap := s₂.heap, slotsUsed := s₂.slotsUsed } : State).setVm s₂.vm).setTop g).pushFrame (.throwing q) := by
      refine e3.trans ?_
      rw [hf₂, State.calling_eq h.top, State.setFrames_setFrames, State.pushFrame, State.frames_setTop _ hr', State.setTop_of_frames _ hr', State.setFrames_setFrames, hr]
      rfl
    have hsame : U.sameButNew ({ U with heap := s₂.heap, slotsUsed := s₂.slotsUsed } : State) L mc ms := by
      refine ⟨?_, q2, q3, q4, q5, q6⟩
      obtain ⟨t, ht, -⟩ := State.frames_cons hr
      show ({ U with heap := s₂.heap, slotsUsed := s₂.slotsUsed } : State) = { U.setFrames U.frames with heap := s₂.heap, slotsUsed := s₂.slotsUsed }
      rw [State.setFrames_self ht]
    subst hg
    refine Or.inr ⟨q, ⟨(({ U with heap := s₂.heap, slotsUsed := s₂.slotsUsed } : State).setVm s₂.vm), Ls ++ L, c0 + mc, s0 + ms⟩,
      ⟨X.admits, X.cas, X.clock, X.frames, X.room, X.hears, X.method, X.code, (X.here.setHeapUsed s₂.heap s₂.slotsUsed).setVm hW'.alike, X.tail, State.WarmedH.trans X.warmed hW', X.limits, X.bytes, X.same.trans (hsame.setVm s.vm)⟩,
      ⟨g, mk, s₂, L, E, ce, rfl, rfl, hx, hce, hcv, hcl, rfl, hL, rfl, rfl⟩, ?_⟩
    show Steps p.tables e below _ (((({ U with heap := s₂.heap, slotsUsed := s₂.slotsUsed } : State).setVm s₂.vm).setTop g).pushFrame (.throwing q))
    rw [← hs₂]
    exact hsteps
end
variable {p : Program} {l : Launch} {e : Env} {R : Room} {s : State} {m : MethodId} {args : Array Value} {below : List Frame} {meth : Method} {c : Code} {T : State} {H : Heap} {locs : List Loc} {cells slots : Nat}
theorem vx_callVX (X : Stand p l e R s m args below meth c T locs cells slots) (hexec : p.tables.exec = Jvm.exec) {own C : String} {index : Nat} {y : MethodName} {bytes : ByteArray} {maxL : Nat} {ret : Option FieldType} {hh : List (Nat × Nat × Nat × Nat)}
    (hown : s.vm.findClass own = some m.cls) (hlink : (Cond.methodLink own index y).before args s = true) (hinst : (Cond.instanceMethod y).before args s = true) (hsel : (Cond.selects C y y).before args s = true)
    (hcode : (Cond.codeWith y bytes maxL ret hh).before args s = true) (hy : y.cls ≠ "java/lang/invoke/MethodHandle" ∧ y.cls ≠ "java/lang/invoke/VarHandle")
    {W9 : Nat} {Pre : Pt → Array Value → Prop} {Post : Pt → Array Value → Option Value → Pt → Prop} {PostX : Pt → Array Value → Addr → Pt → Prop} (hK : vx_Back l R p e below s args y 3 W9 Pre Post PostX)
    {b : Addr} {cellB : Cell} (hcell : T.heap[b]? = some cellB) (hobj : cellB.vm.isStatics = false) (hcls : s.vm.findClass C = some cellB.cls)
    {g : JFrame} (hg : g.method = m) (hsize : g.locals.size = c.maxLocals) {argsL rest : List Value} (hlen : ∀ sig, parseMethodDescriptor y.desc = some sig → argsL.length = sig.parameters.length)
    (hstack : g.stack = argsL.reverse ++ .ref b :: rest) (hW : 2 * g.monitorRoom + (rest.map fun v => v.category).sum ≤ W9) (hdg : decode c.code g.pc = .ok (.invokevirtual index, 3))
    (hpre : ∀ vm₁, s.WarmedH vm₁ → Pre ⟨T.setVm vm₁, locs, cells, slots⟩ (Value.ref b :: argsL).toArray) :
    (∃ (v : Option Value) (vm₁ : Vm) (B : Pt), s.WarmedH vm₁ ∧ Stand p l e R s m args below meth c B.U B.locs B.cells B.slots ∧ Post ⟨T.setVm vm₁, locs, cells, slots⟩ (Value.ref b :: argsL).toArray v B ∧
      ∀ target, Steps p.tables e below (B.U.setTop { g with pc := g.pc + 3, stack := v.toList ++ rest }) target → Steps p.tables e below (T.setTop g) target) ∨
    (∃ (q : Addr) (vm₁ : Vm) (B : Pt), s.WarmedH vm₁ ∧ Stand p l e R s m args below meth c B.U B.locs B.cells B.slots ∧ PostX ⟨T.setVm vm₁, locs, cells, slots⟩ (Value.ref b :: argsL).toArray q B ∧
      Steps p.tables e below (T.setTop g) ((B.U.setTop { g with stack := rest }).pushFrame (.throwing q))) := by
  obtain ⟨mk, methM, hnamed, hmethM, hstM, habM⟩ := Cond.instanceMethod_spec hinst
  obtain ⟨m8, methM', cM, hn8, hmethM', -, -, -, -, -, -, hsigM⟩ := Cond.codeWith_spec hcode
  cases Option.some.inj (hn8.symm.trans hnamed)
  cases hmethM.symm.trans hmethM'
  obtain ⟨c2, r2, m2, q1, q2, q3, q4, kP, hkP, hkPi⟩ := Cond.selects_spec hsel
  cases hcls.symm.trans q1
  cases (State.methodFound?_of_named hnamed hy).symm.trans q2
  cases hnamed.symm.trans q3
  have hselP : selectMethod e.platform s.vm cellB.cls mk = .method mk := by rw [Launch.admits_selectMethod X.admits]; exact q4
  obtain ⟨vm₁, X₁, hstep₁⟩ := X.invokevirtual hexec hown hlink hnamed hmethM hstM hkP hkPi hy (a := b) (cell := cellB) hcell
    (fun z h => by rw [h] at hobj; cases hobj) hselP hmethM habM hkP hkPi (g := g) hg (argsL := argsL) (rest := rest) (hlen _ hsigM) hstack hdg
  rcases hK m meth c ⟨T.setVm vm₁, locs, cells, slots⟩ { g with stack := rest } (.invokevirtual index) mk (Value.ref b :: argsL).toArray X₁ hg hsize hdg hW (X₁.named hnamed) (hpre vm₁ X₁.warmed) with ⟨v, B, X', hpost, hsteps⟩ | ⟨q, B, X', hpost, hsteps⟩
  · exact Or.inl ⟨v, vm₁, B, X₁.warmed, X', hpost, fun target h => hstep₁ _ fun acts => by rw [doInvoke_state]; exact hsteps.trans h⟩
  · exact Or.inr ⟨q, vm₁, B, X₁.warmed, X', hpost, hstep₁ _ fun acts => by rw [doInvoke_state]; exact hsteps⟩
theorem vx_callSX (X : Stand p l e R s m args below meth c T locs cells slots) (hexec : p.tables.exec = Jvm.exec) {own : String} {index : Nat} {y : MethodName} {bytes : ByteArray} {maxL : Nat} {ret : Option FieldType} {hh : List (Nat × Nat × Nat × Nat)}
    (hown : s.vm.findClass own = some m.cls) (hlink : (Cond.methodLink own index y).before args s = true) (hstat : (Cond.static y).before args s = true) (hinit : (Cond.initialized y.cls).before args s = true)
    (hcode : (Cond.codeWith y bytes maxL ret hh).before args s = true) (hy : y.cls ≠ "java/lang/invoke/MethodHandle" ∧ y.cls ≠ "java/lang/invoke/VarHandle")
    {W9 : Nat} {Pre : Pt → Array Value → Prop} {Post : Pt → Array Value → Option Value → Pt → Prop} {PostX : Pt → Array Value → Addr → Pt → Prop} (hK : vx_Back l R p e below s args y 3 W9 Pre Post PostX)
    {g : JFrame} (hg : g.method = m) (hsize : g.locals.size = c.maxLocals) {argsL rest : List Value} (hlen : ∀ sig, parseMethodDescriptor y.desc = some sig → argsL.length = sig.parameters.length)
    (hstack : g.stack = argsL.reverse ++ rest) (hW : 2 * g.monitorRoom + (rest.map fun v => v.category).sum ≤ W9) (hdg : decode c.code g.pc = .ok (.invokestatic index, 3))
    (hpre : ∀ vm₁, s.WarmedH vm₁ → Pre ⟨T.setVm vm₁, locs, cells, slots⟩ argsL.toArray) :
    (∃ (v : Option Value) (vm₁ : Vm) (B : Pt), s.WarmedH vm₁ ∧ Stand p l e R s m args below meth c B.U B.locs B.cells B.slots ∧ Post ⟨T.setVm vm₁, locs, cells, slots⟩ argsL.toArray v B ∧
      ∀ target, Steps p.tables e below (B.U.setTop { g with pc := g.pc + 3, stack := v.toList ++ rest }) target → Steps p.tables e below (T.setTop g) target) ∨
    (∃ (q : Addr) (vm₁ : Vm) (B : Pt), s.WarmedH vm₁ ∧ Stand p l e R s m args below meth c B.U B.locs B.cells B.slots ∧ PostX ⟨T.setVm vm₁, locs, cells, slots⟩ argsL.toArray q B ∧
      Steps p.tables e below (T.setTop g) ((B.U.setTop { g with stack := rest }).pushFrame (.throwing q))) := by
  obtain ⟨mk, methM, cM, hnamed, hmethM, -, -, -, -, -, -, hsigM⟩ := Cond.codeWith_spec hcode
  have hstatic : methM.isStatic = true := Cond.static_spec hnamed hmethM hstat
  obtain ⟨kP, hkP, -⟩ := className_of_methodNamed hnamed
  have hinitP : kP.init = .initialized := Cond.initialized_spec (findClass_of_methodNamed hnamed) hkP hinit
  obtain ⟨vm₁, X₁, hstep₁⟩ := X.invokestatic hexec hown hlink hnamed hmethM hstatic hkP hinitP hy (g := g) hg (argsL := argsL) (rest := rest) (hlen _ hsigM) hstack hdg
  rcases hK m meth c ⟨T.setVm vm₁, locs, cells, slots⟩ { g with stack := rest } (.invokestatic index) mk argsL.toArray X₁ hg hsize hdg hW (X₁.named hnamed) (hpre vm₁ X₁.warmed) with ⟨v, B, X', hpost, hsteps⟩ | ⟨q, B, X', hpost, hsteps⟩
  · exact Or.inl ⟨v, vm₁, B, X₁.warmed, X', hpost, fun target h => hstep₁ _ fun acts => by rw [doInvoke_state]; exact hsteps.trans h⟩
  · exact Or.inr ⟨q, vm₁, B, X₁.warmed, X', hpost, hstep₁ _ fun acts => by rw [doInvoke_state]; exact hsteps⟩
theorem vx_callVW (X : Stand p l e R s m args below meth c T locs cells slots) (hexec : p.tables.exec = Jvm.exec) {own C : String} {index : Nat} {y : MethodName} {bytes : ByteArray} {maxL : Nat} {ret : Option FieldType} {hh : List (Nat × Nat × Nat × Nat)}
    (hown : s.vm.findClass own = some m.cls) (hlink : (Cond.methodLink own index y).before args s = true) (hinst : (Cond.instanceMethod y).before args s = true) (hsel : (Cond.selects C y y).before args s = true)
    (hcode : (Cond.codeWith y bytes maxL ret hh).before args s = true) (hy : y.cls ≠ "java/lang/invoke/MethodHandle" ∧ y.cls ≠ "java/lang/invoke/VarHandle")
    {W9 : Nat} {Pre : Pt → Array Value → Prop} {Post : Pt → Array Value → Option Value → Pt → Prop} (hK : Back l R p e below s args y 3 W9 Pre Post)
    {b : Addr} {cellB : Cell} (hcell : T.heap[b]? = some cellB) (hobj : cellB.vm.isStatics = false) (hcls : s.vm.findClass C = some cellB.cls)
    {g : JFrame} (hg : g.method = m) (hsize : g.locals.size = c.maxLocals) {argsL rest : List Value} (hlen : ∀ sig, parseMethodDescriptor y.desc = some sig → argsL.length = sig.parameters.length)
    (hstack : g.stack = argsL.reverse ++ .ref b :: rest) (hW : 2 * g.monitorRoom + (rest.map fun v => v.category).sum ≤ W9) (hdg : decode c.code g.pc = .ok (.invokevirtual index, 3))
    (hpre : ∀ vm₁, s.WarmedH vm₁ → Pre ⟨T.setVm vm₁, locs, cells, slots⟩ (Value.ref b :: argsL).toArray) :
    ∃ (v : Option Value) (vm₁ : Vm) (B : Pt), s.WarmedH vm₁ ∧ Stand p l e R s m args below meth c B.U B.locs B.cells B.slots ∧ Post ⟨T.setVm vm₁, locs, cells, slots⟩ (Value.ref b :: argsL).toArray v B ∧
      ∀ target, Steps p.tables e below (B.U.setTop { g with pc := g.pc + 3, stack := v.toList ++ rest }) target → Steps p.tables e below (T.setTop g) target := by
  obtain ⟨mk, methM, hnamed, hmethM, hstM, habM⟩ := Cond.instanceMethod_spec hinst
  obtain ⟨m8, methM', cM, hn8, hmethM', -, -, -, -, -, -, hsigM⟩ := Cond.codeWith_spec hcode
  cases Option.some.inj (hn8.symm.trans hnamed)
  cases hmethM.symm.trans hmethM'
  obtain ⟨c2, r2, m2, q1, q2, q3, q4, kP, hkP, hkPi⟩ := Cond.selects_spec hsel
  cases hcls.symm.trans q1
  cases (State.methodFound?_of_named hnamed hy).symm.trans q2
  cases hnamed.symm.trans q3
  have hselP : selectMethod e.platform s.vm cellB.cls mk = .method mk := by rw [Launch.admits_selectMethod X.admits]; exact q4
  obtain ⟨vm₁, X₁, hstep₁⟩ := X.invokevirtual hexec hown hlink hnamed hmethM hstM hkP hkPi hy (a := b) (cell := cellB) hcell
    (fun z h => by rw [h] at hobj; cases hobj) hselP hmethM habM hkP hkPi (g := g) hg (argsL := argsL) (rest := rest) (hlen _ hsigM) hstack hdg
  obtain ⟨v, B, X', hpost, hsteps⟩ := hK m meth c ⟨T.setVm vm₁, locs, cells, slots⟩ { g with stack := rest } (.invokevirtual index) mk (Value.ref b :: argsL).toArray X₁ hg hsize hdg hW (X₁.named hnamed) (hpre vm₁ X₁.warmed)
  exact ⟨v, vm₁, B, X₁.warmed, X', hpost, fun target h => hstep₁ _ fun acts => by rw [doInvoke_state]; exact hsteps.trans h⟩
abbrev vx_CVW (R : Room) (s : State) (args : Array Value) (own C : String) (index : Nat) (y : MethodName) (bytes : ByteArray) (maxL : Nat) (ret : Option FieldType) (hh : List (Nat × Nat × Nat × Nat)) (ws : List Cond) (rm : Room) (mc ms n : Nat) : Prop :=
  (rm.cells = mc ∧ rm.slots = ms ∧ rm.frames + 1 ≤ R.frames ∧ 8 + (maxL + 11) + rm.locals ≤ R.locals ∧ (∀ w ∈ ws, ∀ (a' : Array Value) (U : State), s.WarmedH U.vm → w.before a' U = true) ∧ Cond.codeWith y bytes maxL ret hh ∈ ws) ∧
  (Cond.codeWith y bytes maxL ret hh).before args s = true ∧ (Cond.initialized y.cls).before args s = true ∧ (y.cls ≠ "java/lang/invoke/MethodHandle" ∧ y.cls ≠ "java/lang/invoke/VarHandle") ∧
  (∀ sig, parseMethodDescriptor y.desc = some sig → n = sig.parameters.length) ∧ (Cond.methodLink own index y).before args s = true ∧ (Cond.instanceMethod y).before args s = true ∧ (Cond.selects C y y).before args s = true
theorem vx_cwVW {own C : String} {index maxL mc ms : Nat} {y : MethodName} {bytes : ByteArray} {ret : Option FieldType} {hh : List (Nat × Nat × Nat × Nat)} {Ts ws ws' : List Cond} {rm : Room} (n : Nat) (ht : ∀ w ∈ Ts, w.before args s = true) (hT : GoodIn Ts (wsV own index C y ws)) (hw : ws = Cond.codeWith y bytes maxL ret hh :: ws') (hrc : rm.cells = mc) (hrs : rm.slots = ms)
    (hd : y.cls = C ∧ y.cls ≠ "java/lang/invoke/MethodHandle" ∧ y.cls ≠ "java/lang/invoke/VarHandle" ∧ (parseMethodDescriptor y.desc).map (fun d => d.parameters.length) = some n) (hR : rm.frames + 1 ≤ R.frames ∧ 8 + (maxL + 11) + rm.locals ≤ R.locals) :
    vx_CVW R s args own C index y bytes maxL ret hh ws rm mc ms n := by
  obtain ⟨hC, hd⟩ := hd
  subst hC
  have ok : ∀ w ∈ wsV own index y.cls y ws, w.before args s = true := fun w h => ht w (hT w h).1
  have hG : GoodIn Ts ws := fun w h => hT w (by unfold wsV; exact List.mem_append_right _ h)
  have hc : Cond.codeWith y bytes maxL ret hh ∈ ws := by rw [hw]; exact List.mem_cons_self
  refine ⟨⟨hrc, hrs, hR.1, hR.2, pay_in ht hG, hc⟩, ht _ (hG _ hc).1, ok _ (by simp [wsV]), ⟨hd.1, hd.2.1⟩, fun sig h => ?_, ok _ (by simp [wsV]), ok _ (by simp [wsV]), ok _ (by simp [wsV])⟩
  have h2 := hd.2.2
  rw [h] at h2
  exact (Option.some.inj h2).symm
theorem vx_runVW {y : MethodName} {bytes cc : ByteArray} {maxL nL mc ms n index : Nat} {ret : Option FieldType} {hh : List (Nat × Nat × Nat × Nat)} {ws : List Cond} {rm : Room} {Pc : Array Value → State → Prop} {Qc : Array Value → State → Outcome → State → Prop} {free : Addr → Prop} {Ts : List Cond} {own C : String} {b : Addr} {As rest : List Value} {g : JFrame}
    (S : CallFix p m c cc nL s args Ts own) (hM : Met l y ws rm Pc Qc mc ms free) (cw : vx_CVW R s args own C index y bytes maxL ret hh ws rm mc ms n) (hp : PreV s H C b Pc As)
    (hg : g.method = m) (hn : As.length = n) (hsize : g.locals.size = nL) (hstack : g.stack = As.reverse ++ .ref b :: rest) (hW : 2 * g.monitorRoom + (rest.map fun v => v.category).sum ≤ 8) (hdg : decode cc g.pc = .ok (.invokevirtual index, 3)) (hf : cells + mc ≤ R.cells ∧ slots + ms ≤ R.slots) :
    va_Run p l e R s m args below meth c H locs cells slots mc ms g rest (Qc (Value.ref b :: As).toArray) free := by
  obtain ⟨⟨hrc, hrs, hfr, hlo, hws, hcw⟩, hcode, hini, hy, hlen, hl, hin, hse⟩ := cw
  have hK : Back l R p e below s args y 3 8 (PreOf R mc ms Pc) (PostOf Qc mc ms free) := va_backW (hh := hh) (bytes := bytes) (maxL := maxL) (ret := ret) hM hp.1 hrc hrs hfr hlo hws hcw (fun a' U hW => word_at hW (Or.inl (by first | rfl | simp [Cond.onTables, Cond.keeps, Cond.steady])) hini)
  obtain ⟨hx, hb, hml, ho, -⟩ := S
  obtain ⟨-, ⟨cellB, hcB, hoB, hclB⟩, hPc⟩ := hp
  intro T hT X
  obtain ⟨v, vm₁, ⟨U', l2, c2, s2⟩, hW₁, X', ⟨g', mk, t, L, e1, e2, hq, h1, hL, h2, h3⟩, st⟩ := vx_callVW X hx (C := C) (hh := hh) (bytes := bytes) (maxL := maxL) (ret := ret) ho hl hin hse hcode hy hK (by rw [hT]; exact hcB) hoB hclB hg (hsize.trans hml.symm) (argsL := As) (rest := rest) (fun sig h => hn.trans (hlen sig h)) hstack hW (by rw [hb]; exact hdg)
    (fun vm₁ hW₁ => ⟨hf.1, hf.2, hPc (T.setVm vm₁) hT hW₁⟩)
  dsimp only [Pt.U, Pt.locs, Pt.cells, Pt.slots] at X' e1 e2 h1 h2 h3 st
  subst h1; subst h2; subst h3
  exact ⟨v, (T.setVm vm₁).calling g' mk (Value.ref b :: As).toArray, t, U', L, hT, X', hL, e1, e2, hq, st⟩
section
variable {y : MethodName} {bytes cc : ByteArray} {maxL nL mc ms n index : Nat} {ret : Option FieldType} {ws : List Cond} {rm : Room} {Pc : Array Value → State → Prop} {Qc : Array Value → State → Outcome → State → Prop} {XC : String → State → State → Prop} {free : Addr → Prop} {Ts : List Cond} {own C : String} {b : Addr} {As rest : List Value} {g : JFrame}
theorem vx_runVX {hh : List (Nat × Nat × Nat × Nat)} (S : CallFix p m c cc nL s args Ts own) (hM : vx_Met l y ws rm Pc Qc XC mc ms free) (cw : vx_CVW R s args own C index y bytes maxL ret hh ws rm mc ms n) (hp : PreV s H C b Pc As)
    (hg : g.method = m) (hn : As.length = n) (hsize : g.locals.size = nL) (hstack : g.stack = As.reverse ++ .ref b :: rest) (hW : 2 * g.monitorRoom + (rest.map fun v => v.category).sum ≤ 8) (hdg : decode cc g.pc = .ok (.invokevirtual index, 3)) (hf : cells + mc ≤ R.cells ∧ slots + ms ≤ R.slots) :
    vx_Run p l e R s m args below meth c H locs cells slots mc ms g rest (Qc (Value.ref b :: As).toArray) XC free := by
  obtain ⟨⟨hrc, hrs, hfr, hlo, hws, hcw⟩, hcode, hini, hy, hlen, hl, hin, hse⟩ := cw
  have hK : vx_Back l R p e below s args y 3 8 (PreOf R mc ms Pc) (PostOf Qc mc ms free) (vx_Post XC mc ms free) := vx_backW (hh := hh) (bytes := bytes) (maxL := maxL) (ret := ret) hM hp.1 hrc hrs hfr hlo hws hcw (fun a' U hW => word_at hW (Or.inl (by first | rfl | simp [Cond.onTables, Cond.keeps, Cond.steady])) hini)
  obtain ⟨hx, hb, hml, ho, -⟩ := S
  obtain ⟨-, ⟨cellB, hcB, hoB, hclB⟩, hPc⟩ := hp
  intro T hT X
  rcases vx_callVX X hx (C := C) (hh := hh) (bytes := bytes) (maxL := maxL) (ret := ret) ho hl hin hse hcode hy hK (by rw [hT]; exact hcB) hoB hclB hg (hsize.trans hml.symm) (argsL := As) (rest := rest) (fun sig h => hn.trans (hlen sig h)) hstack hW (by rw [hb]; exact hdg)
    (fun vm₁ hW₁ => ⟨hf.1, hf.2, hPc (T.setVm vm₁) hT hW₁⟩) with ⟨v, vm₁, ⟨U', l2, c2, s2⟩, hW₁, X', ⟨g', mk, t, L, e1, e2, hq, h1, hL, h2, h3⟩, st⟩ | ⟨q, vm₁, ⟨U', l2, c2, s2⟩, hW₁, X', ⟨g', mk, t, L, E, ce, e1, e2, hq, hce, hcv, hcl, h1, hL, h2, h3⟩, st⟩
  · dsimp only [Pt.U, Pt.locs, Pt.cells, Pt.slots] at X' e1 e2 h1 h2 h3 st
    subst h1; subst h2; subst h3
    exact Or.inl ⟨v, (T.setVm vm₁).calling g' mk (Value.ref b :: As).toArray, t, U', L, hT, X', hL, e1, e2, hq, st⟩
  · dsimp only [Pt.U, Pt.locs, Pt.cells, Pt.slots] at X' e1 e2 h1 h2 h3 st hcl
    subst h1; subst h2; subst h3
    exact Or.inr ⟨q, (T.setVm vm₁).calling g' mk (Value.ref b :: As).toArray, t, U', L, E, ce, hT, X', hL, e1, e2, hq, hce, hcv, vx_cls hW₁ hcl, st⟩
theorem vx_runSX {hh : List (Nat × Nat × Nat × Nat)} (S : CallFix p m c cc nL s args Ts own) (hM : vx_Met l y ws rm Pc Qc XC mc ms free) (cw : vx_CSW R s args own index y bytes maxL ret hh ws rm mc ms n) (hp : PreS s H Pc As)
    (hg : g.method = m) (hn : As.length = n) (hsize : g.locals.size = nL) (hstack : g.stack = As.reverse ++ rest) (hW : 2 * g.monitorRoom + (rest.map fun v => v.category).sum ≤ 8) (hdg : decode cc g.pc = .ok (.invokestatic index, 3)) (hf : cells + mc ≤ R.cells ∧ slots + ms ≤ R.slots) :
    vx_Run p l e R s m args below meth c H locs cells slots mc ms g rest (Qc As.toArray) XC free := by
  obtain ⟨⟨hrc, hrs, hfr, hlo, hws, hcw⟩, hcode, hini, hy, hlen, hl, hstt⟩ := cw
  have hK : vx_Back l R p e below s args y 3 8 (PreOf R mc ms Pc) (PostOf Qc mc ms free) (vx_Post XC mc ms free) := vx_backW (hh := hh) (bytes := bytes) (maxL := maxL) (ret := ret) hM hp.1 hrc hrs hfr hlo hws hcw (fun a' U hW => word_at hW (Or.inl (by first | rfl | simp [Cond.onTables, Cond.keeps, Cond.steady])) hini)
  obtain ⟨hx, hb, hml, ho, -⟩ := S
  intro T hT X
  rcases vx_callSX X hx (hh := hh) (bytes := bytes) (maxL := maxL) (ret := ret) ho hl hstt hini hcode hy hK hg (hsize.trans hml.symm) (argsL := As) (rest := rest) (fun sig h => hn.trans (hlen sig h)) hstack hW (by rw [hb]; exact hdg)
    (fun vm₁ hW₁ => ⟨hf.1, hf.2, hp.2 (T.setVm vm₁) hT hW₁⟩) with ⟨v, vm₁, ⟨U', l2, c2, s2⟩, hW₁, X', ⟨g', mk, t, L, e1, e2, hq, h1, hL, h2, h3⟩, st⟩ | ⟨q, vm₁, ⟨U', l2, c2, s2⟩, hW₁, X', ⟨g', mk, t, L, E, ce, e1, e2, hq, hce, hcv, hcl, h1, hL, h2, h3⟩, st⟩
  · dsimp only [Pt.U, Pt.locs, Pt.cells, Pt.slots] at X' e1 e2 h1 h2 h3 st
    subst h1; subst h2; subst h3
    exact Or.inl ⟨v, (T.setVm vm₁).calling g' mk As.toArray, t, U', L, hT, X', hL, e1, e2, hq, st⟩
  · dsimp only [Pt.U, Pt.locs, Pt.cells, Pt.slots] at X' e1 e2 h1 h2 h3 st hcl
    subst h1; subst h2; subst h3
    exact Or.inr ⟨q, (T.setVm vm₁).calling g' mk As.toArray, t, U', L, E, ce, hT, X', hL, e1, e2, hq, hce, hcv, vx_cls hW₁ hcl, st⟩
end
end VXH
theorem vx_ofWH {l : Launch} {y : MethodName} {ws ws' : List Cond} {rm : Room} {Pc : Array Value → State → Prop} {Qc : Array Value → State → Outcome → State → Prop} {XC : String → State → State → Prop} {mc ms : Nat} {free : Addr → Prop} {cc : ByteArray} {maxL : Nat} {ret : Option FieldType} {hh : List (Nat × Nat × Nat × Nat)}
    (hy : plainName y.cls = true) (hw : ws = Cond.codeWith y cc maxL ret hh :: ws')
    (body : ∀ p e s m args below meth c s₁, BodyLoose p l y (headSpec ws rm) cc maxL ret e s m args below meth c s₁ → c.maxLocals = maxL → Pc args s →
      W p l e (headSpec ws rm).room s m args below meth c s.heap [] 0 0 (vx_MQ below Qc XC args s mc ms free) (entryFrame m args maxL)) : vx_Met l y ws rm Pc Qc XC mc ms free := by
  refine MetFree.of_bodyS (code := cc) (maxLocals := maxL) (ret := ret) hy ?_ ?_
  · intro args s m h hn
    obtain ⟨m9, meth, c, hn9, h1, h2, h3, h4, -, h5, h6, -⟩ := Cond.codeWith_spec (atoms_spec (ws := ws) h _ (by rw [hw]; exact List.mem_cons_self))
    cases hn.symm.trans hn9
    exact ⟨meth, c, h1, h2, h3, h4, h5, h6⟩
  · intro p e s m args below meth c s₁ B hml hP _
    have hh0 : s₁.heap = s.heap := by rw [B.state]; rfl
    obtain ⟨t, a1, o, b1, b2, b3⟩ := body p e s m args below meth c s₁ B hml hP s₁ hh0 (Stand.of_body B)
    exact ⟨t, o, a1, b1, b2, b3⟩
/-! ===== END ===== -/
end
section
/-! ===== BEGIN printed: names, fields, word lists, decode rows ===== -/
def RX0 : String := "TapestryScene$Bounds"
def TX0 : u_T := fun k => match k with
  | 0 => ("TapestryScene$Bounds", "leastX", "LTapestryScene$Fraction;", true)
  | 1 => ("TapestryScene$Bounds", "leastY", "LTapestryScene$Fraction;", true)
  | 2 => ("TapestryScene$Bounds", "greatestX", "LTapestryScene$Fraction;", true)
  | _ => ("TapestryScene$Bounds", "greatestY", "LTapestryScene$Fraction;", true)
def tyX0 : Nat → FieldType := fun k => match k with
  | 0 => .object "TapestryScene$Fraction"
  | 1 => .object "TapestryScene$Fraction"
  | 2 => .object "TapestryScene$Fraction"
  | _ => .object "TapestryScene$Fraction"
abbrev wsX00 : List Cond := u_ws RX0 TX0 4
theorem nmX0 : ∀ a, a < 4 → ∀ b, b < 4 → a ≠ b → (TX0 a).2.1 ≠ (TX0 b).2.1 := by decide +kernel
theorem tyX0_ok : ∀ k, k < 4 → parseFieldDescriptor (TX0 k).2.2.1 = some (tyX0 k) := by decide +kernel
abbrev cX0_init : ByteArray := prog_2_method_1_code
def yX0_init : MethodName := ⟨RX0, "<init>", "()V"⟩
abbrev cX0_clear : ByteArray := prog_2_method_2_code
def yX0_clear : MethodName := ⟨RX0, "clear", "()V"⟩
abbrev cX0_include : ByteArray := prog_2_method_3_code
def yX0_include : MethodName := ⟨RX0, "include", "(LTapestryScene$Point;)V"⟩
abbrev cX0_side : ByteArray := prog_2_method_4_code
def yX0_side : MethodName := ⟨RX0, "side", "(I)LTapestryScene$Fraction;"⟩
def RX1 : String := "TapestryScene$Fraction"
def TX1 : u_T := fun k => match k with
  | 0 => ("TapestryScene$Fraction", "over", "J", false)
  | _ => ("TapestryScene$Fraction", "under", "J", false)
def tyX1 : Nat → FieldType := fun k => match k with
  | 0 => .long
  | _ => .long
abbrev wsX10 : List Cond := u_ws RX1 TX1 2
theorem nmX1 : ∀ a, a < 2 → ∀ b, b < 2 → a ≠ b → (TX1 a).2.1 ≠ (TX1 b).2.1 := by decide +kernel
theorem tyX1_ok : ∀ k, k < 2 → parseFieldDescriptor (TX1 k).2.2.1 = some (tyX1 k) := by decide +kernel
abbrev cX1_init : ByteArray := prog_3_method_1_code
def yX1_init : MethodName := ⟨RX1, "<init>", "()V"⟩
abbrev cX1_set : ByteArray := prog_3_method_2_code
def yX1_set : MethodName := ⟨RX1, "set", "(JJ)V"⟩
abbrev cX1_lowerTo : ByteArray := prog_3_method_3_code
def yX1_lowerTo : MethodName := ⟨RX1, "lowerTo", "(JJ)V"⟩
abbrev cX1_raiseTo : ByteArray := prog_3_method_4_code
def yX1_raiseTo : MethodName := ⟨RX1, "raiseTo", "(JJ)V"⟩
def RX2 : String := "TapestryScene$Frame"
def TX2 : u_T := fun k => match k with
  | 0 => ("TapestryScene$Frame", "left", "I", true)
  | 1 => ("TapestryScene$Frame", "top", "I", true)
  | 2 => ("TapestryScene$Frame", "right", "I", true)
  | _ => ("TapestryScene$Frame", "bottom", "I", true)
def tyX2 : Nat → FieldType := fun k => match k with
  | 0 => .int
  | 1 => .int
  | 2 => .int
  | _ => .int
abbrev wsX20 : List Cond := u_ws RX2 TX2 4
theorem nmX2 : ∀ a, a < 4 → ∀ b, b < 4 → a ≠ b → (TX2 a).2.1 ≠ (TX2 b).2.1 := by decide +kernel
theorem tyX2_ok : ∀ k, k < 4 → parseFieldDescriptor (TX2 k).2.2.1 = some (tyX2 k) := by decide +kernel
abbrev cX2_init : ByteArray := prog_4_method_1_code
def yX2_init : MethodName := ⟨RX2, "<init>", "(IIII)V"⟩
abbrev cX2_holds : ByteArray := prog_4_method_2_code
def yX2_holds : MethodName := ⟨RX2, "holds", "(LTapestryScene$Point;)Z"⟩
abbrev cX2_isAheadOfSlope : ByteArray := prog_4_method_3_code
def yX2_isAheadOfSlope : MethodName := ⟨RX2, "isAheadOfSlope", "(LTapestryScene$Point;)Z"⟩
def RX3 : String := "TapestryScene$Key"
def TX3 : u_T := fun k => match k with
  | 0 => ("TapestryScene$Key", "time", "I", true)
  | 1 => ("TapestryScene$Key", "value", "I", false)
  | _ => ("TapestryScene$Key", "next", "LTapestryScene$Key;", false)
def tyX3 : Nat → FieldType := fun k => match k with
  | 0 => .int
  | 1 => .int
  | _ => .object "TapestryScene$Key"
abbrev wsX30 : List Cond := u_ws RX3 TX3 3
theorem nmX3 : ∀ a, a < 3 → ∀ b, b < 3 → a ≠ b → (TX3 a).2.1 ≠ (TX3 b).2.1 := by decide +kernel
theorem tyX3_ok : ∀ k, k < 3 → parseFieldDescriptor (TX3 k).2.2.1 = some (tyX3 k) := by decide +kernel
abbrev cX3_init : ByteArray := prog_5_method_1_code
def yX3_init : MethodName := ⟨RX3, "<init>", "(II)V"⟩
def RX4 : String := "TapestryScene$Node"
def TX4 : u_T := fun k => match k with
  | 0 => ("TapestryScene$Node", "number", "I", true)
  | 1 => ("TapestryScene$Node", "kind", "I", true)
  | 2 => ("TapestryScene$Node", "frame", "LTapestryScene$Frame;", true)
  | 3 => ("TapestryScene$Node", "x", "LTapestryScene$Property;", true)
  | 4 => ("TapestryScene$Node", "y", "LTapestryScene$Property;", true)
  | 5 => ("TapestryScene$Node", "turns", "LTapestryScene$Property;", true)
  | 6 => ("TapestryScene$Node", "opacity", "LTapestryScene$Property;", true)
  | 7 => ("TapestryScene$Node", "over", "I", false)
  | 8 => ("TapestryScene$Node", "under", "I", false)
  | 9 => ("TapestryScene$Node", "isMirrored", "Z", false)
  | 10 => ("TapestryScene$Node", "layer", "I", false)
  | 11 => ("TapestryScene$Node", "isHidden", "Z", false)
  | 12 => ("TapestryScene$Node", "cut", "LTapestryScene$Frame;", false)
  | 13 => ("TapestryScene$Node", "isGone", "Z", false)
  | 14 => ("TapestryScene$Node", "parent", "LTapestryScene$Node;", false)
  | 15 => ("TapestryScene$Node", "firstHanging", "LTapestryScene$Node;", false)
  | 16 => ("TapestryScene$Node", "nextHanging", "LTapestryScene$Node;", false)
  | 17 => ("TapestryScene$Node", "before", "LTapestryScene$Node;", false)
  | _ => ("TapestryScene$Node", "place", "I", false)
def tyX4 : Nat → FieldType := fun k => match k with
  | 0 => .int
  | 1 => .int
  | 2 => .object "TapestryScene$Frame"
  | 3 => .object "TapestryScene$Property"
  | 4 => .object "TapestryScene$Property"
  | 5 => .object "TapestryScene$Property"
  | 6 => .object "TapestryScene$Property"
  | 7 => .int
  | 8 => .int
  | 9 => .boolean
  | 10 => .int
  | 11 => .boolean
  | 12 => .object "TapestryScene$Frame"
  | 13 => .boolean
  | 14 => .object "TapestryScene$Node"
  | 15 => .object "TapestryScene$Node"
  | 16 => .object "TapestryScene$Node"
  | 17 => .object "TapestryScene$Node"
  | _ => .int
abbrev wsX40 : List Cond := u_ws RX4 TX4 19
theorem nmX4 : ∀ a, a < 19 → ∀ b, b < 19 → a ≠ b → (TX4 a).2.1 ≠ (TX4 b).2.1 := by decide +kernel
theorem tyX4_ok : ∀ k, k < 19 → parseFieldDescriptor (TX4 k).2.2.1 = some (tyX4 k) := by decide +kernel
abbrev cX4_init : ByteArray := prog_6_method_1_code
def yX4_init : MethodName := ⟨RX4, "<init>", "(IIII)V"⟩
abbrev cX4_property : ByteArray := prog_6_method_2_code
def yX4_property : MethodName := ⟨RX4, "property", "(I)LTapestryScene$Property;"⟩
abbrev cX4_depth : ByteArray := prog_6_method_3_code
def yX4_depth : MethodName := ⟨RX4, "depth", "()I"⟩
abbrev cX4_isWithin : ByteArray := prog_6_method_4_code
def yX4_isWithin : MethodName := ⟨RX4, "isWithin", "(LTapestryScene$Node;)Z"⟩
abbrev cX4_takeIn : ByteArray := prog_6_method_5_code
def yX4_takeIn : MethodName := ⟨RX4, "takeIn", "(LTapestryScene$Node;)V"⟩
abbrev cX4_leaveParent : ByteArray := prog_6_method_6_code
def yX4_leaveParent : MethodName := ⟨RX4, "leaveParent", "()V"⟩
abbrev cX4_countHanging : ByteArray := prog_6_method_7_code
def yX4_countHanging : MethodName := ⟨RX4, "countHanging", "()I"⟩
abbrev cX4_vanish : ByteArray := prog_6_method_8_code
def yX4_vanish : MethodName := ⟨RX4, "vanish", "()V"⟩
abbrev cX4_isShownAt : ByteArray := prog_6_method_9_code
def yX4_isShownAt : MethodName := ⟨RX4, "isShownAt", "(I)Z"⟩
abbrev cX4_differs : ByteArray := prog_6_method_10_code
def yX4_differs : MethodName := ⟨RX4, "differs", "(II)Z"⟩
abbrev cX4_owns : ByteArray := prog_6_method_11_code
def yX4_owns : MethodName := ⟨RX4, "owns", "(LTapestryScene$Point;)Z"⟩
def RX5 : String := "TapestryScene$Point"
def TX5 : u_T := fun k => match k with
  | 0 => ("TapestryScene$Point", "x", "J", false)
  | 1 => ("TapestryScene$Point", "y", "J", false)
  | 2 => ("TapestryScene$Point", "under", "J", false)
  | _ => ("TapestryScene$Point", "isCutAway", "Z", false)
def tyX5 : Nat → FieldType := fun k => match k with
  | 0 => .long
  | 1 => .long
  | 2 => .long
  | _ => .boolean
abbrev wsX50 : List Cond := u_ws RX5 TX5 4
theorem nmX5 : ∀ a, a < 4 → ∀ b, b < 4 → a ≠ b → (TX5 a).2.1 ≠ (TX5 b).2.1 := by decide +kernel
theorem tyX5_ok : ∀ k, k < 4 → parseFieldDescriptor (TX5 k).2.2.1 = some (tyX5 k) := by decide +kernel
abbrev cX5_init : ByteArray := prog_7_method_1_code
def yX5_init : MethodName := ⟨RX5, "<init>", "()V"⟩
abbrev cX5_set : ByteArray := prog_7_method_2_code
def yX5_set : MethodName := ⟨RX5, "set", "(JJJ)V"⟩
abbrev cX5_leave : ByteArray := prog_7_method_3_code
def yX5_leave : MethodName := ⟨RX5, "leave", "(LTapestryScene$Node;I)V"⟩
abbrev cX5_enter : ByteArray := prog_7_method_4_code
def yX5_enter : MethodName := ⟨RX5, "enter", "(LTapestryScene$Node;I)V"⟩
abbrev cX5_turnQuarters : ByteArray := prog_7_method_5_code
def yX5_turnQuarters : MethodName := ⟨RX5, "turnQuarters", "(I)V"⟩
abbrev cX5_part : ByteArray := prog_7_method_6_code
def yX5_part : MethodName := ⟨RX5, "part", "(I)J"⟩
def RX6 : String := "TapestryScene$Property"
def TX6 : u_T := fun k => match k with
  | 0 => ("TapestryScene$Property", "least", "I", true)
  | 1 => ("TapestryScene$Property", "most", "I", true)
  | 2 => ("TapestryScene$Property", "own", "I", false)
  | 3 => ("TapestryScene$Property", "isTracked", "Z", false)
  | 4 => ("TapestryScene$Property", "isOver", "Z", false)
  | 5 => ("TapestryScene$Property", "ease", "I", false)
  | 6 => ("TapestryScene$Property", "end", "I", false)
  | 7 => ("TapestryScene$Property", "firstKey", "LTapestryScene$Key;", false)
  | _ => ("TapestryScene$Property", "keyCount", "I", false)
def tyX6 : Nat → FieldType := fun k => match k with
  | 0 => .int
  | 1 => .int
  | 2 => .int
  | 3 => .boolean
  | 4 => .boolean
  | 5 => .int
  | 6 => .int
  | 7 => .object "TapestryScene$Key"
  | _ => .int
abbrev wsX60 : List Cond := u_ws RX6 TX6 9
theorem nmX6 : ∀ a, a < 9 → ∀ b, b < 9 → a ≠ b → (TX6 a).2.1 ≠ (TX6 b).2.1 := by decide +kernel
theorem tyX6_ok : ∀ k, k < 9 → parseFieldDescriptor (TX6 k).2.2.1 = some (tyX6 k) := by decide +kernel
abbrev cX6_init : ByteArray := prog_8_method_1_code
def yX6_init : MethodName := ⟨RX6, "<init>", "(III)V"⟩
abbrev cX6_allows : ByteArray := prog_8_method_2_code
def yX6_allows : MethodName := ⟨RX6, "allows", "(I)Z"⟩
abbrev cX6_keyAt : ByteArray := prog_8_method_3_code
def yX6_keyAt : MethodName := ⟨RX6, "keyAt", "(I)LTapestryScene$Key;"⟩
abbrev cX6_putKey : ByteArray := prog_8_method_4_code
def yX6_putKey : MethodName := ⟨RX6, "putKey", "(II)V"⟩
abbrev cX6_dropKey : ByteArray := prog_8_method_5_code
def yX6_dropKey : MethodName := ⟨RX6, "dropKey", "(LTapestryScene$Key;)V"⟩
abbrev cX6_endTrack : ByteArray := prog_8_method_6_code
def yX6_endTrack : MethodName := ⟨RX6, "endTrack", "()V"⟩
abbrev cX6_nextKeyTime : ByteArray := prog_8_method_7_code
def yX6_nextKeyTime : MethodName := ⟨RX6, "nextKeyTime", "(I)I"⟩
abbrev cX6_differs : ByteArray := prog_8_method_8_code
def yX6_differs : MethodName := ⟨RX6, "differs", "(II)Z"⟩
abbrev cX6_at : ByteArray := prog_8_method_9_code
def yX6_at : MethodName := ⟨RX6, "at", "(I)I"⟩
abbrev cX6_countedTime : ByteArray := prog_8_method_10_code
def yX6_countedTime : MethodName := ⟨RX6, "countedTime", "(I)I"⟩
abbrev cX6_lastKeyUpTo : ByteArray := prog_8_method_11_code
def yX6_lastKeyUpTo : MethodName := ⟨RX6, "lastKeyUpTo", "(I)LTapestryScene$Key;"⟩
def RX7 : String := "TapestryScene"
def TX7 : u_T := fun k => match k with
  | 0 => ("TapestryScene", "nodes", "[LTapestryScene$Node;", true)
  | 1 => ("TapestryScene", "tracks", "[LTapestryScene$Property;", true)
  | 2 => ("TapestryScene", "whole", "LTapestryScene$Node;", true)
  | 3 => ("TapestryScene", "point", "LTapestryScene$Point;", true)
  | 4 => ("TapestryScene", "bounds", "LTapestryScene$Bounds;", true)
  | 5 => ("TapestryScene", "added", "I", false)
  | 6 => ("TapestryScene", "tracked", "I", false)
  | 7 => ("TapestryScene", "time", "I", false)
  | 8 => ("TapestryScene", "last", "LTapestryScene$Node;", false)
  | _ => ("TapestryScene", "ordered", "I", false)
def tyX7 : Nat → FieldType := fun k => match k with
  | 0 => .array (.object "TapestryScene$Node")
  | 1 => .array (.object "TapestryScene$Property")
  | 2 => .object "TapestryScene$Node"
  | 3 => .object "TapestryScene$Point"
  | 4 => .object "TapestryScene$Bounds"
  | 5 => .int
  | 6 => .int
  | 7 => .int
  | 8 => .object "TapestryScene$Node"
  | _ => .int
abbrev wsX70 : List Cond := u_ws RX7 TX7 10
theorem nmX7 : ∀ a, a < 10 → ∀ b, b < 10 → a ≠ b → (TX7 a).2.1 ≠ (TX7 b).2.1 := by decide +kernel
theorem tyX7_ok : ∀ k, k < 10 → parseFieldDescriptor (TX7 k).2.2.1 = some (tyX7 k) := by decide +kernel
abbrev cX7_init : ByteArray := prog_1_method_1_code
def yX7_init : MethodName := ⟨RX7, "<init>", "()V"⟩
abbrev cX7_add : ByteArray := prog_1_method_2_code
def yX7_add : MethodName := ⟨RX7, "add", "(IIII)I"⟩
abbrev cX7_remove : ByteArray := prog_1_method_3_code
def yX7_remove : MethodName := ⟨RX7, "remove", "(I)I"⟩
abbrev cX7_hang : ByteArray := prog_1_method_4_code
def yX7_hang : MethodName := ⟨RX7, "hang", "(II)I"⟩
abbrev cX7_move : ByteArray := prog_1_method_5_code
def yX7_move : MethodName := ⟨RX7, "move", "(III)I"⟩
abbrev cX7_scale : ByteArray := prog_1_method_6_code
def yX7_scale : MethodName := ⟨RX7, "scale", "(III)I"⟩
abbrev cX7_turn : ByteArray := prog_1_method_7_code
def yX7_turn : MethodName := ⟨RX7, "turn", "(IIZ)I"⟩
abbrev cX7_look : ByteArray := prog_1_method_8_code
def yX7_look : MethodName := ⟨RX7, "look", "(IIIZ)I"⟩
abbrev cX7_cut : ByteArray := prog_1_method_9_code
def yX7_cut : MethodName := ⟨RX7, "cut", "(IIIII)Z"⟩
abbrev cX7_uncut : ByteArray := prog_1_method_10_code
def yX7_uncut : MethodName := ⟨RX7, "uncut", "(I)Z"⟩
abbrev cX7_added : ByteArray := prog_1_method_11_code
def yX7_added : MethodName := ⟨RX7, "added", "()I"⟩
abbrev cX7_nodes : ByteArray := prog_1_method_12_code
def yX7_nodes : MethodName := ⟨RX7, "nodes", "()I"⟩
abbrev cX7_parent : ByteArray := prog_1_method_13_code
def yX7_parent : MethodName := ⟨RX7, "parent", "(I)I"⟩
abbrev cX7_level : ByteArray := prog_1_method_14_code
def yX7_level : MethodName := ⟨RX7, "level", "(I)I"⟩
abbrev cX7_common : ByteArray := prog_1_method_15_code
def yX7_common : MethodName := ⟨RX7, "common", "(II)I"⟩
abbrev cX7_track : ByteArray := prog_1_method_16_code
def yX7_track : MethodName := ⟨RX7, "track", "(IIII)I"⟩
abbrev cX7_key : ByteArray := prog_1_method_17_code
def yX7_key : MethodName := ⟨RX7, "key", "(III)I"⟩
abbrev cX7_unkey : ByteArray := prog_1_method_18_code
def yX7_unkey : MethodName := ⟨RX7, "unkey", "(II)I"⟩
abbrev cX7_setTime : ByteArray := prog_1_method_19_code
def yX7_setTime : MethodName := ⟨RX7, "setTime", "(I)I"⟩
abbrev cX7_tracks : ByteArray := prog_1_method_20_code
def yX7_tracks : MethodName := ⟨RX7, "tracks", "()I"⟩
abbrev cX7_now : ByteArray := prog_1_method_21_code
def yX7_now : MethodName := ⟨RX7, "now", "(II)I"⟩
abbrev cX7_nextKey : ByteArray := prog_1_method_22_code
def yX7_nextKey : MethodName := ⟨RX7, "nextKey", "()I"⟩
abbrev cX7_toWhole : ByteArray := prog_1_method_23_code
def yX7_toWhole : MethodName := ⟨RX7, "toWhole", "(IIII)I"⟩
abbrev cX7_fromWhole : ByteArray := prog_1_method_24_code
def yX7_fromWhole : MethodName := ⟨RX7, "fromWhole", "(IIII)I"⟩
abbrev cX7_between : ByteArray := prog_1_method_25_code
def yX7_between : MethodName := ⟨RX7, "between", "(IIIII)I"⟩
abbrev cX7_bound : ByteArray := prog_1_method_26_code
def yX7_bound : MethodName := ⟨RX7, "bound", "(IIZ)I"⟩
abbrev cX7_isShown : ByteArray := prog_1_method_27_code
def yX7_isShown : MethodName := ⟨RX7, "isShown", "(I)Z"⟩
abbrev cX7_strength : ByteArray := prog_1_method_28_code
def yX7_strength : MethodName := ⟨RX7, "strength", "(I)I"⟩
abbrev cX7_orderAt : ByteArray := prog_1_method_29_code
def yX7_orderAt : MethodName := ⟨RX7, "orderAt", "(I)I"⟩
abbrev cX7_placeOf : ByteArray := prog_1_method_30_code
def yX7_placeOf : MethodName := ⟨RX7, "placeOf", "(I)I"⟩
abbrev cX7_covers : ByteArray := prog_1_method_31_code
def yX7_covers : MethodName := ⟨RX7, "covers", "(IIII)Z"⟩
abbrev cX7_pick : ByteArray := prog_1_method_32_code
def yX7_pick : MethodName := ⟨RX7, "pick", "(III)I"⟩
abbrev cX7_many : ByteArray := prog_1_method_33_code
def yX7_many : MethodName := ⟨RX7, "many", "(III)I"⟩
abbrev cX7_through : ByteArray := prog_1_method_34_code
def yX7_through : MethodName := ⟨RX7, "through", "(III)I"⟩
abbrev cX7_changes : ByteArray := prog_1_method_35_code
def yX7_changes : MethodName := ⟨RX7, "changes", "(II)I"⟩
abbrev cX7_pickWithout : ByteArray := prog_1_method_36_code
def yX7_pickWithout : MethodName := ⟨RX7, "pickWithout", "(IIII)I"⟩
abbrev cX7_nextPick : ByteArray := prog_1_method_37_code
def yX7_nextPick : MethodName := ⟨RX7, "nextPick", "(IIII)I"⟩
abbrev cX7_size : ByteArray := prog_1_method_38_code
def yX7_size : MethodName := ⟨RX7, "size", "(I)D"⟩
abbrev cX7_digest : ByteArray := prog_1_method_39_code
def yX7_digest : MethodName := ⟨RX7, "digest", "()J"⟩
abbrev cX7_nodeOrNull : ByteArray := prog_1_method_40_code
def yX7_nodeOrNull : MethodName := ⟨RX7, "nodeOrNull", "(I)LTapestryScene$Node;"⟩
abbrev cX7_found : ByteArray := prog_1_method_41_code
def yX7_found : MethodName := ⟨RX7, "found", "(I)LTapestryScene$Node;"⟩
abbrev cX7_foundBelowWhole : ByteArray := prog_1_method_42_code
def yX7_foundBelowWhole : MethodName := ⟨RX7, "foundBelowWhole", "(I)LTapestryScene$Node;"⟩
abbrev cX7_foundTrack : ByteArray := prog_1_method_43_code
def yX7_foundTrack : MethodName := ⟨RX7, "foundTrack", "(I)LTapestryScene$Property;"⟩
abbrev cX7_isFrom : ByteArray := prog_1_method_44_code
def yX7_isFrom : MethodName := ⟨RX7, "isFrom", "(III)Z"⟩
abbrev cX7_checkTime : ByteArray := prog_1_method_45_code
def yX7_checkTime : MethodName := ⟨RX7, "checkTime", "(I)V"⟩
abbrev cX7_checkPoint : ByteArray := prog_1_method_46_code
def yX7_checkPoint : MethodName := ⟨RX7, "checkPoint", "(III)V"⟩
abbrev cX7_checkSpot : ByteArray := prog_1_method_47_code
def yX7_checkSpot : MethodName := ⟨RX7, "checkSpot", "(III)V"⟩
abbrev cX7_parentNumber : ByteArray := prog_1_method_48_code
def yX7_parentNumber : MethodName := ⟨RX7, "parentNumber", "(LTapestryScene$Node;)I"⟩
abbrev cX7_depthUnder : ByteArray := prog_1_method_49_code
def yX7_depthUnder : MethodName := ⟨RX7, "depthUnder", "(LTapestryScene$Node;)I"⟩
abbrev cX7_layOrder : ByteArray := prog_1_method_50_code
def yX7_layOrder : MethodName := ⟨RX7, "layOrder", "()V"⟩
abbrev cX7_lay : ByteArray := prog_1_method_51_code
def yX7_lay : MethodName := ⟨RX7, "lay", "(LTapestryScene$Node;I)V"⟩
abbrev cX7_layHanging : ByteArray := prog_1_method_52_code
def yX7_layHanging : MethodName := ⟨RX7, "layHanging", "(LTapestryScene$Node;III)V"⟩
abbrev cX7_raise : ByteArray := prog_1_method_53_code
def yX7_raise : MethodName := ⟨RX7, "raise", "(LTapestryScene$Node;II)V"⟩
abbrev cX7_sink : ByteArray := prog_1_method_54_code
def yX7_sink : MethodName := ⟨RX7, "sink", "(LTapestryScene$Point;LTapestryScene$Node;II)V"⟩
abbrev cX7_gatherBounds : ByteArray := prog_1_method_55_code
def yX7_gatherBounds : MethodName := ⟨RX7, "gatherBounds", "(LTapestryScene$Node;)V"⟩
abbrev cX7_strengthOf : ByteArray := prog_1_method_56_code
def yX7_strengthOf : MethodName := ⟨RX7, "strengthOf", "(LTapestryScene$Node;II)I"⟩
abbrev cX7_coversAt : ByteArray := prog_1_method_57_code
def yX7_coversAt : MethodName := ⟨RX7, "coversAt", "(LTapestryScene$Node;IIII)Z"⟩
abbrev cX7_topAt : ByteArray := prog_1_method_58_code
def yX7_topAt : MethodName := ⟨RX7, "topAt", "(IIIILTapestryScene$Node;)I"⟩
abbrev cX7_isToldAnew : ByteArray := prog_1_method_59_code
def yX7_isToldAnew : MethodName := ⟨RX7, "isToldAnew", "(I)Z"⟩
abbrev cX7_mixed : ByteArray := prog_1_method_60_code
def yX7_mixed : MethodName := ⟨RX7, "mixed", "(JJ)J"⟩
abbrev cX7_mixedWithNode : ByteArray := prog_1_method_61_code
def yX7_mixedWithNode : MethodName := ⟨RX7, "mixedWithNode", "(JLTapestryScene$Node;)J"⟩
abbrev cX7_mixedWithPoint : ByteArray := prog_1_method_62_code
def yX7_mixedWithPoint : MethodName := ⟨RX7, "mixedWithPoint", "(J)J"⟩
abbrev cX7_commonDivisor : ByteArray := prog_1_method_63_code
def yX7_commonDivisor : MethodName := ⟨RX7, "commonDivisor", "(JJ)J"⟩
def RX8 : String := "TapestrySceneModel"
def TX8 : u_T := fun k => match k with
  | 0 => ("TapestrySceneModel", "thrown", "I", false)
  | 1 => ("TapestrySceneModel", "added", "I", false)
  | 2 => ("TapestrySceneModel", "isGone", "[Z", true)
  | 3 => ("TapestrySceneModel", "isMirrored", "[Z", true)
  | 4 => ("TapestrySceneModel", "isHidden", "[Z", true)
  | 5 => ("TapestrySceneModel", "isCut", "[Z", true)
  | 6 => ("TapestrySceneModel", "parent", "[I", true)
  | 7 => ("TapestrySceneModel", "kind", "[I", true)
  | 8 => ("TapestrySceneModel", "width", "[I", true)
  | 9 => ("TapestrySceneModel", "height", "[I", true)
  | 10 => ("TapestrySceneModel", "over", "[I", true)
  | 11 => ("TapestrySceneModel", "under", "[I", true)
  | 12 => ("TapestrySceneModel", "layer", "[I", true)
  | 13 => ("TapestrySceneModel", "hung", "[I", true)
  | 14 => ("TapestrySceneModel", "own", "[I", true)
  | 15 => ("TapestrySceneModel", "cut", "[I", true)
  | 16 => ("TapestrySceneModel", "hangings", "I", false)
  | 17 => ("TapestrySceneModel", "tracks", "I", false)
  | 18 => ("TapestrySceneModel", "node", "[I", true)
  | 19 => ("TapestrySceneModel", "property", "[I", true)
  | 20 => ("TapestrySceneModel", "ease", "[I", true)
  | 21 => ("TapestrySceneModel", "end", "[I", true)
  | 22 => ("TapestrySceneModel", "keys", "[I", true)
  | 23 => ("TapestrySceneModel", "keyTime", "[I", true)
  | 24 => ("TapestrySceneModel", "keyValue", "[I", true)
  | _ => ("TapestrySceneModel", "time", "I", false)
def tyX8 : Nat → FieldType := fun k => match k with
  | 0 => .int
  | 1 => .int
  | 2 => .array .boolean
  | 3 => .array .boolean
  | 4 => .array .boolean
  | 5 => .array .boolean
  | 6 => .array .int
  | 7 => .array .int
  | 8 => .array .int
  | 9 => .array .int
  | 10 => .array .int
  | 11 => .array .int
  | 12 => .array .int
  | 13 => .array .int
  | 14 => .array .int
  | 15 => .array .int
  | 16 => .int
  | 17 => .int
  | 18 => .array .int
  | 19 => .array .int
  | 20 => .array .int
  | 21 => .array .int
  | 22 => .array .int
  | 23 => .array .int
  | 24 => .array .int
  | _ => .int
abbrev wsX80 : List Cond := u_ws RX8 TX8 26
theorem nmX8 : ∀ a, a < 26 → ∀ b, b < 26 → a ≠ b → (TX8 a).2.1 ≠ (TX8 b).2.1 := by decide +kernel
theorem tyX8_ok : ∀ k, k < 26 → parseFieldDescriptor (TX8 k).2.2.1 = some (tyX8 k) := by decide +kernel
abbrev cX8_init : ByteArray := prog_10_method_1_code
def yX8_init : MethodName := ⟨RX8, "<init>", "()V"⟩
abbrev cX8_thrown : ByteArray := prog_10_method_2_code
def yX8_thrown : MethodName := ⟨RX8, "thrown", "()I"⟩
abbrev cX8_no : ByteArray := prog_10_method_3_code
def yX8_no : MethodName := ⟨RX8, "no", "(I)I"⟩
abbrev cX8_isNot : ByteArray := prog_10_method_4_code
def yX8_isNot : MethodName := ⟨RX8, "isNot", "(I)Z"⟩
abbrev cX8_ok : ByteArray := prog_10_method_5_code
def yX8_ok : MethodName := ⟨RX8, "ok", "(I)I"⟩
abbrev cX8_isIn : ByteArray := prog_10_method_6_code
def yX8_isIn : MethodName := ⟨RX8, "isIn", "(III)Z"⟩
abbrev cX8_isNode : ByteArray := prog_10_method_7_code
def yX8_isNode : MethodName := ⟨RX8, "isNode", "(I)Z"⟩
abbrev cX8_levelNow : ByteArray := prog_10_method_8_code
def yX8_levelNow : MethodName := ⟨RX8, "levelNow", "(I)I"⟩
abbrev cX8_isWithin : ByteArray := prog_10_method_9_code
def yX8_isWithin : MethodName := ⟨RX8, "isWithin", "(II)Z"⟩
abbrev cX8_hanging : ByteArray := prog_10_method_10_code
def yX8_hanging : MethodName := ⟨RX8, "hanging", "(I)I"⟩
abbrev cX8_add : ByteArray := prog_10_method_11_code
def yX8_add : MethodName := ⟨RX8, "add", "(IIII)I"⟩
abbrev cX8_remove : ByteArray := prog_10_method_12_code
def yX8_remove : MethodName := ⟨RX8, "remove", "(I)I"⟩
abbrev cX8_hang : ByteArray := prog_10_method_13_code
def yX8_hang : MethodName := ⟨RX8, "hang", "(II)I"⟩
abbrev cX8_refusal : ByteArray := prog_10_method_14_code
def yX8_refusal : MethodName := ⟨RX8, "refusal", "(IZ)I"⟩
abbrev cX8_move : ByteArray := prog_10_method_15_code
def yX8_move : MethodName := ⟨RX8, "move", "(III)I"⟩
abbrev cX8_scale : ByteArray := prog_10_method_16_code
def yX8_scale : MethodName := ⟨RX8, "scale", "(III)I"⟩
abbrev cX8_turn : ByteArray := prog_10_method_17_code
def yX8_turn : MethodName := ⟨RX8, "turn", "(IIZ)I"⟩
abbrev cX8_look : ByteArray := prog_10_method_18_code
def yX8_look : MethodName := ⟨RX8, "look", "(IIIZ)I"⟩
abbrev cX8_cut : ByteArray := prog_10_method_19_code
def yX8_cut : MethodName := ⟨RX8, "cut", "(IIIII)Z"⟩
abbrev cX8_uncut : ByteArray := prog_10_method_20_code
def yX8_uncut : MethodName := ⟨RX8, "uncut", "(I)Z"⟩
abbrev cX8_added : ByteArray := prog_10_method_21_code
def yX8_added : MethodName := ⟨RX8, "added", "()I"⟩
abbrev cX8_nodesNow : ByteArray := prog_10_method_22_code
def yX8_nodesNow : MethodName := ⟨RX8, "nodesNow", "()I"⟩
abbrev cX8_nodes : ByteArray := prog_10_method_23_code
def yX8_nodes : MethodName := ⟨RX8, "nodes", "()I"⟩
abbrev cX8_parent : ByteArray := prog_10_method_24_code
def yX8_parent : MethodName := ⟨RX8, "parent", "(I)I"⟩
abbrev cX8_level : ByteArray := prog_10_method_25_code
def yX8_level : MethodName := ⟨RX8, "level", "(I)I"⟩
abbrev cX8_common : ByteArray := prog_10_method_26_code
def yX8_common : MethodName := ⟨RX8, "common", "(II)I"⟩
abbrev cX8_isValue : ByteArray := prog_10_method_27_code
def yX8_isValue : MethodName := ⟨RX8, "isValue", "(II)Z"⟩
abbrev cX8_track : ByteArray := prog_10_method_28_code
def yX8_track : MethodName := ⟨RX8, "track", "(IIII)I"⟩
abbrev cX8_trackOf : ByteArray := prog_10_method_29_code
def yX8_trackOf : MethodName := ⟨RX8, "trackOf", "(II)I"⟩
abbrev cX8_isTrack : ByteArray := prog_10_method_30_code
def yX8_isTrack : MethodName := ⟨RX8, "isTrack", "(I)Z"⟩
abbrev cX8_keyPlace : ByteArray := prog_10_method_31_code
def yX8_keyPlace : MethodName := ⟨RX8, "keyPlace", "(II)I"⟩
abbrev cX8_hasKey : ByteArray := prog_10_method_32_code
def yX8_hasKey : MethodName := ⟨RX8, "hasKey", "(II)Z"⟩
abbrev cX8_key : ByteArray := prog_10_method_33_code
def yX8_key : MethodName := ⟨RX8, "key", "(III)I"⟩
abbrev cX8_unkey : ByteArray := prog_10_method_34_code
def yX8_unkey : MethodName := ⟨RX8, "unkey", "(II)I"⟩
abbrev cX8_setTime : ByteArray := prog_10_method_35_code
def yX8_setTime : MethodName := ⟨RX8, "setTime", "(I)I"⟩
abbrev cX8_tracks : ByteArray := prog_10_method_36_code
def yX8_tracks : MethodName := ⟨RX8, "tracks", "()I"⟩
abbrev cX8_tells : ByteArray := prog_10_method_37_code
def yX8_tells : MethodName := ⟨RX8, "tells", "(II)I"⟩
abbrev cX8_valueAt : ByteArray := prog_10_method_38_code
def yX8_valueAt : MethodName := ⟨RX8, "valueAt", "(III)I"⟩
abbrev cX8_has : ByteArray := prog_10_method_39_code
def yX8_has : MethodName := ⟨RX8, "has", "(II)I"⟩
abbrev cX8_now : ByteArray := prog_10_method_40_code
def yX8_now : MethodName := ⟨RX8, "now", "(II)I"⟩
abbrev cX8_nextKeyNow : ByteArray := prog_10_method_41_code
def yX8_nextKeyNow : MethodName := ⟨RX8, "nextKeyNow", "()I"⟩
abbrev cX8_nextKey : ByteArray := prog_10_method_42_code
def yX8_nextKey : MethodName := ⟨RX8, "nextKey", "()I"⟩
abbrev cX8_up : ByteArray := prog_10_method_43_code
def yX8_up : MethodName := ⟨RX8, "up", "(I[J)V"⟩
abbrev cX8_down : ByteArray := prog_10_method_44_code
def yX8_down : MethodName := ⟨RX8, "down", "(I[J)V"⟩
abbrev cX8_upAll : ByteArray := prog_10_method_45_code
def yX8_upAll : MethodName := ⟨RX8, "upAll", "(I[J)V"⟩
abbrev cX8_downAll : ByteArray := prog_10_method_46_code
def yX8_downAll : MethodName := ⟨RX8, "downAll", "(I[J)V"⟩
abbrev cX8_part : ByteArray := prog_10_method_47_code
def yX8_part : MethodName := ⟨RX8, "part", "([JI)I"⟩
abbrev cX8_asked : ByteArray := prog_10_method_48_code
def yX8_asked : MethodName := ⟨RX8, "asked", "(ZIII)I"⟩
abbrev cX8_point : ByteArray := prog_10_method_49_code
def yX8_point : MethodName := ⟨RX8, "point", "(JJJ)[J"⟩
abbrev cX8_toWholeNow : ByteArray := prog_10_method_50_code
def yX8_toWholeNow : MethodName := ⟨RX8, "toWholeNow", "(IIII)I"⟩
abbrev cX8_fromWholeNow : ByteArray := prog_10_method_51_code
def yX8_fromWholeNow : MethodName := ⟨RX8, "fromWholeNow", "(IIII)I"⟩
abbrev cX8_toWhole : ByteArray := prog_10_method_52_code
def yX8_toWhole : MethodName := ⟨RX8, "toWhole", "(IIII)I"⟩
abbrev cX8_fromWhole : ByteArray := prog_10_method_53_code
def yX8_fromWhole : MethodName := ⟨RX8, "fromWhole", "(IIII)I"⟩
abbrev cX8_between : ByteArray := prog_10_method_54_code
def yX8_between : MethodName := ⟨RX8, "between", "(IIIII)I"⟩
abbrev cX8_boundNow : ByteArray := prog_10_method_55_code
def yX8_boundNow : MethodName := ⟨RX8, "boundNow", "(IIZ)I"⟩
abbrev cX8_bound : ByteArray := prog_10_method_56_code
def yX8_bound : MethodName := ⟨RX8, "bound", "(IIZ)I"⟩
abbrev cX8_isShownNow : ByteArray := prog_10_method_57_code
def yX8_isShownNow : MethodName := ⟨RX8, "isShownNow", "(I)Z"⟩
abbrev cX8_isShown : ByteArray := prog_10_method_58_code
def yX8_isShown : MethodName := ⟨RX8, "isShown", "(I)Z"⟩
abbrev cX8_strengthNow : ByteArray := prog_10_method_59_code
def yX8_strengthNow : MethodName := ⟨RX8, "strengthNow", "(I)I"⟩
abbrev cX8_strength : ByteArray := prog_10_method_60_code
def yX8_strength : MethodName := ⟨RX8, "strength", "(I)I"⟩
abbrev cX8_isAhead : ByteArray := prog_10_method_61_code
def yX8_isAhead : MethodName := ⟨RX8, "isAhead", "(II)Z"⟩
abbrev cX8_order : ByteArray := prog_10_method_62_code
def yX8_order : MethodName := ⟨RX8, "order", "(I[II)I"⟩
abbrev cX8_ordered : ByteArray := prog_10_method_63_code
def yX8_ordered : MethodName := ⟨RX8, "ordered", "()[I"⟩
abbrev cX8_orderAt : ByteArray := prog_10_method_64_code
def yX8_orderAt : MethodName := ⟨RX8, "orderAt", "(I)I"⟩
abbrev cX8_placeIn : ByteArray := prog_10_method_65_code
def yX8_placeIn : MethodName := ⟨RX8, "placeIn", "([II)I"⟩
abbrev cX8_placeOf : ByteArray := prog_10_method_66_code
def yX8_placeOf : MethodName := ⟨RX8, "placeOf", "(I)I"⟩
abbrev cX8_coversNow : ByteArray := prog_10_method_67_code
def yX8_coversNow : MethodName := ⟨RX8, "coversNow", "(IIII)Z"⟩
abbrev cX8_isPoint : ByteArray := prog_10_method_68_code
def yX8_isPoint : MethodName := ⟨RX8, "isPoint", "(III)Z"⟩
abbrev cX8_covers : ByteArray := prog_10_method_69_code
def yX8_covers : MethodName := ⟨RX8, "covers", "(IIII)Z"⟩
abbrev cX8_pickNow : ByteArray := prog_10_method_70_code
def yX8_pickNow : MethodName := ⟨RX8, "pickNow", "(III)I"⟩
abbrev cX8_pick : ByteArray := prog_10_method_71_code
def yX8_pick : MethodName := ⟨RX8, "pick", "(III)I"⟩
abbrev cX8_many : ByteArray := prog_10_method_72_code
def yX8_many : MethodName := ⟨RX8, "many", "(III)I"⟩
abbrev cX8_through : ByteArray := prog_10_method_73_code
def yX8_through : MethodName := ⟨RX8, "through", "(III)I"⟩
abbrev cX8_isOther : ByteArray := prog_10_method_74_code
def yX8_isOther : MethodName := ⟨RX8, "isOther", "(III)Z"⟩
abbrev cX8_changesNow : ByteArray := prog_10_method_75_code
def yX8_changesNow : MethodName := ⟨RX8, "changesNow", "(II)I"⟩
abbrev cX8_changes : ByteArray := prog_10_method_76_code
def yX8_changes : MethodName := ⟨RX8, "changes", "(II)I"⟩
abbrev cX8_pickWithout : ByteArray := prog_10_method_77_code
def yX8_pickWithout : MethodName := ⟨RX8, "pickWithout", "(IIII)I"⟩
abbrev cX8_nextPick : ByteArray := prog_10_method_78_code
def yX8_nextPick : MethodName := ⟨RX8, "nextPick", "(IIII)I"⟩
abbrev cX8_size : ByteArray := prog_10_method_79_code
def yX8_size : MethodName := ⟨RX8, "size", "(I)D"⟩
abbrev cX8_digest : ByteArray := prog_10_method_80_code
def yX8_digest : MethodName := ⟨RX8, "digest", "()J"⟩
def RJ9 : String := "java/lang/Math"
def TJ9 : u_T := fun k => match k with
  | _ => ("", "", "", false)
def tyJ9 : Nat → FieldType := fun k => match k with
  | _ => .int
abbrev wsJ90 : List Cond := u_ws RJ9 TJ9 0
theorem nmJ9 : ∀ a, a < 0 → ∀ b, b < 0 → a ≠ b → (TJ9 a).2.1 ≠ (TJ9 b).2.1 := by decide +kernel
theorem tyJ9_ok : ∀ k, k < 0 → parseFieldDescriptor (TJ9 k).2.2.1 = some (tyJ9 k) := by decide +kernel
abbrev cJ9_abs_067f4 : ByteArray := prog_15_method_61_code
def yJ9_abs_067f4 : MethodName := ⟨RJ9, "abs", "(J)J"⟩
abbrev cJ9_max_7cf53 : ByteArray := prog_15_method_65_code
def yJ9_max_7cf53 : MethodName := ⟨RJ9, "max", "(II)I"⟩
abbrev cJ9_min_7cf53 : ByteArray := prog_15_method_69_code
def yJ9_min_7cf53 : MethodName := ⟨RJ9, "min", "(II)I"⟩
def RJ0 : String := "java/lang/String"
def TJ0 : u_T := fun k => match k with
  | _ => ("", "", "", false)
def tyJ0 : Nat → FieldType := fun k => match k with
  | _ => .int
abbrev wsJ00 : List Cond := u_ws RJ0 TJ0 0
theorem nmJ0 : ∀ a, a < 0 → ∀ b, b < 0 → a ≠ b → (TJ0 a).2.1 ≠ (TJ0 b).2.1 := by decide +kernel
theorem tyJ0_ok : ∀ k, k < 0 → parseFieldDescriptor (TJ0 k).2.2.1 = some (tyJ0 k) := by decide +kernel
def RJ10 : String := "java/lang/System"
def TJ10 : u_T := fun k => match k with
  | _ => ("", "", "", false)
def tyJ10 : Nat → FieldType := fun k => match k with
  | _ => .int
abbrev wsJ100 : List Cond := u_ws RJ10 TJ10 0
theorem nmJ10 : ∀ a, a < 0 → ∀ b, b < 0 → a ≠ b → (TJ10 a).2.1 ≠ (TJ10 b).2.1 := by decide +kernel
theorem tyJ10_ok : ∀ k, k < 0 → parseFieldDescriptor (TJ10 k).2.2.1 = some (tyJ10 k) := by decide +kernel
def RL : String := "TapestrySceneLaw"
abbrev cL_add : ByteArray := method_3_code
def yL_add : MethodName := ⟨RL, "add", "(LTapestryScene;IIII[J)I"⟩
abbrev cL_remove : ByteArray := method_4_code
def yL_remove : MethodName := ⟨RL, "remove", "(LTapestryScene;I[J)I"⟩
abbrev cL_hang : ByteArray := method_5_code
def yL_hang : MethodName := ⟨RL, "hang", "(LTapestryScene;II[J)I"⟩
abbrev cL_move : ByteArray := method_6_code
def yL_move : MethodName := ⟨RL, "move", "(LTapestryScene;III[J)I"⟩
abbrev cL_scale : ByteArray := method_7_code
def yL_scale : MethodName := ⟨RL, "scale", "(LTapestryScene;III[J)I"⟩
abbrev cL_turn : ByteArray := method_8_code
def yL_turn : MethodName := ⟨RL, "turn", "(LTapestryScene;IIZ[J)I"⟩
abbrev cL_look : ByteArray := method_9_code
def yL_look : MethodName := ⟨RL, "look", "(LTapestryScene;IIIZ[J)I"⟩
abbrev cL_cut : ByteArray := method_10_code
def yL_cut : MethodName := ⟨RL, "cut", "(LTapestryScene;IIIII[J)I"⟩
abbrev cL_uncut : ByteArray := method_11_code
def yL_uncut : MethodName := ⟨RL, "uncut", "(LTapestryScene;I[J)I"⟩
abbrev cL_parent : ByteArray := method_12_code
def yL_parent : MethodName := ⟨RL, "parent", "(LTapestryScene;I[J)I"⟩
abbrev cL_level : ByteArray := method_13_code
def yL_level : MethodName := ⟨RL, "level", "(LTapestryScene;I[J)I"⟩
abbrev cL_common : ByteArray := method_14_code
def yL_common : MethodName := ⟨RL, "common", "(LTapestryScene;II[J)I"⟩
abbrev cL_track : ByteArray := method_15_code
def yL_track : MethodName := ⟨RL, "track", "(LTapestryScene;IIII[J)I"⟩
abbrev cL_key : ByteArray := method_16_code
def yL_key : MethodName := ⟨RL, "key", "(LTapestryScene;III[J)I"⟩
abbrev cL_unkey : ByteArray := method_17_code
def yL_unkey : MethodName := ⟨RL, "unkey", "(LTapestryScene;II[J)I"⟩
abbrev cL_setTime : ByteArray := method_18_code
def yL_setTime : MethodName := ⟨RL, "setTime", "(LTapestryScene;I[J)I"⟩
abbrev cL_now : ByteArray := method_19_code
def yL_now : MethodName := ⟨RL, "now", "(LTapestryScene;II[J)I"⟩
abbrev cL_toWhole : ByteArray := method_20_code
def yL_toWhole : MethodName := ⟨RL, "toWhole", "(LTapestryScene;IIII[J)I"⟩
abbrev cL_fromWhole : ByteArray := method_21_code
def yL_fromWhole : MethodName := ⟨RL, "fromWhole", "(LTapestryScene;IIII[J)I"⟩
abbrev cL_between : ByteArray := method_22_code
def yL_between : MethodName := ⟨RL, "between", "(LTapestryScene;IIIII[J)I"⟩
abbrev cL_bound : ByteArray := method_23_code
def yL_bound : MethodName := ⟨RL, "bound", "(LTapestryScene;IIZ[J)I"⟩
abbrev cL_isShown : ByteArray := method_24_code
def yL_isShown : MethodName := ⟨RL, "isShown", "(LTapestryScene;I[J)I"⟩
abbrev cL_strength : ByteArray := method_25_code
def yL_strength : MethodName := ⟨RL, "strength", "(LTapestryScene;I[J)I"⟩
abbrev cL_orderAt : ByteArray := method_26_code
def yL_orderAt : MethodName := ⟨RL, "orderAt", "(LTapestryScene;I[J)I"⟩
abbrev cL_placeOf : ByteArray := method_27_code
def yL_placeOf : MethodName := ⟨RL, "placeOf", "(LTapestryScene;I[J)I"⟩
abbrev cL_covers : ByteArray := method_28_code
def yL_covers : MethodName := ⟨RL, "covers", "(LTapestryScene;IIII[J)I"⟩
abbrev cL_pick : ByteArray := method_29_code
def yL_pick : MethodName := ⟨RL, "pick", "(LTapestryScene;III[J)I"⟩
abbrev cL_many : ByteArray := method_30_code
def yL_many : MethodName := ⟨RL, "many", "(LTapestryScene;III[J)I"⟩
abbrev cL_through : ByteArray := method_31_code
def yL_through : MethodName := ⟨RL, "through", "(LTapestryScene;III[J)I"⟩
abbrev cL_changes : ByteArray := method_32_code
def yL_changes : MethodName := ⟨RL, "changes", "(LTapestryScene;II[J)I"⟩
abbrev cL_pickWithout : ByteArray := method_33_code
def yL_pickWithout : MethodName := ⟨RL, "pickWithout", "(LTapestryScene;IIII[J)I"⟩
abbrev cL_nextPick : ByteArray := method_34_code
def yL_nextPick : MethodName := ⟨RL, "nextPick", "(LTapestryScene;IIII[J)I"⟩
abbrev cL_size : ByteArray := method_35_code
def yL_size : MethodName := ⟨RL, "size", "(LTapestryScene;I[D)I"⟩
abbrev cL_law : ByteArray := code
def yL_law : MethodName := ⟨RL, "law", "([I)Z"⟩
def fcl : List vw_C := [(RX0, TX0, 4), (RX1, TX1, 2), (RX2, TX2, 4), (RX3, TX3, 3), (RX4, TX4, 19), (RX5, TX5, 4), (RX6, TX6, 9), (RX7, TX7, 10), (RX8, TX8, 26)]
def ftl : List FieldType := [.int, .long, .boolean, .double, .object "TapestryScene$Node", .object "TapestryScene$Property"]
def WA : List Cond := lw_tbl.filter goodWord
theorem wIn {w : Cond} (i : Nat) (h : lw_tbl[i]? = some w) (g : goodWord w = true) : w ∈ WA := List.mem_filter.mpr ⟨List.mem_of_getElem? h, g⟩
def fStr : List (String × Nat × String) := [("TapestryScene", 349, "a time is not 0 to 9999"), ("TapestryScene", 343, "no such node, or it is gone"), ("TapestryScene", 62, "no such kind"), ("TapestryScene", 67, "width or height is not 1 to 200"), ("TapestryScene", 75, "30 nodes were added, or the parent is too deep"), ("TapestryScene", 345, "it is the whole"), ("TapestryScene", 104, "a node can't hang in itself, and the whole in none"), ("TapestryScene", 110, "a level would be above 4"), ("TapestryScene", 126, "x or y is not -200 to 200"), ("TapestryScene", 131, "over or under is not 1 to 4"), ("TapestryScene", 142, "turns is not 0 to 3"), ("TapestryScene", 151, "layer is not -9 to 9, or opacity not 0 to 100"), ("TapestryScene", 159, "left or right is not -200 to 200, or left above right"), ("TapestryScene", 161, "top or bottom is not -200 to 200, or top above bottom"), ("TapestryScene", 180, "no such property, ease or end"), ("TapestryScene", 188, "the whole, 12 tracks, or one of this property"), ("TapestryScene", 347, "no such track"), ("TapestryScene", 199, "time is not 0 to 999, or the property can't have the value"), ("TapestryScene", 211, "the node is gone, or there are 8 keys"), ("TapestryScene", 217, "no key at this time"), ("TapestryScene", 235, "no such property"), ("TapestryScene", 351, "x or y is not -1000 to 1000"), ("TapestryScene", 353, "what is not 0 to 3"), ("TapestryScene", 264, "side is not 0 to 3"), ("TapestryScene", 292, "no such place"), ("TapestryScene", 355, "x or y is not -10000 to 10000"), ("TapestryScene", 357, "under is not 1 to 60"), ("TapestryScene", 310, "most is not 1 to 100")]
def fNc : List (String × String) := [("java/lang/IllegalArgumentException", "java/lang/IndexOutOfBoundsException"), ("java/lang/IllegalArgumentException", "java/lang/IllegalStateException"), ("java/lang/IllegalStateException", "java/lang/IndexOutOfBoundsException"), ("java/lang/IllegalStateException", "java/lang/IllegalArgumentException"), ("java/lang/IndexOutOfBoundsException", "java/lang/IllegalArgumentException"), ("java/lang/IndexOutOfBoundsException", "java/lang/IllegalStateException")]
def fNgood (w : Cond) : Bool := match w with
  | .methodLinkNest _ _ _ _ => true
  | .declares _ => true
  | .castable _ _ => true
  | .arrayOver (.object _) => true
  | _ => false
def fNw : List Cond := lw_tbl.filter fNgood
theorem nIn {w : Cond} (i : Nat) (h : lw_tbl[i]? = some w) (g : fNgood w = true) : w ∈ fNw := List.mem_filter.mpr ⟨List.mem_of_getElem? h, g⟩
def CT (ci : Nat) (C : String) (T : u_T) (N : Nat) (ty : Nat → FieldType) : Prop := fcl[ci]? = some (C, T, N) ∧ (∀ w ∈ u_ws C T N, w ∈ WA) ∧ (∀ k, k < N → parseFieldDescriptor (T k).2.2.1 = some (ty k)) ∧ (∀ a, a < N → ∀ b, b < N → a ≠ b → (T a).2.1 ≠ (T b).2.1)
theorem ct_0 : CT 0 RX0 TX0 4 tyX0 := ⟨rfl, by decide +kernel, tyX0_ok, nmX0⟩
theorem ct_1 : CT 1 RX1 TX1 2 tyX1 := ⟨rfl, by decide +kernel, tyX1_ok, nmX1⟩
theorem ct_2 : CT 2 RX2 TX2 4 tyX2 := ⟨rfl, by decide +kernel, tyX2_ok, nmX2⟩
theorem ct_3 : CT 3 RX3 TX3 3 tyX3 := ⟨rfl, by decide +kernel, tyX3_ok, nmX3⟩
theorem ct_4 : CT 4 RX4 TX4 19 tyX4 := ⟨rfl, by decide +kernel, tyX4_ok, nmX4⟩
theorem ct_5 : CT 5 RX5 TX5 4 tyX5 := ⟨rfl, by decide +kernel, tyX5_ok, nmX5⟩
theorem ct_6 : CT 6 RX6 TX6 9 tyX6 := ⟨rfl, by decide +kernel, tyX6_ok, nmX6⟩
theorem ct_7 : CT 7 RX7 TX7 10 tyX7 := ⟨rfl, by decide +kernel, tyX7_ok, nmX7⟩
theorem ct_8 : CT 8 RX8 TX8 26 tyX8 := ⟨rfl, by decide +kernel, tyX8_ok, nmX8⟩
end
section
/-! THE FUNCTIONAL HEAP: a state of the system is a partial function from addresses to cells, the next address, the slots made, and the caps of both; a method is a function of it. -/
section FH1
theorem obind {α β : Type} {o : Option α} {f : α → Option β} {r : β} (h : o.bind f = some r) : ∃ x, o = some x ∧ f x = some r := by
  cases o with
  | none => cases h
  | some x => exact ⟨x, rfl, h⟩
theorem opos {c : Prop} [Decidable c] {α : Type} {a b : α} {r : α} (hc : c) (h : (if c then a else b) = r) : a = r := (if_pos hc).symm.trans h
theorem oneg {c : Prop} [Decidable c] {α : Type} {a b : α} {r : α} (hc : ¬ c) (h : (if c then a else b) = r) : b = r := (if_neg hc).symm.trans h
abbrev fCe : Type := (Nat × List Value) ⊕ (Nat × vp_A)
abbrev fSt : Type := (Nat → Option fCe) × Nat × Nat × Nat × Nat
def fF (h : fSt) : Nat → Option fCe := h.1
def fZ (h : fSt) : Nat := h.2.1
def fL (h : fSt) : Nat := h.2.2.1
def fCB (h : fSt) : Nat := h.2.2.2.1
def fLB (h : fSt) : Nat := h.2.2.2.2
def fE (cA : Nat → ClassId) (e : fCe) : va_E := match e with
  | .inl o => .inr o
  | .inr a => .inl (cA a.1, a.2)
def fTys (cA : Nat → ClassId) : List (ClassId × FieldType) := ftl.zipIdx.map (fun q => (cA q.2, q.1))
def fRep (D : va_G) (cA : Nat → ClassId) (F : Nat → Option fCe) (H : Heap) : Prop := ∀ (a : Nat) (e : fCe), F a = some e → va_at D fcl (a, fE cA e) H
/-- the slots of all cells -/
def fW (H : Heap) : Nat := (H.toList.map (fun c => c.slots.size)).sum
theorem fW_eq {H H' : Heap} (h : ∀ q : Nat, (H'[q]?).map (fun c => c.slots.size) = (H[q]?).map (fun c => c.slots.size)) : fW H' = fW H := by
  unfold fW
  congr 1
  apply List.ext_getElem?
  intro q
  rw [List.getElem?_map, List.getElem?_map, Array.getElem?_toList, Array.getElem?_toList]
  exact h q
theorem fW_put {H H' : Heap} {a i : Nat} {c : Cell} {v : Value} (h0 : H[a]? = some c) (h1 : H'[a]? = some (c.setSlot i v)) (h2 : ∀ q : Nat, q ≠ a → H'[q]? = H[q]?) : fW H' = fW H := by
  apply fW_eq
  intro q
  by_cases hq : q = a
  · subst hq
    rw [h0, h1]
    simp [Cell.setSlot]
  · rw [h2 q hq]
theorem fW_push {H H' : Heap} {c : Cell} (h0 : H'.size = H.size + 1) (h1 : H'[H.size]? = some c) (h2 : ∀ q : Nat, q < H.size → H'[q]? = H[q]?) : fW H' = fW H + c.slots.size := by
  have h : H'.toList = H.toList ++ [c] := by
    apply List.ext_getElem?
    intro q
    rw [Array.getElem?_toList]
    by_cases hq : q < H.size
    · rw [h2 q hq, List.getElem?_append_left (by simpa using hq), Array.getElem?_toList]
    · by_cases hq2 : q = H.size
      · subst hq2
        rw [h1, List.getElem?_append_right (by simp)]
        simp
      · rw [Array.getElem?_eq_none (by omega), List.getElem?_eq_none (by simp; omega)]
  unfold fW
  rw [h]
  simp
theorem fW_fold (l : List Cell) (n : Nat) : l.foldl (fun n c => n + c.slots.size) n = n + (l.map (fun c => c.slots.size)).sum := by
  induction l generalizing n with
  | nil => simp
  | cons c l ih => simp only [List.foldl_cons, ih, List.map_cons, List.sum_cons]; omega
theorem fW_used {s : State} (h : s.slotsTrue = true) : s.slotsUsed = fW s.heap := by
  unfold State.slotsTrue at h
  have h1 := beq_iff_eq.mp h
  rw [h1, ← Array.foldl_toList, fW_fold]
  unfold fW
  omega
end FH1
section FH2
variable {p : Program} {l : Launch} {e : Env} {R : Room} {s : State} {m : MethodId} {args : Array Value} {below : List Frame} {meth : Method} {c : Code} {H : Heap} {locs : List Loc} {cells slots : Nat} {Q : State → Prop}
theorem fStand {T : State} (X : Stand p l e R s m args below meth c T locs cells slots) {k n : Nat} (h1 : T.heap.size ≤ s.heap.size + k) (h2 : fW T.heap ≤ fW s.heap + n) : Stand p l e R s m args below meth c T locs k n := by
  have hb := fW_used X.book
  have h0 : s.slotsTrue = true := by
    have h := X.room
    simp only [State.hasRoom, Bool.and_eq_true] at h
    exact h.2
  have h0 := fW_used h0
  refine { X with same := ?_ }
  obtain ⟨e1, e2, e3, e4, e5, e6⟩ := X.same
  refine ⟨e1, e2, h1, e4, ?_, e6⟩
  have e7 : T.slotsUsed = s.slotsUsed + ((T.heap.toList.drop s.heap.size).map (·.slots.size)).sum := e4
  show ((T.heap.toList.drop s.heap.size).map (·.slots.size)).sum ≤ n
  omega
theorem fTight {g : JFrame} {k n : Nat} (h1 : H.size ≤ s.heap.size + k) (h2 : fW H ≤ fW s.heap + n) (kk : W p l e R s m args below meth c H locs k n Q g) : W p l e R s m args below meth c H locs cells slots Q g := by
  intro T hT X
  exact kk T hT (fStand X (by rw [hT]; exact h1) (by rw [hT]; exact h2))
end FH2
end
section
section FH3
def fExt (h0 h : fSt) : Prop := fZ h0 ≤ fZ h ∧ fL h0 ≤ fL h ∧ fCB h = fCB h0 ∧ fLB h = fLB h0 ∧ ∀ a, fF h a ≠ none → fF h0 a ≠ none ∨ fZ h0 ≤ a
theorem fExt.rfl {h : fSt} : fExt h h := ⟨Nat.le_refl _, Nat.le_refl _, Eq.refl _, Eq.refl _, fun _ q => Or.inl q⟩
theorem fExt.trans {h0 h1 h2 : fSt} (a : fExt h0 h1) (b : fExt h1 h2) : fExt h0 h2 := ⟨Nat.le_trans a.1 b.1, Nat.le_trans a.2.1 b.2.1, b.2.2.1.trans a.2.2.1, b.2.2.2.1.trans a.2.2.2.1, fun q hq => (b.2.2.2.2 q hq).elim (a.2.2.2.2 q) (fun z => Or.inr (Nat.le_trans a.1 z))⟩
def fA (h : fSt) : Nat → Prop := fun q => fF h q ≠ none ∨ fZ h ≤ q
theorem fA.sub {h0 h : fSt} (a : fExt h0 h) : ∀ q, fA h q → fA h0 q := fun q hq => hq.elim (a.2.2.2.2 q) (fun z => Or.inr (Nat.le_trans a.1 z))
def fOk (h : fSt) : Prop := fZ h ≤ fCB h ∧ fL h ≤ fLB h
def fCur (D : va_G) (cA : Nat → ClassId) (s : State) (h0 h : fSt) (H : Heap) (locs : List Loc) : Prop := fRep D cA (fF h) H ∧ H.size = fZ h ∧ fW H ≤ fW s.heap + (fL h - fL h0) ∧ fExt h0 h ∧ fOk h ∧ va_S (fA h0) s.heap H locs ∧ s.heap.size = fZ h0
def fKw (D : va_G) (cA : Nat → ClassId) (h : fSt) (s : State) : Prop := va_K D fcl (fTys cA) s ∧ vx_Zq Bundle.tN "UNASSIGNED_STACK" Bundle.steD (fA h) s s.heap ∧ vx_Zq Bundle.tN "SUPPRESSED_SENTINEL" Bundle.listD (fA h) s s.heap ∧ (∀ q ∈ fStr, ∃ a, vk_R q.1 q.2.1 q.2.2 a s) ∧ (∀ q ∈ fNc, va_Nc q.1 q.2 s) ∧ ∀ w ∈ fNw, va_Nw w s
theorem fNw_same {w : Cond} (hw : fNgood w = true) {u U : State} (h : u.vm = U.vm) (hZ : va_Nw w u) : va_Nw w U := by
  unfold fNgood at hw
  split at hw
  · exact va_Nw.same rfl h hZ
  · exact va_Nw.same rfl h hZ
  · exact va_Nw.same rfl h hZ
  · exact va_AO.moved (by rw [h]; exact Vm.Alike.refl U.vm) hZ
  · cases hw
theorem fNw_warm {w : Cond} (hw : fNgood w = true) {s U : State} (hW : s.WarmedH U.vm) (hZ : va_Nw w s) : va_Nw w U := by
  unfold fNgood at hw
  split at hw
  · exact va_Nw.warmM hW hZ
  · exact va_Nw.warmD hW hZ
  · exact va_tabs rfl (rfl : (s.setVm U.vm).vm = U.vm) (by rw [Cond.castable_setVm hW.alike]; exact hZ)
  · exact va_AO.moved hW.alike hZ
  · cases hw
def fCp (D : va_G) (cA : Nat → ClassId) (h : fSt) (U : State) : Prop := fRep D cA (fF h) U.heap ∧ U.heap.size = fZ h ∧ fOk h ∧ fKw D cA h U
def fFin (D : va_G) (cA : Nat → ClassId) (h0 h : fSt) (s t : State) : Prop := fRep D cA (fF h) t.heap ∧ t.heap.size = fZ h ∧ fW t.heap ≤ fW s.heap + (fL h - fL h0) ∧ fExt h0 h ∧ fOk h ∧ va_F (fA h0) s t
def fQ (D : va_G) (cA : Nat → ClassId) (h h' : fSt) (v : Option Value) : Array Value → State → Outcome → State → Prop := fun _ st o t => o = .returned v ∧ fFin D cA h h' st t
def fQX (D : va_G) (cA : Nat → ClassId) (h h' : fSt) (r : Option Value ⊕ Nat) : Array Value → State → Outcome → State → Prop := fun _ st o t => ∃ v, r = .inl v ∧ o = .returned v ∧ fFin D cA h h' st t
def fEx (k : Nat) : String := match k with
  | 0 => "java/lang/IndexOutOfBoundsException"
  | 1 => "java/lang/IllegalArgumentException"
  | _ => "java/lang/IllegalStateException"
def fXC (D : va_G) (cA : Nat → ClassId) (h h' : fSt) (r : Option Value ⊕ Nat) : String → State → State → Prop := fun E st t => ∃ k, r = .inr k ∧ E = fEx k ∧ fFin D cA h h' st t
/-- a contract: from the state h the method returns v in the state h' -/
def fMet (l : Launch) (y : MethodName) (ws : List Cond) (fr lo : Nat) (D : va_G) (cA : Nat → ClassId) (as : List Value) (h h' : fSt) (v : Option Value) : Prop := Met l y ws { frames := fr, cells := fCB h - fZ h, slots := fLB h - fL h, locals := lo } (va_Pc as (fCp D cA h)) (fQ D cA h h' v) (fCB h - fZ h) (fLB h - fL h) (fA h)
def fMetX (l : Launch) (y : MethodName) (ws : List Cond) (fr lo : Nat) (D : va_G) (cA : Nat → ClassId) (as : List Value) (h h' : fSt) (r : Option Value ⊕ Nat) : Prop := vx_Met l y ws { frames := fr, cells := fCB h - fZ h, slots := fLB h - fL h, locals := lo } (va_Pc as (fCp D cA h)) (fQX D cA h h' r) (fXC D cA h h' r) (fCB h - fZ h) (fLB h - fL h) (fA h)
theorem fBlind {D : va_G} {cA : Nat → ClassId} {as : List Value} {h : fSt} : FrameBlind (va_Pc as (fCp D cA h)) := by
  intro a U g mk hp
  obtain ⟨e, r, z, o, k1, k2, k3, k4, k5, k6⟩ := hp
  refine ⟨e, r, z, o, va_K.moved (u := U) (U := U.calling g mk a) (Vm.Alike.refl U.vm) k1, vx_Zq.moved (u := U) (U := U.calling g mk a) (Vm.Alike.refl U.vm) k2, vx_Zq.moved (u := U) (U := U.calling g mk a) (Vm.Alike.refl U.vm) k3, fun q hq => ?_, fun q hq => va_Nc.moved (u := U) (U := U.calling g mk a) (Vm.Alike.refl U.vm) (k5 q hq), fun w hw => fNw_same (u := U) (U := U.calling g mk a) (List.mem_filter.mp hw).2 (Eq.refl _) (k6 w hw)⟩
  obtain ⟨x, hx⟩ := k4 q hq
  exact ⟨x, vk_R.same (u := U) (U := U.calling g mk a) (Eq.refl _) hx⟩
theorem fRep.set {D : va_G} {cA : Nat → ClassId} {F : Nat → Option fCe} {H H1 : Heap} {a : Nat} {e : fCe} (h : fRep D cA F H) (he : va_at D fcl (a, fE cA e) H1) (oq : ∀ q : Nat, q ≠ a → H1[q]? = H[q]?) : fRep D cA (fun b => if b = a then some e else F b) H1 := by
  intro b x hb
  have hb : (if b = a then some e else F b) = some x := hb
  by_cases hq : b = a
  · subst hq
    rw [if_pos (Eq.refl _)] at hb
    cases hb
    exact he
  · rw [if_neg hq] at hb
    exact (h b x hb).kept (oq b hq)
theorem fRep.push {D : va_G} {cA : Nat → ClassId} {F : Nat → Option fCe} {H H1 : Heap} {e : fCe} (h : fRep D cA F H) (he : va_at D fcl (H.size, fE cA e) H1) (oq : ∀ q : Nat, q < H.size → H1[q]? = H[q]?) : fRep D cA (fun b => if b = H.size then some e else F b) H1 := by
  intro b x hb
  have hb : (if b = H.size then some e else F b) = some x := hb
  by_cases hq : b = H.size
  · subst hq
    rw [if_pos (Eq.refl _)] at hb
    cases hb
    exact he
  · rw [if_neg hq] at hb
    exact (h b x hb).kept (oq b (h b x hb).lt)
def fSet (h : fSt) (a : Nat) (e : fCe) : fSt := (fun b => if b = a then some e else fF h b, fZ h, fL h, fCB h, fLB h)
def fPush (h : fSt) (e : fCe) (n : Nat) : fSt := (fun b => if b = fZ h then some e else fF h b, fZ h + 1, fL h + n, fCB h, fLB h)
theorem fCur.start {D : va_G} {cA : Nat → ClassId} {s : State} {h : fSt} (c : fCp D cA h s) : fCur D cA s h h s.heap [] := ⟨c.1, c.2.1, Nat.le_add_right _ _, fExt.rfl, c.2.2.1, va_S.rf, c.2.1⟩
theorem fCur.fin {D : va_G} {cA : Nat → ClassId} {s t : State} {h0 h : fSt} {H : Heap} {locs : List Loc} (c : fCur D cA s h0 h H locs) (ht : t.heap = H) : fFin D cA h0 h s t := by
  obtain ⟨c1, c2, c3, c4, c5, c6, c7⟩ := c
  exact ⟨by rw [ht]; exact c1, by rw [ht]; exact c2, by rw [ht]; exact c3, c4, c5, c6.F ht⟩
theorem fCur.call {D : va_G} {cA : Nat → ClassId} {s : State} {h0 h : fSt} {H : Heap} {locs : List Loc} (c : fCur D cA s h0 h H locs) (K : fKw D cA h0 s) {U : State} (hU : U.heap = H) (hW : s.WarmedH U.vm) : fCp D cA h U := by
  obtain ⟨c1, c2, c3, c4, c5, c6, c7⟩ := c
  obtain ⟨k1, k2, k3, k4, k5, k6⟩ := K
  refine ⟨by rw [hU]; exact c1, by rw [hU]; exact c2, c5, va_K.moved hW.alike k1, ?_, ?_, fun q hq => ?_, fun q hq => (k5 q hq).moved hW.alike, fun w hw => fNw_warm (List.mem_filter.mp hw).2 hW (k6 w hw)⟩
  · rw [hU]; exact vx_Zq.moved hW.alike ((k2.kept c6.2.1).narrow (fA.sub c4))
  · rw [hU]; exact vx_Zq.moved hW.alike ((k3.kept c6.2.1).narrow (fA.sub c4))
  · obtain ⟨x, hx⟩ := k4 q hq
    exact ⟨x, vk_R.warm hW hx⟩
theorem fCur.set {D : va_G} {cA : Nat → ClassId} {s : State} {h0 h : fSt} {H H1 : Heap} {locs : List Loc} {a k : Nat} {e0 e : fCe} (c : fCur D cA s h0 h H locs) (h0a : fF h a = some e0) (he : va_at D fcl (a, fE cA e) H1) (hz : H1.size = H.size) (oq : ∀ q : Nat, q ≠ a → H1[q]? = H[q]?) (hw : fW H1 = fW H) : fCur D cA s h0 (fSet h a e) H1 (locs ++ [⟨a, k⟩]) := by
  obtain ⟨c1, c2, c3, c4, c5, c6, c7⟩ := c
  have ha : fF h a ≠ none := by rw [h0a]; exact fun z => nomatch z
  refine ⟨c1.set he oq, hz.trans c2, by rw [hw]; exact c3, ⟨c4.1, c4.2.1, c4.2.2.1, c4.2.2.2.1, fun q hq => ?_⟩, c5, c6.put hz oq (c4.2.2.2.2 a ha), c7⟩
  by_cases z : q = a
  · subst z; exact c4.2.2.2.2 q ha
  · have hq : (if q = a then some e else fF h q) ≠ none := hq
    rw [if_neg z] at hq
    exact c4.2.2.2.2 q hq
theorem fCur.push {D : va_G} {cA : Nat → ClassId} {s : State} {h0 h : fSt} {H H1 : Heap} {locs : List Loc} {n : Nat} {e : fCe} {cl : Cell} (c : fCur D cA s h0 h H locs) (he : va_at D fcl (H.size, fE cA e) H1) (hz : H1.size = H.size + 1) (hc : H1[H.size]? = some cl) (hn : cl.slots.size ≤ n) (oq : ∀ q : Nat, q < H.size → H1[q]? = H[q]?) (h1 : fZ h + 1 ≤ fCB h) (h2 : fL h + n ≤ fLB h) : fCur D cA s h0 (fPush h e n) H1 locs := by
  obtain ⟨c1, c2, c3, c4, c5, c6, c7⟩ := c
  have hw := fW_push hz hc oq
  have c8 : s.heap.size ≤ H.size := c6.1
  have hR := c1.push he oq
  rw [c2] at hR
  refine ⟨hR, by rw [hz, c2]; rfl, ?_, ⟨?_, ?_, c4.2.2.1, c4.2.2.2.1, fun q hq => ?_⟩, ⟨h1, h2⟩, ⟨by omega, fun x y z => (oq x (Nat.lt_of_lt_of_le y c6.1)).trans (c6.2.1 x y z), c6.2.2⟩, c7⟩
  · have e1 : fL (fPush h e n) = fL h + n := rfl
    have e2 := c4.2.1
    omega
  · exact Nat.le_trans c4.1 (Nat.le_succ _)
  · exact Nat.le_trans c4.2.1 (Nat.le_add_right _ _)
  · by_cases z : q = fZ h
    · subst z; exact Or.inr c4.1
    · have hq : (if q = fZ h then some e else fF h q) ≠ none := hq
      rw [if_neg z] at hq
      exact c4.2.2.2.2 q hq
end FH3
section FH4
variable {p : Program} {l : Launch} {e : Env} {R : Room} {s : State} {m : MethodId} {args : Array Value} {below : List Frame} {meth : Method} {c : Code} {H : Heap} {locs : List Loc} {cells slots : Nat} {Q : State → Prop}
variable {D : va_G} {cA : Nat → ClassId} {h0 h h2 : fSt} {cc : ByteArray} {pc : Nat} {ls : Array Slot} {rest : List Value}
/-- the counts as the state tells them -/
theorem fr_tight {g : JFrame} (hC : fCur D cA s h0 h H locs) (kk : W p l e R s m args below meth c H locs (fZ h - fZ h0) (fL h - fL h0) Q g) : W p l e R s m args below meth c H locs cells slots Q g := by
  obtain ⟨c1, c2, c3, c4, c5, c6, c7⟩ := hC
  have c8 := c4.1
  exact fTight (by omega) c3 kk
theorem fr_end {g : JFrame} (hC : fCur D cA s h0 h H locs) (kk : W p l e R s m args below meth c H locs (fCB h0 - fZ h0) (fLB h0 - fL h0) Q g) : W p l e R s m args below meth c H locs cells slots Q g := by
  obtain ⟨c1, c2, c3, c4, c5, c6, c7⟩ := hC
  obtain ⟨d1, d2, d3, d4, -⟩ := c4
  obtain ⟨o1, o2⟩ := c5
  exact fTight (by omega) (by omega) kk
def fget (h : fSt) (r : Option Nat) (ci k : Nat) : Option Value := match r with
  | none => none
  | some a => match fF h a with
    | some (.inl (cj, fs)) => if cj = ci then fs[k]? else none
    | _ => none
theorem fget_inv {r : Option Nat} {ci k : Nat} {v : Value} (h1 : fget h r ci k = some v) : ∃ (a : Nat) (fs : List Value), r = some a ∧ fF h a = some (.inl (ci, fs)) ∧ fs[k]? = some v := by
  unfold fget at h1
  split at h1
  · cases h1
  · rename_i a
    split at h1
    · rename_i cj fs hq
      by_cases z : cj = ci
      · subst z
        rw [if_pos (Eq.refl _)] at h1
        exact ⟨a, fs, rfl, hq, h1⟩
      · rw [if_neg z] at h1; cases h1
    · cases h1
def fgI (h : fSt) (r : Option Nat) (ci k : Nat) : Option Int32 := match fget h r ci k with
  | some (.int x) => some x
  | _ => none
theorem fgI_get {r : Option Nat} {ci k : Nat} {x : Int32} (h1 : fgI h r ci k = some x) : fget h r ci k = some (.int x) := by
  unfold fgI at h1
  split at h1
  · rename_i y hq; cases h1; exact hq
  · cases h1
def fgJ (h : fSt) (r : Option Nat) (ci k : Nat) : Option Int64 := match fget h r ci k with
  | some (.long x) => some x
  | _ => none
theorem fgJ_get {r : Option Nat} {ci k : Nat} {x : Int64} (h1 : fgJ h r ci k = some x) : fget h r ci k = some (.long x) := by
  unfold fgJ at h1
  split at h1
  · rename_i y hq; cases h1; exact hq
  · cases h1
def fgR (h : fSt) (r : Option Nat) (ci k : Nat) : Option (Option Nat) := match fget h r ci k with
  | some .null => some none
  | some (.ref a) => some (some a)
  | _ => none
theorem fgR_get {r : Option Nat} {ci k : Nat} {x : Option Nat} (h1 : fgR h r ci k = some x) : fget h r ci k = some (va_rf x) := by
  unfold fgR at h1
  split at h1
  · rename_i hq; cases h1; exact hq
  · rename_i a hq; cases h1; exact hq
  · cases h1
def fput (h : fSt) (r : Option Nat) (ci k : Nat) (v : Value) : Option fSt := match r with
  | none => none
  | some a => match fF h a with
    | some (.inl (cj, fs)) => if cj = ci ∧ k < fs.length then some (fSet h a (.inl (ci, fs.set k v))) else none
    | _ => none
theorem fput_inv {r : Option Nat} {ci k : Nat} {v : Value} (h1 : fput h r ci k v = some h2) : ∃ (a : Nat) (fs : List Value), r = some a ∧ fF h a = some (.inl (ci, fs)) ∧ k < fs.length ∧ h2 = fSet h a (.inl (ci, fs.set k v)) := by
  unfold fput at h1
  split at h1
  · cases h1
  · rename_i a
    split at h1
    · rename_i cj fs hq
      by_cases z : cj = ci ∧ k < fs.length
      · rw [if_pos z] at h1
        cases h1
        obtain ⟨z1, z2⟩ := z
        subst z1
        exact ⟨a, fs, rfl, hq, z2, rfl⟩
      · rw [if_neg z] at h1; cases h1
    · cases h1
/-- getfield -/
theorem fr_get (hexec : p.tables.exec = Jvm.exec) (hb : c.code = cc) (hts : ∀ w ∈ WA, w.before args s = true) {own ref C : String} {T : u_T} {N ci k index : Nat} {ty : Nat → FieldType} (hown : s.vm.findClass own = some m.cls) (K : fKw D cA h0 s) (hC : fCur D cA s h0 h H locs) (ct : CT ci C T N ty) {r : Option Nat} {v : Value} (hg : fget h r ci k = some v) (hk : k < N) (hl : Cond.fieldLink own index ref (T k).2.1 (T k).2.2.1 ∈ WA) (hsame : (T k).1 = ref) (hdg : decode cc pc = .ok (.getfield index, 3))
    (kk : W p l e R s m args below meth c H locs cells slots Q (F0 m (pc + 3) ls (v :: rest))) : W p l e R s m args below meth c H locs cells slots Q (F0 m pc ls (va_rf r :: rest)) := by
  obtain ⟨a, fs, rfl, hF, hv⟩ := fget_inv hg
  have hP : va_P D fcl [(a, .inr (ci, fs))] H := by
    intro j q hq
    have hz : j < 1 := (List.getElem?_eq_some_iff.mp hq).1
    rw [show j = 0 by omega] at hq
    cases hq
    exact hC.1 a _ hF
  subst hsame
  exact va_get (D := D) (ci := ci) (v := v) (C := C) (T := T) (N := N) hexec hb hts ct.2.1 hown K.1 hP 0 rfl ct.1 k hk (hts _ hl) (fun _ h9 => h9) hv hdg kk
/-- putfield -/
theorem fr_put (hexec : p.tables.exec = Jvm.exec) (hb : c.code = cc) (hts : ∀ w ∈ WA, w.before args s = true) {own ref C : String} {T : u_T} {N ci k index : Nat} {ty : Nat → FieldType} (hown : s.vm.findClass own = some m.cls) (K : fKw D cA h0 s) (hC : fCur D cA s h0 h H locs) (ct : CT ci C T N ty) {r : Option Nat} {v : Value} (hg : fput h r ci k v = some h2) (hk : k < N) (hl : Cond.fieldLink own index ref (T k).2.1 (T k).2.2.1 ∈ WA) (hsame : (T k).1 = ref) (hfin : (T k).2.2.2 = false) (hn : narrow (ty k) v = v) (hfit : fits (ty k) v = true) (hdg : decode cc pc = .ok (.putfield index, 3))
    (kk : ∀ (H1 : Heap) (locs1 : List Loc), fCur D cA s h0 h2 H1 locs1 → W p l e R s m args below meth c H1 locs1 cells slots Q (F0 m (pc + 3) ls rest)) : W p l e R s m args below meth c H locs cells slots Q (F0 m pc ls (v :: va_rf r :: rest)) := by
  obtain ⟨a, fs, rfl, hF, hlen, rfl⟩ := fput_inv hg
  subst hsame
  obtain ⟨cc1, cc2, cc3, cc4⟩ := ct
  have hap := va_apart (own := own) hts cc2 ty cc3 cc4 K.1 cc1
  obtain ⟨r, h1, cell, q1, q2, q3, q4⟩ := hC.1 a _ hF
  have hr : r = (C, T, N) := Option.some.inj (h1.symm.trans cc1)
  subst hr
  obtain ⟨hS, hfc, kC, hkC, hkind⟩ := K.1.1 ci _ cc1
  obtain ⟨cf, kf, fi, f, hi, hsl⟩ := hS k hk
  have hlay := hts _ (cc2 _ (u_in_lay hk))
  unfold u_lay at hlay
  rw [if_neg (by rw [hfin]; decide)] at hlay
  have hst := (u_facts hfc hkC (u_lays hts cc2 hk) hi).1
  have h6 := u_store hfc hkC hkind hlay hi (cc3 k hk) hn hfit
  refine W.putK hexec hb (f := f) ⟨hown, hts _ hl, ⟨_, _, _, hi⟩, hst⟩ (by rw [q2]; exact h6) q1 q3 (by rw [hsl]; exact k2_hasslot (q4 k hk)) rfl rfl hdg fun H' e1 e2 e3 => ?_
  have hw := fW_put q1 e1 e3
  rw [hsl] at e1 ⊢
  exact kk H' _ (hC.set hF ⟨_, cc1, t_OB.to (V := updV (vp_V fs) k v) ⟨_, e1, q2, q3, t_set q4 hap hk v⟩ (fun j _ => vp_updV_set hlen v j)⟩ e2 e3 hw)
/-- putfield of a final field, in a constructor -/
theorem fr_putF (hexec : p.tables.exec = Jvm.exec) (hb : c.code = cc) (hts : ∀ w ∈ WA, w.before args s = true) {own ref C : String} {T : u_T} {N ci k index : Nat} {ty : Nat → FieldType} (hown : s.vm.findClass own = some m.cls) (K : fKw D cA h0 s) (hC : fCur D cA s h0 h H locs) (ct : CT ci C T N ty) {r : Option Nat} {v : Value} (hg : fput h r ci k v = some h2) (hk : k < N) (hl : Cond.fieldLink own index ref (T k).2.1 (T k).2.2.1 ∈ WA) (hsame : (T k).1 = ref) (hfin : (T k).2.2.2 = true) (hin2 : meth.name = "<init>") (hdecl : (T k).1 = own) (hn : narrow (ty k) v = v) (hfit : fits (ty k) v = true) (hdg : decode cc pc = .ok (.putfield index, 3))
    (kk : ∀ (H1 : Heap) (locs1 : List Loc), fCur D cA s h0 h2 H1 locs1 → W p l e R s m args below meth c H1 locs1 cells slots Q (F0 m (pc + 3) ls rest)) : W p l e R s m args below meth c H locs cells slots Q (F0 m pc ls (v :: va_rf r :: rest)) := by
  obtain ⟨a, fs, rfl, hF, hlen, rfl⟩ := fput_inv hg
  subst hsame
  obtain ⟨cc1, cc2, cc3, cc4⟩ := ct
  have hap := va_apart (own := own) hts cc2 ty cc3 cc4 K.1 cc1
  obtain ⟨r, h1, cell, q1, q2, q3, q4⟩ := hC.1 a _ hF
  have hr : r = (C, T, N) := Option.some.inj (h1.symm.trans cc1)
  subst hr
  obtain ⟨hS, hfc, kC, hkC, hkind⟩ := K.1.1 ci _ cc1
  obtain ⟨cf, kf, fi, f, hi, hsl⟩ := hS k hk
  have hlay := hts _ (cc2 _ (u_in_lay hk))
  unfold u_lay at hlay
  rw [if_pos hfin] at hlay
  have hst := (u_facts hfc hkC (u_lays hts cc2 hk) hi).1
  have hcf : m.cls = cf := by
    obtain ⟨_, _, c', _, _, _, -, -, hf', -, -, -, hown2, -⟩ := Cond.laysFinal_spec hlay
    have e1 : c' = cf := by have := hi.symm.trans hf'; simp at this; exact this.1.symm
    rw [hdecl] at hown2
    rw [← e1]; exact Option.some.inj (hown.symm.trans hown2)
  have h6 := u_fits hfc hkC hkind (Or.inr hlay) hi (cc3 k hk) hn hfit
  refine W.putFinK hexec hb hown (hts _ hl) hi hst hcf hin2 (by rw [q2]; exact h6) q1 q3 (by rw [hsl]; exact k2_hasslot (q4 k hk)) rfl rfl hdg fun H' e1 e2 e3 => ?_
  have hw := fW_put q1 e1 e3
  rw [hsl] at e1 ⊢
  exact kk H' _ (hC.set hF ⟨_, cc1, t_OB.to (V := updV (vp_V fs) k v) ⟨_, e1, q2, q3, t_set q4 hap hk v⟩ (fun j _ => vp_updV_set hlen v j)⟩ e2 e3 hw)
end FH4
end
section
section FH5
variable {p : Program} {l : Launch} {e : Env} {R : Room} {s : State} {m : MethodId} {args : Array Value} {below : List Frame} {meth : Method} {c : Code} {H : Heap} {locs : List Loc} {cells slots : Nat} {Q : State → Prop}
variable {D : va_G} {cA : Nat → ClassId} {h0 h h2 : fSt} {cc : ByteArray} {pc : Nat} {ls : Array Slot} {rest : List Value}
/-- an array: its kind, its contents -/
def farr (h : fSt) (r : Option Nat) (t : Nat) : Option vp_A := match r with
  | none => none
  | some a => match fF h a with
    | some (.inr (u, x)) => if u = t then some x else none
    | _ => none
theorem farr_inv {r : Option Nat} {t : Nat} {x : vp_A} (h1 : farr h r t = some x) : ∃ a : Nat, r = some a ∧ fF h a = some (.inr (t, x)) := by
  unfold farr at h1
  split at h1
  · cases h1
  · rename_i a
    split at h1
    · rename_i u y hq
      by_cases z : u = t
      · subst z
        rw [if_pos (Eq.refl _)] at h1
        cases h1
        exact ⟨a, rfl, hq⟩
      · rw [if_neg z] at h1; cases h1
    · cases h1
def faI (h : fSt) (r : Option Nat) (t : Nat) (i : Int32) : Option Int32 := match farr h r t with
  | some (n, .inl f) => if i < 0 ∨ n ≤ i.toNatClampNeg then none else some (f i.toNatClampNeg)
  | _ => none
def faJ (h : fSt) (r : Option Nat) (t : Nat) (i : Int32) : Option Int64 := match farr h r t with
  | some (n, .inr (.inl f)) => if i < 0 ∨ n ≤ i.toNatClampNeg then none else some (f i.toNatClampNeg)
  | _ => none
def faD (h : fSt) (r : Option Nat) (t : Nat) (i : Int32) : Option UInt64 := match farr h r t with
  | some (n, .inr (.inr (.inr (.inl f)))) => if i < 0 ∨ n ≤ i.toNatClampNeg then none else some (f i.toNatClampNeg)
  | _ => none
def faR (h : fSt) (r : Option Nat) (t : Nat) (i : Int32) : Option (Option Nat) := match farr h r t with
  | some (n, .inr (.inr (.inr (.inr f)))) => if i < 0 ∨ n ≤ i.toNatClampNeg then none else some (f i.toNatClampNeg)
  | _ => none
theorem faI_inv {r : Option Nat} {t : Nat} {i x : Int32} (h1 : faI h r t i = some x) : ∃ (a n : Nat) (f : Nat → Int32), r = some a ∧ fF h a = some (.inr (t, n, .inl f)) ∧ vp_in i n ∧ f i.toNatClampNeg = x := by
  unfold faI at h1
  split at h1
  · rename_i n f hq
    obtain ⟨a, h2, h3⟩ := farr_inv hq
    by_cases z : i < 0 ∨ n ≤ i.toNatClampNeg
    · rw [if_pos z] at h1; cases h1
    · rw [if_neg z] at h1; cases h1
      exact ⟨a, n, f, h2, h3, z, rfl⟩
  · cases h1
theorem faJ_inv {r : Option Nat} {t : Nat} {i : Int32} {x : Int64} (h1 : faJ h r t i = some x) : ∃ (a n : Nat) (f : Nat → Int64), r = some a ∧ fF h a = some (.inr (t, n, .inr (.inl f))) ∧ vp_in i n ∧ f i.toNatClampNeg = x := by
  unfold faJ at h1
  split at h1
  · rename_i n f hq
    obtain ⟨a, h2, h3⟩ := farr_inv hq
    by_cases z : i < 0 ∨ n ≤ i.toNatClampNeg
    · rw [if_pos z] at h1; cases h1
    · rw [if_neg z] at h1; cases h1
      exact ⟨a, n, f, h2, h3, z, rfl⟩
  · cases h1
theorem faD_inv {r : Option Nat} {t : Nat} {i : Int32} {x : UInt64} (h1 : faD h r t i = some x) : ∃ (a n : Nat) (f : Nat → UInt64), r = some a ∧ fF h a = some (.inr (t, n, .inr (.inr (.inr (.inl f))))) ∧ vp_in i n ∧ f i.toNatClampNeg = x := by
  unfold faD at h1
  split at h1
  · rename_i n f hq
    obtain ⟨a, h2, h3⟩ := farr_inv hq
    by_cases z : i < 0 ∨ n ≤ i.toNatClampNeg
    · rw [if_pos z] at h1; cases h1
    · rw [if_neg z] at h1; cases h1
      exact ⟨a, n, f, h2, h3, z, rfl⟩
  · cases h1
theorem faR_inv {r : Option Nat} {t : Nat} {i : Int32} {x : Option Nat} (h1 : faR h r t i = some x) : ∃ (a n : Nat) (f : Nat → Option Nat), r = some a ∧ fF h a = some (.inr (t, n, .inr (.inr (.inr (.inr f))))) ∧ vp_in i n ∧ f i.toNatClampNeg = x := by
  unfold faR at h1
  split at h1
  · rename_i n f hq
    obtain ⟨a, h2, h3⟩ := farr_inv hq
    by_cases z : i < 0 ∨ n ≤ i.toNatClampNeg
    · rw [if_pos z] at h1; cases h1
    · rw [if_neg z] at h1; cases h1
      exact ⟨a, n, f, h2, h3, z, rfl⟩
  · cases h1
def flen (h : fSt) (r : Option Nat) (t : Nat) : Option Int32 := (farr h r t).map (fun x => Int32.ofNat x.1)
def fsI (h : fSt) (r : Option Nat) (t : Nat) (i x : Int32) : Option fSt := match r, farr h r t with
  | some a, some (n, .inl f) => if i < 0 ∨ n ≤ i.toNatClampNeg then none else some (fSet h a (.inr (t, n, .inl (upd f i.toNatClampNeg x))))
  | _, _ => none
def fsJ (h : fSt) (r : Option Nat) (t : Nat) (i : Int32) (x : Int64) : Option fSt := match r, farr h r t with
  | some a, some (n, .inr (.inl f)) => if i < 0 ∨ n ≤ i.toNatClampNeg then none else some (fSet h a (.inr (t, n, .inr (.inl (vp_updL f i.toNatClampNeg x)))))
  | _, _ => none
def fsD (h : fSt) (r : Option Nat) (t : Nat) (i : Int32) (x : UInt64) : Option fSt := match r, farr h r t with
  | some a, some (n, .inr (.inr (.inr (.inl f)))) => if i < 0 ∨ n ≤ i.toNatClampNeg then none else some (fSet h a (.inr (t, n, .inr (.inr (.inr (.inl (vf_upd f i.toNatClampNeg x)))))))
  | _, _ => none
/-- a store of an object of class ci -/
def fsR (h : fSt) (r : Option Nat) (t ci : Nat) (i : Int32) (x : Option Nat) : Option fSt := match r, farr h r t, x with
  | some a, some (n, .inr (.inr (.inr (.inr f)))), some v => match fF h v with
    | some (.inl (cj, _)) => if cj = ci then if i < 0 ∨ n ≤ i.toNatClampNeg then none else some (fSet h a (.inr (t, n, .inr (.inr (.inr (.inr (va_up f i.toNatClampNeg (some v)))))))) else none
    | _ => none
  | _, _, _ => none
theorem fsI_inv {r : Option Nat} {t : Nat} {i x : Int32} (h1 : fsI h r t i x = some h2) : ∃ (a n : Nat) (f : Nat → Int32), r = some a ∧ fF h a = some (.inr (t, n, .inl f)) ∧ vp_in i n ∧ h2 = fSet h a (.inr (t, n, .inl (upd f i.toNatClampNeg x))) := by
  unfold fsI at h1
  split at h1
  · rename_i a n f hq
    obtain ⟨b, h2, h3⟩ := farr_inv hq
    cases h2
    by_cases z : i < 0 ∨ n ≤ i.toNatClampNeg
    · rw [if_pos z] at h1; cases h1
    · rw [if_neg z] at h1; cases h1
      exact ⟨a, n, f, rfl, h3, z, rfl⟩
  · cases h1
theorem fsJ_inv {r : Option Nat} {t : Nat} {i : Int32} {x : Int64} (h1 : fsJ h r t i x = some h2) : ∃ (a n : Nat) (f : Nat → Int64), r = some a ∧ fF h a = some (.inr (t, n, .inr (.inl f))) ∧ vp_in i n ∧ h2 = fSet h a (.inr (t, n, .inr (.inl (vp_updL f i.toNatClampNeg x)))) := by
  unfold fsJ at h1
  split at h1
  · rename_i a n f hq
    obtain ⟨b, h2, h3⟩ := farr_inv hq
    cases h2
    by_cases z : i < 0 ∨ n ≤ i.toNatClampNeg
    · rw [if_pos z] at h1; cases h1
    · rw [if_neg z] at h1; cases h1
      exact ⟨a, n, f, rfl, h3, z, rfl⟩
  · cases h1
theorem fsD_inv {r : Option Nat} {t : Nat} {i : Int32} {x : UInt64} (h1 : fsD h r t i x = some h2) : ∃ (a n : Nat) (f : Nat → UInt64), r = some a ∧ fF h a = some (.inr (t, n, .inr (.inr (.inr (.inl f))))) ∧ vp_in i n ∧ h2 = fSet h a (.inr (t, n, .inr (.inr (.inr (.inl (vf_upd f i.toNatClampNeg x)))))) := by
  unfold fsD at h1
  split at h1
  · rename_i a n f hq
    obtain ⟨b, h2, h3⟩ := farr_inv hq
    cases h2
    by_cases z : i < 0 ∨ n ≤ i.toNatClampNeg
    · rw [if_pos z] at h1; cases h1
    · rw [if_neg z] at h1; cases h1
      exact ⟨a, n, f, rfl, h3, z, rfl⟩
  · cases h1
theorem fsR_inv {r x : Option Nat} {t ci : Nat} {i : Int32} (h1 : fsR h r t ci i x = some h2) : ∃ (a n v : Nat) (f : Nat → Option Nat) (vs : List Value), r = some a ∧ x = some v ∧ fF h a = some (.inr (t, n, .inr (.inr (.inr (.inr f))))) ∧ fF h v = some (.inl (ci, vs)) ∧ vp_in i n ∧ h2 = fSet h a (.inr (t, n, .inr (.inr (.inr (.inr (va_up f i.toNatClampNeg (some v))))))) := by
  unfold fsR at h1
  split at h1
  · rename_i a n f v hq
    obtain ⟨b, h2, h3⟩ := farr_inv hq
    cases h2
    split at h1
    · rename_i cj vs hv
      by_cases y : cj = ci
      · subst y
        rw [if_pos (Eq.refl _)] at h1
        by_cases z : i < 0 ∨ n ≤ i.toNatClampNeg
        · rw [if_pos z] at h1; cases h1
        · rw [if_neg z] at h1; cases h1
          exact ⟨a, n, v, f, vs, rfl, rfl, h3, hv, z, rfl⟩
      · rw [if_neg y] at h1; cases h1
    · cases h1
  · cases h1
theorem fTys_at {t : Nat} {ty : FieldType} (ht : ftl[t]? = some ty) : (fTys cA)[t]? = some (cA t, ty) := by
  unfold fTys
  rw [List.getElem?_map, List.getElem?_zipIdx, ht]
  simp
theorem fOne {a : Nat} {x : fCe} (hC : fCur D cA s h0 h H locs) (hF : fF h a = some x) : va_P D fcl [(a, fE cA x)] H := by
  intro j q hq
  have hz : j < 1 := (List.getElem?_eq_some_iff.mp hq).1
  rw [show j = 0 by omega] at hq
  cases hq
  exact hC.1 a _ hF
theorem fr_iald (hexec : p.tables.exec = Jvm.exec) (hb : c.code = cc) (K : fKw D cA h0 s) (hC : fCur D cA s h0 h H locs) {t : Nat} (ht : ftl[t]? = some .int) {r : Option Nat} {i x : Int32} (hg : faI h r t i = some x) (hdg : decode cc pc = .ok (.iaload, 1))
    (kk : W p l e R s m args below meth c H locs cells slots Q (F0 m (pc + 1) ls (.int x :: rest))) : W p l e R s m args below meth c H locs cells slots Q (F0 m pc ls (.int i :: va_rf r :: rest)) := by
  obtain ⟨a, n, f, rfl, hF, hin, rfl⟩ := faI_inv hg
  exact va_iald hexec hb K.1 (fOne hC hF) 0 t rfl (fTys_at ht) hin hdg kk
theorem fr_zald (hexec : p.tables.exec = Jvm.exec) (hb : c.code = cc) (K : fKw D cA h0 s) (hC : fCur D cA s h0 h H locs) {t : Nat} (ht : ftl[t]? = some .boolean) {r : Option Nat} {i x : Int32} (hg : faI h r t i = some x) (hdg : decode cc pc = .ok (.baload, 1))
    (kk : W p l e R s m args below meth c H locs cells slots Q (F0 m (pc + 1) ls (.int x :: rest))) : W p l e R s m args below meth c H locs cells slots Q (F0 m pc ls (.int i :: va_rf r :: rest)) := by
  obtain ⟨a, n, f, rfl, hF, hin, rfl⟩ := faI_inv hg
  exact va_zald hexec hb K.1 (fOne hC hF) 0 t rfl (fTys_at ht) hin hdg kk
theorem fr_lald (hexec : p.tables.exec = Jvm.exec) (hb : c.code = cc) (K : fKw D cA h0 s) (hC : fCur D cA s h0 h H locs) {t : Nat} (ht : ftl[t]? = some .long) {r : Option Nat} {i : Int32} {x : Int64} (hg : faJ h r t i = some x) (hdg : decode cc pc = .ok (.laload, 1))
    (kk : W p l e R s m args below meth c H locs cells slots Q (F0 m (pc + 1) ls (.long x :: rest))) : W p l e R s m args below meth c H locs cells slots Q (F0 m pc ls (.int i :: va_rf r :: rest)) := by
  obtain ⟨a, n, f, rfl, hF, hin, rfl⟩ := faJ_inv hg
  exact va_lald hexec hb K.1 (fOne hC hF) 0 t rfl (fTys_at ht) hin hdg kk
theorem fr_dald (hexec : p.tables.exec = Jvm.exec) (hb : c.code = cc) (K : fKw D cA h0 s) (hC : fCur D cA s h0 h H locs) {t : Nat} (ht : ftl[t]? = some .double) {r : Option Nat} {i : Int32} {x : UInt64} (hg : faD h r t i = some x) (hdg : decode cc pc = .ok (.daload, 1))
    (kk : W p l e R s m args below meth c H locs cells slots Q (F0 m (pc + 1) ls (.double x :: rest))) : W p l e R s m args below meth c H locs cells slots Q (F0 m pc ls (.int i :: va_rf r :: rest)) := by
  obtain ⟨a, n, f, rfl, hF, hin, rfl⟩ := faD_inv hg
  exact va_dald hexec hb K.1 (fOne hC hF) 0 t rfl (fTys_at ht) hin hdg kk
theorem fr_aald (hexec : p.tables.exec = Jvm.exec) (hb : c.code = cc) (K : fKw D cA h0 s) (hC : fCur D cA s h0 h H locs) {t : Nat} {C : String} (ht : ftl[t]? = some (.object C)) {r : Option Nat} {i : Int32} {x : Option Nat} (hg : faR h r t i = some x) (hdg : decode cc pc = .ok (.aaload, 1))
    (kk : W p l e R s m args below meth c H locs cells slots Q (F0 m (pc + 1) ls (va_rf x :: rest))) : W p l e R s m args below meth c H locs cells slots Q (F0 m pc ls (.int i :: va_rf r :: rest)) := by
  obtain ⟨a, n, f, rfl, hF, hin, rfl⟩ := faR_inv hg
  exact va_aldq hexec hb K.1 (fOne hC hF) 0 t rfl (fTys_at ht) hin hdg kk
theorem fr_alen (hexec : p.tables.exec = Jvm.exec) (hb : c.code = cc) (K : fKw D cA h0 s) (hC : fCur D cA s h0 h H locs) {t : Nat} {ty : FieldType} (ht : ftl[t]? = some ty) {r : Option Nat} {x : Int32} (hg : flen h r t = some x) (hdg : decode cc pc = .ok (.arraylength, 1))
    (kk : W p l e R s m args below meth c H locs cells slots Q (F0 m (pc + 1) ls (.int x :: rest))) : W p l e R s m args below meth c H locs cells slots Q (F0 m pc ls (va_rf r :: rest)) := by
  unfold flen at hg
  cases hq : farr h r t with
  | none => rw [hq] at hg; cases hg
  | some y =>
    rw [hq] at hg
    cases hg
    obtain ⟨a, rfl, hF⟩ := farr_inv hq
    exact va_alen hexec hb K.1 (fOne hC hF) 0 t rfl (fTys_at ht) rfl hdg kk
theorem fr_iast (hexec : p.tables.exec = Jvm.exec) (hb : c.code = cc) (K : fKw D cA h0 s) (hC : fCur D cA s h0 h H locs) {t : Nat} (ht : ftl[t]? = some .int) {r : Option Nat} {i x : Int32} (hg : fsI h r t i x = some h2) (hdg : decode cc pc = .ok (.iastore, 1))
    (kk : ∀ (H1 : Heap) (locs1 : List Loc), fCur D cA s h0 h2 H1 locs1 → W p l e R s m args below meth c H1 locs1 cells slots Q (F0 m (pc + 1) ls rest)) : W p l e R s m args below meth c H locs cells slots Q (F0 m pc ls (.int x :: .int i :: va_rf r :: rest)) := by
  obtain ⟨a, n, f, rfl, hF, hin, rfl⟩ := fsI_inv hg
  refine W.iast hexec hb (hC.1 a _ hF) ((K.1.2 t _ (fTys_at ht)).1 n (fun j => .int (f j))) (fun q => by cases q) (by show ¬ (i < 0 ∨ (arrV _ _ _).slots.size ≤ _); rw [arrV_size]; exact hin) rfl rfl hdg fun H1 e z oq => ?_
  refine kk H1 _ (hC.set hF ?_ z oq (fW_put (hC.1 a _ hF) e oq))
  show H1[a]? = some (vp_cell _ _)
  rw [e]
  show some (Cell.setSlot (vp_cell (cA t) (n, .inl f)) _ _) = some (vp_cell (cA t) (n, .inl (upd f i.toNatClampNeg x)))
  rw [vp_cell_i, vp_cell_i, arrV_store]
  congr 2
  funext q
  by_cases hq : q = i.toNatClampNeg
  · subst hq
    simp [updV, upd]
  · simp [updV, upd, hq]
theorem fr_zast (hexec : p.tables.exec = Jvm.exec) (hb : c.code = cc) (K : fKw D cA h0 s) (hC : fCur D cA s h0 h H locs) {t : Nat} (ht : ftl[t]? = some .boolean) {r : Option Nat} {i x : Int32} (hg : fsI h r t i (vp_nar .boolean x) = some h2) (hdg : decode cc pc = .ok (.bastore, 1))
    (kk : ∀ (H1 : Heap) (locs1 : List Loc), fCur D cA s h0 h2 H1 locs1 → W p l e R s m args below meth c H1 locs1 cells slots Q (F0 m (pc + 1) ls rest)) : W p l e R s m args below meth c H locs cells slots Q (F0 m pc ls (.int x :: .int i :: va_rf r :: rest)) := by
  obtain ⟨a, n, f, rfl, hF, hin, rfl⟩ := fsI_inv hg
  refine W.zast hexec hb (hC.1 a _ hF) ((K.1.2 t _ (fTys_at ht)).1 n (fun j => .int (f j))) (fun q => by cases q) (by show ¬ (i < 0 ∨ (arrV _ _ _).slots.size ≤ _); rw [arrV_size]; exact hin) rfl rfl hdg fun H1 e z oq => ?_
  refine kk H1 _ (hC.set hF ?_ z oq (fW_put (hC.1 a _ hF) e oq))
  show H1[a]? = some (vp_cell _ _)
  rw [e]
  show some (Cell.setSlot (vp_cell (cA t) (n, .inl f)) _ _) = some (vp_cell (cA t) (n, .inl (upd f i.toNatClampNeg (vp_nar .boolean x))))
  rw [vp_cell_i, vp_cell_i, arrV_store]
  congr 2
  funext q
  by_cases hq : q = i.toNatClampNeg
  · subst hq
    simp [updV, upd, vp_nar, narrow]
  · simp [updV, upd, hq]
theorem fr_last (hexec : p.tables.exec = Jvm.exec) (hb : c.code = cc) (K : fKw D cA h0 s) (hC : fCur D cA s h0 h H locs) {t : Nat} (ht : ftl[t]? = some .long) {r : Option Nat} {i : Int32} {x : Int64} (hg : fsJ h r t i x = some h2) (hdg : decode cc pc = .ok (.lastore, 1))
    (kk : ∀ (H1 : Heap) (locs1 : List Loc), fCur D cA s h0 h2 H1 locs1 → W p l e R s m args below meth c H1 locs1 cells slots Q (F0 m (pc + 1) ls rest)) : W p l e R s m args below meth c H locs cells slots Q (F0 m pc ls (.long x :: .int i :: va_rf r :: rest)) := by
  obtain ⟨a, n, f, rfl, hF, hin, rfl⟩ := fsJ_inv hg
  refine W.last hexec hb (hC.1 a _ hF) ((K.1.2 t _ (fTys_at ht)).1 n (fun j => .long (f j))) (fun q => by cases q) (by show ¬ (i < 0 ∨ (arrV _ _ _).slots.size ≤ _); rw [arrV_size]; exact hin) rfl rfl hdg fun H1 e z oq => ?_
  refine kk H1 _ (hC.set hF ?_ z oq (fW_put (hC.1 a _ hF) e oq))
  show H1[a]? = some (vp_cell _ _)
  rw [e]
  show some (Cell.setSlot (vp_cell (cA t) (n, .inr (.inl f))) _ _) = some (vp_cell (cA t) (n, .inr (.inl (vp_updL f i.toNatClampNeg x))))
  rw [vp_cell_l, vp_cell_l, arrV_store]
  congr 2
  funext q
  by_cases hq : q = i.toNatClampNeg
  · subst hq
    simp [updV, vp_updL]
  · simp [updV, vp_updL, hq]
theorem fr_dast (hexec : p.tables.exec = Jvm.exec) (hb : c.code = cc) (K : fKw D cA h0 s) (hC : fCur D cA s h0 h H locs) {t : Nat} (ht : ftl[t]? = some .double) {r : Option Nat} {i : Int32} {x : UInt64} (hg : fsD h r t i x = some h2) (hdg : decode cc pc = .ok (.dastore, 1))
    (kk : ∀ (H1 : Heap) (locs1 : List Loc), fCur D cA s h0 h2 H1 locs1 → W p l e R s m args below meth c H1 locs1 cells slots Q (F0 m (pc + 1) ls rest)) : W p l e R s m args below meth c H locs cells slots Q (F0 m pc ls (.double x :: .int i :: va_rf r :: rest)) := by
  obtain ⟨a, n, f, rfl, hF, hin, rfl⟩ := fsD_inv hg
  refine W.dast hexec hb (hC.1 a _ hF) ((K.1.2 t _ (fTys_at ht)).1 n (fun j => .double (f j))) (fun q => by cases q) (by show ¬ (i < 0 ∨ (arrV _ _ _).slots.size ≤ _); rw [arrV_size]; exact hin) rfl rfl hdg fun H1 e z oq => ?_
  refine kk H1 _ (hC.set hF ?_ z oq (fW_put (hC.1 a _ hF) e oq))
  show H1[a]? = some (vp_cell _ _)
  rw [e]
  show some (Cell.setSlot (vp_cell (cA t) (n, .inr (.inr (.inr (.inl f))))) _ _) = some (vp_cell (cA t) (n, .inr (.inr (.inr (.inl (vf_upd f i.toNatClampNeg x))))))
  rw [vp_cell_d, vp_cell_d, arrV_store]
  congr 2
  funext q
  by_cases hq : q = i.toNatClampNeg
  · subst hq
    simp [updV, vf_upd]
  · simp [updV, vf_upd, hq]
theorem fr_aast (hexec : p.tables.exec = Jvm.exec) (hb : c.code = cc) (K : fKw D cA h0 s) (hC : fCur D cA s h0 h H locs) {t ci : Nat} {C : String} {T : u_T} {N : Nat} {ty : Nat → FieldType} (ct : CT ci C T N ty) (ht : ftl[t]? = some (.object C)) {r x : Option Nat} {i : Int32} (hg : fsR h r t ci i x = some h2) (hdg : decode cc pc = .ok (.aastore, 1))
    (kk : ∀ (H1 : Heap) (locs1 : List Loc), fCur D cA s h0 h2 H1 locs1 → W p l e R s m args below meth c H1 locs1 cells slots Q (F0 m (pc + 1) ls rest)) : W p l e R s m args below meth c H locs cells slots Q (F0 m pc ls (va_rf x :: .int i :: va_rf r :: rest)) := by
  obtain ⟨a, n, v, f, vs, rfl, rfl, hF, hV, hin, rfl⟩ := fsR_inv hg
  have hlt : i.toNatClampNeg < n := Nat.not_le.mp fun q => hin (Or.inr q)
  have hneg : ¬ i < 0 := fun q => hin (Or.inl q)
  obtain ⟨r', hr', cellV, g1, g2, g3, -⟩ := hC.1 v _ hV
  have hcls := (K.1.1 ci _ ct.1).2
  obtain ⟨kA, comp, k1, k2, k3, -⟩ := (K.1.2 t _ (fTys_at ht)).2
  have hcomp : comp = D.1 ci := Option.some.inj (k3.symm.trans hcls.1)
  subst hcomp
  obtain ⟨kC, hkC, -⟩ := hcls.2
  refine W.aast hexec hb (hC.1 a _ hF) (fun q h => by cases h) (fun h => by cases h) k1 k2 rfl hkC ⟨hneg, by show _ < (arrV _ _ _).slots.size; rw [arrV_size]; exact hlt⟩ g1 (fun q h => by rw [g3] at h; cases h) (by rw [g2]; exact hkC) (by rw [g2]; exact va_assign hcls) rfl rfl hdg fun H1 e z oq => ?_
  refine kk H1 _ (hC.set hF ?_ z oq (fW_put (hC.1 a _ hF) e oq))
  show H1[a]? = some (vp_cell _ _)
  rw [e]
  show some (Cell.setSlot (vp_cell (cA t) (n, .inr (.inr (.inr (.inr f))))) _ _) = some (vp_cell (cA t) (n, .inr (.inr (.inr (.inr (va_up f i.toNatClampNeg (some v)))))))
  rw [vp_cell_q, vp_cell_q, arrV_store]
  congr 2
  funext q
  by_cases hq : q = i.toNatClampNeg
  · subst hq
    simp [updV, va_up, va_rf]
  · simp [updV, va_up, hq]
def fnew (h : fSt) (e : fCe) (n : Nat) : Option (Nat × fSt) := if fZ h + 1 ≤ fCB h ∧ fL h + n ≤ fLB h then some (fZ h, fPush h e n) else none
theorem fnew_inv {x : fCe} {n : Nat} {r : Nat × fSt} (h1 : fnew h x n = some r) : fZ h + 1 ≤ fCB h ∧ fL h + n ≤ fLB h ∧ r = (fZ h, fPush h x n) := by
  unfold fnew at h1
  by_cases z : fZ h + 1 ≤ fCB h ∧ fL h + n ≤ fLB h
  · rw [if_pos z] at h1; cases h1; exact ⟨z.1, z.2, rfl⟩
  · rw [if_neg z] at h1; cases h1
/-- new, of a class of ours -/
theorem fr_new (hexec : p.tables.exec = Jvm.exec) (hb : c.code = cc) (hts : ∀ w ∈ WA, w.before args s = true) {own C : String} {T : u_T} {N ci index : Nat} {ty : Nat → FieldType} (hown : s.vm.findClass own = some m.cls) (K : fKw D cA h0 s) (hC : fCur D cA s h0 h H locs) (ct : CT ci C T N ty) (hR : R.cells = fCB h0 - fZ h0 ∧ R.slots = fLB h0 - fL h0) {fs : List Value} {r : Nat × fSt} (hg : fnew h (.inl (ci, fs)) N = some r) (hfs : ∀ j, j < N → defaultValue (ty j) = vp_V fs j) (hcl : Cond.classLink own index C ∈ WA) (hinst : Cond.instantiable C N ∈ WA) (hini : Cond.initialized C ∈ WA) (hdg : decode cc pc = .ok (.new index, 3))
    (kk : ∀ (H1 : Heap) (k n : Nat), fCur D cA s h0 r.2 H1 locs → W p l e R s m args below meth c H1 locs k n Q (F0 m (pc + 3) ls (va_rf (some r.1) :: rest))) : W p l e R s m args below meth c H locs cells slots Q (F0 m pc ls rest) := by
  obtain ⟨g1, g2, rfl⟩ := fnew_inv hg
  refine fr_tight hC ?_
  obtain ⟨c1, c2, c3, c4, c5, c6, c7⟩ := id hC
  obtain ⟨d1, d2, d3, d4, -⟩ := c4
  have hKn := K.1.1 ci _ ct.1
  have hins := hts _ hinst
  have hfc : s.vm.findClass C = some (D.1 ci) := hKn.2.1
  refine W.newc hexec hb hown (hts _ hcl) hins (hts _ hini) (g := F0 m pc ls rest) rfl hdg (by rw [hR.1]; omega) (by rw [hR.2]; omega) fun cC' kC f1 f2 f3 f4 => ?_
  have hcc : cC' = D.1 ci := Option.some.inj (f1.symm.trans hfc)
  subst hcc
  generalize hH : H.push ({ cls := D.1 ci, slots := kC.instanceTypes.map defaultValue, vm := .none } : Cell) = H1
  have z1 : H1.size = H.size + 1 := by rw [← hH, Array.size_push]
  have e1 : H1[H.size]? = some ({ cls := D.1 ci, slots := kC.instanceTypes.map defaultValue, vm := .none } : Cell) := by rw [← hH, Array.getElem?_push_size]
  have o1 : ∀ q : Nat, q < H.size → H1[q]? = H[q]? := fun q hq => by rw [← hH, Array.getElem?_push, if_neg (Nat.ne_of_lt hq)]
  have hat : va_at D fcl (H.size, fE cA (.inl (ci, fs))) H1 := ⟨_, ct.1, (u_born ty hts ct.2.1 hKn f2 e1 ct.2.2.1).to hfs⟩
  have hcu := hC.push (n := N) hat z1 e1 (by show (kC.instanceTypes.map defaultValue).size ≤ N; rw [Array.size_map]; omega) o1 g1 g2
  have hk := kk H1 (fZ h - fZ h0 + 1) (fL h - fL h0 + N) hcu
  rw [c2]
  exact hk
/-- newarray -/
theorem fr_newa (hexec : p.tables.exec = Jvm.exec) (hb : c.code = cc) (hts : ∀ w ∈ WA, w.before args s = true) (K : fKw D cA h0 s) (hC : fCur D cA s h0 h H locs) (hR : R.cells = fCB h0 - fZ h0 ∧ R.slots = fLB h0 - fL h0) {atype : ArrayType} {t : Nat} (ht : ftl[t]? = some (newarray.typeOf atype)) (hw : Cond.arrayClass (newarray.typeOf atype) ∈ WA) {n : Int32} {a0 : vp_A} (ha : ∀ cA : ClassId, vp_cell cA a0 = arrV cA n.toNatClampNeg (fun _ => defaultValue (newarray.typeOf atype))) (hprim : va_RA s (cA t) (newarray.typeOf atype) = (s.vm.findClass ("[" ++ (newarray.typeOf atype).toString) = some (cA t))) {r : Nat × fSt} (hn : ¬ n < 0) (hg : fnew h (.inr (t, a0)) n.toNatClampNeg = some r) (hbytes : n.toNatClampNeg * componentBytes (newarray.typeOf atype) ≤ 536870912) (hdg : decode cc pc = .ok (.newarray atype, 2))
    (kk : ∀ (H1 : Heap) (k n : Nat), fCur D cA s h0 r.2 H1 locs → W p l e R s m args below meth c H1 locs k n Q (F0 m (pc + 2) ls (va_rf (some r.1) :: rest))) : W p l e R s m args below meth c H locs cells slots Q (F0 m pc ls (.int n :: rest)) := by
  obtain ⟨g1, g2, rfl⟩ := fnew_inv hg
  refine fr_tight hC ?_
  obtain ⟨c1, c2, c3, c4, c5, c6, c7⟩ := id hC
  obtain ⟨d1, d2, d3, d4, -⟩ := c4
  refine va_newaK hexec hb (hts _ hw) rfl hdg rfl hn rfl hbytes (by rw [hR.1]; omega) (by rw [hR.2]; omega) rfl fun H1 cB e1 z1 o1 hAr hNm => ?_
  have hcB : cB = cA t := by
    have h9 := (K.1.2 t _ (fTys_at ht)).2
    have h9 : va_RA s (cA t) (newarray.typeOf atype) := h9
    rw [hprim] at h9
    exact Option.some.inj (hNm.symm.trans h9)
  subst hcB
  have hat : va_at D fcl (H.size, fE cA (.inr (t, a0))) H1 := by
    show H1[H.size]? = some (vp_cell (cA t) a0)
    rw [ha, e1]
  have hcu := hC.push (n := n.toNatClampNeg) hat z1 e1 (by rw [arrV_size]; exact Nat.le_refl _) o1 g1 g2
  have hk := kk H1 (fZ h - fZ h0 + 1) (fL h - fL h0 + n.toNatClampNeg) hcu
  rw [c2]
  exact hk
/-- anewarray -/
theorem fr_newq (hexec : p.tables.exec = Jvm.exec) (hb : c.code = cc) (hts : ∀ w ∈ WA, w.before args s = true) {own C : String} {index : Nat} (hown : s.vm.findClass own = some m.cls) (K : fKw D cA h0 s) (hC : fCur D cA s h0 h H locs) (hR : R.cells = fCB h0 - fZ h0 ∧ R.slots = fLB h0 - fL h0) {t : Nat} (ht : ftl[t]? = some (.object C)) (hcl : Cond.classLink own index C ∈ WA) (hover : Cond.arrayOver (.object C) ∈ WA) {n : Int32} {r : Nat × fSt} (hn : ¬ n < 0) (hg : fnew h (.inr (t, n.toNatClampNeg, .inr (.inr (.inr (.inr (fun _ => none)))))) n.toNatClampNeg = some r) (hbytes : n.toNatClampNeg * 4 ≤ 536870912) (hdg : decode cc pc = .ok (.anewarray index, 3))
    (kk : ∀ (H1 : Heap) (k n : Nat), fCur D cA s h0 r.2 H1 locs → W p l e R s m args below meth c H1 locs k n Q (F0 m (pc + 3) ls (va_rf (some r.1) :: rest))) : W p l e R s m args below meth c H locs cells slots Q (F0 m pc ls (.int n :: rest)) := by
  obtain ⟨g1, g2, rfl⟩ := fnew_inv hg
  refine fr_tight hC ?_
  obtain ⟨c1, c2, c3, c4, c5, c6, c7⟩ := id hC
  obtain ⟨d1, d2, d3, d4, -⟩ := c4
  refine W.anew hexec hb hown (hts _ hcl) (hts _ hover) rfl hdg rfl hn hbytes (by rw [hR.1]; omega) (by rw [hR.2]; omega) fun cB kA comp f1 f2 f3 f4 => ?_
  have hcB : cB = cA t := by
    obtain ⟨kA', comp', -, -, -, h4⟩ := (K.1.2 t _ (fTys_at ht)).2
    exact Option.some.inj (f1.symm.trans h4)
  subst hcB
  generalize hH1 : H.push ({ cls := cA t, slots := Array.replicate n.toNatClampNeg .null, vm := .none } : Cell) = H1
  have z1 : H1.size = H.size + 1 := by rw [← hH1, Array.size_push]
  have e1 : H1[H.size]? = some (arrV (cA t) n.toNatClampNeg (fun _ => .null)) := by rw [← hH1, Array.getElem?_push_size, ← arrV_new]
  have o1 : ∀ q : Nat, q < H.size → H1[q]? = H[q]? := fun q hq => by rw [← hH1, Array.getElem?_push, if_neg (Nat.ne_of_lt hq)]
  have hat : va_at D fcl (H.size, fE cA (.inr (t, n.toNatClampNeg, .inr (.inr (.inr (.inr (fun _ => none))))))) H1 := e1
  have hcu := hC.push (n := n.toNatClampNeg) hat z1 e1 (by rw [arrV_size]; exact Nat.le_refl _) o1 g1 g2
  have hk := kk H1 (fZ h - fZ h0 + 1) (fL h - fL h0 + n.toNatClampNeg) hcu
  rw [c2]
  exact hk
end FH5
end
section
section FH6
variable {p : Program} {l : Launch} {e : Env} {R : Room} {s : State} {m : MethodId} {args : Array Value} {below : List Frame} {meth : Method} {c : Code} {H : Heap} {locs : List Loc} {cells slots : Nat} {Q : State → Prop}
variable {D : va_G} {cA : Nat → ClassId} {h0 h h2 : fSt} {cc : ByteArray} {pc : Nat} {ls : Array Slot} {rest st0 : List Value}
theorem wGood {w : Cond} (h : w ∈ WA) : goodWord w = true := (List.mem_filter.mp h).2
theorem wGoodIn {ws : List Cond} (h : ∀ w ∈ ws, w ∈ WA) : GoodIn WA ws := fun w hw => ⟨h w hw, good_of_word (wGood (h w hw))⟩
/-- a method's words: its code, and all words -/
abbrev wsC (y : MethodName) (cd : ByteArray) (maxL : Nat) (ret : Option FieldType) : List Cond := Cond.code y cd maxL ret :: WA
abbrev wsCH (y : MethodName) (cd : ByteArray) (maxL : Nat) (ret : Option FieldType) (hh : List (Nat × Nat × Nat × Nat)) : List Cond := Cond.codeWith y cd maxL ret hh :: WA
theorem fr_room (hC : fCur D cA s h0 h H locs) (hR : R.cells = fCB h0 - fZ h0 ∧ R.slots = fLB h0 - fL h0) : fZ h - fZ h0 + (fCB h - fZ h) ≤ R.cells ∧ fL h - fL h0 + (fLB h - fL h) ≤ R.slots := by
  obtain ⟨c1, c2, c3, ⟨d1, d2, d3, d4, -⟩, ⟨o1, o2⟩, c6, c7⟩ := hC
  rw [hR.1, hR.2]
  omega
/-- what a call that returns leaves -/
theorem fCur.after (hC : fCur D cA s h0 h H locs) {st t T' : State} {L : List Loc} (e0 : st.heap = H) (e1 : T'.heap = t.heap) (hF : fFin D cA h h2 st t) (hL : ∀ q ∈ L, fA h q.base) : fCur D cA s h0 h2 T'.heap (locs ++ L) := by
  obtain ⟨c1, c2, c3, c4, c5, c6, c7⟩ := hC
  obtain ⟨f1, f2, f3, f4, f5, f6, f7⟩ := hF
  rw [e0] at f3 f6 f7
  rw [e1]
  have d2 := c4.2.1
  have d3 := f4.2.1
  refine ⟨f1, f2, by omega, c4.trans f4, f5, ⟨Nat.le_trans c6.1 f6, fun q h1 h3 => ?_, fun q hq => ?_⟩, c7⟩
  · rw [f7 q (Nat.lt_of_lt_of_le h1 c6.1) (fun z => h3 (fA.sub c4 q z))]
    exact c6.2.1 q h1 h3
  · rcases List.mem_append.mp hq with z | z
    · exact c6.2.2 q z
    · exact fA.sub c4 _ (hL q z)
theorem fr_ret {v : Option Value} {a : Array Value} {mc ms : Nat} (hr : va_Run p l e R s m args below meth c H locs (fZ h - fZ h0) (fL h - fL h0) mc ms (F0 m pc ls st0) rest (fQ D cA h h2 v a) (fA h)) (hC : fCur D cA s h0 h H locs)
    (kk : ∀ (H1 : Heap) (locs1 : List Loc) (k n : Nat), fCur D cA s h0 h2 H1 locs1 → W p l e R s m args below meth c H1 locs1 k n Q (F0 m (pc + 3) ls (v.toList ++ rest))) : W p l e R s m args below meth c H locs cells slots Q (F0 m pc ls st0) := by
  refine fr_tight hC ?_
  intro T hT X
  obtain ⟨v', st, t, T', L, e0, X', hL, e1, e2, ⟨hv, hF⟩, stp⟩ := hr T hT X
  cases hv
  obtain ⟨t2, a1, b1⟩ := kk T'.heap (locs ++ L) _ _ (hC.after e0 e1 hF hL) T' rfl X'
  exact ⟨t2, stp t2 a1, b1⟩
theorem fr_retX {v : Option Value} {a : Array Value} {mc ms : Nat} (hr : vx_Run p l e R s m args below meth c H locs (fZ h - fZ h0) (fL h - fL h0) mc ms (F0 m pc ls st0) rest (fQX D cA h h2 (.inl v) a) (fXC D cA h h2 (.inl v)) (fA h)) (hC : fCur D cA s h0 h H locs)
    (kk : ∀ (H1 : Heap) (locs1 : List Loc) (k n : Nat), fCur D cA s h0 h2 H1 locs1 → W p l e R s m args below meth c H1 locs1 k n Q (F0 m (pc + 3) ls (v.toList ++ rest))) : W p l e R s m args below meth c H locs cells slots Q (F0 m pc ls st0) := by
  refine fr_tight hC ?_
  intro T hT X
  rcases hr T hT X with ⟨v', st, t, T', L, e0, X', hL, e1, e2, ⟨v2, hv2, hv, hF⟩, stp⟩ | ⟨q, st, t, T', L, E, ce, e0, X', hL, e1, e2, ⟨k, hk, -⟩, -⟩
  · cases hv2
    cases hv
    obtain ⟨t2, a1, b1⟩ := kk T'.heap (locs ++ L) _ _ (hC.after e0 e1 hF hL) T' rfl X'
    exact ⟨t2, stp t2 a1, b1⟩
  · cases hk
/-- a call that throws -/
theorem fr_thr {k9 : Nat} {a : Array Value} {mc ms : Nat} (hr : vx_Run p l e R s m args below meth c H locs (fZ h - fZ h0) (fL h - fL h0) mc ms (F0 m pc ls st0) rest (fQX D cA h h2 (.inr k9) a) (fXC D cA h h2 (.inr k9)) (fA h)) (hC : fCur D cA s h0 h H locs)
    (kk : ∀ (H1 : Heap) (locs1 : List Loc) (k n : Nat) (q : Addr) (ce : Cell), fCur D cA s h0 h2 H1 locs1 → H1[q]? = some ce → ce.vm = .none → s.vm.findClass (fEx k9) = some ce.cls → vx_W p l e R s m args below meth c H1 locs1 k n Q (F0 m pc ls rest) q) : W p l e R s m args below meth c H locs cells slots Q (F0 m pc ls st0) := by
  refine fr_tight hC ?_
  intro T hT X
  rcases hr T hT X with ⟨v', st, t, T', L, e0, X', hL, e1, e2, ⟨v2, hv2, -⟩, -⟩ | ⟨q, st, t, T', L, E, ce, e0, X', hL, e1, e2, ⟨k, hk, hE, hF⟩, hce, hcv, hcl, stp⟩
  · cases hv2
  · cases hk
    subst hE
    obtain ⟨t2, a1, b1⟩ := kk T'.heap (locs ++ L) _ _ q ce (hC.after e0 e1 hF hL) (by rw [e1]; exact hce) hcv hcl T' rfl X'
    exact ⟨t2, stp.trans a1, b1⟩
/-- the words and the room of a callee -/
theorem fWords (hts : ∀ w ∈ WA, w.before args s = true) {y : MethodName} {cd : ByteArray} {maxL : Nat} {ret : Option FieldType} (hcode : Cond.code y cd maxL ret ∈ WA) : ∀ w ∈ wsC y cd maxL ret, w ∈ WA := fun w hw => (List.mem_cons.mp hw).elim (fun z => by rw [z]; exact hcode) id
theorem fCallB (hts : ∀ w ∈ WA, w.before args s = true) {own : String} {index maxL mc ms fr lo : Nat} {y : MethodName} {cd : ByteArray} {ret : Option FieldType} (n : Nat) (hcode : Cond.code y cd maxL ret ∈ WA) (hlink : Cond.methodLink own index y ∈ WA) (hini : Cond.initialized y.cls ∈ WA) (hd : y.cls ≠ "java/lang/invoke/MethodHandle" ∧ y.cls ≠ "java/lang/invoke/VarHandle" ∧ (parseMethodDescriptor y.desc).map (fun d => d.parameters.length) = some n) (hRm : fr + 1 ≤ R.frames ∧ 8 + (maxL + 11) + lo ≤ R.locals) :
    CallB R s args own index y cd maxL ret (wsC y cd maxL ret) { frames := fr, cells := mc, slots := ms, locals := lo } mc ms n :=
  callB_of n hts (wGoodIn (fWords hts hcode)) rfl rfl rfl (hts _ hini) (hts _ hlink) hd hRm
theorem fPreV {y : MethodName} (hC : fCur D cA s h0 h H locs) (K : fKw D cA h0 s) {C : String} {T : u_T} {N ci : Nat} {ty : Nat → FieldType} (ct : CT ci C T N ty) {b : Nat} {fs : List Value} (hb : fF h b = some (.inl (ci, fs))) (As : List Value) : PreV s H C b (va_Pc (.ref b :: As) (fCp D cA h)) As := by
  refine ⟨fBlind, va_recv (D := D) (cl := fcl) (ws := [(b, .inr (ci, fs))]) (q0 := 0) (ci := ci) (q := (C, T, N)) K.1 (fOne hC hb) ct.1 rfl, fun U hU hW => ⟨rfl, hC.call K hU hW⟩⟩
theorem fPreS (hC : fCur D cA s h0 h H locs) (K : fKw D cA h0 s) (As : List Value) : PreS s H (va_Pc As (fCp D cA h)) As := ⟨fBlind, fun U hU hW => ⟨rfl, hC.call K hU hW⟩⟩
/-- the class of the receiver -/
def fobj (h : fSt) (r : Option Nat) (ci : Nat) : Option Nat := match r with
  | none => none
  | some a => match fF h a with
    | some (.inl (cj, _)) => if cj = ci then some a else none
    | _ => none
theorem fobj_inv {r : Option Nat} {ci b : Nat} (h1 : fobj h r ci = some b) : r = some b ∧ ∃ fs, fF h b = some (.inl (ci, fs)) := by
  unfold fobj at h1
  split at h1
  · cases h1
  · rename_i a
    split at h1
    · rename_i cj fs hq
      by_cases z : cj = ci
      · subst z
        rw [if_pos (Eq.refl _)] at h1
        cases h1
        exact ⟨rfl, fs, hq⟩
      · rw [if_neg z] at h1; cases h1
    · cases h1
/-- invokevirtual of a method that returns v -/
theorem fr_callV (hexec : p.tables.exec = Jvm.exec) (hb : c.code = cc) {nL : Nat} (hml : c.maxLocals = nL) (hts : ∀ w ∈ WA, w.before args s = true) {own C : String} {T : u_T} {N ci index maxL fr lo : Nat} {ty : Nat → FieldType} (hown : s.vm.findClass own = some m.cls) (K : fKw D cA h0 s) (hC : fCur D cA s h0 h H locs) (hR : R.cells = fCB h0 - fZ h0 ∧ R.slots = fLB h0 - fL h0) (ct : CT ci C T N ty)
    {y : MethodName} {cd : ByteArray} {ret : Option FieldType} {r : Option Nat} {b : Nat} {As : List Value} {v : Option Value} (hM : fMet l y (wsC y cd maxL ret) fr lo D cA (.ref b :: As) h h2 v) (n : Nat) (hg : fobj h r ci = some b) (hcode : Cond.code y cd maxL ret ∈ WA) (hlink : Cond.methodLink own index y ∈ WA) (hinst : Cond.instanceMethod y ∈ WA) (hsel : Cond.selects C y y ∈ WA) (hini : Cond.initialized y.cls ∈ WA)
    (hd : y.cls ≠ "java/lang/invoke/MethodHandle" ∧ y.cls ≠ "java/lang/invoke/VarHandle" ∧ (parseMethodDescriptor y.desc).map (fun d => d.parameters.length) = some n) (hRm : fr + 1 ≤ R.frames ∧ 8 + (maxL + 11) + lo ≤ R.locals) (hn : As.length = n) (hsize : ls.size = nL) (hW : (rest.map fun v => v.category).sum ≤ 8) (hdg : decode cc pc = .ok (.invokevirtual index, 3)) (hst : st0 = As.reverse ++ va_rf r :: rest)
    (kk : ∀ (H1 : Heap) (locs1 : List Loc) (k n : Nat), fCur D cA s h0 h2 H1 locs1 → W p l e R s m args below meth c H1 locs1 k n Q (F0 m (pc + 3) ls (v.toList ++ rest))) : W p l e R s m args below meth c H locs cells slots Q (F0 m pc ls st0) := by
  obtain ⟨rfl, fs, hbo⟩ := fobj_inv hg
  subst hst
  exact fr_ret (va_runV ⟨hexec, hb, hml, hown, hts⟩ hM ⟨fCallB hts n hcode hlink hini hd hRm, hts _ hinst, hts _ hsel⟩ (fPreV (y := y) hC K ct hbo As) rfl hn hsize rfl (by show 2 * 0 + _ ≤ 8; omega) hdg (fr_room hC hR)) hC kk
theorem fr_callVX (hexec : p.tables.exec = Jvm.exec) (hb : c.code = cc) {nL : Nat} (hml : c.maxLocals = nL) (hts : ∀ w ∈ WA, w.before args s = true) {own C : String} {T : u_T} {N ci index maxL fr lo : Nat} {ty : Nat → FieldType} (hown : s.vm.findClass own = some m.cls) (K : fKw D cA h0 s) (hC : fCur D cA s h0 h H locs) (hR : R.cells = fCB h0 - fZ h0 ∧ R.slots = fLB h0 - fL h0) (ct : CT ci C T N ty)
    {y : MethodName} {cd : ByteArray} {ret : Option FieldType} {r : Option Nat} {b : Nat} {As : List Value} {v : Option Value} (hM : fMetX l y (wsC y cd maxL ret) fr lo D cA (.ref b :: As) h h2 (.inl v)) (n : Nat) (hg : fobj h r ci = some b) (hcode : Cond.code y cd maxL ret ∈ WA) (hlink : Cond.methodLink own index y ∈ WA) (hinst : Cond.instanceMethod y ∈ WA) (hsel : Cond.selects C y y ∈ WA) (hini : Cond.initialized y.cls ∈ WA)
    (hd : y.cls ≠ "java/lang/invoke/MethodHandle" ∧ y.cls ≠ "java/lang/invoke/VarHandle" ∧ (parseMethodDescriptor y.desc).map (fun d => d.parameters.length) = some n) (hRm : fr + 1 ≤ R.frames ∧ 8 + (maxL + 11) + lo ≤ R.locals) (hn : As.length = n) (hsize : ls.size = nL) (hW : (rest.map fun v => v.category).sum ≤ 8) (hdg : decode cc pc = .ok (.invokevirtual index, 3)) (hst : st0 = As.reverse ++ va_rf r :: rest)
    (kk : ∀ (H1 : Heap) (locs1 : List Loc) (k n : Nat), fCur D cA s h0 h2 H1 locs1 → W p l e R s m args below meth c H1 locs1 k n Q (F0 m (pc + 3) ls (v.toList ++ rest))) : W p l e R s m args below meth c H locs cells slots Q (F0 m pc ls st0) := by
  obtain ⟨rfl, fs, hbo⟩ := fobj_inv hg
  subst hst
  exact fr_retX (vx_runV ⟨hexec, hb, hml, hown, hts⟩ hM ⟨fCallB hts n hcode hlink hini hd hRm, hts _ hinst, hts _ hsel⟩ (fPreV (y := y) hC K ct hbo As) rfl hn hsize rfl (by show 2 * 0 + _ ≤ 8; omega) hdg (fr_room hC hR)) hC kk
theorem fr_callVT (hexec : p.tables.exec = Jvm.exec) (hb : c.code = cc) {nL : Nat} (hml : c.maxLocals = nL) (hts : ∀ w ∈ WA, w.before args s = true) {own C : String} {T : u_T} {N ci index maxL fr lo : Nat} {ty : Nat → FieldType} (hown : s.vm.findClass own = some m.cls) (K : fKw D cA h0 s) (hC : fCur D cA s h0 h H locs) (hR : R.cells = fCB h0 - fZ h0 ∧ R.slots = fLB h0 - fL h0) (ct : CT ci C T N ty)
    {y : MethodName} {cd : ByteArray} {ret : Option FieldType} {r : Option Nat} {b k9 : Nat} {As : List Value} (hM : fMetX l y (wsC y cd maxL ret) fr lo D cA (.ref b :: As) h h2 (.inr k9)) (n : Nat) (hg : fobj h r ci = some b) (hcode : Cond.code y cd maxL ret ∈ WA) (hlink : Cond.methodLink own index y ∈ WA) (hinst : Cond.instanceMethod y ∈ WA) (hsel : Cond.selects C y y ∈ WA) (hini : Cond.initialized y.cls ∈ WA)
    (hd : y.cls ≠ "java/lang/invoke/MethodHandle" ∧ y.cls ≠ "java/lang/invoke/VarHandle" ∧ (parseMethodDescriptor y.desc).map (fun d => d.parameters.length) = some n) (hRm : fr + 1 ≤ R.frames ∧ 8 + (maxL + 11) + lo ≤ R.locals) (hn : As.length = n) (hsize : ls.size = nL) (hW : (rest.map fun v => v.category).sum ≤ 8) (hdg : decode cc pc = .ok (.invokevirtual index, 3)) (hst : st0 = As.reverse ++ va_rf r :: rest)
    (kk : ∀ (H1 : Heap) (locs1 : List Loc) (k n : Nat) (q : Addr) (ce : Cell), fCur D cA s h0 h2 H1 locs1 → H1[q]? = some ce → ce.vm = .none → s.vm.findClass (fEx k9) = some ce.cls → vx_W p l e R s m args below meth c H1 locs1 k n Q (F0 m pc ls rest) q) : W p l e R s m args below meth c H locs cells slots Q (F0 m pc ls st0) := by
  obtain ⟨rfl, fs, hbo⟩ := fobj_inv hg
  subst hst
  exact fr_thr (vx_runV ⟨hexec, hb, hml, hown, hts⟩ hM ⟨fCallB hts n hcode hlink hini hd hRm, hts _ hinst, hts _ hsel⟩ (fPreV (y := y) hC K ct hbo As) rfl hn hsize rfl (by show 2 * 0 + _ ≤ 8; omega) hdg (fr_room hC hR)) hC kk
/-- invokestatic -/
theorem fr_callS (hexec : p.tables.exec = Jvm.exec) (hb : c.code = cc) {nL : Nat} (hml : c.maxLocals = nL) (hts : ∀ w ∈ WA, w.before args s = true) {own : String} {index maxL fr lo : Nat} (hown : s.vm.findClass own = some m.cls) (K : fKw D cA h0 s) (hC : fCur D cA s h0 h H locs) (hR : R.cells = fCB h0 - fZ h0 ∧ R.slots = fLB h0 - fL h0)
    {y : MethodName} {cd : ByteArray} {ret : Option FieldType} {As : List Value} {v : Option Value} (hM : fMet l y (wsC y cd maxL ret) fr lo D cA As h h2 v) (n : Nat) (hcode : Cond.code y cd maxL ret ∈ WA) (hlink : Cond.methodLink own index y ∈ WA) (hstat : Cond.static y ∈ WA) (hini : Cond.initialized y.cls ∈ WA)
    (hd : y.cls ≠ "java/lang/invoke/MethodHandle" ∧ y.cls ≠ "java/lang/invoke/VarHandle" ∧ (parseMethodDescriptor y.desc).map (fun d => d.parameters.length) = some n) (hRm : fr + 1 ≤ R.frames ∧ 8 + (maxL + 11) + lo ≤ R.locals) (hn : As.length = n) (hsize : ls.size = nL) (hW : (rest.map fun v => v.category).sum ≤ 8) (hdg : decode cc pc = .ok (.invokestatic index, 3)) (hst : st0 = As.reverse ++ rest)
    (kk : ∀ (H1 : Heap) (locs1 : List Loc) (k n : Nat), fCur D cA s h0 h2 H1 locs1 → W p l e R s m args below meth c H1 locs1 k n Q (F0 m (pc + 3) ls (v.toList ++ rest))) : W p l e R s m args below meth c H locs cells slots Q (F0 m pc ls st0) := by
  subst hst
  exact fr_ret (va_runS ⟨hexec, hb, hml, hown, hts⟩ hM ⟨fCallB hts n hcode hlink hini hd hRm, hts _ hstat⟩ (fPreS hC K As) rfl hn hsize rfl (by show 2 * 0 + _ ≤ 8; omega) hdg (fr_room hC hR)) hC kk
theorem fr_callSX (hexec : p.tables.exec = Jvm.exec) (hb : c.code = cc) {nL : Nat} (hml : c.maxLocals = nL) (hts : ∀ w ∈ WA, w.before args s = true) {own : String} {index maxL fr lo : Nat} (hown : s.vm.findClass own = some m.cls) (K : fKw D cA h0 s) (hC : fCur D cA s h0 h H locs) (hR : R.cells = fCB h0 - fZ h0 ∧ R.slots = fLB h0 - fL h0)
    {y : MethodName} {cd : ByteArray} {ret : Option FieldType} {As : List Value} {v : Option Value} (hM : fMetX l y (wsC y cd maxL ret) fr lo D cA As h h2 (.inl v)) (n : Nat) (hcode : Cond.code y cd maxL ret ∈ WA) (hlink : Cond.methodLink own index y ∈ WA) (hstat : Cond.static y ∈ WA) (hini : Cond.initialized y.cls ∈ WA)
    (hd : y.cls ≠ "java/lang/invoke/MethodHandle" ∧ y.cls ≠ "java/lang/invoke/VarHandle" ∧ (parseMethodDescriptor y.desc).map (fun d => d.parameters.length) = some n) (hRm : fr + 1 ≤ R.frames ∧ 8 + (maxL + 11) + lo ≤ R.locals) (hn : As.length = n) (hsize : ls.size = nL) (hW : (rest.map fun v => v.category).sum ≤ 8) (hdg : decode cc pc = .ok (.invokestatic index, 3)) (hst : st0 = As.reverse ++ rest)
    (kk : ∀ (H1 : Heap) (locs1 : List Loc) (k n : Nat), fCur D cA s h0 h2 H1 locs1 → W p l e R s m args below meth c H1 locs1 k n Q (F0 m (pc + 3) ls (v.toList ++ rest))) : W p l e R s m args below meth c H locs cells slots Q (F0 m pc ls st0) := by
  subst hst
  exact fr_retX (vx_runS ⟨hexec, hb, hml, hown, hts⟩ hM ⟨fCallB hts n hcode hlink hini hd hRm, hts _ hstat⟩ (fPreS hC K As) rfl hn hsize rfl (by show 2 * 0 + _ ≤ 8; omega) hdg (fr_room hC hR)) hC kk
theorem fr_callST (hexec : p.tables.exec = Jvm.exec) (hb : c.code = cc) {nL : Nat} (hml : c.maxLocals = nL) (hts : ∀ w ∈ WA, w.before args s = true) {own : String} {index maxL fr lo : Nat} (hown : s.vm.findClass own = some m.cls) (K : fKw D cA h0 s) (hC : fCur D cA s h0 h H locs) (hR : R.cells = fCB h0 - fZ h0 ∧ R.slots = fLB h0 - fL h0)
    {y : MethodName} {cd : ByteArray} {ret : Option FieldType} {As : List Value} {k9 : Nat} (hM : fMetX l y (wsC y cd maxL ret) fr lo D cA As h h2 (.inr k9)) (n : Nat) (hcode : Cond.code y cd maxL ret ∈ WA) (hlink : Cond.methodLink own index y ∈ WA) (hstat : Cond.static y ∈ WA) (hini : Cond.initialized y.cls ∈ WA)
    (hd : y.cls ≠ "java/lang/invoke/MethodHandle" ∧ y.cls ≠ "java/lang/invoke/VarHandle" ∧ (parseMethodDescriptor y.desc).map (fun d => d.parameters.length) = some n) (hRm : fr + 1 ≤ R.frames ∧ 8 + (maxL + 11) + lo ≤ R.locals) (hn : As.length = n) (hsize : ls.size = nL) (hW : (rest.map fun v => v.category).sum ≤ 8) (hdg : decode cc pc = .ok (.invokestatic index, 3)) (hst : st0 = As.reverse ++ rest)
    (kk : ∀ (H1 : Heap) (locs1 : List Loc) (k n : Nat) (q : Addr) (ce : Cell), fCur D cA s h0 h2 H1 locs1 → H1[q]? = some ce → ce.vm = .none → s.vm.findClass (fEx k9) = some ce.cls → vx_W p l e R s m args below meth c H1 locs1 k n Q (F0 m pc ls rest) q) : W p l e R s m args below meth c H locs cells slots Q (F0 m pc ls st0) := by
  subst hst
  exact fr_thr (vx_runS ⟨hexec, hb, hml, hown, hts⟩ hM ⟨fCallB hts n hcode hlink hini hd hRm, hts _ hstat⟩ (fPreS hC K As) rfl hn hsize rfl (by show 2 * 0 + _ ≤ 8; omega) hdg (fr_room hC hR)) hC kk
/-- a constructor of ours -/
theorem fr_callI (hexec : p.tables.exec = Jvm.exec) (hb : c.code = cc) {nL : Nat} (hml : c.maxLocals = nL) (hts : ∀ w ∈ WA, w.before args s = true) {own : String} {index maxL fr lo : Nat} (hown : s.vm.findClass own = some m.cls) (K : fKw D cA h0 s) (hC : fCur D cA s h0 h H locs) (hR : R.cells = fCB h0 - fZ h0 ∧ R.slots = fLB h0 - fL h0)
    {y : MethodName} {cd : ByteArray} {b : Nat} {As : List Value} (hM : fMet l y (wsC y cd maxL none) fr lo D cA (.ref b :: As) h h2 none) (n : Nat) (hcode : Cond.code y cd maxL none ∈ WA) (hlink : Cond.methodLink own index y ∈ WA) (hinst : Cond.instanceMethod y ∈ WA) (hini : Cond.initialized y.cls ∈ WA) (hnm : y.name = "<init>")
    (hd : y.cls ≠ "java/lang/invoke/MethodHandle" ∧ y.cls ≠ "java/lang/invoke/VarHandle" ∧ (parseMethodDescriptor y.desc).map (fun d => d.parameters.length) = some n) (hRm : fr + 1 ≤ R.frames ∧ 8 + (maxL + 11) + lo ≤ R.locals) (hn : As.length = n) (hsize : ls.size = nL) (hW : (rest.map fun v => v.category).sum ≤ 8) (hdg : decode cc pc = .ok (.invokespecial index, 3)) (hst : st0 = As.reverse ++ va_rf (some b) :: rest)
    (kk : ∀ (H1 : Heap) (locs1 : List Loc) (k n : Nat), fCur D cA s h0 h2 H1 locs1 → W p l e R s m args below meth c H1 locs1 k n Q (F0 m (pc + 3) ls rest)) : W p l e R s m args below meth c H locs cells slots Q (F0 m pc ls st0) := by
  subst hst
  exact fr_ret (va_runI ⟨hexec, hb, hml, hown, hts⟩ hM ⟨fCallB hts n hcode hlink hini hd hRm, hnm, hts _ hinst⟩ (fPreS hC K (.ref b :: As)) rfl hn hsize rfl (by show 2 * 0 + _ ≤ 8; omega) hdg (fr_room hC hR)) hC kk
end FH6
end
section
section FH7
variable {p : Program} {l : Launch} {e : Env} {R : Room} {s : State} {m : MethodId} {args : Array Value} {below : List Frame} {meth : Method} {c : Code} {H : Heap} {locs : List Loc} {cells slots : Nat} {Q : State → Prop}
variable {D : va_G} {cA : Nat → ClassId} {h0 h h2 : fSt} {cc : ByteArray} {pc : Nat} {ls : Array Slot} {rest st0 : List Value}
/-- a static private method of the nest -/
theorem fr_callSN (hexec : p.tables.exec = Jvm.exec) (hb : c.code = cc) {nL : Nat} (hml : c.maxLocals = nL) (hts : ∀ w ∈ WA, w.before args s = true) {own host : String} {index maxL fr lo : Nat} (hown : s.vm.findClass own = some m.cls) (K : fKw D cA h0 s) (hC : fCur D cA s h0 h H locs) (hR : R.cells = fCB h0 - fZ h0 ∧ R.slots = fLB h0 - fL h0)
    {y : MethodName} {cd : ByteArray} {ret : Option FieldType} {As : List Value} {v : Option Value} (hM : fMet l y (wsC y cd maxL ret) fr lo D cA As h h2 v) (n : Nat) (hcode : Cond.code y cd maxL ret ∈ WA) (hlink : Cond.methodLinkNest own index y host ∈ fNw) (hstat : Cond.static y ∈ WA) (hini : Cond.initialized y.cls ∈ WA)
    (hd : y.cls ≠ "java/lang/invoke/MethodHandle" ∧ y.cls ≠ "java/lang/invoke/VarHandle" ∧ (parseMethodDescriptor y.desc).map (fun d => d.parameters.length) = some n) (hRm : fr + 1 ≤ R.frames ∧ 8 + (maxL + 11) + lo ≤ R.locals) (hn : As.length = n) (hsize : ls.size = nL) (hW : (rest.map fun v => v.category).sum ≤ 8) (hdg : decode cc pc = .ok (.invokestatic index, 3)) (hst : st0 = As.reverse ++ rest)
    (kk : ∀ (H1 : Heap) (locs1 : List Loc) (k n : Nat), fCur D cA s h0 h2 H1 locs1 → W p l e R s m args below meth c H1 locs1 k n Q (F0 m (pc + 3) ls (v.toList ++ rest))) : W p l e R s m args below meth c H locs cells slots Q (F0 m pc ls st0) := by
  subst hst
  exact fr_ret (va_runSN ⟨hexec, hb, hml, hown, hts⟩ hM ⟨va_cnB n hts (wGoodIn (fWords hts hcode)) rfl rfl rfl (K.2.2.2.2.2 _ hlink) (hts _ hini) hd hRm, hts _ hstat, trivial⟩ (fPreS hC K As) rfl hn hsize rfl (by show 2 * 0 + _ ≤ 8; omega) hdg (fr_room hC hR)) hC kk
/-- a private constructor of the nest -/
theorem fr_callIN (hexec : p.tables.exec = Jvm.exec) (hb : c.code = cc) {nL : Nat} (hml : c.maxLocals = nL) (hts : ∀ w ∈ WA, w.before args s = true) {own host : String} {index maxL fr lo : Nat} (hown : s.vm.findClass own = some m.cls) (K : fKw D cA h0 s) (hC : fCur D cA s h0 h H locs) (hR : R.cells = fCB h0 - fZ h0 ∧ R.slots = fLB h0 - fL h0)
    {y : MethodName} {cd : ByteArray} {b : Nat} {As : List Value} (hM : fMet l y (wsC y cd maxL none) fr lo D cA (.ref b :: As) h h2 none) (n : Nat) (hcode : Cond.code y cd maxL none ∈ WA) (hlink : Cond.methodLinkNest own index y host ∈ fNw) (hinst : Cond.instanceMethod y ∈ WA) (hini : Cond.initialized y.cls ∈ WA) (hnm : y.name = "<init>")
    (hd : y.cls ≠ "java/lang/invoke/MethodHandle" ∧ y.cls ≠ "java/lang/invoke/VarHandle" ∧ (parseMethodDescriptor y.desc).map (fun d => d.parameters.length) = some n) (hRm : fr + 1 ≤ R.frames ∧ 8 + (maxL + 11) + lo ≤ R.locals) (hn : As.length = n) (hsize : ls.size = nL) (hW : (rest.map fun v => v.category).sum ≤ 8) (hdg : decode cc pc = .ok (.invokespecial index, 3)) (hst : st0 = As.reverse ++ va_rf (some b) :: rest)
    (kk : ∀ (H1 : Heap) (locs1 : List Loc) (k n : Nat), fCur D cA s h0 h2 H1 locs1 → W p l e R s m args below meth c H1 locs1 k n Q (F0 m (pc + 3) ls rest)) : W p l e R s m args below meth c H locs cells slots Q (F0 m pc ls st0) := by
  subst hst
  exact fr_ret (va_runIN ⟨hexec, hb, hml, hown, hts⟩ hM ⟨va_cnB n hts (wGoodIn (fWords hts hcode)) rfl rfl rfl (K.2.2.2.2.2 _ hlink) (hts _ hini) hd hRm, hnm, hts _ hinst⟩ (fPreS hC K (.ref b :: As)) rfl hn hsize rfl (by show 2 * 0 + _ ≤ 8; omega) hdg (fr_room hC hR)) hC kk
/-- a static method with handlers, that returns -/
theorem fr_callSH (hexec : p.tables.exec = Jvm.exec) (hb : c.code = cc) {nL : Nat} (hml : c.maxLocals = nL) (hts : ∀ w ∈ WA, w.before args s = true) {own : String} {index maxL fr lo : Nat} (hown : s.vm.findClass own = some m.cls) (K : fKw D cA h0 s) (hC : fCur D cA s h0 h H locs) (hR : R.cells = fCB h0 - fZ h0 ∧ R.slots = fLB h0 - fL h0)
    {y : MethodName} {cd : ByteArray} {ret : Option FieldType} {hh : List (Nat × Nat × Nat × Nat)} {As : List Value} {v : Option Value} (hM : fMetX l y (wsCH y cd maxL ret hh) fr lo D cA As h h2 (.inl v)) (n : Nat) (hcode : Cond.codeWith y cd maxL ret hh ∈ WA) (hlink : Cond.methodLink own index y ∈ WA) (hstat : Cond.static y ∈ WA) (hini : Cond.initialized y.cls ∈ WA)
    (hd : y.cls ≠ "java/lang/invoke/MethodHandle" ∧ y.cls ≠ "java/lang/invoke/VarHandle" ∧ (parseMethodDescriptor y.desc).map (fun d => d.parameters.length) = some n) (hRm : fr + 1 ≤ R.frames ∧ 8 + (maxL + 11) + lo ≤ R.locals) (hn : As.length = n) (hsize : ls.size = nL) (hW : (rest.map fun v => v.category).sum ≤ 8) (hdg : decode cc pc = .ok (.invokestatic index, 3)) (hst : st0 = As.reverse ++ rest)
    (kk : ∀ (H1 : Heap) (locs1 : List Loc) (k n : Nat), fCur D cA s h0 h2 H1 locs1 → W p l e R s m args below meth c H1 locs1 k n Q (F0 m (pc + 3) ls (v.toList ++ rest))) : W p l e R s m args below meth c H locs cells slots Q (F0 m pc ls st0) := by
  subst hst
  have hall : ∀ w ∈ va_wsS own index y (wsCH y cd maxL ret hh), w ∈ WA := by
    intro w hw
    simp only [va_wsS, List.mem_append, List.mem_cons, List.not_mem_nil, or_false] at hw
    rcases hw with (h | h | h) | h | h
    · rw [h]; exact hlink
    · rw [h]; exact hstat
    · rw [h]; exact hini
    · rw [h]; exact hcode
    · exact h
  exact fr_retX (vx_runSX ⟨hexec, hb, hml, hown, hts⟩ hM (vx_cwSW n hts (wGoodIn hall) rfl rfl rfl hd hRm) (fPreS hC K As) rfl hn hsize rfl (by show 2 * 0 + _ ≤ 8; omega) hdg (fr_room hC hR)) hC kk
theorem fr_iret (hexec : p.tables.exec = Jvm.exec) (hb : c.code = cc) (hr : meth.sig.returnType = some .int) (hlocks : meth.locks = false) (hC : fCur D cA s h0 h H locs) {x : Int32} (hdg : decode cc pc = .ok (.ireturn, 1)) : W p l e R s m args below meth c H locs cells slots (MQ below (fQ D cA h0 h (some (.int x))) args s (fCB h0 - fZ h0) (fLB h0 - fL h0) (fA h0)) (F0 m pc ls [.int x]) :=
  fr_end hC (W.iret hexec hb hr (fun t ht hW => ⟨rfl, hC.fin ht⟩) hC.2.2.2.2.2.1.2.2 hdg hlocks)
theorem fr_zret (hexec : p.tables.exec = Jvm.exec) (hb : c.code = cc) (hr : meth.sig.returnType = some .boolean) (hlocks : meth.locks = false) (hC : fCur D cA s h0 h H locs) {x : Int32} (hx : x = 0 ∨ x = 1) (hdg : decode cc pc = .ok (.ireturn, 1)) : W p l e R s m args below meth c H locs cells slots (MQ below (fQ D cA h0 h (some (.int x))) args s (fCB h0 - fZ h0) (fLB h0 - fL h0) (fA h0)) (F0 m pc ls [.int x]) :=
  fr_end hC (W.zret hexec hb hr (by rcases hx with rfl | rfl <;> rfl) (fun t ht hW => ⟨rfl, hC.fin ht⟩) hC.2.2.2.2.2.1.2.2 hdg hlocks)
theorem fr_lret (hexec : p.tables.exec = Jvm.exec) (hb : c.code = cc) (hr : meth.sig.returnType = some .long) (hlocks : meth.locks = false) (hC : fCur D cA s h0 h H locs) {x : Int64} (hdg : decode cc pc = .ok (.lreturn, 1)) : W p l e R s m args below meth c H locs cells slots (MQ below (fQ D cA h0 h (some (.long x))) args s (fCB h0 - fZ h0) (fLB h0 - fL h0) (fA h0)) (F0 m pc ls [.long x]) :=
  fr_end hC (W.lret hexec hb hr (fun t ht hW => ⟨rfl, hC.fin ht⟩) hC.2.2.2.2.2.1.2.2 hdg hlocks)
theorem fr_dret (hexec : p.tables.exec = Jvm.exec) (hb : c.code = cc) (hr : meth.sig.returnType = some .double) (hlocks : meth.locks = false) (hC : fCur D cA s h0 h H locs) {x : UInt64} (hdg : decode cc pc = .ok (.dreturn, 1)) : W p l e R s m args below meth c H locs cells slots (MQ below (fQ D cA h0 h (some (.double x))) args s (fCB h0 - fZ h0) (fLB h0 - fL h0) (fA h0)) (F0 m pc ls [.double x]) :=
  fr_end hC (W.dret hexec hb hr (fun t ht hW => ⟨rfl, hC.fin ht⟩) hC.2.2.2.2.2.1.2.2 hdg)
theorem fr_vret (hexec : p.tables.exec = Jvm.exec) (hb : c.code = cc) (hr : meth.sig.returnType = none) (hlocks : meth.locks = false) (hC : fCur D cA s h0 h H locs) (hdg : decode cc pc = .ok (.return_, 1)) : W p l e R s m args below meth c H locs cells slots (MQ below (fQ D cA h0 h none) args s (fCB h0 - fZ h0) (fLB h0 - fL h0) (fA h0)) (F0 m pc ls []) :=
  fr_end hC (W.vret hexec hb hr (fun t ht hW => ⟨rfl, hC.fin ht⟩) hC.2.2.2.2.2.1.2.2 hdg hlocks)
theorem fr_aret (hexec : p.tables.exec = Jvm.exec) (hb : c.code = cc) {rt : FieldType} (hr : meth.sig.returnType = some rt) (hrt : (∃ n, rt = .object n) ∨ ∃ t, rt = .array t) (hlocks : meth.locks = false) (hC : fCur D cA s h0 h H locs) {x : Option Nat} (hdg : decode cc pc = .ok (.areturn, 1)) : W p l e R s m args below meth c H locs cells slots (MQ below (fQ D cA h0 h (some (va_rf x))) args s (fCB h0 - fZ h0) (fLB h0 - fL h0) (fA h0)) (F0 m pc ls [va_rf x]) :=
  fr_end hC (W.aret hexec hb hr hrt (by cases x with | none => exact Or.inl rfl | some a => exact Or.inr ⟨a, rfl⟩) (fun t ht hW => ⟨rfl, hC.fin ht⟩) hC.2.2.2.2.2.1.2.2 hdg hlocks)
/-- a return of a method that may throw -/
theorem fr_retQ {v : Option Value} {g : JFrame} {mc ms : Nat} {XC : String → State → State → Prop} {free : Addr → Prop} (kk : W p l e R s m args below meth c H locs cells slots (MQ below (fQ D cA h0 h v) args s mc ms free) g) : W p l e R s m args below meth c H locs cells slots (vx_MQ below (fQX D cA h0 h (.inl v)) XC args s mc ms free) g := by
  intro T hT X
  obtain ⟨t, a1, o, b1, b2, b3, b4⟩ := kk T hT X
  exact ⟨t, a1, o, b1, b2, Or.inl ⟨⟨v, rfl, b3⟩, b4⟩⟩
/-- thrown on to the caller -/
theorem fr_out {k9 : Nat} {ce : Cell} {q : Addr} (hout : ∀ x ∈ c.exceptionTable.toList, covers x pc = false) (hlocks : meth.locks = false) (hC : fCur D cA s h0 h H locs) (hcell : H[q]? = some ce) (hv : ce.vm = .none) (hcl : s.vm.findClass (fEx k9) = some ce.cls) :
    vx_W p l e R s m args below meth c H locs cells slots (vx_MQ below (fQX D cA h0 h (.inr k9)) (fXC D cA h0 h (.inr k9)) args s (fCB h0 - fZ h0) (fLB h0 - fL h0) (fA h0)) (F0 m pc ls rest) q := by
  intro T hT X
  obtain ⟨c1, c2, c3, c4, c5, c6, c7⟩ := id hC
  obtain ⟨d1, d2, d3, d4, -⟩ := c4
  obtain ⟨o1, o2⟩ := c5
  have X2 : Stand p l e R s m args below meth c T locs (fCB h0 - fZ h0) (fLB h0 - fL h0) := fStand X (by rw [hT]; omega) (by rw [hT]; omega)
  exact vx_out (E := fEx k9) hout hlocks hcell hv hcl (fun t ht hvm => ⟨k9, rfl, rfl, hC.fin ht⟩) c6.2.2 (Nat.le_refl _) (Nat.le_refl _) T hT X2
def fthr (h : fSt) : Option fSt := if fZ h + 1 ≤ fCB h ∧ fL h + 6 ≤ fLB h then some (fF h, fZ h + 1, fL h + 6, fCB h, fLB h) else none
theorem fthr_inv (h1 : fthr h = some h2) : fZ h + 1 ≤ fCB h ∧ fL h + 6 ≤ fLB h ∧ h2 = (fF h, fZ h + 1, fL h + 6, fCB h, fLB h) := by
  unfold fthr at h1
  by_cases z : fZ h + 1 ≤ fCB h ∧ fL h + 6 ≤ fLB h
  · rw [if_pos z] at h1; cases h1; exact ⟨z.1, z.2, rfl⟩
  · rw [if_neg z] at h1; cases h1
/-- the state behind a throw -/
theorem fCur.thrown {t : State} (hC : fCur D cA s h0 h H locs) (h1 : fthr h = some h2) (z1 : t.heap.size = H.size + 1) (w1 : fW t.heap ≤ fW H + 6) (o1 : ∀ q : Nat, q < H.size → t.heap[q]? = H[q]?) : fFin D cA h0 h2 s t := by
  obtain ⟨g1, g2, rfl⟩ := fthr_inv h1
  obtain ⟨c1, c2, c3, c4, c5, c6, c7⟩ := hC
  obtain ⟨d1, d2, d3, d4, d5⟩ := c4
  refine ⟨fun a e he => (c1 a e he).kept (o1 a (c1 a e he).lt), by rw [z1, c2]; rfl, ?_, ⟨?_, ?_, d3, d4, d5⟩, ⟨g1, g2⟩, ⟨?_, fun x y z => (o1 x (Nat.lt_of_lt_of_le y c6.1)).trans (c6.2.1 x y z)⟩⟩
  · show fW t.heap ≤ fW s.heap + (fL h + 6 - fL h0)
    omega
  · exact Nat.le_trans d1 (Nat.le_succ _)
  · exact Nat.le_trans d2 (Nat.le_add_right _ _)
  · have := c6.1; omega
/-- caught by the row x of the table -/
theorem fr_catch {own name : String} {k9 : Nat} {ce : Cell} {q : Addr} (hts : ∀ w ∈ WA, w.before args s = true) (K : fKw D cA h0 s) (hown : s.vm.findClass own = some m.cls) (pre : List ExceptionTableEntry) (x : ExceptionTableEntry) (suf : List ExceptionTableEntry) (hsplit : c.exceptionTable.toList = pre ++ x :: suf)
    (hpass : ∀ z ∈ pre, z.catchType ≠ 0 ∧ ∃ nm : String, Cond.classLink own z.catchType nm ∈ WA ∧ (fEx k9, nm) ∈ fNc) (hx : covers x pc = true) (hne : x.catchType ≠ 0)
    (hlink : Cond.classLink own x.catchType name ∈ WA) (hcast : Cond.castable (fEx k9) name ∈ fNw) (hcell : H[q]? = some ce) (hv : ce.vm = .none) (hcl : s.vm.findClass (fEx k9) = some ce.cls)
    (kk : W p l e R s m args below meth c H locs cells slots Q (F0 m x.handlerPc ls [va_rf (some q)])) : vx_W p l e R s m args below meth c H locs cells slots Q (F0 m pc ls rest) q :=
  vx_catch hown pre x suf hsplit (fun z hz => Or.inr ⟨(hpass z hz).1, (hpass z hz).2.imp fun nm hn => ⟨hts _ hn.1, K.2.2.2.2.1 _ hn.2⟩⟩) hx hne (hts _ hlink) (va_Nw.use rfl (K.2.2.2.2.2 _ hcast)) hcell hv hcl kk
theorem fr_objInit (hexec : p.tables.exec = Jvm.exec) (hb : c.code = cc) {nL : Nat} (hml : c.maxLocals = nL) (hts : ∀ w ∈ WA, w.before args s = true) {own : String} {idx : Nat} (hown : s.vm.findClass own = some m.cls) (hlink : Cond.methodLink own idx objectInit ∈ WA) (hinst : Cond.instanceMethod objectInit ∈ WA) (hcode : Cond.code objectInit ⟨#[0xb1]⟩ 1 none ∈ WA) (hsize : ls.size = nL) {a : Nat} {r : Option Nat} (hra : r = some a) (hdg : decode cc pc = .ok (.invokespecial idx, 3)) (hfr : 1 ≤ R.frames) (hlo : (rest.map fun v => v.category).sum + 12 ≤ R.locals)
    (kk : W p l e R s m args below meth c H locs cells slots Q (F0 m (pc + 3) ls rest)) : W p l e R s m args below meth c H locs cells slots Q (F0 m pc ls (va_rf r :: rest)) := by
  subst hra
  exact W.objInit hexec hb hown (hts _ hlink) (hts _ hinst) (hts _ hcode) (g := F0 m pc ls (va_rf (some a) :: rest)) rfl (hsize.trans hml.symm) rfl hdg hfr (by show 2 * 0 + _ + 12 ≤ _; omega) kk
theorem fr_ldc2 (hexec : p.tables.exec = Jvm.exec) (hb : c.code = cc) (hts : ∀ w ∈ WA, w.before args s = true) {own : String} {index : Nat} {v : Int64} (hown : s.vm.findClass own = some m.cls) (hconst : Cond.constantLong own index v ∈ WA) (hdg : decode cc pc = .ok (.ldc2_w index, 3)) (kk : W p l e R s m args below meth c H locs cells slots Q (F0 m (pc + 3) ls (.long v :: rest))) : W p l e R s m args below meth c H locs cells slots Q (F0 m pc ls rest) := lv_ldc2 hexec hb hown (hts _ hconst) hdg kk
theorem fr_mcount (hC : fCur D cA s h0 h H locs) (hR : R.cells = fCB h0 - fZ h0 ∧ R.slots = fLB h0 - fL h0) : fZ h - fZ h0 ≤ R.cells ∧ fL h - fL h0 ≤ R.slots := by
  obtain ⟨c1, c2, c3, ⟨d1, d2, d3, d4, -⟩, ⟨o1, o2⟩, c6, c7⟩ := hC
  rw [hR.1, hR.2]
  omega
theorem fr_mmin (hexec : p.tables.exec = Jvm.exec) (hb : c.code = cc) {nL : Nat} (hml : c.maxLocals = nL) (hts : ∀ w ∈ WA, w.before args s = true) {own : String} {index : Nat} (hown : s.vm.findClass own = some m.cls) (hC : fCur D cA s h0 h H locs) (hR : R.cells = fCB h0 - fZ h0 ∧ R.slots = fLB h0 - fL h0) (hlink : Cond.methodLink own index Lib.Math.min.name ∈ WA) (hstat : Cond.static Lib.Math.min.name ∈ WA) (hini : Cond.initialized "java/lang/Math" ∈ WA) (hcode : Cond.code Lib.Math.min.name Lib.Math.min.code 2 (some .int) ∈ WA) (hsize : ls.size = nL) (hfr : 1 ≤ R.frames) (hlo : (rest.map fun v => v.category).sum + 13 ≤ R.locals) {x y : Int32} (hdg : decode cc pc = .ok (.invokestatic index, 3))
    (kk : ∀ k n : Nat, W p l e R s m args below meth c H locs k n Q (F0 m (pc + 3) ls (.int (if y < x then y else x) :: rest))) : W p l e R s m args below meth c H locs cells slots Q (F0 m pc ls (.int y :: .int x :: rest)) :=
  fr_tight hC (va_mmin hexec hb (hml.trans hsize.symm) hown (hts _ hlink) (hts _ hstat) (hts _ hini) (hts _ hcode) hfr hlo (fr_mcount hC hR).1 (fr_mcount hC hR).2 hdg (kk _ _))
theorem fr_mmax (hexec : p.tables.exec = Jvm.exec) (hb : c.code = cc) {nL : Nat} (hml : c.maxLocals = nL) (hts : ∀ w ∈ WA, w.before args s = true) {own : String} {index : Nat} (hown : s.vm.findClass own = some m.cls) (hC : fCur D cA s h0 h H locs) (hR : R.cells = fCB h0 - fZ h0 ∧ R.slots = fLB h0 - fL h0) (hlink : Cond.methodLink own index Lib.Math.max.name ∈ WA) (hstat : Cond.static Lib.Math.max.name ∈ WA) (hini : Cond.initialized "java/lang/Math" ∈ WA) (hcode : Cond.code Lib.Math.max.name Lib.Math.max.code 2 (some .int) ∈ WA) (hsize : ls.size = nL) (hfr : 1 ≤ R.frames) (hlo : (rest.map fun v => v.category).sum + 13 ≤ R.locals) {x y : Int32} (hdg : decode cc pc = .ok (.invokestatic index, 3))
    (kk : ∀ k n : Nat, W p l e R s m args below meth c H locs k n Q (F0 m (pc + 3) ls (.int (if x < y then y else x) :: rest))) : W p l e R s m args below meth c H locs cells slots Q (F0 m pc ls (.int y :: .int x :: rest)) :=
  fr_tight hC (va_mmax hexec hb (hml.trans hsize.symm) hown (hts _ hlink) (hts _ hstat) (hts _ hini) (hts _ hcode) hfr hlo (fr_mcount hC hR).1 (fr_mcount hC hR).2 hdg (kk _ _))
theorem fr_mabsl (hexec : p.tables.exec = Jvm.exec) (hb : c.code = cc) {nL : Nat} (hml : c.maxLocals = nL) (hts : ∀ w ∈ WA, w.before args s = true) {own : String} {index : Nat} (hown : s.vm.findClass own = some m.cls) (hC : fCur D cA s h0 h H locs) (hR : R.cells = fCB h0 - fZ h0 ∧ R.slots = fLB h0 - fL h0) (hlink : Cond.methodLink own index Lib.MathLoose.abs_long.x ∈ WA) (hstat : Cond.static Lib.MathLoose.abs_long.x ∈ WA) (hini : Cond.initialized "java/lang/Math" ∈ WA) (hcode : Cond.code Lib.MathLoose.abs_long.x Lib.MathLoose.abs_long.code 2 (some .long) ∈ WA) (hsize : ls.size = nL) (hfr : 1 ≤ R.frames) (hlo : (rest.map fun v => v.category).sum + 13 ≤ R.locals) {x : Int64} (hdg : decode cc pc = .ok (.invokestatic index, 3))
    (kk : ∀ k n : Nat, W p l e R s m args below meth c H locs k n Q (F0 m (pc + 3) ls (.long (if 0 < x then x else -x) :: rest))) : W p l e R s m args below meth c H locs cells slots Q (F0 m pc ls (.long x :: rest)) :=
  fr_tight hC (va_mabs_long hexec hb (hml.trans hsize.symm) hown (hts _ hlink) (hts _ hstat) (hts _ hini) (hts _ hcode) hfr hlo (fr_mcount hC hR).1 (fr_mcount hC hR).2 hdg (kk _ _))
end FH7
end
section
section FH8
variable {p : Program} {l : Launch} {e : Env} {R : Room} {s : State} {m : MethodId} {args : Array Value} {below : List Frame} {meth : Method} {c : Code} {H : Heap} {locs : List Loc} {cells slots : Nat} {Q : State → Prop}
variable {mc ms : Nat} {free : Addr → Prop} {A0 A1 : Nat → Prop} {H0 : Heap} {a : Array Value} {ls : Array Slot} {st0 rest : List Value}
variable {Qc : Array Value → State → Outcome → State → Prop} {XC : String → State → State → Prop}
theorem fvx_throwS {cc : ByteArray} {pc : Nat} (hexec : p.tables.exec = Jvm.exec) (hb : c.code = cc) (hl : l.stackTraces = false) {own cls text : String} {names : List String} {ik is ic mc ms sa : Nat} {A : Nat → Prop}
    (hown : s.vm.findClass own = some m.cls) (hcls : Bundle.fit cls = true) (hnames : ∀ n ∈ names, Bundle.fit n = true)
    (hk : (Cond.classLink own ik cls).before args s = true) (hini : (Cond.initialized cls).before args s = true) (hstr : vk_R own is text sa s) (hat : ∀ w ∈ vx_atS own ic cls names, w.before args s = true)
    (hgood : ∀ w ∈ Cond.classLink own ik cls :: Cond.initialized cls :: vx_atS own ic cls names, vx_ot w = true)
    (hU : vx_Zq Bundle.tN "UNASSIGNED_STACK" Bundle.steD A s s.heap) (hN : vx_Zq Bundle.tN "SUPPRESSED_SENTINEL" Bundle.listD A s s.heap) (hS : va_S A s.heap H locs) (hsize : ls.size = c.maxLocals)
    (d0 : decode cc pc = .ok (.new ik, 3)) (d3 : decode cc (pc + 3) = .ok (.dup, 1)) (d4 : decode cc (pc + 4) = .ok (.ldc is, 2)) (d6 : decode cc (pc + 6) = .ok (.invokespecial ic, 3)) (d9 : decode cc (pc + 9) = .ok (.athrow, 1))
    (hout : ∀ x ∈ c.exceptionTable.toList, covers x (pc + 9) = false)
    (hRframes : names.length + 3 < R.frames) (hRlocals : (rest.map fun v => v.category).sum + (13 * (names.length + 1) + 43) ≤ R.locals) (hRcells : cells + 1 ≤ R.cells) (hRslots : slots + 6 ≤ R.slots) (hlocks : meth.locks = false)
    (hx : ∀ t : State, t.heap.size = H.size + 1 → fW t.heap ≤ fW H + 6 → (∀ q : Nat, q < H.size → t.heap[q]? = H[q]?) → XC cls s t)
    (hf : ∀ z ∈ locs, free z.base) (hc : cells + 1 ≤ mc) (hs : slots + 6 ≤ ms) :
    W p l e R s m args below meth c H locs cells slots (vx_MQ below Qc XC args s mc ms free) (F0 m pc ls rest) := by
  intro T hT X
  have htr : e.platform.stackTraces = false := (show e.platform.stackTraces = l.stackTraces by rw [X.admits.platform]).trans hl
  have Y := vx_rebase X (R' := { frames := R.frames, locals := R.locals, cells := 1, slots := 6 }) (Nat.le_refl _) (Nat.le_refl _) hRcells hRslots
  obtain ⟨s', hA⟩ : ∃ z, z = (T.setVm s.vm).setFrames (.invoking m args :: below) := ⟨_, rfl⟩
  rw [← hA] at Y
  have hvm : s'.vm = s.vm := by rw [hA]; rfl
  have hhp : s'.heap = H := by rw [hA]; exact hT
  have hW0 : s.WarmedH s'.vm := by rw [hvm]; exact State.WarmedH.refl s
  have hat' : ∀ w ∈ vx_atS own ic cls names, w.before args s' = true := fun w hw => vx_ot_at hW0 hvm.symm (hgood w (List.mem_cons_of_mem _ (List.mem_cons_of_mem _ hw))) (hat w hw)
  have hk' : (Cond.classLink own ik cls).before args s' = true := vx_ot_at hW0 hvm.symm (hgood _ List.mem_cons_self) hk
  have hini' : (Cond.initialized cls).before args s' = true := vx_ot_at hW0 hvm.symm (hgood _ (List.mem_cons_of_mem _ List.mem_cons_self)) hini
  have hU' : vx_Zq Bundle.tN "UNASSIGNED_STACK" Bundle.steD A s' s'.heap := by rw [hhp]; exact vx_Zq.moved hW0.alike (hU.kept hS.2.1)
  have hN' : vx_Zq Bundle.tN "SUPPRESSED_SENTINEL" Bundle.listD A s' s'.heap := by rw [hhp]; exact vx_Zq.moved hW0.alike (hN.kept hS.2.1)
  have h : ∀ w ∈ Bundle.ownAtoms own ic cls names, w.before args s' = true := vx_own hat' (vx_isRefq hU'.1) (vx_isRefq hN'.1) hU'.2.word hN'.2.word
  have hown' : s'.vm.findClass own = some m.cls := by rw [hvm]; exact hown
  have hins : (Cond.instantiable cls 6).before args s' = true := h _ (by simp [Bundle.ownAtoms])
  obtain ⟨vm₁, cX, kX, hfX, hkX, -, -, X₁, st1⟩ := Y.newCold hexec (own := own) (C := cls) (index := ik) (n := 6) hown' hk' hins hini'
    (g := F0 m pc ls rest) rfl (by rw [hb]; exact d0) (Nat.le_refl _) (Nat.le_refl _)
  generalize hT1 : (T.setVm vm₁).pushCell { cls := cX, slots := kX.instanceTypes.map defaultValue, vm := .none } = T1 at X₁ st1
  have hcat : (Value.ref T.heap.size).category = 1 := rfl
  have hcellA : T1.heap[T.heap.size]? = some (freshCell cX kX) := by rw [← hT1]; exact State.heap_pushCell_size _ _
  have d3' : decode c.code (pc + 3) = .ok (.dup, 1) := by rw [hb]; exact d3
  have d4' : decode c.code (pc + 4) = .ok (.ldc is, 2) := by rw [hb]; exact d4
  have hstr' : vk_R own is text sa s' := vk_R.warm hW0 hstr
  obtain ⟨U, hsteps, hrun, hend, hW, hsame, ce, hce, hO⟩ := X₁.ctorThrowS hexec htr (own := own) (cls := cls) (names := names) (ic := ic) hown' hcls hnames h (fun x hx => nomatch hx) hfX hkX hcellA (by rw [hhp, hT]; exact Nat.le_refl _) (msg := .ref sa) rfl
    (g := { method := m, pc := pc + 6, locals := ls, stack := .ref sa :: .ref T.heap.size :: .ref T.heap.size :: rest, locked := none }) rfl hsize rfl rfl (rest := rest) rfl
    (by rw [hb]; exact d6) (by rw [hb]; exact d9) hout hRframes (by simp only [List.map_cons, List.sum_cons, hcat]; omega) hlocks
  obtain ⟨f1, f2⟩ := vx_frame hsame
  rw [hhp] at f1 f2
  have hWs : s.WarmedH U.vm := State.WarmedH.trans hW0 hW
  have hz9 : U.heap.size = H.size + 1 := by
    have q1 : U.heap.size ≤ s'.heap.size + (0 + 1) := hsame.2.2.1
    have q2 := (Array.getElem?_eq_some_iff.mp hce).1
    rw [hhp] at q1
    rw [hT] at q2
    omega
  have hw9 : fW U.heap ≤ fW H + 6 := by
    have q3 : ((U.heap.toList.drop s'.heap.size).map (·.slots.size)).sum ≤ 0 + 6 := hsame.2.2.2.2.1
    have q4 : U.heap[H.size]? = some ce := by rw [← hT]; exact hce
    have q5 := fW_push hz9 q4 (fun q hq => f2 q hq (fun z hz => nomatch hz))
    have q6 : U.heap.toList.drop s'.heap.size = [ce] := by
      rw [hhp]
      apply List.ext_getElem?
      intro j
      rw [List.getElem?_drop, Array.getElem?_toList]
      cases j with
      | zero => rw [Nat.add_zero, q4]; rfl
      | succ j => rw [Array.getElem?_eq_none (by omega)]; rfl
    rw [q6] at q3
    simp only [List.map_cons, List.map_nil, List.sum_cons, List.sum_nil] at q3
    omega
  have hcl : s.vm.findClass cls = some ce.cls := by
    have h9 := hO.cls
    rw [hvm] at h9
    exact h9
  have hall : s.sameButNew ({ U with vm := s.vm } : State) locs mc ms := by
    subst hA
    obtain ⟨e1, e2⟩ := hsame
    rw [State.setFrames_setFrames] at e1
    have h2 : (T.setVm s.vm).sameButNew ({ U with vm := s.vm } : State) [] (0 + 1) (0 + 6) := ⟨e1, e2⟩
    have h3 := X.same.trans h2
    rw [List.append_nil] at h3
    exact h3.mono hc hs
  refine ⟨U, ?_, .threw T.heap.size, hrun, hend, Or.inr ⟨T.heap.size, rfl, cls, ce, locs, hx U hz9 hw9 (fun q hq => f2 q hq (fun z hz => nomatch hz)), hce, hO.vm, hcl, hWs, hall, hf⟩⟩
  refine st1 _ ?_
  show Steps p.tables e below (T1.setTop { method := m, pc := pc + 3, locals := ls, stack := .ref T.heap.size :: rest, locked := none }) _
  jvm_step X₁.here [X₁.here.top, hexec, d3', Value.category]
  exact X₁.ldcString hexec (own := own) (text := text) (index := is) (a := sa) hown' hstr'.1 hstr'.2
    (g := { method := m, pc := pc + 4, locals := ls, stack := .ref T.heap.size :: .ref T.heap.size :: rest, locked := none }) rfl d4' _ hsteps
theorem fvx_throwSW {cc : ByteArray} {pc : Nat} (hexec : p.tables.exec = Jvm.exec) (hb : c.code = cc) (hl : l.stackTraces = false) {own cls text : String} {names : List String} {ik is ic mc ms sa : Nat} {A : Nat → Prop}
    (hown : s.vm.findClass own = some m.cls) (hcls : Bundle.fit cls = true) (hnames : ∀ n ∈ names, Bundle.fit n = true)
    (hk : (Cond.classLink own ik cls).before args s = true) (hini : (Cond.initialized cls).before args s = true) (hstr : vk_R own is text sa s) (hat : ∀ w ∈ vx_atS own ic cls names, w.before args s = true)
    (hgood : ∀ w ∈ Cond.classLink own ik cls :: Cond.initialized cls :: vx_atS own ic cls names, vx_ot w = true)
    (hU : vx_Zq Bundle.tN "UNASSIGNED_STACK" Bundle.steD A s s.heap) (hN : vx_Zq Bundle.tN "SUPPRESSED_SENTINEL" Bundle.listD A s s.heap) (hS : va_S A s.heap H locs) (hsize : ls.size = c.maxLocals)
    (d0 : decode cc pc = .ok (.new ik, 3)) (d3 : decode cc (pc + 3) = .ok (.dup, 1)) (d4 : decode cc (pc + 4) = .ok (.ldc_w is, 3)) (d7 : decode cc (pc + 7) = .ok (.invokespecial ic, 3)) (d10 : decode cc (pc + 10) = .ok (.athrow, 1))
    (hout : ∀ x ∈ c.exceptionTable.toList, covers x (pc + 10) = false)
    (hRframes : names.length + 3 < R.frames) (hRlocals : (rest.map fun v => v.category).sum + (13 * (names.length + 1) + 43) ≤ R.locals) (hRcells : cells + 1 ≤ R.cells) (hRslots : slots + 6 ≤ R.slots) (hlocks : meth.locks = false)
    (hx : ∀ t : State, t.heap.size = H.size + 1 → fW t.heap ≤ fW H + 6 → (∀ q : Nat, q < H.size → t.heap[q]? = H[q]?) → XC cls s t)
    (hf : ∀ z ∈ locs, free z.base) (hc : cells + 1 ≤ mc) (hs : slots + 6 ≤ ms) :
    W p l e R s m args below meth c H locs cells slots (vx_MQ below Qc XC args s mc ms free) (F0 m pc ls rest) := by
  intro T hT X
  have htr : e.platform.stackTraces = false := (show e.platform.stackTraces = l.stackTraces by rw [X.admits.platform]).trans hl
  have Y := vx_rebase X (R' := { frames := R.frames, locals := R.locals, cells := 1, slots := 6 }) (Nat.le_refl _) (Nat.le_refl _) hRcells hRslots
  obtain ⟨s', hA⟩ : ∃ z, z = (T.setVm s.vm).setFrames (.invoking m args :: below) := ⟨_, rfl⟩
  rw [← hA] at Y
  have hvm : s'.vm = s.vm := by rw [hA]; rfl
  have hhp : s'.heap = H := by rw [hA]; exact hT
  have hW0 : s.WarmedH s'.vm := by rw [hvm]; exact State.WarmedH.refl s
  have hat' : ∀ w ∈ vx_atS own ic cls names, w.before args s' = true := fun w hw => vx_ot_at hW0 hvm.symm (hgood w (List.mem_cons_of_mem _ (List.mem_cons_of_mem _ hw))) (hat w hw)
  have hk' : (Cond.classLink own ik cls).before args s' = true := vx_ot_at hW0 hvm.symm (hgood _ List.mem_cons_self) hk
  have hini' : (Cond.initialized cls).before args s' = true := vx_ot_at hW0 hvm.symm (hgood _ (List.mem_cons_of_mem _ List.mem_cons_self)) hini
  have hU' : vx_Zq Bundle.tN "UNASSIGNED_STACK" Bundle.steD A s' s'.heap := by rw [hhp]; exact vx_Zq.moved hW0.alike (hU.kept hS.2.1)
  have hN' : vx_Zq Bundle.tN "SUPPRESSED_SENTINEL" Bundle.listD A s' s'.heap := by rw [hhp]; exact vx_Zq.moved hW0.alike (hN.kept hS.2.1)
  have h : ∀ w ∈ Bundle.ownAtoms own ic cls names, w.before args s' = true := vx_own hat' (vx_isRefq hU'.1) (vx_isRefq hN'.1) hU'.2.word hN'.2.word
  have hown' : s'.vm.findClass own = some m.cls := by rw [hvm]; exact hown
  have hins : (Cond.instantiable cls 6).before args s' = true := h _ (by simp [Bundle.ownAtoms])
  obtain ⟨vm₁, cX, kX, hfX, hkX, -, -, X₁, st1⟩ := Y.newCold hexec (own := own) (C := cls) (index := ik) (n := 6) hown' hk' hins hini'
    (g := F0 m pc ls rest) rfl (by rw [hb]; exact d0) (Nat.le_refl _) (Nat.le_refl _)
  generalize hT1 : (T.setVm vm₁).pushCell { cls := cX, slots := kX.instanceTypes.map defaultValue, vm := .none } = T1 at X₁ st1
  have hcat : (Value.ref T.heap.size).category = 1 := rfl
  have hcellA : T1.heap[T.heap.size]? = some (freshCell cX kX) := by rw [← hT1]; exact State.heap_pushCell_size _ _
  have d3' : decode c.code (pc + 3) = .ok (.dup, 1) := by rw [hb]; exact d3
  have d4' : decode c.code (pc + 4) = .ok (.ldc_w is, 3) := by rw [hb]; exact d4
  have hstr' : vk_R own is text sa s' := vk_R.warm hW0 hstr
  obtain ⟨U, hsteps, hrun, hend, hW, hsame, ce, hce, hO⟩ := X₁.ctorThrowS hexec htr (own := own) (cls := cls) (names := names) (ic := ic) hown' hcls hnames h (fun x hx => nomatch hx) hfX hkX hcellA (by rw [hhp, hT]; exact Nat.le_refl _) (msg := .ref sa) rfl
    (g := { method := m, pc := pc + 7, locals := ls, stack := .ref sa :: .ref T.heap.size :: .ref T.heap.size :: rest, locked := none }) rfl hsize rfl rfl (rest := rest) rfl
    (by rw [hb]; exact d7) (by rw [hb]; exact d10) hout hRframes (by simp only [List.map_cons, List.sum_cons, hcat]; omega) hlocks
  obtain ⟨f1, f2⟩ := vx_frame hsame
  rw [hhp] at f1 f2
  have hWs : s.WarmedH U.vm := State.WarmedH.trans hW0 hW
  have hz9 : U.heap.size = H.size + 1 := by
    have q1 : U.heap.size ≤ s'.heap.size + (0 + 1) := hsame.2.2.1
    have q2 := (Array.getElem?_eq_some_iff.mp hce).1
    rw [hhp] at q1
    rw [hT] at q2
    omega
  have hw9 : fW U.heap ≤ fW H + 6 := by
    have q3 : ((U.heap.toList.drop s'.heap.size).map (·.slots.size)).sum ≤ 0 + 6 := hsame.2.2.2.2.1
    have q4 : U.heap[H.size]? = some ce := by rw [← hT]; exact hce
    have q5 := fW_push hz9 q4 (fun q hq => f2 q hq (fun z hz => nomatch hz))
    have q6 : U.heap.toList.drop s'.heap.size = [ce] := by
      rw [hhp]
      apply List.ext_getElem?
      intro j
      rw [List.getElem?_drop, Array.getElem?_toList]
      cases j with
      | zero => rw [Nat.add_zero, q4]; rfl
      | succ j => rw [Array.getElem?_eq_none (by omega)]; rfl
    rw [q6] at q3
    simp only [List.map_cons, List.map_nil, List.sum_cons, List.sum_nil] at q3
    omega
  have hcl : s.vm.findClass cls = some ce.cls := by
    have h9 := hO.cls
    rw [hvm] at h9
    exact h9
  have hall : s.sameButNew ({ U with vm := s.vm } : State) locs mc ms := by
    subst hA
    obtain ⟨e1, e2⟩ := hsame
    rw [State.setFrames_setFrames] at e1
    have h2 : (T.setVm s.vm).sameButNew ({ U with vm := s.vm } : State) [] (0 + 1) (0 + 6) := ⟨e1, e2⟩
    have h3 := X.same.trans h2
    rw [List.append_nil] at h3
    exact h3.mono hc hs
  refine ⟨U, ?_, .threw T.heap.size, hrun, hend, Or.inr ⟨T.heap.size, rfl, cls, ce, locs, hx U hz9 hw9 (fun q hq => f2 q hq (fun z hz => nomatch hz)), hce, hO.vm, hcl, hWs, hall, hf⟩⟩
  refine st1 _ ?_
  show Steps p.tables e below (T1.setTop { method := m, pc := pc + 3, locals := ls, stack := .ref T.heap.size :: rest, locked := none }) _
  jvm_step X₁.here [X₁.here.top, hexec, d3', Value.category]
  exact X₁.ldcStringW hexec (own := own) (text := text) (index := is) (a := sa) hown' hstr'.1 hstr'.2
    (g := { method := m, pc := pc + 4, locals := ls, stack := .ref T.heap.size :: .ref T.heap.size :: rest, locked := none }) rfl d4' _ hsteps
end FH8
section FH9
variable {p : Program} {l : Launch} {e : Env} {R : Room} {s : State} {m : MethodId} {args : Array Value} {below : List Frame} {meth : Method} {c : Code} {H : Heap} {locs : List Loc} {cells slots : Nat} {Q : State → Prop}
variable {D : va_G} {cA : Nat → ClassId} {h0 h h2 : fSt} {cc : ByteArray} {pc : Nat} {ls : Array Slot} {rest st0 : List Value}
/-- the words of a throw -/
def TH (own : String) (ik ic k9 : Nat) : Prop := (∀ w ∈ (vx_atS own ic (fEx k9) ["java/lang/RuntimeException", "java/lang/Exception"]).filter goodWord, w ∈ WA) ∧ (∀ w ∈ (vx_atS own ic (fEx k9) ["java/lang/RuntimeException", "java/lang/Exception"]).filter (fun w => !goodWord w), w ∈ fNw) ∧ (∀ w ∈ Cond.classLink own ik (fEx k9) :: Cond.initialized (fEx k9) :: vx_atS own ic (fEx k9) ["java/lang/RuntimeException", "java/lang/Exception"], vx_ot w = true) ∧ Cond.classLink own ik (fEx k9) ∈ WA ∧ Cond.initialized (fEx k9) ∈ WA
theorem fNw_before {w : Cond} (hw : fNgood w = true) (hZ : va_Nw w s) : w.before args s = true := by
  unfold fNgood at hw
  split at hw
  · exact va_Nw.use rfl hZ
  · exact va_Nw.use rfl hZ
  · exact va_Nw.use rfl hZ
  · exact va_AO.use hZ
  · cases hw
theorem TH.at {own : String} {ik ic k9 : Nat} (t : TH own ik ic k9) (hts : ∀ w ∈ WA, w.before args s = true) (K : fKw D cA h0 s) : ∀ w ∈ vx_atS own ic (fEx k9) ["java/lang/RuntimeException", "java/lang/Exception"], w.before args s = true := by
  intro w hw
  by_cases g : goodWord w = true
  · exact hts w (t.1 w (List.mem_filter.mpr ⟨hw, g⟩))
  · have hn := t.2.1 w (List.mem_filter.mpr ⟨hw, by simpa using g⟩)
    exact fNw_before (List.mem_filter.mp hn).2 (K.2.2.2.2.2 w hn)
theorem fEx_fit (k9 : Nat) : Bundle.fit (fEx k9) = true := by
  match k9 with
  | 0 => decide +kernel
  | 1 => decide +kernel
  | k + 2 => exact (by decide +kernel : Bundle.fit "java/lang/IllegalStateException" = true)
theorem fr_throwS (hexec : p.tables.exec = Jvm.exec) (hb : c.code = cc) {nL : Nat} (hml : c.maxLocals = nL) (hts : ∀ w ∈ WA, w.before args s = true) (hl : l.stackTraces = false) {own text : String} {ik is ic k9 : Nat} (hown : s.vm.findClass own = some m.cls) (K : fKw D cA h0 s) (hC : fCur D cA s h0 h H locs) (hR : R.cells = fCB h0 - fZ h0 ∧ R.slots = fLB h0 - fL h0) (t : TH own ik ic k9) (hstr : (own, is, text) ∈ fStr) (hsize : ls.size = nL)
    (d0 : decode cc pc = .ok (.new ik, 3)) (d3 : decode cc (pc + 3) = .ok (.dup, 1)) (d4 : decode cc (pc + 4) = .ok (.ldc is, 2)) (d6 : decode cc (pc + 6) = .ok (.invokespecial ic, 3)) (d9 : decode cc (pc + 9) = .ok (.athrow, 1))
    (hout : ∀ x ∈ c.exceptionTable.toList, False) (hRf : 5 < R.frames) (hRl : (rest.map fun v => v.category).sum + 82 ≤ R.locals) (hlocks : meth.locks = false) (hg : fthr h = some h2) :
    W p l e R s m args below meth c H locs cells slots (vx_MQ below (fQX D cA h0 h2 (.inr k9)) (fXC D cA h0 h2 (.inr k9)) args s (fCB h0 - fZ h0) (fLB h0 - fL h0) (fA h0)) (F0 m pc ls rest) := by
  obtain ⟨g1, g2, -⟩ := fthr_inv hg
  obtain ⟨sa, hsa⟩ := K.2.2.2.1 _ hstr
  refine fr_tight hC ?_
  obtain ⟨c1, c2, c3, c4, c5, c6, c7⟩ := id hC
  obtain ⟨d1, d2, d3', d4', -⟩ := c4
  exact fvx_throwS (cls := fEx k9) (names := ["java/lang/RuntimeException", "java/lang/Exception"]) hexec hb hl hown (fEx_fit k9) (by decide +kernel) (hts _ t.2.2.2.1) (hts _ t.2.2.2.2) hsa (t.at hts K) t.2.2.1 K.2.1 K.2.2.1 c6 (hsize.trans hml.symm) d0 d3 d4 d6 d9 (fun x hx => (hout x hx).elim) hRf (by show _ + (13 * 3 + 43) ≤ _; omega) (by rw [hR.1]; omega) (by rw [hR.2]; omega) hlocks (fun t9 z1 w1 o1 => ⟨k9, rfl, rfl, hC.thrown hg z1 w1 o1⟩) c6.2.2 (by omega) (by omega)
theorem fr_throwSW (hexec : p.tables.exec = Jvm.exec) (hb : c.code = cc) {nL : Nat} (hml : c.maxLocals = nL) (hts : ∀ w ∈ WA, w.before args s = true) (hl : l.stackTraces = false) {own text : String} {ik is ic k9 : Nat} (hown : s.vm.findClass own = some m.cls) (K : fKw D cA h0 s) (hC : fCur D cA s h0 h H locs) (hR : R.cells = fCB h0 - fZ h0 ∧ R.slots = fLB h0 - fL h0) (t : TH own ik ic k9) (hstr : (own, is, text) ∈ fStr) (hsize : ls.size = nL)
    (d0 : decode cc pc = .ok (.new ik, 3)) (d3 : decode cc (pc + 3) = .ok (.dup, 1)) (d4 : decode cc (pc + 4) = .ok (.ldc_w is, 3)) (d7 : decode cc (pc + 7) = .ok (.invokespecial ic, 3)) (d10 : decode cc (pc + 10) = .ok (.athrow, 1))
    (hout : ∀ x ∈ c.exceptionTable.toList, False) (hRf : 5 < R.frames) (hRl : (rest.map fun v => v.category).sum + 82 ≤ R.locals) (hlocks : meth.locks = false) (hg : fthr h = some h2) :
    W p l e R s m args below meth c H locs cells slots (vx_MQ below (fQX D cA h0 h2 (.inr k9)) (fXC D cA h0 h2 (.inr k9)) args s (fCB h0 - fZ h0) (fLB h0 - fL h0) (fA h0)) (F0 m pc ls rest) := by
  obtain ⟨g1, g2, -⟩ := fthr_inv hg
  obtain ⟨sa, hsa⟩ := K.2.2.2.1 _ hstr
  refine fr_tight hC ?_
  obtain ⟨c1, c2, c3, c4, c5, c6, c7⟩ := id hC
  obtain ⟨d1, d2, d3', d4', -⟩ := c4
  exact fvx_throwSW (cls := fEx k9) (names := ["java/lang/RuntimeException", "java/lang/Exception"]) hexec hb hl hown (fEx_fit k9) (by decide +kernel) (hts _ t.2.2.2.1) (hts _ t.2.2.2.2) hsa (t.at hts K) t.2.2.1 K.2.1 K.2.2.1 c6 (hsize.trans hml.symm) d0 d3 d4 d7 d10 (fun x hx => (hout x hx).elim) hRf (by show _ + (13 * 3 + 43) ≤ _; omega) (by rw [hR.1]; omega) (by rw [hR.2]; omega) hlocks (fun t9 z1 w1 o1 => ⟨k9, rfl, rfl, hC.thrown hg z1 w1 o1⟩) c6.2.2 (by omega) (by omega)
end FH9
end
section
section FH10
variable {p : Program} {l : Launch} {e : Env} {R : Room} {s : State} {m : MethodId} {args : Array Value} {below : List Frame} {meth : Method} {c : Code} {H : Heap} {locs : List Loc} {cells slots : Nat} {Q : State → Prop}
variable {D : va_G} {cA : Nat → ClassId} {h0 h h2 : fSt} {cc : ByteArray} {pc : Nat} {ls : Array Slot} {rest st0 : List Value}
theorem fCur.setL {H1 : Heap} {L : List Loc} {a : Nat} {e0 e1 : fCe} (c : fCur D cA s h0 h H locs) (h0a : fF h a = some e0) (he : va_at D fcl (a, fE cA e1) H1) (hz : H1.size = H.size) (oq : ∀ q : Nat, q ≠ a → H1[q]? = H[q]?) (hw : fW H1 = fW H) (hL : ∀ q ∈ L, q.base = a) : fCur D cA s h0 (fSet h a e1) H1 (locs ++ L) := by
  obtain ⟨d1, d2, d3, d4, d5, d6, d7⟩ := c.set (k := 0) h0a he hz oq hw
  refine ⟨d1, d2, d3, d4, d5, ⟨d6.1, d6.2.1, fun q hq => ?_⟩, d7⟩
  rcases List.mem_append.mp hq with z | z
  · exact d6.2.2 q (List.mem_append.mpr (Or.inl z))
  · rw [hL q z]
    exact d6.2.2 ⟨a, 0⟩ (List.mem_append.mpr (Or.inr List.mem_cons_self))
def fcpy (h : fSt) (r0 : Option Nat) (sp : Int32) (r1 : Option Nat) (dp n : Int32) (t : Nat) : Option fSt := match farr h r0 t, r1, farr h r1 t with
  | some (n0, .inl f), some a1, some (n1, .inl g) => if ¬ sp < 0 ∧ ¬ dp < 0 ∧ ¬ n < 0 ∧ sp.toNatClampNeg + n.toNatClampNeg ≤ n0 ∧ dp.toNatClampNeg + n.toNatClampNeg ≤ n1 then some (fSet h a1 (.inr (t, n1, .inl (va_cpy f g sp.toNatClampNeg dp.toNatClampNeg n.toNatClampNeg)))) else none
  | _, _, _ => none
theorem fcpy_inv {r0 r1 : Option Nat} {sp dp n : Int32} {t : Nat} (h1 : fcpy h r0 sp r1 dp n t = some h2) : ∃ (a0 a1 n0 n1 : Nat) (f g : Nat → Int32), r0 = some a0 ∧ r1 = some a1 ∧ fF h a0 = some (.inr (t, n0, .inl f)) ∧ fF h a1 = some (.inr (t, n1, .inl g)) ∧ (¬ sp < 0 ∧ ¬ dp < 0 ∧ ¬ n < 0 ∧ sp.toNatClampNeg + n.toNatClampNeg ≤ n0 ∧ dp.toNatClampNeg + n.toNatClampNeg ≤ n1) ∧ h2 = fSet h a1 (.inr (t, n1, .inl (va_cpy f g sp.toNatClampNeg dp.toNatClampNeg n.toNatClampNeg))) := by
  unfold fcpy at h1
  split at h1
  · rename_i n0 f a1 n1 g hq0 hq1
    obtain ⟨b0, e0, f0⟩ := farr_inv hq0
    obtain ⟨b1, e1, f1⟩ := farr_inv hq1
    cases e1
    by_cases z : ¬ sp < 0 ∧ ¬ dp < 0 ∧ ¬ n < 0 ∧ sp.toNatClampNeg + n.toNatClampNeg ≤ n0 ∧ dp.toNatClampNeg + n.toNatClampNeg ≤ n1
    · rw [if_pos z] at h1
      cases h1
      exact ⟨b0, a1, n0, n1, f, g, e0, rfl, f0, f1, z, rfl⟩
    · rw [if_neg z] at h1; cases h1
  · cases h1
theorem fr_copyi (hexec : p.tables.exec = Jvm.exec) (hb : c.code = cc) {nL : Nat} (hml : c.maxLocals = nL) (hts : ∀ w ∈ WA, w.before args s = true) {own : String} {index : Nat} (hown : s.vm.findClass own = some m.cls) (K : fKw D cA h0 s) (hC : fCur D cA s h0 h H locs) (hlink : Cond.methodLink own index arraycopyName ∈ WA) (hnat : Cond.native arraycopyName ∈ WA) (hstat : Cond.static arraycopyName ∈ WA) (hini : Cond.initialized "java/lang/System" ∈ WA) {t : Nat} (ht : ftl[t]? = some .int) {r0 r1 : Option Nat} {sp dp n : Int32} (hg : fcpy h r0 sp r1 dp n t = some h2) (hsize : ls.size = nL)
    (hframes : 1 ≤ R.frames) (hlocals : (rest.map fun v => v.category).sum + (nativeFrameWords "java/lang/System" "arraycopy" 5 + 11) ≤ R.locals) (hdg : decode cc pc = .ok (.invokestatic index, 3))
    (kk : ∀ (H1 : Heap) (locs1 : List Loc), fCur D cA s h0 h2 H1 locs1 → W p l e R s m args below meth c H1 locs1 cells slots Q (F0 m (pc + 3) ls rest)) : W p l e R s m args below meth c H locs cells slots Q (F0 m pc ls (.int n :: .int dp :: va_rf r1 :: .int sp :: va_rf r0 :: rest)) := by
  obtain ⟨a0, a, n0, n1, f, g, rfl, rfl, hF0, hF1, ⟨h1, h2, h3, h4, h5⟩, rfl⟩ := fcpy_inv hg
  have nn : ∀ z : Int32, ¬ z < 0 → z.toInt = (z.toNatClampNeg : Int) := by
    intro z hz
    have hz0 : (0 : Int) ≤ z.toInt := by
      have := Int32.not_lt.mp hz
      simpa using Int32.le_iff_toInt_le.mp this
    show z.toInt = ((z.toInt.toNat : Nat) : Int)
    omega
  intro T hT X
  have hc0 : H[a0]? = some (vp_cell (cA t) (n0, .inl f)) := hC.1 a0 _ hF0
  have hc1 : H[a]? = some (vp_cell (cA t) (n1, .inl g)) := hC.1 a _ hF1
  obtain ⟨-, k0, hk0, cm0, hkk0⟩ := (K.1.2 t _ (fTys_at ht)).1 n0 (fun j => .int (f j))
  obtain ⟨-, k1, hk1, cm1, hkk1⟩ := (K.1.2 t _ (fTys_at ht)).1 n1 (fun j => .int (g j))
  obtain ⟨vm', X', step⟩ := X.arraycopy hexec hown (hts _ hlink) (hts _ hnat) (hts _ hstat) (hts _ hini) (src := a0) (dst := a) (cs := vp_cell (cA t) (n0, .inl f)) (cd := vp_cell (cA t) (n1, .inl g)) (srcPos := sp) (destPos := dp) (n := n) (by rw [hT]; exact hc0) (by rw [hT]; exact hc1)
    (fun _ h => by cases h) (fun _ h => by cases h) (fun h => by cases h) (fun h => by cases h) hk0 hk1 hkk0 hkk1 (by simp [refKind]) h1 h2 h3
    (by rw [nn sp h1, nn n h3]; show ¬ _ > ((arrV (cA t) n0 (fun j => .int (f j))).slots.size : Int); rw [arrV_size]; omega)
    (by rw [nn dp h2, nn n h3]; show ¬ _ > ((arrV (cA t) n1 (fun j => .int (g j))).slots.size : Int); rw [arrV_size]; omega)
    (fun vm₁ _ i hi => by
      have e : (vp_cell (cA t) (n0, .inl f)).slots.getD (sp.toNatClampNeg + i) .null = .int (f (sp.toNatClampNeg + i)) := by
        show (arrV (cA t) n0 (fun j => .int (f j))).slots.getD _ _ = _
        rw [Array.getD_eq_getD_getElem?, arrV_read _ _ (by omega)]
        rfl
      refine ⟨?_, ?_⟩
      · rw [e]
        rfl
      · rw [e]
        exact trivial)
    (g := F0 m pc ls (.int n :: .int dp :: .ref a :: .int sp :: .ref a0 :: rest)) rfl (by rw [hml]; exact hsize) (rest := rest) rfl (by rw [hb]; exact hdg) hframes (by show 2 * 0 + _ + _ ≤ _; omega)
  have e1 : copied (vp_cell (cA t) (n0, .inl f)) (vp_cell (cA t) (n1, .inl g)) sp dp n = vp_cell (cA t) (n1, .inl (va_cpy f g sp.toNatClampNeg dp.toNatClampNeg n.toNatClampNeg)) := va_copied (fun z => .int z) (cA t) (cA t) f g h4
  rw [e1] at X' step
  have hl : a < H.size := (Array.getElem?_eq_some_iff.mp hc1).1
  have hheap : ((T.setVm vm').setCell a (vp_cell (cA t) (n1, .inl (va_cpy f g sp.toNatClampNeg dp.toNatClampNeg n.toNatClampNeg)))).heap = H.setIfInBounds a (vp_cell (cA t) (n1, .inl (va_cpy f g sp.toNatClampNeg dp.toNatClampNeg n.toNatClampNeg))) := by rw [← hT]; rfl
  have oq : ∀ q : Nat, q ≠ a → (H.setIfInBounds a (vp_cell (cA t) (n1, .inl (va_cpy f g sp.toNatClampNeg dp.toNatClampNeg n.toNatClampNeg))))[q]? = H[q]? := fun q hq => by simp [Array.getElem?_setIfInBounds, Ne.symm hq]
  have hat : (H.setIfInBounds a (vp_cell (cA t) (n1, .inl (va_cpy f g sp.toNatClampNeg dp.toNatClampNeg n.toNatClampNeg))))[a]? = some (vp_cell (cA t) (n1, .inl (va_cpy f g sp.toNatClampNeg dp.toNatClampNeg n.toNatClampNeg))) := by simp [Array.getElem?_setIfInBounds, hl]
  have hw : fW (H.setIfInBounds a (vp_cell (cA t) (n1, .inl (va_cpy f g sp.toNatClampNeg dp.toNatClampNeg n.toNatClampNeg)))) = fW H := by
    apply fW_eq
    intro q
    by_cases hq : q = a
    · subst hq
      rw [hat, hc1]
      show some (arrV _ _ _).slots.size = some (arrV _ _ _).slots.size
      rw [arrV_size, arrV_size]
    · rw [oq q hq]
  obtain ⟨t9, a1, b1⟩ := kk _ _ (hC.setL hF1 (e1 := .inr (t, n1, .inl (va_cpy f g sp.toNatClampNeg dp.toNatClampNeg n.toNatClampNeg))) hat (by simp) oq hw (fun q hq => by
      obtain ⟨z, -, hz⟩ := List.mem_map.mp hq
      rw [← hz])) _ hheap X'
  exact ⟨t9, step t9 a1, b1⟩
theorem lva0 {i : Nat} : lv_args i [] = [] := rfl
theorem lva1 {i : Nat} {v : Value} {vs : List Value} {l : List (Nat × Value)} (h : v.category = 1) (t : lv_args (i + 1) vs = l) : lv_args i (v :: vs) = (i, v) :: l := by
  show (i, v) :: lv_args (if v.category = 2 then i + 2 else i + 1) vs = _
  rw [if_neg (by rw [h]; decide), t]
theorem lva2 {i : Nat} {v : Value} {vs : List Value} {l : List (Nat × Value)} (h : v.category = 2) (t : lv_args (i + 2) vs = l) : lv_args i (v :: vs) = (i, v) :: l := by
  show (i, v) :: lv_args (if v.category = 2 then i + 2 else i + 1) vs = _
  rw [if_pos h, t]
theorem lgl0 : (lg_sl []).length = 0 := rfl
theorem lgl1 {v : Value} {vs : List Value} {n : Nat} (h : v.category = 1) (t : (lg_sl vs).length = n) : (lg_sl (v :: vs)).length = n + 1 := by
  unfold lg_sl at t ⊢
  rw [List.flatMap_cons, if_neg (by rw [h]; decide), List.length_append, t]
  simp; omega
theorem lgl2 {v : Value} {vs : List Value} {n : Nat} (h : v.category = 2) (t : (lg_sl vs).length = n) : (lg_sl (v :: vs)).length = n + 2 := by
  unfold lg_sl at t ⊢
  rw [List.flatMap_cons, if_pos h, List.length_append, t]
  simp; omega
/-- what stands of the machine and of a method in each of its rows -/
def fM (p : Program) (s : State) (m : MethodId) (args : Array Value) (meth : Method) (c : Code) (D : va_G) (cA : Nat → ClassId) (h0 : fSt) (R : Room) (cc : ByteArray) (nL : Nat) (ret : Option FieldType) (own : String) : Prop :=
  p.tables.exec = Jvm.exec ∧ c.code = cc ∧ c.maxLocals = nL ∧ meth.sig.returnType = ret ∧ meth.locks = false ∧ (∀ w ∈ WA, w.before args s = true) ∧ s.vm.findClass own = some m.cls ∧ fKw D cA h0 s ∧ (R.cells = fCB h0 - fZ h0 ∧ R.slots = fLB h0 - fL h0)
/-- a contract out of the walk of the body -/
theorem fMet.of {y : MethodName} {cd : ByteArray} {maxL fr lo : Nat} {ret : Option FieldType} {as : List Value} {v : Option Value} {own : String} (hy : plainName y.cls = true) (ho : y.cls = own) {lv0 : List (Nat × Value)} {k0 : Nat} (ha0 : lv_args 0 as = lv0) (hk0 : (lg_sl as).length = k0) (hlen : k0 ≤ maxL)
    (body : ∀ (p : Program) (e : Env) (s : State) (m : MethodId) (args : Array Value) (below : List Frame) (meth : Method) (c : Code) (ls : Array Slot), meth.name = y.name → (∀ x ∈ c.exceptionTable.toList, True) → fM p s m args meth c D cA h { frames := fr, cells := fCB h - fZ h, slots := fLB h - fL h, locals := lo } cd maxL ret own → fCur D cA s h h s.heap [] → lv_has ls maxL lv0 →
      W p l e { frames := fr, cells := fCB h - fZ h, slots := fLB h - fL h, locals := lo } s m args below meth c s.heap [] 0 0 (MQ below (fQ D cA h h2 v) args s (fCB h - fZ h) (fLB h - fL h) (fA h)) (F0 m 0 ls [])) : fMet l y (wsC y cd maxL ret) fr lo D cA as h h2 v := by
  refine Met.ofW (cc := cd) (maxL := maxL) (ret := ret) hy rfl ?_
  intro p e s m args below meth c s₁ B hml hv
  obtain ⟨rfl, hv⟩ := hv
  have hts := atoms_spec (ws := wsC y cd maxL ret) B.pre
  have hown : s.vm.findClass y.cls = some m.cls := findClass_of_methodNamed B.named
  rw [ho] at hown
  have hl := lv_entry as (n := maxL) (by rw [hk0]; exact hlen)
  rw [ha0] at hl
  rw [lg_entry_eq]
  exact body p e s m as.toArray below meth c _ (name_of_methodNamed B.named B.method).1 (fun _ _ => trivial) ⟨B.exec, B.bytes, hml, B.returns, B.notSynchronized, fun w hw => hts w (List.mem_cons_of_mem _ hw), hown, hv.2.2.2, rfl, rfl⟩ (fCur.start hv) hl
theorem fMetX.of {y : MethodName} {cd : ByteArray} {maxL fr lo : Nat} {ret : Option FieldType} {as : List Value} {r : Option Value ⊕ Nat} {own : String} (hy : plainName y.cls = true) (ho : y.cls = own) {lv0 : List (Nat × Value)} {k0 : Nat} (ha0 : lv_args 0 as = lv0) (hk0 : (lg_sl as).length = k0) (hlen : k0 ≤ maxL)
    (body : ∀ (p : Program) (e : Env) (s : State) (m : MethodId) (args : Array Value) (below : List Frame) (meth : Method) (c : Code) (ls : Array Slot), (∀ x ∈ c.exceptionTable.toList, False) → fM p s m args meth c D cA h { frames := fr, cells := fCB h - fZ h, slots := fLB h - fL h, locals := lo } cd maxL ret own → fCur D cA s h h s.heap [] → lv_has ls maxL lv0 →
      W p l e { frames := fr, cells := fCB h - fZ h, slots := fLB h - fL h, locals := lo } s m args below meth c s.heap [] 0 0 (vx_MQ below (fQX D cA h h2 r) (fXC D cA h h2 r) args s (fCB h - fZ h) (fLB h - fL h) (fA h)) (F0 m 0 ls [])) : fMetX l y (wsC y cd maxL ret) fr lo D cA as h h2 r := by
  refine vx_ofW (cc := cd) (maxL := maxL) (ret := ret) hy rfl ?_
  intro p e s m args below meth c s₁ B hml hno hv
  obtain ⟨rfl, hv⟩ := hv
  have hts := atoms_spec (ws := wsC y cd maxL ret) B.pre
  have hown : s.vm.findClass y.cls = some m.cls := findClass_of_methodNamed B.named
  rw [ho] at hown
  have hl := lv_entry as (n := maxL) (by rw [hk0]; exact hlen)
  rw [ha0] at hl
  rw [lg_entry_eq]
  exact body p e s m as.toArray below meth c _ hno ⟨B.exec, B.bytes, hml, B.returns, B.notSynchronized, fun w hw => hts w (List.mem_cons_of_mem _ hw), hown, hv.2.2.2, rfl, rfl⟩ (fCur.start hv) hl
theorem fMetX.ofH {y : MethodName} {cd : ByteArray} {maxL fr lo : Nat} {ret : Option FieldType} {hh : List (Nat × Nat × Nat × Nat)} {as : List Value} {r : Option Value ⊕ Nat} {own : String} (hy : plainName y.cls = true) (ho : y.cls = own) {lv0 : List (Nat × Value)} {k0 : Nat} (ha0 : lv_args 0 as = lv0) (hk0 : (lg_sl as).length = k0) (hlen : k0 ≤ maxL)
    (body : ∀ (p : Program) (e : Env) (s : State) (m : MethodId) (args : Array Value) (below : List Frame) (meth : Method) (c : Code) (ls : Array Slot), c.exceptionTable.toList = tableOf hh → fM p s m args meth c D cA h { frames := fr, cells := fCB h - fZ h, slots := fLB h - fL h, locals := lo } cd maxL ret own → fCur D cA s h h s.heap [] → lv_has ls maxL lv0 →
      W p l e { frames := fr, cells := fCB h - fZ h, slots := fLB h - fL h, locals := lo } s m args below meth c s.heap [] 0 0 (vx_MQ below (fQX D cA h h2 r) (fXC D cA h h2 r) args s (fCB h - fZ h) (fLB h - fL h) (fA h)) (F0 m 0 ls [])) : fMetX l y (wsCH y cd maxL ret hh) fr lo D cA as h h2 r := by
  refine vx_ofWH (cc := cd) (maxL := maxL) (ret := ret) (hh := hh) hy rfl ?_
  intro p e s m args below meth c s₁ B hml hv
  obtain ⟨rfl, hv⟩ := hv
  have hts := atoms_spec (ws := wsCH y cd maxL ret hh) B.pre
  have hown : s.vm.findClass y.cls = some m.cls := findClass_of_methodNamed B.named
  rw [ho] at hown
  have hl := lv_entry as (n := maxL) (by rw [hk0]; exact hlen)
  rw [ha0] at hl
  rw [lg_entry_eq]
  exact body p e s m as.toArray below meth c _ (vx_table (x := y) B (hts _ List.mem_cons_self)) ⟨B.exec, B.bytes, hml, B.returns, B.notSynchronized, fun w hw => hts w (List.mem_cons_of_mem _ hw), hown, hv.2.2.2, rfl, rfl⟩ (fCur.start hv) hl
end FH10
end
section
section FH11
variable {p : Program} {l : Launch} {e : Env} {R : Room} {s : State} {m : MethodId} {args : Array Value} {below : List Frame} {meth : Method} {c : Code} {H : Heap} {locs : List Loc} {cells slots : Nat} {Q : State → Prop}
variable {cc : ByteArray} {pc : Nat} {ls : Array Slot} {rest : List Value}
theorem va_rf_cat (r : Option Nat) : (va_rf r).category = 1 := by cases r <;> rfl
theorem fr_aload_n (hexec : p.tables.exec = Jvm.exec) (hb : c.code = cc) {k : Fin 4} {i : Nat} {r : Option Nat} (hdg : decode cc pc = .ok (.aload_n k, 1)) (hi : (k : Nat) = i) (hl : ls[i]? = some (.val (va_rf r)))
    (kk : W p l e R s m args below meth c H locs cells slots Q (F0 m (pc + 1) ls (va_rf r :: rest))) : W p l e R s m args below meth c H locs cells slots Q (F0 m pc ls rest) := by
  cases r with
  | none => exact lv_aload_nN hexec hb hdg hi hl kk
  | some a => exact lv_aload_n hexec hb hdg hi hl kk
theorem fr_aload (hexec : p.tables.exec = Jvm.exec) (hb : c.code = cc) {i : Nat} {r : Option Nat} (hdg : decode cc pc = .ok (.aload i, 2)) (hl : ls[i]? = some (.val (va_rf r)))
    (kk : W p l e R s m args below meth c H locs cells slots Q (F0 m (pc + 2) ls (va_rf r :: rest))) : W p l e R s m args below meth c H locs cells slots Q (F0 m pc ls rest) := by
  cases r with
  | none => exact lv_aloadN hexec hb hdg hl kk
  | some a => exact lv_aload hexec hb hdg hl kk
theorem fr_astore_n (hexec : p.tables.exec = Jvm.exec) (hb : c.code = cc) {k : Fin 4} {i nL : Nat} {r : Option Nat} {lv lv' : List (Nat × Value)} (hdg : decode cc pc = .ok (.astore_n k, 1)) (hi : (k : Nat) = i) (h : lv_has ls nL lv) (hn : i < nL) (hl : (i, va_rf r) :: lv.filter (fun q => !(q.1 == i) && !(q.1 + 1 == i && q.2.category == 2)) = lv')
    (kk : ∀ ls' : Array Slot, lv_has ls' nL lv' → W p l e R s m args below meth c H locs cells slots Q (F0 m (pc + 1) ls' rest)) : W p l e R s m args below meth c H locs cells slots Q (F0 m pc ls (va_rf r :: rest)) := by
  cases r with
  | none => exact lv_astore_nN hexec hb hdg hi h hn hl kk
  | some a => exact lv_astore_n hexec hb hdg hi h hn hl kk
theorem fr_astore (hexec : p.tables.exec = Jvm.exec) (hb : c.code = cc) {i nL : Nat} {r : Option Nat} {lv lv' : List (Nat × Value)} (hdg : decode cc pc = .ok (.astore i, 2)) (h : lv_has ls nL lv) (hn : i < nL) (hl : (i, va_rf r) :: lv.filter (fun q => !(q.1 == i) && !(q.1 + 1 == i && q.2.category == 2)) = lv')
    (kk : ∀ ls' : Array Slot, lv_has ls' nL lv' → W p l e R s m args below meth c H locs cells slots Q (F0 m (pc + 2) ls' rest)) : W p l e R s m args below meth c H locs cells slots Q (F0 m pc ls (va_rf r :: rest)) := by
  cases r with
  | none => exact lv_astoreN hexec hb hdg h hn hl kk
  | some a => exact lv_astore hexec hb hdg h hn hl kk
theorem fr_null (hexec : p.tables.exec = Jvm.exec) (hb : c.code = cc) (hdg : decode cc pc = .ok (.aconst_null, 1)) (kk : W p l e R s m args below meth c H locs cells slots Q (F0 m (pc + 1) ls (va_rf none :: rest))) : W p l e R s m args below meth c H locs cells slots Q (F0 m pc ls rest) := lv_null hexec hb hdg kk
theorem fr_ifnull (hexec : p.tables.exec = Jvm.exec) (hb : c.code = cc) {r : Option Nat} {off : Int} {tgt : Nat} (hdg : decode cc pc = .ok (.ifnull off, 3)) (ht : (pc : Int) + off = (tgt : Int)) (kt : r = none → W p l e R s m args below meth c H locs cells slots Q (F0 m tgt ls rest)) (kf : ¬ r = none → W p l e R s m args below meth c H locs cells slots Q (F0 m (pc + 3) ls rest)) : W p l e R s m args below meth c H locs cells slots Q (F0 m pc ls (va_rf r :: rest)) := by
  cases r with
  | none => exact lv_ifnullN hexec hb hdg ht (kt rfl)
  | some a => exact lv_ifnull hexec hb hdg (kf (fun h => nomatch h))
theorem fr_ifnonnull (hexec : p.tables.exec = Jvm.exec) (hb : c.code = cc) {r : Option Nat} {off : Int} {tgt : Nat} (hdg : decode cc pc = .ok (.ifnonnull off, 3)) (ht : (pc : Int) + off = (tgt : Int)) (kt : ¬ r = none → W p l e R s m args below meth c H locs cells slots Q (F0 m tgt ls rest)) (kf : r = none → W p l e R s m args below meth c H locs cells slots Q (F0 m (pc + 3) ls rest)) : W p l e R s m args below meth c H locs cells slots Q (F0 m pc ls (va_rf r :: rest)) := by
  cases r with
  | none => exact lv_ifnonnullN hexec hb hdg (kf rfl)
  | some a => exact lv_ifnonnull hexec hb hdg ht (kt (fun h => nomatch h))
theorem fr_lcmp_lt (hexec : p.tables.exec = Jvm.exec) (hb : c.code = cc) {x y : Int64} {off : Int} {tgt : Nat} (hd0 : decode cc pc = .ok (.lcmp, 1)) (hdg : decode cc (pc + 1) = .ok (.ifCond .lt off, 3)) (ht : ((pc + 1 : Nat) : Int) + off = (tgt : Int))
    (kt : x < y → W p l e R s m args below meth c H locs cells slots Q (F0 m tgt ls rest)) (kf : ¬ x < y → W p l e R s m args below meth c H locs cells slots Q (F0 m (pc + 1 + 3) ls rest)) : W p l e R s m args below meth c H locs cells slots Q (F0 m pc ls (.long y :: .long x :: rest)) :=
  W.lcmp hexec hb hd0 (lv_if_lt hexec hb hdg ht (fun z => kt ((lg_cmp_lt x y).mp z)) (fun z => kf (fun q => z ((lg_cmp_lt x y).mpr q))))
theorem fr_lcmp_ge (hexec : p.tables.exec = Jvm.exec) (hb : c.code = cc) {x y : Int64} {off : Int} {tgt : Nat} (hd0 : decode cc pc = .ok (.lcmp, 1)) (hdg : decode cc (pc + 1) = .ok (.ifCond .ge off, 3)) (ht : ((pc + 1 : Nat) : Int) + off = (tgt : Int))
    (kt : y ≤ x → W p l e R s m args below meth c H locs cells slots Q (F0 m tgt ls rest)) (kf : ¬ y ≤ x → W p l e R s m args below meth c H locs cells slots Q (F0 m (pc + 1 + 3) ls rest)) : W p l e R s m args below meth c H locs cells slots Q (F0 m pc ls (.long y :: .long x :: rest)) :=
  W.lcmp hexec hb hd0 (lv_if_ge hexec hb hdg ht (fun z => kt ((lg_cmp_ge x y).mp z)) (fun z => kf (fun q => z ((lg_cmp_ge x y).mpr q))))
theorem fr_lcmp_gt (hexec : p.tables.exec = Jvm.exec) (hb : c.code = cc) {x y : Int64} {off : Int} {tgt : Nat} (hd0 : decode cc pc = .ok (.lcmp, 1)) (hdg : decode cc (pc + 1) = .ok (.ifCond .gt off, 3)) (ht : ((pc + 1 : Nat) : Int) + off = (tgt : Int))
    (kt : y < x → W p l e R s m args below meth c H locs cells slots Q (F0 m tgt ls rest)) (kf : ¬ y < x → W p l e R s m args below meth c H locs cells slots Q (F0 m (pc + 1 + 3) ls rest)) : W p l e R s m args below meth c H locs cells slots Q (F0 m pc ls (.long y :: .long x :: rest)) :=
  W.lcmp hexec hb hd0 (lv_if_gt hexec hb hdg ht (fun z => kt ((lg_cmp_gt x y).mp z)) (fun z => kf (fun q => z ((lg_cmp_gt x y).mpr q))))
theorem fr_lcmp_le (hexec : p.tables.exec = Jvm.exec) (hb : c.code = cc) {x y : Int64} {off : Int} {tgt : Nat} (hd0 : decode cc pc = .ok (.lcmp, 1)) (hdg : decode cc (pc + 1) = .ok (.ifCond .le off, 3)) (ht : ((pc + 1 : Nat) : Int) + off = (tgt : Int))
    (kt : x ≤ y → W p l e R s m args below meth c H locs cells slots Q (F0 m tgt ls rest)) (kf : ¬ x ≤ y → W p l e R s m args below meth c H locs cells slots Q (F0 m (pc + 1 + 3) ls rest)) : W p l e R s m args below meth c H locs cells slots Q (F0 m pc ls (.long y :: .long x :: rest)) :=
  W.lcmp hexec hb hd0 (lv_if_le hexec hb hdg ht (fun z => kt ((lg_cmp_le x y).mp z)) (fun z => kf (fun q => z ((lg_cmp_le x y).mpr q))))
theorem fr_lcmp_eq (hexec : p.tables.exec = Jvm.exec) (hb : c.code = cc) {x y : Int64} {off : Int} {tgt : Nat} (hd0 : decode cc pc = .ok (.lcmp, 1)) (hdg : decode cc (pc + 1) = .ok (.ifCond .eq off, 3)) (ht : ((pc + 1 : Nat) : Int) + off = (tgt : Int))
    (kt : x = y → W p l e R s m args below meth c H locs cells slots Q (F0 m tgt ls rest)) (kf : ¬ x = y → W p l e R s m args below meth c H locs cells slots Q (F0 m (pc + 1 + 3) ls rest)) : W p l e R s m args below meth c H locs cells slots Q (F0 m pc ls (.long y :: .long x :: rest)) :=
  W.lcmp hexec hb hd0 (lv_if_eq hexec hb hdg ht (fun z => kt ((lg_cmp_eq x y).mp z)) (fun z => kf (fun q => z ((lg_cmp_eq x y).mpr q))))
theorem fr_lcmp_ne (hexec : p.tables.exec = Jvm.exec) (hb : c.code = cc) {x y : Int64} {off : Int} {tgt : Nat} (hd0 : decode cc pc = .ok (.lcmp, 1)) (hdg : decode cc (pc + 1) = .ok (.ifCond .ne off, 3)) (ht : ((pc + 1 : Nat) : Int) + off = (tgt : Int))
    (kt : ¬ x = y → W p l e R s m args below meth c H locs cells slots Q (F0 m tgt ls rest)) (kf : x = y → W p l e R s m args below meth c H locs cells slots Q (F0 m (pc + 1 + 3) ls rest)) : W p l e R s m args below meth c H locs cells slots Q (F0 m pc ls (.long y :: .long x :: rest)) :=
  W.lcmp hexec hb hd0 (lv_if_ne hexec hb hdg ht (fun z => kt (fun q => z ((lg_cmp_eq x y).mpr q))) (fun z => kf ((lg_cmp_eq x y).mp z)))
end FH11
end
section
section FH12
theorem nZ {x : Int32} (h : x = 0 ∨ x = 1) : narrow .boolean (.int x) = .int x := by rcases h with rfl | rfl <;> rfl
theorem fZ9 {x : Int32} (h : x = 0 ∨ x = 1) : fits .boolean (.int x) = true := by rcases h with rfl | rfl <;> rfl
theorem nR (n : String) (r : Option Nat) : narrow (.object n) (va_rf r) = va_rf r := by cases r <;> rfl
theorem fR (n : String) (r : Option Nat) : fits (.object n) (va_rf r) = true := by cases r <;> rfl
theorem nAr (t : FieldType) (r : Option Nat) : narrow (.array t) (va_rf r) = va_rf r := by cases r <;> rfl
theorem fAr (t : FieldType) (r : Option Nat) : fits (.array t) (va_rf r) = true := by cases r <;> rfl
def fputZ (h : fSt) (r : Option Nat) (ci k : Nat) (x : Int32) : Option fSt := if x = 0 ∨ x = 1 then fput h r ci k (.int x) else none
theorem fputZ_inv {h h2 : fSt} {r : Option Nat} {ci k : Nat} {x : Int32} (h1 : fputZ h r ci k x = some h2) : (x = 0 ∨ x = 1) ∧ fput h r ci k (.int x) = some h2 := by
  unfold fputZ at h1
  by_cases z : x = 0 ∨ x = 1
  · rw [if_pos z] at h1; exact ⟨z, h1⟩
  · rw [if_neg z] at h1; cases h1
theorem fln {P : Nat × Value → Bool} : ([] : List (Nat × Value)).filter P = [] := rfl
theorem flk {P : Nat × Value → Bool} {q : Nat × Value} {l l2 : List (Nat × Value)} (h : P q = true) (t : l.filter P = l2) : (q :: l).filter P = q :: l2 := by rw [List.filter_cons_of_pos h, t]
theorem fld {P : Nat × Value → Bool} {q : Nat × Value} {l l2 : List (Nat × Value)} (h : P q = false) (t : l.filter P = l2) : (q :: l).filter P = l2 := by rw [List.filter_cons_of_neg (by rw [h]; exact Bool.false_ne_true), t]
theorem adj1 (i : Nat) (r : Option Nat) : (fun q : Nat × Value => !(q.1 == i + 1) && !(q.1 + 1 == i + 1 && q.2.category == 2)) (i, va_rf r) = true := by simp [va_rf_cat]
theorem adj2 (i : Nat) (r : Option Nat) : (fun q : Nat × Value => !(q.1 == i + 1) && (!(q.1 == i + 1 + 1) && !(q.1 + 1 == i + 1 && q.2.category == 2))) (i, va_rf r) = true := by simp [va_rf_cat, show ¬ i = i + 1 + 1 by omega]
theorem cat_le (v : Value) : v.category ≤ 2 := by rcases lv_cat v with h | h <;> rw [h] <;> decide
theorem cat_sum (l : List Value) : (l.map fun v => v.category).sum ≤ 2 * l.length := by
  induction l with
  | nil => exact Nat.le_refl _
  | cons v l ih =>
    have h := cat_le v
    simp only [List.map_cons, List.sum_cons, List.length_cons]
    omega
theorem cat8 (l : List Value) (h : l.length ≤ 4) : (l.map fun v => v.category).sum ≤ 8 := by
  have h1 := cat_sum l
  omega
theorem catL (l : List Value) (k : Nat) {n : Nat} (h : l.length ≤ 4) (h2 : 8 + k ≤ n) : (l.map fun v => v.category).sum + k ≤ n := by
  have h1 := cat8 l h
  omega
theorem newa_b {n : Nat} {k : Nat} (h : ¬ 67000000 < n) (hk : k ≤ 8) : n * k ≤ 536870912 := by
  have h1 : n ≤ 67000000 := Nat.le_of_not_lt h
  have h2 := Nat.mul_le_mul h1 hk
  omega
theorem all1 {α : Type} {P : α → Prop} {x : α} (h : P x) : ∀ z ∈ [x], P z := fun z hz => by rw [List.mem_singleton.mp hz]; exact h
theorem all2 {α : Type} {P : α → Prop} {x y : α} (h : P x) (k : P y) : ∀ z ∈ [x, y], P z := fun z hz => (List.mem_cons.mp hz).elim (fun e => by rw [e]; exact h) (all1 k z)
def rI (x : Int32 ⊕ Nat) : Option Value ⊕ Nat := match x with
  | .inl v => .inl (some (.int v))
  | .inr k => .inr k
def rJ (x : Int64 ⊕ Nat) : Option Value ⊕ Nat := match x with
  | .inl v => .inl (some (.long v))
  | .inr k => .inr k
def rD (x : UInt64 ⊕ Nat) : Option Value ⊕ Nat := match x with
  | .inl v => .inl (some (.double v))
  | .inr k => .inr k
def rR (x : Option Nat ⊕ Nat) : Option Value ⊕ Nat := match x with
  | .inl v => .inl (some (va_rf v))
  | .inr k => .inr k
def rV (x : Unit ⊕ Nat) : Option Value ⊕ Nat := match x with
  | .inl _ => .inl none
  | .inr k => .inr k
end FH12
end
section
theorem dv_0 : ∀ j, j < 4 → defaultValue (tyX0 j) = vp_V [.null, .null, .null, .null] j := by decide +kernel
theorem dv_1 : ∀ j, j < 2 → defaultValue (tyX1 j) = vp_V [.long 0, .long 0] j := by decide +kernel
theorem dv_2 : ∀ j, j < 4 → defaultValue (tyX2 j) = vp_V [.int 0, .int 0, .int 0, .int 0] j := by decide +kernel
theorem dv_3 : ∀ j, j < 3 → defaultValue (tyX3 j) = vp_V [.int 0, .int 0, .null] j := by decide +kernel
theorem dv_4 : ∀ j, j < 19 → defaultValue (tyX4 j) = vp_V [.int 0, .int 0, .null, .null, .null, .null, .null, .int 0, .int 0, .int 0, .int 0, .int 0, .null, .int 0, .null, .null, .null, .null, .int 0] j := by decide +kernel
theorem dv_5 : ∀ j, j < 4 → defaultValue (tyX5 j) = vp_V [.long 0, .long 0, .long 0, .int 0] j := by decide +kernel
theorem dv_6 : ∀ j, j < 9 → defaultValue (tyX6 j) = vp_V [.int 0, .int 0, .int 0, .int 0, .int 0, .int 0, .int 0, .null, .int 0] j := by decide +kernel
theorem dv_7 : ∀ j, j < 10 → defaultValue (tyX7 j) = vp_V [.null, .null, .null, .null, .null, .int 0, .int 0, .int 0, .null, .int 0] j := by decide +kernel
theorem dv_8 : ∀ j, j < 26 → defaultValue (tyX8 j) = vp_V [.int 0, .int 0, .null, .null, .null, .null, .null, .null, .null, .null, .null, .null, .null, .null, .null, .null, .int 0, .int 0, .null, .null, .null, .null, .null, .null, .null, .int 0] j := by decide +kernel
theorem kw0 : (Jvm.Cond.selects "TapestryScene" ({ cls := "TapestryScene", name := "nodeOrNull", desc := "(I)LTapestryScene$Node;" } : Jvm.MethodName) ({ cls := "TapestryScene", name := "nodeOrNull", desc := "(I)LTapestryScene$Node;" } : Jvm.MethodName)) ∈ WA := wIn 0 (by decide +kernel) (by decide +kernel)
theorem kw11 : (Jvm.Cond.selects "TapestryScene" ({ cls := "TapestryScene", name := "found", desc := "(I)LTapestryScene$Node;" } : Jvm.MethodName) ({ cls := "TapestryScene", name := "found", desc := "(I)LTapestryScene$Node;" } : Jvm.MethodName)) ∈ WA := wIn 11 (by decide +kernel) (by decide +kernel)
theorem kw12 : (Jvm.Cond.selects "TapestryScene" ({ cls := "TapestryScene", name := "layOrder", desc := "()V" } : Jvm.MethodName) ({ cls := "TapestryScene", name := "layOrder", desc := "()V" } : Jvm.MethodName)) ∈ WA := wIn 12 (by decide +kernel) (by decide +kernel)
theorem kw13 : (Jvm.Cond.selects "TapestryScene" ({ cls := "TapestryScene", name := "lay", desc := "(LTapestryScene$Node;I)V" } : Jvm.MethodName) ({ cls := "TapestryScene", name := "lay", desc := "(LTapestryScene$Node;I)V" } : Jvm.MethodName)) ∈ WA := wIn 13 (by decide +kernel) (by decide +kernel)
theorem kw14 : (Jvm.Cond.selects "TapestryScene" ({ cls := "TapestryScene", name := "layHanging", desc := "(LTapestryScene$Node;III)V" } : Jvm.MethodName) ({ cls := "TapestryScene", name := "layHanging", desc := "(LTapestryScene$Node;III)V" } : Jvm.MethodName)) ∈ WA := wIn 14 (by decide +kernel) (by decide +kernel)
theorem kw54 : (Jvm.Cond.initialized "TapestryScene") ∈ WA := wIn 54 (by decide +kernel) (by decide +kernel)
theorem kw55 : (Jvm.Cond.initialized "TapestryScene$Node") ∈ WA := wIn 55 (by decide +kernel) (by decide +kernel)
theorem kw56 : (Jvm.Cond.initialized "TapestryScene$Property") ∈ WA := wIn 56 (by decide +kernel) (by decide +kernel)
theorem kw57 : (Jvm.Cond.initialized "TapestryScene$Frame") ∈ WA := wIn 57 (by decide +kernel) (by decide +kernel)
theorem kw77 : (Jvm.Cond.instanceMethod ({ cls := "java/lang/Object", name := "<init>", desc := "()V" } : Jvm.MethodName)) ∈ WA := wIn 77 (by decide +kernel) (by decide +kernel)
theorem kw78 : (Jvm.Cond.code ({ cls := "java/lang/Object", name := "<init>", desc := "()V" } : Jvm.MethodName) object_method_1_code (1 : Nat) (Option.none : Option Jvm.ClassFile.FieldType)) ∈ WA := wIn 78 (by decide +kernel) (by decide +kernel)
theorem kw79 : (Jvm.Cond.classLink "TapestryScene" (9 : Nat) "TapestryScene$Node") ∈ WA := wIn 79 (by decide +kernel) (by decide +kernel)
theorem kw83 : (Jvm.Cond.instantiable "TapestryScene$Node" (19 : Nat)) ∈ WA := wIn 83 (by decide +kernel) (by decide +kernel)
theorem kw84 : (Jvm.Cond.methodLink "TapestryScene" (21 : Nat) ({ cls := "TapestryScene$Node", name := "<init>", desc := "(IIII)V" } : Jvm.MethodName)) ∈ WA := wIn 84 (by decide +kernel) (by decide +kernel)
theorem kw85 : (Jvm.Cond.instanceMethod ({ cls := "TapestryScene$Node", name := "<init>", desc := "(IIII)V" } : Jvm.MethodName)) ∈ WA := wIn 85 (by decide +kernel) (by decide +kernel)
theorem kw86 : (Jvm.Cond.code ({ cls := "TapestryScene$Node", name := "<init>", desc := "(IIII)V" } : Jvm.MethodName) prog_6_method_1_code (5 : Nat) (Option.none : Option Jvm.ClassFile.FieldType)) ∈ WA := wIn 86 (by decide +kernel) (by decide +kernel)
theorem kw87 : (Jvm.Cond.methodLink "TapestryScene$Node" (3 : Nat) ({ cls := "java/lang/Object", name := "<init>", desc := "()V" } : Jvm.MethodName)) ∈ WA := wIn 87 (by decide +kernel) (by decide +kernel)
theorem kw88 : (Jvm.Cond.classLink "TapestryScene$Node" (9 : Nat) "TapestryScene$Property") ∈ WA := wIn 88 (by decide +kernel) (by decide +kernel)
theorem kw89 : (Jvm.Cond.instantiable "TapestryScene$Property" (9 : Nat)) ∈ WA := wIn 89 (by decide +kernel) (by decide +kernel)
theorem kw90 : (Jvm.Cond.methodLink "TapestryScene$Node" (11 : Nat) ({ cls := "TapestryScene$Property", name := "<init>", desc := "(III)V" } : Jvm.MethodName)) ∈ WA := wIn 90 (by decide +kernel) (by decide +kernel)
theorem kw91 : (Jvm.Cond.instanceMethod ({ cls := "TapestryScene$Property", name := "<init>", desc := "(III)V" } : Jvm.MethodName)) ∈ WA := wIn 91 (by decide +kernel) (by decide +kernel)
theorem kw92 : (Jvm.Cond.code ({ cls := "TapestryScene$Property", name := "<init>", desc := "(III)V" } : Jvm.MethodName) prog_8_method_1_code (4 : Nat) (Option.none : Option Jvm.ClassFile.FieldType)) ∈ WA := wIn 92 (by decide +kernel) (by decide +kernel)
theorem kw93 : (Jvm.Cond.methodLink "TapestryScene$Property" (3 : Nat) ({ cls := "java/lang/Object", name := "<init>", desc := "()V" } : Jvm.MethodName)) ∈ WA := wIn 93 (by decide +kernel) (by decide +kernel)
theorem kw94 : (Jvm.Cond.fieldLink "TapestryScene$Property" (15 : Nat) "TapestryScene$Property" "least" "I") ∈ WA := wIn 94 (by decide +kernel) (by decide +kernel)
theorem kw95 : (Jvm.Cond.fieldLink "TapestryScene$Property" (18 : Nat) "TapestryScene$Property" "most" "I") ∈ WA := wIn 95 (by decide +kernel) (by decide +kernel)
theorem kw96 : (Jvm.Cond.fieldLink "TapestryScene$Property" (9 : Nat) "TapestryScene$Property" "own" "I") ∈ WA := wIn 96 (by decide +kernel) (by decide +kernel)
theorem kw127 : (Jvm.Cond.classLink "TapestryScene$Node" (42 : Nat) "TapestryScene$Frame") ∈ WA := wIn 127 (by decide +kernel) (by decide +kernel)
theorem kw128 : (Jvm.Cond.instantiable "TapestryScene$Frame" (4 : Nat)) ∈ WA := wIn 128 (by decide +kernel) (by decide +kernel)
theorem kw129 : (Jvm.Cond.methodLink "TapestryScene$Node" (44 : Nat) ({ cls := "TapestryScene$Frame", name := "<init>", desc := "(IIII)V" } : Jvm.MethodName)) ∈ WA := wIn 129 (by decide +kernel) (by decide +kernel)
theorem kw130 : (Jvm.Cond.instanceMethod ({ cls := "TapestryScene$Frame", name := "<init>", desc := "(IIII)V" } : Jvm.MethodName)) ∈ WA := wIn 130 (by decide +kernel) (by decide +kernel)
theorem kw131 : (Jvm.Cond.code ({ cls := "TapestryScene$Frame", name := "<init>", desc := "(IIII)V" } : Jvm.MethodName) prog_4_method_1_code (5 : Nat) (Option.none : Option Jvm.ClassFile.FieldType)) ∈ WA := wIn 131 (by decide +kernel) (by decide +kernel)
theorem kw132 : (Jvm.Cond.methodLink "TapestryScene$Frame" (1 : Nat) ({ cls := "java/lang/Object", name := "<init>", desc := "()V" } : Jvm.MethodName)) ∈ WA := wIn 132 (by decide +kernel) (by decide +kernel)
theorem kw133 : (Jvm.Cond.fieldLink "TapestryScene$Frame" (7 : Nat) "TapestryScene$Frame" "left" "I") ∈ WA := wIn 133 (by decide +kernel) (by decide +kernel)
theorem kw135 : (Jvm.Cond.fieldLink "TapestryScene$Frame" (13 : Nat) "TapestryScene$Frame" "top" "I") ∈ WA := wIn 135 (by decide +kernel) (by decide +kernel)
theorem kw137 : (Jvm.Cond.fieldLink "TapestryScene$Frame" (16 : Nat) "TapestryScene$Frame" "right" "I") ∈ WA := wIn 137 (by decide +kernel) (by decide +kernel)
theorem kw139 : (Jvm.Cond.fieldLink "TapestryScene$Frame" (19 : Nat) "TapestryScene$Frame" "bottom" "I") ∈ WA := wIn 139 (by decide +kernel) (by decide +kernel)
theorem kw150 : (Jvm.Cond.fieldLink "TapestryScene$Node" (36 : Nat) "TapestryScene$Node" "number" "I") ∈ WA := wIn 150 (by decide +kernel) (by decide +kernel)
theorem kw151 : (Jvm.Cond.fieldLink "TapestryScene" (85 : Nat) "TapestryScene$Node" "number" "I") ∈ WA := wIn 151 (by decide +kernel) (by decide +kernel)
theorem kw152 : (Jvm.Cond.fieldLink "TapestryScene$Node" (39 : Nat) "TapestryScene$Node" "kind" "I") ∈ WA := wIn 152 (by decide +kernel) (by decide +kernel)
theorem kw154 : (Jvm.Cond.fieldLink "TapestryScene$Node" (47 : Nat) "TapestryScene$Node" "frame" "LTapestryScene$Frame;") ∈ WA := wIn 154 (by decide +kernel) (by decide +kernel)
theorem kw156 : (Jvm.Cond.fieldLink "TapestryScene$Node" (14 : Nat) "TapestryScene$Node" "x" "LTapestryScene$Property;") ∈ WA := wIn 156 (by decide +kernel) (by decide +kernel)
theorem kw159 : (Jvm.Cond.fieldLink "TapestryScene$Node" (20 : Nat) "TapestryScene$Node" "y" "LTapestryScene$Property;") ∈ WA := wIn 159 (by decide +kernel) (by decide +kernel)
theorem kw162 : (Jvm.Cond.fieldLink "TapestryScene$Node" (23 : Nat) "TapestryScene$Node" "turns" "LTapestryScene$Property;") ∈ WA := wIn 162 (by decide +kernel) (by decide +kernel)
theorem kw165 : (Jvm.Cond.fieldLink "TapestryScene$Node" (26 : Nat) "TapestryScene$Node" "opacity" "LTapestryScene$Property;") ∈ WA := wIn 165 (by decide +kernel) (by decide +kernel)
theorem kw167 : (Jvm.Cond.fieldLink "TapestryScene$Node" (29 : Nat) "TapestryScene$Node" "over" "I") ∈ WA := wIn 167 (by decide +kernel) (by decide +kernel)
theorem kw170 : (Jvm.Cond.fieldLink "TapestryScene$Node" (33 : Nat) "TapestryScene$Node" "under" "I") ∈ WA := wIn 170 (by decide +kernel) (by decide +kernel)
theorem kw175 : (Jvm.Cond.fieldLink "TapestryScene" (153 : Nat) "TapestryScene$Node" "layer" "I") ∈ WA := wIn 175 (by decide +kernel) (by decide +kernel)
theorem kw181 : (Jvm.Cond.fieldLink "TapestryScene" (340 : Nat) "TapestryScene$Node" "isGone" "Z") ∈ WA := wIn 181 (by decide +kernel) (by decide +kernel)
theorem kw182 : (Jvm.Cond.fieldLink "TapestryScene$Node" (51 : Nat) "TapestryScene$Node" "parent" "LTapestryScene$Node;") ∈ WA := wIn 182 (by decide +kernel) (by decide +kernel)
theorem kw184 : (Jvm.Cond.fieldLink "TapestryScene$Node" (55 : Nat) "TapestryScene$Node" "firstHanging" "LTapestryScene$Node;") ∈ WA := wIn 184 (by decide +kernel) (by decide +kernel)
theorem kw185 : (Jvm.Cond.fieldLink "TapestryScene" (370 : Nat) "TapestryScene$Node" "firstHanging" "LTapestryScene$Node;") ∈ WA := wIn 185 (by decide +kernel) (by decide +kernel)
theorem kw186 : (Jvm.Cond.fieldLink "TapestryScene$Node" (58 : Nat) "TapestryScene$Node" "nextHanging" "LTapestryScene$Node;") ∈ WA := wIn 186 (by decide +kernel) (by decide +kernel)
theorem kw187 : (Jvm.Cond.fieldLink "TapestryScene" (373 : Nat) "TapestryScene$Node" "nextHanging" "LTapestryScene$Node;") ∈ WA := wIn 187 (by decide +kernel) (by decide +kernel)
theorem kw188 : (Jvm.Cond.fieldLink "TapestryScene" (98 : Nat) "TapestryScene$Node" "before" "LTapestryScene$Node;") ∈ WA := wIn 188 (by decide +kernel) (by decide +kernel)
theorem kw189 : (Jvm.Cond.fieldLink "TapestryScene" (287 : Nat) "TapestryScene$Node" "place" "I") ∈ WA := wIn 189 (by decide +kernel) (by decide +kernel)
theorem kw289 : (Jvm.Cond.fieldLink "TapestryScene" (11 : Nat) "TapestryScene" "nodes" "[LTapestryScene$Node;") ∈ WA := wIn 289 (by decide +kernel) (by decide +kernel)
theorem kw291 : (Jvm.Cond.fieldLink "TapestryScene" (24 : Nat) "TapestryScene" "whole" "LTapestryScene$Node;") ∈ WA := wIn 291 (by decide +kernel) (by decide +kernel)
theorem kw294 : (Jvm.Cond.fieldLink "TapestryScene" (42 : Nat) "TapestryScene" "added" "I") ∈ WA := wIn 294 (by decide +kernel) (by decide +kernel)
theorem kw297 : (Jvm.Cond.fieldLink "TapestryScene" (46 : Nat) "TapestryScene" "last" "LTapestryScene$Node;") ∈ WA := wIn 297 (by decide +kernel) (by decide +kernel)
theorem kw298 : (Jvm.Cond.fieldLink "TapestryScene" (49 : Nat) "TapestryScene" "ordered" "I") ∈ WA := wIn 298 (by decide +kernel) (by decide +kernel)
theorem kw350 : (Jvm.Cond.methodLink "TapestryScene" (330 : Nat) ({ cls := "TapestryScene", name := "nodeOrNull", desc := "(I)LTapestryScene$Node;" } : Jvm.MethodName)) ∈ WA := wIn 350 (by decide +kernel) (by decide +kernel)
theorem kw352 : (Jvm.Cond.instanceMethod ({ cls := "TapestryScene", name := "nodeOrNull", desc := "(I)LTapestryScene$Node;" } : Jvm.MethodName)) ∈ WA := wIn 352 (by decide +kernel) (by decide +kernel)
theorem kw353 : (Jvm.Cond.code ({ cls := "TapestryScene", name := "nodeOrNull", desc := "(I)LTapestryScene$Node;" } : Jvm.MethodName) prog_1_method_40_code (3 : Nat) (Option.some (Jvm.ClassFile.FieldType.object "TapestryScene$Node"))) ∈ WA := wIn 353 (by decide +kernel) (by decide +kernel)
theorem kw361 : (Jvm.Cond.methodLink "TapestryScene" (69 : Nat) ({ cls := "TapestryScene$Node", name := "depth", desc := "()I" } : Jvm.MethodName)) ∈ WA := wIn 361 (by decide +kernel) (by decide +kernel)
theorem kw362 : (Jvm.Cond.instanceMethod ({ cls := "TapestryScene$Node", name := "depth", desc := "()I" } : Jvm.MethodName)) ∈ WA := wIn 362 (by decide +kernel) (by decide +kernel)
theorem kw363 : (Jvm.Cond.selects "TapestryScene$Node" ({ cls := "TapestryScene$Node", name := "depth", desc := "()I" } : Jvm.MethodName) ({ cls := "TapestryScene$Node", name := "depth", desc := "()I" } : Jvm.MethodName)) ∈ WA := wIn 363 (by decide +kernel) (by decide +kernel)
theorem kw364 : (Jvm.Cond.code ({ cls := "TapestryScene$Node", name := "depth", desc := "()I" } : Jvm.MethodName) prog_6_method_3_code (3 : Nat) (Option.some Jvm.ClassFile.FieldType.int)) ∈ WA := wIn 364 (by decide +kernel) (by decide +kernel)
theorem kw485 : (Jvm.Cond.methodLink "TapestryScene" (56 : Nat) ({ cls := "TapestryScene", name := "isFrom", desc := "(III)Z" } : Jvm.MethodName)) ∈ WA := wIn 485 (by decide +kernel) (by decide +kernel)
theorem kw486 : (Jvm.Cond.static ({ cls := "TapestryScene", name := "isFrom", desc := "(III)Z" } : Jvm.MethodName)) ∈ WA := wIn 486 (by decide +kernel) (by decide +kernel)
theorem kw487 : (Jvm.Cond.code ({ cls := "TapestryScene", name := "isFrom", desc := "(III)Z" } : Jvm.MethodName) prog_1_method_44_code (3 : Nat) (Option.some Jvm.ClassFile.FieldType.boolean)) ∈ WA := wIn 487 (by decide +kernel) (by decide +kernel)
theorem kw575 : (Jvm.Cond.methodLink "TapestryScene" (52 : Nat) ({ cls := "TapestryScene", name := "found", desc := "(I)LTapestryScene$Node;" } : Jvm.MethodName)) ∈ WA := wIn 575 (by decide +kernel) (by decide +kernel)
theorem kw577 : (Jvm.Cond.instanceMethod ({ cls := "TapestryScene", name := "found", desc := "(I)LTapestryScene$Node;" } : Jvm.MethodName)) ∈ WA := wIn 577 (by decide +kernel) (by decide +kernel)
theorem kw578 : (Jvm.Cond.code ({ cls := "TapestryScene", name := "found", desc := "(I)LTapestryScene$Node;" } : Jvm.MethodName) prog_1_method_41_code (3 : Nat) (Option.some (Jvm.ClassFile.FieldType.object "TapestryScene$Node"))) ∈ WA := wIn 578 (by decide +kernel) (by decide +kernel)
theorem kw613 : (Jvm.Cond.methodLink "TapestryScene" (78 : Nat) ({ cls := "TapestryScene$Node", name := "takeIn", desc := "(LTapestryScene$Node;)V" } : Jvm.MethodName)) ∈ WA := wIn 613 (by decide +kernel) (by decide +kernel)
theorem kw614 : (Jvm.Cond.instanceMethod ({ cls := "TapestryScene$Node", name := "takeIn", desc := "(LTapestryScene$Node;)V" } : Jvm.MethodName)) ∈ WA := wIn 614 (by decide +kernel) (by decide +kernel)
theorem kw615 : (Jvm.Cond.selects "TapestryScene$Node" ({ cls := "TapestryScene$Node", name := "takeIn", desc := "(LTapestryScene$Node;)V" } : Jvm.MethodName) ({ cls := "TapestryScene$Node", name := "takeIn", desc := "(LTapestryScene$Node;)V" } : Jvm.MethodName)) ∈ WA := wIn 615 (by decide +kernel) (by decide +kernel)
theorem kw616 : (Jvm.Cond.code ({ cls := "TapestryScene$Node", name := "takeIn", desc := "(LTapestryScene$Node;)V" } : Jvm.MethodName) prog_6_method_5_code (4 : Nat) (Option.none : Option Jvm.ClassFile.FieldType)) ∈ WA := wIn 616 (by decide +kernel) (by decide +kernel)
theorem kw617 : (Jvm.Cond.methodLink "TapestryScene" (82 : Nat) ({ cls := "TapestryScene", name := "layOrder", desc := "()V" } : Jvm.MethodName)) ∈ WA := wIn 617 (by decide +kernel) (by decide +kernel)
theorem kw619 : (Jvm.Cond.instanceMethod ({ cls := "TapestryScene", name := "layOrder", desc := "()V" } : Jvm.MethodName)) ∈ WA := wIn 619 (by decide +kernel) (by decide +kernel)
theorem kw620 : (Jvm.Cond.code ({ cls := "TapestryScene", name := "layOrder", desc := "()V" } : Jvm.MethodName) prog_1_method_50_code (1 : Nat) (Option.none : Option Jvm.ClassFile.FieldType)) ∈ WA := wIn 620 (by decide +kernel) (by decide +kernel)
theorem kw621 : (Jvm.Cond.methodLink "TapestryScene" (362 : Nat) ({ cls := "TapestryScene", name := "lay", desc := "(LTapestryScene$Node;I)V" } : Jvm.MethodName)) ∈ WA := wIn 621 (by decide +kernel) (by decide +kernel)
theorem kw623 : (Jvm.Cond.instanceMethod ({ cls := "TapestryScene", name := "lay", desc := "(LTapestryScene$Node;I)V" } : Jvm.MethodName)) ∈ WA := wIn 623 (by decide +kernel) (by decide +kernel)
theorem kw624 : (Jvm.Cond.code ({ cls := "TapestryScene", name := "lay", desc := "(LTapestryScene$Node;I)V" } : Jvm.MethodName) prog_1_method_51_code (3 : Nat) (Option.none : Option Jvm.ClassFile.FieldType)) ∈ WA := wIn 624 (by decide +kernel) (by decide +kernel)
theorem kw625 : (Jvm.Cond.methodLink "TapestryScene" (366 : Nat) ({ cls := "TapestryScene", name := "layHanging", desc := "(LTapestryScene$Node;III)V" } : Jvm.MethodName)) ∈ WA := wIn 625 (by decide +kernel) (by decide +kernel)
theorem kw627 : (Jvm.Cond.instanceMethod ({ cls := "TapestryScene", name := "layHanging", desc := "(LTapestryScene$Node;III)V" } : Jvm.MethodName)) ∈ WA := wIn 627 (by decide +kernel) (by decide +kernel)
theorem kw628 : (Jvm.Cond.code ({ cls := "TapestryScene", name := "layHanging", desc := "(LTapestryScene$Node;III)V" } : Jvm.MethodName) prog_1_method_52_code (7 : Nat) (Option.none : Option Jvm.ClassFile.FieldType)) ∈ WA := wIn 628 (by decide +kernel) (by decide +kernel)
theorem th_RX7_290_294_0 : TH RX7 290 294 0 := ⟨by decide +kernel, by decide +kernel, by decide +kernel, by decide +kernel, by decide +kernel⟩
theorem th_RX7_60_64_1 : TH RX7 60 64 1 := ⟨by decide +kernel, by decide +kernel, by decide +kernel, by decide +kernel, by decide +kernel⟩
theorem th_RX7_73_77_2 : TH RX7 73 77 2 := ⟨by decide +kernel, by decide +kernel, by decide +kernel, by decide +kernel, by decide +kernel⟩
theorem st_RX7_343 : ("TapestryScene", 343, "no such node, or it is gone") ∈ fStr := by decide +kernel
theorem st_RX7_62 : ("TapestryScene", 62, "no such kind") ∈ fStr := by decide +kernel
theorem st_RX7_67 : ("TapestryScene", 67, "width or height is not 1 to 200") ∈ fStr := by decide +kernel
theorem st_RX7_75 : ("TapestryScene", 75, "30 nodes were added, or the parent is too deep") ∈ fStr := by decide +kernel
theorem dX4_depth_0 : decode cX4_depth 0 = .ok (.iconst 0, 1) := by decide +kernel
theorem dX4_depth_1 : decode cX4_depth 1 = .ok (.istore_n 1, 1) := by decide +kernel
theorem dX4_depth_2 : decode cX4_depth 2 = .ok (.aload_n 0, 1) := by decide +kernel
theorem dX4_depth_3 : decode cX4_depth 3 = .ok (.getfield 51, 3) := by decide +kernel
theorem dX4_depth_6 : decode cX4_depth 6 = .ok (.astore_n 2, 1) := by decide +kernel
theorem dX4_depth_7 : decode cX4_depth 7 = .ok (.aload_n 2, 1) := by decide +kernel
theorem dX4_depth_8 : decode cX4_depth 8 = .ok (.ifnull 14, 3) := by decide +kernel
theorem dX4_depth_11 : decode cX4_depth 11 = .ok (.iinc 1 1, 3) := by decide +kernel
theorem dX4_depth_14 : decode cX4_depth 14 = .ok (.aload_n 2, 1) := by decide +kernel
theorem dX4_depth_15 : decode cX4_depth 15 = .ok (.getfield 51, 3) := by decide +kernel
theorem dX4_depth_18 : decode cX4_depth 18 = .ok (.astore_n 2, 1) := by decide +kernel
theorem dX4_depth_19 : decode cX4_depth 19 = .ok (.goto (-12), 3) := by decide +kernel
theorem dX4_depth_22 : decode cX4_depth 22 = .ok (.iload_n 1, 1) := by decide +kernel
theorem dX4_depth_23 : decode cX4_depth 23 = .ok (.ireturn, 1) := by decide +kernel
theorem dX2_init_0 : decode cX2_init 0 = .ok (.aload_n 0, 1) := by decide +kernel
theorem dX2_init_1 : decode cX2_init 1 = .ok (.invokespecial 1, 3) := by decide +kernel
theorem dX2_init_4 : decode cX2_init 4 = .ok (.aload_n 0, 1) := by decide +kernel
theorem dX2_init_5 : decode cX2_init 5 = .ok (.iload_n 1, 1) := by decide +kernel
theorem dX2_init_6 : decode cX2_init 6 = .ok (.putfield 7, 3) := by decide +kernel
theorem dX2_init_9 : decode cX2_init 9 = .ok (.aload_n 0, 1) := by decide +kernel
theorem dX2_init_10 : decode cX2_init 10 = .ok (.iload_n 2, 1) := by decide +kernel
theorem dX2_init_11 : decode cX2_init 11 = .ok (.putfield 13, 3) := by decide +kernel
theorem dX2_init_14 : decode cX2_init 14 = .ok (.aload_n 0, 1) := by decide +kernel
theorem dX2_init_15 : decode cX2_init 15 = .ok (.iload_n 3, 1) := by decide +kernel
theorem dX2_init_16 : decode cX2_init 16 = .ok (.putfield 16, 3) := by decide +kernel
theorem dX2_init_19 : decode cX2_init 19 = .ok (.aload_n 0, 1) := by decide +kernel
theorem dX2_init_20 : decode cX2_init 20 = .ok (.iload 4, 2) := by decide +kernel
theorem dX2_init_22 : decode cX2_init 22 = .ok (.putfield 19, 3) := by decide +kernel
theorem dX2_init_25 : decode cX2_init 25 = .ok (.return_, 1) := by decide +kernel
theorem dX6_init_0 : decode cX6_init 0 = .ok (.aload_n 0, 1) := by decide +kernel
theorem dX6_init_1 : decode cX6_init 1 = .ok (.invokespecial 3, 3) := by decide +kernel
theorem dX6_init_4 : decode cX6_init 4 = .ok (.aload_n 0, 1) := by decide +kernel
theorem dX6_init_5 : decode cX6_init 5 = .ok (.iload_n 1, 1) := by decide +kernel
theorem dX6_init_6 : decode cX6_init 6 = .ok (.putfield 9, 3) := by decide +kernel
theorem dX6_init_9 : decode cX6_init 9 = .ok (.aload_n 0, 1) := by decide +kernel
theorem dX6_init_10 : decode cX6_init 10 = .ok (.iload_n 2, 1) := by decide +kernel
theorem dX6_init_11 : decode cX6_init 11 = .ok (.putfield 15, 3) := by decide +kernel
theorem dX6_init_14 : decode cX6_init 14 = .ok (.aload_n 0, 1) := by decide +kernel
theorem dX6_init_15 : decode cX6_init 15 = .ok (.iload_n 3, 1) := by decide +kernel
theorem dX6_init_16 : decode cX6_init 16 = .ok (.putfield 18, 3) := by decide +kernel
theorem dX6_init_19 : decode cX6_init 19 = .ok (.return_, 1) := by decide +kernel
theorem dX4_init_0 : decode cX4_init 0 = .ok (.aload_n 0, 1) := by decide +kernel
theorem dX4_init_1 : decode cX4_init 1 = .ok (.invokespecial 3, 3) := by decide +kernel
theorem dX4_init_4 : decode cX4_init 4 = .ok (.aload_n 0, 1) := by decide +kernel
theorem dX4_init_5 : decode cX4_init 5 = .ok (.new 9, 3) := by decide +kernel
theorem dX4_init_8 : decode cX4_init 8 = .ok (.dup, 1) := by decide +kernel
theorem dX4_init_9 : decode cX4_init 9 = .ok (.iconst 0, 1) := by decide +kernel
theorem dX4_init_10 : decode cX4_init 10 = .ok (.sipush (-200), 3) := by decide +kernel
theorem dX4_init_13 : decode cX4_init 13 = .ok (.sipush 200, 3) := by decide +kernel
theorem dX4_init_16 : decode cX4_init 16 = .ok (.invokespecial 11, 3) := by decide +kernel
theorem dX4_init_19 : decode cX4_init 19 = .ok (.putfield 14, 3) := by decide +kernel
theorem dX4_init_22 : decode cX4_init 22 = .ok (.aload_n 0, 1) := by decide +kernel
theorem dX4_init_23 : decode cX4_init 23 = .ok (.new 9, 3) := by decide +kernel
theorem dX4_init_26 : decode cX4_init 26 = .ok (.dup, 1) := by decide +kernel
theorem dX4_init_27 : decode cX4_init 27 = .ok (.iconst 0, 1) := by decide +kernel
theorem dX4_init_28 : decode cX4_init 28 = .ok (.sipush (-200), 3) := by decide +kernel
theorem dX4_init_31 : decode cX4_init 31 = .ok (.sipush 200, 3) := by decide +kernel
theorem dX4_init_34 : decode cX4_init 34 = .ok (.invokespecial 11, 3) := by decide +kernel
theorem dX4_init_37 : decode cX4_init 37 = .ok (.putfield 20, 3) := by decide +kernel
theorem dX4_init_40 : decode cX4_init 40 = .ok (.aload_n 0, 1) := by decide +kernel
theorem dX4_init_41 : decode cX4_init 41 = .ok (.new 9, 3) := by decide +kernel
theorem dX4_init_44 : decode cX4_init 44 = .ok (.dup, 1) := by decide +kernel
theorem dX4_init_45 : decode cX4_init 45 = .ok (.iconst 0, 1) := by decide +kernel
theorem dX4_init_46 : decode cX4_init 46 = .ok (.iconst 0, 1) := by decide +kernel
theorem dX4_init_47 : decode cX4_init 47 = .ok (.iconst 3, 1) := by decide +kernel
theorem dX4_init_48 : decode cX4_init 48 = .ok (.invokespecial 11, 3) := by decide +kernel
theorem dX4_init_51 : decode cX4_init 51 = .ok (.putfield 23, 3) := by decide +kernel
theorem dX4_init_54 : decode cX4_init 54 = .ok (.aload_n 0, 1) := by decide +kernel
theorem dX4_init_55 : decode cX4_init 55 = .ok (.new 9, 3) := by decide +kernel
theorem dX4_init_58 : decode cX4_init 58 = .ok (.dup, 1) := by decide +kernel
theorem dX4_init_59 : decode cX4_init 59 = .ok (.bipush 100, 2) := by decide +kernel
theorem dX4_init_61 : decode cX4_init 61 = .ok (.iconst 0, 1) := by decide +kernel
theorem dX4_init_62 : decode cX4_init 62 = .ok (.bipush 100, 2) := by decide +kernel
theorem dX4_init_64 : decode cX4_init 64 = .ok (.invokespecial 11, 3) := by decide +kernel
theorem dX4_init_67 : decode cX4_init 67 = .ok (.putfield 26, 3) := by decide +kernel
theorem dX4_init_70 : decode cX4_init 70 = .ok (.aload_n 0, 1) := by decide +kernel
theorem dX4_init_71 : decode cX4_init 71 = .ok (.iconst 1, 1) := by decide +kernel
theorem dX4_init_72 : decode cX4_init 72 = .ok (.putfield 29, 3) := by decide +kernel
theorem dX4_init_75 : decode cX4_init 75 = .ok (.aload_n 0, 1) := by decide +kernel
theorem dX4_init_76 : decode cX4_init 76 = .ok (.iconst 1, 1) := by decide +kernel
theorem dX4_init_77 : decode cX4_init 77 = .ok (.putfield 33, 3) := by decide +kernel
theorem dX4_init_80 : decode cX4_init 80 = .ok (.aload_n 0, 1) := by decide +kernel
theorem dX4_init_81 : decode cX4_init 81 = .ok (.iload_n 1, 1) := by decide +kernel
theorem dX4_init_82 : decode cX4_init 82 = .ok (.putfield 36, 3) := by decide +kernel
theorem dX4_init_85 : decode cX4_init 85 = .ok (.aload_n 0, 1) := by decide +kernel
theorem dX4_init_86 : decode cX4_init 86 = .ok (.iload_n 2, 1) := by decide +kernel
theorem dX4_init_87 : decode cX4_init 87 = .ok (.putfield 39, 3) := by decide +kernel
theorem dX4_init_90 : decode cX4_init 90 = .ok (.aload_n 0, 1) := by decide +kernel
theorem dX4_init_91 : decode cX4_init 91 = .ok (.new 42, 3) := by decide +kernel
theorem dX4_init_94 : decode cX4_init 94 = .ok (.dup, 1) := by decide +kernel
theorem dX4_init_95 : decode cX4_init 95 = .ok (.iconst 0, 1) := by decide +kernel
theorem dX4_init_96 : decode cX4_init 96 = .ok (.iconst 0, 1) := by decide +kernel
theorem dX4_init_97 : decode cX4_init 97 = .ok (.iload_n 3, 1) := by decide +kernel
theorem dX4_init_98 : decode cX4_init 98 = .ok (.iload 4, 2) := by decide +kernel
theorem dX4_init_100 : decode cX4_init 100 = .ok (.invokespecial 44, 3) := by decide +kernel
theorem dX4_init_103 : decode cX4_init 103 = .ok (.putfield 47, 3) := by decide +kernel
theorem dX4_init_106 : decode cX4_init 106 = .ok (.return_, 1) := by decide +kernel
theorem dX4_takeIn_0 : decode cX4_takeIn 0 = .ok (.aconst_null, 1) := by decide +kernel
theorem dX4_takeIn_1 : decode cX4_takeIn 1 = .ok (.astore_n 2, 1) := by decide +kernel
theorem dX4_takeIn_2 : decode cX4_takeIn 2 = .ok (.aload_n 0, 1) := by decide +kernel
theorem dX4_takeIn_3 : decode cX4_takeIn 3 = .ok (.getfield 55, 3) := by decide +kernel
theorem dX4_takeIn_6 : decode cX4_takeIn 6 = .ok (.astore_n 3, 1) := by decide +kernel
theorem dX4_takeIn_7 : decode cX4_takeIn 7 = .ok (.aload_n 3, 1) := by decide +kernel
theorem dX4_takeIn_8 : decode cX4_takeIn 8 = .ok (.ifnull 13, 3) := by decide +kernel
theorem dX4_takeIn_11 : decode cX4_takeIn 11 = .ok (.aload_n 3, 1) := by decide +kernel
theorem dX4_takeIn_12 : decode cX4_takeIn 12 = .ok (.astore_n 2, 1) := by decide +kernel
theorem dX4_takeIn_13 : decode cX4_takeIn 13 = .ok (.aload_n 3, 1) := by decide +kernel
theorem dX4_takeIn_14 : decode cX4_takeIn 14 = .ok (.getfield 58, 3) := by decide +kernel
theorem dX4_takeIn_17 : decode cX4_takeIn 17 = .ok (.astore_n 3, 1) := by decide +kernel
theorem dX4_takeIn_18 : decode cX4_takeIn 18 = .ok (.goto (-11), 3) := by decide +kernel
theorem dX4_takeIn_21 : decode cX4_takeIn 21 = .ok (.aload_n 2, 1) := by decide +kernel
theorem dX4_takeIn_22 : decode cX4_takeIn 22 = .ok (.ifnonnull 11, 3) := by decide +kernel
theorem dX4_takeIn_25 : decode cX4_takeIn 25 = .ok (.aload_n 0, 1) := by decide +kernel
theorem dX4_takeIn_26 : decode cX4_takeIn 26 = .ok (.aload_n 1, 1) := by decide +kernel
theorem dX4_takeIn_27 : decode cX4_takeIn 27 = .ok (.putfield 55, 3) := by decide +kernel
theorem dX4_takeIn_30 : decode cX4_takeIn 30 = .ok (.goto 8, 3) := by decide +kernel
theorem dX4_takeIn_33 : decode cX4_takeIn 33 = .ok (.aload_n 2, 1) := by decide +kernel
theorem dX4_takeIn_34 : decode cX4_takeIn 34 = .ok (.aload_n 1, 1) := by decide +kernel
theorem dX4_takeIn_35 : decode cX4_takeIn 35 = .ok (.putfield 58, 3) := by decide +kernel
theorem dX4_takeIn_38 : decode cX4_takeIn 38 = .ok (.aload_n 1, 1) := by decide +kernel
theorem dX4_takeIn_39 : decode cX4_takeIn 39 = .ok (.aconst_null, 1) := by decide +kernel
theorem dX4_takeIn_40 : decode cX4_takeIn 40 = .ok (.putfield 58, 3) := by decide +kernel
theorem dX4_takeIn_43 : decode cX4_takeIn 43 = .ok (.aload_n 1, 1) := by decide +kernel
theorem dX4_takeIn_44 : decode cX4_takeIn 44 = .ok (.aload_n 0, 1) := by decide +kernel
theorem dX4_takeIn_45 : decode cX4_takeIn 45 = .ok (.putfield 51, 3) := by decide +kernel
theorem dX4_takeIn_48 : decode cX4_takeIn 48 = .ok (.return_, 1) := by decide +kernel
theorem dX7_nodeOrNull_0 : decode cX7_nodeOrNull 0 = .ok (.iload_n 1, 1) := by decide +kernel
theorem dX7_nodeOrNull_1 : decode cX7_nodeOrNull 1 = .ok (.ifCond .lt 12, 3) := by decide +kernel
theorem dX7_nodeOrNull_4 : decode cX7_nodeOrNull 4 = .ok (.iload_n 1, 1) := by decide +kernel
theorem dX7_nodeOrNull_5 : decode cX7_nodeOrNull 5 = .ok (.aload_n 0, 1) := by decide +kernel
theorem dX7_nodeOrNull_6 : decode cX7_nodeOrNull 6 = .ok (.getfield 11, 3) := by decide +kernel
theorem dX7_nodeOrNull_9 : decode cX7_nodeOrNull 9 = .ok (.arraylength, 1) := by decide +kernel
theorem dX7_nodeOrNull_10 : decode cX7_nodeOrNull 10 = .ok (.if_icmp .lt 5, 3) := by decide +kernel
theorem dX7_nodeOrNull_13 : decode cX7_nodeOrNull 13 = .ok (.aconst_null, 1) := by decide +kernel
theorem dX7_nodeOrNull_14 : decode cX7_nodeOrNull 14 = .ok (.areturn, 1) := by decide +kernel
theorem dX7_nodeOrNull_15 : decode cX7_nodeOrNull 15 = .ok (.aload_n 0, 1) := by decide +kernel
theorem dX7_nodeOrNull_16 : decode cX7_nodeOrNull 16 = .ok (.getfield 11, 3) := by decide +kernel
theorem dX7_nodeOrNull_19 : decode cX7_nodeOrNull 19 = .ok (.iload_n 1, 1) := by decide +kernel
theorem dX7_nodeOrNull_20 : decode cX7_nodeOrNull 20 = .ok (.aaload, 1) := by decide +kernel
theorem dX7_nodeOrNull_21 : decode cX7_nodeOrNull 21 = .ok (.astore_n 2, 1) := by decide +kernel
theorem dX7_nodeOrNull_22 : decode cX7_nodeOrNull 22 = .ok (.aload_n 2, 1) := by decide +kernel
theorem dX7_nodeOrNull_23 : decode cX7_nodeOrNull 23 = .ok (.ifnull 10, 3) := by decide +kernel
theorem dX7_nodeOrNull_26 : decode cX7_nodeOrNull 26 = .ok (.aload_n 2, 1) := by decide +kernel
theorem dX7_nodeOrNull_27 : decode cX7_nodeOrNull 27 = .ok (.getfield 340, 3) := by decide +kernel
theorem dX7_nodeOrNull_30 : decode cX7_nodeOrNull 30 = .ok (.ifCond .eq 7, 3) := by decide +kernel
theorem dX7_nodeOrNull_33 : decode cX7_nodeOrNull 33 = .ok (.aconst_null, 1) := by decide +kernel
theorem dX7_nodeOrNull_34 : decode cX7_nodeOrNull 34 = .ok (.goto 4, 3) := by decide +kernel
theorem dX7_nodeOrNull_37 : decode cX7_nodeOrNull 37 = .ok (.aload_n 2, 1) := by decide +kernel
theorem dX7_nodeOrNull_38 : decode cX7_nodeOrNull 38 = .ok (.areturn, 1) := by decide +kernel
theorem dX7_found_0 : decode cX7_found 0 = .ok (.aload_n 0, 1) := by decide +kernel
theorem dX7_found_1 : decode cX7_found 1 = .ok (.iload_n 1, 1) := by decide +kernel
theorem dX7_found_2 : decode cX7_found 2 = .ok (.invokevirtual 330, 3) := by decide +kernel
theorem dX7_found_5 : decode cX7_found 5 = .ok (.astore_n 2, 1) := by decide +kernel
theorem dX7_found_6 : decode cX7_found 6 = .ok (.aload_n 2, 1) := by decide +kernel
theorem dX7_found_7 : decode cX7_found 7 = .ok (.ifnonnull 14, 3) := by decide +kernel
theorem dX7_found_10 : decode cX7_found 10 = .ok (.new 290, 3) := by decide +kernel
theorem dX7_found_13 : decode cX7_found 13 = .ok (.dup, 1) := by decide +kernel
theorem dX7_found_14 : decode cX7_found 14 = .ok (.ldc_w 343, 3) := by decide +kernel
theorem dX7_found_17 : decode cX7_found 17 = .ok (.invokespecial 294, 3) := by decide +kernel
theorem dX7_found_20 : decode cX7_found 20 = .ok (.athrow, 1) := by decide +kernel
theorem dX7_found_21 : decode cX7_found 21 = .ok (.aload_n 2, 1) := by decide +kernel
theorem dX7_found_22 : decode cX7_found 22 = .ok (.areturn, 1) := by decide +kernel
theorem dX7_isFrom_0 : decode cX7_isFrom 0 = .ok (.iload_n 0, 1) := by decide +kernel
theorem dX7_isFrom_1 : decode cX7_isFrom 1 = .ok (.iload_n 1, 1) := by decide +kernel
theorem dX7_isFrom_2 : decode cX7_isFrom 2 = .ok (.if_icmp .lt 12, 3) := by decide +kernel
theorem dX7_isFrom_5 : decode cX7_isFrom 5 = .ok (.iload_n 0, 1) := by decide +kernel
theorem dX7_isFrom_6 : decode cX7_isFrom 6 = .ok (.iload_n 2, 1) := by decide +kernel
theorem dX7_isFrom_7 : decode cX7_isFrom 7 = .ok (.if_icmp .gt 7, 3) := by decide +kernel
theorem dX7_isFrom_10 : decode cX7_isFrom 10 = .ok (.iconst 1, 1) := by decide +kernel
theorem dX7_isFrom_11 : decode cX7_isFrom 11 = .ok (.goto 4, 3) := by decide +kernel
theorem dX7_isFrom_14 : decode cX7_isFrom 14 = .ok (.iconst 0, 1) := by decide +kernel
theorem dX7_isFrom_15 : decode cX7_isFrom 15 = .ok (.ireturn, 1) := by decide +kernel
theorem dX7_layHanging_0 : decode cX7_layHanging 0 = .ok (.iload_n 2, 1) := by decide +kernel
theorem dX7_layHanging_1 : decode cX7_layHanging 1 = .ok (.istore 5, 2) := by decide +kernel
theorem dX7_layHanging_3 : decode cX7_layHanging 3 = .ok (.iload 5, 2) := by decide +kernel
theorem dX7_layHanging_5 : decode cX7_layHanging 5 = .ok (.iload_n 3, 1) := by decide +kernel
theorem dX7_layHanging_6 : decode cX7_layHanging 6 = .ok (.if_icmp .gt 48, 3) := by decide +kernel
theorem dX7_layHanging_9 : decode cX7_layHanging 9 = .ok (.aload_n 1, 1) := by decide +kernel
theorem dX7_layHanging_10 : decode cX7_layHanging 10 = .ok (.getfield 370, 3) := by decide +kernel
theorem dX7_layHanging_13 : decode cX7_layHanging 13 = .ok (.astore 6, 2) := by decide +kernel
theorem dX7_layHanging_15 : decode cX7_layHanging 15 = .ok (.aload 6, 2) := by decide +kernel
theorem dX7_layHanging_17 : decode cX7_layHanging 17 = .ok (.ifnull 31, 3) := by decide +kernel
theorem dX7_layHanging_20 : decode cX7_layHanging 20 = .ok (.aload 6, 2) := by decide +kernel
theorem dX7_layHanging_22 : decode cX7_layHanging 22 = .ok (.getfield 153, 3) := by decide +kernel
theorem dX7_layHanging_25 : decode cX7_layHanging 25 = .ok (.iload 5, 2) := by decide +kernel
theorem dX7_layHanging_27 : decode cX7_layHanging 27 = .ok (.if_icmp .ne 11, 3) := by decide +kernel
theorem dX7_layHanging_30 : decode cX7_layHanging 30 = .ok (.aload_n 0, 1) := by decide +kernel
theorem dX7_layHanging_31 : decode cX7_layHanging 31 = .ok (.aload 6, 2) := by decide +kernel
theorem dX7_layHanging_33 : decode cX7_layHanging 33 = .ok (.iload 4, 2) := by decide +kernel
theorem dX7_layHanging_35 : decode cX7_layHanging 35 = .ok (.invokevirtual 362, 3) := by decide +kernel
theorem dX7_layHanging_38 : decode cX7_layHanging 38 = .ok (.aload 6, 2) := by decide +kernel
theorem dX7_layHanging_40 : decode cX7_layHanging 40 = .ok (.getfield 373, 3) := by decide +kernel
theorem dX7_layHanging_43 : decode cX7_layHanging 43 = .ok (.astore 6, 2) := by decide +kernel
theorem dX7_layHanging_45 : decode cX7_layHanging 45 = .ok (.goto (-30), 3) := by decide +kernel
theorem dX7_layHanging_48 : decode cX7_layHanging 48 = .ok (.iinc 5 1, 3) := by decide +kernel
theorem dX7_layHanging_51 : decode cX7_layHanging 51 = .ok (.goto (-48), 3) := by decide +kernel
theorem dX7_layHanging_54 : decode cX7_layHanging 54 = .ok (.return_, 1) := by decide +kernel
theorem dX7_lay_0 : decode cX7_lay 0 = .ok (.iload_n 2, 1) := by decide +kernel
theorem dX7_lay_1 : decode cX7_lay 1 = .ok (.iconst 4, 1) := by decide +kernel
theorem dX7_lay_2 : decode cX7_lay 2 = .ok (.if_icmp .le 4, 3) := by decide +kernel
theorem dX7_lay_5 : decode cX7_lay 5 = .ok (.return_, 1) := by decide +kernel
theorem dX7_lay_6 : decode cX7_lay 6 = .ok (.aload_n 0, 1) := by decide +kernel
theorem dX7_lay_7 : decode cX7_lay 7 = .ok (.aload_n 1, 1) := by decide +kernel
theorem dX7_lay_8 : decode cX7_lay 8 = .ok (.bipush (-9), 2) := by decide +kernel
theorem dX7_lay_10 : decode cX7_lay 10 = .ok (.iconst (-1), 1) := by decide +kernel
theorem dX7_lay_11 : decode cX7_lay 11 = .ok (.iload_n 2, 1) := by decide +kernel
theorem dX7_lay_12 : decode cX7_lay 12 = .ok (.iconst 1, 1) := by decide +kernel
theorem dX7_lay_13 : decode cX7_lay 13 = .ok (.iadd, 1) := by decide +kernel
theorem dX7_lay_14 : decode cX7_lay 14 = .ok (.invokevirtual 366, 3) := by decide +kernel
theorem dX7_lay_17 : decode cX7_lay 17 = .ok (.aload_n 1, 1) := by decide +kernel
theorem dX7_lay_18 : decode cX7_lay 18 = .ok (.aload_n 0, 1) := by decide +kernel
theorem dX7_lay_19 : decode cX7_lay 19 = .ok (.getfield 46, 3) := by decide +kernel
theorem dX7_lay_22 : decode cX7_lay 22 = .ok (.putfield 98, 3) := by decide +kernel
theorem dX7_lay_25 : decode cX7_lay 25 = .ok (.aload_n 1, 1) := by decide +kernel
theorem dX7_lay_26 : decode cX7_lay 26 = .ok (.aload_n 0, 1) := by decide +kernel
theorem dX7_lay_27 : decode cX7_lay 27 = .ok (.getfield 49, 3) := by decide +kernel
theorem dX7_lay_30 : decode cX7_lay 30 = .ok (.putfield 287, 3) := by decide +kernel
theorem dX7_lay_33 : decode cX7_lay 33 = .ok (.aload_n 0, 1) := by decide +kernel
theorem dX7_lay_34 : decode cX7_lay 34 = .ok (.aload_n 1, 1) := by decide +kernel
theorem dX7_lay_35 : decode cX7_lay 35 = .ok (.putfield 46, 3) := by decide +kernel
theorem dX7_lay_38 : decode cX7_lay 38 = .ok (.aload_n 0, 1) := by decide +kernel
theorem dX7_lay_39 : decode cX7_lay 39 = .ok (.dup, 1) := by decide +kernel
theorem dX7_lay_40 : decode cX7_lay 40 = .ok (.getfield 49, 3) := by decide +kernel
theorem dX7_lay_43 : decode cX7_lay 43 = .ok (.iconst 1, 1) := by decide +kernel
theorem dX7_lay_44 : decode cX7_lay 44 = .ok (.iadd, 1) := by decide +kernel
theorem dX7_lay_45 : decode cX7_lay 45 = .ok (.putfield 49, 3) := by decide +kernel
theorem dX7_lay_48 : decode cX7_lay 48 = .ok (.aload_n 0, 1) := by decide +kernel
theorem dX7_lay_49 : decode cX7_lay 49 = .ok (.aload_n 1, 1) := by decide +kernel
theorem dX7_lay_50 : decode cX7_lay 50 = .ok (.iconst 0, 1) := by decide +kernel
theorem dX7_lay_51 : decode cX7_lay 51 = .ok (.bipush 9, 2) := by decide +kernel
theorem dX7_lay_53 : decode cX7_lay 53 = .ok (.iload_n 2, 1) := by decide +kernel
theorem dX7_lay_54 : decode cX7_lay 54 = .ok (.iconst 1, 1) := by decide +kernel
theorem dX7_lay_55 : decode cX7_lay 55 = .ok (.iadd, 1) := by decide +kernel
theorem dX7_lay_56 : decode cX7_lay 56 = .ok (.invokevirtual 366, 3) := by decide +kernel
theorem dX7_lay_59 : decode cX7_lay 59 = .ok (.return_, 1) := by decide +kernel
theorem dX7_layOrder_0 : decode cX7_layOrder 0 = .ok (.aload_n 0, 1) := by decide +kernel
theorem dX7_layOrder_1 : decode cX7_layOrder 1 = .ok (.aconst_null, 1) := by decide +kernel
theorem dX7_layOrder_2 : decode cX7_layOrder 2 = .ok (.putfield 46, 3) := by decide +kernel
theorem dX7_layOrder_5 : decode cX7_layOrder 5 = .ok (.aload_n 0, 1) := by decide +kernel
theorem dX7_layOrder_6 : decode cX7_layOrder 6 = .ok (.iconst 0, 1) := by decide +kernel
theorem dX7_layOrder_7 : decode cX7_layOrder 7 = .ok (.putfield 49, 3) := by decide +kernel
theorem dX7_layOrder_10 : decode cX7_layOrder 10 = .ok (.aload_n 0, 1) := by decide +kernel
theorem dX7_layOrder_11 : decode cX7_layOrder 11 = .ok (.aload_n 0, 1) := by decide +kernel
theorem dX7_layOrder_12 : decode cX7_layOrder 12 = .ok (.getfield 24, 3) := by decide +kernel
theorem dX7_layOrder_15 : decode cX7_layOrder 15 = .ok (.iconst 0, 1) := by decide +kernel
theorem dX7_layOrder_16 : decode cX7_layOrder 16 = .ok (.invokevirtual 362, 3) := by decide +kernel
theorem dX7_layOrder_19 : decode cX7_layOrder 19 = .ok (.return_, 1) := by decide +kernel
theorem dX7_add_0 : decode cX7_add 0 = .ok (.aload_n 0, 1) := by decide +kernel
theorem dX7_add_1 : decode cX7_add 1 = .ok (.iload_n 1, 1) := by decide +kernel
theorem dX7_add_2 : decode cX7_add 2 = .ok (.invokevirtual 52, 3) := by decide +kernel
theorem dX7_add_5 : decode cX7_add 5 = .ok (.astore 5, 2) := by decide +kernel
theorem dX7_add_7 : decode cX7_add 7 = .ok (.iload_n 2, 1) := by decide +kernel
theorem dX7_add_8 : decode cX7_add 8 = .ok (.iconst 0, 1) := by decide +kernel
theorem dX7_add_9 : decode cX7_add 9 = .ok (.iconst 2, 1) := by decide +kernel
theorem dX7_add_10 : decode cX7_add 10 = .ok (.invokestatic 56, 3) := by decide +kernel
theorem dX7_add_13 : decode cX7_add 13 = .ok (.ifCond .ne 13, 3) := by decide +kernel
theorem dX7_add_16 : decode cX7_add 16 = .ok (.new 60, 3) := by decide +kernel
theorem dX7_add_19 : decode cX7_add 19 = .ok (.dup, 1) := by decide +kernel
theorem dX7_add_20 : decode cX7_add 20 = .ok (.ldc 62, 2) := by decide +kernel
theorem dX7_add_22 : decode cX7_add 22 = .ok (.invokespecial 64, 3) := by decide +kernel
theorem dX7_add_25 : decode cX7_add 25 = .ok (.athrow, 1) := by decide +kernel
theorem dX7_add_26 : decode cX7_add 26 = .ok (.iload_n 2, 1) := by decide +kernel
theorem dX7_add_27 : decode cX7_add 27 = .ok (.ifCond .eq 36, 3) := by decide +kernel
theorem dX7_add_30 : decode cX7_add 30 = .ok (.iload_n 3, 1) := by decide +kernel
theorem dX7_add_31 : decode cX7_add 31 = .ok (.iconst 1, 1) := by decide +kernel
theorem dX7_add_32 : decode cX7_add 32 = .ok (.sipush 200, 3) := by decide +kernel
theorem dX7_add_35 : decode cX7_add 35 = .ok (.invokestatic 56, 3) := by decide +kernel
theorem dX7_add_38 : decode cX7_add 38 = .ok (.ifCond .eq 15, 3) := by decide +kernel
theorem dX7_add_41 : decode cX7_add 41 = .ok (.iload 4, 2) := by decide +kernel
theorem dX7_add_43 : decode cX7_add 43 = .ok (.iconst 1, 1) := by decide +kernel
theorem dX7_add_44 : decode cX7_add 44 = .ok (.sipush 200, 3) := by decide +kernel
theorem dX7_add_47 : decode cX7_add 47 = .ok (.invokestatic 56, 3) := by decide +kernel
theorem dX7_add_50 : decode cX7_add 50 = .ok (.ifCond .ne 13, 3) := by decide +kernel
theorem dX7_add_53 : decode cX7_add 53 = .ok (.new 60, 3) := by decide +kernel
theorem dX7_add_56 : decode cX7_add 56 = .ok (.dup, 1) := by decide +kernel
theorem dX7_add_57 : decode cX7_add 57 = .ok (.ldc 67, 2) := by decide +kernel
theorem dX7_add_59 : decode cX7_add 59 = .ok (.invokespecial 64, 3) := by decide +kernel
theorem dX7_add_62 : decode cX7_add 62 = .ok (.athrow, 1) := by decide +kernel
theorem dX7_add_63 : decode cX7_add 63 = .ok (.aload_n 0, 1) := by decide +kernel
theorem dX7_add_64 : decode cX7_add 64 = .ok (.getfield 42, 3) := by decide +kernel
theorem dX7_add_67 : decode cX7_add 67 = .ok (.ifCond .lt 24, 3) := by decide +kernel
theorem dX7_add_70 : decode cX7_add 70 = .ok (.aload_n 0, 1) := by decide +kernel
theorem dX7_add_71 : decode cX7_add 71 = .ok (.getfield 42, 3) := by decide +kernel
theorem dX7_add_74 : decode cX7_add 74 = .ok (.aload_n 0, 1) := by decide +kernel
theorem dX7_add_75 : decode cX7_add 75 = .ok (.getfield 11, 3) := by decide +kernel
theorem dX7_add_78 : decode cX7_add 78 = .ok (.arraylength, 1) := by decide +kernel
theorem dX7_add_79 : decode cX7_add 79 = .ok (.if_icmp .ge 12, 3) := by decide +kernel
theorem dX7_add_82 : decode cX7_add 82 = .ok (.aload 5, 2) := by decide +kernel
theorem dX7_add_84 : decode cX7_add 84 = .ok (.invokevirtual 69, 3) := by decide +kernel
theorem dX7_add_87 : decode cX7_add 87 = .ok (.iconst 4, 1) := by decide +kernel
theorem dX7_add_88 : decode cX7_add 88 = .ok (.if_icmp .lt 13, 3) := by decide +kernel
theorem dX7_add_91 : decode cX7_add 91 = .ok (.new 73, 3) := by decide +kernel
theorem dX7_add_94 : decode cX7_add 94 = .ok (.dup, 1) := by decide +kernel
theorem dX7_add_95 : decode cX7_add 95 = .ok (.ldc 75, 2) := by decide +kernel
theorem dX7_add_97 : decode cX7_add 97 = .ok (.invokespecial 77, 3) := by decide +kernel
theorem dX7_add_100 : decode cX7_add 100 = .ok (.athrow, 1) := by decide +kernel
theorem dX7_add_101 : decode cX7_add 101 = .ok (.new 9, 3) := by decide +kernel
theorem dX7_add_104 : decode cX7_add 104 = .ok (.dup, 1) := by decide +kernel
theorem dX7_add_105 : decode cX7_add 105 = .ok (.aload_n 0, 1) := by decide +kernel
theorem dX7_add_106 : decode cX7_add 106 = .ok (.getfield 42, 3) := by decide +kernel
theorem dX7_add_109 : decode cX7_add 109 = .ok (.iload_n 2, 1) := by decide +kernel
theorem dX7_add_110 : decode cX7_add 110 = .ok (.iload_n 3, 1) := by decide +kernel
theorem dX7_add_111 : decode cX7_add 111 = .ok (.iload 4, 2) := by decide +kernel
theorem dX7_add_113 : decode cX7_add 113 = .ok (.invokespecial 21, 3) := by decide +kernel
theorem dX7_add_116 : decode cX7_add 116 = .ok (.astore 6, 2) := by decide +kernel
theorem dX7_add_118 : decode cX7_add 118 = .ok (.aload_n 0, 1) := by decide +kernel
theorem dX7_add_119 : decode cX7_add 119 = .ok (.getfield 11, 3) := by decide +kernel
theorem dX7_add_122 : decode cX7_add 122 = .ok (.aload_n 0, 1) := by decide +kernel
theorem dX7_add_123 : decode cX7_add 123 = .ok (.getfield 42, 3) := by decide +kernel
theorem dX7_add_126 : decode cX7_add 126 = .ok (.aload 6, 2) := by decide +kernel
theorem dX7_add_128 : decode cX7_add 128 = .ok (.aastore, 1) := by decide +kernel
theorem dX7_add_129 : decode cX7_add 129 = .ok (.aload_n 0, 1) := by decide +kernel
theorem dX7_add_130 : decode cX7_add 130 = .ok (.dup, 1) := by decide +kernel
theorem dX7_add_131 : decode cX7_add 131 = .ok (.getfield 42, 3) := by decide +kernel
theorem dX7_add_134 : decode cX7_add 134 = .ok (.iconst 1, 1) := by decide +kernel
theorem dX7_add_135 : decode cX7_add 135 = .ok (.iadd, 1) := by decide +kernel
theorem dX7_add_136 : decode cX7_add 136 = .ok (.putfield 42, 3) := by decide +kernel
theorem dX7_add_139 : decode cX7_add 139 = .ok (.aload 5, 2) := by decide +kernel
theorem dX7_add_141 : decode cX7_add 141 = .ok (.aload 6, 2) := by decide +kernel
theorem dX7_add_143 : decode cX7_add 143 = .ok (.invokevirtual 78, 3) := by decide +kernel
theorem dX7_add_146 : decode cX7_add 146 = .ok (.aload_n 0, 1) := by decide +kernel
theorem dX7_add_147 : decode cX7_add 147 = .ok (.invokevirtual 82, 3) := by decide +kernel
theorem dX7_add_150 : decode cX7_add 150 = .ok (.aload 6, 2) := by decide +kernel
theorem dX7_add_152 : decode cX7_add 152 = .ok (.getfield 85, 3) := by decide +kernel
theorem dX7_add_155 : decode cX7_add 155 = .ok (.ireturn, 1) := by decide +kernel
noncomputable def f_X4_depth_L7 (n : Nat) : Int32 → Option Nat → fSt → Option (Int32 × fSt) := Nat.rec (motive := fun _ => Int32 → Option Nat → fSt → Option (Int32 × fSt)) (fun _ _ _ => none) (fun _ k7 (a1 : Int32) (a2 : Option Nat) (h : fSt) => (if a2 = none then some (a1, h) else (fgR h a2 4 14).bind fun x2 => k7 (a1 + (1 : Int32)) x2 h)) n
noncomputable def f_X4_depth_L0 (a0 : Option Nat) (h : fSt) : Option (Int32 × fSt) := (fgR h a0 4 14).bind fun x4 => f_X4_depth_L7 4096 (0 : Int32) x4 h
noncomputable def f_X4_depth (o : Nat) (h : fSt) : Option (Int32 × fSt) := f_X4_depth_L0 (some o) h
noncomputable def f_X2_init_L0 (a0 : Option Nat) (a1 : Int32) (a2 : Int32) (a3 : Int32) (a4 : Int32) (h : fSt) : Option (Unit × fSt) := (fobj h a0 2).bind fun b1 => (fput h a0 2 0 (.int a1)).bind fun h3 => (fput h3 a0 2 1 (.int a2)).bind fun h5 => (fput h5 a0 2 2 (.int a3)).bind fun h7 => (fput h7 a0 2 3 (.int a4)).bind fun h9 => some ((), h9)
noncomputable def f_X2_init (o : Nat) (p0 : Int32) (p1 : Int32) (p2 : Int32) (p3 : Int32) (h : fSt) : Option (Unit × fSt) := f_X2_init_L0 (some o) p0 p1 p2 p3 h
noncomputable def f_X6_init_L0 (a0 : Option Nat) (a1 : Int32) (a2 : Int32) (a3 : Int32) (h : fSt) : Option (Unit × fSt) := (fobj h a0 6).bind fun b1 => (fput h a0 6 2 (.int a1)).bind fun h3 => (fput h3 a0 6 0 (.int a2)).bind fun h5 => (fput h5 a0 6 1 (.int a3)).bind fun h7 => some ((), h7)
noncomputable def f_X6_init (o : Nat) (p0 : Int32) (p1 : Int32) (p2 : Int32) (h : fSt) : Option (Unit × fSt) := f_X6_init_L0 (some o) p0 p1 p2 h
noncomputable def f_X4_init_L0 (a0 : Option Nat) (a1 : Int32) (a2 : Int32) (a3 : Int32) (a4 : Int32) (h : fSt) : Option (Unit × fSt) := (fobj h a0 4).bind fun b1 => (fnew h (.inl (6, [.int 0, .int 0, .int 0, .int 0, .int 0, .int 0, .int 0, .null, .int 0])) 9).bind fun r3 => (f_X6_init r3.1 (0 : Int32) (-200 : Int32) (200 : Int32) r3.2).bind fun r5 => (fput r5.2 a0 4 3 (va_rf (some r3.1))).bind fun h7 => (fnew h7 (.inl (6, [.int 0, .int 0, .int 0, .int 0, .int 0, .int 0, .int 0, .null, .int 0])) 9).bind fun r9 => (f_X6_init r9.1 (0 : Int32) (-200 : Int32) (200 : Int32) r9.2).bind fun r11 => (fput r11.2 a0 4 4 (va_rf (some r9.1))).bind fun h13 => (fnew h13 (.inl (6, [.int 0, .int 0, .int 0, .int 0, .int 0, .int 0, .int 0, .null, .int 0])) 9).bind fun r15 => (f_X6_init r15.1 (0 : Int32) (0 : Int32) (3 : Int32) r15.2).bind fun r17 => (fput r17.2 a0 4 5 (va_rf (some r15.1))).bind fun h19 => (fnew h19 (.inl (6, [.int 0, .int 0, .int 0, .int 0, .int 0, .int 0, .int 0, .null, .int 0])) 9).bind fun r21 => (f_X6_init r21.1 (100 : Int32) (0 : Int32) (100 : Int32) r21.2).bind fun r23 => (fput r23.2 a0 4 6 (va_rf (some r21.1))).bind fun h25 => (fput h25 a0 4 7 (.int (1 : Int32))).bind fun h27 => (fput h27 a0 4 8 (.int (1 : Int32))).bind fun h29 => (fput h29 a0 4 0 (.int a1)).bind fun h31 => (fput h31 a0 4 1 (.int a2)).bind fun h33 => (fnew h33 (.inl (2, [.int 0, .int 0, .int 0, .int 0])) 4).bind fun r35 => (f_X2_init r35.1 (0 : Int32) (0 : Int32) a3 a4 r35.2).bind fun r37 => (fput r37.2 a0 4 2 (va_rf (some r35.1))).bind fun h39 => some ((), h39)
noncomputable def f_X4_init (o : Nat) (p0 : Int32) (p1 : Int32) (p2 : Int32) (p3 : Int32) (h : fSt) : Option (Unit × fSt) := f_X4_init_L0 (some o) p0 p1 p2 p3 h
noncomputable def f_X4_takeIn_L38 (a0 : Option Nat) (a1 : Option Nat) (h : fSt) : Option (Unit × fSt) := (fput h a1 4 16 (va_rf none)).bind fun h1 => (fput h1 a1 4 14 (va_rf a0)).bind fun h3 => some ((), h3)
noncomputable def f_X4_takeIn_L7 (n : Nat) : Option Nat → Option Nat → Option Nat → Option Nat → fSt → Option (Unit × fSt) := Nat.rec (motive := fun _ => Option Nat → Option Nat → Option Nat → Option Nat → fSt → Option (Unit × fSt)) (fun _ _ _ _ _ => none) (fun _ k7 (a0 : Option Nat) (a1 : Option Nat) (a2 : Option Nat) (a3 : Option Nat) (h : fSt) => (if a3 = none then (if a2 = none then (fput h a0 4 15 (va_rf a1)).bind fun h9 => f_X4_takeIn_L38 a0 a1 h9 else (fput h a2 4 16 (va_rf a1)).bind fun h7 => f_X4_takeIn_L38 a0 a1 h7) else (fgR h a3 4 16).bind fun x11 => k7 a0 a1 a3 x11 h)) n
noncomputable def f_X4_takeIn_L0 (a0 : Option Nat) (a1 : Option Nat) (h : fSt) : Option (Unit × fSt) := (fgR h a0 4 15).bind fun x13 => f_X4_takeIn_L7 4096 a0 a1 none x13 h
noncomputable def f_X4_takeIn (o : Nat) (p0 : Option Nat) (h : fSt) : Option (Unit × fSt) := f_X4_takeIn_L0 (some o) p0 h
noncomputable def f_X7_nodeOrNull_L13  (h : fSt) : Option (Option Nat × fSt) := some (none, h)
noncomputable def f_X7_nodeOrNull_L38 (s0 : Option Nat) (h : fSt) : Option (Option Nat × fSt) := some (s0, h)
noncomputable def f_X7_nodeOrNull_L33  (h : fSt) : Option (Option Nat × fSt) := f_X7_nodeOrNull_L38 none h
noncomputable def f_X7_nodeOrNull_L0 (a0 : Option Nat) (a1 : Int32) (h : fSt) : Option (Option Nat × fSt) := (if a1 < 0 then f_X7_nodeOrNull_L13 h else (fgR h a0 7 0).bind fun x2 => (flen h x2 4).bind fun x4 => (if a1 < x4 then (fgR h a0 7 0).bind fun x7 => (faR h x7 4 a1).bind fun x9 => (if x9 = none then f_X7_nodeOrNull_L33 h else (fgI h x9 4 13).bind fun x12 => (if x12 = 0 then f_X7_nodeOrNull_L38 x9 h else f_X7_nodeOrNull_L33 h)) else f_X7_nodeOrNull_L13 h))
noncomputable def f_X7_nodeOrNull (o : Nat) (p0 : Int32) (h : fSt) : Option (Option Nat × fSt) := f_X7_nodeOrNull_L0 (some o) p0 h
noncomputable def f_X7_found_L0 (a0 : Option Nat) (a1 : Int32) (h : fSt) : Option ((Option Nat ⊕ Nat) × fSt) := (fobj h a0 7).bind fun b3 => (f_X7_nodeOrNull b3 a1 h).bind fun r1 => (if r1.1 = none then (fthr r1.2).bind fun h6 => some (.inr 0, h6) else some (.inl r1.1, r1.2))
noncomputable def f_X7_found (o : Nat) (p0 : Int32) (h : fSt) : Option ((Option Nat ⊕ Nat) × fSt) := f_X7_found_L0 (some o) p0 h
noncomputable def f_X7_isFrom_L15 (s0 : Int32) (h : fSt) : Option (Int32 × fSt) := if s0 = 0 ∨ s0 = 1 then some (s0, h) else none
noncomputable def f_X7_isFrom_L14  (h : fSt) : Option (Int32 × fSt) := f_X7_isFrom_L15 (0 : Int32) h
noncomputable def f_X7_isFrom_L0 (a0 : Int32) (a1 : Int32) (a2 : Int32) (h : fSt) : Option (Int32 × fSt) := (if a0 < a1 then f_X7_isFrom_L14 h else (if a2 < a0 then f_X7_isFrom_L14 h else f_X7_isFrom_L15 (1 : Int32) h))
noncomputable def f_X7_isFrom (p0 : Int32) (p1 : Int32) (p2 : Int32) (h : fSt) : Option (Int32 × fSt) := f_X7_isFrom_L0 p0 p1 p2 h
noncomputable def f_X7_layHanging_L38 (self : Nat → Option Nat → Int32 → fSt → Option (Unit × fSt)) (k3 : Option Nat → Option Nat → Int32 → Int32 → Int32 → fSt → Option (Unit × fSt)) (k15 : Option Nat → Option Nat → Int32 → Int32 → Int32 → Option Nat → fSt → Option (Unit × fSt)) (a0 : Option Nat) (a1 : Option Nat) (a3 : Int32) (a4 : Int32) (a5 : Int32) (a6 : Option Nat) (h : fSt) : Option (Unit × fSt) := (fgR h a6 4 16).bind fun x1 => k15 a0 a1 a3 a4 a5 x1 h
noncomputable def f_X7_layHanging_L15 (self : Nat → Option Nat → Int32 → fSt → Option (Unit × fSt)) (k3 : Option Nat → Option Nat → Int32 → Int32 → Int32 → fSt → Option (Unit × fSt)) (n : Nat) : Option Nat → Option Nat → Int32 → Int32 → Int32 → Option Nat → fSt → Option (Unit × fSt) := Nat.rec (motive := fun _ => Option Nat → Option Nat → Int32 → Int32 → Int32 → Option Nat → fSt → Option (Unit × fSt)) (fun _ _ _ _ _ _ _ => none) (fun _ k15 (a0 : Option Nat) (a1 : Option Nat) (a3 : Int32) (a4 : Int32) (a5 : Int32) (a6 : Option Nat) (h : fSt) => (if a6 = none then k3 a0 a1 a3 a4 (a5 + (1 : Int32)) h else (fgI h a6 4 10).bind fun x4 => (if x4 = a5 then (fobj h a0 7).bind fun b9 => (self b9 a6 a4 h).bind fun r7 => f_X7_layHanging_L38 self k3 k15 a0 a1 a3 a4 a5 a6 r7.2 else f_X7_layHanging_L38 self k3 k15 a0 a1 a3 a4 a5 a6 h))) n
noncomputable def f_X7_layHanging_L3 (self : Nat → Option Nat → Int32 → fSt → Option (Unit × fSt)) (n : Nat) : Option Nat → Option Nat → Int32 → Int32 → Int32 → fSt → Option (Unit × fSt) := Nat.rec (motive := fun _ => Option Nat → Option Nat → Int32 → Int32 → Int32 → fSt → Option (Unit × fSt)) (fun _ _ _ _ _ _ => none) (fun _ k3 (a0 : Option Nat) (a1 : Option Nat) (a3 : Int32) (a4 : Int32) (a5 : Int32) (h : fSt) => (if a3 < a5 then some ((), h) else (fgR h a1 4 15).bind fun x12 => f_X7_layHanging_L15 self k3 4096 a0 a1 a3 a4 a5 x12 h)) n
noncomputable def f_X7_layHanging_L0 (self : Nat → Option Nat → Int32 → fSt → Option (Unit × fSt)) (a0 : Option Nat) (a1 : Option Nat) (a2 : Int32) (a3 : Int32) (a4 : Int32) (h : fSt) : Option (Unit × fSt) := f_X7_layHanging_L3 self 4096 a0 a1 a3 a4 a2 h
noncomputable def f_X7_layHanging (self : Nat → Option Nat → Int32 → fSt → Option (Unit × fSt)) (o : Nat) (p0 : Option Nat) (p1 : Int32) (p2 : Int32) (p3 : Int32) (h : fSt) : Option (Unit × fSt) := f_X7_layHanging_L0 self (some o) p0 p1 p2 p3 h
noncomputable def f_X7_lay_L0 (self : Nat → Option Nat → Int32 → fSt → Option (Unit × fSt)) (a0 : Option Nat) (a1 : Option Nat) (a2 : Int32) (h : fSt) : Option (Unit × fSt) := (if a2 ≤ (4 : Int32) then (fobj h a0 7).bind fun b4 => (f_X7_layHanging self b4 a1 (-9 : Int32) (-1 : Int32) (a2 + (1 : Int32)) h).bind fun r2 => (fgR r2.2 a0 7 8).bind fun x6 => (fput r2.2 a1 4 17 (va_rf x6)).bind fun h8 => (fgI h8 a0 7 9).bind fun x10 => (fput h8 a1 4 18 (.int x10)).bind fun h12 => (fput h12 a0 7 8 (va_rf a1)).bind fun h14 => (fgI h14 a0 7 9).bind fun x16 => (fput h14 a0 7 9 (.int (x16 + (1 : Int32)))).bind fun h18 => (fobj h18 a0 7).bind fun b22 => (f_X7_layHanging self b22 a1 (0 : Int32) (9 : Int32) (a2 + (1 : Int32)) h18).bind fun r20 => some ((), r20.2) else some ((), h))
noncomputable def f_X7_lay (d : Nat) : Nat → Option Nat → Int32 → fSt → Option (Unit × fSt) := Nat.rec (motive := fun _ => Nat → Option Nat → Int32 → fSt → Option (Unit × fSt)) (fun _ _ _ _ => none) (fun _ self (o : Nat) (p0 : Option Nat) (p1 : Int32) (h : fSt) => f_X7_lay_L0 self (some o) p0 p1 h) d
noncomputable def f_X7_layOrder_L0 (a0 : Option Nat) (h : fSt) : Option (Unit × fSt) := (fput h a0 7 8 (va_rf none)).bind fun h1 => (fput h1 a0 7 9 (.int (0 : Int32))).bind fun h3 => (fgR h3 a0 7 2).bind fun x5 => (fobj h3 a0 7).bind fun b9 => (f_X7_lay 8 b9 x5 (0 : Int32) h3).bind fun r7 => some ((), r7.2)
noncomputable def f_X7_layOrder (o : Nat) (h : fSt) : Option (Unit × fSt) := f_X7_layOrder_L0 (some o) h
noncomputable def f_X7_add_L53  (h : fSt) : Option ((Int32 ⊕ Nat) × fSt) := (fthr h).bind fun h1 => some (.inr 1, h1)
noncomputable def f_X7_add_L91  (h : fSt) : Option ((Int32 ⊕ Nat) × fSt) := (fthr h).bind fun h3 => some (.inr 2, h3)
noncomputable def f_X7_add_L63 (a0 : Option Nat) (a2 : Int32) (a3 : Int32) (a4 : Int32) (a5 : Option Nat) (h : fSt) : Option ((Int32 ⊕ Nat) × fSt) := (fgI h a0 7 5).bind fun x5 => (if x5 < 0 then f_X7_add_L91 h else (fgI h a0 7 5).bind fun x8 => (fgR h a0 7 0).bind fun x10 => (flen h x10 4).bind fun x12 => (if x12 ≤ x8 then f_X7_add_L91 h else (fobj h a5 4).bind fun b17 => (f_X4_depth b17 h).bind fun r15 => (if r15.1 < (4 : Int32) then (fnew r15.2 (.inl (4, [.int 0, .int 0, .null, .null, .null, .null, .null, .int 0, .int 0, .int 0, .int 0, .int 0, .null, .int 0, .null, .null, .null, .null, .int 0])) 19).bind fun r20 => (fgI r20.2 a0 7 5).bind fun x22 => (f_X4_init r20.1 x22 a2 a3 a4 r20.2).bind fun r24 => (fgR r24.2 a0 7 0).bind fun x26 => (fgI r24.2 a0 7 5).bind fun x28 => (fsR r24.2 x26 4 4 x28 (some r20.1)).bind fun h30 => (fgI h30 a0 7 5).bind fun x32 => (fput h30 a0 7 5 (.int (x32 + (1 : Int32)))).bind fun h34 => (fobj h34 a5 4).bind fun b38 => (f_X4_takeIn b38 (some r20.1) h34).bind fun r36 => (fobj r36.2 a0 7).bind fun b42 => (f_X7_layOrder b42 r36.2).bind fun r40 => (fgI r40.2 (some r20.1) 4 0).bind fun x44 => some (.inl x44, r40.2) else f_X7_add_L91 r15.2)))
noncomputable def f_X7_add_L0 (a0 : Option Nat) (a1 : Int32) (a2 : Int32) (a3 : Int32) (a4 : Int32) (h : fSt) : Option ((Int32 ⊕ Nat) × fSt) := (fobj h a0 7).bind fun b48 => (f_X7_found b48 a1 h).bind fun r46 => Sum.elim (fun v50 => (f_X7_isFrom a2 (0 : Int32) (2 : Int32) r46.2).bind fun r53 => (if r53.1 = 0 then (fthr r53.2).bind fun h63 => some (.inr 1, h63) else (if a2 = 0 then f_X7_add_L63 a0 a2 a3 a4 v50 r53.2 else (f_X7_isFrom a3 (1 : Int32) (200 : Int32) r53.2).bind fun r57 => (if r57.1 = 0 then f_X7_add_L53 r57.2 else (f_X7_isFrom a4 (1 : Int32) (200 : Int32) r57.2).bind fun r60 => (if r60.1 = 0 then f_X7_add_L53 r60.2 else f_X7_add_L63 a0 a2 a3 a4 v50 r60.2))))) (fun k51 => some (.inr k51, r46.2)) r46.1
noncomputable def f_X7_add (o : Nat) (p0 : Int32) (p1 : Int32) (p2 : Int32) (p3 : Int32) (h : fSt) : Option ((Int32 ⊕ Nat) × fSt) := f_X7_add_L0 (some o) p0 p1 p2 p3 h
set_option maxHeartbeats 4000000 in
set_option maxRecDepth 100000 in
theorem w_X4_depth_L7 {p : Program} {l : Launch} {e : Env} {s : State} {m : MethodId} {args : Array Value} {below : List Frame} {meth : Method} {c : Code} {D : va_G} {cA : Nat → ClassId} {h0 : fSt} {r : (Int32 × fSt)} (M : fM p s m args meth c D cA h0 { frames := 0, cells := fCB h0 - fZ h0, slots := fLB h0 - fL h0, locals := 0 } cX4_depth 3 (some (.int)) RX4) (hfl : l.stackTraces = false) : ∀ (n : Nat) (a1 : Int32) (a2 : Option Nat) (h : fSt), f_X4_depth_L7 n a1 a2 h = some r → ∀ (H : Heap) (locs : List Loc) (cells slots : Nat) (ls : Array Slot), fCur D cA s h0 h H locs → lv_has ls 3 [(1, .int a1), (2, va_rf a2)] → W p l e { frames := 0, cells := fCB h0 - fZ h0, slots := fLB h0 - fL h0, locals := 0 } s m args below meth c H locs cells slots (MQ below (fQ D cA h0 r.2 (some (.int r.1))) args s (fCB h0 - fZ h0) (fLB h0 - fL h0) (fA h0)) (F0 m 7 ls []) := by
  obtain ⟨hx, hb, hml, hr, hlocks, hts, hown, K, hR⟩ := id M
  intro n
  induction n with
  | zero =>
    intro a1 a2 h hf
    exact nomatch (show (none : Option (Int32 × fSt)) = some r from hf)
  | succ n hk7 =>
    intro a1 a2 h hf H locs cells slots ls hC hl
    refine fr_aload_n hx hb dX4_depth_7 rfl (lv_at hl 1 rfl) ?_
    refine fr_ifnull (tgt := 22) hx hb dX4_depth_8 (by decide) (fun c1 => ?_) (fun c1 => ?_)
    · replace hf := opos c1 hf
      refine lv_iload_n hx hb dX4_depth_22 rfl (lv_at hl 0 rfl) ?_
      obtain rfl := Option.some.inj hf
      exact fr_iret hx hb hr hlocks hC dX4_depth_23
    · replace hf := oneg c1 hf
      refine lv_iinc (v := (a1 + (1 : Int32))) (lv' := [(1, .int (a1 + (1 : Int32))), (2, va_rf a2)]) hx hb dX4_depth_11 hl (k := 0) rfl rfl (by decide) (congrArg (List.cons _) (fld rfl (flk rfl fln))) (fun ls hl => ?_)
      refine fr_aload_n hx hb dX4_depth_14 rfl (lv_at hl 1 rfl) ?_
      obtain ⟨x2, g3, hf⟩ := obind hf
      refine fr_get hx hb hts hown K hC ct_4 (fgR_get g3) (by decide) kw182 rfl dX4_depth_15 ?_
      refine fr_astore_n (lv' := [(2, va_rf x2), (1, .int (a1 + (1 : Int32)))]) hx hb dX4_depth_18 rfl hl (by decide) (congrArg (List.cons _) (flk rfl (fld rfl fln))) (fun ls hl => ?_)
      refine lv_goto (tgt := 7) hx hb dX4_depth_19 (by decide) ?_
      exact hk7 _ _ _ hf _ _ _ _ _ hC (lv_sub hl [1, 0] rfl)
set_option maxHeartbeats 4000000 in
set_option maxRecDepth 100000 in
theorem w_X4_depth_L0 {p : Program} {l : Launch} {e : Env} {s : State} {m : MethodId} {args : Array Value} {below : List Frame} {meth : Method} {c : Code} {D : va_G} {cA : Nat → ClassId} {h0 : fSt} {r : (Int32 × fSt)} (M : fM p s m args meth c D cA h0 { frames := 0, cells := fCB h0 - fZ h0, slots := fLB h0 - fL h0, locals := 0 } cX4_depth 3 (some (.int)) RX4) (hfl : l.stackTraces = false) (a0 : Option Nat) (h : fSt) (hf : f_X4_depth_L0 a0 h = some r) : ∀ (H : Heap) (locs : List Loc) (cells slots : Nat) (ls : Array Slot), fCur D cA s h0 h H locs → lv_has ls 3 [(0, va_rf a0)] → W p l e { frames := 0, cells := fCB h0 - fZ h0, slots := fLB h0 - fL h0, locals := 0 } s m args below meth c H locs cells slots (MQ below (fQ D cA h0 r.2 (some (.int r.1))) args s (fCB h0 - fZ h0) (fLB h0 - fL h0) (fA h0)) (F0 m 0 ls []) := by
  obtain ⟨hx, hb, hml, hr, hlocks, hts, hown, K, hR⟩ := id M
  intro H locs cells slots ls hC hl
  refine lv_iconst (v := (0 : Int32)) hx hb dX4_depth_0 (by decide) ?_
  refine lv_istore_n (lv' := [(1, .int (0 : Int32)), (0, va_rf a0)]) hx hb dX4_depth_1 rfl hl (by decide) (congrArg (List.cons _) (flk (adj1 _ _) fln)) (fun ls hl => ?_)
  refine fr_aload_n hx hb dX4_depth_2 rfl (lv_at hl 1 rfl) ?_
  obtain ⟨x4, g5, hf⟩ := obind hf
  refine fr_get hx hb hts hown K hC ct_4 (fgR_get g5) (by decide) kw182 rfl dX4_depth_3 ?_
  refine fr_astore_n (lv' := [(2, va_rf x4), (1, .int (0 : Int32)), (0, va_rf a0)]) hx hb dX4_depth_6 rfl hl (by decide) (congrArg (List.cons _) (flk rfl (flk rfl fln))) (fun ls hl => ?_)
  exact w_X4_depth_L7 M hfl 4096 _ _ _ hf _ _ _ _ _ hC (lv_sub hl [1, 0] rfl)
set_option maxRecDepth 100000 in
theorem c_X4_depth {l : Launch} (hfl : l.stackTraces = false) (D : va_G) (cA : Nat → ClassId) {o : Nat} {h : fSt} {r : (Int32 × fSt)} (hf : f_X4_depth o h = some r) : fMet l yX4_depth (wsC yX4_depth cX4_depth 3 (some (.int))) (0) (0) D cA [.ref o] h r.2 (some (.int r.1)) := by
  exact fMet.of (own := RX4) (by decide +kernel) rfl (lva1 rfl lva0) (lgl1 rfl lgl0) (Nat.le_of_ble_eq_true rfl) (fun p e s m args below meth c ls hnm _ M hC hl => by
    have hl : lv_has ls 3 [(0, va_rf (some o))] := hl
    exact w_X4_depth_L0 M hfl _ _ hf _ _ _ _ _ hC (lv_sub hl [0] rfl))
set_option maxHeartbeats 4000000 in
set_option maxRecDepth 100000 in
theorem w_X2_init_L0 {p : Program} {l : Launch} {e : Env} {s : State} {m : MethodId} {args : Array Value} {below : List Frame} {meth : Method} {c : Code} {D : va_G} {cA : Nat → ClassId} {h0 : fSt} {r : (Unit × fSt)} (M : fM p s m args meth c D cA h0 { frames := 1, cells := fCB h0 - fZ h0, slots := fLB h0 - fL h0, locals := 20 } cX2_init 5 none RX2) (hfl : l.stackTraces = false) (hnm : meth.name = "<init>") (a0 : Option Nat) (a1 : Int32) (a2 : Int32) (a3 : Int32) (a4 : Int32) (h : fSt) (hf : f_X2_init_L0 a0 a1 a2 a3 a4 h = some r) : ∀ (H : Heap) (locs : List Loc) (cells slots : Nat) (ls : Array Slot), fCur D cA s h0 h H locs → lv_has ls 5 [(0, va_rf a0), (1, .int a1), (2, .int a2), (3, .int a3), (4, .int a4)] → W p l e { frames := 1, cells := fCB h0 - fZ h0, slots := fLB h0 - fL h0, locals := 20 } s m args below meth c H locs cells slots (MQ below (fQ D cA h0 r.2 none) args s (fCB h0 - fZ h0) (fLB h0 - fL h0) (fA h0)) (F0 m 0 ls []) := by
  obtain ⟨hx, hb, hml, hr, hlocks, hts, hown, K, hR⟩ := id M
  intro H locs cells slots ls hC hl
  refine fr_aload_n hx hb dX2_init_0 rfl (lv_at hl 0 rfl) ?_
  obtain ⟨b1, q2, hf⟩ := obind hf
  refine fr_objInit hx hb hml hts hown kw132 kw77 kw78 hl.1 (fobj_inv q2).1 dX2_init_1 (by exact Nat.le_of_ble_eq_true rfl) (catL _ _ (by exact Nat.le_of_ble_eq_true rfl) (by exact Nat.le_of_ble_eq_true rfl)) ?_
  refine fr_aload_n hx hb dX2_init_4 rfl (lv_at hl 0 rfl) ?_
  refine lv_iload_n hx hb dX2_init_5 rfl (lv_at hl 1 rfl) ?_
  obtain ⟨h3, g4, hf⟩ := obind hf
  refine fr_putF hx hb hts hown K hC ct_2 g4 (by decide) kw133 rfl rfl hnm rfl rfl rfl dX2_init_6 (fun H locs hC => ?_)
  refine fr_aload_n hx hb dX2_init_9 rfl (lv_at hl 0 rfl) ?_
  refine lv_iload_n hx hb dX2_init_10 rfl (lv_at hl 2 rfl) ?_
  obtain ⟨h5, g6, hf⟩ := obind hf
  refine fr_putF hx hb hts hown K hC ct_2 g6 (by decide) kw135 rfl rfl hnm rfl rfl rfl dX2_init_11 (fun H locs hC => ?_)
  refine fr_aload_n hx hb dX2_init_14 rfl (lv_at hl 0 rfl) ?_
  refine lv_iload_n hx hb dX2_init_15 rfl (lv_at hl 3 rfl) ?_
  obtain ⟨h7, g8, hf⟩ := obind hf
  refine fr_putF hx hb hts hown K hC ct_2 g8 (by decide) kw137 rfl rfl hnm rfl rfl rfl dX2_init_16 (fun H locs hC => ?_)
  refine fr_aload_n hx hb dX2_init_19 rfl (lv_at hl 0 rfl) ?_
  refine lv_iload hx hb dX2_init_20 (lv_at hl 4 rfl) ?_
  obtain ⟨h9, g10, hf⟩ := obind hf
  refine fr_putF hx hb hts hown K hC ct_2 g10 (by decide) kw139 rfl rfl hnm rfl rfl rfl dX2_init_22 (fun H locs hC => ?_)
  obtain rfl := Option.some.inj hf
  exact fr_vret hx hb hr hlocks hC dX2_init_25
set_option maxRecDepth 100000 in
theorem c_X2_init {l : Launch} (hfl : l.stackTraces = false) (D : va_G) (cA : Nat → ClassId) {o : Nat} {p0 : Int32} {p1 : Int32} {p2 : Int32} {p3 : Int32} {h : fSt} {r : (Unit × fSt)} (hf : f_X2_init o p0 p1 p2 p3 h = some r) : fMet l yX2_init (wsC yX2_init cX2_init 5 none) (1) (20) D cA [.ref o, .int p0, .int p1, .int p2, .int p3] h r.2 none := by
  exact fMet.of (own := RX2) (by decide +kernel) rfl (lva1 rfl (lva1 rfl (lva1 rfl (lva1 rfl (lva1 rfl lva0))))) (lgl1 rfl (lgl1 rfl (lgl1 rfl (lgl1 rfl (lgl1 rfl lgl0))))) (Nat.le_of_ble_eq_true rfl) (fun p e s m args below meth c ls hnm _ M hC hl => by
    have hl : lv_has ls 5 [(0, va_rf (some o)), (1, .int p0), (2, .int p1), (3, .int p2), (4, .int p3)] := hl
    exact w_X2_init_L0 M hfl (show meth.name = "<init>" from hnm) _ _ _ _ _ _ hf _ _ _ _ _ hC (lv_sub hl [0, 1, 2, 3, 4] rfl))
set_option maxHeartbeats 4000000 in
set_option maxRecDepth 100000 in
theorem w_X6_init_L0 {p : Program} {l : Launch} {e : Env} {s : State} {m : MethodId} {args : Array Value} {below : List Frame} {meth : Method} {c : Code} {D : va_G} {cA : Nat → ClassId} {h0 : fSt} {r : (Unit × fSt)} (M : fM p s m args meth c D cA h0 { frames := 1, cells := fCB h0 - fZ h0, slots := fLB h0 - fL h0, locals := 20 } cX6_init 4 none RX6) (hfl : l.stackTraces = false) (hnm : meth.name = "<init>") (a0 : Option Nat) (a1 : Int32) (a2 : Int32) (a3 : Int32) (h : fSt) (hf : f_X6_init_L0 a0 a1 a2 a3 h = some r) : ∀ (H : Heap) (locs : List Loc) (cells slots : Nat) (ls : Array Slot), fCur D cA s h0 h H locs → lv_has ls 4 [(0, va_rf a0), (1, .int a1), (2, .int a2), (3, .int a3)] → W p l e { frames := 1, cells := fCB h0 - fZ h0, slots := fLB h0 - fL h0, locals := 20 } s m args below meth c H locs cells slots (MQ below (fQ D cA h0 r.2 none) args s (fCB h0 - fZ h0) (fLB h0 - fL h0) (fA h0)) (F0 m 0 ls []) := by
  obtain ⟨hx, hb, hml, hr, hlocks, hts, hown, K, hR⟩ := id M
  intro H locs cells slots ls hC hl
  refine fr_aload_n hx hb dX6_init_0 rfl (lv_at hl 0 rfl) ?_
  obtain ⟨b1, q2, hf⟩ := obind hf
  refine fr_objInit hx hb hml hts hown kw93 kw77 kw78 hl.1 (fobj_inv q2).1 dX6_init_1 (by exact Nat.le_of_ble_eq_true rfl) (catL _ _ (by exact Nat.le_of_ble_eq_true rfl) (by exact Nat.le_of_ble_eq_true rfl)) ?_
  refine fr_aload_n hx hb dX6_init_4 rfl (lv_at hl 0 rfl) ?_
  refine lv_iload_n hx hb dX6_init_5 rfl (lv_at hl 1 rfl) ?_
  obtain ⟨h3, g4, hf⟩ := obind hf
  refine fr_put hx hb hts hown K hC ct_6 g4 (by decide) kw96 rfl rfl rfl rfl dX6_init_6 (fun H locs hC => ?_)
  refine fr_aload_n hx hb dX6_init_9 rfl (lv_at hl 0 rfl) ?_
  refine lv_iload_n hx hb dX6_init_10 rfl (lv_at hl 2 rfl) ?_
  obtain ⟨h5, g6, hf⟩ := obind hf
  refine fr_putF hx hb hts hown K hC ct_6 g6 (by decide) kw94 rfl rfl hnm rfl rfl rfl dX6_init_11 (fun H locs hC => ?_)
  refine fr_aload_n hx hb dX6_init_14 rfl (lv_at hl 0 rfl) ?_
  refine lv_iload_n hx hb dX6_init_15 rfl (lv_at hl 3 rfl) ?_
  obtain ⟨h7, g8, hf⟩ := obind hf
  refine fr_putF hx hb hts hown K hC ct_6 g8 (by decide) kw95 rfl rfl hnm rfl rfl rfl dX6_init_16 (fun H locs hC => ?_)
  obtain rfl := Option.some.inj hf
  exact fr_vret hx hb hr hlocks hC dX6_init_19
set_option maxRecDepth 100000 in
theorem c_X6_init {l : Launch} (hfl : l.stackTraces = false) (D : va_G) (cA : Nat → ClassId) {o : Nat} {p0 : Int32} {p1 : Int32} {p2 : Int32} {h : fSt} {r : (Unit × fSt)} (hf : f_X6_init o p0 p1 p2 h = some r) : fMet l yX6_init (wsC yX6_init cX6_init 4 none) (1) (20) D cA [.ref o, .int p0, .int p1, .int p2] h r.2 none := by
  exact fMet.of (own := RX6) (by decide +kernel) rfl (lva1 rfl (lva1 rfl (lva1 rfl (lva1 rfl lva0)))) (lgl1 rfl (lgl1 rfl (lgl1 rfl (lgl1 rfl lgl0)))) (Nat.le_of_ble_eq_true rfl) (fun p e s m args below meth c ls hnm _ M hC hl => by
    have hl : lv_has ls 4 [(0, va_rf (some o)), (1, .int p0), (2, .int p1), (3, .int p2)] := hl
    exact w_X6_init_L0 M hfl (show meth.name = "<init>" from hnm) _ _ _ _ _ hf _ _ _ _ _ hC (lv_sub hl [0, 1, 2, 3] rfl))
set_option maxHeartbeats 4000000 in
set_option maxRecDepth 100000 in
theorem w_X4_init_L0 {p : Program} {l : Launch} {e : Env} {s : State} {m : MethodId} {args : Array Value} {below : List Frame} {meth : Method} {c : Code} {D : va_G} {cA : Nat → ClassId} {h0 : fSt} {r : (Unit × fSt)} (M : fM p s m args meth c D cA h0 { frames := 2, cells := fCB h0 - fZ h0, slots := fLB h0 - fL h0, locals := 44 } cX4_init 5 none RX4) (hfl : l.stackTraces = false) (hnm : meth.name = "<init>") (a0 : Option Nat) (a1 : Int32) (a2 : Int32) (a3 : Int32) (a4 : Int32) (h : fSt) (hf : f_X4_init_L0 a0 a1 a2 a3 a4 h = some r) : ∀ (H : Heap) (locs : List Loc) (cells slots : Nat) (ls : Array Slot), fCur D cA s h0 h H locs → lv_has ls 5 [(0, va_rf a0), (1, .int a1), (2, .int a2), (3, .int a3), (4, .int a4)] → W p l e { frames := 2, cells := fCB h0 - fZ h0, slots := fLB h0 - fL h0, locals := 44 } s m args below meth c H locs cells slots (MQ below (fQ D cA h0 r.2 none) args s (fCB h0 - fZ h0) (fLB h0 - fL h0) (fA h0)) (F0 m 0 ls []) := by
  obtain ⟨hx, hb, hml, hr, hlocks, hts, hown, K, hR⟩ := id M
  intro H locs cells slots ls hC hl
  refine fr_aload_n hx hb dX4_init_0 rfl (lv_at hl 0 rfl) ?_
  obtain ⟨b1, q2, hf⟩ := obind hf
  refine fr_objInit hx hb hml hts hown kw87 kw77 kw78 hl.1 (fobj_inv q2).1 dX4_init_1 (by exact Nat.le_of_ble_eq_true rfl) (catL _ _ (by exact Nat.le_of_ble_eq_true rfl) (by exact Nat.le_of_ble_eq_true rfl)) ?_
  refine fr_aload_n hx hb dX4_init_4 rfl (lv_at hl 0 rfl) ?_
  obtain ⟨r3, g4, hf⟩ := obind hf
  refine fr_new hx hb hts hown K hC ct_6 hR g4 dv_6 kw88 kw89 kw56 dX4_init_5 (fun H _ _ hC => ?_)
  refine lv_dup hx hb dX4_init_8 (va_rf_cat _) ?_
  refine lv_iconst (v := (0 : Int32)) hx hb dX4_init_9 (by decide) ?_
  refine lv_sipush (v := (-200 : Int32)) hx hb dX4_init_10 (by decide) ?_
  refine lv_sipush (v := (200 : Int32)) hx hb dX4_init_13 (by decide) ?_
  obtain ⟨r5, g6, hf⟩ := obind hf
  refine fr_callI hx hb hml hts hown K hC hR (c_X6_init hfl D cA g6) 3 kw92 kw90 kw91 kw56 rfl (by decide +kernel) ⟨by exact Nat.le_of_ble_eq_true rfl, by exact Nat.le_of_ble_eq_true rfl⟩ rfl hl.1 (cat8 _ (by exact Nat.le_of_ble_eq_true rfl)) dX4_init_16 rfl (fun H locs _ _ hC => ?_)
  obtain ⟨h7, g8, hf⟩ := obind hf
  refine fr_putF hx hb hts hown K hC ct_4 g8 (by decide) kw156 rfl rfl hnm rfl (nR _ _) (fR _ _) dX4_init_19 (fun H locs hC => ?_)
  refine fr_aload_n hx hb dX4_init_22 rfl (lv_at hl 0 rfl) ?_
  obtain ⟨r9, g10, hf⟩ := obind hf
  refine fr_new hx hb hts hown K hC ct_6 hR g10 dv_6 kw88 kw89 kw56 dX4_init_23 (fun H _ _ hC => ?_)
  refine lv_dup hx hb dX4_init_26 (va_rf_cat _) ?_
  refine lv_iconst (v := (0 : Int32)) hx hb dX4_init_27 (by decide) ?_
  refine lv_sipush (v := (-200 : Int32)) hx hb dX4_init_28 (by decide) ?_
  refine lv_sipush (v := (200 : Int32)) hx hb dX4_init_31 (by decide) ?_
  obtain ⟨r11, g12, hf⟩ := obind hf
  refine fr_callI hx hb hml hts hown K hC hR (c_X6_init hfl D cA g12) 3 kw92 kw90 kw91 kw56 rfl (by decide +kernel) ⟨by exact Nat.le_of_ble_eq_true rfl, by exact Nat.le_of_ble_eq_true rfl⟩ rfl hl.1 (cat8 _ (by exact Nat.le_of_ble_eq_true rfl)) dX4_init_34 rfl (fun H locs _ _ hC => ?_)
  obtain ⟨h13, g14, hf⟩ := obind hf
  refine fr_putF hx hb hts hown K hC ct_4 g14 (by decide) kw159 rfl rfl hnm rfl (nR _ _) (fR _ _) dX4_init_37 (fun H locs hC => ?_)
  refine fr_aload_n hx hb dX4_init_40 rfl (lv_at hl 0 rfl) ?_
  obtain ⟨r15, g16, hf⟩ := obind hf
  refine fr_new hx hb hts hown K hC ct_6 hR g16 dv_6 kw88 kw89 kw56 dX4_init_41 (fun H _ _ hC => ?_)
  refine lv_dup hx hb dX4_init_44 (va_rf_cat _) ?_
  refine lv_iconst (v := (0 : Int32)) hx hb dX4_init_45 (by decide) ?_
  refine lv_iconst (v := (0 : Int32)) hx hb dX4_init_46 (by decide) ?_
  refine lv_iconst (v := (3 : Int32)) hx hb dX4_init_47 (by decide) ?_
  obtain ⟨r17, g18, hf⟩ := obind hf
  refine fr_callI hx hb hml hts hown K hC hR (c_X6_init hfl D cA g18) 3 kw92 kw90 kw91 kw56 rfl (by decide +kernel) ⟨by exact Nat.le_of_ble_eq_true rfl, by exact Nat.le_of_ble_eq_true rfl⟩ rfl hl.1 (cat8 _ (by exact Nat.le_of_ble_eq_true rfl)) dX4_init_48 rfl (fun H locs _ _ hC => ?_)
  obtain ⟨h19, g20, hf⟩ := obind hf
  refine fr_putF hx hb hts hown K hC ct_4 g20 (by decide) kw162 rfl rfl hnm rfl (nR _ _) (fR _ _) dX4_init_51 (fun H locs hC => ?_)
  refine fr_aload_n hx hb dX4_init_54 rfl (lv_at hl 0 rfl) ?_
  obtain ⟨r21, g22, hf⟩ := obind hf
  refine fr_new hx hb hts hown K hC ct_6 hR g22 dv_6 kw88 kw89 kw56 dX4_init_55 (fun H _ _ hC => ?_)
  refine lv_dup hx hb dX4_init_58 (va_rf_cat _) ?_
  refine lv_bipush (v := (100 : Int32)) hx hb dX4_init_59 (by decide) ?_
  refine lv_iconst (v := (0 : Int32)) hx hb dX4_init_61 (by decide) ?_
  refine lv_bipush (v := (100 : Int32)) hx hb dX4_init_62 (by decide) ?_
  obtain ⟨r23, g24, hf⟩ := obind hf
  refine fr_callI hx hb hml hts hown K hC hR (c_X6_init hfl D cA g24) 3 kw92 kw90 kw91 kw56 rfl (by decide +kernel) ⟨by exact Nat.le_of_ble_eq_true rfl, by exact Nat.le_of_ble_eq_true rfl⟩ rfl hl.1 (cat8 _ (by exact Nat.le_of_ble_eq_true rfl)) dX4_init_64 rfl (fun H locs _ _ hC => ?_)
  obtain ⟨h25, g26, hf⟩ := obind hf
  refine fr_putF hx hb hts hown K hC ct_4 g26 (by decide) kw165 rfl rfl hnm rfl (nR _ _) (fR _ _) dX4_init_67 (fun H locs hC => ?_)
  refine fr_aload_n hx hb dX4_init_70 rfl (lv_at hl 0 rfl) ?_
  refine lv_iconst (v := (1 : Int32)) hx hb dX4_init_71 (by decide) ?_
  obtain ⟨h27, g28, hf⟩ := obind hf
  refine fr_put hx hb hts hown K hC ct_4 g28 (by decide) kw167 rfl rfl rfl rfl dX4_init_72 (fun H locs hC => ?_)
  refine fr_aload_n hx hb dX4_init_75 rfl (lv_at hl 0 rfl) ?_
  refine lv_iconst (v := (1 : Int32)) hx hb dX4_init_76 (by decide) ?_
  obtain ⟨h29, g30, hf⟩ := obind hf
  refine fr_put hx hb hts hown K hC ct_4 g30 (by decide) kw170 rfl rfl rfl rfl dX4_init_77 (fun H locs hC => ?_)
  refine fr_aload_n hx hb dX4_init_80 rfl (lv_at hl 0 rfl) ?_
  refine lv_iload_n hx hb dX4_init_81 rfl (lv_at hl 1 rfl) ?_
  obtain ⟨h31, g32, hf⟩ := obind hf
  refine fr_putF hx hb hts hown K hC ct_4 g32 (by decide) kw150 rfl rfl hnm rfl rfl rfl dX4_init_82 (fun H locs hC => ?_)
  refine fr_aload_n hx hb dX4_init_85 rfl (lv_at hl 0 rfl) ?_
  refine lv_iload_n hx hb dX4_init_86 rfl (lv_at hl 2 rfl) ?_
  obtain ⟨h33, g34, hf⟩ := obind hf
  refine fr_putF hx hb hts hown K hC ct_4 g34 (by decide) kw152 rfl rfl hnm rfl rfl rfl dX4_init_87 (fun H locs hC => ?_)
  refine fr_aload_n hx hb dX4_init_90 rfl (lv_at hl 0 rfl) ?_
  obtain ⟨r35, g36, hf⟩ := obind hf
  refine fr_new hx hb hts hown K hC ct_2 hR g36 dv_2 kw127 kw128 kw57 dX4_init_91 (fun H _ _ hC => ?_)
  refine lv_dup hx hb dX4_init_94 (va_rf_cat _) ?_
  refine lv_iconst (v := (0 : Int32)) hx hb dX4_init_95 (by decide) ?_
  refine lv_iconst (v := (0 : Int32)) hx hb dX4_init_96 (by decide) ?_
  refine lv_iload_n hx hb dX4_init_97 rfl (lv_at hl 3 rfl) ?_
  refine lv_iload hx hb dX4_init_98 (lv_at hl 4 rfl) ?_
  obtain ⟨r37, g38, hf⟩ := obind hf
  refine fr_callI hx hb hml hts hown K hC hR (c_X2_init hfl D cA g38) 4 kw131 kw129 kw130 kw57 rfl (by decide +kernel) ⟨by exact Nat.le_of_ble_eq_true rfl, by exact Nat.le_of_ble_eq_true rfl⟩ rfl hl.1 (cat8 _ (by exact Nat.le_of_ble_eq_true rfl)) dX4_init_100 rfl (fun H locs _ _ hC => ?_)
  obtain ⟨h39, g40, hf⟩ := obind hf
  refine fr_putF hx hb hts hown K hC ct_4 g40 (by decide) kw154 rfl rfl hnm rfl (nR _ _) (fR _ _) dX4_init_103 (fun H locs hC => ?_)
  obtain rfl := Option.some.inj hf
  exact fr_vret hx hb hr hlocks hC dX4_init_106
set_option maxRecDepth 100000 in
theorem c_X4_init {l : Launch} (hfl : l.stackTraces = false) (D : va_G) (cA : Nat → ClassId) {o : Nat} {p0 : Int32} {p1 : Int32} {p2 : Int32} {p3 : Int32} {h : fSt} {r : (Unit × fSt)} (hf : f_X4_init o p0 p1 p2 p3 h = some r) : fMet l yX4_init (wsC yX4_init cX4_init 5 none) (2) (44) D cA [.ref o, .int p0, .int p1, .int p2, .int p3] h r.2 none := by
  exact fMet.of (own := RX4) (by decide +kernel) rfl (lva1 rfl (lva1 rfl (lva1 rfl (lva1 rfl (lva1 rfl lva0))))) (lgl1 rfl (lgl1 rfl (lgl1 rfl (lgl1 rfl (lgl1 rfl lgl0))))) (Nat.le_of_ble_eq_true rfl) (fun p e s m args below meth c ls hnm _ M hC hl => by
    have hl : lv_has ls 5 [(0, va_rf (some o)), (1, .int p0), (2, .int p1), (3, .int p2), (4, .int p3)] := hl
    exact w_X4_init_L0 M hfl (show meth.name = "<init>" from hnm) _ _ _ _ _ _ hf _ _ _ _ _ hC (lv_sub hl [0, 1, 2, 3, 4] rfl))
set_option maxHeartbeats 4000000 in
set_option maxRecDepth 100000 in
theorem w_X4_takeIn_L38 {p : Program} {l : Launch} {e : Env} {s : State} {m : MethodId} {args : Array Value} {below : List Frame} {meth : Method} {c : Code} {D : va_G} {cA : Nat → ClassId} {h0 : fSt} {r : (Unit × fSt)} (M : fM p s m args meth c D cA h0 { frames := 0, cells := fCB h0 - fZ h0, slots := fLB h0 - fL h0, locals := 0 } cX4_takeIn 4 none RX4) (hfl : l.stackTraces = false) (a0 : Option Nat) (a1 : Option Nat) (h : fSt) (hf : f_X4_takeIn_L38 a0 a1 h = some r) : ∀ (H : Heap) (locs : List Loc) (cells slots : Nat) (ls : Array Slot), fCur D cA s h0 h H locs → lv_has ls 4 [(0, va_rf a0), (1, va_rf a1)] → W p l e { frames := 0, cells := fCB h0 - fZ h0, slots := fLB h0 - fL h0, locals := 0 } s m args below meth c H locs cells slots (MQ below (fQ D cA h0 r.2 none) args s (fCB h0 - fZ h0) (fLB h0 - fL h0) (fA h0)) (F0 m 38 ls []) := by
  obtain ⟨hx, hb, hml, hr, hlocks, hts, hown, K, hR⟩ := id M
  intro H locs cells slots ls hC hl
  refine fr_aload_n hx hb dX4_takeIn_38 rfl (lv_at hl 1 rfl) ?_
  refine fr_null hx hb dX4_takeIn_39 ?_
  obtain ⟨h1, g2, hf⟩ := obind hf
  refine fr_put hx hb hts hown K hC ct_4 g2 (by decide) kw186 rfl rfl (nR _ _) (fR _ _) dX4_takeIn_40 (fun H locs hC => ?_)
  refine fr_aload_n hx hb dX4_takeIn_43 rfl (lv_at hl 1 rfl) ?_
  refine fr_aload_n hx hb dX4_takeIn_44 rfl (lv_at hl 0 rfl) ?_
  obtain ⟨h3, g4, hf⟩ := obind hf
  refine fr_put hx hb hts hown K hC ct_4 g4 (by decide) kw182 rfl rfl (nR _ _) (fR _ _) dX4_takeIn_45 (fun H locs hC => ?_)
  obtain rfl := Option.some.inj hf
  exact fr_vret hx hb hr hlocks hC dX4_takeIn_48
set_option maxHeartbeats 4000000 in
set_option maxRecDepth 100000 in
theorem w_X4_takeIn_L7 {p : Program} {l : Launch} {e : Env} {s : State} {m : MethodId} {args : Array Value} {below : List Frame} {meth : Method} {c : Code} {D : va_G} {cA : Nat → ClassId} {h0 : fSt} {r : (Unit × fSt)} (M : fM p s m args meth c D cA h0 { frames := 0, cells := fCB h0 - fZ h0, slots := fLB h0 - fL h0, locals := 0 } cX4_takeIn 4 none RX4) (hfl : l.stackTraces = false) : ∀ (n : Nat) (a0 : Option Nat) (a1 : Option Nat) (a2 : Option Nat) (a3 : Option Nat) (h : fSt), f_X4_takeIn_L7 n a0 a1 a2 a3 h = some r → ∀ (H : Heap) (locs : List Loc) (cells slots : Nat) (ls : Array Slot), fCur D cA s h0 h H locs → lv_has ls 4 [(0, va_rf a0), (1, va_rf a1), (2, va_rf a2), (3, va_rf a3)] → W p l e { frames := 0, cells := fCB h0 - fZ h0, slots := fLB h0 - fL h0, locals := 0 } s m args below meth c H locs cells slots (MQ below (fQ D cA h0 r.2 none) args s (fCB h0 - fZ h0) (fLB h0 - fL h0) (fA h0)) (F0 m 7 ls []) := by
  obtain ⟨hx, hb, hml, hr, hlocks, hts, hown, K, hR⟩ := id M
  intro n
  induction n with
  | zero =>
    intro a0 a1 a2 a3 h hf
    exact nomatch (show (none : Option (Unit × fSt)) = some r from hf)
  | succ n hk7 =>
    intro a0 a1 a2 a3 h hf H locs cells slots ls hC hl
    refine fr_aload_n hx hb dX4_takeIn_7 rfl (lv_at hl 3 rfl) ?_
    refine fr_ifnull (tgt := 21) hx hb dX4_takeIn_8 (by decide) (fun c5 => ?_) (fun c5 => ?_)
    · replace hf := opos c5 hf
      refine fr_aload_n hx hb dX4_takeIn_21 rfl (lv_at hl 2 rfl) ?_
      refine fr_ifnonnull (tgt := 33) hx hb dX4_takeIn_22 (by decide) (fun c6 => ?_) (fun c6 => ?_)
      · replace hf := oneg c6 hf
        refine fr_aload_n hx hb dX4_takeIn_33 rfl (lv_at hl 2 rfl) ?_
        refine fr_aload_n hx hb dX4_takeIn_34 rfl (lv_at hl 1 rfl) ?_
        obtain ⟨h7, g8, hf⟩ := obind hf
        refine fr_put hx hb hts hown K hC ct_4 g8 (by decide) kw186 rfl rfl (nR _ _) (fR _ _) dX4_takeIn_35 (fun H locs hC => ?_)
        exact w_X4_takeIn_L38 M hfl _ _ _ hf _ _ _ _ _ hC (lv_sub hl [0, 1] rfl)
      · replace hf := opos c6 hf
        refine fr_aload_n hx hb dX4_takeIn_25 rfl (lv_at hl 0 rfl) ?_
        refine fr_aload_n hx hb dX4_takeIn_26 rfl (lv_at hl 1 rfl) ?_
        obtain ⟨h9, g10, hf⟩ := obind hf
        refine fr_put hx hb hts hown K hC ct_4 g10 (by decide) kw184 rfl rfl (nR _ _) (fR _ _) dX4_takeIn_27 (fun H locs hC => ?_)
        refine lv_goto (tgt := 38) hx hb dX4_takeIn_30 (by decide) ?_
        exact w_X4_takeIn_L38 M hfl _ _ _ hf _ _ _ _ _ hC (lv_sub hl [0, 1] rfl)
    · replace hf := oneg c5 hf
      refine fr_aload_n hx hb dX4_takeIn_11 rfl (lv_at hl 3 rfl) ?_
      refine fr_astore_n (lv' := [(2, va_rf a3), (0, va_rf a0), (1, va_rf a1), (3, va_rf a3)]) hx hb dX4_takeIn_12 rfl hl (by decide) (congrArg (List.cons _) (flk rfl (flk (adj1 _ _) (fld rfl (flk rfl fln))))) (fun ls hl => ?_)
      refine fr_aload_n hx hb dX4_takeIn_13 rfl (lv_at hl 3 rfl) ?_
      obtain ⟨x11, g12, hf⟩ := obind hf
      refine fr_get hx hb hts hown K hC ct_4 (fgR_get g12) (by decide) kw186 rfl dX4_takeIn_14 ?_
      refine fr_astore_n (lv' := [(3, va_rf x11), (2, va_rf a3), (0, va_rf a0), (1, va_rf a1)]) hx hb dX4_takeIn_17 rfl hl (by decide) (congrArg (List.cons _) (flk (adj1 _ _) (flk rfl (flk rfl (fld rfl fln))))) (fun ls hl => ?_)
      refine lv_goto (tgt := 7) hx hb dX4_takeIn_18 (by decide) ?_
      exact hk7 _ _ _ _ _ hf _ _ _ _ _ hC (lv_sub hl [2, 3, 1, 0] rfl)
set_option maxHeartbeats 4000000 in
set_option maxRecDepth 100000 in
theorem w_X4_takeIn_L0 {p : Program} {l : Launch} {e : Env} {s : State} {m : MethodId} {args : Array Value} {below : List Frame} {meth : Method} {c : Code} {D : va_G} {cA : Nat → ClassId} {h0 : fSt} {r : (Unit × fSt)} (M : fM p s m args meth c D cA h0 { frames := 0, cells := fCB h0 - fZ h0, slots := fLB h0 - fL h0, locals := 0 } cX4_takeIn 4 none RX4) (hfl : l.stackTraces = false) (a0 : Option Nat) (a1 : Option Nat) (h : fSt) (hf : f_X4_takeIn_L0 a0 a1 h = some r) : ∀ (H : Heap) (locs : List Loc) (cells slots : Nat) (ls : Array Slot), fCur D cA s h0 h H locs → lv_has ls 4 [(0, va_rf a0), (1, va_rf a1)] → W p l e { frames := 0, cells := fCB h0 - fZ h0, slots := fLB h0 - fL h0, locals := 0 } s m args below meth c H locs cells slots (MQ below (fQ D cA h0 r.2 none) args s (fCB h0 - fZ h0) (fLB h0 - fL h0) (fA h0)) (F0 m 0 ls []) := by
  obtain ⟨hx, hb, hml, hr, hlocks, hts, hown, K, hR⟩ := id M
  intro H locs cells slots ls hC hl
  refine fr_null hx hb dX4_takeIn_0 ?_
  refine fr_astore_n (lv' := [(2, va_rf none), (0, va_rf a0), (1, va_rf a1)]) hx hb dX4_takeIn_1 rfl hl (by decide) (congrArg (List.cons _) (flk rfl (flk (adj1 _ _) fln))) (fun ls hl => ?_)
  refine fr_aload_n hx hb dX4_takeIn_2 rfl (lv_at hl 1 rfl) ?_
  obtain ⟨x13, g14, hf⟩ := obind hf
  refine fr_get hx hb hts hown K hC ct_4 (fgR_get g14) (by decide) kw184 rfl dX4_takeIn_3 ?_
  refine fr_astore_n (lv' := [(3, va_rf x13), (2, va_rf none), (0, va_rf a0), (1, va_rf a1)]) hx hb dX4_takeIn_6 rfl hl (by decide) (congrArg (List.cons _) (flk (adj1 _ _) (flk rfl (flk rfl fln)))) (fun ls hl => ?_)
  exact w_X4_takeIn_L7 M hfl 4096 _ _ _ _ _ hf _ _ _ _ _ hC (lv_sub hl [2, 3, 1, 0] rfl)
set_option maxRecDepth 100000 in
theorem c_X4_takeIn {l : Launch} (hfl : l.stackTraces = false) (D : va_G) (cA : Nat → ClassId) {o : Nat} {p0 : Option Nat} {h : fSt} {r : (Unit × fSt)} (hf : f_X4_takeIn o p0 h = some r) : fMet l yX4_takeIn (wsC yX4_takeIn cX4_takeIn 4 none) (0) (0) D cA [.ref o, va_rf p0] h r.2 none := by
  exact fMet.of (own := RX4) (by decide +kernel) rfl (lva1 rfl (lva1 (va_rf_cat _) lva0)) (lgl1 rfl (lgl1 (va_rf_cat _) lgl0)) (Nat.le_of_ble_eq_true rfl) (fun p e s m args below meth c ls hnm _ M hC hl => by
    have hl : lv_has ls 4 [(0, va_rf (some o)), (1, va_rf p0)] := hl
    exact w_X4_takeIn_L0 M hfl _ _ _ hf _ _ _ _ _ hC (lv_sub hl [0, 1] rfl))
set_option maxHeartbeats 4000000 in
set_option maxRecDepth 100000 in
theorem w_X7_nodeOrNull_L13 {p : Program} {l : Launch} {e : Env} {s : State} {m : MethodId} {args : Array Value} {below : List Frame} {meth : Method} {c : Code} {D : va_G} {cA : Nat → ClassId} {h0 : fSt} {r : (Option Nat × fSt)} (M : fM p s m args meth c D cA h0 { frames := 0, cells := fCB h0 - fZ h0, slots := fLB h0 - fL h0, locals := 0 } cX7_nodeOrNull 3 (some (.object "TapestryScene$Node")) RX7) (hfl : l.stackTraces = false)  (h : fSt) (hf : f_X7_nodeOrNull_L13  h = some r) : ∀ (H : Heap) (locs : List Loc) (cells slots : Nat) (ls : Array Slot), fCur D cA s h0 h H locs → lv_has ls 3 [] → W p l e { frames := 0, cells := fCB h0 - fZ h0, slots := fLB h0 - fL h0, locals := 0 } s m args below meth c H locs cells slots (MQ below (fQ D cA h0 r.2 (some (va_rf r.1))) args s (fCB h0 - fZ h0) (fLB h0 - fL h0) (fA h0)) (F0 m 13 ls []) := by
  obtain ⟨hx, hb, hml, hr, hlocks, hts, hown, K, hR⟩ := id M
  intro H locs cells slots ls hC hl
  refine fr_null hx hb dX7_nodeOrNull_13 ?_
  obtain rfl := Option.some.inj hf
  exact fr_aret hx hb hr (Or.inl ⟨_, rfl⟩) hlocks hC dX7_nodeOrNull_14
set_option maxHeartbeats 4000000 in
set_option maxRecDepth 100000 in
theorem w_X7_nodeOrNull_L38 {p : Program} {l : Launch} {e : Env} {s : State} {m : MethodId} {args : Array Value} {below : List Frame} {meth : Method} {c : Code} {D : va_G} {cA : Nat → ClassId} {h0 : fSt} {r : (Option Nat × fSt)} (M : fM p s m args meth c D cA h0 { frames := 0, cells := fCB h0 - fZ h0, slots := fLB h0 - fL h0, locals := 0 } cX7_nodeOrNull 3 (some (.object "TapestryScene$Node")) RX7) (hfl : l.stackTraces = false) (s0 : Option Nat) (h : fSt) (hf : f_X7_nodeOrNull_L38 s0 h = some r) : ∀ (H : Heap) (locs : List Loc) (cells slots : Nat) (ls : Array Slot), fCur D cA s h0 h H locs → lv_has ls 3 [] → W p l e { frames := 0, cells := fCB h0 - fZ h0, slots := fLB h0 - fL h0, locals := 0 } s m args below meth c H locs cells slots (MQ below (fQ D cA h0 r.2 (some (va_rf r.1))) args s (fCB h0 - fZ h0) (fLB h0 - fL h0) (fA h0)) (F0 m 38 ls [va_rf s0]) := by
  obtain ⟨hx, hb, hml, hr, hlocks, hts, hown, K, hR⟩ := id M
  intro H locs cells slots ls hC hl
  obtain rfl := Option.some.inj hf
  exact fr_aret hx hb hr (Or.inl ⟨_, rfl⟩) hlocks hC dX7_nodeOrNull_38
set_option maxHeartbeats 4000000 in
set_option maxRecDepth 100000 in
theorem w_X7_nodeOrNull_L33 {p : Program} {l : Launch} {e : Env} {s : State} {m : MethodId} {args : Array Value} {below : List Frame} {meth : Method} {c : Code} {D : va_G} {cA : Nat → ClassId} {h0 : fSt} {r : (Option Nat × fSt)} (M : fM p s m args meth c D cA h0 { frames := 0, cells := fCB h0 - fZ h0, slots := fLB h0 - fL h0, locals := 0 } cX7_nodeOrNull 3 (some (.object "TapestryScene$Node")) RX7) (hfl : l.stackTraces = false)  (h : fSt) (hf : f_X7_nodeOrNull_L33  h = some r) : ∀ (H : Heap) (locs : List Loc) (cells slots : Nat) (ls : Array Slot), fCur D cA s h0 h H locs → lv_has ls 3 [] → W p l e { frames := 0, cells := fCB h0 - fZ h0, slots := fLB h0 - fL h0, locals := 0 } s m args below meth c H locs cells slots (MQ below (fQ D cA h0 r.2 (some (va_rf r.1))) args s (fCB h0 - fZ h0) (fLB h0 - fL h0) (fA h0)) (F0 m 33 ls []) := by
  obtain ⟨hx, hb, hml, hr, hlocks, hts, hown, K, hR⟩ := id M
  intro H locs cells slots ls hC hl
  refine fr_null hx hb dX7_nodeOrNull_33 ?_
  refine lv_goto (tgt := 38) hx hb dX7_nodeOrNull_34 (by decide) ?_
  exact w_X7_nodeOrNull_L38 M hfl _ _ hf _ _ _ _ _ hC (lv_sub hl [] rfl)
set_option maxHeartbeats 4000000 in
set_option maxRecDepth 100000 in
theorem w_X7_nodeOrNull_L0 {p : Program} {l : Launch} {e : Env} {s : State} {m : MethodId} {args : Array Value} {below : List Frame} {meth : Method} {c : Code} {D : va_G} {cA : Nat → ClassId} {h0 : fSt} {r : (Option Nat × fSt)} (M : fM p s m args meth c D cA h0 { frames := 0, cells := fCB h0 - fZ h0, slots := fLB h0 - fL h0, locals := 0 } cX7_nodeOrNull 3 (some (.object "TapestryScene$Node")) RX7) (hfl : l.stackTraces = false) (a0 : Option Nat) (a1 : Int32) (h : fSt) (hf : f_X7_nodeOrNull_L0 a0 a1 h = some r) : ∀ (H : Heap) (locs : List Loc) (cells slots : Nat) (ls : Array Slot), fCur D cA s h0 h H locs → lv_has ls 3 [(0, va_rf a0), (1, .int a1)] → W p l e { frames := 0, cells := fCB h0 - fZ h0, slots := fLB h0 - fL h0, locals := 0 } s m args below meth c H locs cells slots (MQ below (fQ D cA h0 r.2 (some (va_rf r.1))) args s (fCB h0 - fZ h0) (fLB h0 - fL h0) (fA h0)) (F0 m 0 ls []) := by
  obtain ⟨hx, hb, hml, hr, hlocks, hts, hown, K, hR⟩ := id M
  intro H locs cells slots ls hC hl
  refine lv_iload_n hx hb dX7_nodeOrNull_0 rfl (lv_at hl 1 rfl) ?_
  refine lv_if_lt (tgt := 13) hx hb dX7_nodeOrNull_1 (by decide) (fun c1 => ?_) (fun c1 => ?_)
  · replace hf := opos c1 hf
    exact w_X7_nodeOrNull_L13 M hfl _ hf _ _ _ _ _ hC (lv_sub hl [] rfl)
  · replace hf := oneg c1 hf
    refine lv_iload_n hx hb dX7_nodeOrNull_4 rfl (lv_at hl 1 rfl) ?_
    refine fr_aload_n hx hb dX7_nodeOrNull_5 rfl (lv_at hl 0 rfl) ?_
    obtain ⟨x2, g3, hf⟩ := obind hf
    refine fr_get hx hb hts hown K hC ct_7 (fgR_get g3) (by decide) kw289 rfl dX7_nodeOrNull_6 ?_
    obtain ⟨x4, g5, hf⟩ := obind hf
    refine fr_alen hx hb K hC (t := 4) rfl g5 dX7_nodeOrNull_9 ?_
    refine lv_icmp_lt (tgt := 15) hx hb dX7_nodeOrNull_10 (by decide) (fun c6 => ?_) (fun c6 => ?_)
    · replace hf := opos c6 hf
      refine fr_aload_n hx hb dX7_nodeOrNull_15 rfl (lv_at hl 0 rfl) ?_
      obtain ⟨x7, g8, hf⟩ := obind hf
      refine fr_get hx hb hts hown K hC ct_7 (fgR_get g8) (by decide) kw289 rfl dX7_nodeOrNull_16 ?_
      refine lv_iload_n hx hb dX7_nodeOrNull_19 rfl (lv_at hl 1 rfl) ?_
      obtain ⟨x9, g10, hf⟩ := obind hf
      refine fr_aald hx hb K hC (t := 4) rfl g10 dX7_nodeOrNull_20 ?_
      refine fr_astore_n (lv' := [(2, va_rf x9), (0, va_rf a0), (1, .int a1)]) hx hb dX7_nodeOrNull_21 rfl hl (by decide) (congrArg (List.cons _) (flk rfl (flk rfl fln))) (fun ls hl => ?_)
      refine fr_aload_n hx hb dX7_nodeOrNull_22 rfl (lv_at hl 0 rfl) ?_
      refine fr_ifnull (tgt := 33) hx hb dX7_nodeOrNull_23 (by decide) (fun c11 => ?_) (fun c11 => ?_)
      · replace hf := opos c11 hf
        exact w_X7_nodeOrNull_L33 M hfl _ hf _ _ _ _ _ hC (lv_sub hl [] rfl)
      · replace hf := oneg c11 hf
        refine fr_aload_n hx hb dX7_nodeOrNull_26 rfl (lv_at hl 0 rfl) ?_
        obtain ⟨x12, g13, hf⟩ := obind hf
        refine fr_get hx hb hts hown K hC ct_4 (fgI_get g13) (by decide) kw181 rfl dX7_nodeOrNull_27 ?_
        refine lv_if_eq (tgt := 37) hx hb dX7_nodeOrNull_30 (by decide) (fun c14 => ?_) (fun c14 => ?_)
        · replace hf := opos c14 hf
          refine fr_aload_n hx hb dX7_nodeOrNull_37 rfl (lv_at hl 0 rfl) ?_
          exact w_X7_nodeOrNull_L38 M hfl _ _ hf _ _ _ _ _ hC (lv_sub hl [] rfl)
        · replace hf := oneg c14 hf
          exact w_X7_nodeOrNull_L33 M hfl _ hf _ _ _ _ _ hC (lv_sub hl [] rfl)
    · replace hf := oneg c6 hf
      exact w_X7_nodeOrNull_L13 M hfl _ hf _ _ _ _ _ hC (lv_sub hl [] rfl)
set_option maxRecDepth 100000 in
theorem c_X7_nodeOrNull {l : Launch} (hfl : l.stackTraces = false) (D : va_G) (cA : Nat → ClassId) {o : Nat} {p0 : Int32} {h : fSt} {r : (Option Nat × fSt)} (hf : f_X7_nodeOrNull o p0 h = some r) : fMet l yX7_nodeOrNull (wsC yX7_nodeOrNull cX7_nodeOrNull 3 (some (.object "TapestryScene$Node"))) (0) (0) D cA [.ref o, .int p0] h r.2 (some (va_rf r.1)) := by
  exact fMet.of (own := RX7) (by decide +kernel) rfl (lva1 rfl (lva1 rfl lva0)) (lgl1 rfl (lgl1 rfl lgl0)) (Nat.le_of_ble_eq_true rfl) (fun p e s m args below meth c ls hnm _ M hC hl => by
    have hl : lv_has ls 3 [(0, va_rf (some o)), (1, .int p0)] := hl
    exact w_X7_nodeOrNull_L0 M hfl _ _ _ hf _ _ _ _ _ hC (lv_sub hl [0, 1] rfl))
set_option maxHeartbeats 4000000 in
set_option maxRecDepth 100000 in
theorem w_X7_found_L0 {p : Program} {l : Launch} {e : Env} {s : State} {m : MethodId} {args : Array Value} {below : List Frame} {meth : Method} {c : Code} {D : va_G} {cA : Nat → ClassId} {h0 : fSt} {r : ((Option Nat ⊕ Nat) × fSt)} (M : fM p s m args meth c D cA h0 { frames := 6, cells := fCB h0 - fZ h0, slots := fLB h0 - fL h0, locals := 90 } cX7_found 3 (some (.object "TapestryScene$Node")) RX7) (hfl : l.stackTraces = false) (hno : ∀ x ∈ c.exceptionTable.toList, False) (a0 : Option Nat) (a1 : Int32) (h : fSt) (hf : f_X7_found_L0 a0 a1 h = some r) : ∀ (H : Heap) (locs : List Loc) (cells slots : Nat) (ls : Array Slot), fCur D cA s h0 h H locs → lv_has ls 3 [(0, va_rf a0), (1, .int a1)] → W p l e { frames := 6, cells := fCB h0 - fZ h0, slots := fLB h0 - fL h0, locals := 90 } s m args below meth c H locs cells slots (vx_MQ below (fQX D cA h0 r.2 (rR r.1)) (fXC D cA h0 r.2 (rR r.1)) args s (fCB h0 - fZ h0) (fLB h0 - fL h0) (fA h0)) (F0 m 0 ls []) := by
  obtain ⟨hx, hb, hml, hr, hlocks, hts, hown, K, hR⟩ := id M
  intro H locs cells slots ls hC hl
  refine fr_aload_n hx hb dX7_found_0 rfl (lv_at hl 0 rfl) ?_
  refine lv_iload_n hx hb dX7_found_1 rfl (lv_at hl 1 rfl) ?_
  obtain ⟨b3, q4, hf⟩ := obind hf
  obtain ⟨r1, g2, hf⟩ := obind hf
  refine fr_callV hx hb hml hts hown K hC hR ct_7 (c_X7_nodeOrNull hfl D cA g2) 1 q4 kw353 kw350 kw352 kw0 kw54 (by decide +kernel) ⟨by exact Nat.le_of_ble_eq_true rfl, by exact Nat.le_of_ble_eq_true rfl⟩ rfl hl.1 (cat8 _ (by exact Nat.le_of_ble_eq_true rfl)) dX7_found_2 rfl (fun H locs _ _ hC => ?_)
  refine fr_astore_n (lv' := [(2, va_rf r1.1), (0, va_rf a0), (1, .int a1)]) hx hb dX7_found_5 rfl hl (by decide) (congrArg (List.cons _) (flk rfl (flk rfl fln))) (fun ls hl => ?_)
  refine fr_aload_n hx hb dX7_found_6 rfl (lv_at hl 0 rfl) ?_
  refine fr_ifnonnull (tgt := 21) hx hb dX7_found_7 (by decide) (fun c5 => ?_) (fun c5 => ?_)
  · replace hf := oneg c5 hf
    refine fr_aload_n hx hb dX7_found_21 rfl (lv_at hl 0 rfl) ?_
    obtain rfl := Option.some.inj hf
    exact fr_retQ (fr_aret hx hb hr (Or.inl ⟨_, rfl⟩) hlocks hC dX7_found_22)
  · replace hf := opos c5 hf
    obtain ⟨h6, g7, hf⟩ := obind hf
    obtain rfl := Option.some.inj hf
    exact fr_throwSW hx hb hml hts hfl hown K hC hR th_RX7_290_294_0 st_RX7_343 hl.1 dX7_found_10 dX7_found_13 dX7_found_14 dX7_found_17 dX7_found_20 hno (by exact Nat.le_of_ble_eq_true rfl) (catL _ _ (by exact Nat.le_of_ble_eq_true rfl) (by exact Nat.le_of_ble_eq_true rfl)) hlocks g7
set_option maxRecDepth 100000 in
theorem c_X7_found {l : Launch} (hfl : l.stackTraces = false) (D : va_G) (cA : Nat → ClassId) {o : Nat} {p0 : Int32} {h : fSt} {r : ((Option Nat ⊕ Nat) × fSt)} (hf : f_X7_found o p0 h = some r) : fMetX l yX7_found (wsC yX7_found cX7_found 3 (some (.object "TapestryScene$Node"))) (6) (90) D cA [.ref o, .int p0] h r.2 (rR r.1) := by
  exact fMetX.of (own := RX7) (by decide +kernel) rfl (lva1 rfl (lva1 rfl lva0)) (lgl1 rfl (lgl1 rfl lgl0)) (Nat.le_of_ble_eq_true rfl) (fun p e s m args below meth c ls hno M hC hl => by
    have hl : lv_has ls 3 [(0, va_rf (some o)), (1, .int p0)] := hl
    exact w_X7_found_L0 M hfl hno _ _ _ hf _ _ _ _ _ hC (lv_sub hl [0, 1] rfl))
set_option maxHeartbeats 4000000 in
set_option maxRecDepth 100000 in
theorem w_X7_isFrom_L15 {p : Program} {l : Launch} {e : Env} {s : State} {m : MethodId} {args : Array Value} {below : List Frame} {meth : Method} {c : Code} {D : va_G} {cA : Nat → ClassId} {h0 : fSt} {r : (Int32 × fSt)} (M : fM p s m args meth c D cA h0 { frames := 0, cells := fCB h0 - fZ h0, slots := fLB h0 - fL h0, locals := 0 } cX7_isFrom 3 (some (.boolean)) RX7) (hfl : l.stackTraces = false) (s0 : Int32) (h : fSt) (hf : f_X7_isFrom_L15 s0 h = some r) : ∀ (H : Heap) (locs : List Loc) (cells slots : Nat) (ls : Array Slot), fCur D cA s h0 h H locs → lv_has ls 3 [] → W p l e { frames := 0, cells := fCB h0 - fZ h0, slots := fLB h0 - fL h0, locals := 0 } s m args below meth c H locs cells slots (MQ below (fQ D cA h0 r.2 (some (.int r.1))) args s (fCB h0 - fZ h0) (fLB h0 - fL h0) (fA h0)) (F0 m 15 ls [.int s0]) := by
  obtain ⟨hx, hb, hml, hr, hlocks, hts, hown, K, hR⟩ := id M
  intro H locs cells slots ls hC hl
  by_cases c1 : s0 = 0 ∨ s0 = 1
  rotate_left
  · exact nomatch (oneg c1 hf)
  obtain rfl := Option.some.inj (opos c1 hf)
  exact fr_zret hx hb hr hlocks hC c1 dX7_isFrom_15
set_option maxHeartbeats 4000000 in
set_option maxRecDepth 100000 in
theorem w_X7_isFrom_L14 {p : Program} {l : Launch} {e : Env} {s : State} {m : MethodId} {args : Array Value} {below : List Frame} {meth : Method} {c : Code} {D : va_G} {cA : Nat → ClassId} {h0 : fSt} {r : (Int32 × fSt)} (M : fM p s m args meth c D cA h0 { frames := 0, cells := fCB h0 - fZ h0, slots := fLB h0 - fL h0, locals := 0 } cX7_isFrom 3 (some (.boolean)) RX7) (hfl : l.stackTraces = false)  (h : fSt) (hf : f_X7_isFrom_L14  h = some r) : ∀ (H : Heap) (locs : List Loc) (cells slots : Nat) (ls : Array Slot), fCur D cA s h0 h H locs → lv_has ls 3 [] → W p l e { frames := 0, cells := fCB h0 - fZ h0, slots := fLB h0 - fL h0, locals := 0 } s m args below meth c H locs cells slots (MQ below (fQ D cA h0 r.2 (some (.int r.1))) args s (fCB h0 - fZ h0) (fLB h0 - fL h0) (fA h0)) (F0 m 14 ls []) := by
  obtain ⟨hx, hb, hml, hr, hlocks, hts, hown, K, hR⟩ := id M
  intro H locs cells slots ls hC hl
  refine lv_iconst (v := (0 : Int32)) hx hb dX7_isFrom_14 (by decide) ?_
  exact w_X7_isFrom_L15 M hfl _ _ hf _ _ _ _ _ hC (lv_sub hl [] rfl)
set_option maxHeartbeats 4000000 in
set_option maxRecDepth 100000 in
theorem w_X7_isFrom_L0 {p : Program} {l : Launch} {e : Env} {s : State} {m : MethodId} {args : Array Value} {below : List Frame} {meth : Method} {c : Code} {D : va_G} {cA : Nat → ClassId} {h0 : fSt} {r : (Int32 × fSt)} (M : fM p s m args meth c D cA h0 { frames := 0, cells := fCB h0 - fZ h0, slots := fLB h0 - fL h0, locals := 0 } cX7_isFrom 3 (some (.boolean)) RX7) (hfl : l.stackTraces = false) (a0 : Int32) (a1 : Int32) (a2 : Int32) (h : fSt) (hf : f_X7_isFrom_L0 a0 a1 a2 h = some r) : ∀ (H : Heap) (locs : List Loc) (cells slots : Nat) (ls : Array Slot), fCur D cA s h0 h H locs → lv_has ls 3 [(0, .int a0), (1, .int a1), (2, .int a2)] → W p l e { frames := 0, cells := fCB h0 - fZ h0, slots := fLB h0 - fL h0, locals := 0 } s m args below meth c H locs cells slots (MQ below (fQ D cA h0 r.2 (some (.int r.1))) args s (fCB h0 - fZ h0) (fLB h0 - fL h0) (fA h0)) (F0 m 0 ls []) := by
  obtain ⟨hx, hb, hml, hr, hlocks, hts, hown, K, hR⟩ := id M
  intro H locs cells slots ls hC hl
  refine lv_iload_n hx hb dX7_isFrom_0 rfl (lv_at hl 0 rfl) ?_
  refine lv_iload_n hx hb dX7_isFrom_1 rfl (lv_at hl 1 rfl) ?_
  refine lv_icmp_lt (tgt := 14) hx hb dX7_isFrom_2 (by decide) (fun c2 => ?_) (fun c2 => ?_)
  · replace hf := opos c2 hf
    exact w_X7_isFrom_L14 M hfl _ hf _ _ _ _ _ hC (lv_sub hl [] rfl)
  · replace hf := oneg c2 hf
    refine lv_iload_n hx hb dX7_isFrom_5 rfl (lv_at hl 0 rfl) ?_
    refine lv_iload_n hx hb dX7_isFrom_6 rfl (lv_at hl 2 rfl) ?_
    refine lv_icmp_gt (tgt := 14) hx hb dX7_isFrom_7 (by decide) (fun c3 => ?_) (fun c3 => ?_)
    · replace hf := opos c3 hf
      exact w_X7_isFrom_L14 M hfl _ hf _ _ _ _ _ hC (lv_sub hl [] rfl)
    · replace hf := oneg c3 hf
      refine lv_iconst (v := (1 : Int32)) hx hb dX7_isFrom_10 (by decide) ?_
      refine lv_goto (tgt := 15) hx hb dX7_isFrom_11 (by decide) ?_
      exact w_X7_isFrom_L15 M hfl _ _ hf _ _ _ _ _ hC (lv_sub hl [] rfl)
set_option maxRecDepth 100000 in
theorem c_X7_isFrom {l : Launch} (hfl : l.stackTraces = false) (D : va_G) (cA : Nat → ClassId) {p0 : Int32} {p1 : Int32} {p2 : Int32} {h : fSt} {r : (Int32 × fSt)} (hf : f_X7_isFrom p0 p1 p2 h = some r) : fMet l yX7_isFrom (wsC yX7_isFrom cX7_isFrom 3 (some (.boolean))) (0) (0) D cA [.int p0, .int p1, .int p2] h r.2 (some (.int r.1)) := by
  exact fMet.of (own := RX7) (by decide +kernel) rfl (lva1 rfl (lva1 rfl (lva1 rfl lva0))) (lgl1 rfl (lgl1 rfl (lgl1 rfl lgl0))) (Nat.le_of_ble_eq_true rfl) (fun p e s m args below meth c ls hnm _ M hC hl => by
    have hl : lv_has ls 3 [(0, .int p0), (1, .int p1), (2, .int p2)] := hl
    exact w_X7_isFrom_L0 M hfl _ _ _ _ hf _ _ _ _ _ hC (lv_sub hl [0, 1, 2] rfl))
set_option maxHeartbeats 4000000 in
set_option maxRecDepth 100000 in
theorem w_X7_layHanging_L38 {p : Program} {l : Launch} {e : Env} {s : State} {m : MethodId} {args : Array Value} {below : List Frame} {meth : Method} {c : Code} {D : va_G} {cA : Nat → ClassId} {h0 : fSt} {self : Nat → Option Nat → Int32 → fSt → Option (Unit × fSt)} {fd ld : Nat} {r : (Unit × fSt)} (hself : ∀ {o : Nat} {p0 : Option Nat} {p1 : Int32} {h : fSt} {r : (Unit × fSt)}, self o p0 p1 h = some r → fMet l yX7_lay (wsC yX7_lay cX7_lay 3 none) fd ld D cA [.ref o, va_rf p0, .int p1] h r.2 none) (M : fM p s m args meth c D cA h0 { frames := fd + 1, cells := fCB h0 - fZ h0, slots := fLB h0 - fL h0, locals := ld + 22 } cX7_layHanging 7 none RX7) (hfl : l.stackTraces = false) {k3 : Option Nat → Option Nat → Int32 → Int32 → Int32 → fSt → Option (Unit × fSt)} (hk3 : ∀ (a0 : Option Nat) (a1 : Option Nat) (a3 : Int32) (a4 : Int32) (a5 : Int32) (h : fSt), k3 a0 a1 a3 a4 a5 h = some r → ∀ (H : Heap) (locs : List Loc) (cells slots : Nat) (ls : Array Slot), fCur D cA s h0 h H locs → lv_has ls 7 [(0, va_rf a0), (1, va_rf a1), (3, .int a3), (4, .int a4), (5, .int a5)] → W p l e { frames := fd + 1, cells := fCB h0 - fZ h0, slots := fLB h0 - fL h0, locals := ld + 22 } s m args below meth c H locs cells slots (MQ below (fQ D cA h0 r.2 none) args s (fCB h0 - fZ h0) (fLB h0 - fL h0) (fA h0)) (F0 m 3 ls [])) {k15 : Option Nat → Option Nat → Int32 → Int32 → Int32 → Option Nat → fSt → Option (Unit × fSt)} (hk15 : ∀ (a0 : Option Nat) (a1 : Option Nat) (a3 : Int32) (a4 : Int32) (a5 : Int32) (a6 : Option Nat) (h : fSt), k15 a0 a1 a3 a4 a5 a6 h = some r → ∀ (H : Heap) (locs : List Loc) (cells slots : Nat) (ls : Array Slot), fCur D cA s h0 h H locs → lv_has ls 7 [(0, va_rf a0), (1, va_rf a1), (3, .int a3), (4, .int a4), (5, .int a5), (6, va_rf a6)] → W p l e { frames := fd + 1, cells := fCB h0 - fZ h0, slots := fLB h0 - fL h0, locals := ld + 22 } s m args below meth c H locs cells slots (MQ below (fQ D cA h0 r.2 none) args s (fCB h0 - fZ h0) (fLB h0 - fL h0) (fA h0)) (F0 m 15 ls [])) (a0 : Option Nat) (a1 : Option Nat) (a3 : Int32) (a4 : Int32) (a5 : Int32) (a6 : Option Nat) (h : fSt) (hf : f_X7_layHanging_L38 self k3 k15 a0 a1 a3 a4 a5 a6 h = some r) : ∀ (H : Heap) (locs : List Loc) (cells slots : Nat) (ls : Array Slot), fCur D cA s h0 h H locs → lv_has ls 7 [(0, va_rf a0), (1, va_rf a1), (3, .int a3), (4, .int a4), (5, .int a5), (6, va_rf a6)] → W p l e { frames := fd + 1, cells := fCB h0 - fZ h0, slots := fLB h0 - fL h0, locals := ld + 22 } s m args below meth c H locs cells slots (MQ below (fQ D cA h0 r.2 none) args s (fCB h0 - fZ h0) (fLB h0 - fL h0) (fA h0)) (F0 m 38 ls []) := by
  obtain ⟨hx, hb, hml, hr, hlocks, hts, hown, K, hR⟩ := id M
  intro H locs cells slots ls hC hl
  refine fr_aload hx hb dX7_layHanging_38 (lv_at hl 5 rfl) ?_
  obtain ⟨x1, g2, hf⟩ := obind hf
  refine fr_get hx hb hts hown K hC ct_4 (fgR_get g2) (by decide) kw187 rfl dX7_layHanging_40 ?_
  refine fr_astore (lv' := [(6, va_rf x1), (0, va_rf a0), (1, va_rf a1), (3, .int a3), (4, .int a4), (5, .int a5)]) hx hb dX7_layHanging_43 hl (by decide) (congrArg (List.cons _) (flk rfl (flk rfl (flk rfl (flk rfl (flk rfl (fld rfl fln))))))) (fun ls hl => ?_)
  refine lv_goto (tgt := 15) hx hb dX7_layHanging_45 (by decide) ?_
  exact hk15 _ _ _ _ _ _ _ hf _ _ _ _ _ hC (lv_sub hl [1, 2, 3, 4, 5, 0] rfl)
set_option maxHeartbeats 4000000 in
set_option maxRecDepth 100000 in
theorem w_X7_layHanging_L15 {p : Program} {l : Launch} {e : Env} {s : State} {m : MethodId} {args : Array Value} {below : List Frame} {meth : Method} {c : Code} {D : va_G} {cA : Nat → ClassId} {h0 : fSt} {self : Nat → Option Nat → Int32 → fSt → Option (Unit × fSt)} {fd ld : Nat} {r : (Unit × fSt)} (hself : ∀ {o : Nat} {p0 : Option Nat} {p1 : Int32} {h : fSt} {r : (Unit × fSt)}, self o p0 p1 h = some r → fMet l yX7_lay (wsC yX7_lay cX7_lay 3 none) fd ld D cA [.ref o, va_rf p0, .int p1] h r.2 none) (M : fM p s m args meth c D cA h0 { frames := fd + 1, cells := fCB h0 - fZ h0, slots := fLB h0 - fL h0, locals := ld + 22 } cX7_layHanging 7 none RX7) (hfl : l.stackTraces = false) {k3 : Option Nat → Option Nat → Int32 → Int32 → Int32 → fSt → Option (Unit × fSt)} (hk3 : ∀ (a0 : Option Nat) (a1 : Option Nat) (a3 : Int32) (a4 : Int32) (a5 : Int32) (h : fSt), k3 a0 a1 a3 a4 a5 h = some r → ∀ (H : Heap) (locs : List Loc) (cells slots : Nat) (ls : Array Slot), fCur D cA s h0 h H locs → lv_has ls 7 [(0, va_rf a0), (1, va_rf a1), (3, .int a3), (4, .int a4), (5, .int a5)] → W p l e { frames := fd + 1, cells := fCB h0 - fZ h0, slots := fLB h0 - fL h0, locals := ld + 22 } s m args below meth c H locs cells slots (MQ below (fQ D cA h0 r.2 none) args s (fCB h0 - fZ h0) (fLB h0 - fL h0) (fA h0)) (F0 m 3 ls [])) : ∀ (n : Nat) (a0 : Option Nat) (a1 : Option Nat) (a3 : Int32) (a4 : Int32) (a5 : Int32) (a6 : Option Nat) (h : fSt), f_X7_layHanging_L15 self k3 n a0 a1 a3 a4 a5 a6 h = some r → ∀ (H : Heap) (locs : List Loc) (cells slots : Nat) (ls : Array Slot), fCur D cA s h0 h H locs → lv_has ls 7 [(0, va_rf a0), (1, va_rf a1), (3, .int a3), (4, .int a4), (5, .int a5), (6, va_rf a6)] → W p l e { frames := fd + 1, cells := fCB h0 - fZ h0, slots := fLB h0 - fL h0, locals := ld + 22 } s m args below meth c H locs cells slots (MQ below (fQ D cA h0 r.2 none) args s (fCB h0 - fZ h0) (fLB h0 - fL h0) (fA h0)) (F0 m 15 ls []) := by
  obtain ⟨hx, hb, hml, hr, hlocks, hts, hown, K, hR⟩ := id M
  intro n
  induction n with
  | zero =>
    intro a0 a1 a3 a4 a5 a6 h hf
    exact nomatch (show (none : Option (Unit × fSt)) = some r from hf)
  | succ n hk15 =>
    intro a0 a1 a3 a4 a5 a6 h hf H locs cells slots ls hC hl
    refine fr_aload hx hb dX7_layHanging_15 (lv_at hl 5 rfl) ?_
    refine fr_ifnull (tgt := 48) hx hb dX7_layHanging_17 (by decide) (fun c3 => ?_) (fun c3 => ?_)
    · replace hf := opos c3 hf
      refine lv_iinc (v := (a5 + (1 : Int32))) (lv' := [(5, .int (a5 + (1 : Int32))), (0, va_rf a0), (1, va_rf a1), (3, .int a3), (4, .int a4), (6, va_rf a6)]) hx hb dX7_layHanging_48 hl (k := 4) rfl rfl (by decide) (congrArg (List.cons _) (flk rfl (flk rfl (flk rfl (flk rfl (fld rfl (flk rfl fln))))))) (fun ls hl => ?_)
      refine lv_goto (tgt := 3) hx hb dX7_layHanging_51 (by decide) ?_
      exact hk3 _ _ _ _ _ _ hf _ _ _ _ _ hC (lv_sub hl [1, 2, 3, 4, 0] rfl)
    · replace hf := oneg c3 hf
      refine fr_aload hx hb dX7_layHanging_20 (lv_at hl 5 rfl) ?_
      obtain ⟨x4, g5, hf⟩ := obind hf
      refine fr_get hx hb hts hown K hC ct_4 (fgI_get g5) (by decide) kw175 rfl dX7_layHanging_22 ?_
      refine lv_iload hx hb dX7_layHanging_25 (lv_at hl 4 rfl) ?_
      refine lv_icmp_ne (tgt := 38) hx hb dX7_layHanging_27 (by decide) (fun c6 => ?_) (fun c6 => ?_)
      · replace hf := oneg c6 hf
        exact w_X7_layHanging_L38 @hself M hfl hk3 hk15 _ _ _ _ _ _ _ hf _ _ _ _ _ hC (lv_sub hl [0, 1, 2, 3, 4, 5] rfl)
      · replace hf := opos c6 hf
        refine fr_aload_n hx hb dX7_layHanging_30 rfl (lv_at hl 0 rfl) ?_
        refine fr_aload hx hb dX7_layHanging_31 (lv_at hl 5 rfl) ?_
        refine lv_iload hx hb dX7_layHanging_33 (lv_at hl 3 rfl) ?_
        obtain ⟨b9, q10, hf⟩ := obind hf
        obtain ⟨r7, g8, hf⟩ := obind hf
        refine fr_callV hx hb hml hts hown K hC hR ct_7 (hself g8) 2 q10 kw624 kw621 kw623 kw13 kw54 (by decide +kernel) ⟨by dsimp only; omega, by dsimp only; omega⟩ rfl hl.1 (cat8 _ (by exact Nat.le_of_ble_eq_true rfl)) dX7_layHanging_35 rfl (fun H locs _ _ hC => ?_)
        exact w_X7_layHanging_L38 @hself M hfl hk3 hk15 _ _ _ _ _ _ _ hf _ _ _ _ _ hC (lv_sub hl [0, 1, 2, 3, 4, 5] rfl)
set_option maxHeartbeats 4000000 in
set_option maxRecDepth 100000 in
theorem w_X7_layHanging_L3 {p : Program} {l : Launch} {e : Env} {s : State} {m : MethodId} {args : Array Value} {below : List Frame} {meth : Method} {c : Code} {D : va_G} {cA : Nat → ClassId} {h0 : fSt} {self : Nat → Option Nat → Int32 → fSt → Option (Unit × fSt)} {fd ld : Nat} {r : (Unit × fSt)} (hself : ∀ {o : Nat} {p0 : Option Nat} {p1 : Int32} {h : fSt} {r : (Unit × fSt)}, self o p0 p1 h = some r → fMet l yX7_lay (wsC yX7_lay cX7_lay 3 none) fd ld D cA [.ref o, va_rf p0, .int p1] h r.2 none) (M : fM p s m args meth c D cA h0 { frames := fd + 1, cells := fCB h0 - fZ h0, slots := fLB h0 - fL h0, locals := ld + 22 } cX7_layHanging 7 none RX7) (hfl : l.stackTraces = false) : ∀ (n : Nat) (a0 : Option Nat) (a1 : Option Nat) (a3 : Int32) (a4 : Int32) (a5 : Int32) (h : fSt), f_X7_layHanging_L3 self n a0 a1 a3 a4 a5 h = some r → ∀ (H : Heap) (locs : List Loc) (cells slots : Nat) (ls : Array Slot), fCur D cA s h0 h H locs → lv_has ls 7 [(0, va_rf a0), (1, va_rf a1), (3, .int a3), (4, .int a4), (5, .int a5)] → W p l e { frames := fd + 1, cells := fCB h0 - fZ h0, slots := fLB h0 - fL h0, locals := ld + 22 } s m args below meth c H locs cells slots (MQ below (fQ D cA h0 r.2 none) args s (fCB h0 - fZ h0) (fLB h0 - fL h0) (fA h0)) (F0 m 3 ls []) := by
  obtain ⟨hx, hb, hml, hr, hlocks, hts, hown, K, hR⟩ := id M
  intro n
  induction n with
  | zero =>
    intro a0 a1 a3 a4 a5 h hf
    exact nomatch (show (none : Option (Unit × fSt)) = some r from hf)
  | succ n hk3 =>
    intro a0 a1 a3 a4 a5 h hf H locs cells slots ls hC hl
    refine lv_iload hx hb dX7_layHanging_3 (lv_at hl 4 rfl) ?_
    refine lv_iload_n hx hb dX7_layHanging_5 rfl (lv_at hl 2 rfl) ?_
    refine lv_icmp_gt (tgt := 54) hx hb dX7_layHanging_6 (by decide) (fun c11 => ?_) (fun c11 => ?_)
    · replace hf := opos c11 hf
      obtain rfl := Option.some.inj hf
      exact fr_vret hx hb hr hlocks hC dX7_layHanging_54
    · replace hf := oneg c11 hf
      refine fr_aload_n hx hb dX7_layHanging_9 rfl (lv_at hl 1 rfl) ?_
      obtain ⟨x12, g13, hf⟩ := obind hf
      refine fr_get hx hb hts hown K hC ct_4 (fgR_get g13) (by decide) kw185 rfl dX7_layHanging_10 ?_
      refine fr_astore (lv' := [(6, va_rf x12), (0, va_rf a0), (1, va_rf a1), (3, .int a3), (4, .int a4), (5, .int a5)]) hx hb dX7_layHanging_13 hl (by decide) (congrArg (List.cons _) (flk rfl (flk rfl (flk rfl (flk rfl (flk rfl fln)))))) (fun ls hl => ?_)
      exact w_X7_layHanging_L15 @hself M hfl hk3 4096 _ _ _ _ _ _ _ hf _ _ _ _ _ hC (lv_sub hl [1, 2, 3, 4, 5, 0] rfl)
set_option maxHeartbeats 4000000 in
set_option maxRecDepth 100000 in
theorem w_X7_layHanging_L0 {p : Program} {l : Launch} {e : Env} {s : State} {m : MethodId} {args : Array Value} {below : List Frame} {meth : Method} {c : Code} {D : va_G} {cA : Nat → ClassId} {h0 : fSt} {self : Nat → Option Nat → Int32 → fSt → Option (Unit × fSt)} {fd ld : Nat} {r : (Unit × fSt)} (hself : ∀ {o : Nat} {p0 : Option Nat} {p1 : Int32} {h : fSt} {r : (Unit × fSt)}, self o p0 p1 h = some r → fMet l yX7_lay (wsC yX7_lay cX7_lay 3 none) fd ld D cA [.ref o, va_rf p0, .int p1] h r.2 none) (M : fM p s m args meth c D cA h0 { frames := fd + 1, cells := fCB h0 - fZ h0, slots := fLB h0 - fL h0, locals := ld + 22 } cX7_layHanging 7 none RX7) (hfl : l.stackTraces = false) (a0 : Option Nat) (a1 : Option Nat) (a2 : Int32) (a3 : Int32) (a4 : Int32) (h : fSt) (hf : f_X7_layHanging_L0 self a0 a1 a2 a3 a4 h = some r) : ∀ (H : Heap) (locs : List Loc) (cells slots : Nat) (ls : Array Slot), fCur D cA s h0 h H locs → lv_has ls 7 [(0, va_rf a0), (1, va_rf a1), (2, .int a2), (3, .int a3), (4, .int a4)] → W p l e { frames := fd + 1, cells := fCB h0 - fZ h0, slots := fLB h0 - fL h0, locals := ld + 22 } s m args below meth c H locs cells slots (MQ below (fQ D cA h0 r.2 none) args s (fCB h0 - fZ h0) (fLB h0 - fL h0) (fA h0)) (F0 m 0 ls []) := by
  obtain ⟨hx, hb, hml, hr, hlocks, hts, hown, K, hR⟩ := id M
  intro H locs cells slots ls hC hl
  refine lv_iload_n hx hb dX7_layHanging_0 rfl (lv_at hl 2 rfl) ?_
  refine lv_istore (lv' := [(5, .int a2), (0, va_rf a0), (1, va_rf a1), (2, .int a2), (3, .int a3), (4, .int a4)]) hx hb dX7_layHanging_1 hl (by decide) (congrArg (List.cons _) (flk rfl (flk rfl (flk rfl (flk rfl (flk rfl fln)))))) (fun ls hl => ?_)
  exact w_X7_layHanging_L3 @hself M hfl 4096 _ _ _ _ _ _ hf _ _ _ _ _ hC (lv_sub hl [1, 2, 4, 5, 0] rfl)
set_option maxRecDepth 100000 in
theorem c_X7_layHanging {l : Launch} (hfl : l.stackTraces = false) (D : va_G) (cA : Nat → ClassId) {self : Nat → Option Nat → Int32 → fSt → Option (Unit × fSt)} {fd ld : Nat} (hself : ∀ {o : Nat} {p0 : Option Nat} {p1 : Int32} {h : fSt} {r : (Unit × fSt)}, self o p0 p1 h = some r → fMet l yX7_lay (wsC yX7_lay cX7_lay 3 none) fd ld D cA [.ref o, va_rf p0, .int p1] h r.2 none) {o : Nat} {p0 : Option Nat} {p1 : Int32} {p2 : Int32} {p3 : Int32} {h : fSt} {r : (Unit × fSt)} (hf : f_X7_layHanging self o p0 p1 p2 p3 h = some r) : fMet l yX7_layHanging (wsC yX7_layHanging cX7_layHanging 7 none) (fd + 1) (ld + 22) D cA [.ref o, va_rf p0, .int p1, .int p2, .int p3] h r.2 none := by
  exact fMet.of (own := RX7) (by decide +kernel) rfl (lva1 rfl (lva1 (va_rf_cat _) (lva1 rfl (lva1 rfl (lva1 rfl lva0))))) (lgl1 rfl (lgl1 (va_rf_cat _) (lgl1 rfl (lgl1 rfl (lgl1 rfl lgl0))))) (Nat.le_of_ble_eq_true rfl) (fun p e s m args below meth c ls hnm _ M hC hl => by
    have hl : lv_has ls 7 [(0, va_rf (some o)), (1, va_rf p0), (2, .int p1), (3, .int p2), (4, .int p3)] := hl
    exact w_X7_layHanging_L0 @hself M hfl _ _ _ _ _ _ hf _ _ _ _ _ hC (lv_sub hl [0, 1, 2, 3, 4] rfl))
set_option maxHeartbeats 4000000 in
set_option maxRecDepth 100000 in
theorem w_X7_lay_L0 {p : Program} {l : Launch} {e : Env} {s : State} {m : MethodId} {args : Array Value} {below : List Frame} {meth : Method} {c : Code} {D : va_G} {cA : Nat → ClassId} {h0 : fSt} {self : Nat → Option Nat → Int32 → fSt → Option (Unit × fSt)} {fd ld : Nat} {r : (Unit × fSt)} (hself : ∀ {o : Nat} {p0 : Option Nat} {p1 : Int32} {h : fSt} {r : (Unit × fSt)}, self o p0 p1 h = some r → fMet l yX7_lay (wsC yX7_lay cX7_lay 3 none) fd ld D cA [.ref o, va_rf p0, .int p1] h r.2 none) (M : fM p s m args meth c D cA h0 { frames := fd + 2, cells := fCB h0 - fZ h0, slots := fLB h0 - fL h0, locals := ld + 48 } cX7_lay 3 none RX7) (hfl : l.stackTraces = false) (a0 : Option Nat) (a1 : Option Nat) (a2 : Int32) (h : fSt) (hf : f_X7_lay_L0 self a0 a1 a2 h = some r) : ∀ (H : Heap) (locs : List Loc) (cells slots : Nat) (ls : Array Slot), fCur D cA s h0 h H locs → lv_has ls 3 [(0, va_rf a0), (1, va_rf a1), (2, .int a2)] → W p l e { frames := fd + 2, cells := fCB h0 - fZ h0, slots := fLB h0 - fL h0, locals := ld + 48 } s m args below meth c H locs cells slots (MQ below (fQ D cA h0 r.2 none) args s (fCB h0 - fZ h0) (fLB h0 - fL h0) (fA h0)) (F0 m 0 ls []) := by
  obtain ⟨hx, hb, hml, hr, hlocks, hts, hown, K, hR⟩ := id M
  intro H locs cells slots ls hC hl
  refine lv_iload_n hx hb dX7_lay_0 rfl (lv_at hl 2 rfl) ?_
  refine lv_iconst (v := (4 : Int32)) hx hb dX7_lay_1 (by decide) ?_
  refine lv_icmp_le (tgt := 6) hx hb dX7_lay_2 (by decide) (fun c1 => ?_) (fun c1 => ?_)
  · replace hf := opos c1 hf
    refine fr_aload_n hx hb dX7_lay_6 rfl (lv_at hl 0 rfl) ?_
    refine fr_aload_n hx hb dX7_lay_7 rfl (lv_at hl 1 rfl) ?_
    refine lv_bipush (v := (-9 : Int32)) hx hb dX7_lay_8 (by decide) ?_
    refine lv_iconst (v := (-1 : Int32)) hx hb dX7_lay_10 (by decide) ?_
    refine lv_iload_n hx hb dX7_lay_11 rfl (lv_at hl 2 rfl) ?_
    refine lv_iconst (v := (1 : Int32)) hx hb dX7_lay_12 (by decide) ?_
    refine lv_iadd hx hb dX7_lay_13 ?_
    obtain ⟨b4, q5, hf⟩ := obind hf
    obtain ⟨r2, g3, hf⟩ := obind hf
    refine fr_callV hx hb hml hts hown K hC hR ct_7 (c_X7_layHanging hfl D cA @hself g3) 4 q5 kw628 kw625 kw627 kw14 kw54 (by decide +kernel) ⟨by dsimp only; omega, by dsimp only; omega⟩ rfl hl.1 (cat8 _ (by exact Nat.le_of_ble_eq_true rfl)) dX7_lay_14 rfl (fun H locs _ _ hC => ?_)
    refine fr_aload_n hx hb dX7_lay_17 rfl (lv_at hl 1 rfl) ?_
    refine fr_aload_n hx hb dX7_lay_18 rfl (lv_at hl 0 rfl) ?_
    obtain ⟨x6, g7, hf⟩ := obind hf
    refine fr_get hx hb hts hown K hC ct_7 (fgR_get g7) (by decide) kw297 rfl dX7_lay_19 ?_
    obtain ⟨h8, g9, hf⟩ := obind hf
    refine fr_put hx hb hts hown K hC ct_4 g9 (by decide) kw188 rfl rfl (nR _ _) (fR _ _) dX7_lay_22 (fun H locs hC => ?_)
    refine fr_aload_n hx hb dX7_lay_25 rfl (lv_at hl 1 rfl) ?_
    refine fr_aload_n hx hb dX7_lay_26 rfl (lv_at hl 0 rfl) ?_
    obtain ⟨x10, g11, hf⟩ := obind hf
    refine fr_get hx hb hts hown K hC ct_7 (fgI_get g11) (by decide) kw298 rfl dX7_lay_27 ?_
    obtain ⟨h12, g13, hf⟩ := obind hf
    refine fr_put hx hb hts hown K hC ct_4 g13 (by decide) kw189 rfl rfl rfl rfl dX7_lay_30 (fun H locs hC => ?_)
    refine fr_aload_n hx hb dX7_lay_33 rfl (lv_at hl 0 rfl) ?_
    refine fr_aload_n hx hb dX7_lay_34 rfl (lv_at hl 1 rfl) ?_
    obtain ⟨h14, g15, hf⟩ := obind hf
    refine fr_put hx hb hts hown K hC ct_7 g15 (by decide) kw297 rfl rfl (nR _ _) (fR _ _) dX7_lay_35 (fun H locs hC => ?_)
    refine fr_aload_n hx hb dX7_lay_38 rfl (lv_at hl 0 rfl) ?_
    refine lv_dup hx hb dX7_lay_39 (va_rf_cat _) ?_
    obtain ⟨x16, g17, hf⟩ := obind hf
    refine fr_get hx hb hts hown K hC ct_7 (fgI_get g17) (by decide) kw298 rfl dX7_lay_40 ?_
    refine lv_iconst (v := (1 : Int32)) hx hb dX7_lay_43 (by decide) ?_
    refine lv_iadd hx hb dX7_lay_44 ?_
    obtain ⟨h18, g19, hf⟩ := obind hf
    refine fr_put hx hb hts hown K hC ct_7 g19 (by decide) kw298 rfl rfl rfl rfl dX7_lay_45 (fun H locs hC => ?_)
    refine fr_aload_n hx hb dX7_lay_48 rfl (lv_at hl 0 rfl) ?_
    refine fr_aload_n hx hb dX7_lay_49 rfl (lv_at hl 1 rfl) ?_
    refine lv_iconst (v := (0 : Int32)) hx hb dX7_lay_50 (by decide) ?_
    refine lv_bipush (v := (9 : Int32)) hx hb dX7_lay_51 (by decide) ?_
    refine lv_iload_n hx hb dX7_lay_53 rfl (lv_at hl 2 rfl) ?_
    refine lv_iconst (v := (1 : Int32)) hx hb dX7_lay_54 (by decide) ?_
    refine lv_iadd hx hb dX7_lay_55 ?_
    obtain ⟨b22, q23, hf⟩ := obind hf
    obtain ⟨r20, g21, hf⟩ := obind hf
    refine fr_callV hx hb hml hts hown K hC hR ct_7 (c_X7_layHanging hfl D cA @hself g21) 4 q23 kw628 kw625 kw627 kw14 kw54 (by decide +kernel) ⟨by dsimp only; omega, by dsimp only; omega⟩ rfl hl.1 (cat8 _ (by exact Nat.le_of_ble_eq_true rfl)) dX7_lay_56 rfl (fun H locs _ _ hC => ?_)
    obtain rfl := Option.some.inj hf
    exact fr_vret hx hb hr hlocks hC dX7_lay_59
  · replace hf := oneg c1 hf
    obtain rfl := Option.some.inj hf
    exact fr_vret hx hb hr hlocks hC dX7_lay_5
set_option maxRecDepth 100000 in
theorem c_X7_lay {l : Launch} (hfl : l.stackTraces = false) (D : va_G) (cA : Nat → ClassId) (d : Nat) : ∀ {o : Nat} {p0 : Option Nat} {p1 : Int32} {h : fSt} {r : (Unit × fSt)}, f_X7_lay d o p0 p1 h = some r → fMet l yX7_lay (wsC yX7_lay cX7_lay 3 none) (2 * d) (48 * d) D cA [.ref o, va_rf p0, .int p1] h r.2 none := by
  induction d with
  | zero =>
    intro o p0 p1 h r hf
    exact nomatch (show (none : Option (Unit × fSt)) = some r from hf)
  | succ d hself =>
    intro o p0 p1 h r hf
    have hf : f_X7_lay_L0 (f_X7_lay d) (some o) p0 p1 h = some r := hf
    exact fMet.of (own := RX7) (by decide +kernel) rfl (lva1 rfl (lva1 (va_rf_cat _) (lva1 rfl lva0))) (lgl1 rfl (lgl1 (va_rf_cat _) (lgl1 rfl lgl0))) (Nat.le_of_ble_eq_true rfl) (fun p e s m args below meth c ls hnm _ M hC hl => by
    have hl : lv_has ls 3 [(0, va_rf (some o)), (1, va_rf p0), (2, .int p1)] := hl
    exact w_X7_lay_L0 @hself M hfl _ _ _ _ hf _ _ _ _ _ hC (lv_sub hl [0, 1, 2] rfl))
set_option maxHeartbeats 4000000 in
set_option maxRecDepth 100000 in
theorem w_X7_layOrder_L0 {p : Program} {l : Launch} {e : Env} {s : State} {m : MethodId} {args : Array Value} {below : List Frame} {meth : Method} {c : Code} {D : va_G} {cA : Nat → ClassId} {h0 : fSt} {r : (Unit × fSt)} (M : fM p s m args meth c D cA h0 { frames := 17, cells := fCB h0 - fZ h0, slots := fLB h0 - fL h0, locals := 406 } cX7_layOrder 1 none RX7) (hfl : l.stackTraces = false) (a0 : Option Nat) (h : fSt) (hf : f_X7_layOrder_L0 a0 h = some r) : ∀ (H : Heap) (locs : List Loc) (cells slots : Nat) (ls : Array Slot), fCur D cA s h0 h H locs → lv_has ls 1 [(0, va_rf a0)] → W p l e { frames := 17, cells := fCB h0 - fZ h0, slots := fLB h0 - fL h0, locals := 406 } s m args below meth c H locs cells slots (MQ below (fQ D cA h0 r.2 none) args s (fCB h0 - fZ h0) (fLB h0 - fL h0) (fA h0)) (F0 m 0 ls []) := by
  obtain ⟨hx, hb, hml, hr, hlocks, hts, hown, K, hR⟩ := id M
  intro H locs cells slots ls hC hl
  refine fr_aload_n hx hb dX7_layOrder_0 rfl (lv_at hl 0 rfl) ?_
  refine fr_null hx hb dX7_layOrder_1 ?_
  obtain ⟨h1, g2, hf⟩ := obind hf
  refine fr_put hx hb hts hown K hC ct_7 g2 (by decide) kw297 rfl rfl (nR _ _) (fR _ _) dX7_layOrder_2 (fun H locs hC => ?_)
  refine fr_aload_n hx hb dX7_layOrder_5 rfl (lv_at hl 0 rfl) ?_
  refine lv_iconst (v := (0 : Int32)) hx hb dX7_layOrder_6 (by decide) ?_
  obtain ⟨h3, g4, hf⟩ := obind hf
  refine fr_put hx hb hts hown K hC ct_7 g4 (by decide) kw298 rfl rfl rfl rfl dX7_layOrder_7 (fun H locs hC => ?_)
  refine fr_aload_n hx hb dX7_layOrder_10 rfl (lv_at hl 0 rfl) ?_
  refine fr_aload_n hx hb dX7_layOrder_11 rfl (lv_at hl 0 rfl) ?_
  obtain ⟨x5, g6, hf⟩ := obind hf
  refine fr_get hx hb hts hown K hC ct_7 (fgR_get g6) (by decide) kw291 rfl dX7_layOrder_12 ?_
  refine lv_iconst (v := (0 : Int32)) hx hb dX7_layOrder_15 (by decide) ?_
  obtain ⟨b9, q10, hf⟩ := obind hf
  obtain ⟨r7, g8, hf⟩ := obind hf
  refine fr_callV hx hb hml hts hown K hC hR ct_7 (c_X7_lay hfl D cA 8 g8) 2 q10 kw624 kw621 kw623 kw13 kw54 (by decide +kernel) ⟨by exact Nat.le_of_ble_eq_true rfl, by exact Nat.le_of_ble_eq_true rfl⟩ rfl hl.1 (cat8 _ (by exact Nat.le_of_ble_eq_true rfl)) dX7_layOrder_16 rfl (fun H locs _ _ hC => ?_)
  obtain rfl := Option.some.inj hf
  exact fr_vret hx hb hr hlocks hC dX7_layOrder_19
set_option maxRecDepth 100000 in
theorem c_X7_layOrder {l : Launch} (hfl : l.stackTraces = false) (D : va_G) (cA : Nat → ClassId) {o : Nat} {h : fSt} {r : (Unit × fSt)} (hf : f_X7_layOrder o h = some r) : fMet l yX7_layOrder (wsC yX7_layOrder cX7_layOrder 1 none) (17) (406) D cA [.ref o] h r.2 none := by
  exact fMet.of (own := RX7) (by decide +kernel) rfl (lva1 rfl lva0) (lgl1 rfl lgl0) (Nat.le_of_ble_eq_true rfl) (fun p e s m args below meth c ls hnm _ M hC hl => by
    have hl : lv_has ls 1 [(0, va_rf (some o))] := hl
    exact w_X7_layOrder_L0 M hfl _ _ hf _ _ _ _ _ hC (lv_sub hl [0] rfl))
set_option maxHeartbeats 4000000 in
set_option maxRecDepth 100000 in
theorem w_X7_add_L53 {p : Program} {l : Launch} {e : Env} {s : State} {m : MethodId} {args : Array Value} {below : List Frame} {meth : Method} {c : Code} {D : va_G} {cA : Nat → ClassId} {h0 : fSt} {r : ((Int32 ⊕ Nat) × fSt)} (M : fM p s m args meth c D cA h0 { frames := 18, cells := fCB h0 - fZ h0, slots := fLB h0 - fL h0, locals := 426 } cX7_add 7 (some (.int)) RX7) (hfl : l.stackTraces = false) (hno : ∀ x ∈ c.exceptionTable.toList, False)  (h : fSt) (hf : f_X7_add_L53  h = some r) : ∀ (H : Heap) (locs : List Loc) (cells slots : Nat) (ls : Array Slot), fCur D cA s h0 h H locs → lv_has ls 7 [] → W p l e { frames := 18, cells := fCB h0 - fZ h0, slots := fLB h0 - fL h0, locals := 426 } s m args below meth c H locs cells slots (vx_MQ below (fQX D cA h0 r.2 (rI r.1)) (fXC D cA h0 r.2 (rI r.1)) args s (fCB h0 - fZ h0) (fLB h0 - fL h0) (fA h0)) (F0 m 53 ls []) := by
  obtain ⟨hx, hb, hml, hr, hlocks, hts, hown, K, hR⟩ := id M
  intro H locs cells slots ls hC hl
  obtain ⟨h1, g2, hf⟩ := obind hf
  obtain rfl := Option.some.inj hf
  exact fr_throwS hx hb hml hts hfl hown K hC hR th_RX7_60_64_1 st_RX7_67 hl.1 dX7_add_53 dX7_add_56 dX7_add_57 dX7_add_59 dX7_add_62 hno (by exact Nat.le_of_ble_eq_true rfl) (catL _ _ (by exact Nat.le_of_ble_eq_true rfl) (by exact Nat.le_of_ble_eq_true rfl)) hlocks g2
set_option maxHeartbeats 4000000 in
set_option maxRecDepth 100000 in
theorem w_X7_add_L91 {p : Program} {l : Launch} {e : Env} {s : State} {m : MethodId} {args : Array Value} {below : List Frame} {meth : Method} {c : Code} {D : va_G} {cA : Nat → ClassId} {h0 : fSt} {r : ((Int32 ⊕ Nat) × fSt)} (M : fM p s m args meth c D cA h0 { frames := 18, cells := fCB h0 - fZ h0, slots := fLB h0 - fL h0, locals := 426 } cX7_add 7 (some (.int)) RX7) (hfl : l.stackTraces = false) (hno : ∀ x ∈ c.exceptionTable.toList, False)  (h : fSt) (hf : f_X7_add_L91  h = some r) : ∀ (H : Heap) (locs : List Loc) (cells slots : Nat) (ls : Array Slot), fCur D cA s h0 h H locs → lv_has ls 7 [] → W p l e { frames := 18, cells := fCB h0 - fZ h0, slots := fLB h0 - fL h0, locals := 426 } s m args below meth c H locs cells slots (vx_MQ below (fQX D cA h0 r.2 (rI r.1)) (fXC D cA h0 r.2 (rI r.1)) args s (fCB h0 - fZ h0) (fLB h0 - fL h0) (fA h0)) (F0 m 91 ls []) := by
  obtain ⟨hx, hb, hml, hr, hlocks, hts, hown, K, hR⟩ := id M
  intro H locs cells slots ls hC hl
  obtain ⟨h3, g4, hf⟩ := obind hf
  obtain rfl := Option.some.inj hf
  exact fr_throwS hx hb hml hts hfl hown K hC hR th_RX7_73_77_2 st_RX7_75 hl.1 dX7_add_91 dX7_add_94 dX7_add_95 dX7_add_97 dX7_add_100 hno (by exact Nat.le_of_ble_eq_true rfl) (catL _ _ (by exact Nat.le_of_ble_eq_true rfl) (by exact Nat.le_of_ble_eq_true rfl)) hlocks g4
set_option maxHeartbeats 4000000 in
set_option maxRecDepth 100000 in
theorem w_X7_add_L63 {p : Program} {l : Launch} {e : Env} {s : State} {m : MethodId} {args : Array Value} {below : List Frame} {meth : Method} {c : Code} {D : va_G} {cA : Nat → ClassId} {h0 : fSt} {r : ((Int32 ⊕ Nat) × fSt)} (M : fM p s m args meth c D cA h0 { frames := 18, cells := fCB h0 - fZ h0, slots := fLB h0 - fL h0, locals := 426 } cX7_add 7 (some (.int)) RX7) (hfl : l.stackTraces = false) (hno : ∀ x ∈ c.exceptionTable.toList, False) (a0 : Option Nat) (a2 : Int32) (a3 : Int32) (a4 : Int32) (a5 : Option Nat) (h : fSt) (hf : f_X7_add_L63 a0 a2 a3 a4 a5 h = some r) : ∀ (H : Heap) (locs : List Loc) (cells slots : Nat) (ls : Array Slot), fCur D cA s h0 h H locs → lv_has ls 7 [(0, va_rf a0), (2, .int a2), (3, .int a3), (4, .int a4), (5, va_rf a5)] → W p l e { frames := 18, cells := fCB h0 - fZ h0, slots := fLB h0 - fL h0, locals := 426 } s m args below meth c H locs cells slots (vx_MQ below (fQX D cA h0 r.2 (rI r.1)) (fXC D cA h0 r.2 (rI r.1)) args s (fCB h0 - fZ h0) (fLB h0 - fL h0) (fA h0)) (F0 m 63 ls []) := by
  obtain ⟨hx, hb, hml, hr, hlocks, hts, hown, K, hR⟩ := id M
  intro H locs cells slots ls hC hl
  refine fr_aload_n hx hb dX7_add_63 rfl (lv_at hl 0 rfl) ?_
  obtain ⟨x5, g6, hf⟩ := obind hf
  refine fr_get hx hb hts hown K hC ct_7 (fgI_get g6) (by decide) kw294 rfl dX7_add_64 ?_
  refine lv_if_lt (tgt := 91) hx hb dX7_add_67 (by decide) (fun c7 => ?_) (fun c7 => ?_)
  · replace hf := opos c7 hf
    exact w_X7_add_L91 M hfl hno _ hf _ _ _ _ _ hC (lv_sub hl [] rfl)
  · replace hf := oneg c7 hf
    refine fr_aload_n hx hb dX7_add_70 rfl (lv_at hl 0 rfl) ?_
    obtain ⟨x8, g9, hf⟩ := obind hf
    refine fr_get hx hb hts hown K hC ct_7 (fgI_get g9) (by decide) kw294 rfl dX7_add_71 ?_
    refine fr_aload_n hx hb dX7_add_74 rfl (lv_at hl 0 rfl) ?_
    obtain ⟨x10, g11, hf⟩ := obind hf
    refine fr_get hx hb hts hown K hC ct_7 (fgR_get g11) (by decide) kw289 rfl dX7_add_75 ?_
    obtain ⟨x12, g13, hf⟩ := obind hf
    refine fr_alen hx hb K hC (t := 4) rfl g13 dX7_add_78 ?_
    refine lv_icmp_ge (tgt := 91) hx hb dX7_add_79 (by decide) (fun c14 => ?_) (fun c14 => ?_)
    · replace hf := opos c14 hf
      exact w_X7_add_L91 M hfl hno _ hf _ _ _ _ _ hC (lv_sub hl [] rfl)
    · replace hf := oneg c14 hf
      refine fr_aload hx hb dX7_add_82 (lv_at hl 4 rfl) ?_
      obtain ⟨b17, q18, hf⟩ := obind hf
      obtain ⟨r15, g16, hf⟩ := obind hf
      refine fr_callV hx hb hml hts hown K hC hR ct_4 (c_X4_depth hfl D cA g16) 0 q18 kw364 kw361 kw362 kw363 kw55 (by decide +kernel) ⟨by exact Nat.le_of_ble_eq_true rfl, by exact Nat.le_of_ble_eq_true rfl⟩ rfl hl.1 (cat8 _ (by exact Nat.le_of_ble_eq_true rfl)) dX7_add_84 rfl (fun H locs _ _ hC => ?_)
      refine lv_iconst (v := (4 : Int32)) hx hb dX7_add_87 (by decide) ?_
      refine lv_icmp_lt (tgt := 101) hx hb dX7_add_88 (by decide) (fun c19 => ?_) (fun c19 => ?_)
      · replace hf := opos c19 hf
        obtain ⟨r20, g21, hf⟩ := obind hf
        refine fr_new hx hb hts hown K hC ct_4 hR g21 dv_4 kw79 kw83 kw55 dX7_add_101 (fun H _ _ hC => ?_)
        refine lv_dup hx hb dX7_add_104 (va_rf_cat _) ?_
        refine fr_aload_n hx hb dX7_add_105 rfl (lv_at hl 0 rfl) ?_
        obtain ⟨x22, g23, hf⟩ := obind hf
        refine fr_get hx hb hts hown K hC ct_7 (fgI_get g23) (by decide) kw294 rfl dX7_add_106 ?_
        refine lv_iload_n hx hb dX7_add_109 rfl (lv_at hl 1 rfl) ?_
        refine lv_iload_n hx hb dX7_add_110 rfl (lv_at hl 2 rfl) ?_
        refine lv_iload hx hb dX7_add_111 (lv_at hl 3 rfl) ?_
        obtain ⟨r24, g25, hf⟩ := obind hf
        refine fr_callI hx hb hml hts hown K hC hR (c_X4_init hfl D cA g25) 4 kw86 kw84 kw85 kw55 rfl (by decide +kernel) ⟨by exact Nat.le_of_ble_eq_true rfl, by exact Nat.le_of_ble_eq_true rfl⟩ rfl hl.1 (cat8 _ (by exact Nat.le_of_ble_eq_true rfl)) dX7_add_113 rfl (fun H locs _ _ hC => ?_)
        refine fr_astore (lv' := [(6, va_rf (some r20.1)), (0, va_rf a0), (2, .int a2), (3, .int a3), (4, .int a4), (5, va_rf a5)]) hx hb dX7_add_116 hl (by decide) (congrArg (List.cons _) (flk rfl (flk rfl (flk rfl (flk rfl (flk (adj1 _ _) fln)))))) (fun ls hl => ?_)
        refine fr_aload_n hx hb dX7_add_118 rfl (lv_at hl 1 rfl) ?_
        obtain ⟨x26, g27, hf⟩ := obind hf
        refine fr_get hx hb hts hown K hC ct_7 (fgR_get g27) (by decide) kw289 rfl dX7_add_119 ?_
        refine fr_aload_n hx hb dX7_add_122 rfl (lv_at hl 1 rfl) ?_
        obtain ⟨x28, g29, hf⟩ := obind hf
        refine fr_get hx hb hts hown K hC ct_7 (fgI_get g29) (by decide) kw294 rfl dX7_add_123 ?_
        refine fr_aload hx hb dX7_add_126 (lv_at hl 0 rfl) ?_
        obtain ⟨h30, g31, hf⟩ := obind hf
        refine fr_aast hx hb K hC (t := 4) ct_4 rfl g31 dX7_add_128 (fun H locs hC => ?_)
        refine fr_aload_n hx hb dX7_add_129 rfl (lv_at hl 1 rfl) ?_
        refine lv_dup hx hb dX7_add_130 (va_rf_cat _) ?_
        obtain ⟨x32, g33, hf⟩ := obind hf
        refine fr_get hx hb hts hown K hC ct_7 (fgI_get g33) (by decide) kw294 rfl dX7_add_131 ?_
        refine lv_iconst (v := (1 : Int32)) hx hb dX7_add_134 (by decide) ?_
        refine lv_iadd hx hb dX7_add_135 ?_
        obtain ⟨h34, g35, hf⟩ := obind hf
        refine fr_put hx hb hts hown K hC ct_7 g35 (by decide) kw294 rfl rfl rfl rfl dX7_add_136 (fun H locs hC => ?_)
        refine fr_aload hx hb dX7_add_139 (lv_at hl 5 rfl) ?_
        refine fr_aload hx hb dX7_add_141 (lv_at hl 0 rfl) ?_
        obtain ⟨b38, q39, hf⟩ := obind hf
        obtain ⟨r36, g37, hf⟩ := obind hf
        refine fr_callV hx hb hml hts hown K hC hR ct_4 (c_X4_takeIn hfl D cA g37) 1 q39 kw616 kw613 kw614 kw615 kw55 (by decide +kernel) ⟨by exact Nat.le_of_ble_eq_true rfl, by exact Nat.le_of_ble_eq_true rfl⟩ rfl hl.1 (cat8 _ (by exact Nat.le_of_ble_eq_true rfl)) dX7_add_143 rfl (fun H locs _ _ hC => ?_)
        refine fr_aload_n hx hb dX7_add_146 rfl (lv_at hl 1 rfl) ?_
        obtain ⟨b42, q43, hf⟩ := obind hf
        obtain ⟨r40, g41, hf⟩ := obind hf
        refine fr_callV hx hb hml hts hown K hC hR ct_7 (c_X7_layOrder hfl D cA g41) 0 q43 kw620 kw617 kw619 kw12 kw54 (by decide +kernel) ⟨by exact Nat.le_of_ble_eq_true rfl, by exact Nat.le_of_ble_eq_true rfl⟩ rfl hl.1 (cat8 _ (by exact Nat.le_of_ble_eq_true rfl)) dX7_add_147 rfl (fun H locs _ _ hC => ?_)
        refine fr_aload hx hb dX7_add_150 (lv_at hl 0 rfl) ?_
        obtain ⟨x44, g45, hf⟩ := obind hf
        refine fr_get hx hb hts hown K hC ct_4 (fgI_get g45) (by decide) kw151 rfl dX7_add_152 ?_
        obtain rfl := Option.some.inj hf
        exact fr_retQ (fr_iret hx hb hr hlocks hC dX7_add_155)
      · replace hf := oneg c19 hf
        exact w_X7_add_L91 M hfl hno _ hf _ _ _ _ _ hC (lv_sub hl [] rfl)
set_option maxHeartbeats 4000000 in
set_option maxRecDepth 100000 in
theorem w_X7_add_L0 {p : Program} {l : Launch} {e : Env} {s : State} {m : MethodId} {args : Array Value} {below : List Frame} {meth : Method} {c : Code} {D : va_G} {cA : Nat → ClassId} {h0 : fSt} {r : ((Int32 ⊕ Nat) × fSt)} (M : fM p s m args meth c D cA h0 { frames := 18, cells := fCB h0 - fZ h0, slots := fLB h0 - fL h0, locals := 426 } cX7_add 7 (some (.int)) RX7) (hfl : l.stackTraces = false) (hno : ∀ x ∈ c.exceptionTable.toList, False) (a0 : Option Nat) (a1 : Int32) (a2 : Int32) (a3 : Int32) (a4 : Int32) (h : fSt) (hf : f_X7_add_L0 a0 a1 a2 a3 a4 h = some r) : ∀ (H : Heap) (locs : List Loc) (cells slots : Nat) (ls : Array Slot), fCur D cA s h0 h H locs → lv_has ls 7 [(0, va_rf a0), (1, .int a1), (2, .int a2), (3, .int a3), (4, .int a4)] → W p l e { frames := 18, cells := fCB h0 - fZ h0, slots := fLB h0 - fL h0, locals := 426 } s m args below meth c H locs cells slots (vx_MQ below (fQX D cA h0 r.2 (rI r.1)) (fXC D cA h0 r.2 (rI r.1)) args s (fCB h0 - fZ h0) (fLB h0 - fL h0) (fA h0)) (F0 m 0 ls []) := by
  obtain ⟨hx, hb, hml, hr, hlocks, hts, hown, K, hR⟩ := id M
  intro H locs cells slots ls hC hl
  refine fr_aload_n hx hb dX7_add_0 rfl (lv_at hl 0 rfl) ?_
  refine lv_iload_n hx hb dX7_add_1 rfl (lv_at hl 1 rfl) ?_
  obtain ⟨b48, q49, hf⟩ := obind hf
  obtain ⟨⟨v50 | k51, h52⟩, g47, hf⟩ := obind hf
  · refine fr_callVX hx hb hml hts hown K hC hR ct_7 (c_X7_found hfl D cA g47) 1 q49 kw578 kw575 kw577 kw11 kw54 (by decide +kernel) ⟨by exact Nat.le_of_ble_eq_true rfl, by exact Nat.le_of_ble_eq_true rfl⟩ rfl hl.1 (cat8 _ (by exact Nat.le_of_ble_eq_true rfl)) dX7_add_2 rfl (fun H locs _ _ hC => ?_)
    refine fr_astore (lv' := [(5, va_rf v50), (0, va_rf a0), (1, .int a1), (2, .int a2), (3, .int a3), (4, .int a4)]) hx hb dX7_add_5 hl (by decide) (congrArg (List.cons _) (flk rfl (flk rfl (flk rfl (flk rfl (flk rfl fln)))))) (fun ls hl => ?_)
    refine lv_iload_n hx hb dX7_add_7 rfl (lv_at hl 3 rfl) ?_
    refine lv_iconst (v := (0 : Int32)) hx hb dX7_add_8 (by decide) ?_
    refine lv_iconst (v := (2 : Int32)) hx hb dX7_add_9 (by decide) ?_
    obtain ⟨r53, g54, hf⟩ := obind hf
    refine fr_callS hx hb hml hts hown K hC hR (c_X7_isFrom hfl D cA g54) 3 kw487 kw485 kw486 kw54 (by decide +kernel) ⟨by exact Nat.le_of_ble_eq_true rfl, by exact Nat.le_of_ble_eq_true rfl⟩ rfl hl.1 (cat8 _ (by exact Nat.le_of_ble_eq_true rfl)) dX7_add_10 rfl (fun H locs _ _ hC => ?_)
    refine lv_if_ne (tgt := 26) hx hb dX7_add_13 (by decide) (fun c55 => ?_) (fun c55 => ?_)
    · replace hf := oneg c55 hf
      refine lv_iload_n hx hb dX7_add_26 rfl (lv_at hl 3 rfl) ?_
      refine lv_if_eq (tgt := 63) hx hb dX7_add_27 (by decide) (fun c56 => ?_) (fun c56 => ?_)
      · replace hf := opos c56 hf
        exact w_X7_add_L63 M hfl hno _ _ _ _ _ _ hf _ _ _ _ _ hC (lv_sub hl [1, 3, 4, 5, 0] rfl)
      · replace hf := oneg c56 hf
        refine lv_iload_n hx hb dX7_add_30 rfl (lv_at hl 4 rfl) ?_
        refine lv_iconst (v := (1 : Int32)) hx hb dX7_add_31 (by decide) ?_
        refine lv_sipush (v := (200 : Int32)) hx hb dX7_add_32 (by decide) ?_
        obtain ⟨r57, g58, hf⟩ := obind hf
        refine fr_callS hx hb hml hts hown K hC hR (c_X7_isFrom hfl D cA g58) 3 kw487 kw485 kw486 kw54 (by decide +kernel) ⟨by exact Nat.le_of_ble_eq_true rfl, by exact Nat.le_of_ble_eq_true rfl⟩ rfl hl.1 (cat8 _ (by exact Nat.le_of_ble_eq_true rfl)) dX7_add_35 rfl (fun H locs _ _ hC => ?_)
        refine lv_if_eq (tgt := 53) hx hb dX7_add_38 (by decide) (fun c59 => ?_) (fun c59 => ?_)
        · replace hf := opos c59 hf
          exact w_X7_add_L53 M hfl hno _ hf _ _ _ _ _ hC (lv_sub hl [] rfl)
        · replace hf := oneg c59 hf
          refine lv_iload hx hb dX7_add_41 (lv_at hl 5 rfl) ?_
          refine lv_iconst (v := (1 : Int32)) hx hb dX7_add_43 (by decide) ?_
          refine lv_sipush (v := (200 : Int32)) hx hb dX7_add_44 (by decide) ?_
          obtain ⟨r60, g61, hf⟩ := obind hf
          refine fr_callS hx hb hml hts hown K hC hR (c_X7_isFrom hfl D cA g61) 3 kw487 kw485 kw486 kw54 (by decide +kernel) ⟨by exact Nat.le_of_ble_eq_true rfl, by exact Nat.le_of_ble_eq_true rfl⟩ rfl hl.1 (cat8 _ (by exact Nat.le_of_ble_eq_true rfl)) dX7_add_47 rfl (fun H locs _ _ hC => ?_)
          refine lv_if_ne (tgt := 63) hx hb dX7_add_50 (by decide) (fun c62 => ?_) (fun c62 => ?_)
          · replace hf := oneg c62 hf
            exact w_X7_add_L63 M hfl hno _ _ _ _ _ _ hf _ _ _ _ _ hC (lv_sub hl [1, 3, 4, 5, 0] rfl)
          · replace hf := opos c62 hf
            exact w_X7_add_L53 M hfl hno _ hf _ _ _ _ _ hC (lv_sub hl [] rfl)
    · replace hf := opos c55 hf
      obtain ⟨h63, g64, hf⟩ := obind hf
      obtain rfl := Option.some.inj hf
      exact fr_throwS hx hb hml hts hfl hown K hC hR th_RX7_60_64_1 st_RX7_62 hl.1 dX7_add_16 dX7_add_19 dX7_add_20 dX7_add_22 dX7_add_25 hno (by exact Nat.le_of_ble_eq_true rfl) (catL _ _ (by exact Nat.le_of_ble_eq_true rfl) (by exact Nat.le_of_ble_eq_true rfl)) hlocks g64
  · obtain rfl := Option.some.inj hf
    refine fr_callVT hx hb hml hts hown K hC hR ct_7 (c_X7_found hfl D cA g47) 1 q49 kw578 kw575 kw577 kw11 kw54 (by decide +kernel) ⟨by exact Nat.le_of_ble_eq_true rfl, by exact Nat.le_of_ble_eq_true rfl⟩ rfl hl.1 (cat8 _ (by exact Nat.le_of_ble_eq_true rfl)) dX7_add_2 rfl (fun H locs _ _ q ce hC e1 e2 e3 => ?_)
    exact fr_out (fun x hx9 => (hno x hx9).elim) hlocks hC e1 e2 e3
set_option maxRecDepth 100000 in
theorem c_X7_add {l : Launch} (hfl : l.stackTraces = false) (D : va_G) (cA : Nat → ClassId) {o : Nat} {p0 : Int32} {p1 : Int32} {p2 : Int32} {p3 : Int32} {h : fSt} {r : ((Int32 ⊕ Nat) × fSt)} (hf : f_X7_add o p0 p1 p2 p3 h = some r) : fMetX l yX7_add (wsC yX7_add cX7_add 7 (some (.int))) (18) (426) D cA [.ref o, .int p0, .int p1, .int p2, .int p3] h r.2 (rI r.1) := by
  exact fMetX.of (own := RX7) (by decide +kernel) rfl (lva1 rfl (lva1 rfl (lva1 rfl (lva1 rfl (lva1 rfl lva0))))) (lgl1 rfl (lgl1 rfl (lgl1 rfl (lgl1 rfl (lgl1 rfl lgl0))))) (Nat.le_of_ble_eq_true rfl) (fun p e s m args below meth c ls hno M hC hl => by
    have hl : lv_has ls 7 [(0, va_rf (some o)), (1, .int p0), (2, .int p1), (3, .int p2), (4, .int p3)] := hl
    exact w_X7_add_L0 M hfl hno _ _ _ _ _ _ hf _ _ _ _ _ hC (lv_sub hl [0, 1, 2, 3, 4] rfl))
end
