theorem dv_0 : ∀ j, j < 4 → defaultValue (tyX0 j) = vp_V [.null, .null, .null, .null] j := by decide +kernel
theorem dv_1 : ∀ j, j < 2 → defaultValue (tyX1 j) = vp_V [.long 0, .long 0] j := by decide +kernel
theorem dv_2 : ∀ j, j < 4 → defaultValue (tyX2 j) = vp_V [.int 0, .int 0, .int 0, .int 0] j := by decide +kernel
theorem dv_3 : ∀ j, j < 3 → defaultValue (tyX3 j) = vp_V [.int 0, .int 0, .null] j := by decide +kernel
theorem dv_4 : ∀ j, j < 19 → defaultValue (tyX4 j) = vp_V [.int 0, .int 0, .null, .null, .null, .null, .null, .int 0, .int 0, .int 0, .int 0, .int 0, .null, .int 0, .null, .null, .null, .null, .int 0] j := by decide +kernel
theorem dv_5 : ∀ j, j < 4 → defaultValue (tyX5 j) = vp_V [.long 0, .long 0, .long 0, .int 0] j := by decide +kernel
theorem dv_6 : ∀ j, j < 9 → defaultValue (tyX6 j) = vp_V [.int 0, .int 0, .int 0, .int 0, .int 0, .int 0, .int 0, .null, .int 0] j := by decide +kernel
theorem dv_7 : ∀ j, j < 10 → defaultValue (tyX7 j) = vp_V [.null, .null, .null, .null, .null, .int 0, .int 0, .int 0, .null, .int 0] j := by decide +kernel
theorem dv_8 : ∀ j, j < 26 → defaultValue (tyX8 j) = vp_V [.int 0, .int 0, .null, .null, .null, .null, .null, .null, .null, .null, .null, .null, .null, .null, .null, .null, .int 0, .int 0, .null, .null, .null, .null, .null, .null, .null, .int 0] j := by decide +kernel
theorem kw0 : (Jvm.Cond.selects "TapestryScene" ({ cls := "TapestryScene", name := "nodeOrNull", desc := "(I)LTapestryScene$Node;" } : Jvm.MethodName) ({ cls := "TapestryScene", name := "nodeOrNull", desc := "(I)LTapestryScene$Node;" } : Jvm.MethodName)) ∈ WA := wIn 0 (by decide +kernel) (by decide +kernel)
theorem kw11 : (Jvm.Cond.selects "TapestryScene" ({ cls := "TapestryScene", name := "found", desc := "(I)LTapestryScene$Node;" } : Jvm.MethodName) ({ cls := "TapestryScene", name := "found", desc := "(I)LTapestryScene$Node;" } : Jvm.MethodName)) ∈ WA := wIn 11 (by decide +kernel) (by decide +kernel)
theorem kw12 : (Jvm.Cond.selects "TapestryScene" ({ cls := "TapestryScene", name := "layOrder", desc := "()V" } : Jvm.MethodName) ({ cls := "TapestryScene", name := "layOrder", desc := "()V" } : Jvm.MethodName)) ∈ WA := wIn 12 (by decide +kernel) (by decide +kernel)
theorem kw13 : (Jvm.Cond.selects "TapestryScene" ({ cls := "TapestryScene", name := "lay", desc := "(LTapestryScene$Node;I)V" } : Jvm.MethodName) ({ cls := "TapestryScene", name := "lay", desc := "(LTapestryScene$Node;I)V" } : Jvm.MethodName)) ∈ WA := wIn 13 (by decide +kernel) (by decide +kernel)
theorem kw14 : (Jvm.Cond.selects "TapestryScene" ({ cls := "TapestryScene", name := "layHanging", desc := "(LTapestryScene$Node;III)V" } : Jvm.MethodName) ({ cls := "TapestryScene", name := "layHanging", desc := "(LTapestryScene$Node;III)V" } : Jvm.MethodName)) ∈ WA := wIn 14 (by decide +kernel) (by decide +kernel)
theorem kw54 : (Jvm.Cond.initialized "TapestryScene") ∈ WA := wIn 54 (by decide +kernel) (by decide +kernel)
theorem kw55 : (Jvm.Cond.initialized "TapestryScene$Node") ∈ WA := wIn 55 (by decide +kernel) (by decide +kernel)
theorem kw56 : (Jvm.Cond.initialized "TapestryScene$Property") ∈ WA := wIn 56 (by decide +kernel) (by decide +kernel)
theorem kw57 : (Jvm.Cond.initialized "TapestryScene$Frame") ∈ WA := wIn 57 (by decide +kernel) (by decide +kernel)
theorem kw77 : (Jvm.Cond.instanceMethod ({ cls := "java/lang/Object", name := "<init>", desc := "()V" } : Jvm.MethodName)) ∈ WA := wIn 77 (by decide +kernel) (by decide +kernel)
theorem kw78 : (Jvm.Cond.code ({ cls := "java/lang/Object", name := "<init>", desc := "()V" } : Jvm.MethodName) object_method_1_code (1 : Nat) (Option.none : Option Jvm.ClassFile.FieldType)) ∈ WA := wIn 78 (by decide +kernel) (by decide +kernel)
theorem kw79 : (Jvm.Cond.classLink "TapestryScene" (9 : Nat) "TapestryScene$Node") ∈ WA := wIn 79 (by decide +kernel) (by decide +kernel)
theorem kw83 : (Jvm.Cond.instantiable "TapestryScene$Node" (19 : Nat)) ∈ WA := wIn 83 (by decide +kernel) (by decide +kernel)
theorem kw84 : (Jvm.Cond.methodLink "TapestryScene" (21 : Nat) ({ cls := "TapestryScene$Node", name := "<init>", desc := "(IIII)V" } : Jvm.MethodName)) ∈ WA := wIn 84 (by decide +kernel) (by decide +kernel)
theorem kw85 : (Jvm.Cond.instanceMethod ({ cls := "TapestryScene$Node", name := "<init>", desc := "(IIII)V" } : Jvm.MethodName)) ∈ WA := wIn 85 (by decide +kernel) (by decide +kernel)
theorem kw86 : (Jvm.Cond.code ({ cls := "TapestryScene$Node", name := "<init>", desc := "(IIII)V" } : Jvm.MethodName) prog_6_method_1_code (5 : Nat) (Option.none : Option Jvm.ClassFile.FieldType)) ∈ WA := wIn 86 (by decide +kernel) (by decide +kernel)
theorem kw87 : (Jvm.Cond.methodLink "TapestryScene$Node" (3 : Nat) ({ cls := "java/lang/Object", name := "<init>", desc := "()V" } : Jvm.MethodName)) ∈ WA := wIn 87 (by decide +kernel) (by decide +kernel)
theorem kw88 : (Jvm.Cond.classLink "TapestryScene$Node" (9 : Nat) "TapestryScene$Property") ∈ WA := wIn 88 (by decide +kernel) (by decide +kernel)
theorem kw89 : (Jvm.Cond.instantiable "TapestryScene$Property" (9 : Nat)) ∈ WA := wIn 89 (by decide +kernel) (by decide +kernel)
theorem kw90 : (Jvm.Cond.methodLink "TapestryScene$Node" (11 : Nat) ({ cls := "TapestryScene$Property", name := "<init>", desc := "(III)V" } : Jvm.MethodName)) ∈ WA := wIn 90 (by decide +kernel) (by decide +kernel)
theorem kw91 : (Jvm.Cond.instanceMethod ({ cls := "TapestryScene$Property", name := "<init>", desc := "(III)V" } : Jvm.MethodName)) ∈ WA := wIn 91 (by decide +kernel) (by decide +kernel)
theorem kw92 : (Jvm.Cond.code ({ cls := "TapestryScene$Property", name := "<init>", desc := "(III)V" } : Jvm.MethodName) prog_8_method_1_code (4 : Nat) (Option.none : Option Jvm.ClassFile.FieldType)) ∈ WA := wIn 92 (by decide +kernel) (by decide +kernel)
theorem kw93 : (Jvm.Cond.methodLink "TapestryScene$Property" (3 : Nat) ({ cls := "java/lang/Object", name := "<init>", desc := "()V" } : Jvm.MethodName)) ∈ WA := wIn 93 (by decide +kernel) (by decide +kernel)
theorem kw94 : (Jvm.Cond.fieldLink "TapestryScene$Property" (15 : Nat) "TapestryScene$Property" "least" "I") ∈ WA := wIn 94 (by decide +kernel) (by decide +kernel)
theorem kw95 : (Jvm.Cond.fieldLink "TapestryScene$Property" (18 : Nat) "TapestryScene$Property" "most" "I") ∈ WA := wIn 95 (by decide +kernel) (by decide +kernel)
theorem kw96 : (Jvm.Cond.fieldLink "TapestryScene$Property" (9 : Nat) "TapestryScene$Property" "own" "I") ∈ WA := wIn 96 (by decide +kernel) (by decide +kernel)
theorem kw127 : (Jvm.Cond.classLink "TapestryScene$Node" (42 : Nat) "TapestryScene$Frame") ∈ WA := wIn 127 (by decide +kernel) (by decide +kernel)
theorem kw128 : (Jvm.Cond.instantiable "TapestryScene$Frame" (4 : Nat)) ∈ WA := wIn 128 (by decide +kernel) (by decide +kernel)
theorem kw129 : (Jvm.Cond.methodLink "TapestryScene$Node" (44 : Nat) ({ cls := "TapestryScene$Frame", name := "<init>", desc := "(IIII)V" } : Jvm.MethodName)) ∈ WA := wIn 129 (by decide +kernel) (by decide +kernel)
theorem kw130 : (Jvm.Cond.instanceMethod ({ cls := "TapestryScene$Frame", name := "<init>", desc := "(IIII)V" } : Jvm.MethodName)) ∈ WA := wIn 130 (by decide +kernel) (by decide +kernel)
theorem kw131 : (Jvm.Cond.code ({ cls := "TapestryScene$Frame", name := "<init>", desc := "(IIII)V" } : Jvm.MethodName) prog_4_method_1_code (5 : Nat) (Option.none : Option Jvm.ClassFile.FieldType)) ∈ WA := wIn 131 (by decide +kernel) (by decide +kernel)
theorem kw132 : (Jvm.Cond.methodLink "TapestryScene$Frame" (1 : Nat) ({ cls := "java/lang/Object", name := "<init>", desc := "()V" } : Jvm.MethodName)) ∈ WA := wIn 132 (by decide +kernel) (by decide +kernel)
theorem kw133 : (Jvm.Cond.fieldLink "TapestryScene$Frame" (7 : Nat) "TapestryScene$Frame" "left" "I") ∈ WA := wIn 133 (by decide +kernel) (by decide +kernel)
theorem kw135 : (Jvm.Cond.fieldLink "TapestryScene$Frame" (13 : Nat) "TapestryScene$Frame" "top" "I") ∈ WA := wIn 135 (by decide +kernel) (by decide +kernel)
theorem kw137 : (Jvm.Cond.fieldLink "TapestryScene$Frame" (16 : Nat) "TapestryScene$Frame" "right" "I") ∈ WA := wIn 137 (by decide +kernel) (by decide +kernel)
theorem kw139 : (Jvm.Cond.fieldLink "TapestryScene$Frame" (19 : Nat) "TapestryScene$Frame" "bottom" "I") ∈ WA := wIn 139 (by decide +kernel) (by decide +kernel)
theorem kw150 : (Jvm.Cond.fieldLink "TapestryScene$Node" (36 : Nat) "TapestryScene$Node" "number" "I") ∈ WA := wIn 150 (by decide +kernel) (by decide +kernel)
theorem kw151 : (Jvm.Cond.fieldLink "TapestryScene" (85 : Nat) "TapestryScene$Node" "number" "I") ∈ WA := wIn 151 (by decide +kernel) (by decide +kernel)
theorem kw152 : (Jvm.Cond.fieldLink "TapestryScene$Node" (39 : Nat) "TapestryScene$Node" "kind" "I") ∈ WA := wIn 152 (by decide +kernel) (by decide +kernel)
theorem kw154 : (Jvm.Cond.fieldLink "TapestryScene$Node" (47 : Nat) "TapestryScene$Node" "frame" "LTapestryScene$Frame;") ∈ WA := wIn 154 (by decide +kernel) (by decide +kernel)
theorem kw156 : (Jvm.Cond.fieldLink "TapestryScene$Node" (14 : Nat) "TapestryScene$Node" "x" "LTapestryScene$Property;") ∈ WA := wIn 156 (by decide +kernel) (by decide +kernel)
theorem kw159 : (Jvm.Cond.fieldLink "TapestryScene$Node" (20 : Nat) "TapestryScene$Node" "y" "LTapestryScene$Property;") ∈ WA := wIn 159 (by decide +kernel) (by decide +kernel)
theorem kw162 : (Jvm.Cond.fieldLink "TapestryScene$Node" (23 : Nat) "TapestryScene$Node" "turns" "LTapestryScene$Property;") ∈ WA := wIn 162 (by decide +kernel) (by decide +kernel)
theorem kw165 : (Jvm.Cond.fieldLink "TapestryScene$Node" (26 : Nat) "TapestryScene$Node" "opacity" "LTapestryScene$Property;") ∈ WA := wIn 165 (by decide +kernel) (by decide +kernel)
theorem kw167 : (Jvm.Cond.fieldLink "TapestryScene$Node" (29 : Nat) "TapestryScene$Node" "over" "I") ∈ WA := wIn 167 (by decide +kernel) (by decide +kernel)
theorem kw170 : (Jvm.Cond.fieldLink "TapestryScene$Node" (33 : Nat) "TapestryScene$Node" "under" "I") ∈ WA := wIn 170 (by decide +kernel) (by decide +kernel)
theorem kw175 : (Jvm.Cond.fieldLink "TapestryScene" (153 : Nat) "TapestryScene$Node" "layer" "I") ∈ WA := wIn 175 (by decide +kernel) (by decide +kernel)
theorem kw181 : (Jvm.Cond.fieldLink "TapestryScene" (340 : Nat) "TapestryScene$Node" "isGone" "Z") ∈ WA := wIn 181 (by decide +kernel) (by decide +kernel)
theorem kw182 : (Jvm.Cond.fieldLink "TapestryScene$Node" (51 : Nat) "TapestryScene$Node" "parent" "LTapestryScene$Node;") ∈ WA := wIn 182 (by decide +kernel) (by decide +kernel)
theorem kw184 : (Jvm.Cond.fieldLink "TapestryScene$Node" (55 : Nat) "TapestryScene$Node" "firstHanging" "LTapestryScene$Node;") ∈ WA := wIn 184 (by decide +kernel) (by decide +kernel)
theorem kw185 : (Jvm.Cond.fieldLink "TapestryScene" (370 : Nat) "TapestryScene$Node" "firstHanging" "LTapestryScene$Node;") ∈ WA := wIn 185 (by decide +kernel) (by decide +kernel)
theorem kw186 : (Jvm.Cond.fieldLink "TapestryScene$Node" (58 : Nat) "TapestryScene$Node" "nextHanging" "LTapestryScene$Node;") ∈ WA := wIn 186 (by decide +kernel) (by decide +kernel)
theorem kw187 : (Jvm.Cond.fieldLink "TapestryScene" (373 : Nat) "TapestryScene$Node" "nextHanging" "LTapestryScene$Node;") ∈ WA := wIn 187 (by decide +kernel) (by decide +kernel)
theorem kw188 : (Jvm.Cond.fieldLink "TapestryScene" (98 : Nat) "TapestryScene$Node" "before" "LTapestryScene$Node;") ∈ WA := wIn 188 (by decide +kernel) (by decide +kernel)
theorem kw189 : (Jvm.Cond.fieldLink "TapestryScene" (287 : Nat) "TapestryScene$Node" "place" "I") ∈ WA := wIn 189 (by decide +kernel) (by decide +kernel)
theorem kw289 : (Jvm.Cond.fieldLink "TapestryScene" (11 : Nat) "TapestryScene" "nodes" "[LTapestryScene$Node;") ∈ WA := wIn 289 (by decide +kernel) (by decide +kernel)
theorem kw291 : (Jvm.Cond.fieldLink "TapestryScene" (24 : Nat) "TapestryScene" "whole" "LTapestryScene$Node;") ∈ WA := wIn 291 (by decide +kernel) (by decide +kernel)
theorem kw294 : (Jvm.Cond.fieldLink "TapestryScene" (42 : Nat) "TapestryScene" "added" "I") ∈ WA := wIn 294 (by decide +kernel) (by decide +kernel)
theorem kw297 : (Jvm.Cond.fieldLink "TapestryScene" (46 : Nat) "TapestryScene" "last" "LTapestryScene$Node;") ∈ WA := wIn 297 (by decide +kernel) (by decide +kernel)
theorem kw298 : (Jvm.Cond.fieldLink "TapestryScene" (49 : Nat) "TapestryScene" "ordered" "I") ∈ WA := wIn 298 (by decide +kernel) (by decide +kernel)
theorem kw350 : (Jvm.Cond.methodLink "TapestryScene" (330 : Nat) ({ cls := "TapestryScene", name := "nodeOrNull", desc := "(I)LTapestryScene$Node;" } : Jvm.MethodName)) ∈ WA := wIn 350 (by decide +kernel) (by decide +kernel)
theorem kw352 : (Jvm.Cond.instanceMethod ({ cls := "TapestryScene", name := "nodeOrNull", desc := "(I)LTapestryScene$Node;" } : Jvm.MethodName)) ∈ WA := wIn 352 (by decide +kernel) (by decide +kernel)
theorem kw353 : (Jvm.Cond.code ({ cls := "TapestryScene", name := "nodeOrNull", desc := "(I)LTapestryScene$Node;" } : Jvm.MethodName) prog_1_method_40_code (3 : Nat) (Option.some (Jvm.ClassFile.FieldType.object "TapestryScene$Node"))) ∈ WA := wIn 353 (by decide +kernel) (by decide +kernel)
theorem kw361 : (Jvm.Cond.methodLink "TapestryScene" (69 : Nat) ({ cls := "TapestryScene$Node", name := "depth", desc := "()I" } : Jvm.MethodName)) ∈ WA := wIn 361 (by decide +kernel) (by decide +kernel)
theorem kw362 : (Jvm.Cond.instanceMethod ({ cls := "TapestryScene$Node", name := "depth", desc := "()I" } : Jvm.MethodName)) ∈ WA := wIn 362 (by decide +kernel) (by decide +kernel)
theorem kw363 : (Jvm.Cond.selects "TapestryScene$Node" ({ cls := "TapestryScene$Node", name := "depth", desc := "()I" } : Jvm.MethodName) ({ cls := "TapestryScene$Node", name := "depth", desc := "()I" } : Jvm.MethodName)) ∈ WA := wIn 363 (by decide +kernel) (by decide +kernel)
theorem kw364 : (Jvm.Cond.code ({ cls := "TapestryScene$Node", name := "depth", desc := "()I" } : Jvm.MethodName) prog_6_method_3_code (3 : Nat) (Option.some Jvm.ClassFile.FieldType.int)) ∈ WA := wIn 364 (by decide +kernel) (by decide +kernel)
theorem kw485 : (Jvm.Cond.methodLink "TapestryScene" (56 : Nat) ({ cls := "TapestryScene", name := "isFrom", desc := "(III)Z" } : Jvm.MethodName)) ∈ WA := wIn 485 (by decide +kernel) (by decide +kernel)
theorem kw486 : (Jvm.Cond.static ({ cls := "TapestryScene", name := "isFrom", desc := "(III)Z" } : Jvm.MethodName)) ∈ WA := wIn 486 (by decide +kernel) (by decide +kernel)
theorem kw487 : (Jvm.Cond.code ({ cls := "TapestryScene", name := "isFrom", desc := "(III)Z" } : Jvm.MethodName) prog_1_method_44_code (3 : Nat) (Option.some Jvm.ClassFile.FieldType.boolean)) ∈ WA := wIn 487 (by decide +kernel) (by decide +kernel)
theorem kw575 : (Jvm.Cond.methodLink "TapestryScene" (52 : Nat) ({ cls := "TapestryScene", name := "found", desc := "(I)LTapestryScene$Node;" } : Jvm.MethodName)) ∈ WA := wIn 575 (by decide +kernel) (by decide +kernel)
theorem kw577 : (Jvm.Cond.instanceMethod ({ cls := "TapestryScene", name := "found", desc := "(I)LTapestryScene$Node;" } : Jvm.MethodName)) ∈ WA := wIn 577 (by decide +kernel) (by decide +kernel)
theorem kw578 : (Jvm.Cond.code ({ cls := "TapestryScene", name := "found", desc := "(I)LTapestryScene$Node;" } : Jvm.MethodName) prog_1_method_41_code (3 : Nat) (Option.some (Jvm.ClassFile.FieldType.object "TapestryScene$Node"))) ∈ WA := wIn 578 (by decide +kernel) (by decide +kernel)
theorem kw613 : (Jvm.Cond.methodLink "TapestryScene" (78 : Nat) ({ cls := "TapestryScene$Node", name := "takeIn", desc := "(LTapestryScene$Node;)V" } : Jvm.MethodName)) ∈ WA := wIn 613 (by decide +kernel) (by decide +kernel)
theorem kw614 : (Jvm.Cond.instanceMethod ({ cls := "TapestryScene$Node", name := "takeIn", desc := "(LTapestryScene$Node;)V" } : Jvm.MethodName)) ∈ WA := wIn 614 (by decide +kernel) (by decide +kernel)
theorem kw615 : (Jvm.Cond.selects "TapestryScene$Node" ({ cls := "TapestryScene$Node", name := "takeIn", desc := "(LTapestryScene$Node;)V" } : Jvm.MethodName) ({ cls := "TapestryScene$Node", name := "takeIn", desc := "(LTapestryScene$Node;)V" } : Jvm.MethodName)) ∈ WA := wIn 615 (by decide +kernel) (by decide +kernel)
theorem kw616 : (Jvm.Cond.code ({ cls := "TapestryScene$Node", name := "takeIn", desc := "(LTapestryScene$Node;)V" } : Jvm.MethodName) prog_6_method_5_code (4 : Nat) (Option.none : Option Jvm.ClassFile.FieldType)) ∈ WA := wIn 616 (by decide +kernel) (by decide +kernel)
theorem kw617 : (Jvm.Cond.methodLink "TapestryScene" (82 : Nat) ({ cls := "TapestryScene", name := "layOrder", desc := "()V" } : Jvm.MethodName)) ∈ WA := wIn 617 (by decide +kernel) (by decide +kernel)
theorem kw619 : (Jvm.Cond.instanceMethod ({ cls := "TapestryScene", name := "layOrder", desc := "()V" } : Jvm.MethodName)) ∈ WA := wIn 619 (by decide +kernel) (by decide +kernel)
theorem kw620 : (Jvm.Cond.code ({ cls := "TapestryScene", name := "layOrder", desc := "()V" } : Jvm.MethodName) prog_1_method_50_code (1 : Nat) (Option.none : Option Jvm.ClassFile.FieldType)) ∈ WA := wIn 620 (by decide +kernel) (by decide +kernel)
theorem kw621 : (Jvm.Cond.methodLink "TapestryScene" (362 : Nat) ({ cls := "TapestryScene", name := "lay", desc := "(LTapestryScene$Node;I)V" } : Jvm.MethodName)) ∈ WA := wIn 621 (by decide +kernel) (by decide +kernel)
theorem kw623 : (Jvm.Cond.instanceMethod ({ cls := "TapestryScene", name := "lay", desc := "(LTapestryScene$Node;I)V" } : Jvm.MethodName)) ∈ WA := wIn 623 (by decide +kernel) (by decide +kernel)
theorem kw624 : (Jvm.Cond.code ({ cls := "TapestryScene", name := "lay", desc := "(LTapestryScene$Node;I)V" } : Jvm.MethodName) prog_1_method_51_code (3 : Nat) (Option.none : Option Jvm.ClassFile.FieldType)) ∈ WA := wIn 624 (by decide +kernel) (by decide +kernel)
theorem kw625 : (Jvm.Cond.methodLink "TapestryScene" (366 : Nat) ({ cls := "TapestryScene", name := "layHanging", desc := "(LTapestryScene$Node;III)V" } : Jvm.MethodName)) ∈ WA := wIn 625 (by decide +kernel) (by decide +kernel)
theorem kw627 : (Jvm.Cond.instanceMethod ({ cls := "TapestryScene", name := "layHanging", desc := "(LTapestryScene$Node;III)V" } : Jvm.MethodName)) ∈ WA := wIn 627 (by decide +kernel) (by decide +kernel)
theorem kw628 : (Jvm.Cond.code ({ cls := "TapestryScene", name := "layHanging", desc := "(LTapestryScene$Node;III)V" } : Jvm.MethodName) prog_1_method_52_code (7 : Nat) (Option.none : Option Jvm.ClassFile.FieldType)) ∈ WA := wIn 628 (by decide +kernel) (by decide +kernel)
theorem th_RX7_290_294_0 : TH RX7 290 294 0 := ⟨by decide +kernel, by decide +kernel, by decide +kernel, by decide +kernel, by decide +kernel⟩
theorem th_RX7_60_64_1 : TH RX7 60 64 1 := ⟨by decide +kernel, by decide +kernel, by decide +kernel, by decide +kernel, by decide +kernel⟩
theorem th_RX7_73_77_2 : TH RX7 73 77 2 := ⟨by decide +kernel, by decide +kernel, by decide +kernel, by decide +kernel, by decide +kernel⟩
theorem st_RX7_343 : ("TapestryScene", 343, "no such node, or it is gone") ∈ fStr := by decide +kernel
theorem st_RX7_62 : ("TapestryScene", 62, "no such kind") ∈ fStr := by decide +kernel
theorem st_RX7_67 : ("TapestryScene", 67, "width or height is not 1 to 200") ∈ fStr := by decide +kernel
theorem st_RX7_75 : ("TapestryScene", 75, "30 nodes were added, or the parent is too deep") ∈ fStr := by decide +kernel
theorem dX4_depth_0 : decode cX4_depth 0 = .ok (.iconst 0, 1) := by decide +kernel
theorem dX4_depth_1 : decode cX4_depth 1 = .ok (.istore_n 1, 1) := by decide +kernel
theorem dX4_depth_2 : decode cX4_depth 2 = .ok (.aload_n 0, 1) := by decide +kernel
theorem dX4_depth_3 : decode cX4_depth 3 = .ok (.getfield 51, 3) := by decide +kernel
theorem dX4_depth_6 : decode cX4_depth 6 = .ok (.astore_n 2, 1) := by decide +kernel
theorem dX4_depth_7 : decode cX4_depth 7 = .ok (.aload_n 2, 1) := by decide +kernel
theorem dX4_depth_8 : decode cX4_depth 8 = .ok (.ifnull 14, 3) := by decide +kernel
theorem dX4_depth_11 : decode cX4_depth 11 = .ok (.iinc 1 1, 3) := by decide +kernel
theorem dX4_depth_14 : decode cX4_depth 14 = .ok (.aload_n 2, 1) := by decide +kernel
theorem dX4_depth_15 : decode cX4_depth 15 = .ok (.getfield 51, 3) := by decide +kernel
theorem dX4_depth_18 : decode cX4_depth 18 = .ok (.astore_n 2, 1) := by decide +kernel
theorem dX4_depth_19 : decode cX4_depth 19 = .ok (.goto (-12), 3) := by decide +kernel
theorem dX4_depth_22 : decode cX4_depth 22 = .ok (.iload_n 1, 1) := by decide +kernel
theorem dX4_depth_23 : decode cX4_depth 23 = .ok (.ireturn, 1) := by decide +kernel
theorem dX2_init_0 : decode cX2_init 0 = .ok (.aload_n 0, 1) := by decide +kernel
theorem dX2_init_1 : decode cX2_init 1 = .ok (.invokespecial 1, 3) := by decide +kernel
theorem dX2_init_4 : decode cX2_init 4 = .ok (.aload_n 0, 1) := by decide +kernel
theorem dX2_init_5 : decode cX2_init 5 = .ok (.iload_n 1, 1) := by decide +kernel
theorem dX2_init_6 : decode cX2_init 6 = .ok (.putfield 7, 3) := by decide +kernel
theorem dX2_init_9 : decode cX2_init 9 = .ok (.aload_n 0, 1) := by decide +kernel
theorem dX2_init_10 : decode cX2_init 10 = .ok (.iload_n 2, 1) := by decide +kernel
theorem dX2_init_11 : decode cX2_init 11 = .ok (.putfield 13, 3) := by decide +kernel
theorem dX2_init_14 : decode cX2_init 14 = .ok (.aload_n 0, 1) := by decide +kernel
theorem dX2_init_15 : decode cX2_init 15 = .ok (.iload_n 3, 1) := by decide +kernel
theorem dX2_init_16 : decode cX2_init 16 = .ok (.putfield 16, 3) := by decide +kernel
theorem dX2_init_19 : decode cX2_init 19 = .ok (.aload_n 0, 1) := by decide +kernel
theorem dX2_init_20 : decode cX2_init 20 = .ok (.iload 4, 2) := by decide +kernel
theorem dX2_init_22 : decode cX2_init 22 = .ok (.putfield 19, 3) := by decide +kernel
theorem dX2_init_25 : decode cX2_init 25 = .ok (.return_, 1) := by decide +kernel
theorem dX6_init_0 : decode cX6_init 0 = .ok (.aload_n 0, 1) := by decide +kernel
theorem dX6_init_1 : decode cX6_init 1 = .ok (.invokespecial 3, 3) := by decide +kernel
theorem dX6_init_4 : decode cX6_init 4 = .ok (.aload_n 0, 1) := by decide +kernel
theorem dX6_init_5 : decode cX6_init 5 = .ok (.iload_n 1, 1) := by decide +kernel
theorem dX6_init_6 : decode cX6_init 6 = .ok (.putfield 9, 3) := by decide +kernel
theorem dX6_init_9 : decode cX6_init 9 = .ok (.aload_n 0, 1) := by decide +kernel
theorem dX6_init_10 : decode cX6_init 10 = .ok (.iload_n 2, 1) := by decide +kernel
theorem dX6_init_11 : decode cX6_init 11 = .ok (.putfield 15, 3) := by decide +kernel
theorem dX6_init_14 : decode cX6_init 14 = .ok (.aload_n 0, 1) := by decide +kernel
theorem dX6_init_15 : decode cX6_init 15 = .ok (.iload_n 3, 1) := by decide +kernel
theorem dX6_init_16 : decode cX6_init 16 = .ok (.putfield 18, 3) := by decide +kernel
theorem dX6_init_19 : decode cX6_init 19 = .ok (.return_, 1) := by decide +kernel
theorem dX4_init_0 : decode cX4_init 0 = .ok (.aload_n 0, 1) := by decide +kernel
theorem dX4_init_1 : decode cX4_init 1 = .ok (.invokespecial 3, 3) := by decide +kernel
theorem dX4_init_4 : decode cX4_init 4 = .ok (.aload_n 0, 1) := by decide +kernel
theorem dX4_init_5 : decode cX4_init 5 = .ok (.new 9, 3) := by decide +kernel
theorem dX4_init_8 : decode cX4_init 8 = .ok (.dup, 1) := by decide +kernel
theorem dX4_init_9 : decode cX4_init 9 = .ok (.iconst 0, 1) := by decide +kernel
theorem dX4_init_10 : decode cX4_init 10 = .ok (.sipush (-200), 3) := by decide +kernel
theorem dX4_init_13 : decode cX4_init 13 = .ok (.sipush 200, 3) := by decide +kernel
theorem dX4_init_16 : decode cX4_init 16 = .ok (.invokespecial 11, 3) := by decide +kernel
theorem dX4_init_19 : decode cX4_init 19 = .ok (.putfield 14, 3) := by decide +kernel
theorem dX4_init_22 : decode cX4_init 22 = .ok (.aload_n 0, 1) := by decide +kernel
theorem dX4_init_23 : decode cX4_init 23 = .ok (.new 9, 3) := by decide +kernel
theorem dX4_init_26 : decode cX4_init 26 = .ok (.dup, 1) := by decide +kernel
theorem dX4_init_27 : decode cX4_init 27 = .ok (.iconst 0, 1) := by decide +kernel
theorem dX4_init_28 : decode cX4_init 28 = .ok (.sipush (-200), 3) := by decide +kernel
theorem dX4_init_31 : decode cX4_init 31 = .ok (.sipush 200, 3) := by decide +kernel
theorem dX4_init_34 : decode cX4_init 34 = .ok (.invokespecial 11, 3) := by decide +kernel
theorem dX4_init_37 : decode cX4_init 37 = .ok (.putfield 20, 3) := by decide +kernel
theorem dX4_init_40 : decode cX4_init 40 = .ok (.aload_n 0, 1) := by decide +kernel
theorem dX4_init_41 : decode cX4_init 41 = .ok (.new 9, 3) := by decide +kernel
theorem dX4_init_44 : decode cX4_init 44 = .ok (.dup, 1) := by decide +kernel
theorem dX4_init_45 : decode cX4_init 45 = .ok (.iconst 0, 1) := by decide +kernel
theorem dX4_init_46 : decode cX4_init 46 = .ok (.iconst 0, 1) := by decide +kernel
theorem dX4_init_47 : decode cX4_init 47 = .ok (.iconst 3, 1) := by decide +kernel
theorem dX4_init_48 : decode cX4_init 48 = .ok (.invokespecial 11, 3) := by decide +kernel
theorem dX4_init_51 : decode cX4_init 51 = .ok (.putfield 23, 3) := by decide +kernel
theorem dX4_init_54 : decode cX4_init 54 = .ok (.aload_n 0, 1) := by decide +kernel
theorem dX4_init_55 : decode cX4_init 55 = .ok (.new 9, 3) := by decide +kernel
theorem dX4_init_58 : decode cX4_init 58 = .ok (.dup, 1) := by decide +kernel
theorem dX4_init_59 : decode cX4_init 59 = .ok (.bipush 100, 2) := by decide +kernel
theorem dX4_init_61 : decode cX4_init 61 = .ok (.iconst 0, 1) := by decide +kernel
theorem dX4_init_62 : decode cX4_init 62 = .ok (.bipush 100, 2) := by decide +kernel
theorem dX4_init_64 : decode cX4_init 64 = .ok (.invokespecial 11, 3) := by decide +kernel
theorem dX4_init_67 : decode cX4_init 67 = .ok (.putfield 26, 3) := by decide +kernel
theorem dX4_init_70 : decode cX4_init 70 = .ok (.aload_n 0, 1) := by decide +kernel
theorem dX4_init_71 : decode cX4_init 71 = .ok (.iconst 1, 1) := by decide +kernel
theorem dX4_init_72 : decode cX4_init 72 = .ok (.putfield 29, 3) := by decide +kernel
theorem dX4_init_75 : decode cX4_init 75 = .ok (.aload_n 0, 1) := by decide +kernel
theorem dX4_init_76 : decode cX4_init 76 = .ok (.iconst 1, 1) := by decide +kernel
theorem dX4_init_77 : decode cX4_init 77 = .ok (.putfield 33, 3) := by decide +kernel
theorem dX4_init_80 : decode cX4_init 80 = .ok (.aload_n 0, 1) := by decide +kernel
theorem dX4_init_81 : decode cX4_init 81 = .ok (.iload_n 1, 1) := by decide +kernel
theorem dX4_init_82 : decode cX4_init 82 = .ok (.putfield 36, 3) := by decide +kernel
theorem dX4_init_85 : decode cX4_init 85 = .ok (.aload_n 0, 1) := by decide +kernel
theorem dX4_init_86 : decode cX4_init 86 = .ok (.iload_n 2, 1) := by decide +kernel
theorem dX4_init_87 : decode cX4_init 87 = .ok (.putfield 39, 3) := by decide +kernel
theorem dX4_init_90 : decode cX4_init 90 = .ok (.aload_n 0, 1) := by decide +kernel
theorem dX4_init_91 : decode cX4_init 91 = .ok (.new 42, 3) := by decide +kernel
theorem dX4_init_94 : decode cX4_init 94 = .ok (.dup, 1) := by decide +kernel
theorem dX4_init_95 : decode cX4_init 95 = .ok (.iconst 0, 1) := by decide +kernel
theorem dX4_init_96 : decode cX4_init 96 = .ok (.iconst 0, 1) := by decide +kernel
theorem dX4_init_97 : decode cX4_init 97 = .ok (.iload_n 3, 1) := by decide +kernel
theorem dX4_init_98 : decode cX4_init 98 = .ok (.iload 4, 2) := by decide +kernel
theorem dX4_init_100 : decode cX4_init 100 = .ok (.invokespecial 44, 3) := by decide +kernel
theorem dX4_init_103 : decode cX4_init 103 = .ok (.putfield 47, 3) := by decide +kernel
theorem dX4_init_106 : decode cX4_init 106 = .ok (.return_, 1) := by decide +kernel
theorem dX4_takeIn_0 : decode cX4_takeIn 0 = .ok (.aconst_null, 1) := by decide +kernel
theorem dX4_takeIn_1 : decode cX4_takeIn 1 = .ok (.astore_n 2, 1) := by decide +kernel
theorem dX4_takeIn_2 : decode cX4_takeIn 2 = .ok (.aload_n 0, 1) := by decide +kernel
theorem dX4_takeIn_3 : decode cX4_takeIn 3 = .ok (.getfield 55, 3) := by decide +kernel
theorem dX4_takeIn_6 : decode cX4_takeIn 6 = .ok (.astore_n 3, 1) := by decide +kernel
theorem dX4_takeIn_7 : decode cX4_takeIn 7 = .ok (.aload_n 3, 1) := by decide +kernel
theorem dX4_takeIn_8 : decode cX4_takeIn 8 = .ok (.ifnull 13, 3) := by decide +kernel
theorem dX4_takeIn_11 : decode cX4_takeIn 11 = .ok (.aload_n 3, 1) := by decide +kernel
theorem dX4_takeIn_12 : decode cX4_takeIn 12 = .ok (.astore_n 2, 1) := by decide +kernel
theorem dX4_takeIn_13 : decode cX4_takeIn 13 = .ok (.aload_n 3, 1) := by decide +kernel
theorem dX4_takeIn_14 : decode cX4_takeIn 14 = .ok (.getfield 58, 3) := by decide +kernel
theorem dX4_takeIn_17 : decode cX4_takeIn 17 = .ok (.astore_n 3, 1) := by decide +kernel
theorem dX4_takeIn_18 : decode cX4_takeIn 18 = .ok (.goto (-11), 3) := by decide +kernel
theorem dX4_takeIn_21 : decode cX4_takeIn 21 = .ok (.aload_n 2, 1) := by decide +kernel
theorem dX4_takeIn_22 : decode cX4_takeIn 22 = .ok (.ifnonnull 11, 3) := by decide +kernel
theorem dX4_takeIn_25 : decode cX4_takeIn 25 = .ok (.aload_n 0, 1) := by decide +kernel
theorem dX4_takeIn_26 : decode cX4_takeIn 26 = .ok (.aload_n 1, 1) := by decide +kernel
theorem dX4_takeIn_27 : decode cX4_takeIn 27 = .ok (.putfield 55, 3) := by decide +kernel
theorem dX4_takeIn_30 : decode cX4_takeIn 30 = .ok (.goto 8, 3) := by decide +kernel
theorem dX4_takeIn_33 : decode cX4_takeIn 33 = .ok (.aload_n 2, 1) := by decide +kernel
theorem dX4_takeIn_34 : decode cX4_takeIn 34 = .ok (.aload_n 1, 1) := by decide +kernel
theorem dX4_takeIn_35 : decode cX4_takeIn 35 = .ok (.putfield 58, 3) := by decide +kernel
theorem dX4_takeIn_38 : decode cX4_takeIn 38 = .ok (.aload_n 1, 1) := by decide +kernel
theorem dX4_takeIn_39 : decode cX4_takeIn 39 = .ok (.aconst_null, 1) := by decide +kernel
theorem dX4_takeIn_40 : decode cX4_takeIn 40 = .ok (.putfield 58, 3) := by decide +kernel
theorem dX4_takeIn_43 : decode cX4_takeIn 43 = .ok (.aload_n 1, 1) := by decide +kernel
theorem dX4_takeIn_44 : decode cX4_takeIn 44 = .ok (.aload_n 0, 1) := by decide +kernel
theorem dX4_takeIn_45 : decode cX4_takeIn 45 = .ok (.putfield 51, 3) := by decide +kernel
theorem dX4_takeIn_48 : decode cX4_takeIn 48 = .ok (.return_, 1) := by decide +kernel
theorem dX7_nodeOrNull_0 : decode cX7_nodeOrNull 0 = .ok (.iload_n 1, 1) := by decide +kernel
theorem dX7_nodeOrNull_1 : decode cX7_nodeOrNull 1 = .ok (.ifCond .lt 12, 3) := by decide +kernel
theorem dX7_nodeOrNull_4 : decode cX7_nodeOrNull 4 = .ok (.iload_n 1, 1) := by decide +kernel
theorem dX7_nodeOrNull_5 : decode cX7_nodeOrNull 5 = .ok (.aload_n 0, 1) := by decide +kernel
theorem dX7_nodeOrNull_6 : decode cX7_nodeOrNull 6 = .ok (.getfield 11, 3) := by decide +kernel
theorem dX7_nodeOrNull_9 : decode cX7_nodeOrNull 9 = .ok (.arraylength, 1) := by decide +kernel
theorem dX7_nodeOrNull_10 : decode cX7_nodeOrNull 10 = .ok (.if_icmp .lt 5, 3) := by decide +kernel
theorem dX7_nodeOrNull_13 : decode cX7_nodeOrNull 13 = .ok (.aconst_null, 1) := by decide +kernel
theorem dX7_nodeOrNull_14 : decode cX7_nodeOrNull 14 = .ok (.areturn, 1) := by decide +kernel
theorem dX7_nodeOrNull_15 : decode cX7_nodeOrNull 15 = .ok (.aload_n 0, 1) := by decide +kernel
theorem dX7_nodeOrNull_16 : decode cX7_nodeOrNull 16 = .ok (.getfield 11, 3) := by decide +kernel
theorem dX7_nodeOrNull_19 : decode cX7_nodeOrNull 19 = .ok (.iload_n 1, 1) := by decide +kernel
theorem dX7_nodeOrNull_20 : decode cX7_nodeOrNull 20 = .ok (.aaload, 1) := by decide +kernel
theorem dX7_nodeOrNull_21 : decode cX7_nodeOrNull 21 = .ok (.astore_n 2, 1) := by decide +kernel
theorem dX7_nodeOrNull_22 : decode cX7_nodeOrNull 22 = .ok (.aload_n 2, 1) := by decide +kernel
theorem dX7_nodeOrNull_23 : decode cX7_nodeOrNull 23 = .ok (.ifnull 10, 3) := by decide +kernel
theorem dX7_nodeOrNull_26 : decode cX7_nodeOrNull 26 = .ok (.aload_n 2, 1) := by decide +kernel
theorem dX7_nodeOrNull_27 : decode cX7_nodeOrNull 27 = .ok (.getfield 340, 3) := by decide +kernel
theorem dX7_nodeOrNull_30 : decode cX7_nodeOrNull 30 = .ok (.ifCond .eq 7, 3) := by decide +kernel
theorem dX7_nodeOrNull_33 : decode cX7_nodeOrNull 33 = .ok (.aconst_null, 1) := by decide +kernel
theorem dX7_nodeOrNull_34 : decode cX7_nodeOrNull 34 = .ok (.goto 4, 3) := by decide +kernel
theorem dX7_nodeOrNull_37 : decode cX7_nodeOrNull 37 = .ok (.aload_n 2, 1) := by decide +kernel
theorem dX7_nodeOrNull_38 : decode cX7_nodeOrNull 38 = .ok (.areturn, 1) := by decide +kernel
theorem dX7_found_0 : decode cX7_found 0 = .ok (.aload_n 0, 1) := by decide +kernel
theorem dX7_found_1 : decode cX7_found 1 = .ok (.iload_n 1, 1) := by decide +kernel
theorem dX7_found_2 : decode cX7_found 2 = .ok (.invokevirtual 330, 3) := by decide +kernel
theorem dX7_found_5 : decode cX7_found 5 = .ok (.astore_n 2, 1) := by decide +kernel
theorem dX7_found_6 : decode cX7_found 6 = .ok (.aload_n 2, 1) := by decide +kernel
theorem dX7_found_7 : decode cX7_found 7 = .ok (.ifnonnull 14, 3) := by decide +kernel
theorem dX7_found_10 : decode cX7_found 10 = .ok (.new 290, 3) := by decide +kernel
theorem dX7_found_13 : decode cX7_found 13 = .ok (.dup, 1) := by decide +kernel
theorem dX7_found_14 : decode cX7_found 14 = .ok (.ldc_w 343, 3) := by decide +kernel
theorem dX7_found_17 : decode cX7_found 17 = .ok (.invokespecial 294, 3) := by decide +kernel
theorem dX7_found_20 : decode cX7_found 20 = .ok (.athrow, 1) := by decide +kernel
theorem dX7_found_21 : decode cX7_found 21 = .ok (.aload_n 2, 1) := by decide +kernel
theorem dX7_found_22 : decode cX7_found 22 = .ok (.areturn, 1) := by decide +kernel
theorem dX7_isFrom_0 : decode cX7_isFrom 0 = .ok (.iload_n 0, 1) := by decide +kernel
theorem dX7_isFrom_1 : decode cX7_isFrom 1 = .ok (.iload_n 1, 1) := by decide +kernel
theorem dX7_isFrom_2 : decode cX7_isFrom 2 = .ok (.if_icmp .lt 12, 3) := by decide +kernel
theorem dX7_isFrom_5 : decode cX7_isFrom 5 = .ok (.iload_n 0, 1) := by decide +kernel
theorem dX7_isFrom_6 : decode cX7_isFrom 6 = .ok (.iload_n 2, 1) := by decide +kernel
theorem dX7_isFrom_7 : decode cX7_isFrom 7 = .ok (.if_icmp .gt 7, 3) := by decide +kernel
theorem dX7_isFrom_10 : decode cX7_isFrom 10 = .ok (.iconst 1, 1) := by decide +kernel
theorem dX7_isFrom_11 : decode cX7_isFrom 11 = .ok (.goto 4, 3) := by decide +kernel
theorem dX7_isFrom_14 : decode cX7_isFrom 14 = .ok (.iconst 0, 1) := by decide +kernel
theorem dX7_isFrom_15 : decode cX7_isFrom 15 = .ok (.ireturn, 1) := by decide +kernel
theorem dX7_layHanging_0 : decode cX7_layHanging 0 = .ok (.iload_n 2, 1) := by decide +kernel
theorem dX7_layHanging_1 : decode cX7_layHanging 1 = .ok (.istore 5, 2) := by decide +kernel
theorem dX7_layHanging_3 : decode cX7_layHanging 3 = .ok (.iload 5, 2) := by decide +kernel
theorem dX7_layHanging_5 : decode cX7_layHanging 5 = .ok (.iload_n 3, 1) := by decide +kernel
theorem dX7_layHanging_6 : decode cX7_layHanging 6 = .ok (.if_icmp .gt 48, 3) := by decide +kernel
theorem dX7_layHanging_9 : decode cX7_layHanging 9 = .ok (.aload_n 1, 1) := by decide +kernel
theorem dX7_layHanging_10 : decode cX7_layHanging 10 = .ok (.getfield 370, 3) := by decide +kernel
theorem dX7_layHanging_13 : decode cX7_layHanging 13 = .ok (.astore 6, 2) := by decide +kernel
theorem dX7_layHanging_15 : decode cX7_layHanging 15 = .ok (.aload 6, 2) := by decide +kernel
theorem dX7_layHanging_17 : decode cX7_layHanging 17 = .ok (.ifnull 31, 3) := by decide +kernel
theorem dX7_layHanging_20 : decode cX7_layHanging 20 = .ok (.aload 6, 2) := by decide +kernel
theorem dX7_layHanging_22 : decode cX7_layHanging 22 = .ok (.getfield 153, 3) := by decide +kernel
theorem dX7_layHanging_25 : decode cX7_layHanging 25 = .ok (.iload 5, 2) := by decide +kernel
theorem dX7_layHanging_27 : decode cX7_layHanging 27 = .ok (.if_icmp .ne 11, 3) := by decide +kernel
theorem dX7_layHanging_30 : decode cX7_layHanging 30 = .ok (.aload_n 0, 1) := by decide +kernel
theorem dX7_layHanging_31 : decode cX7_layHanging 31 = .ok (.aload 6, 2) := by decide +kernel
theorem dX7_layHanging_33 : decode cX7_layHanging 33 = .ok (.iload 4, 2) := by decide +kernel
theorem dX7_layHanging_35 : decode cX7_layHanging 35 = .ok (.invokevirtual 362, 3) := by decide +kernel
theorem dX7_layHanging_38 : decode cX7_layHanging 38 = .ok (.aload 6, 2) := by decide +kernel
theorem dX7_layHanging_40 : decode cX7_layHanging 40 = .ok (.getfield 373, 3) := by decide +kernel
theorem dX7_layHanging_43 : decode cX7_layHanging 43 = .ok (.astore 6, 2) := by decide +kernel
theorem dX7_layHanging_45 : decode cX7_layHanging 45 = .ok (.goto (-30), 3) := by decide +kernel
theorem dX7_layHanging_48 : decode cX7_layHanging 48 = .ok (.iinc 5 1, 3) := by decide +kernel
theorem dX7_layHanging_51 : decode cX7_layHanging 51 = .ok (.goto (-48), 3) := by decide +kernel
theorem dX7_layHanging_54 : decode cX7_layHanging 54 = .ok (.return_, 1) := by decide +kernel
theorem dX7_lay_0 : decode cX7_lay 0 = .ok (.iload_n 2, 1) := by decide +kernel
theorem dX7_lay_1 : decode cX7_lay 1 = .ok (.iconst 4, 1) := by decide +kernel
theorem dX7_lay_2 : decode cX7_lay 2 = .ok (.if_icmp .le 4, 3) := by decide +kernel
theorem dX7_lay_5 : decode cX7_lay 5 = .ok (.return_, 1) := by decide +kernel
theorem dX7_lay_6 : decode cX7_lay 6 = .ok (.aload_n 0, 1) := by decide +kernel
theorem dX7_lay_7 : decode cX7_lay 7 = .ok (.aload_n 1, 1) := by decide +kernel
theorem dX7_lay_8 : decode cX7_lay 8 = .ok (.bipush (-9), 2) := by decide +kernel
theorem dX7_lay_10 : decode cX7_lay 10 = .ok (.iconst (-1), 1) := by decide +kernel
theorem dX7_lay_11 : decode cX7_lay 11 = .ok (.iload_n 2, 1) := by decide +kernel
theorem dX7_lay_12 : decode cX7_lay 12 = .ok (.iconst 1, 1) := by decide +kernel
theorem dX7_lay_13 : decode cX7_lay 13 = .ok (.iadd, 1) := by decide +kernel
theorem dX7_lay_14 : decode cX7_lay 14 = .ok (.invokevirtual 366, 3) := by decide +kernel
theorem dX7_lay_17 : decode cX7_lay 17 = .ok (.aload_n 1, 1) := by decide +kernel
theorem dX7_lay_18 : decode cX7_lay 18 = .ok (.aload_n 0, 1) := by decide +kernel
theorem dX7_lay_19 : decode cX7_lay 19 = .ok (.getfield 46, 3) := by decide +kernel
theorem dX7_lay_22 : decode cX7_lay 22 = .ok (.putfield 98, 3) := by decide +kernel
theorem dX7_lay_25 : decode cX7_lay 25 = .ok (.aload_n 1, 1) := by decide +kernel
theorem dX7_lay_26 : decode cX7_lay 26 = .ok (.aload_n 0, 1) := by decide +kernel
theorem dX7_lay_27 : decode cX7_lay 27 = .ok (.getfield 49, 3) := by decide +kernel
theorem dX7_lay_30 : decode cX7_lay 30 = .ok (.putfield 287, 3) := by decide +kernel
theorem dX7_lay_33 : decode cX7_lay 33 = .ok (.aload_n 0, 1) := by decide +kernel
theorem dX7_lay_34 : decode cX7_lay 34 = .ok (.aload_n 1, 1) := by decide +kernel
theorem dX7_lay_35 : decode cX7_lay 35 = .ok (.putfield 46, 3) := by decide +kernel
theorem dX7_lay_38 : decode cX7_lay 38 = .ok (.aload_n 0, 1) := by decide +kernel
theorem dX7_lay_39 : decode cX7_lay 39 = .ok (.dup, 1) := by decide +kernel
theorem dX7_lay_40 : decode cX7_lay 40 = .ok (.getfield 49, 3) := by decide +kernel
theorem dX7_lay_43 : decode cX7_lay 43 = .ok (.iconst 1, 1) := by decide +kernel
theorem dX7_lay_44 : decode cX7_lay 44 = .ok (.iadd, 1) := by decide +kernel
theorem dX7_lay_45 : decode cX7_lay 45 = .ok (.putfield 49, 3) := by decide +kernel
theorem dX7_lay_48 : decode cX7_lay 48 = .ok (.aload_n 0, 1) := by decide +kernel
theorem dX7_lay_49 : decode cX7_lay 49 = .ok (.aload_n 1, 1) := by decide +kernel
theorem dX7_lay_50 : decode cX7_lay 50 = .ok (.iconst 0, 1) := by decide +kernel
theorem dX7_lay_51 : decode cX7_lay 51 = .ok (.bipush 9, 2) := by decide +kernel
theorem dX7_lay_53 : decode cX7_lay 53 = .ok (.iload_n 2, 1) := by decide +kernel
theorem dX7_lay_54 : decode cX7_lay 54 = .ok (.iconst 1, 1) := by decide +kernel
theorem dX7_lay_55 : decode cX7_lay 55 = .ok (.iadd, 1) := by decide +kernel
theorem dX7_lay_56 : decode cX7_lay 56 = .ok (.invokevirtual 366, 3) := by decide +kernel
theorem dX7_lay_59 : decode cX7_lay 59 = .ok (.return_, 1) := by decide +kernel
theorem dX7_layOrder_0 : decode cX7_layOrder 0 = .ok (.aload_n 0, 1) := by decide +kernel
theorem dX7_layOrder_1 : decode cX7_layOrder 1 = .ok (.aconst_null, 1) := by decide +kernel
theorem dX7_layOrder_2 : decode cX7_layOrder 2 = .ok (.putfield 46, 3) := by decide +kernel
theorem dX7_layOrder_5 : decode cX7_layOrder 5 = .ok (.aload_n 0, 1) := by decide +kernel
theorem dX7_layOrder_6 : decode cX7_layOrder 6 = .ok (.iconst 0, 1) := by decide +kernel
theorem dX7_layOrder_7 : decode cX7_layOrder 7 = .ok (.putfield 49, 3) := by decide +kernel
theorem dX7_layOrder_10 : decode cX7_layOrder 10 = .ok (.aload_n 0, 1) := by decide +kernel
theorem dX7_layOrder_11 : decode cX7_layOrder 11 = .ok (.aload_n 0, 1) := by decide +kernel
theorem dX7_layOrder_12 : decode cX7_layOrder 12 = .ok (.getfield 24, 3) := by decide +kernel
theorem dX7_layOrder_15 : decode cX7_layOrder 15 = .ok (.iconst 0, 1) := by decide +kernel
theorem dX7_layOrder_16 : decode cX7_layOrder 16 = .ok (.invokevirtual 362, 3) := by decide +kernel
theorem dX7_layOrder_19 : decode cX7_layOrder 19 = .ok (.return_, 1) := by decide +kernel
theorem dX7_add_0 : decode cX7_add 0 = .ok (.aload_n 0, 1) := by decide +kernel
theorem dX7_add_1 : decode cX7_add 1 = .ok (.iload_n 1, 1) := by decide +kernel
theorem dX7_add_2 : decode cX7_add 2 = .ok (.invokevirtual 52, 3) := by decide +kernel
theorem dX7_add_5 : decode cX7_add 5 = .ok (.astore 5, 2) := by decide +kernel
theorem dX7_add_7 : decode cX7_add 7 = .ok (.iload_n 2, 1) := by decide +kernel
theorem dX7_add_8 : decode cX7_add 8 = .ok (.iconst 0, 1) := by decide +kernel
theorem dX7_add_9 : decode cX7_add 9 = .ok (.iconst 2, 1) := by decide +kernel
theorem dX7_add_10 : decode cX7_add 10 = .ok (.invokestatic 56, 3) := by decide +kernel
theorem dX7_add_13 : decode cX7_add 13 = .ok (.ifCond .ne 13, 3) := by decide +kernel
theorem dX7_add_16 : decode cX7_add 16 = .ok (.new 60, 3) := by decide +kernel
theorem dX7_add_19 : decode cX7_add 19 = .ok (.dup, 1) := by decide +kernel
theorem dX7_add_20 : decode cX7_add 20 = .ok (.ldc 62, 2) := by decide +kernel
theorem dX7_add_22 : decode cX7_add 22 = .ok (.invokespecial 64, 3) := by decide +kernel
theorem dX7_add_25 : decode cX7_add 25 = .ok (.athrow, 1) := by decide +kernel
theorem dX7_add_26 : decode cX7_add 26 = .ok (.iload_n 2, 1) := by decide +kernel
theorem dX7_add_27 : decode cX7_add 27 = .ok (.ifCond .eq 36, 3) := by decide +kernel
theorem dX7_add_30 : decode cX7_add 30 = .ok (.iload_n 3, 1) := by decide +kernel
theorem dX7_add_31 : decode cX7_add 31 = .ok (.iconst 1, 1) := by decide +kernel
theorem dX7_add_32 : decode cX7_add 32 = .ok (.sipush 200, 3) := by decide +kernel
theorem dX7_add_35 : decode cX7_add 35 = .ok (.invokestatic 56, 3) := by decide +kernel
theorem dX7_add_38 : decode cX7_add 38 = .ok (.ifCond .eq 15, 3) := by decide +kernel
theorem dX7_add_41 : decode cX7_add 41 = .ok (.iload 4, 2) := by decide +kernel
theorem dX7_add_43 : decode cX7_add 43 = .ok (.iconst 1, 1) := by decide +kernel
theorem dX7_add_44 : decode cX7_add 44 = .ok (.sipush 200, 3) := by decide +kernel
theorem dX7_add_47 : decode cX7_add 47 = .ok (.invokestatic 56, 3) := by decide +kernel
theorem dX7_add_50 : decode cX7_add 50 = .ok (.ifCond .ne 13, 3) := by decide +kernel
theorem dX7_add_53 : decode cX7_add 53 = .ok (.new 60, 3) := by decide +kernel
theorem dX7_add_56 : decode cX7_add 56 = .ok (.dup, 1) := by decide +kernel
theorem dX7_add_57 : decode cX7_add 57 = .ok (.ldc 67, 2) := by decide +kernel
theorem dX7_add_59 : decode cX7_add 59 = .ok (.invokespecial 64, 3) := by decide +kernel
theorem dX7_add_62 : decode cX7_add 62 = .ok (.athrow, 1) := by decide +kernel
theorem dX7_add_63 : decode cX7_add 63 = .ok (.aload_n 0, 1) := by decide +kernel
theorem dX7_add_64 : decode cX7_add 64 = .ok (.getfield 42, 3) := by decide +kernel
theorem dX7_add_67 : decode cX7_add 67 = .ok (.ifCond .lt 24, 3) := by decide +kernel
theorem dX7_add_70 : decode cX7_add 70 = .ok (.aload_n 0, 1) := by decide +kernel
theorem dX7_add_71 : decode cX7_add 71 = .ok (.getfield 42, 3) := by decide +kernel
theorem dX7_add_74 : decode cX7_add 74 = .ok (.aload_n 0, 1) := by decide +kernel
theorem dX7_add_75 : decode cX7_add 75 = .ok (.getfield 11, 3) := by decide +kernel
theorem dX7_add_78 : decode cX7_add 78 = .ok (.arraylength, 1) := by decide +kernel
theorem dX7_add_79 : decode cX7_add 79 = .ok (.if_icmp .ge 12, 3) := by decide +kernel
theorem dX7_add_82 : decode cX7_add 82 = .ok (.aload 5, 2) := by decide +kernel
theorem dX7_add_84 : decode cX7_add 84 = .ok (.invokevirtual 69, 3) := by decide +kernel
theorem dX7_add_87 : decode cX7_add 87 = .ok (.iconst 4, 1) := by decide +kernel
theorem dX7_add_88 : decode cX7_add 88 = .ok (.if_icmp .lt 13, 3) := by decide +kernel
theorem dX7_add_91 : decode cX7_add 91 = .ok (.new 73, 3) := by decide +kernel
theorem dX7_add_94 : decode cX7_add 94 = .ok (.dup, 1) := by decide +kernel
theorem dX7_add_95 : decode cX7_add 95 = .ok (.ldc 75, 2) := by decide +kernel
theorem dX7_add_97 : decode cX7_add 97 = .ok (.invokespecial 77, 3) := by decide +kernel
theorem dX7_add_100 : decode cX7_add 100 = .ok (.athrow, 1) := by decide +kernel
theorem dX7_add_101 : decode cX7_add 101 = .ok (.new 9, 3) := by decide +kernel
theorem dX7_add_104 : decode cX7_add 104 = .ok (.dup, 1) := by decide +kernel
theorem dX7_add_105 : decode cX7_add 105 = .ok (.aload_n 0, 1) := by decide +kernel
theorem dX7_add_106 : decode cX7_add 106 = .ok (.getfield 42, 3) := by decide +kernel
theorem dX7_add_109 : decode cX7_add 109 = .ok (.iload_n 2, 1) := by decide +kernel
theorem dX7_add_110 : decode cX7_add 110 = .ok (.iload_n 3, 1) := by decide +kernel
theorem dX7_add_111 : decode cX7_add 111 = .ok (.iload 4, 2) := by decide +kernel
theorem dX7_add_113 : decode cX7_add 113 = .ok (.invokespecial 21, 3) := by decide +kernel
theorem dX7_add_116 : decode cX7_add 116 = .ok (.astore 6, 2) := by decide +kernel
theorem dX7_add_118 : decode cX7_add 118 = .ok (.aload_n 0, 1) := by decide +kernel
theorem dX7_add_119 : decode cX7_add 119 = .ok (.getfield 11, 3) := by decide +kernel
theorem dX7_add_122 : decode cX7_add 122 = .ok (.aload_n 0, 1) := by decide +kernel
theorem dX7_add_123 : decode cX7_add 123 = .ok (.getfield 42, 3) := by decide +kernel
theorem dX7_add_126 : decode cX7_add 126 = .ok (.aload 6, 2) := by decide +kernel
theorem dX7_add_128 : decode cX7_add 128 = .ok (.aastore, 1) := by decide +kernel
theorem dX7_add_129 : decode cX7_add 129 = .ok (.aload_n 0, 1) := by decide +kernel
theorem dX7_add_130 : decode cX7_add 130 = .ok (.dup, 1) := by decide +kernel
theorem dX7_add_131 : decode cX7_add 131 = .ok (.getfield 42, 3) := by decide +kernel
theorem dX7_add_134 : decode cX7_add 134 = .ok (.iconst 1, 1) := by decide +kernel
theorem dX7_add_135 : decode cX7_add 135 = .ok (.iadd, 1) := by decide +kernel
theorem dX7_add_136 : decode cX7_add 136 = .ok (.putfield 42, 3) := by decide +kernel
theorem dX7_add_139 : decode cX7_add 139 = .ok (.aload 5, 2) := by decide +kernel
theorem dX7_add_141 : decode cX7_add 141 = .ok (.aload 6, 2) := by decide +kernel
theorem dX7_add_143 : decode cX7_add 143 = .ok (.invokevirtual 78, 3) := by decide +kernel
theorem dX7_add_146 : decode cX7_add 146 = .ok (.aload_n 0, 1) := by decide +kernel
theorem dX7_add_147 : decode cX7_add 147 = .ok (.invokevirtual 82, 3) := by decide +kernel
theorem dX7_add_150 : decode cX7_add 150 = .ok (.aload 6, 2) := by decide +kernel
theorem dX7_add_152 : decode cX7_add 152 = .ok (.getfield 85, 3) := by decide +kernel
theorem dX7_add_155 : decode cX7_add 155 = .ok (.ireturn, 1) := by decide +kernel
noncomputable def f_X4_depth_L7 (n : Nat) : Int32 → Option Nat → fSt → Option (Int32 × fSt) := Nat.rec (motive := fun _ => Int32 → Option Nat → fSt → Option (Int32 × fSt)) (fun _ _ _ => none) (fun _ k7 (a1 : Int32) (a2 : Option Nat) (h : fSt) => (if a2 = none then some (a1, h) else (fgR h a2 4 14).bind fun x2 => k7 (a1 + (1 : Int32)) x2 h)) n
noncomputable def f_X4_depth_L0 (a0 : Option Nat) (h : fSt) : Option (Int32 × fSt) := (fgR h a0 4 14).bind fun x4 => f_X4_depth_L7 4096 (0 : Int32) x4 h
noncomputable def f_X4_depth (o : Nat) (h : fSt) : Option (Int32 × fSt) := f_X4_depth_L0 (some o) h
noncomputable def f_X2_init_L0 (a0 : Option Nat) (a1 : Int32) (a2 : Int32) (a3 : Int32) (a4 : Int32) (h : fSt) : Option (Unit × fSt) := (fobj h a0 2).bind fun b1 => (fput h a0 2 0 (.int a1)).bind fun h3 => (fput h3 a0 2 1 (.int a2)).bind fun h5 => (fput h5 a0 2 2 (.int a3)).bind fun h7 => (fput h7 a0 2 3 (.int a4)).bind fun h9 => some ((), h9)
noncomputable def f_X2_init (o : Nat) (p0 : Int32) (p1 : Int32) (p2 : Int32) (p3 : Int32) (h : fSt) : Option (Unit × fSt) := f_X2_init_L0 (some o) p0 p1 p2 p3 h
noncomputable def f_X6_init_L0 (a0 : Option Nat) (a1 : Int32) (a2 : Int32) (a3 : Int32) (h : fSt) : Option (Unit × fSt) := (fobj h a0 6).bind fun b1 => (fput h a0 6 2 (.int a1)).bind fun h3 => (fput h3 a0 6 0 (.int a2)).bind fun h5 => (fput h5 a0 6 1 (.int a3)).bind fun h7 => some ((), h7)
noncomputable def f_X6_init (o : Nat) (p0 : Int32) (p1 : Int32) (p2 : Int32) (h : fSt) : Option (Unit × fSt) := f_X6_init_L0 (some o) p0 p1 p2 h
noncomputable def f_X4_init_L0 (a0 : Option Nat) (a1 : Int32) (a2 : Int32) (a3 : Int32) (a4 : Int32) (h : fSt) : Option (Unit × fSt) := (fobj h a0 4).bind fun b1 => (fnew h (.inl (6, [.int 0, .int 0, .int 0, .int 0, .int 0, .int 0, .int 0, .null, .int 0])) 9).bind fun r3 => (f_X6_init r3.1 (0 : Int32) (-200 : Int32) (200 : Int32) r3.2).bind fun r5 => (fput r5.2 a0 4 3 (va_rf (some r3.1))).bind fun h7 => (fnew h7 (.inl (6, [.int 0, .int 0, .int 0, .int 0, .int 0, .int 0, .int 0, .null, .int 0])) 9).bind fun r9 => (f_X6_init r9.1 (0 : Int32) (-200 : Int32) (200 : Int32) r9.2).bind fun r11 => (fput r11.2 a0 4 4 (va_rf (some r9.1))).bind fun h13 => (fnew h13 (.inl (6, [.int 0, .int 0, .int 0, .int 0, .int 0, .int 0, .int 0, .null, .int 0])) 9).bind fun r15 => (f_X6_init r15.1 (0 : Int32) (0 : Int32) (3 : Int32) r15.2).bind fun r17 => (fput r17.2 a0 4 5 (va_rf (some r15.1))).bind fun h19 => (fnew h19 (.inl (6, [.int 0, .int 0, .int 0, .int 0, .int 0, .int 0, .int 0, .null, .int 0])) 9).bind fun r21 => (f_X6_init r21.1 (100 : Int32) (0 : Int32) (100 : Int32) r21.2).bind fun r23 => (fput r23.2 a0 4 6 (va_rf (some r21.1))).bind fun h25 => (fput h25 a0 4 7 (.int (1 : Int32))).bind fun h27 => (fput h27 a0 4 8 (.int (1 : Int32))).bind fun h29 => (fput h29 a0 4 0 (.int a1)).bind fun h31 => (fput h31 a0 4 1 (.int a2)).bind fun h33 => (fnew h33 (.inl (2, [.int 0, .int 0, .int 0, .int 0])) 4).bind fun r35 => (f_X2_init r35.1 (0 : Int32) (0 : Int32) a3 a4 r35.2).bind fun r37 => (fput r37.2 a0 4 2 (va_rf (some r35.1))).bind fun h39 => some ((), h39)
noncomputable def f_X4_init (o : Nat) (p0 : Int32) (p1 : Int32) (p2 : Int32) (p3 : Int32) (h : fSt) : Option (Unit × fSt) := f_X4_init_L0 (some o) p0 p1 p2 p3 h
noncomputable def f_X4_takeIn_L38 (a0 : Option Nat) (a1 : Option Nat) (h : fSt) : Option (Unit × fSt) := (fput h a1 4 16 (va_rf none)).bind fun h1 => (fput h1 a1 4 14 (va_rf a0)).bind fun h3 => some ((), h3)
noncomputable def f_X4_takeIn_L7 (n : Nat) : Option Nat → Option Nat → Option Nat → Option Nat → fSt → Option (Unit × fSt) := Nat.rec (motive := fun _ => Option Nat → Option Nat → Option Nat → Option Nat → fSt → Option (Unit × fSt)) (fun _ _ _ _ _ => none) (fun _ k7 (a0 : Option Nat) (a1 : Option Nat) (a2 : Option Nat) (a3 : Option Nat) (h : fSt) => (if a3 = none then (if a2 = none then (fput h a0 4 15 (va_rf a1)).bind fun h9 => f_X4_takeIn_L38 a0 a1 h9 else (fput h a2 4 16 (va_rf a1)).bind fun h7 => f_X4_takeIn_L38 a0 a1 h7) else (fgR h a3 4 16).bind fun x11 => k7 a0 a1 a3 x11 h)) n
noncomputable def f_X4_takeIn_L0 (a0 : Option Nat) (a1 : Option Nat) (h : fSt) : Option (Unit × fSt) := (fgR h a0 4 15).bind fun x13 => f_X4_takeIn_L7 4096 a0 a1 none x13 h
noncomputable def f_X4_takeIn (o : Nat) (p0 : Option Nat) (h : fSt) : Option (Unit × fSt) := f_X4_takeIn_L0 (some o) p0 h
noncomputable def f_X7_nodeOrNull_L13  (h : fSt) : Option (Option Nat × fSt) := some (none, h)
noncomputable def f_X7_nodeOrNull_L38 (s0 : Option Nat) (h : fSt) : Option (Option Nat × fSt) := some (s0, h)
noncomputable def f_X7_nodeOrNull_L33  (h : fSt) : Option (Option Nat × fSt) := f_X7_nodeOrNull_L38 none h
noncomputable def f_X7_nodeOrNull_L0 (a0 : Option Nat) (a1 : Int32) (h : fSt) : Option (Option Nat × fSt) := (if a1 < 0 then f_X7_nodeOrNull_L13 h else (fgR h a0 7 0).bind fun x2 => (flen h x2 4).bind fun x4 => (if a1 < x4 then (fgR h a0 7 0).bind fun x7 => (faR h x7 4 a1).bind fun x9 => (if x9 = none then f_X7_nodeOrNull_L33 h else (fgI h x9 4 13).bind fun x12 => (if x12 = 0 then f_X7_nodeOrNull_L38 x9 h else f_X7_nodeOrNull_L33 h)) else f_X7_nodeOrNull_L13 h))
noncomputable def f_X7_nodeOrNull (o : Nat) (p0 : Int32) (h : fSt) : Option (Option Nat × fSt) := f_X7_nodeOrNull_L0 (some o) p0 h
noncomputable def f_X7_found_L0 (a0 : Option Nat) (a1 : Int32) (h : fSt) : Option ((Option Nat ⊕ Nat) × fSt) := (fobj h a0 7).bind fun b3 => (f_X7_nodeOrNull b3 a1 h).bind fun r1 => (if r1.1 = none then (fthr r1.2).bind fun h6 => some (.inr 0, h6) else some (.inl r1.1, r1.2))
noncomputable def f_X7_found (o : Nat) (p0 : Int32) (h : fSt) : Option ((Option Nat ⊕ Nat) × fSt) := f_X7_found_L0 (some o) p0 h
noncomputable def f_X7_isFrom_L15 (s0 : Int32) (h : fSt) : Option (Int32 × fSt) := if s0 = 0 ∨ s0 = 1 then some (s0, h) else none
noncomputable def f_X7_isFrom_L14  (h : fSt) : Option (Int32 × fSt) := f_X7_isFrom_L15 (0 : Int32) h
noncomputable def f_X7_isFrom_L0 (a0 : Int32) (a1 : Int32) (a2 : Int32) (h : fSt) : Option (Int32 × fSt) := (if a0 < a1 then f_X7_isFrom_L14 h else (if a2 < a0 then f_X7_isFrom_L14 h else f_X7_isFrom_L15 (1 : Int32) h))
noncomputable def f_X7_isFrom (p0 : Int32) (p1 : Int32) (p2 : Int32) (h : fSt) : Option (Int32 × fSt) := f_X7_isFrom_L0 p0 p1 p2 h
noncomputable def f_X7_layHanging_L38 (self : Nat → Option Nat → Int32 → fSt → Option (Unit × fSt)) (k3 : Option Nat → Option Nat → Int32 → Int32 → Int32 → fSt → Option (Unit × fSt)) (k15 : Option Nat → Option Nat → Int32 → Int32 → Int32 → Option Nat → fSt → Option (Unit × fSt)) (a0 : Option Nat) (a1 : Option Nat) (a3 : Int32) (a4 : Int32) (a5 : Int32) (a6 : Option Nat) (h : fSt) : Option (Unit × fSt) := (fgR h a6 4 16).bind fun x1 => k15 a0 a1 a3 a4 a5 x1 h
noncomputable def f_X7_layHanging_L15 (self : Nat → Option Nat → Int32 → fSt → Option (Unit × fSt)) (k3 : Option Nat → Option Nat → Int32 → Int32 → Int32 → fSt → Option (Unit × fSt)) (n : Nat) : Option Nat → Option Nat → Int32 → Int32 → Int32 → Option Nat → fSt → Option (Unit × fSt) := Nat.rec (motive := fun _ => Option Nat → Option Nat → Int32 → Int32 → Int32 → Option Nat → fSt → Option (Unit × fSt)) (fun _ _ _ _ _ _ _ => none) (fun _ k15 (a0 : Option Nat) (a1 : Option Nat) (a3 : Int32) (a4 : Int32) (a5 : Int32) (a6 : Option Nat) (h : fSt) => (if a6 = none then k3 a0 a1 a3 a4 (a5 + (1 : Int32)) h else (fgI h a6 4 10).bind fun x4 => (if x4 = a5 then (fobj h a0 7).bind fun b9 => (self b9 a6 a4 h).bind fun r7 => f_X7_layHanging_L38 self k3 k15 a0 a1 a3 a4 a5 a6 r7.2 else f_X7_layHanging_L38 self k3 k15 a0 a1 a3 a4 a5 a6 h))) n
noncomputable def f_X7_layHanging_L3 (self : Nat → Option Nat → Int32 → fSt → Option (Unit × fSt)) (n : Nat) : Option Nat → Option Nat → Int32 → Int32 → Int32 → fSt → Option (Unit × fSt) := Nat.rec (motive := fun _ => Option Nat → Option Nat → Int32 → Int32 → Int32 → fSt → Option (Unit × fSt)) (fun _ _ _ _ _ _ => none) (fun _ k3 (a0 : Option Nat) (a1 : Option Nat) (a3 : Int32) (a4 : Int32) (a5 : Int32) (h : fSt) => (if a3 < a5 then some ((), h) else (fgR h a1 4 15).bind fun x12 => f_X7_layHanging_L15 self k3 4096 a0 a1 a3 a4 a5 x12 h)) n
noncomputable def f_X7_layHanging_L0 (self : Nat → Option Nat → Int32 → fSt → Option (Unit × fSt)) (a0 : Option Nat) (a1 : Option Nat) (a2 : Int32) (a3 : Int32) (a4 : Int32) (h : fSt) : Option (Unit × fSt) := f_X7_layHanging_L3 self 4096 a0 a1 a3 a4 a2 h
noncomputable def f_X7_layHanging (self : Nat → Option Nat → Int32 → fSt → Option (Unit × fSt)) (o : Nat) (p0 : Option Nat) (p1 : Int32) (p2 : Int32) (p3 : Int32) (h : fSt) : Option (Unit × fSt) := f_X7_layHanging_L0 self (some o) p0 p1 p2 p3 h
noncomputable def f_X7_lay_L0 (self : Nat → Option Nat → Int32 → fSt → Option (Unit × fSt)) (a0 : Option Nat) (a1 : Option Nat) (a2 : Int32) (h : fSt) : Option (Unit × fSt) := (if a2 ≤ (4 : Int32) then (fobj h a0 7).bind fun b4 => (f_X7_layHanging self b4 a1 (-9 : Int32) (-1 : Int32) (a2 + (1 : Int32)) h).bind fun r2 => (fgR r2.2 a0 7 8).bind fun x6 => (fput r2.2 a1 4 17 (va_rf x6)).bind fun h8 => (fgI h8 a0 7 9).bind fun x10 => (fput h8 a1 4 18 (.int x10)).bind fun h12 => (fput h12 a0 7 8 (va_rf a1)).bind fun h14 => (fgI h14 a0 7 9).bind fun x16 => (fput h14 a0 7 9 (.int (x16 + (1 : Int32)))).bind fun h18 => (fobj h18 a0 7).bind fun b22 => (f_X7_layHanging self b22 a1 (0 : Int32) (9 : Int32) (a2 + (1 : Int32)) h18).bind fun r20 => some ((), r20.2) else some ((), h))
noncomputable def f_X7_lay (d : Nat) : Nat → Option Nat → Int32 → fSt → Option (Unit × fSt) := Nat.rec (motive := fun _ => Nat → Option Nat → Int32 → fSt → Option (Unit × fSt)) (fun _ _ _ _ => none) (fun _ self (o : Nat) (p0 : Option Nat) (p1 : Int32) (h : fSt) => f_X7_lay_L0 self (some o) p0 p1 h) d
noncomputable def f_X7_layOrder_L0 (a0 : Option Nat) (h : fSt) : Option (Unit × fSt) := (fput h a0 7 8 (va_rf none)).bind fun h1 => (fput h1 a0 7 9 (.int (0 : Int32))).bind fun h3 => (fgR h3 a0 7 2).bind fun x5 => (fobj h3 a0 7).bind fun b9 => (f_X7_lay 8 b9 x5 (0 : Int32) h3).bind fun r7 => some ((), r7.2)
noncomputable def f_X7_layOrder (o : Nat) (h : fSt) : Option (Unit × fSt) := f_X7_layOrder_L0 (some o) h
noncomputable def f_X7_add_L53  (h : fSt) : Option ((Int32 ⊕ Nat) × fSt) := (fthr h).bind fun h1 => some (.inr 1, h1)
noncomputable def f_X7_add_L91  (h : fSt) : Option ((Int32 ⊕ Nat) × fSt) := (fthr h).bind fun h3 => some (.inr 2, h3)
noncomputable def f_X7_add_L63 (a0 : Option Nat) (a2 : Int32) (a3 : Int32) (a4 : Int32) (a5 : Option Nat) (h : fSt) : Option ((Int32 ⊕ Nat) × fSt) := (fgI h a0 7 5).bind fun x5 => (if x5 < 0 then f_X7_add_L91 h else (fgI h a0 7 5).bind fun x8 => (fgR h a0 7 0).bind fun x10 => (flen h x10 4).bind fun x12 => (if x12 ≤ x8 then f_X7_add_L91 h else (fobj h a5 4).bind fun b17 => (f_X4_depth b17 h).bind fun r15 => (if r15.1 < (4 : Int32) then (fnew r15.2 (.inl (4, [.int 0, .int 0, .null, .null, .null, .null, .null, .int 0, .int 0, .int 0, .int 0, .int 0, .null, .int 0, .null, .null, .null, .null, .int 0])) 19).bind fun r20 => (fgI r20.2 a0 7 5).bind fun x22 => (f_X4_init r20.1 x22 a2 a3 a4 r20.2).bind fun r24 => (fgR r24.2 a0 7 0).bind fun x26 => (fgI r24.2 a0 7 5).bind fun x28 => (fsR r24.2 x26 4 4 x28 (some r20.1)).bind fun h30 => (fgI h30 a0 7 5).bind fun x32 => (fput h30 a0 7 5 (.int (x32 + (1 : Int32)))).bind fun h34 => (fobj h34 a5 4).bind fun b38 => (f_X4_takeIn b38 (some r20.1) h34).bind fun r36 => (fobj r36.2 a0 7).bind fun b42 => (f_X7_layOrder b42 r36.2).bind fun r40 => (fgI r40.2 (some r20.1) 4 0).bind fun x44 => some (.inl x44, r40.2) else f_X7_add_L91 r15.2)))
noncomputable def f_X7_add_L0 (a0 : Option Nat) (a1 : Int32) (a2 : Int32) (a3 : Int32) (a4 : Int32) (h : fSt) : Option ((Int32 ⊕ Nat) × fSt) := (fobj h a0 7).bind fun b48 => (f_X7_found b48 a1 h).bind fun r46 => Sum.elim (fun v50 => (f_X7_isFrom a2 (0 : Int32) (2 : Int32) r46.2).bind fun r53 => (if r53.1 = 0 then (fthr r53.2).bind fun h63 => some (.inr 1, h63) else (if a2 = 0 then f_X7_add_L63 a0 a2 a3 a4 v50 r53.2 else (f_X7_isFrom a3 (1 : Int32) (200 : Int32) r53.2).bind fun r57 => (if r57.1 = 0 then f_X7_add_L53 r57.2 else (f_X7_isFrom a4 (1 : Int32) (200 : Int32) r57.2).bind fun r60 => (if r60.1 = 0 then f_X7_add_L53 r60.2 else f_X7_add_L63 a0 a2 a3 a4 v50 r60.2))))) (fun k51 => some (.inr k51, r46.2)) r46.1
noncomputable def f_X7_add (o : Nat) (p0 : Int32) (p1 : Int32) (p2 : Int32) (p3 : Int32) (h : fSt) : Option ((Int32 ⊕ Nat) × fSt) := f_X7_add_L0 (some o) p0 p1 p2 p3 h
set_option maxHeartbeats 4000000 in
set_option maxRecDepth 100000 in
theorem w_X4_depth_L7 {p : Program} {l : Launch} {e : Env} {s : State} {m : MethodId} {args : Array Value} {below : List Frame} {meth : Method} {c : Code} {D : va_G} {cA : Nat → ClassId} {h0 : fSt} {r : (Int32 × fSt)} (M : fM p s m args meth c D cA h0 { frames := 0, cells := fCB h0 - fZ h0, slots := fLB h0 - fL h0, locals := 0 } cX4_depth 3 (some (.int)) RX4) (hfl : l.stackTraces = false) : ∀ (n : Nat) (a1 : Int32) (a2 : Option Nat) (h : fSt), f_X4_depth_L7 n a1 a2 h = some r → ∀ (H : Heap) (locs : List Loc) (cells slots : Nat) (ls : Array Slot), fCur D cA s h0 h H locs → lv_has ls 3 [(1, .int a1), (2, va_rf a2)] → W p l e { frames := 0, cells := fCB h0 - fZ h0, slots := fLB h0 - fL h0, locals := 0 } s m args below meth c H locs cells slots (MQ below (fQ D cA h0 r.2 (some (.int r.1))) args s (fCB h0 - fZ h0) (fLB h0 - fL h0) (fA h0)) (F0 m 7 ls []) := by
  obtain ⟨hx, hb, hml, hr, hlocks, hts, hown, K, hR⟩ := id M
  intro n
  induction n with
  | zero =>
    intro a1 a2 h hf
    exact nomatch (show (none : Option (Int32 × fSt)) = some r from hf)
  | succ n hk7 =>
    intro a1 a2 h hf H locs cells slots ls hC hl
    refine fr_aload_n hx hb dX4_depth_7 rfl (lv_at hl 1 rfl) ?_
    refine fr_ifnull (tgt := 22) hx hb dX4_depth_8 (by decide) (fun c1 => ?_) (fun c1 => ?_)
    · replace hf := opos c1 hf
      refine lv_iload_n hx hb dX4_depth_22 rfl (lv_at hl 0 rfl) ?_
      obtain rfl := Option.some.inj hf
      exact fr_iret hx hb hr hlocks hC dX4_depth_23
    · replace hf := oneg c1 hf
      refine lv_iinc (v := (a1 + (1 : Int32))) (lv' := [(1, .int (a1 + (1 : Int32))), (2, va_rf a2)]) hx hb dX4_depth_11 hl (k := 0) rfl rfl (by decide) (congrArg (List.cons _) (fld rfl (flk rfl fln))) (fun ls hl => ?_)
      refine fr_aload_n hx hb dX4_depth_14 rfl (lv_at hl 1 rfl) ?_
      obtain ⟨x2, g3, hf⟩ := obind hf
      refine fr_get hx hb hts hown K hC ct_4 (fgR_get g3) (by decide) kw182 rfl dX4_depth_15 ?_
      refine fr_astore_n (lv' := [(2, va_rf x2), (1, .int (a1 + (1 : Int32)))]) hx hb dX4_depth_18 rfl hl (by decide) (congrArg (List.cons _) (flk rfl (fld rfl fln))) (fun ls hl => ?_)
      refine lv_goto (tgt := 7) hx hb dX4_depth_19 (by decide) ?_
      exact hk7 _ _ _ hf _ _ _ _ _ hC (lv_sub hl [1, 0] rfl)
set_option maxHeartbeats 4000000 in
set_option maxRecDepth 100000 in
theorem w_X4_depth_L0 {p : Program} {l : Launch} {e : Env} {s : State} {m : MethodId} {args : Array Value} {below : List Frame} {meth : Method} {c : Code} {D : va_G} {cA : Nat → ClassId} {h0 : fSt} {r : (Int32 × fSt)} (M : fM p s m args meth c D cA h0 { frames := 0, cells := fCB h0 - fZ h0, slots := fLB h0 - fL h0, locals := 0 } cX4_depth 3 (some (.int)) RX4) (hfl : l.stackTraces = false) (a0 : Option Nat) (h : fSt) (hf : f_X4_depth_L0 a0 h = some r) : ∀ (H : Heap) (locs : List Loc) (cells slots : Nat) (ls : Array Slot), fCur D cA s h0 h H locs → lv_has ls 3 [(0, va_rf a0)] → W p l e { frames := 0, cells := fCB h0 - fZ h0, slots := fLB h0 - fL h0, locals := 0 } s m args below meth c H locs cells slots (MQ below (fQ D cA h0 r.2 (some (.int r.1))) args s (fCB h0 - fZ h0) (fLB h0 - fL h0) (fA h0)) (F0 m 0 ls []) := by
  obtain ⟨hx, hb, hml, hr, hlocks, hts, hown, K, hR⟩ := id M
  intro H locs cells slots ls hC hl
  refine lv_iconst (v := (0 : Int32)) hx hb dX4_depth_0 (by decide) ?_
  refine lv_istore_n (lv' := [(1, .int (0 : Int32)), (0, va_rf a0)]) hx hb dX4_depth_1 rfl hl (by decide) (congrArg (List.cons _) (flk (adj1 _ _) fln)) (fun ls hl => ?_)
  refine fr_aload_n hx hb dX4_depth_2 rfl (lv_at hl 1 rfl) ?_
  obtain ⟨x4, g5, hf⟩ := obind hf
  refine fr_get hx hb hts hown K hC ct_4 (fgR_get g5) (by decide) kw182 rfl dX4_depth_3 ?_
  refine fr_astore_n (lv' := [(2, va_rf x4), (1, .int (0 : Int32)), (0, va_rf a0)]) hx hb dX4_depth_6 rfl hl (by decide) (congrArg (List.cons _) (flk rfl (flk rfl fln))) (fun ls hl => ?_)
  exact w_X4_depth_L7 M hfl 4096 _ _ _ hf _ _ _ _ _ hC (lv_sub hl [1, 0] rfl)
set_option maxRecDepth 100000 in
theorem c_X4_depth {l : Launch} (hfl : l.stackTraces = false) (D : va_G) (cA : Nat → ClassId) {o : Nat} {h : fSt} {r : (Int32 × fSt)} (hf : f_X4_depth o h = some r) : fMet l yX4_depth (wsC yX4_depth cX4_depth 3 (some (.int))) (0) (0) D cA [.ref o] h r.2 (some (.int r.1)) := by
  exact fMet.of (own := RX4) (by decide +kernel) rfl (lva1 rfl lva0) (lgl1 rfl lgl0) (Nat.le_of_ble_eq_true rfl) (fun p e s m args below meth c ls hnm _ M hC hl => by
    have hl : lv_has ls 3 [(0, va_rf (some o))] := hl
    exact w_X4_depth_L0 M hfl _ _ hf _ _ _ _ _ hC (lv_sub hl [0] rfl))
set_option maxHeartbeats 4000000 in
set_option maxRecDepth 100000 in
theorem w_X2_init_L0 {p : Program} {l : Launch} {e : Env} {s : State} {m : MethodId} {args : Array Value} {below : List Frame} {meth : Method} {c : Code} {D : va_G} {cA : Nat → ClassId} {h0 : fSt} {r : (Unit × fSt)} (M : fM p s m args meth c D cA h0 { frames := 1, cells := fCB h0 - fZ h0, slots := fLB h0 - fL h0, locals := 20 } cX2_init 5 none RX2) (hfl : l.stackTraces = false) (hnm : meth.name = "<init>") (a0 : Option Nat) (a1 : Int32) (a2 : Int32) (a3 : Int32) (a4 : Int32) (h : fSt) (hf : f_X2_init_L0 a0 a1 a2 a3 a4 h = some r) : ∀ (H : Heap) (locs : List Loc) (cells slots : Nat) (ls : Array Slot), fCur D cA s h0 h H locs → lv_has ls 5 [(0, va_rf a0), (1, .int a1), (2, .int a2), (3, .int a3), (4, .int a4)] → W p l e { frames := 1, cells := fCB h0 - fZ h0, slots := fLB h0 - fL h0, locals := 20 } s m args below meth c H locs cells slots (MQ below (fQ D cA h0 r.2 none) args s (fCB h0 - fZ h0) (fLB h0 - fL h0) (fA h0)) (F0 m 0 ls []) := by
  obtain ⟨hx, hb, hml, hr, hlocks, hts, hown, K, hR⟩ := id M
  intro H locs cells slots ls hC hl
  refine fr_aload_n hx hb dX2_init_0 rfl (lv_at hl 0 rfl) ?_
  obtain ⟨b1, q2, hf⟩ := obind hf
  refine fr_objInit hx hb hml hts hown kw132 kw77 kw78 hl.1 (fobj_inv q2).1 dX2_init_1 (by exact Nat.le_of_ble_eq_true rfl) (catL _ _ (by exact Nat.le_of_ble_eq_true rfl) (by exact Nat.le_of_ble_eq_true rfl)) ?_
  refine fr_aload_n hx hb dX2_init_4 rfl (lv_at hl 0 rfl) ?_
  refine lv_iload_n hx hb dX2_init_5 rfl (lv_at hl 1 rfl) ?_
  obtain ⟨h3, g4, hf⟩ := obind hf
  refine fr_putF hx hb hts hown K hC ct_2 g4 (by decide) kw133 rfl rfl hnm rfl rfl rfl dX2_init_6 (fun H locs hC => ?_)
  refine fr_aload_n hx hb dX2_init_9 rfl (lv_at hl 0 rfl) ?_
  refine lv_iload_n hx hb dX2_init_10 rfl (lv_at hl 2 rfl) ?_
  obtain ⟨h5, g6, hf⟩ := obind hf
  refine fr_putF hx hb hts hown K hC ct_2 g6 (by decide) kw135 rfl rfl hnm rfl rfl rfl dX2_init_11 (fun H locs hC => ?_)
  refine fr_aload_n hx hb dX2_init_14 rfl (lv_at hl 0 rfl) ?_
  refine lv_iload_n hx hb dX2_init_15 rfl (lv_at hl 3 rfl) ?_
  obtain ⟨h7, g8, hf⟩ := obind hf
  refine fr_putF hx hb hts hown K hC ct_2 g8 (by decide) kw137 rfl rfl hnm rfl rfl rfl dX2_init_16 (fun H locs hC => ?_)
  refine fr_aload_n hx hb dX2_init_19 rfl (lv_at hl 0 rfl) ?_
  refine lv_iload hx hb dX2_init_20 (lv_at hl 4 rfl) ?_
  obtain ⟨h9, g10, hf⟩ := obind hf
  refine fr_putF hx hb hts hown K hC ct_2 g10 (by decide) kw139 rfl rfl hnm rfl rfl rfl dX2_init_22 (fun H locs hC => ?_)
  obtain rfl := Option.some.inj hf
  exact fr_vret hx hb hr hlocks hC dX2_init_25
set_option maxRecDepth 100000 in
theorem c_X2_init {l : Launch} (hfl : l.stackTraces = false) (D : va_G) (cA : Nat → ClassId) {o : Nat} {p0 : Int32} {p1 : Int32} {p2 : Int32} {p3 : Int32} {h : fSt} {r : (Unit × fSt)} (hf : f_X2_init o p0 p1 p2 p3 h = some r) : fMet l yX2_init (wsC yX2_init cX2_init 5 none) (1) (20) D cA [.ref o, .int p0, .int p1, .int p2, .int p3] h r.2 none := by
  exact fMet.of (own := RX2) (by decide +kernel) rfl (lva1 rfl (lva1 rfl (lva1 rfl (lva1 rfl (lva1 rfl lva0))))) (lgl1 rfl (lgl1 rfl (lgl1 rfl (lgl1 rfl (lgl1 rfl lgl0))))) (Nat.le_of_ble_eq_true rfl) (fun p e s m args below meth c ls hnm _ M hC hl => by
    have hl : lv_has ls 5 [(0, va_rf (some o)), (1, .int p0), (2, .int p1), (3, .int p2), (4, .int p3)] := hl
    exact w_X2_init_L0 M hfl (show meth.name = "<init>" from hnm) _ _ _ _ _ _ hf _ _ _ _ _ hC (lv_sub hl [0, 1, 2, 3, 4] rfl))
set_option maxHeartbeats 4000000 in
set_option maxRecDepth 100000 in
theorem w_X6_init_L0 {p : Program} {l : Launch} {e : Env} {s : State} {m : MethodId} {args : Array Value} {below : List Frame} {meth : Method} {c : Code} {D : va_G} {cA : Nat → ClassId} {h0 : fSt} {r : (Unit × fSt)} (M : fM p s m args meth c D cA h0 { frames := 1, cells := fCB h0 - fZ h0, slots := fLB h0 - fL h0, locals := 20 } cX6_init 4 none RX6) (hfl : l.stackTraces = false) (hnm : meth.name = "<init>") (a0 : Option Nat) (a1 : Int32) (a2 : Int32) (a3 : Int32) (h : fSt) (hf : f_X6_init_L0 a0 a1 a2 a3 h = some r) : ∀ (H : Heap) (locs : List Loc) (cells slots : Nat) (ls : Array Slot), fCur D cA s h0 h H locs → lv_has ls 4 [(0, va_rf a0), (1, .int a1), (2, .int a2), (3, .int a3)] → W p l e { frames := 1, cells := fCB h0 - fZ h0, slots := fLB h0 - fL h0, locals := 20 } s m args below meth c H locs cells slots (MQ below (fQ D cA h0 r.2 none) args s (fCB h0 - fZ h0) (fLB h0 - fL h0) (fA h0)) (F0 m 0 ls []) := by
  obtain ⟨hx, hb, hml, hr, hlocks, hts, hown, K, hR⟩ := id M
  intro H locs cells slots ls hC hl
  refine fr_aload_n hx hb dX6_init_0 rfl (lv_at hl 0 rfl) ?_
  obtain ⟨b1, q2, hf⟩ := obind hf
  refine fr_objInit hx hb hml hts hown kw93 kw77 kw78 hl.1 (fobj_inv q2).1 dX6_init_1 (by exact Nat.le_of_ble_eq_true rfl) (catL _ _ (by exact Nat.le_of_ble_eq_true rfl) (by exact Nat.le_of_ble_eq_true rfl)) ?_
  refine fr_aload_n hx hb dX6_init_4 rfl (lv_at hl 0 rfl) ?_
  refine lv_iload_n hx hb dX6_init_5 rfl (lv_at hl 1 rfl) ?_
  obtain ⟨h3, g4, hf⟩ := obind hf
  refine fr_put hx hb hts hown K hC ct_6 g4 (by decide) kw96 rfl rfl rfl rfl dX6_init_6 (fun H locs hC => ?_)
  refine fr_aload_n hx hb dX6_init_9 rfl (lv_at hl 0 rfl) ?_
  refine lv_iload_n hx hb dX6_init_10 rfl (lv_at hl 2 rfl) ?_
  obtain ⟨h5, g6, hf⟩ := obind hf
  refine fr_putF hx hb hts hown K hC ct_6 g6 (by decide) kw94 rfl rfl hnm rfl rfl rfl dX6_init_11 (fun H locs hC => ?_)
  refine fr_aload_n hx hb dX6_init_14 rfl (lv_at hl 0 rfl) ?_
  refine lv_iload_n hx hb dX6_init_15 rfl (lv_at hl 3 rfl) ?_
  obtain ⟨h7, g8, hf⟩ := obind hf
  refine fr_putF hx hb hts hown K hC ct_6 g8 (by decide) kw95 rfl rfl hnm rfl rfl rfl dX6_init_16 (fun H locs hC => ?_)
  obtain rfl := Option.some.inj hf
  exact fr_vret hx hb hr hlocks hC dX6_init_19
set_option maxRecDepth 100000 in
theorem c_X6_init {l : Launch} (hfl : l.stackTraces = false) (D : va_G) (cA : Nat → ClassId) {o : Nat} {p0 : Int32} {p1 : Int32} {p2 : Int32} {h : fSt} {r : (Unit × fSt)} (hf : f_X6_init o p0 p1 p2 h = some r) : fMet l yX6_init (wsC yX6_init cX6_init 4 none) (1) (20) D cA [.ref o, .int p0, .int p1, .int p2] h r.2 none := by
  exact fMet.of (own := RX6) (by decide +kernel) rfl (lva1 rfl (lva1 rfl (lva1 rfl (lva1 rfl lva0)))) (lgl1 rfl (lgl1 rfl (lgl1 rfl (lgl1 rfl lgl0)))) (Nat.le_of_ble_eq_true rfl) (fun p e s m args below meth c ls hnm _ M hC hl => by
    have hl : lv_has ls 4 [(0, va_rf (some o)), (1, .int p0), (2, .int p1), (3, .int p2)] := hl
    exact w_X6_init_L0 M hfl (show meth.name = "<init>" from hnm) _ _ _ _ _ hf _ _ _ _ _ hC (lv_sub hl [0, 1, 2, 3] rfl))
set_option maxHeartbeats 4000000 in
set_option maxRecDepth 100000 in
theorem w_X4_init_L0 {p : Program} {l : Launch} {e : Env} {s : State} {m : MethodId} {args : Array Value} {below : List Frame} {meth : Method} {c : Code} {D : va_G} {cA : Nat → ClassId} {h0 : fSt} {r : (Unit × fSt)} (M : fM p s m args meth c D cA h0 { frames := 2, cells := fCB h0 - fZ h0, slots := fLB h0 - fL h0, locals := 44 } cX4_init 5 none RX4) (hfl : l.stackTraces = false) (hnm : meth.name = "<init>") (a0 : Option Nat) (a1 : Int32) (a2 : Int32) (a3 : Int32) (a4 : Int32) (h : fSt) (hf : f_X4_init_L0 a0 a1 a2 a3 a4 h = some r) : ∀ (H : Heap) (locs : List Loc) (cells slots : Nat) (ls : Array Slot), fCur D cA s h0 h H locs → lv_has ls 5 [(0, va_rf a0), (1, .int a1), (2, .int a2), (3, .int a3), (4, .int a4)] → W p l e { frames := 2, cells := fCB h0 - fZ h0, slots := fLB h0 - fL h0, locals := 44 } s m args below meth c H locs cells slots (MQ below (fQ D cA h0 r.2 none) args s (fCB h0 - fZ h0) (fLB h0 - fL h0) (fA h0)) (F0 m 0 ls []) := by
  obtain ⟨hx, hb, hml, hr, hlocks, hts, hown, K, hR⟩ := id M
  intro H locs cells slots ls hC hl
  refine fr_aload_n hx hb dX4_init_0 rfl (lv_at hl 0 rfl) ?_
  obtain ⟨b1, q2, hf⟩ := obind hf
  refine fr_objInit hx hb hml hts hown kw87 kw77 kw78 hl.1 (fobj_inv q2).1 dX4_init_1 (by exact Nat.le_of_ble_eq_true rfl) (catL _ _ (by exact Nat.le_of_ble_eq_true rfl) (by exact Nat.le_of_ble_eq_true rfl)) ?_
  refine fr_aload_n hx hb dX4_init_4 rfl (lv_at hl 0 rfl) ?_
  obtain ⟨r3, g4, hf⟩ := obind hf
  refine fr_new hx hb hts hown K hC ct_6 hR g4 dv_6 kw88 kw89 kw56 dX4_init_5 (fun H _ _ hC => ?_)
  refine lv_dup hx hb dX4_init_8 (va_rf_cat _) ?_
  refine lv_iconst (v := (0 : Int32)) hx hb dX4_init_9 (by decide) ?_
  refine lv_sipush (v := (-200 : Int32)) hx hb dX4_init_10 (by decide) ?_
  refine lv_sipush (v := (200 : Int32)) hx hb dX4_init_13 (by decide) ?_
  obtain ⟨r5, g6, hf⟩ := obind hf
  refine fr_callI hx hb hml hts hown K hC hR (c_X6_init hfl D cA g6) 3 kw92 kw90 kw91 kw56 rfl (by decide +kernel) ⟨by exact Nat.le_of_ble_eq_true rfl, by exact Nat.le_of_ble_eq_true rfl⟩ rfl hl.1 (cat8 _ (by exact Nat.le_of_ble_eq_true rfl)) dX4_init_16 rfl (fun H locs _ _ hC => ?_)
  obtain ⟨h7, g8, hf⟩ := obind hf
  refine fr_putF hx hb hts hown K hC ct_4 g8 (by decide) kw156 rfl rfl hnm rfl (nR _ _) (fR _ _) dX4_init_19 (fun H locs hC => ?_)
  refine fr_aload_n hx hb dX4_init_22 rfl (lv_at hl 0 rfl) ?_
  obtain ⟨r9, g10, hf⟩ := obind hf
  refine fr_new hx hb hts hown K hC ct_6 hR g10 dv_6 kw88 kw89 kw56 dX4_init_23 (fun H _ _ hC => ?_)
  refine lv_dup hx hb dX4_init_26 (va_rf_cat _) ?_
  refine lv_iconst (v := (0 : Int32)) hx hb dX4_init_27 (by decide) ?_
  refine lv_sipush (v := (-200 : Int32)) hx hb dX4_init_28 (by decide) ?_
  refine lv_sipush (v := (200 : Int32)) hx hb dX4_init_31 (by decide) ?_
  obtain ⟨r11, g12, hf⟩ := obind hf
  refine fr_callI hx hb hml hts hown K hC hR (c_X6_init hfl D cA g12) 3 kw92 kw90 kw91 kw56 rfl (by decide +kernel) ⟨by exact Nat.le_of_ble_eq_true rfl, by exact Nat.le_of_ble_eq_true rfl⟩ rfl hl.1 (cat8 _ (by exact Nat.le_of_ble_eq_true rfl)) dX4_init_34 rfl (fun H locs _ _ hC => ?_)
  obtain ⟨h13, g14, hf⟩ := obind hf
  refine fr_putF hx hb hts hown K hC ct_4 g14 (by decide) kw159 rfl rfl hnm rfl (nR _ _) (fR _ _) dX4_init_37 (fun H locs hC => ?_)
  refine fr_aload_n hx hb dX4_init_40 rfl (lv_at hl 0 rfl) ?_
  obtain ⟨r15, g16, hf⟩ := obind hf
  refine fr_new hx hb hts hown K hC ct_6 hR g16 dv_6 kw88 kw89 kw56 dX4_init_41 (fun H _ _ hC => ?_)
  refine lv_dup hx hb dX4_init_44 (va_rf_cat _) ?_
  refine lv_iconst (v := (0 : Int32)) hx hb dX4_init_45 (by decide) ?_
  refine lv_iconst (v := (0 : Int32)) hx hb dX4_init_46 (by decide) ?_
  refine lv_iconst (v := (3 : Int32)) hx hb dX4_init_47 (by decide) ?_
  obtain ⟨r17, g18, hf⟩ := obind hf
  refine fr_callI hx hb hml hts hown K hC hR (c_X6_init hfl D cA g18) 3 kw92 kw90 kw91 kw56 rfl (by decide +kernel) ⟨by exact Nat.le_of_ble_eq_true rfl, by exact Nat.le_of_ble_eq_true rfl⟩ rfl hl.1 (cat8 _ (by exact Nat.le_of_ble_eq_true rfl)) dX4_init_48 rfl (fun H locs _ _ hC => ?_)
  obtain ⟨h19, g20, hf⟩ := obind hf
  refine fr_putF hx hb hts hown K hC ct_4 g20 (by decide) kw162 rfl rfl hnm rfl (nR _ _) (fR _ _) dX4_init_51 (fun H locs hC => ?_)
  refine fr_aload_n hx hb dX4_init_54 rfl (lv_at hl 0 rfl) ?_
  obtain ⟨r21, g22, hf⟩ := obind hf
  refine fr_new hx hb hts hown K hC ct_6 hR g22 dv_6 kw88 kw89 kw56 dX4_init_55 (fun H _ _ hC => ?_)
  refine lv_dup hx hb dX4_init_58 (va_rf_cat _) ?_
  refine lv_bipush (v := (100 : Int32)) hx hb dX4_init_59 (by decide) ?_
  refine lv_iconst (v := (0 : Int32)) hx hb dX4_init_61 (by decide) ?_
  refine lv_bipush (v := (100 : Int32)) hx hb dX4_init_62 (by decide) ?_
  obtain ⟨r23, g24, hf⟩ := obind hf
  refine fr_callI hx hb hml hts hown K hC hR (c_X6_init hfl D cA g24) 3 kw92 kw90 kw91 kw56 rfl (by decide +kernel) ⟨by exact Nat.le_of_ble_eq_true rfl, by exact Nat.le_of_ble_eq_true rfl⟩ rfl hl.1 (cat8 _ (by exact Nat.le_of_ble_eq_true rfl)) dX4_init_64 rfl (fun H locs _ _ hC => ?_)
  obtain ⟨h25, g26, hf⟩ := obind hf
  refine fr_putF hx hb hts hown K hC ct_4 g26 (by decide) kw165 rfl rfl hnm rfl (nR _ _) (fR _ _) dX4_init_67 (fun H locs hC => ?_)
  refine fr_aload_n hx hb dX4_init_70 rfl (lv_at hl 0 rfl) ?_
  refine lv_iconst (v := (1 : Int32)) hx hb dX4_init_71 (by decide) ?_
  obtain ⟨h27, g28, hf⟩ := obind hf
  refine fr_put hx hb hts hown K hC ct_4 g28 (by decide) kw167 rfl rfl rfl rfl dX4_init_72 (fun H locs hC => ?_)
  refine fr_aload_n hx hb dX4_init_75 rfl (lv_at hl 0 rfl) ?_
  refine lv_iconst (v := (1 : Int32)) hx hb dX4_init_76 (by decide) ?_
  obtain ⟨h29, g30, hf⟩ := obind hf
  refine fr_put hx hb hts hown K hC ct_4 g30 (by decide) kw170 rfl rfl rfl rfl dX4_init_77 (fun H locs hC => ?_)
  refine fr_aload_n hx hb dX4_init_80 rfl (lv_at hl 0 rfl) ?_
  refine lv_iload_n hx hb dX4_init_81 rfl (lv_at hl 1 rfl) ?_
  obtain ⟨h31, g32, hf⟩ := obind hf
  refine fr_putF hx hb hts hown K hC ct_4 g32 (by decide) kw150 rfl rfl hnm rfl rfl rfl dX4_init_82 (fun H locs hC => ?_)
  refine fr_aload_n hx hb dX4_init_85 rfl (lv_at hl 0 rfl) ?_
  refine lv_iload_n hx hb dX4_init_86 rfl (lv_at hl 2 rfl) ?_
  obtain ⟨h33, g34, hf⟩ := obind hf
  refine fr_putF hx hb hts hown K hC ct_4 g34 (by decide) kw152 rfl rfl hnm rfl rfl rfl dX4_init_87 (fun H locs hC => ?_)
  refine fr_aload_n hx hb dX4_init_90 rfl (lv_at hl 0 rfl) ?_
  obtain ⟨r35, g36, hf⟩ := obind hf
  refine fr_new hx hb hts hown K hC ct_2 hR g36 dv_2 kw127 kw128 kw57 dX4_init_91 (fun H _ _ hC => ?_)
  refine lv_dup hx hb dX4_init_94 (va_rf_cat _) ?_
  refine lv_iconst (v := (0 : Int32)) hx hb dX4_init_95 (by decide) ?_
  refine lv_iconst (v := (0 : Int32)) hx hb dX4_init_96 (by decide) ?_
  refine lv_iload_n hx hb dX4_init_97 rfl (lv_at hl 3 rfl) ?_
  refine lv_iload hx hb dX4_init_98 (lv_at hl 4 rfl) ?_
  obtain ⟨r37, g38, hf⟩ := obind hf
  refine fr_callI hx hb hml hts hown K hC hR (c_X2_init hfl D cA g38) 4 kw131 kw129 kw130 kw57 rfl (by decide +kernel) ⟨by exact Nat.le_of_ble_eq_true rfl, by exact Nat.le_of_ble_eq_true rfl⟩ rfl hl.1 (cat8 _ (by exact Nat.le_of_ble_eq_true rfl)) dX4_init_100 rfl (fun H locs _ _ hC => ?_)
  obtain ⟨h39, g40, hf⟩ := obind hf
  refine fr_putF hx hb hts hown K hC ct_4 g40 (by decide) kw154 rfl rfl hnm rfl (nR _ _) (fR _ _) dX4_init_103 (fun H locs hC => ?_)
  obtain rfl := Option.some.inj hf
  exact fr_vret hx hb hr hlocks hC dX4_init_106
set_option maxRecDepth 100000 in
theorem c_X4_init {l : Launch} (hfl : l.stackTraces = false) (D : va_G) (cA : Nat → ClassId) {o : Nat} {p0 : Int32} {p1 : Int32} {p2 : Int32} {p3 : Int32} {h : fSt} {r : (Unit × fSt)} (hf : f_X4_init o p0 p1 p2 p3 h = some r) : fMet l yX4_init (wsC yX4_init cX4_init 5 none) (2) (44) D cA [.ref o, .int p0, .int p1, .int p2, .int p3] h r.2 none := by
  exact fMet.of (own := RX4) (by decide +kernel) rfl (lva1 rfl (lva1 rfl (lva1 rfl (lva1 rfl (lva1 rfl lva0))))) (lgl1 rfl (lgl1 rfl (lgl1 rfl (lgl1 rfl (lgl1 rfl lgl0))))) (Nat.le_of_ble_eq_true rfl) (fun p e s m args below meth c ls hnm _ M hC hl => by
    have hl : lv_has ls 5 [(0, va_rf (some o)), (1, .int p0), (2, .int p1), (3, .int p2), (4, .int p3)] := hl
    exact w_X4_init_L0 M hfl (show meth.name = "<init>" from hnm) _ _ _ _ _ _ hf _ _ _ _ _ hC (lv_sub hl [0, 1, 2, 3, 4] rfl))
set_option maxHeartbeats 4000000 in
set_option maxRecDepth 100000 in
theorem w_X4_takeIn_L38 {p : Program} {l : Launch} {e : Env} {s : State} {m : MethodId} {args : Array Value} {below : List Frame} {meth : Method} {c : Code} {D : va_G} {cA : Nat → ClassId} {h0 : fSt} {r : (Unit × fSt)} (M : fM p s m args meth c D cA h0 { frames := 0, cells := fCB h0 - fZ h0, slots := fLB h0 - fL h0, locals := 0 } cX4_takeIn 4 none RX4) (hfl : l.stackTraces = false) (a0 : Option Nat) (a1 : Option Nat) (h : fSt) (hf : f_X4_takeIn_L38 a0 a1 h = some r) : ∀ (H : Heap) (locs : List Loc) (cells slots : Nat) (ls : Array Slot), fCur D cA s h0 h H locs → lv_has ls 4 [(0, va_rf a0), (1, va_rf a1)] → W p l e { frames := 0, cells := fCB h0 - fZ h0, slots := fLB h0 - fL h0, locals := 0 } s m args below meth c H locs cells slots (MQ below (fQ D cA h0 r.2 none) args s (fCB h0 - fZ h0) (fLB h0 - fL h0) (fA h0)) (F0 m 38 ls []) := by
  obtain ⟨hx, hb, hml, hr, hlocks, hts, hown, K, hR⟩ := id M
  intro H locs cells slots ls hC hl
  refine fr_aload_n hx hb dX4_takeIn_38 rfl (lv_at hl 1 rfl) ?_
  refine fr_null hx hb dX4_takeIn_39 ?_
  obtain ⟨h1, g2, hf⟩ := obind hf
  refine fr_put hx hb hts hown K hC ct_4 g2 (by decide) kw186 rfl rfl (nR _ _) (fR _ _) dX4_takeIn_40 (fun H locs hC => ?_)
  refine fr_aload_n hx hb dX4_takeIn_43 rfl (lv_at hl 1 rfl) ?_
  refine fr_aload_n hx hb dX4_takeIn_44 rfl (lv_at hl 0 rfl) ?_
  obtain ⟨h3, g4, hf⟩ := obind hf
  refine fr_put hx hb hts hown K hC ct_4 g4 (by decide) kw182 rfl rfl (nR _ _) (fR _ _) dX4_takeIn_45 (fun H locs hC => ?_)
  obtain rfl := Option.some.inj hf
  exact fr_vret hx hb hr hlocks hC dX4_takeIn_48
set_option maxHeartbeats 4000000 in
set_option maxRecDepth 100000 in
theorem w_X4_takeIn_L7 {p : Program} {l : Launch} {e : Env} {s : State} {m : MethodId} {args : Array Value} {below : List Frame} {meth : Method} {c : Code} {D : va_G} {cA : Nat → ClassId} {h0 : fSt} {r : (Unit × fSt)} (M : fM p s m args meth c D cA h0 { frames := 0, cells := fCB h0 - fZ h0, slots := fLB h0 - fL h0, locals := 0 } cX4_takeIn 4 none RX4) (hfl : l.stackTraces = false) : ∀ (n : Nat) (a0 : Option Nat) (a1 : Option Nat) (a2 : Option Nat) (a3 : Option Nat) (h : fSt), f_X4_takeIn_L7 n a0 a1 a2 a3 h = some r → ∀ (H : Heap) (locs : List Loc) (cells slots : Nat) (ls : Array Slot), fCur D cA s h0 h H locs → lv_has ls 4 [(0, va_rf a0), (1, va_rf a1), (2, va_rf a2), (3, va_rf a3)] → W p l e { frames := 0, cells := fCB h0 - fZ h0, slots := fLB h0 - fL h0, locals := 0 } s m args below meth c H locs cells slots (MQ below (fQ D cA h0 r.2 none) args s (fCB h0 - fZ h0) (fLB h0 - fL h0) (fA h0)) (F0 m 7 ls []) := by
  obtain ⟨hx, hb, hml, hr, hlocks, hts, hown, K, hR⟩ := id M
  intro n
  induction n with
  | zero =>
    intro a0 a1 a2 a3 h hf
    exact nomatch (show (none : Option (Unit × fSt)) = some r from hf)
  | succ n hk7 =>
    intro a0 a1 a2 a3 h hf H locs cells slots ls hC hl
    refine fr_aload_n hx hb dX4_takeIn_7 rfl (lv_at hl 3 rfl) ?_
    refine fr_ifnull (tgt := 21) hx hb dX4_takeIn_8 (by decide) (fun c5 => ?_) (fun c5 => ?_)
    · replace hf := opos c5 hf
      refine fr_aload_n hx hb dX4_takeIn_21 rfl (lv_at hl 2 rfl) ?_
      refine fr_ifnonnull (tgt := 33) hx hb dX4_takeIn_22 (by decide) (fun c6 => ?_) (fun c6 => ?_)
      · replace hf := oneg c6 hf
        refine fr_aload_n hx hb dX4_takeIn_33 rfl (lv_at hl 2 rfl) ?_
        refine fr_aload_n hx hb dX4_takeIn_34 rfl (lv_at hl 1 rfl) ?_
        obtain ⟨h7, g8, hf⟩ := obind hf
        refine fr_put hx hb hts hown K hC ct_4 g8 (by decide) kw186 rfl rfl (nR _ _) (fR _ _) dX4_takeIn_35 (fun H locs hC => ?_)
        exact w_X4_takeIn_L38 M hfl _ _ _ hf _ _ _ _ _ hC (lv_sub hl [0, 1] rfl)
      · replace hf := opos c6 hf
        refine fr_aload_n hx hb dX4_takeIn_25 rfl (lv_at hl 0 rfl) ?_
        refine fr_aload_n hx hb dX4_takeIn_26 rfl (lv_at hl 1 rfl) ?_
        obtain ⟨h9, g10, hf⟩ := obind hf
        refine fr_put hx hb hts hown K hC ct_4 g10 (by decide) kw184 rfl rfl (nR _ _) (fR _ _) dX4_takeIn_27 (fun H locs hC => ?_)
        refine lv_goto (tgt := 38) hx hb dX4_takeIn_30 (by decide) ?_
        exact w_X4_takeIn_L38 M hfl _ _ _ hf _ _ _ _ _ hC (lv_sub hl [0, 1] rfl)
    · replace hf := oneg c5 hf
      refine fr_aload_n hx hb dX4_takeIn_11 rfl (lv_at hl 3 rfl) ?_
      refine fr_astore_n (lv' := [(2, va_rf a3), (0, va_rf a0), (1, va_rf a1), (3, va_rf a3)]) hx hb dX4_takeIn_12 rfl hl (by decide) (congrArg (List.cons _) (flk rfl (flk (adj1 _ _) (fld rfl (flk rfl fln))))) (fun ls hl => ?_)
      refine fr_aload_n hx hb dX4_takeIn_13 rfl (lv_at hl 3 rfl) ?_
      obtain ⟨x11, g12, hf⟩ := obind hf
      refine fr_get hx hb hts hown K hC ct_4 (fgR_get g12) (by decide) kw186 rfl dX4_takeIn_14 ?_
      refine fr_astore_n (lv' := [(3, va_rf x11), (2, va_rf a3), (0, va_rf a0), (1, va_rf a1)]) hx hb dX4_takeIn_17 rfl hl (by decide) (congrArg (List.cons _) (flk (adj1 _ _) (flk rfl (flk rfl (fld rfl fln))))) (fun ls hl => ?_)
      refine lv_goto (tgt := 7) hx hb dX4_takeIn_18 (by decide) ?_
      exact hk7 _ _ _ _ _ hf _ _ _ _ _ hC (lv_sub hl [2, 3, 1, 0] rfl)
set_option maxHeartbeats 4000000 in
set_option maxRecDepth 100000 in
theorem w_X4_takeIn_L0 {p : Program} {l : Launch} {e : Env} {s : State} {m : MethodId} {args : Array Value} {below : List Frame} {meth : Method} {c : Code} {D : va_G} {cA : Nat → ClassId} {h0 : fSt} {r : (Unit × fSt)} (M : fM p s m args meth c D cA h0 { frames := 0, cells := fCB h0 - fZ h0, slots := fLB h0 - fL h0, locals := 0 } cX4_takeIn 4 none RX4) (hfl : l.stackTraces = false) (a0 : Option Nat) (a1 : Option Nat) (h : fSt) (hf : f_X4_takeIn_L0 a0 a1 h = some r) : ∀ (H : Heap) (locs : List Loc) (cells slots : Nat) (ls : Array Slot), fCur D cA s h0 h H locs → lv_has ls 4 [(0, va_rf a0), (1, va_rf a1)] → W p l e { frames := 0, cells := fCB h0 - fZ h0, slots := fLB h0 - fL h0, locals := 0 } s m args below meth c H locs cells slots (MQ below (fQ D cA h0 r.2 none) args s (fCB h0 - fZ h0) (fLB h0 - fL h0) (fA h0)) (F0 m 0 ls []) := by
  obtain ⟨hx, hb, hml, hr, hlocks, hts, hown, K, hR⟩ := id M
  intro H locs cells slots ls hC hl
  refine fr_null hx hb dX4_takeIn_0 ?_
  refine fr_astore_n (lv' := [(2, va_rf none), (0, va_rf a0), (1, va_rf a1)]) hx hb dX4_takeIn_1 rfl hl (by decide) (congrArg (List.cons _) (flk rfl (flk (adj1 _ _) fln))) (fun ls hl => ?_)
  refine fr_aload_n hx hb dX4_takeIn_2 rfl (lv_at hl 1 rfl) ?_
  obtain ⟨x13, g14, hf⟩ := obind hf
  refine fr_get hx hb hts hown K hC ct_4 (fgR_get g14) (by decide) kw184 rfl dX4_takeIn_3 ?_
  refine fr_astore_n (lv' := [(3, va_rf x13), (2, va_rf none), (0, va_rf a0), (1, va_rf a1)]) hx hb dX4_takeIn_6 rfl hl (by decide) (congrArg (List.cons _) (flk (adj1 _ _) (flk rfl (flk rfl fln)))) (fun ls hl => ?_)
  exact w_X4_takeIn_L7 M hfl 4096 _ _ _ _ _ hf _ _ _ _ _ hC (lv_sub hl [2, 3, 1, 0] rfl)
set_option maxRecDepth 100000 in
theorem c_X4_takeIn {l : Launch} (hfl : l.stackTraces = false) (D : va_G) (cA : Nat → ClassId) {o : Nat} {p0 : Option Nat} {h : fSt} {r : (Unit × fSt)} (hf : f_X4_takeIn o p0 h = some r) : fMet l yX4_takeIn (wsC yX4_takeIn cX4_takeIn 4 none) (0) (0) D cA [.ref o, va_rf p0] h r.2 none := by
  exact fMet.of (own := RX4) (by decide +kernel) rfl (lva1 rfl (lva1 (va_rf_cat _) lva0)) (lgl1 rfl (lgl1 (va_rf_cat _) lgl0)) (Nat.le_of_ble_eq_true rfl) (fun p e s m args below meth c ls hnm _ M hC hl => by
    have hl : lv_has ls 4 [(0, va_rf (some o)), (1, va_rf p0)] := hl
    exact w_X4_takeIn_L0 M hfl _ _ _ hf _ _ _ _ _ hC (lv_sub hl [0, 1] rfl))
set_option maxHeartbeats 4000000 in
set_option maxRecDepth 100000 in
theorem w_X7_nodeOrNull_L13 {p : Program} {l : Launch} {e : Env} {s : State} {m : MethodId} {args : Array Value} {below : List Frame} {meth : Method} {c : Code} {D : va_G} {cA : Nat → ClassId} {h0 : fSt} {r : (Option Nat × fSt)} (M : fM p s m args meth c D cA h0 { frames := 0, cells := fCB h0 - fZ h0, slots := fLB h0 - fL h0, locals := 0 } cX7_nodeOrNull 3 (some (.object "TapestryScene$Node")) RX7) (hfl : l.stackTraces = false)  (h : fSt) (hf : f_X7_nodeOrNull_L13  h = some r) : ∀ (H : Heap) (locs : List Loc) (cells slots : Nat) (ls : Array Slot), fCur D cA s h0 h H locs → lv_has ls 3 [] → W p l e { frames := 0, cells := fCB h0 - fZ h0, slots := fLB h0 - fL h0, locals := 0 } s m args below meth c H locs cells slots (MQ below (fQ D cA h0 r.2 (some (va_rf r.1))) args s (fCB h0 - fZ h0) (fLB h0 - fL h0) (fA h0)) (F0 m 13 ls []) := by
  obtain ⟨hx, hb, hml, hr, hlocks, hts, hown, K, hR⟩ := id M
  intro H locs cells slots ls hC hl
  refine fr_null hx hb dX7_nodeOrNull_13 ?_
  obtain rfl := Option.some.inj hf
  exact fr_aret hx hb hr (Or.inl ⟨_, rfl⟩) hlocks hC dX7_nodeOrNull_14
set_option maxHeartbeats 4000000 in
set_option maxRecDepth 100000 in
theorem w_X7_nodeOrNull_L38 {p : Program} {l : Launch} {e : Env} {s : State} {m : MethodId} {args : Array Value} {below : List Frame} {meth : Method} {c : Code} {D : va_G} {cA : Nat → ClassId} {h0 : fSt} {r : (Option Nat × fSt)} (M : fM p s m args meth c D cA h0 { frames := 0, cells := fCB h0 - fZ h0, slots := fLB h0 - fL h0, locals := 0 } cX7_nodeOrNull 3 (some (.object "TapestryScene$Node")) RX7) (hfl : l.stackTraces = false) (s0 : Option Nat) (h : fSt) (hf : f_X7_nodeOrNull_L38 s0 h = some r) : ∀ (H : Heap) (locs : List Loc) (cells slots : Nat) (ls : Array Slot), fCur D cA s h0 h H locs → lv_has ls 3 [] → W p l e { frames := 0, cells := fCB h0 - fZ h0, slots := fLB h0 - fL h0, locals := 0 } s m args below meth c H locs cells slots (MQ below (fQ D cA h0 r.2 (some (va_rf r.1))) args s (fCB h0 - fZ h0) (fLB h0 - fL h0) (fA h0)) (F0 m 38 ls [va_rf s0]) := by
  obtain ⟨hx, hb, hml, hr, hlocks, hts, hown, K, hR⟩ := id M
  intro H locs cells slots ls hC hl
  obtain rfl := Option.some.inj hf
  exact fr_aret hx hb hr (Or.inl ⟨_, rfl⟩) hlocks hC dX7_nodeOrNull_38
set_option maxHeartbeats 4000000 in
set_option maxRecDepth 100000 in
theorem w_X7_nodeOrNull_L33 {p : Program} {l : Launch} {e : Env} {s : State} {m : MethodId} {args : Array Value} {below : List Frame} {meth : Method} {c : Code} {D : va_G} {cA : Nat → ClassId} {h0 : fSt} {r : (Option Nat × fSt)} (M : fM p s m args meth c D cA h0 { frames := 0, cells := fCB h0 - fZ h0, slots := fLB h0 - fL h0, locals := 0 } cX7_nodeOrNull 3 (some (.object "TapestryScene$Node")) RX7) (hfl : l.stackTraces = false)  (h : fSt) (hf : f_X7_nodeOrNull_L33  h = some r) : ∀ (H : Heap) (locs : List Loc) (cells slots : Nat) (ls : Array Slot), fCur D cA s h0 h H locs → lv_has ls 3 [] → W p l e { frames := 0, cells := fCB h0 - fZ h0, slots := fLB h0 - fL h0, locals := 0 } s m args below meth c H locs cells slots (MQ below (fQ D cA h0 r.2 (some (va_rf r.1))) args s (fCB h0 - fZ h0) (fLB h0 - fL h0) (fA h0)) (F0 m 33 ls []) := by
  obtain ⟨hx, hb, hml, hr, hlocks, hts, hown, K, hR⟩ := id M
  intro H locs cells slots ls hC hl
  refine fr_null hx hb dX7_nodeOrNull_33 ?_
  refine lv_goto (tgt := 38) hx hb dX7_nodeOrNull_34 (by decide) ?_
  exact w_X7_nodeOrNull_L38 M hfl _ _ hf _ _ _ _ _ hC (lv_sub hl [] rfl)
set_option maxHeartbeats 4000000 in
set_option maxRecDepth 100000 in
theorem w_X7_nodeOrNull_L0 {p : Program} {l : Launch} {e : Env} {s : State} {m : MethodId} {args : Array Value} {below : List Frame} {meth : Method} {c : Code} {D : va_G} {cA : Nat → ClassId} {h0 : fSt} {r : (Option Nat × fSt)} (M : fM p s m args meth c D cA h0 { frames := 0, cells := fCB h0 - fZ h0, slots := fLB h0 - fL h0, locals := 0 } cX7_nodeOrNull 3 (some (.object "TapestryScene$Node")) RX7) (hfl : l.stackTraces = false) (a0 : Option Nat) (a1 : Int32) (h : fSt) (hf : f_X7_nodeOrNull_L0 a0 a1 h = some r) : ∀ (H : Heap) (locs : List Loc) (cells slots : Nat) (ls : Array Slot), fCur D cA s h0 h H locs → lv_has ls 3 [(0, va_rf a0), (1, .int a1)] → W p l e { frames := 0, cells := fCB h0 - fZ h0, slots := fLB h0 - fL h0, locals := 0 } s m args below meth c H locs cells slots (MQ below (fQ D cA h0 r.2 (some (va_rf r.1))) args s (fCB h0 - fZ h0) (fLB h0 - fL h0) (fA h0)) (F0 m 0 ls []) := by
  obtain ⟨hx, hb, hml, hr, hlocks, hts, hown, K, hR⟩ := id M
  intro H locs cells slots ls hC hl
  refine lv_iload_n hx hb dX7_nodeOrNull_0 rfl (lv_at hl 1 rfl) ?_
  refine lv_if_lt (tgt := 13) hx hb dX7_nodeOrNull_1 (by decide) (fun c1 => ?_) (fun c1 => ?_)
  · replace hf := opos c1 hf
    exact w_X7_nodeOrNull_L13 M hfl _ hf _ _ _ _ _ hC (lv_sub hl [] rfl)
  · replace hf := oneg c1 hf
    refine lv_iload_n hx hb dX7_nodeOrNull_4 rfl (lv_at hl 1 rfl) ?_
    refine fr_aload_n hx hb dX7_nodeOrNull_5 rfl (lv_at hl 0 rfl) ?_
    obtain ⟨x2, g3, hf⟩ := obind hf
    refine fr_get hx hb hts hown K hC ct_7 (fgR_get g3) (by decide) kw289 rfl dX7_nodeOrNull_6 ?_
    obtain ⟨x4, g5, hf⟩ := obind hf
    refine fr_alen hx hb K hC (t := 4) rfl g5 dX7_nodeOrNull_9 ?_
    refine lv_icmp_lt (tgt := 15) hx hb dX7_nodeOrNull_10 (by decide) (fun c6 => ?_) (fun c6 => ?_)
    · replace hf := opos c6 hf
      refine fr_aload_n hx hb dX7_nodeOrNull_15 rfl (lv_at hl 0 rfl) ?_
      obtain ⟨x7, g8, hf⟩ := obind hf
      refine fr_get hx hb hts hown K hC ct_7 (fgR_get g8) (by decide) kw289 rfl dX7_nodeOrNull_16 ?_
      refine lv_iload_n hx hb dX7_nodeOrNull_19 rfl (lv_at hl 1 rfl) ?_
      obtain ⟨x9, g10, hf⟩ := obind hf
      refine fr_aald hx hb K hC (t := 4) rfl g10 dX7_nodeOrNull_20 ?_
      refine fr_astore_n (lv' := [(2, va_rf x9), (0, va_rf a0), (1, .int a1)]) hx hb dX7_nodeOrNull_21 rfl hl (by decide) (congrArg (List.cons _) (flk rfl (flk rfl fln))) (fun ls hl => ?_)
      refine fr_aload_n hx hb dX7_nodeOrNull_22 rfl (lv_at hl 0 rfl) ?_
      refine fr_ifnull (tgt := 33) hx hb dX7_nodeOrNull_23 (by decide) (fun c11 => ?_) (fun c11 => ?_)
      · replace hf := opos c11 hf
        exact w_X7_nodeOrNull_L33 M hfl _ hf _ _ _ _ _ hC (lv_sub hl [] rfl)
      · replace hf := oneg c11 hf
        refine fr_aload_n hx hb dX7_nodeOrNull_26 rfl (lv_at hl 0 rfl) ?_
        obtain ⟨x12, g13, hf⟩ := obind hf
        refine fr_get hx hb hts hown K hC ct_4 (fgI_get g13) (by decide) kw181 rfl dX7_nodeOrNull_27 ?_
        refine lv_if_eq (tgt := 37) hx hb dX7_nodeOrNull_30 (by decide) (fun c14 => ?_) (fun c14 => ?_)
        · replace hf := opos c14 hf
          refine fr_aload_n hx hb dX7_nodeOrNull_37 rfl (lv_at hl 0 rfl) ?_
          exact w_X7_nodeOrNull_L38 M hfl _ _ hf _ _ _ _ _ hC (lv_sub hl [] rfl)
        · replace hf := oneg c14 hf
          exact w_X7_nodeOrNull_L33 M hfl _ hf _ _ _ _ _ hC (lv_sub hl [] rfl)
    · replace hf := oneg c6 hf
      exact w_X7_nodeOrNull_L13 M hfl _ hf _ _ _ _ _ hC (lv_sub hl [] rfl)
set_option maxRecDepth 100000 in
theorem c_X7_nodeOrNull {l : Launch} (hfl : l.stackTraces = false) (D : va_G) (cA : Nat → ClassId) {o : Nat} {p0 : Int32} {h : fSt} {r : (Option Nat × fSt)} (hf : f_X7_nodeOrNull o p0 h = some r) : fMet l yX7_nodeOrNull (wsC yX7_nodeOrNull cX7_nodeOrNull 3 (some (.object "TapestryScene$Node"))) (0) (0) D cA [.ref o, .int p0] h r.2 (some (va_rf r.1)) := by
  exact fMet.of (own := RX7) (by decide +kernel) rfl (lva1 rfl (lva1 rfl lva0)) (lgl1 rfl (lgl1 rfl lgl0)) (Nat.le_of_ble_eq_true rfl) (fun p e s m args below meth c ls hnm _ M hC hl => by
    have hl : lv_has ls 3 [(0, va_rf (some o)), (1, .int p0)] := hl
    exact w_X7_nodeOrNull_L0 M hfl _ _ _ hf _ _ _ _ _ hC (lv_sub hl [0, 1] rfl))
set_option maxHeartbeats 4000000 in
set_option maxRecDepth 100000 in
theorem w_X7_found_L0 {p : Program} {l : Launch} {e : Env} {s : State} {m : MethodId} {args : Array Value} {below : List Frame} {meth : Method} {c : Code} {D : va_G} {cA : Nat → ClassId} {h0 : fSt} {r : ((Option Nat ⊕ Nat) × fSt)} (M : fM p s m args meth c D cA h0 { frames := 6, cells := fCB h0 - fZ h0, slots := fLB h0 - fL h0, locals := 90 } cX7_found 3 (some (.object "TapestryScene$Node")) RX7) (hfl : l.stackTraces = false) (hno : ∀ x ∈ c.exceptionTable.toList, False) (a0 : Option Nat) (a1 : Int32) (h : fSt) (hf : f_X7_found_L0 a0 a1 h = some r) : ∀ (H : Heap) (locs : List Loc) (cells slots : Nat) (ls : Array Slot), fCur D cA s h0 h H locs → lv_has ls 3 [(0, va_rf a0), (1, .int a1)] → W p l e { frames := 6, cells := fCB h0 - fZ h0, slots := fLB h0 - fL h0, locals := 90 } s m args below meth c H locs cells slots (vx_MQ below (fQX D cA h0 r.2 (rR r.1)) (fXC D cA h0 r.2 (rR r.1)) args s (fCB h0 - fZ h0) (fLB h0 - fL h0) (fA h0)) (F0 m 0 ls []) := by
  obtain ⟨hx, hb, hml, hr, hlocks, hts, hown, K, hR⟩ := id M
  intro H locs cells slots ls hC hl
  refine fr_aload_n hx hb dX7_found_0 rfl (lv_at hl 0 rfl) ?_
  refine lv_iload_n hx hb dX7_found_1 rfl (lv_at hl 1 rfl) ?_
  obtain ⟨b3, q4, hf⟩ := obind hf
  obtain ⟨r1, g2, hf⟩ := obind hf
  refine fr_callV hx hb hml hts hown K hC hR ct_7 (c_X7_nodeOrNull hfl D cA g2) 1 q4 kw353 kw350 kw352 kw0 kw54 (by decide +kernel) ⟨by exact Nat.le_of_ble_eq_true rfl, by exact Nat.le_of_ble_eq_true rfl⟩ rfl hl.1 (cat8 _ (by exact Nat.le_of_ble_eq_true rfl)) dX7_found_2 rfl (fun H locs _ _ hC => ?_)
  refine fr_astore_n (lv' := [(2, va_rf r1.1), (0, va_rf a0), (1, .int a1)]) hx hb dX7_found_5 rfl hl (by decide) (congrArg (List.cons _) (flk rfl (flk rfl fln))) (fun ls hl => ?_)
  refine fr_aload_n hx hb dX7_found_6 rfl (lv_at hl 0 rfl) ?_
  refine fr_ifnonnull (tgt := 21) hx hb dX7_found_7 (by decide) (fun c5 => ?_) (fun c5 => ?_)
  · replace hf := oneg c5 hf
    refine fr_aload_n hx hb dX7_found_21 rfl (lv_at hl 0 rfl) ?_
    obtain rfl := Option.some.inj hf
    exact fr_retQ (fr_aret hx hb hr (Or.inl ⟨_, rfl⟩) hlocks hC dX7_found_22)
  · replace hf := opos c5 hf
    obtain ⟨h6, g7, hf⟩ := obind hf
    obtain rfl := Option.some.inj hf
    exact fr_throwSW hx hb hml hts hfl hown K hC hR th_RX7_290_294_0 st_RX7_343 hl.1 dX7_found_10 dX7_found_13 dX7_found_14 dX7_found_17 dX7_found_20 hno (by exact Nat.le_of_ble_eq_true rfl) (catL _ _ (by exact Nat.le_of_ble_eq_true rfl) (by exact Nat.le_of_ble_eq_true rfl)) hlocks g7
set_option maxRecDepth 100000 in
theorem c_X7_found {l : Launch} (hfl : l.stackTraces = false) (D : va_G) (cA : Nat → ClassId) {o : Nat} {p0 : Int32} {h : fSt} {r : ((Option Nat ⊕ Nat) × fSt)} (hf : f_X7_found o p0 h = some r) : fMetX l yX7_found (wsC yX7_found cX7_found 3 (some (.object "TapestryScene$Node"))) (6) (90) D cA [.ref o, .int p0] h r.2 (rR r.1) := by
  exact fMetX.of (own := RX7) (by decide +kernel) rfl (lva1 rfl (lva1 rfl lva0)) (lgl1 rfl (lgl1 rfl lgl0)) (Nat.le_of_ble_eq_true rfl) (fun p e s m args below meth c ls hno M hC hl => by
    have hl : lv_has ls 3 [(0, va_rf (some o)), (1, .int p0)] := hl
    exact w_X7_found_L0 M hfl hno _ _ _ hf _ _ _ _ _ hC (lv_sub hl [0, 1] rfl))
set_option maxHeartbeats 4000000 in
set_option maxRecDepth 100000 in
theorem w_X7_isFrom_L15 {p : Program} {l : Launch} {e : Env} {s : State} {m : MethodId} {args : Array Value} {below : List Frame} {meth : Method} {c : Code} {D : va_G} {cA : Nat → ClassId} {h0 : fSt} {r : (Int32 × fSt)} (M : fM p s m args meth c D cA h0 { frames := 0, cells := fCB h0 - fZ h0, slots := fLB h0 - fL h0, locals := 0 } cX7_isFrom 3 (some (.boolean)) RX7) (hfl : l.stackTraces = false) (s0 : Int32) (h : fSt) (hf : f_X7_isFrom_L15 s0 h = some r) : ∀ (H : Heap) (locs : List Loc) (cells slots : Nat) (ls : Array Slot), fCur D cA s h0 h H locs → lv_has ls 3 [] → W p l e { frames := 0, cells := fCB h0 - fZ h0, slots := fLB h0 - fL h0, locals := 0 } s m args below meth c H locs cells slots (MQ below (fQ D cA h0 r.2 (some (.int r.1))) args s (fCB h0 - fZ h0) (fLB h0 - fL h0) (fA h0)) (F0 m 15 ls [.int s0]) := by
  obtain ⟨hx, hb, hml, hr, hlocks, hts, hown, K, hR⟩ := id M
  intro H locs cells slots ls hC hl
  by_cases c1 : s0 = 0 ∨ s0 = 1
  rotate_left
  · exact nomatch (oneg c1 hf)
  obtain rfl := Option.some.inj (opos c1 hf)
  exact fr_zret hx hb hr hlocks hC c1 dX7_isFrom_15
set_option maxHeartbeats 4000000 in
set_option maxRecDepth 100000 in
theorem w_X7_isFrom_L14 {p : Program} {l : Launch} {e : Env} {s : State} {m : MethodId} {args : Array Value} {below : List Frame} {meth : Method} {c : Code} {D : va_G} {cA : Nat → ClassId} {h0 : fSt} {r : (Int32 × fSt)} (M : fM p s m args meth c D cA h0 { frames := 0, cells := fCB h0 - fZ h0, slots := fLB h0 - fL h0, locals := 0 } cX7_isFrom 3 (some (.boolean)) RX7) (hfl : l.stackTraces = false)  (h : fSt) (hf : f_X7_isFrom_L14  h = some r) : ∀ (H : Heap) (locs : List Loc) (cells slots : Nat) (ls : Array Slot), fCur D cA s h0 h H locs → lv_has ls 3 [] → W p l e { frames := 0, cells := fCB h0 - fZ h0, slots := fLB h0 - fL h0, locals := 0 } s m args below meth c H locs cells slots (MQ below (fQ D cA h0 r.2 (some (.int r.1))) args s (fCB h0 - fZ h0) (fLB h0 - fL h0) (fA h0)) (F0 m 14 ls []) := by
  obtain ⟨hx, hb, hml, hr, hlocks, hts, hown, K, hR⟩ := id M
  intro H locs cells slots ls hC hl
  refine lv_iconst (v := (0 : Int32)) hx hb dX7_isFrom_14 (by decide) ?_
  exact w_X7_isFrom_L15 M hfl _ _ hf _ _ _ _ _ hC (lv_sub hl [] rfl)
set_option maxHeartbeats 4000000 in
set_option maxRecDepth 100000 in
theorem w_X7_isFrom_L0 {p : Program} {l : Launch} {e : Env} {s : State} {m : MethodId} {args : Array Value} {below : List Frame} {meth : Method} {c : Code} {D : va_G} {cA : Nat → ClassId} {h0 : fSt} {r : (Int32 × fSt)} (M : fM p s m args meth c D cA h0 { frames := 0, cells := fCB h0 - fZ h0, slots := fLB h0 - fL h0, locals := 0 } cX7_isFrom 3 (some (.boolean)) RX7) (hfl : l.stackTraces = false) (a0 : Int32) (a1 : Int32) (a2 : Int32) (h : fSt) (hf : f_X7_isFrom_L0 a0 a1 a2 h = some r) : ∀ (H : Heap) (locs : List Loc) (cells slots : Nat) (ls : Array Slot), fCur D cA s h0 h H locs → lv_has ls 3 [(0, .int a0), (1, .int a1), (2, .int a2)] → W p l e { frames := 0, cells := fCB h0 - fZ h0, slots := fLB h0 - fL h0, locals := 0 } s m args below meth c H locs cells slots (MQ below (fQ D cA h0 r.2 (some (.int r.1))) args s (fCB h0 - fZ h0) (fLB h0 - fL h0) (fA h0)) (F0 m 0 ls []) := by
  obtain ⟨hx, hb, hml, hr, hlocks, hts, hown, K, hR⟩ := id M
  intro H locs cells slots ls hC hl
  refine lv_iload_n hx hb dX7_isFrom_0 rfl (lv_at hl 0 rfl) ?_
  refine lv_iload_n hx hb dX7_isFrom_1 rfl (lv_at hl 1 rfl) ?_
  refine lv_icmp_lt (tgt := 14) hx hb dX7_isFrom_2 (by decide) (fun c2 => ?_) (fun c2 => ?_)
  · replace hf := opos c2 hf
    exact w_X7_isFrom_L14 M hfl _ hf _ _ _ _ _ hC (lv_sub hl [] rfl)
  · replace hf := oneg c2 hf
    refine lv_iload_n hx hb dX7_isFrom_5 rfl (lv_at hl 0 rfl) ?_
    refine lv_iload_n hx hb dX7_isFrom_6 rfl (lv_at hl 2 rfl) ?_
    refine lv_icmp_gt (tgt := 14) hx hb dX7_isFrom_7 (by decide) (fun c3 => ?_) (fun c3 => ?_)
    · replace hf := opos c3 hf
      exact w_X7_isFrom_L14 M hfl _ hf _ _ _ _ _ hC (lv_sub hl [] rfl)
    · replace hf := oneg c3 hf
      refine lv_iconst (v := (1 : Int32)) hx hb dX7_isFrom_10 (by decide) ?_
      refine lv_goto (tgt := 15) hx hb dX7_isFrom_11 (by decide) ?_
      exact w_X7_isFrom_L15 M hfl _ _ hf _ _ _ _ _ hC (lv_sub hl [] rfl)
set_option maxRecDepth 100000 in
theorem c_X7_isFrom {l : Launch} (hfl : l.stackTraces = false) (D : va_G) (cA : Nat → ClassId) {p0 : Int32} {p1 : Int32} {p2 : Int32} {h : fSt} {r : (Int32 × fSt)} (hf : f_X7_isFrom p0 p1 p2 h = some r) : fMet l yX7_isFrom (wsC yX7_isFrom cX7_isFrom 3 (some (.boolean))) (0) (0) D cA [.int p0, .int p1, .int p2] h r.2 (some (.int r.1)) := by
  exact fMet.of (own := RX7) (by decide +kernel) rfl (lva1 rfl (lva1 rfl (lva1 rfl lva0))) (lgl1 rfl (lgl1 rfl (lgl1 rfl lgl0))) (Nat.le_of_ble_eq_true rfl) (fun p e s m args below meth c ls hnm _ M hC hl => by
    have hl : lv_has ls 3 [(0, .int p0), (1, .int p1), (2, .int p2)] := hl
    exact w_X7_isFrom_L0 M hfl _ _ _ _ hf _ _ _ _ _ hC (lv_sub hl [0, 1, 2] rfl))
set_option maxHeartbeats 4000000 in
set_option maxRecDepth 100000 in
theorem w_X7_layHanging_L38 {p : Program} {l : Launch} {e : Env} {s : State} {m : MethodId} {args : Array Value} {below : List Frame} {meth : Method} {c : Code} {D : va_G} {cA : Nat → ClassId} {h0 : fSt} {self : Nat → Option Nat → Int32 → fSt → Option (Unit × fSt)} {fd ld : Nat} {r : (Unit × fSt)} (hself : ∀ {o : Nat} {p0 : Option Nat} {p1 : Int32} {h : fSt} {r : (Unit × fSt)}, self o p0 p1 h = some r → fMet l yX7_lay (wsC yX7_lay cX7_lay 3 none) fd ld D cA [.ref o, va_rf p0, .int p1] h r.2 none) (M : fM p s m args meth c D cA h0 { frames := fd + 1, cells := fCB h0 - fZ h0, slots := fLB h0 - fL h0, locals := ld + 22 } cX7_layHanging 7 none RX7) (hfl : l.stackTraces = false) {k3 : Option Nat → Option Nat → Int32 → Int32 → Int32 → fSt → Option (Unit × fSt)} (hk3 : ∀ (a0 : Option Nat) (a1 : Option Nat) (a3 : Int32) (a4 : Int32) (a5 : Int32) (h : fSt), k3 a0 a1 a3 a4 a5 h = some r → ∀ (H : Heap) (locs : List Loc) (cells slots : Nat) (ls : Array Slot), fCur D cA s h0 h H locs → lv_has ls 7 [(0, va_rf a0), (1, va_rf a1), (3, .int a3), (4, .int a4), (5, .int a5)] → W p l e { frames := fd + 1, cells := fCB h0 - fZ h0, slots := fLB h0 - fL h0, locals := ld + 22 } s m args below meth c H locs cells slots (MQ below (fQ D cA h0 r.2 none) args s (fCB h0 - fZ h0) (fLB h0 - fL h0) (fA h0)) (F0 m 3 ls [])) {k15 : Option Nat → Option Nat → Int32 → Int32 → Int32 → Option Nat → fSt → Option (Unit × fSt)} (hk15 : ∀ (a0 : Option Nat) (a1 : Option Nat) (a3 : Int32) (a4 : Int32) (a5 : Int32) (a6 : Option Nat) (h : fSt), k15 a0 a1 a3 a4 a5 a6 h = some r → ∀ (H : Heap) (locs : List Loc) (cells slots : Nat) (ls : Array Slot), fCur D cA s h0 h H locs → lv_has ls 7 [(0, va_rf a0), (1, va_rf a1), (3, .int a3), (4, .int a4), (5, .int a5), (6, va_rf a6)] → W p l e { frames := fd + 1, cells := fCB h0 - fZ h0, slots := fLB h0 - fL h0, locals := ld + 22 } s m args below meth c H locs cells slots (MQ below (fQ D cA h0 r.2 none) args s (fCB h0 - fZ h0) (fLB h0 - fL h0) (fA h0)) (F0 m 15 ls [])) (a0 : Option Nat) (a1 : Option Nat) (a3 : Int32) (a4 : Int32) (a5 : Int32) (a6 : Option Nat) (h : fSt) (hf : f_X7_layHanging_L38 self k3 k15 a0 a1 a3 a4 a5 a6 h = some r) : ∀ (H : Heap) (locs : List Loc) (cells slots : Nat) (ls : Array Slot), fCur D cA s h0 h H locs → lv_has ls 7 [(0, va_rf a0), (1, va_rf a1), (3, .int a3), (4, .int a4), (5, .int a5), (6, va_rf a6)] → W p l e { frames := fd + 1, cells := fCB h0 - fZ h0, slots := fLB h0 - fL h0, locals := ld + 22 } s m args below meth c H locs cells slots (MQ below (fQ D cA h0 r.2 none) args s (fCB h0 - fZ h0) (fLB h0 - fL h0) (fA h0)) (F0 m 38 ls []) := by
  obtain ⟨hx, hb, hml, hr, hlocks, hts, hown, K, hR⟩ := id M
  intro H locs cells slots ls hC hl
  refine fr_aload hx hb dX7_layHanging_38 (lv_at hl 5 rfl) ?_
  obtain ⟨x1, g2, hf⟩ := obind hf
  refine fr_get hx hb hts hown K hC ct_4 (fgR_get g2) (by decide) kw187 rfl dX7_layHanging_40 ?_
  refine fr_astore (lv' := [(6, va_rf x1), (0, va_rf a0), (1, va_rf a1), (3, .int a3), (4, .int a4), (5, .int a5)]) hx hb dX7_layHanging_43 hl (by decide) (congrArg (List.cons _) (flk rfl (flk rfl (flk rfl (flk rfl (flk rfl (fld rfl fln))))))) (fun ls hl => ?_)
  refine lv_goto (tgt := 15) hx hb dX7_layHanging_45 (by decide) ?_
  exact hk15 _ _ _ _ _ _ _ hf _ _ _ _ _ hC (lv_sub hl [1, 2, 3, 4, 5, 0] rfl)
set_option maxHeartbeats 4000000 in
set_option maxRecDepth 100000 in
theorem w_X7_layHanging_L15 {p : Program} {l : Launch} {e : Env} {s : State} {m : MethodId} {args : Array Value} {below : List Frame} {meth : Method} {c : Code} {D : va_G} {cA : Nat → ClassId} {h0 : fSt} {self : Nat → Option Nat → Int32 → fSt → Option (Unit × fSt)} {fd ld : Nat} {r : (Unit × fSt)} (hself : ∀ {o : Nat} {p0 : Option Nat} {p1 : Int32} {h : fSt} {r : (Unit × fSt)}, self o p0 p1 h = some r → fMet l yX7_lay (wsC yX7_lay cX7_lay 3 none) fd ld D cA [.ref o, va_rf p0, .int p1] h r.2 none) (M : fM p s m args meth c D cA h0 { frames := fd + 1, cells := fCB h0 - fZ h0, slots := fLB h0 - fL h0, locals := ld + 22 } cX7_layHanging 7 none RX7) (hfl : l.stackTraces = false) {k3 : Option Nat → Option Nat → Int32 → Int32 → Int32 → fSt → Option (Unit × fSt)} (hk3 : ∀ (a0 : Option Nat) (a1 : Option Nat) (a3 : Int32) (a4 : Int32) (a5 : Int32) (h : fSt), k3 a0 a1 a3 a4 a5 h = some r → ∀ (H : Heap) (locs : List Loc) (cells slots : Nat) (ls : Array Slot), fCur D cA s h0 h H locs → lv_has ls 7 [(0, va_rf a0), (1, va_rf a1), (3, .int a3), (4, .int a4), (5, .int a5)] → W p l e { frames := fd + 1, cells := fCB h0 - fZ h0, slots := fLB h0 - fL h0, locals := ld + 22 } s m args below meth c H locs cells slots (MQ below (fQ D cA h0 r.2 none) args s (fCB h0 - fZ h0) (fLB h0 - fL h0) (fA h0)) (F0 m 3 ls [])) : ∀ (n : Nat) (a0 : Option Nat) (a1 : Option Nat) (a3 : Int32) (a4 : Int32) (a5 : Int32) (a6 : Option Nat) (h : fSt), f_X7_layHanging_L15 self k3 n a0 a1 a3 a4 a5 a6 h = some r → ∀ (H : Heap) (locs : List Loc) (cells slots : Nat) (ls : Array Slot), fCur D cA s h0 h H locs → lv_has ls 7 [(0, va_rf a0), (1, va_rf a1), (3, .int a3), (4, .int a4), (5, .int a5), (6, va_rf a6)] → W p l e { frames := fd + 1, cells := fCB h0 - fZ h0, slots := fLB h0 - fL h0, locals := ld + 22 } s m args below meth c H locs cells slots (MQ below (fQ D cA h0 r.2 none) args s (fCB h0 - fZ h0) (fLB h0 - fL h0) (fA h0)) (F0 m 15 ls []) := by
  obtain ⟨hx, hb, hml, hr, hlocks, hts, hown, K, hR⟩ := id M
  intro n
  induction n with
  | zero =>
    intro a0 a1 a3 a4 a5 a6 h hf
    exact nomatch (show (none : Option (Unit × fSt)) = some r from hf)
  | succ n hk15 =>
    intro a0 a1 a3 a4 a5 a6 h hf H locs cells slots ls hC hl
    refine fr_aload hx hb dX7_layHanging_15 (lv_at hl 5 rfl) ?_
    refine fr_ifnull (tgt := 48) hx hb dX7_layHanging_17 (by decide) (fun c3 => ?_) (fun c3 => ?_)
    · replace hf := opos c3 hf
      refine lv_iinc (v := (a5 + (1 : Int32))) (lv' := [(5, .int (a5 + (1 : Int32))), (0, va_rf a0), (1, va_rf a1), (3, .int a3), (4, .int a4), (6, va_rf a6)]) hx hb dX7_layHanging_48 hl (k := 4) rfl rfl (by decide) (congrArg (List.cons _) (flk rfl (flk rfl (flk rfl (flk rfl (fld rfl (flk rfl fln))))))) (fun ls hl => ?_)
      refine lv_goto (tgt := 3) hx hb dX7_layHanging_51 (by decide) ?_
      exact hk3 _ _ _ _ _ _ hf _ _ _ _ _ hC (lv_sub hl [1, 2, 3, 4, 0] rfl)
    · replace hf := oneg c3 hf
      refine fr_aload hx hb dX7_layHanging_20 (lv_at hl 5 rfl) ?_
      obtain ⟨x4, g5, hf⟩ := obind hf
      refine fr_get hx hb hts hown K hC ct_4 (fgI_get g5) (by decide) kw175 rfl dX7_layHanging_22 ?_
      refine lv_iload hx hb dX7_layHanging_25 (lv_at hl 4 rfl) ?_
      refine lv_icmp_ne (tgt := 38) hx hb dX7_layHanging_27 (by decide) (fun c6 => ?_) (fun c6 => ?_)
      · replace hf := oneg c6 hf
        exact w_X7_layHanging_L38 @hself M hfl hk3 hk15 _ _ _ _ _ _ _ hf _ _ _ _ _ hC (lv_sub hl [0, 1, 2, 3, 4, 5] rfl)
      · replace hf := opos c6 hf
        refine fr_aload_n hx hb dX7_layHanging_30 rfl (lv_at hl 0 rfl) ?_
        refine fr_aload hx hb dX7_layHanging_31 (lv_at hl 5 rfl) ?_
        refine lv_iload hx hb dX7_layHanging_33 (lv_at hl 3 rfl) ?_
        obtain ⟨b9, q10, hf⟩ := obind hf
        obtain ⟨r7, g8, hf⟩ := obind hf
        refine fr_callV hx hb hml hts hown K hC hR ct_7 (hself g8) 2 q10 kw624 kw621 kw623 kw13 kw54 (by decide +kernel) ⟨by dsimp only; omega, by dsimp only; omega⟩ rfl hl.1 (cat8 _ (by exact Nat.le_of_ble_eq_true rfl)) dX7_layHanging_35 rfl (fun H locs _ _ hC => ?_)
        exact w_X7_layHanging_L38 @hself M hfl hk3 hk15 _ _ _ _ _ _ _ hf _ _ _ _ _ hC (lv_sub hl [0, 1, 2, 3, 4, 5] rfl)
set_option maxHeartbeats 4000000 in
set_option maxRecDepth 100000 in
theorem w_X7_layHanging_L3 {p : Program} {l : Launch} {e : Env} {s : State} {m : MethodId} {args : Array Value} {below : List Frame} {meth : Method} {c : Code} {D : va_G} {cA : Nat → ClassId} {h0 : fSt} {self : Nat → Option Nat → Int32 → fSt → Option (Unit × fSt)} {fd ld : Nat} {r : (Unit × fSt)} (hself : ∀ {o : Nat} {p0 : Option Nat} {p1 : Int32} {h : fSt} {r : (Unit × fSt)}, self o p0 p1 h = some r → fMet l yX7_lay (wsC yX7_lay cX7_lay 3 none) fd ld D cA [.ref o, va_rf p0, .int p1] h r.2 none) (M : fM p s m args meth c D cA h0 { frames := fd + 1, cells := fCB h0 - fZ h0, slots := fLB h0 - fL h0, locals := ld + 22 } cX7_layHanging 7 none RX7) (hfl : l.stackTraces = false) : ∀ (n : Nat) (a0 : Option Nat) (a1 : Option Nat) (a3 : Int32) (a4 : Int32) (a5 : Int32) (h : fSt), f_X7_layHanging_L3 self n a0 a1 a3 a4 a5 h = some r → ∀ (H : Heap) (locs : List Loc) (cells slots : Nat) (ls : Array Slot), fCur D cA s h0 h H locs → lv_has ls 7 [(0, va_rf a0), (1, va_rf a1), (3, .int a3), (4, .int a4), (5, .int a5)] → W p l e { frames := fd + 1, cells := fCB h0 - fZ h0, slots := fLB h0 - fL h0, locals := ld + 22 } s m args below meth c H locs cells slots (MQ below (fQ D cA h0 r.2 none) args s (fCB h0 - fZ h0) (fLB h0 - fL h0) (fA h0)) (F0 m 3 ls []) := by
  obtain ⟨hx, hb, hml, hr, hlocks, hts, hown, K, hR⟩ := id M
  intro n
  induction n with
  | zero =>
    intro a0 a1 a3 a4 a5 h hf
    exact nomatch (show (none : Option (Unit × fSt)) = some r from hf)
  | succ n hk3 =>
    intro a0 a1 a3 a4 a5 h hf H locs cells slots ls hC hl
    refine lv_iload hx hb dX7_layHanging_3 (lv_at hl 4 rfl) ?_
    refine lv_iload_n hx hb dX7_layHanging_5 rfl (lv_at hl 2 rfl) ?_
    refine lv_icmp_gt (tgt := 54) hx hb dX7_layHanging_6 (by decide) (fun c11 => ?_) (fun c11 => ?_)
    · replace hf := opos c11 hf
      obtain rfl := Option.some.inj hf
      exact fr_vret hx hb hr hlocks hC dX7_layHanging_54
    · replace hf := oneg c11 hf
      refine fr_aload_n hx hb dX7_layHanging_9 rfl (lv_at hl 1 rfl) ?_
      obtain ⟨x12, g13, hf⟩ := obind hf
      refine fr_get hx hb hts hown K hC ct_4 (fgR_get g13) (by decide) kw185 rfl dX7_layHanging_10 ?_
      refine fr_astore (lv' := [(6, va_rf x12), (0, va_rf a0), (1, va_rf a1), (3, .int a3), (4, .int a4), (5, .int a5)]) hx hb dX7_layHanging_13 hl (by decide) (congrArg (List.cons _) (flk rfl (flk rfl (flk rfl (flk rfl (flk rfl fln)))))) (fun ls hl => ?_)
      exact w_X7_layHanging_L15 @hself M hfl hk3 4096 _ _ _ _ _ _ _ hf _ _ _ _ _ hC (lv_sub hl [1, 2, 3, 4, 5, 0] rfl)
set_option maxHeartbeats 4000000 in
set_option maxRecDepth 100000 in
theorem w_X7_layHanging_L0 {p : Program} {l : Launch} {e : Env} {s : State} {m : MethodId} {args : Array Value} {below : List Frame} {meth : Method} {c : Code} {D : va_G} {cA : Nat → ClassId} {h0 : fSt} {self : Nat → Option Nat → Int32 → fSt → Option (Unit × fSt)} {fd ld : Nat} {r : (Unit × fSt)} (hself : ∀ {o : Nat} {p0 : Option Nat} {p1 : Int32} {h : fSt} {r : (Unit × fSt)}, self o p0 p1 h = some r → fMet l yX7_lay (wsC yX7_lay cX7_lay 3 none) fd ld D cA [.ref o, va_rf p0, .int p1] h r.2 none) (M : fM p s m args meth c D cA h0 { frames := fd + 1, cells := fCB h0 - fZ h0, slots := fLB h0 - fL h0, locals := ld + 22 } cX7_layHanging 7 none RX7) (hfl : l.stackTraces = false) (a0 : Option Nat) (a1 : Option Nat) (a2 : Int32) (a3 : Int32) (a4 : Int32) (h : fSt) (hf : f_X7_layHanging_L0 self a0 a1 a2 a3 a4 h = some r) : ∀ (H : Heap) (locs : List Loc) (cells slots : Nat) (ls : Array Slot), fCur D cA s h0 h H locs → lv_has ls 7 [(0, va_rf a0), (1, va_rf a1), (2, .int a2), (3, .int a3), (4, .int a4)] → W p l e { frames := fd + 1, cells := fCB h0 - fZ h0, slots := fLB h0 - fL h0, locals := ld + 22 } s m args below meth c H locs cells slots (MQ below (fQ D cA h0 r.2 none) args s (fCB h0 - fZ h0) (fLB h0 - fL h0) (fA h0)) (F0 m 0 ls []) := by
  obtain ⟨hx, hb, hml, hr, hlocks, hts, hown, K, hR⟩ := id M
  intro H locs cells slots ls hC hl
  refine lv_iload_n hx hb dX7_layHanging_0 rfl (lv_at hl 2 rfl) ?_
  refine lv_istore (lv' := [(5, .int a2), (0, va_rf a0), (1, va_rf a1), (2, .int a2), (3, .int a3), (4, .int a4)]) hx hb dX7_layHanging_1 hl (by decide) (congrArg (List.cons _) (flk rfl (flk rfl (flk rfl (flk rfl (flk rfl fln)))))) (fun ls hl => ?_)
  exact w_X7_layHanging_L3 @hself M hfl 4096 _ _ _ _ _ _ hf _ _ _ _ _ hC (lv_sub hl [1, 2, 4, 5, 0] rfl)
set_option maxRecDepth 100000 in
theorem c_X7_layHanging {l : Launch} (hfl : l.stackTraces = false) (D : va_G) (cA : Nat → ClassId) {self : Nat → Option Nat → Int32 → fSt → Option (Unit × fSt)} {fd ld : Nat} (hself : ∀ {o : Nat} {p0 : Option Nat} {p1 : Int32} {h : fSt} {r : (Unit × fSt)}, self o p0 p1 h = some r → fMet l yX7_lay (wsC yX7_lay cX7_lay 3 none) fd ld D cA [.ref o, va_rf p0, .int p1] h r.2 none) {o : Nat} {p0 : Option Nat} {p1 : Int32} {p2 : Int32} {p3 : Int32} {h : fSt} {r : (Unit × fSt)} (hf : f_X7_layHanging self o p0 p1 p2 p3 h = some r) : fMet l yX7_layHanging (wsC yX7_layHanging cX7_layHanging 7 none) (fd + 1) (ld + 22) D cA [.ref o, va_rf p0, .int p1, .int p2, .int p3] h r.2 none := by
  exact fMet.of (own := RX7) (by decide +kernel) rfl (lva1 rfl (lva1 (va_rf_cat _) (lva1 rfl (lva1 rfl (lva1 rfl lva0))))) (lgl1 rfl (lgl1 (va_rf_cat _) (lgl1 rfl (lgl1 rfl (lgl1 rfl lgl0))))) (Nat.le_of_ble_eq_true rfl) (fun p e s m args below meth c ls hnm _ M hC hl => by
    have hl : lv_has ls 7 [(0, va_rf (some o)), (1, va_rf p0), (2, .int p1), (3, .int p2), (4, .int p3)] := hl
    exact w_X7_layHanging_L0 @hself M hfl _ _ _ _ _ _ hf _ _ _ _ _ hC (lv_sub hl [0, 1, 2, 3, 4] rfl))
set_option maxHeartbeats 4000000 in
set_option maxRecDepth 100000 in
theorem w_X7_lay_L0 {p : Program} {l : Launch} {e : Env} {s : State} {m : MethodId} {args : Array Value} {below : List Frame} {meth : Method} {c : Code} {D : va_G} {cA : Nat → ClassId} {h0 : fSt} {self : Nat → Option Nat → Int32 → fSt → Option (Unit × fSt)} {fd ld : Nat} {r : (Unit × fSt)} (hself : ∀ {o : Nat} {p0 : Option Nat} {p1 : Int32} {h : fSt} {r : (Unit × fSt)}, self o p0 p1 h = some r → fMet l yX7_lay (wsC yX7_lay cX7_lay 3 none) fd ld D cA [.ref o, va_rf p0, .int p1] h r.2 none) (M : fM p s m args meth c D cA h0 { frames := fd + 2, cells := fCB h0 - fZ h0, slots := fLB h0 - fL h0, locals := ld + 48 } cX7_lay 3 none RX7) (hfl : l.stackTraces = false) (a0 : Option Nat) (a1 : Option Nat) (a2 : Int32) (h : fSt) (hf : f_X7_lay_L0 self a0 a1 a2 h = some r) : ∀ (H : Heap) (locs : List Loc) (cells slots : Nat) (ls : Array Slot), fCur D cA s h0 h H locs → lv_has ls 3 [(0, va_rf a0), (1, va_rf a1), (2, .int a2)] → W p l e { frames := fd + 2, cells := fCB h0 - fZ h0, slots := fLB h0 - fL h0, locals := ld + 48 } s m args below meth c H locs cells slots (MQ below (fQ D cA h0 r.2 none) args s (fCB h0 - fZ h0) (fLB h0 - fL h0) (fA h0)) (F0 m 0 ls []) := by
  obtain ⟨hx, hb, hml, hr, hlocks, hts, hown, K, hR⟩ := id M
  intro H locs cells slots ls hC hl
  refine lv_iload_n hx hb dX7_lay_0 rfl (lv_at hl 2 rfl) ?_
  refine lv_iconst (v := (4 : Int32)) hx hb dX7_lay_1 (by decide) ?_
  refine lv_icmp_le (tgt := 6) hx hb dX7_lay_2 (by decide) (fun c1 => ?_) (fun c1 => ?_)
  · replace hf := opos c1 hf
    refine fr_aload_n hx hb dX7_lay_6 rfl (lv_at hl 0 rfl) ?_
    refine fr_aload_n hx hb dX7_lay_7 rfl (lv_at hl 1 rfl) ?_
    refine lv_bipush (v := (-9 : Int32)) hx hb dX7_lay_8 (by decide) ?_
    refine lv_iconst (v := (-1 : Int32)) hx hb dX7_lay_10 (by decide) ?_
    refine lv_iload_n hx hb dX7_lay_11 rfl (lv_at hl 2 rfl) ?_
    refine lv_iconst (v := (1 : Int32)) hx hb dX7_lay_12 (by decide) ?_
    refine lv_iadd hx hb dX7_lay_13 ?_
    obtain ⟨b4, q5, hf⟩ := obind hf
    obtain ⟨r2, g3, hf⟩ := obind hf
    refine fr_callV hx hb hml hts hown K hC hR ct_7 (c_X7_layHanging hfl D cA @hself g3) 4 q5 kw628 kw625 kw627 kw14 kw54 (by decide +kernel) ⟨by dsimp only; omega, by dsimp only; omega⟩ rfl hl.1 (cat8 _ (by exact Nat.le_of_ble_eq_true rfl)) dX7_lay_14 rfl (fun H locs _ _ hC => ?_)
    refine fr_aload_n hx hb dX7_lay_17 rfl (lv_at hl 1 rfl) ?_
    refine fr_aload_n hx hb dX7_lay_18 rfl (lv_at hl 0 rfl) ?_
    obtain ⟨x6, g7, hf⟩ := obind hf
    refine fr_get hx hb hts hown K hC ct_7 (fgR_get g7) (by decide) kw297 rfl dX7_lay_19 ?_
    obtain ⟨h8, g9, hf⟩ := obind hf
    refine fr_put hx hb hts hown K hC ct_4 g9 (by decide) kw188 rfl rfl (nR _ _) (fR _ _) dX7_lay_22 (fun H locs hC => ?_)
    refine fr_aload_n hx hb dX7_lay_25 rfl (lv_at hl 1 rfl) ?_
    refine fr_aload_n hx hb dX7_lay_26 rfl (lv_at hl 0 rfl) ?_
    obtain ⟨x10, g11, hf⟩ := obind hf
    refine fr_get hx hb hts hown K hC ct_7 (fgI_get g11) (by decide) kw298 rfl dX7_lay_27 ?_
    obtain ⟨h12, g13, hf⟩ := obind hf
    refine fr_put hx hb hts hown K hC ct_4 g13 (by decide) kw189 rfl rfl rfl rfl dX7_lay_30 (fun H locs hC => ?_)
    refine fr_aload_n hx hb dX7_lay_33 rfl (lv_at hl 0 rfl) ?_
    refine fr_aload_n hx hb dX7_lay_34 rfl (lv_at hl 1 rfl) ?_
    obtain ⟨h14, g15, hf⟩ := obind hf
    refine fr_put hx hb hts hown K hC ct_7 g15 (by decide) kw297 rfl rfl (nR _ _) (fR _ _) dX7_lay_35 (fun H locs hC => ?_)
    refine fr_aload_n hx hb dX7_lay_38 rfl (lv_at hl 0 rfl) ?_
    refine lv_dup hx hb dX7_lay_39 (va_rf_cat _) ?_
    obtain ⟨x16, g17, hf⟩ := obind hf
    refine fr_get hx hb hts hown K hC ct_7 (fgI_get g17) (by decide) kw298 rfl dX7_lay_40 ?_
    refine lv_iconst (v := (1 : Int32)) hx hb dX7_lay_43 (by decide) ?_
    refine lv_iadd hx hb dX7_lay_44 ?_
    obtain ⟨h18, g19, hf⟩ := obind hf
    refine fr_put hx hb hts hown K hC ct_7 g19 (by decide) kw298 rfl rfl rfl rfl dX7_lay_45 (fun H locs hC => ?_)
    refine fr_aload_n hx hb dX7_lay_48 rfl (lv_at hl 0 rfl) ?_
    refine fr_aload_n hx hb dX7_lay_49 rfl (lv_at hl 1 rfl) ?_
    refine lv_iconst (v := (0 : Int32)) hx hb dX7_lay_50 (by decide) ?_
    refine lv_bipush (v := (9 : Int32)) hx hb dX7_lay_51 (by decide) ?_
    refine lv_iload_n hx hb dX7_lay_53 rfl (lv_at hl 2 rfl) ?_
    refine lv_iconst (v := (1 : Int32)) hx hb dX7_lay_54 (by decide) ?_
    refine lv_iadd hx hb dX7_lay_55 ?_
    obtain ⟨b22, q23, hf⟩ := obind hf
    obtain ⟨r20, g21, hf⟩ := obind hf
    refine fr_callV hx hb hml hts hown K hC hR ct_7 (c_X7_layHanging hfl D cA @hself g21) 4 q23 kw628 kw625 kw627 kw14 kw54 (by decide +kernel) ⟨by dsimp only; omega, by dsimp only; omega⟩ rfl hl.1 (cat8 _ (by exact Nat.le_of_ble_eq_true rfl)) dX7_lay_56 rfl (fun H locs _ _ hC => ?_)
    obtain rfl := Option.some.inj hf
    exact fr_vret hx hb hr hlocks hC dX7_lay_59
  · replace hf := oneg c1 hf
    obtain rfl := Option.some.inj hf
    exact fr_vret hx hb hr hlocks hC dX7_lay_5
set_option maxRecDepth 100000 in
theorem c_X7_lay {l : Launch} (hfl : l.stackTraces = false) (D : va_G) (cA : Nat → ClassId) (d : Nat) : ∀ {o : Nat} {p0 : Option Nat} {p1 : Int32} {h : fSt} {r : (Unit × fSt)}, f_X7_lay d o p0 p1 h = some r → fMet l yX7_lay (wsC yX7_lay cX7_lay 3 none) (2 * d) (48 * d) D cA [.ref o, va_rf p0, .int p1] h r.2 none := by
  induction d with
  | zero =>
    intro o p0 p1 h r hf
    exact nomatch (show (none : Option (Unit × fSt)) = some r from hf)
  | succ d hself =>
    intro o p0 p1 h r hf
    have hf : f_X7_lay_L0 (f_X7_lay d) (some o) p0 p1 h = some r := hf
    exact fMet.of (own := RX7) (by decide +kernel) rfl (lva1 rfl (lva1 (va_rf_cat _) (lva1 rfl lva0))) (lgl1 rfl (lgl1 (va_rf_cat _) (lgl1 rfl lgl0))) (Nat.le_of_ble_eq_true rfl) (fun p e s m args below meth c ls hnm _ M hC hl => by
    have hl : lv_has ls 3 [(0, va_rf (some o)), (1, va_rf p0), (2, .int p1)] := hl
    exact w_X7_lay_L0 @hself M hfl _ _ _ _ hf _ _ _ _ _ hC (lv_sub hl [0, 1, 2] rfl))
set_option maxHeartbeats 4000000 in
set_option maxRecDepth 100000 in
theorem w_X7_layOrder_L0 {p : Program} {l : Launch} {e : Env} {s : State} {m : MethodId} {args : Array Value} {below : List Frame} {meth : Method} {c : Code} {D : va_G} {cA : Nat → ClassId} {h0 : fSt} {r : (Unit × fSt)} (M : fM p s m args meth c D cA h0 { frames := 17, cells := fCB h0 - fZ h0, slots := fLB h0 - fL h0, locals := 406 } cX7_layOrder 1 none RX7) (hfl : l.stackTraces = false) (a0 : Option Nat) (h : fSt) (hf : f_X7_layOrder_L0 a0 h = some r) : ∀ (H : Heap) (locs : List Loc) (cells slots : Nat) (ls : Array Slot), fCur D cA s h0 h H locs → lv_has ls 1 [(0, va_rf a0)] → W p l e { frames := 17, cells := fCB h0 - fZ h0, slots := fLB h0 - fL h0, locals := 406 } s m args below meth c H locs cells slots (MQ below (fQ D cA h0 r.2 none) args s (fCB h0 - fZ h0) (fLB h0 - fL h0) (fA h0)) (F0 m 0 ls []) := by
  obtain ⟨hx, hb, hml, hr, hlocks, hts, hown, K, hR⟩ := id M
  intro H locs cells slots ls hC hl
  refine fr_aload_n hx hb dX7_layOrder_0 rfl (lv_at hl 0 rfl) ?_
  refine fr_null hx hb dX7_layOrder_1 ?_
  obtain ⟨h1, g2, hf⟩ := obind hf
  refine fr_put hx hb hts hown K hC ct_7 g2 (by decide) kw297 rfl rfl (nR _ _) (fR _ _) dX7_layOrder_2 (fun H locs hC => ?_)
  refine fr_aload_n hx hb dX7_layOrder_5 rfl (lv_at hl 0 rfl) ?_
  refine lv_iconst (v := (0 : Int32)) hx hb dX7_layOrder_6 (by decide) ?_
  obtain ⟨h3, g4, hf⟩ := obind hf
  refine fr_put hx hb hts hown K hC ct_7 g4 (by decide) kw298 rfl rfl rfl rfl dX7_layOrder_7 (fun H locs hC => ?_)
  refine fr_aload_n hx hb dX7_layOrder_10 rfl (lv_at hl 0 rfl) ?_
  refine fr_aload_n hx hb dX7_layOrder_11 rfl (lv_at hl 0 rfl) ?_
  obtain ⟨x5, g6, hf⟩ := obind hf
  refine fr_get hx hb hts hown K hC ct_7 (fgR_get g6) (by decide) kw291 rfl dX7_layOrder_12 ?_
  refine lv_iconst (v := (0 : Int32)) hx hb dX7_layOrder_15 (by decide) ?_
  obtain ⟨b9, q10, hf⟩ := obind hf
  obtain ⟨r7, g8, hf⟩ := obind hf
  refine fr_callV hx hb hml hts hown K hC hR ct_7 (c_X7_lay hfl D cA 8 g8) 2 q10 kw624 kw621 kw623 kw13 kw54 (by decide +kernel) ⟨by exact Nat.le_of_ble_eq_true rfl, by exact Nat.le_of_ble_eq_true rfl⟩ rfl hl.1 (cat8 _ (by exact Nat.le_of_ble_eq_true rfl)) dX7_layOrder_16 rfl (fun H locs _ _ hC => ?_)
  obtain rfl := Option.some.inj hf
  exact fr_vret hx hb hr hlocks hC dX7_layOrder_19
set_option maxRecDepth 100000 in
theorem c_X7_layOrder {l : Launch} (hfl : l.stackTraces = false) (D : va_G) (cA : Nat → ClassId) {o : Nat} {h : fSt} {r : (Unit × fSt)} (hf : f_X7_layOrder o h = some r) : fMet l yX7_layOrder (wsC yX7_layOrder cX7_layOrder 1 none) (17) (406) D cA [.ref o] h r.2 none := by
  exact fMet.of (own := RX7) (by decide +kernel) rfl (lva1 rfl lva0) (lgl1 rfl lgl0) (Nat.le_of_ble_eq_true rfl) (fun p e s m args below meth c ls hnm _ M hC hl => by
    have hl : lv_has ls 1 [(0, va_rf (some o))] := hl
    exact w_X7_layOrder_L0 M hfl _ _ hf _ _ _ _ _ hC (lv_sub hl [0] rfl))
set_option maxHeartbeats 4000000 in
set_option maxRecDepth 100000 in
theorem w_X7_add_L53 {p : Program} {l : Launch} {e : Env} {s : State} {m : MethodId} {args : Array Value} {below : List Frame} {meth : Method} {c : Code} {D : va_G} {cA : Nat → ClassId} {h0 : fSt} {r : ((Int32 ⊕ Nat) × fSt)} (M : fM p s m args meth c D cA h0 { frames := 18, cells := fCB h0 - fZ h0, slots := fLB h0 - fL h0, locals := 426 } cX7_add 7 (some (.int)) RX7) (hfl : l.stackTraces = false) (hno : ∀ x ∈ c.exceptionTable.toList, False)  (h : fSt) (hf : f_X7_add_L53  h = some r) : ∀ (H : Heap) (locs : List Loc) (cells slots : Nat) (ls : Array Slot), fCur D cA s h0 h H locs → lv_has ls 7 [] → W p l e { frames := 18, cells := fCB h0 - fZ h0, slots := fLB h0 - fL h0, locals := 426 } s m args below meth c H locs cells slots (vx_MQ below (fQX D cA h0 r.2 (rI r.1)) (fXC D cA h0 r.2 (rI r.1)) args s (fCB h0 - fZ h0) (fLB h0 - fL h0) (fA h0)) (F0 m 53 ls []) := by
  obtain ⟨hx, hb, hml, hr, hlocks, hts, hown, K, hR⟩ := id M
  intro H locs cells slots ls hC hl
  obtain ⟨h1, g2, hf⟩ := obind hf
  obtain rfl := Option.some.inj hf
  exact fr_throwS hx hb hml hts hfl hown K hC hR th_RX7_60_64_1 st_RX7_67 hl.1 dX7_add_53 dX7_add_56 dX7_add_57 dX7_add_59 dX7_add_62 hno (by exact Nat.le_of_ble_eq_true rfl) (catL _ _ (by exact Nat.le_of_ble_eq_true rfl) (by exact Nat.le_of_ble_eq_true rfl)) hlocks g2
set_option maxHeartbeats 4000000 in
set_option maxRecDepth 100000 in
theorem w_X7_add_L91 {p : Program} {l : Launch} {e : Env} {s : State} {m : MethodId} {args : Array Value} {below : List Frame} {meth : Method} {c : Code} {D : va_G} {cA : Nat → ClassId} {h0 : fSt} {r : ((Int32 ⊕ Nat) × fSt)} (M : fM p s m args meth c D cA h0 { frames := 18, cells := fCB h0 - fZ h0, slots := fLB h0 - fL h0, locals := 426 } cX7_add 7 (some (.int)) RX7) (hfl : l.stackTraces = false) (hno : ∀ x ∈ c.exceptionTable.toList, False)  (h : fSt) (hf : f_X7_add_L91  h = some r) : ∀ (H : Heap) (locs : List Loc) (cells slots : Nat) (ls : Array Slot), fCur D cA s h0 h H locs → lv_has ls 7 [] → W p l e { frames := 18, cells := fCB h0 - fZ h0, slots := fLB h0 - fL h0, locals := 426 } s m args below meth c H locs cells slots (vx_MQ below (fQX D cA h0 r.2 (rI r.1)) (fXC D cA h0 r.2 (rI r.1)) args s (fCB h0 - fZ h0) (fLB h0 - fL h0) (fA h0)) (F0 m 91 ls []) := by
  obtain ⟨hx, hb, hml, hr, hlocks, hts, hown, K, hR⟩ := id M
  intro H locs cells slots ls hC hl
  obtain ⟨h3, g4, hf⟩ := obind hf
  obtain rfl := Option.some.inj hf
  exact fr_throwS hx hb hml hts hfl hown K hC hR th_RX7_73_77_2 st_RX7_75 hl.1 dX7_add_91 dX7_add_94 dX7_add_95 dX7_add_97 dX7_add_100 hno (by exact Nat.le_of_ble_eq_true rfl) (catL _ _ (by exact Nat.le_of_ble_eq_true rfl) (by exact Nat.le_of_ble_eq_true rfl)) hlocks g4
set_option maxHeartbeats 4000000 in
set_option maxRecDepth 100000 in
theorem w_X7_add_L63 {p : Program} {l : Launch} {e : Env} {s : State} {m : MethodId} {args : Array Value} {below : List Frame} {meth : Method} {c : Code} {D : va_G} {cA : Nat → ClassId} {h0 : fSt} {r : ((Int32 ⊕ Nat) × fSt)} (M : fM p s m args meth c D cA h0 { frames := 18, cells := fCB h0 - fZ h0, slots := fLB h0 - fL h0, locals := 426 } cX7_add 7 (some (.int)) RX7) (hfl : l.stackTraces = false) (hno : ∀ x ∈ c.exceptionTable.toList, False) (a0 : Option Nat) (a2 : Int32) (a3 : Int32) (a4 : Int32) (a5 : Option Nat) (h : fSt) (hf : f_X7_add_L63 a0 a2 a3 a4 a5 h = some r) : ∀ (H : Heap) (locs : List Loc) (cells slots : Nat) (ls : Array Slot), fCur D cA s h0 h H locs → lv_has ls 7 [(0, va_rf a0), (2, .int a2), (3, .int a3), (4, .int a4), (5, va_rf a5)] → W p l e { frames := 18, cells := fCB h0 - fZ h0, slots := fLB h0 - fL h0, locals := 426 } s m args below meth c H locs cells slots (vx_MQ below (fQX D cA h0 r.2 (rI r.1)) (fXC D cA h0 r.2 (rI r.1)) args s (fCB h0 - fZ h0) (fLB h0 - fL h0) (fA h0)) (F0 m 63 ls []) := by
  obtain ⟨hx, hb, hml, hr, hlocks, hts, hown, K, hR⟩ := id M
  intro H locs cells slots ls hC hl
  refine fr_aload_n hx hb dX7_add_63 rfl (lv_at hl 0 rfl) ?_
  obtain ⟨x5, g6, hf⟩ := obind hf
  refine fr_get hx hb hts hown K hC ct_7 (fgI_get g6) (by decide) kw294 rfl dX7_add_64 ?_
  refine lv_if_lt (tgt := 91) hx hb dX7_add_67 (by decide) (fun c7 => ?_) (fun c7 => ?_)
  · replace hf := opos c7 hf
    exact w_X7_add_L91 M hfl hno _ hf _ _ _ _ _ hC (lv_sub hl [] rfl)
  · replace hf := oneg c7 hf
    refine fr_aload_n hx hb dX7_add_70 rfl (lv_at hl 0 rfl) ?_
    obtain ⟨x8, g9, hf⟩ := obind hf
    refine fr_get hx hb hts hown K hC ct_7 (fgI_get g9) (by decide) kw294 rfl dX7_add_71 ?_
    refine fr_aload_n hx hb dX7_add_74 rfl (lv_at hl 0 rfl) ?_
    obtain ⟨x10, g11, hf⟩ := obind hf
    refine fr_get hx hb hts hown K hC ct_7 (fgR_get g11) (by decide) kw289 rfl dX7_add_75 ?_
    obtain ⟨x12, g13, hf⟩ := obind hf
    refine fr_alen hx hb K hC (t := 4) rfl g13 dX7_add_78 ?_
    refine lv_icmp_ge (tgt := 91) hx hb dX7_add_79 (by decide) (fun c14 => ?_) (fun c14 => ?_)
    · replace hf := opos c14 hf
      exact w_X7_add_L91 M hfl hno _ hf _ _ _ _ _ hC (lv_sub hl [] rfl)
    · replace hf := oneg c14 hf
      refine fr_aload hx hb dX7_add_82 (lv_at hl 4 rfl) ?_
      obtain ⟨b17, q18, hf⟩ := obind hf
      obtain ⟨r15, g16, hf⟩ := obind hf
      refine fr_callV hx hb hml hts hown K hC hR ct_4 (c_X4_depth hfl D cA g16) 0 q18 kw364 kw361 kw362 kw363 kw55 (by decide +kernel) ⟨by exact Nat.le_of_ble_eq_true rfl, by exact Nat.le_of_ble_eq_true rfl⟩ rfl hl.1 (cat8 _ (by exact Nat.le_of_ble_eq_true rfl)) dX7_add_84 rfl (fun H locs _ _ hC => ?_)
      refine lv_iconst (v := (4 : Int32)) hx hb dX7_add_87 (by decide) ?_
      refine lv_icmp_lt (tgt := 101) hx hb dX7_add_88 (by decide) (fun c19 => ?_) (fun c19 => ?_)
      · replace hf := opos c19 hf
        obtain ⟨r20, g21, hf⟩ := obind hf
        refine fr_new hx hb hts hown K hC ct_4 hR g21 dv_4 kw79 kw83 kw55 dX7_add_101 (fun H _ _ hC => ?_)
        refine lv_dup hx hb dX7_add_104 (va_rf_cat _) ?_
        refine fr_aload_n hx hb dX7_add_105 rfl (lv_at hl 0 rfl) ?_
        obtain ⟨x22, g23, hf⟩ := obind hf
        refine fr_get hx hb hts hown K hC ct_7 (fgI_get g23) (by decide) kw294 rfl dX7_add_106 ?_
        refine lv_iload_n hx hb dX7_add_109 rfl (lv_at hl 1 rfl) ?_
        refine lv_iload_n hx hb dX7_add_110 rfl (lv_at hl 2 rfl) ?_
        refine lv_iload hx hb dX7_add_111 (lv_at hl 3 rfl) ?_
        obtain ⟨r24, g25, hf⟩ := obind hf
        refine fr_callI hx hb hml hts hown K hC hR (c_X4_init hfl D cA g25) 4 kw86 kw84 kw85 kw55 rfl (by decide +kernel) ⟨by exact Nat.le_of_ble_eq_true rfl, by exact Nat.le_of_ble_eq_true rfl⟩ rfl hl.1 (cat8 _ (by exact Nat.le_of_ble_eq_true rfl)) dX7_add_113 rfl (fun H locs _ _ hC => ?_)
        refine fr_astore (lv' := [(6, va_rf (some r20.1)), (0, va_rf a0), (2, .int a2), (3, .int a3), (4, .int a4), (5, va_rf a5)]) hx hb dX7_add_116 hl (by decide) (congrArg (List.cons _) (flk rfl (flk rfl (flk rfl (flk rfl (flk (adj1 _ _) fln)))))) (fun ls hl => ?_)
        refine fr_aload_n hx hb dX7_add_118 rfl (lv_at hl 1 rfl) ?_
        obtain ⟨x26, g27, hf⟩ := obind hf
        refine fr_get hx hb hts hown K hC ct_7 (fgR_get g27) (by decide) kw289 rfl dX7_add_119 ?_
        refine fr_aload_n hx hb dX7_add_122 rfl (lv_at hl 1 rfl) ?_
        obtain ⟨x28, g29, hf⟩ := obind hf
        refine fr_get hx hb hts hown K hC ct_7 (fgI_get g29) (by decide) kw294 rfl dX7_add_123 ?_
        refine fr_aload hx hb dX7_add_126 (lv_at hl 0 rfl) ?_
        obtain ⟨h30, g31, hf⟩ := obind hf
        refine fr_aast hx hb K hC (t := 4) ct_4 rfl g31 dX7_add_128 (fun H locs hC => ?_)
        refine fr_aload_n hx hb dX7_add_129 rfl (lv_at hl 1 rfl) ?_
        refine lv_dup hx hb dX7_add_130 (va_rf_cat _) ?_
        obtain ⟨x32, g33, hf⟩ := obind hf
        refine fr_get hx hb hts hown K hC ct_7 (fgI_get g33) (by decide) kw294 rfl dX7_add_131 ?_
        refine lv_iconst (v := (1 : Int32)) hx hb dX7_add_134 (by decide) ?_
        refine lv_iadd hx hb dX7_add_135 ?_
        obtain ⟨h34, g35, hf⟩ := obind hf
        refine fr_put hx hb hts hown K hC ct_7 g35 (by decide) kw294 rfl rfl rfl rfl dX7_add_136 (fun H locs hC => ?_)
        refine fr_aload hx hb dX7_add_139 (lv_at hl 5 rfl) ?_
        refine fr_aload hx hb dX7_add_141 (lv_at hl 0 rfl) ?_
        obtain ⟨b38, q39, hf⟩ := obind hf
        obtain ⟨r36, g37, hf⟩ := obind hf
        refine fr_callV hx hb hml hts hown K hC hR ct_4 (c_X4_takeIn hfl D cA g37) 1 q39 kw616 kw613 kw614 kw615 kw55 (by decide +kernel) ⟨by exact Nat.le_of_ble_eq_true rfl, by exact Nat.le_of_ble_eq_true rfl⟩ rfl hl.1 (cat8 _ (by exact Nat.le_of_ble_eq_true rfl)) dX7_add_143 rfl (fun H locs _ _ hC => ?_)
        refine fr_aload_n hx hb dX7_add_146 rfl (lv_at hl 1 rfl) ?_
        obtain ⟨b42, q43, hf⟩ := obind hf
        obtain ⟨r40, g41, hf⟩ := obind hf
        refine fr_callV hx hb hml hts hown K hC hR ct_7 (c_X7_layOrder hfl D cA g41) 0 q43 kw620 kw617 kw619 kw12 kw54 (by decide +kernel) ⟨by exact Nat.le_of_ble_eq_true rfl, by exact Nat.le_of_ble_eq_true rfl⟩ rfl hl.1 (cat8 _ (by exact Nat.le_of_ble_eq_true rfl)) dX7_add_147 rfl (fun H locs _ _ hC => ?_)
        refine fr_aload hx hb dX7_add_150 (lv_at hl 0 rfl) ?_
        obtain ⟨x44, g45, hf⟩ := obind hf
        refine fr_get hx hb hts hown K hC ct_4 (fgI_get g45) (by decide) kw151 rfl dX7_add_152 ?_
        obtain rfl := Option.some.inj hf
        exact fr_retQ (fr_iret hx hb hr hlocks hC dX7_add_155)
      · replace hf := oneg c19 hf
        exact w_X7_add_L91 M hfl hno _ hf _ _ _ _ _ hC (lv_sub hl [] rfl)
set_option maxHeartbeats 4000000 in
set_option maxRecDepth 100000 in
theorem w_X7_add_L0 {p : Program} {l : Launch} {e : Env} {s : State} {m : MethodId} {args : Array Value} {below : List Frame} {meth : Method} {c : Code} {D : va_G} {cA : Nat → ClassId} {h0 : fSt} {r : ((Int32 ⊕ Nat) × fSt)} (M : fM p s m args meth c D cA h0 { frames := 18, cells := fCB h0 - fZ h0, slots := fLB h0 - fL h0, locals := 426 } cX7_add 7 (some (.int)) RX7) (hfl : l.stackTraces = false) (hno : ∀ x ∈ c.exceptionTable.toList, False) (a0 : Option Nat) (a1 : Int32) (a2 : Int32) (a3 : Int32) (a4 : Int32) (h : fSt) (hf : f_X7_add_L0 a0 a1 a2 a3 a4 h = some r) : ∀ (H : Heap) (locs : List Loc) (cells slots : Nat) (ls : Array Slot), fCur D cA s h0 h H locs → lv_has ls 7 [(0, va_rf a0), (1, .int a1), (2, .int a2), (3, .int a3), (4, .int a4)] → W p l e { frames := 18, cells := fCB h0 - fZ h0, slots := fLB h0 - fL h0, locals := 426 } s m args below meth c H locs cells slots (vx_MQ below (fQX D cA h0 r.2 (rI r.1)) (fXC D cA h0 r.2 (rI r.1)) args s (fCB h0 - fZ h0) (fLB h0 - fL h0) (fA h0)) (F0 m 0 ls []) := by
  obtain ⟨hx, hb, hml, hr, hlocks, hts, hown, K, hR⟩ := id M
  intro H locs cells slots ls hC hl
  refine fr_aload_n hx hb dX7_add_0 rfl (lv_at hl 0 rfl) ?_
  refine lv_iload_n hx hb dX7_add_1 rfl (lv_at hl 1 rfl) ?_
  obtain ⟨b48, q49, hf⟩ := obind hf
  obtain ⟨⟨v50 | k51, h52⟩, g47, hf⟩ := obind hf
  · refine fr_callVX hx hb hml hts hown K hC hR ct_7 (c_X7_found hfl D cA g47) 1 q49 kw578 kw575 kw577 kw11 kw54 (by decide +kernel) ⟨by exact Nat.le_of_ble_eq_true rfl, by exact Nat.le_of_ble_eq_true rfl⟩ rfl hl.1 (cat8 _ (by exact Nat.le_of_ble_eq_true rfl)) dX7_add_2 rfl (fun H locs _ _ hC => ?_)
    refine fr_astore (lv' := [(5, va_rf v50), (0, va_rf a0), (1, .int a1), (2, .int a2), (3, .int a3), (4, .int a4)]) hx hb dX7_add_5 hl (by decide) (congrArg (List.cons _) (flk rfl (flk rfl (flk rfl (flk rfl (flk rfl fln)))))) (fun ls hl => ?_)
    refine lv_iload_n hx hb dX7_add_7 rfl (lv_at hl 3 rfl) ?_
    refine lv_iconst (v := (0 : Int32)) hx hb dX7_add_8 (by decide) ?_
    refine lv_iconst (v := (2 : Int32)) hx hb dX7_add_9 (by decide) ?_
    obtain ⟨r53, g54, hf⟩ := obind hf
    refine fr_callS hx hb hml hts hown K hC hR (c_X7_isFrom hfl D cA g54) 3 kw487 kw485 kw486 kw54 (by decide +kernel) ⟨by exact Nat.le_of_ble_eq_true rfl, by exact Nat.le_of_ble_eq_true rfl⟩ rfl hl.1 (cat8 _ (by exact Nat.le_of_ble_eq_true rfl)) dX7_add_10 rfl (fun H locs _ _ hC => ?_)
    refine lv_if_ne (tgt := 26) hx hb dX7_add_13 (by decide) (fun c55 => ?_) (fun c55 => ?_)
    · replace hf := oneg c55 hf
      refine lv_iload_n hx hb dX7_add_26 rfl (lv_at hl 3 rfl) ?_
      refine lv_if_eq (tgt := 63) hx hb dX7_add_27 (by decide) (fun c56 => ?_) (fun c56 => ?_)
      · replace hf := opos c56 hf
        exact w_X7_add_L63 M hfl hno _ _ _ _ _ _ hf _ _ _ _ _ hC (lv_sub hl [1, 3, 4, 5, 0] rfl)
      · replace hf := oneg c56 hf
        refine lv_iload_n hx hb dX7_add_30 rfl (lv_at hl 4 rfl) ?_
        refine lv_iconst (v := (1 : Int32)) hx hb dX7_add_31 (by decide) ?_
        refine lv_sipush (v := (200 : Int32)) hx hb dX7_add_32 (by decide) ?_
        obtain ⟨r57, g58, hf⟩ := obind hf
        refine fr_callS hx hb hml hts hown K hC hR (c_X7_isFrom hfl D cA g58) 3 kw487 kw485 kw486 kw54 (by decide +kernel) ⟨by exact Nat.le_of_ble_eq_true rfl, by exact Nat.le_of_ble_eq_true rfl⟩ rfl hl.1 (cat8 _ (by exact Nat.le_of_ble_eq_true rfl)) dX7_add_35 rfl (fun H locs _ _ hC => ?_)
        refine lv_if_eq (tgt := 53) hx hb dX7_add_38 (by decide) (fun c59 => ?_) (fun c59 => ?_)
        · replace hf := opos c59 hf
          exact w_X7_add_L53 M hfl hno _ hf _ _ _ _ _ hC (lv_sub hl [] rfl)
        · replace hf := oneg c59 hf
          refine lv_iload hx hb dX7_add_41 (lv_at hl 5 rfl) ?_
          refine lv_iconst (v := (1 : Int32)) hx hb dX7_add_43 (by decide) ?_
          refine lv_sipush (v := (200 : Int32)) hx hb dX7_add_44 (by decide) ?_
          obtain ⟨r60, g61, hf⟩ := obind hf
          refine fr_callS hx hb hml hts hown K hC hR (c_X7_isFrom hfl D cA g61) 3 kw487 kw485 kw486 kw54 (by decide +kernel) ⟨by exact Nat.le_of_ble_eq_true rfl, by exact Nat.le_of_ble_eq_true rfl⟩ rfl hl.1 (cat8 _ (by exact Nat.le_of_ble_eq_true rfl)) dX7_add_47 rfl (fun H locs _ _ hC => ?_)
          refine lv_if_ne (tgt := 63) hx hb dX7_add_50 (by decide) (fun c62 => ?_) (fun c62 => ?_)
          · replace hf := oneg c62 hf
            exact w_X7_add_L63 M hfl hno _ _ _ _ _ _ hf _ _ _ _ _ hC (lv_sub hl [1, 3, 4, 5, 0] rfl)
          · replace hf := opos c62 hf
            exact w_X7_add_L53 M hfl hno _ hf _ _ _ _ _ hC (lv_sub hl [] rfl)
    · replace hf := opos c55 hf
      obtain ⟨h63, g64, hf⟩ := obind hf
      obtain rfl := Option.some.inj hf
      exact fr_throwS hx hb hml hts hfl hown K hC hR th_RX7_60_64_1 st_RX7_62 hl.1 dX7_add_16 dX7_add_19 dX7_add_20 dX7_add_22 dX7_add_25 hno (by exact Nat.le_of_ble_eq_true rfl) (catL _ _ (by exact Nat.le_of_ble_eq_true rfl) (by exact Nat.le_of_ble_eq_true rfl)) hlocks g64
  · obtain rfl := Option.some.inj hf
    refine fr_callVT hx hb hml hts hown K hC hR ct_7 (c_X7_found hfl D cA g47) 1 q49 kw578 kw575 kw577 kw11 kw54 (by decide +kernel) ⟨by exact Nat.le_of_ble_eq_true rfl, by exact Nat.le_of_ble_eq_true rfl⟩ rfl hl.1 (cat8 _ (by exact Nat.le_of_ble_eq_true rfl)) dX7_add_2 rfl (fun H locs _ _ q ce hC e1 e2 e3 => ?_)
    exact fr_out (fun x hx9 => (hno x hx9).elim) hlocks hC e1 e2 e3
set_option maxRecDepth 100000 in
theorem c_X7_add {l : Launch} (hfl : l.stackTraces = false) (D : va_G) (cA : Nat → ClassId) {o : Nat} {p0 : Int32} {p1 : Int32} {p2 : Int32} {p3 : Int32} {h : fSt} {r : ((Int32 ⊕ Nat) × fSt)} (hf : f_X7_add o p0 p1 p2 p3 h = some r) : fMetX l yX7_add (wsC yX7_add cX7_add 7 (some (.int))) (18) (426) D cA [.ref o, .int p0, .int p1, .int p2, .int p3] h r.2 (rI r.1) := by
  exact fMetX.of (own := RX7) (by decide +kernel) rfl (lva1 rfl (lva1 rfl (lva1 rfl (lva1 rfl (lva1 rfl lva0))))) (lgl1 rfl (lgl1 rfl (lgl1 rfl (lgl1 rfl (lgl1 rfl lgl0))))) (Nat.le_of_ble_eq_true rfl) (fun p e s m args below meth c ls hno M hC hl => by
    have hl : lv_has ls 7 [(0, va_rf (some o)), (1, .int p0), (2, .int p1), (3, .int p2), (4, .int p3)] := hl
    exact w_X7_add_L0 M hfl hno _ _ _ _ _ _ hf _ _ _ _ _ hC (lv_sub hl [0, 1, 2, 3, 4] rfl))
