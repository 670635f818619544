theorem inG {i : Nat} {w : Cond} (h : lw_tbl[i]? = some w) (hg : goodWord w = true) : w ∈ cG := List.mem_filter.mpr ⟨List.mem_of_getElem? h, hg⟩
theorem inT {i : Nat} {w : Cond} (h : lw_tbl[i]? = some w) : w ∈ lw_tbl := List.mem_of_getElem? h
theorem w_0 : (Cond.selects "DuneMaps" ⟨"DuneMaps", "isCell", "(I)Z"⟩ ⟨"DuneMaps", "isCell", "(I)Z"⟩) ∈ cG := inG (i := 0) (by decide +kernel) rfl
theorem w_1 : (Cond.selects "DuneMaps$Sand" ⟨"DuneMaps$Sand", "leeOf", "(I)I"⟩ ⟨"DuneMaps$Sand", "leeOf", "(I)I"⟩) ∈ cG := inG (i := 1) (by decide +kernel) rfl
theorem w_2 : (Cond.selects "DuneMaps$Sand" ⟨"DuneMaps$Sand", "moveSand", "(III)I"⟩ ⟨"DuneMaps$Sand", "moveSand", "(III)I"⟩) ∈ cG := inG (i := 2) (by decide +kernel) rfl
theorem w_3 : (Cond.selects "DuneMaps$Sand" ⟨"DuneMaps$Sand", "luffOf", "(I)I"⟩ ⟨"DuneMaps$Sand", "luffOf", "(I)I"⟩) ∈ cG := inG (i := 3) (by decide +kernel) rfl
theorem w_4 : (Cond.selects "DuneMaps$Ordering" ⟨"DuneMaps$Ordering", "tryTurn", "(LDuneMaps$Land;III)V"⟩ ⟨"DuneMaps$Ordering", "tryTurn", "(LDuneMaps$Land;III)V"⟩) ∈ cG := inG (i := 4) (by decide +kernel) rfl
theorem w_5 : (Cond.selects "DuneMaps$Ordering" ⟨"DuneMaps$Ordering", "keep", "(I)V"⟩ ⟨"DuneMaps$Ordering", "keep", "(I)V"⟩) ∈ cG := inG (i := 5) (by decide +kernel) rfl
theorem w_6 : (Cond.selects "DuneMaps$Footing" ⟨"DuneMaps$Footing", "tryFrom", "(III)V"⟩ ⟨"DuneMaps$Footing", "tryFrom", "(III)V"⟩) ∈ cG := inG (i := 6) (by decide +kernel) rfl
theorem w_7 : (Cond.selects "DuneMaps$Dusk" ⟨"DuneMaps$Dusk", "tryWalk", "(ILDuneMaps$Sand;LDuneMaps$Sand;)V"⟩ ⟨"DuneMaps$Dusk", "tryWalk", "(ILDuneMaps$Sand;LDuneMaps$Sand;)V"⟩) ∈ cG := inG (i := 7) (by decide +kernel) rfl
theorem w_8 : (Cond.selects "DuneMaps" ⟨"DuneMaps", "withCells", "(J)J"⟩ ⟨"DuneMaps", "withCells", "(J)J"⟩) ∈ cG := inG (i := 8) (by decide +kernel) rfl
theorem w_9 : (Cond.selects "DuneMaps" ⟨"DuneMaps", "withOrder", "(J)J"⟩ ⟨"DuneMaps", "withOrder", "(J)J"⟩) ∈ cG := inG (i := 9) (by decide +kernel) rfl
theorem w_10 : (Cond.selects "DuneMapsModel" ⟨"DuneMapsModel", "faultOf", "(I)I"⟩ ⟨"DuneMapsModel", "faultOf", "(I)I"⟩) ∈ cG := inG (i := 10) (by decide +kernel) rfl
theorem w_11 : (Cond.selects "DuneMapsModel" ⟨"DuneMapsModel", "isCell", "(I)Z"⟩ ⟨"DuneMapsModel", "isCell", "(I)Z"⟩) ∈ cG := inG (i := 11) (by decide +kernel) rfl
theorem w_12 : (Cond.selects "DuneMapsModel" ⟨"DuneMapsModel", "tellCell", "(II)I"⟩ ⟨"DuneMapsModel", "tellCell", "(II)I"⟩) ∈ cG := inG (i := 12) (by decide +kernel) rfl
theorem w_13 : (Cond.selects "DuneMapsModel" ⟨"DuneMapsModel", "walkersAt", "(I)I"⟩ ⟨"DuneMapsModel", "walkersAt", "(I)I"⟩) ∈ cG := inG (i := 13) (by decide +kernel) rfl
theorem w_14 : (Cond.selects "DuneMapsModel" ⟨"DuneMapsModel", "nightOf", "([I)I"⟩ ⟨"DuneMapsModel", "nightOf", "([I)I"⟩) ∈ cG := inG (i := 14) (by decide +kernel) rfl
theorem w_15 : (Cond.selects "DuneMapsModel" ⟨"DuneMapsModel", "crests", "([I)I"⟩ ⟨"DuneMapsModel", "crests", "([I)I"⟩) ∈ cG := inG (i := 15) (by decide +kernel) rfl
theorem w_16 : (Cond.selects "DuneMapsModel" ⟨"DuneMapsModel", "leeOf", "(I)I"⟩ ⟨"DuneMapsModel", "leeOf", "(I)I"⟩) ∈ cG := inG (i := 16) (by decide +kernel) rfl
theorem w_17 : (Cond.selects "DuneMapsModel" ⟨"DuneMapsModel", "isWalker", "(I)Z"⟩ ⟨"DuneMapsModel", "isWalker", "(I)Z"⟩) ∈ cG := inG (i := 17) (by decide +kernel) rfl
theorem w_18 : (Cond.selects "DuneMapsModel" ⟨"DuneMapsModel", "tell", "(II)I"⟩ ⟨"DuneMapsModel", "tell", "(II)I"⟩) ∈ cG := inG (i := 18) (by decide +kernel) rfl
theorem w_19 : (Cond.selects "DuneMapsModel" ⟨"DuneMapsModel", "hasMap", "(I)Z"⟩ ⟨"DuneMapsModel", "hasMap", "(I)Z"⟩) ∈ cG := inG (i := 19) (by decide +kernel) rfl
theorem w_20 : (Cond.selects "DuneMapsModel" ⟨"DuneMapsModel", "isGood", "([II)Z"⟩ ⟨"DuneMapsModel", "isGood", "([II)Z"⟩) ∈ cG := inG (i := 20) (by decide +kernel) rfl
theorem w_21 : (Cond.selects "DuneMapsModel" ⟨"DuneMapsModel", "steps", "(II)I"⟩ ⟨"DuneMapsModel", "steps", "(II)I"⟩) ∈ cG := inG (i := 21) (by decide +kernel) rfl
theorem w_22 : (Cond.selects "DuneMapsModel" ⟨"DuneMapsModel", "treads", "([III)I"⟩ ⟨"DuneMapsModel", "treads", "([III)I"⟩) ∈ cG := inG (i := 22) (by decide +kernel) rfl
theorem w_23 : (Cond.selects "DuneMapsModel" ⟨"DuneMapsModel", "luffOf", "(I)I"⟩ ⟨"DuneMapsModel", "luffOf", "(I)I"⟩) ∈ cG := inG (i := 23) (by decide +kernel) rfl
theorem w_24 : (Cond.selects "DuneMapsModel" ⟨"DuneMapsModel", "tellOrder", "(I)I"⟩ ⟨"DuneMapsModel", "tellOrder", "(I)I"⟩) ∈ cG := inG (i := 24) (by decide +kernel) rfl
theorem w_25 : (Cond.selects "DuneMapsModel" ⟨"DuneMapsModel", "layOrder", "()I"⟩ ⟨"DuneMapsModel", "layOrder", "()I"⟩) ∈ cG := inG (i := 25) (by decide +kernel) rfl
theorem w_26 : (Cond.selects "DuneMapsModel" ⟨"DuneMapsModel", "layWho", "()V"⟩ ⟨"DuneMapsModel", "layWho", "()V"⟩) ∈ cG := inG (i := 26) (by decide +kernel) rfl
theorem w_27 : (Cond.selects "DuneMapsModel" ⟨"DuneMapsModel", "isOrder", "(I)Z"⟩ ⟨"DuneMapsModel", "isOrder", "(I)Z"⟩) ∈ cG := inG (i := 27) (by decide +kernel) rfl
theorem w_28 : (Cond.selects "DuneMapsModel" ⟨"DuneMapsModel", "goes", "(I)V"⟩ ⟨"DuneMapsModel", "goes", "(I)V"⟩) ∈ cG := inG (i := 28) (by decide +kernel) rfl
theorem w_29 : (Cond.selects "DuneMapsModel" ⟨"DuneMapsModel", "feetOf", "(IIII)I"⟩ ⟨"DuneMapsModel", "feetOf", "(IIII)I"⟩) ∈ cG := inG (i := 29) (by decide +kernel) rfl
theorem w_30 : (Cond.selects "DuneMapsModel" ⟨"DuneMapsModel", "highBy", "(IIII)I"⟩ ⟨"DuneMapsModel", "highBy", "(IIII)I"⟩) ∈ cG := inG (i := 30) (by decide +kernel) rfl
theorem w_31 : (Cond.selects "DuneMapsModel" ⟨"DuneMapsModel", "whoOf", "(I)I"⟩ ⟨"DuneMapsModel", "whoOf", "(I)I"⟩) ∈ cG := inG (i := 31) (by decide +kernel) rfl
theorem w_32 : (Cond.selects "DuneMapsModel" ⟨"DuneMapsModel", "isAsNow", "()Z"⟩ ⟨"DuneMapsModel", "isAsNow", "()Z"⟩) ∈ cG := inG (i := 32) (by decide +kernel) rfl
theorem w_33 : (Cond.selects "DuneMapsModel" ⟨"DuneMapsModel", "draw", "(I)I"⟩ ⟨"DuneMapsModel", "draw", "(I)I"⟩) ∈ cG := inG (i := 33) (by decide +kernel) rfl
theorem w_34 : (Cond.selects "DuneMapsModel" ⟨"DuneMapsModel", "countOf", "(I)I"⟩ ⟨"DuneMapsModel", "countOf", "(I)I"⟩) ∈ cG := inG (i := 34) (by decide +kernel) rfl
theorem w_35 : (Cond.selects "DuneMapsModel" ⟨"DuneMapsModel", "sumBy", "(I)I"⟩ ⟨"DuneMapsModel", "sumBy", "(I)I"⟩) ∈ cG := inG (i := 35) (by decide +kernel) rfl
theorem w_36 : (Cond.selects "DuneMapsModel" ⟨"DuneMapsModel", "sayDunes", "()V"⟩ ⟨"DuneMapsModel", "sayDunes", "()V"⟩) ∈ cG := inG (i := 36) (by decide +kernel) rfl
theorem w_37 : (Cond.selects "DuneMapsModel" ⟨"DuneMapsModel", "say", "(J)V"⟩ ⟨"DuneMapsModel", "say", "(J)V"⟩) ∈ cG := inG (i := 37) (by decide +kernel) rfl
theorem w_38 : (Cond.initialized "DuneMapsLaw") ∈ cG := inG (i := 38) (by decide +kernel) rfl
theorem w_39 : (Cond.initialized "DuneMaps") ∈ cG := inG (i := 39) (by decide +kernel) rfl
theorem w_40 : (Cond.initialized "DuneMaps$Page") ∈ cG := inG (i := 40) (by decide +kernel) rfl
theorem w_41 : (Cond.initialized "DuneMaps$Land") ∈ cG := inG (i := 41) (by decide +kernel) rfl
theorem w_42 : (Cond.initialized "DuneMaps$Sand") ∈ cG := inG (i := 42) (by decide +kernel) rfl
theorem w_43 : (Cond.initialized "DuneMaps$Walker") ∈ cG := inG (i := 43) (by decide +kernel) rfl
theorem w_44 : (Cond.initialized "DuneMaps$Ordering") ∈ cG := inG (i := 44) (by decide +kernel) rfl
theorem w_45 : (Cond.initialized "DuneMaps$Footing") ∈ cG := inG (i := 45) (by decide +kernel) rfl
theorem w_46 : (Cond.initialized "DuneMaps$Dusk") ∈ cG := inG (i := 46) (by decide +kernel) rfl
theorem w_47 : (Cond.initialized "DuneMapsModel") ∈ cG := inG (i := 47) (by decide +kernel) rfl
theorem w_48 : (Cond.initialized "java/lang/Math") ∈ cG := inG (i := 48) (by decide +kernel) rfl
theorem w_49 : (Cond.initialized "java/lang/Integer") ∈ cG := inG (i := 49) (by decide +kernel) rfl
theorem w_50 : (Cond.classLink "DuneMapsLaw" (7 : Nat) "DuneMaps") ∈ cG := inG (i := 50) (by decide +kernel) rfl
theorem w_51 : (Cond.instantiable "DuneMaps" (12 : Nat)) ∈ cG := inG (i := 51) (by decide +kernel) rfl
theorem w_52 : (Cond.methodLink "DuneMapsLaw" (9 : Nat) ({ cls := "DuneMaps", name := "<init>", desc := "()V" } : MethodName)) ∈ cG := inG (i := 52) (by decide +kernel) rfl
theorem w_53 : (Cond.instanceMethod ({ cls := "DuneMaps", name := "<init>", desc := "()V" } : MethodName)) ∈ cG := inG (i := 53) (by decide +kernel) rfl
theorem w_54 : (Cond.code ({ cls := "DuneMaps", name := "<init>", desc := "()V" } : MethodName) prog_1_method_1_code (1 : Nat) (Option.none : Option FieldType)) ∈ cG := inG (i := 54) (by decide +kernel) rfl
theorem w_55 : (Cond.methodLink "DuneMaps" (3 : Nat) ({ cls := "java/lang/Object", name := "<init>", desc := "()V" } : MethodName)) ∈ cG := inG (i := 55) (by decide +kernel) rfl
theorem w_56 : (Cond.instanceMethod ({ cls := "java/lang/Object", name := "<init>", desc := "()V" } : MethodName)) ∈ cG := inG (i := 56) (by decide +kernel) rfl
theorem w_57 : (Cond.code ({ cls := "java/lang/Object", name := "<init>", desc := "()V" } : MethodName) object_method_1_code (1 : Nat) (Option.none : Option FieldType)) ∈ cG := inG (i := 57) (by decide +kernel) rfl
theorem w_58 : (Cond.classLink "DuneMaps" (9 : Nat) "DuneMaps$Page") ∈ cG := inG (i := 58) (by decide +kernel) rfl
theorem w_59 : (Cond.instantiable "DuneMaps$Page" (2 : Nat)) ∈ cG := inG (i := 59) (by decide +kernel) rfl
theorem w_60 : (Cond.methodLinkNest "DuneMaps" (11 : Nat) ({ cls := "DuneMaps$Page", name := "<init>", desc := "()V" } : MethodName) "DuneMaps") ∈ lw_tbl := inT (i := 60) (by decide +kernel)
theorem w_61 : (Cond.instanceMethod ({ cls := "DuneMaps$Page", name := "<init>", desc := "()V" } : MethodName)) ∈ cG := inG (i := 61) (by decide +kernel) rfl
theorem w_62 : (Cond.code ({ cls := "DuneMaps$Page", name := "<init>", desc := "()V" } : MethodName) prog_6_method_1_code (1 : Nat) (Option.none : Option FieldType)) ∈ cG := inG (i := 62) (by decide +kernel) rfl
theorem w_63 : (Cond.methodLink "DuneMaps$Page" (3 : Nat) ({ cls := "java/lang/Object", name := "<init>", desc := "()V" } : MethodName)) ∈ cG := inG (i := 63) (by decide +kernel) rfl
theorem w_64 : (Cond.fieldLink "DuneMaps$Page" (9 : Nat) "DuneMaps$Page" "codes" "[I") ∈ cG := inG (i := 64) (by decide +kernel) rfl
theorem w_65 : (Cond.fieldLink "DuneMaps$Page" (15 : Nat) "DuneMaps$Page" "length" "I") ∈ cG := inG (i := 65) (by decide +kernel) rfl
theorem w_66 : (Cond.fieldLink "DuneMaps" (61 : Nat) "DuneMaps$Page" "length" "I") ∈ cG := inG (i := 66) (by decide +kernel) rfl
theorem w_67 : (Cond.laysFinal "DuneMaps$Page" "DuneMaps$Page" "codes" "[I") ∈ cG := inG (i := 67) (by decide +kernel) rfl
theorem w_68 : (Cond.soleField "DuneMaps$Page" "codes") ∈ lw_tbl := inT (i := 68) (by decide +kernel)
theorem w_69 : (Cond.lays "DuneMaps$Page" "DuneMaps$Page" "length" "I") ∈ cG := inG (i := 69) (by decide +kernel) rfl
theorem w_70 : (Cond.soleField "DuneMaps$Page" "length") ∈ lw_tbl := inT (i := 70) (by decide +kernel)
theorem w_71 : (Cond.superclass "DuneMaps$Page" "java/lang/Object") ∈ lw_tbl := inT (i := 71) (by decide +kernel)
theorem w_72 : (Cond.arrayClass FieldType.int) ∈ cG := inG (i := 72) (by decide +kernel) rfl
theorem w_73 : (Cond.classLink "DuneMaps" (16 : Nat) "DuneMaps$Land") ∈ cG := inG (i := 73) (by decide +kernel) rfl
theorem w_74 : (Cond.instantiable "DuneMaps$Land" (4 : Nat)) ∈ cG := inG (i := 74) (by decide +kernel) rfl
theorem w_75 : (Cond.methodLink "DuneMaps" (18 : Nat) ({ cls := "DuneMaps$Land", name := "<init>", desc := "()V" } : MethodName)) ∈ cG := inG (i := 75) (by decide +kernel) rfl
theorem w_76 : (Cond.instanceMethod ({ cls := "DuneMaps$Land", name := "<init>", desc := "()V" } : MethodName)) ∈ cG := inG (i := 76) (by decide +kernel) rfl
theorem w_77 : (Cond.code ({ cls := "DuneMaps$Land", name := "<init>", desc := "()V" } : MethodName) prog_4_method_1_code (2 : Nat) (Option.none : Option FieldType)) ∈ cG := inG (i := 77) (by decide +kernel) rfl
theorem w_78 : (Cond.methodLink "DuneMaps$Land" (3 : Nat) ({ cls := "java/lang/Object", name := "<init>", desc := "()V" } : MethodName)) ∈ cG := inG (i := 78) (by decide +kernel) rfl
theorem w_79 : (Cond.classLink "DuneMaps$Land" (9 : Nat) "DuneMaps$Sand") ∈ cG := inG (i := 79) (by decide +kernel) rfl
theorem w_80 : (Cond.instantiable "DuneMaps$Sand" (2 : Nat)) ∈ cG := inG (i := 80) (by decide +kernel) rfl
theorem w_81 : (Cond.methodLinkNest "DuneMaps$Land" (11 : Nat) ({ cls := "DuneMaps$Sand", name := "<init>", desc := "()V" } : MethodName) "DuneMaps") ∈ lw_tbl := inT (i := 81) (by decide +kernel)
theorem w_82 : (Cond.instanceMethod ({ cls := "DuneMaps$Sand", name := "<init>", desc := "()V" } : MethodName)) ∈ cG := inG (i := 82) (by decide +kernel) rfl
theorem w_83 : (Cond.code ({ cls := "DuneMaps$Sand", name := "<init>", desc := "()V" } : MethodName) prog_7_method_1_code (1 : Nat) (Option.none : Option FieldType)) ∈ cG := inG (i := 83) (by decide +kernel) rfl
theorem w_84 : (Cond.methodLink "DuneMaps$Sand" (3 : Nat) ({ cls := "java/lang/Object", name := "<init>", desc := "()V" } : MethodName)) ∈ cG := inG (i := 84) (by decide +kernel) rfl
theorem w_85 : (Cond.fieldLink "DuneMaps$Sand" (9 : Nat) "DuneMaps$Sand" "heights" "[I") ∈ cG := inG (i := 85) (by decide +kernel) rfl
theorem w_86 : (Cond.fieldLink "DuneMaps$Dusk" (24 : Nat) "DuneMaps$Sand" "blowsOn" "Z") ∈ cG := inG (i := 86) (by decide +kernel) rfl
theorem w_87 : (Cond.fieldLink "DuneMaps$Sand" (19 : Nat) "DuneMaps$Sand" "blowsOn" "Z") ∈ cG := inG (i := 87) (by decide +kernel) rfl
theorem w_88 : (Cond.fieldLink "DuneMaps" (86 : Nat) "DuneMaps$Sand" "blowsOn" "Z") ∈ cG := inG (i := 88) (by decide +kernel) rfl
theorem w_89 : (Cond.laysFinal "DuneMaps$Sand" "DuneMaps$Sand" "heights" "[I") ∈ cG := inG (i := 89) (by decide +kernel) rfl
theorem w_90 : (Cond.soleField "DuneMaps$Sand" "heights") ∈ lw_tbl := inT (i := 90) (by decide +kernel)
theorem w_91 : (Cond.lays "DuneMaps$Sand" "DuneMaps$Sand" "blowsOn" "Z") ∈ cG := inG (i := 91) (by decide +kernel) rfl
theorem w_92 : (Cond.soleField "DuneMaps$Sand" "blowsOn") ∈ lw_tbl := inT (i := 92) (by decide +kernel)
theorem w_93 : (Cond.superclass "DuneMaps$Sand" "java/lang/Object") ∈ lw_tbl := inT (i := 93) (by decide +kernel)
theorem w_94 : (Cond.classLink "DuneMaps$Land" (18 : Nat) "DuneMaps$Walker") ∈ cG := inG (i := 94) (by decide +kernel) rfl
theorem w_95 : (Cond.arrayOver (FieldType.object "DuneMaps$Walker")) ∈ lw_tbl := inT (i := 95) (by decide +kernel)
theorem w_96 : (Cond.instantiable "DuneMaps$Walker" (6 : Nat)) ∈ cG := inG (i := 96) (by decide +kernel) rfl
theorem w_97 : (Cond.methodLinkNest "DuneMaps$Land" (24 : Nat) ({ cls := "DuneMaps$Walker", name := "<init>", desc := "()V" } : MethodName) "DuneMaps") ∈ lw_tbl := inT (i := 97) (by decide +kernel)
theorem w_98 : (Cond.instanceMethod ({ cls := "DuneMaps$Walker", name := "<init>", desc := "()V" } : MethodName)) ∈ cG := inG (i := 98) (by decide +kernel) rfl
theorem w_99 : (Cond.code ({ cls := "DuneMaps$Walker", name := "<init>", desc := "()V" } : MethodName) prog_8_method_1_code (1 : Nat) (Option.none : Option FieldType)) ∈ cG := inG (i := 99) (by decide +kernel) rfl
theorem w_100 : (Cond.methodLink "DuneMaps$Walker" (3 : Nat) ({ cls := "java/lang/Object", name := "<init>", desc := "()V" } : MethodName)) ∈ cG := inG (i := 100) (by decide +kernel) rfl
theorem w_101 : (Cond.fieldLink "DuneMaps$Walker" (9 : Nat) "DuneMaps$Walker" "told" "[I") ∈ cG := inG (i := 101) (by decide +kernel) rfl
theorem w_102 : (Cond.fieldLink "DuneMaps$Walker" (15 : Nat) "DuneMaps$Walker" "kind" "I") ∈ cG := inG (i := 102) (by decide +kernel) rfl
theorem w_103 : (Cond.fieldLink "DuneMaps$Footing" (18 : Nat) "DuneMaps$Walker" "kind" "I") ∈ cG := inG (i := 103) (by decide +kernel) rfl
theorem w_104 : (Cond.fieldLink "DuneMaps" (139 : Nat) "DuneMaps$Walker" "kind" "I") ∈ cG := inG (i := 104) (by decide +kernel) rfl
theorem w_105 : (Cond.fieldLink "DuneMaps$Walker" (19 : Nat) "DuneMaps$Walker" "place" "I") ∈ cG := inG (i := 105) (by decide +kernel) rfl
theorem w_106 : (Cond.fieldLink "DuneMaps$Footing" (44 : Nat) "DuneMaps$Walker" "place" "I") ∈ cG := inG (i := 106) (by decide +kernel) rfl
theorem w_107 : (Cond.fieldLink "DuneMaps$Land" (43 : Nat) "DuneMaps$Walker" "place" "I") ∈ cG := inG (i := 107) (by decide +kernel) rfl
theorem w_108 : (Cond.fieldLink "DuneMaps" (144 : Nat) "DuneMaps$Walker" "place" "I") ∈ cG := inG (i := 108) (by decide +kernel) rfl
theorem w_109 : (Cond.fieldLink "DuneMaps$Walker" (22 : Nat) "DuneMaps$Walker" "stepsGone" "I") ∈ cG := inG (i := 109) (by decide +kernel) rfl
theorem w_110 : (Cond.fieldLink "DuneMaps$Land" (58 : Nat) "DuneMaps$Walker" "stepsGone" "I") ∈ cG := inG (i := 110) (by decide +kernel) rfl
theorem w_111 : (Cond.fieldLink "DuneMaps" (150 : Nat) "DuneMaps$Walker" "stepsGone" "I") ∈ cG := inG (i := 111) (by decide +kernel) rfl
theorem w_112 : (Cond.fieldLink "DuneMaps$Walker" (25 : Nat) "DuneMaps$Walker" "mapWay" "I") ∈ cG := inG (i := 112) (by decide +kernel) rfl
theorem w_113 : (Cond.fieldLink "DuneMaps" (160 : Nat) "DuneMaps$Walker" "mapWay" "I") ∈ cG := inG (i := 113) (by decide +kernel) rfl
theorem w_114 : (Cond.fieldLink "DuneMaps$Walker" (28 : Nat) "DuneMaps$Walker" "mapSteps" "I") ∈ cG := inG (i := 114) (by decide +kernel) rfl
theorem w_115 : (Cond.fieldLink "DuneMaps" (163 : Nat) "DuneMaps$Walker" "mapSteps" "I") ∈ cG := inG (i := 115) (by decide +kernel) rfl
theorem w_116 : (Cond.laysFinal "DuneMaps$Walker" "DuneMaps$Walker" "told" "[I") ∈ cG := inG (i := 116) (by decide +kernel) rfl
theorem w_117 : (Cond.soleField "DuneMaps$Walker" "told") ∈ lw_tbl := inT (i := 117) (by decide +kernel)
theorem w_118 : (Cond.lays "DuneMaps$Walker" "DuneMaps$Walker" "kind" "I") ∈ cG := inG (i := 118) (by decide +kernel) rfl
theorem w_119 : (Cond.soleField "DuneMaps$Walker" "kind") ∈ lw_tbl := inT (i := 119) (by decide +kernel)
theorem w_120 : (Cond.lays "DuneMaps$Walker" "DuneMaps$Walker" "place" "I") ∈ cG := inG (i := 120) (by decide +kernel) rfl
theorem w_121 : (Cond.soleField "DuneMaps$Walker" "place") ∈ lw_tbl := inT (i := 121) (by decide +kernel)
theorem w_122 : (Cond.lays "DuneMaps$Walker" "DuneMaps$Walker" "stepsGone" "I") ∈ cG := inG (i := 122) (by decide +kernel) rfl
theorem w_123 : (Cond.soleField "DuneMaps$Walker" "stepsGone") ∈ lw_tbl := inT (i := 123) (by decide +kernel)
theorem w_124 : (Cond.lays "DuneMaps$Walker" "DuneMaps$Walker" "mapWay" "I") ∈ cG := inG (i := 124) (by decide +kernel) rfl
theorem w_125 : (Cond.soleField "DuneMaps$Walker" "mapWay") ∈ lw_tbl := inT (i := 125) (by decide +kernel)
theorem w_126 : (Cond.lays "DuneMaps$Walker" "DuneMaps$Walker" "mapSteps" "I") ∈ cG := inG (i := 126) (by decide +kernel) rfl
theorem w_127 : (Cond.soleField "DuneMaps$Walker" "mapSteps") ∈ lw_tbl := inT (i := 127) (by decide +kernel)
theorem w_128 : (Cond.superclass "DuneMaps$Walker" "java/lang/Object") ∈ lw_tbl := inT (i := 128) (by decide +kernel)
theorem w_129 : (Cond.fieldLink "DuneMaps$Land" (12 : Nat) "DuneMaps$Land" "sand" "LDuneMaps$Sand;") ∈ cG := inG (i := 129) (by decide +kernel) rfl
theorem w_130 : (Cond.fieldLink "DuneMaps$Ordering" (38 : Nat) "DuneMaps$Land" "sand" "LDuneMaps$Sand;") ∈ cG := inG (i := 130) (by decide +kernel) rfl
theorem w_131 : (Cond.fieldLink "DuneMaps" (75 : Nat) "DuneMaps$Land" "sand" "LDuneMaps$Sand;") ∈ cG := inG (i := 131) (by decide +kernel) rfl
theorem w_132 : (Cond.fieldLink "DuneMaps$Land" (20 : Nat) "DuneMaps$Land" "walkers" "[LDuneMaps$Walker;") ∈ cG := inG (i := 132) (by decide +kernel) rfl
theorem w_133 : (Cond.fieldLink "DuneMaps$Land" (25 : Nat) "DuneMaps$Land" "walkerCount" "I") ∈ cG := inG (i := 133) (by decide +kernel) rfl
theorem w_134 : (Cond.fieldLink "DuneMaps$Ordering" (54 : Nat) "DuneMaps$Land" "walkerCount" "I") ∈ cG := inG (i := 134) (by decide +kernel) rfl
theorem w_135 : (Cond.fieldLink "DuneMaps" (225 : Nat) "DuneMaps$Land" "walkerCount" "I") ∈ cG := inG (i := 135) (by decide +kernel) rfl
theorem w_136 : (Cond.fieldLink "DuneMaps$Land" (29 : Nat) "DuneMaps$Land" "nights" "I") ∈ cG := inG (i := 136) (by decide +kernel) rfl
theorem w_137 : (Cond.fieldLink "DuneMaps" (122 : Nat) "DuneMaps$Land" "nights" "I") ∈ cG := inG (i := 137) (by decide +kernel) rfl
theorem w_138 : (Cond.laysFinal "DuneMaps$Land" "DuneMaps$Land" "sand" "LDuneMaps$Sand;") ∈ cG := inG (i := 138) (by decide +kernel) rfl
theorem w_139 : (Cond.soleField "DuneMaps$Land" "sand") ∈ lw_tbl := inT (i := 139) (by decide +kernel)
theorem w_140 : (Cond.laysFinal "DuneMaps$Land" "DuneMaps$Land" "walkers" "[LDuneMaps$Walker;") ∈ cG := inG (i := 140) (by decide +kernel) rfl
theorem w_141 : (Cond.soleField "DuneMaps$Land" "walkers") ∈ lw_tbl := inT (i := 141) (by decide +kernel)
theorem w_142 : (Cond.lays "DuneMaps$Land" "DuneMaps$Land" "walkerCount" "I") ∈ cG := inG (i := 142) (by decide +kernel) rfl
theorem w_143 : (Cond.soleField "DuneMaps$Land" "walkerCount") ∈ lw_tbl := inT (i := 143) (by decide +kernel)
theorem w_144 : (Cond.lays "DuneMaps$Land" "DuneMaps$Land" "nights" "I") ∈ cG := inG (i := 144) (by decide +kernel) rfl
theorem w_145 : (Cond.soleField "DuneMaps$Land" "nights") ∈ lw_tbl := inT (i := 145) (by decide +kernel)
theorem w_146 : (Cond.superclass "DuneMaps$Land" "java/lang/Object") ∈ lw_tbl := inT (i := 146) (by decide +kernel)
theorem w_147 : (Cond.classLink "DuneMaps" (26 : Nat) "DuneMaps$Sand") ∈ cG := inG (i := 147) (by decide +kernel) rfl
theorem w_148 : (Cond.methodLinkNest "DuneMaps" (28 : Nat) ({ cls := "DuneMaps$Sand", name := "<init>", desc := "()V" } : MethodName) "DuneMaps") ∈ lw_tbl := inT (i := 148) (by decide +kernel)
theorem w_149 : (Cond.classLink "DuneMaps" (36 : Nat) "DuneMaps$Ordering") ∈ cG := inG (i := 149) (by decide +kernel) rfl
theorem w_150 : (Cond.instantiable "DuneMaps$Ordering" (5 : Nat)) ∈ cG := inG (i := 150) (by decide +kernel) rfl
theorem w_151 : (Cond.methodLink "DuneMaps" (38 : Nat) ({ cls := "DuneMaps$Ordering", name := "<init>", desc := "()V" } : MethodName)) ∈ cG := inG (i := 151) (by decide +kernel) rfl
theorem w_152 : (Cond.instanceMethod ({ cls := "DuneMaps$Ordering", name := "<init>", desc := "()V" } : MethodName)) ∈ cG := inG (i := 152) (by decide +kernel) rfl
theorem w_153 : (Cond.code ({ cls := "DuneMaps$Ordering", name := "<init>", desc := "()V" } : MethodName) prog_5_method_1_code (2 : Nat) (Option.none : Option FieldType)) ∈ cG := inG (i := 153) (by decide +kernel) rfl
theorem w_154 : (Cond.methodLink "DuneMaps$Ordering" (3 : Nat) ({ cls := "java/lang/Object", name := "<init>", desc := "()V" } : MethodName)) ∈ cG := inG (i := 154) (by decide +kernel) rfl
theorem w_155 : (Cond.classLink "DuneMaps$Ordering" (9 : Nat) "DuneMaps$Sand") ∈ cG := inG (i := 155) (by decide +kernel) rfl
theorem w_156 : (Cond.arrayOver (FieldType.object "DuneMaps$Sand")) ∈ lw_tbl := inT (i := 156) (by decide +kernel)
theorem w_157 : (Cond.methodLinkNest "DuneMaps$Ordering" (24 : Nat) ({ cls := "DuneMaps$Sand", name := "<init>", desc := "()V" } : MethodName) "DuneMaps") ∈ lw_tbl := inT (i := 157) (by decide +kernel)
theorem w_158 : (Cond.fieldLink "DuneMaps$Ordering" (11 : Nat) "DuneMaps$Ordering" "sands" "[LDuneMaps$Sand;") ∈ cG := inG (i := 158) (by decide +kernel) rfl
theorem w_159 : (Cond.fieldLink "DuneMaps$Ordering" (17 : Nat) "DuneMaps$Ordering" "turns" "[I") ∈ cG := inG (i := 159) (by decide +kernel) rfl
theorem w_160 : (Cond.fieldLink "DuneMaps$Ordering" (21 : Nat) "DuneMaps$Ordering" "best" "[I") ∈ cG := inG (i := 160) (by decide +kernel) rfl
theorem w_161 : (Cond.fieldLink "DuneMaps$Ordering" (25 : Nat) "DuneMaps$Ordering" "goers" "I") ∈ cG := inG (i := 161) (by decide +kernel) rfl
theorem w_162 : (Cond.fieldLink "DuneMaps$Ordering" (35 : Nat) "DuneMaps$Ordering" "mostGood" "I") ∈ cG := inG (i := 162) (by decide +kernel) rfl
theorem w_163 : (Cond.fieldLink "DuneMaps" (187 : Nat) "DuneMaps$Ordering" "mostGood" "I") ∈ cG := inG (i := 163) (by decide +kernel) rfl
theorem w_164 : (Cond.laysFinal "DuneMaps$Ordering" "DuneMaps$Ordering" "sands" "[LDuneMaps$Sand;") ∈ cG := inG (i := 164) (by decide +kernel) rfl
theorem w_165 : (Cond.soleField "DuneMaps$Ordering" "sands") ∈ lw_tbl := inT (i := 165) (by decide +kernel)
theorem w_166 : (Cond.laysFinal "DuneMaps$Ordering" "DuneMaps$Ordering" "turns" "[I") ∈ cG := inG (i := 166) (by decide +kernel) rfl
theorem w_167 : (Cond.soleField "DuneMaps$Ordering" "turns") ∈ lw_tbl := inT (i := 167) (by decide +kernel)
theorem w_168 : (Cond.laysFinal "DuneMaps$Ordering" "DuneMaps$Ordering" "best" "[I") ∈ cG := inG (i := 168) (by decide +kernel) rfl
theorem w_169 : (Cond.soleField "DuneMaps$Ordering" "best") ∈ lw_tbl := inT (i := 169) (by decide +kernel)
theorem w_170 : (Cond.lays "DuneMaps$Ordering" "DuneMaps$Ordering" "goers" "I") ∈ cG := inG (i := 170) (by decide +kernel) rfl
theorem w_171 : (Cond.soleField "DuneMaps$Ordering" "goers") ∈ lw_tbl := inT (i := 171) (by decide +kernel)
theorem w_172 : (Cond.lays "DuneMaps$Ordering" "DuneMaps$Ordering" "mostGood" "I") ∈ cG := inG (i := 172) (by decide +kernel) rfl
theorem w_173 : (Cond.soleField "DuneMaps$Ordering" "mostGood") ∈ lw_tbl := inT (i := 173) (by decide +kernel)
theorem w_174 : (Cond.superclass "DuneMaps$Ordering" "java/lang/Object") ∈ lw_tbl := inT (i := 174) (by decide +kernel)
theorem w_175 : (Cond.classLink "DuneMaps" (43 : Nat) "DuneMaps$Footing") ∈ cG := inG (i := 175) (by decide +kernel) rfl
theorem w_176 : (Cond.instantiable "DuneMaps$Footing" (7 : Nat)) ∈ cG := inG (i := 176) (by decide +kernel) rfl
theorem w_177 : (Cond.methodLink "DuneMaps" (45 : Nat) ({ cls := "DuneMaps$Footing", name := "<init>", desc := "()V" } : MethodName)) ∈ cG := inG (i := 177) (by decide +kernel) rfl
theorem w_178 : (Cond.instanceMethod ({ cls := "DuneMaps$Footing", name := "<init>", desc := "()V" } : MethodName)) ∈ cG := inG (i := 178) (by decide +kernel) rfl
theorem w_179 : (Cond.code ({ cls := "DuneMaps$Footing", name := "<init>", desc := "()V" } : MethodName) prog_3_method_1_code (2 : Nat) (Option.none : Option FieldType)) ∈ cG := inG (i := 179) (by decide +kernel) rfl
theorem w_180 : (Cond.methodLink "DuneMaps$Footing" (3 : Nat) ({ cls := "java/lang/Object", name := "<init>", desc := "()V" } : MethodName)) ∈ cG := inG (i := 180) (by decide +kernel) rfl
theorem w_181 : (Cond.classLink "DuneMaps$Footing" (9 : Nat) "DuneMaps$Sand") ∈ cG := inG (i := 181) (by decide +kernel) rfl
theorem w_182 : (Cond.methodLinkNest "DuneMaps$Footing" (17 : Nat) ({ cls := "DuneMaps$Sand", name := "<init>", desc := "()V" } : MethodName) "DuneMaps") ∈ lw_tbl := inT (i := 182) (by decide +kernel)
theorem w_183 : (Cond.fieldLink "DuneMaps$Footing" (11 : Nat) "DuneMaps$Footing" "sands" "[LDuneMaps$Sand;") ∈ cG := inG (i := 183) (by decide +kernel) rfl
theorem w_184 : (Cond.fieldLink "DuneMaps$Footing" (24 : Nat) "DuneMaps$Footing" "kind" "I") ∈ cG := inG (i := 184) (by decide +kernel) rfl
theorem w_185 : (Cond.fieldLink "DuneMaps$Footing" (25 : Nat) "DuneMaps$Footing" "goal" "I") ∈ cG := inG (i := 185) (by decide +kernel) rfl
theorem w_186 : (Cond.fieldLink "DuneMaps$Footing" (28 : Nat) "DuneMaps$Footing" "goalHeight" "I") ∈ cG := inG (i := 186) (by decide +kernel) rfl
theorem w_187 : (Cond.fieldLink "DuneMaps$Footing" (31 : Nat) "DuneMaps$Footing" "stepsLeft" "I") ∈ cG := inG (i := 187) (by decide +kernel) rfl
theorem w_188 : (Cond.fieldLink "DuneMaps$Footing" (34 : Nat) "DuneMaps$Footing" "fewest" "I") ∈ cG := inG (i := 188) (by decide +kernel) rfl
theorem w_189 : (Cond.fieldLink "DuneMaps" (193 : Nat) "DuneMaps$Footing" "fewest" "I") ∈ cG := inG (i := 189) (by decide +kernel) rfl
theorem w_190 : (Cond.fieldLink "DuneMaps$Footing" (37 : Nat) "DuneMaps$Footing" "bits" "I") ∈ cG := inG (i := 190) (by decide +kernel) rfl
theorem w_191 : (Cond.fieldLink "DuneMaps" (196 : Nat) "DuneMaps$Footing" "bits" "I") ∈ cG := inG (i := 191) (by decide +kernel) rfl
theorem w_192 : (Cond.laysFinal "DuneMaps$Footing" "DuneMaps$Footing" "sands" "[LDuneMaps$Sand;") ∈ cG := inG (i := 192) (by decide +kernel) rfl
theorem w_193 : (Cond.soleField "DuneMaps$Footing" "sands") ∈ lw_tbl := inT (i := 193) (by decide +kernel)
theorem w_194 : (Cond.lays "DuneMaps$Footing" "DuneMaps$Footing" "kind" "I") ∈ cG := inG (i := 194) (by decide +kernel) rfl
theorem w_195 : (Cond.soleField "DuneMaps$Footing" "kind") ∈ lw_tbl := inT (i := 195) (by decide +kernel)
theorem w_196 : (Cond.lays "DuneMaps$Footing" "DuneMaps$Footing" "goal" "I") ∈ cG := inG (i := 196) (by decide +kernel) rfl
theorem w_197 : (Cond.soleField "DuneMaps$Footing" "goal") ∈ lw_tbl := inT (i := 197) (by decide +kernel)
theorem w_198 : (Cond.lays "DuneMaps$Footing" "DuneMaps$Footing" "goalHeight" "I") ∈ cG := inG (i := 198) (by decide +kernel) rfl
theorem w_199 : (Cond.soleField "DuneMaps$Footing" "goalHeight") ∈ lw_tbl := inT (i := 199) (by decide +kernel)
theorem w_200 : (Cond.lays "DuneMaps$Footing" "DuneMaps$Footing" "stepsLeft" "I") ∈ cG := inG (i := 200) (by decide +kernel) rfl
theorem w_201 : (Cond.soleField "DuneMaps$Footing" "stepsLeft") ∈ lw_tbl := inT (i := 201) (by decide +kernel)
theorem w_202 : (Cond.lays "DuneMaps$Footing" "DuneMaps$Footing" "fewest" "I") ∈ cG := inG (i := 202) (by decide +kernel) rfl
theorem w_203 : (Cond.soleField "DuneMaps$Footing" "fewest") ∈ lw_tbl := inT (i := 203) (by decide +kernel)
theorem w_204 : (Cond.lays "DuneMaps$Footing" "DuneMaps$Footing" "bits" "I") ∈ cG := inG (i := 204) (by decide +kernel) rfl
theorem w_205 : (Cond.soleField "DuneMaps$Footing" "bits") ∈ lw_tbl := inT (i := 205) (by decide +kernel)
theorem w_206 : (Cond.superclass "DuneMaps$Footing" "java/lang/Object") ∈ lw_tbl := inT (i := 206) (by decide +kernel)
theorem w_207 : (Cond.classLink "DuneMaps" (50 : Nat) "DuneMaps$Dusk") ∈ cG := inG (i := 207) (by decide +kernel) rfl
theorem w_208 : (Cond.instantiable "DuneMaps$Dusk" (2 : Nat)) ∈ cG := inG (i := 208) (by decide +kernel) rfl
theorem w_209 : (Cond.methodLinkNest "DuneMaps" (52 : Nat) ({ cls := "DuneMaps$Dusk", name := "<init>", desc := "()V" } : MethodName) "DuneMaps") ∈ lw_tbl := inT (i := 209) (by decide +kernel)
theorem w_210 : (Cond.instanceMethod ({ cls := "DuneMaps$Dusk", name := "<init>", desc := "()V" } : MethodName)) ∈ cG := inG (i := 210) (by decide +kernel) rfl
theorem w_211 : (Cond.code ({ cls := "DuneMaps$Dusk", name := "<init>", desc := "()V" } : MethodName) prog_2_method_1_code (1 : Nat) (Option.none : Option FieldType)) ∈ cG := inG (i := 211) (by decide +kernel) rfl
theorem w_212 : (Cond.methodLink "DuneMaps$Dusk" (3 : Nat) ({ cls := "java/lang/Object", name := "<init>", desc := "()V" } : MethodName)) ∈ cG := inG (i := 212) (by decide +kernel) rfl
theorem w_213 : (Cond.fieldLink "DuneMaps$Dusk" (9 : Nat) "DuneMaps$Dusk" "found" "I") ∈ cG := inG (i := 213) (by decide +kernel) rfl
theorem w_214 : (Cond.fieldLink "DuneMaps" (202 : Nat) "DuneMaps$Dusk" "found" "I") ∈ cG := inG (i := 214) (by decide +kernel) rfl
theorem w_215 : (Cond.fieldLink "DuneMaps$Dusk" (15 : Nat) "DuneMaps$Dusk" "least" "I") ∈ cG := inG (i := 215) (by decide +kernel) rfl
theorem w_216 : (Cond.fieldLink "DuneMaps" (205 : Nat) "DuneMaps$Dusk" "least" "I") ∈ cG := inG (i := 216) (by decide +kernel) rfl
theorem w_217 : (Cond.lays "DuneMaps$Dusk" "DuneMaps$Dusk" "found" "I") ∈ cG := inG (i := 217) (by decide +kernel) rfl
theorem w_218 : (Cond.soleField "DuneMaps$Dusk" "found") ∈ lw_tbl := inT (i := 218) (by decide +kernel)
theorem w_219 : (Cond.lays "DuneMaps$Dusk" "DuneMaps$Dusk" "least" "I") ∈ cG := inG (i := 219) (by decide +kernel) rfl
theorem w_220 : (Cond.soleField "DuneMaps$Dusk" "least") ∈ lw_tbl := inT (i := 220) (by decide +kernel)
theorem w_221 : (Cond.superclass "DuneMaps$Dusk" "java/lang/Object") ∈ lw_tbl := inT (i := 221) (by decide +kernel)
theorem w_222 : (Cond.fieldLink "DuneMaps" (12 : Nat) "DuneMaps" "page" "LDuneMaps$Page;") ∈ cG := inG (i := 222) (by decide +kernel) rfl
theorem w_223 : (Cond.fieldLink "DuneMaps" (19 : Nat) "DuneMaps" "land" "LDuneMaps$Land;") ∈ cG := inG (i := 223) (by decide +kernel) rfl
theorem w_224 : (Cond.fieldLink "DuneMaps" (23 : Nat) "DuneMaps" "kept" "LDuneMaps$Land;") ∈ cG := inG (i := 224) (by decide +kernel) rfl
theorem w_225 : (Cond.fieldLink "DuneMaps" (29 : Nat) "DuneMaps" "before" "LDuneMaps$Sand;") ∈ cG := inG (i := 225) (by decide +kernel) rfl
theorem w_226 : (Cond.fieldLink "DuneMaps" (33 : Nat) "DuneMaps" "tried" "LDuneMaps$Sand;") ∈ cG := inG (i := 226) (by decide +kernel) rfl
theorem w_227 : (Cond.fieldLink "DuneMaps" (39 : Nat) "DuneMaps" "ordering" "LDuneMaps$Ordering;") ∈ cG := inG (i := 227) (by decide +kernel) rfl
theorem w_228 : (Cond.fieldLink "DuneMaps" (46 : Nat) "DuneMaps" "footing" "LDuneMaps$Footing;") ∈ cG := inG (i := 228) (by decide +kernel) rfl
theorem w_229 : (Cond.fieldLink "DuneMaps" (53 : Nat) "DuneMaps" "dusk" "LDuneMaps$Dusk;") ∈ cG := inG (i := 229) (by decide +kernel) rfl
theorem w_230 : (Cond.fieldLink "DuneMaps" (90 : Nat) "DuneMaps" "hasDunes" "Z") ∈ cG := inG (i := 230) (by decide +kernel) rfl
theorem w_231 : (Cond.fieldLink "DuneMaps" (93 : Nat) "DuneMaps" "hasImage" "Z") ∈ cG := inG (i := 231) (by decide +kernel) rfl
theorem w_232 : (Cond.fieldLink "DuneMaps" (96 : Nat) "DuneMaps" "hasBefore" "Z") ∈ cG := inG (i := 232) (by decide +kernel) rfl
theorem w_233 : (Cond.fieldLink "DuneMaps" (99 : Nat) "DuneMaps" "timesRead" "I") ∈ cG := inG (i := 233) (by decide +kernel) rfl
theorem w_234 : (Cond.laysFinal "DuneMaps" "DuneMaps" "page" "LDuneMaps$Page;") ∈ cG := inG (i := 234) (by decide +kernel) rfl
theorem w_235 : (Cond.soleField "DuneMaps" "page") ∈ lw_tbl := inT (i := 235) (by decide +kernel)
theorem w_236 : (Cond.laysFinal "DuneMaps" "DuneMaps" "land" "LDuneMaps$Land;") ∈ cG := inG (i := 236) (by decide +kernel) rfl
theorem w_237 : (Cond.soleField "DuneMaps" "land") ∈ lw_tbl := inT (i := 237) (by decide +kernel)
theorem w_238 : (Cond.laysFinal "DuneMaps" "DuneMaps" "kept" "LDuneMaps$Land;") ∈ cG := inG (i := 238) (by decide +kernel) rfl
theorem w_239 : (Cond.soleField "DuneMaps" "kept") ∈ lw_tbl := inT (i := 239) (by decide +kernel)
theorem w_240 : (Cond.laysFinal "DuneMaps" "DuneMaps" "before" "LDuneMaps$Sand;") ∈ cG := inG (i := 240) (by decide +kernel) rfl
theorem w_241 : (Cond.soleField "DuneMaps" "before") ∈ lw_tbl := inT (i := 241) (by decide +kernel)
theorem w_242 : (Cond.laysFinal "DuneMaps" "DuneMaps" "tried" "LDuneMaps$Sand;") ∈ cG := inG (i := 242) (by decide +kernel) rfl
theorem w_243 : (Cond.soleField "DuneMaps" "tried") ∈ lw_tbl := inT (i := 243) (by decide +kernel)
theorem w_244 : (Cond.laysFinal "DuneMaps" "DuneMaps" "ordering" "LDuneMaps$Ordering;") ∈ cG := inG (i := 244) (by decide +kernel) rfl
theorem w_245 : (Cond.soleField "DuneMaps" "ordering") ∈ lw_tbl := inT (i := 245) (by decide +kernel)
theorem w_246 : (Cond.laysFinal "DuneMaps" "DuneMaps" "footing" "LDuneMaps$Footing;") ∈ cG := inG (i := 246) (by decide +kernel) rfl
theorem w_247 : (Cond.soleField "DuneMaps" "footing") ∈ lw_tbl := inT (i := 247) (by decide +kernel)
theorem w_248 : (Cond.laysFinal "DuneMaps" "DuneMaps" "dusk" "LDuneMaps$Dusk;") ∈ cG := inG (i := 248) (by decide +kernel) rfl
theorem w_249 : (Cond.soleField "DuneMaps" "dusk") ∈ lw_tbl := inT (i := 249) (by decide +kernel)
theorem w_250 : (Cond.lays "DuneMaps" "DuneMaps" "hasDunes" "Z") ∈ cG := inG (i := 250) (by decide +kernel) rfl
theorem w_251 : (Cond.soleField "DuneMaps" "hasDunes") ∈ lw_tbl := inT (i := 251) (by decide +kernel)
theorem w_252 : (Cond.lays "DuneMaps" "DuneMaps" "hasImage" "Z") ∈ cG := inG (i := 252) (by decide +kernel) rfl
theorem w_253 : (Cond.soleField "DuneMaps" "hasImage") ∈ lw_tbl := inT (i := 253) (by decide +kernel)
theorem w_254 : (Cond.lays "DuneMaps" "DuneMaps" "hasBefore" "Z") ∈ cG := inG (i := 254) (by decide +kernel) rfl
theorem w_255 : (Cond.soleField "DuneMaps" "hasBefore") ∈ lw_tbl := inT (i := 255) (by decide +kernel)
theorem w_256 : (Cond.lays "DuneMaps" "DuneMaps" "timesRead" "I") ∈ cG := inG (i := 256) (by decide +kernel) rfl
theorem w_257 : (Cond.soleField "DuneMaps" "timesRead") ∈ lw_tbl := inT (i := 257) (by decide +kernel)
theorem w_258 : (Cond.superclass "DuneMaps" "java/lang/Object") ∈ lw_tbl := inT (i := 258) (by decide +kernel)
theorem w_259 : (Cond.methodLink "DuneMapsLaw" (13 : Nat) ({ cls := "DuneMaps", name := "letter", desc := "(I)I" } : MethodName)) ∈ cG := inG (i := 259) (by decide +kernel) rfl
theorem w_260 : (Cond.instanceMethod ({ cls := "DuneMaps", name := "letter", desc := "(I)I" } : MethodName)) ∈ cG := inG (i := 260) (by decide +kernel) rfl
theorem w_261 : (Cond.selects "DuneMaps" ({ cls := "DuneMaps", name := "letter", desc := "(I)I" } : MethodName) ({ cls := "DuneMaps", name := "letter", desc := "(I)I" } : MethodName)) ∈ cG := inG (i := 261) (by decide +kernel) rfl
theorem w_262 : (Cond.code ({ cls := "DuneMaps", name := "letter", desc := "(I)I" } : MethodName) prog_1_method_2_code (2 : Nat) (Option.some FieldType.int)) ∈ cG := inG (i := 262) (by decide +kernel) rfl
theorem w_263 : (Cond.methodLink "DuneMaps" (57 : Nat) ({ cls := "DuneMaps$Page", name := "append", desc := "(I)Z" } : MethodName)) ∈ cG := inG (i := 263) (by decide +kernel) rfl
theorem w_264 : (Cond.instanceMethod ({ cls := "DuneMaps$Page", name := "append", desc := "(I)Z" } : MethodName)) ∈ cG := inG (i := 264) (by decide +kernel) rfl
theorem w_265 : (Cond.selects "DuneMaps$Page" ({ cls := "DuneMaps$Page", name := "append", desc := "(I)Z" } : MethodName) ({ cls := "DuneMaps$Page", name := "append", desc := "(I)Z" } : MethodName)) ∈ cG := inG (i := 265) (by decide +kernel) rfl
theorem w_266 : (Cond.code ({ cls := "DuneMaps$Page", name := "append", desc := "(I)Z" } : MethodName) prog_6_method_2_code (2 : Nat) (Option.some FieldType.boolean)) ∈ cG := inG (i := 266) (by decide +kernel) rfl
theorem w_267 : (Cond.methodLink "DuneMapsLaw" (18 : Nat) ({ cls := "DuneMaps", name := "blank", desc := "()I" } : MethodName)) ∈ cG := inG (i := 267) (by decide +kernel) rfl
theorem w_268 : (Cond.instanceMethod ({ cls := "DuneMaps", name := "blank", desc := "()I" } : MethodName)) ∈ cG := inG (i := 268) (by decide +kernel) rfl
theorem w_269 : (Cond.selects "DuneMaps" ({ cls := "DuneMaps", name := "blank", desc := "()I" } : MethodName) ({ cls := "DuneMaps", name := "blank", desc := "()I" } : MethodName)) ∈ cG := inG (i := 269) (by decide +kernel) rfl
theorem w_270 : (Cond.code ({ cls := "DuneMaps", name := "blank", desc := "()I" } : MethodName) prog_1_method_3_code (2 : Nat) (Option.some FieldType.int)) ∈ cG := inG (i := 270) (by decide +kernel) rfl
theorem w_271 : (Cond.methodLink "DuneMapsLaw" (23 : Nat) ({ cls := "DuneMaps", name := "fault", desc := "(I)I" } : MethodName)) ∈ cG := inG (i := 271) (by decide +kernel) rfl
theorem w_272 : (Cond.instanceMethod ({ cls := "DuneMaps", name := "fault", desc := "(I)I" } : MethodName)) ∈ cG := inG (i := 272) (by decide +kernel) rfl
theorem w_273 : (Cond.selects "DuneMaps" ({ cls := "DuneMaps", name := "fault", desc := "(I)I" } : MethodName) ({ cls := "DuneMaps", name := "fault", desc := "(I)I" } : MethodName)) ∈ cG := inG (i := 273) (by decide +kernel) rfl
theorem w_274 : (Cond.code ({ cls := "DuneMaps", name := "fault", desc := "(I)I" } : MethodName) prog_1_method_4_code (2 : Nat) (Option.some FieldType.int)) ∈ cG := inG (i := 274) (by decide +kernel) rfl
theorem w_275 : (Cond.methodLink "DuneMaps" (65 : Nat) ({ cls := "DuneMaps$Page", name := "firstFault", desc := "(I)I" } : MethodName)) ∈ cG := inG (i := 275) (by decide +kernel) rfl
theorem w_276 : (Cond.instanceMethod ({ cls := "DuneMaps$Page", name := "firstFault", desc := "(I)I" } : MethodName)) ∈ cG := inG (i := 276) (by decide +kernel) rfl
theorem w_277 : (Cond.selects "DuneMaps$Page" ({ cls := "DuneMaps$Page", name := "firstFault", desc := "(I)I" } : MethodName) ({ cls := "DuneMaps$Page", name := "firstFault", desc := "(I)I" } : MethodName)) ∈ cG := inG (i := 277) (by decide +kernel) rfl
theorem w_278 : (Cond.code ({ cls := "DuneMaps$Page", name := "firstFault", desc := "(I)I" } : MethodName) prog_6_method_4_code (3 : Nat) (Option.some FieldType.int)) ∈ cG := inG (i := 278) (by decide +kernel) rfl
theorem w_279 : (Cond.methodLink "DuneMaps$Page" (19 : Nat) ({ cls := "DuneMaps$Page", name := "codeAt", desc := "(I)I" } : MethodName)) ∈ cG := inG (i := 279) (by decide +kernel) rfl
theorem w_280 : (Cond.instanceMethod ({ cls := "DuneMaps$Page", name := "codeAt", desc := "(I)I" } : MethodName)) ∈ cG := inG (i := 280) (by decide +kernel) rfl
theorem w_281 : (Cond.selects "DuneMaps$Page" ({ cls := "DuneMaps$Page", name := "codeAt", desc := "(I)I" } : MethodName) ({ cls := "DuneMaps$Page", name := "codeAt", desc := "(I)I" } : MethodName)) ∈ cG := inG (i := 281) (by decide +kernel) rfl
theorem w_282 : (Cond.code ({ cls := "DuneMaps$Page", name := "codeAt", desc := "(I)I" } : MethodName) prog_6_method_3_code (2 : Nat) (Option.some FieldType.int)) ∈ cG := inG (i := 282) (by decide +kernel) rfl
theorem w_283 : (Cond.methodLink "DuneMaps$Page" (23 : Nat) ({ cls := "DuneMaps$Page", name := "fits", desc := "(III)Z" } : MethodName)) ∈ cG := inG (i := 283) (by decide +kernel) rfl
theorem w_284 : (Cond.static ({ cls := "DuneMaps$Page", name := "fits", desc := "(III)Z" } : MethodName)) ∈ cG := inG (i := 284) (by decide +kernel) rfl
theorem w_285 : (Cond.code ({ cls := "DuneMaps$Page", name := "fits", desc := "(III)Z" } : MethodName) prog_6_method_8_code (3 : Nat) (Option.some FieldType.boolean)) ∈ cG := inG (i := 285) (by decide +kernel) rfl
theorem w_286 : (Cond.methodLink "DuneMapsLaw" (27 : Nat) ({ cls := "DuneMaps", name := "dunes", desc := "()I" } : MethodName)) ∈ cG := inG (i := 286) (by decide +kernel) rfl
theorem w_287 : (Cond.instanceMethod ({ cls := "DuneMaps", name := "dunes", desc := "()I" } : MethodName)) ∈ cG := inG (i := 287) (by decide +kernel) rfl
theorem w_288 : (Cond.selects "DuneMaps" ({ cls := "DuneMaps", name := "dunes", desc := "()I" } : MethodName) ({ cls := "DuneMaps", name := "dunes", desc := "()I" } : MethodName)) ∈ cG := inG (i := 288) (by decide +kernel) rfl
theorem w_289 : (Cond.code ({ cls := "DuneMaps", name := "dunes", desc := "()I" } : MethodName) prog_1_method_5_code (1 : Nat) (Option.some FieldType.int)) ∈ cG := inG (i := 289) (by decide +kernel) rfl
theorem w_290 : (Cond.methodLink "DuneMaps" (69 : Nat) ({ cls := "DuneMaps$Page", name := "isWhole", desc := "(I)Z" } : MethodName)) ∈ cG := inG (i := 290) (by decide +kernel) rfl
theorem w_291 : (Cond.instanceMethod ({ cls := "DuneMaps$Page", name := "isWhole", desc := "(I)Z" } : MethodName)) ∈ cG := inG (i := 291) (by decide +kernel) rfl
theorem w_292 : (Cond.selects "DuneMaps$Page" ({ cls := "DuneMaps$Page", name := "isWhole", desc := "(I)Z" } : MethodName) ({ cls := "DuneMaps$Page", name := "isWhole", desc := "(I)Z" } : MethodName)) ∈ cG := inG (i := 292) (by decide +kernel) rfl
theorem w_293 : (Cond.code ({ cls := "DuneMaps$Page", name := "isWhole", desc := "(I)Z" } : MethodName) prog_6_method_5_code (3 : Nat) (Option.some FieldType.boolean)) ∈ cG := inG (i := 293) (by decide +kernel) rfl
theorem w_294 : (Cond.methodLink "DuneMaps$Page" (27 : Nat) ({ cls := "DuneMaps$Page", name := "firstFault", desc := "(I)I" } : MethodName)) ∈ cG := inG (i := 294) (by decide +kernel) rfl
theorem w_295 : (Cond.methodLink "DuneMaps" (72 : Nat) ({ cls := "DuneMaps$Land", name := "empty", desc := "()V" } : MethodName)) ∈ cG := inG (i := 295) (by decide +kernel) rfl
theorem w_296 : (Cond.instanceMethod ({ cls := "DuneMaps$Land", name := "empty", desc := "()V" } : MethodName)) ∈ cG := inG (i := 296) (by decide +kernel) rfl
theorem w_297 : (Cond.selects "DuneMaps$Land" ({ cls := "DuneMaps$Land", name := "empty", desc := "()V" } : MethodName) ({ cls := "DuneMaps$Land", name := "empty", desc := "()V" } : MethodName)) ∈ cG := inG (i := 297) (by decide +kernel) rfl
theorem w_298 : (Cond.code ({ cls := "DuneMaps$Land", name := "empty", desc := "()V" } : MethodName) prog_4_method_2_code (1 : Nat) (Option.none : Option FieldType)) ∈ cG := inG (i := 298) (by decide +kernel) rfl
theorem w_299 : (Cond.methodLink "DuneMaps" (78 : Nat) ({ cls := "DuneMaps$Page", name := "readHeights", desc := "(LDuneMaps$Sand;)V" } : MethodName)) ∈ cG := inG (i := 299) (by decide +kernel) rfl
theorem w_300 : (Cond.instanceMethod ({ cls := "DuneMaps$Page", name := "readHeights", desc := "(LDuneMaps$Sand;)V" } : MethodName)) ∈ cG := inG (i := 300) (by decide +kernel) rfl
theorem w_301 : (Cond.selects "DuneMaps$Page" ({ cls := "DuneMaps$Page", name := "readHeights", desc := "(LDuneMaps$Sand;)V" } : MethodName) ({ cls := "DuneMaps$Page", name := "readHeights", desc := "(LDuneMaps$Sand;)V" } : MethodName)) ∈ cG := inG (i := 301) (by decide +kernel) rfl
theorem w_302 : (Cond.code ({ cls := "DuneMaps$Page", name := "readHeights", desc := "(LDuneMaps$Sand;)V" } : MethodName) prog_6_method_6_code (3 : Nat) (Option.none : Option FieldType)) ∈ cG := inG (i := 302) (by decide +kernel) rfl
theorem w_303 : (Cond.methodLink "DuneMaps$Page" (30 : Nat) ({ cls := "DuneMaps$Sand", name := "setHeight", desc := "(II)V" } : MethodName)) ∈ cG := inG (i := 303) (by decide +kernel) rfl
theorem w_304 : (Cond.instanceMethod ({ cls := "DuneMaps$Sand", name := "setHeight", desc := "(II)V" } : MethodName)) ∈ cG := inG (i := 304) (by decide +kernel) rfl
theorem w_305 : (Cond.selects "DuneMaps$Sand" ({ cls := "DuneMaps$Sand", name := "setHeight", desc := "(II)V" } : MethodName) ({ cls := "DuneMaps$Sand", name := "setHeight", desc := "(II)V" } : MethodName)) ∈ cG := inG (i := 305) (by decide +kernel) rfl
theorem w_306 : (Cond.code ({ cls := "DuneMaps$Sand", name := "setHeight", desc := "(II)V" } : MethodName) prog_7_method_3_code (3 : Nat) (Option.none : Option FieldType)) ∈ cG := inG (i := 306) (by decide +kernel) rfl
theorem w_307 : (Cond.methodLink "DuneMaps" (82 : Nat) ({ cls := "DuneMaps$Page", name := "tellsWindOn", desc := "()Z" } : MethodName)) ∈ cG := inG (i := 307) (by decide +kernel) rfl
theorem w_308 : (Cond.instanceMethod ({ cls := "DuneMaps$Page", name := "tellsWindOn", desc := "()Z" } : MethodName)) ∈ cG := inG (i := 308) (by decide +kernel) rfl
theorem w_309 : (Cond.selects "DuneMaps$Page" ({ cls := "DuneMaps$Page", name := "tellsWindOn", desc := "()Z" } : MethodName) ({ cls := "DuneMaps$Page", name := "tellsWindOn", desc := "()Z" } : MethodName)) ∈ cG := inG (i := 309) (by decide +kernel) rfl
theorem w_310 : (Cond.code ({ cls := "DuneMaps$Page", name := "tellsWindOn", desc := "()Z" } : MethodName) prog_6_method_7_code (1 : Nat) (Option.some FieldType.boolean)) ∈ cG := inG (i := 310) (by decide +kernel) rfl
theorem w_311 : (Cond.methodLink "DuneMaps" (102 : Nat) ({ cls := "DuneMaps$Sand", name := "sum", desc := "()I" } : MethodName)) ∈ cG := inG (i := 311) (by decide +kernel) rfl
theorem w_312 : (Cond.instanceMethod ({ cls := "DuneMaps$Sand", name := "sum", desc := "()I" } : MethodName)) ∈ cG := inG (i := 312) (by decide +kernel) rfl
theorem w_313 : (Cond.selects "DuneMaps$Sand" ({ cls := "DuneMaps$Sand", name := "sum", desc := "()I" } : MethodName) ({ cls := "DuneMaps$Sand", name := "sum", desc := "()I" } : MethodName)) ∈ cG := inG (i := 313) (by decide +kernel) rfl
theorem w_314 : (Cond.code ({ cls := "DuneMaps$Sand", name := "sum", desc := "()I" } : MethodName) prog_7_method_7_code (3 : Nat) (Option.some FieldType.int)) ∈ cG := inG (i := 314) (by decide +kernel) rfl
theorem w_315 : (Cond.methodLink "DuneMapsLaw" (31 : Nat) ({ cls := "DuneMaps", name := "cell", desc := "(II)I" } : MethodName)) ∈ cG := inG (i := 315) (by decide +kernel) rfl
theorem w_316 : (Cond.instanceMethod ({ cls := "DuneMaps", name := "cell", desc := "(II)I" } : MethodName)) ∈ cG := inG (i := 316) (by decide +kernel) rfl
theorem w_317 : (Cond.selects "DuneMaps" ({ cls := "DuneMaps", name := "cell", desc := "(II)I" } : MethodName) ({ cls := "DuneMaps", name := "cell", desc := "(II)I" } : MethodName)) ∈ cG := inG (i := 317) (by decide +kernel) rfl
theorem w_318 : (Cond.code ({ cls := "DuneMaps", name := "cell", desc := "(II)I" } : MethodName) prog_1_method_6_code (3 : Nat) (Option.some FieldType.int)) ∈ cG := inG (i := 318) (by decide +kernel) rfl
theorem w_319 : (Cond.methodLink "DuneMaps" (106 : Nat) ({ cls := "DuneMaps", name := "isCell", desc := "(I)Z" } : MethodName)) ∈ cG := inG (i := 319) (by decide +kernel) rfl
theorem w_320 : (Cond.privateMethod ({ cls := "DuneMaps", name := "isCell", desc := "(I)Z" } : MethodName)) ∈ lw_tbl := inT (i := 320) (by decide +kernel)
theorem w_321 : (Cond.instanceMethod ({ cls := "DuneMaps", name := "isCell", desc := "(I)Z" } : MethodName)) ∈ cG := inG (i := 321) (by decide +kernel) rfl
theorem w_322 : (Cond.code ({ cls := "DuneMaps", name := "isCell", desc := "(I)Z" } : MethodName) prog_1_method_27_code (2 : Nat) (Option.some FieldType.boolean)) ∈ cG := inG (i := 322) (by decide +kernel) rfl
theorem w_323 : (Cond.methodLink "DuneMaps" (109 : Nat) ({ cls := "DuneMaps$Sand", name := "heightAt", desc := "(I)I" } : MethodName)) ∈ cG := inG (i := 323) (by decide +kernel) rfl
theorem w_324 : (Cond.instanceMethod ({ cls := "DuneMaps$Sand", name := "heightAt", desc := "(I)I" } : MethodName)) ∈ cG := inG (i := 324) (by decide +kernel) rfl
theorem w_325 : (Cond.selects "DuneMaps$Sand" ({ cls := "DuneMaps$Sand", name := "heightAt", desc := "(I)I" } : MethodName) ({ cls := "DuneMaps$Sand", name := "heightAt", desc := "(I)I" } : MethodName)) ∈ cG := inG (i := 325) (by decide +kernel) rfl
theorem w_326 : (Cond.code ({ cls := "DuneMaps$Sand", name := "heightAt", desc := "(I)I" } : MethodName) prog_7_method_2_code (2 : Nat) (Option.some FieldType.int)) ∈ cG := inG (i := 326) (by decide +kernel) rfl
theorem w_327 : (Cond.methodLink "DuneMaps" (112 : Nat) ({ cls := "DuneMaps$Sand", name := "shapeAt", desc := "(I)I" } : MethodName)) ∈ cG := inG (i := 327) (by decide +kernel) rfl
theorem w_328 : (Cond.instanceMethod ({ cls := "DuneMaps$Sand", name := "shapeAt", desc := "(I)I" } : MethodName)) ∈ cG := inG (i := 328) (by decide +kernel) rfl
theorem w_329 : (Cond.selects "DuneMaps$Sand" ({ cls := "DuneMaps$Sand", name := "shapeAt", desc := "(I)I" } : MethodName) ({ cls := "DuneMaps$Sand", name := "shapeAt", desc := "(I)I" } : MethodName)) ∈ cG := inG (i := 329) (by decide +kernel) rfl
theorem w_330 : (Cond.code ({ cls := "DuneMaps$Sand", name := "shapeAt", desc := "(I)I" } : MethodName) prog_7_method_9_code (5 : Nat) (Option.some FieldType.int)) ∈ cG := inG (i := 330) (by decide +kernel) rfl
theorem w_331 : (Cond.methodLink "DuneMaps" (115 : Nat) ({ cls := "DuneMaps$Land", name := "walkersAt", desc := "(I)I" } : MethodName)) ∈ cG := inG (i := 331) (by decide +kernel) rfl
theorem w_332 : (Cond.instanceMethod ({ cls := "DuneMaps$Land", name := "walkersAt", desc := "(I)I" } : MethodName)) ∈ cG := inG (i := 332) (by decide +kernel) rfl
theorem w_333 : (Cond.selects "DuneMaps$Land" ({ cls := "DuneMaps$Land", name := "walkersAt", desc := "(I)I" } : MethodName) ({ cls := "DuneMaps$Land", name := "walkersAt", desc := "(I)I" } : MethodName)) ∈ cG := inG (i := 333) (by decide +kernel) rfl
theorem w_334 : (Cond.code ({ cls := "DuneMaps$Land", name := "walkersAt", desc := "(I)I" } : MethodName) prog_4_method_6_code (4 : Nat) (Option.some FieldType.int)) ∈ cG := inG (i := 334) (by decide +kernel) rfl
theorem w_335 : (Cond.methodLinkNest "DuneMaps$Land" (46 : Nat) ({ cls := "DuneMaps", name := "asNumber", desc := "(Z)I" } : MethodName) "DuneMaps") ∈ lw_tbl := inT (i := 335) (by decide +kernel)
theorem w_336 : (Cond.static ({ cls := "DuneMaps", name := "asNumber", desc := "(Z)I" } : MethodName)) ∈ cG := inG (i := 336) (by decide +kernel) rfl
theorem w_337 : (Cond.code ({ cls := "DuneMaps", name := "asNumber", desc := "(Z)I" } : MethodName) prog_1_method_30_code (1 : Nat) (Option.some FieldType.int)) ∈ cG := inG (i := 337) (by decide +kernel) rfl
theorem w_338 : (Cond.methodLink "DuneMapsLaw" (36 : Nat) ({ cls := "DuneMaps", name := "wind", desc := "(Z)I" } : MethodName)) ∈ cG := inG (i := 338) (by decide +kernel) rfl
theorem w_339 : (Cond.instanceMethod ({ cls := "DuneMaps", name := "wind", desc := "(Z)I" } : MethodName)) ∈ cG := inG (i := 339) (by decide +kernel) rfl
theorem w_340 : (Cond.selects "DuneMaps" ({ cls := "DuneMaps", name := "wind", desc := "(Z)I" } : MethodName) ({ cls := "DuneMaps", name := "wind", desc := "(Z)I" } : MethodName)) ∈ cG := inG (i := 340) (by decide +kernel) rfl
theorem w_341 : (Cond.code ({ cls := "DuneMaps", name := "wind", desc := "(Z)I" } : MethodName) prog_1_method_7_code (3 : Nat) (Option.some FieldType.int)) ∈ cG := inG (i := 341) (by decide +kernel) rfl
theorem w_342 : (Cond.methodLink "DuneMaps" (118 : Nat) ({ cls := "DuneMaps", name := "asNumber", desc := "(Z)I" } : MethodName)) ∈ cG := inG (i := 342) (by decide +kernel) rfl
theorem w_343 : (Cond.methodLink "DuneMapsLaw" (41 : Nat) ({ cls := "DuneMaps", name := "night", desc := "()I" } : MethodName)) ∈ cG := inG (i := 343) (by decide +kernel) rfl
theorem w_344 : (Cond.instanceMethod ({ cls := "DuneMaps", name := "night", desc := "()I" } : MethodName)) ∈ cG := inG (i := 344) (by decide +kernel) rfl
theorem w_345 : (Cond.selects "DuneMaps" ({ cls := "DuneMaps", name := "night", desc := "()I" } : MethodName) ({ cls := "DuneMaps", name := "night", desc := "()I" } : MethodName)) ∈ cG := inG (i := 345) (by decide +kernel) rfl
theorem w_346 : (Cond.code ({ cls := "DuneMaps", name := "night", desc := "()I" } : MethodName) prog_1_method_8_code (1 : Nat) (Option.some FieldType.int)) ∈ cG := inG (i := 346) (by decide +kernel) rfl
theorem w_347 : (Cond.methodLink "DuneMaps" (125 : Nat) ({ cls := "DuneMaps$Sand", name := "passNight", desc := "()I" } : MethodName)) ∈ cG := inG (i := 347) (by decide +kernel) rfl
theorem w_348 : (Cond.instanceMethod ({ cls := "DuneMaps$Sand", name := "passNight", desc := "()I" } : MethodName)) ∈ cG := inG (i := 348) (by decide +kernel) rfl
theorem w_349 : (Cond.selects "DuneMaps$Sand" ({ cls := "DuneMaps$Sand", name := "passNight", desc := "()I" } : MethodName) ({ cls := "DuneMaps$Sand", name := "passNight", desc := "()I" } : MethodName)) ∈ cG := inG (i := 349) (by decide +kernel) rfl
theorem w_350 : (Cond.code ({ cls := "DuneMaps$Sand", name := "passNight", desc := "()I" } : MethodName) prog_7_method_11_code (3 : Nat) (Option.some FieldType.int)) ∈ cG := inG (i := 350) (by decide +kernel) rfl
theorem w_351 : (Cond.methodLink "DuneMaps$Sand" (33 : Nat) ({ cls := "DuneMaps$Sand", name := "crests", desc := "()I" } : MethodName)) ∈ cG := inG (i := 351) (by decide +kernel) rfl
theorem w_352 : (Cond.instanceMethod ({ cls := "DuneMaps$Sand", name := "crests", desc := "()I" } : MethodName)) ∈ cG := inG (i := 352) (by decide +kernel) rfl
theorem w_353 : (Cond.selects "DuneMaps$Sand" ({ cls := "DuneMaps$Sand", name := "crests", desc := "()I" } : MethodName) ({ cls := "DuneMaps$Sand", name := "crests", desc := "()I" } : MethodName)) ∈ cG := inG (i := 353) (by decide +kernel) rfl
theorem w_354 : (Cond.code ({ cls := "DuneMaps$Sand", name := "crests", desc := "()I" } : MethodName) prog_7_method_10_code (3 : Nat) (Option.some FieldType.int)) ∈ cG := inG (i := 354) (by decide +kernel) rfl
theorem w_355 : (Cond.methodLink "DuneMaps$Sand" (29 : Nat) ({ cls := "DuneMaps$Sand", name := "shapeAt", desc := "(I)I" } : MethodName)) ∈ cG := inG (i := 355) (by decide +kernel) rfl
theorem w_356 : (Cond.methodLink "DuneMaps$Sand" (37 : Nat) ({ cls := "DuneMaps$Sand", name := "leeOf", desc := "(I)I" } : MethodName)) ∈ cG := inG (i := 356) (by decide +kernel) rfl
theorem w_357 : (Cond.privateMethod ({ cls := "DuneMaps$Sand", name := "leeOf", desc := "(I)I" } : MethodName)) ∈ lw_tbl := inT (i := 357) (by decide +kernel)
theorem w_358 : (Cond.instanceMethod ({ cls := "DuneMaps$Sand", name := "leeOf", desc := "(I)I" } : MethodName)) ∈ cG := inG (i := 358) (by decide +kernel) rfl
theorem w_359 : (Cond.code ({ cls := "DuneMaps$Sand", name := "leeOf", desc := "(I)I" } : MethodName) prog_7_method_14_code (2 : Nat) (Option.some FieldType.int)) ∈ cG := inG (i := 359) (by decide +kernel) rfl
theorem w_360 : (Cond.methodLink "DuneMaps$Sand" (40 : Nat) ({ cls := "DuneMaps$Sand", name := "moveSand", desc := "(III)I" } : MethodName)) ∈ cG := inG (i := 360) (by decide +kernel) rfl
theorem w_361 : (Cond.privateMethod ({ cls := "DuneMaps$Sand", name := "moveSand", desc := "(III)I" } : MethodName)) ∈ lw_tbl := inT (i := 361) (by decide +kernel)
theorem w_362 : (Cond.instanceMethod ({ cls := "DuneMaps$Sand", name := "moveSand", desc := "(III)I" } : MethodName)) ∈ cG := inG (i := 362) (by decide +kernel) rfl
theorem w_363 : (Cond.code ({ cls := "DuneMaps$Sand", name := "moveSand", desc := "(III)I" } : MethodName) prog_7_method_13_code (5 : Nat) (Option.some FieldType.int)) ∈ cG := inG (i := 363) (by decide +kernel) rfl
theorem w_364 : (Cond.methodLink "DuneMaps$Sand" (55 : Nat) ({ cls := "java/lang/Math", name := "min", desc := "(II)I" } : MethodName)) ∈ cG := inG (i := 364) (by decide +kernel) rfl
theorem w_365 : (Cond.static ({ cls := "java/lang/Math", name := "min", desc := "(II)I" } : MethodName)) ∈ cG := inG (i := 365) (by decide +kernel) rfl
theorem w_366 : (Cond.code ({ cls := "java/lang/Math", name := "min", desc := "(II)I" } : MethodName) prog_12_method_69_code (2 : Nat) (Option.some FieldType.int)) ∈ cG := inG (i := 366) (by decide +kernel) rfl
theorem w_367 : (Cond.methodLink "DuneMaps$Sand" (44 : Nat) ({ cls := "java/lang/Integer", name := "bitCount", desc := "(I)I" } : MethodName)) ∈ cG := inG (i := 367) (by decide +kernel) rfl
theorem w_368 : (Cond.static ({ cls := "java/lang/Integer", name := "bitCount", desc := "(I)I" } : MethodName)) ∈ cG := inG (i := 368) (by decide +kernel) rfl
theorem w_369 : (Cond.code ({ cls := "java/lang/Integer", name := "bitCount", desc := "(I)I" } : MethodName) prog_11_method_49_code (1 : Nat) (Option.some FieldType.int)) ∈ cG := inG (i := 369) (by decide +kernel) rfl
theorem w_370 : (Cond.constant "java/lang/Integer" (265 : Nat) (1431655765 : Int32)) ∈ cG := inG (i := 370) (by decide +kernel) rfl
theorem w_371 : (Cond.constant "java/lang/Integer" (266 : Nat) (858993459 : Int32)) ∈ cG := inG (i := 371) (by decide +kernel) rfl
theorem w_372 : (Cond.constant "java/lang/Integer" (267 : Nat) (252645135 : Int32)) ∈ cG := inG (i := 372) (by decide +kernel) rfl
theorem w_373 : (Cond.methodLink "DuneMapsLaw" (45 : Nat) ({ cls := "DuneMaps", name := "walker", desc := "(II)I" } : MethodName)) ∈ cG := inG (i := 373) (by decide +kernel) rfl
theorem w_374 : (Cond.instanceMethod ({ cls := "DuneMaps", name := "walker", desc := "(II)I" } : MethodName)) ∈ cG := inG (i := 374) (by decide +kernel) rfl
theorem w_375 : (Cond.selects "DuneMaps" ({ cls := "DuneMaps", name := "walker", desc := "(II)I" } : MethodName) ({ cls := "DuneMaps", name := "walker", desc := "(II)I" } : MethodName)) ∈ cG := inG (i := 375) (by decide +kernel) rfl
theorem w_376 : (Cond.code ({ cls := "DuneMaps", name := "walker", desc := "(II)I" } : MethodName) prog_1_method_9_code (3 : Nat) (Option.some FieldType.int)) ∈ cG := inG (i := 376) (by decide +kernel) rfl
theorem w_377 : (Cond.methodLink "DuneMaps" (128 : Nat) ({ cls := "DuneMaps", name := "isKind", desc := "(I)Z" } : MethodName)) ∈ cG := inG (i := 377) (by decide +kernel) rfl
theorem w_378 : (Cond.static ({ cls := "DuneMaps", name := "isKind", desc := "(I)Z" } : MethodName)) ∈ cG := inG (i := 378) (by decide +kernel) rfl
theorem w_379 : (Cond.code ({ cls := "DuneMaps", name := "isKind", desc := "(I)Z" } : MethodName) prog_1_method_28_code (1 : Nat) (Option.some FieldType.boolean)) ∈ cG := inG (i := 379) (by decide +kernel) rfl
theorem w_380 : (Cond.methodLink "DuneMaps" (131 : Nat) ({ cls := "DuneMaps$Land", name := "arrive", desc := "(II)I" } : MethodName)) ∈ cG := inG (i := 380) (by decide +kernel) rfl
theorem w_381 : (Cond.instanceMethod ({ cls := "DuneMaps$Land", name := "arrive", desc := "(II)I" } : MethodName)) ∈ cG := inG (i := 381) (by decide +kernel) rfl
theorem w_382 : (Cond.selects "DuneMaps$Land" ({ cls := "DuneMaps$Land", name := "arrive", desc := "(II)I" } : MethodName) ({ cls := "DuneMaps$Land", name := "arrive", desc := "(II)I" } : MethodName)) ∈ cG := inG (i := 382) (by decide +kernel) rfl
theorem w_383 : (Cond.code ({ cls := "DuneMaps$Land", name := "arrive", desc := "(II)I" } : MethodName) prog_4_method_5_code (3 : Nat) (Option.some FieldType.int)) ∈ cG := inG (i := 383) (by decide +kernel) rfl
theorem w_384 : (Cond.methodLink "DuneMaps$Land" (39 : Nat) ({ cls := "DuneMaps$Walker", name := "arrive", desc := "(II)V" } : MethodName)) ∈ cG := inG (i := 384) (by decide +kernel) rfl
theorem w_385 : (Cond.instanceMethod ({ cls := "DuneMaps$Walker", name := "arrive", desc := "(II)V" } : MethodName)) ∈ cG := inG (i := 385) (by decide +kernel) rfl
theorem w_386 : (Cond.selects "DuneMaps$Walker" ({ cls := "DuneMaps$Walker", name := "arrive", desc := "(II)V" } : MethodName) ({ cls := "DuneMaps$Walker", name := "arrive", desc := "(II)V" } : MethodName)) ∈ cG := inG (i := 386) (by decide +kernel) rfl
theorem w_387 : (Cond.code ({ cls := "DuneMaps$Walker", name := "arrive", desc := "(II)V" } : MethodName) prog_8_method_2_code (3 : Nat) (Option.none : Option FieldType)) ∈ cG := inG (i := 387) (by decide +kernel) rfl
theorem w_388 : (Cond.methodLink "DuneMapsLaw" (49 : Nat) ({ cls := "DuneMaps", name := "about", desc := "(II)I" } : MethodName)) ∈ cG := inG (i := 388) (by decide +kernel) rfl
theorem w_389 : (Cond.instanceMethod ({ cls := "DuneMaps", name := "about", desc := "(II)I" } : MethodName)) ∈ cG := inG (i := 389) (by decide +kernel) rfl
theorem w_390 : (Cond.selects "DuneMaps" ({ cls := "DuneMaps", name := "about", desc := "(II)I" } : MethodName) ({ cls := "DuneMaps", name := "about", desc := "(II)I" } : MethodName)) ∈ cG := inG (i := 390) (by decide +kernel) rfl
theorem w_391 : (Cond.code ({ cls := "DuneMaps", name := "about", desc := "(II)I" } : MethodName) prog_1_method_10_code (4 : Nat) (Option.some FieldType.int)) ∈ cG := inG (i := 391) (by decide +kernel) rfl
theorem w_392 : (Cond.methodLink "DuneMaps" (135 : Nat) ({ cls := "DuneMaps$Land", name := "named", desc := "(I)LDuneMaps$Walker;" } : MethodName)) ∈ cG := inG (i := 392) (by decide +kernel) rfl
theorem w_393 : (Cond.instanceMethod ({ cls := "DuneMaps$Land", name := "named", desc := "(I)LDuneMaps$Walker;" } : MethodName)) ∈ cG := inG (i := 393) (by decide +kernel) rfl
theorem w_394 : (Cond.selects "DuneMaps$Land" ({ cls := "DuneMaps$Land", name := "named", desc := "(I)LDuneMaps$Walker;" } : MethodName) ({ cls := "DuneMaps$Land", name := "named", desc := "(I)LDuneMaps$Walker;" } : MethodName)) ∈ cG := inG (i := 394) (by decide +kernel) rfl
theorem w_395 : (Cond.code ({ cls := "DuneMaps$Land", name := "named", desc := "(I)LDuneMaps$Walker;" } : MethodName) prog_4_method_4_code (3 : Nat) (Option.some (FieldType.object "DuneMaps$Walker"))) ∈ cG := inG (i := 395) (by decide +kernel) rfl
theorem w_396 : (Cond.methodLink "DuneMaps" (147 : Nat) ({ cls := "DuneMaps", name := "weightOf", desc := "(I)I" } : MethodName)) ∈ cG := inG (i := 396) (by decide +kernel) rfl
theorem w_397 : (Cond.static ({ cls := "DuneMaps", name := "weightOf", desc := "(I)I" } : MethodName)) ∈ cG := inG (i := 397) (by decide +kernel) rfl
theorem w_398 : (Cond.code ({ cls := "DuneMaps", name := "weightOf", desc := "(I)I" } : MethodName) prog_1_method_31_code (1 : Nat) (Option.some FieldType.int)) ∈ cG := inG (i := 398) (by decide +kernel) rfl
theorem w_399 : (Cond.fieldLink "DuneMaps" (271 : Nat) "DuneMaps" "WEIGHTS" "[I") ∈ cG := inG (i := 399) (by decide +kernel) rfl
theorem w_400 : (Cond.laysStatic "DuneMaps" "WEIGHTS" "[I") ∈ lw_tbl := inT (i := 400) (by decide +kernel)
theorem w_401 : (Cond.methodLink "DuneMaps" (153 : Nat) ({ cls := "DuneMaps$Walker", name := "hasMap", desc := "()Z" } : MethodName)) ∈ cG := inG (i := 401) (by decide +kernel) rfl
theorem w_402 : (Cond.instanceMethod ({ cls := "DuneMaps$Walker", name := "hasMap", desc := "()Z" } : MethodName)) ∈ cG := inG (i := 402) (by decide +kernel) rfl
theorem w_403 : (Cond.selects "DuneMaps$Walker" ({ cls := "DuneMaps$Walker", name := "hasMap", desc := "()Z" } : MethodName) ({ cls := "DuneMaps$Walker", name := "hasMap", desc := "()Z" } : MethodName)) ∈ cG := inG (i := 403) (by decide +kernel) rfl
theorem w_404 : (Cond.code ({ cls := "DuneMaps$Walker", name := "hasMap", desc := "()Z" } : MethodName) prog_8_method_4_code (1 : Nat) (Option.some FieldType.boolean)) ∈ cG := inG (i := 404) (by decide +kernel) rfl
theorem w_405 : (Cond.methodLink "DuneMaps" (156 : Nat) ({ cls := "DuneMaps$Walker", name := "hasGoodMap", desc := "(LDuneMaps$Sand;)Z" } : MethodName)) ∈ cG := inG (i := 405) (by decide +kernel) rfl
theorem w_406 : (Cond.instanceMethod ({ cls := "DuneMaps$Walker", name := "hasGoodMap", desc := "(LDuneMaps$Sand;)Z" } : MethodName)) ∈ cG := inG (i := 406) (by decide +kernel) rfl
theorem w_407 : (Cond.selects "DuneMaps$Walker" ({ cls := "DuneMaps$Walker", name := "hasGoodMap", desc := "(LDuneMaps$Sand;)Z" } : MethodName) ({ cls := "DuneMaps$Walker", name := "hasGoodMap", desc := "(LDuneMaps$Sand;)Z" } : MethodName)) ∈ cG := inG (i := 407) (by decide +kernel) rfl
theorem w_408 : (Cond.code ({ cls := "DuneMaps$Walker", name := "hasGoodMap", desc := "(LDuneMaps$Sand;)Z" } : MethodName) prog_8_method_6_code (4 : Nat) (Option.some FieldType.boolean)) ∈ cG := inG (i := 408) (by decide +kernel) rfl
theorem w_409 : (Cond.methodLinkNest "DuneMaps$Walker" (31 : Nat) ({ cls := "DuneMaps", name := "beside", desc := "(II)I" } : MethodName) "DuneMaps") ∈ lw_tbl := inT (i := 409) (by decide +kernel)
theorem w_410 : (Cond.static ({ cls := "DuneMaps", name := "beside", desc := "(II)I" } : MethodName)) ∈ cG := inG (i := 410) (by decide +kernel) rfl
theorem w_411 : (Cond.code ({ cls := "DuneMaps", name := "beside", desc := "(II)I" } : MethodName) prog_1_method_32_code (2 : Nat) (Option.some FieldType.int)) ∈ cG := inG (i := 411) (by decide +kernel) rfl
theorem w_412 : (Cond.methodLink "DuneMaps$Walker" (35 : Nat) ({ cls := "DuneMaps$Sand", name := "heightAt", desc := "(I)I" } : MethodName)) ∈ cG := inG (i := 412) (by decide +kernel) rfl
theorem w_413 : (Cond.methodLink "DuneMaps$Walker" (41 : Nat) ({ cls := "DuneMaps$Walker", name := "hasMap", desc := "()Z" } : MethodName)) ∈ cG := inG (i := 413) (by decide +kernel) rfl
theorem w_414 : (Cond.methodLink "DuneMapsLaw" (53 : Nat) ({ cls := "DuneMaps", name := "as", desc := "(II)I" } : MethodName)) ∈ cG := inG (i := 414) (by decide +kernel) rfl
theorem w_415 : (Cond.instanceMethod ({ cls := "DuneMaps", name := "as", desc := "(II)I" } : MethodName)) ∈ cG := inG (i := 415) (by decide +kernel) rfl
theorem w_416 : (Cond.selects "DuneMaps" ({ cls := "DuneMaps", name := "as", desc := "(II)I" } : MethodName) ({ cls := "DuneMaps", name := "as", desc := "(II)I" } : MethodName)) ∈ cG := inG (i := 416) (by decide +kernel) rfl
theorem w_417 : (Cond.code ({ cls := "DuneMaps", name := "as", desc := "(II)I" } : MethodName) prog_1_method_11_code (5 : Nat) (Option.some FieldType.int)) ∈ cG := inG (i := 417) (by decide +kernel) rfl
theorem w_418 : (Cond.methodLink "DuneMapsLaw" (57 : Nat) ({ cls := "DuneMaps", name := "step", desc := "(II)I" } : MethodName)) ∈ cG := inG (i := 418) (by decide +kernel) rfl
theorem w_419 : (Cond.instanceMethod ({ cls := "DuneMaps", name := "step", desc := "(II)I" } : MethodName)) ∈ cG := inG (i := 419) (by decide +kernel) rfl
theorem w_420 : (Cond.selects "DuneMaps" ({ cls := "DuneMaps", name := "step", desc := "(II)I" } : MethodName) ({ cls := "DuneMaps", name := "step", desc := "(II)I" } : MethodName)) ∈ cG := inG (i := 420) (by decide +kernel) rfl
theorem w_421 : (Cond.code ({ cls := "DuneMaps", name := "step", desc := "(II)I" } : MethodName) prog_1_method_12_code (4 : Nat) (Option.some FieldType.int)) ∈ cG := inG (i := 421) (by decide +kernel) rfl
theorem w_422 : (Cond.methodLink "DuneMaps" (166 : Nat) ({ cls := "DuneMaps", name := "isWay", desc := "(I)Z" } : MethodName)) ∈ cG := inG (i := 422) (by decide +kernel) rfl
theorem w_423 : (Cond.static ({ cls := "DuneMaps", name := "isWay", desc := "(I)Z" } : MethodName)) ∈ cG := inG (i := 423) (by decide +kernel) rfl
theorem w_424 : (Cond.code ({ cls := "DuneMaps", name := "isWay", desc := "(I)Z" } : MethodName) prog_1_method_29_code (1 : Nat) (Option.some FieldType.boolean)) ∈ cG := inG (i := 424) (by decide +kernel) rfl
theorem w_425 : (Cond.methodLink "DuneMaps" (169 : Nat) ({ cls := "DuneMaps$Walker", name := "stepOn", desc := "(LDuneMaps$Sand;I)I" } : MethodName)) ∈ cG := inG (i := 425) (by decide +kernel) rfl
theorem w_426 : (Cond.instanceMethod ({ cls := "DuneMaps$Walker", name := "stepOn", desc := "(LDuneMaps$Sand;I)I" } : MethodName)) ∈ cG := inG (i := 426) (by decide +kernel) rfl
theorem w_427 : (Cond.selects "DuneMaps$Walker" ({ cls := "DuneMaps$Walker", name := "stepOn", desc := "(LDuneMaps$Sand;I)I" } : MethodName) ({ cls := "DuneMaps$Walker", name := "stepOn", desc := "(LDuneMaps$Sand;I)I" } : MethodName)) ∈ cG := inG (i := 427) (by decide +kernel) rfl
theorem w_428 : (Cond.code ({ cls := "DuneMaps$Walker", name := "stepOn", desc := "(LDuneMaps$Sand;I)I" } : MethodName) prog_8_method_7_code (3 : Nat) (Option.some FieldType.int)) ∈ cG := inG (i := 428) (by decide +kernel) rfl
theorem w_429 : (Cond.methodLink "DuneMaps$Walker" (45 : Nat) ({ cls := "DuneMaps$Sand", name := "tread", desc := "(II)I" } : MethodName)) ∈ cG := inG (i := 429) (by decide +kernel) rfl
theorem w_430 : (Cond.instanceMethod ({ cls := "DuneMaps$Sand", name := "tread", desc := "(II)I" } : MethodName)) ∈ cG := inG (i := 430) (by decide +kernel) rfl
theorem w_431 : (Cond.selects "DuneMaps$Sand" ({ cls := "DuneMaps$Sand", name := "tread", desc := "(II)I" } : MethodName) ({ cls := "DuneMaps$Sand", name := "tread", desc := "(II)I" } : MethodName)) ∈ cG := inG (i := 431) (by decide +kernel) rfl
theorem w_432 : (Cond.code ({ cls := "DuneMaps$Sand", name := "tread", desc := "(II)I" } : MethodName) prog_7_method_12_code (6 : Nat) (Option.some FieldType.int)) ∈ cG := inG (i := 432) (by decide +kernel) rfl
theorem w_433 : (Cond.methodLink "DuneMaps$Sand" (49 : Nat) ({ cls := "DuneMaps$Sand", name := "luffOf", desc := "(I)I" } : MethodName)) ∈ cG := inG (i := 433) (by decide +kernel) rfl
theorem w_434 : (Cond.privateMethod ({ cls := "DuneMaps$Sand", name := "luffOf", desc := "(I)I" } : MethodName)) ∈ lw_tbl := inT (i := 434) (by decide +kernel)
theorem w_435 : (Cond.instanceMethod ({ cls := "DuneMaps$Sand", name := "luffOf", desc := "(I)I" } : MethodName)) ∈ cG := inG (i := 435) (by decide +kernel) rfl
theorem w_436 : (Cond.code ({ cls := "DuneMaps$Sand", name := "luffOf", desc := "(I)I" } : MethodName) prog_7_method_15_code (2 : Nat) (Option.some FieldType.int)) ∈ cG := inG (i := 436) (by decide +kernel) rfl
theorem w_437 : (Cond.methodLinkNest "DuneMaps$Sand" (52 : Nat) ({ cls := "DuneMaps", name := "weightOf", desc := "(I)I" } : MethodName) "DuneMaps") ∈ lw_tbl := inT (i := 437) (by decide +kernel)
theorem w_438 : (Cond.methodLink "DuneMapsLaw" (61 : Nat) ({ cls := "DuneMaps", name := "map", desc := "(III)I" } : MethodName)) ∈ cG := inG (i := 438) (by decide +kernel) rfl
theorem w_439 : (Cond.instanceMethod ({ cls := "DuneMaps", name := "map", desc := "(III)I" } : MethodName)) ∈ cG := inG (i := 439) (by decide +kernel) rfl
theorem w_440 : (Cond.selects "DuneMaps" ({ cls := "DuneMaps", name := "map", desc := "(III)I" } : MethodName) ({ cls := "DuneMaps", name := "map", desc := "(III)I" } : MethodName)) ∈ cG := inG (i := 440) (by decide +kernel) rfl
theorem w_441 : (Cond.code ({ cls := "DuneMaps", name := "map", desc := "(III)I" } : MethodName) prog_1_method_13_code (5 : Nat) (Option.some FieldType.int)) ∈ cG := inG (i := 441) (by decide +kernel) rfl
theorem w_442 : (Cond.methodLink "DuneMaps" (173 : Nat) ({ cls := "DuneMaps$Walker", name := "drawMap", desc := "(LDuneMaps$Sand;II)I" } : MethodName)) ∈ cG := inG (i := 442) (by decide +kernel) rfl
theorem w_443 : (Cond.instanceMethod ({ cls := "DuneMaps$Walker", name := "drawMap", desc := "(LDuneMaps$Sand;II)I" } : MethodName)) ∈ cG := inG (i := 443) (by decide +kernel) rfl
theorem w_444 : (Cond.selects "DuneMaps$Walker" ({ cls := "DuneMaps$Walker", name := "drawMap", desc := "(LDuneMaps$Sand;II)I" } : MethodName) ({ cls := "DuneMaps$Walker", name := "drawMap", desc := "(LDuneMaps$Sand;II)I" } : MethodName)) ∈ cG := inG (i := 444) (by decide +kernel) rfl
theorem w_445 : (Cond.code ({ cls := "DuneMaps$Walker", name := "drawMap", desc := "(LDuneMaps$Sand;II)I" } : MethodName) prog_8_method_5_code (7 : Nat) (Option.some FieldType.int)) ∈ cG := inG (i := 445) (by decide +kernel) rfl
theorem w_446 : (Cond.methodLink "DuneMapsLaw" (66 : Nat) ({ cls := "DuneMaps", name := "go", desc := "(I)I" } : MethodName)) ∈ cG := inG (i := 446) (by decide +kernel) rfl
theorem w_447 : (Cond.instanceMethod ({ cls := "DuneMaps", name := "go", desc := "(I)I" } : MethodName)) ∈ cG := inG (i := 447) (by decide +kernel) rfl
theorem w_448 : (Cond.selects "DuneMaps" ({ cls := "DuneMaps", name := "go", desc := "(I)I" } : MethodName) ({ cls := "DuneMaps", name := "go", desc := "(I)I" } : MethodName)) ∈ cG := inG (i := 448) (by decide +kernel) rfl
theorem w_449 : (Cond.code ({ cls := "DuneMaps", name := "go", desc := "(I)I" } : MethodName) prog_1_method_14_code (4 : Nat) (Option.some FieldType.int)) ∈ cG := inG (i := 449) (by decide +kernel) rfl
theorem w_450 : (Cond.methodLink "DuneMaps" (177 : Nat) ({ cls := "DuneMaps$Walker", name := "goByMap", desc := "(LDuneMaps$Sand;)V" } : MethodName)) ∈ cG := inG (i := 450) (by decide +kernel) rfl
theorem w_451 : (Cond.instanceMethod ({ cls := "DuneMaps$Walker", name := "goByMap", desc := "(LDuneMaps$Sand;)V" } : MethodName)) ∈ cG := inG (i := 451) (by decide +kernel) rfl
theorem w_452 : (Cond.selects "DuneMaps$Walker" ({ cls := "DuneMaps$Walker", name := "goByMap", desc := "(LDuneMaps$Sand;)V" } : MethodName) ({ cls := "DuneMaps$Walker", name := "goByMap", desc := "(LDuneMaps$Sand;)V" } : MethodName)) ∈ cG := inG (i := 452) (by decide +kernel) rfl
theorem w_453 : (Cond.code ({ cls := "DuneMaps$Walker", name := "goByMap", desc := "(LDuneMaps$Sand;)V" } : MethodName) prog_8_method_8_code (3 : Nat) (Option.none : Option FieldType)) ∈ cG := inG (i := 453) (by decide +kernel) rfl
theorem w_454 : (Cond.methodLink "DuneMaps$Walker" (48 : Nat) ({ cls := "DuneMaps$Walker", name := "stepOn", desc := "(LDuneMaps$Sand;I)I" } : MethodName)) ∈ cG := inG (i := 454) (by decide +kernel) rfl
theorem w_455 : (Cond.methodLink "DuneMapsLaw" (70 : Nat) ({ cls := "DuneMaps", name := "order", desc := "(I)I" } : MethodName)) ∈ cG := inG (i := 455) (by decide +kernel) rfl
theorem w_456 : (Cond.instanceMethod ({ cls := "DuneMaps", name := "order", desc := "(I)I" } : MethodName)) ∈ cG := inG (i := 456) (by decide +kernel) rfl
theorem w_457 : (Cond.selects "DuneMaps" ({ cls := "DuneMaps", name := "order", desc := "(I)I" } : MethodName) ({ cls := "DuneMaps", name := "order", desc := "(I)I" } : MethodName)) ∈ cG := inG (i := 457) (by decide +kernel) rfl
theorem w_458 : (Cond.code ({ cls := "DuneMaps", name := "order", desc := "(I)I" } : MethodName) prog_1_method_15_code (3 : Nat) (Option.some FieldType.int)) ∈ cG := inG (i := 458) (by decide +kernel) rfl
theorem w_459 : (Cond.methodLink "DuneMaps" (180 : Nat) ({ cls := "DuneMaps$Ordering", name := "search", desc := "(LDuneMaps$Land;)V" } : MethodName)) ∈ cG := inG (i := 459) (by decide +kernel) rfl
theorem w_460 : (Cond.instanceMethod ({ cls := "DuneMaps$Ordering", name := "search", desc := "(LDuneMaps$Land;)V" } : MethodName)) ∈ cG := inG (i := 460) (by decide +kernel) rfl
theorem w_461 : (Cond.selects "DuneMaps$Ordering" ({ cls := "DuneMaps$Ordering", name := "search", desc := "(LDuneMaps$Land;)V" } : MethodName) ({ cls := "DuneMaps$Ordering", name := "search", desc := "(LDuneMaps$Land;)V" } : MethodName)) ∈ cG := inG (i := 461) (by decide +kernel) rfl
theorem w_462 : (Cond.code ({ cls := "DuneMaps$Ordering", name := "search", desc := "(LDuneMaps$Land;)V" } : MethodName) prog_5_method_3_code (2 : Nat) (Option.none : Option FieldType)) ∈ cG := inG (i := 462) (by decide +kernel) rfl
theorem w_463 : (Cond.methodLink "DuneMaps$Ordering" (29 : Nat) ({ cls := "DuneMaps$Land", name := "maps", desc := "()I" } : MethodName)) ∈ cG := inG (i := 463) (by decide +kernel) rfl
theorem w_464 : (Cond.instanceMethod ({ cls := "DuneMaps$Land", name := "maps", desc := "()I" } : MethodName)) ∈ cG := inG (i := 464) (by decide +kernel) rfl
theorem w_465 : (Cond.selects "DuneMaps$Land" ({ cls := "DuneMaps$Land", name := "maps", desc := "()I" } : MethodName) ({ cls := "DuneMaps$Land", name := "maps", desc := "()I" } : MethodName)) ∈ cG := inG (i := 465) (by decide +kernel) rfl
theorem w_466 : (Cond.code ({ cls := "DuneMaps$Land", name := "maps", desc := "()I" } : MethodName) prog_4_method_7_code (3 : Nat) (Option.some FieldType.int)) ∈ cG := inG (i := 466) (by decide +kernel) rfl
theorem w_467 : (Cond.methodLink "DuneMaps$Land" (50 : Nat) ({ cls := "DuneMaps$Walker", name := "hasMap", desc := "()Z" } : MethodName)) ∈ cG := inG (i := 467) (by decide +kernel) rfl
theorem w_468 : (Cond.methodLink "DuneMaps$Ordering" (42 : Nat) ({ cls := "DuneMaps$Sand", name := "copyFrom", desc := "(LDuneMaps$Sand;)V" } : MethodName)) ∈ cG := inG (i := 468) (by decide +kernel) rfl
theorem w_469 : (Cond.instanceMethod ({ cls := "DuneMaps$Sand", name := "copyFrom", desc := "(LDuneMaps$Sand;)V" } : MethodName)) ∈ cG := inG (i := 469) (by decide +kernel) rfl
theorem w_470 : (Cond.selects "DuneMaps$Sand" ({ cls := "DuneMaps$Sand", name := "copyFrom", desc := "(LDuneMaps$Sand;)V" } : MethodName) ({ cls := "DuneMaps$Sand", name := "copyFrom", desc := "(LDuneMaps$Sand;)V" } : MethodName)) ∈ cG := inG (i := 470) (by decide +kernel) rfl
theorem w_471 : (Cond.code ({ cls := "DuneMaps$Sand", name := "copyFrom", desc := "(LDuneMaps$Sand;)V" } : MethodName) prog_7_method_4_code (2 : Nat) (Option.none : Option FieldType)) ∈ cG := inG (i := 471) (by decide +kernel) rfl
theorem w_472 : (Cond.methodLink "DuneMaps$Sand" (15 : Nat) ({ cls := "DuneMaps$Sand", name := "copyHeights", desc := "(LDuneMaps$Sand;)V" } : MethodName)) ∈ cG := inG (i := 472) (by decide +kernel) rfl
theorem w_473 : (Cond.instanceMethod ({ cls := "DuneMaps$Sand", name := "copyHeights", desc := "(LDuneMaps$Sand;)V" } : MethodName)) ∈ cG := inG (i := 473) (by decide +kernel) rfl
theorem w_474 : (Cond.selects "DuneMaps$Sand" ({ cls := "DuneMaps$Sand", name := "copyHeights", desc := "(LDuneMaps$Sand;)V" } : MethodName) ({ cls := "DuneMaps$Sand", name := "copyHeights", desc := "(LDuneMaps$Sand;)V" } : MethodName)) ∈ cG := inG (i := 474) (by decide +kernel) rfl
theorem w_475 : (Cond.code ({ cls := "DuneMaps$Sand", name := "copyHeights", desc := "(LDuneMaps$Sand;)V" } : MethodName) prog_7_method_5_code (3 : Nat) (Option.none : Option FieldType)) ∈ cG := inG (i := 475) (by decide +kernel) rfl
theorem w_476 : (Cond.methodLink "DuneMaps$Ordering" (46 : Nat) ({ cls := "DuneMaps$Ordering", name := "tryTurn", desc := "(LDuneMaps$Land;III)V" } : MethodName)) ∈ cG := inG (i := 476) (by decide +kernel) rfl
theorem w_477 : (Cond.privateMethod ({ cls := "DuneMaps$Ordering", name := "tryTurn", desc := "(LDuneMaps$Land;III)V" } : MethodName)) ∈ lw_tbl := inT (i := 477) (by decide +kernel)
theorem w_478 : (Cond.instanceMethod ({ cls := "DuneMaps$Ordering", name := "tryTurn", desc := "(LDuneMaps$Land;III)V" } : MethodName)) ∈ cG := inG (i := 478) (by decide +kernel) rfl
theorem w_479 : (Cond.code ({ cls := "DuneMaps$Ordering", name := "tryTurn", desc := "(LDuneMaps$Land;III)V" } : MethodName) prog_5_method_4_code (8 : Nat) (Option.none : Option FieldType)) ∈ cG := inG (i := 479) (by decide +kernel) rfl
theorem w_480 : (Cond.methodLink "DuneMaps$Ordering" (50 : Nat) ({ cls := "DuneMaps$Ordering", name := "keep", desc := "(I)V" } : MethodName)) ∈ cG := inG (i := 480) (by decide +kernel) rfl
theorem w_481 : (Cond.privateMethod ({ cls := "DuneMaps$Ordering", name := "keep", desc := "(I)V" } : MethodName)) ∈ lw_tbl := inT (i := 481) (by decide +kernel)
theorem w_482 : (Cond.instanceMethod ({ cls := "DuneMaps$Ordering", name := "keep", desc := "(I)V" } : MethodName)) ∈ cG := inG (i := 482) (by decide +kernel) rfl
theorem w_483 : (Cond.code ({ cls := "DuneMaps$Ordering", name := "keep", desc := "(I)V" } : MethodName) prog_5_method_5_code (3 : Nat) (Option.none : Option FieldType)) ∈ cG := inG (i := 483) (by decide +kernel) rfl
theorem w_484 : (Cond.methodLink "DuneMaps$Ordering" (57 : Nat) ({ cls := "DuneMaps$Land", name := "named", desc := "(I)LDuneMaps$Walker;" } : MethodName)) ∈ cG := inG (i := 484) (by decide +kernel) rfl
theorem w_485 : (Cond.methodLink "DuneMaps$Ordering" (61 : Nat) ({ cls := "DuneMaps$Walker", name := "hasMap", desc := "()Z" } : MethodName)) ∈ cG := inG (i := 485) (by decide +kernel) rfl
theorem w_486 : (Cond.methodLink "DuneMaps$Ordering" (67 : Nat) ({ cls := "DuneMaps$Walker", name := "hasGoodMap", desc := "(LDuneMaps$Sand;)Z" } : MethodName)) ∈ cG := inG (i := 486) (by decide +kernel) rfl
theorem w_487 : (Cond.methodLinkNest "DuneMaps$Ordering" (71 : Nat) ({ cls := "DuneMaps", name := "asNumber", desc := "(Z)I" } : MethodName) "DuneMaps") ∈ lw_tbl := inT (i := 487) (by decide +kernel)
theorem w_488 : (Cond.methodLink "DuneMaps$Ordering" (75 : Nat) ({ cls := "DuneMaps$Walker", name := "wouldGo", desc := "(LDuneMaps$Sand;)V" } : MethodName)) ∈ cG := inG (i := 488) (by decide +kernel) rfl
theorem w_489 : (Cond.instanceMethod ({ cls := "DuneMaps$Walker", name := "wouldGo", desc := "(LDuneMaps$Sand;)V" } : MethodName)) ∈ cG := inG (i := 489) (by decide +kernel) rfl
theorem w_490 : (Cond.selects "DuneMaps$Walker" ({ cls := "DuneMaps$Walker", name := "wouldGo", desc := "(LDuneMaps$Sand;)V" } : MethodName) ({ cls := "DuneMaps$Walker", name := "wouldGo", desc := "(LDuneMaps$Sand;)V" } : MethodName)) ∈ cG := inG (i := 490) (by decide +kernel) rfl
theorem w_491 : (Cond.code ({ cls := "DuneMaps$Walker", name := "wouldGo", desc := "(LDuneMaps$Sand;)V" } : MethodName) prog_8_method_9_code (4 : Nat) (Option.none : Option FieldType)) ∈ cG := inG (i := 491) (by decide +kernel) rfl
theorem w_492 : (Cond.methodLink "DuneMaps" (184 : Nat) ({ cls := "DuneMaps$Ordering", name := "goerAt", desc := "(I)I" } : MethodName)) ∈ cG := inG (i := 492) (by decide +kernel) rfl
theorem w_493 : (Cond.instanceMethod ({ cls := "DuneMaps$Ordering", name := "goerAt", desc := "(I)I" } : MethodName)) ∈ cG := inG (i := 493) (by decide +kernel) rfl
theorem w_494 : (Cond.selects "DuneMaps$Ordering" ({ cls := "DuneMaps$Ordering", name := "goerAt", desc := "(I)I" } : MethodName) ({ cls := "DuneMaps$Ordering", name := "goerAt", desc := "(I)I" } : MethodName)) ∈ cG := inG (i := 494) (by decide +kernel) rfl
theorem w_495 : (Cond.code ({ cls := "DuneMaps$Ordering", name := "goerAt", desc := "(I)I" } : MethodName) prog_5_method_2_code (2 : Nat) (Option.some FieldType.int)) ∈ cG := inG (i := 495) (by decide +kernel) rfl
theorem w_496 : (Cond.methodLink "DuneMapsLaw" (74 : Nat) ({ cls := "DuneMaps", name := "feet", desc := "(IIII)I" } : MethodName)) ∈ cG := inG (i := 496) (by decide +kernel) rfl
theorem w_497 : (Cond.instanceMethod ({ cls := "DuneMaps", name := "feet", desc := "(IIII)I" } : MethodName)) ∈ cG := inG (i := 497) (by decide +kernel) rfl
theorem w_498 : (Cond.selects "DuneMaps" ({ cls := "DuneMaps", name := "feet", desc := "(IIII)I" } : MethodName) ({ cls := "DuneMaps", name := "feet", desc := "(IIII)I" } : MethodName)) ∈ cG := inG (i := 498) (by decide +kernel) rfl
theorem w_499 : (Cond.code ({ cls := "DuneMaps", name := "feet", desc := "(IIII)I" } : MethodName) prog_1_method_16_code (6 : Nat) (Option.some FieldType.int)) ∈ cG := inG (i := 499) (by decide +kernel) rfl
theorem w_500 : (Cond.methodLink "DuneMaps" (190 : Nat) ({ cls := "DuneMaps$Footing", name := "search", desc := "(LDuneMaps$Sand;LDuneMaps$Walker;II)V" } : MethodName)) ∈ cG := inG (i := 500) (by decide +kernel) rfl
theorem w_501 : (Cond.instanceMethod ({ cls := "DuneMaps$Footing", name := "search", desc := "(LDuneMaps$Sand;LDuneMaps$Walker;II)V" } : MethodName)) ∈ cG := inG (i := 501) (by decide +kernel) rfl
theorem w_502 : (Cond.selects "DuneMaps$Footing" ({ cls := "DuneMaps$Footing", name := "search", desc := "(LDuneMaps$Sand;LDuneMaps$Walker;II)V" } : MethodName) ({ cls := "DuneMaps$Footing", name := "search", desc := "(LDuneMaps$Sand;LDuneMaps$Walker;II)V" } : MethodName)) ∈ cG := inG (i := 502) (by decide +kernel) rfl
theorem w_503 : (Cond.code ({ cls := "DuneMaps$Footing", name := "search", desc := "(LDuneMaps$Sand;LDuneMaps$Walker;II)V" } : MethodName) prog_3_method_2_code (5 : Nat) (Option.none : Option FieldType)) ∈ cG := inG (i := 503) (by decide +kernel) rfl
theorem w_504 : (Cond.methodLink "DuneMaps$Footing" (40 : Nat) ({ cls := "DuneMaps$Sand", name := "copyFrom", desc := "(LDuneMaps$Sand;)V" } : MethodName)) ∈ cG := inG (i := 504) (by decide +kernel) rfl
theorem w_505 : (Cond.methodLink "DuneMaps$Footing" (47 : Nat) ({ cls := "DuneMaps$Footing", name := "tryFrom", desc := "(III)V" } : MethodName)) ∈ cG := inG (i := 505) (by decide +kernel) rfl
theorem w_506 : (Cond.privateMethod ({ cls := "DuneMaps$Footing", name := "tryFrom", desc := "(III)V" } : MethodName)) ∈ lw_tbl := inT (i := 506) (by decide +kernel)
theorem w_507 : (Cond.instanceMethod ({ cls := "DuneMaps$Footing", name := "tryFrom", desc := "(III)V" } : MethodName)) ∈ cG := inG (i := 507) (by decide +kernel) rfl
theorem w_508 : (Cond.code ({ cls := "DuneMaps$Footing", name := "tryFrom", desc := "(III)V" } : MethodName) prog_3_method_3_code (6 : Nat) (Option.none : Option FieldType)) ∈ cG := inG (i := 508) (by decide +kernel) rfl
theorem w_509 : (Cond.methodLink "DuneMaps$Footing" (51 : Nat) ({ cls := "DuneMaps$Sand", name := "heightAt", desc := "(I)I" } : MethodName)) ∈ cG := inG (i := 509) (by decide +kernel) rfl
theorem w_510 : (Cond.methodLinkNest "DuneMaps$Footing" (55 : Nat) ({ cls := "DuneMaps", name := "beside", desc := "(II)I" } : MethodName) "DuneMaps") ∈ lw_tbl := inT (i := 510) (by decide +kernel)
theorem w_511 : (Cond.methodLink "DuneMaps$Footing" (59 : Nat) ({ cls := "DuneMaps$Sand", name := "tread", desc := "(II)I" } : MethodName)) ∈ cG := inG (i := 511) (by decide +kernel) rfl
theorem w_512 : (Cond.methodLink "DuneMapsLaw" (79 : Nat) ({ cls := "DuneMaps", name := "was", desc := "()I" } : MethodName)) ∈ cG := inG (i := 512) (by decide +kernel) rfl
theorem w_513 : (Cond.instanceMethod ({ cls := "DuneMaps", name := "was", desc := "()I" } : MethodName)) ∈ cG := inG (i := 513) (by decide +kernel) rfl
theorem w_514 : (Cond.selects "DuneMaps" ({ cls := "DuneMaps", name := "was", desc := "()I" } : MethodName) ({ cls := "DuneMaps", name := "was", desc := "()I" } : MethodName)) ∈ cG := inG (i := 514) (by decide +kernel) rfl
theorem w_515 : (Cond.code ({ cls := "DuneMaps", name := "was", desc := "()I" } : MethodName) prog_1_method_17_code (1 : Nat) (Option.some FieldType.int)) ∈ cG := inG (i := 515) (by decide +kernel) rfl
theorem w_516 : (Cond.methodLink "DuneMapsLaw" (83 : Nat) ({ cls := "DuneMaps", name := "who", desc := "(I)I" } : MethodName)) ∈ cG := inG (i := 516) (by decide +kernel) rfl
theorem w_517 : (Cond.instanceMethod ({ cls := "DuneMaps", name := "who", desc := "(I)I" } : MethodName)) ∈ cG := inG (i := 517) (by decide +kernel) rfl
theorem w_518 : (Cond.selects "DuneMaps" ({ cls := "DuneMaps", name := "who", desc := "(I)I" } : MethodName) ({ cls := "DuneMaps", name := "who", desc := "(I)I" } : MethodName)) ∈ cG := inG (i := 518) (by decide +kernel) rfl
theorem w_519 : (Cond.code ({ cls := "DuneMaps", name := "who", desc := "(I)I" } : MethodName) prog_1_method_18_code (2 : Nat) (Option.some FieldType.int)) ∈ cG := inG (i := 519) (by decide +kernel) rfl
theorem w_520 : (Cond.methodLink "DuneMaps" (199 : Nat) ({ cls := "DuneMaps$Dusk", name := "search", desc := "(LDuneMaps$Sand;LDuneMaps$Sand;LDuneMaps$Sand;)V" } : MethodName)) ∈ cG := inG (i := 520) (by decide +kernel) rfl
theorem w_521 : (Cond.instanceMethod ({ cls := "DuneMaps$Dusk", name := "search", desc := "(LDuneMaps$Sand;LDuneMaps$Sand;LDuneMaps$Sand;)V" } : MethodName)) ∈ cG := inG (i := 521) (by decide +kernel) rfl
theorem w_522 : (Cond.selects "DuneMaps$Dusk" ({ cls := "DuneMaps$Dusk", name := "search", desc := "(LDuneMaps$Sand;LDuneMaps$Sand;LDuneMaps$Sand;)V" } : MethodName) ({ cls := "DuneMaps$Dusk", name := "search", desc := "(LDuneMaps$Sand;LDuneMaps$Sand;LDuneMaps$Sand;)V" } : MethodName)) ∈ cG := inG (i := 522) (by decide +kernel) rfl
theorem w_523 : (Cond.code ({ cls := "DuneMaps$Dusk", name := "search", desc := "(LDuneMaps$Sand;LDuneMaps$Sand;LDuneMaps$Sand;)V" } : MethodName) prog_2_method_2_code (5 : Nat) (Option.none : Option FieldType)) ∈ cG := inG (i := 523) (by decide +kernel) rfl
theorem w_524 : (Cond.methodLink "DuneMaps$Dusk" (18 : Nat) ({ cls := "DuneMaps$Sand", name := "copyHeights", desc := "(LDuneMaps$Sand;)V" } : MethodName)) ∈ cG := inG (i := 524) (by decide +kernel) rfl
theorem w_525 : (Cond.methodLink "DuneMaps$Dusk" (28 : Nat) ({ cls := "DuneMaps$Dusk", name := "tryWalk", desc := "(ILDuneMaps$Sand;LDuneMaps$Sand;)V" } : MethodName)) ∈ cG := inG (i := 525) (by decide +kernel) rfl
theorem w_526 : (Cond.privateMethod ({ cls := "DuneMaps$Dusk", name := "tryWalk", desc := "(ILDuneMaps$Sand;LDuneMaps$Sand;)V" } : MethodName)) ∈ lw_tbl := inT (i := 526) (by decide +kernel)
theorem w_527 : (Cond.instanceMethod ({ cls := "DuneMaps$Dusk", name := "tryWalk", desc := "(ILDuneMaps$Sand;LDuneMaps$Sand;)V" } : MethodName)) ∈ cG := inG (i := 527) (by decide +kernel) rfl
theorem w_528 : (Cond.code ({ cls := "DuneMaps$Dusk", name := "tryWalk", desc := "(ILDuneMaps$Sand;LDuneMaps$Sand;)V" } : MethodName) prog_2_method_3_code (8 : Nat) (Option.none : Option FieldType)) ∈ cG := inG (i := 528) (by decide +kernel) rfl
theorem w_529 : (Cond.methodLinkNest "DuneMaps$Dusk" (32 : Nat) ({ cls := "DuneMaps", name := "beside", desc := "(II)I" } : MethodName) "DuneMaps") ∈ lw_tbl := inT (i := 529) (by decide +kernel)
theorem w_530 : (Cond.methodLink "DuneMaps$Dusk" (36 : Nat) ({ cls := "DuneMaps$Sand", name := "tread", desc := "(II)I" } : MethodName)) ∈ cG := inG (i := 530) (by decide +kernel) rfl
theorem w_531 : (Cond.methodLink "DuneMaps$Dusk" (39 : Nat) ({ cls := "DuneMaps$Sand", name := "isAsHighAs", desc := "(LDuneMaps$Sand;)Z" } : MethodName)) ∈ cG := inG (i := 531) (by decide +kernel) rfl
theorem w_532 : (Cond.instanceMethod ({ cls := "DuneMaps$Sand", name := "isAsHighAs", desc := "(LDuneMaps$Sand;)Z" } : MethodName)) ∈ cG := inG (i := 532) (by decide +kernel) rfl
theorem w_533 : (Cond.selects "DuneMaps$Sand" ({ cls := "DuneMaps$Sand", name := "isAsHighAs", desc := "(LDuneMaps$Sand;)Z" } : MethodName) ({ cls := "DuneMaps$Sand", name := "isAsHighAs", desc := "(LDuneMaps$Sand;)Z" } : MethodName)) ∈ cG := inG (i := 533) (by decide +kernel) rfl
theorem w_534 : (Cond.code ({ cls := "DuneMaps$Sand", name := "isAsHighAs", desc := "(LDuneMaps$Sand;)Z" } : MethodName) prog_7_method_6_code (3 : Nat) (Option.some FieldType.boolean)) ∈ cG := inG (i := 534) (by decide +kernel) rfl
theorem w_535 : (Cond.methodLink "DuneMapsLaw" (87 : Nat) ({ cls := "DuneMaps", name := "moons", desc := "(III)I" } : MethodName)) ∈ cG := inG (i := 535) (by decide +kernel) rfl
theorem w_536 : (Cond.instanceMethod ({ cls := "DuneMaps", name := "moons", desc := "(III)I" } : MethodName)) ∈ cG := inG (i := 536) (by decide +kernel) rfl
theorem w_537 : (Cond.selects "DuneMaps" ({ cls := "DuneMaps", name := "moons", desc := "(III)I" } : MethodName) ({ cls := "DuneMaps", name := "moons", desc := "(III)I" } : MethodName)) ∈ cG := inG (i := 537) (by decide +kernel) rfl
theorem w_538 : (Cond.code ({ cls := "DuneMaps", name := "moons", desc := "(III)I" } : MethodName) prog_1_method_19_code (8 : Nat) (Option.some FieldType.int)) ∈ cG := inG (i := 538) (by decide +kernel) rfl
theorem w_539 : (Cond.methodLink "DuneMaps" (208 : Nat) ({ cls := "DuneMaps$Sand", name := "copyFrom", desc := "(LDuneMaps$Sand;)V" } : MethodName)) ∈ cG := inG (i := 539) (by decide +kernel) rfl
theorem w_540 : (Cond.methodLink "DuneMaps" (211 : Nat) ({ cls := "DuneMaps", name := "nextSeed", desc := "(I)I" } : MethodName)) ∈ cG := inG (i := 540) (by decide +kernel) rfl
theorem w_541 : (Cond.static ({ cls := "DuneMaps", name := "nextSeed", desc := "(I)I" } : MethodName)) ∈ cG := inG (i := 541) (by decide +kernel) rfl
theorem w_542 : (Cond.code ({ cls := "DuneMaps", name := "nextSeed", desc := "(I)I" } : MethodName) prog_1_method_33_code (1 : Nat) (Option.some FieldType.int)) ∈ cG := inG (i := 542) (by decide +kernel) rfl
theorem w_543 : (Cond.constant "DuneMaps" (275 : Nat) (1103515245 : Int32)) ∈ cG := inG (i := 543) (by decide +kernel) rfl
theorem w_544 : (Cond.constant "DuneMaps" (276 : Nat) (2147483647 : Int32)) ∈ cG := inG (i := 544) (by decide +kernel) rfl
theorem w_545 : (Cond.methodLink "DuneMaps" (214 : Nat) ({ cls := "DuneMaps", name := "draw", desc := "(II)I" } : MethodName)) ∈ cG := inG (i := 545) (by decide +kernel) rfl
theorem w_546 : (Cond.static ({ cls := "DuneMaps", name := "draw", desc := "(II)I" } : MethodName)) ∈ cG := inG (i := 546) (by decide +kernel) rfl
theorem w_547 : (Cond.code ({ cls := "DuneMaps", name := "draw", desc := "(II)I" } : MethodName) prog_1_method_34_code (2 : Nat) (Option.some FieldType.int)) ∈ cG := inG (i := 547) (by decide +kernel) rfl
theorem w_548 : (Cond.methodLink "DuneMaps" (217 : Nat) ({ cls := "DuneMaps$Sand", name := "tread", desc := "(II)I" } : MethodName)) ∈ cG := inG (i := 548) (by decide +kernel) rfl
theorem w_549 : (Cond.methodLink "DuneMaps" (220 : Nat) ({ cls := "DuneMaps$Sand", name := "highest", desc := "()I" } : MethodName)) ∈ cG := inG (i := 549) (by decide +kernel) rfl
theorem w_550 : (Cond.instanceMethod ({ cls := "DuneMaps$Sand", name := "highest", desc := "()I" } : MethodName)) ∈ cG := inG (i := 550) (by decide +kernel) rfl
theorem w_551 : (Cond.selects "DuneMaps$Sand" ({ cls := "DuneMaps$Sand", name := "highest", desc := "()I" } : MethodName) ({ cls := "DuneMaps$Sand", name := "highest", desc := "()I" } : MethodName)) ∈ cG := inG (i := 551) (by decide +kernel) rfl
theorem w_552 : (Cond.code ({ cls := "DuneMaps$Sand", name := "highest", desc := "()I" } : MethodName) prog_7_method_8_code (3 : Nat) (Option.some FieldType.int)) ∈ cG := inG (i := 552) (by decide +kernel) rfl
theorem w_553 : (Cond.methodLink "DuneMaps$Sand" (23 : Nat) ({ cls := "java/lang/Math", name := "max", desc := "(II)I" } : MethodName)) ∈ cG := inG (i := 553) (by decide +kernel) rfl
theorem w_554 : (Cond.static ({ cls := "java/lang/Math", name := "max", desc := "(II)I" } : MethodName)) ∈ cG := inG (i := 554) (by decide +kernel) rfl
theorem w_555 : (Cond.code ({ cls := "java/lang/Math", name := "max", desc := "(II)I" } : MethodName) prog_12_method_65_code (2 : Nat) (Option.some FieldType.int)) ∈ cG := inG (i := 555) (by decide +kernel) rfl
theorem w_556 : (Cond.methodLink "DuneMapsLaw" (91 : Nat) ({ cls := "DuneMaps", name := "image", desc := "()I" } : MethodName)) ∈ cG := inG (i := 556) (by decide +kernel) rfl
theorem w_557 : (Cond.instanceMethod ({ cls := "DuneMaps", name := "image", desc := "()I" } : MethodName)) ∈ cG := inG (i := 557) (by decide +kernel) rfl
theorem w_558 : (Cond.selects "DuneMaps" ({ cls := "DuneMaps", name := "image", desc := "()I" } : MethodName) ({ cls := "DuneMaps", name := "image", desc := "()I" } : MethodName)) ∈ cG := inG (i := 558) (by decide +kernel) rfl
theorem w_559 : (Cond.code ({ cls := "DuneMaps", name := "image", desc := "()I" } : MethodName) prog_1_method_20_code (1 : Nat) (Option.some FieldType.int)) ∈ cG := inG (i := 559) (by decide +kernel) rfl
theorem w_560 : (Cond.methodLink "DuneMaps" (223 : Nat) ({ cls := "DuneMaps$Land", name := "copyFrom", desc := "(LDuneMaps$Land;)V" } : MethodName)) ∈ cG := inG (i := 560) (by decide +kernel) rfl
theorem w_561 : (Cond.instanceMethod ({ cls := "DuneMaps$Land", name := "copyFrom", desc := "(LDuneMaps$Land;)V" } : MethodName)) ∈ cG := inG (i := 561) (by decide +kernel) rfl
theorem w_562 : (Cond.selects "DuneMaps$Land" ({ cls := "DuneMaps$Land", name := "copyFrom", desc := "(LDuneMaps$Land;)V" } : MethodName) ({ cls := "DuneMaps$Land", name := "copyFrom", desc := "(LDuneMaps$Land;)V" } : MethodName)) ∈ cG := inG (i := 562) (by decide +kernel) rfl
theorem w_563 : (Cond.code ({ cls := "DuneMaps$Land", name := "copyFrom", desc := "(LDuneMaps$Land;)V" } : MethodName) prog_4_method_3_code (3 : Nat) (Option.none : Option FieldType)) ∈ cG := inG (i := 563) (by decide +kernel) rfl
theorem w_564 : (Cond.methodLink "DuneMaps$Land" (32 : Nat) ({ cls := "DuneMaps$Sand", name := "copyFrom", desc := "(LDuneMaps$Sand;)V" } : MethodName)) ∈ cG := inG (i := 564) (by decide +kernel) rfl
theorem w_565 : (Cond.methodLink "DuneMaps$Land" (36 : Nat) ({ cls := "DuneMaps$Walker", name := "copyFrom", desc := "(LDuneMaps$Walker;)V" } : MethodName)) ∈ cG := inG (i := 565) (by decide +kernel) rfl
theorem w_566 : (Cond.instanceMethod ({ cls := "DuneMaps$Walker", name := "copyFrom", desc := "(LDuneMaps$Walker;)V" } : MethodName)) ∈ cG := inG (i := 566) (by decide +kernel) rfl
theorem w_567 : (Cond.selects "DuneMaps$Walker" ({ cls := "DuneMaps$Walker", name := "copyFrom", desc := "(LDuneMaps$Walker;)V" } : MethodName) ({ cls := "DuneMaps$Walker", name := "copyFrom", desc := "(LDuneMaps$Walker;)V" } : MethodName)) ∈ cG := inG (i := 567) (by decide +kernel) rfl
theorem w_568 : (Cond.code ({ cls := "DuneMaps$Walker", name := "copyFrom", desc := "(LDuneMaps$Walker;)V" } : MethodName) prog_8_method_3_code (3 : Nat) (Option.none : Option FieldType)) ∈ cG := inG (i := 568) (by decide +kernel) rfl
theorem w_569 : (Cond.methodLink "DuneMapsLaw" (95 : Nat) ({ cls := "DuneMaps", name := "restore", desc := "()I" } : MethodName)) ∈ cG := inG (i := 569) (by decide +kernel) rfl
theorem w_570 : (Cond.instanceMethod ({ cls := "DuneMaps", name := "restore", desc := "()I" } : MethodName)) ∈ cG := inG (i := 570) (by decide +kernel) rfl
theorem w_571 : (Cond.selects "DuneMaps" ({ cls := "DuneMaps", name := "restore", desc := "()I" } : MethodName) ({ cls := "DuneMaps", name := "restore", desc := "()I" } : MethodName)) ∈ cG := inG (i := 571) (by decide +kernel) rfl
theorem w_572 : (Cond.code ({ cls := "DuneMaps", name := "restore", desc := "()I" } : MethodName) prog_1_method_21_code (1 : Nat) (Option.some FieldType.int)) ∈ cG := inG (i := 572) (by decide +kernel) rfl
theorem w_573 : (Cond.methodLink "DuneMapsLaw" (99 : Nat) ({ cls := "DuneMaps", name := "count", desc := "(I)I" } : MethodName)) ∈ cG := inG (i := 573) (by decide +kernel) rfl
theorem w_574 : (Cond.instanceMethod ({ cls := "DuneMaps", name := "count", desc := "(I)I" } : MethodName)) ∈ cG := inG (i := 574) (by decide +kernel) rfl
theorem w_575 : (Cond.selects "DuneMaps" ({ cls := "DuneMaps", name := "count", desc := "(I)I" } : MethodName) ({ cls := "DuneMaps", name := "count", desc := "(I)I" } : MethodName)) ∈ cG := inG (i := 575) (by decide +kernel) rfl
theorem w_576 : (Cond.code ({ cls := "DuneMaps", name := "count", desc := "(I)I" } : MethodName) prog_1_method_22_code (2 : Nat) (Option.some FieldType.int)) ∈ cG := inG (i := 576) (by decide +kernel) rfl
theorem w_577 : (Cond.methodLink "DuneMaps" (228 : Nat) ({ cls := "DuneMaps$Land", name := "maps", desc := "()I" } : MethodName)) ∈ cG := inG (i := 577) (by decide +kernel) rfl
theorem w_578 : (Cond.methodLink "DuneMaps" (231 : Nat) ({ cls := "DuneMaps$Land", name := "goodMaps", desc := "()I" } : MethodName)) ∈ cG := inG (i := 578) (by decide +kernel) rfl
theorem w_579 : (Cond.instanceMethod ({ cls := "DuneMaps$Land", name := "goodMaps", desc := "()I" } : MethodName)) ∈ cG := inG (i := 579) (by decide +kernel) rfl
theorem w_580 : (Cond.selects "DuneMaps$Land" ({ cls := "DuneMaps$Land", name := "goodMaps", desc := "()I" } : MethodName) ({ cls := "DuneMaps$Land", name := "goodMaps", desc := "()I" } : MethodName)) ∈ cG := inG (i := 580) (by decide +kernel) rfl
theorem w_581 : (Cond.code ({ cls := "DuneMaps$Land", name := "goodMaps", desc := "()I" } : MethodName) prog_4_method_8_code (3 : Nat) (Option.some FieldType.int)) ∈ cG := inG (i := 581) (by decide +kernel) rfl
theorem w_582 : (Cond.methodLink "DuneMaps$Land" (54 : Nat) ({ cls := "DuneMaps$Walker", name := "hasGoodMap", desc := "(LDuneMaps$Sand;)Z" } : MethodName)) ∈ cG := inG (i := 582) (by decide +kernel) rfl
theorem w_583 : (Cond.methodLink "DuneMaps" (234 : Nat) ({ cls := "DuneMaps$Land", name := "stepsGone", desc := "()I" } : MethodName)) ∈ cG := inG (i := 583) (by decide +kernel) rfl
theorem w_584 : (Cond.instanceMethod ({ cls := "DuneMaps$Land", name := "stepsGone", desc := "()I" } : MethodName)) ∈ cG := inG (i := 584) (by decide +kernel) rfl
theorem w_585 : (Cond.selects "DuneMaps$Land" ({ cls := "DuneMaps$Land", name := "stepsGone", desc := "()I" } : MethodName) ({ cls := "DuneMaps$Land", name := "stepsGone", desc := "()I" } : MethodName)) ∈ cG := inG (i := 585) (by decide +kernel) rfl
theorem w_586 : (Cond.code ({ cls := "DuneMaps$Land", name := "stepsGone", desc := "()I" } : MethodName) prog_4_method_9_code (3 : Nat) (Option.some FieldType.int)) ∈ cG := inG (i := 586) (by decide +kernel) rfl
theorem w_587 : (Cond.methodLink "DuneMaps" (236 : Nat) ({ cls := "DuneMaps$Sand", name := "crests", desc := "()I" } : MethodName)) ∈ cG := inG (i := 587) (by decide +kernel) rfl
theorem w_588 : (Cond.methodLink "DuneMaps" (239 : Nat) ({ cls := "java/lang/Integer", name := "bitCount", desc := "(I)I" } : MethodName)) ∈ cG := inG (i := 588) (by decide +kernel) rfl
theorem w_589 : (Cond.methodLink "DuneMapsLaw" (103 : Nat) ({ cls := "DuneMaps", name := "digest", desc := "()J" } : MethodName)) ∈ cG := inG (i := 589) (by decide +kernel) rfl
theorem w_590 : (Cond.instanceMethod ({ cls := "DuneMaps", name := "digest", desc := "()J" } : MethodName)) ∈ cG := inG (i := 590) (by decide +kernel) rfl
theorem w_591 : (Cond.selects "DuneMaps" ({ cls := "DuneMaps", name := "digest", desc := "()J" } : MethodName) ({ cls := "DuneMaps", name := "digest", desc := "()J" } : MethodName)) ∈ cG := inG (i := 591) (by decide +kernel) rfl
theorem w_592 : (Cond.code ({ cls := "DuneMaps", name := "digest", desc := "()J" } : MethodName) prog_1_method_23_code (5 : Nat) (Option.some FieldType.long)) ∈ cG := inG (i := 592) (by decide +kernel) rfl
theorem w_593 : (Cond.constantLong "DuneMaps" (244 : Nat) (881 : Int64)) ∈ cG := inG (i := 593) (by decide +kernel) rfl
theorem w_594 : (Cond.methodLink "DuneMaps" (246 : Nat) ({ cls := "DuneMaps", name := "withCells", desc := "(J)J" } : MethodName)) ∈ cG := inG (i := 594) (by decide +kernel) rfl
theorem w_595 : (Cond.privateMethod ({ cls := "DuneMaps", name := "withCells", desc := "(J)J" } : MethodName)) ∈ lw_tbl := inT (i := 595) (by decide +kernel)
theorem w_596 : (Cond.instanceMethod ({ cls := "DuneMaps", name := "withCells", desc := "(J)J" } : MethodName)) ∈ cG := inG (i := 596) (by decide +kernel) rfl
theorem w_597 : (Cond.code ({ cls := "DuneMaps", name := "withCells", desc := "(J)J" } : MethodName) prog_1_method_24_code (5 : Nat) (Option.some FieldType.long)) ∈ cG := inG (i := 597) (by decide +kernel) rfl
theorem w_598 : (Cond.methodLink "DuneMaps" (266 : Nat) ({ cls := "DuneMaps", name := "cell", desc := "(II)I" } : MethodName)) ∈ cG := inG (i := 598) (by decide +kernel) rfl
theorem w_599 : (Cond.methodLink "DuneMaps" (256 : Nat) ({ cls := "DuneMaps", name := "with", desc := "(JI)J" } : MethodName)) ∈ cG := inG (i := 599) (by decide +kernel) rfl
theorem w_600 : (Cond.static ({ cls := "DuneMaps", name := "with", desc := "(JI)J" } : MethodName)) ∈ cG := inG (i := 600) (by decide +kernel) rfl
theorem w_601 : (Cond.code ({ cls := "DuneMaps", name := "with", desc := "(JI)J" } : MethodName) prog_1_method_26_code (3 : Nat) (Option.some FieldType.long)) ∈ cG := inG (i := 601) (by decide +kernel) rfl
theorem w_602 : (Cond.constantLong "DuneMaps" (269 : Nat) (31 : Int64)) ∈ cG := inG (i := 602) (by decide +kernel) rfl
theorem w_603 : (Cond.methodLink "DuneMaps" (250 : Nat) ({ cls := "DuneMaps", name := "withOrder", desc := "(J)J" } : MethodName)) ∈ cG := inG (i := 603) (by decide +kernel) rfl
theorem w_604 : (Cond.privateMethod ({ cls := "DuneMaps", name := "withOrder", desc := "(J)J" } : MethodName)) ∈ lw_tbl := inT (i := 604) (by decide +kernel)
theorem w_605 : (Cond.instanceMethod ({ cls := "DuneMaps", name := "withOrder", desc := "(J)J" } : MethodName)) ∈ cG := inG (i := 605) (by decide +kernel) rfl
theorem w_606 : (Cond.code ({ cls := "DuneMaps", name := "withOrder", desc := "(J)J" } : MethodName) prog_1_method_25_code (4 : Nat) (Option.some FieldType.long)) ∈ cG := inG (i := 606) (by decide +kernel) rfl
theorem w_607 : (Cond.methodLink "DuneMaps" (253 : Nat) ({ cls := "DuneMaps", name := "about", desc := "(II)I" } : MethodName)) ∈ cG := inG (i := 607) (by decide +kernel) rfl
theorem w_608 : (Cond.methodLink "DuneMaps" (260 : Nat) ({ cls := "DuneMaps$Page", name := "codeAt", desc := "(I)I" } : MethodName)) ∈ cG := inG (i := 608) (by decide +kernel) rfl
theorem w_609 : (Cond.methodLink "DuneMaps" (263 : Nat) ({ cls := "DuneMaps", name := "count", desc := "(I)I" } : MethodName)) ∈ cG := inG (i := 609) (by decide +kernel) rfl
theorem w_610 : (Cond.classLink "DuneMapsLaw" (10 : Nat) "DuneMapsModel") ∈ cG := inG (i := 610) (by decide +kernel) rfl
theorem w_611 : (Cond.instantiable "DuneMapsModel" (26 : Nat)) ∈ cG := inG (i := 611) (by decide +kernel) rfl
theorem w_612 : (Cond.methodLink "DuneMapsLaw" (12 : Nat) ({ cls := "DuneMapsModel", name := "<init>", desc := "()V" } : MethodName)) ∈ cG := inG (i := 612) (by decide +kernel) rfl
theorem w_613 : (Cond.instanceMethod ({ cls := "DuneMapsModel", name := "<init>", desc := "()V" } : MethodName)) ∈ cG := inG (i := 613) (by decide +kernel) rfl
theorem w_614 : (Cond.code ({ cls := "DuneMapsModel", name := "<init>", desc := "()V" } : MethodName) prog_10_method_1_code (1 : Nat) (Option.none : Option FieldType)) ∈ cG := inG (i := 614) (by decide +kernel) rfl
theorem w_615 : (Cond.methodLink "DuneMapsModel" (1 : Nat) ({ cls := "java/lang/Object", name := "<init>", desc := "()V" } : MethodName)) ∈ cG := inG (i := 615) (by decide +kernel) rfl
theorem w_616 : (Cond.fieldLink "DuneMapsModel" (7 : Nat) "DuneMapsModel" "page" "[I") ∈ cG := inG (i := 616) (by decide +kernel) rfl
theorem w_617 : (Cond.fieldLink "DuneMapsModel" (56 : Nat) "DuneMapsModel" "pageMany" "I") ∈ cG := inG (i := 617) (by decide +kernel) rfl
theorem w_618 : (Cond.fieldLink "DuneMapsModel" (70 : Nat) "DuneMapsModel" "isThere" "Z") ∈ cG := inG (i := 618) (by decide +kernel) rfl
theorem w_619 : (Cond.fieldLink "DuneMapsModel" (67 : Nat) "DuneMapsModel" "windOn" "I") ∈ cG := inG (i := 619) (by decide +kernel) rfl
theorem w_620 : (Cond.fieldLink "DuneMapsModel" (74 : Nat) "DuneMapsModel" "nightsNow" "I") ∈ cG := inG (i := 620) (by decide +kernel) rfl
theorem w_621 : (Cond.fieldLink "DuneMapsModel" (83 : Nat) "DuneMapsModel" "dunesRead" "I") ∈ cG := inG (i := 621) (by decide +kernel) rfl
theorem w_622 : (Cond.fieldLink "DuneMapsModel" (13 : Nat) "DuneMapsModel" "heights" "[I") ∈ cG := inG (i := 622) (by decide +kernel) rfl
theorem w_623 : (Cond.fieldLink "DuneMapsModel" (80 : Nat) "DuneMapsModel" "isTold" "Z") ∈ cG := inG (i := 623) (by decide +kernel) rfl
theorem w_624 : (Cond.fieldLink "DuneMapsModel" (16 : Nat) "DuneMapsModel" "were" "[I") ∈ cG := inG (i := 624) (by decide +kernel) rfl
theorem w_625 : (Cond.fieldLink "DuneMapsModel" (77 : Nat) "DuneMapsModel" "walkers" "I") ∈ cG := inG (i := 625) (by decide +kernel) rfl
theorem w_626 : (Cond.fieldLink "DuneMapsModel" (19 : Nat) "DuneMapsModel" "rows" "[I") ∈ cG := inG (i := 626) (by decide +kernel) rfl
theorem w_627 : (Cond.fieldLink "DuneMapsModel" (22 : Nat) "DuneMapsModel" "maps" "[I") ∈ cG := inG (i := 627) (by decide +kernel) rfl
theorem w_628 : (Cond.fieldLink "DuneMapsModel" (25 : Nat) "DuneMapsModel" "then" "[I") ∈ cG := inG (i := 628) (by decide +kernel) rfl
theorem w_629 : (Cond.fieldLink "DuneMapsModel" (28 : Nat) "DuneMapsModel" "who" "[I") ∈ cG := inG (i := 629) (by decide +kernel) rfl
theorem w_630 : (Cond.fieldLink "DuneMapsModel" (152 : Nat) "DuneMapsModel" "whoMany" "I") ∈ cG := inG (i := 630) (by decide +kernel) rfl
theorem w_631 : (Cond.fieldLink "DuneMapsModel" (31 : Nat) "DuneMapsModel" "order" "[I") ∈ cG := inG (i := 631) (by decide +kernel) rfl
theorem w_632 : (Cond.fieldLink "DuneMapsModel" (34 : Nat) "DuneMapsModel" "bestOrder" "[I") ∈ cG := inG (i := 632) (by decide +kernel) rfl
theorem w_633 : (Cond.fieldLink "DuneMapsModel" (198 : Nat) "DuneMapsModel" "seedNow" "I") ∈ cG := inG (i := 633) (by decide +kernel) rfl
theorem w_634 : (Cond.fieldLink "DuneMapsModel" (46 : Nat) "DuneMapsModel" "keptDunes" "I") ∈ cG := inG (i := 634) (by decide +kernel) rfl
theorem w_635 : (Cond.fieldLink "DuneMapsModel" (213 : Nat) "DuneMapsModel" "keptWind" "I") ∈ cG := inG (i := 635) (by decide +kernel) rfl
theorem w_636 : (Cond.fieldLink "DuneMapsModel" (216 : Nat) "DuneMapsModel" "keptNights" "I") ∈ cG := inG (i := 636) (by decide +kernel) rfl
theorem w_637 : (Cond.fieldLink "DuneMapsModel" (219 : Nat) "DuneMapsModel" "keptWalkers" "I") ∈ cG := inG (i := 637) (by decide +kernel) rfl
theorem w_638 : (Cond.fieldLink "DuneMapsModel" (37 : Nat) "DuneMapsModel" "keptHeights" "[I") ∈ cG := inG (i := 638) (by decide +kernel) rfl
theorem w_639 : (Cond.fieldLink "DuneMapsModel" (40 : Nat) "DuneMapsModel" "keptRows" "[I") ∈ cG := inG (i := 639) (by decide +kernel) rfl
theorem w_640 : (Cond.fieldLink "DuneMapsModel" (43 : Nat) "DuneMapsModel" "keptMaps" "[I") ∈ cG := inG (i := 640) (by decide +kernel) rfl
theorem w_641 : (Cond.fieldLink "DuneMapsModel" (230 : Nat) "DuneMapsModel" "hash" "J") ∈ cG := inG (i := 641) (by decide +kernel) rfl
theorem w_642 : (Cond.laysFinal "DuneMapsModel" "DuneMapsModel" "page" "[I") ∈ cG := inG (i := 642) (by decide +kernel) rfl
theorem w_643 : (Cond.soleField "DuneMapsModel" "page") ∈ lw_tbl := inT (i := 643) (by decide +kernel)
theorem w_644 : (Cond.lays "DuneMapsModel" "DuneMapsModel" "pageMany" "I") ∈ cG := inG (i := 644) (by decide +kernel) rfl
theorem w_645 : (Cond.soleField "DuneMapsModel" "pageMany") ∈ lw_tbl := inT (i := 645) (by decide +kernel)
theorem w_646 : (Cond.lays "DuneMapsModel" "DuneMapsModel" "isThere" "Z") ∈ cG := inG (i := 646) (by decide +kernel) rfl
theorem w_647 : (Cond.soleField "DuneMapsModel" "isThere") ∈ lw_tbl := inT (i := 647) (by decide +kernel)
theorem w_648 : (Cond.lays "DuneMapsModel" "DuneMapsModel" "windOn" "I") ∈ cG := inG (i := 648) (by decide +kernel) rfl
theorem w_649 : (Cond.soleField "DuneMapsModel" "windOn") ∈ lw_tbl := inT (i := 649) (by decide +kernel)
theorem w_650 : (Cond.lays "DuneMapsModel" "DuneMapsModel" "nightsNow" "I") ∈ cG := inG (i := 650) (by decide +kernel) rfl
theorem w_651 : (Cond.soleField "DuneMapsModel" "nightsNow") ∈ lw_tbl := inT (i := 651) (by decide +kernel)
theorem w_652 : (Cond.lays "DuneMapsModel" "DuneMapsModel" "dunesRead" "I") ∈ cG := inG (i := 652) (by decide +kernel) rfl
theorem w_653 : (Cond.soleField "DuneMapsModel" "dunesRead") ∈ lw_tbl := inT (i := 653) (by decide +kernel)
theorem w_654 : (Cond.laysFinal "DuneMapsModel" "DuneMapsModel" "heights" "[I") ∈ cG := inG (i := 654) (by decide +kernel) rfl
theorem w_655 : (Cond.soleField "DuneMapsModel" "heights") ∈ lw_tbl := inT (i := 655) (by decide +kernel)
theorem w_656 : (Cond.lays "DuneMapsModel" "DuneMapsModel" "isTold" "Z") ∈ cG := inG (i := 656) (by decide +kernel) rfl
theorem w_657 : (Cond.soleField "DuneMapsModel" "isTold") ∈ lw_tbl := inT (i := 657) (by decide +kernel)
theorem w_658 : (Cond.laysFinal "DuneMapsModel" "DuneMapsModel" "were" "[I") ∈ cG := inG (i := 658) (by decide +kernel) rfl
theorem w_659 : (Cond.soleField "DuneMapsModel" "were") ∈ lw_tbl := inT (i := 659) (by decide +kernel)
theorem w_660 : (Cond.lays "DuneMapsModel" "DuneMapsModel" "walkers" "I") ∈ cG := inG (i := 660) (by decide +kernel) rfl
theorem w_661 : (Cond.soleField "DuneMapsModel" "walkers") ∈ lw_tbl := inT (i := 661) (by decide +kernel)
theorem w_662 : (Cond.laysFinal "DuneMapsModel" "DuneMapsModel" "rows" "[I") ∈ cG := inG (i := 662) (by decide +kernel) rfl
theorem w_663 : (Cond.soleField "DuneMapsModel" "rows") ∈ lw_tbl := inT (i := 663) (by decide +kernel)
theorem w_664 : (Cond.laysFinal "DuneMapsModel" "DuneMapsModel" "maps" "[I") ∈ cG := inG (i := 664) (by decide +kernel) rfl
theorem w_665 : (Cond.soleField "DuneMapsModel" "maps") ∈ lw_tbl := inT (i := 665) (by decide +kernel)
theorem w_666 : (Cond.laysFinal "DuneMapsModel" "DuneMapsModel" "then" "[I") ∈ cG := inG (i := 666) (by decide +kernel) rfl
theorem w_667 : (Cond.soleField "DuneMapsModel" "then") ∈ lw_tbl := inT (i := 667) (by decide +kernel)
theorem w_668 : (Cond.laysFinal "DuneMapsModel" "DuneMapsModel" "who" "[I") ∈ cG := inG (i := 668) (by decide +kernel) rfl
theorem w_669 : (Cond.soleField "DuneMapsModel" "who") ∈ lw_tbl := inT (i := 669) (by decide +kernel)
theorem w_670 : (Cond.lays "DuneMapsModel" "DuneMapsModel" "whoMany" "I") ∈ cG := inG (i := 670) (by decide +kernel) rfl
theorem w_671 : (Cond.soleField "DuneMapsModel" "whoMany") ∈ lw_tbl := inT (i := 671) (by decide +kernel)
theorem w_672 : (Cond.laysFinal "DuneMapsModel" "DuneMapsModel" "order" "[I") ∈ cG := inG (i := 672) (by decide +kernel) rfl
theorem w_673 : (Cond.soleField "DuneMapsModel" "order") ∈ lw_tbl := inT (i := 673) (by decide +kernel)
theorem w_674 : (Cond.laysFinal "DuneMapsModel" "DuneMapsModel" "bestOrder" "[I") ∈ cG := inG (i := 674) (by decide +kernel) rfl
theorem w_675 : (Cond.soleField "DuneMapsModel" "bestOrder") ∈ lw_tbl := inT (i := 675) (by decide +kernel)
theorem w_676 : (Cond.lays "DuneMapsModel" "DuneMapsModel" "seedNow" "I") ∈ cG := inG (i := 676) (by decide +kernel) rfl
theorem w_677 : (Cond.soleField "DuneMapsModel" "seedNow") ∈ lw_tbl := inT (i := 677) (by decide +kernel)
theorem w_678 : (Cond.lays "DuneMapsModel" "DuneMapsModel" "keptDunes" "I") ∈ cG := inG (i := 678) (by decide +kernel) rfl
theorem w_679 : (Cond.soleField "DuneMapsModel" "keptDunes") ∈ lw_tbl := inT (i := 679) (by decide +kernel)
theorem w_680 : (Cond.lays "DuneMapsModel" "DuneMapsModel" "keptWind" "I") ∈ cG := inG (i := 680) (by decide +kernel) rfl
theorem w_681 : (Cond.soleField "DuneMapsModel" "keptWind") ∈ lw_tbl := inT (i := 681) (by decide +kernel)
theorem w_682 : (Cond.lays "DuneMapsModel" "DuneMapsModel" "keptNights" "I") ∈ cG := inG (i := 682) (by decide +kernel) rfl
theorem w_683 : (Cond.soleField "DuneMapsModel" "keptNights") ∈ lw_tbl := inT (i := 683) (by decide +kernel)
theorem w_684 : (Cond.lays "DuneMapsModel" "DuneMapsModel" "keptWalkers" "I") ∈ cG := inG (i := 684) (by decide +kernel) rfl
theorem w_685 : (Cond.soleField "DuneMapsModel" "keptWalkers") ∈ lw_tbl := inT (i := 685) (by decide +kernel)
theorem w_686 : (Cond.laysFinal "DuneMapsModel" "DuneMapsModel" "keptHeights" "[I") ∈ cG := inG (i := 686) (by decide +kernel) rfl
theorem w_687 : (Cond.soleField "DuneMapsModel" "keptHeights") ∈ lw_tbl := inT (i := 687) (by decide +kernel)
theorem w_688 : (Cond.laysFinal "DuneMapsModel" "DuneMapsModel" "keptRows" "[I") ∈ cG := inG (i := 688) (by decide +kernel) rfl
theorem w_689 : (Cond.soleField "DuneMapsModel" "keptRows") ∈ lw_tbl := inT (i := 689) (by decide +kernel)
theorem w_690 : (Cond.laysFinal "DuneMapsModel" "DuneMapsModel" "keptMaps" "[I") ∈ cG := inG (i := 690) (by decide +kernel) rfl
theorem w_691 : (Cond.soleField "DuneMapsModel" "keptMaps") ∈ lw_tbl := inT (i := 691) (by decide +kernel)
theorem w_692 : (Cond.lays "DuneMapsModel" "DuneMapsModel" "hash" "J") ∈ cG := inG (i := 692) (by decide +kernel) rfl
theorem w_693 : (Cond.soleField "DuneMapsModel" "hash") ∈ lw_tbl := inT (i := 693) (by decide +kernel)
theorem w_694 : (Cond.superclass "DuneMapsModel" "java/lang/Object") ∈ lw_tbl := inT (i := 694) (by decide +kernel)
theorem w_695 : (Cond.methodLink "DuneMapsLaw" (17 : Nat) ({ cls := "DuneMapsModel", name := "letter", desc := "(I)I" } : MethodName)) ∈ cG := inG (i := 695) (by decide +kernel) rfl
theorem w_696 : (Cond.instanceMethod ({ cls := "DuneMapsModel", name := "letter", desc := "(I)I" } : MethodName)) ∈ cG := inG (i := 696) (by decide +kernel) rfl
theorem w_697 : (Cond.selects "DuneMapsModel" ({ cls := "DuneMapsModel", name := "letter", desc := "(I)I" } : MethodName) ({ cls := "DuneMapsModel", name := "letter", desc := "(I)I" } : MethodName)) ∈ cG := inG (i := 697) (by decide +kernel) rfl
theorem w_698 : (Cond.code ({ cls := "DuneMapsModel", name := "letter", desc := "(I)I" } : MethodName) prog_10_method_4_code (2 : Nat) (Option.some FieldType.int)) ∈ cG := inG (i := 698) (by decide +kernel) rfl
theorem w_699 : (Cond.constantLong "DuneMapsModel" (50 : Nat) (126 : Int64)) ∈ cG := inG (i := 699) (by decide +kernel) rfl
theorem w_700 : (Cond.methodLink "DuneMapsModel" (52 : Nat) ({ cls := "DuneMapsModel", name := "in", desc := "(JJJ)Z" } : MethodName)) ∈ cG := inG (i := 700) (by decide +kernel) rfl
theorem w_701 : (Cond.static ({ cls := "DuneMapsModel", name := "in", desc := "(JJJ)Z" } : MethodName)) ∈ cG := inG (i := 701) (by decide +kernel) rfl
theorem w_702 : (Cond.code ({ cls := "DuneMapsModel", name := "in", desc := "(JJJ)Z" } : MethodName) prog_10_method_2_code (6 : Nat) (Option.some FieldType.boolean)) ∈ cG := inG (i := 702) (by decide +kernel) rfl
theorem w_703 : (Cond.methodLink "DuneMapsLaw" (22 : Nat) ({ cls := "DuneMapsModel", name := "blank", desc := "()I" } : MethodName)) ∈ cG := inG (i := 703) (by decide +kernel) rfl
theorem w_704 : (Cond.instanceMethod ({ cls := "DuneMapsModel", name := "blank", desc := "()I" } : MethodName)) ∈ cG := inG (i := 704) (by decide +kernel) rfl
theorem w_705 : (Cond.selects "DuneMapsModel" ({ cls := "DuneMapsModel", name := "blank", desc := "()I" } : MethodName) ({ cls := "DuneMapsModel", name := "blank", desc := "()I" } : MethodName)) ∈ cG := inG (i := 705) (by decide +kernel) rfl
theorem w_706 : (Cond.code ({ cls := "DuneMapsModel", name := "blank", desc := "()I" } : MethodName) prog_10_method_5_code (2 : Nat) (Option.some FieldType.int)) ∈ cG := inG (i := 706) (by decide +kernel) rfl
theorem w_707 : (Cond.methodLink "DuneMapsLaw" (26 : Nat) ({ cls := "DuneMapsModel", name := "fault", desc := "(I)I" } : MethodName)) ∈ cG := inG (i := 707) (by decide +kernel) rfl
theorem w_708 : (Cond.instanceMethod ({ cls := "DuneMapsModel", name := "fault", desc := "(I)I" } : MethodName)) ∈ cG := inG (i := 708) (by decide +kernel) rfl
theorem w_709 : (Cond.selects "DuneMapsModel" ({ cls := "DuneMapsModel", name := "fault", desc := "(I)I" } : MethodName) ({ cls := "DuneMapsModel", name := "fault", desc := "(I)I" } : MethodName)) ∈ cG := inG (i := 709) (by decide +kernel) rfl
theorem w_710 : (Cond.code ({ cls := "DuneMapsModel", name := "fault", desc := "(I)I" } : MethodName) prog_10_method_7_code (2 : Nat) (Option.some FieldType.int)) ∈ cG := inG (i := 710) (by decide +kernel) rfl
theorem w_711 : (Cond.methodLink "DuneMapsModel" (63 : Nat) ({ cls := "DuneMapsModel", name := "faultOf", desc := "(I)I" } : MethodName)) ∈ cG := inG (i := 711) (by decide +kernel) rfl
theorem w_712 : (Cond.privateMethod ({ cls := "DuneMapsModel", name := "faultOf", desc := "(I)I" } : MethodName)) ∈ lw_tbl := inT (i := 712) (by decide +kernel)
theorem w_713 : (Cond.instanceMethod ({ cls := "DuneMapsModel", name := "faultOf", desc := "(I)I" } : MethodName)) ∈ cG := inG (i := 713) (by decide +kernel) rfl
theorem w_714 : (Cond.code ({ cls := "DuneMapsModel", name := "faultOf", desc := "(I)I" } : MethodName) prog_10_method_6_code (4 : Nat) (Option.some FieldType.int)) ∈ cG := inG (i := 714) (by decide +kernel) rfl
theorem w_715 : (Cond.constantLong "DuneMapsModel" (59 : Nat) (48 : Int64)) ∈ cG := inG (i := 715) (by decide +kernel) rfl
theorem w_716 : (Cond.constantLong "DuneMapsModel" (61 : Nat) (57 : Int64)) ∈ cG := inG (i := 716) (by decide +kernel) rfl
theorem w_717 : (Cond.methodLink "DuneMapsLaw" (30 : Nat) ({ cls := "DuneMapsModel", name := "dunes", desc := "()I" } : MethodName)) ∈ cG := inG (i := 717) (by decide +kernel) rfl
theorem w_718 : (Cond.instanceMethod ({ cls := "DuneMapsModel", name := "dunes", desc := "()I" } : MethodName)) ∈ cG := inG (i := 718) (by decide +kernel) rfl
theorem w_719 : (Cond.selects "DuneMapsModel" ({ cls := "DuneMapsModel", name := "dunes", desc := "()I" } : MethodName) ({ cls := "DuneMapsModel", name := "dunes", desc := "()I" } : MethodName)) ∈ cG := inG (i := 719) (by decide +kernel) rfl
theorem w_720 : (Cond.code ({ cls := "DuneMapsModel", name := "dunes", desc := "()I" } : MethodName) prog_10_method_9_code (2 : Nat) (Option.some FieldType.int)) ∈ cG := inG (i := 720) (by decide +kernel) rfl
theorem w_721 : (Cond.methodLink "DuneMapsModel" (86 : Nat) ({ cls := "DuneMapsModel", name := "sumOf", desc := "([I)I" } : MethodName)) ∈ cG := inG (i := 721) (by decide +kernel) rfl
theorem w_722 : (Cond.static ({ cls := "DuneMapsModel", name := "sumOf", desc := "([I)I" } : MethodName)) ∈ cG := inG (i := 722) (by decide +kernel) rfl
theorem w_723 : (Cond.code ({ cls := "DuneMapsModel", name := "sumOf", desc := "([I)I" } : MethodName) prog_10_method_8_code (3 : Nat) (Option.some FieldType.int)) ∈ cG := inG (i := 723) (by decide +kernel) rfl
theorem w_724 : (Cond.methodLink "DuneMapsLaw" (35 : Nat) ({ cls := "DuneMapsModel", name := "cell", desc := "(II)I" } : MethodName)) ∈ cG := inG (i := 724) (by decide +kernel) rfl
theorem w_725 : (Cond.instanceMethod ({ cls := "DuneMapsModel", name := "cell", desc := "(II)I" } : MethodName)) ∈ cG := inG (i := 725) (by decide +kernel) rfl
theorem w_726 : (Cond.selects "DuneMapsModel" ({ cls := "DuneMapsModel", name := "cell", desc := "(II)I" } : MethodName) ({ cls := "DuneMapsModel", name := "cell", desc := "(II)I" } : MethodName)) ∈ cG := inG (i := 726) (by decide +kernel) rfl
theorem w_727 : (Cond.code ({ cls := "DuneMapsModel", name := "cell", desc := "(II)I" } : MethodName) prog_10_method_16_code (3 : Nat) (Option.some FieldType.int)) ∈ cG := inG (i := 727) (by decide +kernel) rfl
theorem w_728 : (Cond.methodLink "DuneMapsModel" (99 : Nat) ({ cls := "DuneMapsModel", name := "isCell", desc := "(I)Z" } : MethodName)) ∈ cG := inG (i := 728) (by decide +kernel) rfl
theorem w_729 : (Cond.privateMethod ({ cls := "DuneMapsModel", name := "isCell", desc := "(I)Z" } : MethodName)) ∈ lw_tbl := inT (i := 729) (by decide +kernel)
theorem w_730 : (Cond.instanceMethod ({ cls := "DuneMapsModel", name := "isCell", desc := "(I)Z" } : MethodName)) ∈ cG := inG (i := 730) (by decide +kernel) rfl
theorem w_731 : (Cond.code ({ cls := "DuneMapsModel", name := "isCell", desc := "(I)Z" } : MethodName) prog_10_method_10_code (2 : Nat) (Option.some FieldType.boolean)) ∈ cG := inG (i := 731) (by decide +kernel) rfl
theorem w_732 : (Cond.constantLong "DuneMapsModel" (90 : Nat) (7 : Int64)) ∈ cG := inG (i := 732) (by decide +kernel) rfl
theorem w_733 : (Cond.methodLink "DuneMapsModel" (103 : Nat) ({ cls := "DuneMapsModel", name := "tellCell", desc := "(II)I" } : MethodName)) ∈ cG := inG (i := 733) (by decide +kernel) rfl
theorem w_734 : (Cond.privateMethod ({ cls := "DuneMapsModel", name := "tellCell", desc := "(II)I" } : MethodName)) ∈ lw_tbl := inT (i := 734) (by decide +kernel)
theorem w_735 : (Cond.instanceMethod ({ cls := "DuneMapsModel", name := "tellCell", desc := "(II)I" } : MethodName)) ∈ cG := inG (i := 735) (by decide +kernel) rfl
theorem w_736 : (Cond.code ({ cls := "DuneMapsModel", name := "tellCell", desc := "(II)I" } : MethodName) prog_10_method_15_code (3 : Nat) (Option.some FieldType.int)) ∈ cG := inG (i := 736) (by decide +kernel) rfl
theorem w_737 : (Cond.methodLink "DuneMapsModel" (92 : Nat) ({ cls := "DuneMapsModel", name := "shapeOf", desc := "([II)I" } : MethodName)) ∈ cG := inG (i := 737) (by decide +kernel) rfl
theorem w_738 : (Cond.static ({ cls := "DuneMapsModel", name := "shapeOf", desc := "([II)I" } : MethodName)) ∈ cG := inG (i := 738) (by decide +kernel) rfl
theorem w_739 : (Cond.code ({ cls := "DuneMapsModel", name := "shapeOf", desc := "([II)I" } : MethodName) prog_10_method_11_code (4 : Nat) (Option.some FieldType.int)) ∈ cG := inG (i := 739) (by decide +kernel) rfl
theorem w_740 : (Cond.methodLink "DuneMapsModel" (96 : Nat) ({ cls := "DuneMapsModel", name := "walkersAt", desc := "(I)I" } : MethodName)) ∈ cG := inG (i := 740) (by decide +kernel) rfl
theorem w_741 : (Cond.privateMethod ({ cls := "DuneMapsModel", name := "walkersAt", desc := "(I)I" } : MethodName)) ∈ lw_tbl := inT (i := 741) (by decide +kernel)
theorem w_742 : (Cond.instanceMethod ({ cls := "DuneMapsModel", name := "walkersAt", desc := "(I)I" } : MethodName)) ∈ cG := inG (i := 742) (by decide +kernel) rfl
theorem w_743 : (Cond.code ({ cls := "DuneMapsModel", name := "walkersAt", desc := "(I)I" } : MethodName) prog_10_method_14_code (4 : Nat) (Option.some FieldType.int)) ∈ cG := inG (i := 743) (by decide +kernel) rfl
theorem w_744 : (Cond.methodLink "DuneMapsLaw" (40 : Nat) ({ cls := "DuneMapsModel", name := "wind", desc := "(Z)I" } : MethodName)) ∈ cG := inG (i := 744) (by decide +kernel) rfl
theorem w_745 : (Cond.instanceMethod ({ cls := "DuneMapsModel", name := "wind", desc := "(Z)I" } : MethodName)) ∈ cG := inG (i := 745) (by decide +kernel) rfl
theorem w_746 : (Cond.selects "DuneMapsModel" ({ cls := "DuneMapsModel", name := "wind", desc := "(Z)I" } : MethodName) ({ cls := "DuneMapsModel", name := "wind", desc := "(Z)I" } : MethodName)) ∈ cG := inG (i := 746) (by decide +kernel) rfl
theorem w_747 : (Cond.code ({ cls := "DuneMapsModel", name := "wind", desc := "(Z)I" } : MethodName) prog_10_method_17_code (3 : Nat) (Option.some FieldType.int)) ∈ cG := inG (i := 747) (by decide +kernel) rfl
theorem w_748 : (Cond.methodLink "DuneMapsLaw" (44 : Nat) ({ cls := "DuneMapsModel", name := "night", desc := "()I" } : MethodName)) ∈ cG := inG (i := 748) (by decide +kernel) rfl
theorem w_749 : (Cond.instanceMethod ({ cls := "DuneMapsModel", name := "night", desc := "()I" } : MethodName)) ∈ cG := inG (i := 749) (by decide +kernel) rfl
theorem w_750 : (Cond.selects "DuneMapsModel" ({ cls := "DuneMapsModel", name := "night", desc := "()I" } : MethodName) ({ cls := "DuneMapsModel", name := "night", desc := "()I" } : MethodName)) ∈ cG := inG (i := 750) (by decide +kernel) rfl
theorem w_751 : (Cond.code ({ cls := "DuneMapsModel", name := "night", desc := "()I" } : MethodName) prog_10_method_21_code (1 : Nat) (Option.some FieldType.int)) ∈ cG := inG (i := 751) (by decide +kernel) rfl
theorem w_752 : (Cond.methodLink "DuneMapsModel" (116 : Nat) ({ cls := "DuneMapsModel", name := "nightOf", desc := "([I)I" } : MethodName)) ∈ cG := inG (i := 752) (by decide +kernel) rfl
theorem w_753 : (Cond.privateMethod ({ cls := "DuneMapsModel", name := "nightOf", desc := "([I)I" } : MethodName)) ∈ lw_tbl := inT (i := 753) (by decide +kernel)
theorem w_754 : (Cond.instanceMethod ({ cls := "DuneMapsModel", name := "nightOf", desc := "([I)I" } : MethodName)) ∈ cG := inG (i := 754) (by decide +kernel) rfl
theorem w_755 : (Cond.code ({ cls := "DuneMapsModel", name := "nightOf", desc := "([I)I" } : MethodName) prog_10_method_20_code (4 : Nat) (Option.some FieldType.int)) ∈ cG := inG (i := 755) (by decide +kernel) rfl
theorem w_756 : (Cond.methodLink "DuneMapsModel" (107 : Nat) ({ cls := "DuneMapsModel", name := "crests", desc := "([I)I" } : MethodName)) ∈ cG := inG (i := 756) (by decide +kernel) rfl
theorem w_757 : (Cond.privateMethod ({ cls := "DuneMapsModel", name := "crests", desc := "([I)I" } : MethodName)) ∈ lw_tbl := inT (i := 757) (by decide +kernel)
theorem w_758 : (Cond.instanceMethod ({ cls := "DuneMapsModel", name := "crests", desc := "([I)I" } : MethodName)) ∈ cG := inG (i := 758) (by decide +kernel) rfl
theorem w_759 : (Cond.code ({ cls := "DuneMapsModel", name := "crests", desc := "([I)I" } : MethodName) prog_10_method_18_code (4 : Nat) (Option.some FieldType.int)) ∈ cG := inG (i := 759) (by decide +kernel) rfl
theorem w_760 : (Cond.methodLink "DuneMapsModel" (110 : Nat) ({ cls := "DuneMapsModel", name := "leeOf", desc := "(I)I" } : MethodName)) ∈ cG := inG (i := 760) (by decide +kernel) rfl
theorem w_761 : (Cond.privateMethod ({ cls := "DuneMapsModel", name := "leeOf", desc := "(I)I" } : MethodName)) ∈ lw_tbl := inT (i := 761) (by decide +kernel)
theorem w_762 : (Cond.instanceMethod ({ cls := "DuneMapsModel", name := "leeOf", desc := "(I)I" } : MethodName)) ∈ cG := inG (i := 762) (by decide +kernel) rfl
theorem w_763 : (Cond.code ({ cls := "DuneMapsModel", name := "leeOf", desc := "(I)I" } : MethodName) prog_10_method_12_code (2 : Nat) (Option.some FieldType.int)) ∈ cG := inG (i := 763) (by decide +kernel) rfl
theorem w_764 : (Cond.methodLink "DuneMapsModel" (113 : Nat) ({ cls := "DuneMapsModel", name := "ones", desc := "(I)I" } : MethodName)) ∈ cG := inG (i := 764) (by decide +kernel) rfl
theorem w_765 : (Cond.static ({ cls := "DuneMapsModel", name := "ones", desc := "(I)I" } : MethodName)) ∈ cG := inG (i := 765) (by decide +kernel) rfl
theorem w_766 : (Cond.code ({ cls := "DuneMapsModel", name := "ones", desc := "(I)I" } : MethodName) prog_10_method_19_code (3 : Nat) (Option.some FieldType.int)) ∈ cG := inG (i := 766) (by decide +kernel) rfl
theorem w_767 : (Cond.methodLink "DuneMapsLaw" (48 : Nat) ({ cls := "DuneMapsModel", name := "walker", desc := "(II)I" } : MethodName)) ∈ cG := inG (i := 767) (by decide +kernel) rfl
theorem w_768 : (Cond.instanceMethod ({ cls := "DuneMapsModel", name := "walker", desc := "(II)I" } : MethodName)) ∈ cG := inG (i := 768) (by decide +kernel) rfl
theorem w_769 : (Cond.selects "DuneMapsModel" ({ cls := "DuneMapsModel", name := "walker", desc := "(II)I" } : MethodName) ({ cls := "DuneMapsModel", name := "walker", desc := "(II)I" } : MethodName)) ∈ cG := inG (i := 769) (by decide +kernel) rfl
theorem w_770 : (Cond.code ({ cls := "DuneMapsModel", name := "walker", desc := "(II)I" } : MethodName) prog_10_method_26_code (3 : Nat) (Option.some FieldType.int)) ∈ cG := inG (i := 770) (by decide +kernel) rfl
theorem w_771 : (Cond.constantLong "DuneMapsModel" (125 : Nat) (4 : Int64)) ∈ cG := inG (i := 771) (by decide +kernel) rfl
theorem w_772 : (Cond.methodLink "DuneMapsLaw" (52 : Nat) ({ cls := "DuneMapsModel", name := "about", desc := "(II)I" } : MethodName)) ∈ cG := inG (i := 772) (by decide +kernel) rfl
theorem w_773 : (Cond.instanceMethod ({ cls := "DuneMapsModel", name := "about", desc := "(II)I" } : MethodName)) ∈ cG := inG (i := 773) (by decide +kernel) rfl
theorem w_774 : (Cond.selects "DuneMapsModel" ({ cls := "DuneMapsModel", name := "about", desc := "(II)I" } : MethodName) ({ cls := "DuneMapsModel", name := "about", desc := "(II)I" } : MethodName)) ∈ cG := inG (i := 774) (by decide +kernel) rfl
theorem w_775 : (Cond.code ({ cls := "DuneMapsModel", name := "about", desc := "(II)I" } : MethodName) prog_10_method_30_code (3 : Nat) (Option.some FieldType.int)) ∈ cG := inG (i := 775) (by decide +kernel) rfl
theorem w_776 : (Cond.methodLink "DuneMapsModel" (137 : Nat) ({ cls := "DuneMapsModel", name := "isWalker", desc := "(I)Z" } : MethodName)) ∈ cG := inG (i := 776) (by decide +kernel) rfl
theorem w_777 : (Cond.privateMethod ({ cls := "DuneMapsModel", name := "isWalker", desc := "(I)Z" } : MethodName)) ∈ lw_tbl := inT (i := 777) (by decide +kernel)
theorem w_778 : (Cond.instanceMethod ({ cls := "DuneMapsModel", name := "isWalker", desc := "(I)Z" } : MethodName)) ∈ cG := inG (i := 778) (by decide +kernel) rfl
theorem w_779 : (Cond.code ({ cls := "DuneMapsModel", name := "isWalker", desc := "(I)Z" } : MethodName) prog_10_method_22_code (2 : Nat) (Option.some FieldType.boolean)) ∈ cG := inG (i := 779) (by decide +kernel) rfl
theorem w_780 : (Cond.methodLink "DuneMapsModel" (140 : Nat) ({ cls := "DuneMapsModel", name := "tell", desc := "(II)I" } : MethodName)) ∈ cG := inG (i := 780) (by decide +kernel) rfl
theorem w_781 : (Cond.privateMethod ({ cls := "DuneMapsModel", name := "tell", desc := "(II)I" } : MethodName)) ∈ lw_tbl := inT (i := 781) (by decide +kernel)
theorem w_782 : (Cond.instanceMethod ({ cls := "DuneMapsModel", name := "tell", desc := "(II)I" } : MethodName)) ∈ cG := inG (i := 782) (by decide +kernel) rfl
theorem w_783 : (Cond.code ({ cls := "DuneMapsModel", name := "tell", desc := "(II)I" } : MethodName) prog_10_method_29_code (3 : Nat) (Option.some FieldType.int)) ∈ cG := inG (i := 783) (by decide +kernel) rfl
theorem w_784 : (Cond.methodLink "DuneMapsModel" (122 : Nat) ({ cls := "DuneMapsModel", name := "weightOf", desc := "(I)I" } : MethodName)) ∈ cG := inG (i := 784) (by decide +kernel) rfl
theorem w_785 : (Cond.static ({ cls := "DuneMapsModel", name := "weightOf", desc := "(I)I" } : MethodName)) ∈ cG := inG (i := 785) (by decide +kernel) rfl
theorem w_786 : (Cond.code ({ cls := "DuneMapsModel", name := "weightOf", desc := "(I)I" } : MethodName) prog_10_method_23_code (1 : Nat) (Option.some FieldType.int)) ∈ cG := inG (i := 786) (by decide +kernel) rfl
theorem w_787 : (Cond.methodLink "DuneMapsModel" (127 : Nat) ({ cls := "DuneMapsModel", name := "hasMap", desc := "(I)Z" } : MethodName)) ∈ cG := inG (i := 787) (by decide +kernel) rfl
theorem w_788 : (Cond.privateMethod ({ cls := "DuneMapsModel", name := "hasMap", desc := "(I)Z" } : MethodName)) ∈ lw_tbl := inT (i := 788) (by decide +kernel)
theorem w_789 : (Cond.instanceMethod ({ cls := "DuneMapsModel", name := "hasMap", desc := "(I)Z" } : MethodName)) ∈ cG := inG (i := 789) (by decide +kernel) rfl
theorem w_790 : (Cond.code ({ cls := "DuneMapsModel", name := "hasMap", desc := "(I)Z" } : MethodName) prog_10_method_27_code (2 : Nat) (Option.some FieldType.boolean)) ∈ cG := inG (i := 790) (by decide +kernel) rfl
theorem w_791 : (Cond.methodLink "DuneMapsModel" (133 : Nat) ({ cls := "DuneMapsModel", name := "isGood", desc := "([II)Z" } : MethodName)) ∈ cG := inG (i := 791) (by decide +kernel) rfl
theorem w_792 : (Cond.privateMethod ({ cls := "DuneMapsModel", name := "isGood", desc := "([II)Z" } : MethodName)) ∈ lw_tbl := inT (i := 792) (by decide +kernel)
theorem w_793 : (Cond.instanceMethod ({ cls := "DuneMapsModel", name := "isGood", desc := "([II)Z" } : MethodName)) ∈ cG := inG (i := 793) (by decide +kernel) rfl
theorem w_794 : (Cond.code ({ cls := "DuneMapsModel", name := "isGood", desc := "([II)Z" } : MethodName) prog_10_method_28_code (6 : Nat) (Option.some FieldType.boolean)) ∈ cG := inG (i := 794) (by decide +kernel) rfl
theorem w_795 : (Cond.methodLink "DuneMapsModel" (130 : Nat) ({ cls := "DuneMapsModel", name := "stepTo", desc := "(II)I" } : MethodName)) ∈ cG := inG (i := 795) (by decide +kernel) rfl
theorem w_796 : (Cond.static ({ cls := "DuneMapsModel", name := "stepTo", desc := "(II)I" } : MethodName)) ∈ cG := inG (i := 796) (by decide +kernel) rfl
theorem w_797 : (Cond.code ({ cls := "DuneMapsModel", name := "stepTo", desc := "(II)I" } : MethodName) prog_10_method_25_code (2 : Nat) (Option.some FieldType.int)) ∈ cG := inG (i := 797) (by decide +kernel) rfl
theorem w_798 : (Cond.methodLink "DuneMapsLaw" (56 : Nat) ({ cls := "DuneMapsModel", name := "as", desc := "(II)I" } : MethodName)) ∈ cG := inG (i := 798) (by decide +kernel) rfl
theorem w_799 : (Cond.instanceMethod ({ cls := "DuneMapsModel", name := "as", desc := "(II)I" } : MethodName)) ∈ cG := inG (i := 799) (by decide +kernel) rfl
theorem w_800 : (Cond.selects "DuneMapsModel" ({ cls := "DuneMapsModel", name := "as", desc := "(II)I" } : MethodName) ({ cls := "DuneMapsModel", name := "as", desc := "(II)I" } : MethodName)) ∈ cG := inG (i := 800) (by decide +kernel) rfl
theorem w_801 : (Cond.code ({ cls := "DuneMapsModel", name := "as", desc := "(II)I" } : MethodName) prog_10_method_31_code (5 : Nat) (Option.some FieldType.int)) ∈ cG := inG (i := 801) (by decide +kernel) rfl
theorem w_802 : (Cond.methodLink "DuneMapsLaw" (60 : Nat) ({ cls := "DuneMapsModel", name := "step", desc := "(II)I" } : MethodName)) ∈ cG := inG (i := 802) (by decide +kernel) rfl
theorem w_803 : (Cond.instanceMethod ({ cls := "DuneMapsModel", name := "step", desc := "(II)I" } : MethodName)) ∈ cG := inG (i := 803) (by decide +kernel) rfl
theorem w_804 : (Cond.selects "DuneMapsModel" ({ cls := "DuneMapsModel", name := "step", desc := "(II)I" } : MethodName) ({ cls := "DuneMapsModel", name := "step", desc := "(II)I" } : MethodName)) ∈ cG := inG (i := 804) (by decide +kernel) rfl
theorem w_805 : (Cond.code ({ cls := "DuneMapsModel", name := "step", desc := "(II)I" } : MethodName) prog_10_method_33_code (3 : Nat) (Option.some FieldType.int)) ∈ cG := inG (i := 805) (by decide +kernel) rfl
theorem w_806 : (Cond.methodLink "DuneMapsModel" (147 : Nat) ({ cls := "DuneMapsModel", name := "steps", desc := "(II)I" } : MethodName)) ∈ cG := inG (i := 806) (by decide +kernel) rfl
theorem w_807 : (Cond.privateMethod ({ cls := "DuneMapsModel", name := "steps", desc := "(II)I" } : MethodName)) ∈ lw_tbl := inT (i := 807) (by decide +kernel)
theorem w_808 : (Cond.instanceMethod ({ cls := "DuneMapsModel", name := "steps", desc := "(II)I" } : MethodName)) ∈ cG := inG (i := 808) (by decide +kernel) rfl
theorem w_809 : (Cond.code ({ cls := "DuneMapsModel", name := "steps", desc := "(II)I" } : MethodName) prog_10_method_32_code (3 : Nat) (Option.some FieldType.int)) ∈ cG := inG (i := 809) (by decide +kernel) rfl
theorem w_810 : (Cond.methodLink "DuneMapsModel" (143 : Nat) ({ cls := "DuneMapsModel", name := "treads", desc := "([III)I" } : MethodName)) ∈ cG := inG (i := 810) (by decide +kernel) rfl
theorem w_811 : (Cond.privateMethod ({ cls := "DuneMapsModel", name := "treads", desc := "([III)I" } : MethodName)) ∈ lw_tbl := inT (i := 811) (by decide +kernel)
theorem w_812 : (Cond.instanceMethod ({ cls := "DuneMapsModel", name := "treads", desc := "([III)I" } : MethodName)) ∈ cG := inG (i := 812) (by decide +kernel) rfl
theorem w_813 : (Cond.code ({ cls := "DuneMapsModel", name := "treads", desc := "([III)I" } : MethodName) prog_10_method_24_code (11 : Nat) (Option.some FieldType.int)) ∈ cG := inG (i := 813) (by decide +kernel) rfl
theorem w_814 : (Cond.methodLink "DuneMapsModel" (119 : Nat) ({ cls := "DuneMapsModel", name := "luffOf", desc := "(I)I" } : MethodName)) ∈ cG := inG (i := 814) (by decide +kernel) rfl
theorem w_815 : (Cond.privateMethod ({ cls := "DuneMapsModel", name := "luffOf", desc := "(I)I" } : MethodName)) ∈ lw_tbl := inT (i := 815) (by decide +kernel)
theorem w_816 : (Cond.instanceMethod ({ cls := "DuneMapsModel", name := "luffOf", desc := "(I)I" } : MethodName)) ∈ cG := inG (i := 816) (by decide +kernel) rfl
theorem w_817 : (Cond.code ({ cls := "DuneMapsModel", name := "luffOf", desc := "(I)I" } : MethodName) prog_10_method_13_code (2 : Nat) (Option.some FieldType.int)) ∈ cG := inG (i := 817) (by decide +kernel) rfl
theorem w_818 : (Cond.methodLink "DuneMapsLaw" (65 : Nat) ({ cls := "DuneMapsModel", name := "map", desc := "(III)I" } : MethodName)) ∈ cG := inG (i := 818) (by decide +kernel) rfl
theorem w_819 : (Cond.instanceMethod ({ cls := "DuneMapsModel", name := "map", desc := "(III)I" } : MethodName)) ∈ cG := inG (i := 819) (by decide +kernel) rfl
theorem w_820 : (Cond.selects "DuneMapsModel" ({ cls := "DuneMapsModel", name := "map", desc := "(III)I" } : MethodName) ({ cls := "DuneMapsModel", name := "map", desc := "(III)I" } : MethodName)) ∈ cG := inG (i := 820) (by decide +kernel) rfl
theorem w_821 : (Cond.code ({ cls := "DuneMapsModel", name := "map", desc := "(III)I" } : MethodName) prog_10_method_34_code (7 : Nat) (Option.some FieldType.int)) ∈ cG := inG (i := 821) (by decide +kernel) rfl
theorem w_822 : (Cond.constantLong "DuneMapsModel" (150 : Nat) (8 : Int64)) ∈ cG := inG (i := 822) (by decide +kernel) rfl
theorem w_823 : (Cond.methodLink "DuneMapsLaw" (69 : Nat) ({ cls := "DuneMapsModel", name := "go", desc := "(I)I" } : MethodName)) ∈ cG := inG (i := 823) (by decide +kernel) rfl
theorem w_824 : (Cond.instanceMethod ({ cls := "DuneMapsModel", name := "go", desc := "(I)I" } : MethodName)) ∈ cG := inG (i := 824) (by decide +kernel) rfl
theorem w_825 : (Cond.selects "DuneMapsModel" ({ cls := "DuneMapsModel", name := "go", desc := "(I)I" } : MethodName) ({ cls := "DuneMapsModel", name := "go", desc := "(I)I" } : MethodName)) ∈ cG := inG (i := 825) (by decide +kernel) rfl
theorem w_826 : (Cond.code ({ cls := "DuneMapsModel", name := "go", desc := "(I)I" } : MethodName) prog_10_method_35_code (5 : Nat) (Option.some FieldType.int)) ∈ cG := inG (i := 826) (by decide +kernel) rfl
theorem w_827 : (Cond.methodLink "DuneMapsLaw" (73 : Nat) ({ cls := "DuneMapsModel", name := "order", desc := "(I)I" } : MethodName)) ∈ cG := inG (i := 827) (by decide +kernel) rfl
theorem w_828 : (Cond.instanceMethod ({ cls := "DuneMapsModel", name := "order", desc := "(I)I" } : MethodName)) ∈ cG := inG (i := 828) (by decide +kernel) rfl
theorem w_829 : (Cond.selects "DuneMapsModel" ({ cls := "DuneMapsModel", name := "order", desc := "(I)I" } : MethodName) ({ cls := "DuneMapsModel", name := "order", desc := "(I)I" } : MethodName)) ∈ cG := inG (i := 829) (by decide +kernel) rfl
theorem w_830 : (Cond.code ({ cls := "DuneMapsModel", name := "order", desc := "(I)I" } : MethodName) prog_10_method_41_code (2 : Nat) (Option.some FieldType.int)) ∈ cG := inG (i := 830) (by decide +kernel) rfl
theorem w_831 : (Cond.constantLong "DuneMapsModel" (173 : Nat) (10 : Int64)) ∈ cG := inG (i := 831) (by decide +kernel) rfl
theorem w_832 : (Cond.constantLong "DuneMapsModel" (175 : Nat) (13 : Int64)) ∈ cG := inG (i := 832) (by decide +kernel) rfl
theorem w_833 : (Cond.methodLink "DuneMapsModel" (177 : Nat) ({ cls := "DuneMapsModel", name := "tellOrder", desc := "(I)I" } : MethodName)) ∈ cG := inG (i := 833) (by decide +kernel) rfl
theorem w_834 : (Cond.privateMethod ({ cls := "DuneMapsModel", name := "tellOrder", desc := "(I)I" } : MethodName)) ∈ lw_tbl := inT (i := 834) (by decide +kernel)
theorem w_835 : (Cond.instanceMethod ({ cls := "DuneMapsModel", name := "tellOrder", desc := "(I)I" } : MethodName)) ∈ cG := inG (i := 835) (by decide +kernel) rfl
theorem w_836 : (Cond.code ({ cls := "DuneMapsModel", name := "tellOrder", desc := "(I)I" } : MethodName) prog_10_method_40_code (3 : Nat) (Option.some FieldType.int)) ∈ cG := inG (i := 836) (by decide +kernel) rfl
theorem w_837 : (Cond.methodLink "DuneMapsModel" (169 : Nat) ({ cls := "DuneMapsModel", name := "layOrder", desc := "()I" } : MethodName)) ∈ cG := inG (i := 837) (by decide +kernel) rfl
theorem w_838 : (Cond.privateMethod ({ cls := "DuneMapsModel", name := "layOrder", desc := "()I" } : MethodName)) ∈ lw_tbl := inT (i := 838) (by decide +kernel)
theorem w_839 : (Cond.instanceMethod ({ cls := "DuneMapsModel", name := "layOrder", desc := "()I" } : MethodName)) ∈ cG := inG (i := 839) (by decide +kernel) rfl
theorem w_840 : (Cond.code ({ cls := "DuneMapsModel", name := "layOrder", desc := "()I" } : MethodName) prog_10_method_39_code (6 : Nat) (Option.some FieldType.int)) ∈ cG := inG (i := 840) (by decide +kernel) rfl
theorem w_841 : (Cond.methodLink "DuneMapsModel" (155 : Nat) ({ cls := "DuneMapsModel", name := "layWho", desc := "()V" } : MethodName)) ∈ cG := inG (i := 841) (by decide +kernel) rfl
theorem w_842 : (Cond.privateMethod ({ cls := "DuneMapsModel", name := "layWho", desc := "()V" } : MethodName)) ∈ lw_tbl := inT (i := 842) (by decide +kernel)
theorem w_843 : (Cond.instanceMethod ({ cls := "DuneMapsModel", name := "layWho", desc := "()V" } : MethodName)) ∈ cG := inG (i := 843) (by decide +kernel) rfl
theorem w_844 : (Cond.code ({ cls := "DuneMapsModel", name := "layWho", desc := "()V" } : MethodName) prog_10_method_37_code (2 : Nat) (Option.none : Option FieldType)) ∈ cG := inG (i := 844) (by decide +kernel) rfl
theorem w_845 : (Cond.methodLink "DuneMapsModel" (158 : Nat) ({ cls := "DuneMapsModel", name := "isOrder", desc := "(I)Z" } : MethodName)) ∈ cG := inG (i := 845) (by decide +kernel) rfl
theorem w_846 : (Cond.privateMethod ({ cls := "DuneMapsModel", name := "isOrder", desc := "(I)Z" } : MethodName)) ∈ lw_tbl := inT (i := 846) (by decide +kernel)
theorem w_847 : (Cond.instanceMethod ({ cls := "DuneMapsModel", name := "isOrder", desc := "(I)Z" } : MethodName)) ∈ cG := inG (i := 847) (by decide +kernel) rfl
theorem w_848 : (Cond.code ({ cls := "DuneMapsModel", name := "isOrder", desc := "(I)Z" } : MethodName) prog_10_method_38_code (5 : Nat) (Option.some FieldType.boolean)) ∈ cG := inG (i := 848) (by decide +kernel) rfl
theorem w_849 : (Cond.methodLink "DuneMapsModel" (161 : Nat) ({ cls := "DuneMapsModel", name := "copy", desc := "([I[I)V" } : MethodName)) ∈ cG := inG (i := 849) (by decide +kernel) rfl
theorem w_850 : (Cond.static ({ cls := "DuneMapsModel", name := "copy", desc := "([I[I)V" } : MethodName)) ∈ cG := inG (i := 850) (by decide +kernel) rfl
theorem w_851 : (Cond.code ({ cls := "DuneMapsModel", name := "copy", desc := "([I[I)V" } : MethodName) prog_10_method_3_code (3 : Nat) (Option.none : Option FieldType)) ∈ cG := inG (i := 851) (by decide +kernel) rfl
theorem w_852 : (Cond.methodLink "DuneMapsModel" (165 : Nat) ({ cls := "DuneMapsModel", name := "goes", desc := "(I)V" } : MethodName)) ∈ cG := inG (i := 852) (by decide +kernel) rfl
theorem w_853 : (Cond.privateMethod ({ cls := "DuneMapsModel", name := "goes", desc := "(I)V" } : MethodName)) ∈ lw_tbl := inT (i := 853) (by decide +kernel)
theorem w_854 : (Cond.instanceMethod ({ cls := "DuneMapsModel", name := "goes", desc := "(I)V" } : MethodName)) ∈ cG := inG (i := 854) (by decide +kernel) rfl
theorem w_855 : (Cond.code ({ cls := "DuneMapsModel", name := "goes", desc := "(I)V" } : MethodName) prog_10_method_36_code (5 : Nat) (Option.none : Option FieldType)) ∈ cG := inG (i := 855) (by decide +kernel) rfl
theorem w_856 : (Cond.methodLink "DuneMapsLaw" (78 : Nat) ({ cls := "DuneMapsModel", name := "feet", desc := "(IIII)I" } : MethodName)) ∈ cG := inG (i := 856) (by decide +kernel) rfl
theorem w_857 : (Cond.instanceMethod ({ cls := "DuneMapsModel", name := "feet", desc := "(IIII)I" } : MethodName)) ∈ cG := inG (i := 857) (by decide +kernel) rfl
theorem w_858 : (Cond.selects "DuneMapsModel" ({ cls := "DuneMapsModel", name := "feet", desc := "(IIII)I" } : MethodName) ({ cls := "DuneMapsModel", name := "feet", desc := "(IIII)I" } : MethodName)) ∈ cG := inG (i := 858) (by decide +kernel) rfl
theorem w_859 : (Cond.code ({ cls := "DuneMapsModel", name := "feet", desc := "(IIII)I" } : MethodName) prog_10_method_44_code (5 : Nat) (Option.some FieldType.int)) ∈ cG := inG (i := 859) (by decide +kernel) rfl
theorem w_860 : (Cond.constantLong "DuneMapsModel" (184 : Nat) (9 : Int64)) ∈ cG := inG (i := 860) (by decide +kernel) rfl
theorem w_861 : (Cond.methodLink "DuneMapsModel" (186 : Nat) ({ cls := "DuneMapsModel", name := "feetOf", desc := "(IIII)I" } : MethodName)) ∈ cG := inG (i := 861) (by decide +kernel) rfl
theorem w_862 : (Cond.privateMethod ({ cls := "DuneMapsModel", name := "feetOf", desc := "(IIII)I" } : MethodName)) ∈ lw_tbl := inT (i := 862) (by decide +kernel)
theorem w_863 : (Cond.instanceMethod ({ cls := "DuneMapsModel", name := "feetOf", desc := "(IIII)I" } : MethodName)) ∈ cG := inG (i := 863) (by decide +kernel) rfl
theorem w_864 : (Cond.code ({ cls := "DuneMapsModel", name := "feetOf", desc := "(IIII)I" } : MethodName) prog_10_method_43_code (9 : Nat) (Option.some FieldType.int)) ∈ cG := inG (i := 864) (by decide +kernel) rfl
theorem w_865 : (Cond.methodLink "DuneMapsModel" (180 : Nat) ({ cls := "DuneMapsModel", name := "highBy", desc := "(IIII)I" } : MethodName)) ∈ cG := inG (i := 865) (by decide +kernel) rfl
theorem w_866 : (Cond.privateMethod ({ cls := "DuneMapsModel", name := "highBy", desc := "(IIII)I" } : MethodName)) ∈ lw_tbl := inT (i := 866) (by decide +kernel)
theorem w_867 : (Cond.instanceMethod ({ cls := "DuneMapsModel", name := "highBy", desc := "(IIII)I" } : MethodName)) ∈ cG := inG (i := 867) (by decide +kernel) rfl
theorem w_868 : (Cond.code ({ cls := "DuneMapsModel", name := "highBy", desc := "(IIII)I" } : MethodName) prog_10_method_42_code (8 : Nat) (Option.some FieldType.int)) ∈ cG := inG (i := 868) (by decide +kernel) rfl
theorem w_869 : (Cond.methodLink "DuneMapsLaw" (82 : Nat) ({ cls := "DuneMapsModel", name := "was", desc := "()I" } : MethodName)) ∈ cG := inG (i := 869) (by decide +kernel) rfl
theorem w_870 : (Cond.instanceMethod ({ cls := "DuneMapsModel", name := "was", desc := "()I" } : MethodName)) ∈ cG := inG (i := 870) (by decide +kernel) rfl
theorem w_871 : (Cond.selects "DuneMapsModel" ({ cls := "DuneMapsModel", name := "was", desc := "()I" } : MethodName) ({ cls := "DuneMapsModel", name := "was", desc := "()I" } : MethodName)) ∈ cG := inG (i := 871) (by decide +kernel) rfl
theorem w_872 : (Cond.code ({ cls := "DuneMapsModel", name := "was", desc := "()I" } : MethodName) prog_10_method_45_code (2 : Nat) (Option.some FieldType.int)) ∈ cG := inG (i := 872) (by decide +kernel) rfl
theorem w_873 : (Cond.methodLink "DuneMapsLaw" (86 : Nat) ({ cls := "DuneMapsModel", name := "who", desc := "(I)I" } : MethodName)) ∈ cG := inG (i := 873) (by decide +kernel) rfl
theorem w_874 : (Cond.instanceMethod ({ cls := "DuneMapsModel", name := "who", desc := "(I)I" } : MethodName)) ∈ cG := inG (i := 874) (by decide +kernel) rfl
theorem w_875 : (Cond.selects "DuneMapsModel" ({ cls := "DuneMapsModel", name := "who", desc := "(I)I" } : MethodName) ({ cls := "DuneMapsModel", name := "who", desc := "(I)I" } : MethodName)) ∈ cG := inG (i := 875) (by decide +kernel) rfl
theorem w_876 : (Cond.code ({ cls := "DuneMapsModel", name := "who", desc := "(I)I" } : MethodName) prog_10_method_48_code (2 : Nat) (Option.some FieldType.int)) ∈ cG := inG (i := 876) (by decide +kernel) rfl
theorem w_877 : (Cond.methodLink "DuneMapsModel" (193 : Nat) ({ cls := "DuneMapsModel", name := "whoOf", desc := "(I)I" } : MethodName)) ∈ cG := inG (i := 877) (by decide +kernel) rfl
theorem w_878 : (Cond.privateMethod ({ cls := "DuneMapsModel", name := "whoOf", desc := "(I)I" } : MethodName)) ∈ lw_tbl := inT (i := 878) (by decide +kernel)
theorem w_879 : (Cond.instanceMethod ({ cls := "DuneMapsModel", name := "whoOf", desc := "(I)I" } : MethodName)) ∈ cG := inG (i := 879) (by decide +kernel) rfl
theorem w_880 : (Cond.code ({ cls := "DuneMapsModel", name := "whoOf", desc := "(I)I" } : MethodName) prog_10_method_47_code (8 : Nat) (Option.some FieldType.int)) ∈ cG := inG (i := 880) (by decide +kernel) rfl
theorem w_881 : (Cond.methodLink "DuneMapsModel" (189 : Nat) ({ cls := "DuneMapsModel", name := "isAsNow", desc := "()Z" } : MethodName)) ∈ cG := inG (i := 881) (by decide +kernel) rfl
theorem w_882 : (Cond.privateMethod ({ cls := "DuneMapsModel", name := "isAsNow", desc := "()Z" } : MethodName)) ∈ lw_tbl := inT (i := 882) (by decide +kernel)
theorem w_883 : (Cond.instanceMethod ({ cls := "DuneMapsModel", name := "isAsNow", desc := "()Z" } : MethodName)) ∈ cG := inG (i := 883) (by decide +kernel) rfl
theorem w_884 : (Cond.code ({ cls := "DuneMapsModel", name := "isAsNow", desc := "()Z" } : MethodName) prog_10_method_46_code (3 : Nat) (Option.some FieldType.boolean)) ∈ cG := inG (i := 884) (by decide +kernel) rfl
theorem w_885 : (Cond.methodLink "DuneMapsLaw" (90 : Nat) ({ cls := "DuneMapsModel", name := "moons", desc := "(III)I" } : MethodName)) ∈ cG := inG (i := 885) (by decide +kernel) rfl
theorem w_886 : (Cond.instanceMethod ({ cls := "DuneMapsModel", name := "moons", desc := "(III)I" } : MethodName)) ∈ cG := inG (i := 886) (by decide +kernel) rfl
theorem w_887 : (Cond.selects "DuneMapsModel" ({ cls := "DuneMapsModel", name := "moons", desc := "(III)I" } : MethodName) ({ cls := "DuneMapsModel", name := "moons", desc := "(III)I" } : MethodName)) ∈ cG := inG (i := 887) (by decide +kernel) rfl
theorem w_888 : (Cond.code ({ cls := "DuneMapsModel", name := "moons", desc := "(III)I" } : MethodName) prog_10_method_50_code (8 : Nat) (Option.some FieldType.int)) ∈ cG := inG (i := 888) (by decide +kernel) rfl
theorem w_889 : (Cond.constantLong "DuneMapsModel" (206 : Nat) (60 : Int64)) ∈ cG := inG (i := 889) (by decide +kernel) rfl
theorem w_890 : (Cond.constantLong "DuneMapsModel" (208 : Nat) (2 : Int64)) ∈ cG := inG (i := 890) (by decide +kernel) rfl
theorem w_891 : (Cond.methodLink "DuneMapsModel" (210 : Nat) ({ cls := "DuneMapsModel", name := "draw", desc := "(I)I" } : MethodName)) ∈ cG := inG (i := 891) (by decide +kernel) rfl
theorem w_892 : (Cond.privateMethod ({ cls := "DuneMapsModel", name := "draw", desc := "(I)I" } : MethodName)) ∈ lw_tbl := inT (i := 892) (by decide +kernel)
theorem w_893 : (Cond.instanceMethod ({ cls := "DuneMapsModel", name := "draw", desc := "(I)I" } : MethodName)) ∈ cG := inG (i := 893) (by decide +kernel) rfl
theorem w_894 : (Cond.code ({ cls := "DuneMapsModel", name := "draw", desc := "(I)I" } : MethodName) prog_10_method_49_code (2 : Nat) (Option.some FieldType.int)) ∈ cG := inG (i := 894) (by decide +kernel) rfl
theorem w_895 : (Cond.constantLong "DuneMapsModel" (196 : Nat) (1103515245 : Int64)) ∈ cG := inG (i := 895) (by decide +kernel) rfl
theorem w_896 : (Cond.constantLong "DuneMapsModel" (201 : Nat) (12345 : Int64)) ∈ cG := inG (i := 896) (by decide +kernel) rfl
theorem w_897 : (Cond.constantLong "DuneMapsModel" (203 : Nat) (2147483647 : Int64)) ∈ cG := inG (i := 897) (by decide +kernel) rfl
theorem w_898 : (Cond.constant "DuneMapsModel" (205 : Nat) (65536 : Int32)) ∈ cG := inG (i := 898) (by decide +kernel) rfl
theorem w_899 : (Cond.methodLink "DuneMapsLaw" (94 : Nat) ({ cls := "DuneMapsModel", name := "image", desc := "()I" } : MethodName)) ∈ cG := inG (i := 899) (by decide +kernel) rfl
theorem w_900 : (Cond.instanceMethod ({ cls := "DuneMapsModel", name := "image", desc := "()I" } : MethodName)) ∈ cG := inG (i := 900) (by decide +kernel) rfl
theorem w_901 : (Cond.selects "DuneMapsModel" ({ cls := "DuneMapsModel", name := "image", desc := "()I" } : MethodName) ({ cls := "DuneMapsModel", name := "image", desc := "()I" } : MethodName)) ∈ cG := inG (i := 901) (by decide +kernel) rfl
theorem w_902 : (Cond.code ({ cls := "DuneMapsModel", name := "image", desc := "()I" } : MethodName) prog_10_method_51_code (1 : Nat) (Option.some FieldType.int)) ∈ cG := inG (i := 902) (by decide +kernel) rfl
theorem w_903 : (Cond.methodLink "DuneMapsLaw" (98 : Nat) ({ cls := "DuneMapsModel", name := "restore", desc := "()I" } : MethodName)) ∈ cG := inG (i := 903) (by decide +kernel) rfl
theorem w_904 : (Cond.instanceMethod ({ cls := "DuneMapsModel", name := "restore", desc := "()I" } : MethodName)) ∈ cG := inG (i := 904) (by decide +kernel) rfl
theorem w_905 : (Cond.selects "DuneMapsModel" ({ cls := "DuneMapsModel", name := "restore", desc := "()I" } : MethodName) ({ cls := "DuneMapsModel", name := "restore", desc := "()I" } : MethodName)) ∈ cG := inG (i := 905) (by decide +kernel) rfl
theorem w_906 : (Cond.code ({ cls := "DuneMapsModel", name := "restore", desc := "()I" } : MethodName) prog_10_method_52_code (1 : Nat) (Option.some FieldType.int)) ∈ cG := inG (i := 906) (by decide +kernel) rfl
theorem w_907 : (Cond.methodLink "DuneMapsLaw" (102 : Nat) ({ cls := "DuneMapsModel", name := "count", desc := "(I)I" } : MethodName)) ∈ cG := inG (i := 907) (by decide +kernel) rfl
theorem w_908 : (Cond.instanceMethod ({ cls := "DuneMapsModel", name := "count", desc := "(I)I" } : MethodName)) ∈ cG := inG (i := 908) (by decide +kernel) rfl
theorem w_909 : (Cond.selects "DuneMapsModel" ({ cls := "DuneMapsModel", name := "count", desc := "(I)I" } : MethodName) ({ cls := "DuneMapsModel", name := "count", desc := "(I)I" } : MethodName)) ∈ cG := inG (i := 909) (by decide +kernel) rfl
theorem w_910 : (Cond.code ({ cls := "DuneMapsModel", name := "count", desc := "(I)I" } : MethodName) prog_10_method_55_code (2 : Nat) (Option.some FieldType.int)) ∈ cG := inG (i := 910) (by decide +kernel) rfl
theorem w_911 : (Cond.methodLink "DuneMapsModel" (225 : Nat) ({ cls := "DuneMapsModel", name := "countOf", desc := "(I)I" } : MethodName)) ∈ cG := inG (i := 911) (by decide +kernel) rfl
theorem w_912 : (Cond.privateMethod ({ cls := "DuneMapsModel", name := "countOf", desc := "(I)I" } : MethodName)) ∈ lw_tbl := inT (i := 912) (by decide +kernel)
theorem w_913 : (Cond.instanceMethod ({ cls := "DuneMapsModel", name := "countOf", desc := "(I)I" } : MethodName)) ∈ cG := inG (i := 913) (by decide +kernel) rfl
theorem w_914 : (Cond.code ({ cls := "DuneMapsModel", name := "countOf", desc := "(I)I" } : MethodName) prog_10_method_54_code (2 : Nat) (Option.some FieldType.int)) ∈ cG := inG (i := 914) (by decide +kernel) rfl
theorem w_915 : (Cond.methodLink "DuneMapsModel" (222 : Nat) ({ cls := "DuneMapsModel", name := "sumBy", desc := "(I)I" } : MethodName)) ∈ cG := inG (i := 915) (by decide +kernel) rfl
theorem w_916 : (Cond.privateMethod ({ cls := "DuneMapsModel", name := "sumBy", desc := "(I)I" } : MethodName)) ∈ lw_tbl := inT (i := 916) (by decide +kernel)
theorem w_917 : (Cond.instanceMethod ({ cls := "DuneMapsModel", name := "sumBy", desc := "(I)I" } : MethodName)) ∈ cG := inG (i := 917) (by decide +kernel) rfl
theorem w_918 : (Cond.code ({ cls := "DuneMapsModel", name := "sumBy", desc := "(I)I" } : MethodName) prog_10_method_53_code (4 : Nat) (Option.some FieldType.int)) ∈ cG := inG (i := 918) (by decide +kernel) rfl
theorem w_919 : (Cond.methodLink "DuneMapsLaw" (107 : Nat) ({ cls := "DuneMapsModel", name := "digest", desc := "()J" } : MethodName)) ∈ cG := inG (i := 919) (by decide +kernel) rfl
theorem w_920 : (Cond.instanceMethod ({ cls := "DuneMapsModel", name := "digest", desc := "()J" } : MethodName)) ∈ cG := inG (i := 920) (by decide +kernel) rfl
theorem w_921 : (Cond.selects "DuneMapsModel" ({ cls := "DuneMapsModel", name := "digest", desc := "()J" } : MethodName) ({ cls := "DuneMapsModel", name := "digest", desc := "()J" } : MethodName)) ∈ cG := inG (i := 921) (by decide +kernel) rfl
theorem w_922 : (Cond.code ({ cls := "DuneMapsModel", name := "digest", desc := "()J" } : MethodName) prog_10_method_58_code (3 : Nat) (Option.some FieldType.long)) ∈ cG := inG (i := 922) (by decide +kernel) rfl
theorem w_923 : (Cond.constantLong "DuneMapsModel" (238 : Nat) (881 : Int64)) ∈ cG := inG (i := 923) (by decide +kernel) rfl
theorem w_924 : (Cond.methodLink "DuneMapsModel" (240 : Nat) ({ cls := "DuneMapsModel", name := "sayDunes", desc := "()V" } : MethodName)) ∈ cG := inG (i := 924) (by decide +kernel) rfl
theorem w_925 : (Cond.privateMethod ({ cls := "DuneMapsModel", name := "sayDunes", desc := "()V" } : MethodName)) ∈ lw_tbl := inT (i := 925) (by decide +kernel)
theorem w_926 : (Cond.instanceMethod ({ cls := "DuneMapsModel", name := "sayDunes", desc := "()V" } : MethodName)) ∈ cG := inG (i := 926) (by decide +kernel) rfl
theorem w_927 : (Cond.code ({ cls := "DuneMapsModel", name := "sayDunes", desc := "()V" } : MethodName) prog_10_method_57_code (3 : Nat) (Option.none : Option FieldType)) ∈ cG := inG (i := 927) (by decide +kernel) rfl
theorem w_928 : (Cond.methodLink "DuneMapsModel" (234 : Nat) ({ cls := "DuneMapsModel", name := "say", desc := "(J)V" } : MethodName)) ∈ cG := inG (i := 928) (by decide +kernel) rfl
theorem w_929 : (Cond.privateMethod ({ cls := "DuneMapsModel", name := "say", desc := "(J)V" } : MethodName)) ∈ lw_tbl := inT (i := 929) (by decide +kernel)
theorem w_930 : (Cond.instanceMethod ({ cls := "DuneMapsModel", name := "say", desc := "(J)V" } : MethodName)) ∈ cG := inG (i := 930) (by decide +kernel) rfl
theorem w_931 : (Cond.code ({ cls := "DuneMapsModel", name := "say", desc := "(J)V" } : MethodName) prog_10_method_56_code (3 : Nat) (Option.none : Option FieldType)) ∈ cG := inG (i := 931) (by decide +kernel) rfl
theorem w_932 : (Cond.constantLong "DuneMapsModel" (228 : Nat) (31 : Int64)) ∈ cG := inG (i := 932) (by decide +kernel) rfl
