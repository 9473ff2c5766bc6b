theorem k_1 : (Jvm.Cond.initialized "CrossroadsCarts") ∈ TB := tb_lw (lw_t1 (i := 1) rfl) rfl
theorem k_2 : (Jvm.Cond.initialized "CrossroadsCarts$Country") ∈ TB := tb_lw (lw_t1 (i := 2) rfl) rfl
theorem k_3 : (Jvm.Cond.initialized "CrossroadsCarts$Land") ∈ TB := tb_lw (lw_t1 (i := 3) rfl) rfl
theorem k_4 : (Jvm.Cond.initialized "CrossroadsCarts$Reader") ∈ TB := tb_lw (lw_t1 (i := 4) rfl) rfl
theorem k_5 : (Jvm.Cond.initialized "CrossroadsCarts$Rests") ∈ TB := tb_lw (lw_t1 (i := 5) rfl) rfl
theorem k_6 : (Jvm.Cond.initialized "CrossroadsCarts$Walk") ∈ TB := tb_lw (lw_t1 (i := 6) rfl) rfl
theorem k_7 : (Jvm.Cond.initialized "CrossroadsCarts$Deals") ∈ TB := tb_lw (lw_t1 (i := 7) rfl) rfl
theorem k_8 : (Jvm.Cond.initialized "CrossroadsCarts$Acts") ∈ TB := tb_lw (lw_t1 (i := 8) rfl) rfl
theorem k_9 : (Jvm.Cond.initialized "CrossroadsCarts$Tape") ∈ TB := tb_lw (lw_t1 (i := 9) rfl) rfl
theorem k_10 : (Jvm.Cond.initialized "CrossroadsCartsModel") ∈ TB := tb_lw (lw_t1 (i := 10) rfl) rfl
theorem k_11 : (Jvm.Cond.initialized "java/lang/Math") ∈ TB := tb_lw (lw_t1 (i := 11) rfl) rfl
theorem k_12 : (Jvm.Cond.initialized "java/util/Arrays") ∈ TB := tb_lw (lw_t1 (i := 12) rfl) rfl
theorem k_13 : (Jvm.Cond.initialized "java/lang/String") ∈ TB := tb_lw (lw_t1 (i := 13) rfl) rfl
theorem k_14 : (Jvm.Cond.initialized "java/lang/StringLatin1") ∈ TB := tb_lw (lw_t1 (i := 14) rfl) rfl
theorem k_15 : (Jvm.Cond.initialized "jdk/internal/util/Preconditions") ∈ TB := tb_lw (lw_t1 (i := 15) rfl) rfl
theorem k_18 : (Jvm.Cond.initialized "java/lang/System") ∈ TB := tb_lw (lw_t1 (i := 18) rfl) rfl
theorem k_19 : (Jvm.Cond.initialized "java/lang/Integer") ∈ TB := tb_lw (lw_t1 (i := 19) rfl) rfl
theorem k_20 : (Jvm.Cond.initialized "CrossroadsCarts$Law") ∈ TB := tb_lw (lw_t1 (i := 20) rfl) rfl
theorem k_26 : (Jvm.Cond.methodLink "CrossroadsCarts" (3 : Nat) ({ cls := "java/lang/Object", name := "<init>", desc := "()V" } : Jvm.MethodName)) ∈ TB := tb_lw (lw_t1 (i := 26) rfl) rfl
theorem k_27 : (Jvm.Cond.instanceMethod ({ cls := "java/lang/Object", name := "<init>", desc := "()V" } : Jvm.MethodName)) ∈ TB := tb_lw (lw_t1 (i := 27) rfl) rfl
theorem k_28 : (Jvm.Cond.code ({ cls := "java/lang/Object", name := "<init>", desc := "()V" } : Jvm.MethodName) object_method_1_code (1 : Nat) (Option.none : Option Jvm.ClassFile.FieldType)) ∈ TB := tb_lw (lw_t1 (i := 28) rfl) rfl
theorem k_29 : (Jvm.Cond.classLink "CrossroadsCarts" (9 : Nat) "CrossroadsCarts$Country") ∈ TB := tb_lw (lw_t1 (i := 29) rfl) rfl
theorem k_30 : (Jvm.Cond.instantiable "CrossroadsCarts$Country" (13 : Nat)) ∈ TB := tb_lw (lw_t1 (i := 30) rfl) rfl
theorem k_31 : (Jvm.Cond.classLink "CrossroadsCarts" (11 : Nat) "CrossroadsCarts$Land") ∈ TB := tb_lw (lw_t1 (i := 31) rfl) rfl
theorem k_32 : (Jvm.Cond.instantiable "CrossroadsCarts$Land" (8 : Nat)) ∈ TB := tb_lw (lw_t1 (i := 32) rfl) rfl
theorem k_34 : (Jvm.Cond.instanceMethod ({ cls := "CrossroadsCarts$Land", name := "<init>", desc := "()V" } : Jvm.MethodName)) ∈ TB := tb_lw (lw_t1 (i := 34) rfl) rfl
theorem k_35 : (Jvm.Cond.code ({ cls := "CrossroadsCarts$Land", name := "<init>", desc := "()V" } : Jvm.MethodName) prog_5_method_1_code (1 : Nat) (Option.none : Option Jvm.ClassFile.FieldType)) ∈ TB := tb_lw (lw_t1 (i := 35) rfl) rfl
theorem k_36 : (Jvm.Cond.methodLink "CrossroadsCarts$Land" (3 : Nat) ({ cls := "java/lang/Object", name := "<init>", desc := "()V" } : Jvm.MethodName)) ∈ TB := tb_lw (lw_t1 (i := 36) rfl) rfl
theorem k_37 : (Jvm.Cond.fieldLink "CrossroadsCarts$Land" (9 : Nat) "CrossroadsCarts$Land" "likes" "[I") ∈ TB := tb_lw (lw_t1 (i := 37) rfl) rfl
theorem k_38 : (Jvm.Cond.fieldLink "CrossroadsCarts$Reader" (39 : Nat) "CrossroadsCarts$Land" "likes" "[I") ∈ TB := tb_lw (lw_t1 (i := 38) rfl) rfl
theorem k_39 : (Jvm.Cond.fieldLink "CrossroadsCarts$Country" (99 : Nat) "CrossroadsCarts$Land" "likes" "[I") ∈ TB := tb_lw (lw_t1 (i := 39) rfl) rfl
theorem k_40 : (Jvm.Cond.fieldLink "CrossroadsCarts" (272 : Nat) "CrossroadsCarts$Land" "likes" "[I") ∈ TB := tb_lw (lw_t1 (i := 40) rfl) rfl
theorem k_41 : (Jvm.Cond.fieldLink "CrossroadsCarts$Land" (15 : Nat) "CrossroadsCarts$Land" "nears" "[I") ∈ TB := tb_lw (lw_t1 (i := 41) rfl) rfl
theorem k_42 : (Jvm.Cond.fieldLink "CrossroadsCarts$Reader" (47 : Nat) "CrossroadsCarts$Land" "nears" "[I") ∈ TB := tb_lw (lw_t1 (i := 42) rfl) rfl
theorem k_43 : (Jvm.Cond.fieldLink "CrossroadsCarts$Country" (102 : Nat) "CrossroadsCarts$Land" "nears" "[I") ∈ TB := tb_lw (lw_t1 (i := 43) rfl) rfl
theorem k_44 : (Jvm.Cond.fieldLink "CrossroadsCarts$Land" (18 : Nat) "CrossroadsCarts$Land" "costs" "[I") ∈ TB := tb_lw (lw_t1 (i := 44) rfl) rfl
theorem k_45 : (Jvm.Cond.fieldLink "CrossroadsCarts$Reader" (50 : Nat) "CrossroadsCarts$Land" "costs" "[I") ∈ TB := tb_lw (lw_t1 (i := 45) rfl) rfl
theorem k_46 : (Jvm.Cond.fieldLink "CrossroadsCarts$Country" (67 : Nat) "CrossroadsCarts$Land" "costs" "[I") ∈ TB := tb_lw (lw_t1 (i := 46) rfl) rfl
theorem k_47 : (Jvm.Cond.fieldLink "CrossroadsCarts$Land" (32 : Nat) "CrossroadsCarts$Land" "mile" "I") ∈ TB := tb_lw (lw_t1 (i := 47) rfl) rfl
theorem k_48 : (Jvm.Cond.fieldLink "CrossroadsCarts$Reader" (60 : Nat) "CrossroadsCarts$Land" "mile" "I") ∈ TB := tb_lw (lw_t1 (i := 48) rfl) rfl
theorem k_49 : (Jvm.Cond.fieldLink "CrossroadsCarts$Country" (109 : Nat) "CrossroadsCarts$Land" "mile" "I") ∈ TB := tb_lw (lw_t1 (i := 49) rfl) rfl
theorem k_50 : (Jvm.Cond.fieldLink "CrossroadsCarts$Land" (36 : Nat) "CrossroadsCarts$Land" "dues" "I") ∈ TB := tb_lw (lw_t1 (i := 50) rfl) rfl
theorem k_51 : (Jvm.Cond.fieldLink "CrossroadsCarts$Reader" (69 : Nat) "CrossroadsCarts$Land" "dues" "I") ∈ TB := tb_lw (lw_t1 (i := 51) rfl) rfl
theorem k_52 : (Jvm.Cond.fieldLink "CrossroadsCarts$Country" (76 : Nat) "CrossroadsCarts$Land" "dues" "I") ∈ TB := tb_lw (lw_t1 (i := 52) rfl) rfl
theorem k_53 : (Jvm.Cond.fieldLink "CrossroadsCarts$Land" (39 : Nat) "CrossroadsCarts$Land" "pick" "I") ∈ TB := tb_lw (lw_t1 (i := 53) rfl) rfl
theorem k_54 : (Jvm.Cond.fieldLink "CrossroadsCarts$Reader" (74 : Nat) "CrossroadsCarts$Land" "pick" "I") ∈ TB := tb_lw (lw_t1 (i := 54) rfl) rfl
theorem k_55 : (Jvm.Cond.fieldLink "CrossroadsCarts$Country" (138 : Nat) "CrossroadsCarts$Land" "pick" "I") ∈ TB := tb_lw (lw_t1 (i := 55) rfl) rfl
theorem k_56 : (Jvm.Cond.fieldLink "CrossroadsCarts$Land" (23 : Nat) "CrossroadsCarts$Land" "program" "[I") ∈ TB := tb_lw (lw_t1 (i := 56) rfl) rfl
theorem k_57 : (Jvm.Cond.fieldLink "CrossroadsCarts$Land" (42 : Nat) "CrossroadsCarts$Land" "programLength" "I") ∈ TB := tb_lw (lw_t1 (i := 57) rfl) rfl
theorem k_58 : (Jvm.Cond.laysFinal "CrossroadsCarts$Land" "CrossroadsCarts$Land" "likes" "[I") ∈ TB := tb_lw (lw_t1 (i := 58) rfl) rfl
theorem k_60 : (Jvm.Cond.laysFinal "CrossroadsCarts$Land" "CrossroadsCarts$Land" "nears" "[I") ∈ TB := tb_lw (lw_t1 (i := 60) rfl) rfl
theorem k_62 : (Jvm.Cond.laysFinal "CrossroadsCarts$Land" "CrossroadsCarts$Land" "costs" "[I") ∈ TB := tb_lw (lw_t1 (i := 62) rfl) rfl
theorem k_64 : (Jvm.Cond.lays "CrossroadsCarts$Land" "CrossroadsCarts$Land" "mile" "I") ∈ TB := tb_lw (lw_t1 (i := 64) rfl) rfl
theorem k_66 : (Jvm.Cond.lays "CrossroadsCarts$Land" "CrossroadsCarts$Land" "dues" "I") ∈ TB := tb_lw (lw_t1 (i := 66) rfl) rfl
theorem k_68 : (Jvm.Cond.lays "CrossroadsCarts$Land" "CrossroadsCarts$Land" "pick" "I") ∈ TB := tb_lw (lw_t1 (i := 68) rfl) rfl
theorem k_70 : (Jvm.Cond.laysFinal "CrossroadsCarts$Land" "CrossroadsCarts$Land" "program" "[I") ∈ TB := tb_lw (lw_t1 (i := 70) rfl) rfl
theorem k_72 : (Jvm.Cond.lays "CrossroadsCarts$Land" "CrossroadsCarts$Land" "programLength" "I") ∈ TB := tb_lw (lw_t1 (i := 72) rfl) rfl
theorem k_75 : (Jvm.Cond.arrayClass Jvm.ClassFile.FieldType.int) ∈ TB := tb_lw (lw_t1 (i := 75) rfl) rfl
theorem k_76 : (Jvm.Cond.methodLink "CrossroadsCarts" (14 : Nat) ({ cls := "CrossroadsCarts$Country", name := "<init>", desc := "(LCrossroadsCarts$Land;)V" } : Jvm.MethodName)) ∈ TB := tb_lw (lw_t1 (i := 76) rfl) rfl
theorem k_77 : (Jvm.Cond.instanceMethod ({ cls := "CrossroadsCarts$Country", name := "<init>", desc := "(LCrossroadsCarts$Land;)V" } : Jvm.MethodName)) ∈ TB := tb_lw (lw_t1 (i := 77) rfl) rfl
theorem k_78 : (Jvm.Cond.code ({ cls := "CrossroadsCarts$Country", name := "<init>", desc := "(LCrossroadsCarts$Land;)V" } : Jvm.MethodName) prog_3_method_1_code (2 : Nat) (Option.none : Option Jvm.ClassFile.FieldType)) ∈ TB := tb_lw (lw_t1 (i := 78) rfl) rfl
theorem k_79 : (Jvm.Cond.methodLink "CrossroadsCarts$Country" (3 : Nat) ({ cls := "java/lang/Object", name := "<init>", desc := "()V" } : Jvm.MethodName)) ∈ TB := tb_lw (lw_t1 (i := 79) rfl) rfl
theorem k_80 : (Jvm.Cond.fieldLink "CrossroadsCarts" (23 : Nat) "CrossroadsCarts$Country" "land" "LCrossroadsCarts$Land;") ∈ TB := tb_lw (lw_t1 (i := 80) rfl) rfl
theorem k_81 : (Jvm.Cond.fieldLink "CrossroadsCarts$Country" (42 : Nat) "CrossroadsCarts$Country" "land" "LCrossroadsCarts$Land;") ∈ TB := tb_lw (lw_t1 (i := 81) rfl) rfl
theorem k_82 : (Jvm.Cond.fieldLink "CrossroadsCarts$Country" (46 : Nat) "CrossroadsCarts$Country" "towns" "I") ∈ TB := tb_lw (lw_t1 (i := 82) rfl) rfl
theorem k_83 : (Jvm.Cond.fieldLink "CrossroadsCarts" (88 : Nat) "CrossroadsCarts$Country" "towns" "I") ∈ TB := tb_lw (lw_t1 (i := 83) rfl) rfl
theorem k_84 : (Jvm.Cond.fieldLink "CrossroadsCarts$Walk" (29 : Nat) "CrossroadsCarts$Country" "towns" "I") ∈ TB := tb_lw (lw_t1 (i := 84) rfl) rfl
theorem k_85 : (Jvm.Cond.fieldLink "CrossroadsCarts$Rests" (57 : Nat) "CrossroadsCarts$Country" "towns" "I") ∈ TB := tb_lw (lw_t1 (i := 85) rfl) rfl
theorem k_86 : (Jvm.Cond.fieldLink "CrossroadsCarts$Deals" (18 : Nat) "CrossroadsCarts$Country" "families" "I") ∈ TB := tb_lw (lw_t1 (i := 86) rfl) rfl
theorem k_87 : (Jvm.Cond.fieldLink "CrossroadsCarts$Walk" (15 : Nat) "CrossroadsCarts$Country" "families" "I") ∈ TB := tb_lw (lw_t1 (i := 87) rfl) rfl
theorem k_88 : (Jvm.Cond.fieldLink "CrossroadsCarts$Country" (50 : Nat) "CrossroadsCarts$Country" "families" "I") ∈ TB := tb_lw (lw_t1 (i := 88) rfl) rfl
theorem k_89 : (Jvm.Cond.fieldLink "CrossroadsCarts" (103 : Nat) "CrossroadsCarts$Country" "families" "I") ∈ TB := tb_lw (lw_t1 (i := 89) rfl) rfl
theorem k_90 : (Jvm.Cond.fieldLink "CrossroadsCarts$Rests" (44 : Nat) "CrossroadsCarts$Country" "families" "I") ∈ TB := tb_lw (lw_t1 (i := 90) rfl) rfl
theorem k_91 : (Jvm.Cond.fieldLink "CrossroadsCarts$Country" (9 : Nat) "CrossroadsCarts$Country" "houses" "[I") ∈ TB := tb_lw (lw_t1 (i := 91) rfl) rfl
theorem k_92 : (Jvm.Cond.fieldLink "CrossroadsCarts" (92 : Nat) "CrossroadsCarts$Country" "houses" "[I") ∈ TB := tb_lw (lw_t1 (i := 92) rfl) rfl
theorem k_93 : (Jvm.Cond.fieldLink "CrossroadsCarts$Rests" (100 : Nat) "CrossroadsCarts$Country" "houses" "[I") ∈ TB := tb_lw (lw_t1 (i := 93) rfl) rfl
theorem k_94 : (Jvm.Cond.fieldLink "CrossroadsCarts$Country" (15 : Nat) "CrossroadsCarts$Country" "levels" "[I") ∈ TB := tb_lw (lw_t1 (i := 94) rfl) rfl
theorem k_95 : (Jvm.Cond.fieldLink "CrossroadsCarts" (110 : Nat) "CrossroadsCarts$Country" "levels" "[I") ∈ TB := tb_lw (lw_t1 (i := 95) rfl) rfl
theorem k_96 : (Jvm.Cond.fieldLink "CrossroadsCarts$Rests" (66 : Nat) "CrossroadsCarts$Country" "levels" "[I") ∈ TB := tb_lw (lw_t1 (i := 96) rfl) rfl
theorem k_97 : (Jvm.Cond.fieldLink "CrossroadsCarts$Country" (18 : Nat) "CrossroadsCarts$Country" "rents" "[I") ∈ TB := tb_lw (lw_t1 (i := 97) rfl) rfl
theorem k_98 : (Jvm.Cond.fieldLink "CrossroadsCarts$Law" (31 : Nat) "CrossroadsCarts$Country" "rents" "[I") ∈ TB := tb_lw (lw_t1 (i := 98) rfl) rfl
theorem k_99 : (Jvm.Cond.fieldLink "CrossroadsCarts" (120 : Nat) "CrossroadsCarts$Country" "rents" "[I") ∈ TB := tb_lw (lw_t1 (i := 99) rfl) rfl
theorem k_100 : (Jvm.Cond.fieldLink "CrossroadsCarts$Rests" (79 : Nat) "CrossroadsCarts$Country" "rents" "[I") ∈ TB := tb_lw (lw_t1 (i := 100) rfl) rfl
theorem k_101 : (Jvm.Cond.fieldLink "CrossroadsCarts$Country" (21 : Nat) "CrossroadsCarts$Country" "gates" "[I") ∈ TB := tb_lw (lw_t1 (i := 101) rfl) rfl
theorem k_102 : (Jvm.Cond.fieldLink "CrossroadsCarts$Law" (22 : Nat) "CrossroadsCarts$Country" "gates" "[I") ∈ TB := tb_lw (lw_t1 (i := 102) rfl) rfl
theorem k_103 : (Jvm.Cond.fieldLink "CrossroadsCarts" (117 : Nat) "CrossroadsCarts$Country" "gates" "[I") ∈ TB := tb_lw (lw_t1 (i := 103) rfl) rfl
theorem k_104 : (Jvm.Cond.fieldLink "CrossroadsCarts$Rests" (76 : Nat) "CrossroadsCarts$Country" "gates" "[I") ∈ TB := tb_lw (lw_t1 (i := 104) rfl) rfl
theorem k_105 : (Jvm.Cond.fieldLink "CrossroadsCarts$Country" (24 : Nat) "CrossroadsCarts$Country" "sums" "[I") ∈ TB := tb_lw (lw_t1 (i := 105) rfl) rfl
theorem k_106 : (Jvm.Cond.fieldLink "CrossroadsCarts$Law" (28 : Nat) "CrossroadsCarts$Country" "sums" "[I") ∈ TB := tb_lw (lw_t1 (i := 106) rfl) rfl
theorem k_107 : (Jvm.Cond.fieldLink "CrossroadsCarts" (123 : Nat) "CrossroadsCarts$Country" "sums" "[I") ∈ TB := tb_lw (lw_t1 (i := 107) rfl) rfl
theorem k_108 : (Jvm.Cond.fieldLink "CrossroadsCarts$Country" (27 : Nat) "CrossroadsCarts$Country" "sorts" "[I") ∈ TB := tb_lw (lw_t1 (i := 108) rfl) rfl
theorem k_109 : (Jvm.Cond.fieldLink "CrossroadsCarts$Deals" (30 : Nat) "CrossroadsCarts$Country" "sorts" "[I") ∈ TB := tb_lw (lw_t1 (i := 109) rfl) rfl
theorem k_110 : (Jvm.Cond.fieldLink "CrossroadsCarts" (134 : Nat) "CrossroadsCarts$Country" "sorts" "[I") ∈ TB := tb_lw (lw_t1 (i := 110) rfl) rfl
theorem k_111 : (Jvm.Cond.fieldLink "CrossroadsCarts$Country" (30 : Nat) "CrossroadsCarts$Country" "incomes" "[I") ∈ TB := tb_lw (lw_t1 (i := 111) rfl) rfl
theorem k_112 : (Jvm.Cond.fieldLink "CrossroadsCarts" (137 : Nat) "CrossroadsCarts$Country" "incomes" "[I") ∈ TB := tb_lw (lw_t1 (i := 112) rfl) rfl
theorem k_113 : (Jvm.Cond.fieldLink "CrossroadsCarts$Rests" (73 : Nat) "CrossroadsCarts$Country" "incomes" "[I") ∈ TB := tb_lw (lw_t1 (i := 113) rfl) rfl
theorem k_114 : (Jvm.Cond.fieldLink "CrossroadsCarts$Country" (33 : Nat) "CrossroadsCarts$Country" "at" "[I") ∈ TB := tb_lw (lw_t1 (i := 114) rfl) rfl
theorem k_115 : (Jvm.Cond.fieldLink "CrossroadsCarts$Walk" (25 : Nat) "CrossroadsCarts$Country" "at" "[I") ∈ TB := tb_lw (lw_t1 (i := 115) rfl) rfl
theorem k_116 : (Jvm.Cond.fieldLink "CrossroadsCarts$Rests" (50 : Nat) "CrossroadsCarts$Country" "at" "[I") ∈ TB := tb_lw (lw_t1 (i := 116) rfl) rfl
theorem k_117 : (Jvm.Cond.fieldLink "CrossroadsCarts$Deals" (41 : Nat) "CrossroadsCarts$Country" "at" "[I") ∈ TB := tb_lw (lw_t1 (i := 117) rfl) rfl
theorem k_118 : (Jvm.Cond.fieldLink "CrossroadsCarts" (131 : Nat) "CrossroadsCarts$Country" "at" "[I") ∈ TB := tb_lw (lw_t1 (i := 118) rfl) rfl
theorem k_119 : (Jvm.Cond.fieldLink "CrossroadsCarts$Country" (36 : Nat) "CrossroadsCarts$Country" "homes" "[I") ∈ TB := tb_lw (lw_t1 (i := 119) rfl) rfl
theorem k_120 : (Jvm.Cond.fieldLink "CrossroadsCarts" (140 : Nat) "CrossroadsCarts$Country" "homes" "[I") ∈ TB := tb_lw (lw_t1 (i := 120) rfl) rfl
theorem k_121 : (Jvm.Cond.fieldLink "CrossroadsCarts$Country" (39 : Nat) "CrossroadsCarts$Country" "wants" "[I") ∈ TB := tb_lw (lw_t1 (i := 121) rfl) rfl
theorem k_122 : (Jvm.Cond.lays "CrossroadsCarts$Country" "CrossroadsCarts$Country" "land" "LCrossroadsCarts$Land;") ∈ TB := tb_lw (lw_t1 (i := 122) rfl) rfl
theorem k_124 : (Jvm.Cond.lays "CrossroadsCarts$Country" "CrossroadsCarts$Country" "towns" "I") ∈ TB := tb_lw (lw_t1 (i := 124) rfl) rfl
theorem k_126 : (Jvm.Cond.lays "CrossroadsCarts$Country" "CrossroadsCarts$Country" "families" "I") ∈ TB := tb_lw (lw_t1 (i := 126) rfl) rfl
theorem k_128 : (Jvm.Cond.laysFinal "CrossroadsCarts$Country" "CrossroadsCarts$Country" "houses" "[I") ∈ TB := tb_lw (lw_t1 (i := 128) rfl) rfl
theorem k_130 : (Jvm.Cond.laysFinal "CrossroadsCarts$Country" "CrossroadsCarts$Country" "levels" "[I") ∈ TB := tb_lw (lw_t1 (i := 130) rfl) rfl
theorem k_132 : (Jvm.Cond.laysFinal "CrossroadsCarts$Country" "CrossroadsCarts$Country" "rents" "[I") ∈ TB := tb_lw (lw_t1 (i := 132) rfl) rfl
theorem k_134 : (Jvm.Cond.laysFinal "CrossroadsCarts$Country" "CrossroadsCarts$Country" "gates" "[I") ∈ TB := tb_lw (lw_t1 (i := 134) rfl) rfl
theorem k_136 : (Jvm.Cond.laysFinal "CrossroadsCarts$Country" "CrossroadsCarts$Country" "sums" "[I") ∈ TB := tb_lw (lw_t1 (i := 136) rfl) rfl
theorem k_138 : (Jvm.Cond.laysFinal "CrossroadsCarts$Country" "CrossroadsCarts$Country" "sorts" "[I") ∈ TB := tb_lw (lw_t1 (i := 138) rfl) rfl
theorem k_140 : (Jvm.Cond.laysFinal "CrossroadsCarts$Country" "CrossroadsCarts$Country" "incomes" "[I") ∈ TB := tb_lw (lw_t1 (i := 140) rfl) rfl
theorem k_142 : (Jvm.Cond.laysFinal "CrossroadsCarts$Country" "CrossroadsCarts$Country" "at" "[I") ∈ TB := tb_lw (lw_t1 (i := 142) rfl) rfl
theorem k_144 : (Jvm.Cond.laysFinal "CrossroadsCarts$Country" "CrossroadsCarts$Country" "homes" "[I") ∈ TB := tb_lw (lw_t1 (i := 144) rfl) rfl
theorem k_146 : (Jvm.Cond.laysFinal "CrossroadsCarts$Country" "CrossroadsCarts$Country" "wants" "[I") ∈ TB := tb_lw (lw_t1 (i := 146) rfl) rfl
theorem k_149 : (Jvm.Cond.classLink "CrossroadsCarts" (36 : Nat) "CrossroadsCarts$Reader") ∈ TB := tb_lw (lw_t1 (i := 149) rfl) rfl
theorem k_150 : (Jvm.Cond.instantiable "CrossroadsCarts$Reader" (3 : Nat)) ∈ TB := tb_lw (lw_t1 (i := 150) rfl) rfl
theorem k_152 : (Jvm.Cond.instanceMethod ({ cls := "CrossroadsCarts$Reader", name := "<init>", desc := "()V" } : Jvm.MethodName)) ∈ TB := tb_lw (lw_t1 (i := 152) rfl) rfl
theorem k_153 : (Jvm.Cond.code ({ cls := "CrossroadsCarts$Reader", name := "<init>", desc := "()V" } : Jvm.MethodName) prog_7_method_1_code (1 : Nat) (Option.none : Option Jvm.ClassFile.FieldType)) ∈ TB := tb_lw (lw_t1 (i := 153) rfl) rfl
theorem k_154 : (Jvm.Cond.methodLink "CrossroadsCarts$Reader" (3 : Nat) ({ cls := "java/lang/Object", name := "<init>", desc := "()V" } : Jvm.MethodName)) ∈ TB := tb_lw (lw_t1 (i := 154) rfl) rfl
theorem k_155 : (Jvm.Cond.fieldLink "CrossroadsCarts$Reader" (11 : Nat) "CrossroadsCarts$Reader" "text" "[C") ∈ TB := tb_lw (lw_t1 (i := 155) rfl) rfl
theorem k_156 : (Jvm.Cond.fieldLink "CrossroadsCarts$Reader" (15 : Nat) "CrossroadsCarts$Reader" "length" "I") ∈ TB := tb_lw (lw_t1 (i := 156) rfl) rfl
theorem k_157 : (Jvm.Cond.fieldLink "CrossroadsCarts" (157 : Nat) "CrossroadsCarts$Reader" "length" "I") ∈ TB := tb_lw (lw_t1 (i := 157) rfl) rfl
theorem k_158 : (Jvm.Cond.fieldLink "CrossroadsCarts$Reader" (24 : Nat) "CrossroadsCarts$Reader" "place" "I") ∈ TB := tb_lw (lw_t1 (i := 158) rfl) rfl
theorem k_159 : (Jvm.Cond.laysFinal "CrossroadsCarts$Reader" "CrossroadsCarts$Reader" "text" "[C") ∈ TB := tb_lw (lw_t1 (i := 159) rfl) rfl
theorem k_161 : (Jvm.Cond.lays "CrossroadsCarts$Reader" "CrossroadsCarts$Reader" "length" "I") ∈ TB := tb_lw (lw_t1 (i := 161) rfl) rfl
theorem k_163 : (Jvm.Cond.lays "CrossroadsCarts$Reader" "CrossroadsCarts$Reader" "place" "I") ∈ TB := tb_lw (lw_t1 (i := 163) rfl) rfl
theorem k_166 : (Jvm.Cond.arrayClass Jvm.ClassFile.FieldType.char) ∈ TB := tb_lw (lw_t1 (i := 166) rfl) rfl
theorem k_167 : (Jvm.Cond.classLink "CrossroadsCarts" (43 : Nat) "CrossroadsCarts$Rests") ∈ TB := tb_lw (lw_t1 (i := 167) rfl) rfl
theorem k_168 : (Jvm.Cond.instantiable "CrossroadsCarts$Rests" (3 : Nat)) ∈ TB := tb_lw (lw_t1 (i := 168) rfl) rfl
theorem k_170 : (Jvm.Cond.instanceMethod ({ cls := "CrossroadsCarts$Rests", name := "<init>", desc := "()V" } : Jvm.MethodName)) ∈ TB := tb_lw (lw_t1 (i := 170) rfl) rfl
theorem k_171 : (Jvm.Cond.code ({ cls := "CrossroadsCarts$Rests", name := "<init>", desc := "()V" } : Jvm.MethodName) prog_8_method_1_code (1 : Nat) (Option.none : Option Jvm.ClassFile.FieldType)) ∈ TB := tb_lw (lw_t1 (i := 171) rfl) rfl
theorem k_172 : (Jvm.Cond.methodLink "CrossroadsCarts$Rests" (3 : Nat) ({ cls := "java/lang/Object", name := "<init>", desc := "()V" } : Jvm.MethodName)) ∈ TB := tb_lw (lw_t1 (i := 172) rfl) rfl
theorem k_173 : (Jvm.Cond.fieldLink "CrossroadsCarts$Rests" (9 : Nat) "CrossroadsCarts$Rests" "keptLevels" "[I") ∈ TB := tb_lw (lw_t1 (i := 173) rfl) rfl
theorem k_174 : (Jvm.Cond.fieldLink "CrossroadsCarts$Rests" (15 : Nat) "CrossroadsCarts$Rests" "keptTowns" "[I") ∈ TB := tb_lw (lw_t1 (i := 174) rfl) rfl
theorem k_175 : (Jvm.Cond.fieldLink "CrossroadsCarts$Rests" (18 : Nat) "CrossroadsCarts$Rests" "worths" "[I") ∈ TB := tb_lw (lw_t1 (i := 175) rfl) rfl
theorem k_176 : (Jvm.Cond.laysFinal "CrossroadsCarts$Rests" "CrossroadsCarts$Rests" "keptLevels" "[I") ∈ TB := tb_lw (lw_t1 (i := 176) rfl) rfl
theorem k_178 : (Jvm.Cond.laysFinal "CrossroadsCarts$Rests" "CrossroadsCarts$Rests" "keptTowns" "[I") ∈ TB := tb_lw (lw_t1 (i := 178) rfl) rfl
theorem k_180 : (Jvm.Cond.laysFinal "CrossroadsCarts$Rests" "CrossroadsCarts$Rests" "worths" "[I") ∈ TB := tb_lw (lw_t1 (i := 180) rfl) rfl
theorem k_183 : (Jvm.Cond.classLink "CrossroadsCarts" (50 : Nat) "CrossroadsCarts$Walk") ∈ TB := tb_lw (lw_t1 (i := 183) rfl) rfl
theorem k_184 : (Jvm.Cond.instantiable "CrossroadsCarts$Walk" (1 : Nat)) ∈ TB := tb_lw (lw_t1 (i := 184) rfl) rfl
theorem k_186 : (Jvm.Cond.instanceMethod ({ cls := "CrossroadsCarts$Walk", name := "<init>", desc := "()V" } : Jvm.MethodName)) ∈ TB := tb_lw (lw_t1 (i := 186) rfl) rfl
theorem k_187 : (Jvm.Cond.code ({ cls := "CrossroadsCarts$Walk", name := "<init>", desc := "()V" } : Jvm.MethodName) prog_10_method_1_code (1 : Nat) (Option.none : Option Jvm.ClassFile.FieldType)) ∈ TB := tb_lw (lw_t1 (i := 187) rfl) rfl
theorem k_188 : (Jvm.Cond.methodLink "CrossroadsCarts$Walk" (3 : Nat) ({ cls := "java/lang/Object", name := "<init>", desc := "()V" } : Jvm.MethodName)) ∈ TB := tb_lw (lw_t1 (i := 188) rfl) rfl
theorem k_189 : (Jvm.Cond.fieldLink "CrossroadsCarts$Walk" (11 : Nat) "CrossroadsCarts$Walk" "imprints" "[J") ∈ TB := tb_lw (lw_t1 (i := 189) rfl) rfl
theorem k_190 : (Jvm.Cond.laysFinal "CrossroadsCarts$Walk" "CrossroadsCarts$Walk" "imprints" "[J") ∈ TB := tb_lw (lw_t1 (i := 190) rfl) rfl
theorem k_193 : (Jvm.Cond.arrayClass Jvm.ClassFile.FieldType.long) ∈ TB := tb_lw (lw_t1 (i := 193) rfl) rfl
theorem k_194 : (Jvm.Cond.classLink "CrossroadsCarts" (57 : Nat) "CrossroadsCarts$Deals") ∈ TB := tb_lw (lw_t1 (i := 194) rfl) rfl
theorem k_195 : (Jvm.Cond.instantiable "CrossroadsCarts$Deals" (2 : Nat)) ∈ TB := tb_lw (lw_t1 (i := 195) rfl) rfl
theorem k_197 : (Jvm.Cond.instanceMethod ({ cls := "CrossroadsCarts$Deals", name := "<init>", desc := "()V" } : Jvm.MethodName)) ∈ TB := tb_lw (lw_t1 (i := 197) rfl) rfl
theorem k_198 : (Jvm.Cond.code ({ cls := "CrossroadsCarts$Deals", name := "<init>", desc := "()V" } : Jvm.MethodName) prog_4_method_1_code (1 : Nat) (Option.none : Option Jvm.ClassFile.FieldType)) ∈ TB := tb_lw (lw_t1 (i := 198) rfl) rfl
theorem k_199 : (Jvm.Cond.methodLink "CrossroadsCarts$Deals" (3 : Nat) ({ cls := "java/lang/Object", name := "<init>", desc := "()V" } : Jvm.MethodName)) ∈ TB := tb_lw (lw_t1 (i := 199) rfl) rfl
theorem k_200 : (Jvm.Cond.fieldLink "CrossroadsCarts$Deals" (9 : Nat) "CrossroadsCarts$Deals" "left" "[I") ∈ TB := tb_lw (lw_t1 (i := 200) rfl) rfl
theorem k_201 : (Jvm.Cond.fieldLink "CrossroadsCarts$Deals" (15 : Nat) "CrossroadsCarts$Deals" "dealt" "[I") ∈ TB := tb_lw (lw_t1 (i := 201) rfl) rfl
theorem k_202 : (Jvm.Cond.laysFinal "CrossroadsCarts$Deals" "CrossroadsCarts$Deals" "left" "[I") ∈ TB := tb_lw (lw_t1 (i := 202) rfl) rfl
theorem k_204 : (Jvm.Cond.laysFinal "CrossroadsCarts$Deals" "CrossroadsCarts$Deals" "dealt" "[I") ∈ TB := tb_lw (lw_t1 (i := 204) rfl) rfl
theorem k_207 : (Jvm.Cond.classLink "CrossroadsCarts" (64 : Nat) "CrossroadsCarts$Acts") ∈ TB := tb_lw (lw_t1 (i := 207) rfl) rfl
theorem k_208 : (Jvm.Cond.instantiable "CrossroadsCarts$Acts" (5 : Nat)) ∈ TB := tb_lw (lw_t1 (i := 208) rfl) rfl
theorem k_210 : (Jvm.Cond.instanceMethod ({ cls := "CrossroadsCarts$Acts", name := "<init>", desc := "()V" } : Jvm.MethodName)) ∈ TB := tb_lw (lw_t1 (i := 210) rfl) rfl
theorem k_211 : (Jvm.Cond.code ({ cls := "CrossroadsCarts$Acts", name := "<init>", desc := "()V" } : Jvm.MethodName) prog_2_method_1_code (1 : Nat) (Option.none : Option Jvm.ClassFile.FieldType)) ∈ TB := tb_lw (lw_t1 (i := 211) rfl) rfl
theorem k_212 : (Jvm.Cond.methodLink "CrossroadsCarts$Acts" (3 : Nat) ({ cls := "java/lang/Object", name := "<init>", desc := "()V" } : Jvm.MethodName)) ∈ TB := tb_lw (lw_t1 (i := 212) rfl) rfl
theorem k_213 : (Jvm.Cond.fieldLink "CrossroadsCarts$Acts" (11 : Nat) "CrossroadsCarts$Acts" "kept" "[I") ∈ TB := tb_lw (lw_t1 (i := 213) rfl) rfl
theorem k_214 : (Jvm.Cond.fieldLink "CrossroadsCarts" (299 : Nat) "CrossroadsCarts$Acts" "kept" "[I") ∈ TB := tb_lw (lw_t1 (i := 214) rfl) rfl
theorem k_215 : (Jvm.Cond.fieldLink "CrossroadsCarts$Acts" (15 : Nat) "CrossroadsCarts$Acts" "ran" "I") ∈ TB := tb_lw (lw_t1 (i := 215) rfl) rfl
theorem k_216 : (Jvm.Cond.fieldLink "CrossroadsCarts" (296 : Nat) "CrossroadsCarts$Acts" "ran" "I") ∈ TB := tb_lw (lw_t1 (i := 216) rfl) rfl
theorem k_217 : (Jvm.Cond.fieldLink "CrossroadsCarts$Acts" (25 : Nat) "CrossroadsCarts$Acts" "kind" "I") ∈ TB := tb_lw (lw_t1 (i := 217) rfl) rfl
theorem k_218 : (Jvm.Cond.fieldLink "CrossroadsCarts$Acts" (19 : Nat) "CrossroadsCarts$Acts" "families" "I") ∈ TB := tb_lw (lw_t1 (i := 218) rfl) rfl
theorem k_219 : (Jvm.Cond.fieldLink "CrossroadsCarts$Acts" (22 : Nat) "CrossroadsCarts$Acts" "towns" "I") ∈ TB := tb_lw (lw_t1 (i := 219) rfl) rfl
theorem k_220 : (Jvm.Cond.laysFinal "CrossroadsCarts$Acts" "CrossroadsCarts$Acts" "kept" "[I") ∈ TB := tb_lw (lw_t1 (i := 220) rfl) rfl
theorem k_222 : (Jvm.Cond.lays "CrossroadsCarts$Acts" "CrossroadsCarts$Acts" "ran" "I") ∈ TB := tb_lw (lw_t1 (i := 222) rfl) rfl
theorem k_224 : (Jvm.Cond.lays "CrossroadsCarts$Acts" "CrossroadsCarts$Acts" "kind" "I") ∈ TB := tb_lw (lw_t1 (i := 224) rfl) rfl
theorem k_226 : (Jvm.Cond.lays "CrossroadsCarts$Acts" "CrossroadsCarts$Acts" "families" "I") ∈ TB := tb_lw (lw_t1 (i := 226) rfl) rfl
theorem k_228 : (Jvm.Cond.lays "CrossroadsCarts$Acts" "CrossroadsCarts$Acts" "towns" "I") ∈ TB := tb_lw (lw_t1 (i := 228) rfl) rfl
theorem k_231 : (Jvm.Cond.classLink "CrossroadsCarts" (71 : Nat) "CrossroadsCarts$Law") ∈ TB := tb_lw (lw_t1 (i := 231) rfl) rfl
theorem k_233 : (Jvm.Cond.classLink "CrossroadsCarts" (77 : Nat) "CrossroadsCarts$Tape") ∈ TB := tb_lw (lw_t1 (i := 233) rfl) rfl
theorem k_235 : (Jvm.Cond.instantiable "CrossroadsCarts$Tape" (3 : Nat)) ∈ TB := tb_lw (lw_t1 (i := 235) rfl) rfl
theorem k_237 : (Jvm.Cond.instanceMethod ({ cls := "CrossroadsCarts$Tape", name := "<init>", desc := "()V" } : Jvm.MethodName)) ∈ TB := tb_lw (lw_t1 (i := 237) rfl) rfl
theorem k_238 : (Jvm.Cond.code ({ cls := "CrossroadsCarts$Tape", name := "<init>", desc := "()V" } : Jvm.MethodName) prog_9_method_1_code (1 : Nat) (Option.none : Option Jvm.ClassFile.FieldType)) ∈ TB := tb_lw (lw_t1 (i := 238) rfl) rfl
theorem k_239 : (Jvm.Cond.methodLink "CrossroadsCarts$Tape" (1 : Nat) ({ cls := "java/lang/Object", name := "<init>", desc := "()V" } : Jvm.MethodName)) ∈ TB := tb_lw (lw_t1 (i := 239) rfl) rfl
theorem k_240 : (Jvm.Cond.fieldLink "CrossroadsCarts$Tape" (9 : Nat) "CrossroadsCarts$Tape" "items" "[J") ∈ TB := tb_lw (lw_t2 (i := 0) rfl) rfl
theorem k_241 : (Jvm.Cond.fieldLink "CrossroadsCarts" (307 : Nat) "CrossroadsCarts$Tape" "items" "[J") ∈ TB := tb_lw (lw_t2 (i := 1) rfl) rfl
theorem k_242 : (Jvm.Cond.fieldLink "CrossroadsCarts$Tape" (13 : Nat) "CrossroadsCarts$Tape" "sort" "I") ∈ TB := tb_lw (lw_t2 (i := 2) rfl) rfl
theorem k_243 : (Jvm.Cond.fieldLink "CrossroadsCarts" (202 : Nat) "CrossroadsCarts$Tape" "sort" "I") ∈ TB := tb_lw (lw_t2 (i := 3) rfl) rfl
theorem k_244 : (Jvm.Cond.fieldLink "CrossroadsCarts$Tape" (17 : Nat) "CrossroadsCarts$Tape" "length" "I") ∈ TB := tb_lw (lw_t2 (i := 4) rfl) rfl
theorem k_245 : (Jvm.Cond.laysFinal "CrossroadsCarts$Tape" "CrossroadsCarts$Tape" "items" "[J") ∈ TB := tb_lw (lw_t2 (i := 5) rfl) rfl
theorem k_247 : (Jvm.Cond.lays "CrossroadsCarts$Tape" "CrossroadsCarts$Tape" "sort" "I") ∈ TB := tb_lw (lw_t2 (i := 7) rfl) rfl
theorem k_249 : (Jvm.Cond.lays "CrossroadsCarts$Tape" "CrossroadsCarts$Tape" "length" "I") ∈ TB := tb_lw (lw_t2 (i := 9) rfl) rfl
theorem k_252 : (Jvm.Cond.fieldLink "CrossroadsCarts" (17 : Nat) "CrossroadsCarts" "now" "LCrossroadsCarts$Country;") ∈ TB := tb_lw (lw_t2 (i := 12) rfl) rfl
theorem k_253 : (Jvm.Cond.fieldLink "CrossroadsCarts" (27 : Nat) "CrossroadsCarts" "trial" "LCrossroadsCarts$Country;") ∈ TB := tb_lw (lw_t2 (i := 13) rfl) rfl
theorem k_254 : (Jvm.Cond.fieldLink "CrossroadsCarts" (30 : Nat) "CrossroadsCarts" "rival" "LCrossroadsCarts$Country;") ∈ TB := tb_lw (lw_t2 (i := 14) rfl) rfl
theorem k_255 : (Jvm.Cond.fieldLink "CrossroadsCarts" (33 : Nat) "CrossroadsCarts" "draft" "LCrossroadsCarts$Land;") ∈ TB := tb_lw (lw_t2 (i := 15) rfl) rfl
theorem k_256 : (Jvm.Cond.fieldLink "CrossroadsCarts" (39 : Nat) "CrossroadsCarts" "reader" "LCrossroadsCarts$Reader;") ∈ TB := tb_lw (lw_t2 (i := 16) rfl) rfl
theorem k_257 : (Jvm.Cond.fieldLink "CrossroadsCarts" (46 : Nat) "CrossroadsCarts" "rests" "LCrossroadsCarts$Rests;") ∈ TB := tb_lw (lw_t2 (i := 17) rfl) rfl
theorem k_258 : (Jvm.Cond.fieldLink "CrossroadsCarts" (53 : Nat) "CrossroadsCarts" "walk" "LCrossroadsCarts$Walk;") ∈ TB := tb_lw (lw_t2 (i := 18) rfl) rfl
theorem k_259 : (Jvm.Cond.fieldLink "CrossroadsCarts" (60 : Nat) "CrossroadsCarts" "deals" "LCrossroadsCarts$Deals;") ∈ TB := tb_lw (lw_t2 (i := 19) rfl) rfl
theorem k_260 : (Jvm.Cond.fieldLink "CrossroadsCarts" (67 : Nat) "CrossroadsCarts" "acts" "LCrossroadsCarts$Acts;") ∈ TB := tb_lw (lw_t2 (i := 20) rfl) rfl
theorem k_261 : (Jvm.Cond.fieldLink "CrossroadsCarts" (73 : Nat) "CrossroadsCarts" "laws" "[LCrossroadsCarts$Law;") ∈ TB := tb_lw (lw_t2 (i := 21) rfl) rfl
theorem k_262 : (Jvm.Cond.fieldLink "CrossroadsCarts" (79 : Nat) "CrossroadsCarts" "tapes" "[LCrossroadsCarts$Tape;") ∈ TB := tb_lw (lw_t2 (i := 22) rfl) rfl
theorem k_263 : (Jvm.Cond.fieldLink "CrossroadsCarts" (253 : Nat) "CrossroadsCarts" "lawCount" "I") ∈ TB := tb_lw (lw_t2 (i := 23) rfl) rfl
theorem k_264 : (Jvm.Cond.fieldLink "CrossroadsCarts" (168 : Nat) "CrossroadsCarts" "landCount" "I") ∈ TB := tb_lw (lw_t2 (i := 24) rfl) rfl
theorem k_265 : (Jvm.Cond.fieldLink "CrossroadsCarts" (275 : Nat) "CrossroadsCarts" "years" "I") ∈ TB := tb_lw (lw_t2 (i := 25) rfl) rfl
theorem k_266 : (Jvm.Cond.laysFinal "CrossroadsCarts" "CrossroadsCarts" "now" "LCrossroadsCarts$Country;") ∈ TB := tb_lw (lw_t2 (i := 26) rfl) rfl
theorem k_268 : (Jvm.Cond.laysFinal "CrossroadsCarts" "CrossroadsCarts" "trial" "LCrossroadsCarts$Country;") ∈ TB := tb_lw (lw_t2 (i := 28) rfl) rfl
theorem k_270 : (Jvm.Cond.laysFinal "CrossroadsCarts" "CrossroadsCarts" "rival" "LCrossroadsCarts$Country;") ∈ TB := tb_lw (lw_t2 (i := 30) rfl) rfl
theorem k_272 : (Jvm.Cond.lays "CrossroadsCarts" "CrossroadsCarts" "draft" "LCrossroadsCarts$Land;") ∈ TB := tb_lw (lw_t2 (i := 32) rfl) rfl
theorem k_274 : (Jvm.Cond.laysFinal "CrossroadsCarts" "CrossroadsCarts" "reader" "LCrossroadsCarts$Reader;") ∈ TB := tb_lw (lw_t2 (i := 34) rfl) rfl
theorem k_276 : (Jvm.Cond.laysFinal "CrossroadsCarts" "CrossroadsCarts" "rests" "LCrossroadsCarts$Rests;") ∈ TB := tb_lw (lw_t2 (i := 36) rfl) rfl
theorem k_278 : (Jvm.Cond.laysFinal "CrossroadsCarts" "CrossroadsCarts" "walk" "LCrossroadsCarts$Walk;") ∈ TB := tb_lw (lw_t2 (i := 38) rfl) rfl
theorem k_280 : (Jvm.Cond.laysFinal "CrossroadsCarts" "CrossroadsCarts" "deals" "LCrossroadsCarts$Deals;") ∈ TB := tb_lw (lw_t2 (i := 40) rfl) rfl
theorem k_282 : (Jvm.Cond.laysFinal "CrossroadsCarts" "CrossroadsCarts" "acts" "LCrossroadsCarts$Acts;") ∈ TB := tb_lw (lw_t2 (i := 42) rfl) rfl
theorem k_284 : (Jvm.Cond.laysFinal "CrossroadsCarts" "CrossroadsCarts" "laws" "[LCrossroadsCarts$Law;") ∈ TB := tb_lw (lw_t2 (i := 44) rfl) rfl
theorem k_286 : (Jvm.Cond.laysFinal "CrossroadsCarts" "CrossroadsCarts" "tapes" "[LCrossroadsCarts$Tape;") ∈ TB := tb_lw (lw_t2 (i := 46) rfl) rfl
theorem k_288 : (Jvm.Cond.lays "CrossroadsCarts" "CrossroadsCarts" "lawCount" "I") ∈ TB := tb_lw (lw_t2 (i := 48) rfl) rfl
theorem k_290 : (Jvm.Cond.lays "CrossroadsCarts" "CrossroadsCarts" "landCount" "I") ∈ TB := tb_lw (lw_t2 (i := 50) rfl) rfl
theorem k_292 : (Jvm.Cond.lays "CrossroadsCarts" "CrossroadsCarts" "years" "I") ∈ TB := tb_lw (lw_t2 (i := 52) rfl) rfl
theorem k_299 : (Jvm.Cond.methodLink "CrossroadsCarts" (84 : Nat) ({ cls := "CrossroadsCarts", name := "within", desc := "(III)Z" } : Jvm.MethodName)) ∈ TB := tb_lw (lw_t2 (i := 59) rfl) rfl
theorem k_300 : (Jvm.Cond.static ({ cls := "CrossroadsCarts", name := "within", desc := "(III)Z" } : Jvm.MethodName)) ∈ TB := tb_lw (lw_t2 (i := 60) rfl) rfl
theorem k_301 : (Jvm.Cond.code ({ cls := "CrossroadsCarts", name := "within", desc := "(III)Z" } : Jvm.MethodName) prog_1_method_35_code (3 : Nat) (Option.some Jvm.ClassFile.FieldType.boolean)) ∈ TB := tb_lw (lw_t2 (i := 61) rfl) rfl
theorem k_306 : (Jvm.Cond.methodLink "CrossroadsCarts" (96 : Nat) ({ cls := "CrossroadsCarts", name := "isTown", desc := "(I)Z" } : Jvm.MethodName)) ∈ TB := tb_lw (lw_t2 (i := 66) rfl) rfl
theorem k_308 : (Jvm.Cond.instanceMethod ({ cls := "CrossroadsCarts", name := "isTown", desc := "(I)Z" } : Jvm.MethodName)) ∈ TB := tb_lw (lw_t2 (i := 68) rfl) rfl
theorem k_309 : (Jvm.Cond.code ({ cls := "CrossroadsCarts", name := "isTown", desc := "(I)Z" } : Jvm.MethodName) prog_1_method_36_code (2 : Nat) (Option.some Jvm.ClassFile.FieldType.boolean)) ∈ TB := tb_lw (lw_t2 (i := 69) rfl) rfl
theorem k_310 : (Jvm.Cond.methodLink "CrossroadsCarts" (100 : Nat) ({ cls := "CrossroadsCarts$Country", name := "hasRoom", desc := "(I)Z" } : Jvm.MethodName)) ∈ TB := tb_lw (lw_t2 (i := 70) rfl) rfl
theorem k_311 : (Jvm.Cond.instanceMethod ({ cls := "CrossroadsCarts$Country", name := "hasRoom", desc := "(I)Z" } : Jvm.MethodName)) ∈ TB := tb_lw (lw_t2 (i := 71) rfl) rfl
theorem k_312 : (Jvm.Cond.selects "CrossroadsCarts$Country" ({ cls := "CrossroadsCarts$Country", name := "hasRoom", desc := "(I)Z" } : Jvm.MethodName) ({ cls := "CrossroadsCarts$Country", name := "hasRoom", desc := "(I)Z" } : Jvm.MethodName)) ∈ TB := tb_lw (lw_t2 (i := 72) rfl) rfl
theorem k_313 : (Jvm.Cond.code ({ cls := "CrossroadsCarts$Country", name := "hasRoom", desc := "(I)Z" } : Jvm.MethodName) prog_3_method_5_code (2 : Nat) (Option.some Jvm.ClassFile.FieldType.boolean)) ∈ TB := tb_lw (lw_t2 (i := 73) rfl) rfl
theorem k_314 : (Jvm.Cond.methodLink "CrossroadsCarts$Country" (59 : Nat) ({ cls := "CrossroadsCarts$Country", name := "crowd", desc := "(I)I" } : Jvm.MethodName)) ∈ TB := tb_lw (lw_t2 (i := 74) rfl) rfl
theorem k_315 : (Jvm.Cond.instanceMethod ({ cls := "CrossroadsCarts$Country", name := "crowd", desc := "(I)I" } : Jvm.MethodName)) ∈ TB := tb_lw (lw_t2 (i := 75) rfl) rfl
theorem k_316 : (Jvm.Cond.selects "CrossroadsCarts$Country" ({ cls := "CrossroadsCarts$Country", name := "crowd", desc := "(I)I" } : Jvm.MethodName) ({ cls := "CrossroadsCarts$Country", name := "crowd", desc := "(I)I" } : Jvm.MethodName)) ∈ TB := tb_lw (lw_t2 (i := 76) rfl) rfl
theorem k_317 : (Jvm.Cond.code ({ cls := "CrossroadsCarts$Country", name := "crowd", desc := "(I)I" } : Jvm.MethodName) prog_3_method_4_code (4 : Nat) (Option.some Jvm.ClassFile.FieldType.int)) ∈ TB := tb_lw (lw_t2 (i := 77) rfl) rfl
theorem k_318 : (Jvm.Cond.methodLink "CrossroadsCarts" (106 : Nat) ({ cls := "CrossroadsCarts$Country", name := "join", desc := "(III)I" } : Jvm.MethodName)) ∈ TB := tb_lw (lw_t2 (i := 78) rfl) rfl
theorem k_319 : (Jvm.Cond.instanceMethod ({ cls := "CrossroadsCarts$Country", name := "join", desc := "(III)I" } : Jvm.MethodName)) ∈ TB := tb_lw (lw_t2 (i := 79) rfl) rfl
theorem k_320 : (Jvm.Cond.selects "CrossroadsCarts$Country" ({ cls := "CrossroadsCarts$Country", name := "join", desc := "(III)I" } : Jvm.MethodName) ({ cls := "CrossroadsCarts$Country", name := "join", desc := "(III)I" } : Jvm.MethodName)) ∈ TB := tb_lw (lw_t2 (i := 80) rfl) rfl
theorem k_321 : (Jvm.Cond.code ({ cls := "CrossroadsCarts$Country", name := "join", desc := "(III)I" } : Jvm.MethodName) prog_3_method_3_code (4 : Nat) (Option.some Jvm.ClassFile.FieldType.int)) ∈ TB := tb_lw (lw_t2 (i := 81) rfl) rfl
theorem k_326 : (Jvm.Cond.methodLink "CrossroadsCarts" (113 : Nat) ({ cls := "CrossroadsCarts", name := "replace", desc := "([III)I" } : Jvm.MethodName)) ∈ TB := tb_lw (lw_t2 (i := 86) rfl) rfl
theorem k_327 : (Jvm.Cond.static ({ cls := "CrossroadsCarts", name := "replace", desc := "([III)I" } : Jvm.MethodName)) ∈ TB := tb_lw (lw_t2 (i := 87) rfl) rfl
theorem k_328 : (Jvm.Cond.code ({ cls := "CrossroadsCarts", name := "replace", desc := "([III)I" } : Jvm.MethodName) prog_1_method_40_code (4 : Nat) (Option.some Jvm.ClassFile.FieldType.int)) ∈ TB := tb_lw (lw_t2 (i := 88) rfl) rfl
theorem k_333 : (Jvm.Cond.methodLink "CrossroadsCarts" (126 : Nat) ({ cls := "CrossroadsCarts", name := "isFamily", desc := "(I)Z" } : Jvm.MethodName)) ∈ TB := tb_lw (lw_t2 (i := 93) rfl) rfl
theorem k_335 : (Jvm.Cond.instanceMethod ({ cls := "CrossroadsCarts", name := "isFamily", desc := "(I)Z" } : Jvm.MethodName)) ∈ TB := tb_lw (lw_t2 (i := 95) rfl) rfl
theorem k_336 : (Jvm.Cond.code ({ cls := "CrossroadsCarts", name := "isFamily", desc := "(I)Z" } : Jvm.MethodName) prog_1_method_37_code (2 : Nat) (Option.some Jvm.ClassFile.FieldType.boolean)) ∈ TB := tb_lw (lw_t2 (i := 96) rfl) rfl
theorem k_337 : (Jvm.Cond.constantLong "CrossroadsCarts" (129 : Nat) (-9223372036854775808 : Int64)) ∈ TB := tb_lw (lw_t2 (i := 97) rfl) rfl
theorem k_338 : (Jvm.Cond.methodLink "CrossroadsCarts" (143 : Nat) ({ cls := "CrossroadsCarts$Country", name := "duesOf", desc := "(II)I" } : Jvm.MethodName)) ∈ TB := tb_lw (lw_t2 (i := 98) rfl) rfl
theorem k_339 : (Jvm.Cond.instanceMethod ({ cls := "CrossroadsCarts$Country", name := "duesOf", desc := "(II)I" } : Jvm.MethodName)) ∈ TB := tb_lw (lw_t2 (i := 99) rfl) rfl
theorem k_340 : (Jvm.Cond.selects "CrossroadsCarts$Country" ({ cls := "CrossroadsCarts$Country", name := "duesOf", desc := "(II)I" } : Jvm.MethodName) ({ cls := "CrossroadsCarts$Country", name := "duesOf", desc := "(II)I" } : Jvm.MethodName)) ∈ TB := tb_lw (lw_t2 (i := 100) rfl) rfl
theorem k_341 : (Jvm.Cond.code ({ cls := "CrossroadsCarts$Country", name := "duesOf", desc := "(II)I" } : Jvm.MethodName) prog_3_method_14_code (4 : Nat) (Option.some Jvm.ClassFile.FieldType.int)) ∈ TB := tb_lw (lw_t2 (i := 101) rfl) rfl
theorem k_342 : (Jvm.Cond.methodLink "CrossroadsCarts$Country" (83 : Nat) ({ cls := "CrossroadsCarts$Country", name := "greatestIncome", desc := "(II)I" } : Jvm.MethodName)) ∈ TB := tb_lw (lw_t2 (i := 102) rfl) rfl
theorem k_344 : (Jvm.Cond.instanceMethod ({ cls := "CrossroadsCarts$Country", name := "greatestIncome", desc := "(II)I" } : Jvm.MethodName)) ∈ TB := tb_lw (lw_t2 (i := 104) rfl) rfl
theorem k_345 : (Jvm.Cond.code ({ cls := "CrossroadsCarts$Country", name := "greatestIncome", desc := "(II)I" } : Jvm.MethodName) prog_3_method_10_code (5 : Nat) (Option.some Jvm.ClassFile.FieldType.int)) ∈ TB := tb_lw (lw_t2 (i := 105) rfl) rfl
theorem k_346 : (Jvm.Cond.methodLink "CrossroadsCarts$Country" (72 : Nat) ({ cls := "CrossroadsCarts$Country", name := "isAsIfIn", desc := "(III)Z" } : Jvm.MethodName)) ∈ TB := tb_lw (lw_t2 (i := 106) rfl) rfl
theorem k_348 : (Jvm.Cond.instanceMethod ({ cls := "CrossroadsCarts$Country", name := "isAsIfIn", desc := "(III)Z" } : Jvm.MethodName)) ∈ TB := tb_lw (lw_t2 (i := 108) rfl) rfl
theorem k_349 : (Jvm.Cond.code ({ cls := "CrossroadsCarts$Country", name := "isAsIfIn", desc := "(III)Z" } : Jvm.MethodName) prog_3_method_9_code (4 : Nat) (Option.some Jvm.ClassFile.FieldType.boolean)) ∈ TB := tb_lw (lw_t2 (i := 109) rfl) rfl
theorem k_350 : (Jvm.Cond.methodLink "CrossroadsCarts$Country" (86 : Nat) ({ cls := "CrossroadsCarts$Country", name := "costOf", desc := "(I)I" } : Jvm.MethodName)) ∈ TB := tb_lw (lw_t2 (i := 110) rfl) rfl
theorem k_351 : (Jvm.Cond.instanceMethod ({ cls := "CrossroadsCarts$Country", name := "costOf", desc := "(I)I" } : Jvm.MethodName)) ∈ TB := tb_lw (lw_t2 (i := 111) rfl) rfl
theorem k_352 : (Jvm.Cond.selects "CrossroadsCarts$Country" ({ cls := "CrossroadsCarts$Country", name := "costOf", desc := "(I)I" } : Jvm.MethodName) ({ cls := "CrossroadsCarts$Country", name := "costOf", desc := "(I)I" } : Jvm.MethodName)) ∈ TB := tb_lw (lw_t2 (i := 112) rfl) rfl
theorem k_353 : (Jvm.Cond.code ({ cls := "CrossroadsCarts$Country", name := "costOf", desc := "(I)I" } : Jvm.MethodName) prog_3_method_8_code (4 : Nat) (Option.some Jvm.ClassFile.FieldType.int)) ∈ TB := tb_lw (lw_t2 (i := 113) rfl) rfl
theorem k_354 : (Jvm.Cond.methodLink "CrossroadsCarts$Country" (79 : Nat) ({ cls := "CrossroadsCarts$Country", name := "share", desc := "(II)I" } : Jvm.MethodName)) ∈ TB := tb_lw (lw_t2 (i := 114) rfl) rfl
theorem k_356 : (Jvm.Cond.instanceMethod ({ cls := "CrossroadsCarts$Country", name := "share", desc := "(II)I" } : Jvm.MethodName)) ∈ TB := tb_lw (lw_t2 (i := 116) rfl) rfl
theorem k_357 : (Jvm.Cond.code ({ cls := "CrossroadsCarts$Country", name := "share", desc := "(II)I" } : Jvm.MethodName) prog_3_method_11_code (3 : Nat) (Option.some Jvm.ClassFile.FieldType.int)) ∈ TB := tb_lw (lw_t2 (i := 117) rfl) rfl
theorem k_358 : (Jvm.Cond.methodLink "CrossroadsCarts$Country" (89 : Nat) ({ cls := "CrossroadsCarts$Country", name := "sharesTogether", desc := "(III)I" } : Jvm.MethodName)) ∈ TB := tb_lw (lw_t2 (i := 118) rfl) rfl
theorem k_360 : (Jvm.Cond.instanceMethod ({ cls := "CrossroadsCarts$Country", name := "sharesTogether", desc := "(III)I" } : Jvm.MethodName)) ∈ TB := tb_lw (lw_t2 (i := 120) rfl) rfl
theorem k_361 : (Jvm.Cond.code ({ cls := "CrossroadsCarts$Country", name := "sharesTogether", desc := "(III)I" } : Jvm.MethodName) prog_3_method_12_code (6 : Nat) (Option.some Jvm.ClassFile.FieldType.int)) ∈ TB := tb_lw (lw_t2 (i := 121) rfl) rfl
theorem k_362 : (Jvm.Cond.methodLink "CrossroadsCarts$Country" (93 : Nat) ({ cls := "CrossroadsCarts$Country", name := "cutPart", desc := "(III)I" } : Jvm.MethodName)) ∈ TB := tb_lw (lw_t2 (i := 122) rfl) rfl
theorem k_363 : (Jvm.Cond.static ({ cls := "CrossroadsCarts$Country", name := "cutPart", desc := "(III)I" } : Jvm.MethodName)) ∈ TB := tb_lw (lw_t2 (i := 123) rfl) rfl
theorem k_364 : (Jvm.Cond.code ({ cls := "CrossroadsCarts$Country", name := "cutPart", desc := "(III)I" } : Jvm.MethodName) prog_3_method_13_code (3 : Nat) (Option.some Jvm.ClassFile.FieldType.int)) ∈ TB := tb_lw (lw_t2 (i := 124) rfl) rfl
theorem k_365 : (Jvm.Cond.methodLink "CrossroadsCarts" (147 : Nat) ({ cls := "CrossroadsCarts$Country", name := "worthOf", desc := "(II)I" } : Jvm.MethodName)) ∈ TB := tb_lw (lw_t2 (i := 125) rfl) rfl
theorem k_366 : (Jvm.Cond.instanceMethod ({ cls := "CrossroadsCarts$Country", name := "worthOf", desc := "(II)I" } : Jvm.MethodName)) ∈ TB := tb_lw (lw_t2 (i := 126) rfl) rfl
theorem k_367 : (Jvm.Cond.selects "CrossroadsCarts$Country" ({ cls := "CrossroadsCarts$Country", name := "worthOf", desc := "(II)I" } : Jvm.MethodName) ({ cls := "CrossroadsCarts$Country", name := "worthOf", desc := "(II)I" } : Jvm.MethodName)) ∈ TB := tb_lw (lw_t2 (i := 127) rfl) rfl
theorem k_368 : (Jvm.Cond.code ({ cls := "CrossroadsCarts$Country", name := "worthOf", desc := "(II)I" } : Jvm.MethodName) prog_3_method_15_code (6 : Nat) (Option.some Jvm.ClassFile.FieldType.int)) ∈ TB := tb_lw (lw_t2 (i := 128) rfl) rfl
theorem k_369 : (Jvm.Cond.methodLink "CrossroadsCarts$Country" (96 : Nat) ({ cls := "CrossroadsCarts$Country", name := "duesOf", desc := "(II)I" } : Jvm.MethodName)) ∈ TB := tb_lw (lw_t2 (i := 129) rfl) rfl
theorem k_370 : (Jvm.Cond.methodLink "CrossroadsCarts$Country" (105 : Nat) ({ cls := "CrossroadsCarts$Land", name := "shunned", desc := "(IIII)I" } : Jvm.MethodName)) ∈ TB := tb_lw (lw_t2 (i := 130) rfl) rfl
theorem k_371 : (Jvm.Cond.instanceMethod ({ cls := "CrossroadsCarts$Land", name := "shunned", desc := "(IIII)I" } : Jvm.MethodName)) ∈ TB := tb_lw (lw_t2 (i := 131) rfl) rfl
theorem k_372 : (Jvm.Cond.selects "CrossroadsCarts$Land" ({ cls := "CrossroadsCarts$Land", name := "shunned", desc := "(IIII)I" } : Jvm.MethodName) ({ cls := "CrossroadsCarts$Land", name := "shunned", desc := "(IIII)I" } : Jvm.MethodName)) ∈ TB := tb_lw (lw_t2 (i := 132) rfl) rfl
theorem k_373 : (Jvm.Cond.code ({ cls := "CrossroadsCarts$Land", name := "shunned", desc := "(IIII)I" } : Jvm.MethodName) prog_5_method_4_code (12 : Nat) (Option.some Jvm.ClassFile.FieldType.int)) ∈ TB := tb_lw (lw_t2 (i := 133) rfl) rfl
theorem k_374 : (Jvm.Cond.methodLink "CrossroadsCarts$Land" (45 : Nat) ({ cls := "CrossroadsCarts$Land", name := "holds", desc := "(III)Z" } : Jvm.MethodName)) ∈ TB := tb_lw (lw_t2 (i := 134) rfl) rfl
theorem k_375 : (Jvm.Cond.static ({ cls := "CrossroadsCarts$Land", name := "holds", desc := "(III)Z" } : Jvm.MethodName)) ∈ TB := tb_lw (lw_t2 (i := 135) rfl) rfl
theorem k_376 : (Jvm.Cond.code ({ cls := "CrossroadsCarts$Land", name := "holds", desc := "(III)Z" } : Jvm.MethodName) prog_5_method_5_code (3 : Nat) (Option.some Jvm.ClassFile.FieldType.boolean)) ∈ TB := tb_lw (lw_t2 (i := 136) rfl) rfl
theorem k_377 : (Jvm.Cond.methodLink "CrossroadsCarts$Country" (112 : Nat) ({ cls := "java/lang/Math", name := "abs", desc := "(I)I" } : Jvm.MethodName)) ∈ TB := tb_lw (lw_t2 (i := 137) rfl) rfl
theorem k_378 : (Jvm.Cond.static ({ cls := "java/lang/Math", name := "abs", desc := "(I)I" } : Jvm.MethodName)) ∈ TB := tb_lw (lw_t2 (i := 138) rfl) rfl
theorem k_379 : (Jvm.Cond.code ({ cls := "java/lang/Math", name := "abs", desc := "(I)I" } : Jvm.MethodName) prog_15_method_59_code (1 : Nat) (Option.some Jvm.ClassFile.FieldType.int)) ∈ TB := tb_lw (lw_t2 (i := 139) rfl) rfl
theorem k_384 : (Jvm.Cond.methodLink "CrossroadsCarts" (150 : Nat) ({ cls := "CrossroadsCarts$Country", name := "crowd", desc := "(I)I" } : Jvm.MethodName)) ∈ TB := tb_lw (lw_t2 (i := 144) rfl) rfl
theorem k_385 : (Jvm.Cond.methodLink "CrossroadsCarts" (154 : Nat) ({ cls := "CrossroadsCarts$Country", name := "costOf", desc := "(I)I" } : Jvm.MethodName)) ∈ TB := tb_lw (lw_t2 (i := 145) rfl) rfl
theorem k_390 : (Jvm.Cond.methodLink "CrossroadsCarts" (160 : Nat) ({ cls := "CrossroadsCarts$Reader", name := "append", desc := "(C)V" } : Jvm.MethodName)) ∈ TB := tb_lw (lw_t2 (i := 150) rfl) rfl
theorem k_391 : (Jvm.Cond.instanceMethod ({ cls := "CrossroadsCarts$Reader", name := "append", desc := "(C)V" } : Jvm.MethodName)) ∈ TB := tb_lw (lw_t2 (i := 151) rfl) rfl
theorem k_392 : (Jvm.Cond.selects "CrossroadsCarts$Reader" ({ cls := "CrossroadsCarts$Reader", name := "append", desc := "(C)V" } : Jvm.MethodName) ({ cls := "CrossroadsCarts$Reader", name := "append", desc := "(C)V" } : Jvm.MethodName)) ∈ TB := tb_lw (lw_t2 (i := 152) rfl) rfl
theorem k_393 : (Jvm.Cond.code ({ cls := "CrossroadsCarts$Reader", name := "append", desc := "(C)V" } : Jvm.MethodName) prog_7_method_2_code (2 : Nat) (Option.none : Option Jvm.ClassFile.FieldType)) ∈ TB := tb_lw (lw_t2 (i := 153) rfl) rfl
theorem k_398 : (Jvm.Cond.methodLink "CrossroadsCarts" (164 : Nat) ({ cls := "CrossroadsCarts$Reader", name := "faultIn", desc := "(LCrossroadsCarts$Land;)I" } : Jvm.MethodName)) ∈ TB := tb_lw (lw_t2 (i := 158) rfl) rfl
theorem k_399 : (Jvm.Cond.instanceMethod ({ cls := "CrossroadsCarts$Reader", name := "faultIn", desc := "(LCrossroadsCarts$Land;)I" } : Jvm.MethodName)) ∈ TB := tb_lw (lw_t2 (i := 159) rfl) rfl
theorem k_400 : (Jvm.Cond.selects "CrossroadsCarts$Reader" ({ cls := "CrossroadsCarts$Reader", name := "faultIn", desc := "(LCrossroadsCarts$Land;)I" } : Jvm.MethodName) ({ cls := "CrossroadsCarts$Reader", name := "faultIn", desc := "(LCrossroadsCarts$Land;)I" } : Jvm.MethodName)) ∈ TB := tb_lw (lw_t2 (i := 160) rfl) rfl
theorem k_401 : (Jvm.Cond.code ({ cls := "CrossroadsCarts$Reader", name := "faultIn", desc := "(LCrossroadsCarts$Land;)I" } : Jvm.MethodName) prog_7_method_3_code (3 : Nat) (Option.some Jvm.ClassFile.FieldType.int)) ∈ TB := tb_lw (lw_t2 (i := 161) rfl) rfl
theorem k_402 : (Jvm.Cond.methodLink "CrossroadsCarts$Reader" (19 : Nat) ({ cls := "CrossroadsCarts$Land", name := "forget", desc := "()V" } : Jvm.MethodName)) ∈ TB := tb_lw (lw_t2 (i := 162) rfl) rfl
theorem k_403 : (Jvm.Cond.instanceMethod ({ cls := "CrossroadsCarts$Land", name := "forget", desc := "()V" } : Jvm.MethodName)) ∈ TB := tb_lw (lw_t2 (i := 163) rfl) rfl
theorem k_404 : (Jvm.Cond.selects "CrossroadsCarts$Land" ({ cls := "CrossroadsCarts$Land", name := "forget", desc := "()V" } : Jvm.MethodName) ({ cls := "CrossroadsCarts$Land", name := "forget", desc := "()V" } : Jvm.MethodName)) ∈ TB := tb_lw (lw_t2 (i := 164) rfl) rfl
theorem k_405 : (Jvm.Cond.code ({ cls := "CrossroadsCarts$Land", name := "forget", desc := "()V" } : Jvm.MethodName) prog_5_method_2_code (1 : Nat) (Option.none : Option Jvm.ClassFile.FieldType)) ∈ TB := tb_lw (lw_t2 (i := 165) rfl) rfl
theorem k_406 : (Jvm.Cond.methodLink "CrossroadsCarts$Land" (26 : Nat) ({ cls := "java/util/Arrays", name := "fill", desc := "([II)V" } : Jvm.MethodName)) ∈ TB := tb_lw (lw_t2 (i := 166) rfl) rfl
theorem k_407 : (Jvm.Cond.static ({ cls := "java/util/Arrays", name := "fill", desc := "([II)V" } : Jvm.MethodName)) ∈ TB := tb_lw (lw_t2 (i := 167) rfl) rfl
theorem k_408 : (Jvm.Cond.code ({ cls := "java/util/Arrays", name := "fill", desc := "([II)V" } : Jvm.MethodName) prog_20_method_103_code (4 : Nat) (Option.none : Option Jvm.ClassFile.FieldType)) ∈ TB := tb_lw (lw_t2 (i := 168) rfl) rfl
theorem k_409 : (Jvm.Cond.methodLink "CrossroadsCarts$Reader" (27 : Nat) ({ cls := "CrossroadsCarts$Reader", name := "clause", desc := "(LCrossroadsCarts$Land;)Z" } : Jvm.MethodName)) ∈ TB := tb_lw (lw_t2 (i := 169) rfl) rfl
theorem k_411 : (Jvm.Cond.instanceMethod ({ cls := "CrossroadsCarts$Reader", name := "clause", desc := "(LCrossroadsCarts$Land;)Z" } : Jvm.MethodName)) ∈ TB := tb_lw (lw_t2 (i := 171) rfl) rfl
theorem k_412 : (Jvm.Cond.code ({ cls := "CrossroadsCarts$Reader", name := "clause", desc := "(LCrossroadsCarts$Land;)Z" } : Jvm.MethodName) prog_7_method_4_code (3 : Nat) (Option.some Jvm.ClassFile.FieldType.boolean)) ∈ TB := tb_lw (lw_t2 (i := 172) rfl) rfl
theorem k_413 : (Jvm.Cond.methodLink "CrossroadsCarts$Reader" (35 : Nat) ({ cls := "CrossroadsCarts$Reader", name := "word", desc := "()I" } : Jvm.MethodName)) ∈ TB := tb_lw (lw_t2 (i := 173) rfl) rfl
theorem k_415 : (Jvm.Cond.instanceMethod ({ cls := "CrossroadsCarts$Reader", name := "word", desc := "()I" } : Jvm.MethodName)) ∈ TB := tb_lw (lw_t2 (i := 175) rfl) rfl
theorem k_416 : (Jvm.Cond.code ({ cls := "CrossroadsCarts$Reader", name := "word", desc := "()I" } : Jvm.MethodName) prog_7_method_5_code (3 : Nat) (Option.some Jvm.ClassFile.FieldType.int)) ∈ TB := tb_lw (lw_t2 (i := 176) rfl) rfl
theorem k_418 : (Jvm.Cond.methodLink "CrossroadsCarts$Reader" (86 : Nat) ({ cls := "java/lang/String", name := "length", desc := "()I" } : Jvm.MethodName)) ∈ TB := tb_lw (lw_t2 (i := 178) rfl) rfl
theorem k_419 : (Jvm.Cond.instanceMethod ({ cls := "java/lang/String", name := "length", desc := "()I" } : Jvm.MethodName)) ∈ TB := tb_lw (lw_t2 (i := 179) rfl) rfl
theorem k_420 : (Jvm.Cond.selects "java/lang/String" ({ cls := "java/lang/String", name := "length", desc := "()I" } : Jvm.MethodName) ({ cls := "java/lang/String", name := "length", desc := "()I" } : Jvm.MethodName)) ∈ TB := tb_lw (lw_t2 (i := 180) rfl) rfl
theorem k_421 : (Jvm.Cond.code ({ cls := "java/lang/String", name := "length", desc := "()I" } : Jvm.MethodName) prog_16_method_54_code (1 : Nat) (Option.some Jvm.ClassFile.FieldType.int)) ∈ TB := tb_lw (lw_t2 (i := 181) rfl) rfl
theorem k_422 : (Jvm.Cond.methodLink "java/lang/String" (335 : Nat) ({ cls := "java/lang/String", name := "coder", desc := "()B" } : Jvm.MethodName)) ∈ TB := tb_lw (lw_t2 (i := 182) rfl) rfl
theorem k_423 : (Jvm.Cond.instanceMethod ({ cls := "java/lang/String", name := "coder", desc := "()B" } : Jvm.MethodName)) ∈ TB := tb_lw (lw_t2 (i := 183) rfl) rfl
theorem k_424 : (Jvm.Cond.selects "java/lang/String" ({ cls := "java/lang/String", name := "coder", desc := "()B" } : Jvm.MethodName) ({ cls := "java/lang/String", name := "coder", desc := "()B" } : Jvm.MethodName)) ∈ TB := tb_lw (lw_t2 (i := 184) rfl) rfl
theorem k_425 : (Jvm.Cond.code ({ cls := "java/lang/String", name := "coder", desc := "()B" } : Jvm.MethodName) prog_16_method_152_code (1 : Nat) (Option.some Jvm.ClassFile.FieldType.byte)) ∈ TB := tb_lw (lw_t2 (i := 185) rfl) rfl
theorem k_426 : (Jvm.Cond.fieldLink "java/lang/String" (38 : Nat) "java/lang/String" "COMPACT_STRINGS" "Z") ∈ TB := tb_lw (lw_t2 (i := 186) rfl) rfl
theorem k_428 : (Jvm.Cond.methodLink "CrossroadsCarts$Reader" (90 : Nat) ({ cls := "java/lang/String", name := "charAt", desc := "(I)C" } : Jvm.MethodName)) ∈ TB := tb_lw (lw_t2 (i := 188) rfl) rfl
theorem k_429 : (Jvm.Cond.instanceMethod ({ cls := "java/lang/String", name := "charAt", desc := "(I)C" } : Jvm.MethodName)) ∈ TB := tb_lw (lw_t2 (i := 189) rfl) rfl
theorem k_430 : (Jvm.Cond.selects "java/lang/String" ({ cls := "java/lang/String", name := "charAt", desc := "(I)C" } : Jvm.MethodName) ({ cls := "java/lang/String", name := "charAt", desc := "(I)C" } : Jvm.MethodName)) ∈ TB := tb_lw (lw_t2 (i := 190) rfl) rfl
theorem k_431 : (Jvm.Cond.code ({ cls := "java/lang/String", name := "charAt", desc := "(I)C" } : Jvm.MethodName) prog_16_method_56_code (2 : Nat) (Option.some Jvm.ClassFile.FieldType.char)) ∈ TB := tb_lw (lw_t2 (i := 191) rfl) rfl
theorem k_432 : (Jvm.Cond.methodLink "java/lang/String" (492 : Nat) ({ cls := "java/lang/String", name := "isLatin1", desc := "()Z" } : Jvm.MethodName)) ∈ TB := tb_lw (lw_t2 (i := 192) rfl) rfl
theorem k_433 : (Jvm.Cond.instanceMethod ({ cls := "java/lang/String", name := "isLatin1", desc := "()Z" } : Jvm.MethodName)) ∈ TB := tb_lw (lw_t2 (i := 193) rfl) rfl
theorem k_434 : (Jvm.Cond.selects "java/lang/String" ({ cls := "java/lang/String", name := "isLatin1", desc := "()Z" } : Jvm.MethodName) ({ cls := "java/lang/String", name := "isLatin1", desc := "()Z" } : Jvm.MethodName)) ∈ TB := tb_lw (lw_t2 (i := 194) rfl) rfl
theorem k_435 : (Jvm.Cond.code ({ cls := "java/lang/String", name := "isLatin1", desc := "()Z" } : Jvm.MethodName) prog_16_method_154_code (1 : Nat) (Option.some Jvm.ClassFile.FieldType.boolean)) ∈ TB := tb_lw (lw_t2 (i := 195) rfl) rfl
theorem k_436 : (Jvm.Cond.methodLink "java/lang/String" (495 : Nat) ({ cls := "java/lang/StringLatin1", name := "charAt", desc := "([BI)C" } : Jvm.MethodName)) ∈ TB := tb_lw (lw_t2 (i := 196) rfl) rfl
theorem k_437 : (Jvm.Cond.static ({ cls := "java/lang/StringLatin1", name := "charAt", desc := "([BI)C" } : Jvm.MethodName)) ∈ TB := tb_lw (lw_t2 (i := 197) rfl) rfl
theorem k_438 : (Jvm.Cond.code ({ cls := "java/lang/StringLatin1", name := "charAt", desc := "([BI)C" } : Jvm.MethodName) prog_17_method_2_code (2 : Nat) (Option.some Jvm.ClassFile.FieldType.char)) ∈ TB := tb_lw (lw_t2 (i := 198) rfl) rfl
theorem k_439 : (Jvm.Cond.methodLink "java/lang/StringLatin1" (9 : Nat) ({ cls := "java/lang/String", name := "checkIndex", desc := "(II)V" } : Jvm.MethodName)) ∈ TB := tb_lw (lw_t2 (i := 199) rfl) rfl
theorem k_440 : (Jvm.Cond.static ({ cls := "java/lang/String", name := "checkIndex", desc := "(II)V" } : Jvm.MethodName)) ∈ TB := tb_lw (lw_t2 (i := 200) rfl) rfl
theorem k_441 : (Jvm.Cond.code ({ cls := "java/lang/String", name := "checkIndex", desc := "(II)V" } : Jvm.MethodName) prog_16_method_155_code (2 : Nat) (Option.none : Option Jvm.ClassFile.FieldType)) ∈ TB := tb_lw (lw_t2 (i := 201) rfl) rfl
theorem k_442 : (Jvm.Cond.fieldLink "java/lang/String" (1053 : Nat) "jdk/internal/util/Preconditions" "SIOOBE_FORMATTER" "Ljava/util/function/BiFunction;") ∈ TB := tb_lw (lw_t2 (i := 202) rfl) rfl
theorem k_444 : (Jvm.Cond.methodLink "java/lang/String" (1059 : Nat) ({ cls := "jdk/internal/util/Preconditions", name := "checkIndex", desc := "(IILjava/util/function/BiFunction;)I" } : Jvm.MethodName)) ∈ TB := tb_lw (lw_t2 (i := 204) rfl) rfl
theorem k_445 : (Jvm.Cond.static ({ cls := "jdk/internal/util/Preconditions", name := "checkIndex", desc := "(IILjava/util/function/BiFunction;)I" } : Jvm.MethodName)) ∈ TB := tb_lw (lw_t2 (i := 205) rfl) rfl
theorem k_446 : (Jvm.Cond.code ({ cls := "jdk/internal/util/Preconditions", name := "checkIndex", desc := "(IILjava/util/function/BiFunction;)I" } : Jvm.MethodName) prog_21_method_11_code (3 : Nat) (Option.some Jvm.ClassFile.FieldType.int)) ∈ TB := tb_lw (lw_t2 (i := 206) rfl) rfl
theorem k_466 : (Jvm.Cond.methodLink "CrossroadsCarts$Reader" (31 : Nat) ({ cls := "CrossroadsCarts$Reader", name := "met", desc := "(C)Z" } : Jvm.MethodName)) ∈ TB := tb_lw (lw_t2 (i := 226) rfl) rfl
theorem k_468 : (Jvm.Cond.instanceMethod ({ cls := "CrossroadsCarts$Reader", name := "met", desc := "(C)Z" } : Jvm.MethodName)) ∈ TB := tb_lw (lw_t2 (i := 228) rfl) rfl
theorem k_469 : (Jvm.Cond.code ({ cls := "CrossroadsCarts$Reader", name := "met", desc := "(C)Z" } : Jvm.MethodName) prog_7_method_12_code (2 : Nat) (Option.some Jvm.ClassFile.FieldType.boolean)) ∈ TB := tb_lw (lw_t2 (i := 229) rfl) rfl
theorem k_470 : (Jvm.Cond.methodLink "CrossroadsCarts$Reader" (43 : Nat) ({ cls := "CrossroadsCarts$Reader", name := "pair", desc := "([II)Z" } : Jvm.MethodName)) ∈ TB := tb_lw (lw_t2 (i := 230) rfl) rfl
theorem k_472 : (Jvm.Cond.instanceMethod ({ cls := "CrossroadsCarts$Reader", name := "pair", desc := "([II)Z" } : Jvm.MethodName)) ∈ TB := tb_lw (lw_t2 (i := 232) rfl) rfl
theorem k_473 : (Jvm.Cond.code ({ cls := "CrossroadsCarts$Reader", name := "pair", desc := "([II)Z" } : Jvm.MethodName) prog_7_method_6_code (6 : Nat) (Option.some Jvm.ClassFile.FieldType.boolean)) ∈ TB := tb_lw (lw_t2 (i := 233) rfl) rfl
theorem k_474 : (Jvm.Cond.methodLink "CrossroadsCarts$Reader" (94 : Nat) ({ cls := "CrossroadsCarts$Reader", name := "figure", desc := "(I)I" } : Jvm.MethodName)) ∈ TB := tb_lw (lw_t2 (i := 234) rfl) rfl
theorem k_476 : (Jvm.Cond.instanceMethod ({ cls := "CrossroadsCarts$Reader", name := "figure", desc := "(I)I" } : Jvm.MethodName)) ∈ TB := tb_lw (lw_t2 (i := 236) rfl) rfl
theorem k_477 : (Jvm.Cond.code ({ cls := "CrossroadsCarts$Reader", name := "figure", desc := "(I)I" } : Jvm.MethodName) prog_7_method_14_code (2 : Nat) (Option.some Jvm.ClassFile.FieldType.int)) ∈ TB := tb_lw (lw_t2 (i := 237) rfl) rfl
theorem k_478 : (Jvm.Cond.methodLink "CrossroadsCarts$Reader" (57 : Nat) ({ cls := "CrossroadsCarts$Reader", name := "number", desc := "()I" } : Jvm.MethodName)) ∈ TB := tb_lw (lw_t2 (i := 238) rfl) rfl
theorem k_480 : (Jvm.Cond.instanceMethod ({ cls := "CrossroadsCarts$Reader", name := "number", desc := "()I" } : Jvm.MethodName)) ∈ TB := tb_lw (lw_t3 (i := 0) rfl) rfl
theorem k_481 : (Jvm.Cond.code ({ cls := "CrossroadsCarts$Reader", name := "number", desc := "()I" } : Jvm.MethodName) prog_7_method_15_code (3 : Nat) (Option.some Jvm.ClassFile.FieldType.int)) ∈ TB := tb_lw (lw_t3 (i := 1) rfl) rfl
theorem k_482 : (Jvm.Cond.methodLink "CrossroadsCarts$Reader" (53 : Nat) ({ cls := "CrossroadsCarts$Reader", name := "single", desc := "([I)Z" } : Jvm.MethodName)) ∈ TB := tb_lw (lw_t3 (i := 2) rfl) rfl
theorem k_484 : (Jvm.Cond.instanceMethod ({ cls := "CrossroadsCarts$Reader", name := "single", desc := "([I)Z" } : Jvm.MethodName)) ∈ TB := tb_lw (lw_t3 (i := 4) rfl) rfl
theorem k_485 : (Jvm.Cond.code ({ cls := "CrossroadsCarts$Reader", name := "single", desc := "([I)Z" } : Jvm.MethodName) prog_7_method_7_code (4 : Nat) (Option.some Jvm.ClassFile.FieldType.boolean)) ∈ TB := tb_lw (lw_t3 (i := 5) rfl) rfl
theorem k_487 : (Jvm.Cond.methodLink "CrossroadsCarts$Reader" (65 : Nat) ({ cls := "CrossroadsCarts$Reader", name := "letter", desc := "(Ljava/lang/String;)I" } : Jvm.MethodName)) ∈ TB := tb_lw (lw_t3 (i := 7) rfl) rfl
theorem k_489 : (Jvm.Cond.instanceMethod ({ cls := "CrossroadsCarts$Reader", name := "letter", desc := "(Ljava/lang/String;)I" } : Jvm.MethodName)) ∈ TB := tb_lw (lw_t3 (i := 9) rfl) rfl
theorem k_490 : (Jvm.Cond.code ({ cls := "CrossroadsCarts$Reader", name := "letter", desc := "(Ljava/lang/String;)I" } : Jvm.MethodName) prog_7_method_13_code (3 : Nat) (Option.some Jvm.ClassFile.FieldType.int)) ∈ TB := tb_lw (lw_t3 (i := 10) rfl) rfl
theorem k_491 : (Jvm.Cond.methodLink "CrossroadsCarts$Reader" (112 : Nat) ({ cls := "java/lang/String", name := "indexOf", desc := "(I)I" } : Jvm.MethodName)) ∈ TB := tb_lw (lw_t3 (i := 11) rfl) rfl
theorem k_492 : (Jvm.Cond.instanceMethod ({ cls := "java/lang/String", name := "indexOf", desc := "(I)I" } : Jvm.MethodName)) ∈ TB := tb_lw (lw_t3 (i := 12) rfl) rfl
theorem k_493 : (Jvm.Cond.selects "java/lang/String" ({ cls := "java/lang/String", name := "indexOf", desc := "(I)I" } : Jvm.MethodName) ({ cls := "java/lang/String", name := "indexOf", desc := "(I)I" } : Jvm.MethodName)) ∈ TB := tb_lw (lw_t3 (i := 13) rfl) rfl
theorem k_494 : (Jvm.Cond.code ({ cls := "java/lang/String", name := "indexOf", desc := "(I)I" } : Jvm.MethodName) prog_16_method_79_code (2 : Nat) (Option.some Jvm.ClassFile.FieldType.int)) ∈ TB := tb_lw (lw_t3 (i := 14) rfl) rfl
theorem k_495 : (Jvm.Cond.methodLink "java/lang/String" (633 : Nat) ({ cls := "java/lang/String", name := "indexOf", desc := "(II)I" } : Jvm.MethodName)) ∈ TB := tb_lw (lw_t3 (i := 15) rfl) rfl
theorem k_496 : (Jvm.Cond.instanceMethod ({ cls := "java/lang/String", name := "indexOf", desc := "(II)I" } : Jvm.MethodName)) ∈ TB := tb_lw (lw_t3 (i := 16) rfl) rfl
theorem k_497 : (Jvm.Cond.selects "java/lang/String" ({ cls := "java/lang/String", name := "indexOf", desc := "(II)I" } : Jvm.MethodName) ({ cls := "java/lang/String", name := "indexOf", desc := "(II)I" } : Jvm.MethodName)) ∈ TB := tb_lw (lw_t3 (i := 17) rfl) rfl
theorem k_498 : (Jvm.Cond.code ({ cls := "java/lang/String", name := "indexOf", desc := "(II)I" } : Jvm.MethodName) prog_16_method_80_code (3 : Nat) (Option.some Jvm.ClassFile.FieldType.int)) ∈ TB := tb_lw (lw_t3 (i := 18) rfl) rfl
theorem k_499 : (Jvm.Cond.methodLink "java/lang/String" (505 : Nat) ({ cls := "java/lang/String", name := "length", desc := "()I" } : Jvm.MethodName)) ∈ TB := tb_lw (lw_t3 (i := 19) rfl) rfl
theorem k_500 : (Jvm.Cond.methodLink "java/lang/String" (637 : Nat) ({ cls := "java/lang/StringLatin1", name := "indexOf", desc := "([BIII)I" } : Jvm.MethodName)) ∈ TB := tb_lw (lw_t3 (i := 20) rfl) rfl
theorem k_501 : (Jvm.Cond.static ({ cls := "java/lang/StringLatin1", name := "indexOf", desc := "([BIII)I" } : Jvm.MethodName)) ∈ TB := tb_lw (lw_t3 (i := 21) rfl) rfl
theorem k_502 : (Jvm.Cond.code ({ cls := "java/lang/StringLatin1", name := "indexOf", desc := "([BIII)I" } : Jvm.MethodName) prog_17_method_22_code (4 : Nat) (Option.some Jvm.ClassFile.FieldType.int)) ∈ TB := tb_lw (lw_t3 (i := 22) rfl) rfl
theorem k_503 : (Jvm.Cond.methodLink "java/lang/StringLatin1" (88 : Nat) ({ cls := "java/lang/StringLatin1", name := "canEncode", desc := "(I)Z" } : Jvm.MethodName)) ∈ TB := tb_lw (lw_t3 (i := 23) rfl) rfl
theorem k_504 : (Jvm.Cond.static ({ cls := "java/lang/StringLatin1", name := "canEncode", desc := "(I)Z" } : Jvm.MethodName)) ∈ TB := tb_lw (lw_t3 (i := 24) rfl) rfl
theorem k_505 : (Jvm.Cond.code ({ cls := "java/lang/StringLatin1", name := "canEncode", desc := "(I)Z" } : Jvm.MethodName) prog_17_method_4_code (1 : Nat) (Option.some Jvm.ClassFile.FieldType.boolean)) ∈ TB := tb_lw (lw_t3 (i := 25) rfl) rfl
theorem k_506 : (Jvm.Cond.methodLink "java/lang/StringLatin1" (92 : Nat) ({ cls := "java/lang/Math", name := "max", desc := "(II)I" } : Jvm.MethodName)) ∈ TB := tb_lw (lw_t3 (i := 26) rfl) rfl
theorem k_507 : (Jvm.Cond.static ({ cls := "java/lang/Math", name := "max", desc := "(II)I" } : Jvm.MethodName)) ∈ TB := tb_lw (lw_t3 (i := 27) rfl) rfl
theorem k_508 : (Jvm.Cond.code ({ cls := "java/lang/Math", name := "max", desc := "(II)I" } : Jvm.MethodName) prog_15_method_65_code (2 : Nat) (Option.some Jvm.ClassFile.FieldType.int)) ∈ TB := tb_lw (lw_t3 (i := 28) rfl) rfl
theorem k_509 : (Jvm.Cond.methodLink "java/lang/StringLatin1" (38 : Nat) ({ cls := "java/lang/Math", name := "min", desc := "(II)I" } : Jvm.MethodName)) ∈ TB := tb_lw (lw_t3 (i := 29) rfl) rfl
theorem k_510 : (Jvm.Cond.static ({ cls := "java/lang/Math", name := "min", desc := "(II)I" } : Jvm.MethodName)) ∈ TB := tb_lw (lw_t3 (i := 30) rfl) rfl
theorem k_511 : (Jvm.Cond.code ({ cls := "java/lang/Math", name := "min", desc := "(II)I" } : Jvm.MethodName) prog_15_method_69_code (2 : Nat) (Option.some Jvm.ClassFile.FieldType.int)) ∈ TB := tb_lw (lw_t3 (i := 31) rfl) rfl
theorem k_512 : (Jvm.Cond.methodLink "java/lang/StringLatin1" (95 : Nat) ({ cls := "java/lang/StringLatin1", name := "indexOfChar", desc := "([BIII)I" } : Jvm.MethodName)) ∈ TB := tb_lw (lw_t3 (i := 32) rfl) rfl
theorem k_513 : (Jvm.Cond.static ({ cls := "java/lang/StringLatin1", name := "indexOfChar", desc := "([BIII)I" } : Jvm.MethodName)) ∈ TB := tb_lw (lw_t3 (i := 33) rfl) rfl
theorem k_514 : (Jvm.Cond.code ({ cls := "java/lang/StringLatin1", name := "indexOfChar", desc := "([BIII)I" } : Jvm.MethodName) prog_17_method_23_code (6 : Nat) (Option.some Jvm.ClassFile.FieldType.int)) ∈ TB := tb_lw (lw_t3 (i := 34) rfl) rfl
theorem k_551 : (Jvm.Cond.methodLink "CrossroadsCarts$Reader" (77 : Nat) ({ cls := "CrossroadsCarts$Reader", name := "either", desc := "(LCrossroadsCarts$Land;I)Z" } : Jvm.MethodName)) ∈ TB := tb_lw (lw_t3 (i := 71) rfl) rfl
theorem k_553 : (Jvm.Cond.instanceMethod ({ cls := "CrossroadsCarts$Reader", name := "either", desc := "(LCrossroadsCarts$Land;I)Z" } : Jvm.MethodName)) ∈ TB := tb_lw (lw_t3 (i := 73) rfl) rfl
theorem k_554 : (Jvm.Cond.code ({ cls := "CrossroadsCarts$Reader", name := "either", desc := "(LCrossroadsCarts$Land;I)Z" } : Jvm.MethodName) prog_7_method_9_code (6 : Nat) (Option.some Jvm.ClassFile.FieldType.boolean)) ∈ TB := tb_lw (lw_t3 (i := 74) rfl) rfl
theorem k_555 : (Jvm.Cond.methodLink "CrossroadsCarts$Reader" (102 : Nat) ({ cls := "CrossroadsCarts$Reader", name := "factor", desc := "(LCrossroadsCarts$Land;I)Z" } : Jvm.MethodName)) ∈ TB := tb_lw (lw_t3 (i := 75) rfl) rfl
theorem k_557 : (Jvm.Cond.instanceMethod ({ cls := "CrossroadsCarts$Reader", name := "factor", desc := "(LCrossroadsCarts$Land;I)Z" } : Jvm.MethodName)) ∈ TB := tb_lw (lw_t3 (i := 77) rfl) rfl
theorem k_558 : (Jvm.Cond.code ({ cls := "CrossroadsCarts$Reader", name := "factor", desc := "(LCrossroadsCarts$Land;I)Z" } : Jvm.MethodName) prog_7_method_10_code (4 : Nat) (Option.some Jvm.ClassFile.FieldType.boolean)) ∈ TB := tb_lw (lw_t3 (i := 78) rfl) rfl
theorem k_559 : (Jvm.Cond.methodLink "CrossroadsCarts$Reader" (98 : Nat) ({ cls := "CrossroadsCarts$Land", name := "emit", desc := "(II)V" } : Jvm.MethodName)) ∈ TB := tb_lw (lw_t3 (i := 79) rfl) rfl
theorem k_560 : (Jvm.Cond.instanceMethod ({ cls := "CrossroadsCarts$Land", name := "emit", desc := "(II)V" } : Jvm.MethodName)) ∈ TB := tb_lw (lw_t3 (i := 80) rfl) rfl
theorem k_561 : (Jvm.Cond.selects "CrossroadsCarts$Land" ({ cls := "CrossroadsCarts$Land", name := "emit", desc := "(II)V" } : Jvm.MethodName) ({ cls := "CrossroadsCarts$Land", name := "emit", desc := "(II)V" } : Jvm.MethodName)) ∈ TB := tb_lw (lw_t3 (i := 81) rfl) rfl
theorem k_562 : (Jvm.Cond.code ({ cls := "CrossroadsCarts$Land", name := "emit", desc := "(II)V" } : Jvm.MethodName) prog_5_method_3_code (3 : Nat) (Option.none : Option Jvm.ClassFile.FieldType)) ∈ TB := tb_lw (lw_t3 (i := 82) rfl) rfl
theorem k_563 : (Jvm.Cond.methodLink "CrossroadsCarts$Reader" (105 : Nat) ({ cls := "CrossroadsCarts$Reader", name := "test", desc := "(LCrossroadsCarts$Land;)Z" } : Jvm.MethodName)) ∈ TB := tb_lw (lw_t3 (i := 83) rfl) rfl
theorem k_565 : (Jvm.Cond.instanceMethod ({ cls := "CrossroadsCarts$Reader", name := "test", desc := "(LCrossroadsCarts$Land;)Z" } : Jvm.MethodName)) ∈ TB := tb_lw (lw_t3 (i := 85) rfl) rfl
theorem k_566 : (Jvm.Cond.code ({ cls := "CrossroadsCarts$Reader", name := "test", desc := "(LCrossroadsCarts$Land;)Z" } : Jvm.MethodName) prog_7_method_11_code (5 : Nat) (Option.some Jvm.ClassFile.FieldType.boolean)) ∈ TB := tb_lw (lw_t3 (i := 86) rfl) rfl
theorem k_569 : (Jvm.Cond.methodLink "CrossroadsCarts$Reader" (81 : Nat) ({ cls := "CrossroadsCarts$Reader", name := "weight", desc := "(LCrossroadsCarts$Land;)Z" } : Jvm.MethodName)) ∈ TB := tb_lw (lw_t3 (i := 89) rfl) rfl
theorem k_571 : (Jvm.Cond.instanceMethod ({ cls := "CrossroadsCarts$Reader", name := "weight", desc := "(LCrossroadsCarts$Land;)Z" } : Jvm.MethodName)) ∈ TB := tb_lw (lw_t3 (i := 91) rfl) rfl
theorem k_572 : (Jvm.Cond.code ({ cls := "CrossroadsCarts$Reader", name := "weight", desc := "(LCrossroadsCarts$Land;)Z" } : Jvm.MethodName) prog_7_method_8_code (3 : Nat) (Option.some Jvm.ClassFile.FieldType.boolean)) ∈ TB := tb_lw (lw_t3 (i := 92) rfl) rfl
theorem k_582 : (Jvm.Cond.methodLink "CrossroadsCarts" (171 : Nat) ({ cls := "CrossroadsCarts$Country", name := "chosenLevel", desc := "(II)I" } : Jvm.MethodName)) ∈ TB := tb_lw (lw_t3 (i := 102) rfl) rfl
theorem k_583 : (Jvm.Cond.instanceMethod ({ cls := "CrossroadsCarts$Country", name := "chosenLevel", desc := "(II)I" } : Jvm.MethodName)) ∈ TB := tb_lw (lw_t3 (i := 103) rfl) rfl
theorem k_584 : (Jvm.Cond.selects "CrossroadsCarts$Country" ({ cls := "CrossroadsCarts$Country", name := "chosenLevel", desc := "(II)I" } : Jvm.MethodName) ({ cls := "CrossroadsCarts$Country", name := "chosenLevel", desc := "(II)I" } : Jvm.MethodName)) ∈ TB := tb_lw (lw_t3 (i := 104) rfl) rfl
theorem k_585 : (Jvm.Cond.code ({ cls := "CrossroadsCarts$Country", name := "chosenLevel", desc := "(II)I" } : Jvm.MethodName) prog_3_method_19_code (6 : Nat) (Option.some Jvm.ClassFile.FieldType.int)) ∈ TB := tb_lw (lw_t3 (i := 105) rfl) rfl
theorem k_586 : (Jvm.Cond.methodLink "CrossroadsCarts$Country" (132 : Nat) ({ cls := "java/util/Arrays", name := "fill", desc := "([II)V" } : Jvm.MethodName)) ∈ TB := tb_lw (lw_t3 (i := 106) rfl) rfl
theorem k_587 : (Jvm.Cond.methodLink "CrossroadsCarts$Country" (141 : Nat) ({ cls := "CrossroadsCarts$Country", name := "hasOldOnes", desc := "(I)Z" } : Jvm.MethodName)) ∈ TB := tb_lw (lw_t3 (i := 107) rfl) rfl
theorem k_589 : (Jvm.Cond.instanceMethod ({ cls := "CrossroadsCarts$Country", name := "hasOldOnes", desc := "(I)Z" } : Jvm.MethodName)) ∈ TB := tb_lw (lw_t3 (i := 109) rfl) rfl
theorem k_590 : (Jvm.Cond.code ({ cls := "CrossroadsCarts$Country", name := "hasOldOnes", desc := "(I)Z" } : Jvm.MethodName) prog_3_method_20_code (3 : Nat) (Option.some Jvm.ClassFile.FieldType.boolean)) ∈ TB := tb_lw (lw_t3 (i := 110) rfl) rfl
theorem k_591 : (Jvm.Cond.methodLink "CrossroadsCarts$Country" (144 : Nat) ({ cls := "CrossroadsCarts$Country", name := "wantedLevel", desc := "(III)I" } : Jvm.MethodName)) ∈ TB := tb_lw (lw_t3 (i := 111) rfl) rfl
theorem k_593 : (Jvm.Cond.instanceMethod ({ cls := "CrossroadsCarts$Country", name := "wantedLevel", desc := "(III)I" } : Jvm.MethodName)) ∈ TB := tb_lw (lw_t3 (i := 113) rfl) rfl
theorem k_594 : (Jvm.Cond.code ({ cls := "CrossroadsCarts$Country", name := "wantedLevel", desc := "(III)I" } : Jvm.MethodName) prog_3_method_21_code (14 : Nat) (Option.some Jvm.ClassFile.FieldType.int)) ∈ TB := tb_lw (lw_t3 (i := 114) rfl) rfl
theorem k_595 : (Jvm.Cond.constant "CrossroadsCarts$Country" (156 : Nat) (-2147483648 : Int32)) ∈ TB := tb_lw (lw_t3 (i := 115) rfl) rfl
theorem k_596 : (Jvm.Cond.methodLink "CrossroadsCarts$Country" (147 : Nat) ({ cls := "CrossroadsCarts$Country", name := "middleWant", desc := "(I)I" } : Jvm.MethodName)) ∈ TB := tb_lw (lw_t3 (i := 116) rfl) rfl
theorem k_598 : (Jvm.Cond.instanceMethod ({ cls := "CrossroadsCarts$Country", name := "middleWant", desc := "(I)I" } : Jvm.MethodName)) ∈ TB := tb_lw (lw_t3 (i := 118) rfl) rfl
theorem k_599 : (Jvm.Cond.code ({ cls := "CrossroadsCarts$Country", name := "middleWant", desc := "(I)I" } : Jvm.MethodName) prog_3_method_23_code (4 : Nat) (Option.some Jvm.ClassFile.FieldType.int)) ∈ TB := tb_lw (lw_t3 (i := 119) rfl) rfl
theorem k_600 : (Jvm.Cond.methodLink "CrossroadsCarts$Country" (150 : Nat) ({ cls := "CrossroadsCarts$Country", name := "commonestWant", desc := "()I" } : Jvm.MethodName)) ∈ TB := tb_lw (lw_t3 (i := 120) rfl) rfl
theorem k_602 : (Jvm.Cond.instanceMethod ({ cls := "CrossroadsCarts$Country", name := "commonestWant", desc := "()I" } : Jvm.MethodName)) ∈ TB := tb_lw (lw_t3 (i := 122) rfl) rfl
theorem k_603 : (Jvm.Cond.code ({ cls := "CrossroadsCarts$Country", name := "commonestWant", desc := "()I" } : Jvm.MethodName) prog_3_method_22_code (3 : Nat) (Option.some Jvm.ClassFile.FieldType.int)) ∈ TB := tb_lw (lw_t3 (i := 123) rfl) rfl
theorem k_608 : (Jvm.Cond.methodLink "CrossroadsCarts" (174 : Nat) ({ cls := "CrossroadsCarts$Country", name := "vote", desc := "(I)I" } : Jvm.MethodName)) ∈ TB := tb_lw (lw_t3 (i := 128) rfl) rfl
theorem k_609 : (Jvm.Cond.instanceMethod ({ cls := "CrossroadsCarts$Country", name := "vote", desc := "(I)I" } : Jvm.MethodName)) ∈ TB := tb_lw (lw_t3 (i := 129) rfl) rfl
theorem k_610 : (Jvm.Cond.selects "CrossroadsCarts$Country" ({ cls := "CrossroadsCarts$Country", name := "vote", desc := "(I)I" } : Jvm.MethodName) ({ cls := "CrossroadsCarts$Country", name := "vote", desc := "(I)I" } : Jvm.MethodName)) ∈ TB := tb_lw (lw_t3 (i := 130) rfl) rfl
theorem k_611 : (Jvm.Cond.code ({ cls := "CrossroadsCarts$Country", name := "vote", desc := "(I)I" } : Jvm.MethodName) prog_3_method_24_code (5 : Nat) (Option.some Jvm.ClassFile.FieldType.int)) ∈ TB := tb_lw (lw_t3 (i := 131) rfl) rfl
theorem k_612 : (Jvm.Cond.methodLink "CrossroadsCarts$Country" (157 : Nat) ({ cls := "CrossroadsCarts$Country", name := "chosenLevel", desc := "(II)I" } : Jvm.MethodName)) ∈ TB := tb_lw (lw_t3 (i := 132) rfl) rfl
theorem k_617 : (Jvm.Cond.methodLink "CrossroadsCarts" (177 : Nat) ({ cls := "CrossroadsCarts", name := "isRest", desc := "(I)Z" } : Jvm.MethodName)) ∈ TB := tb_lw (lw_t3 (i := 137) rfl) rfl
theorem k_618 : (Jvm.Cond.static ({ cls := "CrossroadsCarts", name := "isRest", desc := "(I)Z" } : Jvm.MethodName)) ∈ TB := tb_lw (lw_t3 (i := 138) rfl) rfl
theorem k_619 : (Jvm.Cond.code ({ cls := "CrossroadsCarts", name := "isRest", desc := "(I)Z" } : Jvm.MethodName) prog_1_method_39_code (1 : Nat) (Option.some Jvm.ClassFile.FieldType.boolean)) ∈ TB := tb_lw (lw_t3 (i := 139) rfl) rfl
theorem k_620 : (Jvm.Cond.methodLink "CrossroadsCarts" (180 : Nat) ({ cls := "CrossroadsCarts$Rests", name := "breach", desc := "(LCrossroadsCarts$Country;I)I" } : Jvm.MethodName)) ∈ TB := tb_lw (lw_t3 (i := 140) rfl) rfl
theorem k_621 : (Jvm.Cond.instanceMethod ({ cls := "CrossroadsCarts$Rests", name := "breach", desc := "(LCrossroadsCarts$Country;I)I" } : Jvm.MethodName)) ∈ TB := tb_lw (lw_t3 (i := 141) rfl) rfl
theorem k_622 : (Jvm.Cond.selects "CrossroadsCarts$Rests" ({ cls := "CrossroadsCarts$Rests", name := "breach", desc := "(LCrossroadsCarts$Country;I)I" } : Jvm.MethodName) ({ cls := "CrossroadsCarts$Rests", name := "breach", desc := "(LCrossroadsCarts$Country;I)I" } : Jvm.MethodName)) ∈ TB := tb_lw (lw_t3 (i := 142) rfl) rfl
theorem k_623 : (Jvm.Cond.code ({ cls := "CrossroadsCarts$Rests", name := "breach", desc := "(LCrossroadsCarts$Country;I)I" } : Jvm.MethodName) prog_8_method_3_code (4 : Nat) (Option.some Jvm.ClassFile.FieldType.int)) ∈ TB := tb_lw (lw_t3 (i := 143) rfl) rfl
theorem k_624 : (Jvm.Cond.methodLink "CrossroadsCarts$Rests" (24 : Nat) ({ cls := "CrossroadsCarts$Rests", name := "stay", desc := "(LCrossroadsCarts$Country;)I" } : Jvm.MethodName)) ∈ TB := tb_lw (lw_t3 (i := 144) rfl) rfl
theorem k_626 : (Jvm.Cond.instanceMethod ({ cls := "CrossroadsCarts$Rests", name := "stay", desc := "(LCrossroadsCarts$Country;)I" } : Jvm.MethodName)) ∈ TB := tb_lw (lw_t3 (i := 146) rfl) rfl
theorem k_627 : (Jvm.Cond.code ({ cls := "CrossroadsCarts$Rests", name := "stay", desc := "(LCrossroadsCarts$Country;)I" } : Jvm.MethodName) prog_8_method_4_code (5 : Nat) (Option.some Jvm.ClassFile.FieldType.int)) ∈ TB := tb_lw (lw_t3 (i := 147) rfl) rfl
theorem k_628 : (Jvm.Cond.methodLink "CrossroadsCarts$Rests" (53 : Nat) ({ cls := "CrossroadsCarts$Country", name := "worthOf", desc := "(II)I" } : Jvm.MethodName)) ∈ TB := tb_lw (lw_t3 (i := 148) rfl) rfl
theorem k_629 : (Jvm.Cond.methodLink "CrossroadsCarts$Rests" (60 : Nat) ({ cls := "CrossroadsCarts$Country", name := "canGo", desc := "(II)Z" } : Jvm.MethodName)) ∈ TB := tb_lw (lw_t3 (i := 149) rfl) rfl
theorem k_630 : (Jvm.Cond.instanceMethod ({ cls := "CrossroadsCarts$Country", name := "canGo", desc := "(II)Z" } : Jvm.MethodName)) ∈ TB := tb_lw (lw_t3 (i := 150) rfl) rfl
theorem k_631 : (Jvm.Cond.selects "CrossroadsCarts$Country" ({ cls := "CrossroadsCarts$Country", name := "canGo", desc := "(II)Z" } : Jvm.MethodName) ({ cls := "CrossroadsCarts$Country", name := "canGo", desc := "(II)Z" } : Jvm.MethodName)) ∈ TB := tb_lw (lw_t3 (i := 151) rfl) rfl
theorem k_632 : (Jvm.Cond.code ({ cls := "CrossroadsCarts$Country", name := "canGo", desc := "(II)Z" } : Jvm.MethodName) prog_3_method_6_code (3 : Nat) (Option.some Jvm.ClassFile.FieldType.boolean)) ∈ TB := tb_lw (lw_t3 (i := 152) rfl) rfl
theorem k_633 : (Jvm.Cond.methodLink "CrossroadsCarts$Country" (63 : Nat) ({ cls := "CrossroadsCarts$Country", name := "hasRoom", desc := "(I)Z" } : Jvm.MethodName)) ∈ TB := tb_lw (lw_t3 (i := 153) rfl) rfl
theorem k_634 : (Jvm.Cond.methodLink "CrossroadsCarts$Rests" (28 : Nat) ({ cls := "CrossroadsCarts$Rests", name := "isUnder", desc := "(II)Z" } : Jvm.MethodName)) ∈ TB := tb_lw (lw_t3 (i := 154) rfl) rfl
theorem k_635 : (Jvm.Cond.static ({ cls := "CrossroadsCarts$Rests", name := "isUnder", desc := "(II)Z" } : Jvm.MethodName)) ∈ TB := tb_lw (lw_t3 (i := 155) rfl) rfl
theorem k_636 : (Jvm.Cond.code ({ cls := "CrossroadsCarts$Rests", name := "isUnder", desc := "(II)Z" } : Jvm.MethodName) prog_8_method_2_code (4 : Nat) (Option.some Jvm.ClassFile.FieldType.boolean)) ∈ TB := tb_lw (lw_t3 (i := 156) rfl) rfl
theorem k_639 : (Jvm.Cond.methodLink "CrossroadsCarts$Rests" (32 : Nat) ({ cls := "CrossroadsCarts$Rests", name := "voted", desc := "(LCrossroadsCarts$Country;)I" } : Jvm.MethodName)) ∈ TB := tb_lw (lw_t3 (i := 159) rfl) rfl
theorem k_641 : (Jvm.Cond.instanceMethod ({ cls := "CrossroadsCarts$Rests", name := "voted", desc := "(LCrossroadsCarts$Country;)I" } : Jvm.MethodName)) ∈ TB := tb_lw (lw_t3 (i := 161) rfl) rfl
theorem k_642 : (Jvm.Cond.code ({ cls := "CrossroadsCarts$Rests", name := "voted", desc := "(LCrossroadsCarts$Country;)I" } : Jvm.MethodName) prog_8_method_5_code (4 : Nat) (Option.some Jvm.ClassFile.FieldType.int)) ∈ TB := tb_lw (lw_t3 (i := 162) rfl) rfl
theorem k_643 : (Jvm.Cond.methodLink "CrossroadsCarts$Rests" (63 : Nat) ({ cls := "CrossroadsCarts$Country", name := "chosenLevel", desc := "(II)I" } : Jvm.MethodName)) ∈ TB := tb_lw (lw_t3 (i := 163) rfl) rfl
theorem k_644 : (Jvm.Cond.methodLink "CrossroadsCarts$Rests" (35 : Nat) ({ cls := "CrossroadsCarts$Rests", name := "rented", desc := "(LCrossroadsCarts$Country;)I" } : Jvm.MethodName)) ∈ TB := tb_lw (lw_t3 (i := 164) rfl) rfl
theorem k_646 : (Jvm.Cond.instanceMethod ({ cls := "CrossroadsCarts$Rests", name := "rented", desc := "(LCrossroadsCarts$Country;)I" } : Jvm.MethodName)) ∈ TB := tb_lw (lw_t3 (i := 166) rfl) rfl
theorem k_647 : (Jvm.Cond.code ({ cls := "CrossroadsCarts$Rests", name := "rented", desc := "(LCrossroadsCarts$Country;)I" } : Jvm.MethodName) prog_8_method_6_code (5 : Nat) (Option.some Jvm.ClassFile.FieldType.int)) ∈ TB := tb_lw (lw_t3 (i := 167) rfl) rfl
theorem k_648 : (Jvm.Cond.methodLink "CrossroadsCarts$Rests" (69 : Nat) ({ cls := "CrossroadsCarts$Country", name := "hasRoom", desc := "(I)Z" } : Jvm.MethodName)) ∈ TB := tb_lw (lw_t3 (i := 168) rfl) rfl
theorem k_649 : (Jvm.Cond.methodLink "CrossroadsCarts$Rests" (38 : Nat) ({ cls := "CrossroadsCarts$Rests", name := "seer", desc := "(LCrossroadsCarts$Country;)I" } : Jvm.MethodName)) ∈ TB := tb_lw (lw_t3 (i := 169) rfl) rfl
theorem k_651 : (Jvm.Cond.instanceMethod ({ cls := "CrossroadsCarts$Rests", name := "seer", desc := "(LCrossroadsCarts$Country;)I" } : Jvm.MethodName)) ∈ TB := tb_lw (lw_t3 (i := 171) rfl) rfl
theorem k_652 : (Jvm.Cond.code ({ cls := "CrossroadsCarts$Rests", name := "seer", desc := "(LCrossroadsCarts$Country;)I" } : Jvm.MethodName) prog_8_method_7_code (7 : Nat) (Option.some Jvm.ClassFile.FieldType.int)) ∈ TB := tb_lw (lw_t3 (i := 172) rfl) rfl
theorem k_653 : (Jvm.Cond.methodLink "CrossroadsCarts$Rests" (82 : Nat) ({ cls := "java/lang/System", name := "arraycopy", desc := "(Ljava/lang/Object;ILjava/lang/Object;II)V" } : Jvm.MethodName)) ∈ TB := tb_lw (lw_t3 (i := 173) rfl) rfl
theorem k_654 : (Jvm.Cond.static ({ cls := "java/lang/System", name := "arraycopy", desc := "(Ljava/lang/Object;ILjava/lang/Object;II)V" } : Jvm.MethodName)) ∈ TB := tb_lw (lw_t3 (i := 174) rfl) rfl
theorem k_655 : (Jvm.Cond.native ({ cls := "java/lang/System", name := "arraycopy", desc := "(Ljava/lang/Object;ILjava/lang/Object;II)V" } : Jvm.MethodName)) ∈ TB := tb_lw (lw_t3 (i := 175) rfl) rfl
theorem k_656 : (Jvm.Cond.methodLink "CrossroadsCarts$Rests" (88 : Nat) ({ cls := "CrossroadsCarts$Country", name := "vote", desc := "(I)I" } : Jvm.MethodName)) ∈ TB := tb_lw (lw_t3 (i := 176) rfl) rfl
theorem k_657 : (Jvm.Cond.methodLink "CrossroadsCarts$Rests" (41 : Nat) ({ cls := "CrossroadsCarts$Rests", name := "club", desc := "(LCrossroadsCarts$Country;)I" } : Jvm.MethodName)) ∈ TB := tb_lw (lw_t3 (i := 177) rfl) rfl
theorem k_659 : (Jvm.Cond.instanceMethod ({ cls := "CrossroadsCarts$Rests", name := "club", desc := "(LCrossroadsCarts$Country;)I" } : Jvm.MethodName)) ∈ TB := tb_lw (lw_t3 (i := 179) rfl) rfl
theorem k_660 : (Jvm.Cond.code ({ cls := "CrossroadsCarts$Rests", name := "club", desc := "(LCrossroadsCarts$Country;)I" } : Jvm.MethodName) prog_8_method_8_code (5 : Nat) (Option.some Jvm.ClassFile.FieldType.int)) ∈ TB := tb_lw (lw_t3 (i := 180) rfl) rfl
theorem k_661 : (Jvm.Cond.methodLink "CrossroadsCarts$Rests" (92 : Nat) ({ cls := "java/lang/Integer", name := "bitCount", desc := "(I)I" } : Jvm.MethodName)) ∈ TB := tb_lw (lw_t3 (i := 181) rfl) rfl
theorem k_662 : (Jvm.Cond.static ({ cls := "java/lang/Integer", name := "bitCount", desc := "(I)I" } : Jvm.MethodName)) ∈ TB := tb_lw (lw_t3 (i := 182) rfl) rfl
theorem k_663 : (Jvm.Cond.code ({ cls := "java/lang/Integer", name := "bitCount", desc := "(I)I" } : Jvm.MethodName) prog_14_method_49_code (1 : Nat) (Option.some Jvm.ClassFile.FieldType.int)) ∈ TB := tb_lw (lw_t3 (i := 183) rfl) rfl
theorem k_664 : (Jvm.Cond.constant "java/lang/Integer" (265 : Nat) (1431655765 : Int32)) ∈ TB := tb_lw (lw_t3 (i := 184) rfl) rfl
theorem k_665 : (Jvm.Cond.constant "java/lang/Integer" (266 : Nat) (858993459 : Int32)) ∈ TB := tb_lw (lw_t3 (i := 185) rfl) rfl
theorem k_666 : (Jvm.Cond.constant "java/lang/Integer" (267 : Nat) (252645135 : Int32)) ∈ TB := tb_lw (lw_t3 (i := 186) rfl) rfl
theorem k_667 : (Jvm.Cond.methodLink "CrossroadsCarts$Rests" (97 : Nat) ({ cls := "CrossroadsCarts$Country", name := "crowd", desc := "(I)I" } : Jvm.MethodName)) ∈ TB := tb_lw (lw_t3 (i := 187) rfl) rfl
theorem k_668 : (Jvm.Cond.methodLink "CrossroadsCarts$Rests" (103 : Nat) ({ cls := "CrossroadsCarts$Rests", name := "wouldFound", desc := "(LCrossroadsCarts$Country;II)Z" } : Jvm.MethodName)) ∈ TB := tb_lw (lw_t3 (i := 188) rfl) rfl
theorem k_670 : (Jvm.Cond.instanceMethod ({ cls := "CrossroadsCarts$Rests", name := "wouldFound", desc := "(LCrossroadsCarts$Country;II)Z" } : Jvm.MethodName)) ∈ TB := tb_lw (lw_t3 (i := 190) rfl) rfl
theorem k_671 : (Jvm.Cond.code ({ cls := "CrossroadsCarts$Rests", name := "wouldFound", desc := "(LCrossroadsCarts$Country;II)Z" } : Jvm.MethodName) prog_8_method_10_code (6 : Nat) (Option.some Jvm.ClassFile.FieldType.boolean)) ∈ TB := tb_lw (lw_t3 (i := 191) rfl) rfl
theorem k_672 : (Jvm.Cond.methodLink "CrossroadsCarts$Rests" (107 : Nat) ({ cls := "CrossroadsCarts$Rests", name := "leastOf", desc := "(I)I" } : Jvm.MethodName)) ∈ TB := tb_lw (lw_t3 (i := 192) rfl) rfl
theorem k_673 : (Jvm.Cond.static ({ cls := "CrossroadsCarts$Rests", name := "leastOf", desc := "(I)I" } : Jvm.MethodName)) ∈ TB := tb_lw (lw_t3 (i := 193) rfl) rfl
theorem k_674 : (Jvm.Cond.code ({ cls := "CrossroadsCarts$Rests", name := "leastOf", desc := "(I)I" } : Jvm.MethodName) prog_8_method_9_code (1 : Nat) (Option.some Jvm.ClassFile.FieldType.int)) ∈ TB := tb_lw (lw_t3 (i := 194) rfl) rfl
theorem k_683 : (Jvm.Cond.methodLink "CrossroadsCarts" (184 : Nat) ({ cls := "CrossroadsCarts$Country", name := "canGo", desc := "(II)Z" } : Jvm.MethodName)) ∈ TB := tb_lw (lw_t3 (i := 203) rfl) rfl
theorem k_688 : (Jvm.Cond.methodLink "CrossroadsCarts" (188 : Nat) ({ cls := "CrossroadsCarts$Walk", name := "stride", desc := "(LCrossroadsCarts$Country;Z)I" } : Jvm.MethodName)) ∈ TB := tb_lw (lw_t3 (i := 208) rfl) rfl
theorem k_689 : (Jvm.Cond.instanceMethod ({ cls := "CrossroadsCarts$Walk", name := "stride", desc := "(LCrossroadsCarts$Country;Z)I" } : Jvm.MethodName)) ∈ TB := tb_lw (lw_t3 (i := 209) rfl) rfl
theorem k_690 : (Jvm.Cond.selects "CrossroadsCarts$Walk" ({ cls := "CrossroadsCarts$Walk", name := "stride", desc := "(LCrossroadsCarts$Country;Z)I" } : Jvm.MethodName) ({ cls := "CrossroadsCarts$Walk", name := "stride", desc := "(LCrossroadsCarts$Country;Z)I" } : Jvm.MethodName)) ∈ TB := tb_lw (lw_t3 (i := 210) rfl) rfl
theorem k_691 : (Jvm.Cond.code ({ cls := "CrossroadsCarts$Walk", name := "stride", desc := "(LCrossroadsCarts$Country;Z)I" } : Jvm.MethodName) prog_10_method_2_code (6 : Nat) (Option.some Jvm.ClassFile.FieldType.int)) ∈ TB := tb_lw (lw_t3 (i := 211) rfl) rfl
theorem k_692 : (Jvm.Cond.methodLink "CrossroadsCarts$Walk" (21 : Nat) ({ cls := "CrossroadsCarts$Country", name := "betterTown", desc := "(I)I" } : Jvm.MethodName)) ∈ TB := tb_lw (lw_t3 (i := 212) rfl) rfl
theorem k_693 : (Jvm.Cond.instanceMethod ({ cls := "CrossroadsCarts$Country", name := "betterTown", desc := "(I)I" } : Jvm.MethodName)) ∈ TB := tb_lw (lw_t3 (i := 213) rfl) rfl
theorem k_694 : (Jvm.Cond.selects "CrossroadsCarts$Country" ({ cls := "CrossroadsCarts$Country", name := "betterTown", desc := "(I)I" } : Jvm.MethodName) ({ cls := "CrossroadsCarts$Country", name := "betterTown", desc := "(I)I" } : Jvm.MethodName)) ∈ TB := tb_lw (lw_t3 (i := 214) rfl) rfl
theorem k_695 : (Jvm.Cond.code ({ cls := "CrossroadsCarts$Country", name := "betterTown", desc := "(I)I" } : Jvm.MethodName) prog_3_method_18_code (6 : Nat) (Option.some Jvm.ClassFile.FieldType.int)) ∈ TB := tb_lw (lw_t3 (i := 215) rfl) rfl
theorem k_696 : (Jvm.Cond.methodLink "CrossroadsCarts$Country" (117 : Nat) ({ cls := "CrossroadsCarts$Country", name := "worthOf", desc := "(II)I" } : Jvm.MethodName)) ∈ TB := tb_lw (lw_t3 (i := 216) rfl) rfl
theorem k_697 : (Jvm.Cond.methodLink "CrossroadsCarts$Country" (128 : Nat) ({ cls := "CrossroadsCarts$Country", name := "canGo", desc := "(II)Z" } : Jvm.MethodName)) ∈ TB := tb_lw (lw_t3 (i := 217) rfl) rfl
theorem k_698 : (Jvm.Cond.methodLink "CrossroadsCarts$Walk" (32 : Nat) ({ cls := "CrossroadsCarts$Country", name := "vote", desc := "(I)I" } : Jvm.MethodName)) ∈ TB := tb_lw (lw_t3 (i := 218) rfl) rfl
theorem k_703 : (Jvm.Cond.methodLink "CrossroadsCarts" (192 : Nat) ({ cls := "CrossroadsCarts$Walk", name := "strideOn", desc := "(LCrossroadsCarts$Country;Z)I" } : Jvm.MethodName)) ∈ TB := tb_lw (lw_t3 (i := 223) rfl) rfl
theorem k_704 : (Jvm.Cond.instanceMethod ({ cls := "CrossroadsCarts$Walk", name := "strideOn", desc := "(LCrossroadsCarts$Country;Z)I" } : Jvm.MethodName)) ∈ TB := tb_lw (lw_t3 (i := 224) rfl) rfl
theorem k_705 : (Jvm.Cond.selects "CrossroadsCarts$Walk" ({ cls := "CrossroadsCarts$Walk", name := "strideOn", desc := "(LCrossroadsCarts$Country;Z)I" } : Jvm.MethodName) ({ cls := "CrossroadsCarts$Walk", name := "strideOn", desc := "(LCrossroadsCarts$Country;Z)I" } : Jvm.MethodName)) ∈ TB := tb_lw (lw_t3 (i := 225) rfl) rfl
theorem k_706 : (Jvm.Cond.code ({ cls := "CrossroadsCarts$Walk", name := "strideOn", desc := "(LCrossroadsCarts$Country;Z)I" } : Jvm.MethodName) prog_10_method_3_code (5 : Nat) (Option.some Jvm.ClassFile.FieldType.int)) ∈ TB := tb_lw (lw_t3 (i := 226) rfl) rfl
theorem k_707 : (Jvm.Cond.methodLink "CrossroadsCarts$Walk" (35 : Nat) ({ cls := "CrossroadsCarts$Country", name := "imprint", desc := "()J" } : Jvm.MethodName)) ∈ TB := tb_lw (lw_t3 (i := 227) rfl) rfl
theorem k_708 : (Jvm.Cond.instanceMethod ({ cls := "CrossroadsCarts$Country", name := "imprint", desc := "()J" } : Jvm.MethodName)) ∈ TB := tb_lw (lw_t3 (i := 228) rfl) rfl
theorem k_709 : (Jvm.Cond.selects "CrossroadsCarts$Country" ({ cls := "CrossroadsCarts$Country", name := "imprint", desc := "()J" } : Jvm.MethodName) ({ cls := "CrossroadsCarts$Country", name := "imprint", desc := "()J" } : Jvm.MethodName)) ∈ TB := tb_lw (lw_t3 (i := 229) rfl) rfl
theorem k_710 : (Jvm.Cond.code ({ cls := "CrossroadsCarts$Country", name := "imprint", desc := "()J" } : Jvm.MethodName) prog_3_method_32_code (4 : Nat) (Option.some Jvm.ClassFile.FieldType.long)) ∈ TB := tb_lw (lw_t3 (i := 230) rfl) rfl
theorem k_711 : (Jvm.Cond.methodLink "CrossroadsCarts$Walk" (39 : Nat) ({ cls := "CrossroadsCarts$Walk", name := "stride", desc := "(LCrossroadsCarts$Country;Z)I" } : Jvm.MethodName)) ∈ TB := tb_lw (lw_t3 (i := 231) rfl) rfl
theorem k_716 : (Jvm.Cond.methodLink "CrossroadsCarts" (195 : Nat) ({ cls := "CrossroadsCarts", name := "isTape", desc := "(I)Z" } : Jvm.MethodName)) ∈ TB := tb_lw (lw_t3 (i := 236) rfl) rfl
theorem k_717 : (Jvm.Cond.static ({ cls := "CrossroadsCarts", name := "isTape", desc := "(I)Z" } : Jvm.MethodName)) ∈ TB := tb_lw (lw_t3 (i := 237) rfl) rfl
theorem k_718 : (Jvm.Cond.code ({ cls := "CrossroadsCarts", name := "isTape", desc := "(I)Z" } : Jvm.MethodName) prog_1_method_38_code (1 : Nat) (Option.some Jvm.ClassFile.FieldType.boolean)) ∈ TB := tb_lw (lw_t3 (i := 238) rfl) rfl
theorem k_719 : (Jvm.Cond.methodLink "CrossroadsCarts" (198 : Nat) ({ cls := "CrossroadsCarts$Tape", name := "isNothing", desc := "()Z" } : Jvm.MethodName)) ∈ TB := tb_lw (lw_t3 (i := 239) rfl) rfl
theorem k_720 : (Jvm.Cond.instanceMethod ({ cls := "CrossroadsCarts$Tape", name := "isNothing", desc := "()Z" } : Jvm.MethodName)) ∈ TB := tb_lw (lw_t4 (i := 0) rfl) rfl
theorem k_721 : (Jvm.Cond.selects "CrossroadsCarts$Tape" ({ cls := "CrossroadsCarts$Tape", name := "isNothing", desc := "()Z" } : Jvm.MethodName) ({ cls := "CrossroadsCarts$Tape", name := "isNothing", desc := "()Z" } : Jvm.MethodName)) ∈ TB := tb_lw (lw_t4 (i := 1) rfl) rfl
theorem k_722 : (Jvm.Cond.code ({ cls := "CrossroadsCarts$Tape", name := "isNothing", desc := "()Z" } : Jvm.MethodName) prog_9_method_3_code (1 : Nat) (Option.some Jvm.ClassFile.FieldType.boolean)) ∈ TB := tb_lw (lw_t4 (i := 2) rfl) rfl
theorem k_723 : (Jvm.Cond.methodLink "CrossroadsCarts" (205 : Nat) ({ cls := "CrossroadsCarts$Tape", name := "spans", desc := "(II)Z" } : Jvm.MethodName)) ∈ TB := tb_lw (lw_t4 (i := 3) rfl) rfl
theorem k_724 : (Jvm.Cond.instanceMethod ({ cls := "CrossroadsCarts$Tape", name := "spans", desc := "(II)Z" } : Jvm.MethodName)) ∈ TB := tb_lw (lw_t4 (i := 4) rfl) rfl
theorem k_725 : (Jvm.Cond.selects "CrossroadsCarts$Tape" ({ cls := "CrossroadsCarts$Tape", name := "spans", desc := "(II)Z" } : Jvm.MethodName) ({ cls := "CrossroadsCarts$Tape", name := "spans", desc := "(II)Z" } : Jvm.MethodName)) ∈ TB := tb_lw (lw_t4 (i := 5) rfl) rfl
theorem k_726 : (Jvm.Cond.code ({ cls := "CrossroadsCarts$Tape", name := "spans", desc := "(II)Z" } : Jvm.MethodName) prog_9_method_4_code (3 : Nat) (Option.some Jvm.ClassFile.FieldType.boolean)) ∈ TB := tb_lw (lw_t4 (i := 6) rfl) rfl
theorem k_727 : (Jvm.Cond.methodLink "CrossroadsCarts" (208 : Nat) ({ cls := "CrossroadsCarts$Country", name := "become", desc := "(LCrossroadsCarts$Country;)V" } : Jvm.MethodName)) ∈ TB := tb_lw (lw_t4 (i := 7) rfl) rfl
theorem k_728 : (Jvm.Cond.instanceMethod ({ cls := "CrossroadsCarts$Country", name := "become", desc := "(LCrossroadsCarts$Country;)V" } : Jvm.MethodName)) ∈ TB := tb_lw (lw_t4 (i := 8) rfl) rfl
theorem k_729 : (Jvm.Cond.selects "CrossroadsCarts$Country" ({ cls := "CrossroadsCarts$Country", name := "become", desc := "(LCrossroadsCarts$Country;)V" } : Jvm.MethodName) ({ cls := "CrossroadsCarts$Country", name := "become", desc := "(LCrossroadsCarts$Country;)V" } : Jvm.MethodName)) ∈ TB := tb_lw (lw_t4 (i := 9) rfl) rfl
theorem k_730 : (Jvm.Cond.code ({ cls := "CrossroadsCarts$Country", name := "become", desc := "(LCrossroadsCarts$Country;)V" } : Jvm.MethodName) prog_3_method_2_code (2 : Nat) (Option.none : Option Jvm.ClassFile.FieldType)) ∈ TB := tb_lw (lw_t4 (i := 10) rfl) rfl
theorem k_731 : (Jvm.Cond.methodLink "CrossroadsCarts$Country" (53 : Nat) ({ cls := "java/lang/System", name := "arraycopy", desc := "(Ljava/lang/Object;ILjava/lang/Object;II)V" } : Jvm.MethodName)) ∈ TB := tb_lw (lw_t4 (i := 11) rfl) rfl
theorem k_732 : (Jvm.Cond.methodLink "CrossroadsCarts" (212 : Nat) ({ cls := "CrossroadsCarts", name := "settleAsTold", desc := "(LCrossroadsCarts$Tape;I)Z" } : Jvm.MethodName)) ∈ TB := tb_lw (lw_t4 (i := 12) rfl) rfl
theorem k_734 : (Jvm.Cond.instanceMethod ({ cls := "CrossroadsCarts", name := "settleAsTold", desc := "(LCrossroadsCarts$Tape;I)Z" } : Jvm.MethodName)) ∈ TB := tb_lw (lw_t4 (i := 14) rfl) rfl
theorem k_735 : (Jvm.Cond.code ({ cls := "CrossroadsCarts", name := "settleAsTold", desc := "(LCrossroadsCarts$Tape;I)Z" } : Jvm.MethodName) prog_1_method_41_code (6 : Nat) (Option.some Jvm.ClassFile.FieldType.boolean)) ∈ TB := tb_lw (lw_t4 (i := 15) rfl) rfl
theorem k_736 : (Jvm.Cond.methodLink "CrossroadsCarts" (321 : Nat) ({ cls := "CrossroadsCarts$Country", name := "fits", desc := "()Z" } : Jvm.MethodName)) ∈ TB := tb_lw (lw_t4 (i := 16) rfl) rfl
theorem k_737 : (Jvm.Cond.instanceMethod ({ cls := "CrossroadsCarts$Country", name := "fits", desc := "()Z" } : Jvm.MethodName)) ∈ TB := tb_lw (lw_t4 (i := 17) rfl) rfl
theorem k_738 : (Jvm.Cond.selects "CrossroadsCarts$Country" ({ cls := "CrossroadsCarts$Country", name := "fits", desc := "()Z" } : Jvm.MethodName) ({ cls := "CrossroadsCarts$Country", name := "fits", desc := "()Z" } : Jvm.MethodName)) ∈ TB := tb_lw (lw_t4 (i := 18) rfl) rfl
theorem k_739 : (Jvm.Cond.code ({ cls := "CrossroadsCarts$Country", name := "fits", desc := "()Z" } : Jvm.MethodName) prog_3_method_7_code (2 : Nat) (Option.some Jvm.ClassFile.FieldType.boolean)) ∈ TB := tb_lw (lw_t4 (i := 19) rfl) rfl
theorem k_744 : (Jvm.Cond.methodLink "CrossroadsCarts" (216 : Nat) ({ cls := "CrossroadsCarts$Country", name := "hasTooManyWays", desc := "()Z" } : Jvm.MethodName)) ∈ TB := tb_lw (lw_t4 (i := 24) rfl) rfl
theorem k_745 : (Jvm.Cond.instanceMethod ({ cls := "CrossroadsCarts$Country", name := "hasTooManyWays", desc := "()Z" } : Jvm.MethodName)) ∈ TB := tb_lw (lw_t4 (i := 25) rfl) rfl
theorem k_746 : (Jvm.Cond.selects "CrossroadsCarts$Country" ({ cls := "CrossroadsCarts$Country", name := "hasTooManyWays", desc := "()Z" } : Jvm.MethodName) ({ cls := "CrossroadsCarts$Country", name := "hasTooManyWays", desc := "()Z" } : Jvm.MethodName)) ∈ TB := tb_lw (lw_t4 (i := 26) rfl) rfl
theorem k_747 : (Jvm.Cond.code ({ cls := "CrossroadsCarts$Country", name := "hasTooManyWays", desc := "()Z" } : Jvm.MethodName) prog_3_method_25_code (1 : Nat) (Option.some Jvm.ClassFile.FieldType.boolean)) ∈ TB := tb_lw (lw_t4 (i := 27) rfl) rfl
theorem k_748 : (Jvm.Cond.methodLink "CrossroadsCarts" (219 : Nat) ({ cls := "CrossroadsCarts$Country", name := "ways", desc := "()I" } : Jvm.MethodName)) ∈ TB := tb_lw (lw_t4 (i := 28) rfl) rfl
theorem k_749 : (Jvm.Cond.instanceMethod ({ cls := "CrossroadsCarts$Country", name := "ways", desc := "()I" } : Jvm.MethodName)) ∈ TB := tb_lw (lw_t4 (i := 29) rfl) rfl
theorem k_750 : (Jvm.Cond.selects "CrossroadsCarts$Country" ({ cls := "CrossroadsCarts$Country", name := "ways", desc := "()I" } : Jvm.MethodName) ({ cls := "CrossroadsCarts$Country", name := "ways", desc := "()I" } : Jvm.MethodName)) ∈ TB := tb_lw (lw_t4 (i := 30) rfl) rfl
theorem k_751 : (Jvm.Cond.code ({ cls := "CrossroadsCarts$Country", name := "ways", desc := "()I" } : Jvm.MethodName) prog_3_method_26_code (3 : Nat) (Option.some Jvm.ClassFile.FieldType.int)) ∈ TB := tb_lw (lw_t4 (i := 31) rfl) rfl
theorem k_752 : (Jvm.Cond.methodLink "CrossroadsCarts" (223 : Nat) ({ cls := "CrossroadsCarts$Country", name := "settle", desc := "(I)Z" } : Jvm.MethodName)) ∈ TB := tb_lw (lw_t4 (i := 32) rfl) rfl
theorem k_753 : (Jvm.Cond.instanceMethod ({ cls := "CrossroadsCarts$Country", name := "settle", desc := "(I)Z" } : Jvm.MethodName)) ∈ TB := tb_lw (lw_t4 (i := 33) rfl) rfl
theorem k_754 : (Jvm.Cond.selects "CrossroadsCarts$Country" ({ cls := "CrossroadsCarts$Country", name := "settle", desc := "(I)Z" } : Jvm.MethodName) ({ cls := "CrossroadsCarts$Country", name := "settle", desc := "(I)Z" } : Jvm.MethodName)) ∈ TB := tb_lw (lw_t4 (i := 34) rfl) rfl
theorem k_755 : (Jvm.Cond.code ({ cls := "CrossroadsCarts$Country", name := "settle", desc := "(I)Z" } : Jvm.MethodName) prog_3_method_27_code (4 : Nat) (Option.some Jvm.ClassFile.FieldType.boolean)) ∈ TB := tb_lw (lw_t4 (i := 35) rfl) rfl
theorem k_756 : (Jvm.Cond.methodLink "CrossroadsCarts$Country" (160 : Nat) ({ cls := "CrossroadsCarts$Country", name := "fits", desc := "()Z" } : Jvm.MethodName)) ∈ TB := tb_lw (lw_t4 (i := 36) rfl) rfl
theorem k_761 : (Jvm.Cond.methodLink "CrossroadsCarts" (226 : Nat) ({ cls := "CrossroadsCarts$Country", name := "worthOfAll", desc := "()J" } : Jvm.MethodName)) ∈ TB := tb_lw (lw_t4 (i := 41) rfl) rfl
theorem k_762 : (Jvm.Cond.instanceMethod ({ cls := "CrossroadsCarts$Country", name := "worthOfAll", desc := "()J" } : Jvm.MethodName)) ∈ TB := tb_lw (lw_t4 (i := 42) rfl) rfl
theorem k_763 : (Jvm.Cond.selects "CrossroadsCarts$Country" ({ cls := "CrossroadsCarts$Country", name := "worthOfAll", desc := "()J" } : Jvm.MethodName) ({ cls := "CrossroadsCarts$Country", name := "worthOfAll", desc := "()J" } : Jvm.MethodName)) ∈ TB := tb_lw (lw_t4 (i := 43) rfl) rfl
theorem k_764 : (Jvm.Cond.code ({ cls := "CrossroadsCarts$Country", name := "worthOfAll", desc := "()J" } : Jvm.MethodName) prog_3_method_16_code (4 : Nat) (Option.some Jvm.ClassFile.FieldType.long)) ∈ TB := tb_lw (lw_t4 (i := 44) rfl) rfl
theorem k_769 : (Jvm.Cond.methodLink "CrossroadsCarts" (230 : Nat) ({ cls := "java/util/Arrays", name := "fill", desc := "([II)V" } : Jvm.MethodName)) ∈ TB := tb_lw (lw_t4 (i := 49) rfl) rfl
theorem k_770 : (Jvm.Cond.methodLink "CrossroadsCarts" (236 : Nat) ({ cls := "CrossroadsCarts$Country", name := "soughtTown", desc := "()I" } : Jvm.MethodName)) ∈ TB := tb_lw (lw_t4 (i := 50) rfl) rfl
theorem k_771 : (Jvm.Cond.instanceMethod ({ cls := "CrossroadsCarts$Country", name := "soughtTown", desc := "()I" } : Jvm.MethodName)) ∈ TB := tb_lw (lw_t4 (i := 51) rfl) rfl
theorem k_772 : (Jvm.Cond.selects "CrossroadsCarts$Country" ({ cls := "CrossroadsCarts$Country", name := "soughtTown", desc := "()I" } : Jvm.MethodName) ({ cls := "CrossroadsCarts$Country", name := "soughtTown", desc := "()I" } : Jvm.MethodName)) ∈ TB := tb_lw (lw_t4 (i := 52) rfl) rfl
theorem k_773 : (Jvm.Cond.code ({ cls := "CrossroadsCarts$Country", name := "soughtTown", desc := "()I" } : Jvm.MethodName) prog_3_method_28_code (4 : Nat) (Option.some Jvm.ClassFile.FieldType.int)) ∈ TB := tb_lw (lw_t4 (i := 53) rfl) rfl
theorem k_778 : (Jvm.Cond.methodLink "CrossroadsCarts" (239 : Nat) ({ cls := "CrossroadsCarts$Country", name := "pairs", desc := "()I" } : Jvm.MethodName)) ∈ TB := tb_lw (lw_t4 (i := 58) rfl) rfl
theorem k_779 : (Jvm.Cond.instanceMethod ({ cls := "CrossroadsCarts$Country", name := "pairs", desc := "()I" } : Jvm.MethodName)) ∈ TB := tb_lw (lw_t4 (i := 59) rfl) rfl
theorem k_780 : (Jvm.Cond.selects "CrossroadsCarts$Country" ({ cls := "CrossroadsCarts$Country", name := "pairs", desc := "()I" } : Jvm.MethodName) ({ cls := "CrossroadsCarts$Country", name := "pairs", desc := "()I" } : Jvm.MethodName)) ∈ TB := tb_lw (lw_t4 (i := 60) rfl) rfl
theorem k_781 : (Jvm.Cond.code ({ cls := "CrossroadsCarts$Country", name := "pairs", desc := "()I" } : Jvm.MethodName) prog_3_method_29_code (4 : Nat) (Option.some Jvm.ClassFile.FieldType.int)) ∈ TB := tb_lw (lw_t4 (i := 61) rfl) rfl
theorem k_782 : (Jvm.Cond.methodLink "CrossroadsCarts" (242 : Nat) ({ cls := "CrossroadsCarts$Deals", name := "asSorted", desc := "(LCrossroadsCarts$Country;)I" } : Jvm.MethodName)) ∈ TB := tb_lw (lw_t4 (i := 62) rfl) rfl
theorem k_783 : (Jvm.Cond.instanceMethod ({ cls := "CrossroadsCarts$Deals", name := "asSorted", desc := "(LCrossroadsCarts$Country;)I" } : Jvm.MethodName)) ∈ TB := tb_lw (lw_t4 (i := 63) rfl) rfl
theorem k_784 : (Jvm.Cond.selects "CrossroadsCarts$Deals" ({ cls := "CrossroadsCarts$Deals", name := "asSorted", desc := "(LCrossroadsCarts$Country;)I" } : Jvm.MethodName) ({ cls := "CrossroadsCarts$Deals", name := "asSorted", desc := "(LCrossroadsCarts$Country;)I" } : Jvm.MethodName)) ∈ TB := tb_lw (lw_t4 (i := 64) rfl) rfl
theorem k_785 : (Jvm.Cond.code ({ cls := "CrossroadsCarts$Deals", name := "asSorted", desc := "(LCrossroadsCarts$Country;)I" } : Jvm.MethodName) prog_4_method_3_code (3 : Nat) (Option.some Jvm.ClassFile.FieldType.int)) ∈ TB := tb_lw (lw_t4 (i := 65) rfl) rfl
theorem k_786 : (Jvm.Cond.methodLink "CrossroadsCarts$Deals" (24 : Nat) ({ cls := "java/util/Arrays", name := "fill", desc := "([II)V" } : Jvm.MethodName)) ∈ TB := tb_lw (lw_t4 (i := 66) rfl) rfl
theorem k_787 : (Jvm.Cond.methodLink "CrossroadsCarts$Deals" (33 : Nat) ({ cls := "CrossroadsCarts$Country", name := "pairs", desc := "()I" } : Jvm.MethodName)) ∈ TB := tb_lw (lw_t4 (i := 67) rfl) rfl
theorem k_788 : (Jvm.Cond.methodLink "CrossroadsCarts$Deals" (37 : Nat) ({ cls := "CrossroadsCarts$Deals", name := "ways", desc := "(LCrossroadsCarts$Country;II)I" } : Jvm.MethodName)) ∈ TB := tb_lw (lw_t4 (i := 68) rfl) rfl
theorem k_790 : (Jvm.Cond.instanceMethod ({ cls := "CrossroadsCarts$Deals", name := "ways", desc := "(LCrossroadsCarts$Country;II)I" } : Jvm.MethodName)) ∈ TB := tb_lw (lw_t4 (i := 70) rfl) rfl
theorem k_791 : (Jvm.Cond.code ({ cls := "CrossroadsCarts$Deals", name := "ways", desc := "(LCrossroadsCarts$Country;II)I" } : Jvm.MethodName) prog_4_method_4_code (9 : Nat) (Option.some Jvm.ClassFile.FieldType.int)) ∈ TB := tb_lw (lw_t4 (i := 71) rfl) rfl
theorem k_792 : (Jvm.Cond.methodLink "CrossroadsCarts" (246 : Nat) ({ cls := "CrossroadsCarts$Deals", name := "ofAll", desc := "(LCrossroadsCarts$Country;)I" } : Jvm.MethodName)) ∈ TB := tb_lw (lw_t4 (i := 72) rfl) rfl
theorem k_793 : (Jvm.Cond.instanceMethod ({ cls := "CrossroadsCarts$Deals", name := "ofAll", desc := "(LCrossroadsCarts$Country;)I" } : Jvm.MethodName)) ∈ TB := tb_lw (lw_t4 (i := 73) rfl) rfl
theorem k_794 : (Jvm.Cond.selects "CrossroadsCarts$Deals" ({ cls := "CrossroadsCarts$Deals", name := "ofAll", desc := "(LCrossroadsCarts$Country;)I" } : Jvm.MethodName) ({ cls := "CrossroadsCarts$Deals", name := "ofAll", desc := "(LCrossroadsCarts$Country;)I" } : Jvm.MethodName)) ∈ TB := tb_lw (lw_t4 (i := 74) rfl) rfl
theorem k_795 : (Jvm.Cond.code ({ cls := "CrossroadsCarts$Deals", name := "ofAll", desc := "(LCrossroadsCarts$Country;)I" } : Jvm.MethodName) prog_4_method_2_code (4 : Nat) (Option.some Jvm.ClassFile.FieldType.int)) ∈ TB := tb_lw (lw_t4 (i := 75) rfl) rfl
theorem k_800 : (Jvm.Cond.methodLink "CrossroadsCarts" (249 : Nat) ({ cls := "CrossroadsCarts$Country", name := "othersDiffer", desc := "(LCrossroadsCarts$Country;I)Z" } : Jvm.MethodName)) ∈ TB := tb_lw (lw_t4 (i := 80) rfl) rfl
theorem k_801 : (Jvm.Cond.instanceMethod ({ cls := "CrossroadsCarts$Country", name := "othersDiffer", desc := "(LCrossroadsCarts$Country;I)Z" } : Jvm.MethodName)) ∈ TB := tb_lw (lw_t4 (i := 81) rfl) rfl
theorem k_802 : (Jvm.Cond.selects "CrossroadsCarts$Country" ({ cls := "CrossroadsCarts$Country", name := "othersDiffer", desc := "(LCrossroadsCarts$Country;I)Z" } : Jvm.MethodName) ({ cls := "CrossroadsCarts$Country", name := "othersDiffer", desc := "(LCrossroadsCarts$Country;I)Z" } : Jvm.MethodName)) ∈ TB := tb_lw (lw_t4 (i := 82) rfl) rfl
theorem k_803 : (Jvm.Cond.code ({ cls := "CrossroadsCarts$Country", name := "othersDiffer", desc := "(LCrossroadsCarts$Country;I)Z" } : Jvm.MethodName) prog_3_method_31_code (4 : Nat) (Option.some Jvm.ClassFile.FieldType.boolean)) ∈ TB := tb_lw (lw_t4 (i := 83) rfl) rfl
theorem k_808 : (Jvm.Cond.instantiable "CrossroadsCarts$Law" (4 : Nat)) ∈ TB := tb_lw (lw_t4 (i := 88) rfl) rfl
theorem k_809 : (Jvm.Cond.methodLink "CrossroadsCarts" (256 : Nat) ({ cls := "CrossroadsCarts$Law", name := "<init>", desc := "(IIII)V" } : Jvm.MethodName)) ∈ TB := tb_lw (lw_t4 (i := 89) rfl) rfl
theorem k_810 : (Jvm.Cond.instanceMethod ({ cls := "CrossroadsCarts$Law", name := "<init>", desc := "(IIII)V" } : Jvm.MethodName)) ∈ TB := tb_lw (lw_t4 (i := 90) rfl) rfl
theorem k_811 : (Jvm.Cond.code ({ cls := "CrossroadsCarts$Law", name := "<init>", desc := "(IIII)V" } : Jvm.MethodName) prog_6_method_1_code (5 : Nat) (Option.none : Option Jvm.ClassFile.FieldType)) ∈ TB := tb_lw (lw_t4 (i := 91) rfl) rfl
theorem k_812 : (Jvm.Cond.methodLink "CrossroadsCarts$Law" (1 : Nat) ({ cls := "java/lang/Object", name := "<init>", desc := "()V" } : Jvm.MethodName)) ∈ TB := tb_lw (lw_t4 (i := 92) rfl) rfl
theorem k_813 : (Jvm.Cond.fieldLink "CrossroadsCarts$Law" (7 : Nat) "CrossroadsCarts$Law" "what" "I") ∈ TB := tb_lw (lw_t4 (i := 93) rfl) rfl
theorem k_814 : (Jvm.Cond.fieldLink "CrossroadsCarts$Law" (13 : Nat) "CrossroadsCarts$Law" "town" "I") ∈ TB := tb_lw (lw_t4 (i := 94) rfl) rfl
theorem k_815 : (Jvm.Cond.fieldLink "CrossroadsCarts$Law" (16 : Nat) "CrossroadsCarts$Law" "n" "I") ∈ TB := tb_lw (lw_t4 (i := 95) rfl) rfl
theorem k_816 : (Jvm.Cond.fieldLink "CrossroadsCarts$Law" (19 : Nat) "CrossroadsCarts$Law" "price" "I") ∈ TB := tb_lw (lw_t4 (i := 96) rfl) rfl
theorem k_817 : (Jvm.Cond.fieldLink "CrossroadsCarts" (324 : Nat) "CrossroadsCarts$Law" "price" "I") ∈ TB := tb_lw (lw_t4 (i := 97) rfl) rfl
theorem k_818 : (Jvm.Cond.laysFinal "CrossroadsCarts$Law" "CrossroadsCarts$Law" "what" "I") ∈ TB := tb_lw (lw_t4 (i := 98) rfl) rfl
theorem k_820 : (Jvm.Cond.laysFinal "CrossroadsCarts$Law" "CrossroadsCarts$Law" "town" "I") ∈ TB := tb_lw (lw_t4 (i := 100) rfl) rfl
theorem k_822 : (Jvm.Cond.laysFinal "CrossroadsCarts$Law" "CrossroadsCarts$Law" "n" "I") ∈ TB := tb_lw (lw_t4 (i := 102) rfl) rfl
theorem k_824 : (Jvm.Cond.laysFinal "CrossroadsCarts$Law" "CrossroadsCarts$Law" "price" "I") ∈ TB := tb_lw (lw_t4 (i := 104) rfl) rfl
theorem k_831 : (Jvm.Cond.methodLink "CrossroadsCarts" (259 : Nat) ({ cls := "CrossroadsCarts", name := "priceOf", desc := "(I)I" } : Jvm.MethodName)) ∈ TB := tb_lw (lw_t4 (i := 111) rfl) rfl
theorem k_833 : (Jvm.Cond.instanceMethod ({ cls := "CrossroadsCarts", name := "priceOf", desc := "(I)I" } : Jvm.MethodName)) ∈ TB := tb_lw (lw_t4 (i := 113) rfl) rfl
theorem k_834 : (Jvm.Cond.code ({ cls := "CrossroadsCarts", name := "priceOf", desc := "(I)I" } : Jvm.MethodName) prog_1_method_42_code (4 : Nat) (Option.some Jvm.ClassFile.FieldType.int)) ∈ TB := tb_lw (lw_t4 (i := 114) rfl) rfl
theorem k_835 : (Jvm.Cond.methodLink "CrossroadsCarts" (262 : Nat) ({ cls := "CrossroadsCarts", name := "clashIn", desc := "(I)Z" } : Jvm.MethodName)) ∈ TB := tb_lw (lw_t4 (i := 115) rfl) rfl
theorem k_837 : (Jvm.Cond.instanceMethod ({ cls := "CrossroadsCarts", name := "clashIn", desc := "(I)Z" } : Jvm.MethodName)) ∈ TB := tb_lw (lw_t4 (i := 117) rfl) rfl
theorem k_838 : (Jvm.Cond.code ({ cls := "CrossroadsCarts", name := "clashIn", desc := "(I)Z" } : Jvm.MethodName) prog_1_method_43_code (4 : Nat) (Option.some Jvm.ClassFile.FieldType.boolean)) ∈ TB := tb_lw (lw_t4 (i := 118) rfl) rfl
theorem k_839 : (Jvm.Cond.methodLink "CrossroadsCarts" (327 : Nat) ({ cls := "CrossroadsCarts$Law", name := "clashes", desc := "(LCrossroadsCarts$Law;)Z" } : Jvm.MethodName)) ∈ TB := tb_lw (lw_t4 (i := 119) rfl) rfl
theorem k_840 : (Jvm.Cond.instanceMethod ({ cls := "CrossroadsCarts$Law", name := "clashes", desc := "(LCrossroadsCarts$Law;)Z" } : Jvm.MethodName)) ∈ TB := tb_lw (lw_t4 (i := 120) rfl) rfl
theorem k_841 : (Jvm.Cond.selects "CrossroadsCarts$Law" ({ cls := "CrossroadsCarts$Law", name := "clashes", desc := "(LCrossroadsCarts$Law;)Z" } : Jvm.MethodName) ({ cls := "CrossroadsCarts$Law", name := "clashes", desc := "(LCrossroadsCarts$Law;)Z" } : Jvm.MethodName)) ∈ TB := tb_lw (lw_t4 (i := 121) rfl) rfl
theorem k_842 : (Jvm.Cond.code ({ cls := "CrossroadsCarts$Law", name := "clashes", desc := "(LCrossroadsCarts$Law;)Z" } : Jvm.MethodName) prog_6_method_2_code (2 : Nat) (Option.some Jvm.ClassFile.FieldType.boolean)) ∈ TB := tb_lw (lw_t4 (i := 122) rfl) rfl
theorem k_843 : (Jvm.Cond.methodLink "CrossroadsCarts" (265 : Nat) ({ cls := "CrossroadsCarts", name := "enact", desc := "(I)V" } : Jvm.MethodName)) ∈ TB := tb_lw (lw_t4 (i := 123) rfl) rfl
theorem k_845 : (Jvm.Cond.instanceMethod ({ cls := "CrossroadsCarts", name := "enact", desc := "(I)V" } : Jvm.MethodName)) ∈ TB := tb_lw (lw_t4 (i := 125) rfl) rfl
theorem k_846 : (Jvm.Cond.code ({ cls := "CrossroadsCarts", name := "enact", desc := "(I)V" } : Jvm.MethodName) prog_1_method_44_code (3 : Nat) (Option.none : Option Jvm.ClassFile.FieldType)) ∈ TB := tb_lw (lw_t4 (i := 126) rfl) rfl
theorem k_847 : (Jvm.Cond.methodLink "CrossroadsCarts" (331 : Nat) ({ cls := "CrossroadsCarts$Law", name := "rule", desc := "(LCrossroadsCarts$Country;)V" } : Jvm.MethodName)) ∈ TB := tb_lw (lw_t4 (i := 127) rfl) rfl
theorem k_848 : (Jvm.Cond.instanceMethod ({ cls := "CrossroadsCarts$Law", name := "rule", desc := "(LCrossroadsCarts$Country;)V" } : Jvm.MethodName)) ∈ TB := tb_lw (lw_t4 (i := 128) rfl) rfl
theorem k_849 : (Jvm.Cond.selects "CrossroadsCarts$Law" ({ cls := "CrossroadsCarts$Law", name := "rule", desc := "(LCrossroadsCarts$Country;)V" } : Jvm.MethodName) ({ cls := "CrossroadsCarts$Law", name := "rule", desc := "(LCrossroadsCarts$Country;)V" } : Jvm.MethodName)) ∈ TB := tb_lw (lw_t4 (i := 129) rfl) rfl
theorem k_850 : (Jvm.Cond.code ({ cls := "CrossroadsCarts$Law", name := "rule", desc := "(LCrossroadsCarts$Country;)V" } : Jvm.MethodName) prog_6_method_3_code (3 : Nat) (Option.none : Option Jvm.ClassFile.FieldType)) ∈ TB := tb_lw (lw_t4 (i := 130) rfl) rfl
theorem k_851 : (Jvm.Cond.methodLink "CrossroadsCarts" (269 : Nat) ({ cls := "CrossroadsCarts$Country", name := "leastWorth", desc := "()J" } : Jvm.MethodName)) ∈ TB := tb_lw (lw_t4 (i := 131) rfl) rfl
theorem k_852 : (Jvm.Cond.instanceMethod ({ cls := "CrossroadsCarts$Country", name := "leastWorth", desc := "()J" } : Jvm.MethodName)) ∈ TB := tb_lw (lw_t4 (i := 132) rfl) rfl
theorem k_853 : (Jvm.Cond.selects "CrossroadsCarts$Country" ({ cls := "CrossroadsCarts$Country", name := "leastWorth", desc := "()J" } : Jvm.MethodName) ({ cls := "CrossroadsCarts$Country", name := "leastWorth", desc := "()J" } : Jvm.MethodName)) ∈ TB := tb_lw (lw_t4 (i := 133) rfl) rfl
theorem k_854 : (Jvm.Cond.code ({ cls := "CrossroadsCarts$Country", name := "leastWorth", desc := "()J" } : Jvm.MethodName) prog_3_method_17_code (4 : Nat) (Option.some Jvm.ClassFile.FieldType.long)) ∈ TB := tb_lw (lw_t4 (i := 134) rfl) rfl
theorem k_855 : (Jvm.Cond.constantLong "CrossroadsCarts$Country" (122 : Nat) (9223372036854775807 : Int64)) ∈ TB := tb_lw (lw_t4 (i := 135) rfl) rfl
theorem k_856 : (Jvm.Cond.methodLink "CrossroadsCarts$Country" (124 : Nat) ({ cls := "java/lang/Math", name := "min", desc := "(JJ)J" } : Jvm.MethodName)) ∈ TB := tb_lw (lw_t4 (i := 136) rfl) rfl
theorem k_857 : (Jvm.Cond.static ({ cls := "java/lang/Math", name := "min", desc := "(JJ)J" } : Jvm.MethodName)) ∈ TB := tb_lw (lw_t4 (i := 137) rfl) rfl
theorem k_858 : (Jvm.Cond.code ({ cls := "java/lang/Math", name := "min", desc := "(JJ)J" } : Jvm.MethodName) prog_15_method_70_code (4 : Nat) (Option.some Jvm.ClassFile.FieldType.long)) ∈ TB := tb_lw (lw_t4 (i := 138) rfl) rfl
theorem k_867 : (Jvm.Cond.methodLink "CrossroadsCarts" (278 : Nat) ({ cls := "java/lang/Math", name := "min", desc := "(II)I" } : Jvm.MethodName)) ∈ TB := tb_lw (lw_t4 (i := 147) rfl) rfl
theorem k_868 : (Jvm.Cond.methodLink "CrossroadsCarts" (283 : Nat) ({ cls := "java/lang/Math", name := "max", desc := "(II)I" } : Jvm.MethodName)) ∈ TB := tb_lw (lw_t4 (i := 148) rfl) rfl
theorem k_869 : (Jvm.Cond.methodLink "CrossroadsCarts" (286 : Nat) ({ cls := "CrossroadsCarts", name := "births", desc := "()I" } : Jvm.MethodName)) ∈ TB := tb_lw (lw_t4 (i := 149) rfl) rfl
theorem k_871 : (Jvm.Cond.instanceMethod ({ cls := "CrossroadsCarts", name := "births", desc := "()I" } : Jvm.MethodName)) ∈ TB := tb_lw (lw_t4 (i := 151) rfl) rfl
theorem k_872 : (Jvm.Cond.code ({ cls := "CrossroadsCarts", name := "births", desc := "()I" } : Jvm.MethodName) prog_1_method_45_code (4 : Nat) (Option.some Jvm.ClassFile.FieldType.int)) ∈ TB := tb_lw (lw_t4 (i := 152) rfl) rfl
theorem k_873 : (Jvm.Cond.methodLink "CrossroadsCarts" (334 : Nat) ({ cls := "CrossroadsCarts$Country", name := "doubledSort", desc := "(I)I" } : Jvm.MethodName)) ∈ TB := tb_lw (lw_t4 (i := 153) rfl) rfl
theorem k_874 : (Jvm.Cond.instanceMethod ({ cls := "CrossroadsCarts$Country", name := "doubledSort", desc := "(I)I" } : Jvm.MethodName)) ∈ TB := tb_lw (lw_t4 (i := 154) rfl) rfl
theorem k_875 : (Jvm.Cond.selects "CrossroadsCarts$Country" ({ cls := "CrossroadsCarts$Country", name := "doubledSort", desc := "(I)I" } : Jvm.MethodName) ({ cls := "CrossroadsCarts$Country", name := "doubledSort", desc := "(I)I" } : Jvm.MethodName)) ∈ TB := tb_lw (lw_t4 (i := 155) rfl) rfl
theorem k_876 : (Jvm.Cond.code ({ cls := "CrossroadsCarts$Country", name := "doubledSort", desc := "(I)I" } : Jvm.MethodName) prog_3_method_30_code (5 : Nat) (Option.some Jvm.ClassFile.FieldType.int)) ∈ TB := tb_lw (lw_t4 (i := 156) rfl) rfl
theorem k_881 : (Jvm.Cond.methodLink "CrossroadsCarts" (289 : Nat) ({ cls := "CrossroadsCarts$Acts", name := "forget", desc := "(II)V" } : Jvm.MethodName)) ∈ TB := tb_lw (lw_t4 (i := 161) rfl) rfl
theorem k_882 : (Jvm.Cond.instanceMethod ({ cls := "CrossroadsCarts$Acts", name := "forget", desc := "(II)V" } : Jvm.MethodName)) ∈ TB := tb_lw (lw_t4 (i := 162) rfl) rfl
theorem k_883 : (Jvm.Cond.selects "CrossroadsCarts$Acts" ({ cls := "CrossroadsCarts$Acts", name := "forget", desc := "(II)V" } : Jvm.MethodName) ({ cls := "CrossroadsCarts$Acts", name := "forget", desc := "(II)V" } : Jvm.MethodName)) ∈ TB := tb_lw (lw_t4 (i := 163) rfl) rfl
theorem k_884 : (Jvm.Cond.code ({ cls := "CrossroadsCarts$Acts", name := "forget", desc := "(II)V" } : Jvm.MethodName) prog_2_method_2_code (3 : Nat) (Option.none : Option Jvm.ClassFile.FieldType)) ∈ TB := tb_lw (lw_t4 (i := 164) rfl) rfl
theorem k_885 : (Jvm.Cond.methodLink "CrossroadsCarts" (293 : Nat) ({ cls := "CrossroadsCarts$Acts", name := "done", desc := "(III)I" } : Jvm.MethodName)) ∈ TB := tb_lw (lw_t4 (i := 165) rfl) rfl
theorem k_886 : (Jvm.Cond.instanceMethod ({ cls := "CrossroadsCarts$Acts", name := "done", desc := "(III)I" } : Jvm.MethodName)) ∈ TB := tb_lw (lw_t4 (i := 166) rfl) rfl
theorem k_887 : (Jvm.Cond.selects "CrossroadsCarts$Acts" ({ cls := "CrossroadsCarts$Acts", name := "done", desc := "(III)I" } : Jvm.MethodName) ({ cls := "CrossroadsCarts$Acts", name := "done", desc := "(III)I" } : Jvm.MethodName)) ∈ TB := tb_lw (lw_t4 (i := 167) rfl) rfl
theorem k_888 : (Jvm.Cond.code ({ cls := "CrossroadsCarts$Acts", name := "done", desc := "(III)I" } : Jvm.MethodName) prog_2_method_3_code (4 : Nat) (Option.some Jvm.ClassFile.FieldType.int)) ∈ TB := tb_lw (lw_t4 (i := 168) rfl) rfl
theorem k_889 : (Jvm.Cond.methodLink "CrossroadsCarts$Acts" (28 : Nat) ({ cls := "CrossroadsCarts$Acts", name := "own", desc := "(III)I" } : Jvm.MethodName)) ∈ TB := tb_lw (lw_t4 (i := 169) rfl) rfl
theorem k_891 : (Jvm.Cond.instanceMethod ({ cls := "CrossroadsCarts$Acts", name := "own", desc := "(III)I" } : Jvm.MethodName)) ∈ TB := tb_lw (lw_t4 (i := 171) rfl) rfl
theorem k_892 : (Jvm.Cond.code ({ cls := "CrossroadsCarts$Acts", name := "own", desc := "(III)I" } : Jvm.MethodName) prog_2_method_4_code (4 : Nat) (Option.some Jvm.ClassFile.FieldType.int)) ∈ TB := tb_lw (lw_t4 (i := 172) rfl) rfl
theorem k_893 : (Jvm.Cond.methodLink "CrossroadsCarts$Acts" (32 : Nat) ({ cls := "CrossroadsCarts$Acts", name := "from", desc := "(IIII)I" } : Jvm.MethodName)) ∈ TB := tb_lw (lw_t4 (i := 173) rfl) rfl
theorem k_895 : (Jvm.Cond.instanceMethod ({ cls := "CrossroadsCarts$Acts", name := "from", desc := "(IIII)I" } : Jvm.MethodName)) ∈ TB := tb_lw (lw_t4 (i := 175) rfl) rfl
theorem k_896 : (Jvm.Cond.code ({ cls := "CrossroadsCarts$Acts", name := "from", desc := "(IIII)I" } : Jvm.MethodName) prog_2_method_6_code (7 : Nat) (Option.some Jvm.ClassFile.FieldType.int)) ∈ TB := tb_lw (lw_t4 (i := 176) rfl) rfl
theorem k_897 : (Jvm.Cond.fieldLink "CrossroadsCarts$Acts" (39 : Nat) "CrossroadsCarts$Acts" "BODIES" "[I") ∈ TB := tb_lw (lw_t4 (i := 177) rfl) rfl
theorem k_900 : (Jvm.Cond.methodLink "CrossroadsCarts$Acts" (42 : Nat) ({ cls := "CrossroadsCarts$Acts", name := "run", desc := "(III)I" } : Jvm.MethodName)) ∈ TB := tb_lw (lw_t4 (i := 180) rfl) rfl
theorem k_902 : (Jvm.Cond.instanceMethod ({ cls := "CrossroadsCarts$Acts", name := "run", desc := "(III)I" } : Jvm.MethodName)) ∈ TB := tb_lw (lw_t4 (i := 182) rfl) rfl
theorem k_903 : (Jvm.Cond.code ({ cls := "CrossroadsCarts$Acts", name := "run", desc := "(III)I" } : Jvm.MethodName) prog_2_method_7_code (4 : Nat) (Option.some Jvm.ClassFile.FieldType.int)) ∈ TB := tb_lw (lw_t4 (i := 183) rfl) rfl
theorem k_904 : (Jvm.Cond.methodLink "CrossroadsCarts$Acts" (45 : Nat) ({ cls := "CrossroadsCarts$Acts", name := "above", desc := "(IIII)I" } : Jvm.MethodName)) ∈ TB := tb_lw (lw_t4 (i := 184) rfl) rfl
theorem k_906 : (Jvm.Cond.instanceMethod ({ cls := "CrossroadsCarts$Acts", name := "above", desc := "(IIII)I" } : Jvm.MethodName)) ∈ TB := tb_lw (lw_t4 (i := 186) rfl) rfl
theorem k_907 : (Jvm.Cond.code ({ cls := "CrossroadsCarts$Acts", name := "above", desc := "(IIII)I" } : Jvm.MethodName) prog_2_method_5_code (5 : Nat) (Option.some Jvm.ClassFile.FieldType.int)) ∈ TB := tb_lw (lw_t4 (i := 187) rfl) rfl
theorem k_916 : (Jvm.Cond.methodLink "CrossroadsCarts" (302 : Nat) ({ cls := "CrossroadsCarts$Rests", name := "isUnder", desc := "(II)Z" } : Jvm.MethodName)) ∈ TB := tb_lw (lw_t4 (i := 196) rfl) rfl
theorem k_925 : (Jvm.Cond.methodLink "CrossroadsCarts" (305 : Nat) ({ cls := "CrossroadsCarts$Tape", name := "become", desc := "(II)V" } : Jvm.MethodName)) ∈ TB := tb_lw (lw_t4 (i := 205) rfl) rfl
theorem k_926 : (Jvm.Cond.instanceMethod ({ cls := "CrossroadsCarts$Tape", name := "become", desc := "(II)V" } : Jvm.MethodName)) ∈ TB := tb_lw (lw_t4 (i := 206) rfl) rfl
theorem k_927 : (Jvm.Cond.selects "CrossroadsCarts$Tape" ({ cls := "CrossroadsCarts$Tape", name := "become", desc := "(II)V" } : Jvm.MethodName) ({ cls := "CrossroadsCarts$Tape", name := "become", desc := "(II)V" } : Jvm.MethodName)) ∈ TB := tb_lw (lw_t4 (i := 207) rfl) rfl
theorem k_928 : (Jvm.Cond.code ({ cls := "CrossroadsCarts$Tape", name := "become", desc := "(II)V" } : Jvm.MethodName) prog_9_method_2_code (3 : Nat) (Option.none : Option Jvm.ClassFile.FieldType)) ∈ TB := tb_lw (lw_t4 (i := 208) rfl) rfl
theorem k_929 : (Jvm.Cond.methodLink "CrossroadsCarts$Tape" (20 : Nat) ({ cls := "java/util/Arrays", name := "fill", desc := "([JJ)V" } : Jvm.MethodName)) ∈ TB := tb_lw (lw_t4 (i := 209) rfl) rfl
theorem k_930 : (Jvm.Cond.static ({ cls := "java/util/Arrays", name := "fill", desc := "([JJ)V" } : Jvm.MethodName)) ∈ TB := tb_lw (lw_t4 (i := 210) rfl) rfl
theorem k_931 : (Jvm.Cond.code ({ cls := "java/util/Arrays", name := "fill", desc := "([JJ)V" } : Jvm.MethodName) prog_20_method_101_code (5 : Nat) (Option.none : Option Jvm.ClassFile.FieldType)) ∈ TB := tb_lw (lw_t4 (i := 211) rfl) rfl
theorem k_936 : (Jvm.Cond.methodLink "CrossroadsCarts" (311 : Nat) ({ cls := "CrossroadsCarts$Tape", name := "cut", desc := "(J)J" } : Jvm.MethodName)) ∈ TB := tb_lw (lw_t4 (i := 216) rfl) rfl
theorem k_937 : (Jvm.Cond.instanceMethod ({ cls := "CrossroadsCarts$Tape", name := "cut", desc := "(J)J" } : Jvm.MethodName)) ∈ TB := tb_lw (lw_t4 (i := 217) rfl) rfl
theorem k_938 : (Jvm.Cond.selects "CrossroadsCarts$Tape" ({ cls := "CrossroadsCarts$Tape", name := "cut", desc := "(J)J" } : Jvm.MethodName) ({ cls := "CrossroadsCarts$Tape", name := "cut", desc := "(J)J" } : Jvm.MethodName)) ∈ TB := tb_lw (lw_t4 (i := 218) rfl) rfl
theorem k_939 : (Jvm.Cond.code ({ cls := "CrossroadsCarts$Tape", name := "cut", desc := "(J)J" } : Jvm.MethodName) prog_9_method_5_code (3 : Nat) (Option.some Jvm.ClassFile.FieldType.long)) ∈ TB := tb_lw (lw_t4 (i := 219) rfl) rfl
theorem k_948 : (Jvm.Cond.methodLink "CrossroadsCarts" (315 : Nat) ({ cls := "java/lang/System", name := "arraycopy", desc := "(Ljava/lang/Object;ILjava/lang/Object;II)V" } : Jvm.MethodName)) ∈ TB := tb_lw (lw_t4 (i := 228) rfl) rfl
theorem k_954 : (Jvm.Cond.methodLink "CrossroadsCartsModel" (1 : Nat) ({ cls := "java/lang/Object", name := "<init>", desc := "()V" } : Jvm.MethodName)) ∈ TB := tb_lw (lw_t4 (i := 234) rfl) rfl
theorem k_955 : (Jvm.Cond.fieldLink "CrossroadsCartsModel" (7 : Nat) "CrossroadsCartsModel" "towns" "I") ∈ TB := tb_lw (lw_t4 (i := 235) rfl) rfl
theorem k_956 : (Jvm.Cond.fieldLink "CrossroadsCartsModel" (13 : Nat) "CrossroadsCartsModel" "families" "I") ∈ TB := tb_lw (lw_t4 (i := 236) rfl) rfl
theorem k_957 : (Jvm.Cond.fieldLink "CrossroadsCartsModel" (16 : Nat) "CrossroadsCartsModel" "years" "I") ∈ TB := tb_lw (lw_t4 (i := 237) rfl) rfl
theorem k_958 : (Jvm.Cond.fieldLink "CrossroadsCartsModel" (19 : Nat) "CrossroadsCartsModel" "houses" "[I") ∈ TB := tb_lw (lw_t4 (i := 238) rfl) rfl
theorem k_959 : (Jvm.Cond.fieldLink "CrossroadsCartsModel" (23 : Nat) "CrossroadsCartsModel" "level" "[I") ∈ TB := tb_lw (lw_t4 (i := 239) rfl) rfl
theorem k_960 : (Jvm.Cond.fieldLink "CrossroadsCartsModel" (26 : Nat) "CrossroadsCartsModel" "rent" "[I") ∈ TB := tb_lw (lw_t5 (i := 0) rfl) rfl
theorem k_961 : (Jvm.Cond.fieldLink "CrossroadsCartsModel" (29 : Nat) "CrossroadsCartsModel" "gate" "[I") ∈ TB := tb_lw (lw_t5 (i := 1) rfl) rfl
theorem k_962 : (Jvm.Cond.fieldLink "CrossroadsCartsModel" (32 : Nat) "CrossroadsCartsModel" "above" "[I") ∈ TB := tb_lw (lw_t5 (i := 2) rfl) rfl
theorem k_963 : (Jvm.Cond.fieldLink "CrossroadsCartsModel" (35 : Nat) "CrossroadsCartsModel" "sortOf" "[I") ∈ TB := tb_lw (lw_t5 (i := 3) rfl) rfl
theorem k_964 : (Jvm.Cond.fieldLink "CrossroadsCartsModel" (38 : Nat) "CrossroadsCartsModel" "income" "[I") ∈ TB := tb_lw (lw_t5 (i := 4) rfl) rfl
theorem k_965 : (Jvm.Cond.fieldLink "CrossroadsCartsModel" (41 : Nat) "CrossroadsCartsModel" "townOf" "[I") ∈ TB := tb_lw (lw_t5 (i := 5) rfl) rfl
theorem k_966 : (Jvm.Cond.fieldLink "CrossroadsCartsModel" (44 : Nat) "CrossroadsCartsModel" "home" "[I") ∈ TB := tb_lw (lw_t5 (i := 6) rfl) rfl
theorem k_967 : (Jvm.Cond.fieldLink "CrossroadsCartsModel" (47 : Nat) "CrossroadsCartsModel" "lands" "I") ∈ TB := tb_lw (lw_t5 (i := 7) rfl) rfl
theorem k_968 : (Jvm.Cond.fieldLink "CrossroadsCartsModel" (50 : Nat) "CrossroadsCartsModel" "fed" "I") ∈ TB := tb_lw (lw_t5 (i := 8) rfl) rfl
theorem k_969 : (Jvm.Cond.fieldLink "CrossroadsCartsModel" (53 : Nat) "CrossroadsCartsModel" "text" "[I") ∈ TB := tb_lw (lw_t5 (i := 9) rfl) rfl
theorem k_970 : (Jvm.Cond.fieldLink "CrossroadsCartsModel" (56 : Nat) "CrossroadsCartsModel" "size" "[I") ∈ TB := tb_lw (lw_t5 (i := 10) rfl) rfl
theorem k_971 : (Jvm.Cond.fieldLink "CrossroadsCartsModel" (59 : Nat) "CrossroadsCartsModel" "facts" "[I") ∈ TB := tb_lw (lw_t5 (i := 11) rfl) rfl
theorem k_972 : (Jvm.Cond.fieldLink "CrossroadsCartsModel" (62 : Nat) "CrossroadsCartsModel" "base" "I") ∈ TB := tb_lw (lw_t5 (i := 12) rfl) rfl
theorem k_973 : (Jvm.Cond.fieldLink "CrossroadsCartsModel" (65 : Nat) "CrossroadsCartsModel" "many" "I") ∈ TB := tb_lw (lw_t5 (i := 13) rfl) rfl
theorem k_974 : (Jvm.Cond.fieldLink "CrossroadsCartsModel" (68 : Nat) "CrossroadsCartsModel" "at" "I") ∈ TB := tb_lw (lw_t5 (i := 14) rfl) rfl
theorem k_975 : (Jvm.Cond.fieldLink "CrossroadsCartsModel" (71 : Nat) "CrossroadsCartsModel" "digits" "I") ∈ TB := tb_lw (lw_t5 (i := 15) rfl) rfl
theorem k_976 : (Jvm.Cond.fieldLink "CrossroadsCartsModel" (74 : Nat) "CrossroadsCartsModel" "shunned" "I") ∈ TB := tb_lw (lw_t5 (i := 16) rfl) rfl
theorem k_977 : (Jvm.Cond.fieldLink "CrossroadsCartsModel" (77 : Nat) "CrossroadsCartsModel" "like" "[I") ∈ TB := tb_lw (lw_t5 (i := 17) rfl) rfl
theorem k_978 : (Jvm.Cond.fieldLink "CrossroadsCartsModel" (80 : Nat) "CrossroadsCartsModel" "near" "[I") ∈ TB := tb_lw (lw_t5 (i := 18) rfl) rfl
theorem k_979 : (Jvm.Cond.fieldLink "CrossroadsCartsModel" (83 : Nat) "CrossroadsCartsModel" "costs" "[I") ∈ TB := tb_lw (lw_t5 (i := 19) rfl) rfl
theorem k_980 : (Jvm.Cond.fieldLink "CrossroadsCartsModel" (86 : Nat) "CrossroadsCartsModel" "mile" "I") ∈ TB := tb_lw (lw_t5 (i := 20) rfl) rfl
theorem k_981 : (Jvm.Cond.fieldLink "CrossroadsCartsModel" (89 : Nat) "CrossroadsCartsModel" "duesBy" "I") ∈ TB := tb_lw (lw_t5 (i := 21) rfl) rfl
theorem k_982 : (Jvm.Cond.fieldLink "CrossroadsCartsModel" (92 : Nat) "CrossroadsCartsModel" "pickBy" "I") ∈ TB := tb_lw (lw_t5 (i := 22) rfl) rfl
theorem k_983 : (Jvm.Cond.fieldLink "CrossroadsCartsModel" (95 : Nat) "CrossroadsCartsModel" "shun" "[I") ∈ TB := tb_lw (lw_t5 (i := 23) rfl) rfl
theorem k_984 : (Jvm.Cond.fieldLink "CrossroadsCartsModel" (98 : Nat) "CrossroadsCartsModel" "isShunKnown" "Z") ∈ TB := tb_lw (lw_t5 (i := 24) rfl) rfl
theorem k_985 : (Jvm.Cond.fieldLink "CrossroadsCartsModel" (102 : Nat) "CrossroadsCartsModel" "waits" "[I") ∈ TB := tb_lw (lw_t5 (i := 25) rfl) rfl
theorem k_986 : (Jvm.Cond.fieldLink "CrossroadsCartsModel" (105 : Nat) "CrossroadsCartsModel" "pile" "[Z") ∈ TB := tb_lw (lw_t5 (i := 26) rfl) rfl
theorem k_987 : (Jvm.Cond.fieldLink "CrossroadsCartsModel" (109 : Nat) "CrossroadsCartsModel" "waiting" "I") ∈ TB := tb_lw (lw_t5 (i := 27) rfl) rfl
theorem k_988 : (Jvm.Cond.fieldLink "CrossroadsCartsModel" (112 : Nat) "CrossroadsCartsModel" "piled" "I") ∈ TB := tb_lw (lw_t5 (i := 28) rfl) rfl
theorem k_989 : (Jvm.Cond.fieldLink "CrossroadsCartsModel" (115 : Nat) "CrossroadsCartsModel" "open" "I") ∈ TB := tb_lw (lw_t5 (i := 29) rfl) rfl
theorem k_990 : (Jvm.Cond.fieldLink "CrossroadsCartsModel" (118 : Nat) "CrossroadsCartsModel" "likeTold" "[I") ∈ TB := tb_lw (lw_t5 (i := 30) rfl) rfl
theorem k_991 : (Jvm.Cond.fieldLink "CrossroadsCartsModel" (121 : Nat) "CrossroadsCartsModel" "nearTold" "[I") ∈ TB := tb_lw (lw_t5 (i := 31) rfl) rfl
theorem k_992 : (Jvm.Cond.fieldLink "CrossroadsCartsModel" (124 : Nat) "CrossroadsCartsModel" "costTold" "[I") ∈ TB := tb_lw (lw_t5 (i := 32) rfl) rfl
theorem k_993 : (Jvm.Cond.fieldLink "CrossroadsCartsModel" (127 : Nat) "CrossroadsCartsModel" "mileTold" "I") ∈ TB := tb_lw (lw_t5 (i := 33) rfl) rfl
theorem k_994 : (Jvm.Cond.fieldLink "CrossroadsCartsModel" (130 : Nat) "CrossroadsCartsModel" "duesTold" "I") ∈ TB := tb_lw (lw_t5 (i := 34) rfl) rfl
theorem k_995 : (Jvm.Cond.fieldLink "CrossroadsCartsModel" (133 : Nat) "CrossroadsCartsModel" "pickTold" "I") ∈ TB := tb_lw (lw_t5 (i := 35) rfl) rfl
theorem k_996 : (Jvm.Cond.fieldLink "CrossroadsCartsModel" (136 : Nat) "CrossroadsCartsModel" "votes" "[I") ∈ TB := tb_lw (lw_t5 (i := 36) rfl) rfl
theorem k_997 : (Jvm.Cond.fieldLink "CrossroadsCartsModel" (139 : Nat) "CrossroadsCartsModel" "levelWas" "[I") ∈ TB := tb_lw (lw_t5 (i := 37) rfl) rfl
theorem k_998 : (Jvm.Cond.fieldLink "CrossroadsCartsModel" (142 : Nat) "CrossroadsCartsModel" "townWas" "[I") ∈ TB := tb_lw (lw_t5 (i := 38) rfl) rfl
theorem k_999 : (Jvm.Cond.fieldLink "CrossroadsCartsModel" (145 : Nat) "CrossroadsCartsModel" "worthWas" "[J") ∈ TB := tb_lw (lw_t5 (i := 39) rfl) rfl
theorem k_1000 : (Jvm.Cond.fieldLink "CrossroadsCartsModel" (149 : Nat) "CrossroadsCartsModel" "behind" "[I") ∈ TB := tb_lw (lw_t5 (i := 40) rfl) rfl
theorem k_1001 : (Jvm.Cond.fieldLink "CrossroadsCartsModel" (152 : Nat) "CrossroadsCartsModel" "kept" "[I") ∈ TB := tb_lw (lw_t5 (i := 41) rfl) rfl
theorem k_1002 : (Jvm.Cond.fieldLink "CrossroadsCartsModel" (155 : Nat) "CrossroadsCartsModel" "sortWas" "[I") ∈ TB := tb_lw (lw_t5 (i := 42) rfl) rfl
theorem k_1003 : (Jvm.Cond.fieldLink "CrossroadsCartsModel" (158 : Nat) "CrossroadsCartsModel" "digit" "[I") ∈ TB := tb_lw (lw_t5 (i := 43) rfl) rfl
theorem k_1004 : (Jvm.Cond.fieldLink "CrossroadsCartsModel" (161 : Nat) "CrossroadsCartsModel" "plainEnd" "[I") ∈ TB := tb_lw (lw_t5 (i := 44) rfl) rfl
theorem k_1005 : (Jvm.Cond.fieldLink "CrossroadsCartsModel" (164 : Nat) "CrossroadsCartsModel" "laws" "I") ∈ TB := tb_lw (lw_t5 (i := 45) rfl) rfl
theorem k_1006 : (Jvm.Cond.fieldLink "CrossroadsCartsModel" (167 : Nat) "CrossroadsCartsModel" "lawWhat" "[I") ∈ TB := tb_lw (lw_t5 (i := 46) rfl) rfl
theorem k_1007 : (Jvm.Cond.fieldLink "CrossroadsCartsModel" (170 : Nat) "CrossroadsCartsModel" "lawTown" "[I") ∈ TB := tb_lw (lw_t5 (i := 47) rfl) rfl
theorem k_1008 : (Jvm.Cond.fieldLink "CrossroadsCartsModel" (173 : Nat) "CrossroadsCartsModel" "lawNumber" "[I") ∈ TB := tb_lw (lw_t5 (i := 48) rfl) rfl
theorem k_1009 : (Jvm.Cond.fieldLink "CrossroadsCartsModel" (176 : Nat) "CrossroadsCartsModel" "lawPrice" "[I") ∈ TB := tb_lw (lw_t5 (i := 49) rfl) rfl
theorem k_1010 : (Jvm.Cond.fieldLink "CrossroadsCartsModel" (179 : Nat) "CrossroadsCartsModel" "ran" "I") ∈ TB := tb_lw (lw_t5 (i := 50) rfl) rfl
theorem k_1011 : (Jvm.Cond.fieldLink "CrossroadsCartsModel" (182 : Nat) "CrossroadsCartsModel" "bodies" "[I") ∈ TB := tb_lw (lw_t5 (i := 51) rfl) rfl
theorem k_1012 : (Jvm.Cond.fieldLink "CrossroadsCartsModel" (185 : Nat) "CrossroadsCartsModel" "sort" "[I") ∈ TB := tb_lw (lw_t5 (i := 52) rfl) rfl
theorem k_1013 : (Jvm.Cond.fieldLink "CrossroadsCartsModel" (188 : Nat) "CrossroadsCartsModel" "length" "[I") ∈ TB := tb_lw (lw_t5 (i := 53) rfl) rfl
theorem k_1014 : (Jvm.Cond.fieldLink "CrossroadsCartsModel" (191 : Nat) "CrossroadsCartsModel" "item" "[J") ∈ TB := tb_lw (lw_t5 (i := 54) rfl) rfl
theorem k_1015 : (Jvm.Cond.fieldLink "CrossroadsCartsModel" (194 : Nat) "CrossroadsCartsModel" "aside" "[J") ∈ TB := tb_lw (lw_t5 (i := 55) rfl) rfl
theorem k_1016 : (Jvm.Cond.lays "CrossroadsCartsModel" "CrossroadsCartsModel" "towns" "I") ∈ TB := tb_lw (lw_t5 (i := 56) rfl) rfl
theorem k_1018 : (Jvm.Cond.lays "CrossroadsCartsModel" "CrossroadsCartsModel" "families" "I") ∈ TB := tb_lw (lw_t5 (i := 58) rfl) rfl
theorem k_1020 : (Jvm.Cond.lays "CrossroadsCartsModel" "CrossroadsCartsModel" "years" "I") ∈ TB := tb_lw (lw_t5 (i := 60) rfl) rfl
theorem k_1022 : (Jvm.Cond.laysFinal "CrossroadsCartsModel" "CrossroadsCartsModel" "houses" "[I") ∈ TB := tb_lw (lw_t5 (i := 62) rfl) rfl
theorem k_1024 : (Jvm.Cond.laysFinal "CrossroadsCartsModel" "CrossroadsCartsModel" "level" "[I") ∈ TB := tb_lw (lw_t5 (i := 64) rfl) rfl
theorem k_1026 : (Jvm.Cond.laysFinal "CrossroadsCartsModel" "CrossroadsCartsModel" "rent" "[I") ∈ TB := tb_lw (lw_t5 (i := 66) rfl) rfl
theorem k_1028 : (Jvm.Cond.laysFinal "CrossroadsCartsModel" "CrossroadsCartsModel" "gate" "[I") ∈ TB := tb_lw (lw_t5 (i := 68) rfl) rfl
theorem k_1030 : (Jvm.Cond.laysFinal "CrossroadsCartsModel" "CrossroadsCartsModel" "above" "[I") ∈ TB := tb_lw (lw_t5 (i := 70) rfl) rfl
theorem k_1032 : (Jvm.Cond.laysFinal "CrossroadsCartsModel" "CrossroadsCartsModel" "sortOf" "[I") ∈ TB := tb_lw (lw_t5 (i := 72) rfl) rfl
theorem k_1034 : (Jvm.Cond.laysFinal "CrossroadsCartsModel" "CrossroadsCartsModel" "income" "[I") ∈ TB := tb_lw (lw_t5 (i := 74) rfl) rfl
theorem k_1036 : (Jvm.Cond.laysFinal "CrossroadsCartsModel" "CrossroadsCartsModel" "townOf" "[I") ∈ TB := tb_lw (lw_t5 (i := 76) rfl) rfl
theorem k_1038 : (Jvm.Cond.laysFinal "CrossroadsCartsModel" "CrossroadsCartsModel" "home" "[I") ∈ TB := tb_lw (lw_t5 (i := 78) rfl) rfl
theorem k_1040 : (Jvm.Cond.lays "CrossroadsCartsModel" "CrossroadsCartsModel" "lands" "I") ∈ TB := tb_lw (lw_t5 (i := 80) rfl) rfl
theorem k_1042 : (Jvm.Cond.lays "CrossroadsCartsModel" "CrossroadsCartsModel" "fed" "I") ∈ TB := tb_lw (lw_t5 (i := 82) rfl) rfl
theorem k_1044 : (Jvm.Cond.laysFinal "CrossroadsCartsModel" "CrossroadsCartsModel" "text" "[I") ∈ TB := tb_lw (lw_t5 (i := 84) rfl) rfl
theorem k_1046 : (Jvm.Cond.laysFinal "CrossroadsCartsModel" "CrossroadsCartsModel" "size" "[I") ∈ TB := tb_lw (lw_t5 (i := 86) rfl) rfl
theorem k_1048 : (Jvm.Cond.laysFinal "CrossroadsCartsModel" "CrossroadsCartsModel" "facts" "[I") ∈ TB := tb_lw (lw_t5 (i := 88) rfl) rfl
theorem k_1050 : (Jvm.Cond.lays "CrossroadsCartsModel" "CrossroadsCartsModel" "base" "I") ∈ TB := tb_lw (lw_t5 (i := 90) rfl) rfl
theorem k_1052 : (Jvm.Cond.lays "CrossroadsCartsModel" "CrossroadsCartsModel" "many" "I") ∈ TB := tb_lw (lw_t5 (i := 92) rfl) rfl
theorem k_1054 : (Jvm.Cond.lays "CrossroadsCartsModel" "CrossroadsCartsModel" "at" "I") ∈ TB := tb_lw (lw_t5 (i := 94) rfl) rfl
theorem k_1056 : (Jvm.Cond.lays "CrossroadsCartsModel" "CrossroadsCartsModel" "digits" "I") ∈ TB := tb_lw (lw_t5 (i := 96) rfl) rfl
theorem k_1058 : (Jvm.Cond.lays "CrossroadsCartsModel" "CrossroadsCartsModel" "shunned" "I") ∈ TB := tb_lw (lw_t5 (i := 98) rfl) rfl
theorem k_1060 : (Jvm.Cond.laysFinal "CrossroadsCartsModel" "CrossroadsCartsModel" "like" "[I") ∈ TB := tb_lw (lw_t5 (i := 100) rfl) rfl
theorem k_1062 : (Jvm.Cond.laysFinal "CrossroadsCartsModel" "CrossroadsCartsModel" "near" "[I") ∈ TB := tb_lw (lw_t5 (i := 102) rfl) rfl
theorem k_1064 : (Jvm.Cond.laysFinal "CrossroadsCartsModel" "CrossroadsCartsModel" "costs" "[I") ∈ TB := tb_lw (lw_t5 (i := 104) rfl) rfl
theorem k_1066 : (Jvm.Cond.lays "CrossroadsCartsModel" "CrossroadsCartsModel" "mile" "I") ∈ TB := tb_lw (lw_t5 (i := 106) rfl) rfl
theorem k_1068 : (Jvm.Cond.lays "CrossroadsCartsModel" "CrossroadsCartsModel" "duesBy" "I") ∈ TB := tb_lw (lw_t5 (i := 108) rfl) rfl
theorem k_1070 : (Jvm.Cond.lays "CrossroadsCartsModel" "CrossroadsCartsModel" "pickBy" "I") ∈ TB := tb_lw (lw_t5 (i := 110) rfl) rfl
theorem k_1072 : (Jvm.Cond.laysFinal "CrossroadsCartsModel" "CrossroadsCartsModel" "shun" "[I") ∈ TB := tb_lw (lw_t5 (i := 112) rfl) rfl
theorem k_1074 : (Jvm.Cond.lays "CrossroadsCartsModel" "CrossroadsCartsModel" "isShunKnown" "Z") ∈ TB := tb_lw (lw_t5 (i := 114) rfl) rfl
theorem k_1076 : (Jvm.Cond.laysFinal "CrossroadsCartsModel" "CrossroadsCartsModel" "waits" "[I") ∈ TB := tb_lw (lw_t5 (i := 116) rfl) rfl
theorem k_1078 : (Jvm.Cond.laysFinal "CrossroadsCartsModel" "CrossroadsCartsModel" "pile" "[Z") ∈ TB := tb_lw (lw_t5 (i := 118) rfl) rfl
theorem k_1080 : (Jvm.Cond.lays "CrossroadsCartsModel" "CrossroadsCartsModel" "waiting" "I") ∈ TB := tb_lw (lw_t5 (i := 120) rfl) rfl
theorem k_1082 : (Jvm.Cond.lays "CrossroadsCartsModel" "CrossroadsCartsModel" "piled" "I") ∈ TB := tb_lw (lw_t5 (i := 122) rfl) rfl
theorem k_1084 : (Jvm.Cond.lays "CrossroadsCartsModel" "CrossroadsCartsModel" "open" "I") ∈ TB := tb_lw (lw_t5 (i := 124) rfl) rfl
theorem k_1086 : (Jvm.Cond.laysFinal "CrossroadsCartsModel" "CrossroadsCartsModel" "likeTold" "[I") ∈ TB := tb_lw (lw_t5 (i := 126) rfl) rfl
theorem k_1088 : (Jvm.Cond.laysFinal "CrossroadsCartsModel" "CrossroadsCartsModel" "nearTold" "[I") ∈ TB := tb_lw (lw_t5 (i := 128) rfl) rfl
theorem k_1090 : (Jvm.Cond.laysFinal "CrossroadsCartsModel" "CrossroadsCartsModel" "costTold" "[I") ∈ TB := tb_lw (lw_t5 (i := 130) rfl) rfl
theorem k_1092 : (Jvm.Cond.lays "CrossroadsCartsModel" "CrossroadsCartsModel" "mileTold" "I") ∈ TB := tb_lw (lw_t5 (i := 132) rfl) rfl
theorem k_1094 : (Jvm.Cond.lays "CrossroadsCartsModel" "CrossroadsCartsModel" "duesTold" "I") ∈ TB := tb_lw (lw_t5 (i := 134) rfl) rfl
theorem k_1096 : (Jvm.Cond.lays "CrossroadsCartsModel" "CrossroadsCartsModel" "pickTold" "I") ∈ TB := tb_lw (lw_t5 (i := 136) rfl) rfl
theorem k_1098 : (Jvm.Cond.laysFinal "CrossroadsCartsModel" "CrossroadsCartsModel" "votes" "[I") ∈ TB := tb_lw (lw_t5 (i := 138) rfl) rfl
theorem k_1100 : (Jvm.Cond.laysFinal "CrossroadsCartsModel" "CrossroadsCartsModel" "levelWas" "[I") ∈ TB := tb_lw (lw_t5 (i := 140) rfl) rfl
theorem k_1102 : (Jvm.Cond.laysFinal "CrossroadsCartsModel" "CrossroadsCartsModel" "townWas" "[I") ∈ TB := tb_lw (lw_t5 (i := 142) rfl) rfl
theorem k_1104 : (Jvm.Cond.laysFinal "CrossroadsCartsModel" "CrossroadsCartsModel" "worthWas" "[J") ∈ TB := tb_lw (lw_t5 (i := 144) rfl) rfl
theorem k_1106 : (Jvm.Cond.laysFinal "CrossroadsCartsModel" "CrossroadsCartsModel" "behind" "[I") ∈ TB := tb_lw (lw_t5 (i := 146) rfl) rfl
theorem k_1108 : (Jvm.Cond.laysFinal "CrossroadsCartsModel" "CrossroadsCartsModel" "kept" "[I") ∈ TB := tb_lw (lw_t5 (i := 148) rfl) rfl
theorem k_1110 : (Jvm.Cond.laysFinal "CrossroadsCartsModel" "CrossroadsCartsModel" "sortWas" "[I") ∈ TB := tb_lw (lw_t5 (i := 150) rfl) rfl
theorem k_1112 : (Jvm.Cond.laysFinal "CrossroadsCartsModel" "CrossroadsCartsModel" "digit" "[I") ∈ TB := tb_lw (lw_t5 (i := 152) rfl) rfl
theorem k_1114 : (Jvm.Cond.laysFinal "CrossroadsCartsModel" "CrossroadsCartsModel" "plainEnd" "[I") ∈ TB := tb_lw (lw_t5 (i := 154) rfl) rfl
theorem k_1116 : (Jvm.Cond.lays "CrossroadsCartsModel" "CrossroadsCartsModel" "laws" "I") ∈ TB := tb_lw (lw_t5 (i := 156) rfl) rfl
theorem k_1118 : (Jvm.Cond.laysFinal "CrossroadsCartsModel" "CrossroadsCartsModel" "lawWhat" "[I") ∈ TB := tb_lw (lw_t5 (i := 158) rfl) rfl
theorem k_1120 : (Jvm.Cond.laysFinal "CrossroadsCartsModel" "CrossroadsCartsModel" "lawTown" "[I") ∈ TB := tb_lw (lw_t5 (i := 160) rfl) rfl
theorem k_1122 : (Jvm.Cond.laysFinal "CrossroadsCartsModel" "CrossroadsCartsModel" "lawNumber" "[I") ∈ TB := tb_lw (lw_t5 (i := 162) rfl) rfl
theorem k_1124 : (Jvm.Cond.laysFinal "CrossroadsCartsModel" "CrossroadsCartsModel" "lawPrice" "[I") ∈ TB := tb_lw (lw_t5 (i := 164) rfl) rfl
theorem k_1126 : (Jvm.Cond.lays "CrossroadsCartsModel" "CrossroadsCartsModel" "ran" "I") ∈ TB := tb_lw (lw_t5 (i := 166) rfl) rfl
theorem k_1128 : (Jvm.Cond.laysFinal "CrossroadsCartsModel" "CrossroadsCartsModel" "bodies" "[I") ∈ TB := tb_lw (lw_t5 (i := 168) rfl) rfl
theorem k_1130 : (Jvm.Cond.laysFinal "CrossroadsCartsModel" "CrossroadsCartsModel" "sort" "[I") ∈ TB := tb_lw (lw_t5 (i := 170) rfl) rfl
theorem k_1132 : (Jvm.Cond.laysFinal "CrossroadsCartsModel" "CrossroadsCartsModel" "length" "[I") ∈ TB := tb_lw (lw_t5 (i := 172) rfl) rfl
theorem k_1134 : (Jvm.Cond.laysFinal "CrossroadsCartsModel" "CrossroadsCartsModel" "item" "[J") ∈ TB := tb_lw (lw_t5 (i := 174) rfl) rfl
theorem k_1136 : (Jvm.Cond.laysFinal "CrossroadsCartsModel" "CrossroadsCartsModel" "aside" "[J") ∈ TB := tb_lw (lw_t5 (i := 176) rfl) rfl
theorem k_1139 : (Jvm.Cond.arrayClass Jvm.ClassFile.FieldType.boolean) ∈ TB := tb_lw (lw_t5 (i := 179) rfl) rfl
theorem k_1144 : (Jvm.Cond.methodLink "CrossroadsCartsModel" (197 : Nat) ({ cls := "CrossroadsCartsModel", name := "in", desc := "(III)Z" } : Jvm.MethodName)) ∈ TB := tb_lw (lw_t5 (i := 184) rfl) rfl
theorem k_1146 : (Jvm.Cond.instanceMethod ({ cls := "CrossroadsCartsModel", name := "in", desc := "(III)Z" } : Jvm.MethodName)) ∈ TB := tb_lw (lw_t5 (i := 186) rfl) rfl
theorem k_1147 : (Jvm.Cond.code ({ cls := "CrossroadsCartsModel", name := "in", desc := "(III)Z" } : Jvm.MethodName) prog_12_method_2_code (4 : Nat) (Option.some Jvm.ClassFile.FieldType.boolean)) ∈ TB := tb_lw (lw_t5 (i := 187) rfl) rfl
theorem k_1152 : (Jvm.Cond.methodLink "CrossroadsCartsModel" (205 : Nat) ({ cls := "CrossroadsCartsModel", name := "isTown", desc := "(I)Z" } : Jvm.MethodName)) ∈ TB := tb_lw (lw_t5 (i := 192) rfl) rfl
theorem k_1154 : (Jvm.Cond.instanceMethod ({ cls := "CrossroadsCartsModel", name := "isTown", desc := "(I)Z" } : Jvm.MethodName)) ∈ TB := tb_lw (lw_t5 (i := 194) rfl) rfl
theorem k_1155 : (Jvm.Cond.code ({ cls := "CrossroadsCartsModel", name := "isTown", desc := "(I)Z" } : Jvm.MethodName) prog_12_method_5_code (2 : Nat) (Option.some Jvm.ClassFile.FieldType.boolean)) ∈ TB := tb_lw (lw_t5 (i := 195) rfl) rfl
theorem k_1156 : (Jvm.Cond.methodLink "CrossroadsCartsModel" (209 : Nat) ({ cls := "CrossroadsCartsModel", name := "isFree", desc := "(I)Z" } : Jvm.MethodName)) ∈ TB := tb_lw (lw_t5 (i := 196) rfl) rfl
theorem k_1158 : (Jvm.Cond.instanceMethod ({ cls := "CrossroadsCartsModel", name := "isFree", desc := "(I)Z" } : Jvm.MethodName)) ∈ TB := tb_lw (lw_t5 (i := 198) rfl) rfl
theorem k_1159 : (Jvm.Cond.code ({ cls := "CrossroadsCartsModel", name := "isFree", desc := "(I)Z" } : Jvm.MethodName) prog_12_method_8_code (2 : Nat) (Option.some Jvm.ClassFile.FieldType.boolean)) ∈ TB := tb_lw (lw_t5 (i := 199) rfl) rfl
theorem k_1160 : (Jvm.Cond.methodLink "CrossroadsCartsModel" (201 : Nat) ({ cls := "CrossroadsCartsModel", name := "manyIn", desc := "(I)I" } : Jvm.MethodName)) ∈ TB := tb_lw (lw_t5 (i := 200) rfl) rfl
theorem k_1162 : (Jvm.Cond.instanceMethod ({ cls := "CrossroadsCartsModel", name := "manyIn", desc := "(I)I" } : Jvm.MethodName)) ∈ TB := tb_lw (lw_t5 (i := 202) rfl) rfl
theorem k_1163 : (Jvm.Cond.code ({ cls := "CrossroadsCartsModel", name := "manyIn", desc := "(I)I" } : Jvm.MethodName) prog_12_method_7_code (4 : Nat) (Option.some Jvm.ClassFile.FieldType.int)) ∈ TB := tb_lw (lw_t5 (i := 203) rfl) rfl
theorem k_1164 : (Jvm.Cond.methodLink "CrossroadsCartsModel" (212 : Nat) ({ cls := "CrossroadsCartsModel", name := "add", desc := "(III)V" } : Jvm.MethodName)) ∈ TB := tb_lw (lw_t5 (i := 204) rfl) rfl
theorem k_1166 : (Jvm.Cond.instanceMethod ({ cls := "CrossroadsCartsModel", name := "add", desc := "(III)V" } : Jvm.MethodName)) ∈ TB := tb_lw (lw_t5 (i := 206) rfl) rfl
theorem k_1167 : (Jvm.Cond.code ({ cls := "CrossroadsCartsModel", name := "add", desc := "(III)V" } : Jvm.MethodName) prog_12_method_10_code (4 : Nat) (Option.none : Option Jvm.ClassFile.FieldType)) ∈ TB := tb_lw (lw_t5 (i := 207) rfl) rfl
theorem k_1176 : (Jvm.Cond.methodLink "CrossroadsCartsModel" (216 : Nat) ({ cls := "CrossroadsCartsModel", name := "isFamily", desc := "(I)Z" } : Jvm.MethodName)) ∈ TB := tb_lw (lw_t5 (i := 216) rfl) rfl
theorem k_1178 : (Jvm.Cond.instanceMethod ({ cls := "CrossroadsCartsModel", name := "isFamily", desc := "(I)Z" } : Jvm.MethodName)) ∈ TB := tb_lw (lw_t5 (i := 218) rfl) rfl
theorem k_1179 : (Jvm.Cond.code ({ cls := "CrossroadsCartsModel", name := "isFamily", desc := "(I)Z" } : Jvm.MethodName) prog_12_method_6_code (2 : Nat) (Option.some Jvm.ClassFile.FieldType.boolean)) ∈ TB := tb_lw (lw_t5 (i := 219) rfl) rfl
theorem k_1180 : (Jvm.Cond.constantLong "CrossroadsCartsModel" (219 : Nat) (-9223372036854775808 : Int64)) ∈ TB := tb_lw (lw_t5 (i := 220) rfl) rfl
theorem k_1181 : (Jvm.Cond.methodLink "CrossroadsCartsModel" (221 : Nat) ({ cls := "CrossroadsCartsModel", name := "dues", desc := "(II)I" } : Jvm.MethodName)) ∈ TB := tb_lw (lw_t5 (i := 221) rfl) rfl
theorem k_1183 : (Jvm.Cond.instanceMethod ({ cls := "CrossroadsCartsModel", name := "dues", desc := "(II)I" } : Jvm.MethodName)) ∈ TB := tb_lw (lw_t5 (i := 223) rfl) rfl
theorem k_1184 : (Jvm.Cond.code ({ cls := "CrossroadsCartsModel", name := "dues", desc := "(II)I" } : Jvm.MethodName) prog_12_method_34_code (8 : Nat) (Option.some Jvm.ClassFile.FieldType.int)) ∈ TB := tb_lw (lw_t5 (i := 224) rfl) rfl
theorem k_1185 : (Jvm.Cond.methodLink "CrossroadsCartsModel" (229 : Nat) ({ cls := "CrossroadsCartsModel", name := "costOf", desc := "(I)I" } : Jvm.MethodName)) ∈ TB := tb_lw (lw_t5 (i := 225) rfl) rfl
theorem k_1187 : (Jvm.Cond.instanceMethod ({ cls := "CrossroadsCartsModel", name := "costOf", desc := "(I)I" } : Jvm.MethodName)) ∈ TB := tb_lw (lw_t5 (i := 227) rfl) rfl
theorem k_1188 : (Jvm.Cond.code ({ cls := "CrossroadsCartsModel", name := "costOf", desc := "(I)I" } : Jvm.MethodName) prog_12_method_33_code (4 : Nat) (Option.some Jvm.ClassFile.FieldType.int)) ∈ TB := tb_lw (lw_t5 (i := 228) rfl) rfl
theorem k_1189 : (Jvm.Cond.methodLink "CrossroadsCartsModel" (225 : Nat) ({ cls := "CrossroadsCartsModel", name := "worthOf", desc := "(II)J" } : Jvm.MethodName)) ∈ TB := tb_lw (lw_t5 (i := 229) rfl) rfl
theorem k_1191 : (Jvm.Cond.instanceMethod ({ cls := "CrossroadsCartsModel", name := "worthOf", desc := "(II)J" } : Jvm.MethodName)) ∈ TB := tb_lw (lw_t5 (i := 231) rfl) rfl
theorem k_1192 : (Jvm.Cond.code ({ cls := "CrossroadsCartsModel", name := "worthOf", desc := "(II)J" } : Jvm.MethodName) prog_12_method_35_code (7 : Nat) (Option.some Jvm.ClassFile.FieldType.long)) ∈ TB := tb_lw (lw_t5 (i := 232) rfl) rfl
theorem k_1193 : (Jvm.Cond.methodLink "CrossroadsCartsModel" (289 : Nat) ({ cls := "CrossroadsCartsModel", name := "findShun", desc := "()V" } : Jvm.MethodName)) ∈ TB := tb_lw (lw_t5 (i := 233) rfl) rfl
theorem k_1195 : (Jvm.Cond.instanceMethod ({ cls := "CrossroadsCartsModel", name := "findShun", desc := "()V" } : Jvm.MethodName)) ∈ TB := tb_lw (lw_t5 (i := 235) rfl) rfl
theorem k_1196 : (Jvm.Cond.code ({ cls := "CrossroadsCartsModel", name := "findShun", desc := "()V" } : Jvm.MethodName) prog_12_method_32_code (4 : Nat) (Option.none : Option Jvm.ClassFile.FieldType)) ∈ TB := tb_lw (lw_t5 (i := 236) rfl) rfl
theorem k_1197 : (Jvm.Cond.methodLink "CrossroadsCartsModel" (286 : Nat) ({ cls := "CrossroadsCartsModel", name := "goes", desc := "(I)Z" } : Jvm.MethodName)) ∈ TB := tb_lw (lw_t5 (i := 237) rfl) rfl
theorem k_1199 : (Jvm.Cond.instanceMethod ({ cls := "CrossroadsCartsModel", name := "goes", desc := "(I)Z" } : Jvm.MethodName)) ∈ TB := tb_lw (lw_t5 (i := 239) rfl) rfl
theorem k_1200 : (Jvm.Cond.code ({ cls := "CrossroadsCartsModel", name := "goes", desc := "(I)Z" } : Jvm.MethodName) prog_12_method_30_code (4 : Nat) (Option.some Jvm.ClassFile.FieldType.boolean)) ∈ TB := tb_lw (lw_t6 (i := 0) rfl) rfl
theorem k_1201 : (Jvm.Cond.methodLink "CrossroadsCartsModel" (283 : Nat) ({ cls := "CrossroadsCartsModel", name := "takesClause", desc := "()Z" } : Jvm.MethodName)) ∈ TB := tb_lw (lw_t6 (i := 1) rfl) rfl
theorem k_1203 : (Jvm.Cond.instanceMethod ({ cls := "CrossroadsCartsModel", name := "takesClause", desc := "()Z" } : Jvm.MethodName)) ∈ TB := tb_lw (lw_t6 (i := 3) rfl) rfl
theorem k_1204 : (Jvm.Cond.code ({ cls := "CrossroadsCartsModel", name := "takesClause", desc := "()Z" } : Jvm.MethodName) prog_12_method_29_code (2 : Nat) (Option.some Jvm.ClassFile.FieldType.boolean)) ∈ TB := tb_lw (lw_t6 (i := 4) rfl) rfl
theorem k_1205 : (Jvm.Cond.methodLink "CrossroadsCartsModel" (232 : Nat) ({ cls := "CrossroadsCartsModel", name := "next", desc := "()I" } : Jvm.MethodName)) ∈ TB := tb_lw (lw_t6 (i := 5) rfl) rfl
theorem k_1207 : (Jvm.Cond.instanceMethod ({ cls := "CrossroadsCartsModel", name := "next", desc := "()I" } : Jvm.MethodName)) ∈ TB := tb_lw (lw_t6 (i := 7) rfl) rfl
theorem k_1208 : (Jvm.Cond.code ({ cls := "CrossroadsCartsModel", name := "next", desc := "()I" } : Jvm.MethodName) prog_12_method_16_code (1 : Nat) (Option.some Jvm.ClassFile.FieldType.int)) ∈ TB := tb_lw (lw_t6 (i := 8) rfl) rfl
theorem k_1209 : (Jvm.Cond.constant "CrossroadsCartsModel" (269 : Nat) (402789 : Int32)) ∈ TB := tb_lw (lw_t6 (i := 9) rfl) rfl
theorem k_1210 : (Jvm.Cond.methodLink "CrossroadsCartsModel" (261 : Nat) ({ cls := "CrossroadsCartsModel", name := "takesWord", desc := "(II)Z" } : Jvm.MethodName)) ∈ TB := tb_lw (lw_t6 (i := 10) rfl) rfl
theorem k_1212 : (Jvm.Cond.instanceMethod ({ cls := "CrossroadsCartsModel", name := "takesWord", desc := "(II)Z" } : Jvm.MethodName)) ∈ TB := tb_lw (lw_t6 (i := 12) rfl) rfl
theorem k_1213 : (Jvm.Cond.code ({ cls := "CrossroadsCartsModel", name := "takesWord", desc := "(II)Z" } : Jvm.MethodName) prog_12_method_19_code (4 : Nat) (Option.some Jvm.ClassFile.FieldType.boolean)) ∈ TB := tb_lw (lw_t6 (i := 13) rfl) rfl
theorem k_1214 : (Jvm.Cond.methodLink "CrossroadsCartsModel" (236 : Nat) ({ cls := "CrossroadsCartsModel", name := "takes", desc := "(I)Z" } : Jvm.MethodName)) ∈ TB := tb_lw (lw_t6 (i := 14) rfl) rfl
theorem k_1216 : (Jvm.Cond.instanceMethod ({ cls := "CrossroadsCartsModel", name := "takes", desc := "(I)Z" } : Jvm.MethodName)) ∈ TB := tb_lw (lw_t6 (i := 16) rfl) rfl
theorem k_1217 : (Jvm.Cond.code ({ cls := "CrossroadsCartsModel", name := "takes", desc := "(I)Z" } : Jvm.MethodName) prog_12_method_18_code (2 : Nat) (Option.some Jvm.ClassFile.FieldType.boolean)) ∈ TB := tb_lw (lw_t6 (i := 17) rfl) rfl
theorem k_1218 : (Jvm.Cond.methodLink "CrossroadsCartsModel" (270 : Nat) ({ cls := "CrossroadsCartsModel", name := "takesTwo", desc := "(I)Z" } : Jvm.MethodName)) ∈ TB := tb_lw (lw_t6 (i := 18) rfl) rfl
theorem k_1220 : (Jvm.Cond.instanceMethod ({ cls := "CrossroadsCartsModel", name := "takesTwo", desc := "(I)Z" } : Jvm.MethodName)) ∈ TB := tb_lw (lw_t6 (i := 20) rfl) rfl
theorem k_1221 : (Jvm.Cond.code ({ cls := "CrossroadsCartsModel", name := "takesTwo", desc := "(I)Z" } : Jvm.MethodName) prog_12_method_26_code (4 : Nat) (Option.some Jvm.ClassFile.FieldType.boolean)) ∈ TB := tb_lw (lw_t6 (i := 21) rfl) rfl
theorem k_1222 : (Jvm.Cond.methodLink "CrossroadsCartsModel" (257 : Nat) ({ cls := "CrossroadsCartsModel", name := "takesFigure", desc := "(I)Z" } : Jvm.MethodName)) ∈ TB := tb_lw (lw_t6 (i := 22) rfl) rfl
theorem k_1224 : (Jvm.Cond.instanceMethod ({ cls := "CrossroadsCartsModel", name := "takesFigure", desc := "(I)Z" } : Jvm.MethodName)) ∈ TB := tb_lw (lw_t6 (i := 24) rfl) rfl
theorem k_1225 : (Jvm.Cond.code ({ cls := "CrossroadsCartsModel", name := "takesFigure", desc := "(I)Z" } : Jvm.MethodName) prog_12_method_21_code (2 : Nat) (Option.some Jvm.ClassFile.FieldType.boolean)) ∈ TB := tb_lw (lw_t6 (i := 25) rfl) rfl
theorem k_1226 : (Jvm.Cond.methodLink "CrossroadsCartsModel" (243 : Nat) ({ cls := "CrossroadsCartsModel", name := "takesNumber", desc := "()Z" } : Jvm.MethodName)) ∈ TB := tb_lw (lw_t6 (i := 26) rfl) rfl
theorem k_1228 : (Jvm.Cond.instanceMethod ({ cls := "CrossroadsCartsModel", name := "takesNumber", desc := "()Z" } : Jvm.MethodName)) ∈ TB := tb_lw (lw_t6 (i := 28) rfl) rfl
theorem k_1229 : (Jvm.Cond.code ({ cls := "CrossroadsCartsModel", name := "takesNumber", desc := "()Z" } : Jvm.MethodName) prog_12_method_20_code (2 : Nat) (Option.some Jvm.ClassFile.FieldType.boolean)) ∈ TB := tb_lw (lw_t6 (i := 29) rfl) rfl
theorem k_1230 : (Jvm.Cond.methodLink "CrossroadsCartsModel" (239 : Nat) ({ cls := "CrossroadsCartsModel", name := "isDigit", desc := "()Z" } : Jvm.MethodName)) ∈ TB := tb_lw (lw_t6 (i := 30) rfl) rfl
theorem k_1232 : (Jvm.Cond.instanceMethod ({ cls := "CrossroadsCartsModel", name := "isDigit", desc := "()Z" } : Jvm.MethodName)) ∈ TB := tb_lw (lw_t6 (i := 32) rfl) rfl
theorem k_1233 : (Jvm.Cond.code ({ cls := "CrossroadsCartsModel", name := "isDigit", desc := "()Z" } : Jvm.MethodName) prog_12_method_17_code (1 : Nat) (Option.some Jvm.ClassFile.FieldType.boolean)) ∈ TB := tb_lw (lw_t6 (i := 33) rfl) rfl
theorem k_1234 : (Jvm.Cond.constant "CrossroadsCartsModel" (273 : Nat) (463922 : Int32)) ∈ TB := tb_lw (lw_t6 (i := 34) rfl) rfl
theorem k_1235 : (Jvm.Cond.methodLink "CrossroadsCartsModel" (274 : Nat) ({ cls := "CrossroadsCartsModel", name := "takesCost", desc := "()Z" } : Jvm.MethodName)) ∈ TB := tb_lw (lw_t6 (i := 35) rfl) rfl
theorem k_1237 : (Jvm.Cond.instanceMethod ({ cls := "CrossroadsCartsModel", name := "takesCost", desc := "()Z" } : Jvm.MethodName)) ∈ TB := tb_lw (lw_t6 (i := 37) rfl) rfl
theorem k_1238 : (Jvm.Cond.code ({ cls := "CrossroadsCartsModel", name := "takesCost", desc := "()Z" } : Jvm.MethodName) prog_12_method_27_code (2 : Nat) (Option.some Jvm.ClassFile.FieldType.boolean)) ∈ TB := tb_lw (lw_t6 (i := 38) rfl) rfl
theorem k_1239 : (Jvm.Cond.constant "CrossroadsCartsModel" (260 : Nat) (114292 : Int32)) ∈ TB := tb_lw (lw_t6 (i := 39) rfl) rfl
theorem k_1240 : (Jvm.Cond.constant "CrossroadsCartsModel" (277 : Nat) (435589 : Int32)) ∈ TB := tb_lw (lw_t6 (i := 40) rfl) rfl
theorem k_1241 : (Jvm.Cond.constant "CrossroadsCartsModel" (278 : Nat) (152755 : Int32)) ∈ TB := tb_lw (lw_t6 (i := 41) rfl) rfl
theorem k_1242 : (Jvm.Cond.constant "CrossroadsCartsModel" (279 : Nat) (533611 : Int32)) ∈ TB := tb_lw (lw_t6 (i := 42) rfl) rfl
theorem k_1243 : (Jvm.Cond.methodLink "CrossroadsCartsModel" (280 : Nat) ({ cls := "CrossroadsCartsModel", name := "takesShun", desc := "()Z" } : Jvm.MethodName)) ∈ TB := tb_lw (lw_t6 (i := 43) rfl) rfl
theorem k_1245 : (Jvm.Cond.instanceMethod ({ cls := "CrossroadsCartsModel", name := "takesShun", desc := "()Z" } : Jvm.MethodName)) ∈ TB := tb_lw (lw_t6 (i := 45) rfl) rfl
theorem k_1246 : (Jvm.Cond.code ({ cls := "CrossroadsCartsModel", name := "takesShun", desc := "()Z" } : Jvm.MethodName) prog_12_method_28_code (1 : Nat) (Option.some Jvm.ClassFile.FieldType.boolean)) ∈ TB := tb_lw (lw_t6 (i := 46) rfl) rfl
theorem k_1247 : (Jvm.Cond.constant "CrossroadsCartsModel" (265 : Nat) (631470 : Int32)) ∈ TB := tb_lw (lw_t6 (i := 47) rfl) rfl
theorem k_1248 : (Jvm.Cond.methodLink "CrossroadsCartsModel" (266 : Nat) ({ cls := "CrossroadsCartsModel", name := "takesE", desc := "()Z" } : Jvm.MethodName)) ∈ TB := tb_lw (lw_t6 (i := 48) rfl) rfl
theorem k_1250 : (Jvm.Cond.instanceMethod ({ cls := "CrossroadsCartsModel", name := "takesE", desc := "()Z" } : Jvm.MethodName)) ∈ TB := tb_lw (lw_t6 (i := 50) rfl) rfl
theorem k_1251 : (Jvm.Cond.code ({ cls := "CrossroadsCartsModel", name := "takesE", desc := "()Z" } : Jvm.MethodName) prog_12_method_25_code (3 : Nat) (Option.some Jvm.ClassFile.FieldType.boolean)) ∈ TB := tb_lw (lw_t6 (i := 51) rfl) rfl
theorem k_1252 : (Jvm.Cond.methodLink "CrossroadsCartsModel" (250 : Nat) ({ cls := "CrossroadsCartsModel", name := "takesTest", desc := "()Z" } : Jvm.MethodName)) ∈ TB := tb_lw (lw_t6 (i := 52) rfl) rfl
theorem k_1254 : (Jvm.Cond.instanceMethod ({ cls := "CrossroadsCartsModel", name := "takesTest", desc := "()Z" } : Jvm.MethodName)) ∈ TB := tb_lw (lw_t6 (i := 54) rfl) rfl
theorem k_1255 : (Jvm.Cond.code ({ cls := "CrossroadsCartsModel", name := "takesTest", desc := "()Z" } : Jvm.MethodName) prog_12_method_24_code (4 : Nat) (Option.some Jvm.ClassFile.FieldType.boolean)) ∈ TB := tb_lw (lw_t6 (i := 55) rfl) rfl
theorem k_1256 : (Jvm.Cond.methodLink "CrossroadsCartsModel" (246 : Nat) ({ cls := "CrossroadsCartsModel", name := "push", desc := "(Z)V" } : Jvm.MethodName)) ∈ TB := tb_lw (lw_t6 (i := 56) rfl) rfl
theorem k_1258 : (Jvm.Cond.instanceMethod ({ cls := "CrossroadsCartsModel", name := "push", desc := "(Z)V" } : Jvm.MethodName)) ∈ TB := tb_lw (lw_t6 (i := 58) rfl) rfl
theorem k_1259 : (Jvm.Cond.code ({ cls := "CrossroadsCartsModel", name := "push", desc := "(Z)V" } : Jvm.MethodName) prog_12_method_22_code (3 : Nat) (Option.none : Option Jvm.ClassFile.FieldType)) ∈ TB := tb_lw (lw_t6 (i := 59) rfl) rfl
theorem k_1260 : (Jvm.Cond.methodLink "CrossroadsCartsModel" (253 : Nat) ({ cls := "CrossroadsCartsModel", name := "settle", desc := "(I)V" } : Jvm.MethodName)) ∈ TB := tb_lw (lw_t6 (i := 60) rfl) rfl
theorem k_1262 : (Jvm.Cond.instanceMethod ({ cls := "CrossroadsCartsModel", name := "settle", desc := "(I)V" } : Jvm.MethodName)) ∈ TB := tb_lw (lw_t6 (i := 62) rfl) rfl
theorem k_1263 : (Jvm.Cond.code ({ cls := "CrossroadsCartsModel", name := "settle", desc := "(I)V" } : Jvm.MethodName) prog_12_method_23_code (2 : Nat) (Option.none : Option Jvm.ClassFile.FieldType)) ∈ TB := tb_lw (lw_t6 (i := 63) rfl) rfl
theorem k_1264 : (Jvm.Cond.methodLink "CrossroadsCartsModel" (292 : Nat) ({ cls := "CrossroadsCartsModel", name := "abs", desc := "(I)I" } : Jvm.MethodName)) ∈ TB := tb_lw (lw_t6 (i := 64) rfl) rfl
theorem k_1266 : (Jvm.Cond.instanceMethod ({ cls := "CrossroadsCartsModel", name := "abs", desc := "(I)I" } : Jvm.MethodName)) ∈ TB := tb_lw (lw_t6 (i := 66) rfl) rfl
theorem k_1267 : (Jvm.Cond.code ({ cls := "CrossroadsCartsModel", name := "abs", desc := "(I)I" } : Jvm.MethodName) prog_12_method_3_code (2 : Nat) (Option.some Jvm.ClassFile.FieldType.int)) ∈ TB := tb_lw (lw_t6 (i := 67) rfl) rfl
theorem k_1288 : (Jvm.Cond.methodLink "CrossroadsCartsModel" (299 : Nat) ({ cls := "CrossroadsCartsModel", name := "choiceOf", desc := "(II)I" } : Jvm.MethodName)) ∈ TB := tb_lw (lw_t6 (i := 88) rfl) rfl
theorem k_1290 : (Jvm.Cond.instanceMethod ({ cls := "CrossroadsCartsModel", name := "choiceOf", desc := "(II)I" } : Jvm.MethodName)) ∈ TB := tb_lw (lw_t6 (i := 90) rfl) rfl
theorem k_1291 : (Jvm.Cond.code ({ cls := "CrossroadsCartsModel", name := "choiceOf", desc := "(II)I" } : Jvm.MethodName) prog_12_method_38_code (7 : Nat) (Option.some Jvm.ClassFile.FieldType.int)) ∈ TB := tb_lw (lw_t6 (i := 91) rfl) rfl
theorem k_1292 : (Jvm.Cond.methodLink "CrossroadsCartsModel" (295 : Nat) ({ cls := "CrossroadsCartsModel", name := "wants", desc := "(III)I" } : Jvm.MethodName)) ∈ TB := tb_lw (lw_t6 (i := 92) rfl) rfl
theorem k_1294 : (Jvm.Cond.instanceMethod ({ cls := "CrossroadsCartsModel", name := "wants", desc := "(III)I" } : Jvm.MethodName)) ∈ TB := tb_lw (lw_t6 (i := 94) rfl) rfl
theorem k_1295 : (Jvm.Cond.code ({ cls := "CrossroadsCartsModel", name := "wants", desc := "(III)I" } : Jvm.MethodName) prog_12_method_37_code (11 : Nat) (Option.some Jvm.ClassFile.FieldType.int)) ∈ TB := tb_lw (lw_t6 (i := 95) rfl) rfl
theorem k_1300 : (Jvm.Cond.methodLink "CrossroadsCartsModel" (302 : Nat) ({ cls := "CrossroadsCartsModel", name := "chooses", desc := "(I)I" } : Jvm.MethodName)) ∈ TB := tb_lw (lw_t6 (i := 100) rfl) rfl
theorem k_1302 : (Jvm.Cond.instanceMethod ({ cls := "CrossroadsCartsModel", name := "chooses", desc := "(I)I" } : Jvm.MethodName)) ∈ TB := tb_lw (lw_t6 (i := 102) rfl) rfl
theorem k_1303 : (Jvm.Cond.code ({ cls := "CrossroadsCartsModel", name := "chooses", desc := "(I)I" } : Jvm.MethodName) prog_12_method_40_code (5 : Nat) (Option.some Jvm.ClassFile.FieldType.int)) ∈ TB := tb_lw (lw_t6 (i := 103) rfl) rfl
theorem k_1308 : (Jvm.Cond.methodLink "CrossroadsCartsModel" (335 : Nat) ({ cls := "CrossroadsCartsModel", name := "isRest", desc := "(I)Z" } : Jvm.MethodName)) ∈ TB := tb_lw (lw_t6 (i := 108) rfl) rfl
theorem k_1310 : (Jvm.Cond.instanceMethod ({ cls := "CrossroadsCartsModel", name := "isRest", desc := "(I)Z" } : Jvm.MethodName)) ∈ TB := tb_lw (lw_t6 (i := 110) rfl) rfl
theorem k_1311 : (Jvm.Cond.code ({ cls := "CrossroadsCartsModel", name := "isRest", desc := "(I)Z" } : Jvm.MethodName) prog_12_method_51_code (2 : Nat) (Option.some Jvm.ClassFile.FieldType.boolean)) ∈ TB := tb_lw (lw_t6 (i := 111) rfl) rfl
theorem k_1312 : (Jvm.Cond.methodLink "CrossroadsCartsModel" (332 : Nat) ({ cls := "CrossroadsCartsModel", name := "breakOf", desc := "(I)I" } : Jvm.MethodName)) ∈ TB := tb_lw (lw_t6 (i := 112) rfl) rfl
theorem k_1314 : (Jvm.Cond.instanceMethod ({ cls := "CrossroadsCartsModel", name := "breakOf", desc := "(I)I" } : Jvm.MethodName)) ∈ TB := tb_lw (lw_t6 (i := 114) rfl) rfl
theorem k_1315 : (Jvm.Cond.code ({ cls := "CrossroadsCartsModel", name := "breakOf", desc := "(I)I" } : Jvm.MethodName) prog_12_method_50_code (3 : Nat) (Option.some Jvm.ClassFile.FieldType.int)) ∈ TB := tb_lw (lw_t6 (i := 115) rfl) rfl
theorem k_1316 : (Jvm.Cond.methodLink "CrossroadsCartsModel" (317 : Nat) ({ cls := "CrossroadsCartsModel", name := "stayBreak", desc := "()I" } : Jvm.MethodName)) ∈ TB := tb_lw (lw_t6 (i := 116) rfl) rfl
theorem k_1318 : (Jvm.Cond.instanceMethod ({ cls := "CrossroadsCartsModel", name := "stayBreak", desc := "()I" } : Jvm.MethodName)) ∈ TB := tb_lw (lw_t6 (i := 118) rfl) rfl
theorem k_1319 : (Jvm.Cond.code ({ cls := "CrossroadsCartsModel", name := "stayBreak", desc := "()I" } : Jvm.MethodName) prog_12_method_44_code (5 : Nat) (Option.some Jvm.ClassFile.FieldType.int)) ∈ TB := tb_lw (lw_t6 (i := 119) rfl) rfl
theorem k_1320 : (Jvm.Cond.methodLink "CrossroadsCartsModel" (308 : Nat) ({ cls := "CrossroadsCartsModel", name := "canGo", desc := "(II)Z" } : Jvm.MethodName)) ∈ TB := tb_lw (lw_t6 (i := 120) rfl) rfl
theorem k_1322 : (Jvm.Cond.instanceMethod ({ cls := "CrossroadsCartsModel", name := "canGo", desc := "(II)Z" } : Jvm.MethodName)) ∈ TB := tb_lw (lw_t6 (i := 122) rfl) rfl
theorem k_1323 : (Jvm.Cond.code ({ cls := "CrossroadsCartsModel", name := "canGo", desc := "(II)Z" } : Jvm.MethodName) prog_12_method_43_code (3 : Nat) (Option.some Jvm.ClassFile.FieldType.boolean)) ∈ TB := tb_lw (lw_t6 (i := 123) rfl) rfl
theorem k_1324 : (Jvm.Cond.methodLink "CrossroadsCartsModel" (305 : Nat) ({ cls := "CrossroadsCartsModel", name := "isHindered", desc := "(II)Z" } : Jvm.MethodName)) ∈ TB := tb_lw (lw_t6 (i := 124) rfl) rfl
theorem k_1326 : (Jvm.Cond.instanceMethod ({ cls := "CrossroadsCartsModel", name := "isHindered", desc := "(II)Z" } : Jvm.MethodName)) ∈ TB := tb_lw (lw_t6 (i := 126) rfl) rfl
theorem k_1327 : (Jvm.Cond.code ({ cls := "CrossroadsCartsModel", name := "isHindered", desc := "(II)Z" } : Jvm.MethodName) prog_12_method_42_code (3 : Nat) (Option.some Jvm.ClassFile.FieldType.boolean)) ∈ TB := tb_lw (lw_t6 (i := 127) rfl) rfl
theorem k_1328 : (Jvm.Cond.methodLink "CrossroadsCartsModel" (320 : Nat) ({ cls := "CrossroadsCartsModel", name := "rentBreak", desc := "()I" } : Jvm.MethodName)) ∈ TB := tb_lw (lw_t6 (i := 128) rfl) rfl
theorem k_1330 : (Jvm.Cond.instanceMethod ({ cls := "CrossroadsCartsModel", name := "rentBreak", desc := "()I" } : Jvm.MethodName)) ∈ TB := tb_lw (lw_t6 (i := 130) rfl) rfl
theorem k_1331 : (Jvm.Cond.code ({ cls := "CrossroadsCartsModel", name := "rentBreak", desc := "()I" } : Jvm.MethodName) prog_12_method_46_code (5 : Nat) (Option.some Jvm.ClassFile.FieldType.int)) ∈ TB := tb_lw (lw_t6 (i := 131) rfl) rfl
theorem k_1332 : (Jvm.Cond.methodLink "CrossroadsCartsModel" (323 : Nat) ({ cls := "CrossroadsCartsModel", name := "clubBreak", desc := "()I" } : Jvm.MethodName)) ∈ TB := tb_lw (lw_t6 (i := 132) rfl) rfl
theorem k_1334 : (Jvm.Cond.instanceMethod ({ cls := "CrossroadsCartsModel", name := "clubBreak", desc := "()I" } : Jvm.MethodName)) ∈ TB := tb_lw (lw_t6 (i := 134) rfl) rfl
theorem k_1335 : (Jvm.Cond.code ({ cls := "CrossroadsCartsModel", name := "clubBreak", desc := "()I" } : Jvm.MethodName) prog_12_method_49_code (4 : Nat) (Option.some Jvm.ClassFile.FieldType.int)) ∈ TB := tb_lw (lw_t6 (i := 135) rfl) rfl
theorem k_1336 : (Jvm.Cond.methodLink "CrossroadsCartsModel" (311 : Nat) ({ cls := "CrossroadsCartsModel", name := "ones", desc := "(I)I" } : Jvm.MethodName)) ∈ TB := tb_lw (lw_t6 (i := 136) rfl) rfl
theorem k_1338 : (Jvm.Cond.instanceMethod ({ cls := "CrossroadsCartsModel", name := "ones", desc := "(I)I" } : Jvm.MethodName)) ∈ TB := tb_lw (lw_t6 (i := 138) rfl) rfl
theorem k_1339 : (Jvm.Cond.code ({ cls := "CrossroadsCartsModel", name := "ones", desc := "(I)I" } : Jvm.MethodName) prog_12_method_4_code (4 : Nat) (Option.some Jvm.ClassFile.FieldType.int)) ∈ TB := tb_lw (lw_t6 (i := 139) rfl) rfl
theorem k_1340 : (Jvm.Cond.methodLink "CrossroadsCartsModel" (314 : Nat) ({ cls := "CrossroadsCartsModel", name := "isClub", desc := "(II)Z" } : Jvm.MethodName)) ∈ TB := tb_lw (lw_t6 (i := 140) rfl) rfl
theorem k_1342 : (Jvm.Cond.instanceMethod ({ cls := "CrossroadsCartsModel", name := "isClub", desc := "(II)Z" } : Jvm.MethodName)) ∈ TB := tb_lw (lw_t6 (i := 142) rfl) rfl
theorem k_1343 : (Jvm.Cond.code ({ cls := "CrossroadsCartsModel", name := "isClub", desc := "(II)Z" } : Jvm.MethodName) prog_12_method_48_code (5 : Nat) (Option.some Jvm.ClassFile.FieldType.boolean)) ∈ TB := tb_lw (lw_t6 (i := 143) rfl) rfl
theorem k_1344 : (Jvm.Cond.methodLink "CrossroadsCartsModel" (326 : Nat) ({ cls := "CrossroadsCartsModel", name := "voteBreak", desc := "()I" } : Jvm.MethodName)) ∈ TB := tb_lw (lw_t6 (i := 144) rfl) rfl
theorem k_1346 : (Jvm.Cond.instanceMethod ({ cls := "CrossroadsCartsModel", name := "voteBreak", desc := "()I" } : Jvm.MethodName)) ∈ TB := tb_lw (lw_t6 (i := 146) rfl) rfl
theorem k_1347 : (Jvm.Cond.code ({ cls := "CrossroadsCartsModel", name := "voteBreak", desc := "()I" } : Jvm.MethodName) prog_12_method_45_code (3 : Nat) (Option.some Jvm.ClassFile.FieldType.int)) ∈ TB := tb_lw (lw_t6 (i := 147) rfl) rfl
theorem k_1348 : (Jvm.Cond.methodLink "CrossroadsCartsModel" (329 : Nat) ({ cls := "CrossroadsCartsModel", name := "seerBreak", desc := "()I" } : Jvm.MethodName)) ∈ TB := tb_lw (lw_t6 (i := 148) rfl) rfl
theorem k_1350 : (Jvm.Cond.instanceMethod ({ cls := "CrossroadsCartsModel", name := "seerBreak", desc := "()I" } : Jvm.MethodName)) ∈ TB := tb_lw (lw_t6 (i := 150) rfl) rfl
theorem k_1351 : (Jvm.Cond.code ({ cls := "CrossroadsCartsModel", name := "seerBreak", desc := "()I" } : Jvm.MethodName) prog_12_method_47_code (9 : Nat) (Option.some Jvm.ClassFile.FieldType.int)) ∈ TB := tb_lw (lw_t6 (i := 151) rfl) rfl
theorem k_1364 : (Jvm.Cond.methodLink "CrossroadsCartsModel" (338 : Nat) ({ cls := "CrossroadsCartsModel", name := "stepOnce", desc := "(Z)I" } : Jvm.MethodName)) ∈ TB := tb_lw (lw_t6 (i := 164) rfl) rfl
theorem k_1366 : (Jvm.Cond.instanceMethod ({ cls := "CrossroadsCartsModel", name := "stepOnce", desc := "(Z)I" } : Jvm.MethodName)) ∈ TB := tb_lw (lw_t6 (i := 166) rfl) rfl
theorem k_1367 : (Jvm.Cond.code ({ cls := "CrossroadsCartsModel", name := "stepOnce", desc := "(Z)I" } : Jvm.MethodName) prog_12_method_55_code (8 : Nat) (Option.some Jvm.ClassFile.FieldType.int)) ∈ TB := tb_lw (lw_t6 (i := 167) rfl) rfl
theorem k_1372 : (Jvm.Cond.methodLink "CrossroadsCartsModel" (348 : Nat) ({ cls := "CrossroadsCartsModel", name := "endAll", desc := "(Z)I" } : Jvm.MethodName)) ∈ TB := tb_lw (lw_t6 (i := 172) rfl) rfl
theorem k_1374 : (Jvm.Cond.instanceMethod ({ cls := "CrossroadsCartsModel", name := "endAll", desc := "(Z)I" } : Jvm.MethodName)) ∈ TB := tb_lw (lw_t6 (i := 174) rfl) rfl
theorem k_1375 : (Jvm.Cond.code ({ cls := "CrossroadsCartsModel", name := "endAll", desc := "(Z)I" } : Jvm.MethodName) prog_12_method_59_code (4 : Nat) (Option.some Jvm.ClassFile.FieldType.int)) ∈ TB := tb_lw (lw_t6 (i := 175) rfl) rfl
theorem k_1376 : (Jvm.Cond.methodLink "CrossroadsCartsModel" (342 : Nat) ({ cls := "CrossroadsCartsModel", name := "keepState", desc := "(I)V" } : Jvm.MethodName)) ∈ TB := tb_lw (lw_t6 (i := 176) rfl) rfl
theorem k_1378 : (Jvm.Cond.instanceMethod ({ cls := "CrossroadsCartsModel", name := "keepState", desc := "(I)V" } : Jvm.MethodName)) ∈ TB := tb_lw (lw_t6 (i := 178) rfl) rfl
theorem k_1379 : (Jvm.Cond.code ({ cls := "CrossroadsCartsModel", name := "keepState", desc := "(I)V" } : Jvm.MethodName) prog_12_method_57_code (3 : Nat) (Option.none : Option Jvm.ClassFile.FieldType)) ∈ TB := tb_lw (lw_t6 (i := 179) rfl) rfl
theorem k_1380 : (Jvm.Cond.methodLink "CrossroadsCartsModel" (345 : Nat) ({ cls := "CrossroadsCartsModel", name := "isState", desc := "(I)Z" } : Jvm.MethodName)) ∈ TB := tb_lw (lw_t6 (i := 180) rfl) rfl
theorem k_1382 : (Jvm.Cond.instanceMethod ({ cls := "CrossroadsCartsModel", name := "isState", desc := "(I)Z" } : Jvm.MethodName)) ∈ TB := tb_lw (lw_t6 (i := 182) rfl) rfl
theorem k_1383 : (Jvm.Cond.code ({ cls := "CrossroadsCartsModel", name := "isState", desc := "(I)Z" } : Jvm.MethodName) prog_12_method_58_code (3 : Nat) (Option.some Jvm.ClassFile.FieldType.boolean)) ∈ TB := tb_lw (lw_t6 (i := 183) rfl) rfl
theorem k_1388 : (Jvm.Cond.methodLink "CrossroadsCartsModel" (351 : Nat) ({ cls := "CrossroadsCartsModel", name := "isTape", desc := "(I)Z" } : Jvm.MethodName)) ∈ TB := tb_lw (lw_t6 (i := 188) rfl) rfl
theorem k_1390 : (Jvm.Cond.instanceMethod ({ cls := "CrossroadsCartsModel", name := "isTape", desc := "(I)Z" } : Jvm.MethodName)) ∈ TB := tb_lw (lw_t6 (i := 190) rfl) rfl
theorem k_1391 : (Jvm.Cond.code ({ cls := "CrossroadsCartsModel", name := "isTape", desc := "(I)Z" } : Jvm.MethodName) prog_12_method_97_code (2 : Nat) (Option.some Jvm.ClassFile.FieldType.boolean)) ∈ TB := tb_lw (lw_t6 (i := 191) rfl) rfl
theorem k_1392 : (Jvm.Cond.methodLink "CrossroadsCartsModel" (354 : Nat) ({ cls := "CrossroadsCartsModel", name := "keep", desc := "()V" } : Jvm.MethodName)) ∈ TB := tb_lw (lw_t6 (i := 192) rfl) rfl
theorem k_1394 : (Jvm.Cond.instanceMethod ({ cls := "CrossroadsCartsModel", name := "keep", desc := "()V" } : Jvm.MethodName)) ∈ TB := tb_lw (lw_t6 (i := 194) rfl) rfl
theorem k_1395 : (Jvm.Cond.code ({ cls := "CrossroadsCartsModel", name := "keep", desc := "()V" } : Jvm.MethodName) prog_12_method_61_code (2 : Nat) (Option.none : Option Jvm.ClassFile.FieldType)) ∈ TB := tb_lw (lw_t6 (i := 195) rfl) rfl
theorem k_1396 : (Jvm.Cond.methodLink "CrossroadsCartsModel" (357 : Nat) ({ cls := "CrossroadsCartsModel", name := "isRoom", desc := "()Z" } : Jvm.MethodName)) ∈ TB := tb_lw (lw_t6 (i := 196) rfl) rfl
theorem k_1398 : (Jvm.Cond.instanceMethod ({ cls := "CrossroadsCartsModel", name := "isRoom", desc := "()Z" } : Jvm.MethodName)) ∈ TB := tb_lw (lw_t6 (i := 198) rfl) rfl
theorem k_1399 : (Jvm.Cond.code ({ cls := "CrossroadsCartsModel", name := "isRoom", desc := "()Z" } : Jvm.MethodName) prog_12_method_63_code (2 : Nat) (Option.some Jvm.ClassFile.FieldType.boolean)) ∈ TB := tb_lw (lw_t6 (i := 199) rfl) rfl
theorem k_1400 : (Jvm.Cond.methodLink "CrossroadsCartsModel" (360 : Nat) ({ cls := "CrossroadsCartsModel", name := "putBack", desc := "()V" } : Jvm.MethodName)) ∈ TB := tb_lw (lw_t6 (i := 200) rfl) rfl
theorem k_1402 : (Jvm.Cond.instanceMethod ({ cls := "CrossroadsCartsModel", name := "putBack", desc := "()V" } : Jvm.MethodName)) ∈ TB := tb_lw (lw_t6 (i := 202) rfl) rfl
theorem k_1403 : (Jvm.Cond.code ({ cls := "CrossroadsCartsModel", name := "putBack", desc := "()V" } : Jvm.MethodName) prog_12_method_62_code (2 : Nat) (Option.none : Option Jvm.ClassFile.FieldType)) ∈ TB := tb_lw (lw_t6 (i := 203) rfl) rfl
theorem k_1408 : (Jvm.Cond.methodLink "CrossroadsCartsModel" (363 : Nat) ({ cls := "CrossroadsCartsModel", name := "rowsOf", desc := "()I" } : Jvm.MethodName)) ∈ TB := tb_lw (lw_t6 (i := 208) rfl) rfl
theorem k_1410 : (Jvm.Cond.instanceMethod ({ cls := "CrossroadsCartsModel", name := "rowsOf", desc := "()I" } : Jvm.MethodName)) ∈ TB := tb_lw (lw_t6 (i := 210) rfl) rfl
theorem k_1411 : (Jvm.Cond.code ({ cls := "CrossroadsCartsModel", name := "rowsOf", desc := "()I" } : Jvm.MethodName) prog_12_method_65_code (3 : Nat) (Option.some Jvm.ClassFile.FieldType.int)) ∈ TB := tb_lw (lw_t6 (i := 211) rfl) rfl
theorem k_1412 : (Jvm.Cond.methodLink "CrossroadsCartsModel" (366 : Nat) ({ cls := "CrossroadsCartsModel", name := "layOut", desc := "(I)V" } : Jvm.MethodName)) ∈ TB := tb_lw (lw_t6 (i := 212) rfl) rfl
theorem k_1414 : (Jvm.Cond.instanceMethod ({ cls := "CrossroadsCartsModel", name := "layOut", desc := "(I)V" } : Jvm.MethodName)) ∈ TB := tb_lw (lw_t6 (i := 214) rfl) rfl
theorem k_1415 : (Jvm.Cond.code ({ cls := "CrossroadsCartsModel", name := "layOut", desc := "(I)V" } : Jvm.MethodName) prog_12_method_66_code (4 : Nat) (Option.none : Option Jvm.ClassFile.FieldType)) ∈ TB := tb_lw (lw_t6 (i := 215) rfl) rfl
theorem k_1424 : (Jvm.Cond.methodLink "CrossroadsCartsModel" (369 : Nat) ({ cls := "CrossroadsCartsModel", name := "isWanted", desc := "(I)Z" } : Jvm.MethodName)) ∈ TB := tb_lw (lw_t6 (i := 224) rfl) rfl
theorem k_1426 : (Jvm.Cond.instanceMethod ({ cls := "CrossroadsCartsModel", name := "isWanted", desc := "(I)Z" } : Jvm.MethodName)) ∈ TB := tb_lw (lw_t6 (i := 226) rfl) rfl
theorem k_1427 : (Jvm.Cond.code ({ cls := "CrossroadsCartsModel", name := "isWanted", desc := "(I)Z" } : Jvm.MethodName) prog_12_method_69_code (4 : Nat) (Option.some Jvm.ClassFile.FieldType.boolean)) ∈ TB := tb_lw (lw_t6 (i := 227) rfl) rfl
theorem k_1432 : (Jvm.Cond.methodLink "CrossroadsCartsModel" (372 : Nat) ({ cls := "CrossroadsCartsModel", name := "pairs", desc := "()I" } : Jvm.MethodName)) ∈ TB := tb_lw (lw_t6 (i := 232) rfl) rfl
theorem k_1434 : (Jvm.Cond.instanceMethod ({ cls := "CrossroadsCartsModel", name := "pairs", desc := "()I" } : Jvm.MethodName)) ∈ TB := tb_lw (lw_t6 (i := 234) rfl) rfl
theorem k_1435 : (Jvm.Cond.code ({ cls := "CrossroadsCartsModel", name := "pairs", desc := "()I" } : Jvm.MethodName) prog_12_method_71_code (4 : Nat) (Option.some Jvm.ClassFile.FieldType.int)) ∈ TB := tb_lw (lw_t6 (i := 235) rfl) rfl
theorem k_1436 : (Jvm.Cond.methodLink "CrossroadsCartsModel" (375 : Nat) ({ cls := "CrossroadsCartsModel", name := "deal", desc := "(I)V" } : Jvm.MethodName)) ∈ TB := tb_lw (lw_t6 (i := 236) rfl) rfl
theorem k_1438 : (Jvm.Cond.instanceMethod ({ cls := "CrossroadsCartsModel", name := "deal", desc := "(I)V" } : Jvm.MethodName)) ∈ TB := tb_lw (lw_t6 (i := 238) rfl) rfl
theorem k_1439 : (Jvm.Cond.code ({ cls := "CrossroadsCartsModel", name := "deal", desc := "(I)V" } : Jvm.MethodName) prog_12_method_72_code (7 : Nat) (Option.none : Option Jvm.ClassFile.FieldType)) ∈ TB := tb_lw (lw_t6 (i := 239) rfl) rfl
theorem k_1452 : (Jvm.Cond.methodLink "CrossroadsCartsModel" (380 : Nat) ({ cls := "CrossroadsCartsModel", name := "isSet", desc := "(I)Z" } : Jvm.MethodName)) ∈ TB := tb_lw (lw_t7 (i := 12) rfl) rfl
theorem k_1454 : (Jvm.Cond.instanceMethod ({ cls := "CrossroadsCartsModel", name := "isSet", desc := "(I)Z" } : Jvm.MethodName)) ∈ TB := tb_lw (lw_t7 (i := 14) rfl) rfl
theorem k_1455 : (Jvm.Cond.code ({ cls := "CrossroadsCartsModel", name := "isSet", desc := "(I)Z" } : Jvm.MethodName) prog_12_method_76_code (4 : Nat) (Option.some Jvm.ClassFile.FieldType.boolean)) ∈ TB := tb_lw (lw_t7 (i := 15) rfl) rfl
theorem k_1456 : (Jvm.Cond.methodLink "CrossroadsCartsModel" (383 : Nat) ({ cls := "CrossroadsCartsModel", name := "priceOf", desc := "(I)I" } : Jvm.MethodName)) ∈ TB := tb_lw (lw_t7 (i := 16) rfl) rfl
theorem k_1458 : (Jvm.Cond.instanceMethod ({ cls := "CrossroadsCartsModel", name := "priceOf", desc := "(I)I" } : Jvm.MethodName)) ∈ TB := tb_lw (lw_t7 (i := 18) rfl) rfl
theorem k_1459 : (Jvm.Cond.code ({ cls := "CrossroadsCartsModel", name := "priceOf", desc := "(I)I" } : Jvm.MethodName) prog_12_method_77_code (4 : Nat) (Option.some Jvm.ClassFile.FieldType.int)) ∈ TB := tb_lw (lw_t7 (i := 19) rfl) rfl
theorem k_1460 : (Jvm.Cond.methodLink "CrossroadsCartsModel" (386 : Nat) ({ cls := "CrossroadsCartsModel", name := "leastBehind", desc := "(IZ)J" } : Jvm.MethodName)) ∈ TB := tb_lw (lw_t7 (i := 20) rfl) rfl
theorem k_1462 : (Jvm.Cond.instanceMethod ({ cls := "CrossroadsCartsModel", name := "leastBehind", desc := "(IZ)J" } : Jvm.MethodName)) ∈ TB := tb_lw (lw_t7 (i := 22) rfl) rfl
theorem k_1463 : (Jvm.Cond.code ({ cls := "CrossroadsCartsModel", name := "leastBehind", desc := "(IZ)J" } : Jvm.MethodName) prog_12_method_78_code (9 : Nat) (Option.some Jvm.ClassFile.FieldType.long)) ∈ TB := tb_lw (lw_t7 (i := 23) rfl) rfl
theorem k_1464 : (Jvm.Cond.constantLong "CrossroadsCartsModel" (378 : Nat) (9223372036854775807 : Int64)) ∈ TB := tb_lw (lw_t7 (i := 24) rfl) rfl
theorem k_1473 : (Jvm.Cond.methodLink "CrossroadsCartsModel" (390 : Nat) ({ cls := "CrossroadsCartsModel", name := "twinSort", desc := "(I)I" } : Jvm.MethodName)) ∈ TB := tb_lw (lw_t7 (i := 33) rfl) rfl
theorem k_1475 : (Jvm.Cond.instanceMethod ({ cls := "CrossroadsCartsModel", name := "twinSort", desc := "(I)I" } : Jvm.MethodName)) ∈ TB := tb_lw (lw_t7 (i := 35) rfl) rfl
theorem k_1476 : (Jvm.Cond.code ({ cls := "CrossroadsCartsModel", name := "twinSort", desc := "(I)I" } : Jvm.MethodName) prog_12_method_81_code (5 : Nat) (Option.some Jvm.ClassFile.FieldType.int)) ∈ TB := tb_lw (lw_t7 (i := 36) rfl) rfl
theorem k_1481 : (Jvm.Cond.methodLink "CrossroadsCartsModel" (402 : Nat) ({ cls := "CrossroadsCartsModel", name := "holds", desc := "(II)I" } : Jvm.MethodName)) ∈ TB := tb_lw (lw_t7 (i := 41) rfl) rfl
theorem k_1483 : (Jvm.Cond.instanceMethod ({ cls := "CrossroadsCartsModel", name := "holds", desc := "(II)I" } : Jvm.MethodName)) ∈ TB := tb_lw (lw_t7 (i := 43) rfl) rfl
theorem k_1484 : (Jvm.Cond.code ({ cls := "CrossroadsCartsModel", name := "holds", desc := "(II)I" } : Jvm.MethodName) prog_12_method_86_code (3 : Nat) (Option.some Jvm.ClassFile.FieldType.int)) ∈ TB := tb_lw (lw_t7 (i := 44) rfl) rfl
theorem k_1485 : (Jvm.Cond.methodLink "CrossroadsCartsModel" (399 : Nat) ({ cls := "CrossroadsCartsModel", name := "votedHolds", desc := "(I)I" } : Jvm.MethodName)) ∈ TB := tb_lw (lw_t7 (i := 45) rfl) rfl
theorem k_1487 : (Jvm.Cond.instanceMethod ({ cls := "CrossroadsCartsModel", name := "votedHolds", desc := "(I)I" } : Jvm.MethodName)) ∈ TB := tb_lw (lw_t7 (i := 47) rfl) rfl
theorem k_1488 : (Jvm.Cond.code ({ cls := "CrossroadsCartsModel", name := "votedHolds", desc := "(I)I" } : Jvm.MethodName) prog_12_method_85_code (2 : Nat) (Option.some Jvm.ClassFile.FieldType.int)) ∈ TB := tb_lw (lw_t7 (i := 48) rfl) rfl
theorem k_1489 : (Jvm.Cond.methodLink "CrossroadsCartsModel" (393 : Nat) ({ cls := "CrossroadsCartsModel", name := "body", desc := "(I)V" } : Jvm.MethodName)) ∈ TB := tb_lw (lw_t7 (i := 49) rfl) rfl
theorem k_1491 : (Jvm.Cond.instanceMethod ({ cls := "CrossroadsCartsModel", name := "body", desc := "(I)V" } : Jvm.MethodName)) ∈ TB := tb_lw (lw_t7 (i := 51) rfl) rfl
theorem k_1492 : (Jvm.Cond.code ({ cls := "CrossroadsCartsModel", name := "body", desc := "(I)V" } : Jvm.MethodName) prog_12_method_83_code (2 : Nat) (Option.none : Option Jvm.ClassFile.FieldType)) ∈ TB := tb_lw (lw_t7 (i := 52) rfl) rfl
theorem k_1493 : (Jvm.Cond.methodLink "CrossroadsCartsModel" (396 : Nat) ({ cls := "CrossroadsCartsModel", name := "plainHolds", desc := "(I)I" } : Jvm.MethodName)) ∈ TB := tb_lw (lw_t7 (i := 53) rfl) rfl
theorem k_1495 : (Jvm.Cond.instanceMethod ({ cls := "CrossroadsCartsModel", name := "plainHolds", desc := "(I)I" } : Jvm.MethodName)) ∈ TB := tb_lw (lw_t7 (i := 55) rfl) rfl
theorem k_1496 : (Jvm.Cond.code ({ cls := "CrossroadsCartsModel", name := "plainHolds", desc := "(I)I" } : Jvm.MethodName) prog_12_method_84_code (2 : Nat) (Option.some Jvm.ClassFile.FieldType.int)) ∈ TB := tb_lw (lw_t7 (i := 56) rfl) rfl
theorem k_1497 : (Jvm.Cond.methodLink "CrossroadsCartsModel" (411 : Nat) ({ cls := "CrossroadsCartsModel", name := "breaks", desc := "(II)I" } : Jvm.MethodName)) ∈ TB := tb_lw (lw_t7 (i := 57) rfl) rfl
theorem k_1499 : (Jvm.Cond.instanceMethod ({ cls := "CrossroadsCartsModel", name := "breaks", desc := "(II)I" } : Jvm.MethodName)) ∈ TB := tb_lw (lw_t7 (i := 59) rfl) rfl
theorem k_1500 : (Jvm.Cond.code ({ cls := "CrossroadsCartsModel", name := "breaks", desc := "(II)I" } : Jvm.MethodName) prog_12_method_89_code (4 : Nat) (Option.some Jvm.ClassFile.FieldType.int)) ∈ TB := tb_lw (lw_t7 (i := 60) rfl) rfl
theorem k_1501 : (Jvm.Cond.methodLink "CrossroadsCartsModel" (405 : Nat) ({ cls := "CrossroadsCartsModel", name := "plainBreaks", desc := "(II)I" } : Jvm.MethodName)) ∈ TB := tb_lw (lw_t7 (i := 61) rfl) rfl
theorem k_1503 : (Jvm.Cond.instanceMethod ({ cls := "CrossroadsCartsModel", name := "plainBreaks", desc := "(II)I" } : Jvm.MethodName)) ∈ TB := tb_lw (lw_t7 (i := 63) rfl) rfl
theorem k_1504 : (Jvm.Cond.code ({ cls := "CrossroadsCartsModel", name := "plainBreaks", desc := "(II)I" } : Jvm.MethodName) prog_12_method_87_code (3 : Nat) (Option.some Jvm.ClassFile.FieldType.int)) ∈ TB := tb_lw (lw_t7 (i := 64) rfl) rfl
theorem k_1505 : (Jvm.Cond.methodLink "CrossroadsCartsModel" (408 : Nat) ({ cls := "CrossroadsCartsModel", name := "stayBreaks", desc := "(II)I" } : Jvm.MethodName)) ∈ TB := tb_lw (lw_t7 (i := 65) rfl) rfl
theorem k_1507 : (Jvm.Cond.instanceMethod ({ cls := "CrossroadsCartsModel", name := "stayBreaks", desc := "(II)I" } : Jvm.MethodName)) ∈ TB := tb_lw (lw_t7 (i := 67) rfl) rfl
theorem k_1508 : (Jvm.Cond.code ({ cls := "CrossroadsCartsModel", name := "stayBreaks", desc := "(II)I" } : Jvm.MethodName) prog_12_method_88_code (3 : Nat) (Option.some Jvm.ClassFile.FieldType.int)) ∈ TB := tb_lw (lw_t7 (i := 68) rfl) rfl
theorem k_1509 : (Jvm.Cond.methodLink "CrossroadsCartsModel" (420 : Nat) ({ cls := "CrossroadsCartsModel", name := "tells", desc := "(II)I" } : Jvm.MethodName)) ∈ TB := tb_lw (lw_t7 (i := 69) rfl) rfl
theorem k_1511 : (Jvm.Cond.instanceMethod ({ cls := "CrossroadsCartsModel", name := "tells", desc := "(II)I" } : Jvm.MethodName)) ∈ TB := tb_lw (lw_t7 (i := 71) rfl) rfl
theorem k_1512 : (Jvm.Cond.code ({ cls := "CrossroadsCartsModel", name := "tells", desc := "(II)I" } : Jvm.MethodName) prog_12_method_92_code (4 : Nat) (Option.some Jvm.ClassFile.FieldType.int)) ∈ TB := tb_lw (lw_t7 (i := 72) rfl) rfl
theorem k_1513 : (Jvm.Cond.methodLink "CrossroadsCartsModel" (417 : Nat) ({ cls := "CrossroadsCartsModel", name := "votedTells", desc := "(II)I" } : Jvm.MethodName)) ∈ TB := tb_lw (lw_t7 (i := 73) rfl) rfl
theorem k_1515 : (Jvm.Cond.instanceMethod ({ cls := "CrossroadsCartsModel", name := "votedTells", desc := "(II)I" } : Jvm.MethodName)) ∈ TB := tb_lw (lw_t7 (i := 75) rfl) rfl
theorem k_1516 : (Jvm.Cond.code ({ cls := "CrossroadsCartsModel", name := "votedTells", desc := "(II)I" } : Jvm.MethodName) prog_12_method_91_code (4 : Nat) (Option.some Jvm.ClassFile.FieldType.int)) ∈ TB := tb_lw (lw_t7 (i := 76) rfl) rfl
theorem k_1517 : (Jvm.Cond.methodLink "CrossroadsCartsModel" (414 : Nat) ({ cls := "CrossroadsCartsModel", name := "plainTells", desc := "(II)I" } : Jvm.MethodName)) ∈ TB := tb_lw (lw_t7 (i := 77) rfl) rfl
theorem k_1519 : (Jvm.Cond.instanceMethod ({ cls := "CrossroadsCartsModel", name := "plainTells", desc := "(II)I" } : Jvm.MethodName)) ∈ TB := tb_lw (lw_t7 (i := 79) rfl) rfl
theorem k_1520 : (Jvm.Cond.code ({ cls := "CrossroadsCartsModel", name := "plainTells", desc := "(II)I" } : Jvm.MethodName) prog_12_method_90_code (3 : Nat) (Option.some Jvm.ClassFile.FieldType.int)) ∈ TB := tb_lw (lw_t7 (i := 80) rfl) rfl
theorem k_1541 : (Jvm.Cond.methodLink "CrossroadsCartsModel" (423 : Nat) ({ cls := "CrossroadsCartsModel", name := "narrow", desc := "(IJ)J" } : Jvm.MethodName)) ∈ TB := tb_lw (lw_t7 (i := 101) rfl) rfl
theorem k_1543 : (Jvm.Cond.instanceMethod ({ cls := "CrossroadsCartsModel", name := "narrow", desc := "(IJ)J" } : Jvm.MethodName)) ∈ TB := tb_lw (lw_t7 (i := 103) rfl) rfl
theorem k_1544 : (Jvm.Cond.code ({ cls := "CrossroadsCartsModel", name := "narrow", desc := "(IJ)J" } : Jvm.MethodName) prog_12_method_99_code (4 : Nat) (Option.some Jvm.ClassFile.FieldType.long)) ∈ TB := tb_lw (lw_t7 (i := 104) rfl) rfl
theorem k_1554 : (Jvm.Cond.fieldLink "java/lang/String" (9 : Nat) "java/lang/String" "value" "[B") ∈ TB := tb_lw (lw_t7 (i := 114) rfl) rfl
theorem k_1555 : (Jvm.Cond.fieldLink "java/lang/String" (15 : Nat) "java/lang/String" "coder" "B") ∈ TB := tb_lw (lw_t7 (i := 115) rfl) rfl
theorem ks_0 : Cond.selects (yX9_isTown).cls yX9_isTown yX9_isTown ∈ TB := tb_lw (lw_sel (q := (yX9_isTown, 14)) (by unfold lw_privs; exact List.mem_append_left _ (List.mem_of_getElem? (i := 0) rfl : _ ∈ lw_privs_1))) rfl
theorem ks_1 : Cond.selects (yX9_isFamily).cls yX9_isFamily yX9_isFamily ∈ TB := tb_lw (lw_sel (q := (yX9_isFamily, 14)) (by unfold lw_privs; exact List.mem_append_left _ (List.mem_of_getElem? (i := 1) rfl : _ ∈ lw_privs_1))) rfl
theorem ks_28 : Cond.selects (yX9_settleAsTold).cls yX9_settleAsTold yX9_settleAsTold ∈ TB := tb_lw (lw_sel (q := (yX9_settleAsTold, 14)) (by unfold lw_privs; exact List.mem_append_right _ (List.mem_append_left _ (List.mem_of_getElem? (i := 12) rfl : _ ∈ lw_privs_2)))) rfl
theorem ks_30 : Cond.selects (yX9_priceOf).cls yX9_priceOf yX9_priceOf ∈ TB := tb_lw (lw_sel (q := (yX9_priceOf, 14)) (by unfold lw_privs; exact List.mem_append_right _ (List.mem_append_left _ (List.mem_of_getElem? (i := 14) rfl : _ ∈ lw_privs_2)))) rfl
theorem ks_31 : Cond.selects (yX9_clashIn).cls yX9_clashIn yX9_clashIn ∈ TB := tb_lw (lw_sel (q := (yX9_clashIn, 14)) (by unfold lw_privs; exact List.mem_append_right _ (List.mem_append_left _ (List.mem_of_getElem? (i := 15) rfl : _ ∈ lw_privs_2)))) rfl
theorem ks_32 : Cond.selects (yX9_enact).cls yX9_enact yX9_enact ∈ TB := tb_lw (lw_sel (q := (yX9_enact, 14)) (by unfold lw_privs; exact List.mem_append_right _ (List.mem_append_right _ (List.mem_append_left _ (List.mem_of_getElem? (i := 0) rfl : _ ∈ lw_privs_3))))) rfl
theorem ks_33 : Cond.selects (yX9_births).cls yX9_births yX9_births ∈ TB := tb_lw (lw_sel (q := (yX9_births, 14)) (by unfold lw_privs; exact List.mem_append_right _ (List.mem_append_right _ (List.mem_append_left _ (List.mem_of_getElem? (i := 1) rfl : _ ∈ lw_privs_3))))) rfl
theorem ks_34 : Cond.selects (yX0_own).cls yX0_own yX0_own ∈ TB := tb_lw (lw_sel (q := (yX0_own, 5)) (by unfold lw_privs; exact List.mem_append_right _ (List.mem_append_right _ (List.mem_append_left _ (List.mem_of_getElem? (i := 2) rfl : _ ∈ lw_privs_3))))) rfl
theorem ks_35 : Cond.selects (yX0_from).cls yX0_from yX0_from ∈ TB := tb_lw (lw_sel (q := (yX0_from, 5)) (by unfold lw_privs; exact List.mem_append_right _ (List.mem_append_right _ (List.mem_append_left _ (List.mem_of_getElem? (i := 3) rfl : _ ∈ lw_privs_3))))) rfl
theorem ks_36 : Cond.selects (yX0_run).cls yX0_run yX0_run ∈ TB := tb_lw (lw_sel (q := (yX0_run, 5)) (by unfold lw_privs; exact List.mem_append_right _ (List.mem_append_right _ (List.mem_append_left _ (List.mem_of_getElem? (i := 4) rfl : _ ∈ lw_privs_3))))) rfl
theorem ks_37 : Cond.selects (yX0_above).cls yX0_above yX0_above ∈ TB := tb_lw (lw_sel (q := (yX0_above, 5)) (by unfold lw_privs; exact List.mem_append_right _ (List.mem_append_right _ (List.mem_append_left _ (List.mem_of_getElem? (i := 5) rfl : _ ∈ lw_privs_3))))) rfl
theorem ks_3 : Cond.selects (yX1_isAsIfIn).cls yX1_isAsIfIn yX1_isAsIfIn ∈ TB := tb_lw (lw_sel (q := (yX1_isAsIfIn, 13)) (by unfold lw_privs; exact List.mem_append_left _ (List.mem_of_getElem? (i := 3) rfl : _ ∈ lw_privs_1))) rfl
theorem ks_4 : Cond.selects (yX1_share).cls yX1_share yX1_share ∈ TB := tb_lw (lw_sel (q := (yX1_share, 13)) (by unfold lw_privs; exact List.mem_append_left _ (List.mem_of_getElem? (i := 4) rfl : _ ∈ lw_privs_1))) rfl
theorem ks_2 : Cond.selects (yX1_greatestIncome).cls yX1_greatestIncome yX1_greatestIncome ∈ TB := tb_lw (lw_sel (q := (yX1_greatestIncome, 13)) (by unfold lw_privs; exact List.mem_append_left _ (List.mem_of_getElem? (i := 2) rfl : _ ∈ lw_privs_1))) rfl
theorem ks_5 : Cond.selects (yX1_sharesTogether).cls yX1_sharesTogether yX1_sharesTogether ∈ TB := tb_lw (lw_sel (q := (yX1_sharesTogether, 13)) (by unfold lw_privs; exact List.mem_append_left _ (List.mem_of_getElem? (i := 5) rfl : _ ∈ lw_privs_1))) rfl
theorem ks_18 : Cond.selects (yX1_hasOldOnes).cls yX1_hasOldOnes yX1_hasOldOnes ∈ TB := tb_lw (lw_sel (q := (yX1_hasOldOnes, 13)) (by unfold lw_privs; exact List.mem_append_right _ (List.mem_append_left _ (List.mem_of_getElem? (i := 2) rfl : _ ∈ lw_privs_2)))) rfl
theorem ks_19 : Cond.selects (yX1_wantedLevel).cls yX1_wantedLevel yX1_wantedLevel ∈ TB := tb_lw (lw_sel (q := (yX1_wantedLevel, 13)) (by unfold lw_privs; exact List.mem_append_right _ (List.mem_append_left _ (List.mem_of_getElem? (i := 3) rfl : _ ∈ lw_privs_2)))) rfl
theorem ks_20 : Cond.selects (yX1_middleWant).cls yX1_middleWant yX1_middleWant ∈ TB := tb_lw (lw_sel (q := (yX1_middleWant, 13)) (by unfold lw_privs; exact List.mem_append_right _ (List.mem_append_left _ (List.mem_of_getElem? (i := 4) rfl : _ ∈ lw_privs_2)))) rfl
theorem ks_21 : Cond.selects (yX1_commonestWant).cls yX1_commonestWant yX1_commonestWant ∈ TB := tb_lw (lw_sel (q := (yX1_commonestWant, 13)) (by unfold lw_privs; exact List.mem_append_right _ (List.mem_append_left _ (List.mem_of_getElem? (i := 5) rfl : _ ∈ lw_privs_2)))) rfl
theorem ks_29 : Cond.selects (yX2_ways).cls yX2_ways yX2_ways ∈ TB := tb_lw (lw_sel (q := (yX2_ways, 2)) (by unfold lw_privs; exact List.mem_append_right _ (List.mem_append_left _ (List.mem_of_getElem? (i := 13) rfl : _ ∈ lw_privs_2)))) rfl
theorem ks_6 : Cond.selects (yX5_clause).cls yX5_clause yX5_clause ∈ TB := tb_lw (lw_sel (q := (yX5_clause, 3)) (by unfold lw_privs; exact List.mem_append_left _ (List.mem_of_getElem? (i := 6) rfl : _ ∈ lw_privs_1))) rfl
theorem ks_8 : Cond.selects (yX5_met).cls yX5_met yX5_met ∈ TB := tb_lw (lw_sel (q := (yX5_met, 3)) (by unfold lw_privs; exact List.mem_append_left _ (List.mem_of_getElem? (i := 8) rfl : _ ∈ lw_privs_1))) rfl
theorem ks_7 : Cond.selects (yX5_word).cls yX5_word yX5_word ∈ TB := tb_lw (lw_sel (q := (yX5_word, 3)) (by unfold lw_privs; exact List.mem_append_left _ (List.mem_of_getElem? (i := 7) rfl : _ ∈ lw_privs_1))) rfl
theorem ks_9 : Cond.selects (yX5_pair).cls yX5_pair yX5_pair ∈ TB := tb_lw (lw_sel (q := (yX5_pair, 3)) (by unfold lw_privs; exact List.mem_append_left _ (List.mem_of_getElem? (i := 9) rfl : _ ∈ lw_privs_1))) rfl
theorem ks_12 : Cond.selects (yX5_single).cls yX5_single yX5_single ∈ TB := tb_lw (lw_sel (q := (yX5_single, 3)) (by unfold lw_privs; exact List.mem_append_left _ (List.mem_of_getElem? (i := 12) rfl : _ ∈ lw_privs_1))) rfl
theorem ks_11 : Cond.selects (yX5_number).cls yX5_number yX5_number ∈ TB := tb_lw (lw_sel (q := (yX5_number, 3)) (by unfold lw_privs; exact List.mem_append_left _ (List.mem_of_getElem? (i := 11) rfl : _ ∈ lw_privs_1))) rfl
theorem ks_13 : Cond.selects (yX5_letter).cls yX5_letter yX5_letter ∈ TB := tb_lw (lw_sel (q := (yX5_letter, 3)) (by unfold lw_privs; exact List.mem_append_left _ (List.mem_of_getElem? (i := 13) rfl : _ ∈ lw_privs_1))) rfl
theorem ks_14 : Cond.selects (yX5_either).cls yX5_either yX5_either ∈ TB := tb_lw (lw_sel (q := (yX5_either, 3)) (by unfold lw_privs; exact List.mem_append_left _ (List.mem_of_getElem? (i := 14) rfl : _ ∈ lw_privs_1))) rfl
theorem ks_17 : Cond.selects (yX5_weight).cls yX5_weight yX5_weight ∈ TB := tb_lw (lw_sel (q := (yX5_weight, 3)) (by unfold lw_privs; exact List.mem_append_right _ (List.mem_append_left _ (List.mem_of_getElem? (i := 1) rfl : _ ∈ lw_privs_2)))) rfl
theorem ks_10 : Cond.selects (yX5_figure).cls yX5_figure yX5_figure ∈ TB := tb_lw (lw_sel (q := (yX5_figure, 3)) (by unfold lw_privs; exact List.mem_append_left _ (List.mem_of_getElem? (i := 10) rfl : _ ∈ lw_privs_1))) rfl
theorem ks_15 : Cond.selects (yX5_factor).cls yX5_factor yX5_factor ∈ TB := tb_lw (lw_sel (q := (yX5_factor, 3)) (by unfold lw_privs; exact List.mem_append_left _ (List.mem_of_getElem? (i := 15) rfl : _ ∈ lw_privs_1))) rfl
theorem ks_16 : Cond.selects (yX5_test).cls yX5_test yX5_test ∈ TB := tb_lw (lw_sel (q := (yX5_test, 3)) (by unfold lw_privs; exact List.mem_append_right _ (List.mem_append_left _ (List.mem_of_getElem? (i := 0) rfl : _ ∈ lw_privs_2)))) rfl
theorem ks_22 : Cond.selects (yX6_stay).cls yX6_stay yX6_stay ∈ TB := tb_lw (lw_sel (q := (yX6_stay, 3)) (by unfold lw_privs; exact List.mem_append_right _ (List.mem_append_left _ (List.mem_of_getElem? (i := 6) rfl : _ ∈ lw_privs_2)))) rfl
theorem ks_23 : Cond.selects (yX6_voted).cls yX6_voted yX6_voted ∈ TB := tb_lw (lw_sel (q := (yX6_voted, 3)) (by unfold lw_privs; exact List.mem_append_right _ (List.mem_append_left _ (List.mem_of_getElem? (i := 7) rfl : _ ∈ lw_privs_2)))) rfl
theorem ks_24 : Cond.selects (yX6_rented).cls yX6_rented yX6_rented ∈ TB := tb_lw (lw_sel (q := (yX6_rented, 3)) (by unfold lw_privs; exact List.mem_append_right _ (List.mem_append_left _ (List.mem_of_getElem? (i := 8) rfl : _ ∈ lw_privs_2)))) rfl
theorem ks_25 : Cond.selects (yX6_seer).cls yX6_seer yX6_seer ∈ TB := tb_lw (lw_sel (q := (yX6_seer, 3)) (by unfold lw_privs; exact List.mem_append_right _ (List.mem_append_left _ (List.mem_of_getElem? (i := 9) rfl : _ ∈ lw_privs_2)))) rfl
theorem ks_26 : Cond.selects (yX6_club).cls yX6_club yX6_club ∈ TB := tb_lw (lw_sel (q := (yX6_club, 3)) (by unfold lw_privs; exact List.mem_append_right _ (List.mem_append_left _ (List.mem_of_getElem? (i := 10) rfl : _ ∈ lw_privs_2)))) rfl
theorem ks_27 : Cond.selects (yX6_wouldFound).cls yX6_wouldFound yX6_wouldFound ∈ TB := tb_lw (lw_sel (q := (yX6_wouldFound, 3)) (by unfold lw_privs; exact List.mem_append_right _ (List.mem_append_left _ (List.mem_of_getElem? (i := 11) rfl : _ ∈ lw_privs_2)))) rfl
theorem ks_38 : Cond.selects (yX10_in).cls yX10_in yX10_in ∈ TB := tb_lw (lw_sel (q := (yX10_in, 61)) (by unfold lw_privs; exact List.mem_append_right _ (List.mem_append_right _ (List.mem_append_left _ (List.mem_of_getElem? (i := 6) rfl : _ ∈ lw_privs_3))))) rfl
theorem ks_41 : Cond.selects (yX10_manyIn).cls yX10_manyIn yX10_manyIn ∈ TB := tb_lw (lw_sel (q := (yX10_manyIn, 61)) (by unfold lw_privs; exact List.mem_append_right _ (List.mem_append_right _ (List.mem_append_left _ (List.mem_of_getElem? (i := 9) rfl : _ ∈ lw_privs_3))))) rfl
theorem ks_39 : Cond.selects (yX10_isTown).cls yX10_isTown yX10_isTown ∈ TB := tb_lw (lw_sel (q := (yX10_isTown, 61)) (by unfold lw_privs; exact List.mem_append_right _ (List.mem_append_right _ (List.mem_append_left _ (List.mem_of_getElem? (i := 7) rfl : _ ∈ lw_privs_3))))) rfl
theorem ks_40 : Cond.selects (yX10_isFree).cls yX10_isFree yX10_isFree ∈ TB := tb_lw (lw_sel (q := (yX10_isFree, 61)) (by unfold lw_privs; exact List.mem_append_right _ (List.mem_append_right _ (List.mem_append_left _ (List.mem_of_getElem? (i := 8) rfl : _ ∈ lw_privs_3))))) rfl
theorem ks_42 : Cond.selects (yX10_add).cls yX10_add yX10_add ∈ TB := tb_lw (lw_sel (q := (yX10_add, 61)) (by unfold lw_privs; exact List.mem_append_right _ (List.mem_append_right _ (List.mem_append_left _ (List.mem_of_getElem? (i := 10) rfl : _ ∈ lw_privs_3))))) rfl
theorem ks_43 : Cond.selects (yX10_isFamily).cls yX10_isFamily yX10_isFamily ∈ TB := tb_lw (lw_sel (q := (yX10_isFamily, 61)) (by unfold lw_privs; exact List.mem_append_right _ (List.mem_append_right _ (List.mem_append_left _ (List.mem_of_getElem? (i := 11) rfl : _ ∈ lw_privs_3))))) rfl
theorem ks_44 : Cond.selects (yX10_dues).cls yX10_dues yX10_dues ∈ TB := tb_lw (lw_sel (q := (yX10_dues, 61)) (by unfold lw_privs; exact List.mem_append_right _ (List.mem_append_right _ (List.mem_append_left _ (List.mem_of_getElem? (i := 12) rfl : _ ∈ lw_privs_3))))) rfl
theorem ks_46 : Cond.selects (yX10_worthOf).cls yX10_worthOf yX10_worthOf ∈ TB := tb_lw (lw_sel (q := (yX10_worthOf, 61)) (by unfold lw_privs; exact List.mem_append_right _ (List.mem_append_right _ (List.mem_append_left _ (List.mem_of_getElem? (i := 14) rfl : _ ∈ lw_privs_3))))) rfl
theorem ks_45 : Cond.selects (yX10_costOf).cls yX10_costOf yX10_costOf ∈ TB := tb_lw (lw_sel (q := (yX10_costOf, 61)) (by unfold lw_privs; exact List.mem_append_right _ (List.mem_append_right _ (List.mem_append_left _ (List.mem_of_getElem? (i := 13) rfl : _ ∈ lw_privs_3))))) rfl
theorem ks_50 : Cond.selects (yX10_next).cls yX10_next yX10_next ∈ TB := tb_lw (lw_sel (q := (yX10_next, 61)) (by unfold lw_privs; exact List.mem_append_right _ (List.mem_append_right _ (List.mem_append_right _ (List.mem_append_left _ (List.mem_of_getElem? (i := 2) rfl : _ ∈ lw_privs_4)))))) rfl
theorem ks_52 : Cond.selects (yX10_takes).cls yX10_takes yX10_takes ∈ TB := tb_lw (lw_sel (q := (yX10_takes, 61)) (by unfold lw_privs; exact List.mem_append_right _ (List.mem_append_right _ (List.mem_append_right _ (List.mem_append_left _ (List.mem_of_getElem? (i := 4) rfl : _ ∈ lw_privs_4)))))) rfl
theorem ks_56 : Cond.selects (yX10_isDigit).cls yX10_isDigit yX10_isDigit ∈ TB := tb_lw (lw_sel (q := (yX10_isDigit, 61)) (by unfold lw_privs; exact List.mem_append_right _ (List.mem_append_right _ (List.mem_append_right _ (List.mem_append_left _ (List.mem_of_getElem? (i := 8) rfl : _ ∈ lw_privs_4)))))) rfl
theorem ks_55 : Cond.selects (yX10_takesNumber).cls yX10_takesNumber yX10_takesNumber ∈ TB := tb_lw (lw_sel (q := (yX10_takesNumber, 61)) (by unfold lw_privs; exact List.mem_append_right _ (List.mem_append_right _ (List.mem_append_right _ (List.mem_append_left _ (List.mem_of_getElem? (i := 7) rfl : _ ∈ lw_privs_4)))))) rfl
theorem ks_61 : Cond.selects (yX10_push).cls yX10_push yX10_push ∈ TB := tb_lw (lw_sel (q := (yX10_push, 61)) (by unfold lw_privs; exact List.mem_append_right _ (List.mem_append_right _ (List.mem_append_right _ (List.mem_append_left _ (List.mem_of_getElem? (i := 13) rfl : _ ∈ lw_privs_4)))))) rfl
theorem ks_60 : Cond.selects (yX10_takesTest).cls yX10_takesTest yX10_takesTest ∈ TB := tb_lw (lw_sel (q := (yX10_takesTest, 61)) (by unfold lw_privs; exact List.mem_append_right _ (List.mem_append_right _ (List.mem_append_right _ (List.mem_append_left _ (List.mem_of_getElem? (i := 12) rfl : _ ∈ lw_privs_4)))))) rfl
theorem ks_62 : Cond.selects (yX10_settle).cls yX10_settle yX10_settle ∈ TB := tb_lw (lw_sel (q := (yX10_settle, 61)) (by unfold lw_privs; exact List.mem_append_right _ (List.mem_append_right _ (List.mem_append_right _ (List.mem_append_left _ (List.mem_of_getElem? (i := 14) rfl : _ ∈ lw_privs_4)))))) rfl
theorem ks_54 : Cond.selects (yX10_takesFigure).cls yX10_takesFigure yX10_takesFigure ∈ TB := tb_lw (lw_sel (q := (yX10_takesFigure, 61)) (by unfold lw_privs; exact List.mem_append_right _ (List.mem_append_right _ (List.mem_append_right _ (List.mem_append_left _ (List.mem_of_getElem? (i := 6) rfl : _ ∈ lw_privs_4)))))) rfl
theorem ks_51 : Cond.selects (yX10_takesWord).cls yX10_takesWord yX10_takesWord ∈ TB := tb_lw (lw_sel (q := (yX10_takesWord, 61)) (by unfold lw_privs; exact List.mem_append_right _ (List.mem_append_right _ (List.mem_append_right _ (List.mem_append_left _ (List.mem_of_getElem? (i := 3) rfl : _ ∈ lw_privs_4)))))) rfl
theorem ks_59 : Cond.selects (yX10_takesE).cls yX10_takesE yX10_takesE ∈ TB := tb_lw (lw_sel (q := (yX10_takesE, 61)) (by unfold lw_privs; exact List.mem_append_right _ (List.mem_append_right _ (List.mem_append_right _ (List.mem_append_left _ (List.mem_of_getElem? (i := 11) rfl : _ ∈ lw_privs_4)))))) rfl
theorem ks_53 : Cond.selects (yX10_takesTwo).cls yX10_takesTwo yX10_takesTwo ∈ TB := tb_lw (lw_sel (q := (yX10_takesTwo, 61)) (by unfold lw_privs; exact List.mem_append_right _ (List.mem_append_right _ (List.mem_append_right _ (List.mem_append_left _ (List.mem_of_getElem? (i := 5) rfl : _ ∈ lw_privs_4)))))) rfl
theorem ks_57 : Cond.selects (yX10_takesCost).cls yX10_takesCost yX10_takesCost ∈ TB := tb_lw (lw_sel (q := (yX10_takesCost, 61)) (by unfold lw_privs; exact List.mem_append_right _ (List.mem_append_right _ (List.mem_append_right _ (List.mem_append_left _ (List.mem_of_getElem? (i := 9) rfl : _ ∈ lw_privs_4)))))) rfl
theorem ks_58 : Cond.selects (yX10_takesShun).cls yX10_takesShun yX10_takesShun ∈ TB := tb_lw (lw_sel (q := (yX10_takesShun, 61)) (by unfold lw_privs; exact List.mem_append_right _ (List.mem_append_right _ (List.mem_append_right _ (List.mem_append_left _ (List.mem_of_getElem? (i := 10) rfl : _ ∈ lw_privs_4)))))) rfl
theorem ks_49 : Cond.selects (yX10_takesClause).cls yX10_takesClause yX10_takesClause ∈ TB := tb_lw (lw_sel (q := (yX10_takesClause, 61)) (by unfold lw_privs; exact List.mem_append_right _ (List.mem_append_right _ (List.mem_append_right _ (List.mem_append_left _ (List.mem_of_getElem? (i := 1) rfl : _ ∈ lw_privs_4)))))) rfl
theorem ks_48 : Cond.selects (yX10_goes).cls yX10_goes yX10_goes ∈ TB := tb_lw (lw_sel (q := (yX10_goes, 61)) (by unfold lw_privs; exact List.mem_append_right _ (List.mem_append_right _ (List.mem_append_right _ (List.mem_append_left _ (List.mem_of_getElem? (i := 0) rfl : _ ∈ lw_privs_4)))))) rfl
theorem ks_47 : Cond.selects (yX10_findShun).cls yX10_findShun yX10_findShun ∈ TB := tb_lw (lw_sel (q := (yX10_findShun, 61)) (by unfold lw_privs; exact List.mem_append_right _ (List.mem_append_right _ (List.mem_append_left _ (List.mem_of_getElem? (i := 15) rfl : _ ∈ lw_privs_3))))) rfl
theorem ks_63 : Cond.selects (yX10_abs).cls yX10_abs yX10_abs ∈ TB := tb_lw (lw_sel (q := (yX10_abs, 61)) (by unfold lw_privs; exact List.mem_append_right _ (List.mem_append_right _ (List.mem_append_right _ (List.mem_append_left _ (List.mem_of_getElem? (i := 15) rfl : _ ∈ lw_privs_4)))))) rfl
theorem ks_65 : Cond.selects (yX10_wants).cls yX10_wants yX10_wants ∈ TB := tb_lw (lw_sel (q := (yX10_wants, 61)) (by unfold lw_privs; exact List.mem_append_right _ (List.mem_append_right _ (List.mem_append_right _ (List.mem_append_right _ (List.mem_append_left _ (List.mem_of_getElem? (i := 1) rfl : _ ∈ lw_privs_5))))))) rfl
theorem ks_64 : Cond.selects (yX10_choiceOf).cls yX10_choiceOf yX10_choiceOf ∈ TB := tb_lw (lw_sel (q := (yX10_choiceOf, 61)) (by unfold lw_privs; exact List.mem_append_right _ (List.mem_append_right _ (List.mem_append_right _ (List.mem_append_right _ (List.mem_append_left _ (List.mem_of_getElem? (i := 0) rfl : _ ∈ lw_privs_5))))))) rfl
theorem ks_66 : Cond.selects (yX10_chooses).cls yX10_chooses yX10_chooses ∈ TB := tb_lw (lw_sel (q := (yX10_chooses, 61)) (by unfold lw_privs; exact List.mem_append_right _ (List.mem_append_right _ (List.mem_append_right _ (List.mem_append_right _ (List.mem_append_left _ (List.mem_of_getElem? (i := 2) rfl : _ ∈ lw_privs_5))))))) rfl
theorem ks_71 : Cond.selects (yX10_isHindered).cls yX10_isHindered yX10_isHindered ∈ TB := tb_lw (lw_sel (q := (yX10_isHindered, 61)) (by unfold lw_privs; exact List.mem_append_right _ (List.mem_append_right _ (List.mem_append_right _ (List.mem_append_right _ (List.mem_append_left _ (List.mem_of_getElem? (i := 7) rfl : _ ∈ lw_privs_5))))))) rfl
theorem ks_70 : Cond.selects (yX10_canGo).cls yX10_canGo yX10_canGo ∈ TB := tb_lw (lw_sel (q := (yX10_canGo, 61)) (by unfold lw_privs; exact List.mem_append_right _ (List.mem_append_right _ (List.mem_append_right _ (List.mem_append_right _ (List.mem_append_left _ (List.mem_of_getElem? (i := 6) rfl : _ ∈ lw_privs_5))))))) rfl
theorem ks_74 : Cond.selects (yX10_ones).cls yX10_ones yX10_ones ∈ TB := tb_lw (lw_sel (q := (yX10_ones, 61)) (by unfold lw_privs; exact List.mem_append_right _ (List.mem_append_right _ (List.mem_append_right _ (List.mem_append_right _ (List.mem_append_left _ (List.mem_of_getElem? (i := 10) rfl : _ ∈ lw_privs_5))))))) rfl
theorem ks_75 : Cond.selects (yX10_isClub).cls yX10_isClub yX10_isClub ∈ TB := tb_lw (lw_sel (q := (yX10_isClub, 61)) (by unfold lw_privs; exact List.mem_append_right _ (List.mem_append_right _ (List.mem_append_right _ (List.mem_append_right _ (List.mem_append_left _ (List.mem_of_getElem? (i := 11) rfl : _ ∈ lw_privs_5))))))) rfl
theorem ks_69 : Cond.selects (yX10_stayBreak).cls yX10_stayBreak yX10_stayBreak ∈ TB := tb_lw (lw_sel (q := (yX10_stayBreak, 61)) (by unfold lw_privs; exact List.mem_append_right _ (List.mem_append_right _ (List.mem_append_right _ (List.mem_append_right _ (List.mem_append_left _ (List.mem_of_getElem? (i := 5) rfl : _ ∈ lw_privs_5))))))) rfl
theorem ks_72 : Cond.selects (yX10_rentBreak).cls yX10_rentBreak yX10_rentBreak ∈ TB := tb_lw (lw_sel (q := (yX10_rentBreak, 61)) (by unfold lw_privs; exact List.mem_append_right _ (List.mem_append_right _ (List.mem_append_right _ (List.mem_append_right _ (List.mem_append_left _ (List.mem_of_getElem? (i := 8) rfl : _ ∈ lw_privs_5))))))) rfl
theorem ks_73 : Cond.selects (yX10_clubBreak).cls yX10_clubBreak yX10_clubBreak ∈ TB := tb_lw (lw_sel (q := (yX10_clubBreak, 61)) (by unfold lw_privs; exact List.mem_append_right _ (List.mem_append_right _ (List.mem_append_right _ (List.mem_append_right _ (List.mem_append_left _ (List.mem_of_getElem? (i := 9) rfl : _ ∈ lw_privs_5))))))) rfl
theorem ks_76 : Cond.selects (yX10_voteBreak).cls yX10_voteBreak yX10_voteBreak ∈ TB := tb_lw (lw_sel (q := (yX10_voteBreak, 61)) (by unfold lw_privs; exact List.mem_append_right _ (List.mem_append_right _ (List.mem_append_right _ (List.mem_append_right _ (List.mem_append_left _ (List.mem_of_getElem? (i := 12) rfl : _ ∈ lw_privs_5))))))) rfl
theorem ks_77 : Cond.selects (yX10_seerBreak).cls yX10_seerBreak yX10_seerBreak ∈ TB := tb_lw (lw_sel (q := (yX10_seerBreak, 61)) (by unfold lw_privs; exact List.mem_append_right _ (List.mem_append_right _ (List.mem_append_right _ (List.mem_append_right _ (List.mem_append_left _ (List.mem_of_getElem? (i := 13) rfl : _ ∈ lw_privs_5))))))) rfl
theorem ks_68 : Cond.selects (yX10_breakOf).cls yX10_breakOf yX10_breakOf ∈ TB := tb_lw (lw_sel (q := (yX10_breakOf, 61)) (by unfold lw_privs; exact List.mem_append_right _ (List.mem_append_right _ (List.mem_append_right _ (List.mem_append_right _ (List.mem_append_left _ (List.mem_of_getElem? (i := 4) rfl : _ ∈ lw_privs_5))))))) rfl
theorem ks_67 : Cond.selects (yX10_isRest).cls yX10_isRest yX10_isRest ∈ TB := tb_lw (lw_sel (q := (yX10_isRest, 61)) (by unfold lw_privs; exact List.mem_append_right _ (List.mem_append_right _ (List.mem_append_right _ (List.mem_append_right _ (List.mem_append_left _ (List.mem_of_getElem? (i := 3) rfl : _ ∈ lw_privs_5))))))) rfl
theorem ks_78 : Cond.selects (yX10_stepOnce).cls yX10_stepOnce yX10_stepOnce ∈ TB := tb_lw (lw_sel (q := (yX10_stepOnce, 61)) (by unfold lw_privs; exact List.mem_append_right _ (List.mem_append_right _ (List.mem_append_right _ (List.mem_append_right _ (List.mem_append_left _ (List.mem_of_getElem? (i := 14) rfl : _ ∈ lw_privs_5))))))) rfl
theorem ks_80 : Cond.selects (yX10_keepState).cls yX10_keepState yX10_keepState ∈ TB := tb_lw (lw_sel (q := (yX10_keepState, 61)) (by unfold lw_privs; exact List.mem_append_right _ (List.mem_append_right _ (List.mem_append_right _ (List.mem_append_right _ (List.mem_append_right _ (List.mem_append_left _ (List.mem_of_getElem? (i := 0) rfl : _ ∈ lw_privs_6)))))))) rfl
theorem ks_81 : Cond.selects (yX10_isState).cls yX10_isState yX10_isState ∈ TB := tb_lw (lw_sel (q := (yX10_isState, 61)) (by unfold lw_privs; exact List.mem_append_right _ (List.mem_append_right _ (List.mem_append_right _ (List.mem_append_right _ (List.mem_append_right _ (List.mem_append_left _ (List.mem_of_getElem? (i := 1) rfl : _ ∈ lw_privs_6)))))))) rfl
theorem ks_79 : Cond.selects (yX10_endAll).cls yX10_endAll yX10_endAll ∈ TB := tb_lw (lw_sel (q := (yX10_endAll, 61)) (by unfold lw_privs; exact List.mem_append_right _ (List.mem_append_right _ (List.mem_append_right _ (List.mem_append_right _ (List.mem_append_left _ (List.mem_of_getElem? (i := 15) rfl : _ ∈ lw_privs_5))))))) rfl
theorem ks_82 : Cond.selects (yX10_isTape).cls yX10_isTape yX10_isTape ∈ TB := tb_lw (lw_sel (q := (yX10_isTape, 61)) (by unfold lw_privs; exact List.mem_append_right _ (List.mem_append_right _ (List.mem_append_right _ (List.mem_append_right _ (List.mem_append_right _ (List.mem_append_left _ (List.mem_of_getElem? (i := 2) rfl : _ ∈ lw_privs_6)))))))) rfl
theorem ks_83 : Cond.selects (yX10_keep).cls yX10_keep yX10_keep ∈ TB := tb_lw (lw_sel (q := (yX10_keep, 61)) (by unfold lw_privs; exact List.mem_append_right _ (List.mem_append_right _ (List.mem_append_right _ (List.mem_append_right _ (List.mem_append_right _ (List.mem_append_left _ (List.mem_of_getElem? (i := 3) rfl : _ ∈ lw_privs_6)))))))) rfl
theorem ks_84 : Cond.selects (yX10_isRoom).cls yX10_isRoom yX10_isRoom ∈ TB := tb_lw (lw_sel (q := (yX10_isRoom, 61)) (by unfold lw_privs; exact List.mem_append_right _ (List.mem_append_right _ (List.mem_append_right _ (List.mem_append_right _ (List.mem_append_right _ (List.mem_append_left _ (List.mem_of_getElem? (i := 4) rfl : _ ∈ lw_privs_6)))))))) rfl
theorem ks_85 : Cond.selects (yX10_putBack).cls yX10_putBack yX10_putBack ∈ TB := tb_lw (lw_sel (q := (yX10_putBack, 61)) (by unfold lw_privs; exact List.mem_append_right _ (List.mem_append_right _ (List.mem_append_right _ (List.mem_append_right _ (List.mem_append_right _ (List.mem_append_left _ (List.mem_of_getElem? (i := 5) rfl : _ ∈ lw_privs_6)))))))) rfl
theorem ks_86 : Cond.selects (yX10_rowsOf).cls yX10_rowsOf yX10_rowsOf ∈ TB := tb_lw (lw_sel (q := (yX10_rowsOf, 61)) (by unfold lw_privs; exact List.mem_append_right _ (List.mem_append_right _ (List.mem_append_right _ (List.mem_append_right _ (List.mem_append_right _ (List.mem_append_left _ (List.mem_of_getElem? (i := 6) rfl : _ ∈ lw_privs_6)))))))) rfl
theorem ks_87 : Cond.selects (yX10_layOut).cls yX10_layOut yX10_layOut ∈ TB := tb_lw (lw_sel (q := (yX10_layOut, 61)) (by unfold lw_privs; exact List.mem_append_right _ (List.mem_append_right _ (List.mem_append_right _ (List.mem_append_right _ (List.mem_append_right _ (List.mem_append_left _ (List.mem_of_getElem? (i := 7) rfl : _ ∈ lw_privs_6)))))))) rfl
theorem ks_88 : Cond.selects (yX10_isWanted).cls yX10_isWanted yX10_isWanted ∈ TB := tb_lw (lw_sel (q := (yX10_isWanted, 61)) (by unfold lw_privs; exact List.mem_append_right _ (List.mem_append_right _ (List.mem_append_right _ (List.mem_append_right _ (List.mem_append_right _ (List.mem_append_left _ (List.mem_of_getElem? (i := 8) rfl : _ ∈ lw_privs_6)))))))) rfl
theorem ks_89 : Cond.selects (yX10_pairs).cls yX10_pairs yX10_pairs ∈ TB := tb_lw (lw_sel (q := (yX10_pairs, 61)) (by unfold lw_privs; exact List.mem_append_right _ (List.mem_append_right _ (List.mem_append_right _ (List.mem_append_right _ (List.mem_append_right _ (List.mem_append_left _ (List.mem_of_getElem? (i := 9) rfl : _ ∈ lw_privs_6)))))))) rfl
theorem ks_90 : Cond.selects (yX10_deal).cls yX10_deal yX10_deal ∈ TB := tb_lw (lw_sel (q := (yX10_deal, 61)) (by unfold lw_privs; exact List.mem_append_right _ (List.mem_append_right _ (List.mem_append_right _ (List.mem_append_right _ (List.mem_append_right _ (List.mem_append_left _ (List.mem_of_getElem? (i := 10) rfl : _ ∈ lw_privs_6)))))))) rfl
theorem ks_91 : Cond.selects (yX10_isSet).cls yX10_isSet yX10_isSet ∈ TB := tb_lw (lw_sel (q := (yX10_isSet, 61)) (by unfold lw_privs; exact List.mem_append_right _ (List.mem_append_right _ (List.mem_append_right _ (List.mem_append_right _ (List.mem_append_right _ (List.mem_append_left _ (List.mem_of_getElem? (i := 11) rfl : _ ∈ lw_privs_6)))))))) rfl
theorem ks_92 : Cond.selects (yX10_priceOf).cls yX10_priceOf yX10_priceOf ∈ TB := tb_lw (lw_sel (q := (yX10_priceOf, 61)) (by unfold lw_privs; exact List.mem_append_right _ (List.mem_append_right _ (List.mem_append_right _ (List.mem_append_right _ (List.mem_append_right _ (List.mem_append_left _ (List.mem_of_getElem? (i := 12) rfl : _ ∈ lw_privs_6)))))))) rfl
theorem ks_93 : Cond.selects (yX10_leastBehind).cls yX10_leastBehind yX10_leastBehind ∈ TB := tb_lw (lw_sel (q := (yX10_leastBehind, 61)) (by unfold lw_privs; exact List.mem_append_right _ (List.mem_append_right _ (List.mem_append_right _ (List.mem_append_right _ (List.mem_append_right _ (List.mem_append_left _ (List.mem_of_getElem? (i := 13) rfl : _ ∈ lw_privs_6)))))))) rfl
theorem ks_94 : Cond.selects (yX10_twinSort).cls yX10_twinSort yX10_twinSort ∈ TB := tb_lw (lw_sel (q := (yX10_twinSort, 61)) (by unfold lw_privs; exact List.mem_append_right _ (List.mem_append_right _ (List.mem_append_right _ (List.mem_append_right _ (List.mem_append_right _ (List.mem_append_left _ (List.mem_of_getElem? (i := 14) rfl : _ ∈ lw_privs_6)))))))) rfl
theorem ks_97 : Cond.selects (yX10_body).cls yX10_body yX10_body ∈ TB := tb_lw (lw_sel (q := (yX10_body, 61)) (by unfold lw_privs; exact List.mem_append_right _ (List.mem_append_right _ (List.mem_append_right _ (List.mem_append_right _ (List.mem_append_right _ (List.mem_append_right _ ((List.mem_of_getElem? (i := 1) rfl : _ ∈ lw_privs_7))))))))) rfl
theorem ks_98 : Cond.selects (yX10_plainHolds).cls yX10_plainHolds yX10_plainHolds ∈ TB := tb_lw (lw_sel (q := (yX10_plainHolds, 61)) (by unfold lw_privs; exact List.mem_append_right _ (List.mem_append_right _ (List.mem_append_right _ (List.mem_append_right _ (List.mem_append_right _ (List.mem_append_right _ ((List.mem_of_getElem? (i := 2) rfl : _ ∈ lw_privs_7))))))))) rfl
theorem ks_96 : Cond.selects (yX10_votedHolds).cls yX10_votedHolds yX10_votedHolds ∈ TB := tb_lw (lw_sel (q := (yX10_votedHolds, 61)) (by unfold lw_privs; exact List.mem_append_right _ (List.mem_append_right _ (List.mem_append_right _ (List.mem_append_right _ (List.mem_append_right _ (List.mem_append_right _ ((List.mem_of_getElem? (i := 0) rfl : _ ∈ lw_privs_7))))))))) rfl
theorem ks_95 : Cond.selects (yX10_holds).cls yX10_holds yX10_holds ∈ TB := tb_lw (lw_sel (q := (yX10_holds, 61)) (by unfold lw_privs; exact List.mem_append_right _ (List.mem_append_right _ (List.mem_append_right _ (List.mem_append_right _ (List.mem_append_right _ (List.mem_append_left _ (List.mem_of_getElem? (i := 15) rfl : _ ∈ lw_privs_6)))))))) rfl
theorem ks_100 : Cond.selects (yX10_plainBreaks).cls yX10_plainBreaks yX10_plainBreaks ∈ TB := tb_lw (lw_sel (q := (yX10_plainBreaks, 61)) (by unfold lw_privs; exact List.mem_append_right _ (List.mem_append_right _ (List.mem_append_right _ (List.mem_append_right _ (List.mem_append_right _ (List.mem_append_right _ ((List.mem_of_getElem? (i := 4) rfl : _ ∈ lw_privs_7))))))))) rfl
theorem ks_101 : Cond.selects (yX10_stayBreaks).cls yX10_stayBreaks yX10_stayBreaks ∈ TB := tb_lw (lw_sel (q := (yX10_stayBreaks, 61)) (by unfold lw_privs; exact List.mem_append_right _ (List.mem_append_right _ (List.mem_append_right _ (List.mem_append_right _ (List.mem_append_right _ (List.mem_append_right _ ((List.mem_of_getElem? (i := 5) rfl : _ ∈ lw_privs_7))))))))) rfl
theorem ks_99 : Cond.selects (yX10_breaks).cls yX10_breaks yX10_breaks ∈ TB := tb_lw (lw_sel (q := (yX10_breaks, 61)) (by unfold lw_privs; exact List.mem_append_right _ (List.mem_append_right _ (List.mem_append_right _ (List.mem_append_right _ (List.mem_append_right _ (List.mem_append_right _ ((List.mem_of_getElem? (i := 3) rfl : _ ∈ lw_privs_7))))))))) rfl
theorem ks_104 : Cond.selects (yX10_plainTells).cls yX10_plainTells yX10_plainTells ∈ TB := tb_lw (lw_sel (q := (yX10_plainTells, 61)) (by unfold lw_privs; exact List.mem_append_right _ (List.mem_append_right _ (List.mem_append_right _ (List.mem_append_right _ (List.mem_append_right _ (List.mem_append_right _ ((List.mem_of_getElem? (i := 8) rfl : _ ∈ lw_privs_7))))))))) rfl
theorem ks_103 : Cond.selects (yX10_votedTells).cls yX10_votedTells yX10_votedTells ∈ TB := tb_lw (lw_sel (q := (yX10_votedTells, 61)) (by unfold lw_privs; exact List.mem_append_right _ (List.mem_append_right _ (List.mem_append_right _ (List.mem_append_right _ (List.mem_append_right _ (List.mem_append_right _ ((List.mem_of_getElem? (i := 7) rfl : _ ∈ lw_privs_7))))))))) rfl
theorem ks_102 : Cond.selects (yX10_tells).cls yX10_tells yX10_tells ∈ TB := tb_lw (lw_sel (q := (yX10_tells, 61)) (by unfold lw_privs; exact List.mem_append_right _ (List.mem_append_right _ (List.mem_append_right _ (List.mem_append_right _ (List.mem_append_right _ (List.mem_append_right _ ((List.mem_of_getElem? (i := 6) rfl : _ ∈ lw_privs_7))))))))) rfl
theorem ks_105 : Cond.selects (yX10_narrow).cls yX10_narrow yX10_narrow ∈ TB := tb_lw (lw_sel (q := (yX10_narrow, 61)) (by unfold lw_privs; exact List.mem_append_right _ (List.mem_append_right _ (List.mem_append_right _ (List.mem_append_right _ (List.mem_append_right _ (List.mem_append_right _ ((List.mem_of_getElem? (i := 9) rfl : _ ∈ lw_privs_7))))))))) rfl
