-- ===== PART A: goes FIRST, ahead of the names: the tables' words, and 'selects' of the private methods out of them =====
/-- a private method of a class that the tables say can be made, by its rows of tables_1 -/
def lw_okq (q : MethodName × Nat) : Prop := (q.1.cls ≠ "java/lang/invoke/MethodHandle" ∧ q.1.cls ≠ "java/lang/invoke/VarHandle") ∧ Cond.instantiable q.1.cls q.2 ∈ tables_1 ∧ Cond.privateMethod q.1 ∈ tables_1 ∧ Cond.instanceMethod q.1 ∈ tables_1
theorem lw_p0 : lw_okq (⟨"CrossroadsCarts", "isTown", "(I)Z"⟩, 14) := ⟨⟨by decide +kernel, by decide +kernel⟩, List.mem_of_getElem? (i := 22) (by decide +kernel), List.mem_of_getElem? (i := 307) (by decide +kernel), List.mem_of_getElem? (i := 308) (by decide +kernel)⟩
theorem lw_p1 : lw_okq (⟨"CrossroadsCarts", "isFamily", "(I)Z"⟩, 14) := ⟨⟨by decide +kernel, by decide +kernel⟩, List.mem_of_getElem? (i := 22) (by decide +kernel), List.mem_of_getElem? (i := 334) (by decide +kernel), List.mem_of_getElem? (i := 335) (by decide +kernel)⟩
theorem lw_p2 : lw_okq (⟨"CrossroadsCarts$Country", "greatestIncome", "(II)I"⟩, 13) := ⟨⟨by decide +kernel, by decide +kernel⟩, List.mem_of_getElem? (i := 30) (by decide +kernel), List.mem_of_getElem? (i := 343) (by decide +kernel), List.mem_of_getElem? (i := 344) (by decide +kernel)⟩
theorem lw_p3 : lw_okq (⟨"CrossroadsCarts$Country", "isAsIfIn", "(III)Z"⟩, 13) := ⟨⟨by decide +kernel, by decide +kernel⟩, List.mem_of_getElem? (i := 30) (by decide +kernel), List.mem_of_getElem? (i := 347) (by decide +kernel), List.mem_of_getElem? (i := 348) (by decide +kernel)⟩
theorem lw_p4 : lw_okq (⟨"CrossroadsCarts$Country", "share", "(II)I"⟩, 13) := ⟨⟨by decide +kernel, by decide +kernel⟩, List.mem_of_getElem? (i := 30) (by decide +kernel), List.mem_of_getElem? (i := 355) (by decide +kernel), List.mem_of_getElem? (i := 356) (by decide +kernel)⟩
theorem lw_p5 : lw_okq (⟨"CrossroadsCarts$Country", "sharesTogether", "(III)I"⟩, 13) := ⟨⟨by decide +kernel, by decide +kernel⟩, List.mem_of_getElem? (i := 30) (by decide +kernel), List.mem_of_getElem? (i := 359) (by decide +kernel), List.mem_of_getElem? (i := 360) (by decide +kernel)⟩
theorem lw_p6 : lw_okq (⟨"CrossroadsCarts$Reader", "clause", "(LCrossroadsCarts$Land;)Z"⟩, 3) := ⟨⟨by decide +kernel, by decide +kernel⟩, List.mem_of_getElem? (i := 150) (by decide +kernel), List.mem_of_getElem? (i := 410) (by decide +kernel), List.mem_of_getElem? (i := 411) (by decide +kernel)⟩
theorem lw_p7 : lw_okq (⟨"CrossroadsCarts$Reader", "word", "()I"⟩, 3) := ⟨⟨by decide +kernel, by decide +kernel⟩, List.mem_of_getElem? (i := 150) (by decide +kernel), List.mem_of_getElem? (i := 414) (by decide +kernel), List.mem_of_getElem? (i := 415) (by decide +kernel)⟩
theorem lw_p8 : lw_okq (⟨"CrossroadsCarts$Reader", "met", "(C)Z"⟩, 3) := ⟨⟨by decide +kernel, by decide +kernel⟩, List.mem_of_getElem? (i := 150) (by decide +kernel), List.mem_of_getElem? (i := 467) (by decide +kernel), List.mem_of_getElem? (i := 468) (by decide +kernel)⟩
theorem lw_p9 : lw_okq (⟨"CrossroadsCarts$Reader", "pair", "([II)Z"⟩, 3) := ⟨⟨by decide +kernel, by decide +kernel⟩, List.mem_of_getElem? (i := 150) (by decide +kernel), List.mem_of_getElem? (i := 471) (by decide +kernel), List.mem_of_getElem? (i := 472) (by decide +kernel)⟩
theorem lw_p10 : lw_okq (⟨"CrossroadsCarts$Reader", "figure", "(I)I"⟩, 3) := ⟨⟨by decide +kernel, by decide +kernel⟩, List.mem_of_getElem? (i := 150) (by decide +kernel), List.mem_of_getElem? (i := 475) (by decide +kernel), List.mem_of_getElem? (i := 476) (by decide +kernel)⟩
theorem lw_p11 : lw_okq (⟨"CrossroadsCarts$Reader", "number", "()I"⟩, 3) := ⟨⟨by decide +kernel, by decide +kernel⟩, List.mem_of_getElem? (i := 150) (by decide +kernel), List.mem_of_getElem? (i := 479) (by decide +kernel), List.mem_of_getElem? (i := 480) (by decide +kernel)⟩
theorem lw_p12 : lw_okq (⟨"CrossroadsCarts$Reader", "single", "([I)Z"⟩, 3) := ⟨⟨by decide +kernel, by decide +kernel⟩, List.mem_of_getElem? (i := 150) (by decide +kernel), List.mem_of_getElem? (i := 483) (by decide +kernel), List.mem_of_getElem? (i := 484) (by decide +kernel)⟩
theorem lw_p13 : lw_okq (⟨"CrossroadsCarts$Reader", "letter", "(Ljava/lang/String;)I"⟩, 3) := ⟨⟨by decide +kernel, by decide +kernel⟩, List.mem_of_getElem? (i := 150) (by decide +kernel), List.mem_of_getElem? (i := 488) (by decide +kernel), List.mem_of_getElem? (i := 489) (by decide +kernel)⟩
theorem lw_p14 : lw_okq (⟨"CrossroadsCarts$Reader", "either", "(LCrossroadsCarts$Land;I)Z"⟩, 3) := ⟨⟨by decide +kernel, by decide +kernel⟩, List.mem_of_getElem? (i := 150) (by decide +kernel), List.mem_of_getElem? (i := 552) (by decide +kernel), List.mem_of_getElem? (i := 553) (by decide +kernel)⟩
theorem lw_p15 : lw_okq (⟨"CrossroadsCarts$Reader", "factor", "(LCrossroadsCarts$Land;I)Z"⟩, 3) := ⟨⟨by decide +kernel, by decide +kernel⟩, List.mem_of_getElem? (i := 150) (by decide +kernel), List.mem_of_getElem? (i := 556) (by decide +kernel), List.mem_of_getElem? (i := 557) (by decide +kernel)⟩
def lw_privs_1 : List (MethodName × Nat) := [(⟨"CrossroadsCarts", "isTown", "(I)Z"⟩, 14), (⟨"CrossroadsCarts", "isFamily", "(I)Z"⟩, 14), (⟨"CrossroadsCarts$Country", "greatestIncome", "(II)I"⟩, 13), (⟨"CrossroadsCarts$Country", "isAsIfIn", "(III)Z"⟩, 13), (⟨"CrossroadsCarts$Country", "share", "(II)I"⟩, 13), (⟨"CrossroadsCarts$Country", "sharesTogether", "(III)I"⟩, 13), (⟨"CrossroadsCarts$Reader", "clause", "(LCrossroadsCarts$Land;)Z"⟩, 3), (⟨"CrossroadsCarts$Reader", "word", "()I"⟩, 3), (⟨"CrossroadsCarts$Reader", "met", "(C)Z"⟩, 3), (⟨"CrossroadsCarts$Reader", "pair", "([II)Z"⟩, 3), (⟨"CrossroadsCarts$Reader", "figure", "(I)I"⟩, 3), (⟨"CrossroadsCarts$Reader", "number", "()I"⟩, 3), (⟨"CrossroadsCarts$Reader", "single", "([I)Z"⟩, 3), (⟨"CrossroadsCarts$Reader", "letter", "(Ljava/lang/String;)I"⟩, 3), (⟨"CrossroadsCarts$Reader", "either", "(LCrossroadsCarts$Land;I)Z"⟩, 3), (⟨"CrossroadsCarts$Reader", "factor", "(LCrossroadsCarts$Land;I)Z"⟩, 3)]
theorem lw_r1 : ∀ q ∈ lw_privs_1, lw_okq q := List.forall_mem_cons.mpr ⟨lw_p0, List.forall_mem_cons.mpr ⟨lw_p1, List.forall_mem_cons.mpr ⟨lw_p2, List.forall_mem_cons.mpr ⟨lw_p3, List.forall_mem_cons.mpr ⟨lw_p4, List.forall_mem_cons.mpr ⟨lw_p5, List.forall_mem_cons.mpr ⟨lw_p6, List.forall_mem_cons.mpr ⟨lw_p7, List.forall_mem_cons.mpr ⟨lw_p8, List.forall_mem_cons.mpr ⟨lw_p9, List.forall_mem_cons.mpr ⟨lw_p10, List.forall_mem_cons.mpr ⟨lw_p11, List.forall_mem_cons.mpr ⟨lw_p12, List.forall_mem_cons.mpr ⟨lw_p13, List.forall_mem_cons.mpr ⟨lw_p14, List.forall_mem_cons.mpr ⟨lw_p15, fun _ h => absurd h List.not_mem_nil⟩⟩⟩⟩⟩⟩⟩⟩⟩⟩⟩⟩⟩⟩⟩⟩
theorem lw_p16 : lw_okq (⟨"CrossroadsCarts$Reader", "test", "(LCrossroadsCarts$Land;)Z"⟩, 3) := ⟨⟨by decide +kernel, by decide +kernel⟩, List.mem_of_getElem? (i := 150) (by decide +kernel), List.mem_of_getElem? (i := 564) (by decide +kernel), List.mem_of_getElem? (i := 565) (by decide +kernel)⟩
theorem lw_p17 : lw_okq (⟨"CrossroadsCarts$Reader", "weight", "(LCrossroadsCarts$Land;)Z"⟩, 3) := ⟨⟨by decide +kernel, by decide +kernel⟩, List.mem_of_getElem? (i := 150) (by decide +kernel), List.mem_of_getElem? (i := 570) (by decide +kernel), List.mem_of_getElem? (i := 571) (by decide +kernel)⟩
theorem lw_p18 : lw_okq (⟨"CrossroadsCarts$Country", "hasOldOnes", "(I)Z"⟩, 13) := ⟨⟨by decide +kernel, by decide +kernel⟩, List.mem_of_getElem? (i := 30) (by decide +kernel), List.mem_of_getElem? (i := 588) (by decide +kernel), List.mem_of_getElem? (i := 589) (by decide +kernel)⟩
theorem lw_p19 : lw_okq (⟨"CrossroadsCarts$Country", "wantedLevel", "(III)I"⟩, 13) := ⟨⟨by decide +kernel, by decide +kernel⟩, List.mem_of_getElem? (i := 30) (by decide +kernel), List.mem_of_getElem? (i := 592) (by decide +kernel), List.mem_of_getElem? (i := 593) (by decide +kernel)⟩
theorem lw_p20 : lw_okq (⟨"CrossroadsCarts$Country", "middleWant", "(I)I"⟩, 13) := ⟨⟨by decide +kernel, by decide +kernel⟩, List.mem_of_getElem? (i := 30) (by decide +kernel), List.mem_of_getElem? (i := 596) (by decide +kernel), List.mem_of_getElem? (i := 597) (by decide +kernel)⟩
theorem lw_p21 : lw_okq (⟨"CrossroadsCarts$Country", "commonestWant", "()I"⟩, 13) := ⟨⟨by decide +kernel, by decide +kernel⟩, List.mem_of_getElem? (i := 30) (by decide +kernel), List.mem_of_getElem? (i := 600) (by decide +kernel), List.mem_of_getElem? (i := 601) (by decide +kernel)⟩
theorem lw_p22 : lw_okq (⟨"CrossroadsCarts$Rests", "stay", "(LCrossroadsCarts$Country;)I"⟩, 3) := ⟨⟨by decide +kernel, by decide +kernel⟩, List.mem_of_getElem? (i := 168) (by decide +kernel), List.mem_of_getElem? (i := 624) (by decide +kernel), List.mem_of_getElem? (i := 625) (by decide +kernel)⟩
theorem lw_p23 : lw_okq (⟨"CrossroadsCarts$Rests", "voted", "(LCrossroadsCarts$Country;)I"⟩, 3) := ⟨⟨by decide +kernel, by decide +kernel⟩, List.mem_of_getElem? (i := 168) (by decide +kernel), List.mem_of_getElem? (i := 639) (by decide +kernel), List.mem_of_getElem? (i := 640) (by decide +kernel)⟩
theorem lw_p24 : lw_okq (⟨"CrossroadsCarts$Rests", "rented", "(LCrossroadsCarts$Country;)I"⟩, 3) := ⟨⟨by decide +kernel, by decide +kernel⟩, List.mem_of_getElem? (i := 168) (by decide +kernel), List.mem_of_getElem? (i := 644) (by decide +kernel), List.mem_of_getElem? (i := 645) (by decide +kernel)⟩
theorem lw_p25 : lw_okq (⟨"CrossroadsCarts$Rests", "seer", "(LCrossroadsCarts$Country;)I"⟩, 3) := ⟨⟨by decide +kernel, by decide +kernel⟩, List.mem_of_getElem? (i := 168) (by decide +kernel), List.mem_of_getElem? (i := 649) (by decide +kernel), List.mem_of_getElem? (i := 650) (by decide +kernel)⟩
theorem lw_p26 : lw_okq (⟨"CrossroadsCarts$Rests", "club", "(LCrossroadsCarts$Country;)I"⟩, 3) := ⟨⟨by decide +kernel, by decide +kernel⟩, List.mem_of_getElem? (i := 168) (by decide +kernel), List.mem_of_getElem? (i := 657) (by decide +kernel), List.mem_of_getElem? (i := 658) (by decide +kernel)⟩
theorem lw_p27 : lw_okq (⟨"CrossroadsCarts$Rests", "wouldFound", "(LCrossroadsCarts$Country;II)Z"⟩, 3) := ⟨⟨by decide +kernel, by decide +kernel⟩, List.mem_of_getElem? (i := 168) (by decide +kernel), List.mem_of_getElem? (i := 668) (by decide +kernel), List.mem_of_getElem? (i := 669) (by decide +kernel)⟩
theorem lw_p28 : lw_okq (⟨"CrossroadsCarts", "settleAsTold", "(LCrossroadsCarts$Tape;I)Z"⟩, 14) := ⟨⟨by decide +kernel, by decide +kernel⟩, List.mem_of_getElem? (i := 22) (by decide +kernel), List.mem_of_getElem? (i := 732) (by decide +kernel), List.mem_of_getElem? (i := 733) (by decide +kernel)⟩
theorem lw_p29 : lw_okq (⟨"CrossroadsCarts$Deals", "ways", "(LCrossroadsCarts$Country;II)I"⟩, 2) := ⟨⟨by decide +kernel, by decide +kernel⟩, List.mem_of_getElem? (i := 195) (by decide +kernel), List.mem_of_getElem? (i := 788) (by decide +kernel), List.mem_of_getElem? (i := 789) (by decide +kernel)⟩
theorem lw_p30 : lw_okq (⟨"CrossroadsCarts", "priceOf", "(I)I"⟩, 14) := ⟨⟨by decide +kernel, by decide +kernel⟩, List.mem_of_getElem? (i := 22) (by decide +kernel), List.mem_of_getElem? (i := 831) (by decide +kernel), List.mem_of_getElem? (i := 832) (by decide +kernel)⟩
theorem lw_p31 : lw_okq (⟨"CrossroadsCarts", "clashIn", "(I)Z"⟩, 14) := ⟨⟨by decide +kernel, by decide +kernel⟩, List.mem_of_getElem? (i := 22) (by decide +kernel), List.mem_of_getElem? (i := 835) (by decide +kernel), List.mem_of_getElem? (i := 836) (by decide +kernel)⟩
def lw_privs_2 : List (MethodName × Nat) := [(⟨"CrossroadsCarts$Reader", "test", "(LCrossroadsCarts$Land;)Z"⟩, 3), (⟨"CrossroadsCarts$Reader", "weight", "(LCrossroadsCarts$Land;)Z"⟩, 3), (⟨"CrossroadsCarts$Country", "hasOldOnes", "(I)Z"⟩, 13), (⟨"CrossroadsCarts$Country", "wantedLevel", "(III)I"⟩, 13), (⟨"CrossroadsCarts$Country", "middleWant", "(I)I"⟩, 13), (⟨"CrossroadsCarts$Country", "commonestWant", "()I"⟩, 13), (⟨"CrossroadsCarts$Rests", "stay", "(LCrossroadsCarts$Country;)I"⟩, 3), (⟨"CrossroadsCarts$Rests", "voted", "(LCrossroadsCarts$Country;)I"⟩, 3), (⟨"CrossroadsCarts$Rests", "rented", "(LCrossroadsCarts$Country;)I"⟩, 3), (⟨"CrossroadsCarts$Rests", "seer", "(LCrossroadsCarts$Country;)I"⟩, 3), (⟨"CrossroadsCarts$Rests", "club", "(LCrossroadsCarts$Country;)I"⟩, 3), (⟨"CrossroadsCarts$Rests", "wouldFound", "(LCrossroadsCarts$Country;II)Z"⟩, 3), (⟨"CrossroadsCarts", "settleAsTold", "(LCrossroadsCarts$Tape;I)Z"⟩, 14), (⟨"CrossroadsCarts$Deals", "ways", "(LCrossroadsCarts$Country;II)I"⟩, 2), (⟨"CrossroadsCarts", "priceOf", "(I)I"⟩, 14), (⟨"CrossroadsCarts", "clashIn", "(I)Z"⟩, 14)]
theorem lw_r2 : ∀ q ∈ lw_privs_2, lw_okq q := List.forall_mem_cons.mpr ⟨lw_p16, List.forall_mem_cons.mpr ⟨lw_p17, List.forall_mem_cons.mpr ⟨lw_p18, List.forall_mem_cons.mpr ⟨lw_p19, List.forall_mem_cons.mpr ⟨lw_p20, List.forall_mem_cons.mpr ⟨lw_p21, List.forall_mem_cons.mpr ⟨lw_p22, List.forall_mem_cons.mpr ⟨lw_p23, List.forall_mem_cons.mpr ⟨lw_p24, List.forall_mem_cons.mpr ⟨lw_p25, List.forall_mem_cons.mpr ⟨lw_p26, List.forall_mem_cons.mpr ⟨lw_p27, List.forall_mem_cons.mpr ⟨lw_p28, List.forall_mem_cons.mpr ⟨lw_p29, List.forall_mem_cons.mpr ⟨lw_p30, List.forall_mem_cons.mpr ⟨lw_p31, fun _ h => absurd h List.not_mem_nil⟩⟩⟩⟩⟩⟩⟩⟩⟩⟩⟩⟩⟩⟩⟩⟩
theorem lw_p32 : lw_okq (⟨"CrossroadsCarts", "enact", "(I)V"⟩, 14) := ⟨⟨by decide +kernel, by decide +kernel⟩, List.mem_of_getElem? (i := 22) (by decide +kernel), List.mem_of_getElem? (i := 843) (by decide +kernel), List.mem_of_getElem? (i := 844) (by decide +kernel)⟩
theorem lw_p33 : lw_okq (⟨"CrossroadsCarts", "births", "()I"⟩, 14) := ⟨⟨by decide +kernel, by decide +kernel⟩, List.mem_of_getElem? (i := 22) (by decide +kernel), List.mem_of_getElem? (i := 865) (by decide +kernel), List.mem_of_getElem? (i := 866) (by decide +kernel)⟩
theorem lw_p34 : lw_okq (⟨"CrossroadsCarts$Acts", "own", "(III)I"⟩, 5) := ⟨⟨by decide +kernel, by decide +kernel⟩, List.mem_of_getElem? (i := 208) (by decide +kernel), List.mem_of_getElem? (i := 885) (by decide +kernel), List.mem_of_getElem? (i := 886) (by decide +kernel)⟩
theorem lw_p35 : lw_okq (⟨"CrossroadsCarts$Acts", "from", "(IIII)I"⟩, 5) := ⟨⟨by decide +kernel, by decide +kernel⟩, List.mem_of_getElem? (i := 208) (by decide +kernel), List.mem_of_getElem? (i := 889) (by decide +kernel), List.mem_of_getElem? (i := 890) (by decide +kernel)⟩
theorem lw_p36 : lw_okq (⟨"CrossroadsCarts$Acts", "run", "(III)I"⟩, 5) := ⟨⟨by decide +kernel, by decide +kernel⟩, List.mem_of_getElem? (i := 208) (by decide +kernel), List.mem_of_getElem? (i := 896) (by decide +kernel), List.mem_of_getElem? (i := 897) (by decide +kernel)⟩
theorem lw_p37 : lw_okq (⟨"CrossroadsCarts$Acts", "above", "(IIII)I"⟩, 5) := ⟨⟨by decide +kernel, by decide +kernel⟩, List.mem_of_getElem? (i := 208) (by decide +kernel), List.mem_of_getElem? (i := 900) (by decide +kernel), List.mem_of_getElem? (i := 901) (by decide +kernel)⟩
theorem lw_p38 : lw_okq (⟨"CrossroadsCartsModel", "in", "(III)Z"⟩, 61) := ⟨⟨by decide +kernel, by decide +kernel⟩, List.mem_of_getElem? (i := 945) (by decide +kernel), List.mem_of_getElem? (i := 1140) (by decide +kernel), List.mem_of_getElem? (i := 1141) (by decide +kernel)⟩
theorem lw_p39 : lw_okq (⟨"CrossroadsCartsModel", "isTown", "(I)Z"⟩, 61) := ⟨⟨by decide +kernel, by decide +kernel⟩, List.mem_of_getElem? (i := 945) (by decide +kernel), List.mem_of_getElem? (i := 1148) (by decide +kernel), List.mem_of_getElem? (i := 1149) (by decide +kernel)⟩
theorem lw_p40 : lw_okq (⟨"CrossroadsCartsModel", "isFree", "(I)Z"⟩, 61) := ⟨⟨by decide +kernel, by decide +kernel⟩, List.mem_of_getElem? (i := 945) (by decide +kernel), List.mem_of_getElem? (i := 1152) (by decide +kernel), List.mem_of_getElem? (i := 1153) (by decide +kernel)⟩
theorem lw_p41 : lw_okq (⟨"CrossroadsCartsModel", "manyIn", "(I)I"⟩, 61) := ⟨⟨by decide +kernel, by decide +kernel⟩, List.mem_of_getElem? (i := 945) (by decide +kernel), List.mem_of_getElem? (i := 1156) (by decide +kernel), List.mem_of_getElem? (i := 1157) (by decide +kernel)⟩
theorem lw_p42 : lw_okq (⟨"CrossroadsCartsModel", "add", "(III)V"⟩, 61) := ⟨⟨by decide +kernel, by decide +kernel⟩, List.mem_of_getElem? (i := 945) (by decide +kernel), List.mem_of_getElem? (i := 1160) (by decide +kernel), List.mem_of_getElem? (i := 1161) (by decide +kernel)⟩
theorem lw_p43 : lw_okq (⟨"CrossroadsCartsModel", "isFamily", "(I)Z"⟩, 61) := ⟨⟨by decide +kernel, by decide +kernel⟩, List.mem_of_getElem? (i := 945) (by decide +kernel), List.mem_of_getElem? (i := 1172) (by decide +kernel), List.mem_of_getElem? (i := 1173) (by decide +kernel)⟩
theorem lw_p44 : lw_okq (⟨"CrossroadsCartsModel", "dues", "(II)I"⟩, 61) := ⟨⟨by decide +kernel, by decide +kernel⟩, List.mem_of_getElem? (i := 945) (by decide +kernel), List.mem_of_getElem? (i := 1177) (by decide +kernel), List.mem_of_getElem? (i := 1178) (by decide +kernel)⟩
theorem lw_p45 : lw_okq (⟨"CrossroadsCartsModel", "costOf", "(I)I"⟩, 61) := ⟨⟨by decide +kernel, by decide +kernel⟩, List.mem_of_getElem? (i := 945) (by decide +kernel), List.mem_of_getElem? (i := 1181) (by decide +kernel), List.mem_of_getElem? (i := 1182) (by decide +kernel)⟩
theorem lw_p46 : lw_okq (⟨"CrossroadsCartsModel", "worthOf", "(II)J"⟩, 61) := ⟨⟨by decide +kernel, by decide +kernel⟩, List.mem_of_getElem? (i := 945) (by decide +kernel), List.mem_of_getElem? (i := 1185) (by decide +kernel), List.mem_of_getElem? (i := 1186) (by decide +kernel)⟩
theorem lw_p47 : lw_okq (⟨"CrossroadsCartsModel", "findShun", "()V"⟩, 61) := ⟨⟨by decide +kernel, by decide +kernel⟩, List.mem_of_getElem? (i := 945) (by decide +kernel), List.mem_of_getElem? (i := 1189) (by decide +kernel), List.mem_of_getElem? (i := 1190) (by decide +kernel)⟩
def lw_privs_3 : List (MethodName × Nat) := [(⟨"CrossroadsCarts", "enact", "(I)V"⟩, 14), (⟨"CrossroadsCarts", "births", "()I"⟩, 14), (⟨"CrossroadsCarts$Acts", "own", "(III)I"⟩, 5), (⟨"CrossroadsCarts$Acts", "from", "(IIII)I"⟩, 5), (⟨"CrossroadsCarts$Acts", "run", "(III)I"⟩, 5), (⟨"CrossroadsCarts$Acts", "above", "(IIII)I"⟩, 5), (⟨"CrossroadsCartsModel", "in", "(III)Z"⟩, 61), (⟨"CrossroadsCartsModel", "isTown", "(I)Z"⟩, 61), (⟨"CrossroadsCartsModel", "isFree", "(I)Z"⟩, 61), (⟨"CrossroadsCartsModel", "manyIn", "(I)I"⟩, 61), (⟨"CrossroadsCartsModel", "add", "(III)V"⟩, 61), (⟨"CrossroadsCartsModel", "isFamily", "(I)Z"⟩, 61), (⟨"CrossroadsCartsModel", "dues", "(II)I"⟩, 61), (⟨"CrossroadsCartsModel", "costOf", "(I)I"⟩, 61), (⟨"CrossroadsCartsModel", "worthOf", "(II)J"⟩, 61), (⟨"CrossroadsCartsModel", "findShun", "()V"⟩, 61)]
theorem lw_r3 : ∀ q ∈ lw_privs_3, lw_okq q := List.forall_mem_cons.mpr ⟨lw_p32, List.forall_mem_cons.mpr ⟨lw_p33, List.forall_mem_cons.mpr ⟨lw_p34, List.forall_mem_cons.mpr ⟨lw_p35, List.forall_mem_cons.mpr ⟨lw_p36, List.forall_mem_cons.mpr ⟨lw_p37, List.forall_mem_cons.mpr ⟨lw_p38, List.forall_mem_cons.mpr ⟨lw_p39, List.forall_mem_cons.mpr ⟨lw_p40, List.forall_mem_cons.mpr ⟨lw_p41, List.forall_mem_cons.mpr ⟨lw_p42, List.forall_mem_cons.mpr ⟨lw_p43, List.forall_mem_cons.mpr ⟨lw_p44, List.forall_mem_cons.mpr ⟨lw_p45, List.forall_mem_cons.mpr ⟨lw_p46, List.forall_mem_cons.mpr ⟨lw_p47, fun _ h => absurd h List.not_mem_nil⟩⟩⟩⟩⟩⟩⟩⟩⟩⟩⟩⟩⟩⟩⟩⟩
theorem lw_p48 : lw_okq (⟨"CrossroadsCartsModel", "goes", "(I)Z"⟩, 61) := ⟨⟨by decide +kernel, by decide +kernel⟩, List.mem_of_getElem? (i := 945) (by decide +kernel), List.mem_of_getElem? (i := 1193) (by decide +kernel), List.mem_of_getElem? (i := 1194) (by decide +kernel)⟩
theorem lw_p49 : lw_okq (⟨"CrossroadsCartsModel", "takesClause", "()Z"⟩, 61) := ⟨⟨by decide +kernel, by decide +kernel⟩, List.mem_of_getElem? (i := 945) (by decide +kernel), List.mem_of_getElem? (i := 1197) (by decide +kernel), List.mem_of_getElem? (i := 1198) (by decide +kernel)⟩
theorem lw_p50 : lw_okq (⟨"CrossroadsCartsModel", "next", "()I"⟩, 61) := ⟨⟨by decide +kernel, by decide +kernel⟩, List.mem_of_getElem? (i := 945) (by decide +kernel), List.mem_of_getElem? (i := 1201) (by decide +kernel), List.mem_of_getElem? (i := 1202) (by decide +kernel)⟩
theorem lw_p51 : lw_okq (⟨"CrossroadsCartsModel", "takesWord", "(II)Z"⟩, 61) := ⟨⟨by decide +kernel, by decide +kernel⟩, List.mem_of_getElem? (i := 945) (by decide +kernel), List.mem_of_getElem? (i := 1206) (by decide +kernel), List.mem_of_getElem? (i := 1207) (by decide +kernel)⟩
theorem lw_p52 : lw_okq (⟨"CrossroadsCartsModel", "takes", "(I)Z"⟩, 61) := ⟨⟨by decide +kernel, by decide +kernel⟩, List.mem_of_getElem? (i := 945) (by decide +kernel), List.mem_of_getElem? (i := 1210) (by decide +kernel), List.mem_of_getElem? (i := 1211) (by decide +kernel)⟩
theorem lw_p53 : lw_okq (⟨"CrossroadsCartsModel", "takesTwo", "(I)Z"⟩, 61) := ⟨⟨by decide +kernel, by decide +kernel⟩, List.mem_of_getElem? (i := 945) (by decide +kernel), List.mem_of_getElem? (i := 1214) (by decide +kernel), List.mem_of_getElem? (i := 1215) (by decide +kernel)⟩
theorem lw_p54 : lw_okq (⟨"CrossroadsCartsModel", "takesFigure", "(I)Z"⟩, 61) := ⟨⟨by decide +kernel, by decide +kernel⟩, List.mem_of_getElem? (i := 945) (by decide +kernel), List.mem_of_getElem? (i := 1218) (by decide +kernel), List.mem_of_getElem? (i := 1219) (by decide +kernel)⟩
theorem lw_p55 : lw_okq (⟨"CrossroadsCartsModel", "takesNumber", "()Z"⟩, 61) := ⟨⟨by decide +kernel, by decide +kernel⟩, List.mem_of_getElem? (i := 945) (by decide +kernel), List.mem_of_getElem? (i := 1222) (by decide +kernel), List.mem_of_getElem? (i := 1223) (by decide +kernel)⟩
theorem lw_p56 : lw_okq (⟨"CrossroadsCartsModel", "isDigit", "()Z"⟩, 61) := ⟨⟨by decide +kernel, by decide +kernel⟩, List.mem_of_getElem? (i := 945) (by decide +kernel), List.mem_of_getElem? (i := 1226) (by decide +kernel), List.mem_of_getElem? (i := 1227) (by decide +kernel)⟩
theorem lw_p57 : lw_okq (⟨"CrossroadsCartsModel", "takesCost", "()Z"⟩, 61) := ⟨⟨by decide +kernel, by decide +kernel⟩, List.mem_of_getElem? (i := 945) (by decide +kernel), List.mem_of_getElem? (i := 1231) (by decide +kernel), List.mem_of_getElem? (i := 1232) (by decide +kernel)⟩
theorem lw_p58 : lw_okq (⟨"CrossroadsCartsModel", "takesShun", "()Z"⟩, 61) := ⟨⟨by decide +kernel, by decide +kernel⟩, List.mem_of_getElem? (i := 945) (by decide +kernel), List.mem_of_getElem? (i := 1239) (by decide +kernel), List.mem_of_getElem? (i := 1240) (by decide +kernel)⟩
theorem lw_p59 : lw_okq (⟨"CrossroadsCartsModel", "takesE", "()Z"⟩, 61) := ⟨⟨by decide +kernel, by decide +kernel⟩, List.mem_of_getElem? (i := 945) (by decide +kernel), List.mem_of_getElem? (i := 1244) (by decide +kernel), List.mem_of_getElem? (i := 1245) (by decide +kernel)⟩
theorem lw_p60 : lw_okq (⟨"CrossroadsCartsModel", "takesTest", "()Z"⟩, 61) := ⟨⟨by decide +kernel, by decide +kernel⟩, List.mem_of_getElem? (i := 945) (by decide +kernel), List.mem_of_getElem? (i := 1248) (by decide +kernel), List.mem_of_getElem? (i := 1249) (by decide +kernel)⟩
theorem lw_p61 : lw_okq (⟨"CrossroadsCartsModel", "push", "(Z)V"⟩, 61) := ⟨⟨by decide +kernel, by decide +kernel⟩, List.mem_of_getElem? (i := 945) (by decide +kernel), List.mem_of_getElem? (i := 1252) (by decide +kernel), List.mem_of_getElem? (i := 1253) (by decide +kernel)⟩
theorem lw_p62 : lw_okq (⟨"CrossroadsCartsModel", "settle", "(I)V"⟩, 61) := ⟨⟨by decide +kernel, by decide +kernel⟩, List.mem_of_getElem? (i := 945) (by decide +kernel), List.mem_of_getElem? (i := 1256) (by decide +kernel), List.mem_of_getElem? (i := 1257) (by decide +kernel)⟩
theorem lw_p63 : lw_okq (⟨"CrossroadsCartsModel", "abs", "(I)I"⟩, 61) := ⟨⟨by decide +kernel, by decide +kernel⟩, List.mem_of_getElem? (i := 945) (by decide +kernel), List.mem_of_getElem? (i := 1260) (by decide +kernel), List.mem_of_getElem? (i := 1261) (by decide +kernel)⟩
def lw_privs_4 : List (MethodName × Nat) := [(⟨"CrossroadsCartsModel", "goes", "(I)Z"⟩, 61), (⟨"CrossroadsCartsModel", "takesClause", "()Z"⟩, 61), (⟨"CrossroadsCartsModel", "next", "()I"⟩, 61), (⟨"CrossroadsCartsModel", "takesWord", "(II)Z"⟩, 61), (⟨"CrossroadsCartsModel", "takes", "(I)Z"⟩, 61), (⟨"CrossroadsCartsModel", "takesTwo", "(I)Z"⟩, 61), (⟨"CrossroadsCartsModel", "takesFigure", "(I)Z"⟩, 61), (⟨"CrossroadsCartsModel", "takesNumber", "()Z"⟩, 61), (⟨"CrossroadsCartsModel", "isDigit", "()Z"⟩, 61), (⟨"CrossroadsCartsModel", "takesCost", "()Z"⟩, 61), (⟨"CrossroadsCartsModel", "takesShun", "()Z"⟩, 61), (⟨"CrossroadsCartsModel", "takesE", "()Z"⟩, 61), (⟨"CrossroadsCartsModel", "takesTest", "()Z"⟩, 61), (⟨"CrossroadsCartsModel", "push", "(Z)V"⟩, 61), (⟨"CrossroadsCartsModel", "settle", "(I)V"⟩, 61), (⟨"CrossroadsCartsModel", "abs", "(I)I"⟩, 61)]
theorem lw_r4 : ∀ q ∈ lw_privs_4, lw_okq q := List.forall_mem_cons.mpr ⟨lw_p48, List.forall_mem_cons.mpr ⟨lw_p49, List.forall_mem_cons.mpr ⟨lw_p50, List.forall_mem_cons.mpr ⟨lw_p51, List.forall_mem_cons.mpr ⟨lw_p52, List.forall_mem_cons.mpr ⟨lw_p53, List.forall_mem_cons.mpr ⟨lw_p54, List.forall_mem_cons.mpr ⟨lw_p55, List.forall_mem_cons.mpr ⟨lw_p56, List.forall_mem_cons.mpr ⟨lw_p57, List.forall_mem_cons.mpr ⟨lw_p58, List.forall_mem_cons.mpr ⟨lw_p59, List.forall_mem_cons.mpr ⟨lw_p60, List.forall_mem_cons.mpr ⟨lw_p61, List.forall_mem_cons.mpr ⟨lw_p62, List.forall_mem_cons.mpr ⟨lw_p63, fun _ h => absurd h List.not_mem_nil⟩⟩⟩⟩⟩⟩⟩⟩⟩⟩⟩⟩⟩⟩⟩⟩
theorem lw_p64 : lw_okq (⟨"CrossroadsCartsModel", "choiceOf", "(II)I"⟩, 61) := ⟨⟨by decide +kernel, by decide +kernel⟩, List.mem_of_getElem? (i := 945) (by decide +kernel), List.mem_of_getElem? (i := 1284) (by decide +kernel), List.mem_of_getElem? (i := 1285) (by decide +kernel)⟩
theorem lw_p65 : lw_okq (⟨"CrossroadsCartsModel", "wants", "(III)I"⟩, 61) := ⟨⟨by decide +kernel, by decide +kernel⟩, List.mem_of_getElem? (i := 945) (by decide +kernel), List.mem_of_getElem? (i := 1288) (by decide +kernel), List.mem_of_getElem? (i := 1289) (by decide +kernel)⟩
theorem lw_p66 : lw_okq (⟨"CrossroadsCartsModel", "chooses", "(I)I"⟩, 61) := ⟨⟨by decide +kernel, by decide +kernel⟩, List.mem_of_getElem? (i := 945) (by decide +kernel), List.mem_of_getElem? (i := 1296) (by decide +kernel), List.mem_of_getElem? (i := 1297) (by decide +kernel)⟩
theorem lw_p67 : lw_okq (⟨"CrossroadsCartsModel", "isRest", "(I)Z"⟩, 61) := ⟨⟨by decide +kernel, by decide +kernel⟩, List.mem_of_getElem? (i := 945) (by decide +kernel), List.mem_of_getElem? (i := 1304) (by decide +kernel), List.mem_of_getElem? (i := 1305) (by decide +kernel)⟩
theorem lw_p68 : lw_okq (⟨"CrossroadsCartsModel", "breakOf", "(I)I"⟩, 61) := ⟨⟨by decide +kernel, by decide +kernel⟩, List.mem_of_getElem? (i := 945) (by decide +kernel), List.mem_of_getElem? (i := 1308) (by decide +kernel), List.mem_of_getElem? (i := 1309) (by decide +kernel)⟩
theorem lw_p69 : lw_okq (⟨"CrossroadsCartsModel", "stayBreak", "()I"⟩, 61) := ⟨⟨by decide +kernel, by decide +kernel⟩, List.mem_of_getElem? (i := 945) (by decide +kernel), List.mem_of_getElem? (i := 1312) (by decide +kernel), List.mem_of_getElem? (i := 1313) (by decide +kernel)⟩
theorem lw_p70 : lw_okq (⟨"CrossroadsCartsModel", "canGo", "(II)Z"⟩, 61) := ⟨⟨by decide +kernel, by decide +kernel⟩, List.mem_of_getElem? (i := 945) (by decide +kernel), List.mem_of_getElem? (i := 1316) (by decide +kernel), List.mem_of_getElem? (i := 1317) (by decide +kernel)⟩
theorem lw_p71 : lw_okq (⟨"CrossroadsCartsModel", "isHindered", "(II)Z"⟩, 61) := ⟨⟨by decide +kernel, by decide +kernel⟩, List.mem_of_getElem? (i := 945) (by decide +kernel), List.mem_of_getElem? (i := 1320) (by decide +kernel), List.mem_of_getElem? (i := 1321) (by decide +kernel)⟩
theorem lw_p72 : lw_okq (⟨"CrossroadsCartsModel", "rentBreak", "()I"⟩, 61) := ⟨⟨by decide +kernel, by decide +kernel⟩, List.mem_of_getElem? (i := 945) (by decide +kernel), List.mem_of_getElem? (i := 1324) (by decide +kernel), List.mem_of_getElem? (i := 1325) (by decide +kernel)⟩
theorem lw_p73 : lw_okq (⟨"CrossroadsCartsModel", "clubBreak", "()I"⟩, 61) := ⟨⟨by decide +kernel, by decide +kernel⟩, List.mem_of_getElem? (i := 945) (by decide +kernel), List.mem_of_getElem? (i := 1328) (by decide +kernel), List.mem_of_getElem? (i := 1329) (by decide +kernel)⟩
theorem lw_p74 : lw_okq (⟨"CrossroadsCartsModel", "ones", "(I)I"⟩, 61) := ⟨⟨by decide +kernel, by decide +kernel⟩, List.mem_of_getElem? (i := 945) (by decide +kernel), List.mem_of_getElem? (i := 1332) (by decide +kernel), List.mem_of_getElem? (i := 1333) (by decide +kernel)⟩
theorem lw_p75 : lw_okq (⟨"CrossroadsCartsModel", "isClub", "(II)Z"⟩, 61) := ⟨⟨by decide +kernel, by decide +kernel⟩, List.mem_of_getElem? (i := 945) (by decide +kernel), List.mem_of_getElem? (i := 1336) (by decide +kernel), List.mem_of_getElem? (i := 1337) (by decide +kernel)⟩
theorem lw_p76 : lw_okq (⟨"CrossroadsCartsModel", "voteBreak", "()I"⟩, 61) := ⟨⟨by decide +kernel, by decide +kernel⟩, List.mem_of_getElem? (i := 945) (by decide +kernel), List.mem_of_getElem? (i := 1340) (by decide +kernel), List.mem_of_getElem? (i := 1341) (by decide +kernel)⟩
theorem lw_p77 : lw_okq (⟨"CrossroadsCartsModel", "seerBreak", "()I"⟩, 61) := ⟨⟨by decide +kernel, by decide +kernel⟩, List.mem_of_getElem? (i := 945) (by decide +kernel), List.mem_of_getElem? (i := 1344) (by decide +kernel), List.mem_of_getElem? (i := 1345) (by decide +kernel)⟩
theorem lw_p78 : lw_okq (⟨"CrossroadsCartsModel", "stepOnce", "(Z)I"⟩, 61) := ⟨⟨by decide +kernel, by decide +kernel⟩, List.mem_of_getElem? (i := 945) (by decide +kernel), List.mem_of_getElem? (i := 1360) (by decide +kernel), List.mem_of_getElem? (i := 1361) (by decide +kernel)⟩
theorem lw_p79 : lw_okq (⟨"CrossroadsCartsModel", "endAll", "(Z)I"⟩, 61) := ⟨⟨by decide +kernel, by decide +kernel⟩, List.mem_of_getElem? (i := 945) (by decide +kernel), List.mem_of_getElem? (i := 1368) (by decide +kernel), List.mem_of_getElem? (i := 1369) (by decide +kernel)⟩
def lw_privs_5 : List (MethodName × Nat) := [(⟨"CrossroadsCartsModel", "choiceOf", "(II)I"⟩, 61), (⟨"CrossroadsCartsModel", "wants", "(III)I"⟩, 61), (⟨"CrossroadsCartsModel", "chooses", "(I)I"⟩, 61), (⟨"CrossroadsCartsModel", "isRest", "(I)Z"⟩, 61), (⟨"CrossroadsCartsModel", "breakOf", "(I)I"⟩, 61), (⟨"CrossroadsCartsModel", "stayBreak", "()I"⟩, 61), (⟨"CrossroadsCartsModel", "canGo", "(II)Z"⟩, 61), (⟨"CrossroadsCartsModel", "isHindered", "(II)Z"⟩, 61), (⟨"CrossroadsCartsModel", "rentBreak", "()I"⟩, 61), (⟨"CrossroadsCartsModel", "clubBreak", "()I"⟩, 61), (⟨"CrossroadsCartsModel", "ones", "(I)I"⟩, 61), (⟨"CrossroadsCartsModel", "isClub", "(II)Z"⟩, 61), (⟨"CrossroadsCartsModel", "voteBreak", "()I"⟩, 61), (⟨"CrossroadsCartsModel", "seerBreak", "()I"⟩, 61), (⟨"CrossroadsCartsModel", "stepOnce", "(Z)I"⟩, 61), (⟨"CrossroadsCartsModel", "endAll", "(Z)I"⟩, 61)]
theorem lw_r5 : ∀ q ∈ lw_privs_5, lw_okq q := List.forall_mem_cons.mpr ⟨lw_p64, List.forall_mem_cons.mpr ⟨lw_p65, List.forall_mem_cons.mpr ⟨lw_p66, List.forall_mem_cons.mpr ⟨lw_p67, List.forall_mem_cons.mpr ⟨lw_p68, List.forall_mem_cons.mpr ⟨lw_p69, List.forall_mem_cons.mpr ⟨lw_p70, List.forall_mem_cons.mpr ⟨lw_p71, List.forall_mem_cons.mpr ⟨lw_p72, List.forall_mem_cons.mpr ⟨lw_p73, List.forall_mem_cons.mpr ⟨lw_p74, List.forall_mem_cons.mpr ⟨lw_p75, List.forall_mem_cons.mpr ⟨lw_p76, List.forall_mem_cons.mpr ⟨lw_p77, List.forall_mem_cons.mpr ⟨lw_p78, List.forall_mem_cons.mpr ⟨lw_p79, fun _ h => absurd h List.not_mem_nil⟩⟩⟩⟩⟩⟩⟩⟩⟩⟩⟩⟩⟩⟩⟩⟩
theorem lw_p80 : lw_okq (⟨"CrossroadsCartsModel", "keepState", "(I)V"⟩, 61) := ⟨⟨by decide +kernel, by decide +kernel⟩, List.mem_of_getElem? (i := 945) (by decide +kernel), List.mem_of_getElem? (i := 1372) (by decide +kernel), List.mem_of_getElem? (i := 1373) (by decide +kernel)⟩
theorem lw_p81 : lw_okq (⟨"CrossroadsCartsModel", "isState", "(I)Z"⟩, 61) := ⟨⟨by decide +kernel, by decide +kernel⟩, List.mem_of_getElem? (i := 945) (by decide +kernel), List.mem_of_getElem? (i := 1376) (by decide +kernel), List.mem_of_getElem? (i := 1377) (by decide +kernel)⟩
theorem lw_p82 : lw_okq (⟨"CrossroadsCartsModel", "isTape", "(I)Z"⟩, 61) := ⟨⟨by decide +kernel, by decide +kernel⟩, List.mem_of_getElem? (i := 945) (by decide +kernel), List.mem_of_getElem? (i := 1384) (by decide +kernel), List.mem_of_getElem? (i := 1385) (by decide +kernel)⟩
theorem lw_p83 : lw_okq (⟨"CrossroadsCartsModel", "keep", "()V"⟩, 61) := ⟨⟨by decide +kernel, by decide +kernel⟩, List.mem_of_getElem? (i := 945) (by decide +kernel), List.mem_of_getElem? (i := 1388) (by decide +kernel), List.mem_of_getElem? (i := 1389) (by decide +kernel)⟩
theorem lw_p84 : lw_okq (⟨"CrossroadsCartsModel", "isRoom", "()Z"⟩, 61) := ⟨⟨by decide +kernel, by decide +kernel⟩, List.mem_of_getElem? (i := 945) (by decide +kernel), List.mem_of_getElem? (i := 1392) (by decide +kernel), List.mem_of_getElem? (i := 1393) (by decide +kernel)⟩
theorem lw_p85 : lw_okq (⟨"CrossroadsCartsModel", "putBack", "()V"⟩, 61) := ⟨⟨by decide +kernel, by decide +kernel⟩, List.mem_of_getElem? (i := 945) (by decide +kernel), List.mem_of_getElem? (i := 1396) (by decide +kernel), List.mem_of_getElem? (i := 1397) (by decide +kernel)⟩
theorem lw_p86 : lw_okq (⟨"CrossroadsCartsModel", "rowsOf", "()I"⟩, 61) := ⟨⟨by decide +kernel, by decide +kernel⟩, List.mem_of_getElem? (i := 945) (by decide +kernel), List.mem_of_getElem? (i := 1404) (by decide +kernel), List.mem_of_getElem? (i := 1405) (by decide +kernel)⟩
theorem lw_p87 : lw_okq (⟨"CrossroadsCartsModel", "layOut", "(I)V"⟩, 61) := ⟨⟨by decide +kernel, by decide +kernel⟩, List.mem_of_getElem? (i := 945) (by decide +kernel), List.mem_of_getElem? (i := 1408) (by decide +kernel), List.mem_of_getElem? (i := 1409) (by decide +kernel)⟩
theorem lw_p88 : lw_okq (⟨"CrossroadsCartsModel", "isWanted", "(I)Z"⟩, 61) := ⟨⟨by decide +kernel, by decide +kernel⟩, List.mem_of_getElem? (i := 945) (by decide +kernel), List.mem_of_getElem? (i := 1420) (by decide +kernel), List.mem_of_getElem? (i := 1421) (by decide +kernel)⟩
theorem lw_p89 : lw_okq (⟨"CrossroadsCartsModel", "pairs", "()I"⟩, 61) := ⟨⟨by decide +kernel, by decide +kernel⟩, List.mem_of_getElem? (i := 945) (by decide +kernel), List.mem_of_getElem? (i := 1428) (by decide +kernel), List.mem_of_getElem? (i := 1429) (by decide +kernel)⟩
theorem lw_p90 : lw_okq (⟨"CrossroadsCartsModel", "deal", "(I)V"⟩, 61) := ⟨⟨by decide +kernel, by decide +kernel⟩, List.mem_of_getElem? (i := 945) (by decide +kernel), List.mem_of_getElem? (i := 1432) (by decide +kernel), List.mem_of_getElem? (i := 1433) (by decide +kernel)⟩
theorem lw_p91 : lw_okq (⟨"CrossroadsCartsModel", "isSet", "(I)Z"⟩, 61) := ⟨⟨by decide +kernel, by decide +kernel⟩, List.mem_of_getElem? (i := 945) (by decide +kernel), List.mem_of_getElem? (i := 1448) (by decide +kernel), List.mem_of_getElem? (i := 1449) (by decide +kernel)⟩
theorem lw_p92 : lw_okq (⟨"CrossroadsCartsModel", "priceOf", "(I)I"⟩, 61) := ⟨⟨by decide +kernel, by decide +kernel⟩, List.mem_of_getElem? (i := 945) (by decide +kernel), List.mem_of_getElem? (i := 1452) (by decide +kernel), List.mem_of_getElem? (i := 1453) (by decide +kernel)⟩
theorem lw_p93 : lw_okq (⟨"CrossroadsCartsModel", "leastBehind", "(IZ)J"⟩, 61) := ⟨⟨by decide +kernel, by decide +kernel⟩, List.mem_of_getElem? (i := 945) (by decide +kernel), List.mem_of_getElem? (i := 1456) (by decide +kernel), List.mem_of_getElem? (i := 1457) (by decide +kernel)⟩
theorem lw_p94 : lw_okq (⟨"CrossroadsCartsModel", "twinSort", "(I)I"⟩, 61) := ⟨⟨by decide +kernel, by decide +kernel⟩, List.mem_of_getElem? (i := 945) (by decide +kernel), List.mem_of_getElem? (i := 1469) (by decide +kernel), List.mem_of_getElem? (i := 1470) (by decide +kernel)⟩
theorem lw_p95 : lw_okq (⟨"CrossroadsCartsModel", "holds", "(II)I"⟩, 61) := ⟨⟨by decide +kernel, by decide +kernel⟩, List.mem_of_getElem? (i := 945) (by decide +kernel), List.mem_of_getElem? (i := 1477) (by decide +kernel), List.mem_of_getElem? (i := 1478) (by decide +kernel)⟩
def lw_privs_6 : List (MethodName × Nat) := [(⟨"CrossroadsCartsModel", "keepState", "(I)V"⟩, 61), (⟨"CrossroadsCartsModel", "isState", "(I)Z"⟩, 61), (⟨"CrossroadsCartsModel", "isTape", "(I)Z"⟩, 61), (⟨"CrossroadsCartsModel", "keep", "()V"⟩, 61), (⟨"CrossroadsCartsModel", "isRoom", "()Z"⟩, 61), (⟨"CrossroadsCartsModel", "putBack", "()V"⟩, 61), (⟨"CrossroadsCartsModel", "rowsOf", "()I"⟩, 61), (⟨"CrossroadsCartsModel", "layOut", "(I)V"⟩, 61), (⟨"CrossroadsCartsModel", "isWanted", "(I)Z"⟩, 61), (⟨"CrossroadsCartsModel", "pairs", "()I"⟩, 61), (⟨"CrossroadsCartsModel", "deal", "(I)V"⟩, 61), (⟨"CrossroadsCartsModel", "isSet", "(I)Z"⟩, 61), (⟨"CrossroadsCartsModel", "priceOf", "(I)I"⟩, 61), (⟨"CrossroadsCartsModel", "leastBehind", "(IZ)J"⟩, 61), (⟨"CrossroadsCartsModel", "twinSort", "(I)I"⟩, 61), (⟨"CrossroadsCartsModel", "holds", "(II)I"⟩, 61)]
theorem lw_r6 : ∀ q ∈ lw_privs_6, lw_okq q := List.forall_mem_cons.mpr ⟨lw_p80, List.forall_mem_cons.mpr ⟨lw_p81, List.forall_mem_cons.mpr ⟨lw_p82, List.forall_mem_cons.mpr ⟨lw_p83, List.forall_mem_cons.mpr ⟨lw_p84, List.forall_mem_cons.mpr ⟨lw_p85, List.forall_mem_cons.mpr ⟨lw_p86, List.forall_mem_cons.mpr ⟨lw_p87, List.forall_mem_cons.mpr ⟨lw_p88, List.forall_mem_cons.mpr ⟨lw_p89, List.forall_mem_cons.mpr ⟨lw_p90, List.forall_mem_cons.mpr ⟨lw_p91, List.forall_mem_cons.mpr ⟨lw_p92, List.forall_mem_cons.mpr ⟨lw_p93, List.forall_mem_cons.mpr ⟨lw_p94, List.forall_mem_cons.mpr ⟨lw_p95, fun _ h => absurd h List.not_mem_nil⟩⟩⟩⟩⟩⟩⟩⟩⟩⟩⟩⟩⟩⟩⟩⟩
theorem lw_p96 : lw_okq (⟨"CrossroadsCartsModel", "votedHolds", "(I)I"⟩, 61) := ⟨⟨by decide +kernel, by decide +kernel⟩, List.mem_of_getElem? (i := 945) (by decide +kernel), List.mem_of_getElem? (i := 1481) (by decide +kernel), List.mem_of_getElem? (i := 1482) (by decide +kernel)⟩
theorem lw_p97 : lw_okq (⟨"CrossroadsCartsModel", "body", "(I)V"⟩, 61) := ⟨⟨by decide +kernel, by decide +kernel⟩, List.mem_of_getElem? (i := 945) (by decide +kernel), List.mem_of_getElem? (i := 1485) (by decide +kernel), List.mem_of_getElem? (i := 1486) (by decide +kernel)⟩
theorem lw_p98 : lw_okq (⟨"CrossroadsCartsModel", "plainHolds", "(I)I"⟩, 61) := ⟨⟨by decide +kernel, by decide +kernel⟩, List.mem_of_getElem? (i := 945) (by decide +kernel), List.mem_of_getElem? (i := 1489) (by decide +kernel), List.mem_of_getElem? (i := 1490) (by decide +kernel)⟩
theorem lw_p99 : lw_okq (⟨"CrossroadsCartsModel", "breaks", "(II)I"⟩, 61) := ⟨⟨by decide +kernel, by decide +kernel⟩, List.mem_of_getElem? (i := 945) (by decide +kernel), List.mem_of_getElem? (i := 1493) (by decide +kernel), List.mem_of_getElem? (i := 1494) (by decide +kernel)⟩
theorem lw_p100 : lw_okq (⟨"CrossroadsCartsModel", "plainBreaks", "(II)I"⟩, 61) := ⟨⟨by decide +kernel, by decide +kernel⟩, List.mem_of_getElem? (i := 945) (by decide +kernel), List.mem_of_getElem? (i := 1497) (by decide +kernel), List.mem_of_getElem? (i := 1498) (by decide +kernel)⟩
theorem lw_p101 : lw_okq (⟨"CrossroadsCartsModel", "stayBreaks", "(II)I"⟩, 61) := ⟨⟨by decide +kernel, by decide +kernel⟩, List.mem_of_getElem? (i := 945) (by decide +kernel), List.mem_of_getElem? (i := 1501) (by decide +kernel), List.mem_of_getElem? (i := 1502) (by decide +kernel)⟩
theorem lw_p102 : lw_okq (⟨"CrossroadsCartsModel", "tells", "(II)I"⟩, 61) := ⟨⟨by decide +kernel, by decide +kernel⟩, List.mem_of_getElem? (i := 945) (by decide +kernel), List.mem_of_getElem? (i := 1505) (by decide +kernel), List.mem_of_getElem? (i := 1506) (by decide +kernel)⟩
theorem lw_p103 : lw_okq (⟨"CrossroadsCartsModel", "votedTells", "(II)I"⟩, 61) := ⟨⟨by decide +kernel, by decide +kernel⟩, List.mem_of_getElem? (i := 945) (by decide +kernel), List.mem_of_getElem? (i := 1509) (by decide +kernel), List.mem_of_getElem? (i := 1510) (by decide +kernel)⟩
theorem lw_p104 : lw_okq (⟨"CrossroadsCartsModel", "plainTells", "(II)I"⟩, 61) := ⟨⟨by decide +kernel, by decide +kernel⟩, List.mem_of_getElem? (i := 945) (by decide +kernel), List.mem_of_getElem? (i := 1513) (by decide +kernel), List.mem_of_getElem? (i := 1514) (by decide +kernel)⟩
theorem lw_p105 : lw_okq (⟨"CrossroadsCartsModel", "narrow", "(IJ)J"⟩, 61) := ⟨⟨by decide +kernel, by decide +kernel⟩, List.mem_of_getElem? (i := 945) (by decide +kernel), List.mem_of_getElem? (i := 1537) (by decide +kernel), List.mem_of_getElem? (i := 1538) (by decide +kernel)⟩
def lw_privs_7 : List (MethodName × Nat) := [(⟨"CrossroadsCartsModel", "votedHolds", "(I)I"⟩, 61), (⟨"CrossroadsCartsModel", "body", "(I)V"⟩, 61), (⟨"CrossroadsCartsModel", "plainHolds", "(I)I"⟩, 61), (⟨"CrossroadsCartsModel", "breaks", "(II)I"⟩, 61), (⟨"CrossroadsCartsModel", "plainBreaks", "(II)I"⟩, 61), (⟨"CrossroadsCartsModel", "stayBreaks", "(II)I"⟩, 61), (⟨"CrossroadsCartsModel", "tells", "(II)I"⟩, 61), (⟨"CrossroadsCartsModel", "votedTells", "(II)I"⟩, 61), (⟨"CrossroadsCartsModel", "plainTells", "(II)I"⟩, 61), (⟨"CrossroadsCartsModel", "narrow", "(IJ)J"⟩, 61)]
theorem lw_r7 : ∀ q ∈ lw_privs_7, lw_okq q := List.forall_mem_cons.mpr ⟨lw_p96, List.forall_mem_cons.mpr ⟨lw_p97, List.forall_mem_cons.mpr ⟨lw_p98, List.forall_mem_cons.mpr ⟨lw_p99, List.forall_mem_cons.mpr ⟨lw_p100, List.forall_mem_cons.mpr ⟨lw_p101, List.forall_mem_cons.mpr ⟨lw_p102, List.forall_mem_cons.mpr ⟨lw_p103, List.forall_mem_cons.mpr ⟨lw_p104, List.forall_mem_cons.mpr ⟨lw_p105, fun _ h => absurd h List.not_mem_nil⟩⟩⟩⟩⟩⟩⟩⟩⟩⟩
def lw_privs : List (MethodName × Nat) := lw_privs_1 ++ (lw_privs_2 ++ (lw_privs_3 ++ (lw_privs_4 ++ (lw_privs_5 ++ (lw_privs_6 ++ (lw_privs_7))))))
def lw_tbl : List Cond := k2_sels lw_privs ++ tables_1
theorem lw_privs_ok : ∀ q ∈ lw_privs, lw_okq q := by
  show ∀ q ∈ lw_privs_1 ++ (lw_privs_2 ++ (lw_privs_3 ++ (lw_privs_4 ++ (lw_privs_5 ++ (lw_privs_6 ++ (lw_privs_7)))))), lw_okq q
  exact List.forall_mem_append.mpr ⟨lw_r1, List.forall_mem_append.mpr ⟨lw_r2, List.forall_mem_append.mpr ⟨lw_r3, List.forall_mem_append.mpr ⟨lw_r4, List.forall_mem_append.mpr ⟨lw_r5, List.forall_mem_append.mpr ⟨lw_r6, lw_r7⟩⟩⟩⟩⟩⟩
def RX0 : String := "CrossroadsCarts$Acts"
def TX0 : u_T := fun k => match k with
  | 0 => ("CrossroadsCarts$Acts", "kept", "[I", true)
  | 1 => ("CrossroadsCarts$Acts", "ran", "I", false)
  | 2 => ("CrossroadsCarts$Acts", "kind", "I", false)
  | 3 => ("CrossroadsCarts$Acts", "families", "I", false)
  | _ => ("CrossroadsCarts$Acts", "towns", "I", false)
def tyX0 : Nat → FieldType := fun k => match k with
  | 0 => .array .int
  | 1 => .int
  | 2 => .int
  | 3 => .int
  | _ => .int
abbrev wsX00 : List Cond := u_ws RX0 TX0 5
theorem nmX0 : ∀ a, a < 5 → ∀ b, b < 5 → a ≠ b → (TX0 a).2.1 ≠ (TX0 b).2.1 := by decide +kernel
theorem tyX0_ok : ∀ k, k < 5 → parseFieldDescriptor (TX0 k).2.2.1 = some (tyX0 k) := by decide +kernel
abbrev cX0_init : ByteArray := prog_2_method_1_code
def yX0_init : MethodName := ⟨RX0, "<init>", "()V"⟩
abbrev cX0_forget : ByteArray := prog_2_method_2_code
def yX0_forget : MethodName := ⟨RX0, "forget", "(II)V"⟩
abbrev cX0_done : ByteArray := prog_2_method_3_code
def yX0_done : MethodName := ⟨RX0, "done", "(III)I"⟩
abbrev cX0_own : ByteArray := prog_2_method_4_code
def yX0_own : MethodName := ⟨RX0, "own", "(III)I"⟩
abbrev cX0_above : ByteArray := prog_2_method_5_code
def yX0_above : MethodName := ⟨RX0, "above", "(IIII)I"⟩
abbrev cX0_from : ByteArray := prog_2_method_6_code
def yX0_from : MethodName := ⟨RX0, "from", "(IIII)I"⟩
abbrev cX0_run : ByteArray := prog_2_method_7_code
def yX0_run : MethodName := ⟨RX0, "run", "(III)I"⟩
def RX1 : String := "CrossroadsCarts$Country"
def TX1 : u_T := fun k => match k with
  | 0 => ("CrossroadsCarts$Country", "land", "LCrossroadsCarts$Land;", false)
  | 1 => ("CrossroadsCarts$Country", "towns", "I", false)
  | 2 => ("CrossroadsCarts$Country", "families", "I", false)
  | 3 => ("CrossroadsCarts$Country", "houses", "[I", true)
  | 4 => ("CrossroadsCarts$Country", "levels", "[I", true)
  | 5 => ("CrossroadsCarts$Country", "rents", "[I", true)
  | 6 => ("CrossroadsCarts$Country", "gates", "[I", true)
  | 7 => ("CrossroadsCarts$Country", "sums", "[I", true)
  | 8 => ("CrossroadsCarts$Country", "sorts", "[I", true)
  | 9 => ("CrossroadsCarts$Country", "incomes", "[I", true)
  | 10 => ("CrossroadsCarts$Country", "at", "[I", true)
  | 11 => ("CrossroadsCarts$Country", "homes", "[I", true)
  | _ => ("CrossroadsCarts$Country", "wants", "[I", true)
def tyX1 : Nat → FieldType := fun k => match k with
  | 0 => .object "CrossroadsCarts$Land"
  | 1 => .int
  | 2 => .int
  | 3 => .array .int
  | 4 => .array .int
  | 5 => .array .int
  | 6 => .array .int
  | 7 => .array .int
  | 8 => .array .int
  | 9 => .array .int
  | 10 => .array .int
  | 11 => .array .int
  | _ => .array .int
abbrev wsX10 : List Cond := u_ws RX1 TX1 13
theorem nmX1 : ∀ a, a < 13 → ∀ b, b < 13 → a ≠ b → (TX1 a).2.1 ≠ (TX1 b).2.1 := by decide +kernel
theorem tyX1_ok : ∀ k, k < 13 → parseFieldDescriptor (TX1 k).2.2.1 = some (tyX1 k) := by decide +kernel
abbrev cX1_init : ByteArray := prog_3_method_1_code
def yX1_init : MethodName := ⟨RX1, "<init>", "(LCrossroadsCarts$Land;)V"⟩
abbrev cX1_become : ByteArray := prog_3_method_2_code
def yX1_become : MethodName := ⟨RX1, "become", "(LCrossroadsCarts$Country;)V"⟩
abbrev cX1_join : ByteArray := prog_3_method_3_code
def yX1_join : MethodName := ⟨RX1, "join", "(III)I"⟩
abbrev cX1_crowd : ByteArray := prog_3_method_4_code
def yX1_crowd : MethodName := ⟨RX1, "crowd", "(I)I"⟩
abbrev cX1_hasRoom : ByteArray := prog_3_method_5_code
def yX1_hasRoom : MethodName := ⟨RX1, "hasRoom", "(I)Z"⟩
abbrev cX1_canGo : ByteArray := prog_3_method_6_code
def yX1_canGo : MethodName := ⟨RX1, "canGo", "(II)Z"⟩
abbrev cX1_fits : ByteArray := prog_3_method_7_code
def yX1_fits : MethodName := ⟨RX1, "fits", "()Z"⟩
abbrev cX1_costOf : ByteArray := prog_3_method_8_code
def yX1_costOf : MethodName := ⟨RX1, "costOf", "(I)I"⟩
abbrev cX1_isAsIfIn : ByteArray := prog_3_method_9_code
def yX1_isAsIfIn : MethodName := ⟨RX1, "isAsIfIn", "(III)Z"⟩
abbrev cX1_greatestIncome : ByteArray := prog_3_method_10_code
def yX1_greatestIncome : MethodName := ⟨RX1, "greatestIncome", "(II)I"⟩
abbrev cX1_share : ByteArray := prog_3_method_11_code
def yX1_share : MethodName := ⟨RX1, "share", "(II)I"⟩
abbrev cX1_sharesTogether : ByteArray := prog_3_method_12_code
def yX1_sharesTogether : MethodName := ⟨RX1, "sharesTogether", "(III)I"⟩
abbrev cX1_cutPart : ByteArray := prog_3_method_13_code
def yX1_cutPart : MethodName := ⟨RX1, "cutPart", "(III)I"⟩
abbrev cX1_duesOf : ByteArray := prog_3_method_14_code
def yX1_duesOf : MethodName := ⟨RX1, "duesOf", "(II)I"⟩
abbrev cX1_worthOf : ByteArray := prog_3_method_15_code
def yX1_worthOf : MethodName := ⟨RX1, "worthOf", "(II)I"⟩
abbrev cX1_worthOfAll : ByteArray := prog_3_method_16_code
def yX1_worthOfAll : MethodName := ⟨RX1, "worthOfAll", "()J"⟩
abbrev cX1_leastWorth : ByteArray := prog_3_method_17_code
def yX1_leastWorth : MethodName := ⟨RX1, "leastWorth", "()I"⟩
abbrev cX1_betterTown : ByteArray := prog_3_method_18_code
def yX1_betterTown : MethodName := ⟨RX1, "betterTown", "(I)I"⟩
abbrev cX1_chosenLevel : ByteArray := prog_3_method_19_code
def yX1_chosenLevel : MethodName := ⟨RX1, "chosenLevel", "(II)I"⟩
abbrev cX1_hasOldOnes : ByteArray := prog_3_method_20_code
def yX1_hasOldOnes : MethodName := ⟨RX1, "hasOldOnes", "(I)Z"⟩
abbrev cX1_wantedLevel : ByteArray := prog_3_method_21_code
def yX1_wantedLevel : MethodName := ⟨RX1, "wantedLevel", "(III)I"⟩
abbrev cX1_commonestWant : ByteArray := prog_3_method_22_code
def yX1_commonestWant : MethodName := ⟨RX1, "commonestWant", "()I"⟩
abbrev cX1_middleWant : ByteArray := prog_3_method_23_code
def yX1_middleWant : MethodName := ⟨RX1, "middleWant", "(I)I"⟩
abbrev cX1_vote : ByteArray := prog_3_method_24_code
def yX1_vote : MethodName := ⟨RX1, "vote", "(I)I"⟩
abbrev cX1_hasTooManyWays : ByteArray := prog_3_method_25_code
def yX1_hasTooManyWays : MethodName := ⟨RX1, "hasTooManyWays", "()Z"⟩
abbrev cX1_ways : ByteArray := prog_3_method_26_code
def yX1_ways : MethodName := ⟨RX1, "ways", "()I"⟩
abbrev cX1_settle : ByteArray := prog_3_method_27_code
def yX1_settle : MethodName := ⟨RX1, "settle", "(I)Z"⟩
abbrev cX1_soughtTown : ByteArray := prog_3_method_28_code
def yX1_soughtTown : MethodName := ⟨RX1, "soughtTown", "()I"⟩
abbrev cX1_pairs : ByteArray := prog_3_method_29_code
def yX1_pairs : MethodName := ⟨RX1, "pairs", "()I"⟩
abbrev cX1_doubledSort : ByteArray := prog_3_method_30_code
def yX1_doubledSort : MethodName := ⟨RX1, "doubledSort", "(I)I"⟩
abbrev cX1_othersDiffer : ByteArray := prog_3_method_31_code
def yX1_othersDiffer : MethodName := ⟨RX1, "othersDiffer", "(LCrossroadsCarts$Country;I)Z"⟩
abbrev cX1_imprint : ByteArray := prog_3_method_32_code
def yX1_imprint : MethodName := ⟨RX1, "imprint", "()J"⟩
def RX2 : String := "CrossroadsCarts$Deals"
def TX2 : u_T := fun k => match k with
  | 0 => ("CrossroadsCarts$Deals", "left", "[I", true)
  | _ => ("CrossroadsCarts$Deals", "dealt", "[I", true)
def tyX2 : Nat → FieldType := fun k => match k with
  | 0 => .array .int
  | _ => .array .int
abbrev wsX20 : List Cond := u_ws RX2 TX2 2
theorem nmX2 : ∀ a, a < 2 → ∀ b, b < 2 → a ≠ b → (TX2 a).2.1 ≠ (TX2 b).2.1 := by decide +kernel
theorem tyX2_ok : ∀ k, k < 2 → parseFieldDescriptor (TX2 k).2.2.1 = some (tyX2 k) := by decide +kernel
abbrev cX2_init : ByteArray := prog_4_method_1_code
def yX2_init : MethodName := ⟨RX2, "<init>", "()V"⟩
abbrev cX2_ofAll : ByteArray := prog_4_method_2_code
def yX2_ofAll : MethodName := ⟨RX2, "ofAll", "(LCrossroadsCarts$Country;)I"⟩
abbrev cX2_asSorted : ByteArray := prog_4_method_3_code
def yX2_asSorted : MethodName := ⟨RX2, "asSorted", "(LCrossroadsCarts$Country;)I"⟩
abbrev cX2_ways : ByteArray := prog_4_method_4_code
def yX2_ways : MethodName := ⟨RX2, "ways", "(LCrossroadsCarts$Country;II)I"⟩
def RX3 : String := "CrossroadsCarts$Land"
def TX3 : u_T := fun k => match k with
  | 0 => ("CrossroadsCarts$Land", "likes", "[I", true)
  | 1 => ("CrossroadsCarts$Land", "nears", "[I", true)
  | 2 => ("CrossroadsCarts$Land", "costs", "[I", true)
  | 3 => ("CrossroadsCarts$Land", "mile", "I", false)
  | 4 => ("CrossroadsCarts$Land", "dues", "I", false)
  | 5 => ("CrossroadsCarts$Land", "pick", "I", false)
  | 6 => ("CrossroadsCarts$Land", "program", "[I", true)
  | _ => ("CrossroadsCarts$Land", "programLength", "I", false)
def tyX3 : Nat → FieldType := fun k => match k with
  | 0 => .array .int
  | 1 => .array .int
  | 2 => .array .int
  | 3 => .int
  | 4 => .int
  | 5 => .int
  | 6 => .array .int
  | _ => .int
abbrev wsX30 : List Cond := u_ws RX3 TX3 8
theorem nmX3 : ∀ a, a < 8 → ∀ b, b < 8 → a ≠ b → (TX3 a).2.1 ≠ (TX3 b).2.1 := by decide +kernel
theorem tyX3_ok : ∀ k, k < 8 → parseFieldDescriptor (TX3 k).2.2.1 = some (tyX3 k) := by decide +kernel
abbrev cX3_init : ByteArray := prog_5_method_1_code
def yX3_init : MethodName := ⟨RX3, "<init>", "()V"⟩
abbrev cX3_forget : ByteArray := prog_5_method_2_code
def yX3_forget : MethodName := ⟨RX3, "forget", "()V"⟩
abbrev cX3_emit : ByteArray := prog_5_method_3_code
def yX3_emit : MethodName := ⟨RX3, "emit", "(II)V"⟩
abbrev cX3_shunned : ByteArray := prog_5_method_4_code
def yX3_shunned : MethodName := ⟨RX3, "shunned", "(IIII)I"⟩
abbrev cX3_holds : ByteArray := prog_5_method_5_code
def yX3_holds : MethodName := ⟨RX3, "holds", "(III)Z"⟩
def RX4 : String := "CrossroadsCarts$Law"
def TX4 : u_T := fun k => match k with
  | 0 => ("CrossroadsCarts$Law", "what", "I", true)
  | 1 => ("CrossroadsCarts$Law", "town", "I", true)
  | 2 => ("CrossroadsCarts$Law", "n", "I", true)
  | _ => ("CrossroadsCarts$Law", "price", "I", true)
def tyX4 : Nat → FieldType := fun k => match k with
  | 0 => .int
  | 1 => .int
  | 2 => .int
  | _ => .int
abbrev wsX40 : List Cond := u_ws RX4 TX4 4
theorem nmX4 : ∀ a, a < 4 → ∀ b, b < 4 → a ≠ b → (TX4 a).2.1 ≠ (TX4 b).2.1 := by decide +kernel
theorem tyX4_ok : ∀ k, k < 4 → parseFieldDescriptor (TX4 k).2.2.1 = some (tyX4 k) := by decide +kernel
abbrev cX4_init : ByteArray := prog_6_method_1_code
def yX4_init : MethodName := ⟨RX4, "<init>", "(IIII)V"⟩
abbrev cX4_clashes : ByteArray := prog_6_method_2_code
def yX4_clashes : MethodName := ⟨RX4, "clashes", "(LCrossroadsCarts$Law;)Z"⟩
abbrev cX4_rule : ByteArray := prog_6_method_3_code
def yX4_rule : MethodName := ⟨RX4, "rule", "(LCrossroadsCarts$Country;)V"⟩
def RX5 : String := "CrossroadsCarts$Reader"
def TX5 : u_T := fun k => match k with
  | 0 => ("CrossroadsCarts$Reader", "text", "[C", true)
  | 1 => ("CrossroadsCarts$Reader", "length", "I", false)
  | _ => ("CrossroadsCarts$Reader", "place", "I", false)
def tyX5 : Nat → FieldType := fun k => match k with
  | 0 => .array .char
  | 1 => .int
  | _ => .int
abbrev wsX50 : List Cond := u_ws RX5 TX5 3
theorem nmX5 : ∀ a, a < 3 → ∀ b, b < 3 → a ≠ b → (TX5 a).2.1 ≠ (TX5 b).2.1 := by decide +kernel
theorem tyX5_ok : ∀ k, k < 3 → parseFieldDescriptor (TX5 k).2.2.1 = some (tyX5 k) := by decide +kernel
abbrev cX5_init : ByteArray := prog_7_method_1_code
def yX5_init : MethodName := ⟨RX5, "<init>", "()V"⟩
abbrev cX5_append : ByteArray := prog_7_method_2_code
def yX5_append : MethodName := ⟨RX5, "append", "(C)V"⟩
abbrev cX5_faultIn : ByteArray := prog_7_method_3_code
def yX5_faultIn : MethodName := ⟨RX5, "faultIn", "(LCrossroadsCarts$Land;)I"⟩
abbrev cX5_clause : ByteArray := prog_7_method_4_code
def yX5_clause : MethodName := ⟨RX5, "clause", "(LCrossroadsCarts$Land;)Z"⟩
abbrev cX5_word : ByteArray := prog_7_method_5_code
def yX5_word : MethodName := ⟨RX5, "word", "()I"⟩
abbrev cX5_pair : ByteArray := prog_7_method_6_code
def yX5_pair : MethodName := ⟨RX5, "pair", "([II)Z"⟩
abbrev cX5_single : ByteArray := prog_7_method_7_code
def yX5_single : MethodName := ⟨RX5, "single", "([I)Z"⟩
abbrev cX5_weight : ByteArray := prog_7_method_8_code
def yX5_weight : MethodName := ⟨RX5, "weight", "(LCrossroadsCarts$Land;)Z"⟩
abbrev cX5_either : ByteArray := prog_7_method_9_code
def yX5_either : MethodName := ⟨RX5, "either", "(LCrossroadsCarts$Land;I)Z"⟩
abbrev cX5_factor : ByteArray := prog_7_method_10_code
def yX5_factor : MethodName := ⟨RX5, "factor", "(LCrossroadsCarts$Land;I)Z"⟩
abbrev cX5_test : ByteArray := prog_7_method_11_code
def yX5_test : MethodName := ⟨RX5, "test", "(LCrossroadsCarts$Land;)Z"⟩
abbrev cX5_met : ByteArray := prog_7_method_12_code
def yX5_met : MethodName := ⟨RX5, "met", "(C)Z"⟩
abbrev cX5_letter : ByteArray := prog_7_method_13_code
def yX5_letter : MethodName := ⟨RX5, "letter", "(Ljava/lang/String;)I"⟩
abbrev cX5_figure : ByteArray := prog_7_method_14_code
def yX5_figure : MethodName := ⟨RX5, "figure", "(I)I"⟩
abbrev cX5_number : ByteArray := prog_7_method_15_code
def yX5_number : MethodName := ⟨RX5, "number", "()I"⟩
def RX6 : String := "CrossroadsCarts$Rests"
def TX6 : u_T := fun k => match k with
  | 0 => ("CrossroadsCarts$Rests", "keptLevels", "[I", true)
  | 1 => ("CrossroadsCarts$Rests", "keptTowns", "[I", true)
  | _ => ("CrossroadsCarts$Rests", "worths", "[I", true)
def tyX6 : Nat → FieldType := fun k => match k with
  | 0 => .array .int
  | 1 => .array .int
  | _ => .array .int
abbrev wsX60 : List Cond := u_ws RX6 TX6 3
theorem nmX6 : ∀ a, a < 3 → ∀ b, b < 3 → a ≠ b → (TX6 a).2.1 ≠ (TX6 b).2.1 := by decide +kernel
theorem tyX6_ok : ∀ k, k < 3 → parseFieldDescriptor (TX6 k).2.2.1 = some (tyX6 k) := by decide +kernel
abbrev cX6_init : ByteArray := prog_8_method_1_code
def yX6_init : MethodName := ⟨RX6, "<init>", "()V"⟩
abbrev cX6_isUnder : ByteArray := prog_8_method_2_code
def yX6_isUnder : MethodName := ⟨RX6, "isUnder", "(II)Z"⟩
abbrev cX6_breach : ByteArray := prog_8_method_3_code
def yX6_breach : MethodName := ⟨RX6, "breach", "(LCrossroadsCarts$Country;I)I"⟩
abbrev cX6_stay : ByteArray := prog_8_method_4_code
def yX6_stay : MethodName := ⟨RX6, "stay", "(LCrossroadsCarts$Country;)I"⟩
abbrev cX6_voted : ByteArray := prog_8_method_5_code
def yX6_voted : MethodName := ⟨RX6, "voted", "(LCrossroadsCarts$Country;)I"⟩
abbrev cX6_rented : ByteArray := prog_8_method_6_code
def yX6_rented : MethodName := ⟨RX6, "rented", "(LCrossroadsCarts$Country;)I"⟩
abbrev cX6_seer : ByteArray := prog_8_method_7_code
def yX6_seer : MethodName := ⟨RX6, "seer", "(LCrossroadsCarts$Country;)I"⟩
abbrev cX6_club : ByteArray := prog_8_method_8_code
def yX6_club : MethodName := ⟨RX6, "club", "(LCrossroadsCarts$Country;)I"⟩
abbrev cX6_leastOf : ByteArray := prog_8_method_9_code
def yX6_leastOf : MethodName := ⟨RX6, "leastOf", "(I)I"⟩
abbrev cX6_wouldFound : ByteArray := prog_8_method_10_code
def yX6_wouldFound : MethodName := ⟨RX6, "wouldFound", "(LCrossroadsCarts$Country;II)Z"⟩
def RX7 : String := "CrossroadsCarts$Tape"
def TX7 : u_T := fun k => match k with
  | 0 => ("CrossroadsCarts$Tape", "items", "[J", true)
  | 1 => ("CrossroadsCarts$Tape", "sort", "I", false)
  | _ => ("CrossroadsCarts$Tape", "length", "I", false)
def tyX7 : Nat → FieldType := fun k => match k with
  | 0 => .array .long
  | 1 => .int
  | _ => .int
abbrev wsX70 : List Cond := u_ws RX7 TX7 3
theorem nmX7 : ∀ a, a < 3 → ∀ b, b < 3 → a ≠ b → (TX7 a).2.1 ≠ (TX7 b).2.1 := by decide +kernel
theorem tyX7_ok : ∀ k, k < 3 → parseFieldDescriptor (TX7 k).2.2.1 = some (tyX7 k) := by decide +kernel
abbrev cX7_init : ByteArray := prog_9_method_1_code
def yX7_init : MethodName := ⟨RX7, "<init>", "()V"⟩
abbrev cX7_become : ByteArray := prog_9_method_2_code
def yX7_become : MethodName := ⟨RX7, "become", "(II)V"⟩
abbrev cX7_isNothing : ByteArray := prog_9_method_3_code
def yX7_isNothing : MethodName := ⟨RX7, "isNothing", "()Z"⟩
abbrev cX7_spans : ByteArray := prog_9_method_4_code
def yX7_spans : MethodName := ⟨RX7, "spans", "(II)Z"⟩
abbrev cX7_cut : ByteArray := prog_9_method_5_code
def yX7_cut : MethodName := ⟨RX7, "cut", "(J)J"⟩
def RX8 : String := "CrossroadsCarts$Walk"
def TX8 : u_T := fun k => match k with
  | _ => ("CrossroadsCarts$Walk", "imprints", "[J", true)
def tyX8 : Nat → FieldType := fun k => match k with
  | _ => .array .long
abbrev wsX80 : List Cond := u_ws RX8 TX8 1
theorem nmX8 : ∀ a, a < 1 → ∀ b, b < 1 → a ≠ b → (TX8 a).2.1 ≠ (TX8 b).2.1 := by decide +kernel
theorem tyX8_ok : ∀ k, k < 1 → parseFieldDescriptor (TX8 k).2.2.1 = some (tyX8 k) := by decide +kernel
abbrev cX8_init : ByteArray := prog_10_method_1_code
def yX8_init : MethodName := ⟨RX8, "<init>", "()V"⟩
abbrev cX8_stride : ByteArray := prog_10_method_2_code
def yX8_stride : MethodName := ⟨RX8, "stride", "(LCrossroadsCarts$Country;Z)I"⟩
abbrev cX8_strideOn : ByteArray := prog_10_method_3_code
def yX8_strideOn : MethodName := ⟨RX8, "strideOn", "(LCrossroadsCarts$Country;Z)I"⟩
def RX9 : String := "CrossroadsCarts"
def TX9 : u_T := fun k => match k with
  | 0 => ("CrossroadsCarts", "now", "LCrossroadsCarts$Country;", true)
  | 1 => ("CrossroadsCarts", "trial", "LCrossroadsCarts$Country;", true)
  | 2 => ("CrossroadsCarts", "rival", "LCrossroadsCarts$Country;", true)
  | 3 => ("CrossroadsCarts", "draft", "LCrossroadsCarts$Land;", false)
  | 4 => ("CrossroadsCarts", "reader", "LCrossroadsCarts$Reader;", true)
  | 5 => ("CrossroadsCarts", "rests", "LCrossroadsCarts$Rests;", true)
  | 6 => ("CrossroadsCarts", "walk", "LCrossroadsCarts$Walk;", true)
  | 7 => ("CrossroadsCarts", "deals", "LCrossroadsCarts$Deals;", true)
  | 8 => ("CrossroadsCarts", "acts", "LCrossroadsCarts$Acts;", true)
  | 9 => ("CrossroadsCarts", "laws", "[LCrossroadsCarts$Law;", true)
  | 10 => ("CrossroadsCarts", "tapes", "[LCrossroadsCarts$Tape;", true)
  | 11 => ("CrossroadsCarts", "lawCount", "I", false)
  | 12 => ("CrossroadsCarts", "landCount", "I", false)
  | _ => ("CrossroadsCarts", "years", "I", false)
def tyX9 : Nat → FieldType := fun k => match k with
  | 0 => .object "CrossroadsCarts$Country"
  | 1 => .object "CrossroadsCarts$Country"
  | 2 => .object "CrossroadsCarts$Country"
  | 3 => .object "CrossroadsCarts$Land"
  | 4 => .object "CrossroadsCarts$Reader"
  | 5 => .object "CrossroadsCarts$Rests"
  | 6 => .object "CrossroadsCarts$Walk"
  | 7 => .object "CrossroadsCarts$Deals"
  | 8 => .object "CrossroadsCarts$Acts"
  | 9 => .array (.object "CrossroadsCarts$Law")
  | 10 => .array (.object "CrossroadsCarts$Tape")
  | 11 => .int
  | 12 => .int
  | _ => .int
abbrev wsX90 : List Cond := u_ws RX9 TX9 14
theorem nmX9 : ∀ a, a < 14 → ∀ b, b < 14 → a ≠ b → (TX9 a).2.1 ≠ (TX9 b).2.1 := by decide +kernel
theorem tyX9_ok : ∀ k, k < 14 → parseFieldDescriptor (TX9 k).2.2.1 = some (tyX9 k) := by decide +kernel
abbrev cX9_init : ByteArray := prog_1_method_1_code
def yX9_init : MethodName := ⟨RX9, "<init>", "()V"⟩
abbrev cX9_town : ByteArray := prog_1_method_2_code
def yX9_town : MethodName := ⟨RX9, "town", "(I)I"⟩
abbrev cX9_family : ByteArray := prog_1_method_3_code
def yX9_family : MethodName := ⟨RX9, "family", "(III)I"⟩
abbrev cX9_put : ByteArray := prog_1_method_4_code
def yX9_put : MethodName := ⟨RX9, "put", "(III)I"⟩
abbrev cX9_of : ByteArray := prog_1_method_5_code
def yX9_of : MethodName := ⟨RX9, "of", "(II)J"⟩
abbrev cX9_has : ByteArray := prog_1_method_6_code
def yX9_has : MethodName := ⟨RX9, "has", "(II)I"⟩
abbrev cX9_feed : ByteArray := prog_1_method_7_code
def yX9_feed : MethodName := ⟨RX9, "feed", "(II)I"⟩
abbrev cX9_land : ByteArray := prog_1_method_8_code
def yX9_land : MethodName := ⟨RX9, "land", "()I"⟩
abbrev cX9_worth : ByteArray := prog_1_method_9_code
def yX9_worth : MethodName := ⟨RX9, "worth", "(II)J"⟩
abbrev cX9_choice : ByteArray := prog_1_method_10_code
def yX9_choice : MethodName := ⟨RX9, "choice", "(II)I"⟩
abbrev cX9_choose : ByteArray := prog_1_method_11_code
def yX9_choose : MethodName := ⟨RX9, "choose", "(I)I"⟩
abbrev cX9_rest : ByteArray := prog_1_method_12_code
def yX9_rest : MethodName := ⟨RX9, "rest", "(I)I"⟩
abbrev cX9_broken : ByteArray := prog_1_method_13_code
def yX9_broken : MethodName := ⟨RX9, "broken", "(I)I"⟩
abbrev cX9_go : ByteArray := prog_1_method_14_code
def yX9_go : MethodName := ⟨RX9, "go", "(II)I"⟩
abbrev cX9_step : ByteArray := prog_1_method_15_code
def yX9_step : MethodName := ⟨RX9, "step", "(Z)I"⟩
abbrev cX9_end : ByteArray := prog_1_method_16_code
def yX9_end : MethodName := ⟨RX9, "end", "(Z)I"⟩
abbrev cX9_judge : ByteArray := prog_1_method_17_code
def yX9_judge : MethodName := ⟨RX9, "judge", "(III)I"⟩
abbrev cX9_all : ByteArray := prog_1_method_18_code
def yX9_all : MethodName := ⟨RX9, "all", "(III)I"⟩
abbrev cX9_good : ByteArray := prog_1_method_19_code
def yX9_good : MethodName := ⟨RX9, "good", "(I)I"⟩
abbrev cX9_rise : ByteArray := prog_1_method_20_code
def yX9_rise : MethodName := ⟨RX9, "rise", "()I"⟩
abbrev cX9_sorted : ByteArray := prog_1_method_21_code
def yX9_sorted : MethodName := ⟨RX9, "sorted", "(I)I"⟩
abbrev cX9_tip : ByteArray := prog_1_method_22_code
def yX9_tip : MethodName := ⟨RX9, "tip", "(Z)I"⟩
abbrev cX9_law : ByteArray := prog_1_method_23_code
def yX9_law : MethodName := ⟨RX9, "law", "(IIII)I"⟩
abbrev cX9_mend : ByteArray := prog_1_method_24_code
def yX9_mend : MethodName := ⟨RX9, "mend", "(IZ)I"⟩
abbrev cX9_edge : ByteArray := prog_1_method_25_code
def yX9_edge : MethodName := ⟨RX9, "edge", "(III)I"⟩
abbrev cX9_year : ByteArray := prog_1_method_26_code
def yX9_year : MethodName := ⟨RX9, "year", "(I)I"⟩
abbrev cX9_act : ByteArray := prog_1_method_27_code
def yX9_act : MethodName := ⟨RX9, "act", "(III)I"⟩
abbrev cX9_trace : ByteArray := prog_1_method_28_code
def yX9_trace : MethodName := ⟨RX9, "trace", "(I)I"⟩
abbrev cX9_taken : ByteArray := prog_1_method_29_code
def yX9_taken : MethodName := ⟨RX9, "taken", "(II)I"⟩
abbrev cX9_count : ByteArray := prog_1_method_30_code
def yX9_count : MethodName := ⟨RX9, "count", "(I)I"⟩
abbrev cX9_tape : ByteArray := prog_1_method_31_code
def yX9_tape : MethodName := ⟨RX9, "tape", "(III)I"⟩
abbrev cX9_item : ByteArray := prog_1_method_32_code
def yX9_item : MethodName := ⟨RX9, "item", "(IIJ)I"⟩
abbrev cX9_read : ByteArray := prog_1_method_33_code
def yX9_read : MethodName := ⟨RX9, "read", "(II)J"⟩
abbrev cX9_shift : ByteArray := prog_1_method_34_code
def yX9_shift : MethodName := ⟨RX9, "shift", "(IIIII)I"⟩
abbrev cX9_within : ByteArray := prog_1_method_35_code
def yX9_within : MethodName := ⟨RX9, "within", "(III)Z"⟩
abbrev cX9_isTown : ByteArray := prog_1_method_36_code
def yX9_isTown : MethodName := ⟨RX9, "isTown", "(I)Z"⟩
abbrev cX9_isFamily : ByteArray := prog_1_method_37_code
def yX9_isFamily : MethodName := ⟨RX9, "isFamily", "(I)Z"⟩
abbrev cX9_isTape : ByteArray := prog_1_method_38_code
def yX9_isTape : MethodName := ⟨RX9, "isTape", "(I)Z"⟩
abbrev cX9_isRest : ByteArray := prog_1_method_39_code
def yX9_isRest : MethodName := ⟨RX9, "isRest", "(I)Z"⟩
abbrev cX9_replace : ByteArray := prog_1_method_40_code
def yX9_replace : MethodName := ⟨RX9, "replace", "([III)I"⟩
abbrev cX9_settleAsTold : ByteArray := prog_1_method_41_code
def yX9_settleAsTold : MethodName := ⟨RX9, "settleAsTold", "(LCrossroadsCarts$Tape;I)Z"⟩
abbrev cX9_priceOf : ByteArray := prog_1_method_42_code
def yX9_priceOf : MethodName := ⟨RX9, "priceOf", "(I)I"⟩
abbrev cX9_clashIn : ByteArray := prog_1_method_43_code
def yX9_clashIn : MethodName := ⟨RX9, "clashIn", "(I)Z"⟩
abbrev cX9_enact : ByteArray := prog_1_method_44_code
def yX9_enact : MethodName := ⟨RX9, "enact", "(I)V"⟩
abbrev cX9_births : ByteArray := prog_1_method_45_code
def yX9_births : MethodName := ⟨RX9, "births", "()I"⟩
def RX10 : String := "CrossroadsCartsModel"
def TX10 : u_T := fun k => match k with
  | 0 => ("CrossroadsCartsModel", "towns", "I", false)
  | 1 => ("CrossroadsCartsModel", "families", "I", false)
  | 2 => ("CrossroadsCartsModel", "years", "I", false)
  | 3 => ("CrossroadsCartsModel", "houses", "[I", true)
  | 4 => ("CrossroadsCartsModel", "level", "[I", true)
  | 5 => ("CrossroadsCartsModel", "rent", "[I", true)
  | 6 => ("CrossroadsCartsModel", "gate", "[I", true)
  | 7 => ("CrossroadsCartsModel", "above", "[I", true)
  | 8 => ("CrossroadsCartsModel", "sortOf", "[I", true)
  | 9 => ("CrossroadsCartsModel", "income", "[I", true)
  | 10 => ("CrossroadsCartsModel", "townOf", "[I", true)
  | 11 => ("CrossroadsCartsModel", "home", "[I", true)
  | 12 => ("CrossroadsCartsModel", "lands", "I", false)
  | 13 => ("CrossroadsCartsModel", "fed", "I", false)
  | 14 => ("CrossroadsCartsModel", "text", "[I", true)
  | 15 => ("CrossroadsCartsModel", "size", "[I", true)
  | 16 => ("CrossroadsCartsModel", "facts", "[I", true)
  | 17 => ("CrossroadsCartsModel", "base", "I", false)
  | 18 => ("CrossroadsCartsModel", "many", "I", false)
  | 19 => ("CrossroadsCartsModel", "at", "I", false)
  | 20 => ("CrossroadsCartsModel", "digits", "I", false)
  | 21 => ("CrossroadsCartsModel", "shunned", "I", false)
  | 22 => ("CrossroadsCartsModel", "like", "[I", true)
  | 23 => ("CrossroadsCartsModel", "near", "[I", true)
  | 24 => ("CrossroadsCartsModel", "costs", "[I", true)
  | 25 => ("CrossroadsCartsModel", "mile", "I", false)
  | 26 => ("CrossroadsCartsModel", "duesBy", "I", false)
  | 27 => ("CrossroadsCartsModel", "pickBy", "I", false)
  | 28 => ("CrossroadsCartsModel", "shun", "[I", true)
  | 29 => ("CrossroadsCartsModel", "isShunKnown", "Z", false)
  | 30 => ("CrossroadsCartsModel", "waits", "[I", true)
  | 31 => ("CrossroadsCartsModel", "pile", "[Z", true)
  | 32 => ("CrossroadsCartsModel", "waiting", "I", false)
  | 33 => ("CrossroadsCartsModel", "piled", "I", false)
  | 34 => ("CrossroadsCartsModel", "open", "I", false)
  | 35 => ("CrossroadsCartsModel", "likeTold", "[I", true)
  | 36 => ("CrossroadsCartsModel", "nearTold", "[I", true)
  | 37 => ("CrossroadsCartsModel", "costTold", "[I", true)
  | 38 => ("CrossroadsCartsModel", "mileTold", "I", false)
  | 39 => ("CrossroadsCartsModel", "duesTold", "I", false)
  | 40 => ("CrossroadsCartsModel", "pickTold", "I", false)
  | 41 => ("CrossroadsCartsModel", "votes", "[I", true)
  | 42 => ("CrossroadsCartsModel", "levelWas", "[I", true)
  | 43 => ("CrossroadsCartsModel", "townWas", "[I", true)
  | 44 => ("CrossroadsCartsModel", "worthWas", "[J", true)
  | 45 => ("CrossroadsCartsModel", "behind", "[I", true)
  | 46 => ("CrossroadsCartsModel", "kept", "[I", true)
  | 47 => ("CrossroadsCartsModel", "sortWas", "[I", true)
  | 48 => ("CrossroadsCartsModel", "digit", "[I", true)
  | 49 => ("CrossroadsCartsModel", "plainEnd", "[I", true)
  | 50 => ("CrossroadsCartsModel", "laws", "I", false)
  | 51 => ("CrossroadsCartsModel", "lawWhat", "[I", true)
  | 52 => ("CrossroadsCartsModel", "lawTown", "[I", true)
  | 53 => ("CrossroadsCartsModel", "lawNumber", "[I", true)
  | 54 => ("CrossroadsCartsModel", "lawPrice", "[I", true)
  | 55 => ("CrossroadsCartsModel", "ran", "I", false)
  | 56 => ("CrossroadsCartsModel", "bodies", "[I", true)
  | 57 => ("CrossroadsCartsModel", "sort", "[I", true)
  | 58 => ("CrossroadsCartsModel", "length", "[I", true)
  | 59 => ("CrossroadsCartsModel", "item", "[J", true)
  | _ => ("CrossroadsCartsModel", "aside", "[J", true)
def tyX10 : Nat → FieldType := fun k => match k with
  | 0 => .int
  | 1 => .int
  | 2 => .int
  | 3 => .array .int
  | 4 => .array .int
  | 5 => .array .int
  | 6 => .array .int
  | 7 => .array .int
  | 8 => .array .int
  | 9 => .array .int
  | 10 => .array .int
  | 11 => .array .int
  | 12 => .int
  | 13 => .int
  | 14 => .array .int
  | 15 => .array .int
  | 16 => .array .int
  | 17 => .int
  | 18 => .int
  | 19 => .int
  | 20 => .int
  | 21 => .int
  | 22 => .array .int
  | 23 => .array .int
  | 24 => .array .int
  | 25 => .int
  | 26 => .int
  | 27 => .int
  | 28 => .array .int
  | 29 => .boolean
  | 30 => .array .int
  | 31 => .array .boolean
  | 32 => .int
  | 33 => .int
  | 34 => .int
  | 35 => .array .int
  | 36 => .array .int
  | 37 => .array .int
  | 38 => .int
  | 39 => .int
  | 40 => .int
  | 41 => .array .int
  | 42 => .array .int
  | 43 => .array .int
  | 44 => .array .long
  | 45 => .array .int
  | 46 => .array .int
  | 47 => .array .int
  | 48 => .array .int
  | 49 => .array .int
  | 50 => .int
  | 51 => .array .int
  | 52 => .array .int
  | 53 => .array .int
  | 54 => .array .int
  | 55 => .int
  | 56 => .array .int
  | 57 => .array .int
  | 58 => .array .int
  | 59 => .array .long
  | _ => .array .long
abbrev wsX100 : List Cond := u_ws RX10 TX10 61
theorem nmX10 : ∀ a, a < 61 → ∀ b, b < 61 → a ≠ b → (TX10 a).2.1 ≠ (TX10 b).2.1 := by decide +kernel
theorem tyX10_ok : ∀ k, k < 61 → parseFieldDescriptor (TX10 k).2.2.1 = some (tyX10 k) := by decide +kernel
abbrev cX10_init : ByteArray := prog_12_method_1_code
def yX10_init : MethodName := ⟨RX10, "<init>", "()V"⟩
abbrev cX10_in : ByteArray := prog_12_method_2_code
def yX10_in : MethodName := ⟨RX10, "in", "(III)Z"⟩
abbrev cX10_abs : ByteArray := prog_12_method_3_code
def yX10_abs : MethodName := ⟨RX10, "abs", "(I)I"⟩
abbrev cX10_ones : ByteArray := prog_12_method_4_code
def yX10_ones : MethodName := ⟨RX10, "ones", "(I)I"⟩
abbrev cX10_isTown : ByteArray := prog_12_method_5_code
def yX10_isTown : MethodName := ⟨RX10, "isTown", "(I)Z"⟩
abbrev cX10_isFamily : ByteArray := prog_12_method_6_code
def yX10_isFamily : MethodName := ⟨RX10, "isFamily", "(I)Z"⟩
abbrev cX10_manyIn : ByteArray := prog_12_method_7_code
def yX10_manyIn : MethodName := ⟨RX10, "manyIn", "(I)I"⟩
abbrev cX10_isFree : ByteArray := prog_12_method_8_code
def yX10_isFree : MethodName := ⟨RX10, "isFree", "(I)Z"⟩
abbrev cX10_town : ByteArray := prog_12_method_9_code
def yX10_town : MethodName := ⟨RX10, "town", "(I)I"⟩
abbrev cX10_add : ByteArray := prog_12_method_10_code
def yX10_add : MethodName := ⟨RX10, "add", "(III)V"⟩
abbrev cX10_family : ByteArray := prog_12_method_11_code
def yX10_family : MethodName := ⟨RX10, "family", "(III)I"⟩
abbrev cX10_put : ByteArray := prog_12_method_12_code
def yX10_put : MethodName := ⟨RX10, "put", "(III)I"⟩
abbrev cX10_of : ByteArray := prog_12_method_13_code
def yX10_of : MethodName := ⟨RX10, "of", "(II)J"⟩
abbrev cX10_has : ByteArray := prog_12_method_14_code
def yX10_has : MethodName := ⟨RX10, "has", "(II)I"⟩
abbrev cX10_feed : ByteArray := prog_12_method_15_code
def yX10_feed : MethodName := ⟨RX10, "feed", "(II)I"⟩
abbrev cX10_next : ByteArray := prog_12_method_16_code
def yX10_next : MethodName := ⟨RX10, "next", "()I"⟩
abbrev cX10_isDigit : ByteArray := prog_12_method_17_code
def yX10_isDigit : MethodName := ⟨RX10, "isDigit", "()Z"⟩
abbrev cX10_takes : ByteArray := prog_12_method_18_code
def yX10_takes : MethodName := ⟨RX10, "takes", "(I)Z"⟩
abbrev cX10_takesWord : ByteArray := prog_12_method_19_code
def yX10_takesWord : MethodName := ⟨RX10, "takesWord", "(II)Z"⟩
abbrev cX10_takesNumber : ByteArray := prog_12_method_20_code
def yX10_takesNumber : MethodName := ⟨RX10, "takesNumber", "()Z"⟩
abbrev cX10_takesFigure : ByteArray := prog_12_method_21_code
def yX10_takesFigure : MethodName := ⟨RX10, "takesFigure", "(I)Z"⟩
abbrev cX10_push : ByteArray := prog_12_method_22_code
def yX10_push : MethodName := ⟨RX10, "push", "(Z)V"⟩
abbrev cX10_settle : ByteArray := prog_12_method_23_code
def yX10_settle : MethodName := ⟨RX10, "settle", "(I)V"⟩
abbrev cX10_takesTest : ByteArray := prog_12_method_24_code
def yX10_takesTest : MethodName := ⟨RX10, "takesTest", "()Z"⟩
abbrev cX10_takesE : ByteArray := prog_12_method_25_code
def yX10_takesE : MethodName := ⟨RX10, "takesE", "()Z"⟩
abbrev cX10_takesTwo : ByteArray := prog_12_method_26_code
def yX10_takesTwo : MethodName := ⟨RX10, "takesTwo", "(I)Z"⟩
abbrev cX10_takesCost : ByteArray := prog_12_method_27_code
def yX10_takesCost : MethodName := ⟨RX10, "takesCost", "()Z"⟩
abbrev cX10_takesShun : ByteArray := prog_12_method_28_code
def yX10_takesShun : MethodName := ⟨RX10, "takesShun", "()Z"⟩
abbrev cX10_takesClause : ByteArray := prog_12_method_29_code
def yX10_takesClause : MethodName := ⟨RX10, "takesClause", "()Z"⟩
abbrev cX10_goes : ByteArray := prog_12_method_30_code
def yX10_goes : MethodName := ⟨RX10, "goes", "(I)Z"⟩
abbrev cX10_land : ByteArray := prog_12_method_31_code
def yX10_land : MethodName := ⟨RX10, "land", "()I"⟩
abbrev cX10_findShun : ByteArray := prog_12_method_32_code
def yX10_findShun : MethodName := ⟨RX10, "findShun", "()V"⟩
abbrev cX10_costOf : ByteArray := prog_12_method_33_code
def yX10_costOf : MethodName := ⟨RX10, "costOf", "(I)I"⟩
abbrev cX10_dues : ByteArray := prog_12_method_34_code
def yX10_dues : MethodName := ⟨RX10, "dues", "(II)I"⟩
abbrev cX10_worthOf : ByteArray := prog_12_method_35_code
def yX10_worthOf : MethodName := ⟨RX10, "worthOf", "(II)J"⟩
abbrev cX10_worth : ByteArray := prog_12_method_36_code
def yX10_worth : MethodName := ⟨RX10, "worth", "(II)J"⟩
abbrev cX10_wants : ByteArray := prog_12_method_37_code
def yX10_wants : MethodName := ⟨RX10, "wants", "(III)I"⟩
abbrev cX10_choiceOf : ByteArray := prog_12_method_38_code
def yX10_choiceOf : MethodName := ⟨RX10, "choiceOf", "(II)I"⟩
abbrev cX10_choice : ByteArray := prog_12_method_39_code
def yX10_choice : MethodName := ⟨RX10, "choice", "(II)I"⟩
abbrev cX10_chooses : ByteArray := prog_12_method_40_code
def yX10_chooses : MethodName := ⟨RX10, "chooses", "(I)I"⟩
abbrev cX10_choose : ByteArray := prog_12_method_41_code
def yX10_choose : MethodName := ⟨RX10, "choose", "(I)I"⟩
abbrev cX10_isHindered : ByteArray := prog_12_method_42_code
def yX10_isHindered : MethodName := ⟨RX10, "isHindered", "(II)Z"⟩
abbrev cX10_canGo : ByteArray := prog_12_method_43_code
def yX10_canGo : MethodName := ⟨RX10, "canGo", "(II)Z"⟩
abbrev cX10_stayBreak : ByteArray := prog_12_method_44_code
def yX10_stayBreak : MethodName := ⟨RX10, "stayBreak", "()I"⟩
abbrev cX10_voteBreak : ByteArray := prog_12_method_45_code
def yX10_voteBreak : MethodName := ⟨RX10, "voteBreak", "()I"⟩
abbrev cX10_rentBreak : ByteArray := prog_12_method_46_code
def yX10_rentBreak : MethodName := ⟨RX10, "rentBreak", "()I"⟩
abbrev cX10_seerBreak : ByteArray := prog_12_method_47_code
def yX10_seerBreak : MethodName := ⟨RX10, "seerBreak", "()I"⟩
abbrev cX10_isClub : ByteArray := prog_12_method_48_code
def yX10_isClub : MethodName := ⟨RX10, "isClub", "(II)Z"⟩
abbrev cX10_clubBreak : ByteArray := prog_12_method_49_code
def yX10_clubBreak : MethodName := ⟨RX10, "clubBreak", "()I"⟩
abbrev cX10_breakOf : ByteArray := prog_12_method_50_code
def yX10_breakOf : MethodName := ⟨RX10, "breakOf", "(I)I"⟩
abbrev cX10_isRest : ByteArray := prog_12_method_51_code
def yX10_isRest : MethodName := ⟨RX10, "isRest", "(I)Z"⟩
abbrev cX10_rest : ByteArray := prog_12_method_52_code
def yX10_rest : MethodName := ⟨RX10, "rest", "(I)I"⟩
abbrev cX10_broken : ByteArray := prog_12_method_53_code
def yX10_broken : MethodName := ⟨RX10, "broken", "(I)I"⟩
abbrev cX10_go : ByteArray := prog_12_method_54_code
def yX10_go : MethodName := ⟨RX10, "go", "(II)I"⟩
abbrev cX10_stepOnce : ByteArray := prog_12_method_55_code
def yX10_stepOnce : MethodName := ⟨RX10, "stepOnce", "(Z)I"⟩
abbrev cX10_step : ByteArray := prog_12_method_56_code
def yX10_step : MethodName := ⟨RX10, "step", "(Z)I"⟩
abbrev cX10_keepState : ByteArray := prog_12_method_57_code
def yX10_keepState : MethodName := ⟨RX10, "keepState", "(I)V"⟩
abbrev cX10_isState : ByteArray := prog_12_method_58_code
def yX10_isState : MethodName := ⟨RX10, "isState", "(I)Z"⟩
abbrev cX10_endAll : ByteArray := prog_12_method_59_code
def yX10_endAll : MethodName := ⟨RX10, "endAll", "(Z)I"⟩
abbrev cX10_end : ByteArray := prog_12_method_60_code
def yX10_end : MethodName := ⟨RX10, "end", "(Z)I"⟩
abbrev cX10_keep : ByteArray := prog_12_method_61_code
def yX10_keep : MethodName := ⟨RX10, "keep", "()V"⟩
abbrev cX10_putBack : ByteArray := prog_12_method_62_code
def yX10_putBack : MethodName := ⟨RX10, "putBack", "()V"⟩
abbrev cX10_isRoom : ByteArray := prog_12_method_63_code
def yX10_isRoom : MethodName := ⟨RX10, "isRoom", "()Z"⟩
abbrev cX10_judge : ByteArray := prog_12_method_64_code
def yX10_judge : MethodName := ⟨RX10, "judge", "(III)I"⟩
abbrev cX10_rowsOf : ByteArray := prog_12_method_65_code
def yX10_rowsOf : MethodName := ⟨RX10, "rowsOf", "()I"⟩
abbrev cX10_layOut : ByteArray := prog_12_method_66_code
def yX10_layOut : MethodName := ⟨RX10, "layOut", "(I)V"⟩
abbrev cX10_all : ByteArray := prog_12_method_67_code
def yX10_all : MethodName := ⟨RX10, "all", "(III)I"⟩
abbrev cX10_good : ByteArray := prog_12_method_68_code
def yX10_good : MethodName := ⟨RX10, "good", "(I)I"⟩
abbrev cX10_isWanted : ByteArray := prog_12_method_69_code
def yX10_isWanted : MethodName := ⟨RX10, "isWanted", "(I)Z"⟩
abbrev cX10_rise : ByteArray := prog_12_method_70_code
def yX10_rise : MethodName := ⟨RX10, "rise", "()I"⟩
abbrev cX10_pairs : ByteArray := prog_12_method_71_code
def yX10_pairs : MethodName := ⟨RX10, "pairs", "()I"⟩
abbrev cX10_deal : ByteArray := prog_12_method_72_code
def yX10_deal : MethodName := ⟨RX10, "deal", "(I)V"⟩
abbrev cX10_sorted : ByteArray := prog_12_method_73_code
def yX10_sorted : MethodName := ⟨RX10, "sorted", "(I)I"⟩
abbrev cX10_tip : ByteArray := prog_12_method_74_code
def yX10_tip : MethodName := ⟨RX10, "tip", "(Z)I"⟩
abbrev cX10_law : ByteArray := prog_12_method_75_code
def yX10_law : MethodName := ⟨RX10, "law", "(IIII)I"⟩
abbrev cX10_isSet : ByteArray := prog_12_method_76_code
def yX10_isSet : MethodName := ⟨RX10, "isSet", "(I)Z"⟩
abbrev cX10_priceOf : ByteArray := prog_12_method_77_code
def yX10_priceOf : MethodName := ⟨RX10, "priceOf", "(I)I"⟩
abbrev cX10_leastBehind : ByteArray := prog_12_method_78_code
def yX10_leastBehind : MethodName := ⟨RX10, "leastBehind", "(IZ)J"⟩
abbrev cX10_mend : ByteArray := prog_12_method_79_code
def yX10_mend : MethodName := ⟨RX10, "mend", "(IZ)I"⟩
abbrev cX10_edge : ByteArray := prog_12_method_80_code
def yX10_edge : MethodName := ⟨RX10, "edge", "(III)I"⟩
abbrev cX10_twinSort : ByteArray := prog_12_method_81_code
def yX10_twinSort : MethodName := ⟨RX10, "twinSort", "(I)I"⟩
abbrev cX10_year : ByteArray := prog_12_method_82_code
def yX10_year : MethodName := ⟨RX10, "year", "(I)I"⟩
abbrev cX10_body : ByteArray := prog_12_method_83_code
def yX10_body : MethodName := ⟨RX10, "body", "(I)V"⟩
abbrev cX10_plainHolds : ByteArray := prog_12_method_84_code
def yX10_plainHolds : MethodName := ⟨RX10, "plainHolds", "(I)I"⟩
abbrev cX10_votedHolds : ByteArray := prog_12_method_85_code
def yX10_votedHolds : MethodName := ⟨RX10, "votedHolds", "(I)I"⟩
abbrev cX10_holds : ByteArray := prog_12_method_86_code
def yX10_holds : MethodName := ⟨RX10, "holds", "(II)I"⟩
abbrev cX10_plainBreaks : ByteArray := prog_12_method_87_code
def yX10_plainBreaks : MethodName := ⟨RX10, "plainBreaks", "(II)I"⟩
abbrev cX10_stayBreaks : ByteArray := prog_12_method_88_code
def yX10_stayBreaks : MethodName := ⟨RX10, "stayBreaks", "(II)I"⟩
abbrev cX10_breaks : ByteArray := prog_12_method_89_code
def yX10_breaks : MethodName := ⟨RX10, "breaks", "(II)I"⟩
abbrev cX10_plainTells : ByteArray := prog_12_method_90_code
def yX10_plainTells : MethodName := ⟨RX10, "plainTells", "(II)I"⟩
abbrev cX10_votedTells : ByteArray := prog_12_method_91_code
def yX10_votedTells : MethodName := ⟨RX10, "votedTells", "(II)I"⟩
abbrev cX10_tells : ByteArray := prog_12_method_92_code
def yX10_tells : MethodName := ⟨RX10, "tells", "(II)I"⟩
abbrev cX10_act : ByteArray := prog_12_method_93_code
def yX10_act : MethodName := ⟨RX10, "act", "(III)I"⟩
abbrev cX10_trace : ByteArray := prog_12_method_94_code
def yX10_trace : MethodName := ⟨RX10, "trace", "(I)I"⟩
abbrev cX10_taken : ByteArray := prog_12_method_95_code
def yX10_taken : MethodName := ⟨RX10, "taken", "(II)I"⟩
abbrev cX10_count : ByteArray := prog_12_method_96_code
def yX10_count : MethodName := ⟨RX10, "count", "(I)I"⟩
abbrev cX10_isTape : ByteArray := prog_12_method_97_code
def yX10_isTape : MethodName := ⟨RX10, "isTape", "(I)Z"⟩
abbrev cX10_tape : ByteArray := prog_12_method_98_code
def yX10_tape : MethodName := ⟨RX10, "tape", "(III)I"⟩
abbrev cX10_narrow : ByteArray := prog_12_method_99_code
def yX10_narrow : MethodName := ⟨RX10, "narrow", "(IJ)J"⟩
abbrev cX10_item : ByteArray := prog_12_method_100_code
def yX10_item : MethodName := ⟨RX10, "item", "(IIJ)I"⟩
abbrev cX10_read : ByteArray := prog_12_method_101_code
def yX10_read : MethodName := ⟨RX10, "read", "(II)J"⟩
abbrev cX10_shift : ByteArray := prog_12_method_102_code
def yX10_shift : MethodName := ⟨RX10, "shift", "(IIIII)I"⟩
def RJx145de : String := "java/io/Serializable"
def TJx145de : u_T := fun k => match k with
  | _ => ("", "", "", false)
def tyJx145de : Nat → FieldType := fun k => match k with
  | _ => .int
abbrev wsJx145de0 : List Cond := u_ws RJx145de TJx145de 0
theorem nmJx145de : ∀ a, a < 0 → ∀ b, b < 0 → a ≠ b → (TJx145de a).2.1 ≠ (TJx145de b).2.1 := by decide +kernel
theorem tyJx145de_ok : ∀ k, k < 0 → parseFieldDescriptor (TJx145de k).2.2.1 = some (tyJx145de k) := by decide +kernel
def RJx9f9b0 : String := "java/lang/CharSequence"
def TJx9f9b0 : u_T := fun k => match k with
  | _ => ("", "", "", false)
def tyJx9f9b0 : Nat → FieldType := fun k => match k with
  | _ => .int
abbrev wsJx9f9b00 : List Cond := u_ws RJx9f9b0 TJx9f9b0 0
theorem nmJx9f9b0 : ∀ a, a < 0 → ∀ b, b < 0 → a ≠ b → (TJx9f9b0 a).2.1 ≠ (TJx9f9b0 b).2.1 := by decide +kernel
theorem tyJx9f9b0_ok : ∀ k, k < 0 → parseFieldDescriptor (TJx9f9b0 k).2.2.1 = some (tyJx9f9b0 k) := by decide +kernel
def RJ11 : String := "java/lang/Character"
def TJ11 : u_T := fun k => match k with
  | _ => ("", "", "", false)
def tyJ11 : Nat → FieldType := fun k => match k with
  | _ => .int
abbrev wsJ110 : List Cond := u_ws RJ11 TJ11 0
theorem nmJ11 : ∀ a, a < 0 → ∀ b, b < 0 → a ≠ b → (TJ11 a).2.1 ≠ (TJ11 b).2.1 := by decide +kernel
theorem tyJ11_ok : ∀ k, k < 0 → parseFieldDescriptor (TJ11 k).2.2.1 = some (tyJ11 k) := by decide +kernel
abbrev cJ11_isValidCodePoint_9a6ad : ByteArray := prog_13_method_11_code
def yJ11_isValidCodePoint_9a6ad : MethodName := ⟨RJ11, "isValidCodePoint", "(I)Z"⟩
abbrev cJ11_highSurrogate_5068e : ByteArray := prog_13_method_28_code
def yJ11_highSurrogate_5068e : MethodName := ⟨RJ11, "highSurrogate", "(I)C"⟩
abbrev cJ11_lowSurrogate_5068e : ByteArray := prog_13_method_29_code
def yJ11_lowSurrogate_5068e : MethodName := ⟨RJ11, "lowSurrogate", "(I)C"⟩
def RJxb160c : String := "java/lang/Comparable"
def TJxb160c : u_T := fun k => match k with
  | _ => ("", "", "", false)
def tyJxb160c : Nat → FieldType := fun k => match k with
  | _ => .int
abbrev wsJxb160c0 : List Cond := u_ws RJxb160c TJxb160c 0
theorem nmJxb160c : ∀ a, a < 0 → ∀ b, b < 0 → a ≠ b → (TJxb160c a).2.1 ≠ (TJxb160c b).2.1 := by decide +kernel
theorem tyJxb160c_ok : ∀ k, k < 0 → parseFieldDescriptor (TJxb160c k).2.2.1 = some (tyJxb160c k) := by decide +kernel
def RJ6 : String := "java/lang/Integer"
def TJ6 : u_T := fun k => match k with
  | _ => ("", "", "", false)
def tyJ6 : Nat → FieldType := fun k => match k with
  | _ => .int
abbrev wsJ60 : List Cond := u_ws RJ6 TJ6 0
theorem nmJ6 : ∀ a, a < 0 → ∀ b, b < 0 → a ≠ b → (TJ6 a).2.1 ≠ (TJ6 b).2.1 := by decide +kernel
theorem tyJ6_ok : ∀ k, k < 0 → parseFieldDescriptor (TJ6 k).2.2.1 = some (tyJ6 k) := by decide +kernel
abbrev cJ6_bitCount_0f7a4 : ByteArray := prog_14_method_49_code
def yJ6_bitCount_0f7a4 : MethodName := ⟨RJ6, "bitCount", "(I)I"⟩
def RJ9 : String := "java/lang/Math"
def TJ9 : u_T := fun k => match k with
  | _ => ("", "", "", false)
def tyJ9 : Nat → FieldType := fun k => match k with
  | _ => .int
abbrev wsJ90 : List Cond := u_ws RJ9 TJ9 0
theorem nmJ9 : ∀ a, a < 0 → ∀ b, b < 0 → a ≠ b → (TJ9 a).2.1 ≠ (TJ9 b).2.1 := by decide +kernel
theorem tyJ9_ok : ∀ k, k < 0 → parseFieldDescriptor (TJ9 k).2.2.1 = some (tyJ9 k) := by decide +kernel
abbrev cJ9_abs_0f7a4 : ByteArray := prog_15_method_59_code
def yJ9_abs_0f7a4 : MethodName := ⟨RJ9, "abs", "(I)I"⟩
abbrev cJ9_max_7cf53 : ByteArray := prog_15_method_65_code
def yJ9_max_7cf53 : MethodName := ⟨RJ9, "max", "(II)I"⟩
abbrev cJ9_min_7cf53 : ByteArray := prog_15_method_69_code
def yJ9_min_7cf53 : MethodName := ⟨RJ9, "min", "(II)I"⟩
def RJ0 : String := "java/lang/String"
def TJ0 : u_T := fun k => match k with
  | _ => ("", "", "", false)
def tyJ0 : Nat → FieldType := fun k => match k with
  | _ => .int
abbrev wsJ00 : List Cond := u_ws RJ0 TJ0 0
theorem nmJ0 : ∀ a, a < 0 → ∀ b, b < 0 → a ≠ b → (TJ0 a).2.1 ≠ (TJ0 b).2.1 := by decide +kernel
theorem tyJ0_ok : ∀ k, k < 0 → parseFieldDescriptor (TJ0 k).2.2.1 = some (tyJ0 k) := by decide +kernel
abbrev cJ0_length_8abf5 : ByteArray := prog_16_method_54_code
def yJ0_length_8abf5 : MethodName := ⟨RJ0, "length", "()I"⟩
abbrev cJ0_charAt_5068e : ByteArray := prog_16_method_56_code
def yJ0_charAt_5068e : MethodName := ⟨RJ0, "charAt", "(I)C"⟩
abbrev cJ0_indexOf_0f7a4 : ByteArray := prog_16_method_79_code
def yJ0_indexOf_0f7a4 : MethodName := ⟨RJ0, "indexOf", "(I)I"⟩
abbrev cJ0_indexOf_7cf53 : ByteArray := prog_16_method_80_code
def yJ0_indexOf_7cf53 : MethodName := ⟨RJ0, "indexOf", "(II)I"⟩
abbrev cJ0_coder_7d493 : ByteArray := prog_16_method_152_code
def yJ0_coder_7d493 : MethodName := ⟨RJ0, "coder", "()B"⟩
abbrev cJ0_isLatin1_aae02 : ByteArray := prog_16_method_154_code
def yJ0_isLatin1_aae02 : MethodName := ⟨RJ0, "isLatin1", "()Z"⟩
abbrev cJ0_checkIndex_df160 : ByteArray := prog_16_method_155_code
def yJ0_checkIndex_df160 : MethodName := ⟨RJ0, "checkIndex", "(II)V"⟩
abbrev cJ0_checkBoundsBeginEnd_23922 : ByteArray := prog_16_method_158_code
def yJ0_checkBoundsBeginEnd_23922 : MethodName := ⟨RJ0, "checkBoundsBeginEnd", "(III)V"⟩
def RJ1 : String := "java/lang/StringLatin1"
def TJ1 : u_T := fun k => match k with
  | _ => ("", "", "", false)
def tyJ1 : Nat → FieldType := fun k => match k with
  | _ => .int
abbrev wsJ10 : List Cond := u_ws RJ1 TJ1 0
theorem nmJ1 : ∀ a, a < 0 → ∀ b, b < 0 → a ≠ b → (TJ1 a).2.1 ≠ (TJ1 b).2.1 := by decide +kernel
theorem tyJ1_ok : ∀ k, k < 0 → parseFieldDescriptor (TJ1 k).2.2.1 = some (tyJ1 k) := by decide +kernel
abbrev cJ1_charAt_3b067 : ByteArray := prog_17_method_2_code
def yJ1_charAt_3b067 : MethodName := ⟨RJ1, "charAt", "([BI)C"⟩
abbrev cJ1_canEncode_9a6ad : ByteArray := prog_17_method_4_code
def yJ1_canEncode_9a6ad : MethodName := ⟨RJ1, "canEncode", "(I)Z"⟩
abbrev cJ1_indexOf_4cfef : ByteArray := prog_17_method_22_code
def yJ1_indexOf_4cfef : MethodName := ⟨RJ1, "indexOf", "([BIII)I"⟩
abbrev cJ1_indexOfChar_4cfef : ByteArray := prog_17_method_23_code
def yJ1_indexOfChar_4cfef : MethodName := ⟨RJ1, "indexOfChar", "([BIII)I"⟩
def RJ2 : String := "java/lang/StringUTF16"
def TJ2 : u_T := fun k => match k with
  | _ => ("", "", "", false)
def tyJ2 : Nat → FieldType := fun k => match k with
  | _ => .int
abbrev wsJ20 : List Cond := u_ws RJ2 TJ2 0
theorem nmJ2 : ∀ a, a < 0 → ∀ b, b < 0 → a ≠ b → (TJ2 a).2.1 ≠ (TJ2 b).2.1 := by decide +kernel
theorem tyJ2_ok : ∀ k, k < 0 → parseFieldDescriptor (TJ2 k).2.2.1 = some (tyJ2 k) := by decide +kernel
abbrev cJ2_getChar_3b067 : ByteArray := prog_18_method_5_code
def yJ2_getChar_3b067 : MethodName := ⟨RJ2, "getChar", "([BI)C"⟩
abbrev cJ2_length_9d52b : ByteArray := prog_18_method_6_code
def yJ2_length_9d52b : MethodName := ⟨RJ2, "length", "([B)I"⟩
abbrev cJ2_indexOf_4cfef : ByteArray := prog_18_method_40_code
def yJ2_indexOf_4cfef : MethodName := ⟨RJ2, "indexOf", "([BIII)I"⟩
abbrev cJ2_indexOfChar_4cfef : ByteArray := prog_18_method_47_code
def yJ2_indexOfChar_4cfef : MethodName := ⟨RJ2, "indexOfChar", "([BIII)I"⟩
abbrev cJ2_indexOfCharUnsafe_4cfef : ByteArray := prog_18_method_48_code
def yJ2_indexOfCharUnsafe_4cfef : MethodName := ⟨RJ2, "indexOfCharUnsafe", "([BIII)I"⟩
abbrev cJ2_indexOfSupplementary_4cfef : ByteArray := prog_18_method_49_code
def yJ2_indexOfSupplementary_4cfef : MethodName := ⟨RJ2, "indexOfSupplementary", "([BIII)I"⟩
abbrev cJ2_charAt_3b067 : ByteArray := prog_18_method_83_code
def yJ2_charAt_3b067 : MethodName := ⟨RJ2, "charAt", "([BI)C"⟩
abbrev cJ2_checkIndex_2214a : ByteArray := prog_18_method_91_code
def yJ2_checkIndex_2214a : MethodName := ⟨RJ2, "checkIndex", "(I[B)V"⟩
abbrev cJ2_checkBoundsBeginEnd_d044e : ByteArray := prog_18_method_93_code
def yJ2_checkBoundsBeginEnd_d044e : MethodName := ⟨RJ2, "checkBoundsBeginEnd", "(II[B)V"⟩
def RJ10 : String := "java/lang/System"
def TJ10 : u_T := fun k => match k with
  | _ => ("", "", "", false)
def tyJ10 : Nat → FieldType := fun k => match k with
  | _ => .int
abbrev wsJ100 : List Cond := u_ws RJ10 TJ10 0
theorem nmJ10 : ∀ a, a < 0 → ∀ b, b < 0 → a ≠ b → (TJ10 a).2.1 ≠ (TJ10 b).2.1 := by decide +kernel
theorem tyJ10_ok : ∀ k, k < 0 → parseFieldDescriptor (TJ10 k).2.2.1 = some (tyJ10 k) := by decide +kernel
def RJxfd54e : String := "java/lang/constant/Constable"
def TJxfd54e : u_T := fun k => match k with
  | _ => ("", "", "", false)
def tyJxfd54e : Nat → FieldType := fun k => match k with
  | _ => .int
abbrev wsJxfd54e0 : List Cond := u_ws RJxfd54e TJxfd54e 0
theorem nmJxfd54e : ∀ a, a < 0 → ∀ b, b < 0 → a ≠ b → (TJxfd54e a).2.1 ≠ (TJxfd54e b).2.1 := by decide +kernel
theorem tyJxfd54e_ok : ∀ k, k < 0 → parseFieldDescriptor (TJxfd54e k).2.2.1 = some (tyJxfd54e k) := by decide +kernel
def RJx3cf43 : String := "java/lang/constant/ConstantDesc"
def TJx3cf43 : u_T := fun k => match k with
  | _ => ("", "", "", false)
def tyJx3cf43 : Nat → FieldType := fun k => match k with
  | _ => .int
abbrev wsJx3cf430 : List Cond := u_ws RJx3cf43 TJx3cf43 0
theorem nmJx3cf43 : ∀ a, a < 0 → ∀ b, b < 0 → a ≠ b → (TJx3cf43 a).2.1 ≠ (TJx3cf43 b).2.1 := by decide +kernel
theorem tyJx3cf43_ok : ∀ k, k < 0 → parseFieldDescriptor (TJx3cf43 k).2.2.1 = some (tyJx3cf43 k) := by decide +kernel
def RJ7 : String := "java/util/Arrays"
def TJ7 : u_T := fun k => match k with
  | _ => ("", "", "", false)
def tyJ7 : Nat → FieldType := fun k => match k with
  | _ => .int
abbrev wsJ70 : List Cond := u_ws RJ7 TJ7 0
theorem nmJ7 : ∀ a, a < 0 → ∀ b, b < 0 → a ≠ b → (TJ7 a).2.1 ≠ (TJ7 b).2.1 := by decide +kernel
theorem tyJ7_ok : ∀ k, k < 0 → parseFieldDescriptor (TJ7 k).2.2.1 = some (tyJ7 k) := by decide +kernel
abbrev cJ7_fill_d0a16 : ByteArray := prog_20_method_101_code
def yJ7_fill_d0a16 : MethodName := ⟨RJ7, "fill", "([JJ)V"⟩
abbrev cJ7_fill_53178 : ByteArray := prog_20_method_103_code
def yJ7_fill_53178 : MethodName := ⟨RJ7, "fill", "([II)V"⟩
def RJ3 : String := "jdk/internal/util/Preconditions"
def TJ3 : u_T := fun k => match k with
  | _ => ("", "", "", false)
def tyJ3 : Nat → FieldType := fun k => match k with
  | _ => .int
abbrev wsJ30 : List Cond := u_ws RJ3 TJ3 0
theorem nmJ3 : ∀ a, a < 0 → ∀ b, b < 0 → a ≠ b → (TJ3 a).2.1 ≠ (TJ3 b).2.1 := by decide +kernel
theorem tyJ3_ok : ∀ k, k < 0 → parseFieldDescriptor (TJ3 k).2.2.1 = some (tyJ3 k) := by decide +kernel
abbrev cJ3_checkIndex_8e157 : ByteArray := prog_21_method_11_code
def yJ3_checkIndex_8e157 : MethodName := ⟨RJ3, "checkIndex", "(IILjava/util/function/BiFunction;)I"⟩
abbrev cJ3_checkFromToIndex_8c36e : ByteArray := prog_21_method_12_code
def yJ3_checkFromToIndex_8c36e : MethodName := ⟨RJ3, "checkFromToIndex", "(IIILjava/util/function/BiFunction;)I"⟩
def RL : String := "CrossroadsCartsLaw"
abbrev cL_law : ByteArray := code
def yL_law : MethodName := ⟨RL, "law", "([I)Z"⟩
abbrev vwCl : List vw_C := [(RX0, TX0, 5), (RX1, TX1, 13), (RX2, TX2, 2), (RX3, TX3, 8), (RX4, TX4, 4), (RX5, TX5, 3), (RX6, TX6, 3), (RX7, TX7, 3), (RX8, TX8, 1), (RX9, TX9, 14), (RX10, TX10, 61)]
