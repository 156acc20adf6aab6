section
-- ===== PART A: goes FIRST, ahead of the names: the tables' words, and 'selects' of the private methods out of them =====
/-- a private method of a class that the tables say can be made, by its rows of tables_1 -/
def lw_okq (q : MethodName × Nat) : Prop := (q.1.cls ≠ "java/lang/invoke/MethodHandle" ∧ q.1.cls ≠ "java/lang/invoke/VarHandle") ∧ Cond.instantiable q.1.cls q.2 ∈ tables_1 ∧ Cond.privateMethod q.1 ∈ tables_1 ∧ Cond.instanceMethod q.1 ∈ tables_1
theorem lw_p0 : lw_okq (⟨"RumourBrew", "found", "(I)I"⟩, 10) := ⟨⟨by decide +kernel, by decide +kernel⟩, List.mem_of_getElem? (i := 16) (by decide +kernel), List.mem_of_getElem? (i := 281) (by decide +kernel), List.mem_of_getElem? (i := 282) (by decide +kernel)⟩
theorem lw_p1 : lw_okq (⟨"RumourBrew", "fine", "(I)I"⟩, 10) := ⟨⟨by decide +kernel, by decide +kernel⟩, List.mem_of_getElem? (i := 16) (by decide +kernel), List.mem_of_getElem? (i := 293) (by decide +kernel), List.mem_of_getElem? (i := 294) (by decide +kernel)⟩
theorem lw_p2 : lw_okq (⟨"RumourBrew$Reader", "readsLaw", "(LRumourBrew$Town;)Z"⟩, 4) := ⟨⟨by decide +kernel, by decide +kernel⟩, List.mem_of_getElem? (i := 45) (by decide +kernel), List.mem_of_getElem? (i := 354) (by decide +kernel), List.mem_of_getElem? (i := 355) (by decide +kernel)⟩
theorem lw_p3 : lw_okq (⟨"RumourBrew$Reader", "passes", "(I)Z"⟩, 4) := ⟨⟨by decide +kernel, by decide +kernel⟩, List.mem_of_getElem? (i := 45) (by decide +kernel), List.mem_of_getElem? (i := 358) (by decide +kernel), List.mem_of_getElem? (i := 359) (by decide +kernel)⟩
theorem lw_p4 : lw_okq (⟨"RumourBrew$Reader", "letter", "()I"⟩, 4) := ⟨⟨by decide +kernel, by decide +kernel⟩, List.mem_of_getElem? (i := 45) (by decide +kernel), List.mem_of_getElem? (i := 362) (by decide +kernel), List.mem_of_getElem? (i := 363) (by decide +kernel)⟩
theorem lw_p5 : lw_okq (⟨"RumourBrew$Reader", "byteAt", "(I)I"⟩, 4) := ⟨⟨by decide +kernel, by decide +kernel⟩, List.mem_of_getElem? (i := 45) (by decide +kernel), List.mem_of_getElem? (i := 366) (by decide +kernel), List.mem_of_getElem? (i := 367) (by decide +kernel)⟩
theorem lw_p6 : lw_okq (⟨"RumourBrew$Reader", "fails", "(I)Z"⟩, 4) := ⟨⟨by decide +kernel, by decide +kernel⟩, List.mem_of_getElem? (i := 45) (by decide +kernel), List.mem_of_getElem? (i := 370) (by decide +kernel), List.mem_of_getElem? (i := 371) (by decide +kernel)⟩
theorem lw_p7 : lw_okq (⟨"RumourBrew$Reader", "number", "(II)I"⟩, 4) := ⟨⟨by decide +kernel, by decide +kernel⟩, List.mem_of_getElem? (i := 45) (by decide +kernel), List.mem_of_getElem? (i := 374) (by decide +kernel), List.mem_of_getElem? (i := 375) (by decide +kernel)⟩
theorem lw_p8 : lw_okq (⟨"RumourBrew$Reader", "readsDrinker", "(LRumourBrew$Town;)Z"⟩, 4) := ⟨⟨by decide +kernel, by decide +kernel⟩, List.mem_of_getElem? (i := 45) (by decide +kernel), List.mem_of_getElem? (i := 381) (by decide +kernel), List.mem_of_getElem? (i := 382) (by decide +kernel)⟩
theorem lw_p9 : lw_okq (⟨"RumourBrew$Reader", "readsTie", "(LRumourBrew$Town;)Z"⟩, 4) := ⟨⟨by decide +kernel, by decide +kernel⟩, List.mem_of_getElem? (i := 45) (by decide +kernel), List.mem_of_getElem? (i := 392) (by decide +kernel), List.mem_of_getElem? (i := 393) (by decide +kernel)⟩
theorem lw_p10 : lw_okq (⟨"RumourBrew", "isDrinker", "(I)Z"⟩, 10) := ⟨⟨by decide +kernel, by decide +kernel⟩, List.mem_of_getElem? (i := 16) (by decide +kernel), List.mem_of_getElem? (i := 437) (by decide +kernel), List.mem_of_getElem? (i := 438) (by decide +kernel)⟩
theorem lw_p11 : lw_okq (⟨"RumourBrew", "isTownThere", "()Z"⟩, 10) := ⟨⟨by decide +kernel, by decide +kernel⟩, List.mem_of_getElem? (i := 16) (by decide +kernel), List.mem_of_getElem? (i := 466) (by decide +kernel), List.mem_of_getElem? (i := 467) (by decide +kernel)⟩
theorem lw_p12 : lw_okq (⟨"RumourBrew$Telling", "goOneStep", "(I)I"⟩, 9) := ⟨⟨by decide +kernel, by decide +kernel⟩, List.mem_of_getElem? (i := 165) (by decide +kernel), List.mem_of_getElem? (i := 530) (by decide +kernel), List.mem_of_getElem? (i := 531) (by decide +kernel)⟩
theorem lw_p13 : lw_okq (⟨"RumourBrew$Telling", "isBelieved", "(II)Z"⟩, 9) := ⟨⟨by decide +kernel, by decide +kernel⟩, List.mem_of_getElem? (i := 165) (by decide +kernel), List.mem_of_getElem? (i := 534) (by decide +kernel), List.mem_of_getElem? (i := 535) (by decide +kernel)⟩
theorem lw_p14 : lw_okq (⟨"RumourBrew$Telling", "passOn", "(II)I"⟩, 9) := ⟨⟨by decide +kernel, by decide +kernel⟩, List.mem_of_getElem? (i := 165) (by decide +kernel), List.mem_of_getElem? (i := 541) (by decide +kernel), List.mem_of_getElem? (i := 542) (by decide +kernel)⟩
theorem lw_p15 : lw_okq (⟨"RumourBrew", "areDrinkers", "(I)Z"⟩, 10) := ⟨⟨by decide +kernel, by decide +kernel⟩, List.mem_of_getElem? (i := 16) (by decide +kernel), List.mem_of_getElem? (i := 610) (by decide +kernel), List.mem_of_getElem? (i := 611) (by decide +kernel)⟩
def lw_privs_1 : List (MethodName × Nat) := [(⟨"RumourBrew", "found", "(I)I"⟩, 10), (⟨"RumourBrew", "fine", "(I)I"⟩, 10), (⟨"RumourBrew$Reader", "readsLaw", "(LRumourBrew$Town;)Z"⟩, 4), (⟨"RumourBrew$Reader", "passes", "(I)Z"⟩, 4), (⟨"RumourBrew$Reader", "letter", "()I"⟩, 4), (⟨"RumourBrew$Reader", "byteAt", "(I)I"⟩, 4), (⟨"RumourBrew$Reader", "fails", "(I)Z"⟩, 4), (⟨"RumourBrew$Reader", "number", "(II)I"⟩, 4), (⟨"RumourBrew$Reader", "readsDrinker", "(LRumourBrew$Town;)Z"⟩, 4), (⟨"RumourBrew$Reader", "readsTie", "(LRumourBrew$Town;)Z"⟩, 4), (⟨"RumourBrew", "isDrinker", "(I)Z"⟩, 10), (⟨"RumourBrew", "isTownThere", "()Z"⟩, 10), (⟨"RumourBrew$Telling", "goOneStep", "(I)I"⟩, 9), (⟨"RumourBrew$Telling", "isBelieved", "(II)Z"⟩, 9), (⟨"RumourBrew$Telling", "passOn", "(II)I"⟩, 9), (⟨"RumourBrew", "areDrinkers", "(I)Z"⟩, 10)]
theorem lw_r1 : ∀ q ∈ lw_privs_1, lw_okq q := List.forall_mem_cons.mpr ⟨lw_p0, List.forall_mem_cons.mpr ⟨lw_p1, List.forall_mem_cons.mpr ⟨lw_p2, List.forall_mem_cons.mpr ⟨lw_p3, List.forall_mem_cons.mpr ⟨lw_p4, List.forall_mem_cons.mpr ⟨lw_p5, List.forall_mem_cons.mpr ⟨lw_p6, List.forall_mem_cons.mpr ⟨lw_p7, List.forall_mem_cons.mpr ⟨lw_p8, List.forall_mem_cons.mpr ⟨lw_p9, List.forall_mem_cons.mpr ⟨lw_p10, List.forall_mem_cons.mpr ⟨lw_p11, List.forall_mem_cons.mpr ⟨lw_p12, List.forall_mem_cons.mpr ⟨lw_p13, List.forall_mem_cons.mpr ⟨lw_p14, List.forall_mem_cons.mpr ⟨lw_p15, fun _ h => absurd h List.not_mem_nil⟩⟩⟩⟩⟩⟩⟩⟩⟩⟩⟩⟩⟩⟩⟩⟩
theorem lw_p16 : lw_okq (⟨"RumourBrew", "areTwoDrinkers", "(II)Z"⟩, 10) := ⟨⟨by decide +kernel, by decide +kernel⟩, List.mem_of_getElem? (i := 16) (by decide +kernel), List.mem_of_getElem? (i := 650) (by decide +kernel), List.mem_of_getElem? (i := 651) (by decide +kernel)⟩
theorem lw_p17 : lw_okq (⟨"RumourBrew", "refusalOfTaps", "(IIII)I"⟩, 10) := ⟨⟨by decide +kernel, by decide +kernel⟩, List.mem_of_getElem? (i := 16) (by decide +kernel), List.mem_of_getElem? (i := 663) (by decide +kernel), List.mem_of_getElem? (i := 664) (by decide +kernel)⟩
theorem lw_p18 : lw_okq (⟨"RumourBrew", "tellsDrinkers", "(III)Z"⟩, 10) := ⟨⟨by decide +kernel, by decide +kernel⟩, List.mem_of_getElem? (i := 16) (by decide +kernel), List.mem_of_getElem? (i := 667) (by decide +kernel), List.mem_of_getElem? (i := 668) (by decide +kernel)⟩
theorem lw_p19 : lw_okq (⟨"RumourBrew$Foretelling", "fits", "(II[III)Z"⟩, 4) := ⟨⟨by decide +kernel, by decide +kernel⟩, List.mem_of_getElem? (i := 204) (by decide +kernel), List.mem_of_getElem? (i := 675) (by decide +kernel), List.mem_of_getElem? (i := 676) (by decide +kernel)⟩
theorem lw_p20 : lw_okq (⟨"RumourBrew$Foretelling", "weigh", "(I)V"⟩, 4) := ⟨⟨by decide +kernel, by decide +kernel⟩, List.mem_of_getElem? (i := 204) (by decide +kernel), List.mem_of_getElem? (i := 733) (by decide +kernel), List.mem_of_getElem? (i := 734) (by decide +kernel)⟩
theorem lw_p21 : lw_okq (⟨"RumourBrew$Asking", "given", "(III)I"⟩, 3) := ⟨⟨by decide +kernel, by decide +kernel⟩, List.mem_of_getElem? (i := 226) (by decide +kernel), List.mem_of_getElem? (i := 803) (by decide +kernel), List.mem_of_getElem? (i := 804) (by decide +kernel)⟩
theorem lw_p22 : lw_okq (⟨"RumourBrew$Asking", "leave", "(I)V"⟩, 3) := ⟨⟨by decide +kernel, by decide +kernel⟩, List.mem_of_getElem? (i := 226) (by decide +kernel), List.mem_of_getElem? (i := 807) (by decide +kernel), List.mem_of_getElem? (i := 808) (by decide +kernel)⟩
theorem lw_p23 : lw_okq (⟨"RumourBrewModel", "found", "(I)I"⟩, 26) := ⟨⟨by decide +kernel, by decide +kernel⟩, List.mem_of_getElem? (i := 842) (by decide +kernel), List.mem_of_getElem? (i := 941) (by decide +kernel), List.mem_of_getElem? (i := 942) (by decide +kernel)⟩
theorem lw_p24 : lw_okq (⟨"RumourBrewModel", "well", "(I)I"⟩, 26) := ⟨⟨by decide +kernel, by decide +kernel⟩, List.mem_of_getElem? (i := 842) (by decide +kernel), List.mem_of_getElem? (i := 946) (by decide +kernel), List.mem_of_getElem? (i := 947) (by decide +kernel)⟩
theorem lw_p25 : lw_okq (⟨"RumourBrewModel", "reads", "()Z"⟩, 26) := ⟨⟨by decide +kernel, by decide +kernel⟩, List.mem_of_getElem? (i := 842) (by decide +kernel), List.mem_of_getElem? (i := 972) (by decide +kernel), List.mem_of_getElem? (i := 973) (by decide +kernel)⟩
theorem lw_p26 : lw_okq (⟨"RumourBrewModel", "readsLaw", "()Z"⟩, 26) := ⟨⟨by decide +kernel, by decide +kernel⟩, List.mem_of_getElem? (i := 842) (by decide +kernel), List.mem_of_getElem? (i := 976) (by decide +kernel), List.mem_of_getElem? (i := 977) (by decide +kernel)⟩
theorem lw_p27 : lw_okq (⟨"RumourBrewModel", "next", "()V"⟩, 26) := ⟨⟨by decide +kernel, by decide +kernel⟩, List.mem_of_getElem? (i := 842) (by decide +kernel), List.mem_of_getElem? (i := 980) (by decide +kernel), List.mem_of_getElem? (i := 981) (by decide +kernel)⟩
theorem lw_p28 : lw_okq (⟨"RumourBrewModel", "fails", "(I)Z"⟩, 26) := ⟨⟨by decide +kernel, by decide +kernel⟩, List.mem_of_getElem? (i := 842) (by decide +kernel), List.mem_of_getElem? (i := 991) (by decide +kernel), List.mem_of_getElem? (i := 992) (by decide +kernel)⟩
theorem lw_p29 : lw_okq (⟨"RumourBrewModel", "number", "(III)Z"⟩, 26) := ⟨⟨by decide +kernel, by decide +kernel⟩, List.mem_of_getElem? (i := 842) (by decide +kernel), List.mem_of_getElem? (i := 995) (by decide +kernel), List.mem_of_getElem? (i := 996) (by decide +kernel)⟩
theorem lw_p30 : lw_okq (⟨"RumourBrewModel", "sign", "(I)Z"⟩, 26) := ⟨⟨by decide +kernel, by decide +kernel⟩, List.mem_of_getElem? (i := 842) (by decide +kernel), List.mem_of_getElem? (i := 999) (by decide +kernel), List.mem_of_getElem? (i := 1000) (by decide +kernel)⟩
theorem lw_p31 : lw_okq (⟨"RumourBrewModel", "readsTie", "()Z"⟩, 26) := ⟨⟨by decide +kernel, by decide +kernel⟩, List.mem_of_getElem? (i := 842) (by decide +kernel), List.mem_of_getElem? (i := 1006) (by decide +kernel), List.mem_of_getElem? (i := 1007) (by decide +kernel)⟩
def lw_privs_2 : List (MethodName × Nat) := [(⟨"RumourBrew", "areTwoDrinkers", "(II)Z"⟩, 10), (⟨"RumourBrew", "refusalOfTaps", "(IIII)I"⟩, 10), (⟨"RumourBrew", "tellsDrinkers", "(III)Z"⟩, 10), (⟨"RumourBrew$Foretelling", "fits", "(II[III)Z"⟩, 4), (⟨"RumourBrew$Foretelling", "weigh", "(I)V"⟩, 4), (⟨"RumourBrew$Asking", "given", "(III)I"⟩, 3), (⟨"RumourBrew$Asking", "leave", "(I)V"⟩, 3), (⟨"RumourBrewModel", "found", "(I)I"⟩, 26), (⟨"RumourBrewModel", "well", "(I)I"⟩, 26), (⟨"RumourBrewModel", "reads", "()Z"⟩, 26), (⟨"RumourBrewModel", "readsLaw", "()Z"⟩, 26), (⟨"RumourBrewModel", "next", "()V"⟩, 26), (⟨"RumourBrewModel", "fails", "(I)Z"⟩, 26), (⟨"RumourBrewModel", "number", "(III)Z"⟩, 26), (⟨"RumourBrewModel", "sign", "(I)Z"⟩, 26), (⟨"RumourBrewModel", "readsTie", "()Z"⟩, 26)]
theorem lw_r2 : ∀ q ∈ lw_privs_2, lw_okq q := List.forall_mem_cons.mpr ⟨lw_p16, List.forall_mem_cons.mpr ⟨lw_p17, List.forall_mem_cons.mpr ⟨lw_p18, List.forall_mem_cons.mpr ⟨lw_p19, List.forall_mem_cons.mpr ⟨lw_p20, List.forall_mem_cons.mpr ⟨lw_p21, List.forall_mem_cons.mpr ⟨lw_p22, List.forall_mem_cons.mpr ⟨lw_p23, List.forall_mem_cons.mpr ⟨lw_p24, List.forall_mem_cons.mpr ⟨lw_p25, List.forall_mem_cons.mpr ⟨lw_p26, List.forall_mem_cons.mpr ⟨lw_p27, List.forall_mem_cons.mpr ⟨lw_p28, List.forall_mem_cons.mpr ⟨lw_p29, List.forall_mem_cons.mpr ⟨lw_p30, List.forall_mem_cons.mpr ⟨lw_p31, fun _ h => absurd h List.not_mem_nil⟩⟩⟩⟩⟩⟩⟩⟩⟩⟩⟩⟩⟩⟩⟩⟩
theorem lw_p32 : lw_okq (⟨"RumourBrewModel", "readsDrinker", "(I)Z"⟩, 26) := ⟨⟨by decide +kernel, by decide +kernel⟩, List.mem_of_getElem? (i := 842) (by decide +kernel), List.mem_of_getElem? (i := 1010) (by decide +kernel), List.mem_of_getElem? (i := 1011) (by decide +kernel)⟩
theorem lw_p33 : lw_okq (⟨"RumourBrewModel", "isDrinker", "(I)Z"⟩, 26) := ⟨⟨by decide +kernel, by decide +kernel⟩, List.mem_of_getElem? (i := 842) (by decide +kernel), List.mem_of_getElem? (i := 1031) (by decide +kernel), List.mem_of_getElem? (i := 1032) (by decide +kernel)⟩
theorem lw_p34 : lw_okq (⟨"RumourBrewModel", "remember", "()V"⟩, 26) := ⟨⟨by decide +kernel, by decide +kernel⟩, List.mem_of_getElem? (i := 842) (by decide +kernel), List.mem_of_getElem? (i := 1036) (by decide +kernel), List.mem_of_getElem? (i := 1037) (by decide +kernel)⟩
theorem lw_p35 : lw_okq (⟨"RumourBrewModel", "isOff", "(I)Z"⟩, 26) := ⟨⟨by decide +kernel, by decide +kernel⟩, List.mem_of_getElem? (i := 842) (by decide +kernel), List.mem_of_getElem? (i := 1048) (by decide +kernel), List.mem_of_getElem? (i := 1049) (by decide +kernel)⟩
theorem lw_p36 : lw_okq (⟨"RumourBrewModel", "taps", "([III)I"⟩, 26) := ⟨⟨by decide +kernel, by decide +kernel⟩, List.mem_of_getElem? (i := 842) (by decide +kernel), List.mem_of_getElem? (i := 1060) (by decide +kernel), List.mem_of_getElem? (i := 1061) (by decide +kernel)⟩
theorem lw_p37 : lw_okq (⟨"RumourBrewModel", "tellsCask", "([IIII)V"⟩, 26) := ⟨⟨by decide +kernel, by decide +kernel⟩, List.mem_of_getElem? (i := 842) (by decide +kernel), List.mem_of_getElem? (i := 1064) (by decide +kernel), List.mem_of_getElem? (i := 1065) (by decide +kernel)⟩
theorem lw_p38 : lw_okq (⟨"RumourBrewModel", "tells", "([IIIII)V"⟩, 26) := ⟨⟨by decide +kernel, by decide +kernel⟩, List.mem_of_getElem? (i := 842) (by decide +kernel), List.mem_of_getElem? (i := 1074) (by decide +kernel), List.mem_of_getElem? (i := 1075) (by decide +kernel)⟩
theorem lw_p39 : lw_okq (⟨"RumourBrewModel", "passesOn", "([IIII)V"⟩, 26) := ⟨⟨by decide +kernel, by decide +kernel⟩, List.mem_of_getElem? (i := 842) (by decide +kernel), List.mem_of_getElem? (i := 1087) (by decide +kernel), List.mem_of_getElem? (i := 1088) (by decide +kernel)⟩
theorem lw_p40 : lw_okq (⟨"RumourBrewModel", "brings", "(II)V"⟩, 26) := ⟨⟨by decide +kernel, by decide +kernel⟩, List.mem_of_getElem? (i := 842) (by decide +kernel), List.mem_of_getElem? (i := 1091) (by decide +kernel), List.mem_of_getElem? (i := 1092) (by decide +kernel)⟩
theorem lw_p41 : lw_okq (⟨"RumourBrewModel", "areDrinkers", "(I)Z"⟩, 26) := ⟨⟨by decide +kernel, by decide +kernel⟩, List.mem_of_getElem? (i := 842) (by decide +kernel), List.mem_of_getElem? (i := 1130) (by decide +kernel), List.mem_of_getElem? (i := 1131) (by decide +kernel)⟩
theorem lw_p42 : lw_okq (⟨"RumourBrewModel", "reached", "()I"⟩, 26) := ⟨⟨by decide +kernel, by decide +kernel⟩, List.mem_of_getElem? (i := 842) (by decide +kernel), List.mem_of_getElem? (i := 1134) (by decide +kernel), List.mem_of_getElem? (i := 1135) (by decide +kernel)⟩
theorem lw_p43 : lw_okq (⟨"RumourBrewModel", "twos", "(IIII)I"⟩, 26) := ⟨⟨by decide +kernel, by decide +kernel⟩, List.mem_of_getElem? (i := 842) (by decide +kernel), List.mem_of_getElem? (i := 1156) (by decide +kernel), List.mem_of_getElem? (i := 1157) (by decide +kernel)⟩
theorem lw_p44 : lw_okq (⟨"RumourBrewModel", "comesSo", "(III)Z"⟩, 26) := ⟨⟨by decide +kernel, by decide +kernel⟩, List.mem_of_getElem? (i := 842) (by decide +kernel), List.mem_of_getElem? (i := 1161) (by decide +kernel), List.mem_of_getElem? (i := 1162) (by decide +kernel)⟩
theorem lw_p45 : lw_okq (⟨"RumourBrewModel", "mark", "(I)I"⟩, 26) := ⟨⟨by decide +kernel, by decide +kernel⟩, List.mem_of_getElem? (i := 842) (by decide +kernel), List.mem_of_getElem? (i := 1223) (by decide +kernel), List.mem_of_getElem? (i := 1224) (by decide +kernel)⟩
theorem lw_p46 : lw_okq (⟨"RumourBrewModel", "leave", "(J)V"⟩, 26) := ⟨⟨by decide +kernel, by decide +kernel⟩, List.mem_of_getElem? (i := 842) (by decide +kernel), List.mem_of_getElem? (i := 1230) (by decide +kernel), List.mem_of_getElem? (i := 1231) (by decide +kernel)⟩
theorem lw_p47 : lw_okq (⟨"RumourBrewModel", "sizeOf", "(I)I"⟩, 26) := ⟨⟨by decide +kernel, by decide +kernel⟩, List.mem_of_getElem? (i := 842) (by decide +kernel), List.mem_of_getElem? (i := 1237) (by decide +kernel), List.mem_of_getElem? (i := 1238) (by decide +kernel)⟩
def lw_privs_3 : List (MethodName × Nat) := [(⟨"RumourBrewModel", "readsDrinker", "(I)Z"⟩, 26), (⟨"RumourBrewModel", "isDrinker", "(I)Z"⟩, 26), (⟨"RumourBrewModel", "remember", "()V"⟩, 26), (⟨"RumourBrewModel", "isOff", "(I)Z"⟩, 26), (⟨"RumourBrewModel", "taps", "([III)I"⟩, 26), (⟨"RumourBrewModel", "tellsCask", "([IIII)V"⟩, 26), (⟨"RumourBrewModel", "tells", "([IIIII)V"⟩, 26), (⟨"RumourBrewModel", "passesOn", "([IIII)V"⟩, 26), (⟨"RumourBrewModel", "brings", "(II)V"⟩, 26), (⟨"RumourBrewModel", "areDrinkers", "(I)Z"⟩, 26), (⟨"RumourBrewModel", "reached", "()I"⟩, 26), (⟨"RumourBrewModel", "twos", "(IIII)I"⟩, 26), (⟨"RumourBrewModel", "comesSo", "(III)Z"⟩, 26), (⟨"RumourBrewModel", "mark", "(I)I"⟩, 26), (⟨"RumourBrewModel", "leave", "(J)V"⟩, 26), (⟨"RumourBrewModel", "sizeOf", "(I)I"⟩, 26)]
theorem lw_r3 : ∀ q ∈ lw_privs_3, lw_okq q := List.forall_mem_cons.mpr ⟨lw_p32, List.forall_mem_cons.mpr ⟨lw_p33, List.forall_mem_cons.mpr ⟨lw_p34, List.forall_mem_cons.mpr ⟨lw_p35, List.forall_mem_cons.mpr ⟨lw_p36, List.forall_mem_cons.mpr ⟨lw_p37, List.forall_mem_cons.mpr ⟨lw_p38, List.forall_mem_cons.mpr ⟨lw_p39, List.forall_mem_cons.mpr ⟨lw_p40, List.forall_mem_cons.mpr ⟨lw_p41, List.forall_mem_cons.mpr ⟨lw_p42, List.forall_mem_cons.mpr ⟨lw_p43, List.forall_mem_cons.mpr ⟨lw_p44, List.forall_mem_cons.mpr ⟨lw_p45, List.forall_mem_cons.mpr ⟨lw_p46, List.forall_mem_cons.mpr ⟨lw_p47, fun _ h => absurd h List.not_mem_nil⟩⟩⟩⟩⟩⟩⟩⟩⟩⟩⟩⟩⟩⟩⟩⟩
def lw_privs : List (MethodName × Nat) := lw_privs_1 ++ (lw_privs_2 ++ (lw_privs_3))
def lw_tbl : List Cond := k2_sels lw_privs ++ tables_1
theorem lw_privs_ok : ∀ q ∈ lw_privs, lw_okq q := by
  show ∀ q ∈ lw_privs_1 ++ (lw_privs_2 ++ (lw_privs_3)), lw_okq q
  exact List.forall_mem_append.mpr ⟨lw_r1, List.forall_mem_append.mpr ⟨lw_r2, lw_r3⟩⟩
end
section
def RX0 : String := "RumourBrew$Acts"
def TX0 : u_T := fun k => match k with
  | 0 => ("RumourBrew$Acts", "before", "[[I", true)
  | 1 => ("RumourBrew$Acts", "next", "I", false)
  | _ => ("RumourBrew$Acts", "kept", "I", false)
def tyX0 : Nat → FieldType := fun k => match k with
  | 0 => .array (.array .int)
  | 1 => .int
  | _ => .int
theorem nmX0 : ∀ a, a < 3 → ∀ b, b < 3 → a ≠ b → (TX0 a).2.1 ≠ (TX0 b).2.1 := by decide +kernel
theorem tyX0_ok : ∀ k, k < 3 → parseFieldDescriptor (TX0 k).2.2.1 = some (tyX0 k) := by decide +kernel
abbrev cX0_init : ByteArray := prog_2_method_1_code
def yX0_init : MethodName := ⟨RX0, "<init>", "()V"⟩
abbrev cX0_forget : ByteArray := prog_2_method_2_code
def yX0_forget : MethodName := ⟨RX0, "forget", "()V"⟩
abbrev cX0_keep : ByteArray := prog_2_method_3_code
def yX0_keep : MethodName := ⟨RX0, "keep", "(LRumourBrew$Cellar;)V"⟩
abbrev cX0_takeBack : ByteArray := prog_2_method_4_code
def yX0_takeBack : MethodName := ⟨RX0, "takeBack", "(LRumourBrew$Cellar;)V"⟩
def RX1 : String := "RumourBrew$Asking"
def TX1 : u_T := fun k => match k with
  | 0 => ("RumourBrew$Asking", "town", "LRumourBrew$Town;", true)
  | 1 => ("RumourBrew$Asking", "trace", "[I", true)
  | _ => ("RumourBrew$Asking", "length", "I", false)
def tyX1 : Nat → FieldType := fun k => match k with
  | 0 => .object "RumourBrew$Town"
  | 1 => .array .int
  | _ => .int
theorem nmX1 : ∀ a, a < 3 → ∀ b, b < 3 → a ≠ b → (TX1 a).2.1 ≠ (TX1 b).2.1 := by decide +kernel
theorem tyX1_ok : ∀ k, k < 3 → parseFieldDescriptor (TX1 k).2.2.1 = some (tyX1 k) := by decide +kernel
abbrev cX1_init : ByteArray := prog_3_method_1_code
def yX1_init : MethodName := ⟨RX1, "<init>", "(LRumourBrew$Town;)V"⟩
abbrev cX1_sizeOf : ByteArray := prog_3_method_2_code
def yX1_sizeOf : MethodName := ⟨RX1, "sizeOf", "(I)I"⟩
abbrev cX1_markOf : ByteArray := prog_3_method_3_code
def yX1_markOf : MethodName := ⟨RX1, "markOf", "(I)I"⟩
abbrev cX1_traced : ByteArray := prog_3_method_4_code
def yX1_traced : MethodName := ⟨RX1, "traced", "(I)I"⟩
abbrev cX1_leave : ByteArray := prog_3_method_5_code
def yX1_leave : MethodName := ⟨RX1, "leave", "(I)V"⟩
abbrev cX1_given : ByteArray := prog_3_method_6_code
def yX1_given : MethodName := ⟨RX1, "given", "(III)I"⟩
def RX2 : String := "RumourBrew$Cellar"
def TX2 : u_T := fun k => match k with
  | _ => ("RumourBrew$Cellar", "state", "[I", true)
def tyX2 : Nat → FieldType := fun k => match k with
  | _ => .array .int
theorem nmX2 : ∀ a, a < 1 → ∀ b, b < 1 → a ≠ b → (TX2 a).2.1 ≠ (TX2 b).2.1 := by decide +kernel
theorem tyX2_ok : ∀ k, k < 1 → parseFieldDescriptor (TX2 k).2.2.1 = some (tyX2 k) := by decide +kernel
abbrev cX2_init : ByteArray := prog_4_method_1_code
def yX2_init : MethodName := ⟨RX2, "<init>", "()V"⟩
abbrev cX2_empty : ByteArray := prog_4_method_2_code
def yX2_empty : MethodName := ⟨RX2, "empty", "()V"⟩
abbrev cX2_become : ByteArray := prog_4_method_3_code
def yX2_become : MethodName := ⟨RX2, "become", "(LRumourBrew$Cellar;)V"⟩
abbrev cX2_today : ByteArray := prog_4_method_4_code
def yX2_today : MethodName := ⟨RX2, "today", "()I"⟩
abbrev cX2_isMissing : ByteArray := prog_4_method_5_code
def yX2_isMissing : MethodName := ⟨RX2, "isMissing", "(I)Z"⟩
abbrev cX2_whomOf : ByteArray := prog_4_method_6_code
def yX2_whomOf : MethodName := ⟨RX2, "whomOf", "(I)I"⟩
abbrev cX2_maltOf : ByteArray := prog_4_method_7_code
def yX2_maltOf : MethodName := ⟨RX2, "maltOf", "(I)I"⟩
abbrev cX2_ageOf : ByteArray := prog_4_method_8_code
def yX2_ageOf : MethodName := ⟨RX2, "ageOf", "(I)I"⟩
abbrev cX2_notesOf : ByteArray := prog_4_method_9_code
def yX2_notesOf : MethodName := ⟨RX2, "notesOf", "(I)I"⟩
abbrev cX2_maltOfBoth : ByteArray := prog_4_method_10_code
def yX2_maltOfBoth : MethodName := ⟨RX2, "maltOfBoth", "(II)I"⟩
abbrev cX2_fill : ByteArray := prog_4_method_11_code
def yX2_fill : MethodName := ⟨RX2, "fill", "(III)V"⟩
abbrev cX2_setMalt : ByteArray := prog_4_method_12_code
def yX2_setMalt : MethodName := ⟨RX2, "setMalt", "(II)V"⟩
abbrev cX2_lose : ByteArray := prog_4_method_13_code
def yX2_lose : MethodName := ⟨RX2, "lose", "(I)V"⟩
abbrev cX2_note : ByteArray := prog_4_method_14_code
def yX2_note : MethodName := ⟨RX2, "note", "(II)V"⟩
abbrev cX2_passDay : ByteArray := prog_4_method_15_code
def yX2_passDay : MethodName := ⟨RX2, "passDay", "()V"⟩
abbrev cX2_leastMissing : ByteArray := prog_4_method_16_code
def yX2_leastMissing : MethodName := ⟨RX2, "leastMissing", "()I"⟩
abbrev cX2_howMany : ByteArray := prog_4_method_17_code
def yX2_howMany : MethodName := ⟨RX2, "howMany", "()I"⟩
abbrev cX2_allMalt : ByteArray := prog_4_method_18_code
def yX2_allMalt : MethodName := ⟨RX2, "allMalt", "()I"⟩
abbrev cX2_allNotes : ByteArray := prog_4_method_19_code
def yX2_allNotes : MethodName := ⟨RX2, "allNotes", "()I"⟩
def RX3 : String := "RumourBrew$Foretelling"
def TX3 : u_T := fun k => match k with
  | 0 => ("RumourBrew$Foretelling", "town", "LRumourBrew$Town;", true)
  | 1 => ("RumourBrew$Foretelling", "saying", "LRumourBrew$Telling;", true)
  | 2 => ("RumourBrew$Foretelling", "week", "LRumourBrew$Cellar;", true)
  | _ => ("RumourBrew$Foretelling", "weights", "[J", true)
def tyX3 : Nat → FieldType := fun k => match k with
  | 0 => .object "RumourBrew$Town"
  | 1 => .object "RumourBrew$Telling"
  | 2 => .object "RumourBrew$Cellar"
  | _ => .array .long
theorem nmX3 : ∀ a, a < 4 → ∀ b, b < 4 → a ≠ b → (TX3 a).2.1 ≠ (TX3 b).2.1 := by decide +kernel
theorem tyX3_ok : ∀ k, k < 4 → parseFieldDescriptor (TX3 k).2.2.1 = some (tyX3 k) := by decide +kernel
abbrev cX3_init : ByteArray := prog_5_method_1_code
def yX3_init : MethodName := ⟨RX3, "<init>", "(LRumourBrew$Town;LRumourBrew$Telling;)V"⟩
abbrev cX3_fewestTold : ByteArray := prog_5_method_2_code
def yX3_fewestTold : MethodName := ⟨RX3, "fewestTold", "(III)I"⟩
abbrev cX3_fewestWithout : ByteArray := prog_5_method_3_code
def yX3_fewestWithout : MethodName := ⟨RX3, "fewestWithout", "(III)I"⟩
abbrev cX3_fittingMalts : ByteArray := prog_5_method_4_code
def yX3_fittingMalts : MethodName := ⟨RX3, "fittingMalts", "(I[III)I"⟩
abbrev cX3_fittingKinds : ByteArray := prog_5_method_5_code
def yX3_fittingKinds : MethodName := ⟨RX3, "fittingKinds", "(II[III)I"⟩
abbrev cX3_fits : ByteArray := prog_5_method_6_code
def yX3_fits : MethodName := ⟨RX3, "fits", "(II[III)Z"⟩
abbrev cX3_bestTap : ByteArray := prog_5_method_7_code
def yX3_bestTap : MethodName := ⟨RX3, "bestTap", "(I)I"⟩
abbrev cX3_believersAt : ByteArray := prog_5_method_8_code
def yX3_believersAt : MethodName := ⟨RX3, "believersAt", "(II)I"⟩
abbrev cX3_believersOfBlend : ByteArray := prog_5_method_9_code
def yX3_believersOfBlend : MethodName := ⟨RX3, "believersOfBlend", "(III)I"⟩
abbrev cX3_casesOfBelief : ByteArray := prog_5_method_10_code
def yX3_casesOfBelief : MethodName := ⟨RX3, "casesOfBelief", "(IIII)J"⟩
abbrev cX3_weigh : ByteArray := prog_5_method_11_code
def yX3_weigh : MethodName := ⟨RX3, "weigh", "(I)V"⟩
abbrev cX3_cellarAfterWeek : ByteArray := prog_5_method_12_code
def yX3_cellarAfterWeek : MethodName := ⟨RX3, "cellarAfterWeek", "(II)LRumourBrew$Cellar;"⟩
def RX4 : String := "RumourBrew$Reader"
def TX4 : u_T := fun k => match k with
  | 0 => ("RumourBrew$Reader", "tape", "[I", true)
  | 1 => ("RumourBrew$Reader", "length", "I", false)
  | 2 => ("RumourBrew$Reader", "at", "I", false)
  | _ => ("RumourBrew$Reader", "latestFault", "I", false)
def tyX4 : Nat → FieldType := fun k => match k with
  | 0 => .array .int
  | 1 => .int
  | 2 => .int
  | _ => .int
theorem nmX4 : ∀ a, a < 4 → ∀ b, b < 4 → a ≠ b → (TX4 a).2.1 ≠ (TX4 b).2.1 := by decide +kernel
theorem tyX4_ok : ∀ k, k < 4 → parseFieldDescriptor (TX4 k).2.2.1 = some (tyX4 k) := by decide +kernel
abbrev cX4_init : ByteArray := prog_6_method_1_code
def yX4_init : MethodName := ⟨RX4, "<init>", "()V"⟩
abbrev cX4_append : ByteArray := prog_6_method_2_code
def yX4_append : MethodName := ⟨RX4, "append", "(I)I"⟩
abbrev cX4_reads : ByteArray := prog_6_method_3_code
def yX4_reads : MethodName := ⟨RX4, "reads", "(LRumourBrew$Town;)Z"⟩
abbrev cX4_readsLaw : ByteArray := prog_6_method_4_code
def yX4_readsLaw : MethodName := ⟨RX4, "readsLaw", "(LRumourBrew$Town;)Z"⟩
abbrev cX4_readsDrinker : ByteArray := prog_6_method_5_code
def yX4_readsDrinker : MethodName := ⟨RX4, "readsDrinker", "(LRumourBrew$Town;)Z"⟩
abbrev cX4_readsTie : ByteArray := prog_6_method_6_code
def yX4_readsTie : MethodName := ⟨RX4, "readsTie", "(LRumourBrew$Town;)Z"⟩
abbrev cX4_fails : ByteArray := prog_6_method_7_code
def yX4_fails : MethodName := ⟨RX4, "fails", "(I)Z"⟩
abbrev cX4_letter : ByteArray := prog_6_method_8_code
def yX4_letter : MethodName := ⟨RX4, "letter", "()I"⟩
abbrev cX4_byteAt : ByteArray := prog_6_method_9_code
def yX4_byteAt : MethodName := ⟨RX4, "byteAt", "(I)I"⟩
abbrev cX4_passes : ByteArray := prog_6_method_10_code
def yX4_passes : MethodName := ⟨RX4, "passes", "(I)Z"⟩
abbrev cX4_number : ByteArray := prog_6_method_11_code
def yX4_number : MethodName := ⟨RX4, "number", "(II)I"⟩
abbrev cX4_isFigure : ByteArray := prog_6_method_12_code
def yX4_isFigure : MethodName := ⟨RX4, "isFigure", "(I)Z"⟩
abbrev cX4_sortOf : ByteArray := prog_6_method_13_code
def yX4_sortOf : MethodName := ⟨RX4, "sortOf", "(I)I"⟩
def RX5 : String := "RumourBrew$Rows"
def TX5 : u_T := fun k => match k with
  | 0 => ("RumourBrew$Rows", "items", "[[I", true)
  | 1 => ("RumourBrew$Rows", "lanes", "[I", true)
  | _ => ("RumourBrew$Rows", "sizes", "[I", true)
def tyX5 : Nat → FieldType := fun k => match k with
  | 0 => .array (.array .int)
  | 1 => .array .int
  | _ => .array .int
theorem nmX5 : ∀ a, a < 3 → ∀ b, b < 3 → a ≠ b → (TX5 a).2.1 ≠ (TX5 b).2.1 := by decide +kernel
theorem tyX5_ok : ∀ k, k < 3 → parseFieldDescriptor (TX5 k).2.2.1 = some (tyX5 k) := by decide +kernel
abbrev cX5_init : ByteArray := prog_7_method_1_code
def yX5_init : MethodName := ⟨RX5, "<init>", "()V"⟩
abbrev cX5_isMissing : ByteArray := prog_7_method_2_code
def yX5_isMissing : MethodName := ⟨RX5, "isMissing", "(I)Z"⟩
abbrev cX5_holds : ByteArray := prog_7_method_3_code
def yX5_holds : MethodName := ⟨RX5, "holds", "(III)Z"⟩
abbrev cX5_make : ByteArray := prog_7_method_4_code
def yX5_make : MethodName := ⟨RX5, "make", "(III)V"⟩
abbrev cX5_put : ByteArray := prog_7_method_5_code
def yX5_put : MethodName := ⟨RX5, "put", "(III)I"⟩
abbrev cX5_lose : ByteArray := prog_7_method_6_code
def yX5_lose : MethodName := ⟨RX5, "lose", "(I)I"⟩
abbrev cX5_howMany : ByteArray := prog_7_method_7_code
def yX5_howMany : MethodName := ⟨RX5, "howMany", "()I"⟩
def RX6 : String := "RumourBrew$Telling"
def TX6 : u_T := fun k => match k with
  | 0 => ("RumourBrew$Telling", "town", "LRumourBrew$Town;", true)
  | 1 => ("RumourBrew$Telling", "kinds", "[I", true)
  | 2 => ("RumourBrew$Telling", "tells", "[I", true)
  | 3 => ("RumourBrew$Telling", "now", "[I", false)
  | 4 => ("RumourBrew$Telling", "next", "[I", false)
  | 5 => ("RumourBrew$Telling", "whom", "I", false)
  | 6 => ("RumourBrew$Telling", "believers", "I", false)
  | 7 => ("RumourBrew$Telling", "reached", "I", false)
  | _ => ("RumourBrew$Telling", "steps", "I", false)
def tyX6 : Nat → FieldType := fun k => match k with
  | 0 => .object "RumourBrew$Town"
  | 1 => .array .int
  | 2 => .array .int
  | 3 => .array .int
  | 4 => .array .int
  | 5 => .int
  | 6 => .int
  | 7 => .int
  | _ => .int
theorem nmX6 : ∀ a, a < 9 → ∀ b, b < 9 → a ≠ b → (TX6 a).2.1 ≠ (TX6 b).2.1 := by decide +kernel
theorem tyX6_ok : ∀ k, k < 9 → parseFieldDescriptor (TX6 k).2.2.1 = some (tyX6 k) := by decide +kernel
abbrev cX6_init : ByteArray := prog_8_method_1_code
def yX6_init : MethodName := ⟨RX6, "<init>", "(LRumourBrew$Town;)V"⟩
abbrev cX6_beAsTold : ByteArray := prog_8_method_2_code
def yX6_beAsTold : MethodName := ⟨RX6, "beAsTold", "()V"⟩
abbrev cX6_leaveOut : ByteArray := prog_8_method_3_code
def yX6_leaveOut : MethodName := ⟨RX6, "leaveOut", "(I)V"⟩
abbrev cX6_takeAs : ByteArray := prog_8_method_4_code
def yX6_takeAs : MethodName := ⟨RX6, "takeAs", "(II)V"⟩
abbrev cX6_tapIn : ByteArray := prog_8_method_5_code
def yX6_tapIn : MethodName := ⟨RX6, "tapIn", "(LRumourBrew$Cellar;II)I"⟩
abbrev cX6_spreadCask : ByteArray := prog_8_method_6_code
def yX6_spreadCask : MethodName := ⟨RX6, "spreadCask", "(II)V"⟩
abbrev cX6_spread : ByteArray := prog_8_method_7_code
def yX6_spread : MethodName := ⟨RX6, "spread", "(III)V"⟩
abbrev cX6_goOneStep : ByteArray := prog_8_method_8_code
def yX6_goOneStep : MethodName := ⟨RX6, "goOneStep", "(I)I"⟩
abbrev cX6_isBelieved : ByteArray := prog_8_method_9_code
def yX6_isBelieved : MethodName := ⟨RX6, "isBelieved", "(II)Z"⟩
abbrev cX6_passedOn : ByteArray := prog_8_method_10_code
def yX6_passedOn : MethodName := ⟨RX6, "passedOn", "(IIZ)I"⟩
abbrev cX6_passOn : ByteArray := prog_8_method_11_code
def yX6_passOn : MethodName := ⟨RX6, "passOn", "(II)I"⟩
def RX7 : String := "RumourBrew$Town"
def TX7 : u_T := fun k => match k with
  | 0 => ("RumourBrew$Town", "oak", "I", false)
  | 1 => ("RumourBrew$Town", "keeps", "I", false)
  | 2 => ("RumourBrew$Town", "excise", "I", false)
  | 3 => ("RumourBrew$Town", "drinkers", "I", false)
  | 4 => ("RumourBrew$Town", "kinds", "[I", true)
  | 5 => ("RumourBrew$Town", "doubts", "[I", true)
  | 6 => ("RumourBrew$Town", "dislikes", "[I", true)
  | 7 => ("RumourBrew$Town", "ties", "I", false)
  | 8 => ("RumourBrew$Town", "tellers", "[I", true)
  | 9 => ("RumourBrew$Town", "hearers", "[I", true)
  | _ => ("RumourBrew$Town", "cellar", "LRumourBrew$Cellar;", true)
def tyX7 : Nat → FieldType := fun k => match k with
  | 0 => .int
  | 1 => .int
  | 2 => .int
  | 3 => .int
  | 4 => .array .int
  | 5 => .array .int
  | 6 => .array .int
  | 7 => .int
  | 8 => .array .int
  | 9 => .array .int
  | _ => .object "RumourBrew$Cellar"
theorem nmX7 : ∀ a, a < 11 → ∀ b, b < 11 → a ≠ b → (TX7 a).2.1 ≠ (TX7 b).2.1 := by decide +kernel
theorem tyX7_ok : ∀ k, k < 11 → parseFieldDescriptor (TX7 k).2.2.1 = some (tyX7 k) := by decide +kernel
abbrev cX7_init : ByteArray := prog_9_method_1_code
def yX7_init : MethodName := ⟨RX7, "<init>", "()V"⟩
abbrev cX7_empty : ByteArray := prog_9_method_2_code
def yX7_empty : MethodName := ⟨RX7, "empty", "()V"⟩
abbrev cX7_become : ByteArray := prog_9_method_3_code
def yX7_become : MethodName := ⟨RX7, "become", "(LRumourBrew$Town;)V"⟩
abbrev cX7_addDrinker : ByteArray := prog_9_method_4_code
def yX7_addDrinker : MethodName := ⟨RX7, "addDrinker", "(III)V"⟩
abbrev cX7_addTie : ByteArray := prog_9_method_5_code
def yX7_addTie : MethodName := ⟨RX7, "addTie", "(II)V"⟩
abbrev cX7_everybody : ByteArray := prog_9_method_6_code
def yX7_everybody : MethodName := ⟨RX7, "everybody", "()I"⟩
abbrev cX7_hearersOf : ByteArray := prog_9_method_7_code
def yX7_hearersOf : MethodName := ⟨RX7, "hearersOf", "(I)I"⟩
abbrev cX7_isOff : ByteArray := prog_9_method_8_code
def yX7_isOff : MethodName := ⟨RX7, "isOff", "(I)Z"⟩
abbrev cX7_strong : ByteArray := prog_9_method_9_code
def yX7_strong : MethodName := ⟨RX7, "strong", "(II)I"⟩
abbrev cX7_strongOf : ByteArray := prog_9_method_10_code
def yX7_strongOf : MethodName := ⟨RX7, "strongOf", "(I)I"⟩
abbrev cX7_casksOff : ByteArray := prog_9_method_11_code
def yX7_casksOff : MethodName := ⟨RX7, "casksOff", "()I"⟩
def RX8 : String := "RumourBrew"
def TX8 : u_T := fun k => match k with
  | 0 => ("RumourBrew", "rows", "LRumourBrew$Rows;", true)
  | 1 => ("RumourBrew", "reader", "LRumourBrew$Reader;", true)
  | 2 => ("RumourBrew", "town", "LRumourBrew$Town;", true)
  | 3 => ("RumourBrew", "townRead", "LRumourBrew$Town;", true)
  | 4 => ("RumourBrew", "images", "[LRumourBrew$Town;", true)
  | 5 => ("RumourBrew", "acts", "LRumourBrew$Acts;", true)
  | 6 => ("RumourBrew", "saying", "LRumourBrew$Telling;", true)
  | 7 => ("RumourBrew", "foretelling", "LRumourBrew$Foretelling;", true)
  | 8 => ("RumourBrew", "asking", "LRumourBrew$Asking;", true)
  | _ => ("RumourBrew", "latestFinding", "I", false)
def tyX8 : Nat → FieldType := fun k => match k with
  | 0 => .object "RumourBrew$Rows"
  | 1 => .object "RumourBrew$Reader"
  | 2 => .object "RumourBrew$Town"
  | 3 => .object "RumourBrew$Town"
  | 4 => .array (.object "RumourBrew$Town")
  | 5 => .object "RumourBrew$Acts"
  | 6 => .object "RumourBrew$Telling"
  | 7 => .object "RumourBrew$Foretelling"
  | 8 => .object "RumourBrew$Asking"
  | _ => .int
theorem nmX8 : ∀ a, a < 10 → ∀ b, b < 10 → a ≠ b → (TX8 a).2.1 ≠ (TX8 b).2.1 := by decide +kernel
theorem tyX8_ok : ∀ k, k < 10 → parseFieldDescriptor (TX8 k).2.2.1 = some (tyX8 k) := by decide +kernel
abbrev cX8_init : ByteArray := prog_1_method_1_code
def yX8_init : MethodName := ⟨RX8, "<init>", "()V"⟩
abbrev cX8_row : ByteArray := prog_1_method_2_code
def yX8_row : MethodName := ⟨RX8, "row", "(III)I"⟩
abbrev cX8_set : ByteArray := prog_1_method_3_code
def yX8_set : MethodName := ⟨RX8, "set", "(III)I"⟩
abbrev cX8_copy : ByteArray := prog_1_method_4_code
def yX8_copy : MethodName := ⟨RX8, "copy", "(IIIII)I"⟩
abbrev cX8_drop : ByteArray := prog_1_method_5_code
def yX8_drop : MethodName := ⟨RX8, "drop", "(I)I"⟩
abbrev cX8_feed : ByteArray := prog_1_method_6_code
def yX8_feed : MethodName := ⟨RX8, "feed", "(I)I"⟩
abbrev cX8_town : ByteArray := prog_1_method_7_code
def yX8_town : MethodName := ⟨RX8, "town", "()I"⟩
abbrev cX8_fault : ByteArray := prog_1_method_8_code
def yX8_fault : MethodName := ⟨RX8, "fault", "()I"⟩
abbrev cX8_undo : ByteArray := prog_1_method_9_code
def yX8_undo : MethodName := ⟨RX8, "undo", "()I"⟩
abbrev cX8_brew : ByteArray := prog_1_method_10_code
def yX8_brew : MethodName := ⟨RX8, "brew", "(II)I"⟩
abbrev cX8_days : ByteArray := prog_1_method_11_code
def yX8_days : MethodName := ⟨RX8, "days", "(I)I"⟩
abbrev cX8_tap : ByteArray := prog_1_method_12_code
def yX8_tap : MethodName := ⟨RX8, "tap", "(II)I"⟩
abbrev cX8_water : ByteArray := prog_1_method_13_code
def yX8_water : MethodName := ⟨RX8, "water", "(I)I"⟩
abbrev cX8_blend : ByteArray := prog_1_method_14_code
def yX8_blend : MethodName := ⟨RX8, "blend", "(II)I"⟩
abbrev cX8_cask : ByteArray := prog_1_method_15_code
def yX8_cask : MethodName := ⟨RX8, "cask", "(II)I"⟩
abbrev cX8_drinker : ByteArray := prog_1_method_16_code
def yX8_drinker : MethodName := ⟨RX8, "drinker", "(II)I"⟩
abbrev cX8_rumour : ByteArray := prog_1_method_17_code
def yX8_rumour : MethodName := ⟨RX8, "rumour", "(I)I"⟩
abbrev cX8_telling : ByteArray := prog_1_method_18_code
def yX8_telling : MethodName := ⟨RX8, "telling", "(III)I"⟩
abbrev cX8_fewest : ByteArray := prog_1_method_19_code
def yX8_fewest : MethodName := ⟨RX8, "fewest", "(IIII)I"⟩
abbrev cX8_silence : ByteArray := prog_1_method_20_code
def yX8_silence : MethodName := ⟨RX8, "silence", "(IIII)I"⟩
abbrev cX8_malts : ByteArray := prog_1_method_21_code
def yX8_malts : MethodName := ⟨RX8, "malts", "(IIII)I"⟩
abbrev cX8_who : ByteArray := prog_1_method_22_code
def yX8_who : MethodName := ⟨RX8, "who", "(IIIII)I"⟩
abbrev cX8_goesOff : ByteArray := prog_1_method_23_code
def yX8_goesOff : MethodName := ⟨RX8, "goesOff", "(II)I"⟩
abbrev cX8_best : ByteArray := prog_1_method_24_code
def yX8_best : MethodName := ⟨RX8, "best", "(II)I"⟩
abbrev cX8_blended : ByteArray := prog_1_method_25_code
def yX8_blended : MethodName := ⟨RX8, "blended", "(III)I"⟩
abbrev cX8_silent : ByteArray := prog_1_method_26_code
def yX8_silent : MethodName := ⟨RX8, "silent", "(IIIII)J"⟩
abbrev cX8_drawn : ByteArray := prog_1_method_27_code
def yX8_drawn : MethodName := ⟨RX8, "drawn", "(III)I"⟩
abbrev cX8_image : ByteArray := prog_1_method_28_code
def yX8_image : MethodName := ⟨RX8, "image", "(I)I"⟩
abbrev cX8_restore : ByteArray := prog_1_method_29_code
def yX8_restore : MethodName := ⟨RX8, "restore", "(I)I"⟩
abbrev cX8_kind : ByteArray := prog_1_method_30_code
def yX8_kind : MethodName := ⟨RX8, "kind", "(I)I"⟩
abbrev cX8_as : ByteArray := prog_1_method_31_code
def yX8_as : MethodName := ⟨RX8, "as", "(II)I"⟩
abbrev cX8_ask : ByteArray := prog_1_method_32_code
def yX8_ask : MethodName := ⟨RX8, "ask", "(II)I"⟩
abbrev cX8_trace : ByteArray := prog_1_method_33_code
def yX8_trace : MethodName := ⟨RX8, "trace", "(I)I"⟩
abbrev cX8_count : ByteArray := prog_1_method_34_code
def yX8_count : MethodName := ⟨RX8, "count", "(I)I"⟩
abbrev cX8_status : ByteArray := prog_1_method_35_code
def yX8_status : MethodName := ⟨RX8, "status", "()I"⟩
abbrev cX8_found : ByteArray := prog_1_method_36_code
def yX8_found : MethodName := ⟨RX8, "found", "(I)I"⟩
abbrev cX8_fine : ByteArray := prog_1_method_37_code
def yX8_fine : MethodName := ⟨RX8, "fine", "(I)I"⟩
abbrev cX8_isTownThere : ByteArray := prog_1_method_38_code
def yX8_isTownThere : MethodName := ⟨RX8, "isTownThere", "()Z"⟩
abbrev cX8_isDrinker : ByteArray := prog_1_method_39_code
def yX8_isDrinker : MethodName := ⟨RX8, "isDrinker", "(I)Z"⟩
abbrev cX8_areTwoDrinkers : ByteArray := prog_1_method_40_code
def yX8_areTwoDrinkers : MethodName := ⟨RX8, "areTwoDrinkers", "(II)Z"⟩
abbrev cX8_areDrinkers : ByteArray := prog_1_method_41_code
def yX8_areDrinkers : MethodName := ⟨RX8, "areDrinkers", "(I)Z"⟩
abbrev cX8_refusalOfTaps : ByteArray := prog_1_method_42_code
def yX8_refusalOfTaps : MethodName := ⟨RX8, "refusalOfTaps", "(IIII)I"⟩
abbrev cX8_tellsDrinkers : ByteArray := prog_1_method_43_code
def yX8_tellsDrinkers : MethodName := ⟨RX8, "tellsDrinkers", "(III)Z"⟩
abbrev cX8_isRow : ByteArray := prog_1_method_44_code
def yX8_isRow : MethodName := ⟨RX8, "isRow", "(I)Z"⟩
abbrev cX8_isCask : ByteArray := prog_1_method_45_code
def yX8_isCask : MethodName := ⟨RX8, "isCask", "(I)Z"⟩
abbrev cX8_isFirstOrSecond : ByteArray := prog_1_method_46_code
def yX8_isFirstOrSecond : MethodName := ⟨RX8, "isFirstOrSecond", "(I)Z"⟩
abbrev cX8_isKindOf : ByteArray := prog_1_method_47_code
def yX8_isKindOf : MethodName := ⟨RX8, "isKindOf", "(II)Z"⟩
abbrev cX8_countOrSet : ByteArray := prog_1_method_48_code
def yX8_countOrSet : MethodName := ⟨RX8, "countOrSet", "(II)I"⟩
abbrev cX8_power : ByteArray := prog_1_method_49_code
def yX8_power : MethodName := ⟨RX8, "power", "(JI)J"⟩
abbrev cX8_commonDivisor : ByteArray := prog_1_method_50_code
def yX8_commonDivisor : MethodName := ⟨RX8, "commonDivisor", "(JJ)J"⟩
def RX9 : String := "RumourBrewModel"
def TX9 : u_T := fun k => match k with
  | 0 => ("RumourBrewModel", "lanes", "[I", true)
  | 1 => ("RumourBrewModel", "sizes", "[I", true)
  | 2 => ("RumourBrewModel", "items", "[I", true)
  | 3 => ("RumourBrewModel", "status", "I", false)
  | 4 => ("RumourBrewModel", "tape", "[I", true)
  | 5 => ("RumourBrewModel", "taped", "I", false)
  | 6 => ("RumourBrewModel", "fault", "I", false)
  | 7 => ("RumourBrewModel", "isTown", "Z", false)
  | 8 => ("RumourBrewModel", "now", "[I", true)
  | 9 => ("RumourBrewModel", "acts", "I", false)
  | 10 => ("RumourBrewModel", "before", "[I", true)
  | 11 => ("RumourBrewModel", "images", "[I", true)
  | 12 => ("RumourBrewModel", "saved", "[Z", true)
  | 13 => ("RumourBrewModel", "traced", "I", false)
  | 14 => ("RumourBrewModel", "trace", "[I", true)
  | 15 => ("RumourBrewModel", "at", "I", false)
  | 16 => ("RumourBrewModel", "begin", "I", false)
  | 17 => ("RumourBrewModel", "token", "I", false)
  | 18 => ("RumourBrewModel", "value", "I", false)
  | 19 => ("RumourBrewModel", "size", "I", false)
  | 20 => ("RumourBrewModel", "read", "[I", true)
  | 21 => ("RumourBrewModel", "comes", "[I", true)
  | 22 => ("RumourBrewModel", "passed", "[I", true)
  | 23 => ("RumourBrewModel", "first", "[I", true)
  | 24 => ("RumourBrewModel", "believe", "I", false)
  | _ => ("RumourBrewModel", "aside", "[I", true)
def tyX9 : Nat → FieldType := fun k => match k with
  | 0 => .array .int
  | 1 => .array .int
  | 2 => .array .int
  | 3 => .int
  | 4 => .array .int
  | 5 => .int
  | 6 => .int
  | 7 => .boolean
  | 8 => .array .int
  | 9 => .int
  | 10 => .array .int
  | 11 => .array .int
  | 12 => .array .boolean
  | 13 => .int
  | 14 => .array .int
  | 15 => .int
  | 16 => .int
  | 17 => .int
  | 18 => .int
  | 19 => .int
  | 20 => .array .int
  | 21 => .array .int
  | 22 => .array .int
  | 23 => .array .int
  | 24 => .int
  | _ => .array .int
theorem nmX9 : ∀ a, a < 26 → ∀ b, b < 26 → a ≠ b → (TX9 a).2.1 ≠ (TX9 b).2.1 := by decide +kernel
theorem tyX9_ok : ∀ k, k < 26 → parseFieldDescriptor (TX9 k).2.2.1 = some (tyX9 k) := by decide +kernel
abbrev cX9_init : ByteArray := prog_11_method_1_code
def yX9_init : MethodName := ⟨RX9, "<init>", "()V"⟩
abbrev cX9_in : ByteArray := prog_11_method_3_code
def yX9_in : MethodName := ⟨RX9, "in", "(JJJ)Z"⟩
abbrev cX9_found : ByteArray := prog_11_method_4_code
def yX9_found : MethodName := ⟨RX9, "found", "(I)I"⟩
abbrev cX9_well : ByteArray := prog_11_method_5_code
def yX9_well : MethodName := ⟨RX9, "well", "(I)I"⟩
abbrev cX9_isRow : ByteArray := prog_11_method_6_code
def yX9_isRow : MethodName := ⟨RX9, "isRow", "(I)Z"⟩
abbrev cX9_row : ByteArray := prog_11_method_7_code
def yX9_row : MethodName := ⟨RX9, "row", "(III)I"⟩
abbrev cX9_set : ByteArray := prog_11_method_8_code
def yX9_set : MethodName := ⟨RX9, "set", "(III)I"⟩
abbrev cX9_copy : ByteArray := prog_11_method_9_code
def yX9_copy : MethodName := ⟨RX9, "copy", "(IIIII)I"⟩
abbrev cX9_drop : ByteArray := prog_11_method_10_code
def yX9_drop : MethodName := ⟨RX9, "drop", "(I)I"⟩
abbrev cX9_feed : ByteArray := prog_11_method_11_code
def yX9_feed : MethodName := ⟨RX9, "feed", "(I)I"⟩
abbrev cX9_isFigure : ByteArray := prog_11_method_12_code
def yX9_isFigure : MethodName := ⟨RX9, "isFigure", "(I)Z"⟩
abbrev cX9_next : ByteArray := prog_11_method_13_code
def yX9_next : MethodName := ⟨RX9, "next", "()V"⟩
abbrev cX9_fails : ByteArray := prog_11_method_14_code
def yX9_fails : MethodName := ⟨RX9, "fails", "(I)Z"⟩
abbrev cX9_number : ByteArray := prog_11_method_15_code
def yX9_number : MethodName := ⟨RX9, "number", "(III)Z"⟩
abbrev cX9_sign : ByteArray := prog_11_method_16_code
def yX9_sign : MethodName := ⟨RX9, "sign", "(I)Z"⟩
abbrev cX9_readsLaw : ByteArray := prog_11_method_17_code
def yX9_readsLaw : MethodName := ⟨RX9, "readsLaw", "()Z"⟩
abbrev cX9_sortOf : ByteArray := prog_11_method_18_code
def yX9_sortOf : MethodName := ⟨RX9, "sortOf", "(I)I"⟩
abbrev cX9_readsDrinker : ByteArray := prog_11_method_19_code
def yX9_readsDrinker : MethodName := ⟨RX9, "readsDrinker", "(I)Z"⟩
abbrev cX9_readsTie : ByteArray := prog_11_method_20_code
def yX9_readsTie : MethodName := ⟨RX9, "readsTie", "()Z"⟩
abbrev cX9_reads : ByteArray := prog_11_method_21_code
def yX9_reads : MethodName := ⟨RX9, "reads", "()Z"⟩
abbrev cX9_town : ByteArray := prog_11_method_22_code
def yX9_town : MethodName := ⟨RX9, "town", "()I"⟩
abbrev cX9_fault : ByteArray := prog_11_method_23_code
def yX9_fault : MethodName := ⟨RX9, "fault", "()I"⟩
abbrev cX9_copies : ByteArray := prog_11_method_24_code
def yX9_copies : MethodName := ⟨RX9, "copies", "([II[II)V"⟩
abbrev cX9_isDrinker : ByteArray := prog_11_method_25_code
def yX9_isDrinker : MethodName := ⟨RX9, "isDrinker", "(I)Z"⟩
abbrev cX9_areDrinkers : ByteArray := prog_11_method_26_code
def yX9_areDrinkers : MethodName := ⟨RX9, "areDrinkers", "(I)Z"⟩
abbrev cX9_isCask : ByteArray := prog_11_method_27_code
def yX9_isCask : MethodName := ⟨RX9, "isCask", "(I)Z"⟩
abbrev cX9_isTwo : ByteArray := prog_11_method_28_code
def yX9_isTwo : MethodName := ⟨RX9, "isTwo", "(I)Z"⟩
abbrev cX9_has : ByteArray := prog_11_method_29_code
def yX9_has : MethodName := ⟨RX9, "has", "(II)Z"⟩
abbrev cX9_bits : ByteArray := prog_11_method_30_code
def yX9_bits : MethodName := ⟨RX9, "bits", "(I)I"⟩
abbrev cX9_strong : ByteArray := prog_11_method_31_code
def yX9_strong : MethodName := ⟨RX9, "strong", "([III)I"⟩
abbrev cX9_strongOf : ByteArray := prog_11_method_32_code
def yX9_strongOf : MethodName := ⟨RX9, "strongOf", "([II)I"⟩
abbrev cX9_believes : ByteArray := prog_11_method_33_code
def yX9_believes : MethodName := ⟨RX9, "believes", "([IIII)Z"⟩
abbrev cX9_passes : ByteArray := prog_11_method_34_code
def yX9_passes : MethodName := ⟨RX9, "passes", "(IZI)I"⟩
abbrev cX9_brings : ByteArray := prog_11_method_35_code
def yX9_brings : MethodName := ⟨RX9, "brings", "(II)V"⟩
abbrev cX9_passesOn : ByteArray := prog_11_method_36_code
def yX9_passesOn : MethodName := ⟨RX9, "passesOn", "([IIII)V"⟩
abbrev cX9_tells : ByteArray := prog_11_method_37_code
def yX9_tells : MethodName := ⟨RX9, "tells", "([IIIII)V"⟩
abbrev cX9_tellsCask : ByteArray := prog_11_method_38_code
def yX9_tellsCask : MethodName := ⟨RX9, "tellsCask", "([IIII)V"⟩
abbrev cX9_reached : ByteArray := prog_11_method_39_code
def yX9_reached : MethodName := ⟨RX9, "reached", "()I"⟩
abbrev cX9_taps : ByteArray := prog_11_method_40_code
def yX9_taps : MethodName := ⟨RX9, "taps", "([III)I"⟩
abbrev cX9_dayGoes : ByteArray := prog_11_method_41_code
def yX9_dayGoes : MethodName := ⟨RX9, "dayGoes", "([I)V"⟩
abbrev cX9_blends : ByteArray := prog_11_method_42_code
def yX9_blends : MethodName := ⟨RX9, "blends", "([III)V"⟩
abbrev cX9_removes : ByteArray := prog_11_method_43_code
def yX9_removes : MethodName := ⟨RX9, "removes", "([II)V"⟩
abbrev cX9_remember : ByteArray := prog_11_method_44_code
def yX9_remember : MethodName := ⟨RX9, "remember", "()V"⟩
abbrev cX9_undo : ByteArray := prog_11_method_45_code
def yX9_undo : MethodName := ⟨RX9, "undo", "()I"⟩
abbrev cX9_brew : ByteArray := prog_11_method_46_code
def yX9_brew : MethodName := ⟨RX9, "brew", "(II)I"⟩
abbrev cX9_isOff : ByteArray := prog_11_method_47_code
def yX9_isOff : MethodName := ⟨RX9, "isOff", "(I)Z"⟩
abbrev cX9_days : ByteArray := prog_11_method_48_code
def yX9_days : MethodName := ⟨RX9, "days", "(I)I"⟩
abbrev cX9_tap : ByteArray := prog_11_method_49_code
def yX9_tap : MethodName := ⟨RX9, "tap", "(II)I"⟩
abbrev cX9_water : ByteArray := prog_11_method_50_code
def yX9_water : MethodName := ⟨RX9, "water", "(I)I"⟩
abbrev cX9_areCasks : ByteArray := prog_11_method_51_code
def yX9_areCasks : MethodName := ⟨RX9, "areCasks", "(II)Z"⟩
abbrev cX9_blend : ByteArray := prog_11_method_52_code
def yX9_blend : MethodName := ⟨RX9, "blend", "(II)I"⟩
abbrev cX9_cask : ByteArray := prog_11_method_53_code
def yX9_cask : MethodName := ⟨RX9, "cask", "(II)I"⟩
abbrev cX9_drinker : ByteArray := prog_11_method_54_code
def yX9_drinker : MethodName := ⟨RX9, "drinker", "(II)I"⟩
abbrev cX9_rumour : ByteArray := prog_11_method_55_code
def yX9_rumour : MethodName := ⟨RX9, "rumour", "(I)I"⟩
abbrev cX9_telling : ByteArray := prog_11_method_56_code
def yX9_telling : MethodName := ⟨RX9, "telling", "(III)I"⟩
abbrev cX9_fewest : ByteArray := prog_11_method_57_code
def yX9_fewest : MethodName := ⟨RX9, "fewest", "(IIII)I"⟩
abbrev cX9_silence : ByteArray := prog_11_method_58_code
def yX9_silence : MethodName := ⟨RX9, "silence", "(IIII)I"⟩
abbrev cX9_twos : ByteArray := prog_11_method_59_code
def yX9_twos : MethodName := ⟨RX9, "twos", "(IIII)I"⟩
abbrev cX9_comesSo : ByteArray := prog_11_method_60_code
def yX9_comesSo : MethodName := ⟨RX9, "comesSo", "(III)Z"⟩
abbrev cX9_malts : ByteArray := prog_11_method_61_code
def yX9_malts : MethodName := ⟨RX9, "malts", "(IIII)I"⟩
abbrev cX9_who : ByteArray := prog_11_method_62_code
def yX9_who : MethodName := ⟨RX9, "who", "(IIIII)I"⟩
abbrev cX9_goesOff : ByteArray := prog_11_method_63_code
def yX9_goesOff : MethodName := ⟨RX9, "goesOff", "(II)I"⟩
abbrev cX9_best : ByteArray := prog_11_method_64_code
def yX9_best : MethodName := ⟨RX9, "best", "(II)I"⟩
abbrev cX9_blended : ByteArray := prog_11_method_65_code
def yX9_blended : MethodName := ⟨RX9, "blended", "(III)I"⟩
abbrev cX9_silent : ByteArray := prog_11_method_66_code
def yX9_silent : MethodName := ⟨RX9, "silent", "(IIIII)J"⟩
abbrev cX9_notesOf : ByteArray := prog_11_method_67_code
def yX9_notesOf : MethodName := ⟨RX9, "notesOf", "([I)I"⟩
abbrev cX9_drawn : ByteArray := prog_11_method_68_code
def yX9_drawn : MethodName := ⟨RX9, "drawn", "(III)I"⟩
abbrev cX9_image : ByteArray := prog_11_method_69_code
def yX9_image : MethodName := ⟨RX9, "image", "(I)I"⟩
abbrev cX9_restore : ByteArray := prog_11_method_70_code
def yX9_restore : MethodName := ⟨RX9, "restore", "(I)I"⟩
abbrev cX9_kind : ByteArray := prog_11_method_71_code
def yX9_kind : MethodName := ⟨RX9, "kind", "(I)I"⟩
abbrev cX9_isOf : ByteArray := prog_11_method_72_code
def yX9_isOf : MethodName := ⟨RX9, "isOf", "(II)Z"⟩
abbrev cX9_as : ByteArray := prog_11_method_73_code
def yX9_as : MethodName := ⟨RX9, "as", "(II)I"⟩
abbrev cX9_leave : ByteArray := prog_11_method_74_code
def yX9_leave : MethodName := ⟨RX9, "leave", "(J)V"⟩
abbrev cX9_mark : ByteArray := prog_11_method_75_code
def yX9_mark : MethodName := ⟨RX9, "mark", "(I)I"⟩
abbrev cX9_sizeOf : ByteArray := prog_11_method_76_code
def yX9_sizeOf : MethodName := ⟨RX9, "sizeOf", "(I)I"⟩
abbrev cX9_ask : ByteArray := prog_11_method_77_code
def yX9_ask : MethodName := ⟨RX9, "ask", "(II)I"⟩
abbrev cX9_trace : ByteArray := prog_11_method_78_code
def yX9_trace : MethodName := ⟨RX9, "trace", "(I)I"⟩
abbrev cX9_count : ByteArray := prog_11_method_79_code
def yX9_count : MethodName := ⟨RX9, "count", "(I)I"⟩
abbrev cX9_status : ByteArray := prog_11_method_80_code
def yX9_status : MethodName := ⟨RX9, "status", "()I"⟩
def RJ6 : String := "java/lang/Integer"
def TJ6 : u_T := fun k => match k with
  | _ => ("", "", "", false)
def tyJ6 : Nat → FieldType := fun k => match k with
  | _ => .int
theorem nmJ6 : ∀ a, a < 0 → ∀ b, b < 0 → a ≠ b → (TJ6 a).2.1 ≠ (TJ6 b).2.1 := by decide +kernel
theorem tyJ6_ok : ∀ k, k < 0 → parseFieldDescriptor (TJ6 k).2.2.1 = some (tyJ6 k) := by decide +kernel
abbrev cJ6_bitCount_0f7a4 : ByteArray := prog_12_method_49_code
def yJ6_bitCount_0f7a4 : MethodName := ⟨RJ6, "bitCount", "(I)I"⟩
def RJ9 : String := "java/lang/Math"
def TJ9 : u_T := fun k => match k with
  | _ => ("", "", "", false)
def tyJ9 : Nat → FieldType := fun k => match k with
  | _ => .int
theorem nmJ9 : ∀ a, a < 0 → ∀ b, b < 0 → a ≠ b → (TJ9 a).2.1 ≠ (TJ9 b).2.1 := by decide +kernel
theorem tyJ9_ok : ∀ k, k < 0 → parseFieldDescriptor (TJ9 k).2.2.1 = some (tyJ9 k) := by decide +kernel
abbrev cJ9_max_7cf53 : ByteArray := prog_13_method_65_code
def yJ9_max_7cf53 : MethodName := ⟨RJ9, "max", "(II)I"⟩
abbrev cJ9_max_f86c9 : ByteArray := prog_13_method_66_code
def yJ9_max_f86c9 : MethodName := ⟨RJ9, "max", "(JJ)J"⟩
abbrev cJ9_min_7cf53 : ByteArray := prog_13_method_69_code
def yJ9_min_7cf53 : MethodName := ⟨RJ9, "min", "(II)I"⟩
def RJ10 : String := "java/lang/System"
def TJ10 : u_T := fun k => match k with
  | _ => ("", "", "", false)
def tyJ10 : Nat → FieldType := fun k => match k with
  | _ => .int
theorem nmJ10 : ∀ a, a < 0 → ∀ b, b < 0 → a ≠ b → (TJ10 a).2.1 ≠ (TJ10 b).2.1 := by decide +kernel
theorem tyJ10_ok : ∀ k, k < 0 → parseFieldDescriptor (TJ10 k).2.2.1 = some (tyJ10 k) := by decide +kernel
def RJ7 : String := "java/util/Arrays"
def TJ7 : u_T := fun k => match k with
  | _ => ("", "", "", false)
def tyJ7 : Nat → FieldType := fun k => match k with
  | _ => .int
theorem nmJ7 : ∀ a, a < 0 → ∀ b, b < 0 → a ≠ b → (TJ7 a).2.1 ≠ (TJ7 b).2.1 := by decide +kernel
theorem tyJ7_ok : ∀ k, k < 0 → parseFieldDescriptor (TJ7 k).2.2.1 = some (tyJ7 k) := by decide +kernel
abbrev cJ7_fill_53178 : ByteArray := prog_15_method_103_code
def yJ7_fill_53178 : MethodName := ⟨RJ7, "fill", "([II)V"⟩
def RL : String := "RumourBrewLaw"
abbrev cL_law : ByteArray := code
def yL_law : MethodName := ⟨RL, "law", "([I)Z"⟩
abbrev vwCl : List vw_C := [(RX0, TX0, 3), (RX1, TX1, 3), (RX2, TX2, 1), (RX3, TX3, 4), (RX4, TX4, 4), (RX5, TX5, 3), (RX6, TX6, 9), (RX7, TX7, 11), (RX8, TX8, 10), (RX9, TX9, 26)]
end
section
theorem dX0_init_0 : decode cX0_init 0 = .ok (.aload_n 0, 1) := by decide +kernel
theorem dX0_init_1 : decode cX0_init 1 = .ok (.invokespecial 3, 3) := by decide +kernel
theorem dX0_init_4 : decode cX0_init 4 = .ok (.aload_n 0, 1) := by decide +kernel
theorem dX0_init_5 : decode cX0_init 5 = .ok (.bipush 24, 2) := by decide +kernel
theorem dX0_init_7 : decode cX0_init 7 = .ok (.bipush 19, 2) := by decide +kernel
theorem dX0_init_9 : decode cX0_init 9 = .ok (.multianewarray 11 2, 4) := by decide +kernel
theorem dX0_init_13 : decode cX0_init 13 = .ok (.putfield 13, 3) := by decide +kernel
theorem dX0_init_16 : decode cX0_init 16 = .ok (.aload_n 0, 1) := by decide +kernel
theorem dX0_init_17 : decode cX0_init 17 = .ok (.iconst 0, 1) := by decide +kernel
theorem dX0_init_18 : decode cX0_init 18 = .ok (.putfield 18, 3) := by decide +kernel
theorem dX0_init_21 : decode cX0_init 21 = .ok (.aload_n 0, 1) := by decide +kernel
theorem dX0_init_22 : decode cX0_init 22 = .ok (.iconst 0, 1) := by decide +kernel
theorem dX0_init_23 : decode cX0_init 23 = .ok (.putfield 22, 3) := by decide +kernel
theorem dX0_init_26 : decode cX0_init 26 = .ok (.return_, 1) := by decide +kernel
theorem dX0_forget_0 : decode cX0_forget 0 = .ok (.aload_n 0, 1) := by decide +kernel
theorem dX0_forget_1 : decode cX0_forget 1 = .ok (.iconst 0, 1) := by decide +kernel
theorem dX0_forget_2 : decode cX0_forget 2 = .ok (.putfield 22, 3) := by decide +kernel
theorem dX0_forget_5 : decode cX0_forget 5 = .ok (.return_, 1) := by decide +kernel
theorem dX0_keep_0 : decode cX0_keep 0 = .ok (.aload_n 1, 1) := by decide +kernel
theorem dX0_keep_1 : decode cX0_keep 1 = .ok (.getfield 25, 3) := by decide +kernel
theorem dX0_keep_4 : decode cX0_keep 4 = .ok (.iconst 0, 1) := by decide +kernel
theorem dX0_keep_5 : decode cX0_keep 5 = .ok (.aload_n 0, 1) := by decide +kernel
theorem dX0_keep_6 : decode cX0_keep 6 = .ok (.getfield 13, 3) := by decide +kernel
theorem dX0_keep_9 : decode cX0_keep 9 = .ok (.aload_n 0, 1) := by decide +kernel
theorem dX0_keep_10 : decode cX0_keep 10 = .ok (.getfield 18, 3) := by decide +kernel
theorem dX0_keep_13 : decode cX0_keep 13 = .ok (.aaload, 1) := by decide +kernel
theorem dX0_keep_14 : decode cX0_keep 14 = .ok (.iconst 0, 1) := by decide +kernel
theorem dX0_keep_15 : decode cX0_keep 15 = .ok (.bipush 19, 2) := by decide +kernel
theorem dX0_keep_17 : decode cX0_keep 17 = .ok (.invokestatic 29, 3) := by decide +kernel
theorem dX0_keep_20 : decode cX0_keep 20 = .ok (.aload_n 0, 1) := by decide +kernel
theorem dX0_keep_21 : decode cX0_keep 21 = .ok (.aload_n 0, 1) := by decide +kernel
theorem dX0_keep_22 : decode cX0_keep 22 = .ok (.getfield 18, 3) := by decide +kernel
theorem dX0_keep_25 : decode cX0_keep 25 = .ok (.iconst 1, 1) := by decide +kernel
theorem dX0_keep_26 : decode cX0_keep 26 = .ok (.iadd, 1) := by decide +kernel
theorem dX0_keep_27 : decode cX0_keep 27 = .ok (.bipush 24, 2) := by decide +kernel
theorem dX0_keep_29 : decode cX0_keep 29 = .ok (.irem, 1) := by decide +kernel
theorem dX0_keep_30 : decode cX0_keep 30 = .ok (.putfield 18, 3) := by decide +kernel
theorem dX0_keep_33 : decode cX0_keep 33 = .ok (.aload_n 0, 1) := by decide +kernel
theorem dX0_keep_34 : decode cX0_keep 34 = .ok (.bipush 24, 2) := by decide +kernel
theorem dX0_keep_36 : decode cX0_keep 36 = .ok (.aload_n 0, 1) := by decide +kernel
theorem dX0_keep_37 : decode cX0_keep 37 = .ok (.getfield 22, 3) := by decide +kernel
theorem dX0_keep_40 : decode cX0_keep 40 = .ok (.iconst 1, 1) := by decide +kernel
theorem dX0_keep_41 : decode cX0_keep 41 = .ok (.iadd, 1) := by decide +kernel
theorem dX0_keep_42 : decode cX0_keep 42 = .ok (.invokestatic 35, 3) := by decide +kernel
theorem dX0_keep_45 : decode cX0_keep 45 = .ok (.putfield 22, 3) := by decide +kernel
theorem dX0_keep_48 : decode cX0_keep 48 = .ok (.return_, 1) := by decide +kernel
theorem dX0_takeBack_0 : decode cX0_takeBack 0 = .ok (.aload_n 0, 1) := by decide +kernel
theorem dX0_takeBack_1 : decode cX0_takeBack 1 = .ok (.aload_n 0, 1) := by decide +kernel
theorem dX0_takeBack_2 : decode cX0_takeBack 2 = .ok (.getfield 18, 3) := by decide +kernel
theorem dX0_takeBack_5 : decode cX0_takeBack 5 = .ok (.bipush 24, 2) := by decide +kernel
theorem dX0_takeBack_7 : decode cX0_takeBack 7 = .ok (.iadd, 1) := by decide +kernel
theorem dX0_takeBack_8 : decode cX0_takeBack 8 = .ok (.iconst 1, 1) := by decide +kernel
theorem dX0_takeBack_9 : decode cX0_takeBack 9 = .ok (.isub, 1) := by decide +kernel
theorem dX0_takeBack_10 : decode cX0_takeBack 10 = .ok (.bipush 24, 2) := by decide +kernel
theorem dX0_takeBack_12 : decode cX0_takeBack 12 = .ok (.irem, 1) := by decide +kernel
theorem dX0_takeBack_13 : decode cX0_takeBack 13 = .ok (.putfield 18, 3) := by decide +kernel
theorem dX0_takeBack_16 : decode cX0_takeBack 16 = .ok (.aload_n 0, 1) := by decide +kernel
theorem dX0_takeBack_17 : decode cX0_takeBack 17 = .ok (.dup, 1) := by decide +kernel
theorem dX0_takeBack_18 : decode cX0_takeBack 18 = .ok (.getfield 22, 3) := by decide +kernel
theorem dX0_takeBack_21 : decode cX0_takeBack 21 = .ok (.iconst 1, 1) := by decide +kernel
theorem dX0_takeBack_22 : decode cX0_takeBack 22 = .ok (.isub, 1) := by decide +kernel
theorem dX0_takeBack_23 : decode cX0_takeBack 23 = .ok (.putfield 22, 3) := by decide +kernel
theorem dX0_takeBack_26 : decode cX0_takeBack 26 = .ok (.aload_n 0, 1) := by decide +kernel
theorem dX0_takeBack_27 : decode cX0_takeBack 27 = .ok (.getfield 13, 3) := by decide +kernel
theorem dX0_takeBack_30 : decode cX0_takeBack 30 = .ok (.aload_n 0, 1) := by decide +kernel
theorem dX0_takeBack_31 : decode cX0_takeBack 31 = .ok (.getfield 18, 3) := by decide +kernel
theorem dX0_takeBack_34 : decode cX0_takeBack 34 = .ok (.aaload, 1) := by decide +kernel
theorem dX0_takeBack_35 : decode cX0_takeBack 35 = .ok (.iconst 0, 1) := by decide +kernel
theorem dX0_takeBack_36 : decode cX0_takeBack 36 = .ok (.aload_n 1, 1) := by decide +kernel
theorem dX0_takeBack_37 : decode cX0_takeBack 37 = .ok (.getfield 25, 3) := by decide +kernel
theorem dX0_takeBack_40 : decode cX0_takeBack 40 = .ok (.iconst 0, 1) := by decide +kernel
theorem dX0_takeBack_41 : decode cX0_takeBack 41 = .ok (.bipush 19, 2) := by decide +kernel
theorem dX0_takeBack_43 : decode cX0_takeBack 43 = .ok (.invokestatic 29, 3) := by decide +kernel
theorem dX0_takeBack_46 : decode cX0_takeBack 46 = .ok (.return_, 1) := by decide +kernel
theorem dX1_init_0 : decode cX1_init 0 = .ok (.aload_n 0, 1) := by decide +kernel
theorem dX1_init_1 : decode cX1_init 1 = .ok (.invokespecial 3, 3) := by decide +kernel
theorem dX1_init_4 : decode cX1_init 4 = .ok (.aload_n 0, 1) := by decide +kernel
theorem dX1_init_5 : decode cX1_init 5 = .ok (.bipush 16, 2) := by decide +kernel
theorem dX1_init_7 : decode cX1_init 7 = .ok (.newarray .int, 2) := by decide +kernel
theorem dX1_init_9 : decode cX1_init 9 = .ok (.putfield 11, 3) := by decide +kernel
theorem dX1_init_12 : decode cX1_init 12 = .ok (.aload_n 0, 1) := by decide +kernel
theorem dX1_init_13 : decode cX1_init 13 = .ok (.iconst 0, 1) := by decide +kernel
theorem dX1_init_14 : decode cX1_init 14 = .ok (.putfield 15, 3) := by decide +kernel
theorem dX1_init_17 : decode cX1_init 17 = .ok (.aload_n 0, 1) := by decide +kernel
theorem dX1_init_18 : decode cX1_init 18 = .ok (.aload_n 1, 1) := by decide +kernel
theorem dX1_init_19 : decode cX1_init 19 = .ok (.putfield 19, 3) := by decide +kernel
theorem dX1_init_22 : decode cX1_init 22 = .ok (.return_, 1) := by decide +kernel
theorem dX1_sizeOf_0 : decode cX1_sizeOf 0 = .ok (.aload_n 0, 1) := by decide +kernel
theorem dX1_sizeOf_1 : decode cX1_sizeOf 1 = .ok (.iconst 0, 1) := by decide +kernel
theorem dX1_sizeOf_2 : decode cX1_sizeOf 2 = .ok (.putfield 15, 3) := by decide +kernel
theorem dX1_sizeOf_5 : decode cX1_sizeOf 5 = .ok (.aload_n 0, 1) := by decide +kernel
theorem dX1_sizeOf_6 : decode cX1_sizeOf 6 = .ok (.getstatic 23, 3) := by decide +kernel
theorem dX1_sizeOf_9 : decode cX1_sizeOf 9 = .ok (.aload_n 0, 1) := by decide +kernel
theorem dX1_sizeOf_10 : decode cX1_sizeOf 10 = .ok (.getfield 19, 3) := by decide +kernel
theorem dX1_sizeOf_13 : decode cX1_sizeOf 13 = .ok (.getfield 26, 3) := by decide +kernel
theorem dX1_sizeOf_16 : decode cX1_sizeOf 16 = .ok (.iload_n 1, 1) := by decide +kernel
theorem dX1_sizeOf_17 : decode cX1_sizeOf 17 = .ok (.iaload, 1) := by decide +kernel
theorem dX1_sizeOf_18 : decode cX1_sizeOf 18 = .ok (.iaload, 1) := by decide +kernel
theorem dX1_sizeOf_19 : decode cX1_sizeOf 19 = .ok (.iload_n 1, 1) := by decide +kernel
theorem dX1_sizeOf_20 : decode cX1_sizeOf 20 = .ok (.iconst 0, 1) := by decide +kernel
theorem dX1_sizeOf_21 : decode cX1_sizeOf 21 = .ok (.invokevirtual 31, 3) := by decide +kernel
theorem dX1_sizeOf_24 : decode cX1_sizeOf 24 = .ok (.ireturn, 1) := by decide +kernel
theorem dX1_markOf_0 : decode cX1_markOf 0 = .ok (.aload_n 0, 1) := by decide +kernel
theorem dX1_markOf_1 : decode cX1_markOf 1 = .ok (.iconst 0, 1) := by decide +kernel
theorem dX1_markOf_2 : decode cX1_markOf 2 = .ok (.putfield 15, 3) := by decide +kernel
theorem dX1_markOf_5 : decode cX1_markOf 5 = .ok (.aload_n 0, 1) := by decide +kernel
theorem dX1_markOf_6 : decode cX1_markOf 6 = .ok (.getstatic 35, 3) := by decide +kernel
theorem dX1_markOf_9 : decode cX1_markOf 9 = .ok (.aload_n 0, 1) := by decide +kernel
theorem dX1_markOf_10 : decode cX1_markOf 10 = .ok (.getfield 19, 3) := by decide +kernel
theorem dX1_markOf_13 : decode cX1_markOf 13 = .ok (.getfield 26, 3) := by decide +kernel
theorem dX1_markOf_16 : decode cX1_markOf 16 = .ok (.iload_n 1, 1) := by decide +kernel
theorem dX1_markOf_17 : decode cX1_markOf 17 = .ok (.iaload, 1) := by decide +kernel
theorem dX1_markOf_18 : decode cX1_markOf 18 = .ok (.iaload, 1) := by decide +kernel
theorem dX1_markOf_19 : decode cX1_markOf 19 = .ok (.iload_n 1, 1) := by decide +kernel
theorem dX1_markOf_20 : decode cX1_markOf 20 = .ok (.iconst 0, 1) := by decide +kernel
theorem dX1_markOf_21 : decode cX1_markOf 21 = .ok (.invokevirtual 31, 3) := by decide +kernel
theorem dX1_markOf_24 : decode cX1_markOf 24 = .ok (.ireturn, 1) := by decide +kernel
theorem dX1_traced_0 : decode cX1_traced 0 = .ok (.iload_n 1, 1) := by decide +kernel
theorem dX1_traced_1 : decode cX1_traced 1 = .ok (.ifCond .lt 20, 3) := by decide +kernel
theorem dX1_traced_4 : decode cX1_traced 4 = .ok (.iload_n 1, 1) := by decide +kernel
theorem dX1_traced_5 : decode cX1_traced 5 = .ok (.aload_n 0, 1) := by decide +kernel
theorem dX1_traced_6 : decode cX1_traced 6 = .ok (.getfield 15, 3) := by decide +kernel
theorem dX1_traced_9 : decode cX1_traced 9 = .ok (.if_icmp .ge 12, 3) := by decide +kernel
theorem dX1_traced_12 : decode cX1_traced 12 = .ok (.aload_n 0, 1) := by decide +kernel
theorem dX1_traced_13 : decode cX1_traced 13 = .ok (.getfield 11, 3) := by decide +kernel
theorem dX1_traced_16 : decode cX1_traced 16 = .ok (.iload_n 1, 1) := by decide +kernel
theorem dX1_traced_17 : decode cX1_traced 17 = .ok (.iaload, 1) := by decide +kernel
theorem dX1_traced_18 : decode cX1_traced 18 = .ok (.goto 5, 3) := by decide +kernel
theorem dX1_traced_21 : decode cX1_traced 21 = .ok (.ldc 38, 2) := by decide +kernel
theorem dX1_traced_23 : decode cX1_traced 23 = .ok (.ireturn, 1) := by decide +kernel
theorem dX1_leave_0 : decode cX1_leave 0 = .ok (.aload_n 0, 1) := by decide +kernel
theorem dX1_leave_1 : decode cX1_leave 1 = .ok (.getfield 15, 3) := by decide +kernel
theorem dX1_leave_4 : decode cX1_leave 4 = .ok (.bipush 16, 2) := by decide +kernel
theorem dX1_leave_6 : decode cX1_leave 6 = .ok (.if_icmp .ge 23, 3) := by decide +kernel
theorem dX1_leave_9 : decode cX1_leave 9 = .ok (.aload_n 0, 1) := by decide +kernel
theorem dX1_leave_10 : decode cX1_leave 10 = .ok (.getfield 11, 3) := by decide +kernel
theorem dX1_leave_13 : decode cX1_leave 13 = .ok (.aload_n 0, 1) := by decide +kernel
theorem dX1_leave_14 : decode cX1_leave 14 = .ok (.getfield 15, 3) := by decide +kernel
theorem dX1_leave_17 : decode cX1_leave 17 = .ok (.iload_n 1, 1) := by decide +kernel
theorem dX1_leave_18 : decode cX1_leave 18 = .ok (.iastore, 1) := by decide +kernel
theorem dX1_leave_19 : decode cX1_leave 19 = .ok (.aload_n 0, 1) := by decide +kernel
theorem dX1_leave_20 : decode cX1_leave 20 = .ok (.dup, 1) := by decide +kernel
theorem dX1_leave_21 : decode cX1_leave 21 = .ok (.getfield 15, 3) := by decide +kernel
theorem dX1_leave_24 : decode cX1_leave 24 = .ok (.iconst 1, 1) := by decide +kernel
theorem dX1_leave_25 : decode cX1_leave 25 = .ok (.iadd, 1) := by decide +kernel
theorem dX1_leave_26 : decode cX1_leave 26 = .ok (.putfield 15, 3) := by decide +kernel
theorem dX1_leave_29 : decode cX1_leave 29 = .ok (.return_, 1) := by decide +kernel
theorem dX1_given_0 : decode cX1_given 0 = .ok (.iload_n 3, 1) := by decide +kernel
theorem dX1_given_1 : decode cX1_given 1 = .ok (.bipush 12, 2) := by decide +kernel
theorem dX1_given_3 : decode cX1_given 3 = .ok (.if_icmp .le 5, 3) := by decide +kernel
theorem dX1_given_6 : decode cX1_given 6 = .ok (.iconst 0, 1) := by decide +kernel
theorem dX1_given_7 : decode cX1_given 7 = .ok (.ireturn, 1) := by decide +kernel
theorem dX1_given_8 : decode cX1_given 8 = .ok (.aload_n 0, 1) := by decide +kernel
theorem dX1_given_9 : decode cX1_given 9 = .ok (.iload_n 1, 1) := by decide +kernel
theorem dX1_given_10 : decode cX1_given 10 = .ok (.invokevirtual 39, 3) := by decide +kernel
theorem dX1_given_13 : decode cX1_given 13 = .ok (.iload_n 3, 1) := by decide +kernel
theorem dX1_given_14 : decode cX1_given 14 = .ok (.iconst 1, 1) := by decide +kernel
theorem dX1_given_15 : decode cX1_given 15 = .ok (.iadd, 1) := by decide +kernel
theorem dX1_given_16 : decode cX1_given 16 = .ok (.istore 4, 2) := by decide +kernel
theorem dX1_given_18 : decode cX1_given 18 = .ok (.iload_n 1, 1) := by decide +kernel
theorem dX1_given_19 : decode cX1_given 19 = .ok (.tableswitch 227 10 24 #[73, 83, 114, 125, 138, 227, 227, 227, 227, 227, 227, 150, 170, 184, 215], 73) := by decide +kernel
theorem dX1_given_92 : decode cX1_given 92 = .ok (.aload_n 0, 1) := by decide +kernel
theorem dX1_given_93 : decode cX1_given 93 = .ok (.getfield 19, 3) := by decide +kernel
theorem dX1_given_96 : decode cX1_given 96 = .ok (.getfield 43, 3) := by decide +kernel
theorem dX1_given_99 : decode cX1_given 99 = .ok (.iload_n 2, 1) := by decide +kernel
theorem dX1_given_100 : decode cX1_given 100 = .ok (.iaload, 1) := by decide +kernel
theorem dX1_given_101 : decode cX1_given 101 = .ok (.ireturn, 1) := by decide +kernel
theorem dX1_given_102 : decode cX1_given 102 = .ok (.aload_n 0, 1) := by decide +kernel
theorem dX1_given_103 : decode cX1_given 103 = .ok (.bipush 10, 2) := by decide +kernel
theorem dX1_given_105 : decode cX1_given 105 = .ok (.iload_n 2, 1) := by decide +kernel
theorem dX1_given_106 : decode cX1_given 106 = .ok (.iload 4, 2) := by decide +kernel
theorem dX1_given_108 : decode cX1_given 108 = .ok (.invokevirtual 31, 3) := by decide +kernel
theorem dX1_given_111 : decode cX1_given 111 = .ok (.aload_n 0, 1) := by decide +kernel
theorem dX1_given_112 : decode cX1_given 112 = .ok (.getstatic 35, 3) := by decide +kernel
theorem dX1_given_115 : decode cX1_given 115 = .ok (.aload_n 0, 1) := by decide +kernel
theorem dX1_given_116 : decode cX1_given 116 = .ok (.getfield 19, 3) := by decide +kernel
theorem dX1_given_119 : decode cX1_given 119 = .ok (.getfield 26, 3) := by decide +kernel
theorem dX1_given_122 : decode cX1_given 122 = .ok (.iload_n 2, 1) := by decide +kernel
theorem dX1_given_123 : decode cX1_given 123 = .ok (.iaload, 1) := by decide +kernel
theorem dX1_given_124 : decode cX1_given 124 = .ok (.iaload, 1) := by decide +kernel
theorem dX1_given_125 : decode cX1_given 125 = .ok (.iload_n 2, 1) := by decide +kernel
theorem dX1_given_126 : decode cX1_given 126 = .ok (.iload 4, 2) := by decide +kernel
theorem dX1_given_128 : decode cX1_given 128 = .ok (.invokevirtual 31, 3) := by decide +kernel
theorem dX1_given_131 : decode cX1_given 131 = .ok (.iadd, 1) := by decide +kernel
theorem dX1_given_132 : decode cX1_given 132 = .ok (.ireturn, 1) := by decide +kernel
theorem dX1_given_133 : decode cX1_given 133 = .ok (.aload_n 0, 1) := by decide +kernel
theorem dX1_given_134 : decode cX1_given 134 = .ok (.bipush 11, 2) := by decide +kernel
theorem dX1_given_136 : decode cX1_given 136 = .ok (.iload_n 2, 1) := by decide +kernel
theorem dX1_given_137 : decode cX1_given 137 = .ok (.iload 4, 2) := by decide +kernel
theorem dX1_given_139 : decode cX1_given 139 = .ok (.invokevirtual 31, 3) := by decide +kernel
theorem dX1_given_142 : decode cX1_given 142 = .ok (.ineg, 1) := by decide +kernel
theorem dX1_given_143 : decode cX1_given 143 = .ok (.ireturn, 1) := by decide +kernel
theorem dX1_given_144 : decode cX1_given 144 = .ok (.aload_n 0, 1) := by decide +kernel
theorem dX1_given_145 : decode cX1_given 145 = .ok (.bipush 10, 2) := by decide +kernel
theorem dX1_given_147 : decode cX1_given 147 = .ok (.iload_n 2, 1) := by decide +kernel
theorem dX1_given_148 : decode cX1_given 148 = .ok (.iload 4, 2) := by decide +kernel
theorem dX1_given_150 : decode cX1_given 150 = .ok (.invokevirtual 31, 3) := by decide +kernel
theorem dX1_given_153 : decode cX1_given 153 = .ok (.bipush 100, 2) := by decide +kernel
theorem dX1_given_155 : decode cX1_given 155 = .ok (.isub, 1) := by decide +kernel
theorem dX1_given_156 : decode cX1_given 156 = .ok (.ireturn, 1) := by decide +kernel
theorem dX1_given_157 : decode cX1_given 157 = .ok (.iconst 2, 1) := by decide +kernel
theorem dX1_given_158 : decode cX1_given 158 = .ok (.aload_n 0, 1) := by decide +kernel
theorem dX1_given_159 : decode cX1_given 159 = .ok (.bipush 13, 2) := by decide +kernel
theorem dX1_given_161 : decode cX1_given 161 = .ok (.iload_n 2, 1) := by decide +kernel
theorem dX1_given_162 : decode cX1_given 162 = .ok (.iload 4, 2) := by decide +kernel
theorem dX1_given_164 : decode cX1_given 164 = .ok (.invokevirtual 31, 3) := by decide +kernel
theorem dX1_given_167 : decode cX1_given 167 = .ok (.imul, 1) := by decide +kernel
theorem dX1_given_168 : decode cX1_given 168 = .ok (.ireturn, 1) := by decide +kernel
theorem dX1_given_169 : decode cX1_given 169 = .ok (.aload_n 0, 1) := by decide +kernel
theorem dX1_given_170 : decode cX1_given 170 = .ok (.bipush 20, 2) := by decide +kernel
theorem dX1_given_172 : decode cX1_given 172 = .ok (.iload_n 2, 1) := by decide +kernel
theorem dX1_given_173 : decode cX1_given 173 = .ok (.iload 4, 2) := by decide +kernel
theorem dX1_given_175 : decode cX1_given 175 = .ok (.invokevirtual 31, 3) := by decide +kernel
theorem dX1_given_178 : decode cX1_given 178 = .ok (.aload_n 0, 1) := by decide +kernel
theorem dX1_given_179 : decode cX1_given 179 = .ok (.getfield 19, 3) := by decide +kernel
theorem dX1_given_182 : decode cX1_given 182 = .ok (.getfield 46, 3) := by decide +kernel
theorem dX1_given_185 : decode cX1_given 185 = .ok (.iload_n 2, 1) := by decide +kernel
theorem dX1_given_186 : decode cX1_given 186 = .ok (.iaload, 1) := by decide +kernel
theorem dX1_given_187 : decode cX1_given 187 = .ok (.iadd, 1) := by decide +kernel
theorem dX1_given_188 : decode cX1_given 188 = .ok (.ireturn, 1) := by decide +kernel
theorem dX1_given_189 : decode cX1_given 189 = .ok (.aload_n 0, 1) := by decide +kernel
theorem dX1_given_190 : decode cX1_given 190 = .ok (.bipush 21, 2) := by decide +kernel
theorem dX1_given_192 : decode cX1_given 192 = .ok (.iload_n 2, 1) := by decide +kernel
theorem dX1_given_193 : decode cX1_given 193 = .ok (.iload 4, 2) := by decide +kernel
theorem dX1_given_195 : decode cX1_given 195 = .ok (.invokevirtual 31, 3) := by decide +kernel
theorem dX1_given_198 : decode cX1_given 198 = .ok (.sipush 1000, 3) := by decide +kernel
theorem dX1_given_201 : decode cX1_given 201 = .ok (.isub, 1) := by decide +kernel
theorem dX1_given_202 : decode cX1_given 202 = .ok (.ireturn, 1) := by decide +kernel
theorem dX1_given_203 : decode cX1_given 203 = .ok (.aload_n 0, 1) := by decide +kernel
theorem dX1_given_204 : decode cX1_given 204 = .ok (.bipush 20, 2) := by decide +kernel
theorem dX1_given_206 : decode cX1_given 206 = .ok (.iload_n 2, 1) := by decide +kernel
theorem dX1_given_207 : decode cX1_given 207 = .ok (.iload 4, 2) := by decide +kernel
theorem dX1_given_209 : decode cX1_given 209 = .ok (.invokevirtual 31, 3) := by decide +kernel
theorem dX1_given_212 : decode cX1_given 212 = .ok (.aload_n 0, 1) := by decide +kernel
theorem dX1_given_213 : decode cX1_given 213 = .ok (.getstatic 23, 3) := by decide +kernel
theorem dX1_given_216 : decode cX1_given 216 = .ok (.aload_n 0, 1) := by decide +kernel
theorem dX1_given_217 : decode cX1_given 217 = .ok (.getfield 19, 3) := by decide +kernel
theorem dX1_given_220 : decode cX1_given 220 = .ok (.getfield 26, 3) := by decide +kernel
theorem dX1_given_223 : decode cX1_given 223 = .ok (.iload_n 2, 1) := by decide +kernel
theorem dX1_given_224 : decode cX1_given 224 = .ok (.iaload, 1) := by decide +kernel
theorem dX1_given_225 : decode cX1_given 225 = .ok (.iaload, 1) := by decide +kernel
theorem dX1_given_226 : decode cX1_given 226 = .ok (.iload_n 2, 1) := by decide +kernel
theorem dX1_given_227 : decode cX1_given 227 = .ok (.iload 4, 2) := by decide +kernel
theorem dX1_given_229 : decode cX1_given 229 = .ok (.invokevirtual 31, 3) := by decide +kernel
theorem dX1_given_232 : decode cX1_given 232 = .ok (.isub, 1) := by decide +kernel
theorem dX1_given_233 : decode cX1_given 233 = .ok (.ireturn, 1) := by decide +kernel
theorem dX1_given_234 : decode cX1_given 234 = .ok (.iconst 2, 1) := by decide +kernel
theorem dX1_given_235 : decode cX1_given 235 = .ok (.aload_n 0, 1) := by decide +kernel
theorem dX1_given_236 : decode cX1_given 236 = .ok (.bipush 21, 2) := by decide +kernel
theorem dX1_given_238 : decode cX1_given 238 = .ok (.iload_n 2, 1) := by decide +kernel
theorem dX1_given_239 : decode cX1_given 239 = .ok (.iload 4, 2) := by decide +kernel
theorem dX1_given_241 : decode cX1_given 241 = .ok (.invokevirtual 31, 3) := by decide +kernel
theorem dX1_given_244 : decode cX1_given 244 = .ok (.imul, 1) := by decide +kernel
theorem dX1_given_245 : decode cX1_given 245 = .ok (.ireturn, 1) := by decide +kernel
theorem dX1_given_246 : decode cX1_given 246 = .ok (.iload_n 2, 1) := by decide +kernel
theorem dX1_given_247 : decode cX1_given 247 = .ok (.ireturn, 1) := by decide +kernel
theorem dX2_init_0 : decode cX2_init 0 = .ok (.aload_n 0, 1) := by decide +kernel
theorem dX2_init_1 : decode cX2_init 1 = .ok (.invokespecial 5, 3) := by decide +kernel
theorem dX2_init_4 : decode cX2_init 4 = .ok (.aload_n 0, 1) := by decide +kernel
theorem dX2_init_5 : decode cX2_init 5 = .ok (.bipush 19, 2) := by decide +kernel
theorem dX2_init_7 : decode cX2_init 7 = .ok (.newarray .int, 2) := by decide +kernel
theorem dX2_init_9 : decode cX2_init 9 = .ok (.putfield 11, 3) := by decide +kernel
theorem dX2_init_12 : decode cX2_init 12 = .ok (.return_, 1) := by decide +kernel
theorem dX2_empty_0 : decode cX2_empty 0 = .ok (.aload_n 0, 1) := by decide +kernel
theorem dX2_empty_1 : decode cX2_empty 1 = .ok (.getfield 11, 3) := by decide +kernel
theorem dX2_empty_4 : decode cX2_empty 4 = .ok (.iconst 0, 1) := by decide +kernel
theorem dX2_empty_5 : decode cX2_empty 5 = .ok (.invokestatic 15, 3) := by decide +kernel
theorem dX2_empty_8 : decode cX2_empty 8 = .ok (.return_, 1) := by decide +kernel
theorem dX2_become_0 : decode cX2_become 0 = .ok (.aload_n 1, 1) := by decide +kernel
theorem dX2_become_1 : decode cX2_become 1 = .ok (.getfield 11, 3) := by decide +kernel
theorem dX2_become_4 : decode cX2_become 4 = .ok (.iconst 0, 1) := by decide +kernel
theorem dX2_become_5 : decode cX2_become 5 = .ok (.aload_n 0, 1) := by decide +kernel
theorem dX2_become_6 : decode cX2_become 6 = .ok (.getfield 11, 3) := by decide +kernel
theorem dX2_become_9 : decode cX2_become 9 = .ok (.iconst 0, 1) := by decide +kernel
theorem dX2_become_10 : decode cX2_become 10 = .ok (.bipush 19, 2) := by decide +kernel
theorem dX2_become_12 : decode cX2_become 12 = .ok (.invokestatic 21, 3) := by decide +kernel
theorem dX2_become_15 : decode cX2_become 15 = .ok (.return_, 1) := by decide +kernel
theorem dX2_today_0 : decode cX2_today 0 = .ok (.aload_n 0, 1) := by decide +kernel
theorem dX2_today_1 : decode cX2_today 1 = .ok (.getfield 11, 3) := by decide +kernel
theorem dX2_today_4 : decode cX2_today 4 = .ok (.iconst 0, 1) := by decide +kernel
theorem dX2_today_5 : decode cX2_today 5 = .ok (.iaload, 1) := by decide +kernel
theorem dX2_today_6 : decode cX2_today 6 = .ok (.ireturn, 1) := by decide +kernel
theorem dX2_isMissing_0 : decode cX2_isMissing 0 = .ok (.aload_n 0, 1) := by decide +kernel
theorem dX2_isMissing_1 : decode cX2_isMissing 1 = .ok (.getfield 11, 3) := by decide +kernel
theorem dX2_isMissing_4 : decode cX2_isMissing 4 = .ok (.iconst 1, 1) := by decide +kernel
theorem dX2_isMissing_5 : decode cX2_isMissing 5 = .ok (.iload_n 1, 1) := by decide +kernel
theorem dX2_isMissing_6 : decode cX2_isMissing 6 = .ok (.iadd, 1) := by decide +kernel
theorem dX2_isMissing_7 : decode cX2_isMissing 7 = .ok (.iaload, 1) := by decide +kernel
theorem dX2_isMissing_8 : decode cX2_isMissing 8 = .ok (.ifCond .ne 7, 3) := by decide +kernel
theorem dX2_isMissing_11 : decode cX2_isMissing 11 = .ok (.iconst 1, 1) := by decide +kernel
theorem dX2_isMissing_12 : decode cX2_isMissing 12 = .ok (.goto 4, 3) := by decide +kernel
theorem dX2_isMissing_15 : decode cX2_isMissing 15 = .ok (.iconst 0, 1) := by decide +kernel
theorem dX2_isMissing_16 : decode cX2_isMissing 16 = .ok (.ireturn, 1) := by decide +kernel
theorem dX2_whomOf_0 : decode cX2_whomOf 0 = .ok (.aload_n 0, 1) := by decide +kernel
theorem dX2_whomOf_1 : decode cX2_whomOf 1 = .ok (.getfield 11, 3) := by decide +kernel
theorem dX2_whomOf_4 : decode cX2_whomOf 4 = .ok (.iconst 1, 1) := by decide +kernel
theorem dX2_whomOf_5 : decode cX2_whomOf 5 = .ok (.iload_n 1, 1) := by decide +kernel
theorem dX2_whomOf_6 : decode cX2_whomOf 6 = .ok (.iadd, 1) := by decide +kernel
theorem dX2_whomOf_7 : decode cX2_whomOf 7 = .ok (.iaload, 1) := by decide +kernel
theorem dX2_whomOf_8 : decode cX2_whomOf 8 = .ok (.iconst 1, 1) := by decide +kernel
theorem dX2_whomOf_9 : decode cX2_whomOf 9 = .ok (.isub, 1) := by decide +kernel
theorem dX2_whomOf_10 : decode cX2_whomOf 10 = .ok (.ireturn, 1) := by decide +kernel
theorem dX2_maltOf_0 : decode cX2_maltOf 0 = .ok (.aload_n 0, 1) := by decide +kernel
theorem dX2_maltOf_1 : decode cX2_maltOf 1 = .ok (.getfield 11, 3) := by decide +kernel
theorem dX2_maltOf_4 : decode cX2_maltOf 4 = .ok (.iconst 5, 1) := by decide +kernel
theorem dX2_maltOf_5 : decode cX2_maltOf 5 = .ok (.iload_n 1, 1) := by decide +kernel
theorem dX2_maltOf_6 : decode cX2_maltOf 6 = .ok (.iadd, 1) := by decide +kernel
theorem dX2_maltOf_7 : decode cX2_maltOf 7 = .ok (.iaload, 1) := by decide +kernel
theorem dX2_maltOf_8 : decode cX2_maltOf 8 = .ok (.ireturn, 1) := by decide +kernel
theorem dX2_ageOf_0 : decode cX2_ageOf 0 = .ok (.aload_n 0, 1) := by decide +kernel
theorem dX2_ageOf_1 : decode cX2_ageOf 1 = .ok (.getfield 11, 3) := by decide +kernel
theorem dX2_ageOf_4 : decode cX2_ageOf 4 = .ok (.bipush 9, 2) := by decide +kernel
theorem dX2_ageOf_6 : decode cX2_ageOf 6 = .ok (.iload_n 1, 1) := by decide +kernel
theorem dX2_ageOf_7 : decode cX2_ageOf 7 = .ok (.iadd, 1) := by decide +kernel
theorem dX2_ageOf_8 : decode cX2_ageOf 8 = .ok (.iaload, 1) := by decide +kernel
theorem dX2_ageOf_9 : decode cX2_ageOf 9 = .ok (.ireturn, 1) := by decide +kernel
theorem dX2_notesOf_0 : decode cX2_notesOf 0 = .ok (.aload_n 0, 1) := by decide +kernel
theorem dX2_notesOf_1 : decode cX2_notesOf 1 = .ok (.getfield 11, 3) := by decide +kernel
theorem dX2_notesOf_4 : decode cX2_notesOf 4 = .ok (.bipush 13, 2) := by decide +kernel
theorem dX2_notesOf_6 : decode cX2_notesOf 6 = .ok (.iload_n 1, 1) := by decide +kernel
theorem dX2_notesOf_7 : decode cX2_notesOf 7 = .ok (.iadd, 1) := by decide +kernel
theorem dX2_notesOf_8 : decode cX2_notesOf 8 = .ok (.iaload, 1) := by decide +kernel
theorem dX2_notesOf_9 : decode cX2_notesOf 9 = .ok (.ireturn, 1) := by decide +kernel
theorem dX2_maltOfBoth_0 : decode cX2_maltOfBoth 0 = .ok (.bipush 20, 2) := by decide +kernel
theorem dX2_maltOfBoth_2 : decode cX2_maltOfBoth 2 = .ok (.aload_n 0, 1) := by decide +kernel
theorem dX2_maltOfBoth_3 : decode cX2_maltOfBoth 3 = .ok (.iload_n 1, 1) := by decide +kernel
theorem dX2_maltOfBoth_4 : decode cX2_maltOfBoth 4 = .ok (.invokevirtual 27, 3) := by decide +kernel
theorem dX2_maltOfBoth_7 : decode cX2_maltOfBoth 7 = .ok (.aload_n 0, 1) := by decide +kernel
theorem dX2_maltOfBoth_8 : decode cX2_maltOfBoth 8 = .ok (.iload_n 2, 1) := by decide +kernel
theorem dX2_maltOfBoth_9 : decode cX2_maltOfBoth 9 = .ok (.invokevirtual 27, 3) := by decide +kernel
theorem dX2_maltOfBoth_12 : decode cX2_maltOfBoth 12 = .ok (.iadd, 1) := by decide +kernel
theorem dX2_maltOfBoth_13 : decode cX2_maltOfBoth 13 = .ok (.invokestatic 31, 3) := by decide +kernel
theorem dX2_maltOfBoth_16 : decode cX2_maltOfBoth 16 = .ok (.ireturn, 1) := by decide +kernel
theorem dX2_fill_0 : decode cX2_fill 0 = .ok (.aload_n 0, 1) := by decide +kernel
theorem dX2_fill_1 : decode cX2_fill 1 = .ok (.getfield 11, 3) := by decide +kernel
theorem dX2_fill_4 : decode cX2_fill 4 = .ok (.iconst 1, 1) := by decide +kernel
theorem dX2_fill_5 : decode cX2_fill 5 = .ok (.iload_n 1, 1) := by decide +kernel
theorem dX2_fill_6 : decode cX2_fill 6 = .ok (.iadd, 1) := by decide +kernel
theorem dX2_fill_7 : decode cX2_fill 7 = .ok (.iload_n 2, 1) := by decide +kernel
theorem dX2_fill_8 : decode cX2_fill 8 = .ok (.iconst 1, 1) := by decide +kernel
theorem dX2_fill_9 : decode cX2_fill 9 = .ok (.iadd, 1) := by decide +kernel
theorem dX2_fill_10 : decode cX2_fill 10 = .ok (.iastore, 1) := by decide +kernel
theorem dX2_fill_11 : decode cX2_fill 11 = .ok (.aload_n 0, 1) := by decide +kernel
theorem dX2_fill_12 : decode cX2_fill 12 = .ok (.getfield 11, 3) := by decide +kernel
theorem dX2_fill_15 : decode cX2_fill 15 = .ok (.iconst 5, 1) := by decide +kernel
theorem dX2_fill_16 : decode cX2_fill 16 = .ok (.iload_n 1, 1) := by decide +kernel
theorem dX2_fill_17 : decode cX2_fill 17 = .ok (.iadd, 1) := by decide +kernel
theorem dX2_fill_18 : decode cX2_fill 18 = .ok (.iload_n 3, 1) := by decide +kernel
theorem dX2_fill_19 : decode cX2_fill 19 = .ok (.iastore, 1) := by decide +kernel
theorem dX2_fill_20 : decode cX2_fill 20 = .ok (.aload_n 0, 1) := by decide +kernel
theorem dX2_fill_21 : decode cX2_fill 21 = .ok (.getfield 11, 3) := by decide +kernel
theorem dX2_fill_24 : decode cX2_fill 24 = .ok (.bipush 9, 2) := by decide +kernel
theorem dX2_fill_26 : decode cX2_fill 26 = .ok (.iload_n 1, 1) := by decide +kernel
theorem dX2_fill_27 : decode cX2_fill 27 = .ok (.iadd, 1) := by decide +kernel
theorem dX2_fill_28 : decode cX2_fill 28 = .ok (.iconst 0, 1) := by decide +kernel
theorem dX2_fill_29 : decode cX2_fill 29 = .ok (.iastore, 1) := by decide +kernel
theorem dX2_fill_30 : decode cX2_fill 30 = .ok (.return_, 1) := by decide +kernel
theorem dX2_setMalt_0 : decode cX2_setMalt 0 = .ok (.aload_n 0, 1) := by decide +kernel
theorem dX2_setMalt_1 : decode cX2_setMalt 1 = .ok (.getfield 11, 3) := by decide +kernel
theorem dX2_setMalt_4 : decode cX2_setMalt 4 = .ok (.iconst 5, 1) := by decide +kernel
theorem dX2_setMalt_5 : decode cX2_setMalt 5 = .ok (.iload_n 1, 1) := by decide +kernel
theorem dX2_setMalt_6 : decode cX2_setMalt 6 = .ok (.iadd, 1) := by decide +kernel
theorem dX2_setMalt_7 : decode cX2_setMalt 7 = .ok (.iload_n 2, 1) := by decide +kernel
theorem dX2_setMalt_8 : decode cX2_setMalt 8 = .ok (.iastore, 1) := by decide +kernel
theorem dX2_setMalt_9 : decode cX2_setMalt 9 = .ok (.return_, 1) := by decide +kernel
theorem dX2_lose_0 : decode cX2_lose 0 = .ok (.aload_n 0, 1) := by decide +kernel
theorem dX2_lose_1 : decode cX2_lose 1 = .ok (.getfield 11, 3) := by decide +kernel
theorem dX2_lose_4 : decode cX2_lose 4 = .ok (.iconst 1, 1) := by decide +kernel
theorem dX2_lose_5 : decode cX2_lose 5 = .ok (.iload_n 1, 1) := by decide +kernel
theorem dX2_lose_6 : decode cX2_lose 6 = .ok (.iadd, 1) := by decide +kernel
theorem dX2_lose_7 : decode cX2_lose 7 = .ok (.iconst 0, 1) := by decide +kernel
theorem dX2_lose_8 : decode cX2_lose 8 = .ok (.iastore, 1) := by decide +kernel
theorem dX2_lose_9 : decode cX2_lose 9 = .ok (.return_, 1) := by decide +kernel
theorem dX2_note_0 : decode cX2_note 0 = .ok (.aload_n 0, 1) := by decide +kernel
theorem dX2_note_1 : decode cX2_note 1 = .ok (.getfield 11, 3) := by decide +kernel
theorem dX2_note_4 : decode cX2_note 4 = .ok (.bipush 13, 2) := by decide +kernel
theorem dX2_note_6 : decode cX2_note 6 = .ok (.iload_n 1, 1) := by decide +kernel
theorem dX2_note_7 : decode cX2_note 7 = .ok (.iadd, 1) := by decide +kernel
theorem dX2_note_8 : decode cX2_note 8 = .ok (.dup2, 1) := by decide +kernel
theorem dX2_note_9 : decode cX2_note 9 = .ok (.iaload, 1) := by decide +kernel
theorem dX2_note_10 : decode cX2_note 10 = .ok (.iload_n 2, 1) := by decide +kernel
theorem dX2_note_11 : decode cX2_note 11 = .ok (.ior, 1) := by decide +kernel
theorem dX2_note_12 : decode cX2_note 12 = .ok (.iastore, 1) := by decide +kernel
theorem dX2_note_13 : decode cX2_note 13 = .ok (.return_, 1) := by decide +kernel
theorem dX2_passDay_0 : decode cX2_passDay 0 = .ok (.aload_n 0, 1) := by decide +kernel
theorem dX2_passDay_1 : decode cX2_passDay 1 = .ok (.getfield 11, 3) := by decide +kernel
theorem dX2_passDay_4 : decode cX2_passDay 4 = .ok (.iconst 0, 1) := by decide +kernel
theorem dX2_passDay_5 : decode cX2_passDay 5 = .ok (.dup2, 1) := by decide +kernel
theorem dX2_passDay_6 : decode cX2_passDay 6 = .ok (.iaload, 1) := by decide +kernel
theorem dX2_passDay_7 : decode cX2_passDay 7 = .ok (.iconst 1, 1) := by decide +kernel
theorem dX2_passDay_8 : decode cX2_passDay 8 = .ok (.iadd, 1) := by decide +kernel
theorem dX2_passDay_9 : decode cX2_passDay 9 = .ok (.iastore, 1) := by decide +kernel
theorem dX2_passDay_10 : decode cX2_passDay 10 = .ok (.iconst 0, 1) := by decide +kernel
theorem dX2_passDay_11 : decode cX2_passDay 11 = .ok (.istore_n 1, 1) := by decide +kernel
theorem dX2_passDay_12 : decode cX2_passDay 12 = .ok (.iload_n 1, 1) := by decide +kernel
theorem dX2_passDay_13 : decode cX2_passDay 13 = .ok (.iconst 4, 1) := by decide +kernel
theorem dX2_passDay_14 : decode cX2_passDay 14 = .ok (.if_icmp .ge 22, 3) := by decide +kernel
theorem dX2_passDay_17 : decode cX2_passDay 17 = .ok (.aload_n 0, 1) := by decide +kernel
theorem dX2_passDay_18 : decode cX2_passDay 18 = .ok (.getfield 11, 3) := by decide +kernel
theorem dX2_passDay_21 : decode cX2_passDay 21 = .ok (.bipush 9, 2) := by decide +kernel
theorem dX2_passDay_23 : decode cX2_passDay 23 = .ok (.iload_n 1, 1) := by decide +kernel
theorem dX2_passDay_24 : decode cX2_passDay 24 = .ok (.iadd, 1) := by decide +kernel
theorem dX2_passDay_25 : decode cX2_passDay 25 = .ok (.dup2, 1) := by decide +kernel
theorem dX2_passDay_26 : decode cX2_passDay 26 = .ok (.iaload, 1) := by decide +kernel
theorem dX2_passDay_27 : decode cX2_passDay 27 = .ok (.iconst 1, 1) := by decide +kernel
theorem dX2_passDay_28 : decode cX2_passDay 28 = .ok (.iadd, 1) := by decide +kernel
theorem dX2_passDay_29 : decode cX2_passDay 29 = .ok (.iastore, 1) := by decide +kernel
theorem dX2_passDay_30 : decode cX2_passDay 30 = .ok (.iinc 1 1, 3) := by decide +kernel
theorem dX2_passDay_33 : decode cX2_passDay 33 = .ok (.goto (-21), 3) := by decide +kernel
theorem dX2_passDay_36 : decode cX2_passDay 36 = .ok (.return_, 1) := by decide +kernel
theorem dX2_leastMissing_0 : decode cX2_leastMissing 0 = .ok (.iconst 0, 1) := by decide +kernel
theorem dX2_leastMissing_1 : decode cX2_leastMissing 1 = .ok (.istore_n 1, 1) := by decide +kernel
theorem dX2_leastMissing_2 : decode cX2_leastMissing 2 = .ok (.iload_n 1, 1) := by decide +kernel
theorem dX2_leastMissing_3 : decode cX2_leastMissing 3 = .ok (.iconst 4, 1) := by decide +kernel
theorem dX2_leastMissing_4 : decode cX2_leastMissing 4 = .ok (.if_icmp .ge 19, 3) := by decide +kernel
theorem dX2_leastMissing_7 : decode cX2_leastMissing 7 = .ok (.aload_n 0, 1) := by decide +kernel
theorem dX2_leastMissing_8 : decode cX2_leastMissing 8 = .ok (.iload_n 1, 1) := by decide +kernel
theorem dX2_leastMissing_9 : decode cX2_leastMissing 9 = .ok (.invokevirtual 37, 3) := by decide +kernel
theorem dX2_leastMissing_12 : decode cX2_leastMissing 12 = .ok (.ifCond .eq 5, 3) := by decide +kernel
theorem dX2_leastMissing_15 : decode cX2_leastMissing 15 = .ok (.iload_n 1, 1) := by decide +kernel
theorem dX2_leastMissing_16 : decode cX2_leastMissing 16 = .ok (.ireturn, 1) := by decide +kernel
theorem dX2_leastMissing_17 : decode cX2_leastMissing 17 = .ok (.iinc 1 1, 3) := by decide +kernel
theorem dX2_leastMissing_20 : decode cX2_leastMissing 20 = .ok (.goto (-18), 3) := by decide +kernel
theorem dX2_leastMissing_23 : decode cX2_leastMissing 23 = .ok (.ldc 41, 2) := by decide +kernel
theorem dX2_leastMissing_25 : decode cX2_leastMissing 25 = .ok (.ireturn, 1) := by decide +kernel
theorem dX2_howMany_0 : decode cX2_howMany 0 = .ok (.iconst 0, 1) := by decide +kernel
theorem dX2_howMany_1 : decode cX2_howMany 1 = .ok (.istore_n 1, 1) := by decide +kernel
theorem dX2_howMany_2 : decode cX2_howMany 2 = .ok (.iconst 0, 1) := by decide +kernel
theorem dX2_howMany_3 : decode cX2_howMany 3 = .ok (.istore_n 2, 1) := by decide +kernel
theorem dX2_howMany_4 : decode cX2_howMany 4 = .ok (.iload_n 2, 1) := by decide +kernel
theorem dX2_howMany_5 : decode cX2_howMany 5 = .ok (.iconst 4, 1) := by decide +kernel
theorem dX2_howMany_6 : decode cX2_howMany 6 = .ok (.if_icmp .ge 20, 3) := by decide +kernel
theorem dX2_howMany_9 : decode cX2_howMany 9 = .ok (.aload_n 0, 1) := by decide +kernel
theorem dX2_howMany_10 : decode cX2_howMany 10 = .ok (.iload_n 2, 1) := by decide +kernel
theorem dX2_howMany_11 : decode cX2_howMany 11 = .ok (.invokevirtual 37, 3) := by decide +kernel
theorem dX2_howMany_14 : decode cX2_howMany 14 = .ok (.ifCond .ne 6, 3) := by decide +kernel
theorem dX2_howMany_17 : decode cX2_howMany 17 = .ok (.iinc 1 1, 3) := by decide +kernel
theorem dX2_howMany_20 : decode cX2_howMany 20 = .ok (.iinc 2 1, 3) := by decide +kernel
theorem dX2_howMany_23 : decode cX2_howMany 23 = .ok (.goto (-19), 3) := by decide +kernel
theorem dX2_howMany_26 : decode cX2_howMany 26 = .ok (.iload_n 1, 1) := by decide +kernel
theorem dX2_howMany_27 : decode cX2_howMany 27 = .ok (.ireturn, 1) := by decide +kernel
theorem dX2_allMalt_0 : decode cX2_allMalt 0 = .ok (.iconst 0, 1) := by decide +kernel
theorem dX2_allMalt_1 : decode cX2_allMalt 1 = .ok (.istore_n 1, 1) := by decide +kernel
theorem dX2_allMalt_2 : decode cX2_allMalt 2 = .ok (.iconst 0, 1) := by decide +kernel
theorem dX2_allMalt_3 : decode cX2_allMalt 3 = .ok (.istore_n 2, 1) := by decide +kernel
theorem dX2_allMalt_4 : decode cX2_allMalt 4 = .ok (.iload_n 2, 1) := by decide +kernel
theorem dX2_allMalt_5 : decode cX2_allMalt 5 = .ok (.iconst 4, 1) := by decide +kernel
theorem dX2_allMalt_6 : decode cX2_allMalt 6 = .ok (.if_icmp .ge 25, 3) := by decide +kernel
theorem dX2_allMalt_9 : decode cX2_allMalt 9 = .ok (.aload_n 0, 1) := by decide +kernel
theorem dX2_allMalt_10 : decode cX2_allMalt 10 = .ok (.iload_n 2, 1) := by decide +kernel
theorem dX2_allMalt_11 : decode cX2_allMalt 11 = .ok (.invokevirtual 37, 3) := by decide +kernel
theorem dX2_allMalt_14 : decode cX2_allMalt 14 = .ok (.ifCond .ne 11, 3) := by decide +kernel
theorem dX2_allMalt_17 : decode cX2_allMalt 17 = .ok (.iload_n 1, 1) := by decide +kernel
theorem dX2_allMalt_18 : decode cX2_allMalt 18 = .ok (.aload_n 0, 1) := by decide +kernel
theorem dX2_allMalt_19 : decode cX2_allMalt 19 = .ok (.iload_n 2, 1) := by decide +kernel
theorem dX2_allMalt_20 : decode cX2_allMalt 20 = .ok (.invokevirtual 27, 3) := by decide +kernel
theorem dX2_allMalt_23 : decode cX2_allMalt 23 = .ok (.iadd, 1) := by decide +kernel
theorem dX2_allMalt_24 : decode cX2_allMalt 24 = .ok (.istore_n 1, 1) := by decide +kernel
theorem dX2_allMalt_25 : decode cX2_allMalt 25 = .ok (.iinc 2 1, 3) := by decide +kernel
theorem dX2_allMalt_28 : decode cX2_allMalt 28 = .ok (.goto (-24), 3) := by decide +kernel
theorem dX2_allMalt_31 : decode cX2_allMalt 31 = .ok (.iload_n 1, 1) := by decide +kernel
theorem dX2_allMalt_32 : decode cX2_allMalt 32 = .ok (.ireturn, 1) := by decide +kernel
theorem dX2_allNotes_0 : decode cX2_allNotes 0 = .ok (.iconst 0, 1) := by decide +kernel
theorem dX2_allNotes_1 : decode cX2_allNotes 1 = .ok (.istore_n 1, 1) := by decide +kernel
theorem dX2_allNotes_2 : decode cX2_allNotes 2 = .ok (.iconst 0, 1) := by decide +kernel
theorem dX2_allNotes_3 : decode cX2_allNotes 3 = .ok (.istore_n 2, 1) := by decide +kernel
theorem dX2_allNotes_4 : decode cX2_allNotes 4 = .ok (.iload_n 2, 1) := by decide +kernel
theorem dX2_allNotes_5 : decode cX2_allNotes 5 = .ok (.bipush 6, 2) := by decide +kernel
theorem dX2_allNotes_7 : decode cX2_allNotes 7 = .ok (.if_icmp .ge 20, 3) := by decide +kernel
theorem dX2_allNotes_10 : decode cX2_allNotes 10 = .ok (.iload_n 1, 1) := by decide +kernel
theorem dX2_allNotes_11 : decode cX2_allNotes 11 = .ok (.aload_n 0, 1) := by decide +kernel
theorem dX2_allNotes_12 : decode cX2_allNotes 12 = .ok (.iload_n 2, 1) := by decide +kernel
theorem dX2_allNotes_13 : decode cX2_allNotes 13 = .ok (.invokevirtual 42, 3) := by decide +kernel
theorem dX2_allNotes_16 : decode cX2_allNotes 16 = .ok (.invokestatic 45, 3) := by decide +kernel
theorem dX2_allNotes_19 : decode cX2_allNotes 19 = .ok (.iadd, 1) := by decide +kernel
theorem dX2_allNotes_20 : decode cX2_allNotes 20 = .ok (.istore_n 1, 1) := by decide +kernel
theorem dX2_allNotes_21 : decode cX2_allNotes 21 = .ok (.iinc 2 1, 3) := by decide +kernel
theorem dX2_allNotes_24 : decode cX2_allNotes 24 = .ok (.goto (-20), 3) := by decide +kernel
theorem dX2_allNotes_27 : decode cX2_allNotes 27 = .ok (.iload_n 1, 1) := by decide +kernel
theorem dX2_allNotes_28 : decode cX2_allNotes 28 = .ok (.ireturn, 1) := by decide +kernel
theorem dX3_init_0 : decode cX3_init 0 = .ok (.aload_n 0, 1) := by decide +kernel
theorem dX3_init_1 : decode cX3_init 1 = .ok (.invokespecial 3, 3) := by decide +kernel
theorem dX3_init_4 : decode cX3_init 4 = .ok (.aload_n 0, 1) := by decide +kernel
theorem dX3_init_5 : decode cX3_init 5 = .ok (.new 9, 3) := by decide +kernel
theorem dX3_init_8 : decode cX3_init 8 = .ok (.dup, 1) := by decide +kernel
theorem dX3_init_9 : decode cX3_init 9 = .ok (.invokespecial 11, 3) := by decide +kernel
theorem dX3_init_12 : decode cX3_init 12 = .ok (.putfield 12, 3) := by decide +kernel
theorem dX3_init_15 : decode cX3_init 15 = .ok (.aload_n 0, 1) := by decide +kernel
theorem dX3_init_16 : decode cX3_init 16 = .ok (.bipush 11, 2) := by decide +kernel
theorem dX3_init_18 : decode cX3_init 18 = .ok (.newarray .long, 2) := by decide +kernel
theorem dX3_init_20 : decode cX3_init 20 = .ok (.putfield 18, 3) := by decide +kernel
theorem dX3_init_23 : decode cX3_init 23 = .ok (.aload_n 0, 1) := by decide +kernel
theorem dX3_init_24 : decode cX3_init 24 = .ok (.aload_n 1, 1) := by decide +kernel
theorem dX3_init_25 : decode cX3_init 25 = .ok (.putfield 22, 3) := by decide +kernel
theorem dX3_init_28 : decode cX3_init 28 = .ok (.aload_n 0, 1) := by decide +kernel
theorem dX3_init_29 : decode cX3_init 29 = .ok (.aload_n 2, 1) := by decide +kernel
theorem dX3_init_30 : decode cX3_init 30 = .ok (.putfield 26, 3) := by decide +kernel
theorem dX3_init_33 : decode cX3_init 33 = .ok (.return_, 1) := by decide +kernel
theorem dX3_fewestTold_0 : decode cX3_fewestTold 0 = .ok (.ldc 30, 2) := by decide +kernel
theorem dX3_fewestTold_2 : decode cX3_fewestTold 2 = .ok (.istore 4, 2) := by decide +kernel
theorem dX3_fewestTold_4 : decode cX3_fewestTold 4 = .ok (.aload_n 0, 1) := by decide +kernel
theorem dX3_fewestTold_5 : decode cX3_fewestTold 5 = .ok (.getfield 26, 3) := by decide +kernel
theorem dX3_fewestTold_8 : decode cX3_fewestTold 8 = .ok (.invokevirtual 31, 3) := by decide +kernel
theorem dX3_fewestTold_11 : decode cX3_fewestTold 11 = .ok (.iconst 0, 1) := by decide +kernel
theorem dX3_fewestTold_12 : decode cX3_fewestTold 12 = .ok (.istore 5, 2) := by decide +kernel
theorem dX3_fewestTold_14 : decode cX3_fewestTold 14 = .ok (.iload 5, 2) := by decide +kernel
theorem dX3_fewestTold_16 : decode cX3_fewestTold 16 = .ok (.aload_n 0, 1) := by decide +kernel
theorem dX3_fewestTold_17 : decode cX3_fewestTold 17 = .ok (.getfield 22, 3) := by decide +kernel
theorem dX3_fewestTold_20 : decode cX3_fewestTold 20 = .ok (.invokevirtual 36, 3) := by decide +kernel
theorem dX3_fewestTold_23 : decode cX3_fewestTold 23 = .ok (.if_icmp .gt 58, 3) := by decide +kernel
theorem dX3_fewestTold_26 : decode cX3_fewestTold 26 = .ok (.iload 4, 2) := by decide +kernel
theorem dX3_fewestTold_28 : decode cX3_fewestTold 28 = .ok (.ldc 30, 2) := by decide +kernel
theorem dX3_fewestTold_30 : decode cX3_fewestTold 30 = .ok (.if_icmp .eq 16, 3) := by decide +kernel
theorem dX3_fewestTold_33 : decode cX3_fewestTold 33 = .ok (.iload 5, 2) := by decide +kernel
theorem dX3_fewestTold_35 : decode cX3_fewestTold 35 = .ok (.invokestatic 42, 3) := by decide +kernel
theorem dX3_fewestTold_38 : decode cX3_fewestTold 38 = .ok (.iload 4, 2) := by decide +kernel
theorem dX3_fewestTold_40 : decode cX3_fewestTold 40 = .ok (.invokestatic 42, 3) := by decide +kernel
theorem dX3_fewestTold_43 : decode cX3_fewestTold 43 = .ok (.if_icmp .ge 32, 3) := by decide +kernel
theorem dX3_fewestTold_46 : decode cX3_fewestTold 46 = .ok (.aload_n 0, 1) := by decide +kernel
theorem dX3_fewestTold_47 : decode cX3_fewestTold 47 = .ok (.getfield 26, 3) := by decide +kernel
theorem dX3_fewestTold_50 : decode cX3_fewestTold 50 = .ok (.iload_n 1, 1) := by decide +kernel
theorem dX3_fewestTold_51 : decode cX3_fewestTold 51 = .ok (.iload 5, 2) := by decide +kernel
theorem dX3_fewestTold_53 : decode cX3_fewestTold 53 = .ok (.invokevirtual 48, 3) := by decide +kernel
theorem dX3_fewestTold_56 : decode cX3_fewestTold 56 = .ok (.aload_n 0, 1) := by decide +kernel
theorem dX3_fewestTold_57 : decode cX3_fewestTold 57 = .ok (.getfield 26, 3) := by decide +kernel
theorem dX3_fewestTold_60 : decode cX3_fewestTold 60 = .ok (.getfield 52, 3) := by decide +kernel
theorem dX3_fewestTold_63 : decode cX3_fewestTold 63 = .ok (.iload_n 2, 1) := by decide +kernel
theorem dX3_fewestTold_64 : decode cX3_fewestTold 64 = .ok (.iload_n 3, 1) := by decide +kernel
theorem dX3_fewestTold_65 : decode cX3_fewestTold 65 = .ok (.ior, 1) := by decide +kernel
theorem dX3_fewestTold_66 : decode cX3_fewestTold 66 = .ok (.iand, 1) := by decide +kernel
theorem dX3_fewestTold_67 : decode cX3_fewestTold 67 = .ok (.iload_n 2, 1) := by decide +kernel
theorem dX3_fewestTold_68 : decode cX3_fewestTold 68 = .ok (.if_icmp .ne 7, 3) := by decide +kernel
theorem dX3_fewestTold_71 : decode cX3_fewestTold 71 = .ok (.iload 5, 2) := by decide +kernel
theorem dX3_fewestTold_73 : decode cX3_fewestTold 73 = .ok (.istore 4, 2) := by decide +kernel
theorem dX3_fewestTold_75 : decode cX3_fewestTold 75 = .ok (.iinc 5 1, 3) := by decide +kernel
theorem dX3_fewestTold_78 : decode cX3_fewestTold 78 = .ok (.goto (-64), 3) := by decide +kernel
theorem dX3_fewestTold_81 : decode cX3_fewestTold 81 = .ok (.iload 4, 2) := by decide +kernel
theorem dX3_fewestTold_83 : decode cX3_fewestTold 83 = .ok (.ireturn, 1) := by decide +kernel
theorem dX3_fewestWithout_0 : decode cX3_fewestWithout 0 = .ok (.ldc 30, 2) := by decide +kernel
theorem dX3_fewestWithout_2 : decode cX3_fewestWithout 2 = .ok (.istore 4, 2) := by decide +kernel
theorem dX3_fewestWithout_4 : decode cX3_fewestWithout 4 = .ok (.aload_n 0, 1) := by decide +kernel
theorem dX3_fewestWithout_5 : decode cX3_fewestWithout 5 = .ok (.getfield 26, 3) := by decide +kernel
theorem dX3_fewestWithout_8 : decode cX3_fewestWithout 8 = .ok (.invokevirtual 31, 3) := by decide +kernel
theorem dX3_fewestWithout_11 : decode cX3_fewestWithout 11 = .ok (.iconst 0, 1) := by decide +kernel
theorem dX3_fewestWithout_12 : decode cX3_fewestWithout 12 = .ok (.istore 5, 2) := by decide +kernel
theorem dX3_fewestWithout_14 : decode cX3_fewestWithout 14 = .ok (.iload 5, 2) := by decide +kernel
theorem dX3_fewestWithout_16 : decode cX3_fewestWithout 16 = .ok (.iconst 1, 1) := by decide +kernel
theorem dX3_fewestWithout_17 : decode cX3_fewestWithout 17 = .ok (.aload_n 0, 1) := by decide +kernel
theorem dX3_fewestWithout_18 : decode cX3_fewestWithout 18 = .ok (.getfield 22, 3) := by decide +kernel
theorem dX3_fewestWithout_21 : decode cX3_fewestWithout 21 = .ok (.getfield 56, 3) := by decide +kernel
theorem dX3_fewestWithout_24 : decode cX3_fewestWithout 24 = .ok (.ishl, 1) := by decide +kernel
theorem dX3_fewestWithout_25 : decode cX3_fewestWithout 25 = .ok (.if_icmp .ge 67, 3) := by decide +kernel
theorem dX3_fewestWithout_28 : decode cX3_fewestWithout 28 = .ok (.iload 4, 2) := by decide +kernel
theorem dX3_fewestWithout_30 : decode cX3_fewestWithout 30 = .ok (.ldc 30, 2) := by decide +kernel
theorem dX3_fewestWithout_32 : decode cX3_fewestWithout 32 = .ok (.if_icmp .eq 16, 3) := by decide +kernel
theorem dX3_fewestWithout_35 : decode cX3_fewestWithout 35 = .ok (.iload 5, 2) := by decide +kernel
theorem dX3_fewestWithout_37 : decode cX3_fewestWithout 37 = .ok (.invokestatic 42, 3) := by decide +kernel
theorem dX3_fewestWithout_40 : decode cX3_fewestWithout 40 = .ok (.iload 4, 2) := by decide +kernel
theorem dX3_fewestWithout_42 : decode cX3_fewestWithout 42 = .ok (.invokestatic 42, 3) := by decide +kernel
theorem dX3_fewestWithout_45 : decode cX3_fewestWithout 45 = .ok (.if_icmp .ge 41, 3) := by decide +kernel
theorem dX3_fewestWithout_48 : decode cX3_fewestWithout 48 = .ok (.aload_n 0, 1) := by decide +kernel
theorem dX3_fewestWithout_49 : decode cX3_fewestWithout 49 = .ok (.getfield 26, 3) := by decide +kernel
theorem dX3_fewestWithout_52 : decode cX3_fewestWithout 52 = .ok (.iload 5, 2) := by decide +kernel
theorem dX3_fewestWithout_54 : decode cX3_fewestWithout 54 = .ok (.invokevirtual 59, 3) := by decide +kernel
theorem dX3_fewestWithout_57 : decode cX3_fewestWithout 57 = .ok (.aload_n 0, 1) := by decide +kernel
theorem dX3_fewestWithout_58 : decode cX3_fewestWithout 58 = .ok (.getfield 26, 3) := by decide +kernel
theorem dX3_fewestWithout_61 : decode cX3_fewestWithout 61 = .ok (.iload_n 1, 1) := by decide +kernel
theorem dX3_fewestWithout_62 : decode cX3_fewestWithout 62 = .ok (.iconst 1, 1) := by decide +kernel
theorem dX3_fewestWithout_63 : decode cX3_fewestWithout 63 = .ok (.iload_n 2, 1) := by decide +kernel
theorem dX3_fewestWithout_64 : decode cX3_fewestWithout 64 = .ok (.ishl, 1) := by decide +kernel
theorem dX3_fewestWithout_65 : decode cX3_fewestWithout 65 = .ok (.invokevirtual 48, 3) := by decide +kernel
theorem dX3_fewestWithout_68 : decode cX3_fewestWithout 68 = .ok (.aload_n 0, 1) := by decide +kernel
theorem dX3_fewestWithout_69 : decode cX3_fewestWithout 69 = .ok (.getfield 26, 3) := by decide +kernel
theorem dX3_fewestWithout_72 : decode cX3_fewestWithout 72 = .ok (.getfield 63, 3) := by decide +kernel
theorem dX3_fewestWithout_75 : decode cX3_fewestWithout 75 = .ok (.iload_n 3, 1) := by decide +kernel
theorem dX3_fewestWithout_76 : decode cX3_fewestWithout 76 = .ok (.ishr, 1) := by decide +kernel
theorem dX3_fewestWithout_77 : decode cX3_fewestWithout 77 = .ok (.iconst 1, 1) := by decide +kernel
theorem dX3_fewestWithout_78 : decode cX3_fewestWithout 78 = .ok (.iand, 1) := by decide +kernel
theorem dX3_fewestWithout_79 : decode cX3_fewestWithout 79 = .ok (.ifCond .ne 7, 3) := by decide +kernel
theorem dX3_fewestWithout_82 : decode cX3_fewestWithout 82 = .ok (.iload 5, 2) := by decide +kernel
theorem dX3_fewestWithout_84 : decode cX3_fewestWithout 84 = .ok (.istore 4, 2) := by decide +kernel
theorem dX3_fewestWithout_86 : decode cX3_fewestWithout 86 = .ok (.iinc 5 1, 3) := by decide +kernel
theorem dX3_fewestWithout_89 : decode cX3_fewestWithout 89 = .ok (.goto (-75), 3) := by decide +kernel
theorem dX3_fewestWithout_92 : decode cX3_fewestWithout 92 = .ok (.iload 4, 2) := by decide +kernel
theorem dX3_fewestWithout_94 : decode cX3_fewestWithout 94 = .ok (.ireturn, 1) := by decide +kernel
theorem dX3_fittingMalts_0 : decode cX3_fittingMalts 0 = .ok (.iconst 0, 1) := by decide +kernel
theorem dX3_fittingMalts_1 : decode cX3_fittingMalts 1 = .ok (.istore 5, 2) := by decide +kernel
theorem dX3_fittingMalts_3 : decode cX3_fittingMalts 3 = .ok (.aload_n 0, 1) := by decide +kernel
theorem dX3_fittingMalts_4 : decode cX3_fittingMalts 4 = .ok (.getfield 26, 3) := by decide +kernel
theorem dX3_fittingMalts_7 : decode cX3_fittingMalts 7 = .ok (.invokevirtual 31, 3) := by decide +kernel
theorem dX3_fittingMalts_10 : decode cX3_fittingMalts 10 = .ok (.iconst 0, 1) := by decide +kernel
theorem dX3_fittingMalts_11 : decode cX3_fittingMalts 11 = .ok (.istore 6, 2) := by decide +kernel
theorem dX3_fittingMalts_13 : decode cX3_fittingMalts 13 = .ok (.iload 6, 2) := by decide +kernel
theorem dX3_fittingMalts_15 : decode cX3_fittingMalts 15 = .ok (.bipush 20, 2) := by decide +kernel
theorem dX3_fittingMalts_17 : decode cX3_fittingMalts 17 = .ok (.if_icmp .gt 32, 3) := by decide +kernel
theorem dX3_fittingMalts_20 : decode cX3_fittingMalts 20 = .ok (.aload_n 0, 1) := by decide +kernel
theorem dX3_fittingMalts_21 : decode cX3_fittingMalts 21 = .ok (.iload_n 1, 1) := by decide +kernel
theorem dX3_fittingMalts_22 : decode cX3_fittingMalts 22 = .ok (.iload 6, 2) := by decide +kernel
theorem dX3_fittingMalts_24 : decode cX3_fittingMalts 24 = .ok (.aload_n 2, 1) := by decide +kernel
theorem dX3_fittingMalts_25 : decode cX3_fittingMalts 25 = .ok (.iload_n 3, 1) := by decide +kernel
theorem dX3_fittingMalts_26 : decode cX3_fittingMalts 26 = .ok (.iload 4, 2) := by decide +kernel
theorem dX3_fittingMalts_28 : decode cX3_fittingMalts 28 = .ok (.invokevirtual 66, 3) := by decide +kernel
theorem dX3_fittingMalts_31 : decode cX3_fittingMalts 31 = .ok (.ifCond .eq 12, 3) := by decide +kernel
theorem dX3_fittingMalts_34 : decode cX3_fittingMalts 34 = .ok (.iload 5, 2) := by decide +kernel
theorem dX3_fittingMalts_36 : decode cX3_fittingMalts 36 = .ok (.iconst 1, 1) := by decide +kernel
theorem dX3_fittingMalts_37 : decode cX3_fittingMalts 37 = .ok (.iload 6, 2) := by decide +kernel
theorem dX3_fittingMalts_39 : decode cX3_fittingMalts 39 = .ok (.ishl, 1) := by decide +kernel
theorem dX3_fittingMalts_40 : decode cX3_fittingMalts 40 = .ok (.ior, 1) := by decide +kernel
theorem dX3_fittingMalts_41 : decode cX3_fittingMalts 41 = .ok (.istore 5, 2) := by decide +kernel
theorem dX3_fittingMalts_43 : decode cX3_fittingMalts 43 = .ok (.iinc 6 1, 3) := by decide +kernel
theorem dX3_fittingMalts_46 : decode cX3_fittingMalts 46 = .ok (.goto (-33), 3) := by decide +kernel
theorem dX3_fittingMalts_49 : decode cX3_fittingMalts 49 = .ok (.iload 5, 2) := by decide +kernel
theorem dX3_fittingMalts_51 : decode cX3_fittingMalts 51 = .ok (.ireturn, 1) := by decide +kernel
theorem dX3_fittingKinds_0 : decode cX3_fittingKinds 0 = .ok (.iconst 0, 1) := by decide +kernel
theorem dX3_fittingKinds_1 : decode cX3_fittingKinds 1 = .ok (.istore 6, 2) := by decide +kernel
theorem dX3_fittingKinds_3 : decode cX3_fittingKinds 3 = .ok (.aload_n 0, 1) := by decide +kernel
theorem dX3_fittingKinds_4 : decode cX3_fittingKinds 4 = .ok (.getfield 26, 3) := by decide +kernel
theorem dX3_fittingKinds_7 : decode cX3_fittingKinds 7 = .ok (.invokevirtual 31, 3) := by decide +kernel
theorem dX3_fittingKinds_10 : decode cX3_fittingKinds 10 = .ok (.iconst 1, 1) := by decide +kernel
theorem dX3_fittingKinds_11 : decode cX3_fittingKinds 11 = .ok (.istore 7, 2) := by decide +kernel
theorem dX3_fittingKinds_13 : decode cX3_fittingKinds 13 = .ok (.iload 7, 2) := by decide +kernel
theorem dX3_fittingKinds_15 : decode cX3_fittingKinds 15 = .ok (.iconst 5, 1) := by decide +kernel
theorem dX3_fittingKinds_16 : decode cX3_fittingKinds 16 = .ok (.if_icmp .gt 52, 3) := by decide +kernel
theorem dX3_fittingKinds_19 : decode cX3_fittingKinds 19 = .ok (.aload_n 0, 1) := by decide +kernel
theorem dX3_fittingKinds_20 : decode cX3_fittingKinds 20 = .ok (.getfield 26, 3) := by decide +kernel
theorem dX3_fittingKinds_23 : decode cX3_fittingKinds 23 = .ok (.iload_n 1, 1) := by decide +kernel
theorem dX3_fittingKinds_24 : decode cX3_fittingKinds 24 = .ok (.iload 7, 2) := by decide +kernel
theorem dX3_fittingKinds_26 : decode cX3_fittingKinds 26 = .ok (.invokevirtual 70, 3) := by decide +kernel
theorem dX3_fittingKinds_29 : decode cX3_fittingKinds 29 = .ok (.aload_n 0, 1) := by decide +kernel
theorem dX3_fittingKinds_30 : decode cX3_fittingKinds 30 = .ok (.iload_n 2, 1) := by decide +kernel
theorem dX3_fittingKinds_31 : decode cX3_fittingKinds 31 = .ok (.aload_n 0, 1) := by decide +kernel
theorem dX3_fittingKinds_32 : decode cX3_fittingKinds 32 = .ok (.getfield 22, 3) := by decide +kernel
theorem dX3_fittingKinds_35 : decode cX3_fittingKinds 35 = .ok (.getfield 73, 3) := by decide +kernel
theorem dX3_fittingKinds_38 : decode cX3_fittingKinds 38 = .ok (.iload_n 2, 1) := by decide +kernel
theorem dX3_fittingKinds_39 : decode cX3_fittingKinds 39 = .ok (.invokevirtual 76, 3) := by decide +kernel
theorem dX3_fittingKinds_42 : decode cX3_fittingKinds 42 = .ok (.aload_n 3, 1) := by decide +kernel
theorem dX3_fittingKinds_43 : decode cX3_fittingKinds 43 = .ok (.iload 4, 2) := by decide +kernel
theorem dX3_fittingKinds_45 : decode cX3_fittingKinds 45 = .ok (.iload 5, 2) := by decide +kernel
theorem dX3_fittingKinds_47 : decode cX3_fittingKinds 47 = .ok (.invokevirtual 66, 3) := by decide +kernel
theorem dX3_fittingKinds_50 : decode cX3_fittingKinds 50 = .ok (.ifCond .eq 12, 3) := by decide +kernel
theorem dX3_fittingKinds_53 : decode cX3_fittingKinds 53 = .ok (.iload 6, 2) := by decide +kernel
theorem dX3_fittingKinds_55 : decode cX3_fittingKinds 55 = .ok (.iconst 1, 1) := by decide +kernel
theorem dX3_fittingKinds_56 : decode cX3_fittingKinds 56 = .ok (.iload 7, 2) := by decide +kernel
theorem dX3_fittingKinds_58 : decode cX3_fittingKinds 58 = .ok (.ishl, 1) := by decide +kernel
theorem dX3_fittingKinds_59 : decode cX3_fittingKinds 59 = .ok (.ior, 1) := by decide +kernel
theorem dX3_fittingKinds_60 : decode cX3_fittingKinds 60 = .ok (.istore 6, 2) := by decide +kernel
theorem dX3_fittingKinds_62 : decode cX3_fittingKinds 62 = .ok (.iinc 7 1, 3) := by decide +kernel
theorem dX3_fittingKinds_65 : decode cX3_fittingKinds 65 = .ok (.goto (-52), 3) := by decide +kernel
theorem dX3_fittingKinds_68 : decode cX3_fittingKinds 68 = .ok (.iload 6, 2) := by decide +kernel
theorem dX3_fittingKinds_70 : decode cX3_fittingKinds 70 = .ok (.ireturn, 1) := by decide +kernel
theorem dX3_fits_0 : decode cX3_fits 0 = .ok (.aload_n 0, 1) := by decide +kernel
theorem dX3_fits_1 : decode cX3_fits 1 = .ok (.getfield 22, 3) := by decide +kernel
theorem dX3_fits_4 : decode cX3_fits 4 = .ok (.getfield 73, 3) := by decide +kernel
theorem dX3_fits_7 : decode cX3_fits 7 = .ok (.iload_n 1, 1) := by decide +kernel
theorem dX3_fits_8 : decode cX3_fits 8 = .ok (.invokevirtual 79, 3) := by decide +kernel
theorem dX3_fits_11 : decode cX3_fits 11 = .ok (.istore 6, 2) := by decide +kernel
theorem dX3_fits_13 : decode cX3_fits 13 = .ok (.aload_n 0, 1) := by decide +kernel
theorem dX3_fits_14 : decode cX3_fits 14 = .ok (.getfield 22, 3) := by decide +kernel
theorem dX3_fits_17 : decode cX3_fits 17 = .ok (.iload_n 2, 1) := by decide +kernel
theorem dX3_fits_18 : decode cX3_fits 18 = .ok (.aload_n 0, 1) := by decide +kernel
theorem dX3_fits_19 : decode cX3_fits 19 = .ok (.getfield 22, 3) := by decide +kernel
theorem dX3_fits_22 : decode cX3_fits 22 = .ok (.getfield 73, 3) := by decide +kernel
theorem dX3_fits_25 : decode cX3_fits 25 = .ok (.iload_n 1, 1) := by decide +kernel
theorem dX3_fits_26 : decode cX3_fits 26 = .ok (.invokevirtual 82, 3) := by decide +kernel
theorem dX3_fits_29 : decode cX3_fits 29 = .ok (.invokevirtual 85, 3) := by decide +kernel
theorem dX3_fits_32 : decode cX3_fits 32 = .ok (.istore 7, 2) := by decide +kernel
theorem dX3_fits_34 : decode cX3_fits 34 = .ok (.iconst 0, 1) := by decide +kernel
theorem dX3_fits_35 : decode cX3_fits 35 = .ok (.istore 8, 2) := by decide +kernel
theorem dX3_fits_37 : decode cX3_fits 37 = .ok (.iload 8, 2) := by decide +kernel
theorem dX3_fits_39 : decode cX3_fits 39 = .ok (.iload 5, 2) := by decide +kernel
theorem dX3_fits_41 : decode cX3_fits 41 = .ok (.if_icmp .ge 54, 3) := by decide +kernel
theorem dX3_fits_44 : decode cX3_fits 44 = .ok (.aload_n 0, 1) := by decide +kernel
theorem dX3_fits_45 : decode cX3_fits 45 = .ok (.getfield 26, 3) := by decide +kernel
theorem dX3_fits_48 : decode cX3_fits 48 = .ok (.iload 6, 2) := by decide +kernel
theorem dX3_fits_50 : decode cX3_fits 50 = .ok (.iload 7, 2) := by decide +kernel
theorem dX3_fits_52 : decode cX3_fits 52 = .ok (.iconst 1, 1) := by decide +kernel
theorem dX3_fits_53 : decode cX3_fits 53 = .ok (.aload_n 3, 1) := by decide +kernel
theorem dX3_fits_54 : decode cX3_fits 54 = .ok (.iload 4, 2) := by decide +kernel
theorem dX3_fits_56 : decode cX3_fits 56 = .ok (.iconst 2, 1) := by decide +kernel
theorem dX3_fits_57 : decode cX3_fits 57 = .ok (.iload 8, 2) := by decide +kernel
theorem dX3_fits_59 : decode cX3_fits 59 = .ok (.imul, 1) := by decide +kernel
theorem dX3_fits_60 : decode cX3_fits 60 = .ok (.iadd, 1) := by decide +kernel
theorem dX3_fits_61 : decode cX3_fits 61 = .ok (.iaload, 1) := by decide +kernel
theorem dX3_fits_62 : decode cX3_fits 62 = .ok (.ishl, 1) := by decide +kernel
theorem dX3_fits_63 : decode cX3_fits 63 = .ok (.invokevirtual 89, 3) := by decide +kernel
theorem dX3_fits_66 : decode cX3_fits 66 = .ok (.aload_n 0, 1) := by decide +kernel
theorem dX3_fits_67 : decode cX3_fits 67 = .ok (.getfield 26, 3) := by decide +kernel
theorem dX3_fits_70 : decode cX3_fits 70 = .ok (.getfield 52, 3) := by decide +kernel
theorem dX3_fits_73 : decode cX3_fits 73 = .ok (.aload_n 3, 1) := by decide +kernel
theorem dX3_fits_74 : decode cX3_fits 74 = .ok (.iload 4, 2) := by decide +kernel
theorem dX3_fits_76 : decode cX3_fits 76 = .ok (.iconst 2, 1) := by decide +kernel
theorem dX3_fits_77 : decode cX3_fits 77 = .ok (.iload 8, 2) := by decide +kernel
theorem dX3_fits_79 : decode cX3_fits 79 = .ok (.imul, 1) := by decide +kernel
theorem dX3_fits_80 : decode cX3_fits 80 = .ok (.iadd, 1) := by decide +kernel
theorem dX3_fits_81 : decode cX3_fits 81 = .ok (.iconst 1, 1) := by decide +kernel
theorem dX3_fits_82 : decode cX3_fits 82 = .ok (.iadd, 1) := by decide +kernel
theorem dX3_fits_83 : decode cX3_fits 83 = .ok (.iaload, 1) := by decide +kernel
theorem dX3_fits_84 : decode cX3_fits 84 = .ok (.if_icmp .eq 5, 3) := by decide +kernel
theorem dX3_fits_87 : decode cX3_fits 87 = .ok (.iconst 0, 1) := by decide +kernel
theorem dX3_fits_88 : decode cX3_fits 88 = .ok (.ireturn, 1) := by decide +kernel
end
section
theorem dX3_fits_89 : decode cX3_fits 89 = .ok (.iinc 8 1, 3) := by decide +kernel
theorem dX3_fits_92 : decode cX3_fits 92 = .ok (.goto (-55), 3) := by decide +kernel
theorem dX3_fits_95 : decode cX3_fits 95 = .ok (.iconst 1, 1) := by decide +kernel
theorem dX3_fits_96 : decode cX3_fits 96 = .ok (.ireturn, 1) := by decide +kernel
theorem dX3_bestTap_0 : decode cX3_bestTap 0 = .ok (.iconst 0, 1) := by decide +kernel
theorem dX3_bestTap_1 : decode cX3_bestTap 1 = .ok (.istore_n 2, 1) := by decide +kernel
theorem dX3_bestTap_2 : decode cX3_bestTap 2 = .ok (.iconst (-1), 1) := by decide +kernel
theorem dX3_bestTap_3 : decode cX3_bestTap 3 = .ok (.istore_n 3, 1) := by decide +kernel
theorem dX3_bestTap_4 : decode cX3_bestTap 4 = .ok (.iconst 0, 1) := by decide +kernel
theorem dX3_bestTap_5 : decode cX3_bestTap 5 = .ok (.istore 4, 2) := by decide +kernel
theorem dX3_bestTap_7 : decode cX3_bestTap 7 = .ok (.iload 4, 2) := by decide +kernel
theorem dX3_bestTap_9 : decode cX3_bestTap 9 = .ok (.aload_n 0, 1) := by decide +kernel
theorem dX3_bestTap_10 : decode cX3_bestTap 10 = .ok (.getfield 22, 3) := by decide +kernel
theorem dX3_bestTap_13 : decode cX3_bestTap 13 = .ok (.getfield 93, 3) := by decide +kernel
theorem dX3_bestTap_16 : decode cX3_bestTap 16 = .ok (.if_icmp .ge 30, 3) := by decide +kernel
theorem dX3_bestTap_19 : decode cX3_bestTap 19 = .ok (.aload_n 0, 1) := by decide +kernel
theorem dX3_bestTap_20 : decode cX3_bestTap 20 = .ok (.iload_n 1, 1) := by decide +kernel
theorem dX3_bestTap_21 : decode cX3_bestTap 21 = .ok (.iload 4, 2) := by decide +kernel
theorem dX3_bestTap_23 : decode cX3_bestTap 23 = .ok (.invokevirtual 96, 3) := by decide +kernel
theorem dX3_bestTap_26 : decode cX3_bestTap 26 = .ok (.istore 5, 2) := by decide +kernel
theorem dX3_bestTap_28 : decode cX3_bestTap 28 = .ok (.iload 5, 2) := by decide +kernel
theorem dX3_bestTap_30 : decode cX3_bestTap 30 = .ok (.iload_n 3, 1) := by decide +kernel
theorem dX3_bestTap_31 : decode cX3_bestTap 31 = .ok (.if_icmp .le 9, 3) := by decide +kernel
theorem dX3_bestTap_34 : decode cX3_bestTap 34 = .ok (.iload 4, 2) := by decide +kernel
theorem dX3_bestTap_36 : decode cX3_bestTap 36 = .ok (.istore_n 2, 1) := by decide +kernel
theorem dX3_bestTap_37 : decode cX3_bestTap 37 = .ok (.iload 5, 2) := by decide +kernel
theorem dX3_bestTap_39 : decode cX3_bestTap 39 = .ok (.istore_n 3, 1) := by decide +kernel
theorem dX3_bestTap_40 : decode cX3_bestTap 40 = .ok (.iinc 4 1, 3) := by decide +kernel
theorem dX3_bestTap_43 : decode cX3_bestTap 43 = .ok (.goto (-36), 3) := by decide +kernel
theorem dX3_bestTap_46 : decode cX3_bestTap 46 = .ok (.iload_n 2, 1) := by decide +kernel
theorem dX3_bestTap_47 : decode cX3_bestTap 47 = .ok (.ireturn, 1) := by decide +kernel
theorem dX3_believersAt_0 : decode cX3_believersAt 0 = .ok (.aload_n 0, 1) := by decide +kernel
theorem dX3_believersAt_1 : decode cX3_believersAt 1 = .ok (.getfield 26, 3) := by decide +kernel
theorem dX3_believersAt_4 : decode cX3_believersAt 4 = .ok (.invokevirtual 31, 3) := by decide +kernel
theorem dX3_believersAt_7 : decode cX3_believersAt 7 = .ok (.aload_n 0, 1) := by decide +kernel
theorem dX3_believersAt_8 : decode cX3_believersAt 8 = .ok (.getfield 26, 3) := by decide +kernel
theorem dX3_believersAt_11 : decode cX3_believersAt 11 = .ok (.iload_n 1, 1) := by decide +kernel
theorem dX3_believersAt_12 : decode cX3_believersAt 12 = .ok (.iconst 1, 1) := by decide +kernel
theorem dX3_believersAt_13 : decode cX3_believersAt 13 = .ok (.iload_n 2, 1) := by decide +kernel
theorem dX3_believersAt_14 : decode cX3_believersAt 14 = .ok (.ishl, 1) := by decide +kernel
theorem dX3_believersAt_15 : decode cX3_believersAt 15 = .ok (.invokevirtual 48, 3) := by decide +kernel
theorem dX3_believersAt_18 : decode cX3_believersAt 18 = .ok (.aload_n 0, 1) := by decide +kernel
theorem dX3_believersAt_19 : decode cX3_believersAt 19 = .ok (.getfield 26, 3) := by decide +kernel
theorem dX3_believersAt_22 : decode cX3_believersAt 22 = .ok (.getfield 52, 3) := by decide +kernel
theorem dX3_believersAt_25 : decode cX3_believersAt 25 = .ok (.invokestatic 42, 3) := by decide +kernel
theorem dX3_believersAt_28 : decode cX3_believersAt 28 = .ok (.ireturn, 1) := by decide +kernel
theorem dX3_believersOfBlend_0 : decode cX3_believersOfBlend 0 = .ok (.aload_n 0, 1) := by decide +kernel
theorem dX3_believersOfBlend_1 : decode cX3_believersOfBlend 1 = .ok (.getfield 22, 3) := by decide +kernel
theorem dX3_believersOfBlend_4 : decode cX3_believersOfBlend 4 = .ok (.aload_n 0, 1) := by decide +kernel
theorem dX3_believersOfBlend_5 : decode cX3_believersOfBlend 5 = .ok (.getfield 22, 3) := by decide +kernel
theorem dX3_believersOfBlend_8 : decode cX3_believersOfBlend 8 = .ok (.getfield 73, 3) := by decide +kernel
theorem dX3_believersOfBlend_11 : decode cX3_believersOfBlend 11 = .ok (.iload_n 1, 1) := by decide +kernel
theorem dX3_believersOfBlend_12 : decode cX3_believersOfBlend 12 = .ok (.iload_n 2, 1) := by decide +kernel
theorem dX3_believersOfBlend_13 : decode cX3_believersOfBlend 13 = .ok (.invokevirtual 99, 3) := by decide +kernel
theorem dX3_believersOfBlend_16 : decode cX3_believersOfBlend 16 = .ok (.aload_n 0, 1) := by decide +kernel
theorem dX3_believersOfBlend_17 : decode cX3_believersOfBlend 17 = .ok (.getfield 22, 3) := by decide +kernel
theorem dX3_believersOfBlend_20 : decode cX3_believersOfBlend 20 = .ok (.getfield 73, 3) := by decide +kernel
theorem dX3_believersOfBlend_23 : decode cX3_believersOfBlend 23 = .ok (.iload_n 2, 1) := by decide +kernel
theorem dX3_believersOfBlend_24 : decode cX3_believersOfBlend 24 = .ok (.invokevirtual 82, 3) := by decide +kernel
theorem dX3_believersOfBlend_27 : decode cX3_believersOfBlend 27 = .ok (.invokevirtual 85, 3) := by decide +kernel
theorem dX3_believersOfBlend_30 : decode cX3_believersOfBlend 30 = .ok (.istore 4, 2) := by decide +kernel
theorem dX3_believersOfBlend_32 : decode cX3_believersOfBlend 32 = .ok (.aload_n 0, 1) := by decide +kernel
theorem dX3_believersOfBlend_33 : decode cX3_believersOfBlend 33 = .ok (.getfield 26, 3) := by decide +kernel
theorem dX3_believersOfBlend_36 : decode cX3_believersOfBlend 36 = .ok (.invokevirtual 31, 3) := by decide +kernel
theorem dX3_believersOfBlend_39 : decode cX3_believersOfBlend 39 = .ok (.aload_n 0, 1) := by decide +kernel
theorem dX3_believersOfBlend_40 : decode cX3_believersOfBlend 40 = .ok (.getfield 26, 3) := by decide +kernel
theorem dX3_believersOfBlend_43 : decode cX3_believersOfBlend 43 = .ok (.aload_n 0, 1) := by decide +kernel
theorem dX3_believersOfBlend_44 : decode cX3_believersOfBlend 44 = .ok (.getfield 22, 3) := by decide +kernel
theorem dX3_believersOfBlend_47 : decode cX3_believersOfBlend 47 = .ok (.getfield 73, 3) := by decide +kernel
theorem dX3_believersOfBlend_50 : decode cX3_believersOfBlend 50 = .ok (.iload_n 2, 1) := by decide +kernel
theorem dX3_believersOfBlend_51 : decode cX3_believersOfBlend 51 = .ok (.invokevirtual 79, 3) := by decide +kernel
theorem dX3_believersOfBlend_54 : decode cX3_believersOfBlend 54 = .ok (.iload 4, 2) := by decide +kernel
theorem dX3_believersOfBlend_56 : decode cX3_believersOfBlend 56 = .ok (.iconst 1, 1) := by decide +kernel
theorem dX3_believersOfBlend_57 : decode cX3_believersOfBlend 57 = .ok (.iload_n 3, 1) := by decide +kernel
theorem dX3_believersOfBlend_58 : decode cX3_believersOfBlend 58 = .ok (.ishl, 1) := by decide +kernel
theorem dX3_believersOfBlend_59 : decode cX3_believersOfBlend 59 = .ok (.invokevirtual 89, 3) := by decide +kernel
theorem dX3_believersOfBlend_62 : decode cX3_believersOfBlend 62 = .ok (.aload_n 0, 1) := by decide +kernel
theorem dX3_believersOfBlend_63 : decode cX3_believersOfBlend 63 = .ok (.getfield 26, 3) := by decide +kernel
theorem dX3_believersOfBlend_66 : decode cX3_believersOfBlend 66 = .ok (.getfield 52, 3) := by decide +kernel
theorem dX3_believersOfBlend_69 : decode cX3_believersOfBlend 69 = .ok (.invokestatic 42, 3) := by decide +kernel
theorem dX3_believersOfBlend_72 : decode cX3_believersOfBlend 72 = .ok (.ireturn, 1) := by decide +kernel
theorem dX3_casesOfBelief_0 : decode cX3_casesOfBelief 0 = .ok (.lconst 0, 1) := by decide +kernel
theorem dX3_casesOfBelief_1 : decode cX3_casesOfBelief 1 = .ok (.lstore 5, 2) := by decide +kernel
theorem dX3_casesOfBelief_3 : decode cX3_casesOfBelief 3 = .ok (.aload_n 0, 1) := by decide +kernel
theorem dX3_casesOfBelief_4 : decode cX3_casesOfBelief 4 = .ok (.iload 4, 2) := by decide +kernel
theorem dX3_casesOfBelief_6 : decode cX3_casesOfBelief 6 = .ok (.invokevirtual 102, 3) := by decide +kernel
theorem dX3_casesOfBelief_9 : decode cX3_casesOfBelief 9 = .ok (.aload_n 0, 1) := by decide +kernel
theorem dX3_casesOfBelief_10 : decode cX3_casesOfBelief 10 = .ok (.getfield 26, 3) := by decide +kernel
theorem dX3_casesOfBelief_13 : decode cX3_casesOfBelief 13 = .ok (.invokevirtual 31, 3) := by decide +kernel
theorem dX3_casesOfBelief_16 : decode cX3_casesOfBelief 16 = .ok (.iconst 0, 1) := by decide +kernel
theorem dX3_casesOfBelief_17 : decode cX3_casesOfBelief 17 = .ok (.istore 7, 2) := by decide +kernel
theorem dX3_casesOfBelief_19 : decode cX3_casesOfBelief 19 = .ok (.iload 7, 2) := by decide +kernel
theorem dX3_casesOfBelief_21 : decode cX3_casesOfBelief 21 = .ok (.iconst 1, 1) := by decide +kernel
theorem dX3_casesOfBelief_22 : decode cX3_casesOfBelief 22 = .ok (.aload_n 0, 1) := by decide +kernel
theorem dX3_casesOfBelief_23 : decode cX3_casesOfBelief 23 = .ok (.getfield 22, 3) := by decide +kernel
theorem dX3_casesOfBelief_26 : decode cX3_casesOfBelief 26 = .ok (.getfield 56, 3) := by decide +kernel
theorem dX3_casesOfBelief_29 : decode cX3_casesOfBelief 29 = .ok (.ishl, 1) := by decide +kernel
theorem dX3_casesOfBelief_30 : decode cX3_casesOfBelief 30 = .ok (.if_icmp .ge 68, 3) := by decide +kernel
theorem dX3_casesOfBelief_33 : decode cX3_casesOfBelief 33 = .ok (.aload_n 0, 1) := by decide +kernel
theorem dX3_casesOfBelief_34 : decode cX3_casesOfBelief 34 = .ok (.getfield 18, 3) := by decide +kernel
theorem dX3_casesOfBelief_37 : decode cX3_casesOfBelief 37 = .ok (.iload 7, 2) := by decide +kernel
theorem dX3_casesOfBelief_39 : decode cX3_casesOfBelief 39 = .ok (.invokestatic 42, 3) := by decide +kernel
theorem dX3_casesOfBelief_42 : decode cX3_casesOfBelief 42 = .ok (.laload, 1) := by decide +kernel
theorem dX3_casesOfBelief_43 : decode cX3_casesOfBelief 43 = .ok (.lstore 8, 2) := by decide +kernel
theorem dX3_casesOfBelief_45 : decode cX3_casesOfBelief 45 = .ok (.lload 8, 2) := by decide +kernel
theorem dX3_casesOfBelief_47 : decode cX3_casesOfBelief 47 = .ok (.lconst 0, 1) := by decide +kernel
theorem dX3_casesOfBelief_48 : decode cX3_casesOfBelief 48 = .ok (.lcmp, 1) := by decide +kernel
theorem dX3_casesOfBelief_49 : decode cX3_casesOfBelief 49 = .ok (.ifCond .le 43, 3) := by decide +kernel
theorem dX3_casesOfBelief_52 : decode cX3_casesOfBelief 52 = .ok (.aload_n 0, 1) := by decide +kernel
theorem dX3_casesOfBelief_53 : decode cX3_casesOfBelief 53 = .ok (.getfield 26, 3) := by decide +kernel
theorem dX3_casesOfBelief_56 : decode cX3_casesOfBelief 56 = .ok (.iload 7, 2) := by decide +kernel
theorem dX3_casesOfBelief_58 : decode cX3_casesOfBelief 58 = .ok (.invokevirtual 59, 3) := by decide +kernel
theorem dX3_casesOfBelief_61 : decode cX3_casesOfBelief 61 = .ok (.aload_n 0, 1) := by decide +kernel
theorem dX3_casesOfBelief_62 : decode cX3_casesOfBelief 62 = .ok (.getfield 26, 3) := by decide +kernel
theorem dX3_casesOfBelief_65 : decode cX3_casesOfBelief 65 = .ok (.iload_n 1, 1) := by decide +kernel
theorem dX3_casesOfBelief_66 : decode cX3_casesOfBelief 66 = .ok (.iconst 1, 1) := by decide +kernel
theorem dX3_casesOfBelief_67 : decode cX3_casesOfBelief 67 = .ok (.iload_n 2, 1) := by decide +kernel
theorem dX3_casesOfBelief_68 : decode cX3_casesOfBelief 68 = .ok (.ishl, 1) := by decide +kernel
theorem dX3_casesOfBelief_69 : decode cX3_casesOfBelief 69 = .ok (.invokevirtual 48, 3) := by decide +kernel
theorem dX3_casesOfBelief_72 : decode cX3_casesOfBelief 72 = .ok (.lload 5, 2) := by decide +kernel
theorem dX3_casesOfBelief_74 : decode cX3_casesOfBelief 74 = .ok (.aload_n 0, 1) := by decide +kernel
theorem dX3_casesOfBelief_75 : decode cX3_casesOfBelief 75 = .ok (.getfield 26, 3) := by decide +kernel
theorem dX3_casesOfBelief_78 : decode cX3_casesOfBelief 78 = .ok (.getfield 52, 3) := by decide +kernel
theorem dX3_casesOfBelief_81 : decode cX3_casesOfBelief 81 = .ok (.iload_n 3, 1) := by decide +kernel
theorem dX3_casesOfBelief_82 : decode cX3_casesOfBelief 82 = .ok (.ishr, 1) := by decide +kernel
theorem dX3_casesOfBelief_83 : decode cX3_casesOfBelief 83 = .ok (.iconst 1, 1) := by decide +kernel
theorem dX3_casesOfBelief_84 : decode cX3_casesOfBelief 84 = .ok (.iand, 1) := by decide +kernel
theorem dX3_casesOfBelief_85 : decode cX3_casesOfBelief 85 = .ok (.i2l, 1) := by decide +kernel
theorem dX3_casesOfBelief_86 : decode cX3_casesOfBelief 86 = .ok (.lload 8, 2) := by decide +kernel
theorem dX3_casesOfBelief_88 : decode cX3_casesOfBelief 88 = .ok (.lmul, 1) := by decide +kernel
theorem dX3_casesOfBelief_89 : decode cX3_casesOfBelief 89 = .ok (.ladd, 1) := by decide +kernel
theorem dX3_casesOfBelief_90 : decode cX3_casesOfBelief 90 = .ok (.lstore 5, 2) := by decide +kernel
theorem dX3_casesOfBelief_92 : decode cX3_casesOfBelief 92 = .ok (.iinc 7 1, 3) := by decide +kernel
theorem dX3_casesOfBelief_95 : decode cX3_casesOfBelief 95 = .ok (.goto (-76), 3) := by decide +kernel
theorem dX3_casesOfBelief_98 : decode cX3_casesOfBelief 98 = .ok (.lload 5, 2) := by decide +kernel
theorem dX3_casesOfBelief_100 : decode cX3_casesOfBelief 100 = .ok (.lreturn, 1) := by decide +kernel
theorem dX3_weigh_0 : decode cX3_weigh 0 = .ok (.iconst 0, 1) := by decide +kernel
theorem dX3_weigh_1 : decode cX3_weigh 1 = .ok (.istore_n 2, 1) := by decide +kernel
theorem dX3_weigh_2 : decode cX3_weigh 2 = .ok (.iload_n 2, 1) := by decide +kernel
theorem dX3_weigh_3 : decode cX3_weigh 3 = .ok (.aload_n 0, 1) := by decide +kernel
theorem dX3_weigh_4 : decode cX3_weigh 4 = .ok (.getfield 22, 3) := by decide +kernel
theorem dX3_weigh_7 : decode cX3_weigh 7 = .ok (.getfield 56, 3) := by decide +kernel
theorem dX3_weigh_10 : decode cX3_weigh 10 = .ok (.if_icmp .gt 39, 3) := by decide +kernel
theorem dX3_weigh_13 : decode cX3_weigh 13 = .ok (.aload_n 0, 1) := by decide +kernel
theorem dX3_weigh_14 : decode cX3_weigh 14 = .ok (.getfield 18, 3) := by decide +kernel
theorem dX3_weigh_17 : decode cX3_weigh 17 = .ok (.iload_n 2, 1) := by decide +kernel
theorem dX3_weigh_18 : decode cX3_weigh 18 = .ok (.iload_n 1, 1) := by decide +kernel
theorem dX3_weigh_19 : decode cX3_weigh 19 = .ok (.i2l, 1) := by decide +kernel
theorem dX3_weigh_20 : decode cX3_weigh 20 = .ok (.iload_n 2, 1) := by decide +kernel
theorem dX3_weigh_21 : decode cX3_weigh 21 = .ok (.invokestatic 105, 3) := by decide +kernel
theorem dX3_weigh_24 : decode cX3_weigh 24 = .ok (.bipush 10, 2) := by decide +kernel
theorem dX3_weigh_26 : decode cX3_weigh 26 = .ok (.iload_n 1, 1) := by decide +kernel
theorem dX3_weigh_27 : decode cX3_weigh 27 = .ok (.isub, 1) := by decide +kernel
theorem dX3_weigh_28 : decode cX3_weigh 28 = .ok (.i2l, 1) := by decide +kernel
theorem dX3_weigh_29 : decode cX3_weigh 29 = .ok (.aload_n 0, 1) := by decide +kernel
theorem dX3_weigh_30 : decode cX3_weigh 30 = .ok (.getfield 22, 3) := by decide +kernel
theorem dX3_weigh_33 : decode cX3_weigh 33 = .ok (.getfield 56, 3) := by decide +kernel
theorem dX3_weigh_36 : decode cX3_weigh 36 = .ok (.iload_n 2, 1) := by decide +kernel
theorem dX3_weigh_37 : decode cX3_weigh 37 = .ok (.isub, 1) := by decide +kernel
theorem dX3_weigh_38 : decode cX3_weigh 38 = .ok (.invokestatic 105, 3) := by decide +kernel
theorem dX3_weigh_41 : decode cX3_weigh 41 = .ok (.lmul, 1) := by decide +kernel
theorem dX3_weigh_42 : decode cX3_weigh 42 = .ok (.lastore, 1) := by decide +kernel
theorem dX3_weigh_43 : decode cX3_weigh 43 = .ok (.iinc 2 1, 3) := by decide +kernel
theorem dX3_weigh_46 : decode cX3_weigh 46 = .ok (.goto (-44), 3) := by decide +kernel
theorem dX3_weigh_49 : decode cX3_weigh 49 = .ok (.return_, 1) := by decide +kernel
theorem dX3_cellarAfterWeek_0 : decode cX3_cellarAfterWeek 0 = .ok (.iload_n 2, 1) := by decide +kernel
theorem dX3_cellarAfterWeek_1 : decode cX3_cellarAfterWeek 1 = .ok (.i2l, 1) := by decide +kernel
theorem dX3_cellarAfterWeek_2 : decode cX3_cellarAfterWeek 2 = .ok (.lstore_n 3, 1) := by decide +kernel
theorem dX3_cellarAfterWeek_3 : decode cX3_cellarAfterWeek 3 = .ok (.aload_n 0, 1) := by decide +kernel
theorem dX3_cellarAfterWeek_4 : decode cX3_cellarAfterWeek 4 = .ok (.getfield 12, 3) := by decide +kernel
theorem dX3_cellarAfterWeek_7 : decode cX3_cellarAfterWeek 7 = .ok (.aload_n 0, 1) := by decide +kernel
theorem dX3_cellarAfterWeek_8 : decode cX3_cellarAfterWeek 8 = .ok (.getfield 22, 3) := by decide +kernel
theorem dX3_cellarAfterWeek_11 : decode cX3_cellarAfterWeek 11 = .ok (.getfield 73, 3) := by decide +kernel
theorem dX3_cellarAfterWeek_14 : decode cX3_cellarAfterWeek 14 = .ok (.invokevirtual 109, 3) := by decide +kernel
theorem dX3_cellarAfterWeek_17 : decode cX3_cellarAfterWeek 17 = .ok (.iconst 0, 1) := by decide +kernel
theorem dX3_cellarAfterWeek_18 : decode cX3_cellarAfterWeek 18 = .ok (.istore 5, 2) := by decide +kernel
theorem dX3_cellarAfterWeek_20 : decode cX3_cellarAfterWeek 20 = .ok (.iload 5, 2) := by decide +kernel
theorem dX3_cellarAfterWeek_22 : decode cX3_cellarAfterWeek 22 = .ok (.iload_n 1, 1) := by decide +kernel
theorem dX3_cellarAfterWeek_23 : decode cX3_cellarAfterWeek 23 = .ok (.if_icmp .ge 81, 3) := by decide +kernel
theorem dX3_cellarAfterWeek_26 : decode cX3_cellarAfterWeek 26 = .ok (.lload_n 3, 1) := by decide +kernel
theorem dX3_cellarAfterWeek_27 : decode cX3_cellarAfterWeek 27 = .ok (.ldc2_w 113, 3) := by decide +kernel
theorem dX3_cellarAfterWeek_30 : decode cX3_cellarAfterWeek 30 = .ok (.lmul, 1) := by decide +kernel
theorem dX3_cellarAfterWeek_31 : decode cX3_cellarAfterWeek 31 = .ok (.ldc2_w 115, 3) := by decide +kernel
theorem dX3_cellarAfterWeek_34 : decode cX3_cellarAfterWeek 34 = .ok (.lrem, 1) := by decide +kernel
theorem dX3_cellarAfterWeek_35 : decode cX3_cellarAfterWeek 35 = .ok (.lstore_n 3, 1) := by decide +kernel
theorem dX3_cellarAfterWeek_36 : decode cX3_cellarAfterWeek 36 = .ok (.lload_n 3, 1) := by decide +kernel
theorem dX3_cellarAfterWeek_37 : decode cX3_cellarAfterWeek 37 = .ok (.ldc2_w 117, 3) := by decide +kernel
theorem dX3_cellarAfterWeek_40 : decode cX3_cellarAfterWeek 40 = .ok (.lrem, 1) := by decide +kernel
theorem dX3_cellarAfterWeek_41 : decode cX3_cellarAfterWeek 41 = .ok (.l2i, 1) := by decide +kernel
theorem dX3_cellarAfterWeek_42 : decode cX3_cellarAfterWeek 42 = .ok (.istore 6, 2) := by decide +kernel
theorem dX3_cellarAfterWeek_44 : decode cX3_cellarAfterWeek 44 = .ok (.aload_n 0, 1) := by decide +kernel
theorem dX3_cellarAfterWeek_45 : decode cX3_cellarAfterWeek 45 = .ok (.getfield 12, 3) := by decide +kernel
theorem dX3_cellarAfterWeek_48 : decode cX3_cellarAfterWeek 48 = .ok (.iload 6, 2) := by decide +kernel
theorem dX3_cellarAfterWeek_50 : decode cX3_cellarAfterWeek 50 = .ok (.invokevirtual 119, 3) := by decide +kernel
theorem dX3_cellarAfterWeek_53 : decode cX3_cellarAfterWeek 53 = .ok (.ifCond .ne 38, 3) := by decide +kernel
theorem dX3_cellarAfterWeek_56 : decode cX3_cellarAfterWeek 56 = .ok (.aload_n 0, 1) := by decide +kernel
theorem dX3_cellarAfterWeek_57 : decode cX3_cellarAfterWeek 57 = .ok (.getfield 22, 3) := by decide +kernel
theorem dX3_cellarAfterWeek_60 : decode cX3_cellarAfterWeek 60 = .ok (.getfield 93, 3) := by decide +kernel
theorem dX3_cellarAfterWeek_63 : decode cX3_cellarAfterWeek 63 = .ok (.ifCond .le 28, 3) := by decide +kernel
theorem dX3_cellarAfterWeek_66 : decode cX3_cellarAfterWeek 66 = .ok (.aload_n 0, 1) := by decide +kernel
theorem dX3_cellarAfterWeek_67 : decode cX3_cellarAfterWeek 67 = .ok (.getfield 26, 3) := by decide +kernel
theorem dX3_cellarAfterWeek_70 : decode cX3_cellarAfterWeek 70 = .ok (.aload_n 0, 1) := by decide +kernel
theorem dX3_cellarAfterWeek_71 : decode cX3_cellarAfterWeek 71 = .ok (.getfield 12, 3) := by decide +kernel
theorem dX3_cellarAfterWeek_74 : decode cX3_cellarAfterWeek 74 = .ok (.iload 6, 2) := by decide +kernel
theorem dX3_cellarAfterWeek_76 : decode cX3_cellarAfterWeek 76 = .ok (.lload_n 3, 1) := by decide +kernel
theorem dX3_cellarAfterWeek_77 : decode cX3_cellarAfterWeek 77 = .ok (.aload_n 0, 1) := by decide +kernel
theorem dX3_cellarAfterWeek_78 : decode cX3_cellarAfterWeek 78 = .ok (.getfield 22, 3) := by decide +kernel
theorem dX3_cellarAfterWeek_81 : decode cX3_cellarAfterWeek 81 = .ok (.getfield 93, 3) := by decide +kernel
theorem dX3_cellarAfterWeek_84 : decode cX3_cellarAfterWeek 84 = .ok (.i2l, 1) := by decide +kernel
theorem dX3_cellarAfterWeek_85 : decode cX3_cellarAfterWeek 85 = .ok (.lrem, 1) := by decide +kernel
theorem dX3_cellarAfterWeek_86 : decode cX3_cellarAfterWeek 86 = .ok (.l2i, 1) := by decide +kernel
theorem dX3_cellarAfterWeek_87 : decode cX3_cellarAfterWeek 87 = .ok (.invokevirtual 123, 3) := by decide +kernel
theorem dX3_cellarAfterWeek_90 : decode cX3_cellarAfterWeek 90 = .ok (.pop, 1) := by decide +kernel
theorem dX3_cellarAfterWeek_91 : decode cX3_cellarAfterWeek 91 = .ok (.aload_n 0, 1) := by decide +kernel
theorem dX3_cellarAfterWeek_92 : decode cX3_cellarAfterWeek 92 = .ok (.getfield 12, 3) := by decide +kernel
theorem dX3_cellarAfterWeek_95 : decode cX3_cellarAfterWeek 95 = .ok (.invokevirtual 127, 3) := by decide +kernel
theorem dX3_cellarAfterWeek_98 : decode cX3_cellarAfterWeek 98 = .ok (.iinc 5 1, 3) := by decide +kernel
theorem dX3_cellarAfterWeek_101 : decode cX3_cellarAfterWeek 101 = .ok (.goto (-81), 3) := by decide +kernel
theorem dX3_cellarAfterWeek_104 : decode cX3_cellarAfterWeek 104 = .ok (.aload_n 0, 1) := by decide +kernel
theorem dX3_cellarAfterWeek_105 : decode cX3_cellarAfterWeek 105 = .ok (.getfield 12, 3) := by decide +kernel
theorem dX3_cellarAfterWeek_108 : decode cX3_cellarAfterWeek 108 = .ok (.areturn, 1) := by decide +kernel
theorem dX4_init_0 : decode cX4_init 0 = .ok (.aload_n 0, 1) := by decide +kernel
theorem dX4_init_1 : decode cX4_init 1 = .ok (.invokespecial 3, 3) := by decide +kernel
theorem dX4_init_4 : decode cX4_init 4 = .ok (.aload_n 0, 1) := by decide +kernel
theorem dX4_init_5 : decode cX4_init 5 = .ok (.bipush 120, 2) := by decide +kernel
theorem dX4_init_7 : decode cX4_init 7 = .ok (.newarray .int, 2) := by decide +kernel
theorem dX4_init_9 : decode cX4_init 9 = .ok (.putfield 9, 3) := by decide +kernel
theorem dX4_init_12 : decode cX4_init 12 = .ok (.aload_n 0, 1) := by decide +kernel
theorem dX4_init_13 : decode cX4_init 13 = .ok (.iconst 0, 1) := by decide +kernel
theorem dX4_init_14 : decode cX4_init 14 = .ok (.putfield 15, 3) := by decide +kernel
theorem dX4_init_17 : decode cX4_init 17 = .ok (.aload_n 0, 1) := by decide +kernel
theorem dX4_init_18 : decode cX4_init 18 = .ok (.iconst 0, 1) := by decide +kernel
theorem dX4_init_19 : decode cX4_init 19 = .ok (.putfield 19, 3) := by decide +kernel
theorem dX4_init_22 : decode cX4_init 22 = .ok (.aload_n 0, 1) := by decide +kernel
theorem dX4_init_23 : decode cX4_init 23 = .ok (.iconst 0, 1) := by decide +kernel
theorem dX4_init_24 : decode cX4_init 24 = .ok (.putfield 22, 3) := by decide +kernel
theorem dX4_init_27 : decode cX4_init 27 = .ok (.return_, 1) := by decide +kernel
theorem dX4_append_0 : decode cX4_append 0 = .ok (.aload_n 0, 1) := by decide +kernel
theorem dX4_append_1 : decode cX4_append 1 = .ok (.getfield 9, 3) := by decide +kernel
theorem dX4_append_4 : decode cX4_append 4 = .ok (.aload_n 0, 1) := by decide +kernel
theorem dX4_append_5 : decode cX4_append 5 = .ok (.getfield 15, 3) := by decide +kernel
theorem dX4_append_8 : decode cX4_append 8 = .ok (.iload_n 1, 1) := by decide +kernel
theorem dX4_append_9 : decode cX4_append 9 = .ok (.iastore, 1) := by decide +kernel
theorem dX4_append_10 : decode cX4_append 10 = .ok (.aload_n 0, 1) := by decide +kernel
theorem dX4_append_11 : decode cX4_append 11 = .ok (.dup, 1) := by decide +kernel
theorem dX4_append_12 : decode cX4_append 12 = .ok (.getfield 15, 3) := by decide +kernel
theorem dX4_append_15 : decode cX4_append 15 = .ok (.iconst 1, 1) := by decide +kernel
theorem dX4_append_16 : decode cX4_append 16 = .ok (.iadd, 1) := by decide +kernel
theorem dX4_append_17 : decode cX4_append 17 = .ok (.putfield 15, 3) := by decide +kernel
theorem dX4_append_20 : decode cX4_append 20 = .ok (.aload_n 0, 1) := by decide +kernel
theorem dX4_append_21 : decode cX4_append 21 = .ok (.getfield 15, 3) := by decide +kernel
theorem dX4_append_24 : decode cX4_append 24 = .ok (.ireturn, 1) := by decide +kernel
theorem dX4_reads_0 : decode cX4_reads 0 = .ok (.aload_n 1, 1) := by decide +kernel
theorem dX4_reads_1 : decode cX4_reads 1 = .ok (.invokevirtual 25, 3) := by decide +kernel
theorem dX4_reads_4 : decode cX4_reads 4 = .ok (.aload_n 0, 1) := by decide +kernel
theorem dX4_reads_5 : decode cX4_reads 5 = .ok (.iconst 0, 1) := by decide +kernel
theorem dX4_reads_6 : decode cX4_reads 6 = .ok (.putfield 19, 3) := by decide +kernel
theorem dX4_reads_9 : decode cX4_reads 9 = .ok (.aload_n 0, 1) := by decide +kernel
theorem dX4_reads_10 : decode cX4_reads 10 = .ok (.aload_n 1, 1) := by decide +kernel
theorem dX4_reads_11 : decode cX4_reads 11 = .ok (.invokevirtual 30, 3) := by decide +kernel
theorem dX4_reads_14 : decode cX4_reads 14 = .ok (.ifCond .eq 11, 3) := by decide +kernel
theorem dX4_reads_17 : decode cX4_reads 17 = .ok (.aload_n 0, 1) := by decide +kernel
theorem dX4_reads_18 : decode cX4_reads 18 = .ok (.aload_n 1, 1) := by decide +kernel
theorem dX4_reads_19 : decode cX4_reads 19 = .ok (.invokevirtual 34, 3) := by decide +kernel
theorem dX4_reads_22 : decode cX4_reads 22 = .ok (.ifCond .ne 5, 3) := by decide +kernel
theorem dX4_reads_25 : decode cX4_reads 25 = .ok (.iconst 0, 1) := by decide +kernel
theorem dX4_reads_26 : decode cX4_reads 26 = .ok (.ireturn, 1) := by decide +kernel
theorem dX4_reads_27 : decode cX4_reads 27 = .ok (.iconst 0, 1) := by decide +kernel
theorem dX4_reads_28 : decode cX4_reads 28 = .ok (.istore_n 2, 1) := by decide +kernel
theorem dX4_reads_29 : decode cX4_reads 29 = .ok (.iload_n 2, 1) := by decide +kernel
theorem dX4_reads_30 : decode cX4_reads 30 = .ok (.bipush 120, 2) := by decide +kernel
theorem dX4_reads_32 : decode cX4_reads 32 = .ok (.if_icmp .ge 30, 3) := by decide +kernel
theorem dX4_reads_35 : decode cX4_reads 35 = .ok (.aload_n 0, 1) := by decide +kernel
theorem dX4_reads_36 : decode cX4_reads 36 = .ok (.invokevirtual 37, 3) := by decide +kernel
theorem dX4_reads_39 : decode cX4_reads 39 = .ok (.invokestatic 41, 3) := by decide +kernel
theorem dX4_reads_42 : decode cX4_reads 42 = .ok (.iconst (-1), 1) := by decide +kernel
theorem dX4_reads_43 : decode cX4_reads 43 = .ok (.if_icmp .eq 19, 3) := by decide +kernel
theorem dX4_reads_46 : decode cX4_reads 46 = .ok (.aload_n 0, 1) := by decide +kernel
theorem dX4_reads_47 : decode cX4_reads 47 = .ok (.aload_n 1, 1) := by decide +kernel
theorem dX4_reads_48 : decode cX4_reads 48 = .ok (.invokevirtual 34, 3) := by decide +kernel
theorem dX4_reads_51 : decode cX4_reads 51 = .ok (.ifCond .ne 5, 3) := by decide +kernel
theorem dX4_reads_54 : decode cX4_reads 54 = .ok (.iconst 0, 1) := by decide +kernel
theorem dX4_reads_55 : decode cX4_reads 55 = .ok (.ireturn, 1) := by decide +kernel
theorem dX4_reads_56 : decode cX4_reads 56 = .ok (.iinc 2 1, 3) := by decide +kernel
theorem dX4_reads_59 : decode cX4_reads 59 = .ok (.goto (-30), 3) := by decide +kernel
theorem dX4_reads_62 : decode cX4_reads 62 = .ok (.iconst 0, 1) := by decide +kernel
theorem dX4_reads_63 : decode cX4_reads 63 = .ok (.istore_n 2, 1) := by decide +kernel
theorem dX4_reads_64 : decode cX4_reads 64 = .ok (.iload_n 2, 1) := by decide +kernel
theorem dX4_reads_65 : decode cX4_reads 65 = .ok (.bipush 120, 2) := by decide +kernel
theorem dX4_reads_67 : decode cX4_reads 67 = .ok (.if_icmp .ge 30, 3) := by decide +kernel
theorem dX4_reads_70 : decode cX4_reads 70 = .ok (.aload_n 0, 1) := by decide +kernel
theorem dX4_reads_71 : decode cX4_reads 71 = .ok (.getfield 19, 3) := by decide +kernel
theorem dX4_reads_74 : decode cX4_reads 74 = .ok (.aload_n 0, 1) := by decide +kernel
theorem dX4_reads_75 : decode cX4_reads 75 = .ok (.getfield 15, 3) := by decide +kernel
theorem dX4_reads_78 : decode cX4_reads 78 = .ok (.if_icmp .ge 19, 3) := by decide +kernel
theorem dX4_reads_81 : decode cX4_reads 81 = .ok (.aload_n 0, 1) := by decide +kernel
theorem dX4_reads_82 : decode cX4_reads 82 = .ok (.aload_n 1, 1) := by decide +kernel
theorem dX4_reads_83 : decode cX4_reads 83 = .ok (.invokevirtual 45, 3) := by decide +kernel
theorem dX4_reads_86 : decode cX4_reads 86 = .ok (.ifCond .ne 5, 3) := by decide +kernel
theorem dX4_reads_89 : decode cX4_reads 89 = .ok (.iconst 0, 1) := by decide +kernel
theorem dX4_reads_90 : decode cX4_reads 90 = .ok (.ireturn, 1) := by decide +kernel
theorem dX4_reads_91 : decode cX4_reads 91 = .ok (.iinc 2 1, 3) := by decide +kernel
theorem dX4_reads_94 : decode cX4_reads 94 = .ok (.goto (-30), 3) := by decide +kernel
theorem dX4_reads_97 : decode cX4_reads 97 = .ok (.iconst 1, 1) := by decide +kernel
theorem dX4_reads_98 : decode cX4_reads 98 = .ok (.ireturn, 1) := by decide +kernel
theorem dX4_readsLaw_0 : decode cX4_readsLaw 0 = .ok (.aload_n 0, 1) := by decide +kernel
theorem dX4_readsLaw_1 : decode cX4_readsLaw 1 = .ok (.bipush 111, 2) := by decide +kernel
theorem dX4_readsLaw_3 : decode cX4_readsLaw 3 = .ok (.invokevirtual 48, 3) := by decide +kernel
theorem dX4_readsLaw_6 : decode cX4_readsLaw 6 = .ok (.ifCond .ne 5, 3) := by decide +kernel
theorem dX4_readsLaw_9 : decode cX4_readsLaw 9 = .ok (.iconst 0, 1) := by decide +kernel
theorem dX4_readsLaw_10 : decode cX4_readsLaw 10 = .ok (.ireturn, 1) := by decide +kernel
theorem dX4_readsLaw_11 : decode cX4_readsLaw 11 = .ok (.aload_n 1, 1) := by decide +kernel
theorem dX4_readsLaw_12 : decode cX4_readsLaw 12 = .ok (.aload_n 0, 1) := by decide +kernel
theorem dX4_readsLaw_13 : decode cX4_readsLaw 13 = .ok (.iconst 0, 1) := by decide +kernel
theorem dX4_readsLaw_14 : decode cX4_readsLaw 14 = .ok (.bipush 20, 2) := by decide +kernel
theorem dX4_readsLaw_16 : decode cX4_readsLaw 16 = .ok (.invokevirtual 52, 3) := by decide +kernel
theorem dX4_readsLaw_19 : decode cX4_readsLaw 19 = .ok (.putfield 56, 3) := by decide +kernel
theorem dX4_readsLaw_22 : decode cX4_readsLaw 22 = .ok (.aload_n 1, 1) := by decide +kernel
theorem dX4_readsLaw_23 : decode cX4_readsLaw 23 = .ok (.getfield 56, 3) := by decide +kernel
theorem dX4_readsLaw_26 : decode cX4_readsLaw 26 = .ok (.iconst (-1), 1) := by decide +kernel
theorem dX4_readsLaw_27 : decode cX4_readsLaw 27 = .ok (.if_icmp .eq 12, 3) := by decide +kernel
theorem dX4_readsLaw_30 : decode cX4_readsLaw 30 = .ok (.aload_n 0, 1) := by decide +kernel
theorem dX4_readsLaw_31 : decode cX4_readsLaw 31 = .ok (.bipush 44, 2) := by decide +kernel
theorem dX4_readsLaw_33 : decode cX4_readsLaw 33 = .ok (.invokevirtual 48, 3) := by decide +kernel
theorem dX4_readsLaw_36 : decode cX4_readsLaw 36 = .ok (.ifCond .ne 5, 3) := by decide +kernel
theorem dX4_readsLaw_39 : decode cX4_readsLaw 39 = .ok (.iconst 0, 1) := by decide +kernel
theorem dX4_readsLaw_40 : decode cX4_readsLaw 40 = .ok (.ireturn, 1) := by decide +kernel
theorem dX4_readsLaw_41 : decode cX4_readsLaw 41 = .ok (.aload_n 1, 1) := by decide +kernel
theorem dX4_readsLaw_42 : decode cX4_readsLaw 42 = .ok (.aload_n 0, 1) := by decide +kernel
theorem dX4_readsLaw_43 : decode cX4_readsLaw 43 = .ok (.iconst 1, 1) := by decide +kernel
theorem dX4_readsLaw_44 : decode cX4_readsLaw 44 = .ok (.bipush 40, 2) := by decide +kernel
theorem dX4_readsLaw_46 : decode cX4_readsLaw 46 = .ok (.invokevirtual 52, 3) := by decide +kernel
theorem dX4_readsLaw_49 : decode cX4_readsLaw 49 = .ok (.putfield 59, 3) := by decide +kernel
theorem dX4_readsLaw_52 : decode cX4_readsLaw 52 = .ok (.aload_n 1, 1) := by decide +kernel
theorem dX4_readsLaw_53 : decode cX4_readsLaw 53 = .ok (.getfield 59, 3) := by decide +kernel
theorem dX4_readsLaw_56 : decode cX4_readsLaw 56 = .ok (.iconst (-1), 1) := by decide +kernel
theorem dX4_readsLaw_57 : decode cX4_readsLaw 57 = .ok (.if_icmp .eq 12, 3) := by decide +kernel
theorem dX4_readsLaw_60 : decode cX4_readsLaw 60 = .ok (.aload_n 0, 1) := by decide +kernel
theorem dX4_readsLaw_61 : decode cX4_readsLaw 61 = .ok (.bipush 44, 2) := by decide +kernel
theorem dX4_readsLaw_63 : decode cX4_readsLaw 63 = .ok (.invokevirtual 48, 3) := by decide +kernel
theorem dX4_readsLaw_66 : decode cX4_readsLaw 66 = .ok (.ifCond .ne 5, 3) := by decide +kernel
theorem dX4_readsLaw_69 : decode cX4_readsLaw 69 = .ok (.iconst 0, 1) := by decide +kernel
theorem dX4_readsLaw_70 : decode cX4_readsLaw 70 = .ok (.ireturn, 1) := by decide +kernel
theorem dX4_readsLaw_71 : decode cX4_readsLaw 71 = .ok (.aload_n 1, 1) := by decide +kernel
theorem dX4_readsLaw_72 : decode cX4_readsLaw 72 = .ok (.aload_n 0, 1) := by decide +kernel
theorem dX4_readsLaw_73 : decode cX4_readsLaw 73 = .ok (.iconst 0, 1) := by decide +kernel
theorem dX4_readsLaw_74 : decode cX4_readsLaw 74 = .ok (.bipush 9, 2) := by decide +kernel
theorem dX4_readsLaw_76 : decode cX4_readsLaw 76 = .ok (.invokevirtual 52, 3) := by decide +kernel
theorem dX4_readsLaw_79 : decode cX4_readsLaw 79 = .ok (.putfield 62, 3) := by decide +kernel
theorem dX4_readsLaw_82 : decode cX4_readsLaw 82 = .ok (.aload_n 1, 1) := by decide +kernel
theorem dX4_readsLaw_83 : decode cX4_readsLaw 83 = .ok (.getfield 62, 3) := by decide +kernel
theorem dX4_readsLaw_86 : decode cX4_readsLaw 86 = .ok (.iconst (-1), 1) := by decide +kernel
theorem dX4_readsLaw_87 : decode cX4_readsLaw 87 = .ok (.if_icmp .eq 16, 3) := by decide +kernel
theorem dX4_readsLaw_90 : decode cX4_readsLaw 90 = .ok (.aload_n 0, 1) := by decide +kernel
theorem dX4_readsLaw_91 : decode cX4_readsLaw 91 = .ok (.bipush 59, 2) := by decide +kernel
theorem dX4_readsLaw_93 : decode cX4_readsLaw 93 = .ok (.invokevirtual 48, 3) := by decide +kernel
theorem dX4_readsLaw_96 : decode cX4_readsLaw 96 = .ok (.ifCond .eq 7, 3) := by decide +kernel
theorem dX4_readsLaw_99 : decode cX4_readsLaw 99 = .ok (.iconst 1, 1) := by decide +kernel
theorem dX4_readsLaw_100 : decode cX4_readsLaw 100 = .ok (.goto 4, 3) := by decide +kernel
theorem dX4_readsLaw_103 : decode cX4_readsLaw 103 = .ok (.iconst 0, 1) := by decide +kernel
theorem dX4_readsLaw_104 : decode cX4_readsLaw 104 = .ok (.ireturn, 1) := by decide +kernel
theorem dX4_readsDrinker_0 : decode cX4_readsDrinker 0 = .ok (.aload_n 0, 1) := by decide +kernel
theorem dX4_readsDrinker_1 : decode cX4_readsDrinker 1 = .ok (.invokevirtual 37, 3) := by decide +kernel
theorem dX4_readsDrinker_4 : decode cX4_readsDrinker 4 = .ok (.invokestatic 41, 3) := by decide +kernel
theorem dX4_readsDrinker_7 : decode cX4_readsDrinker 7 = .ok (.istore_n 2, 1) := by decide +kernel
theorem dX4_readsDrinker_8 : decode cX4_readsDrinker 8 = .ok (.iload_n 2, 1) := by decide +kernel
theorem dX4_readsDrinker_9 : decode cX4_readsDrinker 9 = .ok (.iconst (-1), 1) := by decide +kernel
theorem dX4_readsDrinker_10 : decode cX4_readsDrinker 10 = .ok (.if_icmp .ne 9, 3) := by decide +kernel
theorem dX4_readsDrinker_13 : decode cX4_readsDrinker 13 = .ok (.aload_n 0, 1) := by decide +kernel
theorem dX4_readsDrinker_14 : decode cX4_readsDrinker 14 = .ok (.iconst 1, 1) := by decide +kernel
theorem dX4_readsDrinker_15 : decode cX4_readsDrinker 15 = .ok (.invokevirtual 65, 3) := by decide +kernel
theorem dX4_readsDrinker_18 : decode cX4_readsDrinker 18 = .ok (.ireturn, 1) := by decide +kernel
theorem dX4_readsDrinker_19 : decode cX4_readsDrinker 19 = .ok (.aload_n 1, 1) := by decide +kernel
theorem dX4_readsDrinker_20 : decode cX4_readsDrinker 20 = .ok (.getfield 68, 3) := by decide +kernel
theorem dX4_readsDrinker_23 : decode cX4_readsDrinker 23 = .ok (.bipush 6, 2) := by decide +kernel
theorem dX4_readsDrinker_25 : decode cX4_readsDrinker 25 = .ok (.if_icmp .lt 9, 3) := by decide +kernel
theorem dX4_readsDrinker_28 : decode cX4_readsDrinker 28 = .ok (.aload_n 0, 1) := by decide +kernel
theorem dX4_readsDrinker_29 : decode cX4_readsDrinker 29 = .ok (.iconst 3, 1) := by decide +kernel
theorem dX4_readsDrinker_30 : decode cX4_readsDrinker 30 = .ok (.invokevirtual 65, 3) := by decide +kernel
theorem dX4_readsDrinker_33 : decode cX4_readsDrinker 33 = .ok (.ireturn, 1) := by decide +kernel
theorem dX4_readsDrinker_34 : decode cX4_readsDrinker 34 = .ok (.aload_n 0, 1) := by decide +kernel
theorem dX4_readsDrinker_35 : decode cX4_readsDrinker 35 = .ok (.dup, 1) := by decide +kernel
theorem dX4_readsDrinker_36 : decode cX4_readsDrinker 36 = .ok (.getfield 19, 3) := by decide +kernel
theorem dX4_readsDrinker_39 : decode cX4_readsDrinker 39 = .ok (.iconst 1, 1) := by decide +kernel
theorem dX4_readsDrinker_40 : decode cX4_readsDrinker 40 = .ok (.iadd, 1) := by decide +kernel
theorem dX4_readsDrinker_41 : decode cX4_readsDrinker 41 = .ok (.putfield 19, 3) := by decide +kernel
theorem dX4_readsDrinker_44 : decode cX4_readsDrinker 44 = .ok (.aload_n 0, 1) := by decide +kernel
theorem dX4_readsDrinker_45 : decode cX4_readsDrinker 45 = .ok (.iconst 0, 1) := by decide +kernel
theorem dX4_readsDrinker_46 : decode cX4_readsDrinker 46 = .ok (.bipush 12, 2) := by decide +kernel
theorem dX4_readsDrinker_48 : decode cX4_readsDrinker 48 = .ok (.invokevirtual 52, 3) := by decide +kernel
theorem dX4_readsDrinker_51 : decode cX4_readsDrinker 51 = .ok (.istore_n 3, 1) := by decide +kernel
theorem dX4_readsDrinker_52 : decode cX4_readsDrinker 52 = .ok (.iload_n 3, 1) := by decide +kernel
theorem dX4_readsDrinker_53 : decode cX4_readsDrinker 53 = .ok (.iconst (-1), 1) := by decide +kernel
theorem dX4_readsDrinker_54 : decode cX4_readsDrinker 54 = .ok (.if_icmp .eq 12, 3) := by decide +kernel
theorem dX4_readsDrinker_57 : decode cX4_readsDrinker 57 = .ok (.aload_n 0, 1) := by decide +kernel
theorem dX4_readsDrinker_58 : decode cX4_readsDrinker 58 = .ok (.bipush 44, 2) := by decide +kernel
theorem dX4_readsDrinker_60 : decode cX4_readsDrinker 60 = .ok (.invokevirtual 48, 3) := by decide +kernel
theorem dX4_readsDrinker_63 : decode cX4_readsDrinker 63 = .ok (.ifCond .ne 5, 3) := by decide +kernel
theorem dX4_readsDrinker_66 : decode cX4_readsDrinker 66 = .ok (.iconst 0, 1) := by decide +kernel
theorem dX4_readsDrinker_67 : decode cX4_readsDrinker 67 = .ok (.ireturn, 1) := by decide +kernel
theorem dX4_readsDrinker_68 : decode cX4_readsDrinker 68 = .ok (.aload_n 0, 1) := by decide +kernel
theorem dX4_readsDrinker_69 : decode cX4_readsDrinker 69 = .ok (.iconst 0, 1) := by decide +kernel
theorem dX4_readsDrinker_70 : decode cX4_readsDrinker 70 = .ok (.iconst 5, 1) := by decide +kernel
theorem dX4_readsDrinker_71 : decode cX4_readsDrinker 71 = .ok (.invokevirtual 52, 3) := by decide +kernel
theorem dX4_readsDrinker_74 : decode cX4_readsDrinker 74 = .ok (.istore 4, 2) := by decide +kernel
theorem dX4_readsDrinker_76 : decode cX4_readsDrinker 76 = .ok (.iload 4, 2) := by decide +kernel
theorem dX4_readsDrinker_78 : decode cX4_readsDrinker 78 = .ok (.iconst (-1), 1) := by decide +kernel
theorem dX4_readsDrinker_79 : decode cX4_readsDrinker 79 = .ok (.if_icmp .eq 12, 3) := by decide +kernel
theorem dX4_readsDrinker_82 : decode cX4_readsDrinker 82 = .ok (.aload_n 0, 1) := by decide +kernel
theorem dX4_readsDrinker_83 : decode cX4_readsDrinker 83 = .ok (.bipush 59, 2) := by decide +kernel
theorem dX4_readsDrinker_85 : decode cX4_readsDrinker 85 = .ok (.invokevirtual 48, 3) := by decide +kernel
theorem dX4_readsDrinker_88 : decode cX4_readsDrinker 88 = .ok (.ifCond .ne 5, 3) := by decide +kernel
theorem dX4_readsDrinker_91 : decode cX4_readsDrinker 91 = .ok (.iconst 0, 1) := by decide +kernel
theorem dX4_readsDrinker_92 : decode cX4_readsDrinker 92 = .ok (.ireturn, 1) := by decide +kernel
theorem dX4_readsDrinker_93 : decode cX4_readsDrinker 93 = .ok (.aload_n 1, 1) := by decide +kernel
theorem dX4_readsDrinker_94 : decode cX4_readsDrinker 94 = .ok (.iload_n 2, 1) := by decide +kernel
theorem dX4_readsDrinker_95 : decode cX4_readsDrinker 95 = .ok (.iload_n 3, 1) := by decide +kernel
theorem dX4_readsDrinker_96 : decode cX4_readsDrinker 96 = .ok (.iload 4, 2) := by decide +kernel
theorem dX4_readsDrinker_98 : decode cX4_readsDrinker 98 = .ok (.invokevirtual 71, 3) := by decide +kernel
theorem dX4_readsDrinker_101 : decode cX4_readsDrinker 101 = .ok (.iconst 1, 1) := by decide +kernel
theorem dX4_readsDrinker_102 : decode cX4_readsDrinker 102 = .ok (.ireturn, 1) := by decide +kernel
theorem dX4_readsTie_0 : decode cX4_readsTie 0 = .ok (.aload_n 0, 1) := by decide +kernel
theorem dX4_readsTie_1 : decode cX4_readsTie 1 = .ok (.invokevirtual 37, 3) := by decide +kernel
theorem dX4_readsTie_4 : decode cX4_readsTie 4 = .ok (.bipush 116, 2) := by decide +kernel
theorem dX4_readsTie_6 : decode cX4_readsTie 6 = .ok (.if_icmp .ne 18, 3) := by decide +kernel
theorem dX4_readsTie_9 : decode cX4_readsTie 9 = .ok (.aload_n 1, 1) := by decide +kernel
theorem dX4_readsTie_10 : decode cX4_readsTie 10 = .ok (.getfield 75, 3) := by decide +kernel
theorem dX4_readsTie_13 : decode cX4_readsTie 13 = .ok (.bipush 10, 2) := by decide +kernel
theorem dX4_readsTie_15 : decode cX4_readsTie 15 = .ok (.if_icmp .lt 9, 3) := by decide +kernel
theorem dX4_readsTie_18 : decode cX4_readsTie 18 = .ok (.aload_n 0, 1) := by decide +kernel
theorem dX4_readsTie_19 : decode cX4_readsTie 19 = .ok (.iconst 3, 1) := by decide +kernel
theorem dX4_readsTie_20 : decode cX4_readsTie 20 = .ok (.invokevirtual 65, 3) := by decide +kernel
theorem dX4_readsTie_23 : decode cX4_readsTie 23 = .ok (.ireturn, 1) := by decide +kernel
theorem dX4_readsTie_24 : decode cX4_readsTie 24 = .ok (.aload_n 0, 1) := by decide +kernel
theorem dX4_readsTie_25 : decode cX4_readsTie 25 = .ok (.bipush 116, 2) := by decide +kernel
theorem dX4_readsTie_27 : decode cX4_readsTie 27 = .ok (.invokevirtual 48, 3) := by decide +kernel
theorem dX4_readsTie_30 : decode cX4_readsTie 30 = .ok (.ifCond .ne 5, 3) := by decide +kernel
theorem dX4_readsTie_33 : decode cX4_readsTie 33 = .ok (.iconst 0, 1) := by decide +kernel
theorem dX4_readsTie_34 : decode cX4_readsTie 34 = .ok (.ireturn, 1) := by decide +kernel
theorem dX4_readsTie_35 : decode cX4_readsTie 35 = .ok (.aload_n 0, 1) := by decide +kernel
theorem dX4_readsTie_36 : decode cX4_readsTie 36 = .ok (.iconst 0, 1) := by decide +kernel
theorem dX4_readsTie_37 : decode cX4_readsTie 37 = .ok (.aload_n 1, 1) := by decide +kernel
theorem dX4_readsTie_38 : decode cX4_readsTie 38 = .ok (.getfield 68, 3) := by decide +kernel
theorem dX4_readsTie_41 : decode cX4_readsTie 41 = .ok (.iconst 1, 1) := by decide +kernel
theorem dX4_readsTie_42 : decode cX4_readsTie 42 = .ok (.isub, 1) := by decide +kernel
theorem dX4_readsTie_43 : decode cX4_readsTie 43 = .ok (.invokevirtual 52, 3) := by decide +kernel
theorem dX4_readsTie_46 : decode cX4_readsTie 46 = .ok (.istore_n 2, 1) := by decide +kernel
theorem dX4_readsTie_47 : decode cX4_readsTie 47 = .ok (.iload_n 2, 1) := by decide +kernel
theorem dX4_readsTie_48 : decode cX4_readsTie 48 = .ok (.iconst (-1), 1) := by decide +kernel
theorem dX4_readsTie_49 : decode cX4_readsTie 49 = .ok (.if_icmp .eq 12, 3) := by decide +kernel
theorem dX4_readsTie_52 : decode cX4_readsTie 52 = .ok (.aload_n 0, 1) := by decide +kernel
theorem dX4_readsTie_53 : decode cX4_readsTie 53 = .ok (.bipush 44, 2) := by decide +kernel
theorem dX4_readsTie_55 : decode cX4_readsTie 55 = .ok (.invokevirtual 48, 3) := by decide +kernel
theorem dX4_readsTie_58 : decode cX4_readsTie 58 = .ok (.ifCond .ne 5, 3) := by decide +kernel
theorem dX4_readsTie_61 : decode cX4_readsTie 61 = .ok (.iconst 0, 1) := by decide +kernel
theorem dX4_readsTie_62 : decode cX4_readsTie 62 = .ok (.ireturn, 1) := by decide +kernel
theorem dX4_readsTie_63 : decode cX4_readsTie 63 = .ok (.aload_n 0, 1) := by decide +kernel
theorem dX4_readsTie_64 : decode cX4_readsTie 64 = .ok (.getfield 19, 3) := by decide +kernel
theorem dX4_readsTie_67 : decode cX4_readsTie 67 = .ok (.istore_n 3, 1) := by decide +kernel
theorem dX4_readsTie_68 : decode cX4_readsTie 68 = .ok (.aload_n 0, 1) := by decide +kernel
theorem dX4_readsTie_69 : decode cX4_readsTie 69 = .ok (.iconst 0, 1) := by decide +kernel
theorem dX4_readsTie_70 : decode cX4_readsTie 70 = .ok (.aload_n 1, 1) := by decide +kernel
theorem dX4_readsTie_71 : decode cX4_readsTie 71 = .ok (.getfield 68, 3) := by decide +kernel
theorem dX4_readsTie_74 : decode cX4_readsTie 74 = .ok (.iconst 1, 1) := by decide +kernel
theorem dX4_readsTie_75 : decode cX4_readsTie 75 = .ok (.isub, 1) := by decide +kernel
theorem dX4_readsTie_76 : decode cX4_readsTie 76 = .ok (.invokevirtual 52, 3) := by decide +kernel
theorem dX4_readsTie_79 : decode cX4_readsTie 79 = .ok (.istore 4, 2) := by decide +kernel
theorem dX4_readsTie_81 : decode cX4_readsTie 81 = .ok (.iload 4, 2) := by decide +kernel
theorem dX4_readsTie_83 : decode cX4_readsTie 83 = .ok (.iconst (-1), 1) := by decide +kernel
theorem dX4_readsTie_84 : decode cX4_readsTie 84 = .ok (.if_icmp .ne 5, 3) := by decide +kernel
theorem dX4_readsTie_87 : decode cX4_readsTie 87 = .ok (.iconst 0, 1) := by decide +kernel
theorem dX4_readsTie_88 : decode cX4_readsTie 88 = .ok (.ireturn, 1) := by decide +kernel
theorem dX4_readsTie_89 : decode cX4_readsTie 89 = .ok (.iload 4, 2) := by decide +kernel
theorem dX4_readsTie_91 : decode cX4_readsTie 91 = .ok (.iload_n 2, 1) := by decide +kernel
theorem dX4_readsTie_92 : decode cX4_readsTie 92 = .ok (.if_icmp .eq 16, 3) := by decide +kernel
theorem dX4_readsTie_95 : decode cX4_readsTie 95 = .ok (.aload_n 1, 1) := by decide +kernel
theorem dX4_readsTie_96 : decode cX4_readsTie 96 = .ok (.iload_n 2, 1) := by decide +kernel
theorem dX4_readsTie_97 : decode cX4_readsTie 97 = .ok (.invokevirtual 78, 3) := by decide +kernel
theorem dX4_readsTie_100 : decode cX4_readsTie 100 = .ok (.iload 4, 2) := by decide +kernel
theorem dX4_readsTie_102 : decode cX4_readsTie 102 = .ok (.ishr, 1) := by decide +kernel
theorem dX4_readsTie_103 : decode cX4_readsTie 103 = .ok (.iconst 1, 1) := by decide +kernel
theorem dX4_readsTie_104 : decode cX4_readsTie 104 = .ok (.iand, 1) := by decide +kernel
theorem dX4_readsTie_105 : decode cX4_readsTie 105 = .ok (.ifCond .eq 14, 3) := by decide +kernel
theorem dX4_readsTie_108 : decode cX4_readsTie 108 = .ok (.aload_n 0, 1) := by decide +kernel
theorem dX4_readsTie_109 : decode cX4_readsTie 109 = .ok (.iload_n 3, 1) := by decide +kernel
theorem dX4_readsTie_110 : decode cX4_readsTie 110 = .ok (.putfield 19, 3) := by decide +kernel
theorem dX4_readsTie_113 : decode cX4_readsTie 113 = .ok (.aload_n 0, 1) := by decide +kernel
theorem dX4_readsTie_114 : decode cX4_readsTie 114 = .ok (.iconst 2, 1) := by decide +kernel
theorem dX4_readsTie_115 : decode cX4_readsTie 115 = .ok (.invokevirtual 65, 3) := by decide +kernel
theorem dX4_readsTie_118 : decode cX4_readsTie 118 = .ok (.ireturn, 1) := by decide +kernel
theorem dX4_readsTie_119 : decode cX4_readsTie 119 = .ok (.aload_n 0, 1) := by decide +kernel
theorem dX4_readsTie_120 : decode cX4_readsTie 120 = .ok (.bipush 59, 2) := by decide +kernel
theorem dX4_readsTie_122 : decode cX4_readsTie 122 = .ok (.invokevirtual 48, 3) := by decide +kernel
theorem dX4_readsTie_125 : decode cX4_readsTie 125 = .ok (.ifCond .ne 5, 3) := by decide +kernel
theorem dX4_readsTie_128 : decode cX4_readsTie 128 = .ok (.iconst 0, 1) := by decide +kernel
theorem dX4_readsTie_129 : decode cX4_readsTie 129 = .ok (.ireturn, 1) := by decide +kernel
theorem dX4_readsTie_130 : decode cX4_readsTie 130 = .ok (.aload_n 1, 1) := by decide +kernel
theorem dX4_readsTie_131 : decode cX4_readsTie 131 = .ok (.iload_n 2, 1) := by decide +kernel
theorem dX4_readsTie_132 : decode cX4_readsTie 132 = .ok (.iload 4, 2) := by decide +kernel
theorem dX4_readsTie_134 : decode cX4_readsTie 134 = .ok (.invokevirtual 81, 3) := by decide +kernel
theorem dX4_readsTie_137 : decode cX4_readsTie 137 = .ok (.iconst 1, 1) := by decide +kernel
theorem dX4_readsTie_138 : decode cX4_readsTie 138 = .ok (.ireturn, 1) := by decide +kernel
theorem dX4_fails_0 : decode cX4_fails 0 = .ok (.aload_n 0, 1) := by decide +kernel
theorem dX4_fails_1 : decode cX4_fails 1 = .ok (.iload_n 1, 1) := by decide +kernel
theorem dX4_fails_2 : decode cX4_fails 2 = .ok (.putfield 22, 3) := by decide +kernel
theorem dX4_fails_5 : decode cX4_fails 5 = .ok (.iconst 0, 1) := by decide +kernel
theorem dX4_fails_6 : decode cX4_fails 6 = .ok (.ireturn, 1) := by decide +kernel
theorem dX4_letter_0 : decode cX4_letter 0 = .ok (.aload_n 0, 1) := by decide +kernel
theorem dX4_letter_1 : decode cX4_letter 1 = .ok (.aload_n 0, 1) := by decide +kernel
theorem dX4_letter_2 : decode cX4_letter 2 = .ok (.getfield 19, 3) := by decide +kernel
theorem dX4_letter_5 : decode cX4_letter 5 = .ok (.invokevirtual 85, 3) := by decide +kernel
theorem dX4_letter_8 : decode cX4_letter 8 = .ok (.ireturn, 1) := by decide +kernel
theorem dX4_byteAt_0 : decode cX4_byteAt 0 = .ok (.iload_n 1, 1) := by decide +kernel
theorem dX4_byteAt_1 : decode cX4_byteAt 1 = .ok (.ifCond .lt 20, 3) := by decide +kernel
theorem dX4_byteAt_4 : decode cX4_byteAt 4 = .ok (.iload_n 1, 1) := by decide +kernel
theorem dX4_byteAt_5 : decode cX4_byteAt 5 = .ok (.aload_n 0, 1) := by decide +kernel
theorem dX4_byteAt_6 : decode cX4_byteAt 6 = .ok (.getfield 15, 3) := by decide +kernel
theorem dX4_byteAt_9 : decode cX4_byteAt 9 = .ok (.if_icmp .ge 12, 3) := by decide +kernel
theorem dX4_byteAt_12 : decode cX4_byteAt 12 = .ok (.aload_n 0, 1) := by decide +kernel
theorem dX4_byteAt_13 : decode cX4_byteAt 13 = .ok (.getfield 9, 3) := by decide +kernel
theorem dX4_byteAt_16 : decode cX4_byteAt 16 = .ok (.iload_n 1, 1) := by decide +kernel
theorem dX4_byteAt_17 : decode cX4_byteAt 17 = .ok (.iaload, 1) := by decide +kernel
theorem dX4_byteAt_18 : decode cX4_byteAt 18 = .ok (.goto 4, 3) := by decide +kernel
theorem dX4_byteAt_21 : decode cX4_byteAt 21 = .ok (.iconst (-1), 1) := by decide +kernel
theorem dX4_byteAt_22 : decode cX4_byteAt 22 = .ok (.ireturn, 1) := by decide +kernel
theorem dX4_passes_0 : decode cX4_passes 0 = .ok (.aload_n 0, 1) := by decide +kernel
theorem dX4_passes_1 : decode cX4_passes 1 = .ok (.invokevirtual 37, 3) := by decide +kernel
theorem dX4_passes_4 : decode cX4_passes 4 = .ok (.iload_n 1, 1) := by decide +kernel
theorem dX4_passes_5 : decode cX4_passes 5 = .ok (.if_icmp .eq 9, 3) := by decide +kernel
theorem dX4_passes_8 : decode cX4_passes 8 = .ok (.aload_n 0, 1) := by decide +kernel
theorem dX4_passes_9 : decode cX4_passes 9 = .ok (.iconst 1, 1) := by decide +kernel
theorem dX4_passes_10 : decode cX4_passes 10 = .ok (.invokevirtual 65, 3) := by decide +kernel
theorem dX4_passes_13 : decode cX4_passes 13 = .ok (.ireturn, 1) := by decide +kernel
theorem dX4_passes_14 : decode cX4_passes 14 = .ok (.aload_n 0, 1) := by decide +kernel
theorem dX4_passes_15 : decode cX4_passes 15 = .ok (.dup, 1) := by decide +kernel
theorem dX4_passes_16 : decode cX4_passes 16 = .ok (.getfield 19, 3) := by decide +kernel
theorem dX4_passes_19 : decode cX4_passes 19 = .ok (.iconst 1, 1) := by decide +kernel
theorem dX4_passes_20 : decode cX4_passes 20 = .ok (.iadd, 1) := by decide +kernel
theorem dX4_passes_21 : decode cX4_passes 21 = .ok (.putfield 19, 3) := by decide +kernel
theorem dX4_passes_24 : decode cX4_passes 24 = .ok (.iconst 1, 1) := by decide +kernel
theorem dX4_passes_25 : decode cX4_passes 25 = .ok (.ireturn, 1) := by decide +kernel
theorem dX4_number_0 : decode cX4_number 0 = .ok (.iconst 0, 1) := by decide +kernel
theorem dX4_number_1 : decode cX4_number 1 = .ok (.istore_n 3, 1) := by decide +kernel
theorem dX4_number_2 : decode cX4_number 2 = .ok (.iconst 0, 1) := by decide +kernel
theorem dX4_number_3 : decode cX4_number 3 = .ok (.istore 4, 2) := by decide +kernel
theorem dX4_number_5 : decode cX4_number 5 = .ok (.iload_n 3, 1) := by decide +kernel
theorem dX4_number_6 : decode cX4_number 6 = .ok (.iconst 3, 1) := by decide +kernel
theorem dX4_number_7 : decode cX4_number 7 = .ok (.if_icmp .ge 46, 3) := by decide +kernel
theorem dX4_number_10 : decode cX4_number 10 = .ok (.aload_n 0, 1) := by decide +kernel
theorem dX4_number_11 : decode cX4_number 11 = .ok (.aload_n 0, 1) := by decide +kernel
theorem dX4_number_12 : decode cX4_number 12 = .ok (.getfield 19, 3) := by decide +kernel
theorem dX4_number_15 : decode cX4_number 15 = .ok (.iload_n 3, 1) := by decide +kernel
theorem dX4_number_16 : decode cX4_number 16 = .ok (.iadd, 1) := by decide +kernel
theorem dX4_number_17 : decode cX4_number 17 = .ok (.invokevirtual 85, 3) := by decide +kernel
theorem dX4_number_20 : decode cX4_number 20 = .ok (.invokestatic 88, 3) := by decide +kernel
theorem dX4_number_23 : decode cX4_number 23 = .ok (.ifCond .eq 30, 3) := by decide +kernel
theorem dX4_number_26 : decode cX4_number 26 = .ok (.bipush 10, 2) := by decide +kernel
theorem dX4_number_28 : decode cX4_number 28 = .ok (.iload 4, 2) := by decide +kernel
theorem dX4_number_30 : decode cX4_number 30 = .ok (.imul, 1) := by decide +kernel
theorem dX4_number_31 : decode cX4_number 31 = .ok (.aload_n 0, 1) := by decide +kernel
theorem dX4_number_32 : decode cX4_number 32 = .ok (.aload_n 0, 1) := by decide +kernel
theorem dX4_number_33 : decode cX4_number 33 = .ok (.getfield 19, 3) := by decide +kernel
theorem dX4_number_36 : decode cX4_number 36 = .ok (.iload_n 3, 1) := by decide +kernel
theorem dX4_number_37 : decode cX4_number 37 = .ok (.iadd, 1) := by decide +kernel
theorem dX4_number_38 : decode cX4_number 38 = .ok (.invokevirtual 85, 3) := by decide +kernel
theorem dX4_number_41 : decode cX4_number 41 = .ok (.iadd, 1) := by decide +kernel
theorem dX4_number_42 : decode cX4_number 42 = .ok (.bipush 48, 2) := by decide +kernel
theorem dX4_number_44 : decode cX4_number 44 = .ok (.isub, 1) := by decide +kernel
theorem dX4_number_45 : decode cX4_number 45 = .ok (.istore 4, 2) := by decide +kernel
theorem dX4_number_47 : decode cX4_number 47 = .ok (.iinc 3 1, 3) := by decide +kernel
theorem dX4_number_50 : decode cX4_number 50 = .ok (.goto (-45), 3) := by decide +kernel
theorem dX4_number_53 : decode cX4_number 53 = .ok (.iload_n 3, 1) := by decide +kernel
theorem dX4_number_54 : decode cX4_number 54 = .ok (.ifCond .eq 8, 3) := by decide +kernel
theorem dX4_number_57 : decode cX4_number 57 = .ok (.iload_n 3, 1) := by decide +kernel
theorem dX4_number_58 : decode cX4_number 58 = .ok (.iconst 2, 1) := by decide +kernel
theorem dX4_number_59 : decode cX4_number 59 = .ok (.if_icmp .le 11, 3) := by decide +kernel
theorem dX4_number_62 : decode cX4_number 62 = .ok (.aload_n 0, 1) := by decide +kernel
theorem dX4_number_63 : decode cX4_number 63 = .ok (.iconst 1, 1) := by decide +kernel
theorem dX4_number_64 : decode cX4_number 64 = .ok (.invokevirtual 65, 3) := by decide +kernel
theorem dX4_number_67 : decode cX4_number 67 = .ok (.pop, 1) := by decide +kernel
theorem dX4_number_68 : decode cX4_number 68 = .ok (.iconst (-1), 1) := by decide +kernel
theorem dX4_number_69 : decode cX4_number 69 = .ok (.ireturn, 1) := by decide +kernel
theorem dX4_number_70 : decode cX4_number 70 = .ok (.iload 4, 2) := by decide +kernel
theorem dX4_number_72 : decode cX4_number 72 = .ok (.iload_n 1, 1) := by decide +kernel
theorem dX4_number_73 : decode cX4_number 73 = .ok (.if_icmp .lt 9, 3) := by decide +kernel
theorem dX4_number_76 : decode cX4_number 76 = .ok (.iload 4, 2) := by decide +kernel
theorem dX4_number_78 : decode cX4_number 78 = .ok (.iload_n 2, 1) := by decide +kernel
theorem dX4_number_79 : decode cX4_number 79 = .ok (.if_icmp .le 11, 3) := by decide +kernel
theorem dX4_number_82 : decode cX4_number 82 = .ok (.aload_n 0, 1) := by decide +kernel
theorem dX4_number_83 : decode cX4_number 83 = .ok (.iconst 2, 1) := by decide +kernel
theorem dX4_number_84 : decode cX4_number 84 = .ok (.invokevirtual 65, 3) := by decide +kernel
theorem dX4_number_87 : decode cX4_number 87 = .ok (.pop, 1) := by decide +kernel
theorem dX4_number_88 : decode cX4_number 88 = .ok (.iconst (-1), 1) := by decide +kernel
theorem dX4_number_89 : decode cX4_number 89 = .ok (.ireturn, 1) := by decide +kernel
theorem dX4_number_90 : decode cX4_number 90 = .ok (.aload_n 0, 1) := by decide +kernel
theorem dX4_number_91 : decode cX4_number 91 = .ok (.dup, 1) := by decide +kernel
theorem dX4_number_92 : decode cX4_number 92 = .ok (.getfield 19, 3) := by decide +kernel
theorem dX4_number_95 : decode cX4_number 95 = .ok (.iload_n 3, 1) := by decide +kernel
theorem dX4_number_96 : decode cX4_number 96 = .ok (.iadd, 1) := by decide +kernel
theorem dX4_number_97 : decode cX4_number 97 = .ok (.putfield 19, 3) := by decide +kernel
theorem dX4_number_100 : decode cX4_number 100 = .ok (.iload 4, 2) := by decide +kernel
theorem dX4_number_102 : decode cX4_number 102 = .ok (.ireturn, 1) := by decide +kernel
theorem dX4_isFigure_0 : decode cX4_isFigure 0 = .ok (.iload_n 0, 1) := by decide +kernel
theorem dX4_isFigure_1 : decode cX4_isFigure 1 = .ok (.bipush 48, 2) := by decide +kernel
theorem dX4_isFigure_3 : decode cX4_isFigure 3 = .ok (.if_icmp .lt 13, 3) := by decide +kernel
theorem dX4_isFigure_6 : decode cX4_isFigure 6 = .ok (.iload_n 0, 1) := by decide +kernel
theorem dX4_isFigure_7 : decode cX4_isFigure 7 = .ok (.bipush 57, 2) := by decide +kernel
theorem dX4_isFigure_9 : decode cX4_isFigure 9 = .ok (.if_icmp .gt 7, 3) := by decide +kernel
theorem dX4_isFigure_12 : decode cX4_isFigure 12 = .ok (.iconst 1, 1) := by decide +kernel
theorem dX4_isFigure_13 : decode cX4_isFigure 13 = .ok (.goto 4, 3) := by decide +kernel
theorem dX4_isFigure_16 : decode cX4_isFigure 16 = .ok (.iconst 0, 1) := by decide +kernel
theorem dX4_isFigure_17 : decode cX4_isFigure 17 = .ok (.ireturn, 1) := by decide +kernel
theorem dX4_sortOf_0 : decode cX4_sortOf 0 = .ok (.iload_n 0, 1) := by decide +kernel
theorem dX4_sortOf_1 : decode cX4_sortOf 1 = .ok (.lookupswitch 61 #[(98, 57), (100, 51), (103, 53), (114, 59), (119, 55)], 51) := by decide +kernel
theorem dX4_sortOf_52 : decode cX4_sortOf 52 = .ok (.iconst 1, 1) := by decide +kernel
theorem dX4_sortOf_53 : decode cX4_sortOf 53 = .ok (.ireturn, 1) := by decide +kernel
theorem dX4_sortOf_54 : decode cX4_sortOf 54 = .ok (.iconst 2, 1) := by decide +kernel
theorem dX4_sortOf_55 : decode cX4_sortOf 55 = .ok (.ireturn, 1) := by decide +kernel
theorem dX4_sortOf_56 : decode cX4_sortOf 56 = .ok (.iconst 3, 1) := by decide +kernel
theorem dX4_sortOf_57 : decode cX4_sortOf 57 = .ok (.ireturn, 1) := by decide +kernel
theorem dX4_sortOf_58 : decode cX4_sortOf 58 = .ok (.iconst 4, 1) := by decide +kernel
theorem dX4_sortOf_59 : decode cX4_sortOf 59 = .ok (.ireturn, 1) := by decide +kernel
theorem dX4_sortOf_60 : decode cX4_sortOf 60 = .ok (.iconst 5, 1) := by decide +kernel
theorem dX4_sortOf_61 : decode cX4_sortOf 61 = .ok (.ireturn, 1) := by decide +kernel
theorem dX4_sortOf_62 : decode cX4_sortOf 62 = .ok (.iconst (-1), 1) := by decide +kernel
theorem dX4_sortOf_63 : decode cX4_sortOf 63 = .ok (.ireturn, 1) := by decide +kernel
theorem dX5_init_0 : decode cX5_init 0 = .ok (.aload_n 0, 1) := by decide +kernel
theorem dX5_init_1 : decode cX5_init 1 = .ok (.invokespecial 3, 3) := by decide +kernel
theorem dX5_init_4 : decode cX5_init 4 = .ok (.aload_n 0, 1) := by decide +kernel
theorem dX5_init_5 : decode cX5_init 5 = .ok (.bipush 8, 2) := by decide +kernel
theorem dX5_init_7 : decode cX5_init 7 = .ok (.bipush 40, 2) := by decide +kernel
theorem dX5_init_9 : decode cX5_init 9 = .ok (.multianewarray 9 2, 4) := by decide +kernel
theorem dX5_init_13 : decode cX5_init 13 = .ok (.putfield 11, 3) := by decide +kernel
theorem dX5_init_16 : decode cX5_init 16 = .ok (.aload_n 0, 1) := by decide +kernel
theorem dX5_init_17 : decode cX5_init 17 = .ok (.bipush 8, 2) := by decide +kernel
theorem dX5_init_19 : decode cX5_init 19 = .ok (.newarray .int, 2) := by decide +kernel
theorem dX5_init_21 : decode cX5_init 21 = .ok (.putfield 16, 3) := by decide +kernel
theorem dX5_init_24 : decode cX5_init 24 = .ok (.aload_n 0, 1) := by decide +kernel
theorem dX5_init_25 : decode cX5_init 25 = .ok (.bipush 8, 2) := by decide +kernel
theorem dX5_init_27 : decode cX5_init 27 = .ok (.newarray .int, 2) := by decide +kernel
theorem dX5_init_29 : decode cX5_init 29 = .ok (.dup, 1) := by decide +kernel
theorem dX5_init_30 : decode cX5_init 30 = .ok (.iconst 0, 1) := by decide +kernel
theorem dX5_init_31 : decode cX5_init 31 = .ok (.iconst (-1), 1) := by decide +kernel
theorem dX5_init_32 : decode cX5_init 32 = .ok (.iastore, 1) := by decide +kernel
theorem dX5_init_33 : decode cX5_init 33 = .ok (.dup, 1) := by decide +kernel
theorem dX5_init_34 : decode cX5_init 34 = .ok (.iconst 1, 1) := by decide +kernel
theorem dX5_init_35 : decode cX5_init 35 = .ok (.iconst (-1), 1) := by decide +kernel
theorem dX5_init_36 : decode cX5_init 36 = .ok (.iastore, 1) := by decide +kernel
theorem dX5_init_37 : decode cX5_init 37 = .ok (.dup, 1) := by decide +kernel
theorem dX5_init_38 : decode cX5_init 38 = .ok (.iconst 2, 1) := by decide +kernel
theorem dX5_init_39 : decode cX5_init 39 = .ok (.iconst (-1), 1) := by decide +kernel
theorem dX5_init_40 : decode cX5_init 40 = .ok (.iastore, 1) := by decide +kernel
theorem dX5_init_41 : decode cX5_init 41 = .ok (.dup, 1) := by decide +kernel
theorem dX5_init_42 : decode cX5_init 42 = .ok (.iconst 3, 1) := by decide +kernel
theorem dX5_init_43 : decode cX5_init 43 = .ok (.iconst (-1), 1) := by decide +kernel
theorem dX5_init_44 : decode cX5_init 44 = .ok (.iastore, 1) := by decide +kernel
theorem dX5_init_45 : decode cX5_init 45 = .ok (.dup, 1) := by decide +kernel
theorem dX5_init_46 : decode cX5_init 46 = .ok (.iconst 4, 1) := by decide +kernel
theorem dX5_init_47 : decode cX5_init 47 = .ok (.iconst (-1), 1) := by decide +kernel
theorem dX5_init_48 : decode cX5_init 48 = .ok (.iastore, 1) := by decide +kernel
theorem dX5_init_49 : decode cX5_init 49 = .ok (.dup, 1) := by decide +kernel
theorem dX5_init_50 : decode cX5_init 50 = .ok (.iconst 5, 1) := by decide +kernel
theorem dX5_init_51 : decode cX5_init 51 = .ok (.iconst (-1), 1) := by decide +kernel
theorem dX5_init_52 : decode cX5_init 52 = .ok (.iastore, 1) := by decide +kernel
theorem dX5_init_53 : decode cX5_init 53 = .ok (.dup, 1) := by decide +kernel
theorem dX5_init_54 : decode cX5_init 54 = .ok (.bipush 6, 2) := by decide +kernel
theorem dX5_init_56 : decode cX5_init 56 = .ok (.iconst (-1), 1) := by decide +kernel
theorem dX5_init_57 : decode cX5_init 57 = .ok (.iastore, 1) := by decide +kernel
theorem dX5_init_58 : decode cX5_init 58 = .ok (.dup, 1) := by decide +kernel
theorem dX5_init_59 : decode cX5_init 59 = .ok (.bipush 7, 2) := by decide +kernel
theorem dX5_init_61 : decode cX5_init 61 = .ok (.iconst (-1), 1) := by decide +kernel
theorem dX5_init_62 : decode cX5_init 62 = .ok (.iastore, 1) := by decide +kernel
theorem dX5_init_63 : decode cX5_init 63 = .ok (.putfield 20, 3) := by decide +kernel
theorem dX5_init_66 : decode cX5_init 66 = .ok (.return_, 1) := by decide +kernel
theorem dX5_isMissing_0 : decode cX5_isMissing 0 = .ok (.aload_n 0, 1) := by decide +kernel
theorem dX5_isMissing_1 : decode cX5_isMissing 1 = .ok (.getfield 20, 3) := by decide +kernel
theorem dX5_isMissing_4 : decode cX5_isMissing 4 = .ok (.iload_n 1, 1) := by decide +kernel
theorem dX5_isMissing_5 : decode cX5_isMissing 5 = .ok (.iaload, 1) := by decide +kernel
theorem dX5_isMissing_6 : decode cX5_isMissing 6 = .ok (.iconst (-1), 1) := by decide +kernel
theorem dX5_isMissing_7 : decode cX5_isMissing 7 = .ok (.if_icmp .ne 7, 3) := by decide +kernel
theorem dX5_isMissing_10 : decode cX5_isMissing 10 = .ok (.iconst 1, 1) := by decide +kernel
theorem dX5_isMissing_11 : decode cX5_isMissing 11 = .ok (.goto 4, 3) := by decide +kernel
theorem dX5_isMissing_14 : decode cX5_isMissing 14 = .ok (.iconst 0, 1) := by decide +kernel
theorem dX5_isMissing_15 : decode cX5_isMissing 15 = .ok (.ireturn, 1) := by decide +kernel
theorem dX5_holds_0 : decode cX5_holds 0 = .ok (.iload_n 2, 1) := by decide +kernel
theorem dX5_holds_1 : decode cX5_holds 1 = .ok (.ifCond .lt 33, 3) := by decide +kernel
theorem dX5_holds_4 : decode cX5_holds 4 = .ok (.iload_n 3, 1) := by decide +kernel
theorem dX5_holds_5 : decode cX5_holds 5 = .ok (.ifCond .lt 29, 3) := by decide +kernel
theorem dX5_holds_8 : decode cX5_holds 8 = .ok (.iload_n 3, 1) := by decide +kernel
theorem dX5_holds_9 : decode cX5_holds 9 = .ok (.aload_n 0, 1) := by decide +kernel
theorem dX5_holds_10 : decode cX5_holds 10 = .ok (.getfield 20, 3) := by decide +kernel
theorem dX5_holds_13 : decode cX5_holds 13 = .ok (.iload_n 1, 1) := by decide +kernel
theorem dX5_holds_14 : decode cX5_holds 14 = .ok (.iaload, 1) := by decide +kernel
theorem dX5_holds_15 : decode cX5_holds 15 = .ok (.if_icmp .gt 19, 3) := by decide +kernel
theorem dX5_holds_18 : decode cX5_holds 18 = .ok (.iload_n 2, 1) := by decide +kernel
theorem dX5_holds_19 : decode cX5_holds 19 = .ok (.aload_n 0, 1) := by decide +kernel
theorem dX5_holds_20 : decode cX5_holds 20 = .ok (.getfield 20, 3) := by decide +kernel
theorem dX5_holds_23 : decode cX5_holds 23 = .ok (.iload_n 1, 1) := by decide +kernel
theorem dX5_holds_24 : decode cX5_holds 24 = .ok (.iaload, 1) := by decide +kernel
theorem dX5_holds_25 : decode cX5_holds 25 = .ok (.iload_n 3, 1) := by decide +kernel
end
section
theorem dX5_holds_26 : decode cX5_holds 26 = .ok (.isub, 1) := by decide +kernel
theorem dX5_holds_27 : decode cX5_holds 27 = .ok (.if_icmp .gt 7, 3) := by decide +kernel
theorem dX5_holds_30 : decode cX5_holds 30 = .ok (.iconst 1, 1) := by decide +kernel
theorem dX5_holds_31 : decode cX5_holds 31 = .ok (.goto 4, 3) := by decide +kernel
theorem dX5_holds_34 : decode cX5_holds 34 = .ok (.iconst 0, 1) := by decide +kernel
theorem dX5_holds_35 : decode cX5_holds 35 = .ok (.ireturn, 1) := by decide +kernel
theorem dX5_make_0 : decode cX5_make 0 = .ok (.aload_n 0, 1) := by decide +kernel
theorem dX5_make_1 : decode cX5_make 1 = .ok (.getfield 16, 3) := by decide +kernel
theorem dX5_make_4 : decode cX5_make 4 = .ok (.iload_n 1, 1) := by decide +kernel
theorem dX5_make_5 : decode cX5_make 5 = .ok (.iload_n 2, 1) := by decide +kernel
theorem dX5_make_6 : decode cX5_make 6 = .ok (.iastore, 1) := by decide +kernel
theorem dX5_make_7 : decode cX5_make 7 = .ok (.aload_n 0, 1) := by decide +kernel
theorem dX5_make_8 : decode cX5_make 8 = .ok (.getfield 20, 3) := by decide +kernel
theorem dX5_make_11 : decode cX5_make 11 = .ok (.iload_n 1, 1) := by decide +kernel
theorem dX5_make_12 : decode cX5_make 12 = .ok (.iload_n 3, 1) := by decide +kernel
theorem dX5_make_13 : decode cX5_make 13 = .ok (.iastore, 1) := by decide +kernel
theorem dX5_make_14 : decode cX5_make 14 = .ok (.aload_n 0, 1) := by decide +kernel
theorem dX5_make_15 : decode cX5_make 15 = .ok (.getfield 11, 3) := by decide +kernel
theorem dX5_make_18 : decode cX5_make 18 = .ok (.iload_n 1, 1) := by decide +kernel
theorem dX5_make_19 : decode cX5_make 19 = .ok (.aaload, 1) := by decide +kernel
theorem dX5_make_20 : decode cX5_make 20 = .ok (.iconst 0, 1) := by decide +kernel
theorem dX5_make_21 : decode cX5_make 21 = .ok (.invokestatic 23, 3) := by decide +kernel
theorem dX5_make_24 : decode cX5_make 24 = .ok (.return_, 1) := by decide +kernel
theorem dX5_put_0 : decode cX5_put 0 = .ok (.iload_n 3, 1) := by decide +kernel
theorem dX5_put_1 : decode cX5_put 1 = .ok (.istore 4, 2) := by decide +kernel
theorem dX5_put_3 : decode cX5_put 3 = .ok (.aload_n 0, 1) := by decide +kernel
theorem dX5_put_4 : decode cX5_put 4 = .ok (.getfield 16, 3) := by decide +kernel
theorem dX5_put_7 : decode cX5_put 7 = .ok (.iload_n 1, 1) := by decide +kernel
theorem dX5_put_8 : decode cX5_put 8 = .ok (.iaload, 1) := by decide +kernel
theorem dX5_put_9 : decode cX5_put 9 = .ok (.ifCond .ne 10, 3) := by decide +kernel
theorem dX5_put_12 : decode cX5_put 12 = .ok (.iload_n 3, 1) := by decide +kernel
theorem dX5_put_13 : decode cX5_put 13 = .ok (.i2b, 1) := by decide +kernel
theorem dX5_put_14 : decode cX5_put 14 = .ok (.istore 4, 2) := by decide +kernel
theorem dX5_put_16 : decode cX5_put 16 = .ok (.goto 17, 3) := by decide +kernel
theorem dX5_put_19 : decode cX5_put 19 = .ok (.aload_n 0, 1) := by decide +kernel
theorem dX5_put_20 : decode cX5_put 20 = .ok (.getfield 16, 3) := by decide +kernel
theorem dX5_put_23 : decode cX5_put 23 = .ok (.iload_n 1, 1) := by decide +kernel
theorem dX5_put_24 : decode cX5_put 24 = .ok (.iaload, 1) := by decide +kernel
theorem dX5_put_25 : decode cX5_put 25 = .ok (.iconst 1, 1) := by decide +kernel
theorem dX5_put_26 : decode cX5_put 26 = .ok (.if_icmp .ne 7, 3) := by decide +kernel
theorem dX5_put_29 : decode cX5_put 29 = .ok (.iload_n 3, 1) := by decide +kernel
theorem dX5_put_30 : decode cX5_put 30 = .ok (.i2s, 1) := by decide +kernel
theorem dX5_put_31 : decode cX5_put 31 = .ok (.istore 4, 2) := by decide +kernel
theorem dX5_put_33 : decode cX5_put 33 = .ok (.aload_n 0, 1) := by decide +kernel
theorem dX5_put_34 : decode cX5_put 34 = .ok (.getfield 11, 3) := by decide +kernel
theorem dX5_put_37 : decode cX5_put 37 = .ok (.iload_n 1, 1) := by decide +kernel
theorem dX5_put_38 : decode cX5_put 38 = .ok (.aaload, 1) := by decide +kernel
theorem dX5_put_39 : decode cX5_put 39 = .ok (.iload_n 2, 1) := by decide +kernel
theorem dX5_put_40 : decode cX5_put 40 = .ok (.iload 4, 2) := by decide +kernel
theorem dX5_put_42 : decode cX5_put 42 = .ok (.iastore, 1) := by decide +kernel
theorem dX5_put_43 : decode cX5_put 43 = .ok (.iload 4, 2) := by decide +kernel
theorem dX5_put_45 : decode cX5_put 45 = .ok (.ireturn, 1) := by decide +kernel
theorem dX5_lose_0 : decode cX5_lose 0 = .ok (.aload_n 0, 1) := by decide +kernel
theorem dX5_lose_1 : decode cX5_lose 1 = .ok (.getfield 20, 3) := by decide +kernel
theorem dX5_lose_4 : decode cX5_lose 4 = .ok (.iload_n 1, 1) := by decide +kernel
theorem dX5_lose_5 : decode cX5_lose 5 = .ok (.iaload, 1) := by decide +kernel
theorem dX5_lose_6 : decode cX5_lose 6 = .ok (.istore_n 2, 1) := by decide +kernel
theorem dX5_lose_7 : decode cX5_lose 7 = .ok (.aload_n 0, 1) := by decide +kernel
theorem dX5_lose_8 : decode cX5_lose 8 = .ok (.getfield 20, 3) := by decide +kernel
theorem dX5_lose_11 : decode cX5_lose 11 = .ok (.iload_n 1, 1) := by decide +kernel
theorem dX5_lose_12 : decode cX5_lose 12 = .ok (.iconst (-1), 1) := by decide +kernel
theorem dX5_lose_13 : decode cX5_lose 13 = .ok (.iastore, 1) := by decide +kernel
theorem dX5_lose_14 : decode cX5_lose 14 = .ok (.iload_n 2, 1) := by decide +kernel
theorem dX5_lose_15 : decode cX5_lose 15 = .ok (.ireturn, 1) := by decide +kernel
theorem dX5_howMany_0 : decode cX5_howMany 0 = .ok (.iconst 0, 1) := by decide +kernel
theorem dX5_howMany_1 : decode cX5_howMany 1 = .ok (.istore_n 1, 1) := by decide +kernel
theorem dX5_howMany_2 : decode cX5_howMany 2 = .ok (.aload_n 0, 1) := by decide +kernel
theorem dX5_howMany_3 : decode cX5_howMany 3 = .ok (.getfield 20, 3) := by decide +kernel
theorem dX5_howMany_6 : decode cX5_howMany 6 = .ok (.astore_n 2, 1) := by decide +kernel
theorem dX5_howMany_7 : decode cX5_howMany 7 = .ok (.aload_n 2, 1) := by decide +kernel
theorem dX5_howMany_8 : decode cX5_howMany 8 = .ok (.arraylength, 1) := by decide +kernel
theorem dX5_howMany_9 : decode cX5_howMany 9 = .ok (.istore_n 3, 1) := by decide +kernel
theorem dX5_howMany_10 : decode cX5_howMany 10 = .ok (.iconst 0, 1) := by decide +kernel
theorem dX5_howMany_11 : decode cX5_howMany 11 = .ok (.istore 4, 2) := by decide +kernel
theorem dX5_howMany_13 : decode cX5_howMany 13 = .ok (.iload 4, 2) := by decide +kernel
theorem dX5_howMany_15 : decode cX5_howMany 15 = .ok (.iload_n 3, 1) := by decide +kernel
theorem dX5_howMany_16 : decode cX5_howMany 16 = .ok (.if_icmp .ge 24, 3) := by decide +kernel
theorem dX5_howMany_19 : decode cX5_howMany 19 = .ok (.aload_n 2, 1) := by decide +kernel
theorem dX5_howMany_20 : decode cX5_howMany 20 = .ok (.iload 4, 2) := by decide +kernel
theorem dX5_howMany_22 : decode cX5_howMany 22 = .ok (.iaload, 1) := by decide +kernel
theorem dX5_howMany_23 : decode cX5_howMany 23 = .ok (.istore 5, 2) := by decide +kernel
theorem dX5_howMany_25 : decode cX5_howMany 25 = .ok (.iload 5, 2) := by decide +kernel
theorem dX5_howMany_27 : decode cX5_howMany 27 = .ok (.iconst (-1), 1) := by decide +kernel
theorem dX5_howMany_28 : decode cX5_howMany 28 = .ok (.if_icmp .eq 6, 3) := by decide +kernel
theorem dX5_howMany_31 : decode cX5_howMany 31 = .ok (.iinc 1 1, 3) := by decide +kernel
theorem dX5_howMany_34 : decode cX5_howMany 34 = .ok (.iinc 4 1, 3) := by decide +kernel
theorem dX5_howMany_37 : decode cX5_howMany 37 = .ok (.goto (-24), 3) := by decide +kernel
theorem dX5_howMany_40 : decode cX5_howMany 40 = .ok (.iload_n 1, 1) := by decide +kernel
theorem dX5_howMany_41 : decode cX5_howMany 41 = .ok (.ireturn, 1) := by decide +kernel
theorem dX6_init_0 : decode cX6_init 0 = .ok (.aload_n 0, 1) := by decide +kernel
theorem dX6_init_1 : decode cX6_init 1 = .ok (.invokespecial 3, 3) := by decide +kernel
theorem dX6_init_4 : decode cX6_init 4 = .ok (.aload_n 0, 1) := by decide +kernel
theorem dX6_init_5 : decode cX6_init 5 = .ok (.bipush 6, 2) := by decide +kernel
theorem dX6_init_7 : decode cX6_init 7 = .ok (.newarray .int, 2) := by decide +kernel
theorem dX6_init_9 : decode cX6_init 9 = .ok (.putfield 9, 3) := by decide +kernel
theorem dX6_init_12 : decode cX6_init 12 = .ok (.aload_n 0, 1) := by decide +kernel
theorem dX6_init_13 : decode cX6_init 13 = .ok (.bipush 6, 2) := by decide +kernel
theorem dX6_init_15 : decode cX6_init 15 = .ok (.newarray .int, 2) := by decide +kernel
theorem dX6_init_17 : decode cX6_init 17 = .ok (.putfield 15, 3) := by decide +kernel
theorem dX6_init_20 : decode cX6_init 20 = .ok (.aload_n 0, 1) := by decide +kernel
theorem dX6_init_21 : decode cX6_init 21 = .ok (.bipush 6, 2) := by decide +kernel
theorem dX6_init_23 : decode cX6_init 23 = .ok (.newarray .int, 2) := by decide +kernel
theorem dX6_init_25 : decode cX6_init 25 = .ok (.putfield 18, 3) := by decide +kernel
theorem dX6_init_28 : decode cX6_init 28 = .ok (.aload_n 0, 1) := by decide +kernel
theorem dX6_init_29 : decode cX6_init 29 = .ok (.bipush 6, 2) := by decide +kernel
theorem dX6_init_31 : decode cX6_init 31 = .ok (.newarray .int, 2) := by decide +kernel
theorem dX6_init_33 : decode cX6_init 33 = .ok (.putfield 21, 3) := by decide +kernel
theorem dX6_init_36 : decode cX6_init 36 = .ok (.aload_n 0, 1) := by decide +kernel
theorem dX6_init_37 : decode cX6_init 37 = .ok (.iconst 0, 1) := by decide +kernel
theorem dX6_init_38 : decode cX6_init 38 = .ok (.putfield 24, 3) := by decide +kernel
theorem dX6_init_41 : decode cX6_init 41 = .ok (.aload_n 0, 1) := by decide +kernel
theorem dX6_init_42 : decode cX6_init 42 = .ok (.iconst 0, 1) := by decide +kernel
theorem dX6_init_43 : decode cX6_init 43 = .ok (.putfield 28, 3) := by decide +kernel
theorem dX6_init_46 : decode cX6_init 46 = .ok (.aload_n 0, 1) := by decide +kernel
theorem dX6_init_47 : decode cX6_init 47 = .ok (.iconst 0, 1) := by decide +kernel
theorem dX6_init_48 : decode cX6_init 48 = .ok (.putfield 31, 3) := by decide +kernel
theorem dX6_init_51 : decode cX6_init 51 = .ok (.aload_n 0, 1) := by decide +kernel
theorem dX6_init_52 : decode cX6_init 52 = .ok (.iconst 0, 1) := by decide +kernel
theorem dX6_init_53 : decode cX6_init 53 = .ok (.putfield 34, 3) := by decide +kernel
theorem dX6_init_56 : decode cX6_init 56 = .ok (.aload_n 0, 1) := by decide +kernel
theorem dX6_init_57 : decode cX6_init 57 = .ok (.aload_n 1, 1) := by decide +kernel
theorem dX6_init_58 : decode cX6_init 58 = .ok (.putfield 37, 3) := by decide +kernel
theorem dX6_init_61 : decode cX6_init 61 = .ok (.return_, 1) := by decide +kernel
theorem dX6_beAsTold_0 : decode cX6_beAsTold 0 = .ok (.aload_n 0, 1) := by decide +kernel
theorem dX6_beAsTold_1 : decode cX6_beAsTold 1 = .ok (.getfield 37, 3) := by decide +kernel
theorem dX6_beAsTold_4 : decode cX6_beAsTold 4 = .ok (.getfield 41, 3) := by decide +kernel
theorem dX6_beAsTold_7 : decode cX6_beAsTold 7 = .ok (.iconst 0, 1) := by decide +kernel
theorem dX6_beAsTold_8 : decode cX6_beAsTold 8 = .ok (.aload_n 0, 1) := by decide +kernel
theorem dX6_beAsTold_9 : decode cX6_beAsTold 9 = .ok (.getfield 9, 3) := by decide +kernel
theorem dX6_beAsTold_12 : decode cX6_beAsTold 12 = .ok (.iconst 0, 1) := by decide +kernel
theorem dX6_beAsTold_13 : decode cX6_beAsTold 13 = .ok (.bipush 6, 2) := by decide +kernel
theorem dX6_beAsTold_15 : decode cX6_beAsTold 15 = .ok (.invokestatic 44, 3) := by decide +kernel
theorem dX6_beAsTold_18 : decode cX6_beAsTold 18 = .ok (.aload_n 0, 1) := by decide +kernel
theorem dX6_beAsTold_19 : decode cX6_beAsTold 19 = .ok (.iconst 0, 1) := by decide +kernel
theorem dX6_beAsTold_20 : decode cX6_beAsTold 20 = .ok (.invokevirtual 50, 3) := by decide +kernel
theorem dX6_beAsTold_23 : decode cX6_beAsTold 23 = .ok (.return_, 1) := by decide +kernel
theorem dX6_leaveOut_0 : decode cX6_leaveOut 0 = .ok (.aload_n 0, 1) := by decide +kernel
theorem dX6_leaveOut_1 : decode cX6_leaveOut 1 = .ok (.getfield 15, 3) := by decide +kernel
theorem dX6_leaveOut_4 : decode cX6_leaveOut 4 = .ok (.iconst 0, 1) := by decide +kernel
theorem dX6_leaveOut_5 : decode cX6_leaveOut 5 = .ok (.invokestatic 54, 3) := by decide +kernel
theorem dX6_leaveOut_8 : decode cX6_leaveOut 8 = .ok (.iconst 0, 1) := by decide +kernel
theorem dX6_leaveOut_9 : decode cX6_leaveOut 9 = .ok (.istore_n 2, 1) := by decide +kernel
theorem dX6_leaveOut_10 : decode cX6_leaveOut 10 = .ok (.iload_n 2, 1) := by decide +kernel
theorem dX6_leaveOut_11 : decode cX6_leaveOut 11 = .ok (.aload_n 0, 1) := by decide +kernel
theorem dX6_leaveOut_12 : decode cX6_leaveOut 12 = .ok (.getfield 37, 3) := by decide +kernel
theorem dX6_leaveOut_15 : decode cX6_leaveOut 15 = .ok (.getfield 60, 3) := by decide +kernel
theorem dX6_leaveOut_18 : decode cX6_leaveOut 18 = .ok (.if_icmp .ge 45, 3) := by decide +kernel
theorem dX6_leaveOut_21 : decode cX6_leaveOut 21 = .ok (.iload_n 1, 1) := by decide +kernel
theorem dX6_leaveOut_22 : decode cX6_leaveOut 22 = .ok (.iload_n 2, 1) := by decide +kernel
theorem dX6_leaveOut_23 : decode cX6_leaveOut 23 = .ok (.ishr, 1) := by decide +kernel
theorem dX6_leaveOut_24 : decode cX6_leaveOut 24 = .ok (.iconst 1, 1) := by decide +kernel
theorem dX6_leaveOut_25 : decode cX6_leaveOut 25 = .ok (.iand, 1) := by decide +kernel
theorem dX6_leaveOut_26 : decode cX6_leaveOut 26 = .ok (.ifCond .ne 31, 3) := by decide +kernel
theorem dX6_leaveOut_29 : decode cX6_leaveOut 29 = .ok (.aload_n 0, 1) := by decide +kernel
theorem dX6_leaveOut_30 : decode cX6_leaveOut 30 = .ok (.getfield 15, 3) := by decide +kernel
theorem dX6_leaveOut_33 : decode cX6_leaveOut 33 = .ok (.aload_n 0, 1) := by decide +kernel
theorem dX6_leaveOut_34 : decode cX6_leaveOut 34 = .ok (.getfield 37, 3) := by decide +kernel
theorem dX6_leaveOut_37 : decode cX6_leaveOut 37 = .ok (.getfield 63, 3) := by decide +kernel
theorem dX6_leaveOut_40 : decode cX6_leaveOut 40 = .ok (.iload_n 2, 1) := by decide +kernel
theorem dX6_leaveOut_41 : decode cX6_leaveOut 41 = .ok (.iaload, 1) := by decide +kernel
theorem dX6_leaveOut_42 : decode cX6_leaveOut 42 = .ok (.dup2, 1) := by decide +kernel
theorem dX6_leaveOut_43 : decode cX6_leaveOut 43 = .ok (.iaload, 1) := by decide +kernel
theorem dX6_leaveOut_44 : decode cX6_leaveOut 44 = .ok (.iconst 1, 1) := by decide +kernel
theorem dX6_leaveOut_45 : decode cX6_leaveOut 45 = .ok (.aload_n 0, 1) := by decide +kernel
theorem dX6_leaveOut_46 : decode cX6_leaveOut 46 = .ok (.getfield 37, 3) := by decide +kernel
theorem dX6_leaveOut_49 : decode cX6_leaveOut 49 = .ok (.getfield 66, 3) := by decide +kernel
theorem dX6_leaveOut_52 : decode cX6_leaveOut 52 = .ok (.iload_n 2, 1) := by decide +kernel
theorem dX6_leaveOut_53 : decode cX6_leaveOut 53 = .ok (.iaload, 1) := by decide +kernel
theorem dX6_leaveOut_54 : decode cX6_leaveOut 54 = .ok (.ishl, 1) := by decide +kernel
theorem dX6_leaveOut_55 : decode cX6_leaveOut 55 = .ok (.ior, 1) := by decide +kernel
theorem dX6_leaveOut_56 : decode cX6_leaveOut 56 = .ok (.iastore, 1) := by decide +kernel
theorem dX6_leaveOut_57 : decode cX6_leaveOut 57 = .ok (.iinc 2 1, 3) := by decide +kernel
theorem dX6_leaveOut_60 : decode cX6_leaveOut 60 = .ok (.goto (-50), 3) := by decide +kernel
theorem dX6_leaveOut_63 : decode cX6_leaveOut 63 = .ok (.return_, 1) := by decide +kernel
theorem dX6_takeAs_0 : decode cX6_takeAs 0 = .ok (.aload_n 0, 1) := by decide +kernel
theorem dX6_takeAs_1 : decode cX6_takeAs 1 = .ok (.getfield 9, 3) := by decide +kernel
theorem dX6_takeAs_4 : decode cX6_takeAs 4 = .ok (.iload_n 1, 1) := by decide +kernel
theorem dX6_takeAs_5 : decode cX6_takeAs 5 = .ok (.iload_n 2, 1) := by decide +kernel
theorem dX6_takeAs_6 : decode cX6_takeAs 6 = .ok (.iastore, 1) := by decide +kernel
theorem dX6_takeAs_7 : decode cX6_takeAs 7 = .ok (.return_, 1) := by decide +kernel
theorem dX6_tapIn_0 : decode cX6_tapIn 0 = .ok (.aload_n 1, 1) := by decide +kernel
theorem dX6_tapIn_1 : decode cX6_tapIn 1 = .ok (.iload_n 2, 1) := by decide +kernel
theorem dX6_tapIn_2 : decode cX6_tapIn 2 = .ok (.invokevirtual 69, 3) := by decide +kernel
theorem dX6_tapIn_5 : decode cX6_tapIn 5 = .ok (.istore 4, 2) := by decide +kernel
theorem dX6_tapIn_7 : decode cX6_tapIn 7 = .ok (.aload_n 0, 1) := by decide +kernel
theorem dX6_tapIn_8 : decode cX6_tapIn 8 = .ok (.invokevirtual 75, 3) := by decide +kernel
theorem dX6_tapIn_11 : decode cX6_tapIn 11 = .ok (.aload_n 0, 1) := by decide +kernel
theorem dX6_tapIn_12 : decode cX6_tapIn 12 = .ok (.aload_n 1, 1) := by decide +kernel
theorem dX6_tapIn_13 : decode cX6_tapIn 13 = .ok (.iload_n 2, 1) := by decide +kernel
theorem dX6_tapIn_14 : decode cX6_tapIn 14 = .ok (.invokevirtual 78, 3) := by decide +kernel
theorem dX6_tapIn_17 : decode cX6_tapIn 17 = .ok (.aload_n 0, 1) := by decide +kernel
theorem dX6_tapIn_18 : decode cX6_tapIn 18 = .ok (.getfield 37, 3) := by decide +kernel
theorem dX6_tapIn_21 : decode cX6_tapIn 21 = .ok (.iload 4, 2) := by decide +kernel
theorem dX6_tapIn_23 : decode cX6_tapIn 23 = .ok (.aload_n 1, 1) := by decide +kernel
theorem dX6_tapIn_24 : decode cX6_tapIn 24 = .ok (.iload_n 2, 1) := by decide +kernel
theorem dX6_tapIn_25 : decode cX6_tapIn 25 = .ok (.invokevirtual 81, 3) := by decide +kernel
theorem dX6_tapIn_28 : decode cX6_tapIn 28 = .ok (.invokevirtual 84, 3) := by decide +kernel
theorem dX6_tapIn_31 : decode cX6_tapIn 31 = .ok (.iconst 1, 1) := by decide +kernel
theorem dX6_tapIn_32 : decode cX6_tapIn 32 = .ok (.iload_n 3, 1) := by decide +kernel
theorem dX6_tapIn_33 : decode cX6_tapIn 33 = .ok (.ishl, 1) := by decide +kernel
theorem dX6_tapIn_34 : decode cX6_tapIn 34 = .ok (.invokevirtual 88, 3) := by decide +kernel
theorem dX6_tapIn_37 : decode cX6_tapIn 37 = .ok (.aload_n 1, 1) := by decide +kernel
theorem dX6_tapIn_38 : decode cX6_tapIn 38 = .ok (.aload_n 0, 1) := by decide +kernel
theorem dX6_tapIn_39 : decode cX6_tapIn 39 = .ok (.getfield 24, 3) := by decide +kernel
theorem dX6_tapIn_42 : decode cX6_tapIn 42 = .ok (.aload_n 0, 1) := by decide +kernel
theorem dX6_tapIn_43 : decode cX6_tapIn 43 = .ok (.getfield 28, 3) := by decide +kernel
theorem dX6_tapIn_46 : decode cX6_tapIn 46 = .ok (.invokevirtual 92, 3) := by decide +kernel
theorem dX6_tapIn_49 : decode cX6_tapIn 49 = .ok (.aload_n 1, 1) := by decide +kernel
theorem dX6_tapIn_50 : decode cX6_tapIn 50 = .ok (.iload_n 2, 1) := by decide +kernel
theorem dX6_tapIn_51 : decode cX6_tapIn 51 = .ok (.iconst 0, 1) := by decide +kernel
theorem dX6_tapIn_52 : decode cX6_tapIn 52 = .ok (.iload 4, 2) := by decide +kernel
theorem dX6_tapIn_54 : decode cX6_tapIn 54 = .ok (.iconst 1, 1) := by decide +kernel
theorem dX6_tapIn_55 : decode cX6_tapIn 55 = .ok (.isub, 1) := by decide +kernel
theorem dX6_tapIn_56 : decode cX6_tapIn 56 = .ok (.invokestatic 96, 3) := by decide +kernel
theorem dX6_tapIn_59 : decode cX6_tapIn 59 = .ok (.invokevirtual 101, 3) := by decide +kernel
theorem dX6_tapIn_62 : decode cX6_tapIn 62 = .ok (.aload_n 0, 1) := by decide +kernel
theorem dX6_tapIn_63 : decode cX6_tapIn 63 = .ok (.getfield 28, 3) := by decide +kernel
theorem dX6_tapIn_66 : decode cX6_tapIn 66 = .ok (.ireturn, 1) := by decide +kernel
theorem dX6_spreadCask_0 : decode cX6_spreadCask 0 = .ok (.aload_n 0, 1) := by decide +kernel
theorem dX6_spreadCask_1 : decode cX6_spreadCask 1 = .ok (.aload_n 0, 1) := by decide +kernel
theorem dX6_spreadCask_2 : decode cX6_spreadCask 2 = .ok (.getfield 37, 3) := by decide +kernel
theorem dX6_spreadCask_5 : decode cX6_spreadCask 5 = .ok (.getfield 104, 3) := by decide +kernel
theorem dX6_spreadCask_8 : decode cX6_spreadCask 8 = .ok (.iload_n 1, 1) := by decide +kernel
theorem dX6_spreadCask_9 : decode cX6_spreadCask 9 = .ok (.invokevirtual 78, 3) := by decide +kernel
theorem dX6_spreadCask_12 : decode cX6_spreadCask 12 = .ok (.aload_n 0, 1) := by decide +kernel
theorem dX6_spreadCask_13 : decode cX6_spreadCask 13 = .ok (.getfield 37, 3) := by decide +kernel
theorem dX6_spreadCask_16 : decode cX6_spreadCask 16 = .ok (.iload_n 1, 1) := by decide +kernel
theorem dX6_spreadCask_17 : decode cX6_spreadCask 17 = .ok (.invokevirtual 108, 3) := by decide +kernel
theorem dX6_spreadCask_20 : decode cX6_spreadCask 20 = .ok (.iload_n 2, 1) := by decide +kernel
theorem dX6_spreadCask_21 : decode cX6_spreadCask 21 = .ok (.invokevirtual 88, 3) := by decide +kernel
theorem dX6_spreadCask_24 : decode cX6_spreadCask 24 = .ok (.return_, 1) := by decide +kernel
theorem dX6_spread_0 : decode cX6_spread 0 = .ok (.aload_n 0, 1) := by decide +kernel
theorem dX6_spread_1 : decode cX6_spread 1 = .ok (.iload_n 1, 1) := by decide +kernel
theorem dX6_spread_2 : decode cX6_spread 2 = .ok (.putfield 24, 3) := by decide +kernel
theorem dX6_spread_5 : decode cX6_spread 5 = .ok (.aload_n 0, 1) := by decide +kernel
theorem dX6_spread_6 : decode cX6_spread 6 = .ok (.iconst 0, 1) := by decide +kernel
theorem dX6_spread_7 : decode cX6_spread 7 = .ok (.putfield 28, 3) := by decide +kernel
theorem dX6_spread_10 : decode cX6_spread 10 = .ok (.aload_n 0, 1) := by decide +kernel
theorem dX6_spread_11 : decode cX6_spread 11 = .ok (.iconst 0, 1) := by decide +kernel
theorem dX6_spread_12 : decode cX6_spread 12 = .ok (.putfield 31, 3) := by decide +kernel
theorem dX6_spread_15 : decode cX6_spread 15 = .ok (.aload_n 0, 1) := by decide +kernel
theorem dX6_spread_16 : decode cX6_spread 16 = .ok (.iconst 0, 1) := by decide +kernel
theorem dX6_spread_17 : decode cX6_spread 17 = .ok (.putfield 34, 3) := by decide +kernel
theorem dX6_spread_20 : decode cX6_spread 20 = .ok (.aload_n 0, 1) := by decide +kernel
theorem dX6_spread_21 : decode cX6_spread 21 = .ok (.getfield 18, 3) := by decide +kernel
theorem dX6_spread_24 : decode cX6_spread 24 = .ok (.iload_n 2, 1) := by decide +kernel
theorem dX6_spread_25 : decode cX6_spread 25 = .ok (.invokestatic 54, 3) := by decide +kernel
theorem dX6_spread_28 : decode cX6_spread 28 = .ok (.iload_n 3, 1) := by decide +kernel
theorem dX6_spread_29 : decode cX6_spread 29 = .ok (.istore 4, 2) := by decide +kernel
theorem dX6_spread_31 : decode cX6_spread 31 = .ok (.iconst 0, 1) := by decide +kernel
theorem dX6_spread_32 : decode cX6_spread 32 = .ok (.istore 5, 2) := by decide +kernel
theorem dX6_spread_34 : decode cX6_spread 34 = .ok (.iload 5, 2) := by decide +kernel
theorem dX6_spread_36 : decode cX6_spread 36 = .ok (.bipush 6, 2) := by decide +kernel
theorem dX6_spread_38 : decode cX6_spread 38 = .ok (.if_icmp .gt 40, 3) := by decide +kernel
theorem dX6_spread_41 : decode cX6_spread 41 = .ok (.iload 4, 2) := by decide +kernel
theorem dX6_spread_43 : decode cX6_spread 43 = .ok (.ifCond .eq 35, 3) := by decide +kernel
theorem dX6_spread_46 : decode cX6_spread 46 = .ok (.iload 4, 2) := by decide +kernel
theorem dX6_spread_48 : decode cX6_spread 48 = .ok (.aload_n 0, 1) := by decide +kernel
theorem dX6_spread_49 : decode cX6_spread 49 = .ok (.getfield 31, 3) := by decide +kernel
theorem dX6_spread_52 : decode cX6_spread 52 = .ok (.iconst (-1), 1) := by decide +kernel
theorem dX6_spread_53 : decode cX6_spread 53 = .ok (.ixor, 1) := by decide +kernel
theorem dX6_spread_54 : decode cX6_spread 54 = .ok (.iand, 1) := by decide +kernel
theorem dX6_spread_55 : decode cX6_spread 55 = .ok (.ifCond .eq 9, 3) := by decide +kernel
theorem dX6_spread_58 : decode cX6_spread 58 = .ok (.aload_n 0, 1) := by decide +kernel
theorem dX6_spread_59 : decode cX6_spread 59 = .ok (.iload 5, 2) := by decide +kernel
theorem dX6_spread_61 : decode cX6_spread 61 = .ok (.putfield 34, 3) := by decide +kernel
theorem dX6_spread_64 : decode cX6_spread 64 = .ok (.aload_n 0, 1) := by decide +kernel
theorem dX6_spread_65 : decode cX6_spread 65 = .ok (.iload 4, 2) := by decide +kernel
theorem dX6_spread_67 : decode cX6_spread 67 = .ok (.invokevirtual 111, 3) := by decide +kernel
theorem dX6_spread_70 : decode cX6_spread 70 = .ok (.istore 4, 2) := by decide +kernel
theorem dX6_spread_72 : decode cX6_spread 72 = .ok (.iinc 5 1, 3) := by decide +kernel
theorem dX6_spread_75 : decode cX6_spread 75 = .ok (.goto (-41), 3) := by decide +kernel
theorem dX6_spread_78 : decode cX6_spread 78 = .ok (.return_, 1) := by decide +kernel
theorem dX6_goOneStep_0 : decode cX6_goOneStep 0 = .ok (.iload_n 1, 1) := by decide +kernel
theorem dX6_goOneStep_1 : decode cX6_goOneStep 1 = .ok (.aload_n 0, 1) := by decide +kernel
theorem dX6_goOneStep_2 : decode cX6_goOneStep 2 = .ok (.getfield 31, 3) := by decide +kernel
theorem dX6_goOneStep_5 : decode cX6_goOneStep 5 = .ok (.iconst (-1), 1) := by decide +kernel
theorem dX6_goOneStep_6 : decode cX6_goOneStep 6 = .ok (.ixor, 1) := by decide +kernel
theorem dX6_goOneStep_7 : decode cX6_goOneStep 7 = .ok (.iand, 1) := by decide +kernel
theorem dX6_goOneStep_8 : decode cX6_goOneStep 8 = .ok (.istore_n 2, 1) := by decide +kernel
theorem dX6_goOneStep_9 : decode cX6_goOneStep 9 = .ok (.iconst 0, 1) := by decide +kernel
theorem dX6_goOneStep_10 : decode cX6_goOneStep 10 = .ok (.istore_n 3, 1) := by decide +kernel
theorem dX6_goOneStep_11 : decode cX6_goOneStep 11 = .ok (.aload_n 0, 1) := by decide +kernel
theorem dX6_goOneStep_12 : decode cX6_goOneStep 12 = .ok (.getfield 21, 3) := by decide +kernel
theorem dX6_goOneStep_15 : decode cX6_goOneStep 15 = .ok (.iconst 0, 1) := by decide +kernel
theorem dX6_goOneStep_16 : decode cX6_goOneStep 16 = .ok (.invokestatic 54, 3) := by decide +kernel
theorem dX6_goOneStep_19 : decode cX6_goOneStep 19 = .ok (.iconst 0, 1) := by decide +kernel
theorem dX6_goOneStep_20 : decode cX6_goOneStep 20 = .ok (.istore 4, 2) := by decide +kernel
theorem dX6_goOneStep_22 : decode cX6_goOneStep 22 = .ok (.iload 4, 2) := by decide +kernel
theorem dX6_goOneStep_24 : decode cX6_goOneStep 24 = .ok (.aload_n 0, 1) := by decide +kernel
theorem dX6_goOneStep_25 : decode cX6_goOneStep 25 = .ok (.getfield 37, 3) := by decide +kernel
theorem dX6_goOneStep_28 : decode cX6_goOneStep 28 = .ok (.getfield 114, 3) := by decide +kernel
theorem dX6_goOneStep_31 : decode cX6_goOneStep 31 = .ok (.if_icmp .ge 88, 3) := by decide +kernel
theorem dX6_goOneStep_34 : decode cX6_goOneStep 34 = .ok (.iload_n 1, 1) := by decide +kernel
theorem dX6_goOneStep_35 : decode cX6_goOneStep 35 = .ok (.iload 4, 2) := by decide +kernel
theorem dX6_goOneStep_37 : decode cX6_goOneStep 37 = .ok (.ishr, 1) := by decide +kernel
theorem dX6_goOneStep_38 : decode cX6_goOneStep 38 = .ok (.iconst 1, 1) := by decide +kernel
theorem dX6_goOneStep_39 : decode cX6_goOneStep 39 = .ok (.iand, 1) := by decide +kernel
theorem dX6_goOneStep_40 : decode cX6_goOneStep 40 = .ok (.ifCond .eq 73, 3) := by decide +kernel
theorem dX6_goOneStep_43 : decode cX6_goOneStep 43 = .ok (.aload_n 0, 1) := by decide +kernel
theorem dX6_goOneStep_44 : decode cX6_goOneStep 44 = .ok (.iload 4, 2) := by decide +kernel
theorem dX6_goOneStep_46 : decode cX6_goOneStep 46 = .ok (.aload_n 0, 1) := by decide +kernel
theorem dX6_goOneStep_47 : decode cX6_goOneStep 47 = .ok (.getfield 18, 3) := by decide +kernel
theorem dX6_goOneStep_50 : decode cX6_goOneStep 50 = .ok (.iload 4, 2) := by decide +kernel
theorem dX6_goOneStep_52 : decode cX6_goOneStep 52 = .ok (.iaload, 1) := by decide +kernel
theorem dX6_goOneStep_53 : decode cX6_goOneStep 53 = .ok (.invokevirtual 117, 3) := by decide +kernel
theorem dX6_goOneStep_56 : decode cX6_goOneStep 56 = .ok (.istore 5, 2) := by decide +kernel
theorem dX6_goOneStep_58 : decode cX6_goOneStep 58 = .ok (.iload 5, 2) := by decide +kernel
theorem dX6_goOneStep_60 : decode cX6_goOneStep 60 = .ok (.ifCond .eq 16, 3) := by decide +kernel
theorem dX6_goOneStep_63 : decode cX6_goOneStep 63 = .ok (.aload_n 0, 1) := by decide +kernel
theorem dX6_goOneStep_64 : decode cX6_goOneStep 64 = .ok (.dup, 1) := by decide +kernel
theorem dX6_goOneStep_65 : decode cX6_goOneStep 65 = .ok (.getfield 28, 3) := by decide +kernel
theorem dX6_goOneStep_68 : decode cX6_goOneStep 68 = .ok (.iconst 1, 1) := by decide +kernel
theorem dX6_goOneStep_69 : decode cX6_goOneStep 69 = .ok (.iload 4, 2) := by decide +kernel
theorem dX6_goOneStep_71 : decode cX6_goOneStep 71 = .ok (.ishl, 1) := by decide +kernel
theorem dX6_goOneStep_72 : decode cX6_goOneStep 72 = .ok (.ior, 1) := by decide +kernel
theorem dX6_goOneStep_73 : decode cX6_goOneStep 73 = .ok (.putfield 28, 3) := by decide +kernel
theorem dX6_goOneStep_76 : decode cX6_goOneStep 76 = .ok (.iload_n 2, 1) := by decide +kernel
theorem dX6_goOneStep_77 : decode cX6_goOneStep 77 = .ok (.iload 4, 2) := by decide +kernel
theorem dX6_goOneStep_79 : decode cX6_goOneStep 79 = .ok (.ishr, 1) := by decide +kernel
theorem dX6_goOneStep_80 : decode cX6_goOneStep 80 = .ok (.iconst 1, 1) := by decide +kernel
theorem dX6_goOneStep_81 : decode cX6_goOneStep 81 = .ok (.iand, 1) := by decide +kernel
theorem dX6_goOneStep_82 : decode cX6_goOneStep 82 = .ok (.ifCond .eq 31, 3) := by decide +kernel
theorem dX6_goOneStep_85 : decode cX6_goOneStep 85 = .ok (.iload_n 3, 1) := by decide +kernel
theorem dX6_goOneStep_86 : decode cX6_goOneStep 86 = .ok (.aload_n 0, 1) := by decide +kernel
theorem dX6_goOneStep_87 : decode cX6_goOneStep 87 = .ok (.iload 4, 2) := by decide +kernel
theorem dX6_goOneStep_89 : decode cX6_goOneStep 89 = .ok (.aload_n 0, 1) := by decide +kernel
theorem dX6_goOneStep_90 : decode cX6_goOneStep 90 = .ok (.getfield 9, 3) := by decide +kernel
theorem dX6_goOneStep_93 : decode cX6_goOneStep 93 = .ok (.iload 4, 2) := by decide +kernel
theorem dX6_goOneStep_95 : decode cX6_goOneStep 95 = .ok (.iaload, 1) := by decide +kernel
theorem dX6_goOneStep_96 : decode cX6_goOneStep 96 = .ok (.aload_n 0, 1) := by decide +kernel
theorem dX6_goOneStep_97 : decode cX6_goOneStep 97 = .ok (.getfield 18, 3) := by decide +kernel
theorem dX6_goOneStep_100 : decode cX6_goOneStep 100 = .ok (.iload 4, 2) := by decide +kernel
theorem dX6_goOneStep_102 : decode cX6_goOneStep 102 = .ok (.iaload, 1) := by decide +kernel
theorem dX6_goOneStep_103 : decode cX6_goOneStep 103 = .ok (.iload 5, 2) := by decide +kernel
theorem dX6_goOneStep_105 : decode cX6_goOneStep 105 = .ok (.invokestatic 121, 3) := by decide +kernel
theorem dX6_goOneStep_108 : decode cX6_goOneStep 108 = .ok (.invokevirtual 125, 3) := by decide +kernel
theorem dX6_goOneStep_111 : decode cX6_goOneStep 111 = .ok (.ior, 1) := by decide +kernel
theorem dX6_goOneStep_112 : decode cX6_goOneStep 112 = .ok (.istore_n 3, 1) := by decide +kernel
theorem dX6_goOneStep_113 : decode cX6_goOneStep 113 = .ok (.iinc 4 1, 3) := by decide +kernel
theorem dX6_goOneStep_116 : decode cX6_goOneStep 116 = .ok (.goto (-94), 3) := by decide +kernel
theorem dX6_goOneStep_119 : decode cX6_goOneStep 119 = .ok (.aload_n 0, 1) := by decide +kernel
theorem dX6_goOneStep_120 : decode cX6_goOneStep 120 = .ok (.dup, 1) := by decide +kernel
theorem dX6_goOneStep_121 : decode cX6_goOneStep 121 = .ok (.getfield 31, 3) := by decide +kernel
theorem dX6_goOneStep_124 : decode cX6_goOneStep 124 = .ok (.iload_n 1, 1) := by decide +kernel
theorem dX6_goOneStep_125 : decode cX6_goOneStep 125 = .ok (.ior, 1) := by decide +kernel
theorem dX6_goOneStep_126 : decode cX6_goOneStep 126 = .ok (.putfield 31, 3) := by decide +kernel
theorem dX6_goOneStep_129 : decode cX6_goOneStep 129 = .ok (.aload_n 0, 1) := by decide +kernel
theorem dX6_goOneStep_130 : decode cX6_goOneStep 130 = .ok (.getfield 18, 3) := by decide +kernel
theorem dX6_goOneStep_133 : decode cX6_goOneStep 133 = .ok (.astore 4, 2) := by decide +kernel
theorem dX6_goOneStep_135 : decode cX6_goOneStep 135 = .ok (.aload_n 0, 1) := by decide +kernel
theorem dX6_goOneStep_136 : decode cX6_goOneStep 136 = .ok (.aload_n 0, 1) := by decide +kernel
theorem dX6_goOneStep_137 : decode cX6_goOneStep 137 = .ok (.getfield 21, 3) := by decide +kernel
theorem dX6_goOneStep_140 : decode cX6_goOneStep 140 = .ok (.putfield 18, 3) := by decide +kernel
theorem dX6_goOneStep_143 : decode cX6_goOneStep 143 = .ok (.aload_n 0, 1) := by decide +kernel
theorem dX6_goOneStep_144 : decode cX6_goOneStep 144 = .ok (.aload 4, 2) := by decide +kernel
theorem dX6_goOneStep_146 : decode cX6_goOneStep 146 = .ok (.putfield 21, 3) := by decide +kernel
theorem dX6_goOneStep_149 : decode cX6_goOneStep 149 = .ok (.iload_n 3, 1) := by decide +kernel
theorem dX6_goOneStep_150 : decode cX6_goOneStep 150 = .ok (.ireturn, 1) := by decide +kernel
theorem dX6_isBelieved_0 : decode cX6_isBelieved 0 = .ok (.aload_n 0, 1) := by decide +kernel
theorem dX6_isBelieved_1 : decode cX6_isBelieved 1 = .ok (.getfield 9, 3) := by decide +kernel
theorem dX6_isBelieved_4 : decode cX6_isBelieved 4 = .ok (.iload_n 1, 1) := by decide +kernel
theorem dX6_isBelieved_5 : decode cX6_isBelieved 5 = .ok (.iaload, 1) := by decide +kernel
theorem dX6_isBelieved_6 : decode cX6_isBelieved 6 = .ok (.istore_n 3, 1) := by decide +kernel
theorem dX6_isBelieved_7 : decode cX6_isBelieved 7 = .ok (.iload_n 3, 1) := by decide +kernel
theorem dX6_isBelieved_8 : decode cX6_isBelieved 8 = .ok (.iconst 4, 1) := by decide +kernel
theorem dX6_isBelieved_9 : decode cX6_isBelieved 9 = .ok (.if_icmp .eq 8, 3) := by decide +kernel
theorem dX6_isBelieved_12 : decode cX6_isBelieved 12 = .ok (.iload_n 3, 1) := by decide +kernel
theorem dX6_isBelieved_13 : decode cX6_isBelieved 13 = .ok (.iconst 5, 1) := by decide +kernel
theorem dX6_isBelieved_14 : decode cX6_isBelieved 14 = .ok (.if_icmp .ne 5, 3) := by decide +kernel
theorem dX6_isBelieved_17 : decode cX6_isBelieved 17 = .ok (.iconst 0, 1) := by decide +kernel
theorem dX6_isBelieved_18 : decode cX6_isBelieved 18 = .ok (.ireturn, 1) := by decide +kernel
theorem dX6_isBelieved_19 : decode cX6_isBelieved 19 = .ok (.iload_n 3, 1) := by decide +kernel
theorem dX6_isBelieved_20 : decode cX6_isBelieved 20 = .ok (.iconst 3, 1) := by decide +kernel
theorem dX6_isBelieved_21 : decode cX6_isBelieved 21 = .ok (.if_icmp .ne 9, 3) := by decide +kernel
theorem dX6_isBelieved_24 : decode cX6_isBelieved 24 = .ok (.iload_n 2, 1) := by decide +kernel
theorem dX6_isBelieved_25 : decode cX6_isBelieved 25 = .ok (.iconst 2, 1) := by decide +kernel
theorem dX6_isBelieved_26 : decode cX6_isBelieved 26 = .ok (.idiv, 1) := by decide +kernel
theorem dX6_isBelieved_27 : decode cX6_isBelieved 27 = .ok (.goto 4, 3) := by decide +kernel
theorem dX6_isBelieved_30 : decode cX6_isBelieved 30 = .ok (.iload_n 2, 1) := by decide +kernel
theorem dX6_isBelieved_31 : decode cX6_isBelieved 31 = .ok (.istore 4, 2) := by decide +kernel
theorem dX6_isBelieved_33 : decode cX6_isBelieved 33 = .ok (.iload_n 1, 1) := by decide +kernel
theorem dX6_isBelieved_34 : decode cX6_isBelieved 34 = .ok (.aload_n 0, 1) := by decide +kernel
theorem dX6_isBelieved_35 : decode cX6_isBelieved 35 = .ok (.getfield 24, 3) := by decide +kernel
theorem dX6_isBelieved_38 : decode cX6_isBelieved 38 = .ok (.if_icmp .ne 9, 3) := by decide +kernel
theorem dX6_isBelieved_41 : decode cX6_isBelieved 41 = .ok (.iinc 4 (-5), 3) := by decide +kernel
theorem dX6_isBelieved_44 : decode cX6_isBelieved 44 = .ok (.goto 22, 3) := by decide +kernel
theorem dX6_isBelieved_47 : decode cX6_isBelieved 47 = .ok (.aload_n 0, 1) := by decide +kernel
theorem dX6_isBelieved_48 : decode cX6_isBelieved 48 = .ok (.getfield 37, 3) := by decide +kernel
theorem dX6_isBelieved_51 : decode cX6_isBelieved 51 = .ok (.getfield 128, 3) := by decide +kernel
theorem dX6_isBelieved_54 : decode cX6_isBelieved 54 = .ok (.iload_n 1, 1) := by decide +kernel
theorem dX6_isBelieved_55 : decode cX6_isBelieved 55 = .ok (.iaload, 1) := by decide +kernel
theorem dX6_isBelieved_56 : decode cX6_isBelieved 56 = .ok (.aload_n 0, 1) := by decide +kernel
theorem dX6_isBelieved_57 : decode cX6_isBelieved 57 = .ok (.getfield 24, 3) := by decide +kernel
theorem dX6_isBelieved_60 : decode cX6_isBelieved 60 = .ok (.if_icmp .ne 6, 3) := by decide +kernel
theorem dX6_isBelieved_63 : decode cX6_isBelieved 63 = .ok (.iinc 4 3, 3) := by decide +kernel
theorem dX6_isBelieved_66 : decode cX6_isBelieved 66 = .ok (.iload 4, 2) := by decide +kernel
theorem dX6_isBelieved_68 : decode cX6_isBelieved 68 = .ok (.aload_n 0, 1) := by decide +kernel
theorem dX6_isBelieved_69 : decode cX6_isBelieved 69 = .ok (.getfield 37, 3) := by decide +kernel
theorem dX6_isBelieved_72 : decode cX6_isBelieved 72 = .ok (.getfield 131, 3) := by decide +kernel
theorem dX6_isBelieved_75 : decode cX6_isBelieved 75 = .ok (.iload_n 1, 1) := by decide +kernel
theorem dX6_isBelieved_76 : decode cX6_isBelieved 76 = .ok (.iaload, 1) := by decide +kernel
theorem dX6_isBelieved_77 : decode cX6_isBelieved 77 = .ok (.if_icmp .lt 7, 3) := by decide +kernel
theorem dX6_isBelieved_80 : decode cX6_isBelieved 80 = .ok (.iconst 1, 1) := by decide +kernel
theorem dX6_isBelieved_81 : decode cX6_isBelieved 81 = .ok (.goto 4, 3) := by decide +kernel
theorem dX6_isBelieved_84 : decode cX6_isBelieved 84 = .ok (.iconst 0, 1) := by decide +kernel
theorem dX6_isBelieved_85 : decode cX6_isBelieved 85 = .ok (.ireturn, 1) := by decide +kernel
theorem dX6_passedOn_0 : decode cX6_passedOn 0 = .ok (.iload_n 0, 1) := by decide +kernel
theorem dX6_passedOn_1 : decode cX6_passedOn 1 = .ok (.tableswitch 51 2 5 #[31, 51, 43, 47], 31) := by decide +kernel
theorem dX6_passedOn_32 : decode cX6_passedOn 32 = .ok (.iload_n 2, 1) := by decide +kernel
theorem dX6_passedOn_33 : decode cX6_passedOn 33 = .ok (.ifCond .eq 9, 3) := by decide +kernel
theorem dX6_passedOn_36 : decode cX6_passedOn 36 = .ok (.iload_n 1, 1) := by decide +kernel
theorem dX6_passedOn_37 : decode cX6_passedOn 37 = .ok (.iconst 1, 1) := by decide +kernel
theorem dX6_passedOn_38 : decode cX6_passedOn 38 = .ok (.iadd, 1) := by decide +kernel
theorem dX6_passedOn_39 : decode cX6_passedOn 39 = .ok (.goto 4, 3) := by decide +kernel
theorem dX6_passedOn_42 : decode cX6_passedOn 42 = .ok (.iconst 0, 1) := by decide +kernel
theorem dX6_passedOn_43 : decode cX6_passedOn 43 = .ok (.ireturn, 1) := by decide +kernel
theorem dX6_passedOn_44 : decode cX6_passedOn 44 = .ok (.iload_n 1, 1) := by decide +kernel
theorem dX6_passedOn_45 : decode cX6_passedOn 45 = .ok (.iconst 2, 1) := by decide +kernel
theorem dX6_passedOn_46 : decode cX6_passedOn 46 = .ok (.isub, 1) := by decide +kernel
theorem dX6_passedOn_47 : decode cX6_passedOn 47 = .ok (.ireturn, 1) := by decide +kernel
theorem dX6_passedOn_48 : decode cX6_passedOn 48 = .ok (.iload_n 1, 1) := by decide +kernel
theorem dX6_passedOn_49 : decode cX6_passedOn 49 = .ok (.iconst 2, 1) := by decide +kernel
theorem dX6_passedOn_50 : decode cX6_passedOn 50 = .ok (.idiv, 1) := by decide +kernel
theorem dX6_passedOn_51 : decode cX6_passedOn 51 = .ok (.ireturn, 1) := by decide +kernel
theorem dX6_passedOn_52 : decode cX6_passedOn 52 = .ok (.iload_n 2, 1) := by decide +kernel
theorem dX6_passedOn_53 : decode cX6_passedOn 53 = .ok (.ifCond .eq 9, 3) := by decide +kernel
theorem dX6_passedOn_56 : decode cX6_passedOn 56 = .ok (.iload_n 1, 1) := by decide +kernel
theorem dX6_passedOn_57 : decode cX6_passedOn 57 = .ok (.iconst 1, 1) := by decide +kernel
theorem dX6_passedOn_58 : decode cX6_passedOn 58 = .ok (.isub, 1) := by decide +kernel
theorem dX6_passedOn_59 : decode cX6_passedOn 59 = .ok (.goto 4, 3) := by decide +kernel
theorem dX6_passedOn_62 : decode cX6_passedOn 62 = .ok (.iconst 0, 1) := by decide +kernel
theorem dX6_passedOn_63 : decode cX6_passedOn 63 = .ok (.ireturn, 1) := by decide +kernel
theorem dX6_passOn_0 : decode cX6_passOn 0 = .ok (.iload_n 2, 1) := by decide +kernel
theorem dX6_passOn_1 : decode cX6_passOn 1 = .ok (.ifCond .gt 5, 3) := by decide +kernel
theorem dX6_passOn_4 : decode cX6_passOn 4 = .ok (.iconst 0, 1) := by decide +kernel
theorem dX6_passOn_5 : decode cX6_passOn 5 = .ok (.ireturn, 1) := by decide +kernel
theorem dX6_passOn_6 : decode cX6_passOn 6 = .ok (.aload_n 0, 1) := by decide +kernel
theorem dX6_passOn_7 : decode cX6_passOn 7 = .ok (.getfield 9, 3) := by decide +kernel
theorem dX6_passOn_10 : decode cX6_passOn 10 = .ok (.iload_n 1, 1) := by decide +kernel
theorem dX6_passOn_11 : decode cX6_passOn 11 = .ok (.iaload, 1) := by decide +kernel
theorem dX6_passOn_12 : decode cX6_passOn 12 = .ok (.iconst 5, 1) := by decide +kernel
theorem dX6_passOn_13 : decode cX6_passOn 13 = .ok (.if_icmp .ne 19, 3) := by decide +kernel
theorem dX6_passOn_16 : decode cX6_passOn 16 = .ok (.aload_n 0, 1) := by decide +kernel
theorem dX6_passOn_17 : decode cX6_passOn 17 = .ok (.getfield 37, 3) := by decide +kernel
theorem dX6_passOn_20 : decode cX6_passOn 20 = .ok (.invokevirtual 134, 3) := by decide +kernel
theorem dX6_passOn_23 : decode cX6_passOn 23 = .ok (.iconst 1, 1) := by decide +kernel
theorem dX6_passOn_24 : decode cX6_passOn 24 = .ok (.iload_n 1, 1) := by decide +kernel
theorem dX6_passOn_25 : decode cX6_passOn 25 = .ok (.ishl, 1) := by decide +kernel
theorem dX6_passOn_26 : decode cX6_passOn 26 = .ok (.iconst (-1), 1) := by decide +kernel
theorem dX6_passOn_27 : decode cX6_passOn 27 = .ok (.ixor, 1) := by decide +kernel
theorem dX6_passOn_28 : decode cX6_passOn 28 = .ok (.iand, 1) := by decide +kernel
theorem dX6_passOn_29 : decode cX6_passOn 29 = .ok (.goto 9, 3) := by decide +kernel
theorem dX6_passOn_32 : decode cX6_passOn 32 = .ok (.aload_n 0, 1) := by decide +kernel
theorem dX6_passOn_33 : decode cX6_passOn 33 = .ok (.getfield 15, 3) := by decide +kernel
theorem dX6_passOn_36 : decode cX6_passOn 36 = .ok (.iload_n 1, 1) := by decide +kernel
theorem dX6_passOn_37 : decode cX6_passOn 37 = .ok (.iaload, 1) := by decide +kernel
theorem dX6_passOn_38 : decode cX6_passOn 38 = .ok (.istore_n 3, 1) := by decide +kernel
theorem dX6_passOn_39 : decode cX6_passOn 39 = .ok (.iconst 0, 1) := by decide +kernel
theorem dX6_passOn_40 : decode cX6_passOn 40 = .ok (.istore 4, 2) := by decide +kernel
theorem dX6_passOn_42 : decode cX6_passOn 42 = .ok (.iload 4, 2) := by decide +kernel
theorem dX6_passOn_44 : decode cX6_passOn 44 = .ok (.aload_n 0, 1) := by decide +kernel
theorem dX6_passOn_45 : decode cX6_passOn 45 = .ok (.getfield 37, 3) := by decide +kernel
theorem dX6_passOn_48 : decode cX6_passOn 48 = .ok (.getfield 114, 3) := by decide +kernel
theorem dX6_passOn_51 : decode cX6_passOn 51 = .ok (.if_icmp .ge 36, 3) := by decide +kernel
theorem dX6_passOn_54 : decode cX6_passOn 54 = .ok (.iload_n 3, 1) := by decide +kernel
theorem dX6_passOn_55 : decode cX6_passOn 55 = .ok (.iload 4, 2) := by decide +kernel
theorem dX6_passOn_57 : decode cX6_passOn 57 = .ok (.ishr, 1) := by decide +kernel
theorem dX6_passOn_58 : decode cX6_passOn 58 = .ok (.iconst 1, 1) := by decide +kernel
theorem dX6_passOn_59 : decode cX6_passOn 59 = .ok (.iand, 1) := by decide +kernel
theorem dX6_passOn_60 : decode cX6_passOn 60 = .ok (.ifCond .eq 21, 3) := by decide +kernel
theorem dX6_passOn_63 : decode cX6_passOn 63 = .ok (.aload_n 0, 1) := by decide +kernel
theorem dX6_passOn_64 : decode cX6_passOn 64 = .ok (.getfield 21, 3) := by decide +kernel
theorem dX6_passOn_67 : decode cX6_passOn 67 = .ok (.iload 4, 2) := by decide +kernel
theorem dX6_passOn_69 : decode cX6_passOn 69 = .ok (.aload_n 0, 1) := by decide +kernel
theorem dX6_passOn_70 : decode cX6_passOn 70 = .ok (.getfield 21, 3) := by decide +kernel
theorem dX6_passOn_73 : decode cX6_passOn 73 = .ok (.iload 4, 2) := by decide +kernel
theorem dX6_passOn_75 : decode cX6_passOn 75 = .ok (.iaload, 1) := by decide +kernel
theorem dX6_passOn_76 : decode cX6_passOn 76 = .ok (.iload_n 2, 1) := by decide +kernel
theorem dX6_passOn_77 : decode cX6_passOn 77 = .ok (.invokestatic 96, 3) := by decide +kernel
theorem dX6_passOn_80 : decode cX6_passOn 80 = .ok (.iastore, 1) := by decide +kernel
theorem dX6_passOn_81 : decode cX6_passOn 81 = .ok (.iinc 4 1, 3) := by decide +kernel
theorem dX6_passOn_84 : decode cX6_passOn 84 = .ok (.goto (-42), 3) := by decide +kernel
theorem dX6_passOn_87 : decode cX6_passOn 87 = .ok (.iload_n 3, 1) := by decide +kernel
theorem dX6_passOn_88 : decode cX6_passOn 88 = .ok (.ireturn, 1) := by decide +kernel
theorem dX7_init_0 : decode cX7_init 0 = .ok (.aload_n 0, 1) := by decide +kernel
theorem dX7_init_1 : decode cX7_init 1 = .ok (.invokespecial 3, 3) := by decide +kernel
theorem dX7_init_4 : decode cX7_init 4 = .ok (.aload_n 0, 1) := by decide +kernel
theorem dX7_init_5 : decode cX7_init 5 = .ok (.iconst 0, 1) := by decide +kernel
theorem dX7_init_6 : decode cX7_init 6 = .ok (.putfield 9, 3) := by decide +kernel
theorem dX7_init_9 : decode cX7_init 9 = .ok (.aload_n 0, 1) := by decide +kernel
theorem dX7_init_10 : decode cX7_init 10 = .ok (.iconst 0, 1) := by decide +kernel
theorem dX7_init_11 : decode cX7_init 11 = .ok (.putfield 15, 3) := by decide +kernel
theorem dX7_init_14 : decode cX7_init 14 = .ok (.aload_n 0, 1) := by decide +kernel
theorem dX7_init_15 : decode cX7_init 15 = .ok (.iconst 0, 1) := by decide +kernel
theorem dX7_init_16 : decode cX7_init 16 = .ok (.putfield 18, 3) := by decide +kernel
theorem dX7_init_19 : decode cX7_init 19 = .ok (.aload_n 0, 1) := by decide +kernel
theorem dX7_init_20 : decode cX7_init 20 = .ok (.iconst 0, 1) := by decide +kernel
theorem dX7_init_21 : decode cX7_init 21 = .ok (.putfield 21, 3) := by decide +kernel
theorem dX7_init_24 : decode cX7_init 24 = .ok (.aload_n 0, 1) := by decide +kernel
theorem dX7_init_25 : decode cX7_init 25 = .ok (.bipush 6, 2) := by decide +kernel
theorem dX7_init_27 : decode cX7_init 27 = .ok (.newarray .int, 2) := by decide +kernel
theorem dX7_init_29 : decode cX7_init 29 = .ok (.putfield 24, 3) := by decide +kernel
theorem dX7_init_32 : decode cX7_init 32 = .ok (.aload_n 0, 1) := by decide +kernel
theorem dX7_init_33 : decode cX7_init 33 = .ok (.bipush 6, 2) := by decide +kernel
theorem dX7_init_35 : decode cX7_init 35 = .ok (.newarray .int, 2) := by decide +kernel
theorem dX7_init_37 : decode cX7_init 37 = .ok (.putfield 28, 3) := by decide +kernel
theorem dX7_init_40 : decode cX7_init 40 = .ok (.aload_n 0, 1) := by decide +kernel
theorem dX7_init_41 : decode cX7_init 41 = .ok (.bipush 6, 2) := by decide +kernel
theorem dX7_init_43 : decode cX7_init 43 = .ok (.newarray .int, 2) := by decide +kernel
theorem dX7_init_45 : decode cX7_init 45 = .ok (.putfield 31, 3) := by decide +kernel
theorem dX7_init_48 : decode cX7_init 48 = .ok (.aload_n 0, 1) := by decide +kernel
theorem dX7_init_49 : decode cX7_init 49 = .ok (.iconst 0, 1) := by decide +kernel
theorem dX7_init_50 : decode cX7_init 50 = .ok (.putfield 34, 3) := by decide +kernel
theorem dX7_init_53 : decode cX7_init 53 = .ok (.aload_n 0, 1) := by decide +kernel
theorem dX7_init_54 : decode cX7_init 54 = .ok (.bipush 10, 2) := by decide +kernel
theorem dX7_init_56 : decode cX7_init 56 = .ok (.newarray .int, 2) := by decide +kernel
theorem dX7_init_58 : decode cX7_init 58 = .ok (.putfield 37, 3) := by decide +kernel
theorem dX7_init_61 : decode cX7_init 61 = .ok (.aload_n 0, 1) := by decide +kernel
theorem dX7_init_62 : decode cX7_init 62 = .ok (.bipush 10, 2) := by decide +kernel
theorem dX7_init_64 : decode cX7_init 64 = .ok (.newarray .int, 2) := by decide +kernel
theorem dX7_init_66 : decode cX7_init 66 = .ok (.putfield 40, 3) := by decide +kernel
theorem dX7_init_69 : decode cX7_init 69 = .ok (.aload_n 0, 1) := by decide +kernel
theorem dX7_init_70 : decode cX7_init 70 = .ok (.new 43, 3) := by decide +kernel
theorem dX7_init_73 : decode cX7_init 73 = .ok (.dup, 1) := by decide +kernel
theorem dX7_init_74 : decode cX7_init 74 = .ok (.invokespecial 45, 3) := by decide +kernel
theorem dX7_init_77 : decode cX7_init 77 = .ok (.putfield 46, 3) := by decide +kernel
theorem dX7_init_80 : decode cX7_init 80 = .ok (.return_, 1) := by decide +kernel
theorem dX7_empty_0 : decode cX7_empty 0 = .ok (.aload_n 0, 1) := by decide +kernel
theorem dX7_empty_1 : decode cX7_empty 1 = .ok (.iconst 0, 1) := by decide +kernel
theorem dX7_empty_2 : decode cX7_empty 2 = .ok (.putfield 21, 3) := by decide +kernel
theorem dX7_empty_5 : decode cX7_empty 5 = .ok (.aload_n 0, 1) := by decide +kernel
theorem dX7_empty_6 : decode cX7_empty 6 = .ok (.iconst 0, 1) := by decide +kernel
theorem dX7_empty_7 : decode cX7_empty 7 = .ok (.putfield 34, 3) := by decide +kernel
theorem dX7_empty_10 : decode cX7_empty 10 = .ok (.aload_n 0, 1) := by decide +kernel
theorem dX7_empty_11 : decode cX7_empty 11 = .ok (.getfield 46, 3) := by decide +kernel
theorem dX7_empty_14 : decode cX7_empty 14 = .ok (.invokevirtual 50, 3) := by decide +kernel
theorem dX7_empty_17 : decode cX7_empty 17 = .ok (.return_, 1) := by decide +kernel
theorem dX7_become_0 : decode cX7_become 0 = .ok (.aload_n 0, 1) := by decide +kernel
theorem dX7_become_1 : decode cX7_become 1 = .ok (.aload_n 1, 1) := by decide +kernel
theorem dX7_become_2 : decode cX7_become 2 = .ok (.getfield 9, 3) := by decide +kernel
theorem dX7_become_5 : decode cX7_become 5 = .ok (.putfield 9, 3) := by decide +kernel
theorem dX7_become_8 : decode cX7_become 8 = .ok (.aload_n 0, 1) := by decide +kernel
theorem dX7_become_9 : decode cX7_become 9 = .ok (.aload_n 1, 1) := by decide +kernel
theorem dX7_become_10 : decode cX7_become 10 = .ok (.getfield 15, 3) := by decide +kernel
theorem dX7_become_13 : decode cX7_become 13 = .ok (.putfield 15, 3) := by decide +kernel
theorem dX7_become_16 : decode cX7_become 16 = .ok (.aload_n 0, 1) := by decide +kernel
theorem dX7_become_17 : decode cX7_become 17 = .ok (.aload_n 1, 1) := by decide +kernel
theorem dX7_become_18 : decode cX7_become 18 = .ok (.getfield 18, 3) := by decide +kernel
theorem dX7_become_21 : decode cX7_become 21 = .ok (.putfield 18, 3) := by decide +kernel
theorem dX7_become_24 : decode cX7_become 24 = .ok (.aload_n 0, 1) := by decide +kernel
theorem dX7_become_25 : decode cX7_become 25 = .ok (.aload_n 1, 1) := by decide +kernel
theorem dX7_become_26 : decode cX7_become 26 = .ok (.getfield 21, 3) := by decide +kernel
theorem dX7_become_29 : decode cX7_become 29 = .ok (.putfield 21, 3) := by decide +kernel
theorem dX7_become_32 : decode cX7_become 32 = .ok (.aload_n 1, 1) := by decide +kernel
theorem dX7_become_33 : decode cX7_become 33 = .ok (.getfield 24, 3) := by decide +kernel
theorem dX7_become_36 : decode cX7_become 36 = .ok (.iconst 0, 1) := by decide +kernel
theorem dX7_become_37 : decode cX7_become 37 = .ok (.aload_n 0, 1) := by decide +kernel
theorem dX7_become_38 : decode cX7_become 38 = .ok (.getfield 24, 3) := by decide +kernel
theorem dX7_become_41 : decode cX7_become 41 = .ok (.iconst 0, 1) := by decide +kernel
theorem dX7_become_42 : decode cX7_become 42 = .ok (.bipush 6, 2) := by decide +kernel
theorem dX7_become_44 : decode cX7_become 44 = .ok (.invokestatic 53, 3) := by decide +kernel
theorem dX7_become_47 : decode cX7_become 47 = .ok (.aload_n 1, 1) := by decide +kernel
theorem dX7_become_48 : decode cX7_become 48 = .ok (.getfield 28, 3) := by decide +kernel
theorem dX7_become_51 : decode cX7_become 51 = .ok (.iconst 0, 1) := by decide +kernel
theorem dX7_become_52 : decode cX7_become 52 = .ok (.aload_n 0, 1) := by decide +kernel
theorem dX7_become_53 : decode cX7_become 53 = .ok (.getfield 28, 3) := by decide +kernel
theorem dX7_become_56 : decode cX7_become 56 = .ok (.iconst 0, 1) := by decide +kernel
theorem dX7_become_57 : decode cX7_become 57 = .ok (.bipush 6, 2) := by decide +kernel
theorem dX7_become_59 : decode cX7_become 59 = .ok (.invokestatic 53, 3) := by decide +kernel
theorem dX7_become_62 : decode cX7_become 62 = .ok (.aload_n 1, 1) := by decide +kernel
theorem dX7_become_63 : decode cX7_become 63 = .ok (.getfield 31, 3) := by decide +kernel
theorem dX7_become_66 : decode cX7_become 66 = .ok (.iconst 0, 1) := by decide +kernel
theorem dX7_become_67 : decode cX7_become 67 = .ok (.aload_n 0, 1) := by decide +kernel
theorem dX7_become_68 : decode cX7_become 68 = .ok (.getfield 31, 3) := by decide +kernel
theorem dX7_become_71 : decode cX7_become 71 = .ok (.iconst 0, 1) := by decide +kernel
theorem dX7_become_72 : decode cX7_become 72 = .ok (.bipush 6, 2) := by decide +kernel
theorem dX7_become_74 : decode cX7_become 74 = .ok (.invokestatic 53, 3) := by decide +kernel
theorem dX7_become_77 : decode cX7_become 77 = .ok (.aload_n 0, 1) := by decide +kernel
theorem dX7_become_78 : decode cX7_become 78 = .ok (.aload_n 1, 1) := by decide +kernel
theorem dX7_become_79 : decode cX7_become 79 = .ok (.getfield 34, 3) := by decide +kernel
theorem dX7_become_82 : decode cX7_become 82 = .ok (.putfield 34, 3) := by decide +kernel
theorem dX7_become_85 : decode cX7_become 85 = .ok (.aload_n 1, 1) := by decide +kernel
theorem dX7_become_86 : decode cX7_become 86 = .ok (.getfield 37, 3) := by decide +kernel
theorem dX7_become_89 : decode cX7_become 89 = .ok (.iconst 0, 1) := by decide +kernel
theorem dX7_become_90 : decode cX7_become 90 = .ok (.aload_n 0, 1) := by decide +kernel
theorem dX7_become_91 : decode cX7_become 91 = .ok (.getfield 37, 3) := by decide +kernel
theorem dX7_become_94 : decode cX7_become 94 = .ok (.iconst 0, 1) := by decide +kernel
theorem dX7_become_95 : decode cX7_become 95 = .ok (.bipush 10, 2) := by decide +kernel
theorem dX7_become_97 : decode cX7_become 97 = .ok (.invokestatic 53, 3) := by decide +kernel
theorem dX7_become_100 : decode cX7_become 100 = .ok (.aload_n 1, 1) := by decide +kernel
theorem dX7_become_101 : decode cX7_become 101 = .ok (.getfield 40, 3) := by decide +kernel
theorem dX7_become_104 : decode cX7_become 104 = .ok (.iconst 0, 1) := by decide +kernel
theorem dX7_become_105 : decode cX7_become 105 = .ok (.aload_n 0, 1) := by decide +kernel
theorem dX7_become_106 : decode cX7_become 106 = .ok (.getfield 40, 3) := by decide +kernel
theorem dX7_become_109 : decode cX7_become 109 = .ok (.iconst 0, 1) := by decide +kernel
theorem dX7_become_110 : decode cX7_become 110 = .ok (.bipush 10, 2) := by decide +kernel
theorem dX7_become_112 : decode cX7_become 112 = .ok (.invokestatic 53, 3) := by decide +kernel
theorem dX7_become_115 : decode cX7_become 115 = .ok (.aload_n 0, 1) := by decide +kernel
theorem dX7_become_116 : decode cX7_become 116 = .ok (.getfield 46, 3) := by decide +kernel
theorem dX7_become_119 : decode cX7_become 119 = .ok (.aload_n 1, 1) := by decide +kernel
theorem dX7_become_120 : decode cX7_become 120 = .ok (.getfield 46, 3) := by decide +kernel
theorem dX7_become_123 : decode cX7_become 123 = .ok (.invokevirtual 59, 3) := by decide +kernel
theorem dX7_become_126 : decode cX7_become 126 = .ok (.return_, 1) := by decide +kernel
theorem dX7_addDrinker_0 : decode cX7_addDrinker 0 = .ok (.aload_n 0, 1) := by decide +kernel
theorem dX7_addDrinker_1 : decode cX7_addDrinker 1 = .ok (.getfield 24, 3) := by decide +kernel
theorem dX7_addDrinker_4 : decode cX7_addDrinker 4 = .ok (.aload_n 0, 1) := by decide +kernel
theorem dX7_addDrinker_5 : decode cX7_addDrinker 5 = .ok (.getfield 21, 3) := by decide +kernel
theorem dX7_addDrinker_8 : decode cX7_addDrinker 8 = .ok (.iload_n 1, 1) := by decide +kernel
theorem dX7_addDrinker_9 : decode cX7_addDrinker 9 = .ok (.iastore, 1) := by decide +kernel
theorem dX7_addDrinker_10 : decode cX7_addDrinker 10 = .ok (.aload_n 0, 1) := by decide +kernel
theorem dX7_addDrinker_11 : decode cX7_addDrinker 11 = .ok (.getfield 28, 3) := by decide +kernel
theorem dX7_addDrinker_14 : decode cX7_addDrinker 14 = .ok (.aload_n 0, 1) := by decide +kernel
theorem dX7_addDrinker_15 : decode cX7_addDrinker 15 = .ok (.getfield 21, 3) := by decide +kernel
theorem dX7_addDrinker_18 : decode cX7_addDrinker 18 = .ok (.iload_n 2, 1) := by decide +kernel
theorem dX7_addDrinker_19 : decode cX7_addDrinker 19 = .ok (.iastore, 1) := by decide +kernel
theorem dX7_addDrinker_20 : decode cX7_addDrinker 20 = .ok (.aload_n 0, 1) := by decide +kernel
theorem dX7_addDrinker_21 : decode cX7_addDrinker 21 = .ok (.getfield 31, 3) := by decide +kernel
theorem dX7_addDrinker_24 : decode cX7_addDrinker 24 = .ok (.aload_n 0, 1) := by decide +kernel
theorem dX7_addDrinker_25 : decode cX7_addDrinker 25 = .ok (.getfield 21, 3) := by decide +kernel
theorem dX7_addDrinker_28 : decode cX7_addDrinker 28 = .ok (.iload_n 3, 1) := by decide +kernel
theorem dX7_addDrinker_29 : decode cX7_addDrinker 29 = .ok (.iastore, 1) := by decide +kernel
theorem dX7_addDrinker_30 : decode cX7_addDrinker 30 = .ok (.aload_n 0, 1) := by decide +kernel
theorem dX7_addDrinker_31 : decode cX7_addDrinker 31 = .ok (.dup, 1) := by decide +kernel
theorem dX7_addDrinker_32 : decode cX7_addDrinker 32 = .ok (.getfield 21, 3) := by decide +kernel
theorem dX7_addDrinker_35 : decode cX7_addDrinker 35 = .ok (.iconst 1, 1) := by decide +kernel
theorem dX7_addDrinker_36 : decode cX7_addDrinker 36 = .ok (.iadd, 1) := by decide +kernel
theorem dX7_addDrinker_37 : decode cX7_addDrinker 37 = .ok (.putfield 21, 3) := by decide +kernel
theorem dX7_addDrinker_40 : decode cX7_addDrinker 40 = .ok (.return_, 1) := by decide +kernel
theorem dX7_addTie_0 : decode cX7_addTie 0 = .ok (.aload_n 0, 1) := by decide +kernel
theorem dX7_addTie_1 : decode cX7_addTie 1 = .ok (.getfield 37, 3) := by decide +kernel
theorem dX7_addTie_4 : decode cX7_addTie 4 = .ok (.aload_n 0, 1) := by decide +kernel
theorem dX7_addTie_5 : decode cX7_addTie 5 = .ok (.getfield 34, 3) := by decide +kernel
theorem dX7_addTie_8 : decode cX7_addTie 8 = .ok (.iload_n 1, 1) := by decide +kernel
theorem dX7_addTie_9 : decode cX7_addTie 9 = .ok (.iastore, 1) := by decide +kernel
theorem dX7_addTie_10 : decode cX7_addTie 10 = .ok (.aload_n 0, 1) := by decide +kernel
theorem dX7_addTie_11 : decode cX7_addTie 11 = .ok (.getfield 40, 3) := by decide +kernel
theorem dX7_addTie_14 : decode cX7_addTie 14 = .ok (.aload_n 0, 1) := by decide +kernel
theorem dX7_addTie_15 : decode cX7_addTie 15 = .ok (.getfield 34, 3) := by decide +kernel
theorem dX7_addTie_18 : decode cX7_addTie 18 = .ok (.iload_n 2, 1) := by decide +kernel
theorem dX7_addTie_19 : decode cX7_addTie 19 = .ok (.iastore, 1) := by decide +kernel
theorem dX7_addTie_20 : decode cX7_addTie 20 = .ok (.aload_n 0, 1) := by decide +kernel
theorem dX7_addTie_21 : decode cX7_addTie 21 = .ok (.dup, 1) := by decide +kernel
theorem dX7_addTie_22 : decode cX7_addTie 22 = .ok (.getfield 34, 3) := by decide +kernel
theorem dX7_addTie_25 : decode cX7_addTie 25 = .ok (.iconst 1, 1) := by decide +kernel
theorem dX7_addTie_26 : decode cX7_addTie 26 = .ok (.iadd, 1) := by decide +kernel
theorem dX7_addTie_27 : decode cX7_addTie 27 = .ok (.putfield 34, 3) := by decide +kernel
theorem dX7_addTie_30 : decode cX7_addTie 30 = .ok (.return_, 1) := by decide +kernel
theorem dX7_everybody_0 : decode cX7_everybody 0 = .ok (.iconst 1, 1) := by decide +kernel
theorem dX7_everybody_1 : decode cX7_everybody 1 = .ok (.aload_n 0, 1) := by decide +kernel
theorem dX7_everybody_2 : decode cX7_everybody 2 = .ok (.getfield 21, 3) := by decide +kernel
theorem dX7_everybody_5 : decode cX7_everybody 5 = .ok (.ishl, 1) := by decide +kernel
theorem dX7_everybody_6 : decode cX7_everybody 6 = .ok (.iconst 1, 1) := by decide +kernel
theorem dX7_everybody_7 : decode cX7_everybody 7 = .ok (.isub, 1) := by decide +kernel
theorem dX7_everybody_8 : decode cX7_everybody 8 = .ok (.ireturn, 1) := by decide +kernel
theorem dX7_hearersOf_0 : decode cX7_hearersOf 0 = .ok (.iconst 0, 1) := by decide +kernel
theorem dX7_hearersOf_1 : decode cX7_hearersOf 1 = .ok (.istore_n 2, 1) := by decide +kernel
theorem dX7_hearersOf_2 : decode cX7_hearersOf 2 = .ok (.iconst 0, 1) := by decide +kernel
theorem dX7_hearersOf_3 : decode cX7_hearersOf 3 = .ok (.istore_n 3, 1) := by decide +kernel
theorem dX7_hearersOf_4 : decode cX7_hearersOf 4 = .ok (.iload_n 3, 1) := by decide +kernel
theorem dX7_hearersOf_5 : decode cX7_hearersOf 5 = .ok (.aload_n 0, 1) := by decide +kernel
theorem dX7_hearersOf_6 : decode cX7_hearersOf 6 = .ok (.getfield 34, 3) := by decide +kernel
theorem dX7_hearersOf_9 : decode cX7_hearersOf 9 = .ok (.if_icmp .ge 30, 3) := by decide +kernel
theorem dX7_hearersOf_12 : decode cX7_hearersOf 12 = .ok (.aload_n 0, 1) := by decide +kernel
theorem dX7_hearersOf_13 : decode cX7_hearersOf 13 = .ok (.getfield 37, 3) := by decide +kernel
theorem dX7_hearersOf_16 : decode cX7_hearersOf 16 = .ok (.iload_n 3, 1) := by decide +kernel
theorem dX7_hearersOf_17 : decode cX7_hearersOf 17 = .ok (.iaload, 1) := by decide +kernel
theorem dX7_hearersOf_18 : decode cX7_hearersOf 18 = .ok (.iload_n 1, 1) := by decide +kernel
theorem dX7_hearersOf_19 : decode cX7_hearersOf 19 = .ok (.if_icmp .ne 14, 3) := by decide +kernel
theorem dX7_hearersOf_22 : decode cX7_hearersOf 22 = .ok (.iload_n 2, 1) := by decide +kernel
theorem dX7_hearersOf_23 : decode cX7_hearersOf 23 = .ok (.iconst 1, 1) := by decide +kernel
theorem dX7_hearersOf_24 : decode cX7_hearersOf 24 = .ok (.aload_n 0, 1) := by decide +kernel
theorem dX7_hearersOf_25 : decode cX7_hearersOf 25 = .ok (.getfield 40, 3) := by decide +kernel
theorem dX7_hearersOf_28 : decode cX7_hearersOf 28 = .ok (.iload_n 3, 1) := by decide +kernel
theorem dX7_hearersOf_29 : decode cX7_hearersOf 29 = .ok (.iaload, 1) := by decide +kernel
theorem dX7_hearersOf_30 : decode cX7_hearersOf 30 = .ok (.ishl, 1) := by decide +kernel
theorem dX7_hearersOf_31 : decode cX7_hearersOf 31 = .ok (.ior, 1) := by decide +kernel
theorem dX7_hearersOf_32 : decode cX7_hearersOf 32 = .ok (.istore_n 2, 1) := by decide +kernel
theorem dX7_hearersOf_33 : decode cX7_hearersOf 33 = .ok (.iinc 3 1, 3) := by decide +kernel
theorem dX7_hearersOf_36 : decode cX7_hearersOf 36 = .ok (.goto (-32), 3) := by decide +kernel
theorem dX7_hearersOf_39 : decode cX7_hearersOf 39 = .ok (.iload_n 2, 1) := by decide +kernel
theorem dX7_hearersOf_40 : decode cX7_hearersOf 40 = .ok (.ireturn, 1) := by decide +kernel
theorem dX7_isOff_0 : decode cX7_isOff 0 = .ok (.iload_n 1, 1) := by decide +kernel
theorem dX7_isOff_1 : decode cX7_isOff 1 = .ok (.aload_n 0, 1) := by decide +kernel
theorem dX7_isOff_2 : decode cX7_isOff 2 = .ok (.getfield 15, 3) := by decide +kernel
theorem dX7_isOff_5 : decode cX7_isOff 5 = .ok (.if_icmp .le 7, 3) := by decide +kernel
theorem dX7_isOff_8 : decode cX7_isOff 8 = .ok (.iconst 1, 1) := by decide +kernel
theorem dX7_isOff_9 : decode cX7_isOff 9 = .ok (.goto 4, 3) := by decide +kernel
theorem dX7_isOff_12 : decode cX7_isOff 12 = .ok (.iconst 0, 1) := by decide +kernel
theorem dX7_isOff_13 : decode cX7_isOff 13 = .ok (.ireturn, 1) := by decide +kernel
theorem dX7_strong_0 : decode cX7_strong 0 = .ok (.aload_n 0, 1) := by decide +kernel
theorem dX7_strong_1 : decode cX7_strong 1 = .ok (.iload_n 2, 1) := by decide +kernel
theorem dX7_strong_2 : decode cX7_strong 2 = .ok (.invokevirtual 63, 3) := by decide +kernel
theorem dX7_strong_5 : decode cX7_strong 5 = .ok (.ifCond .eq 5, 3) := by decide +kernel
theorem dX7_strong_8 : decode cX7_strong 8 = .ok (.iconst 0, 1) := by decide +kernel
theorem dX7_strong_9 : decode cX7_strong 9 = .ok (.ireturn, 1) := by decide +kernel
theorem dX7_strong_10 : decode cX7_strong 10 = .ok (.iload_n 2, 1) := by decide +kernel
theorem dX7_strong_11 : decode cX7_strong 11 = .ok (.aload_n 0, 1) := by decide +kernel
theorem dX7_strong_12 : decode cX7_strong 12 = .ok (.getfield 9, 3) := by decide +kernel
theorem dX7_strong_15 : decode cX7_strong 15 = .ok (.if_icmp .ge 11, 3) := by decide +kernel
end
section
theorem dX7_strong_18 : decode cX7_strong 18 = .ok (.iload_n 1, 1) := by decide +kernel
theorem dX7_strong_19 : decode cX7_strong 19 = .ok (.iload_n 1, 1) := by decide +kernel
theorem dX7_strong_20 : decode cX7_strong 20 = .ok (.iconst 3, 1) := by decide +kernel
theorem dX7_strong_21 : decode cX7_strong 21 = .ok (.idiv, 1) := by decide +kernel
theorem dX7_strong_22 : decode cX7_strong 22 = .ok (.isub, 1) := by decide +kernel
theorem dX7_strong_23 : decode cX7_strong 23 = .ok (.goto 4, 3) := by decide +kernel
theorem dX7_strong_26 : decode cX7_strong 26 = .ok (.iload_n 1, 1) := by decide +kernel
theorem dX7_strong_27 : decode cX7_strong 27 = .ok (.ireturn, 1) := by decide +kernel
theorem dX7_strongOf_0 : decode cX7_strongOf 0 = .ok (.aload_n 0, 1) := by decide +kernel
theorem dX7_strongOf_1 : decode cX7_strongOf 1 = .ok (.aload_n 0, 1) := by decide +kernel
theorem dX7_strongOf_2 : decode cX7_strongOf 2 = .ok (.getfield 46, 3) := by decide +kernel
theorem dX7_strongOf_5 : decode cX7_strongOf 5 = .ok (.iload_n 1, 1) := by decide +kernel
theorem dX7_strongOf_6 : decode cX7_strongOf 6 = .ok (.invokevirtual 67, 3) := by decide +kernel
theorem dX7_strongOf_9 : decode cX7_strongOf 9 = .ok (.aload_n 0, 1) := by decide +kernel
theorem dX7_strongOf_10 : decode cX7_strongOf 10 = .ok (.getfield 46, 3) := by decide +kernel
theorem dX7_strongOf_13 : decode cX7_strongOf 13 = .ok (.iload_n 1, 1) := by decide +kernel
theorem dX7_strongOf_14 : decode cX7_strongOf 14 = .ok (.invokevirtual 71, 3) := by decide +kernel
theorem dX7_strongOf_17 : decode cX7_strongOf 17 = .ok (.invokevirtual 74, 3) := by decide +kernel
theorem dX7_strongOf_20 : decode cX7_strongOf 20 = .ok (.ireturn, 1) := by decide +kernel
theorem dX7_casksOff_0 : decode cX7_casksOff 0 = .ok (.iconst 0, 1) := by decide +kernel
theorem dX7_casksOff_1 : decode cX7_casksOff 1 = .ok (.istore_n 1, 1) := by decide +kernel
theorem dX7_casksOff_2 : decode cX7_casksOff 2 = .ok (.iconst 0, 1) := by decide +kernel
theorem dX7_casksOff_3 : decode cX7_casksOff 3 = .ok (.istore_n 2, 1) := by decide +kernel
theorem dX7_casksOff_4 : decode cX7_casksOff 4 = .ok (.iload_n 2, 1) := by decide +kernel
theorem dX7_casksOff_5 : decode cX7_casksOff 5 = .ok (.iconst 4, 1) := by decide +kernel
theorem dX7_casksOff_6 : decode cX7_casksOff 6 = .ok (.if_icmp .ge 41, 3) := by decide +kernel
theorem dX7_casksOff_9 : decode cX7_casksOff 9 = .ok (.aload_n 0, 1) := by decide +kernel
theorem dX7_casksOff_10 : decode cX7_casksOff 10 = .ok (.getfield 46, 3) := by decide +kernel
theorem dX7_casksOff_13 : decode cX7_casksOff 13 = .ok (.iload_n 2, 1) := by decide +kernel
theorem dX7_casksOff_14 : decode cX7_casksOff 14 = .ok (.invokevirtual 78, 3) := by decide +kernel
theorem dX7_casksOff_17 : decode cX7_casksOff 17 = .ok (.ifCond .ne 24, 3) := by decide +kernel
theorem dX7_casksOff_20 : decode cX7_casksOff 20 = .ok (.aload_n 0, 1) := by decide +kernel
theorem dX7_casksOff_21 : decode cX7_casksOff 21 = .ok (.aload_n 0, 1) := by decide +kernel
theorem dX7_casksOff_22 : decode cX7_casksOff 22 = .ok (.getfield 46, 3) := by decide +kernel
theorem dX7_casksOff_25 : decode cX7_casksOff 25 = .ok (.iload_n 2, 1) := by decide +kernel
theorem dX7_casksOff_26 : decode cX7_casksOff 26 = .ok (.invokevirtual 71, 3) := by decide +kernel
theorem dX7_casksOff_29 : decode cX7_casksOff 29 = .ok (.invokevirtual 63, 3) := by decide +kernel
theorem dX7_casksOff_32 : decode cX7_casksOff 32 = .ok (.ifCond .eq 9, 3) := by decide +kernel
theorem dX7_casksOff_35 : decode cX7_casksOff 35 = .ok (.iload_n 1, 1) := by decide +kernel
theorem dX7_casksOff_36 : decode cX7_casksOff 36 = .ok (.iconst 1, 1) := by decide +kernel
theorem dX7_casksOff_37 : decode cX7_casksOff 37 = .ok (.iload_n 2, 1) := by decide +kernel
theorem dX7_casksOff_38 : decode cX7_casksOff 38 = .ok (.ishl, 1) := by decide +kernel
theorem dX7_casksOff_39 : decode cX7_casksOff 39 = .ok (.ior, 1) := by decide +kernel
theorem dX7_casksOff_40 : decode cX7_casksOff 40 = .ok (.istore_n 1, 1) := by decide +kernel
theorem dX7_casksOff_41 : decode cX7_casksOff 41 = .ok (.iinc 2 1, 3) := by decide +kernel
theorem dX7_casksOff_44 : decode cX7_casksOff 44 = .ok (.goto (-40), 3) := by decide +kernel
theorem dX7_casksOff_47 : decode cX7_casksOff 47 = .ok (.iload_n 1, 1) := by decide +kernel
theorem dX7_casksOff_48 : decode cX7_casksOff 48 = .ok (.ireturn, 1) := by decide +kernel
theorem dX8_init_0 : decode cX8_init 0 = .ok (.aload_n 0, 1) := by decide +kernel
theorem dX8_init_1 : decode cX8_init 1 = .ok (.invokespecial 1, 3) := by decide +kernel
theorem dX8_init_4 : decode cX8_init 4 = .ok (.aload_n 0, 1) := by decide +kernel
theorem dX8_init_5 : decode cX8_init 5 = .ok (.new 7, 3) := by decide +kernel
theorem dX8_init_8 : decode cX8_init 8 = .ok (.dup, 1) := by decide +kernel
theorem dX8_init_9 : decode cX8_init 9 = .ok (.invokespecial 9, 3) := by decide +kernel
theorem dX8_init_12 : decode cX8_init 12 = .ok (.putfield 10, 3) := by decide +kernel
theorem dX8_init_15 : decode cX8_init 15 = .ok (.aload_n 0, 1) := by decide +kernel
theorem dX8_init_16 : decode cX8_init 16 = .ok (.new 16, 3) := by decide +kernel
theorem dX8_init_19 : decode cX8_init 19 = .ok (.dup, 1) := by decide +kernel
theorem dX8_init_20 : decode cX8_init 20 = .ok (.invokespecial 18, 3) := by decide +kernel
theorem dX8_init_23 : decode cX8_init 23 = .ok (.putfield 19, 3) := by decide +kernel
theorem dX8_init_26 : decode cX8_init 26 = .ok (.aload_n 0, 1) := by decide +kernel
theorem dX8_init_27 : decode cX8_init 27 = .ok (.new 23, 3) := by decide +kernel
theorem dX8_init_30 : decode cX8_init 30 = .ok (.dup, 1) := by decide +kernel
theorem dX8_init_31 : decode cX8_init 31 = .ok (.invokespecial 25, 3) := by decide +kernel
theorem dX8_init_34 : decode cX8_init 34 = .ok (.putfield 26, 3) := by decide +kernel
theorem dX8_init_37 : decode cX8_init 37 = .ok (.aload_n 0, 1) := by decide +kernel
theorem dX8_init_38 : decode cX8_init 38 = .ok (.new 23, 3) := by decide +kernel
theorem dX8_init_41 : decode cX8_init 41 = .ok (.dup, 1) := by decide +kernel
theorem dX8_init_42 : decode cX8_init 42 = .ok (.invokespecial 25, 3) := by decide +kernel
theorem dX8_init_45 : decode cX8_init 45 = .ok (.putfield 30, 3) := by decide +kernel
theorem dX8_init_48 : decode cX8_init 48 = .ok (.aload_n 0, 1) := by decide +kernel
theorem dX8_init_49 : decode cX8_init 49 = .ok (.iconst 2, 1) := by decide +kernel
theorem dX8_init_50 : decode cX8_init 50 = .ok (.anewarray 23, 3) := by decide +kernel
theorem dX8_init_53 : decode cX8_init 53 = .ok (.dup, 1) := by decide +kernel
theorem dX8_init_54 : decode cX8_init 54 = .ok (.iconst 0, 1) := by decide +kernel
theorem dX8_init_55 : decode cX8_init 55 = .ok (.new 23, 3) := by decide +kernel
theorem dX8_init_58 : decode cX8_init 58 = .ok (.dup, 1) := by decide +kernel
theorem dX8_init_59 : decode cX8_init 59 = .ok (.invokespecial 25, 3) := by decide +kernel
theorem dX8_init_62 : decode cX8_init 62 = .ok (.aastore, 1) := by decide +kernel
theorem dX8_init_63 : decode cX8_init 63 = .ok (.dup, 1) := by decide +kernel
theorem dX8_init_64 : decode cX8_init 64 = .ok (.iconst 1, 1) := by decide +kernel
theorem dX8_init_65 : decode cX8_init 65 = .ok (.new 23, 3) := by decide +kernel
theorem dX8_init_68 : decode cX8_init 68 = .ok (.dup, 1) := by decide +kernel
theorem dX8_init_69 : decode cX8_init 69 = .ok (.invokespecial 25, 3) := by decide +kernel
theorem dX8_init_72 : decode cX8_init 72 = .ok (.aastore, 1) := by decide +kernel
theorem dX8_init_73 : decode cX8_init 73 = .ok (.putfield 33, 3) := by decide +kernel
theorem dX8_init_76 : decode cX8_init 76 = .ok (.aload_n 0, 1) := by decide +kernel
theorem dX8_init_77 : decode cX8_init 77 = .ok (.new 37, 3) := by decide +kernel
theorem dX8_init_80 : decode cX8_init 80 = .ok (.dup, 1) := by decide +kernel
theorem dX8_init_81 : decode cX8_init 81 = .ok (.invokespecial 39, 3) := by decide +kernel
theorem dX8_init_84 : decode cX8_init 84 = .ok (.putfield 40, 3) := by decide +kernel
theorem dX8_init_87 : decode cX8_init 87 = .ok (.aload_n 0, 1) := by decide +kernel
theorem dX8_init_88 : decode cX8_init 88 = .ok (.new 44, 3) := by decide +kernel
theorem dX8_init_91 : decode cX8_init 91 = .ok (.dup, 1) := by decide +kernel
theorem dX8_init_92 : decode cX8_init 92 = .ok (.aload_n 0, 1) := by decide +kernel
theorem dX8_init_93 : decode cX8_init 93 = .ok (.getfield 26, 3) := by decide +kernel
theorem dX8_init_96 : decode cX8_init 96 = .ok (.invokespecial 46, 3) := by decide +kernel
theorem dX8_init_99 : decode cX8_init 99 = .ok (.putfield 49, 3) := by decide +kernel
theorem dX8_init_102 : decode cX8_init 102 = .ok (.aload_n 0, 1) := by decide +kernel
theorem dX8_init_103 : decode cX8_init 103 = .ok (.new 53, 3) := by decide +kernel
theorem dX8_init_106 : decode cX8_init 106 = .ok (.dup, 1) := by decide +kernel
theorem dX8_init_107 : decode cX8_init 107 = .ok (.aload_n 0, 1) := by decide +kernel
theorem dX8_init_108 : decode cX8_init 108 = .ok (.getfield 26, 3) := by decide +kernel
theorem dX8_init_111 : decode cX8_init 111 = .ok (.aload_n 0, 1) := by decide +kernel
theorem dX8_init_112 : decode cX8_init 112 = .ok (.getfield 49, 3) := by decide +kernel
theorem dX8_init_115 : decode cX8_init 115 = .ok (.invokespecial 55, 3) := by decide +kernel
theorem dX8_init_118 : decode cX8_init 118 = .ok (.putfield 58, 3) := by decide +kernel
theorem dX8_init_121 : decode cX8_init 121 = .ok (.aload_n 0, 1) := by decide +kernel
theorem dX8_init_122 : decode cX8_init 122 = .ok (.new 62, 3) := by decide +kernel
theorem dX8_init_125 : decode cX8_init 125 = .ok (.dup, 1) := by decide +kernel
theorem dX8_init_126 : decode cX8_init 126 = .ok (.aload_n 0, 1) := by decide +kernel
theorem dX8_init_127 : decode cX8_init 127 = .ok (.getfield 26, 3) := by decide +kernel
theorem dX8_init_130 : decode cX8_init 130 = .ok (.invokespecial 64, 3) := by decide +kernel
theorem dX8_init_133 : decode cX8_init 133 = .ok (.putfield 65, 3) := by decide +kernel
theorem dX8_init_136 : decode cX8_init 136 = .ok (.aload_n 0, 1) := by decide +kernel
theorem dX8_init_137 : decode cX8_init 137 = .ok (.iconst 0, 1) := by decide +kernel
theorem dX8_init_138 : decode cX8_init 138 = .ok (.putfield 69, 3) := by decide +kernel
theorem dX8_init_141 : decode cX8_init 141 = .ok (.return_, 1) := by decide +kernel
theorem dX8_row_0 : decode cX8_row 0 = .ok (.iload_n 1, 1) := by decide +kernel
theorem dX8_row_1 : decode cX8_row 1 = .ok (.invokestatic 73, 3) := by decide +kernel
theorem dX8_row_4 : decode cX8_row 4 = .ok (.ifCond .eq 18, 3) := by decide +kernel
theorem dX8_row_7 : decode cX8_row 7 = .ok (.iload_n 2, 1) := by decide +kernel
theorem dX8_row_8 : decode cX8_row 8 = .ok (.ifCond .lt 14, 3) := by decide +kernel
theorem dX8_row_11 : decode cX8_row 11 = .ok (.iload_n 2, 1) := by decide +kernel
theorem dX8_row_12 : decode cX8_row 12 = .ok (.iconst 3, 1) := by decide +kernel
theorem dX8_row_13 : decode cX8_row 13 = .ok (.if_icmp .ge 9, 3) := by decide +kernel
theorem dX8_row_16 : decode cX8_row 16 = .ok (.iload_n 3, 1) := by decide +kernel
theorem dX8_row_17 : decode cX8_row 17 = .ok (.bipush 40, 2) := by decide +kernel
theorem dX8_row_19 : decode cX8_row 19 = .ok (.if_icmp .le 6, 3) := by decide +kernel
theorem dX8_row_22 : decode cX8_row 22 = .ok (.ldc 77, 2) := by decide +kernel
theorem dX8_row_24 : decode cX8_row 24 = .ok (.ireturn, 1) := by decide +kernel
theorem dX8_row_25 : decode cX8_row 25 = .ok (.iload_n 3, 1) := by decide +kernel
theorem dX8_row_26 : decode cX8_row 26 = .ok (.ifCond .ge 9, 3) := by decide +kernel
theorem dX8_row_29 : decode cX8_row 29 = .ok (.aload_n 0, 1) := by decide +kernel
theorem dX8_row_30 : decode cX8_row 30 = .ok (.iconst 4, 1) := by decide +kernel
theorem dX8_row_31 : decode cX8_row 31 = .ok (.invokevirtual 78, 3) := by decide +kernel
theorem dX8_row_34 : decode cX8_row 34 = .ok (.ireturn, 1) := by decide +kernel
theorem dX8_row_35 : decode cX8_row 35 = .ok (.aload_n 0, 1) := by decide +kernel
theorem dX8_row_36 : decode cX8_row 36 = .ok (.getfield 10, 3) := by decide +kernel
theorem dX8_row_39 : decode cX8_row 39 = .ok (.iload_n 1, 1) := by decide +kernel
theorem dX8_row_40 : decode cX8_row 40 = .ok (.iload_n 2, 1) := by decide +kernel
theorem dX8_row_41 : decode cX8_row 41 = .ok (.iload_n 3, 1) := by decide +kernel
theorem dX8_row_42 : decode cX8_row 42 = .ok (.invokevirtual 82, 3) := by decide +kernel
theorem dX8_row_45 : decode cX8_row 45 = .ok (.aload_n 0, 1) := by decide +kernel
theorem dX8_row_46 : decode cX8_row 46 = .ok (.iload_n 3, 1) := by decide +kernel
theorem dX8_row_47 : decode cX8_row 47 = .ok (.invokevirtual 86, 3) := by decide +kernel
theorem dX8_row_50 : decode cX8_row 50 = .ok (.ireturn, 1) := by decide +kernel
theorem dX8_set_0 : decode cX8_set 0 = .ok (.iload_n 1, 1) := by decide +kernel
theorem dX8_set_1 : decode cX8_set 1 = .ok (.invokestatic 73, 3) := by decide +kernel
theorem dX8_set_4 : decode cX8_set 4 = .ok (.ifCond .ne 6, 3) := by decide +kernel
theorem dX8_set_7 : decode cX8_set 7 = .ok (.ldc 77, 2) := by decide +kernel
theorem dX8_set_9 : decode cX8_set 9 = .ok (.ireturn, 1) := by decide +kernel
theorem dX8_set_10 : decode cX8_set 10 = .ok (.aload_n 0, 1) := by decide +kernel
theorem dX8_set_11 : decode cX8_set 11 = .ok (.getfield 10, 3) := by decide +kernel
theorem dX8_set_14 : decode cX8_set 14 = .ok (.iload_n 1, 1) := by decide +kernel
theorem dX8_set_15 : decode cX8_set 15 = .ok (.invokevirtual 89, 3) := by decide +kernel
theorem dX8_set_18 : decode cX8_set 18 = .ok (.ifCond .eq 9, 3) := by decide +kernel
theorem dX8_set_21 : decode cX8_set 21 = .ok (.aload_n 0, 1) := by decide +kernel
theorem dX8_set_22 : decode cX8_set 22 = .ok (.iconst 1, 1) := by decide +kernel
theorem dX8_set_23 : decode cX8_set 23 = .ok (.invokevirtual 78, 3) := by decide +kernel
theorem dX8_set_26 : decode cX8_set 26 = .ok (.ireturn, 1) := by decide +kernel
theorem dX8_set_27 : decode cX8_set 27 = .ok (.aload_n 0, 1) := by decide +kernel
theorem dX8_set_28 : decode cX8_set 28 = .ok (.getfield 10, 3) := by decide +kernel
theorem dX8_set_31 : decode cX8_set 31 = .ok (.iload_n 1, 1) := by decide +kernel
theorem dX8_set_32 : decode cX8_set 32 = .ok (.iload_n 2, 1) := by decide +kernel
theorem dX8_set_33 : decode cX8_set 33 = .ok (.iconst 1, 1) := by decide +kernel
theorem dX8_set_34 : decode cX8_set 34 = .ok (.invokevirtual 92, 3) := by decide +kernel
theorem dX8_set_37 : decode cX8_set 37 = .ok (.ifCond .ne 9, 3) := by decide +kernel
theorem dX8_set_40 : decode cX8_set 40 = .ok (.aload_n 0, 1) := by decide +kernel
theorem dX8_set_41 : decode cX8_set 41 = .ok (.iconst 2, 1) := by decide +kernel
theorem dX8_set_42 : decode cX8_set 42 = .ok (.invokevirtual 78, 3) := by decide +kernel
theorem dX8_set_45 : decode cX8_set 45 = .ok (.ireturn, 1) := by decide +kernel
theorem dX8_set_46 : decode cX8_set 46 = .ok (.aload_n 0, 1) := by decide +kernel
theorem dX8_set_47 : decode cX8_set 47 = .ok (.aload_n 0, 1) := by decide +kernel
theorem dX8_set_48 : decode cX8_set 48 = .ok (.getfield 10, 3) := by decide +kernel
theorem dX8_set_51 : decode cX8_set 51 = .ok (.iload_n 1, 1) := by decide +kernel
theorem dX8_set_52 : decode cX8_set 52 = .ok (.iload_n 2, 1) := by decide +kernel
theorem dX8_set_53 : decode cX8_set 53 = .ok (.iload_n 3, 1) := by decide +kernel
theorem dX8_set_54 : decode cX8_set 54 = .ok (.invokevirtual 96, 3) := by decide +kernel
theorem dX8_set_57 : decode cX8_set 57 = .ok (.invokevirtual 86, 3) := by decide +kernel
theorem dX8_set_60 : decode cX8_set 60 = .ok (.ireturn, 1) := by decide +kernel
theorem dX8_copy_0 : decode cX8_copy 0 = .ok (.iload_n 1, 1) := by decide +kernel
theorem dX8_copy_1 : decode cX8_copy 1 = .ok (.invokestatic 73, 3) := by decide +kernel
theorem dX8_copy_4 : decode cX8_copy 4 = .ok (.ifCond .eq 10, 3) := by decide +kernel
theorem dX8_copy_7 : decode cX8_copy 7 = .ok (.iload_n 3, 1) := by decide +kernel
theorem dX8_copy_8 : decode cX8_copy 8 = .ok (.invokestatic 73, 3) := by decide +kernel
theorem dX8_copy_11 : decode cX8_copy 11 = .ok (.ifCond .ne 6, 3) := by decide +kernel
theorem dX8_copy_14 : decode cX8_copy 14 = .ok (.ldc 77, 2) := by decide +kernel
theorem dX8_copy_16 : decode cX8_copy 16 = .ok (.ireturn, 1) := by decide +kernel
theorem dX8_copy_17 : decode cX8_copy 17 = .ok (.aload_n 0, 1) := by decide +kernel
theorem dX8_copy_18 : decode cX8_copy 18 = .ok (.getfield 10, 3) := by decide +kernel
theorem dX8_copy_21 : decode cX8_copy 21 = .ok (.iload_n 1, 1) := by decide +kernel
theorem dX8_copy_22 : decode cX8_copy 22 = .ok (.invokevirtual 89, 3) := by decide +kernel
theorem dX8_copy_25 : decode cX8_copy 25 = .ok (.ifCond .ne 14, 3) := by decide +kernel
theorem dX8_copy_28 : decode cX8_copy 28 = .ok (.aload_n 0, 1) := by decide +kernel
theorem dX8_copy_29 : decode cX8_copy 29 = .ok (.getfield 10, 3) := by decide +kernel
theorem dX8_copy_32 : decode cX8_copy 32 = .ok (.iload_n 3, 1) := by decide +kernel
theorem dX8_copy_33 : decode cX8_copy 33 = .ok (.invokevirtual 89, 3) := by decide +kernel
theorem dX8_copy_36 : decode cX8_copy 36 = .ok (.ifCond .eq 9, 3) := by decide +kernel
theorem dX8_copy_39 : decode cX8_copy 39 = .ok (.aload_n 0, 1) := by decide +kernel
theorem dX8_copy_40 : decode cX8_copy 40 = .ok (.iconst 1, 1) := by decide +kernel
theorem dX8_copy_41 : decode cX8_copy 41 = .ok (.invokevirtual 78, 3) := by decide +kernel
theorem dX8_copy_44 : decode cX8_copy 44 = .ok (.ireturn, 1) := by decide +kernel
theorem dX8_copy_45 : decode cX8_copy 45 = .ok (.aload_n 0, 1) := by decide +kernel
theorem dX8_copy_46 : decode cX8_copy 46 = .ok (.getfield 10, 3) := by decide +kernel
theorem dX8_copy_49 : decode cX8_copy 49 = .ok (.getfield 100, 3) := by decide +kernel
theorem dX8_copy_52 : decode cX8_copy 52 = .ok (.iload_n 1, 1) := by decide +kernel
theorem dX8_copy_53 : decode cX8_copy 53 = .ok (.iaload, 1) := by decide +kernel
theorem dX8_copy_54 : decode cX8_copy 54 = .ok (.aload_n 0, 1) := by decide +kernel
theorem dX8_copy_55 : decode cX8_copy 55 = .ok (.getfield 10, 3) := by decide +kernel
theorem dX8_copy_58 : decode cX8_copy 58 = .ok (.getfield 100, 3) := by decide +kernel
theorem dX8_copy_61 : decode cX8_copy 61 = .ok (.iload_n 3, 1) := by decide +kernel
theorem dX8_copy_62 : decode cX8_copy 62 = .ok (.iaload, 1) := by decide +kernel
theorem dX8_copy_63 : decode cX8_copy 63 = .ok (.if_icmp .eq 9, 3) := by decide +kernel
theorem dX8_copy_66 : decode cX8_copy 66 = .ok (.aload_n 0, 1) := by decide +kernel
theorem dX8_copy_67 : decode cX8_copy 67 = .ok (.iconst 5, 1) := by decide +kernel
theorem dX8_copy_68 : decode cX8_copy 68 = .ok (.invokevirtual 78, 3) := by decide +kernel
theorem dX8_copy_71 : decode cX8_copy 71 = .ok (.ireturn, 1) := by decide +kernel
theorem dX8_copy_72 : decode cX8_copy 72 = .ok (.aload_n 0, 1) := by decide +kernel
theorem dX8_copy_73 : decode cX8_copy 73 = .ok (.getfield 10, 3) := by decide +kernel
theorem dX8_copy_76 : decode cX8_copy 76 = .ok (.iload_n 1, 1) := by decide +kernel
theorem dX8_copy_77 : decode cX8_copy 77 = .ok (.iload_n 2, 1) := by decide +kernel
theorem dX8_copy_78 : decode cX8_copy 78 = .ok (.iload 5, 2) := by decide +kernel
theorem dX8_copy_80 : decode cX8_copy 80 = .ok (.invokevirtual 92, 3) := by decide +kernel
theorem dX8_copy_83 : decode cX8_copy 83 = .ok (.ifCond .eq 18, 3) := by decide +kernel
theorem dX8_copy_86 : decode cX8_copy 86 = .ok (.aload_n 0, 1) := by decide +kernel
theorem dX8_copy_87 : decode cX8_copy 87 = .ok (.getfield 10, 3) := by decide +kernel
theorem dX8_copy_90 : decode cX8_copy 90 = .ok (.iload_n 3, 1) := by decide +kernel
theorem dX8_copy_91 : decode cX8_copy 91 = .ok (.iload 4, 2) := by decide +kernel
theorem dX8_copy_93 : decode cX8_copy 93 = .ok (.iload 5, 2) := by decide +kernel
theorem dX8_copy_95 : decode cX8_copy 95 = .ok (.invokevirtual 92, 3) := by decide +kernel
theorem dX8_copy_98 : decode cX8_copy 98 = .ok (.ifCond .ne 9, 3) := by decide +kernel
theorem dX8_copy_101 : decode cX8_copy 101 = .ok (.aload_n 0, 1) := by decide +kernel
theorem dX8_copy_102 : decode cX8_copy 102 = .ok (.iconst 2, 1) := by decide +kernel
theorem dX8_copy_103 : decode cX8_copy 103 = .ok (.invokevirtual 78, 3) := by decide +kernel
theorem dX8_copy_106 : decode cX8_copy 106 = .ok (.ireturn, 1) := by decide +kernel
theorem dX8_copy_107 : decode cX8_copy 107 = .ok (.aload_n 0, 1) := by decide +kernel
theorem dX8_copy_108 : decode cX8_copy 108 = .ok (.getfield 10, 3) := by decide +kernel
theorem dX8_copy_111 : decode cX8_copy 111 = .ok (.getfield 104, 3) := by decide +kernel
theorem dX8_copy_114 : decode cX8_copy 114 = .ok (.iload_n 1, 1) := by decide +kernel
theorem dX8_copy_115 : decode cX8_copy 115 = .ok (.aaload, 1) := by decide +kernel
theorem dX8_copy_116 : decode cX8_copy 116 = .ok (.iload_n 2, 1) := by decide +kernel
theorem dX8_copy_117 : decode cX8_copy 117 = .ok (.aload_n 0, 1) := by decide +kernel
theorem dX8_copy_118 : decode cX8_copy 118 = .ok (.getfield 10, 3) := by decide +kernel
theorem dX8_copy_121 : decode cX8_copy 121 = .ok (.getfield 104, 3) := by decide +kernel
theorem dX8_copy_124 : decode cX8_copy 124 = .ok (.iload_n 3, 1) := by decide +kernel
theorem dX8_copy_125 : decode cX8_copy 125 = .ok (.aaload, 1) := by decide +kernel
theorem dX8_copy_126 : decode cX8_copy 126 = .ok (.iload 4, 2) := by decide +kernel
theorem dX8_copy_128 : decode cX8_copy 128 = .ok (.iload 5, 2) := by decide +kernel
theorem dX8_copy_130 : decode cX8_copy 130 = .ok (.invokestatic 108, 3) := by decide +kernel
theorem dX8_copy_133 : decode cX8_copy 133 = .ok (.aload_n 0, 1) := by decide +kernel
theorem dX8_copy_134 : decode cX8_copy 134 = .ok (.iload 5, 2) := by decide +kernel
theorem dX8_copy_136 : decode cX8_copy 136 = .ok (.invokevirtual 86, 3) := by decide +kernel
theorem dX8_copy_139 : decode cX8_copy 139 = .ok (.ireturn, 1) := by decide +kernel
theorem dX8_drop_0 : decode cX8_drop 0 = .ok (.iload_n 1, 1) := by decide +kernel
theorem dX8_drop_1 : decode cX8_drop 1 = .ok (.invokestatic 73, 3) := by decide +kernel
theorem dX8_drop_4 : decode cX8_drop 4 = .ok (.ifCond .ne 6, 3) := by decide +kernel
theorem dX8_drop_7 : decode cX8_drop 7 = .ok (.ldc 77, 2) := by decide +kernel
theorem dX8_drop_9 : decode cX8_drop 9 = .ok (.ireturn, 1) := by decide +kernel
theorem dX8_drop_10 : decode cX8_drop 10 = .ok (.aload_n 0, 1) := by decide +kernel
theorem dX8_drop_11 : decode cX8_drop 11 = .ok (.getfield 10, 3) := by decide +kernel
theorem dX8_drop_14 : decode cX8_drop 14 = .ok (.iload_n 1, 1) := by decide +kernel
theorem dX8_drop_15 : decode cX8_drop 15 = .ok (.invokevirtual 89, 3) := by decide +kernel
theorem dX8_drop_18 : decode cX8_drop 18 = .ok (.ifCond .eq 9, 3) := by decide +kernel
theorem dX8_drop_21 : decode cX8_drop 21 = .ok (.aload_n 0, 1) := by decide +kernel
theorem dX8_drop_22 : decode cX8_drop 22 = .ok (.iconst 1, 1) := by decide +kernel
theorem dX8_drop_23 : decode cX8_drop 23 = .ok (.invokevirtual 78, 3) := by decide +kernel
theorem dX8_drop_26 : decode cX8_drop 26 = .ok (.ireturn, 1) := by decide +kernel
theorem dX8_drop_27 : decode cX8_drop 27 = .ok (.aload_n 0, 1) := by decide +kernel
theorem dX8_drop_28 : decode cX8_drop 28 = .ok (.aload_n 0, 1) := by decide +kernel
theorem dX8_drop_29 : decode cX8_drop 29 = .ok (.getfield 10, 3) := by decide +kernel
theorem dX8_drop_32 : decode cX8_drop 32 = .ok (.iload_n 1, 1) := by decide +kernel
theorem dX8_drop_33 : decode cX8_drop 33 = .ok (.invokevirtual 114, 3) := by decide +kernel
theorem dX8_drop_36 : decode cX8_drop 36 = .ok (.invokevirtual 86, 3) := by decide +kernel
theorem dX8_drop_39 : decode cX8_drop 39 = .ok (.ireturn, 1) := by decide +kernel
theorem dX8_feed_0 : decode cX8_feed 0 = .ok (.iload_n 1, 1) := by decide +kernel
theorem dX8_feed_1 : decode cX8_feed 1 = .ok (.ifCond .lt 10, 3) := by decide +kernel
theorem dX8_feed_4 : decode cX8_feed 4 = .ok (.iload_n 1, 1) := by decide +kernel
theorem dX8_feed_5 : decode cX8_feed 5 = .ok (.sipush 255, 3) := by decide +kernel
theorem dX8_feed_8 : decode cX8_feed 8 = .ok (.if_icmp .le 6, 3) := by decide +kernel
theorem dX8_feed_11 : decode cX8_feed 11 = .ok (.ldc 77, 2) := by decide +kernel
theorem dX8_feed_13 : decode cX8_feed 13 = .ok (.ireturn, 1) := by decide +kernel
theorem dX8_feed_14 : decode cX8_feed 14 = .ok (.aload_n 0, 1) := by decide +kernel
theorem dX8_feed_15 : decode cX8_feed 15 = .ok (.getfield 19, 3) := by decide +kernel
theorem dX8_feed_18 : decode cX8_feed 18 = .ok (.getfield 117, 3) := by decide +kernel
theorem dX8_feed_21 : decode cX8_feed 21 = .ok (.bipush 120, 2) := by decide +kernel
theorem dX8_feed_23 : decode cX8_feed 23 = .ok (.if_icmp .lt 6, 3) := by decide +kernel
theorem dX8_feed_26 : decode cX8_feed 26 = .ok (.ldc 120, 2) := by decide +kernel
theorem dX8_feed_28 : decode cX8_feed 28 = .ok (.ireturn, 1) := by decide +kernel
theorem dX8_feed_29 : decode cX8_feed 29 = .ok (.aload_n 0, 1) := by decide +kernel
theorem dX8_feed_30 : decode cX8_feed 30 = .ok (.getfield 19, 3) := by decide +kernel
theorem dX8_feed_33 : decode cX8_feed 33 = .ok (.iload_n 1, 1) := by decide +kernel
theorem dX8_feed_34 : decode cX8_feed 34 = .ok (.invokevirtual 121, 3) := by decide +kernel
theorem dX8_feed_37 : decode cX8_feed 37 = .ok (.ireturn, 1) := by decide +kernel
theorem dX8_town_0 : decode cX8_town 0 = .ok (.aload_n 0, 1) := by decide +kernel
theorem dX8_town_1 : decode cX8_town 1 = .ok (.getfield 19, 3) := by decide +kernel
theorem dX8_town_4 : decode cX8_town 4 = .ok (.aload_n 0, 1) := by decide +kernel
theorem dX8_town_5 : decode cX8_town 5 = .ok (.getfield 30, 3) := by decide +kernel
theorem dX8_town_8 : decode cX8_town 8 = .ok (.invokevirtual 124, 3) := by decide +kernel
theorem dX8_town_11 : decode cX8_town 11 = .ok (.istore_n 1, 1) := by decide +kernel
theorem dX8_town_12 : decode cX8_town 12 = .ok (.aload_n 0, 1) := by decide +kernel
theorem dX8_town_13 : decode cX8_town 13 = .ok (.getfield 19, 3) := by decide +kernel
theorem dX8_town_16 : decode cX8_town 16 = .ok (.iconst 0, 1) := by decide +kernel
theorem dX8_town_17 : decode cX8_town 17 = .ok (.putfield 117, 3) := by decide +kernel
theorem dX8_town_20 : decode cX8_town 20 = .ok (.iload_n 1, 1) := by decide +kernel
theorem dX8_town_21 : decode cX8_town 21 = .ok (.ifCond .ne 14, 3) := by decide +kernel
theorem dX8_town_24 : decode cX8_town 24 = .ok (.ldc 128, 2) := by decide +kernel
theorem dX8_town_26 : decode cX8_town 26 = .ok (.aload_n 0, 1) := by decide +kernel
theorem dX8_town_27 : decode cX8_town 27 = .ok (.getfield 19, 3) := by decide +kernel
theorem dX8_town_30 : decode cX8_town 30 = .ok (.getfield 129, 3) := by decide +kernel
theorem dX8_town_33 : decode cX8_town 33 = .ok (.isub, 1) := by decide +kernel
theorem dX8_town_34 : decode cX8_town 34 = .ok (.ireturn, 1) := by decide +kernel
theorem dX8_town_35 : decode cX8_town 35 = .ok (.aload_n 0, 1) := by decide +kernel
theorem dX8_town_36 : decode cX8_town 36 = .ok (.getfield 26, 3) := by decide +kernel
theorem dX8_town_39 : decode cX8_town 39 = .ok (.aload_n 0, 1) := by decide +kernel
theorem dX8_town_40 : decode cX8_town 40 = .ok (.getfield 30, 3) := by decide +kernel
theorem dX8_town_43 : decode cX8_town 43 = .ok (.invokevirtual 132, 3) := by decide +kernel
theorem dX8_town_46 : decode cX8_town 46 = .ok (.aload_n 0, 1) := by decide +kernel
theorem dX8_town_47 : decode cX8_town 47 = .ok (.getfield 40, 3) := by decide +kernel
theorem dX8_town_50 : decode cX8_town 50 = .ok (.invokevirtual 135, 3) := by decide +kernel
theorem dX8_town_53 : decode cX8_town 53 = .ok (.aload_n 0, 1) := by decide +kernel
theorem dX8_town_54 : decode cX8_town 54 = .ok (.getfield 26, 3) := by decide +kernel
theorem dX8_town_57 : decode cX8_town 57 = .ok (.getfield 138, 3) := by decide +kernel
theorem dX8_town_60 : decode cX8_town 60 = .ok (.ireturn, 1) := by decide +kernel
theorem dX8_fault_0 : decode cX8_fault 0 = .ok (.aload_n 0, 1) := by decide +kernel
theorem dX8_fault_1 : decode cX8_fault 1 = .ok (.getfield 19, 3) := by decide +kernel
theorem dX8_fault_4 : decode cX8_fault 4 = .ok (.getfield 141, 3) := by decide +kernel
theorem dX8_fault_7 : decode cX8_fault 7 = .ok (.ireturn, 1) := by decide +kernel
theorem dX8_undo_0 : decode cX8_undo 0 = .ok (.aload_n 0, 1) := by decide +kernel
theorem dX8_undo_1 : decode cX8_undo 1 = .ok (.getfield 40, 3) := by decide +kernel
theorem dX8_undo_4 : decode cX8_undo 4 = .ok (.getfield 144, 3) := by decide +kernel
theorem dX8_undo_7 : decode cX8_undo 7 = .ok (.ifCond .ne 6, 3) := by decide +kernel
theorem dX8_undo_10 : decode cX8_undo 10 = .ok (.ldc 147, 2) := by decide +kernel
theorem dX8_undo_12 : decode cX8_undo 12 = .ok (.ireturn, 1) := by decide +kernel
theorem dX8_undo_13 : decode cX8_undo 13 = .ok (.aload_n 0, 1) := by decide +kernel
theorem dX8_undo_14 : decode cX8_undo 14 = .ok (.getfield 40, 3) := by decide +kernel
theorem dX8_undo_17 : decode cX8_undo 17 = .ok (.aload_n 0, 1) := by decide +kernel
theorem dX8_undo_18 : decode cX8_undo 18 = .ok (.getfield 26, 3) := by decide +kernel
theorem dX8_undo_21 : decode cX8_undo 21 = .ok (.getfield 148, 3) := by decide +kernel
theorem dX8_undo_24 : decode cX8_undo 24 = .ok (.invokevirtual 152, 3) := by decide +kernel
theorem dX8_undo_27 : decode cX8_undo 27 = .ok (.aload_n 0, 1) := by decide +kernel
theorem dX8_undo_28 : decode cX8_undo 28 = .ok (.getfield 40, 3) := by decide +kernel
theorem dX8_undo_31 : decode cX8_undo 31 = .ok (.getfield 144, 3) := by decide +kernel
theorem dX8_undo_34 : decode cX8_undo 34 = .ok (.ireturn, 1) := by decide +kernel
theorem dX8_brew_0 : decode cX8_brew 0 = .ok (.aload_n 0, 1) := by decide +kernel
theorem dX8_brew_1 : decode cX8_brew 1 = .ok (.iload_n 1, 1) := by decide +kernel
theorem dX8_brew_2 : decode cX8_brew 2 = .ok (.invokevirtual 156, 3) := by decide +kernel
theorem dX8_brew_5 : decode cX8_brew 5 = .ok (.ifCond .eq 13, 3) := by decide +kernel
theorem dX8_brew_8 : decode cX8_brew 8 = .ok (.iload_n 2, 1) := by decide +kernel
theorem dX8_brew_9 : decode cX8_brew 9 = .ok (.ifCond .lt 9, 3) := by decide +kernel
theorem dX8_brew_12 : decode cX8_brew 12 = .ok (.iload_n 2, 1) := by decide +kernel
theorem dX8_brew_13 : decode cX8_brew 13 = .ok (.bipush 20, 2) := by decide +kernel
theorem dX8_brew_15 : decode cX8_brew 15 = .ok (.if_icmp .le 6, 3) := by decide +kernel
theorem dX8_brew_18 : decode cX8_brew 18 = .ok (.ldc 77, 2) := by decide +kernel
theorem dX8_brew_20 : decode cX8_brew 20 = .ok (.ireturn, 1) := by decide +kernel
theorem dX8_brew_21 : decode cX8_brew 21 = .ok (.aload_n 0, 1) := by decide +kernel
theorem dX8_brew_22 : decode cX8_brew 22 = .ok (.getfield 26, 3) := by decide +kernel
theorem dX8_brew_25 : decode cX8_brew 25 = .ok (.getfield 148, 3) := by decide +kernel
theorem dX8_brew_28 : decode cX8_brew 28 = .ok (.invokevirtual 159, 3) := by decide +kernel
theorem dX8_brew_31 : decode cX8_brew 31 = .ok (.istore_n 3, 1) := by decide +kernel
theorem dX8_brew_32 : decode cX8_brew 32 = .ok (.iload_n 3, 1) := by decide +kernel
theorem dX8_brew_33 : decode cX8_brew 33 = .ok (.ldc 165, 2) := by decide +kernel
theorem dX8_brew_35 : decode cX8_brew 35 = .ok (.if_icmp .ne 6, 3) := by decide +kernel
theorem dX8_brew_38 : decode cX8_brew 38 = .ok (.ldc 120, 2) := by decide +kernel
theorem dX8_brew_40 : decode cX8_brew 40 = .ok (.ireturn, 1) := by decide +kernel
theorem dX8_brew_41 : decode cX8_brew 41 = .ok (.aload_n 0, 1) := by decide +kernel
theorem dX8_brew_42 : decode cX8_brew 42 = .ok (.getfield 40, 3) := by decide +kernel
theorem dX8_brew_45 : decode cX8_brew 45 = .ok (.aload_n 0, 1) := by decide +kernel
theorem dX8_brew_46 : decode cX8_brew 46 = .ok (.getfield 26, 3) := by decide +kernel
theorem dX8_brew_49 : decode cX8_brew 49 = .ok (.getfield 148, 3) := by decide +kernel
theorem dX8_brew_52 : decode cX8_brew 52 = .ok (.invokevirtual 166, 3) := by decide +kernel
theorem dX8_brew_55 : decode cX8_brew 55 = .ok (.aload_n 0, 1) := by decide +kernel
theorem dX8_brew_56 : decode cX8_brew 56 = .ok (.getfield 26, 3) := by decide +kernel
theorem dX8_brew_59 : decode cX8_brew 59 = .ok (.getfield 148, 3) := by decide +kernel
theorem dX8_brew_62 : decode cX8_brew 62 = .ok (.iload_n 3, 1) := by decide +kernel
theorem dX8_brew_63 : decode cX8_brew 63 = .ok (.iload_n 1, 1) := by decide +kernel
theorem dX8_brew_64 : decode cX8_brew 64 = .ok (.iload_n 2, 1) := by decide +kernel
theorem dX8_brew_65 : decode cX8_brew 65 = .ok (.invokevirtual 169, 3) := by decide +kernel
theorem dX8_brew_68 : decode cX8_brew 68 = .ok (.iload_n 3, 1) := by decide +kernel
theorem dX8_brew_69 : decode cX8_brew 69 = .ok (.ireturn, 1) := by decide +kernel
theorem dX8_days_0 : decode cX8_days 0 = .ok (.aload_n 0, 1) := by decide +kernel
theorem dX8_days_1 : decode cX8_days 1 = .ok (.invokevirtual 172, 3) := by decide +kernel
theorem dX8_days_4 : decode cX8_days 4 = .ok (.ifCond .ne 6, 3) := by decide +kernel
theorem dX8_days_7 : decode cX8_days 7 = .ok (.ldc 147, 2) := by decide +kernel
theorem dX8_days_9 : decode cX8_days 9 = .ok (.ireturn, 1) := by decide +kernel
theorem dX8_days_10 : decode cX8_days 10 = .ok (.iload_n 1, 1) := by decide +kernel
theorem dX8_days_11 : decode cX8_days 11 = .ok (.iconst 1, 1) := by decide +kernel
theorem dX8_days_12 : decode cX8_days 12 = .ok (.if_icmp .lt 9, 3) := by decide +kernel
theorem dX8_days_15 : decode cX8_days 15 = .ok (.iload_n 1, 1) := by decide +kernel
theorem dX8_days_16 : decode cX8_days 16 = .ok (.bipush 24, 2) := by decide +kernel
theorem dX8_days_18 : decode cX8_days 18 = .ok (.if_icmp .le 6, 3) := by decide +kernel
theorem dX8_days_21 : decode cX8_days 21 = .ok (.ldc 77, 2) := by decide +kernel
theorem dX8_days_23 : decode cX8_days 23 = .ok (.ireturn, 1) := by decide +kernel
theorem dX8_days_24 : decode cX8_days 24 = .ok (.aload_n 0, 1) := by decide +kernel
theorem dX8_days_25 : decode cX8_days 25 = .ok (.getfield 26, 3) := by decide +kernel
theorem dX8_days_28 : decode cX8_days 28 = .ok (.getfield 148, 3) := by decide +kernel
theorem dX8_days_31 : decode cX8_days 31 = .ok (.invokevirtual 176, 3) := by decide +kernel
theorem dX8_days_34 : decode cX8_days 34 = .ok (.iload_n 1, 1) := by decide +kernel
theorem dX8_days_35 : decode cX8_days 35 = .ok (.iadd, 1) := by decide +kernel
theorem dX8_days_36 : decode cX8_days 36 = .ok (.sipush 999, 3) := by decide +kernel
theorem dX8_days_39 : decode cX8_days 39 = .ok (.if_icmp .le 6, 3) := by decide +kernel
theorem dX8_days_42 : decode cX8_days 42 = .ok (.ldc 120, 2) := by decide +kernel
theorem dX8_days_44 : decode cX8_days 44 = .ok (.ireturn, 1) := by decide +kernel
theorem dX8_days_45 : decode cX8_days 45 = .ok (.iconst 0, 1) := by decide +kernel
theorem dX8_days_46 : decode cX8_days 46 = .ok (.istore_n 2, 1) := by decide +kernel
theorem dX8_days_47 : decode cX8_days 47 = .ok (.iload_n 2, 1) := by decide +kernel
theorem dX8_days_48 : decode cX8_days 48 = .ok (.iload_n 1, 1) := by decide +kernel
theorem dX8_days_49 : decode cX8_days 49 = .ok (.if_icmp .ge 33, 3) := by decide +kernel
theorem dX8_days_52 : decode cX8_days 52 = .ok (.aload_n 0, 1) := by decide +kernel
theorem dX8_days_53 : decode cX8_days 53 = .ok (.getfield 40, 3) := by decide +kernel
theorem dX8_days_56 : decode cX8_days 56 = .ok (.aload_n 0, 1) := by decide +kernel
theorem dX8_days_57 : decode cX8_days 57 = .ok (.getfield 26, 3) := by decide +kernel
theorem dX8_days_60 : decode cX8_days 60 = .ok (.getfield 148, 3) := by decide +kernel
theorem dX8_days_63 : decode cX8_days 63 = .ok (.invokevirtual 166, 3) := by decide +kernel
theorem dX8_days_66 : decode cX8_days 66 = .ok (.aload_n 0, 1) := by decide +kernel
theorem dX8_days_67 : decode cX8_days 67 = .ok (.getfield 26, 3) := by decide +kernel
theorem dX8_days_70 : decode cX8_days 70 = .ok (.getfield 148, 3) := by decide +kernel
theorem dX8_days_73 : decode cX8_days 73 = .ok (.invokevirtual 179, 3) := by decide +kernel
theorem dX8_days_76 : decode cX8_days 76 = .ok (.iinc 2 1, 3) := by decide +kernel
theorem dX8_days_79 : decode cX8_days 79 = .ok (.goto (-32), 3) := by decide +kernel
theorem dX8_days_82 : decode cX8_days 82 = .ok (.aload_n 0, 1) := by decide +kernel
theorem dX8_days_83 : decode cX8_days 83 = .ok (.getfield 26, 3) := by decide +kernel
theorem dX8_days_86 : decode cX8_days 86 = .ok (.invokevirtual 182, 3) := by decide +kernel
theorem dX8_days_89 : decode cX8_days 89 = .ok (.ireturn, 1) := by decide +kernel
theorem dX8_tap_0 : decode cX8_tap 0 = .ok (.iload_n 1, 1) := by decide +kernel
theorem dX8_tap_1 : decode cX8_tap 1 = .ok (.invokestatic 185, 3) := by decide +kernel
theorem dX8_tap_4 : decode cX8_tap 4 = .ok (.ifCond .eq 11, 3) := by decide +kernel
theorem dX8_tap_7 : decode cX8_tap 7 = .ok (.aload_n 0, 1) := by decide +kernel
theorem dX8_tap_8 : decode cX8_tap 8 = .ok (.iload_n 2, 1) := by decide +kernel
theorem dX8_tap_9 : decode cX8_tap 9 = .ok (.invokevirtual 156, 3) := by decide +kernel
theorem dX8_tap_12 : decode cX8_tap 12 = .ok (.ifCond .ne 6, 3) := by decide +kernel
theorem dX8_tap_15 : decode cX8_tap 15 = .ok (.ldc 77, 2) := by decide +kernel
theorem dX8_tap_17 : decode cX8_tap 17 = .ok (.ireturn, 1) := by decide +kernel
theorem dX8_tap_18 : decode cX8_tap 18 = .ok (.aload_n 0, 1) := by decide +kernel
theorem dX8_tap_19 : decode cX8_tap 19 = .ok (.getfield 26, 3) := by decide +kernel
theorem dX8_tap_22 : decode cX8_tap 22 = .ok (.getfield 148, 3) := by decide +kernel
theorem dX8_tap_25 : decode cX8_tap 25 = .ok (.iload_n 1, 1) := by decide +kernel
theorem dX8_tap_26 : decode cX8_tap 26 = .ok (.invokevirtual 188, 3) := by decide +kernel
theorem dX8_tap_29 : decode cX8_tap 29 = .ok (.ifCond .eq 6, 3) := by decide +kernel
theorem dX8_tap_32 : decode cX8_tap 32 = .ok (.ldc 147, 2) := by decide +kernel
theorem dX8_tap_34 : decode cX8_tap 34 = .ok (.ireturn, 1) := by decide +kernel
theorem dX8_tap_35 : decode cX8_tap 35 = .ok (.aload_n 0, 1) := by decide +kernel
theorem dX8_tap_36 : decode cX8_tap 36 = .ok (.getfield 40, 3) := by decide +kernel
theorem dX8_tap_39 : decode cX8_tap 39 = .ok (.aload_n 0, 1) := by decide +kernel
theorem dX8_tap_40 : decode cX8_tap 40 = .ok (.getfield 26, 3) := by decide +kernel
theorem dX8_tap_43 : decode cX8_tap 43 = .ok (.getfield 148, 3) := by decide +kernel
theorem dX8_tap_46 : decode cX8_tap 46 = .ok (.invokevirtual 166, 3) := by decide +kernel
theorem dX8_tap_49 : decode cX8_tap 49 = .ok (.aload_n 0, 1) := by decide +kernel
theorem dX8_tap_50 : decode cX8_tap 50 = .ok (.getfield 49, 3) := by decide +kernel
theorem dX8_tap_53 : decode cX8_tap 53 = .ok (.aload_n 0, 1) := by decide +kernel
theorem dX8_tap_54 : decode cX8_tap 54 = .ok (.getfield 26, 3) := by decide +kernel
theorem dX8_tap_57 : decode cX8_tap 57 = .ok (.getfield 148, 3) := by decide +kernel
theorem dX8_tap_60 : decode cX8_tap 60 = .ok (.iload_n 1, 1) := by decide +kernel
theorem dX8_tap_61 : decode cX8_tap 61 = .ok (.iload_n 2, 1) := by decide +kernel
theorem dX8_tap_62 : decode cX8_tap 62 = .ok (.invokevirtual 189, 3) := by decide +kernel
theorem dX8_tap_65 : decode cX8_tap 65 = .ok (.ireturn, 1) := by decide +kernel
theorem dX8_water_0 : decode cX8_water 0 = .ok (.iload_n 1, 1) := by decide +kernel
theorem dX8_water_1 : decode cX8_water 1 = .ok (.invokestatic 185, 3) := by decide +kernel
theorem dX8_water_4 : decode cX8_water 4 = .ok (.ifCond .ne 6, 3) := by decide +kernel
theorem dX8_water_7 : decode cX8_water 7 = .ok (.ldc 77, 2) := by decide +kernel
theorem dX8_water_9 : decode cX8_water 9 = .ok (.ireturn, 1) := by decide +kernel
theorem dX8_water_10 : decode cX8_water 10 = .ok (.aload_n 0, 1) := by decide +kernel
theorem dX8_water_11 : decode cX8_water 11 = .ok (.getfield 26, 3) := by decide +kernel
theorem dX8_water_14 : decode cX8_water 14 = .ok (.getfield 148, 3) := by decide +kernel
theorem dX8_water_17 : decode cX8_water 17 = .ok (.iload_n 1, 1) := by decide +kernel
theorem dX8_water_18 : decode cX8_water 18 = .ok (.invokevirtual 188, 3) := by decide +kernel
theorem dX8_water_21 : decode cX8_water 21 = .ok (.ifCond .eq 6, 3) := by decide +kernel
theorem dX8_water_24 : decode cX8_water 24 = .ok (.ldc 147, 2) := by decide +kernel
theorem dX8_water_26 : decode cX8_water 26 = .ok (.ireturn, 1) := by decide +kernel
theorem dX8_water_27 : decode cX8_water 27 = .ok (.aload_n 0, 1) := by decide +kernel
theorem dX8_water_28 : decode cX8_water 28 = .ok (.getfield 40, 3) := by decide +kernel
theorem dX8_water_31 : decode cX8_water 31 = .ok (.aload_n 0, 1) := by decide +kernel
theorem dX8_water_32 : decode cX8_water 32 = .ok (.getfield 26, 3) := by decide +kernel
theorem dX8_water_35 : decode cX8_water 35 = .ok (.getfield 148, 3) := by decide +kernel
theorem dX8_water_38 : decode cX8_water 38 = .ok (.invokevirtual 166, 3) := by decide +kernel
theorem dX8_water_41 : decode cX8_water 41 = .ok (.aload_n 0, 1) := by decide +kernel
theorem dX8_water_42 : decode cX8_water 42 = .ok (.getfield 26, 3) := by decide +kernel
theorem dX8_water_45 : decode cX8_water 45 = .ok (.getfield 148, 3) := by decide +kernel
theorem dX8_water_48 : decode cX8_water 48 = .ok (.iload_n 1, 1) := by decide +kernel
theorem dX8_water_49 : decode cX8_water 49 = .ok (.invokevirtual 193, 3) := by decide +kernel
theorem dX8_water_52 : decode cX8_water 52 = .ok (.iconst 2, 1) := by decide +kernel
theorem dX8_water_53 : decode cX8_water 53 = .ok (.idiv, 1) := by decide +kernel
theorem dX8_water_54 : decode cX8_water 54 = .ok (.istore_n 2, 1) := by decide +kernel
theorem dX8_water_55 : decode cX8_water 55 = .ok (.aload_n 0, 1) := by decide +kernel
theorem dX8_water_56 : decode cX8_water 56 = .ok (.getfield 26, 3) := by decide +kernel
theorem dX8_water_59 : decode cX8_water 59 = .ok (.getfield 148, 3) := by decide +kernel
theorem dX8_water_62 : decode cX8_water 62 = .ok (.iload_n 1, 1) := by decide +kernel
theorem dX8_water_63 : decode cX8_water 63 = .ok (.iload_n 2, 1) := by decide +kernel
theorem dX8_water_64 : decode cX8_water 64 = .ok (.invokevirtual 196, 3) := by decide +kernel
theorem dX8_water_67 : decode cX8_water 67 = .ok (.iload_n 2, 1) := by decide +kernel
theorem dX8_water_68 : decode cX8_water 68 = .ok (.ireturn, 1) := by decide +kernel
theorem dX8_blend_0 : decode cX8_blend 0 = .ok (.iload_n 1, 1) := by decide +kernel
theorem dX8_blend_1 : decode cX8_blend 1 = .ok (.invokestatic 185, 3) := by decide +kernel
theorem dX8_blend_4 : decode cX8_blend 4 = .ok (.ifCond .eq 15, 3) := by decide +kernel
theorem dX8_blend_7 : decode cX8_blend 7 = .ok (.iload_n 2, 1) := by decide +kernel
theorem dX8_blend_8 : decode cX8_blend 8 = .ok (.invokestatic 185, 3) := by decide +kernel
theorem dX8_blend_11 : decode cX8_blend 11 = .ok (.ifCond .eq 8, 3) := by decide +kernel
theorem dX8_blend_14 : decode cX8_blend 14 = .ok (.iload_n 1, 1) := by decide +kernel
theorem dX8_blend_15 : decode cX8_blend 15 = .ok (.iload_n 2, 1) := by decide +kernel
theorem dX8_blend_16 : decode cX8_blend 16 = .ok (.if_icmp .ne 6, 3) := by decide +kernel
theorem dX8_blend_19 : decode cX8_blend 19 = .ok (.ldc 77, 2) := by decide +kernel
theorem dX8_blend_21 : decode cX8_blend 21 = .ok (.ireturn, 1) := by decide +kernel
theorem dX8_blend_22 : decode cX8_blend 22 = .ok (.aload_n 0, 1) := by decide +kernel
theorem dX8_blend_23 : decode cX8_blend 23 = .ok (.getfield 26, 3) := by decide +kernel
theorem dX8_blend_26 : decode cX8_blend 26 = .ok (.getfield 148, 3) := by decide +kernel
theorem dX8_blend_29 : decode cX8_blend 29 = .ok (.iload_n 1, 1) := by decide +kernel
theorem dX8_blend_30 : decode cX8_blend 30 = .ok (.invokevirtual 188, 3) := by decide +kernel
theorem dX8_blend_33 : decode cX8_blend 33 = .ok (.ifCond .ne 17, 3) := by decide +kernel
theorem dX8_blend_36 : decode cX8_blend 36 = .ok (.aload_n 0, 1) := by decide +kernel
theorem dX8_blend_37 : decode cX8_blend 37 = .ok (.getfield 26, 3) := by decide +kernel
theorem dX8_blend_40 : decode cX8_blend 40 = .ok (.getfield 148, 3) := by decide +kernel
theorem dX8_blend_43 : decode cX8_blend 43 = .ok (.iload_n 2, 1) := by decide +kernel
theorem dX8_blend_44 : decode cX8_blend 44 = .ok (.invokevirtual 188, 3) := by decide +kernel
theorem dX8_blend_47 : decode cX8_blend 47 = .ok (.ifCond .eq 6, 3) := by decide +kernel
theorem dX8_blend_50 : decode cX8_blend 50 = .ok (.ldc 147, 2) := by decide +kernel
theorem dX8_blend_52 : decode cX8_blend 52 = .ok (.ireturn, 1) := by decide +kernel
theorem dX8_blend_53 : decode cX8_blend 53 = .ok (.aload_n 0, 1) := by decide +kernel
theorem dX8_blend_54 : decode cX8_blend 54 = .ok (.getfield 40, 3) := by decide +kernel
theorem dX8_blend_57 : decode cX8_blend 57 = .ok (.aload_n 0, 1) := by decide +kernel
theorem dX8_blend_58 : decode cX8_blend 58 = .ok (.getfield 26, 3) := by decide +kernel
theorem dX8_blend_61 : decode cX8_blend 61 = .ok (.getfield 148, 3) := by decide +kernel
theorem dX8_blend_64 : decode cX8_blend 64 = .ok (.invokevirtual 166, 3) := by decide +kernel
theorem dX8_blend_67 : decode cX8_blend 67 = .ok (.aload_n 0, 1) := by decide +kernel
theorem dX8_blend_68 : decode cX8_blend 68 = .ok (.getfield 26, 3) := by decide +kernel
theorem dX8_blend_71 : decode cX8_blend 71 = .ok (.getfield 148, 3) := by decide +kernel
theorem dX8_blend_74 : decode cX8_blend 74 = .ok (.iload_n 1, 1) := by decide +kernel
theorem dX8_blend_75 : decode cX8_blend 75 = .ok (.iload_n 2, 1) := by decide +kernel
theorem dX8_blend_76 : decode cX8_blend 76 = .ok (.invokevirtual 200, 3) := by decide +kernel
theorem dX8_blend_79 : decode cX8_blend 79 = .ok (.istore_n 3, 1) := by decide +kernel
theorem dX8_blend_80 : decode cX8_blend 80 = .ok (.aload_n 0, 1) := by decide +kernel
theorem dX8_blend_81 : decode cX8_blend 81 = .ok (.getfield 26, 3) := by decide +kernel
theorem dX8_blend_84 : decode cX8_blend 84 = .ok (.getfield 148, 3) := by decide +kernel
theorem dX8_blend_87 : decode cX8_blend 87 = .ok (.iload_n 2, 1) := by decide +kernel
theorem dX8_blend_88 : decode cX8_blend 88 = .ok (.iload_n 3, 1) := by decide +kernel
theorem dX8_blend_89 : decode cX8_blend 89 = .ok (.invokevirtual 196, 3) := by decide +kernel
theorem dX8_blend_92 : decode cX8_blend 92 = .ok (.aload_n 0, 1) := by decide +kernel
theorem dX8_blend_93 : decode cX8_blend 93 = .ok (.getfield 26, 3) := by decide +kernel
theorem dX8_blend_96 : decode cX8_blend 96 = .ok (.getfield 148, 3) := by decide +kernel
theorem dX8_blend_99 : decode cX8_blend 99 = .ok (.iload_n 1, 1) := by decide +kernel
theorem dX8_blend_100 : decode cX8_blend 100 = .ok (.invokevirtual 204, 3) := by decide +kernel
theorem dX8_blend_103 : decode cX8_blend 103 = .ok (.iload_n 3, 1) := by decide +kernel
theorem dX8_blend_104 : decode cX8_blend 104 = .ok (.ireturn, 1) := by decide +kernel
theorem dX8_cask_0 : decode cX8_cask 0 = .ok (.iload_n 1, 1) := by decide +kernel
theorem dX8_cask_1 : decode cX8_cask 1 = .ok (.invokestatic 185, 3) := by decide +kernel
theorem dX8_cask_4 : decode cX8_cask 4 = .ok (.ifCond .eq 12, 3) := by decide +kernel
theorem dX8_cask_7 : decode cX8_cask 7 = .ok (.iload_n 2, 1) := by decide +kernel
theorem dX8_cask_8 : decode cX8_cask 8 = .ok (.ifCond .lt 8, 3) := by decide +kernel
theorem dX8_cask_11 : decode cX8_cask 11 = .ok (.iload_n 2, 1) := by decide +kernel
theorem dX8_cask_12 : decode cX8_cask 12 = .ok (.iconst 4, 1) := by decide +kernel
theorem dX8_cask_13 : decode cX8_cask 13 = .ok (.if_icmp .le 6, 3) := by decide +kernel
theorem dX8_cask_16 : decode cX8_cask 16 = .ok (.ldc 77, 2) := by decide +kernel
theorem dX8_cask_18 : decode cX8_cask 18 = .ok (.ireturn, 1) := by decide +kernel
theorem dX8_cask_19 : decode cX8_cask 19 = .ok (.aload_n 0, 1) := by decide +kernel
theorem dX8_cask_20 : decode cX8_cask 20 = .ok (.getfield 26, 3) := by decide +kernel
theorem dX8_cask_23 : decode cX8_cask 23 = .ok (.getfield 148, 3) := by decide +kernel
theorem dX8_cask_26 : decode cX8_cask 26 = .ok (.iload_n 1, 1) := by decide +kernel
theorem dX8_cask_27 : decode cX8_cask 27 = .ok (.invokevirtual 188, 3) := by decide +kernel
theorem dX8_cask_30 : decode cX8_cask 30 = .ok (.ifCond .eq 6, 3) := by decide +kernel
theorem dX8_cask_33 : decode cX8_cask 33 = .ok (.ldc 165, 2) := by decide +kernel
theorem dX8_cask_35 : decode cX8_cask 35 = .ok (.ireturn, 1) := by decide +kernel
theorem dX8_cask_36 : decode cX8_cask 36 = .ok (.iload_n 2, 1) := by decide +kernel
theorem dX8_cask_37 : decode cX8_cask 37 = .ok (.tableswitch 76 0 3 #[31, 43, 55, 67], 31) := by decide +kernel
theorem dX8_cask_68 : decode cX8_cask 68 = .ok (.aload_n 0, 1) := by decide +kernel
theorem dX8_cask_69 : decode cX8_cask 69 = .ok (.getfield 26, 3) := by decide +kernel
theorem dX8_cask_72 : decode cX8_cask 72 = .ok (.getfield 148, 3) := by decide +kernel
theorem dX8_cask_75 : decode cX8_cask 75 = .ok (.iload_n 1, 1) := by decide +kernel
theorem dX8_cask_76 : decode cX8_cask 76 = .ok (.invokevirtual 207, 3) := by decide +kernel
theorem dX8_cask_79 : decode cX8_cask 79 = .ok (.ireturn, 1) := by decide +kernel
theorem dX8_cask_80 : decode cX8_cask 80 = .ok (.aload_n 0, 1) := by decide +kernel
theorem dX8_cask_81 : decode cX8_cask 81 = .ok (.getfield 26, 3) := by decide +kernel
theorem dX8_cask_84 : decode cX8_cask 84 = .ok (.getfield 148, 3) := by decide +kernel
theorem dX8_cask_87 : decode cX8_cask 87 = .ok (.iload_n 1, 1) := by decide +kernel
theorem dX8_cask_88 : decode cX8_cask 88 = .ok (.invokevirtual 193, 3) := by decide +kernel
theorem dX8_cask_91 : decode cX8_cask 91 = .ok (.ireturn, 1) := by decide +kernel
theorem dX8_cask_92 : decode cX8_cask 92 = .ok (.aload_n 0, 1) := by decide +kernel
theorem dX8_cask_93 : decode cX8_cask 93 = .ok (.getfield 26, 3) := by decide +kernel
theorem dX8_cask_96 : decode cX8_cask 96 = .ok (.getfield 148, 3) := by decide +kernel
theorem dX8_cask_99 : decode cX8_cask 99 = .ok (.iload_n 1, 1) := by decide +kernel
theorem dX8_cask_100 : decode cX8_cask 100 = .ok (.invokevirtual 210, 3) := by decide +kernel
theorem dX8_cask_103 : decode cX8_cask 103 = .ok (.ireturn, 1) := by decide +kernel
theorem dX8_cask_104 : decode cX8_cask 104 = .ok (.aload_n 0, 1) := by decide +kernel
theorem dX8_cask_105 : decode cX8_cask 105 = .ok (.getfield 26, 3) := by decide +kernel
theorem dX8_cask_108 : decode cX8_cask 108 = .ok (.iload_n 1, 1) := by decide +kernel
theorem dX8_cask_109 : decode cX8_cask 109 = .ok (.invokevirtual 213, 3) := by decide +kernel
theorem dX8_cask_112 : decode cX8_cask 112 = .ok (.ireturn, 1) := by decide +kernel
theorem dX8_cask_113 : decode cX8_cask 113 = .ok (.aload_n 0, 1) := by decide +kernel
theorem dX8_cask_114 : decode cX8_cask 114 = .ok (.getfield 26, 3) := by decide +kernel
theorem dX8_cask_117 : decode cX8_cask 117 = .ok (.aload_n 0, 1) := by decide +kernel
theorem dX8_cask_118 : decode cX8_cask 118 = .ok (.getfield 26, 3) := by decide +kernel
theorem dX8_cask_121 : decode cX8_cask 121 = .ok (.getfield 148, 3) := by decide +kernel
theorem dX8_cask_124 : decode cX8_cask 124 = .ok (.iload_n 1, 1) := by decide +kernel
theorem dX8_cask_125 : decode cX8_cask 125 = .ok (.invokevirtual 210, 3) := by decide +kernel
theorem dX8_cask_128 : decode cX8_cask 128 = .ok (.invokevirtual 216, 3) := by decide +kernel
theorem dX8_cask_131 : decode cX8_cask 131 = .ok (.ifCond .eq 7, 3) := by decide +kernel
theorem dX8_cask_134 : decode cX8_cask 134 = .ok (.iconst 1, 1) := by decide +kernel
theorem dX8_cask_135 : decode cX8_cask 135 = .ok (.goto 4, 3) := by decide +kernel
theorem dX8_cask_138 : decode cX8_cask 138 = .ok (.iconst 0, 1) := by decide +kernel
theorem dX8_cask_139 : decode cX8_cask 139 = .ok (.ireturn, 1) := by decide +kernel
theorem dX8_drinker_0 : decode cX8_drinker 0 = .ok (.aload_n 0, 1) := by decide +kernel
theorem dX8_drinker_1 : decode cX8_drinker 1 = .ok (.iload_n 1, 1) := by decide +kernel
theorem dX8_drinker_2 : decode cX8_drinker 2 = .ok (.invokevirtual 156, 3) := by decide +kernel
theorem dX8_drinker_5 : decode cX8_drinker 5 = .ok (.ifCond .eq 12, 3) := by decide +kernel
theorem dX8_drinker_8 : decode cX8_drinker 8 = .ok (.iload_n 2, 1) := by decide +kernel
theorem dX8_drinker_9 : decode cX8_drinker 9 = .ok (.ifCond .lt 8, 3) := by decide +kernel
theorem dX8_drinker_12 : decode cX8_drinker 12 = .ok (.iload_n 2, 1) := by decide +kernel
theorem dX8_drinker_13 : decode cX8_drinker 13 = .ok (.iconst 2, 1) := by decide +kernel
theorem dX8_drinker_14 : decode cX8_drinker 14 = .ok (.if_icmp .le 6, 3) := by decide +kernel
theorem dX8_drinker_17 : decode cX8_drinker 17 = .ok (.ldc 77, 2) := by decide +kernel
theorem dX8_drinker_19 : decode cX8_drinker 19 = .ok (.ireturn, 1) := by decide +kernel
theorem dX8_drinker_20 : decode cX8_drinker 20 = .ok (.iload_n 2, 1) := by decide +kernel
theorem dX8_drinker_21 : decode cX8_drinker 21 = .ok (.lookupswitch 47 #[(0, 27), (1, 37)], 27) := by decide +kernel
theorem dX8_drinker_48 : decode cX8_drinker 48 = .ok (.aload_n 0, 1) := by decide +kernel
theorem dX8_drinker_49 : decode cX8_drinker 49 = .ok (.getfield 26, 3) := by decide +kernel
theorem dX8_drinker_52 : decode cX8_drinker 52 = .ok (.getfield 219, 3) := by decide +kernel
theorem dX8_drinker_55 : decode cX8_drinker 55 = .ok (.iload_n 1, 1) := by decide +kernel
theorem dX8_drinker_56 : decode cX8_drinker 56 = .ok (.iaload, 1) := by decide +kernel
theorem dX8_drinker_57 : decode cX8_drinker 57 = .ok (.ireturn, 1) := by decide +kernel
theorem dX8_drinker_58 : decode cX8_drinker 58 = .ok (.aload_n 0, 1) := by decide +kernel
theorem dX8_drinker_59 : decode cX8_drinker 59 = .ok (.getfield 26, 3) := by decide +kernel
theorem dX8_drinker_62 : decode cX8_drinker 62 = .ok (.getfield 222, 3) := by decide +kernel
theorem dX8_drinker_65 : decode cX8_drinker 65 = .ok (.iload_n 1, 1) := by decide +kernel
theorem dX8_drinker_66 : decode cX8_drinker 66 = .ok (.iaload, 1) := by decide +kernel
theorem dX8_drinker_67 : decode cX8_drinker 67 = .ok (.ireturn, 1) := by decide +kernel
theorem dX8_drinker_68 : decode cX8_drinker 68 = .ok (.aload_n 0, 1) := by decide +kernel
theorem dX8_drinker_69 : decode cX8_drinker 69 = .ok (.getfield 26, 3) := by decide +kernel
theorem dX8_drinker_72 : decode cX8_drinker 72 = .ok (.iload_n 1, 1) := by decide +kernel
theorem dX8_drinker_73 : decode cX8_drinker 73 = .ok (.invokevirtual 225, 3) := by decide +kernel
theorem dX8_drinker_76 : decode cX8_drinker 76 = .ok (.ireturn, 1) := by decide +kernel
theorem dX8_rumour_0 : decode cX8_rumour 0 = .ok (.aload_n 0, 1) := by decide +kernel
theorem dX8_rumour_1 : decode cX8_rumour 1 = .ok (.iload_n 1, 1) := by decide +kernel
theorem dX8_rumour_2 : decode cX8_rumour 2 = .ok (.invokevirtual 156, 3) := by decide +kernel
theorem dX8_rumour_5 : decode cX8_rumour 5 = .ok (.ifCond .eq 17, 3) := by decide +kernel
theorem dX8_rumour_8 : decode cX8_rumour 8 = .ok (.aload_n 0, 1) := by decide +kernel
theorem dX8_rumour_9 : decode cX8_rumour 9 = .ok (.getfield 26, 3) := by decide +kernel
theorem dX8_rumour_12 : decode cX8_rumour 12 = .ok (.getfield 148, 3) := by decide +kernel
theorem dX8_rumour_15 : decode cX8_rumour 15 = .ok (.iload_n 1, 1) := by decide +kernel
theorem dX8_rumour_16 : decode cX8_rumour 16 = .ok (.invokevirtual 228, 3) := by decide +kernel
theorem dX8_rumour_19 : decode cX8_rumour 19 = .ok (.goto 5, 3) := by decide +kernel
theorem dX8_rumour_22 : decode cX8_rumour 22 = .ok (.ldc 77, 2) := by decide +kernel
theorem dX8_rumour_24 : decode cX8_rumour 24 = .ok (.ireturn, 1) := by decide +kernel
theorem dX8_telling_0 : decode cX8_telling 0 = .ok (.iload_n 1, 1) := by decide +kernel
theorem dX8_telling_1 : decode cX8_telling 1 = .ok (.invokestatic 185, 3) := by decide +kernel
theorem dX8_telling_4 : decode cX8_telling 4 = .ok (.ifCond .eq 24, 3) := by decide +kernel
theorem dX8_telling_7 : decode cX8_telling 7 = .ok (.iload_n 2, 1) := by decide +kernel
theorem dX8_telling_8 : decode cX8_telling 8 = .ok (.ifCond .eq 20, 3) := by decide +kernel
theorem dX8_telling_11 : decode cX8_telling 11 = .ok (.aload_n 0, 1) := by decide +kernel
theorem dX8_telling_12 : decode cX8_telling 12 = .ok (.iload_n 2, 1) := by decide +kernel
theorem dX8_telling_13 : decode cX8_telling 13 = .ok (.invokevirtual 231, 3) := by decide +kernel
theorem dX8_telling_16 : decode cX8_telling 16 = .ok (.ifCond .eq 12, 3) := by decide +kernel
theorem dX8_telling_19 : decode cX8_telling 19 = .ok (.iload_n 3, 1) := by decide +kernel
theorem dX8_telling_20 : decode cX8_telling 20 = .ok (.ifCond .lt 8, 3) := by decide +kernel
theorem dX8_telling_23 : decode cX8_telling 23 = .ok (.iload_n 3, 1) := by decide +kernel
theorem dX8_telling_24 : decode cX8_telling 24 = .ok (.iconst 3, 1) := by decide +kernel
theorem dX8_telling_25 : decode cX8_telling 25 = .ok (.if_icmp .le 6, 3) := by decide +kernel
theorem dX8_telling_28 : decode cX8_telling 28 = .ok (.ldc 77, 2) := by decide +kernel
theorem dX8_telling_30 : decode cX8_telling 30 = .ok (.ireturn, 1) := by decide +kernel
theorem dX8_telling_31 : decode cX8_telling 31 = .ok (.aload_n 0, 1) := by decide +kernel
theorem dX8_telling_32 : decode cX8_telling 32 = .ok (.getfield 26, 3) := by decide +kernel
theorem dX8_telling_35 : decode cX8_telling 35 = .ok (.getfield 148, 3) := by decide +kernel
theorem dX8_telling_38 : decode cX8_telling 38 = .ok (.iload_n 1, 1) := by decide +kernel
theorem dX8_telling_39 : decode cX8_telling 39 = .ok (.invokevirtual 188, 3) := by decide +kernel
theorem dX8_telling_42 : decode cX8_telling 42 = .ok (.ifCond .eq 6, 3) := by decide +kernel
theorem dX8_telling_45 : decode cX8_telling 45 = .ok (.ldc 147, 2) := by decide +kernel
theorem dX8_telling_47 : decode cX8_telling 47 = .ok (.ireturn, 1) := by decide +kernel
theorem dX8_telling_48 : decode cX8_telling 48 = .ok (.aload_n 0, 1) := by decide +kernel
theorem dX8_telling_49 : decode cX8_telling 49 = .ok (.getfield 49, 3) := by decide +kernel
theorem dX8_telling_52 : decode cX8_telling 52 = .ok (.invokevirtual 234, 3) := by decide +kernel
theorem dX8_telling_55 : decode cX8_telling 55 = .ok (.aload_n 0, 1) := by decide +kernel
theorem dX8_telling_56 : decode cX8_telling 56 = .ok (.getfield 49, 3) := by decide +kernel
theorem dX8_telling_59 : decode cX8_telling 59 = .ok (.iload_n 1, 1) := by decide +kernel
theorem dX8_telling_60 : decode cX8_telling 60 = .ok (.iload_n 2, 1) := by decide +kernel
theorem dX8_telling_61 : decode cX8_telling 61 = .ok (.invokevirtual 237, 3) := by decide +kernel
theorem dX8_telling_64 : decode cX8_telling 64 = .ok (.iload_n 3, 1) := by decide +kernel
theorem dX8_telling_65 : decode cX8_telling 65 = .ok (.tableswitch 51 0 2 #[27, 35, 43], 27) := by decide +kernel
theorem dX8_telling_92 : decode cX8_telling 92 = .ok (.aload_n 0, 1) := by decide +kernel
theorem dX8_telling_93 : decode cX8_telling 93 = .ok (.getfield 49, 3) := by decide +kernel
theorem dX8_telling_96 : decode cX8_telling 96 = .ok (.getfield 240, 3) := by decide +kernel
theorem dX8_telling_99 : decode cX8_telling 99 = .ok (.ireturn, 1) := by decide +kernel
theorem dX8_telling_100 : decode cX8_telling 100 = .ok (.aload_n 0, 1) := by decide +kernel
theorem dX8_telling_101 : decode cX8_telling 101 = .ok (.getfield 49, 3) := by decide +kernel
theorem dX8_telling_104 : decode cX8_telling 104 = .ok (.getfield 243, 3) := by decide +kernel
theorem dX8_telling_107 : decode cX8_telling 107 = .ok (.ireturn, 1) := by decide +kernel
theorem dX8_telling_108 : decode cX8_telling 108 = .ok (.aload_n 0, 1) := by decide +kernel
theorem dX8_telling_109 : decode cX8_telling 109 = .ok (.getfield 49, 3) := by decide +kernel
theorem dX8_telling_112 : decode cX8_telling 112 = .ok (.getfield 246, 3) := by decide +kernel
theorem dX8_telling_115 : decode cX8_telling 115 = .ok (.ireturn, 1) := by decide +kernel
theorem dX8_telling_116 : decode cX8_telling 116 = .ok (.aload_n 0, 1) := by decide +kernel
theorem dX8_telling_117 : decode cX8_telling 117 = .ok (.getfield 26, 3) := by decide +kernel
theorem dX8_telling_120 : decode cX8_telling 120 = .ok (.getfield 249, 3) := by decide +kernel
theorem dX8_telling_123 : decode cX8_telling 123 = .ok (.aload_n 0, 1) := by decide +kernel
theorem dX8_telling_124 : decode cX8_telling 124 = .ok (.getfield 49, 3) := by decide +kernel
theorem dX8_telling_127 : decode cX8_telling 127 = .ok (.getfield 243, 3) := by decide +kernel
theorem dX8_telling_130 : decode cX8_telling 130 = .ok (.invokestatic 252, 3) := by decide +kernel
theorem dX8_telling_133 : decode cX8_telling 133 = .ok (.imul, 1) := by decide +kernel
theorem dX8_telling_134 : decode cX8_telling 134 = .ok (.ireturn, 1) := by decide +kernel
theorem dX8_fewest_0 : decode cX8_fewest 0 = .ok (.iload_n 1, 1) := by decide +kernel
theorem dX8_fewest_1 : decode cX8_fewest 1 = .ok (.invokestatic 185, 3) := by decide +kernel
theorem dX8_fewest_4 : decode cX8_fewest 4 = .ok (.ifCond .eq 33, 3) := by decide +kernel
theorem dX8_fewest_7 : decode cX8_fewest 7 = .ok (.aload_n 0, 1) := by decide +kernel
theorem dX8_fewest_8 : decode cX8_fewest 8 = .ok (.iload_n 2, 1) := by decide +kernel
end
section
theorem dX8_fewest_9 : decode cX8_fewest 9 = .ok (.invokevirtual 231, 3) := by decide +kernel
theorem dX8_fewest_12 : decode cX8_fewest 12 = .ok (.ifCond .eq 25, 3) := by decide +kernel
theorem dX8_fewest_15 : decode cX8_fewest 15 = .ok (.aload_n 0, 1) := by decide +kernel
theorem dX8_fewest_16 : decode cX8_fewest 16 = .ok (.iload_n 3, 1) := by decide +kernel
theorem dX8_fewest_17 : decode cX8_fewest 17 = .ok (.invokevirtual 231, 3) := by decide +kernel
theorem dX8_fewest_20 : decode cX8_fewest 20 = .ok (.ifCond .eq 17, 3) := by decide +kernel
theorem dX8_fewest_23 : decode cX8_fewest 23 = .ok (.iload_n 2, 1) := by decide +kernel
theorem dX8_fewest_24 : decode cX8_fewest 24 = .ok (.iload_n 3, 1) := by decide +kernel
theorem dX8_fewest_25 : decode cX8_fewest 25 = .ok (.iand, 1) := by decide +kernel
theorem dX8_fewest_26 : decode cX8_fewest 26 = .ok (.ifCond .ne 11, 3) := by decide +kernel
theorem dX8_fewest_29 : decode cX8_fewest 29 = .ok (.iload 4, 2) := by decide +kernel
theorem dX8_fewest_31 : decode cX8_fewest 31 = .ok (.invokestatic 257, 3) := by decide +kernel
theorem dX8_fewest_34 : decode cX8_fewest 34 = .ok (.ifCond .ne 6, 3) := by decide +kernel
theorem dX8_fewest_37 : decode cX8_fewest 37 = .ok (.ldc 77, 2) := by decide +kernel
theorem dX8_fewest_39 : decode cX8_fewest 39 = .ok (.ireturn, 1) := by decide +kernel
theorem dX8_fewest_40 : decode cX8_fewest 40 = .ok (.aload_n 0, 1) := by decide +kernel
theorem dX8_fewest_41 : decode cX8_fewest 41 = .ok (.getfield 26, 3) := by decide +kernel
theorem dX8_fewest_44 : decode cX8_fewest 44 = .ok (.getfield 148, 3) := by decide +kernel
theorem dX8_fewest_47 : decode cX8_fewest 47 = .ok (.iload_n 1, 1) := by decide +kernel
theorem dX8_fewest_48 : decode cX8_fewest 48 = .ok (.invokevirtual 188, 3) := by decide +kernel
theorem dX8_fewest_51 : decode cX8_fewest 51 = .ok (.ifCond .eq 6, 3) := by decide +kernel
theorem dX8_fewest_54 : decode cX8_fewest 54 = .ok (.ldc 147, 2) := by decide +kernel
theorem dX8_fewest_56 : decode cX8_fewest 56 = .ok (.ireturn, 1) := by decide +kernel
theorem dX8_fewest_57 : decode cX8_fewest 57 = .ok (.aload_n 0, 1) := by decide +kernel
theorem dX8_fewest_58 : decode cX8_fewest 58 = .ok (.getfield 58, 3) := by decide +kernel
theorem dX8_fewest_61 : decode cX8_fewest 61 = .ok (.iload_n 1, 1) := by decide +kernel
theorem dX8_fewest_62 : decode cX8_fewest 62 = .ok (.iload_n 2, 1) := by decide +kernel
theorem dX8_fewest_63 : decode cX8_fewest 63 = .ok (.iload_n 3, 1) := by decide +kernel
theorem dX8_fewest_64 : decode cX8_fewest 64 = .ok (.invokevirtual 260, 3) := by decide +kernel
theorem dX8_fewest_67 : decode cX8_fewest 67 = .ok (.iload 4, 2) := by decide +kernel
theorem dX8_fewest_69 : decode cX8_fewest 69 = .ok (.invokestatic 263, 3) := by decide +kernel
theorem dX8_fewest_72 : decode cX8_fewest 72 = .ok (.ireturn, 1) := by decide +kernel
theorem dX8_silence_0 : decode cX8_silence 0 = .ok (.iload_n 1, 1) := by decide +kernel
theorem dX8_silence_1 : decode cX8_silence 1 = .ok (.invokestatic 185, 3) := by decide +kernel
theorem dX8_silence_4 : decode cX8_silence 4 = .ok (.ifCond .eq 20, 3) := by decide +kernel
theorem dX8_silence_7 : decode cX8_silence 7 = .ok (.aload_n 0, 1) := by decide +kernel
theorem dX8_silence_8 : decode cX8_silence 8 = .ok (.iload_n 2, 1) := by decide +kernel
theorem dX8_silence_9 : decode cX8_silence 9 = .ok (.iload_n 3, 1) := by decide +kernel
theorem dX8_silence_10 : decode cX8_silence 10 = .ok (.invokevirtual 266, 3) := by decide +kernel
theorem dX8_silence_13 : decode cX8_silence 13 = .ok (.ifCond .eq 11, 3) := by decide +kernel
theorem dX8_silence_16 : decode cX8_silence 16 = .ok (.iload 4, 2) := by decide +kernel
theorem dX8_silence_18 : decode cX8_silence 18 = .ok (.invokestatic 257, 3) := by decide +kernel
theorem dX8_silence_21 : decode cX8_silence 21 = .ok (.ifCond .ne 6, 3) := by decide +kernel
theorem dX8_silence_24 : decode cX8_silence 24 = .ok (.ldc 77, 2) := by decide +kernel
theorem dX8_silence_26 : decode cX8_silence 26 = .ok (.ireturn, 1) := by decide +kernel
theorem dX8_silence_27 : decode cX8_silence 27 = .ok (.aload_n 0, 1) := by decide +kernel
theorem dX8_silence_28 : decode cX8_silence 28 = .ok (.getfield 26, 3) := by decide +kernel
theorem dX8_silence_31 : decode cX8_silence 31 = .ok (.getfield 148, 3) := by decide +kernel
theorem dX8_silence_34 : decode cX8_silence 34 = .ok (.iload_n 1, 1) := by decide +kernel
theorem dX8_silence_35 : decode cX8_silence 35 = .ok (.invokevirtual 188, 3) := by decide +kernel
theorem dX8_silence_38 : decode cX8_silence 38 = .ok (.ifCond .eq 6, 3) := by decide +kernel
theorem dX8_silence_41 : decode cX8_silence 41 = .ok (.ldc 147, 2) := by decide +kernel
theorem dX8_silence_43 : decode cX8_silence 43 = .ok (.ireturn, 1) := by decide +kernel
theorem dX8_silence_44 : decode cX8_silence 44 = .ok (.aload_n 0, 1) := by decide +kernel
theorem dX8_silence_45 : decode cX8_silence 45 = .ok (.getfield 58, 3) := by decide +kernel
theorem dX8_silence_48 : decode cX8_silence 48 = .ok (.iload_n 1, 1) := by decide +kernel
theorem dX8_silence_49 : decode cX8_silence 49 = .ok (.iload_n 2, 1) := by decide +kernel
theorem dX8_silence_50 : decode cX8_silence 50 = .ok (.iload_n 3, 1) := by decide +kernel
theorem dX8_silence_51 : decode cX8_silence 51 = .ok (.invokevirtual 270, 3) := by decide +kernel
theorem dX8_silence_54 : decode cX8_silence 54 = .ok (.iload 4, 2) := by decide +kernel
theorem dX8_silence_56 : decode cX8_silence 56 = .ok (.invokestatic 263, 3) := by decide +kernel
theorem dX8_silence_59 : decode cX8_silence 59 = .ok (.ireturn, 1) := by decide +kernel
theorem dX8_malts_0 : decode cX8_malts 0 = .ok (.iload_n 1, 1) := by decide +kernel
theorem dX8_malts_1 : decode cX8_malts 1 = .ok (.invokestatic 185, 3) := by decide +kernel
theorem dX8_malts_4 : decode cX8_malts 4 = .ok (.ifCond .eq 23, 3) := by decide +kernel
theorem dX8_malts_7 : decode cX8_malts 7 = .ok (.iload_n 2, 1) := by decide +kernel
theorem dX8_malts_8 : decode cX8_malts 8 = .ok (.invokestatic 73, 3) := by decide +kernel
theorem dX8_malts_11 : decode cX8_malts 11 = .ok (.ifCond .eq 16, 3) := by decide +kernel
theorem dX8_malts_14 : decode cX8_malts 14 = .ok (.iload 4, 2) := by decide +kernel
theorem dX8_malts_16 : decode cX8_malts 16 = .ok (.iconst 1, 1) := by decide +kernel
theorem dX8_malts_17 : decode cX8_malts 17 = .ok (.if_icmp .lt 10, 3) := by decide +kernel
theorem dX8_malts_20 : decode cX8_malts 20 = .ok (.iload 4, 2) := by decide +kernel
theorem dX8_malts_22 : decode cX8_malts 22 = .ok (.bipush 6, 2) := by decide +kernel
theorem dX8_malts_24 : decode cX8_malts 24 = .ok (.if_icmp .le 6, 3) := by decide +kernel
theorem dX8_malts_27 : decode cX8_malts 27 = .ok (.ldc 77, 2) := by decide +kernel
theorem dX8_malts_29 : decode cX8_malts 29 = .ok (.ireturn, 1) := by decide +kernel
theorem dX8_malts_30 : decode cX8_malts 30 = .ok (.aload_n 0, 1) := by decide +kernel
theorem dX8_malts_31 : decode cX8_malts 31 = .ok (.iload_n 1, 1) := by decide +kernel
theorem dX8_malts_32 : decode cX8_malts 32 = .ok (.iload_n 2, 1) := by decide +kernel
theorem dX8_malts_33 : decode cX8_malts 33 = .ok (.iload_n 3, 1) := by decide +kernel
theorem dX8_malts_34 : decode cX8_malts 34 = .ok (.iload 4, 2) := by decide +kernel
theorem dX8_malts_36 : decode cX8_malts 36 = .ok (.invokevirtual 273, 3) := by decide +kernel
theorem dX8_malts_39 : decode cX8_malts 39 = .ok (.istore 5, 2) := by decide +kernel
theorem dX8_malts_41 : decode cX8_malts 41 = .ok (.iload 5, 2) := by decide +kernel
theorem dX8_malts_43 : decode cX8_malts 43 = .ok (.ifCond .eq 8, 3) := by decide +kernel
theorem dX8_malts_46 : decode cX8_malts 46 = .ok (.iload 5, 2) := by decide +kernel
theorem dX8_malts_48 : decode cX8_malts 48 = .ok (.goto 27, 3) := by decide +kernel
theorem dX8_malts_51 : decode cX8_malts 51 = .ok (.aload_n 0, 1) := by decide +kernel
theorem dX8_malts_52 : decode cX8_malts 52 = .ok (.aload_n 0, 1) := by decide +kernel
theorem dX8_malts_53 : decode cX8_malts 53 = .ok (.getfield 58, 3) := by decide +kernel
theorem dX8_malts_56 : decode cX8_malts 56 = .ok (.iload_n 1, 1) := by decide +kernel
theorem dX8_malts_57 : decode cX8_malts 57 = .ok (.aload_n 0, 1) := by decide +kernel
theorem dX8_malts_58 : decode cX8_malts 58 = .ok (.getfield 10, 3) := by decide +kernel
theorem dX8_malts_61 : decode cX8_malts 61 = .ok (.getfield 104, 3) := by decide +kernel
theorem dX8_malts_64 : decode cX8_malts 64 = .ok (.iload_n 2, 1) := by decide +kernel
theorem dX8_malts_65 : decode cX8_malts 65 = .ok (.aaload, 1) := by decide +kernel
theorem dX8_malts_66 : decode cX8_malts 66 = .ok (.iload_n 3, 1) := by decide +kernel
theorem dX8_malts_67 : decode cX8_malts 67 = .ok (.iload 4, 2) := by decide +kernel
theorem dX8_malts_69 : decode cX8_malts 69 = .ok (.invokevirtual 277, 3) := by decide +kernel
theorem dX8_malts_72 : decode cX8_malts 72 = .ok (.invokevirtual 86, 3) := by decide +kernel
theorem dX8_malts_75 : decode cX8_malts 75 = .ok (.ireturn, 1) := by decide +kernel
theorem dX8_who_0 : decode cX8_who 0 = .ok (.aload_n 0, 1) := by decide +kernel
theorem dX8_who_1 : decode cX8_who 1 = .ok (.iload_n 1, 1) := by decide +kernel
theorem dX8_who_2 : decode cX8_who 2 = .ok (.invokevirtual 156, 3) := by decide +kernel
theorem dX8_who_5 : decode cX8_who 5 = .ok (.ifCond .eq 30, 3) := by decide +kernel
theorem dX8_who_8 : decode cX8_who 8 = .ok (.iload_n 2, 1) := by decide +kernel
theorem dX8_who_9 : decode cX8_who 9 = .ok (.invokestatic 185, 3) := by decide +kernel
theorem dX8_who_12 : decode cX8_who 12 = .ok (.ifCond .eq 23, 3) := by decide +kernel
theorem dX8_who_15 : decode cX8_who 15 = .ok (.iload_n 3, 1) := by decide +kernel
theorem dX8_who_16 : decode cX8_who 16 = .ok (.invokestatic 73, 3) := by decide +kernel
theorem dX8_who_19 : decode cX8_who 19 = .ok (.ifCond .eq 16, 3) := by decide +kernel
theorem dX8_who_22 : decode cX8_who 22 = .ok (.iload 5, 2) := by decide +kernel
theorem dX8_who_24 : decode cX8_who 24 = .ok (.iconst 1, 1) := by decide +kernel
theorem dX8_who_25 : decode cX8_who 25 = .ok (.if_icmp .lt 10, 3) := by decide +kernel
theorem dX8_who_28 : decode cX8_who 28 = .ok (.iload 5, 2) := by decide +kernel
theorem dX8_who_30 : decode cX8_who 30 = .ok (.bipush 6, 2) := by decide +kernel
theorem dX8_who_32 : decode cX8_who 32 = .ok (.if_icmp .le 6, 3) := by decide +kernel
theorem dX8_who_35 : decode cX8_who 35 = .ok (.ldc 77, 2) := by decide +kernel
theorem dX8_who_37 : decode cX8_who 37 = .ok (.ireturn, 1) := by decide +kernel
theorem dX8_who_38 : decode cX8_who 38 = .ok (.aload_n 0, 1) := by decide +kernel
theorem dX8_who_39 : decode cX8_who 39 = .ok (.iload_n 2, 1) := by decide +kernel
theorem dX8_who_40 : decode cX8_who 40 = .ok (.iload_n 3, 1) := by decide +kernel
theorem dX8_who_41 : decode cX8_who 41 = .ok (.iload 4, 2) := by decide +kernel
theorem dX8_who_43 : decode cX8_who 43 = .ok (.iload 5, 2) := by decide +kernel
theorem dX8_who_45 : decode cX8_who 45 = .ok (.invokevirtual 273, 3) := by decide +kernel
theorem dX8_who_48 : decode cX8_who 48 = .ok (.istore 6, 2) := by decide +kernel
theorem dX8_who_50 : decode cX8_who 50 = .ok (.iload 6, 2) := by decide +kernel
theorem dX8_who_52 : decode cX8_who 52 = .ok (.ifCond .eq 8, 3) := by decide +kernel
theorem dX8_who_55 : decode cX8_who 55 = .ok (.iload 6, 2) := by decide +kernel
theorem dX8_who_57 : decode cX8_who 57 = .ok (.goto 29, 3) := by decide +kernel
theorem dX8_who_60 : decode cX8_who 60 = .ok (.aload_n 0, 1) := by decide +kernel
theorem dX8_who_61 : decode cX8_who 61 = .ok (.aload_n 0, 1) := by decide +kernel
theorem dX8_who_62 : decode cX8_who 62 = .ok (.getfield 58, 3) := by decide +kernel
theorem dX8_who_65 : decode cX8_who 65 = .ok (.iload_n 1, 1) := by decide +kernel
theorem dX8_who_66 : decode cX8_who 66 = .ok (.iload_n 2, 1) := by decide +kernel
theorem dX8_who_67 : decode cX8_who 67 = .ok (.aload_n 0, 1) := by decide +kernel
theorem dX8_who_68 : decode cX8_who 68 = .ok (.getfield 10, 3) := by decide +kernel
theorem dX8_who_71 : decode cX8_who 71 = .ok (.getfield 104, 3) := by decide +kernel
theorem dX8_who_74 : decode cX8_who 74 = .ok (.iload_n 3, 1) := by decide +kernel
theorem dX8_who_75 : decode cX8_who 75 = .ok (.aaload, 1) := by decide +kernel
theorem dX8_who_76 : decode cX8_who 76 = .ok (.iload 4, 2) := by decide +kernel
theorem dX8_who_78 : decode cX8_who 78 = .ok (.iload 5, 2) := by decide +kernel
theorem dX8_who_80 : decode cX8_who 80 = .ok (.invokevirtual 281, 3) := by decide +kernel
theorem dX8_who_83 : decode cX8_who 83 = .ok (.invokevirtual 86, 3) := by decide +kernel
theorem dX8_who_86 : decode cX8_who 86 = .ok (.ireturn, 1) := by decide +kernel
theorem dX8_goesOff_0 : decode cX8_goesOff 0 = .ok (.iload_n 1, 1) := by decide +kernel
theorem dX8_goesOff_1 : decode cX8_goesOff 1 = .ok (.invokestatic 185, 3) := by decide +kernel
theorem dX8_goesOff_4 : decode cX8_goesOff 4 = .ok (.ifCond .eq 10, 3) := by decide +kernel
theorem dX8_goesOff_7 : decode cX8_goesOff 7 = .ok (.iload_n 2, 1) := by decide +kernel
theorem dX8_goesOff_8 : decode cX8_goesOff 8 = .ok (.invokestatic 257, 3) := by decide +kernel
theorem dX8_goesOff_11 : decode cX8_goesOff 11 = .ok (.ifCond .ne 6, 3) := by decide +kernel
theorem dX8_goesOff_14 : decode cX8_goesOff 14 = .ok (.ldc 77, 2) := by decide +kernel
theorem dX8_goesOff_16 : decode cX8_goesOff 16 = .ok (.ireturn, 1) := by decide +kernel
theorem dX8_goesOff_17 : decode cX8_goesOff 17 = .ok (.aload_n 0, 1) := by decide +kernel
theorem dX8_goesOff_18 : decode cX8_goesOff 18 = .ok (.getfield 26, 3) := by decide +kernel
theorem dX8_goesOff_21 : decode cX8_goesOff 21 = .ok (.getfield 148, 3) := by decide +kernel
theorem dX8_goesOff_24 : decode cX8_goesOff 24 = .ok (.iload_n 1, 1) := by decide +kernel
theorem dX8_goesOff_25 : decode cX8_goesOff 25 = .ok (.invokevirtual 188, 3) := by decide +kernel
theorem dX8_goesOff_28 : decode cX8_goesOff 28 = .ok (.ifCond .eq 6, 3) := by decide +kernel
theorem dX8_goesOff_31 : decode cX8_goesOff 31 = .ok (.ldc 147, 2) := by decide +kernel
theorem dX8_goesOff_33 : decode cX8_goesOff 33 = .ok (.ireturn, 1) := by decide +kernel
theorem dX8_goesOff_34 : decode cX8_goesOff 34 = .ok (.iload_n 2, 1) := by decide +kernel
theorem dX8_goesOff_35 : decode cX8_goesOff 35 = .ok (.ifCond .ne 15, 3) := by decide +kernel
theorem dX8_goesOff_38 : decode cX8_goesOff 38 = .ok (.aload_n 0, 1) := by decide +kernel
theorem dX8_goesOff_39 : decode cX8_goesOff 39 = .ok (.getfield 26, 3) := by decide +kernel
theorem dX8_goesOff_42 : decode cX8_goesOff 42 = .ok (.getfield 285, 3) := by decide +kernel
theorem dX8_goesOff_45 : decode cX8_goesOff 45 = .ok (.iconst 1, 1) := by decide +kernel
theorem dX8_goesOff_46 : decode cX8_goesOff 46 = .ok (.iadd, 1) := by decide +kernel
theorem dX8_goesOff_47 : decode cX8_goesOff 47 = .ok (.goto 10, 3) := by decide +kernel
theorem dX8_goesOff_50 : decode cX8_goesOff 50 = .ok (.aload_n 0, 1) := by decide +kernel
theorem dX8_goesOff_51 : decode cX8_goesOff 51 = .ok (.getfield 26, 3) := by decide +kernel
theorem dX8_goesOff_54 : decode cX8_goesOff 54 = .ok (.getfield 288, 3) := by decide +kernel
theorem dX8_goesOff_57 : decode cX8_goesOff 57 = .ok (.istore_n 3, 1) := by decide +kernel
theorem dX8_goesOff_58 : decode cX8_goesOff 58 = .ok (.iconst 0, 1) := by decide +kernel
theorem dX8_goesOff_59 : decode cX8_goesOff 59 = .ok (.iload_n 3, 1) := by decide +kernel
theorem dX8_goesOff_60 : decode cX8_goesOff 60 = .ok (.aload_n 0, 1) := by decide +kernel
theorem dX8_goesOff_61 : decode cX8_goesOff 61 = .ok (.getfield 26, 3) := by decide +kernel
theorem dX8_goesOff_64 : decode cX8_goesOff 64 = .ok (.getfield 148, 3) := by decide +kernel
theorem dX8_goesOff_67 : decode cX8_goesOff 67 = .ok (.iload_n 1, 1) := by decide +kernel
theorem dX8_goesOff_68 : decode cX8_goesOff 68 = .ok (.invokevirtual 210, 3) := by decide +kernel
theorem dX8_goesOff_71 : decode cX8_goesOff 71 = .ok (.isub, 1) := by decide +kernel
theorem dX8_goesOff_72 : decode cX8_goesOff 72 = .ok (.invokestatic 291, 3) := by decide +kernel
theorem dX8_goesOff_75 : decode cX8_goesOff 75 = .ok (.ireturn, 1) := by decide +kernel
theorem dX8_best_0 : decode cX8_best 0 = .ok (.iload_n 1, 1) := by decide +kernel
theorem dX8_best_1 : decode cX8_best 1 = .ok (.invokestatic 185, 3) := by decide +kernel
theorem dX8_best_4 : decode cX8_best 4 = .ok (.ifCond .eq 10, 3) := by decide +kernel
theorem dX8_best_7 : decode cX8_best 7 = .ok (.iload_n 2, 1) := by decide +kernel
theorem dX8_best_8 : decode cX8_best 8 = .ok (.invokestatic 257, 3) := by decide +kernel
theorem dX8_best_11 : decode cX8_best 11 = .ok (.ifCond .ne 6, 3) := by decide +kernel
theorem dX8_best_14 : decode cX8_best 14 = .ok (.ldc 77, 2) := by decide +kernel
theorem dX8_best_16 : decode cX8_best 16 = .ok (.ireturn, 1) := by decide +kernel
theorem dX8_best_17 : decode cX8_best 17 = .ok (.aload_n 0, 1) := by decide +kernel
theorem dX8_best_18 : decode cX8_best 18 = .ok (.getfield 26, 3) := by decide +kernel
theorem dX8_best_21 : decode cX8_best 21 = .ok (.getfield 148, 3) := by decide +kernel
theorem dX8_best_24 : decode cX8_best 24 = .ok (.iload_n 1, 1) := by decide +kernel
theorem dX8_best_25 : decode cX8_best 25 = .ok (.invokevirtual 188, 3) := by decide +kernel
theorem dX8_best_28 : decode cX8_best 28 = .ok (.ifCond .eq 6, 3) := by decide +kernel
theorem dX8_best_31 : decode cX8_best 31 = .ok (.ldc 147, 2) := by decide +kernel
theorem dX8_best_33 : decode cX8_best 33 = .ok (.ireturn, 1) := by decide +kernel
theorem dX8_best_34 : decode cX8_best 34 = .ok (.aload_n 0, 1) := by decide +kernel
theorem dX8_best_35 : decode cX8_best 35 = .ok (.getfield 58, 3) := by decide +kernel
theorem dX8_best_38 : decode cX8_best 38 = .ok (.iload_n 1, 1) := by decide +kernel
theorem dX8_best_39 : decode cX8_best 39 = .ok (.invokevirtual 296, 3) := by decide +kernel
theorem dX8_best_42 : decode cX8_best 42 = .ok (.istore_n 3, 1) := by decide +kernel
theorem dX8_best_43 : decode cX8_best 43 = .ok (.iload_n 2, 1) := by decide +kernel
theorem dX8_best_44 : decode cX8_best 44 = .ok (.ifCond .ne 7, 3) := by decide +kernel
theorem dX8_best_47 : decode cX8_best 47 = .ok (.iload_n 3, 1) := by decide +kernel
theorem dX8_best_48 : decode cX8_best 48 = .ok (.goto 12, 3) := by decide +kernel
theorem dX8_best_51 : decode cX8_best 51 = .ok (.aload_n 0, 1) := by decide +kernel
theorem dX8_best_52 : decode cX8_best 52 = .ok (.getfield 58, 3) := by decide +kernel
theorem dX8_best_55 : decode cX8_best 55 = .ok (.iload_n 1, 1) := by decide +kernel
theorem dX8_best_56 : decode cX8_best 56 = .ok (.iload_n 3, 1) := by decide +kernel
theorem dX8_best_57 : decode cX8_best 57 = .ok (.invokevirtual 299, 3) := by decide +kernel
theorem dX8_best_60 : decode cX8_best 60 = .ok (.ireturn, 1) := by decide +kernel
theorem dX8_blended_0 : decode cX8_blended 0 = .ok (.iload_n 1, 1) := by decide +kernel
theorem dX8_blended_1 : decode cX8_blended 1 = .ok (.invokestatic 185, 3) := by decide +kernel
theorem dX8_blended_4 : decode cX8_blended 4 = .ok (.ifCond .eq 23, 3) := by decide +kernel
theorem dX8_blended_7 : decode cX8_blended 7 = .ok (.iload_n 2, 1) := by decide +kernel
theorem dX8_blended_8 : decode cX8_blended 8 = .ok (.invokestatic 185, 3) := by decide +kernel
theorem dX8_blended_11 : decode cX8_blended 11 = .ok (.ifCond .eq 16, 3) := by decide +kernel
theorem dX8_blended_14 : decode cX8_blended 14 = .ok (.iload_n 1, 1) := by decide +kernel
theorem dX8_blended_15 : decode cX8_blended 15 = .ok (.iload_n 2, 1) := by decide +kernel
theorem dX8_blended_16 : decode cX8_blended 16 = .ok (.if_icmp .eq 11, 3) := by decide +kernel
theorem dX8_blended_19 : decode cX8_blended 19 = .ok (.aload_n 0, 1) := by decide +kernel
theorem dX8_blended_20 : decode cX8_blended 20 = .ok (.iload_n 3, 1) := by decide +kernel
theorem dX8_blended_21 : decode cX8_blended 21 = .ok (.invokevirtual 156, 3) := by decide +kernel
theorem dX8_blended_24 : decode cX8_blended 24 = .ok (.ifCond .ne 6, 3) := by decide +kernel
theorem dX8_blended_27 : decode cX8_blended 27 = .ok (.ldc 77, 2) := by decide +kernel
theorem dX8_blended_29 : decode cX8_blended 29 = .ok (.ireturn, 1) := by decide +kernel
theorem dX8_blended_30 : decode cX8_blended 30 = .ok (.aload_n 0, 1) := by decide +kernel
theorem dX8_blended_31 : decode cX8_blended 31 = .ok (.getfield 26, 3) := by decide +kernel
theorem dX8_blended_34 : decode cX8_blended 34 = .ok (.getfield 148, 3) := by decide +kernel
theorem dX8_blended_37 : decode cX8_blended 37 = .ok (.iload_n 1, 1) := by decide +kernel
theorem dX8_blended_38 : decode cX8_blended 38 = .ok (.invokevirtual 188, 3) := by decide +kernel
theorem dX8_blended_41 : decode cX8_blended 41 = .ok (.ifCond .ne 17, 3) := by decide +kernel
theorem dX8_blended_44 : decode cX8_blended 44 = .ok (.aload_n 0, 1) := by decide +kernel
theorem dX8_blended_45 : decode cX8_blended 45 = .ok (.getfield 26, 3) := by decide +kernel
theorem dX8_blended_48 : decode cX8_blended 48 = .ok (.getfield 148, 3) := by decide +kernel
theorem dX8_blended_51 : decode cX8_blended 51 = .ok (.iload_n 2, 1) := by decide +kernel
theorem dX8_blended_52 : decode cX8_blended 52 = .ok (.invokevirtual 188, 3) := by decide +kernel
theorem dX8_blended_55 : decode cX8_blended 55 = .ok (.ifCond .eq 6, 3) := by decide +kernel
theorem dX8_blended_58 : decode cX8_blended 58 = .ok (.ldc 147, 2) := by decide +kernel
theorem dX8_blended_60 : decode cX8_blended 60 = .ok (.ireturn, 1) := by decide +kernel
theorem dX8_blended_61 : decode cX8_blended 61 = .ok (.aload_n 0, 1) := by decide +kernel
theorem dX8_blended_62 : decode cX8_blended 62 = .ok (.getfield 58, 3) := by decide +kernel
theorem dX8_blended_65 : decode cX8_blended 65 = .ok (.iload_n 1, 1) := by decide +kernel
theorem dX8_blended_66 : decode cX8_blended 66 = .ok (.iload_n 2, 1) := by decide +kernel
theorem dX8_blended_67 : decode cX8_blended 67 = .ok (.iload_n 3, 1) := by decide +kernel
theorem dX8_blended_68 : decode cX8_blended 68 = .ok (.invokevirtual 302, 3) := by decide +kernel
theorem dX8_blended_71 : decode cX8_blended 71 = .ok (.ireturn, 1) := by decide +kernel
theorem dX8_silent_0 : decode cX8_silent 0 = .ok (.iload_n 1, 1) := by decide +kernel
theorem dX8_silent_1 : decode cX8_silent 1 = .ok (.invokestatic 185, 3) := by decide +kernel
theorem dX8_silent_4 : decode cX8_silent 4 = .ok (.ifCond .eq 32, 3) := by decide +kernel
theorem dX8_silent_7 : decode cX8_silent 7 = .ok (.aload_n 0, 1) := by decide +kernel
theorem dX8_silent_8 : decode cX8_silent 8 = .ok (.iload_n 2, 1) := by decide +kernel
theorem dX8_silent_9 : decode cX8_silent 9 = .ok (.iload_n 3, 1) := by decide +kernel
theorem dX8_silent_10 : decode cX8_silent 10 = .ok (.invokevirtual 266, 3) := by decide +kernel
theorem dX8_silent_13 : decode cX8_silent 13 = .ok (.ifCond .eq 23, 3) := by decide +kernel
theorem dX8_silent_16 : decode cX8_silent 16 = .ok (.iload 4, 2) := by decide +kernel
theorem dX8_silent_18 : decode cX8_silent 18 = .ok (.ifCond .lt 18, 3) := by decide +kernel
theorem dX8_silent_21 : decode cX8_silent 21 = .ok (.iload 4, 2) := by decide +kernel
theorem dX8_silent_23 : decode cX8_silent 23 = .ok (.bipush 10, 2) := by decide +kernel
theorem dX8_silent_25 : decode cX8_silent 25 = .ok (.if_icmp .gt 11, 3) := by decide +kernel
theorem dX8_silent_28 : decode cX8_silent 28 = .ok (.iload 5, 2) := by decide +kernel
theorem dX8_silent_30 : decode cX8_silent 30 = .ok (.invokestatic 257, 3) := by decide +kernel
theorem dX8_silent_33 : decode cX8_silent 33 = .ok (.ifCond .ne 7, 3) := by decide +kernel
theorem dX8_silent_36 : decode cX8_silent 36 = .ok (.ldc2_w 305, 3) := by decide +kernel
theorem dX8_silent_39 : decode cX8_silent 39 = .ok (.lreturn, 1) := by decide +kernel
theorem dX8_silent_40 : decode cX8_silent 40 = .ok (.aload_n 0, 1) := by decide +kernel
theorem dX8_silent_41 : decode cX8_silent 41 = .ok (.getfield 26, 3) := by decide +kernel
theorem dX8_silent_44 : decode cX8_silent 44 = .ok (.getfield 148, 3) := by decide +kernel
theorem dX8_silent_47 : decode cX8_silent 47 = .ok (.iload_n 1, 1) := by decide +kernel
theorem dX8_silent_48 : decode cX8_silent 48 = .ok (.invokevirtual 188, 3) := by decide +kernel
theorem dX8_silent_51 : decode cX8_silent 51 = .ok (.ifCond .eq 7, 3) := by decide +kernel
theorem dX8_silent_54 : decode cX8_silent 54 = .ok (.ldc2_w 307, 3) := by decide +kernel
theorem dX8_silent_57 : decode cX8_silent 57 = .ok (.lreturn, 1) := by decide +kernel
theorem dX8_silent_58 : decode cX8_silent 58 = .ok (.aload_n 0, 1) := by decide +kernel
theorem dX8_silent_59 : decode cX8_silent 59 = .ok (.getfield 58, 3) := by decide +kernel
theorem dX8_silent_62 : decode cX8_silent 62 = .ok (.iload_n 1, 1) := by decide +kernel
theorem dX8_silent_63 : decode cX8_silent 63 = .ok (.iload_n 2, 1) := by decide +kernel
theorem dX8_silent_64 : decode cX8_silent 64 = .ok (.iload_n 3, 1) := by decide +kernel
theorem dX8_silent_65 : decode cX8_silent 65 = .ok (.iload 4, 2) := by decide +kernel
theorem dX8_silent_67 : decode cX8_silent 67 = .ok (.invokevirtual 309, 3) := by decide +kernel
theorem dX8_silent_70 : decode cX8_silent 70 = .ok (.lstore 6, 2) := by decide +kernel
theorem dX8_silent_72 : decode cX8_silent 72 = .ok (.ldc2_w 313, 3) := by decide +kernel
theorem dX8_silent_75 : decode cX8_silent 75 = .ok (.aload_n 0, 1) := by decide +kernel
theorem dX8_silent_76 : decode cX8_silent 76 = .ok (.getfield 26, 3) := by decide +kernel
theorem dX8_silent_79 : decode cX8_silent 79 = .ok (.getfield 315, 3) := by decide +kernel
theorem dX8_silent_82 : decode cX8_silent 82 = .ok (.invokestatic 318, 3) := by decide +kernel
theorem dX8_silent_85 : decode cX8_silent 85 = .ok (.lstore 8, 2) := by decide +kernel
theorem dX8_silent_87 : decode cX8_silent 87 = .ok (.iload 5, 2) := by decide +kernel
theorem dX8_silent_89 : decode cX8_silent 89 = .ok (.ifCond .ne 8, 3) := by decide +kernel
theorem dX8_silent_92 : decode cX8_silent 92 = .ok (.lload 6, 2) := by decide +kernel
theorem dX8_silent_94 : decode cX8_silent 94 = .ok (.goto 5, 3) := by decide +kernel
theorem dX8_silent_97 : decode cX8_silent 97 = .ok (.lload 8, 2) := by decide +kernel
theorem dX8_silent_99 : decode cX8_silent 99 = .ok (.lload 6, 2) := by decide +kernel
theorem dX8_silent_101 : decode cX8_silent 101 = .ok (.lload 8, 2) := by decide +kernel
theorem dX8_silent_103 : decode cX8_silent 103 = .ok (.invokestatic 322, 3) := by decide +kernel
theorem dX8_silent_106 : decode cX8_silent 106 = .ok (.ldiv, 1) := by decide +kernel
theorem dX8_silent_107 : decode cX8_silent 107 = .ok (.lreturn, 1) := by decide +kernel
theorem dX8_drawn_0 : decode cX8_drawn 0 = .ok (.aload_n 0, 1) := by decide +kernel
theorem dX8_drawn_1 : decode cX8_drawn 1 = .ok (.invokevirtual 172, 3) := by decide +kernel
theorem dX8_drawn_4 : decode cX8_drawn 4 = .ok (.ifCond .ne 6, 3) := by decide +kernel
theorem dX8_drawn_7 : decode cX8_drawn 7 = .ok (.ldc 147, 2) := by decide +kernel
theorem dX8_drawn_9 : decode cX8_drawn 9 = .ok (.ireturn, 1) := by decide +kernel
theorem dX8_drawn_10 : decode cX8_drawn 10 = .ok (.iload_n 1, 1) := by decide +kernel
theorem dX8_drawn_11 : decode cX8_drawn 11 = .ok (.ifCond .lt 28, 3) := by decide +kernel
theorem dX8_drawn_14 : decode cX8_drawn 14 = .ok (.iload_n 1, 1) := by decide +kernel
theorem dX8_drawn_15 : decode cX8_drawn 15 = .ok (.bipush 60, 2) := by decide +kernel
theorem dX8_drawn_17 : decode cX8_drawn 17 = .ok (.if_icmp .gt 22, 3) := by decide +kernel
theorem dX8_drawn_20 : decode cX8_drawn 20 = .ok (.iload_n 2, 1) := by decide +kernel
theorem dX8_drawn_21 : decode cX8_drawn 21 = .ok (.iconst 1, 1) := by decide +kernel
theorem dX8_drawn_22 : decode cX8_drawn 22 = .ok (.if_icmp .lt 17, 3) := by decide +kernel
theorem dX8_drawn_25 : decode cX8_drawn 25 = .ok (.iload_n 2, 1) := by decide +kernel
theorem dX8_drawn_26 : decode cX8_drawn 26 = .ok (.ldc_w 326, 3) := by decide +kernel
theorem dX8_drawn_29 : decode cX8_drawn 29 = .ok (.if_icmp .gt 10, 3) := by decide +kernel
theorem dX8_drawn_32 : decode cX8_drawn 32 = .ok (.iload_n 3, 1) := by decide +kernel
theorem dX8_drawn_33 : decode cX8_drawn 33 = .ok (.invokestatic 257, 3) := by decide +kernel
theorem dX8_drawn_36 : decode cX8_drawn 36 = .ok (.ifCond .ne 6, 3) := by decide +kernel
theorem dX8_drawn_39 : decode cX8_drawn 39 = .ok (.ldc 77, 2) := by decide +kernel
theorem dX8_drawn_41 : decode cX8_drawn 41 = .ok (.ireturn, 1) := by decide +kernel
theorem dX8_drawn_42 : decode cX8_drawn 42 = .ok (.aload_n 0, 1) := by decide +kernel
theorem dX8_drawn_43 : decode cX8_drawn 43 = .ok (.getfield 58, 3) := by decide +kernel
theorem dX8_drawn_46 : decode cX8_drawn 46 = .ok (.iload_n 1, 1) := by decide +kernel
theorem dX8_drawn_47 : decode cX8_drawn 47 = .ok (.iload_n 2, 1) := by decide +kernel
theorem dX8_drawn_48 : decode cX8_drawn 48 = .ok (.invokevirtual 327, 3) := by decide +kernel
theorem dX8_drawn_51 : decode cX8_drawn 51 = .ok (.astore 4, 2) := by decide +kernel
theorem dX8_drawn_53 : decode cX8_drawn 53 = .ok (.iload_n 3, 1) := by decide +kernel
theorem dX8_drawn_54 : decode cX8_drawn 54 = .ok (.ifCond .ne 11, 3) := by decide +kernel
theorem dX8_drawn_57 : decode cX8_drawn 57 = .ok (.aload 4, 2) := by decide +kernel
theorem dX8_drawn_59 : decode cX8_drawn 59 = .ok (.invokevirtual 331, 3) := by decide +kernel
theorem dX8_drawn_62 : decode cX8_drawn 62 = .ok (.goto 8, 3) := by decide +kernel
theorem dX8_drawn_65 : decode cX8_drawn 65 = .ok (.aload 4, 2) := by decide +kernel
theorem dX8_drawn_67 : decode cX8_drawn 67 = .ok (.invokevirtual 334, 3) := by decide +kernel
theorem dX8_drawn_70 : decode cX8_drawn 70 = .ok (.ireturn, 1) := by decide +kernel
theorem dX8_image_0 : decode cX8_image 0 = .ok (.iload_n 1, 1) := by decide +kernel
theorem dX8_image_1 : decode cX8_image 1 = .ok (.ifCond .lt 8, 3) := by decide +kernel
theorem dX8_image_4 : decode cX8_image 4 = .ok (.iload_n 1, 1) := by decide +kernel
theorem dX8_image_5 : decode cX8_image 5 = .ok (.iconst 2, 1) := by decide +kernel
theorem dX8_image_6 : decode cX8_image 6 = .ok (.if_icmp .lt 6, 3) := by decide +kernel
theorem dX8_image_9 : decode cX8_image 9 = .ok (.ldc 77, 2) := by decide +kernel
theorem dX8_image_11 : decode cX8_image 11 = .ok (.ireturn, 1) := by decide +kernel
theorem dX8_image_12 : decode cX8_image 12 = .ok (.aload_n 0, 1) := by decide +kernel
theorem dX8_image_13 : decode cX8_image 13 = .ok (.invokevirtual 172, 3) := by decide +kernel
theorem dX8_image_16 : decode cX8_image 16 = .ok (.ifCond .ne 6, 3) := by decide +kernel
theorem dX8_image_19 : decode cX8_image 19 = .ok (.ldc 147, 2) := by decide +kernel
theorem dX8_image_21 : decode cX8_image 21 = .ok (.ireturn, 1) := by decide +kernel
theorem dX8_image_22 : decode cX8_image 22 = .ok (.aload_n 0, 1) := by decide +kernel
theorem dX8_image_23 : decode cX8_image 23 = .ok (.getfield 33, 3) := by decide +kernel
theorem dX8_image_26 : decode cX8_image 26 = .ok (.iload_n 1, 1) := by decide +kernel
theorem dX8_image_27 : decode cX8_image 27 = .ok (.aaload, 1) := by decide +kernel
theorem dX8_image_28 : decode cX8_image 28 = .ok (.aload_n 0, 1) := by decide +kernel
theorem dX8_image_29 : decode cX8_image 29 = .ok (.getfield 26, 3) := by decide +kernel
theorem dX8_image_32 : decode cX8_image 32 = .ok (.invokevirtual 132, 3) := by decide +kernel
theorem dX8_image_35 : decode cX8_image 35 = .ok (.iconst 1, 1) := by decide +kernel
theorem dX8_image_36 : decode cX8_image 36 = .ok (.ireturn, 1) := by decide +kernel
theorem dX8_restore_0 : decode cX8_restore 0 = .ok (.iload_n 1, 1) := by decide +kernel
theorem dX8_restore_1 : decode cX8_restore 1 = .ok (.ifCond .lt 8, 3) := by decide +kernel
theorem dX8_restore_4 : decode cX8_restore 4 = .ok (.iload_n 1, 1) := by decide +kernel
theorem dX8_restore_5 : decode cX8_restore 5 = .ok (.iconst 2, 1) := by decide +kernel
theorem dX8_restore_6 : decode cX8_restore 6 = .ok (.if_icmp .lt 6, 3) := by decide +kernel
theorem dX8_restore_9 : decode cX8_restore 9 = .ok (.ldc 77, 2) := by decide +kernel
theorem dX8_restore_11 : decode cX8_restore 11 = .ok (.ireturn, 1) := by decide +kernel
theorem dX8_restore_12 : decode cX8_restore 12 = .ok (.aload_n 0, 1) := by decide +kernel
theorem dX8_restore_13 : decode cX8_restore 13 = .ok (.getfield 33, 3) := by decide +kernel
theorem dX8_restore_16 : decode cX8_restore 16 = .ok (.iload_n 1, 1) := by decide +kernel
theorem dX8_restore_17 : decode cX8_restore 17 = .ok (.aaload, 1) := by decide +kernel
theorem dX8_restore_18 : decode cX8_restore 18 = .ok (.getfield 138, 3) := by decide +kernel
theorem dX8_restore_21 : decode cX8_restore 21 = .ok (.ifCond .ne 6, 3) := by decide +kernel
theorem dX8_restore_24 : decode cX8_restore 24 = .ok (.ldc 147, 2) := by decide +kernel
theorem dX8_restore_26 : decode cX8_restore 26 = .ok (.ireturn, 1) := by decide +kernel
theorem dX8_restore_27 : decode cX8_restore 27 = .ok (.aload_n 0, 1) := by decide +kernel
theorem dX8_restore_28 : decode cX8_restore 28 = .ok (.getfield 26, 3) := by decide +kernel
theorem dX8_restore_31 : decode cX8_restore 31 = .ok (.aload_n 0, 1) := by decide +kernel
theorem dX8_restore_32 : decode cX8_restore 32 = .ok (.getfield 33, 3) := by decide +kernel
theorem dX8_restore_35 : decode cX8_restore 35 = .ok (.iload_n 1, 1) := by decide +kernel
theorem dX8_restore_36 : decode cX8_restore 36 = .ok (.aaload, 1) := by decide +kernel
theorem dX8_restore_37 : decode cX8_restore 37 = .ok (.invokevirtual 132, 3) := by decide +kernel
theorem dX8_restore_40 : decode cX8_restore 40 = .ok (.aload_n 0, 1) := by decide +kernel
theorem dX8_restore_41 : decode cX8_restore 41 = .ok (.getfield 40, 3) := by decide +kernel
theorem dX8_restore_44 : decode cX8_restore 44 = .ok (.invokevirtual 135, 3) := by decide +kernel
theorem dX8_restore_47 : decode cX8_restore 47 = .ok (.iconst 1, 1) := by decide +kernel
theorem dX8_restore_48 : decode cX8_restore 48 = .ok (.ireturn, 1) := by decide +kernel
theorem dX8_kind_0 : decode cX8_kind 0 = .ok (.aload_n 0, 1) := by decide +kernel
theorem dX8_kind_1 : decode cX8_kind 1 = .ok (.iload_n 1, 1) := by decide +kernel
theorem dX8_kind_2 : decode cX8_kind 2 = .ok (.invokevirtual 156, 3) := by decide +kernel
theorem dX8_kind_5 : decode cX8_kind 5 = .ok (.ifCond .eq 15, 3) := by decide +kernel
theorem dX8_kind_8 : decode cX8_kind 8 = .ok (.aload_n 0, 1) := by decide +kernel
theorem dX8_kind_9 : decode cX8_kind 9 = .ok (.getfield 26, 3) := by decide +kernel
theorem dX8_kind_12 : decode cX8_kind 12 = .ok (.getfield 337, 3) := by decide +kernel
theorem dX8_kind_15 : decode cX8_kind 15 = .ok (.iload_n 1, 1) := by decide +kernel
theorem dX8_kind_16 : decode cX8_kind 16 = .ok (.iaload, 1) := by decide +kernel
theorem dX8_kind_17 : decode cX8_kind 17 = .ok (.goto 5, 3) := by decide +kernel
theorem dX8_kind_20 : decode cX8_kind 20 = .ok (.ldc 77, 2) := by decide +kernel
theorem dX8_kind_22 : decode cX8_kind 22 = .ok (.ireturn, 1) := by decide +kernel
theorem dX8_as_0 : decode cX8_as 0 = .ok (.aload_n 0, 1) := by decide +kernel
theorem dX8_as_1 : decode cX8_as 1 = .ok (.iload_n 1, 1) := by decide +kernel
theorem dX8_as_2 : decode cX8_as 2 = .ok (.invokevirtual 156, 3) := by decide +kernel
theorem dX8_as_5 : decode cX8_as 5 = .ok (.ifCond .eq 12, 3) := by decide +kernel
theorem dX8_as_8 : decode cX8_as 8 = .ok (.iload_n 2, 1) := by decide +kernel
theorem dX8_as_9 : decode cX8_as 9 = .ok (.ifCond .lt 8, 3) := by decide +kernel
theorem dX8_as_12 : decode cX8_as 12 = .ok (.iload_n 2, 1) := by decide +kernel
theorem dX8_as_13 : decode cX8_as 13 = .ok (.iconst 5, 1) := by decide +kernel
theorem dX8_as_14 : decode cX8_as 14 = .ok (.if_icmp .le 6, 3) := by decide +kernel
theorem dX8_as_17 : decode cX8_as 17 = .ok (.ldc 77, 2) := by decide +kernel
theorem dX8_as_19 : decode cX8_as 19 = .ok (.ireturn, 1) := by decide +kernel
theorem dX8_as_20 : decode cX8_as 20 = .ok (.aload_n 0, 1) := by decide +kernel
theorem dX8_as_21 : decode cX8_as 21 = .ok (.getfield 26, 3) := by decide +kernel
theorem dX8_as_24 : decode cX8_as 24 = .ok (.getfield 337, 3) := by decide +kernel
theorem dX8_as_27 : decode cX8_as 27 = .ok (.iload_n 1, 1) := by decide +kernel
theorem dX8_as_28 : decode cX8_as 28 = .ok (.iaload, 1) := by decide +kernel
theorem dX8_as_29 : decode cX8_as 29 = .ok (.iload_n 2, 1) := by decide +kernel
theorem dX8_as_30 : decode cX8_as 30 = .ok (.invokestatic 340, 3) := by decide +kernel
theorem dX8_as_33 : decode cX8_as 33 = .ok (.ifCond .eq 11, 3) := by decide +kernel
theorem dX8_as_36 : decode cX8_as 36 = .ok (.aload_n 0, 1) := by decide +kernel
theorem dX8_as_37 : decode cX8_as 37 = .ok (.iload_n 1, 1) := by decide +kernel
theorem dX8_as_38 : decode cX8_as 38 = .ok (.invokevirtual 86, 3) := by decide +kernel
theorem dX8_as_41 : decode cX8_as 41 = .ok (.goto 8, 3) := by decide +kernel
theorem dX8_as_44 : decode cX8_as 44 = .ok (.aload_n 0, 1) := by decide +kernel
theorem dX8_as_45 : decode cX8_as 45 = .ok (.iconst 3, 1) := by decide +kernel
theorem dX8_as_46 : decode cX8_as 46 = .ok (.invokevirtual 78, 3) := by decide +kernel
theorem dX8_as_49 : decode cX8_as 49 = .ok (.ireturn, 1) := by decide +kernel
theorem dX8_ask_0 : decode cX8_ask 0 = .ok (.aload_n 0, 1) := by decide +kernel
theorem dX8_ask_1 : decode cX8_ask 1 = .ok (.iload_n 1, 1) := by decide +kernel
theorem dX8_ask_2 : decode cX8_ask 2 = .ok (.invokevirtual 156, 3) := by decide +kernel
theorem dX8_ask_5 : decode cX8_ask 5 = .ok (.ifCond .eq 10, 3) := by decide +kernel
theorem dX8_ask_8 : decode cX8_ask 8 = .ok (.iload_n 2, 1) := by decide +kernel
theorem dX8_ask_9 : decode cX8_ask 9 = .ok (.invokestatic 257, 3) := by decide +kernel
theorem dX8_ask_12 : decode cX8_ask 12 = .ok (.ifCond .ne 6, 3) := by decide +kernel
theorem dX8_ask_15 : decode cX8_ask 15 = .ok (.ldc 77, 2) := by decide +kernel
theorem dX8_ask_17 : decode cX8_ask 17 = .ok (.ireturn, 1) := by decide +kernel
theorem dX8_ask_18 : decode cX8_ask 18 = .ok (.iload_n 2, 1) := by decide +kernel
theorem dX8_ask_19 : decode cX8_ask 19 = .ok (.ifCond .ne 14, 3) := by decide +kernel
theorem dX8_ask_22 : decode cX8_ask 22 = .ok (.aload_n 0, 1) := by decide +kernel
theorem dX8_ask_23 : decode cX8_ask 23 = .ok (.getfield 65, 3) := by decide +kernel
theorem dX8_ask_26 : decode cX8_ask 26 = .ok (.iload_n 1, 1) := by decide +kernel
theorem dX8_ask_27 : decode cX8_ask 27 = .ok (.invokevirtual 343, 3) := by decide +kernel
theorem dX8_ask_30 : decode cX8_ask 30 = .ok (.goto 11, 3) := by decide +kernel
theorem dX8_ask_33 : decode cX8_ask 33 = .ok (.aload_n 0, 1) := by decide +kernel
theorem dX8_ask_34 : decode cX8_ask 34 = .ok (.getfield 65, 3) := by decide +kernel
theorem dX8_ask_37 : decode cX8_ask 37 = .ok (.iload_n 1, 1) := by decide +kernel
theorem dX8_ask_38 : decode cX8_ask 38 = .ok (.invokevirtual 346, 3) := by decide +kernel
theorem dX8_ask_41 : decode cX8_ask 41 = .ok (.ireturn, 1) := by decide +kernel
theorem dX8_trace_0 : decode cX8_trace 0 = .ok (.aload_n 0, 1) := by decide +kernel
theorem dX8_trace_1 : decode cX8_trace 1 = .ok (.getfield 65, 3) := by decide +kernel
theorem dX8_trace_4 : decode cX8_trace 4 = .ok (.iload_n 1, 1) := by decide +kernel
theorem dX8_trace_5 : decode cX8_trace 5 = .ok (.invokevirtual 349, 3) := by decide +kernel
theorem dX8_trace_8 : decode cX8_trace 8 = .ok (.ireturn, 1) := by decide +kernel
theorem dX8_count_0 : decode cX8_count 0 = .ok (.iload_n 1, 1) := by decide +kernel
theorem dX8_count_1 : decode cX8_count 1 = .ok (.tableswitch 120 0 7 #[47, 55, 63, 71, 82, 93, 104, 112], 47) := by decide +kernel
theorem dX8_count_48 : decode cX8_count 48 = .ok (.aload_n 0, 1) := by decide +kernel
theorem dX8_count_49 : decode cX8_count 49 = .ok (.getfield 10, 3) := by decide +kernel
theorem dX8_count_52 : decode cX8_count 52 = .ok (.invokevirtual 352, 3) := by decide +kernel
theorem dX8_count_55 : decode cX8_count 55 = .ok (.ireturn, 1) := by decide +kernel
theorem dX8_count_56 : decode cX8_count 56 = .ok (.aload_n 0, 1) := by decide +kernel
theorem dX8_count_57 : decode cX8_count 57 = .ok (.getfield 26, 3) := by decide +kernel
theorem dX8_count_60 : decode cX8_count 60 = .ok (.getfield 138, 3) := by decide +kernel
theorem dX8_count_63 : decode cX8_count 63 = .ok (.ireturn, 1) := by decide +kernel
theorem dX8_count_64 : decode cX8_count 64 = .ok (.aload_n 0, 1) := by decide +kernel
theorem dX8_count_65 : decode cX8_count 65 = .ok (.getfield 26, 3) := by decide +kernel
theorem dX8_count_68 : decode cX8_count 68 = .ok (.getfield 315, 3) := by decide +kernel
theorem dX8_count_71 : decode cX8_count 71 = .ok (.ireturn, 1) := by decide +kernel
theorem dX8_count_72 : decode cX8_count 72 = .ok (.aload_n 0, 1) := by decide +kernel
theorem dX8_count_73 : decode cX8_count 73 = .ok (.getfield 26, 3) := by decide +kernel
theorem dX8_count_76 : decode cX8_count 76 = .ok (.getfield 148, 3) := by decide +kernel
theorem dX8_count_79 : decode cX8_count 79 = .ok (.invokevirtual 355, 3) := by decide +kernel
theorem dX8_count_82 : decode cX8_count 82 = .ok (.ireturn, 1) := by decide +kernel
theorem dX8_count_83 : decode cX8_count 83 = .ok (.aload_n 0, 1) := by decide +kernel
theorem dX8_count_84 : decode cX8_count 84 = .ok (.getfield 26, 3) := by decide +kernel
theorem dX8_count_87 : decode cX8_count 87 = .ok (.getfield 148, 3) := by decide +kernel
theorem dX8_count_90 : decode cX8_count 90 = .ok (.invokevirtual 176, 3) := by decide +kernel
theorem dX8_count_93 : decode cX8_count 93 = .ok (.ireturn, 1) := by decide +kernel
theorem dX8_count_94 : decode cX8_count 94 = .ok (.aload_n 0, 1) := by decide +kernel
theorem dX8_count_95 : decode cX8_count 95 = .ok (.getfield 26, 3) := by decide +kernel
theorem dX8_count_98 : decode cX8_count 98 = .ok (.getfield 148, 3) := by decide +kernel
theorem dX8_count_101 : decode cX8_count 101 = .ok (.invokevirtual 331, 3) := by decide +kernel
theorem dX8_count_104 : decode cX8_count 104 = .ok (.ireturn, 1) := by decide +kernel
theorem dX8_count_105 : decode cX8_count 105 = .ok (.aload_n 0, 1) := by decide +kernel
theorem dX8_count_106 : decode cX8_count 106 = .ok (.getfield 40, 3) := by decide +kernel
theorem dX8_count_109 : decode cX8_count 109 = .ok (.getfield 144, 3) := by decide +kernel
theorem dX8_count_112 : decode cX8_count 112 = .ok (.ireturn, 1) := by decide +kernel
theorem dX8_count_113 : decode cX8_count 113 = .ok (.aload_n 0, 1) := by decide +kernel
theorem dX8_count_114 : decode cX8_count 114 = .ok (.getfield 19, 3) := by decide +kernel
theorem dX8_count_117 : decode cX8_count 117 = .ok (.getfield 117, 3) := by decide +kernel
theorem dX8_count_120 : decode cX8_count 120 = .ok (.ireturn, 1) := by decide +kernel
theorem dX8_count_121 : decode cX8_count 121 = .ok (.ldc 77, 2) := by decide +kernel
theorem dX8_count_123 : decode cX8_count 123 = .ok (.ireturn, 1) := by decide +kernel
theorem dX8_status_0 : decode cX8_status 0 = .ok (.aload_n 0, 1) := by decide +kernel
theorem dX8_status_1 : decode cX8_status 1 = .ok (.getfield 69, 3) := by decide +kernel
theorem dX8_status_4 : decode cX8_status 4 = .ok (.ireturn, 1) := by decide +kernel
theorem dX8_found_0 : decode cX8_found 0 = .ok (.aload_n 0, 1) := by decide +kernel
theorem dX8_found_1 : decode cX8_found 1 = .ok (.iload_n 1, 1) := by decide +kernel
theorem dX8_found_2 : decode cX8_found 2 = .ok (.putfield 69, 3) := by decide +kernel
theorem dX8_found_5 : decode cX8_found 5 = .ok (.ldc_w 356, 3) := by decide +kernel
theorem dX8_found_8 : decode cX8_found 8 = .ok (.iload_n 1, 1) := by decide +kernel
theorem dX8_found_9 : decode cX8_found 9 = .ok (.isub, 1) := by decide +kernel
theorem dX8_found_10 : decode cX8_found 10 = .ok (.ireturn, 1) := by decide +kernel
theorem dX8_fine_0 : decode cX8_fine 0 = .ok (.aload_n 0, 1) := by decide +kernel
theorem dX8_fine_1 : decode cX8_fine 1 = .ok (.iconst 0, 1) := by decide +kernel
theorem dX8_fine_2 : decode cX8_fine 2 = .ok (.putfield 69, 3) := by decide +kernel
theorem dX8_fine_5 : decode cX8_fine 5 = .ok (.iload_n 1, 1) := by decide +kernel
theorem dX8_fine_6 : decode cX8_fine 6 = .ok (.ireturn, 1) := by decide +kernel
theorem dX8_isTownThere_0 : decode cX8_isTownThere 0 = .ok (.aload_n 0, 1) := by decide +kernel
theorem dX8_isTownThere_1 : decode cX8_isTownThere 1 = .ok (.getfield 26, 3) := by decide +kernel
theorem dX8_isTownThere_4 : decode cX8_isTownThere 4 = .ok (.getfield 138, 3) := by decide +kernel
theorem dX8_isTownThere_7 : decode cX8_isTownThere 7 = .ok (.ifCond .le 7, 3) := by decide +kernel
theorem dX8_isTownThere_10 : decode cX8_isTownThere 10 = .ok (.iconst 1, 1) := by decide +kernel
theorem dX8_isTownThere_11 : decode cX8_isTownThere 11 = .ok (.goto 4, 3) := by decide +kernel
theorem dX8_isTownThere_14 : decode cX8_isTownThere 14 = .ok (.iconst 0, 1) := by decide +kernel
theorem dX8_isTownThere_15 : decode cX8_isTownThere 15 = .ok (.ireturn, 1) := by decide +kernel
theorem dX8_isDrinker_0 : decode cX8_isDrinker 0 = .ok (.iload_n 1, 1) := by decide +kernel
theorem dX8_isDrinker_1 : decode cX8_isDrinker 1 = .ok (.ifCond .lt 18, 3) := by decide +kernel
theorem dX8_isDrinker_4 : decode cX8_isDrinker 4 = .ok (.iload_n 1, 1) := by decide +kernel
theorem dX8_isDrinker_5 : decode cX8_isDrinker 5 = .ok (.aload_n 0, 1) := by decide +kernel
theorem dX8_isDrinker_6 : decode cX8_isDrinker 6 = .ok (.getfield 26, 3) := by decide +kernel
theorem dX8_isDrinker_9 : decode cX8_isDrinker 9 = .ok (.getfield 138, 3) := by decide +kernel
theorem dX8_isDrinker_12 : decode cX8_isDrinker 12 = .ok (.if_icmp .ge 7, 3) := by decide +kernel
theorem dX8_isDrinker_15 : decode cX8_isDrinker 15 = .ok (.iconst 1, 1) := by decide +kernel
theorem dX8_isDrinker_16 : decode cX8_isDrinker 16 = .ok (.goto 4, 3) := by decide +kernel
theorem dX8_isDrinker_19 : decode cX8_isDrinker 19 = .ok (.iconst 0, 1) := by decide +kernel
theorem dX8_isDrinker_20 : decode cX8_isDrinker 20 = .ok (.ireturn, 1) := by decide +kernel
theorem dX8_areTwoDrinkers_0 : decode cX8_areTwoDrinkers 0 = .ok (.aload_n 0, 1) := by decide +kernel
theorem dX8_areTwoDrinkers_1 : decode cX8_areTwoDrinkers 1 = .ok (.iload_n 1, 1) := by decide +kernel
theorem dX8_areTwoDrinkers_2 : decode cX8_areTwoDrinkers 2 = .ok (.invokevirtual 156, 3) := by decide +kernel
theorem dX8_areTwoDrinkers_5 : decode cX8_areTwoDrinkers 5 = .ok (.ifCond .eq 20, 3) := by decide +kernel
theorem dX8_areTwoDrinkers_8 : decode cX8_areTwoDrinkers 8 = .ok (.aload_n 0, 1) := by decide +kernel
theorem dX8_areTwoDrinkers_9 : decode cX8_areTwoDrinkers 9 = .ok (.iload_n 2, 1) := by decide +kernel
theorem dX8_areTwoDrinkers_10 : decode cX8_areTwoDrinkers 10 = .ok (.invokevirtual 156, 3) := by decide +kernel
theorem dX8_areTwoDrinkers_13 : decode cX8_areTwoDrinkers 13 = .ok (.ifCond .eq 12, 3) := by decide +kernel
theorem dX8_areTwoDrinkers_16 : decode cX8_areTwoDrinkers 16 = .ok (.iload_n 1, 1) := by decide +kernel
theorem dX8_areTwoDrinkers_17 : decode cX8_areTwoDrinkers 17 = .ok (.iload_n 2, 1) := by decide +kernel
theorem dX8_areTwoDrinkers_18 : decode cX8_areTwoDrinkers 18 = .ok (.if_icmp .eq 7, 3) := by decide +kernel
theorem dX8_areTwoDrinkers_21 : decode cX8_areTwoDrinkers 21 = .ok (.iconst 1, 1) := by decide +kernel
theorem dX8_areTwoDrinkers_22 : decode cX8_areTwoDrinkers 22 = .ok (.goto 4, 3) := by decide +kernel
theorem dX8_areTwoDrinkers_25 : decode cX8_areTwoDrinkers 25 = .ok (.iconst 0, 1) := by decide +kernel
theorem dX8_areTwoDrinkers_26 : decode cX8_areTwoDrinkers 26 = .ok (.ireturn, 1) := by decide +kernel
theorem dX8_areDrinkers_0 : decode cX8_areDrinkers 0 = .ok (.iload_n 1, 1) := by decide +kernel
theorem dX8_areDrinkers_1 : decode cX8_areDrinkers 1 = .ok (.aload_n 0, 1) := by decide +kernel
theorem dX8_areDrinkers_2 : decode cX8_areDrinkers 2 = .ok (.getfield 26, 3) := by decide +kernel
theorem dX8_areDrinkers_5 : decode cX8_areDrinkers 5 = .ok (.invokevirtual 357, 3) := by decide +kernel
theorem dX8_areDrinkers_8 : decode cX8_areDrinkers 8 = .ok (.iconst (-1), 1) := by decide +kernel
theorem dX8_areDrinkers_9 : decode cX8_areDrinkers 9 = .ok (.ixor, 1) := by decide +kernel
theorem dX8_areDrinkers_10 : decode cX8_areDrinkers 10 = .ok (.iand, 1) := by decide +kernel
theorem dX8_areDrinkers_11 : decode cX8_areDrinkers 11 = .ok (.ifCond .ne 7, 3) := by decide +kernel
theorem dX8_areDrinkers_14 : decode cX8_areDrinkers 14 = .ok (.iconst 1, 1) := by decide +kernel
theorem dX8_areDrinkers_15 : decode cX8_areDrinkers 15 = .ok (.goto 4, 3) := by decide +kernel
theorem dX8_areDrinkers_18 : decode cX8_areDrinkers 18 = .ok (.iconst 0, 1) := by decide +kernel
theorem dX8_areDrinkers_19 : decode cX8_areDrinkers 19 = .ok (.ireturn, 1) := by decide +kernel
theorem dX8_refusalOfTaps_0 : decode cX8_refusalOfTaps 0 = .ok (.aload_n 0, 1) := by decide +kernel
theorem dX8_refusalOfTaps_1 : decode cX8_refusalOfTaps 1 = .ok (.getfield 26, 3) := by decide +kernel
theorem dX8_refusalOfTaps_4 : decode cX8_refusalOfTaps 4 = .ok (.getfield 148, 3) := by decide +kernel
theorem dX8_refusalOfTaps_7 : decode cX8_refusalOfTaps 7 = .ok (.iload_n 1, 1) := by decide +kernel
theorem dX8_refusalOfTaps_8 : decode cX8_refusalOfTaps 8 = .ok (.invokevirtual 188, 3) := by decide +kernel
theorem dX8_refusalOfTaps_11 : decode cX8_refusalOfTaps 11 = .ok (.ifCond .eq 6, 3) := by decide +kernel
theorem dX8_refusalOfTaps_14 : decode cX8_refusalOfTaps 14 = .ok (.ldc 147, 2) := by decide +kernel
theorem dX8_refusalOfTaps_16 : decode cX8_refusalOfTaps 16 = .ok (.ireturn, 1) := by decide +kernel
theorem dX8_refusalOfTaps_17 : decode cX8_refusalOfTaps 17 = .ok (.aload_n 0, 1) := by decide +kernel
theorem dX8_refusalOfTaps_18 : decode cX8_refusalOfTaps 18 = .ok (.getfield 10, 3) := by decide +kernel
theorem dX8_refusalOfTaps_21 : decode cX8_refusalOfTaps 21 = .ok (.iload_n 2, 1) := by decide +kernel
theorem dX8_refusalOfTaps_22 : decode cX8_refusalOfTaps 22 = .ok (.invokevirtual 89, 3) := by decide +kernel
theorem dX8_refusalOfTaps_25 : decode cX8_refusalOfTaps 25 = .ok (.ifCond .eq 9, 3) := by decide +kernel
theorem dX8_refusalOfTaps_28 : decode cX8_refusalOfTaps 28 = .ok (.aload_n 0, 1) := by decide +kernel
theorem dX8_refusalOfTaps_29 : decode cX8_refusalOfTaps 29 = .ok (.iconst 1, 1) := by decide +kernel
theorem dX8_refusalOfTaps_30 : decode cX8_refusalOfTaps 30 = .ok (.invokevirtual 78, 3) := by decide +kernel
theorem dX8_refusalOfTaps_33 : decode cX8_refusalOfTaps 33 = .ok (.ireturn, 1) := by decide +kernel
theorem dX8_refusalOfTaps_34 : decode cX8_refusalOfTaps 34 = .ok (.aload_n 0, 1) := by decide +kernel
theorem dX8_refusalOfTaps_35 : decode cX8_refusalOfTaps 35 = .ok (.getfield 10, 3) := by decide +kernel
theorem dX8_refusalOfTaps_38 : decode cX8_refusalOfTaps 38 = .ok (.iload_n 2, 1) := by decide +kernel
theorem dX8_refusalOfTaps_39 : decode cX8_refusalOfTaps 39 = .ok (.iload_n 3, 1) := by decide +kernel
theorem dX8_refusalOfTaps_40 : decode cX8_refusalOfTaps 40 = .ok (.iconst 2, 1) := by decide +kernel
theorem dX8_refusalOfTaps_41 : decode cX8_refusalOfTaps 41 = .ok (.iload 4, 2) := by decide +kernel
theorem dX8_refusalOfTaps_43 : decode cX8_refusalOfTaps 43 = .ok (.imul, 1) := by decide +kernel
theorem dX8_refusalOfTaps_44 : decode cX8_refusalOfTaps 44 = .ok (.invokevirtual 92, 3) := by decide +kernel
theorem dX8_refusalOfTaps_47 : decode cX8_refusalOfTaps 47 = .ok (.ifCond .ne 9, 3) := by decide +kernel
theorem dX8_refusalOfTaps_50 : decode cX8_refusalOfTaps 50 = .ok (.aload_n 0, 1) := by decide +kernel
theorem dX8_refusalOfTaps_51 : decode cX8_refusalOfTaps 51 = .ok (.iconst 2, 1) := by decide +kernel
theorem dX8_refusalOfTaps_52 : decode cX8_refusalOfTaps 52 = .ok (.invokevirtual 78, 3) := by decide +kernel
theorem dX8_refusalOfTaps_55 : decode cX8_refusalOfTaps 55 = .ok (.ireturn, 1) := by decide +kernel
theorem dX8_refusalOfTaps_56 : decode cX8_refusalOfTaps 56 = .ok (.aload_n 0, 1) := by decide +kernel
theorem dX8_refusalOfTaps_57 : decode cX8_refusalOfTaps 57 = .ok (.iload_n 2, 1) := by decide +kernel
theorem dX8_refusalOfTaps_58 : decode cX8_refusalOfTaps 58 = .ok (.iload_n 3, 1) := by decide +kernel
theorem dX8_refusalOfTaps_59 : decode cX8_refusalOfTaps 59 = .ok (.iload 4, 2) := by decide +kernel
theorem dX8_refusalOfTaps_61 : decode cX8_refusalOfTaps 61 = .ok (.invokevirtual 360, 3) := by decide +kernel
theorem dX8_refusalOfTaps_64 : decode cX8_refusalOfTaps 64 = .ok (.ifCond .eq 7, 3) := by decide +kernel
theorem dX8_refusalOfTaps_67 : decode cX8_refusalOfTaps 67 = .ok (.iconst 0, 1) := by decide +kernel
theorem dX8_refusalOfTaps_68 : decode cX8_refusalOfTaps 68 = .ok (.goto 5, 3) := by decide +kernel
theorem dX8_refusalOfTaps_71 : decode cX8_refusalOfTaps 71 = .ok (.ldc 77, 2) := by decide +kernel
theorem dX8_refusalOfTaps_73 : decode cX8_refusalOfTaps 73 = .ok (.ireturn, 1) := by decide +kernel
theorem dX8_tellsDrinkers_0 : decode cX8_tellsDrinkers 0 = .ok (.iconst 0, 1) := by decide +kernel
theorem dX8_tellsDrinkers_1 : decode cX8_tellsDrinkers 1 = .ok (.istore 4, 2) := by decide +kernel
theorem dX8_tellsDrinkers_3 : decode cX8_tellsDrinkers 3 = .ok (.iload 4, 2) := by decide +kernel
theorem dX8_tellsDrinkers_5 : decode cX8_tellsDrinkers 5 = .ok (.iload_n 3, 1) := by decide +kernel
theorem dX8_tellsDrinkers_6 : decode cX8_tellsDrinkers 6 = .ok (.if_icmp .ge 34, 3) := by decide +kernel
theorem dX8_tellsDrinkers_9 : decode cX8_tellsDrinkers 9 = .ok (.aload_n 0, 1) := by decide +kernel
theorem dX8_tellsDrinkers_10 : decode cX8_tellsDrinkers 10 = .ok (.aload_n 0, 1) := by decide +kernel
theorem dX8_tellsDrinkers_11 : decode cX8_tellsDrinkers 11 = .ok (.getfield 10, 3) := by decide +kernel
theorem dX8_tellsDrinkers_14 : decode cX8_tellsDrinkers 14 = .ok (.getfield 104, 3) := by decide +kernel
theorem dX8_tellsDrinkers_17 : decode cX8_tellsDrinkers 17 = .ok (.iload_n 1, 1) := by decide +kernel
theorem dX8_tellsDrinkers_18 : decode cX8_tellsDrinkers 18 = .ok (.aaload, 1) := by decide +kernel
theorem dX8_tellsDrinkers_19 : decode cX8_tellsDrinkers 19 = .ok (.iload_n 2, 1) := by decide +kernel
theorem dX8_tellsDrinkers_20 : decode cX8_tellsDrinkers 20 = .ok (.iconst 2, 1) := by decide +kernel
theorem dX8_tellsDrinkers_21 : decode cX8_tellsDrinkers 21 = .ok (.iload 4, 2) := by decide +kernel
theorem dX8_tellsDrinkers_23 : decode cX8_tellsDrinkers 23 = .ok (.imul, 1) := by decide +kernel
theorem dX8_tellsDrinkers_24 : decode cX8_tellsDrinkers 24 = .ok (.iadd, 1) := by decide +kernel
theorem dX8_tellsDrinkers_25 : decode cX8_tellsDrinkers 25 = .ok (.iaload, 1) := by decide +kernel
theorem dX8_tellsDrinkers_26 : decode cX8_tellsDrinkers 26 = .ok (.invokevirtual 156, 3) := by decide +kernel
theorem dX8_tellsDrinkers_29 : decode cX8_tellsDrinkers 29 = .ok (.ifCond .ne 5, 3) := by decide +kernel
theorem dX8_tellsDrinkers_32 : decode cX8_tellsDrinkers 32 = .ok (.iconst 0, 1) := by decide +kernel
theorem dX8_tellsDrinkers_33 : decode cX8_tellsDrinkers 33 = .ok (.ireturn, 1) := by decide +kernel
theorem dX8_tellsDrinkers_34 : decode cX8_tellsDrinkers 34 = .ok (.iinc 4 1, 3) := by decide +kernel
theorem dX8_tellsDrinkers_37 : decode cX8_tellsDrinkers 37 = .ok (.goto (-34), 3) := by decide +kernel
theorem dX8_tellsDrinkers_40 : decode cX8_tellsDrinkers 40 = .ok (.iconst 1, 1) := by decide +kernel
theorem dX8_tellsDrinkers_41 : decode cX8_tellsDrinkers 41 = .ok (.ireturn, 1) := by decide +kernel
theorem dX8_isRow_0 : decode cX8_isRow 0 = .ok (.iload_n 0, 1) := by decide +kernel
theorem dX8_isRow_1 : decode cX8_isRow 1 = .ok (.ifCond .lt 13, 3) := by decide +kernel
theorem dX8_isRow_4 : decode cX8_isRow 4 = .ok (.iload_n 0, 1) := by decide +kernel
theorem dX8_isRow_5 : decode cX8_isRow 5 = .ok (.bipush 8, 2) := by decide +kernel
theorem dX8_isRow_7 : decode cX8_isRow 7 = .ok (.if_icmp .ge 7, 3) := by decide +kernel
theorem dX8_isRow_10 : decode cX8_isRow 10 = .ok (.iconst 1, 1) := by decide +kernel
theorem dX8_isRow_11 : decode cX8_isRow 11 = .ok (.goto 4, 3) := by decide +kernel
theorem dX8_isRow_14 : decode cX8_isRow 14 = .ok (.iconst 0, 1) := by decide +kernel
theorem dX8_isRow_15 : decode cX8_isRow 15 = .ok (.ireturn, 1) := by decide +kernel
theorem dX8_isCask_0 : decode cX8_isCask 0 = .ok (.iload_n 0, 1) := by decide +kernel
theorem dX8_isCask_1 : decode cX8_isCask 1 = .ok (.ifCond .lt 12, 3) := by decide +kernel
theorem dX8_isCask_4 : decode cX8_isCask 4 = .ok (.iload_n 0, 1) := by decide +kernel
theorem dX8_isCask_5 : decode cX8_isCask 5 = .ok (.iconst 4, 1) := by decide +kernel
theorem dX8_isCask_6 : decode cX8_isCask 6 = .ok (.if_icmp .ge 7, 3) := by decide +kernel
theorem dX8_isCask_9 : decode cX8_isCask 9 = .ok (.iconst 1, 1) := by decide +kernel
theorem dX8_isCask_10 : decode cX8_isCask 10 = .ok (.goto 4, 3) := by decide +kernel
theorem dX8_isCask_13 : decode cX8_isCask 13 = .ok (.iconst 0, 1) := by decide +kernel
theorem dX8_isCask_14 : decode cX8_isCask 14 = .ok (.ireturn, 1) := by decide +kernel
theorem dX8_isFirstOrSecond_0 : decode cX8_isFirstOrSecond 0 = .ok (.iload_n 0, 1) := by decide +kernel
theorem dX8_isFirstOrSecond_1 : decode cX8_isFirstOrSecond 1 = .ok (.ifCond .eq 8, 3) := by decide +kernel
theorem dX8_isFirstOrSecond_4 : decode cX8_isFirstOrSecond 4 = .ok (.iload_n 0, 1) := by decide +kernel
theorem dX8_isFirstOrSecond_5 : decode cX8_isFirstOrSecond 5 = .ok (.iconst 1, 1) := by decide +kernel
theorem dX8_isFirstOrSecond_6 : decode cX8_isFirstOrSecond 6 = .ok (.if_icmp .ne 7, 3) := by decide +kernel
theorem dX8_isFirstOrSecond_9 : decode cX8_isFirstOrSecond 9 = .ok (.iconst 1, 1) := by decide +kernel
theorem dX8_isFirstOrSecond_10 : decode cX8_isFirstOrSecond 10 = .ok (.goto 4, 3) := by decide +kernel
theorem dX8_isFirstOrSecond_13 : decode cX8_isFirstOrSecond 13 = .ok (.iconst 0, 1) := by decide +kernel
theorem dX8_isFirstOrSecond_14 : decode cX8_isFirstOrSecond 14 = .ok (.ireturn, 1) := by decide +kernel
theorem dX8_isKindOf_0 : decode cX8_isKindOf 0 = .ok (.iload_n 1, 1) := by decide +kernel
theorem dX8_isKindOf_1 : decode cX8_isKindOf 1 = .ok (.ifCond .eq 8, 3) := by decide +kernel
theorem dX8_isKindOf_4 : decode cX8_isKindOf 4 = .ok (.iload_n 1, 1) := by decide +kernel
theorem dX8_isKindOf_5 : decode cX8_isKindOf 5 = .ok (.iload_n 0, 1) := by decide +kernel
theorem dX8_isKindOf_6 : decode cX8_isKindOf 6 = .ok (.if_icmp .ne 5, 3) := by decide +kernel
theorem dX8_isKindOf_9 : decode cX8_isKindOf 9 = .ok (.iconst 1, 1) := by decide +kernel
theorem dX8_isKindOf_10 : decode cX8_isKindOf 10 = .ok (.ireturn, 1) := by decide +kernel
theorem dX8_isKindOf_11 : decode cX8_isKindOf 11 = .ok (.iload_n 1, 1) := by decide +kernel
theorem dX8_isKindOf_12 : decode cX8_isKindOf 12 = .ok (.iconst 1, 1) := by decide +kernel
theorem dX8_isKindOf_13 : decode cX8_isKindOf 13 = .ok (.if_icmp .ne 21, 3) := by decide +kernel
theorem dX8_isKindOf_16 : decode cX8_isKindOf 16 = .ok (.iload_n 0, 1) := by decide +kernel
theorem dX8_isKindOf_17 : decode cX8_isKindOf 17 = .ok (.iconst 2, 1) := by decide +kernel
theorem dX8_isKindOf_18 : decode cX8_isKindOf 18 = .ok (.if_icmp .eq 8, 3) := by decide +kernel
theorem dX8_isKindOf_21 : decode cX8_isKindOf 21 = .ok (.iload_n 0, 1) := by decide +kernel
theorem dX8_isKindOf_22 : decode cX8_isKindOf 22 = .ok (.iconst 3, 1) := by decide +kernel
theorem dX8_isKindOf_23 : decode cX8_isKindOf 23 = .ok (.if_icmp .ne 7, 3) := by decide +kernel
theorem dX8_isKindOf_26 : decode cX8_isKindOf 26 = .ok (.iconst 1, 1) := by decide +kernel
theorem dX8_isKindOf_27 : decode cX8_isKindOf 27 = .ok (.goto 22, 3) := by decide +kernel
theorem dX8_isKindOf_30 : decode cX8_isKindOf 30 = .ok (.iconst 0, 1) := by decide +kernel
theorem dX8_isKindOf_31 : decode cX8_isKindOf 31 = .ok (.goto 18, 3) := by decide +kernel
theorem dX8_isKindOf_34 : decode cX8_isKindOf 34 = .ok (.iload_n 1, 1) := by decide +kernel
theorem dX8_isKindOf_35 : decode cX8_isKindOf 35 = .ok (.iconst 4, 1) := by decide +kernel
theorem dX8_isKindOf_36 : decode cX8_isKindOf 36 = .ok (.if_icmp .ne 12, 3) := by decide +kernel
theorem dX8_isKindOf_39 : decode cX8_isKindOf 39 = .ok (.iload_n 0, 1) := by decide +kernel
theorem dX8_isKindOf_40 : decode cX8_isKindOf 40 = .ok (.iconst 5, 1) := by decide +kernel
theorem dX8_isKindOf_41 : decode cX8_isKindOf 41 = .ok (.if_icmp .ne 7, 3) := by decide +kernel
theorem dX8_isKindOf_44 : decode cX8_isKindOf 44 = .ok (.iconst 1, 1) := by decide +kernel
theorem dX8_isKindOf_45 : decode cX8_isKindOf 45 = .ok (.goto 4, 3) := by decide +kernel
theorem dX8_isKindOf_48 : decode cX8_isKindOf 48 = .ok (.iconst 0, 1) := by decide +kernel
theorem dX8_isKindOf_49 : decode cX8_isKindOf 49 = .ok (.ireturn, 1) := by decide +kernel
theorem dX8_countOrSet_0 : decode cX8_countOrSet 0 = .ok (.iload_n 0, 1) := by decide +kernel
theorem dX8_countOrSet_1 : decode cX8_countOrSet 1 = .ok (.ldc 165, 2) := by decide +kernel
theorem dX8_countOrSet_3 : decode cX8_countOrSet 3 = .ok (.if_icmp .eq 8, 3) := by decide +kernel
theorem dX8_countOrSet_6 : decode cX8_countOrSet 6 = .ok (.iload_n 1, 1) := by decide +kernel
theorem dX8_countOrSet_7 : decode cX8_countOrSet 7 = .ok (.iconst 1, 1) := by decide +kernel
theorem dX8_countOrSet_8 : decode cX8_countOrSet 8 = .ok (.if_icmp .ne 7, 3) := by decide +kernel
theorem dX8_countOrSet_11 : decode cX8_countOrSet 11 = .ok (.iload_n 0, 1) := by decide +kernel
theorem dX8_countOrSet_12 : decode cX8_countOrSet 12 = .ok (.goto 7, 3) := by decide +kernel
theorem dX8_countOrSet_15 : decode cX8_countOrSet 15 = .ok (.iload_n 0, 1) := by decide +kernel
theorem dX8_countOrSet_16 : decode cX8_countOrSet 16 = .ok (.invokestatic 252, 3) := by decide +kernel
theorem dX8_countOrSet_19 : decode cX8_countOrSet 19 = .ok (.ireturn, 1) := by decide +kernel
theorem dX8_power_0 : decode cX8_power 0 = .ok (.lconst 1, 1) := by decide +kernel
theorem dX8_power_1 : decode cX8_power 1 = .ok (.lstore_n 3, 1) := by decide +kernel
theorem dX8_power_2 : decode cX8_power 2 = .ok (.iconst 0, 1) := by decide +kernel
theorem dX8_power_3 : decode cX8_power 3 = .ok (.istore 5, 2) := by decide +kernel
theorem dX8_power_5 : decode cX8_power 5 = .ok (.iload 5, 2) := by decide +kernel
theorem dX8_power_7 : decode cX8_power 7 = .ok (.iload_n 2, 1) := by decide +kernel
theorem dX8_power_8 : decode cX8_power 8 = .ok (.if_icmp .ge 13, 3) := by decide +kernel
theorem dX8_power_11 : decode cX8_power 11 = .ok (.lload_n 3, 1) := by decide +kernel
theorem dX8_power_12 : decode cX8_power 12 = .ok (.lload_n 0, 1) := by decide +kernel
theorem dX8_power_13 : decode cX8_power 13 = .ok (.lmul, 1) := by decide +kernel
theorem dX8_power_14 : decode cX8_power 14 = .ok (.lstore_n 3, 1) := by decide +kernel
theorem dX8_power_15 : decode cX8_power 15 = .ok (.iinc 5 1, 3) := by decide +kernel
theorem dX8_power_18 : decode cX8_power 18 = .ok (.goto (-13), 3) := by decide +kernel
theorem dX8_power_21 : decode cX8_power 21 = .ok (.lload_n 3, 1) := by decide +kernel
theorem dX8_power_22 : decode cX8_power 22 = .ok (.lreturn, 1) := by decide +kernel
theorem dX8_commonDivisor_0 : decode cX8_commonDivisor 0 = .ok (.lload_n 0, 1) := by decide +kernel
theorem dX8_commonDivisor_1 : decode cX8_commonDivisor 1 = .ok (.lstore 4, 2) := by decide +kernel
theorem dX8_commonDivisor_3 : decode cX8_commonDivisor 3 = .ok (.lload_n 2, 1) := by decide +kernel
theorem dX8_commonDivisor_4 : decode cX8_commonDivisor 4 = .ok (.lstore 6, 2) := by decide +kernel
end
section
theorem dX8_commonDivisor_6 : decode cX8_commonDivisor 6 = .ok (.iconst 0, 1) := by decide +kernel
theorem dX8_commonDivisor_7 : decode cX8_commonDivisor 7 = .ok (.istore 8, 2) := by decide +kernel
theorem dX8_commonDivisor_9 : decode cX8_commonDivisor 9 = .ok (.iload 8, 2) := by decide +kernel
theorem dX8_commonDivisor_11 : decode cX8_commonDivisor 11 = .ok (.bipush 100, 2) := by decide +kernel
theorem dX8_commonDivisor_13 : decode cX8_commonDivisor 13 = .ok (.if_icmp .ge 31, 3) := by decide +kernel
theorem dX8_commonDivisor_16 : decode cX8_commonDivisor 16 = .ok (.lload 6, 2) := by decide +kernel
theorem dX8_commonDivisor_18 : decode cX8_commonDivisor 18 = .ok (.lconst 0, 1) := by decide +kernel
theorem dX8_commonDivisor_19 : decode cX8_commonDivisor 19 = .ok (.lcmp, 1) := by decide +kernel
theorem dX8_commonDivisor_20 : decode cX8_commonDivisor 20 = .ok (.ifCond .eq 24, 3) := by decide +kernel
theorem dX8_commonDivisor_23 : decode cX8_commonDivisor 23 = .ok (.lload 4, 2) := by decide +kernel
theorem dX8_commonDivisor_25 : decode cX8_commonDivisor 25 = .ok (.lload 6, 2) := by decide +kernel
theorem dX8_commonDivisor_27 : decode cX8_commonDivisor 27 = .ok (.lrem, 1) := by decide +kernel
theorem dX8_commonDivisor_28 : decode cX8_commonDivisor 28 = .ok (.lstore 9, 2) := by decide +kernel
theorem dX8_commonDivisor_30 : decode cX8_commonDivisor 30 = .ok (.lload 6, 2) := by decide +kernel
theorem dX8_commonDivisor_32 : decode cX8_commonDivisor 32 = .ok (.lstore 4, 2) := by decide +kernel
theorem dX8_commonDivisor_34 : decode cX8_commonDivisor 34 = .ok (.lload 9, 2) := by decide +kernel
theorem dX8_commonDivisor_36 : decode cX8_commonDivisor 36 = .ok (.lstore 6, 2) := by decide +kernel
theorem dX8_commonDivisor_38 : decode cX8_commonDivisor 38 = .ok (.iinc 8 1, 3) := by decide +kernel
theorem dX8_commonDivisor_41 : decode cX8_commonDivisor 41 = .ok (.goto (-32), 3) := by decide +kernel
theorem dX8_commonDivisor_44 : decode cX8_commonDivisor 44 = .ok (.lconst 1, 1) := by decide +kernel
theorem dX8_commonDivisor_45 : decode cX8_commonDivisor 45 = .ok (.lload 4, 2) := by decide +kernel
theorem dX8_commonDivisor_47 : decode cX8_commonDivisor 47 = .ok (.invokestatic 363, 3) := by decide +kernel
theorem dX8_commonDivisor_50 : decode cX8_commonDivisor 50 = .ok (.lreturn, 1) := by decide +kernel
theorem dX9_init_0 : decode cX9_init 0 = .ok (.aload_n 0, 1) := by decide +kernel
theorem dX9_init_1 : decode cX9_init 1 = .ok (.invokespecial 1, 3) := by decide +kernel
theorem dX9_init_4 : decode cX9_init 4 = .ok (.aload_n 0, 1) := by decide +kernel
theorem dX9_init_5 : decode cX9_init 5 = .ok (.bipush 8, 2) := by decide +kernel
theorem dX9_init_7 : decode cX9_init 7 = .ok (.newarray .int, 2) := by decide +kernel
theorem dX9_init_9 : decode cX9_init 9 = .ok (.putfield 7, 3) := by decide +kernel
theorem dX9_init_12 : decode cX9_init 12 = .ok (.aload_n 0, 1) := by decide +kernel
theorem dX9_init_13 : decode cX9_init 13 = .ok (.bipush 8, 2) := by decide +kernel
theorem dX9_init_15 : decode cX9_init 15 = .ok (.newarray .int, 2) := by decide +kernel
theorem dX9_init_17 : decode cX9_init 17 = .ok (.putfield 13, 3) := by decide +kernel
theorem dX9_init_20 : decode cX9_init 20 = .ok (.aload_n 0, 1) := by decide +kernel
theorem dX9_init_21 : decode cX9_init 21 = .ok (.sipush 320, 3) := by decide +kernel
theorem dX9_init_24 : decode cX9_init 24 = .ok (.newarray .int, 2) := by decide +kernel
theorem dX9_init_26 : decode cX9_init 26 = .ok (.putfield 16, 3) := by decide +kernel
theorem dX9_init_29 : decode cX9_init 29 = .ok (.aload_n 0, 1) := by decide +kernel
theorem dX9_init_30 : decode cX9_init 30 = .ok (.bipush 120, 2) := by decide +kernel
theorem dX9_init_32 : decode cX9_init 32 = .ok (.newarray .int, 2) := by decide +kernel
theorem dX9_init_34 : decode cX9_init 34 = .ok (.putfield 19, 3) := by decide +kernel
theorem dX9_init_37 : decode cX9_init 37 = .ok (.aload_n 0, 1) := by decide +kernel
theorem dX9_init_38 : decode cX9_init 38 = .ok (.bipush 66, 2) := by decide +kernel
theorem dX9_init_40 : decode cX9_init 40 = .ok (.newarray .int, 2) := by decide +kernel
theorem dX9_init_42 : decode cX9_init 42 = .ok (.putfield 22, 3) := by decide +kernel
theorem dX9_init_45 : decode cX9_init 45 = .ok (.aload_n 0, 1) := by decide +kernel
theorem dX9_init_46 : decode cX9_init 46 = .ok (.sipush 1584, 3) := by decide +kernel
theorem dX9_init_49 : decode cX9_init 49 = .ok (.newarray .int, 2) := by decide +kernel
theorem dX9_init_51 : decode cX9_init 51 = .ok (.putfield 25, 3) := by decide +kernel
theorem dX9_init_54 : decode cX9_init 54 = .ok (.aload_n 0, 1) := by decide +kernel
theorem dX9_init_55 : decode cX9_init 55 = .ok (.sipush 132, 3) := by decide +kernel
theorem dX9_init_58 : decode cX9_init 58 = .ok (.newarray .int, 2) := by decide +kernel
theorem dX9_init_60 : decode cX9_init 60 = .ok (.putfield 28, 3) := by decide +kernel
theorem dX9_init_63 : decode cX9_init 63 = .ok (.aload_n 0, 1) := by decide +kernel
theorem dX9_init_64 : decode cX9_init 64 = .ok (.iconst 2, 1) := by decide +kernel
theorem dX9_init_65 : decode cX9_init 65 = .ok (.newarray .boolean, 2) := by decide +kernel
theorem dX9_init_67 : decode cX9_init 67 = .ok (.putfield 31, 3) := by decide +kernel
theorem dX9_init_70 : decode cX9_init 70 = .ok (.aload_n 0, 1) := by decide +kernel
theorem dX9_init_71 : decode cX9_init 71 = .ok (.bipush 16, 2) := by decide +kernel
theorem dX9_init_73 : decode cX9_init 73 = .ok (.newarray .int, 2) := by decide +kernel
theorem dX9_init_75 : decode cX9_init 75 = .ok (.putfield 35, 3) := by decide +kernel
theorem dX9_init_78 : decode cX9_init 78 = .ok (.aload_n 0, 1) := by decide +kernel
theorem dX9_init_79 : decode cX9_init 79 = .ok (.bipush 66, 2) := by decide +kernel
theorem dX9_init_81 : decode cX9_init 81 = .ok (.newarray .int, 2) := by decide +kernel
theorem dX9_init_83 : decode cX9_init 83 = .ok (.putfield 38, 3) := by decide +kernel
theorem dX9_init_86 : decode cX9_init 86 = .ok (.aload_n 0, 1) := by decide +kernel
theorem dX9_init_87 : decode cX9_init 87 = .ok (.bipush 6, 2) := by decide +kernel
theorem dX9_init_89 : decode cX9_init 89 = .ok (.newarray .int, 2) := by decide +kernel
theorem dX9_init_91 : decode cX9_init 91 = .ok (.putfield 41, 3) := by decide +kernel
theorem dX9_init_94 : decode cX9_init 94 = .ok (.aload_n 0, 1) := by decide +kernel
theorem dX9_init_95 : decode cX9_init 95 = .ok (.bipush 6, 2) := by decide +kernel
theorem dX9_init_97 : decode cX9_init 97 = .ok (.newarray .int, 2) := by decide +kernel
theorem dX9_init_99 : decode cX9_init 99 = .ok (.putfield 44, 3) := by decide +kernel
theorem dX9_init_102 : decode cX9_init 102 = .ok (.aload_n 0, 1) := by decide +kernel
theorem dX9_init_103 : decode cX9_init 103 = .ok (.bipush 6, 2) := by decide +kernel
theorem dX9_init_105 : decode cX9_init 105 = .ok (.newarray .int, 2) := by decide +kernel
theorem dX9_init_107 : decode cX9_init 107 = .ok (.putfield 47, 3) := by decide +kernel
theorem dX9_init_110 : decode cX9_init 110 = .ok (.aload_n 0, 1) := by decide +kernel
theorem dX9_init_111 : decode cX9_init 111 = .ok (.bipush 66, 2) := by decide +kernel
theorem dX9_init_113 : decode cX9_init 113 = .ok (.newarray .int, 2) := by decide +kernel
theorem dX9_init_115 : decode cX9_init 115 = .ok (.putfield 50, 3) := by decide +kernel
theorem dX9_init_118 : decode cX9_init 118 = .ok (.iconst 0, 1) := by decide +kernel
theorem dX9_init_119 : decode cX9_init 119 = .ok (.istore_n 1, 1) := by decide +kernel
theorem dX9_init_120 : decode cX9_init 120 = .ok (.iload_n 1, 1) := by decide +kernel
theorem dX9_init_121 : decode cX9_init 121 = .ok (.bipush 8, 2) := by decide +kernel
theorem dX9_init_123 : decode cX9_init 123 = .ok (.if_icmp .ge 16, 3) := by decide +kernel
theorem dX9_init_126 : decode cX9_init 126 = .ok (.aload_n 0, 1) := by decide +kernel
theorem dX9_init_127 : decode cX9_init 127 = .ok (.getfield 13, 3) := by decide +kernel
theorem dX9_init_130 : decode cX9_init 130 = .ok (.iload_n 1, 1) := by decide +kernel
theorem dX9_init_131 : decode cX9_init 131 = .ok (.iconst (-1), 1) := by decide +kernel
theorem dX9_init_132 : decode cX9_init 132 = .ok (.iastore, 1) := by decide +kernel
theorem dX9_init_133 : decode cX9_init 133 = .ok (.iinc 1 1, 3) := by decide +kernel
theorem dX9_init_136 : decode cX9_init 136 = .ok (.goto (-16), 3) := by decide +kernel
theorem dX9_init_139 : decode cX9_init 139 = .ok (.return_, 1) := by decide +kernel
theorem dX9_in_0 : decode cX9_in 0 = .ok (.lload_n 0, 1) := by decide +kernel
theorem dX9_in_1 : decode cX9_in 1 = .ok (.lload_n 2, 1) := by decide +kernel
theorem dX9_in_2 : decode cX9_in 2 = .ok (.lcmp, 1) := by decide +kernel
theorem dX9_in_3 : decode cX9_in 3 = .ok (.ifCond .lt 14, 3) := by decide +kernel
theorem dX9_in_6 : decode cX9_in 6 = .ok (.lload_n 0, 1) := by decide +kernel
theorem dX9_in_7 : decode cX9_in 7 = .ok (.lload 4, 2) := by decide +kernel
theorem dX9_in_9 : decode cX9_in 9 = .ok (.lcmp, 1) := by decide +kernel
theorem dX9_in_10 : decode cX9_in 10 = .ok (.ifCond .gt 7, 3) := by decide +kernel
theorem dX9_in_13 : decode cX9_in 13 = .ok (.iconst 1, 1) := by decide +kernel
theorem dX9_in_14 : decode cX9_in 14 = .ok (.goto 4, 3) := by decide +kernel
theorem dX9_in_17 : decode cX9_in 17 = .ok (.iconst 0, 1) := by decide +kernel
theorem dX9_in_18 : decode cX9_in 18 = .ok (.ireturn, 1) := by decide +kernel
theorem dX9_found_0 : decode cX9_found 0 = .ok (.aload_n 0, 1) := by decide +kernel
theorem dX9_found_1 : decode cX9_found 1 = .ok (.iload_n 1, 1) := by decide +kernel
theorem dX9_found_2 : decode cX9_found 2 = .ok (.putfield 53, 3) := by decide +kernel
theorem dX9_found_5 : decode cX9_found 5 = .ok (.ldc 57, 2) := by decide +kernel
theorem dX9_found_7 : decode cX9_found 7 = .ok (.iload_n 1, 1) := by decide +kernel
theorem dX9_found_8 : decode cX9_found 8 = .ok (.isub, 1) := by decide +kernel
theorem dX9_found_9 : decode cX9_found 9 = .ok (.ireturn, 1) := by decide +kernel
theorem dX9_well_0 : decode cX9_well 0 = .ok (.aload_n 0, 1) := by decide +kernel
theorem dX9_well_1 : decode cX9_well 1 = .ok (.iconst 0, 1) := by decide +kernel
theorem dX9_well_2 : decode cX9_well 2 = .ok (.putfield 53, 3) := by decide +kernel
theorem dX9_well_5 : decode cX9_well 5 = .ok (.iload_n 1, 1) := by decide +kernel
theorem dX9_well_6 : decode cX9_well 6 = .ok (.ireturn, 1) := by decide +kernel
theorem dX9_isRow_0 : decode cX9_isRow 0 = .ok (.iload_n 0, 1) := by decide +kernel
theorem dX9_isRow_1 : decode cX9_isRow 1 = .ok (.i2l, 1) := by decide +kernel
theorem dX9_isRow_2 : decode cX9_isRow 2 = .ok (.lconst 0, 1) := by decide +kernel
theorem dX9_isRow_3 : decode cX9_isRow 3 = .ok (.ldc2_w 58, 3) := by decide +kernel
theorem dX9_isRow_6 : decode cX9_isRow 6 = .ok (.invokestatic 60, 3) := by decide +kernel
theorem dX9_isRow_9 : decode cX9_isRow 9 = .ok (.ireturn, 1) := by decide +kernel
theorem dX9_row_0 : decode cX9_row 0 = .ok (.iload_n 1, 1) := by decide +kernel
theorem dX9_row_1 : decode cX9_row 1 = .ok (.invokestatic 64, 3) := by decide +kernel
theorem dX9_row_4 : decode cX9_row 4 = .ok (.ifCond .eq 21, 3) := by decide +kernel
theorem dX9_row_7 : decode cX9_row 7 = .ok (.iload_n 2, 1) := by decide +kernel
theorem dX9_row_8 : decode cX9_row 8 = .ok (.i2l, 1) := by decide +kernel
theorem dX9_row_9 : decode cX9_row 9 = .ok (.lconst 0, 1) := by decide +kernel
theorem dX9_row_10 : decode cX9_row 10 = .ok (.ldc2_w 68, 3) := by decide +kernel
theorem dX9_row_13 : decode cX9_row 13 = .ok (.invokestatic 60, 3) := by decide +kernel
theorem dX9_row_16 : decode cX9_row 16 = .ok (.ifCond .eq 9, 3) := by decide +kernel
theorem dX9_row_19 : decode cX9_row 19 = .ok (.iload_n 3, 1) := by decide +kernel
theorem dX9_row_20 : decode cX9_row 20 = .ok (.bipush 40, 2) := by decide +kernel
theorem dX9_row_22 : decode cX9_row 22 = .ok (.if_icmp .le 6, 3) := by decide +kernel
theorem dX9_row_25 : decode cX9_row 25 = .ok (.ldc 70, 2) := by decide +kernel
theorem dX9_row_27 : decode cX9_row 27 = .ok (.ireturn, 1) := by decide +kernel
theorem dX9_row_28 : decode cX9_row 28 = .ok (.iload_n 3, 1) := by decide +kernel
theorem dX9_row_29 : decode cX9_row 29 = .ok (.ifCond .ge 9, 3) := by decide +kernel
theorem dX9_row_32 : decode cX9_row 32 = .ok (.aload_n 0, 1) := by decide +kernel
theorem dX9_row_33 : decode cX9_row 33 = .ok (.iconst 4, 1) := by decide +kernel
theorem dX9_row_34 : decode cX9_row 34 = .ok (.invokevirtual 71, 3) := by decide +kernel
theorem dX9_row_37 : decode cX9_row 37 = .ok (.ireturn, 1) := by decide +kernel
theorem dX9_row_38 : decode cX9_row 38 = .ok (.aload_n 0, 1) := by decide +kernel
theorem dX9_row_39 : decode cX9_row 39 = .ok (.getfield 7, 3) := by decide +kernel
theorem dX9_row_42 : decode cX9_row 42 = .ok (.iload_n 1, 1) := by decide +kernel
theorem dX9_row_43 : decode cX9_row 43 = .ok (.iload_n 2, 1) := by decide +kernel
theorem dX9_row_44 : decode cX9_row 44 = .ok (.iastore, 1) := by decide +kernel
theorem dX9_row_45 : decode cX9_row 45 = .ok (.aload_n 0, 1) := by decide +kernel
theorem dX9_row_46 : decode cX9_row 46 = .ok (.getfield 13, 3) := by decide +kernel
theorem dX9_row_49 : decode cX9_row 49 = .ok (.iload_n 1, 1) := by decide +kernel
theorem dX9_row_50 : decode cX9_row 50 = .ok (.iload_n 3, 1) := by decide +kernel
theorem dX9_row_51 : decode cX9_row 51 = .ok (.iastore, 1) := by decide +kernel
theorem dX9_row_52 : decode cX9_row 52 = .ok (.iconst 0, 1) := by decide +kernel
theorem dX9_row_53 : decode cX9_row 53 = .ok (.istore 4, 2) := by decide +kernel
theorem dX9_row_55 : decode cX9_row 55 = .ok (.iload 4, 2) := by decide +kernel
theorem dX9_row_57 : decode cX9_row 57 = .ok (.bipush 40, 2) := by decide +kernel
theorem dX9_row_59 : decode cX9_row 59 = .ok (.if_icmp .ge 22, 3) := by decide +kernel
theorem dX9_row_62 : decode cX9_row 62 = .ok (.aload_n 0, 1) := by decide +kernel
theorem dX9_row_63 : decode cX9_row 63 = .ok (.getfield 16, 3) := by decide +kernel
theorem dX9_row_66 : decode cX9_row 66 = .ok (.bipush 40, 2) := by decide +kernel
theorem dX9_row_68 : decode cX9_row 68 = .ok (.iload_n 1, 1) := by decide +kernel
theorem dX9_row_69 : decode cX9_row 69 = .ok (.imul, 1) := by decide +kernel
theorem dX9_row_70 : decode cX9_row 70 = .ok (.iload 4, 2) := by decide +kernel
theorem dX9_row_72 : decode cX9_row 72 = .ok (.iadd, 1) := by decide +kernel
theorem dX9_row_73 : decode cX9_row 73 = .ok (.iconst 0, 1) := by decide +kernel
theorem dX9_row_74 : decode cX9_row 74 = .ok (.iastore, 1) := by decide +kernel
theorem dX9_row_75 : decode cX9_row 75 = .ok (.iinc 4 1, 3) := by decide +kernel
theorem dX9_row_78 : decode cX9_row 78 = .ok (.goto (-23), 3) := by decide +kernel
theorem dX9_row_81 : decode cX9_row 81 = .ok (.aload_n 0, 1) := by decide +kernel
theorem dX9_row_82 : decode cX9_row 82 = .ok (.iload_n 3, 1) := by decide +kernel
theorem dX9_row_83 : decode cX9_row 83 = .ok (.invokevirtual 75, 3) := by decide +kernel
theorem dX9_row_86 : decode cX9_row 86 = .ok (.ireturn, 1) := by decide +kernel
theorem dX9_set_0 : decode cX9_set 0 = .ok (.iload_n 1, 1) := by decide +kernel
theorem dX9_set_1 : decode cX9_set 1 = .ok (.invokestatic 64, 3) := by decide +kernel
theorem dX9_set_4 : decode cX9_set 4 = .ok (.ifCond .ne 6, 3) := by decide +kernel
theorem dX9_set_7 : decode cX9_set 7 = .ok (.ldc 70, 2) := by decide +kernel
theorem dX9_set_9 : decode cX9_set 9 = .ok (.ireturn, 1) := by decide +kernel
theorem dX9_set_10 : decode cX9_set 10 = .ok (.aload_n 0, 1) := by decide +kernel
theorem dX9_set_11 : decode cX9_set 11 = .ok (.getfield 13, 3) := by decide +kernel
theorem dX9_set_14 : decode cX9_set 14 = .ok (.iload_n 1, 1) := by decide +kernel
theorem dX9_set_15 : decode cX9_set 15 = .ok (.iaload, 1) := by decide +kernel
theorem dX9_set_16 : decode cX9_set 16 = .ok (.ifCond .ge 9, 3) := by decide +kernel
theorem dX9_set_19 : decode cX9_set 19 = .ok (.aload_n 0, 1) := by decide +kernel
theorem dX9_set_20 : decode cX9_set 20 = .ok (.iconst 1, 1) := by decide +kernel
theorem dX9_set_21 : decode cX9_set 21 = .ok (.invokevirtual 71, 3) := by decide +kernel
theorem dX9_set_24 : decode cX9_set 24 = .ok (.ireturn, 1) := by decide +kernel
theorem dX9_set_25 : decode cX9_set 25 = .ok (.iload_n 2, 1) := by decide +kernel
theorem dX9_set_26 : decode cX9_set 26 = .ok (.i2l, 1) := by decide +kernel
theorem dX9_set_27 : decode cX9_set 27 = .ok (.lconst 0, 1) := by decide +kernel
theorem dX9_set_28 : decode cX9_set 28 = .ok (.aload_n 0, 1) := by decide +kernel
theorem dX9_set_29 : decode cX9_set 29 = .ok (.getfield 13, 3) := by decide +kernel
theorem dX9_set_32 : decode cX9_set 32 = .ok (.iload_n 1, 1) := by decide +kernel
theorem dX9_set_33 : decode cX9_set 33 = .ok (.iaload, 1) := by decide +kernel
theorem dX9_set_34 : decode cX9_set 34 = .ok (.iconst 1, 1) := by decide +kernel
theorem dX9_set_35 : decode cX9_set 35 = .ok (.isub, 1) := by decide +kernel
theorem dX9_set_36 : decode cX9_set 36 = .ok (.i2l, 1) := by decide +kernel
theorem dX9_set_37 : decode cX9_set 37 = .ok (.invokestatic 60, 3) := by decide +kernel
theorem dX9_set_40 : decode cX9_set 40 = .ok (.ifCond .ne 9, 3) := by decide +kernel
theorem dX9_set_43 : decode cX9_set 43 = .ok (.aload_n 0, 1) := by decide +kernel
theorem dX9_set_44 : decode cX9_set 44 = .ok (.iconst 2, 1) := by decide +kernel
theorem dX9_set_45 : decode cX9_set 45 = .ok (.invokevirtual 71, 3) := by decide +kernel
theorem dX9_set_48 : decode cX9_set 48 = .ok (.ireturn, 1) := by decide +kernel
theorem dX9_set_49 : decode cX9_set 49 = .ok (.aload_n 0, 1) := by decide +kernel
theorem dX9_set_50 : decode cX9_set 50 = .ok (.getfield 16, 3) := by decide +kernel
theorem dX9_set_53 : decode cX9_set 53 = .ok (.bipush 40, 2) := by decide +kernel
theorem dX9_set_55 : decode cX9_set 55 = .ok (.iload_n 1, 1) := by decide +kernel
theorem dX9_set_56 : decode cX9_set 56 = .ok (.imul, 1) := by decide +kernel
theorem dX9_set_57 : decode cX9_set 57 = .ok (.iload_n 2, 1) := by decide +kernel
theorem dX9_set_58 : decode cX9_set 58 = .ok (.iadd, 1) := by decide +kernel
theorem dX9_set_59 : decode cX9_set 59 = .ok (.aload_n 0, 1) := by decide +kernel
theorem dX9_set_60 : decode cX9_set 60 = .ok (.getfield 7, 3) := by decide +kernel
theorem dX9_set_63 : decode cX9_set 63 = .ok (.iload_n 1, 1) := by decide +kernel
theorem dX9_set_64 : decode cX9_set 64 = .ok (.iaload, 1) := by decide +kernel
theorem dX9_set_65 : decode cX9_set 65 = .ok (.ifCond .ne 8, 3) := by decide +kernel
theorem dX9_set_68 : decode cX9_set 68 = .ok (.iload_n 3, 1) := by decide +kernel
theorem dX9_set_69 : decode cX9_set 69 = .ok (.i2b, 1) := by decide +kernel
theorem dX9_set_70 : decode cX9_set 70 = .ok (.goto 19, 3) := by decide +kernel
theorem dX9_set_73 : decode cX9_set 73 = .ok (.aload_n 0, 1) := by decide +kernel
theorem dX9_set_74 : decode cX9_set 74 = .ok (.getfield 7, 3) := by decide +kernel
theorem dX9_set_77 : decode cX9_set 77 = .ok (.iload_n 1, 1) := by decide +kernel
theorem dX9_set_78 : decode cX9_set 78 = .ok (.iaload, 1) := by decide +kernel
theorem dX9_set_79 : decode cX9_set 79 = .ok (.iconst 1, 1) := by decide +kernel
theorem dX9_set_80 : decode cX9_set 80 = .ok (.if_icmp .ne 8, 3) := by decide +kernel
theorem dX9_set_83 : decode cX9_set 83 = .ok (.iload_n 3, 1) := by decide +kernel
theorem dX9_set_84 : decode cX9_set 84 = .ok (.i2s, 1) := by decide +kernel
theorem dX9_set_85 : decode cX9_set 85 = .ok (.goto 4, 3) := by decide +kernel
theorem dX9_set_88 : decode cX9_set 88 = .ok (.iload_n 3, 1) := by decide +kernel
theorem dX9_set_89 : decode cX9_set 89 = .ok (.iastore, 1) := by decide +kernel
theorem dX9_set_90 : decode cX9_set 90 = .ok (.aload_n 0, 1) := by decide +kernel
theorem dX9_set_91 : decode cX9_set 91 = .ok (.aload_n 0, 1) := by decide +kernel
theorem dX9_set_92 : decode cX9_set 92 = .ok (.getfield 16, 3) := by decide +kernel
theorem dX9_set_95 : decode cX9_set 95 = .ok (.bipush 40, 2) := by decide +kernel
theorem dX9_set_97 : decode cX9_set 97 = .ok (.iload_n 1, 1) := by decide +kernel
theorem dX9_set_98 : decode cX9_set 98 = .ok (.imul, 1) := by decide +kernel
theorem dX9_set_99 : decode cX9_set 99 = .ok (.iload_n 2, 1) := by decide +kernel
theorem dX9_set_100 : decode cX9_set 100 = .ok (.iadd, 1) := by decide +kernel
theorem dX9_set_101 : decode cX9_set 101 = .ok (.iaload, 1) := by decide +kernel
theorem dX9_set_102 : decode cX9_set 102 = .ok (.invokevirtual 75, 3) := by decide +kernel
theorem dX9_set_105 : decode cX9_set 105 = .ok (.ireturn, 1) := by decide +kernel
theorem dX9_copy_0 : decode cX9_copy 0 = .ok (.iload_n 1, 1) := by decide +kernel
theorem dX9_copy_1 : decode cX9_copy 1 = .ok (.invokestatic 64, 3) := by decide +kernel
theorem dX9_copy_4 : decode cX9_copy 4 = .ok (.ifCond .eq 10, 3) := by decide +kernel
theorem dX9_copy_7 : decode cX9_copy 7 = .ok (.iload_n 3, 1) := by decide +kernel
theorem dX9_copy_8 : decode cX9_copy 8 = .ok (.invokestatic 64, 3) := by decide +kernel
theorem dX9_copy_11 : decode cX9_copy 11 = .ok (.ifCond .ne 6, 3) := by decide +kernel
theorem dX9_copy_14 : decode cX9_copy 14 = .ok (.ldc 70, 2) := by decide +kernel
theorem dX9_copy_16 : decode cX9_copy 16 = .ok (.ireturn, 1) := by decide +kernel
theorem dX9_copy_17 : decode cX9_copy 17 = .ok (.aload_n 0, 1) := by decide +kernel
theorem dX9_copy_18 : decode cX9_copy 18 = .ok (.getfield 13, 3) := by decide +kernel
theorem dX9_copy_21 : decode cX9_copy 21 = .ok (.iload_n 1, 1) := by decide +kernel
theorem dX9_copy_22 : decode cX9_copy 22 = .ok (.iaload, 1) := by decide +kernel
theorem dX9_copy_23 : decode cX9_copy 23 = .ok (.ifCond .lt 12, 3) := by decide +kernel
theorem dX9_copy_26 : decode cX9_copy 26 = .ok (.aload_n 0, 1) := by decide +kernel
theorem dX9_copy_27 : decode cX9_copy 27 = .ok (.getfield 13, 3) := by decide +kernel
theorem dX9_copy_30 : decode cX9_copy 30 = .ok (.iload_n 3, 1) := by decide +kernel
theorem dX9_copy_31 : decode cX9_copy 31 = .ok (.iaload, 1) := by decide +kernel
theorem dX9_copy_32 : decode cX9_copy 32 = .ok (.ifCond .ge 9, 3) := by decide +kernel
theorem dX9_copy_35 : decode cX9_copy 35 = .ok (.aload_n 0, 1) := by decide +kernel
theorem dX9_copy_36 : decode cX9_copy 36 = .ok (.iconst 1, 1) := by decide +kernel
theorem dX9_copy_37 : decode cX9_copy 37 = .ok (.invokevirtual 71, 3) := by decide +kernel
theorem dX9_copy_40 : decode cX9_copy 40 = .ok (.ireturn, 1) := by decide +kernel
theorem dX9_copy_41 : decode cX9_copy 41 = .ok (.aload_n 0, 1) := by decide +kernel
theorem dX9_copy_42 : decode cX9_copy 42 = .ok (.getfield 7, 3) := by decide +kernel
theorem dX9_copy_45 : decode cX9_copy 45 = .ok (.iload_n 1, 1) := by decide +kernel
theorem dX9_copy_46 : decode cX9_copy 46 = .ok (.iaload, 1) := by decide +kernel
theorem dX9_copy_47 : decode cX9_copy 47 = .ok (.aload_n 0, 1) := by decide +kernel
theorem dX9_copy_48 : decode cX9_copy 48 = .ok (.getfield 7, 3) := by decide +kernel
theorem dX9_copy_51 : decode cX9_copy 51 = .ok (.iload_n 3, 1) := by decide +kernel
theorem dX9_copy_52 : decode cX9_copy 52 = .ok (.iaload, 1) := by decide +kernel
theorem dX9_copy_53 : decode cX9_copy 53 = .ok (.if_icmp .eq 9, 3) := by decide +kernel
theorem dX9_copy_56 : decode cX9_copy 56 = .ok (.aload_n 0, 1) := by decide +kernel
theorem dX9_copy_57 : decode cX9_copy 57 = .ok (.iconst 5, 1) := by decide +kernel
theorem dX9_copy_58 : decode cX9_copy 58 = .ok (.invokevirtual 71, 3) := by decide +kernel
theorem dX9_copy_61 : decode cX9_copy 61 = .ok (.ireturn, 1) := by decide +kernel
theorem dX9_copy_62 : decode cX9_copy 62 = .ok (.iload_n 2, 1) := by decide +kernel
theorem dX9_copy_63 : decode cX9_copy 63 = .ok (.ifCond .lt 48, 3) := by decide +kernel
theorem dX9_copy_66 : decode cX9_copy 66 = .ok (.iload 4, 2) := by decide +kernel
theorem dX9_copy_68 : decode cX9_copy 68 = .ok (.ifCond .lt 43, 3) := by decide +kernel
theorem dX9_copy_71 : decode cX9_copy 71 = .ok (.iload 5, 2) := by decide +kernel
theorem dX9_copy_73 : decode cX9_copy 73 = .ok (.ifCond .lt 38, 3) := by decide +kernel
theorem dX9_copy_76 : decode cX9_copy 76 = .ok (.iload_n 2, 1) := by decide +kernel
theorem dX9_copy_77 : decode cX9_copy 77 = .ok (.i2l, 1) := by decide +kernel
theorem dX9_copy_78 : decode cX9_copy 78 = .ok (.iload 5, 2) := by decide +kernel
theorem dX9_copy_80 : decode cX9_copy 80 = .ok (.i2l, 1) := by decide +kernel
theorem dX9_copy_81 : decode cX9_copy 81 = .ok (.ladd, 1) := by decide +kernel
theorem dX9_copy_82 : decode cX9_copy 82 = .ok (.aload_n 0, 1) := by decide +kernel
theorem dX9_copy_83 : decode cX9_copy 83 = .ok (.getfield 13, 3) := by decide +kernel
theorem dX9_copy_86 : decode cX9_copy 86 = .ok (.iload_n 1, 1) := by decide +kernel
theorem dX9_copy_87 : decode cX9_copy 87 = .ok (.iaload, 1) := by decide +kernel
theorem dX9_copy_88 : decode cX9_copy 88 = .ok (.i2l, 1) := by decide +kernel
theorem dX9_copy_89 : decode cX9_copy 89 = .ok (.lcmp, 1) := by decide +kernel
theorem dX9_copy_90 : decode cX9_copy 90 = .ok (.ifCond .gt 21, 3) := by decide +kernel
theorem dX9_copy_93 : decode cX9_copy 93 = .ok (.iload 4, 2) := by decide +kernel
theorem dX9_copy_95 : decode cX9_copy 95 = .ok (.i2l, 1) := by decide +kernel
theorem dX9_copy_96 : decode cX9_copy 96 = .ok (.iload 5, 2) := by decide +kernel
theorem dX9_copy_98 : decode cX9_copy 98 = .ok (.i2l, 1) := by decide +kernel
theorem dX9_copy_99 : decode cX9_copy 99 = .ok (.ladd, 1) := by decide +kernel
theorem dX9_copy_100 : decode cX9_copy 100 = .ok (.aload_n 0, 1) := by decide +kernel
theorem dX9_copy_101 : decode cX9_copy 101 = .ok (.getfield 13, 3) := by decide +kernel
theorem dX9_copy_104 : decode cX9_copy 104 = .ok (.iload_n 3, 1) := by decide +kernel
theorem dX9_copy_105 : decode cX9_copy 105 = .ok (.iaload, 1) := by decide +kernel
theorem dX9_copy_106 : decode cX9_copy 106 = .ok (.i2l, 1) := by decide +kernel
theorem dX9_copy_107 : decode cX9_copy 107 = .ok (.lcmp, 1) := by decide +kernel
theorem dX9_copy_108 : decode cX9_copy 108 = .ok (.ifCond .le 9, 3) := by decide +kernel
theorem dX9_copy_111 : decode cX9_copy 111 = .ok (.aload_n 0, 1) := by decide +kernel
theorem dX9_copy_112 : decode cX9_copy 112 = .ok (.iconst 2, 1) := by decide +kernel
theorem dX9_copy_113 : decode cX9_copy 113 = .ok (.invokevirtual 71, 3) := by decide +kernel
theorem dX9_copy_116 : decode cX9_copy 116 = .ok (.ireturn, 1) := by decide +kernel
theorem dX9_copy_117 : decode cX9_copy 117 = .ok (.iconst 0, 1) := by decide +kernel
theorem dX9_copy_118 : decode cX9_copy 118 = .ok (.istore 6, 2) := by decide +kernel
theorem dX9_copy_120 : decode cX9_copy 120 = .ok (.iload 6, 2) := by decide +kernel
theorem dX9_copy_122 : decode cX9_copy 122 = .ok (.iload 5, 2) := by decide +kernel
theorem dX9_copy_124 : decode cX9_copy 124 = .ok (.if_icmp .ge 58, 3) := by decide +kernel
theorem dX9_copy_127 : decode cX9_copy 127 = .ok (.iload 4, 2) := by decide +kernel
theorem dX9_copy_129 : decode cX9_copy 129 = .ok (.iload_n 2, 1) := by decide +kernel
theorem dX9_copy_130 : decode cX9_copy 130 = .ok (.if_icmp .le 13, 3) := by decide +kernel
theorem dX9_copy_133 : decode cX9_copy 133 = .ok (.iload 5, 2) := by decide +kernel
theorem dX9_copy_135 : decode cX9_copy 135 = .ok (.iconst 1, 1) := by decide +kernel
theorem dX9_copy_136 : decode cX9_copy 136 = .ok (.isub, 1) := by decide +kernel
theorem dX9_copy_137 : decode cX9_copy 137 = .ok (.iload 6, 2) := by decide +kernel
theorem dX9_copy_139 : decode cX9_copy 139 = .ok (.isub, 1) := by decide +kernel
theorem dX9_copy_140 : decode cX9_copy 140 = .ok (.goto 5, 3) := by decide +kernel
theorem dX9_copy_143 : decode cX9_copy 143 = .ok (.iload 6, 2) := by decide +kernel
theorem dX9_copy_145 : decode cX9_copy 145 = .ok (.istore 7, 2) := by decide +kernel
theorem dX9_copy_147 : decode cX9_copy 147 = .ok (.aload_n 0, 1) := by decide +kernel
theorem dX9_copy_148 : decode cX9_copy 148 = .ok (.getfield 16, 3) := by decide +kernel
theorem dX9_copy_151 : decode cX9_copy 151 = .ok (.bipush 40, 2) := by decide +kernel
theorem dX9_copy_153 : decode cX9_copy 153 = .ok (.iload_n 3, 1) := by decide +kernel
theorem dX9_copy_154 : decode cX9_copy 154 = .ok (.imul, 1) := by decide +kernel
theorem dX9_copy_155 : decode cX9_copy 155 = .ok (.iload 4, 2) := by decide +kernel
theorem dX9_copy_157 : decode cX9_copy 157 = .ok (.iadd, 1) := by decide +kernel
theorem dX9_copy_158 : decode cX9_copy 158 = .ok (.iload 7, 2) := by decide +kernel
theorem dX9_copy_160 : decode cX9_copy 160 = .ok (.iadd, 1) := by decide +kernel
theorem dX9_copy_161 : decode cX9_copy 161 = .ok (.aload_n 0, 1) := by decide +kernel
theorem dX9_copy_162 : decode cX9_copy 162 = .ok (.getfield 16, 3) := by decide +kernel
theorem dX9_copy_165 : decode cX9_copy 165 = .ok (.bipush 40, 2) := by decide +kernel
theorem dX9_copy_167 : decode cX9_copy 167 = .ok (.iload_n 1, 1) := by decide +kernel
theorem dX9_copy_168 : decode cX9_copy 168 = .ok (.imul, 1) := by decide +kernel
theorem dX9_copy_169 : decode cX9_copy 169 = .ok (.iload_n 2, 1) := by decide +kernel
theorem dX9_copy_170 : decode cX9_copy 170 = .ok (.iadd, 1) := by decide +kernel
theorem dX9_copy_171 : decode cX9_copy 171 = .ok (.iload 7, 2) := by decide +kernel
theorem dX9_copy_173 : decode cX9_copy 173 = .ok (.iadd, 1) := by decide +kernel
theorem dX9_copy_174 : decode cX9_copy 174 = .ok (.iaload, 1) := by decide +kernel
theorem dX9_copy_175 : decode cX9_copy 175 = .ok (.iastore, 1) := by decide +kernel
theorem dX9_copy_176 : decode cX9_copy 176 = .ok (.iinc 6 1, 3) := by decide +kernel
theorem dX9_copy_179 : decode cX9_copy 179 = .ok (.goto (-59), 3) := by decide +kernel
theorem dX9_copy_182 : decode cX9_copy 182 = .ok (.aload_n 0, 1) := by decide +kernel
theorem dX9_copy_183 : decode cX9_copy 183 = .ok (.iload 5, 2) := by decide +kernel
theorem dX9_copy_185 : decode cX9_copy 185 = .ok (.invokevirtual 75, 3) := by decide +kernel
theorem dX9_copy_188 : decode cX9_copy 188 = .ok (.ireturn, 1) := by decide +kernel
theorem dX9_drop_0 : decode cX9_drop 0 = .ok (.iload_n 1, 1) := by decide +kernel
theorem dX9_drop_1 : decode cX9_drop 1 = .ok (.invokestatic 64, 3) := by decide +kernel
theorem dX9_drop_4 : decode cX9_drop 4 = .ok (.ifCond .ne 6, 3) := by decide +kernel
theorem dX9_drop_7 : decode cX9_drop 7 = .ok (.ldc 70, 2) := by decide +kernel
theorem dX9_drop_9 : decode cX9_drop 9 = .ok (.ireturn, 1) := by decide +kernel
theorem dX9_drop_10 : decode cX9_drop 10 = .ok (.aload_n 0, 1) := by decide +kernel
theorem dX9_drop_11 : decode cX9_drop 11 = .ok (.getfield 13, 3) := by decide +kernel
theorem dX9_drop_14 : decode cX9_drop 14 = .ok (.iload_n 1, 1) := by decide +kernel
theorem dX9_drop_15 : decode cX9_drop 15 = .ok (.iaload, 1) := by decide +kernel
theorem dX9_drop_16 : decode cX9_drop 16 = .ok (.ifCond .ge 9, 3) := by decide +kernel
theorem dX9_drop_19 : decode cX9_drop 19 = .ok (.aload_n 0, 1) := by decide +kernel
theorem dX9_drop_20 : decode cX9_drop 20 = .ok (.iconst 1, 1) := by decide +kernel
theorem dX9_drop_21 : decode cX9_drop 21 = .ok (.invokevirtual 71, 3) := by decide +kernel
theorem dX9_drop_24 : decode cX9_drop 24 = .ok (.ireturn, 1) := by decide +kernel
theorem dX9_drop_25 : decode cX9_drop 25 = .ok (.aload_n 0, 1) := by decide +kernel
theorem dX9_drop_26 : decode cX9_drop 26 = .ok (.getfield 13, 3) := by decide +kernel
theorem dX9_drop_29 : decode cX9_drop 29 = .ok (.iload_n 1, 1) := by decide +kernel
theorem dX9_drop_30 : decode cX9_drop 30 = .ok (.iaload, 1) := by decide +kernel
theorem dX9_drop_31 : decode cX9_drop 31 = .ok (.istore_n 2, 1) := by decide +kernel
theorem dX9_drop_32 : decode cX9_drop 32 = .ok (.aload_n 0, 1) := by decide +kernel
theorem dX9_drop_33 : decode cX9_drop 33 = .ok (.getfield 13, 3) := by decide +kernel
theorem dX9_drop_36 : decode cX9_drop 36 = .ok (.iload_n 1, 1) := by decide +kernel
theorem dX9_drop_37 : decode cX9_drop 37 = .ok (.iconst (-1), 1) := by decide +kernel
theorem dX9_drop_38 : decode cX9_drop 38 = .ok (.iastore, 1) := by decide +kernel
theorem dX9_drop_39 : decode cX9_drop 39 = .ok (.aload_n 0, 1) := by decide +kernel
theorem dX9_drop_40 : decode cX9_drop 40 = .ok (.iload_n 2, 1) := by decide +kernel
theorem dX9_drop_41 : decode cX9_drop 41 = .ok (.invokevirtual 75, 3) := by decide +kernel
theorem dX9_drop_44 : decode cX9_drop 44 = .ok (.ireturn, 1) := by decide +kernel
theorem dX9_feed_0 : decode cX9_feed 0 = .ok (.iload_n 1, 1) := by decide +kernel
theorem dX9_feed_1 : decode cX9_feed 1 = .ok (.i2l, 1) := by decide +kernel
theorem dX9_feed_2 : decode cX9_feed 2 = .ok (.lconst 0, 1) := by decide +kernel
theorem dX9_feed_3 : decode cX9_feed 3 = .ok (.ldc2_w 78, 3) := by decide +kernel
theorem dX9_feed_6 : decode cX9_feed 6 = .ok (.invokestatic 60, 3) := by decide +kernel
theorem dX9_feed_9 : decode cX9_feed 9 = .ok (.ifCond .ne 6, 3) := by decide +kernel
theorem dX9_feed_12 : decode cX9_feed 12 = .ok (.ldc 70, 2) := by decide +kernel
theorem dX9_feed_14 : decode cX9_feed 14 = .ok (.ireturn, 1) := by decide +kernel
theorem dX9_feed_15 : decode cX9_feed 15 = .ok (.aload_n 0, 1) := by decide +kernel
theorem dX9_feed_16 : decode cX9_feed 16 = .ok (.getfield 80, 3) := by decide +kernel
theorem dX9_feed_19 : decode cX9_feed 19 = .ok (.bipush 120, 2) := by decide +kernel
theorem dX9_feed_21 : decode cX9_feed 21 = .ok (.if_icmp .ne 6, 3) := by decide +kernel
theorem dX9_feed_24 : decode cX9_feed 24 = .ok (.ldc 83, 2) := by decide +kernel
theorem dX9_feed_26 : decode cX9_feed 26 = .ok (.ireturn, 1) := by decide +kernel
theorem dX9_feed_27 : decode cX9_feed 27 = .ok (.aload_n 0, 1) := by decide +kernel
theorem dX9_feed_28 : decode cX9_feed 28 = .ok (.getfield 19, 3) := by decide +kernel
theorem dX9_feed_31 : decode cX9_feed 31 = .ok (.aload_n 0, 1) := by decide +kernel
theorem dX9_feed_32 : decode cX9_feed 32 = .ok (.getfield 80, 3) := by decide +kernel
theorem dX9_feed_35 : decode cX9_feed 35 = .ok (.iload_n 1, 1) := by decide +kernel
theorem dX9_feed_36 : decode cX9_feed 36 = .ok (.iastore, 1) := by decide +kernel
theorem dX9_feed_37 : decode cX9_feed 37 = .ok (.aload_n 0, 1) := by decide +kernel
theorem dX9_feed_38 : decode cX9_feed 38 = .ok (.dup, 1) := by decide +kernel
theorem dX9_feed_39 : decode cX9_feed 39 = .ok (.getfield 80, 3) := by decide +kernel
theorem dX9_feed_42 : decode cX9_feed 42 = .ok (.iconst 1, 1) := by decide +kernel
theorem dX9_feed_43 : decode cX9_feed 43 = .ok (.iadd, 1) := by decide +kernel
theorem dX9_feed_44 : decode cX9_feed 44 = .ok (.putfield 80, 3) := by decide +kernel
theorem dX9_feed_47 : decode cX9_feed 47 = .ok (.aload_n 0, 1) := by decide +kernel
theorem dX9_feed_48 : decode cX9_feed 48 = .ok (.getfield 80, 3) := by decide +kernel
theorem dX9_feed_51 : decode cX9_feed 51 = .ok (.ireturn, 1) := by decide +kernel
theorem dX9_isFigure_0 : decode cX9_isFigure 0 = .ok (.iload_n 0, 1) := by decide +kernel
theorem dX9_isFigure_1 : decode cX9_isFigure 1 = .ok (.i2l, 1) := by decide +kernel
theorem dX9_isFigure_2 : decode cX9_isFigure 2 = .ok (.ldc2_w 84, 3) := by decide +kernel
theorem dX9_isFigure_5 : decode cX9_isFigure 5 = .ok (.ldc2_w 86, 3) := by decide +kernel
theorem dX9_isFigure_8 : decode cX9_isFigure 8 = .ok (.invokestatic 60, 3) := by decide +kernel
theorem dX9_isFigure_11 : decode cX9_isFigure 11 = .ok (.ireturn, 1) := by decide +kernel
theorem dX9_next_0 : decode cX9_next 0 = .ok (.aload_n 0, 1) := by decide +kernel
theorem dX9_next_1 : decode cX9_next 1 = .ok (.aload_n 0, 1) := by decide +kernel
theorem dX9_next_2 : decode cX9_next 2 = .ok (.getfield 88, 3) := by decide +kernel
theorem dX9_next_5 : decode cX9_next 5 = .ok (.putfield 91, 3) := by decide +kernel
theorem dX9_next_8 : decode cX9_next 8 = .ok (.aload_n 0, 1) := by decide +kernel
theorem dX9_next_9 : decode cX9_next 9 = .ok (.getfield 88, 3) := by decide +kernel
theorem dX9_next_12 : decode cX9_next 12 = .ok (.aload_n 0, 1) := by decide +kernel
theorem dX9_next_13 : decode cX9_next 13 = .ok (.getfield 94, 3) := by decide +kernel
theorem dX9_next_16 : decode cX9_next 16 = .ok (.if_icmp .ge 15, 3) := by decide +kernel
theorem dX9_next_19 : decode cX9_next 19 = .ok (.aload_n 0, 1) := by decide +kernel
theorem dX9_next_20 : decode cX9_next 20 = .ok (.getfield 19, 3) := by decide +kernel
theorem dX9_next_23 : decode cX9_next 23 = .ok (.aload_n 0, 1) := by decide +kernel
theorem dX9_next_24 : decode cX9_next 24 = .ok (.getfield 88, 3) := by decide +kernel
theorem dX9_next_27 : decode cX9_next 27 = .ok (.iaload, 1) := by decide +kernel
theorem dX9_next_28 : decode cX9_next 28 = .ok (.goto 4, 3) := by decide +kernel
theorem dX9_next_31 : decode cX9_next 31 = .ok (.iconst (-1), 1) := by decide +kernel
theorem dX9_next_32 : decode cX9_next 32 = .ok (.istore_n 1, 1) := by decide +kernel
theorem dX9_next_33 : decode cX9_next 33 = .ok (.aload_n 0, 1) := by decide +kernel
theorem dX9_next_34 : decode cX9_next 34 = .ok (.iload_n 1, 1) := by decide +kernel
theorem dX9_next_35 : decode cX9_next 35 = .ok (.ifCond .ge 7, 3) := by decide +kernel
theorem dX9_next_38 : decode cX9_next 38 = .ok (.iconst 0, 1) := by decide +kernel
theorem dX9_next_39 : decode cX9_next 39 = .ok (.goto 53, 3) := by decide +kernel
theorem dX9_next_42 : decode cX9_next 42 = .ok (.iload_n 1, 1) := by decide +kernel
theorem dX9_next_43 : decode cX9_next 43 = .ok (.i2l, 1) := by decide +kernel
theorem dX9_next_44 : decode cX9_next 44 = .ok (.ldc2_w 97, 3) := by decide +kernel
theorem dX9_next_47 : decode cX9_next 47 = .ok (.ldc2_w 99, 3) := by decide +kernel
theorem dX9_next_50 : decode cX9_next 50 = .ok (.invokestatic 60, 3) := by decide +kernel
theorem dX9_next_53 : decode cX9_next 53 = .ok (.ifCond .eq 7, 3) := by decide +kernel
theorem dX9_next_56 : decode cX9_next 56 = .ok (.iconst 1, 1) := by decide +kernel
theorem dX9_next_57 : decode cX9_next 57 = .ok (.goto 35, 3) := by decide +kernel
theorem dX9_next_60 : decode cX9_next 60 = .ok (.iload_n 1, 1) := by decide +kernel
theorem dX9_next_61 : decode cX9_next 61 = .ok (.invokestatic 101, 3) := by decide +kernel
theorem dX9_next_64 : decode cX9_next 64 = .ok (.ifCond .eq 7, 3) := by decide +kernel
theorem dX9_next_67 : decode cX9_next 67 = .ok (.iconst 2, 1) := by decide +kernel
theorem dX9_next_68 : decode cX9_next 68 = .ok (.goto 24, 3) := by decide +kernel
theorem dX9_next_71 : decode cX9_next 71 = .ok (.iload_n 1, 1) := by decide +kernel
theorem dX9_next_72 : decode cX9_next 72 = .ok (.bipush 44, 2) := by decide +kernel
theorem dX9_next_74 : decode cX9_next 74 = .ok (.if_icmp .ne 7, 3) := by decide +kernel
theorem dX9_next_77 : decode cX9_next 77 = .ok (.iconst 3, 1) := by decide +kernel
theorem dX9_next_78 : decode cX9_next 78 = .ok (.goto 14, 3) := by decide +kernel
theorem dX9_next_81 : decode cX9_next 81 = .ok (.iload_n 1, 1) := by decide +kernel
theorem dX9_next_82 : decode cX9_next 82 = .ok (.bipush 59, 2) := by decide +kernel
theorem dX9_next_84 : decode cX9_next 84 = .ok (.if_icmp .ne 7, 3) := by decide +kernel
theorem dX9_next_87 : decode cX9_next 87 = .ok (.iconst 4, 1) := by decide +kernel
theorem dX9_next_88 : decode cX9_next 88 = .ok (.goto 4, 3) := by decide +kernel
theorem dX9_next_91 : decode cX9_next 91 = .ok (.iconst 5, 1) := by decide +kernel
theorem dX9_next_92 : decode cX9_next 92 = .ok (.putfield 104, 3) := by decide +kernel
theorem dX9_next_95 : decode cX9_next 95 = .ok (.aload_n 0, 1) := by decide +kernel
theorem dX9_next_96 : decode cX9_next 96 = .ok (.aload_n 0, 1) := by decide +kernel
theorem dX9_next_97 : decode cX9_next 97 = .ok (.getfield 104, 3) := by decide +kernel
theorem dX9_next_100 : decode cX9_next 100 = .ok (.iconst 1, 1) := by decide +kernel
theorem dX9_next_101 : decode cX9_next 101 = .ok (.if_icmp .ne 7, 3) := by decide +kernel
theorem dX9_next_104 : decode cX9_next 104 = .ok (.iload_n 1, 1) := by decide +kernel
theorem dX9_next_105 : decode cX9_next 105 = .ok (.goto 4, 3) := by decide +kernel
theorem dX9_next_108 : decode cX9_next 108 = .ok (.iconst 0, 1) := by decide +kernel
theorem dX9_next_109 : decode cX9_next 109 = .ok (.putfield 107, 3) := by decide +kernel
theorem dX9_next_112 : decode cX9_next 112 = .ok (.aload_n 0, 1) := by decide +kernel
theorem dX9_next_113 : decode cX9_next 113 = .ok (.dup, 1) := by decide +kernel
theorem dX9_next_114 : decode cX9_next 114 = .ok (.getfield 88, 3) := by decide +kernel
theorem dX9_next_117 : decode cX9_next 117 = .ok (.aload_n 0, 1) := by decide +kernel
theorem dX9_next_118 : decode cX9_next 118 = .ok (.getfield 104, 3) := by decide +kernel
theorem dX9_next_121 : decode cX9_next 121 = .ok (.ifCond .le 15, 3) := by decide +kernel
theorem dX9_next_124 : decode cX9_next 124 = .ok (.aload_n 0, 1) := by decide +kernel
theorem dX9_next_125 : decode cX9_next 125 = .ok (.getfield 104, 3) := by decide +kernel
theorem dX9_next_128 : decode cX9_next 128 = .ok (.iconst 2, 1) := by decide +kernel
theorem dX9_next_129 : decode cX9_next 129 = .ok (.if_icmp .eq 7, 3) := by decide +kernel
theorem dX9_next_132 : decode cX9_next 132 = .ok (.iconst 1, 1) := by decide +kernel
theorem dX9_next_133 : decode cX9_next 133 = .ok (.goto 4, 3) := by decide +kernel
theorem dX9_next_136 : decode cX9_next 136 = .ok (.iconst 0, 1) := by decide +kernel
theorem dX9_next_137 : decode cX9_next 137 = .ok (.iadd, 1) := by decide +kernel
theorem dX9_next_138 : decode cX9_next 138 = .ok (.putfield 88, 3) := by decide +kernel
theorem dX9_next_141 : decode cX9_next 141 = .ok (.aload_n 0, 1) := by decide +kernel
theorem dX9_next_142 : decode cX9_next 142 = .ok (.getfield 104, 3) := by decide +kernel
theorem dX9_next_145 : decode cX9_next 145 = .ok (.iconst 2, 1) := by decide +kernel
theorem dX9_next_146 : decode cX9_next 146 = .ok (.if_icmp .ne 86, 3) := by decide +kernel
theorem dX9_next_149 : decode cX9_next 149 = .ok (.aload_n 0, 1) := by decide +kernel
theorem dX9_next_150 : decode cX9_next 150 = .ok (.getfield 88, 3) := by decide +kernel
theorem dX9_next_153 : decode cX9_next 153 = .ok (.aload_n 0, 1) := by decide +kernel
theorem dX9_next_154 : decode cX9_next 154 = .ok (.getfield 94, 3) := by decide +kernel
theorem dX9_next_157 : decode cX9_next 157 = .ok (.if_icmp .ge 75, 3) := by decide +kernel
theorem dX9_next_160 : decode cX9_next 160 = .ok (.aload_n 0, 1) := by decide +kernel
theorem dX9_next_161 : decode cX9_next 161 = .ok (.getfield 19, 3) := by decide +kernel
theorem dX9_next_164 : decode cX9_next 164 = .ok (.aload_n 0, 1) := by decide +kernel
theorem dX9_next_165 : decode cX9_next 165 = .ok (.getfield 88, 3) := by decide +kernel
theorem dX9_next_168 : decode cX9_next 168 = .ok (.iaload, 1) := by decide +kernel
theorem dX9_next_169 : decode cX9_next 169 = .ok (.invokestatic 101, 3) := by decide +kernel
theorem dX9_next_172 : decode cX9_next 172 = .ok (.ifCond .eq 60, 3) := by decide +kernel
theorem dX9_next_175 : decode cX9_next 175 = .ok (.aload_n 0, 1) := by decide +kernel
theorem dX9_next_176 : decode cX9_next 176 = .ok (.aload_n 0, 1) := by decide +kernel
theorem dX9_next_177 : decode cX9_next 177 = .ok (.getfield 88, 3) := by decide +kernel
theorem dX9_next_180 : decode cX9_next 180 = .ok (.aload_n 0, 1) := by decide +kernel
theorem dX9_next_181 : decode cX9_next 181 = .ok (.getfield 91, 3) := by decide +kernel
theorem dX9_next_184 : decode cX9_next 184 = .ok (.isub, 1) := by decide +kernel
theorem dX9_next_185 : decode cX9_next 185 = .ok (.iconst 2, 1) := by decide +kernel
theorem dX9_next_186 : decode cX9_next 186 = .ok (.if_icmp .ge 26, 3) := by decide +kernel
theorem dX9_next_189 : decode cX9_next 189 = .ok (.bipush 10, 2) := by decide +kernel
theorem dX9_next_191 : decode cX9_next 191 = .ok (.aload_n 0, 1) := by decide +kernel
theorem dX9_next_192 : decode cX9_next 192 = .ok (.getfield 107, 3) := by decide +kernel
theorem dX9_next_195 : decode cX9_next 195 = .ok (.imul, 1) := by decide +kernel
theorem dX9_next_196 : decode cX9_next 196 = .ok (.aload_n 0, 1) := by decide +kernel
theorem dX9_next_197 : decode cX9_next 197 = .ok (.getfield 19, 3) := by decide +kernel
theorem dX9_next_200 : decode cX9_next 200 = .ok (.aload_n 0, 1) := by decide +kernel
theorem dX9_next_201 : decode cX9_next 201 = .ok (.getfield 88, 3) := by decide +kernel
theorem dX9_next_204 : decode cX9_next 204 = .ok (.iaload, 1) := by decide +kernel
theorem dX9_next_205 : decode cX9_next 205 = .ok (.iadd, 1) := by decide +kernel
theorem dX9_next_206 : decode cX9_next 206 = .ok (.bipush 48, 2) := by decide +kernel
theorem dX9_next_208 : decode cX9_next 208 = .ok (.isub, 1) := by decide +kernel
theorem dX9_next_209 : decode cX9_next 209 = .ok (.goto 7, 3) := by decide +kernel
theorem dX9_next_212 : decode cX9_next 212 = .ok (.aload_n 0, 1) := by decide +kernel
theorem dX9_next_213 : decode cX9_next 213 = .ok (.getfield 107, 3) := by decide +kernel
theorem dX9_next_216 : decode cX9_next 216 = .ok (.putfield 107, 3) := by decide +kernel
theorem dX9_next_219 : decode cX9_next 219 = .ok (.aload_n 0, 1) := by decide +kernel
theorem dX9_next_220 : decode cX9_next 220 = .ok (.dup, 1) := by decide +kernel
theorem dX9_next_221 : decode cX9_next 221 = .ok (.getfield 88, 3) := by decide +kernel
theorem dX9_next_224 : decode cX9_next 224 = .ok (.iconst 1, 1) := by decide +kernel
theorem dX9_next_225 : decode cX9_next 225 = .ok (.iadd, 1) := by decide +kernel
theorem dX9_next_226 : decode cX9_next 226 = .ok (.putfield 88, 3) := by decide +kernel
theorem dX9_next_229 : decode cX9_next 229 = .ok (.goto (-88), 3) := by decide +kernel
theorem dX9_next_232 : decode cX9_next 232 = .ok (.aload_n 0, 1) := by decide +kernel
theorem dX9_next_233 : decode cX9_next 233 = .ok (.aload_n 0, 1) := by decide +kernel
theorem dX9_next_234 : decode cX9_next 234 = .ok (.getfield 104, 3) := by decide +kernel
theorem dX9_next_237 : decode cX9_next 237 = .ok (.iconst 2, 1) := by decide +kernel
theorem dX9_next_238 : decode cX9_next 238 = .ok (.if_icmp .ne 20, 3) := by decide +kernel
theorem dX9_next_241 : decode cX9_next 241 = .ok (.aload_n 0, 1) := by decide +kernel
theorem dX9_next_242 : decode cX9_next 242 = .ok (.getfield 88, 3) := by decide +kernel
theorem dX9_next_245 : decode cX9_next 245 = .ok (.aload_n 0, 1) := by decide +kernel
theorem dX9_next_246 : decode cX9_next 246 = .ok (.getfield 91, 3) := by decide +kernel
theorem dX9_next_249 : decode cX9_next 249 = .ok (.isub, 1) := by decide +kernel
theorem dX9_next_250 : decode cX9_next 250 = .ok (.iconst 2, 1) := by decide +kernel
theorem dX9_next_251 : decode cX9_next 251 = .ok (.if_icmp .le 7, 3) := by decide +kernel
theorem dX9_next_254 : decode cX9_next 254 = .ok (.iconst 5, 1) := by decide +kernel
theorem dX9_next_255 : decode cX9_next 255 = .ok (.goto 7, 3) := by decide +kernel
theorem dX9_next_258 : decode cX9_next 258 = .ok (.aload_n 0, 1) := by decide +kernel
theorem dX9_next_259 : decode cX9_next 259 = .ok (.getfield 104, 3) := by decide +kernel
theorem dX9_next_262 : decode cX9_next 262 = .ok (.putfield 104, 3) := by decide +kernel
theorem dX9_next_265 : decode cX9_next 265 = .ok (.return_, 1) := by decide +kernel
theorem dX9_fails_0 : decode cX9_fails 0 = .ok (.aload_n 0, 1) := by decide +kernel
theorem dX9_fails_1 : decode cX9_fails 1 = .ok (.iload_n 1, 1) := by decide +kernel
theorem dX9_fails_2 : decode cX9_fails 2 = .ok (.putfield 110, 3) := by decide +kernel
theorem dX9_fails_5 : decode cX9_fails 5 = .ok (.iconst 0, 1) := by decide +kernel
theorem dX9_fails_6 : decode cX9_fails 6 = .ok (.ireturn, 1) := by decide +kernel
theorem dX9_number_0 : decode cX9_number 0 = .ok (.aload_n 0, 1) := by decide +kernel
theorem dX9_number_1 : decode cX9_number 1 = .ok (.invokevirtual 113, 3) := by decide +kernel
theorem dX9_number_4 : decode cX9_number 4 = .ok (.aload_n 0, 1) := by decide +kernel
theorem dX9_number_5 : decode cX9_number 5 = .ok (.getfield 104, 3) := by decide +kernel
theorem dX9_number_8 : decode cX9_number 8 = .ok (.iconst 2, 1) := by decide +kernel
theorem dX9_number_9 : decode cX9_number 9 = .ok (.if_icmp .eq 9, 3) := by decide +kernel
theorem dX9_number_12 : decode cX9_number 12 = .ok (.aload_n 0, 1) := by decide +kernel
theorem dX9_number_13 : decode cX9_number 13 = .ok (.iconst 1, 1) := by decide +kernel
theorem dX9_number_14 : decode cX9_number 14 = .ok (.invokevirtual 116, 3) := by decide +kernel
theorem dX9_number_17 : decode cX9_number 17 = .ok (.ireturn, 1) := by decide +kernel
theorem dX9_number_18 : decode cX9_number 18 = .ok (.aload_n 0, 1) := by decide +kernel
theorem dX9_number_19 : decode cX9_number 19 = .ok (.getfield 107, 3) := by decide +kernel
theorem dX9_number_22 : decode cX9_number 22 = .ok (.i2l, 1) := by decide +kernel
theorem dX9_number_23 : decode cX9_number 23 = .ok (.iload_n 2, 1) := by decide +kernel
theorem dX9_number_24 : decode cX9_number 24 = .ok (.i2l, 1) := by decide +kernel
theorem dX9_number_25 : decode cX9_number 25 = .ok (.iload_n 3, 1) := by decide +kernel
theorem dX9_number_26 : decode cX9_number 26 = .ok (.i2l, 1) := by decide +kernel
theorem dX9_number_27 : decode cX9_number 27 = .ok (.invokestatic 60, 3) := by decide +kernel
theorem dX9_number_30 : decode cX9_number 30 = .ok (.ifCond .ne 9, 3) := by decide +kernel
theorem dX9_number_33 : decode cX9_number 33 = .ok (.aload_n 0, 1) := by decide +kernel
theorem dX9_number_34 : decode cX9_number 34 = .ok (.iconst 2, 1) := by decide +kernel
theorem dX9_number_35 : decode cX9_number 35 = .ok (.invokevirtual 116, 3) := by decide +kernel
theorem dX9_number_38 : decode cX9_number 38 = .ok (.ireturn, 1) := by decide +kernel
theorem dX9_number_39 : decode cX9_number 39 = .ok (.aload_n 0, 1) := by decide +kernel
theorem dX9_number_40 : decode cX9_number 40 = .ok (.getfield 38, 3) := by decide +kernel
theorem dX9_number_43 : decode cX9_number 43 = .ok (.iload_n 1, 1) := by decide +kernel
theorem dX9_number_44 : decode cX9_number 44 = .ok (.aload_n 0, 1) := by decide +kernel
theorem dX9_number_45 : decode cX9_number 45 = .ok (.getfield 107, 3) := by decide +kernel
theorem dX9_number_48 : decode cX9_number 48 = .ok (.iastore, 1) := by decide +kernel
theorem dX9_number_49 : decode cX9_number 49 = .ok (.iconst 1, 1) := by decide +kernel
theorem dX9_number_50 : decode cX9_number 50 = .ok (.ireturn, 1) := by decide +kernel
theorem dX9_sign_0 : decode cX9_sign 0 = .ok (.aload_n 0, 1) := by decide +kernel
theorem dX9_sign_1 : decode cX9_sign 1 = .ok (.invokevirtual 113, 3) := by decide +kernel
theorem dX9_sign_4 : decode cX9_sign 4 = .ok (.aload_n 0, 1) := by decide +kernel
theorem dX9_sign_5 : decode cX9_sign 5 = .ok (.getfield 104, 3) := by decide +kernel
theorem dX9_sign_8 : decode cX9_sign 8 = .ok (.iload_n 1, 1) := by decide +kernel
theorem dX9_sign_9 : decode cX9_sign 9 = .ok (.if_icmp .eq 11, 3) := by decide +kernel
theorem dX9_sign_12 : decode cX9_sign 12 = .ok (.aload_n 0, 1) := by decide +kernel
theorem dX9_sign_13 : decode cX9_sign 13 = .ok (.iconst 1, 1) := by decide +kernel
theorem dX9_sign_14 : decode cX9_sign 14 = .ok (.invokevirtual 116, 3) := by decide +kernel
theorem dX9_sign_17 : decode cX9_sign 17 = .ok (.ifCond .eq 7, 3) := by decide +kernel
theorem dX9_sign_20 : decode cX9_sign 20 = .ok (.iconst 1, 1) := by decide +kernel
theorem dX9_sign_21 : decode cX9_sign 21 = .ok (.goto 4, 3) := by decide +kernel
theorem dX9_sign_24 : decode cX9_sign 24 = .ok (.iconst 0, 1) := by decide +kernel
theorem dX9_sign_25 : decode cX9_sign 25 = .ok (.ireturn, 1) := by decide +kernel
theorem dX9_readsLaw_0 : decode cX9_readsLaw 0 = .ok (.aload_n 0, 1) := by decide +kernel
theorem dX9_readsLaw_1 : decode cX9_readsLaw 1 = .ok (.invokevirtual 113, 3) := by decide +kernel
theorem dX9_readsLaw_4 : decode cX9_readsLaw 4 = .ok (.aload_n 0, 1) := by decide +kernel
theorem dX9_readsLaw_5 : decode cX9_readsLaw 5 = .ok (.getfield 104, 3) := by decide +kernel
theorem dX9_readsLaw_8 : decode cX9_readsLaw 8 = .ok (.iconst 1, 1) := by decide +kernel
theorem dX9_readsLaw_9 : decode cX9_readsLaw 9 = .ok (.if_icmp .ne 12, 3) := by decide +kernel
theorem dX9_readsLaw_12 : decode cX9_readsLaw 12 = .ok (.aload_n 0, 1) := by decide +kernel
theorem dX9_readsLaw_13 : decode cX9_readsLaw 13 = .ok (.getfield 107, 3) := by decide +kernel
theorem dX9_readsLaw_16 : decode cX9_readsLaw 16 = .ok (.bipush 111, 2) := by decide +kernel
theorem dX9_readsLaw_18 : decode cX9_readsLaw 18 = .ok (.if_icmp .eq 9, 3) := by decide +kernel
theorem dX9_readsLaw_21 : decode cX9_readsLaw 21 = .ok (.aload_n 0, 1) := by decide +kernel
theorem dX9_readsLaw_22 : decode cX9_readsLaw 22 = .ok (.iconst 1, 1) := by decide +kernel
theorem dX9_readsLaw_23 : decode cX9_readsLaw 23 = .ok (.invokevirtual 116, 3) := by decide +kernel
theorem dX9_readsLaw_26 : decode cX9_readsLaw 26 = .ok (.ireturn, 1) := by decide +kernel
theorem dX9_readsLaw_27 : decode cX9_readsLaw 27 = .ok (.aload_n 0, 1) := by decide +kernel
theorem dX9_readsLaw_28 : decode cX9_readsLaw 28 = .ok (.iconst 0, 1) := by decide +kernel
theorem dX9_readsLaw_29 : decode cX9_readsLaw 29 = .ok (.iconst 0, 1) := by decide +kernel
theorem dX9_readsLaw_30 : decode cX9_readsLaw 30 = .ok (.bipush 20, 2) := by decide +kernel
theorem dX9_readsLaw_32 : decode cX9_readsLaw 32 = .ok (.invokevirtual 119, 3) := by decide +kernel
theorem dX9_readsLaw_35 : decode cX9_readsLaw 35 = .ok (.ifCond .eq 53, 3) := by decide +kernel
theorem dX9_readsLaw_38 : decode cX9_readsLaw 38 = .ok (.aload_n 0, 1) := by decide +kernel
theorem dX9_readsLaw_39 : decode cX9_readsLaw 39 = .ok (.iconst 3, 1) := by decide +kernel
theorem dX9_readsLaw_40 : decode cX9_readsLaw 40 = .ok (.invokevirtual 123, 3) := by decide +kernel
theorem dX9_readsLaw_43 : decode cX9_readsLaw 43 = .ok (.ifCond .eq 45, 3) := by decide +kernel
theorem dX9_readsLaw_46 : decode cX9_readsLaw 46 = .ok (.aload_n 0, 1) := by decide +kernel
theorem dX9_readsLaw_47 : decode cX9_readsLaw 47 = .ok (.iconst 1, 1) := by decide +kernel
theorem dX9_readsLaw_48 : decode cX9_readsLaw 48 = .ok (.iconst 1, 1) := by decide +kernel
theorem dX9_readsLaw_49 : decode cX9_readsLaw 49 = .ok (.bipush 40, 2) := by decide +kernel
theorem dX9_readsLaw_51 : decode cX9_readsLaw 51 = .ok (.invokevirtual 119, 3) := by decide +kernel
theorem dX9_readsLaw_54 : decode cX9_readsLaw 54 = .ok (.ifCond .eq 34, 3) := by decide +kernel
theorem dX9_readsLaw_57 : decode cX9_readsLaw 57 = .ok (.aload_n 0, 1) := by decide +kernel
theorem dX9_readsLaw_58 : decode cX9_readsLaw 58 = .ok (.iconst 3, 1) := by decide +kernel
theorem dX9_readsLaw_59 : decode cX9_readsLaw 59 = .ok (.invokevirtual 123, 3) := by decide +kernel
theorem dX9_readsLaw_62 : decode cX9_readsLaw 62 = .ok (.ifCond .eq 26, 3) := by decide +kernel
theorem dX9_readsLaw_65 : decode cX9_readsLaw 65 = .ok (.aload_n 0, 1) := by decide +kernel
theorem dX9_readsLaw_66 : decode cX9_readsLaw 66 = .ok (.iconst 2, 1) := by decide +kernel
theorem dX9_readsLaw_67 : decode cX9_readsLaw 67 = .ok (.iconst 0, 1) := by decide +kernel
theorem dX9_readsLaw_68 : decode cX9_readsLaw 68 = .ok (.bipush 9, 2) := by decide +kernel
theorem dX9_readsLaw_70 : decode cX9_readsLaw 70 = .ok (.invokevirtual 119, 3) := by decide +kernel
theorem dX9_readsLaw_73 : decode cX9_readsLaw 73 = .ok (.ifCond .eq 15, 3) := by decide +kernel
theorem dX9_readsLaw_76 : decode cX9_readsLaw 76 = .ok (.aload_n 0, 1) := by decide +kernel
theorem dX9_readsLaw_77 : decode cX9_readsLaw 77 = .ok (.iconst 4, 1) := by decide +kernel
theorem dX9_readsLaw_78 : decode cX9_readsLaw 78 = .ok (.invokevirtual 123, 3) := by decide +kernel
theorem dX9_readsLaw_81 : decode cX9_readsLaw 81 = .ok (.ifCond .eq 7, 3) := by decide +kernel
theorem dX9_readsLaw_84 : decode cX9_readsLaw 84 = .ok (.iconst 1, 1) := by decide +kernel
theorem dX9_readsLaw_85 : decode cX9_readsLaw 85 = .ok (.goto 4, 3) := by decide +kernel
theorem dX9_readsLaw_88 : decode cX9_readsLaw 88 = .ok (.iconst 0, 1) := by decide +kernel
theorem dX9_readsLaw_89 : decode cX9_readsLaw 89 = .ok (.ireturn, 1) := by decide +kernel
theorem dX9_sortOf_0 : decode cX9_sortOf 0 = .ok (.iload_n 0, 1) := by decide +kernel
theorem dX9_sortOf_1 : decode cX9_sortOf 1 = .ok (.bipush 100, 2) := by decide +kernel
theorem dX9_sortOf_3 : decode cX9_sortOf 3 = .ok (.if_icmp .ne 7, 3) := by decide +kernel
theorem dX9_sortOf_6 : decode cX9_sortOf 6 = .ok (.iconst 1, 1) := by decide +kernel
theorem dX9_sortOf_7 : decode cX9_sortOf 7 = .ok (.goto 44, 3) := by decide +kernel
theorem dX9_sortOf_10 : decode cX9_sortOf 10 = .ok (.iload_n 0, 1) := by decide +kernel
theorem dX9_sortOf_11 : decode cX9_sortOf 11 = .ok (.bipush 103, 2) := by decide +kernel
theorem dX9_sortOf_13 : decode cX9_sortOf 13 = .ok (.if_icmp .ne 7, 3) := by decide +kernel
theorem dX9_sortOf_16 : decode cX9_sortOf 16 = .ok (.iconst 2, 1) := by decide +kernel
theorem dX9_sortOf_17 : decode cX9_sortOf 17 = .ok (.goto 34, 3) := by decide +kernel
theorem dX9_sortOf_20 : decode cX9_sortOf 20 = .ok (.iload_n 0, 1) := by decide +kernel
theorem dX9_sortOf_21 : decode cX9_sortOf 21 = .ok (.bipush 119, 2) := by decide +kernel
theorem dX9_sortOf_23 : decode cX9_sortOf 23 = .ok (.if_icmp .ne 7, 3) := by decide +kernel
theorem dX9_sortOf_26 : decode cX9_sortOf 26 = .ok (.iconst 3, 1) := by decide +kernel
theorem dX9_sortOf_27 : decode cX9_sortOf 27 = .ok (.goto 24, 3) := by decide +kernel
theorem dX9_sortOf_30 : decode cX9_sortOf 30 = .ok (.iload_n 0, 1) := by decide +kernel
theorem dX9_sortOf_31 : decode cX9_sortOf 31 = .ok (.bipush 98, 2) := by decide +kernel
theorem dX9_sortOf_33 : decode cX9_sortOf 33 = .ok (.if_icmp .ne 7, 3) := by decide +kernel
theorem dX9_sortOf_36 : decode cX9_sortOf 36 = .ok (.iconst 4, 1) := by decide +kernel
theorem dX9_sortOf_37 : decode cX9_sortOf 37 = .ok (.goto 14, 3) := by decide +kernel
theorem dX9_sortOf_40 : decode cX9_sortOf 40 = .ok (.iload_n 0, 1) := by decide +kernel
theorem dX9_sortOf_41 : decode cX9_sortOf 41 = .ok (.bipush 114, 2) := by decide +kernel
theorem dX9_sortOf_43 : decode cX9_sortOf 43 = .ok (.if_icmp .ne 7, 3) := by decide +kernel
theorem dX9_sortOf_46 : decode cX9_sortOf 46 = .ok (.iconst 5, 1) := by decide +kernel
theorem dX9_sortOf_47 : decode cX9_sortOf 47 = .ok (.goto 4, 3) := by decide +kernel
theorem dX9_sortOf_50 : decode cX9_sortOf 50 = .ok (.iconst 0, 1) := by decide +kernel
theorem dX9_sortOf_51 : decode cX9_sortOf 51 = .ok (.ireturn, 1) := by decide +kernel
theorem dX9_readsDrinker_0 : decode cX9_readsDrinker 0 = .ok (.aload_n 0, 1) := by decide +kernel
theorem dX9_readsDrinker_1 : decode cX9_readsDrinker 1 = .ok (.getfield 38, 3) := by decide +kernel
theorem dX9_readsDrinker_4 : decode cX9_readsDrinker 4 = .ok (.iconst 3, 1) := by decide +kernel
theorem dX9_readsDrinker_5 : decode cX9_readsDrinker 5 = .ok (.iaload, 1) := by decide +kernel
theorem dX9_readsDrinker_6 : decode cX9_readsDrinker 6 = .ok (.istore_n 2, 1) := by decide +kernel
theorem dX9_readsDrinker_7 : decode cX9_readsDrinker 7 = .ok (.iload_n 2, 1) := by decide +kernel
theorem dX9_readsDrinker_8 : decode cX9_readsDrinker 8 = .ok (.bipush 6, 2) := by decide +kernel
theorem dX9_readsDrinker_10 : decode cX9_readsDrinker 10 = .ok (.if_icmp .ne 9, 3) := by decide +kernel
theorem dX9_readsDrinker_13 : decode cX9_readsDrinker 13 = .ok (.aload_n 0, 1) := by decide +kernel
theorem dX9_readsDrinker_14 : decode cX9_readsDrinker 14 = .ok (.iconst 3, 1) := by decide +kernel
theorem dX9_readsDrinker_15 : decode cX9_readsDrinker 15 = .ok (.invokevirtual 116, 3) := by decide +kernel
theorem dX9_readsDrinker_18 : decode cX9_readsDrinker 18 = .ok (.ireturn, 1) := by decide +kernel
theorem dX9_readsDrinker_19 : decode cX9_readsDrinker 19 = .ok (.aload_n 0, 1) := by decide +kernel
theorem dX9_readsDrinker_20 : decode cX9_readsDrinker 20 = .ok (.getfield 38, 3) := by decide +kernel
theorem dX9_readsDrinker_23 : decode cX9_readsDrinker 23 = .ok (.bipush 6, 2) := by decide +kernel
theorem dX9_readsDrinker_25 : decode cX9_readsDrinker 25 = .ok (.iload_n 2, 1) := by decide +kernel
theorem dX9_readsDrinker_26 : decode cX9_readsDrinker 26 = .ok (.iadd, 1) := by decide +kernel
theorem dX9_readsDrinker_27 : decode cX9_readsDrinker 27 = .ok (.iload_n 1, 1) := by decide +kernel
theorem dX9_readsDrinker_28 : decode cX9_readsDrinker 28 = .ok (.iastore, 1) := by decide +kernel
theorem dX9_readsDrinker_29 : decode cX9_readsDrinker 29 = .ok (.aload_n 0, 1) := by decide +kernel
theorem dX9_readsDrinker_30 : decode cX9_readsDrinker 30 = .ok (.getfield 38, 3) := by decide +kernel
theorem dX9_readsDrinker_33 : decode cX9_readsDrinker 33 = .ok (.iconst 3, 1) := by decide +kernel
theorem dX9_readsDrinker_34 : decode cX9_readsDrinker 34 = .ok (.dup2, 1) := by decide +kernel
theorem dX9_readsDrinker_35 : decode cX9_readsDrinker 35 = .ok (.iaload, 1) := by decide +kernel
end
section
theorem dX9_readsDrinker_36 : decode cX9_readsDrinker 36 = .ok (.iconst 1, 1) := by decide +kernel
theorem dX9_readsDrinker_37 : decode cX9_readsDrinker 37 = .ok (.iadd, 1) := by decide +kernel
theorem dX9_readsDrinker_38 : decode cX9_readsDrinker 38 = .ok (.iastore, 1) := by decide +kernel
theorem dX9_readsDrinker_39 : decode cX9_readsDrinker 39 = .ok (.aload_n 0, 1) := by decide +kernel
theorem dX9_readsDrinker_40 : decode cX9_readsDrinker 40 = .ok (.bipush 12, 2) := by decide +kernel
theorem dX9_readsDrinker_42 : decode cX9_readsDrinker 42 = .ok (.iload_n 2, 1) := by decide +kernel
theorem dX9_readsDrinker_43 : decode cX9_readsDrinker 43 = .ok (.iadd, 1) := by decide +kernel
theorem dX9_readsDrinker_44 : decode cX9_readsDrinker 44 = .ok (.iconst 0, 1) := by decide +kernel
theorem dX9_readsDrinker_45 : decode cX9_readsDrinker 45 = .ok (.bipush 12, 2) := by decide +kernel
theorem dX9_readsDrinker_47 : decode cX9_readsDrinker 47 = .ok (.invokevirtual 119, 3) := by decide +kernel
theorem dX9_readsDrinker_50 : decode cX9_readsDrinker 50 = .ok (.ifCond .eq 36, 3) := by decide +kernel
theorem dX9_readsDrinker_53 : decode cX9_readsDrinker 53 = .ok (.aload_n 0, 1) := by decide +kernel
theorem dX9_readsDrinker_54 : decode cX9_readsDrinker 54 = .ok (.iconst 3, 1) := by decide +kernel
theorem dX9_readsDrinker_55 : decode cX9_readsDrinker 55 = .ok (.invokevirtual 123, 3) := by decide +kernel
theorem dX9_readsDrinker_58 : decode cX9_readsDrinker 58 = .ok (.ifCond .eq 28, 3) := by decide +kernel
theorem dX9_readsDrinker_61 : decode cX9_readsDrinker 61 = .ok (.aload_n 0, 1) := by decide +kernel
theorem dX9_readsDrinker_62 : decode cX9_readsDrinker 62 = .ok (.bipush 18, 2) := by decide +kernel
theorem dX9_readsDrinker_64 : decode cX9_readsDrinker 64 = .ok (.iload_n 2, 1) := by decide +kernel
theorem dX9_readsDrinker_65 : decode cX9_readsDrinker 65 = .ok (.iadd, 1) := by decide +kernel
theorem dX9_readsDrinker_66 : decode cX9_readsDrinker 66 = .ok (.iconst 0, 1) := by decide +kernel
theorem dX9_readsDrinker_67 : decode cX9_readsDrinker 67 = .ok (.iconst 5, 1) := by decide +kernel
theorem dX9_readsDrinker_68 : decode cX9_readsDrinker 68 = .ok (.invokevirtual 119, 3) := by decide +kernel
theorem dX9_readsDrinker_71 : decode cX9_readsDrinker 71 = .ok (.ifCond .eq 15, 3) := by decide +kernel
theorem dX9_readsDrinker_74 : decode cX9_readsDrinker 74 = .ok (.aload_n 0, 1) := by decide +kernel
theorem dX9_readsDrinker_75 : decode cX9_readsDrinker 75 = .ok (.iconst 4, 1) := by decide +kernel
theorem dX9_readsDrinker_76 : decode cX9_readsDrinker 76 = .ok (.invokevirtual 123, 3) := by decide +kernel
theorem dX9_readsDrinker_79 : decode cX9_readsDrinker 79 = .ok (.ifCond .eq 7, 3) := by decide +kernel
theorem dX9_readsDrinker_82 : decode cX9_readsDrinker 82 = .ok (.iconst 1, 1) := by decide +kernel
theorem dX9_readsDrinker_83 : decode cX9_readsDrinker 83 = .ok (.goto 4, 3) := by decide +kernel
theorem dX9_readsDrinker_86 : decode cX9_readsDrinker 86 = .ok (.iconst 0, 1) := by decide +kernel
theorem dX9_readsDrinker_87 : decode cX9_readsDrinker 87 = .ok (.ireturn, 1) := by decide +kernel
theorem dX9_readsTie_0 : decode cX9_readsTie 0 = .ok (.aload_n 0, 1) := by decide +kernel
theorem dX9_readsTie_1 : decode cX9_readsTie 1 = .ok (.getfield 38, 3) := by decide +kernel
theorem dX9_readsTie_4 : decode cX9_readsTie 4 = .ok (.iconst 4, 1) := by decide +kernel
theorem dX9_readsTie_5 : decode cX9_readsTie 5 = .ok (.iaload, 1) := by decide +kernel
theorem dX9_readsTie_6 : decode cX9_readsTie 6 = .ok (.istore_n 1, 1) := by decide +kernel
theorem dX9_readsTie_7 : decode cX9_readsTie 7 = .ok (.iload_n 1, 1) := by decide +kernel
theorem dX9_readsTie_8 : decode cX9_readsTie 8 = .ok (.bipush 10, 2) := by decide +kernel
theorem dX9_readsTie_10 : decode cX9_readsTie 10 = .ok (.if_icmp .ne 9, 3) := by decide +kernel
theorem dX9_readsTie_13 : decode cX9_readsTie 13 = .ok (.aload_n 0, 1) := by decide +kernel
theorem dX9_readsTie_14 : decode cX9_readsTie 14 = .ok (.iconst 3, 1) := by decide +kernel
theorem dX9_readsTie_15 : decode cX9_readsTie 15 = .ok (.invokevirtual 116, 3) := by decide +kernel
theorem dX9_readsTie_18 : decode cX9_readsTie 18 = .ok (.ireturn, 1) := by decide +kernel
theorem dX9_readsTie_19 : decode cX9_readsTie 19 = .ok (.aload_n 0, 1) := by decide +kernel
theorem dX9_readsTie_20 : decode cX9_readsTie 20 = .ok (.bipush 24, 2) := by decide +kernel
theorem dX9_readsTie_22 : decode cX9_readsTie 22 = .ok (.iload_n 1, 1) := by decide +kernel
theorem dX9_readsTie_23 : decode cX9_readsTie 23 = .ok (.iadd, 1) := by decide +kernel
theorem dX9_readsTie_24 : decode cX9_readsTie 24 = .ok (.iconst 0, 1) := by decide +kernel
theorem dX9_readsTie_25 : decode cX9_readsTie 25 = .ok (.aload_n 0, 1) := by decide +kernel
theorem dX9_readsTie_26 : decode cX9_readsTie 26 = .ok (.getfield 38, 3) := by decide +kernel
theorem dX9_readsTie_29 : decode cX9_readsTie 29 = .ok (.iconst 3, 1) := by decide +kernel
theorem dX9_readsTie_30 : decode cX9_readsTie 30 = .ok (.iaload, 1) := by decide +kernel
theorem dX9_readsTie_31 : decode cX9_readsTie 31 = .ok (.iconst 1, 1) := by decide +kernel
theorem dX9_readsTie_32 : decode cX9_readsTie 32 = .ok (.isub, 1) := by decide +kernel
theorem dX9_readsTie_33 : decode cX9_readsTie 33 = .ok (.invokevirtual 119, 3) := by decide +kernel
theorem dX9_readsTie_36 : decode cX9_readsTie 36 = .ok (.ifCond .eq 31, 3) := by decide +kernel
theorem dX9_readsTie_39 : decode cX9_readsTie 39 = .ok (.aload_n 0, 1) := by decide +kernel
theorem dX9_readsTie_40 : decode cX9_readsTie 40 = .ok (.iconst 3, 1) := by decide +kernel
theorem dX9_readsTie_41 : decode cX9_readsTie 41 = .ok (.invokevirtual 123, 3) := by decide +kernel
theorem dX9_readsTie_44 : decode cX9_readsTie 44 = .ok (.ifCond .eq 23, 3) := by decide +kernel
theorem dX9_readsTie_47 : decode cX9_readsTie 47 = .ok (.aload_n 0, 1) := by decide +kernel
theorem dX9_readsTie_48 : decode cX9_readsTie 48 = .ok (.bipush 34, 2) := by decide +kernel
theorem dX9_readsTie_50 : decode cX9_readsTie 50 = .ok (.iload_n 1, 1) := by decide +kernel
theorem dX9_readsTie_51 : decode cX9_readsTie 51 = .ok (.iadd, 1) := by decide +kernel
theorem dX9_readsTie_52 : decode cX9_readsTie 52 = .ok (.iconst 0, 1) := by decide +kernel
theorem dX9_readsTie_53 : decode cX9_readsTie 53 = .ok (.aload_n 0, 1) := by decide +kernel
theorem dX9_readsTie_54 : decode cX9_readsTie 54 = .ok (.getfield 38, 3) := by decide +kernel
theorem dX9_readsTie_57 : decode cX9_readsTie 57 = .ok (.iconst 3, 1) := by decide +kernel
theorem dX9_readsTie_58 : decode cX9_readsTie 58 = .ok (.iaload, 1) := by decide +kernel
theorem dX9_readsTie_59 : decode cX9_readsTie 59 = .ok (.iconst 1, 1) := by decide +kernel
theorem dX9_readsTie_60 : decode cX9_readsTie 60 = .ok (.isub, 1) := by decide +kernel
theorem dX9_readsTie_61 : decode cX9_readsTie 61 = .ok (.invokevirtual 119, 3) := by decide +kernel
theorem dX9_readsTie_64 : decode cX9_readsTie 64 = .ok (.ifCond .ne 5, 3) := by decide +kernel
theorem dX9_readsTie_67 : decode cX9_readsTie 67 = .ok (.iconst 0, 1) := by decide +kernel
theorem dX9_readsTie_68 : decode cX9_readsTie 68 = .ok (.ireturn, 1) := by decide +kernel
theorem dX9_readsTie_69 : decode cX9_readsTie 69 = .ok (.aload_n 0, 1) := by decide +kernel
theorem dX9_readsTie_70 : decode cX9_readsTie 70 = .ok (.getfield 38, 3) := by decide +kernel
theorem dX9_readsTie_73 : decode cX9_readsTie 73 = .ok (.bipush 34, 2) := by decide +kernel
theorem dX9_readsTie_75 : decode cX9_readsTie 75 = .ok (.iload_n 1, 1) := by decide +kernel
theorem dX9_readsTie_76 : decode cX9_readsTie 76 = .ok (.iadd, 1) := by decide +kernel
theorem dX9_readsTie_77 : decode cX9_readsTie 77 = .ok (.iaload, 1) := by decide +kernel
theorem dX9_readsTie_78 : decode cX9_readsTie 78 = .ok (.aload_n 0, 1) := by decide +kernel
theorem dX9_readsTie_79 : decode cX9_readsTie 79 = .ok (.getfield 38, 3) := by decide +kernel
theorem dX9_readsTie_82 : decode cX9_readsTie 82 = .ok (.bipush 24, 2) := by decide +kernel
theorem dX9_readsTie_84 : decode cX9_readsTie 84 = .ok (.iload_n 1, 1) := by decide +kernel
theorem dX9_readsTie_85 : decode cX9_readsTie 85 = .ok (.iadd, 1) := by decide +kernel
theorem dX9_readsTie_86 : decode cX9_readsTie 86 = .ok (.iaload, 1) := by decide +kernel
theorem dX9_readsTie_87 : decode cX9_readsTie 87 = .ok (.if_icmp .eq 7, 3) := by decide +kernel
theorem dX9_readsTie_90 : decode cX9_readsTie 90 = .ok (.iconst 1, 1) := by decide +kernel
theorem dX9_readsTie_91 : decode cX9_readsTie 91 = .ok (.goto 4, 3) := by decide +kernel
theorem dX9_readsTie_94 : decode cX9_readsTie 94 = .ok (.iconst 0, 1) := by decide +kernel
theorem dX9_readsTie_95 : decode cX9_readsTie 95 = .ok (.istore_n 2, 1) := by decide +kernel
theorem dX9_readsTie_96 : decode cX9_readsTie 96 = .ok (.iconst 0, 1) := by decide +kernel
theorem dX9_readsTie_97 : decode cX9_readsTie 97 = .ok (.istore_n 3, 1) := by decide +kernel
theorem dX9_readsTie_98 : decode cX9_readsTie 98 = .ok (.iload_n 3, 1) := by decide +kernel
theorem dX9_readsTie_99 : decode cX9_readsTie 99 = .ok (.iload_n 1, 1) := by decide +kernel
theorem dX9_readsTie_100 : decode cX9_readsTie 100 = .ok (.if_icmp .ge 61, 3) := by decide +kernel
theorem dX9_readsTie_103 : decode cX9_readsTie 103 = .ok (.iload_n 2, 1) := by decide +kernel
theorem dX9_readsTie_104 : decode cX9_readsTie 104 = .ok (.ifCond .eq 49, 3) := by decide +kernel
theorem dX9_readsTie_107 : decode cX9_readsTie 107 = .ok (.aload_n 0, 1) := by decide +kernel
theorem dX9_readsTie_108 : decode cX9_readsTie 108 = .ok (.getfield 38, 3) := by decide +kernel
theorem dX9_readsTie_111 : decode cX9_readsTie 111 = .ok (.bipush 24, 2) := by decide +kernel
theorem dX9_readsTie_113 : decode cX9_readsTie 113 = .ok (.iload_n 3, 1) := by decide +kernel
theorem dX9_readsTie_114 : decode cX9_readsTie 114 = .ok (.iadd, 1) := by decide +kernel
theorem dX9_readsTie_115 : decode cX9_readsTie 115 = .ok (.iaload, 1) := by decide +kernel
theorem dX9_readsTie_116 : decode cX9_readsTie 116 = .ok (.aload_n 0, 1) := by decide +kernel
theorem dX9_readsTie_117 : decode cX9_readsTie 117 = .ok (.getfield 38, 3) := by decide +kernel
theorem dX9_readsTie_120 : decode cX9_readsTie 120 = .ok (.bipush 24, 2) := by decide +kernel
theorem dX9_readsTie_122 : decode cX9_readsTie 122 = .ok (.iload_n 1, 1) := by decide +kernel
theorem dX9_readsTie_123 : decode cX9_readsTie 123 = .ok (.iadd, 1) := by decide +kernel
theorem dX9_readsTie_124 : decode cX9_readsTie 124 = .ok (.iaload, 1) := by decide +kernel
theorem dX9_readsTie_125 : decode cX9_readsTie 125 = .ok (.if_icmp .ne 24, 3) := by decide +kernel
theorem dX9_readsTie_128 : decode cX9_readsTie 128 = .ok (.aload_n 0, 1) := by decide +kernel
theorem dX9_readsTie_129 : decode cX9_readsTie 129 = .ok (.getfield 38, 3) := by decide +kernel
theorem dX9_readsTie_132 : decode cX9_readsTie 132 = .ok (.bipush 34, 2) := by decide +kernel
theorem dX9_readsTie_134 : decode cX9_readsTie 134 = .ok (.iload_n 3, 1) := by decide +kernel
theorem dX9_readsTie_135 : decode cX9_readsTie 135 = .ok (.iadd, 1) := by decide +kernel
theorem dX9_readsTie_136 : decode cX9_readsTie 136 = .ok (.iaload, 1) := by decide +kernel
theorem dX9_readsTie_137 : decode cX9_readsTie 137 = .ok (.aload_n 0, 1) := by decide +kernel
theorem dX9_readsTie_138 : decode cX9_readsTie 138 = .ok (.getfield 38, 3) := by decide +kernel
theorem dX9_readsTie_141 : decode cX9_readsTie 141 = .ok (.bipush 34, 2) := by decide +kernel
theorem dX9_readsTie_143 : decode cX9_readsTie 143 = .ok (.iload_n 1, 1) := by decide +kernel
theorem dX9_readsTie_144 : decode cX9_readsTie 144 = .ok (.iadd, 1) := by decide +kernel
theorem dX9_readsTie_145 : decode cX9_readsTie 145 = .ok (.iaload, 1) := by decide +kernel
theorem dX9_readsTie_146 : decode cX9_readsTie 146 = .ok (.if_icmp .eq 7, 3) := by decide +kernel
theorem dX9_readsTie_149 : decode cX9_readsTie 149 = .ok (.iconst 1, 1) := by decide +kernel
theorem dX9_readsTie_150 : decode cX9_readsTie 150 = .ok (.goto 4, 3) := by decide +kernel
theorem dX9_readsTie_153 : decode cX9_readsTie 153 = .ok (.iconst 0, 1) := by decide +kernel
theorem dX9_readsTie_154 : decode cX9_readsTie 154 = .ok (.istore_n 2, 1) := by decide +kernel
theorem dX9_readsTie_155 : decode cX9_readsTie 155 = .ok (.iinc 3 1, 3) := by decide +kernel
theorem dX9_readsTie_158 : decode cX9_readsTie 158 = .ok (.goto (-60), 3) := by decide +kernel
theorem dX9_readsTie_161 : decode cX9_readsTie 161 = .ok (.iload_n 2, 1) := by decide +kernel
theorem dX9_readsTie_162 : decode cX9_readsTie 162 = .ok (.ifCond .ne 9, 3) := by decide +kernel
theorem dX9_readsTie_165 : decode cX9_readsTie 165 = .ok (.aload_n 0, 1) := by decide +kernel
theorem dX9_readsTie_166 : decode cX9_readsTie 166 = .ok (.iconst 2, 1) := by decide +kernel
theorem dX9_readsTie_167 : decode cX9_readsTie 167 = .ok (.invokevirtual 116, 3) := by decide +kernel
theorem dX9_readsTie_170 : decode cX9_readsTie 170 = .ok (.ireturn, 1) := by decide +kernel
theorem dX9_readsTie_171 : decode cX9_readsTie 171 = .ok (.aload_n 0, 1) := by decide +kernel
theorem dX9_readsTie_172 : decode cX9_readsTie 172 = .ok (.getfield 38, 3) := by decide +kernel
theorem dX9_readsTie_175 : decode cX9_readsTie 175 = .ok (.iconst 4, 1) := by decide +kernel
theorem dX9_readsTie_176 : decode cX9_readsTie 176 = .ok (.dup2, 1) := by decide +kernel
theorem dX9_readsTie_177 : decode cX9_readsTie 177 = .ok (.iaload, 1) := by decide +kernel
theorem dX9_readsTie_178 : decode cX9_readsTie 178 = .ok (.iconst 1, 1) := by decide +kernel
theorem dX9_readsTie_179 : decode cX9_readsTie 179 = .ok (.iadd, 1) := by decide +kernel
theorem dX9_readsTie_180 : decode cX9_readsTie 180 = .ok (.iastore, 1) := by decide +kernel
theorem dX9_readsTie_181 : decode cX9_readsTie 181 = .ok (.aload_n 0, 1) := by decide +kernel
theorem dX9_readsTie_182 : decode cX9_readsTie 182 = .ok (.iconst 4, 1) := by decide +kernel
theorem dX9_readsTie_183 : decode cX9_readsTie 183 = .ok (.invokevirtual 123, 3) := by decide +kernel
theorem dX9_readsTie_186 : decode cX9_readsTie 186 = .ok (.ireturn, 1) := by decide +kernel
theorem dX9_reads_0 : decode cX9_reads 0 = .ok (.iconst 0, 1) := by decide +kernel
theorem dX9_reads_1 : decode cX9_reads 1 = .ok (.istore_n 1, 1) := by decide +kernel
theorem dX9_reads_2 : decode cX9_reads 2 = .ok (.iload_n 1, 1) := by decide +kernel
theorem dX9_reads_3 : decode cX9_reads 3 = .ok (.bipush 66, 2) := by decide +kernel
theorem dX9_reads_5 : decode cX9_reads 5 = .ok (.if_icmp .ge 16, 3) := by decide +kernel
theorem dX9_reads_8 : decode cX9_reads 8 = .ok (.aload_n 0, 1) := by decide +kernel
theorem dX9_reads_9 : decode cX9_reads 9 = .ok (.getfield 38, 3) := by decide +kernel
theorem dX9_reads_12 : decode cX9_reads 12 = .ok (.iload_n 1, 1) := by decide +kernel
theorem dX9_reads_13 : decode cX9_reads 13 = .ok (.iconst 0, 1) := by decide +kernel
theorem dX9_reads_14 : decode cX9_reads 14 = .ok (.iastore, 1) := by decide +kernel
theorem dX9_reads_15 : decode cX9_reads 15 = .ok (.iinc 1 1, 3) := by decide +kernel
theorem dX9_reads_18 : decode cX9_reads 18 = .ok (.goto (-16), 3) := by decide +kernel
theorem dX9_reads_21 : decode cX9_reads 21 = .ok (.aload_n 0, 1) := by decide +kernel
theorem dX9_reads_22 : decode cX9_reads 22 = .ok (.iconst 0, 1) := by decide +kernel
theorem dX9_reads_23 : decode cX9_reads 23 = .ok (.putfield 88, 3) := by decide +kernel
theorem dX9_reads_26 : decode cX9_reads 26 = .ok (.aload_n 0, 1) := by decide +kernel
theorem dX9_reads_27 : decode cX9_reads 27 = .ok (.invokevirtual 126, 3) := by decide +kernel
theorem dX9_reads_30 : decode cX9_reads 30 = .ok (.ifCond .ne 5, 3) := by decide +kernel
theorem dX9_reads_33 : decode cX9_reads 33 = .ok (.iconst 0, 1) := by decide +kernel
theorem dX9_reads_34 : decode cX9_reads 34 = .ok (.ireturn, 1) := by decide +kernel
theorem dX9_reads_35 : decode cX9_reads 35 = .ok (.aload_n 0, 1) := by decide +kernel
theorem dX9_reads_36 : decode cX9_reads 36 = .ok (.invokevirtual 113, 3) := by decide +kernel
theorem dX9_reads_39 : decode cX9_reads 39 = .ok (.aload_n 0, 1) := by decide +kernel
theorem dX9_reads_40 : decode cX9_reads 40 = .ok (.getfield 104, 3) := by decide +kernel
theorem dX9_reads_43 : decode cX9_reads 43 = .ok (.ifCond .eq 109, 3) := by decide +kernel
theorem dX9_reads_46 : decode cX9_reads 46 = .ok (.aload_n 0, 1) := by decide +kernel
theorem dX9_reads_47 : decode cX9_reads 47 = .ok (.getfield 104, 3) := by decide +kernel
theorem dX9_reads_50 : decode cX9_reads 50 = .ok (.iconst 1, 1) := by decide +kernel
theorem dX9_reads_51 : decode cX9_reads 51 = .ok (.if_icmp .ne 22, 3) := by decide +kernel
theorem dX9_reads_54 : decode cX9_reads 54 = .ok (.aload_n 0, 1) := by decide +kernel
theorem dX9_reads_55 : decode cX9_reads 55 = .ok (.getfield 38, 3) := by decide +kernel
theorem dX9_reads_58 : decode cX9_reads 58 = .ok (.iconst 4, 1) := by decide +kernel
theorem dX9_reads_59 : decode cX9_reads 59 = .ok (.iaload, 1) := by decide +kernel
theorem dX9_reads_60 : decode cX9_reads 60 = .ok (.ifCond .ne 13, 3) := by decide +kernel
theorem dX9_reads_63 : decode cX9_reads 63 = .ok (.aload_n 0, 1) := by decide +kernel
theorem dX9_reads_64 : decode cX9_reads 64 = .ok (.getfield 107, 3) := by decide +kernel
theorem dX9_reads_67 : decode cX9_reads 67 = .ok (.invokestatic 130, 3) := by decide +kernel
theorem dX9_reads_70 : decode cX9_reads 70 = .ok (.goto 4, 3) := by decide +kernel
theorem dX9_reads_73 : decode cX9_reads 73 = .ok (.iconst 0, 1) := by decide +kernel
theorem dX9_reads_74 : decode cX9_reads 74 = .ok (.istore_n 1, 1) := by decide +kernel
theorem dX9_reads_75 : decode cX9_reads 75 = .ok (.aload_n 0, 1) := by decide +kernel
theorem dX9_reads_76 : decode cX9_reads 76 = .ok (.getfield 104, 3) := by decide +kernel
theorem dX9_reads_79 : decode cX9_reads 79 = .ok (.iconst 1, 1) := by decide +kernel
theorem dX9_reads_80 : decode cX9_reads 80 = .ok (.if_icmp .ne 25, 3) := by decide +kernel
theorem dX9_reads_83 : decode cX9_reads 83 = .ok (.aload_n 0, 1) := by decide +kernel
theorem dX9_reads_84 : decode cX9_reads 84 = .ok (.getfield 107, 3) := by decide +kernel
theorem dX9_reads_87 : decode cX9_reads 87 = .ok (.bipush 116, 2) := by decide +kernel
theorem dX9_reads_89 : decode cX9_reads 89 = .ok (.if_icmp .ne 16, 3) := by decide +kernel
theorem dX9_reads_92 : decode cX9_reads 92 = .ok (.aload_n 0, 1) := by decide +kernel
theorem dX9_reads_93 : decode cX9_reads 93 = .ok (.getfield 38, 3) := by decide +kernel
theorem dX9_reads_96 : decode cX9_reads 96 = .ok (.iconst 3, 1) := by decide +kernel
theorem dX9_reads_97 : decode cX9_reads 97 = .ok (.iaload, 1) := by decide +kernel
theorem dX9_reads_98 : decode cX9_reads 98 = .ok (.ifCond .le 7, 3) := by decide +kernel
theorem dX9_reads_101 : decode cX9_reads 101 = .ok (.iconst 1, 1) := by decide +kernel
theorem dX9_reads_102 : decode cX9_reads 102 = .ok (.goto 4, 3) := by decide +kernel
theorem dX9_reads_105 : decode cX9_reads 105 = .ok (.iconst 0, 1) := by decide +kernel
theorem dX9_reads_106 : decode cX9_reads 106 = .ok (.istore_n 2, 1) := by decide +kernel
theorem dX9_reads_107 : decode cX9_reads 107 = .ok (.iload_n 1, 1) := by decide +kernel
theorem dX9_reads_108 : decode cX9_reads 108 = .ok (.ifCond .ne 13, 3) := by decide +kernel
theorem dX9_reads_111 : decode cX9_reads 111 = .ok (.iload_n 2, 1) := by decide +kernel
theorem dX9_reads_112 : decode cX9_reads 112 = .ok (.ifCond .ne 9, 3) := by decide +kernel
theorem dX9_reads_115 : decode cX9_reads 115 = .ok (.aload_n 0, 1) := by decide +kernel
theorem dX9_reads_116 : decode cX9_reads 116 = .ok (.iconst 1, 1) := by decide +kernel
theorem dX9_reads_117 : decode cX9_reads 117 = .ok (.invokevirtual 116, 3) := by decide +kernel
theorem dX9_reads_120 : decode cX9_reads 120 = .ok (.ireturn, 1) := by decide +kernel
theorem dX9_reads_121 : decode cX9_reads 121 = .ok (.iload_n 2, 1) := by decide +kernel
theorem dX9_reads_122 : decode cX9_reads 122 = .ok (.ifCond .eq 13, 3) := by decide +kernel
theorem dX9_reads_125 : decode cX9_reads 125 = .ok (.aload_n 0, 1) := by decide +kernel
theorem dX9_reads_126 : decode cX9_reads 126 = .ok (.invokevirtual 133, 3) := by decide +kernel
theorem dX9_reads_129 : decode cX9_reads 129 = .ok (.ifCond .eq 14, 3) := by decide +kernel
theorem dX9_reads_132 : decode cX9_reads 132 = .ok (.goto 13, 3) := by decide +kernel
theorem dX9_reads_135 : decode cX9_reads 135 = .ok (.aload_n 0, 1) := by decide +kernel
theorem dX9_reads_136 : decode cX9_reads 136 = .ok (.iload_n 1, 1) := by decide +kernel
theorem dX9_reads_137 : decode cX9_reads 137 = .ok (.invokevirtual 136, 3) := by decide +kernel
theorem dX9_reads_140 : decode cX9_reads 140 = .ok (.ifCond .ne 5, 3) := by decide +kernel
theorem dX9_reads_143 : decode cX9_reads 143 = .ok (.iconst 0, 1) := by decide +kernel
theorem dX9_reads_144 : decode cX9_reads 144 = .ok (.ireturn, 1) := by decide +kernel
theorem dX9_reads_145 : decode cX9_reads 145 = .ok (.aload_n 0, 1) := by decide +kernel
theorem dX9_reads_146 : decode cX9_reads 146 = .ok (.invokevirtual 113, 3) := by decide +kernel
theorem dX9_reads_149 : decode cX9_reads 149 = .ok (.goto (-110), 3) := by decide +kernel
theorem dX9_reads_152 : decode cX9_reads 152 = .ok (.aload_n 0, 1) := by decide +kernel
theorem dX9_reads_153 : decode cX9_reads 153 = .ok (.getfield 38, 3) := by decide +kernel
theorem dX9_reads_156 : decode cX9_reads 156 = .ok (.iconst 3, 1) := by decide +kernel
theorem dX9_reads_157 : decode cX9_reads 157 = .ok (.iaload, 1) := by decide +kernel
theorem dX9_reads_158 : decode cX9_reads 158 = .ok (.ifCond .gt 11, 3) := by decide +kernel
theorem dX9_reads_161 : decode cX9_reads 161 = .ok (.aload_n 0, 1) := by decide +kernel
theorem dX9_reads_162 : decode cX9_reads 162 = .ok (.iconst 1, 1) := by decide +kernel
theorem dX9_reads_163 : decode cX9_reads 163 = .ok (.invokevirtual 116, 3) := by decide +kernel
theorem dX9_reads_166 : decode cX9_reads 166 = .ok (.ifCond .eq 7, 3) := by decide +kernel
theorem dX9_reads_169 : decode cX9_reads 169 = .ok (.iconst 1, 1) := by decide +kernel
theorem dX9_reads_170 : decode cX9_reads 170 = .ok (.goto 4, 3) := by decide +kernel
theorem dX9_reads_173 : decode cX9_reads 173 = .ok (.iconst 0, 1) := by decide +kernel
theorem dX9_reads_174 : decode cX9_reads 174 = .ok (.ireturn, 1) := by decide +kernel
theorem dX9_town_0 : decode cX9_town 0 = .ok (.aload_n 0, 1) := by decide +kernel
theorem dX9_town_1 : decode cX9_town 1 = .ok (.aload_n 0, 1) := by decide +kernel
theorem dX9_town_2 : decode cX9_town 2 = .ok (.getfield 80, 3) := by decide +kernel
theorem dX9_town_5 : decode cX9_town 5 = .ok (.putfield 94, 3) := by decide +kernel
theorem dX9_town_8 : decode cX9_town 8 = .ok (.aload_n 0, 1) := by decide +kernel
theorem dX9_town_9 : decode cX9_town 9 = .ok (.iconst 0, 1) := by decide +kernel
theorem dX9_town_10 : decode cX9_town 10 = .ok (.putfield 80, 3) := by decide +kernel
theorem dX9_town_13 : decode cX9_town 13 = .ok (.aload_n 0, 1) := by decide +kernel
theorem dX9_town_14 : decode cX9_town 14 = .ok (.invokevirtual 139, 3) := by decide +kernel
theorem dX9_town_17 : decode cX9_town 17 = .ok (.ifCond .ne 11, 3) := by decide +kernel
theorem dX9_town_20 : decode cX9_town 20 = .ok (.ldc 142, 2) := by decide +kernel
theorem dX9_town_22 : decode cX9_town 22 = .ok (.aload_n 0, 1) := by decide +kernel
theorem dX9_town_23 : decode cX9_town 23 = .ok (.getfield 91, 3) := by decide +kernel
theorem dX9_town_26 : decode cX9_town 26 = .ok (.isub, 1) := by decide +kernel
theorem dX9_town_27 : decode cX9_town 27 = .ok (.ireturn, 1) := by decide +kernel
theorem dX9_town_28 : decode cX9_town 28 = .ok (.aload_n 0, 1) := by decide +kernel
theorem dX9_town_29 : decode cX9_town 29 = .ok (.iconst 1, 1) := by decide +kernel
theorem dX9_town_30 : decode cX9_town 30 = .ok (.putfield 143, 3) := by decide +kernel
theorem dX9_town_33 : decode cX9_town 33 = .ok (.aload_n 0, 1) := by decide +kernel
theorem dX9_town_34 : decode cX9_town 34 = .ok (.iconst 0, 1) := by decide +kernel
theorem dX9_town_35 : decode cX9_town 35 = .ok (.putfield 147, 3) := by decide +kernel
theorem dX9_town_38 : decode cX9_town 38 = .ok (.aload_n 0, 1) := by decide +kernel
theorem dX9_town_39 : decode cX9_town 39 = .ok (.getfield 38, 3) := by decide +kernel
theorem dX9_town_42 : decode cX9_town 42 = .ok (.iconst 0, 1) := by decide +kernel
theorem dX9_town_43 : decode cX9_town 43 = .ok (.aload_n 0, 1) := by decide +kernel
theorem dX9_town_44 : decode cX9_town 44 = .ok (.getfield 22, 3) := by decide +kernel
theorem dX9_town_47 : decode cX9_town 47 = .ok (.iconst 0, 1) := by decide +kernel
theorem dX9_town_48 : decode cX9_town 48 = .ok (.invokestatic 150, 3) := by decide +kernel
theorem dX9_town_51 : decode cX9_town 51 = .ok (.aload_n 0, 1) := by decide +kernel
theorem dX9_town_52 : decode cX9_town 52 = .ok (.getfield 22, 3) := by decide +kernel
theorem dX9_town_55 : decode cX9_town 55 = .ok (.iconst 3, 1) := by decide +kernel
theorem dX9_town_56 : decode cX9_town 56 = .ok (.iaload, 1) := by decide +kernel
theorem dX9_town_57 : decode cX9_town 57 = .ok (.ireturn, 1) := by decide +kernel
theorem dX9_fault_0 : decode cX9_fault 0 = .ok (.aload_n 0, 1) := by decide +kernel
theorem dX9_fault_1 : decode cX9_fault 1 = .ok (.getfield 110, 3) := by decide +kernel
theorem dX9_fault_4 : decode cX9_fault 4 = .ok (.ireturn, 1) := by decide +kernel
theorem dX9_copies_0 : decode cX9_copies 0 = .ok (.iconst 0, 1) := by decide +kernel
theorem dX9_copies_1 : decode cX9_copies 1 = .ok (.istore 4, 2) := by decide +kernel
theorem dX9_copies_3 : decode cX9_copies 3 = .ok (.iload 4, 2) := by decide +kernel
theorem dX9_copies_5 : decode cX9_copies 5 = .ok (.bipush 66, 2) := by decide +kernel
theorem dX9_copies_7 : decode cX9_copies 7 = .ok (.if_icmp .ge 21, 3) := by decide +kernel
theorem dX9_copies_10 : decode cX9_copies 10 = .ok (.aload_n 2, 1) := by decide +kernel
theorem dX9_copies_11 : decode cX9_copies 11 = .ok (.iload_n 3, 1) := by decide +kernel
theorem dX9_copies_12 : decode cX9_copies 12 = .ok (.iload 4, 2) := by decide +kernel
theorem dX9_copies_14 : decode cX9_copies 14 = .ok (.iadd, 1) := by decide +kernel
theorem dX9_copies_15 : decode cX9_copies 15 = .ok (.aload_n 0, 1) := by decide +kernel
theorem dX9_copies_16 : decode cX9_copies 16 = .ok (.iload_n 1, 1) := by decide +kernel
theorem dX9_copies_17 : decode cX9_copies 17 = .ok (.iload 4, 2) := by decide +kernel
theorem dX9_copies_19 : decode cX9_copies 19 = .ok (.iadd, 1) := by decide +kernel
theorem dX9_copies_20 : decode cX9_copies 20 = .ok (.iaload, 1) := by decide +kernel
theorem dX9_copies_21 : decode cX9_copies 21 = .ok (.iastore, 1) := by decide +kernel
theorem dX9_copies_22 : decode cX9_copies 22 = .ok (.iinc 4 1, 3) := by decide +kernel
theorem dX9_copies_25 : decode cX9_copies 25 = .ok (.goto (-22), 3) := by decide +kernel
theorem dX9_copies_28 : decode cX9_copies 28 = .ok (.return_, 1) := by decide +kernel
theorem dX9_isDrinker_0 : decode cX9_isDrinker 0 = .ok (.iload_n 1, 1) := by decide +kernel
theorem dX9_isDrinker_1 : decode cX9_isDrinker 1 = .ok (.i2l, 1) := by decide +kernel
theorem dX9_isDrinker_2 : decode cX9_isDrinker 2 = .ok (.lconst 0, 1) := by decide +kernel
theorem dX9_isDrinker_3 : decode cX9_isDrinker 3 = .ok (.aload_n 0, 1) := by decide +kernel
theorem dX9_isDrinker_4 : decode cX9_isDrinker 4 = .ok (.getfield 22, 3) := by decide +kernel
theorem dX9_isDrinker_7 : decode cX9_isDrinker 7 = .ok (.iconst 3, 1) := by decide +kernel
theorem dX9_isDrinker_8 : decode cX9_isDrinker 8 = .ok (.iaload, 1) := by decide +kernel
theorem dX9_isDrinker_9 : decode cX9_isDrinker 9 = .ok (.iconst 1, 1) := by decide +kernel
theorem dX9_isDrinker_10 : decode cX9_isDrinker 10 = .ok (.isub, 1) := by decide +kernel
theorem dX9_isDrinker_11 : decode cX9_isDrinker 11 = .ok (.i2l, 1) := by decide +kernel
theorem dX9_isDrinker_12 : decode cX9_isDrinker 12 = .ok (.invokestatic 60, 3) := by decide +kernel
theorem dX9_isDrinker_15 : decode cX9_isDrinker 15 = .ok (.ireturn, 1) := by decide +kernel
theorem dX9_areDrinkers_0 : decode cX9_areDrinkers 0 = .ok (.iload_n 1, 1) := by decide +kernel
theorem dX9_areDrinkers_1 : decode cX9_areDrinkers 1 = .ok (.i2l, 1) := by decide +kernel
theorem dX9_areDrinkers_2 : decode cX9_areDrinkers 2 = .ok (.lconst 0, 1) := by decide +kernel
theorem dX9_areDrinkers_3 : decode cX9_areDrinkers 3 = .ok (.iconst 1, 1) := by decide +kernel
theorem dX9_areDrinkers_4 : decode cX9_areDrinkers 4 = .ok (.aload_n 0, 1) := by decide +kernel
theorem dX9_areDrinkers_5 : decode cX9_areDrinkers 5 = .ok (.getfield 22, 3) := by decide +kernel
theorem dX9_areDrinkers_8 : decode cX9_areDrinkers 8 = .ok (.iconst 3, 1) := by decide +kernel
theorem dX9_areDrinkers_9 : decode cX9_areDrinkers 9 = .ok (.iaload, 1) := by decide +kernel
theorem dX9_areDrinkers_10 : decode cX9_areDrinkers 10 = .ok (.ishl, 1) := by decide +kernel
theorem dX9_areDrinkers_11 : decode cX9_areDrinkers 11 = .ok (.iconst 1, 1) := by decide +kernel
theorem dX9_areDrinkers_12 : decode cX9_areDrinkers 12 = .ok (.isub, 1) := by decide +kernel
theorem dX9_areDrinkers_13 : decode cX9_areDrinkers 13 = .ok (.i2l, 1) := by decide +kernel
theorem dX9_areDrinkers_14 : decode cX9_areDrinkers 14 = .ok (.invokestatic 60, 3) := by decide +kernel
theorem dX9_areDrinkers_17 : decode cX9_areDrinkers 17 = .ok (.ireturn, 1) := by decide +kernel
theorem dX9_isCask_0 : decode cX9_isCask 0 = .ok (.iload_n 0, 1) := by decide +kernel
theorem dX9_isCask_1 : decode cX9_isCask 1 = .ok (.i2l, 1) := by decide +kernel
theorem dX9_isCask_2 : decode cX9_isCask 2 = .ok (.lconst 0, 1) := by decide +kernel
theorem dX9_isCask_3 : decode cX9_isCask 3 = .ok (.ldc2_w 154, 3) := by decide +kernel
theorem dX9_isCask_6 : decode cX9_isCask 6 = .ok (.invokestatic 60, 3) := by decide +kernel
theorem dX9_isCask_9 : decode cX9_isCask 9 = .ok (.ireturn, 1) := by decide +kernel
theorem dX9_isTwo_0 : decode cX9_isTwo 0 = .ok (.iload_n 0, 1) := by decide +kernel
theorem dX9_isTwo_1 : decode cX9_isTwo 1 = .ok (.i2l, 1) := by decide +kernel
theorem dX9_isTwo_2 : decode cX9_isTwo 2 = .ok (.lconst 0, 1) := by decide +kernel
theorem dX9_isTwo_3 : decode cX9_isTwo 3 = .ok (.lconst 1, 1) := by decide +kernel
theorem dX9_isTwo_4 : decode cX9_isTwo 4 = .ok (.invokestatic 60, 3) := by decide +kernel
theorem dX9_isTwo_7 : decode cX9_isTwo 7 = .ok (.ireturn, 1) := by decide +kernel
theorem dX9_has_0 : decode cX9_has 0 = .ok (.iload_n 0, 1) := by decide +kernel
theorem dX9_has_1 : decode cX9_has 1 = .ok (.iload_n 1, 1) := by decide +kernel
theorem dX9_has_2 : decode cX9_has 2 = .ok (.ishr, 1) := by decide +kernel
theorem dX9_has_3 : decode cX9_has 3 = .ok (.iconst 1, 1) := by decide +kernel
theorem dX9_has_4 : decode cX9_has 4 = .ok (.iand, 1) := by decide +kernel
theorem dX9_has_5 : decode cX9_has 5 = .ok (.iconst 1, 1) := by decide +kernel
theorem dX9_has_6 : decode cX9_has 6 = .ok (.if_icmp .ne 7, 3) := by decide +kernel
theorem dX9_has_9 : decode cX9_has 9 = .ok (.iconst 1, 1) := by decide +kernel
theorem dX9_has_10 : decode cX9_has 10 = .ok (.goto 4, 3) := by decide +kernel
theorem dX9_has_13 : decode cX9_has 13 = .ok (.iconst 0, 1) := by decide +kernel
theorem dX9_has_14 : decode cX9_has 14 = .ok (.ireturn, 1) := by decide +kernel
theorem dX9_bits_0 : decode cX9_bits 0 = .ok (.iconst 0, 1) := by decide +kernel
theorem dX9_bits_1 : decode cX9_bits 1 = .ok (.istore_n 1, 1) := by decide +kernel
theorem dX9_bits_2 : decode cX9_bits 2 = .ok (.iload_n 0, 1) := by decide +kernel
theorem dX9_bits_3 : decode cX9_bits 3 = .ok (.istore_n 2, 1) := by decide +kernel
theorem dX9_bits_4 : decode cX9_bits 4 = .ok (.iload_n 2, 1) := by decide +kernel
theorem dX9_bits_5 : decode cX9_bits 5 = .ok (.ifCond .eq 15, 3) := by decide +kernel
theorem dX9_bits_8 : decode cX9_bits 8 = .ok (.iinc 1 1, 3) := by decide +kernel
theorem dX9_bits_11 : decode cX9_bits 11 = .ok (.iload_n 2, 1) := by decide +kernel
theorem dX9_bits_12 : decode cX9_bits 12 = .ok (.iload_n 2, 1) := by decide +kernel
theorem dX9_bits_13 : decode cX9_bits 13 = .ok (.iconst 1, 1) := by decide +kernel
theorem dX9_bits_14 : decode cX9_bits 14 = .ok (.isub, 1) := by decide +kernel
theorem dX9_bits_15 : decode cX9_bits 15 = .ok (.iand, 1) := by decide +kernel
theorem dX9_bits_16 : decode cX9_bits 16 = .ok (.istore_n 2, 1) := by decide +kernel
theorem dX9_bits_17 : decode cX9_bits 17 = .ok (.goto (-13), 3) := by decide +kernel
theorem dX9_bits_20 : decode cX9_bits 20 = .ok (.iload_n 1, 1) := by decide +kernel
theorem dX9_bits_21 : decode cX9_bits 21 = .ok (.ireturn, 1) := by decide +kernel
theorem dX9_strong_0 : decode cX9_strong 0 = .ok (.iload_n 2, 1) := by decide +kernel
theorem dX9_strong_1 : decode cX9_strong 1 = .ok (.aload_n 0, 1) := by decide +kernel
theorem dX9_strong_2 : decode cX9_strong 2 = .ok (.iconst 1, 1) := by decide +kernel
theorem dX9_strong_3 : decode cX9_strong 3 = .ok (.iaload, 1) := by decide +kernel
theorem dX9_strong_4 : decode cX9_strong 4 = .ok (.if_icmp .le 7, 3) := by decide +kernel
theorem dX9_strong_7 : decode cX9_strong 7 = .ok (.iconst 0, 1) := by decide +kernel
theorem dX9_strong_8 : decode cX9_strong 8 = .ok (.goto 19, 3) := by decide +kernel
theorem dX9_strong_11 : decode cX9_strong 11 = .ok (.iload_n 2, 1) := by decide +kernel
theorem dX9_strong_12 : decode cX9_strong 12 = .ok (.aload_n 0, 1) := by decide +kernel
theorem dX9_strong_13 : decode cX9_strong 13 = .ok (.iconst 0, 1) := by decide +kernel
theorem dX9_strong_14 : decode cX9_strong 14 = .ok (.iaload, 1) := by decide +kernel
theorem dX9_strong_15 : decode cX9_strong 15 = .ok (.if_icmp .ge 11, 3) := by decide +kernel
theorem dX9_strong_18 : decode cX9_strong 18 = .ok (.iload_n 1, 1) := by decide +kernel
theorem dX9_strong_19 : decode cX9_strong 19 = .ok (.iload_n 1, 1) := by decide +kernel
theorem dX9_strong_20 : decode cX9_strong 20 = .ok (.iconst 3, 1) := by decide +kernel
theorem dX9_strong_21 : decode cX9_strong 21 = .ok (.idiv, 1) := by decide +kernel
theorem dX9_strong_22 : decode cX9_strong 22 = .ok (.isub, 1) := by decide +kernel
theorem dX9_strong_23 : decode cX9_strong 23 = .ok (.goto 4, 3) := by decide +kernel
theorem dX9_strong_26 : decode cX9_strong 26 = .ok (.iload_n 1, 1) := by decide +kernel
theorem dX9_strong_27 : decode cX9_strong 27 = .ok (.ireturn, 1) := by decide +kernel
theorem dX9_strongOf_0 : decode cX9_strongOf 0 = .ok (.aload_n 0, 1) := by decide +kernel
theorem dX9_strongOf_1 : decode cX9_strongOf 1 = .ok (.aload_n 0, 1) := by decide +kernel
theorem dX9_strongOf_2 : decode cX9_strongOf 2 = .ok (.bipush 52, 2) := by decide +kernel
theorem dX9_strongOf_4 : decode cX9_strongOf 4 = .ok (.iload_n 1, 1) := by decide +kernel
theorem dX9_strongOf_5 : decode cX9_strongOf 5 = .ok (.iadd, 1) := by decide +kernel
theorem dX9_strongOf_6 : decode cX9_strongOf 6 = .ok (.iaload, 1) := by decide +kernel
theorem dX9_strongOf_7 : decode cX9_strongOf 7 = .ok (.aload_n 0, 1) := by decide +kernel
theorem dX9_strongOf_8 : decode cX9_strongOf 8 = .ok (.bipush 56, 2) := by decide +kernel
theorem dX9_strongOf_10 : decode cX9_strongOf 10 = .ok (.iload_n 1, 1) := by decide +kernel
theorem dX9_strongOf_11 : decode cX9_strongOf 11 = .ok (.iadd, 1) := by decide +kernel
theorem dX9_strongOf_12 : decode cX9_strongOf 12 = .ok (.iaload, 1) := by decide +kernel
theorem dX9_strongOf_13 : decode cX9_strongOf 13 = .ok (.invokestatic 156, 3) := by decide +kernel
theorem dX9_strongOf_16 : decode cX9_strongOf 16 = .ok (.ireturn, 1) := by decide +kernel
theorem dX9_believes_0 : decode cX9_believes 0 = .ok (.aload_n 0, 1) := by decide +kernel
theorem dX9_believes_1 : decode cX9_believes 1 = .ok (.bipush 6, 2) := by decide +kernel
theorem dX9_believes_3 : decode cX9_believes 3 = .ok (.iload_n 1, 1) := by decide +kernel
theorem dX9_believes_4 : decode cX9_believes 4 = .ok (.iadd, 1) := by decide +kernel
theorem dX9_believes_5 : decode cX9_believes 5 = .ok (.iaload, 1) := by decide +kernel
theorem dX9_believes_6 : decode cX9_believes 6 = .ok (.istore 4, 2) := by decide +kernel
theorem dX9_believes_8 : decode cX9_believes 8 = .ok (.iload 4, 2) := by decide +kernel
theorem dX9_believes_10 : decode cX9_believes 10 = .ok (.iconst 3, 1) := by decide +kernel
theorem dX9_believes_11 : decode cX9_believes 11 = .ok (.if_icmp .ne 9, 3) := by decide +kernel
theorem dX9_believes_14 : decode cX9_believes 14 = .ok (.iload_n 3, 1) := by decide +kernel
theorem dX9_believes_15 : decode cX9_believes 15 = .ok (.iconst 2, 1) := by decide +kernel
theorem dX9_believes_16 : decode cX9_believes 16 = .ok (.idiv, 1) := by decide +kernel
theorem dX9_believes_17 : decode cX9_believes 17 = .ok (.goto 4, 3) := by decide +kernel
theorem dX9_believes_20 : decode cX9_believes 20 = .ok (.iload_n 3, 1) := by decide +kernel
theorem dX9_believes_21 : decode cX9_believes 21 = .ok (.istore 5, 2) := by decide +kernel
theorem dX9_believes_23 : decode cX9_believes 23 = .ok (.iload 5, 2) := by decide +kernel
theorem dX9_believes_25 : decode cX9_believes 25 = .ok (.aload_n 0, 1) := by decide +kernel
theorem dX9_believes_26 : decode cX9_believes 26 = .ok (.bipush 18, 2) := by decide +kernel
theorem dX9_believes_28 : decode cX9_believes 28 = .ok (.iload_n 1, 1) := by decide +kernel
theorem dX9_believes_29 : decode cX9_believes 29 = .ok (.iadd, 1) := by decide +kernel
theorem dX9_believes_30 : decode cX9_believes 30 = .ok (.iaload, 1) := by decide +kernel
theorem dX9_believes_31 : decode cX9_believes 31 = .ok (.iload_n 2, 1) := by decide +kernel
theorem dX9_believes_32 : decode cX9_believes 32 = .ok (.if_icmp .ne 12, 3) := by decide +kernel
theorem dX9_believes_35 : decode cX9_believes 35 = .ok (.iload_n 1, 1) := by decide +kernel
theorem dX9_believes_36 : decode cX9_believes 36 = .ok (.iload_n 2, 1) := by decide +kernel
theorem dX9_believes_37 : decode cX9_believes 37 = .ok (.if_icmp .eq 7, 3) := by decide +kernel
theorem dX9_believes_40 : decode cX9_believes 40 = .ok (.iconst 3, 1) := by decide +kernel
theorem dX9_believes_41 : decode cX9_believes 41 = .ok (.goto 4, 3) := by decide +kernel
theorem dX9_believes_44 : decode cX9_believes 44 = .ok (.iconst 0, 1) := by decide +kernel
theorem dX9_believes_45 : decode cX9_believes 45 = .ok (.iadd, 1) := by decide +kernel
theorem dX9_believes_46 : decode cX9_believes 46 = .ok (.istore 5, 2) := by decide +kernel
theorem dX9_believes_48 : decode cX9_believes 48 = .ok (.iload 5, 2) := by decide +kernel
theorem dX9_believes_50 : decode cX9_believes 50 = .ok (.iload_n 1, 1) := by decide +kernel
theorem dX9_believes_51 : decode cX9_believes 51 = .ok (.iload_n 2, 1) := by decide +kernel
theorem dX9_believes_52 : decode cX9_believes 52 = .ok (.if_icmp .ne 7, 3) := by decide +kernel
theorem dX9_believes_55 : decode cX9_believes 55 = .ok (.iconst 5, 1) := by decide +kernel
theorem dX9_believes_56 : decode cX9_believes 56 = .ok (.goto 4, 3) := by decide +kernel
theorem dX9_believes_59 : decode cX9_believes 59 = .ok (.iconst 0, 1) := by decide +kernel
theorem dX9_believes_60 : decode cX9_believes 60 = .ok (.isub, 1) := by decide +kernel
theorem dX9_believes_61 : decode cX9_believes 61 = .ok (.istore 5, 2) := by decide +kernel
theorem dX9_believes_63 : decode cX9_believes 63 = .ok (.iload 4, 2) := by decide +kernel
theorem dX9_believes_65 : decode cX9_believes 65 = .ok (.iconst 4, 1) := by decide +kernel
theorem dX9_believes_66 : decode cX9_believes 66 = .ok (.if_icmp .ge 18, 3) := by decide +kernel
theorem dX9_believes_69 : decode cX9_believes 69 = .ok (.iload 5, 2) := by decide +kernel
theorem dX9_believes_71 : decode cX9_believes 71 = .ok (.aload_n 0, 1) := by decide +kernel
theorem dX9_believes_72 : decode cX9_believes 72 = .ok (.bipush 12, 2) := by decide +kernel
theorem dX9_believes_74 : decode cX9_believes 74 = .ok (.iload_n 1, 1) := by decide +kernel
theorem dX9_believes_75 : decode cX9_believes 75 = .ok (.iadd, 1) := by decide +kernel
theorem dX9_believes_76 : decode cX9_believes 76 = .ok (.iaload, 1) := by decide +kernel
theorem dX9_believes_77 : decode cX9_believes 77 = .ok (.if_icmp .lt 7, 3) := by decide +kernel
theorem dX9_believes_80 : decode cX9_believes 80 = .ok (.iconst 1, 1) := by decide +kernel
theorem dX9_believes_81 : decode cX9_believes 81 = .ok (.goto 4, 3) := by decide +kernel
theorem dX9_believes_84 : decode cX9_believes 84 = .ok (.iconst 0, 1) := by decide +kernel
theorem dX9_believes_85 : decode cX9_believes 85 = .ok (.ireturn, 1) := by decide +kernel
theorem dX9_passes_0 : decode cX9_passes 0 = .ok (.iload_n 0, 1) := by decide +kernel
theorem dX9_passes_1 : decode cX9_passes 1 = .ok (.tableswitch 51 2 5 #[31, 51, 43, 47], 31) := by decide +kernel
theorem dX9_passes_32 : decode cX9_passes 32 = .ok (.iload_n 1, 1) := by decide +kernel
theorem dX9_passes_33 : decode cX9_passes 33 = .ok (.ifCond .eq 9, 3) := by decide +kernel
theorem dX9_passes_36 : decode cX9_passes 36 = .ok (.iload_n 2, 1) := by decide +kernel
theorem dX9_passes_37 : decode cX9_passes 37 = .ok (.iconst 1, 1) := by decide +kernel
theorem dX9_passes_38 : decode cX9_passes 38 = .ok (.iadd, 1) := by decide +kernel
theorem dX9_passes_39 : decode cX9_passes 39 = .ok (.goto 4, 3) := by decide +kernel
theorem dX9_passes_42 : decode cX9_passes 42 = .ok (.iconst 0, 1) := by decide +kernel
theorem dX9_passes_43 : decode cX9_passes 43 = .ok (.ireturn, 1) := by decide +kernel
theorem dX9_passes_44 : decode cX9_passes 44 = .ok (.iload_n 2, 1) := by decide +kernel
theorem dX9_passes_45 : decode cX9_passes 45 = .ok (.iconst 2, 1) := by decide +kernel
theorem dX9_passes_46 : decode cX9_passes 46 = .ok (.isub, 1) := by decide +kernel
theorem dX9_passes_47 : decode cX9_passes 47 = .ok (.ireturn, 1) := by decide +kernel
theorem dX9_passes_48 : decode cX9_passes 48 = .ok (.iload_n 2, 1) := by decide +kernel
theorem dX9_passes_49 : decode cX9_passes 49 = .ok (.iconst 2, 1) := by decide +kernel
theorem dX9_passes_50 : decode cX9_passes 50 = .ok (.idiv, 1) := by decide +kernel
theorem dX9_passes_51 : decode cX9_passes 51 = .ok (.ireturn, 1) := by decide +kernel
theorem dX9_passes_52 : decode cX9_passes 52 = .ok (.iload_n 1, 1) := by decide +kernel
theorem dX9_passes_53 : decode cX9_passes 53 = .ok (.ifCond .eq 9, 3) := by decide +kernel
theorem dX9_passes_56 : decode cX9_passes 56 = .ok (.iload_n 2, 1) := by decide +kernel
theorem dX9_passes_57 : decode cX9_passes 57 = .ok (.iconst 1, 1) := by decide +kernel
theorem dX9_passes_58 : decode cX9_passes 58 = .ok (.isub, 1) := by decide +kernel
theorem dX9_passes_59 : decode cX9_passes 59 = .ok (.goto 4, 3) := by decide +kernel
theorem dX9_passes_62 : decode cX9_passes 62 = .ok (.iconst 0, 1) := by decide +kernel
theorem dX9_passes_63 : decode cX9_passes 63 = .ok (.ireturn, 1) := by decide +kernel
theorem dX9_brings_0 : decode cX9_brings 0 = .ok (.aload_n 0, 1) := by decide +kernel
theorem dX9_brings_1 : decode cX9_brings 1 = .ok (.getfield 44, 3) := by decide +kernel
theorem dX9_brings_4 : decode cX9_brings 4 = .ok (.iload_n 1, 1) := by decide +kernel
theorem dX9_brings_5 : decode cX9_brings 5 = .ok (.iload_n 2, 1) := by decide +kernel
theorem dX9_brings_6 : decode cX9_brings 6 = .ok (.aload_n 0, 1) := by decide +kernel
theorem dX9_brings_7 : decode cX9_brings 7 = .ok (.getfield 44, 3) := by decide +kernel
theorem dX9_brings_10 : decode cX9_brings 10 = .ok (.iload_n 1, 1) := by decide +kernel
theorem dX9_brings_11 : decode cX9_brings 11 = .ok (.iaload, 1) := by decide +kernel
theorem dX9_brings_12 : decode cX9_brings 12 = .ok (.if_icmp .le 7, 3) := by decide +kernel
theorem dX9_brings_15 : decode cX9_brings 15 = .ok (.iload_n 2, 1) := by decide +kernel
theorem dX9_brings_16 : decode cX9_brings 16 = .ok (.goto 9, 3) := by decide +kernel
theorem dX9_brings_19 : decode cX9_brings 19 = .ok (.aload_n 0, 1) := by decide +kernel
theorem dX9_brings_20 : decode cX9_brings 20 = .ok (.getfield 44, 3) := by decide +kernel
theorem dX9_brings_23 : decode cX9_brings 23 = .ok (.iload_n 1, 1) := by decide +kernel
theorem dX9_brings_24 : decode cX9_brings 24 = .ok (.iaload, 1) := by decide +kernel
theorem dX9_brings_25 : decode cX9_brings 25 = .ok (.iastore, 1) := by decide +kernel
theorem dX9_brings_26 : decode cX9_brings 26 = .ok (.return_, 1) := by decide +kernel
theorem dX9_passesOn_0 : decode cX9_passesOn 0 = .ok (.iconst 0, 1) := by decide +kernel
theorem dX9_passesOn_1 : decode cX9_passesOn 1 = .ok (.istore 5, 2) := by decide +kernel
theorem dX9_passesOn_3 : decode cX9_passesOn 3 = .ok (.iload 5, 2) := by decide +kernel
theorem dX9_passesOn_5 : decode cX9_passesOn 5 = .ok (.aload_n 1, 1) := by decide +kernel
theorem dX9_passesOn_6 : decode cX9_passesOn 6 = .ok (.iconst 3, 1) := by decide +kernel
theorem dX9_passesOn_7 : decode cX9_passesOn 7 = .ok (.iaload, 1) := by decide +kernel
theorem dX9_passesOn_8 : decode cX9_passesOn 8 = .ok (.if_icmp .ge 32, 3) := by decide +kernel
theorem dX9_passesOn_11 : decode cX9_passesOn 11 = .ok (.aload_n 1, 1) := by decide +kernel
theorem dX9_passesOn_12 : decode cX9_passesOn 12 = .ok (.bipush 6, 2) := by decide +kernel
theorem dX9_passesOn_14 : decode cX9_passesOn 14 = .ok (.iload_n 2, 1) := by decide +kernel
theorem dX9_passesOn_15 : decode cX9_passesOn 15 = .ok (.iadd, 1) := by decide +kernel
theorem dX9_passesOn_16 : decode cX9_passesOn 16 = .ok (.iaload, 1) := by decide +kernel
theorem dX9_passesOn_17 : decode cX9_passesOn 17 = .ok (.iconst 5, 1) := by decide +kernel
theorem dX9_passesOn_18 : decode cX9_passesOn 18 = .ok (.if_icmp .ne 22, 3) := by decide +kernel
theorem dX9_passesOn_21 : decode cX9_passesOn 21 = .ok (.iload 5, 2) := by decide +kernel
theorem dX9_passesOn_23 : decode cX9_passesOn 23 = .ok (.iload_n 2, 1) := by decide +kernel
theorem dX9_passesOn_24 : decode cX9_passesOn 24 = .ok (.if_icmp .eq 10, 3) := by decide +kernel
theorem dX9_passesOn_27 : decode cX9_passesOn 27 = .ok (.aload_n 0, 1) := by decide +kernel
theorem dX9_passesOn_28 : decode cX9_passesOn 28 = .ok (.iload 5, 2) := by decide +kernel
theorem dX9_passesOn_30 : decode cX9_passesOn 30 = .ok (.iload_n 3, 1) := by decide +kernel
theorem dX9_passesOn_31 : decode cX9_passesOn 31 = .ok (.invokevirtual 160, 3) := by decide +kernel
theorem dX9_passesOn_34 : decode cX9_passesOn 34 = .ok (.iinc 5 1, 3) := by decide +kernel
theorem dX9_passesOn_37 : decode cX9_passesOn 37 = .ok (.goto (-34), 3) := by decide +kernel
theorem dX9_passesOn_40 : decode cX9_passesOn 40 = .ok (.iconst 0, 1) := by decide +kernel
theorem dX9_passesOn_41 : decode cX9_passesOn 41 = .ok (.istore 5, 2) := by decide +kernel
theorem dX9_passesOn_43 : decode cX9_passesOn 43 = .ok (.iload 5, 2) := by decide +kernel
theorem dX9_passesOn_45 : decode cX9_passesOn 45 = .ok (.aload_n 1, 1) := by decide +kernel
theorem dX9_passesOn_46 : decode cX9_passesOn 46 = .ok (.iconst 4, 1) := by decide +kernel
theorem dX9_passesOn_47 : decode cX9_passesOn 47 = .ok (.iaload, 1) := by decide +kernel
theorem dX9_passesOn_48 : decode cX9_passesOn 48 = .ok (.if_icmp .ge 52, 3) := by decide +kernel
theorem dX9_passesOn_51 : decode cX9_passesOn 51 = .ok (.aload_n 1, 1) := by decide +kernel
theorem dX9_passesOn_52 : decode cX9_passesOn 52 = .ok (.bipush 6, 2) := by decide +kernel
theorem dX9_passesOn_54 : decode cX9_passesOn 54 = .ok (.iload_n 2, 1) := by decide +kernel
theorem dX9_passesOn_55 : decode cX9_passesOn 55 = .ok (.iadd, 1) := by decide +kernel
theorem dX9_passesOn_56 : decode cX9_passesOn 56 = .ok (.iaload, 1) := by decide +kernel
theorem dX9_passesOn_57 : decode cX9_passesOn 57 = .ok (.iconst 5, 1) := by decide +kernel
theorem dX9_passesOn_58 : decode cX9_passesOn 58 = .ok (.if_icmp .eq 42, 3) := by decide +kernel
theorem dX9_passesOn_61 : decode cX9_passesOn 61 = .ok (.aload_n 1, 1) := by decide +kernel
theorem dX9_passesOn_62 : decode cX9_passesOn 62 = .ok (.bipush 24, 2) := by decide +kernel
theorem dX9_passesOn_64 : decode cX9_passesOn 64 = .ok (.iload 5, 2) := by decide +kernel
theorem dX9_passesOn_66 : decode cX9_passesOn 66 = .ok (.iadd, 1) := by decide +kernel
theorem dX9_passesOn_67 : decode cX9_passesOn 67 = .ok (.iaload, 1) := by decide +kernel
theorem dX9_passesOn_68 : decode cX9_passesOn 68 = .ok (.iload_n 2, 1) := by decide +kernel
theorem dX9_passesOn_69 : decode cX9_passesOn 69 = .ok (.if_icmp .ne 25, 3) := by decide +kernel
theorem dX9_passesOn_72 : decode cX9_passesOn 72 = .ok (.iload 4, 2) := by decide +kernel
theorem dX9_passesOn_74 : decode cX9_passesOn 74 = .ok (.iload 5, 2) := by decide +kernel
theorem dX9_passesOn_76 : decode cX9_passesOn 76 = .ok (.invokestatic 164, 3) := by decide +kernel
theorem dX9_passesOn_79 : decode cX9_passesOn 79 = .ok (.ifCond .ne 15, 3) := by decide +kernel
theorem dX9_passesOn_82 : decode cX9_passesOn 82 = .ok (.aload_n 0, 1) := by decide +kernel
theorem dX9_passesOn_83 : decode cX9_passesOn 83 = .ok (.aload_n 1, 1) := by decide +kernel
theorem dX9_passesOn_84 : decode cX9_passesOn 84 = .ok (.bipush 34, 2) := by decide +kernel
theorem dX9_passesOn_86 : decode cX9_passesOn 86 = .ok (.iload 5, 2) := by decide +kernel
theorem dX9_passesOn_88 : decode cX9_passesOn 88 = .ok (.iadd, 1) := by decide +kernel
theorem dX9_passesOn_89 : decode cX9_passesOn 89 = .ok (.iaload, 1) := by decide +kernel
theorem dX9_passesOn_90 : decode cX9_passesOn 90 = .ok (.iload_n 3, 1) := by decide +kernel
theorem dX9_passesOn_91 : decode cX9_passesOn 91 = .ok (.invokevirtual 160, 3) := by decide +kernel
theorem dX9_passesOn_94 : decode cX9_passesOn 94 = .ok (.iinc 5 1, 3) := by decide +kernel
theorem dX9_passesOn_97 : decode cX9_passesOn 97 = .ok (.goto (-54), 3) := by decide +kernel
theorem dX9_passesOn_100 : decode cX9_passesOn 100 = .ok (.return_, 1) := by decide +kernel
theorem dX9_tells_0 : decode cX9_tells 0 = .ok (.aload_n 0, 1) := by decide +kernel
theorem dX9_tells_1 : decode cX9_tells 1 = .ok (.iconst 0, 1) := by decide +kernel
theorem dX9_tells_2 : decode cX9_tells 2 = .ok (.putfield 168, 3) := by decide +kernel
theorem dX9_tells_5 : decode cX9_tells 5 = .ok (.iconst 0, 1) := by decide +kernel
theorem dX9_tells_6 : decode cX9_tells 6 = .ok (.istore 6, 2) := by decide +kernel
theorem dX9_tells_8 : decode cX9_tells 8 = .ok (.iload 6, 2) := by decide +kernel
theorem dX9_tells_10 : decode cX9_tells 10 = .ok (.bipush 6, 2) := by decide +kernel
theorem dX9_tells_12 : decode cX9_tells 12 = .ok (.if_icmp .ge 41, 3) := by decide +kernel
theorem dX9_tells_15 : decode cX9_tells 15 = .ok (.aload_n 0, 1) := by decide +kernel
theorem dX9_tells_16 : decode cX9_tells 16 = .ok (.getfield 47, 3) := by decide +kernel
theorem dX9_tells_19 : decode cX9_tells 19 = .ok (.iload 6, 2) := by decide +kernel
theorem dX9_tells_21 : decode cX9_tells 21 = .ok (.iconst (-1), 1) := by decide +kernel
theorem dX9_tells_22 : decode cX9_tells 22 = .ok (.iastore, 1) := by decide +kernel
theorem dX9_tells_23 : decode cX9_tells 23 = .ok (.aload_n 0, 1) := by decide +kernel
theorem dX9_tells_24 : decode cX9_tells 24 = .ok (.getfield 41, 3) := by decide +kernel
theorem dX9_tells_27 : decode cX9_tells 27 = .ok (.iload 6, 2) := by decide +kernel
theorem dX9_tells_29 : decode cX9_tells 29 = .ok (.iload 4, 2) := by decide +kernel
theorem dX9_tells_31 : decode cX9_tells 31 = .ok (.iload 6, 2) := by decide +kernel
theorem dX9_tells_33 : decode cX9_tells 33 = .ok (.invokestatic 164, 3) := by decide +kernel
theorem dX9_tells_36 : decode cX9_tells 36 = .ok (.ifCond .eq 7, 3) := by decide +kernel
theorem dX9_tells_39 : decode cX9_tells 39 = .ok (.iload_n 3, 1) := by decide +kernel
theorem dX9_tells_40 : decode cX9_tells 40 = .ok (.goto 6, 3) := by decide +kernel
theorem dX9_tells_43 : decode cX9_tells 43 = .ok (.sipush (-1000), 3) := by decide +kernel
theorem dX9_tells_46 : decode cX9_tells 46 = .ok (.iastore, 1) := by decide +kernel
theorem dX9_tells_47 : decode cX9_tells 47 = .ok (.iinc 6 1, 3) := by decide +kernel
theorem dX9_tells_50 : decode cX9_tells 50 = .ok (.goto (-42), 3) := by decide +kernel
theorem dX9_tells_53 : decode cX9_tells 53 = .ok (.iconst 1, 1) := by decide +kernel
theorem dX9_tells_54 : decode cX9_tells 54 = .ok (.istore 6, 2) := by decide +kernel
theorem dX9_tells_56 : decode cX9_tells 56 = .ok (.iconst 0, 1) := by decide +kernel
theorem dX9_tells_57 : decode cX9_tells 57 = .ok (.istore 7, 2) := by decide +kernel
theorem dX9_tells_59 : decode cX9_tells 59 = .ok (.iload 6, 2) := by decide +kernel
theorem dX9_tells_61 : decode cX9_tells 61 = .ok (.ifCond .eq 241, 3) := by decide +kernel
theorem dX9_tells_64 : decode cX9_tells 64 = .ok (.iconst 0, 1) := by decide +kernel
theorem dX9_tells_65 : decode cX9_tells 65 = .ok (.istore 8, 2) := by decide +kernel
theorem dX9_tells_67 : decode cX9_tells 67 = .ok (.iload 8, 2) := by decide +kernel
theorem dX9_tells_69 : decode cX9_tells 69 = .ok (.bipush 6, 2) := by decide +kernel
theorem dX9_tells_71 : decode cX9_tells 71 = .ok (.if_icmp .ge 19, 3) := by decide +kernel
theorem dX9_tells_74 : decode cX9_tells 74 = .ok (.aload_n 0, 1) := by decide +kernel
theorem dX9_tells_75 : decode cX9_tells 75 = .ok (.getfield 44, 3) := by decide +kernel
theorem dX9_tells_78 : decode cX9_tells 78 = .ok (.iload 8, 2) := by decide +kernel
theorem dX9_tells_80 : decode cX9_tells 80 = .ok (.sipush (-1000), 3) := by decide +kernel
theorem dX9_tells_83 : decode cX9_tells 83 = .ok (.iastore, 1) := by decide +kernel
theorem dX9_tells_84 : decode cX9_tells 84 = .ok (.iinc 8 1, 3) := by decide +kernel
theorem dX9_tells_87 : decode cX9_tells 87 = .ok (.goto (-20), 3) := by decide +kernel
theorem dX9_tells_90 : decode cX9_tells 90 = .ok (.iconst 0, 1) := by decide +kernel
theorem dX9_tells_91 : decode cX9_tells 91 = .ok (.istore 8, 2) := by decide +kernel
theorem dX9_tells_93 : decode cX9_tells 93 = .ok (.iload 8, 2) := by decide +kernel
theorem dX9_tells_95 : decode cX9_tells 95 = .ok (.aload_n 1, 1) := by decide +kernel
theorem dX9_tells_96 : decode cX9_tells 96 = .ok (.iconst 3, 1) := by decide +kernel
theorem dX9_tells_97 : decode cX9_tells 97 = .ok (.iaload, 1) := by decide +kernel
theorem dX9_tells_98 : decode cX9_tells 98 = .ok (.if_icmp .ge 140, 3) := by decide +kernel
theorem dX9_tells_101 : decode cX9_tells 101 = .ok (.aload_n 0, 1) := by decide +kernel
theorem dX9_tells_102 : decode cX9_tells 102 = .ok (.getfield 41, 3) := by decide +kernel
theorem dX9_tells_105 : decode cX9_tells 105 = .ok (.iload 8, 2) := by decide +kernel
theorem dX9_tells_107 : decode cX9_tells 107 = .ok (.iaload, 1) := by decide +kernel
theorem dX9_tells_108 : decode cX9_tells 108 = .ok (.sipush (-1000), 3) := by decide +kernel
theorem dX9_tells_111 : decode cX9_tells 111 = .ok (.if_icmp .eq 121, 3) := by decide +kernel
theorem dX9_tells_114 : decode cX9_tells 114 = .ok (.aload_n 1, 1) := by decide +kernel
theorem dX9_tells_115 : decode cX9_tells 115 = .ok (.iload 8, 2) := by decide +kernel
theorem dX9_tells_117 : decode cX9_tells 117 = .ok (.iload_n 2, 1) := by decide +kernel
theorem dX9_tells_118 : decode cX9_tells 118 = .ok (.aload_n 0, 1) := by decide +kernel
theorem dX9_tells_119 : decode cX9_tells 119 = .ok (.getfield 41, 3) := by decide +kernel
theorem dX9_tells_122 : decode cX9_tells 122 = .ok (.iload 8, 2) := by decide +kernel
theorem dX9_tells_124 : decode cX9_tells 124 = .ok (.iaload, 1) := by decide +kernel
theorem dX9_tells_125 : decode cX9_tells 125 = .ok (.invokestatic 171, 3) := by decide +kernel
theorem dX9_tells_128 : decode cX9_tells 128 = .ok (.istore 9, 2) := by decide +kernel
theorem dX9_tells_130 : decode cX9_tells 130 = .ok (.aload_n 0, 1) := by decide +kernel
theorem dX9_tells_131 : decode cX9_tells 131 = .ok (.dup, 1) := by decide +kernel
theorem dX9_tells_132 : decode cX9_tells 132 = .ok (.getfield 168, 3) := by decide +kernel
theorem dX9_tells_135 : decode cX9_tells 135 = .ok (.iload 9, 2) := by decide +kernel
theorem dX9_tells_137 : decode cX9_tells 137 = .ok (.ifCond .eq 10, 3) := by decide +kernel
theorem dX9_tells_140 : decode cX9_tells 140 = .ok (.iconst 1, 1) := by decide +kernel
theorem dX9_tells_141 : decode cX9_tells 141 = .ok (.iload 8, 2) := by decide +kernel
theorem dX9_tells_143 : decode cX9_tells 143 = .ok (.ishl, 1) := by decide +kernel
theorem dX9_tells_144 : decode cX9_tells 144 = .ok (.goto 4, 3) := by decide +kernel
theorem dX9_tells_147 : decode cX9_tells 147 = .ok (.iconst 0, 1) := by decide +kernel
theorem dX9_tells_148 : decode cX9_tells 148 = .ok (.ior, 1) := by decide +kernel
theorem dX9_tells_149 : decode cX9_tells 149 = .ok (.putfield 168, 3) := by decide +kernel
theorem dX9_tells_152 : decode cX9_tells 152 = .ok (.aload_n 0, 1) := by decide +kernel
theorem dX9_tells_153 : decode cX9_tells 153 = .ok (.getfield 47, 3) := by decide +kernel
theorem dX9_tells_156 : decode cX9_tells 156 = .ok (.iload 8, 2) := by decide +kernel
theorem dX9_tells_158 : decode cX9_tells 158 = .ok (.iaload, 1) := by decide +kernel
theorem dX9_tells_159 : decode cX9_tells 159 = .ok (.ifCond .ge 25, 3) := by decide +kernel
theorem dX9_tells_162 : decode cX9_tells 162 = .ok (.aload_n 1, 1) := by decide +kernel
theorem dX9_tells_163 : decode cX9_tells 163 = .ok (.bipush 6, 2) := by decide +kernel
theorem dX9_tells_165 : decode cX9_tells 165 = .ok (.iload 8, 2) := by decide +kernel
theorem dX9_tells_167 : decode cX9_tells 167 = .ok (.iadd, 1) := by decide +kernel
theorem dX9_tells_168 : decode cX9_tells 168 = .ok (.iaload, 1) := by decide +kernel
theorem dX9_tells_169 : decode cX9_tells 169 = .ok (.iload 9, 2) := by decide +kernel
theorem dX9_tells_171 : decode cX9_tells 171 = .ok (.aload_n 0, 1) := by decide +kernel
theorem dX9_tells_172 : decode cX9_tells 172 = .ok (.getfield 41, 3) := by decide +kernel
theorem dX9_tells_175 : decode cX9_tells 175 = .ok (.iload 8, 2) := by decide +kernel
theorem dX9_tells_177 : decode cX9_tells 177 = .ok (.iaload, 1) := by decide +kernel
theorem dX9_tells_178 : decode cX9_tells 178 = .ok (.invokestatic 175, 3) := by decide +kernel
theorem dX9_tells_181 : decode cX9_tells 181 = .ok (.goto 4, 3) := by decide +kernel
theorem dX9_tells_184 : decode cX9_tells 184 = .ok (.iconst 0, 1) := by decide +kernel
theorem dX9_tells_185 : decode cX9_tells 185 = .ok (.istore 10, 2) := by decide +kernel
theorem dX9_tells_187 : decode cX9_tells 187 = .ok (.aload_n 0, 1) := by decide +kernel
theorem dX9_tells_188 : decode cX9_tells 188 = .ok (.getfield 47, 3) := by decide +kernel
theorem dX9_tells_191 : decode cX9_tells 191 = .ok (.iload 8, 2) := by decide +kernel
theorem dX9_tells_193 : decode cX9_tells 193 = .ok (.aload_n 0, 1) := by decide +kernel
theorem dX9_tells_194 : decode cX9_tells 194 = .ok (.getfield 47, 3) := by decide +kernel
theorem dX9_tells_197 : decode cX9_tells 197 = .ok (.iload 8, 2) := by decide +kernel
theorem dX9_tells_199 : decode cX9_tells 199 = .ok (.iaload, 1) := by decide +kernel
theorem dX9_tells_200 : decode cX9_tells 200 = .ok (.ifCond .ge 8, 3) := by decide +kernel
theorem dX9_tells_203 : decode cX9_tells 203 = .ok (.iload 7, 2) := by decide +kernel
theorem dX9_tells_205 : decode cX9_tells 205 = .ok (.goto 10, 3) := by decide +kernel
theorem dX9_tells_208 : decode cX9_tells 208 = .ok (.aload_n 0, 1) := by decide +kernel
theorem dX9_tells_209 : decode cX9_tells 209 = .ok (.getfield 47, 3) := by decide +kernel
theorem dX9_tells_212 : decode cX9_tells 212 = .ok (.iload 8, 2) := by decide +kernel
theorem dX9_tells_214 : decode cX9_tells 214 = .ok (.iaload, 1) := by decide +kernel
theorem dX9_tells_215 : decode cX9_tells 215 = .ok (.iastore, 1) := by decide +kernel
theorem dX9_tells_216 : decode cX9_tells 216 = .ok (.iload 10, 2) := by decide +kernel
theorem dX9_tells_218 : decode cX9_tells 218 = .ok (.ifCond .le 14, 3) := by decide +kernel
theorem dX9_tells_221 : decode cX9_tells 221 = .ok (.aload_n 0, 1) := by decide +kernel
theorem dX9_tells_222 : decode cX9_tells 222 = .ok (.aload_n 1, 1) := by decide +kernel
theorem dX9_tells_223 : decode cX9_tells 223 = .ok (.iload 8, 2) := by decide +kernel
theorem dX9_tells_225 : decode cX9_tells 225 = .ok (.iload 10, 2) := by decide +kernel
theorem dX9_tells_227 : decode cX9_tells 227 = .ok (.iload 5, 2) := by decide +kernel
theorem dX9_tells_229 : decode cX9_tells 229 = .ok (.invokevirtual 179, 3) := by decide +kernel
theorem dX9_tells_232 : decode cX9_tells 232 = .ok (.iinc 8 1, 3) := by decide +kernel
theorem dX9_tells_235 : decode cX9_tells 235 = .ok (.goto (-142), 3) := by decide +kernel
theorem dX9_tells_238 : decode cX9_tells 238 = .ok (.iconst 0, 1) := by decide +kernel
theorem dX9_tells_239 : decode cX9_tells 239 = .ok (.istore 6, 2) := by decide +kernel
theorem dX9_tells_241 : decode cX9_tells 241 = .ok (.iconst 0, 1) := by decide +kernel
theorem dX9_tells_242 : decode cX9_tells 242 = .ok (.istore 8, 2) := by decide +kernel
theorem dX9_tells_244 : decode cX9_tells 244 = .ok (.iload 8, 2) := by decide +kernel
theorem dX9_tells_246 : decode cX9_tells 246 = .ok (.bipush 6, 2) := by decide +kernel
theorem dX9_tells_248 : decode cX9_tells 248 = .ok (.if_icmp .ge 48, 3) := by decide +kernel
theorem dX9_tells_251 : decode cX9_tells 251 = .ok (.aload_n 0, 1) := by decide +kernel
theorem dX9_tells_252 : decode cX9_tells 252 = .ok (.getfield 41, 3) := by decide +kernel
theorem dX9_tells_255 : decode cX9_tells 255 = .ok (.iload 8, 2) := by decide +kernel
theorem dX9_tells_257 : decode cX9_tells 257 = .ok (.aload_n 0, 1) := by decide +kernel
theorem dX9_tells_258 : decode cX9_tells 258 = .ok (.getfield 44, 3) := by decide +kernel
theorem dX9_tells_261 : decode cX9_tells 261 = .ok (.iload 8, 2) := by decide +kernel
theorem dX9_tells_263 : decode cX9_tells 263 = .ok (.iaload, 1) := by decide +kernel
theorem dX9_tells_264 : decode cX9_tells 264 = .ok (.iastore, 1) := by decide +kernel
theorem dX9_tells_265 : decode cX9_tells 265 = .ok (.iload 6, 2) := by decide +kernel
theorem dX9_tells_267 : decode cX9_tells 267 = .ok (.ifCond .ne 16, 3) := by decide +kernel
theorem dX9_tells_270 : decode cX9_tells 270 = .ok (.aload_n 0, 1) := by decide +kernel
theorem dX9_tells_271 : decode cX9_tells 271 = .ok (.getfield 41, 3) := by decide +kernel
theorem dX9_tells_274 : decode cX9_tells 274 = .ok (.iload 8, 2) := by decide +kernel
theorem dX9_tells_276 : decode cX9_tells 276 = .ok (.iaload, 1) := by decide +kernel
theorem dX9_tells_277 : decode cX9_tells 277 = .ok (.sipush (-1000), 3) := by decide +kernel
theorem dX9_tells_280 : decode cX9_tells 280 = .ok (.if_icmp .eq 7, 3) := by decide +kernel
theorem dX9_tells_283 : decode cX9_tells 283 = .ok (.iconst 1, 1) := by decide +kernel
theorem dX9_tells_284 : decode cX9_tells 284 = .ok (.goto 4, 3) := by decide +kernel
theorem dX9_tells_287 : decode cX9_tells 287 = .ok (.iconst 0, 1) := by decide +kernel
theorem dX9_tells_288 : decode cX9_tells 288 = .ok (.istore 6, 2) := by decide +kernel
theorem dX9_tells_290 : decode cX9_tells 290 = .ok (.iinc 8 1, 3) := by decide +kernel
end
section
theorem dX9_tells_293 : decode cX9_tells 293 = .ok (.goto (-49), 3) := by decide +kernel
theorem dX9_tells_296 : decode cX9_tells 296 = .ok (.iinc 7 1, 3) := by decide +kernel
theorem dX9_tells_299 : decode cX9_tells 299 = .ok (.goto (-240), 3) := by decide +kernel
theorem dX9_tells_302 : decode cX9_tells 302 = .ok (.return_, 1) := by decide +kernel
theorem dX9_tellsCask_0 : decode cX9_tellsCask 0 = .ok (.aload_n 0, 1) := by decide +kernel
theorem dX9_tellsCask_1 : decode cX9_tellsCask 1 = .ok (.aload_n 1, 1) := by decide +kernel
theorem dX9_tellsCask_2 : decode cX9_tellsCask 2 = .ok (.aload_n 1, 1) := by decide +kernel
theorem dX9_tellsCask_3 : decode cX9_tellsCask 3 = .ok (.bipush 48, 2) := by decide +kernel
theorem dX9_tellsCask_5 : decode cX9_tellsCask 5 = .ok (.iload_n 2, 1) := by decide +kernel
theorem dX9_tellsCask_6 : decode cX9_tellsCask 6 = .ok (.iadd, 1) := by decide +kernel
theorem dX9_tellsCask_7 : decode cX9_tellsCask 7 = .ok (.iaload, 1) := by decide +kernel
theorem dX9_tellsCask_8 : decode cX9_tellsCask 8 = .ok (.aload_n 1, 1) := by decide +kernel
theorem dX9_tellsCask_9 : decode cX9_tellsCask 9 = .ok (.iload_n 2, 1) := by decide +kernel
theorem dX9_tellsCask_10 : decode cX9_tellsCask 10 = .ok (.invokestatic 183, 3) := by decide +kernel
theorem dX9_tellsCask_13 : decode cX9_tellsCask 13 = .ok (.iload_n 3, 1) := by decide +kernel
theorem dX9_tellsCask_14 : decode cX9_tellsCask 14 = .ok (.iload 4, 2) := by decide +kernel
theorem dX9_tellsCask_16 : decode cX9_tellsCask 16 = .ok (.invokevirtual 187, 3) := by decide +kernel
theorem dX9_tellsCask_19 : decode cX9_tellsCask 19 = .ok (.return_, 1) := by decide +kernel
theorem dX9_reached_0 : decode cX9_reached 0 = .ok (.iconst 0, 1) := by decide +kernel
theorem dX9_reached_1 : decode cX9_reached 1 = .ok (.istore_n 1, 1) := by decide +kernel
theorem dX9_reached_2 : decode cX9_reached 2 = .ok (.iconst 0, 1) := by decide +kernel
theorem dX9_reached_3 : decode cX9_reached 3 = .ok (.istore_n 2, 1) := by decide +kernel
theorem dX9_reached_4 : decode cX9_reached 4 = .ok (.iload_n 2, 1) := by decide +kernel
theorem dX9_reached_5 : decode cX9_reached 5 = .ok (.bipush 6, 2) := by decide +kernel
theorem dX9_reached_7 : decode cX9_reached 7 = .ok (.if_icmp .ge 28, 3) := by decide +kernel
theorem dX9_reached_10 : decode cX9_reached 10 = .ok (.iload_n 1, 1) := by decide +kernel
theorem dX9_reached_11 : decode cX9_reached 11 = .ok (.aload_n 0, 1) := by decide +kernel
theorem dX9_reached_12 : decode cX9_reached 12 = .ok (.getfield 47, 3) := by decide +kernel
theorem dX9_reached_15 : decode cX9_reached 15 = .ok (.iload_n 2, 1) := by decide +kernel
theorem dX9_reached_16 : decode cX9_reached 16 = .ok (.iaload, 1) := by decide +kernel
theorem dX9_reached_17 : decode cX9_reached 17 = .ok (.ifCond .ge 7, 3) := by decide +kernel
theorem dX9_reached_20 : decode cX9_reached 20 = .ok (.iconst 0, 1) := by decide +kernel
theorem dX9_reached_21 : decode cX9_reached 21 = .ok (.goto 6, 3) := by decide +kernel
theorem dX9_reached_24 : decode cX9_reached 24 = .ok (.iconst 1, 1) := by decide +kernel
theorem dX9_reached_25 : decode cX9_reached 25 = .ok (.iload_n 2, 1) := by decide +kernel
theorem dX9_reached_26 : decode cX9_reached 26 = .ok (.ishl, 1) := by decide +kernel
theorem dX9_reached_27 : decode cX9_reached 27 = .ok (.ior, 1) := by decide +kernel
theorem dX9_reached_28 : decode cX9_reached 28 = .ok (.istore_n 1, 1) := by decide +kernel
theorem dX9_reached_29 : decode cX9_reached 29 = .ok (.iinc 2 1, 3) := by decide +kernel
theorem dX9_reached_32 : decode cX9_reached 32 = .ok (.goto (-28), 3) := by decide +kernel
theorem dX9_reached_35 : decode cX9_reached 35 = .ok (.iload_n 1, 1) := by decide +kernel
theorem dX9_reached_36 : decode cX9_reached 36 = .ok (.ireturn, 1) := by decide +kernel
theorem dX9_taps_0 : decode cX9_taps 0 = .ok (.aload_n 0, 1) := by decide +kernel
theorem dX9_taps_1 : decode cX9_taps 1 = .ok (.aload_n 1, 1) := by decide +kernel
theorem dX9_taps_2 : decode cX9_taps 2 = .ok (.iload_n 2, 1) := by decide +kernel
theorem dX9_taps_3 : decode cX9_taps 3 = .ok (.iconst 1, 1) := by decide +kernel
theorem dX9_taps_4 : decode cX9_taps 4 = .ok (.iload_n 3, 1) := by decide +kernel
theorem dX9_taps_5 : decode cX9_taps 5 = .ok (.ishl, 1) := by decide +kernel
theorem dX9_taps_6 : decode cX9_taps 6 = .ok (.iconst 0, 1) := by decide +kernel
theorem dX9_taps_7 : decode cX9_taps 7 = .ok (.invokevirtual 191, 3) := by decide +kernel
theorem dX9_taps_10 : decode cX9_taps 10 = .ok (.aload_n 1, 1) := by decide +kernel
theorem dX9_taps_11 : decode cX9_taps 11 = .ok (.bipush 60, 2) := by decide +kernel
theorem dX9_taps_13 : decode cX9_taps 13 = .ok (.aload_n 1, 1) := by decide +kernel
theorem dX9_taps_14 : decode cX9_taps 14 = .ok (.bipush 48, 2) := by decide +kernel
theorem dX9_taps_16 : decode cX9_taps 16 = .ok (.iload_n 2, 1) := by decide +kernel
theorem dX9_taps_17 : decode cX9_taps 17 = .ok (.iadd, 1) := by decide +kernel
theorem dX9_taps_18 : decode cX9_taps 18 = .ok (.iaload, 1) := by decide +kernel
theorem dX9_taps_19 : decode cX9_taps 19 = .ok (.iadd, 1) := by decide +kernel
theorem dX9_taps_20 : decode cX9_taps 20 = .ok (.dup2, 1) := by decide +kernel
theorem dX9_taps_21 : decode cX9_taps 21 = .ok (.iaload, 1) := by decide +kernel
theorem dX9_taps_22 : decode cX9_taps 22 = .ok (.aload_n 0, 1) := by decide +kernel
theorem dX9_taps_23 : decode cX9_taps 23 = .ok (.getfield 168, 3) := by decide +kernel
theorem dX9_taps_26 : decode cX9_taps 26 = .ok (.ior, 1) := by decide +kernel
theorem dX9_taps_27 : decode cX9_taps 27 = .ok (.iastore, 1) := by decide +kernel
theorem dX9_taps_28 : decode cX9_taps 28 = .ok (.aload_n 1, 1) := by decide +kernel
theorem dX9_taps_29 : decode cX9_taps 29 = .ok (.bipush 52, 2) := by decide +kernel
theorem dX9_taps_31 : decode cX9_taps 31 = .ok (.iload_n 2, 1) := by decide +kernel
theorem dX9_taps_32 : decode cX9_taps 32 = .ok (.iadd, 1) := by decide +kernel
theorem dX9_taps_33 : decode cX9_taps 33 = .ok (.dup2, 1) := by decide +kernel
theorem dX9_taps_34 : decode cX9_taps 34 = .ok (.iaload, 1) := by decide +kernel
theorem dX9_taps_35 : decode cX9_taps 35 = .ok (.aload_n 1, 1) := by decide +kernel
theorem dX9_taps_36 : decode cX9_taps 36 = .ok (.bipush 52, 2) := by decide +kernel
theorem dX9_taps_38 : decode cX9_taps 38 = .ok (.iload_n 2, 1) := by decide +kernel
theorem dX9_taps_39 : decode cX9_taps 39 = .ok (.iadd, 1) := by decide +kernel
theorem dX9_taps_40 : decode cX9_taps 40 = .ok (.iaload, 1) := by decide +kernel
theorem dX9_taps_41 : decode cX9_taps 41 = .ok (.ifCond .le 7, 3) := by decide +kernel
theorem dX9_taps_44 : decode cX9_taps 44 = .ok (.iconst 1, 1) := by decide +kernel
theorem dX9_taps_45 : decode cX9_taps 45 = .ok (.goto 4, 3) := by decide +kernel
theorem dX9_taps_48 : decode cX9_taps 48 = .ok (.iconst 0, 1) := by decide +kernel
theorem dX9_taps_49 : decode cX9_taps 49 = .ok (.isub, 1) := by decide +kernel
theorem dX9_taps_50 : decode cX9_taps 50 = .ok (.iastore, 1) := by decide +kernel
theorem dX9_taps_51 : decode cX9_taps 51 = .ok (.aload_n 0, 1) := by decide +kernel
theorem dX9_taps_52 : decode cX9_taps 52 = .ok (.getfield 168, 3) := by decide +kernel
theorem dX9_taps_55 : decode cX9_taps 55 = .ok (.ireturn, 1) := by decide +kernel
theorem dX9_dayGoes_0 : decode cX9_dayGoes 0 = .ok (.iconst 0, 1) := by decide +kernel
theorem dX9_dayGoes_1 : decode cX9_dayGoes 1 = .ok (.istore_n 1, 1) := by decide +kernel
theorem dX9_dayGoes_2 : decode cX9_dayGoes 2 = .ok (.iload_n 1, 1) := by decide +kernel
theorem dX9_dayGoes_3 : decode cX9_dayGoes 3 = .ok (.iconst 4, 1) := by decide +kernel
theorem dX9_dayGoes_4 : decode cX9_dayGoes 4 = .ok (.if_icmp .ge 24, 3) := by decide +kernel
theorem dX9_dayGoes_7 : decode cX9_dayGoes 7 = .ok (.aload_n 0, 1) := by decide +kernel
theorem dX9_dayGoes_8 : decode cX9_dayGoes 8 = .ok (.bipush 56, 2) := by decide +kernel
theorem dX9_dayGoes_10 : decode cX9_dayGoes 10 = .ok (.iload_n 1, 1) := by decide +kernel
theorem dX9_dayGoes_11 : decode cX9_dayGoes 11 = .ok (.iadd, 1) := by decide +kernel
theorem dX9_dayGoes_12 : decode cX9_dayGoes 12 = .ok (.dup2, 1) := by decide +kernel
theorem dX9_dayGoes_13 : decode cX9_dayGoes 13 = .ok (.iaload, 1) := by decide +kernel
theorem dX9_dayGoes_14 : decode cX9_dayGoes 14 = .ok (.aload_n 0, 1) := by decide +kernel
theorem dX9_dayGoes_15 : decode cX9_dayGoes 15 = .ok (.bipush 44, 2) := by decide +kernel
theorem dX9_dayGoes_17 : decode cX9_dayGoes 17 = .ok (.iload_n 1, 1) := by decide +kernel
theorem dX9_dayGoes_18 : decode cX9_dayGoes 18 = .ok (.iadd, 1) := by decide +kernel
theorem dX9_dayGoes_19 : decode cX9_dayGoes 19 = .ok (.iaload, 1) := by decide +kernel
theorem dX9_dayGoes_20 : decode cX9_dayGoes 20 = .ok (.iadd, 1) := by decide +kernel
theorem dX9_dayGoes_21 : decode cX9_dayGoes 21 = .ok (.iastore, 1) := by decide +kernel
theorem dX9_dayGoes_22 : decode cX9_dayGoes 22 = .ok (.iinc 1 1, 3) := by decide +kernel
theorem dX9_dayGoes_25 : decode cX9_dayGoes 25 = .ok (.goto (-23), 3) := by decide +kernel
theorem dX9_dayGoes_28 : decode cX9_dayGoes 28 = .ok (.aload_n 0, 1) := by decide +kernel
theorem dX9_dayGoes_29 : decode cX9_dayGoes 29 = .ok (.iconst 5, 1) := by decide +kernel
theorem dX9_dayGoes_30 : decode cX9_dayGoes 30 = .ok (.dup2, 1) := by decide +kernel
theorem dX9_dayGoes_31 : decode cX9_dayGoes 31 = .ok (.iaload, 1) := by decide +kernel
theorem dX9_dayGoes_32 : decode cX9_dayGoes 32 = .ok (.iconst 1, 1) := by decide +kernel
theorem dX9_dayGoes_33 : decode cX9_dayGoes 33 = .ok (.iadd, 1) := by decide +kernel
theorem dX9_dayGoes_34 : decode cX9_dayGoes 34 = .ok (.iastore, 1) := by decide +kernel
theorem dX9_dayGoes_35 : decode cX9_dayGoes 35 = .ok (.return_, 1) := by decide +kernel
theorem dX9_blends_0 : decode cX9_blends 0 = .ok (.aload_n 0, 1) := by decide +kernel
theorem dX9_blends_1 : decode cX9_blends 1 = .ok (.bipush 52, 2) := by decide +kernel
theorem dX9_blends_3 : decode cX9_blends 3 = .ok (.iload_n 1, 1) := by decide +kernel
theorem dX9_blends_4 : decode cX9_blends 4 = .ok (.iadd, 1) := by decide +kernel
theorem dX9_blends_5 : decode cX9_blends 5 = .ok (.iaload, 1) := by decide +kernel
theorem dX9_blends_6 : decode cX9_blends 6 = .ok (.aload_n 0, 1) := by decide +kernel
theorem dX9_blends_7 : decode cX9_blends 7 = .ok (.bipush 52, 2) := by decide +kernel
theorem dX9_blends_9 : decode cX9_blends 9 = .ok (.iload_n 2, 1) := by decide +kernel
theorem dX9_blends_10 : decode cX9_blends 10 = .ok (.iadd, 1) := by decide +kernel
theorem dX9_blends_11 : decode cX9_blends 11 = .ok (.iaload, 1) := by decide +kernel
theorem dX9_blends_12 : decode cX9_blends 12 = .ok (.iadd, 1) := by decide +kernel
theorem dX9_blends_13 : decode cX9_blends 13 = .ok (.istore_n 3, 1) := by decide +kernel
theorem dX9_blends_14 : decode cX9_blends 14 = .ok (.aload_n 0, 1) := by decide +kernel
theorem dX9_blends_15 : decode cX9_blends 15 = .ok (.bipush 52, 2) := by decide +kernel
theorem dX9_blends_17 : decode cX9_blends 17 = .ok (.iload_n 2, 1) := by decide +kernel
theorem dX9_blends_18 : decode cX9_blends 18 = .ok (.iadd, 1) := by decide +kernel
theorem dX9_blends_19 : decode cX9_blends 19 = .ok (.iload_n 3, 1) := by decide +kernel
theorem dX9_blends_20 : decode cX9_blends 20 = .ok (.bipush 20, 2) := by decide +kernel
theorem dX9_blends_22 : decode cX9_blends 22 = .ok (.if_icmp .le 8, 3) := by decide +kernel
theorem dX9_blends_25 : decode cX9_blends 25 = .ok (.bipush 20, 2) := by decide +kernel
theorem dX9_blends_27 : decode cX9_blends 27 = .ok (.goto 4, 3) := by decide +kernel
theorem dX9_blends_30 : decode cX9_blends 30 = .ok (.iload_n 3, 1) := by decide +kernel
theorem dX9_blends_31 : decode cX9_blends 31 = .ok (.iastore, 1) := by decide +kernel
theorem dX9_blends_32 : decode cX9_blends 32 = .ok (.aload_n 0, 1) := by decide +kernel
theorem dX9_blends_33 : decode cX9_blends 33 = .ok (.iload_n 1, 1) := by decide +kernel
theorem dX9_blends_34 : decode cX9_blends 34 = .ok (.invokestatic 194, 3) := by decide +kernel
theorem dX9_blends_37 : decode cX9_blends 37 = .ok (.return_, 1) := by decide +kernel
theorem dX9_removes_0 : decode cX9_removes 0 = .ok (.aload_n 0, 1) := by decide +kernel
theorem dX9_removes_1 : decode cX9_removes 1 = .ok (.bipush 44, 2) := by decide +kernel
theorem dX9_removes_3 : decode cX9_removes 3 = .ok (.iload_n 1, 1) := by decide +kernel
theorem dX9_removes_4 : decode cX9_removes 4 = .ok (.iadd, 1) := by decide +kernel
theorem dX9_removes_5 : decode cX9_removes 5 = .ok (.iconst 0, 1) := by decide +kernel
theorem dX9_removes_6 : decode cX9_removes 6 = .ok (.iastore, 1) := by decide +kernel
theorem dX9_removes_7 : decode cX9_removes 7 = .ok (.aload_n 0, 1) := by decide +kernel
theorem dX9_removes_8 : decode cX9_removes 8 = .ok (.bipush 48, 2) := by decide +kernel
theorem dX9_removes_10 : decode cX9_removes 10 = .ok (.iload_n 1, 1) := by decide +kernel
theorem dX9_removes_11 : decode cX9_removes 11 = .ok (.iadd, 1) := by decide +kernel
theorem dX9_removes_12 : decode cX9_removes 12 = .ok (.iconst 0, 1) := by decide +kernel
theorem dX9_removes_13 : decode cX9_removes 13 = .ok (.iastore, 1) := by decide +kernel
theorem dX9_removes_14 : decode cX9_removes 14 = .ok (.aload_n 0, 1) := by decide +kernel
theorem dX9_removes_15 : decode cX9_removes 15 = .ok (.bipush 52, 2) := by decide +kernel
theorem dX9_removes_17 : decode cX9_removes 17 = .ok (.iload_n 1, 1) := by decide +kernel
theorem dX9_removes_18 : decode cX9_removes 18 = .ok (.iadd, 1) := by decide +kernel
theorem dX9_removes_19 : decode cX9_removes 19 = .ok (.iconst 0, 1) := by decide +kernel
theorem dX9_removes_20 : decode cX9_removes 20 = .ok (.iastore, 1) := by decide +kernel
theorem dX9_removes_21 : decode cX9_removes 21 = .ok (.aload_n 0, 1) := by decide +kernel
theorem dX9_removes_22 : decode cX9_removes 22 = .ok (.bipush 56, 2) := by decide +kernel
theorem dX9_removes_24 : decode cX9_removes 24 = .ok (.iload_n 1, 1) := by decide +kernel
theorem dX9_removes_25 : decode cX9_removes 25 = .ok (.iadd, 1) := by decide +kernel
theorem dX9_removes_26 : decode cX9_removes 26 = .ok (.iconst 0, 1) := by decide +kernel
theorem dX9_removes_27 : decode cX9_removes 27 = .ok (.iastore, 1) := by decide +kernel
theorem dX9_removes_28 : decode cX9_removes 28 = .ok (.return_, 1) := by decide +kernel
theorem dX9_remember_0 : decode cX9_remember 0 = .ok (.aload_n 0, 1) := by decide +kernel
theorem dX9_remember_1 : decode cX9_remember 1 = .ok (.getfield 147, 3) := by decide +kernel
theorem dX9_remember_4 : decode cX9_remember 4 = .ok (.bipush 24, 2) := by decide +kernel
theorem dX9_remember_6 : decode cX9_remember 6 = .ok (.if_icmp .ne 43, 3) := by decide +kernel
theorem dX9_remember_9 : decode cX9_remember 9 = .ok (.iconst 0, 1) := by decide +kernel
theorem dX9_remember_10 : decode cX9_remember 10 = .ok (.istore_n 1, 1) := by decide +kernel
theorem dX9_remember_11 : decode cX9_remember 11 = .ok (.iload_n 1, 1) := by decide +kernel
theorem dX9_remember_12 : decode cX9_remember 12 = .ok (.sipush 1518, 3) := by decide +kernel
theorem dX9_remember_15 : decode cX9_remember 15 = .ok (.if_icmp .ge 24, 3) := by decide +kernel
theorem dX9_remember_18 : decode cX9_remember 18 = .ok (.aload_n 0, 1) := by decide +kernel
theorem dX9_remember_19 : decode cX9_remember 19 = .ok (.getfield 25, 3) := by decide +kernel
theorem dX9_remember_22 : decode cX9_remember 22 = .ok (.iload_n 1, 1) := by decide +kernel
theorem dX9_remember_23 : decode cX9_remember 23 = .ok (.aload_n 0, 1) := by decide +kernel
theorem dX9_remember_24 : decode cX9_remember 24 = .ok (.getfield 25, 3) := by decide +kernel
theorem dX9_remember_27 : decode cX9_remember 27 = .ok (.iload_n 1, 1) := by decide +kernel
theorem dX9_remember_28 : decode cX9_remember 28 = .ok (.bipush 66, 2) := by decide +kernel
theorem dX9_remember_30 : decode cX9_remember 30 = .ok (.iadd, 1) := by decide +kernel
theorem dX9_remember_31 : decode cX9_remember 31 = .ok (.iaload, 1) := by decide +kernel
theorem dX9_remember_32 : decode cX9_remember 32 = .ok (.iastore, 1) := by decide +kernel
theorem dX9_remember_33 : decode cX9_remember 33 = .ok (.iinc 1 1, 3) := by decide +kernel
theorem dX9_remember_36 : decode cX9_remember 36 = .ok (.goto (-25), 3) := by decide +kernel
theorem dX9_remember_39 : decode cX9_remember 39 = .ok (.aload_n 0, 1) := by decide +kernel
theorem dX9_remember_40 : decode cX9_remember 40 = .ok (.dup, 1) := by decide +kernel
theorem dX9_remember_41 : decode cX9_remember 41 = .ok (.getfield 147, 3) := by decide +kernel
theorem dX9_remember_44 : decode cX9_remember 44 = .ok (.iconst 1, 1) := by decide +kernel
theorem dX9_remember_45 : decode cX9_remember 45 = .ok (.isub, 1) := by decide +kernel
theorem dX9_remember_46 : decode cX9_remember 46 = .ok (.putfield 147, 3) := by decide +kernel
theorem dX9_remember_49 : decode cX9_remember 49 = .ok (.aload_n 0, 1) := by decide +kernel
theorem dX9_remember_50 : decode cX9_remember 50 = .ok (.getfield 22, 3) := by decide +kernel
theorem dX9_remember_53 : decode cX9_remember 53 = .ok (.iconst 0, 1) := by decide +kernel
theorem dX9_remember_54 : decode cX9_remember 54 = .ok (.aload_n 0, 1) := by decide +kernel
theorem dX9_remember_55 : decode cX9_remember 55 = .ok (.getfield 25, 3) := by decide +kernel
theorem dX9_remember_58 : decode cX9_remember 58 = .ok (.bipush 66, 2) := by decide +kernel
theorem dX9_remember_60 : decode cX9_remember 60 = .ok (.aload_n 0, 1) := by decide +kernel
theorem dX9_remember_61 : decode cX9_remember 61 = .ok (.getfield 147, 3) := by decide +kernel
theorem dX9_remember_64 : decode cX9_remember 64 = .ok (.imul, 1) := by decide +kernel
theorem dX9_remember_65 : decode cX9_remember 65 = .ok (.invokestatic 150, 3) := by decide +kernel
theorem dX9_remember_68 : decode cX9_remember 68 = .ok (.aload_n 0, 1) := by decide +kernel
theorem dX9_remember_69 : decode cX9_remember 69 = .ok (.dup, 1) := by decide +kernel
theorem dX9_remember_70 : decode cX9_remember 70 = .ok (.getfield 147, 3) := by decide +kernel
theorem dX9_remember_73 : decode cX9_remember 73 = .ok (.iconst 1, 1) := by decide +kernel
theorem dX9_remember_74 : decode cX9_remember 74 = .ok (.iadd, 1) := by decide +kernel
theorem dX9_remember_75 : decode cX9_remember 75 = .ok (.putfield 147, 3) := by decide +kernel
theorem dX9_remember_78 : decode cX9_remember 78 = .ok (.return_, 1) := by decide +kernel
theorem dX9_undo_0 : decode cX9_undo 0 = .ok (.aload_n 0, 1) := by decide +kernel
theorem dX9_undo_1 : decode cX9_undo 1 = .ok (.getfield 147, 3) := by decide +kernel
theorem dX9_undo_4 : decode cX9_undo 4 = .ok (.ifCond .ne 6, 3) := by decide +kernel
theorem dX9_undo_7 : decode cX9_undo 7 = .ok (.ldc 198, 2) := by decide +kernel
theorem dX9_undo_9 : decode cX9_undo 9 = .ok (.ireturn, 1) := by decide +kernel
theorem dX9_undo_10 : decode cX9_undo 10 = .ok (.aload_n 0, 1) := by decide +kernel
theorem dX9_undo_11 : decode cX9_undo 11 = .ok (.dup, 1) := by decide +kernel
theorem dX9_undo_12 : decode cX9_undo 12 = .ok (.getfield 147, 3) := by decide +kernel
theorem dX9_undo_15 : decode cX9_undo 15 = .ok (.iconst 1, 1) := by decide +kernel
theorem dX9_undo_16 : decode cX9_undo 16 = .ok (.isub, 1) := by decide +kernel
theorem dX9_undo_17 : decode cX9_undo 17 = .ok (.putfield 147, 3) := by decide +kernel
theorem dX9_undo_20 : decode cX9_undo 20 = .ok (.aload_n 0, 1) := by decide +kernel
theorem dX9_undo_21 : decode cX9_undo 21 = .ok (.getfield 25, 3) := by decide +kernel
theorem dX9_undo_24 : decode cX9_undo 24 = .ok (.bipush 66, 2) := by decide +kernel
theorem dX9_undo_26 : decode cX9_undo 26 = .ok (.aload_n 0, 1) := by decide +kernel
theorem dX9_undo_27 : decode cX9_undo 27 = .ok (.getfield 147, 3) := by decide +kernel
theorem dX9_undo_30 : decode cX9_undo 30 = .ok (.imul, 1) := by decide +kernel
theorem dX9_undo_31 : decode cX9_undo 31 = .ok (.aload_n 0, 1) := by decide +kernel
theorem dX9_undo_32 : decode cX9_undo 32 = .ok (.getfield 22, 3) := by decide +kernel
theorem dX9_undo_35 : decode cX9_undo 35 = .ok (.iconst 0, 1) := by decide +kernel
theorem dX9_undo_36 : decode cX9_undo 36 = .ok (.invokestatic 150, 3) := by decide +kernel
theorem dX9_undo_39 : decode cX9_undo 39 = .ok (.aload_n 0, 1) := by decide +kernel
theorem dX9_undo_40 : decode cX9_undo 40 = .ok (.getfield 147, 3) := by decide +kernel
theorem dX9_undo_43 : decode cX9_undo 43 = .ok (.ireturn, 1) := by decide +kernel
theorem dX9_brew_0 : decode cX9_brew 0 = .ok (.aload_n 0, 1) := by decide +kernel
theorem dX9_brew_1 : decode cX9_brew 1 = .ok (.iload_n 1, 1) := by decide +kernel
theorem dX9_brew_2 : decode cX9_brew 2 = .ok (.invokevirtual 199, 3) := by decide +kernel
theorem dX9_brew_5 : decode cX9_brew 5 = .ok (.ifCond .eq 15, 3) := by decide +kernel
theorem dX9_brew_8 : decode cX9_brew 8 = .ok (.iload_n 2, 1) := by decide +kernel
theorem dX9_brew_9 : decode cX9_brew 9 = .ok (.i2l, 1) := by decide +kernel
theorem dX9_brew_10 : decode cX9_brew 10 = .ok (.lconst 0, 1) := by decide +kernel
theorem dX9_brew_11 : decode cX9_brew 11 = .ok (.ldc2_w 202, 3) := by decide +kernel
theorem dX9_brew_14 : decode cX9_brew 14 = .ok (.invokestatic 60, 3) := by decide +kernel
theorem dX9_brew_17 : decode cX9_brew 17 = .ok (.ifCond .ne 6, 3) := by decide +kernel
theorem dX9_brew_20 : decode cX9_brew 20 = .ok (.ldc 70, 2) := by decide +kernel
theorem dX9_brew_22 : decode cX9_brew 22 = .ok (.ireturn, 1) := by decide +kernel
theorem dX9_brew_23 : decode cX9_brew 23 = .ok (.iconst 0, 1) := by decide +kernel
theorem dX9_brew_24 : decode cX9_brew 24 = .ok (.istore_n 3, 1) := by decide +kernel
theorem dX9_brew_25 : decode cX9_brew 25 = .ok (.iload_n 3, 1) := by decide +kernel
theorem dX9_brew_26 : decode cX9_brew 26 = .ok (.iconst 4, 1) := by decide +kernel
theorem dX9_brew_27 : decode cX9_brew 27 = .ok (.if_icmp .ge 67, 3) := by decide +kernel
theorem dX9_brew_30 : decode cX9_brew 30 = .ok (.aload_n 0, 1) := by decide +kernel
theorem dX9_brew_31 : decode cX9_brew 31 = .ok (.getfield 22, 3) := by decide +kernel
theorem dX9_brew_34 : decode cX9_brew 34 = .ok (.bipush 44, 2) := by decide +kernel
theorem dX9_brew_36 : decode cX9_brew 36 = .ok (.iload_n 3, 1) := by decide +kernel
theorem dX9_brew_37 : decode cX9_brew 37 = .ok (.iadd, 1) := by decide +kernel
theorem dX9_brew_38 : decode cX9_brew 38 = .ok (.iaload, 1) := by decide +kernel
theorem dX9_brew_39 : decode cX9_brew 39 = .ok (.ifCond .ne 49, 3) := by decide +kernel
theorem dX9_brew_42 : decode cX9_brew 42 = .ok (.aload_n 0, 1) := by decide +kernel
theorem dX9_brew_43 : decode cX9_brew 43 = .ok (.invokevirtual 204, 3) := by decide +kernel
theorem dX9_brew_46 : decode cX9_brew 46 = .ok (.aload_n 0, 1) := by decide +kernel
theorem dX9_brew_47 : decode cX9_brew 47 = .ok (.getfield 22, 3) := by decide +kernel
theorem dX9_brew_50 : decode cX9_brew 50 = .ok (.bipush 44, 2) := by decide +kernel
theorem dX9_brew_52 : decode cX9_brew 52 = .ok (.iload_n 3, 1) := by decide +kernel
theorem dX9_brew_53 : decode cX9_brew 53 = .ok (.iadd, 1) := by decide +kernel
theorem dX9_brew_54 : decode cX9_brew 54 = .ok (.iconst 1, 1) := by decide +kernel
theorem dX9_brew_55 : decode cX9_brew 55 = .ok (.iastore, 1) := by decide +kernel
theorem dX9_brew_56 : decode cX9_brew 56 = .ok (.aload_n 0, 1) := by decide +kernel
theorem dX9_brew_57 : decode cX9_brew 57 = .ok (.getfield 22, 3) := by decide +kernel
theorem dX9_brew_60 : decode cX9_brew 60 = .ok (.bipush 48, 2) := by decide +kernel
theorem dX9_brew_62 : decode cX9_brew 62 = .ok (.iload_n 3, 1) := by decide +kernel
theorem dX9_brew_63 : decode cX9_brew 63 = .ok (.iadd, 1) := by decide +kernel
theorem dX9_brew_64 : decode cX9_brew 64 = .ok (.iload_n 1, 1) := by decide +kernel
theorem dX9_brew_65 : decode cX9_brew 65 = .ok (.iastore, 1) := by decide +kernel
theorem dX9_brew_66 : decode cX9_brew 66 = .ok (.aload_n 0, 1) := by decide +kernel
theorem dX9_brew_67 : decode cX9_brew 67 = .ok (.getfield 22, 3) := by decide +kernel
theorem dX9_brew_70 : decode cX9_brew 70 = .ok (.bipush 52, 2) := by decide +kernel
theorem dX9_brew_72 : decode cX9_brew 72 = .ok (.iload_n 3, 1) := by decide +kernel
theorem dX9_brew_73 : decode cX9_brew 73 = .ok (.iadd, 1) := by decide +kernel
theorem dX9_brew_74 : decode cX9_brew 74 = .ok (.iload_n 2, 1) := by decide +kernel
theorem dX9_brew_75 : decode cX9_brew 75 = .ok (.iastore, 1) := by decide +kernel
theorem dX9_brew_76 : decode cX9_brew 76 = .ok (.aload_n 0, 1) := by decide +kernel
theorem dX9_brew_77 : decode cX9_brew 77 = .ok (.getfield 22, 3) := by decide +kernel
theorem dX9_brew_80 : decode cX9_brew 80 = .ok (.bipush 56, 2) := by decide +kernel
theorem dX9_brew_82 : decode cX9_brew 82 = .ok (.iload_n 3, 1) := by decide +kernel
theorem dX9_brew_83 : decode cX9_brew 83 = .ok (.iadd, 1) := by decide +kernel
theorem dX9_brew_84 : decode cX9_brew 84 = .ok (.iconst 0, 1) := by decide +kernel
theorem dX9_brew_85 : decode cX9_brew 85 = .ok (.iastore, 1) := by decide +kernel
theorem dX9_brew_86 : decode cX9_brew 86 = .ok (.iload_n 3, 1) := by decide +kernel
theorem dX9_brew_87 : decode cX9_brew 87 = .ok (.ireturn, 1) := by decide +kernel
theorem dX9_brew_88 : decode cX9_brew 88 = .ok (.iinc 3 1, 3) := by decide +kernel
theorem dX9_brew_91 : decode cX9_brew 91 = .ok (.goto (-66), 3) := by decide +kernel
theorem dX9_brew_94 : decode cX9_brew 94 = .ok (.ldc 83, 2) := by decide +kernel
theorem dX9_brew_96 : decode cX9_brew 96 = .ok (.ireturn, 1) := by decide +kernel
theorem dX9_isOff_0 : decode cX9_isOff 0 = .ok (.aload_n 0, 1) := by decide +kernel
theorem dX9_isOff_1 : decode cX9_isOff 1 = .ok (.getfield 22, 3) := by decide +kernel
theorem dX9_isOff_4 : decode cX9_isOff 4 = .ok (.bipush 44, 2) := by decide +kernel
theorem dX9_isOff_6 : decode cX9_isOff 6 = .ok (.iload_n 1, 1) := by decide +kernel
theorem dX9_isOff_7 : decode cX9_isOff 7 = .ok (.iadd, 1) := by decide +kernel
theorem dX9_isOff_8 : decode cX9_isOff 8 = .ok (.iaload, 1) := by decide +kernel
theorem dX9_isOff_9 : decode cX9_isOff 9 = .ok (.iconst 1, 1) := by decide +kernel
theorem dX9_isOff_10 : decode cX9_isOff 10 = .ok (.if_icmp .ne 25, 3) := by decide +kernel
theorem dX9_isOff_13 : decode cX9_isOff 13 = .ok (.aload_n 0, 1) := by decide +kernel
theorem dX9_isOff_14 : decode cX9_isOff 14 = .ok (.getfield 22, 3) := by decide +kernel
theorem dX9_isOff_17 : decode cX9_isOff 17 = .ok (.bipush 56, 2) := by decide +kernel
theorem dX9_isOff_19 : decode cX9_isOff 19 = .ok (.iload_n 1, 1) := by decide +kernel
theorem dX9_isOff_20 : decode cX9_isOff 20 = .ok (.iadd, 1) := by decide +kernel
theorem dX9_isOff_21 : decode cX9_isOff 21 = .ok (.iaload, 1) := by decide +kernel
theorem dX9_isOff_22 : decode cX9_isOff 22 = .ok (.aload_n 0, 1) := by decide +kernel
theorem dX9_isOff_23 : decode cX9_isOff 23 = .ok (.getfield 22, 3) := by decide +kernel
theorem dX9_isOff_26 : decode cX9_isOff 26 = .ok (.iconst 1, 1) := by decide +kernel
theorem dX9_isOff_27 : decode cX9_isOff 27 = .ok (.iaload, 1) := by decide +kernel
theorem dX9_isOff_28 : decode cX9_isOff 28 = .ok (.if_icmp .le 7, 3) := by decide +kernel
theorem dX9_isOff_31 : decode cX9_isOff 31 = .ok (.iconst 1, 1) := by decide +kernel
theorem dX9_isOff_32 : decode cX9_isOff 32 = .ok (.goto 4, 3) := by decide +kernel
theorem dX9_isOff_35 : decode cX9_isOff 35 = .ok (.iconst 0, 1) := by decide +kernel
theorem dX9_isOff_36 : decode cX9_isOff 36 = .ok (.ireturn, 1) := by decide +kernel
theorem dX9_days_0 : decode cX9_days 0 = .ok (.aload_n 0, 1) := by decide +kernel
theorem dX9_days_1 : decode cX9_days 1 = .ok (.getfield 143, 3) := by decide +kernel
theorem dX9_days_4 : decode cX9_days 4 = .ok (.ifCond .ne 6, 3) := by decide +kernel
theorem dX9_days_7 : decode cX9_days 7 = .ok (.ldc 198, 2) := by decide +kernel
theorem dX9_days_9 : decode cX9_days 9 = .ok (.ireturn, 1) := by decide +kernel
theorem dX9_days_10 : decode cX9_days 10 = .ok (.iload_n 1, 1) := by decide +kernel
theorem dX9_days_11 : decode cX9_days 11 = .ok (.i2l, 1) := by decide +kernel
theorem dX9_days_12 : decode cX9_days 12 = .ok (.lconst 1, 1) := by decide +kernel
theorem dX9_days_13 : decode cX9_days 13 = .ok (.ldc2_w 207, 3) := by decide +kernel
theorem dX9_days_16 : decode cX9_days 16 = .ok (.invokestatic 60, 3) := by decide +kernel
theorem dX9_days_19 : decode cX9_days 19 = .ok (.ifCond .ne 6, 3) := by decide +kernel
theorem dX9_days_22 : decode cX9_days 22 = .ok (.ldc 70, 2) := by decide +kernel
theorem dX9_days_24 : decode cX9_days 24 = .ok (.ireturn, 1) := by decide +kernel
theorem dX9_days_25 : decode cX9_days 25 = .ok (.aload_n 0, 1) := by decide +kernel
theorem dX9_days_26 : decode cX9_days 26 = .ok (.getfield 22, 3) := by decide +kernel
theorem dX9_days_29 : decode cX9_days 29 = .ok (.iconst 5, 1) := by decide +kernel
theorem dX9_days_30 : decode cX9_days 30 = .ok (.iaload, 1) := by decide +kernel
theorem dX9_days_31 : decode cX9_days 31 = .ok (.iload_n 1, 1) := by decide +kernel
theorem dX9_days_32 : decode cX9_days 32 = .ok (.iadd, 1) := by decide +kernel
theorem dX9_days_33 : decode cX9_days 33 = .ok (.sipush 999, 3) := by decide +kernel
theorem dX9_days_36 : decode cX9_days 36 = .ok (.if_icmp .le 6, 3) := by decide +kernel
theorem dX9_days_39 : decode cX9_days 39 = .ok (.ldc 83, 2) := by decide +kernel
theorem dX9_days_41 : decode cX9_days 41 = .ok (.ireturn, 1) := by decide +kernel
theorem dX9_days_42 : decode cX9_days 42 = .ok (.iconst 0, 1) := by decide +kernel
theorem dX9_days_43 : decode cX9_days 43 = .ok (.istore_n 2, 1) := by decide +kernel
theorem dX9_days_44 : decode cX9_days 44 = .ok (.iload_n 2, 1) := by decide +kernel
theorem dX9_days_45 : decode cX9_days 45 = .ok (.iload_n 1, 1) := by decide +kernel
theorem dX9_days_46 : decode cX9_days 46 = .ok (.if_icmp .ge 20, 3) := by decide +kernel
theorem dX9_days_49 : decode cX9_days 49 = .ok (.aload_n 0, 1) := by decide +kernel
theorem dX9_days_50 : decode cX9_days 50 = .ok (.invokevirtual 204, 3) := by decide +kernel
theorem dX9_days_53 : decode cX9_days 53 = .ok (.aload_n 0, 1) := by decide +kernel
theorem dX9_days_54 : decode cX9_days 54 = .ok (.getfield 22, 3) := by decide +kernel
theorem dX9_days_57 : decode cX9_days 57 = .ok (.invokestatic 209, 3) := by decide +kernel
theorem dX9_days_60 : decode cX9_days 60 = .ok (.iinc 2 1, 3) := by decide +kernel
theorem dX9_days_63 : decode cX9_days 63 = .ok (.goto (-19), 3) := by decide +kernel
theorem dX9_days_66 : decode cX9_days 66 = .ok (.iconst 0, 1) := by decide +kernel
theorem dX9_days_67 : decode cX9_days 67 = .ok (.istore_n 2, 1) := by decide +kernel
theorem dX9_days_68 : decode cX9_days 68 = .ok (.iconst 0, 1) := by decide +kernel
theorem dX9_days_69 : decode cX9_days 69 = .ok (.istore_n 3, 1) := by decide +kernel
theorem dX9_days_70 : decode cX9_days 70 = .ok (.iload_n 3, 1) := by decide +kernel
theorem dX9_days_71 : decode cX9_days 71 = .ok (.iconst 4, 1) := by decide +kernel
theorem dX9_days_72 : decode cX9_days 72 = .ok (.if_icmp .ge 27, 3) := by decide +kernel
theorem dX9_days_75 : decode cX9_days 75 = .ok (.iload_n 2, 1) := by decide +kernel
theorem dX9_days_76 : decode cX9_days 76 = .ok (.aload_n 0, 1) := by decide +kernel
theorem dX9_days_77 : decode cX9_days 77 = .ok (.iload_n 3, 1) := by decide +kernel
theorem dX9_days_78 : decode cX9_days 78 = .ok (.invokevirtual 213, 3) := by decide +kernel
theorem dX9_days_81 : decode cX9_days 81 = .ok (.ifCond .eq 9, 3) := by decide +kernel
theorem dX9_days_84 : decode cX9_days 84 = .ok (.iconst 1, 1) := by decide +kernel
theorem dX9_days_85 : decode cX9_days 85 = .ok (.iload_n 3, 1) := by decide +kernel
theorem dX9_days_86 : decode cX9_days 86 = .ok (.ishl, 1) := by decide +kernel
theorem dX9_days_87 : decode cX9_days 87 = .ok (.goto 4, 3) := by decide +kernel
theorem dX9_days_90 : decode cX9_days 90 = .ok (.iconst 0, 1) := by decide +kernel
theorem dX9_days_91 : decode cX9_days 91 = .ok (.ior, 1) := by decide +kernel
theorem dX9_days_92 : decode cX9_days 92 = .ok (.istore_n 2, 1) := by decide +kernel
theorem dX9_days_93 : decode cX9_days 93 = .ok (.iinc 3 1, 3) := by decide +kernel
theorem dX9_days_96 : decode cX9_days 96 = .ok (.goto (-26), 3) := by decide +kernel
theorem dX9_days_99 : decode cX9_days 99 = .ok (.iload_n 2, 1) := by decide +kernel
theorem dX9_days_100 : decode cX9_days 100 = .ok (.ireturn, 1) := by decide +kernel
theorem dX9_tap_0 : decode cX9_tap 0 = .ok (.iload_n 1, 1) := by decide +kernel
theorem dX9_tap_1 : decode cX9_tap 1 = .ok (.invokestatic 216, 3) := by decide +kernel
theorem dX9_tap_4 : decode cX9_tap 4 = .ok (.ifCond .eq 11, 3) := by decide +kernel
theorem dX9_tap_7 : decode cX9_tap 7 = .ok (.aload_n 0, 1) := by decide +kernel
theorem dX9_tap_8 : decode cX9_tap 8 = .ok (.iload_n 2, 1) := by decide +kernel
theorem dX9_tap_9 : decode cX9_tap 9 = .ok (.invokevirtual 199, 3) := by decide +kernel
theorem dX9_tap_12 : decode cX9_tap 12 = .ok (.ifCond .ne 6, 3) := by decide +kernel
theorem dX9_tap_15 : decode cX9_tap 15 = .ok (.ldc 70, 2) := by decide +kernel
theorem dX9_tap_17 : decode cX9_tap 17 = .ok (.ireturn, 1) := by decide +kernel
theorem dX9_tap_18 : decode cX9_tap 18 = .ok (.aload_n 0, 1) := by decide +kernel
theorem dX9_tap_19 : decode cX9_tap 19 = .ok (.getfield 22, 3) := by decide +kernel
theorem dX9_tap_22 : decode cX9_tap 22 = .ok (.bipush 44, 2) := by decide +kernel
theorem dX9_tap_24 : decode cX9_tap 24 = .ok (.iload_n 1, 1) := by decide +kernel
theorem dX9_tap_25 : decode cX9_tap 25 = .ok (.iadd, 1) := by decide +kernel
theorem dX9_tap_26 : decode cX9_tap 26 = .ok (.iaload, 1) := by decide +kernel
theorem dX9_tap_27 : decode cX9_tap 27 = .ok (.ifCond .ne 6, 3) := by decide +kernel
theorem dX9_tap_30 : decode cX9_tap 30 = .ok (.ldc 198, 2) := by decide +kernel
theorem dX9_tap_32 : decode cX9_tap 32 = .ok (.ireturn, 1) := by decide +kernel
theorem dX9_tap_33 : decode cX9_tap 33 = .ok (.aload_n 0, 1) := by decide +kernel
theorem dX9_tap_34 : decode cX9_tap 34 = .ok (.invokevirtual 204, 3) := by decide +kernel
theorem dX9_tap_37 : decode cX9_tap 37 = .ok (.aload_n 0, 1) := by decide +kernel
theorem dX9_tap_38 : decode cX9_tap 38 = .ok (.aload_n 0, 1) := by decide +kernel
theorem dX9_tap_39 : decode cX9_tap 39 = .ok (.getfield 22, 3) := by decide +kernel
theorem dX9_tap_42 : decode cX9_tap 42 = .ok (.iload_n 1, 1) := by decide +kernel
theorem dX9_tap_43 : decode cX9_tap 43 = .ok (.iload_n 2, 1) := by decide +kernel
theorem dX9_tap_44 : decode cX9_tap 44 = .ok (.invokevirtual 219, 3) := by decide +kernel
theorem dX9_tap_47 : decode cX9_tap 47 = .ok (.ireturn, 1) := by decide +kernel
theorem dX9_water_0 : decode cX9_water 0 = .ok (.iload_n 1, 1) := by decide +kernel
theorem dX9_water_1 : decode cX9_water 1 = .ok (.invokestatic 216, 3) := by decide +kernel
theorem dX9_water_4 : decode cX9_water 4 = .ok (.ifCond .ne 6, 3) := by decide +kernel
theorem dX9_water_7 : decode cX9_water 7 = .ok (.ldc 70, 2) := by decide +kernel
theorem dX9_water_9 : decode cX9_water 9 = .ok (.ireturn, 1) := by decide +kernel
theorem dX9_water_10 : decode cX9_water 10 = .ok (.aload_n 0, 1) := by decide +kernel
theorem dX9_water_11 : decode cX9_water 11 = .ok (.getfield 22, 3) := by decide +kernel
theorem dX9_water_14 : decode cX9_water 14 = .ok (.bipush 44, 2) := by decide +kernel
theorem dX9_water_16 : decode cX9_water 16 = .ok (.iload_n 1, 1) := by decide +kernel
theorem dX9_water_17 : decode cX9_water 17 = .ok (.iadd, 1) := by decide +kernel
theorem dX9_water_18 : decode cX9_water 18 = .ok (.iaload, 1) := by decide +kernel
theorem dX9_water_19 : decode cX9_water 19 = .ok (.ifCond .ne 6, 3) := by decide +kernel
theorem dX9_water_22 : decode cX9_water 22 = .ok (.ldc 198, 2) := by decide +kernel
theorem dX9_water_24 : decode cX9_water 24 = .ok (.ireturn, 1) := by decide +kernel
theorem dX9_water_25 : decode cX9_water 25 = .ok (.aload_n 0, 1) := by decide +kernel
theorem dX9_water_26 : decode cX9_water 26 = .ok (.invokevirtual 204, 3) := by decide +kernel
theorem dX9_water_29 : decode cX9_water 29 = .ok (.aload_n 0, 1) := by decide +kernel
theorem dX9_water_30 : decode cX9_water 30 = .ok (.getfield 22, 3) := by decide +kernel
theorem dX9_water_33 : decode cX9_water 33 = .ok (.bipush 52, 2) := by decide +kernel
theorem dX9_water_35 : decode cX9_water 35 = .ok (.iload_n 1, 1) := by decide +kernel
theorem dX9_water_36 : decode cX9_water 36 = .ok (.iadd, 1) := by decide +kernel
theorem dX9_water_37 : decode cX9_water 37 = .ok (.dup2, 1) := by decide +kernel
theorem dX9_water_38 : decode cX9_water 38 = .ok (.iaload, 1) := by decide +kernel
theorem dX9_water_39 : decode cX9_water 39 = .ok (.iconst 2, 1) := by decide +kernel
theorem dX9_water_40 : decode cX9_water 40 = .ok (.idiv, 1) := by decide +kernel
theorem dX9_water_41 : decode cX9_water 41 = .ok (.iastore, 1) := by decide +kernel
theorem dX9_water_42 : decode cX9_water 42 = .ok (.aload_n 0, 1) := by decide +kernel
theorem dX9_water_43 : decode cX9_water 43 = .ok (.getfield 22, 3) := by decide +kernel
theorem dX9_water_46 : decode cX9_water 46 = .ok (.bipush 52, 2) := by decide +kernel
theorem dX9_water_48 : decode cX9_water 48 = .ok (.iload_n 1, 1) := by decide +kernel
theorem dX9_water_49 : decode cX9_water 49 = .ok (.iadd, 1) := by decide +kernel
theorem dX9_water_50 : decode cX9_water 50 = .ok (.iaload, 1) := by decide +kernel
theorem dX9_water_51 : decode cX9_water 51 = .ok (.ireturn, 1) := by decide +kernel
theorem dX9_areCasks_0 : decode cX9_areCasks 0 = .ok (.iload_n 0, 1) := by decide +kernel
theorem dX9_areCasks_1 : decode cX9_areCasks 1 = .ok (.invokestatic 216, 3) := by decide +kernel
theorem dX9_areCasks_4 : decode cX9_areCasks 4 = .ok (.ifCond .eq 19, 3) := by decide +kernel
theorem dX9_areCasks_7 : decode cX9_areCasks 7 = .ok (.iload_n 1, 1) := by decide +kernel
theorem dX9_areCasks_8 : decode cX9_areCasks 8 = .ok (.invokestatic 216, 3) := by decide +kernel
theorem dX9_areCasks_11 : decode cX9_areCasks 11 = .ok (.ifCond .eq 12, 3) := by decide +kernel
theorem dX9_areCasks_14 : decode cX9_areCasks 14 = .ok (.iload_n 0, 1) := by decide +kernel
theorem dX9_areCasks_15 : decode cX9_areCasks 15 = .ok (.iload_n 1, 1) := by decide +kernel
theorem dX9_areCasks_16 : decode cX9_areCasks 16 = .ok (.if_icmp .eq 7, 3) := by decide +kernel
theorem dX9_areCasks_19 : decode cX9_areCasks 19 = .ok (.iconst 1, 1) := by decide +kernel
theorem dX9_areCasks_20 : decode cX9_areCasks 20 = .ok (.goto 4, 3) := by decide +kernel
theorem dX9_areCasks_23 : decode cX9_areCasks 23 = .ok (.iconst 0, 1) := by decide +kernel
theorem dX9_areCasks_24 : decode cX9_areCasks 24 = .ok (.ireturn, 1) := by decide +kernel
theorem dX9_blend_0 : decode cX9_blend 0 = .ok (.iload_n 1, 1) := by decide +kernel
theorem dX9_blend_1 : decode cX9_blend 1 = .ok (.iload_n 2, 1) := by decide +kernel
theorem dX9_blend_2 : decode cX9_blend 2 = .ok (.invokestatic 222, 3) := by decide +kernel
theorem dX9_blend_5 : decode cX9_blend 5 = .ok (.ifCond .ne 6, 3) := by decide +kernel
theorem dX9_blend_8 : decode cX9_blend 8 = .ok (.ldc 70, 2) := by decide +kernel
theorem dX9_blend_10 : decode cX9_blend 10 = .ok (.ireturn, 1) := by decide +kernel
theorem dX9_blend_11 : decode cX9_blend 11 = .ok (.aload_n 0, 1) := by decide +kernel
theorem dX9_blend_12 : decode cX9_blend 12 = .ok (.getfield 22, 3) := by decide +kernel
theorem dX9_blend_15 : decode cX9_blend 15 = .ok (.bipush 44, 2) := by decide +kernel
theorem dX9_blend_17 : decode cX9_blend 17 = .ok (.iload_n 1, 1) := by decide +kernel
theorem dX9_blend_18 : decode cX9_blend 18 = .ok (.iadd, 1) := by decide +kernel
theorem dX9_blend_19 : decode cX9_blend 19 = .ok (.iaload, 1) := by decide +kernel
theorem dX9_blend_20 : decode cX9_blend 20 = .ok (.ifCond .eq 15, 3) := by decide +kernel
theorem dX9_blend_23 : decode cX9_blend 23 = .ok (.aload_n 0, 1) := by decide +kernel
theorem dX9_blend_24 : decode cX9_blend 24 = .ok (.getfield 22, 3) := by decide +kernel
theorem dX9_blend_27 : decode cX9_blend 27 = .ok (.bipush 44, 2) := by decide +kernel
theorem dX9_blend_29 : decode cX9_blend 29 = .ok (.iload_n 2, 1) := by decide +kernel
theorem dX9_blend_30 : decode cX9_blend 30 = .ok (.iadd, 1) := by decide +kernel
theorem dX9_blend_31 : decode cX9_blend 31 = .ok (.iaload, 1) := by decide +kernel
theorem dX9_blend_32 : decode cX9_blend 32 = .ok (.ifCond .ne 6, 3) := by decide +kernel
theorem dX9_blend_35 : decode cX9_blend 35 = .ok (.ldc 198, 2) := by decide +kernel
theorem dX9_blend_37 : decode cX9_blend 37 = .ok (.ireturn, 1) := by decide +kernel
theorem dX9_blend_38 : decode cX9_blend 38 = .ok (.aload_n 0, 1) := by decide +kernel
theorem dX9_blend_39 : decode cX9_blend 39 = .ok (.invokevirtual 204, 3) := by decide +kernel
theorem dX9_blend_42 : decode cX9_blend 42 = .ok (.aload_n 0, 1) := by decide +kernel
theorem dX9_blend_43 : decode cX9_blend 43 = .ok (.getfield 22, 3) := by decide +kernel
theorem dX9_blend_46 : decode cX9_blend 46 = .ok (.iload_n 1, 1) := by decide +kernel
theorem dX9_blend_47 : decode cX9_blend 47 = .ok (.iload_n 2, 1) := by decide +kernel
theorem dX9_blend_48 : decode cX9_blend 48 = .ok (.invokestatic 225, 3) := by decide +kernel
theorem dX9_blend_51 : decode cX9_blend 51 = .ok (.aload_n 0, 1) := by decide +kernel
theorem dX9_blend_52 : decode cX9_blend 52 = .ok (.getfield 22, 3) := by decide +kernel
theorem dX9_blend_55 : decode cX9_blend 55 = .ok (.bipush 52, 2) := by decide +kernel
theorem dX9_blend_57 : decode cX9_blend 57 = .ok (.iload_n 2, 1) := by decide +kernel
theorem dX9_blend_58 : decode cX9_blend 58 = .ok (.iadd, 1) := by decide +kernel
theorem dX9_blend_59 : decode cX9_blend 59 = .ok (.iaload, 1) := by decide +kernel
theorem dX9_blend_60 : decode cX9_blend 60 = .ok (.ireturn, 1) := by decide +kernel
theorem dX9_cask_0 : decode cX9_cask 0 = .ok (.iload_n 1, 1) := by decide +kernel
theorem dX9_cask_1 : decode cX9_cask 1 = .ok (.invokestatic 216, 3) := by decide +kernel
theorem dX9_cask_4 : decode cX9_cask 4 = .ok (.ifCond .eq 15, 3) := by decide +kernel
theorem dX9_cask_7 : decode cX9_cask 7 = .ok (.iload_n 2, 1) := by decide +kernel
theorem dX9_cask_8 : decode cX9_cask 8 = .ok (.i2l, 1) := by decide +kernel
theorem dX9_cask_9 : decode cX9_cask 9 = .ok (.lconst 0, 1) := by decide +kernel
theorem dX9_cask_10 : decode cX9_cask 10 = .ok (.ldc2_w 229, 3) := by decide +kernel
theorem dX9_cask_13 : decode cX9_cask 13 = .ok (.invokestatic 60, 3) := by decide +kernel
theorem dX9_cask_16 : decode cX9_cask 16 = .ok (.ifCond .ne 6, 3) := by decide +kernel
theorem dX9_cask_19 : decode cX9_cask 19 = .ok (.ldc 70, 2) := by decide +kernel
theorem dX9_cask_21 : decode cX9_cask 21 = .ok (.ireturn, 1) := by decide +kernel
theorem dX9_cask_22 : decode cX9_cask 22 = .ok (.aload_n 0, 1) := by decide +kernel
theorem dX9_cask_23 : decode cX9_cask 23 = .ok (.getfield 22, 3) := by decide +kernel
theorem dX9_cask_26 : decode cX9_cask 26 = .ok (.bipush 44, 2) := by decide +kernel
theorem dX9_cask_28 : decode cX9_cask 28 = .ok (.iload_n 1, 1) := by decide +kernel
theorem dX9_cask_29 : decode cX9_cask 29 = .ok (.iadd, 1) := by decide +kernel
theorem dX9_cask_30 : decode cX9_cask 30 = .ok (.iaload, 1) := by decide +kernel
theorem dX9_cask_31 : decode cX9_cask 31 = .ok (.ifCond .ne 6, 3) := by decide +kernel
theorem dX9_cask_34 : decode cX9_cask 34 = .ok (.ldc 231, 2) := by decide +kernel
theorem dX9_cask_36 : decode cX9_cask 36 = .ok (.ireturn, 1) := by decide +kernel
theorem dX9_cask_37 : decode cX9_cask 37 = .ok (.iload_n 2, 1) := by decide +kernel
theorem dX9_cask_38 : decode cX9_cask 38 = .ok (.lookupswitch 49 #[(3, 26), (4, 35)], 26) := by decide +kernel
theorem dX9_cask_64 : decode cX9_cask 64 = .ok (.aload_n 0, 1) := by decide +kernel
theorem dX9_cask_65 : decode cX9_cask 65 = .ok (.getfield 22, 3) := by decide +kernel
theorem dX9_cask_68 : decode cX9_cask 68 = .ok (.iload_n 1, 1) := by decide +kernel
theorem dX9_cask_69 : decode cX9_cask 69 = .ok (.invokestatic 183, 3) := by decide +kernel
theorem dX9_cask_72 : decode cX9_cask 72 = .ok (.ireturn, 1) := by decide +kernel
theorem dX9_cask_73 : decode cX9_cask 73 = .ok (.aload_n 0, 1) := by decide +kernel
theorem dX9_cask_74 : decode cX9_cask 74 = .ok (.iload_n 1, 1) := by decide +kernel
theorem dX9_cask_75 : decode cX9_cask 75 = .ok (.invokevirtual 213, 3) := by decide +kernel
theorem dX9_cask_78 : decode cX9_cask 78 = .ok (.ifCond .eq 7, 3) := by decide +kernel
theorem dX9_cask_81 : decode cX9_cask 81 = .ok (.iconst 1, 1) := by decide +kernel
theorem dX9_cask_82 : decode cX9_cask 82 = .ok (.goto 4, 3) := by decide +kernel
theorem dX9_cask_85 : decode cX9_cask 85 = .ok (.iconst 0, 1) := by decide +kernel
theorem dX9_cask_86 : decode cX9_cask 86 = .ok (.ireturn, 1) := by decide +kernel
theorem dX9_cask_87 : decode cX9_cask 87 = .ok (.aload_n 0, 1) := by decide +kernel
theorem dX9_cask_88 : decode cX9_cask 88 = .ok (.getfield 22, 3) := by decide +kernel
theorem dX9_cask_91 : decode cX9_cask 91 = .ok (.bipush 48, 2) := by decide +kernel
theorem dX9_cask_93 : decode cX9_cask 93 = .ok (.iconst 4, 1) := by decide +kernel
theorem dX9_cask_94 : decode cX9_cask 94 = .ok (.iload_n 2, 1) := by decide +kernel
theorem dX9_cask_95 : decode cX9_cask 95 = .ok (.imul, 1) := by decide +kernel
theorem dX9_cask_96 : decode cX9_cask 96 = .ok (.iadd, 1) := by decide +kernel
theorem dX9_cask_97 : decode cX9_cask 97 = .ok (.iload_n 1, 1) := by decide +kernel
theorem dX9_cask_98 : decode cX9_cask 98 = .ok (.iadd, 1) := by decide +kernel
theorem dX9_cask_99 : decode cX9_cask 99 = .ok (.iaload, 1) := by decide +kernel
theorem dX9_cask_100 : decode cX9_cask 100 = .ok (.ireturn, 1) := by decide +kernel
theorem dX9_drinker_0 : decode cX9_drinker 0 = .ok (.aload_n 0, 1) := by decide +kernel
theorem dX9_drinker_1 : decode cX9_drinker 1 = .ok (.iload_n 1, 1) := by decide +kernel
theorem dX9_drinker_2 : decode cX9_drinker 2 = .ok (.invokevirtual 199, 3) := by decide +kernel
theorem dX9_drinker_5 : decode cX9_drinker 5 = .ok (.ifCond .eq 15, 3) := by decide +kernel
theorem dX9_drinker_8 : decode cX9_drinker 8 = .ok (.iload_n 2, 1) := by decide +kernel
theorem dX9_drinker_9 : decode cX9_drinker 9 = .ok (.i2l, 1) := by decide +kernel
theorem dX9_drinker_10 : decode cX9_drinker 10 = .ok (.lconst 0, 1) := by decide +kernel
theorem dX9_drinker_11 : decode cX9_drinker 11 = .ok (.ldc2_w 68, 3) := by decide +kernel
theorem dX9_drinker_14 : decode cX9_drinker 14 = .ok (.invokestatic 60, 3) := by decide +kernel
theorem dX9_drinker_17 : decode cX9_drinker 17 = .ok (.ifCond .ne 6, 3) := by decide +kernel
theorem dX9_drinker_20 : decode cX9_drinker 20 = .ok (.ldc 70, 2) := by decide +kernel
theorem dX9_drinker_22 : decode cX9_drinker 22 = .ok (.ireturn, 1) := by decide +kernel
theorem dX9_drinker_23 : decode cX9_drinker 23 = .ok (.iconst 0, 1) := by decide +kernel
theorem dX9_drinker_24 : decode cX9_drinker 24 = .ok (.istore_n 3, 1) := by decide +kernel
theorem dX9_drinker_25 : decode cX9_drinker 25 = .ok (.iconst 0, 1) := by decide +kernel
theorem dX9_drinker_26 : decode cX9_drinker 26 = .ok (.istore 4, 2) := by decide +kernel
theorem dX9_drinker_28 : decode cX9_drinker 28 = .ok (.iload 4, 2) := by decide +kernel
theorem dX9_drinker_30 : decode cX9_drinker 30 = .ok (.aload_n 0, 1) := by decide +kernel
theorem dX9_drinker_31 : decode cX9_drinker 31 = .ok (.getfield 22, 3) := by decide +kernel
theorem dX9_drinker_34 : decode cX9_drinker 34 = .ok (.iconst 4, 1) := by decide +kernel
theorem dX9_drinker_35 : decode cX9_drinker 35 = .ok (.iaload, 1) := by decide +kernel
theorem dX9_drinker_36 : decode cX9_drinker 36 = .ok (.if_icmp .ge 42, 3) := by decide +kernel
theorem dX9_drinker_39 : decode cX9_drinker 39 = .ok (.iload_n 3, 1) := by decide +kernel
theorem dX9_drinker_40 : decode cX9_drinker 40 = .ok (.aload_n 0, 1) := by decide +kernel
theorem dX9_drinker_41 : decode cX9_drinker 41 = .ok (.getfield 22, 3) := by decide +kernel
theorem dX9_drinker_44 : decode cX9_drinker 44 = .ok (.bipush 24, 2) := by decide +kernel
theorem dX9_drinker_46 : decode cX9_drinker 46 = .ok (.iload 4, 2) := by decide +kernel
theorem dX9_drinker_48 : decode cX9_drinker 48 = .ok (.iadd, 1) := by decide +kernel
theorem dX9_drinker_49 : decode cX9_drinker 49 = .ok (.iaload, 1) := by decide +kernel
theorem dX9_drinker_50 : decode cX9_drinker 50 = .ok (.iload_n 1, 1) := by decide +kernel
theorem dX9_drinker_51 : decode cX9_drinker 51 = .ok (.if_icmp .ne 18, 3) := by decide +kernel
theorem dX9_drinker_54 : decode cX9_drinker 54 = .ok (.iconst 1, 1) := by decide +kernel
theorem dX9_drinker_55 : decode cX9_drinker 55 = .ok (.aload_n 0, 1) := by decide +kernel
theorem dX9_drinker_56 : decode cX9_drinker 56 = .ok (.getfield 22, 3) := by decide +kernel
theorem dX9_drinker_59 : decode cX9_drinker 59 = .ok (.bipush 34, 2) := by decide +kernel
theorem dX9_drinker_61 : decode cX9_drinker 61 = .ok (.iload 4, 2) := by decide +kernel
theorem dX9_drinker_63 : decode cX9_drinker 63 = .ok (.iadd, 1) := by decide +kernel
theorem dX9_drinker_64 : decode cX9_drinker 64 = .ok (.iaload, 1) := by decide +kernel
theorem dX9_drinker_65 : decode cX9_drinker 65 = .ok (.ishl, 1) := by decide +kernel
theorem dX9_drinker_66 : decode cX9_drinker 66 = .ok (.goto 4, 3) := by decide +kernel
theorem dX9_drinker_69 : decode cX9_drinker 69 = .ok (.iconst 0, 1) := by decide +kernel
theorem dX9_drinker_70 : decode cX9_drinker 70 = .ok (.ior, 1) := by decide +kernel
theorem dX9_drinker_71 : decode cX9_drinker 71 = .ok (.istore_n 3, 1) := by decide +kernel
theorem dX9_drinker_72 : decode cX9_drinker 72 = .ok (.iinc 4 1, 3) := by decide +kernel
theorem dX9_drinker_75 : decode cX9_drinker 75 = .ok (.goto (-47), 3) := by decide +kernel
theorem dX9_drinker_78 : decode cX9_drinker 78 = .ok (.iload_n 2, 1) := by decide +kernel
theorem dX9_drinker_79 : decode cX9_drinker 79 = .ok (.iconst 2, 1) := by decide +kernel
theorem dX9_drinker_80 : decode cX9_drinker 80 = .ok (.if_icmp .ne 7, 3) := by decide +kernel
theorem dX9_drinker_83 : decode cX9_drinker 83 = .ok (.iload_n 3, 1) := by decide +kernel
theorem dX9_drinker_84 : decode cX9_drinker 84 = .ok (.goto 17, 3) := by decide +kernel
theorem dX9_drinker_87 : decode cX9_drinker 87 = .ok (.aload_n 0, 1) := by decide +kernel
theorem dX9_drinker_88 : decode cX9_drinker 88 = .ok (.getfield 22, 3) := by decide +kernel
theorem dX9_drinker_91 : decode cX9_drinker 91 = .ok (.bipush 12, 2) := by decide +kernel
theorem dX9_drinker_93 : decode cX9_drinker 93 = .ok (.bipush 6, 2) := by decide +kernel
theorem dX9_drinker_95 : decode cX9_drinker 95 = .ok (.iload_n 2, 1) := by decide +kernel
theorem dX9_drinker_96 : decode cX9_drinker 96 = .ok (.imul, 1) := by decide +kernel
theorem dX9_drinker_97 : decode cX9_drinker 97 = .ok (.iadd, 1) := by decide +kernel
theorem dX9_drinker_98 : decode cX9_drinker 98 = .ok (.iload_n 1, 1) := by decide +kernel
theorem dX9_drinker_99 : decode cX9_drinker 99 = .ok (.iadd, 1) := by decide +kernel
theorem dX9_drinker_100 : decode cX9_drinker 100 = .ok (.iaload, 1) := by decide +kernel
theorem dX9_drinker_101 : decode cX9_drinker 101 = .ok (.ireturn, 1) := by decide +kernel
theorem dX9_rumour_0 : decode cX9_rumour 0 = .ok (.aload_n 0, 1) := by decide +kernel
theorem dX9_rumour_1 : decode cX9_rumour 1 = .ok (.iload_n 1, 1) := by decide +kernel
theorem dX9_rumour_2 : decode cX9_rumour 2 = .ok (.invokevirtual 199, 3) := by decide +kernel
theorem dX9_rumour_5 : decode cX9_rumour 5 = .ok (.ifCond .eq 15, 3) := by decide +kernel
theorem dX9_rumour_8 : decode cX9_rumour 8 = .ok (.aload_n 0, 1) := by decide +kernel
theorem dX9_rumour_9 : decode cX9_rumour 9 = .ok (.getfield 22, 3) := by decide +kernel
theorem dX9_rumour_12 : decode cX9_rumour 12 = .ok (.bipush 60, 2) := by decide +kernel
theorem dX9_rumour_14 : decode cX9_rumour 14 = .ok (.iload_n 1, 1) := by decide +kernel
theorem dX9_rumour_15 : decode cX9_rumour 15 = .ok (.iadd, 1) := by decide +kernel
theorem dX9_rumour_16 : decode cX9_rumour 16 = .ok (.iaload, 1) := by decide +kernel
theorem dX9_rumour_17 : decode cX9_rumour 17 = .ok (.goto 5, 3) := by decide +kernel
theorem dX9_rumour_20 : decode cX9_rumour 20 = .ok (.ldc 70, 2) := by decide +kernel
theorem dX9_rumour_22 : decode cX9_rumour 22 = .ok (.ireturn, 1) := by decide +kernel
theorem dX9_telling_0 : decode cX9_telling 0 = .ok (.iload_n 1, 1) := by decide +kernel
theorem dX9_telling_1 : decode cX9_telling 1 = .ok (.invokestatic 216, 3) := by decide +kernel
theorem dX9_telling_4 : decode cX9_telling 4 = .ok (.ifCond .eq 27, 3) := by decide +kernel
theorem dX9_telling_7 : decode cX9_telling 7 = .ok (.aload_n 0, 1) := by decide +kernel
theorem dX9_telling_8 : decode cX9_telling 8 = .ok (.iload_n 2, 1) := by decide +kernel
theorem dX9_telling_9 : decode cX9_telling 9 = .ok (.invokevirtual 232, 3) := by decide +kernel
theorem dX9_telling_12 : decode cX9_telling 12 = .ok (.ifCond .eq 19, 3) := by decide +kernel
theorem dX9_telling_15 : decode cX9_telling 15 = .ok (.iload_n 2, 1) := by decide +kernel
theorem dX9_telling_16 : decode cX9_telling 16 = .ok (.ifCond .eq 15, 3) := by decide +kernel
theorem dX9_telling_19 : decode cX9_telling 19 = .ok (.iload_n 3, 1) := by decide +kernel
theorem dX9_telling_20 : decode cX9_telling 20 = .ok (.i2l, 1) := by decide +kernel
theorem dX9_telling_21 : decode cX9_telling 21 = .ok (.lconst 0, 1) := by decide +kernel
theorem dX9_telling_22 : decode cX9_telling 22 = .ok (.ldc2_w 154, 3) := by decide +kernel
theorem dX9_telling_25 : decode cX9_telling 25 = .ok (.invokestatic 60, 3) := by decide +kernel
theorem dX9_telling_28 : decode cX9_telling 28 = .ok (.ifCond .ne 6, 3) := by decide +kernel
theorem dX9_telling_31 : decode cX9_telling 31 = .ok (.ldc 70, 2) := by decide +kernel
theorem dX9_telling_33 : decode cX9_telling 33 = .ok (.ireturn, 1) := by decide +kernel
theorem dX9_telling_34 : decode cX9_telling 34 = .ok (.aload_n 0, 1) := by decide +kernel
theorem dX9_telling_35 : decode cX9_telling 35 = .ok (.getfield 22, 3) := by decide +kernel
theorem dX9_telling_38 : decode cX9_telling 38 = .ok (.bipush 44, 2) := by decide +kernel
theorem dX9_telling_40 : decode cX9_telling 40 = .ok (.iload_n 1, 1) := by decide +kernel
theorem dX9_telling_41 : decode cX9_telling 41 = .ok (.iadd, 1) := by decide +kernel
theorem dX9_telling_42 : decode cX9_telling 42 = .ok (.iaload, 1) := by decide +kernel
theorem dX9_telling_43 : decode cX9_telling 43 = .ok (.ifCond .ne 6, 3) := by decide +kernel
theorem dX9_telling_46 : decode cX9_telling 46 = .ok (.ldc 198, 2) := by decide +kernel
theorem dX9_telling_48 : decode cX9_telling 48 = .ok (.ireturn, 1) := by decide +kernel
theorem dX9_telling_49 : decode cX9_telling 49 = .ok (.aload_n 0, 1) := by decide +kernel
theorem dX9_telling_50 : decode cX9_telling 50 = .ok (.aload_n 0, 1) := by decide +kernel
theorem dX9_telling_51 : decode cX9_telling 51 = .ok (.getfield 22, 3) := by decide +kernel
theorem dX9_telling_54 : decode cX9_telling 54 = .ok (.iload_n 1, 1) := by decide +kernel
theorem dX9_telling_55 : decode cX9_telling 55 = .ok (.iload_n 2, 1) := by decide +kernel
theorem dX9_telling_56 : decode cX9_telling 56 = .ok (.iconst 0, 1) := by decide +kernel
theorem dX9_telling_57 : decode cX9_telling 57 = .ok (.invokevirtual 191, 3) := by decide +kernel
theorem dX9_telling_60 : decode cX9_telling 60 = .ok (.iconst 0, 1) := by decide +kernel
theorem dX9_telling_61 : decode cX9_telling 61 = .ok (.istore 4, 2) := by decide +kernel
theorem dX9_telling_63 : decode cX9_telling 63 = .ok (.iconst 0, 1) := by decide +kernel
theorem dX9_telling_64 : decode cX9_telling 64 = .ok (.istore 5, 2) := by decide +kernel
theorem dX9_telling_66 : decode cX9_telling 66 = .ok (.iload 5, 2) := by decide +kernel
theorem dX9_telling_68 : decode cX9_telling 68 = .ok (.bipush 6, 2) := by decide +kernel
theorem dX9_telling_70 : decode cX9_telling 70 = .ok (.if_icmp .ge 35, 3) := by decide +kernel
theorem dX9_telling_73 : decode cX9_telling 73 = .ok (.aload_n 0, 1) := by decide +kernel
theorem dX9_telling_74 : decode cX9_telling 74 = .ok (.getfield 47, 3) := by decide +kernel
theorem dX9_telling_77 : decode cX9_telling 77 = .ok (.iload 5, 2) := by decide +kernel
theorem dX9_telling_79 : decode cX9_telling 79 = .ok (.iaload, 1) := by decide +kernel
theorem dX9_telling_80 : decode cX9_telling 80 = .ok (.iload 4, 2) := by decide +kernel
theorem dX9_telling_82 : decode cX9_telling 82 = .ok (.if_icmp .le 13, 3) := by decide +kernel
theorem dX9_telling_85 : decode cX9_telling 85 = .ok (.aload_n 0, 1) := by decide +kernel
theorem dX9_telling_86 : decode cX9_telling 86 = .ok (.getfield 47, 3) := by decide +kernel
theorem dX9_telling_89 : decode cX9_telling 89 = .ok (.iload 5, 2) := by decide +kernel
theorem dX9_telling_91 : decode cX9_telling 91 = .ok (.iaload, 1) := by decide +kernel
theorem dX9_telling_92 : decode cX9_telling 92 = .ok (.goto 5, 3) := by decide +kernel
theorem dX9_telling_95 : decode cX9_telling 95 = .ok (.iload 4, 2) := by decide +kernel
theorem dX9_telling_97 : decode cX9_telling 97 = .ok (.istore 4, 2) := by decide +kernel
theorem dX9_telling_99 : decode cX9_telling 99 = .ok (.iinc 5 1, 3) := by decide +kernel
theorem dX9_telling_102 : decode cX9_telling 102 = .ok (.goto (-36), 3) := by decide +kernel
theorem dX9_telling_105 : decode cX9_telling 105 = .ok (.iload_n 3, 1) := by decide +kernel
theorem dX9_telling_106 : decode cX9_telling 106 = .ok (.ifCond .ne 10, 3) := by decide +kernel
theorem dX9_telling_109 : decode cX9_telling 109 = .ok (.aload_n 0, 1) := by decide +kernel
theorem dX9_telling_110 : decode cX9_telling 110 = .ok (.getfield 168, 3) := by decide +kernel
theorem dX9_telling_113 : decode cX9_telling 113 = .ok (.goto 39, 3) := by decide +kernel
theorem dX9_telling_116 : decode cX9_telling 116 = .ok (.iload_n 3, 1) := by decide +kernel
theorem dX9_telling_117 : decode cX9_telling 117 = .ok (.iconst 1, 1) := by decide +kernel
theorem dX9_telling_118 : decode cX9_telling 118 = .ok (.if_icmp .ne 10, 3) := by decide +kernel
theorem dX9_telling_121 : decode cX9_telling 121 = .ok (.aload_n 0, 1) := by decide +kernel
theorem dX9_telling_122 : decode cX9_telling 122 = .ok (.invokevirtual 235, 3) := by decide +kernel
theorem dX9_telling_125 : decode cX9_telling 125 = .ok (.goto 27, 3) := by decide +kernel
theorem dX9_telling_128 : decode cX9_telling 128 = .ok (.iload_n 3, 1) := by decide +kernel
theorem dX9_telling_129 : decode cX9_telling 129 = .ok (.iconst 2, 1) := by decide +kernel
theorem dX9_telling_130 : decode cX9_telling 130 = .ok (.if_icmp .ne 8, 3) := by decide +kernel
theorem dX9_telling_133 : decode cX9_telling 133 = .ok (.iload 4, 2) := by decide +kernel
theorem dX9_telling_135 : decode cX9_telling 135 = .ok (.goto 17, 3) := by decide +kernel
theorem dX9_telling_138 : decode cX9_telling 138 = .ok (.aload_n 0, 1) := by decide +kernel
theorem dX9_telling_139 : decode cX9_telling 139 = .ok (.getfield 22, 3) := by decide +kernel
theorem dX9_telling_142 : decode cX9_telling 142 = .ok (.iconst 2, 1) := by decide +kernel
theorem dX9_telling_143 : decode cX9_telling 143 = .ok (.iaload, 1) := by decide +kernel
theorem dX9_telling_144 : decode cX9_telling 144 = .ok (.aload_n 0, 1) := by decide +kernel
theorem dX9_telling_145 : decode cX9_telling 145 = .ok (.invokevirtual 235, 3) := by decide +kernel
theorem dX9_telling_148 : decode cX9_telling 148 = .ok (.invokestatic 239, 3) := by decide +kernel
theorem dX9_telling_151 : decode cX9_telling 151 = .ok (.imul, 1) := by decide +kernel
theorem dX9_telling_152 : decode cX9_telling 152 = .ok (.ireturn, 1) := by decide +kernel
theorem dX9_fewest_0 : decode cX9_fewest 0 = .ok (.iload_n 1, 1) := by decide +kernel
theorem dX9_fewest_1 : decode cX9_fewest 1 = .ok (.invokestatic 216, 3) := by decide +kernel
theorem dX9_fewest_4 : decode cX9_fewest 4 = .ok (.ifCond .eq 33, 3) := by decide +kernel
theorem dX9_fewest_7 : decode cX9_fewest 7 = .ok (.aload_n 0, 1) := by decide +kernel
theorem dX9_fewest_8 : decode cX9_fewest 8 = .ok (.iload_n 2, 1) := by decide +kernel
theorem dX9_fewest_9 : decode cX9_fewest 9 = .ok (.invokevirtual 232, 3) := by decide +kernel
theorem dX9_fewest_12 : decode cX9_fewest 12 = .ok (.ifCond .eq 25, 3) := by decide +kernel
theorem dX9_fewest_15 : decode cX9_fewest 15 = .ok (.aload_n 0, 1) := by decide +kernel
theorem dX9_fewest_16 : decode cX9_fewest 16 = .ok (.iload_n 3, 1) := by decide +kernel
theorem dX9_fewest_17 : decode cX9_fewest 17 = .ok (.invokevirtual 232, 3) := by decide +kernel
theorem dX9_fewest_20 : decode cX9_fewest 20 = .ok (.ifCond .eq 17, 3) := by decide +kernel
theorem dX9_fewest_23 : decode cX9_fewest 23 = .ok (.iload_n 2, 1) := by decide +kernel
theorem dX9_fewest_24 : decode cX9_fewest 24 = .ok (.iload_n 3, 1) := by decide +kernel
theorem dX9_fewest_25 : decode cX9_fewest 25 = .ok (.iand, 1) := by decide +kernel
theorem dX9_fewest_26 : decode cX9_fewest 26 = .ok (.ifCond .ne 11, 3) := by decide +kernel
theorem dX9_fewest_29 : decode cX9_fewest 29 = .ok (.iload 4, 2) := by decide +kernel
theorem dX9_fewest_31 : decode cX9_fewest 31 = .ok (.invokestatic 242, 3) := by decide +kernel
theorem dX9_fewest_34 : decode cX9_fewest 34 = .ok (.ifCond .ne 6, 3) := by decide +kernel
end
section
theorem dX9_fewest_37 : decode cX9_fewest 37 = .ok (.ldc 70, 2) := by decide +kernel
theorem dX9_fewest_39 : decode cX9_fewest 39 = .ok (.ireturn, 1) := by decide +kernel
theorem dX9_fewest_40 : decode cX9_fewest 40 = .ok (.aload_n 0, 1) := by decide +kernel
theorem dX9_fewest_41 : decode cX9_fewest 41 = .ok (.getfield 22, 3) := by decide +kernel
theorem dX9_fewest_44 : decode cX9_fewest 44 = .ok (.bipush 44, 2) := by decide +kernel
theorem dX9_fewest_46 : decode cX9_fewest 46 = .ok (.iload_n 1, 1) := by decide +kernel
theorem dX9_fewest_47 : decode cX9_fewest 47 = .ok (.iadd, 1) := by decide +kernel
theorem dX9_fewest_48 : decode cX9_fewest 48 = .ok (.iaload, 1) := by decide +kernel
theorem dX9_fewest_49 : decode cX9_fewest 49 = .ok (.ifCond .ne 6, 3) := by decide +kernel
theorem dX9_fewest_52 : decode cX9_fewest 52 = .ok (.ldc 198, 2) := by decide +kernel
theorem dX9_fewest_54 : decode cX9_fewest 54 = .ok (.ireturn, 1) := by decide +kernel
theorem dX9_fewest_55 : decode cX9_fewest 55 = .ok (.iload_n 2, 1) := by decide +kernel
theorem dX9_fewest_56 : decode cX9_fewest 56 = .ok (.ifCond .ne 7, 3) := by decide +kernel
theorem dX9_fewest_59 : decode cX9_fewest 59 = .ok (.iconst 0, 1) := by decide +kernel
theorem dX9_fewest_60 : decode cX9_fewest 60 = .ok (.goto 5, 3) := by decide +kernel
theorem dX9_fewest_63 : decode cX9_fewest 63 = .ok (.ldc 231, 2) := by decide +kernel
theorem dX9_fewest_65 : decode cX9_fewest 65 = .ok (.istore 5, 2) := by decide +kernel
theorem dX9_fewest_67 : decode cX9_fewest 67 = .ok (.iconst 1, 1) := by decide +kernel
theorem dX9_fewest_68 : decode cX9_fewest 68 = .ok (.istore 6, 2) := by decide +kernel
theorem dX9_fewest_70 : decode cX9_fewest 70 = .ok (.aload_n 0, 1) := by decide +kernel
theorem dX9_fewest_71 : decode cX9_fewest 71 = .ok (.iload 6, 2) := by decide +kernel
theorem dX9_fewest_73 : decode cX9_fewest 73 = .ok (.invokevirtual 232, 3) := by decide +kernel
theorem dX9_fewest_76 : decode cX9_fewest 76 = .ok (.ifCond .eq 73, 3) := by decide +kernel
theorem dX9_fewest_79 : decode cX9_fewest 79 = .ok (.iload_n 2, 1) := by decide +kernel
theorem dX9_fewest_80 : decode cX9_fewest 80 = .ok (.ifCond .eq 69, 3) := by decide +kernel
theorem dX9_fewest_83 : decode cX9_fewest 83 = .ok (.iload 5, 2) := by decide +kernel
theorem dX9_fewest_85 : decode cX9_fewest 85 = .ok (.ldc 231, 2) := by decide +kernel
theorem dX9_fewest_87 : decode cX9_fewest 87 = .ok (.if_icmp .eq 16, 3) := by decide +kernel
theorem dX9_fewest_90 : decode cX9_fewest 90 = .ok (.iload 6, 2) := by decide +kernel
theorem dX9_fewest_92 : decode cX9_fewest 92 = .ok (.invokestatic 239, 3) := by decide +kernel
theorem dX9_fewest_95 : decode cX9_fewest 95 = .ok (.iload 5, 2) := by decide +kernel
theorem dX9_fewest_97 : decode cX9_fewest 97 = .ok (.invokestatic 239, 3) := by decide +kernel
theorem dX9_fewest_100 : decode cX9_fewest 100 = .ok (.if_icmp .ge 43, 3) := by decide +kernel
theorem dX9_fewest_103 : decode cX9_fewest 103 = .ok (.aload_n 0, 1) := by decide +kernel
theorem dX9_fewest_104 : decode cX9_fewest 104 = .ok (.aload_n 0, 1) := by decide +kernel
theorem dX9_fewest_105 : decode cX9_fewest 105 = .ok (.getfield 22, 3) := by decide +kernel
theorem dX9_fewest_108 : decode cX9_fewest 108 = .ok (.iload_n 1, 1) := by decide +kernel
theorem dX9_fewest_109 : decode cX9_fewest 109 = .ok (.iload 6, 2) := by decide +kernel
theorem dX9_fewest_111 : decode cX9_fewest 111 = .ok (.iconst 0, 1) := by decide +kernel
theorem dX9_fewest_112 : decode cX9_fewest 112 = .ok (.invokevirtual 191, 3) := by decide +kernel
theorem dX9_fewest_115 : decode cX9_fewest 115 = .ok (.aload_n 0, 1) := by decide +kernel
theorem dX9_fewest_116 : decode cX9_fewest 116 = .ok (.getfield 168, 3) := by decide +kernel
theorem dX9_fewest_119 : decode cX9_fewest 119 = .ok (.iload_n 2, 1) := by decide +kernel
theorem dX9_fewest_120 : decode cX9_fewest 120 = .ok (.iand, 1) := by decide +kernel
theorem dX9_fewest_121 : decode cX9_fewest 121 = .ok (.iload_n 2, 1) := by decide +kernel
theorem dX9_fewest_122 : decode cX9_fewest 122 = .ok (.if_icmp .ne 17, 3) := by decide +kernel
theorem dX9_fewest_125 : decode cX9_fewest 125 = .ok (.aload_n 0, 1) := by decide +kernel
theorem dX9_fewest_126 : decode cX9_fewest 126 = .ok (.getfield 168, 3) := by decide +kernel
theorem dX9_fewest_129 : decode cX9_fewest 129 = .ok (.iload_n 3, 1) := by decide +kernel
theorem dX9_fewest_130 : decode cX9_fewest 130 = .ok (.iand, 1) := by decide +kernel
theorem dX9_fewest_131 : decode cX9_fewest 131 = .ok (.ifCond .ne 8, 3) := by decide +kernel
theorem dX9_fewest_134 : decode cX9_fewest 134 = .ok (.iload 6, 2) := by decide +kernel
theorem dX9_fewest_136 : decode cX9_fewest 136 = .ok (.goto 5, 3) := by decide +kernel
theorem dX9_fewest_139 : decode cX9_fewest 139 = .ok (.iload 5, 2) := by decide +kernel
theorem dX9_fewest_141 : decode cX9_fewest 141 = .ok (.istore 5, 2) := by decide +kernel
theorem dX9_fewest_143 : decode cX9_fewest 143 = .ok (.iinc 6 1, 3) := by decide +kernel
theorem dX9_fewest_146 : decode cX9_fewest 146 = .ok (.goto (-76), 3) := by decide +kernel
theorem dX9_fewest_149 : decode cX9_fewest 149 = .ok (.iload 5, 2) := by decide +kernel
theorem dX9_fewest_151 : decode cX9_fewest 151 = .ok (.ldc 231, 2) := by decide +kernel
theorem dX9_fewest_153 : decode cX9_fewest 153 = .ok (.if_icmp .eq 9, 3) := by decide +kernel
theorem dX9_fewest_156 : decode cX9_fewest 156 = .ok (.iload 4, 2) := by decide +kernel
theorem dX9_fewest_158 : decode cX9_fewest 158 = .ok (.iconst 1, 1) := by decide +kernel
theorem dX9_fewest_159 : decode cX9_fewest 159 = .ok (.if_icmp .ne 8, 3) := by decide +kernel
theorem dX9_fewest_162 : decode cX9_fewest 162 = .ok (.iload 5, 2) := by decide +kernel
theorem dX9_fewest_164 : decode cX9_fewest 164 = .ok (.goto 8, 3) := by decide +kernel
theorem dX9_fewest_167 : decode cX9_fewest 167 = .ok (.iload 5, 2) := by decide +kernel
theorem dX9_fewest_169 : decode cX9_fewest 169 = .ok (.invokestatic 239, 3) := by decide +kernel
theorem dX9_fewest_172 : decode cX9_fewest 172 = .ok (.ireturn, 1) := by decide +kernel
theorem dX9_silence_0 : decode cX9_silence 0 = .ok (.iload_n 1, 1) := by decide +kernel
theorem dX9_silence_1 : decode cX9_silence 1 = .ok (.invokestatic 216, 3) := by decide +kernel
theorem dX9_silence_4 : decode cX9_silence 4 = .ok (.ifCond .eq 32, 3) := by decide +kernel
theorem dX9_silence_7 : decode cX9_silence 7 = .ok (.aload_n 0, 1) := by decide +kernel
theorem dX9_silence_8 : decode cX9_silence 8 = .ok (.iload_n 2, 1) := by decide +kernel
theorem dX9_silence_9 : decode cX9_silence 9 = .ok (.invokevirtual 199, 3) := by decide +kernel
theorem dX9_silence_12 : decode cX9_silence 12 = .ok (.ifCond .eq 24, 3) := by decide +kernel
theorem dX9_silence_15 : decode cX9_silence 15 = .ok (.aload_n 0, 1) := by decide +kernel
theorem dX9_silence_16 : decode cX9_silence 16 = .ok (.iload_n 3, 1) := by decide +kernel
theorem dX9_silence_17 : decode cX9_silence 17 = .ok (.invokevirtual 199, 3) := by decide +kernel
theorem dX9_silence_20 : decode cX9_silence 20 = .ok (.ifCond .eq 16, 3) := by decide +kernel
theorem dX9_silence_23 : decode cX9_silence 23 = .ok (.iload_n 2, 1) := by decide +kernel
theorem dX9_silence_24 : decode cX9_silence 24 = .ok (.iload_n 3, 1) := by decide +kernel
theorem dX9_silence_25 : decode cX9_silence 25 = .ok (.if_icmp .eq 11, 3) := by decide +kernel
theorem dX9_silence_28 : decode cX9_silence 28 = .ok (.iload 4, 2) := by decide +kernel
theorem dX9_silence_30 : decode cX9_silence 30 = .ok (.invokestatic 242, 3) := by decide +kernel
theorem dX9_silence_33 : decode cX9_silence 33 = .ok (.ifCond .ne 6, 3) := by decide +kernel
theorem dX9_silence_36 : decode cX9_silence 36 = .ok (.ldc 70, 2) := by decide +kernel
theorem dX9_silence_38 : decode cX9_silence 38 = .ok (.ireturn, 1) := by decide +kernel
theorem dX9_silence_39 : decode cX9_silence 39 = .ok (.aload_n 0, 1) := by decide +kernel
theorem dX9_silence_40 : decode cX9_silence 40 = .ok (.getfield 22, 3) := by decide +kernel
theorem dX9_silence_43 : decode cX9_silence 43 = .ok (.bipush 44, 2) := by decide +kernel
theorem dX9_silence_45 : decode cX9_silence 45 = .ok (.iload_n 1, 1) := by decide +kernel
theorem dX9_silence_46 : decode cX9_silence 46 = .ok (.iadd, 1) := by decide +kernel
theorem dX9_silence_47 : decode cX9_silence 47 = .ok (.iaload, 1) := by decide +kernel
theorem dX9_silence_48 : decode cX9_silence 48 = .ok (.ifCond .ne 6, 3) := by decide +kernel
theorem dX9_silence_51 : decode cX9_silence 51 = .ok (.ldc 198, 2) := by decide +kernel
theorem dX9_silence_53 : decode cX9_silence 53 = .ok (.ireturn, 1) := by decide +kernel
theorem dX9_silence_54 : decode cX9_silence 54 = .ok (.ldc 231, 2) := by decide +kernel
theorem dX9_silence_56 : decode cX9_silence 56 = .ok (.istore 5, 2) := by decide +kernel
theorem dX9_silence_58 : decode cX9_silence 58 = .ok (.iconst 0, 1) := by decide +kernel
theorem dX9_silence_59 : decode cX9_silence 59 = .ok (.istore 6, 2) := by decide +kernel
theorem dX9_silence_61 : decode cX9_silence 61 = .ok (.iload 6, 2) := by decide +kernel
theorem dX9_silence_63 : decode cX9_silence 63 = .ok (.iconst 1, 1) := by decide +kernel
theorem dX9_silence_64 : decode cX9_silence 64 = .ok (.aload_n 0, 1) := by decide +kernel
theorem dX9_silence_65 : decode cX9_silence 65 = .ok (.getfield 22, 3) := by decide +kernel
theorem dX9_silence_68 : decode cX9_silence 68 = .ok (.iconst 4, 1) := by decide +kernel
theorem dX9_silence_69 : decode cX9_silence 69 = .ok (.iaload, 1) := by decide +kernel
theorem dX9_silence_70 : decode cX9_silence 70 = .ok (.ishl, 1) := by decide +kernel
theorem dX9_silence_71 : decode cX9_silence 71 = .ok (.if_icmp .ge 61, 3) := by decide +kernel
theorem dX9_silence_74 : decode cX9_silence 74 = .ok (.iload 5, 2) := by decide +kernel
theorem dX9_silence_76 : decode cX9_silence 76 = .ok (.ldc 231, 2) := by decide +kernel
theorem dX9_silence_78 : decode cX9_silence 78 = .ok (.if_icmp .eq 16, 3) := by decide +kernel
theorem dX9_silence_81 : decode cX9_silence 81 = .ok (.iload 6, 2) := by decide +kernel
theorem dX9_silence_83 : decode cX9_silence 83 = .ok (.invokestatic 239, 3) := by decide +kernel
theorem dX9_silence_86 : decode cX9_silence 86 = .ok (.iload 5, 2) := by decide +kernel
theorem dX9_silence_88 : decode cX9_silence 88 = .ok (.invokestatic 239, 3) := by decide +kernel
theorem dX9_silence_91 : decode cX9_silence 91 = .ok (.if_icmp .ge 35, 3) := by decide +kernel
theorem dX9_silence_94 : decode cX9_silence 94 = .ok (.aload_n 0, 1) := by decide +kernel
theorem dX9_silence_95 : decode cX9_silence 95 = .ok (.aload_n 0, 1) := by decide +kernel
theorem dX9_silence_96 : decode cX9_silence 96 = .ok (.getfield 22, 3) := by decide +kernel
theorem dX9_silence_99 : decode cX9_silence 99 = .ok (.iload_n 1, 1) := by decide +kernel
theorem dX9_silence_100 : decode cX9_silence 100 = .ok (.iconst 1, 1) := by decide +kernel
theorem dX9_silence_101 : decode cX9_silence 101 = .ok (.iload_n 2, 1) := by decide +kernel
theorem dX9_silence_102 : decode cX9_silence 102 = .ok (.ishl, 1) := by decide +kernel
theorem dX9_silence_103 : decode cX9_silence 103 = .ok (.iload 6, 2) := by decide +kernel
theorem dX9_silence_105 : decode cX9_silence 105 = .ok (.invokevirtual 191, 3) := by decide +kernel
theorem dX9_silence_108 : decode cX9_silence 108 = .ok (.aload_n 0, 1) := by decide +kernel
theorem dX9_silence_109 : decode cX9_silence 109 = .ok (.getfield 47, 3) := by decide +kernel
theorem dX9_silence_112 : decode cX9_silence 112 = .ok (.iload_n 3, 1) := by decide +kernel
theorem dX9_silence_113 : decode cX9_silence 113 = .ok (.iaload, 1) := by decide +kernel
theorem dX9_silence_114 : decode cX9_silence 114 = .ok (.ifCond .ge 8, 3) := by decide +kernel
theorem dX9_silence_117 : decode cX9_silence 117 = .ok (.iload 6, 2) := by decide +kernel
theorem dX9_silence_119 : decode cX9_silence 119 = .ok (.goto 5, 3) := by decide +kernel
theorem dX9_silence_122 : decode cX9_silence 122 = .ok (.iload 5, 2) := by decide +kernel
theorem dX9_silence_124 : decode cX9_silence 124 = .ok (.istore 5, 2) := by decide +kernel
theorem dX9_silence_126 : decode cX9_silence 126 = .ok (.iinc 6 1, 3) := by decide +kernel
theorem dX9_silence_129 : decode cX9_silence 129 = .ok (.goto (-68), 3) := by decide +kernel
theorem dX9_silence_132 : decode cX9_silence 132 = .ok (.iload 5, 2) := by decide +kernel
theorem dX9_silence_134 : decode cX9_silence 134 = .ok (.ldc 231, 2) := by decide +kernel
theorem dX9_silence_136 : decode cX9_silence 136 = .ok (.if_icmp .eq 9, 3) := by decide +kernel
theorem dX9_silence_139 : decode cX9_silence 139 = .ok (.iload 4, 2) := by decide +kernel
theorem dX9_silence_141 : decode cX9_silence 141 = .ok (.iconst 1, 1) := by decide +kernel
theorem dX9_silence_142 : decode cX9_silence 142 = .ok (.if_icmp .ne 8, 3) := by decide +kernel
theorem dX9_silence_145 : decode cX9_silence 145 = .ok (.iload 5, 2) := by decide +kernel
theorem dX9_silence_147 : decode cX9_silence 147 = .ok (.goto 8, 3) := by decide +kernel
theorem dX9_silence_150 : decode cX9_silence 150 = .ok (.iload 5, 2) := by decide +kernel
theorem dX9_silence_152 : decode cX9_silence 152 = .ok (.invokestatic 239, 3) := by decide +kernel
theorem dX9_silence_155 : decode cX9_silence 155 = .ok (.ireturn, 1) := by decide +kernel
theorem dX9_twos_0 : decode cX9_twos 0 = .ok (.iload_n 1, 1) := by decide +kernel
theorem dX9_twos_1 : decode cX9_twos 1 = .ok (.invokestatic 216, 3) := by decide +kernel
theorem dX9_twos_4 : decode cX9_twos 4 = .ok (.ifCond .eq 23, 3) := by decide +kernel
theorem dX9_twos_7 : decode cX9_twos 7 = .ok (.iload_n 2, 1) := by decide +kernel
theorem dX9_twos_8 : decode cX9_twos 8 = .ok (.invokestatic 64, 3) := by decide +kernel
theorem dX9_twos_11 : decode cX9_twos 11 = .ok (.ifCond .eq 16, 3) := by decide +kernel
theorem dX9_twos_14 : decode cX9_twos 14 = .ok (.iload 4, 2) := by decide +kernel
theorem dX9_twos_16 : decode cX9_twos 16 = .ok (.i2l, 1) := by decide +kernel
theorem dX9_twos_17 : decode cX9_twos 17 = .ok (.lconst 1, 1) := by decide +kernel
theorem dX9_twos_18 : decode cX9_twos 18 = .ok (.ldc2_w 245, 3) := by decide +kernel
theorem dX9_twos_21 : decode cX9_twos 21 = .ok (.invokestatic 60, 3) := by decide +kernel
theorem dX9_twos_24 : decode cX9_twos 24 = .ok (.ifCond .ne 6, 3) := by decide +kernel
theorem dX9_twos_27 : decode cX9_twos 27 = .ok (.ldc 70, 2) := by decide +kernel
theorem dX9_twos_29 : decode cX9_twos 29 = .ok (.ireturn, 1) := by decide +kernel
theorem dX9_twos_30 : decode cX9_twos 30 = .ok (.aload_n 0, 1) := by decide +kernel
theorem dX9_twos_31 : decode cX9_twos 31 = .ok (.getfield 22, 3) := by decide +kernel
theorem dX9_twos_34 : decode cX9_twos 34 = .ok (.bipush 44, 2) := by decide +kernel
theorem dX9_twos_36 : decode cX9_twos 36 = .ok (.iload_n 1, 1) := by decide +kernel
theorem dX9_twos_37 : decode cX9_twos 37 = .ok (.iadd, 1) := by decide +kernel
theorem dX9_twos_38 : decode cX9_twos 38 = .ok (.iaload, 1) := by decide +kernel
theorem dX9_twos_39 : decode cX9_twos 39 = .ok (.ifCond .ne 6, 3) := by decide +kernel
theorem dX9_twos_42 : decode cX9_twos 42 = .ok (.ldc 198, 2) := by decide +kernel
theorem dX9_twos_44 : decode cX9_twos 44 = .ok (.ireturn, 1) := by decide +kernel
theorem dX9_twos_45 : decode cX9_twos 45 = .ok (.aload_n 0, 1) := by decide +kernel
theorem dX9_twos_46 : decode cX9_twos 46 = .ok (.getfield 13, 3) := by decide +kernel
theorem dX9_twos_49 : decode cX9_twos 49 = .ok (.iload_n 2, 1) := by decide +kernel
theorem dX9_twos_50 : decode cX9_twos 50 = .ok (.iaload, 1) := by decide +kernel
theorem dX9_twos_51 : decode cX9_twos 51 = .ok (.ifCond .ge 9, 3) := by decide +kernel
theorem dX9_twos_54 : decode cX9_twos 54 = .ok (.aload_n 0, 1) := by decide +kernel
theorem dX9_twos_55 : decode cX9_twos 55 = .ok (.iconst 1, 1) := by decide +kernel
theorem dX9_twos_56 : decode cX9_twos 56 = .ok (.invokevirtual 71, 3) := by decide +kernel
theorem dX9_twos_59 : decode cX9_twos 59 = .ok (.ireturn, 1) := by decide +kernel
theorem dX9_twos_60 : decode cX9_twos 60 = .ok (.iload_n 3, 1) := by decide +kernel
theorem dX9_twos_61 : decode cX9_twos 61 = .ok (.ifCond .lt 22, 3) := by decide +kernel
theorem dX9_twos_64 : decode cX9_twos 64 = .ok (.iload_n 3, 1) := by decide +kernel
theorem dX9_twos_65 : decode cX9_twos 65 = .ok (.i2l, 1) := by decide +kernel
theorem dX9_twos_66 : decode cX9_twos 66 = .ok (.iconst 2, 1) := by decide +kernel
theorem dX9_twos_67 : decode cX9_twos 67 = .ok (.iload 4, 2) := by decide +kernel
theorem dX9_twos_69 : decode cX9_twos 69 = .ok (.imul, 1) := by decide +kernel
theorem dX9_twos_70 : decode cX9_twos 70 = .ok (.i2l, 1) := by decide +kernel
theorem dX9_twos_71 : decode cX9_twos 71 = .ok (.ladd, 1) := by decide +kernel
theorem dX9_twos_72 : decode cX9_twos 72 = .ok (.aload_n 0, 1) := by decide +kernel
theorem dX9_twos_73 : decode cX9_twos 73 = .ok (.getfield 13, 3) := by decide +kernel
theorem dX9_twos_76 : decode cX9_twos 76 = .ok (.iload_n 2, 1) := by decide +kernel
theorem dX9_twos_77 : decode cX9_twos 77 = .ok (.iaload, 1) := by decide +kernel
theorem dX9_twos_78 : decode cX9_twos 78 = .ok (.i2l, 1) := by decide +kernel
theorem dX9_twos_79 : decode cX9_twos 79 = .ok (.lcmp, 1) := by decide +kernel
theorem dX9_twos_80 : decode cX9_twos 80 = .ok (.ifCond .le 9, 3) := by decide +kernel
theorem dX9_twos_83 : decode cX9_twos 83 = .ok (.aload_n 0, 1) := by decide +kernel
theorem dX9_twos_84 : decode cX9_twos 84 = .ok (.iconst 2, 1) := by decide +kernel
theorem dX9_twos_85 : decode cX9_twos 85 = .ok (.invokevirtual 71, 3) := by decide +kernel
theorem dX9_twos_88 : decode cX9_twos 88 = .ok (.ireturn, 1) := by decide +kernel
theorem dX9_twos_89 : decode cX9_twos 89 = .ok (.iconst 1, 1) := by decide +kernel
theorem dX9_twos_90 : decode cX9_twos 90 = .ok (.istore 5, 2) := by decide +kernel
theorem dX9_twos_92 : decode cX9_twos 92 = .ok (.iconst 0, 1) := by decide +kernel
theorem dX9_twos_93 : decode cX9_twos 93 = .ok (.istore 6, 2) := by decide +kernel
theorem dX9_twos_95 : decode cX9_twos 95 = .ok (.iload 6, 2) := by decide +kernel
theorem dX9_twos_97 : decode cX9_twos 97 = .ok (.iload 4, 2) := by decide +kernel
theorem dX9_twos_99 : decode cX9_twos 99 = .ok (.if_icmp .ge 44, 3) := by decide +kernel
theorem dX9_twos_102 : decode cX9_twos 102 = .ok (.iload 5, 2) := by decide +kernel
theorem dX9_twos_104 : decode cX9_twos 104 = .ok (.ifCond .eq 30, 3) := by decide +kernel
theorem dX9_twos_107 : decode cX9_twos 107 = .ok (.aload_n 0, 1) := by decide +kernel
theorem dX9_twos_108 : decode cX9_twos 108 = .ok (.aload_n 0, 1) := by decide +kernel
theorem dX9_twos_109 : decode cX9_twos 109 = .ok (.getfield 16, 3) := by decide +kernel
theorem dX9_twos_112 : decode cX9_twos 112 = .ok (.bipush 40, 2) := by decide +kernel
theorem dX9_twos_114 : decode cX9_twos 114 = .ok (.iload_n 2, 1) := by decide +kernel
theorem dX9_twos_115 : decode cX9_twos 115 = .ok (.imul, 1) := by decide +kernel
theorem dX9_twos_116 : decode cX9_twos 116 = .ok (.iload_n 3, 1) := by decide +kernel
theorem dX9_twos_117 : decode cX9_twos 117 = .ok (.iadd, 1) := by decide +kernel
theorem dX9_twos_118 : decode cX9_twos 118 = .ok (.iconst 2, 1) := by decide +kernel
theorem dX9_twos_119 : decode cX9_twos 119 = .ok (.iload 6, 2) := by decide +kernel
theorem dX9_twos_121 : decode cX9_twos 121 = .ok (.imul, 1) := by decide +kernel
theorem dX9_twos_122 : decode cX9_twos 122 = .ok (.iadd, 1) := by decide +kernel
theorem dX9_twos_123 : decode cX9_twos 123 = .ok (.iaload, 1) := by decide +kernel
theorem dX9_twos_124 : decode cX9_twos 124 = .ok (.invokevirtual 199, 3) := by decide +kernel
theorem dX9_twos_127 : decode cX9_twos 127 = .ok (.ifCond .eq 7, 3) := by decide +kernel
theorem dX9_twos_130 : decode cX9_twos 130 = .ok (.iconst 1, 1) := by decide +kernel
theorem dX9_twos_131 : decode cX9_twos 131 = .ok (.goto 4, 3) := by decide +kernel
theorem dX9_twos_134 : decode cX9_twos 134 = .ok (.iconst 0, 1) := by decide +kernel
theorem dX9_twos_135 : decode cX9_twos 135 = .ok (.istore 5, 2) := by decide +kernel
theorem dX9_twos_137 : decode cX9_twos 137 = .ok (.iinc 6 1, 3) := by decide +kernel
theorem dX9_twos_140 : decode cX9_twos 140 = .ok (.goto (-45), 3) := by decide +kernel
theorem dX9_twos_143 : decode cX9_twos 143 = .ok (.iload 5, 2) := by decide +kernel
theorem dX9_twos_145 : decode cX9_twos 145 = .ok (.ifCond .eq 7, 3) := by decide +kernel
theorem dX9_twos_148 : decode cX9_twos 148 = .ok (.iconst 0, 1) := by decide +kernel
theorem dX9_twos_149 : decode cX9_twos 149 = .ok (.goto 5, 3) := by decide +kernel
theorem dX9_twos_152 : decode cX9_twos 152 = .ok (.ldc 70, 2) := by decide +kernel
theorem dX9_twos_154 : decode cX9_twos 154 = .ok (.ireturn, 1) := by decide +kernel
theorem dX9_comesSo_0 : decode cX9_comesSo 0 = .ok (.iconst 1, 1) := by decide +kernel
theorem dX9_comesSo_1 : decode cX9_comesSo 1 = .ok (.istore 4, 2) := by decide +kernel
theorem dX9_comesSo_3 : decode cX9_comesSo 3 = .ok (.iconst 0, 1) := by decide +kernel
theorem dX9_comesSo_4 : decode cX9_comesSo 4 = .ok (.istore 5, 2) := by decide +kernel
theorem dX9_comesSo_6 : decode cX9_comesSo 6 = .ok (.iload 5, 2) := by decide +kernel
theorem dX9_comesSo_8 : decode cX9_comesSo 8 = .ok (.iload_n 3, 1) := by decide +kernel
theorem dX9_comesSo_9 : decode cX9_comesSo 9 = .ok (.if_icmp .ge 64, 3) := by decide +kernel
theorem dX9_comesSo_12 : decode cX9_comesSo 12 = .ok (.iload 4, 2) := by decide +kernel
theorem dX9_comesSo_14 : decode cX9_comesSo 14 = .ok (.ifCond .eq 59, 3) := by decide +kernel
theorem dX9_comesSo_17 : decode cX9_comesSo 17 = .ok (.aload_n 0, 1) := by decide +kernel
theorem dX9_comesSo_18 : decode cX9_comesSo 18 = .ok (.aload_n 0, 1) := by decide +kernel
theorem dX9_comesSo_19 : decode cX9_comesSo 19 = .ok (.getfield 50, 3) := by decide +kernel
theorem dX9_comesSo_22 : decode cX9_comesSo 22 = .ok (.iload_n 1, 1) := by decide +kernel
theorem dX9_comesSo_23 : decode cX9_comesSo 23 = .ok (.iconst 1, 1) := by decide +kernel
theorem dX9_comesSo_24 : decode cX9_comesSo 24 = .ok (.aload_n 0, 1) := by decide +kernel
theorem dX9_comesSo_25 : decode cX9_comesSo 25 = .ok (.getfield 16, 3) := by decide +kernel
theorem dX9_comesSo_28 : decode cX9_comesSo 28 = .ok (.iload_n 2, 1) := by decide +kernel
theorem dX9_comesSo_29 : decode cX9_comesSo 29 = .ok (.iconst 2, 1) := by decide +kernel
theorem dX9_comesSo_30 : decode cX9_comesSo 30 = .ok (.iload 5, 2) := by decide +kernel
theorem dX9_comesSo_32 : decode cX9_comesSo 32 = .ok (.imul, 1) := by decide +kernel
theorem dX9_comesSo_33 : decode cX9_comesSo 33 = .ok (.iadd, 1) := by decide +kernel
theorem dX9_comesSo_34 : decode cX9_comesSo 34 = .ok (.iaload, 1) := by decide +kernel
theorem dX9_comesSo_35 : decode cX9_comesSo 35 = .ok (.ishl, 1) := by decide +kernel
theorem dX9_comesSo_36 : decode cX9_comesSo 36 = .ok (.iconst 0, 1) := by decide +kernel
theorem dX9_comesSo_37 : decode cX9_comesSo 37 = .ok (.invokevirtual 191, 3) := by decide +kernel
theorem dX9_comesSo_40 : decode cX9_comesSo 40 = .ok (.aload_n 0, 1) := by decide +kernel
theorem dX9_comesSo_41 : decode cX9_comesSo 41 = .ok (.getfield 168, 3) := by decide +kernel
theorem dX9_comesSo_44 : decode cX9_comesSo 44 = .ok (.aload_n 0, 1) := by decide +kernel
theorem dX9_comesSo_45 : decode cX9_comesSo 45 = .ok (.getfield 16, 3) := by decide +kernel
theorem dX9_comesSo_48 : decode cX9_comesSo 48 = .ok (.iload_n 2, 1) := by decide +kernel
theorem dX9_comesSo_49 : decode cX9_comesSo 49 = .ok (.iconst 2, 1) := by decide +kernel
theorem dX9_comesSo_50 : decode cX9_comesSo 50 = .ok (.iload 5, 2) := by decide +kernel
theorem dX9_comesSo_52 : decode cX9_comesSo 52 = .ok (.imul, 1) := by decide +kernel
theorem dX9_comesSo_53 : decode cX9_comesSo 53 = .ok (.iadd, 1) := by decide +kernel
theorem dX9_comesSo_54 : decode cX9_comesSo 54 = .ok (.iconst 1, 1) := by decide +kernel
theorem dX9_comesSo_55 : decode cX9_comesSo 55 = .ok (.iadd, 1) := by decide +kernel
theorem dX9_comesSo_56 : decode cX9_comesSo 56 = .ok (.iaload, 1) := by decide +kernel
theorem dX9_comesSo_57 : decode cX9_comesSo 57 = .ok (.if_icmp .ne 7, 3) := by decide +kernel
theorem dX9_comesSo_60 : decode cX9_comesSo 60 = .ok (.iconst 1, 1) := by decide +kernel
theorem dX9_comesSo_61 : decode cX9_comesSo 61 = .ok (.goto 4, 3) := by decide +kernel
theorem dX9_comesSo_64 : decode cX9_comesSo 64 = .ok (.iconst 0, 1) := by decide +kernel
theorem dX9_comesSo_65 : decode cX9_comesSo 65 = .ok (.istore 4, 2) := by decide +kernel
theorem dX9_comesSo_67 : decode cX9_comesSo 67 = .ok (.iinc 5 1, 3) := by decide +kernel
theorem dX9_comesSo_70 : decode cX9_comesSo 70 = .ok (.goto (-64), 3) := by decide +kernel
theorem dX9_comesSo_73 : decode cX9_comesSo 73 = .ok (.iload 4, 2) := by decide +kernel
theorem dX9_comesSo_75 : decode cX9_comesSo 75 = .ok (.ireturn, 1) := by decide +kernel
theorem dX9_malts_0 : decode cX9_malts 0 = .ok (.aload_n 0, 1) := by decide +kernel
theorem dX9_malts_1 : decode cX9_malts 1 = .ok (.iload_n 1, 1) := by decide +kernel
theorem dX9_malts_2 : decode cX9_malts 2 = .ok (.iload_n 2, 1) := by decide +kernel
theorem dX9_malts_3 : decode cX9_malts 3 = .ok (.iload_n 3, 1) := by decide +kernel
theorem dX9_malts_4 : decode cX9_malts 4 = .ok (.iload 4, 2) := by decide +kernel
theorem dX9_malts_6 : decode cX9_malts 6 = .ok (.invokevirtual 247, 3) := by decide +kernel
theorem dX9_malts_9 : decode cX9_malts 9 = .ok (.istore 5, 2) := by decide +kernel
theorem dX9_malts_11 : decode cX9_malts 11 = .ok (.iload 5, 2) := by decide +kernel
theorem dX9_malts_13 : decode cX9_malts 13 = .ok (.ifCond .eq 6, 3) := by decide +kernel
theorem dX9_malts_16 : decode cX9_malts 16 = .ok (.iload 5, 2) := by decide +kernel
theorem dX9_malts_18 : decode cX9_malts 18 = .ok (.ireturn, 1) := by decide +kernel
theorem dX9_malts_19 : decode cX9_malts 19 = .ok (.aload_n 0, 1) := by decide +kernel
theorem dX9_malts_20 : decode cX9_malts 20 = .ok (.getfield 22, 3) := by decide +kernel
theorem dX9_malts_23 : decode cX9_malts 23 = .ok (.iconst 0, 1) := by decide +kernel
theorem dX9_malts_24 : decode cX9_malts 24 = .ok (.aload_n 0, 1) := by decide +kernel
theorem dX9_malts_25 : decode cX9_malts 25 = .ok (.getfield 50, 3) := by decide +kernel
theorem dX9_malts_28 : decode cX9_malts 28 = .ok (.iconst 0, 1) := by decide +kernel
theorem dX9_malts_29 : decode cX9_malts 29 = .ok (.invokestatic 150, 3) := by decide +kernel
theorem dX9_malts_32 : decode cX9_malts 32 = .ok (.iconst 0, 1) := by decide +kernel
theorem dX9_malts_33 : decode cX9_malts 33 = .ok (.istore 6, 2) := by decide +kernel
theorem dX9_malts_35 : decode cX9_malts 35 = .ok (.iconst 0, 1) := by decide +kernel
theorem dX9_malts_36 : decode cX9_malts 36 = .ok (.istore 7, 2) := by decide +kernel
theorem dX9_malts_38 : decode cX9_malts 38 = .ok (.iload 7, 2) := by decide +kernel
theorem dX9_malts_40 : decode cX9_malts 40 = .ok (.bipush 20, 2) := by decide +kernel
theorem dX9_malts_42 : decode cX9_malts 42 = .ok (.if_icmp .gt 49, 3) := by decide +kernel
theorem dX9_malts_45 : decode cX9_malts 45 = .ok (.aload_n 0, 1) := by decide +kernel
theorem dX9_malts_46 : decode cX9_malts 46 = .ok (.getfield 50, 3) := by decide +kernel
theorem dX9_malts_49 : decode cX9_malts 49 = .ok (.bipush 52, 2) := by decide +kernel
theorem dX9_malts_51 : decode cX9_malts 51 = .ok (.iload_n 1, 1) := by decide +kernel
theorem dX9_malts_52 : decode cX9_malts 52 = .ok (.iadd, 1) := by decide +kernel
theorem dX9_malts_53 : decode cX9_malts 53 = .ok (.iload 7, 2) := by decide +kernel
theorem dX9_malts_55 : decode cX9_malts 55 = .ok (.iastore, 1) := by decide +kernel
theorem dX9_malts_56 : decode cX9_malts 56 = .ok (.iload 6, 2) := by decide +kernel
theorem dX9_malts_58 : decode cX9_malts 58 = .ok (.aload_n 0, 1) := by decide +kernel
theorem dX9_malts_59 : decode cX9_malts 59 = .ok (.iload_n 1, 1) := by decide +kernel
theorem dX9_malts_60 : decode cX9_malts 60 = .ok (.bipush 40, 2) := by decide +kernel
theorem dX9_malts_62 : decode cX9_malts 62 = .ok (.iload_n 2, 1) := by decide +kernel
theorem dX9_malts_63 : decode cX9_malts 63 = .ok (.imul, 1) := by decide +kernel
theorem dX9_malts_64 : decode cX9_malts 64 = .ok (.iload_n 3, 1) := by decide +kernel
theorem dX9_malts_65 : decode cX9_malts 65 = .ok (.iadd, 1) := by decide +kernel
theorem dX9_malts_66 : decode cX9_malts 66 = .ok (.iload 4, 2) := by decide +kernel
theorem dX9_malts_68 : decode cX9_malts 68 = .ok (.invokevirtual 251, 3) := by decide +kernel
theorem dX9_malts_71 : decode cX9_malts 71 = .ok (.ifCond .eq 10, 3) := by decide +kernel
theorem dX9_malts_74 : decode cX9_malts 74 = .ok (.iconst 1, 1) := by decide +kernel
theorem dX9_malts_75 : decode cX9_malts 75 = .ok (.iload 7, 2) := by decide +kernel
theorem dX9_malts_77 : decode cX9_malts 77 = .ok (.ishl, 1) := by decide +kernel
theorem dX9_malts_78 : decode cX9_malts 78 = .ok (.goto 4, 3) := by decide +kernel
theorem dX9_malts_81 : decode cX9_malts 81 = .ok (.iconst 0, 1) := by decide +kernel
theorem dX9_malts_82 : decode cX9_malts 82 = .ok (.ior, 1) := by decide +kernel
theorem dX9_malts_83 : decode cX9_malts 83 = .ok (.istore 6, 2) := by decide +kernel
theorem dX9_malts_85 : decode cX9_malts 85 = .ok (.iinc 7 1, 3) := by decide +kernel
theorem dX9_malts_88 : decode cX9_malts 88 = .ok (.goto (-50), 3) := by decide +kernel
theorem dX9_malts_91 : decode cX9_malts 91 = .ok (.aload_n 0, 1) := by decide +kernel
theorem dX9_malts_92 : decode cX9_malts 92 = .ok (.iload 6, 2) := by decide +kernel
theorem dX9_malts_94 : decode cX9_malts 94 = .ok (.invokevirtual 75, 3) := by decide +kernel
theorem dX9_malts_97 : decode cX9_malts 97 = .ok (.ireturn, 1) := by decide +kernel
theorem dX9_who_0 : decode cX9_who 0 = .ok (.aload_n 0, 1) := by decide +kernel
theorem dX9_who_1 : decode cX9_who 1 = .ok (.iload_n 1, 1) := by decide +kernel
theorem dX9_who_2 : decode cX9_who 2 = .ok (.invokevirtual 199, 3) := by decide +kernel
theorem dX9_who_5 : decode cX9_who 5 = .ok (.ifCond .eq 16, 3) := by decide +kernel
theorem dX9_who_8 : decode cX9_who 8 = .ok (.aload_n 0, 1) := by decide +kernel
theorem dX9_who_9 : decode cX9_who 9 = .ok (.iload_n 2, 1) := by decide +kernel
theorem dX9_who_10 : decode cX9_who 10 = .ok (.iload_n 3, 1) := by decide +kernel
theorem dX9_who_11 : decode cX9_who 11 = .ok (.iload 4, 2) := by decide +kernel
theorem dX9_who_13 : decode cX9_who 13 = .ok (.iload 5, 2) := by decide +kernel
theorem dX9_who_15 : decode cX9_who 15 = .ok (.invokevirtual 247, 3) := by decide +kernel
theorem dX9_who_18 : decode cX9_who 18 = .ok (.goto 5, 3) := by decide +kernel
theorem dX9_who_21 : decode cX9_who 21 = .ok (.ldc 70, 2) := by decide +kernel
theorem dX9_who_23 : decode cX9_who 23 = .ok (.istore 6, 2) := by decide +kernel
theorem dX9_who_25 : decode cX9_who 25 = .ok (.iload 6, 2) := by decide +kernel
theorem dX9_who_27 : decode cX9_who 27 = .ok (.ifCond .eq 6, 3) := by decide +kernel
theorem dX9_who_30 : decode cX9_who 30 = .ok (.iload 6, 2) := by decide +kernel
theorem dX9_who_32 : decode cX9_who 32 = .ok (.ireturn, 1) := by decide +kernel
theorem dX9_who_33 : decode cX9_who 33 = .ok (.aload_n 0, 1) := by decide +kernel
theorem dX9_who_34 : decode cX9_who 34 = .ok (.getfield 22, 3) := by decide +kernel
theorem dX9_who_37 : decode cX9_who 37 = .ok (.iconst 0, 1) := by decide +kernel
theorem dX9_who_38 : decode cX9_who 38 = .ok (.aload_n 0, 1) := by decide +kernel
theorem dX9_who_39 : decode cX9_who 39 = .ok (.getfield 50, 3) := by decide +kernel
theorem dX9_who_42 : decode cX9_who 42 = .ok (.iconst 0, 1) := by decide +kernel
theorem dX9_who_43 : decode cX9_who 43 = .ok (.invokestatic 150, 3) := by decide +kernel
theorem dX9_who_46 : decode cX9_who 46 = .ok (.iconst 0, 1) := by decide +kernel
theorem dX9_who_47 : decode cX9_who 47 = .ok (.istore 7, 2) := by decide +kernel
theorem dX9_who_49 : decode cX9_who 49 = .ok (.iconst 1, 1) := by decide +kernel
theorem dX9_who_50 : decode cX9_who 50 = .ok (.istore 8, 2) := by decide +kernel
theorem dX9_who_52 : decode cX9_who 52 = .ok (.iload 8, 2) := by decide +kernel
theorem dX9_who_54 : decode cX9_who 54 = .ok (.iconst 5, 1) := by decide +kernel
theorem dX9_who_55 : decode cX9_who 55 = .ok (.if_icmp .gt 50, 3) := by decide +kernel
theorem dX9_who_58 : decode cX9_who 58 = .ok (.aload_n 0, 1) := by decide +kernel
theorem dX9_who_59 : decode cX9_who 59 = .ok (.getfield 50, 3) := by decide +kernel
theorem dX9_who_62 : decode cX9_who 62 = .ok (.bipush 6, 2) := by decide +kernel
theorem dX9_who_64 : decode cX9_who 64 = .ok (.iload_n 1, 1) := by decide +kernel
theorem dX9_who_65 : decode cX9_who 65 = .ok (.iadd, 1) := by decide +kernel
theorem dX9_who_66 : decode cX9_who 66 = .ok (.iload 8, 2) := by decide +kernel
theorem dX9_who_68 : decode cX9_who 68 = .ok (.iastore, 1) := by decide +kernel
theorem dX9_who_69 : decode cX9_who 69 = .ok (.iload 7, 2) := by decide +kernel
theorem dX9_who_71 : decode cX9_who 71 = .ok (.aload_n 0, 1) := by decide +kernel
theorem dX9_who_72 : decode cX9_who 72 = .ok (.iload_n 2, 1) := by decide +kernel
theorem dX9_who_73 : decode cX9_who 73 = .ok (.bipush 40, 2) := by decide +kernel
theorem dX9_who_75 : decode cX9_who 75 = .ok (.iload_n 3, 1) := by decide +kernel
theorem dX9_who_76 : decode cX9_who 76 = .ok (.imul, 1) := by decide +kernel
theorem dX9_who_77 : decode cX9_who 77 = .ok (.iload 4, 2) := by decide +kernel
theorem dX9_who_79 : decode cX9_who 79 = .ok (.iadd, 1) := by decide +kernel
theorem dX9_who_80 : decode cX9_who 80 = .ok (.iload 5, 2) := by decide +kernel
theorem dX9_who_82 : decode cX9_who 82 = .ok (.invokevirtual 251, 3) := by decide +kernel
theorem dX9_who_85 : decode cX9_who 85 = .ok (.ifCond .eq 10, 3) := by decide +kernel
theorem dX9_who_88 : decode cX9_who 88 = .ok (.iconst 1, 1) := by decide +kernel
theorem dX9_who_89 : decode cX9_who 89 = .ok (.iload 8, 2) := by decide +kernel
theorem dX9_who_91 : decode cX9_who 91 = .ok (.ishl, 1) := by decide +kernel
theorem dX9_who_92 : decode cX9_who 92 = .ok (.goto 4, 3) := by decide +kernel
theorem dX9_who_95 : decode cX9_who 95 = .ok (.iconst 0, 1) := by decide +kernel
theorem dX9_who_96 : decode cX9_who 96 = .ok (.ior, 1) := by decide +kernel
theorem dX9_who_97 : decode cX9_who 97 = .ok (.istore 7, 2) := by decide +kernel
theorem dX9_who_99 : decode cX9_who 99 = .ok (.iinc 8 1, 3) := by decide +kernel
theorem dX9_who_102 : decode cX9_who 102 = .ok (.goto (-50), 3) := by decide +kernel
theorem dX9_who_105 : decode cX9_who 105 = .ok (.aload_n 0, 1) := by decide +kernel
theorem dX9_who_106 : decode cX9_who 106 = .ok (.iload 7, 2) := by decide +kernel
theorem dX9_who_108 : decode cX9_who 108 = .ok (.invokevirtual 75, 3) := by decide +kernel
theorem dX9_who_111 : decode cX9_who 111 = .ok (.ireturn, 1) := by decide +kernel
theorem dX9_goesOff_0 : decode cX9_goesOff 0 = .ok (.iload_n 1, 1) := by decide +kernel
theorem dX9_goesOff_1 : decode cX9_goesOff 1 = .ok (.invokestatic 216, 3) := by decide +kernel
theorem dX9_goesOff_4 : decode cX9_goesOff 4 = .ok (.ifCond .eq 10, 3) := by decide +kernel
theorem dX9_goesOff_7 : decode cX9_goesOff 7 = .ok (.iload_n 2, 1) := by decide +kernel
theorem dX9_goesOff_8 : decode cX9_goesOff 8 = .ok (.invokestatic 242, 3) := by decide +kernel
theorem dX9_goesOff_11 : decode cX9_goesOff 11 = .ok (.ifCond .ne 6, 3) := by decide +kernel
theorem dX9_goesOff_14 : decode cX9_goesOff 14 = .ok (.ldc 70, 2) := by decide +kernel
theorem dX9_goesOff_16 : decode cX9_goesOff 16 = .ok (.ireturn, 1) := by decide +kernel
theorem dX9_goesOff_17 : decode cX9_goesOff 17 = .ok (.aload_n 0, 1) := by decide +kernel
theorem dX9_goesOff_18 : decode cX9_goesOff 18 = .ok (.getfield 22, 3) := by decide +kernel
theorem dX9_goesOff_21 : decode cX9_goesOff 21 = .ok (.bipush 44, 2) := by decide +kernel
theorem dX9_goesOff_23 : decode cX9_goesOff 23 = .ok (.iload_n 1, 1) := by decide +kernel
theorem dX9_goesOff_24 : decode cX9_goesOff 24 = .ok (.iadd, 1) := by decide +kernel
theorem dX9_goesOff_25 : decode cX9_goesOff 25 = .ok (.iaload, 1) := by decide +kernel
theorem dX9_goesOff_26 : decode cX9_goesOff 26 = .ok (.ifCond .ne 6, 3) := by decide +kernel
theorem dX9_goesOff_29 : decode cX9_goesOff 29 = .ok (.ldc 198, 2) := by decide +kernel
theorem dX9_goesOff_31 : decode cX9_goesOff 31 = .ok (.ireturn, 1) := by decide +kernel
theorem dX9_goesOff_32 : decode cX9_goesOff 32 = .ok (.iload_n 2, 1) := by decide +kernel
theorem dX9_goesOff_33 : decode cX9_goesOff 33 = .ok (.ifCond .ne 14, 3) := by decide +kernel
theorem dX9_goesOff_36 : decode cX9_goesOff 36 = .ok (.aload_n 0, 1) := by decide +kernel
theorem dX9_goesOff_37 : decode cX9_goesOff 37 = .ok (.getfield 22, 3) := by decide +kernel
theorem dX9_goesOff_40 : decode cX9_goesOff 40 = .ok (.iconst 1, 1) := by decide +kernel
theorem dX9_goesOff_41 : decode cX9_goesOff 41 = .ok (.iaload, 1) := by decide +kernel
theorem dX9_goesOff_42 : decode cX9_goesOff 42 = .ok (.iconst 1, 1) := by decide +kernel
theorem dX9_goesOff_43 : decode cX9_goesOff 43 = .ok (.iadd, 1) := by decide +kernel
theorem dX9_goesOff_44 : decode cX9_goesOff 44 = .ok (.goto 9, 3) := by decide +kernel
theorem dX9_goesOff_47 : decode cX9_goesOff 47 = .ok (.aload_n 0, 1) := by decide +kernel
theorem dX9_goesOff_48 : decode cX9_goesOff 48 = .ok (.getfield 22, 3) := by decide +kernel
theorem dX9_goesOff_51 : decode cX9_goesOff 51 = .ok (.iconst 0, 1) := by decide +kernel
theorem dX9_goesOff_52 : decode cX9_goesOff 52 = .ok (.iaload, 1) := by decide +kernel
theorem dX9_goesOff_53 : decode cX9_goesOff 53 = .ok (.aload_n 0, 1) := by decide +kernel
theorem dX9_goesOff_54 : decode cX9_goesOff 54 = .ok (.getfield 22, 3) := by decide +kernel
theorem dX9_goesOff_57 : decode cX9_goesOff 57 = .ok (.bipush 56, 2) := by decide +kernel
theorem dX9_goesOff_59 : decode cX9_goesOff 59 = .ok (.iload_n 1, 1) := by decide +kernel
theorem dX9_goesOff_60 : decode cX9_goesOff 60 = .ok (.iadd, 1) := by decide +kernel
theorem dX9_goesOff_61 : decode cX9_goesOff 61 = .ok (.iaload, 1) := by decide +kernel
theorem dX9_goesOff_62 : decode cX9_goesOff 62 = .ok (.isub, 1) := by decide +kernel
theorem dX9_goesOff_63 : decode cX9_goesOff 63 = .ok (.istore_n 3, 1) := by decide +kernel
theorem dX9_goesOff_64 : decode cX9_goesOff 64 = .ok (.iload_n 3, 1) := by decide +kernel
theorem dX9_goesOff_65 : decode cX9_goesOff 65 = .ok (.ifCond .le 7, 3) := by decide +kernel
theorem dX9_goesOff_68 : decode cX9_goesOff 68 = .ok (.iload_n 3, 1) := by decide +kernel
theorem dX9_goesOff_69 : decode cX9_goesOff 69 = .ok (.goto 4, 3) := by decide +kernel
theorem dX9_goesOff_72 : decode cX9_goesOff 72 = .ok (.iconst 0, 1) := by decide +kernel
theorem dX9_goesOff_73 : decode cX9_goesOff 73 = .ok (.ireturn, 1) := by decide +kernel
theorem dX9_best_0 : decode cX9_best 0 = .ok (.iload_n 1, 1) := by decide +kernel
theorem dX9_best_1 : decode cX9_best 1 = .ok (.invokestatic 216, 3) := by decide +kernel
theorem dX9_best_4 : decode cX9_best 4 = .ok (.ifCond .eq 10, 3) := by decide +kernel
theorem dX9_best_7 : decode cX9_best 7 = .ok (.iload_n 2, 1) := by decide +kernel
theorem dX9_best_8 : decode cX9_best 8 = .ok (.invokestatic 242, 3) := by decide +kernel
theorem dX9_best_11 : decode cX9_best 11 = .ok (.ifCond .ne 6, 3) := by decide +kernel
theorem dX9_best_14 : decode cX9_best 14 = .ok (.ldc 70, 2) := by decide +kernel
theorem dX9_best_16 : decode cX9_best 16 = .ok (.ireturn, 1) := by decide +kernel
theorem dX9_best_17 : decode cX9_best 17 = .ok (.aload_n 0, 1) := by decide +kernel
theorem dX9_best_18 : decode cX9_best 18 = .ok (.getfield 22, 3) := by decide +kernel
theorem dX9_best_21 : decode cX9_best 21 = .ok (.bipush 44, 2) := by decide +kernel
theorem dX9_best_23 : decode cX9_best 23 = .ok (.iload_n 1, 1) := by decide +kernel
theorem dX9_best_24 : decode cX9_best 24 = .ok (.iadd, 1) := by decide +kernel
theorem dX9_best_25 : decode cX9_best 25 = .ok (.iaload, 1) := by decide +kernel
theorem dX9_best_26 : decode cX9_best 26 = .ok (.ifCond .ne 6, 3) := by decide +kernel
theorem dX9_best_29 : decode cX9_best 29 = .ok (.ldc 198, 2) := by decide +kernel
theorem dX9_best_31 : decode cX9_best 31 = .ok (.ireturn, 1) := by decide +kernel
theorem dX9_best_32 : decode cX9_best 32 = .ok (.iconst 0, 1) := by decide +kernel
theorem dX9_best_33 : decode cX9_best 33 = .ok (.istore_n 3, 1) := by decide +kernel
theorem dX9_best_34 : decode cX9_best 34 = .ok (.iconst (-1), 1) := by decide +kernel
theorem dX9_best_35 : decode cX9_best 35 = .ok (.istore 4, 2) := by decide +kernel
theorem dX9_best_37 : decode cX9_best 37 = .ok (.iconst 0, 1) := by decide +kernel
theorem dX9_best_38 : decode cX9_best 38 = .ok (.istore 5, 2) := by decide +kernel
theorem dX9_best_40 : decode cX9_best 40 = .ok (.iload 5, 2) := by decide +kernel
theorem dX9_best_42 : decode cX9_best 42 = .ok (.aload_n 0, 1) := by decide +kernel
theorem dX9_best_43 : decode cX9_best 43 = .ok (.getfield 22, 3) := by decide +kernel
theorem dX9_best_46 : decode cX9_best 46 = .ok (.iconst 3, 1) := by decide +kernel
theorem dX9_best_47 : decode cX9_best 47 = .ok (.iaload, 1) := by decide +kernel
theorem dX9_best_48 : decode cX9_best 48 = .ok (.if_icmp .ge 62, 3) := by decide +kernel
theorem dX9_best_51 : decode cX9_best 51 = .ok (.aload_n 0, 1) := by decide +kernel
theorem dX9_best_52 : decode cX9_best 52 = .ok (.aload_n 0, 1) := by decide +kernel
theorem dX9_best_53 : decode cX9_best 53 = .ok (.getfield 22, 3) := by decide +kernel
theorem dX9_best_56 : decode cX9_best 56 = .ok (.iload_n 1, 1) := by decide +kernel
theorem dX9_best_57 : decode cX9_best 57 = .ok (.iconst 1, 1) := by decide +kernel
theorem dX9_best_58 : decode cX9_best 58 = .ok (.iload 5, 2) := by decide +kernel
theorem dX9_best_60 : decode cX9_best 60 = .ok (.ishl, 1) := by decide +kernel
theorem dX9_best_61 : decode cX9_best 61 = .ok (.iconst 0, 1) := by decide +kernel
theorem dX9_best_62 : decode cX9_best 62 = .ok (.invokevirtual 191, 3) := by decide +kernel
theorem dX9_best_65 : decode cX9_best 65 = .ok (.aload_n 0, 1) := by decide +kernel
theorem dX9_best_66 : decode cX9_best 66 = .ok (.getfield 168, 3) := by decide +kernel
theorem dX9_best_69 : decode cX9_best 69 = .ok (.invokestatic 239, 3) := by decide +kernel
theorem dX9_best_72 : decode cX9_best 72 = .ok (.istore 6, 2) := by decide +kernel
theorem dX9_best_74 : decode cX9_best 74 = .ok (.iload 6, 2) := by decide +kernel
theorem dX9_best_76 : decode cX9_best 76 = .ok (.iload 4, 2) := by decide +kernel
theorem dX9_best_78 : decode cX9_best 78 = .ok (.if_icmp .le 8, 3) := by decide +kernel
theorem dX9_best_81 : decode cX9_best 81 = .ok (.iload 5, 2) := by decide +kernel
theorem dX9_best_83 : decode cX9_best 83 = .ok (.goto 4, 3) := by decide +kernel
theorem dX9_best_86 : decode cX9_best 86 = .ok (.iload_n 3, 1) := by decide +kernel
theorem dX9_best_87 : decode cX9_best 87 = .ok (.istore_n 3, 1) := by decide +kernel
theorem dX9_best_88 : decode cX9_best 88 = .ok (.iload 6, 2) := by decide +kernel
theorem dX9_best_90 : decode cX9_best 90 = .ok (.iload 4, 2) := by decide +kernel
theorem dX9_best_92 : decode cX9_best 92 = .ok (.if_icmp .le 8, 3) := by decide +kernel
theorem dX9_best_95 : decode cX9_best 95 = .ok (.iload 6, 2) := by decide +kernel
theorem dX9_best_97 : decode cX9_best 97 = .ok (.goto 5, 3) := by decide +kernel
theorem dX9_best_100 : decode cX9_best 100 = .ok (.iload 4, 2) := by decide +kernel
theorem dX9_best_102 : decode cX9_best 102 = .ok (.istore 4, 2) := by decide +kernel
theorem dX9_best_104 : decode cX9_best 104 = .ok (.iinc 5 1, 3) := by decide +kernel
theorem dX9_best_107 : decode cX9_best 107 = .ok (.goto (-67), 3) := by decide +kernel
theorem dX9_best_110 : decode cX9_best 110 = .ok (.iload_n 2, 1) := by decide +kernel
theorem dX9_best_111 : decode cX9_best 111 = .ok (.ifCond .ne 7, 3) := by decide +kernel
theorem dX9_best_114 : decode cX9_best 114 = .ok (.iload_n 3, 1) := by decide +kernel
theorem dX9_best_115 : decode cX9_best 115 = .ok (.goto 5, 3) := by decide +kernel
theorem dX9_best_118 : decode cX9_best 118 = .ok (.iload 4, 2) := by decide +kernel
theorem dX9_best_120 : decode cX9_best 120 = .ok (.ireturn, 1) := by decide +kernel
theorem dX9_blended_0 : decode cX9_blended 0 = .ok (.iload_n 1, 1) := by decide +kernel
theorem dX9_blended_1 : decode cX9_blended 1 = .ok (.iload_n 2, 1) := by decide +kernel
theorem dX9_blended_2 : decode cX9_blended 2 = .ok (.invokestatic 222, 3) := by decide +kernel
theorem dX9_blended_5 : decode cX9_blended 5 = .ok (.ifCond .eq 11, 3) := by decide +kernel
theorem dX9_blended_8 : decode cX9_blended 8 = .ok (.aload_n 0, 1) := by decide +kernel
theorem dX9_blended_9 : decode cX9_blended 9 = .ok (.iload_n 3, 1) := by decide +kernel
theorem dX9_blended_10 : decode cX9_blended 10 = .ok (.invokevirtual 199, 3) := by decide +kernel
theorem dX9_blended_13 : decode cX9_blended 13 = .ok (.ifCond .ne 6, 3) := by decide +kernel
theorem dX9_blended_16 : decode cX9_blended 16 = .ok (.ldc 70, 2) := by decide +kernel
theorem dX9_blended_18 : decode cX9_blended 18 = .ok (.ireturn, 1) := by decide +kernel
theorem dX9_blended_19 : decode cX9_blended 19 = .ok (.aload_n 0, 1) := by decide +kernel
theorem dX9_blended_20 : decode cX9_blended 20 = .ok (.getfield 22, 3) := by decide +kernel
theorem dX9_blended_23 : decode cX9_blended 23 = .ok (.bipush 44, 2) := by decide +kernel
theorem dX9_blended_25 : decode cX9_blended 25 = .ok (.iload_n 1, 1) := by decide +kernel
theorem dX9_blended_26 : decode cX9_blended 26 = .ok (.iadd, 1) := by decide +kernel
theorem dX9_blended_27 : decode cX9_blended 27 = .ok (.iaload, 1) := by decide +kernel
theorem dX9_blended_28 : decode cX9_blended 28 = .ok (.ifCond .eq 15, 3) := by decide +kernel
theorem dX9_blended_31 : decode cX9_blended 31 = .ok (.aload_n 0, 1) := by decide +kernel
theorem dX9_blended_32 : decode cX9_blended 32 = .ok (.getfield 22, 3) := by decide +kernel
theorem dX9_blended_35 : decode cX9_blended 35 = .ok (.bipush 44, 2) := by decide +kernel
theorem dX9_blended_37 : decode cX9_blended 37 = .ok (.iload_n 2, 1) := by decide +kernel
theorem dX9_blended_38 : decode cX9_blended 38 = .ok (.iadd, 1) := by decide +kernel
theorem dX9_blended_39 : decode cX9_blended 39 = .ok (.iaload, 1) := by decide +kernel
theorem dX9_blended_40 : decode cX9_blended 40 = .ok (.ifCond .ne 6, 3) := by decide +kernel
theorem dX9_blended_43 : decode cX9_blended 43 = .ok (.ldc 198, 2) := by decide +kernel
theorem dX9_blended_45 : decode cX9_blended 45 = .ok (.ireturn, 1) := by decide +kernel
theorem dX9_blended_46 : decode cX9_blended 46 = .ok (.aload_n 0, 1) := by decide +kernel
theorem dX9_blended_47 : decode cX9_blended 47 = .ok (.getfield 22, 3) := by decide +kernel
theorem dX9_blended_50 : decode cX9_blended 50 = .ok (.iconst 0, 1) := by decide +kernel
theorem dX9_blended_51 : decode cX9_blended 51 = .ok (.aload_n 0, 1) := by decide +kernel
theorem dX9_blended_52 : decode cX9_blended 52 = .ok (.getfield 50, 3) := by decide +kernel
theorem dX9_blended_55 : decode cX9_blended 55 = .ok (.iconst 0, 1) := by decide +kernel
theorem dX9_blended_56 : decode cX9_blended 56 = .ok (.invokestatic 150, 3) := by decide +kernel
theorem dX9_blended_59 : decode cX9_blended 59 = .ok (.aload_n 0, 1) := by decide +kernel
theorem dX9_blended_60 : decode cX9_blended 60 = .ok (.getfield 50, 3) := by decide +kernel
theorem dX9_blended_63 : decode cX9_blended 63 = .ok (.iload_n 1, 1) := by decide +kernel
theorem dX9_blended_64 : decode cX9_blended 64 = .ok (.iload_n 2, 1) := by decide +kernel
theorem dX9_blended_65 : decode cX9_blended 65 = .ok (.invokestatic 225, 3) := by decide +kernel
theorem dX9_blended_68 : decode cX9_blended 68 = .ok (.aload_n 0, 1) := by decide +kernel
theorem dX9_blended_69 : decode cX9_blended 69 = .ok (.aload_n 0, 1) := by decide +kernel
theorem dX9_blended_70 : decode cX9_blended 70 = .ok (.getfield 50, 3) := by decide +kernel
theorem dX9_blended_73 : decode cX9_blended 73 = .ok (.iload_n 2, 1) := by decide +kernel
theorem dX9_blended_74 : decode cX9_blended 74 = .ok (.iconst 1, 1) := by decide +kernel
theorem dX9_blended_75 : decode cX9_blended 75 = .ok (.iload_n 3, 1) := by decide +kernel
theorem dX9_blended_76 : decode cX9_blended 76 = .ok (.ishl, 1) := by decide +kernel
theorem dX9_blended_77 : decode cX9_blended 77 = .ok (.iconst 0, 1) := by decide +kernel
theorem dX9_blended_78 : decode cX9_blended 78 = .ok (.invokevirtual 191, 3) := by decide +kernel
theorem dX9_blended_81 : decode cX9_blended 81 = .ok (.aload_n 0, 1) := by decide +kernel
theorem dX9_blended_82 : decode cX9_blended 82 = .ok (.getfield 168, 3) := by decide +kernel
theorem dX9_blended_85 : decode cX9_blended 85 = .ok (.invokestatic 239, 3) := by decide +kernel
theorem dX9_blended_88 : decode cX9_blended 88 = .ok (.ireturn, 1) := by decide +kernel
theorem dX9_silent_0 : decode cX9_silent 0 = .ok (.iload_n 1, 1) := by decide +kernel
theorem dX9_silent_1 : decode cX9_silent 1 = .ok (.invokestatic 216, 3) := by decide +kernel
theorem dX9_silent_4 : decode cX9_silent 4 = .ok (.ifCond .eq 45, 3) := by decide +kernel
theorem dX9_silent_7 : decode cX9_silent 7 = .ok (.aload_n 0, 1) := by decide +kernel
theorem dX9_silent_8 : decode cX9_silent 8 = .ok (.iload_n 2, 1) := by decide +kernel
theorem dX9_silent_9 : decode cX9_silent 9 = .ok (.invokevirtual 199, 3) := by decide +kernel
theorem dX9_silent_12 : decode cX9_silent 12 = .ok (.ifCond .eq 37, 3) := by decide +kernel
theorem dX9_silent_15 : decode cX9_silent 15 = .ok (.aload_n 0, 1) := by decide +kernel
theorem dX9_silent_16 : decode cX9_silent 16 = .ok (.iload_n 3, 1) := by decide +kernel
theorem dX9_silent_17 : decode cX9_silent 17 = .ok (.invokevirtual 199, 3) := by decide +kernel
theorem dX9_silent_20 : decode cX9_silent 20 = .ok (.ifCond .eq 29, 3) := by decide +kernel
theorem dX9_silent_23 : decode cX9_silent 23 = .ok (.iload_n 2, 1) := by decide +kernel
theorem dX9_silent_24 : decode cX9_silent 24 = .ok (.iload_n 3, 1) := by decide +kernel
theorem dX9_silent_25 : decode cX9_silent 25 = .ok (.if_icmp .eq 24, 3) := by decide +kernel
theorem dX9_silent_28 : decode cX9_silent 28 = .ok (.iload 4, 2) := by decide +kernel
theorem dX9_silent_30 : decode cX9_silent 30 = .ok (.i2l, 1) := by decide +kernel
theorem dX9_silent_31 : decode cX9_silent 31 = .ok (.lconst 0, 1) := by decide +kernel
theorem dX9_silent_32 : decode cX9_silent 32 = .ok (.ldc2_w 254, 3) := by decide +kernel
theorem dX9_silent_35 : decode cX9_silent 35 = .ok (.invokestatic 60, 3) := by decide +kernel
theorem dX9_silent_38 : decode cX9_silent 38 = .ok (.ifCond .eq 11, 3) := by decide +kernel
theorem dX9_silent_41 : decode cX9_silent 41 = .ok (.iload 5, 2) := by decide +kernel
theorem dX9_silent_43 : decode cX9_silent 43 = .ok (.invokestatic 242, 3) := by decide +kernel
theorem dX9_silent_46 : decode cX9_silent 46 = .ok (.ifCond .ne 7, 3) := by decide +kernel
theorem dX9_silent_49 : decode cX9_silent 49 = .ok (.ldc2_w 256, 3) := by decide +kernel
theorem dX9_silent_52 : decode cX9_silent 52 = .ok (.lreturn, 1) := by decide +kernel
theorem dX9_silent_53 : decode cX9_silent 53 = .ok (.aload_n 0, 1) := by decide +kernel
theorem dX9_silent_54 : decode cX9_silent 54 = .ok (.getfield 22, 3) := by decide +kernel
theorem dX9_silent_57 : decode cX9_silent 57 = .ok (.bipush 44, 2) := by decide +kernel
theorem dX9_silent_59 : decode cX9_silent 59 = .ok (.iload_n 1, 1) := by decide +kernel
theorem dX9_silent_60 : decode cX9_silent 60 = .ok (.iadd, 1) := by decide +kernel
theorem dX9_silent_61 : decode cX9_silent 61 = .ok (.iaload, 1) := by decide +kernel
theorem dX9_silent_62 : decode cX9_silent 62 = .ok (.ifCond .ne 7, 3) := by decide +kernel
theorem dX9_silent_65 : decode cX9_silent 65 = .ok (.ldc2_w 258, 3) := by decide +kernel
theorem dX9_silent_68 : decode cX9_silent 68 = .ok (.lreturn, 1) := by decide +kernel
theorem dX9_silent_69 : decode cX9_silent 69 = .ok (.lconst 0, 1) := by decide +kernel
theorem dX9_silent_70 : decode cX9_silent 70 = .ok (.lstore 6, 2) := by decide +kernel
theorem dX9_silent_72 : decode cX9_silent 72 = .ok (.lconst 1, 1) := by decide +kernel
theorem dX9_silent_73 : decode cX9_silent 73 = .ok (.lstore 8, 2) := by decide +kernel
theorem dX9_silent_75 : decode cX9_silent 75 = .ok (.iconst 0, 1) := by decide +kernel
theorem dX9_silent_76 : decode cX9_silent 76 = .ok (.istore 10, 2) := by decide +kernel
theorem dX9_silent_78 : decode cX9_silent 78 = .ok (.iload 10, 2) := by decide +kernel
theorem dX9_silent_80 : decode cX9_silent 80 = .ok (.aload_n 0, 1) := by decide +kernel
theorem dX9_silent_81 : decode cX9_silent 81 = .ok (.getfield 22, 3) := by decide +kernel
theorem dX9_silent_84 : decode cX9_silent 84 = .ok (.iconst 4, 1) := by decide +kernel
theorem dX9_silent_85 : decode cX9_silent 85 = .ok (.iaload, 1) := by decide +kernel
theorem dX9_silent_86 : decode cX9_silent 86 = .ok (.if_icmp .ge 17, 3) := by decide +kernel
theorem dX9_silent_89 : decode cX9_silent 89 = .ok (.lload 8, 2) := by decide +kernel
theorem dX9_silent_91 : decode cX9_silent 91 = .ok (.ldc2_w 254, 3) := by decide +kernel
theorem dX9_silent_94 : decode cX9_silent 94 = .ok (.lmul, 1) := by decide +kernel
theorem dX9_silent_95 : decode cX9_silent 95 = .ok (.lstore 8, 2) := by decide +kernel
theorem dX9_silent_97 : decode cX9_silent 97 = .ok (.iinc 10 1, 3) := by decide +kernel
theorem dX9_silent_100 : decode cX9_silent 100 = .ok (.goto (-22), 3) := by decide +kernel
theorem dX9_silent_103 : decode cX9_silent 103 = .ok (.iconst 0, 1) := by decide +kernel
theorem dX9_silent_104 : decode cX9_silent 104 = .ok (.istore 10, 2) := by decide +kernel
theorem dX9_silent_106 : decode cX9_silent 106 = .ok (.iload 10, 2) := by decide +kernel
theorem dX9_silent_108 : decode cX9_silent 108 = .ok (.iconst 1, 1) := by decide +kernel
theorem dX9_silent_109 : decode cX9_silent 109 = .ok (.aload_n 0, 1) := by decide +kernel
theorem dX9_silent_110 : decode cX9_silent 110 = .ok (.getfield 22, 3) := by decide +kernel
theorem dX9_silent_113 : decode cX9_silent 113 = .ok (.iconst 4, 1) := by decide +kernel
theorem dX9_silent_114 : decode cX9_silent 114 = .ok (.iaload, 1) := by decide +kernel
theorem dX9_silent_115 : decode cX9_silent 115 = .ok (.ishl, 1) := by decide +kernel
theorem dX9_silent_116 : decode cX9_silent 116 = .ok (.if_icmp .ge 95, 3) := by decide +kernel
theorem dX9_silent_119 : decode cX9_silent 119 = .ok (.lconst 1, 1) := by decide +kernel
theorem dX9_silent_120 : decode cX9_silent 120 = .ok (.lstore 11, 2) := by decide +kernel
theorem dX9_silent_122 : decode cX9_silent 122 = .ok (.iconst 0, 1) := by decide +kernel
theorem dX9_silent_123 : decode cX9_silent 123 = .ok (.istore 13, 2) := by decide +kernel
theorem dX9_silent_125 : decode cX9_silent 125 = .ok (.iload 13, 2) := by decide +kernel
theorem dX9_silent_127 : decode cX9_silent 127 = .ok (.aload_n 0, 1) := by decide +kernel
theorem dX9_silent_128 : decode cX9_silent 128 = .ok (.getfield 22, 3) := by decide +kernel
theorem dX9_silent_131 : decode cX9_silent 131 = .ok (.iconst 4, 1) := by decide +kernel
theorem dX9_silent_132 : decode cX9_silent 132 = .ok (.iaload, 1) := by decide +kernel
theorem dX9_silent_133 : decode cX9_silent 133 = .ok (.if_icmp .ge 36, 3) := by decide +kernel
theorem dX9_silent_136 : decode cX9_silent 136 = .ok (.lload 11, 2) := by decide +kernel
theorem dX9_silent_138 : decode cX9_silent 138 = .ok (.iload 10, 2) := by decide +kernel
theorem dX9_silent_140 : decode cX9_silent 140 = .ok (.iload 13, 2) := by decide +kernel
theorem dX9_silent_142 : decode cX9_silent 142 = .ok (.invokestatic 164, 3) := by decide +kernel
theorem dX9_silent_145 : decode cX9_silent 145 = .ok (.ifCond .eq 9, 3) := by decide +kernel
theorem dX9_silent_148 : decode cX9_silent 148 = .ok (.iload 4, 2) := by decide +kernel
theorem dX9_silent_150 : decode cX9_silent 150 = .ok (.i2l, 1) := by decide +kernel
theorem dX9_silent_151 : decode cX9_silent 151 = .ok (.goto 9, 3) := by decide +kernel
theorem dX9_silent_154 : decode cX9_silent 154 = .ok (.bipush 10, 2) := by decide +kernel
theorem dX9_silent_156 : decode cX9_silent 156 = .ok (.iload 4, 2) := by decide +kernel
theorem dX9_silent_158 : decode cX9_silent 158 = .ok (.isub, 1) := by decide +kernel
theorem dX9_silent_159 : decode cX9_silent 159 = .ok (.i2l, 1) := by decide +kernel
theorem dX9_silent_160 : decode cX9_silent 160 = .ok (.lmul, 1) := by decide +kernel
theorem dX9_silent_161 : decode cX9_silent 161 = .ok (.lstore 11, 2) := by decide +kernel
theorem dX9_silent_163 : decode cX9_silent 163 = .ok (.iinc 13 1, 3) := by decide +kernel
theorem dX9_silent_166 : decode cX9_silent 166 = .ok (.goto (-41), 3) := by decide +kernel
theorem dX9_silent_169 : decode cX9_silent 169 = .ok (.aload_n 0, 1) := by decide +kernel
theorem dX9_silent_170 : decode cX9_silent 170 = .ok (.aload_n 0, 1) := by decide +kernel
theorem dX9_silent_171 : decode cX9_silent 171 = .ok (.getfield 22, 3) := by decide +kernel
theorem dX9_silent_174 : decode cX9_silent 174 = .ok (.iload_n 1, 1) := by decide +kernel
theorem dX9_silent_175 : decode cX9_silent 175 = .ok (.iconst 1, 1) := by decide +kernel
theorem dX9_silent_176 : decode cX9_silent 176 = .ok (.iload_n 2, 1) := by decide +kernel
theorem dX9_silent_177 : decode cX9_silent 177 = .ok (.ishl, 1) := by decide +kernel
theorem dX9_silent_178 : decode cX9_silent 178 = .ok (.iload 10, 2) := by decide +kernel
theorem dX9_silent_180 : decode cX9_silent 180 = .ok (.invokevirtual 191, 3) := by decide +kernel
theorem dX9_silent_183 : decode cX9_silent 183 = .ok (.lload 6, 2) := by decide +kernel
theorem dX9_silent_185 : decode cX9_silent 185 = .ok (.aload_n 0, 1) := by decide +kernel
theorem dX9_silent_186 : decode cX9_silent 186 = .ok (.getfield 168, 3) := by decide +kernel
theorem dX9_silent_189 : decode cX9_silent 189 = .ok (.iload_n 3, 1) := by decide +kernel
theorem dX9_silent_190 : decode cX9_silent 190 = .ok (.invokestatic 164, 3) := by decide +kernel
theorem dX9_silent_193 : decode cX9_silent 193 = .ok (.ifCond .eq 8, 3) := by decide +kernel
theorem dX9_silent_196 : decode cX9_silent 196 = .ok (.lload 11, 2) := by decide +kernel
theorem dX9_silent_198 : decode cX9_silent 198 = .ok (.goto 4, 3) := by decide +kernel
theorem dX9_silent_201 : decode cX9_silent 201 = .ok (.lconst 0, 1) := by decide +kernel
theorem dX9_silent_202 : decode cX9_silent 202 = .ok (.ladd, 1) := by decide +kernel
theorem dX9_silent_203 : decode cX9_silent 203 = .ok (.lstore 6, 2) := by decide +kernel
theorem dX9_silent_205 : decode cX9_silent 205 = .ok (.iinc 10 1, 3) := by decide +kernel
theorem dX9_silent_208 : decode cX9_silent 208 = .ok (.goto (-102), 3) := by decide +kernel
theorem dX9_silent_211 : decode cX9_silent 211 = .ok (.lload 6, 2) := by decide +kernel
theorem dX9_silent_213 : decode cX9_silent 213 = .ok (.lstore 10, 2) := by decide +kernel
theorem dX9_silent_215 : decode cX9_silent 215 = .ok (.lload 8, 2) := by decide +kernel
theorem dX9_silent_217 : decode cX9_silent 217 = .ok (.lstore 12, 2) := by decide +kernel
theorem dX9_silent_219 : decode cX9_silent 219 = .ok (.lload 12, 2) := by decide +kernel
theorem dX9_silent_221 : decode cX9_silent 221 = .ok (.lconst 0, 1) := by decide +kernel
theorem dX9_silent_222 : decode cX9_silent 222 = .ok (.lcmp, 1) := by decide +kernel
theorem dX9_silent_223 : decode cX9_silent 223 = .ok (.ifCond .eq 21, 3) := by decide +kernel
theorem dX9_silent_226 : decode cX9_silent 226 = .ok (.lload 10, 2) := by decide +kernel
theorem dX9_silent_228 : decode cX9_silent 228 = .ok (.lload 12, 2) := by decide +kernel
theorem dX9_silent_230 : decode cX9_silent 230 = .ok (.lrem, 1) := by decide +kernel
theorem dX9_silent_231 : decode cX9_silent 231 = .ok (.lstore 14, 2) := by decide +kernel
theorem dX9_silent_233 : decode cX9_silent 233 = .ok (.lload 12, 2) := by decide +kernel
theorem dX9_silent_235 : decode cX9_silent 235 = .ok (.lstore 10, 2) := by decide +kernel
theorem dX9_silent_237 : decode cX9_silent 237 = .ok (.lload 14, 2) := by decide +kernel
theorem dX9_silent_239 : decode cX9_silent 239 = .ok (.lstore 12, 2) := by decide +kernel
theorem dX9_silent_241 : decode cX9_silent 241 = .ok (.goto (-22), 3) := by decide +kernel
theorem dX9_silent_244 : decode cX9_silent 244 = .ok (.iload 5, 2) := by decide +kernel
theorem dX9_silent_246 : decode cX9_silent 246 = .ok (.ifCond .ne 11, 3) := by decide +kernel
theorem dX9_silent_249 : decode cX9_silent 249 = .ok (.lload 6, 2) := by decide +kernel
theorem dX9_silent_251 : decode cX9_silent 251 = .ok (.lload 10, 2) := by decide +kernel
theorem dX9_silent_253 : decode cX9_silent 253 = .ok (.ldiv, 1) := by decide +kernel
theorem dX9_silent_254 : decode cX9_silent 254 = .ok (.goto 8, 3) := by decide +kernel
theorem dX9_silent_257 : decode cX9_silent 257 = .ok (.lload 8, 2) := by decide +kernel
theorem dX9_silent_259 : decode cX9_silent 259 = .ok (.lload 10, 2) := by decide +kernel
theorem dX9_silent_261 : decode cX9_silent 261 = .ok (.ldiv, 1) := by decide +kernel
theorem dX9_silent_262 : decode cX9_silent 262 = .ok (.lreturn, 1) := by decide +kernel
theorem dX9_notesOf_0 : decode cX9_notesOf 0 = .ok (.iconst 0, 1) := by decide +kernel
theorem dX9_notesOf_1 : decode cX9_notesOf 1 = .ok (.istore_n 1, 1) := by decide +kernel
theorem dX9_notesOf_2 : decode cX9_notesOf 2 = .ok (.iconst 0, 1) := by decide +kernel
theorem dX9_notesOf_3 : decode cX9_notesOf 3 = .ok (.istore_n 2, 1) := by decide +kernel
theorem dX9_notesOf_4 : decode cX9_notesOf 4 = .ok (.iload_n 2, 1) := by decide +kernel
end
section
theorem dX9_notesOf_5 : decode cX9_notesOf 5 = .ok (.bipush 6, 2) := by decide +kernel
theorem dX9_notesOf_7 : decode cX9_notesOf 7 = .ok (.if_icmp .ge 21, 3) := by decide +kernel
theorem dX9_notesOf_10 : decode cX9_notesOf 10 = .ok (.iload_n 1, 1) := by decide +kernel
theorem dX9_notesOf_11 : decode cX9_notesOf 11 = .ok (.aload_n 0, 1) := by decide +kernel
theorem dX9_notesOf_12 : decode cX9_notesOf 12 = .ok (.bipush 60, 2) := by decide +kernel
theorem dX9_notesOf_14 : decode cX9_notesOf 14 = .ok (.iload_n 2, 1) := by decide +kernel
theorem dX9_notesOf_15 : decode cX9_notesOf 15 = .ok (.iadd, 1) := by decide +kernel
theorem dX9_notesOf_16 : decode cX9_notesOf 16 = .ok (.iaload, 1) := by decide +kernel
theorem dX9_notesOf_17 : decode cX9_notesOf 17 = .ok (.invokestatic 239, 3) := by decide +kernel
theorem dX9_notesOf_20 : decode cX9_notesOf 20 = .ok (.iadd, 1) := by decide +kernel
theorem dX9_notesOf_21 : decode cX9_notesOf 21 = .ok (.istore_n 1, 1) := by decide +kernel
theorem dX9_notesOf_22 : decode cX9_notesOf 22 = .ok (.iinc 2 1, 3) := by decide +kernel
theorem dX9_notesOf_25 : decode cX9_notesOf 25 = .ok (.goto (-21), 3) := by decide +kernel
theorem dX9_notesOf_28 : decode cX9_notesOf 28 = .ok (.iload_n 1, 1) := by decide +kernel
theorem dX9_notesOf_29 : decode cX9_notesOf 29 = .ok (.ireturn, 1) := by decide +kernel
theorem dX9_drawn_0 : decode cX9_drawn 0 = .ok (.aload_n 0, 1) := by decide +kernel
theorem dX9_drawn_1 : decode cX9_drawn 1 = .ok (.getfield 143, 3) := by decide +kernel
theorem dX9_drawn_4 : decode cX9_drawn 4 = .ok (.ifCond .ne 6, 3) := by decide +kernel
theorem dX9_drawn_7 : decode cX9_drawn 7 = .ok (.ldc 198, 2) := by decide +kernel
theorem dX9_drawn_9 : decode cX9_drawn 9 = .ok (.ireturn, 1) := by decide +kernel
theorem dX9_drawn_10 : decode cX9_drawn 10 = .ok (.iload_n 1, 1) := by decide +kernel
theorem dX9_drawn_11 : decode cX9_drawn 11 = .ok (.i2l, 1) := by decide +kernel
theorem dX9_drawn_12 : decode cX9_drawn 12 = .ok (.lconst 0, 1) := by decide +kernel
theorem dX9_drawn_13 : decode cX9_drawn 13 = .ok (.ldc2_w 260, 3) := by decide +kernel
theorem dX9_drawn_16 : decode cX9_drawn 16 = .ok (.invokestatic 60, 3) := by decide +kernel
theorem dX9_drawn_19 : decode cX9_drawn 19 = .ok (.ifCond .eq 22, 3) := by decide +kernel
theorem dX9_drawn_22 : decode cX9_drawn 22 = .ok (.iload_n 2, 1) := by decide +kernel
theorem dX9_drawn_23 : decode cX9_drawn 23 = .ok (.i2l, 1) := by decide +kernel
theorem dX9_drawn_24 : decode cX9_drawn 24 = .ok (.lconst 1, 1) := by decide +kernel
theorem dX9_drawn_25 : decode cX9_drawn 25 = .ok (.ldc2_w 262, 3) := by decide +kernel
theorem dX9_drawn_28 : decode cX9_drawn 28 = .ok (.invokestatic 60, 3) := by decide +kernel
theorem dX9_drawn_31 : decode cX9_drawn 31 = .ok (.ifCond .eq 10, 3) := by decide +kernel
theorem dX9_drawn_34 : decode cX9_drawn 34 = .ok (.iload_n 3, 1) := by decide +kernel
theorem dX9_drawn_35 : decode cX9_drawn 35 = .ok (.invokestatic 242, 3) := by decide +kernel
theorem dX9_drawn_38 : decode cX9_drawn 38 = .ok (.ifCond .ne 6, 3) := by decide +kernel
theorem dX9_drawn_41 : decode cX9_drawn 41 = .ok (.ldc 70, 2) := by decide +kernel
theorem dX9_drawn_43 : decode cX9_drawn 43 = .ok (.ireturn, 1) := by decide +kernel
theorem dX9_drawn_44 : decode cX9_drawn 44 = .ok (.aload_n 0, 1) := by decide +kernel
theorem dX9_drawn_45 : decode cX9_drawn 45 = .ok (.getfield 22, 3) := by decide +kernel
theorem dX9_drawn_48 : decode cX9_drawn 48 = .ok (.iconst 0, 1) := by decide +kernel
theorem dX9_drawn_49 : decode cX9_drawn 49 = .ok (.aload_n 0, 1) := by decide +kernel
theorem dX9_drawn_50 : decode cX9_drawn 50 = .ok (.getfield 50, 3) := by decide +kernel
theorem dX9_drawn_53 : decode cX9_drawn 53 = .ok (.iconst 0, 1) := by decide +kernel
theorem dX9_drawn_54 : decode cX9_drawn 54 = .ok (.invokestatic 150, 3) := by decide +kernel
theorem dX9_drawn_57 : decode cX9_drawn 57 = .ok (.iload_n 2, 1) := by decide +kernel
theorem dX9_drawn_58 : decode cX9_drawn 58 = .ok (.i2l, 1) := by decide +kernel
theorem dX9_drawn_59 : decode cX9_drawn 59 = .ok (.lstore 4, 2) := by decide +kernel
theorem dX9_drawn_61 : decode cX9_drawn 61 = .ok (.iconst 0, 1) := by decide +kernel
theorem dX9_drawn_62 : decode cX9_drawn 62 = .ok (.istore 6, 2) := by decide +kernel
theorem dX9_drawn_64 : decode cX9_drawn 64 = .ok (.iload 6, 2) := by decide +kernel
theorem dX9_drawn_66 : decode cX9_drawn 66 = .ok (.iload_n 1, 1) := by decide +kernel
theorem dX9_drawn_67 : decode cX9_drawn 67 = .ok (.if_icmp .ge 74, 3) := by decide +kernel
theorem dX9_drawn_70 : decode cX9_drawn 70 = .ok (.lload 4, 2) := by decide +kernel
theorem dX9_drawn_72 : decode cX9_drawn 72 = .ok (.ldc2_w 264, 3) := by decide +kernel
theorem dX9_drawn_75 : decode cX9_drawn 75 = .ok (.lmul, 1) := by decide +kernel
theorem dX9_drawn_76 : decode cX9_drawn 76 = .ok (.ldc2_w 266, 3) := by decide +kernel
theorem dX9_drawn_79 : decode cX9_drawn 79 = .ok (.lrem, 1) := by decide +kernel
theorem dX9_drawn_80 : decode cX9_drawn 80 = .ok (.lstore 4, 2) := by decide +kernel
theorem dX9_drawn_82 : decode cX9_drawn 82 = .ok (.lload 4, 2) := by decide +kernel
theorem dX9_drawn_84 : decode cX9_drawn 84 = .ok (.ldc2_w 229, 3) := by decide +kernel
theorem dX9_drawn_87 : decode cX9_drawn 87 = .ok (.lrem, 1) := by decide +kernel
theorem dX9_drawn_88 : decode cX9_drawn 88 = .ok (.l2i, 1) := by decide +kernel
theorem dX9_drawn_89 : decode cX9_drawn 89 = .ok (.istore 7, 2) := by decide +kernel
theorem dX9_drawn_91 : decode cX9_drawn 91 = .ok (.aload_n 0, 1) := by decide +kernel
theorem dX9_drawn_92 : decode cX9_drawn 92 = .ok (.getfield 50, 3) := by decide +kernel
theorem dX9_drawn_95 : decode cX9_drawn 95 = .ok (.bipush 44, 2) := by decide +kernel
theorem dX9_drawn_97 : decode cX9_drawn 97 = .ok (.iload 7, 2) := by decide +kernel
theorem dX9_drawn_99 : decode cX9_drawn 99 = .ok (.iadd, 1) := by decide +kernel
theorem dX9_drawn_100 : decode cX9_drawn 100 = .ok (.iaload, 1) := by decide +kernel
theorem dX9_drawn_101 : decode cX9_drawn 101 = .ok (.iconst 1, 1) := by decide +kernel
theorem dX9_drawn_102 : decode cX9_drawn 102 = .ok (.if_icmp .ne 26, 3) := by decide +kernel
theorem dX9_drawn_105 : decode cX9_drawn 105 = .ok (.aload_n 0, 1) := by decide +kernel
theorem dX9_drawn_106 : decode cX9_drawn 106 = .ok (.aload_n 0, 1) := by decide +kernel
theorem dX9_drawn_107 : decode cX9_drawn 107 = .ok (.getfield 50, 3) := by decide +kernel
theorem dX9_drawn_110 : decode cX9_drawn 110 = .ok (.iload 7, 2) := by decide +kernel
theorem dX9_drawn_112 : decode cX9_drawn 112 = .ok (.lload 4, 2) := by decide +kernel
theorem dX9_drawn_114 : decode cX9_drawn 114 = .ok (.aload_n 0, 1) := by decide +kernel
theorem dX9_drawn_115 : decode cX9_drawn 115 = .ok (.getfield 50, 3) := by decide +kernel
theorem dX9_drawn_118 : decode cX9_drawn 118 = .ok (.iconst 3, 1) := by decide +kernel
theorem dX9_drawn_119 : decode cX9_drawn 119 = .ok (.iaload, 1) := by decide +kernel
theorem dX9_drawn_120 : decode cX9_drawn 120 = .ok (.i2l, 1) := by decide +kernel
theorem dX9_drawn_121 : decode cX9_drawn 121 = .ok (.lrem, 1) := by decide +kernel
theorem dX9_drawn_122 : decode cX9_drawn 122 = .ok (.l2i, 1) := by decide +kernel
theorem dX9_drawn_123 : decode cX9_drawn 123 = .ok (.invokevirtual 219, 3) := by decide +kernel
theorem dX9_drawn_126 : decode cX9_drawn 126 = .ok (.istore 8, 2) := by decide +kernel
theorem dX9_drawn_128 : decode cX9_drawn 128 = .ok (.aload_n 0, 1) := by decide +kernel
theorem dX9_drawn_129 : decode cX9_drawn 129 = .ok (.getfield 50, 3) := by decide +kernel
theorem dX9_drawn_132 : decode cX9_drawn 132 = .ok (.invokestatic 209, 3) := by decide +kernel
theorem dX9_drawn_135 : decode cX9_drawn 135 = .ok (.iinc 6 1, 3) := by decide +kernel
theorem dX9_drawn_138 : decode cX9_drawn 138 = .ok (.goto (-74), 3) := by decide +kernel
theorem dX9_drawn_141 : decode cX9_drawn 141 = .ok (.iconst 0, 1) := by decide +kernel
theorem dX9_drawn_142 : decode cX9_drawn 142 = .ok (.istore 6, 2) := by decide +kernel
theorem dX9_drawn_144 : decode cX9_drawn 144 = .ok (.iconst 0, 1) := by decide +kernel
theorem dX9_drawn_145 : decode cX9_drawn 145 = .ok (.istore 7, 2) := by decide +kernel
theorem dX9_drawn_147 : decode cX9_drawn 147 = .ok (.iload 7, 2) := by decide +kernel
theorem dX9_drawn_149 : decode cX9_drawn 149 = .ok (.iconst 4, 1) := by decide +kernel
theorem dX9_drawn_150 : decode cX9_drawn 150 = .ok (.if_icmp .ge 24, 3) := by decide +kernel
theorem dX9_drawn_153 : decode cX9_drawn 153 = .ok (.iload 6, 2) := by decide +kernel
theorem dX9_drawn_155 : decode cX9_drawn 155 = .ok (.aload_n 0, 1) := by decide +kernel
theorem dX9_drawn_156 : decode cX9_drawn 156 = .ok (.getfield 50, 3) := by decide +kernel
theorem dX9_drawn_159 : decode cX9_drawn 159 = .ok (.bipush 52, 2) := by decide +kernel
theorem dX9_drawn_161 : decode cX9_drawn 161 = .ok (.iload 7, 2) := by decide +kernel
theorem dX9_drawn_163 : decode cX9_drawn 163 = .ok (.iadd, 1) := by decide +kernel
theorem dX9_drawn_164 : decode cX9_drawn 164 = .ok (.iaload, 1) := by decide +kernel
theorem dX9_drawn_165 : decode cX9_drawn 165 = .ok (.iadd, 1) := by decide +kernel
theorem dX9_drawn_166 : decode cX9_drawn 166 = .ok (.istore 6, 2) := by decide +kernel
theorem dX9_drawn_168 : decode cX9_drawn 168 = .ok (.iinc 7 1, 3) := by decide +kernel
theorem dX9_drawn_171 : decode cX9_drawn 171 = .ok (.goto (-24), 3) := by decide +kernel
theorem dX9_drawn_174 : decode cX9_drawn 174 = .ok (.iload_n 3, 1) := by decide +kernel
theorem dX9_drawn_175 : decode cX9_drawn 175 = .ok (.ifCond .ne 13, 3) := by decide +kernel
theorem dX9_drawn_178 : decode cX9_drawn 178 = .ok (.aload_n 0, 1) := by decide +kernel
theorem dX9_drawn_179 : decode cX9_drawn 179 = .ok (.getfield 50, 3) := by decide +kernel
theorem dX9_drawn_182 : decode cX9_drawn 182 = .ok (.invokestatic 268, 3) := by decide +kernel
theorem dX9_drawn_185 : decode cX9_drawn 185 = .ok (.goto 5, 3) := by decide +kernel
theorem dX9_drawn_188 : decode cX9_drawn 188 = .ok (.iload 6, 2) := by decide +kernel
theorem dX9_drawn_190 : decode cX9_drawn 190 = .ok (.ireturn, 1) := by decide +kernel
theorem dX9_image_0 : decode cX9_image 0 = .ok (.iload_n 1, 1) := by decide +kernel
theorem dX9_image_1 : decode cX9_image 1 = .ok (.invokestatic 242, 3) := by decide +kernel
theorem dX9_image_4 : decode cX9_image 4 = .ok (.ifCond .ne 6, 3) := by decide +kernel
theorem dX9_image_7 : decode cX9_image 7 = .ok (.ldc 70, 2) := by decide +kernel
theorem dX9_image_9 : decode cX9_image 9 = .ok (.ireturn, 1) := by decide +kernel
theorem dX9_image_10 : decode cX9_image 10 = .ok (.aload_n 0, 1) := by decide +kernel
theorem dX9_image_11 : decode cX9_image 11 = .ok (.getfield 143, 3) := by decide +kernel
theorem dX9_image_14 : decode cX9_image 14 = .ok (.ifCond .ne 6, 3) := by decide +kernel
theorem dX9_image_17 : decode cX9_image 17 = .ok (.ldc 198, 2) := by decide +kernel
theorem dX9_image_19 : decode cX9_image 19 = .ok (.ireturn, 1) := by decide +kernel
theorem dX9_image_20 : decode cX9_image 20 = .ok (.aload_n 0, 1) := by decide +kernel
theorem dX9_image_21 : decode cX9_image 21 = .ok (.getfield 22, 3) := by decide +kernel
theorem dX9_image_24 : decode cX9_image 24 = .ok (.iconst 0, 1) := by decide +kernel
theorem dX9_image_25 : decode cX9_image 25 = .ok (.aload_n 0, 1) := by decide +kernel
theorem dX9_image_26 : decode cX9_image 26 = .ok (.getfield 28, 3) := by decide +kernel
theorem dX9_image_29 : decode cX9_image 29 = .ok (.bipush 66, 2) := by decide +kernel
theorem dX9_image_31 : decode cX9_image 31 = .ok (.iload_n 1, 1) := by decide +kernel
theorem dX9_image_32 : decode cX9_image 32 = .ok (.imul, 1) := by decide +kernel
theorem dX9_image_33 : decode cX9_image 33 = .ok (.invokestatic 150, 3) := by decide +kernel
theorem dX9_image_36 : decode cX9_image 36 = .ok (.aload_n 0, 1) := by decide +kernel
theorem dX9_image_37 : decode cX9_image 37 = .ok (.getfield 31, 3) := by decide +kernel
theorem dX9_image_40 : decode cX9_image 40 = .ok (.iload_n 1, 1) := by decide +kernel
theorem dX9_image_41 : decode cX9_image 41 = .ok (.iconst 1, 1) := by decide +kernel
theorem dX9_image_42 : decode cX9_image 42 = .ok (.bastore, 1) := by decide +kernel
theorem dX9_image_43 : decode cX9_image 43 = .ok (.iconst 1, 1) := by decide +kernel
theorem dX9_image_44 : decode cX9_image 44 = .ok (.ireturn, 1) := by decide +kernel
theorem dX9_restore_0 : decode cX9_restore 0 = .ok (.iload_n 1, 1) := by decide +kernel
theorem dX9_restore_1 : decode cX9_restore 1 = .ok (.invokestatic 242, 3) := by decide +kernel
theorem dX9_restore_4 : decode cX9_restore 4 = .ok (.ifCond .ne 6, 3) := by decide +kernel
theorem dX9_restore_7 : decode cX9_restore 7 = .ok (.ldc 70, 2) := by decide +kernel
theorem dX9_restore_9 : decode cX9_restore 9 = .ok (.ireturn, 1) := by decide +kernel
theorem dX9_restore_10 : decode cX9_restore 10 = .ok (.aload_n 0, 1) := by decide +kernel
theorem dX9_restore_11 : decode cX9_restore 11 = .ok (.getfield 31, 3) := by decide +kernel
theorem dX9_restore_14 : decode cX9_restore 14 = .ok (.iload_n 1, 1) := by decide +kernel
theorem dX9_restore_15 : decode cX9_restore 15 = .ok (.baload, 1) := by decide +kernel
theorem dX9_restore_16 : decode cX9_restore 16 = .ok (.ifCond .ne 6, 3) := by decide +kernel
theorem dX9_restore_19 : decode cX9_restore 19 = .ok (.ldc 198, 2) := by decide +kernel
theorem dX9_restore_21 : decode cX9_restore 21 = .ok (.ireturn, 1) := by decide +kernel
theorem dX9_restore_22 : decode cX9_restore 22 = .ok (.aload_n 0, 1) := by decide +kernel
theorem dX9_restore_23 : decode cX9_restore 23 = .ok (.getfield 28, 3) := by decide +kernel
theorem dX9_restore_26 : decode cX9_restore 26 = .ok (.bipush 66, 2) := by decide +kernel
theorem dX9_restore_28 : decode cX9_restore 28 = .ok (.iload_n 1, 1) := by decide +kernel
theorem dX9_restore_29 : decode cX9_restore 29 = .ok (.imul, 1) := by decide +kernel
theorem dX9_restore_30 : decode cX9_restore 30 = .ok (.aload_n 0, 1) := by decide +kernel
theorem dX9_restore_31 : decode cX9_restore 31 = .ok (.getfield 22, 3) := by decide +kernel
theorem dX9_restore_34 : decode cX9_restore 34 = .ok (.iconst 0, 1) := by decide +kernel
theorem dX9_restore_35 : decode cX9_restore 35 = .ok (.invokestatic 150, 3) := by decide +kernel
theorem dX9_restore_38 : decode cX9_restore 38 = .ok (.aload_n 0, 1) := by decide +kernel
theorem dX9_restore_39 : decode cX9_restore 39 = .ok (.iconst 0, 1) := by decide +kernel
theorem dX9_restore_40 : decode cX9_restore 40 = .ok (.putfield 147, 3) := by decide +kernel
theorem dX9_restore_43 : decode cX9_restore 43 = .ok (.iconst 1, 1) := by decide +kernel
theorem dX9_restore_44 : decode cX9_restore 44 = .ok (.ireturn, 1) := by decide +kernel
theorem dX9_kind_0 : decode cX9_kind 0 = .ok (.aload_n 0, 1) := by decide +kernel
theorem dX9_kind_1 : decode cX9_kind 1 = .ok (.iload_n 1, 1) := by decide +kernel
theorem dX9_kind_2 : decode cX9_kind 2 = .ok (.invokevirtual 199, 3) := by decide +kernel
theorem dX9_kind_5 : decode cX9_kind 5 = .ok (.ifCond .eq 15, 3) := by decide +kernel
theorem dX9_kind_8 : decode cX9_kind 8 = .ok (.aload_n 0, 1) := by decide +kernel
theorem dX9_kind_9 : decode cX9_kind 9 = .ok (.getfield 22, 3) := by decide +kernel
theorem dX9_kind_12 : decode cX9_kind 12 = .ok (.bipush 6, 2) := by decide +kernel
theorem dX9_kind_14 : decode cX9_kind 14 = .ok (.iload_n 1, 1) := by decide +kernel
theorem dX9_kind_15 : decode cX9_kind 15 = .ok (.iadd, 1) := by decide +kernel
theorem dX9_kind_16 : decode cX9_kind 16 = .ok (.iaload, 1) := by decide +kernel
theorem dX9_kind_17 : decode cX9_kind 17 = .ok (.goto 5, 3) := by decide +kernel
theorem dX9_kind_20 : decode cX9_kind 20 = .ok (.ldc 70, 2) := by decide +kernel
theorem dX9_kind_22 : decode cX9_kind 22 = .ok (.ireturn, 1) := by decide +kernel
theorem dX9_isOf_0 : decode cX9_isOf 0 = .ok (.iload_n 1, 1) := by decide +kernel
theorem dX9_isOf_1 : decode cX9_isOf 1 = .ok (.ifCond .eq 33, 3) := by decide +kernel
theorem dX9_isOf_4 : decode cX9_isOf 4 = .ok (.iload_n 0, 1) := by decide +kernel
theorem dX9_isOf_5 : decode cX9_isOf 5 = .ok (.iload_n 1, 1) := by decide +kernel
theorem dX9_isOf_6 : decode cX9_isOf 6 = .ok (.if_icmp .eq 28, 3) := by decide +kernel
theorem dX9_isOf_9 : decode cX9_isOf 9 = .ok (.iload_n 1, 1) := by decide +kernel
theorem dX9_isOf_10 : decode cX9_isOf 10 = .ok (.iconst 1, 1) := by decide +kernel
theorem dX9_isOf_11 : decode cX9_isOf 11 = .ok (.if_icmp .ne 13, 3) := by decide +kernel
theorem dX9_isOf_14 : decode cX9_isOf 14 = .ok (.iload_n 0, 1) := by decide +kernel
theorem dX9_isOf_15 : decode cX9_isOf 15 = .ok (.iconst 2, 1) := by decide +kernel
theorem dX9_isOf_16 : decode cX9_isOf 16 = .ok (.if_icmp .eq 18, 3) := by decide +kernel
theorem dX9_isOf_19 : decode cX9_isOf 19 = .ok (.iload_n 0, 1) := by decide +kernel
theorem dX9_isOf_20 : decode cX9_isOf 20 = .ok (.iconst 3, 1) := by decide +kernel
theorem dX9_isOf_21 : decode cX9_isOf 21 = .ok (.if_icmp .eq 13, 3) := by decide +kernel
theorem dX9_isOf_24 : decode cX9_isOf 24 = .ok (.iload_n 1, 1) := by decide +kernel
theorem dX9_isOf_25 : decode cX9_isOf 25 = .ok (.iconst 4, 1) := by decide +kernel
theorem dX9_isOf_26 : decode cX9_isOf 26 = .ok (.if_icmp .ne 12, 3) := by decide +kernel
theorem dX9_isOf_29 : decode cX9_isOf 29 = .ok (.iload_n 0, 1) := by decide +kernel
theorem dX9_isOf_30 : decode cX9_isOf 30 = .ok (.iconst 5, 1) := by decide +kernel
theorem dX9_isOf_31 : decode cX9_isOf 31 = .ok (.if_icmp .ne 7, 3) := by decide +kernel
theorem dX9_isOf_34 : decode cX9_isOf 34 = .ok (.iconst 1, 1) := by decide +kernel
theorem dX9_isOf_35 : decode cX9_isOf 35 = .ok (.goto 4, 3) := by decide +kernel
theorem dX9_isOf_38 : decode cX9_isOf 38 = .ok (.iconst 0, 1) := by decide +kernel
theorem dX9_isOf_39 : decode cX9_isOf 39 = .ok (.ireturn, 1) := by decide +kernel
theorem dX9_as_0 : decode cX9_as 0 = .ok (.aload_n 0, 1) := by decide +kernel
theorem dX9_as_1 : decode cX9_as 1 = .ok (.iload_n 1, 1) := by decide +kernel
theorem dX9_as_2 : decode cX9_as 2 = .ok (.invokevirtual 199, 3) := by decide +kernel
theorem dX9_as_5 : decode cX9_as 5 = .ok (.ifCond .eq 15, 3) := by decide +kernel
theorem dX9_as_8 : decode cX9_as 8 = .ok (.iload_n 2, 1) := by decide +kernel
theorem dX9_as_9 : decode cX9_as 9 = .ok (.i2l, 1) := by decide +kernel
theorem dX9_as_10 : decode cX9_as 10 = .ok (.lconst 0, 1) := by decide +kernel
theorem dX9_as_11 : decode cX9_as 11 = .ok (.ldc2_w 272, 3) := by decide +kernel
theorem dX9_as_14 : decode cX9_as 14 = .ok (.invokestatic 60, 3) := by decide +kernel
theorem dX9_as_17 : decode cX9_as 17 = .ok (.ifCond .ne 6, 3) := by decide +kernel
theorem dX9_as_20 : decode cX9_as 20 = .ok (.ldc 70, 2) := by decide +kernel
theorem dX9_as_22 : decode cX9_as 22 = .ok (.ireturn, 1) := by decide +kernel
theorem dX9_as_23 : decode cX9_as 23 = .ok (.aload_n 0, 1) := by decide +kernel
theorem dX9_as_24 : decode cX9_as 24 = .ok (.getfield 22, 3) := by decide +kernel
theorem dX9_as_27 : decode cX9_as 27 = .ok (.bipush 6, 2) := by decide +kernel
theorem dX9_as_29 : decode cX9_as 29 = .ok (.iload_n 1, 1) := by decide +kernel
theorem dX9_as_30 : decode cX9_as 30 = .ok (.iadd, 1) := by decide +kernel
theorem dX9_as_31 : decode cX9_as 31 = .ok (.iaload, 1) := by decide +kernel
theorem dX9_as_32 : decode cX9_as 32 = .ok (.iload_n 2, 1) := by decide +kernel
theorem dX9_as_33 : decode cX9_as 33 = .ok (.invokestatic 274, 3) := by decide +kernel
theorem dX9_as_36 : decode cX9_as 36 = .ok (.ifCond .eq 11, 3) := by decide +kernel
theorem dX9_as_39 : decode cX9_as 39 = .ok (.aload_n 0, 1) := by decide +kernel
theorem dX9_as_40 : decode cX9_as 40 = .ok (.iload_n 1, 1) := by decide +kernel
theorem dX9_as_41 : decode cX9_as 41 = .ok (.invokevirtual 75, 3) := by decide +kernel
theorem dX9_as_44 : decode cX9_as 44 = .ok (.goto 8, 3) := by decide +kernel
theorem dX9_as_47 : decode cX9_as 47 = .ok (.aload_n 0, 1) := by decide +kernel
theorem dX9_as_48 : decode cX9_as 48 = .ok (.iconst 3, 1) := by decide +kernel
theorem dX9_as_49 : decode cX9_as 49 = .ok (.invokevirtual 71, 3) := by decide +kernel
theorem dX9_as_52 : decode cX9_as 52 = .ok (.ireturn, 1) := by decide +kernel
theorem dX9_leave_0 : decode cX9_leave 0 = .ok (.lconst 1, 1) := by decide +kernel
theorem dX9_leave_1 : decode cX9_leave 1 = .ok (.lstore_n 3, 1) := by decide +kernel
theorem dX9_leave_2 : decode cX9_leave 2 = .ok (.lload_n 3, 1) := by decide +kernel
theorem dX9_leave_3 : decode cX9_leave 3 = .ok (.ldc2_w 277, 3) := by decide +kernel
theorem dX9_leave_6 : decode cX9_leave 6 = .ok (.lmul, 1) := by decide +kernel
theorem dX9_leave_7 : decode cX9_leave 7 = .ok (.lload_n 1, 1) := by decide +kernel
theorem dX9_leave_8 : decode cX9_leave 8 = .ok (.lcmp, 1) := by decide +kernel
theorem dX9_leave_9 : decode cX9_leave 9 = .ok (.ifCond .gt 12, 3) := by decide +kernel
theorem dX9_leave_12 : decode cX9_leave 12 = .ok (.lload_n 3, 1) := by decide +kernel
theorem dX9_leave_13 : decode cX9_leave 13 = .ok (.ldc2_w 277, 3) := by decide +kernel
theorem dX9_leave_16 : decode cX9_leave 16 = .ok (.lmul, 1) := by decide +kernel
theorem dX9_leave_17 : decode cX9_leave 17 = .ok (.lstore_n 3, 1) := by decide +kernel
theorem dX9_leave_18 : decode cX9_leave 18 = .ok (.goto (-16), 3) := by decide +kernel
theorem dX9_leave_21 : decode cX9_leave 21 = .ok (.lload_n 1, 1) := by decide +kernel
theorem dX9_leave_22 : decode cX9_leave 22 = .ok (.lstore 5, 2) := by decide +kernel
theorem dX9_leave_24 : decode cX9_leave 24 = .ok (.lload_n 3, 1) := by decide +kernel
theorem dX9_leave_25 : decode cX9_leave 25 = .ok (.lconst 0, 1) := by decide +kernel
theorem dX9_leave_26 : decode cX9_leave 26 = .ok (.lcmp, 1) := by decide +kernel
theorem dX9_leave_27 : decode cX9_leave 27 = .ok (.ifCond .le 42, 3) := by decide +kernel
theorem dX9_leave_30 : decode cX9_leave 30 = .ok (.aload_n 0, 1) := by decide +kernel
theorem dX9_leave_31 : decode cX9_leave 31 = .ok (.getfield 35, 3) := by decide +kernel
theorem dX9_leave_34 : decode cX9_leave 34 = .ok (.aload_n 0, 1) := by decide +kernel
theorem dX9_leave_35 : decode cX9_leave 35 = .ok (.getfield 279, 3) := by decide +kernel
theorem dX9_leave_38 : decode cX9_leave 38 = .ok (.lload 5, 2) := by decide +kernel
theorem dX9_leave_40 : decode cX9_leave 40 = .ok (.lload_n 3, 1) := by decide +kernel
theorem dX9_leave_41 : decode cX9_leave 41 = .ok (.ldiv, 1) := by decide +kernel
theorem dX9_leave_42 : decode cX9_leave 42 = .ok (.l2i, 1) := by decide +kernel
theorem dX9_leave_43 : decode cX9_leave 43 = .ok (.iastore, 1) := by decide +kernel
theorem dX9_leave_44 : decode cX9_leave 44 = .ok (.lload 5, 2) := by decide +kernel
theorem dX9_leave_46 : decode cX9_leave 46 = .ok (.lload_n 3, 1) := by decide +kernel
theorem dX9_leave_47 : decode cX9_leave 47 = .ok (.lrem, 1) := by decide +kernel
theorem dX9_leave_48 : decode cX9_leave 48 = .ok (.lstore 5, 2) := by decide +kernel
theorem dX9_leave_50 : decode cX9_leave 50 = .ok (.aload_n 0, 1) := by decide +kernel
theorem dX9_leave_51 : decode cX9_leave 51 = .ok (.dup, 1) := by decide +kernel
theorem dX9_leave_52 : decode cX9_leave 52 = .ok (.getfield 279, 3) := by decide +kernel
theorem dX9_leave_55 : decode cX9_leave 55 = .ok (.iconst 1, 1) := by decide +kernel
theorem dX9_leave_56 : decode cX9_leave 56 = .ok (.iadd, 1) := by decide +kernel
theorem dX9_leave_57 : decode cX9_leave 57 = .ok (.putfield 279, 3) := by decide +kernel
theorem dX9_leave_60 : decode cX9_leave 60 = .ok (.lload_n 3, 1) := by decide +kernel
theorem dX9_leave_61 : decode cX9_leave 61 = .ok (.ldc2_w 277, 3) := by decide +kernel
theorem dX9_leave_64 : decode cX9_leave 64 = .ok (.ldiv, 1) := by decide +kernel
theorem dX9_leave_65 : decode cX9_leave 65 = .ok (.lstore_n 3, 1) := by decide +kernel
theorem dX9_leave_66 : decode cX9_leave 66 = .ok (.goto (-42), 3) := by decide +kernel
theorem dX9_leave_69 : decode cX9_leave 69 = .ok (.return_, 1) := by decide +kernel
theorem dX9_mark_0 : decode cX9_mark 0 = .ok (.aload_n 0, 1) := by decide +kernel
theorem dX9_mark_1 : decode cX9_mark 1 = .ok (.getfield 22, 3) := by decide +kernel
theorem dX9_mark_4 : decode cX9_mark 4 = .ok (.bipush 6, 2) := by decide +kernel
theorem dX9_mark_6 : decode cX9_mark 6 = .ok (.iload_n 1, 1) := by decide +kernel
theorem dX9_mark_7 : decode cX9_mark 7 = .ok (.iadd, 1) := by decide +kernel
theorem dX9_mark_8 : decode cX9_mark 8 = .ok (.iaload, 1) := by decide +kernel
theorem dX9_mark_9 : decode cX9_mark 9 = .ok (.istore_n 2, 1) := by decide +kernel
theorem dX9_mark_10 : decode cX9_mark 10 = .ok (.iload_n 1, 1) := by decide +kernel
theorem dX9_mark_11 : decode cX9_mark 11 = .ok (.aload_n 0, 1) := by decide +kernel
theorem dX9_mark_12 : decode cX9_mark 12 = .ok (.getfield 22, 3) := by decide +kernel
theorem dX9_mark_15 : decode cX9_mark 15 = .ok (.bipush 18, 2) := by decide +kernel
theorem dX9_mark_17 : decode cX9_mark 17 = .ok (.iload_n 1, 1) := by decide +kernel
theorem dX9_mark_18 : decode cX9_mark 18 = .ok (.iadd, 1) := by decide +kernel
theorem dX9_mark_19 : decode cX9_mark 19 = .ok (.iaload, 1) := by decide +kernel
theorem dX9_mark_20 : decode cX9_mark 20 = .ok (.iadd, 1) := by decide +kernel
theorem dX9_mark_21 : decode cX9_mark 21 = .ok (.istore_n 3, 1) := by decide +kernel
theorem dX9_mark_22 : decode cX9_mark 22 = .ok (.aload_n 0, 1) := by decide +kernel
theorem dX9_mark_23 : decode cX9_mark 23 = .ok (.iload_n 2, 1) := by decide +kernel
theorem dX9_mark_24 : decode cX9_mark 24 = .ok (.iconst 2, 1) := by decide +kernel
theorem dX9_mark_25 : decode cX9_mark 25 = .ok (.if_icmp .ne 9, 3) := by decide +kernel
theorem dX9_mark_28 : decode cX9_mark 28 = .ok (.ldc2_w 282, 3) := by decide +kernel
theorem dX9_mark_31 : decode cX9_mark 31 = .ok (.goto 17, 3) := by decide +kernel
theorem dX9_mark_34 : decode cX9_mark 34 = .ok (.iload_n 2, 1) := by decide +kernel
theorem dX9_mark_35 : decode cX9_mark 35 = .ok (.iconst 3, 1) := by decide +kernel
theorem dX9_mark_36 : decode cX9_mark 36 = .ok (.if_icmp .ne 9, 3) := by decide +kernel
theorem dX9_mark_39 : decode cX9_mark 39 = .ok (.ldc2_w 284, 3) := by decide +kernel
theorem dX9_mark_42 : decode cX9_mark 42 = .ok (.goto 6, 3) := by decide +kernel
theorem dX9_mark_45 : decode cX9_mark 45 = .ok (.ldc2_w 286, 3) := by decide +kernel
theorem dX9_mark_48 : decode cX9_mark 48 = .ok (.invokevirtual 288, 3) := by decide +kernel
theorem dX9_mark_51 : decode cX9_mark 51 = .ok (.iload_n 2, 1) := by decide +kernel
theorem dX9_mark_52 : decode cX9_mark 52 = .ok (.iconst 2, 1) := by decide +kernel
theorem dX9_mark_53 : decode cX9_mark 53 = .ok (.if_icmp .ne 9, 3) := by decide +kernel
theorem dX9_mark_56 : decode cX9_mark 56 = .ok (.iconst 2, 1) := by decide +kernel
theorem dX9_mark_57 : decode cX9_mark 57 = .ok (.iload_n 3, 1) := by decide +kernel
theorem dX9_mark_58 : decode cX9_mark 58 = .ok (.imul, 1) := by decide +kernel
theorem dX9_mark_59 : decode cX9_mark 59 = .ok (.goto 17, 3) := by decide +kernel
theorem dX9_mark_62 : decode cX9_mark 62 = .ok (.iload_n 2, 1) := by decide +kernel
theorem dX9_mark_63 : decode cX9_mark 63 = .ok (.iconst 3, 1) := by decide +kernel
theorem dX9_mark_64 : decode cX9_mark 64 = .ok (.if_icmp .ne 11, 3) := by decide +kernel
theorem dX9_mark_67 : decode cX9_mark 67 = .ok (.iload_n 3, 1) := by decide +kernel
theorem dX9_mark_68 : decode cX9_mark 68 = .ok (.sipush 1000, 3) := by decide +kernel
theorem dX9_mark_71 : decode cX9_mark 71 = .ok (.isub, 1) := by decide +kernel
theorem dX9_mark_72 : decode cX9_mark 72 = .ok (.goto 4, 3) := by decide +kernel
theorem dX9_mark_75 : decode cX9_mark 75 = .ok (.iload_n 3, 1) := by decide +kernel
theorem dX9_mark_76 : decode cX9_mark 76 = .ok (.ireturn, 1) := by decide +kernel
theorem dX9_sizeOf_0 : decode cX9_sizeOf 0 = .ok (.aload_n 0, 1) := by decide +kernel
theorem dX9_sizeOf_1 : decode cX9_sizeOf 1 = .ok (.getfield 22, 3) := by decide +kernel
theorem dX9_sizeOf_4 : decode cX9_sizeOf 4 = .ok (.bipush 12, 2) := by decide +kernel
theorem dX9_sizeOf_6 : decode cX9_sizeOf 6 = .ok (.iload_n 1, 1) := by decide +kernel
theorem dX9_sizeOf_7 : decode cX9_sizeOf 7 = .ok (.iadd, 1) := by decide +kernel
theorem dX9_sizeOf_8 : decode cX9_sizeOf 8 = .ok (.iaload, 1) := by decide +kernel
theorem dX9_sizeOf_9 : decode cX9_sizeOf 9 = .ok (.bipush 100, 2) := by decide +kernel
theorem dX9_sizeOf_11 : decode cX9_sizeOf 11 = .ok (.isub, 1) := by decide +kernel
theorem dX9_sizeOf_12 : decode cX9_sizeOf 12 = .ok (.istore_n 2, 1) := by decide +kernel
theorem dX9_sizeOf_13 : decode cX9_sizeOf 13 = .ok (.aload_n 0, 1) := by decide +kernel
theorem dX9_sizeOf_14 : decode cX9_sizeOf 14 = .ok (.getfield 22, 3) := by decide +kernel
theorem dX9_sizeOf_17 : decode cX9_sizeOf 17 = .ok (.bipush 6, 2) := by decide +kernel
theorem dX9_sizeOf_19 : decode cX9_sizeOf 19 = .ok (.iload_n 1, 1) := by decide +kernel
theorem dX9_sizeOf_20 : decode cX9_sizeOf 20 = .ok (.iadd, 1) := by decide +kernel
theorem dX9_sizeOf_21 : decode cX9_sizeOf 21 = .ok (.iaload, 1) := by decide +kernel
theorem dX9_sizeOf_22 : decode cX9_sizeOf 22 = .ok (.iconst 5, 1) := by decide +kernel
theorem dX9_sizeOf_23 : decode cX9_sizeOf 23 = .ok (.if_icmp .ne 7, 3) := by decide +kernel
theorem dX9_sizeOf_26 : decode cX9_sizeOf 26 = .ok (.iconst 1, 1) := by decide +kernel
theorem dX9_sizeOf_27 : decode cX9_sizeOf 27 = .ok (.goto 4, 3) := by decide +kernel
theorem dX9_sizeOf_30 : decode cX9_sizeOf 30 = .ok (.iconst 0, 1) := by decide +kernel
theorem dX9_sizeOf_31 : decode cX9_sizeOf 31 = .ok (.istore_n 3, 1) := by decide +kernel
theorem dX9_sizeOf_32 : decode cX9_sizeOf 32 = .ok (.aload_n 0, 1) := by decide +kernel
theorem dX9_sizeOf_33 : decode cX9_sizeOf 33 = .ok (.iload_n 3, 1) := by decide +kernel
theorem dX9_sizeOf_34 : decode cX9_sizeOf 34 = .ok (.ifCond .eq 9, 3) := by decide +kernel
theorem dX9_sizeOf_37 : decode cX9_sizeOf 37 = .ok (.ldc2_w 292, 3) := by decide +kernel
theorem dX9_sizeOf_40 : decode cX9_sizeOf 40 = .ok (.goto 6, 3) := by decide +kernel
theorem dX9_sizeOf_43 : decode cX9_sizeOf 43 = .ok (.ldc2_w 294, 3) := by decide +kernel
theorem dX9_sizeOf_46 : decode cX9_sizeOf 46 = .ok (.invokevirtual 288, 3) := by decide +kernel
theorem dX9_sizeOf_49 : decode cX9_sizeOf 49 = .ok (.iload_n 3, 1) := by decide +kernel
theorem dX9_sizeOf_50 : decode cX9_sizeOf 50 = .ok (.ifCond .eq 9, 3) := by decide +kernel
theorem dX9_sizeOf_53 : decode cX9_sizeOf 53 = .ok (.iconst 2, 1) := by decide +kernel
theorem dX9_sizeOf_54 : decode cX9_sizeOf 54 = .ok (.iload_n 2, 1) := by decide +kernel
theorem dX9_sizeOf_55 : decode cX9_sizeOf 55 = .ok (.imul, 1) := by decide +kernel
theorem dX9_sizeOf_56 : decode cX9_sizeOf 56 = .ok (.goto 4, 3) := by decide +kernel
theorem dX9_sizeOf_59 : decode cX9_sizeOf 59 = .ok (.iload_n 2, 1) := by decide +kernel
theorem dX9_sizeOf_60 : decode cX9_sizeOf 60 = .ok (.ireturn, 1) := by decide +kernel
theorem dX9_ask_0 : decode cX9_ask 0 = .ok (.aload_n 0, 1) := by decide +kernel
theorem dX9_ask_1 : decode cX9_ask 1 = .ok (.iload_n 1, 1) := by decide +kernel
theorem dX9_ask_2 : decode cX9_ask 2 = .ok (.invokevirtual 199, 3) := by decide +kernel
theorem dX9_ask_5 : decode cX9_ask 5 = .ok (.ifCond .eq 13, 3) := by decide +kernel
theorem dX9_ask_8 : decode cX9_ask 8 = .ok (.iload_n 2, 1) := by decide +kernel
theorem dX9_ask_9 : decode cX9_ask 9 = .ok (.i2l, 1) := by decide +kernel
theorem dX9_ask_10 : decode cX9_ask 10 = .ok (.lconst 0, 1) := by decide +kernel
theorem dX9_ask_11 : decode cX9_ask 11 = .ok (.lconst 1, 1) := by decide +kernel
theorem dX9_ask_12 : decode cX9_ask 12 = .ok (.invokestatic 60, 3) := by decide +kernel
theorem dX9_ask_15 : decode cX9_ask 15 = .ok (.ifCond .ne 6, 3) := by decide +kernel
theorem dX9_ask_18 : decode cX9_ask 18 = .ok (.ldc 70, 2) := by decide +kernel
theorem dX9_ask_20 : decode cX9_ask 20 = .ok (.ireturn, 1) := by decide +kernel
theorem dX9_ask_21 : decode cX9_ask 21 = .ok (.aload_n 0, 1) := by decide +kernel
theorem dX9_ask_22 : decode cX9_ask 22 = .ok (.iconst 0, 1) := by decide +kernel
theorem dX9_ask_23 : decode cX9_ask 23 = .ok (.putfield 279, 3) := by decide +kernel
theorem dX9_ask_26 : decode cX9_ask 26 = .ok (.aload_n 0, 1) := by decide +kernel
theorem dX9_ask_27 : decode cX9_ask 27 = .ok (.getfield 22, 3) := by decide +kernel
theorem dX9_ask_30 : decode cX9_ask 30 = .ok (.bipush 6, 2) := by decide +kernel
theorem dX9_ask_32 : decode cX9_ask 32 = .ok (.iload_n 1, 1) := by decide +kernel
theorem dX9_ask_33 : decode cX9_ask 33 = .ok (.iadd, 1) := by decide +kernel
theorem dX9_ask_34 : decode cX9_ask 34 = .ok (.iaload, 1) := by decide +kernel
theorem dX9_ask_35 : decode cX9_ask 35 = .ok (.istore_n 3, 1) := by decide +kernel
theorem dX9_ask_36 : decode cX9_ask 36 = .ok (.iload_n 3, 1) := by decide +kernel
theorem dX9_ask_37 : decode cX9_ask 37 = .ok (.iconst 4, 1) := by decide +kernel
theorem dX9_ask_38 : decode cX9_ask 38 = .ok (.if_icmp .ge 63, 3) := by decide +kernel
theorem dX9_ask_41 : decode cX9_ask 41 = .ok (.iload_n 2, 1) := by decide +kernel
theorem dX9_ask_42 : decode cX9_ask 42 = .ok (.iconst 1, 1) := by decide +kernel
theorem dX9_ask_43 : decode cX9_ask 43 = .ok (.if_icmp .ne 9, 3) := by decide +kernel
theorem dX9_ask_46 : decode cX9_ask 46 = .ok (.aload_n 0, 1) := by decide +kernel
theorem dX9_ask_47 : decode cX9_ask 47 = .ok (.iload_n 1, 1) := by decide +kernel
theorem dX9_ask_48 : decode cX9_ask 48 = .ok (.invokevirtual 296, 3) := by decide +kernel
theorem dX9_ask_51 : decode cX9_ask 51 = .ok (.ireturn, 1) := by decide +kernel
theorem dX9_ask_52 : decode cX9_ask 52 = .ok (.aload_n 0, 1) := by decide +kernel
theorem dX9_ask_53 : decode cX9_ask 53 = .ok (.iload_n 3, 1) := by decide +kernel
theorem dX9_ask_54 : decode cX9_ask 54 = .ok (.iconst 2, 1) := by decide +kernel
theorem dX9_ask_55 : decode cX9_ask 55 = .ok (.if_icmp .ne 9, 3) := by decide +kernel
theorem dX9_ask_58 : decode cX9_ask 58 = .ok (.ldc2_w 299, 3) := by decide +kernel
theorem dX9_ask_61 : decode cX9_ask 61 = .ok (.goto 6, 3) := by decide +kernel
theorem dX9_ask_64 : decode cX9_ask 64 = .ok (.ldc2_w 301, 3) := by decide +kernel
theorem dX9_ask_67 : decode cX9_ask 67 = .ok (.invokevirtual 288, 3) := by decide +kernel
theorem dX9_ask_70 : decode cX9_ask 70 = .ok (.aload_n 0, 1) := by decide +kernel
theorem dX9_ask_71 : decode cX9_ask 71 = .ok (.getfield 22, 3) := by decide +kernel
theorem dX9_ask_74 : decode cX9_ask 74 = .ok (.bipush 12, 2) := by decide +kernel
theorem dX9_ask_76 : decode cX9_ask 76 = .ok (.iload_n 1, 1) := by decide +kernel
theorem dX9_ask_77 : decode cX9_ask 77 = .ok (.iadd, 1) := by decide +kernel
theorem dX9_ask_78 : decode cX9_ask 78 = .ok (.iaload, 1) := by decide +kernel
theorem dX9_ask_79 : decode cX9_ask 79 = .ok (.aload_n 0, 1) := by decide +kernel
theorem dX9_ask_80 : decode cX9_ask 80 = .ok (.iload_n 1, 1) := by decide +kernel
theorem dX9_ask_81 : decode cX9_ask 81 = .ok (.invokevirtual 296, 3) := by decide +kernel
theorem dX9_ask_84 : decode cX9_ask 84 = .ok (.iadd, 1) := by decide +kernel
theorem dX9_ask_85 : decode cX9_ask 85 = .ok (.istore 4, 2) := by decide +kernel
theorem dX9_ask_87 : decode cX9_ask 87 = .ok (.iload_n 3, 1) := by decide +kernel
theorem dX9_ask_88 : decode cX9_ask 88 = .ok (.iconst 2, 1) := by decide +kernel
theorem dX9_ask_89 : decode cX9_ask 89 = .ok (.if_icmp .ne 9, 3) := by decide +kernel
theorem dX9_ask_92 : decode cX9_ask 92 = .ok (.iload 4, 2) := by decide +kernel
theorem dX9_ask_94 : decode cX9_ask 94 = .ok (.ineg, 1) := by decide +kernel
theorem dX9_ask_95 : decode cX9_ask 95 = .ok (.goto 5, 3) := by decide +kernel
theorem dX9_ask_98 : decode cX9_ask 98 = .ok (.iload 4, 2) := by decide +kernel
theorem dX9_ask_100 : decode cX9_ask 100 = .ok (.ireturn, 1) := by decide +kernel
theorem dX9_ask_101 : decode cX9_ask 101 = .ok (.iload_n 2, 1) := by decide +kernel
theorem dX9_ask_102 : decode cX9_ask 102 = .ok (.ifCond .ne 9, 3) := by decide +kernel
theorem dX9_ask_105 : decode cX9_ask 105 = .ok (.aload_n 0, 1) := by decide +kernel
theorem dX9_ask_106 : decode cX9_ask 106 = .ok (.iload_n 1, 1) := by decide +kernel
theorem dX9_ask_107 : decode cX9_ask 107 = .ok (.invokevirtual 303, 3) := by decide +kernel
theorem dX9_ask_110 : decode cX9_ask 110 = .ok (.ireturn, 1) := by decide +kernel
theorem dX9_ask_111 : decode cX9_ask 111 = .ok (.aload_n 0, 1) := by decide +kernel
theorem dX9_ask_112 : decode cX9_ask 112 = .ok (.ldc2_w 306, 3) := by decide +kernel
theorem dX9_ask_115 : decode cX9_ask 115 = .ok (.invokevirtual 288, 3) := by decide +kernel
theorem dX9_ask_118 : decode cX9_ask 118 = .ok (.iload_n 1, 1) := by decide +kernel
theorem dX9_ask_119 : decode cX9_ask 119 = .ok (.aload_n 0, 1) := by decide +kernel
theorem dX9_ask_120 : decode cX9_ask 120 = .ok (.iload_n 1, 1) := by decide +kernel
theorem dX9_ask_121 : decode cX9_ask 121 = .ok (.invokevirtual 303, 3) := by decide +kernel
theorem dX9_ask_124 : decode cX9_ask 124 = .ok (.isub, 1) := by decide +kernel
theorem dX9_ask_125 : decode cX9_ask 125 = .ok (.ireturn, 1) := by decide +kernel
theorem dX9_trace_0 : decode cX9_trace 0 = .ok (.iload_n 1, 1) := by decide +kernel
theorem dX9_trace_1 : decode cX9_trace 1 = .ok (.i2l, 1) := by decide +kernel
theorem dX9_trace_2 : decode cX9_trace 2 = .ok (.lconst 0, 1) := by decide +kernel
theorem dX9_trace_3 : decode cX9_trace 3 = .ok (.aload_n 0, 1) := by decide +kernel
theorem dX9_trace_4 : decode cX9_trace 4 = .ok (.getfield 279, 3) := by decide +kernel
theorem dX9_trace_7 : decode cX9_trace 7 = .ok (.iconst 1, 1) := by decide +kernel
theorem dX9_trace_8 : decode cX9_trace 8 = .ok (.isub, 1) := by decide +kernel
theorem dX9_trace_9 : decode cX9_trace 9 = .ok (.i2l, 1) := by decide +kernel
theorem dX9_trace_10 : decode cX9_trace 10 = .ok (.invokestatic 60, 3) := by decide +kernel
theorem dX9_trace_13 : decode cX9_trace 13 = .ok (.ifCond .eq 12, 3) := by decide +kernel
theorem dX9_trace_16 : decode cX9_trace 16 = .ok (.aload_n 0, 1) := by decide +kernel
theorem dX9_trace_17 : decode cX9_trace 17 = .ok (.getfield 35, 3) := by decide +kernel
theorem dX9_trace_20 : decode cX9_trace 20 = .ok (.iload_n 1, 1) := by decide +kernel
theorem dX9_trace_21 : decode cX9_trace 21 = .ok (.iaload, 1) := by decide +kernel
theorem dX9_trace_22 : decode cX9_trace 22 = .ok (.goto 5, 3) := by decide +kernel
theorem dX9_trace_25 : decode cX9_trace 25 = .ok (.ldc 231, 2) := by decide +kernel
theorem dX9_trace_27 : decode cX9_trace 27 = .ok (.ireturn, 1) := by decide +kernel
theorem dX9_count_0 : decode cX9_count 0 = .ok (.iconst 0, 1) := by decide +kernel
theorem dX9_count_1 : decode cX9_count 1 = .ok (.istore_n 2, 1) := by decide +kernel
theorem dX9_count_2 : decode cX9_count 2 = .ok (.iconst 0, 1) := by decide +kernel
theorem dX9_count_3 : decode cX9_count 3 = .ok (.istore_n 3, 1) := by decide +kernel
theorem dX9_count_4 : decode cX9_count 4 = .ok (.iload_n 3, 1) := by decide +kernel
theorem dX9_count_5 : decode cX9_count 5 = .ok (.bipush 8, 2) := by decide +kernel
theorem dX9_count_7 : decode cX9_count 7 = .ok (.if_icmp .ge 26, 3) := by decide +kernel
theorem dX9_count_10 : decode cX9_count 10 = .ok (.iload_n 2, 1) := by decide +kernel
theorem dX9_count_11 : decode cX9_count 11 = .ok (.aload_n 0, 1) := by decide +kernel
theorem dX9_count_12 : decode cX9_count 12 = .ok (.getfield 13, 3) := by decide +kernel
theorem dX9_count_15 : decode cX9_count 15 = .ok (.iload_n 3, 1) := by decide +kernel
theorem dX9_count_16 : decode cX9_count 16 = .ok (.iaload, 1) := by decide +kernel
theorem dX9_count_17 : decode cX9_count 17 = .ok (.ifCond .ge 7, 3) := by decide +kernel
theorem dX9_count_20 : decode cX9_count 20 = .ok (.iconst 0, 1) := by decide +kernel
theorem dX9_count_21 : decode cX9_count 21 = .ok (.goto 4, 3) := by decide +kernel
theorem dX9_count_24 : decode cX9_count 24 = .ok (.iconst 1, 1) := by decide +kernel
theorem dX9_count_25 : decode cX9_count 25 = .ok (.iadd, 1) := by decide +kernel
theorem dX9_count_26 : decode cX9_count 26 = .ok (.istore_n 2, 1) := by decide +kernel
theorem dX9_count_27 : decode cX9_count 27 = .ok (.iinc 3 1, 3) := by decide +kernel
theorem dX9_count_30 : decode cX9_count 30 = .ok (.goto (-26), 3) := by decide +kernel
theorem dX9_count_33 : decode cX9_count 33 = .ok (.iconst 0, 1) := by decide +kernel
theorem dX9_count_34 : decode cX9_count 34 = .ok (.istore_n 3, 1) := by decide +kernel
theorem dX9_count_35 : decode cX9_count 35 = .ok (.iconst 0, 1) := by decide +kernel
theorem dX9_count_36 : decode cX9_count 36 = .ok (.istore 4, 2) := by decide +kernel
theorem dX9_count_38 : decode cX9_count 38 = .ok (.iload 4, 2) := by decide +kernel
theorem dX9_count_40 : decode cX9_count 40 = .ok (.iconst 4, 1) := by decide +kernel
theorem dX9_count_41 : decode cX9_count 41 = .ok (.if_icmp .ge 22, 3) := by decide +kernel
theorem dX9_count_44 : decode cX9_count 44 = .ok (.iload_n 3, 1) := by decide +kernel
theorem dX9_count_45 : decode cX9_count 45 = .ok (.aload_n 0, 1) := by decide +kernel
theorem dX9_count_46 : decode cX9_count 46 = .ok (.getfield 22, 3) := by decide +kernel
theorem dX9_count_49 : decode cX9_count 49 = .ok (.bipush 44, 2) := by decide +kernel
theorem dX9_count_51 : decode cX9_count 51 = .ok (.iload 4, 2) := by decide +kernel
theorem dX9_count_53 : decode cX9_count 53 = .ok (.iadd, 1) := by decide +kernel
theorem dX9_count_54 : decode cX9_count 54 = .ok (.iaload, 1) := by decide +kernel
theorem dX9_count_55 : decode cX9_count 55 = .ok (.iadd, 1) := by decide +kernel
theorem dX9_count_56 : decode cX9_count 56 = .ok (.istore_n 3, 1) := by decide +kernel
theorem dX9_count_57 : decode cX9_count 57 = .ok (.iinc 4 1, 3) := by decide +kernel
theorem dX9_count_60 : decode cX9_count 60 = .ok (.goto (-22), 3) := by decide +kernel
theorem dX9_count_63 : decode cX9_count 63 = .ok (.iload_n 1, 1) := by decide +kernel
theorem dX9_count_64 : decode cX9_count 64 = .ok (.tableswitch 91 0 7 #[48, 50, 57, 64, 66, 73, 81, 86], 48) := by decide +kernel
theorem dX9_count_112 : decode cX9_count 112 = .ok (.iload_n 2, 1) := by decide +kernel
theorem dX9_count_113 : decode cX9_count 113 = .ok (.ireturn, 1) := by decide +kernel
theorem dX9_count_114 : decode cX9_count 114 = .ok (.aload_n 0, 1) := by decide +kernel
theorem dX9_count_115 : decode cX9_count 115 = .ok (.getfield 22, 3) := by decide +kernel
theorem dX9_count_118 : decode cX9_count 118 = .ok (.iconst 3, 1) := by decide +kernel
theorem dX9_count_119 : decode cX9_count 119 = .ok (.iaload, 1) := by decide +kernel
theorem dX9_count_120 : decode cX9_count 120 = .ok (.ireturn, 1) := by decide +kernel
theorem dX9_count_121 : decode cX9_count 121 = .ok (.aload_n 0, 1) := by decide +kernel
theorem dX9_count_122 : decode cX9_count 122 = .ok (.getfield 22, 3) := by decide +kernel
theorem dX9_count_125 : decode cX9_count 125 = .ok (.iconst 4, 1) := by decide +kernel
theorem dX9_count_126 : decode cX9_count 126 = .ok (.iaload, 1) := by decide +kernel
theorem dX9_count_127 : decode cX9_count 127 = .ok (.ireturn, 1) := by decide +kernel
theorem dX9_count_128 : decode cX9_count 128 = .ok (.iload_n 3, 1) := by decide +kernel
theorem dX9_count_129 : decode cX9_count 129 = .ok (.ireturn, 1) := by decide +kernel
theorem dX9_count_130 : decode cX9_count 130 = .ok (.aload_n 0, 1) := by decide +kernel
theorem dX9_count_131 : decode cX9_count 131 = .ok (.getfield 22, 3) := by decide +kernel
theorem dX9_count_134 : decode cX9_count 134 = .ok (.iconst 5, 1) := by decide +kernel
theorem dX9_count_135 : decode cX9_count 135 = .ok (.iaload, 1) := by decide +kernel
theorem dX9_count_136 : decode cX9_count 136 = .ok (.ireturn, 1) := by decide +kernel
theorem dX9_count_137 : decode cX9_count 137 = .ok (.aload_n 0, 1) := by decide +kernel
theorem dX9_count_138 : decode cX9_count 138 = .ok (.getfield 22, 3) := by decide +kernel
theorem dX9_count_141 : decode cX9_count 141 = .ok (.invokestatic 268, 3) := by decide +kernel
theorem dX9_count_144 : decode cX9_count 144 = .ok (.ireturn, 1) := by decide +kernel
theorem dX9_count_145 : decode cX9_count 145 = .ok (.aload_n 0, 1) := by decide +kernel
theorem dX9_count_146 : decode cX9_count 146 = .ok (.getfield 147, 3) := by decide +kernel
theorem dX9_count_149 : decode cX9_count 149 = .ok (.ireturn, 1) := by decide +kernel
theorem dX9_count_150 : decode cX9_count 150 = .ok (.aload_n 0, 1) := by decide +kernel
theorem dX9_count_151 : decode cX9_count 151 = .ok (.getfield 80, 3) := by decide +kernel
theorem dX9_count_154 : decode cX9_count 154 = .ok (.ireturn, 1) := by decide +kernel
theorem dX9_count_155 : decode cX9_count 155 = .ok (.ldc 70, 2) := by decide +kernel
theorem dX9_count_157 : decode cX9_count 157 = .ok (.ireturn, 1) := by decide +kernel
theorem dX9_status_0 : decode cX9_status 0 = .ok (.aload_n 0, 1) := by decide +kernel
theorem dX9_status_1 : decode cX9_status 1 = .ok (.getfield 53, 3) := by decide +kernel
theorem dX9_status_4 : decode cX9_status 4 = .ok (.ireturn, 1) := by decide +kernel
theorem dJ6_bitCount_0f7a4_0 : decode cJ6_bitCount_0f7a4 0 = .ok (.iload_n 0, 1) := by decide +kernel
theorem dJ6_bitCount_0f7a4_1 : decode cJ6_bitCount_0f7a4 1 = .ok (.iload_n 0, 1) := by decide +kernel
theorem dJ6_bitCount_0f7a4_2 : decode cJ6_bitCount_0f7a4 2 = .ok (.iconst 1, 1) := by decide +kernel
theorem dJ6_bitCount_0f7a4_3 : decode cJ6_bitCount_0f7a4 3 = .ok (.iushr, 1) := by decide +kernel
theorem dJ6_bitCount_0f7a4_4 : decode cJ6_bitCount_0f7a4 4 = .ok (.ldc_w 265, 3) := by decide +kernel
theorem dJ6_bitCount_0f7a4_7 : decode cJ6_bitCount_0f7a4 7 = .ok (.iand, 1) := by decide +kernel
theorem dJ6_bitCount_0f7a4_8 : decode cJ6_bitCount_0f7a4 8 = .ok (.isub, 1) := by decide +kernel
theorem dJ6_bitCount_0f7a4_9 : decode cJ6_bitCount_0f7a4 9 = .ok (.istore_n 0, 1) := by decide +kernel
theorem dJ6_bitCount_0f7a4_10 : decode cJ6_bitCount_0f7a4 10 = .ok (.iload_n 0, 1) := by decide +kernel
theorem dJ6_bitCount_0f7a4_11 : decode cJ6_bitCount_0f7a4 11 = .ok (.ldc_w 266, 3) := by decide +kernel
theorem dJ6_bitCount_0f7a4_14 : decode cJ6_bitCount_0f7a4 14 = .ok (.iand, 1) := by decide +kernel
theorem dJ6_bitCount_0f7a4_15 : decode cJ6_bitCount_0f7a4 15 = .ok (.iload_n 0, 1) := by decide +kernel
theorem dJ6_bitCount_0f7a4_16 : decode cJ6_bitCount_0f7a4 16 = .ok (.iconst 2, 1) := by decide +kernel
theorem dJ6_bitCount_0f7a4_17 : decode cJ6_bitCount_0f7a4 17 = .ok (.iushr, 1) := by decide +kernel
theorem dJ6_bitCount_0f7a4_18 : decode cJ6_bitCount_0f7a4 18 = .ok (.ldc_w 266, 3) := by decide +kernel
theorem dJ6_bitCount_0f7a4_21 : decode cJ6_bitCount_0f7a4 21 = .ok (.iand, 1) := by decide +kernel
theorem dJ6_bitCount_0f7a4_22 : decode cJ6_bitCount_0f7a4 22 = .ok (.iadd, 1) := by decide +kernel
theorem dJ6_bitCount_0f7a4_23 : decode cJ6_bitCount_0f7a4 23 = .ok (.istore_n 0, 1) := by decide +kernel
theorem dJ6_bitCount_0f7a4_24 : decode cJ6_bitCount_0f7a4 24 = .ok (.iload_n 0, 1) := by decide +kernel
theorem dJ6_bitCount_0f7a4_25 : decode cJ6_bitCount_0f7a4 25 = .ok (.iload_n 0, 1) := by decide +kernel
theorem dJ6_bitCount_0f7a4_26 : decode cJ6_bitCount_0f7a4 26 = .ok (.iconst 4, 1) := by decide +kernel
theorem dJ6_bitCount_0f7a4_27 : decode cJ6_bitCount_0f7a4 27 = .ok (.iushr, 1) := by decide +kernel
theorem dJ6_bitCount_0f7a4_28 : decode cJ6_bitCount_0f7a4 28 = .ok (.iadd, 1) := by decide +kernel
theorem dJ6_bitCount_0f7a4_29 : decode cJ6_bitCount_0f7a4 29 = .ok (.ldc_w 267, 3) := by decide +kernel
theorem dJ6_bitCount_0f7a4_32 : decode cJ6_bitCount_0f7a4 32 = .ok (.iand, 1) := by decide +kernel
theorem dJ6_bitCount_0f7a4_33 : decode cJ6_bitCount_0f7a4 33 = .ok (.istore_n 0, 1) := by decide +kernel
theorem dJ6_bitCount_0f7a4_34 : decode cJ6_bitCount_0f7a4 34 = .ok (.iload_n 0, 1) := by decide +kernel
theorem dJ6_bitCount_0f7a4_35 : decode cJ6_bitCount_0f7a4 35 = .ok (.iload_n 0, 1) := by decide +kernel
theorem dJ6_bitCount_0f7a4_36 : decode cJ6_bitCount_0f7a4 36 = .ok (.bipush 8, 2) := by decide +kernel
theorem dJ6_bitCount_0f7a4_38 : decode cJ6_bitCount_0f7a4 38 = .ok (.iushr, 1) := by decide +kernel
theorem dJ6_bitCount_0f7a4_39 : decode cJ6_bitCount_0f7a4 39 = .ok (.iadd, 1) := by decide +kernel
theorem dJ6_bitCount_0f7a4_40 : decode cJ6_bitCount_0f7a4 40 = .ok (.istore_n 0, 1) := by decide +kernel
theorem dJ6_bitCount_0f7a4_41 : decode cJ6_bitCount_0f7a4 41 = .ok (.iload_n 0, 1) := by decide +kernel
theorem dJ6_bitCount_0f7a4_42 : decode cJ6_bitCount_0f7a4 42 = .ok (.iload_n 0, 1) := by decide +kernel
theorem dJ6_bitCount_0f7a4_43 : decode cJ6_bitCount_0f7a4 43 = .ok (.bipush 16, 2) := by decide +kernel
theorem dJ6_bitCount_0f7a4_45 : decode cJ6_bitCount_0f7a4 45 = .ok (.iushr, 1) := by decide +kernel
theorem dJ6_bitCount_0f7a4_46 : decode cJ6_bitCount_0f7a4 46 = .ok (.iadd, 1) := by decide +kernel
theorem dJ6_bitCount_0f7a4_47 : decode cJ6_bitCount_0f7a4 47 = .ok (.istore_n 0, 1) := by decide +kernel
theorem dJ6_bitCount_0f7a4_48 : decode cJ6_bitCount_0f7a4 48 = .ok (.iload_n 0, 1) := by decide +kernel
theorem dJ6_bitCount_0f7a4_49 : decode cJ6_bitCount_0f7a4 49 = .ok (.bipush 63, 2) := by decide +kernel
theorem dJ6_bitCount_0f7a4_51 : decode cJ6_bitCount_0f7a4 51 = .ok (.iand, 1) := by decide +kernel
theorem dJ6_bitCount_0f7a4_52 : decode cJ6_bitCount_0f7a4 52 = .ok (.ireturn, 1) := by decide +kernel
theorem dJ9_max_7cf53_0 : decode cJ9_max_7cf53 0 = .ok (.iload_n 0, 1) := by decide +kernel
theorem dJ9_max_7cf53_1 : decode cJ9_max_7cf53 1 = .ok (.iload_n 1, 1) := by decide +kernel
theorem dJ9_max_7cf53_2 : decode cJ9_max_7cf53 2 = .ok (.if_icmp .lt 7, 3) := by decide +kernel
theorem dJ9_max_7cf53_5 : decode cJ9_max_7cf53 5 = .ok (.iload_n 0, 1) := by decide +kernel
theorem dJ9_max_7cf53_6 : decode cJ9_max_7cf53 6 = .ok (.goto 4, 3) := by decide +kernel
theorem dJ9_max_7cf53_9 : decode cJ9_max_7cf53 9 = .ok (.iload_n 1, 1) := by decide +kernel
theorem dJ9_max_7cf53_10 : decode cJ9_max_7cf53 10 = .ok (.ireturn, 1) := by decide +kernel
theorem dJ9_max_f86c9_0 : decode cJ9_max_f86c9 0 = .ok (.lload_n 0, 1) := by decide +kernel
theorem dJ9_max_f86c9_1 : decode cJ9_max_f86c9 1 = .ok (.lload_n 2, 1) := by decide +kernel
theorem dJ9_max_f86c9_2 : decode cJ9_max_f86c9 2 = .ok (.lcmp, 1) := by decide +kernel
theorem dJ9_max_f86c9_3 : decode cJ9_max_f86c9 3 = .ok (.ifCond .lt 7, 3) := by decide +kernel
theorem dJ9_max_f86c9_6 : decode cJ9_max_f86c9 6 = .ok (.lload_n 0, 1) := by decide +kernel
theorem dJ9_max_f86c9_7 : decode cJ9_max_f86c9 7 = .ok (.goto 4, 3) := by decide +kernel
theorem dJ9_max_f86c9_10 : decode cJ9_max_f86c9 10 = .ok (.lload_n 2, 1) := by decide +kernel
theorem dJ9_max_f86c9_11 : decode cJ9_max_f86c9 11 = .ok (.lreturn, 1) := by decide +kernel
theorem dJ9_min_7cf53_0 : decode cJ9_min_7cf53 0 = .ok (.iload_n 0, 1) := by decide +kernel
theorem dJ9_min_7cf53_1 : decode cJ9_min_7cf53 1 = .ok (.iload_n 1, 1) := by decide +kernel
theorem dJ9_min_7cf53_2 : decode cJ9_min_7cf53 2 = .ok (.if_icmp .gt 7, 3) := by decide +kernel
theorem dJ9_min_7cf53_5 : decode cJ9_min_7cf53 5 = .ok (.iload_n 0, 1) := by decide +kernel
theorem dJ9_min_7cf53_6 : decode cJ9_min_7cf53 6 = .ok (.goto 4, 3) := by decide +kernel
theorem dJ9_min_7cf53_9 : decode cJ9_min_7cf53 9 = .ok (.iload_n 1, 1) := by decide +kernel
theorem dJ9_min_7cf53_10 : decode cJ9_min_7cf53 10 = .ok (.ireturn, 1) := by decide +kernel
theorem dJ7_fill_53178_0 : decode cJ7_fill_53178 0 = .ok (.iconst 0, 1) := by decide +kernel
theorem dJ7_fill_53178_1 : decode cJ7_fill_53178 1 = .ok (.istore_n 2, 1) := by decide +kernel
theorem dJ7_fill_53178_2 : decode cJ7_fill_53178 2 = .ok (.aload_n 0, 1) := by decide +kernel
theorem dJ7_fill_53178_3 : decode cJ7_fill_53178 3 = .ok (.arraylength, 1) := by decide +kernel
theorem dJ7_fill_53178_4 : decode cJ7_fill_53178 4 = .ok (.istore_n 3, 1) := by decide +kernel
theorem dJ7_fill_53178_5 : decode cJ7_fill_53178 5 = .ok (.iload_n 2, 1) := by decide +kernel
theorem dJ7_fill_53178_6 : decode cJ7_fill_53178 6 = .ok (.iload_n 3, 1) := by decide +kernel
theorem dJ7_fill_53178_7 : decode cJ7_fill_53178 7 = .ok (.if_icmp .ge 13, 3) := by decide +kernel
theorem dJ7_fill_53178_10 : decode cJ7_fill_53178 10 = .ok (.aload_n 0, 1) := by decide +kernel
theorem dJ7_fill_53178_11 : decode cJ7_fill_53178 11 = .ok (.iload_n 2, 1) := by decide +kernel
theorem dJ7_fill_53178_12 : decode cJ7_fill_53178 12 = .ok (.iload_n 1, 1) := by decide +kernel
theorem dJ7_fill_53178_13 : decode cJ7_fill_53178 13 = .ok (.iastore, 1) := by decide +kernel
theorem dJ7_fill_53178_14 : decode cJ7_fill_53178 14 = .ok (.iinc 2 1, 3) := by decide +kernel
theorem dJ7_fill_53178_17 : decode cJ7_fill_53178 17 = .ok (.goto (-12), 3) := by decide +kernel
theorem dJ7_fill_53178_20 : decode cJ7_fill_53178 20 = .ok (.return_, 1) := by decide +kernel
theorem dL_law_0 : decode cL_law 0 = .ok (.new 7, 3) := by decide +kernel
theorem dL_law_3 : decode cL_law 3 = .ok (.dup, 1) := by decide +kernel
theorem dL_law_4 : decode cL_law 4 = .ok (.invokespecial 9, 3) := by decide +kernel
theorem dL_law_7 : decode cL_law 7 = .ok (.astore_n 1, 1) := by decide +kernel
theorem dL_law_8 : decode cL_law 8 = .ok (.new 10, 3) := by decide +kernel
theorem dL_law_11 : decode cL_law 11 = .ok (.dup, 1) := by decide +kernel
theorem dL_law_12 : decode cL_law 12 = .ok (.invokespecial 12, 3) := by decide +kernel
theorem dL_law_15 : decode cL_law 15 = .ok (.astore_n 2, 1) := by decide +kernel
theorem dL_law_16 : decode cL_law 16 = .ok (.iconst 0, 1) := by decide +kernel
theorem dL_law_17 : decode cL_law 17 = .ok (.istore_n 3, 1) := by decide +kernel
theorem dL_law_18 : decode cL_law 18 = .ok (.iload_n 3, 1) := by decide +kernel
theorem dL_law_19 : decode cL_law 19 = .ok (.aload_n 0, 1) := by decide +kernel
theorem dL_law_20 : decode cL_law 20 = .ok (.arraylength, 1) := by decide +kernel
theorem dL_law_21 : decode cL_law 21 = .ok (.bipush 6, 2) := by decide +kernel
theorem dL_law_23 : decode cL_law 23 = .ok (.isub, 1) := by decide +kernel
theorem dL_law_24 : decode cL_law 24 = .ok (.if_icmp .gt 1309, 3) := by decide +kernel
theorem dL_law_27 : decode cL_law 27 = .ok (.aload_n 0, 1) := by decide +kernel
theorem dL_law_28 : decode cL_law 28 = .ok (.iload_n 3, 1) := by decide +kernel
theorem dL_law_29 : decode cL_law 29 = .ok (.iaload, 1) := by decide +kernel
theorem dL_law_30 : decode cL_law 30 = .ok (.bipush 63, 2) := by decide +kernel
theorem dL_law_32 : decode cL_law 32 = .ok (.iand, 1) := by decide +kernel
theorem dL_law_33 : decode cL_law 33 = .ok (.tableswitch 1294 0 33 #[151, 194, 237, 300, 323, 346, 359, 372, 385, 418, 441, 474, 497, 530, 563, 596, 619, 662, 715, 768, 821, 884, 917, 950, 993, 1057, 1100, 1123, 1146, 1169, 1202, 1235, 1258, 1281], 151) := by decide +kernel
theorem dL_law_184 : decode cL_law 184 = .ok (.aload_n 1, 1) := by decide +kernel
theorem dL_law_185 : decode cL_law 185 = .ok (.aload_n 0, 1) := by decide +kernel
theorem dL_law_186 : decode cL_law 186 = .ok (.iload_n 3, 1) := by decide +kernel
theorem dL_law_187 : decode cL_law 187 = .ok (.iconst 1, 1) := by decide +kernel
theorem dL_law_188 : decode cL_law 188 = .ok (.iadd, 1) := by decide +kernel
theorem dL_law_189 : decode cL_law 189 = .ok (.iaload, 1) := by decide +kernel
theorem dL_law_190 : decode cL_law 190 = .ok (.aload_n 0, 1) := by decide +kernel
theorem dL_law_191 : decode cL_law 191 = .ok (.iload_n 3, 1) := by decide +kernel
theorem dL_law_192 : decode cL_law 192 = .ok (.iconst 2, 1) := by decide +kernel
theorem dL_law_193 : decode cL_law 193 = .ok (.iadd, 1) := by decide +kernel
theorem dL_law_194 : decode cL_law 194 = .ok (.iaload, 1) := by decide +kernel
theorem dL_law_195 : decode cL_law 195 = .ok (.aload_n 0, 1) := by decide +kernel
theorem dL_law_196 : decode cL_law 196 = .ok (.iload_n 3, 1) := by decide +kernel
theorem dL_law_197 : decode cL_law 197 = .ok (.iconst 3, 1) := by decide +kernel
theorem dL_law_198 : decode cL_law 198 = .ok (.iadd, 1) := by decide +kernel
theorem dL_law_199 : decode cL_law 199 = .ok (.iaload, 1) := by decide +kernel
theorem dL_law_200 : decode cL_law 200 = .ok (.invokevirtual 13, 3) := by decide +kernel
theorem dL_law_203 : decode cL_law 203 = .ok (.aload_n 2, 1) := by decide +kernel
theorem dL_law_204 : decode cL_law 204 = .ok (.aload_n 0, 1) := by decide +kernel
theorem dL_law_205 : decode cL_law 205 = .ok (.iload_n 3, 1) := by decide +kernel
theorem dL_law_206 : decode cL_law 206 = .ok (.iconst 1, 1) := by decide +kernel
theorem dL_law_207 : decode cL_law 207 = .ok (.iadd, 1) := by decide +kernel
theorem dL_law_208 : decode cL_law 208 = .ok (.iaload, 1) := by decide +kernel
theorem dL_law_209 : decode cL_law 209 = .ok (.aload_n 0, 1) := by decide +kernel
theorem dL_law_210 : decode cL_law 210 = .ok (.iload_n 3, 1) := by decide +kernel
theorem dL_law_211 : decode cL_law 211 = .ok (.iconst 2, 1) := by decide +kernel
theorem dL_law_212 : decode cL_law 212 = .ok (.iadd, 1) := by decide +kernel
theorem dL_law_213 : decode cL_law 213 = .ok (.iaload, 1) := by decide +kernel
theorem dL_law_214 : decode cL_law 214 = .ok (.aload_n 0, 1) := by decide +kernel
theorem dL_law_215 : decode cL_law 215 = .ok (.iload_n 3, 1) := by decide +kernel
theorem dL_law_216 : decode cL_law 216 = .ok (.iconst 3, 1) := by decide +kernel
theorem dL_law_217 : decode cL_law 217 = .ok (.iadd, 1) := by decide +kernel
theorem dL_law_218 : decode cL_law 218 = .ok (.iaload, 1) := by decide +kernel
theorem dL_law_219 : decode cL_law 219 = .ok (.invokevirtual 17, 3) := by decide +kernel
theorem dL_law_222 : decode cL_law 222 = .ok (.if_icmp .eq 1105, 3) := by decide +kernel
theorem dL_law_225 : decode cL_law 225 = .ok (.iconst 0, 1) := by decide +kernel
theorem dL_law_226 : decode cL_law 226 = .ok (.ireturn, 1) := by decide +kernel
theorem dL_law_227 : decode cL_law 227 = .ok (.aload_n 1, 1) := by decide +kernel
theorem dL_law_228 : decode cL_law 228 = .ok (.aload_n 0, 1) := by decide +kernel
theorem dL_law_229 : decode cL_law 229 = .ok (.iload_n 3, 1) := by decide +kernel
theorem dL_law_230 : decode cL_law 230 = .ok (.iconst 1, 1) := by decide +kernel
theorem dL_law_231 : decode cL_law 231 = .ok (.iadd, 1) := by decide +kernel
theorem dL_law_232 : decode cL_law 232 = .ok (.iaload, 1) := by decide +kernel
theorem dL_law_233 : decode cL_law 233 = .ok (.aload_n 0, 1) := by decide +kernel
theorem dL_law_234 : decode cL_law 234 = .ok (.iload_n 3, 1) := by decide +kernel
theorem dL_law_235 : decode cL_law 235 = .ok (.iconst 2, 1) := by decide +kernel
theorem dL_law_236 : decode cL_law 236 = .ok (.iadd, 1) := by decide +kernel
theorem dL_law_237 : decode cL_law 237 = .ok (.iaload, 1) := by decide +kernel
theorem dL_law_238 : decode cL_law 238 = .ok (.aload_n 0, 1) := by decide +kernel
theorem dL_law_239 : decode cL_law 239 = .ok (.iload_n 3, 1) := by decide +kernel
theorem dL_law_240 : decode cL_law 240 = .ok (.iconst 3, 1) := by decide +kernel
theorem dL_law_241 : decode cL_law 241 = .ok (.iadd, 1) := by decide +kernel
theorem dL_law_242 : decode cL_law 242 = .ok (.iaload, 1) := by decide +kernel
theorem dL_law_243 : decode cL_law 243 = .ok (.invokevirtual 18, 3) := by decide +kernel
theorem dL_law_246 : decode cL_law 246 = .ok (.aload_n 2, 1) := by decide +kernel
theorem dL_law_247 : decode cL_law 247 = .ok (.aload_n 0, 1) := by decide +kernel
theorem dL_law_248 : decode cL_law 248 = .ok (.iload_n 3, 1) := by decide +kernel
theorem dL_law_249 : decode cL_law 249 = .ok (.iconst 1, 1) := by decide +kernel
theorem dL_law_250 : decode cL_law 250 = .ok (.iadd, 1) := by decide +kernel
theorem dL_law_251 : decode cL_law 251 = .ok (.iaload, 1) := by decide +kernel
theorem dL_law_252 : decode cL_law 252 = .ok (.aload_n 0, 1) := by decide +kernel
theorem dL_law_253 : decode cL_law 253 = .ok (.iload_n 3, 1) := by decide +kernel
theorem dL_law_254 : decode cL_law 254 = .ok (.iconst 2, 1) := by decide +kernel
theorem dL_law_255 : decode cL_law 255 = .ok (.iadd, 1) := by decide +kernel
theorem dL_law_256 : decode cL_law 256 = .ok (.iaload, 1) := by decide +kernel
theorem dL_law_257 : decode cL_law 257 = .ok (.aload_n 0, 1) := by decide +kernel
theorem dL_law_258 : decode cL_law 258 = .ok (.iload_n 3, 1) := by decide +kernel
theorem dL_law_259 : decode cL_law 259 = .ok (.iconst 3, 1) := by decide +kernel
theorem dL_law_260 : decode cL_law 260 = .ok (.iadd, 1) := by decide +kernel
theorem dL_law_261 : decode cL_law 261 = .ok (.iaload, 1) := by decide +kernel
theorem dL_law_262 : decode cL_law 262 = .ok (.invokevirtual 21, 3) := by decide +kernel
theorem dL_law_265 : decode cL_law 265 = .ok (.if_icmp .eq 1062, 3) := by decide +kernel
theorem dL_law_268 : decode cL_law 268 = .ok (.iconst 0, 1) := by decide +kernel
theorem dL_law_269 : decode cL_law 269 = .ok (.ireturn, 1) := by decide +kernel
theorem dL_law_270 : decode cL_law 270 = .ok (.aload_n 1, 1) := by decide +kernel
end
section
theorem dL_law_271 : decode cL_law 271 = .ok (.aload_n 0, 1) := by decide +kernel
theorem dL_law_272 : decode cL_law 272 = .ok (.iload_n 3, 1) := by decide +kernel
theorem dL_law_273 : decode cL_law 273 = .ok (.iconst 1, 1) := by decide +kernel
theorem dL_law_274 : decode cL_law 274 = .ok (.iadd, 1) := by decide +kernel
theorem dL_law_275 : decode cL_law 275 = .ok (.iaload, 1) := by decide +kernel
theorem dL_law_276 : decode cL_law 276 = .ok (.aload_n 0, 1) := by decide +kernel
theorem dL_law_277 : decode cL_law 277 = .ok (.iload_n 3, 1) := by decide +kernel
theorem dL_law_278 : decode cL_law 278 = .ok (.iconst 2, 1) := by decide +kernel
theorem dL_law_279 : decode cL_law 279 = .ok (.iadd, 1) := by decide +kernel
theorem dL_law_280 : decode cL_law 280 = .ok (.iaload, 1) := by decide +kernel
theorem dL_law_281 : decode cL_law 281 = .ok (.aload_n 0, 1) := by decide +kernel
theorem dL_law_282 : decode cL_law 282 = .ok (.iload_n 3, 1) := by decide +kernel
theorem dL_law_283 : decode cL_law 283 = .ok (.iconst 3, 1) := by decide +kernel
theorem dL_law_284 : decode cL_law 284 = .ok (.iadd, 1) := by decide +kernel
theorem dL_law_285 : decode cL_law 285 = .ok (.iaload, 1) := by decide +kernel
theorem dL_law_286 : decode cL_law 286 = .ok (.aload_n 0, 1) := by decide +kernel
theorem dL_law_287 : decode cL_law 287 = .ok (.iload_n 3, 1) := by decide +kernel
theorem dL_law_288 : decode cL_law 288 = .ok (.iconst 4, 1) := by decide +kernel
theorem dL_law_289 : decode cL_law 289 = .ok (.iadd, 1) := by decide +kernel
theorem dL_law_290 : decode cL_law 290 = .ok (.iaload, 1) := by decide +kernel
theorem dL_law_291 : decode cL_law 291 = .ok (.aload_n 0, 1) := by decide +kernel
theorem dL_law_292 : decode cL_law 292 = .ok (.iload_n 3, 1) := by decide +kernel
theorem dL_law_293 : decode cL_law 293 = .ok (.iconst 5, 1) := by decide +kernel
theorem dL_law_294 : decode cL_law 294 = .ok (.iadd, 1) := by decide +kernel
theorem dL_law_295 : decode cL_law 295 = .ok (.iaload, 1) := by decide +kernel
theorem dL_law_296 : decode cL_law 296 = .ok (.invokevirtual 22, 3) := by decide +kernel
theorem dL_law_299 : decode cL_law 299 = .ok (.aload_n 2, 1) := by decide +kernel
theorem dL_law_300 : decode cL_law 300 = .ok (.aload_n 0, 1) := by decide +kernel
theorem dL_law_301 : decode cL_law 301 = .ok (.iload_n 3, 1) := by decide +kernel
theorem dL_law_302 : decode cL_law 302 = .ok (.iconst 1, 1) := by decide +kernel
theorem dL_law_303 : decode cL_law 303 = .ok (.iadd, 1) := by decide +kernel
theorem dL_law_304 : decode cL_law 304 = .ok (.iaload, 1) := by decide +kernel
theorem dL_law_305 : decode cL_law 305 = .ok (.aload_n 0, 1) := by decide +kernel
theorem dL_law_306 : decode cL_law 306 = .ok (.iload_n 3, 1) := by decide +kernel
theorem dL_law_307 : decode cL_law 307 = .ok (.iconst 2, 1) := by decide +kernel
theorem dL_law_308 : decode cL_law 308 = .ok (.iadd, 1) := by decide +kernel
theorem dL_law_309 : decode cL_law 309 = .ok (.iaload, 1) := by decide +kernel
theorem dL_law_310 : decode cL_law 310 = .ok (.aload_n 0, 1) := by decide +kernel
theorem dL_law_311 : decode cL_law 311 = .ok (.iload_n 3, 1) := by decide +kernel
theorem dL_law_312 : decode cL_law 312 = .ok (.iconst 3, 1) := by decide +kernel
theorem dL_law_313 : decode cL_law 313 = .ok (.iadd, 1) := by decide +kernel
theorem dL_law_314 : decode cL_law 314 = .ok (.iaload, 1) := by decide +kernel
theorem dL_law_315 : decode cL_law 315 = .ok (.aload_n 0, 1) := by decide +kernel
theorem dL_law_316 : decode cL_law 316 = .ok (.iload_n 3, 1) := by decide +kernel
theorem dL_law_317 : decode cL_law 317 = .ok (.iconst 4, 1) := by decide +kernel
theorem dL_law_318 : decode cL_law 318 = .ok (.iadd, 1) := by decide +kernel
theorem dL_law_319 : decode cL_law 319 = .ok (.iaload, 1) := by decide +kernel
theorem dL_law_320 : decode cL_law 320 = .ok (.aload_n 0, 1) := by decide +kernel
theorem dL_law_321 : decode cL_law 321 = .ok (.iload_n 3, 1) := by decide +kernel
theorem dL_law_322 : decode cL_law 322 = .ok (.iconst 5, 1) := by decide +kernel
theorem dL_law_323 : decode cL_law 323 = .ok (.iadd, 1) := by decide +kernel
theorem dL_law_324 : decode cL_law 324 = .ok (.iaload, 1) := by decide +kernel
theorem dL_law_325 : decode cL_law 325 = .ok (.invokevirtual 26, 3) := by decide +kernel
theorem dL_law_328 : decode cL_law 328 = .ok (.if_icmp .eq 999, 3) := by decide +kernel
theorem dL_law_331 : decode cL_law 331 = .ok (.iconst 0, 1) := by decide +kernel
theorem dL_law_332 : decode cL_law 332 = .ok (.ireturn, 1) := by decide +kernel
theorem dL_law_333 : decode cL_law 333 = .ok (.aload_n 1, 1) := by decide +kernel
theorem dL_law_334 : decode cL_law 334 = .ok (.aload_n 0, 1) := by decide +kernel
theorem dL_law_335 : decode cL_law 335 = .ok (.iload_n 3, 1) := by decide +kernel
theorem dL_law_336 : decode cL_law 336 = .ok (.iconst 1, 1) := by decide +kernel
theorem dL_law_337 : decode cL_law 337 = .ok (.iadd, 1) := by decide +kernel
theorem dL_law_338 : decode cL_law 338 = .ok (.iaload, 1) := by decide +kernel
theorem dL_law_339 : decode cL_law 339 = .ok (.invokevirtual 27, 3) := by decide +kernel
theorem dL_law_342 : decode cL_law 342 = .ok (.aload_n 2, 1) := by decide +kernel
theorem dL_law_343 : decode cL_law 343 = .ok (.aload_n 0, 1) := by decide +kernel
theorem dL_law_344 : decode cL_law 344 = .ok (.iload_n 3, 1) := by decide +kernel
theorem dL_law_345 : decode cL_law 345 = .ok (.iconst 1, 1) := by decide +kernel
theorem dL_law_346 : decode cL_law 346 = .ok (.iadd, 1) := by decide +kernel
theorem dL_law_347 : decode cL_law 347 = .ok (.iaload, 1) := by decide +kernel
theorem dL_law_348 : decode cL_law 348 = .ok (.invokevirtual 31, 3) := by decide +kernel
theorem dL_law_351 : decode cL_law 351 = .ok (.if_icmp .eq 976, 3) := by decide +kernel
theorem dL_law_354 : decode cL_law 354 = .ok (.iconst 0, 1) := by decide +kernel
theorem dL_law_355 : decode cL_law 355 = .ok (.ireturn, 1) := by decide +kernel
theorem dL_law_356 : decode cL_law 356 = .ok (.aload_n 1, 1) := by decide +kernel
theorem dL_law_357 : decode cL_law 357 = .ok (.aload_n 0, 1) := by decide +kernel
theorem dL_law_358 : decode cL_law 358 = .ok (.iload_n 3, 1) := by decide +kernel
theorem dL_law_359 : decode cL_law 359 = .ok (.iconst 1, 1) := by decide +kernel
theorem dL_law_360 : decode cL_law 360 = .ok (.iadd, 1) := by decide +kernel
theorem dL_law_361 : decode cL_law 361 = .ok (.iaload, 1) := by decide +kernel
theorem dL_law_362 : decode cL_law 362 = .ok (.invokevirtual 32, 3) := by decide +kernel
theorem dL_law_365 : decode cL_law 365 = .ok (.aload_n 2, 1) := by decide +kernel
theorem dL_law_366 : decode cL_law 366 = .ok (.aload_n 0, 1) := by decide +kernel
theorem dL_law_367 : decode cL_law 367 = .ok (.iload_n 3, 1) := by decide +kernel
theorem dL_law_368 : decode cL_law 368 = .ok (.iconst 1, 1) := by decide +kernel
theorem dL_law_369 : decode cL_law 369 = .ok (.iadd, 1) := by decide +kernel
theorem dL_law_370 : decode cL_law 370 = .ok (.iaload, 1) := by decide +kernel
theorem dL_law_371 : decode cL_law 371 = .ok (.invokevirtual 35, 3) := by decide +kernel
theorem dL_law_374 : decode cL_law 374 = .ok (.if_icmp .eq 953, 3) := by decide +kernel
theorem dL_law_377 : decode cL_law 377 = .ok (.iconst 0, 1) := by decide +kernel
theorem dL_law_378 : decode cL_law 378 = .ok (.ireturn, 1) := by decide +kernel
theorem dL_law_379 : decode cL_law 379 = .ok (.aload_n 1, 1) := by decide +kernel
theorem dL_law_380 : decode cL_law 380 = .ok (.invokevirtual 36, 3) := by decide +kernel
theorem dL_law_383 : decode cL_law 383 = .ok (.aload_n 2, 1) := by decide +kernel
theorem dL_law_384 : decode cL_law 384 = .ok (.invokevirtual 40, 3) := by decide +kernel
theorem dL_law_387 : decode cL_law 387 = .ok (.if_icmp .eq 940, 3) := by decide +kernel
theorem dL_law_390 : decode cL_law 390 = .ok (.iconst 0, 1) := by decide +kernel
theorem dL_law_391 : decode cL_law 391 = .ok (.ireturn, 1) := by decide +kernel
theorem dL_law_392 : decode cL_law 392 = .ok (.aload_n 1, 1) := by decide +kernel
theorem dL_law_393 : decode cL_law 393 = .ok (.invokevirtual 41, 3) := by decide +kernel
theorem dL_law_396 : decode cL_law 396 = .ok (.aload_n 2, 1) := by decide +kernel
theorem dL_law_397 : decode cL_law 397 = .ok (.invokevirtual 44, 3) := by decide +kernel
theorem dL_law_400 : decode cL_law 400 = .ok (.if_icmp .eq 927, 3) := by decide +kernel
theorem dL_law_403 : decode cL_law 403 = .ok (.iconst 0, 1) := by decide +kernel
theorem dL_law_404 : decode cL_law 404 = .ok (.ireturn, 1) := by decide +kernel
theorem dL_law_405 : decode cL_law 405 = .ok (.aload_n 1, 1) := by decide +kernel
theorem dL_law_406 : decode cL_law 406 = .ok (.invokevirtual 45, 3) := by decide +kernel
theorem dL_law_409 : decode cL_law 409 = .ok (.aload_n 2, 1) := by decide +kernel
theorem dL_law_410 : decode cL_law 410 = .ok (.invokevirtual 48, 3) := by decide +kernel
theorem dL_law_413 : decode cL_law 413 = .ok (.if_icmp .eq 914, 3) := by decide +kernel
theorem dL_law_416 : decode cL_law 416 = .ok (.iconst 0, 1) := by decide +kernel
theorem dL_law_417 : decode cL_law 417 = .ok (.ireturn, 1) := by decide +kernel
theorem dL_law_418 : decode cL_law 418 = .ok (.aload_n 1, 1) := by decide +kernel
theorem dL_law_419 : decode cL_law 419 = .ok (.aload_n 0, 1) := by decide +kernel
theorem dL_law_420 : decode cL_law 420 = .ok (.iload_n 3, 1) := by decide +kernel
theorem dL_law_421 : decode cL_law 421 = .ok (.iconst 1, 1) := by decide +kernel
theorem dL_law_422 : decode cL_law 422 = .ok (.iadd, 1) := by decide +kernel
theorem dL_law_423 : decode cL_law 423 = .ok (.iaload, 1) := by decide +kernel
theorem dL_law_424 : decode cL_law 424 = .ok (.aload_n 0, 1) := by decide +kernel
theorem dL_law_425 : decode cL_law 425 = .ok (.iload_n 3, 1) := by decide +kernel
theorem dL_law_426 : decode cL_law 426 = .ok (.iconst 2, 1) := by decide +kernel
theorem dL_law_427 : decode cL_law 427 = .ok (.iadd, 1) := by decide +kernel
theorem dL_law_428 : decode cL_law 428 = .ok (.iaload, 1) := by decide +kernel
theorem dL_law_429 : decode cL_law 429 = .ok (.invokevirtual 49, 3) := by decide +kernel
theorem dL_law_432 : decode cL_law 432 = .ok (.aload_n 2, 1) := by decide +kernel
theorem dL_law_433 : decode cL_law 433 = .ok (.aload_n 0, 1) := by decide +kernel
theorem dL_law_434 : decode cL_law 434 = .ok (.iload_n 3, 1) := by decide +kernel
theorem dL_law_435 : decode cL_law 435 = .ok (.iconst 1, 1) := by decide +kernel
theorem dL_law_436 : decode cL_law 436 = .ok (.iadd, 1) := by decide +kernel
theorem dL_law_437 : decode cL_law 437 = .ok (.iaload, 1) := by decide +kernel
theorem dL_law_438 : decode cL_law 438 = .ok (.aload_n 0, 1) := by decide +kernel
theorem dL_law_439 : decode cL_law 439 = .ok (.iload_n 3, 1) := by decide +kernel
theorem dL_law_440 : decode cL_law 440 = .ok (.iconst 2, 1) := by decide +kernel
theorem dL_law_441 : decode cL_law 441 = .ok (.iadd, 1) := by decide +kernel
theorem dL_law_442 : decode cL_law 442 = .ok (.iaload, 1) := by decide +kernel
theorem dL_law_443 : decode cL_law 443 = .ok (.invokevirtual 53, 3) := by decide +kernel
theorem dL_law_446 : decode cL_law 446 = .ok (.if_icmp .eq 881, 3) := by decide +kernel
theorem dL_law_449 : decode cL_law 449 = .ok (.iconst 0, 1) := by decide +kernel
theorem dL_law_450 : decode cL_law 450 = .ok (.ireturn, 1) := by decide +kernel
theorem dL_law_451 : decode cL_law 451 = .ok (.aload_n 1, 1) := by decide +kernel
theorem dL_law_452 : decode cL_law 452 = .ok (.aload_n 0, 1) := by decide +kernel
theorem dL_law_453 : decode cL_law 453 = .ok (.iload_n 3, 1) := by decide +kernel
theorem dL_law_454 : decode cL_law 454 = .ok (.iconst 1, 1) := by decide +kernel
theorem dL_law_455 : decode cL_law 455 = .ok (.iadd, 1) := by decide +kernel
theorem dL_law_456 : decode cL_law 456 = .ok (.iaload, 1) := by decide +kernel
theorem dL_law_457 : decode cL_law 457 = .ok (.invokevirtual 54, 3) := by decide +kernel
theorem dL_law_460 : decode cL_law 460 = .ok (.aload_n 2, 1) := by decide +kernel
theorem dL_law_461 : decode cL_law 461 = .ok (.aload_n 0, 1) := by decide +kernel
theorem dL_law_462 : decode cL_law 462 = .ok (.iload_n 3, 1) := by decide +kernel
theorem dL_law_463 : decode cL_law 463 = .ok (.iconst 1, 1) := by decide +kernel
theorem dL_law_464 : decode cL_law 464 = .ok (.iadd, 1) := by decide +kernel
theorem dL_law_465 : decode cL_law 465 = .ok (.iaload, 1) := by decide +kernel
theorem dL_law_466 : decode cL_law 466 = .ok (.invokevirtual 57, 3) := by decide +kernel
theorem dL_law_469 : decode cL_law 469 = .ok (.if_icmp .eq 858, 3) := by decide +kernel
theorem dL_law_472 : decode cL_law 472 = .ok (.iconst 0, 1) := by decide +kernel
theorem dL_law_473 : decode cL_law 473 = .ok (.ireturn, 1) := by decide +kernel
theorem dL_law_474 : decode cL_law 474 = .ok (.aload_n 1, 1) := by decide +kernel
theorem dL_law_475 : decode cL_law 475 = .ok (.aload_n 0, 1) := by decide +kernel
theorem dL_law_476 : decode cL_law 476 = .ok (.iload_n 3, 1) := by decide +kernel
theorem dL_law_477 : decode cL_law 477 = .ok (.iconst 1, 1) := by decide +kernel
theorem dL_law_478 : decode cL_law 478 = .ok (.iadd, 1) := by decide +kernel
theorem dL_law_479 : decode cL_law 479 = .ok (.iaload, 1) := by decide +kernel
theorem dL_law_480 : decode cL_law 480 = .ok (.aload_n 0, 1) := by decide +kernel
theorem dL_law_481 : decode cL_law 481 = .ok (.iload_n 3, 1) := by decide +kernel
theorem dL_law_482 : decode cL_law 482 = .ok (.iconst 2, 1) := by decide +kernel
theorem dL_law_483 : decode cL_law 483 = .ok (.iadd, 1) := by decide +kernel
theorem dL_law_484 : decode cL_law 484 = .ok (.iaload, 1) := by decide +kernel
theorem dL_law_485 : decode cL_law 485 = .ok (.invokevirtual 58, 3) := by decide +kernel
theorem dL_law_488 : decode cL_law 488 = .ok (.aload_n 2, 1) := by decide +kernel
theorem dL_law_489 : decode cL_law 489 = .ok (.aload_n 0, 1) := by decide +kernel
theorem dL_law_490 : decode cL_law 490 = .ok (.iload_n 3, 1) := by decide +kernel
theorem dL_law_491 : decode cL_law 491 = .ok (.iconst 1, 1) := by decide +kernel
theorem dL_law_492 : decode cL_law 492 = .ok (.iadd, 1) := by decide +kernel
theorem dL_law_493 : decode cL_law 493 = .ok (.iaload, 1) := by decide +kernel
theorem dL_law_494 : decode cL_law 494 = .ok (.aload_n 0, 1) := by decide +kernel
theorem dL_law_495 : decode cL_law 495 = .ok (.iload_n 3, 1) := by decide +kernel
theorem dL_law_496 : decode cL_law 496 = .ok (.iconst 2, 1) := by decide +kernel
theorem dL_law_497 : decode cL_law 497 = .ok (.iadd, 1) := by decide +kernel
theorem dL_law_498 : decode cL_law 498 = .ok (.iaload, 1) := by decide +kernel
theorem dL_law_499 : decode cL_law 499 = .ok (.invokevirtual 61, 3) := by decide +kernel
theorem dL_law_502 : decode cL_law 502 = .ok (.if_icmp .eq 825, 3) := by decide +kernel
theorem dL_law_505 : decode cL_law 505 = .ok (.iconst 0, 1) := by decide +kernel
theorem dL_law_506 : decode cL_law 506 = .ok (.ireturn, 1) := by decide +kernel
theorem dL_law_507 : decode cL_law 507 = .ok (.aload_n 1, 1) := by decide +kernel
theorem dL_law_508 : decode cL_law 508 = .ok (.aload_n 0, 1) := by decide +kernel
theorem dL_law_509 : decode cL_law 509 = .ok (.iload_n 3, 1) := by decide +kernel
theorem dL_law_510 : decode cL_law 510 = .ok (.iconst 1, 1) := by decide +kernel
theorem dL_law_511 : decode cL_law 511 = .ok (.iadd, 1) := by decide +kernel
theorem dL_law_512 : decode cL_law 512 = .ok (.iaload, 1) := by decide +kernel
theorem dL_law_513 : decode cL_law 513 = .ok (.invokevirtual 62, 3) := by decide +kernel
theorem dL_law_516 : decode cL_law 516 = .ok (.aload_n 2, 1) := by decide +kernel
theorem dL_law_517 : decode cL_law 517 = .ok (.aload_n 0, 1) := by decide +kernel
theorem dL_law_518 : decode cL_law 518 = .ok (.iload_n 3, 1) := by decide +kernel
theorem dL_law_519 : decode cL_law 519 = .ok (.iconst 1, 1) := by decide +kernel
theorem dL_law_520 : decode cL_law 520 = .ok (.iadd, 1) := by decide +kernel
theorem dL_law_521 : decode cL_law 521 = .ok (.iaload, 1) := by decide +kernel
theorem dL_law_522 : decode cL_law 522 = .ok (.invokevirtual 65, 3) := by decide +kernel
theorem dL_law_525 : decode cL_law 525 = .ok (.if_icmp .eq 802, 3) := by decide +kernel
theorem dL_law_528 : decode cL_law 528 = .ok (.iconst 0, 1) := by decide +kernel
theorem dL_law_529 : decode cL_law 529 = .ok (.ireturn, 1) := by decide +kernel
theorem dL_law_530 : decode cL_law 530 = .ok (.aload_n 1, 1) := by decide +kernel
theorem dL_law_531 : decode cL_law 531 = .ok (.aload_n 0, 1) := by decide +kernel
theorem dL_law_532 : decode cL_law 532 = .ok (.iload_n 3, 1) := by decide +kernel
theorem dL_law_533 : decode cL_law 533 = .ok (.iconst 1, 1) := by decide +kernel
theorem dL_law_534 : decode cL_law 534 = .ok (.iadd, 1) := by decide +kernel
theorem dL_law_535 : decode cL_law 535 = .ok (.iaload, 1) := by decide +kernel
theorem dL_law_536 : decode cL_law 536 = .ok (.aload_n 0, 1) := by decide +kernel
theorem dL_law_537 : decode cL_law 537 = .ok (.iload_n 3, 1) := by decide +kernel
theorem dL_law_538 : decode cL_law 538 = .ok (.iconst 2, 1) := by decide +kernel
theorem dL_law_539 : decode cL_law 539 = .ok (.iadd, 1) := by decide +kernel
theorem dL_law_540 : decode cL_law 540 = .ok (.iaload, 1) := by decide +kernel
theorem dL_law_541 : decode cL_law 541 = .ok (.invokevirtual 66, 3) := by decide +kernel
theorem dL_law_544 : decode cL_law 544 = .ok (.aload_n 2, 1) := by decide +kernel
theorem dL_law_545 : decode cL_law 545 = .ok (.aload_n 0, 1) := by decide +kernel
theorem dL_law_546 : decode cL_law 546 = .ok (.iload_n 3, 1) := by decide +kernel
theorem dL_law_547 : decode cL_law 547 = .ok (.iconst 1, 1) := by decide +kernel
theorem dL_law_548 : decode cL_law 548 = .ok (.iadd, 1) := by decide +kernel
theorem dL_law_549 : decode cL_law 549 = .ok (.iaload, 1) := by decide +kernel
theorem dL_law_550 : decode cL_law 550 = .ok (.aload_n 0, 1) := by decide +kernel
theorem dL_law_551 : decode cL_law 551 = .ok (.iload_n 3, 1) := by decide +kernel
theorem dL_law_552 : decode cL_law 552 = .ok (.iconst 2, 1) := by decide +kernel
theorem dL_law_553 : decode cL_law 553 = .ok (.iadd, 1) := by decide +kernel
theorem dL_law_554 : decode cL_law 554 = .ok (.iaload, 1) := by decide +kernel
theorem dL_law_555 : decode cL_law 555 = .ok (.invokevirtual 69, 3) := by decide +kernel
theorem dL_law_558 : decode cL_law 558 = .ok (.if_icmp .eq 769, 3) := by decide +kernel
theorem dL_law_561 : decode cL_law 561 = .ok (.iconst 0, 1) := by decide +kernel
theorem dL_law_562 : decode cL_law 562 = .ok (.ireturn, 1) := by decide +kernel
theorem dL_law_563 : decode cL_law 563 = .ok (.aload_n 1, 1) := by decide +kernel
theorem dL_law_564 : decode cL_law 564 = .ok (.aload_n 0, 1) := by decide +kernel
theorem dL_law_565 : decode cL_law 565 = .ok (.iload_n 3, 1) := by decide +kernel
theorem dL_law_566 : decode cL_law 566 = .ok (.iconst 1, 1) := by decide +kernel
theorem dL_law_567 : decode cL_law 567 = .ok (.iadd, 1) := by decide +kernel
theorem dL_law_568 : decode cL_law 568 = .ok (.iaload, 1) := by decide +kernel
theorem dL_law_569 : decode cL_law 569 = .ok (.aload_n 0, 1) := by decide +kernel
theorem dL_law_570 : decode cL_law 570 = .ok (.iload_n 3, 1) := by decide +kernel
theorem dL_law_571 : decode cL_law 571 = .ok (.iconst 2, 1) := by decide +kernel
theorem dL_law_572 : decode cL_law 572 = .ok (.iadd, 1) := by decide +kernel
theorem dL_law_573 : decode cL_law 573 = .ok (.iaload, 1) := by decide +kernel
theorem dL_law_574 : decode cL_law 574 = .ok (.invokevirtual 70, 3) := by decide +kernel
theorem dL_law_577 : decode cL_law 577 = .ok (.aload_n 2, 1) := by decide +kernel
theorem dL_law_578 : decode cL_law 578 = .ok (.aload_n 0, 1) := by decide +kernel
theorem dL_law_579 : decode cL_law 579 = .ok (.iload_n 3, 1) := by decide +kernel
theorem dL_law_580 : decode cL_law 580 = .ok (.iconst 1, 1) := by decide +kernel
theorem dL_law_581 : decode cL_law 581 = .ok (.iadd, 1) := by decide +kernel
theorem dL_law_582 : decode cL_law 582 = .ok (.iaload, 1) := by decide +kernel
theorem dL_law_583 : decode cL_law 583 = .ok (.aload_n 0, 1) := by decide +kernel
theorem dL_law_584 : decode cL_law 584 = .ok (.iload_n 3, 1) := by decide +kernel
theorem dL_law_585 : decode cL_law 585 = .ok (.iconst 2, 1) := by decide +kernel
theorem dL_law_586 : decode cL_law 586 = .ok (.iadd, 1) := by decide +kernel
theorem dL_law_587 : decode cL_law 587 = .ok (.iaload, 1) := by decide +kernel
theorem dL_law_588 : decode cL_law 588 = .ok (.invokevirtual 73, 3) := by decide +kernel
theorem dL_law_591 : decode cL_law 591 = .ok (.if_icmp .eq 736, 3) := by decide +kernel
theorem dL_law_594 : decode cL_law 594 = .ok (.iconst 0, 1) := by decide +kernel
theorem dL_law_595 : decode cL_law 595 = .ok (.ireturn, 1) := by decide +kernel
theorem dL_law_596 : decode cL_law 596 = .ok (.aload_n 1, 1) := by decide +kernel
theorem dL_law_597 : decode cL_law 597 = .ok (.aload_n 0, 1) := by decide +kernel
theorem dL_law_598 : decode cL_law 598 = .ok (.iload_n 3, 1) := by decide +kernel
theorem dL_law_599 : decode cL_law 599 = .ok (.iconst 1, 1) := by decide +kernel
theorem dL_law_600 : decode cL_law 600 = .ok (.iadd, 1) := by decide +kernel
theorem dL_law_601 : decode cL_law 601 = .ok (.iaload, 1) := by decide +kernel
theorem dL_law_602 : decode cL_law 602 = .ok (.aload_n 0, 1) := by decide +kernel
theorem dL_law_603 : decode cL_law 603 = .ok (.iload_n 3, 1) := by decide +kernel
theorem dL_law_604 : decode cL_law 604 = .ok (.iconst 2, 1) := by decide +kernel
theorem dL_law_605 : decode cL_law 605 = .ok (.iadd, 1) := by decide +kernel
theorem dL_law_606 : decode cL_law 606 = .ok (.iaload, 1) := by decide +kernel
theorem dL_law_607 : decode cL_law 607 = .ok (.invokevirtual 74, 3) := by decide +kernel
theorem dL_law_610 : decode cL_law 610 = .ok (.aload_n 2, 1) := by decide +kernel
theorem dL_law_611 : decode cL_law 611 = .ok (.aload_n 0, 1) := by decide +kernel
theorem dL_law_612 : decode cL_law 612 = .ok (.iload_n 3, 1) := by decide +kernel
theorem dL_law_613 : decode cL_law 613 = .ok (.iconst 1, 1) := by decide +kernel
theorem dL_law_614 : decode cL_law 614 = .ok (.iadd, 1) := by decide +kernel
theorem dL_law_615 : decode cL_law 615 = .ok (.iaload, 1) := by decide +kernel
theorem dL_law_616 : decode cL_law 616 = .ok (.aload_n 0, 1) := by decide +kernel
theorem dL_law_617 : decode cL_law 617 = .ok (.iload_n 3, 1) := by decide +kernel
theorem dL_law_618 : decode cL_law 618 = .ok (.iconst 2, 1) := by decide +kernel
theorem dL_law_619 : decode cL_law 619 = .ok (.iadd, 1) := by decide +kernel
theorem dL_law_620 : decode cL_law 620 = .ok (.iaload, 1) := by decide +kernel
theorem dL_law_621 : decode cL_law 621 = .ok (.invokevirtual 77, 3) := by decide +kernel
theorem dL_law_624 : decode cL_law 624 = .ok (.if_icmp .eq 703, 3) := by decide +kernel
theorem dL_law_627 : decode cL_law 627 = .ok (.iconst 0, 1) := by decide +kernel
theorem dL_law_628 : decode cL_law 628 = .ok (.ireturn, 1) := by decide +kernel
theorem dL_law_629 : decode cL_law 629 = .ok (.aload_n 1, 1) := by decide +kernel
theorem dL_law_630 : decode cL_law 630 = .ok (.aload_n 0, 1) := by decide +kernel
theorem dL_law_631 : decode cL_law 631 = .ok (.iload_n 3, 1) := by decide +kernel
theorem dL_law_632 : decode cL_law 632 = .ok (.iconst 1, 1) := by decide +kernel
theorem dL_law_633 : decode cL_law 633 = .ok (.iadd, 1) := by decide +kernel
theorem dL_law_634 : decode cL_law 634 = .ok (.iaload, 1) := by decide +kernel
theorem dL_law_635 : decode cL_law 635 = .ok (.invokevirtual 78, 3) := by decide +kernel
theorem dL_law_638 : decode cL_law 638 = .ok (.aload_n 2, 1) := by decide +kernel
theorem dL_law_639 : decode cL_law 639 = .ok (.aload_n 0, 1) := by decide +kernel
theorem dL_law_640 : decode cL_law 640 = .ok (.iload_n 3, 1) := by decide +kernel
theorem dL_law_641 : decode cL_law 641 = .ok (.iconst 1, 1) := by decide +kernel
theorem dL_law_642 : decode cL_law 642 = .ok (.iadd, 1) := by decide +kernel
theorem dL_law_643 : decode cL_law 643 = .ok (.iaload, 1) := by decide +kernel
theorem dL_law_644 : decode cL_law 644 = .ok (.invokevirtual 81, 3) := by decide +kernel
theorem dL_law_647 : decode cL_law 647 = .ok (.if_icmp .eq 680, 3) := by decide +kernel
theorem dL_law_650 : decode cL_law 650 = .ok (.iconst 0, 1) := by decide +kernel
theorem dL_law_651 : decode cL_law 651 = .ok (.ireturn, 1) := by decide +kernel
theorem dL_law_652 : decode cL_law 652 = .ok (.aload_n 1, 1) := by decide +kernel
theorem dL_law_653 : decode cL_law 653 = .ok (.aload_n 0, 1) := by decide +kernel
theorem dL_law_654 : decode cL_law 654 = .ok (.iload_n 3, 1) := by decide +kernel
theorem dL_law_655 : decode cL_law 655 = .ok (.iconst 1, 1) := by decide +kernel
theorem dL_law_656 : decode cL_law 656 = .ok (.iadd, 1) := by decide +kernel
theorem dL_law_657 : decode cL_law 657 = .ok (.iaload, 1) := by decide +kernel
theorem dL_law_658 : decode cL_law 658 = .ok (.aload_n 0, 1) := by decide +kernel
theorem dL_law_659 : decode cL_law 659 = .ok (.iload_n 3, 1) := by decide +kernel
theorem dL_law_660 : decode cL_law 660 = .ok (.iconst 2, 1) := by decide +kernel
theorem dL_law_661 : decode cL_law 661 = .ok (.iadd, 1) := by decide +kernel
theorem dL_law_662 : decode cL_law 662 = .ok (.iaload, 1) := by decide +kernel
theorem dL_law_663 : decode cL_law 663 = .ok (.aload_n 0, 1) := by decide +kernel
theorem dL_law_664 : decode cL_law 664 = .ok (.iload_n 3, 1) := by decide +kernel
theorem dL_law_665 : decode cL_law 665 = .ok (.iconst 3, 1) := by decide +kernel
theorem dL_law_666 : decode cL_law 666 = .ok (.iadd, 1) := by decide +kernel
theorem dL_law_667 : decode cL_law 667 = .ok (.iaload, 1) := by decide +kernel
theorem dL_law_668 : decode cL_law 668 = .ok (.invokevirtual 82, 3) := by decide +kernel
theorem dL_law_671 : decode cL_law 671 = .ok (.aload_n 2, 1) := by decide +kernel
theorem dL_law_672 : decode cL_law 672 = .ok (.aload_n 0, 1) := by decide +kernel
theorem dL_law_673 : decode cL_law 673 = .ok (.iload_n 3, 1) := by decide +kernel
theorem dL_law_674 : decode cL_law 674 = .ok (.iconst 1, 1) := by decide +kernel
theorem dL_law_675 : decode cL_law 675 = .ok (.iadd, 1) := by decide +kernel
theorem dL_law_676 : decode cL_law 676 = .ok (.iaload, 1) := by decide +kernel
theorem dL_law_677 : decode cL_law 677 = .ok (.aload_n 0, 1) := by decide +kernel
theorem dL_law_678 : decode cL_law 678 = .ok (.iload_n 3, 1) := by decide +kernel
theorem dL_law_679 : decode cL_law 679 = .ok (.iconst 2, 1) := by decide +kernel
theorem dL_law_680 : decode cL_law 680 = .ok (.iadd, 1) := by decide +kernel
theorem dL_law_681 : decode cL_law 681 = .ok (.iaload, 1) := by decide +kernel
theorem dL_law_682 : decode cL_law 682 = .ok (.aload_n 0, 1) := by decide +kernel
theorem dL_law_683 : decode cL_law 683 = .ok (.iload_n 3, 1) := by decide +kernel
theorem dL_law_684 : decode cL_law 684 = .ok (.iconst 3, 1) := by decide +kernel
theorem dL_law_685 : decode cL_law 685 = .ok (.iadd, 1) := by decide +kernel
theorem dL_law_686 : decode cL_law 686 = .ok (.iaload, 1) := by decide +kernel
theorem dL_law_687 : decode cL_law 687 = .ok (.invokevirtual 85, 3) := by decide +kernel
theorem dL_law_690 : decode cL_law 690 = .ok (.if_icmp .eq 637, 3) := by decide +kernel
theorem dL_law_693 : decode cL_law 693 = .ok (.iconst 0, 1) := by decide +kernel
theorem dL_law_694 : decode cL_law 694 = .ok (.ireturn, 1) := by decide +kernel
theorem dL_law_695 : decode cL_law 695 = .ok (.aload_n 1, 1) := by decide +kernel
theorem dL_law_696 : decode cL_law 696 = .ok (.aload_n 0, 1) := by decide +kernel
theorem dL_law_697 : decode cL_law 697 = .ok (.iload_n 3, 1) := by decide +kernel
theorem dL_law_698 : decode cL_law 698 = .ok (.iconst 1, 1) := by decide +kernel
theorem dL_law_699 : decode cL_law 699 = .ok (.iadd, 1) := by decide +kernel
theorem dL_law_700 : decode cL_law 700 = .ok (.iaload, 1) := by decide +kernel
theorem dL_law_701 : decode cL_law 701 = .ok (.aload_n 0, 1) := by decide +kernel
theorem dL_law_702 : decode cL_law 702 = .ok (.iload_n 3, 1) := by decide +kernel
theorem dL_law_703 : decode cL_law 703 = .ok (.iconst 2, 1) := by decide +kernel
theorem dL_law_704 : decode cL_law 704 = .ok (.iadd, 1) := by decide +kernel
theorem dL_law_705 : decode cL_law 705 = .ok (.iaload, 1) := by decide +kernel
theorem dL_law_706 : decode cL_law 706 = .ok (.aload_n 0, 1) := by decide +kernel
theorem dL_law_707 : decode cL_law 707 = .ok (.iload_n 3, 1) := by decide +kernel
theorem dL_law_708 : decode cL_law 708 = .ok (.iconst 3, 1) := by decide +kernel
theorem dL_law_709 : decode cL_law 709 = .ok (.iadd, 1) := by decide +kernel
theorem dL_law_710 : decode cL_law 710 = .ok (.iaload, 1) := by decide +kernel
theorem dL_law_711 : decode cL_law 711 = .ok (.aload_n 0, 1) := by decide +kernel
theorem dL_law_712 : decode cL_law 712 = .ok (.iload_n 3, 1) := by decide +kernel
theorem dL_law_713 : decode cL_law 713 = .ok (.iconst 4, 1) := by decide +kernel
theorem dL_law_714 : decode cL_law 714 = .ok (.iadd, 1) := by decide +kernel
theorem dL_law_715 : decode cL_law 715 = .ok (.iaload, 1) := by decide +kernel
theorem dL_law_716 : decode cL_law 716 = .ok (.invokevirtual 86, 3) := by decide +kernel
theorem dL_law_719 : decode cL_law 719 = .ok (.aload_n 2, 1) := by decide +kernel
theorem dL_law_720 : decode cL_law 720 = .ok (.aload_n 0, 1) := by decide +kernel
theorem dL_law_721 : decode cL_law 721 = .ok (.iload_n 3, 1) := by decide +kernel
theorem dL_law_722 : decode cL_law 722 = .ok (.iconst 1, 1) := by decide +kernel
theorem dL_law_723 : decode cL_law 723 = .ok (.iadd, 1) := by decide +kernel
theorem dL_law_724 : decode cL_law 724 = .ok (.iaload, 1) := by decide +kernel
theorem dL_law_725 : decode cL_law 725 = .ok (.aload_n 0, 1) := by decide +kernel
theorem dL_law_726 : decode cL_law 726 = .ok (.iload_n 3, 1) := by decide +kernel
theorem dL_law_727 : decode cL_law 727 = .ok (.iconst 2, 1) := by decide +kernel
theorem dL_law_728 : decode cL_law 728 = .ok (.iadd, 1) := by decide +kernel
theorem dL_law_729 : decode cL_law 729 = .ok (.iaload, 1) := by decide +kernel
theorem dL_law_730 : decode cL_law 730 = .ok (.aload_n 0, 1) := by decide +kernel
theorem dL_law_731 : decode cL_law 731 = .ok (.iload_n 3, 1) := by decide +kernel
theorem dL_law_732 : decode cL_law 732 = .ok (.iconst 3, 1) := by decide +kernel
theorem dL_law_733 : decode cL_law 733 = .ok (.iadd, 1) := by decide +kernel
theorem dL_law_734 : decode cL_law 734 = .ok (.iaload, 1) := by decide +kernel
theorem dL_law_735 : decode cL_law 735 = .ok (.aload_n 0, 1) := by decide +kernel
theorem dL_law_736 : decode cL_law 736 = .ok (.iload_n 3, 1) := by decide +kernel
theorem dL_law_737 : decode cL_law 737 = .ok (.iconst 4, 1) := by decide +kernel
theorem dL_law_738 : decode cL_law 738 = .ok (.iadd, 1) := by decide +kernel
theorem dL_law_739 : decode cL_law 739 = .ok (.iaload, 1) := by decide +kernel
theorem dL_law_740 : decode cL_law 740 = .ok (.invokevirtual 90, 3) := by decide +kernel
theorem dL_law_743 : decode cL_law 743 = .ok (.if_icmp .eq 584, 3) := by decide +kernel
theorem dL_law_746 : decode cL_law 746 = .ok (.iconst 0, 1) := by decide +kernel
theorem dL_law_747 : decode cL_law 747 = .ok (.ireturn, 1) := by decide +kernel
theorem dL_law_748 : decode cL_law 748 = .ok (.aload_n 1, 1) := by decide +kernel
theorem dL_law_749 : decode cL_law 749 = .ok (.aload_n 0, 1) := by decide +kernel
theorem dL_law_750 : decode cL_law 750 = .ok (.iload_n 3, 1) := by decide +kernel
theorem dL_law_751 : decode cL_law 751 = .ok (.iconst 1, 1) := by decide +kernel
theorem dL_law_752 : decode cL_law 752 = .ok (.iadd, 1) := by decide +kernel
theorem dL_law_753 : decode cL_law 753 = .ok (.iaload, 1) := by decide +kernel
theorem dL_law_754 : decode cL_law 754 = .ok (.aload_n 0, 1) := by decide +kernel
theorem dL_law_755 : decode cL_law 755 = .ok (.iload_n 3, 1) := by decide +kernel
theorem dL_law_756 : decode cL_law 756 = .ok (.iconst 2, 1) := by decide +kernel
theorem dL_law_757 : decode cL_law 757 = .ok (.iadd, 1) := by decide +kernel
theorem dL_law_758 : decode cL_law 758 = .ok (.iaload, 1) := by decide +kernel
theorem dL_law_759 : decode cL_law 759 = .ok (.aload_n 0, 1) := by decide +kernel
theorem dL_law_760 : decode cL_law 760 = .ok (.iload_n 3, 1) := by decide +kernel
theorem dL_law_761 : decode cL_law 761 = .ok (.iconst 3, 1) := by decide +kernel
theorem dL_law_762 : decode cL_law 762 = .ok (.iadd, 1) := by decide +kernel
theorem dL_law_763 : decode cL_law 763 = .ok (.iaload, 1) := by decide +kernel
theorem dL_law_764 : decode cL_law 764 = .ok (.aload_n 0, 1) := by decide +kernel
theorem dL_law_765 : decode cL_law 765 = .ok (.iload_n 3, 1) := by decide +kernel
theorem dL_law_766 : decode cL_law 766 = .ok (.iconst 4, 1) := by decide +kernel
theorem dL_law_767 : decode cL_law 767 = .ok (.iadd, 1) := by decide +kernel
theorem dL_law_768 : decode cL_law 768 = .ok (.iaload, 1) := by decide +kernel
theorem dL_law_769 : decode cL_law 769 = .ok (.invokevirtual 91, 3) := by decide +kernel
theorem dL_law_772 : decode cL_law 772 = .ok (.aload_n 2, 1) := by decide +kernel
theorem dL_law_773 : decode cL_law 773 = .ok (.aload_n 0, 1) := by decide +kernel
theorem dL_law_774 : decode cL_law 774 = .ok (.iload_n 3, 1) := by decide +kernel
theorem dL_law_775 : decode cL_law 775 = .ok (.iconst 1, 1) := by decide +kernel
theorem dL_law_776 : decode cL_law 776 = .ok (.iadd, 1) := by decide +kernel
theorem dL_law_777 : decode cL_law 777 = .ok (.iaload, 1) := by decide +kernel
theorem dL_law_778 : decode cL_law 778 = .ok (.aload_n 0, 1) := by decide +kernel
theorem dL_law_779 : decode cL_law 779 = .ok (.iload_n 3, 1) := by decide +kernel
theorem dL_law_780 : decode cL_law 780 = .ok (.iconst 2, 1) := by decide +kernel
theorem dL_law_781 : decode cL_law 781 = .ok (.iadd, 1) := by decide +kernel
theorem dL_law_782 : decode cL_law 782 = .ok (.iaload, 1) := by decide +kernel
theorem dL_law_783 : decode cL_law 783 = .ok (.aload_n 0, 1) := by decide +kernel
theorem dL_law_784 : decode cL_law 784 = .ok (.iload_n 3, 1) := by decide +kernel
theorem dL_law_785 : decode cL_law 785 = .ok (.iconst 3, 1) := by decide +kernel
theorem dL_law_786 : decode cL_law 786 = .ok (.iadd, 1) := by decide +kernel
theorem dL_law_787 : decode cL_law 787 = .ok (.iaload, 1) := by decide +kernel
theorem dL_law_788 : decode cL_law 788 = .ok (.aload_n 0, 1) := by decide +kernel
theorem dL_law_789 : decode cL_law 789 = .ok (.iload_n 3, 1) := by decide +kernel
theorem dL_law_790 : decode cL_law 790 = .ok (.iconst 4, 1) := by decide +kernel
theorem dL_law_791 : decode cL_law 791 = .ok (.iadd, 1) := by decide +kernel
theorem dL_law_792 : decode cL_law 792 = .ok (.iaload, 1) := by decide +kernel
theorem dL_law_793 : decode cL_law 793 = .ok (.invokevirtual 94, 3) := by decide +kernel
theorem dL_law_796 : decode cL_law 796 = .ok (.if_icmp .eq 531, 3) := by decide +kernel
theorem dL_law_799 : decode cL_law 799 = .ok (.iconst 0, 1) := by decide +kernel
theorem dL_law_800 : decode cL_law 800 = .ok (.ireturn, 1) := by decide +kernel
theorem dL_law_801 : decode cL_law 801 = .ok (.aload_n 1, 1) := by decide +kernel
theorem dL_law_802 : decode cL_law 802 = .ok (.aload_n 0, 1) := by decide +kernel
theorem dL_law_803 : decode cL_law 803 = .ok (.iload_n 3, 1) := by decide +kernel
theorem dL_law_804 : decode cL_law 804 = .ok (.iconst 1, 1) := by decide +kernel
theorem dL_law_805 : decode cL_law 805 = .ok (.iadd, 1) := by decide +kernel
theorem dL_law_806 : decode cL_law 806 = .ok (.iaload, 1) := by decide +kernel
theorem dL_law_807 : decode cL_law 807 = .ok (.aload_n 0, 1) := by decide +kernel
theorem dL_law_808 : decode cL_law 808 = .ok (.iload_n 3, 1) := by decide +kernel
theorem dL_law_809 : decode cL_law 809 = .ok (.iconst 2, 1) := by decide +kernel
theorem dL_law_810 : decode cL_law 810 = .ok (.iadd, 1) := by decide +kernel
theorem dL_law_811 : decode cL_law 811 = .ok (.iaload, 1) := by decide +kernel
theorem dL_law_812 : decode cL_law 812 = .ok (.aload_n 0, 1) := by decide +kernel
theorem dL_law_813 : decode cL_law 813 = .ok (.iload_n 3, 1) := by decide +kernel
theorem dL_law_814 : decode cL_law 814 = .ok (.iconst 3, 1) := by decide +kernel
theorem dL_law_815 : decode cL_law 815 = .ok (.iadd, 1) := by decide +kernel
theorem dL_law_816 : decode cL_law 816 = .ok (.iaload, 1) := by decide +kernel
theorem dL_law_817 : decode cL_law 817 = .ok (.aload_n 0, 1) := by decide +kernel
theorem dL_law_818 : decode cL_law 818 = .ok (.iload_n 3, 1) := by decide +kernel
theorem dL_law_819 : decode cL_law 819 = .ok (.iconst 4, 1) := by decide +kernel
theorem dL_law_820 : decode cL_law 820 = .ok (.iadd, 1) := by decide +kernel
theorem dL_law_821 : decode cL_law 821 = .ok (.iaload, 1) := by decide +kernel
theorem dL_law_822 : decode cL_law 822 = .ok (.invokevirtual 95, 3) := by decide +kernel
theorem dL_law_825 : decode cL_law 825 = .ok (.aload_n 2, 1) := by decide +kernel
theorem dL_law_826 : decode cL_law 826 = .ok (.aload_n 0, 1) := by decide +kernel
theorem dL_law_827 : decode cL_law 827 = .ok (.iload_n 3, 1) := by decide +kernel
theorem dL_law_828 : decode cL_law 828 = .ok (.iconst 1, 1) := by decide +kernel
theorem dL_law_829 : decode cL_law 829 = .ok (.iadd, 1) := by decide +kernel
theorem dL_law_830 : decode cL_law 830 = .ok (.iaload, 1) := by decide +kernel
theorem dL_law_831 : decode cL_law 831 = .ok (.aload_n 0, 1) := by decide +kernel
theorem dL_law_832 : decode cL_law 832 = .ok (.iload_n 3, 1) := by decide +kernel
theorem dL_law_833 : decode cL_law 833 = .ok (.iconst 2, 1) := by decide +kernel
theorem dL_law_834 : decode cL_law 834 = .ok (.iadd, 1) := by decide +kernel
theorem dL_law_835 : decode cL_law 835 = .ok (.iaload, 1) := by decide +kernel
theorem dL_law_836 : decode cL_law 836 = .ok (.aload_n 0, 1) := by decide +kernel
theorem dL_law_837 : decode cL_law 837 = .ok (.iload_n 3, 1) := by decide +kernel
theorem dL_law_838 : decode cL_law 838 = .ok (.iconst 3, 1) := by decide +kernel
theorem dL_law_839 : decode cL_law 839 = .ok (.iadd, 1) := by decide +kernel
theorem dL_law_840 : decode cL_law 840 = .ok (.iaload, 1) := by decide +kernel
theorem dL_law_841 : decode cL_law 841 = .ok (.aload_n 0, 1) := by decide +kernel
theorem dL_law_842 : decode cL_law 842 = .ok (.iload_n 3, 1) := by decide +kernel
theorem dL_law_843 : decode cL_law 843 = .ok (.iconst 4, 1) := by decide +kernel
theorem dL_law_844 : decode cL_law 844 = .ok (.iadd, 1) := by decide +kernel
theorem dL_law_845 : decode cL_law 845 = .ok (.iaload, 1) := by decide +kernel
theorem dL_law_846 : decode cL_law 846 = .ok (.invokevirtual 98, 3) := by decide +kernel
theorem dL_law_849 : decode cL_law 849 = .ok (.if_icmp .eq 478, 3) := by decide +kernel
theorem dL_law_852 : decode cL_law 852 = .ok (.iconst 0, 1) := by decide +kernel
theorem dL_law_853 : decode cL_law 853 = .ok (.ireturn, 1) := by decide +kernel
theorem dL_law_854 : decode cL_law 854 = .ok (.aload_n 1, 1) := by decide +kernel
theorem dL_law_855 : decode cL_law 855 = .ok (.aload_n 0, 1) := by decide +kernel
theorem dL_law_856 : decode cL_law 856 = .ok (.iload_n 3, 1) := by decide +kernel
theorem dL_law_857 : decode cL_law 857 = .ok (.iconst 1, 1) := by decide +kernel
theorem dL_law_858 : decode cL_law 858 = .ok (.iadd, 1) := by decide +kernel
theorem dL_law_859 : decode cL_law 859 = .ok (.iaload, 1) := by decide +kernel
theorem dL_law_860 : decode cL_law 860 = .ok (.aload_n 0, 1) := by decide +kernel
theorem dL_law_861 : decode cL_law 861 = .ok (.iload_n 3, 1) := by decide +kernel
theorem dL_law_862 : decode cL_law 862 = .ok (.iconst 2, 1) := by decide +kernel
theorem dL_law_863 : decode cL_law 863 = .ok (.iadd, 1) := by decide +kernel
theorem dL_law_864 : decode cL_law 864 = .ok (.iaload, 1) := by decide +kernel
theorem dL_law_865 : decode cL_law 865 = .ok (.aload_n 0, 1) := by decide +kernel
theorem dL_law_866 : decode cL_law 866 = .ok (.iload_n 3, 1) := by decide +kernel
theorem dL_law_867 : decode cL_law 867 = .ok (.iconst 3, 1) := by decide +kernel
theorem dL_law_868 : decode cL_law 868 = .ok (.iadd, 1) := by decide +kernel
theorem dL_law_869 : decode cL_law 869 = .ok (.iaload, 1) := by decide +kernel
theorem dL_law_870 : decode cL_law 870 = .ok (.aload_n 0, 1) := by decide +kernel
theorem dL_law_871 : decode cL_law 871 = .ok (.iload_n 3, 1) := by decide +kernel
theorem dL_law_872 : decode cL_law 872 = .ok (.iconst 4, 1) := by decide +kernel
theorem dL_law_873 : decode cL_law 873 = .ok (.iadd, 1) := by decide +kernel
theorem dL_law_874 : decode cL_law 874 = .ok (.iaload, 1) := by decide +kernel
theorem dL_law_875 : decode cL_law 875 = .ok (.aload_n 0, 1) := by decide +kernel
theorem dL_law_876 : decode cL_law 876 = .ok (.iload_n 3, 1) := by decide +kernel
theorem dL_law_877 : decode cL_law 877 = .ok (.iconst 5, 1) := by decide +kernel
theorem dL_law_878 : decode cL_law 878 = .ok (.iadd, 1) := by decide +kernel
theorem dL_law_879 : decode cL_law 879 = .ok (.iaload, 1) := by decide +kernel
theorem dL_law_880 : decode cL_law 880 = .ok (.invokevirtual 99, 3) := by decide +kernel
theorem dL_law_883 : decode cL_law 883 = .ok (.aload_n 2, 1) := by decide +kernel
theorem dL_law_884 : decode cL_law 884 = .ok (.aload_n 0, 1) := by decide +kernel
theorem dL_law_885 : decode cL_law 885 = .ok (.iload_n 3, 1) := by decide +kernel
theorem dL_law_886 : decode cL_law 886 = .ok (.iconst 1, 1) := by decide +kernel
theorem dL_law_887 : decode cL_law 887 = .ok (.iadd, 1) := by decide +kernel
theorem dL_law_888 : decode cL_law 888 = .ok (.iaload, 1) := by decide +kernel
theorem dL_law_889 : decode cL_law 889 = .ok (.aload_n 0, 1) := by decide +kernel
theorem dL_law_890 : decode cL_law 890 = .ok (.iload_n 3, 1) := by decide +kernel
theorem dL_law_891 : decode cL_law 891 = .ok (.iconst 2, 1) := by decide +kernel
theorem dL_law_892 : decode cL_law 892 = .ok (.iadd, 1) := by decide +kernel
theorem dL_law_893 : decode cL_law 893 = .ok (.iaload, 1) := by decide +kernel
theorem dL_law_894 : decode cL_law 894 = .ok (.aload_n 0, 1) := by decide +kernel
theorem dL_law_895 : decode cL_law 895 = .ok (.iload_n 3, 1) := by decide +kernel
theorem dL_law_896 : decode cL_law 896 = .ok (.iconst 3, 1) := by decide +kernel
theorem dL_law_897 : decode cL_law 897 = .ok (.iadd, 1) := by decide +kernel
theorem dL_law_898 : decode cL_law 898 = .ok (.iaload, 1) := by decide +kernel
theorem dL_law_899 : decode cL_law 899 = .ok (.aload_n 0, 1) := by decide +kernel
theorem dL_law_900 : decode cL_law 900 = .ok (.iload_n 3, 1) := by decide +kernel
theorem dL_law_901 : decode cL_law 901 = .ok (.iconst 4, 1) := by decide +kernel
theorem dL_law_902 : decode cL_law 902 = .ok (.iadd, 1) := by decide +kernel
theorem dL_law_903 : decode cL_law 903 = .ok (.iaload, 1) := by decide +kernel
theorem dL_law_904 : decode cL_law 904 = .ok (.aload_n 0, 1) := by decide +kernel
theorem dL_law_905 : decode cL_law 905 = .ok (.iload_n 3, 1) := by decide +kernel
theorem dL_law_906 : decode cL_law 906 = .ok (.iconst 5, 1) := by decide +kernel
theorem dL_law_907 : decode cL_law 907 = .ok (.iadd, 1) := by decide +kernel
theorem dL_law_908 : decode cL_law 908 = .ok (.iaload, 1) := by decide +kernel
theorem dL_law_909 : decode cL_law 909 = .ok (.invokevirtual 102, 3) := by decide +kernel
theorem dL_law_912 : decode cL_law 912 = .ok (.if_icmp .eq 415, 3) := by decide +kernel
theorem dL_law_915 : decode cL_law 915 = .ok (.iconst 0, 1) := by decide +kernel
theorem dL_law_916 : decode cL_law 916 = .ok (.ireturn, 1) := by decide +kernel
theorem dL_law_917 : decode cL_law 917 = .ok (.aload_n 1, 1) := by decide +kernel
theorem dL_law_918 : decode cL_law 918 = .ok (.aload_n 0, 1) := by decide +kernel
theorem dL_law_919 : decode cL_law 919 = .ok (.iload_n 3, 1) := by decide +kernel
theorem dL_law_920 : decode cL_law 920 = .ok (.iconst 1, 1) := by decide +kernel
theorem dL_law_921 : decode cL_law 921 = .ok (.iadd, 1) := by decide +kernel
theorem dL_law_922 : decode cL_law 922 = .ok (.iaload, 1) := by decide +kernel
theorem dL_law_923 : decode cL_law 923 = .ok (.aload_n 0, 1) := by decide +kernel
theorem dL_law_924 : decode cL_law 924 = .ok (.iload_n 3, 1) := by decide +kernel
theorem dL_law_925 : decode cL_law 925 = .ok (.iconst 2, 1) := by decide +kernel
theorem dL_law_926 : decode cL_law 926 = .ok (.iadd, 1) := by decide +kernel
theorem dL_law_927 : decode cL_law 927 = .ok (.iaload, 1) := by decide +kernel
theorem dL_law_928 : decode cL_law 928 = .ok (.invokevirtual 103, 3) := by decide +kernel
theorem dL_law_931 : decode cL_law 931 = .ok (.aload_n 2, 1) := by decide +kernel
theorem dL_law_932 : decode cL_law 932 = .ok (.aload_n 0, 1) := by decide +kernel
theorem dL_law_933 : decode cL_law 933 = .ok (.iload_n 3, 1) := by decide +kernel
theorem dL_law_934 : decode cL_law 934 = .ok (.iconst 1, 1) := by decide +kernel
theorem dL_law_935 : decode cL_law 935 = .ok (.iadd, 1) := by decide +kernel
theorem dL_law_936 : decode cL_law 936 = .ok (.iaload, 1) := by decide +kernel
theorem dL_law_937 : decode cL_law 937 = .ok (.aload_n 0, 1) := by decide +kernel
theorem dL_law_938 : decode cL_law 938 = .ok (.iload_n 3, 1) := by decide +kernel
theorem dL_law_939 : decode cL_law 939 = .ok (.iconst 2, 1) := by decide +kernel
theorem dL_law_940 : decode cL_law 940 = .ok (.iadd, 1) := by decide +kernel
theorem dL_law_941 : decode cL_law 941 = .ok (.iaload, 1) := by decide +kernel
theorem dL_law_942 : decode cL_law 942 = .ok (.invokevirtual 106, 3) := by decide +kernel
theorem dL_law_945 : decode cL_law 945 = .ok (.if_icmp .eq 382, 3) := by decide +kernel
theorem dL_law_948 : decode cL_law 948 = .ok (.iconst 0, 1) := by decide +kernel
theorem dL_law_949 : decode cL_law 949 = .ok (.ireturn, 1) := by decide +kernel
theorem dL_law_950 : decode cL_law 950 = .ok (.aload_n 1, 1) := by decide +kernel
theorem dL_law_951 : decode cL_law 951 = .ok (.aload_n 0, 1) := by decide +kernel
theorem dL_law_952 : decode cL_law 952 = .ok (.iload_n 3, 1) := by decide +kernel
theorem dL_law_953 : decode cL_law 953 = .ok (.iconst 1, 1) := by decide +kernel
theorem dL_law_954 : decode cL_law 954 = .ok (.iadd, 1) := by decide +kernel
theorem dL_law_955 : decode cL_law 955 = .ok (.iaload, 1) := by decide +kernel
theorem dL_law_956 : decode cL_law 956 = .ok (.aload_n 0, 1) := by decide +kernel
theorem dL_law_957 : decode cL_law 957 = .ok (.iload_n 3, 1) := by decide +kernel
theorem dL_law_958 : decode cL_law 958 = .ok (.iconst 2, 1) := by decide +kernel
theorem dL_law_959 : decode cL_law 959 = .ok (.iadd, 1) := by decide +kernel
theorem dL_law_960 : decode cL_law 960 = .ok (.iaload, 1) := by decide +kernel
theorem dL_law_961 : decode cL_law 961 = .ok (.invokevirtual 107, 3) := by decide +kernel
theorem dL_law_964 : decode cL_law 964 = .ok (.aload_n 2, 1) := by decide +kernel
theorem dL_law_965 : decode cL_law 965 = .ok (.aload_n 0, 1) := by decide +kernel
theorem dL_law_966 : decode cL_law 966 = .ok (.iload_n 3, 1) := by decide +kernel
theorem dL_law_967 : decode cL_law 967 = .ok (.iconst 1, 1) := by decide +kernel
theorem dL_law_968 : decode cL_law 968 = .ok (.iadd, 1) := by decide +kernel
theorem dL_law_969 : decode cL_law 969 = .ok (.iaload, 1) := by decide +kernel
theorem dL_law_970 : decode cL_law 970 = .ok (.aload_n 0, 1) := by decide +kernel
theorem dL_law_971 : decode cL_law 971 = .ok (.iload_n 3, 1) := by decide +kernel
theorem dL_law_972 : decode cL_law 972 = .ok (.iconst 2, 1) := by decide +kernel
theorem dL_law_973 : decode cL_law 973 = .ok (.iadd, 1) := by decide +kernel
theorem dL_law_974 : decode cL_law 974 = .ok (.iaload, 1) := by decide +kernel
theorem dL_law_975 : decode cL_law 975 = .ok (.invokevirtual 110, 3) := by decide +kernel
theorem dL_law_978 : decode cL_law 978 = .ok (.if_icmp .eq 349, 3) := by decide +kernel
theorem dL_law_981 : decode cL_law 981 = .ok (.iconst 0, 1) := by decide +kernel
theorem dL_law_982 : decode cL_law 982 = .ok (.ireturn, 1) := by decide +kernel
theorem dL_law_983 : decode cL_law 983 = .ok (.aload_n 1, 1) := by decide +kernel
theorem dL_law_984 : decode cL_law 984 = .ok (.aload_n 0, 1) := by decide +kernel
theorem dL_law_985 : decode cL_law 985 = .ok (.iload_n 3, 1) := by decide +kernel
theorem dL_law_986 : decode cL_law 986 = .ok (.iconst 1, 1) := by decide +kernel
theorem dL_law_987 : decode cL_law 987 = .ok (.iadd, 1) := by decide +kernel
theorem dL_law_988 : decode cL_law 988 = .ok (.iaload, 1) := by decide +kernel
theorem dL_law_989 : decode cL_law 989 = .ok (.aload_n 0, 1) := by decide +kernel
theorem dL_law_990 : decode cL_law 990 = .ok (.iload_n 3, 1) := by decide +kernel
theorem dL_law_991 : decode cL_law 991 = .ok (.iconst 2, 1) := by decide +kernel
theorem dL_law_992 : decode cL_law 992 = .ok (.iadd, 1) := by decide +kernel
theorem dL_law_993 : decode cL_law 993 = .ok (.iaload, 1) := by decide +kernel
theorem dL_law_994 : decode cL_law 994 = .ok (.aload_n 0, 1) := by decide +kernel
theorem dL_law_995 : decode cL_law 995 = .ok (.iload_n 3, 1) := by decide +kernel
theorem dL_law_996 : decode cL_law 996 = .ok (.iconst 3, 1) := by decide +kernel
theorem dL_law_997 : decode cL_law 997 = .ok (.iadd, 1) := by decide +kernel
theorem dL_law_998 : decode cL_law 998 = .ok (.iaload, 1) := by decide +kernel
theorem dL_law_999 : decode cL_law 999 = .ok (.invokevirtual 111, 3) := by decide +kernel
theorem dL_law_1002 : decode cL_law 1002 = .ok (.aload_n 2, 1) := by decide +kernel
theorem dL_law_1003 : decode cL_law 1003 = .ok (.aload_n 0, 1) := by decide +kernel
theorem dL_law_1004 : decode cL_law 1004 = .ok (.iload_n 3, 1) := by decide +kernel
theorem dL_law_1005 : decode cL_law 1005 = .ok (.iconst 1, 1) := by decide +kernel
theorem dL_law_1006 : decode cL_law 1006 = .ok (.iadd, 1) := by decide +kernel
theorem dL_law_1007 : decode cL_law 1007 = .ok (.iaload, 1) := by decide +kernel
theorem dL_law_1008 : decode cL_law 1008 = .ok (.aload_n 0, 1) := by decide +kernel
theorem dL_law_1009 : decode cL_law 1009 = .ok (.iload_n 3, 1) := by decide +kernel
theorem dL_law_1010 : decode cL_law 1010 = .ok (.iconst 2, 1) := by decide +kernel
theorem dL_law_1011 : decode cL_law 1011 = .ok (.iadd, 1) := by decide +kernel
theorem dL_law_1012 : decode cL_law 1012 = .ok (.iaload, 1) := by decide +kernel
theorem dL_law_1013 : decode cL_law 1013 = .ok (.aload_n 0, 1) := by decide +kernel
theorem dL_law_1014 : decode cL_law 1014 = .ok (.iload_n 3, 1) := by decide +kernel
theorem dL_law_1015 : decode cL_law 1015 = .ok (.iconst 3, 1) := by decide +kernel
theorem dL_law_1016 : decode cL_law 1016 = .ok (.iadd, 1) := by decide +kernel
theorem dL_law_1017 : decode cL_law 1017 = .ok (.iaload, 1) := by decide +kernel
theorem dL_law_1018 : decode cL_law 1018 = .ok (.invokevirtual 114, 3) := by decide +kernel
theorem dL_law_1021 : decode cL_law 1021 = .ok (.if_icmp .eq 306, 3) := by decide +kernel
theorem dL_law_1024 : decode cL_law 1024 = .ok (.iconst 0, 1) := by decide +kernel
theorem dL_law_1025 : decode cL_law 1025 = .ok (.ireturn, 1) := by decide +kernel
theorem dL_law_1026 : decode cL_law 1026 = .ok (.aload_n 1, 1) := by decide +kernel
theorem dL_law_1027 : decode cL_law 1027 = .ok (.aload_n 0, 1) := by decide +kernel
theorem dL_law_1028 : decode cL_law 1028 = .ok (.iload_n 3, 1) := by decide +kernel
theorem dL_law_1029 : decode cL_law 1029 = .ok (.iconst 1, 1) := by decide +kernel
theorem dL_law_1030 : decode cL_law 1030 = .ok (.iadd, 1) := by decide +kernel
theorem dL_law_1031 : decode cL_law 1031 = .ok (.iaload, 1) := by decide +kernel
theorem dL_law_1032 : decode cL_law 1032 = .ok (.aload_n 0, 1) := by decide +kernel
theorem dL_law_1033 : decode cL_law 1033 = .ok (.iload_n 3, 1) := by decide +kernel
theorem dL_law_1034 : decode cL_law 1034 = .ok (.iconst 2, 1) := by decide +kernel
theorem dL_law_1035 : decode cL_law 1035 = .ok (.iadd, 1) := by decide +kernel
theorem dL_law_1036 : decode cL_law 1036 = .ok (.iaload, 1) := by decide +kernel
theorem dL_law_1037 : decode cL_law 1037 = .ok (.aload_n 0, 1) := by decide +kernel
theorem dL_law_1038 : decode cL_law 1038 = .ok (.iload_n 3, 1) := by decide +kernel
theorem dL_law_1039 : decode cL_law 1039 = .ok (.iconst 3, 1) := by decide +kernel
theorem dL_law_1040 : decode cL_law 1040 = .ok (.iadd, 1) := by decide +kernel
theorem dL_law_1041 : decode cL_law 1041 = .ok (.iaload, 1) := by decide +kernel
theorem dL_law_1042 : decode cL_law 1042 = .ok (.aload_n 0, 1) := by decide +kernel
theorem dL_law_1043 : decode cL_law 1043 = .ok (.iload_n 3, 1) := by decide +kernel
theorem dL_law_1044 : decode cL_law 1044 = .ok (.iconst 4, 1) := by decide +kernel
theorem dL_law_1045 : decode cL_law 1045 = .ok (.iadd, 1) := by decide +kernel
theorem dL_law_1046 : decode cL_law 1046 = .ok (.iaload, 1) := by decide +kernel
theorem dL_law_1047 : decode cL_law 1047 = .ok (.aload_n 0, 1) := by decide +kernel
theorem dL_law_1048 : decode cL_law 1048 = .ok (.iload_n 3, 1) := by decide +kernel
theorem dL_law_1049 : decode cL_law 1049 = .ok (.iconst 5, 1) := by decide +kernel
theorem dL_law_1050 : decode cL_law 1050 = .ok (.iadd, 1) := by decide +kernel
theorem dL_law_1051 : decode cL_law 1051 = .ok (.iaload, 1) := by decide +kernel
theorem dL_law_1052 : decode cL_law 1052 = .ok (.invokevirtual 115, 3) := by decide +kernel
theorem dL_law_1055 : decode cL_law 1055 = .ok (.aload_n 2, 1) := by decide +kernel
theorem dL_law_1056 : decode cL_law 1056 = .ok (.aload_n 0, 1) := by decide +kernel
theorem dL_law_1057 : decode cL_law 1057 = .ok (.iload_n 3, 1) := by decide +kernel
theorem dL_law_1058 : decode cL_law 1058 = .ok (.iconst 1, 1) := by decide +kernel
theorem dL_law_1059 : decode cL_law 1059 = .ok (.iadd, 1) := by decide +kernel
theorem dL_law_1060 : decode cL_law 1060 = .ok (.iaload, 1) := by decide +kernel
theorem dL_law_1061 : decode cL_law 1061 = .ok (.aload_n 0, 1) := by decide +kernel
theorem dL_law_1062 : decode cL_law 1062 = .ok (.iload_n 3, 1) := by decide +kernel
theorem dL_law_1063 : decode cL_law 1063 = .ok (.iconst 2, 1) := by decide +kernel
theorem dL_law_1064 : decode cL_law 1064 = .ok (.iadd, 1) := by decide +kernel
theorem dL_law_1065 : decode cL_law 1065 = .ok (.iaload, 1) := by decide +kernel
theorem dL_law_1066 : decode cL_law 1066 = .ok (.aload_n 0, 1) := by decide +kernel
theorem dL_law_1067 : decode cL_law 1067 = .ok (.iload_n 3, 1) := by decide +kernel
theorem dL_law_1068 : decode cL_law 1068 = .ok (.iconst 3, 1) := by decide +kernel
theorem dL_law_1069 : decode cL_law 1069 = .ok (.iadd, 1) := by decide +kernel
theorem dL_law_1070 : decode cL_law 1070 = .ok (.iaload, 1) := by decide +kernel
theorem dL_law_1071 : decode cL_law 1071 = .ok (.aload_n 0, 1) := by decide +kernel
theorem dL_law_1072 : decode cL_law 1072 = .ok (.iload_n 3, 1) := by decide +kernel
theorem dL_law_1073 : decode cL_law 1073 = .ok (.iconst 4, 1) := by decide +kernel
theorem dL_law_1074 : decode cL_law 1074 = .ok (.iadd, 1) := by decide +kernel
theorem dL_law_1075 : decode cL_law 1075 = .ok (.iaload, 1) := by decide +kernel
theorem dL_law_1076 : decode cL_law 1076 = .ok (.aload_n 0, 1) := by decide +kernel
theorem dL_law_1077 : decode cL_law 1077 = .ok (.iload_n 3, 1) := by decide +kernel
theorem dL_law_1078 : decode cL_law 1078 = .ok (.iconst 5, 1) := by decide +kernel
theorem dL_law_1079 : decode cL_law 1079 = .ok (.iadd, 1) := by decide +kernel
theorem dL_law_1080 : decode cL_law 1080 = .ok (.iaload, 1) := by decide +kernel
theorem dL_law_1081 : decode cL_law 1081 = .ok (.invokevirtual 119, 3) := by decide +kernel
theorem dL_law_1084 : decode cL_law 1084 = .ok (.lcmp, 1) := by decide +kernel
theorem dL_law_1085 : decode cL_law 1085 = .ok (.ifCond .eq 242, 3) := by decide +kernel
theorem dL_law_1088 : decode cL_law 1088 = .ok (.iconst 0, 1) := by decide +kernel
theorem dL_law_1089 : decode cL_law 1089 = .ok (.ireturn, 1) := by decide +kernel
theorem dL_law_1090 : decode cL_law 1090 = .ok (.aload_n 1, 1) := by decide +kernel
theorem dL_law_1091 : decode cL_law 1091 = .ok (.aload_n 0, 1) := by decide +kernel
theorem dL_law_1092 : decode cL_law 1092 = .ok (.iload_n 3, 1) := by decide +kernel
theorem dL_law_1093 : decode cL_law 1093 = .ok (.iconst 1, 1) := by decide +kernel
theorem dL_law_1094 : decode cL_law 1094 = .ok (.iadd, 1) := by decide +kernel
theorem dL_law_1095 : decode cL_law 1095 = .ok (.iaload, 1) := by decide +kernel
theorem dL_law_1096 : decode cL_law 1096 = .ok (.aload_n 0, 1) := by decide +kernel
theorem dL_law_1097 : decode cL_law 1097 = .ok (.iload_n 3, 1) := by decide +kernel
theorem dL_law_1098 : decode cL_law 1098 = .ok (.iconst 2, 1) := by decide +kernel
theorem dL_law_1099 : decode cL_law 1099 = .ok (.iadd, 1) := by decide +kernel
theorem dL_law_1100 : decode cL_law 1100 = .ok (.iaload, 1) := by decide +kernel
theorem dL_law_1101 : decode cL_law 1101 = .ok (.aload_n 0, 1) := by decide +kernel
theorem dL_law_1102 : decode cL_law 1102 = .ok (.iload_n 3, 1) := by decide +kernel
theorem dL_law_1103 : decode cL_law 1103 = .ok (.iconst 3, 1) := by decide +kernel
theorem dL_law_1104 : decode cL_law 1104 = .ok (.iadd, 1) := by decide +kernel
theorem dL_law_1105 : decode cL_law 1105 = .ok (.iaload, 1) := by decide +kernel
theorem dL_law_1106 : decode cL_law 1106 = .ok (.invokevirtual 120, 3) := by decide +kernel
theorem dL_law_1109 : decode cL_law 1109 = .ok (.aload_n 2, 1) := by decide +kernel
theorem dL_law_1110 : decode cL_law 1110 = .ok (.aload_n 0, 1) := by decide +kernel
end
section
theorem dL_law_1111 : decode cL_law 1111 = .ok (.iload_n 3, 1) := by decide +kernel
theorem dL_law_1112 : decode cL_law 1112 = .ok (.iconst 1, 1) := by decide +kernel
theorem dL_law_1113 : decode cL_law 1113 = .ok (.iadd, 1) := by decide +kernel
theorem dL_law_1114 : decode cL_law 1114 = .ok (.iaload, 1) := by decide +kernel
theorem dL_law_1115 : decode cL_law 1115 = .ok (.aload_n 0, 1) := by decide +kernel
theorem dL_law_1116 : decode cL_law 1116 = .ok (.iload_n 3, 1) := by decide +kernel
theorem dL_law_1117 : decode cL_law 1117 = .ok (.iconst 2, 1) := by decide +kernel
theorem dL_law_1118 : decode cL_law 1118 = .ok (.iadd, 1) := by decide +kernel
theorem dL_law_1119 : decode cL_law 1119 = .ok (.iaload, 1) := by decide +kernel
theorem dL_law_1120 : decode cL_law 1120 = .ok (.aload_n 0, 1) := by decide +kernel
theorem dL_law_1121 : decode cL_law 1121 = .ok (.iload_n 3, 1) := by decide +kernel
theorem dL_law_1122 : decode cL_law 1122 = .ok (.iconst 3, 1) := by decide +kernel
theorem dL_law_1123 : decode cL_law 1123 = .ok (.iadd, 1) := by decide +kernel
theorem dL_law_1124 : decode cL_law 1124 = .ok (.iaload, 1) := by decide +kernel
theorem dL_law_1125 : decode cL_law 1125 = .ok (.invokevirtual 123, 3) := by decide +kernel
theorem dL_law_1128 : decode cL_law 1128 = .ok (.if_icmp .eq 199, 3) := by decide +kernel
theorem dL_law_1131 : decode cL_law 1131 = .ok (.iconst 0, 1) := by decide +kernel
theorem dL_law_1132 : decode cL_law 1132 = .ok (.ireturn, 1) := by decide +kernel
theorem dL_law_1133 : decode cL_law 1133 = .ok (.aload_n 1, 1) := by decide +kernel
theorem dL_law_1134 : decode cL_law 1134 = .ok (.aload_n 0, 1) := by decide +kernel
theorem dL_law_1135 : decode cL_law 1135 = .ok (.iload_n 3, 1) := by decide +kernel
theorem dL_law_1136 : decode cL_law 1136 = .ok (.iconst 1, 1) := by decide +kernel
theorem dL_law_1137 : decode cL_law 1137 = .ok (.iadd, 1) := by decide +kernel
theorem dL_law_1138 : decode cL_law 1138 = .ok (.iaload, 1) := by decide +kernel
theorem dL_law_1139 : decode cL_law 1139 = .ok (.invokevirtual 124, 3) := by decide +kernel
theorem dL_law_1142 : decode cL_law 1142 = .ok (.aload_n 2, 1) := by decide +kernel
theorem dL_law_1143 : decode cL_law 1143 = .ok (.aload_n 0, 1) := by decide +kernel
theorem dL_law_1144 : decode cL_law 1144 = .ok (.iload_n 3, 1) := by decide +kernel
theorem dL_law_1145 : decode cL_law 1145 = .ok (.iconst 1, 1) := by decide +kernel
theorem dL_law_1146 : decode cL_law 1146 = .ok (.iadd, 1) := by decide +kernel
theorem dL_law_1147 : decode cL_law 1147 = .ok (.iaload, 1) := by decide +kernel
theorem dL_law_1148 : decode cL_law 1148 = .ok (.invokevirtual 127, 3) := by decide +kernel
theorem dL_law_1151 : decode cL_law 1151 = .ok (.if_icmp .eq 176, 3) := by decide +kernel
theorem dL_law_1154 : decode cL_law 1154 = .ok (.iconst 0, 1) := by decide +kernel
theorem dL_law_1155 : decode cL_law 1155 = .ok (.ireturn, 1) := by decide +kernel
theorem dL_law_1156 : decode cL_law 1156 = .ok (.aload_n 1, 1) := by decide +kernel
theorem dL_law_1157 : decode cL_law 1157 = .ok (.aload_n 0, 1) := by decide +kernel
theorem dL_law_1158 : decode cL_law 1158 = .ok (.iload_n 3, 1) := by decide +kernel
theorem dL_law_1159 : decode cL_law 1159 = .ok (.iconst 1, 1) := by decide +kernel
theorem dL_law_1160 : decode cL_law 1160 = .ok (.iadd, 1) := by decide +kernel
theorem dL_law_1161 : decode cL_law 1161 = .ok (.iaload, 1) := by decide +kernel
theorem dL_law_1162 : decode cL_law 1162 = .ok (.invokevirtual 128, 3) := by decide +kernel
theorem dL_law_1165 : decode cL_law 1165 = .ok (.aload_n 2, 1) := by decide +kernel
theorem dL_law_1166 : decode cL_law 1166 = .ok (.aload_n 0, 1) := by decide +kernel
theorem dL_law_1167 : decode cL_law 1167 = .ok (.iload_n 3, 1) := by decide +kernel
theorem dL_law_1168 : decode cL_law 1168 = .ok (.iconst 1, 1) := by decide +kernel
theorem dL_law_1169 : decode cL_law 1169 = .ok (.iadd, 1) := by decide +kernel
theorem dL_law_1170 : decode cL_law 1170 = .ok (.iaload, 1) := by decide +kernel
theorem dL_law_1171 : decode cL_law 1171 = .ok (.invokevirtual 131, 3) := by decide +kernel
theorem dL_law_1174 : decode cL_law 1174 = .ok (.if_icmp .eq 153, 3) := by decide +kernel
theorem dL_law_1177 : decode cL_law 1177 = .ok (.iconst 0, 1) := by decide +kernel
theorem dL_law_1178 : decode cL_law 1178 = .ok (.ireturn, 1) := by decide +kernel
theorem dL_law_1179 : decode cL_law 1179 = .ok (.aload_n 1, 1) := by decide +kernel
theorem dL_law_1180 : decode cL_law 1180 = .ok (.aload_n 0, 1) := by decide +kernel
theorem dL_law_1181 : decode cL_law 1181 = .ok (.iload_n 3, 1) := by decide +kernel
theorem dL_law_1182 : decode cL_law 1182 = .ok (.iconst 1, 1) := by decide +kernel
theorem dL_law_1183 : decode cL_law 1183 = .ok (.iadd, 1) := by decide +kernel
theorem dL_law_1184 : decode cL_law 1184 = .ok (.iaload, 1) := by decide +kernel
theorem dL_law_1185 : decode cL_law 1185 = .ok (.invokevirtual 132, 3) := by decide +kernel
theorem dL_law_1188 : decode cL_law 1188 = .ok (.aload_n 2, 1) := by decide +kernel
theorem dL_law_1189 : decode cL_law 1189 = .ok (.aload_n 0, 1) := by decide +kernel
theorem dL_law_1190 : decode cL_law 1190 = .ok (.iload_n 3, 1) := by decide +kernel
theorem dL_law_1191 : decode cL_law 1191 = .ok (.iconst 1, 1) := by decide +kernel
theorem dL_law_1192 : decode cL_law 1192 = .ok (.iadd, 1) := by decide +kernel
theorem dL_law_1193 : decode cL_law 1193 = .ok (.iaload, 1) := by decide +kernel
theorem dL_law_1194 : decode cL_law 1194 = .ok (.invokevirtual 135, 3) := by decide +kernel
theorem dL_law_1197 : decode cL_law 1197 = .ok (.if_icmp .eq 130, 3) := by decide +kernel
theorem dL_law_1200 : decode cL_law 1200 = .ok (.iconst 0, 1) := by decide +kernel
theorem dL_law_1201 : decode cL_law 1201 = .ok (.ireturn, 1) := by decide +kernel
theorem dL_law_1202 : decode cL_law 1202 = .ok (.aload_n 1, 1) := by decide +kernel
theorem dL_law_1203 : decode cL_law 1203 = .ok (.aload_n 0, 1) := by decide +kernel
theorem dL_law_1204 : decode cL_law 1204 = .ok (.iload_n 3, 1) := by decide +kernel
theorem dL_law_1205 : decode cL_law 1205 = .ok (.iconst 1, 1) := by decide +kernel
theorem dL_law_1206 : decode cL_law 1206 = .ok (.iadd, 1) := by decide +kernel
theorem dL_law_1207 : decode cL_law 1207 = .ok (.iaload, 1) := by decide +kernel
theorem dL_law_1208 : decode cL_law 1208 = .ok (.aload_n 0, 1) := by decide +kernel
theorem dL_law_1209 : decode cL_law 1209 = .ok (.iload_n 3, 1) := by decide +kernel
theorem dL_law_1210 : decode cL_law 1210 = .ok (.iconst 2, 1) := by decide +kernel
theorem dL_law_1211 : decode cL_law 1211 = .ok (.iadd, 1) := by decide +kernel
theorem dL_law_1212 : decode cL_law 1212 = .ok (.iaload, 1) := by decide +kernel
theorem dL_law_1213 : decode cL_law 1213 = .ok (.invokevirtual 136, 3) := by decide +kernel
theorem dL_law_1216 : decode cL_law 1216 = .ok (.aload_n 2, 1) := by decide +kernel
theorem dL_law_1217 : decode cL_law 1217 = .ok (.aload_n 0, 1) := by decide +kernel
theorem dL_law_1218 : decode cL_law 1218 = .ok (.iload_n 3, 1) := by decide +kernel
theorem dL_law_1219 : decode cL_law 1219 = .ok (.iconst 1, 1) := by decide +kernel
theorem dL_law_1220 : decode cL_law 1220 = .ok (.iadd, 1) := by decide +kernel
theorem dL_law_1221 : decode cL_law 1221 = .ok (.iaload, 1) := by decide +kernel
theorem dL_law_1222 : decode cL_law 1222 = .ok (.aload_n 0, 1) := by decide +kernel
theorem dL_law_1223 : decode cL_law 1223 = .ok (.iload_n 3, 1) := by decide +kernel
theorem dL_law_1224 : decode cL_law 1224 = .ok (.iconst 2, 1) := by decide +kernel
theorem dL_law_1225 : decode cL_law 1225 = .ok (.iadd, 1) := by decide +kernel
theorem dL_law_1226 : decode cL_law 1226 = .ok (.iaload, 1) := by decide +kernel
theorem dL_law_1227 : decode cL_law 1227 = .ok (.invokevirtual 139, 3) := by decide +kernel
theorem dL_law_1230 : decode cL_law 1230 = .ok (.if_icmp .eq 97, 3) := by decide +kernel
theorem dL_law_1233 : decode cL_law 1233 = .ok (.iconst 0, 1) := by decide +kernel
theorem dL_law_1234 : decode cL_law 1234 = .ok (.ireturn, 1) := by decide +kernel
theorem dL_law_1235 : decode cL_law 1235 = .ok (.aload_n 1, 1) := by decide +kernel
theorem dL_law_1236 : decode cL_law 1236 = .ok (.aload_n 0, 1) := by decide +kernel
theorem dL_law_1237 : decode cL_law 1237 = .ok (.iload_n 3, 1) := by decide +kernel
theorem dL_law_1238 : decode cL_law 1238 = .ok (.iconst 1, 1) := by decide +kernel
theorem dL_law_1239 : decode cL_law 1239 = .ok (.iadd, 1) := by decide +kernel
theorem dL_law_1240 : decode cL_law 1240 = .ok (.iaload, 1) := by decide +kernel
theorem dL_law_1241 : decode cL_law 1241 = .ok (.aload_n 0, 1) := by decide +kernel
theorem dL_law_1242 : decode cL_law 1242 = .ok (.iload_n 3, 1) := by decide +kernel
theorem dL_law_1243 : decode cL_law 1243 = .ok (.iconst 2, 1) := by decide +kernel
theorem dL_law_1244 : decode cL_law 1244 = .ok (.iadd, 1) := by decide +kernel
theorem dL_law_1245 : decode cL_law 1245 = .ok (.iaload, 1) := by decide +kernel
theorem dL_law_1246 : decode cL_law 1246 = .ok (.invokevirtual 140, 3) := by decide +kernel
theorem dL_law_1249 : decode cL_law 1249 = .ok (.aload_n 2, 1) := by decide +kernel
theorem dL_law_1250 : decode cL_law 1250 = .ok (.aload_n 0, 1) := by decide +kernel
theorem dL_law_1251 : decode cL_law 1251 = .ok (.iload_n 3, 1) := by decide +kernel
theorem dL_law_1252 : decode cL_law 1252 = .ok (.iconst 1, 1) := by decide +kernel
theorem dL_law_1253 : decode cL_law 1253 = .ok (.iadd, 1) := by decide +kernel
theorem dL_law_1254 : decode cL_law 1254 = .ok (.iaload, 1) := by decide +kernel
theorem dL_law_1255 : decode cL_law 1255 = .ok (.aload_n 0, 1) := by decide +kernel
theorem dL_law_1256 : decode cL_law 1256 = .ok (.iload_n 3, 1) := by decide +kernel
theorem dL_law_1257 : decode cL_law 1257 = .ok (.iconst 2, 1) := by decide +kernel
theorem dL_law_1258 : decode cL_law 1258 = .ok (.iadd, 1) := by decide +kernel
theorem dL_law_1259 : decode cL_law 1259 = .ok (.iaload, 1) := by decide +kernel
theorem dL_law_1260 : decode cL_law 1260 = .ok (.invokevirtual 143, 3) := by decide +kernel
theorem dL_law_1263 : decode cL_law 1263 = .ok (.if_icmp .eq 64, 3) := by decide +kernel
theorem dL_law_1266 : decode cL_law 1266 = .ok (.iconst 0, 1) := by decide +kernel
theorem dL_law_1267 : decode cL_law 1267 = .ok (.ireturn, 1) := by decide +kernel
theorem dL_law_1268 : decode cL_law 1268 = .ok (.aload_n 1, 1) := by decide +kernel
theorem dL_law_1269 : decode cL_law 1269 = .ok (.aload_n 0, 1) := by decide +kernel
theorem dL_law_1270 : decode cL_law 1270 = .ok (.iload_n 3, 1) := by decide +kernel
theorem dL_law_1271 : decode cL_law 1271 = .ok (.iconst 1, 1) := by decide +kernel
theorem dL_law_1272 : decode cL_law 1272 = .ok (.iadd, 1) := by decide +kernel
theorem dL_law_1273 : decode cL_law 1273 = .ok (.iaload, 1) := by decide +kernel
theorem dL_law_1274 : decode cL_law 1274 = .ok (.invokevirtual 144, 3) := by decide +kernel
theorem dL_law_1277 : decode cL_law 1277 = .ok (.aload_n 2, 1) := by decide +kernel
theorem dL_law_1278 : decode cL_law 1278 = .ok (.aload_n 0, 1) := by decide +kernel
theorem dL_law_1279 : decode cL_law 1279 = .ok (.iload_n 3, 1) := by decide +kernel
theorem dL_law_1280 : decode cL_law 1280 = .ok (.iconst 1, 1) := by decide +kernel
theorem dL_law_1281 : decode cL_law 1281 = .ok (.iadd, 1) := by decide +kernel
theorem dL_law_1282 : decode cL_law 1282 = .ok (.iaload, 1) := by decide +kernel
theorem dL_law_1283 : decode cL_law 1283 = .ok (.invokevirtual 147, 3) := by decide +kernel
theorem dL_law_1286 : decode cL_law 1286 = .ok (.if_icmp .eq 41, 3) := by decide +kernel
theorem dL_law_1289 : decode cL_law 1289 = .ok (.iconst 0, 1) := by decide +kernel
theorem dL_law_1290 : decode cL_law 1290 = .ok (.ireturn, 1) := by decide +kernel
theorem dL_law_1291 : decode cL_law 1291 = .ok (.aload_n 1, 1) := by decide +kernel
theorem dL_law_1292 : decode cL_law 1292 = .ok (.aload_n 0, 1) := by decide +kernel
theorem dL_law_1293 : decode cL_law 1293 = .ok (.iload_n 3, 1) := by decide +kernel
theorem dL_law_1294 : decode cL_law 1294 = .ok (.iconst 1, 1) := by decide +kernel
theorem dL_law_1295 : decode cL_law 1295 = .ok (.iadd, 1) := by decide +kernel
theorem dL_law_1296 : decode cL_law 1296 = .ok (.iaload, 1) := by decide +kernel
theorem dL_law_1297 : decode cL_law 1297 = .ok (.invokevirtual 148, 3) := by decide +kernel
theorem dL_law_1300 : decode cL_law 1300 = .ok (.aload_n 2, 1) := by decide +kernel
theorem dL_law_1301 : decode cL_law 1301 = .ok (.aload_n 0, 1) := by decide +kernel
theorem dL_law_1302 : decode cL_law 1302 = .ok (.iload_n 3, 1) := by decide +kernel
theorem dL_law_1303 : decode cL_law 1303 = .ok (.iconst 1, 1) := by decide +kernel
theorem dL_law_1304 : decode cL_law 1304 = .ok (.iadd, 1) := by decide +kernel
theorem dL_law_1305 : decode cL_law 1305 = .ok (.iaload, 1) := by decide +kernel
theorem dL_law_1306 : decode cL_law 1306 = .ok (.invokevirtual 151, 3) := by decide +kernel
theorem dL_law_1309 : decode cL_law 1309 = .ok (.if_icmp .eq 18, 3) := by decide +kernel
theorem dL_law_1312 : decode cL_law 1312 = .ok (.iconst 0, 1) := by decide +kernel
theorem dL_law_1313 : decode cL_law 1313 = .ok (.ireturn, 1) := by decide +kernel
theorem dL_law_1314 : decode cL_law 1314 = .ok (.aload_n 1, 1) := by decide +kernel
theorem dL_law_1315 : decode cL_law 1315 = .ok (.invokevirtual 152, 3) := by decide +kernel
theorem dL_law_1318 : decode cL_law 1318 = .ok (.aload_n 2, 1) := by decide +kernel
theorem dL_law_1319 : decode cL_law 1319 = .ok (.invokevirtual 155, 3) := by decide +kernel
theorem dL_law_1322 : decode cL_law 1322 = .ok (.if_icmp .eq 5, 3) := by decide +kernel
theorem dL_law_1325 : decode cL_law 1325 = .ok (.iconst 0, 1) := by decide +kernel
theorem dL_law_1326 : decode cL_law 1326 = .ok (.ireturn, 1) := by decide +kernel
theorem dL_law_1327 : decode cL_law 1327 = .ok (.iinc 3 6, 3) := by decide +kernel
theorem dL_law_1330 : decode cL_law 1330 = .ok (.goto (-1312), 3) := by decide +kernel
theorem dL_law_1333 : decode cL_law 1333 = .ok (.iconst 1, 1) := by decide +kernel
theorem dL_law_1334 : decode cL_law 1334 = .ok (.ireturn, 1) := by decide +kernel
end
section
-- ===== THE SMALL MACHINE: the machine's walk over one fixed world of numbered cells =====
/-- a cell's shape: its kind (0 .. 9 an object of vwCl; 10 int[], 11 long[], 12 boolean[], 13 Town[], 14 int[][]), its length -/
abbrev zSh : Type := Nat × Nat
/-- a heap: ints, longs, references, by cell and place; the shapes -/
abbrev zH : Type := (Nat → Nat → Int32) × (Nat → Nat → Int64) × (Nat → Nat → Option Nat) × List zSh
/-- where it stands: slots of the classes, the array classes, the first address, the read-only arrays, the script -/
abbrev zEn : Type := va_G × (Nat → ClassId) × Nat × (Nat → Nat) × Nat × (Nat → Int32)
/-- a method: name, bytes, locals, what it returns, its height -/
abbrev zMd : Type := MethodName × ByteArray × Nat × Option FieldType × Nat
def zad (E : zEn) (k : Nat) : Nat := if k < 10000 then E.2.2.1 + k else E.2.2.2.1 (k - 10000)
def ze (E : zEn) : Value → Value
  | .ref k => .ref (zad E k)
  | v => v
/-- which fields of a class are references -/
def zft : Nat → List Bool
  | 0 => [true, false, false]
  | 1 => [true, true, false]
  | 2 => [true]
  | 3 => [true, true, true, true]
  | 4 => [true, false, false, false]
  | 5 => [true, true, true]
  | 6 => [true, true, true, true, true, false, false, false, false]
  | 7 => [false, false, false, false, true, true, true, false, true, true, true]
  | 8 => [true, true, true, true, true, true, true, true, true, false]
  | 9 => [true, true, true, false, true, false, false, false, true, false, true, true, true, false, true, false, false, false, false, false, true, true, true, true, false, true]
  | _ => []
def zty : Nat → Nat → FieldType
  | 0 => tyX0 | 1 => tyX1 | 2 => tyX2 | 3 => tyX3 | 4 => tyX4 | 5 => tyX5 | 6 => tyX6 | 7 => tyX7 | 8 => tyX8 | 9 => tyX9
  | _ => fun _ => .int
def zfv (E : zEn) (i : Nat → Int32) (r : Nat → Option Nat) (j : Nat) (b : Bool) : Value := if b = true then va_rf ((r j).map (zad E)) else .int (i j)
def zfs (E : zEn) (i : Nat → Int32) (r : Nat → Option Nat) (ci : Nat) : List Value := (zft ci).mapIdx (fun j b => zfv E i r j b)
def zrf (E : zEn) (r : Nat → Option Nat) : Nat → Option Nat := fun j => (r j).map (zad E)
def zcell (E : zEn) (i : Nat → Int32) (g : Nat → Int64) (r : Nat → Option Nat) (q : zSh) : va_E :=
  if q.1 < 10 then .inr (q.1, zfs E i r q.1)
  else if q.1 = 10 then .inl (E.2.1 0, q.2, .inl i)
  else if q.1 = 11 then .inl (E.2.1 1, q.2, .inr (.inl g))
  else if q.1 = 12 then .inl (E.2.1 2, q.2, .inl i)
  else if q.1 = 13 then .inl (E.2.1 3, q.2, .inr (.inr (.inr (.inr (zrf E r)))))
  else .inl (E.2.1 4, q.2, .inr (.inr (.inr (.inr (zrf E r)))))
def zws (E : zEn) (h : zH) : va_W := h.2.2.2.mapIdx (fun k q => (zad E k, zcell E (h.1 k) (h.2.1 k) (h.2.2.1 k) q))
def zslot (q : zSh) : Nat := if q.1 < 10 then (zft q.1).length else q.2
def zsl (sh : List zSh) : Nat := (sh.map zslot).sum
def zA (E : zEn) : Nat → Prop := fun q => E.2.2.1 ≤ q
abbrev ztys (E : zEn) : List (ClassId × FieldType) := [(E.2.1 0, .int), (E.2.1 1, .long), (E.2.1 2, .boolean), (E.2.1 3, .object "RumourBrew$Town"), (E.2.1 4, .array .int)]
def zOkW (w : Cond) : Bool := goodWord w || (match w with
  | .fieldLinkNest _ _ _ _ _ _ => true
  | .methodLinkNest _ _ _ _ => true
  | .arrayOver _ => true
  | _ => false)
def zTs : List Cond := lw_tbl.filter zOkW
def zTb (U : State) : Prop := ∀ w ∈ zTs, w.before #[] U = true
def ztab0 : Nat → Int32 := fun j => [10, 11, 12, 11, 13, 14].getD j 0
def ztab1 : Nat → Int32 := fun j => [20, 21, 24, 22, 23, 23].getD j 0
/-- what is only read: the two tables of Asking, the script -/
def zRO (E : zEn) (U : State) (H : Heap) : Prop :=
  va_Z RX1 "SIZE_BODIES" "[I" (.ref (E.2.2.2.1 0)) (zA E) U H ∧ va_T .int (E.2.2.2.1 0) 6 (fun j => .int (ztab0 j)) (zA E) U H ∧
  va_Z RX1 "MARK_BODIES" "[I" (.ref (E.2.2.2.1 1)) (zA E) U H ∧ va_T .int (E.2.2.2.1 1) 6 (fun j => .int (ztab1 j)) (zA E) U H ∧
  va_X (E.2.2.2.1 2) E.2.2.2.2.1 E.2.2.2.2.2 U H ∧ E.2.2.2.1 2 < E.2.2.1
/-- locals: a list by place, .retAddr 0 where nothing is known -/
abbrev zno : Value := .retAddr 0
def zlv (E : zEn) (ls : Array Slot) (nL : Nat) (L : List Value) : Prop := ls.size = nL ∧ lv_wf ls ∧ ∀ (i : Nat) (v : Value), L[i]? = some v → v ≠ zno → ls[i]? = some (.val (ze E v))
def zRm (d mc ms : Nat) : Room := { frames := d, cells := mc, slots := ms, locals := 64 * d }
def zCx (M : zMd) (E : zEn) (n0 : Nat) (p : Program) (s : State) (m : MethodId) (meth : Method) (c : Code) : Prop :=
  p.tables.exec = Jvm.exec ∧ c.code = M.2.1 ∧ c.maxLocals = M.2.2.1 ∧ meth.sig.returnType = M.2.2.2.1 ∧ meth.locks = false ∧ s.vm.findClass M.1.cls = some m.cls ∧ zTb s ∧ va_K E.1 vwCl (ztys E) s ∧ s.heap.size = E.2.2.1 + n0 ∧ zRO E s s.heap ∧ meth.name = M.1.name
def zRi : Option FieldType → Instr
  | none => .return_
  | some .long => .lreturn
  | some .int => .ireturn
  | some .boolean => .ireturn
  | _ => .areturn
def zfit : Option FieldType → Option Value → Prop
  | none, none => True
  | some .int, some (.int _) => True
  | some .boolean, some (.int v) => v = 0 ∨ v = 1
  | some .long, some (.long _) => True
  | some (.object _), some (.ref _) => True
  | _, _ => False
/-- the world at one point of the walk -/
def zAt (M : zMd) (N S : Nat) (E : zEn) (n0 z0 : Nat) (s : State) (H : Heap) (locs : List Loc) (cells slots : Nat) (h : zH) : Prop :=
  va_P E.1 vwCl (zws E h) H ∧ va_S (zA E) s.heap H locs ∧ cells + n0 = h.2.2.2.length ∧ slots + z0 = zsl h.2.2.2 ∧ h.2.2.2.length ≤ N ∧ zsl h.2.2.2 ≤ S ∧ N ≤ 10000
def zW (l : Launch) (M : zMd) (N S pc : Nat) (L st : List Value) (h : zH) (Q : Option Value → zH → Prop) : Prop :=
  ∀ (p : Program) (e : Env) (s : State) (m : MethodId) (args : Array Value) (below : List Frame) (meth : Method) (c : Code) (E : zEn) (n0 z0 : Nat) (H : Heap) (locs : List Loc) (cells slots : Nat) (ls : Array Slot) (R : Room) (Z : State → Prop),
    zCx M E n0 p s m meth c → zAt M N S E n0 z0 s H locs cells slots h → zlv E ls M.2.2.1 L →
    (R.frames = M.2.2.2.2 ∧ R.locals = 64 * M.2.2.2.2 ∧ R.cells + n0 = N ∧ R.slots + z0 = S) →
    (∀ (r : Option Value) (h1 : zH) (H1 : Heap) (locs1 : List Loc) (cells1 slots1 pc1 : Nat) (ls1 : Array Slot), Q r h1 → zfit M.2.2.2.1 r → zAt M N S E n0 z0 s H1 locs1 cells1 slots1 h1 → h1.2.2.2.length = N → zsl h1.2.2.2 = S → decode M.2.1 pc1 = .ok (zRi M.2.2.2.1, 1) →
      W p l e R s m args below meth c H1 locs1 cells1 slots1 Z (F0 m pc1 ls1 (r.toList.map (ze E)))) →
    W p l e R s m args below meth c H locs cells slots Z (F0 m pc ls (st.map (ze E)))
/-- a method's contract -/
def zIn (E : zEn) (h : zH) (U : State) : Prop := U.heap.size = E.2.2.1 + h.2.2.2.length ∧ va_P E.1 vwCl (zws E h) U.heap ∧ va_K E.1 vwCl (ztys E) U ∧ zTb U ∧ zRO E U U.heap
def zQc (E : zEn) (N S : Nat) (Q : Option Value → zH → Prop) : Array Value → State → Outcome → State → Prop := fun _ st o t =>
  (∃ (r : Option Value) (h1 : zH), o = .returned (r.map (ze E)) ∧ Q r h1 ∧ va_P E.1 vwCl (zws E h1) t.heap ∧ h1.2.2.2.length = N ∧ zsl h1.2.2.2 = S) ∧ va_F (zA E) st t
def zMet (l : Launch) (M : zMd) (N S : Nat) (as : List Value) (h : zH) (Q : Option Value → zH → Prop) : Prop :=
  h.2.2.2.length ≤ N → zsl h.2.2.2 ≤ S → N ≤ 10000 → ∀ E : zEn, Met l M.1 [.code M.1 M.2.1 M.2.2.1 M.2.2.2.1] (zRm M.2.2.2.2 (N - h.2.2.2.length) (S - zsl h.2.2.2)) (va_Pc (as.map (ze E)) (zIn E h)) (zQc E N S Q) (N - h.2.2.2.length) (S - zsl h.2.2.2) (zA E)
-- what every proof below uses of the world
theorem zws_get (E : zEn) (h : zH) (k : Nat) : (zws E h)[k]? = (h.2.2.2[k]?).map (fun q => (zad E k, zcell E (h.1 k) (h.2.1 k) (h.2.2.1 k) q)) := by
  unfold zws
  rw [List.getElem?_mapIdx]
theorem zws_at {E : zEn} {h : zH} {k : Nat} {q : zSh} (hs : h.2.2.2[k]? = some q) : (zws E h)[k]? = some (zad E k, zcell E (h.1 k) (h.2.1 k) (h.2.2.1 k) q) := by
  rw [zws_get, hs]; rfl
theorem zws_len (E : zEn) (h : zH) : (zws E h).length = h.2.2.2.length := by unfold zws; rw [List.length_mapIdx]
theorem zad_lo {E : zEn} {k : Nat} (h : k < 10000) : zad E k = E.2.2.1 + k := if_pos h
theorem zD {E : zEn} {h : zH} {N : Nat} (h1 : h.2.2.2.length ≤ N) (h2 : N ≤ 10000) : va_D (zA E) (zws E h) := by
  have key : ∀ (k : Nat) (q : Nat × va_E), (zws E h)[k]? = some q → k < h.2.2.2.length ∧ q.1 = E.2.2.1 + k := by
    intro k q hk
    have hl := (List.getElem?_eq_some_iff.mp hk).1
    rw [zws_len] at hl
    rw [zws_get] at hk
    cases hq : h.2.2.2[k]? with
    | none => rw [hq] at hk; cases hk
    | some x =>
      rw [hq] at hk
      cases hk
      exact ⟨hl, zad_lo (by omega)⟩
  refine ⟨fun i j p q hi hj hpq => ?_, fun k q hk => ?_⟩
  · have a := key i p hi
    have b := key j q hj
    omega
  · have a := key k q hk
    show E.2.2.1 ≤ q.1
    omega
theorem zRO_kept {E : zEn} {s U : State} {H : Heap} {locs : List Loc} {n0 : Nat} (h : zRO E s s.heap) (hz : s.heap.size = E.2.2.1 + n0) (hS : va_S (zA E) s.heap H locs) (hvm : s.vm.Alike U.vm) : zRO E U H := by
  obtain ⟨a1, a2, a3, a4, a5, a6⟩ := h
  have hq : ∀ a : Nat, a < s.heap.size → ¬ zA E a → H[a]? = s.heap[a]? := fun a h1 h2 => hS.2.1 a h1 h2
  exact ⟨(a1.kept hq).moved hvm, (a2.kept hq).moved hvm, (a3.kept hq).moved hvm, (a4.kept hq).moved hvm, (a5.kept (hq _ (by omega) (by unfold zA; omega))).moved hvm, a6⟩
theorem zAO_moved {ty : FieldType} {a a' : Array Value} {u U : State} (hvm : u.vm.Alike U.vm) (h : (Cond.arrayOver ty).before a u = true) : (Cond.arrayOver ty).before a' U = true := by
  have hb : U.vm.bare = u.vm.bare := by first | exact hvm.bare_eq | exact hvm.bare_eq.symm
  have key : ∀ (tn tn' : Option ClassId) (nm : String), tn' = tn → (tn.bind fun comp => (u.vm.classes.findIdx? fun (x : Class) => match x.kind with | .array component _ => component == comp | _ => false).bind fun c => (u.vm.classes[c]?).map fun (k : Class) => match k.kind with | .array _ t => decide (t = ty) && decide (u.vm.findClass nm = some c) | _ => false) = some true → (tn'.bind fun comp => (U.vm.classes.findIdx? fun (x : Class) => match x.kind with | .array component _ => component == comp | _ => false).bind fun c => (U.vm.classes[c]?).map fun (k : Class) => match k.kind with | .array _ t => decide (t = ty) && decide (U.vm.findClass nm = some c) | _ => false) = some true := by
    intro tn tn' nm hn h
    subst hn
    cases tn' with
    | none => cases h
    | some comp =>
      rw [Option.bind_some] at h ⊢
      have e1 := va_idx_bare U.vm comp
      have e2 := va_idx_bare u.vm comp
      rw [hb] at e1
      have e3 := e1.symm.trans e2
      cases hi : (u.vm.classes.findIdx? fun (x : Class) => match x.kind with | .array component _ => component == comp | _ => false) with
      | none => rw [hi] at h; cases h
      | some c =>
        have e4 : (U.vm.classes.findIdx? fun (x : Class) => match x.kind with | .array component _ => component == comp | _ => false) = some c := e3.trans hi
        rw [hi, Option.bind_some] at h
        rw [e4, Option.bind_some]
        cases hk : u.vm.classes[c]? with
        | none => rw [hk] at h; cases h
        | some x =>
          obtain ⟨y, hy, he⟩ := hvm.2.2 _ _ hk
          rw [hk] at h
          rw [hy, he, hvm.findClass]
          exact h
  unfold Cond.before Cond.holds at h ⊢
  rw [beq_iff_eq] at h ⊢
  simp only [Cond.value] at h ⊢
  cases ty with
  | object n => exact key (u.vm.findClass n) (U.vm.findClass n) _ (by rw [hvm.findClass]) h
  | array t => exact key (u.vm.findClass _) (U.vm.findClass _) _ (by rw [hvm.findClass]) h
  | _ => cases h
theorem zTb_moved {s U : State} (h : zTb s) (hW : s.WarmedH U.vm) : zTb U := by
  intro w hw
  have h1 := (List.mem_filter.mp hw).2
  unfold zOkW at h1
  rw [Bool.or_eq_true] at h1
  rcases h1 with h1 | h1
  · exact word_at hW (good_of_word h1) (h w hw)
  · have h2 := h w hw
    cases w <;> first | exact Bool.noConfusion h1 | exact va_Nw.warmF hW h2 | exact va_Nw.warmM hW h2 | exact zAO_moved hW.alike h2
theorem zTb_arg {s : State} (h : zTb s) (args : Array Value) : ∀ w ∈ zTs, w.before args s = true := by
  intro w hw
  have h1 := (List.mem_filter.mp hw).2
  unfold zOkW at h1
  rw [Bool.or_eq_true] at h1
  rcases h1 with h1 | h1
  · exact word_at (State.WarmedH.refl s) (good_of_word h1) (h w hw)
  · have h2 := h w hw
    cases w <;> first | exact Bool.noConfusion h1 | exact va_Nw.use rfl h2 | exact zAO_moved (Vm.Alike.refl s.vm) h2
theorem zTb_vm {s U : State} (h : zTb s) (he : s.vm = U.vm) : zTb U := zTb_moved h (by rw [← he]; exact State.WarmedH.refl s)
end
section
section ZR
variable {l : Launch} {M : zMd} {N S pc : Nat} {L st : List Value} {h : zH} {Q : Option Value → zH → Prop}
theorem z_iconst {n : Int} (v : Int32) (hd : decode M.2.1 pc = .ok (.iconst n, 1)) (hv : Int32.ofInt n = v) (k : zW l M N S (pc + 1) L (.int v :: st) h Q) : zW l M N S pc L st h Q := by
  intro p e s m args below meth c E n0 z0 H locs cells slots ls R Z C A hl hR K
  exact lv_iconst C.1 C.2.1 hd hv (k p e s m args below meth c E n0 z0 H locs cells slots ls R Z C A hl hR K)
theorem z_bipush {n : Int} (v : Int32) (hd : decode M.2.1 pc = .ok (.bipush n, 2)) (hv : (Int8.ofInt n).toInt32 = v) (k : zW l M N S (pc + 2) L (.int v :: st) h Q) : zW l M N S pc L st h Q := by
  intro p e s m args below meth c E n0 z0 H locs cells slots ls R Z C A hl hR K
  exact lv_bipush C.1 C.2.1 hd hv (k p e s m args below meth c E n0 z0 H locs cells slots ls R Z C A hl hR K)
theorem z_sipush {n : Int} (v : Int32) (hd : decode M.2.1 pc = .ok (.sipush n, 3)) (hv : (Int16.ofInt n).toInt32 = v) (k : zW l M N S (pc + 3) L (.int v :: st) h Q) : zW l M N S pc L st h Q := by
  intro p e s m args below meth c E n0 z0 H locs cells slots ls R Z C A hl hR K
  exact lv_sipush C.1 C.2.1 hd hv (k p e s m args below meth c E n0 z0 H locs cells slots ls R Z C A hl hR K)
theorem z_lconst {n : Fin 2} (v : Int64) (hd : decode M.2.1 pc = .ok (.lconst n, 1)) (hv : Int64.ofNat (n : Nat) = v) (k : zW l M N S (pc + 1) L (.long v :: st) h Q) : zW l M N S pc L st h Q := by
  intro p e s m args below meth c E n0 z0 H locs cells slots ls R Z C A hl hR K
  exact lv_lconst C.1 C.2.1 hd hv (k p e s m args below meth c E n0 z0 H locs cells slots ls R Z C A hl hR K)
theorem z_ldc {i : Nat} {v : Int32} (hd : decode M.2.1 pc = .ok (.ldc i, 2)) (hw : Cond.constant M.1.cls i v ∈ zTs) (k : zW l M N S (pc + 2) L (.int v :: st) h Q) : zW l M N S pc L st h Q := by
  intro p e s m args below meth c E n0 z0 H locs cells slots ls R Z C A hl hR K
  exact lv_ldc C.1 C.2.1 C.2.2.2.2.2.1 (zTb_arg C.2.2.2.2.2.2.1 args _ hw) hd (k p e s m args below meth c E n0 z0 H locs cells slots ls R Z C A hl hR K)
theorem z_ldc2 {i : Nat} {v : Int64} (hd : decode M.2.1 pc = .ok (.ldc2_w i, 3)) (hw : Cond.constantLong M.1.cls i v ∈ zTs) (k : zW l M N S (pc + 3) L (.long v :: st) h Q) : zW l M N S pc L st h Q := by
  intro p e s m args below meth c E n0 z0 H locs cells slots ls R Z C A hl hR K
  exact lv_ldc2 C.1 C.2.1 C.2.2.2.2.2.1 (zTb_arg C.2.2.2.2.2.2.1 args _ hw) hd (k p e s m args below meth c E n0 z0 H locs cells slots ls R Z C A hl hR K)
theorem z_ldcw {i : Nat} {v : Int32} (hd : decode M.2.1 pc = .ok (.ldc_w i, 3)) (hw : Cond.constant M.1.cls i v ∈ zTs) (k : zW l M N S (pc + 3) L (.int v :: st) h Q) : zW l M N S pc L st h Q := by
  intro p e s m args below meth c E n0 z0 H locs cells slots ls R Z C A hl hR K
  exact lv_ldcw C.1 C.2.1 C.2.2.2.2.2.1 (zTb_arg C.2.2.2.2.2.2.1 args _ hw) hd (k p e s m args below meth c E n0 z0 H locs cells slots ls R Z C A hl hR K)
theorem z_iadd {x y : Int32} (hd : decode M.2.1 pc = .ok (.iadd, 1)) (k : zW l M N S (pc + 1) L (.int (x + y) :: st) h Q) : zW l M N S pc L (.int y :: .int x :: st) h Q := by
  intro p e s m args below meth c E n0 z0 H locs cells slots ls R Z C A hl hR K
  exact lv_iadd C.1 C.2.1 hd (k p e s m args below meth c E n0 z0 H locs cells slots ls R Z C A hl hR K)
theorem z_isub {x y : Int32} (hd : decode M.2.1 pc = .ok (.isub, 1)) (k : zW l M N S (pc + 1) L (.int (x - y) :: st) h Q) : zW l M N S pc L (.int y :: .int x :: st) h Q := by
  intro p e s m args below meth c E n0 z0 H locs cells slots ls R Z C A hl hR K
  exact lv_isub C.1 C.2.1 hd (k p e s m args below meth c E n0 z0 H locs cells slots ls R Z C A hl hR K)
theorem z_imul {x y : Int32} (hd : decode M.2.1 pc = .ok (.imul, 1)) (k : zW l M N S (pc + 1) L (.int (x * y) :: st) h Q) : zW l M N S pc L (.int y :: .int x :: st) h Q := by
  intro p e s m args below meth c E n0 z0 H locs cells slots ls R Z C A hl hR K
  exact lv_imul C.1 C.2.1 hd (k p e s m args below meth c E n0 z0 H locs cells slots ls R Z C A hl hR K)
theorem z_iand {x y : Int32} (hd : decode M.2.1 pc = .ok (.iand, 1)) (k : zW l M N S (pc + 1) L (.int (x &&& y) :: st) h Q) : zW l M N S pc L (.int y :: .int x :: st) h Q := by
  intro p e s m args below meth c E n0 z0 H locs cells slots ls R Z C A hl hR K
  exact lv_iand C.1 C.2.1 hd (k p e s m args below meth c E n0 z0 H locs cells slots ls R Z C A hl hR K)
theorem z_ior {x y : Int32} (hd : decode M.2.1 pc = .ok (.ior, 1)) (k : zW l M N S (pc + 1) L (.int (x ||| y) :: st) h Q) : zW l M N S pc L (.int y :: .int x :: st) h Q := by
  intro p e s m args below meth c E n0 z0 H locs cells slots ls R Z C A hl hR K
  exact lv_ior C.1 C.2.1 hd (k p e s m args below meth c E n0 z0 H locs cells slots ls R Z C A hl hR K)
theorem z_ixor {x y : Int32} (hd : decode M.2.1 pc = .ok (.ixor, 1)) (k : zW l M N S (pc + 1) L (.int (x ^^^ y) :: st) h Q) : zW l M N S pc L (.int y :: .int x :: st) h Q := by
  intro p e s m args below meth c E n0 z0 H locs cells slots ls R Z C A hl hR K
  exact lv_ixor C.1 C.2.1 hd (k p e s m args below meth c E n0 z0 H locs cells slots ls R Z C A hl hR K)
theorem z_ladd {x y : Int64} (hd : decode M.2.1 pc = .ok (.ladd, 1)) (k : zW l M N S (pc + 1) L (.long (x + y) :: st) h Q) : zW l M N S pc L (.long y :: .long x :: st) h Q := by
  intro p e s m args below meth c E n0 z0 H locs cells slots ls R Z C A hl hR K
  exact lv_ladd C.1 C.2.1 hd (k p e s m args below meth c E n0 z0 H locs cells slots ls R Z C A hl hR K)
theorem z_lmul {x y : Int64} (hd : decode M.2.1 pc = .ok (.lmul, 1)) (k : zW l M N S (pc + 1) L (.long (x * y) :: st) h Q) : zW l M N S pc L (.long y :: .long x :: st) h Q := by
  intro p e s m args below meth c E n0 z0 H locs cells slots ls R Z C A hl hR K
  exact lv_lmul C.1 C.2.1 hd (k p e s m args below meth c E n0 z0 H locs cells slots ls R Z C A hl hR K)
theorem z_idiv {x y : Int32} (hne : ¬ y = 0) (hd : decode M.2.1 pc = .ok (.idiv, 1)) (k : zW l M N S (pc + 1) L (.int (x / y) :: st) h Q) : zW l M N S pc L (.int y :: .int x :: st) h Q := by
  intro p e s m args below meth c E n0 z0 H locs cells slots ls R Z C A hl hR K
  exact lv_idiv C.1 C.2.1 hd hne (k p e s m args below meth c E n0 z0 H locs cells slots ls R Z C A hl hR K)
theorem z_irem {x y : Int32} (hne : ¬ y = 0) (hd : decode M.2.1 pc = .ok (.irem, 1)) (k : zW l M N S (pc + 1) L (.int (x - x / y * y) :: st) h Q) : zW l M N S pc L (.int y :: .int x :: st) h Q := by
  intro p e s m args below meth c E n0 z0 H locs cells slots ls R Z C A hl hR K
  exact lv_irem C.1 C.2.1 hd hne (k p e s m args below meth c E n0 z0 H locs cells slots ls R Z C A hl hR K)
theorem z_ineg {x : Int32} (hd : decode M.2.1 pc = .ok (.ineg, 1)) (k : zW l M N S (pc + 1) L (.int (-x) :: st) h Q) : zW l M N S pc L (.int x :: st) h Q := by
  intro p e s m args below meth c E n0 z0 H locs cells slots ls R Z C A hl hR K
  exact lv_ineg C.1 C.2.1 hd (k p e s m args below meth c E n0 z0 H locs cells slots ls R Z C A hl hR K)
theorem z_ldiv {x y : Int64} (hne : ¬ y = 0) (hd : decode M.2.1 pc = .ok (.ldiv, 1)) (k : zW l M N S (pc + 1) L (.long (x / y) :: st) h Q) : zW l M N S pc L (.long y :: .long x :: st) h Q := by
  intro p e s m args below meth c E n0 z0 H locs cells slots ls R Z C A hl hR K
  exact lv_ldiv C.1 C.2.1 hd hne (k p e s m args below meth c E n0 z0 H locs cells slots ls R Z C A hl hR K)
theorem z_lrem {x y : Int64} (hne : ¬ y = 0) (hd : decode M.2.1 pc = .ok (.lrem, 1)) (k : zW l M N S (pc + 1) L (.long (x - x / y * y) :: st) h Q) : zW l M N S pc L (.long y :: .long x :: st) h Q := by
  intro p e s m args below meth c E n0 z0 H locs cells slots ls R Z C A hl hR K
  exact lv_lrem C.1 C.2.1 hd hne (k p e s m args below meth c E n0 z0 H locs cells slots ls R Z C A hl hR K)
theorem z_ishl {x y : Int32} (hd : decode M.2.1 pc = .ok (.ishl, 1)) (k : zW l M N S (pc + 1) L (.int (x <<< (y &&& 31)) :: st) h Q) : zW l M N S pc L (.int y :: .int x :: st) h Q := by
  intro p e s m args below meth c E n0 z0 H locs cells slots ls R Z C A hl hR K
  exact lv_ishl C.1 C.2.1 hd (k p e s m args below meth c E n0 z0 H locs cells slots ls R Z C A hl hR K)
theorem z_ishr {x y : Int32} (hd : decode M.2.1 pc = .ok (.ishr, 1)) (k : zW l M N S (pc + 1) L (.int (x >>> (y &&& 31)) :: st) h Q) : zW l M N S pc L (.int y :: .int x :: st) h Q := by
  intro p e s m args below meth c E n0 z0 H locs cells slots ls R Z C A hl hR K
  exact lv_ishr C.1 C.2.1 hd (k p e s m args below meth c E n0 z0 H locs cells slots ls R Z C A hl hR K)
theorem z_iushr {x y : Int32} (hd : decode M.2.1 pc = .ok (.iushr, 1)) (k : zW l M N S (pc + 1) L (.int ((x.toUInt32 >>> (y.toUInt32 &&& Int32.toUInt32 31)).toInt32) :: st) h Q) : zW l M N S pc L (.int y :: .int x :: st) h Q := by
  intro p e s m args below meth c E n0 z0 H locs cells slots ls R Z C A hl hR K
  exact lv_iushr C.1 C.2.1 hd rfl (k p e s m args below meth c E n0 z0 H locs cells slots ls R Z C A hl hR K)
theorem z_i2l {x : Int32} (hd : decode M.2.1 pc = .ok (.i2l, 1)) (k : zW l M N S (pc + 1) L (.long x.toInt64 :: st) h Q) : zW l M N S pc L (.int x :: st) h Q := by
  intro p e s m args below meth c E n0 z0 H locs cells slots ls R Z C A hl hR K
  exact lv_i2l C.1 C.2.1 hd rfl (k p e s m args below meth c E n0 z0 H locs cells slots ls R Z C A hl hR K)
theorem z_l2i {x : Int64} (hd : decode M.2.1 pc = .ok (.l2i, 1)) (k : zW l M N S (pc + 1) L (.int x.toInt32 :: st) h Q) : zW l M N S pc L (.long x :: st) h Q := by
  intro p e s m args below meth c E n0 z0 H locs cells slots ls R Z C A hl hR K
  exact lv_l2i C.1 C.2.1 hd rfl (k p e s m args below meth c E n0 z0 H locs cells slots ls R Z C A hl hR K)
theorem z_i2b {x : Int32} (hd : decode M.2.1 pc = .ok (.i2b, 1)) (k : zW l M N S (pc + 1) L (.int x.toInt8.toInt32 :: st) h Q) : zW l M N S pc L (.int x :: st) h Q := by
  intro p e s m args below meth c E n0 z0 H locs cells slots ls R Z C A hl hR K
  exact lv_i2b C.1 C.2.1 hd rfl (k p e s m args below meth c E n0 z0 H locs cells slots ls R Z C A hl hR K)
theorem z_i2s {x : Int32} (hd : decode M.2.1 pc = .ok (.i2s, 1)) (k : zW l M N S (pc + 1) L (.int x.toInt16.toInt32 :: st) h Q) : zW l M N S pc L (.int x :: st) h Q := by
  intro p e s m args below meth c E n0 z0 H locs cells slots ls R Z C A hl hR K
  exact lv_i2s C.1 C.2.1 hd rfl (k p e s m args below meth c E n0 z0 H locs cells slots ls R Z C A hl hR K)
theorem z_lcmp {x y : Int64} (hd : decode M.2.1 pc = .ok (.lcmp, 1)) (k : zW l M N S (pc + 1) L (.int (lg_cmp x y) :: st) h Q) : zW l M N S pc L (.long y :: .long x :: st) h Q := by
  intro p e s m args below meth c E n0 z0 H locs cells slots ls R Z C A hl hR K
  exact W.lcmp C.1 C.2.1 hd (k p e s m args below meth c E n0 z0 H locs cells slots ls R Z C A hl hR K)
theorem zcat (E : zEn) (v : Value) : (ze E v).category = v.category := by cases v <;> rfl
theorem z_dup {v : Value} (hv : v.category = 1) (hd : decode M.2.1 pc = .ok (.dup, 1)) (k : zW l M N S (pc + 1) L (v :: v :: st) h Q) : zW l M N S pc L (v :: st) h Q := by
  intro p e s m args below meth c E n0 z0 H locs cells slots ls R Z C A hl hR K
  exact lv_dup C.1 C.2.1 hd ((zcat E v).trans hv) (k p e s m args below meth c E n0 z0 H locs cells slots ls R Z C A hl hR K)
theorem z_pop {v : Value} (hv : v.category = 1) (hd : decode M.2.1 pc = .ok (.pop, 1)) (k : zW l M N S (pc + 1) L st h Q) : zW l M N S pc L (v :: st) h Q := by
  intro p e s m args below meth c E n0 z0 H locs cells slots ls R Z C A hl hR K
  exact lv_pop C.1 C.2.1 hd ((zcat E v).trans hv) (k p e s m args below meth c E n0 z0 H locs cells slots ls R Z C A hl hR K)
theorem z_dup2 {v w : Value} (hv : v.category = 1) (hw : w.category = 1) (hd : decode M.2.1 pc = .ok (.dup2, 1)) (k : zW l M N S (pc + 1) L (v :: w :: v :: w :: st) h Q) : zW l M N S pc L (v :: w :: st) h Q := by
  intro p e s m args below meth c E n0 z0 H locs cells slots ls R Z C A hl hR K
  exact lv_dup2_11 C.1 C.2.1 hd ((zcat E v).trans hv) ((zcat E w).trans hw) (k p e s m args below meth c E n0 z0 H locs cells slots ls R Z C A hl hR K)
theorem z_dup2L {v : Value} (hv : v.category = 2) (hd : decode M.2.1 pc = .ok (.dup2, 1)) (k : zW l M N S (pc + 1) L (v :: v :: st) h Q) : zW l M N S pc L (v :: st) h Q := by
  intro p e s m args below meth c E n0 z0 H locs cells slots ls R Z C A hl hR K
  exact lv_dup2_2 C.1 C.2.1 hd ((zcat E v).trans hv) (k p e s m args below meth c E n0 z0 H locs cells slots ls R Z C A hl hR K)
theorem z_if_eq {x : Int32} {off : Int} {tgt : Nat} (hd : decode M.2.1 pc = .ok (.ifCond .eq off, 3)) (ht : (pc : Int) + off = (tgt : Int)) (kt : x = 0 → zW l M N S tgt L st h Q) (kf : ¬ x = 0 → zW l M N S (pc + 3) L st h Q) : zW l M N S pc L (.int x :: st) h Q := by
  intro p e s m args below meth c E n0 z0 H locs cells slots ls R Z C A hl hR K
  exact lv_if_eq C.1 C.2.1 hd ht (fun q => kt q p e s m args below meth c E n0 z0 H locs cells slots ls R Z C A hl hR K) (fun q => kf q p e s m args below meth c E n0 z0 H locs cells slots ls R Z C A hl hR K)
theorem z_if_ne {x : Int32} {off : Int} {tgt : Nat} (hd : decode M.2.1 pc = .ok (.ifCond .ne off, 3)) (ht : (pc : Int) + off = (tgt : Int)) (kt : ¬ x = 0 → zW l M N S tgt L st h Q) (kf : x = 0 → zW l M N S (pc + 3) L st h Q) : zW l M N S pc L (.int x :: st) h Q := by
  intro p e s m args below meth c E n0 z0 H locs cells slots ls R Z C A hl hR K
  exact lv_if_ne C.1 C.2.1 hd ht (fun q => kt q p e s m args below meth c E n0 z0 H locs cells slots ls R Z C A hl hR K) (fun q => kf q p e s m args below meth c E n0 z0 H locs cells slots ls R Z C A hl hR K)
theorem z_if_lt {x : Int32} {off : Int} {tgt : Nat} (hd : decode M.2.1 pc = .ok (.ifCond .lt off, 3)) (ht : (pc : Int) + off = (tgt : Int)) (kt : x < 0 → zW l M N S tgt L st h Q) (kf : ¬ x < 0 → zW l M N S (pc + 3) L st h Q) : zW l M N S pc L (.int x :: st) h Q := by
  intro p e s m args below meth c E n0 z0 H locs cells slots ls R Z C A hl hR K
  exact lv_if_lt C.1 C.2.1 hd ht (fun q => kt q p e s m args below meth c E n0 z0 H locs cells slots ls R Z C A hl hR K) (fun q => kf q p e s m args below meth c E n0 z0 H locs cells slots ls R Z C A hl hR K)
theorem z_if_ge {x : Int32} {off : Int} {tgt : Nat} (hd : decode M.2.1 pc = .ok (.ifCond .ge off, 3)) (ht : (pc : Int) + off = (tgt : Int)) (kt : 0 ≤ x → zW l M N S tgt L st h Q) (kf : ¬ 0 ≤ x → zW l M N S (pc + 3) L st h Q) : zW l M N S pc L (.int x :: st) h Q := by
  intro p e s m args below meth c E n0 z0 H locs cells slots ls R Z C A hl hR K
  exact lv_if_ge C.1 C.2.1 hd ht (fun q => kt q p e s m args below meth c E n0 z0 H locs cells slots ls R Z C A hl hR K) (fun q => kf q p e s m args below meth c E n0 z0 H locs cells slots ls R Z C A hl hR K)
theorem z_if_gt {x : Int32} {off : Int} {tgt : Nat} (hd : decode M.2.1 pc = .ok (.ifCond .gt off, 3)) (ht : (pc : Int) + off = (tgt : Int)) (kt : 0 < x → zW l M N S tgt L st h Q) (kf : ¬ 0 < x → zW l M N S (pc + 3) L st h Q) : zW l M N S pc L (.int x :: st) h Q := by
  intro p e s m args below meth c E n0 z0 H locs cells slots ls R Z C A hl hR K
  exact lv_if_gt C.1 C.2.1 hd ht (fun q => kt q p e s m args below meth c E n0 z0 H locs cells slots ls R Z C A hl hR K) (fun q => kf q p e s m args below meth c E n0 z0 H locs cells slots ls R Z C A hl hR K)
theorem z_if_le {x : Int32} {off : Int} {tgt : Nat} (hd : decode M.2.1 pc = .ok (.ifCond .le off, 3)) (ht : (pc : Int) + off = (tgt : Int)) (kt : x ≤ 0 → zW l M N S tgt L st h Q) (kf : ¬ x ≤ 0 → zW l M N S (pc + 3) L st h Q) : zW l M N S pc L (.int x :: st) h Q := by
  intro p e s m args below meth c E n0 z0 H locs cells slots ls R Z C A hl hR K
  exact lv_if_le C.1 C.2.1 hd ht (fun q => kt q p e s m args below meth c E n0 z0 H locs cells slots ls R Z C A hl hR K) (fun q => kf q p e s m args below meth c E n0 z0 H locs cells slots ls R Z C A hl hR K)
theorem z_icmp_eq {x y : Int32} {off : Int} {tgt : Nat} (hd : decode M.2.1 pc = .ok (.if_icmp .eq off, 3)) (ht : (pc : Int) + off = (tgt : Int)) (kt : x = y → zW l M N S tgt L st h Q) (kf : ¬ x = y → zW l M N S (pc + 3) L st h Q) : zW l M N S pc L (.int y :: .int x :: st) h Q := by
  intro p e s m args below meth c E n0 z0 H locs cells slots ls R Z C A hl hR K
  exact lv_icmp_eq C.1 C.2.1 hd ht (fun q => kt q p e s m args below meth c E n0 z0 H locs cells slots ls R Z C A hl hR K) (fun q => kf q p e s m args below meth c E n0 z0 H locs cells slots ls R Z C A hl hR K)
theorem z_icmp_ne {x y : Int32} {off : Int} {tgt : Nat} (hd : decode M.2.1 pc = .ok (.if_icmp .ne off, 3)) (ht : (pc : Int) + off = (tgt : Int)) (kt : ¬ x = y → zW l M N S tgt L st h Q) (kf : x = y → zW l M N S (pc + 3) L st h Q) : zW l M N S pc L (.int y :: .int x :: st) h Q := by
  intro p e s m args below meth c E n0 z0 H locs cells slots ls R Z C A hl hR K
  exact lv_icmp_ne C.1 C.2.1 hd ht (fun q => kt q p e s m args below meth c E n0 z0 H locs cells slots ls R Z C A hl hR K) (fun q => kf q p e s m args below meth c E n0 z0 H locs cells slots ls R Z C A hl hR K)
theorem z_icmp_lt {x y : Int32} {off : Int} {tgt : Nat} (hd : decode M.2.1 pc = .ok (.if_icmp .lt off, 3)) (ht : (pc : Int) + off = (tgt : Int)) (kt : x < y → zW l M N S tgt L st h Q) (kf : ¬ x < y → zW l M N S (pc + 3) L st h Q) : zW l M N S pc L (.int y :: .int x :: st) h Q := by
  intro p e s m args below meth c E n0 z0 H locs cells slots ls R Z C A hl hR K
  exact lv_icmp_lt C.1 C.2.1 hd ht (fun q => kt q p e s m args below meth c E n0 z0 H locs cells slots ls R Z C A hl hR K) (fun q => kf q p e s m args below meth c E n0 z0 H locs cells slots ls R Z C A hl hR K)
theorem z_icmp_ge {x y : Int32} {off : Int} {tgt : Nat} (hd : decode M.2.1 pc = .ok (.if_icmp .ge off, 3)) (ht : (pc : Int) + off = (tgt : Int)) (kt : y ≤ x → zW l M N S tgt L st h Q) (kf : ¬ y ≤ x → zW l M N S (pc + 3) L st h Q) : zW l M N S pc L (.int y :: .int x :: st) h Q := by
  intro p e s m args below meth c E n0 z0 H locs cells slots ls R Z C A hl hR K
  exact lv_icmp_ge C.1 C.2.1 hd ht (fun q => kt q p e s m args below meth c E n0 z0 H locs cells slots ls R Z C A hl hR K) (fun q => kf q p e s m args below meth c E n0 z0 H locs cells slots ls R Z C A hl hR K)
theorem z_icmp_gt {x y : Int32} {off : Int} {tgt : Nat} (hd : decode M.2.1 pc = .ok (.if_icmp .gt off, 3)) (ht : (pc : Int) + off = (tgt : Int)) (kt : y < x → zW l M N S tgt L st h Q) (kf : ¬ y < x → zW l M N S (pc + 3) L st h Q) : zW l M N S pc L (.int y :: .int x :: st) h Q := by
  intro p e s m args below meth c E n0 z0 H locs cells slots ls R Z C A hl hR K
  exact lv_icmp_gt C.1 C.2.1 hd ht (fun q => kt q p e s m args below meth c E n0 z0 H locs cells slots ls R Z C A hl hR K) (fun q => kf q p e s m args below meth c E n0 z0 H locs cells slots ls R Z C A hl hR K)
theorem z_icmp_le {x y : Int32} {off : Int} {tgt : Nat} (hd : decode M.2.1 pc = .ok (.if_icmp .le off, 3)) (ht : (pc : Int) + off = (tgt : Int)) (kt : x ≤ y → zW l M N S tgt L st h Q) (kf : ¬ x ≤ y → zW l M N S (pc + 3) L st h Q) : zW l M N S pc L (.int y :: .int x :: st) h Q := by
  intro p e s m args below meth c E n0 z0 H locs cells slots ls R Z C A hl hR K
  exact lv_icmp_le C.1 C.2.1 hd ht (fun q => kt q p e s m args below meth c E n0 z0 H locs cells slots ls R Z C A hl hR K) (fun q => kf q p e s m args below meth c E n0 z0 H locs cells slots ls R Z C A hl hR K)
theorem z_goto {off : Int} {tgt : Nat} (hd : decode M.2.1 pc = .ok (.goto off, 3)) (ht : (pc : Int) + off = (tgt : Int)) (k : zW l M N S tgt L st h Q) : zW l M N S pc L st h Q := by
  intro p e s m args below meth c E n0 z0 H locs cells slots ls R Z C A hl hR K
  exact lv_goto C.1 C.2.1 hd ht (k p e s m args below meth c E n0 z0 H locs cells slots ls R Z C A hl hR K)
theorem z_lookup {dflt : Int} {ps : Array (Int × Int)} {len : Nat} {x : Int32} {off : Int} {tgt : Nat} (hd : decode M.2.1 pc = .ok (.lookupswitch dflt ps, len)) (hp : (ps.toList.zip (ps.toList.drop 1)).all (fun (a, next) => a.1 < next.1) = true) (ho : Op.lookupswitch.offset ps.toList dflt x.toInt = off) (ht : (pc : Int) + off = (tgt : Int)) (k : zW l M N S tgt L st h Q) : zW l M N S pc L (.int x :: st) h Q := by
  intro p e s m args below meth c E n0 z0 H locs cells slots ls R Z C A hl hR K
  exact lv_lookup C.1 C.2.1 hd hp ho ht (k p e s m args below meth c E n0 z0 H locs cells slots ls R Z C A hl hR K)
theorem z_tableOut {dflt lo hi : Int} {offs : Array Int} {len : Nat} {x : Int32} {tgt : Nat} (hd : decode M.2.1 pc = .ok (.tableswitch dflt lo hi offs, len)) (hx : x.toInt < lo ∨ hi < x.toInt) (ht : (pc : Int) + dflt = (tgt : Int)) (k : zW l M N S tgt L st h Q) : zW l M N S pc L (.int x :: st) h Q := by
  intro p e s m args below meth c E n0 z0 H locs cells slots ls R Z C A hl hR K
  exact lv_tableOut C.1 C.2.1 hd hx ht (k p e s m args below meth c E n0 z0 H locs cells slots ls R Z C A hl hR K)
theorem z_tableIn {dflt lo hi : Int} {offs : Array Int} {len : Nat} {x : Int32} {off : Int} {tgt : Nat} (hd : decode M.2.1 pc = .ok (.tableswitch dflt lo hi offs, len)) (h1 : ¬ x.toInt < lo) (h2 : ¬ hi < x.toInt) (ho : offs[(x.toInt - lo).toNat]? = some off) (ht : (pc : Int) + off = (tgt : Int)) (k : zW l M N S tgt L st h Q) : zW l M N S pc L (.int x :: st) h Q := by
  intro p e s m args below meth c E n0 z0 H locs cells slots ls R Z C A hl hR K
  exact lv_tableIn C.1 C.2.1 hd h1 h2 ho ht (k p e s m args below meth c E n0 z0 H locs cells slots ls R Z C A hl hR K)
/-- the listed locals as the kit lists them -/
def zll (E : zEn) (L : List Value) : List (Nat × Value) := (List.range L.length).filterMap (fun i => match L[i]? with | some v => if v = zno then none else some (i, ze E v) | none => none)
theorem zll_mem {E : zEn} {L : List Value} {i : Nat} {w : Value} : (i, w) ∈ zll E L ↔ ∃ v, L[i]? = some v ∧ v ≠ zno ∧ w = ze E v := by
  unfold zll
  rw [List.mem_filterMap]
  constructor
  · rintro ⟨j, hj, h⟩
    cases hv : L[j]? with
    | none => rw [hv] at h; cases h
    | some v =>
      rw [hv] at h
      dsimp only at h
      by_cases hz : v = zno
      · rw [if_pos hz] at h; cases h
      · rw [if_neg hz] at h
        cases h
        exact ⟨v, hv, hz, rfl⟩
  · rintro ⟨v, hv, hz, rfl⟩
    refine ⟨i, List.mem_range.mpr (List.getElem?_eq_some_iff.mp hv).1, ?_⟩
    rw [hv]
    simp [hz]
theorem zlv_has {E : zEn} {ls : Array Slot} {nL : Nat} {L : List Value} (h : zlv E ls nL L) : lv_has ls nL (zll E L) := by
  refine ⟨h.1, h.2.1, fun q hq => ?_⟩
  obtain ⟨i, w⟩ := q
  obtain ⟨v, h1, h2, rfl⟩ := zll_mem.mp hq
  exact h.2.2 i v h1 h2
theorem zlv_store1 {E : zEn} {ls' : Array Slot} {nL i : Nat} {L L' : List Value} {v : Value} (h : lv_has ls' nL ((i, ze E v) :: (zll E L).filter (fun q => !(q.1 == i) && !(q.1 + 1 == i && q.2.category == 2))))
    (hL : ∀ (j : Nat) (w : Value), L'[j]? = some w → w ≠ zno → (j = i ∧ w = v) ∨ (L[j]? = some w ∧ j ≠ i ∧ (j + 1 = i → w.category = 1))) : zlv E ls' nL L' := by
  refine ⟨h.1, h.2.1, fun j w hj hw => ?_⟩
  rcases hL j w hj hw with ⟨rfl, rfl⟩ | ⟨h1, h2, h3⟩
  · exact h.2.2 _ List.mem_cons_self
  · refine h.2.2 (j, ze E w) (List.mem_cons_of_mem _ (List.mem_filter.mpr ⟨zll_mem.mpr ⟨w, h1, hw, rfl⟩, ?_⟩))
    simp only [Bool.and_eq_true, Bool.not_eq_true', beq_eq_false_iff_ne, ne_eq, Bool.and_eq_false_iff, zcat]
    refine ⟨h2, ?_⟩
    by_cases hji : j + 1 = i
    · right; rw [h3 hji]; decide
    · left; exact hji
theorem zlv_store2 {E : zEn} {ls' : Array Slot} {nL i : Nat} {L L' : List Value} {v : Value} (h : lv_has ls' nL ((i, ze E v) :: (zll E L).filter (fun q => !(q.1 == i) && (!(q.1 == i + 1) && !(q.1 + 1 == i && q.2.category == 2)))))
    (hL : ∀ (j : Nat) (w : Value), L'[j]? = some w → w ≠ zno → (j = i ∧ w = v) ∨ (L[j]? = some w ∧ j ≠ i ∧ j ≠ i + 1 ∧ (j + 1 = i → w.category = 1))) : zlv E ls' nL L' := by
  refine ⟨h.1, h.2.1, fun j w hj hw => ?_⟩
  rcases hL j w hj hw with ⟨rfl, rfl⟩ | ⟨h1, h2, h2', h3⟩
  · exact h.2.2 _ List.mem_cons_self
  · refine h.2.2 (j, ze E w) (List.mem_cons_of_mem _ (List.mem_filter.mpr ⟨zll_mem.mpr ⟨w, h1, hw, rfl⟩, ?_⟩))
    simp only [Bool.and_eq_true, Bool.not_eq_true', beq_eq_false_iff_ne, ne_eq, Bool.and_eq_false_iff, zcat]
    refine ⟨h2, h2', ?_⟩
    by_cases hji : j + 1 = i
    · right; rw [h3 hji]; decide
    · left; exact hji
theorem z_iload_0 {t : List Value} {x : Int32} (hd : decode M.2.1 pc = .ok (.iload_n 0, 1)) (k : zW l M N S (pc + 1) (.int x :: t) (.int x :: st) h Q) : zW l M N S pc (.int x :: t) st h Q := by
  intro p e s m args below meth c E n0 z0 H locs cells slots ls R Z C A hl hR K
  exact lv_iload_n C.1 C.2.1 hd rfl (hl.2.2 0 (.int x) rfl (fun q => Value.noConfusion q)) (k p e s m args below meth c E n0 z0 H locs cells slots ls R Z C A hl hR K)
theorem z_lload_0 {t : List Value} {x : Int64} (hd : decode M.2.1 pc = .ok (.lload_n 0, 1)) (k : zW l M N S (pc + 1) (.long x :: t) (.long x :: st) h Q) : zW l M N S pc (.long x :: t) st h Q := by
  intro p e s m args below meth c E n0 z0 H locs cells slots ls R Z C A hl hR K
  exact lv_lload_n C.1 C.2.1 hd rfl (hl.2.2 0 (.long x) rfl (fun q => Value.noConfusion q)) (k p e s m args below meth c E n0 z0 H locs cells slots ls R Z C A hl hR K)
theorem z_aload_0 {t : List Value} {x : Nat} (hd : decode M.2.1 pc = .ok (.aload_n 0, 1)) (k : zW l M N S (pc + 1) (.ref x :: t) (.ref x :: st) h Q) : zW l M N S pc (.ref x :: t) st h Q := by
  intro p e s m args below meth c E n0 z0 H locs cells slots ls R Z C A hl hR K
  exact lv_aload_n C.1 C.2.1 hd rfl (hl.2.2 0 (.ref x) rfl (fun q => Value.noConfusion q)) (k p e s m args below meth c E n0 z0 H locs cells slots ls R Z C A hl hR K)
theorem z_istore_0 {y : Value} {t : List Value} {x : Int32} (hd : decode M.2.1 pc = .ok (.istore_n 0, 1)) (hn : 0 < M.2.2.1) (k : zW l M N S (pc + 1) (.int x :: t) st h Q) : zW l M N S pc (y :: t) (.int x :: st) h Q := by
  intro p e s m args below meth c E n0 z0 H locs cells slots ls R Z C A hl hR K
  refine lv_istore_n C.1 C.2.1 hd rfl (zlv_has hl) hn rfl (fun ls2 hl2 => ?_)
  refine k p e s m args below meth c E n0 z0 H locs cells slots ls2 R Z C A (zlv_store1 (v := .int x) hl2 ?_) hR K
  intro j w hj hw
  cases j with
  | zero => exact Or.inl ⟨rfl, (Option.some.inj hj).symm⟩
  | succ j =>
    exact Or.inr ⟨hj, by omega, fun q => by omega⟩
theorem z_astore_0 {y : Value} {t : List Value} {x : Nat} (hd : decode M.2.1 pc = .ok (.astore_n 0, 1)) (hn : 0 < M.2.2.1) (k : zW l M N S (pc + 1) (.ref x :: t) st h Q) : zW l M N S pc (y :: t) (.ref x :: st) h Q := by
  intro p e s m args below meth c E n0 z0 H locs cells slots ls R Z C A hl hR K
  refine lv_astore_n C.1 C.2.1 hd rfl (zlv_has hl) hn rfl (fun ls2 hl2 => ?_)
  refine k p e s m args below meth c E n0 z0 H locs cells slots ls2 R Z C A (zlv_store1 (v := .ref x) hl2 ?_) hR K
  intro j w hj hw
  cases j with
  | zero => exact Or.inl ⟨rfl, (Option.some.inj hj).symm⟩
  | succ j =>
    exact Or.inr ⟨hj, by omega, fun q => by omega⟩
theorem z_lstore_0 {y y2 : Value} {t : List Value} {x : Int64} (hd : decode M.2.1 pc = .ok (.lstore_n 0, 1)) (hn : 1 < M.2.2.1) (k : zW l M N S (pc + 1) (.long x :: zno :: t) st h Q) : zW l M N S pc (y :: y2 :: t) (.long x :: st) h Q := by
  intro p e s m args below meth c E n0 z0 H locs cells slots ls R Z C A hl hR K
  refine lv_lstore_n C.1 C.2.1 hd rfl (zlv_has hl) hn rfl (fun ls2 hl2 => ?_)
  refine k p e s m args below meth c E n0 z0 H locs cells slots ls2 R Z C A (zlv_store2 (v := .long x) hl2 ?_) hR K
  intro j w hj hw
  cases j with
  | zero => exact Or.inl ⟨rfl, (Option.some.inj hj).symm⟩
  | succ j =>
    cases j with
    | zero => exact absurd (Option.some.inj hj).symm hw
    | succ j => exact Or.inr ⟨hj, by omega, by omega, fun q => by omega⟩
theorem z_iinc_0 {t : List Value} {x : Int32} {n : Int} (v : Int32) (hd : decode M.2.1 pc = .ok (.iinc 0 n, 3)) (hv : Int32.ofInt n = v) (hn : 0 < M.2.2.1) (k : zW l M N S (pc + 3) (.int (x + v) :: t) st h Q) : zW l M N S pc (.int x :: t) st h Q := by
  subst hv
  intro p e s m args below meth c E n0 z0 H locs cells slots ls R Z C A hl hR K
  obtain ⟨k0, hk0⟩ := List.getElem?_of_mem (zll_mem.mpr ⟨.int x, (rfl : (.int x :: t)[0]? = _), (fun q => Value.noConfusion q), rfl⟩ : (0, ze E (.int x)) ∈ zll E (.int x :: t))
  refine lv_iinc C.1 C.2.1 hd (zlv_has hl) hk0 rfl hn rfl (fun ls2 hl2 => ?_)
  refine k p e s m args below meth c E n0 z0 H locs cells slots ls2 R Z C A (zlv_store1 (v := .int (x + Int32.ofInt n)) hl2 ?_) hR K
  intro j w hj hw
  cases j with
  | zero => exact Or.inl ⟨rfl, (Option.some.inj hj).symm⟩
  | succ j => exact Or.inr ⟨hj, by omega, fun q => by omega⟩
theorem z_iload_1 {x0 : Value} {t : List Value} {x : Int32} (hd : decode M.2.1 pc = .ok (.iload_n 1, 1)) (k : zW l M N S (pc + 1) (x0 :: .int x :: t) (.int x :: st) h Q) : zW l M N S pc (x0 :: .int x :: t) st h Q := by
  intro p e s m args below meth c E n0 z0 H locs cells slots ls R Z C A hl hR K
  exact lv_iload_n C.1 C.2.1 hd rfl (hl.2.2 1 (.int x) rfl (fun q => Value.noConfusion q)) (k p e s m args below meth c E n0 z0 H locs cells slots ls R Z C A hl hR K)
theorem z_lload_1 {x0 : Value} {t : List Value} {x : Int64} (hd : decode M.2.1 pc = .ok (.lload_n 1, 1)) (k : zW l M N S (pc + 1) (x0 :: .long x :: t) (.long x :: st) h Q) : zW l M N S pc (x0 :: .long x :: t) st h Q := by
  intro p e s m args below meth c E n0 z0 H locs cells slots ls R Z C A hl hR K
  exact lv_lload_n C.1 C.2.1 hd rfl (hl.2.2 1 (.long x) rfl (fun q => Value.noConfusion q)) (k p e s m args below meth c E n0 z0 H locs cells slots ls R Z C A hl hR K)
theorem z_aload_1 {x0 : Value} {t : List Value} {x : Nat} (hd : decode M.2.1 pc = .ok (.aload_n 1, 1)) (k : zW l M N S (pc + 1) (x0 :: .ref x :: t) (.ref x :: st) h Q) : zW l M N S pc (x0 :: .ref x :: t) st h Q := by
  intro p e s m args below meth c E n0 z0 H locs cells slots ls R Z C A hl hR K
  exact lv_aload_n C.1 C.2.1 hd rfl (hl.2.2 1 (.ref x) rfl (fun q => Value.noConfusion q)) (k p e s m args below meth c E n0 z0 H locs cells slots ls R Z C A hl hR K)
theorem z_istore_1 {x0 : Value} {y : Value} {t : List Value} {x : Int32} (hd : decode M.2.1 pc = .ok (.istore_n 1, 1)) (hn : 1 < M.2.2.1) (hc : x0.category = 1) (k : zW l M N S (pc + 1) (x0 :: .int x :: t) st h Q) : zW l M N S pc (x0 :: y :: t) (.int x :: st) h Q := by
  intro p e s m args below meth c E n0 z0 H locs cells slots ls R Z C A hl hR K
  refine lv_istore_n C.1 C.2.1 hd rfl (zlv_has hl) hn rfl (fun ls2 hl2 => ?_)
  refine k p e s m args below meth c E n0 z0 H locs cells slots ls2 R Z C A (zlv_store1 (v := .int x) hl2 ?_) hR K
  intro j w hj hw
  cases j with
  | zero => exact Or.inr ⟨hj, by omega, fun _ => (Option.some.inj hj) ▸ hc⟩
  | succ j =>
    cases j with
    | zero => exact Or.inl ⟨rfl, (Option.some.inj hj).symm⟩
    | succ j =>
      exact Or.inr ⟨hj, by omega, fun q => by omega⟩
theorem z_istoreK_1 {x0 : Value} {y : Value} {t : List Value} {x : Int32} (hd : decode M.2.1 pc = .ok (.istore_n 1, 1)) (hn : 1 < M.2.2.1) (k : zW l M N S (pc + 1) (zno :: .int x :: t) st h Q) : zW l M N S pc (x0 :: y :: t) (.int x :: st) h Q := by
  intro p e s m args below meth c E n0 z0 H locs cells slots ls R Z C A hl hR K
  refine lv_istore_n C.1 C.2.1 hd rfl (zlv_has hl) hn rfl (fun ls2 hl2 => ?_)
  refine k p e s m args below meth c E n0 z0 H locs cells slots ls2 R Z C A (zlv_store1 (v := .int x) hl2 ?_) hR K
  intro j w hj hw
  cases j with
  | zero => exact absurd (Option.some.inj hj).symm hw
  | succ j =>
    cases j with
    | zero => exact Or.inl ⟨rfl, (Option.some.inj hj).symm⟩
    | succ j =>
      exact Or.inr ⟨hj, by omega, fun q => by omega⟩
theorem z_astore_1 {x0 : Value} {y : Value} {t : List Value} {x : Nat} (hd : decode M.2.1 pc = .ok (.astore_n 1, 1)) (hn : 1 < M.2.2.1) (hc : x0.category = 1) (k : zW l M N S (pc + 1) (x0 :: .ref x :: t) st h Q) : zW l M N S pc (x0 :: y :: t) (.ref x :: st) h Q := by
  intro p e s m args below meth c E n0 z0 H locs cells slots ls R Z C A hl hR K
  refine lv_astore_n C.1 C.2.1 hd rfl (zlv_has hl) hn rfl (fun ls2 hl2 => ?_)
  refine k p e s m args below meth c E n0 z0 H locs cells slots ls2 R Z C A (zlv_store1 (v := .ref x) hl2 ?_) hR K
  intro j w hj hw
  cases j with
  | zero => exact Or.inr ⟨hj, by omega, fun _ => (Option.some.inj hj) ▸ hc⟩
  | succ j =>
    cases j with
    | zero => exact Or.inl ⟨rfl, (Option.some.inj hj).symm⟩
    | succ j =>
      exact Or.inr ⟨hj, by omega, fun q => by omega⟩
theorem z_astoreK_1 {x0 : Value} {y : Value} {t : List Value} {x : Nat} (hd : decode M.2.1 pc = .ok (.astore_n 1, 1)) (hn : 1 < M.2.2.1) (k : zW l M N S (pc + 1) (zno :: .ref x :: t) st h Q) : zW l M N S pc (x0 :: y :: t) (.ref x :: st) h Q := by
  intro p e s m args below meth c E n0 z0 H locs cells slots ls R Z C A hl hR K
  refine lv_astore_n C.1 C.2.1 hd rfl (zlv_has hl) hn rfl (fun ls2 hl2 => ?_)
  refine k p e s m args below meth c E n0 z0 H locs cells slots ls2 R Z C A (zlv_store1 (v := .ref x) hl2 ?_) hR K
  intro j w hj hw
  cases j with
  | zero => exact absurd (Option.some.inj hj).symm hw
  | succ j =>
    cases j with
    | zero => exact Or.inl ⟨rfl, (Option.some.inj hj).symm⟩
    | succ j =>
      exact Or.inr ⟨hj, by omega, fun q => by omega⟩
theorem z_lstore_1 {x0 : Value} {y y2 : Value} {t : List Value} {x : Int64} (hd : decode M.2.1 pc = .ok (.lstore_n 1, 1)) (hn : 2 < M.2.2.1) (hc : x0.category = 1) (k : zW l M N S (pc + 1) (x0 :: .long x :: zno :: t) st h Q) : zW l M N S pc (x0 :: y :: y2 :: t) (.long x :: st) h Q := by
  intro p e s m args below meth c E n0 z0 H locs cells slots ls R Z C A hl hR K
  refine lv_lstore_n C.1 C.2.1 hd rfl (zlv_has hl) hn rfl (fun ls2 hl2 => ?_)
  refine k p e s m args below meth c E n0 z0 H locs cells slots ls2 R Z C A (zlv_store2 (v := .long x) hl2 ?_) hR K
  intro j w hj hw
  cases j with
  | zero => exact Or.inr ⟨hj, by omega, by omega, fun _ => (Option.some.inj hj) ▸ hc⟩
  | succ j =>
    cases j with
    | zero => exact Or.inl ⟨rfl, (Option.some.inj hj).symm⟩
    | succ j =>
      cases j with
      | zero => exact absurd (Option.some.inj hj).symm hw
      | succ j => exact Or.inr ⟨hj, by omega, by omega, fun q => by omega⟩
theorem z_lstoreK_1 {x0 : Value} {y y2 : Value} {t : List Value} {x : Int64} (hd : decode M.2.1 pc = .ok (.lstore_n 1, 1)) (hn : 2 < M.2.2.1) (k : zW l M N S (pc + 1) (zno :: .long x :: zno :: t) st h Q) : zW l M N S pc (x0 :: y :: y2 :: t) (.long x :: st) h Q := by
  intro p e s m args below meth c E n0 z0 H locs cells slots ls R Z C A hl hR K
  refine lv_lstore_n C.1 C.2.1 hd rfl (zlv_has hl) hn rfl (fun ls2 hl2 => ?_)
  refine k p e s m args below meth c E n0 z0 H locs cells slots ls2 R Z C A (zlv_store2 (v := .long x) hl2 ?_) hR K
  intro j w hj hw
  cases j with
  | zero => exact absurd (Option.some.inj hj).symm hw
  | succ j =>
    cases j with
    | zero => exact Or.inl ⟨rfl, (Option.some.inj hj).symm⟩
    | succ j =>
      cases j with
      | zero => exact absurd (Option.some.inj hj).symm hw
      | succ j => exact Or.inr ⟨hj, by omega, by omega, fun q => by omega⟩
theorem z_iinc_1 {x0 : Value} {t : List Value} {x : Int32} {n : Int} (v : Int32) (hd : decode M.2.1 pc = .ok (.iinc 1 n, 3)) (hv : Int32.ofInt n = v) (hn : 1 < M.2.2.1) (hc : x0.category = 1) (k : zW l M N S (pc + 3) (x0 :: .int (x + v) :: t) st h Q) : zW l M N S pc (x0 :: .int x :: t) st h Q := by
  subst hv
  intro p e s m args below meth c E n0 z0 H locs cells slots ls R Z C A hl hR K
  obtain ⟨k0, hk0⟩ := List.getElem?_of_mem (zll_mem.mpr ⟨.int x, (rfl : (x0 :: .int x :: t)[1]? = _), (fun q => Value.noConfusion q), rfl⟩ : (1, ze E (.int x)) ∈ zll E (x0 :: .int x :: t))
  refine lv_iinc C.1 C.2.1 hd (zlv_has hl) hk0 rfl hn rfl (fun ls2 hl2 => ?_)
  refine k p e s m args below meth c E n0 z0 H locs cells slots ls2 R Z C A (zlv_store1 (v := .int (x + Int32.ofInt n)) hl2 ?_) hR K
  intro j w hj hw
  cases j with
  | zero => exact Or.inr ⟨hj, by omega, fun _ => (Option.some.inj hj) ▸ hc⟩
  | succ j =>
    cases j with
    | zero => exact Or.inl ⟨rfl, (Option.some.inj hj).symm⟩
    | succ j => exact Or.inr ⟨hj, by omega, fun q => by omega⟩
theorem z_iload_2 {x0 x1 : Value} {t : List Value} {x : Int32} (hd : decode M.2.1 pc = .ok (.iload_n 2, 1)) (k : zW l M N S (pc + 1) (x0 :: x1 :: .int x :: t) (.int x :: st) h Q) : zW l M N S pc (x0 :: x1 :: .int x :: t) st h Q := by
  intro p e s m args below meth c E n0 z0 H locs cells slots ls R Z C A hl hR K
  exact lv_iload_n C.1 C.2.1 hd rfl (hl.2.2 2 (.int x) rfl (fun q => Value.noConfusion q)) (k p e s m args below meth c E n0 z0 H locs cells slots ls R Z C A hl hR K)
theorem z_lload_2 {x0 x1 : Value} {t : List Value} {x : Int64} (hd : decode M.2.1 pc = .ok (.lload_n 2, 1)) (k : zW l M N S (pc + 1) (x0 :: x1 :: .long x :: t) (.long x :: st) h Q) : zW l M N S pc (x0 :: x1 :: .long x :: t) st h Q := by
  intro p e s m args below meth c E n0 z0 H locs cells slots ls R Z C A hl hR K
  exact lv_lload_n C.1 C.2.1 hd rfl (hl.2.2 2 (.long x) rfl (fun q => Value.noConfusion q)) (k p e s m args below meth c E n0 z0 H locs cells slots ls R Z C A hl hR K)
theorem z_aload_2 {x0 x1 : Value} {t : List Value} {x : Nat} (hd : decode M.2.1 pc = .ok (.aload_n 2, 1)) (k : zW l M N S (pc + 1) (x0 :: x1 :: .ref x :: t) (.ref x :: st) h Q) : zW l M N S pc (x0 :: x1 :: .ref x :: t) st h Q := by
  intro p e s m args below meth c E n0 z0 H locs cells slots ls R Z C A hl hR K
  exact lv_aload_n C.1 C.2.1 hd rfl (hl.2.2 2 (.ref x) rfl (fun q => Value.noConfusion q)) (k p e s m args below meth c E n0 z0 H locs cells slots ls R Z C A hl hR K)
theorem z_istore_2 {x0 x1 : Value} {y : Value} {t : List Value} {x : Int32} (hd : decode M.2.1 pc = .ok (.istore_n 2, 1)) (hn : 2 < M.2.2.1) (hc : x1.category = 1) (k : zW l M N S (pc + 1) (x0 :: x1 :: .int x :: t) st h Q) : zW l M N S pc (x0 :: x1 :: y :: t) (.int x :: st) h Q := by
  intro p e s m args below meth c E n0 z0 H locs cells slots ls R Z C A hl hR K
  refine lv_istore_n C.1 C.2.1 hd rfl (zlv_has hl) hn rfl (fun ls2 hl2 => ?_)
  refine k p e s m args below meth c E n0 z0 H locs cells slots ls2 R Z C A (zlv_store1 (v := .int x) hl2 ?_) hR K
  intro j w hj hw
  cases j with
  | zero => exact Or.inr ⟨hj, by omega, fun q => by omega⟩
  | succ j =>
    cases j with
    | zero => exact Or.inr ⟨hj, by omega, fun _ => (Option.some.inj hj) ▸ hc⟩
    | succ j =>
      cases j with
      | zero => exact Or.inl ⟨rfl, (Option.some.inj hj).symm⟩
      | succ j =>
        exact Or.inr ⟨hj, by omega, fun q => by omega⟩
theorem z_istoreK_2 {x0 x1 : Value} {y : Value} {t : List Value} {x : Int32} (hd : decode M.2.1 pc = .ok (.istore_n 2, 1)) (hn : 2 < M.2.2.1) (k : zW l M N S (pc + 1) (x0 :: zno :: .int x :: t) st h Q) : zW l M N S pc (x0 :: x1 :: y :: t) (.int x :: st) h Q := by
  intro p e s m args below meth c E n0 z0 H locs cells slots ls R Z C A hl hR K
  refine lv_istore_n C.1 C.2.1 hd rfl (zlv_has hl) hn rfl (fun ls2 hl2 => ?_)
  refine k p e s m args below meth c E n0 z0 H locs cells slots ls2 R Z C A (zlv_store1 (v := .int x) hl2 ?_) hR K
  intro j w hj hw
  cases j with
  | zero => exact Or.inr ⟨hj, by omega, fun q => by omega⟩
  | succ j =>
    cases j with
    | zero => exact absurd (Option.some.inj hj).symm hw
    | succ j =>
      cases j with
      | zero => exact Or.inl ⟨rfl, (Option.some.inj hj).symm⟩
      | succ j =>
        exact Or.inr ⟨hj, by omega, fun q => by omega⟩
theorem z_astore_2 {x0 x1 : Value} {y : Value} {t : List Value} {x : Nat} (hd : decode M.2.1 pc = .ok (.astore_n 2, 1)) (hn : 2 < M.2.2.1) (hc : x1.category = 1) (k : zW l M N S (pc + 1) (x0 :: x1 :: .ref x :: t) st h Q) : zW l M N S pc (x0 :: x1 :: y :: t) (.ref x :: st) h Q := by
  intro p e s m args below meth c E n0 z0 H locs cells slots ls R Z C A hl hR K
  refine lv_astore_n C.1 C.2.1 hd rfl (zlv_has hl) hn rfl (fun ls2 hl2 => ?_)
  refine k p e s m args below meth c E n0 z0 H locs cells slots ls2 R Z C A (zlv_store1 (v := .ref x) hl2 ?_) hR K
  intro j w hj hw
  cases j with
  | zero => exact Or.inr ⟨hj, by omega, fun q => by omega⟩
  | succ j =>
    cases j with
    | zero => exact Or.inr ⟨hj, by omega, fun _ => (Option.some.inj hj) ▸ hc⟩
    | succ j =>
      cases j with
      | zero => exact Or.inl ⟨rfl, (Option.some.inj hj).symm⟩
      | succ j =>
        exact Or.inr ⟨hj, by omega, fun q => by omega⟩
theorem z_astoreK_2 {x0 x1 : Value} {y : Value} {t : List Value} {x : Nat} (hd : decode M.2.1 pc = .ok (.astore_n 2, 1)) (hn : 2 < M.2.2.1) (k : zW l M N S (pc + 1) (x0 :: zno :: .ref x :: t) st h Q) : zW l M N S pc (x0 :: x1 :: y :: t) (.ref x :: st) h Q := by
  intro p e s m args below meth c E n0 z0 H locs cells slots ls R Z C A hl hR K
  refine lv_astore_n C.1 C.2.1 hd rfl (zlv_has hl) hn rfl (fun ls2 hl2 => ?_)
  refine k p e s m args below meth c E n0 z0 H locs cells slots ls2 R Z C A (zlv_store1 (v := .ref x) hl2 ?_) hR K
  intro j w hj hw
  cases j with
  | zero => exact Or.inr ⟨hj, by omega, fun q => by omega⟩
  | succ j =>
    cases j with
    | zero => exact absurd (Option.some.inj hj).symm hw
    | succ j =>
      cases j with
      | zero => exact Or.inl ⟨rfl, (Option.some.inj hj).symm⟩
      | succ j =>
        exact Or.inr ⟨hj, by omega, fun q => by omega⟩
theorem z_lstore_2 {x0 x1 : Value} {y y2 : Value} {t : List Value} {x : Int64} (hd : decode M.2.1 pc = .ok (.lstore_n 2, 1)) (hn : 3 < M.2.2.1) (hc : x1.category = 1) (k : zW l M N S (pc + 1) (x0 :: x1 :: .long x :: zno :: t) st h Q) : zW l M N S pc (x0 :: x1 :: y :: y2 :: t) (.long x :: st) h Q := by
  intro p e s m args below meth c E n0 z0 H locs cells slots ls R Z C A hl hR K
  refine lv_lstore_n C.1 C.2.1 hd rfl (zlv_has hl) hn rfl (fun ls2 hl2 => ?_)
  refine k p e s m args below meth c E n0 z0 H locs cells slots ls2 R Z C A (zlv_store2 (v := .long x) hl2 ?_) hR K
  intro j w hj hw
  cases j with
  | zero => exact Or.inr ⟨hj, by omega, by omega, fun q => by omega⟩
  | succ j =>
    cases j with
    | zero => exact Or.inr ⟨hj, by omega, by omega, fun _ => (Option.some.inj hj) ▸ hc⟩
    | succ j =>
      cases j with
      | zero => exact Or.inl ⟨rfl, (Option.some.inj hj).symm⟩
      | succ j =>
        cases j with
        | zero => exact absurd (Option.some.inj hj).symm hw
        | succ j => exact Or.inr ⟨hj, by omega, by omega, fun q => by omega⟩
theorem z_lstoreK_2 {x0 x1 : Value} {y y2 : Value} {t : List Value} {x : Int64} (hd : decode M.2.1 pc = .ok (.lstore_n 2, 1)) (hn : 3 < M.2.2.1) (k : zW l M N S (pc + 1) (x0 :: zno :: .long x :: zno :: t) st h Q) : zW l M N S pc (x0 :: x1 :: y :: y2 :: t) (.long x :: st) h Q := by
  intro p e s m args below meth c E n0 z0 H locs cells slots ls R Z C A hl hR K
  refine lv_lstore_n C.1 C.2.1 hd rfl (zlv_has hl) hn rfl (fun ls2 hl2 => ?_)
  refine k p e s m args below meth c E n0 z0 H locs cells slots ls2 R Z C A (zlv_store2 (v := .long x) hl2 ?_) hR K
  intro j w hj hw
  cases j with
  | zero => exact Or.inr ⟨hj, by omega, by omega, fun q => by omega⟩
  | succ j =>
    cases j with
    | zero => exact absurd (Option.some.inj hj).symm hw
    | succ j =>
      cases j with
      | zero => exact Or.inl ⟨rfl, (Option.some.inj hj).symm⟩
      | succ j =>
        cases j with
        | zero => exact absurd (Option.some.inj hj).symm hw
        | succ j => exact Or.inr ⟨hj, by omega, by omega, fun q => by omega⟩
theorem z_iinc_2 {x0 x1 : Value} {t : List Value} {x : Int32} {n : Int} (v : Int32) (hd : decode M.2.1 pc = .ok (.iinc 2 n, 3)) (hv : Int32.ofInt n = v) (hn : 2 < M.2.2.1) (hc : x1.category = 1) (k : zW l M N S (pc + 3) (x0 :: x1 :: .int (x + v) :: t) st h Q) : zW l M N S pc (x0 :: x1 :: .int x :: t) st h Q := by
  subst hv
  intro p e s m args below meth c E n0 z0 H locs cells slots ls R Z C A hl hR K
  obtain ⟨k0, hk0⟩ := List.getElem?_of_mem (zll_mem.mpr ⟨.int x, (rfl : (x0 :: x1 :: .int x :: t)[2]? = _), (fun q => Value.noConfusion q), rfl⟩ : (2, ze E (.int x)) ∈ zll E (x0 :: x1 :: .int x :: t))
  refine lv_iinc C.1 C.2.1 hd (zlv_has hl) hk0 rfl hn rfl (fun ls2 hl2 => ?_)
  refine k p e s m args below meth c E n0 z0 H locs cells slots ls2 R Z C A (zlv_store1 (v := .int (x + Int32.ofInt n)) hl2 ?_) hR K
  intro j w hj hw
  cases j with
  | zero => exact Or.inr ⟨hj, by omega, fun q => by omega⟩
  | succ j =>
    cases j with
    | zero => exact Or.inr ⟨hj, by omega, fun _ => (Option.some.inj hj) ▸ hc⟩
    | succ j =>
      cases j with
      | zero => exact Or.inl ⟨rfl, (Option.some.inj hj).symm⟩
      | succ j => exact Or.inr ⟨hj, by omega, fun q => by omega⟩
theorem z_iload_3 {x0 x1 x2 : Value} {t : List Value} {x : Int32} (hd : decode M.2.1 pc = .ok (.iload_n 3, 1)) (k : zW l M N S (pc + 1) (x0 :: x1 :: x2 :: .int x :: t) (.int x :: st) h Q) : zW l M N S pc (x0 :: x1 :: x2 :: .int x :: t) st h Q := by
  intro p e s m args below meth c E n0 z0 H locs cells slots ls R Z C A hl hR K
  exact lv_iload_n C.1 C.2.1 hd rfl (hl.2.2 3 (.int x) rfl (fun q => Value.noConfusion q)) (k p e s m args below meth c E n0 z0 H locs cells slots ls R Z C A hl hR K)
theorem z_lload_3 {x0 x1 x2 : Value} {t : List Value} {x : Int64} (hd : decode M.2.1 pc = .ok (.lload_n 3, 1)) (k : zW l M N S (pc + 1) (x0 :: x1 :: x2 :: .long x :: t) (.long x :: st) h Q) : zW l M N S pc (x0 :: x1 :: x2 :: .long x :: t) st h Q := by
  intro p e s m args below meth c E n0 z0 H locs cells slots ls R Z C A hl hR K
  exact lv_lload_n C.1 C.2.1 hd rfl (hl.2.2 3 (.long x) rfl (fun q => Value.noConfusion q)) (k p e s m args below meth c E n0 z0 H locs cells slots ls R Z C A hl hR K)
theorem z_aload_3 {x0 x1 x2 : Value} {t : List Value} {x : Nat} (hd : decode M.2.1 pc = .ok (.aload_n 3, 1)) (k : zW l M N S (pc + 1) (x0 :: x1 :: x2 :: .ref x :: t) (.ref x :: st) h Q) : zW l M N S pc (x0 :: x1 :: x2 :: .ref x :: t) st h Q := by
  intro p e s m args below meth c E n0 z0 H locs cells slots ls R Z C A hl hR K
  exact lv_aload_n C.1 C.2.1 hd rfl (hl.2.2 3 (.ref x) rfl (fun q => Value.noConfusion q)) (k p e s m args below meth c E n0 z0 H locs cells slots ls R Z C A hl hR K)
theorem z_istore_3 {x0 x1 x2 : Value} {y : Value} {t : List Value} {x : Int32} (hd : decode M.2.1 pc = .ok (.istore_n 3, 1)) (hn : 3 < M.2.2.1) (hc : x2.category = 1) (k : zW l M N S (pc + 1) (x0 :: x1 :: x2 :: .int x :: t) st h Q) : zW l M N S pc (x0 :: x1 :: x2 :: y :: t) (.int x :: st) h Q := by
  intro p e s m args below meth c E n0 z0 H locs cells slots ls R Z C A hl hR K
  refine lv_istore_n C.1 C.2.1 hd rfl (zlv_has hl) hn rfl (fun ls2 hl2 => ?_)
  refine k p e s m args below meth c E n0 z0 H locs cells slots ls2 R Z C A (zlv_store1 (v := .int x) hl2 ?_) hR K
  intro j w hj hw
  cases j with
  | zero => exact Or.inr ⟨hj, by omega, fun q => by omega⟩
  | succ j =>
    cases j with
    | zero => exact Or.inr ⟨hj, by omega, fun q => by omega⟩
    | succ j =>
      cases j with
      | zero => exact Or.inr ⟨hj, by omega, fun _ => (Option.some.inj hj) ▸ hc⟩
      | succ j =>
        cases j with
        | zero => exact Or.inl ⟨rfl, (Option.some.inj hj).symm⟩
        | succ j =>
          exact Or.inr ⟨hj, by omega, fun q => by omega⟩
theorem z_istoreK_3 {x0 x1 x2 : Value} {y : Value} {t : List Value} {x : Int32} (hd : decode M.2.1 pc = .ok (.istore_n 3, 1)) (hn : 3 < M.2.2.1) (k : zW l M N S (pc + 1) (x0 :: x1 :: zno :: .int x :: t) st h Q) : zW l M N S pc (x0 :: x1 :: x2 :: y :: t) (.int x :: st) h Q := by
  intro p e s m args below meth c E n0 z0 H locs cells slots ls R Z C A hl hR K
  refine lv_istore_n C.1 C.2.1 hd rfl (zlv_has hl) hn rfl (fun ls2 hl2 => ?_)
  refine k p e s m args below meth c E n0 z0 H locs cells slots ls2 R Z C A (zlv_store1 (v := .int x) hl2 ?_) hR K
  intro j w hj hw
  cases j with
  | zero => exact Or.inr ⟨hj, by omega, fun q => by omega⟩
  | succ j =>
    cases j with
    | zero => exact Or.inr ⟨hj, by omega, fun q => by omega⟩
    | succ j =>
      cases j with
      | zero => exact absurd (Option.some.inj hj).symm hw
      | succ j =>
        cases j with
        | zero => exact Or.inl ⟨rfl, (Option.some.inj hj).symm⟩
        | succ j =>
          exact Or.inr ⟨hj, by omega, fun q => by omega⟩
theorem z_astore_3 {x0 x1 x2 : Value} {y : Value} {t : List Value} {x : Nat} (hd : decode M.2.1 pc = .ok (.astore_n 3, 1)) (hn : 3 < M.2.2.1) (hc : x2.category = 1) (k : zW l M N S (pc + 1) (x0 :: x1 :: x2 :: .ref x :: t) st h Q) : zW l M N S pc (x0 :: x1 :: x2 :: y :: t) (.ref x :: st) h Q := by
  intro p e s m args below meth c E n0 z0 H locs cells slots ls R Z C A hl hR K
  refine lv_astore_n C.1 C.2.1 hd rfl (zlv_has hl) hn rfl (fun ls2 hl2 => ?_)
  refine k p e s m args below meth c E n0 z0 H locs cells slots ls2 R Z C A (zlv_store1 (v := .ref x) hl2 ?_) hR K
  intro j w hj hw
  cases j with
  | zero => exact Or.inr ⟨hj, by omega, fun q => by omega⟩
  | succ j =>
    cases j with
    | zero => exact Or.inr ⟨hj, by omega, fun q => by omega⟩
    | succ j =>
      cases j with
      | zero => exact Or.inr ⟨hj, by omega, fun _ => (Option.some.inj hj) ▸ hc⟩
      | succ j =>
        cases j with
        | zero => exact Or.inl ⟨rfl, (Option.some.inj hj).symm⟩
        | succ j =>
          exact Or.inr ⟨hj, by omega, fun q => by omega⟩
theorem z_astoreK_3 {x0 x1 x2 : Value} {y : Value} {t : List Value} {x : Nat} (hd : decode M.2.1 pc = .ok (.astore_n 3, 1)) (hn : 3 < M.2.2.1) (k : zW l M N S (pc + 1) (x0 :: x1 :: zno :: .ref x :: t) st h Q) : zW l M N S pc (x0 :: x1 :: x2 :: y :: t) (.ref x :: st) h Q := by
  intro p e s m args below meth c E n0 z0 H locs cells slots ls R Z C A hl hR K
  refine lv_astore_n C.1 C.2.1 hd rfl (zlv_has hl) hn rfl (fun ls2 hl2 => ?_)
  refine k p e s m args below meth c E n0 z0 H locs cells slots ls2 R Z C A (zlv_store1 (v := .ref x) hl2 ?_) hR K
  intro j w hj hw
  cases j with
  | zero => exact Or.inr ⟨hj, by omega, fun q => by omega⟩
  | succ j =>
    cases j with
    | zero => exact Or.inr ⟨hj, by omega, fun q => by omega⟩
    | succ j =>
      cases j with
      | zero => exact absurd (Option.some.inj hj).symm hw
      | succ j =>
        cases j with
        | zero => exact Or.inl ⟨rfl, (Option.some.inj hj).symm⟩
        | succ j =>
          exact Or.inr ⟨hj, by omega, fun q => by omega⟩
theorem z_lstore_3 {x0 x1 x2 : Value} {y y2 : Value} {t : List Value} {x : Int64} (hd : decode M.2.1 pc = .ok (.lstore_n 3, 1)) (hn : 4 < M.2.2.1) (hc : x2.category = 1) (k : zW l M N S (pc + 1) (x0 :: x1 :: x2 :: .long x :: zno :: t) st h Q) : zW l M N S pc (x0 :: x1 :: x2 :: y :: y2 :: t) (.long x :: st) h Q := by
  intro p e s m args below meth c E n0 z0 H locs cells slots ls R Z C A hl hR K
  refine lv_lstore_n C.1 C.2.1 hd rfl (zlv_has hl) hn rfl (fun ls2 hl2 => ?_)
  refine k p e s m args below meth c E n0 z0 H locs cells slots ls2 R Z C A (zlv_store2 (v := .long x) hl2 ?_) hR K
  intro j w hj hw
  cases j with
  | zero => exact Or.inr ⟨hj, by omega, by omega, fun q => by omega⟩
  | succ j =>
    cases j with
    | zero => exact Or.inr ⟨hj, by omega, by omega, fun q => by omega⟩
    | succ j =>
      cases j with
      | zero => exact Or.inr ⟨hj, by omega, by omega, fun _ => (Option.some.inj hj) ▸ hc⟩
      | succ j =>
        cases j with
        | zero => exact Or.inl ⟨rfl, (Option.some.inj hj).symm⟩
        | succ j =>
          cases j with
          | zero => exact absurd (Option.some.inj hj).symm hw
          | succ j => exact Or.inr ⟨hj, by omega, by omega, fun q => by omega⟩
theorem z_lstoreK_3 {x0 x1 x2 : Value} {y y2 : Value} {t : List Value} {x : Int64} (hd : decode M.2.1 pc = .ok (.lstore_n 3, 1)) (hn : 4 < M.2.2.1) (k : zW l M N S (pc + 1) (x0 :: x1 :: zno :: .long x :: zno :: t) st h Q) : zW l M N S pc (x0 :: x1 :: x2 :: y :: y2 :: t) (.long x :: st) h Q := by
  intro p e s m args below meth c E n0 z0 H locs cells slots ls R Z C A hl hR K
  refine lv_lstore_n C.1 C.2.1 hd rfl (zlv_has hl) hn rfl (fun ls2 hl2 => ?_)
  refine k p e s m args below meth c E n0 z0 H locs cells slots ls2 R Z C A (zlv_store2 (v := .long x) hl2 ?_) hR K
  intro j w hj hw
  cases j with
  | zero => exact Or.inr ⟨hj, by omega, by omega, fun q => by omega⟩
  | succ j =>
    cases j with
    | zero => exact Or.inr ⟨hj, by omega, by omega, fun q => by omega⟩
    | succ j =>
      cases j with
      | zero => exact absurd (Option.some.inj hj).symm hw
      | succ j =>
        cases j with
        | zero => exact Or.inl ⟨rfl, (Option.some.inj hj).symm⟩
        | succ j =>
          cases j with
          | zero => exact absurd (Option.some.inj hj).symm hw
          | succ j => exact Or.inr ⟨hj, by omega, by omega, fun q => by omega⟩
theorem z_iinc_3 {x0 x1 x2 : Value} {t : List Value} {x : Int32} {n : Int} (v : Int32) (hd : decode M.2.1 pc = .ok (.iinc 3 n, 3)) (hv : Int32.ofInt n = v) (hn : 3 < M.2.2.1) (hc : x2.category = 1) (k : zW l M N S (pc + 3) (x0 :: x1 :: x2 :: .int (x + v) :: t) st h Q) : zW l M N S pc (x0 :: x1 :: x2 :: .int x :: t) st h Q := by
  subst hv
  intro p e s m args below meth c E n0 z0 H locs cells slots ls R Z C A hl hR K
  obtain ⟨k0, hk0⟩ := List.getElem?_of_mem (zll_mem.mpr ⟨.int x, (rfl : (x0 :: x1 :: x2 :: .int x :: t)[3]? = _), (fun q => Value.noConfusion q), rfl⟩ : (3, ze E (.int x)) ∈ zll E (x0 :: x1 :: x2 :: .int x :: t))
  refine lv_iinc C.1 C.2.1 hd (zlv_has hl) hk0 rfl hn rfl (fun ls2 hl2 => ?_)
  refine k p e s m args below meth c E n0 z0 H locs cells slots ls2 R Z C A (zlv_store1 (v := .int (x + Int32.ofInt n)) hl2 ?_) hR K
  intro j w hj hw
  cases j with
  | zero => exact Or.inr ⟨hj, by omega, fun q => by omega⟩
  | succ j =>
    cases j with
    | zero => exact Or.inr ⟨hj, by omega, fun q => by omega⟩
    | succ j =>
      cases j with
      | zero => exact Or.inr ⟨hj, by omega, fun _ => (Option.some.inj hj) ▸ hc⟩
      | succ j =>
        cases j with
        | zero => exact Or.inl ⟨rfl, (Option.some.inj hj).symm⟩
        | succ j => exact Or.inr ⟨hj, by omega, fun q => by omega⟩
theorem z_iload_4 {x0 x1 x2 x3 : Value} {t : List Value} {x : Int32} (hd : decode M.2.1 pc = .ok (.iload 4, 2)) (k : zW l M N S (pc + 2) (x0 :: x1 :: x2 :: x3 :: .int x :: t) (.int x :: st) h Q) : zW l M N S pc (x0 :: x1 :: x2 :: x3 :: .int x :: t) st h Q := by
  intro p e s m args below meth c E n0 z0 H locs cells slots ls R Z C A hl hR K
  exact lv_iload C.1 C.2.1 hd (hl.2.2 4 (.int x) rfl (fun q => Value.noConfusion q)) (k p e s m args below meth c E n0 z0 H locs cells slots ls R Z C A hl hR K)
theorem z_lload_4 {x0 x1 x2 x3 : Value} {t : List Value} {x : Int64} (hd : decode M.2.1 pc = .ok (.lload 4, 2)) (k : zW l M N S (pc + 2) (x0 :: x1 :: x2 :: x3 :: .long x :: t) (.long x :: st) h Q) : zW l M N S pc (x0 :: x1 :: x2 :: x3 :: .long x :: t) st h Q := by
  intro p e s m args below meth c E n0 z0 H locs cells slots ls R Z C A hl hR K
  exact lv_lload C.1 C.2.1 hd (hl.2.2 4 (.long x) rfl (fun q => Value.noConfusion q)) (k p e s m args below meth c E n0 z0 H locs cells slots ls R Z C A hl hR K)
theorem z_aload_4 {x0 x1 x2 x3 : Value} {t : List Value} {x : Nat} (hd : decode M.2.1 pc = .ok (.aload 4, 2)) (k : zW l M N S (pc + 2) (x0 :: x1 :: x2 :: x3 :: .ref x :: t) (.ref x :: st) h Q) : zW l M N S pc (x0 :: x1 :: x2 :: x3 :: .ref x :: t) st h Q := by
  intro p e s m args below meth c E n0 z0 H locs cells slots ls R Z C A hl hR K
  exact lv_aload C.1 C.2.1 hd (hl.2.2 4 (.ref x) rfl (fun q => Value.noConfusion q)) (k p e s m args below meth c E n0 z0 H locs cells slots ls R Z C A hl hR K)
theorem z_istore_4 {x0 x1 x2 x3 : Value} {y : Value} {t : List Value} {x : Int32} (hd : decode M.2.1 pc = .ok (.istore 4, 2)) (hn : 4 < M.2.2.1) (hc : x3.category = 1) (k : zW l M N S (pc + 2) (x0 :: x1 :: x2 :: x3 :: .int x :: t) st h Q) : zW l M N S pc (x0 :: x1 :: x2 :: x3 :: y :: t) (.int x :: st) h Q := by
  intro p e s m args below meth c E n0 z0 H locs cells slots ls R Z C A hl hR K
  refine lv_istore C.1 C.2.1 hd (zlv_has hl) hn rfl (fun ls2 hl2 => ?_)
  refine k p e s m args below meth c E n0 z0 H locs cells slots ls2 R Z C A (zlv_store1 (v := .int x) hl2 ?_) hR K
  intro j w hj hw
  cases j with
  | zero => exact Or.inr ⟨hj, by omega, fun q => by omega⟩
  | succ j =>
    cases j with
    | zero => exact Or.inr ⟨hj, by omega, fun q => by omega⟩
    | succ j =>
      cases j with
      | zero => exact Or.inr ⟨hj, by omega, fun q => by omega⟩
      | succ j =>
        cases j with
        | zero => exact Or.inr ⟨hj, by omega, fun _ => (Option.some.inj hj) ▸ hc⟩
        | succ j =>
          cases j with
          | zero => exact Or.inl ⟨rfl, (Option.some.inj hj).symm⟩
          | succ j =>
            exact Or.inr ⟨hj, by omega, fun q => by omega⟩
theorem z_istoreK_4 {x0 x1 x2 x3 : Value} {y : Value} {t : List Value} {x : Int32} (hd : decode M.2.1 pc = .ok (.istore 4, 2)) (hn : 4 < M.2.2.1) (k : zW l M N S (pc + 2) (x0 :: x1 :: x2 :: zno :: .int x :: t) st h Q) : zW l M N S pc (x0 :: x1 :: x2 :: x3 :: y :: t) (.int x :: st) h Q := by
  intro p e s m args below meth c E n0 z0 H locs cells slots ls R Z C A hl hR K
  refine lv_istore C.1 C.2.1 hd (zlv_has hl) hn rfl (fun ls2 hl2 => ?_)
  refine k p e s m args below meth c E n0 z0 H locs cells slots ls2 R Z C A (zlv_store1 (v := .int x) hl2 ?_) hR K
  intro j w hj hw
  cases j with
  | zero => exact Or.inr ⟨hj, by omega, fun q => by omega⟩
  | succ j =>
    cases j with
    | zero => exact Or.inr ⟨hj, by omega, fun q => by omega⟩
    | succ j =>
      cases j with
      | zero => exact Or.inr ⟨hj, by omega, fun q => by omega⟩
      | succ j =>
        cases j with
        | zero => exact absurd (Option.some.inj hj).symm hw
        | succ j =>
          cases j with
          | zero => exact Or.inl ⟨rfl, (Option.some.inj hj).symm⟩
          | succ j =>
            exact Or.inr ⟨hj, by omega, fun q => by omega⟩
theorem z_astore_4 {x0 x1 x2 x3 : Value} {y : Value} {t : List Value} {x : Nat} (hd : decode M.2.1 pc = .ok (.astore 4, 2)) (hn : 4 < M.2.2.1) (hc : x3.category = 1) (k : zW l M N S (pc + 2) (x0 :: x1 :: x2 :: x3 :: .ref x :: t) st h Q) : zW l M N S pc (x0 :: x1 :: x2 :: x3 :: y :: t) (.ref x :: st) h Q := by
  intro p e s m args below meth c E n0 z0 H locs cells slots ls R Z C A hl hR K
  refine lv_astore C.1 C.2.1 hd (zlv_has hl) hn rfl (fun ls2 hl2 => ?_)
  refine k p e s m args below meth c E n0 z0 H locs cells slots ls2 R Z C A (zlv_store1 (v := .ref x) hl2 ?_) hR K
  intro j w hj hw
  cases j with
  | zero => exact Or.inr ⟨hj, by omega, fun q => by omega⟩
  | succ j =>
    cases j with
    | zero => exact Or.inr ⟨hj, by omega, fun q => by omega⟩
    | succ j =>
      cases j with
      | zero => exact Or.inr ⟨hj, by omega, fun q => by omega⟩
      | succ j =>
        cases j with
        | zero => exact Or.inr ⟨hj, by omega, fun _ => (Option.some.inj hj) ▸ hc⟩
        | succ j =>
          cases j with
          | zero => exact Or.inl ⟨rfl, (Option.some.inj hj).symm⟩
          | succ j =>
            exact Or.inr ⟨hj, by omega, fun q => by omega⟩
theorem z_astoreK_4 {x0 x1 x2 x3 : Value} {y : Value} {t : List Value} {x : Nat} (hd : decode M.2.1 pc = .ok (.astore 4, 2)) (hn : 4 < M.2.2.1) (k : zW l M N S (pc + 2) (x0 :: x1 :: x2 :: zno :: .ref x :: t) st h Q) : zW l M N S pc (x0 :: x1 :: x2 :: x3 :: y :: t) (.ref x :: st) h Q := by
  intro p e s m args below meth c E n0 z0 H locs cells slots ls R Z C A hl hR K
  refine lv_astore C.1 C.2.1 hd (zlv_has hl) hn rfl (fun ls2 hl2 => ?_)
  refine k p e s m args below meth c E n0 z0 H locs cells slots ls2 R Z C A (zlv_store1 (v := .ref x) hl2 ?_) hR K
  intro j w hj hw
  cases j with
  | zero => exact Or.inr ⟨hj, by omega, fun q => by omega⟩
  | succ j =>
    cases j with
    | zero => exact Or.inr ⟨hj, by omega, fun q => by omega⟩
    | succ j =>
      cases j with
      | zero => exact Or.inr ⟨hj, by omega, fun q => by omega⟩
      | succ j =>
        cases j with
        | zero => exact absurd (Option.some.inj hj).symm hw
        | succ j =>
          cases j with
          | zero => exact Or.inl ⟨rfl, (Option.some.inj hj).symm⟩
          | succ j =>
            exact Or.inr ⟨hj, by omega, fun q => by omega⟩
theorem z_lstore_4 {x0 x1 x2 x3 : Value} {y y2 : Value} {t : List Value} {x : Int64} (hd : decode M.2.1 pc = .ok (.lstore 4, 2)) (hn : 5 < M.2.2.1) (hc : x3.category = 1) (k : zW l M N S (pc + 2) (x0 :: x1 :: x2 :: x3 :: .long x :: zno :: t) st h Q) : zW l M N S pc (x0 :: x1 :: x2 :: x3 :: y :: y2 :: t) (.long x :: st) h Q := by
  intro p e s m args below meth c E n0 z0 H locs cells slots ls R Z C A hl hR K
  refine lv_lstore C.1 C.2.1 hd (zlv_has hl) hn rfl (fun ls2 hl2 => ?_)
  refine k p e s m args below meth c E n0 z0 H locs cells slots ls2 R Z C A (zlv_store2 (v := .long x) hl2 ?_) hR K
  intro j w hj hw
  cases j with
  | zero => exact Or.inr ⟨hj, by omega, by omega, fun q => by omega⟩
  | succ j =>
    cases j with
    | zero => exact Or.inr ⟨hj, by omega, by omega, fun q => by omega⟩
    | succ j =>
      cases j with
      | zero => exact Or.inr ⟨hj, by omega, by omega, fun q => by omega⟩
      | succ j =>
        cases j with
        | zero => exact Or.inr ⟨hj, by omega, by omega, fun _ => (Option.some.inj hj) ▸ hc⟩
        | succ j =>
          cases j with
          | zero => exact Or.inl ⟨rfl, (Option.some.inj hj).symm⟩
          | succ j =>
            cases j with
            | zero => exact absurd (Option.some.inj hj).symm hw
            | succ j => exact Or.inr ⟨hj, by omega, by omega, fun q => by omega⟩
theorem z_lstoreK_4 {x0 x1 x2 x3 : Value} {y y2 : Value} {t : List Value} {x : Int64} (hd : decode M.2.1 pc = .ok (.lstore 4, 2)) (hn : 5 < M.2.2.1) (k : zW l M N S (pc + 2) (x0 :: x1 :: x2 :: zno :: .long x :: zno :: t) st h Q) : zW l M N S pc (x0 :: x1 :: x2 :: x3 :: y :: y2 :: t) (.long x :: st) h Q := by
  intro p e s m args below meth c E n0 z0 H locs cells slots ls R Z C A hl hR K
  refine lv_lstore C.1 C.2.1 hd (zlv_has hl) hn rfl (fun ls2 hl2 => ?_)
  refine k p e s m args below meth c E n0 z0 H locs cells slots ls2 R Z C A (zlv_store2 (v := .long x) hl2 ?_) hR K
  intro j w hj hw
  cases j with
  | zero => exact Or.inr ⟨hj, by omega, by omega, fun q => by omega⟩
  | succ j =>
    cases j with
    | zero => exact Or.inr ⟨hj, by omega, by omega, fun q => by omega⟩
    | succ j =>
      cases j with
      | zero => exact Or.inr ⟨hj, by omega, by omega, fun q => by omega⟩
      | succ j =>
        cases j with
        | zero => exact absurd (Option.some.inj hj).symm hw
        | succ j =>
          cases j with
          | zero => exact Or.inl ⟨rfl, (Option.some.inj hj).symm⟩
          | succ j =>
            cases j with
            | zero => exact absurd (Option.some.inj hj).symm hw
            | succ j => exact Or.inr ⟨hj, by omega, by omega, fun q => by omega⟩
theorem z_iinc_4 {x0 x1 x2 x3 : Value} {t : List Value} {x : Int32} {n : Int} (v : Int32) (hd : decode M.2.1 pc = .ok (.iinc 4 n, 3)) (hv : Int32.ofInt n = v) (hn : 4 < M.2.2.1) (hc : x3.category = 1) (k : zW l M N S (pc + 3) (x0 :: x1 :: x2 :: x3 :: .int (x + v) :: t) st h Q) : zW l M N S pc (x0 :: x1 :: x2 :: x3 :: .int x :: t) st h Q := by
  subst hv
  intro p e s m args below meth c E n0 z0 H locs cells slots ls R Z C A hl hR K
  obtain ⟨k0, hk0⟩ := List.getElem?_of_mem (zll_mem.mpr ⟨.int x, (rfl : (x0 :: x1 :: x2 :: x3 :: .int x :: t)[4]? = _), (fun q => Value.noConfusion q), rfl⟩ : (4, ze E (.int x)) ∈ zll E (x0 :: x1 :: x2 :: x3 :: .int x :: t))
  refine lv_iinc C.1 C.2.1 hd (zlv_has hl) hk0 rfl hn rfl (fun ls2 hl2 => ?_)
  refine k p e s m args below meth c E n0 z0 H locs cells slots ls2 R Z C A (zlv_store1 (v := .int (x + Int32.ofInt n)) hl2 ?_) hR K
  intro j w hj hw
  cases j with
  | zero => exact Or.inr ⟨hj, by omega, fun q => by omega⟩
  | succ j =>
    cases j with
    | zero => exact Or.inr ⟨hj, by omega, fun q => by omega⟩
    | succ j =>
      cases j with
      | zero => exact Or.inr ⟨hj, by omega, fun q => by omega⟩
      | succ j =>
        cases j with
        | zero => exact Or.inr ⟨hj, by omega, fun _ => (Option.some.inj hj) ▸ hc⟩
        | succ j =>
          cases j with
          | zero => exact Or.inl ⟨rfl, (Option.some.inj hj).symm⟩
          | succ j => exact Or.inr ⟨hj, by omega, fun q => by omega⟩
theorem z_iload_5 {x0 x1 x2 x3 x4 : Value} {t : List Value} {x : Int32} (hd : decode M.2.1 pc = .ok (.iload 5, 2)) (k : zW l M N S (pc + 2) (x0 :: x1 :: x2 :: x3 :: x4 :: .int x :: t) (.int x :: st) h Q) : zW l M N S pc (x0 :: x1 :: x2 :: x3 :: x4 :: .int x :: t) st h Q := by
  intro p e s m args below meth c E n0 z0 H locs cells slots ls R Z C A hl hR K
  exact lv_iload C.1 C.2.1 hd (hl.2.2 5 (.int x) rfl (fun q => Value.noConfusion q)) (k p e s m args below meth c E n0 z0 H locs cells slots ls R Z C A hl hR K)
theorem z_lload_5 {x0 x1 x2 x3 x4 : Value} {t : List Value} {x : Int64} (hd : decode M.2.1 pc = .ok (.lload 5, 2)) (k : zW l M N S (pc + 2) (x0 :: x1 :: x2 :: x3 :: x4 :: .long x :: t) (.long x :: st) h Q) : zW l M N S pc (x0 :: x1 :: x2 :: x3 :: x4 :: .long x :: t) st h Q := by
  intro p e s m args below meth c E n0 z0 H locs cells slots ls R Z C A hl hR K
  exact lv_lload C.1 C.2.1 hd (hl.2.2 5 (.long x) rfl (fun q => Value.noConfusion q)) (k p e s m args below meth c E n0 z0 H locs cells slots ls R Z C A hl hR K)
theorem z_aload_5 {x0 x1 x2 x3 x4 : Value} {t : List Value} {x : Nat} (hd : decode M.2.1 pc = .ok (.aload 5, 2)) (k : zW l M N S (pc + 2) (x0 :: x1 :: x2 :: x3 :: x4 :: .ref x :: t) (.ref x :: st) h Q) : zW l M N S pc (x0 :: x1 :: x2 :: x3 :: x4 :: .ref x :: t) st h Q := by
  intro p e s m args below meth c E n0 z0 H locs cells slots ls R Z C A hl hR K
  exact lv_aload C.1 C.2.1 hd (hl.2.2 5 (.ref x) rfl (fun q => Value.noConfusion q)) (k p e s m args below meth c E n0 z0 H locs cells slots ls R Z C A hl hR K)
theorem z_istore_5 {x0 x1 x2 x3 x4 : Value} {y : Value} {t : List Value} {x : Int32} (hd : decode M.2.1 pc = .ok (.istore 5, 2)) (hn : 5 < M.2.2.1) (hc : x4.category = 1) (k : zW l M N S (pc + 2) (x0 :: x1 :: x2 :: x3 :: x4 :: .int x :: t) st h Q) : zW l M N S pc (x0 :: x1 :: x2 :: x3 :: x4 :: y :: t) (.int x :: st) h Q := by
  intro p e s m args below meth c E n0 z0 H locs cells slots ls R Z C A hl hR K
  refine lv_istore C.1 C.2.1 hd (zlv_has hl) hn rfl (fun ls2 hl2 => ?_)
  refine k p e s m args below meth c E n0 z0 H locs cells slots ls2 R Z C A (zlv_store1 (v := .int x) hl2 ?_) hR K
  intro j w hj hw
  cases j with
  | zero => exact Or.inr ⟨hj, by omega, fun q => by omega⟩
  | succ j =>
    cases j with
    | zero => exact Or.inr ⟨hj, by omega, fun q => by omega⟩
    | succ j =>
      cases j with
      | zero => exact Or.inr ⟨hj, by omega, fun q => by omega⟩
      | succ j =>
        cases j with
        | zero => exact Or.inr ⟨hj, by omega, fun q => by omega⟩
        | succ j =>
          cases j with
          | zero => exact Or.inr ⟨hj, by omega, fun _ => (Option.some.inj hj) ▸ hc⟩
          | succ j =>
            cases j with
            | zero => exact Or.inl ⟨rfl, (Option.some.inj hj).symm⟩
            | succ j =>
              exact Or.inr ⟨hj, by omega, fun q => by omega⟩
theorem z_istoreK_5 {x0 x1 x2 x3 x4 : Value} {y : Value} {t : List Value} {x : Int32} (hd : decode M.2.1 pc = .ok (.istore 5, 2)) (hn : 5 < M.2.2.1) (k : zW l M N S (pc + 2) (x0 :: x1 :: x2 :: x3 :: zno :: .int x :: t) st h Q) : zW l M N S pc (x0 :: x1 :: x2 :: x3 :: x4 :: y :: t) (.int x :: st) h Q := by
  intro p e s m args below meth c E n0 z0 H locs cells slots ls R Z C A hl hR K
  refine lv_istore C.1 C.2.1 hd (zlv_has hl) hn rfl (fun ls2 hl2 => ?_)
  refine k p e s m args below meth c E n0 z0 H locs cells slots ls2 R Z C A (zlv_store1 (v := .int x) hl2 ?_) hR K
  intro j w hj hw
  cases j with
  | zero => exact Or.inr ⟨hj, by omega, fun q => by omega⟩
  | succ j =>
    cases j with
    | zero => exact Or.inr ⟨hj, by omega, fun q => by omega⟩
    | succ j =>
      cases j with
      | zero => exact Or.inr ⟨hj, by omega, fun q => by omega⟩
      | succ j =>
        cases j with
        | zero => exact Or.inr ⟨hj, by omega, fun q => by omega⟩
        | succ j =>
          cases j with
          | zero => exact absurd (Option.some.inj hj).symm hw
          | succ j =>
            cases j with
            | zero => exact Or.inl ⟨rfl, (Option.some.inj hj).symm⟩
            | succ j =>
              exact Or.inr ⟨hj, by omega, fun q => by omega⟩
theorem z_astore_5 {x0 x1 x2 x3 x4 : Value} {y : Value} {t : List Value} {x : Nat} (hd : decode M.2.1 pc = .ok (.astore 5, 2)) (hn : 5 < M.2.2.1) (hc : x4.category = 1) (k : zW l M N S (pc + 2) (x0 :: x1 :: x2 :: x3 :: x4 :: .ref x :: t) st h Q) : zW l M N S pc (x0 :: x1 :: x2 :: x3 :: x4 :: y :: t) (.ref x :: st) h Q := by
  intro p e s m args below meth c E n0 z0 H locs cells slots ls R Z C A hl hR K
  refine lv_astore C.1 C.2.1 hd (zlv_has hl) hn rfl (fun ls2 hl2 => ?_)
  refine k p e s m args below meth c E n0 z0 H locs cells slots ls2 R Z C A (zlv_store1 (v := .ref x) hl2 ?_) hR K
  intro j w hj hw
  cases j with
  | zero => exact Or.inr ⟨hj, by omega, fun q => by omega⟩
  | succ j =>
    cases j with
    | zero => exact Or.inr ⟨hj, by omega, fun q => by omega⟩
    | succ j =>
      cases j with
      | zero => exact Or.inr ⟨hj, by omega, fun q => by omega⟩
      | succ j =>
        cases j with
        | zero => exact Or.inr ⟨hj, by omega, fun q => by omega⟩
        | succ j =>
          cases j with
          | zero => exact Or.inr ⟨hj, by omega, fun _ => (Option.some.inj hj) ▸ hc⟩
          | succ j =>
            cases j with
            | zero => exact Or.inl ⟨rfl, (Option.some.inj hj).symm⟩
            | succ j =>
              exact Or.inr ⟨hj, by omega, fun q => by omega⟩
theorem z_astoreK_5 {x0 x1 x2 x3 x4 : Value} {y : Value} {t : List Value} {x : Nat} (hd : decode M.2.1 pc = .ok (.astore 5, 2)) (hn : 5 < M.2.2.1) (k : zW l M N S (pc + 2) (x0 :: x1 :: x2 :: x3 :: zno :: .ref x :: t) st h Q) : zW l M N S pc (x0 :: x1 :: x2 :: x3 :: x4 :: y :: t) (.ref x :: st) h Q := by
  intro p e s m args below meth c E n0 z0 H locs cells slots ls R Z C A hl hR K
  refine lv_astore C.1 C.2.1 hd (zlv_has hl) hn rfl (fun ls2 hl2 => ?_)
  refine k p e s m args below meth c E n0 z0 H locs cells slots ls2 R Z C A (zlv_store1 (v := .ref x) hl2 ?_) hR K
  intro j w hj hw
  cases j with
  | zero => exact Or.inr ⟨hj, by omega, fun q => by omega⟩
  | succ j =>
    cases j with
    | zero => exact Or.inr ⟨hj, by omega, fun q => by omega⟩
    | succ j =>
      cases j with
      | zero => exact Or.inr ⟨hj, by omega, fun q => by omega⟩
      | succ j =>
        cases j with
        | zero => exact Or.inr ⟨hj, by omega, fun q => by omega⟩
        | succ j =>
          cases j with
          | zero => exact absurd (Option.some.inj hj).symm hw
          | succ j =>
            cases j with
            | zero => exact Or.inl ⟨rfl, (Option.some.inj hj).symm⟩
            | succ j =>
              exact Or.inr ⟨hj, by omega, fun q => by omega⟩
theorem z_lstore_5 {x0 x1 x2 x3 x4 : Value} {y y2 : Value} {t : List Value} {x : Int64} (hd : decode M.2.1 pc = .ok (.lstore 5, 2)) (hn : 6 < M.2.2.1) (hc : x4.category = 1) (k : zW l M N S (pc + 2) (x0 :: x1 :: x2 :: x3 :: x4 :: .long x :: zno :: t) st h Q) : zW l M N S pc (x0 :: x1 :: x2 :: x3 :: x4 :: y :: y2 :: t) (.long x :: st) h Q := by
  intro p e s m args below meth c E n0 z0 H locs cells slots ls R Z C A hl hR K
  refine lv_lstore C.1 C.2.1 hd (zlv_has hl) hn rfl (fun ls2 hl2 => ?_)
  refine k p e s m args below meth c E n0 z0 H locs cells slots ls2 R Z C A (zlv_store2 (v := .long x) hl2 ?_) hR K
  intro j w hj hw
  cases j with
  | zero => exact Or.inr ⟨hj, by omega, by omega, fun q => by omega⟩
  | succ j =>
    cases j with
    | zero => exact Or.inr ⟨hj, by omega, by omega, fun q => by omega⟩
    | succ j =>
      cases j with
      | zero => exact Or.inr ⟨hj, by omega, by omega, fun q => by omega⟩
      | succ j =>
        cases j with
        | zero => exact Or.inr ⟨hj, by omega, by omega, fun q => by omega⟩
        | succ j =>
          cases j with
          | zero => exact Or.inr ⟨hj, by omega, by omega, fun _ => (Option.some.inj hj) ▸ hc⟩
          | succ j =>
            cases j with
            | zero => exact Or.inl ⟨rfl, (Option.some.inj hj).symm⟩
            | succ j =>
              cases j with
              | zero => exact absurd (Option.some.inj hj).symm hw
              | succ j => exact Or.inr ⟨hj, by omega, by omega, fun q => by omega⟩
theorem z_lstoreK_5 {x0 x1 x2 x3 x4 : Value} {y y2 : Value} {t : List Value} {x : Int64} (hd : decode M.2.1 pc = .ok (.lstore 5, 2)) (hn : 6 < M.2.2.1) (k : zW l M N S (pc + 2) (x0 :: x1 :: x2 :: x3 :: zno :: .long x :: zno :: t) st h Q) : zW l M N S pc (x0 :: x1 :: x2 :: x3 :: x4 :: y :: y2 :: t) (.long x :: st) h Q := by
  intro p e s m args below meth c E n0 z0 H locs cells slots ls R Z C A hl hR K
  refine lv_lstore C.1 C.2.1 hd (zlv_has hl) hn rfl (fun ls2 hl2 => ?_)
  refine k p e s m args below meth c E n0 z0 H locs cells slots ls2 R Z C A (zlv_store2 (v := .long x) hl2 ?_) hR K
  intro j w hj hw
  cases j with
  | zero => exact Or.inr ⟨hj, by omega, by omega, fun q => by omega⟩
  | succ j =>
    cases j with
    | zero => exact Or.inr ⟨hj, by omega, by omega, fun q => by omega⟩
    | succ j =>
      cases j with
      | zero => exact Or.inr ⟨hj, by omega, by omega, fun q => by omega⟩
      | succ j =>
        cases j with
        | zero => exact Or.inr ⟨hj, by omega, by omega, fun q => by omega⟩
        | succ j =>
          cases j with
          | zero => exact absurd (Option.some.inj hj).symm hw
          | succ j =>
            cases j with
            | zero => exact Or.inl ⟨rfl, (Option.some.inj hj).symm⟩
            | succ j =>
              cases j with
              | zero => exact absurd (Option.some.inj hj).symm hw
              | succ j => exact Or.inr ⟨hj, by omega, by omega, fun q => by omega⟩
theorem z_iinc_5 {x0 x1 x2 x3 x4 : Value} {t : List Value} {x : Int32} {n : Int} (v : Int32) (hd : decode M.2.1 pc = .ok (.iinc 5 n, 3)) (hv : Int32.ofInt n = v) (hn : 5 < M.2.2.1) (hc : x4.category = 1) (k : zW l M N S (pc + 3) (x0 :: x1 :: x2 :: x3 :: x4 :: .int (x + v) :: t) st h Q) : zW l M N S pc (x0 :: x1 :: x2 :: x3 :: x4 :: .int x :: t) st h Q := by
  subst hv
  intro p e s m args below meth c E n0 z0 H locs cells slots ls R Z C A hl hR K
  obtain ⟨k0, hk0⟩ := List.getElem?_of_mem (zll_mem.mpr ⟨.int x, (rfl : (x0 :: x1 :: x2 :: x3 :: x4 :: .int x :: t)[5]? = _), (fun q => Value.noConfusion q), rfl⟩ : (5, ze E (.int x)) ∈ zll E (x0 :: x1 :: x2 :: x3 :: x4 :: .int x :: t))
  refine lv_iinc C.1 C.2.1 hd (zlv_has hl) hk0 rfl hn rfl (fun ls2 hl2 => ?_)
  refine k p e s m args below meth c E n0 z0 H locs cells slots ls2 R Z C A (zlv_store1 (v := .int (x + Int32.ofInt n)) hl2 ?_) hR K
  intro j w hj hw
  cases j with
  | zero => exact Or.inr ⟨hj, by omega, fun q => by omega⟩
  | succ j =>
    cases j with
    | zero => exact Or.inr ⟨hj, by omega, fun q => by omega⟩
    | succ j =>
      cases j with
      | zero => exact Or.inr ⟨hj, by omega, fun q => by omega⟩
      | succ j =>
        cases j with
        | zero => exact Or.inr ⟨hj, by omega, fun q => by omega⟩
        | succ j =>
          cases j with
          | zero => exact Or.inr ⟨hj, by omega, fun _ => (Option.some.inj hj) ▸ hc⟩
          | succ j =>
            cases j with
            | zero => exact Or.inl ⟨rfl, (Option.some.inj hj).symm⟩
            | succ j => exact Or.inr ⟨hj, by omega, fun q => by omega⟩
theorem z_iload_6 {x0 x1 x2 x3 x4 x5 : Value} {t : List Value} {x : Int32} (hd : decode M.2.1 pc = .ok (.iload 6, 2)) (k : zW l M N S (pc + 2) (x0 :: x1 :: x2 :: x3 :: x4 :: x5 :: .int x :: t) (.int x :: st) h Q) : zW l M N S pc (x0 :: x1 :: x2 :: x3 :: x4 :: x5 :: .int x :: t) st h Q := by
  intro p e s m args below meth c E n0 z0 H locs cells slots ls R Z C A hl hR K
  exact lv_iload C.1 C.2.1 hd (hl.2.2 6 (.int x) rfl (fun q => Value.noConfusion q)) (k p e s m args below meth c E n0 z0 H locs cells slots ls R Z C A hl hR K)
theorem z_lload_6 {x0 x1 x2 x3 x4 x5 : Value} {t : List Value} {x : Int64} (hd : decode M.2.1 pc = .ok (.lload 6, 2)) (k : zW l M N S (pc + 2) (x0 :: x1 :: x2 :: x3 :: x4 :: x5 :: .long x :: t) (.long x :: st) h Q) : zW l M N S pc (x0 :: x1 :: x2 :: x3 :: x4 :: x5 :: .long x :: t) st h Q := by
  intro p e s m args below meth c E n0 z0 H locs cells slots ls R Z C A hl hR K
  exact lv_lload C.1 C.2.1 hd (hl.2.2 6 (.long x) rfl (fun q => Value.noConfusion q)) (k p e s m args below meth c E n0 z0 H locs cells slots ls R Z C A hl hR K)
theorem z_aload_6 {x0 x1 x2 x3 x4 x5 : Value} {t : List Value} {x : Nat} (hd : decode M.2.1 pc = .ok (.aload 6, 2)) (k : zW l M N S (pc + 2) (x0 :: x1 :: x2 :: x3 :: x4 :: x5 :: .ref x :: t) (.ref x :: st) h Q) : zW l M N S pc (x0 :: x1 :: x2 :: x3 :: x4 :: x5 :: .ref x :: t) st h Q := by
  intro p e s m args below meth c E n0 z0 H locs cells slots ls R Z C A hl hR K
  exact lv_aload C.1 C.2.1 hd (hl.2.2 6 (.ref x) rfl (fun q => Value.noConfusion q)) (k p e s m args below meth c E n0 z0 H locs cells slots ls R Z C A hl hR K)
theorem z_istore_6 {x0 x1 x2 x3 x4 x5 : Value} {y : Value} {t : List Value} {x : Int32} (hd : decode M.2.1 pc = .ok (.istore 6, 2)) (hn : 6 < M.2.2.1) (hc : x5.category = 1) (k : zW l M N S (pc + 2) (x0 :: x1 :: x2 :: x3 :: x4 :: x5 :: .int x :: t) st h Q) : zW l M N S pc (x0 :: x1 :: x2 :: x3 :: x4 :: x5 :: y :: t) (.int x :: st) h Q := by
  intro p e s m args below meth c E n0 z0 H locs cells slots ls R Z C A hl hR K
  refine lv_istore C.1 C.2.1 hd (zlv_has hl) hn rfl (fun ls2 hl2 => ?_)
  refine k p e s m args below meth c E n0 z0 H locs cells slots ls2 R Z C A (zlv_store1 (v := .int x) hl2 ?_) hR K
  intro j w hj hw
  cases j with
  | zero => exact Or.inr ⟨hj, by omega, fun q => by omega⟩
  | succ j =>
    cases j with
    | zero => exact Or.inr ⟨hj, by omega, fun q => by omega⟩
    | succ j =>
      cases j with
      | zero => exact Or.inr ⟨hj, by omega, fun q => by omega⟩
      | succ j =>
        cases j with
        | zero => exact Or.inr ⟨hj, by omega, fun q => by omega⟩
        | succ j =>
          cases j with
          | zero => exact Or.inr ⟨hj, by omega, fun q => by omega⟩
          | succ j =>
            cases j with
            | zero => exact Or.inr ⟨hj, by omega, fun _ => (Option.some.inj hj) ▸ hc⟩
            | succ j =>
              cases j with
              | zero => exact Or.inl ⟨rfl, (Option.some.inj hj).symm⟩
              | succ j =>
                exact Or.inr ⟨hj, by omega, fun q => by omega⟩
theorem z_istoreK_6 {x0 x1 x2 x3 x4 x5 : Value} {y : Value} {t : List Value} {x : Int32} (hd : decode M.2.1 pc = .ok (.istore 6, 2)) (hn : 6 < M.2.2.1) (k : zW l M N S (pc + 2) (x0 :: x1 :: x2 :: x3 :: x4 :: zno :: .int x :: t) st h Q) : zW l M N S pc (x0 :: x1 :: x2 :: x3 :: x4 :: x5 :: y :: t) (.int x :: st) h Q := by
  intro p e s m args below meth c E n0 z0 H locs cells slots ls R Z C A hl hR K
  refine lv_istore C.1 C.2.1 hd (zlv_has hl) hn rfl (fun ls2 hl2 => ?_)
  refine k p e s m args below meth c E n0 z0 H locs cells slots ls2 R Z C A (zlv_store1 (v := .int x) hl2 ?_) hR K
  intro j w hj hw
  cases j with
  | zero => exact Or.inr ⟨hj, by omega, fun q => by omega⟩
  | succ j =>
    cases j with
    | zero => exact Or.inr ⟨hj, by omega, fun q => by omega⟩
    | succ j =>
      cases j with
      | zero => exact Or.inr ⟨hj, by omega, fun q => by omega⟩
      | succ j =>
        cases j with
        | zero => exact Or.inr ⟨hj, by omega, fun q => by omega⟩
        | succ j =>
          cases j with
          | zero => exact Or.inr ⟨hj, by omega, fun q => by omega⟩
          | succ j =>
            cases j with
            | zero => exact absurd (Option.some.inj hj).symm hw
            | succ j =>
              cases j with
              | zero => exact Or.inl ⟨rfl, (Option.some.inj hj).symm⟩
              | succ j =>
                exact Or.inr ⟨hj, by omega, fun q => by omega⟩
theorem z_astore_6 {x0 x1 x2 x3 x4 x5 : Value} {y : Value} {t : List Value} {x : Nat} (hd : decode M.2.1 pc = .ok (.astore 6, 2)) (hn : 6 < M.2.2.1) (hc : x5.category = 1) (k : zW l M N S (pc + 2) (x0 :: x1 :: x2 :: x3 :: x4 :: x5 :: .ref x :: t) st h Q) : zW l M N S pc (x0 :: x1 :: x2 :: x3 :: x4 :: x5 :: y :: t) (.ref x :: st) h Q := by
  intro p e s m args below meth c E n0 z0 H locs cells slots ls R Z C A hl hR K
  refine lv_astore C.1 C.2.1 hd (zlv_has hl) hn rfl (fun ls2 hl2 => ?_)
  refine k p e s m args below meth c E n0 z0 H locs cells slots ls2 R Z C A (zlv_store1 (v := .ref x) hl2 ?_) hR K
  intro j w hj hw
  cases j with
  | zero => exact Or.inr ⟨hj, by omega, fun q => by omega⟩
  | succ j =>
    cases j with
    | zero => exact Or.inr ⟨hj, by omega, fun q => by omega⟩
    | succ j =>
      cases j with
      | zero => exact Or.inr ⟨hj, by omega, fun q => by omega⟩
      | succ j =>
        cases j with
        | zero => exact Or.inr ⟨hj, by omega, fun q => by omega⟩
        | succ j =>
          cases j with
          | zero => exact Or.inr ⟨hj, by omega, fun q => by omega⟩
          | succ j =>
            cases j with
            | zero => exact Or.inr ⟨hj, by omega, fun _ => (Option.some.inj hj) ▸ hc⟩
            | succ j =>
              cases j with
              | zero => exact Or.inl ⟨rfl, (Option.some.inj hj).symm⟩
              | succ j =>
                exact Or.inr ⟨hj, by omega, fun q => by omega⟩
theorem z_astoreK_6 {x0 x1 x2 x3 x4 x5 : Value} {y : Value} {t : List Value} {x : Nat} (hd : decode M.2.1 pc = .ok (.astore 6, 2)) (hn : 6 < M.2.2.1) (k : zW l M N S (pc + 2) (x0 :: x1 :: x2 :: x3 :: x4 :: zno :: .ref x :: t) st h Q) : zW l M N S pc (x0 :: x1 :: x2 :: x3 :: x4 :: x5 :: y :: t) (.ref x :: st) h Q := by
  intro p e s m args below meth c E n0 z0 H locs cells slots ls R Z C A hl hR K
  refine lv_astore C.1 C.2.1 hd (zlv_has hl) hn rfl (fun ls2 hl2 => ?_)
  refine k p e s m args below meth c E n0 z0 H locs cells slots ls2 R Z C A (zlv_store1 (v := .ref x) hl2 ?_) hR K
  intro j w hj hw
  cases j with
  | zero => exact Or.inr ⟨hj, by omega, fun q => by omega⟩
  | succ j =>
    cases j with
    | zero => exact Or.inr ⟨hj, by omega, fun q => by omega⟩
    | succ j =>
      cases j with
      | zero => exact Or.inr ⟨hj, by omega, fun q => by omega⟩
      | succ j =>
        cases j with
        | zero => exact Or.inr ⟨hj, by omega, fun q => by omega⟩
        | succ j =>
          cases j with
          | zero => exact Or.inr ⟨hj, by omega, fun q => by omega⟩
          | succ j =>
            cases j with
            | zero => exact absurd (Option.some.inj hj).symm hw
            | succ j =>
              cases j with
              | zero => exact Or.inl ⟨rfl, (Option.some.inj hj).symm⟩
              | succ j =>
                exact Or.inr ⟨hj, by omega, fun q => by omega⟩
theorem z_lstore_6 {x0 x1 x2 x3 x4 x5 : Value} {y y2 : Value} {t : List Value} {x : Int64} (hd : decode M.2.1 pc = .ok (.lstore 6, 2)) (hn : 7 < M.2.2.1) (hc : x5.category = 1) (k : zW l M N S (pc + 2) (x0 :: x1 :: x2 :: x3 :: x4 :: x5 :: .long x :: zno :: t) st h Q) : zW l M N S pc (x0 :: x1 :: x2 :: x3 :: x4 :: x5 :: y :: y2 :: t) (.long x :: st) h Q := by
  intro p e s m args below meth c E n0 z0 H locs cells slots ls R Z C A hl hR K
  refine lv_lstore C.1 C.2.1 hd (zlv_has hl) hn rfl (fun ls2 hl2 => ?_)
  refine k p e s m args below meth c E n0 z0 H locs cells slots ls2 R Z C A (zlv_store2 (v := .long x) hl2 ?_) hR K
  intro j w hj hw
  cases j with
  | zero => exact Or.inr ⟨hj, by omega, by omega, fun q => by omega⟩
  | succ j =>
    cases j with
    | zero => exact Or.inr ⟨hj, by omega, by omega, fun q => by omega⟩
    | succ j =>
      cases j with
      | zero => exact Or.inr ⟨hj, by omega, by omega, fun q => by omega⟩
      | succ j =>
        cases j with
        | zero => exact Or.inr ⟨hj, by omega, by omega, fun q => by omega⟩
        | succ j =>
          cases j with
          | zero => exact Or.inr ⟨hj, by omega, by omega, fun q => by omega⟩
          | succ j =>
            cases j with
            | zero => exact Or.inr ⟨hj, by omega, by omega, fun _ => (Option.some.inj hj) ▸ hc⟩
            | succ j =>
              cases j with
              | zero => exact Or.inl ⟨rfl, (Option.some.inj hj).symm⟩
              | succ j =>
                cases j with
                | zero => exact absurd (Option.some.inj hj).symm hw
                | succ j => exact Or.inr ⟨hj, by omega, by omega, fun q => by omega⟩
theorem z_lstoreK_6 {x0 x1 x2 x3 x4 x5 : Value} {y y2 : Value} {t : List Value} {x : Int64} (hd : decode M.2.1 pc = .ok (.lstore 6, 2)) (hn : 7 < M.2.2.1) (k : zW l M N S (pc + 2) (x0 :: x1 :: x2 :: x3 :: x4 :: zno :: .long x :: zno :: t) st h Q) : zW l M N S pc (x0 :: x1 :: x2 :: x3 :: x4 :: x5 :: y :: y2 :: t) (.long x :: st) h Q := by
  intro p e s m args below meth c E n0 z0 H locs cells slots ls R Z C A hl hR K
  refine lv_lstore C.1 C.2.1 hd (zlv_has hl) hn rfl (fun ls2 hl2 => ?_)
  refine k p e s m args below meth c E n0 z0 H locs cells slots ls2 R Z C A (zlv_store2 (v := .long x) hl2 ?_) hR K
  intro j w hj hw
  cases j with
  | zero => exact Or.inr ⟨hj, by omega, by omega, fun q => by omega⟩
  | succ j =>
    cases j with
    | zero => exact Or.inr ⟨hj, by omega, by omega, fun q => by omega⟩
    | succ j =>
      cases j with
      | zero => exact Or.inr ⟨hj, by omega, by omega, fun q => by omega⟩
      | succ j =>
        cases j with
        | zero => exact Or.inr ⟨hj, by omega, by omega, fun q => by omega⟩
        | succ j =>
          cases j with
          | zero => exact Or.inr ⟨hj, by omega, by omega, fun q => by omega⟩
          | succ j =>
            cases j with
            | zero => exact absurd (Option.some.inj hj).symm hw
            | succ j =>
              cases j with
              | zero => exact Or.inl ⟨rfl, (Option.some.inj hj).symm⟩
              | succ j =>
                cases j with
                | zero => exact absurd (Option.some.inj hj).symm hw
                | succ j => exact Or.inr ⟨hj, by omega, by omega, fun q => by omega⟩
theorem z_iinc_6 {x0 x1 x2 x3 x4 x5 : Value} {t : List Value} {x : Int32} {n : Int} (v : Int32) (hd : decode M.2.1 pc = .ok (.iinc 6 n, 3)) (hv : Int32.ofInt n = v) (hn : 6 < M.2.2.1) (hc : x5.category = 1) (k : zW l M N S (pc + 3) (x0 :: x1 :: x2 :: x3 :: x4 :: x5 :: .int (x + v) :: t) st h Q) : zW l M N S pc (x0 :: x1 :: x2 :: x3 :: x4 :: x5 :: .int x :: t) st h Q := by
  subst hv
  intro p e s m args below meth c E n0 z0 H locs cells slots ls R Z C A hl hR K
  obtain ⟨k0, hk0⟩ := List.getElem?_of_mem (zll_mem.mpr ⟨.int x, (rfl : (x0 :: x1 :: x2 :: x3 :: x4 :: x5 :: .int x :: t)[6]? = _), (fun q => Value.noConfusion q), rfl⟩ : (6, ze E (.int x)) ∈ zll E (x0 :: x1 :: x2 :: x3 :: x4 :: x5 :: .int x :: t))
  refine lv_iinc C.1 C.2.1 hd (zlv_has hl) hk0 rfl hn rfl (fun ls2 hl2 => ?_)
  refine k p e s m args below meth c E n0 z0 H locs cells slots ls2 R Z C A (zlv_store1 (v := .int (x + Int32.ofInt n)) hl2 ?_) hR K
  intro j w hj hw
  cases j with
  | zero => exact Or.inr ⟨hj, by omega, fun q => by omega⟩
  | succ j =>
    cases j with
    | zero => exact Or.inr ⟨hj, by omega, fun q => by omega⟩
    | succ j =>
      cases j with
      | zero => exact Or.inr ⟨hj, by omega, fun q => by omega⟩
      | succ j =>
        cases j with
        | zero => exact Or.inr ⟨hj, by omega, fun q => by omega⟩
        | succ j =>
          cases j with
          | zero => exact Or.inr ⟨hj, by omega, fun q => by omega⟩
          | succ j =>
            cases j with
            | zero => exact Or.inr ⟨hj, by omega, fun _ => (Option.some.inj hj) ▸ hc⟩
            | succ j =>
              cases j with
              | zero => exact Or.inl ⟨rfl, (Option.some.inj hj).symm⟩
              | succ j => exact Or.inr ⟨hj, by omega, fun q => by omega⟩
theorem z_iload_7 {x0 x1 x2 x3 x4 x5 x6 : Value} {t : List Value} {x : Int32} (hd : decode M.2.1 pc = .ok (.iload 7, 2)) (k : zW l M N S (pc + 2) (x0 :: x1 :: x2 :: x3 :: x4 :: x5 :: x6 :: .int x :: t) (.int x :: st) h Q) : zW l M N S pc (x0 :: x1 :: x2 :: x3 :: x4 :: x5 :: x6 :: .int x :: t) st h Q := by
  intro p e s m args below meth c E n0 z0 H locs cells slots ls R Z C A hl hR K
  exact lv_iload C.1 C.2.1 hd (hl.2.2 7 (.int x) rfl (fun q => Value.noConfusion q)) (k p e s m args below meth c E n0 z0 H locs cells slots ls R Z C A hl hR K)
theorem z_lload_7 {x0 x1 x2 x3 x4 x5 x6 : Value} {t : List Value} {x : Int64} (hd : decode M.2.1 pc = .ok (.lload 7, 2)) (k : zW l M N S (pc + 2) (x0 :: x1 :: x2 :: x3 :: x4 :: x5 :: x6 :: .long x :: t) (.long x :: st) h Q) : zW l M N S pc (x0 :: x1 :: x2 :: x3 :: x4 :: x5 :: x6 :: .long x :: t) st h Q := by
  intro p e s m args below meth c E n0 z0 H locs cells slots ls R Z C A hl hR K
  exact lv_lload C.1 C.2.1 hd (hl.2.2 7 (.long x) rfl (fun q => Value.noConfusion q)) (k p e s m args below meth c E n0 z0 H locs cells slots ls R Z C A hl hR K)
theorem z_aload_7 {x0 x1 x2 x3 x4 x5 x6 : Value} {t : List Value} {x : Nat} (hd : decode M.2.1 pc = .ok (.aload 7, 2)) (k : zW l M N S (pc + 2) (x0 :: x1 :: x2 :: x3 :: x4 :: x5 :: x6 :: .ref x :: t) (.ref x :: st) h Q) : zW l M N S pc (x0 :: x1 :: x2 :: x3 :: x4 :: x5 :: x6 :: .ref x :: t) st h Q := by
  intro p e s m args below meth c E n0 z0 H locs cells slots ls R Z C A hl hR K
  exact lv_aload C.1 C.2.1 hd (hl.2.2 7 (.ref x) rfl (fun q => Value.noConfusion q)) (k p e s m args below meth c E n0 z0 H locs cells slots ls R Z C A hl hR K)
theorem z_istore_7 {x0 x1 x2 x3 x4 x5 x6 : Value} {y : Value} {t : List Value} {x : Int32} (hd : decode M.2.1 pc = .ok (.istore 7, 2)) (hn : 7 < M.2.2.1) (hc : x6.category = 1) (k : zW l M N S (pc + 2) (x0 :: x1 :: x2 :: x3 :: x4 :: x5 :: x6 :: .int x :: t) st h Q) : zW l M N S pc (x0 :: x1 :: x2 :: x3 :: x4 :: x5 :: x6 :: y :: t) (.int x :: st) h Q := by
  intro p e s m args below meth c E n0 z0 H locs cells slots ls R Z C A hl hR K
  refine lv_istore C.1 C.2.1 hd (zlv_has hl) hn rfl (fun ls2 hl2 => ?_)
  refine k p e s m args below meth c E n0 z0 H locs cells slots ls2 R Z C A (zlv_store1 (v := .int x) hl2 ?_) hR K
  intro j w hj hw
  cases j with
  | zero => exact Or.inr ⟨hj, by omega, fun q => by omega⟩
  | succ j =>
    cases j with
    | zero => exact Or.inr ⟨hj, by omega, fun q => by omega⟩
    | succ j =>
      cases j with
      | zero => exact Or.inr ⟨hj, by omega, fun q => by omega⟩
      | succ j =>
        cases j with
        | zero => exact Or.inr ⟨hj, by omega, fun q => by omega⟩
        | succ j =>
          cases j with
          | zero => exact Or.inr ⟨hj, by omega, fun q => by omega⟩
          | succ j =>
            cases j with
            | zero => exact Or.inr ⟨hj, by omega, fun q => by omega⟩
            | succ j =>
              cases j with
              | zero => exact Or.inr ⟨hj, by omega, fun _ => (Option.some.inj hj) ▸ hc⟩
              | succ j =>
                cases j with
                | zero => exact Or.inl ⟨rfl, (Option.some.inj hj).symm⟩
                | succ j =>
                  exact Or.inr ⟨hj, by omega, fun q => by omega⟩
theorem z_istoreK_7 {x0 x1 x2 x3 x4 x5 x6 : Value} {y : Value} {t : List Value} {x : Int32} (hd : decode M.2.1 pc = .ok (.istore 7, 2)) (hn : 7 < M.2.2.1) (k : zW l M N S (pc + 2) (x0 :: x1 :: x2 :: x3 :: x4 :: x5 :: zno :: .int x :: t) st h Q) : zW l M N S pc (x0 :: x1 :: x2 :: x3 :: x4 :: x5 :: x6 :: y :: t) (.int x :: st) h Q := by
  intro p e s m args below meth c E n0 z0 H locs cells slots ls R Z C A hl hR K
  refine lv_istore C.1 C.2.1 hd (zlv_has hl) hn rfl (fun ls2 hl2 => ?_)
  refine k p e s m args below meth c E n0 z0 H locs cells slots ls2 R Z C A (zlv_store1 (v := .int x) hl2 ?_) hR K
  intro j w hj hw
  cases j with
  | zero => exact Or.inr ⟨hj, by omega, fun q => by omega⟩
  | succ j =>
    cases j with
    | zero => exact Or.inr ⟨hj, by omega, fun q => by omega⟩
    | succ j =>
      cases j with
      | zero => exact Or.inr ⟨hj, by omega, fun q => by omega⟩
      | succ j =>
        cases j with
        | zero => exact Or.inr ⟨hj, by omega, fun q => by omega⟩
        | succ j =>
          cases j with
          | zero => exact Or.inr ⟨hj, by omega, fun q => by omega⟩
          | succ j =>
            cases j with
            | zero => exact Or.inr ⟨hj, by omega, fun q => by omega⟩
            | succ j =>
              cases j with
              | zero => exact absurd (Option.some.inj hj).symm hw
              | succ j =>
                cases j with
                | zero => exact Or.inl ⟨rfl, (Option.some.inj hj).symm⟩
                | succ j =>
                  exact Or.inr ⟨hj, by omega, fun q => by omega⟩
theorem z_astore_7 {x0 x1 x2 x3 x4 x5 x6 : Value} {y : Value} {t : List Value} {x : Nat} (hd : decode M.2.1 pc = .ok (.astore 7, 2)) (hn : 7 < M.2.2.1) (hc : x6.category = 1) (k : zW l M N S (pc + 2) (x0 :: x1 :: x2 :: x3 :: x4 :: x5 :: x6 :: .ref x :: t) st h Q) : zW l M N S pc (x0 :: x1 :: x2 :: x3 :: x4 :: x5 :: x6 :: y :: t) (.ref x :: st) h Q := by
  intro p e s m args below meth c E n0 z0 H locs cells slots ls R Z C A hl hR K
  refine lv_astore C.1 C.2.1 hd (zlv_has hl) hn rfl (fun ls2 hl2 => ?_)
  refine k p e s m args below meth c E n0 z0 H locs cells slots ls2 R Z C A (zlv_store1 (v := .ref x) hl2 ?_) hR K
  intro j w hj hw
  cases j with
  | zero => exact Or.inr ⟨hj, by omega, fun q => by omega⟩
  | succ j =>
    cases j with
    | zero => exact Or.inr ⟨hj, by omega, fun q => by omega⟩
    | succ j =>
      cases j with
      | zero => exact Or.inr ⟨hj, by omega, fun q => by omega⟩
      | succ j =>
        cases j with
        | zero => exact Or.inr ⟨hj, by omega, fun q => by omega⟩
        | succ j =>
          cases j with
          | zero => exact Or.inr ⟨hj, by omega, fun q => by omega⟩
          | succ j =>
            cases j with
            | zero => exact Or.inr ⟨hj, by omega, fun q => by omega⟩
            | succ j =>
              cases j with
              | zero => exact Or.inr ⟨hj, by omega, fun _ => (Option.some.inj hj) ▸ hc⟩
              | succ j =>
                cases j with
                | zero => exact Or.inl ⟨rfl, (Option.some.inj hj).symm⟩
                | succ j =>
                  exact Or.inr ⟨hj, by omega, fun q => by omega⟩
theorem z_astoreK_7 {x0 x1 x2 x3 x4 x5 x6 : Value} {y : Value} {t : List Value} {x : Nat} (hd : decode M.2.1 pc = .ok (.astore 7, 2)) (hn : 7 < M.2.2.1) (k : zW l M N S (pc + 2) (x0 :: x1 :: x2 :: x3 :: x4 :: x5 :: zno :: .ref x :: t) st h Q) : zW l M N S pc (x0 :: x1 :: x2 :: x3 :: x4 :: x5 :: x6 :: y :: t) (.ref x :: st) h Q := by
  intro p e s m args below meth c E n0 z0 H locs cells slots ls R Z C A hl hR K
  refine lv_astore C.1 C.2.1 hd (zlv_has hl) hn rfl (fun ls2 hl2 => ?_)
  refine k p e s m args below meth c E n0 z0 H locs cells slots ls2 R Z C A (zlv_store1 (v := .ref x) hl2 ?_) hR K
  intro j w hj hw
  cases j with
  | zero => exact Or.inr ⟨hj, by omega, fun q => by omega⟩
  | succ j =>
    cases j with
    | zero => exact Or.inr ⟨hj, by omega, fun q => by omega⟩
    | succ j =>
      cases j with
      | zero => exact Or.inr ⟨hj, by omega, fun q => by omega⟩
      | succ j =>
        cases j with
        | zero => exact Or.inr ⟨hj, by omega, fun q => by omega⟩
        | succ j =>
          cases j with
          | zero => exact Or.inr ⟨hj, by omega, fun q => by omega⟩
          | succ j =>
            cases j with
            | zero => exact Or.inr ⟨hj, by omega, fun q => by omega⟩
            | succ j =>
              cases j with
              | zero => exact absurd (Option.some.inj hj).symm hw
              | succ j =>
                cases j with
                | zero => exact Or.inl ⟨rfl, (Option.some.inj hj).symm⟩
                | succ j =>
                  exact Or.inr ⟨hj, by omega, fun q => by omega⟩
theorem z_lstore_7 {x0 x1 x2 x3 x4 x5 x6 : Value} {y y2 : Value} {t : List Value} {x : Int64} (hd : decode M.2.1 pc = .ok (.lstore 7, 2)) (hn : 8 < M.2.2.1) (hc : x6.category = 1) (k : zW l M N S (pc + 2) (x0 :: x1 :: x2 :: x3 :: x4 :: x5 :: x6 :: .long x :: zno :: t) st h Q) : zW l M N S pc (x0 :: x1 :: x2 :: x3 :: x4 :: x5 :: x6 :: y :: y2 :: t) (.long x :: st) h Q := by
  intro p e s m args below meth c E n0 z0 H locs cells slots ls R Z C A hl hR K
  refine lv_lstore C.1 C.2.1 hd (zlv_has hl) hn rfl (fun ls2 hl2 => ?_)
  refine k p e s m args below meth c E n0 z0 H locs cells slots ls2 R Z C A (zlv_store2 (v := .long x) hl2 ?_) hR K
  intro j w hj hw
  cases j with
  | zero => exact Or.inr ⟨hj, by omega, by omega, fun q => by omega⟩
  | succ j =>
    cases j with
    | zero => exact Or.inr ⟨hj, by omega, by omega, fun q => by omega⟩
    | succ j =>
      cases j with
      | zero => exact Or.inr ⟨hj, by omega, by omega, fun q => by omega⟩
      | succ j =>
        cases j with
        | zero => exact Or.inr ⟨hj, by omega, by omega, fun q => by omega⟩
        | succ j =>
          cases j with
          | zero => exact Or.inr ⟨hj, by omega, by omega, fun q => by omega⟩
          | succ j =>
            cases j with
            | zero => exact Or.inr ⟨hj, by omega, by omega, fun q => by omega⟩
            | succ j =>
              cases j with
              | zero => exact Or.inr ⟨hj, by omega, by omega, fun _ => (Option.some.inj hj) ▸ hc⟩
              | succ j =>
                cases j with
                | zero => exact Or.inl ⟨rfl, (Option.some.inj hj).symm⟩
                | succ j =>
                  cases j with
                  | zero => exact absurd (Option.some.inj hj).symm hw
                  | succ j => exact Or.inr ⟨hj, by omega, by omega, fun q => by omega⟩
theorem z_lstoreK_7 {x0 x1 x2 x3 x4 x5 x6 : Value} {y y2 : Value} {t : List Value} {x : Int64} (hd : decode M.2.1 pc = .ok (.lstore 7, 2)) (hn : 8 < M.2.2.1) (k : zW l M N S (pc + 2) (x0 :: x1 :: x2 :: x3 :: x4 :: x5 :: zno :: .long x :: zno :: t) st h Q) : zW l M N S pc (x0 :: x1 :: x2 :: x3 :: x4 :: x5 :: x6 :: y :: y2 :: t) (.long x :: st) h Q := by
  intro p e s m args below meth c E n0 z0 H locs cells slots ls R Z C A hl hR K
  refine lv_lstore C.1 C.2.1 hd (zlv_has hl) hn rfl (fun ls2 hl2 => ?_)
  refine k p e s m args below meth c E n0 z0 H locs cells slots ls2 R Z C A (zlv_store2 (v := .long x) hl2 ?_) hR K
  intro j w hj hw
  cases j with
  | zero => exact Or.inr ⟨hj, by omega, by omega, fun q => by omega⟩
  | succ j =>
    cases j with
    | zero => exact Or.inr ⟨hj, by omega, by omega, fun q => by omega⟩
    | succ j =>
      cases j with
      | zero => exact Or.inr ⟨hj, by omega, by omega, fun q => by omega⟩
      | succ j =>
        cases j with
        | zero => exact Or.inr ⟨hj, by omega, by omega, fun q => by omega⟩
        | succ j =>
          cases j with
          | zero => exact Or.inr ⟨hj, by omega, by omega, fun q => by omega⟩
          | succ j =>
            cases j with
            | zero => exact Or.inr ⟨hj, by omega, by omega, fun q => by omega⟩
            | succ j =>
              cases j with
              | zero => exact absurd (Option.some.inj hj).symm hw
              | succ j =>
                cases j with
                | zero => exact Or.inl ⟨rfl, (Option.some.inj hj).symm⟩
                | succ j =>
                  cases j with
                  | zero => exact absurd (Option.some.inj hj).symm hw
                  | succ j => exact Or.inr ⟨hj, by omega, by omega, fun q => by omega⟩
theorem z_iinc_7 {x0 x1 x2 x3 x4 x5 x6 : Value} {t : List Value} {x : Int32} {n : Int} (v : Int32) (hd : decode M.2.1 pc = .ok (.iinc 7 n, 3)) (hv : Int32.ofInt n = v) (hn : 7 < M.2.2.1) (hc : x6.category = 1) (k : zW l M N S (pc + 3) (x0 :: x1 :: x2 :: x3 :: x4 :: x5 :: x6 :: .int (x + v) :: t) st h Q) : zW l M N S pc (x0 :: x1 :: x2 :: x3 :: x4 :: x5 :: x6 :: .int x :: t) st h Q := by
  subst hv
  intro p e s m args below meth c E n0 z0 H locs cells slots ls R Z C A hl hR K
  obtain ⟨k0, hk0⟩ := List.getElem?_of_mem (zll_mem.mpr ⟨.int x, (rfl : (x0 :: x1 :: x2 :: x3 :: x4 :: x5 :: x6 :: .int x :: t)[7]? = _), (fun q => Value.noConfusion q), rfl⟩ : (7, ze E (.int x)) ∈ zll E (x0 :: x1 :: x2 :: x3 :: x4 :: x5 :: x6 :: .int x :: t))
  refine lv_iinc C.1 C.2.1 hd (zlv_has hl) hk0 rfl hn rfl (fun ls2 hl2 => ?_)
  refine k p e s m args below meth c E n0 z0 H locs cells slots ls2 R Z C A (zlv_store1 (v := .int (x + Int32.ofInt n)) hl2 ?_) hR K
  intro j w hj hw
  cases j with
  | zero => exact Or.inr ⟨hj, by omega, fun q => by omega⟩
  | succ j =>
    cases j with
    | zero => exact Or.inr ⟨hj, by omega, fun q => by omega⟩
    | succ j =>
      cases j with
      | zero => exact Or.inr ⟨hj, by omega, fun q => by omega⟩
      | succ j =>
        cases j with
        | zero => exact Or.inr ⟨hj, by omega, fun q => by omega⟩
        | succ j =>
          cases j with
          | zero => exact Or.inr ⟨hj, by omega, fun q => by omega⟩
          | succ j =>
            cases j with
            | zero => exact Or.inr ⟨hj, by omega, fun q => by omega⟩
            | succ j =>
              cases j with
              | zero => exact Or.inr ⟨hj, by omega, fun _ => (Option.some.inj hj) ▸ hc⟩
              | succ j =>
                cases j with
                | zero => exact Or.inl ⟨rfl, (Option.some.inj hj).symm⟩
                | succ j => exact Or.inr ⟨hj, by omega, fun q => by omega⟩
theorem z_iload_8 {x0 x1 x2 x3 x4 x5 x6 x7 : Value} {t : List Value} {x : Int32} (hd : decode M.2.1 pc = .ok (.iload 8, 2)) (k : zW l M N S (pc + 2) (x0 :: x1 :: x2 :: x3 :: x4 :: x5 :: x6 :: x7 :: .int x :: t) (.int x :: st) h Q) : zW l M N S pc (x0 :: x1 :: x2 :: x3 :: x4 :: x5 :: x6 :: x7 :: .int x :: t) st h Q := by
  intro p e s m args below meth c E n0 z0 H locs cells slots ls R Z C A hl hR K
  exact lv_iload C.1 C.2.1 hd (hl.2.2 8 (.int x) rfl (fun q => Value.noConfusion q)) (k p e s m args below meth c E n0 z0 H locs cells slots ls R Z C A hl hR K)
theorem z_lload_8 {x0 x1 x2 x3 x4 x5 x6 x7 : Value} {t : List Value} {x : Int64} (hd : decode M.2.1 pc = .ok (.lload 8, 2)) (k : zW l M N S (pc + 2) (x0 :: x1 :: x2 :: x3 :: x4 :: x5 :: x6 :: x7 :: .long x :: t) (.long x :: st) h Q) : zW l M N S pc (x0 :: x1 :: x2 :: x3 :: x4 :: x5 :: x6 :: x7 :: .long x :: t) st h Q := by
  intro p e s m args below meth c E n0 z0 H locs cells slots ls R Z C A hl hR K
  exact lv_lload C.1 C.2.1 hd (hl.2.2 8 (.long x) rfl (fun q => Value.noConfusion q)) (k p e s m args below meth c E n0 z0 H locs cells slots ls R Z C A hl hR K)
theorem z_aload_8 {x0 x1 x2 x3 x4 x5 x6 x7 : Value} {t : List Value} {x : Nat} (hd : decode M.2.1 pc = .ok (.aload 8, 2)) (k : zW l M N S (pc + 2) (x0 :: x1 :: x2 :: x3 :: x4 :: x5 :: x6 :: x7 :: .ref x :: t) (.ref x :: st) h Q) : zW l M N S pc (x0 :: x1 :: x2 :: x3 :: x4 :: x5 :: x6 :: x7 :: .ref x :: t) st h Q := by
  intro p e s m args below meth c E n0 z0 H locs cells slots ls R Z C A hl hR K
  exact lv_aload C.1 C.2.1 hd (hl.2.2 8 (.ref x) rfl (fun q => Value.noConfusion q)) (k p e s m args below meth c E n0 z0 H locs cells slots ls R Z C A hl hR K)
theorem z_istore_8 {x0 x1 x2 x3 x4 x5 x6 x7 : Value} {y : Value} {t : List Value} {x : Int32} (hd : decode M.2.1 pc = .ok (.istore 8, 2)) (hn : 8 < M.2.2.1) (hc : x7.category = 1) (k : zW l M N S (pc + 2) (x0 :: x1 :: x2 :: x3 :: x4 :: x5 :: x6 :: x7 :: .int x :: t) st h Q) : zW l M N S pc (x0 :: x1 :: x2 :: x3 :: x4 :: x5 :: x6 :: x7 :: y :: t) (.int x :: st) h Q := by
  intro p e s m args below meth c E n0 z0 H locs cells slots ls R Z C A hl hR K
  refine lv_istore C.1 C.2.1 hd (zlv_has hl) hn rfl (fun ls2 hl2 => ?_)
  refine k p e s m args below meth c E n0 z0 H locs cells slots ls2 R Z C A (zlv_store1 (v := .int x) hl2 ?_) hR K
  intro j w hj hw
  cases j with
  | zero => exact Or.inr ⟨hj, by omega, fun q => by omega⟩
  | succ j =>
    cases j with
    | zero => exact Or.inr ⟨hj, by omega, fun q => by omega⟩
    | succ j =>
      cases j with
      | zero => exact Or.inr ⟨hj, by omega, fun q => by omega⟩
      | succ j =>
        cases j with
        | zero => exact Or.inr ⟨hj, by omega, fun q => by omega⟩
        | succ j =>
          cases j with
          | zero => exact Or.inr ⟨hj, by omega, fun q => by omega⟩
          | succ j =>
            cases j with
            | zero => exact Or.inr ⟨hj, by omega, fun q => by omega⟩
            | succ j =>
              cases j with
              | zero => exact Or.inr ⟨hj, by omega, fun q => by omega⟩
              | succ j =>
                cases j with
                | zero => exact Or.inr ⟨hj, by omega, fun _ => (Option.some.inj hj) ▸ hc⟩
                | succ j =>
                  cases j with
                  | zero => exact Or.inl ⟨rfl, (Option.some.inj hj).symm⟩
                  | succ j =>
                    exact Or.inr ⟨hj, by omega, fun q => by omega⟩
theorem z_istoreK_8 {x0 x1 x2 x3 x4 x5 x6 x7 : Value} {y : Value} {t : List Value} {x : Int32} (hd : decode M.2.1 pc = .ok (.istore 8, 2)) (hn : 8 < M.2.2.1) (k : zW l M N S (pc + 2) (x0 :: x1 :: x2 :: x3 :: x4 :: x5 :: x6 :: zno :: .int x :: t) st h Q) : zW l M N S pc (x0 :: x1 :: x2 :: x3 :: x4 :: x5 :: x6 :: x7 :: y :: t) (.int x :: st) h Q := by
  intro p e s m args below meth c E n0 z0 H locs cells slots ls R Z C A hl hR K
  refine lv_istore C.1 C.2.1 hd (zlv_has hl) hn rfl (fun ls2 hl2 => ?_)
  refine k p e s m args below meth c E n0 z0 H locs cells slots ls2 R Z C A (zlv_store1 (v := .int x) hl2 ?_) hR K
  intro j w hj hw
  cases j with
  | zero => exact Or.inr ⟨hj, by omega, fun q => by omega⟩
  | succ j =>
    cases j with
    | zero => exact Or.inr ⟨hj, by omega, fun q => by omega⟩
    | succ j =>
      cases j with
      | zero => exact Or.inr ⟨hj, by omega, fun q => by omega⟩
      | succ j =>
        cases j with
        | zero => exact Or.inr ⟨hj, by omega, fun q => by omega⟩
        | succ j =>
          cases j with
          | zero => exact Or.inr ⟨hj, by omega, fun q => by omega⟩
          | succ j =>
            cases j with
            | zero => exact Or.inr ⟨hj, by omega, fun q => by omega⟩
            | succ j =>
              cases j with
              | zero => exact Or.inr ⟨hj, by omega, fun q => by omega⟩
              | succ j =>
                cases j with
                | zero => exact absurd (Option.some.inj hj).symm hw
                | succ j =>
                  cases j with
                  | zero => exact Or.inl ⟨rfl, (Option.some.inj hj).symm⟩
                  | succ j =>
                    exact Or.inr ⟨hj, by omega, fun q => by omega⟩
theorem z_astore_8 {x0 x1 x2 x3 x4 x5 x6 x7 : Value} {y : Value} {t : List Value} {x : Nat} (hd : decode M.2.1 pc = .ok (.astore 8, 2)) (hn : 8 < M.2.2.1) (hc : x7.category = 1) (k : zW l M N S (pc + 2) (x0 :: x1 :: x2 :: x3 :: x4 :: x5 :: x6 :: x7 :: .ref x :: t) st h Q) : zW l M N S pc (x0 :: x1 :: x2 :: x3 :: x4 :: x5 :: x6 :: x7 :: y :: t) (.ref x :: st) h Q := by
  intro p e s m args below meth c E n0 z0 H locs cells slots ls R Z C A hl hR K
  refine lv_astore C.1 C.2.1 hd (zlv_has hl) hn rfl (fun ls2 hl2 => ?_)
  refine k p e s m args below meth c E n0 z0 H locs cells slots ls2 R Z C A (zlv_store1 (v := .ref x) hl2 ?_) hR K
  intro j w hj hw
  cases j with
  | zero => exact Or.inr ⟨hj, by omega, fun q => by omega⟩
  | succ j =>
    cases j with
    | zero => exact Or.inr ⟨hj, by omega, fun q => by omega⟩
    | succ j =>
      cases j with
      | zero => exact Or.inr ⟨hj, by omega, fun q => by omega⟩
      | succ j =>
        cases j with
        | zero => exact Or.inr ⟨hj, by omega, fun q => by omega⟩
        | succ j =>
          cases j with
          | zero => exact Or.inr ⟨hj, by omega, fun q => by omega⟩
          | succ j =>
            cases j with
            | zero => exact Or.inr ⟨hj, by omega, fun q => by omega⟩
            | succ j =>
              cases j with
              | zero => exact Or.inr ⟨hj, by omega, fun q => by omega⟩
              | succ j =>
                cases j with
                | zero => exact Or.inr ⟨hj, by omega, fun _ => (Option.some.inj hj) ▸ hc⟩
                | succ j =>
                  cases j with
                  | zero => exact Or.inl ⟨rfl, (Option.some.inj hj).symm⟩
                  | succ j =>
                    exact Or.inr ⟨hj, by omega, fun q => by omega⟩
theorem z_astoreK_8 {x0 x1 x2 x3 x4 x5 x6 x7 : Value} {y : Value} {t : List Value} {x : Nat} (hd : decode M.2.1 pc = .ok (.astore 8, 2)) (hn : 8 < M.2.2.1) (k : zW l M N S (pc + 2) (x0 :: x1 :: x2 :: x3 :: x4 :: x5 :: x6 :: zno :: .ref x :: t) st h Q) : zW l M N S pc (x0 :: x1 :: x2 :: x3 :: x4 :: x5 :: x6 :: x7 :: y :: t) (.ref x :: st) h Q := by
  intro p e s m args below meth c E n0 z0 H locs cells slots ls R Z C A hl hR K
  refine lv_astore C.1 C.2.1 hd (zlv_has hl) hn rfl (fun ls2 hl2 => ?_)
  refine k p e s m args below meth c E n0 z0 H locs cells slots ls2 R Z C A (zlv_store1 (v := .ref x) hl2 ?_) hR K
  intro j w hj hw
  cases j with
  | zero => exact Or.inr ⟨hj, by omega, fun q => by omega⟩
  | succ j =>
    cases j with
    | zero => exact Or.inr ⟨hj, by omega, fun q => by omega⟩
    | succ j =>
      cases j with
      | zero => exact Or.inr ⟨hj, by omega, fun q => by omega⟩
      | succ j =>
        cases j with
        | zero => exact Or.inr ⟨hj, by omega, fun q => by omega⟩
        | succ j =>
          cases j with
          | zero => exact Or.inr ⟨hj, by omega, fun q => by omega⟩
          | succ j =>
            cases j with
            | zero => exact Or.inr ⟨hj, by omega, fun q => by omega⟩
            | succ j =>
              cases j with
              | zero => exact Or.inr ⟨hj, by omega, fun q => by omega⟩
              | succ j =>
                cases j with
                | zero => exact absurd (Option.some.inj hj).symm hw
                | succ j =>
                  cases j with
                  | zero => exact Or.inl ⟨rfl, (Option.some.inj hj).symm⟩
                  | succ j =>
                    exact Or.inr ⟨hj, by omega, fun q => by omega⟩
theorem z_lstore_8 {x0 x1 x2 x3 x4 x5 x6 x7 : Value} {y y2 : Value} {t : List Value} {x : Int64} (hd : decode M.2.1 pc = .ok (.lstore 8, 2)) (hn : 9 < M.2.2.1) (hc : x7.category = 1) (k : zW l M N S (pc + 2) (x0 :: x1 :: x2 :: x3 :: x4 :: x5 :: x6 :: x7 :: .long x :: zno :: t) st h Q) : zW l M N S pc (x0 :: x1 :: x2 :: x3 :: x4 :: x5 :: x6 :: x7 :: y :: y2 :: t) (.long x :: st) h Q := by
  intro p e s m args below meth c E n0 z0 H locs cells slots ls R Z C A hl hR K
  refine lv_lstore C.1 C.2.1 hd (zlv_has hl) hn rfl (fun ls2 hl2 => ?_)
  refine k p e s m args below meth c E n0 z0 H locs cells slots ls2 R Z C A (zlv_store2 (v := .long x) hl2 ?_) hR K
  intro j w hj hw
  cases j with
  | zero => exact Or.inr ⟨hj, by omega, by omega, fun q => by omega⟩
  | succ j =>
    cases j with
    | zero => exact Or.inr ⟨hj, by omega, by omega, fun q => by omega⟩
    | succ j =>
      cases j with
      | zero => exact Or.inr ⟨hj, by omega, by omega, fun q => by omega⟩
      | succ j =>
        cases j with
        | zero => exact Or.inr ⟨hj, by omega, by omega, fun q => by omega⟩
        | succ j =>
          cases j with
          | zero => exact Or.inr ⟨hj, by omega, by omega, fun q => by omega⟩
          | succ j =>
            cases j with
            | zero => exact Or.inr ⟨hj, by omega, by omega, fun q => by omega⟩
            | succ j =>
              cases j with
              | zero => exact Or.inr ⟨hj, by omega, by omega, fun q => by omega⟩
              | succ j =>
                cases j with
                | zero => exact Or.inr ⟨hj, by omega, by omega, fun _ => (Option.some.inj hj) ▸ hc⟩
                | succ j =>
                  cases j with
                  | zero => exact Or.inl ⟨rfl, (Option.some.inj hj).symm⟩
                  | succ j =>
                    cases j with
                    | zero => exact absurd (Option.some.inj hj).symm hw
                    | succ j => exact Or.inr ⟨hj, by omega, by omega, fun q => by omega⟩
theorem z_lstoreK_8 {x0 x1 x2 x3 x4 x5 x6 x7 : Value} {y y2 : Value} {t : List Value} {x : Int64} (hd : decode M.2.1 pc = .ok (.lstore 8, 2)) (hn : 9 < M.2.2.1) (k : zW l M N S (pc + 2) (x0 :: x1 :: x2 :: x3 :: x4 :: x5 :: x6 :: zno :: .long x :: zno :: t) st h Q) : zW l M N S pc (x0 :: x1 :: x2 :: x3 :: x4 :: x5 :: x6 :: x7 :: y :: y2 :: t) (.long x :: st) h Q := by
  intro p e s m args below meth c E n0 z0 H locs cells slots ls R Z C A hl hR K
  refine lv_lstore C.1 C.2.1 hd (zlv_has hl) hn rfl (fun ls2 hl2 => ?_)
  refine k p e s m args below meth c E n0 z0 H locs cells slots ls2 R Z C A (zlv_store2 (v := .long x) hl2 ?_) hR K
  intro j w hj hw
  cases j with
  | zero => exact Or.inr ⟨hj, by omega, by omega, fun q => by omega⟩
  | succ j =>
    cases j with
    | zero => exact Or.inr ⟨hj, by omega, by omega, fun q => by omega⟩
    | succ j =>
      cases j with
      | zero => exact Or.inr ⟨hj, by omega, by omega, fun q => by omega⟩
      | succ j =>
        cases j with
        | zero => exact Or.inr ⟨hj, by omega, by omega, fun q => by omega⟩
        | succ j =>
          cases j with
          | zero => exact Or.inr ⟨hj, by omega, by omega, fun q => by omega⟩
          | succ j =>
            cases j with
            | zero => exact Or.inr ⟨hj, by omega, by omega, fun q => by omega⟩
            | succ j =>
              cases j with
              | zero => exact Or.inr ⟨hj, by omega, by omega, fun q => by omega⟩
              | succ j =>
                cases j with
                | zero => exact absurd (Option.some.inj hj).symm hw
                | succ j =>
                  cases j with
                  | zero => exact Or.inl ⟨rfl, (Option.some.inj hj).symm⟩
                  | succ j =>
                    cases j with
                    | zero => exact absurd (Option.some.inj hj).symm hw
                    | succ j => exact Or.inr ⟨hj, by omega, by omega, fun q => by omega⟩
theorem z_iinc_8 {x0 x1 x2 x3 x4 x5 x6 x7 : Value} {t : List Value} {x : Int32} {n : Int} (v : Int32) (hd : decode M.2.1 pc = .ok (.iinc 8 n, 3)) (hv : Int32.ofInt n = v) (hn : 8 < M.2.2.1) (hc : x7.category = 1) (k : zW l M N S (pc + 3) (x0 :: x1 :: x2 :: x3 :: x4 :: x5 :: x6 :: x7 :: .int (x + v) :: t) st h Q) : zW l M N S pc (x0 :: x1 :: x2 :: x3 :: x4 :: x5 :: x6 :: x7 :: .int x :: t) st h Q := by
  subst hv
  intro p e s m args below meth c E n0 z0 H locs cells slots ls R Z C A hl hR K
  obtain ⟨k0, hk0⟩ := List.getElem?_of_mem (zll_mem.mpr ⟨.int x, (rfl : (x0 :: x1 :: x2 :: x3 :: x4 :: x5 :: x6 :: x7 :: .int x :: t)[8]? = _), (fun q => Value.noConfusion q), rfl⟩ : (8, ze E (.int x)) ∈ zll E (x0 :: x1 :: x2 :: x3 :: x4 :: x5 :: x6 :: x7 :: .int x :: t))
  refine lv_iinc C.1 C.2.1 hd (zlv_has hl) hk0 rfl hn rfl (fun ls2 hl2 => ?_)
  refine k p e s m args below meth c E n0 z0 H locs cells slots ls2 R Z C A (zlv_store1 (v := .int (x + Int32.ofInt n)) hl2 ?_) hR K
  intro j w hj hw
  cases j with
  | zero => exact Or.inr ⟨hj, by omega, fun q => by omega⟩
  | succ j =>
    cases j with
    | zero => exact Or.inr ⟨hj, by omega, fun q => by omega⟩
    | succ j =>
      cases j with
      | zero => exact Or.inr ⟨hj, by omega, fun q => by omega⟩
      | succ j =>
        cases j with
        | zero => exact Or.inr ⟨hj, by omega, fun q => by omega⟩
        | succ j =>
          cases j with
          | zero => exact Or.inr ⟨hj, by omega, fun q => by omega⟩
          | succ j =>
            cases j with
            | zero => exact Or.inr ⟨hj, by omega, fun q => by omega⟩
            | succ j =>
              cases j with
              | zero => exact Or.inr ⟨hj, by omega, fun q => by omega⟩
              | succ j =>
                cases j with
                | zero => exact Or.inr ⟨hj, by omega, fun _ => (Option.some.inj hj) ▸ hc⟩
                | succ j =>
                  cases j with
                  | zero => exact Or.inl ⟨rfl, (Option.some.inj hj).symm⟩
                  | succ j => exact Or.inr ⟨hj, by omega, fun q => by omega⟩
theorem z_iload_9 {x0 x1 x2 x3 x4 x5 x6 x7 x8 : Value} {t : List Value} {x : Int32} (hd : decode M.2.1 pc = .ok (.iload 9, 2)) (k : zW l M N S (pc + 2) (x0 :: x1 :: x2 :: x3 :: x4 :: x5 :: x6 :: x7 :: x8 :: .int x :: t) (.int x :: st) h Q) : zW l M N S pc (x0 :: x1 :: x2 :: x3 :: x4 :: x5 :: x6 :: x7 :: x8 :: .int x :: t) st h Q := by
  intro p e s m args below meth c E n0 z0 H locs cells slots ls R Z C A hl hR K
  exact lv_iload C.1 C.2.1 hd (hl.2.2 9 (.int x) rfl (fun q => Value.noConfusion q)) (k p e s m args below meth c E n0 z0 H locs cells slots ls R Z C A hl hR K)
theorem z_lload_9 {x0 x1 x2 x3 x4 x5 x6 x7 x8 : Value} {t : List Value} {x : Int64} (hd : decode M.2.1 pc = .ok (.lload 9, 2)) (k : zW l M N S (pc + 2) (x0 :: x1 :: x2 :: x3 :: x4 :: x5 :: x6 :: x7 :: x8 :: .long x :: t) (.long x :: st) h Q) : zW l M N S pc (x0 :: x1 :: x2 :: x3 :: x4 :: x5 :: x6 :: x7 :: x8 :: .long x :: t) st h Q := by
  intro p e s m args below meth c E n0 z0 H locs cells slots ls R Z C A hl hR K
  exact lv_lload C.1 C.2.1 hd (hl.2.2 9 (.long x) rfl (fun q => Value.noConfusion q)) (k p e s m args below meth c E n0 z0 H locs cells slots ls R Z C A hl hR K)
theorem z_aload_9 {x0 x1 x2 x3 x4 x5 x6 x7 x8 : Value} {t : List Value} {x : Nat} (hd : decode M.2.1 pc = .ok (.aload 9, 2)) (k : zW l M N S (pc + 2) (x0 :: x1 :: x2 :: x3 :: x4 :: x5 :: x6 :: x7 :: x8 :: .ref x :: t) (.ref x :: st) h Q) : zW l M N S pc (x0 :: x1 :: x2 :: x3 :: x4 :: x5 :: x6 :: x7 :: x8 :: .ref x :: t) st h Q := by
  intro p e s m args below meth c E n0 z0 H locs cells slots ls R Z C A hl hR K
  exact lv_aload C.1 C.2.1 hd (hl.2.2 9 (.ref x) rfl (fun q => Value.noConfusion q)) (k p e s m args below meth c E n0 z0 H locs cells slots ls R Z C A hl hR K)
theorem z_istore_9 {x0 x1 x2 x3 x4 x5 x6 x7 x8 : Value} {y : Value} {t : List Value} {x : Int32} (hd : decode M.2.1 pc = .ok (.istore 9, 2)) (hn : 9 < M.2.2.1) (hc : x8.category = 1) (k : zW l M N S (pc + 2) (x0 :: x1 :: x2 :: x3 :: x4 :: x5 :: x6 :: x7 :: x8 :: .int x :: t) st h Q) : zW l M N S pc (x0 :: x1 :: x2 :: x3 :: x4 :: x5 :: x6 :: x7 :: x8 :: y :: t) (.int x :: st) h Q := by
  intro p e s m args below meth c E n0 z0 H locs cells slots ls R Z C A hl hR K
  refine lv_istore C.1 C.2.1 hd (zlv_has hl) hn rfl (fun ls2 hl2 => ?_)
  refine k p e s m args below meth c E n0 z0 H locs cells slots ls2 R Z C A (zlv_store1 (v := .int x) hl2 ?_) hR K
  intro j w hj hw
  cases j with
  | zero => exact Or.inr ⟨hj, by omega, fun q => by omega⟩
  | succ j =>
    cases j with
    | zero => exact Or.inr ⟨hj, by omega, fun q => by omega⟩
    | succ j =>
      cases j with
      | zero => exact Or.inr ⟨hj, by omega, fun q => by omega⟩
      | succ j =>
        cases j with
        | zero => exact Or.inr ⟨hj, by omega, fun q => by omega⟩
        | succ j =>
          cases j with
          | zero => exact Or.inr ⟨hj, by omega, fun q => by omega⟩
          | succ j =>
            cases j with
            | zero => exact Or.inr ⟨hj, by omega, fun q => by omega⟩
            | succ j =>
              cases j with
              | zero => exact Or.inr ⟨hj, by omega, fun q => by omega⟩
              | succ j =>
                cases j with
                | zero => exact Or.inr ⟨hj, by omega, fun q => by omega⟩
                | succ j =>
                  cases j with
                  | zero => exact Or.inr ⟨hj, by omega, fun _ => (Option.some.inj hj) ▸ hc⟩
                  | succ j =>
                    cases j with
                    | zero => exact Or.inl ⟨rfl, (Option.some.inj hj).symm⟩
                    | succ j =>
                      exact Or.inr ⟨hj, by omega, fun q => by omega⟩
theorem z_istoreK_9 {x0 x1 x2 x3 x4 x5 x6 x7 x8 : Value} {y : Value} {t : List Value} {x : Int32} (hd : decode M.2.1 pc = .ok (.istore 9, 2)) (hn : 9 < M.2.2.1) (k : zW l M N S (pc + 2) (x0 :: x1 :: x2 :: x3 :: x4 :: x5 :: x6 :: x7 :: zno :: .int x :: t) st h Q) : zW l M N S pc (x0 :: x1 :: x2 :: x3 :: x4 :: x5 :: x6 :: x7 :: x8 :: y :: t) (.int x :: st) h Q := by
  intro p e s m args below meth c E n0 z0 H locs cells slots ls R Z C A hl hR K
  refine lv_istore C.1 C.2.1 hd (zlv_has hl) hn rfl (fun ls2 hl2 => ?_)
  refine k p e s m args below meth c E n0 z0 H locs cells slots ls2 R Z C A (zlv_store1 (v := .int x) hl2 ?_) hR K
  intro j w hj hw
  cases j with
  | zero => exact Or.inr ⟨hj, by omega, fun q => by omega⟩
  | succ j =>
    cases j with
    | zero => exact Or.inr ⟨hj, by omega, fun q => by omega⟩
    | succ j =>
      cases j with
      | zero => exact Or.inr ⟨hj, by omega, fun q => by omega⟩
      | succ j =>
        cases j with
        | zero => exact Or.inr ⟨hj, by omega, fun q => by omega⟩
        | succ j =>
          cases j with
          | zero => exact Or.inr ⟨hj, by omega, fun q => by omega⟩
          | succ j =>
            cases j with
            | zero => exact Or.inr ⟨hj, by omega, fun q => by omega⟩
            | succ j =>
              cases j with
              | zero => exact Or.inr ⟨hj, by omega, fun q => by omega⟩
              | succ j =>
                cases j with
                | zero => exact Or.inr ⟨hj, by omega, fun q => by omega⟩
                | succ j =>
                  cases j with
                  | zero => exact absurd (Option.some.inj hj).symm hw
                  | succ j =>
                    cases j with
                    | zero => exact Or.inl ⟨rfl, (Option.some.inj hj).symm⟩
                    | succ j =>
                      exact Or.inr ⟨hj, by omega, fun q => by omega⟩
theorem z_astore_9 {x0 x1 x2 x3 x4 x5 x6 x7 x8 : Value} {y : Value} {t : List Value} {x : Nat} (hd : decode M.2.1 pc = .ok (.astore 9, 2)) (hn : 9 < M.2.2.1) (hc : x8.category = 1) (k : zW l M N S (pc + 2) (x0 :: x1 :: x2 :: x3 :: x4 :: x5 :: x6 :: x7 :: x8 :: .ref x :: t) st h Q) : zW l M N S pc (x0 :: x1 :: x2 :: x3 :: x4 :: x5 :: x6 :: x7 :: x8 :: y :: t) (.ref x :: st) h Q := by
  intro p e s m args below meth c E n0 z0 H locs cells slots ls R Z C A hl hR K
  refine lv_astore C.1 C.2.1 hd (zlv_has hl) hn rfl (fun ls2 hl2 => ?_)
  refine k p e s m args below meth c E n0 z0 H locs cells slots ls2 R Z C A (zlv_store1 (v := .ref x) hl2 ?_) hR K
  intro j w hj hw
  cases j with
  | zero => exact Or.inr ⟨hj, by omega, fun q => by omega⟩
  | succ j =>
    cases j with
    | zero => exact Or.inr ⟨hj, by omega, fun q => by omega⟩
    | succ j =>
      cases j with
      | zero => exact Or.inr ⟨hj, by omega, fun q => by omega⟩
      | succ j =>
        cases j with
        | zero => exact Or.inr ⟨hj, by omega, fun q => by omega⟩
        | succ j =>
          cases j with
          | zero => exact Or.inr ⟨hj, by omega, fun q => by omega⟩
          | succ j =>
            cases j with
            | zero => exact Or.inr ⟨hj, by omega, fun q => by omega⟩
            | succ j =>
              cases j with
              | zero => exact Or.inr ⟨hj, by omega, fun q => by omega⟩
              | succ j =>
                cases j with
                | zero => exact Or.inr ⟨hj, by omega, fun q => by omega⟩
                | succ j =>
                  cases j with
                  | zero => exact Or.inr ⟨hj, by omega, fun _ => (Option.some.inj hj) ▸ hc⟩
                  | succ j =>
                    cases j with
                    | zero => exact Or.inl ⟨rfl, (Option.some.inj hj).symm⟩
                    | succ j =>
                      exact Or.inr ⟨hj, by omega, fun q => by omega⟩
theorem z_astoreK_9 {x0 x1 x2 x3 x4 x5 x6 x7 x8 : Value} {y : Value} {t : List Value} {x : Nat} (hd : decode M.2.1 pc = .ok (.astore 9, 2)) (hn : 9 < M.2.2.1) (k : zW l M N S (pc + 2) (x0 :: x1 :: x2 :: x3 :: x4 :: x5 :: x6 :: x7 :: zno :: .ref x :: t) st h Q) : zW l M N S pc (x0 :: x1 :: x2 :: x3 :: x4 :: x5 :: x6 :: x7 :: x8 :: y :: t) (.ref x :: st) h Q := by
  intro p e s m args below meth c E n0 z0 H locs cells slots ls R Z C A hl hR K
  refine lv_astore C.1 C.2.1 hd (zlv_has hl) hn rfl (fun ls2 hl2 => ?_)
  refine k p e s m args below meth c E n0 z0 H locs cells slots ls2 R Z C A (zlv_store1 (v := .ref x) hl2 ?_) hR K
  intro j w hj hw
  cases j with
  | zero => exact Or.inr ⟨hj, by omega, fun q => by omega⟩
  | succ j =>
    cases j with
    | zero => exact Or.inr ⟨hj, by omega, fun q => by omega⟩
    | succ j =>
      cases j with
      | zero => exact Or.inr ⟨hj, by omega, fun q => by omega⟩
      | succ j =>
        cases j with
        | zero => exact Or.inr ⟨hj, by omega, fun q => by omega⟩
        | succ j =>
          cases j with
          | zero => exact Or.inr ⟨hj, by omega, fun q => by omega⟩
          | succ j =>
            cases j with
            | zero => exact Or.inr ⟨hj, by omega, fun q => by omega⟩
            | succ j =>
              cases j with
              | zero => exact Or.inr ⟨hj, by omega, fun q => by omega⟩
              | succ j =>
                cases j with
                | zero => exact Or.inr ⟨hj, by omega, fun q => by omega⟩
                | succ j =>
                  cases j with
                  | zero => exact absurd (Option.some.inj hj).symm hw
                  | succ j =>
                    cases j with
                    | zero => exact Or.inl ⟨rfl, (Option.some.inj hj).symm⟩
                    | succ j =>
                      exact Or.inr ⟨hj, by omega, fun q => by omega⟩
theorem z_lstore_9 {x0 x1 x2 x3 x4 x5 x6 x7 x8 : Value} {y y2 : Value} {t : List Value} {x : Int64} (hd : decode M.2.1 pc = .ok (.lstore 9, 2)) (hn : 10 < M.2.2.1) (hc : x8.category = 1) (k : zW l M N S (pc + 2) (x0 :: x1 :: x2 :: x3 :: x4 :: x5 :: x6 :: x7 :: x8 :: .long x :: zno :: t) st h Q) : zW l M N S pc (x0 :: x1 :: x2 :: x3 :: x4 :: x5 :: x6 :: x7 :: x8 :: y :: y2 :: t) (.long x :: st) h Q := by
  intro p e s m args below meth c E n0 z0 H locs cells slots ls R Z C A hl hR K
  refine lv_lstore C.1 C.2.1 hd (zlv_has hl) hn rfl (fun ls2 hl2 => ?_)
  refine k p e s m args below meth c E n0 z0 H locs cells slots ls2 R Z C A (zlv_store2 (v := .long x) hl2 ?_) hR K
  intro j w hj hw
  cases j with
  | zero => exact Or.inr ⟨hj, by omega, by omega, fun q => by omega⟩
  | succ j =>
    cases j with
    | zero => exact Or.inr ⟨hj, by omega, by omega, fun q => by omega⟩
    | succ j =>
      cases j with
      | zero => exact Or.inr ⟨hj, by omega, by omega, fun q => by omega⟩
      | succ j =>
        cases j with
        | zero => exact Or.inr ⟨hj, by omega, by omega, fun q => by omega⟩
        | succ j =>
          cases j with
          | zero => exact Or.inr ⟨hj, by omega, by omega, fun q => by omega⟩
          | succ j =>
            cases j with
            | zero => exact Or.inr ⟨hj, by omega, by omega, fun q => by omega⟩
            | succ j =>
              cases j with
              | zero => exact Or.inr ⟨hj, by omega, by omega, fun q => by omega⟩
              | succ j =>
                cases j with
                | zero => exact Or.inr ⟨hj, by omega, by omega, fun q => by omega⟩
                | succ j =>
                  cases j with
                  | zero => exact Or.inr ⟨hj, by omega, by omega, fun _ => (Option.some.inj hj) ▸ hc⟩
                  | succ j =>
                    cases j with
                    | zero => exact Or.inl ⟨rfl, (Option.some.inj hj).symm⟩
                    | succ j =>
                      cases j with
                      | zero => exact absurd (Option.some.inj hj).symm hw
                      | succ j => exact Or.inr ⟨hj, by omega, by omega, fun q => by omega⟩
theorem z_lstoreK_9 {x0 x1 x2 x3 x4 x5 x6 x7 x8 : Value} {y y2 : Value} {t : List Value} {x : Int64} (hd : decode M.2.1 pc = .ok (.lstore 9, 2)) (hn : 10 < M.2.2.1) (k : zW l M N S (pc + 2) (x0 :: x1 :: x2 :: x3 :: x4 :: x5 :: x6 :: x7 :: zno :: .long x :: zno :: t) st h Q) : zW l M N S pc (x0 :: x1 :: x2 :: x3 :: x4 :: x5 :: x6 :: x7 :: x8 :: y :: y2 :: t) (.long x :: st) h Q := by
  intro p e s m args below meth c E n0 z0 H locs cells slots ls R Z C A hl hR K
  refine lv_lstore C.1 C.2.1 hd (zlv_has hl) hn rfl (fun ls2 hl2 => ?_)
  refine k p e s m args below meth c E n0 z0 H locs cells slots ls2 R Z C A (zlv_store2 (v := .long x) hl2 ?_) hR K
  intro j w hj hw
  cases j with
  | zero => exact Or.inr ⟨hj, by omega, by omega, fun q => by omega⟩
  | succ j =>
    cases j with
    | zero => exact Or.inr ⟨hj, by omega, by omega, fun q => by omega⟩
    | succ j =>
      cases j with
      | zero => exact Or.inr ⟨hj, by omega, by omega, fun q => by omega⟩
      | succ j =>
        cases j with
        | zero => exact Or.inr ⟨hj, by omega, by omega, fun q => by omega⟩
        | succ j =>
          cases j with
          | zero => exact Or.inr ⟨hj, by omega, by omega, fun q => by omega⟩
          | succ j =>
            cases j with
            | zero => exact Or.inr ⟨hj, by omega, by omega, fun q => by omega⟩
            | succ j =>
              cases j with
              | zero => exact Or.inr ⟨hj, by omega, by omega, fun q => by omega⟩
              | succ j =>
                cases j with
                | zero => exact Or.inr ⟨hj, by omega, by omega, fun q => by omega⟩
                | succ j =>
                  cases j with
                  | zero => exact absurd (Option.some.inj hj).symm hw
                  | succ j =>
                    cases j with
                    | zero => exact Or.inl ⟨rfl, (Option.some.inj hj).symm⟩
                    | succ j =>
                      cases j with
                      | zero => exact absurd (Option.some.inj hj).symm hw
                      | succ j => exact Or.inr ⟨hj, by omega, by omega, fun q => by omega⟩
theorem z_iinc_9 {x0 x1 x2 x3 x4 x5 x6 x7 x8 : Value} {t : List Value} {x : Int32} {n : Int} (v : Int32) (hd : decode M.2.1 pc = .ok (.iinc 9 n, 3)) (hv : Int32.ofInt n = v) (hn : 9 < M.2.2.1) (hc : x8.category = 1) (k : zW l M N S (pc + 3) (x0 :: x1 :: x2 :: x3 :: x4 :: x5 :: x6 :: x7 :: x8 :: .int (x + v) :: t) st h Q) : zW l M N S pc (x0 :: x1 :: x2 :: x3 :: x4 :: x5 :: x6 :: x7 :: x8 :: .int x :: t) st h Q := by
  subst hv
  intro p e s m args below meth c E n0 z0 H locs cells slots ls R Z C A hl hR K
  obtain ⟨k0, hk0⟩ := List.getElem?_of_mem (zll_mem.mpr ⟨.int x, (rfl : (x0 :: x1 :: x2 :: x3 :: x4 :: x5 :: x6 :: x7 :: x8 :: .int x :: t)[9]? = _), (fun q => Value.noConfusion q), rfl⟩ : (9, ze E (.int x)) ∈ zll E (x0 :: x1 :: x2 :: x3 :: x4 :: x5 :: x6 :: x7 :: x8 :: .int x :: t))
  refine lv_iinc C.1 C.2.1 hd (zlv_has hl) hk0 rfl hn rfl (fun ls2 hl2 => ?_)
  refine k p e s m args below meth c E n0 z0 H locs cells slots ls2 R Z C A (zlv_store1 (v := .int (x + Int32.ofInt n)) hl2 ?_) hR K
  intro j w hj hw
  cases j with
  | zero => exact Or.inr ⟨hj, by omega, fun q => by omega⟩
  | succ j =>
    cases j with
    | zero => exact Or.inr ⟨hj, by omega, fun q => by omega⟩
    | succ j =>
      cases j with
      | zero => exact Or.inr ⟨hj, by omega, fun q => by omega⟩
      | succ j =>
        cases j with
        | zero => exact Or.inr ⟨hj, by omega, fun q => by omega⟩
        | succ j =>
          cases j with
          | zero => exact Or.inr ⟨hj, by omega, fun q => by omega⟩
          | succ j =>
            cases j with
            | zero => exact Or.inr ⟨hj, by omega, fun q => by omega⟩
            | succ j =>
              cases j with
              | zero => exact Or.inr ⟨hj, by omega, fun q => by omega⟩
              | succ j =>
                cases j with
                | zero => exact Or.inr ⟨hj, by omega, fun q => by omega⟩
                | succ j =>
                  cases j with
                  | zero => exact Or.inr ⟨hj, by omega, fun _ => (Option.some.inj hj) ▸ hc⟩
                  | succ j =>
                    cases j with
                    | zero => exact Or.inl ⟨rfl, (Option.some.inj hj).symm⟩
                    | succ j => exact Or.inr ⟨hj, by omega, fun q => by omega⟩
theorem z_iload_10 {x0 x1 x2 x3 x4 x5 x6 x7 x8 x9 : Value} {t : List Value} {x : Int32} (hd : decode M.2.1 pc = .ok (.iload 10, 2)) (k : zW l M N S (pc + 2) (x0 :: x1 :: x2 :: x3 :: x4 :: x5 :: x6 :: x7 :: x8 :: x9 :: .int x :: t) (.int x :: st) h Q) : zW l M N S pc (x0 :: x1 :: x2 :: x3 :: x4 :: x5 :: x6 :: x7 :: x8 :: x9 :: .int x :: t) st h Q := by
  intro p e s m args below meth c E n0 z0 H locs cells slots ls R Z C A hl hR K
  exact lv_iload C.1 C.2.1 hd (hl.2.2 10 (.int x) rfl (fun q => Value.noConfusion q)) (k p e s m args below meth c E n0 z0 H locs cells slots ls R Z C A hl hR K)
theorem z_lload_10 {x0 x1 x2 x3 x4 x5 x6 x7 x8 x9 : Value} {t : List Value} {x : Int64} (hd : decode M.2.1 pc = .ok (.lload 10, 2)) (k : zW l M N S (pc + 2) (x0 :: x1 :: x2 :: x3 :: x4 :: x5 :: x6 :: x7 :: x8 :: x9 :: .long x :: t) (.long x :: st) h Q) : zW l M N S pc (x0 :: x1 :: x2 :: x3 :: x4 :: x5 :: x6 :: x7 :: x8 :: x9 :: .long x :: t) st h Q := by
  intro p e s m args below meth c E n0 z0 H locs cells slots ls R Z C A hl hR K
  exact lv_lload C.1 C.2.1 hd (hl.2.2 10 (.long x) rfl (fun q => Value.noConfusion q)) (k p e s m args below meth c E n0 z0 H locs cells slots ls R Z C A hl hR K)
theorem z_aload_10 {x0 x1 x2 x3 x4 x5 x6 x7 x8 x9 : Value} {t : List Value} {x : Nat} (hd : decode M.2.1 pc = .ok (.aload 10, 2)) (k : zW l M N S (pc + 2) (x0 :: x1 :: x2 :: x3 :: x4 :: x5 :: x6 :: x7 :: x8 :: x9 :: .ref x :: t) (.ref x :: st) h Q) : zW l M N S pc (x0 :: x1 :: x2 :: x3 :: x4 :: x5 :: x6 :: x7 :: x8 :: x9 :: .ref x :: t) st h Q := by
  intro p e s m args below meth c E n0 z0 H locs cells slots ls R Z C A hl hR K
  exact lv_aload C.1 C.2.1 hd (hl.2.2 10 (.ref x) rfl (fun q => Value.noConfusion q)) (k p e s m args below meth c E n0 z0 H locs cells slots ls R Z C A hl hR K)
theorem z_istore_10 {x0 x1 x2 x3 x4 x5 x6 x7 x8 x9 : Value} {y : Value} {t : List Value} {x : Int32} (hd : decode M.2.1 pc = .ok (.istore 10, 2)) (hn : 10 < M.2.2.1) (hc : x9.category = 1) (k : zW l M N S (pc + 2) (x0 :: x1 :: x2 :: x3 :: x4 :: x5 :: x6 :: x7 :: x8 :: x9 :: .int x :: t) st h Q) : zW l M N S pc (x0 :: x1 :: x2 :: x3 :: x4 :: x5 :: x6 :: x7 :: x8 :: x9 :: y :: t) (.int x :: st) h Q := by
  intro p e s m args below meth c E n0 z0 H locs cells slots ls R Z C A hl hR K
  refine lv_istore C.1 C.2.1 hd (zlv_has hl) hn rfl (fun ls2 hl2 => ?_)
  refine k p e s m args below meth c E n0 z0 H locs cells slots ls2 R Z C A (zlv_store1 (v := .int x) hl2 ?_) hR K
  intro j w hj hw
  cases j with
  | zero => exact Or.inr ⟨hj, by omega, fun q => by omega⟩
  | succ j =>
    cases j with
    | zero => exact Or.inr ⟨hj, by omega, fun q => by omega⟩
    | succ j =>
      cases j with
      | zero => exact Or.inr ⟨hj, by omega, fun q => by omega⟩
      | succ j =>
        cases j with
        | zero => exact Or.inr ⟨hj, by omega, fun q => by omega⟩
        | succ j =>
          cases j with
          | zero => exact Or.inr ⟨hj, by omega, fun q => by omega⟩
          | succ j =>
            cases j with
            | zero => exact Or.inr ⟨hj, by omega, fun q => by omega⟩
            | succ j =>
              cases j with
              | zero => exact Or.inr ⟨hj, by omega, fun q => by omega⟩
              | succ j =>
                cases j with
                | zero => exact Or.inr ⟨hj, by omega, fun q => by omega⟩
                | succ j =>
                  cases j with
                  | zero => exact Or.inr ⟨hj, by omega, fun q => by omega⟩
                  | succ j =>
                    cases j with
                    | zero => exact Or.inr ⟨hj, by omega, fun _ => (Option.some.inj hj) ▸ hc⟩
                    | succ j =>
                      cases j with
                      | zero => exact Or.inl ⟨rfl, (Option.some.inj hj).symm⟩
                      | succ j =>
                        exact Or.inr ⟨hj, by omega, fun q => by omega⟩
theorem z_istoreK_10 {x0 x1 x2 x3 x4 x5 x6 x7 x8 x9 : Value} {y : Value} {t : List Value} {x : Int32} (hd : decode M.2.1 pc = .ok (.istore 10, 2)) (hn : 10 < M.2.2.1) (k : zW l M N S (pc + 2) (x0 :: x1 :: x2 :: x3 :: x4 :: x5 :: x6 :: x7 :: x8 :: zno :: .int x :: t) st h Q) : zW l M N S pc (x0 :: x1 :: x2 :: x3 :: x4 :: x5 :: x6 :: x7 :: x8 :: x9 :: y :: t) (.int x :: st) h Q := by
  intro p e s m args below meth c E n0 z0 H locs cells slots ls R Z C A hl hR K
  refine lv_istore C.1 C.2.1 hd (zlv_has hl) hn rfl (fun ls2 hl2 => ?_)
  refine k p e s m args below meth c E n0 z0 H locs cells slots ls2 R Z C A (zlv_store1 (v := .int x) hl2 ?_) hR K
  intro j w hj hw
  cases j with
  | zero => exact Or.inr ⟨hj, by omega, fun q => by omega⟩
  | succ j =>
    cases j with
    | zero => exact Or.inr ⟨hj, by omega, fun q => by omega⟩
    | succ j =>
      cases j with
      | zero => exact Or.inr ⟨hj, by omega, fun q => by omega⟩
      | succ j =>
        cases j with
        | zero => exact Or.inr ⟨hj, by omega, fun q => by omega⟩
        | succ j =>
          cases j with
          | zero => exact Or.inr ⟨hj, by omega, fun q => by omega⟩
          | succ j =>
            cases j with
            | zero => exact Or.inr ⟨hj, by omega, fun q => by omega⟩
            | succ j =>
              cases j with
              | zero => exact Or.inr ⟨hj, by omega, fun q => by omega⟩
              | succ j =>
                cases j with
                | zero => exact Or.inr ⟨hj, by omega, fun q => by omega⟩
                | succ j =>
                  cases j with
                  | zero => exact Or.inr ⟨hj, by omega, fun q => by omega⟩
                  | succ j =>
                    cases j with
                    | zero => exact absurd (Option.some.inj hj).symm hw
                    | succ j =>
                      cases j with
                      | zero => exact Or.inl ⟨rfl, (Option.some.inj hj).symm⟩
                      | succ j =>
                        exact Or.inr ⟨hj, by omega, fun q => by omega⟩
theorem z_astore_10 {x0 x1 x2 x3 x4 x5 x6 x7 x8 x9 : Value} {y : Value} {t : List Value} {x : Nat} (hd : decode M.2.1 pc = .ok (.astore 10, 2)) (hn : 10 < M.2.2.1) (hc : x9.category = 1) (k : zW l M N S (pc + 2) (x0 :: x1 :: x2 :: x3 :: x4 :: x5 :: x6 :: x7 :: x8 :: x9 :: .ref x :: t) st h Q) : zW l M N S pc (x0 :: x1 :: x2 :: x3 :: x4 :: x5 :: x6 :: x7 :: x8 :: x9 :: y :: t) (.ref x :: st) h Q := by
  intro p e s m args below meth c E n0 z0 H locs cells slots ls R Z C A hl hR K
  refine lv_astore C.1 C.2.1 hd (zlv_has hl) hn rfl (fun ls2 hl2 => ?_)
  refine k p e s m args below meth c E n0 z0 H locs cells slots ls2 R Z C A (zlv_store1 (v := .ref x) hl2 ?_) hR K
  intro j w hj hw
  cases j with
  | zero => exact Or.inr ⟨hj, by omega, fun q => by omega⟩
  | succ j =>
    cases j with
    | zero => exact Or.inr ⟨hj, by omega, fun q => by omega⟩
    | succ j =>
      cases j with
      | zero => exact Or.inr ⟨hj, by omega, fun q => by omega⟩
      | succ j =>
        cases j with
        | zero => exact Or.inr ⟨hj, by omega, fun q => by omega⟩
        | succ j =>
          cases j with
          | zero => exact Or.inr ⟨hj, by omega, fun q => by omega⟩
          | succ j =>
            cases j with
            | zero => exact Or.inr ⟨hj, by omega, fun q => by omega⟩
            | succ j =>
              cases j with
              | zero => exact Or.inr ⟨hj, by omega, fun q => by omega⟩
              | succ j =>
                cases j with
                | zero => exact Or.inr ⟨hj, by omega, fun q => by omega⟩
                | succ j =>
                  cases j with
                  | zero => exact Or.inr ⟨hj, by omega, fun q => by omega⟩
                  | succ j =>
                    cases j with
                    | zero => exact Or.inr ⟨hj, by omega, fun _ => (Option.some.inj hj) ▸ hc⟩
                    | succ j =>
                      cases j with
                      | zero => exact Or.inl ⟨rfl, (Option.some.inj hj).symm⟩
                      | succ j =>
                        exact Or.inr ⟨hj, by omega, fun q => by omega⟩
theorem z_astoreK_10 {x0 x1 x2 x3 x4 x5 x6 x7 x8 x9 : Value} {y : Value} {t : List Value} {x : Nat} (hd : decode M.2.1 pc = .ok (.astore 10, 2)) (hn : 10 < M.2.2.1) (k : zW l M N S (pc + 2) (x0 :: x1 :: x2 :: x3 :: x4 :: x5 :: x6 :: x7 :: x8 :: zno :: .ref x :: t) st h Q) : zW l M N S pc (x0 :: x1 :: x2 :: x3 :: x4 :: x5 :: x6 :: x7 :: x8 :: x9 :: y :: t) (.ref x :: st) h Q := by
  intro p e s m args below meth c E n0 z0 H locs cells slots ls R Z C A hl hR K
  refine lv_astore C.1 C.2.1 hd (zlv_has hl) hn rfl (fun ls2 hl2 => ?_)
  refine k p e s m args below meth c E n0 z0 H locs cells slots ls2 R Z C A (zlv_store1 (v := .ref x) hl2 ?_) hR K
  intro j w hj hw
  cases j with
  | zero => exact Or.inr ⟨hj, by omega, fun q => by omega⟩
  | succ j =>
    cases j with
    | zero => exact Or.inr ⟨hj, by omega, fun q => by omega⟩
    | succ j =>
      cases j with
      | zero => exact Or.inr ⟨hj, by omega, fun q => by omega⟩
      | succ j =>
        cases j with
        | zero => exact Or.inr ⟨hj, by omega, fun q => by omega⟩
        | succ j =>
          cases j with
          | zero => exact Or.inr ⟨hj, by omega, fun q => by omega⟩
          | succ j =>
            cases j with
            | zero => exact Or.inr ⟨hj, by omega, fun q => by omega⟩
            | succ j =>
              cases j with
              | zero => exact Or.inr ⟨hj, by omega, fun q => by omega⟩
              | succ j =>
                cases j with
                | zero => exact Or.inr ⟨hj, by omega, fun q => by omega⟩
                | succ j =>
                  cases j with
                  | zero => exact Or.inr ⟨hj, by omega, fun q => by omega⟩
                  | succ j =>
                    cases j with
                    | zero => exact absurd (Option.some.inj hj).symm hw
                    | succ j =>
                      cases j with
                      | zero => exact Or.inl ⟨rfl, (Option.some.inj hj).symm⟩
                      | succ j =>
                        exact Or.inr ⟨hj, by omega, fun q => by omega⟩
theorem z_lstore_10 {x0 x1 x2 x3 x4 x5 x6 x7 x8 x9 : Value} {y y2 : Value} {t : List Value} {x : Int64} (hd : decode M.2.1 pc = .ok (.lstore 10, 2)) (hn : 11 < M.2.2.1) (hc : x9.category = 1) (k : zW l M N S (pc + 2) (x0 :: x1 :: x2 :: x3 :: x4 :: x5 :: x6 :: x7 :: x8 :: x9 :: .long x :: zno :: t) st h Q) : zW l M N S pc (x0 :: x1 :: x2 :: x3 :: x4 :: x5 :: x6 :: x7 :: x8 :: x9 :: y :: y2 :: t) (.long x :: st) h Q := by
  intro p e s m args below meth c E n0 z0 H locs cells slots ls R Z C A hl hR K
  refine lv_lstore C.1 C.2.1 hd (zlv_has hl) hn rfl (fun ls2 hl2 => ?_)
  refine k p e s m args below meth c E n0 z0 H locs cells slots ls2 R Z C A (zlv_store2 (v := .long x) hl2 ?_) hR K
  intro j w hj hw
  cases j with
  | zero => exact Or.inr ⟨hj, by omega, by omega, fun q => by omega⟩
  | succ j =>
    cases j with
    | zero => exact Or.inr ⟨hj, by omega, by omega, fun q => by omega⟩
    | succ j =>
      cases j with
      | zero => exact Or.inr ⟨hj, by omega, by omega, fun q => by omega⟩
      | succ j =>
        cases j with
        | zero => exact Or.inr ⟨hj, by omega, by omega, fun q => by omega⟩
        | succ j =>
          cases j with
          | zero => exact Or.inr ⟨hj, by omega, by omega, fun q => by omega⟩
          | succ j =>
            cases j with
            | zero => exact Or.inr ⟨hj, by omega, by omega, fun q => by omega⟩
            | succ j =>
              cases j with
              | zero => exact Or.inr ⟨hj, by omega, by omega, fun q => by omega⟩
              | succ j =>
                cases j with
                | zero => exact Or.inr ⟨hj, by omega, by omega, fun q => by omega⟩
                | succ j =>
                  cases j with
                  | zero => exact Or.inr ⟨hj, by omega, by omega, fun q => by omega⟩
                  | succ j =>
                    cases j with
                    | zero => exact Or.inr ⟨hj, by omega, by omega, fun _ => (Option.some.inj hj) ▸ hc⟩
                    | succ j =>
                      cases j with
                      | zero => exact Or.inl ⟨rfl, (Option.some.inj hj).symm⟩
                      | succ j =>
                        cases j with
                        | zero => exact absurd (Option.some.inj hj).symm hw
                        | succ j => exact Or.inr ⟨hj, by omega, by omega, fun q => by omega⟩
theorem z_lstoreK_10 {x0 x1 x2 x3 x4 x5 x6 x7 x8 x9 : Value} {y y2 : Value} {t : List Value} {x : Int64} (hd : decode M.2.1 pc = .ok (.lstore 10, 2)) (hn : 11 < M.2.2.1) (k : zW l M N S (pc + 2) (x0 :: x1 :: x2 :: x3 :: x4 :: x5 :: x6 :: x7 :: x8 :: zno :: .long x :: zno :: t) st h Q) : zW l M N S pc (x0 :: x1 :: x2 :: x3 :: x4 :: x5 :: x6 :: x7 :: x8 :: x9 :: y :: y2 :: t) (.long x :: st) h Q := by
  intro p e s m args below meth c E n0 z0 H locs cells slots ls R Z C A hl hR K
  refine lv_lstore C.1 C.2.1 hd (zlv_has hl) hn rfl (fun ls2 hl2 => ?_)
  refine k p e s m args below meth c E n0 z0 H locs cells slots ls2 R Z C A (zlv_store2 (v := .long x) hl2 ?_) hR K
  intro j w hj hw
  cases j with
  | zero => exact Or.inr ⟨hj, by omega, by omega, fun q => by omega⟩
  | succ j =>
    cases j with
    | zero => exact Or.inr ⟨hj, by omega, by omega, fun q => by omega⟩
    | succ j =>
      cases j with
      | zero => exact Or.inr ⟨hj, by omega, by omega, fun q => by omega⟩
      | succ j =>
        cases j with
        | zero => exact Or.inr ⟨hj, by omega, by omega, fun q => by omega⟩
        | succ j =>
          cases j with
          | zero => exact Or.inr ⟨hj, by omega, by omega, fun q => by omega⟩
          | succ j =>
            cases j with
            | zero => exact Or.inr ⟨hj, by omega, by omega, fun q => by omega⟩
            | succ j =>
              cases j with
              | zero => exact Or.inr ⟨hj, by omega, by omega, fun q => by omega⟩
              | succ j =>
                cases j with
                | zero => exact Or.inr ⟨hj, by omega, by omega, fun q => by omega⟩
                | succ j =>
                  cases j with
                  | zero => exact Or.inr ⟨hj, by omega, by omega, fun q => by omega⟩
                  | succ j =>
                    cases j with
                    | zero => exact absurd (Option.some.inj hj).symm hw
                    | succ j =>
                      cases j with
                      | zero => exact Or.inl ⟨rfl, (Option.some.inj hj).symm⟩
                      | succ j =>
                        cases j with
                        | zero => exact absurd (Option.some.inj hj).symm hw
                        | succ j => exact Or.inr ⟨hj, by omega, by omega, fun q => by omega⟩
theorem z_iinc_10 {x0 x1 x2 x3 x4 x5 x6 x7 x8 x9 : Value} {t : List Value} {x : Int32} {n : Int} (v : Int32) (hd : decode M.2.1 pc = .ok (.iinc 10 n, 3)) (hv : Int32.ofInt n = v) (hn : 10 < M.2.2.1) (hc : x9.category = 1) (k : zW l M N S (pc + 3) (x0 :: x1 :: x2 :: x3 :: x4 :: x5 :: x6 :: x7 :: x8 :: x9 :: .int (x + v) :: t) st h Q) : zW l M N S pc (x0 :: x1 :: x2 :: x3 :: x4 :: x5 :: x6 :: x7 :: x8 :: x9 :: .int x :: t) st h Q := by
  subst hv
  intro p e s m args below meth c E n0 z0 H locs cells slots ls R Z C A hl hR K
  obtain ⟨k0, hk0⟩ := List.getElem?_of_mem (zll_mem.mpr ⟨.int x, (rfl : (x0 :: x1 :: x2 :: x3 :: x4 :: x5 :: x6 :: x7 :: x8 :: x9 :: .int x :: t)[10]? = _), (fun q => Value.noConfusion q), rfl⟩ : (10, ze E (.int x)) ∈ zll E (x0 :: x1 :: x2 :: x3 :: x4 :: x5 :: x6 :: x7 :: x8 :: x9 :: .int x :: t))
  refine lv_iinc C.1 C.2.1 hd (zlv_has hl) hk0 rfl hn rfl (fun ls2 hl2 => ?_)
  refine k p e s m args below meth c E n0 z0 H locs cells slots ls2 R Z C A (zlv_store1 (v := .int (x + Int32.ofInt n)) hl2 ?_) hR K
  intro j w hj hw
  cases j with
  | zero => exact Or.inr ⟨hj, by omega, fun q => by omega⟩
  | succ j =>
    cases j with
    | zero => exact Or.inr ⟨hj, by omega, fun q => by omega⟩
    | succ j =>
      cases j with
      | zero => exact Or.inr ⟨hj, by omega, fun q => by omega⟩
      | succ j =>
        cases j with
        | zero => exact Or.inr ⟨hj, by omega, fun q => by omega⟩
        | succ j =>
          cases j with
          | zero => exact Or.inr ⟨hj, by omega, fun q => by omega⟩
          | succ j =>
            cases j with
            | zero => exact Or.inr ⟨hj, by omega, fun q => by omega⟩
            | succ j =>
              cases j with
              | zero => exact Or.inr ⟨hj, by omega, fun q => by omega⟩
              | succ j =>
                cases j with
                | zero => exact Or.inr ⟨hj, by omega, fun q => by omega⟩
                | succ j =>
                  cases j with
                  | zero => exact Or.inr ⟨hj, by omega, fun q => by omega⟩
                  | succ j =>
                    cases j with
                    | zero => exact Or.inr ⟨hj, by omega, fun _ => (Option.some.inj hj) ▸ hc⟩
                    | succ j =>
                      cases j with
                      | zero => exact Or.inl ⟨rfl, (Option.some.inj hj).symm⟩
                      | succ j => exact Or.inr ⟨hj, by omega, fun q => by omega⟩
theorem z_iload_11 {x0 x1 x2 x3 x4 x5 x6 x7 x8 x9 x10 : Value} {t : List Value} {x : Int32} (hd : decode M.2.1 pc = .ok (.iload 11, 2)) (k : zW l M N S (pc + 2) (x0 :: x1 :: x2 :: x3 :: x4 :: x5 :: x6 :: x7 :: x8 :: x9 :: x10 :: .int x :: t) (.int x :: st) h Q) : zW l M N S pc (x0 :: x1 :: x2 :: x3 :: x4 :: x5 :: x6 :: x7 :: x8 :: x9 :: x10 :: .int x :: t) st h Q := by
  intro p e s m args below meth c E n0 z0 H locs cells slots ls R Z C A hl hR K
  exact lv_iload C.1 C.2.1 hd (hl.2.2 11 (.int x) rfl (fun q => Value.noConfusion q)) (k p e s m args below meth c E n0 z0 H locs cells slots ls R Z C A hl hR K)
theorem z_lload_11 {x0 x1 x2 x3 x4 x5 x6 x7 x8 x9 x10 : Value} {t : List Value} {x : Int64} (hd : decode M.2.1 pc = .ok (.lload 11, 2)) (k : zW l M N S (pc + 2) (x0 :: x1 :: x2 :: x3 :: x4 :: x5 :: x6 :: x7 :: x8 :: x9 :: x10 :: .long x :: t) (.long x :: st) h Q) : zW l M N S pc (x0 :: x1 :: x2 :: x3 :: x4 :: x5 :: x6 :: x7 :: x8 :: x9 :: x10 :: .long x :: t) st h Q := by
  intro p e s m args below meth c E n0 z0 H locs cells slots ls R Z C A hl hR K
  exact lv_lload C.1 C.2.1 hd (hl.2.2 11 (.long x) rfl (fun q => Value.noConfusion q)) (k p e s m args below meth c E n0 z0 H locs cells slots ls R Z C A hl hR K)
theorem z_aload_11 {x0 x1 x2 x3 x4 x5 x6 x7 x8 x9 x10 : Value} {t : List Value} {x : Nat} (hd : decode M.2.1 pc = .ok (.aload 11, 2)) (k : zW l M N S (pc + 2) (x0 :: x1 :: x2 :: x3 :: x4 :: x5 :: x6 :: x7 :: x8 :: x9 :: x10 :: .ref x :: t) (.ref x :: st) h Q) : zW l M N S pc (x0 :: x1 :: x2 :: x3 :: x4 :: x5 :: x6 :: x7 :: x8 :: x9 :: x10 :: .ref x :: t) st h Q := by
  intro p e s m args below meth c E n0 z0 H locs cells slots ls R Z C A hl hR K
  exact lv_aload C.1 C.2.1 hd (hl.2.2 11 (.ref x) rfl (fun q => Value.noConfusion q)) (k p e s m args below meth c E n0 z0 H locs cells slots ls R Z C A hl hR K)
theorem z_istore_11 {x0 x1 x2 x3 x4 x5 x6 x7 x8 x9 x10 : Value} {y : Value} {t : List Value} {x : Int32} (hd : decode M.2.1 pc = .ok (.istore 11, 2)) (hn : 11 < M.2.2.1) (hc : x10.category = 1) (k : zW l M N S (pc + 2) (x0 :: x1 :: x2 :: x3 :: x4 :: x5 :: x6 :: x7 :: x8 :: x9 :: x10 :: .int x :: t) st h Q) : zW l M N S pc (x0 :: x1 :: x2 :: x3 :: x4 :: x5 :: x6 :: x7 :: x8 :: x9 :: x10 :: y :: t) (.int x :: st) h Q := by
  intro p e s m args below meth c E n0 z0 H locs cells slots ls R Z C A hl hR K
  refine lv_istore C.1 C.2.1 hd (zlv_has hl) hn rfl (fun ls2 hl2 => ?_)
  refine k p e s m args below meth c E n0 z0 H locs cells slots ls2 R Z C A (zlv_store1 (v := .int x) hl2 ?_) hR K
  intro j w hj hw
  cases j with
  | zero => exact Or.inr ⟨hj, by omega, fun q => by omega⟩
  | succ j =>
    cases j with
    | zero => exact Or.inr ⟨hj, by omega, fun q => by omega⟩
    | succ j =>
      cases j with
      | zero => exact Or.inr ⟨hj, by omega, fun q => by omega⟩
      | succ j =>
        cases j with
        | zero => exact Or.inr ⟨hj, by omega, fun q => by omega⟩
        | succ j =>
          cases j with
          | zero => exact Or.inr ⟨hj, by omega, fun q => by omega⟩
          | succ j =>
            cases j with
            | zero => exact Or.inr ⟨hj, by omega, fun q => by omega⟩
            | succ j =>
              cases j with
              | zero => exact Or.inr ⟨hj, by omega, fun q => by omega⟩
              | succ j =>
                cases j with
                | zero => exact Or.inr ⟨hj, by omega, fun q => by omega⟩
                | succ j =>
                  cases j with
                  | zero => exact Or.inr ⟨hj, by omega, fun q => by omega⟩
                  | succ j =>
                    cases j with
                    | zero => exact Or.inr ⟨hj, by omega, fun q => by omega⟩
                    | succ j =>
                      cases j with
                      | zero => exact Or.inr ⟨hj, by omega, fun _ => (Option.some.inj hj) ▸ hc⟩
                      | succ j =>
                        cases j with
                        | zero => exact Or.inl ⟨rfl, (Option.some.inj hj).symm⟩
                        | succ j =>
                          exact Or.inr ⟨hj, by omega, fun q => by omega⟩
theorem z_istoreK_11 {x0 x1 x2 x3 x4 x5 x6 x7 x8 x9 x10 : Value} {y : Value} {t : List Value} {x : Int32} (hd : decode M.2.1 pc = .ok (.istore 11, 2)) (hn : 11 < M.2.2.1) (k : zW l M N S (pc + 2) (x0 :: x1 :: x2 :: x3 :: x4 :: x5 :: x6 :: x7 :: x8 :: x9 :: zno :: .int x :: t) st h Q) : zW l M N S pc (x0 :: x1 :: x2 :: x3 :: x4 :: x5 :: x6 :: x7 :: x8 :: x9 :: x10 :: y :: t) (.int x :: st) h Q := by
  intro p e s m args below meth c E n0 z0 H locs cells slots ls R Z C A hl hR K
  refine lv_istore C.1 C.2.1 hd (zlv_has hl) hn rfl (fun ls2 hl2 => ?_)
  refine k p e s m args below meth c E n0 z0 H locs cells slots ls2 R Z C A (zlv_store1 (v := .int x) hl2 ?_) hR K
  intro j w hj hw
  cases j with
  | zero => exact Or.inr ⟨hj, by omega, fun q => by omega⟩
  | succ j =>
    cases j with
    | zero => exact Or.inr ⟨hj, by omega, fun q => by omega⟩
    | succ j =>
      cases j with
      | zero => exact Or.inr ⟨hj, by omega, fun q => by omega⟩
      | succ j =>
        cases j with
        | zero => exact Or.inr ⟨hj, by omega, fun q => by omega⟩
        | succ j =>
          cases j with
          | zero => exact Or.inr ⟨hj, by omega, fun q => by omega⟩
          | succ j =>
            cases j with
            | zero => exact Or.inr ⟨hj, by omega, fun q => by omega⟩
            | succ j =>
              cases j with
              | zero => exact Or.inr ⟨hj, by omega, fun q => by omega⟩
              | succ j =>
                cases j with
                | zero => exact Or.inr ⟨hj, by omega, fun q => by omega⟩
                | succ j =>
                  cases j with
                  | zero => exact Or.inr ⟨hj, by omega, fun q => by omega⟩
                  | succ j =>
                    cases j with
                    | zero => exact Or.inr ⟨hj, by omega, fun q => by omega⟩
                    | succ j =>
                      cases j with
                      | zero => exact absurd (Option.some.inj hj).symm hw
                      | succ j =>
                        cases j with
                        | zero => exact Or.inl ⟨rfl, (Option.some.inj hj).symm⟩
                        | succ j =>
                          exact Or.inr ⟨hj, by omega, fun q => by omega⟩
theorem z_astore_11 {x0 x1 x2 x3 x4 x5 x6 x7 x8 x9 x10 : Value} {y : Value} {t : List Value} {x : Nat} (hd : decode M.2.1 pc = .ok (.astore 11, 2)) (hn : 11 < M.2.2.1) (hc : x10.category = 1) (k : zW l M N S (pc + 2) (x0 :: x1 :: x2 :: x3 :: x4 :: x5 :: x6 :: x7 :: x8 :: x9 :: x10 :: .ref x :: t) st h Q) : zW l M N S pc (x0 :: x1 :: x2 :: x3 :: x4 :: x5 :: x6 :: x7 :: x8 :: x9 :: x10 :: y :: t) (.ref x :: st) h Q := by
  intro p e s m args below meth c E n0 z0 H locs cells slots ls R Z C A hl hR K
  refine lv_astore C.1 C.2.1 hd (zlv_has hl) hn rfl (fun ls2 hl2 => ?_)
  refine k p e s m args below meth c E n0 z0 H locs cells slots ls2 R Z C A (zlv_store1 (v := .ref x) hl2 ?_) hR K
  intro j w hj hw
  cases j with
  | zero => exact Or.inr ⟨hj, by omega, fun q => by omega⟩
  | succ j =>
    cases j with
    | zero => exact Or.inr ⟨hj, by omega, fun q => by omega⟩
    | succ j =>
      cases j with
      | zero => exact Or.inr ⟨hj, by omega, fun q => by omega⟩
      | succ j =>
        cases j with
        | zero => exact Or.inr ⟨hj, by omega, fun q => by omega⟩
        | succ j =>
          cases j with
          | zero => exact Or.inr ⟨hj, by omega, fun q => by omega⟩
          | succ j =>
            cases j with
            | zero => exact Or.inr ⟨hj, by omega, fun q => by omega⟩
            | succ j =>
              cases j with
              | zero => exact Or.inr ⟨hj, by omega, fun q => by omega⟩
              | succ j =>
                cases j with
                | zero => exact Or.inr ⟨hj, by omega, fun q => by omega⟩
                | succ j =>
                  cases j with
                  | zero => exact Or.inr ⟨hj, by omega, fun q => by omega⟩
                  | succ j =>
                    cases j with
                    | zero => exact Or.inr ⟨hj, by omega, fun q => by omega⟩
                    | succ j =>
                      cases j with
                      | zero => exact Or.inr ⟨hj, by omega, fun _ => (Option.some.inj hj) ▸ hc⟩
                      | succ j =>
                        cases j with
                        | zero => exact Or.inl ⟨rfl, (Option.some.inj hj).symm⟩
                        | succ j =>
                          exact Or.inr ⟨hj, by omega, fun q => by omega⟩
theorem z_astoreK_11 {x0 x1 x2 x3 x4 x5 x6 x7 x8 x9 x10 : Value} {y : Value} {t : List Value} {x : Nat} (hd : decode M.2.1 pc = .ok (.astore 11, 2)) (hn : 11 < M.2.2.1) (k : zW l M N S (pc + 2) (x0 :: x1 :: x2 :: x3 :: x4 :: x5 :: x6 :: x7 :: x8 :: x9 :: zno :: .ref x :: t) st h Q) : zW l M N S pc (x0 :: x1 :: x2 :: x3 :: x4 :: x5 :: x6 :: x7 :: x8 :: x9 :: x10 :: y :: t) (.ref x :: st) h Q := by
  intro p e s m args below meth c E n0 z0 H locs cells slots ls R Z C A hl hR K
  refine lv_astore C.1 C.2.1 hd (zlv_has hl) hn rfl (fun ls2 hl2 => ?_)
  refine k p e s m args below meth c E n0 z0 H locs cells slots ls2 R Z C A (zlv_store1 (v := .ref x) hl2 ?_) hR K
  intro j w hj hw
  cases j with
  | zero => exact Or.inr ⟨hj, by omega, fun q => by omega⟩
  | succ j =>
    cases j with
    | zero => exact Or.inr ⟨hj, by omega, fun q => by omega⟩
    | succ j =>
      cases j with
      | zero => exact Or.inr ⟨hj, by omega, fun q => by omega⟩
      | succ j =>
        cases j with
        | zero => exact Or.inr ⟨hj, by omega, fun q => by omega⟩
        | succ j =>
          cases j with
          | zero => exact Or.inr ⟨hj, by omega, fun q => by omega⟩
          | succ j =>
            cases j with
            | zero => exact Or.inr ⟨hj, by omega, fun q => by omega⟩
            | succ j =>
              cases j with
              | zero => exact Or.inr ⟨hj, by omega, fun q => by omega⟩
              | succ j =>
                cases j with
                | zero => exact Or.inr ⟨hj, by omega, fun q => by omega⟩
                | succ j =>
                  cases j with
                  | zero => exact Or.inr ⟨hj, by omega, fun q => by omega⟩
                  | succ j =>
                    cases j with
                    | zero => exact Or.inr ⟨hj, by omega, fun q => by omega⟩
                    | succ j =>
                      cases j with
                      | zero => exact absurd (Option.some.inj hj).symm hw
                      | succ j =>
                        cases j with
                        | zero => exact Or.inl ⟨rfl, (Option.some.inj hj).symm⟩
                        | succ j =>
                          exact Or.inr ⟨hj, by omega, fun q => by omega⟩
theorem z_lstore_11 {x0 x1 x2 x3 x4 x5 x6 x7 x8 x9 x10 : Value} {y y2 : Value} {t : List Value} {x : Int64} (hd : decode M.2.1 pc = .ok (.lstore 11, 2)) (hn : 12 < M.2.2.1) (hc : x10.category = 1) (k : zW l M N S (pc + 2) (x0 :: x1 :: x2 :: x3 :: x4 :: x5 :: x6 :: x7 :: x8 :: x9 :: x10 :: .long x :: zno :: t) st h Q) : zW l M N S pc (x0 :: x1 :: x2 :: x3 :: x4 :: x5 :: x6 :: x7 :: x8 :: x9 :: x10 :: y :: y2 :: t) (.long x :: st) h Q := by
  intro p e s m args below meth c E n0 z0 H locs cells slots ls R Z C A hl hR K
  refine lv_lstore C.1 C.2.1 hd (zlv_has hl) hn rfl (fun ls2 hl2 => ?_)
  refine k p e s m args below meth c E n0 z0 H locs cells slots ls2 R Z C A (zlv_store2 (v := .long x) hl2 ?_) hR K
  intro j w hj hw
  cases j with
  | zero => exact Or.inr ⟨hj, by omega, by omega, fun q => by omega⟩
  | succ j =>
    cases j with
    | zero => exact Or.inr ⟨hj, by omega, by omega, fun q => by omega⟩
    | succ j =>
      cases j with
      | zero => exact Or.inr ⟨hj, by omega, by omega, fun q => by omega⟩
      | succ j =>
        cases j with
        | zero => exact Or.inr ⟨hj, by omega, by omega, fun q => by omega⟩
        | succ j =>
          cases j with
          | zero => exact Or.inr ⟨hj, by omega, by omega, fun q => by omega⟩
          | succ j =>
            cases j with
            | zero => exact Or.inr ⟨hj, by omega, by omega, fun q => by omega⟩
            | succ j =>
              cases j with
              | zero => exact Or.inr ⟨hj, by omega, by omega, fun q => by omega⟩
              | succ j =>
                cases j with
                | zero => exact Or.inr ⟨hj, by omega, by omega, fun q => by omega⟩
                | succ j =>
                  cases j with
                  | zero => exact Or.inr ⟨hj, by omega, by omega, fun q => by omega⟩
                  | succ j =>
                    cases j with
                    | zero => exact Or.inr ⟨hj, by omega, by omega, fun q => by omega⟩
                    | succ j =>
                      cases j with
                      | zero => exact Or.inr ⟨hj, by omega, by omega, fun _ => (Option.some.inj hj) ▸ hc⟩
                      | succ j =>
                        cases j with
                        | zero => exact Or.inl ⟨rfl, (Option.some.inj hj).symm⟩
                        | succ j =>
                          cases j with
                          | zero => exact absurd (Option.some.inj hj).symm hw
                          | succ j => exact Or.inr ⟨hj, by omega, by omega, fun q => by omega⟩
theorem z_lstoreK_11 {x0 x1 x2 x3 x4 x5 x6 x7 x8 x9 x10 : Value} {y y2 : Value} {t : List Value} {x : Int64} (hd : decode M.2.1 pc = .ok (.lstore 11, 2)) (hn : 12 < M.2.2.1) (k : zW l M N S (pc + 2) (x0 :: x1 :: x2 :: x3 :: x4 :: x5 :: x6 :: x7 :: x8 :: x9 :: zno :: .long x :: zno :: t) st h Q) : zW l M N S pc (x0 :: x1 :: x2 :: x3 :: x4 :: x5 :: x6 :: x7 :: x8 :: x9 :: x10 :: y :: y2 :: t) (.long x :: st) h Q := by
  intro p e s m args below meth c E n0 z0 H locs cells slots ls R Z C A hl hR K
  refine lv_lstore C.1 C.2.1 hd (zlv_has hl) hn rfl (fun ls2 hl2 => ?_)
  refine k p e s m args below meth c E n0 z0 H locs cells slots ls2 R Z C A (zlv_store2 (v := .long x) hl2 ?_) hR K
  intro j w hj hw
  cases j with
  | zero => exact Or.inr ⟨hj, by omega, by omega, fun q => by omega⟩
  | succ j =>
    cases j with
    | zero => exact Or.inr ⟨hj, by omega, by omega, fun q => by omega⟩
    | succ j =>
      cases j with
      | zero => exact Or.inr ⟨hj, by omega, by omega, fun q => by omega⟩
      | succ j =>
        cases j with
        | zero => exact Or.inr ⟨hj, by omega, by omega, fun q => by omega⟩
        | succ j =>
          cases j with
          | zero => exact Or.inr ⟨hj, by omega, by omega, fun q => by omega⟩
          | succ j =>
            cases j with
            | zero => exact Or.inr ⟨hj, by omega, by omega, fun q => by omega⟩
            | succ j =>
              cases j with
              | zero => exact Or.inr ⟨hj, by omega, by omega, fun q => by omega⟩
              | succ j =>
                cases j with
                | zero => exact Or.inr ⟨hj, by omega, by omega, fun q => by omega⟩
                | succ j =>
                  cases j with
                  | zero => exact Or.inr ⟨hj, by omega, by omega, fun q => by omega⟩
                  | succ j =>
                    cases j with
                    | zero => exact Or.inr ⟨hj, by omega, by omega, fun q => by omega⟩
                    | succ j =>
                      cases j with
                      | zero => exact absurd (Option.some.inj hj).symm hw
                      | succ j =>
                        cases j with
                        | zero => exact Or.inl ⟨rfl, (Option.some.inj hj).symm⟩
                        | succ j =>
                          cases j with
                          | zero => exact absurd (Option.some.inj hj).symm hw
                          | succ j => exact Or.inr ⟨hj, by omega, by omega, fun q => by omega⟩
theorem z_iinc_11 {x0 x1 x2 x3 x4 x5 x6 x7 x8 x9 x10 : Value} {t : List Value} {x : Int32} {n : Int} (v : Int32) (hd : decode M.2.1 pc = .ok (.iinc 11 n, 3)) (hv : Int32.ofInt n = v) (hn : 11 < M.2.2.1) (hc : x10.category = 1) (k : zW l M N S (pc + 3) (x0 :: x1 :: x2 :: x3 :: x4 :: x5 :: x6 :: x7 :: x8 :: x9 :: x10 :: .int (x + v) :: t) st h Q) : zW l M N S pc (x0 :: x1 :: x2 :: x3 :: x4 :: x5 :: x6 :: x7 :: x8 :: x9 :: x10 :: .int x :: t) st h Q := by
  subst hv
  intro p e s m args below meth c E n0 z0 H locs cells slots ls R Z C A hl hR K
  obtain ⟨k0, hk0⟩ := List.getElem?_of_mem (zll_mem.mpr ⟨.int x, (rfl : (x0 :: x1 :: x2 :: x3 :: x4 :: x5 :: x6 :: x7 :: x8 :: x9 :: x10 :: .int x :: t)[11]? = _), (fun q => Value.noConfusion q), rfl⟩ : (11, ze E (.int x)) ∈ zll E (x0 :: x1 :: x2 :: x3 :: x4 :: x5 :: x6 :: x7 :: x8 :: x9 :: x10 :: .int x :: t))
  refine lv_iinc C.1 C.2.1 hd (zlv_has hl) hk0 rfl hn rfl (fun ls2 hl2 => ?_)
  refine k p e s m args below meth c E n0 z0 H locs cells slots ls2 R Z C A (zlv_store1 (v := .int (x + Int32.ofInt n)) hl2 ?_) hR K
  intro j w hj hw
  cases j with
  | zero => exact Or.inr ⟨hj, by omega, fun q => by omega⟩
  | succ j =>
    cases j with
    | zero => exact Or.inr ⟨hj, by omega, fun q => by omega⟩
    | succ j =>
      cases j with
      | zero => exact Or.inr ⟨hj, by omega, fun q => by omega⟩
      | succ j =>
        cases j with
        | zero => exact Or.inr ⟨hj, by omega, fun q => by omega⟩
        | succ j =>
          cases j with
          | zero => exact Or.inr ⟨hj, by omega, fun q => by omega⟩
          | succ j =>
            cases j with
            | zero => exact Or.inr ⟨hj, by omega, fun q => by omega⟩
            | succ j =>
              cases j with
              | zero => exact Or.inr ⟨hj, by omega, fun q => by omega⟩
              | succ j =>
                cases j with
                | zero => exact Or.inr ⟨hj, by omega, fun q => by omega⟩
                | succ j =>
                  cases j with
                  | zero => exact Or.inr ⟨hj, by omega, fun q => by omega⟩
                  | succ j =>
                    cases j with
                    | zero => exact Or.inr ⟨hj, by omega, fun q => by omega⟩
                    | succ j =>
                      cases j with
                      | zero => exact Or.inr ⟨hj, by omega, fun _ => (Option.some.inj hj) ▸ hc⟩
                      | succ j =>
                        cases j with
                        | zero => exact Or.inl ⟨rfl, (Option.some.inj hj).symm⟩
                        | succ j => exact Or.inr ⟨hj, by omega, fun q => by omega⟩
theorem z_iload_12 {x0 x1 x2 x3 x4 x5 x6 x7 x8 x9 x10 x11 : Value} {t : List Value} {x : Int32} (hd : decode M.2.1 pc = .ok (.iload 12, 2)) (k : zW l M N S (pc + 2) (x0 :: x1 :: x2 :: x3 :: x4 :: x5 :: x6 :: x7 :: x8 :: x9 :: x10 :: x11 :: .int x :: t) (.int x :: st) h Q) : zW l M N S pc (x0 :: x1 :: x2 :: x3 :: x4 :: x5 :: x6 :: x7 :: x8 :: x9 :: x10 :: x11 :: .int x :: t) st h Q := by
  intro p e s m args below meth c E n0 z0 H locs cells slots ls R Z C A hl hR K
  exact lv_iload C.1 C.2.1 hd (hl.2.2 12 (.int x) rfl (fun q => Value.noConfusion q)) (k p e s m args below meth c E n0 z0 H locs cells slots ls R Z C A hl hR K)
theorem z_lload_12 {x0 x1 x2 x3 x4 x5 x6 x7 x8 x9 x10 x11 : Value} {t : List Value} {x : Int64} (hd : decode M.2.1 pc = .ok (.lload 12, 2)) (k : zW l M N S (pc + 2) (x0 :: x1 :: x2 :: x3 :: x4 :: x5 :: x6 :: x7 :: x8 :: x9 :: x10 :: x11 :: .long x :: t) (.long x :: st) h Q) : zW l M N S pc (x0 :: x1 :: x2 :: x3 :: x4 :: x5 :: x6 :: x7 :: x8 :: x9 :: x10 :: x11 :: .long x :: t) st h Q := by
  intro p e s m args below meth c E n0 z0 H locs cells slots ls R Z C A hl hR K
  exact lv_lload C.1 C.2.1 hd (hl.2.2 12 (.long x) rfl (fun q => Value.noConfusion q)) (k p e s m args below meth c E n0 z0 H locs cells slots ls R Z C A hl hR K)
theorem z_aload_12 {x0 x1 x2 x3 x4 x5 x6 x7 x8 x9 x10 x11 : Value} {t : List Value} {x : Nat} (hd : decode M.2.1 pc = .ok (.aload 12, 2)) (k : zW l M N S (pc + 2) (x0 :: x1 :: x2 :: x3 :: x4 :: x5 :: x6 :: x7 :: x8 :: x9 :: x10 :: x11 :: .ref x :: t) (.ref x :: st) h Q) : zW l M N S pc (x0 :: x1 :: x2 :: x3 :: x4 :: x5 :: x6 :: x7 :: x8 :: x9 :: x10 :: x11 :: .ref x :: t) st h Q := by
  intro p e s m args below meth c E n0 z0 H locs cells slots ls R Z C A hl hR K
  exact lv_aload C.1 C.2.1 hd (hl.2.2 12 (.ref x) rfl (fun q => Value.noConfusion q)) (k p e s m args below meth c E n0 z0 H locs cells slots ls R Z C A hl hR K)
theorem z_istore_12 {x0 x1 x2 x3 x4 x5 x6 x7 x8 x9 x10 x11 : Value} {y : Value} {t : List Value} {x : Int32} (hd : decode M.2.1 pc = .ok (.istore 12, 2)) (hn : 12 < M.2.2.1) (hc : x11.category = 1) (k : zW l M N S (pc + 2) (x0 :: x1 :: x2 :: x3 :: x4 :: x5 :: x6 :: x7 :: x8 :: x9 :: x10 :: x11 :: .int x :: t) st h Q) : zW l M N S pc (x0 :: x1 :: x2 :: x3 :: x4 :: x5 :: x6 :: x7 :: x8 :: x9 :: x10 :: x11 :: y :: t) (.int x :: st) h Q := by
  intro p e s m args below meth c E n0 z0 H locs cells slots ls R Z C A hl hR K
  refine lv_istore C.1 C.2.1 hd (zlv_has hl) hn rfl (fun ls2 hl2 => ?_)
  refine k p e s m args below meth c E n0 z0 H locs cells slots ls2 R Z C A (zlv_store1 (v := .int x) hl2 ?_) hR K
  intro j w hj hw
  cases j with
  | zero => exact Or.inr ⟨hj, by omega, fun q => by omega⟩
  | succ j =>
    cases j with
    | zero => exact Or.inr ⟨hj, by omega, fun q => by omega⟩
    | succ j =>
      cases j with
      | zero => exact Or.inr ⟨hj, by omega, fun q => by omega⟩
      | succ j =>
        cases j with
        | zero => exact Or.inr ⟨hj, by omega, fun q => by omega⟩
        | succ j =>
          cases j with
          | zero => exact Or.inr ⟨hj, by omega, fun q => by omega⟩
          | succ j =>
            cases j with
            | zero => exact Or.inr ⟨hj, by omega, fun q => by omega⟩
            | succ j =>
              cases j with
              | zero => exact Or.inr ⟨hj, by omega, fun q => by omega⟩
              | succ j =>
                cases j with
                | zero => exact Or.inr ⟨hj, by omega, fun q => by omega⟩
                | succ j =>
                  cases j with
                  | zero => exact Or.inr ⟨hj, by omega, fun q => by omega⟩
                  | succ j =>
                    cases j with
                    | zero => exact Or.inr ⟨hj, by omega, fun q => by omega⟩
                    | succ j =>
                      cases j with
                      | zero => exact Or.inr ⟨hj, by omega, fun q => by omega⟩
                      | succ j =>
                        cases j with
                        | zero => exact Or.inr ⟨hj, by omega, fun _ => (Option.some.inj hj) ▸ hc⟩
                        | succ j =>
                          cases j with
                          | zero => exact Or.inl ⟨rfl, (Option.some.inj hj).symm⟩
                          | succ j =>
                            exact Or.inr ⟨hj, by omega, fun q => by omega⟩
theorem z_istoreK_12 {x0 x1 x2 x3 x4 x5 x6 x7 x8 x9 x10 x11 : Value} {y : Value} {t : List Value} {x : Int32} (hd : decode M.2.1 pc = .ok (.istore 12, 2)) (hn : 12 < M.2.2.1) (k : zW l M N S (pc + 2) (x0 :: x1 :: x2 :: x3 :: x4 :: x5 :: x6 :: x7 :: x8 :: x9 :: x10 :: zno :: .int x :: t) st h Q) : zW l M N S pc (x0 :: x1 :: x2 :: x3 :: x4 :: x5 :: x6 :: x7 :: x8 :: x9 :: x10 :: x11 :: y :: t) (.int x :: st) h Q := by
  intro p e s m args below meth c E n0 z0 H locs cells slots ls R Z C A hl hR K
  refine lv_istore C.1 C.2.1 hd (zlv_has hl) hn rfl (fun ls2 hl2 => ?_)
  refine k p e s m args below meth c E n0 z0 H locs cells slots ls2 R Z C A (zlv_store1 (v := .int x) hl2 ?_) hR K
  intro j w hj hw
  cases j with
  | zero => exact Or.inr ⟨hj, by omega, fun q => by omega⟩
  | succ j =>
    cases j with
    | zero => exact Or.inr ⟨hj, by omega, fun q => by omega⟩
    | succ j =>
      cases j with
      | zero => exact Or.inr ⟨hj, by omega, fun q => by omega⟩
      | succ j =>
        cases j with
        | zero => exact Or.inr ⟨hj, by omega, fun q => by omega⟩
        | succ j =>
          cases j with
          | zero => exact Or.inr ⟨hj, by omega, fun q => by omega⟩
          | succ j =>
            cases j with
            | zero => exact Or.inr ⟨hj, by omega, fun q => by omega⟩
            | succ j =>
              cases j with
              | zero => exact Or.inr ⟨hj, by omega, fun q => by omega⟩
              | succ j =>
                cases j with
                | zero => exact Or.inr ⟨hj, by omega, fun q => by omega⟩
                | succ j =>
                  cases j with
                  | zero => exact Or.inr ⟨hj, by omega, fun q => by omega⟩
                  | succ j =>
                    cases j with
                    | zero => exact Or.inr ⟨hj, by omega, fun q => by omega⟩
                    | succ j =>
                      cases j with
                      | zero => exact Or.inr ⟨hj, by omega, fun q => by omega⟩
                      | succ j =>
                        cases j with
                        | zero => exact absurd (Option.some.inj hj).symm hw
                        | succ j =>
                          cases j with
                          | zero => exact Or.inl ⟨rfl, (Option.some.inj hj).symm⟩
                          | succ j =>
                            exact Or.inr ⟨hj, by omega, fun q => by omega⟩
theorem z_astore_12 {x0 x1 x2 x3 x4 x5 x6 x7 x8 x9 x10 x11 : Value} {y : Value} {t : List Value} {x : Nat} (hd : decode M.2.1 pc = .ok (.astore 12, 2)) (hn : 12 < M.2.2.1) (hc : x11.category = 1) (k : zW l M N S (pc + 2) (x0 :: x1 :: x2 :: x3 :: x4 :: x5 :: x6 :: x7 :: x8 :: x9 :: x10 :: x11 :: .ref x :: t) st h Q) : zW l M N S pc (x0 :: x1 :: x2 :: x3 :: x4 :: x5 :: x6 :: x7 :: x8 :: x9 :: x10 :: x11 :: y :: t) (.ref x :: st) h Q := by
  intro p e s m args below meth c E n0 z0 H locs cells slots ls R Z C A hl hR K
  refine lv_astore C.1 C.2.1 hd (zlv_has hl) hn rfl (fun ls2 hl2 => ?_)
  refine k p e s m args below meth c E n0 z0 H locs cells slots ls2 R Z C A (zlv_store1 (v := .ref x) hl2 ?_) hR K
  intro j w hj hw
  cases j with
  | zero => exact Or.inr ⟨hj, by omega, fun q => by omega⟩
  | succ j =>
    cases j with
    | zero => exact Or.inr ⟨hj, by omega, fun q => by omega⟩
    | succ j =>
      cases j with
      | zero => exact Or.inr ⟨hj, by omega, fun q => by omega⟩
      | succ j =>
        cases j with
        | zero => exact Or.inr ⟨hj, by omega, fun q => by omega⟩
        | succ j =>
          cases j with
          | zero => exact Or.inr ⟨hj, by omega, fun q => by omega⟩
          | succ j =>
            cases j with
            | zero => exact Or.inr ⟨hj, by omega, fun q => by omega⟩
            | succ j =>
              cases j with
              | zero => exact Or.inr ⟨hj, by omega, fun q => by omega⟩
              | succ j =>
                cases j with
                | zero => exact Or.inr ⟨hj, by omega, fun q => by omega⟩
                | succ j =>
                  cases j with
                  | zero => exact Or.inr ⟨hj, by omega, fun q => by omega⟩
                  | succ j =>
                    cases j with
                    | zero => exact Or.inr ⟨hj, by omega, fun q => by omega⟩
                    | succ j =>
                      cases j with
                      | zero => exact Or.inr ⟨hj, by omega, fun q => by omega⟩
                      | succ j =>
                        cases j with
                        | zero => exact Or.inr ⟨hj, by omega, fun _ => (Option.some.inj hj) ▸ hc⟩
                        | succ j =>
                          cases j with
                          | zero => exact Or.inl ⟨rfl, (Option.some.inj hj).symm⟩
                          | succ j =>
                            exact Or.inr ⟨hj, by omega, fun q => by omega⟩
theorem z_astoreK_12 {x0 x1 x2 x3 x4 x5 x6 x7 x8 x9 x10 x11 : Value} {y : Value} {t : List Value} {x : Nat} (hd : decode M.2.1 pc = .ok (.astore 12, 2)) (hn : 12 < M.2.2.1) (k : zW l M N S (pc + 2) (x0 :: x1 :: x2 :: x3 :: x4 :: x5 :: x6 :: x7 :: x8 :: x9 :: x10 :: zno :: .ref x :: t) st h Q) : zW l M N S pc (x0 :: x1 :: x2 :: x3 :: x4 :: x5 :: x6 :: x7 :: x8 :: x9 :: x10 :: x11 :: y :: t) (.ref x :: st) h Q := by
  intro p e s m args below meth c E n0 z0 H locs cells slots ls R Z C A hl hR K
  refine lv_astore C.1 C.2.1 hd (zlv_has hl) hn rfl (fun ls2 hl2 => ?_)
  refine k p e s m args below meth c E n0 z0 H locs cells slots ls2 R Z C A (zlv_store1 (v := .ref x) hl2 ?_) hR K
  intro j w hj hw
  cases j with
  | zero => exact Or.inr ⟨hj, by omega, fun q => by omega⟩
  | succ j =>
    cases j with
    | zero => exact Or.inr ⟨hj, by omega, fun q => by omega⟩
    | succ j =>
      cases j with
      | zero => exact Or.inr ⟨hj, by omega, fun q => by omega⟩
      | succ j =>
        cases j with
        | zero => exact Or.inr ⟨hj, by omega, fun q => by omega⟩
        | succ j =>
          cases j with
          | zero => exact Or.inr ⟨hj, by omega, fun q => by omega⟩
          | succ j =>
            cases j with
            | zero => exact Or.inr ⟨hj, by omega, fun q => by omega⟩
            | succ j =>
              cases j with
              | zero => exact Or.inr ⟨hj, by omega, fun q => by omega⟩
              | succ j =>
                cases j with
                | zero => exact Or.inr ⟨hj, by omega, fun q => by omega⟩
                | succ j =>
                  cases j with
                  | zero => exact Or.inr ⟨hj, by omega, fun q => by omega⟩
                  | succ j =>
                    cases j with
                    | zero => exact Or.inr ⟨hj, by omega, fun q => by omega⟩
                    | succ j =>
                      cases j with
                      | zero => exact Or.inr ⟨hj, by omega, fun q => by omega⟩
                      | succ j =>
                        cases j with
                        | zero => exact absurd (Option.some.inj hj).symm hw
                        | succ j =>
                          cases j with
                          | zero => exact Or.inl ⟨rfl, (Option.some.inj hj).symm⟩
                          | succ j =>
                            exact Or.inr ⟨hj, by omega, fun q => by omega⟩
theorem z_lstore_12 {x0 x1 x2 x3 x4 x5 x6 x7 x8 x9 x10 x11 : Value} {y y2 : Value} {t : List Value} {x : Int64} (hd : decode M.2.1 pc = .ok (.lstore 12, 2)) (hn : 13 < M.2.2.1) (hc : x11.category = 1) (k : zW l M N S (pc + 2) (x0 :: x1 :: x2 :: x3 :: x4 :: x5 :: x6 :: x7 :: x8 :: x9 :: x10 :: x11 :: .long x :: zno :: t) st h Q) : zW l M N S pc (x0 :: x1 :: x2 :: x3 :: x4 :: x5 :: x6 :: x7 :: x8 :: x9 :: x10 :: x11 :: y :: y2 :: t) (.long x :: st) h Q := by
  intro p e s m args below meth c E n0 z0 H locs cells slots ls R Z C A hl hR K
  refine lv_lstore C.1 C.2.1 hd (zlv_has hl) hn rfl (fun ls2 hl2 => ?_)
  refine k p e s m args below meth c E n0 z0 H locs cells slots ls2 R Z C A (zlv_store2 (v := .long x) hl2 ?_) hR K
  intro j w hj hw
  cases j with
  | zero => exact Or.inr ⟨hj, by omega, by omega, fun q => by omega⟩
  | succ j =>
    cases j with
    | zero => exact Or.inr ⟨hj, by omega, by omega, fun q => by omega⟩
    | succ j =>
      cases j with
      | zero => exact Or.inr ⟨hj, by omega, by omega, fun q => by omega⟩
      | succ j =>
        cases j with
        | zero => exact Or.inr ⟨hj, by omega, by omega, fun q => by omega⟩
        | succ j =>
          cases j with
          | zero => exact Or.inr ⟨hj, by omega, by omega, fun q => by omega⟩
          | succ j =>
            cases j with
            | zero => exact Or.inr ⟨hj, by omega, by omega, fun q => by omega⟩
            | succ j =>
              cases j with
              | zero => exact Or.inr ⟨hj, by omega, by omega, fun q => by omega⟩
              | succ j =>
                cases j with
                | zero => exact Or.inr ⟨hj, by omega, by omega, fun q => by omega⟩
                | succ j =>
                  cases j with
                  | zero => exact Or.inr ⟨hj, by omega, by omega, fun q => by omega⟩
                  | succ j =>
                    cases j with
                    | zero => exact Or.inr ⟨hj, by omega, by omega, fun q => by omega⟩
                    | succ j =>
                      cases j with
                      | zero => exact Or.inr ⟨hj, by omega, by omega, fun q => by omega⟩
                      | succ j =>
                        cases j with
                        | zero => exact Or.inr ⟨hj, by omega, by omega, fun _ => (Option.some.inj hj) ▸ hc⟩
                        | succ j =>
                          cases j with
                          | zero => exact Or.inl ⟨rfl, (Option.some.inj hj).symm⟩
                          | succ j =>
                            cases j with
                            | zero => exact absurd (Option.some.inj hj).symm hw
                            | succ j => exact Or.inr ⟨hj, by omega, by omega, fun q => by omega⟩
theorem z_lstoreK_12 {x0 x1 x2 x3 x4 x5 x6 x7 x8 x9 x10 x11 : Value} {y y2 : Value} {t : List Value} {x : Int64} (hd : decode M.2.1 pc = .ok (.lstore 12, 2)) (hn : 13 < M.2.2.1) (k : zW l M N S (pc + 2) (x0 :: x1 :: x2 :: x3 :: x4 :: x5 :: x6 :: x7 :: x8 :: x9 :: x10 :: zno :: .long x :: zno :: t) st h Q) : zW l M N S pc (x0 :: x1 :: x2 :: x3 :: x4 :: x5 :: x6 :: x7 :: x8 :: x9 :: x10 :: x11 :: y :: y2 :: t) (.long x :: st) h Q := by
  intro p e s m args below meth c E n0 z0 H locs cells slots ls R Z C A hl hR K
  refine lv_lstore C.1 C.2.1 hd (zlv_has hl) hn rfl (fun ls2 hl2 => ?_)
  refine k p e s m args below meth c E n0 z0 H locs cells slots ls2 R Z C A (zlv_store2 (v := .long x) hl2 ?_) hR K
  intro j w hj hw
  cases j with
  | zero => exact Or.inr ⟨hj, by omega, by omega, fun q => by omega⟩
  | succ j =>
    cases j with
    | zero => exact Or.inr ⟨hj, by omega, by omega, fun q => by omega⟩
    | succ j =>
      cases j with
      | zero => exact Or.inr ⟨hj, by omega, by omega, fun q => by omega⟩
      | succ j =>
        cases j with
        | zero => exact Or.inr ⟨hj, by omega, by omega, fun q => by omega⟩
        | succ j =>
          cases j with
          | zero => exact Or.inr ⟨hj, by omega, by omega, fun q => by omega⟩
          | succ j =>
            cases j with
            | zero => exact Or.inr ⟨hj, by omega, by omega, fun q => by omega⟩
            | succ j =>
              cases j with
              | zero => exact Or.inr ⟨hj, by omega, by omega, fun q => by omega⟩
              | succ j =>
                cases j with
                | zero => exact Or.inr ⟨hj, by omega, by omega, fun q => by omega⟩
                | succ j =>
                  cases j with
                  | zero => exact Or.inr ⟨hj, by omega, by omega, fun q => by omega⟩
                  | succ j =>
                    cases j with
                    | zero => exact Or.inr ⟨hj, by omega, by omega, fun q => by omega⟩
                    | succ j =>
                      cases j with
                      | zero => exact Or.inr ⟨hj, by omega, by omega, fun q => by omega⟩
                      | succ j =>
                        cases j with
                        | zero => exact absurd (Option.some.inj hj).symm hw
                        | succ j =>
                          cases j with
                          | zero => exact Or.inl ⟨rfl, (Option.some.inj hj).symm⟩
                          | succ j =>
                            cases j with
                            | zero => exact absurd (Option.some.inj hj).symm hw
                            | succ j => exact Or.inr ⟨hj, by omega, by omega, fun q => by omega⟩
theorem z_iinc_12 {x0 x1 x2 x3 x4 x5 x6 x7 x8 x9 x10 x11 : Value} {t : List Value} {x : Int32} {n : Int} (v : Int32) (hd : decode M.2.1 pc = .ok (.iinc 12 n, 3)) (hv : Int32.ofInt n = v) (hn : 12 < M.2.2.1) (hc : x11.category = 1) (k : zW l M N S (pc + 3) (x0 :: x1 :: x2 :: x3 :: x4 :: x5 :: x6 :: x7 :: x8 :: x9 :: x10 :: x11 :: .int (x + v) :: t) st h Q) : zW l M N S pc (x0 :: x1 :: x2 :: x3 :: x4 :: x5 :: x6 :: x7 :: x8 :: x9 :: x10 :: x11 :: .int x :: t) st h Q := by
  subst hv
  intro p e s m args below meth c E n0 z0 H locs cells slots ls R Z C A hl hR K
  obtain ⟨k0, hk0⟩ := List.getElem?_of_mem (zll_mem.mpr ⟨.int x, (rfl : (x0 :: x1 :: x2 :: x3 :: x4 :: x5 :: x6 :: x7 :: x8 :: x9 :: x10 :: x11 :: .int x :: t)[12]? = _), (fun q => Value.noConfusion q), rfl⟩ : (12, ze E (.int x)) ∈ zll E (x0 :: x1 :: x2 :: x3 :: x4 :: x5 :: x6 :: x7 :: x8 :: x9 :: x10 :: x11 :: .int x :: t))
  refine lv_iinc C.1 C.2.1 hd (zlv_has hl) hk0 rfl hn rfl (fun ls2 hl2 => ?_)
  refine k p e s m args below meth c E n0 z0 H locs cells slots ls2 R Z C A (zlv_store1 (v := .int (x + Int32.ofInt n)) hl2 ?_) hR K
  intro j w hj hw
  cases j with
  | zero => exact Or.inr ⟨hj, by omega, fun q => by omega⟩
  | succ j =>
    cases j with
    | zero => exact Or.inr ⟨hj, by omega, fun q => by omega⟩
    | succ j =>
      cases j with
      | zero => exact Or.inr ⟨hj, by omega, fun q => by omega⟩
      | succ j =>
        cases j with
        | zero => exact Or.inr ⟨hj, by omega, fun q => by omega⟩
        | succ j =>
          cases j with
          | zero => exact Or.inr ⟨hj, by omega, fun q => by omega⟩
          | succ j =>
            cases j with
            | zero => exact Or.inr ⟨hj, by omega, fun q => by omega⟩
            | succ j =>
              cases j with
              | zero => exact Or.inr ⟨hj, by omega, fun q => by omega⟩
              | succ j =>
                cases j with
                | zero => exact Or.inr ⟨hj, by omega, fun q => by omega⟩
                | succ j =>
                  cases j with
                  | zero => exact Or.inr ⟨hj, by omega, fun q => by omega⟩
                  | succ j =>
                    cases j with
                    | zero => exact Or.inr ⟨hj, by omega, fun q => by omega⟩
                    | succ j =>
                      cases j with
                      | zero => exact Or.inr ⟨hj, by omega, fun q => by omega⟩
                      | succ j =>
                        cases j with
                        | zero => exact Or.inr ⟨hj, by omega, fun _ => (Option.some.inj hj) ▸ hc⟩
                        | succ j =>
                          cases j with
                          | zero => exact Or.inl ⟨rfl, (Option.some.inj hj).symm⟩
                          | succ j => exact Or.inr ⟨hj, by omega, fun q => by omega⟩
theorem z_iload_13 {x0 x1 x2 x3 x4 x5 x6 x7 x8 x9 x10 x11 x12 : Value} {t : List Value} {x : Int32} (hd : decode M.2.1 pc = .ok (.iload 13, 2)) (k : zW l M N S (pc + 2) (x0 :: x1 :: x2 :: x3 :: x4 :: x5 :: x6 :: x7 :: x8 :: x9 :: x10 :: x11 :: x12 :: .int x :: t) (.int x :: st) h Q) : zW l M N S pc (x0 :: x1 :: x2 :: x3 :: x4 :: x5 :: x6 :: x7 :: x8 :: x9 :: x10 :: x11 :: x12 :: .int x :: t) st h Q := by
  intro p e s m args below meth c E n0 z0 H locs cells slots ls R Z C A hl hR K
  exact lv_iload C.1 C.2.1 hd (hl.2.2 13 (.int x) rfl (fun q => Value.noConfusion q)) (k p e s m args below meth c E n0 z0 H locs cells slots ls R Z C A hl hR K)
theorem z_lload_13 {x0 x1 x2 x3 x4 x5 x6 x7 x8 x9 x10 x11 x12 : Value} {t : List Value} {x : Int64} (hd : decode M.2.1 pc = .ok (.lload 13, 2)) (k : zW l M N S (pc + 2) (x0 :: x1 :: x2 :: x3 :: x4 :: x5 :: x6 :: x7 :: x8 :: x9 :: x10 :: x11 :: x12 :: .long x :: t) (.long x :: st) h Q) : zW l M N S pc (x0 :: x1 :: x2 :: x3 :: x4 :: x5 :: x6 :: x7 :: x8 :: x9 :: x10 :: x11 :: x12 :: .long x :: t) st h Q := by
  intro p e s m args below meth c E n0 z0 H locs cells slots ls R Z C A hl hR K
  exact lv_lload C.1 C.2.1 hd (hl.2.2 13 (.long x) rfl (fun q => Value.noConfusion q)) (k p e s m args below meth c E n0 z0 H locs cells slots ls R Z C A hl hR K)
theorem z_aload_13 {x0 x1 x2 x3 x4 x5 x6 x7 x8 x9 x10 x11 x12 : Value} {t : List Value} {x : Nat} (hd : decode M.2.1 pc = .ok (.aload 13, 2)) (k : zW l M N S (pc + 2) (x0 :: x1 :: x2 :: x3 :: x4 :: x5 :: x6 :: x7 :: x8 :: x9 :: x10 :: x11 :: x12 :: .ref x :: t) (.ref x :: st) h Q) : zW l M N S pc (x0 :: x1 :: x2 :: x3 :: x4 :: x5 :: x6 :: x7 :: x8 :: x9 :: x10 :: x11 :: x12 :: .ref x :: t) st h Q := by
  intro p e s m args below meth c E n0 z0 H locs cells slots ls R Z C A hl hR K
  exact lv_aload C.1 C.2.1 hd (hl.2.2 13 (.ref x) rfl (fun q => Value.noConfusion q)) (k p e s m args below meth c E n0 z0 H locs cells slots ls R Z C A hl hR K)
theorem z_istore_13 {x0 x1 x2 x3 x4 x5 x6 x7 x8 x9 x10 x11 x12 : Value} {y : Value} {t : List Value} {x : Int32} (hd : decode M.2.1 pc = .ok (.istore 13, 2)) (hn : 13 < M.2.2.1) (hc : x12.category = 1) (k : zW l M N S (pc + 2) (x0 :: x1 :: x2 :: x3 :: x4 :: x5 :: x6 :: x7 :: x8 :: x9 :: x10 :: x11 :: x12 :: .int x :: t) st h Q) : zW l M N S pc (x0 :: x1 :: x2 :: x3 :: x4 :: x5 :: x6 :: x7 :: x8 :: x9 :: x10 :: x11 :: x12 :: y :: t) (.int x :: st) h Q := by
  intro p e s m args below meth c E n0 z0 H locs cells slots ls R Z C A hl hR K
  refine lv_istore C.1 C.2.1 hd (zlv_has hl) hn rfl (fun ls2 hl2 => ?_)
  refine k p e s m args below meth c E n0 z0 H locs cells slots ls2 R Z C A (zlv_store1 (v := .int x) hl2 ?_) hR K
  intro j w hj hw
  cases j with
  | zero => exact Or.inr ⟨hj, by omega, fun q => by omega⟩
  | succ j =>
    cases j with
    | zero => exact Or.inr ⟨hj, by omega, fun q => by omega⟩
    | succ j =>
      cases j with
      | zero => exact Or.inr ⟨hj, by omega, fun q => by omega⟩
      | succ j =>
        cases j with
        | zero => exact Or.inr ⟨hj, by omega, fun q => by omega⟩
        | succ j =>
          cases j with
          | zero => exact Or.inr ⟨hj, by omega, fun q => by omega⟩
          | succ j =>
            cases j with
            | zero => exact Or.inr ⟨hj, by omega, fun q => by omega⟩
            | succ j =>
              cases j with
              | zero => exact Or.inr ⟨hj, by omega, fun q => by omega⟩
              | succ j =>
                cases j with
                | zero => exact Or.inr ⟨hj, by omega, fun q => by omega⟩
                | succ j =>
                  cases j with
                  | zero => exact Or.inr ⟨hj, by omega, fun q => by omega⟩
                  | succ j =>
                    cases j with
                    | zero => exact Or.inr ⟨hj, by omega, fun q => by omega⟩
                    | succ j =>
                      cases j with
                      | zero => exact Or.inr ⟨hj, by omega, fun q => by omega⟩
                      | succ j =>
                        cases j with
                        | zero => exact Or.inr ⟨hj, by omega, fun q => by omega⟩
                        | succ j =>
                          cases j with
                          | zero => exact Or.inr ⟨hj, by omega, fun _ => (Option.some.inj hj) ▸ hc⟩
                          | succ j =>
                            cases j with
                            | zero => exact Or.inl ⟨rfl, (Option.some.inj hj).symm⟩
                            | succ j =>
                              exact Or.inr ⟨hj, by omega, fun q => by omega⟩
theorem z_istoreK_13 {x0 x1 x2 x3 x4 x5 x6 x7 x8 x9 x10 x11 x12 : Value} {y : Value} {t : List Value} {x : Int32} (hd : decode M.2.1 pc = .ok (.istore 13, 2)) (hn : 13 < M.2.2.1) (k : zW l M N S (pc + 2) (x0 :: x1 :: x2 :: x3 :: x4 :: x5 :: x6 :: x7 :: x8 :: x9 :: x10 :: x11 :: zno :: .int x :: t) st h Q) : zW l M N S pc (x0 :: x1 :: x2 :: x3 :: x4 :: x5 :: x6 :: x7 :: x8 :: x9 :: x10 :: x11 :: x12 :: y :: t) (.int x :: st) h Q := by
  intro p e s m args below meth c E n0 z0 H locs cells slots ls R Z C A hl hR K
  refine lv_istore C.1 C.2.1 hd (zlv_has hl) hn rfl (fun ls2 hl2 => ?_)
  refine k p e s m args below meth c E n0 z0 H locs cells slots ls2 R Z C A (zlv_store1 (v := .int x) hl2 ?_) hR K
  intro j w hj hw
  cases j with
  | zero => exact Or.inr ⟨hj, by omega, fun q => by omega⟩
  | succ j =>
    cases j with
    | zero => exact Or.inr ⟨hj, by omega, fun q => by omega⟩
    | succ j =>
      cases j with
      | zero => exact Or.inr ⟨hj, by omega, fun q => by omega⟩
      | succ j =>
        cases j with
        | zero => exact Or.inr ⟨hj, by omega, fun q => by omega⟩
        | succ j =>
          cases j with
          | zero => exact Or.inr ⟨hj, by omega, fun q => by omega⟩
          | succ j =>
            cases j with
            | zero => exact Or.inr ⟨hj, by omega, fun q => by omega⟩
            | succ j =>
              cases j with
              | zero => exact Or.inr ⟨hj, by omega, fun q => by omega⟩
              | succ j =>
                cases j with
                | zero => exact Or.inr ⟨hj, by omega, fun q => by omega⟩
                | succ j =>
                  cases j with
                  | zero => exact Or.inr ⟨hj, by omega, fun q => by omega⟩
                  | succ j =>
                    cases j with
                    | zero => exact Or.inr ⟨hj, by omega, fun q => by omega⟩
                    | succ j =>
                      cases j with
                      | zero => exact Or.inr ⟨hj, by omega, fun q => by omega⟩
                      | succ j =>
                        cases j with
                        | zero => exact Or.inr ⟨hj, by omega, fun q => by omega⟩
                        | succ j =>
                          cases j with
                          | zero => exact absurd (Option.some.inj hj).symm hw
                          | succ j =>
                            cases j with
                            | zero => exact Or.inl ⟨rfl, (Option.some.inj hj).symm⟩
                            | succ j =>
                              exact Or.inr ⟨hj, by omega, fun q => by omega⟩
theorem z_astore_13 {x0 x1 x2 x3 x4 x5 x6 x7 x8 x9 x10 x11 x12 : Value} {y : Value} {t : List Value} {x : Nat} (hd : decode M.2.1 pc = .ok (.astore 13, 2)) (hn : 13 < M.2.2.1) (hc : x12.category = 1) (k : zW l M N S (pc + 2) (x0 :: x1 :: x2 :: x3 :: x4 :: x5 :: x6 :: x7 :: x8 :: x9 :: x10 :: x11 :: x12 :: .ref x :: t) st h Q) : zW l M N S pc (x0 :: x1 :: x2 :: x3 :: x4 :: x5 :: x6 :: x7 :: x8 :: x9 :: x10 :: x11 :: x12 :: y :: t) (.ref x :: st) h Q := by
  intro p e s m args below meth c E n0 z0 H locs cells slots ls R Z C A hl hR K
  refine lv_astore C.1 C.2.1 hd (zlv_has hl) hn rfl (fun ls2 hl2 => ?_)
  refine k p e s m args below meth c E n0 z0 H locs cells slots ls2 R Z C A (zlv_store1 (v := .ref x) hl2 ?_) hR K
  intro j w hj hw
  cases j with
  | zero => exact Or.inr ⟨hj, by omega, fun q => by omega⟩
  | succ j =>
    cases j with
    | zero => exact Or.inr ⟨hj, by omega, fun q => by omega⟩
    | succ j =>
      cases j with
      | zero => exact Or.inr ⟨hj, by omega, fun q => by omega⟩
      | succ j =>
        cases j with
        | zero => exact Or.inr ⟨hj, by omega, fun q => by omega⟩
        | succ j =>
          cases j with
          | zero => exact Or.inr ⟨hj, by omega, fun q => by omega⟩
          | succ j =>
            cases j with
            | zero => exact Or.inr ⟨hj, by omega, fun q => by omega⟩
            | succ j =>
              cases j with
              | zero => exact Or.inr ⟨hj, by omega, fun q => by omega⟩
              | succ j =>
                cases j with
                | zero => exact Or.inr ⟨hj, by omega, fun q => by omega⟩
                | succ j =>
                  cases j with
                  | zero => exact Or.inr ⟨hj, by omega, fun q => by omega⟩
                  | succ j =>
                    cases j with
                    | zero => exact Or.inr ⟨hj, by omega, fun q => by omega⟩
                    | succ j =>
                      cases j with
                      | zero => exact Or.inr ⟨hj, by omega, fun q => by omega⟩
                      | succ j =>
                        cases j with
                        | zero => exact Or.inr ⟨hj, by omega, fun q => by omega⟩
                        | succ j =>
                          cases j with
                          | zero => exact Or.inr ⟨hj, by omega, fun _ => (Option.some.inj hj) ▸ hc⟩
                          | succ j =>
                            cases j with
                            | zero => exact Or.inl ⟨rfl, (Option.some.inj hj).symm⟩
                            | succ j =>
                              exact Or.inr ⟨hj, by omega, fun q => by omega⟩
theorem z_astoreK_13 {x0 x1 x2 x3 x4 x5 x6 x7 x8 x9 x10 x11 x12 : Value} {y : Value} {t : List Value} {x : Nat} (hd : decode M.2.1 pc = .ok (.astore 13, 2)) (hn : 13 < M.2.2.1) (k : zW l M N S (pc + 2) (x0 :: x1 :: x2 :: x3 :: x4 :: x5 :: x6 :: x7 :: x8 :: x9 :: x10 :: x11 :: zno :: .ref x :: t) st h Q) : zW l M N S pc (x0 :: x1 :: x2 :: x3 :: x4 :: x5 :: x6 :: x7 :: x8 :: x9 :: x10 :: x11 :: x12 :: y :: t) (.ref x :: st) h Q := by
  intro p e s m args below meth c E n0 z0 H locs cells slots ls R Z C A hl hR K
  refine lv_astore C.1 C.2.1 hd (zlv_has hl) hn rfl (fun ls2 hl2 => ?_)
  refine k p e s m args below meth c E n0 z0 H locs cells slots ls2 R Z C A (zlv_store1 (v := .ref x) hl2 ?_) hR K
  intro j w hj hw
  cases j with
  | zero => exact Or.inr ⟨hj, by omega, fun q => by omega⟩
  | succ j =>
    cases j with
    | zero => exact Or.inr ⟨hj, by omega, fun q => by omega⟩
    | succ j =>
      cases j with
      | zero => exact Or.inr ⟨hj, by omega, fun q => by omega⟩
      | succ j =>
        cases j with
        | zero => exact Or.inr ⟨hj, by omega, fun q => by omega⟩
        | succ j =>
          cases j with
          | zero => exact Or.inr ⟨hj, by omega, fun q => by omega⟩
          | succ j =>
            cases j with
            | zero => exact Or.inr ⟨hj, by omega, fun q => by omega⟩
            | succ j =>
              cases j with
              | zero => exact Or.inr ⟨hj, by omega, fun q => by omega⟩
              | succ j =>
                cases j with
                | zero => exact Or.inr ⟨hj, by omega, fun q => by omega⟩
                | succ j =>
                  cases j with
                  | zero => exact Or.inr ⟨hj, by omega, fun q => by omega⟩
                  | succ j =>
                    cases j with
                    | zero => exact Or.inr ⟨hj, by omega, fun q => by omega⟩
                    | succ j =>
                      cases j with
                      | zero => exact Or.inr ⟨hj, by omega, fun q => by omega⟩
                      | succ j =>
                        cases j with
                        | zero => exact Or.inr ⟨hj, by omega, fun q => by omega⟩
                        | succ j =>
                          cases j with
                          | zero => exact absurd (Option.some.inj hj).symm hw
                          | succ j =>
                            cases j with
                            | zero => exact Or.inl ⟨rfl, (Option.some.inj hj).symm⟩
                            | succ j =>
                              exact Or.inr ⟨hj, by omega, fun q => by omega⟩
theorem z_lstore_13 {x0 x1 x2 x3 x4 x5 x6 x7 x8 x9 x10 x11 x12 : Value} {y y2 : Value} {t : List Value} {x : Int64} (hd : decode M.2.1 pc = .ok (.lstore 13, 2)) (hn : 14 < M.2.2.1) (hc : x12.category = 1) (k : zW l M N S (pc + 2) (x0 :: x1 :: x2 :: x3 :: x4 :: x5 :: x6 :: x7 :: x8 :: x9 :: x10 :: x11 :: x12 :: .long x :: zno :: t) st h Q) : zW l M N S pc (x0 :: x1 :: x2 :: x3 :: x4 :: x5 :: x6 :: x7 :: x8 :: x9 :: x10 :: x11 :: x12 :: y :: y2 :: t) (.long x :: st) h Q := by
  intro p e s m args below meth c E n0 z0 H locs cells slots ls R Z C A hl hR K
  refine lv_lstore C.1 C.2.1 hd (zlv_has hl) hn rfl (fun ls2 hl2 => ?_)
  refine k p e s m args below meth c E n0 z0 H locs cells slots ls2 R Z C A (zlv_store2 (v := .long x) hl2 ?_) hR K
  intro j w hj hw
  cases j with
  | zero => exact Or.inr ⟨hj, by omega, by omega, fun q => by omega⟩
  | succ j =>
    cases j with
    | zero => exact Or.inr ⟨hj, by omega, by omega, fun q => by omega⟩
    | succ j =>
      cases j with
      | zero => exact Or.inr ⟨hj, by omega, by omega, fun q => by omega⟩
      | succ j =>
        cases j with
        | zero => exact Or.inr ⟨hj, by omega, by omega, fun q => by omega⟩
        | succ j =>
          cases j with
          | zero => exact Or.inr ⟨hj, by omega, by omega, fun q => by omega⟩
          | succ j =>
            cases j with
            | zero => exact Or.inr ⟨hj, by omega, by omega, fun q => by omega⟩
            | succ j =>
              cases j with
              | zero => exact Or.inr ⟨hj, by omega, by omega, fun q => by omega⟩
              | succ j =>
                cases j with
                | zero => exact Or.inr ⟨hj, by omega, by omega, fun q => by omega⟩
                | succ j =>
                  cases j with
                  | zero => exact Or.inr ⟨hj, by omega, by omega, fun q => by omega⟩
                  | succ j =>
                    cases j with
                    | zero => exact Or.inr ⟨hj, by omega, by omega, fun q => by omega⟩
                    | succ j =>
                      cases j with
                      | zero => exact Or.inr ⟨hj, by omega, by omega, fun q => by omega⟩
                      | succ j =>
                        cases j with
                        | zero => exact Or.inr ⟨hj, by omega, by omega, fun q => by omega⟩
                        | succ j =>
                          cases j with
                          | zero => exact Or.inr ⟨hj, by omega, by omega, fun _ => (Option.some.inj hj) ▸ hc⟩
                          | succ j =>
                            cases j with
                            | zero => exact Or.inl ⟨rfl, (Option.some.inj hj).symm⟩
                            | succ j =>
                              cases j with
                              | zero => exact absurd (Option.some.inj hj).symm hw
                              | succ j => exact Or.inr ⟨hj, by omega, by omega, fun q => by omega⟩
theorem z_lstoreK_13 {x0 x1 x2 x3 x4 x5 x6 x7 x8 x9 x10 x11 x12 : Value} {y y2 : Value} {t : List Value} {x : Int64} (hd : decode M.2.1 pc = .ok (.lstore 13, 2)) (hn : 14 < M.2.2.1) (k : zW l M N S (pc + 2) (x0 :: x1 :: x2 :: x3 :: x4 :: x5 :: x6 :: x7 :: x8 :: x9 :: x10 :: x11 :: zno :: .long x :: zno :: t) st h Q) : zW l M N S pc (x0 :: x1 :: x2 :: x3 :: x4 :: x5 :: x6 :: x7 :: x8 :: x9 :: x10 :: x11 :: x12 :: y :: y2 :: t) (.long x :: st) h Q := by
  intro p e s m args below meth c E n0 z0 H locs cells slots ls R Z C A hl hR K
  refine lv_lstore C.1 C.2.1 hd (zlv_has hl) hn rfl (fun ls2 hl2 => ?_)
  refine k p e s m args below meth c E n0 z0 H locs cells slots ls2 R Z C A (zlv_store2 (v := .long x) hl2 ?_) hR K
  intro j w hj hw
  cases j with
  | zero => exact Or.inr ⟨hj, by omega, by omega, fun q => by omega⟩
  | succ j =>
    cases j with
    | zero => exact Or.inr ⟨hj, by omega, by omega, fun q => by omega⟩
    | succ j =>
      cases j with
      | zero => exact Or.inr ⟨hj, by omega, by omega, fun q => by omega⟩
      | succ j =>
        cases j with
        | zero => exact Or.inr ⟨hj, by omega, by omega, fun q => by omega⟩
        | succ j =>
          cases j with
          | zero => exact Or.inr ⟨hj, by omega, by omega, fun q => by omega⟩
          | succ j =>
            cases j with
            | zero => exact Or.inr ⟨hj, by omega, by omega, fun q => by omega⟩
            | succ j =>
              cases j with
              | zero => exact Or.inr ⟨hj, by omega, by omega, fun q => by omega⟩
              | succ j =>
                cases j with
                | zero => exact Or.inr ⟨hj, by omega, by omega, fun q => by omega⟩
                | succ j =>
                  cases j with
                  | zero => exact Or.inr ⟨hj, by omega, by omega, fun q => by omega⟩
                  | succ j =>
                    cases j with
                    | zero => exact Or.inr ⟨hj, by omega, by omega, fun q => by omega⟩
                    | succ j =>
                      cases j with
                      | zero => exact Or.inr ⟨hj, by omega, by omega, fun q => by omega⟩
                      | succ j =>
                        cases j with
                        | zero => exact Or.inr ⟨hj, by omega, by omega, fun q => by omega⟩
                        | succ j =>
                          cases j with
                          | zero => exact absurd (Option.some.inj hj).symm hw
                          | succ j =>
                            cases j with
                            | zero => exact Or.inl ⟨rfl, (Option.some.inj hj).symm⟩
                            | succ j =>
                              cases j with
                              | zero => exact absurd (Option.some.inj hj).symm hw
                              | succ j => exact Or.inr ⟨hj, by omega, by omega, fun q => by omega⟩
theorem z_iinc_13 {x0 x1 x2 x3 x4 x5 x6 x7 x8 x9 x10 x11 x12 : Value} {t : List Value} {x : Int32} {n : Int} (v : Int32) (hd : decode M.2.1 pc = .ok (.iinc 13 n, 3)) (hv : Int32.ofInt n = v) (hn : 13 < M.2.2.1) (hc : x12.category = 1) (k : zW l M N S (pc + 3) (x0 :: x1 :: x2 :: x3 :: x4 :: x5 :: x6 :: x7 :: x8 :: x9 :: x10 :: x11 :: x12 :: .int (x + v) :: t) st h Q) : zW l M N S pc (x0 :: x1 :: x2 :: x3 :: x4 :: x5 :: x6 :: x7 :: x8 :: x9 :: x10 :: x11 :: x12 :: .int x :: t) st h Q := by
  subst hv
  intro p e s m args below meth c E n0 z0 H locs cells slots ls R Z C A hl hR K
  obtain ⟨k0, hk0⟩ := List.getElem?_of_mem (zll_mem.mpr ⟨.int x, (rfl : (x0 :: x1 :: x2 :: x3 :: x4 :: x5 :: x6 :: x7 :: x8 :: x9 :: x10 :: x11 :: x12 :: .int x :: t)[13]? = _), (fun q => Value.noConfusion q), rfl⟩ : (13, ze E (.int x)) ∈ zll E (x0 :: x1 :: x2 :: x3 :: x4 :: x5 :: x6 :: x7 :: x8 :: x9 :: x10 :: x11 :: x12 :: .int x :: t))
  refine lv_iinc C.1 C.2.1 hd (zlv_has hl) hk0 rfl hn rfl (fun ls2 hl2 => ?_)
  refine k p e s m args below meth c E n0 z0 H locs cells slots ls2 R Z C A (zlv_store1 (v := .int (x + Int32.ofInt n)) hl2 ?_) hR K
  intro j w hj hw
  cases j with
  | zero => exact Or.inr ⟨hj, by omega, fun q => by omega⟩
  | succ j =>
    cases j with
    | zero => exact Or.inr ⟨hj, by omega, fun q => by omega⟩
    | succ j =>
      cases j with
      | zero => exact Or.inr ⟨hj, by omega, fun q => by omega⟩
      | succ j =>
        cases j with
        | zero => exact Or.inr ⟨hj, by omega, fun q => by omega⟩
        | succ j =>
          cases j with
          | zero => exact Or.inr ⟨hj, by omega, fun q => by omega⟩
          | succ j =>
            cases j with
            | zero => exact Or.inr ⟨hj, by omega, fun q => by omega⟩
            | succ j =>
              cases j with
              | zero => exact Or.inr ⟨hj, by omega, fun q => by omega⟩
              | succ j =>
                cases j with
                | zero => exact Or.inr ⟨hj, by omega, fun q => by omega⟩
                | succ j =>
                  cases j with
                  | zero => exact Or.inr ⟨hj, by omega, fun q => by omega⟩
                  | succ j =>
                    cases j with
                    | zero => exact Or.inr ⟨hj, by omega, fun q => by omega⟩
                    | succ j =>
                      cases j with
                      | zero => exact Or.inr ⟨hj, by omega, fun q => by omega⟩
                      | succ j =>
                        cases j with
                        | zero => exact Or.inr ⟨hj, by omega, fun q => by omega⟩
                        | succ j =>
                          cases j with
                          | zero => exact Or.inr ⟨hj, by omega, fun _ => (Option.some.inj hj) ▸ hc⟩
                          | succ j =>
                            cases j with
                            | zero => exact Or.inl ⟨rfl, (Option.some.inj hj).symm⟩
                            | succ j => exact Or.inr ⟨hj, by omega, fun q => by omega⟩
end ZR
end
section
-- ===== the heap's rules =====
def zup (I : Nat → Nat → Int32) (k j : Nat) (v : Int32) : Nat → Nat → Int32 := fun a b => if a = k ∧ b = j then v else I a b
def zupJ (I : Nat → Nat → Int64) (k j : Nat) (v : Int64) : Nat → Nat → Int64 := fun a b => if a = k ∧ b = j then v else I a b
def zupR (I : Nat → Nat → Option Nat) (k j : Nat) (v : Option Nat) : Nat → Nat → Option Nat := fun a b => if a = k ∧ b = j then v else I a b
theorem zup_row (I : Nat → Nat → Int32) (k j : Nat) (v : Int32) : zup I k j v k = upd (I k) j v := by
  funext b; by_cases hb : b = j <;> simp [zup, upd, hb]
theorem zup_other (I : Nat → Nat → Int32) {k i : Nat} (j : Nat) (v : Int32) (h : i ≠ k) : zup I k j v i = I i := by
  funext b; simp [zup, h]
theorem zupJ_row (I : Nat → Nat → Int64) (k j : Nat) (v : Int64) : zupJ I k j v k = vp_updL (I k) j v := by
  funext b; by_cases hb : b = j <;> simp [zupJ, vp_updL, hb]
theorem zupJ_other (I : Nat → Nat → Int64) {k i : Nat} (j : Nat) (v : Int64) (h : i ≠ k) : zupJ I k j v i = I i := by
  funext b; simp [zupJ, h]
theorem zupR_row (I : Nat → Nat → Option Nat) (k j : Nat) (v : Option Nat) : zupR I k j v k = va_up (I k) j v := by
  funext b; by_cases hb : b = j <;> simp [zupR, va_up, hb]
theorem zupR_other (I : Nat → Nat → Option Nat) {k i : Nat} (j : Nat) (v : Option Nat) (h : i ≠ k) : zupR I k j v i = I i := by
  funext b; simp [zupR, h]
/-- a change of one cell -/
theorem zws_set {E : zEn} {h h1 : zH} {k : Nat} {q : zSh} {x : va_E} (hs : h.2.2.2[k]? = some q) (hsh : h1.2.2.2 = h.2.2.2) (ho : ∀ i, i ≠ k → h1.1 i = h.1 i ∧ h1.2.1 i = h.2.1 i ∧ h1.2.2.1 i = h.2.2.1 i)
    (hx : zcell E (h1.1 k) (h1.2.1 k) (h1.2.2.1 k) q = x) : (zws E h).set k (zad E k, x) = zws E h1 := by
  apply List.ext_getElem?
  intro i
  have hk : k < (zws E h).length := by rw [zws_len]; exact (List.getElem?_eq_some_iff.mp hs).1
  by_cases hi : k = i
  · subst hi
    rw [List.getElem?_set_self hk, zws_get, hsh, hs, ← hx]
    rfl
  · rw [List.getElem?_set_ne hi, zws_get, zws_get, hsh]
    obtain ⟨a, b, c⟩ := ho i (fun q => hi q.symm)
    rw [a, b, c]
theorem zcell_obj {E : zEn} {i : Nat → Int32} {g : Nat → Int64} {r : Nat → Option Nat} {ci n : Nat} (h : ci < 10) : zcell E i g r (ci, n) = .inr (ci, zfs E i r ci) := if_pos h
theorem zfs_get {E : zEn} {i : Nat → Int32} {r : Nat → Option Nat} {ci j : Nat} {b : Bool} (h : (zft ci)[j]? = some b) : (zfs E i r ci)[j]? = some (zfv E i r j b) := by
  unfold zfs; rw [List.getElem?_mapIdx, h]; rfl
theorem zfs_len (E : zEn) (i : Nat → Int32) (r : Nat → Option Nat) (ci : Nat) : (zfs E i r ci).length = (zft ci).length := by unfold zfs; rw [List.length_mapIdx]
theorem zfs_setI {E : zEn} {i : Nat → Int32} {r : Nat → Option Nat} {ci j : Nat} {v : Int32} (h : (zft ci)[j]? = some false) : zfs E (upd i j v) r ci = (zfs E i r ci).set j (.int v) := by
  apply List.ext_getElem?
  intro a
  have hj : j < (zfs E i r ci).length := by rw [zfs_len]; exact (List.getElem?_eq_some_iff.mp h).1
  by_cases ha : j = a
  · subst ha
    rw [List.getElem?_set_self hj, zfs_get h]
    simp [zfv, upd]
  · rw [List.getElem?_set_ne ha]
    unfold zfs
    rw [List.getElem?_mapIdx, List.getElem?_mapIdx]
    have : ∀ b, zfv E (upd i j v) r a b = zfv E i r a b := fun b => by have hn : ¬ a = j := fun q => ha q.symm; cases b <;> simp [zfv, upd, hn]
    simp only [this]
theorem zfs_setR {E : zEn} {i : Nat → Int32} {r : Nat → Option Nat} {ci j k : Nat} (h : (zft ci)[j]? = some true) : zfs E i (va_up r j (some k)) ci = (zfs E i r ci).set j (.ref (zad E k)) := by
  apply List.ext_getElem?
  intro a
  have hj : j < (zfs E i r ci).length := by rw [zfs_len]; exact (List.getElem?_eq_some_iff.mp h).1
  by_cases ha : j = a
  · subst ha
    rw [List.getElem?_set_self hj, zfs_get h]
    simp [zfv, va_up, va_rf]
  · rw [List.getElem?_set_ne ha]
    unfold zfs
    rw [List.getElem?_mapIdx, List.getElem?_mapIdx]
    have : ∀ b, zfv E i (va_up r j (some k)) a b = zfv E i r a b := fun b => by have hn : ¬ a = j := fun q => ha q.symm; cases b <;> simp [zfv, va_up, hn]
    simp only [this]
theorem zrf_up (E : zEn) (r : Nat → Option Nat) (j k : Nat) : zrf E (va_up r j (some k)) = va_up (zrf E r) j (some (zad E k)) := by
  funext b; by_cases hb : b = j <;> simp [zrf, va_up, hb]
/-- the classes' own words -/
theorem zin : ∀ (ci : Nat) (q : vw_C), vwCl[ci]? = some q → ∀ w ∈ u_ws q.1 q.2.1 q.2.2, w ∈ zTs := by
  intro ci q hq
  match ci, hq with
  | 0, hq => cases hq; decide +kernel
  | 1, hq => cases hq; decide +kernel
  | 2, hq => cases hq; decide +kernel
  | 3, hq => cases hq; decide +kernel
  | 4, hq => cases hq; decide +kernel
  | 5, hq => cases hq; decide +kernel
  | 6, hq => cases hq; decide +kernel
  | 7, hq => cases hq; decide +kernel
  | 8, hq => cases hq; decide +kernel
  | 9, hq => cases hq; decide +kernel
  | k + 10, hq => simp [vwCl] at hq
theorem ztyok : ∀ (ci : Nat) (q : vw_C), vwCl[ci]? = some q → ∀ k, k < q.2.2 → parseFieldDescriptor (q.2.1 k).2.2.1 = some (zty ci k) := by
  intro ci q hq
  match ci, hq with
  | 0, hq => cases hq; exact tyX0_ok
  | 1, hq => cases hq; exact tyX1_ok
  | 2, hq => cases hq; exact tyX2_ok
  | 3, hq => cases hq; exact tyX3_ok
  | 4, hq => cases hq; exact tyX4_ok
  | 5, hq => cases hq; exact tyX5_ok
  | 6, hq => cases hq; exact tyX6_ok
  | 7, hq => cases hq; exact tyX7_ok
  | 8, hq => cases hq; exact tyX8_ok
  | 9, hq => cases hq; exact tyX9_ok
  | k + 10, hq => simp [vwCl] at hq
theorem znmok : ∀ (ci : Nat) (q : vw_C), vwCl[ci]? = some q → ∀ a, a < q.2.2 → ∀ b, b < q.2.2 → a ≠ b → (q.2.1 a).2.1 ≠ (q.2.1 b).2.1 := by
  intro ci q hq
  match ci, hq with
  | 0, hq => cases hq; exact nmX0
  | 1, hq => cases hq; exact nmX1
  | 2, hq => cases hq; exact nmX2
  | 3, hq => cases hq; exact nmX3
  | 4, hq => cases hq; exact nmX4
  | 5, hq => cases hq; exact nmX5
  | 6, hq => cases hq; exact nmX6
  | 7, hq => cases hq; exact nmX7
  | 8, hq => cases hq; exact nmX8
  | 9, hq => cases hq; exact nmX9
  | k + 10, hq => simp [vwCl] at hq
theorem zlt10 {ci : Nat} {q : vw_C} (h : vwCl[ci]? = some q) : ci < 10 := (List.getElem?_eq_some_iff.mp h).1
/-- entry idx of a class's constants is field j of class ci -/
def zFL (own : String) (idx ci j : Nat) : Prop := ∃ q : vw_C, vwCl[ci]? = some q ∧ j < q.2.2 ∧ (Cond.fieldLink own idx (q.2.1 j).1 (q.2.1 j).2.1 (q.2.1 j).2.2.1 ∈ zTs ∨ ∃ host, Cond.fieldLinkNest own idx (q.2.1 j).1 (q.2.1 j).2.1 (q.2.1 j).2.2.1 host ∈ zTs)
/-- .. and may be written outside a constructor, or is a final one of the class itself -/
def zFin (ci j : Nat) (b : Bool) : Prop := ∃ q : vw_C, vwCl[ci]? = some q ∧ (q.2.1 j).2.2.2 = b
section ZH
variable {l : Launch} {M : zMd} {N S pc : Nat} {L st : List Value} {h : zH} {Q : Option Value → zH → Prop}
theorem z_getV {idx ci j k n : Nat} {b : Bool} {v : Value} (hd : decode M.2.1 pc = .ok (.getfield idx, 3)) (hf : zFL M.1.cls idx ci j) (ht : (zft ci)[j]? = some b) (hs : h.2.2.2[k]? = some (ci, n)) (hv : ∀ E, zfv E (h.1 k) (h.2.2.1 k) j b = ze E v)
    (kk : zW l M N S (pc + 3) L (v :: st) h Q) : zW l M N S pc L (.ref k :: st) h Q := by
  intro p e s m args below meth c E n0 z0 H locs cells slots ls R Z C A hl hR K
  obtain ⟨⟨nm, T, N'⟩, hc, hj, hw⟩ := hf
  have hts := zTb_arg C.2.2.2.2.2.2.1 args
  have he : (zws E h)[k]? = some (zad E k, .inr (ci, zfs E (h.1 k) (h.2.2.1 k) ci)) := by rw [zws_at hs, zcell_obj (zlt10 hc)]
  have hg : (zfs E (h.1 k) (h.2.2.1 k) ci)[j]? = some (ze E v) := by rw [zfs_get ht, hv E]
  rcases hw with hw | ⟨host, hw⟩
  · exact va_get C.1 C.2.1 hts (zin ci _ hc) C.2.2.2.2.2.1 C.2.2.2.2.2.2.2.1 A.1 k he hc j hj (hts _ hw) (fun _ h9 => h9) hg hd (kk p e s m args below meth c E n0 z0 H locs cells slots ls R Z C A hl hR K)
  · exact va_getN C.1 C.2.1 hts (zin ci _ hc) C.2.2.2.2.2.1 C.2.2.2.2.2.2.2.1 A.1 k he hc j hj (hts _ hw) (fun _ h9 => h9) hg hd (kk p e s m args below meth c E n0 z0 H locs cells slots ls R Z C A hl hR K)
theorem z_getI {idx ci j k n : Nat} (hd : decode M.2.1 pc = .ok (.getfield idx, 3)) (hf : zFL M.1.cls idx ci j) (ht : (zft ci)[j]? = some false) (hs : h.2.2.2[k]? = some (ci, n))
    (kk : zW l M N S (pc + 3) L (.int (h.1 k j) :: st) h Q) : zW l M N S pc L (.ref k :: st) h Q := z_getV hd hf ht hs (fun E => rfl) kk
theorem z_getR {idx ci j k n k1 : Nat} (hd : decode M.2.1 pc = .ok (.getfield idx, 3)) (hf : zFL M.1.cls idx ci j) (ht : (zft ci)[j]? = some true) (hs : h.2.2.2[k]? = some (ci, n)) (hr : h.2.2.1 k j = some k1)
    (kk : zW l M N S (pc + 3) L (.ref k1 :: st) h Q) : zW l M N S pc L (.ref k :: st) h Q := z_getV hd hf ht hs (fun E => by unfold zfv; rw [if_pos rfl, hr]; rfl) kk
theorem zAt_set {E : zEn} {n0 z0 : Nat} {s : State} {H H1 : Heap} {locs locs1 : List Loc} {cells slots : Nat} {h1 : zH} (A : zAt M N S E n0 z0 s H locs cells slots h) (hsh : h1.2.2.2 = h.2.2.2) (hP : va_P E.1 vwCl (zws E h1) H1) (hS : va_S (zA E) s.heap H1 locs1) : zAt M N S E n0 z0 s H1 locs1 cells slots h1 := by
  obtain ⟨-, -, a3, a4, a5, a6, a7⟩ := A
  exact ⟨hP, hS, by rw [hsh]; exact a3, by rw [hsh]; exact a4, by rw [hsh]; exact a5, by rw [hsh]; exact a6, a7⟩
theorem z_putV {idx ci j k n : Nat} {v : Value} {h1 : zH} (hd : decode M.2.1 pc = .ok (.putfield idx, 3)) (hf : zFL M.1.cls idx ci j) (hfin : zFin ci j false ∨ (zFin ci j true ∧ M.1.name = "<init>" ∧ ∃ q : vw_C, vwCl[ci]? = some q ∧ (q.2.1 j).1 = M.1.cls ∧ Cond.fieldLink M.1.cls idx (q.2.1 j).1 (q.2.1 j).2.1 (q.2.1 j).2.2.1 ∈ zTs)) (hlen : j < (zft ci).length) (hs : h.2.2.2[k]? = some (ci, n))
    (hfit : ∀ E, narrow (zty ci j) (ze E v) = ze E v ∧ fits (zty ci j) (ze E v) = true) (hsh : h1.2.2.2 = h.2.2.2) (ho : ∀ i, i ≠ k → h1.1 i = h.1 i ∧ h1.2.1 i = h.2.1 i ∧ h1.2.2.1 i = h.2.2.1 i)
    (hx : ∀ E, zfs E (h1.1 k) (h1.2.2.1 k) ci = (zfs E (h.1 k) (h.2.2.1 k) ci).set j (ze E v))
    (kk : zW l M N S (pc + 3) L st h1 Q) : zW l M N S pc L (v :: .ref k :: st) h Q := by
  intro p e s m args below meth c E n0 z0 H locs cells slots ls R Z C A hl hR K
  obtain ⟨⟨nm, T, N'⟩, hc, hj, hw⟩ := hf
  have hts := zTb_arg C.2.2.2.2.2.2.1 args
  have he : (zws E h)[k]? = some (zad E k, .inr (ci, zfs E (h.1 k) (h.2.2.1 k) ci)) := by rw [zws_at hs, zcell_obj (zlt10 hc)]
  have hset : (zws E h).set k (zad E k, .inr (ci, (zfs E (h.1 k) (h.2.2.1 k) ci).set j (ze E v))) = zws E h1 := zws_set hs hsh ho (by rw [zcell_obj (zlt10 hc), hx E])
  have hgo : ∀ (H1 : Heap) (locs1 : List Loc), va_P E.1 vwCl ((zws E h).set k (zad E k, .inr (ci, (zfs E (h.1 k) (h.2.2.1 k) ci).set j (ze E v)))) H1 → va_D (zA E) ((zws E h).set k (zad E k, .inr (ci, (zfs E (h.1 k) (h.2.2.1 k) ci).set j (ze E v)))) → va_S (zA E) s.heap H1 locs1 → W p l e R s m args below meth c H1 locs1 cells slots Z (F0 m (pc + 3) ls (st.map (ze E))) := by
    intro H1 locs1 hP1 _ hS1
    rw [hset] at hP1
    exact kk p e s m args below meth c E n0 z0 H1 locs1 cells slots ls R Z C (zAt_set A hsh hP1 hS1) hl hR K
  have hl' : j < (zfs E (h.1 k) (h.2.2.1 k) ci).length := by rw [zfs_len]; exact hlen
  rcases hfin with ⟨q, hq, hf0⟩ | ⟨⟨q, hq, hf1⟩, hin, q2, hq2, hown, hw2⟩
  · cases hc.symm.trans hq
    rcases hw with hw | ⟨host, hw⟩
    · exact va_put C.1 C.2.1 hts (zin ci _ hc) (zty ci) (ztyok ci _ hc) (znmok ci _ hc) C.2.2.2.2.2.1 C.2.2.2.2.2.2.2.1 A.1 (zD A.2.2.2.2.1 A.2.2.2.2.2.2) A.2.1 k he hc j hj (hts _ hw) (fun _ h9 => h9) hf0 (ztyok ci _ hc j hj) (hfit E).1 (hfit E).2 hl' hd hgo
    · exact va_putN C.1 C.2.1 hts (zin ci _ hc) (zty ci) (ztyok ci _ hc) (znmok ci _ hc) C.2.2.2.2.2.1 C.2.2.2.2.2.2.2.1 A.1 (zD A.2.2.2.2.1 A.2.2.2.2.2.2) A.2.1 k he hc j hj (hts _ hw) (fun _ h9 => h9) hf0 (ztyok ci _ hc j hj) (hfit E).1 (hfit E).2 hl' hd hgo
  · cases hc.symm.trans hq
    cases hc.symm.trans hq2
    exact va_putF C.1 C.2.1 hts (zin ci _ hc) (zty ci) (ztyok ci _ hc) (znmok ci _ hc) C.2.2.2.2.2.1 C.2.2.2.2.2.2.2.1 A.1 (zD A.2.2.2.2.1 A.2.2.2.2.2.2) A.2.1 k he hc j hj (hts _ hw2) (fun _ h9 => h9) hf1 (C.2.2.2.2.2.2.2.2.2.2.trans hin) hown (ztyok ci _ hc j hj) (hfit E).1 (hfit E).2 hl' hd hgo
theorem z_putI {idx ci j k n : Nat} {v : Int32} (hd : decode M.2.1 pc = .ok (.putfield idx, 3)) (hf : zFL M.1.cls idx ci j) (hfin : zFin ci j false) (ht : (zft ci)[j]? = some false) (hs : h.2.2.2[k]? = some (ci, n)) (hfit : narrow (zty ci j) (.int v) = .int v ∧ fits (zty ci j) (.int v) = true)
    (kk : zW l M N S (pc + 3) L st (zup h.1 k j v, h.2) Q) : zW l M N S pc L (.int v :: .ref k :: st) h Q :=
  z_putV (h1 := (zup h.1 k j v, h.2)) hd hf (Or.inl hfin) (List.getElem?_eq_some_iff.mp ht).1 hs (fun _ => hfit) rfl (fun i hi => ⟨zup_other _ _ _ hi, rfl, rfl⟩) (fun E => by show zfs E (zup h.1 k j v k) _ _ = _; rw [zup_row, zfs_setI ht]; rfl) kk
theorem z_putR {idx ci j k n k1 : Nat} (hd : decode M.2.1 pc = .ok (.putfield idx, 3)) (hf : zFL M.1.cls idx ci j) (hfin : zFin ci j false ∨ (zFin ci j true ∧ M.1.name = "<init>" ∧ ∃ q : vw_C, vwCl[ci]? = some q ∧ (q.2.1 j).1 = M.1.cls ∧ Cond.fieldLink M.1.cls idx (q.2.1 j).1 (q.2.1 j).2.1 (q.2.1 j).2.2.1 ∈ zTs)) (ht : (zft ci)[j]? = some true) (hs : h.2.2.2[k]? = some (ci, n)) (hfit : ∀ a : Nat, narrow (zty ci j) (.ref a) = .ref a ∧ fits (zty ci j) (.ref a) = true)
    (kk : zW l M N S (pc + 3) L st (h.1, h.2.1, zupR h.2.2.1 k j (some k1), h.2.2.2) Q) : zW l M N S pc L (.ref k1 :: .ref k :: st) h Q :=
  z_putV (h1 := (h.1, h.2.1, zupR h.2.2.1 k j (some k1), h.2.2.2)) hd hf hfin (List.getElem?_eq_some_iff.mp ht).1 hs (fun E => hfit _) rfl (fun i hi => ⟨rfl, rfl, zupR_other _ _ _ hi⟩) (fun E => by show zfs E _ (zupR h.2.2.1 k j (some k1) k) _ = _; rw [zupR_row, zfs_setR ht]; rfl) kk
-- arrays
theorem z_iald {k n : Nat} {i : Int32} (hd : decode M.2.1 pc = .ok (.iaload, 1)) (hs : h.2.2.2[k]? = some (10, n)) (hi : vp_in i n) (kk : zW l M N S (pc + 1) L (.int (h.1 k i.toNatClampNeg) :: st) h Q) : zW l M N S pc L (.int i :: .ref k :: st) h Q := by
  intro p e s m args below meth c E n0 z0 H locs cells slots ls R Z C A hl hR K
  exact va_iald C.1 C.2.1 C.2.2.2.2.2.2.2.1 A.1 k 0 (zws_at hs) rfl hi hd (kk p e s m args below meth c E n0 z0 H locs cells slots ls R Z C A hl hR K)
theorem z_lald {k n : Nat} {i : Int32} (hd : decode M.2.1 pc = .ok (.laload, 1)) (hs : h.2.2.2[k]? = some (11, n)) (hi : vp_in i n) (kk : zW l M N S (pc + 1) L (.long (h.2.1 k i.toNatClampNeg) :: st) h Q) : zW l M N S pc L (.int i :: .ref k :: st) h Q := by
  intro p e s m args below meth c E n0 z0 H locs cells slots ls R Z C A hl hR K
  exact va_lald C.1 C.2.1 C.2.2.2.2.2.2.2.1 A.1 k 1 (zws_at hs) rfl hi hd (kk p e s m args below meth c E n0 z0 H locs cells slots ls R Z C A hl hR K)
theorem z_bald {k n : Nat} {i : Int32} (hd : decode M.2.1 pc = .ok (.baload, 1)) (hs : h.2.2.2[k]? = some (12, n)) (hi : vp_in i n) (kk : zW l M N S (pc + 1) L (.int (h.1 k i.toNatClampNeg) :: st) h Q) : zW l M N S pc L (.int i :: .ref k :: st) h Q := by
  intro p e s m args below meth c E n0 z0 H locs cells slots ls R Z C A hl hR K
  exact va_zald C.1 C.2.1 C.2.2.2.2.2.2.2.1 A.1 k 2 (zws_at hs) rfl hi hd (kk p e s m args below meth c E n0 z0 H locs cells slots ls R Z C A hl hR K)
theorem z_aaldT {k n k1 : Nat} {i : Int32} (hd : decode M.2.1 pc = .ok (.aaload, 1)) (hs : h.2.2.2[k]? = some (13, n)) (hi : vp_in i n) (hr : h.2.2.1 k i.toNatClampNeg = some k1) (kk : zW l M N S (pc + 1) L (.ref k1 :: st) h Q) : zW l M N S pc L (.int i :: .ref k :: st) h Q := by
  intro p e s m args below meth c E n0 z0 H locs cells slots ls R Z C A hl hR K
  have q := kk p e s m args below meth c E n0 z0 H locs cells slots ls R Z C A hl hR K
  have e1 : va_rf (zrf E (h.2.2.1 k) i.toNatClampNeg) = ze E (.ref k1) := by unfold zrf; rw [hr]; rfl
  exact va_aldq C.1 C.2.1 C.2.2.2.2.2.2.2.1 A.1 k 3 (zws_at hs) rfl hi hd (by rw [e1]; exact q)
theorem z_aaldI {k n k1 : Nat} {i : Int32} (hd : decode M.2.1 pc = .ok (.aaload, 1)) (hs : h.2.2.2[k]? = some (14, n)) (hi : vp_in i n) (hr : h.2.2.1 k i.toNatClampNeg = some k1) (kk : zW l M N S (pc + 1) L (.ref k1 :: st) h Q) : zW l M N S pc L (.int i :: .ref k :: st) h Q := by
  intro p e s m args below meth c E n0 z0 H locs cells slots ls R Z C A hl hR K
  have q := kk p e s m args below meth c E n0 z0 H locs cells slots ls R Z C A hl hR K
  have e1 : va_rf (zrf E (h.2.2.1 k) i.toNatClampNeg) = ze E (.ref k1) := by unfold zrf; rw [hr]; rfl
  have hlt : i.toNatClampNeg < n := Nat.not_le.mp fun q => hi (Or.inr q)
  exact W.aald (v := ze E (.ref k1)) (ty := .array .int) C.1 C.2.1 (A.1 k _ (zws_at hs)) ((C.2.2.2.2.2.2.2.1.2 4 _ rfl).1 n (fun j => va_rf (zrf E (h.2.2.1 k) j))) rfl (fun q => by cases q) (by show ¬ (i < 0 ∨ (arrV _ _ _).slots.size ≤ _); rw [arrV_size]; exact hi) (by show (arrV _ _ _).slots[_]? = _; rw [arrV_read _ _ hlt, e1]) rfl rfl hd q
theorem z_iast {k n : Nat} {i v : Int32} (hd : decode M.2.1 pc = .ok (.iastore, 1)) (hs : h.2.2.2[k]? = some (10, n)) (hi : vp_in i n) (kk : zW l M N S (pc + 1) L st (zup h.1 k i.toNatClampNeg v, h.2) Q) : zW l M N S pc L (.int v :: .int i :: .ref k :: st) h Q := by
  intro p e s m args below meth c E n0 z0 H locs cells slots ls R Z C A hl hR K
  refine va_iast C.1 C.2.1 C.2.2.2.2.2.2.2.1 A.1 (zD A.2.2.2.2.1 A.2.2.2.2.2.2) A.2.1 k 0 (zws_at hs) rfl hi hd (fun H1 locs1 hP1 _ hS1 => ?_)
  rw [zws_set (h1 := (zup h.1 k i.toNatClampNeg v, h.2)) hs rfl (fun i hi => ⟨zup_other _ _ _ hi, rfl, rfl⟩) (by show zcell E (zup h.1 k _ v k) _ _ _ = _; rw [zup_row]; rfl)] at hP1
  exact kk p e s m args below meth c E n0 z0 H1 locs1 cells slots ls R Z C (zAt_set A rfl hP1 hS1) hl hR K
theorem z_bast {k n : Nat} {i v : Int32} (hd : decode M.2.1 pc = .ok (.bastore, 1)) (hs : h.2.2.2[k]? = some (12, n)) (hi : vp_in i n) (hv : vp_nar .boolean v = v) (kk : zW l M N S (pc + 1) L st (zup h.1 k i.toNatClampNeg v, h.2) Q) : zW l M N S pc L (.int v :: .int i :: .ref k :: st) h Q := by
  intro p e s m args below meth c E n0 z0 H locs cells slots ls R Z C A hl hR K
  refine va_zast C.1 C.2.1 C.2.2.2.2.2.2.2.1 A.1 (zD A.2.2.2.2.1 A.2.2.2.2.2.2) A.2.1 k 2 (zws_at hs) rfl hi hd (fun H1 locs1 hP1 _ hS1 => ?_)
  rw [hv, zws_set (h1 := (zup h.1 k i.toNatClampNeg v, h.2)) hs rfl (fun i hi => ⟨zup_other _ _ _ hi, rfl, rfl⟩) (by show zcell E (zup h.1 k _ v k) _ _ _ = _; rw [zup_row]; rfl)] at hP1
  exact kk p e s m args below meth c E n0 z0 H1 locs1 cells slots ls R Z C (zAt_set A rfl hP1 hS1) hl hR K
theorem z_last {k n : Nat} {i : Int32} {v : Int64} (hd : decode M.2.1 pc = .ok (.lastore, 1)) (hs : h.2.2.2[k]? = some (11, n)) (hi : vp_in i n) (kk : zW l M N S (pc + 1) L st (h.1, zupJ h.2.1 k i.toNatClampNeg v, h.2.2) Q) : zW l M N S pc L (.long v :: .int i :: .ref k :: st) h Q := by
  intro p e s m args below meth c E n0 z0 H locs cells slots ls R Z C A hl hR K
  refine va_last C.1 C.2.1 C.2.2.2.2.2.2.2.1 A.1 (zD A.2.2.2.2.1 A.2.2.2.2.2.2) A.2.1 k 1 (zws_at hs) rfl hi hd (fun H1 locs1 hP1 _ hS1 => ?_)
  rw [zws_set (h1 := (h.1, zupJ h.2.1 k i.toNatClampNeg v, h.2.2)) hs rfl (fun i hi => ⟨rfl, zupJ_other _ _ _ hi, rfl⟩) (by show zcell E _ (zupJ h.2.1 k _ v k) _ _ = _; rw [zupJ_row]; rfl)] at hP1
  exact kk p e s m args below meth c E n0 z0 H1 locs1 cells slots ls R Z C (zAt_set A rfl hP1 hS1) hl hR K
theorem z_aast {k k1 n n1 : Nat} {i : Int32} (hd : decode M.2.1 pc = .ok (.aastore, 1)) (hs : h.2.2.2[k]? = some (13, n)) (hs1 : h.2.2.2[k1]? = some (7, n1)) (hi : vp_in i n) (kk : zW l M N S (pc + 1) L st (h.1, h.2.1, zupR h.2.2.1 k i.toNatClampNeg (some k1), h.2.2.2) Q) : zW l M N S pc L (.ref k1 :: .int i :: .ref k :: st) h Q := by
  intro p e s m args below meth c E n0 z0 H locs cells slots ls R Z C A hl hR K
  refine va_astq (r := (RX7, TX7, 11)) C.1 C.2.1 C.2.2.2.2.2.2.2.1 A.1 (zD A.2.2.2.2.1 A.2.2.2.2.2.2) A.2.1 k 3 k1 7 (zws_at hs) rfl (zws_at hs1) rfl hi hd (fun H1 locs1 hP1 _ hS1 => ?_)
  rw [zws_set (h1 := (h.1, h.2.1, zupR h.2.2.1 k i.toNatClampNeg (some k1), h.2.2.2)) hs rfl (fun i hi => ⟨rfl, rfl, zupR_other _ _ _ hi⟩) (by show zcell E _ _ (zupR h.2.2.1 k _ (some k1) k) _ = _; rw [zupR_row]; show Sum.inl (_, _, Sum.inr (Sum.inr (Sum.inr (Sum.inr (zrf E _))))) = _; rw [zrf_up])] at hP1
  exact kk p e s m args below meth c E n0 z0 H1 locs1 cells slots ls R Z C (zAt_set A rfl hP1 hS1) hl hR K
theorem z_alen {k n : Nat} (hd : decode M.2.1 pc = .ok (.arraylength, 1)) (hs : h.2.2.2[k]? = some (10, n)) (kk : zW l M N S (pc + 1) L (.int (Int32.ofNat n) :: st) h Q) : zW l M N S pc L (.ref k :: st) h Q := by
  intro p e s m args below meth c E n0 z0 H locs cells slots ls R Z C A hl hR K
  exact va_alen C.1 C.2.1 C.2.2.2.2.2.2.2.1 A.1 k 0 (zws_at hs) rfl rfl hd (kk p e s m args below meth c E n0 z0 H locs cells slots ls R Z C A hl hR K)
end ZH
end
