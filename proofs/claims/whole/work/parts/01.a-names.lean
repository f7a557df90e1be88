-- ===== PART A: goes FIRST, ahead of the names: the tables' words, and 'selects' of the private methods out of them =====
/-- a private method of a class that the tables say can be made, by its rows of tables_1 -/
def lw_okq (q : MethodName × Nat) : Prop := (q.1.cls ≠ "java/lang/invoke/MethodHandle" ∧ q.1.cls ≠ "java/lang/invoke/VarHandle") ∧ Cond.instantiable q.1.cls q.2 ∈ tables_1 ∧ Cond.privateMethod q.1 ∈ tables_1 ∧ Cond.instanceMethod q.1 ∈ tables_1
theorem lw_p0 : lw_okq (⟨"java/util/ArrayList", "add", "(Ljava/lang/Object;[Ljava/lang/Object;I)V"⟩, 3) := ⟨⟨by decide +kernel, by decide +kernel⟩, List.mem_of_getElem? (i := 36) (by decide +kernel), List.mem_of_getElem? (i := 206) (by decide +kernel), List.mem_of_getElem? (i := 207) (by decide +kernel)⟩
theorem lw_p1 : lw_okq (⟨"java/util/ArrayList", "grow", "()[Ljava/lang/Object;"⟩, 3) := ⟨⟨by decide +kernel, by decide +kernel⟩, List.mem_of_getElem? (i := 36) (by decide +kernel), List.mem_of_getElem? (i := 210) (by decide +kernel), List.mem_of_getElem? (i := 211) (by decide +kernel)⟩
theorem lw_p2 : lw_okq (⟨"java/util/ArrayList", "grow", "(I)[Ljava/lang/Object;"⟩, 3) := ⟨⟨by decide +kernel, by decide +kernel⟩, List.mem_of_getElem? (i := 36) (by decide +kernel), List.mem_of_getElem? (i := 214) (by decide +kernel), List.mem_of_getElem? (i := 215) (by decide +kernel)⟩
theorem lw_p3 : lw_okq (⟨"HutLift", "isCargo", "(I)Z"⟩, 12) := ⟨⟨by decide +kernel, by decide +kernel⟩, List.mem_of_getElem? (i := 28) (by decide +kernel), List.mem_of_getElem? (i := 376) (by decide +kernel), List.mem_of_getElem? (i := 377) (by decide +kernel)⟩
theorem lw_p4 : lw_okq (⟨"HutLift", "isHut", "(I)Z"⟩, 12) := ⟨⟨by decide +kernel, by decide +kernel⟩, List.mem_of_getElem? (i := 28) (by decide +kernel), List.mem_of_getElem? (i := 380) (by decide +kernel), List.mem_of_getElem? (i := 381) (by decide +kernel)⟩
theorem lw_p5 : lw_okq (⟨"java/util/ArrayList", "fastRemove", "([Ljava/lang/Object;I)V"⟩, 3) := ⟨⟨by decide +kernel, by decide +kernel⟩, List.mem_of_getElem? (i := 36) (by decide +kernel), List.mem_of_getElem? (i := 605) (by decide +kernel), List.mem_of_getElem? (i := 606) (by decide +kernel)⟩
theorem lw_p6 : lw_okq (⟨"HutLift", "isFlight", "(III)Z"⟩, 12) := ⟨⟨by decide +kernel, by decide +kernel⟩, List.mem_of_getElem? (i := 28) (by decide +kernel), List.mem_of_getElem? (i := 614) (by decide +kernel), List.mem_of_getElem? (i := 615) (by decide +kernel)⟩
theorem lw_p7 : lw_okq (⟨"HutLift", "isMachine", "(I)Z"⟩, 12) := ⟨⟨by decide +kernel, by decide +kernel⟩, List.mem_of_getElem? (i := 28) (by decide +kernel), List.mem_of_getElem? (i := 618) (by decide +kernel), List.mem_of_getElem? (i := 619) (by decide +kernel)⟩
theorem lw_p8 : lw_okq (⟨"HutLift", "isPilot", "(I)Z"⟩, 12) := ⟨⟨by decide +kernel, by decide +kernel⟩, List.mem_of_getElem? (i := 28) (by decide +kernel), List.mem_of_getElem? (i := 622) (by decide +kernel), List.mem_of_getElem? (i := 623) (by decide +kernel)⟩
theorem lw_p9 : lw_okq (⟨"HutLift", "askAbout", "(III)V"⟩, 12) := ⟨⟨by decide +kernel, by decide +kernel⟩, List.mem_of_getElem? (i := 28) (by decide +kernel), List.mem_of_getElem? (i := 627) (by decide +kernel), List.mem_of_getElem? (i := 628) (by decide +kernel)⟩
theorem lw_p10 : lw_okq (⟨"HutLift$RuleBook", "lay", "(I)V"⟩, 4) := ⟨⟨by decide +kernel, by decide +kernel⟩, List.mem_of_getElem? (i := 96) (by decide +kernel), List.mem_of_getElem? (i := 677) (by decide +kernel), List.mem_of_getElem? (i := 678) (by decide +kernel)⟩
theorem lw_p11 : lw_okq (⟨"HutLift$RuleBook", "named", "(I)I"⟩, 4) := ⟨⟨by decide +kernel, by decide +kernel⟩, List.mem_of_getElem? (i := 96) (by decide +kernel), List.mem_of_getElem? (i := 681) (by decide +kernel), List.mem_of_getElem? (i := 682) (by decide +kernel)⟩
theorem lw_p12 : lw_okq (⟨"HutLift$RuleBook", "take", "()I"⟩, 4) := ⟨⟨by decide +kernel, by decide +kernel⟩, List.mem_of_getElem? (i := 96) (by decide +kernel), List.mem_of_getElem? (i := 685) (by decide +kernel), List.mem_of_getElem? (i := 686) (by decide +kernel)⟩
theorem lw_p13 : lw_okq (⟨"HutLift", "isLoad", "(I)Z"⟩, 12) := ⟨⟨by decide +kernel, by decide +kernel⟩, List.mem_of_getElem? (i := 28) (by decide +kernel), List.mem_of_getElem? (i := 696) (by decide +kernel), List.mem_of_getElem? (i := 697) (by decide +kernel)⟩
theorem lw_p14 : lw_okq (⟨"HutLift", "planned", "(III)LHutLift$Flight;"⟩, 12) := ⟨⟨by decide +kernel, by decide +kernel⟩, List.mem_of_getElem? (i := 28) (by decide +kernel), List.mem_of_getElem? (i := 736) (by decide +kernel), List.mem_of_getElem? (i := 737) (by decide +kernel)⟩
theorem lw_p15 : lw_okq (⟨"HutLift", "chooseRiders", "(III)V"⟩, 12) := ⟨⟨by decide +kernel, by decide +kernel⟩, List.mem_of_getElem? (i := 28) (by decide +kernel), List.mem_of_getElem? (i := 793) (by decide +kernel), List.mem_of_getElem? (i := 794) (by decide +kernel)⟩
def lw_privs_1 : List (MethodName × Nat) := [(⟨"java/util/ArrayList", "add", "(Ljava/lang/Object;[Ljava/lang/Object;I)V"⟩, 3), (⟨"java/util/ArrayList", "grow", "()[Ljava/lang/Object;"⟩, 3), (⟨"java/util/ArrayList", "grow", "(I)[Ljava/lang/Object;"⟩, 3), (⟨"HutLift", "isCargo", "(I)Z"⟩, 12), (⟨"HutLift", "isHut", "(I)Z"⟩, 12), (⟨"java/util/ArrayList", "fastRemove", "([Ljava/lang/Object;I)V"⟩, 3), (⟨"HutLift", "isFlight", "(III)Z"⟩, 12), (⟨"HutLift", "isMachine", "(I)Z"⟩, 12), (⟨"HutLift", "isPilot", "(I)Z"⟩, 12), (⟨"HutLift", "askAbout", "(III)V"⟩, 12), (⟨"HutLift$RuleBook", "lay", "(I)V"⟩, 4), (⟨"HutLift$RuleBook", "named", "(I)I"⟩, 4), (⟨"HutLift$RuleBook", "take", "()I"⟩, 4), (⟨"HutLift", "isLoad", "(I)Z"⟩, 12), (⟨"HutLift", "planned", "(III)LHutLift$Flight;"⟩, 12), (⟨"HutLift", "chooseRiders", "(III)V"⟩, 12)]
theorem lw_r1 : ∀ q ∈ lw_privs_1, lw_okq q := List.forall_mem_cons.mpr ⟨lw_p0, List.forall_mem_cons.mpr ⟨lw_p1, List.forall_mem_cons.mpr ⟨lw_p2, List.forall_mem_cons.mpr ⟨lw_p3, List.forall_mem_cons.mpr ⟨lw_p4, List.forall_mem_cons.mpr ⟨lw_p5, List.forall_mem_cons.mpr ⟨lw_p6, List.forall_mem_cons.mpr ⟨lw_p7, List.forall_mem_cons.mpr ⟨lw_p8, List.forall_mem_cons.mpr ⟨lw_p9, List.forall_mem_cons.mpr ⟨lw_p10, List.forall_mem_cons.mpr ⟨lw_p11, List.forall_mem_cons.mpr ⟨lw_p12, List.forall_mem_cons.mpr ⟨lw_p13, List.forall_mem_cons.mpr ⟨lw_p14, List.forall_mem_cons.mpr ⟨lw_p15, fun _ h => absurd h List.not_mem_nil⟩⟩⟩⟩⟩⟩⟩⟩⟩⟩⟩⟩⟩⟩⟩⟩
theorem lw_p16 : lw_okq (⟨"HutLift", "whyNot", "(LHutLift$Flight;)I"⟩, 12) := ⟨⟨by decide +kernel, by decide +kernel⟩, List.mem_of_getElem? (i := 28) (by decide +kernel), List.mem_of_getElem? (i := 806) (by decide +kernel), List.mem_of_getElem? (i := 807) (by decide +kernel)⟩
theorem lw_p17 : lw_okq (⟨"HutLift", "isTooHeavy", "(LHutLift$Machine;LHutLift$Flight;)Z"⟩, 12) := ⟨⟨by decide +kernel, by decide +kernel⟩, List.mem_of_getElem? (i := 28) (by decide +kernel), List.mem_of_getElem? (i := 811) (by decide +kernel), List.mem_of_getElem? (i := 812) (by decide +kernel)⟩
theorem lw_p18 : lw_okq (⟨"HutLift", "begin", "(LHutLift$Flight;)V"⟩, 12) := ⟨⟨by decide +kernel, by decide +kernel⟩, List.mem_of_getElem? (i := 28) (by decide +kernel), List.mem_of_getElem? (i := 830) (by decide +kernel), List.mem_of_getElem? (i := 831) (by decide +kernel)⟩
theorem lw_p19 : lw_okq (⟨"HutLift$Packer", "putFrom", "(II)V"⟩, 5) := ⟨⟨by decide +kernel, by decide +kernel⟩, List.mem_of_getElem? (i := 118) (by decide +kernel), List.mem_of_getElem? (i := 903) (by decide +kernel), List.mem_of_getElem? (i := 904) (by decide +kernel)⟩
theorem lw_p20 : lw_okq (⟨"HutLift$OrderSearch", "extend", "(LHutLift$RuleBook;LHutLift$Weather;IIII)V"⟩, 8) := ⟨⟨by decide +kernel, by decide +kernel⟩, List.mem_of_getElem? (i := 143) (by decide +kernel), List.mem_of_getElem? (i := 934) (by decide +kernel), List.mem_of_getElem? (i := 935) (by decide +kernel)⟩
theorem lw_p21 : lw_okq (⟨"HutLift$OrderSearch", "isSameAsUntaken", "(II)Z"⟩, 8) := ⟨⟨by decide +kernel, by decide +kernel⟩, List.mem_of_getElem? (i := 143) (by decide +kernel), List.mem_of_getElem? (i := 941) (by decide +kernel), List.mem_of_getElem? (i := 942) (by decide +kernel)⟩
theorem lw_p22 : lw_okq (⟨"HutLift$OrderSearch", "leastMinutesLeft", "(I)I"⟩, 8) := ⟨⟨by decide +kernel, by decide +kernel⟩, List.mem_of_getElem? (i := 143) (by decide +kernel), List.mem_of_getElem? (i := 947) (by decide +kernel), List.mem_of_getElem? (i := 948) (by decide +kernel)⟩
theorem lw_p23 : lw_okq (⟨"HutLift", "shelvedLoads", "()I"⟩, 12) := ⟨⟨by decide +kernel, by decide +kernel⟩, List.mem_of_getElem? (i := 28) (by decide +kernel), List.mem_of_getElem? (i := 971) (by decide +kernel), List.mem_of_getElem? (i := 972) (by decide +kernel)⟩
theorem lw_p24 : lw_okq (⟨"HutLift", "lateLoads", "()I"⟩, 12) := ⟨⟨by decide +kernel, by decide +kernel⟩, List.mem_of_getElem? (i := 28) (by decide +kernel), List.mem_of_getElem? (i := 975) (by decide +kernel), List.mem_of_getElem? (i := 976) (by decide +kernel)⟩
theorem lw_p25 : lw_okq (⟨"HutLiftModel", "isHut", "(I)Z"⟩, 62) := ⟨⟨by decide +kernel, by decide +kernel⟩, List.mem_of_getElem? (i := 979) (by decide +kernel), List.mem_of_getElem? (i := 1192) (by decide +kernel), List.mem_of_getElem? (i := 1193) (by decide +kernel)⟩
theorem lw_p26 : lw_okq (⟨"HutLiftModel", "fault", "()I"⟩, 62) := ⟨⟨by decide +kernel, by decide +kernel⟩, List.mem_of_getElem? (i := 979) (by decide +kernel), List.mem_of_getElem? (i := 1208) (by decide +kernel), List.mem_of_getElem? (i := 1209) (by decide +kernel)⟩
theorem lw_p27 : lw_okq (⟨"HutLiftModel", "isMachine", "(I)Z"⟩, 62) := ⟨⟨by decide +kernel, by decide +kernel⟩, List.mem_of_getElem? (i := 979) (by decide +kernel), List.mem_of_getElem? (i := 1229) (by decide +kernel), List.mem_of_getElem? (i := 1230) (by decide +kernel)⟩
theorem lw_p28 : lw_okq (⟨"HutLiftModel", "isPilot", "(I)Z"⟩, 62) := ⟨⟨by decide +kernel, by decide +kernel⟩, List.mem_of_getElem? (i := 979) (by decide +kernel), List.mem_of_getElem? (i := 1233) (by decide +kernel), List.mem_of_getElem? (i := 1234) (by decide +kernel)⟩
theorem lw_p29 : lw_okq (⟨"HutLiftModel", "workedOut", "(IIIII)I"⟩, 62) := ⟨⟨by decide +kernel, by decide +kernel⟩, List.mem_of_getElem? (i := 979) (by decide +kernel), List.mem_of_getElem? (i := 1237) (by decide +kernel), List.mem_of_getElem? (i := 1238) (by decide +kernel)⟩
theorem lw_p30 : lw_okq (⟨"HutLiftModel", "lay", "(I)V"⟩, 62) := ⟨⟨by decide +kernel, by decide +kernel⟩, List.mem_of_getElem? (i := 979) (by decide +kernel), List.mem_of_getElem? (i := 1241) (by decide +kernel), List.mem_of_getElem? (i := 1242) (by decide +kernel)⟩
theorem lw_p31 : lw_okq (⟨"HutLiftModel", "take", "()I"⟩, 62) := ⟨⟨by decide +kernel, by decide +kernel⟩, List.mem_of_getElem? (i := 979) (by decide +kernel), List.mem_of_getElem? (i := 1245) (by decide +kernel), List.mem_of_getElem? (i := 1246) (by decide +kernel)⟩
def lw_privs_2 : List (MethodName × Nat) := [(⟨"HutLift", "whyNot", "(LHutLift$Flight;)I"⟩, 12), (⟨"HutLift", "isTooHeavy", "(LHutLift$Machine;LHutLift$Flight;)Z"⟩, 12), (⟨"HutLift", "begin", "(LHutLift$Flight;)V"⟩, 12), (⟨"HutLift$Packer", "putFrom", "(II)V"⟩, 5), (⟨"HutLift$OrderSearch", "extend", "(LHutLift$RuleBook;LHutLift$Weather;IIII)V"⟩, 8), (⟨"HutLift$OrderSearch", "isSameAsUntaken", "(II)Z"⟩, 8), (⟨"HutLift$OrderSearch", "leastMinutesLeft", "(I)I"⟩, 8), (⟨"HutLift", "shelvedLoads", "()I"⟩, 12), (⟨"HutLift", "lateLoads", "()I"⟩, 12), (⟨"HutLiftModel", "isHut", "(I)Z"⟩, 62), (⟨"HutLiftModel", "fault", "()I"⟩, 62), (⟨"HutLiftModel", "isMachine", "(I)Z"⟩, 62), (⟨"HutLiftModel", "isPilot", "(I)Z"⟩, 62), (⟨"HutLiftModel", "workedOut", "(IIIII)I"⟩, 62), (⟨"HutLiftModel", "lay", "(I)V"⟩, 62), (⟨"HutLiftModel", "take", "()I"⟩, 62)]
theorem lw_r2 : ∀ q ∈ lw_privs_2, lw_okq q := List.forall_mem_cons.mpr ⟨lw_p16, List.forall_mem_cons.mpr ⟨lw_p17, List.forall_mem_cons.mpr ⟨lw_p18, List.forall_mem_cons.mpr ⟨lw_p19, List.forall_mem_cons.mpr ⟨lw_p20, List.forall_mem_cons.mpr ⟨lw_p21, List.forall_mem_cons.mpr ⟨lw_p22, List.forall_mem_cons.mpr ⟨lw_p23, List.forall_mem_cons.mpr ⟨lw_p24, List.forall_mem_cons.mpr ⟨lw_p25, List.forall_mem_cons.mpr ⟨lw_p26, List.forall_mem_cons.mpr ⟨lw_p27, List.forall_mem_cons.mpr ⟨lw_p28, List.forall_mem_cons.mpr ⟨lw_p29, List.forall_mem_cons.mpr ⟨lw_p30, List.forall_mem_cons.mpr ⟨lw_p31, fun _ h => absurd h List.not_mem_nil⟩⟩⟩⟩⟩⟩⟩⟩⟩⟩⟩⟩⟩⟩⟩⟩
theorem lw_p32 : lw_okq (⟨"HutLiftModel", "named", "(IIIII)I"⟩, 62) := ⟨⟨by decide +kernel, by decide +kernel⟩, List.mem_of_getElem? (i := 979) (by decide +kernel), List.mem_of_getElem? (i := 1252) (by decide +kernel), List.mem_of_getElem? (i := 1253) (by decide +kernel)⟩
theorem lw_p33 : lw_okq (⟨"HutLiftModel", "ofHanging", "(II)I"⟩, 62) := ⟨⟨by decide +kernel, by decide +kernel⟩, List.mem_of_getElem? (i := 979) (by decide +kernel), List.mem_of_getElem? (i := 1259) (by decide +kernel), List.mem_of_getElem? (i := 1260) (by decide +kernel)⟩
theorem lw_p34 : lw_okq (⟨"HutLiftModel", "isLoad", "(I)Z"⟩, 62) := ⟨⟨by decide +kernel, by decide +kernel⟩, List.mem_of_getElem? (i := 979) (by decide +kernel), List.mem_of_getElem? (i := 1268) (by decide +kernel), List.mem_of_getElem? (i := 1269) (by decide +kernel)⟩
theorem lw_p35 : lw_okq (⟨"HutLiftModel", "why", "(III)I"⟩, 62) := ⟨⟨by decide +kernel, by decide +kernel⟩, List.mem_of_getElem? (i := 979) (by decide +kernel), List.mem_of_getElem? (i := 1280) (by decide +kernel), List.mem_of_getElem? (i := 1281) (by decide +kernel)⟩
theorem lw_p36 : lw_okq (⟨"HutLiftModel", "find", "(II)V"⟩, 62) := ⟨⟨by decide +kernel, by decide +kernel⟩, List.mem_of_getElem? (i := 979) (by decide +kernel), List.mem_of_getElem? (i := 1284) (by decide +kernel), List.mem_of_getElem? (i := 1285) (by decide +kernel)⟩
theorem lw_p37 : lw_okq (⟨"HutLiftModel", "wayOf", "(II)I"⟩, 62) := ⟨⟨by decide +kernel, by decide +kernel⟩, List.mem_of_getElem? (i := 979) (by decide +kernel), List.mem_of_getElem? (i := 1288) (by decide +kernel), List.mem_of_getElem? (i := 1289) (by decide +kernel)⟩
theorem lw_p38 : lw_okq (⟨"HutLiftModel", "longHangs", "(I)Z"⟩, 62) := ⟨⟨by decide +kernel, by decide +kernel⟩, List.mem_of_getElem? (i := 979) (by decide +kernel), List.mem_of_getElem? (i := 1292) (by decide +kernel), List.mem_of_getElem? (i := 1293) (by decide +kernel)⟩
theorem lw_p39 : lw_okq (⟨"HutLiftModel", "liftOf", "(III)I"⟩, 62) := ⟨⟨by decide +kernel, by decide +kernel⟩, List.mem_of_getElem? (i := 979) (by decide +kernel), List.mem_of_getElem? (i := 1296) (by decide +kernel), List.mem_of_getElem? (i := 1297) (by decide +kernel)⟩
theorem lw_p40 : lw_okq (⟨"HutLiftModel", "part", "(II)V"⟩, 62) := ⟨⟨by decide +kernel, by decide +kernel⟩, List.mem_of_getElem? (i := 979) (by decide +kernel), List.mem_of_getElem? (i := 1304) (by decide +kernel), List.mem_of_getElem? (i := 1305) (by decide +kernel)⟩
theorem lw_p41 : lw_okq (⟨"HutLiftModel", "isLate", "(I)Z"⟩, 62) := ⟨⟨by decide +kernel, by decide +kernel⟩, List.mem_of_getElem? (i := 979) (by decide +kernel), List.mem_of_getElem? (i := 1328) (by decide +kernel), List.mem_of_getElem? (i := 1329) (by decide +kernel)⟩
theorem lw_p42 : lw_okq (⟨"HutLiftModel", "packs", "(III)Z"⟩, 62) := ⟨⟨by decide +kernel, by decide +kernel⟩, List.mem_of_getElem? (i := 979) (by decide +kernel), List.mem_of_getElem? (i := 1344) (by decide +kernel), List.mem_of_getElem? (i := 1345) (by decide +kernel)⟩
theorem lw_p43 : lw_okq (⟨"HutLiftModel", "isAlone", "(I)Z"⟩, 62) := ⟨⟨by decide +kernel, by decide +kernel⟩, List.mem_of_getElem? (i := 979) (by decide +kernel), List.mem_of_getElem? (i := 1348) (by decide +kernel), List.mem_of_getElem? (i := 1349) (by decide +kernel)⟩
theorem lw_p44 : lw_okq (⟨"HutLiftModel", "goOn", "(IIIIIII)V"⟩, 62) := ⟨⟨by decide +kernel, by decide +kernel⟩, List.mem_of_getElem? (i := 979) (by decide +kernel), List.mem_of_getElem? (i := 1360) (by decide +kernel), List.mem_of_getElem? (i := 1361) (by decide +kernel)⟩
theorem lw_p45 : lw_okq (⟨"HutLiftModel", "mayBegin", "(IIIII)Z"⟩, 62) := ⟨⟨by decide +kernel, by decide +kernel⟩, List.mem_of_getElem? (i := 979) (by decide +kernel), List.mem_of_getElem? (i := 1364) (by decide +kernel), List.mem_of_getElem? (i := 1365) (by decide +kernel)⟩
def lw_privs_3 : List (MethodName × Nat) := [(⟨"HutLiftModel", "named", "(IIIII)I"⟩, 62), (⟨"HutLiftModel", "ofHanging", "(II)I"⟩, 62), (⟨"HutLiftModel", "isLoad", "(I)Z"⟩, 62), (⟨"HutLiftModel", "why", "(III)I"⟩, 62), (⟨"HutLiftModel", "find", "(II)V"⟩, 62), (⟨"HutLiftModel", "wayOf", "(II)I"⟩, 62), (⟨"HutLiftModel", "longHangs", "(I)Z"⟩, 62), (⟨"HutLiftModel", "liftOf", "(III)I"⟩, 62), (⟨"HutLiftModel", "part", "(II)V"⟩, 62), (⟨"HutLiftModel", "isLate", "(I)Z"⟩, 62), (⟨"HutLiftModel", "packs", "(III)Z"⟩, 62), (⟨"HutLiftModel", "isAlone", "(I)Z"⟩, 62), (⟨"HutLiftModel", "goOn", "(IIIIIII)V"⟩, 62), (⟨"HutLiftModel", "mayBegin", "(IIIII)Z"⟩, 62)]
theorem lw_r3 : ∀ q ∈ lw_privs_3, lw_okq q := List.forall_mem_cons.mpr ⟨lw_p32, List.forall_mem_cons.mpr ⟨lw_p33, List.forall_mem_cons.mpr ⟨lw_p34, List.forall_mem_cons.mpr ⟨lw_p35, List.forall_mem_cons.mpr ⟨lw_p36, List.forall_mem_cons.mpr ⟨lw_p37, List.forall_mem_cons.mpr ⟨lw_p38, List.forall_mem_cons.mpr ⟨lw_p39, List.forall_mem_cons.mpr ⟨lw_p40, List.forall_mem_cons.mpr ⟨lw_p41, List.forall_mem_cons.mpr ⟨lw_p42, List.forall_mem_cons.mpr ⟨lw_p43, List.forall_mem_cons.mpr ⟨lw_p44, List.forall_mem_cons.mpr ⟨lw_p45, fun _ h => absurd h List.not_mem_nil⟩⟩⟩⟩⟩⟩⟩⟩⟩⟩⟩⟩⟩⟩
def lw_privs : List (MethodName × Nat) := lw_privs_1 ++ (lw_privs_2 ++ (lw_privs_3))
def lw_tbl : List Cond := k2_sels lw_privs ++ tables_1
theorem lw_privs_ok : ∀ q ∈ lw_privs, lw_okq q := by
  show ∀ q ∈ lw_privs_1 ++ (lw_privs_2 ++ (lw_privs_3)), lw_okq q
  exact List.forall_mem_append.mpr ⟨lw_r1, List.forall_mem_append.mpr ⟨lw_r2, lw_r3⟩⟩
def RX0 : String := "HutLift$Flight"
def TX0 : u_T := fun k => match k with
  | 0 => ("HutLift$Flight", "machine", "I", true)
  | 1 => ("HutLift$Flight", "pilot", "I", true)
  | 2 => ("HutLift$Flight", "place", "I", true)
  | 3 => ("HutLift$Flight", "begin", "I", true)
  | 4 => ("HutLift$Flight", "set", "I", true)
  | 5 => ("HutLift$Flight", "back", "I", true)
  | 6 => ("HutLift$Flight", "burnt", "I", false)
  | 7 => ("HutLift$Flight", "hung", "I", false)
  | _ => ("HutLift$Flight", "riders", "I", false)
def tyX0 : Nat → FieldType := fun k => match k with
  | 0 => .int
  | 1 => .int
  | 2 => .int
  | 3 => .int
  | 4 => .int
  | 5 => .int
  | 6 => .int
  | 7 => .int
  | _ => .int
abbrev wsX00 : List Cond := u_ws RX0 TX0 9
theorem nmX0 : ∀ a, a < 9 → ∀ b, b < 9 → a ≠ b → (TX0 a).2.1 ≠ (TX0 b).2.1 := by decide +kernel
theorem tyX0_ok : ∀ k, k < 9 → parseFieldDescriptor (TX0 k).2.2.1 = some (tyX0 k) := by decide +kernel
abbrev cX0_init : ByteArray := prog_2_method_1_code
def yX0_init : MethodName := ⟨RX0, "<init>", "(IIIII)V"⟩
def RX1 : String := "HutLift$Load"
def TX1 : u_T := fun k => match k with
  | 0 => ("HutLift$Load", "number", "I", true)
  | 1 => ("HutLift$Load", "kind", "I", true)
  | 2 => ("HutLift$Load", "place", "I", true)
  | 3 => ("HutLift$Load", "room", "I", true)
  | 4 => ("HutLift$Load", "weight", "I", true)
  | 5 => ("HutLift$Load", "ready", "I", true)
  | 6 => ("HutLift$Load", "due", "I", true)
  | 7 => ("HutLift$Load", "state", "I", false)
  | 8 => ("HutLift$Load", "machine", "I", false)
  | 9 => ("HutLift$Load", "flight", "I", false)
  | 10 => ("HutLift$Load", "lands", "I", false)
  | 11 => ("HutLift$Load", "shelved", "I", false)
  | _ => ("HutLift$Load", "cost", "I", false)
def tyX1 : Nat → FieldType := fun k => match k with
  | 0 => .int
  | 1 => .int
  | 2 => .int
  | 3 => .int
  | 4 => .int
  | 5 => .int
  | 6 => .int
  | 7 => .int
  | 8 => .int
  | 9 => .int
  | 10 => .int
  | 11 => .int
  | _ => .int
abbrev wsX10 : List Cond := u_ws RX1 TX1 13
theorem nmX1 : ∀ a, a < 13 → ∀ b, b < 13 → a ≠ b → (TX1 a).2.1 ≠ (TX1 b).2.1 := by decide +kernel
theorem tyX1_ok : ∀ k, k < 13 → parseFieldDescriptor (TX1 k).2.2.1 = some (tyX1 k) := by decide +kernel
abbrev cX1_init : ByteArray := prog_3_method_1_code
def yX1_init : MethodName := ⟨RX1, "<init>", "(IIIII)V"⟩
abbrev cX1_hangsAlone : ByteArray := prog_3_method_2_code
def yX1_hangsAlone : MethodName := ⟨RX1, "hangsAlone", "()Z"⟩
abbrev cX1_canBeHung : ByteArray := prog_3_method_3_code
def yX1_canBeHung : MethodName := ⟨RX1, "canBeHung", "(I)Z"⟩
abbrev cX1_waitsFor : ByteArray := prog_3_method_4_code
def yX1_waitsFor : MethodName := ⟨RX1, "waitsFor", "(I)Z"⟩
abbrev cX1_shelveBy : ByteArray := prog_3_method_5_code
def yX1_shelveBy : MethodName := ⟨RX1, "shelveBy", "(I)V"⟩
abbrev cX1_isLate : ByteArray := prog_3_method_6_code
def yX1_isLate : MethodName := ⟨RX1, "isLate", "()Z"⟩
def RX2 : String := "HutLift$Machine"
def TX2 : u_T := fun k => match k with
  | 0 => ("HutLift$Machine", "base", "I", true)
  | 1 => ("HutLift$Machine", "tank", "I", true)
  | 2 => ("HutLift$Machine", "hanging", "Ljava/util/ArrayList;", true)
  | 3 => ("HutLift$Machine", "fuel", "I", false)
  | _ => ("HutLift$Machine", "free", "I", false)
def tyX2 : Nat → FieldType := fun k => match k with
  | 0 => .int
  | 1 => .int
  | 2 => .object "java/util/ArrayList"
  | 3 => .int
  | _ => .int
abbrev wsX20 : List Cond := u_ws RX2 TX2 5
theorem nmX2 : ∀ a, a < 5 → ∀ b, b < 5 → a ≠ b → (TX2 a).2.1 ≠ (TX2 b).2.1 := by decide +kernel
theorem tyX2_ok : ∀ k, k < 5 → parseFieldDescriptor (TX2 k).2.2.1 = some (tyX2 k) := by decide +kernel
abbrev cX2_init : ByteArray := prog_4_method_1_code
def yX2_init : MethodName := ⟨RX2, "<init>", "(II)V"⟩
abbrev cX2_strength : ByteArray := prog_4_method_2_code
def yX2_strength : MethodName := ⟨RX2, "strength", "(II)I"⟩
abbrev cX2_takes : ByteArray := prog_4_method_3_code
def yX2_takes : MethodName := ⟨RX2, "takes", "(LHutLift$Load;)Z"⟩
abbrev cX2_hangsForOther : ByteArray := prog_4_method_4_code
def yX2_hangsForOther : MethodName := ⟨RX2, "hangsForOther", "(I)Z"⟩
abbrev cX2_carries : ByteArray := prog_4_method_5_code
def yX2_carries : MethodName := ⟨RX2, "carries", "(I)Z"⟩
abbrev cX2_greatestKind : ByteArray := prog_4_method_6_code
def yX2_greatestKind : MethodName := ⟨RX2, "greatestKind", "()I"⟩
abbrev cX2_spoils : ByteArray := prog_4_method_7_code
def yX2_spoils : MethodName := ⟨RX2, "spoils", "(I)Z"⟩
abbrev cX2_unhook : ByteArray := prog_4_method_8_code
def yX2_unhook : MethodName := ⟨RX2, "unhook", "(LHutLift$Load;)V"⟩
def RX3 : String := "HutLift$OrderSearch"
def TX3 : u_T := fun k => match k with
  | 0 => ("HutLift$OrderSearch", "wanted", "[LHutLift$Place;", true)
  | 1 => ("HutLift$OrderSearch", "tried", "[I", true)
  | 2 => ("HutLift$OrderSearch", "found", "[I", true)
  | 3 => ("HutLift$OrderSearch", "earliest", "[I", true)
  | 4 => ("HutLift$OrderSearch", "size", "I", false)
  | 5 => ("HutLift$OrderSearch", "foundSize", "I", false)
  | 6 => ("HutLift$OrderSearch", "rest", "I", false)
  | _ => ("HutLift$OrderSearch", "best", "I", false)
def tyX3 : Nat → FieldType := fun k => match k with
  | 0 => .array (.object "HutLift$Place")
  | 1 => .array .int
  | 2 => .array .int
  | 3 => .array .int
  | 4 => .int
  | 5 => .int
  | 6 => .int
  | _ => .int
abbrev wsX30 : List Cond := u_ws RX3 TX3 8
theorem nmX3 : ∀ a, a < 8 → ∀ b, b < 8 → a ≠ b → (TX3 a).2.1 ≠ (TX3 b).2.1 := by decide +kernel
theorem tyX3_ok : ∀ k, k < 8 → parseFieldDescriptor (TX3 k).2.2.1 = some (tyX3 k) := by decide +kernel
abbrev cX3_init : ByteArray := prog_5_method_1_code
def yX3_init : MethodName := ⟨RX3, "<init>", "()V"⟩
abbrev cX3_want : ByteArray := prog_5_method_2_code
def yX3_want : MethodName := ⟨RX3, "want", "(LHutLift$Place;)V"⟩
abbrev cX3_canAfford : ByteArray := prog_5_method_3_code
def yX3_canAfford : MethodName := ⟨RX3, "canAfford", "(LHutLift$Machine;LHutLift$Pilot;)Z"⟩
abbrev cX3_findOrder : ByteArray := prog_5_method_4_code
def yX3_findOrder : MethodName := ⟨RX3, "findOrder", "(LHutLift$RuleBook;LHutLift$Weather;LHutLift$Pilot;I)Z"⟩
abbrev cX3_extend : ByteArray := prog_5_method_5_code
def yX3_extend : MethodName := ⟨RX3, "extend", "(LHutLift$RuleBook;LHutLift$Weather;IIII)V"⟩
abbrev cX3_isTaken : ByteArray := prog_5_method_6_code
def yX3_isTaken : MethodName := ⟨RX3, "isTaken", "(II)Z"⟩
abbrev cX3_isSameAsUntaken : ByteArray := prog_5_method_7_code
def yX3_isSameAsUntaken : MethodName := ⟨RX3, "isSameAsUntaken", "(II)Z"⟩
abbrev cX3_leastMinutesLeft : ByteArray := prog_5_method_8_code
def yX3_leastMinutesLeft : MethodName := ⟨RX3, "leastMinutesLeft", "(I)I"⟩
def RX4 : String := "HutLift$Packer"
def TX4 : u_T := fun k => match k with
  | 0 => ("HutLift$Packer", "packed", "Ljava/util/ArrayList;", true)
  | 1 => ("HutLift$Packer", "weights", "[I", true)
  | 2 => ("HutLift$Packer", "rooms", "[I", true)
  | 3 => ("HutLift$Packer", "lift", "I", false)
  | _ => ("HutLift$Packer", "fewest", "I", false)
def tyX4 : Nat → FieldType := fun k => match k with
  | 0 => .object "java/util/ArrayList"
  | 1 => .array .int
  | 2 => .array .int
  | 3 => .int
  | _ => .int
abbrev wsX40 : List Cond := u_ws RX4 TX4 5
theorem nmX4 : ∀ a, a < 5 → ∀ b, b < 5 → a ≠ b → (TX4 a).2.1 ≠ (TX4 b).2.1 := by decide +kernel
theorem tyX4_ok : ∀ k, k < 5 → parseFieldDescriptor (TX4 k).2.2.1 = some (tyX4 k) := by decide +kernel
abbrev cX4_init : ByteArray := prog_6_method_1_code
def yX4_init : MethodName := ⟨RX4, "<init>", "()V"⟩
abbrev cX4_gather : ByteArray := prog_6_method_2_code
def yX4_gather : MethodName := ⟨RX4, "gather", "(Ljava/util/ArrayList;I)V"⟩
abbrev cX4_fewestNets : ByteArray := prog_6_method_3_code
def yX4_fewestNets : MethodName := ⟨RX4, "fewestNets", "(I)I"⟩
abbrev cX4_putFrom : ByteArray := prog_6_method_4_code
def yX4_putFrom : MethodName := ⟨RX4, "putFrom", "(II)V"⟩
def RX5 : String := "HutLift$Pilot"
def TX5 : u_T := fun k => match k with
  | 0 => ("HutLift$Pilot", "most", "I", true)
  | 1 => ("HutLift$Pilot", "rest", "I", true)
  | 2 => ("HutLift$Pilot", "flown", "I", false)
  | _ => ("HutLift$Pilot", "free", "I", false)
def tyX5 : Nat → FieldType := fun k => match k with
  | 0 => .int
  | 1 => .int
  | 2 => .int
  | _ => .int
abbrev wsX50 : List Cond := u_ws RX5 TX5 4
theorem nmX5 : ∀ a, a < 4 → ∀ b, b < 4 → a ≠ b → (TX5 a).2.1 ≠ (TX5 b).2.1 := by decide +kernel
theorem tyX5_ok : ∀ k, k < 4 → parseFieldDescriptor (TX5 k).2.2.1 = some (tyX5 k) := by decide +kernel
abbrev cX5_init : ByteArray := prog_7_method_1_code
def yX5_init : MethodName := ⟨RX5, "<init>", "(II)V"⟩
def RX6 : String := "HutLift$Place"
def TX6 : u_T := fun k => match k with
  | 0 => ("HutLift$Place", "number", "I", true)
  | 1 => ("HutLift$Place", "height", "I", true)
  | _ => ("HutLift$Place", "way", "I", true)
def tyX6 : Nat → FieldType := fun k => match k with
  | 0 => .int
  | 1 => .int
  | _ => .int
abbrev wsX60 : List Cond := u_ws RX6 TX6 3
theorem nmX6 : ∀ a, a < 3 → ∀ b, b < 3 → a ≠ b → (TX6 a).2.1 ≠ (TX6 b).2.1 := by decide +kernel
theorem tyX6_ok : ∀ k, k < 3 → parseFieldDescriptor (TX6 k).2.2.1 = some (tyX6 k) := by decide +kernel
abbrev cX6_init : ByteArray := prog_8_method_1_code
def yX6_init : MethodName := ⟨RX6, "<init>", "(III)V"⟩
abbrev cX6_minutesThereAndBack : ByteArray := prog_8_method_2_code
def yX6_minutesThereAndBack : MethodName := ⟨RX6, "minutesThereAndBack", "()I"⟩
def RX7 : String := "HutLift$Rule"
def TX7 : u_T := fun k => match k with
  | 0 => ("HutLift$Rule", "steps", "[I", true)
  | 1 => ("HutLift$Rule", "size", "I", true)
  | 2 => ("HutLift$Rule", "asksMinute", "Z", true)
  | _ => ("HutLift$Rule", "asksHour", "Z", true)
def tyX7 : Nat → FieldType := fun k => match k with
  | 0 => .array .int
  | 1 => .int
  | 2 => .boolean
  | _ => .boolean
abbrev wsX70 : List Cond := u_ws RX7 TX7 4
theorem nmX7 : ∀ a, a < 4 → ∀ b, b < 4 → a ≠ b → (TX7 a).2.1 ≠ (TX7 b).2.1 := by decide +kernel
theorem tyX7_ok : ∀ k, k < 4 → parseFieldDescriptor (TX7 k).2.2.1 = some (tyX7 k) := by decide +kernel
abbrev cX7_init : ByteArray := prog_9_method_1_code
def yX7_init : MethodName := ⟨RX7, "<init>", "([II)V"⟩
abbrev cX7_nextChange : ByteArray := prog_9_method_2_code
def yX7_nextChange : MethodName := ⟨RX7, "nextChange", "(I)I"⟩
def RX8 : String := "HutLift$RuleBook"
def TX8 : u_T := fun k => match k with
  | 0 => ("HutLift$RuleBook", "rules", "Ljava/util/ArrayList;", true)
  | 1 => ("HutLift$RuleBook", "names", "[I", true)
  | 2 => ("HutLift$RuleBook", "pile", "[I", true)
  | _ => ("HutLift$RuleBook", "lying", "I", false)
def tyX8 : Nat → FieldType := fun k => match k with
  | 0 => .object "java/util/ArrayList"
  | 1 => .array .int
  | 2 => .array .int
  | _ => .int
abbrev wsX80 : List Cond := u_ws RX8 TX8 4
theorem nmX8 : ∀ a, a < 4 → ∀ b, b < 4 → a ≠ b → (TX8 a).2.1 ≠ (TX8 b).2.1 := by decide +kernel
theorem tyX8_ok : ∀ k, k < 4 → parseFieldDescriptor (TX8 k).2.2.1 = some (tyX8 k) := by decide +kernel
abbrev cX8_init : ByteArray := prog_10_method_1_code
def yX8_init : MethodName := ⟨RX8, "<init>", "()V"⟩
abbrev cX8_setTime : ByteArray := prog_10_method_2_code
def yX8_setTime : MethodName := ⟨RX8, "setTime", "(LHutLift$Weather;I)V"⟩
abbrev cX8_setGoal : ByteArray := prog_10_method_3_code
def yX8_setGoal : MethodName := ⟨RX8, "setGoal", "(LHutLift$Place;)V"⟩
abbrev cX8_setHanging : ByteArray := prog_10_method_4_code
def yX8_setHanging : MethodName := ⟨RX8, "setHanging", "(LHutLift$Machine;)V"⟩
abbrev cX8_setFlown : ByteArray := prog_10_method_5_code
def yX8_setFlown : MethodName := ⟨RX8, "setFlown", "(I)V"⟩
abbrev cX8_firstBroken : ByteArray := prog_10_method_6_code
def yX8_firstBroken : MethodName := ⟨RX8, "firstBroken", "()I"⟩
abbrev cX8_firstMinute : ByteArray := prog_10_method_7_code
def yX8_firstMinute : MethodName := ⟨RX8, "firstMinute", "(LHutLift$Weather;II)I"⟩
abbrev cX8_workOut : ByteArray := prog_10_method_8_code
def yX8_workOut : MethodName := ⟨RX8, "workOut", "(LHutLift$Rule;)I"⟩
abbrev cX8_joined : ByteArray := prog_10_method_9_code
def yX8_joined : MethodName := ⟨RX8, "joined", "(III)I"⟩
abbrev cX8_named : ByteArray := prog_10_method_10_code
def yX8_named : MethodName := ⟨RX8, "named", "(I)I"⟩
abbrev cX8_lay : ByteArray := prog_10_method_11_code
def yX8_lay : MethodName := ⟨RX8, "lay", "(I)V"⟩
abbrev cX8_take : ByteArray := prog_10_method_12_code
def yX8_take : MethodName := ⟨RX8, "take", "()I"⟩
def RX9 : String := "HutLift$Tape"
def TX9 : u_T := fun k => match k with
  | 0 => ("HutLift$Tape", "bytes", "[I", true)
  | _ => ("HutLift$Tape", "length", "I", false)
def tyX9 : Nat → FieldType := fun k => match k with
  | 0 => .array .int
  | _ => .int
abbrev wsX90 : List Cond := u_ws RX9 TX9 2
theorem nmX9 : ∀ a, a < 2 → ∀ b, b < 2 → a ≠ b → (TX9 a).2.1 ≠ (TX9 b).2.1 := by decide +kernel
theorem tyX9_ok : ∀ k, k < 2 → parseFieldDescriptor (TX9 k).2.2.1 = some (tyX9 k) := by decide +kernel
abbrev cX9_init : ByteArray := prog_11_method_1_code
def yX9_init : MethodName := ⟨RX9, "<init>", "()V"⟩
abbrev cX9_write : ByteArray := prog_11_method_2_code
def yX9_write : MethodName := ⟨RX9, "write", "(II)V"⟩
abbrev cX9_firstFault : ByteArray := prog_11_method_3_code
def yX9_firstFault : MethodName := ⟨RX9, "firstFault", "()I"⟩
abbrev cX9_asRule : ByteArray := prog_11_method_4_code
def yX9_asRule : MethodName := ⟨RX9, "asRule", "()LHutLift$Rule;"⟩
abbrev cX9_isDigit : ByteArray := prog_11_method_5_code
def yX9_isDigit : MethodName := ⟨RX9, "isDigit", "(I)Z"⟩
abbrev cX9_takenBy : ByteArray := prog_11_method_6_code
def yX9_takenBy : MethodName := ⟨RX9, "takenBy", "(I)I"⟩
abbrev cX9_stepOf : ByteArray := prog_11_method_7_code
def yX9_stepOf : MethodName := ⟨RX9, "stepOf", "(I)I"⟩
def RX10 : String := "HutLift$Weather"
def TX10 : u_T := fun k => match k with
  | 0 => ("HutLift$Weather", "wind", "[I", true)
  | 1 => ("HutLift$Weather", "warmth", "[I", true)
  | _ => ("HutLift$Weather", "sight", "[I", true)
def tyX10 : Nat → FieldType := fun k => match k with
  | 0 => .array .int
  | 1 => .array .int
  | _ => .array .int
abbrev wsX100 : List Cond := u_ws RX10 TX10 3
theorem nmX10 : ∀ a, a < 3 → ∀ b, b < 3 → a ≠ b → (TX10 a).2.1 ≠ (TX10 b).2.1 := by decide +kernel
theorem tyX10_ok : ∀ k, k < 3 → parseFieldDescriptor (TX10 k).2.2.1 = some (tyX10 k) := by decide +kernel
abbrev cX10_init : ByteArray := prog_12_method_1_code
def yX10_init : MethodName := ⟨RX10, "<init>", "()V"⟩
abbrev cX10_foretell : ByteArray := prog_12_method_2_code
def yX10_foretell : MethodName := ⟨RX10, "foretell", "(IIII)V"⟩
abbrev cX10_hourOf : ByteArray := prog_12_method_3_code
def yX10_hourOf : MethodName := ⟨RX10, "hourOf", "(I)I"⟩
abbrev cX10_warmthAt : ByteArray := prog_12_method_4_code
def yX10_warmthAt : MethodName := ⟨RX10, "warmthAt", "(I)I"⟩
def RX11 : String := "HutLift"
def TX11 : u_T := fun k => match k with
  | 0 => ("HutLift", "places", "Ljava/util/ArrayList;", true)
  | 1 => ("HutLift", "machines", "Ljava/util/ArrayList;", true)
  | 2 => ("HutLift", "pilots", "Ljava/util/ArrayList;", true)
  | 3 => ("HutLift", "loads", "Ljava/util/ArrayList;", true)
  | 4 => ("HutLift", "flights", "Ljava/util/ArrayList;", true)
  | 5 => ("HutLift", "weather", "LHutLift$Weather;", true)
  | 6 => ("HutLift", "tape", "LHutLift$Tape;", true)
  | 7 => ("HutLift", "book", "LHutLift$RuleBook;", true)
  | 8 => ("HutLift", "packer", "LHutLift$Packer;", true)
  | 9 => ("HutLift", "search", "LHutLift$OrderSearch;", true)
  | 10 => ("HutLift", "riders", "Ljava/util/ArrayList;", true)
  | _ => ("HutLift", "minute", "I", false)
def tyX11 : Nat → FieldType := fun k => match k with
  | 0 => .object "java/util/ArrayList"
  | 1 => .object "java/util/ArrayList"
  | 2 => .object "java/util/ArrayList"
  | 3 => .object "java/util/ArrayList"
  | 4 => .object "java/util/ArrayList"
  | 5 => .object "HutLift$Weather"
  | 6 => .object "HutLift$Tape"
  | 7 => .object "HutLift$RuleBook"
  | 8 => .object "HutLift$Packer"
  | 9 => .object "HutLift$OrderSearch"
  | 10 => .object "java/util/ArrayList"
  | _ => .int
abbrev wsX110 : List Cond := u_ws RX11 TX11 12
theorem nmX11 : ∀ a, a < 12 → ∀ b, b < 12 → a ≠ b → (TX11 a).2.1 ≠ (TX11 b).2.1 := by decide +kernel
theorem tyX11_ok : ∀ k, k < 12 → parseFieldDescriptor (TX11 k).2.2.1 = some (tyX11 k) := by decide +kernel
abbrev cX11_init : ByteArray := prog_1_method_1_code
def yX11_init : MethodName := ⟨RX11, "<init>", "()V"⟩
abbrev cX11_place : ByteArray := prog_1_method_2_code
def yX11_place : MethodName := ⟨RX11, "place", "(II)I"⟩
abbrev cX11_machine : ByteArray := prog_1_method_3_code
def yX11_machine : MethodName := ⟨RX11, "machine", "(II)I"⟩
abbrev cX11_pilot : ByteArray := prog_1_method_4_code
def yX11_pilot : MethodName := ⟨RX11, "pilot", "(II)I"⟩
abbrev cX11_load : ByteArray := prog_1_method_5_code
def yX11_load : MethodName := ⟨RX11, "load", "(IIII)I"⟩
abbrev cX11_hour : ByteArray := prog_1_method_6_code
def yX11_hour : MethodName := ⟨RX11, "hour", "(IIII)I"⟩
abbrev cX11_feed : ByteArray := prog_1_method_7_code
def yX11_feed : MethodName := ⟨RX11, "feed", "(II)I"⟩
abbrev cX11_rule : ByteArray := prog_1_method_8_code
def yX11_rule : MethodName := ⟨RX11, "rule", "()I"⟩
abbrev cX11_drop : ByteArray := prog_1_method_9_code
def yX11_drop : MethodName := ⟨RX11, "drop", "()I"⟩
abbrev cX11_says : ByteArray := prog_1_method_10_code
def yX11_says : MethodName := ⟨RX11, "says", "(IIII)I"⟩
abbrev cX11_hang : ByteArray := prog_1_method_11_code
def yX11_hang : MethodName := ⟨RX11, "hang", "(II)I"⟩
abbrev cX11_off : ByteArray := prog_1_method_12_code
def yX11_off : MethodName := ⟨RX11, "off", "(I)I"⟩
abbrev cX11_may : ByteArray := prog_1_method_13_code
def yX11_may : MethodName := ⟨RX11, "may", "(III)I"⟩
abbrev cX11_fly : ByteArray := prog_1_method_14_code
def yX11_fly : MethodName := ⟨RX11, "fly", "(III)I"⟩
abbrev cX11_fuel : ByteArray := prog_1_method_15_code
def yX11_fuel : MethodName := ⟨RX11, "fuel", "(I)I"⟩
abbrev cX11_minute : ByteArray := prog_1_method_16_code
def yX11_minute : MethodName := ⟨RX11, "minute", "(I)I"⟩
abbrev cX11_about : ByteArray := prog_1_method_17_code
def yX11_about : MethodName := ⟨RX11, "about", "(II)I"⟩
abbrev cX11_pilotOf : ByteArray := prog_1_method_18_code
def yX11_pilotOf : MethodName := ⟨RX11, "pilotOf", "(II)I"⟩
abbrev cX11_cargo : ByteArray := prog_1_method_19_code
def yX11_cargo : MethodName := ⟨RX11, "cargo", "(II)I"⟩
abbrev cX11_flight : ByteArray := prog_1_method_20_code
def yX11_flight : MethodName := ⟨RX11, "flight", "(II)I"⟩
abbrev cX11_lift : ByteArray := prog_1_method_21_code
def yX11_lift : MethodName := ⟨RX11, "lift", "(III)I"⟩
abbrev cX11_pack : ByteArray := prog_1_method_22_code
def yX11_pack : MethodName := ⟨RX11, "pack", "(II)I"⟩
abbrev cX11_list : ByteArray := prog_1_method_23_code
def yX11_list : MethodName := ⟨RX11, "list", "(I)I"⟩
abbrev cX11_order : ByteArray := prog_1_method_24_code
def yX11_order : MethodName := ⟨RX11, "order", "(II)I"⟩
abbrev cX11_ordered : ByteArray := prog_1_method_25_code
def yX11_ordered : MethodName := ⟨RX11, "ordered", "(I)I"⟩
abbrev cX11_count : ByteArray := prog_1_method_26_code
def yX11_count : MethodName := ⟨RX11, "count", "(I)I"⟩
abbrev cX11_isWithin : ByteArray := prog_1_method_27_code
def yX11_isWithin : MethodName := ⟨RX11, "isWithin", "(III)Z"⟩
abbrev cX11_isMachine : ByteArray := prog_1_method_28_code
def yX11_isMachine : MethodName := ⟨RX11, "isMachine", "(I)Z"⟩
abbrev cX11_isPilot : ByteArray := prog_1_method_29_code
def yX11_isPilot : MethodName := ⟨RX11, "isPilot", "(I)Z"⟩
abbrev cX11_isLoad : ByteArray := prog_1_method_30_code
def yX11_isLoad : MethodName := ⟨RX11, "isLoad", "(I)Z"⟩
abbrev cX11_isHut : ByteArray := prog_1_method_31_code
def yX11_isHut : MethodName := ⟨RX11, "isHut", "(I)Z"⟩
abbrev cX11_isFlight : ByteArray := prog_1_method_32_code
def yX11_isFlight : MethodName := ⟨RX11, "isFlight", "(III)Z"⟩
abbrev cX11_isCargo : ByteArray := prog_1_method_33_code
def yX11_isCargo : MethodName := ⟨RX11, "isCargo", "(I)Z"⟩
abbrev cX11_weightOf : ByteArray := prog_1_method_34_code
def yX11_weightOf : MethodName := ⟨RX11, "weightOf", "(Ljava/util/ArrayList;)I"⟩
abbrev cX11_roomOf : ByteArray := prog_1_method_35_code
def yX11_roomOf : MethodName := ⟨RX11, "roomOf", "(Ljava/util/ArrayList;)I"⟩
abbrev cX11_shelvedLoads : ByteArray := prog_1_method_36_code
def yX11_shelvedLoads : MethodName := ⟨RX11, "shelvedLoads", "()I"⟩
abbrev cX11_lateLoads : ByteArray := prog_1_method_37_code
def yX11_lateLoads : MethodName := ⟨RX11, "lateLoads", "()I"⟩
abbrev cX11_askAbout : ByteArray := prog_1_method_38_code
def yX11_askAbout : MethodName := ⟨RX11, "askAbout", "(III)V"⟩
abbrev cX11_planned : ByteArray := prog_1_method_39_code
def yX11_planned : MethodName := ⟨RX11, "planned", "(III)LHutLift$Flight;"⟩
abbrev cX11_chooseRiders : ByteArray := prog_1_method_40_code
def yX11_chooseRiders : MethodName := ⟨RX11, "chooseRiders", "(III)V"⟩
abbrev cX11_whyNot : ByteArray := prog_1_method_41_code
def yX11_whyNot : MethodName := ⟨RX11, "whyNot", "(LHutLift$Flight;)I"⟩
abbrev cX11_isTooHeavy : ByteArray := prog_1_method_42_code
def yX11_isTooHeavy : MethodName := ⟨RX11, "isTooHeavy", "(LHutLift$Machine;LHutLift$Flight;)Z"⟩
abbrev cX11_begin : ByteArray := prog_1_method_43_code
def yX11_begin : MethodName := ⟨RX11, "begin", "(LHutLift$Flight;)V"⟩
abbrev cX11_takeAlong : ByteArray := prog_1_method_44_code
def yX11_takeAlong : MethodName := ⟨RX11, "takeAlong", "(Ljava/util/ArrayList;II)V"⟩
abbrev cX11_partMinutes : ByteArray := prog_1_method_45_code
def yX11_partMinutes : MethodName := ⟨RX11, "partMinutes", "(ILjava/util/ArrayList;Ljava/util/ArrayList;)V"⟩
abbrev cX11_giveShares : ByteArray := prog_1_method_46_code
def yX11_giveShares : MethodName := ⟨RX11, "giveShares", "(Ljava/util/ArrayList;II)I"⟩
abbrev cX11_leastOf : ByteArray := prog_1_method_47_code
def yX11_leastOf : MethodName := ⟨RX11, "leastOf", "(Ljava/util/ArrayList;)LHutLift$Load;"⟩
abbrev cX11_lesserOf : ByteArray := prog_1_method_48_code
def yX11_lesserOf : MethodName := ⟨RX11, "lesserOf", "(LHutLift$Load;LHutLift$Load;)LHutLift$Load;"⟩
def RX12 : String := "HutLiftModel"
def TX12 : u_T := fun k => match k with
  | 0 => ("HutLiftModel", "minute", "I", false)
  | 1 => ("HutLiftModel", "height", "[I", true)
  | 2 => ("HutLiftModel", "way", "[I", true)
  | 3 => ("HutLiftModel", "places", "I", false)
  | 4 => ("HutLiftModel", "wind", "[I", true)
  | 5 => ("HutLiftModel", "warmth", "[I", true)
  | 6 => ("HutLiftModel", "sight", "[I", true)
  | 7 => ("HutLiftModel", "base", "[I", true)
  | 8 => ("HutLiftModel", "tank", "[I", true)
  | 9 => ("HutLiftModel", "fuel", "[I", true)
  | 10 => ("HutLiftModel", "machineFree", "[I", true)
  | 11 => ("HutLiftModel", "machines", "I", false)
  | 12 => ("HutLiftModel", "most", "[I", true)
  | 13 => ("HutLiftModel", "rest", "[I", true)
  | 14 => ("HutLiftModel", "flown", "[I", true)
  | 15 => ("HutLiftModel", "pilotFree", "[I", true)
  | 16 => ("HutLiftModel", "pilots", "I", false)
  | 17 => ("HutLiftModel", "place", "[I", true)
  | 18 => ("HutLiftModel", "weight", "[I", true)
  | 19 => ("HutLiftModel", "room", "[I", true)
  | 20 => ("HutLiftModel", "kind", "[I", true)
  | 21 => ("HutLiftModel", "ready", "[I", true)
  | 22 => ("HutLiftModel", "due", "[I", true)
  | 23 => ("HutLiftModel", "state", "[I", true)
  | 24 => ("HutLiftModel", "on", "[I", true)
  | 25 => ("HutLiftModel", "by", "[I", true)
  | 26 => ("HutLiftModel", "shelvedAt", "[I", true)
  | 27 => ("HutLiftModel", "cost", "[I", true)
  | 28 => ("HutLiftModel", "loads", "I", false)
  | 29 => ("HutLiftModel", "tape", "[I", true)
  | 30 => ("HutLiftModel", "tapeMany", "I", false)
  | 31 => ("HutLiftModel", "rule", "[I", true)
  | 32 => ("HutLiftModel", "ruleMany", "[I", true)
  | 33 => ("HutLiftModel", "rules", "I", false)
  | 34 => ("HutLiftModel", "pile", "[I", true)
  | 35 => ("HutLiftModel", "piled", "I", false)
  | 36 => ("HutLiftModel", "flightMachine", "[I", true)
  | 37 => ("HutLiftModel", "flightPilot", "[I", true)
  | 38 => ("HutLiftModel", "flightPlace", "[I", true)
  | 39 => ("HutLiftModel", "begins", "[I", true)
  | 40 => ("HutLiftModel", "sets", "[I", true)
  | 41 => ("HutLiftModel", "backs", "[I", true)
  | 42 => ("HutLiftModel", "burnt", "[I", true)
  | 43 => ("HutLiftModel", "hung", "[I", true)
  | 44 => ("HutLiftModel", "riders", "[I", true)
  | 45 => ("HutLiftModel", "flights", "I", false)
  | 46 => ("HutLiftModel", "set", "I", false)
  | 47 => ("HutLiftModel", "back", "I", false)
  | 48 => ("HutLiftModel", "burns", "I", false)
  | 49 => ("HutLiftModel", "rides", "[Z", true)
  | 50 => ("HutLiftModel", "list", "[I", true)
  | 51 => ("HutLiftModel", "listMany", "I", false)
  | 52 => ("HutLiftModel", "order", "[I", true)
  | 53 => ("HutLiftModel", "bestOrder", "[I", true)
  | 54 => ("HutLiftModel", "flownTo", "[Z", true)
  | 55 => ("HutLiftModel", "bestMany", "I", false)
  | 56 => ("HutLiftModel", "bestEnd", "I", false)
  | 57 => ("HutLiftModel", "bestSize", "I", false)
  | 58 => ("HutLiftModel", "net", "[I", true)
  | 59 => ("HutLiftModel", "packed", "[I", true)
  | 60 => ("HutLiftModel", "packedMany", "I", false)
  | _ => ("HutLiftModel", "found", "[I", true)
def tyX12 : Nat → FieldType := fun k => match k with
  | 0 => .int
  | 1 => .array .int
  | 2 => .array .int
  | 3 => .int
  | 4 => .array .int
  | 5 => .array .int
  | 6 => .array .int
  | 7 => .array .int
  | 8 => .array .int
  | 9 => .array .int
  | 10 => .array .int
  | 11 => .int
  | 12 => .array .int
  | 13 => .array .int
  | 14 => .array .int
  | 15 => .array .int
  | 16 => .int
  | 17 => .array .int
  | 18 => .array .int
  | 19 => .array .int
  | 20 => .array .int
  | 21 => .array .int
  | 22 => .array .int
  | 23 => .array .int
  | 24 => .array .int
  | 25 => .array .int
  | 26 => .array .int
  | 27 => .array .int
  | 28 => .int
  | 29 => .array .int
  | 30 => .int
  | 31 => .array .int
  | 32 => .array .int
  | 33 => .int
  | 34 => .array .int
  | 35 => .int
  | 36 => .array .int
  | 37 => .array .int
  | 38 => .array .int
  | 39 => .array .int
  | 40 => .array .int
  | 41 => .array .int
  | 42 => .array .int
  | 43 => .array .int
  | 44 => .array .int
  | 45 => .int
  | 46 => .int
  | 47 => .int
  | 48 => .int
  | 49 => .array .boolean
  | 50 => .array .int
  | 51 => .int
  | 52 => .array .int
  | 53 => .array .int
  | 54 => .array .boolean
  | 55 => .int
  | 56 => .int
  | 57 => .int
  | 58 => .array .int
  | 59 => .array .int
  | 60 => .int
  | _ => .array .int
abbrev wsX120 : List Cond := u_ws RX12 TX12 62
theorem nmX12 : ∀ a, a < 62 → ∀ b, b < 62 → a ≠ b → (TX12 a).2.1 ≠ (TX12 b).2.1 := by decide +kernel
theorem tyX12_ok : ∀ k, k < 62 → parseFieldDescriptor (TX12 k).2.2.1 = some (tyX12 k) := by decide +kernel
abbrev cX12_init : ByteArray := prog_14_method_1_code
def yX12_init : MethodName := ⟨RX12, "<init>", "()V"⟩
abbrev cX12_within : ByteArray := prog_14_method_2_code
def yX12_within : MethodName := ⟨RX12, "within", "(III)Z"⟩
abbrev cX12_hourOf : ByteArray := prog_14_method_3_code
def yX12_hourOf : MethodName := ⟨RX12, "hourOf", "(I)I"⟩
abbrev cX12_place : ByteArray := prog_14_method_4_code
def yX12_place : MethodName := ⟨RX12, "place", "(II)I"⟩
abbrev cX12_machine : ByteArray := prog_14_method_5_code
def yX12_machine : MethodName := ⟨RX12, "machine", "(II)I"⟩
abbrev cX12_pilot : ByteArray := prog_14_method_6_code
def yX12_pilot : MethodName := ⟨RX12, "pilot", "(II)I"⟩
abbrev cX12_isMachine : ByteArray := prog_14_method_7_code
def yX12_isMachine : MethodName := ⟨RX12, "isMachine", "(I)Z"⟩
abbrev cX12_isPilot : ByteArray := prog_14_method_8_code
def yX12_isPilot : MethodName := ⟨RX12, "isPilot", "(I)Z"⟩
abbrev cX12_isHut : ByteArray := prog_14_method_9_code
def yX12_isHut : MethodName := ⟨RX12, "isHut", "(I)Z"⟩
abbrev cX12_isLoad : ByteArray := prog_14_method_10_code
def yX12_isLoad : MethodName := ⟨RX12, "isLoad", "(I)Z"⟩
abbrev cX12_load : ByteArray := prog_14_method_11_code
def yX12_load : MethodName := ⟨RX12, "load", "(IIII)I"⟩
abbrev cX12_hour : ByteArray := prog_14_method_12_code
def yX12_hour : MethodName := ⟨RX12, "hour", "(IIII)I"⟩
abbrev cX12_feed : ByteArray := prog_14_method_13_code
def yX12_feed : MethodName := ⟨RX12, "feed", "(II)I"⟩
abbrev cX12_isTwo : ByteArray := prog_14_method_14_code
def yX12_isTwo : MethodName := ⟨RX12, "isTwo", "(I)Z"⟩
abbrev cX12_isName : ByteArray := prog_14_method_15_code
def yX12_isName : MethodName := ⟨RX12, "isName", "(I)Z"⟩
abbrev cX12_isDigit : ByteArray := prog_14_method_16_code
def yX12_isDigit : MethodName := ⟨RX12, "isDigit", "(I)Z"⟩
abbrev cX12_fault : ByteArray := prog_14_method_17_code
def yX12_fault : MethodName := ⟨RX12, "fault", "()I"⟩
abbrev cX12_rule : ByteArray := prog_14_method_18_code
def yX12_rule : MethodName := ⟨RX12, "rule", "()I"⟩
abbrev cX12_drop : ByteArray := prog_14_method_19_code
def yX12_drop : MethodName := ⟨RX12, "drop", "()I"⟩
abbrev cX12_lay : ByteArray := prog_14_method_20_code
def yX12_lay : MethodName := ⟨RX12, "lay", "(I)V"⟩
abbrev cX12_take : ByteArray := prog_14_method_21_code
def yX12_take : MethodName := ⟨RX12, "take", "()I"⟩
abbrev cX12_both : ByteArray := prog_14_method_22_code
def yX12_both : MethodName := ⟨RX12, "both", "(III)I"⟩
abbrev cX12_workedOut : ByteArray := prog_14_method_23_code
def yX12_workedOut : MethodName := ⟨RX12, "workedOut", "(IIIII)I"⟩
abbrev cX12_named : ByteArray := prog_14_method_24_code
def yX12_named : MethodName := ⟨RX12, "named", "(IIIII)I"⟩
abbrev cX12_ofHanging : ByteArray := prog_14_method_25_code
def yX12_ofHanging : MethodName := ⟨RX12, "ofHanging", "(II)I"⟩
abbrev cX12_says : ByteArray := prog_14_method_26_code
def yX12_says : MethodName := ⟨RX12, "says", "(IIII)I"⟩
abbrev cX12_hang : ByteArray := prog_14_method_27_code
def yX12_hang : MethodName := ⟨RX12, "hang", "(II)I"⟩
abbrev cX12_off : ByteArray := prog_14_method_28_code
def yX12_off : MethodName := ⟨RX12, "off", "(I)I"⟩
abbrev cX12_liftOf : ByteArray := prog_14_method_29_code
def yX12_liftOf : MethodName := ⟨RX12, "liftOf", "(III)I"⟩
abbrev cX12_wayOf : ByteArray := prog_14_method_30_code
def yX12_wayOf : MethodName := ⟨RX12, "wayOf", "(II)I"⟩
abbrev cX12_longHangs : ByteArray := prog_14_method_31_code
def yX12_longHangs : MethodName := ⟨RX12, "longHangs", "(I)Z"⟩
abbrev cX12_find : ByteArray := prog_14_method_32_code
def yX12_find : MethodName := ⟨RX12, "find", "(II)V"⟩
abbrev cX12_why : ByteArray := prog_14_method_33_code
def yX12_why : MethodName := ⟨RX12, "why", "(III)I"⟩
abbrev cX12_may : ByteArray := prog_14_method_34_code
def yX12_may : MethodName := ⟨RX12, "may", "(III)I"⟩
abbrev cX12_part : ByteArray := prog_14_method_35_code
def yX12_part : MethodName := ⟨RX12, "part", "(II)V"⟩
abbrev cX12_fly : ByteArray := prog_14_method_36_code
def yX12_fly : MethodName := ⟨RX12, "fly", "(III)I"⟩
abbrev cX12_fuel : ByteArray := prog_14_method_37_code
def yX12_fuel : MethodName := ⟨RX12, "fuel", "(I)I"⟩
abbrev cX12_minute : ByteArray := prog_14_method_38_code
def yX12_minute : MethodName := ⟨RX12, "minute", "(I)I"⟩
abbrev cX12_about : ByteArray := prog_14_method_39_code
def yX12_about : MethodName := ⟨RX12, "about", "(II)I"⟩
abbrev cX12_pilotOf : ByteArray := prog_14_method_40_code
def yX12_pilotOf : MethodName := ⟨RX12, "pilotOf", "(II)I"⟩
abbrev cX12_isLate : ByteArray := prog_14_method_41_code
def yX12_isLate : MethodName := ⟨RX12, "isLate", "(I)Z"⟩
abbrev cX12_cargo : ByteArray := prog_14_method_42_code
def yX12_cargo : MethodName := ⟨RX12, "cargo", "(II)I"⟩
abbrev cX12_flight : ByteArray := prog_14_method_43_code
def yX12_flight : MethodName := ⟨RX12, "flight", "(II)I"⟩
abbrev cX12_lift : ByteArray := prog_14_method_44_code
def yX12_lift : MethodName := ⟨RX12, "lift", "(III)I"⟩
abbrev cX12_isAlone : ByteArray := prog_14_method_45_code
def yX12_isAlone : MethodName := ⟨RX12, "isAlone", "(I)Z"⟩
abbrev cX12_packs : ByteArray := prog_14_method_46_code
def yX12_packs : MethodName := ⟨RX12, "packs", "(III)Z"⟩
abbrev cX12_pack : ByteArray := prog_14_method_47_code
def yX12_pack : MethodName := ⟨RX12, "pack", "(II)I"⟩
abbrev cX12_list : ByteArray := prog_14_method_48_code
def yX12_list : MethodName := ⟨RX12, "list", "(I)I"⟩
abbrev cX12_mayBegin : ByteArray := prog_14_method_49_code
def yX12_mayBegin : MethodName := ⟨RX12, "mayBegin", "(IIIII)Z"⟩
abbrev cX12_goOn : ByteArray := prog_14_method_50_code
def yX12_goOn : MethodName := ⟨RX12, "goOn", "(IIIIIII)V"⟩
abbrev cX12_order : ByteArray := prog_14_method_51_code
def yX12_order : MethodName := ⟨RX12, "order", "(II)I"⟩
abbrev cX12_ordered : ByteArray := prog_14_method_52_code
def yX12_ordered : MethodName := ⟨RX12, "ordered", "(I)I"⟩
abbrev cX12_count : ByteArray := prog_14_method_53_code
def yX12_count : MethodName := ⟨RX12, "count", "(I)I"⟩
def RJx145de : String := "java/io/Serializable"
def TJx145de : u_T := fun k => match k with
  | _ => ("", "", "", false)
def tyJx145de : Nat → FieldType := fun k => match k with
  | _ => .int
abbrev wsJx145de0 : List Cond := u_ws RJx145de TJx145de 0
theorem nmJx145de : ∀ a, a < 0 → ∀ b, b < 0 → a ≠ b → (TJx145de a).2.1 ≠ (TJx145de b).2.1 := by decide +kernel
theorem tyJx145de_ok : ∀ k, k < 0 → parseFieldDescriptor (TJx145de k).2.2.1 = some (tyJx145de k) := by decide +kernel
def RJ11 : String := "java/lang/Character"
def TJ11 : u_T := fun k => match k with
  | _ => ("", "", "", false)
def tyJ11 : Nat → FieldType := fun k => match k with
  | _ => .int
abbrev wsJ110 : List Cond := u_ws RJ11 TJ11 0
theorem nmJ11 : ∀ a, a < 0 → ∀ b, b < 0 → a ≠ b → (TJ11 a).2.1 ≠ (TJ11 b).2.1 := by decide +kernel
theorem tyJ11_ok : ∀ k, k < 0 → parseFieldDescriptor (TJ11 k).2.2.1 = some (tyJ11 k) := by decide +kernel
abbrev cJ11_isValidCodePoint_9a6ad : ByteArray := prog_16_method_11_code
def yJ11_isValidCodePoint_9a6ad : MethodName := ⟨RJ11, "isValidCodePoint", "(I)Z"⟩
abbrev cJ11_highSurrogate_5068e : ByteArray := prog_16_method_28_code
def yJ11_highSurrogate_5068e : MethodName := ⟨RJ11, "highSurrogate", "(I)C"⟩
abbrev cJ11_lowSurrogate_5068e : ByteArray := prog_16_method_29_code
def yJ11_lowSurrogate_5068e : MethodName := ⟨RJ11, "lowSurrogate", "(I)C"⟩
def RJx8e188 : String := "java/lang/Cloneable"
def TJx8e188 : u_T := fun k => match k with
  | _ => ("", "", "", false)
def tyJx8e188 : Nat → FieldType := fun k => match k with
  | _ => .int
abbrev wsJx8e1880 : List Cond := u_ws RJx8e188 TJx8e188 0
theorem nmJx8e188 : ∀ a, a < 0 → ∀ b, b < 0 → a ≠ b → (TJx8e188 a).2.1 ≠ (TJx8e188 b).2.1 := by decide +kernel
theorem tyJx8e188_ok : ∀ k, k < 0 → parseFieldDescriptor (TJx8e188 k).2.2.1 = some (tyJx8e188 k) := by decide +kernel
def RJxab1ab : String := "java/lang/Iterable"
def TJxab1ab : u_T := fun k => match k with
  | _ => ("", "", "", false)
def tyJxab1ab : Nat → FieldType := fun k => match k with
  | _ => .int
abbrev wsJxab1ab0 : List Cond := u_ws RJxab1ab TJxab1ab 0
theorem nmJxab1ab : ∀ a, a < 0 → ∀ b, b < 0 → a ≠ b → (TJxab1ab a).2.1 ≠ (TJxab1ab b).2.1 := by decide +kernel
theorem tyJxab1ab_ok : ∀ k, k < 0 → parseFieldDescriptor (TJxab1ab k).2.2.1 = some (tyJxab1ab k) := by decide +kernel
def RJ9 : String := "java/lang/Math"
def TJ9 : u_T := fun k => match k with
  | _ => ("", "", "", false)
def tyJ9 : Nat → FieldType := fun k => match k with
  | _ => .int
abbrev wsJ90 : List Cond := u_ws RJ9 TJ9 0
theorem nmJ9 : ∀ a, a < 0 → ∀ b, b < 0 → a ≠ b → (TJ9 a).2.1 ≠ (TJ9 b).2.1 := by decide +kernel
theorem tyJ9_ok : ∀ k, k < 0 → parseFieldDescriptor (TJ9 k).2.2.1 = some (tyJ9 k) := by decide +kernel
abbrev cJ9_max_7cf53 : ByteArray := prog_19_method_65_code
def yJ9_max_7cf53 : MethodName := ⟨RJ9, "max", "(II)I"⟩
abbrev cJ9_min_7cf53 : ByteArray := prog_19_method_69_code
def yJ9_min_7cf53 : MethodName := ⟨RJ9, "min", "(II)I"⟩
def RJ0 : String := "java/lang/String"
def TJ0 : u_T := fun k => match k with
  | _ => ("", "", "", false)
def tyJ0 : Nat → FieldType := fun k => match k with
  | _ => .int
abbrev wsJ00 : List Cond := u_ws RJ0 TJ0 0
theorem nmJ0 : ∀ a, a < 0 → ∀ b, b < 0 → a ≠ b → (TJ0 a).2.1 ≠ (TJ0 b).2.1 := by decide +kernel
theorem tyJ0_ok : ∀ k, k < 0 → parseFieldDescriptor (TJ0 k).2.2.1 = some (tyJ0 k) := by decide +kernel
abbrev cJ0_length_8abf5 : ByteArray := prog_20_method_54_code
def yJ0_length_8abf5 : MethodName := ⟨RJ0, "length", "()I"⟩
abbrev cJ0_indexOf_0f7a4 : ByteArray := prog_20_method_79_code
def yJ0_indexOf_0f7a4 : MethodName := ⟨RJ0, "indexOf", "(I)I"⟩
abbrev cJ0_indexOf_7cf53 : ByteArray := prog_20_method_80_code
def yJ0_indexOf_7cf53 : MethodName := ⟨RJ0, "indexOf", "(II)I"⟩
abbrev cJ0_coder_7d493 : ByteArray := prog_20_method_152_code
def yJ0_coder_7d493 : MethodName := ⟨RJ0, "coder", "()B"⟩
abbrev cJ0_isLatin1_aae02 : ByteArray := prog_20_method_154_code
def yJ0_isLatin1_aae02 : MethodName := ⟨RJ0, "isLatin1", "()Z"⟩
abbrev cJ0_checkBoundsBeginEnd_23922 : ByteArray := prog_20_method_158_code
def yJ0_checkBoundsBeginEnd_23922 : MethodName := ⟨RJ0, "checkBoundsBeginEnd", "(III)V"⟩
def RJ1 : String := "java/lang/StringLatin1"
def TJ1 : u_T := fun k => match k with
  | _ => ("", "", "", false)
def tyJ1 : Nat → FieldType := fun k => match k with
  | _ => .int
abbrev wsJ10 : List Cond := u_ws RJ1 TJ1 0
theorem nmJ1 : ∀ a, a < 0 → ∀ b, b < 0 → a ≠ b → (TJ1 a).2.1 ≠ (TJ1 b).2.1 := by decide +kernel
theorem tyJ1_ok : ∀ k, k < 0 → parseFieldDescriptor (TJ1 k).2.2.1 = some (tyJ1 k) := by decide +kernel
abbrev cJ1_canEncode_9a6ad : ByteArray := prog_21_method_4_code
def yJ1_canEncode_9a6ad : MethodName := ⟨RJ1, "canEncode", "(I)Z"⟩
abbrev cJ1_indexOf_4cfef : ByteArray := prog_21_method_22_code
def yJ1_indexOf_4cfef : MethodName := ⟨RJ1, "indexOf", "([BIII)I"⟩
abbrev cJ1_indexOfChar_4cfef : ByteArray := prog_21_method_23_code
def yJ1_indexOfChar_4cfef : MethodName := ⟨RJ1, "indexOfChar", "([BIII)I"⟩
def RJ2 : String := "java/lang/StringUTF16"
def TJ2 : u_T := fun k => match k with
  | _ => ("", "", "", false)
def tyJ2 : Nat → FieldType := fun k => match k with
  | _ => .int
abbrev wsJ20 : List Cond := u_ws RJ2 TJ2 0
theorem nmJ2 : ∀ a, a < 0 → ∀ b, b < 0 → a ≠ b → (TJ2 a).2.1 ≠ (TJ2 b).2.1 := by decide +kernel
theorem tyJ2_ok : ∀ k, k < 0 → parseFieldDescriptor (TJ2 k).2.2.1 = some (tyJ2 k) := by decide +kernel
abbrev cJ2_getChar_3b067 : ByteArray := prog_22_method_5_code
def yJ2_getChar_3b067 : MethodName := ⟨RJ2, "getChar", "([BI)C"⟩
abbrev cJ2_length_9d52b : ByteArray := prog_22_method_6_code
def yJ2_length_9d52b : MethodName := ⟨RJ2, "length", "([B)I"⟩
abbrev cJ2_indexOf_4cfef : ByteArray := prog_22_method_40_code
def yJ2_indexOf_4cfef : MethodName := ⟨RJ2, "indexOf", "([BIII)I"⟩
abbrev cJ2_indexOfChar_4cfef : ByteArray := prog_22_method_47_code
def yJ2_indexOfChar_4cfef : MethodName := ⟨RJ2, "indexOfChar", "([BIII)I"⟩
abbrev cJ2_indexOfCharUnsafe_4cfef : ByteArray := prog_22_method_48_code
def yJ2_indexOfCharUnsafe_4cfef : MethodName := ⟨RJ2, "indexOfCharUnsafe", "([BIII)I"⟩
abbrev cJ2_indexOfSupplementary_4cfef : ByteArray := prog_22_method_49_code
def yJ2_indexOfSupplementary_4cfef : MethodName := ⟨RJ2, "indexOfSupplementary", "([BIII)I"⟩
abbrev cJ2_checkBoundsBeginEnd_d044e : ByteArray := prog_22_method_93_code
def yJ2_checkBoundsBeginEnd_d044e : MethodName := ⟨RJ2, "checkBoundsBeginEnd", "(II[B)V"⟩
def RJ10 : String := "java/lang/System"
def TJ10 : u_T := fun k => match k with
  | _ => ("", "", "", false)
def tyJ10 : Nat → FieldType := fun k => match k with
  | _ => .int
abbrev wsJ100 : List Cond := u_ws RJ10 TJ10 0
theorem nmJ10 : ∀ a, a < 0 → ∀ b, b < 0 → a ≠ b → (TJ10 a).2.1 ≠ (TJ10 b).2.1 := by decide +kernel
theorem tyJ10_ok : ∀ k, k < 0 → parseFieldDescriptor (TJ10 k).2.2.1 = some (tyJ10 k) := by decide +kernel
def RJxa1e45 : String := "java/util/AbstractCollection"
def TJxa1e45 : u_T := fun k => match k with
  | _ => ("", "", "", false)
def tyJxa1e45 : Nat → FieldType := fun k => match k with
  | _ => .int
abbrev wsJxa1e450 : List Cond := u_ws RJxa1e45 TJxa1e45 0
theorem nmJxa1e45 : ∀ a, a < 0 → ∀ b, b < 0 → a ≠ b → (TJxa1e45 a).2.1 ≠ (TJxa1e45 b).2.1 := by decide +kernel
theorem tyJxa1e45_ok : ∀ k, k < 0 → parseFieldDescriptor (TJxa1e45 k).2.2.1 = some (tyJxa1e45 k) := by decide +kernel
abbrev cJxa1e45_init_da8c8 : ByteArray := prog_24_method_1_code
def yJxa1e45_init_da8c8 : MethodName := ⟨RJxa1e45, "<init>", "()V"⟩
def RJxc12de : String := "java/util/AbstractList"
def TJxc12de : u_T := fun k => match k with
  | _ => ("", "", "", false)
def tyJxc12de : Nat → FieldType := fun k => match k with
  | _ => .int
abbrev wsJxc12de0 : List Cond := u_ws RJxc12de TJxc12de 0
theorem nmJxc12de : ∀ a, a < 0 → ∀ b, b < 0 → a ≠ b → (TJxc12de a).2.1 ≠ (TJxc12de b).2.1 := by decide +kernel
theorem tyJxc12de_ok : ∀ k, k < 0 → parseFieldDescriptor (TJxc12de k).2.2.1 = some (tyJxc12de k) := by decide +kernel
abbrev cJxc12de_init_da8c8 : ByteArray := prog_25_method_1_code
def yJxc12de_init_da8c8 : MethodName := ⟨RJxc12de, "<init>", "()V"⟩
def RJx4a65c : String := "java/util/ArrayList"
def TJx4a65c : u_T := fun k => match k with
  | 0 => ("java/util/AbstractList", "modCount", "I", false)
  | 1 => ("java/util/ArrayList", "elementData", "[Ljava/lang/Object;", false)
  | _ => ("java/util/ArrayList", "size", "I", false)
def tyJx4a65c : Nat → FieldType := fun k => match k with
  | 0 => .int
  | 1 => .array (.object "java/lang/Object")
  | _ => .int
abbrev wsJx4a65c0 : List Cond := u_ws RJx4a65c TJx4a65c 3
theorem nmJx4a65c : ∀ a, a < 3 → ∀ b, b < 3 → a ≠ b → (TJx4a65c a).2.1 ≠ (TJx4a65c b).2.1 := by decide +kernel
theorem tyJx4a65c_ok : ∀ k, k < 3 → parseFieldDescriptor (TJx4a65c k).2.2.1 = some (tyJx4a65c k) := by decide +kernel
abbrev cJx4a65c_init_da8c8 : ByteArray := prog_26_method_2_code
def yJx4a65c_init_da8c8 : MethodName := ⟨RJx4a65c, "<init>", "()V"⟩
abbrev cJx4a65c_grow_92f84 : ByteArray := prog_26_method_6_code
def yJx4a65c_grow_92f84 : MethodName := ⟨RJx4a65c, "grow", "(I)[Ljava/lang/Object;"⟩
abbrev cJx4a65c_grow_d5877 : ByteArray := prog_26_method_7_code
def yJx4a65c_grow_d5877 : MethodName := ⟨RJx4a65c, "grow", "()[Ljava/lang/Object;"⟩
abbrev cJx4a65c_size_8abf5 : ByteArray := prog_26_method_8_code
def yJx4a65c_size_8abf5 : MethodName := ⟨RJx4a65c, "size", "()I"⟩
abbrev cJx4a65c_isEmpty_aae02 : ByteArray := prog_26_method_9_code
def yJx4a65c_isEmpty_aae02 : MethodName := ⟨RJx4a65c, "isEmpty", "()Z"⟩
abbrev cJx4a65c_elementData_915e3 : ByteArray := prog_26_method_18_code
def yJx4a65c_elementData_915e3 : MethodName := ⟨RJx4a65c, "elementData", "(I)Ljava/lang/Object;"⟩
abbrev cJx4a65c_get_915e3 : ByteArray := prog_26_method_20_code
def yJx4a65c_get_915e3 : MethodName := ⟨RJx4a65c, "get", "(I)Ljava/lang/Object;"⟩
abbrev cJx4a65c_add_72be8 : ByteArray := prog_26_method_24_code
def yJx4a65c_add_72be8 : MethodName := ⟨RJx4a65c, "add", "(Ljava/lang/Object;[Ljava/lang/Object;I)V"⟩
abbrev cJx4a65c_add_9ea2d : ByteArray := prog_26_method_25_code
def yJx4a65c_add_9ea2d : MethodName := ⟨RJx4a65c, "add", "(Ljava/lang/Object;)Z"⟩
abbrev cJx4a65c_remove_915e3 : ByteArray := prog_26_method_29_code
def yJx4a65c_remove_915e3 : MethodName := ⟨RJx4a65c, "remove", "(I)Ljava/lang/Object;"⟩
abbrev cJx4a65c_fastRemove_b59b0 : ByteArray := prog_26_method_39_code
def yJx4a65c_fastRemove_b59b0 : MethodName := ⟨RJx4a65c, "fastRemove", "([Ljava/lang/Object;I)V"⟩
abbrev cJx4a65c_clear_da8c8 : ByteArray := prog_26_method_40_code
def yJx4a65c_clear_da8c8 : MethodName := ⟨RJx4a65c, "clear", "()V"⟩
def RJ7 : String := "java/util/Arrays"
def TJ7 : u_T := fun k => match k with
  | _ => ("", "", "", false)
def tyJ7 : Nat → FieldType := fun k => match k with
  | _ => .int
abbrev wsJ70 : List Cond := u_ws RJ7 TJ7 0
theorem nmJ7 : ∀ a, a < 0 → ∀ b, b < 0 → a ≠ b → (TJ7 a).2.1 ≠ (TJ7 b).2.1 := by decide +kernel
theorem tyJ7_ok : ∀ k, k < 0 → parseFieldDescriptor (TJ7 k).2.2.1 = some (tyJ7 k) := by decide +kernel
abbrev cJ7_copyOf_1904c : ByteArray := prog_27_method_119_code
def yJ7_copyOf_1904c : MethodName := ⟨RJ7, "copyOf", "([Ljava/lang/Object;I)[Ljava/lang/Object;"⟩
abbrev cJ7_copyOf_6403c : ByteArray := prog_27_method_120_code
def yJ7_copyOf_6403c : MethodName := ⟨RJ7, "copyOf", "([Ljava/lang/Object;ILjava/lang/Class;)[Ljava/lang/Object;"⟩
def RJx5ef63 : String := "java/util/Collection"
def TJx5ef63 : u_T := fun k => match k with
  | _ => ("", "", "", false)
def tyJx5ef63 : Nat → FieldType := fun k => match k with
  | _ => .int
abbrev wsJx5ef630 : List Cond := u_ws RJx5ef63 TJx5ef63 0
theorem nmJx5ef63 : ∀ a, a < 0 → ∀ b, b < 0 → a ≠ b → (TJx5ef63 a).2.1 ≠ (TJx5ef63 b).2.1 := by decide +kernel
theorem tyJx5ef63_ok : ∀ k, k < 0 → parseFieldDescriptor (TJx5ef63 k).2.2.1 = some (tyJx5ef63 k) := by decide +kernel
def RJxbd725 : String := "java/util/List"
def TJxbd725 : u_T := fun k => match k with
  | _ => ("", "", "", false)
def tyJxbd725 : Nat → FieldType := fun k => match k with
  | _ => .int
abbrev wsJxbd7250 : List Cond := u_ws RJxbd725 TJxbd725 0
theorem nmJxbd725 : ∀ a, a < 0 → ∀ b, b < 0 → a ≠ b → (TJxbd725 a).2.1 ≠ (TJxbd725 b).2.1 := by decide +kernel
theorem tyJxbd725_ok : ∀ k, k < 0 → parseFieldDescriptor (TJxbd725 k).2.2.1 = some (tyJxbd725 k) := by decide +kernel
def RJ15 : String := "java/util/Objects"
def TJ15 : u_T := fun k => match k with
  | _ => ("", "", "", false)
def tyJ15 : Nat → FieldType := fun k => match k with
  | _ => .int
abbrev wsJ150 : List Cond := u_ws RJ15 TJ15 0
theorem nmJ15 : ∀ a, a < 0 → ∀ b, b < 0 → a ≠ b → (TJ15 a).2.1 ≠ (TJ15 b).2.1 := by decide +kernel
theorem tyJ15_ok : ∀ k, k < 0 → parseFieldDescriptor (TJ15 k).2.2.1 = some (tyJ15 k) := by decide +kernel
abbrev cJ15_checkIndex_7cf53 : ByteArray := prog_30_method_17_code
def yJ15_checkIndex_7cf53 : MethodName := ⟨RJ15, "checkIndex", "(II)I"⟩
def RJxf0a74 : String := "java/util/RandomAccess"
def TJxf0a74 : u_T := fun k => match k with
  | _ => ("", "", "", false)
def tyJxf0a74 : Nat → FieldType := fun k => match k with
  | _ => .int
abbrev wsJxf0a740 : List Cond := u_ws RJxf0a74 TJxf0a74 0
theorem nmJxf0a74 : ∀ a, a < 0 → ∀ b, b < 0 → a ≠ b → (TJxf0a74 a).2.1 ≠ (TJxf0a74 b).2.1 := by decide +kernel
theorem tyJxf0a74_ok : ∀ k, k < 0 → parseFieldDescriptor (TJxf0a74 k).2.2.1 = some (tyJxf0a74 k) := by decide +kernel
def RJxa66e6 : String := "java/util/SequencedCollection"
def TJxa66e6 : u_T := fun k => match k with
  | _ => ("", "", "", false)
def tyJxa66e6 : Nat → FieldType := fun k => match k with
  | _ => .int
abbrev wsJxa66e60 : List Cond := u_ws RJxa66e6 TJxa66e6 0
theorem nmJxa66e6 : ∀ a, a < 0 → ∀ b, b < 0 → a ≠ b → (TJxa66e6 a).2.1 ≠ (TJxa66e6 b).2.1 := by decide +kernel
theorem tyJxa66e6_ok : ∀ k, k < 0 → parseFieldDescriptor (TJxa66e6 k).2.2.1 = some (tyJxa66e6 k) := by decide +kernel
def RJ8 : String := "jdk/internal/util/ArraysSupport"
def TJ8 : u_T := fun k => match k with
  | _ => ("", "", "", false)
def tyJ8 : Nat → FieldType := fun k => match k with
  | _ => .int
abbrev wsJ80 : List Cond := u_ws RJ8 TJ8 0
theorem nmJ8 : ∀ a, a < 0 → ∀ b, b < 0 → a ≠ b → (TJ8 a).2.1 ≠ (TJ8 b).2.1 := by decide +kernel
theorem tyJ8_ok : ∀ k, k < 0 → parseFieldDescriptor (TJ8 k).2.2.1 = some (tyJ8 k) := by decide +kernel
abbrev cJ8_newLength_cabcc : ByteArray := prog_33_method_27_code
def yJ8_newLength_cabcc : MethodName := ⟨RJ8, "newLength", "(III)I"⟩
abbrev cJ8_hugeLength_7cf53 : ByteArray := prog_33_method_28_code
def yJ8_hugeLength_7cf53 : MethodName := ⟨RJ8, "hugeLength", "(II)I"⟩
def RJ3 : String := "jdk/internal/util/Preconditions"
def TJ3 : u_T := fun k => match k with
  | _ => ("", "", "", false)
def tyJ3 : Nat → FieldType := fun k => match k with
  | _ => .int
abbrev wsJ30 : List Cond := u_ws RJ3 TJ3 0
theorem nmJ3 : ∀ a, a < 0 → ∀ b, b < 0 → a ≠ b → (TJ3 a).2.1 ≠ (TJ3 b).2.1 := by decide +kernel
theorem tyJ3_ok : ∀ k, k < 0 → parseFieldDescriptor (TJ3 k).2.2.1 = some (tyJ3 k) := by decide +kernel
abbrev cJ3_checkIndex_8e157 : ByteArray := prog_34_method_11_code
def yJ3_checkIndex_8e157 : MethodName := ⟨RJ3, "checkIndex", "(IILjava/util/function/BiFunction;)I"⟩
abbrev cJ3_checkFromToIndex_8c36e : ByteArray := prog_34_method_12_code
def yJ3_checkFromToIndex_8c36e : MethodName := ⟨RJ3, "checkFromToIndex", "(IIILjava/util/function/BiFunction;)I"⟩
def RL : String := "HutLiftLaw"
abbrev cL_law : ByteArray := code
def yL_law : MethodName := ⟨RL, "law", "([I)Z"⟩
abbrev vwCl : List vw_C := [(RJx4a65c, TJx4a65c, 3), (RX0, TX0, 9), (RX1, TX1, 13), (RX2, TX2, 5), (RX3, TX3, 8), (RX4, TX4, 5), (RX5, TX5, 4), (RX6, TX6, 3), (RX7, TX7, 4), (RX8, TX8, 4), (RX9, TX9, 2), (RX10, TX10, 3), (RX11, TX11, 12), (RX12, TX12, 62)]
def lw_gd : List Cond := lw_tbl.filter goodWord
