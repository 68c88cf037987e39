section
-- ===== PART A: goes FIRST, ahead of the names: the tables' words, and 'selects' of the private methods out of them =====
/-- a private method of a class that the tables say can be made, by its rows of tables_1 -/
def lw_okq (q : MethodName × Nat) : Prop := (q.1.cls ≠ "java/lang/invoke/MethodHandle" ∧ q.1.cls ≠ "java/lang/invoke/VarHandle") ∧ Cond.instantiable q.1.cls q.2 ∈ tables_1 ∧ Cond.privateMethod q.1 ∈ tables_1 ∧ Cond.instanceMethod q.1 ∈ tables_1
theorem lw_p0 : lw_okq (⟨"HalftoneRegions$PatternSet", "farness", "(II)I"⟩, 4) := ⟨⟨by decide +kernel, by decide +kernel⟩, List.mem_of_getElem? (i := 51) (by decide +kernel), List.mem_of_getElem? (i := 280) (by decide +kernel), List.mem_of_getElem? (i := 281) (by decide +kernel)⟩
theorem lw_p1 : lw_okq (⟨"HalftoneRegions", "darkUnder", "(II)I"⟩, 15) := ⟨⟨by decide +kernel, by decide +kernel⟩, List.mem_of_getElem? (i := 22) (by decide +kernel), List.mem_of_getElem? (i := 290) (by decide +kernel), List.mem_of_getElem? (i := 291) (by decide +kernel)⟩
theorem lw_p2 : lw_okq (⟨"HalftoneRegions", "isOutside", "(II)Z"⟩, 15) := ⟨⟨by decide +kernel, by decide +kernel⟩, List.mem_of_getElem? (i := 22) (by decide +kernel), List.mem_of_getElem? (i := 294) (by decide +kernel), List.mem_of_getElem? (i := 295) (by decide +kernel)⟩
theorem lw_p3 : lw_okq (⟨"HalftoneRegions", "columnsUnder", "(I)I"⟩, 15) := ⟨⟨by decide +kernel, by decide +kernel⟩, List.mem_of_getElem? (i := 22) (by decide +kernel), List.mem_of_getElem? (i := 306) (by decide +kernel), List.mem_of_getElem? (i := 307) (by decide +kernel)⟩
theorem lw_p4 : lw_okq (⟨"HalftoneRegions", "layPattern", "(II)V"⟩, 15) := ⟨⟨by decide +kernel, by decide +kernel⟩, List.mem_of_getElem? (i := 22) (by decide +kernel), List.mem_of_getElem? (i := 331) (by decide +kernel), List.mem_of_getElem? (i := 332) (by decide +kernel)⟩
theorem lw_p5 : lw_okq (⟨"HalftoneRegions", "combined", "(III)I"⟩, 15) := ⟨⟨by decide +kernel, by decide +kernel⟩, List.mem_of_getElem? (i := 22) (by decide +kernel), List.mem_of_getElem? (i := 344) (by decide +kernel), List.mem_of_getElem? (i := 345) (by decide +kernel)⟩
theorem lw_p6 : lw_okq (⟨"HalftoneRegions", "isSkipped", "(II)Z"⟩, 15) := ⟨⟨by decide +kernel, by decide +kernel⟩, List.mem_of_getElem? (i := 22) (by decide +kernel), List.mem_of_getElem? (i := 361) (by decide +kernel), List.mem_of_getElem? (i := 362) (by decide +kernel)⟩
theorem lw_p7 : lw_okq (⟨"HalftoneRegions", "writePlane", "(I)V"⟩, 15) := ⟨⟨by decide +kernel, by decide +kernel⟩, List.mem_of_getElem? (i := 22) (by decide +kernel), List.mem_of_getElem? (i := 389) (by decide +kernel), List.mem_of_getElem? (i := 390) (by decide +kernel)⟩
theorem lw_p8 : lw_okq (⟨"HalftoneRegions$RunWriter", "write", "(II)V"⟩, 5) := ⟨⟨by decide +kernel, by decide +kernel⟩, List.mem_of_getElem? (i := 132) (by decide +kernel), List.mem_of_getElem? (i := 419) (by decide +kernel), List.mem_of_getElem? (i := 420) (by decide +kernel)⟩
theorem lw_p9 : lw_okq (⟨"HalftoneRegions", "placesOutside", "()I"⟩, 15) := ⟨⟨by decide +kernel, by decide +kernel⟩, List.mem_of_getElem? (i := 22) (by decide +kernel), List.mem_of_getElem? (i := 443) (by decide +kernel), List.mem_of_getElem? (i := 444) (by decide +kernel)⟩
theorem lw_p10 : lw_okq (⟨"HalftoneRegions", "readPlane", "(I)V"⟩, 15) := ⟨⟨by decide +kernel, by decide +kernel⟩, List.mem_of_getElem? (i := 22) (by decide +kernel), List.mem_of_getElem? (i := 452) (by decide +kernel), List.mem_of_getElem? (i := 453) (by decide +kernel)⟩
theorem lw_p11 : lw_okq (⟨"HalftoneRegions$RunReader", "readRun", "()V"⟩, 8) := ⟨⟨by decide +kernel, by decide +kernel⟩, List.mem_of_getElem? (i := 169) (by decide +kernel), List.mem_of_getElem? (i := 460) (by decide +kernel), List.mem_of_getElem? (i := 461) (by decide +kernel)⟩
theorem lw_p12 : lw_okq (⟨"HalftoneRegions$RunReader", "readBit", "()I"⟩, 8) := ⟨⟨by decide +kernel, by decide +kernel⟩, List.mem_of_getElem? (i := 169) (by decide +kernel), List.mem_of_getElem? (i := 465) (by decide +kernel), List.mem_of_getElem? (i := 466) (by decide +kernel)⟩
theorem lw_p13 : lw_okq (⟨"HalftoneRegions$RunReader", "read", "(I)I"⟩, 8) := ⟨⟨by decide +kernel, by decide +kernel⟩, List.mem_of_getElem? (i := 169) (by decide +kernel), List.mem_of_getElem? (i := 471) (by decide +kernel), List.mem_of_getElem? (i := 472) (by decide +kernel)⟩
theorem lw_p14 : lw_okq (⟨"HalftoneRegions$RunReader", "isAllRead", "()Z"⟩, 8) := ⟨⟨by decide +kernel, by decide +kernel⟩, List.mem_of_getElem? (i := 169) (by decide +kernel), List.mem_of_getElem? (i := 484) (by decide +kernel), List.mem_of_getElem? (i := 485) (by decide +kernel)⟩
theorem lw_p15 : lw_okq (⟨"HalftoneRegions", "takeGreys", "()V"⟩, 15) := ⟨⟨by decide +kernel, by decide +kernel⟩, List.mem_of_getElem? (i := 22) (by decide +kernel), List.mem_of_getElem? (i := 500) (by decide +kernel), List.mem_of_getElem? (i := 501) (by decide +kernel)⟩
def lw_privs_1 : List (MethodName × Nat) := [(⟨"HalftoneRegions$PatternSet", "farness", "(II)I"⟩, 4), (⟨"HalftoneRegions", "darkUnder", "(II)I"⟩, 15), (⟨"HalftoneRegions", "isOutside", "(II)Z"⟩, 15), (⟨"HalftoneRegions", "columnsUnder", "(I)I"⟩, 15), (⟨"HalftoneRegions", "layPattern", "(II)V"⟩, 15), (⟨"HalftoneRegions", "combined", "(III)I"⟩, 15), (⟨"HalftoneRegions", "isSkipped", "(II)Z"⟩, 15), (⟨"HalftoneRegions", "writePlane", "(I)V"⟩, 15), (⟨"HalftoneRegions$RunWriter", "write", "(II)V"⟩, 5), (⟨"HalftoneRegions", "placesOutside", "()I"⟩, 15), (⟨"HalftoneRegions", "readPlane", "(I)V"⟩, 15), (⟨"HalftoneRegions$RunReader", "readRun", "()V"⟩, 8), (⟨"HalftoneRegions$RunReader", "readBit", "()I"⟩, 8), (⟨"HalftoneRegions$RunReader", "read", "(I)I"⟩, 8), (⟨"HalftoneRegions$RunReader", "isAllRead", "()Z"⟩, 8), (⟨"HalftoneRegions", "takeGreys", "()V"⟩, 15)]
theorem lw_r1 : ∀ q ∈ lw_privs_1, lw_okq q := List.forall_mem_cons.mpr ⟨lw_p0, List.forall_mem_cons.mpr ⟨lw_p1, List.forall_mem_cons.mpr ⟨lw_p2, List.forall_mem_cons.mpr ⟨lw_p3, List.forall_mem_cons.mpr ⟨lw_p4, List.forall_mem_cons.mpr ⟨lw_p5, List.forall_mem_cons.mpr ⟨lw_p6, List.forall_mem_cons.mpr ⟨lw_p7, List.forall_mem_cons.mpr ⟨lw_p8, List.forall_mem_cons.mpr ⟨lw_p9, List.forall_mem_cons.mpr ⟨lw_p10, List.forall_mem_cons.mpr ⟨lw_p11, List.forall_mem_cons.mpr ⟨lw_p12, List.forall_mem_cons.mpr ⟨lw_p13, List.forall_mem_cons.mpr ⟨lw_p14, List.forall_mem_cons.mpr ⟨lw_p15, fun _ h => absurd h List.not_mem_nil⟩⟩⟩⟩⟩⟩⟩⟩⟩⟩⟩⟩⟩⟩⟩⟩
theorem lw_p16 : lw_okq (⟨"java/lang/Throwable", "fillInStackTrace", "(I)Ljava/lang/Throwable;"⟩, 6) := ⟨⟨by decide +kernel, by decide +kernel⟩, List.mem_of_getElem? (i := 585) (by decide +kernel), List.mem_of_getElem? (i := 583) (by decide +kernel), List.mem_of_getElem? (i := 584) (by decide +kernel)⟩
theorem lw_p17 : lw_okq (⟨"HalftoneRegions$PatternSet", "rankOf", "(II)I"⟩, 4) := ⟨⟨by decide +kernel, by decide +kernel⟩, List.mem_of_getElem? (i := 51) (by decide +kernel), List.mem_of_getElem? (i := 629) (by decide +kernel), List.mem_of_getElem? (i := 630) (by decide +kernel)⟩
theorem lw_p18 : lw_okq (⟨"HalftoneRegions", "changeWay", "(II)I"⟩, 15) := ⟨⟨by decide +kernel, by decide +kernel⟩, List.mem_of_getElem? (i := 22) (by decide +kernel), List.mem_of_getElem? (i := 744) (by decide +kernel), List.mem_of_getElem? (i := 745) (by decide +kernel)⟩
theorem lw_p19 : lw_okq (⟨"HalftoneRegionsModel", "begin", "()V"⟩, 38) := ⟨⟨by decide +kernel, by decide +kernel⟩, List.mem_of_getElem? (i := 833) (by decide +kernel), List.mem_of_getElem? (i := 840) (by decide +kernel), List.mem_of_getElem? (i := 841) (by decide +kernel)⟩
theorem lw_p20 : lw_okq (⟨"HalftoneRegionsModel", "blank", "(III)V"⟩, 38) := ⟨⟨by decide +kernel, by decide +kernel⟩, List.mem_of_getElem? (i := 833) (by decide +kernel), List.mem_of_getElem? (i := 844) (by decide +kernel), List.mem_of_getElem? (i := 845) (by decide +kernel)⟩
theorem lw_p21 : lw_okq (⟨"HalftoneRegionsModel", "newPlane", "()V"⟩, 38) := ⟨⟨by decide +kernel, by decide +kernel⟩, List.mem_of_getElem? (i := 833) (by decide +kernel), List.mem_of_getElem? (i := 848) (by decide +kernel), List.mem_of_getElem? (i := 849) (by decide +kernel)⟩
theorem lw_p22 : lw_okq (⟨"HalftoneRegionsModel", "planes", "()I"⟩, 38) := ⟨⟨by decide +kernel, by decide +kernel⟩, List.mem_of_getElem? (i := 833) (by decide +kernel), List.mem_of_getElem? (i := 983) (by decide +kernel), List.mem_of_getElem? (i := 984) (by decide +kernel)⟩
theorem lw_p23 : lw_okq (⟨"HalftoneRegionsModel", "hasCell", "(III)Z"⟩, 38) := ⟨⟨by decide +kernel, by decide +kernel⟩, List.mem_of_getElem? (i := 833) (by decide +kernel), List.mem_of_getElem? (i := 998) (by decide +kernel), List.mem_of_getElem? (i := 999) (by decide +kernel)⟩
theorem lw_p24 : lw_okq (⟨"HalftoneRegionsModel", "hasPlace", "(II)Z"⟩, 38) := ⟨⟨by decide +kernel, by decide +kernel⟩, List.mem_of_getElem? (i := 833) (by decide +kernel), List.mem_of_getElem? (i := 1012) (by decide +kernel), List.mem_of_getElem? (i := 1013) (by decide +kernel)⟩
theorem lw_p25 : lw_okq (⟨"HalftoneRegionsModel", "isOutside", "(II)Z"⟩, 38) := ⟨⟨by decide +kernel, by decide +kernel⟩, List.mem_of_getElem? (i := 833) (by decide +kernel), List.mem_of_getElem? (i := 1016) (by decide +kernel), List.mem_of_getElem? (i := 1017) (by decide +kernel)⟩
theorem lw_p26 : lw_okq (⟨"HalftoneRegionsModel", "xOf", "(II)I"⟩, 38) := ⟨⟨by decide +kernel, by decide +kernel⟩, List.mem_of_getElem? (i := 833) (by decide +kernel), List.mem_of_getElem? (i := 1020) (by decide +kernel), List.mem_of_getElem? (i := 1021) (by decide +kernel)⟩
theorem lw_p27 : lw_okq (⟨"HalftoneRegionsModel", "yOf", "(II)I"⟩, 38) := ⟨⟨by decide +kernel, by decide +kernel⟩, List.mem_of_getElem? (i := 833) (by decide +kernel), List.mem_of_getElem? (i := 1027) (by decide +kernel), List.mem_of_getElem? (i := 1028) (by decide +kernel)⟩
theorem lw_p28 : lw_okq (⟨"HalftoneRegionsModel", "countAt", "(II)I"⟩, 38) := ⟨⟨by decide +kernel, by decide +kernel⟩, List.mem_of_getElem? (i := 833) (by decide +kernel), List.mem_of_getElem? (i := 1063) (by decide +kernel), List.mem_of_getElem? (i := 1064) (by decide +kernel)⟩
theorem lw_p29 : lw_okq (⟨"HalftoneRegionsModel", "hasSample", "(II)Z"⟩, 38) := ⟨⟨by decide +kernel, by decide +kernel⟩, List.mem_of_getElem? (i := 833) (by decide +kernel), List.mem_of_getElem? (i := 1067) (by decide +kernel), List.mem_of_getElem? (i := 1068) (by decide +kernel)⟩
theorem lw_p30 : lw_okq (⟨"HalftoneRegionsModel", "nearest", "(I)I"⟩, 38) := ⟨⟨by decide +kernel, by decide +kernel⟩, List.mem_of_getElem? (i := 833) (by decide +kernel), List.mem_of_getElem? (i := 1075) (by decide +kernel), List.mem_of_getElem? (i := 1076) (by decide +kernel)⟩
theorem lw_p31 : lw_okq (⟨"HalftoneRegionsModel", "darkIn", "(I)I"⟩, 38) := ⟨⟨by decide +kernel, by decide +kernel⟩, List.mem_of_getElem? (i := 833) (by decide +kernel), List.mem_of_getElem? (i := 1079) (by decide +kernel), List.mem_of_getElem? (i := 1080) (by decide +kernel)⟩
def lw_privs_2 : List (MethodName × Nat) := [(⟨"java/lang/Throwable", "fillInStackTrace", "(I)Ljava/lang/Throwable;"⟩, 6), (⟨"HalftoneRegions$PatternSet", "rankOf", "(II)I"⟩, 4), (⟨"HalftoneRegions", "changeWay", "(II)I"⟩, 15), (⟨"HalftoneRegionsModel", "begin", "()V"⟩, 38), (⟨"HalftoneRegionsModel", "blank", "(III)V"⟩, 38), (⟨"HalftoneRegionsModel", "newPlane", "()V"⟩, 38), (⟨"HalftoneRegionsModel", "planes", "()I"⟩, 38), (⟨"HalftoneRegionsModel", "hasCell", "(III)Z"⟩, 38), (⟨"HalftoneRegionsModel", "hasPlace", "(II)Z"⟩, 38), (⟨"HalftoneRegionsModel", "isOutside", "(II)Z"⟩, 38), (⟨"HalftoneRegionsModel", "xOf", "(II)I"⟩, 38), (⟨"HalftoneRegionsModel", "yOf", "(II)I"⟩, 38), (⟨"HalftoneRegionsModel", "countAt", "(II)I"⟩, 38), (⟨"HalftoneRegionsModel", "hasSample", "(II)Z"⟩, 38), (⟨"HalftoneRegionsModel", "nearest", "(I)I"⟩, 38), (⟨"HalftoneRegionsModel", "darkIn", "(I)I"⟩, 38)]
theorem lw_r2 : ∀ q ∈ lw_privs_2, lw_okq q := List.forall_mem_cons.mpr ⟨lw_p16, List.forall_mem_cons.mpr ⟨lw_p17, List.forall_mem_cons.mpr ⟨lw_p18, List.forall_mem_cons.mpr ⟨lw_p19, List.forall_mem_cons.mpr ⟨lw_p20, List.forall_mem_cons.mpr ⟨lw_p21, List.forall_mem_cons.mpr ⟨lw_p22, List.forall_mem_cons.mpr ⟨lw_p23, List.forall_mem_cons.mpr ⟨lw_p24, List.forall_mem_cons.mpr ⟨lw_p25, List.forall_mem_cons.mpr ⟨lw_p26, List.forall_mem_cons.mpr ⟨lw_p27, List.forall_mem_cons.mpr ⟨lw_p28, List.forall_mem_cons.mpr ⟨lw_p29, List.forall_mem_cons.mpr ⟨lw_p30, List.forall_mem_cons.mpr ⟨lw_p31, fun _ h => absurd h List.not_mem_nil⟩⟩⟩⟩⟩⟩⟩⟩⟩⟩⟩⟩⟩⟩⟩⟩
theorem lw_p32 : lw_okq (⟨"HalftoneRegionsModel", "layPattern", "(II)V"⟩, 38) := ⟨⟨by decide +kernel, by decide +kernel⟩, List.mem_of_getElem? (i := 833) (by decide +kernel), List.mem_of_getElem? (i := 1087) (by decide +kernel), List.mem_of_getElem? (i := 1088) (by decide +kernel)⟩
theorem lw_p33 : lw_okq (⟨"HalftoneRegionsModel", "both", "(ZZ)Z"⟩, 38) := ⟨⟨by decide +kernel, by decide +kernel⟩, List.mem_of_getElem? (i := 833) (by decide +kernel), List.mem_of_getElem? (i := 1091) (by decide +kernel), List.mem_of_getElem? (i := 1092) (by decide +kernel)⟩
theorem lw_p34 : lw_okq (⟨"HalftoneRegionsModel", "beginRuns", "()V"⟩, 38) := ⟨⟨by decide +kernel, by decide +kernel⟩, List.mem_of_getElem? (i := 833) (by decide +kernel), List.mem_of_getElem? (i := 1106) (by decide +kernel), List.mem_of_getElem? (i := 1107) (by decide +kernel)⟩
theorem lw_p35 : lw_okq (⟨"HalftoneRegionsModel", "nextPlane", "()V"⟩, 38) := ⟨⟨by decide +kernel, by decide +kernel⟩, List.mem_of_getElem? (i := 833) (by decide +kernel), List.mem_of_getElem? (i := 1110) (by decide +kernel), List.mem_of_getElem? (i := 1111) (by decide +kernel)⟩
theorem lw_p36 : lw_okq (⟨"HalftoneRegionsModel", "isSkipped", "(II)Z"⟩, 38) := ⟨⟨by decide +kernel, by decide +kernel⟩, List.mem_of_getElem? (i := 833) (by decide +kernel), List.mem_of_getElem? (i := 1114) (by decide +kernel), List.mem_of_getElem? (i := 1115) (by decide +kernel)⟩
theorem lw_p37 : lw_okq (⟨"HalftoneRegionsModel", "contextOf", "(II)I"⟩, 38) := ⟨⟨by decide +kernel, by decide +kernel⟩, List.mem_of_getElem? (i := 833) (by decide +kernel), List.mem_of_getElem? (i := 1118) (by decide +kernel), List.mem_of_getElem? (i := 1119) (by decide +kernel)⟩
theorem lw_p38 : lw_okq (⟨"HalftoneRegionsModel", "toldAt", "(II)I"⟩, 38) := ⟨⟨by decide +kernel, by decide +kernel⟩, List.mem_of_getElem? (i := 833) (by decide +kernel), List.mem_of_getElem? (i := 1122) (by decide +kernel), List.mem_of_getElem? (i := 1123) (by decide +kernel)⟩
theorem lw_p39 : lw_okq (⟨"HalftoneRegionsModel", "writeRun", "(I)V"⟩, 38) := ⟨⟨by decide +kernel, by decide +kernel⟩, List.mem_of_getElem? (i := 833) (by decide +kernel), List.mem_of_getElem? (i := 1126) (by decide +kernel), List.mem_of_getElem? (i := 1127) (by decide +kernel)⟩
theorem lw_p40 : lw_okq (⟨"HalftoneRegionsModel", "small", "()I"⟩, 38) := ⟨⟨by decide +kernel, by decide +kernel⟩, List.mem_of_getElem? (i := 833) (by decide +kernel), List.mem_of_getElem? (i := 1130) (by decide +kernel), List.mem_of_getElem? (i := 1131) (by decide +kernel)⟩
theorem lw_p41 : lw_okq (⟨"HalftoneRegionsModel", "write", "(II)V"⟩, 38) := ⟨⟨by decide +kernel, by decide +kernel⟩, List.mem_of_getElem? (i := 833) (by decide +kernel), List.mem_of_getElem? (i := 1134) (by decide +kernel), List.mem_of_getElem? (i := 1135) (by decide +kernel)⟩
theorem lw_p42 : lw_okq (⟨"HalftoneRegionsModel", "keepRun", "(I)V"⟩, 38) := ⟨⟨by decide +kernel, by decide +kernel⟩, List.mem_of_getElem? (i := 833) (by decide +kernel), List.mem_of_getElem? (i := 1138) (by decide +kernel), List.mem_of_getElem? (i := 1139) (by decide +kernel)⟩
theorem lw_p43 : lw_okq (⟨"HalftoneRegionsModel", "learn", "(IZ)V"⟩, 38) := ⟨⟨by decide +kernel, by decide +kernel⟩, List.mem_of_getElem? (i := 833) (by decide +kernel), List.mem_of_getElem? (i := 1142) (by decide +kernel), List.mem_of_getElem? (i := 1143) (by decide +kernel)⟩
theorem lw_p44 : lw_okq (⟨"HalftoneRegionsModel", "madeByte", "(I)I"⟩, 38) := ⟨⟨by decide +kernel, by decide +kernel⟩, List.mem_of_getElem? (i := 833) (by decide +kernel), List.mem_of_getElem? (i := 1150) (by decide +kernel), List.mem_of_getElem? (i := 1151) (by decide +kernel)⟩
theorem lw_p45 : lw_okq (⟨"HalftoneRegionsModel", "readPlanes", "()I"⟩, 38) := ⟨⟨by decide +kernel, by decide +kernel⟩, List.mem_of_getElem? (i := 833) (by decide +kernel), List.mem_of_getElem? (i := 1166) (by decide +kernel), List.mem_of_getElem? (i := 1167) (by decide +kernel)⟩
theorem lw_p46 : lw_okq (⟨"HalftoneRegionsModel", "readBit", "(Z)Z"⟩, 38) := ⟨⟨by decide +kernel, by decide +kernel⟩, List.mem_of_getElem? (i := 833) (by decide +kernel), List.mem_of_getElem? (i := 1170) (by decide +kernel), List.mem_of_getElem? (i := 1171) (by decide +kernel)⟩
theorem lw_p47 : lw_okq (⟨"HalftoneRegionsModel", "readRun", "()V"⟩, 38) := ⟨⟨by decide +kernel, by decide +kernel⟩, List.mem_of_getElem? (i := 833) (by decide +kernel), List.mem_of_getElem? (i := 1174) (by decide +kernel), List.mem_of_getElem? (i := 1175) (by decide +kernel)⟩
def lw_privs_3 : List (MethodName × Nat) := [(⟨"HalftoneRegionsModel", "layPattern", "(II)V"⟩, 38), (⟨"HalftoneRegionsModel", "both", "(ZZ)Z"⟩, 38), (⟨"HalftoneRegionsModel", "beginRuns", "()V"⟩, 38), (⟨"HalftoneRegionsModel", "nextPlane", "()V"⟩, 38), (⟨"HalftoneRegionsModel", "isSkipped", "(II)Z"⟩, 38), (⟨"HalftoneRegionsModel", "contextOf", "(II)I"⟩, 38), (⟨"HalftoneRegionsModel", "toldAt", "(II)I"⟩, 38), (⟨"HalftoneRegionsModel", "writeRun", "(I)V"⟩, 38), (⟨"HalftoneRegionsModel", "small", "()I"⟩, 38), (⟨"HalftoneRegionsModel", "write", "(II)V"⟩, 38), (⟨"HalftoneRegionsModel", "keepRun", "(I)V"⟩, 38), (⟨"HalftoneRegionsModel", "learn", "(IZ)V"⟩, 38), (⟨"HalftoneRegionsModel", "madeByte", "(I)I"⟩, 38), (⟨"HalftoneRegionsModel", "readPlanes", "()I"⟩, 38), (⟨"HalftoneRegionsModel", "readBit", "(Z)Z"⟩, 38), (⟨"HalftoneRegionsModel", "readRun", "()V"⟩, 38)]
theorem lw_r3 : ∀ q ∈ lw_privs_3, lw_okq q := List.forall_mem_cons.mpr ⟨lw_p32, List.forall_mem_cons.mpr ⟨lw_p33, List.forall_mem_cons.mpr ⟨lw_p34, List.forall_mem_cons.mpr ⟨lw_p35, List.forall_mem_cons.mpr ⟨lw_p36, List.forall_mem_cons.mpr ⟨lw_p37, List.forall_mem_cons.mpr ⟨lw_p38, List.forall_mem_cons.mpr ⟨lw_p39, List.forall_mem_cons.mpr ⟨lw_p40, List.forall_mem_cons.mpr ⟨lw_p41, List.forall_mem_cons.mpr ⟨lw_p42, List.forall_mem_cons.mpr ⟨lw_p43, List.forall_mem_cons.mpr ⟨lw_p44, List.forall_mem_cons.mpr ⟨lw_p45, List.forall_mem_cons.mpr ⟨lw_p46, List.forall_mem_cons.mpr ⟨lw_p47, fun _ h => absurd h List.not_mem_nil⟩⟩⟩⟩⟩⟩⟩⟩⟩⟩⟩⟩⟩⟩⟩⟩
theorem lw_p48 : lw_okq (⟨"HalftoneRegionsModel", "readOne", "()I"⟩, 38) := ⟨⟨by decide +kernel, by decide +kernel⟩, List.mem_of_getElem? (i := 833) (by decide +kernel), List.mem_of_getElem? (i := 1178) (by decide +kernel), List.mem_of_getElem? (i := 1179) (by decide +kernel)⟩
theorem lw_p49 : lw_okq (⟨"HalftoneRegionsModel", "readSome", "(I)I"⟩, 38) := ⟨⟨by decide +kernel, by decide +kernel⟩, List.mem_of_getElem? (i := 833) (by decide +kernel), List.mem_of_getElem? (i := 1182) (by decide +kernel), List.mem_of_getElem? (i := 1183) (by decide +kernel)⟩
theorem lw_p50 : lw_okq (⟨"HalftoneRegionsModel", "refusal", "()I"⟩, 38) := ⟨⟨by decide +kernel, by decide +kernel⟩, List.mem_of_getElem? (i := 833) (by decide +kernel), List.mem_of_getElem? (i := 1186) (by decide +kernel), List.mem_of_getElem? (i := 1187) (by decide +kernel)⟩
theorem lw_p51 : lw_okq (⟨"HalftoneRegionsModel", "isMore", "()Z"⟩, 38) := ⟨⟨by decide +kernel, by decide +kernel⟩, List.mem_of_getElem? (i := 833) (by decide +kernel), List.mem_of_getElem? (i := 1190) (by decide +kernel), List.mem_of_getElem? (i := 1191) (by decide +kernel)⟩
def lw_privs_4 : List (MethodName × Nat) := [(⟨"HalftoneRegionsModel", "readOne", "()I"⟩, 38), (⟨"HalftoneRegionsModel", "readSome", "(I)I"⟩, 38), (⟨"HalftoneRegionsModel", "refusal", "()I"⟩, 38), (⟨"HalftoneRegionsModel", "isMore", "()Z"⟩, 38)]
theorem lw_r4 : ∀ q ∈ lw_privs_4, lw_okq q := List.forall_mem_cons.mpr ⟨lw_p48, List.forall_mem_cons.mpr ⟨lw_p49, List.forall_mem_cons.mpr ⟨lw_p50, List.forall_mem_cons.mpr ⟨lw_p51, fun _ h => absurd h List.not_mem_nil⟩⟩⟩⟩
def lw_privs : List (MethodName × Nat) := lw_privs_1 ++ (lw_privs_2 ++ (lw_privs_3 ++ (lw_privs_4)))
def lw_tbl : List Cond := k2_sels lw_privs ++ tables_1
theorem lw_privs_ok : ∀ q ∈ lw_privs, lw_okq q := by
  show ∀ q ∈ lw_privs_1 ++ (lw_privs_2 ++ (lw_privs_3 ++ (lw_privs_4))), lw_okq q
  exact List.forall_mem_append.mpr ⟨lw_r1, List.forall_mem_append.mpr ⟨lw_r2, List.forall_mem_append.mpr ⟨lw_r3, lw_r4⟩⟩⟩
end
section
def nestHost : String := "HalftoneRegions"
def R_C : String := "HalftoneRegions$Codes"
def T_C : u_T := fun k => match k with
  | _ => ("HalftoneRegions$Codes", "bits", "[I", true)
def ty_C : Nat → FieldType := fun k => match k with
  | _ => .array .int
theorem nm_C : ∀ a, a < 1 → ∀ b, b < 1 → a ≠ b → (T_C a).2.1 ≠ (T_C b).2.1 := by decide +kernel
theorem ty_C_ok : ∀ k, k < 1 → parseFieldDescriptor (T_C k).2.2.1 = some (ty_C k) := by decide +kernel
theorem in_C : ∀ w ∈ u_ws R_C T_C 1, w ∈ lw_tbl := by decide +kernel
theorem gd_C : (u_ws R_C T_C 1).all goodWord = true := by decide +kernel
def R_F : String := "HalftoneRegions$Forecast"
def T_F : u_T := fun k => match k with
  | 0 => ("HalftoneRegions$Forecast", "states", "[I", true)
  | _ => ("HalftoneRegions$Forecast", "uses", "[I", true)
def ty_F : Nat → FieldType := fun k => match k with
  | 0 => .array .int
  | _ => .array .int
theorem nm_F : ∀ a, a < 2 → ∀ b, b < 2 → a ≠ b → (T_F a).2.1 ≠ (T_F b).2.1 := by decide +kernel
theorem ty_F_ok : ∀ k, k < 2 → parseFieldDescriptor (T_F k).2.2.1 = some (ty_F k) := by decide +kernel
theorem in_F : ∀ w ∈ u_ws R_F T_F 2, w ∈ lw_tbl := by decide +kernel
theorem gd_F : (u_ws R_F T_F 2).all goodWord = true := by decide +kernel
def R_L : String := "HalftoneRegions$Lattice"
def T_L : u_T := fun k => match k with
  | 0 => ("HalftoneRegions$Lattice", "greys", "[I", true)
  | 1 => ("HalftoneRegions$Lattice", "columns", "I", false)
  | 2 => ("HalftoneRegions$Lattice", "rows", "I", false)
  | 3 => ("HalftoneRegions$Lattice", "gx", "I", false)
  | 4 => ("HalftoneRegions$Lattice", "gy", "I", false)
  | 5 => ("HalftoneRegions$Lattice", "dx", "I", false)
  | _ => ("HalftoneRegions$Lattice", "dy", "I", false)
def ty_L : Nat → FieldType := fun k => match k with
  | 0 => .array .int
  | 1 => .int
  | 2 => .int
  | 3 => .int
  | 4 => .int
  | 5 => .int
  | _ => .int
theorem nm_L : ∀ a, a < 7 → ∀ b, b < 7 → a ≠ b → (T_L a).2.1 ≠ (T_L b).2.1 := by decide +kernel
theorem ty_L_ok : ∀ k, k < 7 → parseFieldDescriptor (T_L k).2.2.1 = some (ty_L k) := by decide +kernel
theorem in_L : ∀ w ∈ u_ws R_L T_L 7, w ∈ lw_tbl := by decide +kernel
theorem gd_L : (u_ws R_L T_L 7).all goodWord = true := by decide +kernel
def R_P : String := "HalftoneRegions$Pace"
def T_P : u_T := fun k => match k with
  | 0 => ("HalftoneRegions$Pace", "sum", "I", false)
  | _ => ("HalftoneRegions$Pace", "number", "I", false)
def ty_P : Nat → FieldType := fun k => match k with
  | 0 => .int
  | _ => .int
theorem nm_P : ∀ a, a < 2 → ∀ b, b < 2 → a ≠ b → (T_P a).2.1 ≠ (T_P b).2.1 := by decide +kernel
theorem ty_P_ok : ∀ k, k < 2 → parseFieldDescriptor (T_P k).2.2.1 = some (ty_P k) := by decide +kernel
theorem in_P : ∀ w ∈ u_ws R_P T_P 2, w ∈ lw_tbl := by decide +kernel
theorem gd_P : (u_ws R_P T_P 2).all goodWord = true := by decide +kernel
def R_B : String := "HalftoneRegions$PatternSet"
def T_B : u_T := fun k => match k with
  | 0 => ("HalftoneRegions$PatternSet", "cells", "[J", true)
  | 1 => ("HalftoneRegions$PatternSet", "width", "I", false)
  | 2 => ("HalftoneRegions$PatternSet", "height", "I", false)
  | _ => ("HalftoneRegions$PatternSet", "many", "I", false)
def ty_B : Nat → FieldType := fun k => match k with
  | 0 => .array .long
  | 1 => .int
  | 2 => .int
  | _ => .int
theorem nm_B : ∀ a, a < 4 → ∀ b, b < 4 → a ≠ b → (T_B a).2.1 ≠ (T_B b).2.1 := by decide +kernel
theorem ty_B_ok : ∀ k, k < 4 → parseFieldDescriptor (T_B k).2.2.1 = some (ty_B k) := by decide +kernel
theorem in_B : ∀ w ∈ u_ws R_B T_B 4, w ∈ lw_tbl := by decide +kernel
theorem gd_B : (u_ws R_B T_B 4).all goodWord = true := by decide +kernel
def R_R : String := "HalftoneRegions$RunReader"
def T_R : u_T := fun k => match k with
  | 0 => ("HalftoneRegions$RunReader", "bytes", "[B", true)
  | 1 => ("HalftoneRegions$RunReader", "pace", "LHalftoneRegions$Pace;", true)
  | 2 => ("HalftoneRegions$RunReader", "came", "I", false)
  | 3 => ("HalftoneRegions$RunReader", "bits", "I", false)
  | 4 => ("HalftoneRegions$RunReader", "left", "I", false)
  | 5 => ("HalftoneRegions$RunReader", "ahead", "I", false)
  | 6 => ("HalftoneRegions$RunReader", "runs", "I", false)
  | _ => ("HalftoneRegions$RunReader", "refused", "I", false)
def ty_R : Nat → FieldType := fun k => match k with
  | 0 => .array .byte
  | 1 => .object "HalftoneRegions$Pace"
  | 2 => .int
  | 3 => .int
  | 4 => .int
  | 5 => .int
  | 6 => .int
  | _ => .int
theorem nm_R : ∀ a, a < 8 → ∀ b, b < 8 → a ≠ b → (T_R a).2.1 ≠ (T_R b).2.1 := by decide +kernel
theorem ty_R_ok : ∀ k, k < 8 → parseFieldDescriptor (T_R k).2.2.1 = some (ty_R k) := by decide +kernel
theorem in_R : ∀ w ∈ u_ws R_R T_R 8, w ∈ lw_tbl := by decide +kernel
theorem gd_R : (u_ws R_R T_R 8).all goodWord = true := by decide +kernel
def R_W : String := "HalftoneRegions$RunWriter"
def T_W : u_T := fun k => match k with
  | 0 => ("HalftoneRegions$RunWriter", "bytes", "[B", true)
  | 1 => ("HalftoneRegions$RunWriter", "pace", "LHalftoneRegions$Pace;", true)
  | 2 => ("HalftoneRegions$RunWriter", "bits", "I", false)
  | 3 => ("HalftoneRegions$RunWriter", "run", "I", false)
  | _ => ("HalftoneRegions$RunWriter", "runs", "I", false)
def ty_W : Nat → FieldType := fun k => match k with
  | 0 => .array .byte
  | 1 => .object "HalftoneRegions$Pace"
  | 2 => .int
  | 3 => .int
  | _ => .int
theorem nm_W : ∀ a, a < 5 → ∀ b, b < 5 → a ≠ b → (T_W a).2.1 ≠ (T_W b).2.1 := by decide +kernel
theorem ty_W_ok : ∀ k, k < 5 → parseFieldDescriptor (T_W k).2.2.1 = some (ty_W k) := by decide +kernel
theorem in_W : ∀ w ∈ u_ws R_W T_W 5, w ∈ lw_tbl := by decide +kernel
theorem gd_W : (u_ws R_W T_W 5).all goodWord = true := by decide +kernel
def R_S : String := "HalftoneRegions$Sheet"
def T_S : u_T := fun k => match k with
  | 0 => ("HalftoneRegions$Sheet", "lines", "[I", true)
  | _ => ("HalftoneRegions$Sheet", "mask", "I", true)
def ty_S : Nat → FieldType := fun k => match k with
  | 0 => .array .int
  | _ => .int
theorem nm_S : ∀ a, a < 2 → ∀ b, b < 2 → a ≠ b → (T_S a).2.1 ≠ (T_S b).2.1 := by decide +kernel
theorem ty_S_ok : ∀ k, k < 2 → parseFieldDescriptor (T_S k).2.2.1 = some (ty_S k) := by decide +kernel
theorem in_S : ∀ w ∈ u_ws R_S T_S 2, w ∈ lw_tbl := by decide +kernel
theorem gd_S : (u_ws R_S T_S 2).all goodWord = true := by decide +kernel
def R_H : String := "HalftoneRegions"
def T_H : u_T := fun k => match k with
  | 0 => ("HalftoneRegions", "width", "I", true)
  | 1 => ("HalftoneRegions", "height", "I", true)
  | 2 => ("HalftoneRegions", "paper", "LHalftoneRegions$Sheet;", true)
  | 3 => ("HalftoneRegions", "region", "LHalftoneRegions$Sheet;", true)
  | 4 => ("HalftoneRegions", "book", "LHalftoneRegions$PatternSet;", true)
  | 5 => ("HalftoneRegions", "lattice", "LHalftoneRegions$Lattice;", true)
  | 6 => ("HalftoneRegions", "codes", "LHalftoneRegions$Codes;", true)
  | 7 => ("HalftoneRegions", "forecast", "LHalftoneRegions$Forecast;", true)
  | 8 => ("HalftoneRegions", "writer", "LHalftoneRegions$RunWriter;", true)
  | 9 => ("HalftoneRegions", "reader", "LHalftoneRegions$RunReader;", true)
  | 10 => ("HalftoneRegions", "nearest", "[I", true)
  | 11 => ("HalftoneRegions", "operator", "I", false)
  | 12 => ("HalftoneRegions", "background", "I", false)
  | 13 => ("HalftoneRegions", "skipping", "I", false)
  | _ => ("HalftoneRegions", "runs", "I", false)
def ty_H : Nat → FieldType := fun k => match k with
  | 0 => .int
  | 1 => .int
  | 2 => .object "HalftoneRegions$Sheet"
  | 3 => .object "HalftoneRegions$Sheet"
  | 4 => .object "HalftoneRegions$PatternSet"
  | 5 => .object "HalftoneRegions$Lattice"
  | 6 => .object "HalftoneRegions$Codes"
  | 7 => .object "HalftoneRegions$Forecast"
  | 8 => .object "HalftoneRegions$RunWriter"
  | 9 => .object "HalftoneRegions$RunReader"
  | 10 => .array .int
  | 11 => .int
  | 12 => .int
  | 13 => .int
  | _ => .int
theorem nm_H : ∀ a, a < 15 → ∀ b, b < 15 → a ≠ b → (T_H a).2.1 ≠ (T_H b).2.1 := by decide +kernel
theorem ty_H_ok : ∀ k, k < 15 → parseFieldDescriptor (T_H k).2.2.1 = some (ty_H k) := by decide +kernel
theorem in_H : ∀ w ∈ u_ws R_H T_H 15, w ∈ lw_tbl := by decide +kernel
theorem gd_H : (u_ws R_H T_H 15).all goodWord = true := by decide +kernel
def R_M : String := "HalftoneRegionsModel"
def T_M : u_T := fun k => match k with
  | 0 => ("HalftoneRegionsModel", "code", "I", false)
  | 1 => ("HalftoneRegionsModel", "width", "I", true)
  | 2 => ("HalftoneRegionsModel", "height", "I", true)
  | 3 => ("HalftoneRegionsModel", "page", "[Z", true)
  | 4 => ("HalftoneRegionsModel", "region", "[Z", true)
  | 5 => ("HalftoneRegionsModel", "patternWidth", "I", false)
  | 6 => ("HalftoneRegionsModel", "patternHeight", "I", false)
  | 7 => ("HalftoneRegionsModel", "many", "I", false)
  | 8 => ("HalftoneRegionsModel", "cells", "[Z", true)
  | 9 => ("HalftoneRegionsModel", "columns", "I", false)
  | 10 => ("HalftoneRegionsModel", "rows", "I", false)
  | 11 => ("HalftoneRegionsModel", "gx", "I", false)
  | 12 => ("HalftoneRegionsModel", "gy", "I", false)
  | 13 => ("HalftoneRegionsModel", "dx", "I", false)
  | 14 => ("HalftoneRegionsModel", "dy", "I", false)
  | 15 => ("HalftoneRegionsModel", "greys", "[I", true)
  | 16 => ("HalftoneRegionsModel", "operator", "I", false)
  | 17 => ("HalftoneRegionsModel", "background", "I", false)
  | 18 => ("HalftoneRegionsModel", "skips", "I", false)
  | 19 => ("HalftoneRegionsModel", "written", "[Z", true)
  | 20 => ("HalftoneRegionsModel", "bits", "I", false)
  | 21 => ("HalftoneRegionsModel", "made", "I", false)
  | 22 => ("HalftoneRegionsModel", "came", "[I", true)
  | 23 => ("HalftoneRegionsModel", "cameBytes", "I", false)
  | 24 => ("HalftoneRegionsModel", "states", "[I", true)
  | 25 => ("HalftoneRegionsModel", "counts", "[I", true)
  | 26 => ("HalftoneRegionsModel", "here", "[Z", true)
  | 27 => ("HalftoneRegionsModel", "above", "[Z", true)
  | 28 => ("HalftoneRegionsModel", "fresh", "[I", true)
  | 29 => ("HalftoneRegionsModel", "sum", "I", false)
  | 30 => ("HalftoneRegionsModel", "number", "I", false)
  | 31 => ("HalftoneRegionsModel", "runs", "I", false)
  | 32 => ("HalftoneRegionsModel", "at", "I", false)
  | 33 => ("HalftoneRegionsModel", "left", "I", false)
  | 34 => ("HalftoneRegionsModel", "loaded", "Z", false)
  | 35 => ("HalftoneRegionsModel", "ended", "Z", false)
  | 36 => ("HalftoneRegionsModel", "toCome", "I", false)
  | _ => ("HalftoneRegionsModel", "beyond", "Z", false)
def ty_M : Nat → FieldType := fun k => match k with
  | 0 => .int
  | 1 => .int
  | 2 => .int
  | 3 => .array .boolean
  | 4 => .array .boolean
  | 5 => .int
  | 6 => .int
  | 7 => .int
  | 8 => .array .boolean
  | 9 => .int
  | 10 => .int
  | 11 => .int
  | 12 => .int
  | 13 => .int
  | 14 => .int
  | 15 => .array .int
  | 16 => .int
  | 17 => .int
  | 18 => .int
  | 19 => .array .boolean
  | 20 => .int
  | 21 => .int
  | 22 => .array .int
  | 23 => .int
  | 24 => .array .int
  | 25 => .array .int
  | 26 => .array .boolean
  | 27 => .array .boolean
  | 28 => .array .int
  | 29 => .int
  | 30 => .int
  | 31 => .int
  | 32 => .int
  | 33 => .int
  | 34 => .boolean
  | 35 => .boolean
  | 36 => .int
  | _ => .boolean
theorem nm_M : ∀ a, a < 38 → ∀ b, b < 38 → a ≠ b → (T_M a).2.1 ≠ (T_M b).2.1 := by decide +kernel
theorem ty_M_ok : ∀ k, k < 38 → parseFieldDescriptor (T_M k).2.2.1 = some (ty_M k) := by decide +kernel
theorem in_M : ∀ w ∈ u_ws R_M T_M 38, w ∈ lw_tbl := by decide +kernel
theorem gd_M : (u_ws R_M T_M 38).all goodWord = true := by decide +kernel
abbrev classes : List vw_C := [(R_C, T_C, 1), (R_F, T_F, 2), (R_L, T_L, 7), (R_P, T_P, 2), (R_B, T_B, 4), (R_R, T_R, 8), (R_W, T_W, 5), (R_S, T_S, 2), (R_H, T_H, 15), (R_M, T_M, 38)]
def gw : List Jvm.Cond := lw_tbl.filter goodWord
theorem gw_in {w : Jvm.Cond} (h : w ∈ lw_tbl) (hg : goodWord w = true) : w ∈ gw := List.mem_filter.mpr ⟨h, hg⟩
def clsOK (r : vw_C) : Prop := (∀ w ∈ u_ws r.1 r.2.1 r.2.2, w ∈ gw) ∧ (∀ a, a < r.2.2 → ∀ b, b < r.2.2 → a ≠ b → (r.2.1 a).2.1 ≠ (r.2.1 b).2.1) ∧ (∃ ty : Nat → FieldType, ∀ k, k < r.2.2 → parseFieldDescriptor (r.2.1 k).2.2.1 = some (ty k))
theorem cls_all : ∀ (ci : Nat) (r : vw_C), classes[ci]? = some r → clsOK r := by
  intro ci r h
  match ci, h with
  | 0, h => cases h; exact ⟨fun w hw => gw_in (in_C w hw) (List.all_eq_true.mp gd_C w hw), nm_C, ty_C, ty_C_ok⟩
  | 1, h => cases h; exact ⟨fun w hw => gw_in (in_F w hw) (List.all_eq_true.mp gd_F w hw), nm_F, ty_F, ty_F_ok⟩
  | 2, h => cases h; exact ⟨fun w hw => gw_in (in_L w hw) (List.all_eq_true.mp gd_L w hw), nm_L, ty_L, ty_L_ok⟩
  | 3, h => cases h; exact ⟨fun w hw => gw_in (in_P w hw) (List.all_eq_true.mp gd_P w hw), nm_P, ty_P, ty_P_ok⟩
  | 4, h => cases h; exact ⟨fun w hw => gw_in (in_B w hw) (List.all_eq_true.mp gd_B w hw), nm_B, ty_B, ty_B_ok⟩
  | 5, h => cases h; exact ⟨fun w hw => gw_in (in_R w hw) (List.all_eq_true.mp gd_R w hw), nm_R, ty_R, ty_R_ok⟩
  | 6, h => cases h; exact ⟨fun w hw => gw_in (in_W w hw) (List.all_eq_true.mp gd_W w hw), nm_W, ty_W, ty_W_ok⟩
  | 7, h => cases h; exact ⟨fun w hw => gw_in (in_S w hw) (List.all_eq_true.mp gd_S w hw), nm_S, ty_S, ty_S_ok⟩
  | 8, h => cases h; exact ⟨fun w hw => gw_in (in_H w hw) (List.all_eq_true.mp gd_H w hw), nm_H, ty_H, ty_H_ok⟩
  | 9, h => cases h; exact ⟨fun w hw => gw_in (in_M w hw) (List.all_eq_true.mp gd_M w hw), nm_M, ty_M, ty_M_ok⟩
  | k + 10, h => simp [classes] at h
end
section
/-! THE LAYER: cells by number, values by kind, stores as functions; each instruction once -/
abbrev AV : Type := Nat ⊕ (Int32 ⊕ Int64)
abbrev aR (o : Nat) : AV := Sum.inl o
abbrev aI (x : Int32) : AV := Sum.inr (Sum.inl x)
abbrev aL (x : Int64) : AV := Sum.inr (Sum.inr x)
def av_V (ad : Nat → Nat) (v : AV) : Value := match v with
  | .inl o => .ref (ad o)
  | .inr (.inl x) => .int x
  | .inr (.inr x) => .long x
def av_c (v : AV) : Nat := match v with
  | .inr (.inr _) => 2
  | _ => 1
theorem av_cat (ad : Nat → Nat) (v : AV) : (av_V ad v).category = av_c v := by
  rcases v with o | x | x <;> rfl
theorem av_cats (ad : Nat → Nat) (st : List AV) : ((st.map (av_V ad)).map fun v => v.category).sum = (st.map av_c).sum := by
  rw [List.map_map]
  congr 1
  exact List.map_congr_left (fun v _ => av_cat ad v)
/-- int data by cell and place, long data by cell and place -/
abbrev St : Type := (Nat → Nat → Int32) × (Nat → Nat → Int64)
def pt (f : Nat → Nat → Int32) (o : Nat) (r : Nat → Int32) : Nat → Nat → Int32 := fun q => if q = o then r else f q
def ptL (f : Nat → Nat → Int64) (o : Nat) (r : Nat → Int64) : Nat → Nat → Int64 := fun q => if q = o then r else f q
theorem pt_s {f : Nat → Nat → Int32} {o : Nat} {r : Nat → Int32} : pt f o r o = r := if_pos rfl
theorem pt_n {f : Nat → Nat → Int32} {o q : Nat} {r : Nat → Int32} (h : q ≠ o) : pt f o r q = f q := if_neg h
theorem ptL_s {f : Nat → Nat → Int64} {o : Nat} {r : Nat → Int64} : ptL f o r o = r := if_pos rfl
theorem ptL_n {f : Nat → Nat → Int64} {o q : Nat} {r : Nat → Int64} (h : q ≠ o) : ptL f o r q = f q := if_neg h
def puI (S : St) (o k : Nat) (v : Int32) : St := (pt S.1 o (upd (S.1 o) k v), S.2)
def puL (S : St) (o k : Nat) (v : Int64) : St := (S.1, ptL S.2 o (vp_updL (S.2 o) k v))
/-- a cell's shape: an object of a class, its fields references to cells or ints; or an array -/
abbrev Sh : Type := (Nat × List (Option Nat)) ⊕ (FieldType × Nat)
def fldV (ad : Nat → Nat) (r : Nat → Int32) (k : Nat) (x : Option Nat) : Value := match x with
  | some q => .ref (ad q)
  | none => .int (r k)
def cellA (ad : Nat → Nat) (cA : FieldType → ClassId) (S : St) (o : Nat) (x : Sh) : va_E := match x with
  | .inl (ci, fl) => .inr (ci, fl.mapIdx (fldV ad (S.1 o)))
  | .inr (.long, n) => .inl (cA .long, n, .inr (.inl (S.2 o)))
  | .inr (ty, n) => .inl (cA ty, n, .inl (S.1 o))
def wdA (ad : Nat → Nat) (cA : FieldType → ClassId) (S : St) (sh : List Sh) : va_W := sh.mapIdx (fun o x => (ad o, cellA ad cA S o x))
def tysA (cA : FieldType → ClassId) : List (ClassId × FieldType) := [(cA .int, .int), (cA .long, .long), (cA .byte, .byte), (cA .boolean, .boolean)]
def aA (n : Nat) (ad : Nat → Nat) (sz : Nat) : Nat → Prop := fun q => (∃ i, i < n ∧ q = ad i) ∨ sz ≤ q
theorem wd_at {ad : Nat → Nat} {cA : FieldType → ClassId} {S : St} {sh : List Sh} {o : Nat} {x : Sh} (h : sh[o]? = some x) : (wdA ad cA S sh)[o]? = some (ad o, cellA ad cA S o x) := by
  unfold wdA
  rw [List.getElem?_mapIdx, h]
  rfl
theorem wd_of {ad : Nat → Nat} {cA : FieldType → ClassId} {S : St} {sh : List Sh} {o : Nat} {q : Nat × va_E} (h : (wdA ad cA S sh)[o]? = some q) : ∃ x, sh[o]? = some x ∧ q = (ad o, cellA ad cA S o x) := by
  unfold wdA at h
  rw [List.getElem?_mapIdx] at h
  cases hx : sh[o]? with
  | none => rw [hx] at h; cases h
  | some x => rw [hx] at h; exact ⟨x, rfl, (Option.some.inj h).symm⟩
theorem wd_lt {sh : List Sh} {o : Nat} {x : Sh} (h : sh[o]? = some x) : o < sh.length := (List.getElem?_eq_some_iff.mp h).1
theorem wd_D {ad : Nat → Nat} {cA : FieldType → ClassId} {S : St} {sh : List Sh} {sz : Nat} (hi : ∀ i j, i < sh.length → j < sh.length → ad i = ad j → i = j) : va_D (aA sh.length ad sz) (wdA ad cA S sh) := by
  refine ⟨fun i j p q h1 h2 h3 => ?_, fun k q h => ?_⟩
  · obtain ⟨x, hx, rfl⟩ := wd_of h1
    obtain ⟨z, hz, rfl⟩ := wd_of h2
    exact hi i j (wd_lt hx) (wd_lt hz) h3
  · obtain ⟨x, hx, rfl⟩ := wd_of h
    exact Or.inl ⟨k, wd_lt hx, rfl⟩
theorem wd_set {ad : Nat → Nat} {cA : FieldType → ClassId} {S S' : St} {sh : List Sh} {o : Nat} {x : Sh} {e : va_E} (h : sh[o]? = some x) (he : cellA ad cA S' o x = e) (hn : ∀ q z, q ≠ o → cellA ad cA S' q z = cellA ad cA S q z) : (wdA ad cA S sh).set o (ad o, e) = wdA ad cA S' sh := by
  apply List.ext_getElem?
  intro i
  by_cases hi : i = o
  · subst hi
    have hl : i < (wdA ad cA S sh).length := by
      unfold wdA; rw [List.length_mapIdx]; exact wd_lt h
    rw [List.getElem?_set_self hl, wd_at h, he]
  · rw [List.getElem?_set_ne (fun z => hi z.symm)]
    unfold wdA
    rw [List.getElem?_mapIdx, List.getElem?_mapIdx]
    cases sh[i]? with
    | none => rfl
    | some z => simp only [Option.map_some]; rw [hn i z hi]
theorem cellA_n {ad : Nat → Nat} {cA : FieldType → ClassId} {S S' : St} {q : Nat} {z : Sh} (h1 : S'.1 q = S.1 q) (h2 : S'.2 q = S.2 q) : cellA ad cA S' q z = cellA ad cA S q z := by
  rcases z with ⟨ci, fl⟩ | ⟨ty, n⟩
  · show Sum.inr (ci, fl.mapIdx (fldV ad (S'.1 q))) = Sum.inr (ci, fl.mapIdx (fldV ad (S.1 q)))
    rw [h1]
  · cases ty <;> simp only [cellA, h1, h2]
theorem wd_puI {ad : Nat → Nat} {cA : FieldType → ClassId} {S : St} {sh : List Sh} {o k ci : Nat} {fl : List (Option Nat)} {v : Int32} (h : sh[o]? = some (.inl (ci, fl))) (hk : fl[k]? = some none) :
    (wdA ad cA S sh).set o (ad o, .inr (ci, (fl.mapIdx (fldV ad (S.1 o))).set k (.int v))) = wdA ad cA (puI S o k v) sh := by
  refine wd_set h ?_ (fun q z hq => cellA_n (pt_n hq) rfl)
  show Sum.inr (ci, fl.mapIdx (fldV ad ((puI S o k v).1 o))) = _
  congr 2
  apply List.ext_getElem?
  intro i
  by_cases hi : i = k
  · subst hi
    have hl : i < (fl.mapIdx (fldV ad (S.1 o))).length := by
      rw [List.length_mapIdx]; exact (List.getElem?_eq_some_iff.mp hk).1
    rw [List.getElem?_set_self hl, List.getElem?_mapIdx, hk]
    show some (Value.int ((pt S.1 o (upd (S.1 o) i v)) o i)) = _
    rw [pt_s]
    simp [upd]
  · rw [List.getElem?_set_ne (fun z => hi z.symm), List.getElem?_mapIdx, List.getElem?_mapIdx]
    cases fl[i]? with
    | none => rfl
    | some z =>
      cases z with
      | some q => rfl
      | none =>
        show some (Value.int ((pt S.1 o (upd (S.1 o) k v)) o i)) = some (Value.int (S.1 o i))
        rw [pt_s]
        simp [upd, hi]
theorem wd_arI {ad : Nat → Nat} {cA : FieldType → ClassId} {S : St} {sh : List Sh} {o k n : Nat} {ty : FieldType} {v : Int32} (h : sh[o]? = some (.inr (ty, n))) (ht : ty ≠ .long) :
    (wdA ad cA S sh).set o (ad o, .inl (cA ty, n, .inl (upd (S.1 o) k v))) = wdA ad cA (puI S o k v) sh := by
  refine wd_set h ?_ (fun q z hq => cellA_n (pt_n hq) rfl)
  have h1 : (puI S o k v).1 o = upd (S.1 o) k v := pt_s
  cases ty <;> first | exact absurd rfl ht | (simp only [cellA, h1])
theorem wd_arL {ad : Nat → Nat} {cA : FieldType → ClassId} {S : St} {sh : List Sh} {o k n : Nat} {v : Int64} (h : sh[o]? = some (.inr (.long, n))) :
    (wdA ad cA S sh).set o (ad o, .inl (cA .long, n, .inr (.inl (vp_updL (S.2 o) k v)))) = wdA ad cA (puL S o k v) sh := by
  refine wd_set h ?_ (fun q z hq => cellA_n rfl (ptL_n hq))
  have h1 : (puL S o k v).2 o = vp_updL (S.2 o) k v := ptL_s
  simp only [cellA, h1]
/-! the locals, by place -/
def lh (ad : Nat → Nat) (ls : Array Slot) (nL : Nat) (lv : List (Option AV)) : Prop := ls.size = nL ∧ lv_wf ls ∧ ∀ (i : Nat) (v : AV), lv[i]? = some (some v) → ls[i]? = some (.val (av_V ad v))
def lhL (ad : Nat → Nat) (lv : List (Option AV)) : List (Nat × Value) := (List.range lv.length).filterMap (fun i => match lv[i]? with | some (some v) => some (i, av_V ad v) | _ => none)
theorem lhL_in {ad : Nat → Nat} {lv : List (Option AV)} {i : Nat} {v : AV} (h : lv[i]? = some (some v)) : (i, av_V ad v) ∈ lhL ad lv := by
  refine List.mem_filterMap.mpr ⟨i, List.mem_range.mpr (List.getElem?_eq_some_iff.mp h).1, ?_⟩
  rw [h]
theorem lhL_of {ad : Nat → Nat} {lv : List (Option AV)} {q : Nat × Value} (h : q ∈ lhL ad lv) : ∃ v, lv[q.1]? = some (some v) ∧ q.2 = av_V ad v := by
  obtain ⟨i, -, hi⟩ := List.mem_filterMap.mp h
  split at hi
  next v hv =>
    cases hi
    exact ⟨v, hv, rfl⟩
  next => cases hi
theorem lh_has {ad : Nat → Nat} {ls : Array Slot} {nL : Nat} {lv : List (Option AV)} (h : lh ad ls nL lv) : lv_has ls nL (lhL ad lv) := by
  refine ⟨h.1, h.2.1, fun q hq => ?_⟩
  obtain ⟨v, h1, h2⟩ := lhL_of hq
  rw [h2]
  exact h.2.2 _ _ h1
/-- no long begins just ahead of place i -/
def lvP (lv : List (Option AV)) (i : Nat) : Bool := match i with
  | 0 => true
  | j + 1 => match lv[j]? with
    | some (some (.inr (.inr _))) => false
    | _ => true
theorem lvP_c {ad : Nat → Nat} {lv : List (Option AV)} {i j : Nat} {v : AV} (h : lvP lv i = true) (hj : lv[j]? = some (some v)) (hji : j + 1 = i) : (av_V ad v).category ≠ 2 := by
  subst hji
  unfold lvP at h
  rcases v with o | x | x
  · intro q; cases q
  · intro q; cases q
  · simp only [hj] at h; cases h
theorem lh_set1 {ad : Nat → Nat} {ls : Array Slot} {nL : Nat} {lv : List (Option AV)} {i : Nat} {v : AV} {w : Value} (hw : av_V ad v = w) (hp : lvP lv i = true) (h : lv_has ls nL ((i, w) :: (lhL ad lv).filter (fun q => !(q.1 == i) && !(q.1 + 1 == i && q.2.category == 2)))) : lh ad ls nL (lv.set i (some v)) := by
  refine ⟨h.1, h.2.1, fun j u hj => ?_⟩
  by_cases hji : j = i
  · subst hji
    have hl : j < lv.length := by
      have := (List.getElem?_eq_some_iff.mp hj).1
      rwa [List.length_set] at this
    rw [List.getElem?_set_self hl] at hj
    cases hj
    rw [hw]
    exact h.2.2 (j, w) List.mem_cons_self
  · rw [List.getElem?_set_ne (fun z => hji z.symm)] at hj
    refine h.2.2 (j, av_V ad u) (List.mem_cons_of_mem _ (List.mem_filter.mpr ⟨lhL_in hj, ?_⟩))
    have h2 : ¬ (j + 1 = i ∧ (av_V ad u).category = 2) := fun z => lvP_c (ad := ad) hp hj z.1 z.2
    simp [hji]
    rcases Decidable.em (j + 1 = i) with z | z
    · exact Or.inr (fun z2 => h2 ⟨z, z2⟩)
    · exact Or.inl z
theorem lh_set2 {ad : Nat → Nat} {ls : Array Slot} {nL : Nat} {lv : List (Option AV)} {i : Nat} {v : AV} {w : Value} (hw : av_V ad v = w) (hp : lvP lv i = true) (h : lv_has ls nL ((i, w) :: (lhL ad lv).filter (fun q => !(q.1 == i) && (!(q.1 == i + 1) && !(q.1 + 1 == i && q.2.category == 2))))) : lh ad ls nL ((lv.set i (some v)).set (i + 1) none) := by
  refine ⟨h.1, h.2.1, fun j u hj => ?_⟩
  by_cases hj2 : j = i + 1
  · subst hj2
    have hl : i + 1 < (lv.set i (some v)).length := by
      have := (List.getElem?_eq_some_iff.mp hj).1
      rwa [List.length_set] at this
    rw [List.getElem?_set_self hl] at hj
    cases hj
  · rw [List.getElem?_set_ne (fun z => hj2 z.symm)] at hj
    by_cases hji : j = i
    · subst hji
      have hl : j < lv.length := by
        have := (List.getElem?_eq_some_iff.mp hj).1
        rwa [List.length_set] at this
      rw [List.getElem?_set_self hl] at hj
      cases hj
      rw [hw]
      exact h.2.2 (j, w) List.mem_cons_self
    · rw [List.getElem?_set_ne (fun z => hji z.symm)] at hj
      refine h.2.2 (j, av_V ad u) (List.mem_cons_of_mem _ (List.mem_filter.mpr ⟨lhL_in hj, ?_⟩))
      have h2 : ¬ (j + 1 = i ∧ (av_V ad u).category = 2) := fun z => lvP_c (ad := ad) hp hj z.1 z.2
      simp [hji, hj2]
      rcases Decidable.em (j + 1 = i) with z | z
      · exact Or.inr (fun z2 => h2 ⟨z, z2⟩)
      · exact Or.inl z
def lvArgs : List AV → List (Option AV)
  | [] => []
  | .inr (.inr x) :: vs => some (.inr (.inr x)) :: none :: lvArgs vs
  | .inr (.inl x) :: vs => some (.inr (.inl x)) :: lvArgs vs
  | .inl o :: vs => some (.inl o) :: lvArgs vs
def lvIn (av : List AV) (n : Nat) : List (Option AV) := lvArgs av ++ List.replicate (n - (lvArgs av).length) none
theorem sl_len (ad : Nat → Nat) : ∀ av : List AV, (lg_sl (av.map (av_V ad))).length = (lvArgs av).length
  | [] => rfl
  | .inr (.inr x) :: vs => by
    have h := sl_len ad vs
    simp only [lg_sl, List.map_cons, List.flatMap_cons, lvArgs, List.length_append, List.length_cons] at h ⊢
    rw [h]
    simp [av_V, Value.category]
    omega
  | .inr (.inl x) :: vs => by
    have h := sl_len ad vs
    simp only [lg_sl, List.map_cons, List.flatMap_cons, lvArgs, List.length_append, List.length_cons] at h ⊢
    rw [h]
    simp [av_V, Value.category]
    omega
  | .inl o :: vs => by
    have h := sl_len ad vs
    simp only [lg_sl, List.map_cons, List.flatMap_cons, lvArgs, List.length_append, List.length_cons] at h ⊢
    rw [h]
    simp [av_V, Value.category]
    omega
theorem sl_at (ad : Nat → Nat) : ∀ (av : List AV) (i : Nat) (v : AV), (lvArgs av)[i]? = some (some v) → (lg_sl (av.map (av_V ad)))[i]? = some (.val (av_V ad v))
  | [], i, v, h => by simp [lvArgs] at h
  | .inr (.inr x) :: vs, i, v, h => by
    have e : lg_sl ((.inr (.inr x) :: vs : List AV).map (av_V ad)) = Slot.val (.long x) :: Slot.second :: lg_sl (vs.map (av_V ad)) := by
      simp [lg_sl, av_V, Value.category]
    rw [e]
    match i, h with
    | 0, h => simp [lvArgs] at h; subst h; rfl
    | 1, h => simp [lvArgs] at h
    | i + 2, h => exact sl_at ad vs i v (by simpa [lvArgs] using h)
  | .inr (.inl x) :: vs, i, v, h => by
    have e : lg_sl ((.inr (.inl x) :: vs : List AV).map (av_V ad)) = Slot.val (.int x) :: lg_sl (vs.map (av_V ad)) := by
      simp [lg_sl, av_V, Value.category]
    rw [e]
    match i, h with
    | 0, h => simp [lvArgs] at h; subst h; rfl
    | i + 1, h => exact sl_at ad vs i v (by simpa [lvArgs] using h)
  | .inl o :: vs, i, v, h => by
    have e : lg_sl ((.inl o :: vs : List AV).map (av_V ad)) = Slot.val (.ref (ad o)) :: lg_sl (vs.map (av_V ad)) := by
      simp [lg_sl, av_V, Value.category]
    rw [e]
    match i, h with
    | 0, h => simp [lvArgs] at h; subst h; rfl
    | i + 1, h => exact sl_at ad vs i v (by simpa [lvArgs] using h)
theorem lh_entry (ad : Nat → Nat) (av : List AV) {n : Nat} (h : (lvArgs av).length ≤ n) : lh ad ((lg_sl (av.map (av_V ad)) ++ List.replicate (n - (lg_sl (av.map (av_V ad))).length) Slot.unset).toArray) n (lvIn av n) := by
  obtain ⟨h1, h2, -⟩ := lv_entry (av.map (av_V ad)) (n := n) (by rw [sl_len]; exact h)
  refine ⟨h1, h2, fun i v hi => ?_⟩
  unfold lvIn at hi
  rw [List.getElem?_toArray]
  by_cases hl : i < (lvArgs av).length
  · rw [List.getElem?_append_left hl] at hi
    rw [List.getElem?_append_left (by rw [sl_len]; exact hl)]
    exact sl_at ad av i v hi
  · rw [List.getElem?_append_right (by omega)] at hi
    have := List.mem_of_getElem? hi
    have := List.eq_of_mem_replicate this
    cases this
end
section
/-! methods as records, the judgement EE, a row for each instruction -/
def nestWord (w : Jvm.Cond) : Bool := match w with
  | .fieldLinkNest .. => true
  | .methodLinkNest .. => true
  | _ => false
def nw : List Jvm.Cond := lw_tbl.filter nestWord
theorem nw_in {w : Jvm.Cond} (h : w ∈ lw_tbl) (hg : nestWord w = true) : w ∈ nw := List.mem_filter.mpr ⟨h, hg⟩
theorem gw_good {w : Jvm.Cond} (h : w ∈ gw) : w ∈ gw ∧ ((w.onTables && w.keeps) = true ∨ ∃ ty, w = .arrayClass ty) := ⟨h, good_of_word (List.mem_filter.mp h).2⟩
def nOK (U : State) : Prop := ∀ w ∈ nw, va_Nw w U
theorem nOK.warm {s U : State} (hW : s.WarmedH U.vm) (h : nOK s) : nOK U := by
  intro w hw
  have h1 := h w hw
  have h2 : nestWord w = true := (List.mem_filter.mp hw).2
  unfold nestWord at h2
  split at h2
  · exact va_Nw.warmF hW h1
  · exact va_Nw.warmM hW h1
  · cases h2
theorem nOK.vm {s U : State} (hvm : s.vm = U.vm) (h : nOK s) : nOK U := by
  intro w hw
  have h1 := h w hw
  have h2 : nestWord w = true := (List.mem_filter.mp hw).2
  unfold nestWord at h2
  split at h2
  · exact va_Nw.same rfl hvm h1
  · exact va_Nw.same rfl hvm h1
  · cases h2
/-- name, code, locals, answer, instructions (place, instruction, length, goal of a jump), fields (pool place, class, number, kind: 0 an int, 1 a boolean, 2 not written) -/
abbrev Mt : Type := MethodName × ByteArray × Nat × Option FieldType × List (Nat × Instr × Nat × Nat) × List (Nat × Nat × Nat × Nat)
def cAt : List (Nat × Instr × Nat × Nat) → Nat → Option (Instr × Nat × Nat)
  | [], _ => none
  | (q, x) :: r, pc => if q = pc then some x else cAt r pc
def fAt : List (Nat × Nat × Nat × Nat) → Nat → Option (Nat × Nat × Nat)
  | [], _ => none
  | (q, x) :: r, i => if q = i then some x else fAt r i
theorem cAt_in : ∀ {t : List (Nat × Instr × Nat × Nat)} {pc : Nat} {x : Instr × Nat × Nat}, cAt t pc = some x → (pc, x) ∈ t
  | [], _, _, h => by cases h
  | (q, z) :: r, pc, x, h => by
    unfold cAt at h
    split at h
    next e => cases h; subst e; exact List.mem_cons_self
    next => exact List.mem_cons_of_mem _ (cAt_in h)
theorem fAt_in : ∀ {t : List (Nat × Nat × Nat × Nat)} {i : Nat} {x : Nat × Nat × Nat}, fAt t i = some x → (i, x) ∈ t
  | [], _, _, h => by cases h
  | (q, z) :: r, i, x, h => by
    unfold fAt at h
    split at h
    next e => cases h; subst e; exact List.mem_cons_self
    next => exact List.mem_cons_of_mem _ (fAt_in h)
/-- where a jump goes -/
def jTo (pc : Nat) (i : Instr) (t : Nat) : Bool := match i with
  | .goto o => decide ((pc : Int) + o = (t : Int))
  | .ifCond _ o => decide ((pc : Int) + o = (t : Int))
  | .if_icmp _ o => decide ((pc : Int) + o = (t : Int))
  | _ => true
def fldB (own : String) (x : Nat × Nat × Nat × Nat) : Bool := match classes[x.2.1]? with
  | some r => decide (x.2.2.1 < r.2.2) && (decide (Jvm.Cond.fieldLink own x.1 (r.2.1 x.2.2.1).1 (r.2.1 x.2.2.1).2.1 (r.2.1 x.2.2.1).2.2.1 ∈ lw_tbl) || decide (Jvm.Cond.fieldLinkNest own x.1 (r.2.1 x.2.2.1).1 (r.2.1 x.2.2.1).2.1 (r.2.1 x.2.2.1).2.2.1 nestHost ∈ lw_tbl)) &&
    (if x.2.2.2 = 0 then decide ((r.2.1 x.2.2.1).2.2.1 = "I" ∧ (r.2.1 x.2.2.1).2.2.2 = false) else if x.2.2.2 = 1 then decide ((r.2.1 x.2.2.1).2.2.1 = "Z" ∧ (r.2.1 x.2.2.1).2.2.2 = false) else true)
  | none => false
def cdB (b : ByteArray) (x : Nat × Instr × Nat × Nat) : Bool := decide (decode b x.1 = .ok (x.2.1, x.2.2.1)) && jTo x.1 x.2.1 x.2.2.2
def okM (y : Mt) : Prop := (y.2.2.2.2.1.all (cdB y.2.1) = true) ∧ (y.2.2.2.2.2.all (fldB y.1.cls) = true) ∧ Jvm.Cond.code y.1 y.2.1 y.2.2.1 y.2.2.2.1 ∈ gw ∧ plainFor y.1 = true
theorem okM_c {y : Mt} (h : okM y) {pc : Nat} {i : Instr} {n t : Nat} (hc : cAt y.2.2.2.2.1 pc = some (i, n, t)) : decode y.2.1 pc = .ok (i, n) ∧ jTo pc i t = true := by
  have h1 := List.all_eq_true.mp h.1 _ (cAt_in hc)
  unfold cdB at h1
  rw [Bool.and_eq_true, decide_eq_true_eq] at h1
  exact h1
abbrev ZF : Type := List Frame → Array Value → State → List Sh → (Nat → Nat) → va_G → (FieldType → ClassId) → State → Prop
def Cx (B : List Sh) (y : Mt) (p : Program) (s : State) (m : MethodId) (args : Array Value) (meth : Method) (c : Code) (sh : List Sh) (ad : Nat → Nat) (D : va_G) (cA : FieldType → ClassId) : Prop :=
  p.tables.exec = Jvm.exec ∧ c.code = y.2.1 ∧ meth.sig.returnType = y.2.2.2.1 ∧ c.maxLocals = y.2.2.1 ∧ s.vm.findClass y.1.cls = some m.cls ∧ (∀ w ∈ gw, w.before args s = true) ∧ meth.locks = false ∧ nOK s ∧ va_K D classes (tysA cA) s ∧ okM y ∧ (∃ sh', sh = B ++ sh') ∧ (∀ i j, i < sh.length → j < sh.length → ad i = ad j → i = j)
def EE (l : Launch) (B : List Sh) (R : Room) (y : Mt) (Zf : ZF) (kc ks pc : Nat) (lv : List (Option AV)) (st : List AV) (S : St) : Prop :=
  ∀ (p : Program) (e : Env) (s : State) (m : MethodId) (args : Array Value) (below : List Frame) (meth : Method) (c : Code) (sh : List Sh) (ad : Nat → Nat) (D : va_G) (cA : FieldType → ClassId) (H : Heap) (locs : List Loc) (ls : Array Slot),
    Cx B y p s m args meth c sh ad D cA → va_P D classes (wdA ad cA S sh) H → va_S (aA sh.length ad s.heap.size) s.heap H locs → lh ad ls y.2.2.1 lv →
    W p l e R s m args below meth c H locs kc ks (Zf below args s sh ad D cA) (F0 m pc ls (st.map (av_V ad)))
theorem sh_pre {B sh : List Sh} (h : ∃ sh', sh = B ++ sh') {o : Nat} {x : Sh} (hx : B[o]? = some x) : sh[o]? = some x := by
  obtain ⟨sh', rfl⟩ := h
  rw [List.getElem?_append_left (List.getElem?_eq_some_iff.mp hx).1]
  exact hx
section Rows
variable {l : Launch} {B : List Sh} {R : Room} {y : Mt} {Zf : ZF} {kc ks pc : Nat} {lv : List (Option AV)} {st : List AV} {S : St}
/-! one-step rows, by what they do to locals and stack -/
theorem e_push {i : Instr} {n t : Nat} {v : AV} (hd : cAt y.2.2.2.2.1 pc = some (i, n, t))
    (row : ∀ {p : Program} {e : Env} {s : State} {m : MethodId} {args : Array Value} {below : List Frame} {meth : Method} {c : Code} {H : Heap} {locs : List Loc} {Q : State → Prop} {ls : Array Slot} {rest : List Value} {ad : Nat → Nat},
      p.tables.exec = Jvm.exec → c.code = y.2.1 → decode y.2.1 pc = .ok (i, n) → lh ad ls y.2.2.1 lv → W p l e R s m args below meth c H locs kc ks Q (F0 m (pc + n) ls (av_V ad v :: rest)) → W p l e R s m args below meth c H locs kc ks Q (F0 m pc ls rest))
    (k : EE l B R y Zf kc ks (pc + n) lv (v :: st) S) : EE l B R y Zf kc ks pc lv st S := by
  intro p e s m args below meth c sh ad D cA H locs ls C hP hS hl
  exact row C.1 C.2.1 (okM_c C.2.2.2.2.2.2.2.2.2.1 hd).1 hl (k p e s m args below meth c sh ad D cA H locs ls C hP hS hl)
theorem e_stk {i : Instr} {n t : Nat} {st1 st2 : List AV} (hd : cAt y.2.2.2.2.1 pc = some (i, n, t))
    (row : ∀ {p : Program} {e : Env} {s : State} {m : MethodId} {args : Array Value} {below : List Frame} {meth : Method} {c : Code} {H : Heap} {locs : List Loc} {Q : State → Prop} {ls : Array Slot} {rest : List Value} {ad : Nat → Nat},
      p.tables.exec = Jvm.exec → c.code = y.2.1 → decode y.2.1 pc = .ok (i, n) → W p l e R s m args below meth c H locs kc ks Q (F0 m (pc + n) ls (st2.map (av_V ad) ++ rest)) → W p l e R s m args below meth c H locs kc ks Q (F0 m pc ls (st1.map (av_V ad) ++ rest)))
    (k : EE l B R y Zf kc ks (pc + n) lv (st2 ++ st) S) : EE l B R y Zf kc ks pc lv (st1 ++ st) S := by
  intro p e s m args below meth c sh ad D cA H locs ls C hP hS hl
  have h := k p e s m args below meth c sh ad D cA H locs ls C hP hS hl
  rw [List.map_append] at h ⊢
  exact row C.1 C.2.1 (okM_c C.2.2.2.2.2.2.2.2.2.1 hd).1 h
end Rows
/-! the step of a simple instruction -/
def bI (f : Int32 → Int32 → Int32) (lv : List (Option AV)) (st : List AV) (S : St) : Option (List (Option AV) × List AV × St) := match st with
  | .inr (.inl y) :: .inr (.inl x) :: r => some (lv, aI (f x y) :: r, S)
  | _ => none
def bL (f : Int64 → Int64 → Int64) (lv : List (Option AV)) (st : List AV) (S : St) : Option (List (Option AV) × List AV × St) := match st with
  | .inr (.inr y) :: .inr (.inr x) :: r => some (lv, aL (f x y) :: r, S)
  | _ => none
def bLI (f : Int64 → Int32 → Int64) (lv : List (Option AV)) (st : List AV) (S : St) : Option (List (Option AV) × List AV × St) := match st with
  | .inr (.inl y) :: .inr (.inr x) :: r => some (lv, aL (f x y) :: r, S)
  | _ => none
def uI (f : Int32 → AV) (lv : List (Option AV)) (st : List AV) (S : St) : Option (List (Option AV) × List AV × St) := match st with
  | .inr (.inl x) :: r => some (lv, f x :: r, S)
  | _ => none
def uL (f : Int64 → AV) (lv : List (Option AV)) (st : List AV) (S : St) : Option (List (Option AV) × List AV × St) := match st with
  | .inr (.inr x) :: r => some (lv, f x :: r, S)
  | _ => none
def ldI (lv : List (Option AV)) (k : Nat) (st : List AV) (S : St) : Option (List (Option AV) × List AV × St) := match lv[k]? with
  | some (some (.inr (.inl x))) => some (lv, aI x :: st, S)
  | _ => none
def ldL (lv : List (Option AV)) (k : Nat) (st : List AV) (S : St) : Option (List (Option AV) × List AV × St) := match lv[k]? with
  | some (some (.inr (.inr x))) => some (lv, aL x :: st, S)
  | _ => none
def ldA (lv : List (Option AV)) (k : Nat) (st : List AV) (S : St) : Option (List (Option AV) × List AV × St) := match lv[k]? with
  | some (some (.inl o)) => some (lv, aR o :: st, S)
  | _ => none
def soI (nL : Nat) (lv : List (Option AV)) (k : Nat) (st : List AV) (S : St) : Option (List (Option AV) × List AV × St) := match st with
  | .inr (.inl x) :: r => if (lvP lv k && decide (k < nL)) = true then some (lv.set k (some (aI x)), r, S) else none
  | _ => none
def soA (nL : Nat) (lv : List (Option AV)) (k : Nat) (st : List AV) (S : St) : Option (List (Option AV) × List AV × St) := match st with
  | .inl x :: r => if (lvP lv k && decide (k < nL)) = true then some (lv.set k (some (aR x)), r, S) else none
  | _ => none
def soL (nL : Nat) (lv : List (Option AV)) (k : Nat) (st : List AV) (S : St) : Option (List (Option AV) × List AV × St) := match st with
  | .inr (.inr x) :: r => if (lvP lv k && decide (k + 1 < nL)) = true then some ((lv.set k (some (aL x))).set (k + 1) none, r, S) else none
  | _ => none
def incI (nL : Nat) (lv : List (Option AV)) (k : Nat) (n : Int) (st : List AV) (S : St) : Option (List (Option AV) × List AV × St) := match lv[k]? with
  | some (some (.inr (.inl x))) => if (lvP lv k && decide (k < nL)) = true then some (lv.set k (some (aI (x + Int32.ofInt n))), st, S) else none
  | _ => none
def gtF (F : List (Nat × Nat × Nat × Nat)) (B : List Sh) (i : Nat) (lv : List (Option AV)) (st : List AV) (S : St) : Option (List (Option AV) × List AV × St) := match st with
  | .inl o :: r => match fAt F i with
    | some (ci, k, _) => match B[o]? with
      | some (.inl (cj, fl)) => if ci = cj then (match fl[k]? with
        | some (some q) => some (lv, aR q :: r, S)
        | some none => some (lv, aI (S.1 o k) :: r, S)
        | none => none) else none
      | _ => none
    | none => none
  | _ => none
/-- a field of type int, or a boolean one that gets 0 or 1 -/
def ptF (F : List (Nat × Nat × Nat × Nat)) (B : List Sh) (i : Nat) (lv : List (Option AV)) (st : List AV) (S : St) : Option (List (Option AV) × List AV × St) := match st with
  | .inr (.inl v) :: .inl o :: r => match fAt F i with
    | some (ci, k, kd) => match B[o]? with
      | some (.inl (cj, fl)) => if ci = cj then (match fl[k]? with
        | some none => if (decide (kd = 0) || (decide (kd = 1) && (decide (v = 0) || decide (v = 1)))) = true then some (lv, r, puI S o k v) else none
        | _ => none) else none
      | _ => none
    | none => none
  | _ => none
def sp (y : Mt) (B : List Sh) (i : Instr) (lv : List (Option AV)) (st : List AV) (S : St) : Option (List (Option AV) × List AV × St) := match i with
  | .iconst n => some (lv, aI (Int32.ofInt n) :: st, S)
  | .bipush n => some (lv, aI (Int8.ofInt n).toInt32 :: st, S)
  | .sipush n => some (lv, aI (Int16.ofInt n).toInt32 :: st, S)
  | .lconst n => some (lv, aL (Int64.ofNat (n : Nat)) :: st, S)
  | .iload k => ldI lv k st S
  | .iload_n k => ldI lv (k : Nat) st S
  | .lload k => ldL lv k st S
  | .lload_n k => ldL lv (k : Nat) st S
  | .aload k => ldA lv k st S
  | .aload_n k => ldA lv (k : Nat) st S
  | .istore k => soI y.2.2.1 lv k st S
  | .istore_n k => soI y.2.2.1 lv (k : Nat) st S
  | .astore k => soA y.2.2.1 lv k st S
  | .astore_n k => soA y.2.2.1 lv (k : Nat) st S
  | .lstore k => soL y.2.2.1 lv k st S
  | .lstore_n k => soL y.2.2.1 lv (k : Nat) st S
  | .iinc k n => incI y.2.2.1 lv k n st S
  | .iadd => bI (fun x y => x + y) lv st S
  | .isub => bI (fun x y => x - y) lv st S
  | .imul => bI (fun x y => x * y) lv st S
  | .iand => bI (fun x y => x &&& y) lv st S
  | .ior => bI (fun x y => x ||| y) lv st S
  | .ixor => bI (fun x y => x ^^^ y) lv st S
  | .ishl => bI (fun x y => x <<< (y &&& 31)) lv st S
  | .ishr => bI (fun x y => x >>> (y &&& 31)) lv st S
  | .iushr => bI (fun x y => (x.toUInt32 >>> (y.toUInt32 &&& Int32.toUInt32 31)).toInt32) lv st S
  | .ineg => uI (fun x => aI (-x)) lv st S
  | .i2l => uI (fun x => aL x.toInt64) lv st S
  | .i2b => uI (fun x => aI x.toInt8.toInt32) lv st S
  | .l2i => uL (fun x => aI x.toInt32) lv st S
  | .ladd => bL (fun x y => x + y) lv st S
  | .lsub => bL (fun x y => x - y) lv st S
  | .land => bL (fun x y => x &&& y) lv st S
  | .lor => bL (fun x y => x ||| y) lv st S
  | .lxor => bL (fun x y => x ^^^ y) lv st S
  | .lshl => bLI (fun x y => x <<< (y.toInt64 &&& 63)) lv st S
  | .lushr => bLI (fun x y => (x.toUInt64 >>> (y.toInt64.toUInt64 &&& Int64.toUInt64 63)).toInt64) lv st S
  | .lcmp => (match st with
    | .inr (.inr y) :: .inr (.inr x) :: r => some (lv, aI (lg_cmp x y) :: r, S)
    | _ => none)
  | .dup => (match st with
    | .inr (.inl x) :: r => some (lv, aI x :: aI x :: r, S)
    | .inl x :: r => some (lv, aR x :: aR x :: r, S)
    | _ => none)
  | .dup2 => (match st with
    | .inr (.inl x) :: .inl o :: r => some (lv, aI x :: aR o :: aI x :: aR o :: r, S)
    | _ => none)
  | .pop => (match st with
    | .inr (.inl _) :: r => some (lv, r, S)
    | .inl _ :: r => some (lv, r, S)
    | _ => none)
  | .getfield i => gtF y.2.2.2.2.2 B i lv st S
  | .putfield i => ptF y.2.2.2.2.2 B i lv st S
  | _ => none
theorem bI_inv {f : Int32 → Int32 → Int32} {lv lv' : List (Option AV)} {st st' : List AV} {S S' : St} (h : bI f lv st S = some (lv', st', S')) : ∃ x y r, st = aI y :: aI x :: r ∧ lv' = lv ∧ st' = aI (f x y) :: r ∧ S' = S := by
  unfold bI at h
  split at h
  next y x r => cases h; exact ⟨x, y, r, rfl, rfl, rfl, rfl⟩
  next => cases h
theorem bL_inv {f : Int64 → Int64 → Int64} {lv lv' : List (Option AV)} {st st' : List AV} {S S' : St} (h : bL f lv st S = some (lv', st', S')) : ∃ x y r, st = aL y :: aL x :: r ∧ lv' = lv ∧ st' = aL (f x y) :: r ∧ S' = S := by
  unfold bL at h
  split at h
  next y x r => cases h; exact ⟨x, y, r, rfl, rfl, rfl, rfl⟩
  next => cases h
theorem bLI_inv {f : Int64 → Int32 → Int64} {lv lv' : List (Option AV)} {st st' : List AV} {S S' : St} (h : bLI f lv st S = some (lv', st', S')) : ∃ x y r, st = aI y :: aL x :: r ∧ lv' = lv ∧ st' = aL (f x y) :: r ∧ S' = S := by
  unfold bLI at h
  split at h
  next y x r => cases h; exact ⟨x, y, r, rfl, rfl, rfl, rfl⟩
  next => cases h
theorem uI_inv {f : Int32 → AV} {lv lv' : List (Option AV)} {st st' : List AV} {S S' : St} (h : uI f lv st S = some (lv', st', S')) : ∃ x r, st = aI x :: r ∧ lv' = lv ∧ st' = f x :: r ∧ S' = S := by
  unfold uI at h
  split at h
  next x r => cases h; exact ⟨x, r, rfl, rfl, rfl, rfl⟩
  next => cases h
theorem uL_inv {f : Int64 → AV} {lv lv' : List (Option AV)} {st st' : List AV} {S S' : St} (h : uL f lv st S = some (lv', st', S')) : ∃ x r, st = aL x :: r ∧ lv' = lv ∧ st' = f x :: r ∧ S' = S := by
  unfold uL at h
  split at h
  next x r => cases h; exact ⟨x, r, rfl, rfl, rfl, rfl⟩
  next => cases h
theorem ldI_inv {k : Nat} {lv lv' : List (Option AV)} {st st' : List AV} {S S' : St} (h : ldI lv k st S = some (lv', st', S')) : ∃ x, lv[k]? = some (some (aI x)) ∧ lv' = lv ∧ st' = aI x :: st ∧ S' = S := by
  unfold ldI at h
  split at h
  next x hx => cases h; exact ⟨x, hx, rfl, rfl, rfl⟩
  next => cases h
theorem ldL_inv {k : Nat} {lv lv' : List (Option AV)} {st st' : List AV} {S S' : St} (h : ldL lv k st S = some (lv', st', S')) : ∃ x, lv[k]? = some (some (aL x)) ∧ lv' = lv ∧ st' = aL x :: st ∧ S' = S := by
  unfold ldL at h
  split at h
  next x hx => cases h; exact ⟨x, hx, rfl, rfl, rfl⟩
  next => cases h
theorem ldA_inv {k : Nat} {lv lv' : List (Option AV)} {st st' : List AV} {S S' : St} (h : ldA lv k st S = some (lv', st', S')) : ∃ x, lv[k]? = some (some (aR x)) ∧ lv' = lv ∧ st' = aR x :: st ∧ S' = S := by
  unfold ldA at h
  split at h
  next x hx => cases h; exact ⟨x, hx, rfl, rfl, rfl⟩
  next => cases h
theorem soI_inv {nL k : Nat} {lv lv' : List (Option AV)} {st st' : List AV} {S S' : St} (h : soI nL lv k st S = some (lv', st', S')) : ∃ x r, st = aI x :: r ∧ lvP lv k = true ∧ k < nL ∧ lv' = lv.set k (some (aI x)) ∧ st' = r ∧ S' = S := by
  unfold soI at h
  split at h
  next x r =>
    split at h
    next hc =>
      cases h
      rw [Bool.and_eq_true, decide_eq_true_eq] at hc
      exact ⟨x, _, rfl, hc.1, hc.2, rfl, rfl, rfl⟩
    next => cases h
  next => cases h
theorem soA_inv {nL k : Nat} {lv lv' : List (Option AV)} {st st' : List AV} {S S' : St} (h : soA nL lv k st S = some (lv', st', S')) : ∃ x r, st = aR x :: r ∧ lvP lv k = true ∧ k < nL ∧ lv' = lv.set k (some (aR x)) ∧ st' = r ∧ S' = S := by
  unfold soA at h
  split at h
  next x r =>
    split at h
    next hc =>
      cases h
      rw [Bool.and_eq_true, decide_eq_true_eq] at hc
      exact ⟨x, _, rfl, hc.1, hc.2, rfl, rfl, rfl⟩
    next => cases h
  next => cases h
theorem soL_inv {nL k : Nat} {lv lv' : List (Option AV)} {st st' : List AV} {S S' : St} (h : soL nL lv k st S = some (lv', st', S')) : ∃ x r, st = aL x :: r ∧ lvP lv k = true ∧ k + 1 < nL ∧ lv' = (lv.set k (some (aL x))).set (k + 1) none ∧ st' = r ∧ S' = S := by
  unfold soL at h
  split at h
  next x r =>
    split at h
    next hc =>
      cases h
      rw [Bool.and_eq_true, decide_eq_true_eq] at hc
      exact ⟨x, _, rfl, hc.1, hc.2, rfl, rfl, rfl⟩
    next => cases h
  next => cases h
theorem incI_inv {nL k : Nat} {n : Int} {lv lv' : List (Option AV)} {st st' : List AV} {S S' : St} (h : incI nL lv k n st S = some (lv', st', S')) : ∃ x, lv[k]? = some (some (aI x)) ∧ lvP lv k = true ∧ k < nL ∧ lv' = lv.set k (some (aI (x + Int32.ofInt n))) ∧ st' = st ∧ S' = S := by
  unfold incI at h
  split at h
  next x hx =>
    split at h
    next hc =>
      cases h
      rw [Bool.and_eq_true, decide_eq_true_eq] at hc
      exact ⟨x, hx, hc.1, hc.2, rfl, rfl, rfl⟩
    next => cases h
  next => cases h
def fldA (S : St) (o k : Nat) (z : Option Nat) : AV := match z with
  | some q => aR q
  | none => aI (S.1 o k)
theorem fldA_V (ad : Nat → Nat) (S : St) (o k : Nat) (z : Option Nat) : av_V ad (fldA S o k z) = fldV ad (S.1 o) k z := by cases z <;> rfl
theorem gtF_inv {F : List (Nat × Nat × Nat × Nat)} {B : List Sh} {i : Nat} {lv lv' : List (Option AV)} {st st' : List AV} {S S' : St} (h : gtF F B i lv st S = some (lv', st', S')) :
    ∃ o r ci k kd fl z, st = aR o :: r ∧ fAt F i = some (ci, k, kd) ∧ B[o]? = some (.inl (ci, fl)) ∧ fl[k]? = some z ∧ lv' = lv ∧ st' = fldA S o k z :: r ∧ S' = S := by
  unfold gtF at h
  split at h
  next o r =>
    split at h
    next ci k kd hf =>
      split at h
      next cj fl hB =>
        split at h
        next hc =>
          subst hc
          split at h
          next q hq => cases h; exact ⟨o, r, ci, k, kd, fl, some q, rfl, hf, hB, hq, rfl, rfl, rfl⟩
          next hq => cases h; exact ⟨o, r, ci, k, kd, fl, none, rfl, hf, hB, hq, rfl, rfl, rfl⟩
          next => cases h
        next => cases h
      next => cases h
    next => cases h
  next => cases h
theorem ptF_inv {F : List (Nat × Nat × Nat × Nat)} {B : List Sh} {i : Nat} {lv lv' : List (Option AV)} {st st' : List AV} {S S' : St} (h : ptF F B i lv st S = some (lv', st', S')) :
    ∃ v o r ci k kd fl, st = aI v :: aR o :: r ∧ fAt F i = some (ci, k, kd) ∧ B[o]? = some (.inl (ci, fl)) ∧ fl[k]? = some none ∧ (kd = 0 ∨ (kd = 1 ∧ (v = 0 ∨ v = 1))) ∧ lv' = lv ∧ st' = r ∧ S' = puI S o k v := by
  unfold ptF at h
  split at h
  next v o r =>
    split at h
    next ci k kd hf =>
      split at h
      next cj fl hB =>
        split at h
        next hc =>
          subst hc
          split at h
          next hq =>
            split at h
            next hk =>
              cases h
              simp only [Bool.or_eq_true, Bool.and_eq_true, decide_eq_true_eq] at hk
              exact ⟨v, o, _, ci, k, kd, fl, rfl, hf, hB, hq, hk, rfl, rfl, rfl⟩
            next => cases h
          next => cases h
        next => cases h
      next => cases h
    next => cases h
  next => cases h
theorem okM_f {y : Mt} (h : okM y) {i ci k kd : Nat} (hf : fAt y.2.2.2.2.2 i = some (ci, k, kd)) : ∃ r : vw_C, classes[ci]? = some r ∧ k < r.2.2 ∧
    ((Jvm.Cond.fieldLink y.1.cls i (r.2.1 k).1 (r.2.1 k).2.1 (r.2.1 k).2.2.1 ∈ gw) ∨ (Jvm.Cond.fieldLinkNest y.1.cls i (r.2.1 k).1 (r.2.1 k).2.1 (r.2.1 k).2.2.1 nestHost ∈ nw)) ∧
    (kd = 0 → (r.2.1 k).2.2.1 = "I" ∧ (r.2.1 k).2.2.2 = false) ∧ (kd = 1 → (r.2.1 k).2.2.1 = "Z" ∧ (r.2.1 k).2.2.2 = false) := by
  have h1 := List.all_eq_true.mp h.2.1 _ (fAt_in hf)
  unfold fldB at h1
  split at h1
  next r hr =>
    simp only [Bool.and_eq_true, Bool.or_eq_true, decide_eq_true_eq] at h1
    obtain ⟨⟨h2, h3⟩, h4⟩ := h1
    refine ⟨r, hr, h2, ?_, fun e => ?_, fun e => ?_⟩
    · rcases h3 with h3 | h3
      · exact Or.inl (gw_in h3 rfl)
      · exact Or.inr (nw_in h3 rfl)
    · rw [if_pos e] at h4
      exact of_decide_eq_true h4
    · subst e
      rw [if_neg (by decide), if_pos rfl] at h4
      exact of_decide_eq_true h4
  next => cases h1
/-- the length of a simple instruction -/
def spN (i : Instr) : Nat := match i with
  | .bipush _ => 2
  | .sipush _ => 3
  | .iload _ => 2
  | .lload _ => 2
  | .aload _ => 2
  | .istore _ => 2
  | .lstore _ => 2
  | .astore _ => 2
  | .iinc _ _ => 3
  | .getfield _ => 3
  | .putfield _ => 3
  | _ => 1
end
section
/-! a simple instruction, whatever it is -/
section Sp
variable {l : Launch} {B : List Sh} {R : Room} {y : Mt} {Zf : ZF} {kc ks pc : Nat} {lv : List (Option AV)} {st : List AV} {S : St}
theorem e_getf {i t : Nat} {lv' : List (Option AV)} {st' : List AV} {S' : St} (hd : cAt y.2.2.2.2.1 pc = some (.getfield i, 3, t)) (hs : gtF y.2.2.2.2.2 B i lv st S = some (lv', st', S'))
    (k : EE l B R y Zf kc ks (pc + 3) lv' st' S') : EE l B R y Zf kc ks pc lv st S := by
  obtain ⟨o, r, ci, j, kd, fl, z, rfl, hf, hB, hz, rfl, rfl, rfl⟩ := gtF_inv hs
  intro p e s m args below meth c sh ad D cA H locs ls C hP hS hl
  have h := k p e s m args below meth c sh ad D cA H locs ls C hP hS hl
  obtain ⟨hx, hb, hr, hml, hown, hts, hlk, hn, hK, hok, hsh, hi⟩ := id C
  obtain ⟨⟨Cn, T, N⟩, hc, hk, hlink, -⟩ := okM_f hok hf
  obtain ⟨hin, -⟩ := cls_all ci _ hc
  have hv : (fl.mapIdx (fldV ad (S'.1 o)))[j]? = some (fldV ad (S'.1 o) j z) := by
    rw [List.getElem?_mapIdx, hz]; rfl
  rw [List.map_cons, fldA_V] at h
  rcases hlink with hw | hw
  · exact va_get (D := D) (cl := classes) (C := Cn) (T := T) (N := N) hx hb hts hin hown hK hP o (wd_at (sh_pre hsh hB)) hc j hk (hts _ hw) (fun _ h9 => h9) hv (okM_c hok hd).1 h
  · exact va_getN (D := D) (cl := classes) (C := Cn) (T := T) (N := N) hx hb hts hin hown hK hP o (wd_at (sh_pre hsh hB)) hc j hk (va_Nw.use rfl (hn _ hw)) (fun _ h9 => h9) hv (okM_c hok hd).1 h
theorem nar_bool {v : Int32} (h : v = 0 ∨ v = 1) : narrow .boolean (.int v) = .int v := by
  rcases h with rfl | rfl <;> decide
theorem fit_bool {v : Int32} (h : v = 0 ∨ v = 1) : fits .boolean (.int v) = true := by
  rcases h with rfl | rfl <;> decide
theorem e_putf {i t : Nat} {lv' : List (Option AV)} {st' : List AV} {S' : St} (hd : cAt y.2.2.2.2.1 pc = some (.putfield i, 3, t)) (hs : ptF y.2.2.2.2.2 B i lv st S = some (lv', st', S'))
    (k : EE l B R y Zf kc ks (pc + 3) lv' st' S') : EE l B R y Zf kc ks pc lv st S := by
  obtain ⟨v, o, r, ci, j, kd, fl, rfl, hf, hB, hz, hkd, rfl, rfl, rfl⟩ := ptF_inv hs
  intro p e s m args below meth c sh ad D cA H locs ls C hP hS hl
  obtain ⟨hx, hb, hr, hml, hown, hts, hlk, hn, hK, hok, hsh, hi⟩ := id C
  obtain ⟨⟨Cn, T, N⟩, hc, hk, hlink, h0, h1⟩ := okM_f hok hf
  obtain ⟨hin, hnm, ty0, hty⟩ := cls_all ci _ hc
  have hl2 : j < (fl.mapIdx (fldV ad (S.1 o))).length := by
    rw [List.length_mapIdx]; exact (List.getElem?_eq_some_iff.mp hz).1
  have hB' := sh_pre hsh hB
  obtain ⟨ty, hd9, hnr, hft, hfin⟩ : ∃ ty, parseFieldDescriptor (T j).2.2.1 = some ty ∧ narrow ty (.int v) = .int v ∧ fits ty (.int v) = true ∧ (T j).2.2.2 = false := by
    rcases hkd with e | ⟨e, hv⟩
    · exact ⟨.int, by rw [(h0 e).1]; decide +kernel, vp_nar_int v, rfl, (h0 e).2⟩
    · exact ⟨.boolean, by rw [(h1 e).1]; decide +kernel, nar_bool hv, fit_bool hv, (h1 e).2⟩
  have kk : ∀ (H1 : Heap) (locs1 : List Loc), va_P D classes ((wdA ad cA S sh).set o (ad o, .inr (ci, (fl.mapIdx (fldV ad (S.1 o))).set j (.int v)))) H1 → va_D (aA sh.length ad s.heap.size) ((wdA ad cA S sh).set o (ad o, .inr (ci, (fl.mapIdx (fldV ad (S.1 o))).set j (.int v)))) → va_S (aA sh.length ad s.heap.size) s.heap H1 locs1 → W p l e R s m args below meth c H1 locs1 kc ks (Zf below args s sh ad D cA) (F0 m (pc + 3) ls (st'.map (av_V ad))) := by
    intro H1 locs1 hP1 _ hS1
    rw [wd_puI hB' hz] at hP1
    exact k p e s m args below meth c sh ad D cA H1 locs1 ls C hP1 hS1 hl
  rcases hlink with hw | hw
  · exact va_put (D := D) (cl := classes) (C := Cn) (T := T) (N := N) hx hb hts hin ty0 hty hnm hown hK hP (wd_D hi) hS o (wd_at hB') hc j hk (hts _ hw) (fun _ h9 => h9) hfin hd9 hnr hft hl2 (okM_c hok hd).1 kk
  · exact va_putN (D := D) (cl := classes) (C := Cn) (T := T) (N := N) hx hb hts hin ty0 hty hnm hown hK hP (wd_D hi) hS o (wd_at hB') hc j hk (va_Nw.use rfl (hn _ hw)) (fun _ h9 => h9) hfin hd9 hnr hft hl2 (okM_c hok hd).1 kk
theorem e_sp {i : Instr} {n t : Nat} {lv' : List (Option AV)} {st' : List AV} {S' : St} (hd : cAt y.2.2.2.2.1 pc = some (i, n, t)) (hn : spN i = n) (hs : sp y B i lv st S = some (lv', st', S'))
    (k : EE l B R y Zf kc ks (pc + n) lv' st' S') : EE l B R y Zf kc ks pc lv st S := by
  subst hn
  cases i <;> first
    | exact e_getf hd hs k
    | exact e_putf hd hs k
    | (exfalso; simp [sp] at hs; done)
    | (intro p e s m args below meth c sh ad D cA H locs ls C hP hS hl
       have hx := C.1
       have hb := C.2.1
       have hdg := (okM_c C.2.2.2.2.2.2.2.2.2.1 hd).1
       dsimp only [sp] at hs
       first
        | (obtain ⟨x, z, r, rfl, rfl, rfl, rfl⟩ := bI_inv hs
           have h := k p e s m args below meth c sh ad D cA H locs ls C hP hS hl
           first
            | exact lv_iadd hx hb hdg h | exact lv_isub hx hb hdg h | exact lv_imul hx hb hdg h | exact lv_iand hx hb hdg h | exact lv_ior hx hb hdg h | exact lv_ixor hx hb hdg h
            | exact lv_ishl hx hb hdg h | exact lv_ishr hx hb hdg h | exact lv_iushr hx hb hdg rfl h)
        | (obtain ⟨x, z, r, rfl, rfl, rfl, rfl⟩ := bL_inv hs
           have h := k p e s m args below meth c sh ad D cA H locs ls C hP hS hl
           first
            | exact lv_ladd hx hb hdg h | exact lv_lsub hx hb hdg h | exact lv_land hx hb hdg h | exact lv_lor hx hb hdg h | exact lv_lxor hx hb hdg h)
        | (obtain ⟨x, z, r, rfl, rfl, rfl, rfl⟩ := bLI_inv hs
           have h := k p e s m args below meth c sh ad D cA H locs ls C hP hS hl
           first
            | exact lv_lshl hx hb hdg rfl h | exact lv_lushr hx hb hdg rfl h)
        | (obtain ⟨x, r, rfl, rfl, rfl, rfl⟩ := uI_inv hs
           have h := k p e s m args below meth c sh ad D cA H locs ls C hP hS hl
           first
            | exact lv_ineg hx hb hdg h | exact lv_i2l hx hb hdg rfl h | exact lv_i2b hx hb hdg rfl h)
        | (obtain ⟨x, r, rfl, rfl, rfl, rfl⟩ := uL_inv hs
           have h := k p e s m args below meth c sh ad D cA H locs ls C hP hS hl
           exact lv_l2i hx hb hdg rfl h)
        | (obtain ⟨x, hv, rfl, rfl, rfl⟩ := ldI_inv hs
           have h := k p e s m args below meth c sh ad D cA H locs ls C hP hS hl
           first
            | exact lv_iload hx hb hdg (hl.2.2 _ _ hv) h | exact lv_iload_n hx hb hdg rfl (hl.2.2 _ _ hv) h)
        | (obtain ⟨x, hv, rfl, rfl, rfl⟩ := ldL_inv hs
           have h := k p e s m args below meth c sh ad D cA H locs ls C hP hS hl
           first
            | exact lv_lload hx hb hdg (hl.2.2 _ _ hv) h | exact lv_lload_n hx hb hdg rfl (hl.2.2 _ _ hv) h)
        | (obtain ⟨x, hv, rfl, rfl, rfl⟩ := ldA_inv hs
           have h := k p e s m args below meth c sh ad D cA H locs ls C hP hS hl
           first
            | exact lv_aload hx hb hdg (hl.2.2 _ _ hv) h | exact lv_aload_n hx hb hdg rfl (hl.2.2 _ _ hv) h)
        | (obtain ⟨x, r, rfl, hp, hn, rfl, rfl, rfl⟩ := soI_inv hs
           first
            | exact lv_istore hx hb hdg (lh_has hl) hn rfl (fun ls' h' => k p e s m args below meth c sh ad D cA H locs ls' C hP hS (lh_set1 (v := aI x) rfl hp h'))
            | exact lv_istore_n hx hb hdg rfl (lh_has hl) hn rfl (fun ls' h' => k p e s m args below meth c sh ad D cA H locs ls' C hP hS (lh_set1 (v := aI x) rfl hp h')))
        | (obtain ⟨x, r, rfl, hp, hn, rfl, rfl, rfl⟩ := soA_inv hs
           first
            | exact lv_astore hx hb hdg (lh_has hl) hn rfl (fun ls' h' => k p e s m args below meth c sh ad D cA H locs ls' C hP hS (lh_set1 (v := aR x) rfl hp h'))
            | exact lv_astore_n hx hb hdg rfl (lh_has hl) hn rfl (fun ls' h' => k p e s m args below meth c sh ad D cA H locs ls' C hP hS (lh_set1 (v := aR x) rfl hp h')))
        | (obtain ⟨x, r, rfl, hp, hn, rfl, rfl, rfl⟩ := soL_inv hs
           first
            | exact lv_lstore hx hb hdg (lh_has hl) hn rfl (fun ls' h' => k p e s m args below meth c sh ad D cA H locs ls' C hP hS (lh_set2 (v := aL x) rfl hp h'))
            | exact lv_lstore_n hx hb hdg rfl (lh_has hl) hn rfl (fun ls' h' => k p e s m args below meth c sh ad D cA H locs ls' C hP hS (lh_set2 (v := aL x) rfl hp h')))
        | (obtain ⟨x, hv, hp, hn, rfl, rfl, rfl⟩ := incI_inv hs
           obtain ⟨j, hj⟩ := List.getElem?_of_mem (lhL_in (ad := ad) hv)
           exact lv_iinc hx hb hdg (lh_has hl) hj rfl hn rfl (fun ls' h' => k p e s m args below meth c sh ad D cA H locs ls' C hP hS (lh_set1 (v := aI (x + _)) rfl hp h')))
        | (cases hs
           have h := k p e s m args below meth c sh ad D cA H locs ls C hP hS hl
           first
            | exact lv_iconst hx hb hdg rfl h | exact lv_bipush hx hb hdg rfl h | exact lv_sipush hx hb hdg rfl h | exact lv_lconst hx hb hdg rfl h)
        | (split at hs
           next y1 x1 r1 =>
             cases hs
             have h := k p e s m args below meth c sh ad D cA H locs ls C hP hS hl
             first
              | exact W.lcmp hx hb hdg h
              | exact lv_dup2_11 hx hb hdg rfl rfl h
           next => cases hs)
        | (split at hs
           next x1 r1 =>
             cases hs
             have h := k p e s m args below meth c sh ad D cA H locs ls C hP hS hl
             first
              | exact lv_dup hx hb hdg rfl h
              | exact lv_pop (va := .int x1) hx hb hdg rfl h
           next x1 r1 =>
             cases hs
             have h := k p e s m args below meth c sh ad D cA H locs ls C hP hS hl
             first
              | exact lv_dup hx hb hdg rfl h
              | exact lv_pop (va := .ref (ad x1)) hx hb hdg rfl h
           next => cases hs))
theorem e_goto {o : Int} {t : Nat} (hd : cAt y.2.2.2.2.1 pc = some (.goto o, 3, t)) (k : EE l B R y Zf kc ks t lv st S) : EE l B R y Zf kc ks pc lv st S := by
  intro p e s m args below meth c sh ad D cA H locs ls C hP hS hl
  obtain ⟨hdg, hj⟩ := okM_c C.2.2.2.2.2.2.2.2.2.1 hd
  exact lv_goto C.1 C.2.1 hdg (of_decide_eq_true hj) (k p e s m args below meth c sh ad D cA H locs ls C hP hS hl)
def brC (cnd : ClassFile.Cond) (x y : Int32) : Prop := match cnd with
  | .eq => x = y
  | .ne => ¬ x = y
  | .lt => x < y
  | .ge => y ≤ x
  | .gt => y < x
  | .le => x ≤ y
theorem e_icmp {cnd : ClassFile.Cond} {o : Int} {t : Nat} {x z : Int32} (hd : cAt y.2.2.2.2.1 pc = some (.if_icmp cnd o, 3, t)) (kt : brC cnd x z → EE l B R y Zf kc ks t lv st S) (kf : ¬ brC cnd x z → EE l B R y Zf kc ks (pc + 3) lv st S) : EE l B R y Zf kc ks pc lv (aI z :: aI x :: st) S := by
  intro p e s m args below meth c sh ad D cA H locs ls C hP hS hl
  obtain ⟨hdg, hj⟩ := okM_c C.2.2.2.2.2.2.2.2.2.1 hd
  have kt' := fun h => kt h p e s m args below meth c sh ad D cA H locs ls C hP hS hl
  have kf' := fun h => kf h p e s m args below meth c sh ad D cA H locs ls C hP hS hl
  cases cnd
  · exact lv_icmp_eq C.1 C.2.1 hdg (of_decide_eq_true hj) kt' kf'
  · exact lv_icmp_ne C.1 C.2.1 hdg (of_decide_eq_true hj) kt' (fun h => kf' (fun h2 => h2 h))
  · exact lv_icmp_lt C.1 C.2.1 hdg (of_decide_eq_true hj) kt' kf'
  · exact lv_icmp_ge C.1 C.2.1 hdg (of_decide_eq_true hj) kt' kf'
  · exact lv_icmp_gt C.1 C.2.1 hdg (of_decide_eq_true hj) kt' kf'
  · exact lv_icmp_le C.1 C.2.1 hdg (of_decide_eq_true hj) kt' kf'
theorem e_if {cnd : ClassFile.Cond} {o : Int} {t : Nat} {x : Int32} (hd : cAt y.2.2.2.2.1 pc = some (.ifCond cnd o, 3, t)) (kt : brC cnd x 0 → EE l B R y Zf kc ks t lv st S) (kf : ¬ brC cnd x 0 → EE l B R y Zf kc ks (pc + 3) lv st S) : EE l B R y Zf kc ks pc lv (aI x :: st) S := by
  intro p e s m args below meth c sh ad D cA H locs ls C hP hS hl
  obtain ⟨hdg, hj⟩ := okM_c C.2.2.2.2.2.2.2.2.2.1 hd
  have kt' := fun h => kt h p e s m args below meth c sh ad D cA H locs ls C hP hS hl
  have kf' := fun h => kf h p e s m args below meth c sh ad D cA H locs ls C hP hS hl
  cases cnd
  · exact lv_if_eq C.1 C.2.1 hdg (of_decide_eq_true hj) kt' kf'
  · exact lv_if_ne C.1 C.2.1 hdg (of_decide_eq_true hj) kt' (fun h => kf' (fun h2 => h2 h))
  · exact lv_if_lt C.1 C.2.1 hdg (of_decide_eq_true hj) kt' kf'
  · exact lv_if_ge C.1 C.2.1 hdg (of_decide_eq_true hj) kt' kf'
  · exact lv_if_gt C.1 C.2.1 hdg (of_decide_eq_true hj) kt' kf'
  · exact lv_if_le C.1 C.2.1 hdg (of_decide_eq_true hj) kt' kf'
theorem e_div {t : Nat} {x z : Int32} (hd : cAt y.2.2.2.2.1 pc = some (.idiv, 1, t)) (hz : ¬ z = 0) (k : EE l B R y Zf kc ks (pc + 1) lv (aI (x / z) :: st) S) : EE l B R y Zf kc ks pc lv (aI z :: aI x :: st) S := by
  intro p e s m args below meth c sh ad D cA H locs ls C hP hS hl
  exact lv_idiv C.1 C.2.1 (okM_c C.2.2.2.2.2.2.2.2.2.1 hd).1 hz (k p e s m args below meth c sh ad D cA H locs ls C hP hS hl)
theorem e_rem {t : Nat} {x z : Int32} (hd : cAt y.2.2.2.2.1 pc = some (.irem, 1, t)) (hz : ¬ z = 0) (k : EE l B R y Zf kc ks (pc + 1) lv (aI (x - x / z * z) :: st) S) : EE l B R y Zf kc ks pc lv (aI z :: aI x :: st) S := by
  intro p e s m args below meth c sh ad D cA H locs ls C hP hS hl
  exact lv_irem C.1 C.2.1 (okM_c C.2.2.2.2.2.2.2.2.2.1 hd).1 hz (k p e s m args below meth c sh ad D cA H locs ls C hP hS hl)
/-! arrays -/
theorem e_iald {t o n : Nat} {i : Int32} (hd : cAt y.2.2.2.2.1 pc = some (.iaload, 1, t)) (hB : B[o]? = some (.inr (.int, n))) (hin : vp_in i n) (k : EE l B R y Zf kc ks (pc + 1) lv (aI (S.1 o i.toNatClampNeg) :: st) S) : EE l B R y Zf kc ks pc lv (aI i :: aR o :: st) S := by
  intro p e s m args below meth c sh ad D cA H locs ls C hP hS hl
  obtain ⟨hx, hb, hr, hml, hown, hts, hlk, hn, hK, hok, hsh, hi⟩ := id C
  exact va_iald hx hb hK hP o 0 (wd_at (sh_pre hsh hB)) rfl hin (okM_c hok hd).1 (k p e s m args below meth c sh ad D cA H locs ls C hP hS hl)
theorem e_bald {t o n : Nat} {i : Int32} (hd : cAt y.2.2.2.2.1 pc = some (.baload, 1, t)) (hB : B[o]? = some (.inr (.byte, n))) (hin : vp_in i n) (k : EE l B R y Zf kc ks (pc + 1) lv (aI (S.1 o i.toNatClampNeg) :: st) S) : EE l B R y Zf kc ks pc lv (aI i :: aR o :: st) S := by
  intro p e s m args below meth c sh ad D cA H locs ls C hP hS hl
  obtain ⟨hx, hb, hr, hml, hown, hts, hlk, hn, hK, hok, hsh, hi⟩ := id C
  exact va_bald hx hb hK hP o 2 (wd_at (sh_pre hsh hB)) rfl hin (okM_c hok hd).1 (k p e s m args below meth c sh ad D cA H locs ls C hP hS hl)
theorem e_zald {t o n : Nat} {i : Int32} (hd : cAt y.2.2.2.2.1 pc = some (.baload, 1, t)) (hB : B[o]? = some (.inr (.boolean, n))) (hin : vp_in i n) (k : EE l B R y Zf kc ks (pc + 1) lv (aI (S.1 o i.toNatClampNeg) :: st) S) : EE l B R y Zf kc ks pc lv (aI i :: aR o :: st) S := by
  intro p e s m args below meth c sh ad D cA H locs ls C hP hS hl
  obtain ⟨hx, hb, hr, hml, hown, hts, hlk, hn, hK, hok, hsh, hi⟩ := id C
  exact va_zald hx hb hK hP o 3 (wd_at (sh_pre hsh hB)) rfl hin (okM_c hok hd).1 (k p e s m args below meth c sh ad D cA H locs ls C hP hS hl)
theorem e_lald {t o n : Nat} {i : Int32} (hd : cAt y.2.2.2.2.1 pc = some (.laload, 1, t)) (hB : B[o]? = some (.inr (.long, n))) (hin : vp_in i n) (k : EE l B R y Zf kc ks (pc + 1) lv (aL (S.2 o i.toNatClampNeg) :: st) S) : EE l B R y Zf kc ks pc lv (aI i :: aR o :: st) S := by
  intro p e s m args below meth c sh ad D cA H locs ls C hP hS hl
  obtain ⟨hx, hb, hr, hml, hown, hts, hlk, hn, hK, hok, hsh, hi⟩ := id C
  exact va_lald hx hb hK hP o 1 (wd_at (sh_pre hsh hB)) rfl hin (okM_c hok hd).1 (k p e s m args below meth c sh ad D cA H locs ls C hP hS hl)
theorem e_iast {t o n : Nat} {i v : Int32} (hd : cAt y.2.2.2.2.1 pc = some (.iastore, 1, t)) (hB : B[o]? = some (.inr (.int, n))) (hin : vp_in i n) (k : EE l B R y Zf kc ks (pc + 1) lv st (puI S o i.toNatClampNeg v)) : EE l B R y Zf kc ks pc lv (aI v :: aI i :: aR o :: st) S := by
  intro p e s m args below meth c sh ad D cA H locs ls C hP hS hl
  obtain ⟨hx, hb, hr, hml, hown, hts, hlk, hn, hK, hok, hsh, hi⟩ := id C
  refine va_iast hx hb hK hP (wd_D hi) hS o 0 (wd_at (sh_pre hsh hB)) rfl hin (okM_c hok hd).1 (fun H1 locs1 hP1 _ hS1 => ?_)
  have e9 := wd_arI (ad := ad) (cA := cA) (S := S) (k := i.toNatClampNeg) (v := v) (sh_pre hsh hB) (fun h => by cases h)
  rw [e9] at hP1
  exact k p e s m args below meth c sh ad D cA H1 locs1 ls C hP1 hS1 hl
theorem e_bast {t o n : Nat} {i v : Int32} (hd : cAt y.2.2.2.2.1 pc = some (.bastore, 1, t)) (hB : B[o]? = some (.inr (.byte, n))) (hin : vp_in i n) (k : EE l B R y Zf kc ks (pc + 1) lv st (puI S o i.toNatClampNeg (vp_nar .byte v))) : EE l B R y Zf kc ks pc lv (aI v :: aI i :: aR o :: st) S := by
  intro p e s m args below meth c sh ad D cA H locs ls C hP hS hl
  obtain ⟨hx, hb, hr, hml, hown, hts, hlk, hn, hK, hok, hsh, hi⟩ := id C
  refine va_bast hx hb hK hP (wd_D hi) hS o 2 (wd_at (sh_pre hsh hB)) rfl hin (okM_c hok hd).1 (fun H1 locs1 hP1 _ hS1 => ?_)
  have e9 := wd_arI (ad := ad) (cA := cA) (S := S) (k := i.toNatClampNeg) (v := vp_nar .byte v) (sh_pre hsh hB) (fun h => by cases h)
  rw [e9] at hP1
  exact k p e s m args below meth c sh ad D cA H1 locs1 ls C hP1 hS1 hl
theorem e_zast {t o n : Nat} {i v : Int32} (hd : cAt y.2.2.2.2.1 pc = some (.bastore, 1, t)) (hB : B[o]? = some (.inr (.boolean, n))) (hin : vp_in i n) (k : EE l B R y Zf kc ks (pc + 1) lv st (puI S o i.toNatClampNeg (vp_nar .boolean v))) : EE l B R y Zf kc ks pc lv (aI v :: aI i :: aR o :: st) S := by
  intro p e s m args below meth c sh ad D cA H locs ls C hP hS hl
  obtain ⟨hx, hb, hr, hml, hown, hts, hlk, hn, hK, hok, hsh, hi⟩ := id C
  refine va_zast hx hb hK hP (wd_D hi) hS o 3 (wd_at (sh_pre hsh hB)) rfl hin (okM_c hok hd).1 (fun H1 locs1 hP1 _ hS1 => ?_)
  have e9 := wd_arI (ad := ad) (cA := cA) (S := S) (k := i.toNatClampNeg) (v := vp_nar .boolean v) (sh_pre hsh hB) (fun h => by cases h)
  rw [e9] at hP1
  exact k p e s m args below meth c sh ad D cA H1 locs1 ls C hP1 hS1 hl
theorem e_last {t o n : Nat} {i : Int32} {v : Int64} (hd : cAt y.2.2.2.2.1 pc = some (.lastore, 1, t)) (hB : B[o]? = some (.inr (.long, n))) (hin : vp_in i n) (k : EE l B R y Zf kc ks (pc + 1) lv st (puL S o i.toNatClampNeg v)) : EE l B R y Zf kc ks pc lv (aL v :: aI i :: aR o :: st) S := by
  intro p e s m args below meth c sh ad D cA H locs ls C hP hS hl
  obtain ⟨hx, hb, hr, hml, hown, hts, hlk, hn, hK, hok, hsh, hi⟩ := id C
  refine va_last hx hb hK hP (wd_D hi) hS o 1 (wd_at (sh_pre hsh hB)) rfl hin (okM_c hok hd).1 (fun H1 locs1 hP1 _ hS1 => ?_)
  have e9 := wd_arL (ad := ad) (cA := cA) (S := S) (k := i.toNatClampNeg) (v := v) (sh_pre hsh hB)
  rw [e9] at hP1
  exact k p e s m args below meth c sh ad D cA H1 locs1 ls C hP1 hS1 hl
theorem e_alen {t o n : Nat} {ty : FieldType} (hd : cAt y.2.2.2.2.1 pc = some (.arraylength, 1, t)) (hB : B[o]? = some (.inr (ty, n))) (hty : ty = .int ∨ ty = .long ∨ ty = .byte ∨ ty = .boolean) (k : EE l B R y Zf kc ks (pc + 1) lv (aI (nI n) :: st) S) : EE l B R y Zf kc ks pc lv (aR o :: st) S := by
  intro p e s m args below meth c sh ad D cA H locs ls C hP hS hl
  obtain ⟨hx, hb, hr, hml, hown, hts, hlk, hn, hK, hok, hsh, hi⟩ := id C
  have h := k p e s m args below meth c sh ad D cA H locs ls C hP hS hl
  rcases hty with rfl | rfl | rfl | rfl
  · exact va_alen hx hb hK hP o 0 (wd_at (sh_pre hsh hB)) rfl rfl (okM_c hok hd).1 h
  · exact va_alen hx hb hK hP o 1 (wd_at (sh_pre hsh hB)) rfl rfl (okM_c hok hd).1 h
  · exact va_alen hx hb hK hP o 2 (wd_at (sh_pre hsh hB)) rfl rfl (okM_c hok hd).1 h
  · exact va_alen hx hb hK hP o 3 (wd_at (sh_pre hsh hB)) rfl rfl (okM_c hok hd).1 h
end Sp
end
section
/-! answers, calls, beginnings -/
/-- frames and locals -/
def rmD (d : Nat × Nat) : Room := { frames := d.1, cells := 0, slots := 0, locals := d.2 }
def QcA (Q : Option AV → St → Prop) (sh : List Sh) (ad : Nat → Nat) (D : va_G) (cA : FieldType → ClassId) : Array Value → State → Outcome → State → Prop := fun _ st oc t =>
  (∃ (r : Option AV) (S' : St), oc = .returned (r.map (av_V ad)) ∧ Q r S' ∧ va_P D classes (wdA ad cA S' sh) t.heap ∧ va_K D classes (tysA cA) t) ∧ va_F (aA sh.length ad st.heap.size) st t
def zR (Q : Option AV → St → Prop) (mc ms : Nat) : ZF := fun below args s sh ad D cA => MQ below (QcA Q sh ad D cA) args s mc ms (aA sh.length ad s.heap.size)
def wsM (z : Mt) : List Jvm.Cond := .code z.1 z.2.1 z.2.2.1 z.2.2.2.1 :: gw
def PcA (av : List AV) (S : St) (sh : List Sh) (ad : Nat → Nat) (D : va_G) (cA : FieldType → ClassId) (sz : Nat) : Array Value → State → Prop :=
  va_Pc (av.map (av_V ad)) (fun U => U.heap.size = sz ∧ va_P D classes (wdA ad cA S sh) U.heap ∧ va_K D classes (tysA cA) U ∧ nOK U)
/-- a method's contract: at depth d, with these arguments over this store it returns, as Q says -/
def KK (l : Launch) (B : List Sh) (d : Nat × Nat) (z : Mt) (av : List AV) (S : St) (Q : Option AV → St → Prop) : Prop :=
  ∀ (sh : List Sh) (ad : Nat → Nat) (D : va_G) (cA : FieldType → ClassId) (sz : Nat), (∃ sh', sh = B ++ sh') → (∀ i j, i < sh.length → j < sh.length → ad i = ad j → i = j) →
    Met l z.1 (wsM z) (rmD d) (PcA av S sh ad D cA sz) (QcA Q sh ad D cA) 0 0 (aA sh.length ad sz)
abbrev E0 (l : Launch) (B : List Sh) (d : Nat × Nat) (y : Mt) (pc : Nat) (lv : List (Option AV)) (st : List AV) (S : St) (Q : Option AV → St → Prop) : Prop := EE l B (rmD d) y (zR Q 0 0) 0 0 pc lv st S
theorem k_start {l : Launch} {B : List Sh} {d : Nat × Nat} {z : Mt} {av : List AV} {S : St} {Q : Option AV → St → Prop} (hz : okM z) (hn : (lvArgs av).length ≤ z.2.2.1) (he : E0 l B d z 0 (lvIn av z.2.2.1) [] S Q) : KK l B d z av S Q := by
  intro sh ad D cA sz hB hi
  refine va_MetF (cc := z.2.1) (maxL := z.2.2.1) (ret := z.2.2.2.1) hz.2.2.2 rfl ?_
  intro p e s m args below meth c s₁ Bd hml hv
  obtain ⟨rfl, hsz, hP, hK, hno⟩ := hv
  subst hsz
  rw [lg_entry_eq]
  have hts0 := atoms_spec (ws := wsM z) Bd.pre
  exact he p e s m _ below meth c sh ad D cA s.heap [] _ ⟨Bd.exec, Bd.bytes, Bd.returns, hml, findClass_of_methodNamed Bd.named, fun w hw => hts0 w (List.mem_cons_of_mem _ hw), Bd.notSynchronized, hno, hK, hz, hB, hi⟩ hP va_S.rf (lh_entry ad av hn)
section Ends
variable {l : Launch} {B : List Sh} {R : Room} {y : Mt} {kc ks pc mc ms : Nat} {lv : List (Option AV)} {S : St} {Q : Option AV → St → Prop}
theorem e_iret {t : Nat} {v : Int32} (hd : cAt y.2.2.2.2.1 pc = some (.ireturn, 1, t)) (hrt : y.2.2.2.1 = some .int) (h1 : kc ≤ mc) (h2 : ks ≤ ms) (hq : Q (some (aI v)) S) : EE l B R y (zR Q mc ms) kc ks pc lv [aI v] S := by
  intro p e s m args below meth c sh ad D cA H locs ls C hP hS hl
  obtain ⟨hx, hb, hr, hml, hown, hts, hlk, hn, hK, hok, hsh, hi⟩ := id C
  refine W.widen h1 h2 ?_
  exact W.iret hx hb (hr.trans hrt) (fun t ht hW => ⟨⟨some (aI v), S, rfl, hq, by rw [ht]; exact hP, va_K.moved hW.alike hK⟩, hS.F ht⟩) hS.2.2 (okM_c hok hd).1
theorem e_zret {t : Nat} {v : Int32} (hd : cAt y.2.2.2.2.1 pc = some (.ireturn, 1, t)) (hrt : y.2.2.2.1 = some .boolean) (h1 : kc ≤ mc) (h2 : ks ≤ ms) (hv : v = 0 ∨ v = 1) (hq : Q (some (aI v)) S) : EE l B R y (zR Q mc ms) kc ks pc lv [aI v] S := by
  intro p e s m args below meth c sh ad D cA H locs ls C hP hS hl
  obtain ⟨hx, hb, hr, hml, hown, hts, hlk, hn, hK, hok, hsh, hi⟩ := id C
  refine W.widen h1 h2 ?_
  exact W.zret hx hb (hr.trans hrt) (nar_bool hv) (fun t ht hW => ⟨⟨some (aI v), S, rfl, hq, by rw [ht]; exact hP, va_K.moved hW.alike hK⟩, hS.F ht⟩) hS.2.2 (okM_c hok hd).1
theorem e_vret {t : Nat} (hd : cAt y.2.2.2.2.1 pc = some (.return_, 1, t)) (hrt : y.2.2.2.1 = none) (h1 : kc ≤ mc) (h2 : ks ≤ ms) (hq : Q none S) : EE l B R y (zR Q mc ms) kc ks pc lv [] S := by
  intro p e s m args below meth c sh ad D cA H locs ls C hP hS hl
  obtain ⟨hx, hb, hr, hml, hown, hts, hlk, hn, hK, hok, hsh, hi⟩ := id C
  refine W.widen h1 h2 ?_
  exact W.vret hx hb (hr.trans hrt) (fun t ht hW => ⟨⟨none, S, rfl, hq, by rw [ht]; exact hP, va_K.moved hW.alike hK⟩, hS.F ht⟩) hS.2.2 (okM_c hok hd).1
end Ends
theorem pcA_blind {av : List AV} {S : St} {sh : List Sh} {ad : Nat → Nat} {D : va_G} {cA : FieldType → ClassId} {sz : Nat} : FrameBlind (PcA av S sh ad D cA sz) := by
  intro a U g mk q
  obtain ⟨q0, q1, q2, q3, q4⟩ := q
  exact ⟨q0, q1, q2, va_K.moved (u := U) (U := U.calling g mk a) (Vm.Alike.refl U.vm) q3, nOK.vm (s := U) (U := U.calling g mk a) rfl q4⟩
theorem a_call {p : Program} {l : Launch} {e : Env} {R : Room} {s : State} {m : MethodId} {args a : Array Value} {below : List Frame} {meth : Method} {c : Code} {H : Heap} {locs : List Loc} {kc ks pc : Nat} {Z : State → Prop} {ls : Array Slot} {st0 rest : List Value}
    {sh : List Sh} {ad : Nat → Nat} {D : va_G} {cA : FieldType → ClassId} {Q : Option AV → St → Prop}
    (hr : va_Run p l e R s m args below meth c H locs kc ks 0 0 (F0 m pc ls st0) rest (QcA Q sh ad D cA a) (aA sh.length ad H.size)) (hS : va_S (aA sh.length ad s.heap.size) s.heap H locs)
    (kk : ∀ (r : Option AV) (S' : St) (H1 : Heap) (locs1 : List Loc), Q r S' → va_P D classes (wdA ad cA S' sh) H1 → va_S (aA sh.length ad s.heap.size) s.heap H1 locs1 → W p l e R s m args below meth c H1 locs1 kc ks Z (F0 m (pc + 3) ls ((r.map (av_V ad)).toList ++ rest))) :
    W p l e R s m args below meth c H locs kc ks Z (F0 m pc ls st0) := by
  intro T hT X
  obtain ⟨v, st₀, t, T', L, h0, X', hL, e1, e2, ⟨⟨r, S', hv, hq, hp, hk⟩, hz, hkk⟩, st⟩ := hr T hT X
  cases hv
  rw [h0] at hz hkk
  have hA : ∀ q, aA sh.length ad H.size q → aA sh.length ad s.heap.size q := fun q h => by
    rcases h with h | h
    · exact Or.inl h
    · exact Or.inr (Nat.le_trans hS.1 h)
  obtain ⟨t2, a1, b1⟩ := kk r S' T'.heap (locs ++ L) hq (by rw [e1]; exact hp)
    ⟨Nat.le_trans hS.1 (by rw [e1]; exact hz), fun q h1 h2 => by rw [e1, hkk q (Nat.lt_of_lt_of_le h1 hS.1) (fun z => h2 (hA q z))]; exact hS.2.1 q h1 h2, fun q hq => by
      rcases List.mem_append.mp hq with h | h
      · exact hS.2.2 q h
      · exact hA _ (hL q h)⟩ T' rfl X'
  exact ⟨t2, st t2 a1, b1⟩
def notMH (z : MethodName) (n : Nat) : Prop := z.cls ≠ "java/lang/invoke/MethodHandle" ∧ z.cls ≠ "java/lang/invoke/VarHandle" ∧ (parseMethodDescriptor z.desc).map (fun d => d.parameters.length) = some n
/-- what the tables say of a call: virtual, static, static of a nest mate -/
def lkV (own : String) (i : Nat) (z : Mt) (n : Nat) : Prop := Jvm.Cond.methodLink own i z.1 ∈ lw_tbl ∧ Jvm.Cond.instanceMethod z.1 ∈ lw_tbl ∧ Jvm.Cond.selects z.1.cls z.1 z.1 ∈ lw_tbl ∧ Jvm.Cond.initialized z.1.cls ∈ lw_tbl ∧ notMH z.1 n
def lkS (own : String) (i : Nat) (z : Mt) (n : Nat) : Prop := Jvm.Cond.methodLink own i z.1 ∈ lw_tbl ∧ Jvm.Cond.static z.1 ∈ lw_tbl ∧ Jvm.Cond.initialized z.1.cls ∈ lw_tbl ∧ notMH z.1 n
def lkN (own : String) (i : Nat) (z : Mt) (n : Nat) : Prop := Jvm.Cond.methodLinkNest own i z.1 nestHost ∈ lw_tbl ∧ Jvm.Cond.static z.1 ∈ lw_tbl ∧ Jvm.Cond.initialized z.1.cls ∈ lw_tbl ∧ notMH z.1 n
def lkW (own : String) (i : Nat) (z : Mt) (n : Nat) : Prop := Jvm.Cond.methodLinkNest own i z.1 nestHost ∈ lw_tbl ∧ Jvm.Cond.instanceMethod z.1 ∈ lw_tbl ∧ Jvm.Cond.selects z.1.cls z.1 z.1 ∈ lw_tbl ∧ Jvm.Cond.initialized z.1.cls ∈ lw_tbl ∧ notMH z.1 n
section Calls9
variable {l : Launch} {B : List Sh} {R : Room} {y z : Mt} {Zf : ZF} {kc ks pc i t n : Nat} {d : Nat × Nat} {lv : List (Option AV)} {st as rest : List AV} {S : St} {Q : Option AV → St → Prop}
theorem map_rev (ad : Nat → Nat) (as rest : List AV) : (as.reverse ++ rest).map (av_V ad) = (as.map (av_V ad)).reverse ++ rest.map (av_V ad) := by
  rw [List.map_append, List.map_reverse]
theorem gw_wsM (hz : okM z) : GoodIn gw (wsM z) := fun w hw => by
  rcases List.mem_cons.mp hw with rfl | h
  · exact gw_good hz.2.2.1
  · exact gw_good h
theorem pcA_pre {p : Program} {s : State} {m : MethodId} {args : Array Value} {meth : Method} {c : Code} {sh : List Sh} {ad : Nat → Nat} {D : va_G} {cA : FieldType → ClassId} {H : Heap} (C : Cx B y p s m args meth c sh ad D cA) (hP : va_P D classes (wdA ad cA S sh) H) (as : List AV) : ∀ U : State, U.heap = H → s.WarmedH U.vm → PcA as S sh ad D cA H.size (as.map (av_V ad)).toArray U := by
  intro U hU hW
  obtain ⟨hx, hb, hr, hml, hown, hts, hlk, hn, hK, hok, hsh, hi⟩ := id C
  exact ⟨rfl, by rw [hU], by rw [hU]; exact hP, va_K.moved hW.alike hK, hn.warm hW⟩
theorem e_callV {o ci : Nat} {fl : List (Option Nat)} (hz : okM z) (hd : cAt y.2.2.2.2.1 pc = some (.invokevirtual i, 3, t)) (hl : lkV y.1.cls i z n) (hB : B[o]? = some (.inl (ci, fl))) (hci : (classes[ci]?).map (fun r => r.1) = some z.1.cls)
    (hK : KK l B d z (aR o :: as) S Q) (hlen : as.length = n) (hst : st = as.reverse ++ aR o :: rest) (hR : d.1 + 1 ≤ R.frames ∧ 8 + (z.2.2.1 + 11) + d.2 ≤ R.locals) (hc : kc ≤ R.cells ∧ ks ≤ R.slots) (hrest : (rest.map av_c).sum ≤ 8)
    (kk : ∀ (r : Option AV) (S' : St), Q r S' → EE l B R y Zf kc ks (pc + 3) lv (r.toList ++ rest) S') : EE l B R y Zf kc ks pc lv st S := by
  subst hst
  intro p e s m args below meth c sh ad D cA H locs ls C hP hS hlh
  obtain ⟨hx, hb, hr, hml, hown, hts, hlk, hn, hKw, hok, hsh, hi⟩ := id C
  obtain ⟨w1, w2, w3, w4, w5⟩ := hl
  obtain ⟨rc, hrc, hrn⟩ := Option.map_eq_some_iff.mp hci
  have hM := hK sh ad D cA H.size hsh hi
  have hG : GoodIn gw (wsV y.1.cls i z.1.cls z.1 (wsM z)) := fun w hw => by
    unfold wsV at hw
    rcases List.mem_append.mp hw with h | h
    · simp only [List.mem_cons, List.not_mem_nil, or_false] at h
      rcases h with rfl | rfl | rfl | rfl
      · exact gw_good (gw_in w1 rfl)
      · exact gw_good (gw_in w2 rfl)
      · exact gw_good (gw_in w3 rfl)
      · exact gw_good (gw_in w4 rfl)
    · exact gw_wsM hz w h
  rw [map_rev, List.map_cons]
  refine a_call (va_runV (C := z.1.cls) (As := as.map (av_V ad)) (rest := rest.map (av_V ad)) ⟨hx, hb, hml, hown, hts⟩ hM (cwV n hts hG rfl rfl rfl ⟨rfl, w5⟩ hR) ⟨pcA_blind, ?_, pcA_pre C hP (aR o :: as)⟩ rfl (by rw [List.length_map]; exact hlen) hlh.1 rfl (lv_room (by rw [av_cats]; exact hrest)) (okM_c hok hd).1 ⟨hc.1, hc.2⟩) hS (fun r S' H1 locs1 hq hP1 hS1 => ?_)
  · obtain ⟨cell, g1, g2, g3⟩ := va_recv hKw hP hrc (wd_at (sh_pre hsh hB))
    exact ⟨cell, g1, g2, by rw [← hrn]; exact g3⟩
  · have h := kk r S' hq p e s m args below meth c sh ad D cA H1 locs1 ls C hP1 hS1 hlh
    rw [List.map_append] at h
    cases r <;> exact h
theorem e_callW {o ci : Nat} {fl : List (Option Nat)} (hz : okM z) (hd : cAt y.2.2.2.2.1 pc = some (.invokevirtual i, 3, t)) (hl : lkW y.1.cls i z n) (hB : B[o]? = some (.inl (ci, fl))) (hci : (classes[ci]?).map (fun r => r.1) = some z.1.cls)
    (hK : KK l B d z (aR o :: as) S Q) (hlen : as.length = n) (hst : st = as.reverse ++ aR o :: rest) (hR : d.1 + 1 ≤ R.frames ∧ 8 + (z.2.2.1 + 11) + d.2 ≤ R.locals) (hc : kc ≤ R.cells ∧ ks ≤ R.slots) (hrest : (rest.map av_c).sum ≤ 8)
    (kk : ∀ (r : Option AV) (S' : St), Q r S' → EE l B R y Zf kc ks (pc + 3) lv (r.toList ++ rest) S') : EE l B R y Zf kc ks pc lv st S := by
  subst hst
  intro p e s m args below meth c sh ad D cA H locs ls C hP hS hlh
  obtain ⟨hx, hb, hr, hml, hown, hts, hlk, hn, hKw, hok, hsh, hi⟩ := id C
  obtain ⟨w1, w2, w3, w4, w5⟩ := hl
  obtain ⟨rc, hrc, hrn⟩ := Option.map_eq_some_iff.mp hci
  have hM := hK sh ad D cA H.size hsh hi
  rw [map_rev, List.map_cons]
  refine a_call (va_runVN (C := z.1.cls) (As := as.map (av_V ad)) (rest := rest.map (av_V ad)) ⟨hx, hb, hml, hown, hts⟩ hM ⟨va_cnB n hts (gw_wsM hz) rfl rfl rfl (hn _ (nw_in w1 rfl)) (hts _ (gw_in w4 rfl)) w5 hR, hts _ (gw_in w2 rfl), hts _ (gw_in w3 rfl)⟩ ⟨pcA_blind, ?_, pcA_pre C hP (aR o :: as)⟩ rfl (by rw [List.length_map]; exact hlen) hlh.1 rfl (lv_room (by rw [av_cats]; exact hrest)) (okM_c hok hd).1 ⟨hc.1, hc.2⟩) hS (fun r S' H1 locs1 hq hP1 hS1 => ?_)
  · obtain ⟨cell, g1, g2, g3⟩ := va_recv hKw hP hrc (wd_at (sh_pre hsh hB))
    exact ⟨cell, g1, g2, by rw [← hrn]; exact g3⟩
  · have h := kk r S' hq p e s m args below meth c sh ad D cA H1 locs1 ls C hP1 hS1 hlh
    rw [List.map_append] at h
    cases r <;> exact h
theorem e_callS (hz : okM z) (hd : cAt y.2.2.2.2.1 pc = some (.invokestatic i, 3, t)) (hl : lkS y.1.cls i z n)
    (hK : KK l B d z as S Q) (hlen : as.length = n) (hst : st = as.reverse ++ rest) (hR : d.1 + 1 ≤ R.frames ∧ 8 + (z.2.2.1 + 11) + d.2 ≤ R.locals) (hc : kc ≤ R.cells ∧ ks ≤ R.slots) (hrest : (rest.map av_c).sum ≤ 8)
    (kk : ∀ (r : Option AV) (S' : St), Q r S' → EE l B R y Zf kc ks (pc + 3) lv (r.toList ++ rest) S') : EE l B R y Zf kc ks pc lv st S := by
  subst hst
  intro p e s m args below meth c sh ad D cA H locs ls C hP hS hlh
  obtain ⟨hx, hb, hr, hml, hown, hts, hlk, hn, hKw, hok, hsh, hi⟩ := id C
  obtain ⟨w1, w2, w4, w5⟩ := hl
  have hM := hK sh ad D cA H.size hsh hi
  have hG : GoodIn gw (va_wsS y.1.cls i z.1 (wsM z)) := fun w hw => by
    unfold va_wsS at hw
    rcases List.mem_append.mp hw with h | h
    · simp only [List.mem_cons, List.not_mem_nil, or_false] at h
      rcases h with rfl | rfl | rfl
      · exact gw_good (gw_in w1 rfl)
      · exact gw_good (gw_in w2 rfl)
      · exact gw_good (gw_in w4 rfl)
    · exact gw_wsM hz w h
  rw [map_rev]
  refine a_call (va_runS (As := as.map (av_V ad)) (rest := rest.map (av_V ad)) ⟨hx, hb, hml, hown, hts⟩ hM (va_cwS n hts hG rfl rfl rfl w5 hR) ⟨pcA_blind, pcA_pre C hP as⟩ rfl (by rw [List.length_map]; exact hlen) hlh.1 rfl (lv_room (by rw [av_cats]; exact hrest)) (okM_c hok hd).1 ⟨hc.1, hc.2⟩) hS (fun r S' H1 locs1 hq hP1 hS1 => ?_)
  have h := kk r S' hq p e s m args below meth c sh ad D cA H1 locs1 ls C hP1 hS1 hlh
  rw [List.map_append] at h
  cases r <;> exact h
theorem e_callN (hz : okM z) (hd : cAt y.2.2.2.2.1 pc = some (.invokestatic i, 3, t)) (hl : lkN y.1.cls i z n)
    (hK : KK l B d z as S Q) (hlen : as.length = n) (hst : st = as.reverse ++ rest) (hR : d.1 + 1 ≤ R.frames ∧ 8 + (z.2.2.1 + 11) + d.2 ≤ R.locals) (hc : kc ≤ R.cells ∧ ks ≤ R.slots) (hrest : (rest.map av_c).sum ≤ 8)
    (kk : ∀ (r : Option AV) (S' : St), Q r S' → EE l B R y Zf kc ks (pc + 3) lv (r.toList ++ rest) S') : EE l B R y Zf kc ks pc lv st S := by
  subst hst
  intro p e s m args below meth c sh ad D cA H locs ls C hP hS hlh
  obtain ⟨hx, hb, hr, hml, hown, hts, hlk, hn, hKw, hok, hsh, hi⟩ := id C
  obtain ⟨w1, w2, w4, w5⟩ := hl
  have hM := hK sh ad D cA H.size hsh hi
  rw [map_rev]
  refine a_call (va_runSN (As := as.map (av_V ad)) (rest := rest.map (av_V ad)) ⟨hx, hb, hml, hown, hts⟩ hM ⟨va_cnB n hts (gw_wsM hz) rfl rfl rfl (hn _ (nw_in w1 rfl)) (hts _ (gw_in w4 rfl)) w5 hR, hts _ (gw_in w2 rfl), trivial⟩ ⟨pcA_blind, pcA_pre C hP as⟩ rfl (by rw [List.length_map]; exact hlen) hlh.1 rfl (lv_room (by rw [av_cats]; exact hrest)) (okM_c hok hd).1 ⟨hc.1, hc.2⟩) hS (fun r S' H1 locs1 hq hP1 hS1 => ?_)
  have h := kk r S' hq p e s m args below meth c sh ad D cA H1 locs1 ls C hP1 hS1 hlh
  rw [List.map_append] at h
  cases r <;> exact h
end Calls9
/-- one answer, one store -/
def ans (v : Option AV) (S1 : St) : Option AV → St → Prop := fun r S' => r = v ∧ S' = S1
section Calls10
variable {l : Launch} {B : List Sh} {R : Room} {y z : Mt} {Zf : ZF} {kc ks pc i t n : Nat} {d : Nat × Nat} {lv : List (Option AV)} {st as rest : List AV} {S S1 : St} {v : AV}
theorem e_callV1 {o ci : Nat} {fl : List (Option Nat)} (hz : okM z) (hd : cAt y.2.2.2.2.1 pc = some (.invokevirtual i, 3, t)) (hl : lkV y.1.cls i z n) (hB : B[o]? = some (.inl (ci, fl))) (hci : (classes[ci]?).map (fun r => r.1) = some z.1.cls)
    (hK : KK l B d z (aR o :: as) S (ans (some v) S1)) (hlen : as.length = n) (hst : st = as.reverse ++ aR o :: rest) (hR : d.1 + 1 ≤ R.frames ∧ 8 + (z.2.2.1 + 11) + d.2 ≤ R.locals) (hc : kc ≤ R.cells ∧ ks ≤ R.slots) (hrest : (rest.map av_c).sum ≤ 8)
    (kk : EE l B R y Zf kc ks (pc + 3) lv (v :: rest) S1) : EE l B R y Zf kc ks pc lv st S := e_callV hz hd hl hB hci hK hlen hst hR hc hrest (fun r S' h => by obtain ⟨rfl, rfl⟩ := h; exact kk)
theorem e_callV0 {o ci : Nat} {fl : List (Option Nat)} (hz : okM z) (hd : cAt y.2.2.2.2.1 pc = some (.invokevirtual i, 3, t)) (hl : lkV y.1.cls i z n) (hB : B[o]? = some (.inl (ci, fl))) (hci : (classes[ci]?).map (fun r => r.1) = some z.1.cls)
    (hK : KK l B d z (aR o :: as) S (ans none S1)) (hlen : as.length = n) (hst : st = as.reverse ++ aR o :: rest) (hR : d.1 + 1 ≤ R.frames ∧ 8 + (z.2.2.1 + 11) + d.2 ≤ R.locals) (hc : kc ≤ R.cells ∧ ks ≤ R.slots) (hrest : (rest.map av_c).sum ≤ 8)
    (kk : EE l B R y Zf kc ks (pc + 3) lv rest S1) : EE l B R y Zf kc ks pc lv st S := e_callV hz hd hl hB hci hK hlen hst hR hc hrest (fun r S' h => by obtain ⟨rfl, rfl⟩ := h; exact kk)
theorem e_callW1 {o ci : Nat} {fl : List (Option Nat)} (hz : okM z) (hd : cAt y.2.2.2.2.1 pc = some (.invokevirtual i, 3, t)) (hl : lkW y.1.cls i z n) (hB : B[o]? = some (.inl (ci, fl))) (hci : (classes[ci]?).map (fun r => r.1) = some z.1.cls)
    (hK : KK l B d z (aR o :: as) S (ans (some v) S1)) (hlen : as.length = n) (hst : st = as.reverse ++ aR o :: rest) (hR : d.1 + 1 ≤ R.frames ∧ 8 + (z.2.2.1 + 11) + d.2 ≤ R.locals) (hc : kc ≤ R.cells ∧ ks ≤ R.slots) (hrest : (rest.map av_c).sum ≤ 8)
    (kk : EE l B R y Zf kc ks (pc + 3) lv (v :: rest) S1) : EE l B R y Zf kc ks pc lv st S := e_callW hz hd hl hB hci hK hlen hst hR hc hrest (fun r S' h => by obtain ⟨rfl, rfl⟩ := h; exact kk)
theorem e_callW0 {o ci : Nat} {fl : List (Option Nat)} (hz : okM z) (hd : cAt y.2.2.2.2.1 pc = some (.invokevirtual i, 3, t)) (hl : lkW y.1.cls i z n) (hB : B[o]? = some (.inl (ci, fl))) (hci : (classes[ci]?).map (fun r => r.1) = some z.1.cls)
    (hK : KK l B d z (aR o :: as) S (ans none S1)) (hlen : as.length = n) (hst : st = as.reverse ++ aR o :: rest) (hR : d.1 + 1 ≤ R.frames ∧ 8 + (z.2.2.1 + 11) + d.2 ≤ R.locals) (hc : kc ≤ R.cells ∧ ks ≤ R.slots) (hrest : (rest.map av_c).sum ≤ 8)
    (kk : EE l B R y Zf kc ks (pc + 3) lv rest S1) : EE l B R y Zf kc ks pc lv st S := e_callW hz hd hl hB hci hK hlen hst hR hc hrest (fun r S' h => by obtain ⟨rfl, rfl⟩ := h; exact kk)
theorem e_callS1 (hz : okM z) (hd : cAt y.2.2.2.2.1 pc = some (.invokestatic i, 3, t)) (hl : lkS y.1.cls i z n)
    (hK : KK l B d z as S (ans (some v) S1)) (hlen : as.length = n) (hst : st = as.reverse ++ rest) (hR : d.1 + 1 ≤ R.frames ∧ 8 + (z.2.2.1 + 11) + d.2 ≤ R.locals) (hc : kc ≤ R.cells ∧ ks ≤ R.slots) (hrest : (rest.map av_c).sum ≤ 8)
    (kk : EE l B R y Zf kc ks (pc + 3) lv (v :: rest) S1) : EE l B R y Zf kc ks pc lv st S := e_callS hz hd hl hK hlen hst hR hc hrest (fun r S' h => by obtain ⟨rfl, rfl⟩ := h; exact kk)
theorem e_callS0 (hz : okM z) (hd : cAt y.2.2.2.2.1 pc = some (.invokestatic i, 3, t)) (hl : lkS y.1.cls i z n)
    (hK : KK l B d z as S (ans none S1)) (hlen : as.length = n) (hst : st = as.reverse ++ rest) (hR : d.1 + 1 ≤ R.frames ∧ 8 + (z.2.2.1 + 11) + d.2 ≤ R.locals) (hc : kc ≤ R.cells ∧ ks ≤ R.slots) (hrest : (rest.map av_c).sum ≤ 8)
    (kk : EE l B R y Zf kc ks (pc + 3) lv rest S1) : EE l B R y Zf kc ks pc lv st S := e_callS hz hd hl hK hlen hst hR hc hrest (fun r S' h => by obtain ⟨rfl, rfl⟩ := h; exact kk)
theorem e_callN1 (hz : okM z) (hd : cAt y.2.2.2.2.1 pc = some (.invokestatic i, 3, t)) (hl : lkN y.1.cls i z n)
    (hK : KK l B d z as S (ans (some v) S1)) (hlen : as.length = n) (hst : st = as.reverse ++ rest) (hR : d.1 + 1 ≤ R.frames ∧ 8 + (z.2.2.1 + 11) + d.2 ≤ R.locals) (hc : kc ≤ R.cells ∧ ks ≤ R.slots) (hrest : (rest.map av_c).sum ≤ 8)
    (kk : EE l B R y Zf kc ks (pc + 3) lv (v :: rest) S1) : EE l B R y Zf kc ks pc lv st S := e_callN hz hd hl hK hlen hst hR hc hrest (fun r S' h => by obtain ⟨rfl, rfl⟩ := h; exact kk)
theorem e_callN0 (hz : okM z) (hd : cAt y.2.2.2.2.1 pc = some (.invokestatic i, 3, t)) (hl : lkN y.1.cls i z n)
    (hK : KK l B d z as S (ans none S1)) (hlen : as.length = n) (hst : st = as.reverse ++ rest) (hR : d.1 + 1 ≤ R.frames ∧ 8 + (z.2.2.1 + 11) + d.2 ≤ R.locals) (hc : kc ≤ R.cells ∧ ks ≤ R.slots) (hrest : (rest.map av_c).sum ≤ 8)
    (kk : EE l B R y Zf kc ks (pc + 3) lv rest S1) : EE l B R y Zf kc ks pc lv st S := e_callN hz hd hl hK hlen hst hR hc hrest (fun r S' h => by obtain ⟨rfl, rfl⟩ := h; exact kk)
end Calls10
end
