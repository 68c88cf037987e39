section
-- ===== PART A: goes FIRST, ahead of the names: the tables' words, and 'selects' of the private methods out of them =====
/-- a private method of a class that the tables say can be made, by its rows of tables_1 -/
def lw_okq (q : MethodName × Nat) : Prop := (q.1.cls ≠ "java/lang/invoke/MethodHandle" ∧ q.1.cls ≠ "java/lang/invoke/VarHandle") ∧ Cond.instantiable q.1.cls q.2 ∈ tables_1 ∧ Cond.privateMethod q.1 ∈ tables_1 ∧ Cond.instanceMethod q.1 ∈ tables_1
theorem lw_p0 : lw_okq (⟨"HalftoneRegions$PatternSet", "farness", "(II)I"⟩, 4) := ⟨⟨by decide +kernel, by decide +kernel⟩, List.mem_of_getElem? (i := 51) (by decide +kernel), List.mem_of_getElem? (i := 280) (by decide +kernel), List.mem_of_getElem? (i := 281) (by decide +kernel)⟩
theorem lw_p1 : lw_okq (⟨"HalftoneRegions", "darkUnder", "(II)I"⟩, 15) := ⟨⟨by decide +kernel, by decide +kernel⟩, List.mem_of_getElem? (i := 22) (by decide +kernel), List.mem_of_getElem? (i := 290) (by decide +kernel), List.mem_of_getElem? (i := 291) (by decide +kernel)⟩
theorem lw_p2 : lw_okq (⟨"HalftoneRegions", "isOutside", "(II)Z"⟩, 15) := ⟨⟨by decide +kernel, by decide +kernel⟩, List.mem_of_getElem? (i := 22) (by decide +kernel), List.mem_of_getElem? (i := 294) (by decide +kernel), List.mem_of_getElem? (i := 295) (by decide +kernel)⟩
theorem lw_p3 : lw_okq (⟨"HalftoneRegions", "columnsUnder", "(I)I"⟩, 15) := ⟨⟨by decide +kernel, by decide +kernel⟩, List.mem_of_getElem? (i := 22) (by decide +kernel), List.mem_of_getElem? (i := 306) (by decide +kernel), List.mem_of_getElem? (i := 307) (by decide +kernel)⟩
theorem lw_p4 : lw_okq (⟨"HalftoneRegions", "layPattern", "(II)V"⟩, 15) := ⟨⟨by decide +kernel, by decide +kernel⟩, List.mem_of_getElem? (i := 22) (by decide +kernel), List.mem_of_getElem? (i := 331) (by decide +kernel), List.mem_of_getElem? (i := 332) (by decide +kernel)⟩
theorem lw_p5 : lw_okq (⟨"HalftoneRegions", "combined", "(III)I"⟩, 15) := ⟨⟨by decide +kernel, by decide +kernel⟩, List.mem_of_getElem? (i := 22) (by decide +kernel), List.mem_of_getElem? (i := 344) (by decide +kernel), List.mem_of_getElem? (i := 345) (by decide +kernel)⟩
theorem lw_p6 : lw_okq (⟨"HalftoneRegions", "isSkipped", "(II)Z"⟩, 15) := ⟨⟨by decide +kernel, by decide +kernel⟩, List.mem_of_getElem? (i := 22) (by decide +kernel), List.mem_of_getElem? (i := 361) (by decide +kernel), List.mem_of_getElem? (i := 362) (by decide +kernel)⟩
theorem lw_p7 : lw_okq (⟨"HalftoneRegions", "writePlane", "(I)V"⟩, 15) := ⟨⟨by decide +kernel, by decide +kernel⟩, List.mem_of_getElem? (i := 22) (by decide +kernel), List.mem_of_getElem? (i := 389) (by decide +kernel), List.mem_of_getElem? (i := 390) (by decide +kernel)⟩
theorem lw_p8 : lw_okq (⟨"HalftoneRegions$RunWriter", "write", "(II)V"⟩, 5) := ⟨⟨by decide +kernel, by decide +kernel⟩, List.mem_of_getElem? (i := 132) (by decide +kernel), List.mem_of_getElem? (i := 419) (by decide +kernel), List.mem_of_getElem? (i := 420) (by decide +kernel)⟩
theorem lw_p9 : lw_okq (⟨"HalftoneRegions", "placesOutside", "()I"⟩, 15) := ⟨⟨by decide +kernel, by decide +kernel⟩, List.mem_of_getElem? (i := 22) (by decide +kernel), List.mem_of_getElem? (i := 443) (by decide +kernel), List.mem_of_getElem? (i := 444) (by decide +kernel)⟩
theorem lw_p10 : lw_okq (⟨"HalftoneRegions", "readPlane", "(I)V"⟩, 15) := ⟨⟨by decide +kernel, by decide +kernel⟩, List.mem_of_getElem? (i := 22) (by decide +kernel), List.mem_of_getElem? (i := 452) (by decide +kernel), List.mem_of_getElem? (i := 453) (by decide +kernel)⟩
theorem lw_p11 : lw_okq (⟨"HalftoneRegions$RunReader", "readRun", "()V"⟩, 8) := ⟨⟨by decide +kernel, by decide +kernel⟩, List.mem_of_getElem? (i := 169) (by decide +kernel), List.mem_of_getElem? (i := 460) (by decide +kernel), List.mem_of_getElem? (i := 461) (by decide +kernel)⟩
theorem lw_p12 : lw_okq (⟨"HalftoneRegions$RunReader", "readBit", "()I"⟩, 8) := ⟨⟨by decide +kernel, by decide +kernel⟩, List.mem_of_getElem? (i := 169) (by decide +kernel), List.mem_of_getElem? (i := 465) (by decide +kernel), List.mem_of_getElem? (i := 466) (by decide +kernel)⟩
theorem lw_p13 : lw_okq (⟨"HalftoneRegions$RunReader", "read", "(I)I"⟩, 8) := ⟨⟨by decide +kernel, by decide +kernel⟩, List.mem_of_getElem? (i := 169) (by decide +kernel), List.mem_of_getElem? (i := 471) (by decide +kernel), List.mem_of_getElem? (i := 472) (by decide +kernel)⟩
theorem lw_p14 : lw_okq (⟨"HalftoneRegions$RunReader", "isAllRead", "()Z"⟩, 8) := ⟨⟨by decide +kernel, by decide +kernel⟩, List.mem_of_getElem? (i := 169) (by decide +kernel), List.mem_of_getElem? (i := 484) (by decide +kernel), List.mem_of_getElem? (i := 485) (by decide +kernel)⟩
theorem lw_p15 : lw_okq (⟨"HalftoneRegions", "takeGreys", "()V"⟩, 15) := ⟨⟨by decide +kernel, by decide +kernel⟩, List.mem_of_getElem? (i := 22) (by decide +kernel), List.mem_of_getElem? (i := 500) (by decide +kernel), List.mem_of_getElem? (i := 501) (by decide +kernel)⟩
def lw_privs_1 : List (MethodName × Nat) := [(⟨"HalftoneRegions$PatternSet", "farness", "(II)I"⟩, 4), (⟨"HalftoneRegions", "darkUnder", "(II)I"⟩, 15), (⟨"HalftoneRegions", "isOutside", "(II)Z"⟩, 15), (⟨"HalftoneRegions", "columnsUnder", "(I)I"⟩, 15), (⟨"HalftoneRegions", "layPattern", "(II)V"⟩, 15), (⟨"HalftoneRegions", "combined", "(III)I"⟩, 15), (⟨"HalftoneRegions", "isSkipped", "(II)Z"⟩, 15), (⟨"HalftoneRegions", "writePlane", "(I)V"⟩, 15), (⟨"HalftoneRegions$RunWriter", "write", "(II)V"⟩, 5), (⟨"HalftoneRegions", "placesOutside", "()I"⟩, 15), (⟨"HalftoneRegions", "readPlane", "(I)V"⟩, 15), (⟨"HalftoneRegions$RunReader", "readRun", "()V"⟩, 8), (⟨"HalftoneRegions$RunReader", "readBit", "()I"⟩, 8), (⟨"HalftoneRegions$RunReader", "read", "(I)I"⟩, 8), (⟨"HalftoneRegions$RunReader", "isAllRead", "()Z"⟩, 8), (⟨"HalftoneRegions", "takeGreys", "()V"⟩, 15)]
theorem lw_r1 : ∀ q ∈ lw_privs_1, lw_okq q := List.forall_mem_cons.mpr ⟨lw_p0, List.forall_mem_cons.mpr ⟨lw_p1, List.forall_mem_cons.mpr ⟨lw_p2, List.forall_mem_cons.mpr ⟨lw_p3, List.forall_mem_cons.mpr ⟨lw_p4, List.forall_mem_cons.mpr ⟨lw_p5, List.forall_mem_cons.mpr ⟨lw_p6, List.forall_mem_cons.mpr ⟨lw_p7, List.forall_mem_cons.mpr ⟨lw_p8, List.forall_mem_cons.mpr ⟨lw_p9, List.forall_mem_cons.mpr ⟨lw_p10, List.forall_mem_cons.mpr ⟨lw_p11, List.forall_mem_cons.mpr ⟨lw_p12, List.forall_mem_cons.mpr ⟨lw_p13, List.forall_mem_cons.mpr ⟨lw_p14, List.forall_mem_cons.mpr ⟨lw_p15, fun _ h => absurd h List.not_mem_nil⟩⟩⟩⟩⟩⟩⟩⟩⟩⟩⟩⟩⟩⟩⟩⟩
theorem lw_p16 : lw_okq (⟨"java/lang/Throwable", "fillInStackTrace", "(I)Ljava/lang/Throwable;"⟩, 6) := ⟨⟨by decide +kernel, by decide +kernel⟩, List.mem_of_getElem? (i := 585) (by decide +kernel), List.mem_of_getElem? (i := 583) (by decide +kernel), List.mem_of_getElem? (i := 584) (by decide +kernel)⟩
theorem lw_p17 : lw_okq (⟨"HalftoneRegions$PatternSet", "rankOf", "(II)I"⟩, 4) := ⟨⟨by decide +kernel, by decide +kernel⟩, List.mem_of_getElem? (i := 51) (by decide +kernel), List.mem_of_getElem? (i := 629) (by decide +kernel), List.mem_of_getElem? (i := 630) (by decide +kernel)⟩
theorem lw_p18 : lw_okq (⟨"HalftoneRegions", "changeWay", "(II)I"⟩, 15) := ⟨⟨by decide +kernel, by decide +kernel⟩, List.mem_of_getElem? (i := 22) (by decide +kernel), List.mem_of_getElem? (i := 744) (by decide +kernel), List.mem_of_getElem? (i := 745) (by decide +kernel)⟩
theorem lw_p19 : lw_okq (⟨"HalftoneRegionsModel", "begin", "()V"⟩, 38) := ⟨⟨by decide +kernel, by decide +kernel⟩, List.mem_of_getElem? (i := 833) (by decide +kernel), List.mem_of_getElem? (i := 840) (by decide +kernel), List.mem_of_getElem? (i := 841) (by decide +kernel)⟩
theorem lw_p20 : lw_okq (⟨"HalftoneRegionsModel", "blank", "(III)V"⟩, 38) := ⟨⟨by decide +kernel, by decide +kernel⟩, List.mem_of_getElem? (i := 833) (by decide +kernel), List.mem_of_getElem? (i := 844) (by decide +kernel), List.mem_of_getElem? (i := 845) (by decide +kernel)⟩
theorem lw_p21 : lw_okq (⟨"HalftoneRegionsModel", "newPlane", "()V"⟩, 38) := ⟨⟨by decide +kernel, by decide +kernel⟩, List.mem_of_getElem? (i := 833) (by decide +kernel), List.mem_of_getElem? (i := 848) (by decide +kernel), List.mem_of_getElem? (i := 849) (by decide +kernel)⟩
theorem lw_p22 : lw_okq (⟨"HalftoneRegionsModel", "planes", "()I"⟩, 38) := ⟨⟨by decide +kernel, by decide +kernel⟩, List.mem_of_getElem? (i := 833) (by decide +kernel), List.mem_of_getElem? (i := 983) (by decide +kernel), List.mem_of_getElem? (i := 984) (by decide +kernel)⟩
theorem lw_p23 : lw_okq (⟨"HalftoneRegionsModel", "hasCell", "(III)Z"⟩, 38) := ⟨⟨by decide +kernel, by decide +kernel⟩, List.mem_of_getElem? (i := 833) (by decide +kernel), List.mem_of_getElem? (i := 998) (by decide +kernel), List.mem_of_getElem? (i := 999) (by decide +kernel)⟩
theorem lw_p24 : lw_okq (⟨"HalftoneRegionsModel", "hasPlace", "(II)Z"⟩, 38) := ⟨⟨by decide +kernel, by decide +kernel⟩, List.mem_of_getElem? (i := 833) (by decide +kernel), List.mem_of_getElem? (i := 1012) (by decide +kernel), List.mem_of_getElem? (i := 1013) (by decide +kernel)⟩
theorem lw_p25 : lw_okq (⟨"HalftoneRegionsModel", "isOutside", "(II)Z"⟩, 38) := ⟨⟨by decide +kernel, by decide +kernel⟩, List.mem_of_getElem? (i := 833) (by decide +kernel), List.mem_of_getElem? (i := 1016) (by decide +kernel), List.mem_of_getElem? (i := 1017) (by decide +kernel)⟩
theorem lw_p26 : lw_okq (⟨"HalftoneRegionsModel", "xOf", "(II)I"⟩, 38) := ⟨⟨by decide +kernel, by decide +kernel⟩, List.mem_of_getElem? (i := 833) (by decide +kernel), List.mem_of_getElem? (i := 1020) (by decide +kernel), List.mem_of_getElem? (i := 1021) (by decide +kernel)⟩
theorem lw_p27 : lw_okq (⟨"HalftoneRegionsModel", "yOf", "(II)I"⟩, 38) := ⟨⟨by decide +kernel, by decide +kernel⟩, List.mem_of_getElem? (i := 833) (by decide +kernel), List.mem_of_getElem? (i := 1027) (by decide +kernel), List.mem_of_getElem? (i := 1028) (by decide +kernel)⟩
theorem lw_p28 : lw_okq (⟨"HalftoneRegionsModel", "countAt", "(II)I"⟩, 38) := ⟨⟨by decide +kernel, by decide +kernel⟩, List.mem_of_getElem? (i := 833) (by decide +kernel), List.mem_of_getElem? (i := 1063) (by decide +kernel), List.mem_of_getElem? (i := 1064) (by decide +kernel)⟩
theorem lw_p29 : lw_okq (⟨"HalftoneRegionsModel", "hasSample", "(II)Z"⟩, 38) := ⟨⟨by decide +kernel, by decide +kernel⟩, List.mem_of_getElem? (i := 833) (by decide +kernel), List.mem_of_getElem? (i := 1067) (by decide +kernel), List.mem_of_getElem? (i := 1068) (by decide +kernel)⟩
theorem lw_p30 : lw_okq (⟨"HalftoneRegionsModel", "nearest", "(I)I"⟩, 38) := ⟨⟨by decide +kernel, by decide +kernel⟩, List.mem_of_getElem? (i := 833) (by decide +kernel), List.mem_of_getElem? (i := 1075) (by decide +kernel), List.mem_of_getElem? (i := 1076) (by decide +kernel)⟩
theorem lw_p31 : lw_okq (⟨"HalftoneRegionsModel", "darkIn", "(I)I"⟩, 38) := ⟨⟨by decide +kernel, by decide +kernel⟩, List.mem_of_getElem? (i := 833) (by decide +kernel), List.mem_of_getElem? (i := 1079) (by decide +kernel), List.mem_of_getElem? (i := 1080) (by decide +kernel)⟩
def lw_privs_2 : List (MethodName × Nat) := [(⟨"java/lang/Throwable", "fillInStackTrace", "(I)Ljava/lang/Throwable;"⟩, 6), (⟨"HalftoneRegions$PatternSet", "rankOf", "(II)I"⟩, 4), (⟨"HalftoneRegions", "changeWay", "(II)I"⟩, 15), (⟨"HalftoneRegionsModel", "begin", "()V"⟩, 38), (⟨"HalftoneRegionsModel", "blank", "(III)V"⟩, 38), (⟨"HalftoneRegionsModel", "newPlane", "()V"⟩, 38), (⟨"HalftoneRegionsModel", "planes", "()I"⟩, 38), (⟨"HalftoneRegionsModel", "hasCell", "(III)Z"⟩, 38), (⟨"HalftoneRegionsModel", "hasPlace", "(II)Z"⟩, 38), (⟨"HalftoneRegionsModel", "isOutside", "(II)Z"⟩, 38), (⟨"HalftoneRegionsModel", "xOf", "(II)I"⟩, 38), (⟨"HalftoneRegionsModel", "yOf", "(II)I"⟩, 38), (⟨"HalftoneRegionsModel", "countAt", "(II)I"⟩, 38), (⟨"HalftoneRegionsModel", "hasSample", "(II)Z"⟩, 38), (⟨"HalftoneRegionsModel", "nearest", "(I)I"⟩, 38), (⟨"HalftoneRegionsModel", "darkIn", "(I)I"⟩, 38)]
theorem lw_r2 : ∀ q ∈ lw_privs_2, lw_okq q := List.forall_mem_cons.mpr ⟨lw_p16, List.forall_mem_cons.mpr ⟨lw_p17, List.forall_mem_cons.mpr ⟨lw_p18, List.forall_mem_cons.mpr ⟨lw_p19, List.forall_mem_cons.mpr ⟨lw_p20, List.forall_mem_cons.mpr ⟨lw_p21, List.forall_mem_cons.mpr ⟨lw_p22, List.forall_mem_cons.mpr ⟨lw_p23, List.forall_mem_cons.mpr ⟨lw_p24, List.forall_mem_cons.mpr ⟨lw_p25, List.forall_mem_cons.mpr ⟨lw_p26, List.forall_mem_cons.mpr ⟨lw_p27, List.forall_mem_cons.mpr ⟨lw_p28, List.forall_mem_cons.mpr ⟨lw_p29, List.forall_mem_cons.mpr ⟨lw_p30, List.forall_mem_cons.mpr ⟨lw_p31, fun _ h => absurd h List.not_mem_nil⟩⟩⟩⟩⟩⟩⟩⟩⟩⟩⟩⟩⟩⟩⟩⟩
theorem lw_p32 : lw_okq (⟨"HalftoneRegionsModel", "layPattern", "(II)V"⟩, 38) := ⟨⟨by decide +kernel, by decide +kernel⟩, List.mem_of_getElem? (i := 833) (by decide +kernel), List.mem_of_getElem? (i := 1087) (by decide +kernel), List.mem_of_getElem? (i := 1088) (by decide +kernel)⟩
theorem lw_p33 : lw_okq (⟨"HalftoneRegionsModel", "both", "(ZZ)Z"⟩, 38) := ⟨⟨by decide +kernel, by decide +kernel⟩, List.mem_of_getElem? (i := 833) (by decide +kernel), List.mem_of_getElem? (i := 1091) (by decide +kernel), List.mem_of_getElem? (i := 1092) (by decide +kernel)⟩
theorem lw_p34 : lw_okq (⟨"HalftoneRegionsModel", "beginRuns", "()V"⟩, 38) := ⟨⟨by decide +kernel, by decide +kernel⟩, List.mem_of_getElem? (i := 833) (by decide +kernel), List.mem_of_getElem? (i := 1106) (by decide +kernel), List.mem_of_getElem? (i := 1107) (by decide +kernel)⟩
theorem lw_p35 : lw_okq (⟨"HalftoneRegionsModel", "nextPlane", "()V"⟩, 38) := ⟨⟨by decide +kernel, by decide +kernel⟩, List.mem_of_getElem? (i := 833) (by decide +kernel), List.mem_of_getElem? (i := 1110) (by decide +kernel), List.mem_of_getElem? (i := 1111) (by decide +kernel)⟩
theorem lw_p36 : lw_okq (⟨"HalftoneRegionsModel", "isSkipped", "(II)Z"⟩, 38) := ⟨⟨by decide +kernel, by decide +kernel⟩, List.mem_of_getElem? (i := 833) (by decide +kernel), List.mem_of_getElem? (i := 1114) (by decide +kernel), List.mem_of_getElem? (i := 1115) (by decide +kernel)⟩
theorem lw_p37 : lw_okq (⟨"HalftoneRegionsModel", "contextOf", "(II)I"⟩, 38) := ⟨⟨by decide +kernel, by decide +kernel⟩, List.mem_of_getElem? (i := 833) (by decide +kernel), List.mem_of_getElem? (i := 1118) (by decide +kernel), List.mem_of_getElem? (i := 1119) (by decide +kernel)⟩
theorem lw_p38 : lw_okq (⟨"HalftoneRegionsModel", "toldAt", "(II)I"⟩, 38) := ⟨⟨by decide +kernel, by decide +kernel⟩, List.mem_of_getElem? (i := 833) (by decide +kernel), List.mem_of_getElem? (i := 1122) (by decide +kernel), List.mem_of_getElem? (i := 1123) (by decide +kernel)⟩
theorem lw_p39 : lw_okq (⟨"HalftoneRegionsModel", "writeRun", "(I)V"⟩, 38) := ⟨⟨by decide +kernel, by decide +kernel⟩, List.mem_of_getElem? (i := 833) (by decide +kernel), List.mem_of_getElem? (i := 1126) (by decide +kernel), List.mem_of_getElem? (i := 1127) (by decide +kernel)⟩
theorem lw_p40 : lw_okq (⟨"HalftoneRegionsModel", "small", "()I"⟩, 38) := ⟨⟨by decide +kernel, by decide +kernel⟩, List.mem_of_getElem? (i := 833) (by decide +kernel), List.mem_of_getElem? (i := 1130) (by decide +kernel), List.mem_of_getElem? (i := 1131) (by decide +kernel)⟩
theorem lw_p41 : lw_okq (⟨"HalftoneRegionsModel", "write", "(II)V"⟩, 38) := ⟨⟨by decide +kernel, by decide +kernel⟩, List.mem_of_getElem? (i := 833) (by decide +kernel), List.mem_of_getElem? (i := 1134) (by decide +kernel), List.mem_of_getElem? (i := 1135) (by decide +kernel)⟩
theorem lw_p42 : lw_okq (⟨"HalftoneRegionsModel", "keepRun", "(I)V"⟩, 38) := ⟨⟨by decide +kernel, by decide +kernel⟩, List.mem_of_getElem? (i := 833) (by decide +kernel), List.mem_of_getElem? (i := 1138) (by decide +kernel), List.mem_of_getElem? (i := 1139) (by decide +kernel)⟩
theorem lw_p43 : lw_okq (⟨"HalftoneRegionsModel", "learn", "(IZ)V"⟩, 38) := ⟨⟨by decide +kernel, by decide +kernel⟩, List.mem_of_getElem? (i := 833) (by decide +kernel), List.mem_of_getElem? (i := 1142) (by decide +kernel), List.mem_of_getElem? (i := 1143) (by decide +kernel)⟩
theorem lw_p44 : lw_okq (⟨"HalftoneRegionsModel", "madeByte", "(I)I"⟩, 38) := ⟨⟨by decide +kernel, by decide +kernel⟩, List.mem_of_getElem? (i := 833) (by decide +kernel), List.mem_of_getElem? (i := 1150) (by decide +kernel), List.mem_of_getElem? (i := 1151) (by decide +kernel)⟩
theorem lw_p45 : lw_okq (⟨"HalftoneRegionsModel", "readPlanes", "()I"⟩, 38) := ⟨⟨by decide +kernel, by decide +kernel⟩, List.mem_of_getElem? (i := 833) (by decide +kernel), List.mem_of_getElem? (i := 1166) (by decide +kernel), List.mem_of_getElem? (i := 1167) (by decide +kernel)⟩
theorem lw_p46 : lw_okq (⟨"HalftoneRegionsModel", "readBit", "(Z)Z"⟩, 38) := ⟨⟨by decide +kernel, by decide +kernel⟩, List.mem_of_getElem? (i := 833) (by decide +kernel), List.mem_of_getElem? (i := 1170) (by decide +kernel), List.mem_of_getElem? (i := 1171) (by decide +kernel)⟩
theorem lw_p47 : lw_okq (⟨"HalftoneRegionsModel", "readRun", "()V"⟩, 38) := ⟨⟨by decide +kernel, by decide +kernel⟩, List.mem_of_getElem? (i := 833) (by decide +kernel), List.mem_of_getElem? (i := 1174) (by decide +kernel), List.mem_of_getElem? (i := 1175) (by decide +kernel)⟩
def lw_privs_3 : List (MethodName × Nat) := [(⟨"HalftoneRegionsModel", "layPattern", "(II)V"⟩, 38), (⟨"HalftoneRegionsModel", "both", "(ZZ)Z"⟩, 38), (⟨"HalftoneRegionsModel", "beginRuns", "()V"⟩, 38), (⟨"HalftoneRegionsModel", "nextPlane", "()V"⟩, 38), (⟨"HalftoneRegionsModel", "isSkipped", "(II)Z"⟩, 38), (⟨"HalftoneRegionsModel", "contextOf", "(II)I"⟩, 38), (⟨"HalftoneRegionsModel", "toldAt", "(II)I"⟩, 38), (⟨"HalftoneRegionsModel", "writeRun", "(I)V"⟩, 38), (⟨"HalftoneRegionsModel", "small", "()I"⟩, 38), (⟨"HalftoneRegionsModel", "write", "(II)V"⟩, 38), (⟨"HalftoneRegionsModel", "keepRun", "(I)V"⟩, 38), (⟨"HalftoneRegionsModel", "learn", "(IZ)V"⟩, 38), (⟨"HalftoneRegionsModel", "madeByte", "(I)I"⟩, 38), (⟨"HalftoneRegionsModel", "readPlanes", "()I"⟩, 38), (⟨"HalftoneRegionsModel", "readBit", "(Z)Z"⟩, 38), (⟨"HalftoneRegionsModel", "readRun", "()V"⟩, 38)]
theorem lw_r3 : ∀ q ∈ lw_privs_3, lw_okq q := List.forall_mem_cons.mpr ⟨lw_p32, List.forall_mem_cons.mpr ⟨lw_p33, List.forall_mem_cons.mpr ⟨lw_p34, List.forall_mem_cons.mpr ⟨lw_p35, List.forall_mem_cons.mpr ⟨lw_p36, List.forall_mem_cons.mpr ⟨lw_p37, List.forall_mem_cons.mpr ⟨lw_p38, List.forall_mem_cons.mpr ⟨lw_p39, List.forall_mem_cons.mpr ⟨lw_p40, List.forall_mem_cons.mpr ⟨lw_p41, List.forall_mem_cons.mpr ⟨lw_p42, List.forall_mem_cons.mpr ⟨lw_p43, List.forall_mem_cons.mpr ⟨lw_p44, List.forall_mem_cons.mpr ⟨lw_p45, List.forall_mem_cons.mpr ⟨lw_p46, List.forall_mem_cons.mpr ⟨lw_p47, fun _ h => absurd h List.not_mem_nil⟩⟩⟩⟩⟩⟩⟩⟩⟩⟩⟩⟩⟩⟩⟩⟩
theorem lw_p48 : lw_okq (⟨"HalftoneRegionsModel", "readOne", "()I"⟩, 38) := ⟨⟨by decide +kernel, by decide +kernel⟩, List.mem_of_getElem? (i := 833) (by decide +kernel), List.mem_of_getElem? (i := 1178) (by decide +kernel), List.mem_of_getElem? (i := 1179) (by decide +kernel)⟩
theorem lw_p49 : lw_okq (⟨"HalftoneRegionsModel", "readSome", "(I)I"⟩, 38) := ⟨⟨by decide +kernel, by decide +kernel⟩, List.mem_of_getElem? (i := 833) (by decide +kernel), List.mem_of_getElem? (i := 1182) (by decide +kernel), List.mem_of_getElem? (i := 1183) (by decide +kernel)⟩
theorem lw_p50 : lw_okq (⟨"HalftoneRegionsModel", "refusal", "()I"⟩, 38) := ⟨⟨by decide +kernel, by decide +kernel⟩, List.mem_of_getElem? (i := 833) (by decide +kernel), List.mem_of_getElem? (i := 1186) (by decide +kernel), List.mem_of_getElem? (i := 1187) (by decide +kernel)⟩
theorem lw_p51 : lw_okq (⟨"HalftoneRegionsModel", "isMore", "()Z"⟩, 38) := ⟨⟨by decide +kernel, by decide +kernel⟩, List.mem_of_getElem? (i := 833) (by decide +kernel), List.mem_of_getElem? (i := 1190) (by decide +kernel), List.mem_of_getElem? (i := 1191) (by decide +kernel)⟩
def lw_privs_4 : List (MethodName × Nat) := [(⟨"HalftoneRegionsModel", "readOne", "()I"⟩, 38), (⟨"HalftoneRegionsModel", "readSome", "(I)I"⟩, 38), (⟨"HalftoneRegionsModel", "refusal", "()I"⟩, 38), (⟨"HalftoneRegionsModel", "isMore", "()Z"⟩, 38)]
theorem lw_r4 : ∀ q ∈ lw_privs_4, lw_okq q := List.forall_mem_cons.mpr ⟨lw_p48, List.forall_mem_cons.mpr ⟨lw_p49, List.forall_mem_cons.mpr ⟨lw_p50, List.forall_mem_cons.mpr ⟨lw_p51, fun _ h => absurd h List.not_mem_nil⟩⟩⟩⟩
def lw_privs : List (MethodName × Nat) := lw_privs_1 ++ (lw_privs_2 ++ (lw_privs_3 ++ (lw_privs_4)))
def lw_tbl : List Cond := k2_sels lw_privs ++ tables_1
theorem lw_privs_ok : ∀ q ∈ lw_privs, lw_okq q := by
  show ∀ q ∈ lw_privs_1 ++ (lw_privs_2 ++ (lw_privs_3 ++ (lw_privs_4))), lw_okq q
  exact List.forall_mem_append.mpr ⟨lw_r1, List.forall_mem_append.mpr ⟨lw_r2, List.forall_mem_append.mpr ⟨lw_r3, lw_r4⟩⟩⟩
end
section
def nestHost : String := "HalftoneRegions"
def R_C : String := "HalftoneRegions$Codes"
def T_C : u_T := fun k => match k with
  | _ => ("HalftoneRegions$Codes", "bits", "[I", true)
def ty_C : Nat → FieldType := fun k => match k with
  | _ => .array .int
theorem nm_C : ∀ a, a < 1 → ∀ b, b < 1 → a ≠ b → (T_C a).2.1 ≠ (T_C b).2.1 := by decide +kernel
theorem ty_C_ok : ∀ k, k < 1 → parseFieldDescriptor (T_C k).2.2.1 = some (ty_C k) := by decide +kernel
theorem in_C : ∀ w ∈ u_ws R_C T_C 1, w ∈ lw_tbl := by decide +kernel
theorem gd_C : (u_ws R_C T_C 1).all goodWord = true := by decide +kernel
def R_F : String := "HalftoneRegions$Forecast"
def T_F : u_T := fun k => match k with
  | 0 => ("HalftoneRegions$Forecast", "states", "[I", true)
  | _ => ("HalftoneRegions$Forecast", "uses", "[I", true)
def ty_F : Nat → FieldType := fun k => match k with
  | 0 => .array .int
  | _ => .array .int
theorem nm_F : ∀ a, a < 2 → ∀ b, b < 2 → a ≠ b → (T_F a).2.1 ≠ (T_F b).2.1 := by decide +kernel
theorem ty_F_ok : ∀ k, k < 2 → parseFieldDescriptor (T_F k).2.2.1 = some (ty_F k) := by decide +kernel
theorem in_F : ∀ w ∈ u_ws R_F T_F 2, w ∈ lw_tbl := by decide +kernel
theorem gd_F : (u_ws R_F T_F 2).all goodWord = true := by decide +kernel
def R_L : String := "HalftoneRegions$Lattice"
def T_L : u_T := fun k => match k with
  | 0 => ("HalftoneRegions$Lattice", "greys", "[I", true)
  | 1 => ("HalftoneRegions$Lattice", "columns", "I", false)
  | 2 => ("HalftoneRegions$Lattice", "rows", "I", false)
  | 3 => ("HalftoneRegions$Lattice", "gx", "I", false)
  | 4 => ("HalftoneRegions$Lattice", "gy", "I", false)
  | 5 => ("HalftoneRegions$Lattice", "dx", "I", false)
  | _ => ("HalftoneRegions$Lattice", "dy", "I", false)
def ty_L : Nat → FieldType := fun k => match k with
  | 0 => .array .int
  | 1 => .int
  | 2 => .int
  | 3 => .int
  | 4 => .int
  | 5 => .int
  | _ => .int
theorem nm_L : ∀ a, a < 7 → ∀ b, b < 7 → a ≠ b → (T_L a).2.1 ≠ (T_L b).2.1 := by decide +kernel
theorem ty_L_ok : ∀ k, k < 7 → parseFieldDescriptor (T_L k).2.2.1 = some (ty_L k) := by decide +kernel
theorem in_L : ∀ w ∈ u_ws R_L T_L 7, w ∈ lw_tbl := by decide +kernel
theorem gd_L : (u_ws R_L T_L 7).all goodWord = true := by decide +kernel
def R_P : String := "HalftoneRegions$Pace"
def T_P : u_T := fun k => match k with
  | 0 => ("HalftoneRegions$Pace", "sum", "I", false)
  | _ => ("HalftoneRegions$Pace", "number", "I", false)
def ty_P : Nat → FieldType := fun k => match k with
  | 0 => .int
  | _ => .int
theorem nm_P : ∀ a, a < 2 → ∀ b, b < 2 → a ≠ b → (T_P a).2.1 ≠ (T_P b).2.1 := by decide +kernel
theorem ty_P_ok : ∀ k, k < 2 → parseFieldDescriptor (T_P k).2.2.1 = some (ty_P k) := by decide +kernel
theorem in_P : ∀ w ∈ u_ws R_P T_P 2, w ∈ lw_tbl := by decide +kernel
theorem gd_P : (u_ws R_P T_P 2).all goodWord = true := by decide +kernel
def R_B : String := "HalftoneRegions$PatternSet"
def T_B : u_T := fun k => match k with
  | 0 => ("HalftoneRegions$PatternSet", "cells", "[J", true)
  | 1 => ("HalftoneRegions$PatternSet", "width", "I", false)
  | 2 => ("HalftoneRegions$PatternSet", "height", "I", false)
  | _ => ("HalftoneRegions$PatternSet", "many", "I", false)
def ty_B : Nat → FieldType := fun k => match k with
  | 0 => .array .long
  | 1 => .int
  | 2 => .int
  | _ => .int
theorem nm_B : ∀ a, a < 4 → ∀ b, b < 4 → a ≠ b → (T_B a).2.1 ≠ (T_B b).2.1 := by decide +kernel
theorem ty_B_ok : ∀ k, k < 4 → parseFieldDescriptor (T_B k).2.2.1 = some (ty_B k) := by decide +kernel
theorem in_B : ∀ w ∈ u_ws R_B T_B 4, w ∈ lw_tbl := by decide +kernel
theorem gd_B : (u_ws R_B T_B 4).all goodWord = true := by decide +kernel
def R_R : String := "HalftoneRegions$RunReader"
def T_R : u_T := fun k => match k with
  | 0 => ("HalftoneRegions$RunReader", "bytes", "[B", true)
  | 1 => ("HalftoneRegions$RunReader", "pace", "LHalftoneRegions$Pace;", true)
  | 2 => ("HalftoneRegions$RunReader", "came", "I", false)
  | 3 => ("HalftoneRegions$RunReader", "bits", "I", false)
  | 4 => ("HalftoneRegions$RunReader", "left", "I", false)
  | 5 => ("HalftoneRegions$RunReader", "ahead", "I", false)
  | 6 => ("HalftoneRegions$RunReader", "runs", "I", false)
  | _ => ("HalftoneRegions$RunReader", "refused", "I", false)
def ty_R : Nat → FieldType := fun k => match k with
  | 0 => .array .byte
  | 1 => .object "HalftoneRegions$Pace"
  | 2 => .int
  | 3 => .int
  | 4 => .int
  | 5 => .int
  | 6 => .int
  | _ => .int
theorem nm_R : ∀ a, a < 8 → ∀ b, b < 8 → a ≠ b → (T_R a).2.1 ≠ (T_R b).2.1 := by decide +kernel
theorem ty_R_ok : ∀ k, k < 8 → parseFieldDescriptor (T_R k).2.2.1 = some (ty_R k) := by decide +kernel
theorem in_R : ∀ w ∈ u_ws R_R T_R 8, w ∈ lw_tbl := by decide +kernel
theorem gd_R : (u_ws R_R T_R 8).all goodWord = true := by decide +kernel
def R_W : String := "HalftoneRegions$RunWriter"
def T_W : u_T := fun k => match k with
  | 0 => ("HalftoneRegions$RunWriter", "bytes", "[B", true)
  | 1 => ("HalftoneRegions$RunWriter", "pace", "LHalftoneRegions$Pace;", true)
  | 2 => ("HalftoneRegions$RunWriter", "bits", "I", false)
  | 3 => ("HalftoneRegions$RunWriter", "run", "I", false)
  | _ => ("HalftoneRegions$RunWriter", "runs", "I", false)
def ty_W : Nat → FieldType := fun k => match k with
  | 0 => .array .byte
  | 1 => .object "HalftoneRegions$Pace"
  | 2 => .int
  | 3 => .int
  | _ => .int
theorem nm_W : ∀ a, a < 5 → ∀ b, b < 5 → a ≠ b → (T_W a).2.1 ≠ (T_W b).2.1 := by decide +kernel
theorem ty_W_ok : ∀ k, k < 5 → parseFieldDescriptor (T_W k).2.2.1 = some (ty_W k) := by decide +kernel
theorem in_W : ∀ w ∈ u_ws R_W T_W 5, w ∈ lw_tbl := by decide +kernel
theorem gd_W : (u_ws R_W T_W 5).all goodWord = true := by decide +kernel
def R_S : String := "HalftoneRegions$Sheet"
def T_S : u_T := fun k => match k with
  | 0 => ("HalftoneRegions$Sheet", "lines", "[I", true)
  | _ => ("HalftoneRegions$Sheet", "mask", "I", true)
def ty_S : Nat → FieldType := fun k => match k with
  | 0 => .array .int
  | _ => .int
theorem nm_S : ∀ a, a < 2 → ∀ b, b < 2 → a ≠ b → (T_S a).2.1 ≠ (T_S b).2.1 := by decide +kernel
theorem ty_S_ok : ∀ k, k < 2 → parseFieldDescriptor (T_S k).2.2.1 = some (ty_S k) := by decide +kernel
theorem in_S : ∀ w ∈ u_ws R_S T_S 2, w ∈ lw_tbl := by decide +kernel
theorem gd_S : (u_ws R_S T_S 2).all goodWord = true := by decide +kernel
def R_H : String := "HalftoneRegions"
def T_H : u_T := fun k => match k with
  | 0 => ("HalftoneRegions", "width", "I", true)
  | 1 => ("HalftoneRegions", "height", "I", true)
  | 2 => ("HalftoneRegions", "paper", "LHalftoneRegions$Sheet;", true)
  | 3 => ("HalftoneRegions", "region", "LHalftoneRegions$Sheet;", true)
  | 4 => ("HalftoneRegions", "book", "LHalftoneRegions$PatternSet;", true)
  | 5 => ("HalftoneRegions", "lattice", "LHalftoneRegions$Lattice;", true)
  | 6 => ("HalftoneRegions", "codes", "LHalftoneRegions$Codes;", true)
  | 7 => ("HalftoneRegions", "forecast", "LHalftoneRegions$Forecast;", true)
  | 8 => ("HalftoneRegions", "writer", "LHalftoneRegions$RunWriter;", true)
  | 9 => ("HalftoneRegions", "reader", "LHalftoneRegions$RunReader;", true)
  | 10 => ("HalftoneRegions", "nearest", "[I", true)
  | 11 => ("HalftoneRegions", "operator", "I", false)
  | 12 => ("HalftoneRegions", "background", "I", false)
  | 13 => ("HalftoneRegions", "skipping", "I", false)
  | _ => ("HalftoneRegions", "runs", "I", false)
def ty_H : Nat → FieldType := fun k => match k with
  | 0 => .int
  | 1 => .int
  | 2 => .object "HalftoneRegions$Sheet"
  | 3 => .object "HalftoneRegions$Sheet"
  | 4 => .object "HalftoneRegions$PatternSet"
  | 5 => .object "HalftoneRegions$Lattice"
  | 6 => .object "HalftoneRegions$Codes"
  | 7 => .object "HalftoneRegions$Forecast"
  | 8 => .object "HalftoneRegions$RunWriter"
  | 9 => .object "HalftoneRegions$RunReader"
  | 10 => .array .int
  | 11 => .int
  | 12 => .int
  | 13 => .int
  | _ => .int
theorem nm_H : ∀ a, a < 15 → ∀ b, b < 15 → a ≠ b → (T_H a).2.1 ≠ (T_H b).2.1 := by decide +kernel
theorem ty_H_ok : ∀ k, k < 15 → parseFieldDescriptor (T_H k).2.2.1 = some (ty_H k) := by decide +kernel
theorem in_H : ∀ w ∈ u_ws R_H T_H 15, w ∈ lw_tbl := by decide +kernel
theorem gd_H : (u_ws R_H T_H 15).all goodWord = true := by decide +kernel
def R_M : String := "HalftoneRegionsModel"
def T_M : u_T := fun k => match k with
  | 0 => ("HalftoneRegionsModel", "code", "I", false)
  | 1 => ("HalftoneRegionsModel", "width", "I", true)
  | 2 => ("HalftoneRegionsModel", "height", "I", true)
  | 3 => ("HalftoneRegionsModel", "page", "[Z", true)
  | 4 => ("HalftoneRegionsModel", "region", "[Z", true)
  | 5 => ("HalftoneRegionsModel", "patternWidth", "I", false)
  | 6 => ("HalftoneRegionsModel", "patternHeight", "I", false)
  | 7 => ("HalftoneRegionsModel", "many", "I", false)
  | 8 => ("HalftoneRegionsModel", "cells", "[Z", true)
  | 9 => ("HalftoneRegionsModel", "columns", "I", false)
  | 10 => ("HalftoneRegionsModel", "rows", "I", false)
  | 11 => ("HalftoneRegionsModel", "gx", "I", false)
  | 12 => ("HalftoneRegionsModel", "gy", "I", false)
  | 13 => ("HalftoneRegionsModel", "dx", "I", false)
  | 14 => ("HalftoneRegionsModel", "dy", "I", false)
  | 15 => ("HalftoneRegionsModel", "greys", "[I", true)
  | 16 => ("HalftoneRegionsModel", "operator", "I", false)
  | 17 => ("HalftoneRegionsModel", "background", "I", false)
  | 18 => ("HalftoneRegionsModel", "skips", "I", false)
  | 19 => ("HalftoneRegionsModel", "written", "[Z", true)
  | 20 => ("HalftoneRegionsModel", "bits", "I", false)
  | 21 => ("HalftoneRegionsModel", "made", "I", false)
  | 22 => ("HalftoneRegionsModel", "came", "[I", true)
  | 23 => ("HalftoneRegionsModel", "cameBytes", "I", false)
  | 24 => ("HalftoneRegionsModel", "states", "[I", true)
  | 25 => ("HalftoneRegionsModel", "counts", "[I", true)
  | 26 => ("HalftoneRegionsModel", "here", "[Z", true)
  | 27 => ("HalftoneRegionsModel", "above", "[Z", true)
  | 28 => ("HalftoneRegionsModel", "fresh", "[I", true)
  | 29 => ("HalftoneRegionsModel", "sum", "I", false)
  | 30 => ("HalftoneRegionsModel", "number", "I", false)
  | 31 => ("HalftoneRegionsModel", "runs", "I", false)
  | 32 => ("HalftoneRegionsModel", "at", "I", false)
  | 33 => ("HalftoneRegionsModel", "left", "I", false)
  | 34 => ("HalftoneRegionsModel", "loaded", "Z", false)
  | 35 => ("HalftoneRegionsModel", "ended", "Z", false)
  | 36 => ("HalftoneRegionsModel", "toCome", "I", false)
  | _ => ("HalftoneRegionsModel", "beyond", "Z", false)
def ty_M : Nat → FieldType := fun k => match k with
  | 0 => .int
  | 1 => .int
  | 2 => .int
  | 3 => .array .boolean
  | 4 => .array .boolean
  | 5 => .int
  | 6 => .int
  | 7 => .int
  | 8 => .array .boolean
  | 9 => .int
  | 10 => .int
  | 11 => .int
  | 12 => .int
  | 13 => .int
  | 14 => .int
  | 15 => .array .int
  | 16 => .int
  | 17 => .int
  | 18 => .int
  | 19 => .array .boolean
  | 20 => .int
  | 21 => .int
  | 22 => .array .int
  | 23 => .int
  | 24 => .array .int
  | 25 => .array .int
  | 26 => .array .boolean
  | 27 => .array .boolean
  | 28 => .array .int
  | 29 => .int
  | 30 => .int
  | 31 => .int
  | 32 => .int
  | 33 => .int
  | 34 => .boolean
  | 35 => .boolean
  | 36 => .int
  | _ => .boolean
theorem nm_M : ∀ a, a < 38 → ∀ b, b < 38 → a ≠ b → (T_M a).2.1 ≠ (T_M b).2.1 := by decide +kernel
theorem ty_M_ok : ∀ k, k < 38 → parseFieldDescriptor (T_M k).2.2.1 = some (ty_M k) := by decide +kernel
theorem in_M : ∀ w ∈ u_ws R_M T_M 38, w ∈ lw_tbl := by decide +kernel
theorem gd_M : (u_ws R_M T_M 38).all goodWord = true := by decide +kernel
abbrev classes : List vw_C := [(R_C, T_C, 1), (R_F, T_F, 2), (R_L, T_L, 7), (R_P, T_P, 2), (R_B, T_B, 4), (R_R, T_R, 8), (R_W, T_W, 5), (R_S, T_S, 2), (R_H, T_H, 15), (R_M, T_M, 38)]
def gw : List Jvm.Cond := lw_tbl.filter goodWord
theorem gw_in {w : Jvm.Cond} (h : w ∈ lw_tbl) (hg : goodWord w = true) : w ∈ gw := List.mem_filter.mpr ⟨h, hg⟩
def clsOK (r : vw_C) : Prop := (∀ w ∈ u_ws r.1 r.2.1 r.2.2, w ∈ gw) ∧ (∀ a, a < r.2.2 → ∀ b, b < r.2.2 → a ≠ b → (r.2.1 a).2.1 ≠ (r.2.1 b).2.1) ∧ (∃ ty : Nat → FieldType, ∀ k, k < r.2.2 → parseFieldDescriptor (r.2.1 k).2.2.1 = some (ty k))
theorem cls_all : ∀ (ci : Nat) (r : vw_C), classes[ci]? = some r → clsOK r := by
  intro ci r h
  match ci, h with
  | 0, h => cases h; exact ⟨fun w hw => gw_in (in_C w hw) (List.all_eq_true.mp gd_C w hw), nm_C, ty_C, ty_C_ok⟩
  | 1, h => cases h; exact ⟨fun w hw => gw_in (in_F w hw) (List.all_eq_true.mp gd_F w hw), nm_F, ty_F, ty_F_ok⟩
  | 2, h => cases h; exact ⟨fun w hw => gw_in (in_L w hw) (List.all_eq_true.mp gd_L w hw), nm_L, ty_L, ty_L_ok⟩
  | 3, h => cases h; exact ⟨fun w hw => gw_in (in_P w hw) (List.all_eq_true.mp gd_P w hw), nm_P, ty_P, ty_P_ok⟩
  | 4, h => cases h; exact ⟨fun w hw => gw_in (in_B w hw) (List.all_eq_true.mp gd_B w hw), nm_B, ty_B, ty_B_ok⟩
  | 5, h => cases h; exact ⟨fun w hw => gw_in (in_R w hw) (List.all_eq_true.mp gd_R w hw), nm_R, ty_R, ty_R_ok⟩
  | 6, h => cases h; exact ⟨fun w hw => gw_in (in_W w hw) (List.all_eq_true.mp gd_W w hw), nm_W, ty_W, ty_W_ok⟩
  | 7, h => cases h; exact ⟨fun w hw => gw_in (in_S w hw) (List.all_eq_true.mp gd_S w hw), nm_S, ty_S, ty_S_ok⟩
  | 8, h => cases h; exact ⟨fun w hw => gw_in (in_H w hw) (List.all_eq_true.mp gd_H w hw), nm_H, ty_H, ty_H_ok⟩
  | 9, h => cases h; exact ⟨fun w hw => gw_in (in_M w hw) (List.all_eq_true.mp gd_M w hw), nm_M, ty_M, ty_M_ok⟩
  | k + 10, h => simp [classes] at h
end
section
/-! THE LAYER: cells by number, values by kind, stores as functions; each instruction once -/
abbrev AV : Type := Nat ⊕ (Int32 ⊕ Int64)
abbrev aR (o : Nat) : AV := Sum.inl o
abbrev aI (x : Int32) : AV := Sum.inr (Sum.inl x)
abbrev aL (x : Int64) : AV := Sum.inr (Sum.inr x)
def av_V (ad : Nat → Nat) (v : AV) : Value := match v with
  | .inl o => .ref (ad o)
  | .inr (.inl x) => .int x
  | .inr (.inr x) => .long x
def av_c (v : AV) : Nat := match v with
  | .inr (.inr _) => 2
  | _ => 1
theorem av_cat (ad : Nat → Nat) (v : AV) : (av_V ad v).category = av_c v := by
  rcases v with o | x | x <;> rfl
theorem av_cats (ad : Nat → Nat) (st : List AV) : ((st.map (av_V ad)).map fun v => v.category).sum = (st.map av_c).sum := by
  rw [List.map_map]
  congr 1
  exact List.map_congr_left (fun v _ => av_cat ad v)
/-- int data by cell and place, long data by cell and place -/
abbrev St : Type := (Nat → Nat → Int32) × (Nat → Nat → Int64)
def pt (f : Nat → Nat → Int32) (o : Nat) (r : Nat → Int32) : Nat → Nat → Int32 := fun q => if q = o then r else f q
def ptL (f : Nat → Nat → Int64) (o : Nat) (r : Nat → Int64) : Nat → Nat → Int64 := fun q => if q = o then r else f q
theorem pt_s {f : Nat → Nat → Int32} {o : Nat} {r : Nat → Int32} : pt f o r o = r := if_pos rfl
theorem pt_n {f : Nat → Nat → Int32} {o q : Nat} {r : Nat → Int32} (h : q ≠ o) : pt f o r q = f q := if_neg h
theorem ptL_s {f : Nat → Nat → Int64} {o : Nat} {r : Nat → Int64} : ptL f o r o = r := if_pos rfl
theorem ptL_n {f : Nat → Nat → Int64} {o q : Nat} {r : Nat → Int64} (h : q ≠ o) : ptL f o r q = f q := if_neg h
def puI (S : St) (o k : Nat) (v : Int32) : St := (pt S.1 o (upd (S.1 o) k v), S.2)
def puL (S : St) (o k : Nat) (v : Int64) : St := (S.1, ptL S.2 o (vp_updL (S.2 o) k v))
/-- a cell's shape: an object of a class, its fields references to cells or ints; or an array -/
abbrev Sh : Type := (Nat × List (Option Nat)) ⊕ (FieldType × Nat)
def fldV (ad : Nat → Nat) (r : Nat → Int32) (k : Nat) (x : Option Nat) : Value := match x with
  | some q => if q < 1000 then .ref (ad q) else .null
  | none => .int (r k)
def cellA (ad : Nat → Nat) (cA : FieldType → ClassId) (S : St) (o : Nat) (x : Sh) : va_E := match x with
  | .inl (ci, fl) => .inr (ci, fl.mapIdx (fldV ad (S.1 o)))
  | .inr (.long, n) => .inl (cA .long, n, .inr (.inl (S.2 o)))
  | .inr (ty, n) => .inl (cA ty, n, .inl (S.1 o))
def wdA (ad : Nat → Nat) (cA : FieldType → ClassId) (S : St) (sh : List Sh) : va_W := sh.mapIdx (fun o x => (ad o, cellA ad cA S o x))
def tysA (cA : FieldType → ClassId) : List (ClassId × FieldType) := [(cA .int, .int), (cA .long, .long), (cA .byte, .byte), (cA .boolean, .boolean)]
def aA (n : Nat) (ad : Nat → Nat) (sz : Nat) : Nat → Prop := fun q => (∃ i, i < n ∧ q = ad i) ∨ sz ≤ q
theorem wd_at {ad : Nat → Nat} {cA : FieldType → ClassId} {S : St} {sh : List Sh} {o : Nat} {x : Sh} (h : sh[o]? = some x) : (wdA ad cA S sh)[o]? = some (ad o, cellA ad cA S o x) := by
  unfold wdA
  rw [List.getElem?_mapIdx, h]
  rfl
theorem wd_of {ad : Nat → Nat} {cA : FieldType → ClassId} {S : St} {sh : List Sh} {o : Nat} {q : Nat × va_E} (h : (wdA ad cA S sh)[o]? = some q) : ∃ x, sh[o]? = some x ∧ q = (ad o, cellA ad cA S o x) := by
  unfold wdA at h
  rw [List.getElem?_mapIdx] at h
  cases hx : sh[o]? with
  | none => rw [hx] at h; cases h
  | some x => rw [hx] at h; exact ⟨x, rfl, (Option.some.inj h).symm⟩
theorem wd_lt {sh : List Sh} {o : Nat} {x : Sh} (h : sh[o]? = some x) : o < sh.length := (List.getElem?_eq_some_iff.mp h).1
theorem wd_D {ad : Nat → Nat} {cA : FieldType → ClassId} {S : St} {sh : List Sh} {sz : Nat} (hi : ∀ i j, i < sh.length → j < sh.length → ad i = ad j → i = j) : va_D (aA sh.length ad sz) (wdA ad cA S sh) := by
  refine ⟨fun i j p q h1 h2 h3 => ?_, fun k q h => ?_⟩
  · obtain ⟨x, hx, rfl⟩ := wd_of h1
    obtain ⟨z, hz, rfl⟩ := wd_of h2
    exact hi i j (wd_lt hx) (wd_lt hz) h3
  · obtain ⟨x, hx, rfl⟩ := wd_of h
    exact Or.inl ⟨k, wd_lt hx, rfl⟩
theorem wd_set {ad : Nat → Nat} {cA : FieldType → ClassId} {S S' : St} {sh : List Sh} {o : Nat} {x : Sh} {e : va_E} (h : sh[o]? = some x) (he : cellA ad cA S' o x = e) (hn : ∀ q z, q ≠ o → cellA ad cA S' q z = cellA ad cA S q z) : (wdA ad cA S sh).set o (ad o, e) = wdA ad cA S' sh := by
  apply List.ext_getElem?
  intro i
  by_cases hi : i = o
  · subst hi
    have hl : i < (wdA ad cA S sh).length := by
      unfold wdA; rw [List.length_mapIdx]; exact wd_lt h
    rw [List.getElem?_set_self hl, wd_at h, he]
  · rw [List.getElem?_set_ne (fun z => hi z.symm)]
    unfold wdA
    rw [List.getElem?_mapIdx, List.getElem?_mapIdx]
    cases sh[i]? with
    | none => rfl
    | some z => simp only [Option.map_some]; rw [hn i z hi]
theorem cellA_n {ad : Nat → Nat} {cA : FieldType → ClassId} {S S' : St} {q : Nat} {z : Sh} (h1 : S'.1 q = S.1 q) (h2 : S'.2 q = S.2 q) : cellA ad cA S' q z = cellA ad cA S q z := by
  rcases z with ⟨ci, fl⟩ | ⟨ty, n⟩
  · show Sum.inr (ci, fl.mapIdx (fldV ad (S'.1 q))) = Sum.inr (ci, fl.mapIdx (fldV ad (S.1 q)))
    rw [h1]
  · cases ty <;> simp only [cellA, h1, h2]
theorem wd_puI {ad : Nat → Nat} {cA : FieldType → ClassId} {S : St} {sh : List Sh} {o k ci : Nat} {fl : List (Option Nat)} {v : Int32} (h : sh[o]? = some (.inl (ci, fl))) (hk : fl[k]? = some none) :
    (wdA ad cA S sh).set o (ad o, .inr (ci, (fl.mapIdx (fldV ad (S.1 o))).set k (.int v))) = wdA ad cA (puI S o k v) sh := by
  refine wd_set h ?_ (fun q z hq => cellA_n (pt_n hq) rfl)
  show Sum.inr (ci, fl.mapIdx (fldV ad ((puI S o k v).1 o))) = _
  congr 2
  apply List.ext_getElem?
  intro i
  by_cases hi : i = k
  · subst hi
    have hl : i < (fl.mapIdx (fldV ad (S.1 o))).length := by
      rw [List.length_mapIdx]; exact (List.getElem?_eq_some_iff.mp hk).1
    rw [List.getElem?_set_self hl, List.getElem?_mapIdx, hk]
    show some (Value.int ((pt S.1 o (upd (S.1 o) i v)) o i)) = _
    rw [pt_s]
    simp [upd]
  · rw [List.getElem?_set_ne (fun z => hi z.symm), List.getElem?_mapIdx, List.getElem?_mapIdx]
    cases fl[i]? with
    | none => rfl
    | some z =>
      cases z with
      | some q => rfl
      | none =>
        show some (Value.int ((pt S.1 o (upd (S.1 o) k v)) o i)) = some (Value.int (S.1 o i))
        rw [pt_s]
        simp [upd, hi]
theorem wd_arI {ad : Nat → Nat} {cA : FieldType → ClassId} {S : St} {sh : List Sh} {o k n : Nat} {ty : FieldType} {v : Int32} (h : sh[o]? = some (.inr (ty, n))) (ht : ty ≠ .long) :
    (wdA ad cA S sh).set o (ad o, .inl (cA ty, n, .inl (upd (S.1 o) k v))) = wdA ad cA (puI S o k v) sh := by
  refine wd_set h ?_ (fun q z hq => cellA_n (pt_n hq) rfl)
  have h1 : (puI S o k v).1 o = upd (S.1 o) k v := pt_s
  cases ty <;> first | exact absurd rfl ht | (simp only [cellA, h1])
theorem wd_arL {ad : Nat → Nat} {cA : FieldType → ClassId} {S : St} {sh : List Sh} {o k n : Nat} {v : Int64} (h : sh[o]? = some (.inr (.long, n))) :
    (wdA ad cA S sh).set o (ad o, .inl (cA .long, n, .inr (.inl (vp_updL (S.2 o) k v)))) = wdA ad cA (puL S o k v) sh := by
  refine wd_set h ?_ (fun q z hq => cellA_n rfl (ptL_n hq))
  have h1 : (puL S o k v).2 o = vp_updL (S.2 o) k v := ptL_s
  simp only [cellA, h1]
/-! the locals, by place -/
def lh (ad : Nat → Nat) (ls : Array Slot) (nL : Nat) (lv : List (Option AV)) : Prop := ls.size = nL ∧ lv_wf ls ∧ ∀ (i : Nat) (v : AV), lv[i]? = some (some v) → ls[i]? = some (.val (av_V ad v))
def lhL (ad : Nat → Nat) (lv : List (Option AV)) : List (Nat × Value) := (List.range lv.length).filterMap (fun i => match lv[i]? with | some (some v) => some (i, av_V ad v) | _ => none)
theorem lhL_in {ad : Nat → Nat} {lv : List (Option AV)} {i : Nat} {v : AV} (h : lv[i]? = some (some v)) : (i, av_V ad v) ∈ lhL ad lv := by
  refine List.mem_filterMap.mpr ⟨i, List.mem_range.mpr (List.getElem?_eq_some_iff.mp h).1, ?_⟩
  rw [h]
theorem lhL_of {ad : Nat → Nat} {lv : List (Option AV)} {q : Nat × Value} (h : q ∈ lhL ad lv) : ∃ v, lv[q.1]? = some (some v) ∧ q.2 = av_V ad v := by
  obtain ⟨i, -, hi⟩ := List.mem_filterMap.mp h
  split at hi
  next v hv =>
    cases hi
    exact ⟨v, hv, rfl⟩
  next => cases hi
theorem lh_has {ad : Nat → Nat} {ls : Array Slot} {nL : Nat} {lv : List (Option AV)} (h : lh ad ls nL lv) : lv_has ls nL (lhL ad lv) := by
  refine ⟨h.1, h.2.1, fun q hq => ?_⟩
  obtain ⟨v, h1, h2⟩ := lhL_of hq
  rw [h2]
  exact h.2.2 _ _ h1
/-- no long begins just ahead of place i -/
def lvP (lv : List (Option AV)) (i : Nat) : Bool := match i with
  | 0 => true
  | j + 1 => match lv[j]? with
    | some (some (.inr (.inr _))) => false
    | _ => true
theorem lvP_c {ad : Nat → Nat} {lv : List (Option AV)} {i j : Nat} {v : AV} (h : lvP lv i = true) (hj : lv[j]? = some (some v)) (hji : j + 1 = i) : (av_V ad v).category ≠ 2 := by
  subst hji
  unfold lvP at h
  rcases v with o | x | x
  · intro q; cases q
  · intro q; cases q
  · simp only [hj] at h; cases h
theorem lh_set1 {ad : Nat → Nat} {ls : Array Slot} {nL : Nat} {lv : List (Option AV)} {i : Nat} {v : AV} {w : Value} (hw : av_V ad v = w) (hp : lvP lv i = true) (h : lv_has ls nL ((i, w) :: (lhL ad lv).filter (fun q => !(q.1 == i) && !(q.1 + 1 == i && q.2.category == 2)))) : lh ad ls nL (lv.set i (some v)) := by
  refine ⟨h.1, h.2.1, fun j u hj => ?_⟩
  by_cases hji : j = i
  · subst hji
    have hl : j < lv.length := by
      have := (List.getElem?_eq_some_iff.mp hj).1
      rwa [List.length_set] at this
    rw [List.getElem?_set_self hl] at hj
    cases hj
    rw [hw]
    exact h.2.2 (j, w) List.mem_cons_self
  · rw [List.getElem?_set_ne (fun z => hji z.symm)] at hj
    refine h.2.2 (j, av_V ad u) (List.mem_cons_of_mem _ (List.mem_filter.mpr ⟨lhL_in hj, ?_⟩))
    have h2 : ¬ (j + 1 = i ∧ (av_V ad u).category = 2) := fun z => lvP_c (ad := ad) hp hj z.1 z.2
    simp [hji]
    rcases Decidable.em (j + 1 = i) with z | z
    · exact Or.inr (fun z2 => h2 ⟨z, z2⟩)
    · exact Or.inl z
theorem lh_set2 {ad : Nat → Nat} {ls : Array Slot} {nL : Nat} {lv : List (Option AV)} {i : Nat} {v : AV} {w : Value} (hw : av_V ad v = w) (hp : lvP lv i = true) (h : lv_has ls nL ((i, w) :: (lhL ad lv).filter (fun q => !(q.1 == i) && (!(q.1 == i + 1) && !(q.1 + 1 == i && q.2.category == 2))))) : lh ad ls nL ((lv.set i (some v)).set (i + 1) none) := by
  refine ⟨h.1, h.2.1, fun j u hj => ?_⟩
  by_cases hj2 : j = i + 1
  · subst hj2
    have hl : i + 1 < (lv.set i (some v)).length := by
      have := (List.getElem?_eq_some_iff.mp hj).1
      rwa [List.length_set] at this
    rw [List.getElem?_set_self hl] at hj
    cases hj
  · rw [List.getElem?_set_ne (fun z => hj2 z.symm)] at hj
    by_cases hji : j = i
    · subst hji
      have hl : j < lv.length := by
        have := (List.getElem?_eq_some_iff.mp hj).1
        rwa [List.length_set] at this
      rw [List.getElem?_set_self hl] at hj
      cases hj
      rw [hw]
      exact h.2.2 (j, w) List.mem_cons_self
    · rw [List.getElem?_set_ne (fun z => hji z.symm)] at hj
      refine h.2.2 (j, av_V ad u) (List.mem_cons_of_mem _ (List.mem_filter.mpr ⟨lhL_in hj, ?_⟩))
      have h2 : ¬ (j + 1 = i ∧ (av_V ad u).category = 2) := fun z => lvP_c (ad := ad) hp hj z.1 z.2
      simp [hji, hj2]
      rcases Decidable.em (j + 1 = i) with z | z
      · exact Or.inr (fun z2 => h2 ⟨z, z2⟩)
      · exact Or.inl z
def lvArgs : List AV → List (Option AV)
  | [] => []
  | .inr (.inr x) :: vs => some (.inr (.inr x)) :: none :: lvArgs vs
  | .inr (.inl x) :: vs => some (.inr (.inl x)) :: lvArgs vs
  | .inl o :: vs => some (.inl o) :: lvArgs vs
def lvIn (av : List AV) (n : Nat) : List (Option AV) := lvArgs av ++ List.replicate (n - (lvArgs av).length) none
theorem sl_len (ad : Nat → Nat) : ∀ av : List AV, (lg_sl (av.map (av_V ad))).length = (lvArgs av).length
  | [] => rfl
  | .inr (.inr x) :: vs => by
    have h := sl_len ad vs
    simp only [lg_sl, List.map_cons, List.flatMap_cons, lvArgs, List.length_append, List.length_cons] at h ⊢
    rw [h]
    simp [av_V, Value.category]
    omega
  | .inr (.inl x) :: vs => by
    have h := sl_len ad vs
    simp only [lg_sl, List.map_cons, List.flatMap_cons, lvArgs, List.length_append, List.length_cons] at h ⊢
    rw [h]
    simp [av_V, Value.category]
    omega
  | .inl o :: vs => by
    have h := sl_len ad vs
    simp only [lg_sl, List.map_cons, List.flatMap_cons, lvArgs, List.length_append, List.length_cons] at h ⊢
    rw [h]
    simp [av_V, Value.category]
    omega
theorem sl_at (ad : Nat → Nat) : ∀ (av : List AV) (i : Nat) (v : AV), (lvArgs av)[i]? = some (some v) → (lg_sl (av.map (av_V ad)))[i]? = some (.val (av_V ad v))
  | [], i, v, h => by simp [lvArgs] at h
  | .inr (.inr x) :: vs, i, v, h => by
    have e : lg_sl ((.inr (.inr x) :: vs : List AV).map (av_V ad)) = Slot.val (.long x) :: Slot.second :: lg_sl (vs.map (av_V ad)) := by
      simp [lg_sl, av_V, Value.category]
    rw [e]
    match i, h with
    | 0, h => simp [lvArgs] at h; subst h; rfl
    | 1, h => simp [lvArgs] at h
    | i + 2, h => exact sl_at ad vs i v (by simpa [lvArgs] using h)
  | .inr (.inl x) :: vs, i, v, h => by
    have e : lg_sl ((.inr (.inl x) :: vs : List AV).map (av_V ad)) = Slot.val (.int x) :: lg_sl (vs.map (av_V ad)) := by
      simp [lg_sl, av_V, Value.category]
    rw [e]
    match i, h with
    | 0, h => simp [lvArgs] at h; subst h; rfl
    | i + 1, h => exact sl_at ad vs i v (by simpa [lvArgs] using h)
  | .inl o :: vs, i, v, h => by
    have e : lg_sl ((.inl o :: vs : List AV).map (av_V ad)) = Slot.val (.ref (ad o)) :: lg_sl (vs.map (av_V ad)) := by
      simp [lg_sl, av_V, Value.category]
    rw [e]
    match i, h with
    | 0, h => simp [lvArgs] at h; subst h; rfl
    | i + 1, h => exact sl_at ad vs i v (by simpa [lvArgs] using h)
theorem lh_entry (ad : Nat → Nat) (av : List AV) {n : Nat} (h : (lvArgs av).length ≤ n) : lh ad ((lg_sl (av.map (av_V ad)) ++ List.replicate (n - (lg_sl (av.map (av_V ad))).length) Slot.unset).toArray) n (lvIn av n) := by
  obtain ⟨h1, h2, -⟩ := lv_entry (av.map (av_V ad)) (n := n) (by rw [sl_len]; exact h)
  refine ⟨h1, h2, fun i v hi => ?_⟩
  unfold lvIn at hi
  rw [List.getElem?_toArray]
  by_cases hl : i < (lvArgs av).length
  · rw [List.getElem?_append_left hl] at hi
    rw [List.getElem?_append_left (by rw [sl_len]; exact hl)]
    exact sl_at ad av i v hi
  · rw [List.getElem?_append_right (by omega)] at hi
    have := List.mem_of_getElem? hi
    have := List.eq_of_mem_replicate this
    cases this
end
section
/-! methods as records, the judgement EE, a row for each instruction -/
def nestWord (w : Jvm.Cond) : Bool := match w with
  | .fieldLinkNest .. => true
  | .methodLinkNest .. => true
  | _ => false
def nw : List Jvm.Cond := lw_tbl.filter nestWord
theorem nw_in {w : Jvm.Cond} (h : w ∈ lw_tbl) (hg : nestWord w = true) : w ∈ nw := List.mem_filter.mpr ⟨h, hg⟩
theorem gw_good {w : Jvm.Cond} (h : w ∈ gw) : w ∈ gw ∧ ((w.onTables && w.keeps) = true ∨ ∃ ty, w = .arrayClass ty) := ⟨h, good_of_word (List.mem_filter.mp h).2⟩
def nOK (U : State) : Prop := ∀ w ∈ nw, va_Nw w U
theorem nOK.warm {s U : State} (hW : s.WarmedH U.vm) (h : nOK s) : nOK U := by
  intro w hw
  have h1 := h w hw
  have h2 : nestWord w = true := (List.mem_filter.mp hw).2
  unfold nestWord at h2
  split at h2
  · exact va_Nw.warmF hW h1
  · exact va_Nw.warmM hW h1
  · cases h2
theorem nOK.vm {s U : State} (hvm : s.vm = U.vm) (h : nOK s) : nOK U := by
  intro w hw
  have h1 := h w hw
  have h2 : nestWord w = true := (List.mem_filter.mp hw).2
  unfold nestWord at h2
  split at h2
  · exact va_Nw.same rfl hvm h1
  · exact va_Nw.same rfl hvm h1
  · cases h2
/-- name, code, locals, answer, instructions (place, instruction, length, goal of a jump), fields (pool place, class, number, kind: 0 an int, 1 a boolean, 2 not written) -/
abbrev Mt : Type := MethodName × ByteArray × Nat × Option FieldType × List (Nat × Instr × Nat × Nat) × List (Nat × Nat × Nat × Nat)
def cAt : List (Nat × Instr × Nat × Nat) → Nat → Option (Instr × Nat × Nat)
  | [], _ => none
  | (q, x) :: r, pc => if q = pc then some x else cAt r pc
def fAt : List (Nat × Nat × Nat × Nat) → Nat → Option (Nat × Nat × Nat)
  | [], _ => none
  | (q, x) :: r, i => if q = i then some x else fAt r i
theorem cAt_in : ∀ {t : List (Nat × Instr × Nat × Nat)} {pc : Nat} {x : Instr × Nat × Nat}, cAt t pc = some x → (pc, x) ∈ t
  | [], _, _, h => by cases h
  | (q, z) :: r, pc, x, h => by
    unfold cAt at h
    split at h
    next e => cases h; subst e; exact List.mem_cons_self
    next => exact List.mem_cons_of_mem _ (cAt_in h)
theorem fAt_in : ∀ {t : List (Nat × Nat × Nat × Nat)} {i : Nat} {x : Nat × Nat × Nat}, fAt t i = some x → (i, x) ∈ t
  | [], _, _, h => by cases h
  | (q, z) :: r, i, x, h => by
    unfold fAt at h
    split at h
    next e => cases h; subst e; exact List.mem_cons_self
    next => exact List.mem_cons_of_mem _ (fAt_in h)
/-- where a jump goes -/
def jTo (pc : Nat) (i : Instr) (t : Nat) : Bool := match i with
  | .goto o => decide ((pc : Int) + o = (t : Int))
  | .ifCond _ o => decide ((pc : Int) + o = (t : Int))
  | .if_icmp _ o => decide ((pc : Int) + o = (t : Int))
  | _ => true
def fldB (own : String) (x : Nat × Nat × Nat × Nat) : Bool := match classes[x.2.1]? with
  | some r => decide (x.2.2.1 < r.2.2) && (decide (Jvm.Cond.fieldLink own x.1 (r.2.1 x.2.2.1).1 (r.2.1 x.2.2.1).2.1 (r.2.1 x.2.2.1).2.2.1 ∈ lw_tbl) || decide (Jvm.Cond.fieldLinkNest own x.1 (r.2.1 x.2.2.1).1 (r.2.1 x.2.2.1).2.1 (r.2.1 x.2.2.1).2.2.1 nestHost ∈ lw_tbl)) &&
    (if x.2.2.2 = 0 then decide ((r.2.1 x.2.2.1).2.2.1 = "I" ∧ (r.2.1 x.2.2.1).2.2.2 = false) else if x.2.2.2 = 1 then decide ((r.2.1 x.2.2.1).2.2.1 = "Z" ∧ (r.2.1 x.2.2.1).2.2.2 = false) else true)
  | none => false
def cdB (b : ByteArray) (x : Nat × Instr × Nat × Nat) : Bool := decide (decode b x.1 = .ok (x.2.1, x.2.2.1)) && jTo x.1 x.2.1 x.2.2.2
def okM (y : Mt) : Prop := (y.2.2.2.2.1.all (cdB y.2.1) = true) ∧ (y.2.2.2.2.2.all (fldB y.1.cls) = true) ∧ Jvm.Cond.code y.1 y.2.1 y.2.2.1 y.2.2.2.1 ∈ gw ∧ plainFor y.1 = true
/-- decoded, and its fields known -/
def okD (y : Mt) : Prop := (y.2.2.2.2.1.all (cdB y.2.1) = true) ∧ (y.2.2.2.2.2.all (fldB y.1.cls) = true)
theorem okM.D {y : Mt} (h : okM y) : okD y := ⟨h.1, h.2.1⟩
theorem okM_c {y : Mt} (h : okD y) {pc : Nat} {i : Instr} {n t : Nat} (hc : cAt y.2.2.2.2.1 pc = some (i, n, t)) : decode y.2.1 pc = .ok (i, n) ∧ jTo pc i t = true := by
  have h1 := List.all_eq_true.mp h.1 _ (cAt_in hc)
  unfold cdB at h1
  rw [Bool.and_eq_true, decide_eq_true_eq] at h1
  exact h1
abbrev ZF : Type := List Frame → Array Value → State → List Sh → (Nat → Nat) → va_G → (FieldType → ClassId) → State → Prop
def Cx (B : List Sh) (y : Mt) (p : Program) (s : State) (m : MethodId) (args : Array Value) (meth : Method) (c : Code) (sh : List Sh) (ad : Nat → Nat) (D : va_G) (cA : FieldType → ClassId) : Prop :=
  p.tables.exec = Jvm.exec ∧ c.code = y.2.1 ∧ meth.sig.returnType = y.2.2.2.1 ∧ c.maxLocals = y.2.2.1 ∧ s.vm.findClass y.1.cls = some m.cls ∧ (∀ w ∈ gw, w.before args s = true) ∧ meth.locks = false ∧ nOK s ∧ va_K D classes (tysA cA) s ∧ okD y ∧ (∃ sh', sh = B ++ sh') ∧ (∀ i j, i < sh.length → j < sh.length → ad i = ad j → i = j)
def EE (l : Launch) (B : List Sh) (R : Room) (y : Mt) (Zf : ZF) (kc ks pc : Nat) (lv : List (Option AV)) (st : List AV) (S : St) : Prop :=
  ∀ (p : Program) (e : Env) (s : State) (m : MethodId) (args : Array Value) (below : List Frame) (meth : Method) (c : Code) (sh : List Sh) (ad : Nat → Nat) (D : va_G) (cA : FieldType → ClassId) (H : Heap) (locs : List Loc) (ls : Array Slot),
    Cx B y p s m args meth c sh ad D cA → va_P D classes (wdA ad cA S sh) H → va_S (aA sh.length ad s.heap.size) s.heap H locs → lh ad ls y.2.2.1 lv →
    W p l e R s m args below meth c H locs kc ks (Zf below args s sh ad D cA) (F0 m pc ls (st.map (av_V ad)))
theorem sh_pre {B sh : List Sh} (h : ∃ sh', sh = B ++ sh') {o : Nat} {x : Sh} (hx : B[o]? = some x) : sh[o]? = some x := by
  obtain ⟨sh', rfl⟩ := h
  rw [List.getElem?_append_left (List.getElem?_eq_some_iff.mp hx).1]
  exact hx
section Rows
variable {l : Launch} {B : List Sh} {R : Room} {y : Mt} {Zf : ZF} {kc ks pc : Nat} {lv : List (Option AV)} {st : List AV} {S : St}
/-! one-step rows, by what they do to locals and stack -/
theorem e_push {i : Instr} {n t : Nat} {v : AV} (hd : cAt y.2.2.2.2.1 pc = some (i, n, t))
    (row : ∀ {p : Program} {e : Env} {s : State} {m : MethodId} {args : Array Value} {below : List Frame} {meth : Method} {c : Code} {H : Heap} {locs : List Loc} {Q : State → Prop} {ls : Array Slot} {rest : List Value} {ad : Nat → Nat},
      p.tables.exec = Jvm.exec → c.code = y.2.1 → decode y.2.1 pc = .ok (i, n) → lh ad ls y.2.2.1 lv → W p l e R s m args below meth c H locs kc ks Q (F0 m (pc + n) ls (av_V ad v :: rest)) → W p l e R s m args below meth c H locs kc ks Q (F0 m pc ls rest))
    (k : EE l B R y Zf kc ks (pc + n) lv (v :: st) S) : EE l B R y Zf kc ks pc lv st S := by
  intro p e s m args below meth c sh ad D cA H locs ls C hP hS hl
  exact row C.1 C.2.1 (okM_c C.2.2.2.2.2.2.2.2.2.1 hd).1 hl (k p e s m args below meth c sh ad D cA H locs ls C hP hS hl)
theorem e_stk {i : Instr} {n t : Nat} {st1 st2 : List AV} (hd : cAt y.2.2.2.2.1 pc = some (i, n, t))
    (row : ∀ {p : Program} {e : Env} {s : State} {m : MethodId} {args : Array Value} {below : List Frame} {meth : Method} {c : Code} {H : Heap} {locs : List Loc} {Q : State → Prop} {ls : Array Slot} {rest : List Value} {ad : Nat → Nat},
      p.tables.exec = Jvm.exec → c.code = y.2.1 → decode y.2.1 pc = .ok (i, n) → W p l e R s m args below meth c H locs kc ks Q (F0 m (pc + n) ls (st2.map (av_V ad) ++ rest)) → W p l e R s m args below meth c H locs kc ks Q (F0 m pc ls (st1.map (av_V ad) ++ rest)))
    (k : EE l B R y Zf kc ks (pc + n) lv (st2 ++ st) S) : EE l B R y Zf kc ks pc lv (st1 ++ st) S := by
  intro p e s m args below meth c sh ad D cA H locs ls C hP hS hl
  have h := k p e s m args below meth c sh ad D cA H locs ls C hP hS hl
  rw [List.map_append] at h ⊢
  exact row C.1 C.2.1 (okM_c C.2.2.2.2.2.2.2.2.2.1 hd).1 h
end Rows
/-! the step of a simple instruction -/
def bI (f : Int32 → Int32 → Int32) (lv : List (Option AV)) (st : List AV) (S : St) : Option (List (Option AV) × List AV × St) := match st with
  | .inr (.inl y) :: .inr (.inl x) :: r => some (lv, aI (f x y) :: r, S)
  | _ => none
def bL (f : Int64 → Int64 → Int64) (lv : List (Option AV)) (st : List AV) (S : St) : Option (List (Option AV) × List AV × St) := match st with
  | .inr (.inr y) :: .inr (.inr x) :: r => some (lv, aL (f x y) :: r, S)
  | _ => none
def bLI (f : Int64 → Int32 → Int64) (lv : List (Option AV)) (st : List AV) (S : St) : Option (List (Option AV) × List AV × St) := match st with
  | .inr (.inl y) :: .inr (.inr x) :: r => some (lv, aL (f x y) :: r, S)
  | _ => none
def uI (f : Int32 → AV) (lv : List (Option AV)) (st : List AV) (S : St) : Option (List (Option AV) × List AV × St) := match st with
  | .inr (.inl x) :: r => some (lv, f x :: r, S)
  | _ => none
def uL (f : Int64 → AV) (lv : List (Option AV)) (st : List AV) (S : St) : Option (List (Option AV) × List AV × St) := match st with
  | .inr (.inr x) :: r => some (lv, f x :: r, S)
  | _ => none
def ldI (lv : List (Option AV)) (k : Nat) (st : List AV) (S : St) : Option (List (Option AV) × List AV × St) := match lv[k]? with
  | some (some (.inr (.inl x))) => some (lv, aI x :: st, S)
  | _ => none
def ldL (lv : List (Option AV)) (k : Nat) (st : List AV) (S : St) : Option (List (Option AV) × List AV × St) := match lv[k]? with
  | some (some (.inr (.inr x))) => some (lv, aL x :: st, S)
  | _ => none
def ldA (lv : List (Option AV)) (k : Nat) (st : List AV) (S : St) : Option (List (Option AV) × List AV × St) := match lv[k]? with
  | some (some (.inl o)) => some (lv, aR o :: st, S)
  | _ => none
def soI (nL : Nat) (lv : List (Option AV)) (k : Nat) (st : List AV) (S : St) : Option (List (Option AV) × List AV × St) := match st with
  | .inr (.inl x) :: r => if (lvP lv k && decide (k < nL)) = true then some (lv.set k (some (aI x)), r, S) else none
  | _ => none
def soA (nL : Nat) (lv : List (Option AV)) (k : Nat) (st : List AV) (S : St) : Option (List (Option AV) × List AV × St) := match st with
  | .inl x :: r => if (lvP lv k && decide (k < nL)) = true then some (lv.set k (some (aR x)), r, S) else none
  | _ => none
def soL (nL : Nat) (lv : List (Option AV)) (k : Nat) (st : List AV) (S : St) : Option (List (Option AV) × List AV × St) := match st with
  | .inr (.inr x) :: r => if (lvP lv k && decide (k + 1 < nL)) = true then some ((lv.set k (some (aL x))).set (k + 1) none, r, S) else none
  | _ => none
def incI (nL : Nat) (lv : List (Option AV)) (k : Nat) (n : Int) (st : List AV) (S : St) : Option (List (Option AV) × List AV × St) := match lv[k]? with
  | some (some (.inr (.inl x))) => if (lvP lv k && decide (k < nL)) = true then some (lv.set k (some (aI (x + Int32.ofInt n))), st, S) else none
  | _ => none
def gtF (F : List (Nat × Nat × Nat × Nat)) (B : List Sh) (i : Nat) (lv : List (Option AV)) (st : List AV) (S : St) : Option (List (Option AV) × List AV × St) := match st with
  | .inl o :: r => match fAt F i with
    | some (ci, k, _) => match B[o]? with
      | some (.inl (cj, fl)) => if ci = cj then (match fl[k]? with
        | some (some q) => if q < 1000 then some (lv, aR q :: r, S) else none
        | some none => some (lv, aI (S.1 o k) :: r, S)
        | none => none) else none
      | _ => none
    | none => none
  | _ => none
/-- a field of type int, or a boolean one that gets 0 or 1 -/
def ptF (F : List (Nat × Nat × Nat × Nat)) (B : List Sh) (i : Nat) (lv : List (Option AV)) (st : List AV) (S : St) : Option (List (Option AV) × List AV × St) := match st with
  | .inr (.inl v) :: .inl o :: r => match fAt F i with
    | some (ci, k, kd) => match B[o]? with
      | some (.inl (cj, fl)) => if ci = cj then (match fl[k]? with
        | some none => if (decide (kd = 0) || (decide (kd = 1) && (decide (v = 0) || decide (v = 1)))) = true then some (lv, r, puI S o k v) else none
        | _ => none) else none
      | _ => none
    | none => none
  | _ => none
def sp (y : Mt) (B : List Sh) (i : Instr) (lv : List (Option AV)) (st : List AV) (S : St) : Option (List (Option AV) × List AV × St) := match i with
  | .iconst n => some (lv, aI (Int32.ofInt n) :: st, S)
  | .bipush n => some (lv, aI (Int8.ofInt n).toInt32 :: st, S)
  | .sipush n => some (lv, aI (Int16.ofInt n).toInt32 :: st, S)
  | .lconst n => some (lv, aL (Int64.ofNat (n : Nat)) :: st, S)
  | .iload k => ldI lv k st S
  | .iload_n k => ldI lv (k : Nat) st S
  | .lload k => ldL lv k st S
  | .lload_n k => ldL lv (k : Nat) st S
  | .aload k => ldA lv k st S
  | .aload_n k => ldA lv (k : Nat) st S
  | .istore k => soI y.2.2.1 lv k st S
  | .istore_n k => soI y.2.2.1 lv (k : Nat) st S
  | .astore k => soA y.2.2.1 lv k st S
  | .astore_n k => soA y.2.2.1 lv (k : Nat) st S
  | .lstore k => soL y.2.2.1 lv k st S
  | .lstore_n k => soL y.2.2.1 lv (k : Nat) st S
  | .iinc k n => incI y.2.2.1 lv k n st S
  | .iadd => bI (fun x y => x + y) lv st S
  | .isub => bI (fun x y => x - y) lv st S
  | .imul => bI (fun x y => x * y) lv st S
  | .iand => bI (fun x y => x &&& y) lv st S
  | .ior => bI (fun x y => x ||| y) lv st S
  | .ixor => bI (fun x y => x ^^^ y) lv st S
  | .ishl => bI (fun x y => x <<< (y &&& 31)) lv st S
  | .ishr => bI (fun x y => x >>> (y &&& 31)) lv st S
  | .iushr => bI (fun x y => (x.toUInt32 >>> (y.toUInt32 &&& Int32.toUInt32 31)).toInt32) lv st S
  | .ineg => uI (fun x => aI (-x)) lv st S
  | .i2l => uI (fun x => aL x.toInt64) lv st S
  | .i2b => uI (fun x => aI x.toInt8.toInt32) lv st S
  | .l2i => uL (fun x => aI x.toInt32) lv st S
  | .ladd => bL (fun x y => x + y) lv st S
  | .lsub => bL (fun x y => x - y) lv st S
  | .land => bL (fun x y => x &&& y) lv st S
  | .lor => bL (fun x y => x ||| y) lv st S
  | .lxor => bL (fun x y => x ^^^ y) lv st S
  | .lshl => bLI (fun x y => x <<< (y.toInt64 &&& 63)) lv st S
  | .lushr => bLI (fun x y => (x.toUInt64 >>> (y.toInt64.toUInt64 &&& Int64.toUInt64 63)).toInt64) lv st S
  | .lcmp => (match st with
    | .inr (.inr y) :: .inr (.inr x) :: r => some (lv, aI (lg_cmp x y) :: r, S)
    | _ => none)
  | .dup => (match st with
    | .inr (.inl x) :: r => some (lv, aI x :: aI x :: r, S)
    | .inl x :: r => some (lv, aR x :: aR x :: r, S)
    | _ => none)
  | .dup2 => (match st with
    | .inr (.inl x) :: .inl o :: r => some (lv, aI x :: aR o :: aI x :: aR o :: r, S)
    | _ => none)
  | .pop => (match st with
    | .inr (.inl _) :: r => some (lv, r, S)
    | .inl _ :: r => some (lv, r, S)
    | _ => none)
  | .getfield i => gtF y.2.2.2.2.2 B i lv st S
  | .putfield i => ptF y.2.2.2.2.2 B i lv st S
  | _ => none
theorem bI_inv {f : Int32 → Int32 → Int32} {lv lv' : List (Option AV)} {st st' : List AV} {S S' : St} (h : bI f lv st S = some (lv', st', S')) : ∃ x y r, st = aI y :: aI x :: r ∧ lv' = lv ∧ st' = aI (f x y) :: r ∧ S' = S := by
  unfold bI at h
  split at h
  next y x r => cases h; exact ⟨x, y, r, rfl, rfl, rfl, rfl⟩
  next => cases h
theorem bL_inv {f : Int64 → Int64 → Int64} {lv lv' : List (Option AV)} {st st' : List AV} {S S' : St} (h : bL f lv st S = some (lv', st', S')) : ∃ x y r, st = aL y :: aL x :: r ∧ lv' = lv ∧ st' = aL (f x y) :: r ∧ S' = S := by
  unfold bL at h
  split at h
  next y x r => cases h; exact ⟨x, y, r, rfl, rfl, rfl, rfl⟩
  next => cases h
theorem bLI_inv {f : Int64 → Int32 → Int64} {lv lv' : List (Option AV)} {st st' : List AV} {S S' : St} (h : bLI f lv st S = some (lv', st', S')) : ∃ x y r, st = aI y :: aL x :: r ∧ lv' = lv ∧ st' = aL (f x y) :: r ∧ S' = S := by
  unfold bLI at h
  split at h
  next y x r => cases h; exact ⟨x, y, r, rfl, rfl, rfl, rfl⟩
  next => cases h
theorem uI_inv {f : Int32 → AV} {lv lv' : List (Option AV)} {st st' : List AV} {S S' : St} (h : uI f lv st S = some (lv', st', S')) : ∃ x r, st = aI x :: r ∧ lv' = lv ∧ st' = f x :: r ∧ S' = S := by
  unfold uI at h
  split at h
  next x r => cases h; exact ⟨x, r, rfl, rfl, rfl, rfl⟩
  next => cases h
theorem uL_inv {f : Int64 → AV} {lv lv' : List (Option AV)} {st st' : List AV} {S S' : St} (h : uL f lv st S = some (lv', st', S')) : ∃ x r, st = aL x :: r ∧ lv' = lv ∧ st' = f x :: r ∧ S' = S := by
  unfold uL at h
  split at h
  next x r => cases h; exact ⟨x, r, rfl, rfl, rfl, rfl⟩
  next => cases h
theorem ldI_inv {k : Nat} {lv lv' : List (Option AV)} {st st' : List AV} {S S' : St} (h : ldI lv k st S = some (lv', st', S')) : ∃ x, lv[k]? = some (some (aI x)) ∧ lv' = lv ∧ st' = aI x :: st ∧ S' = S := by
  unfold ldI at h
  split at h
  next x hx => cases h; exact ⟨x, hx, rfl, rfl, rfl⟩
  next => cases h
theorem ldL_inv {k : Nat} {lv lv' : List (Option AV)} {st st' : List AV} {S S' : St} (h : ldL lv k st S = some (lv', st', S')) : ∃ x, lv[k]? = some (some (aL x)) ∧ lv' = lv ∧ st' = aL x :: st ∧ S' = S := by
  unfold ldL at h
  split at h
  next x hx => cases h; exact ⟨x, hx, rfl, rfl, rfl⟩
  next => cases h
theorem ldA_inv {k : Nat} {lv lv' : List (Option AV)} {st st' : List AV} {S S' : St} (h : ldA lv k st S = some (lv', st', S')) : ∃ x, lv[k]? = some (some (aR x)) ∧ lv' = lv ∧ st' = aR x :: st ∧ S' = S := by
  unfold ldA at h
  split at h
  next x hx => cases h; exact ⟨x, hx, rfl, rfl, rfl⟩
  next => cases h
theorem soI_inv {nL k : Nat} {lv lv' : List (Option AV)} {st st' : List AV} {S S' : St} (h : soI nL lv k st S = some (lv', st', S')) : ∃ x r, st = aI x :: r ∧ lvP lv k = true ∧ k < nL ∧ lv' = lv.set k (some (aI x)) ∧ st' = r ∧ S' = S := by
  unfold soI at h
  split at h
  next x r =>
    split at h
    next hc =>
      cases h
      rw [Bool.and_eq_true, decide_eq_true_eq] at hc
      exact ⟨x, _, rfl, hc.1, hc.2, rfl, rfl, rfl⟩
    next => cases h
  next => cases h
theorem soA_inv {nL k : Nat} {lv lv' : List (Option AV)} {st st' : List AV} {S S' : St} (h : soA nL lv k st S = some (lv', st', S')) : ∃ x r, st = aR x :: r ∧ lvP lv k = true ∧ k < nL ∧ lv' = lv.set k (some (aR x)) ∧ st' = r ∧ S' = S := by
  unfold soA at h
  split at h
  next x r =>
    split at h
    next hc =>
      cases h
      rw [Bool.and_eq_true, decide_eq_true_eq] at hc
      exact ⟨x, _, rfl, hc.1, hc.2, rfl, rfl, rfl⟩
    next => cases h
  next => cases h
theorem soL_inv {nL k : Nat} {lv lv' : List (Option AV)} {st st' : List AV} {S S' : St} (h : soL nL lv k st S = some (lv', st', S')) : ∃ x r, st = aL x :: r ∧ lvP lv k = true ∧ k + 1 < nL ∧ lv' = (lv.set k (some (aL x))).set (k + 1) none ∧ st' = r ∧ S' = S := by
  unfold soL at h
  split at h
  next x r =>
    split at h
    next hc =>
      cases h
      rw [Bool.and_eq_true, decide_eq_true_eq] at hc
      exact ⟨x, _, rfl, hc.1, hc.2, rfl, rfl, rfl⟩
    next => cases h
  next => cases h
theorem incI_inv {nL k : Nat} {n : Int} {lv lv' : List (Option AV)} {st st' : List AV} {S S' : St} (h : incI nL lv k n st S = some (lv', st', S')) : ∃ x, lv[k]? = some (some (aI x)) ∧ lvP lv k = true ∧ k < nL ∧ lv' = lv.set k (some (aI (x + Int32.ofInt n))) ∧ st' = st ∧ S' = S := by
  unfold incI at h
  split at h
  next x hx =>
    split at h
    next hc =>
      cases h
      rw [Bool.and_eq_true, decide_eq_true_eq] at hc
      exact ⟨x, hx, hc.1, hc.2, rfl, rfl, rfl⟩
    next => cases h
  next => cases h
def fldA (S : St) (o k : Nat) (z : Option Nat) : AV := match z with
  | some q => aR q
  | none => aI (S.1 o k)
theorem fldA_V (ad : Nat → Nat) (S : St) (o k : Nat) (z : Option Nat) (h : ∀ q, z = some q → q < 1000) : av_V ad (fldA S o k z) = fldV ad (S.1 o) k z := by
  cases z with
  | none => rfl
  | some q => exact (if_pos (h q rfl)).symm
theorem gtF_inv {F : List (Nat × Nat × Nat × Nat)} {B : List Sh} {i : Nat} {lv lv' : List (Option AV)} {st st' : List AV} {S S' : St} (h : gtF F B i lv st S = some (lv', st', S')) :
    ∃ o r ci k kd fl z, st = aR o :: r ∧ fAt F i = some (ci, k, kd) ∧ B[o]? = some (.inl (ci, fl)) ∧ fl[k]? = some z ∧ (∀ q, z = some q → q < 1000) ∧ lv' = lv ∧ st' = fldA S o k z :: r ∧ S' = S := by
  unfold gtF at h
  split at h
  next o r =>
    split at h
    next ci k kd hf =>
      split at h
      next cj fl hB =>
        split at h
        next hc =>
          subst hc
          split at h
          next q hq =>
            split at h
            next hlt => cases h; exact ⟨o, r, ci, k, kd, fl, some q, rfl, hf, hB, hq, (fun x e => by cases e; exact hlt), rfl, rfl, rfl⟩
            next => cases h
          next hq => cases h; exact ⟨o, r, ci, k, kd, fl, none, rfl, hf, hB, hq, (fun x e => nomatch e), rfl, rfl, rfl⟩
          next => cases h
        next => cases h
      next => cases h
    next => cases h
  next => cases h
theorem ptF_inv {F : List (Nat × Nat × Nat × Nat)} {B : List Sh} {i : Nat} {lv lv' : List (Option AV)} {st st' : List AV} {S S' : St} (h : ptF F B i lv st S = some (lv', st', S')) :
    ∃ v o r ci k kd fl, st = aI v :: aR o :: r ∧ fAt F i = some (ci, k, kd) ∧ B[o]? = some (.inl (ci, fl)) ∧ fl[k]? = some none ∧ (kd = 0 ∨ (kd = 1 ∧ (v = 0 ∨ v = 1))) ∧ lv' = lv ∧ st' = r ∧ S' = puI S o k v := by
  unfold ptF at h
  split at h
  next v o r =>
    split at h
    next ci k kd hf =>
      split at h
      next cj fl hB =>
        split at h
        next hc =>
          subst hc
          split at h
          next hq =>
            split at h
            next hk =>
              cases h
              simp only [Bool.or_eq_true, Bool.and_eq_true, decide_eq_true_eq] at hk
              exact ⟨v, o, _, ci, k, kd, fl, rfl, hf, hB, hq, hk, rfl, rfl, rfl⟩
            next => cases h
          next => cases h
        next => cases h
      next => cases h
    next => cases h
  next => cases h
theorem okM_f {y : Mt} (h : okD y) {i ci k kd : Nat} (hf : fAt y.2.2.2.2.2 i = some (ci, k, kd)) : ∃ r : vw_C, classes[ci]? = some r ∧ k < r.2.2 ∧
    ((Jvm.Cond.fieldLink y.1.cls i (r.2.1 k).1 (r.2.1 k).2.1 (r.2.1 k).2.2.1 ∈ gw) ∨ (Jvm.Cond.fieldLinkNest y.1.cls i (r.2.1 k).1 (r.2.1 k).2.1 (r.2.1 k).2.2.1 nestHost ∈ nw)) ∧
    (kd = 0 → (r.2.1 k).2.2.1 = "I" ∧ (r.2.1 k).2.2.2 = false) ∧ (kd = 1 → (r.2.1 k).2.2.1 = "Z" ∧ (r.2.1 k).2.2.2 = false) := by
  have h1 := List.all_eq_true.mp h.2 _ (fAt_in hf)
  unfold fldB at h1
  split at h1
  next r hr =>
    simp only [Bool.and_eq_true, Bool.or_eq_true, decide_eq_true_eq] at h1
    obtain ⟨⟨h2, h3⟩, h4⟩ := h1
    refine ⟨r, hr, h2, ?_, fun e => ?_, fun e => ?_⟩
    · rcases h3 with h3 | h3
      · exact Or.inl (gw_in h3 rfl)
      · exact Or.inr (nw_in h3 rfl)
    · rw [if_pos e] at h4
      exact of_decide_eq_true h4
    · subst e
      rw [if_neg (by decide), if_pos rfl] at h4
      exact of_decide_eq_true h4
  next => cases h1
/-- the length of a simple instruction -/
def spN (i : Instr) : Nat := match i with
  | .bipush _ => 2
  | .sipush _ => 3
  | .iload _ => 2
  | .lload _ => 2
  | .aload _ => 2
  | .istore _ => 2
  | .lstore _ => 2
  | .astore _ => 2
  | .iinc _ _ => 3
  | .getfield _ => 3
  | .putfield _ => 3
  | _ => 1
end
section
/-! a simple instruction, whatever it is -/
section Sp
variable {l : Launch} {B : List Sh} {R : Room} {y : Mt} {Zf : ZF} {kc ks pc : Nat} {lv : List (Option AV)} {st : List AV} {S : St}
theorem e_getf {i t : Nat} {lv' : List (Option AV)} {st' : List AV} {S' : St} (hd : cAt y.2.2.2.2.1 pc = some (.getfield i, 3, t)) (hs : gtF y.2.2.2.2.2 B i lv st S = some (lv', st', S'))
    (k : EE l B R y Zf kc ks (pc + 3) lv' st' S') : EE l B R y Zf kc ks pc lv st S := by
  obtain ⟨o, r, ci, j, kd, fl, z, rfl, hf, hB, hz, hq9, rfl, rfl, rfl⟩ := gtF_inv hs
  intro p e s m args below meth c sh ad D cA H locs ls C hP hS hl
  have h := k p e s m args below meth c sh ad D cA H locs ls C hP hS hl
  obtain ⟨hx, hb, hr, hml, hown, hts, hlk, hn, hK, hok, hsh, hi⟩ := id C
  obtain ⟨⟨Cn, T, N⟩, hc, hk, hlink, -⟩ := okM_f hok hf
  obtain ⟨hin, -⟩ := cls_all ci _ hc
  have hv : (fl.mapIdx (fldV ad (S'.1 o)))[j]? = some (fldV ad (S'.1 o) j z) := by
    rw [List.getElem?_mapIdx, hz]; rfl
  rw [List.map_cons, fldA_V _ _ _ _ _ hq9] at h
  rcases hlink with hw | hw
  · exact va_get (D := D) (cl := classes) (C := Cn) (T := T) (N := N) hx hb hts hin hown hK hP o (wd_at (sh_pre hsh hB)) hc j hk (hts _ hw) (fun _ h9 => h9) hv (okM_c hok hd).1 h
  · exact va_getN (D := D) (cl := classes) (C := Cn) (T := T) (N := N) hx hb hts hin hown hK hP o (wd_at (sh_pre hsh hB)) hc j hk (va_Nw.use rfl (hn _ hw)) (fun _ h9 => h9) hv (okM_c hok hd).1 h
theorem nar_bool {v : Int32} (h : v = 0 ∨ v = 1) : narrow .boolean (.int v) = .int v := by
  rcases h with rfl | rfl <;> decide
theorem fit_bool {v : Int32} (h : v = 0 ∨ v = 1) : fits .boolean (.int v) = true := by
  rcases h with rfl | rfl <;> decide
theorem e_putf {i t : Nat} {lv' : List (Option AV)} {st' : List AV} {S' : St} (hd : cAt y.2.2.2.2.1 pc = some (.putfield i, 3, t)) (hs : ptF y.2.2.2.2.2 B i lv st S = some (lv', st', S'))
    (k : EE l B R y Zf kc ks (pc + 3) lv' st' S') : EE l B R y Zf kc ks pc lv st S := by
  obtain ⟨v, o, r, ci, j, kd, fl, rfl, hf, hB, hz, hkd, rfl, rfl, rfl⟩ := ptF_inv hs
  intro p e s m args below meth c sh ad D cA H locs ls C hP hS hl
  obtain ⟨hx, hb, hr, hml, hown, hts, hlk, hn, hK, hok, hsh, hi⟩ := id C
  obtain ⟨⟨Cn, T, N⟩, hc, hk, hlink, h0, h1⟩ := okM_f hok hf
  obtain ⟨hin, hnm, ty0, hty⟩ := cls_all ci _ hc
  have hl2 : j < (fl.mapIdx (fldV ad (S.1 o))).length := by
    rw [List.length_mapIdx]; exact (List.getElem?_eq_some_iff.mp hz).1
  have hB' := sh_pre hsh hB
  obtain ⟨ty, hd9, hnr, hft, hfin⟩ : ∃ ty, parseFieldDescriptor (T j).2.2.1 = some ty ∧ narrow ty (.int v) = .int v ∧ fits ty (.int v) = true ∧ (T j).2.2.2 = false := by
    rcases hkd with e | ⟨e, hv⟩
    · exact ⟨.int, by rw [(h0 e).1]; decide +kernel, vp_nar_int v, rfl, (h0 e).2⟩
    · exact ⟨.boolean, by rw [(h1 e).1]; decide +kernel, nar_bool hv, fit_bool hv, (h1 e).2⟩
  have kk : ∀ (H1 : Heap) (locs1 : List Loc), va_P D classes ((wdA ad cA S sh).set o (ad o, .inr (ci, (fl.mapIdx (fldV ad (S.1 o))).set j (.int v)))) H1 → va_D (aA sh.length ad s.heap.size) ((wdA ad cA S sh).set o (ad o, .inr (ci, (fl.mapIdx (fldV ad (S.1 o))).set j (.int v)))) → va_S (aA sh.length ad s.heap.size) s.heap H1 locs1 → W p l e R s m args below meth c H1 locs1 kc ks (Zf below args s sh ad D cA) (F0 m (pc + 3) ls (st'.map (av_V ad))) := by
    intro H1 locs1 hP1 _ hS1
    rw [wd_puI hB' hz] at hP1
    exact k p e s m args below meth c sh ad D cA H1 locs1 ls C hP1 hS1 hl
  rcases hlink with hw | hw
  · exact va_put (D := D) (cl := classes) (C := Cn) (T := T) (N := N) hx hb hts hin ty0 hty hnm hown hK hP (wd_D hi) hS o (wd_at hB') hc j hk (hts _ hw) (fun _ h9 => h9) hfin hd9 hnr hft hl2 (okM_c hok hd).1 kk
  · exact va_putN (D := D) (cl := classes) (C := Cn) (T := T) (N := N) hx hb hts hin ty0 hty hnm hown hK hP (wd_D hi) hS o (wd_at hB') hc j hk (va_Nw.use rfl (hn _ hw)) (fun _ h9 => h9) hfin hd9 hnr hft hl2 (okM_c hok hd).1 kk
theorem e_sp {i : Instr} {n t : Nat} {lv' : List (Option AV)} {st' : List AV} {S' : St} (hd : cAt y.2.2.2.2.1 pc = some (i, n, t)) (hn : spN i = n) (hs : sp y B i lv st S = some (lv', st', S'))
    (k : EE l B R y Zf kc ks (pc + n) lv' st' S') : EE l B R y Zf kc ks pc lv st S := by
  subst hn
  cases i <;> first
    | exact e_getf hd hs k
    | exact e_putf hd hs k
    | (exfalso; simp [sp] at hs; done)
    | (intro p e s m args below meth c sh ad D cA H locs ls C hP hS hl
       have hx := C.1
       have hb := C.2.1
       have hdg := (okM_c C.2.2.2.2.2.2.2.2.2.1 hd).1
       dsimp only [sp] at hs
       first
        | (obtain ⟨x, z, r, rfl, rfl, rfl, rfl⟩ := bI_inv hs
           have h := k p e s m args below meth c sh ad D cA H locs ls C hP hS hl
           first
            | exact lv_iadd hx hb hdg h | exact lv_isub hx hb hdg h | exact lv_imul hx hb hdg h | exact lv_iand hx hb hdg h | exact lv_ior hx hb hdg h | exact lv_ixor hx hb hdg h
            | exact lv_ishl hx hb hdg h | exact lv_ishr hx hb hdg h | exact lv_iushr hx hb hdg rfl h)
        | (obtain ⟨x, z, r, rfl, rfl, rfl, rfl⟩ := bL_inv hs
           have h := k p e s m args below meth c sh ad D cA H locs ls C hP hS hl
           first
            | exact lv_ladd hx hb hdg h | exact lv_lsub hx hb hdg h | exact lv_land hx hb hdg h | exact lv_lor hx hb hdg h | exact lv_lxor hx hb hdg h)
        | (obtain ⟨x, z, r, rfl, rfl, rfl, rfl⟩ := bLI_inv hs
           have h := k p e s m args below meth c sh ad D cA H locs ls C hP hS hl
           first
            | exact lv_lshl hx hb hdg rfl h | exact lv_lushr hx hb hdg rfl h)
        | (obtain ⟨x, r, rfl, rfl, rfl, rfl⟩ := uI_inv hs
           have h := k p e s m args below meth c sh ad D cA H locs ls C hP hS hl
           first
            | exact lv_ineg hx hb hdg h | exact lv_i2l hx hb hdg rfl h | exact lv_i2b hx hb hdg rfl h)
        | (obtain ⟨x, r, rfl, rfl, rfl, rfl⟩ := uL_inv hs
           have h := k p e s m args below meth c sh ad D cA H locs ls C hP hS hl
           exact lv_l2i hx hb hdg rfl h)
        | (obtain ⟨x, hv, rfl, rfl, rfl⟩ := ldI_inv hs
           have h := k p e s m args below meth c sh ad D cA H locs ls C hP hS hl
           first
            | exact lv_iload hx hb hdg (hl.2.2 _ _ hv) h | exact lv_iload_n hx hb hdg rfl (hl.2.2 _ _ hv) h)
        | (obtain ⟨x, hv, rfl, rfl, rfl⟩ := ldL_inv hs
           have h := k p e s m args below meth c sh ad D cA H locs ls C hP hS hl
           first
            | exact lv_lload hx hb hdg (hl.2.2 _ _ hv) h | exact lv_lload_n hx hb hdg rfl (hl.2.2 _ _ hv) h)
        | (obtain ⟨x, hv, rfl, rfl, rfl⟩ := ldA_inv hs
           have h := k p e s m args below meth c sh ad D cA H locs ls C hP hS hl
           first
            | exact lv_aload hx hb hdg (hl.2.2 _ _ hv) h | exact lv_aload_n hx hb hdg rfl (hl.2.2 _ _ hv) h)
        | (obtain ⟨x, r, rfl, hp, hn, rfl, rfl, rfl⟩ := soI_inv hs
           first
            | exact lv_istore hx hb hdg (lh_has hl) hn rfl (fun ls' h' => k p e s m args below meth c sh ad D cA H locs ls' C hP hS (lh_set1 (v := aI x) rfl hp h'))
            | exact lv_istore_n hx hb hdg rfl (lh_has hl) hn rfl (fun ls' h' => k p e s m args below meth c sh ad D cA H locs ls' C hP hS (lh_set1 (v := aI x) rfl hp h')))
        | (obtain ⟨x, r, rfl, hp, hn, rfl, rfl, rfl⟩ := soA_inv hs
           first
            | exact lv_astore hx hb hdg (lh_has hl) hn rfl (fun ls' h' => k p e s m args below meth c sh ad D cA H locs ls' C hP hS (lh_set1 (v := aR x) rfl hp h'))
            | exact lv_astore_n hx hb hdg rfl (lh_has hl) hn rfl (fun ls' h' => k p e s m args below meth c sh ad D cA H locs ls' C hP hS (lh_set1 (v := aR x) rfl hp h')))
        | (obtain ⟨x, r, rfl, hp, hn, rfl, rfl, rfl⟩ := soL_inv hs
           first
            | exact lv_lstore hx hb hdg (lh_has hl) hn rfl (fun ls' h' => k p e s m args below meth c sh ad D cA H locs ls' C hP hS (lh_set2 (v := aL x) rfl hp h'))
            | exact lv_lstore_n hx hb hdg rfl (lh_has hl) hn rfl (fun ls' h' => k p e s m args below meth c sh ad D cA H locs ls' C hP hS (lh_set2 (v := aL x) rfl hp h')))
        | (obtain ⟨x, hv, hp, hn, rfl, rfl, rfl⟩ := incI_inv hs
           obtain ⟨j, hj⟩ := List.getElem?_of_mem (lhL_in (ad := ad) hv)
           exact lv_iinc hx hb hdg (lh_has hl) hj rfl hn rfl (fun ls' h' => k p e s m args below meth c sh ad D cA H locs ls' C hP hS (lh_set1 (v := aI (x + _)) rfl hp h')))
        | (cases hs
           have h := k p e s m args below meth c sh ad D cA H locs ls C hP hS hl
           first
            | exact lv_iconst hx hb hdg rfl h | exact lv_bipush hx hb hdg rfl h | exact lv_sipush hx hb hdg rfl h | exact lv_lconst hx hb hdg rfl h)
        | (split at hs
           next y1 x1 r1 =>
             cases hs
             have h := k p e s m args below meth c sh ad D cA H locs ls C hP hS hl
             first
              | exact W.lcmp hx hb hdg h
              | exact lv_dup2_11 hx hb hdg rfl rfl h
           next => cases hs)
        | (split at hs
           next x1 r1 =>
             cases hs
             have h := k p e s m args below meth c sh ad D cA H locs ls C hP hS hl
             first
              | exact lv_dup hx hb hdg rfl h
              | exact lv_pop (va := .int x1) hx hb hdg rfl h
           next x1 r1 =>
             cases hs
             have h := k p e s m args below meth c sh ad D cA H locs ls C hP hS hl
             first
              | exact lv_dup hx hb hdg rfl h
              | exact lv_pop (va := .ref (ad x1)) hx hb hdg rfl h
           next => cases hs))
theorem e_goto {o : Int} {t : Nat} (hd : cAt y.2.2.2.2.1 pc = some (.goto o, 3, t)) (k : EE l B R y Zf kc ks t lv st S) : EE l B R y Zf kc ks pc lv st S := by
  intro p e s m args below meth c sh ad D cA H locs ls C hP hS hl
  obtain ⟨hdg, hj⟩ := okM_c C.2.2.2.2.2.2.2.2.2.1 hd
  exact lv_goto C.1 C.2.1 hdg (of_decide_eq_true hj) (k p e s m args below meth c sh ad D cA H locs ls C hP hS hl)
def brC (cnd : ClassFile.Cond) (x y : Int32) : Prop := match cnd with
  | .eq => x = y
  | .ne => ¬ x = y
  | .lt => x < y
  | .ge => y ≤ x
  | .gt => y < x
  | .le => x ≤ y
theorem e_icmp {cnd : ClassFile.Cond} {o : Int} {t : Nat} {x z : Int32} (hd : cAt y.2.2.2.2.1 pc = some (.if_icmp cnd o, 3, t)) (kt : brC cnd x z → EE l B R y Zf kc ks t lv st S) (kf : ¬ brC cnd x z → EE l B R y Zf kc ks (pc + 3) lv st S) : EE l B R y Zf kc ks pc lv (aI z :: aI x :: st) S := by
  intro p e s m args below meth c sh ad D cA H locs ls C hP hS hl
  obtain ⟨hdg, hj⟩ := okM_c C.2.2.2.2.2.2.2.2.2.1 hd
  have kt' := fun h => kt h p e s m args below meth c sh ad D cA H locs ls C hP hS hl
  have kf' := fun h => kf h p e s m args below meth c sh ad D cA H locs ls C hP hS hl
  cases cnd
  · exact lv_icmp_eq C.1 C.2.1 hdg (of_decide_eq_true hj) kt' kf'
  · exact lv_icmp_ne C.1 C.2.1 hdg (of_decide_eq_true hj) kt' (fun h => kf' (fun h2 => h2 h))
  · exact lv_icmp_lt C.1 C.2.1 hdg (of_decide_eq_true hj) kt' kf'
  · exact lv_icmp_ge C.1 C.2.1 hdg (of_decide_eq_true hj) kt' kf'
  · exact lv_icmp_gt C.1 C.2.1 hdg (of_decide_eq_true hj) kt' kf'
  · exact lv_icmp_le C.1 C.2.1 hdg (of_decide_eq_true hj) kt' kf'
theorem e_if {cnd : ClassFile.Cond} {o : Int} {t : Nat} {x : Int32} (hd : cAt y.2.2.2.2.1 pc = some (.ifCond cnd o, 3, t)) (kt : brC cnd x 0 → EE l B R y Zf kc ks t lv st S) (kf : ¬ brC cnd x 0 → EE l B R y Zf kc ks (pc + 3) lv st S) : EE l B R y Zf kc ks pc lv (aI x :: st) S := by
  intro p e s m args below meth c sh ad D cA H locs ls C hP hS hl
  obtain ⟨hdg, hj⟩ := okM_c C.2.2.2.2.2.2.2.2.2.1 hd
  have kt' := fun h => kt h p e s m args below meth c sh ad D cA H locs ls C hP hS hl
  have kf' := fun h => kf h p e s m args below meth c sh ad D cA H locs ls C hP hS hl
  cases cnd
  · exact lv_if_eq C.1 C.2.1 hdg (of_decide_eq_true hj) kt' kf'
  · exact lv_if_ne C.1 C.2.1 hdg (of_decide_eq_true hj) kt' (fun h => kf' (fun h2 => h2 h))
  · exact lv_if_lt C.1 C.2.1 hdg (of_decide_eq_true hj) kt' kf'
  · exact lv_if_ge C.1 C.2.1 hdg (of_decide_eq_true hj) kt' kf'
  · exact lv_if_gt C.1 C.2.1 hdg (of_decide_eq_true hj) kt' kf'
  · exact lv_if_le C.1 C.2.1 hdg (of_decide_eq_true hj) kt' kf'
theorem e_div {t : Nat} {x z : Int32} (hd : cAt y.2.2.2.2.1 pc = some (.idiv, 1, t)) (hz : ¬ z = 0) (k : EE l B R y Zf kc ks (pc + 1) lv (aI (x / z) :: st) S) : EE l B R y Zf kc ks pc lv (aI z :: aI x :: st) S := by
  intro p e s m args below meth c sh ad D cA H locs ls C hP hS hl
  exact lv_idiv C.1 C.2.1 (okM_c C.2.2.2.2.2.2.2.2.2.1 hd).1 hz (k p e s m args below meth c sh ad D cA H locs ls C hP hS hl)
theorem e_rem {t : Nat} {x z : Int32} (hd : cAt y.2.2.2.2.1 pc = some (.irem, 1, t)) (hz : ¬ z = 0) (k : EE l B R y Zf kc ks (pc + 1) lv (aI (x - x / z * z) :: st) S) : EE l B R y Zf kc ks pc lv (aI z :: aI x :: st) S := by
  intro p e s m args below meth c sh ad D cA H locs ls C hP hS hl
  exact lv_irem C.1 C.2.1 (okM_c C.2.2.2.2.2.2.2.2.2.1 hd).1 hz (k p e s m args below meth c sh ad D cA H locs ls C hP hS hl)
/-! arrays -/
theorem e_iald {t o n : Nat} {i : Int32} (hd : cAt y.2.2.2.2.1 pc = some (.iaload, 1, t)) (hB : B[o]? = some (.inr (.int, n))) (hin : vp_in i n) (k : EE l B R y Zf kc ks (pc + 1) lv (aI (S.1 o i.toNatClampNeg) :: st) S) : EE l B R y Zf kc ks pc lv (aI i :: aR o :: st) S := by
  intro p e s m args below meth c sh ad D cA H locs ls C hP hS hl
  obtain ⟨hx, hb, hr, hml, hown, hts, hlk, hn, hK, hok, hsh, hi⟩ := id C
  exact va_iald hx hb hK hP o 0 (wd_at (sh_pre hsh hB)) rfl hin (okM_c hok hd).1 (k p e s m args below meth c sh ad D cA H locs ls C hP hS hl)
theorem e_bald {t o n : Nat} {i : Int32} (hd : cAt y.2.2.2.2.1 pc = some (.baload, 1, t)) (hB : B[o]? = some (.inr (.byte, n))) (hin : vp_in i n) (k : EE l B R y Zf kc ks (pc + 1) lv (aI (S.1 o i.toNatClampNeg) :: st) S) : EE l B R y Zf kc ks pc lv (aI i :: aR o :: st) S := by
  intro p e s m args below meth c sh ad D cA H locs ls C hP hS hl
  obtain ⟨hx, hb, hr, hml, hown, hts, hlk, hn, hK, hok, hsh, hi⟩ := id C
  exact va_bald hx hb hK hP o 2 (wd_at (sh_pre hsh hB)) rfl hin (okM_c hok hd).1 (k p e s m args below meth c sh ad D cA H locs ls C hP hS hl)
theorem e_zald {t o n : Nat} {i : Int32} (hd : cAt y.2.2.2.2.1 pc = some (.baload, 1, t)) (hB : B[o]? = some (.inr (.boolean, n))) (hin : vp_in i n) (k : EE l B R y Zf kc ks (pc + 1) lv (aI (S.1 o i.toNatClampNeg) :: st) S) : EE l B R y Zf kc ks pc lv (aI i :: aR o :: st) S := by
  intro p e s m args below meth c sh ad D cA H locs ls C hP hS hl
  obtain ⟨hx, hb, hr, hml, hown, hts, hlk, hn, hK, hok, hsh, hi⟩ := id C
  exact va_zald hx hb hK hP o 3 (wd_at (sh_pre hsh hB)) rfl hin (okM_c hok hd).1 (k p e s m args below meth c sh ad D cA H locs ls C hP hS hl)
theorem e_lald {t o n : Nat} {i : Int32} (hd : cAt y.2.2.2.2.1 pc = some (.laload, 1, t)) (hB : B[o]? = some (.inr (.long, n))) (hin : vp_in i n) (k : EE l B R y Zf kc ks (pc + 1) lv (aL (S.2 o i.toNatClampNeg) :: st) S) : EE l B R y Zf kc ks pc lv (aI i :: aR o :: st) S := by
  intro p e s m args below meth c sh ad D cA H locs ls C hP hS hl
  obtain ⟨hx, hb, hr, hml, hown, hts, hlk, hn, hK, hok, hsh, hi⟩ := id C
  exact va_lald hx hb hK hP o 1 (wd_at (sh_pre hsh hB)) rfl hin (okM_c hok hd).1 (k p e s m args below meth c sh ad D cA H locs ls C hP hS hl)
theorem e_iast {t o n : Nat} {i v : Int32} (hd : cAt y.2.2.2.2.1 pc = some (.iastore, 1, t)) (hB : B[o]? = some (.inr (.int, n))) (hin : vp_in i n) (k : EE l B R y Zf kc ks (pc + 1) lv st (puI S o i.toNatClampNeg v)) : EE l B R y Zf kc ks pc lv (aI v :: aI i :: aR o :: st) S := by
  intro p e s m args below meth c sh ad D cA H locs ls C hP hS hl
  obtain ⟨hx, hb, hr, hml, hown, hts, hlk, hn, hK, hok, hsh, hi⟩ := id C
  refine va_iast hx hb hK hP (wd_D hi) hS o 0 (wd_at (sh_pre hsh hB)) rfl hin (okM_c hok hd).1 (fun H1 locs1 hP1 _ hS1 => ?_)
  have e9 := wd_arI (ad := ad) (cA := cA) (S := S) (k := i.toNatClampNeg) (v := v) (sh_pre hsh hB) (fun h => by cases h)
  rw [e9] at hP1
  exact k p e s m args below meth c sh ad D cA H1 locs1 ls C hP1 hS1 hl
theorem e_bast {t o n : Nat} {i v : Int32} (hd : cAt y.2.2.2.2.1 pc = some (.bastore, 1, t)) (hB : B[o]? = some (.inr (.byte, n))) (hin : vp_in i n) (k : EE l B R y Zf kc ks (pc + 1) lv st (puI S o i.toNatClampNeg (vp_nar .byte v))) : EE l B R y Zf kc ks pc lv (aI v :: aI i :: aR o :: st) S := by
  intro p e s m args below meth c sh ad D cA H locs ls C hP hS hl
  obtain ⟨hx, hb, hr, hml, hown, hts, hlk, hn, hK, hok, hsh, hi⟩ := id C
  refine va_bast hx hb hK hP (wd_D hi) hS o 2 (wd_at (sh_pre hsh hB)) rfl hin (okM_c hok hd).1 (fun H1 locs1 hP1 _ hS1 => ?_)
  have e9 := wd_arI (ad := ad) (cA := cA) (S := S) (k := i.toNatClampNeg) (v := vp_nar .byte v) (sh_pre hsh hB) (fun h => by cases h)
  rw [e9] at hP1
  exact k p e s m args below meth c sh ad D cA H1 locs1 ls C hP1 hS1 hl
theorem e_zast {t o n : Nat} {i v : Int32} (hd : cAt y.2.2.2.2.1 pc = some (.bastore, 1, t)) (hB : B[o]? = some (.inr (.boolean, n))) (hin : vp_in i n) (k : EE l B R y Zf kc ks (pc + 1) lv st (puI S o i.toNatClampNeg (vp_nar .boolean v))) : EE l B R y Zf kc ks pc lv (aI v :: aI i :: aR o :: st) S := by
  intro p e s m args below meth c sh ad D cA H locs ls C hP hS hl
  obtain ⟨hx, hb, hr, hml, hown, hts, hlk, hn, hK, hok, hsh, hi⟩ := id C
  refine va_zast hx hb hK hP (wd_D hi) hS o 3 (wd_at (sh_pre hsh hB)) rfl hin (okM_c hok hd).1 (fun H1 locs1 hP1 _ hS1 => ?_)
  have e9 := wd_arI (ad := ad) (cA := cA) (S := S) (k := i.toNatClampNeg) (v := vp_nar .boolean v) (sh_pre hsh hB) (fun h => by cases h)
  rw [e9] at hP1
  exact k p e s m args below meth c sh ad D cA H1 locs1 ls C hP1 hS1 hl
theorem e_last {t o n : Nat} {i : Int32} {v : Int64} (hd : cAt y.2.2.2.2.1 pc = some (.lastore, 1, t)) (hB : B[o]? = some (.inr (.long, n))) (hin : vp_in i n) (k : EE l B R y Zf kc ks (pc + 1) lv st (puL S o i.toNatClampNeg v)) : EE l B R y Zf kc ks pc lv (aL v :: aI i :: aR o :: st) S := by
  intro p e s m args below meth c sh ad D cA H locs ls C hP hS hl
  obtain ⟨hx, hb, hr, hml, hown, hts, hlk, hn, hK, hok, hsh, hi⟩ := id C
  refine va_last hx hb hK hP (wd_D hi) hS o 1 (wd_at (sh_pre hsh hB)) rfl hin (okM_c hok hd).1 (fun H1 locs1 hP1 _ hS1 => ?_)
  have e9 := wd_arL (ad := ad) (cA := cA) (S := S) (k := i.toNatClampNeg) (v := v) (sh_pre hsh hB)
  rw [e9] at hP1
  exact k p e s m args below meth c sh ad D cA H1 locs1 ls C hP1 hS1 hl
theorem e_alen {t o n : Nat} {ty : FieldType} (hd : cAt y.2.2.2.2.1 pc = some (.arraylength, 1, t)) (hB : B[o]? = some (.inr (ty, n))) (hty : ty = .int ∨ ty = .long ∨ ty = .byte ∨ ty = .boolean) (k : EE l B R y Zf kc ks (pc + 1) lv (aI (nI n) :: st) S) : EE l B R y Zf kc ks pc lv (aR o :: st) S := by
  intro p e s m args below meth c sh ad D cA H locs ls C hP hS hl
  obtain ⟨hx, hb, hr, hml, hown, hts, hlk, hn, hK, hok, hsh, hi⟩ := id C
  have h := k p e s m args below meth c sh ad D cA H locs ls C hP hS hl
  rcases hty with rfl | rfl | rfl | rfl
  · exact va_alen hx hb hK hP o 0 (wd_at (sh_pre hsh hB)) rfl rfl (okM_c hok hd).1 h
  · exact va_alen hx hb hK hP o 1 (wd_at (sh_pre hsh hB)) rfl rfl (okM_c hok hd).1 h
  · exact va_alen hx hb hK hP o 2 (wd_at (sh_pre hsh hB)) rfl rfl (okM_c hok hd).1 h
  · exact va_alen hx hb hK hP o 3 (wd_at (sh_pre hsh hB)) rfl rfl (okM_c hok hd).1 h
end Sp
end
section
/-! answers, calls, beginnings -/
/-- frames and locals -/
def rmD (d : Nat × Nat) : Room := { frames := d.1, cells := 0, slots := 0, locals := d.2 }
def QcA (Q : Option AV → St → Prop) (sh : List Sh) (ad : Nat → Nat) (D : va_G) (cA : FieldType → ClassId) : Array Value → State → Outcome → State → Prop := fun _ st oc t =>
  (∃ (r : Option AV) (S' : St), oc = .returned (r.map (av_V ad)) ∧ Q r S' ∧ va_P D classes (wdA ad cA S' sh) t.heap ∧ va_K D classes (tysA cA) t) ∧ va_F (aA sh.length ad st.heap.size) st t
def zR (Q : Option AV → St → Prop) (mc ms : Nat) : ZF := fun below args s sh ad D cA => MQ below (QcA Q sh ad D cA) args s mc ms (aA sh.length ad s.heap.size)
def wsM (z : Mt) : List Jvm.Cond := .code z.1 z.2.1 z.2.2.1 z.2.2.2.1 :: gw
def PcA (av : List AV) (S : St) (sh : List Sh) (ad : Nat → Nat) (D : va_G) (cA : FieldType → ClassId) (sz : Nat) : Array Value → State → Prop :=
  va_Pc (av.map (av_V ad)) (fun U => U.heap.size = sz ∧ va_P D classes (wdA ad cA S sh) U.heap ∧ va_K D classes (tysA cA) U ∧ nOK U)
/-- a method's contract: at depth d, with these arguments over this store it returns, as Q says -/
def KK (l : Launch) (B : List Sh) (d : Nat × Nat) (z : Mt) (av : List AV) (S : St) (Q : Option AV → St → Prop) : Prop :=
  ∀ (sh : List Sh) (ad : Nat → Nat) (D : va_G) (cA : FieldType → ClassId) (sz : Nat), (∃ sh', sh = B ++ sh') → (∀ i j, i < sh.length → j < sh.length → ad i = ad j → i = j) →
    Met l z.1 (wsM z) (rmD d) (PcA av S sh ad D cA sz) (QcA Q sh ad D cA) 0 0 (aA sh.length ad sz)
abbrev E0 (l : Launch) (B : List Sh) (d : Nat × Nat) (y : Mt) (pc : Nat) (lv : List (Option AV)) (st : List AV) (S : St) (Q : Option AV → St → Prop) : Prop := EE l B (rmD d) y (zR Q 0 0) 0 0 pc lv st S
theorem k_start {l : Launch} {B : List Sh} {d : Nat × Nat} {z : Mt} {av : List AV} {S : St} {Q : Option AV → St → Prop} (hz : okM z) (hn : (lvArgs av).length ≤ z.2.2.1) (he : E0 l B d z 0 (lvIn av z.2.2.1) [] S Q) : KK l B d z av S Q := by
  intro sh ad D cA sz hB hi
  refine va_MetF (cc := z.2.1) (maxL := z.2.2.1) (ret := z.2.2.2.1) hz.2.2.2 rfl ?_
  intro p e s m args below meth c s₁ Bd hml hv
  obtain ⟨rfl, hsz, hP, hK, hno⟩ := hv
  subst hsz
  rw [lg_entry_eq]
  have hts0 := atoms_spec (ws := wsM z) Bd.pre
  exact he p e s m _ below meth c sh ad D cA s.heap [] _ ⟨Bd.exec, Bd.bytes, Bd.returns, hml, findClass_of_methodNamed Bd.named, fun w hw => hts0 w (List.mem_cons_of_mem _ hw), Bd.notSynchronized, hno, hK, hz.D, hB, hi⟩ hP va_S.rf (lh_entry ad av hn)
section Ends
variable {l : Launch} {B : List Sh} {R : Room} {y : Mt} {kc ks pc mc ms : Nat} {lv : List (Option AV)} {S : St} {Q : Option AV → St → Prop}
theorem e_iret {t : Nat} {v : Int32} (hd : cAt y.2.2.2.2.1 pc = some (.ireturn, 1, t)) (hrt : y.2.2.2.1 = some .int) (h1 : kc ≤ mc) (h2 : ks ≤ ms) (hq : Q (some (aI v)) S) : EE l B R y (zR Q mc ms) kc ks pc lv [aI v] S := by
  intro p e s m args below meth c sh ad D cA H locs ls C hP hS hl
  obtain ⟨hx, hb, hr, hml, hown, hts, hlk, hn, hK, hok, hsh, hi⟩ := id C
  refine W.widen h1 h2 ?_
  exact W.iret hx hb (hr.trans hrt) (fun t ht hW => ⟨⟨some (aI v), S, rfl, hq, by rw [ht]; exact hP, va_K.moved hW.alike hK⟩, hS.F ht⟩) hS.2.2 (okM_c hok hd).1
theorem e_zret {t : Nat} {v : Int32} (hd : cAt y.2.2.2.2.1 pc = some (.ireturn, 1, t)) (hrt : y.2.2.2.1 = some .boolean) (h1 : kc ≤ mc) (h2 : ks ≤ ms) (hv : v = 0 ∨ v = 1) (hq : Q (some (aI v)) S) : EE l B R y (zR Q mc ms) kc ks pc lv [aI v] S := by
  intro p e s m args below meth c sh ad D cA H locs ls C hP hS hl
  obtain ⟨hx, hb, hr, hml, hown, hts, hlk, hn, hK, hok, hsh, hi⟩ := id C
  refine W.widen h1 h2 ?_
  exact W.zret hx hb (hr.trans hrt) (nar_bool hv) (fun t ht hW => ⟨⟨some (aI v), S, rfl, hq, by rw [ht]; exact hP, va_K.moved hW.alike hK⟩, hS.F ht⟩) hS.2.2 (okM_c hok hd).1
theorem e_vret {t : Nat} (hd : cAt y.2.2.2.2.1 pc = some (.return_, 1, t)) (hrt : y.2.2.2.1 = none) (h1 : kc ≤ mc) (h2 : ks ≤ ms) (hq : Q none S) : EE l B R y (zR Q mc ms) kc ks pc lv [] S := by
  intro p e s m args below meth c sh ad D cA H locs ls C hP hS hl
  obtain ⟨hx, hb, hr, hml, hown, hts, hlk, hn, hK, hok, hsh, hi⟩ := id C
  refine W.widen h1 h2 ?_
  exact W.vret hx hb (hr.trans hrt) (fun t ht hW => ⟨⟨none, S, rfl, hq, by rw [ht]; exact hP, va_K.moved hW.alike hK⟩, hS.F ht⟩) hS.2.2 (okM_c hok hd).1
end Ends
theorem pcA_blind {av : List AV} {S : St} {sh : List Sh} {ad : Nat → Nat} {D : va_G} {cA : FieldType → ClassId} {sz : Nat} : FrameBlind (PcA av S sh ad D cA sz) := by
  intro a U g mk q
  obtain ⟨q0, q1, q2, q3, q4⟩ := q
  exact ⟨q0, q1, q2, va_K.moved (u := U) (U := U.calling g mk a) (Vm.Alike.refl U.vm) q3, nOK.vm (s := U) (U := U.calling g mk a) rfl q4⟩
theorem a_call {p : Program} {l : Launch} {e : Env} {R : Room} {s : State} {m : MethodId} {args a : Array Value} {below : List Frame} {meth : Method} {c : Code} {H : Heap} {locs : List Loc} {kc ks pc : Nat} {Z : State → Prop} {ls : Array Slot} {st0 rest : List Value}
    {sh : List Sh} {ad : Nat → Nat} {D : va_G} {cA : FieldType → ClassId} {Q : Option AV → St → Prop}
    (hr : va_Run p l e R s m args below meth c H locs kc ks 0 0 (F0 m pc ls st0) rest (QcA Q sh ad D cA a) (aA sh.length ad H.size)) (hS : va_S (aA sh.length ad s.heap.size) s.heap H locs)
    (kk : ∀ (r : Option AV) (S' : St) (H1 : Heap) (locs1 : List Loc), Q r S' → va_P D classes (wdA ad cA S' sh) H1 → va_S (aA sh.length ad s.heap.size) s.heap H1 locs1 → W p l e R s m args below meth c H1 locs1 kc ks Z (F0 m (pc + 3) ls ((r.map (av_V ad)).toList ++ rest))) :
    W p l e R s m args below meth c H locs kc ks Z (F0 m pc ls st0) := by
  intro T hT X
  obtain ⟨v, st₀, t, T', L, h0, X', hL, e1, e2, ⟨⟨r, S', hv, hq, hp, hk⟩, hz, hkk⟩, st⟩ := hr T hT X
  cases hv
  rw [h0] at hz hkk
  have hA : ∀ q, aA sh.length ad H.size q → aA sh.length ad s.heap.size q := fun q h => by
    rcases h with h | h
    · exact Or.inl h
    · exact Or.inr (Nat.le_trans hS.1 h)
  obtain ⟨t2, a1, b1⟩ := kk r S' T'.heap (locs ++ L) hq (by rw [e1]; exact hp)
    ⟨Nat.le_trans hS.1 (by rw [e1]; exact hz), fun q h1 h2 => by rw [e1, hkk q (Nat.lt_of_lt_of_le h1 hS.1) (fun z => h2 (hA q z))]; exact hS.2.1 q h1 h2, fun q hq => by
      rcases List.mem_append.mp hq with h | h
      · exact hS.2.2 q h
      · exact hA _ (hL q h)⟩ T' rfl X'
  exact ⟨t2, st t2 a1, b1⟩
def notMH (z : MethodName) (n : Nat) : Prop := z.cls ≠ "java/lang/invoke/MethodHandle" ∧ z.cls ≠ "java/lang/invoke/VarHandle" ∧ (parseMethodDescriptor z.desc).map (fun d => d.parameters.length) = some n
/-- what the tables say of a call: virtual, static, static of a nest mate -/
def lkV (own : String) (i : Nat) (z : Mt) (n : Nat) : Prop := Jvm.Cond.methodLink own i z.1 ∈ lw_tbl ∧ Jvm.Cond.instanceMethod z.1 ∈ lw_tbl ∧ Jvm.Cond.selects z.1.cls z.1 z.1 ∈ lw_tbl ∧ Jvm.Cond.initialized z.1.cls ∈ lw_tbl ∧ notMH z.1 n
def lkS (own : String) (i : Nat) (z : Mt) (n : Nat) : Prop := Jvm.Cond.methodLink own i z.1 ∈ lw_tbl ∧ Jvm.Cond.static z.1 ∈ lw_tbl ∧ Jvm.Cond.initialized z.1.cls ∈ lw_tbl ∧ notMH z.1 n
def lkN (own : String) (i : Nat) (z : Mt) (n : Nat) : Prop := Jvm.Cond.methodLinkNest own i z.1 nestHost ∈ lw_tbl ∧ Jvm.Cond.static z.1 ∈ lw_tbl ∧ Jvm.Cond.initialized z.1.cls ∈ lw_tbl ∧ notMH z.1 n
def lkW (own : String) (i : Nat) (z : Mt) (n : Nat) : Prop := Jvm.Cond.methodLinkNest own i z.1 nestHost ∈ lw_tbl ∧ Jvm.Cond.instanceMethod z.1 ∈ lw_tbl ∧ Jvm.Cond.selects z.1.cls z.1 z.1 ∈ lw_tbl ∧ Jvm.Cond.initialized z.1.cls ∈ lw_tbl ∧ notMH z.1 n
section Calls9
variable {l : Launch} {B : List Sh} {R : Room} {y z : Mt} {Zf : ZF} {kc ks pc i t n : Nat} {d : Nat × Nat} {lv : List (Option AV)} {st as rest : List AV} {S : St} {Q : Option AV → St → Prop}
theorem map_rev (ad : Nat → Nat) (as rest : List AV) : (as.reverse ++ rest).map (av_V ad) = (as.map (av_V ad)).reverse ++ rest.map (av_V ad) := by
  rw [List.map_append, List.map_reverse]
theorem gw_wsM (hz : okM z) : GoodIn gw (wsM z) := fun w hw => by
  rcases List.mem_cons.mp hw with rfl | h
  · exact gw_good hz.2.2.1
  · exact gw_good h
theorem pcA_pre {p : Program} {s : State} {m : MethodId} {args : Array Value} {meth : Method} {c : Code} {sh : List Sh} {ad : Nat → Nat} {D : va_G} {cA : FieldType → ClassId} {H : Heap} (C : Cx B y p s m args meth c sh ad D cA) (hP : va_P D classes (wdA ad cA S sh) H) (as : List AV) : ∀ U : State, U.heap = H → s.WarmedH U.vm → PcA as S sh ad D cA H.size (as.map (av_V ad)).toArray U := by
  intro U hU hW
  obtain ⟨hx, hb, hr, hml, hown, hts, hlk, hn, hK, hok, hsh, hi⟩ := id C
  exact ⟨rfl, by rw [hU], by rw [hU]; exact hP, va_K.moved hW.alike hK, hn.warm hW⟩
theorem e_callV {o ci : Nat} {fl : List (Option Nat)} (hz : okM z) (hd : cAt y.2.2.2.2.1 pc = some (.invokevirtual i, 3, t)) (hl : lkV y.1.cls i z n) (hB : B[o]? = some (.inl (ci, fl))) (hci : (classes[ci]?).map (fun r => r.1) = some z.1.cls)
    (hK : KK l B d z (aR o :: as) S Q) (hlen : as.length = n) (hst : st = as.reverse ++ aR o :: rest) (hR : d.1 + 1 ≤ R.frames ∧ 8 + (z.2.2.1 + 11) + d.2 ≤ R.locals) (hc : kc ≤ R.cells ∧ ks ≤ R.slots) (hrest : (rest.map av_c).sum ≤ 8)
    (kk : ∀ (r : Option AV) (S' : St), Q r S' → EE l B R y Zf kc ks (pc + 3) lv (r.toList ++ rest) S') : EE l B R y Zf kc ks pc lv st S := by
  subst hst
  intro p e s m args below meth c sh ad D cA H locs ls C hP hS hlh
  obtain ⟨hx, hb, hr, hml, hown, hts, hlk, hn, hKw, hok, hsh, hi⟩ := id C
  obtain ⟨w1, w2, w3, w4, w5⟩ := hl
  obtain ⟨rc, hrc, hrn⟩ := Option.map_eq_some_iff.mp hci
  have hM := hK sh ad D cA H.size hsh hi
  have hG : GoodIn gw (wsV y.1.cls i z.1.cls z.1 (wsM z)) := fun w hw => by
    unfold wsV at hw
    rcases List.mem_append.mp hw with h | h
    · simp only [List.mem_cons, List.not_mem_nil, or_false] at h
      rcases h with rfl | rfl | rfl | rfl
      · exact gw_good (gw_in w1 rfl)
      · exact gw_good (gw_in w2 rfl)
      · exact gw_good (gw_in w3 rfl)
      · exact gw_good (gw_in w4 rfl)
    · exact gw_wsM hz w h
  rw [map_rev, List.map_cons]
  refine a_call (va_runV (C := z.1.cls) (As := as.map (av_V ad)) (rest := rest.map (av_V ad)) ⟨hx, hb, hml, hown, hts⟩ hM (cwV n hts hG rfl rfl rfl ⟨rfl, w5⟩ hR) ⟨pcA_blind, ?_, pcA_pre C hP (aR o :: as)⟩ rfl (by rw [List.length_map]; exact hlen) hlh.1 rfl (lv_room (by rw [av_cats]; exact hrest)) (okM_c hok hd).1 ⟨hc.1, hc.2⟩) hS (fun r S' H1 locs1 hq hP1 hS1 => ?_)
  · obtain ⟨cell, g1, g2, g3⟩ := va_recv hKw hP hrc (wd_at (sh_pre hsh hB))
    exact ⟨cell, g1, g2, by rw [← hrn]; exact g3⟩
  · have h := kk r S' hq p e s m args below meth c sh ad D cA H1 locs1 ls C hP1 hS1 hlh
    rw [List.map_append] at h
    cases r <;> exact h
theorem e_callW {o ci : Nat} {fl : List (Option Nat)} (hz : okM z) (hd : cAt y.2.2.2.2.1 pc = some (.invokevirtual i, 3, t)) (hl : lkW y.1.cls i z n) (hB : B[o]? = some (.inl (ci, fl))) (hci : (classes[ci]?).map (fun r => r.1) = some z.1.cls)
    (hK : KK l B d z (aR o :: as) S Q) (hlen : as.length = n) (hst : st = as.reverse ++ aR o :: rest) (hR : d.1 + 1 ≤ R.frames ∧ 8 + (z.2.2.1 + 11) + d.2 ≤ R.locals) (hc : kc ≤ R.cells ∧ ks ≤ R.slots) (hrest : (rest.map av_c).sum ≤ 8)
    (kk : ∀ (r : Option AV) (S' : St), Q r S' → EE l B R y Zf kc ks (pc + 3) lv (r.toList ++ rest) S') : EE l B R y Zf kc ks pc lv st S := by
  subst hst
  intro p e s m args below meth c sh ad D cA H locs ls C hP hS hlh
  obtain ⟨hx, hb, hr, hml, hown, hts, hlk, hn, hKw, hok, hsh, hi⟩ := id C
  obtain ⟨w1, w2, w3, w4, w5⟩ := hl
  obtain ⟨rc, hrc, hrn⟩ := Option.map_eq_some_iff.mp hci
  have hM := hK sh ad D cA H.size hsh hi
  rw [map_rev, List.map_cons]
  refine a_call (va_runVN (C := z.1.cls) (As := as.map (av_V ad)) (rest := rest.map (av_V ad)) ⟨hx, hb, hml, hown, hts⟩ hM ⟨va_cnB n hts (gw_wsM hz) rfl rfl rfl (hn _ (nw_in w1 rfl)) (hts _ (gw_in w4 rfl)) w5 hR, hts _ (gw_in w2 rfl), hts _ (gw_in w3 rfl)⟩ ⟨pcA_blind, ?_, pcA_pre C hP (aR o :: as)⟩ rfl (by rw [List.length_map]; exact hlen) hlh.1 rfl (lv_room (by rw [av_cats]; exact hrest)) (okM_c hok hd).1 ⟨hc.1, hc.2⟩) hS (fun r S' H1 locs1 hq hP1 hS1 => ?_)
  · obtain ⟨cell, g1, g2, g3⟩ := va_recv hKw hP hrc (wd_at (sh_pre hsh hB))
    exact ⟨cell, g1, g2, by rw [← hrn]; exact g3⟩
  · have h := kk r S' hq p e s m args below meth c sh ad D cA H1 locs1 ls C hP1 hS1 hlh
    rw [List.map_append] at h
    cases r <;> exact h
theorem e_callS (hz : okM z) (hd : cAt y.2.2.2.2.1 pc = some (.invokestatic i, 3, t)) (hl : lkS y.1.cls i z n)
    (hK : KK l B d z as S Q) (hlen : as.length = n) (hst : st = as.reverse ++ rest) (hR : d.1 + 1 ≤ R.frames ∧ 8 + (z.2.2.1 + 11) + d.2 ≤ R.locals) (hc : kc ≤ R.cells ∧ ks ≤ R.slots) (hrest : (rest.map av_c).sum ≤ 8)
    (kk : ∀ (r : Option AV) (S' : St), Q r S' → EE l B R y Zf kc ks (pc + 3) lv (r.toList ++ rest) S') : EE l B R y Zf kc ks pc lv st S := by
  subst hst
  intro p e s m args below meth c sh ad D cA H locs ls C hP hS hlh
  obtain ⟨hx, hb, hr, hml, hown, hts, hlk, hn, hKw, hok, hsh, hi⟩ := id C
  obtain ⟨w1, w2, w4, w5⟩ := hl
  have hM := hK sh ad D cA H.size hsh hi
  have hG : GoodIn gw (va_wsS y.1.cls i z.1 (wsM z)) := fun w hw => by
    unfold va_wsS at hw
    rcases List.mem_append.mp hw with h | h
    · simp only [List.mem_cons, List.not_mem_nil, or_false] at h
      rcases h with rfl | rfl | rfl
      · exact gw_good (gw_in w1 rfl)
      · exact gw_good (gw_in w2 rfl)
      · exact gw_good (gw_in w4 rfl)
    · exact gw_wsM hz w h
  rw [map_rev]
  refine a_call (va_runS (As := as.map (av_V ad)) (rest := rest.map (av_V ad)) ⟨hx, hb, hml, hown, hts⟩ hM (va_cwS n hts hG rfl rfl rfl w5 hR) ⟨pcA_blind, pcA_pre C hP as⟩ rfl (by rw [List.length_map]; exact hlen) hlh.1 rfl (lv_room (by rw [av_cats]; exact hrest)) (okM_c hok hd).1 ⟨hc.1, hc.2⟩) hS (fun r S' H1 locs1 hq hP1 hS1 => ?_)
  have h := kk r S' hq p e s m args below meth c sh ad D cA H1 locs1 ls C hP1 hS1 hlh
  rw [List.map_append] at h
  cases r <;> exact h
theorem e_callN (hz : okM z) (hd : cAt y.2.2.2.2.1 pc = some (.invokestatic i, 3, t)) (hl : lkN y.1.cls i z n)
    (hK : KK l B d z as S Q) (hlen : as.length = n) (hst : st = as.reverse ++ rest) (hR : d.1 + 1 ≤ R.frames ∧ 8 + (z.2.2.1 + 11) + d.2 ≤ R.locals) (hc : kc ≤ R.cells ∧ ks ≤ R.slots) (hrest : (rest.map av_c).sum ≤ 8)
    (kk : ∀ (r : Option AV) (S' : St), Q r S' → EE l B R y Zf kc ks (pc + 3) lv (r.toList ++ rest) S') : EE l B R y Zf kc ks pc lv st S := by
  subst hst
  intro p e s m args below meth c sh ad D cA H locs ls C hP hS hlh
  obtain ⟨hx, hb, hr, hml, hown, hts, hlk, hn, hKw, hok, hsh, hi⟩ := id C
  obtain ⟨w1, w2, w4, w5⟩ := hl
  have hM := hK sh ad D cA H.size hsh hi
  rw [map_rev]
  refine a_call (va_runSN (As := as.map (av_V ad)) (rest := rest.map (av_V ad)) ⟨hx, hb, hml, hown, hts⟩ hM ⟨va_cnB n hts (gw_wsM hz) rfl rfl rfl (hn _ (nw_in w1 rfl)) (hts _ (gw_in w4 rfl)) w5 hR, hts _ (gw_in w2 rfl), trivial⟩ ⟨pcA_blind, pcA_pre C hP as⟩ rfl (by rw [List.length_map]; exact hlen) hlh.1 rfl (lv_room (by rw [av_cats]; exact hrest)) (okM_c hok hd).1 ⟨hc.1, hc.2⟩) hS (fun r S' H1 locs1 hq hP1 hS1 => ?_)
  have h := kk r S' hq p e s m args below meth c sh ad D cA H1 locs1 ls C hP1 hS1 hlh
  rw [List.map_append] at h
  cases r <;> exact h
end Calls9
/-- one answer, one store -/
def ans (v : Option AV) (S1 : St) : Option AV → St → Prop := fun r S' => r = v ∧ S' = S1
section Calls10
variable {l : Launch} {B : List Sh} {R : Room} {y z : Mt} {Zf : ZF} {kc ks pc i t n : Nat} {d : Nat × Nat} {lv : List (Option AV)} {st as rest : List AV} {S S1 : St} {v : AV}
theorem e_callV1 {o ci : Nat} {fl : List (Option Nat)} (hz : okM z) (hd : cAt y.2.2.2.2.1 pc = some (.invokevirtual i, 3, t)) (hl : lkV y.1.cls i z n) (hB : B[o]? = some (.inl (ci, fl))) (hci : (classes[ci]?).map (fun r => r.1) = some z.1.cls)
    (hK : KK l B d z (aR o :: as) S (ans (some v) S1)) (hlen : as.length = n) (hst : st = as.reverse ++ aR o :: rest) (hR : d.1 + 1 ≤ R.frames ∧ 8 + (z.2.2.1 + 11) + d.2 ≤ R.locals) (hc : kc ≤ R.cells ∧ ks ≤ R.slots) (hrest : (rest.map av_c).sum ≤ 8)
    (kk : EE l B R y Zf kc ks (pc + 3) lv (v :: rest) S1) : EE l B R y Zf kc ks pc lv st S := e_callV hz hd hl hB hci hK hlen hst hR hc hrest (fun r S' h => by obtain ⟨rfl, rfl⟩ := h; exact kk)
theorem e_callV0 {o ci : Nat} {fl : List (Option Nat)} (hz : okM z) (hd : cAt y.2.2.2.2.1 pc = some (.invokevirtual i, 3, t)) (hl : lkV y.1.cls i z n) (hB : B[o]? = some (.inl (ci, fl))) (hci : (classes[ci]?).map (fun r => r.1) = some z.1.cls)
    (hK : KK l B d z (aR o :: as) S (ans none S1)) (hlen : as.length = n) (hst : st = as.reverse ++ aR o :: rest) (hR : d.1 + 1 ≤ R.frames ∧ 8 + (z.2.2.1 + 11) + d.2 ≤ R.locals) (hc : kc ≤ R.cells ∧ ks ≤ R.slots) (hrest : (rest.map av_c).sum ≤ 8)
    (kk : EE l B R y Zf kc ks (pc + 3) lv rest S1) : EE l B R y Zf kc ks pc lv st S := e_callV hz hd hl hB hci hK hlen hst hR hc hrest (fun r S' h => by obtain ⟨rfl, rfl⟩ := h; exact kk)
theorem e_callW1 {o ci : Nat} {fl : List (Option Nat)} (hz : okM z) (hd : cAt y.2.2.2.2.1 pc = some (.invokevirtual i, 3, t)) (hl : lkW y.1.cls i z n) (hB : B[o]? = some (.inl (ci, fl))) (hci : (classes[ci]?).map (fun r => r.1) = some z.1.cls)
    (hK : KK l B d z (aR o :: as) S (ans (some v) S1)) (hlen : as.length = n) (hst : st = as.reverse ++ aR o :: rest) (hR : d.1 + 1 ≤ R.frames ∧ 8 + (z.2.2.1 + 11) + d.2 ≤ R.locals) (hc : kc ≤ R.cells ∧ ks ≤ R.slots) (hrest : (rest.map av_c).sum ≤ 8)
    (kk : EE l B R y Zf kc ks (pc + 3) lv (v :: rest) S1) : EE l B R y Zf kc ks pc lv st S := e_callW hz hd hl hB hci hK hlen hst hR hc hrest (fun r S' h => by obtain ⟨rfl, rfl⟩ := h; exact kk)
theorem e_callW0 {o ci : Nat} {fl : List (Option Nat)} (hz : okM z) (hd : cAt y.2.2.2.2.1 pc = some (.invokevirtual i, 3, t)) (hl : lkW y.1.cls i z n) (hB : B[o]? = some (.inl (ci, fl))) (hci : (classes[ci]?).map (fun r => r.1) = some z.1.cls)
    (hK : KK l B d z (aR o :: as) S (ans none S1)) (hlen : as.length = n) (hst : st = as.reverse ++ aR o :: rest) (hR : d.1 + 1 ≤ R.frames ∧ 8 + (z.2.2.1 + 11) + d.2 ≤ R.locals) (hc : kc ≤ R.cells ∧ ks ≤ R.slots) (hrest : (rest.map av_c).sum ≤ 8)
    (kk : EE l B R y Zf kc ks (pc + 3) lv rest S1) : EE l B R y Zf kc ks pc lv st S := e_callW hz hd hl hB hci hK hlen hst hR hc hrest (fun r S' h => by obtain ⟨rfl, rfl⟩ := h; exact kk)
theorem e_callS1 (hz : okM z) (hd : cAt y.2.2.2.2.1 pc = some (.invokestatic i, 3, t)) (hl : lkS y.1.cls i z n)
    (hK : KK l B d z as S (ans (some v) S1)) (hlen : as.length = n) (hst : st = as.reverse ++ rest) (hR : d.1 + 1 ≤ R.frames ∧ 8 + (z.2.2.1 + 11) + d.2 ≤ R.locals) (hc : kc ≤ R.cells ∧ ks ≤ R.slots) (hrest : (rest.map av_c).sum ≤ 8)
    (kk : EE l B R y Zf kc ks (pc + 3) lv (v :: rest) S1) : EE l B R y Zf kc ks pc lv st S := e_callS hz hd hl hK hlen hst hR hc hrest (fun r S' h => by obtain ⟨rfl, rfl⟩ := h; exact kk)
theorem e_callS0 (hz : okM z) (hd : cAt y.2.2.2.2.1 pc = some (.invokestatic i, 3, t)) (hl : lkS y.1.cls i z n)
    (hK : KK l B d z as S (ans none S1)) (hlen : as.length = n) (hst : st = as.reverse ++ rest) (hR : d.1 + 1 ≤ R.frames ∧ 8 + (z.2.2.1 + 11) + d.2 ≤ R.locals) (hc : kc ≤ R.cells ∧ ks ≤ R.slots) (hrest : (rest.map av_c).sum ≤ 8)
    (kk : EE l B R y Zf kc ks (pc + 3) lv rest S1) : EE l B R y Zf kc ks pc lv st S := e_callS hz hd hl hK hlen hst hR hc hrest (fun r S' h => by obtain ⟨rfl, rfl⟩ := h; exact kk)
theorem e_callN1 (hz : okM z) (hd : cAt y.2.2.2.2.1 pc = some (.invokestatic i, 3, t)) (hl : lkN y.1.cls i z n)
    (hK : KK l B d z as S (ans (some v) S1)) (hlen : as.length = n) (hst : st = as.reverse ++ rest) (hR : d.1 + 1 ≤ R.frames ∧ 8 + (z.2.2.1 + 11) + d.2 ≤ R.locals) (hc : kc ≤ R.cells ∧ ks ≤ R.slots) (hrest : (rest.map av_c).sum ≤ 8)
    (kk : EE l B R y Zf kc ks (pc + 3) lv (v :: rest) S1) : EE l B R y Zf kc ks pc lv st S := e_callN hz hd hl hK hlen hst hR hc hrest (fun r S' h => by obtain ⟨rfl, rfl⟩ := h; exact kk)
theorem e_callN0 (hz : okM z) (hd : cAt y.2.2.2.2.1 pc = some (.invokestatic i, 3, t)) (hl : lkN y.1.cls i z n)
    (hK : KK l B d z as S (ans none S1)) (hlen : as.length = n) (hst : st = as.reverse ++ rest) (hR : d.1 + 1 ≤ R.frames ∧ 8 + (z.2.2.1 + 11) + d.2 ≤ R.locals) (hc : kc ≤ R.cells ∧ ks ≤ R.slots) (hrest : (rest.map av_c).sum ≤ 8)
    (kk : EE l B R y Zf kc ks (pc + 3) lv rest S1) : EE l B R y Zf kc ks pc lv st S := e_callN hz hd hl hK hlen hst hR hc hrest (fun r S' h => by obtain ⟨rfl, rfl⟩ := h; exact kk)
end Calls10
end
section
/-! constants, Math, switches -/
section More
variable {l : Launch} {B : List Sh} {R : Room} {y : Mt} {Zf : ZF} {kc ks pc i t : Nat} {lv : List (Option AV)} {st : List AV} {S : St}
theorem e_ldc {v : Int32} (hd : cAt y.2.2.2.2.1 pc = some (.ldc i, 2, t)) (hw : Jvm.Cond.constant y.1.cls i v ∈ lw_tbl) (k : EE l B R y Zf kc ks (pc + 2) lv (aI v :: st) S) : EE l B R y Zf kc ks pc lv st S := by
  intro p e s m args below meth c sh ad D cA H locs ls C hP hS hl
  obtain ⟨hx, hb, hr, hml, hown, hts, hlk, hn, hK, hok, hsh, hi⟩ := id C
  exact lv_ldc hx hb hown (hts _ (gw_in hw rfl)) (okM_c hok hd).1 (k p e s m args below meth c sh ad D cA H locs ls C hP hS hl)
theorem e_ldcw {v : Int32} (hd : cAt y.2.2.2.2.1 pc = some (.ldc_w i, 3, t)) (hw : Jvm.Cond.constant y.1.cls i v ∈ lw_tbl) (k : EE l B R y Zf kc ks (pc + 3) lv (aI v :: st) S) : EE l B R y Zf kc ks pc lv st S := by
  intro p e s m args below meth c sh ad D cA H locs ls C hP hS hl
  obtain ⟨hx, hb, hr, hml, hown, hts, hlk, hn, hK, hok, hsh, hi⟩ := id C
  exact lv_ldcw hx hb hown (hts _ (gw_in hw rfl)) (okM_c hok hd).1 (k p e s m args below meth c sh ad D cA H locs ls C hP hS hl)
theorem e_ldc2 {v : Int64} (hd : cAt y.2.2.2.2.1 pc = some (.ldc2_w i, 3, t)) (hw : Jvm.Cond.constantLong y.1.cls i v ∈ lw_tbl) (k : EE l B R y Zf kc ks (pc + 3) lv (aL v :: st) S) : EE l B R y Zf kc ks pc lv st S := by
  intro p e s m args below meth c sh ad D cA H locs ls C hP hS hl
  obtain ⟨hx, hb, hr, hml, hown, hts, hlk, hn, hK, hok, hsh, hi⟩ := id C
  exact lv_ldc2 hx hb hown (hts _ (gw_in hw rfl)) (okM_c hok hd).1 (k p e s m args below meth c sh ad D cA H locs ls C hP hS hl)
theorem w_mmaxS : Jvm.Cond.static Lib.Math.max.name ∈ lw_tbl := List.mem_of_getElem? (i := 85) (by decide +kernel)
theorem w_mminS : Jvm.Cond.static Lib.Math.min.name ∈ lw_tbl := List.mem_of_getElem? (i := 82) (by decide +kernel)
theorem w_mathI : Jvm.Cond.initialized "java/lang/Math" ∈ lw_tbl := List.mem_of_getElem? (i := 54) (by decide +kernel)
theorem w_mmaxC : Jvm.Cond.code Lib.Math.max.name Lib.Math.max.code 2 (some .int) ∈ lw_tbl := List.mem_of_getElem? (i := 86) (by decide +kernel)
theorem w_mminC : Jvm.Cond.code Lib.Math.min.name Lib.Math.min.code 2 (some .int) ∈ lw_tbl := List.mem_of_getElem? (i := 83) (by decide +kernel)
theorem e_mmax {x z : Int32} (hd : cAt y.2.2.2.2.1 pc = some (.invokestatic i, 3, t)) (hw : Jvm.Cond.methodLink y.1.cls i Lib.Math.max.name ∈ lw_tbl) (hR : 1 ≤ R.frames) (hL : (st.map av_c).sum + 13 ≤ R.locals) (hc : kc ≤ R.cells ∧ ks ≤ R.slots) (k : EE l B R y Zf kc ks (pc + 3) lv (aI (if x < z then z else x) :: st) S) : EE l B R y Zf kc ks pc lv (aI z :: aI x :: st) S := by
  intro p e s m args below meth c sh ad D cA H locs ls C hP hS hl
  obtain ⟨hx, hb, hr, hml, hown, hts, hlk, hn, hK, hok, hsh, hi⟩ := id C
  exact va_mmax hx hb (hml.trans hl.1.symm) hown (hts _ (gw_in hw rfl)) (hts _ (gw_in w_mmaxS rfl)) (hts _ (gw_in w_mathI rfl)) (hts _ (gw_in w_mmaxC rfl)) hR (by rw [av_cats]; exact hL) hc.1 hc.2 (okM_c hok hd).1 (k p e s m args below meth c sh ad D cA H locs ls C hP hS hl)
theorem e_mmin {x z : Int32} (hd : cAt y.2.2.2.2.1 pc = some (.invokestatic i, 3, t)) (hw : Jvm.Cond.methodLink y.1.cls i Lib.Math.min.name ∈ lw_tbl) (hR : 1 ≤ R.frames) (hL : (st.map av_c).sum + 13 ≤ R.locals) (hc : kc ≤ R.cells ∧ ks ≤ R.slots) (k : EE l B R y Zf kc ks (pc + 3) lv (aI (if z < x then z else x) :: st) S) : EE l B R y Zf kc ks pc lv (aI z :: aI x :: st) S := by
  intro p e s m args below meth c sh ad D cA H locs ls C hP hS hl
  obtain ⟨hx, hb, hr, hml, hown, hts, hlk, hn, hK, hok, hsh, hi⟩ := id C
  exact va_mmin hx hb (hml.trans hl.1.symm) hown (hts _ (gw_in hw rfl)) (hts _ (gw_in w_mminS rfl)) (hts _ (gw_in w_mathI rfl)) (hts _ (gw_in w_mminC rfl)) hR (by rw [av_cats]; exact hL) hc.1 hc.2 (okM_c hok hd).1 (k p e s m args below meth c sh ad D cA H locs ls C hP hS hl)
theorem e_tswI {dflt lo hi off : Int} {offs : Array Int} {len tgt : Nat} {x : Int32} (hd : cAt y.2.2.2.2.1 pc = some (.tableswitch dflt lo hi offs, len, t)) (h1 : ¬ x.toInt < lo) (h2 : ¬ hi < x.toInt) (ho : offs[(x.toInt - lo).toNat]? = some off) (ht : (pc : Int) + off = (tgt : Int)) (k : EE l B R y Zf kc ks tgt lv st S) : EE l B R y Zf kc ks pc lv (aI x :: st) S := by
  intro p e s m args below meth c sh ad D cA H locs ls C hP hS hl
  obtain ⟨hx, hb, hr, hml, hown, hts, hlk, hn, hK, hok, hsh, hi⟩ := id C
  exact lv_tableIn hx hb (okM_c hok hd).1 h1 h2 ho ht (k p e s m args below meth c sh ad D cA H locs ls C hP hS hl)
theorem e_tswO {dflt lo hi : Int} {offs : Array Int} {len tgt : Nat} {x : Int32} (hd : cAt y.2.2.2.2.1 pc = some (.tableswitch dflt lo hi offs, len, t)) (h : x.toInt < lo ∨ hi < x.toInt) (ht : (pc : Int) + dflt = (tgt : Int)) (k : EE l B R y Zf kc ks tgt lv st S) : EE l B R y Zf kc ks pc lv (aI x :: st) S := by
  intro p e s m args below meth c sh ad D cA H locs ls C hP hS hl
  obtain ⟨hx, hb, hr, hml, hown, hts, hlk, hn, hK, hok, hsh, hi⟩ := id C
  exact lv_tableOut hx hb (okM_c hok hd).1 h ht (k p e s m args below meth c sh ad D cA H locs ls C hP hS hl)
end More
end
section
def F_H : List (Nat × Nat × Nat × Nat) := [(18, 8, 0, 2), (22, 8, 1, 2), (30, 8, 2, 2), (34, 8, 3, 2), (40, 8, 4, 2), (47, 8, 5, 2), (54, 8, 6, 2), (61, 8, 7, 2), (68, 8, 8, 2), (75, 8, 9, 2), (79, 8, 10, 2), (113, 4, 3, 0), (199, 2, 2, 0), (202, 2, 1, 0), (205, 8, 12, 0), (238, 6, 4, 0), (241, 8, 14, 0), (263, 5, 2, 0), (268, 8, 13, 0), (273, 5, 7, 0), (282, 5, 6, 0), (296, 1, 0, 2), (299, 1, 1, 2), (302, 4, 1, 0), (303, 4, 2, 0), (304, 8, 11, 0), (318, 7, 1, 2)]
theorem okF_H : F_H.all (fldB "HalftoneRegions") = true := by decide +kernel
def F_C : List (Nat × Nat × Nat × Nat) := [(9, 0, 0, 2)]
theorem okF_C : F_C.all (fldB "HalftoneRegions$Codes") = true := by decide +kernel
def F_F : List (Nat × Nat × Nat × Nat) := [(9, 1, 0, 2), (15, 1, 1, 2)]
theorem okF_F : F_F.all (fldB "HalftoneRegions$Forecast") = true := by decide +kernel
def F_L : List (Nat × Nat × Nat × Nat) := [(9, 2, 0, 2), (15, 2, 1, 0), (19, 2, 2, 0), (22, 2, 5, 0), (28, 2, 3, 0), (31, 2, 4, 0), (34, 2, 6, 0)]
theorem okF_L : F_L.all (fldB "HalftoneRegions$Lattice") = true := by decide +kernel
def F_P : List (Nat × Nat × Nat × Nat) := [(7, 3, 0, 0), (13, 3, 1, 0)]
theorem okF_P : F_P.all (fldB "HalftoneRegions$Pace") = true := by decide +kernel
def F_B : List (Nat × Nat × Nat × Nat) := [(9, 4, 0, 2), (15, 4, 1, 0), (19, 4, 2, 0), (22, 4, 3, 0)]
theorem okF_B : F_B.all (fldB "HalftoneRegions$PatternSet") = true := by decide +kernel
def F_R : List (Nat × Nat × Nat × Nat) := [(9, 5, 0, 2), (18, 5, 1, 2), (22, 5, 2, 0), (33, 5, 3, 0), (36, 5, 4, 0), (39, 5, 5, 0), (42, 5, 6, 0), (45, 5, 7, 0)]
theorem okF_R : F_R.all (fldB "HalftoneRegions$RunReader") = true := by decide +kernel
def F_W : List (Nat × Nat × Nat × Nat) := [(9, 6, 0, 2), (18, 6, 1, 2), (31, 6, 2, 0), (35, 6, 3, 0), (38, 6, 4, 0)]
theorem okF_W : F_W.all (fldB "HalftoneRegions$RunWriter") = true := by decide +kernel
def F_S : List (Nat × Nat × Nat × Nat) := [(9, 7, 0, 2), (15, 7, 1, 2)]
theorem okF_S : F_S.all (fldB "HalftoneRegions$Sheet") = true := by decide +kernel
def F_M : List (Nat × Nat × Nat × Nat) := [(7, 9, 3, 2), (13, 9, 4, 2), (16, 9, 8, 2), (19, 9, 15, 2), (24, 9, 19, 2), (27, 9, 22, 2), (30, 9, 24, 2), (33, 9, 25, 2), (36, 9, 26, 2), (39, 9, 27, 2), (42, 9, 28, 2), (45, 9, 1, 2), (49, 9, 2, 2), (55, 9, 0, 0), (62, 9, 9, 0), (65, 9, 10, 0), (68, 9, 11, 0), (71, 9, 12, 0), (74, 9, 13, 0), (77, 9, 14, 0), (80, 9, 16, 0), (83, 9, 17, 0), (86, 9, 18, 0), (89, 9, 21, 0), (92, 9, 23, 0), (95, 9, 31, 0), (101, 9, 5, 0), (104, 9, 6, 0), (107, 9, 7, 0), (171, 9, 29, 0), (174, 9, 30, 0), (177, 9, 20, 0), (212, 9, 32, 0), (215, 9, 35, 1), (225, 9, 33, 0), (228, 9, 34, 1), (231, 9, 36, 0), (234, 9, 37, 1)]
theorem okF_M : F_M.all (fldB "HalftoneRegionsModel") = true := by decide +kernel
def F_Z : List (Nat × Nat × Nat × Nat) := []
theorem okF_Z : F_Z.all (fldB "HalftoneRegionsLaw") = true := by decide +kernel
def F_JI : List (Nat × Nat × Nat × Nat) := []
theorem okF_JI : F_JI.all (fldB "java/lang/Integer") = true := by decide +kernel
def F_JL : List (Nat × Nat × Nat × Nat) := []
theorem okF_JL : F_JL.all (fldB "java/lang/Long") = true := by decide +kernel
def F_JA : List (Nat × Nat × Nat × Nat) := []
theorem okF_JA : F_JA.all (fldB "java/util/Arrays") = true := by decide +kernel
def m_H_init : Mt := (⟨"HalftoneRegions", "<init>", "(II)V"⟩, prog_1_method_1_code, 3, none, [(0, .aload_n 0, 1, 0), (1, .invokespecial 1, 3, 0), (4, .aload_n 0, 1, 0), (5, .iconst 1, 1, 0), (6, .bipush 32, 2, 0), (8, .iload_n 1, 1, 0), (9, .invokestatic 9, 3, 0), (12, .invokestatic 15, 3, 0), (15, .putfield 18, 3, 0), (18, .aload_n 0, 1, 0), (19, .iconst 1, 1, 0), (20, .bipush 32, 2, 0), (22, .iload_n 2, 1, 0), (23, .invokestatic 9, 3, 0), (26, .invokestatic 15, 3, 0), (29, .putfield 22, 3, 0), (32, .aload_n 0, 1, 0), (33, .new 25, 3, 0), (36, .dup, 1, 0), (37, .aload_n 0, 1, 0), (38, .getfield 18, 3, 0), (41, .aload_n 0, 1, 0), (42, .getfield 22, 3, 0), (45, .invokespecial 27, 3, 0), (48, .putfield 30, 3, 0), (51, .aload_n 0, 1, 0), (52, .new 25, 3, 0), (55, .dup, 1, 0), (56, .aload_n 0, 1, 0), (57, .getfield 18, 3, 0), (60, .aload_n 0, 1, 0), (61, .getfield 22, 3, 0), (64, .invokespecial 27, 3, 0), (67, .putfield 34, 3, 0), (70, .aload_n 0, 1, 0), (71, .new 37, 3, 0), (74, .dup, 1, 0), (75, .invokespecial 39, 3, 0), (78, .putfield 40, 3, 0), (81, .aload_n 0, 1, 0), (82, .new 44, 3, 0), (85, .dup, 1, 0), (86, .invokespecial 46, 3, 0), (89, .putfield 47, 3, 0), (92, .aload_n 0, 1, 0), (93, .new 51, 3, 0), (96, .dup, 1, 0), (97, .invokespecial 53, 3, 0), (100, .putfield 54, 3, 0), (103, .aload_n 0, 1, 0), (104, .new 58, 3, 0), (107, .dup, 1, 0), (108, .invokespecial 60, 3, 0), (111, .putfield 61, 3, 0), (114, .aload_n 0, 1, 0), (115, .new 65, 3, 0), (118, .dup, 1, 0), (119, .invokespecial 67, 3, 0), (122, .putfield 68, 3, 0), (125, .aload_n 0, 1, 0), (126, .new 72, 3, 0), (129, .dup, 1, 0), (130, .invokespecial 74, 3, 0), (133, .putfield 75, 3, 0), (136, .aload_n 0, 1, 0), (137, .bipush 65, 2, 0), (139, .newarray .int, 2, 0), (141, .putfield 79, 3, 0), (144, .return_, 1, 0)], F_H)
set_option maxRecDepth 40000 in
theorem ok_H_init : okM m_H_init := ⟨by decide +kernel, okF_H, gw_in (List.mem_of_getElem? (i := 77) rfl) rfl, by decide +kernel⟩
def m_H_patterns : Mt := (⟨"HalftoneRegions", "patterns", "(III)I"⟩, prog_1_method_2_code, 4, (some .int), [(0, .iload_n 1, 1, 0), (1, .iconst 1, 1, 0), (2, .bipush 8, 2, 0), (4, .invokestatic 83, 3, 0), (7, .ifCond .eq 13, 3, 20), (10, .iload_n 2, 1, 0), (11, .iconst 1, 1, 0), (12, .bipush 8, 2, 0), (14, .invokestatic 83, 3, 0), (17, .ifCond .ne 13, 3, 30), (20, .new 87, 3, 0), (23, .dup, 1, 0), (24, .ldc 89, 2, 0), (26, .invokespecial 91, 3, 0), (29, .athrow, 1, 0), (30, .iload_n 3, 1, 0), (31, .iconst 1, 1, 0), (32, .bipush 64, 2, 0), (34, .invokestatic 83, 3, 0), (37, .ifCond .ne 13, 3, 50), (40, .new 87, 3, 0), (43, .dup, 1, 0), (44, .ldc 94, 2, 0), (46, .invokespecial 91, 3, 0), (49, .athrow, 1, 0), (50, .aload_n 0, 1, 0), (51, .getfield 40, 3, 0), (54, .iload_n 1, 1, 0), (55, .iload_n 2, 1, 0), (56, .iload_n 3, 1, 0), (57, .invokevirtual 96, 3, 0), (60, .aload_n 0, 1, 0), (61, .getfield 47, 3, 0), (64, .invokevirtual 100, 3, 0), (67, .aload_n 0, 1, 0), (68, .getfield 40, 3, 0), (71, .invokevirtual 103, 3, 0), (74, .ireturn, 1, 0)], F_H)
set_option maxRecDepth 40000 in
theorem ok_H_patterns : okM m_H_patterns := ⟨by decide +kernel, okF_H, gw_in (List.mem_of_getElem? (i := 597) rfl) rfl, by decide +kernel⟩
def m_H_ordered : Mt := (⟨"HalftoneRegions", "ordered", "(I)I"⟩, prog_1_method_3_code, 2, (some .int), [(0, .iload_n 1, 1, 0), (1, .iconst 1, 1, 0), (2, .bipush 7, 2, 0), (4, .invokestatic 83, 3, 0), (7, .ifCond .ne 13, 3, 20), (10, .new 87, 3, 0), (13, .dup, 1, 0), (14, .ldc 107, 2, 0), (16, .invokespecial 91, 3, 0), (19, .athrow, 1, 0), (20, .aload_n 0, 1, 0), (21, .getfield 40, 3, 0), (24, .iload_n 1, 1, 0), (25, .invokevirtual 109, 3, 0), (28, .aload_n 0, 1, 0), (29, .getfield 47, 3, 0), (32, .invokevirtual 100, 3, 0), (35, .aload_n 0, 1, 0), (36, .getfield 40, 3, 0), (39, .getfield 113, 3, 0), (42, .ireturn, 1, 0)], F_H)
set_option maxRecDepth 40000 in
theorem ok_H_ordered : okM m_H_ordered := ⟨by decide +kernel, okF_H, gw_in (List.mem_of_getElem? (i := 673) rfl) rfl, by decide +kernel⟩
def m_H_put : Mt := (⟨"HalftoneRegions", "put", "(IIIZ)Z"⟩, prog_1_method_4_code, 6, (some .boolean), [(0, .aload_n 0, 1, 0), (1, .getfield 40, 3, 0), (4, .iload_n 1, 1, 0), (5, .iload_n 2, 1, 0), (6, .iload_n 3, 1, 0), (7, .invokevirtual 116, 3, 0), (10, .ifCond .ne 13, 3, 23), (13, .new 119, 3, 0), (16, .dup, 1, 0), (17, .ldc 121, 2, 0), (19, .invokespecial 123, 3, 0), (22, .athrow, 1, 0), (23, .aload_n 0, 1, 0), (24, .getfield 40, 3, 0), (27, .iload_n 1, 1, 0), (28, .iload_n 2, 1, 0), (29, .iload_n 3, 1, 0), (30, .invokevirtual 124, 3, 0), (33, .iload 4, 2, 0), (35, .if_icmp .eq 7, 3, 42), (38, .iconst 1, 1, 0), (39, .goto 4, 3, 43), (42, .iconst 0, 1, 0), (43, .istore 5, 2, 0), (45, .iload 5, 2, 0), (47, .ifCond .eq 13, 3, 60), (50, .aload_n 0, 1, 0), (51, .getfield 40, 3, 0), (54, .iload_n 1, 1, 0), (55, .iload_n 2, 1, 0), (56, .iload_n 3, 1, 0), (57, .invokevirtual 127, 3, 0), (60, .iload 5, 2, 0), (62, .ireturn, 1, 0)], F_H)
set_option maxRecDepth 40000 in
theorem ok_H_put : okM m_H_put := ⟨by decide +kernel, okF_H, gw_in (List.mem_of_getElem? (i := 698) rfl) rfl, by decide +kernel⟩
def m_H_cell : Mt := (⟨"HalftoneRegions", "cell", "(III)Z"⟩, prog_1_method_5_code, 4, (some .boolean), [(0, .aload_n 0, 1, 0), (1, .getfield 40, 3, 0), (4, .iload_n 1, 1, 0), (5, .iload_n 2, 1, 0), (6, .iload_n 3, 1, 0), (7, .invokevirtual 116, 3, 0), (10, .ifCond .ne 13, 3, 23), (13, .new 119, 3, 0), (16, .dup, 1, 0), (17, .ldc 121, 2, 0), (19, .invokespecial 123, 3, 0), (22, .athrow, 1, 0), (23, .aload_n 0, 1, 0), (24, .getfield 40, 3, 0), (27, .iload_n 1, 1, 0), (28, .iload_n 2, 1, 0), (29, .iload_n 3, 1, 0), (30, .invokevirtual 124, 3, 0), (33, .ireturn, 1, 0)], F_H)
set_option maxRecDepth 40000 in
theorem ok_H_cell : okM m_H_cell := ⟨by decide +kernel, okF_H, gw_in (List.mem_of_getElem? (i := 735) rfl) rfl, by decide +kernel⟩
def m_H_grid : Mt := (⟨"HalftoneRegions", "grid", "(IIIIII)I"⟩, prog_1_method_6_code, 7, (some .int), [(0, .iload_n 1, 1, 0), (1, .iconst 1, 1, 0), (2, .bipush 16, 2, 0), (4, .invokestatic 83, 3, 0), (7, .ifCond .eq 13, 3, 20), (10, .iload_n 2, 1, 0), (11, .iconst 1, 1, 0), (12, .bipush 16, 2, 0), (14, .invokestatic 83, 3, 0), (17, .ifCond .ne 13, 3, 30), (20, .new 87, 3, 0), (23, .dup, 1, 0), (24, .ldc 130, 2, 0), (26, .invokespecial 91, 3, 0), (29, .athrow, 1, 0), (30, .iload_n 3, 1, 0), (31, .ldc 132, 2, 0), (33, .ldc 133, 2, 0), (35, .invokestatic 83, 3, 0), (38, .ifCond .eq 15, 3, 53), (41, .iload 4, 2, 0), (43, .ldc 132, 2, 0), (45, .ldc 133, 2, 0), (47, .invokestatic 83, 3, 0), (50, .ifCond .ne 13, 3, 63), (53, .new 87, 3, 0), (56, .dup, 1, 0), (57, .ldc 134, 2, 0), (59, .invokespecial 91, 3, 0), (62, .athrow, 1, 0), (63, .iload 5, 2, 0), (65, .sipush (-4096), 3, 0), (68, .sipush 4096, 3, 0), (71, .invokestatic 83, 3, 0), (74, .ifCond .eq 17, 3, 91), (77, .iload 6, 2, 0), (79, .sipush (-4096), 3, 0), (82, .sipush 4096, 3, 0), (85, .invokestatic 83, 3, 0), (88, .ifCond .ne 13, 3, 101), (91, .new 87, 3, 0), (94, .dup, 1, 0), (95, .ldc 136, 2, 0), (97, .invokespecial 91, 3, 0), (100, .athrow, 1, 0), (101, .iload 5, 2, 0), (103, .ifCond .ne 18, 3, 121), (106, .iload 6, 2, 0), (108, .ifCond .ne 13, 3, 121), (111, .new 87, 3, 0), (114, .dup, 1, 0), (115, .ldc 138, 2, 0), (117, .invokespecial 91, 3, 0), (120, .athrow, 1, 0), (121, .aload_n 0, 1, 0), (122, .getfield 47, 3, 0), (125, .iload_n 1, 1, 0), (126, .iload_n 2, 1, 0), (127, .invokevirtual 140, 3, 0), (130, .aload_n 0, 1, 0), (131, .getfield 47, 3, 0), (134, .iload_n 3, 1, 0), (135, .iload 4, 2, 0), (137, .iload 5, 2, 0), (139, .iload 6, 2, 0), (141, .invokevirtual 142, 3, 0), (144, .aload_n 0, 1, 0), (145, .invokevirtual 146, 3, 0), (148, .ireturn, 1, 0)], F_H)
set_option maxRecDepth 40000 in
theorem ok_H_grid : okM m_H_grid := ⟨by decide +kernel, okF_H, gw_in (List.mem_of_getElem? (i := 742) rfl) rfl, by decide +kernel⟩
def m_H_where : Mt := (⟨"HalftoneRegions", "where", "(III)I"⟩, prog_1_method_7_code, 4, (some .int), [(0, .aload_n 0, 1, 0), (1, .getfield 47, 3, 0), (4, .iload_n 1, 1, 0), (5, .iload_n 2, 1, 0), (6, .invokevirtual 149, 3, 0), (9, .ifCond .ne 13, 3, 22), (12, .new 119, 3, 0), (15, .dup, 1, 0), (16, .ldc 152, 2, 0), (18, .invokespecial 123, 3, 0), (21, .athrow, 1, 0), (22, .iload_n 3, 1, 0), (23, .iconst 0, 1, 0), (24, .iconst 1, 1, 0), (25, .invokestatic 83, 3, 0), (28, .ifCond .ne 13, 3, 41), (31, .new 87, 3, 0), (34, .dup, 1, 0), (35, .ldc 154, 2, 0), (37, .invokespecial 91, 3, 0), (40, .athrow, 1, 0), (41, .iload_n 3, 1, 0), (42, .ifCond .ne 15, 3, 57), (45, .aload_n 0, 1, 0), (46, .getfield 47, 3, 0), (49, .iload_n 1, 1, 0), (50, .iload_n 2, 1, 0), (51, .invokevirtual 156, 3, 0), (54, .goto 12, 3, 66), (57, .aload_n 0, 1, 0), (58, .getfield 47, 3, 0), (61, .iload_n 1, 1, 0), (62, .iload_n 2, 1, 0), (63, .invokevirtual 159, 3, 0), (66, .ireturn, 1, 0)], F_H)
set_option maxRecDepth 40000 in
theorem ok_H_where : okM m_H_where := ⟨by decide +kernel, okF_H, gw_in (List.mem_of_getElem? (i := 755) rfl) rfl, by decide +kernel⟩
def m_H_outside : Mt := (⟨"HalftoneRegions", "outside", "(II)Z"⟩, prog_1_method_8_code, 3, (some .boolean), [(0, .aload_n 0, 1, 0), (1, .getfield 47, 3, 0), (4, .iload_n 1, 1, 0), (5, .iload_n 2, 1, 0), (6, .invokevirtual 149, 3, 0), (9, .ifCond .ne 13, 3, 22), (12, .new 119, 3, 0), (15, .dup, 1, 0), (16, .ldc 152, 2, 0), (18, .invokespecial 123, 3, 0), (21, .athrow, 1, 0), (22, .aload_n 0, 1, 0), (23, .iload_n 1, 1, 0), (24, .iload_n 2, 1, 0), (25, .invokevirtual 162, 3, 0), (28, .ireturn, 1, 0)], F_H)
set_option maxRecDepth 40000 in
theorem ok_H_outside : okM m_H_outside := ⟨by decide +kernel, okF_H, gw_in (List.mem_of_getElem? (i := 769) rfl) rfl, by decide +kernel⟩
def m_H_grey : Mt := (⟨"HalftoneRegions", "grey", "(III)Z"⟩, prog_1_method_9_code, 4, (some .boolean), [(0, .aload_n 0, 1, 0), (1, .getfield 47, 3, 0), (4, .iload_n 1, 1, 0), (5, .iload_n 2, 1, 0), (6, .invokevirtual 149, 3, 0), (9, .ifCond .ne 13, 3, 22), (12, .new 119, 3, 0), (15, .dup, 1, 0), (16, .ldc 152, 2, 0), (18, .invokespecial 123, 3, 0), (21, .athrow, 1, 0), (22, .aload_n 0, 1, 0), (23, .getfield 40, 3, 0), (26, .iload_n 3, 1, 0), (27, .invokevirtual 165, 3, 0), (30, .ifCond .ne 13, 3, 43), (33, .new 87, 3, 0), (36, .dup, 1, 0), (37, .ldc 169, 2, 0), (39, .invokespecial 91, 3, 0), (42, .athrow, 1, 0), (43, .aload_n 0, 1, 0), (44, .getfield 47, 3, 0), (47, .iload_n 1, 1, 0), (48, .iload_n 2, 1, 0), (49, .iload_n 3, 1, 0), (50, .invokevirtual 171, 3, 0), (53, .ireturn, 1, 0)], F_H)
set_option maxRecDepth 40000 in
theorem ok_H_grey : okM m_H_grey := ⟨by decide +kernel, okF_H, gw_in (List.mem_of_getElem? (i := 776) rfl) rfl, by decide +kernel⟩
def m_H_greyAt : Mt := (⟨"HalftoneRegions", "greyAt", "(II)I"⟩, prog_1_method_10_code, 3, (some .int), [(0, .aload_n 0, 1, 0), (1, .getfield 47, 3, 0), (4, .iload_n 1, 1, 0), (5, .iload_n 2, 1, 0), (6, .invokevirtual 149, 3, 0), (9, .ifCond .ne 13, 3, 22), (12, .new 119, 3, 0), (15, .dup, 1, 0), (16, .ldc 152, 2, 0), (18, .invokespecial 123, 3, 0), (21, .athrow, 1, 0), (22, .aload_n 0, 1, 0), (23, .getfield 47, 3, 0), (26, .iload_n 1, 1, 0), (27, .iload_n 2, 1, 0), (28, .invokevirtual 174, 3, 0), (31, .ireturn, 1, 0)], F_H)
set_option maxRecDepth 40000 in
theorem ok_H_greyAt : okM m_H_greyAt := ⟨by decide +kernel, okF_H, gw_in (List.mem_of_getElem? (i := 785) rfl) rfl, by decide +kernel⟩
def m_H_way : Mt := (⟨"HalftoneRegions", "way", "(II)I"⟩, prog_1_method_11_code, 3, (some .int), [(0, .iload_n 1, 1, 0), (1, .iconst 0, 1, 0), (2, .iconst 2, 1, 0), (3, .invokestatic 83, 3, 0), (6, .ifCond .ne 13, 3, 19), (9, .new 87, 3, 0), (12, .dup, 1, 0), (13, .ldc 177, 2, 0), (15, .invokespecial 91, 3, 0), (18, .athrow, 1, 0), (19, .iload_n 2, 1, 0), (20, .iconst 0, 1, 0), (21, .iload_n 1, 1, 0), (22, .ifCond .ne 7, 3, 29), (25, .iconst 4, 1, 0), (26, .goto 4, 3, 30), (29, .iconst 1, 1, 0), (30, .invokestatic 83, 3, 0), (33, .ifCond .ne 13, 3, 46), (36, .new 87, 3, 0), (39, .dup, 1, 0), (40, .ldc 179, 2, 0), (42, .invokespecial 91, 3, 0), (45, .athrow, 1, 0), (46, .aload_n 0, 1, 0), (47, .iload_n 1, 1, 0), (48, .iload_n 2, 1, 0), (49, .invokevirtual 181, 3, 0), (52, .ireturn, 1, 0)], F_H)
set_option maxRecDepth 40000 in
theorem ok_H_way : okM m_H_way := ⟨by decide +kernel, okF_H, gw_in (List.mem_of_getElem? (i := 792) rfl) rfl, by decide +kernel⟩
def m_H_row : Mt := (⟨"HalftoneRegions", "row", "(II)I"⟩, prog_1_method_12_code, 3, (some .int), [(0, .iload_n 1, 1, 0), (1, .iconst 0, 1, 0), (2, .aload_n 0, 1, 0), (3, .getfield 22, 3, 0), (6, .iconst 1, 1, 0), (7, .isub, 1, 0), (8, .invokestatic 83, 3, 0), (11, .ifCond .ne 13, 3, 24), (14, .new 119, 3, 0), (17, .dup, 1, 0), (18, .ldc 184, 2, 0), (20, .invokespecial 123, 3, 0), (23, .athrow, 1, 0), (24, .aload_n 0, 1, 0), (25, .getfield 30, 3, 0), (28, .iload_n 1, 1, 0), (29, .iload_n 2, 1, 0), (30, .invokevirtual 186, 3, 0), (33, .ireturn, 1, 0)], F_H)
set_option maxRecDepth 40000 in
theorem ok_H_row : okM m_H_row := ⟨by decide +kernel, okF_H, gw_in (List.mem_of_getElem? (i := 805) rfl) rfl, by decide +kernel⟩
def m_H_page : Mt := (⟨"HalftoneRegions", "page", "()I"⟩, prog_1_method_13_code, 3, (some .int), [(0, .iconst 0, 1, 0), (1, .istore_n 1, 1, 0), (2, .iconst 0, 1, 0), (3, .istore_n 2, 1, 0), (4, .iload_n 2, 1, 0), (5, .aload_n 0, 1, 0), (6, .getfield 22, 3, 0), (9, .if_icmp .ge 28, 3, 37), (12, .iload_n 1, 1, 0), (13, .aload_n 0, 1, 0), (14, .getfield 30, 3, 0), (17, .iload_n 2, 1, 0), (18, .aload_n 0, 1, 0), (19, .getfield 34, 3, 0), (22, .iload_n 2, 1, 0), (23, .invokevirtual 189, 3, 0), (26, .invokevirtual 186, 3, 0), (29, .iadd, 1, 0), (30, .istore_n 1, 1, 0), (31, .iinc 2 1, 3, 0), (34, .goto (-30), 3, 4), (37, .iload_n 1, 1, 0), (38, .ireturn, 1, 0)], F_H)
set_option maxRecDepth 40000 in
theorem ok_H_page : okM m_H_page := ⟨by decide +kernel, okF_H, gw_in (List.mem_of_getElem? (i := 305) rfl) rfl, by decide +kernel⟩
def m_H_count : Mt := (⟨"HalftoneRegions", "count", "(II)I"⟩, prog_1_method_14_code, 3, (some .int), [(0, .aload_n 0, 1, 0), (1, .getfield 47, 3, 0), (4, .iload_n 1, 1, 0), (5, .iload_n 2, 1, 0), (6, .invokevirtual 149, 3, 0), (9, .ifCond .ne 13, 3, 22), (12, .new 119, 3, 0), (15, .dup, 1, 0), (16, .ldc 152, 2, 0), (18, .invokespecial 123, 3, 0), (21, .athrow, 1, 0), (22, .aload_n 0, 1, 0), (23, .iload_n 1, 1, 0), (24, .iload_n 2, 1, 0), (25, .invokevirtual 193, 3, 0), (28, .ireturn, 1, 0)], F_H)
set_option maxRecDepth 40000 in
theorem ok_H_count : okM m_H_count := ⟨by decide +kernel, okF_H, gw_in (List.mem_of_getElem? (i := 813) rfl) rfl, by decide +kernel⟩
def m_H_shade : Mt := (⟨"HalftoneRegions", "shade", "()I"⟩, prog_1_method_15_code, 5, (some .int), [(0, .iconst 0, 1, 0), (1, .istore_n 1, 1, 0), (2, .iload_n 1, 1, 0), (3, .aload_n 0, 1, 0), (4, .getfield 79, 3, 0), (7, .arraylength, 1, 0), (8, .if_icmp .ge 23, 3, 31), (11, .aload_n 0, 1, 0), (12, .getfield 79, 3, 0), (15, .iload_n 1, 1, 0), (16, .aload_n 0, 1, 0), (17, .getfield 40, 3, 0), (20, .iload_n 1, 1, 0), (21, .invokevirtual 196, 3, 0), (24, .iastore, 1, 0), (25, .iinc 1 1, 3, 0), (28, .goto (-26), 3, 2), (31, .iconst 0, 1, 0), (32, .istore_n 1, 1, 0), (33, .iconst 0, 1, 0), (34, .istore_n 2, 1, 0), (35, .iload_n 2, 1, 0), (36, .aload_n 0, 1, 0), (37, .getfield 47, 3, 0), (40, .getfield 199, 3, 0), (43, .if_icmp .ge 74, 3, 117), (46, .iconst 0, 1, 0), (47, .istore_n 3, 1, 0), (48, .iload_n 3, 1, 0), (49, .aload_n 0, 1, 0), (50, .getfield 47, 3, 0), (53, .getfield 202, 3, 0), (56, .if_icmp .ge 55, 3, 111), (59, .aload_n 0, 1, 0), (60, .iload_n 3, 1, 0), (61, .iload_n 2, 1, 0), (62, .invokevirtual 193, 3, 0), (65, .istore 4, 2, 0), (67, .iload 4, 2, 0), (69, .iconst 0, 1, 0), (70, .aload_n 0, 1, 0), (71, .getfield 79, 3, 0), (74, .arraylength, 1, 0), (75, .iconst 1, 1, 0), (76, .isub, 1, 0), (77, .invokestatic 83, 3, 0), (80, .ifCond .eq 25, 3, 105), (83, .aload_n 0, 1, 0), (84, .getfield 47, 3, 0), (87, .iload_n 3, 1, 0), (88, .iload_n 2, 1, 0), (89, .aload_n 0, 1, 0), (90, .getfield 79, 3, 0), (93, .iload 4, 2, 0), (95, .iaload, 1, 0), (96, .invokevirtual 171, 3, 0), (99, .ifCond .eq 6, 3, 105), (102, .iinc 1 1, 3, 0), (105, .iinc 3 1, 3, 0), (108, .goto (-60), 3, 48), (111, .iinc 2 1, 3, 0), (114, .goto (-79), 3, 35), (117, .iload_n 1, 1, 0), (118, .ireturn, 1, 0)], F_H)
set_option maxRecDepth 40000 in
theorem ok_H_shade : okM m_H_shade := ⟨by decide +kernel, okF_H, gw_in (List.mem_of_getElem? (i := 326) rfl) rfl, by decide +kernel⟩
def m_H_compose : Mt := (⟨"HalftoneRegions", "compose", "()I"⟩, prog_1_method_16_code, 3, (some .int), [(0, .aload_n 0, 1, 0), (1, .getfield 34, 3, 0), (4, .aload_n 0, 1, 0), (5, .getfield 205, 3, 0), (8, .iconst 1, 1, 0), (9, .if_icmp .ne 7, 3, 16), (12, .iconst 1, 1, 0), (13, .goto 4, 3, 17), (16, .iconst 0, 1, 0), (17, .invokevirtual 208, 3, 0), (20, .iconst 0, 1, 0), (21, .istore_n 1, 1, 0), (22, .iload_n 1, 1, 0), (23, .aload_n 0, 1, 0), (24, .getfield 47, 3, 0), (27, .getfield 199, 3, 0), (30, .if_icmp .ge 43, 3, 73), (33, .iconst 0, 1, 0), (34, .istore_n 2, 1, 0), (35, .iload_n 2, 1, 0), (36, .aload_n 0, 1, 0), (37, .getfield 47, 3, 0), (40, .getfield 202, 3, 0), (43, .if_icmp .ge 24, 3, 67), (46, .aload_n 0, 1, 0), (47, .iload_n 2, 1, 0), (48, .iload_n 1, 1, 0), (49, .invokevirtual 162, 3, 0), (52, .ifCond .ne 9, 3, 61), (55, .aload_n 0, 1, 0), (56, .iload_n 2, 1, 0), (57, .iload_n 1, 1, 0), (58, .invokevirtual 212, 3, 0), (61, .iinc 2 1, 3, 0), (64, .goto (-29), 3, 35), (67, .iinc 1 1, 3, 0), (70, .goto (-48), 3, 22), (73, .aload_n 0, 1, 0), (74, .getfield 34, 3, 0), (77, .invokevirtual 215, 3, 0), (80, .ireturn, 1, 0)], F_H)
set_option maxRecDepth 40000 in
theorem ok_H_compose : okM m_H_compose := ⟨by decide +kernel, okF_H, gw_in (List.mem_of_getElem? (i := 376) rfl) rfl, by decide +kernel⟩
def m_H_at : Mt := (⟨"HalftoneRegions", "at", "(II)Z"⟩, prog_1_method_17_code, 3, (some .boolean), [(0, .iload_n 1, 1, 0), (1, .iconst 0, 1, 0), (2, .aload_n 0, 1, 0), (3, .getfield 18, 3, 0), (6, .iconst 1, 1, 0), (7, .isub, 1, 0), (8, .invokestatic 83, 3, 0), (11, .ifCond .eq 17, 3, 28), (14, .iload_n 2, 1, 0), (15, .iconst 0, 1, 0), (16, .aload_n 0, 1, 0), (17, .getfield 22, 3, 0), (20, .iconst 1, 1, 0), (21, .isub, 1, 0), (22, .invokestatic 83, 3, 0), (25, .ifCond .ne 13, 3, 38), (28, .new 119, 3, 0), (31, .dup, 1, 0), (32, .ldc 218, 2, 0), (34, .invokespecial 123, 3, 0), (37, .athrow, 1, 0), (38, .aload_n 0, 1, 0), (39, .getfield 34, 3, 0), (42, .iload_n 2, 1, 0), (43, .invokevirtual 189, 3, 0), (46, .iload_n 1, 1, 0), (47, .iushr, 1, 0), (48, .iconst 1, 1, 0), (49, .iand, 1, 0), (50, .iconst 1, 1, 0), (51, .if_icmp .ne 7, 3, 58), (54, .iconst 1, 1, 0), (55, .goto 4, 3, 59), (58, .iconst 0, 1, 0), (59, .ireturn, 1, 0)], F_H)
set_option maxRecDepth 40000 in
theorem ok_H_at : okM m_H_at := ⟨by decide +kernel, okF_H, gw_in (List.mem_of_getElem? (i := 820) rfl) rfl, by decide +kernel⟩
def m_H_encode : Mt := (⟨"HalftoneRegions", "encode", "()I"⟩, prog_1_method_18_code, 3, (some .int), [(0, .aload_n 0, 1, 0), (1, .getfield 54, 3, 0), (4, .invokevirtual 220, 3, 0), (7, .iconst 0, 1, 0), (8, .istore_n 1, 1, 0), (9, .iload_n 1, 1, 0), (10, .aload_n 0, 1, 0), (11, .getfield 47, 3, 0), (14, .getfield 199, 3, 0), (17, .if_icmp .ge 55, 3, 72), (20, .iconst 0, 1, 0), (21, .istore_n 2, 1, 0), (22, .iload_n 2, 1, 0), (23, .aload_n 0, 1, 0), (24, .getfield 47, 3, 0), (27, .getfield 202, 3, 0), (30, .if_icmp .ge 36, 3, 66), (33, .aload_n 0, 1, 0), (34, .iload_n 2, 1, 0), (35, .iload_n 1, 1, 0), (36, .invokevirtual 222, 3, 0), (39, .ifCond .ne 21, 3, 60), (42, .aload_n 0, 1, 0), (43, .getfield 54, 3, 0), (46, .iload_n 2, 1, 0), (47, .iload_n 1, 1, 0), (48, .aload_n 0, 1, 0), (49, .getfield 47, 3, 0), (52, .iload_n 2, 1, 0), (53, .iload_n 1, 1, 0), (54, .invokevirtual 174, 3, 0), (57, .invokevirtual 225, 3, 0), (60, .iinc 2 1, 3, 0), (63, .goto (-41), 3, 22), (66, .iinc 1 1, 3, 0), (69, .goto (-60), 3, 9), (72, .aload_n 0, 1, 0), (73, .getfield 68, 3, 0), (76, .invokevirtual 228, 3, 0), (79, .aload_n 0, 1, 0), (80, .getfield 61, 3, 0), (83, .invokevirtual 229, 3, 0), (86, .aload_n 0, 1, 0), (87, .getfield 40, 3, 0), (90, .invokevirtual 103, 3, 0), (93, .iconst 1, 1, 0), (94, .isub, 1, 0), (95, .istore_n 1, 1, 0), (96, .iload_n 1, 1, 0), (97, .ifCond .lt 14, 3, 111), (100, .aload_n 0, 1, 0), (101, .iload_n 1, 1, 0), (102, .invokevirtual 232, 3, 0), (105, .iinc 1 (-1), 3, 0), (108, .goto (-12), 3, 96), (111, .aload_n 0, 1, 0), (112, .getfield 68, 3, 0), (115, .invokevirtual 235, 3, 0), (118, .aload_n 0, 1, 0), (119, .aload_n 0, 1, 0), (120, .getfield 68, 3, 0), (123, .getfield 238, 3, 0), (126, .putfield 241, 3, 0), (129, .aload_n 0, 1, 0), (130, .getfield 68, 3, 0), (133, .invokevirtual 242, 3, 0), (136, .ireturn, 1, 0)], F_H)
set_option maxRecDepth 40000 in
theorem ok_H_encode : okM m_H_encode := ⟨by decide +kernel, okF_H, gw_in (List.mem_of_getElem? (i := 406) rfl) rfl, by decide +kernel⟩
def m_H_byteAt : Mt := (⟨"HalftoneRegions", "byteAt", "(I)I"⟩, prog_1_method_19_code, 2, (some .int), [(0, .iload_n 1, 1, 0), (1, .iconst 0, 1, 0), (2, .aload_n 0, 1, 0), (3, .getfield 68, 3, 0), (6, .invokevirtual 242, 3, 0), (9, .iconst 1, 1, 0), (10, .isub, 1, 0), (11, .invokestatic 83, 3, 0), (14, .ifCond .ne 13, 3, 27), (17, .new 119, 3, 0), (20, .dup, 1, 0), (21, .ldc 245, 2, 0), (23, .invokespecial 123, 3, 0), (26, .athrow, 1, 0), (27, .aload_n 0, 1, 0), (28, .getfield 68, 3, 0), (31, .iload_n 1, 1, 0), (32, .invokevirtual 247, 3, 0), (35, .ireturn, 1, 0)], F_H)
set_option maxRecDepth 40000 in
theorem ok_H_byteAt : okM m_H_byteAt := ⟨by decide +kernel, okF_H, gw_in (List.mem_of_getElem? (i := 828) rfl) rfl, by decide +kernel⟩
def m_H_feed : Mt := (⟨"HalftoneRegions", "feed", "(I)I"⟩, prog_1_method_20_code, 2, (some .int), [(0, .iload_n 1, 1, 0), (1, .iconst 0, 1, 0), (2, .sipush 255, 3, 0), (5, .invokestatic 83, 3, 0), (8, .ifCond .ne 13, 3, 21), (11, .new 87, 3, 0), (14, .dup, 1, 0), (15, .ldc 250, 2, 0), (17, .invokespecial 91, 3, 0), (20, .athrow, 1, 0), (21, .aload_n 0, 1, 0), (22, .getfield 75, 3, 0), (25, .iconst 1, 1, 0), (26, .invokevirtual 252, 3, 0), (29, .ifCond .ne 14, 3, 43), (32, .new 255, 3, 0), (35, .dup, 1, 0), (36, .ldc_w 257, 3, 0), (39, .invokespecial 259, 3, 0), (42, .athrow, 1, 0), (43, .aload_n 0, 1, 0), (44, .getfield 75, 3, 0), (47, .iload_n 1, 1, 0), (48, .invokevirtual 260, 3, 0), (51, .aload_n 0, 1, 0), (52, .getfield 75, 3, 0), (55, .getfield 263, 3, 0), (58, .ireturn, 1, 0)], F_H)
set_option maxRecDepth 40000 in
theorem ok_H_feed : okM m_H_feed := ⟨by decide +kernel, okF_H, gw_in (List.mem_of_getElem? (i := 841) rfl) rfl, by decide +kernel⟩
def m_H_pass : Mt := (⟨"HalftoneRegions", "pass", "()I"⟩, prog_1_method_21_code, 3, (some .int), [(0, .aload_n 0, 1, 0), (1, .getfield 68, 3, 0), (4, .invokevirtual 242, 3, 0), (7, .istore_n 1, 1, 0), (8, .aload_n 0, 1, 0), (9, .getfield 75, 3, 0), (12, .iload_n 1, 1, 0), (13, .invokevirtual 252, 3, 0), (16, .ifCond .ne 14, 3, 30), (19, .new 255, 3, 0), (22, .dup, 1, 0), (23, .ldc_w 266, 3, 0), (26, .invokespecial 259, 3, 0), (29, .athrow, 1, 0), (30, .iconst 0, 1, 0), (31, .istore_n 2, 1, 0), (32, .iload_n 2, 1, 0), (33, .iload_n 1, 1, 0), (34, .if_icmp .ge 24, 3, 58), (37, .aload_n 0, 1, 0), (38, .getfield 75, 3, 0), (41, .aload_n 0, 1, 0), (42, .getfield 68, 3, 0), (45, .iload_n 2, 1, 0), (46, .invokevirtual 247, 3, 0), (49, .invokevirtual 260, 3, 0), (52, .iinc 2 1, 3, 0), (55, .goto (-23), 3, 32), (58, .aload_n 0, 1, 0), (59, .getfield 75, 3, 0), (62, .getfield 263, 3, 0), (65, .ireturn, 1, 0)], F_H)
set_option maxRecDepth 40000 in
theorem ok_H_pass : okM m_H_pass := ⟨by decide +kernel, okF_H, gw_in (List.mem_of_getElem? (i := 873) rfl) rfl, by decide +kernel⟩
def m_H_decode : Mt := (⟨"HalftoneRegions", "decode", "()I"⟩, prog_1_method_22_code, 3, (some .int), [(0, .aload_n 0, 1, 0), (1, .getfield 47, 3, 0), (4, .getfield 202, 3, 0), (7, .aload_n 0, 1, 0), (8, .getfield 47, 3, 0), (11, .getfield 199, 3, 0), (14, .imul, 1, 0), (15, .aload_n 0, 1, 0), (16, .getfield 268, 3, 0), (19, .iconst 1, 1, 0), (20, .if_icmp .ne 10, 3, 30), (23, .aload_n 0, 1, 0), (24, .invokevirtual 146, 3, 0), (27, .goto 4, 3, 31), (30, .iconst 0, 1, 0), (31, .isub, 1, 0), (32, .istore_n 1, 1, 0), (33, .aload_n 0, 1, 0), (34, .getfield 54, 3, 0), (37, .invokevirtual 220, 3, 0), (40, .aload_n 0, 1, 0), (41, .getfield 75, 3, 0), (44, .iload_n 1, 1, 0), (45, .aload_n 0, 1, 0), (46, .getfield 40, 3, 0), (49, .invokevirtual 103, 3, 0), (52, .imul, 1, 0), (53, .invokevirtual 271, 3, 0), (56, .aload_n 0, 1, 0), (57, .getfield 61, 3, 0), (60, .invokevirtual 229, 3, 0), (63, .aload_n 0, 1, 0), (64, .getfield 40, 3, 0), (67, .invokevirtual 103, 3, 0), (70, .iconst 1, 1, 0), (71, .isub, 1, 0), (72, .istore_n 2, 1, 0), (73, .iload_n 2, 1, 0), (74, .ifCond .lt 24, 3, 98), (77, .aload_n 0, 1, 0), (78, .getfield 75, 3, 0), (81, .getfield 273, 3, 0), (84, .ifCond .ne 14, 3, 98), (87, .aload_n 0, 1, 0), (88, .iload_n 2, 1, 0), (89, .invokevirtual 276, 3, 0), (92, .iinc 2 (-1), 3, 0), (95, .goto (-22), 3, 73), (98, .aload_n 0, 1, 0), (99, .getfield 75, 3, 0), (102, .invokevirtual 279, 3, 0), (105, .aload_n 0, 1, 0), (106, .aload_n 0, 1, 0), (107, .getfield 75, 3, 0), (110, .getfield 282, 3, 0), (113, .putfield 241, 3, 0), (116, .aload_n 0, 1, 0), (117, .getfield 75, 3, 0), (120, .getfield 273, 3, 0), (123, .istore_n 2, 1, 0), (124, .iload_n 2, 1, 0), (125, .ifCond .ne 22, 3, 147), (128, .aload_n 0, 1, 0), (129, .getfield 54, 3, 0), (132, .invokevirtual 283, 3, 0), (135, .aload_n 0, 1, 0), (136, .getfield 40, 3, 0), (139, .getfield 113, 3, 0), (142, .if_icmp .lt 5, 3, 147), (145, .iconst 4, 1, 0), (146, .istore_n 2, 1, 0), (147, .aload_n 0, 1, 0), (148, .getfield 75, 3, 0), (151, .invokevirtual 286, 3, 0), (154, .iload_n 2, 1, 0), (155, .ifCond .eq 7, 3, 162), (158, .iconst (-1), 1, 0), (159, .iload_n 2, 1, 0), (160, .isub, 1, 0), (161, .ireturn, 1, 0), (162, .aload_n 0, 1, 0), (163, .invokevirtual 289, 3, 0), (166, .iload_n 1, 1, 0), (167, .ireturn, 1, 0)], F_H)
set_option maxRecDepth 40000 in
theorem ok_H_decode : okM m_H_decode := ⟨by decide +kernel, okF_H, gw_in (List.mem_of_getElem? (i := 493) rfl) rfl, by decide +kernel⟩
def m_H_context : Mt := (⟨"HalftoneRegions", "context", "(II)I"⟩, prog_1_method_23_code, 3, (some .int), [(0, .iload_n 1, 1, 0), (1, .iconst 0, 1, 0), (2, .bipush 63, 2, 0), (4, .invokestatic 83, 3, 0), (7, .ifCond .ne 14, 3, 21), (10, .new 119, 3, 0), (13, .dup, 1, 0), (14, .ldc_w 292, 3, 0), (17, .invokespecial 123, 3, 0), (20, .athrow, 1, 0), (21, .iload_n 2, 1, 0), (22, .iconst 0, 1, 0), (23, .iconst 1, 1, 0), (24, .invokestatic 83, 3, 0), (27, .ifCond .ne 14, 3, 41), (30, .new 87, 3, 0), (33, .dup, 1, 0), (34, .ldc_w 294, 3, 0), (37, .invokespecial 91, 3, 0), (40, .athrow, 1, 0), (41, .iload_n 2, 1, 0), (42, .ifCond .ne 15, 3, 57), (45, .aload_n 0, 1, 0), (46, .getfield 61, 3, 0), (49, .getfield 296, 3, 0), (52, .iload_n 1, 1, 0), (53, .iaload, 1, 0), (54, .goto 12, 3, 66), (57, .aload_n 0, 1, 0), (58, .getfield 61, 3, 0), (61, .getfield 299, 3, 0), (64, .iload_n 1, 1, 0), (65, .iaload, 1, 0), (66, .ireturn, 1, 0)], F_H)
set_option maxRecDepth 40000 in
theorem ok_H_context : okM m_H_context := ⟨by decide +kernel, okF_H, gw_in (List.mem_of_getElem? (i := 881) rfl) rfl, by decide +kernel⟩
def m_H_told : Mt := (⟨"HalftoneRegions", "told", "(I)I"⟩, prog_1_method_24_code, 2, (some .int), [(0, .iload_n 1, 1, 0), (1, .tableswitch 150 0 11 #[63, 68, 73, 81, 89, 97, 105, 113, 121, 129, 137, 145], 63, 0), (64, .aload_n 0, 1, 0), (65, .getfield 18, 3, 0), (68, .ireturn, 1, 0), (69, .aload_n 0, 1, 0), (70, .getfield 22, 3, 0), (73, .ireturn, 1, 0), (74, .aload_n 0, 1, 0), (75, .getfield 40, 3, 0), (78, .getfield 113, 3, 0), (81, .ireturn, 1, 0), (82, .aload_n 0, 1, 0), (83, .getfield 40, 3, 0), (86, .getfield 302, 3, 0), (89, .ireturn, 1, 0), (90, .aload_n 0, 1, 0), (91, .getfield 40, 3, 0), (94, .getfield 303, 3, 0), (97, .ireturn, 1, 0), (98, .aload_n 0, 1, 0), (99, .getfield 40, 3, 0), (102, .invokevirtual 103, 3, 0), (105, .ireturn, 1, 0), (106, .aload_n 0, 1, 0), (107, .getfield 47, 3, 0), (110, .getfield 202, 3, 0), (113, .ireturn, 1, 0), (114, .aload_n 0, 1, 0), (115, .getfield 47, 3, 0), (118, .getfield 199, 3, 0), (121, .ireturn, 1, 0), (122, .aload_n 0, 1, 0), (123, .getfield 68, 3, 0), (126, .invokevirtual 242, 3, 0), (129, .ireturn, 1, 0), (130, .aload_n 0, 1, 0), (131, .getfield 75, 3, 0), (134, .getfield 263, 3, 0), (137, .ireturn, 1, 0), (138, .aload_n 0, 1, 0), (139, .getfield 30, 3, 0), (142, .invokevirtual 215, 3, 0), (145, .ireturn, 1, 0), (146, .aload_n 0, 1, 0), (147, .getfield 241, 3, 0), (150, .ireturn, 1, 0), (151, .iconst (-1), 1, 0), (152, .ireturn, 1, 0)], F_H)
set_option maxRecDepth 40000 in
theorem ok_H_told : okM m_H_told := ⟨by decide +kernel, okF_H, gw_in (List.mem_of_getElem? (i := 562) rfl) rfl, by decide +kernel⟩
def m_H_clear : Mt := (⟨"HalftoneRegions", "clear", "()V"⟩, prog_1_method_25_code, 1, none, [(0, .aload_n 0, 1, 0), (1, .getfield 30, 3, 0), (4, .iconst 0, 1, 0), (5, .invokevirtual 208, 3, 0), (8, .aload_n 0, 1, 0), (9, .getfield 34, 3, 0), (12, .iconst 0, 1, 0), (13, .invokevirtual 208, 3, 0), (16, .aload_n 0, 1, 0), (17, .getfield 40, 3, 0), (20, .iconst 1, 1, 0), (21, .iconst 1, 1, 0), (22, .iconst 1, 1, 0), (23, .invokevirtual 96, 3, 0), (26, .aload_n 0, 1, 0), (27, .getfield 47, 3, 0), (30, .iconst 1, 1, 0), (31, .iconst 1, 1, 0), (32, .invokevirtual 140, 3, 0), (35, .aload_n 0, 1, 0), (36, .getfield 47, 3, 0), (39, .iconst 0, 1, 0), (40, .iconst 0, 1, 0), (41, .sipush 256, 3, 0), (44, .iconst 0, 1, 0), (45, .invokevirtual 142, 3, 0), (48, .aload_n 0, 1, 0), (49, .getfield 61, 3, 0), (52, .invokevirtual 229, 3, 0), (55, .aload_n 0, 1, 0), (56, .getfield 68, 3, 0), (59, .invokevirtual 228, 3, 0), (62, .aload_n 0, 1, 0), (63, .getfield 75, 3, 0), (66, .invokevirtual 286, 3, 0), (69, .aload_n 0, 1, 0), (70, .iconst 0, 1, 0), (71, .putfield 304, 3, 0), (74, .aload_n 0, 1, 0), (75, .iconst 0, 1, 0), (76, .putfield 205, 3, 0), (79, .aload_n 0, 1, 0), (80, .iconst 0, 1, 0), (81, .putfield 268, 3, 0), (84, .aload_n 0, 1, 0), (85, .iconst 0, 1, 0), (86, .putfield 241, 3, 0), (89, .return_, 1, 0)], F_H)
set_option maxRecDepth 40000 in
theorem ok_H_clear : okM m_H_clear := ⟨by decide +kernel, okF_H, gw_in (List.mem_of_getElem? (i := 566) rfl) rfl, by decide +kernel⟩
def m_H_isWithin : Mt := (⟨"HalftoneRegions", "isWithin", "(III)Z"⟩, prog_1_method_26_code, 3, (some .boolean), [(0, .iload_n 0, 1, 0), (1, .iload_n 1, 1, 0), (2, .if_icmp .lt 12, 3, 14), (5, .iload_n 0, 1, 0), (6, .iload_n 2, 1, 0), (7, .if_icmp .gt 7, 3, 14), (10, .iconst 1, 1, 0), (11, .goto 4, 3, 15), (14, .iconst 0, 1, 0), (15, .ireturn, 1, 0)], F_H)
set_option maxRecDepth 40000 in
theorem ok_H_isWithin : okM m_H_isWithin := ⟨by decide +kernel, okF_H, gw_in (List.mem_of_getElem? (i := 312) rfl) rfl, by decide +kernel⟩
def m_H_placeOf : Mt := (⟨"HalftoneRegions", "placeOf", "(II)I"⟩, prog_1_method_27_code, 3, (some .int), [(0, .iload_n 0, 1, 0), (1, .iconst 0, 1, 0), (2, .bipush 15, 2, 0), (4, .invokestatic 83, 3, 0), (7, .ifCond .eq 17, 3, 24), (10, .iload_n 1, 1, 0), (11, .iconst 0, 1, 0), (12, .bipush 15, 2, 0), (14, .invokestatic 83, 3, 0), (17, .ifCond .eq 7, 3, 24), (20, .iconst 1, 1, 0), (21, .goto 4, 3, 25), (24, .iconst 0, 1, 0), (25, .istore_n 2, 1, 0), (26, .iload_n 2, 1, 0), (27, .ifCond .eq 12, 3, 39), (30, .bipush 16, 2, 0), (32, .iload_n 1, 1, 0), (33, .imul, 1, 0), (34, .iload_n 0, 1, 0), (35, .iadd, 1, 0), (36, .goto 4, 3, 40), (39, .iconst (-1), 1, 0), (40, .ireturn, 1, 0)], F_H)
set_option maxRecDepth 40000 in
theorem ok_H_placeOf : okM m_H_placeOf := ⟨by decide +kernel, okF_H, gw_in (List.mem_of_getElem? (i := 372) rfl) rfl, by decide +kernel⟩
def m_H_isOutside : Mt := (⟨"HalftoneRegions", "isOutside", "(II)Z"⟩, prog_1_method_28_code, 5, (some .boolean), [(0, .aload_n 0, 1, 0), (1, .getfield 47, 3, 0), (4, .iload_n 1, 1, 0), (5, .iload_n 2, 1, 0), (6, .invokevirtual 156, 3, 0), (9, .istore_n 3, 1, 0), (10, .aload_n 0, 1, 0), (11, .getfield 47, 3, 0), (14, .iload_n 1, 1, 0), (15, .iload_n 2, 1, 0), (16, .invokevirtual 159, 3, 0), (19, .istore 4, 2, 0), (21, .iload_n 3, 1, 0), (22, .aload_n 0, 1, 0), (23, .getfield 18, 3, 0), (26, .if_icmp .ge 37, 3, 63), (29, .iload_n 3, 1, 0), (30, .aload_n 0, 1, 0), (31, .getfield 40, 3, 0), (34, .getfield 302, 3, 0), (37, .iadd, 1, 0), (38, .ifCond .le 25, 3, 63), (41, .iload 4, 2, 0), (43, .aload_n 0, 1, 0), (44, .getfield 22, 3, 0), (47, .if_icmp .ge 16, 3, 63), (50, .iload 4, 2, 0), (52, .aload_n 0, 1, 0), (53, .getfield 40, 3, 0), (56, .getfield 303, 3, 0), (59, .iadd, 1, 0), (60, .ifCond .gt 7, 3, 67), (63, .iconst 1, 1, 0), (64, .goto 4, 3, 68), (67, .iconst 0, 1, 0), (68, .ireturn, 1, 0)], F_H)
set_option maxRecDepth 40000 in
theorem ok_H_isOutside : okM m_H_isOutside := ⟨by decide +kernel, okF_H, gw_in (List.mem_of_getElem? (i := 348) rfl) rfl, by decide +kernel⟩
def m_H_isSkipped : Mt := (⟨"HalftoneRegions", "isSkipped", "(II)Z"⟩, prog_1_method_29_code, 3, (some .boolean), [(0, .aload_n 0, 1, 0), (1, .getfield 268, 3, 0), (4, .iconst 1, 1, 0), (5, .if_icmp .ne 16, 3, 21), (8, .aload_n 0, 1, 0), (9, .iload_n 1, 1, 0), (10, .iload_n 2, 1, 0), (11, .invokevirtual 162, 3, 0), (14, .ifCond .eq 7, 3, 21), (17, .iconst 1, 1, 0), (18, .goto 4, 3, 22), (21, .iconst 0, 1, 0), (22, .ireturn, 1, 0)], F_H)
set_option maxRecDepth 40000 in
theorem ok_H_isSkipped : okM m_H_isSkipped := ⟨by decide +kernel, okF_H, gw_in (List.mem_of_getElem? (i := 415) rfl) rfl, by decide +kernel⟩
def m_H_placesOutside : Mt := (⟨"HalftoneRegions", "placesOutside", "()I"⟩, prog_1_method_30_code, 4, (some .int), [(0, .iconst 0, 1, 0), (1, .istore_n 1, 1, 0), (2, .iconst 0, 1, 0), (3, .istore_n 2, 1, 0), (4, .iload_n 2, 1, 0), (5, .aload_n 0, 1, 0), (6, .getfield 47, 3, 0), (9, .getfield 199, 3, 0), (12, .if_icmp .ge 40, 3, 52), (15, .iconst 0, 1, 0), (16, .istore_n 3, 1, 0), (17, .iload_n 3, 1, 0), (18, .aload_n 0, 1, 0), (19, .getfield 47, 3, 0), (22, .getfield 202, 3, 0), (25, .if_icmp .ge 21, 3, 46), (28, .aload_n 0, 1, 0), (29, .iload_n 3, 1, 0), (30, .iload_n 2, 1, 0), (31, .invokevirtual 162, 3, 0), (34, .ifCond .eq 6, 3, 40), (37, .iinc 1 1, 3, 0), (40, .iinc 3 1, 3, 0), (43, .goto (-26), 3, 17), (46, .iinc 2 1, 3, 0), (49, .goto (-45), 3, 4), (52, .iload_n 1, 1, 0), (53, .ireturn, 1, 0)], F_H)
set_option maxRecDepth 40000 in
theorem ok_H_placesOutside : okM m_H_placesOutside := ⟨by decide +kernel, okF_H, gw_in (List.mem_of_getElem? (i := 497) rfl) rfl, by decide +kernel⟩
def m_H_changeWay : Mt := (⟨"HalftoneRegions", "changeWay", "(II)I"⟩, prog_1_method_31_code, 4, (some .int), [(0, .iload_n 1, 1, 0), (1, .ifCond .ne 16, 3, 17), (4, .aload_n 0, 1, 0), (5, .getfield 304, 3, 0), (8, .istore_n 3, 1, 0), (9, .aload_n 0, 1, 0), (10, .iload_n 2, 1, 0), (11, .putfield 304, 3, 0), (14, .goto 31, 3, 45), (17, .iload_n 1, 1, 0), (18, .iconst 1, 1, 0), (19, .if_icmp .ne 16, 3, 35), (22, .aload_n 0, 1, 0), (23, .getfield 205, 3, 0), (26, .istore_n 3, 1, 0), (27, .aload_n 0, 1, 0), (28, .iload_n 2, 1, 0), (29, .putfield 205, 3, 0), (32, .goto 13, 3, 45), (35, .aload_n 0, 1, 0), (36, .getfield 268, 3, 0), (39, .istore_n 3, 1, 0), (40, .aload_n 0, 1, 0), (41, .iload_n 2, 1, 0), (42, .putfield 268, 3, 0), (45, .iload_n 3, 1, 0), (46, .ireturn, 1, 0)], F_H)
set_option maxRecDepth 40000 in
theorem ok_H_changeWay : okM m_H_changeWay := ⟨by decide +kernel, okF_H, gw_in (List.mem_of_getElem? (i := 798) rfl) rfl, by decide +kernel⟩
def m_H_darkUnder : Mt := (⟨"HalftoneRegions", "darkUnder", "(II)I"⟩, prog_1_method_32_code, 7, (some .int), [(0, .aload_n 0, 1, 0), (1, .iload_n 1, 1, 0), (2, .iload_n 2, 1, 0), (3, .invokevirtual 162, 3, 0), (6, .ifCond .eq 5, 3, 11), (9, .iconst 0, 1, 0), (10, .ireturn, 1, 0), (11, .aload_n 0, 1, 0), (12, .getfield 47, 3, 0), (15, .iload_n 1, 1, 0), (16, .iload_n 2, 1, 0), (17, .invokevirtual 159, 3, 0), (20, .istore_n 3, 1, 0), (21, .aload_n 0, 1, 0), (22, .aload_n 0, 1, 0), (23, .getfield 47, 3, 0), (26, .iload_n 1, 1, 0), (27, .iload_n 2, 1, 0), (28, .invokevirtual 156, 3, 0), (31, .invokevirtual 307, 3, 0), (34, .istore 4, 2, 0), (36, .iconst 0, 1, 0), (37, .istore 5, 2, 0), (39, .iconst 0, 1, 0), (40, .iload_n 3, 1, 0), (41, .invokestatic 15, 3, 0), (44, .istore 6, 2, 0), (46, .iload 6, 2, 0), (48, .aload_n 0, 1, 0), (49, .getfield 22, 3, 0), (52, .iload_n 3, 1, 0), (53, .aload_n 0, 1, 0), (54, .getfield 40, 3, 0), (57, .getfield 303, 3, 0), (60, .iadd, 1, 0), (61, .invokestatic 9, 3, 0), (64, .if_icmp .ge 29, 3, 93), (67, .iload 5, 2, 0), (69, .aload_n 0, 1, 0), (70, .getfield 30, 3, 0), (73, .iload 6, 2, 0), (75, .invokevirtual 189, 3, 0), (78, .iload 4, 2, 0), (80, .iand, 1, 0), (81, .invokestatic 310, 3, 0), (84, .iadd, 1, 0), (85, .istore 5, 2, 0), (87, .iinc 6 1, 3, 0), (90, .goto (-44), 3, 46), (93, .iload 5, 2, 0), (95, .ireturn, 1, 0)], F_H)
set_option maxRecDepth 40000 in
theorem ok_H_darkUnder : okM m_H_darkUnder := ⟨by decide +kernel, okF_H, gw_in (List.mem_of_getElem? (i := 344) rfl) rfl, by decide +kernel⟩
def m_H_columnsUnder : Mt := (⟨"HalftoneRegions", "columnsUnder", "(I)I"⟩, prog_1_method_33_code, 2, (some .int), [(0, .iconst 1, 1, 0), (1, .aload_n 0, 1, 0), (2, .getfield 40, 3, 0), (5, .getfield 302, 3, 0), (8, .ishl, 1, 0), (9, .iconst 1, 1, 0), (10, .isub, 1, 0), (11, .iload_n 1, 1, 0), (12, .invokestatic 315, 3, 0), (15, .aload_n 0, 1, 0), (16, .getfield 30, 3, 0), (19, .getfield 318, 3, 0), (22, .iand, 1, 0), (23, .ireturn, 1, 0)], F_H)
set_option maxRecDepth 40000 in
theorem ok_H_columnsUnder : okM m_H_columnsUnder := ⟨by decide +kernel, okF_H, gw_in (List.mem_of_getElem? (i := 360) rfl) rfl, by decide +kernel⟩
def m_H_moved : Mt := (⟨"HalftoneRegions", "moved", "(II)I"⟩, prog_1_method_34_code, 2, (some .int), [(0, .iload_n 1, 1, 0), (1, .ifCond .lt 9, 3, 10), (4, .iload_n 0, 1, 0), (5, .iload_n 1, 1, 0), (6, .ishl, 1, 0), (7, .goto 7, 3, 14), (10, .iload_n 0, 1, 0), (11, .iload_n 1, 1, 0), (12, .ineg, 1, 0), (13, .iushr, 1, 0), (14, .ireturn, 1, 0)], F_H)
set_option maxRecDepth 40000 in
theorem ok_H_moved : okM m_H_moved := ⟨by decide +kernel, okF_H, gw_in (List.mem_of_getElem? (i := 363) rfl) rfl, by decide +kernel⟩
def m_H_layPattern : Mt := (⟨"HalftoneRegions", "layPattern", "(II)V"⟩, prog_1_method_35_code, 9, none, [(0, .aload_n 0, 1, 0), (1, .getfield 47, 3, 0), (4, .iload_n 1, 1, 0), (5, .iload_n 2, 1, 0), (6, .invokevirtual 156, 3, 0), (9, .istore_n 3, 1, 0), (10, .aload_n 0, 1, 0), (11, .getfield 47, 3, 0), (14, .iload_n 1, 1, 0), (15, .iload_n 2, 1, 0), (16, .invokevirtual 159, 3, 0), (19, .istore 4, 2, 0), (21, .aload_n 0, 1, 0), (22, .iload_n 3, 1, 0), (23, .invokevirtual 307, 3, 0), (26, .istore 5, 2, 0), (28, .aload_n 0, 1, 0), (29, .getfield 47, 3, 0), (32, .iload_n 1, 1, 0), (33, .iload_n 2, 1, 0), (34, .invokevirtual 174, 3, 0), (37, .istore 6, 2, 0), (39, .iconst 0, 1, 0), (40, .iload 4, 2, 0), (42, .invokestatic 15, 3, 0), (45, .istore 7, 2, 0), (47, .iload 7, 2, 0), (49, .aload_n 0, 1, 0), (50, .getfield 22, 3, 0), (53, .iload 4, 2, 0), (55, .aload_n 0, 1, 0), (56, .getfield 40, 3, 0), (59, .getfield 303, 3, 0), (62, .iadd, 1, 0), (63, .invokestatic 9, 3, 0), (66, .if_icmp .ge 59, 3, 125), (69, .aload_n 0, 1, 0), (70, .getfield 40, 3, 0), (73, .iload 6, 2, 0), (75, .iload 7, 2, 0), (77, .iload 4, 2, 0), (79, .isub, 1, 0), (80, .invokevirtual 321, 3, 0), (83, .iload_n 3, 1, 0), (84, .invokestatic 315, 3, 0), (87, .iload 5, 2, 0), (89, .iand, 1, 0), (90, .istore 8, 2, 0), (92, .aload_n 0, 1, 0), (93, .getfield 34, 3, 0), (96, .iload 7, 2, 0), (98, .aload_n 0, 1, 0), (99, .aload_n 0, 1, 0), (100, .getfield 34, 3, 0), (103, .iload 7, 2, 0), (105, .invokevirtual 189, 3, 0), (108, .iload 8, 2, 0), (110, .iload 5, 2, 0), (112, .invokevirtual 323, 3, 0), (115, .invokevirtual 186, 3, 0), (118, .pop, 1, 0), (119, .iinc 7 1, 3, 0), (122, .goto (-75), 3, 47), (125, .return_, 1, 0)], F_H)
set_option maxRecDepth 40000 in
theorem ok_H_layPattern : okM m_H_layPattern := ⟨by decide +kernel, okF_H, gw_in (List.mem_of_getElem? (i := 385) rfl) rfl, by decide +kernel⟩
def m_H_combined : Mt := (⟨"HalftoneRegions", "combined", "(III)I"⟩, prog_1_method_36_code, 4, (some .int), [(0, .aload_n 0, 1, 0), (1, .getfield 304, 3, 0), (4, .tableswitch 58 1 4 #[32, 40, 44, 50], 32, 0), (36, .iload_n 1, 1, 0), (37, .iload_n 2, 1, 0), (38, .iload_n 3, 1, 0), (39, .iconst (-1), 1, 0), (40, .ixor, 1, 0), (41, .ior, 1, 0), (42, .iand, 1, 0), (43, .ireturn, 1, 0), (44, .iload_n 1, 1, 0), (45, .iload_n 2, 1, 0), (46, .ixor, 1, 0), (47, .ireturn, 1, 0), (48, .iload_n 1, 1, 0), (49, .iload_n 2, 1, 0), (50, .ixor, 1, 0), (51, .iload_n 3, 1, 0), (52, .ixor, 1, 0), (53, .ireturn, 1, 0), (54, .iload_n 1, 1, 0), (55, .iload_n 3, 1, 0), (56, .iconst (-1), 1, 0), (57, .ixor, 1, 0), (58, .iand, 1, 0), (59, .iload_n 2, 1, 0), (60, .ior, 1, 0), (61, .ireturn, 1, 0), (62, .iload_n 1, 1, 0), (63, .iload_n 2, 1, 0), (64, .ior, 1, 0), (65, .ireturn, 1, 0)], F_H)
set_option maxRecDepth 40000 in
theorem ok_H_combined : okM m_H_combined := ⟨by decide +kernel, okF_H, gw_in (List.mem_of_getElem? (i := 398) rfl) rfl, by decide +kernel⟩
def m_H_writePlane : Mt := (⟨"HalftoneRegions", "writePlane", "(I)V"⟩, prog_1_method_37_code, 6, none, [(0, .aload_n 0, 1, 0), (1, .getfield 61, 3, 0), (4, .invokevirtual 229, 3, 0), (7, .iconst 0, 1, 0), (8, .istore_n 2, 1, 0), (9, .iload_n 2, 1, 0), (10, .aload_n 0, 1, 0), (11, .getfield 47, 3, 0), (14, .getfield 199, 3, 0), (17, .if_icmp .ge 98, 3, 115), (20, .iconst 0, 1, 0), (21, .istore_n 3, 1, 0), (22, .iload_n 3, 1, 0), (23, .aload_n 0, 1, 0), (24, .getfield 47, 3, 0), (27, .getfield 202, 3, 0), (30, .if_icmp .ge 79, 3, 109), (33, .aload_n 0, 1, 0), (34, .iload_n 3, 1, 0), (35, .iload_n 2, 1, 0), (36, .invokevirtual 222, 3, 0), (39, .ifCond .ne 64, 3, 103), (42, .aload_n 0, 1, 0), (43, .getfield 54, 3, 0), (46, .iload_n 3, 1, 0), (47, .iload_n 2, 1, 0), (48, .iload_n 1, 1, 0), (49, .invokevirtual 327, 3, 0), (52, .istore 4, 2, 0), (54, .aload_n 0, 1, 0), (55, .getfield 54, 3, 0), (58, .iload_n 3, 1, 0), (59, .iload_n 2, 1, 0), (60, .iload_n 1, 1, 0), (61, .invokevirtual 330, 3, 0), (64, .istore 5, 2, 0), (66, .aload_n 0, 1, 0), (67, .getfield 68, 3, 0), (70, .iload 5, 2, 0), (72, .aload_n 0, 1, 0), (73, .getfield 61, 3, 0), (76, .iload 4, 2, 0), (78, .invokevirtual 333, 3, 0), (81, .if_icmp .ne 7, 3, 88), (84, .iconst 1, 1, 0), (85, .goto 4, 3, 89), (88, .iconst 0, 1, 0), (89, .invokevirtual 336, 3, 0), (92, .aload_n 0, 1, 0), (93, .getfield 61, 3, 0), (96, .iload 4, 2, 0), (98, .iload 5, 2, 0), (100, .invokevirtual 339, 3, 0), (103, .iinc 3 1, 3, 0), (106, .goto (-84), 3, 22), (109, .iinc 2 1, 3, 0), (112, .goto (-103), 3, 9), (115, .return_, 1, 0)], F_H)
set_option maxRecDepth 40000 in
theorem ok_H_writePlane : okM m_H_writePlane := ⟨by decide +kernel, okF_H, gw_in (List.mem_of_getElem? (i := 443) rfl) rfl, by decide +kernel⟩
def m_H_readPlane : Mt := (⟨"HalftoneRegions", "readPlane", "(I)V"⟩, prog_1_method_38_code, 6, none, [(0, .aload_n 0, 1, 0), (1, .getfield 61, 3, 0), (4, .invokevirtual 229, 3, 0), (7, .iconst 0, 1, 0), (8, .istore_n 2, 1, 0), (9, .iload_n 2, 1, 0), (10, .aload_n 0, 1, 0), (11, .getfield 47, 3, 0), (14, .getfield 199, 3, 0), (17, .if_icmp .ge 101, 3, 118), (20, .iconst 0, 1, 0), (21, .istore_n 3, 1, 0), (22, .iload_n 3, 1, 0), (23, .aload_n 0, 1, 0), (24, .getfield 47, 3, 0), (27, .getfield 202, 3, 0), (30, .if_icmp .ge 82, 3, 112), (33, .aload_n 0, 1, 0), (34, .iload_n 3, 1, 0), (35, .iload_n 2, 1, 0), (36, .invokevirtual 222, 3, 0), (39, .ifCond .ne 67, 3, 106), (42, .aload_n 0, 1, 0), (43, .getfield 54, 3, 0), (46, .iload_n 3, 1, 0), (47, .iload_n 2, 1, 0), (48, .iload_n 1, 1, 0), (49, .invokevirtual 327, 3, 0), (52, .istore 4, 2, 0), (54, .aload_n 0, 1, 0), (55, .getfield 75, 3, 0), (58, .aload_n 0, 1, 0), (59, .getfield 61, 3, 0), (62, .iload 4, 2, 0), (64, .invokevirtual 333, 3, 0), (67, .invokevirtual 342, 3, 0), (70, .istore 5, 2, 0), (72, .aload_n 0, 1, 0), (73, .getfield 75, 3, 0), (76, .getfield 273, 3, 0), (79, .ifCond .eq 4, 3, 83), (82, .return_, 1, 0), (83, .aload_n 0, 1, 0), (84, .getfield 54, 3, 0), (87, .iload_n 3, 1, 0), (88, .iload_n 2, 1, 0), (89, .iload_n 1, 1, 0), (90, .iload 5, 2, 0), (92, .invokevirtual 345, 3, 0), (95, .aload_n 0, 1, 0), (96, .getfield 61, 3, 0), (99, .iload 4, 2, 0), (101, .iload 5, 2, 0), (103, .invokevirtual 339, 3, 0), (106, .iinc 3 1, 3, 0), (109, .goto (-87), 3, 22), (112, .iinc 2 1, 3, 0), (115, .goto (-106), 3, 9), (118, .return_, 1, 0)], F_H)
set_option maxRecDepth 40000 in
theorem ok_H_readPlane : okM m_H_readPlane := ⟨by decide +kernel, okF_H, gw_in (List.mem_of_getElem? (i := 506) rfl) rfl, by decide +kernel⟩
def m_H_takeGreys : Mt := (⟨"HalftoneRegions", "takeGreys", "()V"⟩, prog_1_method_39_code, 3, none, [(0, .iconst 0, 1, 0), (1, .istore_n 1, 1, 0), (2, .iload_n 1, 1, 0), (3, .aload_n 0, 1, 0), (4, .getfield 47, 3, 0), (7, .getfield 199, 3, 0), (10, .if_icmp .ge 47, 3, 57), (13, .iconst 0, 1, 0), (14, .istore_n 2, 1, 0), (15, .iload_n 2, 1, 0), (16, .aload_n 0, 1, 0), (17, .getfield 47, 3, 0), (20, .getfield 202, 3, 0), (23, .if_icmp .ge 28, 3, 51), (26, .aload_n 0, 1, 0), (27, .getfield 47, 3, 0), (30, .iload_n 2, 1, 0), (31, .iload_n 1, 1, 0), (32, .aload_n 0, 1, 0), (33, .getfield 54, 3, 0), (36, .iload_n 2, 1, 0), (37, .iload_n 1, 1, 0), (38, .invokevirtual 348, 3, 0), (41, .invokevirtual 171, 3, 0), (44, .pop, 1, 0), (45, .iinc 2 1, 3, 0), (48, .goto (-33), 3, 15), (51, .iinc 1 1, 3, 0), (54, .goto (-52), 3, 2), (57, .return_, 1, 0)], F_H)
set_option maxRecDepth 40000 in
theorem ok_H_takeGreys : okM m_H_takeGreys := ⟨by decide +kernel, okF_H, gw_in (List.mem_of_getElem? (i := 554) rfl) rfl, by decide +kernel⟩
def m_M_init : Mt := (⟨"HalftoneRegionsModel", "<init>", "(II)V"⟩, prog_11_method_1_code, 3, none, [(0, .aload_n 0, 1, 0), (1, .invokespecial 1, 3, 0), (4, .aload_n 0, 1, 0), (5, .sipush 1024, 3, 0), (8, .newarray .boolean, 2, 0), (10, .putfield 7, 3, 0), (13, .aload_n 0, 1, 0), (14, .sipush 1024, 3, 0), (17, .newarray .boolean, 2, 0), (19, .putfield 13, 3, 0), (22, .aload_n 0, 1, 0), (23, .sipush 4096, 3, 0), (26, .newarray .boolean, 2, 0), (28, .putfield 16, 3, 0), (31, .aload_n 0, 1, 0), (32, .sipush 256, 3, 0), (35, .newarray .int, 2, 0), (37, .putfield 19, 3, 0), (40, .aload_n 0, 1, 0), (41, .ldc 23, 2, 0), (43, .newarray .boolean, 2, 0), (45, .putfield 24, 3, 0), (48, .aload_n 0, 1, 0), (49, .sipush 3000, 3, 0), (52, .newarray .int, 2, 0), (54, .putfield 27, 3, 0), (57, .aload_n 0, 1, 0), (58, .bipush 64, 2, 0), (60, .newarray .int, 2, 0), (62, .putfield 30, 3, 0), (65, .aload_n 0, 1, 0), (66, .bipush 64, 2, 0), (68, .newarray .int, 2, 0), (70, .putfield 33, 3, 0), (73, .aload_n 0, 1, 0), (74, .sipush 256, 3, 0), (77, .newarray .boolean, 2, 0), (79, .putfield 36, 3, 0), (82, .aload_n 0, 1, 0), (83, .sipush 256, 3, 0), (86, .newarray .boolean, 2, 0), (88, .putfield 39, 3, 0), (91, .aload_n 0, 1, 0), (92, .sipush 256, 3, 0), (95, .newarray .int, 2, 0), (97, .putfield 42, 3, 0), (100, .aload_n 0, 1, 0), (101, .iload_n 1, 1, 0), (102, .iconst 1, 1, 0), (103, .if_icmp .ge 7, 3, 110), (106, .iconst 1, 1, 0), (107, .goto 15, 3, 122), (110, .iload_n 1, 1, 0), (111, .bipush 32, 2, 0), (113, .if_icmp .le 8, 3, 121), (116, .bipush 32, 2, 0), (118, .goto 4, 3, 122), (121, .iload_n 1, 1, 0), (122, .putfield 45, 3, 0), (125, .aload_n 0, 1, 0), (126, .iload_n 2, 1, 0), (127, .iconst 1, 1, 0), (128, .if_icmp .ge 7, 3, 135), (131, .iconst 1, 1, 0), (132, .goto 15, 3, 147), (135, .iload_n 2, 1, 0), (136, .bipush 32, 2, 0), (138, .if_icmp .le 8, 3, 146), (141, .bipush 32, 2, 0), (143, .goto 4, 3, 147), (146, .iload_n 2, 1, 0), (147, .putfield 49, 3, 0), (150, .aload_n 0, 1, 0), (151, .invokevirtual 52, 3, 0), (154, .return_, 1, 0)], F_M)
set_option maxRecDepth 40000 in
theorem ok_M_init : okM m_M_init := ⟨by decide +kernel, okF_M, gw_in (List.mem_of_getElem? (i := 888) rfl) rfl, by decide +kernel⟩
def m_M_thrown : Mt := (⟨"HalftoneRegionsModel", "thrown", "()I"⟩, prog_11_method_2_code, 1, (some .int), [(0, .aload_n 0, 1, 0), (1, .getfield 55, 3, 0), (4, .ireturn, 1, 0)], F_M)
set_option maxRecDepth 40000 in
theorem ok_M_thrown : okM m_M_thrown := ⟨by decide +kernel, okF_M, gw_in (List.mem_of_getElem? (i := 1022) rfl) rfl, by decide +kernel⟩
def m_M_begin : Mt := (⟨"HalftoneRegionsModel", "begin", "()V"⟩, prog_11_method_3_code, 2, none, [(0, .iconst 0, 1, 0), (1, .istore_n 1, 1, 0), (2, .iload_n 1, 1, 0), (3, .sipush 1024, 3, 0), (6, .if_icmp .ge 23, 3, 29), (9, .aload_n 0, 1, 0), (10, .getfield 7, 3, 0), (13, .iload_n 1, 1, 0), (14, .iconst 0, 1, 0), (15, .bastore, 1, 0), (16, .aload_n 0, 1, 0), (17, .getfield 13, 3, 0), (20, .iload_n 1, 1, 0), (21, .iconst 0, 1, 0), (22, .bastore, 1, 0), (23, .iinc 1 1, 3, 0), (26, .goto (-24), 3, 2), (29, .aload_n 0, 1, 0), (30, .iconst 1, 1, 0), (31, .iconst 1, 1, 0), (32, .iconst 1, 1, 0), (33, .invokevirtual 58, 3, 0), (36, .aload_n 0, 1, 0), (37, .iconst 1, 1, 0), (38, .putfield 62, 3, 0), (41, .aload_n 0, 1, 0), (42, .iconst 1, 1, 0), (43, .putfield 65, 3, 0), (46, .aload_n 0, 1, 0), (47, .iconst 0, 1, 0), (48, .putfield 68, 3, 0), (51, .aload_n 0, 1, 0), (52, .iconst 0, 1, 0), (53, .putfield 71, 3, 0), (56, .aload_n 0, 1, 0), (57, .sipush 256, 3, 0), (60, .putfield 74, 3, 0), (63, .aload_n 0, 1, 0), (64, .iconst 0, 1, 0), (65, .putfield 77, 3, 0), (68, .aload_n 0, 1, 0), (69, .iconst 0, 1, 0), (70, .putfield 80, 3, 0), (73, .aload_n 0, 1, 0), (74, .iconst 0, 1, 0), (75, .putfield 83, 3, 0), (78, .aload_n 0, 1, 0), (79, .iconst 0, 1, 0), (80, .putfield 86, 3, 0), (83, .aload_n 0, 1, 0), (84, .iconst 0, 1, 0), (85, .putfield 89, 3, 0), (88, .aload_n 0, 1, 0), (89, .iconst 0, 1, 0), (90, .putfield 92, 3, 0), (93, .aload_n 0, 1, 0), (94, .iconst 0, 1, 0), (95, .putfield 95, 3, 0), (98, .aload_n 0, 1, 0), (99, .invokevirtual 98, 3, 0), (102, .return_, 1, 0)], F_M)
set_option maxRecDepth 40000 in
theorem ok_M_begin : okM m_M_begin := ⟨by decide +kernel, okF_M, gw_in (List.mem_of_getElem? (i := 894) rfl) rfl, by decide +kernel⟩
def m_M_clear : Mt := (⟨"HalftoneRegionsModel", "clear", "()V"⟩, prog_11_method_4_code, 1, none, [(0, .aload_n 0, 1, 0), (1, .iconst 0, 1, 0), (2, .putfield 55, 3, 0), (5, .aload_n 0, 1, 0), (6, .invokevirtual 52, 3, 0), (9, .return_, 1, 0)], F_M)
set_option maxRecDepth 40000 in
theorem ok_M_clear : okM m_M_clear := ⟨by decide +kernel, okF_M, gw_in (List.mem_of_getElem? (i := 1026) rfl) rfl, by decide +kernel⟩
def m_M_in : Mt := (⟨"HalftoneRegionsModel", "in", "(III)Z"⟩, prog_11_method_5_code, 3, (some .boolean), [(0, .iload_n 0, 1, 0), (1, .iload_n 1, 1, 0), (2, .if_icmp .lt 12, 3, 14), (5, .iload_n 0, 1, 0), (6, .iload_n 2, 1, 0), (7, .if_icmp .gt 7, 3, 14), (10, .iconst 1, 1, 0), (11, .goto 4, 3, 15), (14, .iconst 0, 1, 0), (15, .ireturn, 1, 0)], F_M)
set_option maxRecDepth 40000 in
theorem ok_M_in : okM m_M_in := ⟨by decide +kernel, okF_M, gw_in (List.mem_of_getElem? (i := 1033) rfl) rfl, by decide +kernel⟩
def m_M_blank : Mt := (⟨"HalftoneRegionsModel", "blank", "(III)V"⟩, prog_11_method_6_code, 5, none, [(0, .aload_n 0, 1, 0), (1, .iload_n 1, 1, 0), (2, .putfield 101, 3, 0), (5, .aload_n 0, 1, 0), (6, .iload_n 2, 1, 0), (7, .putfield 104, 3, 0), (10, .aload_n 0, 1, 0), (11, .iload_n 3, 1, 0), (12, .putfield 107, 3, 0), (15, .iconst 0, 1, 0), (16, .istore 4, 2, 0), (18, .iload 4, 2, 0), (20, .sipush 4096, 3, 0), (23, .if_icmp .ge 17, 3, 40), (26, .aload_n 0, 1, 0), (27, .getfield 16, 3, 0), (30, .iload 4, 2, 0), (32, .iconst 0, 1, 0), (33, .bastore, 1, 0), (34, .iinc 4 1, 3, 0), (37, .goto (-19), 3, 18), (40, .iconst 0, 1, 0), (41, .istore 4, 2, 0), (43, .iload 4, 2, 0), (45, .sipush 256, 3, 0), (48, .if_icmp .ge 17, 3, 65), (51, .aload_n 0, 1, 0), (52, .getfield 19, 3, 0), (55, .iload 4, 2, 0), (57, .iconst 0, 1, 0), (58, .iastore, 1, 0), (59, .iinc 4 1, 3, 0), (62, .goto (-19), 3, 43), (65, .return_, 1, 0)], F_M)
set_option maxRecDepth 40000 in
theorem ok_M_blank : okM m_M_blank := ⟨by decide +kernel, okF_M, gw_in (List.mem_of_getElem? (i := 898) rfl) rfl, by decide +kernel⟩
def m_M_planes : Mt := (⟨"HalftoneRegionsModel", "planes", "()I"⟩, prog_11_method_7_code, 2, (some .int), [(0, .iconst 0, 1, 0), (1, .istore_n 1, 1, 0), (2, .aload_n 0, 1, 0), (3, .getfield 107, 3, 0), (6, .iconst 1, 1, 0), (7, .isub, 1, 0), (8, .iload_n 1, 1, 0), (9, .ishr, 1, 0), (10, .ifCond .eq 9, 3, 19), (13, .iinc 1 1, 3, 0), (16, .goto (-14), 3, 2), (19, .iload_n 1, 1, 0), (20, .ireturn, 1, 0)], F_M)
set_option maxRecDepth 40000 in
theorem ok_M_planes : okM m_M_planes := ⟨by decide +kernel, okF_M, gw_in (List.mem_of_getElem? (i := 1037) rfl) rfl, by decide +kernel⟩
def m_M_patterns : Mt := (⟨"HalftoneRegionsModel", "patterns", "(III)I"⟩, prog_11_method_8_code, 4, (some .int), [(0, .aload_n 0, 1, 0), (1, .iload_n 1, 1, 0), (2, .iconst 1, 1, 0), (3, .bipush 8, 2, 0), (5, .invokestatic 110, 3, 0), (8, .ifCond .eq 27, 3, 35), (11, .iload_n 2, 1, 0), (12, .iconst 1, 1, 0), (13, .bipush 8, 2, 0), (15, .invokestatic 110, 3, 0), (18, .ifCond .eq 17, 3, 35), (21, .iload_n 3, 1, 0), (22, .iconst 1, 1, 0), (23, .bipush 64, 2, 0), (25, .invokestatic 110, 3, 0), (28, .ifCond .eq 7, 3, 35), (31, .iconst 0, 1, 0), (32, .goto 4, 3, 36), (35, .iconst 1, 1, 0), (36, .putfield 55, 3, 0), (39, .aload_n 0, 1, 0), (40, .getfield 55, 3, 0), (43, .ifCond .le 5, 3, 48), (46, .iconst 0, 1, 0), (47, .ireturn, 1, 0), (48, .aload_n 0, 1, 0), (49, .iload_n 1, 1, 0), (50, .iload_n 2, 1, 0), (51, .iload_n 3, 1, 0), (52, .invokevirtual 58, 3, 0), (55, .aload_n 0, 1, 0), (56, .invokevirtual 114, 3, 0), (59, .ireturn, 1, 0)], F_M)
set_option maxRecDepth 40000 in
theorem ok_M_patterns : okM m_M_patterns := ⟨by decide +kernel, okF_M, gw_in (List.mem_of_getElem? (i := 1030) rfl) rfl, by decide +kernel⟩
def m_M_keyOf : Mt := (⟨"HalftoneRegionsModel", "keyOf", "(II)I"⟩, prog_11_method_9_code, 4, (some .int), [(0, .iconst 0, 1, 0), (1, .istore_n 2, 1, 0), (2, .iconst 0, 1, 0), (3, .istore_n 3, 1, 0), (4, .iload_n 3, 1, 0), (5, .iconst 3, 1, 0), (6, .if_icmp .ge 29, 3, 35), (9, .iconst 4, 1, 0), (10, .iload_n 2, 1, 0), (11, .imul, 1, 0), (12, .iconst 2, 1, 0), (13, .iload_n 0, 1, 0), (14, .iload_n 1, 1, 0), (15, .ixor, 1, 0), (16, .iload_n 3, 1, 0), (17, .ishr, 1, 0), (18, .iconst 1, 1, 0), (19, .iand, 1, 0), (20, .imul, 1, 0), (21, .iadd, 1, 0), (22, .iload_n 1, 1, 0), (23, .iload_n 3, 1, 0), (24, .ishr, 1, 0), (25, .iconst 1, 1, 0), (26, .iand, 1, 0), (27, .iadd, 1, 0), (28, .istore_n 2, 1, 0), (29, .iinc 3 1, 3, 0), (32, .goto (-28), 3, 4), (35, .iload_n 2, 1, 0), (36, .ireturn, 1, 0)], F_M)
set_option maxRecDepth 40000 in
theorem ok_M_keyOf : okM m_M_keyOf := ⟨by decide +kernel, okF_M, gw_in (List.mem_of_getElem? (i := 1044) rfl) rfl, by decide +kernel⟩
def m_M_ordered : Mt := (⟨"HalftoneRegionsModel", "ordered", "(I)I"⟩, prog_11_method_10_code, 5, (some .int), [(0, .aload_n 0, 1, 0), (1, .iload_n 1, 1, 0), (2, .iconst 1, 1, 0), (3, .bipush 7, 2, 0), (5, .invokestatic 110, 3, 0), (8, .ifCond .eq 7, 3, 15), (11, .iconst 0, 1, 0), (12, .goto 4, 3, 16), (15, .iconst 1, 1, 0), (16, .putfield 55, 3, 0), (19, .aload_n 0, 1, 0), (20, .getfield 55, 3, 0), (23, .ifCond .le 5, 3, 28), (26, .iconst 0, 1, 0), (27, .ireturn, 1, 0), (28, .aload_n 0, 1, 0), (29, .iload_n 1, 1, 0), (30, .iload_n 1, 1, 0), (31, .iload_n 1, 1, 0), (32, .iload_n 1, 1, 0), (33, .imul, 1, 0), (34, .iconst 1, 1, 0), (35, .iadd, 1, 0), (36, .invokevirtual 58, 3, 0), (39, .iconst 0, 1, 0), (40, .istore_n 2, 1, 0), (41, .iload_n 2, 1, 0), (42, .iload_n 1, 1, 0), (43, .iload_n 1, 1, 0), (44, .imul, 1, 0), (45, .if_icmp .ge 101, 3, 146), (48, .iconst 0, 1, 0), (49, .istore_n 3, 1, 0), (50, .iconst 0, 1, 0), (51, .istore 4, 2, 0), (53, .iload 4, 2, 0), (55, .iload_n 1, 1, 0), (56, .iload_n 1, 1, 0), (57, .imul, 1, 0), (58, .if_icmp .ge 40, 3, 98), (61, .iload_n 3, 1, 0), (62, .iload 4, 2, 0), (64, .iload_n 1, 1, 0), (65, .irem, 1, 0), (66, .iload 4, 2, 0), (68, .iload_n 1, 1, 0), (69, .idiv, 1, 0), (70, .invokestatic 118, 3, 0), (73, .iload_n 2, 1, 0), (74, .iload_n 1, 1, 0), (75, .irem, 1, 0), (76, .iload_n 2, 1, 0), (77, .iload_n 1, 1, 0), (78, .idiv, 1, 0), (79, .invokestatic 118, 3, 0), (82, .if_icmp .ge 7, 3, 89), (85, .iconst 1, 1, 0), (86, .goto 4, 3, 90), (89, .iconst 0, 1, 0), (90, .iadd, 1, 0), (91, .istore_n 3, 1, 0), (92, .iinc 4 1, 3, 0), (95, .goto (-42), 3, 53), (98, .iload_n 3, 1, 0), (99, .iconst 1, 1, 0), (100, .iadd, 1, 0), (101, .istore 4, 2, 0), (103, .iload 4, 2, 0), (105, .aload_n 0, 1, 0), (106, .getfield 107, 3, 0), (109, .if_icmp .ge 31, 3, 140), (112, .aload_n 0, 1, 0), (113, .getfield 16, 3, 0), (116, .bipush 64, 2, 0), (118, .iload 4, 2, 0), (120, .imul, 1, 0), (121, .bipush 8, 2, 0), (123, .iload_n 2, 1, 0), (124, .iload_n 1, 1, 0), (125, .idiv, 1, 0), (126, .imul, 1, 0), (127, .iadd, 1, 0), (128, .iload_n 2, 1, 0), (129, .iload_n 1, 1, 0), (130, .irem, 1, 0), (131, .iadd, 1, 0), (132, .iconst 1, 1, 0), (133, .bastore, 1, 0), (134, .iinc 4 1, 3, 0), (137, .goto (-34), 3, 103), (140, .iinc 2 1, 3, 0), (143, .goto (-102), 3, 41), (146, .aload_n 0, 1, 0), (147, .getfield 107, 3, 0), (150, .ireturn, 1, 0)], F_M)
set_option maxRecDepth 40000 in
theorem ok_M_ordered : okM m_M_ordered := ⟨by decide +kernel, okF_M, gw_in (List.mem_of_getElem? (i := 1041) rfl) rfl, by decide +kernel⟩
def m_M_hasCell : Mt := (⟨"HalftoneRegionsModel", "hasCell", "(III)Z"⟩, prog_11_method_11_code, 4, (some .boolean), [(0, .iload_n 1, 1, 0), (1, .iconst 0, 1, 0), (2, .aload_n 0, 1, 0), (3, .getfield 107, 3, 0), (6, .iconst 1, 1, 0), (7, .isub, 1, 0), (8, .invokestatic 110, 3, 0), (11, .ifCond .eq 35, 3, 46), (14, .iload_n 2, 1, 0), (15, .iconst 0, 1, 0), (16, .aload_n 0, 1, 0), (17, .getfield 101, 3, 0), (20, .iconst 1, 1, 0), (21, .isub, 1, 0), (22, .invokestatic 110, 3, 0), (25, .ifCond .eq 21, 3, 46), (28, .iload_n 3, 1, 0), (29, .iconst 0, 1, 0), (30, .aload_n 0, 1, 0), (31, .getfield 104, 3, 0), (34, .iconst 1, 1, 0), (35, .isub, 1, 0), (36, .invokestatic 110, 3, 0), (39, .ifCond .eq 7, 3, 46), (42, .iconst 1, 1, 0), (43, .goto 4, 3, 47), (46, .iconst 0, 1, 0), (47, .ireturn, 1, 0)], F_M)
set_option maxRecDepth 40000 in
theorem ok_M_hasCell : okM m_M_hasCell := ⟨by decide +kernel, okF_M, gw_in (List.mem_of_getElem? (i := 1052) rfl) rfl, by decide +kernel⟩
def m_M_put : Mt := (⟨"HalftoneRegionsModel", "put", "(IIIZ)Z"⟩, prog_11_method_12_code, 6, (some .boolean), [(0, .aload_n 0, 1, 0), (1, .aload_n 0, 1, 0), (2, .iload_n 1, 1, 0), (3, .iload_n 2, 1, 0), (4, .iload_n 3, 1, 0), (5, .invokevirtual 122, 3, 0), (8, .ifCond .eq 7, 3, 15), (11, .iconst 0, 1, 0), (12, .goto 4, 3, 16), (15, .iconst 1, 1, 0), (16, .putfield 55, 3, 0), (19, .aload_n 0, 1, 0), (20, .getfield 55, 3, 0), (23, .ifCond .le 5, 3, 28), (26, .iconst 0, 1, 0), (27, .ireturn, 1, 0), (28, .aload_n 0, 1, 0), (29, .getfield 16, 3, 0), (32, .bipush 64, 2, 0), (34, .iload_n 1, 1, 0), (35, .imul, 1, 0), (36, .bipush 8, 2, 0), (38, .iload_n 3, 1, 0), (39, .imul, 1, 0), (40, .iadd, 1, 0), (41, .iload_n 2, 1, 0), (42, .iadd, 1, 0), (43, .baload, 1, 0), (44, .iload 4, 2, 0), (46, .if_icmp .eq 7, 3, 53), (49, .iconst 1, 1, 0), (50, .goto 4, 3, 54), (53, .iconst 0, 1, 0), (54, .istore 5, 2, 0), (56, .aload_n 0, 1, 0), (57, .getfield 16, 3, 0), (60, .bipush 64, 2, 0), (62, .iload_n 1, 1, 0), (63, .imul, 1, 0), (64, .bipush 8, 2, 0), (66, .iload_n 3, 1, 0), (67, .imul, 1, 0), (68, .iadd, 1, 0), (69, .iload_n 2, 1, 0), (70, .iadd, 1, 0), (71, .iload 4, 2, 0), (73, .bastore, 1, 0), (74, .iload 5, 2, 0), (76, .ireturn, 1, 0)], F_M)
set_option maxRecDepth 40000 in
theorem ok_M_put : okM m_M_put := ⟨by decide +kernel, okF_M, gw_in (List.mem_of_getElem? (i := 1048) rfl) rfl, by decide +kernel⟩
def m_M_cell : Mt := (⟨"HalftoneRegionsModel", "cell", "(III)Z"⟩, prog_11_method_13_code, 4, (some .boolean), [(0, .aload_n 0, 1, 0), (1, .aload_n 0, 1, 0), (2, .iload_n 1, 1, 0), (3, .iload_n 2, 1, 0), (4, .iload_n 3, 1, 0), (5, .invokevirtual 122, 3, 0), (8, .ifCond .eq 7, 3, 15), (11, .iconst 0, 1, 0), (12, .goto 4, 3, 16), (15, .iconst 1, 1, 0), (16, .putfield 55, 3, 0), (19, .aload_n 0, 1, 0), (20, .getfield 55, 3, 0), (23, .ifCond .ne 26, 3, 49), (26, .aload_n 0, 1, 0), (27, .getfield 16, 3, 0), (30, .bipush 64, 2, 0), (32, .iload_n 1, 1, 0), (33, .imul, 1, 0), (34, .bipush 8, 2, 0), (36, .iload_n 3, 1, 0), (37, .imul, 1, 0), (38, .iadd, 1, 0), (39, .iload_n 2, 1, 0), (40, .iadd, 1, 0), (41, .baload, 1, 0), (42, .ifCond .eq 7, 3, 49), (45, .iconst 1, 1, 0), (46, .goto 4, 3, 50), (49, .iconst 0, 1, 0), (50, .ireturn, 1, 0)], F_M)
set_option maxRecDepth 40000 in
theorem ok_M_cell : okM m_M_cell := ⟨by decide +kernel, okF_M, gw_in (List.mem_of_getElem? (i := 1056) rfl) rfl, by decide +kernel⟩
def m_M_darkIn : Mt := (⟨"HalftoneRegionsModel", "darkIn", "(I)I"⟩, prog_11_method_14_code, 4, (some .int), [(0, .iconst 0, 1, 0), (1, .istore_n 2, 1, 0), (2, .iconst 0, 1, 0), (3, .istore_n 3, 1, 0), (4, .iload_n 3, 1, 0), (5, .bipush 64, 2, 0), (7, .if_icmp .ge 31, 3, 38), (10, .iload_n 2, 1, 0), (11, .aload_n 0, 1, 0), (12, .getfield 16, 3, 0), (15, .bipush 64, 2, 0), (17, .iload_n 1, 1, 0), (18, .imul, 1, 0), (19, .iload_n 3, 1, 0), (20, .iadd, 1, 0), (21, .baload, 1, 0), (22, .ifCond .eq 7, 3, 29), (25, .iconst 1, 1, 0), (26, .goto 4, 3, 30), (29, .iconst 0, 1, 0), (30, .iadd, 1, 0), (31, .istore_n 2, 1, 0), (32, .iinc 3 1, 3, 0), (35, .goto (-31), 3, 4), (38, .iload_n 2, 1, 0), (39, .ireturn, 1, 0)], F_M)
set_option maxRecDepth 40000 in
theorem ok_M_darkIn : okM m_M_darkIn := ⟨by decide +kernel, okF_M, gw_in (List.mem_of_getElem? (i := 1133) rfl) rfl, by decide +kernel⟩
def m_M_by256 : Mt := (⟨"HalftoneRegionsModel", "by256", "(I)I"⟩, prog_11_method_15_code, 1, (some .int), [(0, .iload_n 0, 1, 0), (1, .bipush 8, 2, 0), (3, .ishr, 1, 0), (4, .ireturn, 1, 0)], F_M)
set_option maxRecDepth 40000 in
theorem ok_M_by256 : okM m_M_by256 := ⟨by decide +kernel, okF_M, gw_in (List.mem_of_getElem? (i := 1077) rfl) rfl, by decide +kernel⟩
def m_M_xOf : Mt := (⟨"HalftoneRegionsModel", "xOf", "(II)I"⟩, prog_11_method_16_code, 3, (some .int), [(0, .aload_n 0, 1, 0), (1, .getfield 68, 3, 0), (4, .iload_n 2, 1, 0), (5, .aload_n 0, 1, 0), (6, .getfield 77, 3, 0), (9, .imul, 1, 0), (10, .iadd, 1, 0), (11, .iload_n 1, 1, 0), (12, .aload_n 0, 1, 0), (13, .getfield 74, 3, 0), (16, .imul, 1, 0), (17, .iadd, 1, 0), (18, .invokestatic 125, 3, 0), (21, .ireturn, 1, 0)], F_M)
set_option maxRecDepth 40000 in
theorem ok_M_xOf : okM m_M_xOf := ⟨by decide +kernel, okF_M, gw_in (List.mem_of_getElem? (i := 1074) rfl) rfl, by decide +kernel⟩
def m_M_yOf : Mt := (⟨"HalftoneRegionsModel", "yOf", "(II)I"⟩, prog_11_method_17_code, 3, (some .int), [(0, .aload_n 0, 1, 0), (1, .getfield 71, 3, 0), (4, .iload_n 2, 1, 0), (5, .aload_n 0, 1, 0), (6, .getfield 74, 3, 0), (9, .imul, 1, 0), (10, .iadd, 1, 0), (11, .iload_n 1, 1, 0), (12, .aload_n 0, 1, 0), (13, .getfield 77, 3, 0), (16, .imul, 1, 0), (17, .isub, 1, 0), (18, .invokestatic 125, 3, 0), (21, .ireturn, 1, 0)], F_M)
set_option maxRecDepth 40000 in
theorem ok_M_yOf : okM m_M_yOf := ⟨by decide +kernel, okF_M, gw_in (List.mem_of_getElem? (i := 1081) rfl) rfl, by decide +kernel⟩
def m_M_isOutside : Mt := (⟨"HalftoneRegionsModel", "isOutside", "(II)Z"⟩, prog_11_method_18_code, 5, (some .boolean), [(0, .aload_n 0, 1, 0), (1, .iload_n 1, 1, 0), (2, .iload_n 2, 1, 0), (3, .invokevirtual 129, 3, 0), (6, .istore_n 3, 1, 0), (7, .aload_n 0, 1, 0), (8, .iload_n 1, 1, 0), (9, .iload_n 2, 1, 0), (10, .invokevirtual 132, 3, 0), (13, .istore 4, 2, 0), (15, .iload_n 3, 1, 0), (16, .aload_n 0, 1, 0), (17, .getfield 101, 3, 0), (20, .iadd, 1, 0), (21, .ifCond .le 30, 3, 51), (24, .iload_n 3, 1, 0), (25, .aload_n 0, 1, 0), (26, .getfield 45, 3, 0), (29, .if_icmp .ge 22, 3, 51), (32, .iload 4, 2, 0), (34, .aload_n 0, 1, 0), (35, .getfield 104, 3, 0), (38, .iadd, 1, 0), (39, .ifCond .le 12, 3, 51), (42, .iload 4, 2, 0), (44, .aload_n 0, 1, 0), (45, .getfield 49, 3, 0), (48, .if_icmp .lt 7, 3, 55), (51, .iconst 1, 1, 0), (52, .goto 4, 3, 56), (55, .iconst 0, 1, 0), (56, .ireturn, 1, 0)], F_M)
set_option maxRecDepth 40000 in
theorem ok_M_isOutside : okM m_M_isOutside := ⟨by decide +kernel, okF_M, gw_in (List.mem_of_getElem? (i := 1070) rfl) rfl, by decide +kernel⟩
def m_M_isSkipped : Mt := (⟨"HalftoneRegionsModel", "isSkipped", "(II)Z"⟩, prog_11_method_19_code, 3, (some .boolean), [(0, .aload_n 0, 1, 0), (1, .getfield 86, 3, 0), (4, .iconst 1, 1, 0), (5, .if_icmp .ne 16, 3, 21), (8, .aload_n 0, 1, 0), (9, .iload_n 1, 1, 0), (10, .iload_n 2, 1, 0), (11, .invokevirtual 135, 3, 0), (14, .ifCond .eq 7, 3, 21), (17, .iconst 1, 1, 0), (18, .goto 4, 3, 22), (21, .iconst 0, 1, 0), (22, .ireturn, 1, 0)], F_M)
set_option maxRecDepth 40000 in
theorem ok_M_isSkipped : okM m_M_isSkipped := ⟨by decide +kernel, okF_M, gw_in (List.mem_of_getElem? (i := 1168) rfl) rfl, by decide +kernel⟩
def m_M_grid : Mt := (⟨"HalftoneRegionsModel", "grid", "(IIIIII)I"⟩, prog_11_method_20_code, 10, (some .int), [(0, .iload_n 1, 1, 0), (1, .iconst 1, 1, 0), (2, .bipush 16, 2, 0), (4, .invokestatic 110, 3, 0), (7, .ifCond .eq 78, 3, 85), (10, .iload_n 2, 1, 0), (11, .iconst 1, 1, 0), (12, .bipush 16, 2, 0), (14, .invokestatic 110, 3, 0), (17, .ifCond .eq 68, 3, 85), (20, .iload_n 3, 1, 0), (21, .ldc 139, 2, 0), (23, .ldc 140, 2, 0), (25, .invokestatic 110, 3, 0), (28, .ifCond .eq 57, 3, 85), (31, .iload 4, 2, 0), (33, .ldc 139, 2, 0), (35, .ldc 140, 2, 0), (37, .invokestatic 110, 3, 0), (40, .ifCond .eq 45, 3, 85), (43, .iload 5, 2, 0), (45, .sipush (-4096), 3, 0), (48, .sipush 4096, 3, 0), (51, .invokestatic 110, 3, 0), (54, .ifCond .eq 31, 3, 85), (57, .iload 6, 2, 0), (59, .sipush (-4096), 3, 0), (62, .sipush 4096, 3, 0), (65, .invokestatic 110, 3, 0), (68, .ifCond .eq 17, 3, 85), (71, .iload 5, 2, 0), (73, .ifCond .ne 8, 3, 81), (76, .iload 6, 2, 0), (78, .ifCond .eq 7, 3, 85), (81, .iconst 1, 1, 0), (82, .goto 4, 3, 86), (85, .iconst 0, 1, 0), (86, .istore 7, 2, 0), (88, .aload_n 0, 1, 0), (89, .iload 7, 2, 0), (91, .ifCond .eq 7, 3, 98), (94, .iconst 0, 1, 0), (95, .goto 4, 3, 99), (98, .iconst 1, 1, 0), (99, .putfield 55, 3, 0), (102, .aload_n 0, 1, 0), (103, .getfield 55, 3, 0), (106, .ifCond .le 5, 3, 111), (109, .iconst 0, 1, 0), (110, .ireturn, 1, 0), (111, .aload_n 0, 1, 0), (112, .iload_n 1, 1, 0), (113, .putfield 62, 3, 0), (116, .aload_n 0, 1, 0), (117, .iload_n 2, 1, 0), (118, .putfield 65, 3, 0), (121, .aload_n 0, 1, 0), (122, .iload_n 3, 1, 0), (123, .putfield 68, 3, 0), (126, .aload_n 0, 1, 0), (127, .iload 4, 2, 0), (129, .putfield 71, 3, 0), (132, .aload_n 0, 1, 0), (133, .iload 5, 2, 0), (135, .putfield 74, 3, 0), (138, .aload_n 0, 1, 0), (139, .iload 6, 2, 0), (141, .putfield 77, 3, 0), (144, .iconst 0, 1, 0), (145, .istore 8, 2, 0), (147, .iconst 0, 1, 0), (148, .istore 9, 2, 0), (150, .iload 9, 2, 0), (152, .sipush 256, 3, 0), (155, .if_icmp .ge 61, 3, 216), (158, .aload_n 0, 1, 0), (159, .getfield 19, 3, 0), (162, .iload 9, 2, 0), (164, .iconst 0, 1, 0), (165, .iastore, 1, 0), (166, .iload 8, 2, 0), (168, .aload_n 0, 1, 0), (169, .iload 9, 2, 0), (171, .bipush 16, 2, 0), (173, .irem, 1, 0), (174, .iload 9, 2, 0), (176, .bipush 16, 2, 0), (178, .idiv, 1, 0), (179, .invokevirtual 141, 3, 0), (182, .ifCond .eq 24, 3, 206), (185, .aload_n 0, 1, 0), (186, .iload 9, 2, 0), (188, .bipush 16, 2, 0), (190, .irem, 1, 0), (191, .iload 9, 2, 0), (193, .bipush 16, 2, 0), (195, .idiv, 1, 0), (196, .invokevirtual 135, 3, 0), (199, .ifCond .eq 7, 3, 206), (202, .iconst 1, 1, 0), (203, .goto 4, 3, 207), (206, .iconst 0, 1, 0), (207, .iadd, 1, 0), (208, .istore 8, 2, 0), (210, .iinc 9 1, 3, 0), (213, .goto (-63), 3, 150), (216, .iload 8, 2, 0), (218, .ireturn, 1, 0)], F_M)
set_option maxRecDepth 40000 in
theorem ok_M_grid : okM m_M_grid := ⟨by decide +kernel, okF_M, gw_in (List.mem_of_getElem? (i := 1060) rfl) rfl, by decide +kernel⟩
def m_M_hasPlace : Mt := (⟨"HalftoneRegionsModel", "hasPlace", "(II)Z"⟩, prog_11_method_21_code, 3, (some .boolean), [(0, .iload_n 1, 1, 0), (1, .iconst 0, 1, 0), (2, .aload_n 0, 1, 0), (3, .getfield 62, 3, 0), (6, .iconst 1, 1, 0), (7, .isub, 1, 0), (8, .invokestatic 110, 3, 0), (11, .ifCond .eq 21, 3, 32), (14, .iload_n 2, 1, 0), (15, .iconst 0, 1, 0), (16, .aload_n 0, 1, 0), (17, .getfield 65, 3, 0), (20, .iconst 1, 1, 0), (21, .isub, 1, 0), (22, .invokestatic 110, 3, 0), (25, .ifCond .eq 7, 3, 32), (28, .iconst 1, 1, 0), (29, .goto 4, 3, 33), (32, .iconst 0, 1, 0), (33, .ireturn, 1, 0)], F_M)
set_option maxRecDepth 40000 in
theorem ok_M_hasPlace : okM m_M_hasPlace := ⟨by decide +kernel, okF_M, gw_in (List.mem_of_getElem? (i := 1066) rfl) rfl, by decide +kernel⟩
def m_M_where : Mt := (⟨"HalftoneRegionsModel", "where", "(III)I"⟩, prog_11_method_22_code, 4, (some .int), [(0, .aload_n 0, 1, 0), (1, .aload_n 0, 1, 0), (2, .iload_n 1, 1, 0), (3, .iload_n 2, 1, 0), (4, .invokevirtual 141, 3, 0), (7, .ifCond .ne 7, 3, 14), (10, .iconst 1, 1, 0), (11, .goto 17, 3, 28), (14, .iload_n 3, 1, 0), (15, .iconst 0, 1, 0), (16, .iconst 1, 1, 0), (17, .invokestatic 110, 3, 0), (20, .ifCond .ne 7, 3, 27), (23, .iconst 2, 1, 0), (24, .goto 4, 3, 28), (27, .iconst 0, 1, 0), (28, .putfield 55, 3, 0), (31, .aload_n 0, 1, 0), (32, .getfield 55, 3, 0), (35, .ifCond .le 7, 3, 42), (38, .iconst 0, 1, 0), (39, .goto 22, 3, 61), (42, .iload_n 3, 1, 0), (43, .ifCond .ne 12, 3, 55), (46, .aload_n 0, 1, 0), (47, .iload_n 1, 1, 0), (48, .iload_n 2, 1, 0), (49, .invokevirtual 129, 3, 0), (52, .goto 9, 3, 61), (55, .aload_n 0, 1, 0), (56, .iload_n 1, 1, 0), (57, .iload_n 2, 1, 0), (58, .invokevirtual 132, 3, 0), (61, .ireturn, 1, 0)], F_M)
set_option maxRecDepth 40000 in
theorem ok_M_where : okM m_M_where := ⟨by decide +kernel, okF_M, gw_in (List.mem_of_getElem? (i := 1085) rfl) rfl, by decide +kernel⟩
def m_M_outside : Mt := (⟨"HalftoneRegionsModel", "outside", "(II)Z"⟩, prog_11_method_23_code, 3, (some .boolean), [(0, .aload_n 0, 1, 0), (1, .aload_n 0, 1, 0), (2, .iload_n 1, 1, 0), (3, .iload_n 2, 1, 0), (4, .invokevirtual 141, 3, 0), (7, .ifCond .eq 7, 3, 14), (10, .iconst 0, 1, 0), (11, .goto 4, 3, 15), (14, .iconst 1, 1, 0), (15, .putfield 55, 3, 0), (18, .aload_n 0, 1, 0), (19, .getfield 55, 3, 0), (22, .ifCond .ne 16, 3, 38), (25, .aload_n 0, 1, 0), (26, .iload_n 1, 1, 0), (27, .iload_n 2, 1, 0), (28, .invokevirtual 135, 3, 0), (31, .ifCond .eq 7, 3, 38), (34, .iconst 1, 1, 0), (35, .goto 4, 3, 39), (38, .iconst 0, 1, 0), (39, .ireturn, 1, 0)], F_M)
set_option maxRecDepth 40000 in
theorem ok_M_outside : okM m_M_outside := ⟨by decide +kernel, okF_M, gw_in (List.mem_of_getElem? (i := 1089) rfl) rfl, by decide +kernel⟩
def m_M_grey : Mt := (⟨"HalftoneRegionsModel", "grey", "(III)Z"⟩, prog_11_method_24_code, 5, (some .boolean), [(0, .aload_n 0, 1, 0), (1, .aload_n 0, 1, 0), (2, .iload_n 1, 1, 0), (3, .iload_n 2, 1, 0), (4, .invokevirtual 141, 3, 0), (7, .ifCond .ne 7, 3, 14), (10, .iconst 1, 1, 0), (11, .goto 22, 3, 33), (14, .iload_n 3, 1, 0), (15, .iconst 0, 1, 0), (16, .aload_n 0, 1, 0), (17, .getfield 107, 3, 0), (20, .iconst 1, 1, 0), (21, .isub, 1, 0), (22, .invokestatic 110, 3, 0), (25, .ifCond .ne 7, 3, 32), (28, .iconst 2, 1, 0), (29, .goto 4, 3, 33), (32, .iconst 0, 1, 0), (33, .putfield 55, 3, 0), (36, .aload_n 0, 1, 0), (37, .getfield 55, 3, 0), (40, .ifCond .le 5, 3, 45), (43, .iconst 0, 1, 0), (44, .ireturn, 1, 0), (45, .aload_n 0, 1, 0), (46, .getfield 19, 3, 0), (49, .bipush 16, 2, 0), (51, .iload_n 2, 1, 0), (52, .imul, 1, 0), (53, .iload_n 1, 1, 0), (54, .iadd, 1, 0), (55, .iaload, 1, 0), (56, .iload_n 3, 1, 0), (57, .if_icmp .eq 7, 3, 64), (60, .iconst 1, 1, 0), (61, .goto 4, 3, 65), (64, .iconst 0, 1, 0), (65, .istore 4, 2, 0), (67, .aload_n 0, 1, 0), (68, .getfield 19, 3, 0), (71, .bipush 16, 2, 0), (73, .iload_n 2, 1, 0), (74, .imul, 1, 0), (75, .iload_n 1, 1, 0), (76, .iadd, 1, 0), (77, .iload_n 3, 1, 0), (78, .iastore, 1, 0), (79, .iload 4, 2, 0), (81, .ireturn, 1, 0)], F_M)
set_option maxRecDepth 40000 in
theorem ok_M_grey : okM m_M_grey := ⟨by decide +kernel, okF_M, gw_in (List.mem_of_getElem? (i := 1093) rfl) rfl, by decide +kernel⟩
def m_M_greyAt : Mt := (⟨"HalftoneRegionsModel", "greyAt", "(II)I"⟩, prog_11_method_25_code, 3, (some .int), [(0, .aload_n 0, 1, 0), (1, .aload_n 0, 1, 0), (2, .iload_n 1, 1, 0), (3, .iload_n 2, 1, 0), (4, .invokevirtual 141, 3, 0), (7, .ifCond .eq 7, 3, 14), (10, .iconst 0, 1, 0), (11, .goto 4, 3, 15), (14, .iconst 1, 1, 0), (15, .putfield 55, 3, 0), (18, .aload_n 0, 1, 0), (19, .getfield 55, 3, 0), (22, .ifCond .le 7, 3, 29), (25, .iconst 0, 1, 0), (26, .goto 14, 3, 40), (29, .aload_n 0, 1, 0), (30, .getfield 19, 3, 0), (33, .bipush 16, 2, 0), (35, .iload_n 2, 1, 0), (36, .imul, 1, 0), (37, .iload_n 1, 1, 0), (38, .iadd, 1, 0), (39, .iaload, 1, 0), (40, .ireturn, 1, 0)], F_M)
set_option maxRecDepth 40000 in
theorem ok_M_greyAt : okM m_M_greyAt := ⟨by decide +kernel, okF_M, gw_in (List.mem_of_getElem? (i := 1097) rfl) rfl, by decide +kernel⟩
def m_M_way : Mt := (⟨"HalftoneRegionsModel", "way", "(II)I"⟩, prog_11_method_26_code, 4, (some .int), [(0, .aload_n 0, 1, 0), (1, .iload_n 1, 1, 0), (2, .iconst 0, 1, 0), (3, .iconst 2, 1, 0), (4, .invokestatic 110, 3, 0), (7, .ifCond .eq 24, 3, 31), (10, .iload_n 2, 1, 0), (11, .iconst 0, 1, 0), (12, .iload_n 1, 1, 0), (13, .ifCond .ne 7, 3, 20), (16, .iconst 4, 1, 0), (17, .goto 4, 3, 21), (20, .iconst 1, 1, 0), (21, .invokestatic 110, 3, 0), (24, .ifCond .eq 7, 3, 31), (27, .iconst 0, 1, 0), (28, .goto 4, 3, 32), (31, .iconst 1, 1, 0), (32, .putfield 55, 3, 0), (35, .aload_n 0, 1, 0), (36, .getfield 55, 3, 0), (39, .ifCond .le 5, 3, 44), (42, .iconst 0, 1, 0), (43, .ireturn, 1, 0), (44, .iload_n 1, 1, 0), (45, .ifCond .ne 10, 3, 55), (48, .aload_n 0, 1, 0), (49, .getfield 80, 3, 0), (52, .goto 19, 3, 71), (55, .iload_n 1, 1, 0), (56, .iconst 1, 1, 0), (57, .if_icmp .ne 10, 3, 67), (60, .aload_n 0, 1, 0), (61, .getfield 83, 3, 0), (64, .goto 7, 3, 71), (67, .aload_n 0, 1, 0), (68, .getfield 86, 3, 0), (71, .istore_n 3, 1, 0), (72, .aload_n 0, 1, 0), (73, .iload_n 1, 1, 0), (74, .ifCond .ne 7, 3, 81), (77, .iload_n 2, 1, 0), (78, .goto 7, 3, 85), (81, .aload_n 0, 1, 0), (82, .getfield 80, 3, 0), (85, .putfield 80, 3, 0), (88, .aload_n 0, 1, 0), (89, .iload_n 1, 1, 0), (90, .iconst 1, 1, 0), (91, .if_icmp .ne 7, 3, 98), (94, .iload_n 2, 1, 0), (95, .goto 7, 3, 102), (98, .aload_n 0, 1, 0), (99, .getfield 83, 3, 0), (102, .putfield 83, 3, 0), (105, .aload_n 0, 1, 0), (106, .iload_n 1, 1, 0), (107, .iconst 2, 1, 0), (108, .if_icmp .ne 7, 3, 115), (111, .iload_n 2, 1, 0), (112, .goto 7, 3, 119), (115, .aload_n 0, 1, 0), (116, .getfield 86, 3, 0), (119, .putfield 86, 3, 0), (122, .iload_n 3, 1, 0), (123, .ireturn, 1, 0)], F_M)
set_option maxRecDepth 40000 in
theorem ok_M_way : okM m_M_way := ⟨by decide +kernel, okF_M, gw_in (List.mem_of_getElem? (i := 1101) rfl) rfl, by decide +kernel⟩
def m_M_row : Mt := (⟨"HalftoneRegionsModel", "row", "(II)I"⟩, prog_11_method_27_code, 6, (some .int), [(0, .aload_n 0, 1, 0), (1, .iload_n 1, 1, 0), (2, .iconst 0, 1, 0), (3, .aload_n 0, 1, 0), (4, .getfield 49, 3, 0), (7, .iconst 1, 1, 0), (8, .isub, 1, 0), (9, .invokestatic 110, 3, 0), (12, .ifCond .eq 7, 3, 19), (15, .iconst 0, 1, 0), (16, .goto 4, 3, 20), (19, .iconst 1, 1, 0), (20, .putfield 55, 3, 0), (23, .iconst 0, 1, 0), (24, .istore_n 3, 1, 0), (25, .iconst 0, 1, 0), (26, .istore 4, 2, 0), (28, .iload 4, 2, 0), (30, .aload_n 0, 1, 0), (31, .getfield 45, 3, 0), (34, .if_icmp .ge 72, 3, 106), (37, .aload_n 0, 1, 0), (38, .getfield 55, 3, 0), (41, .ifCond .ne 65, 3, 106), (44, .iload_n 2, 1, 0), (45, .iload 4, 2, 0), (47, .ishr, 1, 0), (48, .iconst 1, 1, 0), (49, .iand, 1, 0), (50, .iconst 1, 1, 0), (51, .if_icmp .ne 7, 3, 58), (54, .iconst 1, 1, 0), (55, .goto 4, 3, 59), (58, .iconst 0, 1, 0), (59, .istore 5, 2, 0), (61, .iload_n 3, 1, 0), (62, .aload_n 0, 1, 0), (63, .getfield 7, 3, 0), (66, .bipush 32, 2, 0), (68, .iload_n 1, 1, 0), (69, .imul, 1, 0), (70, .iload 4, 2, 0), (72, .iadd, 1, 0), (73, .baload, 1, 0), (74, .iload 5, 2, 0), (76, .if_icmp .eq 7, 3, 83), (79, .iconst 1, 1, 0), (80, .goto 4, 3, 84), (83, .iconst 0, 1, 0), (84, .iadd, 1, 0), (85, .istore_n 3, 1, 0), (86, .aload_n 0, 1, 0), (87, .getfield 7, 3, 0), (90, .bipush 32, 2, 0), (92, .iload_n 1, 1, 0), (93, .imul, 1, 0), (94, .iload 4, 2, 0), (96, .iadd, 1, 0), (97, .iload 5, 2, 0), (99, .bastore, 1, 0), (100, .iinc 4 1, 3, 0), (103, .goto (-75), 3, 28), (106, .iload_n 3, 1, 0), (107, .ireturn, 1, 0)], F_M)
set_option maxRecDepth 40000 in
theorem ok_M_row : okM m_M_row := ⟨by decide +kernel, okF_M, gw_in (List.mem_of_getElem? (i := 1105) rfl) rfl, by decide +kernel⟩
def m_M_page : Mt := (⟨"HalftoneRegionsModel", "page", "()I"⟩, prog_11_method_28_code, 3, (some .int), [(0, .aload_n 0, 1, 0), (1, .iconst 0, 1, 0), (2, .putfield 55, 3, 0), (5, .iconst 0, 1, 0), (6, .istore_n 1, 1, 0), (7, .iconst 0, 1, 0), (8, .istore_n 2, 1, 0), (9, .iload_n 2, 1, 0), (10, .sipush 1024, 3, 0), (13, .if_icmp .ge 44, 3, 57), (16, .iload_n 1, 1, 0), (17, .aload_n 0, 1, 0), (18, .getfield 7, 3, 0), (21, .iload_n 2, 1, 0), (22, .baload, 1, 0), (23, .aload_n 0, 1, 0), (24, .getfield 13, 3, 0), (27, .iload_n 2, 1, 0), (28, .baload, 1, 0), (29, .if_icmp .eq 7, 3, 36), (32, .iconst 1, 1, 0), (33, .goto 4, 3, 37), (36, .iconst 0, 1, 0), (37, .iadd, 1, 0), (38, .istore_n 1, 1, 0), (39, .aload_n 0, 1, 0), (40, .getfield 7, 3, 0), (43, .iload_n 2, 1, 0), (44, .aload_n 0, 1, 0), (45, .getfield 13, 3, 0), (48, .iload_n 2, 1, 0), (49, .baload, 1, 0), (50, .bastore, 1, 0), (51, .iinc 2 1, 3, 0), (54, .goto (-45), 3, 9), (57, .iload_n 1, 1, 0), (58, .ireturn, 1, 0)], F_M)
set_option maxRecDepth 40000 in
theorem ok_M_page : okM m_M_page := ⟨by decide +kernel, okF_M, gw_in (List.mem_of_getElem? (i := 1109) rfl) rfl, by decide +kernel⟩
def m_M_hasSample : Mt := (⟨"HalftoneRegionsModel", "hasSample", "(II)Z"⟩, prog_11_method_29_code, 3, (some .boolean), [(0, .iload_n 1, 1, 0), (1, .iconst 0, 1, 0), (2, .aload_n 0, 1, 0), (3, .getfield 45, 3, 0), (6, .iconst 1, 1, 0), (7, .isub, 1, 0), (8, .invokestatic 110, 3, 0), (11, .ifCond .eq 21, 3, 32), (14, .iload_n 2, 1, 0), (15, .iconst 0, 1, 0), (16, .aload_n 0, 1, 0), (17, .getfield 49, 3, 0), (20, .iconst 1, 1, 0), (21, .isub, 1, 0), (22, .invokestatic 110, 3, 0), (25, .ifCond .eq 7, 3, 32), (28, .iconst 1, 1, 0), (29, .goto 4, 3, 33), (32, .iconst 0, 1, 0), (33, .ireturn, 1, 0)], F_M)
set_option maxRecDepth 40000 in
theorem ok_M_hasSample : okM m_M_hasSample := ⟨by decide +kernel, okF_M, gw_in (List.mem_of_getElem? (i := 1121) rfl) rfl, by decide +kernel⟩
def m_M_countAt : Mt := (⟨"HalftoneRegionsModel", "countAt", "(II)I"⟩, prog_11_method_30_code, 8, (some .int), [(0, .iconst 0, 1, 0), (1, .istore_n 3, 1, 0), (2, .iconst 0, 1, 0), (3, .istore 4, 2, 0), (5, .iload 4, 2, 0), (7, .bipush 64, 2, 0), (9, .if_icmp .ge 108, 3, 117), (12, .aload_n 0, 1, 0), (13, .iload_n 1, 1, 0), (14, .iload_n 2, 1, 0), (15, .invokevirtual 129, 3, 0), (18, .iload 4, 2, 0), (20, .bipush 8, 2, 0), (22, .irem, 1, 0), (23, .iadd, 1, 0), (24, .istore 5, 2, 0), (26, .aload_n 0, 1, 0), (27, .iload_n 1, 1, 0), (28, .iload_n 2, 1, 0), (29, .invokevirtual 132, 3, 0), (32, .iload 4, 2, 0), (34, .bipush 8, 2, 0), (36, .idiv, 1, 0), (37, .iadd, 1, 0), (38, .istore 6, 2, 0), (40, .iload 4, 2, 0), (42, .bipush 8, 2, 0), (44, .irem, 1, 0), (45, .aload_n 0, 1, 0), (46, .getfield 101, 3, 0), (49, .if_icmp .ge 46, 3, 95), (52, .iload 4, 2, 0), (54, .bipush 8, 2, 0), (56, .idiv, 1, 0), (57, .aload_n 0, 1, 0), (58, .getfield 104, 3, 0), (61, .if_icmp .ge 34, 3, 95), (64, .aload_n 0, 1, 0), (65, .iload 5, 2, 0), (67, .iload 6, 2, 0), (69, .invokevirtual 144, 3, 0), (72, .ifCond .eq 23, 3, 95), (75, .aload_n 0, 1, 0), (76, .getfield 7, 3, 0), (79, .bipush 32, 2, 0), (81, .iload 6, 2, 0), (83, .imul, 1, 0), (84, .iload 5, 2, 0), (86, .iadd, 1, 0), (87, .baload, 1, 0), (88, .ifCond .eq 7, 3, 95), (91, .iconst 1, 1, 0), (92, .goto 4, 3, 96), (95, .iconst 0, 1, 0), (96, .istore 7, 2, 0), (98, .iload_n 3, 1, 0), (99, .iload 7, 2, 0), (101, .ifCond .eq 7, 3, 108), (104, .iconst 1, 1, 0), (105, .goto 4, 3, 109), (108, .iconst 0, 1, 0), (109, .iadd, 1, 0), (110, .istore_n 3, 1, 0), (111, .iinc 4 1, 3, 0), (114, .goto (-109), 3, 5), (117, .iload_n 3, 1, 0), (118, .ireturn, 1, 0)], F_M)
set_option maxRecDepth 40000 in
theorem ok_M_countAt : okM m_M_countAt := ⟨by decide +kernel, okF_M, gw_in (List.mem_of_getElem? (i := 1117) rfl) rfl, by decide +kernel⟩
def m_M_count : Mt := (⟨"HalftoneRegionsModel", "count", "(II)I"⟩, prog_11_method_31_code, 3, (some .int), [(0, .aload_n 0, 1, 0), (1, .aload_n 0, 1, 0), (2, .iload_n 1, 1, 0), (3, .iload_n 2, 1, 0), (4, .invokevirtual 141, 3, 0), (7, .ifCond .eq 7, 3, 14), (10, .iconst 0, 1, 0), (11, .goto 4, 3, 15), (14, .iconst 1, 1, 0), (15, .putfield 55, 3, 0), (18, .aload_n 0, 1, 0), (19, .getfield 55, 3, 0), (22, .ifCond .le 7, 3, 29), (25, .iconst 0, 1, 0), (26, .goto 9, 3, 35), (29, .aload_n 0, 1, 0), (30, .iload_n 1, 1, 0), (31, .iload_n 2, 1, 0), (32, .invokevirtual 147, 3, 0), (35, .ireturn, 1, 0)], F_M)
set_option maxRecDepth 40000 in
theorem ok_M_count : okM m_M_count := ⟨by decide +kernel, okF_M, gw_in (List.mem_of_getElem? (i := 1113) rfl) rfl, by decide +kernel⟩
def m_M_nearest : Mt := (⟨"HalftoneRegionsModel", "nearest", "(I)I"⟩, prog_11_method_32_code, 6, (some .int), [(0, .iconst 0, 1, 0), (1, .istore_n 2, 1, 0), (2, .iconst 1, 1, 0), (3, .istore_n 3, 1, 0), (4, .iload_n 3, 1, 0), (5, .aload_n 0, 1, 0), (6, .getfield 107, 3, 0), (9, .if_icmp .ge 98, 3, 107), (12, .aload_n 0, 1, 0), (13, .iload_n 2, 1, 0), (14, .invokevirtual 150, 3, 0), (17, .iload_n 1, 1, 0), (18, .if_icmp .ge 13, 3, 31), (21, .iload_n 1, 1, 0), (22, .aload_n 0, 1, 0), (23, .iload_n 2, 1, 0), (24, .invokevirtual 150, 3, 0), (27, .isub, 1, 0), (28, .goto 10, 3, 38), (31, .aload_n 0, 1, 0), (32, .iload_n 2, 1, 0), (33, .invokevirtual 150, 3, 0), (36, .iload_n 1, 1, 0), (37, .isub, 1, 0), (38, .istore 4, 2, 0), (40, .aload_n 0, 1, 0), (41, .iload_n 3, 1, 0), (42, .invokevirtual 150, 3, 0), (45, .iload_n 1, 1, 0), (46, .if_icmp .ge 13, 3, 59), (49, .iload_n 1, 1, 0), (50, .aload_n 0, 1, 0), (51, .iload_n 3, 1, 0), (52, .invokevirtual 150, 3, 0), (55, .isub, 1, 0), (56, .goto 10, 3, 66), (59, .aload_n 0, 1, 0), (60, .iload_n 3, 1, 0), (61, .invokevirtual 150, 3, 0), (64, .iload_n 1, 1, 0), (65, .isub, 1, 0), (66, .istore 5, 2, 0), (68, .iload 5, 2, 0), (70, .iload 4, 2, 0), (72, .if_icmp .lt 23, 3, 95), (75, .iload 5, 2, 0), (77, .iload 4, 2, 0), (79, .if_icmp .ne 20, 3, 99), (82, .aload_n 0, 1, 0), (83, .iload_n 3, 1, 0), (84, .invokevirtual 150, 3, 0), (87, .aload_n 0, 1, 0), (88, .iload_n 2, 1, 0), (89, .invokevirtual 150, 3, 0), (92, .if_icmp .ge 7, 3, 99), (95, .iload_n 3, 1, 0), (96, .goto 4, 3, 100), (99, .iload_n 2, 1, 0), (100, .istore_n 2, 1, 0), (101, .iinc 3 1, 3, 0), (104, .goto (-100), 3, 4), (107, .iload_n 2, 1, 0), (108, .ireturn, 1, 0)], F_M)
set_option maxRecDepth 40000 in
theorem ok_M_nearest : okM m_M_nearest := ⟨by decide +kernel, okF_M, gw_in (List.mem_of_getElem? (i := 1129) rfl) rfl, by decide +kernel⟩
def m_M_shade : Mt := (⟨"HalftoneRegionsModel", "shade", "()I"⟩, prog_11_method_33_code, 5, (some .int), [(0, .aload_n 0, 1, 0), (1, .iconst 0, 1, 0), (2, .putfield 55, 3, 0), (5, .iconst 0, 1, 0), (6, .istore_n 1, 1, 0), (7, .iconst 0, 1, 0), (8, .istore_n 2, 1, 0), (9, .iload_n 2, 1, 0), (10, .aload_n 0, 1, 0), (11, .getfield 65, 3, 0), (14, .if_icmp .ge 74, 3, 88), (17, .iconst 0, 1, 0), (18, .istore_n 3, 1, 0), (19, .iload_n 3, 1, 0), (20, .aload_n 0, 1, 0), (21, .getfield 62, 3, 0), (24, .if_icmp .ge 58, 3, 82), (27, .aload_n 0, 1, 0), (28, .aload_n 0, 1, 0), (29, .iload_n 3, 1, 0), (30, .iload_n 2, 1, 0), (31, .invokevirtual 147, 3, 0), (34, .invokevirtual 153, 3, 0), (37, .istore 4, 2, 0), (39, .iload_n 1, 1, 0), (40, .aload_n 0, 1, 0), (41, .getfield 19, 3, 0), (44, .bipush 16, 2, 0), (46, .iload_n 2, 1, 0), (47, .imul, 1, 0), (48, .iload_n 3, 1, 0), (49, .iadd, 1, 0), (50, .iaload, 1, 0), (51, .iload 4, 2, 0), (53, .if_icmp .eq 7, 3, 60), (56, .iconst 1, 1, 0), (57, .goto 4, 3, 61), (60, .iconst 0, 1, 0), (61, .iadd, 1, 0), (62, .istore_n 1, 1, 0), (63, .aload_n 0, 1, 0), (64, .getfield 19, 3, 0), (67, .bipush 16, 2, 0), (69, .iload_n 2, 1, 0), (70, .imul, 1, 0), (71, .iload_n 3, 1, 0), (72, .iadd, 1, 0), (73, .iload 4, 2, 0), (75, .iastore, 1, 0), (76, .iinc 3 1, 3, 0), (79, .goto (-60), 3, 19), (82, .iinc 2 1, 3, 0), (85, .goto (-76), 3, 9), (88, .iload_n 1, 1, 0), (89, .ireturn, 1, 0)], F_M)
set_option maxRecDepth 40000 in
theorem ok_M_shade : okM m_M_shade := ⟨by decide +kernel, okF_M, gw_in (List.mem_of_getElem? (i := 1125) rfl) rfl, by decide +kernel⟩
def m_M_both : Mt := (⟨"HalftoneRegionsModel", "both", "(ZZ)Z"⟩, prog_11_method_34_code, 3, (some .boolean), [(0, .aload_n 0, 1, 0), (1, .getfield 80, 3, 0), (4, .tableswitch 82 0 3 #[32, 46, 60, 71], 32, 0), (36, .iload_n 1, 1, 0), (37, .ifCond .ne 7, 3, 44), (40, .iload_n 2, 1, 0), (41, .ifCond .eq 7, 3, 48), (44, .iconst 1, 1, 0), (45, .goto 4, 3, 49), (48, .iconst 0, 1, 0), (49, .ireturn, 1, 0), (50, .iload_n 1, 1, 0), (51, .ifCond .eq 11, 3, 62), (54, .iload_n 2, 1, 0), (55, .ifCond .eq 7, 3, 62), (58, .iconst 1, 1, 0), (59, .goto 4, 3, 63), (62, .iconst 0, 1, 0), (63, .ireturn, 1, 0), (64, .iload_n 1, 1, 0), (65, .iload_n 2, 1, 0), (66, .if_icmp .eq 7, 3, 73), (69, .iconst 1, 1, 0), (70, .goto 4, 3, 74), (73, .iconst 0, 1, 0), (74, .ireturn, 1, 0), (75, .iload_n 1, 1, 0), (76, .iload_n 2, 1, 0), (77, .if_icmp .ne 7, 3, 84), (80, .iconst 1, 1, 0), (81, .goto 4, 3, 85), (84, .iconst 0, 1, 0), (85, .ireturn, 1, 0), (86, .iload_n 2, 1, 0), (87, .ireturn, 1, 0)], F_M)
set_option maxRecDepth 40000 in
theorem ok_M_both : okM m_M_both := ⟨by decide +kernel, okF_M, gw_in (List.mem_of_getElem? (i := 1145) rfl) rfl, by decide +kernel⟩
def m_M_layPattern : Mt := (⟨"HalftoneRegionsModel", "layPattern", "(II)V"⟩, prog_11_method_35_code, 8, none, [(0, .aload_n 0, 1, 0), (1, .getfield 19, 3, 0), (4, .bipush 16, 2, 0), (6, .iload_n 2, 1, 0), (7, .imul, 1, 0), (8, .iload_n 1, 1, 0), (9, .iadd, 1, 0), (10, .iaload, 1, 0), (11, .istore_n 3, 1, 0), (12, .iconst 0, 1, 0), (13, .istore 4, 2, 0), (15, .iload 4, 2, 0), (17, .aload_n 0, 1, 0), (18, .getfield 104, 3, 0), (21, .if_icmp .ge 108, 3, 129), (24, .iconst 0, 1, 0), (25, .istore 5, 2, 0), (27, .iload 5, 2, 0), (29, .aload_n 0, 1, 0), (30, .getfield 101, 3, 0), (33, .if_icmp .ge 90, 3, 123), (36, .aload_n 0, 1, 0), (37, .iload_n 1, 1, 0), (38, .iload_n 2, 1, 0), (39, .invokevirtual 129, 3, 0), (42, .iload 5, 2, 0), (44, .iadd, 1, 0), (45, .istore 6, 2, 0), (47, .aload_n 0, 1, 0), (48, .iload_n 1, 1, 0), (49, .iload_n 2, 1, 0), (50, .invokevirtual 132, 3, 0), (53, .iload 4, 2, 0), (55, .iadd, 1, 0), (56, .istore 7, 2, 0), (58, .aload_n 0, 1, 0), (59, .iload 6, 2, 0), (61, .iload 7, 2, 0), (63, .invokevirtual 144, 3, 0), (66, .ifCond .eq 51, 3, 117), (69, .aload_n 0, 1, 0), (70, .getfield 13, 3, 0), (73, .bipush 32, 2, 0), (75, .iload 7, 2, 0), (77, .imul, 1, 0), (78, .iload 6, 2, 0), (80, .iadd, 1, 0), (81, .aload_n 0, 1, 0), (82, .aload_n 0, 1, 0), (83, .getfield 13, 3, 0), (86, .bipush 32, 2, 0), (88, .iload 7, 2, 0), (90, .imul, 1, 0), (91, .iload 6, 2, 0), (93, .iadd, 1, 0), (94, .baload, 1, 0), (95, .aload_n 0, 1, 0), (96, .getfield 16, 3, 0), (99, .bipush 64, 2, 0), (101, .iload_n 3, 1, 0), (102, .imul, 1, 0), (103, .bipush 8, 2, 0), (105, .iload 4, 2, 0), (107, .imul, 1, 0), (108, .iadd, 1, 0), (109, .iload 5, 2, 0), (111, .iadd, 1, 0), (112, .baload, 1, 0), (113, .invokevirtual 156, 3, 0), (116, .bastore, 1, 0), (117, .iinc 5 1, 3, 0), (120, .goto (-93), 3, 27), (123, .iinc 4 1, 3, 0), (126, .goto (-111), 3, 15), (129, .return_, 1, 0)], F_M)
set_option maxRecDepth 40000 in
theorem ok_M_layPattern : okM m_M_layPattern := ⟨by decide +kernel, okF_M, gw_in (List.mem_of_getElem? (i := 1141) rfl) rfl, by decide +kernel⟩
def m_M_compose : Mt := (⟨"HalftoneRegionsModel", "compose", "()I"⟩, prog_11_method_36_code, 3, (some .int), [(0, .aload_n 0, 1, 0), (1, .iconst 0, 1, 0), (2, .putfield 55, 3, 0), (5, .iconst 0, 1, 0), (6, .istore_n 1, 1, 0), (7, .iload_n 1, 1, 0), (8, .sipush 1024, 3, 0), (11, .if_icmp .ge 50, 3, 61), (14, .aload_n 0, 1, 0), (15, .getfield 13, 3, 0), (18, .iload_n 1, 1, 0), (19, .aload_n 0, 1, 0), (20, .getfield 83, 3, 0), (23, .iconst 1, 1, 0), (24, .if_icmp .ne 29, 3, 53), (27, .iload_n 1, 1, 0), (28, .bipush 32, 2, 0), (30, .irem, 1, 0), (31, .aload_n 0, 1, 0), (32, .getfield 45, 3, 0), (35, .if_icmp .ge 18, 3, 53), (38, .iload_n 1, 1, 0), (39, .bipush 32, 2, 0), (41, .idiv, 1, 0), (42, .aload_n 0, 1, 0), (43, .getfield 49, 3, 0), (46, .if_icmp .ge 7, 3, 53), (49, .iconst 1, 1, 0), (50, .goto 4, 3, 54), (53, .iconst 0, 1, 0), (54, .bastore, 1, 0), (55, .iinc 1 1, 3, 0), (58, .goto (-51), 3, 7), (61, .iconst 0, 1, 0), (62, .istore_n 1, 1, 0), (63, .iload_n 1, 1, 0), (64, .aload_n 0, 1, 0), (65, .getfield 65, 3, 0), (68, .if_icmp .ge 31, 3, 99), (71, .iconst 0, 1, 0), (72, .istore_n 2, 1, 0), (73, .iload_n 2, 1, 0), (74, .aload_n 0, 1, 0), (75, .getfield 62, 3, 0), (78, .if_icmp .ge 15, 3, 93), (81, .aload_n 0, 1, 0), (82, .iload_n 2, 1, 0), (83, .iload_n 1, 1, 0), (84, .invokevirtual 160, 3, 0), (87, .iinc 2 1, 3, 0), (90, .goto (-17), 3, 73), (93, .iinc 1 1, 3, 0), (96, .goto (-33), 3, 63), (99, .aload_n 0, 1, 0), (100, .getfield 13, 3, 0), (103, .invokestatic 164, 3, 0), (106, .ireturn, 1, 0)], F_M)
set_option maxRecDepth 40000 in
theorem ok_M_compose : okM m_M_compose := ⟨by decide +kernel, okF_M, gw_in (List.mem_of_getElem? (i := 1137) rfl) rfl, by decide +kernel⟩
def m_M_dark : Mt := (⟨"HalftoneRegionsModel", "dark", "([Z)I"⟩, prog_11_method_37_code, 3, (some .int), [(0, .iconst 0, 1, 0), (1, .istore_n 1, 1, 0), (2, .iconst 0, 1, 0), (3, .istore_n 2, 1, 0), (4, .iload_n 2, 1, 0), (5, .sipush 1024, 3, 0), (8, .if_icmp .ge 23, 3, 31), (11, .iload_n 1, 1, 0), (12, .aload_n 0, 1, 0), (13, .iload_n 2, 1, 0), (14, .baload, 1, 0), (15, .ifCond .eq 7, 3, 22), (18, .iconst 1, 1, 0), (19, .goto 4, 3, 23), (22, .iconst 0, 1, 0), (23, .iadd, 1, 0), (24, .istore_n 1, 1, 0), (25, .iinc 2 1, 3, 0), (28, .goto (-24), 3, 4), (31, .iload_n 1, 1, 0), (32, .ireturn, 1, 0)], F_M)
set_option maxRecDepth 40000 in
theorem ok_M_dark : okM m_M_dark := ⟨by decide +kernel, okF_M, gw_in (List.mem_of_getElem? (i := 1148) rfl) rfl, by decide +kernel⟩
def m_M_at : Mt := (⟨"HalftoneRegionsModel", "at", "(II)Z"⟩, prog_11_method_38_code, 3, (some .boolean), [(0, .aload_n 0, 1, 0), (1, .aload_n 0, 1, 0), (2, .iload_n 1, 1, 0), (3, .iload_n 2, 1, 0), (4, .invokevirtual 144, 3, 0), (7, .ifCond .eq 7, 3, 14), (10, .iconst 0, 1, 0), (11, .goto 4, 3, 15), (14, .iconst 1, 1, 0), (15, .putfield 55, 3, 0), (18, .aload_n 0, 1, 0), (19, .getfield 55, 3, 0), (22, .ifCond .ne 21, 3, 43), (25, .aload_n 0, 1, 0), (26, .getfield 13, 3, 0), (29, .bipush 32, 2, 0), (31, .iload_n 2, 1, 0), (32, .imul, 1, 0), (33, .iload_n 1, 1, 0), (34, .iadd, 1, 0), (35, .baload, 1, 0), (36, .ifCond .eq 7, 3, 43), (39, .iconst 1, 1, 0), (40, .goto 4, 3, 44), (43, .iconst 0, 1, 0), (44, .ireturn, 1, 0)], F_M)
set_option maxRecDepth 40000 in
theorem ok_M_at : okM m_M_at := ⟨by decide +kernel, okF_M, gw_in (List.mem_of_getElem? (i := 1152) rfl) rfl, by decide +kernel⟩
def m_M_newPlane : Mt := (⟨"HalftoneRegionsModel", "newPlane", "()V"⟩, prog_11_method_39_code, 2, none, [(0, .iconst 0, 1, 0), (1, .istore_n 1, 1, 0), (2, .iload_n 1, 1, 0), (3, .bipush 64, 2, 0), (5, .if_icmp .ge 23, 3, 28), (8, .aload_n 0, 1, 0), (9, .getfield 30, 3, 0), (12, .iload_n 1, 1, 0), (13, .iconst (-1), 1, 0), (14, .iastore, 1, 0), (15, .aload_n 0, 1, 0), (16, .getfield 33, 3, 0), (19, .iload_n 1, 1, 0), (20, .iconst 0, 1, 0), (21, .iastore, 1, 0), (22, .iinc 1 1, 3, 0), (25, .goto (-23), 3, 2), (28, .return_, 1, 0)], F_M)
set_option maxRecDepth 40000 in
theorem ok_M_newPlane : okM m_M_newPlane := ⟨by decide +kernel, okF_M, gw_in (List.mem_of_getElem? (i := 902) rfl) rfl, by decide +kernel⟩
def m_M_nextPlane : Mt := (⟨"HalftoneRegionsModel", "nextPlane", "()V"⟩, prog_11_method_40_code, 2, none, [(0, .iconst 0, 1, 0), (1, .istore_n 1, 1, 0), (2, .iload_n 1, 1, 0), (3, .sipush 256, 3, 0), (6, .if_icmp .ge 28, 3, 34), (9, .aload_n 0, 1, 0), (10, .getfield 39, 3, 0), (13, .iload_n 1, 1, 0), (14, .aload_n 0, 1, 0), (15, .getfield 36, 3, 0), (18, .iload_n 1, 1, 0), (19, .baload, 1, 0), (20, .bastore, 1, 0), (21, .aload_n 0, 1, 0), (22, .getfield 36, 3, 0), (25, .iload_n 1, 1, 0), (26, .iconst 0, 1, 0), (27, .bastore, 1, 0), (28, .iinc 1 1, 3, 0), (31, .goto (-29), 3, 2), (34, .aload_n 0, 1, 0), (35, .invokevirtual 98, 3, 0), (38, .return_, 1, 0)], F_M)
set_option maxRecDepth 40000 in
theorem ok_M_nextPlane : okM m_M_nextPlane := ⟨by decide +kernel, okF_M, gw_in (List.mem_of_getElem? (i := 1164) rfl) rfl, by decide +kernel⟩
def m_M_toldAt : Mt := (⟨"HalftoneRegionsModel", "toldAt", "(II)I"⟩, prog_11_method_41_code, 3, (some .int), [(0, .aload_n 0, 1, 0), (1, .iload_n 1, 1, 0), (2, .iload_n 2, 1, 0), (3, .invokevirtual 141, 3, 0), (6, .ifCond .eq 21, 3, 27), (9, .aload_n 0, 1, 0), (10, .getfield 36, 3, 0), (13, .bipush 16, 2, 0), (15, .iload_n 2, 1, 0), (16, .imul, 1, 0), (17, .iload_n 1, 1, 0), (18, .iadd, 1, 0), (19, .baload, 1, 0), (20, .ifCond .eq 7, 3, 27), (23, .iconst 1, 1, 0), (24, .goto 4, 3, 28), (27, .iconst 0, 1, 0), (28, .ireturn, 1, 0)], F_M)
set_option maxRecDepth 40000 in
theorem ok_M_toldAt : okM m_M_toldAt := ⟨by decide +kernel, okF_M, gw_in (List.mem_of_getElem? (i := 1176) rfl) rfl, by decide +kernel⟩
def m_M_contextOf : Mt := (⟨"HalftoneRegionsModel", "contextOf", "(II)I"⟩, prog_11_method_42_code, 4, (some .int), [(0, .bipush 32, 2, 0), (2, .aload_n 0, 1, 0), (3, .iload_n 1, 1, 0), (4, .iconst 1, 1, 0), (5, .isub, 1, 0), (6, .iload_n 2, 1, 0), (7, .invokevirtual 168, 3, 0), (10, .imul, 1, 0), (11, .bipush 16, 2, 0), (13, .aload_n 0, 1, 0), (14, .iload_n 1, 1, 0), (15, .iconst 2, 1, 0), (16, .isub, 1, 0), (17, .iload_n 2, 1, 0), (18, .invokevirtual 168, 3, 0), (21, .imul, 1, 0), (22, .iadd, 1, 0), (23, .bipush 8, 2, 0), (25, .aload_n 0, 1, 0), (26, .iload_n 1, 1, 0), (27, .iconst 1, 1, 0), (28, .isub, 1, 0), (29, .iload_n 2, 1, 0), (30, .iconst 1, 1, 0), (31, .isub, 1, 0), (32, .invokevirtual 168, 3, 0), (35, .imul, 1, 0), (36, .iadd, 1, 0), (37, .iconst 4, 1, 0), (38, .aload_n 0, 1, 0), (39, .iload_n 1, 1, 0), (40, .iload_n 2, 1, 0), (41, .iconst 1, 1, 0), (42, .isub, 1, 0), (43, .invokevirtual 168, 3, 0), (46, .imul, 1, 0), (47, .iadd, 1, 0), (48, .iconst 2, 1, 0), (49, .aload_n 0, 1, 0), (50, .iload_n 1, 1, 0), (51, .iconst 1, 1, 0), (52, .iadd, 1, 0), (53, .iload_n 2, 1, 0), (54, .iconst 1, 1, 0), (55, .isub, 1, 0), (56, .invokevirtual 168, 3, 0), (59, .imul, 1, 0), (60, .iadd, 1, 0), (61, .istore_n 3, 1, 0), (62, .iload_n 3, 1, 0), (63, .aload_n 0, 1, 0), (64, .getfield 39, 3, 0), (67, .bipush 16, 2, 0), (69, .iload_n 2, 1, 0), (70, .imul, 1, 0), (71, .iload_n 1, 1, 0), (72, .iadd, 1, 0), (73, .baload, 1, 0), (74, .ifCond .eq 7, 3, 81), (77, .iconst 1, 1, 0), (78, .goto 4, 3, 82), (81, .iconst 0, 1, 0), (82, .iadd, 1, 0), (83, .ireturn, 1, 0)], F_M)
set_option maxRecDepth 40000 in
theorem ok_M_contextOf : okM m_M_contextOf := ⟨by decide +kernel, okF_M, gw_in (List.mem_of_getElem? (i := 1172) rfl) rfl, by decide +kernel⟩
def m_M_learn : Mt := (⟨"HalftoneRegionsModel", "learn", "(IZ)V"⟩, prog_11_method_43_code, 4, none, [(0, .aload_n 0, 1, 0), (1, .getfield 33, 3, 0), (4, .iload_n 1, 1, 0), (5, .dup2, 1, 0), (6, .iaload, 1, 0), (7, .iconst 1, 1, 0), (8, .iadd, 1, 0), (9, .iastore, 1, 0), (10, .aload_n 0, 1, 0), (11, .getfield 30, 3, 0), (14, .iload_n 1, 1, 0), (15, .iaload, 1, 0), (16, .istore_n 3, 1, 0), (17, .iload_n 2, 1, 0), (18, .ifCond .eq 19, 3, 37), (21, .iload_n 3, 1, 0), (22, .ifCond .ge 9, 3, 31), (25, .iload_n 3, 1, 0), (26, .iconst 2, 1, 0), (27, .iadd, 1, 0), (28, .goto 22, 3, 50), (31, .iload_n 3, 1, 0), (32, .iconst 1, 1, 0), (33, .iadd, 1, 0), (34, .goto 16, 3, 50), (37, .iload_n 3, 1, 0), (38, .ifCond .ge 9, 3, 47), (41, .iload_n 3, 1, 0), (42, .iconst 1, 1, 0), (43, .isub, 1, 0), (44, .goto 6, 3, 50), (47, .iload_n 3, 1, 0), (48, .iconst 2, 1, 0), (49, .isub, 1, 0), (50, .istore_n 3, 1, 0), (51, .aload_n 0, 1, 0), (52, .getfield 30, 3, 0), (55, .iload_n 1, 1, 0), (56, .iload_n 3, 1, 0), (57, .bipush 7, 2, 0), (59, .if_icmp .le 8, 3, 67), (62, .bipush 7, 2, 0), (64, .goto 15, 3, 79), (67, .iload_n 3, 1, 0), (68, .bipush (-8), 2, 0), (70, .if_icmp .ge 8, 3, 78), (73, .bipush (-8), 2, 0), (75, .goto 4, 3, 79), (78, .iload_n 3, 1, 0), (79, .iastore, 1, 0), (80, .return_, 1, 0)], F_M)
set_option maxRecDepth 40000 in
theorem ok_M_learn : okM m_M_learn := ⟨by decide +kernel, okF_M, gw_in (List.mem_of_getElem? (i := 1196) rfl) rfl, by decide +kernel⟩
def m_M_beginRuns : Mt := (⟨"HalftoneRegionsModel", "beginRuns", "()V"⟩, prog_11_method_44_code, 2, none, [(0, .aload_n 0, 1, 0), (1, .iconst 4, 1, 0), (2, .putfield 171, 3, 0), (5, .aload_n 0, 1, 0), (6, .iconst 1, 1, 0), (7, .putfield 174, 3, 0), (10, .aload_n 0, 1, 0), (11, .iconst 0, 1, 0), (12, .putfield 95, 3, 0), (15, .iconst 0, 1, 0), (16, .istore_n 1, 1, 0), (17, .iload_n 1, 1, 0), (18, .sipush 256, 3, 0), (21, .if_icmp .ge 23, 3, 44), (24, .aload_n 0, 1, 0), (25, .getfield 36, 3, 0), (28, .iload_n 1, 1, 0), (29, .iconst 0, 1, 0), (30, .bastore, 1, 0), (31, .aload_n 0, 1, 0), (32, .getfield 39, 3, 0), (35, .iload_n 1, 1, 0), (36, .iconst 0, 1, 0), (37, .bastore, 1, 0), (38, .iinc 1 1, 3, 0), (41, .goto (-24), 3, 17), (44, .aload_n 0, 1, 0), (45, .invokevirtual 98, 3, 0), (48, .return_, 1, 0)], F_M)
set_option maxRecDepth 40000 in
theorem ok_M_beginRuns : okM m_M_beginRuns := ⟨by decide +kernel, okF_M, gw_in (List.mem_of_getElem? (i := 1160) rfl) rfl, by decide +kernel⟩
def m_M_small : Mt := (⟨"HalftoneRegionsModel", "small", "()I"⟩, prog_11_method_45_code, 2, (some .int), [(0, .iconst 0, 1, 0), (1, .istore_n 1, 1, 0), (2, .iload_n 1, 1, 0), (3, .bipush 8, 2, 0), (5, .if_icmp .ge 22, 3, 27), (8, .aload_n 0, 1, 0), (9, .getfield 174, 3, 0), (12, .iload_n 1, 1, 0), (13, .ishl, 1, 0), (14, .aload_n 0, 1, 0), (15, .getfield 171, 3, 0), (18, .if_icmp .ge 9, 3, 27), (21, .iinc 1 1, 3, 0), (24, .goto (-22), 3, 2), (27, .iload_n 1, 1, 0), (28, .ireturn, 1, 0)], F_M)
set_option maxRecDepth 40000 in
theorem ok_M_small : okM m_M_small := ⟨by decide +kernel, okF_M, gw_in (List.mem_of_getElem? (i := 1184) rfl) rfl, by decide +kernel⟩
def m_M_keepRun : Mt := (⟨"HalftoneRegionsModel", "keepRun", "(I)V"⟩, prog_11_method_46_code, 2, none, [(0, .aload_n 0, 1, 0), (1, .dup, 1, 0), (2, .getfield 171, 3, 0), (5, .iload_n 1, 1, 0), (6, .iadd, 1, 0), (7, .putfield 171, 3, 0), (10, .aload_n 0, 1, 0), (11, .dup, 1, 0), (12, .getfield 174, 3, 0), (15, .iconst 1, 1, 0), (16, .iadd, 1, 0), (17, .putfield 174, 3, 0), (20, .aload_n 0, 1, 0), (21, .getfield 174, 3, 0), (24, .bipush 32, 2, 0), (26, .if_icmp .ne 19, 3, 45), (29, .aload_n 0, 1, 0), (30, .aload_n 0, 1, 0), (31, .getfield 171, 3, 0), (34, .iconst 2, 1, 0), (35, .idiv, 1, 0), (36, .putfield 171, 3, 0), (39, .aload_n 0, 1, 0), (40, .bipush 16, 2, 0), (42, .putfield 174, 3, 0), (45, .return_, 1, 0)], F_M)
set_option maxRecDepth 40000 in
theorem ok_M_keepRun : okM m_M_keepRun := ⟨by decide +kernel, okF_M, gw_in (List.mem_of_getElem? (i := 1192) rfl) rfl, by decide +kernel⟩
def m_M_write : Mt := (⟨"HalftoneRegionsModel", "write", "(II)V"⟩, prog_11_method_47_code, 4, none, [(0, .iload_n 2, 1, 0), (1, .iconst 1, 1, 0), (2, .isub, 1, 0), (3, .istore_n 3, 1, 0), (4, .iload_n 3, 1, 0), (5, .ifCond .lt 42, 3, 47), (8, .aload_n 0, 1, 0), (9, .getfield 24, 3, 0), (12, .aload_n 0, 1, 0), (13, .getfield 177, 3, 0), (16, .iload_n 1, 1, 0), (17, .iload_n 3, 1, 0), (18, .ishr, 1, 0), (19, .iconst 1, 1, 0), (20, .iand, 1, 0), (21, .iconst 1, 1, 0), (22, .if_icmp .ne 7, 3, 29), (25, .iconst 1, 1, 0), (26, .goto 4, 3, 30), (29, .iconst 0, 1, 0), (30, .bastore, 1, 0), (31, .aload_n 0, 1, 0), (32, .dup, 1, 0), (33, .getfield 177, 3, 0), (36, .iconst 1, 1, 0), (37, .iadd, 1, 0), (38, .putfield 177, 3, 0), (41, .iinc 3 (-1), 3, 0), (44, .goto (-40), 3, 4), (47, .return_, 1, 0)], F_M)
set_option maxRecDepth 40000 in
theorem ok_M_write : okM m_M_write := ⟨by decide +kernel, okF_M, gw_in (List.mem_of_getElem? (i := 1188) rfl) rfl, by decide +kernel⟩
def m_M_writeRun : Mt := (⟨"HalftoneRegionsModel", "writeRun", "(I)V"⟩, prog_11_method_48_code, 4, none, [(0, .aload_n 0, 1, 0), (1, .invokevirtual 180, 3, 0), (4, .istore_n 2, 1, 0), (5, .iload_n 1, 1, 0), (6, .iload_n 2, 1, 0), (7, .ishr, 1, 0), (8, .bipush 12, 2, 0), (10, .if_icmp .ge 39, 3, 49), (13, .iconst 0, 1, 0), (14, .istore_n 3, 1, 0), (15, .iload_n 3, 1, 0), (16, .iload_n 1, 1, 0), (17, .iload_n 2, 1, 0), (18, .ishr, 1, 0), (19, .if_icmp .ge 15, 3, 34), (22, .aload_n 0, 1, 0), (23, .iconst 1, 1, 0), (24, .iconst 1, 1, 0), (25, .invokevirtual 183, 3, 0), (28, .iinc 3 1, 3, 0), (31, .goto (-16), 3, 15), (34, .aload_n 0, 1, 0), (35, .iconst 0, 1, 0), (36, .iconst 1, 1, 0), (37, .invokevirtual 183, 3, 0), (40, .aload_n 0, 1, 0), (41, .iload_n 1, 1, 0), (42, .iload_n 2, 1, 0), (43, .invokevirtual 183, 3, 0), (46, .goto 19, 3, 65), (49, .aload_n 0, 1, 0), (50, .sipush 4095, 3, 0), (53, .bipush 12, 2, 0), (55, .invokevirtual 183, 3, 0), (58, .aload_n 0, 1, 0), (59, .iload_n 1, 1, 0), (60, .bipush 13, 2, 0), (62, .invokevirtual 183, 3, 0), (65, .aload_n 0, 1, 0), (66, .dup, 1, 0), (67, .getfield 95, 3, 0), (70, .iconst 1, 1, 0), (71, .iadd, 1, 0), (72, .putfield 95, 3, 0), (75, .aload_n 0, 1, 0), (76, .iload_n 1, 1, 0), (77, .invokevirtual 186, 3, 0), (80, .return_, 1, 0)], F_M)
set_option maxRecDepth 40000 in
theorem ok_M_writeRun : okM m_M_writeRun := ⟨by decide +kernel, okF_M, gw_in (List.mem_of_getElem? (i := 1180) rfl) rfl, by decide +kernel⟩
def m_M_encode : Mt := (⟨"HalftoneRegionsModel", "encode", "()I"⟩, prog_11_method_49_code, 8, (some .int), [(0, .aload_n 0, 1, 0), (1, .iconst 0, 1, 0), (2, .putfield 55, 3, 0), (5, .aload_n 0, 1, 0), (6, .iconst 0, 1, 0), (7, .putfield 177, 3, 0), (10, .aload_n 0, 1, 0), (11, .invokevirtual 190, 3, 0), (14, .iconst 0, 1, 0), (15, .istore_n 1, 1, 0), (16, .aload_n 0, 1, 0), (17, .invokevirtual 114, 3, 0), (20, .iconst 1, 1, 0), (21, .isub, 1, 0), (22, .istore_n 2, 1, 0), (23, .iload_n 2, 1, 0), (24, .ifCond .lt 153, 3, 177), (27, .aload_n 0, 1, 0), (28, .invokevirtual 193, 3, 0), (31, .iconst 0, 1, 0), (32, .istore_n 3, 1, 0), (33, .iload_n 3, 1, 0), (34, .sipush 256, 3, 0), (37, .if_icmp .ge 134, 3, 171), (40, .iload_n 3, 1, 0), (41, .bipush 16, 2, 0), (43, .irem, 1, 0), (44, .istore 4, 2, 0), (46, .iload_n 3, 1, 0), (47, .bipush 16, 2, 0), (49, .idiv, 1, 0), (50, .istore 5, 2, 0), (52, .aload_n 0, 1, 0), (53, .iload 4, 2, 0), (55, .iload 5, 2, 0), (57, .invokevirtual 141, 3, 0), (60, .ifCond .eq 105, 3, 165), (63, .aload_n 0, 1, 0), (64, .iload 4, 2, 0), (66, .iload 5, 2, 0), (68, .invokevirtual 196, 3, 0), (71, .ifCond .ne 94, 3, 165), (74, .aload_n 0, 1, 0), (75, .getfield 19, 3, 0), (78, .iload_n 3, 1, 0), (79, .iaload, 1, 0), (80, .iload_n 2, 1, 0), (81, .ishr, 1, 0), (82, .iconst 1, 1, 0), (83, .iand, 1, 0), (84, .aload_n 0, 1, 0), (85, .getfield 19, 3, 0), (88, .iload_n 3, 1, 0), (89, .iaload, 1, 0), (90, .iload_n 2, 1, 0), (91, .iconst 1, 1, 0), (92, .iadd, 1, 0), (93, .ishr, 1, 0), (94, .iconst 1, 1, 0), (95, .iand, 1, 0), (96, .if_icmp .eq 7, 3, 103), (99, .iconst 1, 1, 0), (100, .goto 4, 3, 104), (103, .iconst 0, 1, 0), (104, .istore 6, 2, 0), (106, .aload_n 0, 1, 0), (107, .iload 4, 2, 0), (109, .iload 5, 2, 0), (111, .invokevirtual 199, 3, 0), (114, .istore 7, 2, 0), (116, .iload 6, 2, 0), (118, .aload_n 0, 1, 0), (119, .getfield 30, 3, 0), (122, .iload 7, 2, 0), (124, .iaload, 1, 0), (125, .ifCond .lt 7, 3, 132), (128, .iconst 1, 1, 0), (129, .goto 4, 3, 133), (132, .iconst 0, 1, 0), (133, .if_icmp .ne 9, 3, 142), (136, .iinc 1 1, 3, 0), (139, .goto 10, 3, 149), (142, .aload_n 0, 1, 0), (143, .iload_n 1, 1, 0), (144, .invokevirtual 202, 3, 0), (147, .iconst 0, 1, 0), (148, .istore_n 1, 1, 0), (149, .aload_n 0, 1, 0), (150, .getfield 36, 3, 0), (153, .iload_n 3, 1, 0), (154, .iload 6, 2, 0), (156, .bastore, 1, 0), (157, .aload_n 0, 1, 0), (158, .iload 7, 2, 0), (160, .iload 6, 2, 0), (162, .invokevirtual 205, 3, 0), (165, .iinc 3 1, 3, 0), (168, .goto (-135), 3, 33), (171, .iinc 2 (-1), 3, 0), (174, .goto (-151), 3, 23), (177, .aload_n 0, 1, 0), (178, .iload_n 1, 1, 0), (179, .invokevirtual 202, 3, 0), (182, .aload_n 0, 1, 0), (183, .aload_n 0, 1, 0), (184, .getfield 177, 3, 0), (187, .bipush 7, 2, 0), (189, .iadd, 1, 0), (190, .bipush 8, 2, 0), (192, .idiv, 1, 0), (193, .putfield 89, 3, 0), (196, .aload_n 0, 1, 0), (197, .getfield 89, 3, 0), (200, .ireturn, 1, 0)], F_M)
set_option maxRecDepth 40000 in
theorem ok_M_encode : okM m_M_encode := ⟨by decide +kernel, okF_M, gw_in (List.mem_of_getElem? (i := 1156) rfl) rfl, by decide +kernel⟩
def m_M_madeByte : Mt := (⟨"HalftoneRegionsModel", "madeByte", "(I)I"⟩, prog_11_method_50_code, 4, (some .int), [(0, .iconst 0, 1, 0), (1, .istore_n 2, 1, 0), (2, .bipush 8, 2, 0), (4, .iload_n 1, 1, 0), (5, .imul, 1, 0), (6, .istore_n 3, 1, 0), (7, .iload_n 3, 1, 0), (8, .bipush 8, 2, 0), (10, .iload_n 1, 1, 0), (11, .imul, 1, 0), (12, .bipush 8, 2, 0), (14, .iadd, 1, 0), (15, .if_icmp .ge 36, 3, 51), (18, .iconst 2, 1, 0), (19, .iload_n 2, 1, 0), (20, .imul, 1, 0), (21, .iload_n 3, 1, 0), (22, .aload_n 0, 1, 0), (23, .getfield 177, 3, 0), (26, .if_icmp .ge 16, 3, 42), (29, .aload_n 0, 1, 0), (30, .getfield 24, 3, 0), (33, .iload_n 3, 1, 0), (34, .baload, 1, 0), (35, .ifCond .eq 7, 3, 42), (38, .iconst 1, 1, 0), (39, .goto 4, 3, 43), (42, .iconst 0, 1, 0), (43, .iadd, 1, 0), (44, .istore_n 2, 1, 0), (45, .iinc 3 1, 3, 0), (48, .goto (-41), 3, 7), (51, .iload_n 2, 1, 0), (52, .ireturn, 1, 0)], F_M)
set_option maxRecDepth 40000 in
theorem ok_M_madeByte : okM m_M_madeByte := ⟨by decide +kernel, okF_M, gw_in (List.mem_of_getElem? (i := 1204) rfl) rfl, by decide +kernel⟩
def m_M_byteAt : Mt := (⟨"HalftoneRegionsModel", "byteAt", "(I)I"⟩, prog_11_method_51_code, 2, (some .int), [(0, .aload_n 0, 1, 0), (1, .iload_n 1, 1, 0), (2, .iconst 0, 1, 0), (3, .aload_n 0, 1, 0), (4, .getfield 89, 3, 0), (7, .iconst 1, 1, 0), (8, .isub, 1, 0), (9, .invokestatic 110, 3, 0), (12, .ifCond .eq 7, 3, 19), (15, .iconst 0, 1, 0), (16, .goto 4, 3, 20), (19, .iconst 1, 1, 0), (20, .putfield 55, 3, 0), (23, .aload_n 0, 1, 0), (24, .getfield 55, 3, 0), (27, .ifCond .le 7, 3, 34), (30, .iconst 0, 1, 0), (31, .goto 8, 3, 39), (34, .aload_n 0, 1, 0), (35, .iload_n 1, 1, 0), (36, .invokevirtual 209, 3, 0), (39, .ireturn, 1, 0)], F_M)
set_option maxRecDepth 40000 in
theorem ok_M_byteAt : okM m_M_byteAt := ⟨by decide +kernel, okF_M, gw_in (List.mem_of_getElem? (i := 1200) rfl) rfl, by decide +kernel⟩
def m_M_feed : Mt := (⟨"HalftoneRegionsModel", "feed", "(I)I"⟩, prog_11_method_52_code, 2, (some .int), [(0, .aload_n 0, 1, 0), (1, .iload_n 1, 1, 0), (2, .iconst 0, 1, 0), (3, .sipush 255, 3, 0), (6, .invokestatic 110, 3, 0), (9, .ifCond .ne 7, 3, 16), (12, .iconst 1, 1, 0), (13, .goto 18, 3, 31), (16, .aload_n 0, 1, 0), (17, .getfield 92, 3, 0), (20, .sipush 3000, 3, 0), (23, .if_icmp .ne 7, 3, 30), (26, .iconst 2, 1, 0), (27, .goto 4, 3, 31), (30, .iconst 0, 1, 0), (31, .putfield 55, 3, 0), (34, .aload_n 0, 1, 0), (35, .getfield 55, 3, 0), (38, .ifCond .le 5, 3, 43), (41, .iconst 0, 1, 0), (42, .ireturn, 1, 0), (43, .aload_n 0, 1, 0), (44, .getfield 27, 3, 0), (47, .aload_n 0, 1, 0), (48, .getfield 92, 3, 0), (51, .iload_n 1, 1, 0), (52, .iastore, 1, 0), (53, .aload_n 0, 1, 0), (54, .dup, 1, 0), (55, .getfield 92, 3, 0), (58, .iconst 1, 1, 0), (59, .iadd, 1, 0), (60, .putfield 92, 3, 0), (63, .aload_n 0, 1, 0), (64, .getfield 92, 3, 0), (67, .ireturn, 1, 0)], F_M)
set_option maxRecDepth 40000 in
theorem ok_M_feed : okM m_M_feed := ⟨by decide +kernel, okF_M, gw_in (List.mem_of_getElem? (i := 1208) rfl) rfl, by decide +kernel⟩
def m_M_pass : Mt := (⟨"HalftoneRegionsModel", "pass", "()I"⟩, prog_11_method_53_code, 2, (some .int), [(0, .aload_n 0, 1, 0), (1, .aload_n 0, 1, 0), (2, .getfield 92, 3, 0), (5, .aload_n 0, 1, 0), (6, .getfield 89, 3, 0), (9, .iadd, 1, 0), (10, .sipush 3000, 3, 0), (13, .if_icmp .le 7, 3, 20), (16, .iconst 1, 1, 0), (17, .goto 4, 3, 21), (20, .iconst 0, 1, 0), (21, .putfield 55, 3, 0), (24, .aload_n 0, 1, 0), (25, .getfield 55, 3, 0), (28, .ifCond .le 5, 3, 33), (31, .iconst 0, 1, 0), (32, .ireturn, 1, 0), (33, .iconst 0, 1, 0), (34, .istore_n 1, 1, 0), (35, .iload_n 1, 1, 0), (36, .aload_n 0, 1, 0), (37, .getfield 89, 3, 0), (40, .if_icmp .ge 33, 3, 73), (43, .aload_n 0, 1, 0), (44, .getfield 27, 3, 0), (47, .aload_n 0, 1, 0), (48, .getfield 92, 3, 0), (51, .aload_n 0, 1, 0), (52, .iload_n 1, 1, 0), (53, .invokevirtual 209, 3, 0), (56, .iastore, 1, 0), (57, .aload_n 0, 1, 0), (58, .dup, 1, 0), (59, .getfield 92, 3, 0), (62, .iconst 1, 1, 0), (63, .iadd, 1, 0), (64, .putfield 92, 3, 0), (67, .iinc 1 1, 3, 0), (70, .goto (-35), 3, 35), (73, .aload_n 0, 1, 0), (74, .getfield 92, 3, 0), (77, .ireturn, 1, 0)], F_M)
set_option maxRecDepth 40000 in
theorem ok_M_pass : okM m_M_pass := ⟨by decide +kernel, okF_M, gw_in (List.mem_of_getElem? (i := 1212) rfl) rfl, by decide +kernel⟩
def m_M_readOne : Mt := (⟨"HalftoneRegionsModel", "readOne", "()I"⟩, prog_11_method_54_code, 2, (some .int), [(0, .aload_n 0, 1, 0), (1, .getfield 212, 3, 0), (4, .bipush 8, 2, 0), (6, .aload_n 0, 1, 0), (7, .getfield 92, 3, 0), (10, .imul, 1, 0), (11, .if_icmp .lt 10, 3, 21), (14, .aload_n 0, 1, 0), (15, .iconst 1, 1, 0), (16, .putfield 215, 3, 0), (19, .iconst 0, 1, 0), (20, .ireturn, 1, 0), (21, .aload_n 0, 1, 0), (22, .getfield 27, 3, 0), (25, .aload_n 0, 1, 0), (26, .getfield 212, 3, 0), (29, .bipush 8, 2, 0), (31, .idiv, 1, 0), (32, .iaload, 1, 0), (33, .bipush 7, 2, 0), (35, .aload_n 0, 1, 0), (36, .getfield 212, 3, 0), (39, .bipush 8, 2, 0), (41, .irem, 1, 0), (42, .isub, 1, 0), (43, .ishr, 1, 0), (44, .iconst 1, 1, 0), (45, .iand, 1, 0), (46, .istore_n 1, 1, 0), (47, .aload_n 0, 1, 0), (48, .dup, 1, 0), (49, .getfield 212, 3, 0), (52, .iconst 1, 1, 0), (53, .iadd, 1, 0), (54, .putfield 212, 3, 0), (57, .iload_n 1, 1, 0), (58, .ireturn, 1, 0)], F_M)
set_option maxRecDepth 40000 in
theorem ok_M_readOne : okM m_M_readOne := ⟨by decide +kernel, okF_M, gw_in (List.mem_of_getElem? (i := 1232) rfl) rfl, by decide +kernel⟩
def m_M_readSome : Mt := (⟨"HalftoneRegionsModel", "readSome", "(I)I"⟩, prog_11_method_55_code, 4, (some .int), [(0, .iconst 0, 1, 0), (1, .istore_n 2, 1, 0), (2, .iconst 0, 1, 0), (3, .istore_n 3, 1, 0), (4, .iload_n 3, 1, 0), (5, .iload_n 1, 1, 0), (6, .if_icmp .ge 18, 3, 24), (9, .iconst 2, 1, 0), (10, .iload_n 2, 1, 0), (11, .imul, 1, 0), (12, .aload_n 0, 1, 0), (13, .invokevirtual 219, 3, 0), (16, .iadd, 1, 0), (17, .istore_n 2, 1, 0), (18, .iinc 3 1, 3, 0), (21, .goto (-17), 3, 4), (24, .iload_n 2, 1, 0), (25, .ireturn, 1, 0)], F_M)
set_option maxRecDepth 40000 in
theorem ok_M_readSome : okM m_M_readSome := ⟨by decide +kernel, okF_M, gw_in (List.mem_of_getElem? (i := 1236) rfl) rfl, by decide +kernel⟩
def m_M_readRun : Mt := (⟨"HalftoneRegionsModel", "readRun", "()V"⟩, prog_11_method_56_code, 3, none, [(0, .aload_n 0, 1, 0), (1, .invokevirtual 180, 3, 0), (4, .istore_n 1, 1, 0), (5, .iconst 0, 1, 0), (6, .istore_n 2, 1, 0), (7, .iload_n 2, 1, 0), (8, .bipush 12, 2, 0), (10, .if_icmp .ge 17, 3, 27), (13, .aload_n 0, 1, 0), (14, .invokevirtual 219, 3, 0), (17, .iconst 1, 1, 0), (18, .if_icmp .ne 9, 3, 27), (21, .iinc 2 1, 3, 0), (24, .goto (-17), 3, 7), (27, .aload_n 0, 1, 0), (28, .iload_n 2, 1, 0), (29, .bipush 12, 2, 0), (31, .if_icmp .ne 12, 3, 43), (34, .aload_n 0, 1, 0), (35, .bipush 13, 2, 0), (37, .invokevirtual 222, 3, 0), (40, .goto 12, 3, 52), (43, .iload_n 2, 1, 0), (44, .iload_n 1, 1, 0), (45, .ishl, 1, 0), (46, .aload_n 0, 1, 0), (47, .iload_n 1, 1, 0), (48, .invokevirtual 222, 3, 0), (51, .iadd, 1, 0), (52, .putfield 225, 3, 0), (55, .aload_n 0, 1, 0), (56, .iconst 1, 1, 0), (57, .putfield 228, 3, 0), (60, .aload_n 0, 1, 0), (61, .dup, 1, 0), (62, .getfield 95, 3, 0), (65, .aload_n 0, 1, 0), (66, .getfield 215, 3, 0), (69, .ifCond .eq 7, 3, 76), (72, .iconst 0, 1, 0), (73, .goto 4, 3, 77), (76, .iconst 1, 1, 0), (77, .iadd, 1, 0), (78, .putfield 95, 3, 0), (81, .aload_n 0, 1, 0), (82, .aload_n 0, 1, 0), (83, .getfield 215, 3, 0), (86, .ifCond .ne 18, 3, 104), (89, .aload_n 0, 1, 0), (90, .getfield 225, 3, 0), (93, .aload_n 0, 1, 0), (94, .getfield 231, 3, 0), (97, .if_icmp .le 7, 3, 104), (100, .iconst 1, 1, 0), (101, .goto 4, 3, 105), (104, .iconst 0, 1, 0), (105, .putfield 234, 3, 0), (108, .aload_n 0, 1, 0), (109, .aload_n 0, 1, 0), (110, .getfield 225, 3, 0), (113, .invokevirtual 186, 3, 0), (116, .return_, 1, 0)], F_M)
set_option maxRecDepth 40000 in
theorem ok_M_readRun : okM m_M_readRun := ⟨by decide +kernel, okF_M, gw_in (List.mem_of_getElem? (i := 1228) rfl) rfl, by decide +kernel⟩
def m_M_readBit : Mt := (⟨"HalftoneRegionsModel", "readBit", "(Z)Z"⟩, prog_11_method_57_code, 2, (some .boolean), [(0, .aload_n 0, 1, 0), (1, .getfield 228, 3, 0), (4, .ifCond .ne 7, 3, 11), (7, .aload_n 0, 1, 0), (8, .invokevirtual 237, 3, 0), (11, .aload_n 0, 1, 0), (12, .getfield 225, 3, 0), (15, .ifCond .le 22, 3, 37), (18, .aload_n 0, 1, 0), (19, .getfield 234, 3, 0), (22, .ifCond .ne 15, 3, 37), (25, .aload_n 0, 1, 0), (26, .dup, 1, 0), (27, .getfield 225, 3, 0), (30, .iconst 1, 1, 0), (31, .isub, 1, 0), (32, .putfield 225, 3, 0), (35, .iload_n 1, 1, 0), (36, .ireturn, 1, 0), (37, .aload_n 0, 1, 0), (38, .iconst 0, 1, 0), (39, .putfield 228, 3, 0), (42, .iload_n 1, 1, 0), (43, .ifCond .ne 7, 3, 50), (46, .iconst 1, 1, 0), (47, .goto 4, 3, 51), (50, .iconst 0, 1, 0), (51, .ireturn, 1, 0)], F_M)
set_option maxRecDepth 40000 in
theorem ok_M_readBit : okM m_M_readBit := ⟨by decide +kernel, okF_M, gw_in (List.mem_of_getElem? (i := 1224) rfl) rfl, by decide +kernel⟩
def m_M_readPlanes : Mt := (⟨"HalftoneRegionsModel", "readPlanes", "()I"⟩, prog_11_method_58_code, 8, (some .int), [(0, .iconst 0, 1, 0), (1, .istore_n 1, 1, 0), (2, .iload_n 1, 1, 0), (3, .sipush 256, 3, 0), (6, .if_icmp .ge 16, 3, 22), (9, .aload_n 0, 1, 0), (10, .getfield 42, 3, 0), (13, .iload_n 1, 1, 0), (14, .iconst 0, 1, 0), (15, .iastore, 1, 0), (16, .iinc 1 1, 3, 0), (19, .goto (-17), 3, 2), (22, .iconst 0, 1, 0), (23, .istore_n 1, 1, 0), (24, .iconst 0, 1, 0), (25, .istore_n 2, 1, 0), (26, .iload_n 2, 1, 0), (27, .sipush 256, 3, 0), (30, .if_icmp .ge 47, 3, 77), (33, .iload_n 1, 1, 0), (34, .aload_n 0, 1, 0), (35, .iload_n 2, 1, 0), (36, .bipush 16, 2, 0), (38, .irem, 1, 0), (39, .iload_n 2, 1, 0), (40, .bipush 16, 2, 0), (42, .idiv, 1, 0), (43, .invokevirtual 141, 3, 0), (46, .ifCond .eq 22, 3, 68), (49, .aload_n 0, 1, 0), (50, .iload_n 2, 1, 0), (51, .bipush 16, 2, 0), (53, .irem, 1, 0), (54, .iload_n 2, 1, 0), (55, .bipush 16, 2, 0), (57, .idiv, 1, 0), (58, .invokevirtual 196, 3, 0), (61, .ifCond .ne 7, 3, 68), (64, .iconst 1, 1, 0), (65, .goto 4, 3, 69), (68, .iconst 0, 1, 0), (69, .iadd, 1, 0), (70, .istore_n 1, 1, 0), (71, .iinc 2 1, 3, 0), (74, .goto (-48), 3, 26), (77, .aload_n 0, 1, 0), (78, .iload_n 1, 1, 0), (79, .aload_n 0, 1, 0), (80, .invokevirtual 114, 3, 0), (83, .imul, 1, 0), (84, .putfield 231, 3, 0), (87, .aload_n 0, 1, 0), (88, .iconst 0, 1, 0), (89, .putfield 234, 3, 0), (92, .aload_n 0, 1, 0), (93, .invokevirtual 114, 3, 0), (96, .iconst 1, 1, 0), (97, .isub, 1, 0), (98, .istore_n 2, 1, 0), (99, .iload_n 2, 1, 0), (100, .ifCond .lt 177, 3, 277), (103, .aload_n 0, 1, 0), (104, .invokevirtual 193, 3, 0), (107, .iconst 0, 1, 0), (108, .istore_n 3, 1, 0), (109, .iload_n 3, 1, 0), (110, .sipush 256, 3, 0), (113, .if_icmp .ge 158, 3, 271), (116, .iload_n 3, 1, 0), (117, .bipush 16, 2, 0), (119, .irem, 1, 0), (120, .istore 4, 2, 0), (122, .iload_n 3, 1, 0), (123, .bipush 16, 2, 0), (125, .idiv, 1, 0), (126, .istore 5, 2, 0), (128, .aload_n 0, 1, 0), (129, .iload 4, 2, 0), (131, .iload 5, 2, 0), (133, .invokevirtual 141, 3, 0), (136, .ifCond .eq 129, 3, 265), (139, .aload_n 0, 1, 0), (140, .iload 4, 2, 0), (142, .iload 5, 2, 0), (144, .invokevirtual 196, 3, 0), (147, .ifCond .ne 118, 3, 265), (150, .aload_n 0, 1, 0), (151, .iload 4, 2, 0), (153, .iload 5, 2, 0), (155, .invokevirtual 199, 3, 0), (158, .istore 6, 2, 0), (160, .aload_n 0, 1, 0), (161, .aload_n 0, 1, 0), (162, .getfield 30, 3, 0), (165, .iload 6, 2, 0), (167, .iaload, 1, 0), (168, .ifCond .lt 7, 3, 175), (171, .iconst 1, 1, 0), (172, .goto 4, 3, 176), (175, .iconst 0, 1, 0), (176, .invokevirtual 240, 3, 0), (179, .istore 7, 2, 0), (181, .aload_n 0, 1, 0), (182, .getfield 215, 3, 0), (185, .ifCond .ne 10, 3, 195), (188, .aload_n 0, 1, 0), (189, .getfield 234, 3, 0), (192, .ifCond .eq 5, 3, 197), (195, .iconst (-1), 1, 0), (196, .ireturn, 1, 0), (197, .aload_n 0, 1, 0), (198, .dup, 1, 0), (199, .getfield 231, 3, 0), (202, .iconst 1, 1, 0), (203, .isub, 1, 0), (204, .putfield 231, 3, 0), (207, .aload_n 0, 1, 0), (208, .getfield 36, 3, 0), (211, .iload_n 3, 1, 0), (212, .iload 7, 2, 0), (214, .bastore, 1, 0), (215, .aload_n 0, 1, 0), (216, .iload 6, 2, 0), (218, .iload 7, 2, 0), (220, .invokevirtual 205, 3, 0), (223, .aload_n 0, 1, 0), (224, .getfield 42, 3, 0), (227, .iload_n 3, 1, 0), (228, .iconst 2, 1, 0), (229, .aload_n 0, 1, 0), (230, .getfield 42, 3, 0), (233, .iload_n 3, 1, 0), (234, .iaload, 1, 0), (235, .imul, 1, 0), (236, .iload 7, 2, 0), (238, .aload_n 0, 1, 0), (239, .getfield 42, 3, 0), (242, .iload_n 3, 1, 0), (243, .iaload, 1, 0), (244, .iconst 1, 1, 0), (245, .iand, 1, 0), (246, .iconst 1, 1, 0), (247, .if_icmp .ne 7, 3, 254), (250, .iconst 1, 1, 0), (251, .goto 4, 3, 255), (254, .iconst 0, 1, 0), (255, .if_icmp .ne 7, 3, 262), (258, .iconst 0, 1, 0), (259, .goto 4, 3, 263), (262, .iconst 1, 1, 0), (263, .iadd, 1, 0), (264, .iastore, 1, 0), (265, .iinc 3 1, 3, 0), (268, .goto (-159), 3, 109), (271, .iinc 2 (-1), 3, 0), (274, .goto (-175), 3, 99), (277, .aload_n 0, 1, 0), (278, .getfield 228, 3, 0), (281, .ifCond .ne 7, 3, 288), (284, .aload_n 0, 1, 0), (285, .invokevirtual 237, 3, 0), (288, .aload_n 0, 1, 0), (289, .getfield 215, 3, 0), (292, .ifCond .ne 10, 3, 302), (295, .aload_n 0, 1, 0), (296, .getfield 234, 3, 0), (299, .ifCond .eq 7, 3, 306), (302, .iconst (-1), 1, 0), (303, .goto 4, 3, 307), (306, .iload_n 1, 1, 0), (307, .ireturn, 1, 0)], F_M)
set_option maxRecDepth 40000 in
theorem ok_M_readPlanes : okM m_M_readPlanes := ⟨by decide +kernel, okF_M, gw_in (List.mem_of_getElem? (i := 1220) rfl) rfl, by decide +kernel⟩
def m_M_isMore : Mt := (⟨"HalftoneRegionsModel", "isMore", "()Z"⟩, prog_11_method_59_code, 3, (some .boolean), [(0, .aload_n 0, 1, 0), (1, .getfield 212, 3, 0), (4, .bipush 7, 2, 0), (6, .iadd, 1, 0), (7, .bipush 8, 2, 0), (9, .aload_n 0, 1, 0), (10, .getfield 92, 3, 0), (13, .imul, 1, 0), (14, .if_icmp .ge 7, 3, 21), (17, .iconst 1, 1, 0), (18, .goto 4, 3, 22), (21, .iconst 0, 1, 0), (22, .istore_n 1, 1, 0), (23, .aload_n 0, 1, 0), (24, .getfield 212, 3, 0), (27, .istore_n 2, 1, 0), (28, .iload_n 2, 1, 0), (29, .bipush 8, 2, 0), (31, .aload_n 0, 1, 0), (32, .getfield 92, 3, 0), (35, .imul, 1, 0), (36, .if_icmp .ge 42, 3, 78), (39, .iload_n 1, 1, 0), (40, .ifCond .ne 26, 3, 66), (43, .aload_n 0, 1, 0), (44, .getfield 27, 3, 0), (47, .iload_n 2, 1, 0), (48, .bipush 8, 2, 0), (50, .idiv, 1, 0), (51, .iaload, 1, 0), (52, .bipush 7, 2, 0), (54, .iload_n 2, 1, 0), (55, .bipush 8, 2, 0), (57, .irem, 1, 0), (58, .isub, 1, 0), (59, .ishr, 1, 0), (60, .iconst 1, 1, 0), (61, .iand, 1, 0), (62, .iconst 1, 1, 0), (63, .if_icmp .ne 7, 3, 70), (66, .iconst 1, 1, 0), (67, .goto 4, 3, 71), (70, .iconst 0, 1, 0), (71, .istore_n 1, 1, 0), (72, .iinc 2 1, 3, 0), (75, .goto (-47), 3, 28), (78, .iload_n 1, 1, 0), (79, .ireturn, 1, 0)], F_M)
set_option maxRecDepth 40000 in
theorem ok_M_isMore : okM m_M_isMore := ⟨by decide +kernel, okF_M, gw_in (List.mem_of_getElem? (i := 1244) rfl) rfl, by decide +kernel⟩
def m_M_refusal : Mt := (⟨"HalftoneRegionsModel", "refusal", "()I"⟩, prog_11_method_60_code, 2, (some .int), [(0, .aload_n 0, 1, 0), (1, .invokevirtual 244, 3, 0), (4, .ifCond .eq 5, 3, 9), (7, .iconst 3, 1, 0), (8, .ireturn, 1, 0), (9, .iconst 0, 1, 0), (10, .istore_n 1, 1, 0), (11, .iload_n 1, 1, 0), (12, .sipush 256, 3, 0), (15, .if_icmp .ge 24, 3, 39), (18, .aload_n 0, 1, 0), (19, .getfield 42, 3, 0), (22, .iload_n 1, 1, 0), (23, .iaload, 1, 0), (24, .aload_n 0, 1, 0), (25, .getfield 107, 3, 0), (28, .if_icmp .lt 5, 3, 33), (31, .iconst 4, 1, 0), (32, .ireturn, 1, 0), (33, .iinc 1 1, 3, 0), (36, .goto (-25), 3, 11), (39, .iconst 0, 1, 0), (40, .ireturn, 1, 0)], F_M)
set_option maxRecDepth 40000 in
theorem ok_M_refusal : okM m_M_refusal := ⟨by decide +kernel, okF_M, gw_in (List.mem_of_getElem? (i := 1240) rfl) rfl, by decide +kernel⟩
def m_M_decode : Mt := (⟨"HalftoneRegionsModel", "decode", "()I"⟩, prog_11_method_61_code, 4, (some .int), [(0, .aload_n 0, 1, 0), (1, .iconst 0, 1, 0), (2, .putfield 55, 3, 0), (5, .aload_n 0, 1, 0), (6, .invokevirtual 190, 3, 0), (9, .aload_n 0, 1, 0), (10, .iconst 0, 1, 0), (11, .putfield 212, 3, 0), (14, .aload_n 0, 1, 0), (15, .iconst 0, 1, 0), (16, .putfield 225, 3, 0), (19, .aload_n 0, 1, 0), (20, .iconst 0, 1, 0), (21, .putfield 228, 3, 0), (24, .aload_n 0, 1, 0), (25, .iconst 0, 1, 0), (26, .putfield 215, 3, 0), (29, .aload_n 0, 1, 0), (30, .invokevirtual 248, 3, 0), (33, .istore_n 1, 1, 0), (34, .aload_n 0, 1, 0), (35, .getfield 215, 3, 0), (38, .ifCond .eq 7, 3, 45), (41, .iconst 1, 1, 0), (42, .goto 15, 3, 57), (45, .iload_n 1, 1, 0), (46, .ifCond .ge 7, 3, 53), (49, .iconst 2, 1, 0), (50, .goto 7, 3, 57), (53, .aload_n 0, 1, 0), (54, .invokevirtual 251, 3, 0), (57, .istore_n 2, 1, 0), (58, .aload_n 0, 1, 0), (59, .iconst 0, 1, 0), (60, .putfield 92, 3, 0), (63, .iload_n 2, 1, 0), (64, .ifCond .le 7, 3, 71), (67, .iconst (-1), 1, 0), (68, .iload_n 2, 1, 0), (69, .isub, 1, 0), (70, .ireturn, 1, 0), (71, .iconst 0, 1, 0), (72, .istore_n 3, 1, 0), (73, .iload_n 3, 1, 0), (74, .sipush 256, 3, 0), (77, .if_icmp .ge 21, 3, 98), (80, .aload_n 0, 1, 0), (81, .getfield 19, 3, 0), (84, .iload_n 3, 1, 0), (85, .aload_n 0, 1, 0), (86, .getfield 42, 3, 0), (89, .iload_n 3, 1, 0), (90, .iaload, 1, 0), (91, .iastore, 1, 0), (92, .iinc 3 1, 3, 0), (95, .goto (-22), 3, 73), (98, .iload_n 1, 1, 0), (99, .ireturn, 1, 0)], F_M)
set_option maxRecDepth 40000 in
theorem ok_M_decode : okM m_M_decode := ⟨by decide +kernel, okF_M, gw_in (List.mem_of_getElem? (i := 1216) rfl) rfl, by decide +kernel⟩
def m_M_context : Mt := (⟨"HalftoneRegionsModel", "context", "(II)I"⟩, prog_11_method_62_code, 3, (some .int), [(0, .aload_n 0, 1, 0), (1, .iload_n 1, 1, 0), (2, .iconst 0, 1, 0), (3, .bipush 63, 2, 0), (5, .invokestatic 110, 3, 0), (8, .ifCond .ne 7, 3, 15), (11, .iconst 1, 1, 0), (12, .goto 17, 3, 29), (15, .iload_n 2, 1, 0), (16, .iconst 0, 1, 0), (17, .iconst 1, 1, 0), (18, .invokestatic 110, 3, 0), (21, .ifCond .ne 7, 3, 28), (24, .iconst 2, 1, 0), (25, .goto 4, 3, 29), (28, .iconst 0, 1, 0), (29, .putfield 55, 3, 0), (32, .aload_n 0, 1, 0), (33, .getfield 55, 3, 0), (36, .ifCond .le 7, 3, 43), (39, .iconst 0, 1, 0), (40, .goto 22, 3, 62), (43, .iload_n 2, 1, 0), (44, .ifCond .ne 12, 3, 56), (47, .aload_n 0, 1, 0), (48, .getfield 30, 3, 0), (51, .iload_n 1, 1, 0), (52, .iaload, 1, 0), (53, .goto 9, 3, 62), (56, .aload_n 0, 1, 0), (57, .getfield 33, 3, 0), (60, .iload_n 1, 1, 0), (61, .iaload, 1, 0), (62, .ireturn, 1, 0)], F_M)
set_option maxRecDepth 40000 in
theorem ok_M_context : okM m_M_context := ⟨by decide +kernel, okF_M, gw_in (List.mem_of_getElem? (i := 1248) rfl) rfl, by decide +kernel⟩
def m_M_told : Mt := (⟨"HalftoneRegionsModel", "told", "(I)I"⟩, prog_11_method_63_code, 2, (some .int), [(0, .aload_n 0, 1, 0), (1, .iconst 0, 1, 0), (2, .putfield 55, 3, 0), (5, .iload_n 1, 1, 0), (6, .tableswitch 125 0 11 #[62, 67, 72, 77, 82, 87, 92, 97, 102, 107, 112, 120], 62, 0), (68, .aload_n 0, 1, 0), (69, .getfield 45, 3, 0), (72, .ireturn, 1, 0), (73, .aload_n 0, 1, 0), (74, .getfield 49, 3, 0), (77, .ireturn, 1, 0), (78, .aload_n 0, 1, 0), (79, .getfield 107, 3, 0), (82, .ireturn, 1, 0), (83, .aload_n 0, 1, 0), (84, .getfield 101, 3, 0), (87, .ireturn, 1, 0), (88, .aload_n 0, 1, 0), (89, .getfield 104, 3, 0), (92, .ireturn, 1, 0), (93, .aload_n 0, 1, 0), (94, .invokevirtual 114, 3, 0), (97, .ireturn, 1, 0), (98, .aload_n 0, 1, 0), (99, .getfield 62, 3, 0), (102, .ireturn, 1, 0), (103, .aload_n 0, 1, 0), (104, .getfield 65, 3, 0), (107, .ireturn, 1, 0), (108, .aload_n 0, 1, 0), (109, .getfield 89, 3, 0), (112, .ireturn, 1, 0), (113, .aload_n 0, 1, 0), (114, .getfield 92, 3, 0), (117, .ireturn, 1, 0), (118, .aload_n 0, 1, 0), (119, .getfield 7, 3, 0), (122, .invokestatic 164, 3, 0), (125, .ireturn, 1, 0), (126, .aload_n 0, 1, 0), (127, .getfield 95, 3, 0), (130, .ireturn, 1, 0), (131, .iconst (-1), 1, 0), (132, .ireturn, 1, 0)], F_M)
set_option maxRecDepth 40000 in
theorem ok_M_told : okM m_M_told := ⟨by decide +kernel, okF_M, gw_in (List.mem_of_getElem? (i := 1252) rfl) rfl, by decide +kernel⟩
def m_C_init : Mt := (⟨"HalftoneRegions$Codes", "<init>", "()V"⟩, prog_2_method_1_code, 1, none, [(0, .aload_n 0, 1, 0), (1, .invokespecial 3, 3, 0), (4, .aload_n 0, 1, 0), (5, .sipush 256, 3, 0), (8, .newarray .int, 2, 0), (10, .putfield 9, 3, 0), (13, .return_, 1, 0)], F_C)
set_option maxRecDepth 40000 in
theorem ok_C_init : okM m_C_init := ⟨by decide +kernel, okF_C, gw_in (List.mem_of_getElem? (i := 159) rfl) rfl, by decide +kernel⟩
def m_C_begin : Mt := (⟨"HalftoneRegions$Codes", "begin", "()V"⟩, prog_2_method_2_code, 1, none, [(0, .aload_n 0, 1, 0), (1, .getfield 9, 3, 0), (4, .iconst 0, 1, 0), (5, .invokestatic 15, 3, 0), (8, .return_, 1, 0)], F_C)
set_option maxRecDepth 40000 in
theorem ok_C_begin : okM m_C_begin := ⟨by decide +kernel, okF_C, gw_in (List.mem_of_getElem? (i := 410) rfl) rfl, by decide +kernel⟩
def m_C_setGrey : Mt := (⟨"HalftoneRegions$Codes", "setGrey", "(III)V"⟩, prog_2_method_3_code, 5, none, [(0, .iload_n 1, 1, 0), (1, .iload_n 2, 1, 0), (2, .invokestatic 21, 3, 0), (5, .istore 4, 2, 0), (7, .iload 4, 2, 0), (9, .iconst (-1), 1, 0), (10, .if_icmp .eq 15, 3, 25), (13, .aload_n 0, 1, 0), (14, .getfield 9, 3, 0), (17, .iload 4, 2, 0), (19, .iload_n 3, 1, 0), (20, .iload_n 3, 1, 0), (21, .iconst 1, 1, 0), (22, .ishr, 1, 0), (23, .ixor, 1, 0), (24, .iastore, 1, 0), (25, .return_, 1, 0)], F_C)
set_option maxRecDepth 40000 in
theorem ok_C_setGrey : okM m_C_setGrey := ⟨by decide +kernel, okF_C, gw_in (List.mem_of_getElem? (i := 419) rfl) rfl, by decide +kernel⟩
def m_C_addBit : Mt := (⟨"HalftoneRegions$Codes", "addBit", "(IIII)V"⟩, prog_2_method_4_code, 6, none, [(0, .iload_n 1, 1, 0), (1, .iload_n 2, 1, 0), (2, .invokestatic 21, 3, 0), (5, .istore 5, 2, 0), (7, .iload 5, 2, 0), (9, .iconst (-1), 1, 0), (10, .if_icmp .eq 17, 3, 27), (13, .aload_n 0, 1, 0), (14, .getfield 9, 3, 0), (17, .iload 5, 2, 0), (19, .dup2, 1, 0), (20, .iaload, 1, 0), (21, .iload 4, 2, 0), (23, .iload_n 3, 1, 0), (24, .ishl, 1, 0), (25, .ior, 1, 0), (26, .iastore, 1, 0), (27, .return_, 1, 0)], F_C)
set_option maxRecDepth 40000 in
theorem ok_C_addBit : okM m_C_addBit := ⟨by decide +kernel, okF_C, gw_in (List.mem_of_getElem? (i := 530) rfl) rfl, by decide +kernel⟩
def m_C_bitOf : Mt := (⟨"HalftoneRegions$Codes", "bitOf", "(III)I"⟩, prog_2_method_5_code, 5, (some .int), [(0, .iload_n 1, 1, 0), (1, .iload_n 2, 1, 0), (2, .invokestatic 21, 3, 0), (5, .istore 4, 2, 0), (7, .iload 4, 2, 0), (9, .iconst (-1), 1, 0), (10, .if_icmp .ne 7, 3, 17), (13, .iconst 0, 1, 0), (14, .goto 14, 3, 28), (17, .aload_n 0, 1, 0), (18, .getfield 9, 3, 0), (21, .iload 4, 2, 0), (23, .iaload, 1, 0), (24, .iload_n 3, 1, 0), (25, .ishr, 1, 0), (26, .iconst 1, 1, 0), (27, .iand, 1, 0), (28, .ireturn, 1, 0)], F_C)
set_option maxRecDepth 40000 in
theorem ok_C_bitOf : okM m_C_bitOf := ⟨by decide +kernel, okF_C, gw_in (List.mem_of_getElem? (i := 451) rfl) rfl, by decide +kernel⟩
def m_C_contextOf : Mt := (⟨"HalftoneRegions$Codes", "contextOf", "(III)I"⟩, prog_2_method_6_code, 6, (some .int), [(0, .aload_n 0, 1, 0), (1, .iload_n 1, 1, 0), (2, .iconst 1, 1, 0), (3, .isub, 1, 0), (4, .iload_n 2, 1, 0), (5, .iload_n 3, 1, 0), (6, .invokevirtual 25, 3, 0), (9, .iconst 5, 1, 0), (10, .ishl, 1, 0), (11, .aload_n 0, 1, 0), (12, .iload_n 1, 1, 0), (13, .iconst 2, 1, 0), (14, .isub, 1, 0), (15, .iload_n 2, 1, 0), (16, .iload_n 3, 1, 0), (17, .invokevirtual 25, 3, 0), (20, .iconst 4, 1, 0), (21, .ishl, 1, 0), (22, .ior, 1, 0), (23, .istore 4, 2, 0), (25, .aload_n 0, 1, 0), (26, .iload_n 1, 1, 0), (27, .iconst 1, 1, 0), (28, .isub, 1, 0), (29, .iload_n 2, 1, 0), (30, .iconst 1, 1, 0), (31, .isub, 1, 0), (32, .iload_n 3, 1, 0), (33, .invokevirtual 25, 3, 0), (36, .iconst 3, 1, 0), (37, .ishl, 1, 0), (38, .aload_n 0, 1, 0), (39, .iload_n 1, 1, 0), (40, .iload_n 2, 1, 0), (41, .iconst 1, 1, 0), (42, .isub, 1, 0), (43, .iload_n 3, 1, 0), (44, .invokevirtual 25, 3, 0), (47, .iconst 2, 1, 0), (48, .ishl, 1, 0), (49, .ior, 1, 0), (50, .aload_n 0, 1, 0), (51, .iload_n 1, 1, 0), (52, .iconst 1, 1, 0), (53, .iadd, 1, 0), (54, .iload_n 2, 1, 0), (55, .iconst 1, 1, 0), (56, .isub, 1, 0), (57, .iload_n 3, 1, 0), (58, .invokevirtual 25, 3, 0), (61, .iconst 1, 1, 0), (62, .ishl, 1, 0), (63, .ior, 1, 0), (64, .istore 5, 2, 0), (66, .iload 4, 2, 0), (68, .iload 5, 2, 0), (70, .ior, 1, 0), (71, .aload_n 0, 1, 0), (72, .iload_n 1, 1, 0), (73, .iload_n 2, 1, 0), (74, .iload_n 3, 1, 0), (75, .iconst 1, 1, 0), (76, .iadd, 1, 0), (77, .invokevirtual 25, 3, 0), (80, .ior, 1, 0), (81, .ireturn, 1, 0)], F_C)
set_option maxRecDepth 40000 in
theorem ok_C_contextOf : okM m_C_contextOf := ⟨by decide +kernel, okF_C, gw_in (List.mem_of_getElem? (i := 447) rfl) rfl, by decide +kernel⟩
def m_C_greyOf : Mt := (⟨"HalftoneRegions$Codes", "greyOf", "(II)I"⟩, prog_2_method_7_code, 4, (some .int), [(0, .iload_n 1, 1, 0), (1, .iload_n 2, 1, 0), (2, .invokestatic 21, 3, 0), (5, .istore_n 3, 1, 0), (6, .iload_n 3, 1, 0), (7, .iconst (-1), 1, 0), (8, .if_icmp .ne 7, 3, 15), (11, .iconst 0, 1, 0), (12, .goto 12, 3, 24), (15, .aload_n 0, 1, 0), (16, .getfield 9, 3, 0), (19, .iload_n 3, 1, 0), (20, .iaload, 1, 0), (21, .invokestatic 29, 3, 0), (24, .ireturn, 1, 0)], F_C)
set_option maxRecDepth 40000 in
theorem ok_C_greyOf : okM m_C_greyOf := ⟨by decide +kernel, okF_C, gw_in (List.mem_of_getElem? (i := 558) rfl) rfl, by decide +kernel⟩
def m_C_greyOfCode : Mt := (⟨"HalftoneRegions$Codes", "greyOfCode", "(I)I"⟩, prog_2_method_8_code, 2, (some .int), [(0, .iload_n 0, 1, 0), (1, .iload_n 0, 1, 0), (2, .iconst 1, 1, 0), (3, .ishr, 1, 0), (4, .ixor, 1, 0), (5, .istore_n 1, 1, 0), (6, .iload_n 1, 1, 0), (7, .iload_n 1, 1, 0), (8, .iconst 2, 1, 0), (9, .ishr, 1, 0), (10, .ixor, 1, 0), (11, .istore_n 1, 1, 0), (12, .iload_n 1, 1, 0), (13, .iload_n 1, 1, 0), (14, .iconst 4, 1, 0), (15, .ishr, 1, 0), (16, .ixor, 1, 0), (17, .ireturn, 1, 0)], F_C)
set_option maxRecDepth 40000 in
theorem ok_C_greyOfCode : okM m_C_greyOfCode := ⟨by decide +kernel, okF_C, gw_in (List.mem_of_getElem? (i := 545) rfl) rfl, by decide +kernel⟩
def m_C_greatestGrey : Mt := (⟨"HalftoneRegions$Codes", "greatestGrey", "()I"⟩, prog_2_method_9_code, 3, (some .int), [(0, .iconst 0, 1, 0), (1, .istore_n 1, 1, 0), (2, .iconst 0, 1, 0), (3, .istore_n 2, 1, 0), (4, .iload_n 2, 1, 0), (5, .aload_n 0, 1, 0), (6, .getfield 9, 3, 0), (9, .arraylength, 1, 0), (10, .if_icmp .ge 23, 3, 33), (13, .iload_n 1, 1, 0), (14, .aload_n 0, 1, 0), (15, .getfield 9, 3, 0), (18, .iload_n 2, 1, 0), (19, .iaload, 1, 0), (20, .invokestatic 29, 3, 0), (23, .invokestatic 33, 3, 0), (26, .istore_n 1, 1, 0), (27, .iinc 2 1, 3, 0), (30, .goto (-26), 3, 4), (33, .iload_n 1, 1, 0), (34, .ireturn, 1, 0)], F_C)
set_option maxRecDepth 40000 in
theorem ok_C_greatestGrey : okM m_C_greatestGrey := ⟨by decide +kernel, okF_C, gw_in (List.mem_of_getElem? (i := 542) rfl) rfl, by decide +kernel⟩
def m_F_init : Mt := (⟨"HalftoneRegions$Forecast", "<init>", "()V"⟩, prog_3_method_1_code, 1, none, [(0, .aload_n 0, 1, 0), (1, .invokespecial 3, 3, 0), (4, .aload_n 0, 1, 0), (5, .bipush 64, 2, 0), (7, .newarray .int, 2, 0), (9, .putfield 9, 3, 0), (12, .aload_n 0, 1, 0), (13, .bipush 64, 2, 0), (15, .newarray .int, 2, 0), (17, .putfield 15, 3, 0), (20, .aload_n 0, 1, 0), (21, .getfield 9, 3, 0), (24, .iconst (-1), 1, 0), (25, .invokestatic 18, 3, 0), (28, .return_, 1, 0)], F_F)
set_option maxRecDepth 40000 in
theorem ok_F_init : okM m_F_init := ⟨by decide +kernel, okF_F, gw_in (List.mem_of_getElem? (i := 169) rfl) rfl, by decide +kernel⟩
def m_F_beginPlane : Mt := (⟨"HalftoneRegions$Forecast", "beginPlane", "()V"⟩, prog_3_method_2_code, 1, none, [(0, .aload_n 0, 1, 0), (1, .getfield 9, 3, 0), (4, .iconst (-1), 1, 0), (5, .invokestatic 18, 3, 0), (8, .aload_n 0, 1, 0), (9, .getfield 15, 3, 0), (12, .iconst 0, 1, 0), (13, .invokestatic 18, 3, 0), (16, .return_, 1, 0)], F_F)
set_option maxRecDepth 40000 in
theorem ok_F_beginPlane : okM m_F_beginPlane := ⟨by decide +kernel, okF_F, gw_in (List.mem_of_getElem? (i := 435) rfl) rfl, by decide +kernel⟩
def m_F_foretold : Mt := (⟨"HalftoneRegions$Forecast", "foretold", "(I)I"⟩, prog_3_method_3_code, 2, (some .int), [(0, .iload_n 1, 1, 0), (1, .iconst 0, 1, 0), (2, .bipush 63, 2, 0), (4, .invokestatic 24, 3, 0), (7, .ifCond .eq 16, 3, 23), (10, .aload_n 0, 1, 0), (11, .getfield 9, 3, 0), (14, .iload_n 1, 1, 0), (15, .iaload, 1, 0), (16, .ifCond .lt 7, 3, 23), (19, .iconst 1, 1, 0), (20, .goto 4, 3, 24), (23, .iconst 0, 1, 0), (24, .ireturn, 1, 0)], F_F)
set_option maxRecDepth 40000 in
theorem ok_F_foretold : okM m_F_foretold := ⟨by decide +kernel, okF_F, gw_in (List.mem_of_getElem? (i := 456) rfl) rfl, by decide +kernel⟩
def m_F_learn : Mt := (⟨"HalftoneRegions$Forecast", "learn", "(II)V"⟩, prog_3_method_4_code, 4, none, [(0, .iload_n 1, 1, 0), (1, .iconst 0, 1, 0), (2, .bipush 63, 2, 0), (4, .invokestatic 24, 3, 0), (7, .ifCond .ne 4, 3, 11), (10, .return_, 1, 0), (11, .aload_n 0, 1, 0), (12, .getfield 9, 3, 0), (15, .iload_n 1, 1, 0), (16, .iaload, 1, 0), (17, .istore_n 3, 1, 0), (18, .iload_n 2, 1, 0), (19, .iconst 1, 1, 0), (20, .if_icmp .ne 30, 3, 50), (23, .aload_n 0, 1, 0), (24, .getfield 9, 3, 0), (27, .iload_n 1, 1, 0), (28, .bipush 7, 2, 0), (30, .iload_n 3, 1, 0), (31, .ifCond .ge 9, 3, 40), (34, .iload_n 3, 1, 0), (35, .iconst 2, 1, 0), (36, .iadd, 1, 0), (37, .goto 6, 3, 43), (40, .iload_n 3, 1, 0), (41, .iconst 1, 1, 0), (42, .iadd, 1, 0), (43, .invokestatic 28, 3, 0), (46, .iastore, 1, 0), (47, .goto 27, 3, 74), (50, .aload_n 0, 1, 0), (51, .getfield 9, 3, 0), (54, .iload_n 1, 1, 0), (55, .bipush (-8), 2, 0), (57, .iload_n 3, 1, 0), (58, .ifCond .ge 9, 3, 67), (61, .iload_n 3, 1, 0), (62, .iconst 1, 1, 0), (63, .isub, 1, 0), (64, .goto 6, 3, 70), (67, .iload_n 3, 1, 0), (68, .iconst 2, 1, 0), (69, .isub, 1, 0), (70, .invokestatic 34, 3, 0), (73, .iastore, 1, 0), (74, .aload_n 0, 1, 0), (75, .getfield 15, 3, 0), (78, .iload_n 1, 1, 0), (79, .dup2, 1, 0), (80, .iaload, 1, 0), (81, .iconst 1, 1, 0), (82, .iadd, 1, 0), (83, .iastore, 1, 0), (84, .return_, 1, 0)], F_F)
set_option maxRecDepth 40000 in
theorem ok_F_learn : okM m_F_learn := ⟨by decide +kernel, okF_F, gw_in (List.mem_of_getElem? (i := 482) rfl) rfl, by decide +kernel⟩
def m_L_init : Mt := (⟨"HalftoneRegions$Lattice", "<init>", "()V"⟩, prog_4_method_1_code, 1, none, [(0, .aload_n 0, 1, 0), (1, .invokespecial 3, 3, 0), (4, .aload_n 0, 1, 0), (5, .sipush 256, 3, 0), (8, .newarray .int, 2, 0), (10, .putfield 9, 3, 0), (13, .aload_n 0, 1, 0), (14, .iconst 1, 1, 0), (15, .putfield 15, 3, 0), (18, .aload_n 0, 1, 0), (19, .iconst 1, 1, 0), (20, .putfield 19, 3, 0), (23, .aload_n 0, 1, 0), (24, .sipush 256, 3, 0), (27, .putfield 22, 3, 0), (30, .return_, 1, 0)], F_L)
set_option maxRecDepth 40000 in
theorem ok_L_init : okM m_L_init := ⟨by decide +kernel, okF_L, gw_in (List.mem_of_getElem? (i := 129) rfl) rfl, by decide +kernel⟩
def m_L_begin : Mt := (⟨"HalftoneRegions$Lattice", "begin", "(II)V"⟩, prog_4_method_2_code, 3, none, [(0, .aload_n 0, 1, 0), (1, .iload_n 1, 1, 0), (2, .putfield 15, 3, 0), (5, .aload_n 0, 1, 0), (6, .iload_n 2, 1, 0), (7, .putfield 19, 3, 0), (10, .aload_n 0, 1, 0), (11, .invokevirtual 25, 3, 0), (14, .return_, 1, 0)], F_L)
set_option maxRecDepth 40000 in
theorem ok_L_begin : okM m_L_begin := ⟨by decide +kernel, okF_L, gw_in (List.mem_of_getElem? (i := 577) rfl) rfl, by decide +kernel⟩
def m_L_turnTo : Mt := (⟨"HalftoneRegions$Lattice", "turnTo", "(IIII)V"⟩, prog_4_method_3_code, 5, none, [(0, .aload_n 0, 1, 0), (1, .iload_n 1, 1, 0), (2, .putfield 28, 3, 0), (5, .aload_n 0, 1, 0), (6, .iload_n 2, 1, 0), (7, .putfield 31, 3, 0), (10, .aload_n 0, 1, 0), (11, .iload_n 3, 1, 0), (12, .putfield 22, 3, 0), (15, .aload_n 0, 1, 0), (16, .iload 4, 2, 0), (18, .putfield 34, 3, 0), (21, .return_, 1, 0)], F_L)
set_option maxRecDepth 40000 in
theorem ok_L_turnTo : okM m_L_turnTo := ⟨by decide +kernel, okF_L, gw_in (List.mem_of_getElem? (i := 586) rfl) rfl, by decide +kernel⟩
def m_L_forgetGreys : Mt := (⟨"HalftoneRegions$Lattice", "forgetGreys", "()V"⟩, prog_4_method_4_code, 1, none, [(0, .aload_n 0, 1, 0), (1, .getfield 9, 3, 0), (4, .iconst 0, 1, 0), (5, .invokestatic 37, 3, 0), (8, .return_, 1, 0)], F_L)
set_option maxRecDepth 40000 in
theorem ok_L_forgetGreys : okM m_L_forgetGreys := ⟨by decide +kernel, okF_L, gw_in (List.mem_of_getElem? (i := 581) rfl) rfl, by decide +kernel⟩
def m_L_has : Mt := (⟨"HalftoneRegions$Lattice", "has", "(II)Z"⟩, prog_4_method_5_code, 3, (some .boolean), [(0, .iload_n 1, 1, 0), (1, .iconst 0, 1, 0), (2, .aload_n 0, 1, 0), (3, .getfield 15, 3, 0), (6, .iconst 1, 1, 0), (7, .isub, 1, 0), (8, .invokestatic 43, 3, 0), (11, .ifCond .eq 21, 3, 32), (14, .iload_n 2, 1, 0), (15, .iconst 0, 1, 0), (16, .aload_n 0, 1, 0), (17, .getfield 19, 3, 0), (20, .iconst 1, 1, 0), (21, .isub, 1, 0), (22, .invokestatic 43, 3, 0), (25, .ifCond .eq 7, 3, 32), (28, .iconst 1, 1, 0), (29, .goto 4, 3, 33), (32, .iconst 0, 1, 0), (33, .ireturn, 1, 0)], F_L)
set_option maxRecDepth 40000 in
theorem ok_L_has : okM m_L_has := ⟨by decide +kernel, okF_L, gw_in (List.mem_of_getElem? (i := 759) rfl) rfl, by decide +kernel⟩
def m_L_leftOf : Mt := (⟨"HalftoneRegions$Lattice", "leftOf", "(II)I"⟩, prog_4_method_6_code, 3, (some .int), [(0, .aload_n 0, 1, 0), (1, .getfield 28, 3, 0), (4, .iload_n 2, 1, 0), (5, .aload_n 0, 1, 0), (6, .getfield 34, 3, 0), (9, .imul, 1, 0), (10, .iadd, 1, 0), (11, .iload_n 1, 1, 0), (12, .aload_n 0, 1, 0), (13, .getfield 22, 3, 0), (16, .imul, 1, 0), (17, .iadd, 1, 0), (18, .bipush 8, 2, 0), (20, .ishr, 1, 0), (21, .ireturn, 1, 0)], F_L)
set_option maxRecDepth 40000 in
theorem ok_L_leftOf : okM m_L_leftOf := ⟨by decide +kernel, okF_L, gw_in (List.mem_of_getElem? (i := 352) rfl) rfl, by decide +kernel⟩
def m_L_topOf : Mt := (⟨"HalftoneRegions$Lattice", "topOf", "(II)I"⟩, prog_4_method_7_code, 3, (some .int), [(0, .aload_n 0, 1, 0), (1, .getfield 31, 3, 0), (4, .iload_n 2, 1, 0), (5, .aload_n 0, 1, 0), (6, .getfield 22, 3, 0), (9, .imul, 1, 0), (10, .iadd, 1, 0), (11, .iload_n 1, 1, 0), (12, .aload_n 0, 1, 0), (13, .getfield 34, 3, 0), (16, .imul, 1, 0), (17, .isub, 1, 0), (18, .bipush 8, 2, 0), (20, .ishr, 1, 0), (21, .ireturn, 1, 0)], F_L)
set_option maxRecDepth 40000 in
theorem ok_L_topOf : okM m_L_topOf := ⟨by decide +kernel, okF_L, gw_in (List.mem_of_getElem? (i := 356) rfl) rfl, by decide +kernel⟩
def m_L_greyOf : Mt := (⟨"HalftoneRegions$Lattice", "greyOf", "(II)I"⟩, prog_4_method_8_code, 4, (some .int), [(0, .iload_n 1, 1, 0), (1, .iload_n 2, 1, 0), (2, .invokestatic 47, 3, 0), (5, .istore_n 3, 1, 0), (6, .iload_n 3, 1, 0), (7, .iconst (-1), 1, 0), (8, .if_icmp .ne 7, 3, 15), (11, .iconst 0, 1, 0), (12, .goto 9, 3, 21), (15, .aload_n 0, 1, 0), (16, .getfield 9, 3, 0), (19, .iload_n 3, 1, 0), (20, .iaload, 1, 0), (21, .ireturn, 1, 0)], F_L)
set_option maxRecDepth 40000 in
theorem ok_L_greyOf : okM m_L_greyOf := ⟨by decide +kernel, okF_L, gw_in (List.mem_of_getElem? (i := 389) rfl) rfl, by decide +kernel⟩
def m_L_changeGrey : Mt := (⟨"HalftoneRegions$Lattice", "changeGrey", "(III)Z"⟩, prog_4_method_9_code, 6, (some .boolean), [(0, .iload_n 1, 1, 0), (1, .iload_n 2, 1, 0), (2, .invokestatic 47, 3, 0), (5, .istore 4, 2, 0), (7, .iload 4, 2, 0), (9, .iconst (-1), 1, 0), (10, .if_icmp .ne 5, 3, 15), (13, .iconst 0, 1, 0), (14, .ireturn, 1, 0), (15, .aload_n 0, 1, 0), (16, .getfield 9, 3, 0), (19, .iload 4, 2, 0), (21, .iaload, 1, 0), (22, .iload_n 3, 1, 0), (23, .if_icmp .eq 7, 3, 30), (26, .iconst 1, 1, 0), (27, .goto 4, 3, 31), (30, .iconst 0, 1, 0), (31, .istore 5, 2, 0), (33, .aload_n 0, 1, 0), (34, .getfield 9, 3, 0), (37, .iload 4, 2, 0), (39, .iload_n 3, 1, 0), (40, .iastore, 1, 0), (41, .iload 5, 2, 0), (43, .ireturn, 1, 0)], F_L)
set_option maxRecDepth 40000 in
theorem ok_L_changeGrey : okM m_L_changeGrey := ⟨by decide +kernel, okF_L, gw_in (List.mem_of_getElem? (i := 369) rfl) rfl, by decide +kernel⟩
def m_P_init : Mt := (⟨"HalftoneRegions$Pace", "<init>", "()V"⟩, prog_5_method_1_code, 1, none, [(0, .aload_n 0, 1, 0), (1, .invokespecial 1, 3, 0), (4, .return_, 1, 0)], F_P)
set_option maxRecDepth 40000 in
theorem ok_P_init : okM m_P_init := ⟨by decide +kernel, okF_P, gw_in (List.mem_of_getElem? (i := 193) rfl) rfl, by decide +kernel⟩
def m_P_begin : Mt := (⟨"HalftoneRegions$Pace", "begin", "()V"⟩, prog_5_method_2_code, 1, none, [(0, .aload_n 0, 1, 0), (1, .iconst 4, 1, 0), (2, .putfield 7, 3, 0), (5, .aload_n 0, 1, 0), (6, .iconst 1, 1, 0), (7, .putfield 13, 3, 0), (10, .return_, 1, 0)], F_P)
set_option maxRecDepth 40000 in
theorem ok_P_begin : okM m_P_begin := ⟨by decide +kernel, okF_P, gw_in (List.mem_of_getElem? (i := 431) rfl) rfl, by decide +kernel⟩
def m_P_lowBits : Mt := (⟨"HalftoneRegions$Pace", "lowBits", "()I"⟩, prog_5_method_3_code, 2, (some .int), [(0, .iconst 0, 1, 0), (1, .istore_n 1, 1, 0), (2, .iload_n 1, 1, 0), (3, .bipush 8, 2, 0), (5, .if_icmp .ge 22, 3, 27), (8, .aload_n 0, 1, 0), (9, .getfield 13, 3, 0), (12, .iload_n 1, 1, 0), (13, .ishl, 1, 0), (14, .aload_n 0, 1, 0), (15, .getfield 7, 3, 0), (18, .if_icmp .ge 9, 3, 27), (21, .iinc 1 1, 3, 0), (24, .goto (-22), 3, 2), (27, .iload_n 1, 1, 0), (28, .ireturn, 1, 0)], F_P)
set_option maxRecDepth 40000 in
theorem ok_P_lowBits : okM m_P_lowBits := ⟨by decide +kernel, okF_P, gw_in (List.mem_of_getElem? (i := 469) rfl) rfl, by decide +kernel⟩
def m_P_learn : Mt := (⟨"HalftoneRegions$Pace", "learn", "(I)V"⟩, prog_5_method_4_code, 2, none, [(0, .aload_n 0, 1, 0), (1, .dup, 1, 0), (2, .getfield 7, 3, 0), (5, .iload_n 1, 1, 0), (6, .iadd, 1, 0), (7, .putfield 7, 3, 0), (10, .aload_n 0, 1, 0), (11, .dup, 1, 0), (12, .getfield 13, 3, 0), (15, .iconst 1, 1, 0), (16, .iadd, 1, 0), (17, .putfield 13, 3, 0), (20, .aload_n 0, 1, 0), (21, .getfield 13, 3, 0), (24, .bipush 32, 2, 0), (26, .if_icmp .ne 23, 3, 49), (29, .aload_n 0, 1, 0), (30, .dup, 1, 0), (31, .getfield 7, 3, 0), (34, .iconst 1, 1, 0), (35, .ishr, 1, 0), (36, .putfield 7, 3, 0), (39, .aload_n 0, 1, 0), (40, .dup, 1, 0), (41, .getfield 13, 3, 0), (44, .iconst 1, 1, 0), (45, .ishr, 1, 0), (46, .putfield 13, 3, 0), (49, .return_, 1, 0)], F_P)
set_option maxRecDepth 40000 in
theorem ok_P_learn : okM m_P_learn := ⟨by decide +kernel, okF_P, gw_in (List.mem_of_getElem? (i := 478) rfl) rfl, by decide +kernel⟩
def m_B_init : Mt := (⟨"HalftoneRegions$PatternSet", "<init>", "()V"⟩, prog_6_method_1_code, 1, none, [(0, .aload_n 0, 1, 0), (1, .invokespecial 3, 3, 0), (4, .aload_n 0, 1, 0), (5, .bipush 64, 2, 0), (7, .newarray .long, 2, 0), (9, .putfield 9, 3, 0), (12, .aload_n 0, 1, 0), (13, .iconst 1, 1, 0), (14, .putfield 15, 3, 0), (17, .aload_n 0, 1, 0), (18, .iconst 1, 1, 0), (19, .putfield 19, 3, 0), (22, .aload_n 0, 1, 0), (23, .iconst 1, 1, 0), (24, .putfield 22, 3, 0), (27, .return_, 1, 0)], F_B)
set_option maxRecDepth 40000 in
theorem ok_B_init : okM m_B_init := ⟨by decide +kernel, okF_B, gw_in (List.mem_of_getElem? (i := 106) rfl) rfl, by decide +kernel⟩
def m_B_begin : Mt := (⟨"HalftoneRegions$PatternSet", "begin", "(III)V"⟩, prog_6_method_2_code, 4, none, [(0, .aload_n 0, 1, 0), (1, .iload_n 1, 1, 0), (2, .putfield 15, 3, 0), (5, .aload_n 0, 1, 0), (6, .iload_n 2, 1, 0), (7, .putfield 19, 3, 0), (10, .aload_n 0, 1, 0), (11, .iload_n 3, 1, 0), (12, .putfield 22, 3, 0), (15, .aload_n 0, 1, 0), (16, .getfield 9, 3, 0), (19, .lconst 0, 1, 0), (20, .invokestatic 25, 3, 0), (23, .return_, 1, 0)], F_B)
set_option maxRecDepth 40000 in
theorem ok_B_begin : okM m_B_begin := ⟨by decide +kernel, okF_B, gw_in (List.mem_of_getElem? (i := 570) rfl) rfl, by decide +kernel⟩
def m_B_beginOrdered : Mt := (⟨"HalftoneRegions$PatternSet", "beginOrdered", "(I)V"⟩, prog_6_method_3_code, 5, none, [(0, .aload_n 0, 1, 0), (1, .iload_n 1, 1, 0), (2, .iload_n 1, 1, 0), (3, .iload_n 1, 1, 0), (4, .iload_n 1, 1, 0), (5, .imul, 1, 0), (6, .iconst 1, 1, 0), (7, .iadd, 1, 0), (8, .invokevirtual 31, 3, 0), (11, .iconst 0, 1, 0), (12, .istore_n 2, 1, 0), (13, .iload_n 2, 1, 0), (14, .iload_n 1, 1, 0), (15, .if_icmp .ge 55, 3, 70), (18, .iconst 0, 1, 0), (19, .istore_n 3, 1, 0), (20, .iload_n 3, 1, 0), (21, .iload_n 1, 1, 0), (22, .if_icmp .ge 42, 3, 64), (25, .aload_n 0, 1, 0), (26, .iload_n 3, 1, 0), (27, .iload_n 2, 1, 0), (28, .invokevirtual 35, 3, 0), (31, .iconst 1, 1, 0), (32, .iadd, 1, 0), (33, .istore 4, 2, 0), (35, .iload 4, 2, 0), (37, .aload_n 0, 1, 0), (38, .getfield 22, 3, 0), (41, .if_icmp .ge 17, 3, 58), (44, .aload_n 0, 1, 0), (45, .iload 4, 2, 0), (47, .iload_n 3, 1, 0), (48, .iload_n 2, 1, 0), (49, .invokevirtual 39, 3, 0), (52, .iinc 4 1, 3, 0), (55, .goto (-20), 3, 35), (58, .iinc 3 1, 3, 0), (61, .goto (-41), 3, 20), (64, .iinc 2 1, 3, 0), (67, .goto (-54), 3, 13), (70, .return_, 1, 0)], F_B)
set_option maxRecDepth 40000 in
theorem ok_B_beginOrdered : okM m_B_beginOrdered := ⟨by decide +kernel, okF_B, gw_in (List.mem_of_getElem? (i := 678) rfl) rfl, by decide +kernel⟩
def m_B_rankOf : Mt := (⟨"HalftoneRegions$PatternSet", "rankOf", "(II)I"⟩, prog_6_method_4_code, 7, (some .int), [(0, .iload_n 1, 1, 0), (1, .iload_n 2, 1, 0), (2, .invokestatic 42, 3, 0), (5, .istore_n 3, 1, 0), (6, .iconst 0, 1, 0), (7, .istore 4, 2, 0), (9, .iconst 0, 1, 0), (10, .istore 5, 2, 0), (12, .iload 5, 2, 0), (14, .aload_n 0, 1, 0), (15, .getfield 19, 3, 0), (18, .if_icmp .ge 41, 3, 59), (21, .iconst 0, 1, 0), (22, .istore 6, 2, 0), (24, .iload 6, 2, 0), (26, .aload_n 0, 1, 0), (27, .getfield 15, 3, 0), (30, .if_icmp .ge 23, 3, 53), (33, .iload 6, 2, 0), (35, .iload 5, 2, 0), (37, .invokestatic 42, 3, 0), (40, .iload_n 3, 1, 0), (41, .if_icmp .ge 6, 3, 47), (44, .iinc 4 1, 3, 0), (47, .iinc 6 1, 3, 0), (50, .goto (-26), 3, 24), (53, .iinc 5 1, 3, 0), (56, .goto (-44), 3, 12), (59, .iload 4, 2, 0), (61, .ireturn, 1, 0)], F_B)
set_option maxRecDepth 40000 in
theorem ok_B_rankOf : okM m_B_rankOf := ⟨by decide +kernel, okF_B, gw_in (List.mem_of_getElem? (i := 683) rfl) rfl, by decide +kernel⟩
def m_B_keyOf : Mt := (⟨"HalftoneRegions$PatternSet", "keyOf", "(II)I"⟩, prog_6_method_5_code, 4, (some .int), [(0, .iconst 0, 1, 0), (1, .istore_n 2, 1, 0), (2, .iconst 0, 1, 0), (3, .istore_n 3, 1, 0), (4, .iload_n 3, 1, 0), (5, .iconst 3, 1, 0), (6, .if_icmp .ge 29, 3, 35), (9, .iload_n 2, 1, 0), (10, .iconst 2, 1, 0), (11, .ishl, 1, 0), (12, .iload_n 0, 1, 0), (13, .iload_n 1, 1, 0), (14, .ixor, 1, 0), (15, .iload_n 3, 1, 0), (16, .ishr, 1, 0), (17, .iconst 1, 1, 0), (18, .iand, 1, 0), (19, .iconst 1, 1, 0), (20, .ishl, 1, 0), (21, .ior, 1, 0), (22, .iload_n 1, 1, 0), (23, .iload_n 3, 1, 0), (24, .ishr, 1, 0), (25, .iconst 1, 1, 0), (26, .iand, 1, 0), (27, .ior, 1, 0), (28, .istore_n 2, 1, 0), (29, .iinc 3 1, 3, 0), (32, .goto (-28), 3, 4), (35, .iload_n 2, 1, 0), (36, .ireturn, 1, 0)], F_B)
set_option maxRecDepth 40000 in
theorem ok_B_keyOf : okM m_B_keyOf := ⟨by decide +kernel, okF_B, gw_in (List.mem_of_getElem? (i := 686) rfl) rfl, by decide +kernel⟩
def m_B_hasPattern : Mt := (⟨"HalftoneRegions$PatternSet", "hasPattern", "(I)Z"⟩, prog_6_method_6_code, 2, (some .boolean), [(0, .iload_n 1, 1, 0), (1, .iconst 0, 1, 0), (2, .aload_n 0, 1, 0), (3, .getfield 22, 3, 0), (6, .iconst 1, 1, 0), (7, .isub, 1, 0), (8, .invokestatic 45, 3, 0), (11, .ireturn, 1, 0)], F_B)
set_option maxRecDepth 40000 in
theorem ok_B_hasPattern : okM m_B_hasPattern := ⟨by decide +kernel, okF_B, gw_in (List.mem_of_getElem? (i := 706) rfl) rfl, by decide +kernel⟩
def m_B_has : Mt := (⟨"HalftoneRegions$PatternSet", "has", "(III)Z"⟩, prog_6_method_7_code, 4, (some .boolean), [(0, .aload_n 0, 1, 0), (1, .iload_n 1, 1, 0), (2, .invokevirtual 49, 3, 0), (5, .ifCond .eq 35, 3, 40), (8, .iload_n 2, 1, 0), (9, .iconst 0, 1, 0), (10, .aload_n 0, 1, 0), (11, .getfield 15, 3, 0), (14, .iconst 1, 1, 0), (15, .isub, 1, 0), (16, .invokestatic 45, 3, 0), (19, .ifCond .eq 21, 3, 40), (22, .iload_n 3, 1, 0), (23, .iconst 0, 1, 0), (24, .aload_n 0, 1, 0), (25, .getfield 19, 3, 0), (28, .iconst 1, 1, 0), (29, .isub, 1, 0), (30, .invokestatic 45, 3, 0), (33, .ifCond .eq 7, 3, 40), (36, .iconst 1, 1, 0), (37, .goto 4, 3, 41), (40, .iconst 0, 1, 0), (41, .ireturn, 1, 0)], F_B)
set_option maxRecDepth 40000 in
theorem ok_B_has : okM m_B_has := ⟨by decide +kernel, okF_B, gw_in (List.mem_of_getElem? (i := 702) rfl) rfl, by decide +kernel⟩
def m_B_isDark : Mt := (⟨"HalftoneRegions$PatternSet", "isDark", "(III)Z"⟩, prog_6_method_8_code, 4, (some .boolean), [(0, .aload_n 0, 1, 0), (1, .iload_n 1, 1, 0), (2, .iload_n 3, 1, 0), (3, .invokevirtual 53, 3, 0), (6, .iload_n 2, 1, 0), (7, .ishr, 1, 0), (8, .iconst 1, 1, 0), (9, .iand, 1, 0), (10, .iconst 1, 1, 0), (11, .if_icmp .ne 7, 3, 18), (14, .iconst 1, 1, 0), (15, .goto 4, 3, 19), (18, .iconst 0, 1, 0), (19, .ireturn, 1, 0)], F_B)
set_option maxRecDepth 40000 in
theorem ok_B_isDark : okM m_B_isDark := ⟨by decide +kernel, okF_B, gw_in (List.mem_of_getElem? (i := 726) rfl) rfl, by decide +kernel⟩
def m_B_turn : Mt := (⟨"HalftoneRegions$PatternSet", "turn", "(III)V"⟩, prog_6_method_9_code, 4, none, [(0, .iload_n 1, 1, 0), (1, .iconst 0, 1, 0), (2, .aload_n 0, 1, 0), (3, .getfield 9, 3, 0), (6, .arraylength, 1, 0), (7, .iconst 1, 1, 0), (8, .isub, 1, 0), (9, .invokestatic 45, 3, 0), (12, .ifCond .eq 20, 3, 32), (15, .aload_n 0, 1, 0), (16, .getfield 9, 3, 0), (19, .iload_n 1, 1, 0), (20, .dup2, 1, 0), (21, .laload, 1, 0), (22, .lconst 1, 1, 0), (23, .bipush 8, 2, 0), (25, .iload_n 3, 1, 0), (26, .imul, 1, 0), (27, .iload_n 2, 1, 0), (28, .iadd, 1, 0), (29, .lshl, 1, 0), (30, .lxor, 1, 0), (31, .lastore, 1, 0), (32, .return_, 1, 0)], F_B)
set_option maxRecDepth 40000 in
theorem ok_B_turn : okM m_B_turn := ⟨by decide +kernel, okF_B, gw_in (List.mem_of_getElem? (i := 690) rfl) rfl, by decide +kernel⟩
def m_B_line : Mt := (⟨"HalftoneRegions$PatternSet", "line", "(II)I"⟩, prog_6_method_10_code, 3, (some .int), [(0, .iload_n 1, 1, 0), (1, .iconst 0, 1, 0), (2, .aload_n 0, 1, 0), (3, .getfield 9, 3, 0), (6, .arraylength, 1, 0), (7, .iconst 1, 1, 0), (8, .isub, 1, 0), (9, .invokestatic 45, 3, 0), (12, .ifCond .eq 22, 3, 34), (15, .aload_n 0, 1, 0), (16, .getfield 9, 3, 0), (19, .iload_n 1, 1, 0), (20, .laload, 1, 0), (21, .bipush 8, 2, 0), (23, .iload_n 2, 1, 0), (24, .imul, 1, 0), (25, .lushr, 1, 0), (26, .l2i, 1, 0), (27, .sipush 255, 3, 0), (30, .iand, 1, 0), (31, .goto 4, 3, 35), (34, .iconst 0, 1, 0), (35, .ireturn, 1, 0)], F_B)
set_option maxRecDepth 40000 in
theorem ok_B_line : okM m_B_line := ⟨by decide +kernel, okF_B, gw_in (List.mem_of_getElem? (i := 393) rfl) rfl, by decide +kernel⟩
def m_B_planes : Mt := (⟨"HalftoneRegions$PatternSet", "planes", "()I"⟩, prog_6_method_11_code, 3, (some .int), [(0, .iconst 0, 1, 0), (1, .istore_n 1, 1, 0), (2, .aload_n 0, 1, 0), (3, .getfield 22, 3, 0), (6, .iconst 1, 1, 0), (7, .isub, 1, 0), (8, .istore_n 2, 1, 0), (9, .iload_n 2, 1, 0), (10, .ifCond .le 13, 3, 23), (13, .iinc 1 1, 3, 0), (16, .iload_n 2, 1, 0), (17, .iconst 1, 1, 0), (18, .ishr, 1, 0), (19, .istore_n 2, 1, 0), (20, .goto (-11), 3, 9), (23, .iload_n 1, 1, 0), (24, .ireturn, 1, 0)], F_B)
set_option maxRecDepth 40000 in
theorem ok_B_planes : okM m_B_planes := ⟨by decide +kernel, okF_B, gw_in (List.mem_of_getElem? (i := 439) rfl) rfl, by decide +kernel⟩
def m_B_nearestTo : Mt := (⟨"HalftoneRegions$PatternSet", "nearestTo", "(I)I"⟩, prog_6_method_12_code, 4, (some .int), [(0, .iconst 0, 1, 0), (1, .istore_n 2, 1, 0), (2, .iconst 1, 1, 0), (3, .istore_n 3, 1, 0), (4, .iload_n 3, 1, 0), (5, .aload_n 0, 1, 0), (6, .getfield 22, 3, 0), (9, .if_icmp .ge 35, 3, 44), (12, .iload_n 3, 1, 0), (13, .aload_n 0, 1, 0), (14, .getfield 9, 3, 0), (17, .arraylength, 1, 0), (18, .if_icmp .ge 26, 3, 44), (21, .aload_n 0, 1, 0), (22, .iload_n 3, 1, 0), (23, .iload_n 1, 1, 0), (24, .invokevirtual 56, 3, 0), (27, .aload_n 0, 1, 0), (28, .iload_n 2, 1, 0), (29, .iload_n 1, 1, 0), (30, .invokevirtual 56, 3, 0), (33, .if_icmp .ge 5, 3, 38), (36, .iload_n 3, 1, 0), (37, .istore_n 2, 1, 0), (38, .iinc 3 1, 3, 0), (41, .goto (-37), 3, 4), (44, .iload_n 2, 1, 0), (45, .ireturn, 1, 0)], F_B)
set_option maxRecDepth 40000 in
theorem ok_B_nearestTo : okM m_B_nearestTo := ⟨by decide +kernel, okF_B, gw_in (List.mem_of_getElem? (i := 330) rfl) rfl, by decide +kernel⟩
def m_B_farness : Mt := (⟨"HalftoneRegions$PatternSet", "farness", "(II)I"⟩, prog_6_method_13_code, 4, (some .int), [(0, .aload_n 0, 1, 0), (1, .getfield 9, 3, 0), (4, .iload_n 1, 1, 0), (5, .laload, 1, 0), (6, .invokestatic 59, 3, 0), (9, .iload_n 2, 1, 0), (10, .isub, 1, 0), (11, .istore_n 3, 1, 0), (12, .iload_n 3, 1, 0), (13, .ifCond .le 11, 3, 24), (16, .iconst 2, 1, 0), (17, .iload_n 3, 1, 0), (18, .imul, 1, 0), (19, .iconst 1, 1, 0), (20, .iadd, 1, 0), (21, .goto 7, 3, 28), (24, .bipush (-2), 2, 0), (26, .iload_n 3, 1, 0), (27, .imul, 1, 0), (28, .ireturn, 1, 0)], F_B)
set_option maxRecDepth 40000 in
theorem ok_B_farness : okM m_B_farness := ⟨by decide +kernel, okF_B, gw_in (List.mem_of_getElem? (i := 334) rfl) rfl, by decide +kernel⟩
def m_R_init : Mt := (⟨"HalftoneRegions$RunReader", "<init>", "()V"⟩, prog_7_method_1_code, 1, none, [(0, .aload_n 0, 1, 0), (1, .invokespecial 3, 3, 0), (4, .aload_n 0, 1, 0), (5, .sipush 3000, 3, 0), (8, .newarray .byte, 2, 0), (10, .putfield 9, 3, 0), (13, .aload_n 0, 1, 0), (14, .new 15, 3, 0), (17, .dup, 1, 0), (18, .invokespecial 17, 3, 0), (21, .putfield 18, 3, 0), (24, .return_, 1, 0)], F_R)
set_option maxRecDepth 40000 in
theorem ok_R_init : okM m_R_init := ⟨by decide +kernel, okF_R, gw_in (List.mem_of_getElem? (i := 224) rfl) rfl, by decide +kernel⟩
def m_R_hasRoomFor : Mt := (⟨"HalftoneRegions$RunReader", "hasRoomFor", "(I)Z"⟩, prog_7_method_2_code, 2, (some .boolean), [(0, .iload_n 1, 1, 0), (1, .aload_n 0, 1, 0), (2, .getfield 9, 3, 0), (5, .arraylength, 1, 0), (6, .aload_n 0, 1, 0), (7, .getfield 22, 3, 0), (10, .isub, 1, 0), (11, .if_icmp .gt 7, 3, 18), (14, .iconst 1, 1, 0), (15, .goto 4, 3, 19), (18, .iconst 0, 1, 0), (19, .ireturn, 1, 0)], F_R)
set_option maxRecDepth 40000 in
theorem ok_R_hasRoomFor : okM m_R_hasRoomFor := ⟨by decide +kernel, okF_R, gw_in (List.mem_of_getElem? (i := 846) rfl) rfl, by decide +kernel⟩
def m_R_take : Mt := (⟨"HalftoneRegions$RunReader", "take", "(I)V"⟩, prog_7_method_3_code, 2, none, [(0, .aload_n 0, 1, 0), (1, .getfield 22, 3, 0), (4, .iconst 0, 1, 0), (5, .aload_n 0, 1, 0), (6, .getfield 9, 3, 0), (9, .arraylength, 1, 0), (10, .iconst 1, 1, 0), (11, .isub, 1, 0), (12, .invokestatic 26, 3, 0), (15, .ifCond .eq 24, 3, 39), (18, .aload_n 0, 1, 0), (19, .getfield 9, 3, 0), (22, .aload_n 0, 1, 0), (23, .getfield 22, 3, 0), (26, .iload_n 1, 1, 0), (27, .i2b, 1, 0), (28, .bastore, 1, 0), (29, .aload_n 0, 1, 0), (30, .dup, 1, 0), (31, .getfield 22, 3, 0), (34, .iconst 1, 1, 0), (35, .iadd, 1, 0), (36, .putfield 22, 3, 0), (39, .return_, 1, 0)], F_R)
set_option maxRecDepth 40000 in
theorem ok_R_take : okM m_R_take := ⟨by decide +kernel, okF_R, gw_in (List.mem_of_getElem? (i := 866) rfl) rfl, by decide +kernel⟩
def m_R_forgetBytes : Mt := (⟨"HalftoneRegions$RunReader", "forgetBytes", "()V"⟩, prog_7_method_4_code, 1, none, [(0, .aload_n 0, 1, 0), (1, .iconst 0, 1, 0), (2, .putfield 22, 3, 0), (5, .return_, 1, 0)], F_R)
set_option maxRecDepth 40000 in
theorem ok_R_forgetBytes : okM m_R_forgetBytes := ⟨by decide +kernel, okF_R, gw_in (List.mem_of_getElem? (i := 550) rfl) rfl, by decide +kernel⟩
def m_R_begin : Mt := (⟨"HalftoneRegions$RunReader", "begin", "(I)V"⟩, prog_7_method_5_code, 2, none, [(0, .aload_n 0, 1, 0), (1, .getfield 18, 3, 0), (4, .invokevirtual 30, 3, 0), (7, .aload_n 0, 1, 0), (8, .iconst 0, 1, 0), (9, .putfield 33, 3, 0), (12, .aload_n 0, 1, 0), (13, .iload_n 1, 1, 0), (14, .putfield 36, 3, 0), (17, .aload_n 0, 1, 0), (18, .iconst (-1), 1, 0), (19, .putfield 39, 3, 0), (22, .aload_n 0, 1, 0), (23, .iconst 0, 1, 0), (24, .putfield 42, 3, 0), (27, .aload_n 0, 1, 0), (28, .iconst 0, 1, 0), (29, .putfield 45, 3, 0), (32, .return_, 1, 0)], F_R)
set_option maxRecDepth 40000 in
theorem ok_R_begin : okM m_R_begin := ⟨by decide +kernel, okF_R, gw_in (List.mem_of_getElem? (i := 501) rfl) rfl, by decide +kernel⟩
def m_R_nextBit : Mt := (⟨"HalftoneRegions$RunReader", "nextBit", "(I)I"⟩, prog_7_method_6_code, 2, (some .int), [(0, .aload_n 0, 1, 0), (1, .getfield 39, 3, 0), (4, .iconst (-1), 1, 0), (5, .if_icmp .ne 7, 3, 12), (8, .aload_n 0, 1, 0), (9, .invokevirtual 48, 3, 0), (12, .aload_n 0, 1, 0), (13, .getfield 45, 3, 0), (16, .ifCond .eq 5, 3, 21), (19, .iconst 0, 1, 0), (20, .ireturn, 1, 0), (21, .aload_n 0, 1, 0), (22, .dup, 1, 0), (23, .getfield 36, 3, 0), (26, .iconst 1, 1, 0), (27, .isub, 1, 0), (28, .putfield 36, 3, 0), (31, .aload_n 0, 1, 0), (32, .dup, 1, 0), (33, .getfield 39, 3, 0), (36, .iconst 1, 1, 0), (37, .isub, 1, 0), (38, .putfield 39, 3, 0), (41, .aload_n 0, 1, 0), (42, .getfield 39, 3, 0), (45, .iconst (-1), 1, 0), (46, .if_icmp .ne 9, 3, 55), (49, .iconst 1, 1, 0), (50, .iload_n 1, 1, 0), (51, .isub, 1, 0), (52, .goto 4, 3, 56), (55, .iload_n 1, 1, 0), (56, .ireturn, 1, 0)], F_R)
set_option maxRecDepth 40000 in
theorem ok_R_nextBit : okM m_R_nextBit := ⟨by decide +kernel, okF_R, gw_in (List.mem_of_getElem? (i := 510) rfl) rfl, by decide +kernel⟩
def m_R_readRun : Mt := (⟨"HalftoneRegions$RunReader", "readRun", "()V"⟩, prog_7_method_7_code, 4, none, [(0, .aload_n 0, 1, 0), (1, .getfield 18, 3, 0), (4, .invokevirtual 51, 3, 0), (7, .istore_n 1, 1, 0), (8, .iconst 0, 1, 0), (9, .istore_n 2, 1, 0), (10, .iload_n 2, 1, 0), (11, .bipush 12, 2, 0), (13, .if_icmp .ge 17, 3, 30), (16, .aload_n 0, 1, 0), (17, .invokevirtual 55, 3, 0), (20, .iconst 1, 1, 0), (21, .if_icmp .ne 9, 3, 30), (24, .iinc 2 1, 3, 0), (27, .goto (-17), 3, 10), (30, .iload_n 2, 1, 0), (31, .bipush 12, 2, 0), (33, .if_icmp .ge 15, 3, 48), (36, .iload_n 2, 1, 0), (37, .iload_n 1, 1, 0), (38, .ishl, 1, 0), (39, .aload_n 0, 1, 0), (40, .iload_n 1, 1, 0), (41, .invokevirtual 58, 3, 0), (44, .ior, 1, 0), (45, .goto 9, 3, 54), (48, .aload_n 0, 1, 0), (49, .bipush 13, 2, 0), (51, .invokevirtual 58, 3, 0), (54, .istore_n 3, 1, 0), (55, .aload_n 0, 1, 0), (56, .getfield 45, 3, 0), (59, .ifCond .eq 4, 3, 63), (62, .return_, 1, 0), (63, .aload_n 0, 1, 0), (64, .dup, 1, 0), (65, .getfield 42, 3, 0), (68, .iconst 1, 1, 0), (69, .iadd, 1, 0), (70, .putfield 42, 3, 0), (73, .iload_n 3, 1, 0), (74, .aload_n 0, 1, 0), (75, .getfield 36, 3, 0), (78, .if_icmp .le 9, 3, 87), (81, .aload_n 0, 1, 0), (82, .iconst 2, 1, 0), (83, .putfield 45, 3, 0), (86, .return_, 1, 0), (87, .aload_n 0, 1, 0), (88, .iload_n 3, 1, 0), (89, .putfield 39, 3, 0), (92, .aload_n 0, 1, 0), (93, .getfield 18, 3, 0), (96, .iload_n 3, 1, 0), (97, .invokevirtual 62, 3, 0), (100, .return_, 1, 0)], F_R)
set_option maxRecDepth 40000 in
theorem ok_R_readRun : okM m_R_readRun := ⟨by decide +kernel, okF_R, gw_in (List.mem_of_getElem? (i := 514) rfl) rfl, by decide +kernel⟩
def m_R_read : Mt := (⟨"HalftoneRegions$RunReader", "read", "(I)I"⟩, prog_7_method_8_code, 4, (some .int), [(0, .iconst 0, 1, 0), (1, .istore_n 2, 1, 0), (2, .iconst 0, 1, 0), (3, .istore_n 3, 1, 0), (4, .iload_n 3, 1, 0), (5, .iload_n 1, 1, 0), (6, .if_icmp .ge 18, 3, 24), (9, .iload_n 2, 1, 0), (10, .iconst 1, 1, 0), (11, .ishl, 1, 0), (12, .aload_n 0, 1, 0), (13, .invokevirtual 55, 3, 0), (16, .ior, 1, 0), (17, .istore_n 2, 1, 0), (18, .iinc 3 1, 3, 0), (21, .goto (-17), 3, 4), (24, .iload_n 2, 1, 0), (25, .ireturn, 1, 0)], F_R)
set_option maxRecDepth 40000 in
theorem ok_R_read : okM m_R_read := ⟨by decide +kernel, okF_R, gw_in (List.mem_of_getElem? (i := 525) rfl) rfl, by decide +kernel⟩
def m_R_readBit : Mt := (⟨"HalftoneRegions$RunReader", "readBit", "()I"⟩, prog_7_method_9_code, 3, (some .int), [(0, .aload_n 0, 1, 0), (1, .getfield 33, 3, 0), (4, .iconst 3, 1, 0), (5, .ishr, 1, 0), (6, .istore_n 1, 1, 0), (7, .iload_n 1, 1, 0), (8, .iconst 0, 1, 0), (9, .aload_n 0, 1, 0), (10, .getfield 22, 3, 0), (13, .aload_n 0, 1, 0), (14, .getfield 9, 3, 0), (17, .arraylength, 1, 0), (18, .invokestatic 66, 3, 0), (21, .iconst 1, 1, 0), (22, .isub, 1, 0), (23, .invokestatic 26, 3, 0), (26, .ifCond .ne 10, 3, 36), (29, .aload_n 0, 1, 0), (30, .iconst 1, 1, 0), (31, .putfield 45, 3, 0), (34, .iconst 0, 1, 0), (35, .ireturn, 1, 0), (36, .aload_n 0, 1, 0), (37, .getfield 9, 3, 0), (40, .iload_n 1, 1, 0), (41, .baload, 1, 0), (42, .bipush 7, 2, 0), (44, .aload_n 0, 1, 0), (45, .getfield 33, 3, 0), (48, .bipush 7, 2, 0), (50, .iand, 1, 0), (51, .isub, 1, 0), (52, .ishr, 1, 0), (53, .iconst 1, 1, 0), (54, .iand, 1, 0), (55, .istore_n 2, 1, 0), (56, .aload_n 0, 1, 0), (57, .dup, 1, 0), (58, .getfield 33, 3, 0), (61, .iconst 1, 1, 0), (62, .iadd, 1, 0), (63, .putfield 33, 3, 0), (66, .iload_n 2, 1, 0), (67, .ireturn, 1, 0)], F_R)
set_option maxRecDepth 40000 in
theorem ok_R_readBit : okM m_R_readBit := ⟨by decide +kernel, okF_R, gw_in (List.mem_of_getElem? (i := 519) rfl) rfl, by decide +kernel⟩
def m_R_end : Mt := (⟨"HalftoneRegions$RunReader", "end", "()V"⟩, prog_7_method_10_code, 1, none, [(0, .aload_n 0, 1, 0), (1, .getfield 45, 3, 0), (4, .ifCond .ne 15, 3, 19), (7, .aload_n 0, 1, 0), (8, .getfield 39, 3, 0), (11, .iconst (-1), 1, 0), (12, .if_icmp .ne 7, 3, 19), (15, .aload_n 0, 1, 0), (16, .invokevirtual 48, 3, 0), (19, .aload_n 0, 1, 0), (20, .getfield 45, 3, 0), (23, .ifCond .ne 15, 3, 38), (26, .aload_n 0, 1, 0), (27, .invokevirtual 72, 3, 0), (30, .ifCond .ne 8, 3, 38), (33, .aload_n 0, 1, 0), (34, .iconst 3, 1, 0), (35, .putfield 45, 3, 0), (38, .return_, 1, 0)], F_R)
set_option maxRecDepth 40000 in
theorem ok_R_end : okM m_R_end := ⟨by decide +kernel, okF_R, gw_in (List.mem_of_getElem? (i := 534) rfl) rfl, by decide +kernel⟩
def m_R_isAllRead : Mt := (⟨"HalftoneRegions$RunReader", "isAllRead", "()Z"⟩, prog_7_method_11_code, 4, (some .boolean), [(0, .aload_n 0, 1, 0), (1, .getfield 33, 3, 0), (4, .bipush 7, 2, 0), (6, .iadd, 1, 0), (7, .iconst 3, 1, 0), (8, .ishr, 1, 0), (9, .istore_n 1, 1, 0), (10, .iload_n 1, 1, 0), (11, .iconst 1, 1, 0), (12, .isub, 1, 0), (13, .istore_n 2, 1, 0), (14, .iload_n 1, 1, 0), (15, .aload_n 0, 1, 0), (16, .getfield 22, 3, 0), (19, .if_icmp .lt 18, 3, 37), (22, .iload_n 2, 1, 0), (23, .iconst 0, 1, 0), (24, .aload_n 0, 1, 0), (25, .getfield 9, 3, 0), (28, .arraylength, 1, 0), (29, .iconst 1, 1, 0), (30, .isub, 1, 0), (31, .invokestatic 26, 3, 0), (34, .ifCond .ne 5, 3, 39), (37, .iconst 0, 1, 0), (38, .ireturn, 1, 0), (39, .iload_n 1, 1, 0), (40, .iconst 3, 1, 0), (41, .ishl, 1, 0), (42, .aload_n 0, 1, 0), (43, .getfield 33, 3, 0), (46, .isub, 1, 0), (47, .istore_n 3, 1, 0), (48, .aload_n 0, 1, 0), (49, .getfield 9, 3, 0), (52, .iload_n 2, 1, 0), (53, .baload, 1, 0), (54, .iconst 1, 1, 0), (55, .iload_n 3, 1, 0), (56, .ishl, 1, 0), (57, .iconst 1, 1, 0), (58, .isub, 1, 0), (59, .iand, 1, 0), (60, .ifCond .ne 7, 3, 67), (63, .iconst 1, 1, 0), (64, .goto 4, 3, 68), (67, .iconst 0, 1, 0), (68, .ireturn, 1, 0)], F_R)
set_option maxRecDepth 40000 in
theorem ok_R_isAllRead : okM m_R_isAllRead := ⟨by decide +kernel, okF_R, gw_in (List.mem_of_getElem? (i := 538) rfl) rfl, by decide +kernel⟩
def m_W_init : Mt := (⟨"HalftoneRegions$RunWriter", "<init>", "()V"⟩, prog_8_method_1_code, 1, none, [(0, .aload_n 0, 1, 0), (1, .invokespecial 3, 3, 0), (4, .aload_n 0, 1, 0), (5, .sipush 384, 3, 0), (8, .newarray .byte, 2, 0), (10, .putfield 9, 3, 0), (13, .aload_n 0, 1, 0), (14, .new 15, 3, 0), (17, .dup, 1, 0), (18, .invokespecial 17, 3, 0), (21, .putfield 18, 3, 0), (24, .return_, 1, 0)], F_W)
set_option maxRecDepth 40000 in
theorem ok_W_init : okM m_W_init := ⟨by decide +kernel, okF_W, gw_in (List.mem_of_getElem? (i := 187) rfl) rfl, by decide +kernel⟩
def m_W_begin : Mt := (⟨"HalftoneRegions$RunWriter", "begin", "()V"⟩, prog_8_method_2_code, 1, none, [(0, .aload_n 0, 1, 0), (1, .getfield 9, 3, 0), (4, .iconst 0, 1, 0), (5, .invokestatic 22, 3, 0), (8, .aload_n 0, 1, 0), (9, .getfield 18, 3, 0), (12, .invokevirtual 28, 3, 0), (15, .aload_n 0, 1, 0), (16, .iconst 0, 1, 0), (17, .putfield 31, 3, 0), (20, .aload_n 0, 1, 0), (21, .iconst 0, 1, 0), (22, .putfield 35, 3, 0), (25, .aload_n 0, 1, 0), (26, .iconst 0, 1, 0), (27, .putfield 38, 3, 0), (30, .return_, 1, 0)], F_W)
set_option maxRecDepth 40000 in
theorem ok_W_begin : okM m_W_begin := ⟨by decide +kernel, okF_W, gw_in (List.mem_of_getElem? (i := 424) rfl) rfl, by decide +kernel⟩
def m_W_tell : Mt := (⟨"HalftoneRegions$RunWriter", "tell", "(Z)V"⟩, prog_8_method_3_code, 2, none, [(0, .iload_n 1, 1, 0), (1, .ifCond .eq 16, 3, 17), (4, .aload_n 0, 1, 0), (5, .dup, 1, 0), (6, .getfield 35, 3, 0), (9, .iconst 1, 1, 0), (10, .iadd, 1, 0), (11, .putfield 35, 3, 0), (14, .goto 7, 3, 21), (17, .aload_n 0, 1, 0), (18, .invokevirtual 41, 3, 0), (21, .return_, 1, 0)], F_W)
set_option maxRecDepth 40000 in
theorem ok_W_tell : okM m_W_tell := ⟨by decide +kernel, okF_W, gw_in (List.mem_of_getElem? (i := 461) rfl) rfl, by decide +kernel⟩
def m_W_endRun : Mt := (⟨"HalftoneRegions$RunWriter", "endRun", "()V"⟩, prog_8_method_4_code, 3, none, [(0, .aload_n 0, 1, 0), (1, .getfield 18, 3, 0), (4, .invokevirtual 44, 3, 0), (7, .istore_n 1, 1, 0), (8, .aload_n 0, 1, 0), (9, .getfield 35, 3, 0), (12, .iload_n 1, 1, 0), (13, .ishr, 1, 0), (14, .istore_n 2, 1, 0), (15, .iload_n 2, 1, 0), (16, .bipush 12, 2, 0), (18, .if_icmp .ge 29, 3, 47), (21, .aload_n 0, 1, 0), (22, .iconst 1, 1, 0), (23, .iload_n 2, 1, 0), (24, .ishl, 1, 0), (25, .iconst 1, 1, 0), (26, .isub, 1, 0), (27, .iconst 1, 1, 0), (28, .ishl, 1, 0), (29, .iload_n 2, 1, 0), (30, .iconst 1, 1, 0), (31, .iadd, 1, 0), (32, .invokevirtual 48, 3, 0), (35, .aload_n 0, 1, 0), (36, .aload_n 0, 1, 0), (37, .getfield 35, 3, 0), (40, .iload_n 1, 1, 0), (41, .invokevirtual 48, 3, 0), (44, .goto 22, 3, 66), (47, .aload_n 0, 1, 0), (48, .sipush 4095, 3, 0), (51, .bipush 12, 2, 0), (53, .invokevirtual 48, 3, 0), (56, .aload_n 0, 1, 0), (57, .aload_n 0, 1, 0), (58, .getfield 35, 3, 0), (61, .bipush 13, 2, 0), (63, .invokevirtual 48, 3, 0), (66, .aload_n 0, 1, 0), (67, .getfield 18, 3, 0), (70, .aload_n 0, 1, 0), (71, .getfield 35, 3, 0), (74, .invokevirtual 52, 3, 0), (77, .aload_n 0, 1, 0), (78, .iconst 0, 1, 0), (79, .putfield 35, 3, 0), (82, .aload_n 0, 1, 0), (83, .dup, 1, 0), (84, .getfield 38, 3, 0), (87, .iconst 1, 1, 0), (88, .iadd, 1, 0), (89, .putfield 38, 3, 0), (92, .return_, 1, 0)], F_W)
set_option maxRecDepth 40000 in
theorem ok_W_endRun : okM m_W_endRun := ⟨by decide +kernel, okF_W, gw_in (List.mem_of_getElem? (i := 465) rfl) rfl, by decide +kernel⟩
def m_W_write : Mt := (⟨"HalftoneRegions$RunWriter", "write", "(II)V"⟩, prog_8_method_5_code, 5, none, [(0, .iload_n 2, 1, 0), (1, .iconst 1, 1, 0), (2, .isub, 1, 0), (3, .istore_n 3, 1, 0), (4, .iload_n 3, 1, 0), (5, .ifCond .lt 70, 3, 75), (8, .aload_n 0, 1, 0), (9, .getfield 31, 3, 0), (12, .iconst 3, 1, 0), (13, .ishr, 1, 0), (14, .istore 4, 2, 0), (16, .iload 4, 2, 0), (18, .iconst 0, 1, 0), (19, .aload_n 0, 1, 0), (20, .getfield 9, 3, 0), (23, .arraylength, 1, 0), (24, .iconst 1, 1, 0), (25, .isub, 1, 0), (26, .invokestatic 56, 3, 0), (29, .ifCond .eq 40, 3, 69), (32, .aload_n 0, 1, 0), (33, .getfield 9, 3, 0), (36, .iload 4, 2, 0), (38, .dup2, 1, 0), (39, .baload, 1, 0), (40, .iload_n 1, 1, 0), (41, .iload_n 3, 1, 0), (42, .ishr, 1, 0), (43, .iconst 1, 1, 0), (44, .iand, 1, 0), (45, .bipush 7, 2, 0), (47, .aload_n 0, 1, 0), (48, .getfield 31, 3, 0), (51, .bipush 7, 2, 0), (53, .iand, 1, 0), (54, .isub, 1, 0), (55, .ishl, 1, 0), (56, .ior, 1, 0), (57, .i2b, 1, 0), (58, .bastore, 1, 0), (59, .aload_n 0, 1, 0), (60, .dup, 1, 0), (61, .getfield 31, 3, 0), (64, .iconst 1, 1, 0), (65, .iadd, 1, 0), (66, .putfield 31, 3, 0), (69, .iinc 3 (-1), 3, 0), (72, .goto (-68), 3, 4), (75, .return_, 1, 0)], F_W)
set_option maxRecDepth 40000 in
theorem ok_W_write : okM m_W_write := ⟨by decide +kernel, okF_W, gw_in (List.mem_of_getElem? (i := 473) rfl) rfl, by decide +kernel⟩
def m_W_size : Mt := (⟨"HalftoneRegions$RunWriter", "size", "()I"⟩, prog_8_method_6_code, 1, (some .int), [(0, .aload_n 0, 1, 0), (1, .getfield 31, 3, 0), (4, .bipush 7, 2, 0), (6, .iadd, 1, 0), (7, .iconst 3, 1, 0), (8, .ishr, 1, 0), (9, .ireturn, 1, 0)], F_W)
set_option maxRecDepth 40000 in
theorem ok_W_size : okM m_W_size := ⟨by decide +kernel, okF_W, gw_in (List.mem_of_getElem? (i := 489) rfl) rfl, by decide +kernel⟩
def m_W_made : Mt := (⟨"HalftoneRegions$RunWriter", "made", "(I)I"⟩, prog_8_method_7_code, 2, (some .int), [(0, .iload_n 1, 1, 0), (1, .iconst 0, 1, 0), (2, .aload_n 0, 1, 0), (3, .getfield 9, 3, 0), (6, .arraylength, 1, 0), (7, .iconst 1, 1, 0), (8, .isub, 1, 0), (9, .invokestatic 56, 3, 0), (12, .ifCond .eq 16, 3, 28), (15, .aload_n 0, 1, 0), (16, .getfield 9, 3, 0), (19, .iload_n 1, 1, 0), (20, .baload, 1, 0), (21, .sipush 255, 3, 0), (24, .iand, 1, 0), (25, .goto 4, 3, 29), (28, .iconst 0, 1, 0), (29, .ireturn, 1, 0)], F_W)
set_option maxRecDepth 40000 in
theorem ok_W_made : okM m_W_made := ⟨by decide +kernel, okF_W, gw_in (List.mem_of_getElem? (i := 833) rfl) rfl, by decide +kernel⟩
def m_S_init : Mt := (⟨"HalftoneRegions$Sheet", "<init>", "(II)V"⟩, prog_9_method_1_code, 3, none, [(0, .aload_n 0, 1, 0), (1, .invokespecial 3, 3, 0), (4, .aload_n 0, 1, 0), (5, .iload_n 2, 1, 0), (6, .iconst 1, 1, 0), (7, .if_icmp .lt 7, 3, 14), (10, .iload_n 2, 1, 0), (11, .goto 4, 3, 15), (14, .iconst 1, 1, 0), (15, .newarray .int, 2, 0), (17, .putfield 9, 3, 0), (20, .aload_n 0, 1, 0), (21, .iload_n 1, 1, 0), (22, .bipush 32, 2, 0), (24, .if_icmp .lt 7, 3, 31), (27, .iconst (-1), 1, 0), (28, .goto 8, 3, 36), (31, .iconst 1, 1, 0), (32, .iload_n 1, 1, 0), (33, .ishl, 1, 0), (34, .iconst 1, 1, 0), (35, .isub, 1, 0), (36, .putfield 15, 3, 0), (39, .return_, 1, 0)], F_S)
set_option maxRecDepth 40000 in
theorem ok_S_init : okM m_S_init := ⟨by decide +kernel, okF_S, gw_in (List.mem_of_getElem? (i := 91) rfl) rfl, by decide +kernel⟩
def m_S_line : Mt := (⟨"HalftoneRegions$Sheet", "line", "(I)I"⟩, prog_9_method_2_code, 2, (some .int), [(0, .iload_n 1, 1, 0), (1, .iconst 0, 1, 0), (2, .aload_n 0, 1, 0), (3, .getfield 9, 3, 0), (6, .arraylength, 1, 0), (7, .iconst 1, 1, 0), (8, .isub, 1, 0), (9, .invokestatic 19, 3, 0), (12, .ifCond .eq 12, 3, 24), (15, .aload_n 0, 1, 0), (16, .getfield 9, 3, 0), (19, .iload_n 1, 1, 0), (20, .iaload, 1, 0), (21, .goto 4, 3, 25), (24, .iconst 0, 1, 0), (25, .ireturn, 1, 0)], F_S)
set_option maxRecDepth 40000 in
theorem ok_S_line : okM m_S_line := ⟨by decide +kernel, okF_S, gw_in (List.mem_of_getElem? (i := 309) rfl) rfl, by decide +kernel⟩
def m_S_changeLine : Mt := (⟨"HalftoneRegions$Sheet", "changeLine", "(II)I"⟩, prog_9_method_3_code, 4, (some .int), [(0, .iload_n 1, 1, 0), (1, .iconst 0, 1, 0), (2, .aload_n 0, 1, 0), (3, .getfield 9, 3, 0), (6, .arraylength, 1, 0), (7, .iconst 1, 1, 0), (8, .isub, 1, 0), (9, .invokestatic 19, 3, 0), (12, .ifCond .ne 5, 3, 17), (15, .iconst 0, 1, 0), (16, .ireturn, 1, 0), (17, .aload_n 0, 1, 0), (18, .getfield 9, 3, 0), (21, .iload_n 1, 1, 0), (22, .iaload, 1, 0), (23, .iload_n 2, 1, 0), (24, .ixor, 1, 0), (25, .aload_n 0, 1, 0), (26, .getfield 15, 3, 0), (29, .iand, 1, 0), (30, .invokestatic 23, 3, 0), (33, .istore_n 3, 1, 0), (34, .aload_n 0, 1, 0), (35, .getfield 9, 3, 0), (38, .iload_n 1, 1, 0), (39, .iload_n 2, 1, 0), (40, .aload_n 0, 1, 0), (41, .getfield 15, 3, 0), (44, .iand, 1, 0), (45, .iastore, 1, 0), (46, .iload_n 3, 1, 0), (47, .ireturn, 1, 0)], F_S)
set_option maxRecDepth 40000 in
theorem ok_S_changeLine : okM m_S_changeLine := ⟨by decide +kernel, okF_S, gw_in (List.mem_of_getElem? (i := 316) rfl) rfl, by decide +kernel⟩
def m_S_fill : Mt := (⟨"HalftoneRegions$Sheet", "fill", "(Z)V"⟩, prog_9_method_4_code, 2, none, [(0, .aload_n 0, 1, 0), (1, .getfield 9, 3, 0), (4, .iload_n 1, 1, 0), (5, .ifCond .eq 10, 3, 15), (8, .aload_n 0, 1, 0), (9, .getfield 15, 3, 0), (12, .goto 4, 3, 16), (15, .iconst 0, 1, 0), (16, .invokestatic 29, 3, 0), (19, .return_, 1, 0)], F_S)
set_option maxRecDepth 40000 in
theorem ok_S_fill : okM m_S_fill := ⟨by decide +kernel, okF_S, gw_in (List.mem_of_getElem? (i := 380) rfl) rfl, by decide +kernel⟩
def m_S_darkSamples : Mt := (⟨"HalftoneRegions$Sheet", "darkSamples", "()I"⟩, prog_9_method_5_code, 3, (some .int), [(0, .iconst 0, 1, 0), (1, .istore_n 1, 1, 0), (2, .iconst 0, 1, 0), (3, .istore_n 2, 1, 0), (4, .iload_n 2, 1, 0), (5, .aload_n 0, 1, 0), (6, .getfield 9, 3, 0), (9, .arraylength, 1, 0), (10, .if_icmp .ge 21, 3, 31), (13, .iload_n 1, 1, 0), (14, .aload_n 0, 1, 0), (15, .getfield 9, 3, 0), (18, .iload_n 2, 1, 0), (19, .iaload, 1, 0), (20, .invokestatic 23, 3, 0), (23, .iadd, 1, 0), (24, .istore_n 1, 1, 0), (25, .iinc 2 1, 3, 0), (28, .goto (-24), 3, 4), (31, .iload_n 1, 1, 0), (32, .ireturn, 1, 0)], F_S)
set_option maxRecDepth 40000 in
theorem ok_S_darkSamples : okM m_S_darkSamples := ⟨by decide +kernel, okF_S, gw_in (List.mem_of_getElem? (i := 402) rfl) rfl, by decide +kernel⟩
def m_Z_cell0 : Mt := (⟨"HalftoneRegionsLaw", "cell", "([II)I"⟩, method_2_code, 2, (some .int), [(0, .iload_n 1, 1, 0), (1, .aload_n 0, 1, 0), (2, .arraylength, 1, 0), (3, .if_icmp .ge 9, 3, 12), (6, .aload_n 0, 1, 0), (7, .iload_n 1, 1, 0), (8, .iaload, 1, 0), (9, .goto 4, 3, 13), (12, .iconst 0, 1, 0), (13, .ireturn, 1, 0)], F_Z)
set_option maxRecDepth 40000 in
theorem ok_Z_cell0 : okM m_Z_cell0 := ⟨by decide +kernel, okF_Z, gw_in (List.mem_of_getElem? (i := 589) rfl) rfl, by decide +kernel⟩
def m_JI_bitCount : Mt := (⟨"java/lang/Integer", "bitCount", "(I)I"⟩, prog_15_method_49_code, 1, (some .int), [(0, .iload_n 0, 1, 0), (1, .iload_n 0, 1, 0), (2, .iconst 1, 1, 0), (3, .iushr, 1, 0), (4, .ldc_w 265, 3, 0), (7, .iand, 1, 0), (8, .isub, 1, 0), (9, .istore_n 0, 1, 0), (10, .iload_n 0, 1, 0), (11, .ldc_w 266, 3, 0), (14, .iand, 1, 0), (15, .iload_n 0, 1, 0), (16, .iconst 2, 1, 0), (17, .iushr, 1, 0), (18, .ldc_w 266, 3, 0), (21, .iand, 1, 0), (22, .iadd, 1, 0), (23, .istore_n 0, 1, 0), (24, .iload_n 0, 1, 0), (25, .iload_n 0, 1, 0), (26, .iconst 4, 1, 0), (27, .iushr, 1, 0), (28, .iadd, 1, 0), (29, .ldc_w 267, 3, 0), (32, .iand, 1, 0), (33, .istore_n 0, 1, 0), (34, .iload_n 0, 1, 0), (35, .iload_n 0, 1, 0), (36, .bipush 8, 2, 0), (38, .iushr, 1, 0), (39, .iadd, 1, 0), (40, .istore_n 0, 1, 0), (41, .iload_n 0, 1, 0), (42, .iload_n 0, 1, 0), (43, .bipush 16, 2, 0), (45, .iushr, 1, 0), (46, .iadd, 1, 0), (47, .istore_n 0, 1, 0), (48, .iload_n 0, 1, 0), (49, .bipush 63, 2, 0), (51, .iand, 1, 0), (52, .ireturn, 1, 0)], F_JI)
set_option maxRecDepth 40000 in
theorem ok_JI_bitCount : okM m_JI_bitCount := ⟨by decide +kernel, okF_JI, gw_in (List.mem_of_getElem? (i := 319) rfl) rfl, by decide +kernel⟩
def m_JL_bitCount : Mt := (⟨"java/lang/Long", "bitCount", "(J)I"⟩, prog_16_method_50_code, 2, (some .int), [(0, .lload_n 0, 1, 0), (1, .lload_n 0, 1, 0), (2, .iconst 1, 1, 0), (3, .lushr, 1, 0), (4, .ldc2_w 314, 3, 0), (7, .land, 1, 0), (8, .lsub, 1, 0), (9, .lstore_n 0, 1, 0), (10, .lload_n 0, 1, 0), (11, .ldc2_w 316, 3, 0), (14, .land, 1, 0), (15, .lload_n 0, 1, 0), (16, .iconst 2, 1, 0), (17, .lushr, 1, 0), (18, .ldc2_w 316, 3, 0), (21, .land, 1, 0), (22, .ladd, 1, 0), (23, .lstore_n 0, 1, 0), (24, .lload_n 0, 1, 0), (25, .lload_n 0, 1, 0), (26, .iconst 4, 1, 0), (27, .lushr, 1, 0), (28, .ladd, 1, 0), (29, .ldc2_w 318, 3, 0), (32, .land, 1, 0), (33, .lstore_n 0, 1, 0), (34, .lload_n 0, 1, 0), (35, .lload_n 0, 1, 0), (36, .bipush 8, 2, 0), (38, .lushr, 1, 0), (39, .ladd, 1, 0), (40, .lstore_n 0, 1, 0), (41, .lload_n 0, 1, 0), (42, .lload_n 0, 1, 0), (43, .bipush 16, 2, 0), (45, .lushr, 1, 0), (46, .ladd, 1, 0), (47, .lstore_n 0, 1, 0), (48, .lload_n 0, 1, 0), (49, .lload_n 0, 1, 0), (50, .bipush 32, 2, 0), (52, .lushr, 1, 0), (53, .ladd, 1, 0), (54, .lstore_n 0, 1, 0), (55, .lload_n 0, 1, 0), (56, .l2i, 1, 0), (57, .bipush 127, 2, 0), (59, .iand, 1, 0), (60, .ireturn, 1, 0)], F_JL)
set_option maxRecDepth 40000 in
theorem ok_JL_bitCount : okM m_JL_bitCount := ⟨by decide +kernel, okF_JL, gw_in (List.mem_of_getElem? (i := 337) rfl) rfl, by decide +kernel⟩
def m_JA_fill0 : Mt := (⟨"java/util/Arrays", "fill", "([BB)V"⟩, prog_22_method_109_code, 4, none, [(0, .iconst 0, 1, 0), (1, .istore_n 2, 1, 0), (2, .aload_n 0, 1, 0), (3, .arraylength, 1, 0), (4, .istore_n 3, 1, 0), (5, .iload_n 2, 1, 0), (6, .iload_n 3, 1, 0), (7, .if_icmp .ge 13, 3, 20), (10, .aload_n 0, 1, 0), (11, .iload_n 2, 1, 0), (12, .iload_n 1, 1, 0), (13, .bastore, 1, 0), (14, .iinc 2 1, 3, 0), (17, .goto (-12), 3, 5), (20, .return_, 1, 0)], F_JA)
set_option maxRecDepth 40000 in
theorem ok_JA_fill0 : okM m_JA_fill0 := ⟨by decide +kernel, okF_JA, gw_in (List.mem_of_getElem? (i := 427) rfl) rfl, by decide +kernel⟩
def m_JA_fill1 : Mt := (⟨"java/util/Arrays", "fill", "([II)V"⟩, prog_22_method_103_code, 4, none, [(0, .iconst 0, 1, 0), (1, .istore_n 2, 1, 0), (2, .aload_n 0, 1, 0), (3, .arraylength, 1, 0), (4, .istore_n 3, 1, 0), (5, .iload_n 2, 1, 0), (6, .iload_n 3, 1, 0), (7, .if_icmp .ge 13, 3, 20), (10, .aload_n 0, 1, 0), (11, .iload_n 2, 1, 0), (12, .iload_n 1, 1, 0), (13, .iastore, 1, 0), (14, .iinc 2 1, 3, 0), (17, .goto (-12), 3, 5), (20, .return_, 1, 0)], F_JA)
set_option maxRecDepth 40000 in
theorem ok_JA_fill1 : okM m_JA_fill1 := ⟨by decide +kernel, okF_JA, gw_in (List.mem_of_getElem? (i := 173) rfl) rfl, by decide +kernel⟩
def m_JA_fill2 : Mt := (⟨"java/util/Arrays", "fill", "([JJ)V"⟩, prog_22_method_101_code, 5, none, [(0, .iconst 0, 1, 0), (1, .istore_n 3, 1, 0), (2, .aload_n 0, 1, 0), (3, .arraylength, 1, 0), (4, .istore 4, 2, 0), (6, .iload_n 3, 1, 0), (7, .iload 4, 2, 0), (9, .if_icmp .ge 13, 3, 22), (12, .aload_n 0, 1, 0), (13, .iload_n 3, 1, 0), (14, .lload_n 1, 1, 0), (15, .lastore, 1, 0), (16, .iinc 3 1, 3, 0), (19, .goto (-13), 3, 6), (22, .return_, 1, 0)], F_JA)
set_option maxRecDepth 40000 in
theorem ok_JA_fill2 : okM m_JA_fill2 := ⟨by decide +kernel, okF_JA, gw_in (List.mem_of_getElem? (i := 573) rfl) rfl, by decide +kernel⟩
end
section
theorem sc_H_isWithin : Jvm.Cond.static m_H_isWithin.1 ∈ lw_tbl := List.mem_of_getElem? (i := 311) (by decide +kernel)
theorem ii_H : Jvm.Cond.initialized "HalftoneRegions" ∈ lw_tbl := List.mem_of_getElem? (i := 53) (by decide +kernel)
theorem lk_H_83 : lkS "HalftoneRegions" 83 m_H_isWithin 3 := ⟨List.mem_of_getElem? (i := 365) (by decide +kernel), sc_H_isWithin, ii_H, ⟨by decide +kernel, by decide +kernel, by decide +kernel⟩⟩
theorem im_B_begin : Jvm.Cond.instanceMethod m_B_begin.1 ∈ lw_tbl := List.mem_of_getElem? (i := 568) (by decide +kernel)
theorem se_B_begin : Jvm.Cond.selects "HalftoneRegions$PatternSet" m_B_begin.1 m_B_begin.1 ∈ lw_tbl := List.mem_of_getElem? (i := 569) (by decide +kernel)
theorem ii_B : Jvm.Cond.initialized "HalftoneRegions$PatternSet" ∈ lw_tbl := List.mem_of_getElem? (i := 56) (by decide +kernel)
theorem lk_H_96 : lkV "HalftoneRegions" 96 m_B_begin 3 := ⟨List.mem_of_getElem? (i := 567) (by decide +kernel), im_B_begin, se_B_begin, ii_B, ⟨by decide +kernel, by decide +kernel, by decide +kernel⟩⟩
theorem im_L_forgetGreys : Jvm.Cond.instanceMethod m_L_forgetGreys.1 ∈ lw_tbl := List.mem_of_getElem? (i := 579) (by decide +kernel)
theorem se_L_forgetGreys : Jvm.Cond.selects "HalftoneRegions$Lattice" m_L_forgetGreys.1 m_L_forgetGreys.1 ∈ lw_tbl := List.mem_of_getElem? (i := 580) (by decide +kernel)
theorem ii_L : Jvm.Cond.initialized "HalftoneRegions$Lattice" ∈ lw_tbl := List.mem_of_getElem? (i := 57) (by decide +kernel)
theorem lk_H_100 : lkV "HalftoneRegions" 100 m_L_forgetGreys 0 := ⟨List.mem_of_getElem? (i := 666) (by decide +kernel), im_L_forgetGreys, se_L_forgetGreys, ii_L, ⟨by decide +kernel, by decide +kernel, by decide +kernel⟩⟩
theorem im_B_planes : Jvm.Cond.instanceMethod m_B_planes.1 ∈ lw_tbl := List.mem_of_getElem? (i := 437) (by decide +kernel)
theorem se_B_planes : Jvm.Cond.selects "HalftoneRegions$PatternSet" m_B_planes.1 m_B_planes.1 ∈ lw_tbl := List.mem_of_getElem? (i := 438) (by decide +kernel)
theorem lk_H_103 : lkV "HalftoneRegions" 103 m_B_planes 0 := ⟨List.mem_of_getElem? (i := 436) (by decide +kernel), im_B_planes, se_B_planes, ii_B, ⟨by decide +kernel, by decide +kernel, by decide +kernel⟩⟩
theorem im_B_beginOrdered : Jvm.Cond.instanceMethod m_B_beginOrdered.1 ∈ lw_tbl := List.mem_of_getElem? (i := 676) (by decide +kernel)
theorem se_B_beginOrdered : Jvm.Cond.selects "HalftoneRegions$PatternSet" m_B_beginOrdered.1 m_B_beginOrdered.1 ∈ lw_tbl := List.mem_of_getElem? (i := 677) (by decide +kernel)
theorem lk_H_109 : lkV "HalftoneRegions" 109 m_B_beginOrdered 1 := ⟨List.mem_of_getElem? (i := 675) (by decide +kernel), im_B_beginOrdered, se_B_beginOrdered, ii_B, ⟨by decide +kernel, by decide +kernel, by decide +kernel⟩⟩
theorem im_B_has : Jvm.Cond.instanceMethod m_B_has.1 ∈ lw_tbl := List.mem_of_getElem? (i := 700) (by decide +kernel)
theorem se_B_has : Jvm.Cond.selects "HalftoneRegions$PatternSet" m_B_has.1 m_B_has.1 ∈ lw_tbl := List.mem_of_getElem? (i := 701) (by decide +kernel)
theorem lk_H_116 : lkV "HalftoneRegions" 116 m_B_has 3 := ⟨List.mem_of_getElem? (i := 699) (by decide +kernel), im_B_has, se_B_has, ii_B, ⟨by decide +kernel, by decide +kernel, by decide +kernel⟩⟩
theorem im_B_isDark : Jvm.Cond.instanceMethod m_B_isDark.1 ∈ lw_tbl := List.mem_of_getElem? (i := 724) (by decide +kernel)
theorem se_B_isDark : Jvm.Cond.selects "HalftoneRegions$PatternSet" m_B_isDark.1 m_B_isDark.1 ∈ lw_tbl := List.mem_of_getElem? (i := 725) (by decide +kernel)
theorem lk_H_124 : lkV "HalftoneRegions" 124 m_B_isDark 3 := ⟨List.mem_of_getElem? (i := 723) (by decide +kernel), im_B_isDark, se_B_isDark, ii_B, ⟨by decide +kernel, by decide +kernel, by decide +kernel⟩⟩
theorem im_B_turn : Jvm.Cond.instanceMethod m_B_turn.1 ∈ lw_tbl := List.mem_of_getElem? (i := 688) (by decide +kernel)
theorem se_B_turn : Jvm.Cond.selects "HalftoneRegions$PatternSet" m_B_turn.1 m_B_turn.1 ∈ lw_tbl := List.mem_of_getElem? (i := 689) (by decide +kernel)
theorem lk_H_127 : lkV "HalftoneRegions" 127 m_B_turn 3 := ⟨List.mem_of_getElem? (i := 728) (by decide +kernel), im_B_turn, se_B_turn, ii_B, ⟨by decide +kernel, by decide +kernel, by decide +kernel⟩⟩
theorem im_L_begin : Jvm.Cond.instanceMethod m_L_begin.1 ∈ lw_tbl := List.mem_of_getElem? (i := 575) (by decide +kernel)
theorem se_L_begin : Jvm.Cond.selects "HalftoneRegions$Lattice" m_L_begin.1 m_L_begin.1 ∈ lw_tbl := List.mem_of_getElem? (i := 576) (by decide +kernel)
theorem lk_H_140 : lkV "HalftoneRegions" 140 m_L_begin 2 := ⟨List.mem_of_getElem? (i := 574) (by decide +kernel), im_L_begin, se_L_begin, ii_L, ⟨by decide +kernel, by decide +kernel, by decide +kernel⟩⟩
theorem im_L_turnTo : Jvm.Cond.instanceMethod m_L_turnTo.1 ∈ lw_tbl := List.mem_of_getElem? (i := 584) (by decide +kernel)
theorem se_L_turnTo : Jvm.Cond.selects "HalftoneRegions$Lattice" m_L_turnTo.1 m_L_turnTo.1 ∈ lw_tbl := List.mem_of_getElem? (i := 585) (by decide +kernel)
theorem lk_H_142 : lkV "HalftoneRegions" 142 m_L_turnTo 4 := ⟨List.mem_of_getElem? (i := 583) (by decide +kernel), im_L_turnTo, se_L_turnTo, ii_L, ⟨by decide +kernel, by decide +kernel, by decide +kernel⟩⟩
theorem im_H_placesOutside : Jvm.Cond.instanceMethod m_H_placesOutside.1 ∈ lw_tbl := List.mem_of_getElem? (i := 496) (by decide +kernel)
theorem se_H_placesOutside : Jvm.Cond.selects "HalftoneRegions" m_H_placesOutside.1 m_H_placesOutside.1 ∈ lw_tbl := List.mem_of_getElem? (i := 9) (by decide +kernel)
theorem lk_H_146 : lkV "HalftoneRegions" 146 m_H_placesOutside 0 := ⟨List.mem_of_getElem? (i := 494) (by decide +kernel), im_H_placesOutside, se_H_placesOutside, ii_H, ⟨by decide +kernel, by decide +kernel, by decide +kernel⟩⟩
theorem im_L_has : Jvm.Cond.instanceMethod m_L_has.1 ∈ lw_tbl := List.mem_of_getElem? (i := 757) (by decide +kernel)
theorem se_L_has : Jvm.Cond.selects "HalftoneRegions$Lattice" m_L_has.1 m_L_has.1 ∈ lw_tbl := List.mem_of_getElem? (i := 758) (by decide +kernel)
theorem lk_H_149 : lkV "HalftoneRegions" 149 m_L_has 2 := ⟨List.mem_of_getElem? (i := 756) (by decide +kernel), im_L_has, se_L_has, ii_L, ⟨by decide +kernel, by decide +kernel, by decide +kernel⟩⟩
theorem im_L_leftOf : Jvm.Cond.instanceMethod m_L_leftOf.1 ∈ lw_tbl := List.mem_of_getElem? (i := 350) (by decide +kernel)
theorem se_L_leftOf : Jvm.Cond.selects "HalftoneRegions$Lattice" m_L_leftOf.1 m_L_leftOf.1 ∈ lw_tbl := List.mem_of_getElem? (i := 351) (by decide +kernel)
theorem lk_H_156 : lkV "HalftoneRegions" 156 m_L_leftOf 2 := ⟨List.mem_of_getElem? (i := 349) (by decide +kernel), im_L_leftOf, se_L_leftOf, ii_L, ⟨by decide +kernel, by decide +kernel, by decide +kernel⟩⟩
theorem im_L_topOf : Jvm.Cond.instanceMethod m_L_topOf.1 ∈ lw_tbl := List.mem_of_getElem? (i := 354) (by decide +kernel)
theorem se_L_topOf : Jvm.Cond.selects "HalftoneRegions$Lattice" m_L_topOf.1 m_L_topOf.1 ∈ lw_tbl := List.mem_of_getElem? (i := 355) (by decide +kernel)
theorem lk_H_159 : lkV "HalftoneRegions" 159 m_L_topOf 2 := ⟨List.mem_of_getElem? (i := 353) (by decide +kernel), im_L_topOf, se_L_topOf, ii_L, ⟨by decide +kernel, by decide +kernel, by decide +kernel⟩⟩
theorem im_H_isOutside : Jvm.Cond.instanceMethod m_H_isOutside.1 ∈ lw_tbl := List.mem_of_getElem? (i := 347) (by decide +kernel)
theorem se_H_isOutside : Jvm.Cond.selects "HalftoneRegions" m_H_isOutside.1 m_H_isOutside.1 ∈ lw_tbl := List.mem_of_getElem? (i := 2) (by decide +kernel)
theorem lk_H_162 : lkV "HalftoneRegions" 162 m_H_isOutside 2 := ⟨List.mem_of_getElem? (i := 345) (by decide +kernel), im_H_isOutside, se_H_isOutside, ii_H, ⟨by decide +kernel, by decide +kernel, by decide +kernel⟩⟩
theorem im_B_hasPattern : Jvm.Cond.instanceMethod m_B_hasPattern.1 ∈ lw_tbl := List.mem_of_getElem? (i := 704) (by decide +kernel)
theorem se_B_hasPattern : Jvm.Cond.selects "HalftoneRegions$PatternSet" m_B_hasPattern.1 m_B_hasPattern.1 ∈ lw_tbl := List.mem_of_getElem? (i := 705) (by decide +kernel)
theorem lk_H_165 : lkV "HalftoneRegions" 165 m_B_hasPattern 1 := ⟨List.mem_of_getElem? (i := 777) (by decide +kernel), im_B_hasPattern, se_B_hasPattern, ii_B, ⟨by decide +kernel, by decide +kernel, by decide +kernel⟩⟩
theorem im_L_changeGrey : Jvm.Cond.instanceMethod m_L_changeGrey.1 ∈ lw_tbl := List.mem_of_getElem? (i := 367) (by decide +kernel)
theorem se_L_changeGrey : Jvm.Cond.selects "HalftoneRegions$Lattice" m_L_changeGrey.1 m_L_changeGrey.1 ∈ lw_tbl := List.mem_of_getElem? (i := 368) (by decide +kernel)
theorem lk_H_171 : lkV "HalftoneRegions" 171 m_L_changeGrey 3 := ⟨List.mem_of_getElem? (i := 366) (by decide +kernel), im_L_changeGrey, se_L_changeGrey, ii_L, ⟨by decide +kernel, by decide +kernel, by decide +kernel⟩⟩
theorem im_L_greyOf : Jvm.Cond.instanceMethod m_L_greyOf.1 ∈ lw_tbl := List.mem_of_getElem? (i := 387) (by decide +kernel)
theorem se_L_greyOf : Jvm.Cond.selects "HalftoneRegions$Lattice" m_L_greyOf.1 m_L_greyOf.1 ∈ lw_tbl := List.mem_of_getElem? (i := 388) (by decide +kernel)
theorem lk_H_174 : lkV "HalftoneRegions" 174 m_L_greyOf 2 := ⟨List.mem_of_getElem? (i := 386) (by decide +kernel), im_L_greyOf, se_L_greyOf, ii_L, ⟨by decide +kernel, by decide +kernel, by decide +kernel⟩⟩
theorem im_H_changeWay : Jvm.Cond.instanceMethod m_H_changeWay.1 ∈ lw_tbl := List.mem_of_getElem? (i := 797) (by decide +kernel)
theorem se_H_changeWay : Jvm.Cond.selects "HalftoneRegions" m_H_changeWay.1 m_H_changeWay.1 ∈ lw_tbl := List.mem_of_getElem? (i := 18) (by decide +kernel)
theorem lk_H_181 : lkV "HalftoneRegions" 181 m_H_changeWay 2 := ⟨List.mem_of_getElem? (i := 795) (by decide +kernel), im_H_changeWay, se_H_changeWay, ii_H, ⟨by decide +kernel, by decide +kernel, by decide +kernel⟩⟩
theorem im_S_changeLine : Jvm.Cond.instanceMethod m_S_changeLine.1 ∈ lw_tbl := List.mem_of_getElem? (i := 314) (by decide +kernel)
theorem se_S_changeLine : Jvm.Cond.selects "HalftoneRegions$Sheet" m_S_changeLine.1 m_S_changeLine.1 ∈ lw_tbl := List.mem_of_getElem? (i := 315) (by decide +kernel)
theorem ii_S : Jvm.Cond.initialized "HalftoneRegions$Sheet" ∈ lw_tbl := List.mem_of_getElem? (i := 55) (by decide +kernel)
theorem lk_H_186 : lkV "HalftoneRegions" 186 m_S_changeLine 2 := ⟨List.mem_of_getElem? (i := 313) (by decide +kernel), im_S_changeLine, se_S_changeLine, ii_S, ⟨by decide +kernel, by decide +kernel, by decide +kernel⟩⟩
theorem im_S_line : Jvm.Cond.instanceMethod m_S_line.1 ∈ lw_tbl := List.mem_of_getElem? (i := 307) (by decide +kernel)
theorem se_S_line : Jvm.Cond.selects "HalftoneRegions$Sheet" m_S_line.1 m_S_line.1 ∈ lw_tbl := List.mem_of_getElem? (i := 308) (by decide +kernel)
theorem lk_H_189 : lkV "HalftoneRegions" 189 m_S_line 1 := ⟨List.mem_of_getElem? (i := 306) (by decide +kernel), im_S_line, se_S_line, ii_S, ⟨by decide +kernel, by decide +kernel, by decide +kernel⟩⟩
theorem im_H_darkUnder : Jvm.Cond.instanceMethod m_H_darkUnder.1 ∈ lw_tbl := List.mem_of_getElem? (i := 343) (by decide +kernel)
theorem se_H_darkUnder : Jvm.Cond.selects "HalftoneRegions" m_H_darkUnder.1 m_H_darkUnder.1 ∈ lw_tbl := List.mem_of_getElem? (i := 1) (by decide +kernel)
theorem lk_H_193 : lkV "HalftoneRegions" 193 m_H_darkUnder 2 := ⟨List.mem_of_getElem? (i := 341) (by decide +kernel), im_H_darkUnder, se_H_darkUnder, ii_H, ⟨by decide +kernel, by decide +kernel, by decide +kernel⟩⟩
theorem im_B_nearestTo : Jvm.Cond.instanceMethod m_B_nearestTo.1 ∈ lw_tbl := List.mem_of_getElem? (i := 328) (by decide +kernel)
theorem se_B_nearestTo : Jvm.Cond.selects "HalftoneRegions$PatternSet" m_B_nearestTo.1 m_B_nearestTo.1 ∈ lw_tbl := List.mem_of_getElem? (i := 329) (by decide +kernel)
theorem lk_H_196 : lkV "HalftoneRegions" 196 m_B_nearestTo 1 := ⟨List.mem_of_getElem? (i := 327) (by decide +kernel), im_B_nearestTo, se_B_nearestTo, ii_B, ⟨by decide +kernel, by decide +kernel, by decide +kernel⟩⟩
theorem im_S_fill : Jvm.Cond.instanceMethod m_S_fill.1 ∈ lw_tbl := List.mem_of_getElem? (i := 378) (by decide +kernel)
theorem se_S_fill : Jvm.Cond.selects "HalftoneRegions$Sheet" m_S_fill.1 m_S_fill.1 ∈ lw_tbl := List.mem_of_getElem? (i := 379) (by decide +kernel)
theorem lk_H_208 : lkV "HalftoneRegions" 208 m_S_fill 1 := ⟨List.mem_of_getElem? (i := 377) (by decide +kernel), im_S_fill, se_S_fill, ii_S, ⟨by decide +kernel, by decide +kernel, by decide +kernel⟩⟩
theorem im_H_layPattern : Jvm.Cond.instanceMethod m_H_layPattern.1 ∈ lw_tbl := List.mem_of_getElem? (i := 384) (by decide +kernel)
theorem se_H_layPattern : Jvm.Cond.selects "HalftoneRegions" m_H_layPattern.1 m_H_layPattern.1 ∈ lw_tbl := List.mem_of_getElem? (i := 4) (by decide +kernel)
theorem lk_H_212 : lkV "HalftoneRegions" 212 m_H_layPattern 2 := ⟨List.mem_of_getElem? (i := 382) (by decide +kernel), im_H_layPattern, se_H_layPattern, ii_H, ⟨by decide +kernel, by decide +kernel, by decide +kernel⟩⟩
theorem im_S_darkSamples : Jvm.Cond.instanceMethod m_S_darkSamples.1 ∈ lw_tbl := List.mem_of_getElem? (i := 400) (by decide +kernel)
theorem se_S_darkSamples : Jvm.Cond.selects "HalftoneRegions$Sheet" m_S_darkSamples.1 m_S_darkSamples.1 ∈ lw_tbl := List.mem_of_getElem? (i := 401) (by decide +kernel)
theorem lk_H_215 : lkV "HalftoneRegions" 215 m_S_darkSamples 0 := ⟨List.mem_of_getElem? (i := 399) (by decide +kernel), im_S_darkSamples, se_S_darkSamples, ii_S, ⟨by decide +kernel, by decide +kernel, by decide +kernel⟩⟩
theorem im_C_begin : Jvm.Cond.instanceMethod m_C_begin.1 ∈ lw_tbl := List.mem_of_getElem? (i := 408) (by decide +kernel)
theorem se_C_begin : Jvm.Cond.selects "HalftoneRegions$Codes" m_C_begin.1 m_C_begin.1 ∈ lw_tbl := List.mem_of_getElem? (i := 409) (by decide +kernel)
theorem ii_C : Jvm.Cond.initialized "HalftoneRegions$Codes" ∈ lw_tbl := List.mem_of_getElem? (i := 58) (by decide +kernel)
theorem lk_H_220 : lkV "HalftoneRegions" 220 m_C_begin 0 := ⟨List.mem_of_getElem? (i := 407) (by decide +kernel), im_C_begin, se_C_begin, ii_C, ⟨by decide +kernel, by decide +kernel, by decide +kernel⟩⟩
theorem im_H_isSkipped : Jvm.Cond.instanceMethod m_H_isSkipped.1 ∈ lw_tbl := List.mem_of_getElem? (i := 414) (by decide +kernel)
theorem se_H_isSkipped : Jvm.Cond.selects "HalftoneRegions" m_H_isSkipped.1 m_H_isSkipped.1 ∈ lw_tbl := List.mem_of_getElem? (i := 6) (by decide +kernel)
theorem lk_H_222 : lkV "HalftoneRegions" 222 m_H_isSkipped 2 := ⟨List.mem_of_getElem? (i := 412) (by decide +kernel), im_H_isSkipped, se_H_isSkipped, ii_H, ⟨by decide +kernel, by decide +kernel, by decide +kernel⟩⟩
theorem im_C_setGrey : Jvm.Cond.instanceMethod m_C_setGrey.1 ∈ lw_tbl := List.mem_of_getElem? (i := 417) (by decide +kernel)
theorem se_C_setGrey : Jvm.Cond.selects "HalftoneRegions$Codes" m_C_setGrey.1 m_C_setGrey.1 ∈ lw_tbl := List.mem_of_getElem? (i := 418) (by decide +kernel)
theorem lk_H_225 : lkV "HalftoneRegions" 225 m_C_setGrey 3 := ⟨List.mem_of_getElem? (i := 416) (by decide +kernel), im_C_setGrey, se_C_setGrey, ii_C, ⟨by decide +kernel, by decide +kernel, by decide +kernel⟩⟩
theorem im_W_begin : Jvm.Cond.instanceMethod m_W_begin.1 ∈ lw_tbl := List.mem_of_getElem? (i := 422) (by decide +kernel)
theorem se_W_begin : Jvm.Cond.selects "HalftoneRegions$RunWriter" m_W_begin.1 m_W_begin.1 ∈ lw_tbl := List.mem_of_getElem? (i := 423) (by decide +kernel)
theorem ii_W : Jvm.Cond.initialized "HalftoneRegions$RunWriter" ∈ lw_tbl := List.mem_of_getElem? (i := 61) (by decide +kernel)
theorem lk_H_228 : lkV "HalftoneRegions" 228 m_W_begin 0 := ⟨List.mem_of_getElem? (i := 421) (by decide +kernel), im_W_begin, se_W_begin, ii_W, ⟨by decide +kernel, by decide +kernel, by decide +kernel⟩⟩
theorem im_F_beginPlane : Jvm.Cond.instanceMethod m_F_beginPlane.1 ∈ lw_tbl := List.mem_of_getElem? (i := 433) (by decide +kernel)
theorem se_F_beginPlane : Jvm.Cond.selects "HalftoneRegions$Forecast" m_F_beginPlane.1 m_F_beginPlane.1 ∈ lw_tbl := List.mem_of_getElem? (i := 434) (by decide +kernel)
theorem ii_F : Jvm.Cond.initialized "HalftoneRegions$Forecast" ∈ lw_tbl := List.mem_of_getElem? (i := 59) (by decide +kernel)
theorem lk_H_229 : lkV "HalftoneRegions" 229 m_F_beginPlane 0 := ⟨List.mem_of_getElem? (i := 432) (by decide +kernel), im_F_beginPlane, se_F_beginPlane, ii_F, ⟨by decide +kernel, by decide +kernel, by decide +kernel⟩⟩
theorem im_H_writePlane : Jvm.Cond.instanceMethod m_H_writePlane.1 ∈ lw_tbl := List.mem_of_getElem? (i := 442) (by decide +kernel)
theorem se_H_writePlane : Jvm.Cond.selects "HalftoneRegions" m_H_writePlane.1 m_H_writePlane.1 ∈ lw_tbl := List.mem_of_getElem? (i := 7) (by decide +kernel)
theorem lk_H_232 : lkV "HalftoneRegions" 232 m_H_writePlane 1 := ⟨List.mem_of_getElem? (i := 440) (by decide +kernel), im_H_writePlane, se_H_writePlane, ii_H, ⟨by decide +kernel, by decide +kernel, by decide +kernel⟩⟩
theorem im_W_endRun : Jvm.Cond.instanceMethod m_W_endRun.1 ∈ lw_tbl := List.mem_of_getElem? (i := 463) (by decide +kernel)
theorem se_W_endRun : Jvm.Cond.selects "HalftoneRegions$RunWriter" m_W_endRun.1 m_W_endRun.1 ∈ lw_tbl := List.mem_of_getElem? (i := 464) (by decide +kernel)
theorem lk_H_235 : lkV "HalftoneRegions" 235 m_W_endRun 0 := ⟨List.mem_of_getElem? (i := 485) (by decide +kernel), im_W_endRun, se_W_endRun, ii_W, ⟨by decide +kernel, by decide +kernel, by decide +kernel⟩⟩
theorem im_W_size : Jvm.Cond.instanceMethod m_W_size.1 ∈ lw_tbl := List.mem_of_getElem? (i := 487) (by decide +kernel)
theorem se_W_size : Jvm.Cond.selects "HalftoneRegions$RunWriter" m_W_size.1 m_W_size.1 ∈ lw_tbl := List.mem_of_getElem? (i := 488) (by decide +kernel)
theorem lk_H_242 : lkV "HalftoneRegions" 242 m_W_size 0 := ⟨List.mem_of_getElem? (i := 486) (by decide +kernel), im_W_size, se_W_size, ii_W, ⟨by decide +kernel, by decide +kernel, by decide +kernel⟩⟩
theorem im_W_made : Jvm.Cond.instanceMethod m_W_made.1 ∈ lw_tbl := List.mem_of_getElem? (i := 831) (by decide +kernel)
theorem se_W_made : Jvm.Cond.selects "HalftoneRegions$RunWriter" m_W_made.1 m_W_made.1 ∈ lw_tbl := List.mem_of_getElem? (i := 832) (by decide +kernel)
theorem lk_H_247 : lkV "HalftoneRegions" 247 m_W_made 1 := ⟨List.mem_of_getElem? (i := 830) (by decide +kernel), im_W_made, se_W_made, ii_W, ⟨by decide +kernel, by decide +kernel, by decide +kernel⟩⟩
theorem im_R_hasRoomFor : Jvm.Cond.instanceMethod m_R_hasRoomFor.1 ∈ lw_tbl := List.mem_of_getElem? (i := 844) (by decide +kernel)
theorem se_R_hasRoomFor : Jvm.Cond.selects "HalftoneRegions$RunReader" m_R_hasRoomFor.1 m_R_hasRoomFor.1 ∈ lw_tbl := List.mem_of_getElem? (i := 845) (by decide +kernel)
theorem ii_R : Jvm.Cond.initialized "HalftoneRegions$RunReader" ∈ lw_tbl := List.mem_of_getElem? (i := 63) (by decide +kernel)
theorem lk_H_252 : lkV "HalftoneRegions" 252 m_R_hasRoomFor 1 := ⟨List.mem_of_getElem? (i := 843) (by decide +kernel), im_R_hasRoomFor, se_R_hasRoomFor, ii_R, ⟨by decide +kernel, by decide +kernel, by decide +kernel⟩⟩
theorem im_R_take : Jvm.Cond.instanceMethod m_R_take.1 ∈ lw_tbl := List.mem_of_getElem? (i := 864) (by decide +kernel)
theorem se_R_take : Jvm.Cond.selects "HalftoneRegions$RunReader" m_R_take.1 m_R_take.1 ∈ lw_tbl := List.mem_of_getElem? (i := 865) (by decide +kernel)
theorem lk_H_260 : lkV "HalftoneRegions" 260 m_R_take 1 := ⟨List.mem_of_getElem? (i := 863) (by decide +kernel), im_R_take, se_R_take, ii_R, ⟨by decide +kernel, by decide +kernel, by decide +kernel⟩⟩
theorem im_R_begin : Jvm.Cond.instanceMethod m_R_begin.1 ∈ lw_tbl := List.mem_of_getElem? (i := 499) (by decide +kernel)
theorem se_R_begin : Jvm.Cond.selects "HalftoneRegions$RunReader" m_R_begin.1 m_R_begin.1 ∈ lw_tbl := List.mem_of_getElem? (i := 500) (by decide +kernel)
theorem lk_H_271 : lkV "HalftoneRegions" 271 m_R_begin 1 := ⟨List.mem_of_getElem? (i := 498) (by decide +kernel), im_R_begin, se_R_begin, ii_R, ⟨by decide +kernel, by decide +kernel, by decide +kernel⟩⟩
theorem im_H_readPlane : Jvm.Cond.instanceMethod m_H_readPlane.1 ∈ lw_tbl := List.mem_of_getElem? (i := 505) (by decide +kernel)
theorem se_H_readPlane : Jvm.Cond.selects "HalftoneRegions" m_H_readPlane.1 m_H_readPlane.1 ∈ lw_tbl := List.mem_of_getElem? (i := 10) (by decide +kernel)
theorem lk_H_276 : lkV "HalftoneRegions" 276 m_H_readPlane 1 := ⟨List.mem_of_getElem? (i := 503) (by decide +kernel), im_H_readPlane, se_H_readPlane, ii_H, ⟨by decide +kernel, by decide +kernel, by decide +kernel⟩⟩
theorem im_R_end : Jvm.Cond.instanceMethod m_R_end.1 ∈ lw_tbl := List.mem_of_getElem? (i := 532) (by decide +kernel)
theorem se_R_end : Jvm.Cond.selects "HalftoneRegions$RunReader" m_R_end.1 m_R_end.1 ∈ lw_tbl := List.mem_of_getElem? (i := 533) (by decide +kernel)
theorem lk_H_279 : lkV "HalftoneRegions" 279 m_R_end 0 := ⟨List.mem_of_getElem? (i := 531) (by decide +kernel), im_R_end, se_R_end, ii_R, ⟨by decide +kernel, by decide +kernel, by decide +kernel⟩⟩
theorem im_C_greatestGrey : Jvm.Cond.instanceMethod m_C_greatestGrey.1 ∈ lw_tbl := List.mem_of_getElem? (i := 540) (by decide +kernel)
theorem se_C_greatestGrey : Jvm.Cond.selects "HalftoneRegions$Codes" m_C_greatestGrey.1 m_C_greatestGrey.1 ∈ lw_tbl := List.mem_of_getElem? (i := 541) (by decide +kernel)
theorem lk_H_283 : lkV "HalftoneRegions" 283 m_C_greatestGrey 0 := ⟨List.mem_of_getElem? (i := 539) (by decide +kernel), im_C_greatestGrey, se_C_greatestGrey, ii_C, ⟨by decide +kernel, by decide +kernel, by decide +kernel⟩⟩
theorem im_R_forgetBytes : Jvm.Cond.instanceMethod m_R_forgetBytes.1 ∈ lw_tbl := List.mem_of_getElem? (i := 548) (by decide +kernel)
theorem se_R_forgetBytes : Jvm.Cond.selects "HalftoneRegions$RunReader" m_R_forgetBytes.1 m_R_forgetBytes.1 ∈ lw_tbl := List.mem_of_getElem? (i := 549) (by decide +kernel)
theorem lk_H_286 : lkV "HalftoneRegions" 286 m_R_forgetBytes 0 := ⟨List.mem_of_getElem? (i := 547) (by decide +kernel), im_R_forgetBytes, se_R_forgetBytes, ii_R, ⟨by decide +kernel, by decide +kernel, by decide +kernel⟩⟩
theorem im_H_takeGreys : Jvm.Cond.instanceMethod m_H_takeGreys.1 ∈ lw_tbl := List.mem_of_getElem? (i := 553) (by decide +kernel)
theorem se_H_takeGreys : Jvm.Cond.selects "HalftoneRegions" m_H_takeGreys.1 m_H_takeGreys.1 ∈ lw_tbl := List.mem_of_getElem? (i := 15) (by decide +kernel)
theorem lk_H_289 : lkV "HalftoneRegions" 289 m_H_takeGreys 0 := ⟨List.mem_of_getElem? (i := 551) (by decide +kernel), im_H_takeGreys, se_H_takeGreys, ii_H, ⟨by decide +kernel, by decide +kernel, by decide +kernel⟩⟩
theorem im_H_columnsUnder : Jvm.Cond.instanceMethod m_H_columnsUnder.1 ∈ lw_tbl := List.mem_of_getElem? (i := 359) (by decide +kernel)
theorem se_H_columnsUnder : Jvm.Cond.selects "HalftoneRegions" m_H_columnsUnder.1 m_H_columnsUnder.1 ∈ lw_tbl := List.mem_of_getElem? (i := 3) (by decide +kernel)
theorem lk_H_307 : lkV "HalftoneRegions" 307 m_H_columnsUnder 1 := ⟨List.mem_of_getElem? (i := 357) (by decide +kernel), im_H_columnsUnder, se_H_columnsUnder, ii_H, ⟨by decide +kernel, by decide +kernel, by decide +kernel⟩⟩
theorem sc_JI_bitCount : Jvm.Cond.static m_JI_bitCount.1 ∈ lw_tbl := List.mem_of_getElem? (i := 318) (by decide +kernel)
theorem ii_JI : Jvm.Cond.initialized "java/lang/Integer" ∈ lw_tbl := List.mem_of_getElem? (i := 70) (by decide +kernel)
theorem lk_H_310 : lkS "HalftoneRegions" 310 m_JI_bitCount 1 := ⟨List.mem_of_getElem? (i := 364) (by decide +kernel), sc_JI_bitCount, ii_JI, ⟨by decide +kernel, by decide +kernel, by decide +kernel⟩⟩
theorem sc_H_moved : Jvm.Cond.static m_H_moved.1 ∈ lw_tbl := List.mem_of_getElem? (i := 362) (by decide +kernel)
theorem lk_H_315 : lkS "HalftoneRegions" 315 m_H_moved 2 := ⟨List.mem_of_getElem? (i := 361) (by decide +kernel), sc_H_moved, ii_H, ⟨by decide +kernel, by decide +kernel, by decide +kernel⟩⟩
theorem im_B_line : Jvm.Cond.instanceMethod m_B_line.1 ∈ lw_tbl := List.mem_of_getElem? (i := 391) (by decide +kernel)
theorem se_B_line : Jvm.Cond.selects "HalftoneRegions$PatternSet" m_B_line.1 m_B_line.1 ∈ lw_tbl := List.mem_of_getElem? (i := 392) (by decide +kernel)
theorem lk_H_321 : lkV "HalftoneRegions" 321 m_B_line 2 := ⟨List.mem_of_getElem? (i := 390) (by decide +kernel), im_B_line, se_B_line, ii_B, ⟨by decide +kernel, by decide +kernel, by decide +kernel⟩⟩
theorem im_H_combined : Jvm.Cond.instanceMethod m_H_combined.1 ∈ lw_tbl := List.mem_of_getElem? (i := 397) (by decide +kernel)
theorem se_H_combined : Jvm.Cond.selects "HalftoneRegions" m_H_combined.1 m_H_combined.1 ∈ lw_tbl := List.mem_of_getElem? (i := 5) (by decide +kernel)
theorem lk_H_323 : lkV "HalftoneRegions" 323 m_H_combined 3 := ⟨List.mem_of_getElem? (i := 395) (by decide +kernel), im_H_combined, se_H_combined, ii_H, ⟨by decide +kernel, by decide +kernel, by decide +kernel⟩⟩
theorem im_C_contextOf : Jvm.Cond.instanceMethod m_C_contextOf.1 ∈ lw_tbl := List.mem_of_getElem? (i := 445) (by decide +kernel)
theorem se_C_contextOf : Jvm.Cond.selects "HalftoneRegions$Codes" m_C_contextOf.1 m_C_contextOf.1 ∈ lw_tbl := List.mem_of_getElem? (i := 446) (by decide +kernel)
theorem lk_H_327 : lkV "HalftoneRegions" 327 m_C_contextOf 3 := ⟨List.mem_of_getElem? (i := 444) (by decide +kernel), im_C_contextOf, se_C_contextOf, ii_C, ⟨by decide +kernel, by decide +kernel, by decide +kernel⟩⟩
theorem im_C_bitOf : Jvm.Cond.instanceMethod m_C_bitOf.1 ∈ lw_tbl := List.mem_of_getElem? (i := 449) (by decide +kernel)
theorem se_C_bitOf : Jvm.Cond.selects "HalftoneRegions$Codes" m_C_bitOf.1 m_C_bitOf.1 ∈ lw_tbl := List.mem_of_getElem? (i := 450) (by decide +kernel)
theorem lk_H_330 : lkV "HalftoneRegions" 330 m_C_bitOf 3 := ⟨List.mem_of_getElem? (i := 452) (by decide +kernel), im_C_bitOf, se_C_bitOf, ii_C, ⟨by decide +kernel, by decide +kernel, by decide +kernel⟩⟩
theorem im_F_foretold : Jvm.Cond.instanceMethod m_F_foretold.1 ∈ lw_tbl := List.mem_of_getElem? (i := 454) (by decide +kernel)
theorem se_F_foretold : Jvm.Cond.selects "HalftoneRegions$Forecast" m_F_foretold.1 m_F_foretold.1 ∈ lw_tbl := List.mem_of_getElem? (i := 455) (by decide +kernel)
theorem lk_H_333 : lkV "HalftoneRegions" 333 m_F_foretold 1 := ⟨List.mem_of_getElem? (i := 453) (by decide +kernel), im_F_foretold, se_F_foretold, ii_F, ⟨by decide +kernel, by decide +kernel, by decide +kernel⟩⟩
theorem im_W_tell : Jvm.Cond.instanceMethod m_W_tell.1 ∈ lw_tbl := List.mem_of_getElem? (i := 459) (by decide +kernel)
theorem se_W_tell : Jvm.Cond.selects "HalftoneRegions$RunWriter" m_W_tell.1 m_W_tell.1 ∈ lw_tbl := List.mem_of_getElem? (i := 460) (by decide +kernel)
theorem lk_H_336 : lkV "HalftoneRegions" 336 m_W_tell 1 := ⟨List.mem_of_getElem? (i := 458) (by decide +kernel), im_W_tell, se_W_tell, ii_W, ⟨by decide +kernel, by decide +kernel, by decide +kernel⟩⟩
theorem im_F_learn : Jvm.Cond.instanceMethod m_F_learn.1 ∈ lw_tbl := List.mem_of_getElem? (i := 480) (by decide +kernel)
theorem se_F_learn : Jvm.Cond.selects "HalftoneRegions$Forecast" m_F_learn.1 m_F_learn.1 ∈ lw_tbl := List.mem_of_getElem? (i := 481) (by decide +kernel)
theorem lk_H_339 : lkV "HalftoneRegions" 339 m_F_learn 2 := ⟨List.mem_of_getElem? (i := 479) (by decide +kernel), im_F_learn, se_F_learn, ii_F, ⟨by decide +kernel, by decide +kernel, by decide +kernel⟩⟩
theorem im_R_nextBit : Jvm.Cond.instanceMethod m_R_nextBit.1 ∈ lw_tbl := List.mem_of_getElem? (i := 508) (by decide +kernel)
theorem se_R_nextBit : Jvm.Cond.selects "HalftoneRegions$RunReader" m_R_nextBit.1 m_R_nextBit.1 ∈ lw_tbl := List.mem_of_getElem? (i := 509) (by decide +kernel)
theorem lk_H_342 : lkV "HalftoneRegions" 342 m_R_nextBit 1 := ⟨List.mem_of_getElem? (i := 507) (by decide +kernel), im_R_nextBit, se_R_nextBit, ii_R, ⟨by decide +kernel, by decide +kernel, by decide +kernel⟩⟩
theorem im_C_addBit : Jvm.Cond.instanceMethod m_C_addBit.1 ∈ lw_tbl := List.mem_of_getElem? (i := 528) (by decide +kernel)
theorem se_C_addBit : Jvm.Cond.selects "HalftoneRegions$Codes" m_C_addBit.1 m_C_addBit.1 ∈ lw_tbl := List.mem_of_getElem? (i := 529) (by decide +kernel)
theorem lk_H_345 : lkV "HalftoneRegions" 345 m_C_addBit 4 := ⟨List.mem_of_getElem? (i := 527) (by decide +kernel), im_C_addBit, se_C_addBit, ii_C, ⟨by decide +kernel, by decide +kernel, by decide +kernel⟩⟩
theorem im_C_greyOf : Jvm.Cond.instanceMethod m_C_greyOf.1 ∈ lw_tbl := List.mem_of_getElem? (i := 556) (by decide +kernel)
theorem se_C_greyOf : Jvm.Cond.selects "HalftoneRegions$Codes" m_C_greyOf.1 m_C_greyOf.1 ∈ lw_tbl := List.mem_of_getElem? (i := 557) (by decide +kernel)
theorem lk_H_348 : lkV "HalftoneRegions" 348 m_C_greyOf 2 := ⟨List.mem_of_getElem? (i := 555) (by decide +kernel), im_C_greyOf, se_C_greyOf, ii_C, ⟨by decide +kernel, by decide +kernel, by decide +kernel⟩⟩
theorem im_M_begin : Jvm.Cond.instanceMethod m_M_begin.1 ∈ lw_tbl := List.mem_of_getElem? (i := 893) (by decide +kernel)
theorem se_M_begin : Jvm.Cond.selects "HalftoneRegionsModel" m_M_begin.1 m_M_begin.1 ∈ lw_tbl := List.mem_of_getElem? (i := 19) (by decide +kernel)
theorem ii_M : Jvm.Cond.initialized "HalftoneRegionsModel" ∈ lw_tbl := List.mem_of_getElem? (i := 64) (by decide +kernel)
theorem lk_M_52 : lkV "HalftoneRegionsModel" 52 m_M_begin 0 := ⟨List.mem_of_getElem? (i := 891) (by decide +kernel), im_M_begin, se_M_begin, ii_M, ⟨by decide +kernel, by decide +kernel, by decide +kernel⟩⟩
theorem im_M_blank : Jvm.Cond.instanceMethod m_M_blank.1 ∈ lw_tbl := List.mem_of_getElem? (i := 897) (by decide +kernel)
theorem se_M_blank : Jvm.Cond.selects "HalftoneRegionsModel" m_M_blank.1 m_M_blank.1 ∈ lw_tbl := List.mem_of_getElem? (i := 20) (by decide +kernel)
theorem lk_M_58 : lkV "HalftoneRegionsModel" 58 m_M_blank 3 := ⟨List.mem_of_getElem? (i := 895) (by decide +kernel), im_M_blank, se_M_blank, ii_M, ⟨by decide +kernel, by decide +kernel, by decide +kernel⟩⟩
theorem im_M_newPlane : Jvm.Cond.instanceMethod m_M_newPlane.1 ∈ lw_tbl := List.mem_of_getElem? (i := 901) (by decide +kernel)
theorem se_M_newPlane : Jvm.Cond.selects "HalftoneRegionsModel" m_M_newPlane.1 m_M_newPlane.1 ∈ lw_tbl := List.mem_of_getElem? (i := 21) (by decide +kernel)
theorem lk_M_98 : lkV "HalftoneRegionsModel" 98 m_M_newPlane 0 := ⟨List.mem_of_getElem? (i := 899) (by decide +kernel), im_M_newPlane, se_M_newPlane, ii_M, ⟨by decide +kernel, by decide +kernel, by decide +kernel⟩⟩
theorem sc_M_in : Jvm.Cond.static m_M_in.1 ∈ lw_tbl := List.mem_of_getElem? (i := 1032) (by decide +kernel)
theorem lk_M_110 : lkS "HalftoneRegionsModel" 110 m_M_in 3 := ⟨List.mem_of_getElem? (i := 1031) (by decide +kernel), sc_M_in, ii_M, ⟨by decide +kernel, by decide +kernel, by decide +kernel⟩⟩
theorem im_M_planes : Jvm.Cond.instanceMethod m_M_planes.1 ∈ lw_tbl := List.mem_of_getElem? (i := 1036) (by decide +kernel)
theorem se_M_planes : Jvm.Cond.selects "HalftoneRegionsModel" m_M_planes.1 m_M_planes.1 ∈ lw_tbl := List.mem_of_getElem? (i := 22) (by decide +kernel)
theorem lk_M_114 : lkV "HalftoneRegionsModel" 114 m_M_planes 0 := ⟨List.mem_of_getElem? (i := 1034) (by decide +kernel), im_M_planes, se_M_planes, ii_M, ⟨by decide +kernel, by decide +kernel, by decide +kernel⟩⟩
theorem sc_M_keyOf : Jvm.Cond.static m_M_keyOf.1 ∈ lw_tbl := List.mem_of_getElem? (i := 1043) (by decide +kernel)
theorem lk_M_118 : lkS "HalftoneRegionsModel" 118 m_M_keyOf 2 := ⟨List.mem_of_getElem? (i := 1042) (by decide +kernel), sc_M_keyOf, ii_M, ⟨by decide +kernel, by decide +kernel, by decide +kernel⟩⟩
theorem im_M_hasCell : Jvm.Cond.instanceMethod m_M_hasCell.1 ∈ lw_tbl := List.mem_of_getElem? (i := 1051) (by decide +kernel)
theorem se_M_hasCell : Jvm.Cond.selects "HalftoneRegionsModel" m_M_hasCell.1 m_M_hasCell.1 ∈ lw_tbl := List.mem_of_getElem? (i := 23) (by decide +kernel)
theorem lk_M_122 : lkV "HalftoneRegionsModel" 122 m_M_hasCell 3 := ⟨List.mem_of_getElem? (i := 1049) (by decide +kernel), im_M_hasCell, se_M_hasCell, ii_M, ⟨by decide +kernel, by decide +kernel, by decide +kernel⟩⟩
theorem sc_M_by256 : Jvm.Cond.static m_M_by256.1 ∈ lw_tbl := List.mem_of_getElem? (i := 1076) (by decide +kernel)
theorem lk_M_125 : lkS "HalftoneRegionsModel" 125 m_M_by256 1 := ⟨List.mem_of_getElem? (i := 1075) (by decide +kernel), sc_M_by256, ii_M, ⟨by decide +kernel, by decide +kernel, by decide +kernel⟩⟩
theorem im_M_xOf : Jvm.Cond.instanceMethod m_M_xOf.1 ∈ lw_tbl := List.mem_of_getElem? (i := 1073) (by decide +kernel)
theorem se_M_xOf : Jvm.Cond.selects "HalftoneRegionsModel" m_M_xOf.1 m_M_xOf.1 ∈ lw_tbl := List.mem_of_getElem? (i := 26) (by decide +kernel)
theorem lk_M_129 : lkV "HalftoneRegionsModel" 129 m_M_xOf 2 := ⟨List.mem_of_getElem? (i := 1071) (by decide +kernel), im_M_xOf, se_M_xOf, ii_M, ⟨by decide +kernel, by decide +kernel, by decide +kernel⟩⟩
theorem im_M_yOf : Jvm.Cond.instanceMethod m_M_yOf.1 ∈ lw_tbl := List.mem_of_getElem? (i := 1080) (by decide +kernel)
theorem se_M_yOf : Jvm.Cond.selects "HalftoneRegionsModel" m_M_yOf.1 m_M_yOf.1 ∈ lw_tbl := List.mem_of_getElem? (i := 27) (by decide +kernel)
theorem lk_M_132 : lkV "HalftoneRegionsModel" 132 m_M_yOf 2 := ⟨List.mem_of_getElem? (i := 1078) (by decide +kernel), im_M_yOf, se_M_yOf, ii_M, ⟨by decide +kernel, by decide +kernel, by decide +kernel⟩⟩
theorem im_M_isOutside : Jvm.Cond.instanceMethod m_M_isOutside.1 ∈ lw_tbl := List.mem_of_getElem? (i := 1069) (by decide +kernel)
theorem se_M_isOutside : Jvm.Cond.selects "HalftoneRegionsModel" m_M_isOutside.1 m_M_isOutside.1 ∈ lw_tbl := List.mem_of_getElem? (i := 25) (by decide +kernel)
theorem lk_M_135 : lkV "HalftoneRegionsModel" 135 m_M_isOutside 2 := ⟨List.mem_of_getElem? (i := 1067) (by decide +kernel), im_M_isOutside, se_M_isOutside, ii_M, ⟨by decide +kernel, by decide +kernel, by decide +kernel⟩⟩
theorem im_M_hasPlace : Jvm.Cond.instanceMethod m_M_hasPlace.1 ∈ lw_tbl := List.mem_of_getElem? (i := 1065) (by decide +kernel)
theorem se_M_hasPlace : Jvm.Cond.selects "HalftoneRegionsModel" m_M_hasPlace.1 m_M_hasPlace.1 ∈ lw_tbl := List.mem_of_getElem? (i := 24) (by decide +kernel)
theorem lk_M_141 : lkV "HalftoneRegionsModel" 141 m_M_hasPlace 2 := ⟨List.mem_of_getElem? (i := 1063) (by decide +kernel), im_M_hasPlace, se_M_hasPlace, ii_M, ⟨by decide +kernel, by decide +kernel, by decide +kernel⟩⟩
theorem im_M_hasSample : Jvm.Cond.instanceMethod m_M_hasSample.1 ∈ lw_tbl := List.mem_of_getElem? (i := 1120) (by decide +kernel)
theorem se_M_hasSample : Jvm.Cond.selects "HalftoneRegionsModel" m_M_hasSample.1 m_M_hasSample.1 ∈ lw_tbl := List.mem_of_getElem? (i := 29) (by decide +kernel)
theorem lk_M_144 : lkV "HalftoneRegionsModel" 144 m_M_hasSample 2 := ⟨List.mem_of_getElem? (i := 1118) (by decide +kernel), im_M_hasSample, se_M_hasSample, ii_M, ⟨by decide +kernel, by decide +kernel, by decide +kernel⟩⟩
theorem im_M_countAt : Jvm.Cond.instanceMethod m_M_countAt.1 ∈ lw_tbl := List.mem_of_getElem? (i := 1116) (by decide +kernel)
theorem se_M_countAt : Jvm.Cond.selects "HalftoneRegionsModel" m_M_countAt.1 m_M_countAt.1 ∈ lw_tbl := List.mem_of_getElem? (i := 28) (by decide +kernel)
theorem lk_M_147 : lkV "HalftoneRegionsModel" 147 m_M_countAt 2 := ⟨List.mem_of_getElem? (i := 1114) (by decide +kernel), im_M_countAt, se_M_countAt, ii_M, ⟨by decide +kernel, by decide +kernel, by decide +kernel⟩⟩
theorem im_M_darkIn : Jvm.Cond.instanceMethod m_M_darkIn.1 ∈ lw_tbl := List.mem_of_getElem? (i := 1132) (by decide +kernel)
theorem se_M_darkIn : Jvm.Cond.selects "HalftoneRegionsModel" m_M_darkIn.1 m_M_darkIn.1 ∈ lw_tbl := List.mem_of_getElem? (i := 31) (by decide +kernel)
theorem lk_M_150 : lkV "HalftoneRegionsModel" 150 m_M_darkIn 1 := ⟨List.mem_of_getElem? (i := 1130) (by decide +kernel), im_M_darkIn, se_M_darkIn, ii_M, ⟨by decide +kernel, by decide +kernel, by decide +kernel⟩⟩
theorem im_M_nearest : Jvm.Cond.instanceMethod m_M_nearest.1 ∈ lw_tbl := List.mem_of_getElem? (i := 1128) (by decide +kernel)
theorem se_M_nearest : Jvm.Cond.selects "HalftoneRegionsModel" m_M_nearest.1 m_M_nearest.1 ∈ lw_tbl := List.mem_of_getElem? (i := 30) (by decide +kernel)
theorem lk_M_153 : lkV "HalftoneRegionsModel" 153 m_M_nearest 1 := ⟨List.mem_of_getElem? (i := 1126) (by decide +kernel), im_M_nearest, se_M_nearest, ii_M, ⟨by decide +kernel, by decide +kernel, by decide +kernel⟩⟩
theorem im_M_both : Jvm.Cond.instanceMethod m_M_both.1 ∈ lw_tbl := List.mem_of_getElem? (i := 1144) (by decide +kernel)
theorem se_M_both : Jvm.Cond.selects "HalftoneRegionsModel" m_M_both.1 m_M_both.1 ∈ lw_tbl := List.mem_of_getElem? (i := 33) (by decide +kernel)
theorem lk_M_156 : lkV "HalftoneRegionsModel" 156 m_M_both 2 := ⟨List.mem_of_getElem? (i := 1142) (by decide +kernel), im_M_both, se_M_both, ii_M, ⟨by decide +kernel, by decide +kernel, by decide +kernel⟩⟩
theorem im_M_layPattern : Jvm.Cond.instanceMethod m_M_layPattern.1 ∈ lw_tbl := List.mem_of_getElem? (i := 1140) (by decide +kernel)
theorem se_M_layPattern : Jvm.Cond.selects "HalftoneRegionsModel" m_M_layPattern.1 m_M_layPattern.1 ∈ lw_tbl := List.mem_of_getElem? (i := 32) (by decide +kernel)
theorem lk_M_160 : lkV "HalftoneRegionsModel" 160 m_M_layPattern 2 := ⟨List.mem_of_getElem? (i := 1138) (by decide +kernel), im_M_layPattern, se_M_layPattern, ii_M, ⟨by decide +kernel, by decide +kernel, by decide +kernel⟩⟩
theorem sc_M_dark : Jvm.Cond.static m_M_dark.1 ∈ lw_tbl := List.mem_of_getElem? (i := 1147) (by decide +kernel)
theorem lk_M_164 : lkS "HalftoneRegionsModel" 164 m_M_dark 1 := ⟨List.mem_of_getElem? (i := 1146) (by decide +kernel), sc_M_dark, ii_M, ⟨by decide +kernel, by decide +kernel, by decide +kernel⟩⟩
theorem im_M_toldAt : Jvm.Cond.instanceMethod m_M_toldAt.1 ∈ lw_tbl := List.mem_of_getElem? (i := 1175) (by decide +kernel)
theorem se_M_toldAt : Jvm.Cond.selects "HalftoneRegionsModel" m_M_toldAt.1 m_M_toldAt.1 ∈ lw_tbl := List.mem_of_getElem? (i := 38) (by decide +kernel)
theorem lk_M_168 : lkV "HalftoneRegionsModel" 168 m_M_toldAt 2 := ⟨List.mem_of_getElem? (i := 1173) (by decide +kernel), im_M_toldAt, se_M_toldAt, ii_M, ⟨by decide +kernel, by decide +kernel, by decide +kernel⟩⟩
theorem im_M_small : Jvm.Cond.instanceMethod m_M_small.1 ∈ lw_tbl := List.mem_of_getElem? (i := 1183) (by decide +kernel)
theorem se_M_small : Jvm.Cond.selects "HalftoneRegionsModel" m_M_small.1 m_M_small.1 ∈ lw_tbl := List.mem_of_getElem? (i := 40) (by decide +kernel)
theorem lk_M_180 : lkV "HalftoneRegionsModel" 180 m_M_small 0 := ⟨List.mem_of_getElem? (i := 1181) (by decide +kernel), im_M_small, se_M_small, ii_M, ⟨by decide +kernel, by decide +kernel, by decide +kernel⟩⟩
theorem im_M_write : Jvm.Cond.instanceMethod m_M_write.1 ∈ lw_tbl := List.mem_of_getElem? (i := 1187) (by decide +kernel)
theorem se_M_write : Jvm.Cond.selects "HalftoneRegionsModel" m_M_write.1 m_M_write.1 ∈ lw_tbl := List.mem_of_getElem? (i := 41) (by decide +kernel)
theorem lk_M_183 : lkV "HalftoneRegionsModel" 183 m_M_write 2 := ⟨List.mem_of_getElem? (i := 1185) (by decide +kernel), im_M_write, se_M_write, ii_M, ⟨by decide +kernel, by decide +kernel, by decide +kernel⟩⟩
theorem im_M_keepRun : Jvm.Cond.instanceMethod m_M_keepRun.1 ∈ lw_tbl := List.mem_of_getElem? (i := 1191) (by decide +kernel)
theorem se_M_keepRun : Jvm.Cond.selects "HalftoneRegionsModel" m_M_keepRun.1 m_M_keepRun.1 ∈ lw_tbl := List.mem_of_getElem? (i := 42) (by decide +kernel)
theorem lk_M_186 : lkV "HalftoneRegionsModel" 186 m_M_keepRun 1 := ⟨List.mem_of_getElem? (i := 1189) (by decide +kernel), im_M_keepRun, se_M_keepRun, ii_M, ⟨by decide +kernel, by decide +kernel, by decide +kernel⟩⟩
theorem im_M_beginRuns : Jvm.Cond.instanceMethod m_M_beginRuns.1 ∈ lw_tbl := List.mem_of_getElem? (i := 1159) (by decide +kernel)
theorem se_M_beginRuns : Jvm.Cond.selects "HalftoneRegionsModel" m_M_beginRuns.1 m_M_beginRuns.1 ∈ lw_tbl := List.mem_of_getElem? (i := 34) (by decide +kernel)
theorem lk_M_190 : lkV "HalftoneRegionsModel" 190 m_M_beginRuns 0 := ⟨List.mem_of_getElem? (i := 1157) (by decide +kernel), im_M_beginRuns, se_M_beginRuns, ii_M, ⟨by decide +kernel, by decide +kernel, by decide +kernel⟩⟩
theorem im_M_nextPlane : Jvm.Cond.instanceMethod m_M_nextPlane.1 ∈ lw_tbl := List.mem_of_getElem? (i := 1163) (by decide +kernel)
theorem se_M_nextPlane : Jvm.Cond.selects "HalftoneRegionsModel" m_M_nextPlane.1 m_M_nextPlane.1 ∈ lw_tbl := List.mem_of_getElem? (i := 35) (by decide +kernel)
theorem lk_M_193 : lkV "HalftoneRegionsModel" 193 m_M_nextPlane 0 := ⟨List.mem_of_getElem? (i := 1161) (by decide +kernel), im_M_nextPlane, se_M_nextPlane, ii_M, ⟨by decide +kernel, by decide +kernel, by decide +kernel⟩⟩
theorem im_M_isSkipped : Jvm.Cond.instanceMethod m_M_isSkipped.1 ∈ lw_tbl := List.mem_of_getElem? (i := 1167) (by decide +kernel)
theorem se_M_isSkipped : Jvm.Cond.selects "HalftoneRegionsModel" m_M_isSkipped.1 m_M_isSkipped.1 ∈ lw_tbl := List.mem_of_getElem? (i := 36) (by decide +kernel)
theorem lk_M_196 : lkV "HalftoneRegionsModel" 196 m_M_isSkipped 2 := ⟨List.mem_of_getElem? (i := 1165) (by decide +kernel), im_M_isSkipped, se_M_isSkipped, ii_M, ⟨by decide +kernel, by decide +kernel, by decide +kernel⟩⟩
theorem im_M_contextOf : Jvm.Cond.instanceMethod m_M_contextOf.1 ∈ lw_tbl := List.mem_of_getElem? (i := 1171) (by decide +kernel)
theorem se_M_contextOf : Jvm.Cond.selects "HalftoneRegionsModel" m_M_contextOf.1 m_M_contextOf.1 ∈ lw_tbl := List.mem_of_getElem? (i := 37) (by decide +kernel)
theorem lk_M_199 : lkV "HalftoneRegionsModel" 199 m_M_contextOf 2 := ⟨List.mem_of_getElem? (i := 1169) (by decide +kernel), im_M_contextOf, se_M_contextOf, ii_M, ⟨by decide +kernel, by decide +kernel, by decide +kernel⟩⟩
theorem im_M_writeRun : Jvm.Cond.instanceMethod m_M_writeRun.1 ∈ lw_tbl := List.mem_of_getElem? (i := 1179) (by decide +kernel)
theorem se_M_writeRun : Jvm.Cond.selects "HalftoneRegionsModel" m_M_writeRun.1 m_M_writeRun.1 ∈ lw_tbl := List.mem_of_getElem? (i := 39) (by decide +kernel)
theorem lk_M_202 : lkV "HalftoneRegionsModel" 202 m_M_writeRun 1 := ⟨List.mem_of_getElem? (i := 1177) (by decide +kernel), im_M_writeRun, se_M_writeRun, ii_M, ⟨by decide +kernel, by decide +kernel, by decide +kernel⟩⟩
theorem im_M_learn : Jvm.Cond.instanceMethod m_M_learn.1 ∈ lw_tbl := List.mem_of_getElem? (i := 1195) (by decide +kernel)
theorem se_M_learn : Jvm.Cond.selects "HalftoneRegionsModel" m_M_learn.1 m_M_learn.1 ∈ lw_tbl := List.mem_of_getElem? (i := 43) (by decide +kernel)
theorem lk_M_205 : lkV "HalftoneRegionsModel" 205 m_M_learn 2 := ⟨List.mem_of_getElem? (i := 1193) (by decide +kernel), im_M_learn, se_M_learn, ii_M, ⟨by decide +kernel, by decide +kernel, by decide +kernel⟩⟩
theorem im_M_madeByte : Jvm.Cond.instanceMethod m_M_madeByte.1 ∈ lw_tbl := List.mem_of_getElem? (i := 1203) (by decide +kernel)
theorem se_M_madeByte : Jvm.Cond.selects "HalftoneRegionsModel" m_M_madeByte.1 m_M_madeByte.1 ∈ lw_tbl := List.mem_of_getElem? (i := 44) (by decide +kernel)
theorem lk_M_209 : lkV "HalftoneRegionsModel" 209 m_M_madeByte 1 := ⟨List.mem_of_getElem? (i := 1201) (by decide +kernel), im_M_madeByte, se_M_madeByte, ii_M, ⟨by decide +kernel, by decide +kernel, by decide +kernel⟩⟩
theorem im_M_readOne : Jvm.Cond.instanceMethod m_M_readOne.1 ∈ lw_tbl := List.mem_of_getElem? (i := 1231) (by decide +kernel)
theorem se_M_readOne : Jvm.Cond.selects "HalftoneRegionsModel" m_M_readOne.1 m_M_readOne.1 ∈ lw_tbl := List.mem_of_getElem? (i := 48) (by decide +kernel)
theorem lk_M_219 : lkV "HalftoneRegionsModel" 219 m_M_readOne 0 := ⟨List.mem_of_getElem? (i := 1229) (by decide +kernel), im_M_readOne, se_M_readOne, ii_M, ⟨by decide +kernel, by decide +kernel, by decide +kernel⟩⟩
theorem im_M_readSome : Jvm.Cond.instanceMethod m_M_readSome.1 ∈ lw_tbl := List.mem_of_getElem? (i := 1235) (by decide +kernel)
theorem se_M_readSome : Jvm.Cond.selects "HalftoneRegionsModel" m_M_readSome.1 m_M_readSome.1 ∈ lw_tbl := List.mem_of_getElem? (i := 49) (by decide +kernel)
theorem lk_M_222 : lkV "HalftoneRegionsModel" 222 m_M_readSome 1 := ⟨List.mem_of_getElem? (i := 1233) (by decide +kernel), im_M_readSome, se_M_readSome, ii_M, ⟨by decide +kernel, by decide +kernel, by decide +kernel⟩⟩
theorem im_M_readRun : Jvm.Cond.instanceMethod m_M_readRun.1 ∈ lw_tbl := List.mem_of_getElem? (i := 1227) (by decide +kernel)
theorem se_M_readRun : Jvm.Cond.selects "HalftoneRegionsModel" m_M_readRun.1 m_M_readRun.1 ∈ lw_tbl := List.mem_of_getElem? (i := 47) (by decide +kernel)
theorem lk_M_237 : lkV "HalftoneRegionsModel" 237 m_M_readRun 0 := ⟨List.mem_of_getElem? (i := 1225) (by decide +kernel), im_M_readRun, se_M_readRun, ii_M, ⟨by decide +kernel, by decide +kernel, by decide +kernel⟩⟩
theorem im_M_readBit : Jvm.Cond.instanceMethod m_M_readBit.1 ∈ lw_tbl := List.mem_of_getElem? (i := 1223) (by decide +kernel)
theorem se_M_readBit : Jvm.Cond.selects "HalftoneRegionsModel" m_M_readBit.1 m_M_readBit.1 ∈ lw_tbl := List.mem_of_getElem? (i := 46) (by decide +kernel)
theorem lk_M_240 : lkV "HalftoneRegionsModel" 240 m_M_readBit 1 := ⟨List.mem_of_getElem? (i := 1221) (by decide +kernel), im_M_readBit, se_M_readBit, ii_M, ⟨by decide +kernel, by decide +kernel, by decide +kernel⟩⟩
theorem im_M_isMore : Jvm.Cond.instanceMethod m_M_isMore.1 ∈ lw_tbl := List.mem_of_getElem? (i := 1243) (by decide +kernel)
theorem se_M_isMore : Jvm.Cond.selects "HalftoneRegionsModel" m_M_isMore.1 m_M_isMore.1 ∈ lw_tbl := List.mem_of_getElem? (i := 51) (by decide +kernel)
theorem lk_M_244 : lkV "HalftoneRegionsModel" 244 m_M_isMore 0 := ⟨List.mem_of_getElem? (i := 1241) (by decide +kernel), im_M_isMore, se_M_isMore, ii_M, ⟨by decide +kernel, by decide +kernel, by decide +kernel⟩⟩
theorem im_M_readPlanes : Jvm.Cond.instanceMethod m_M_readPlanes.1 ∈ lw_tbl := List.mem_of_getElem? (i := 1219) (by decide +kernel)
theorem se_M_readPlanes : Jvm.Cond.selects "HalftoneRegionsModel" m_M_readPlanes.1 m_M_readPlanes.1 ∈ lw_tbl := List.mem_of_getElem? (i := 45) (by decide +kernel)
theorem lk_M_248 : lkV "HalftoneRegionsModel" 248 m_M_readPlanes 0 := ⟨List.mem_of_getElem? (i := 1217) (by decide +kernel), im_M_readPlanes, se_M_readPlanes, ii_M, ⟨by decide +kernel, by decide +kernel, by decide +kernel⟩⟩
theorem im_M_refusal : Jvm.Cond.instanceMethod m_M_refusal.1 ∈ lw_tbl := List.mem_of_getElem? (i := 1239) (by decide +kernel)
theorem se_M_refusal : Jvm.Cond.selects "HalftoneRegionsModel" m_M_refusal.1 m_M_refusal.1 ∈ lw_tbl := List.mem_of_getElem? (i := 50) (by decide +kernel)
theorem lk_M_251 : lkV "HalftoneRegionsModel" 251 m_M_refusal 0 := ⟨List.mem_of_getElem? (i := 1237) (by decide +kernel), im_M_refusal, se_M_refusal, ii_M, ⟨by decide +kernel, by decide +kernel, by decide +kernel⟩⟩
theorem sc_JA_fill1 : Jvm.Cond.static m_JA_fill1.1 ∈ lw_tbl := List.mem_of_getElem? (i := 172) (by decide +kernel)
theorem ii_JA : Jvm.Cond.initialized "java/util/Arrays" ∈ lw_tbl := List.mem_of_getElem? (i := 60) (by decide +kernel)
theorem lk_C_15 : lkS "HalftoneRegions$Codes" 15 m_JA_fill1 2 := ⟨List.mem_of_getElem? (i := 411) (by decide +kernel), sc_JA_fill1, ii_JA, ⟨by decide +kernel, by decide +kernel, by decide +kernel⟩⟩
theorem sc_H_placeOf : Jvm.Cond.static m_H_placeOf.1 ∈ lw_tbl := List.mem_of_getElem? (i := 371) (by decide +kernel)
theorem lk_C_21 : lkN "HalftoneRegions$Codes" 21 m_H_placeOf 2 := ⟨List.mem_of_getElem? (i := 420) (by decide +kernel), sc_H_placeOf, ii_H, ⟨by decide +kernel, by decide +kernel, by decide +kernel⟩⟩
theorem lk_C_25 : lkV "HalftoneRegions$Codes" 25 m_C_bitOf 3 := ⟨List.mem_of_getElem? (i := 448) (by decide +kernel), im_C_bitOf, se_C_bitOf, ii_C, ⟨by decide +kernel, by decide +kernel, by decide +kernel⟩⟩
theorem sc_C_greyOfCode : Jvm.Cond.static m_C_greyOfCode.1 ∈ lw_tbl := List.mem_of_getElem? (i := 544) (by decide +kernel)
theorem lk_C_29 : lkS "HalftoneRegions$Codes" 29 m_C_greyOfCode 1 := ⟨List.mem_of_getElem? (i := 543) (by decide +kernel), sc_C_greyOfCode, ii_C, ⟨by decide +kernel, by decide +kernel, by decide +kernel⟩⟩
theorem lk_F_18 : lkS "HalftoneRegions$Forecast" 18 m_JA_fill1 2 := ⟨List.mem_of_getElem? (i := 171) (by decide +kernel), sc_JA_fill1, ii_JA, ⟨by decide +kernel, by decide +kernel, by decide +kernel⟩⟩
theorem lk_F_24 : lkN "HalftoneRegions$Forecast" 24 m_H_isWithin 3 := ⟨List.mem_of_getElem? (i := 457) (by decide +kernel), sc_H_isWithin, ii_H, ⟨by decide +kernel, by decide +kernel, by decide +kernel⟩⟩
theorem lk_L_25 : lkV "HalftoneRegions$Lattice" 25 m_L_forgetGreys 0 := ⟨List.mem_of_getElem? (i := 578) (by decide +kernel), im_L_forgetGreys, se_L_forgetGreys, ii_L, ⟨by decide +kernel, by decide +kernel, by decide +kernel⟩⟩
theorem lk_L_37 : lkS "HalftoneRegions$Lattice" 37 m_JA_fill1 2 := ⟨List.mem_of_getElem? (i := 582) (by decide +kernel), sc_JA_fill1, ii_JA, ⟨by decide +kernel, by decide +kernel, by decide +kernel⟩⟩
theorem lk_L_43 : lkN "HalftoneRegions$Lattice" 43 m_H_isWithin 3 := ⟨List.mem_of_getElem? (i := 760) (by decide +kernel), sc_H_isWithin, ii_H, ⟨by decide +kernel, by decide +kernel, by decide +kernel⟩⟩
theorem lk_L_47 : lkN "HalftoneRegions$Lattice" 47 m_H_placeOf 2 := ⟨List.mem_of_getElem? (i := 370) (by decide +kernel), sc_H_placeOf, ii_H, ⟨by decide +kernel, by decide +kernel, by decide +kernel⟩⟩
theorem sc_JA_fill2 : Jvm.Cond.static m_JA_fill2.1 ∈ lw_tbl := List.mem_of_getElem? (i := 572) (by decide +kernel)
theorem lk_B_25 : lkS "HalftoneRegions$PatternSet" 25 m_JA_fill2 2 := ⟨List.mem_of_getElem? (i := 571) (by decide +kernel), sc_JA_fill2, ii_JA, ⟨by decide +kernel, by decide +kernel, by decide +kernel⟩⟩
theorem lk_B_31 : lkV "HalftoneRegions$PatternSet" 31 m_B_begin 3 := ⟨List.mem_of_getElem? (i := 679) (by decide +kernel), im_B_begin, se_B_begin, ii_B, ⟨by decide +kernel, by decide +kernel, by decide +kernel⟩⟩
theorem im_B_rankOf : Jvm.Cond.instanceMethod m_B_rankOf.1 ∈ lw_tbl := List.mem_of_getElem? (i := 682) (by decide +kernel)
theorem se_B_rankOf : Jvm.Cond.selects "HalftoneRegions$PatternSet" m_B_rankOf.1 m_B_rankOf.1 ∈ lw_tbl := List.mem_of_getElem? (i := 17) (by decide +kernel)
theorem lk_B_35 : lkV "HalftoneRegions$PatternSet" 35 m_B_rankOf 2 := ⟨List.mem_of_getElem? (i := 680) (by decide +kernel), im_B_rankOf, se_B_rankOf, ii_B, ⟨by decide +kernel, by decide +kernel, by decide +kernel⟩⟩
theorem lk_B_39 : lkV "HalftoneRegions$PatternSet" 39 m_B_turn 3 := ⟨List.mem_of_getElem? (i := 687) (by decide +kernel), im_B_turn, se_B_turn, ii_B, ⟨by decide +kernel, by decide +kernel, by decide +kernel⟩⟩
theorem sc_B_keyOf : Jvm.Cond.static m_B_keyOf.1 ∈ lw_tbl := List.mem_of_getElem? (i := 685) (by decide +kernel)
theorem lk_B_42 : lkS "HalftoneRegions$PatternSet" 42 m_B_keyOf 2 := ⟨List.mem_of_getElem? (i := 684) (by decide +kernel), sc_B_keyOf, ii_B, ⟨by decide +kernel, by decide +kernel, by decide +kernel⟩⟩
theorem lk_B_45 : lkN "HalftoneRegions$PatternSet" 45 m_H_isWithin 3 := ⟨List.mem_of_getElem? (i := 394) (by decide +kernel), sc_H_isWithin, ii_H, ⟨by decide +kernel, by decide +kernel, by decide +kernel⟩⟩
theorem lk_B_49 : lkV "HalftoneRegions$PatternSet" 49 m_B_hasPattern 1 := ⟨List.mem_of_getElem? (i := 703) (by decide +kernel), im_B_hasPattern, se_B_hasPattern, ii_B, ⟨by decide +kernel, by decide +kernel, by decide +kernel⟩⟩
theorem lk_B_53 : lkV "HalftoneRegions$PatternSet" 53 m_B_line 2 := ⟨List.mem_of_getElem? (i := 727) (by decide +kernel), im_B_line, se_B_line, ii_B, ⟨by decide +kernel, by decide +kernel, by decide +kernel⟩⟩
theorem im_B_farness : Jvm.Cond.instanceMethod m_B_farness.1 ∈ lw_tbl := List.mem_of_getElem? (i := 333) (by decide +kernel)
theorem se_B_farness : Jvm.Cond.selects "HalftoneRegions$PatternSet" m_B_farness.1 m_B_farness.1 ∈ lw_tbl := List.mem_of_getElem? (i := 0) (by decide +kernel)
theorem lk_B_56 : lkV "HalftoneRegions$PatternSet" 56 m_B_farness 2 := ⟨List.mem_of_getElem? (i := 331) (by decide +kernel), im_B_farness, se_B_farness, ii_B, ⟨by decide +kernel, by decide +kernel, by decide +kernel⟩⟩
theorem sc_JL_bitCount : Jvm.Cond.static m_JL_bitCount.1 ∈ lw_tbl := List.mem_of_getElem? (i := 336) (by decide +kernel)
theorem ii_JL : Jvm.Cond.initialized "java/lang/Long" ∈ lw_tbl := List.mem_of_getElem? (i := 71) (by decide +kernel)
theorem lk_B_59 : lkS "HalftoneRegions$PatternSet" 59 m_JL_bitCount 1 := ⟨List.mem_of_getElem? (i := 335) (by decide +kernel), sc_JL_bitCount, ii_JL, ⟨by decide +kernel, by decide +kernel, by decide +kernel⟩⟩
theorem lk_R_26 : lkN "HalftoneRegions$RunReader" 26 m_H_isWithin 3 := ⟨List.mem_of_getElem? (i := 521) (by decide +kernel), sc_H_isWithin, ii_H, ⟨by decide +kernel, by decide +kernel, by decide +kernel⟩⟩
theorem im_P_begin : Jvm.Cond.instanceMethod m_P_begin.1 ∈ lw_tbl := List.mem_of_getElem? (i := 429) (by decide +kernel)
theorem se_P_begin : Jvm.Cond.selects "HalftoneRegions$Pace" m_P_begin.1 m_P_begin.1 ∈ lw_tbl := List.mem_of_getElem? (i := 430) (by decide +kernel)
theorem ii_P : Jvm.Cond.initialized "HalftoneRegions$Pace" ∈ lw_tbl := List.mem_of_getElem? (i := 62) (by decide +kernel)
theorem lk_R_30 : lkV "HalftoneRegions$RunReader" 30 m_P_begin 0 := ⟨List.mem_of_getElem? (i := 502) (by decide +kernel), im_P_begin, se_P_begin, ii_P, ⟨by decide +kernel, by decide +kernel, by decide +kernel⟩⟩
theorem im_R_readRun : Jvm.Cond.instanceMethod m_R_readRun.1 ∈ lw_tbl := List.mem_of_getElem? (i := 513) (by decide +kernel)
theorem se_R_readRun : Jvm.Cond.selects "HalftoneRegions$RunReader" m_R_readRun.1 m_R_readRun.1 ∈ lw_tbl := List.mem_of_getElem? (i := 11) (by decide +kernel)
theorem lk_R_48 : lkV "HalftoneRegions$RunReader" 48 m_R_readRun 0 := ⟨List.mem_of_getElem? (i := 511) (by decide +kernel), im_R_readRun, se_R_readRun, ii_R, ⟨by decide +kernel, by decide +kernel, by decide +kernel⟩⟩
theorem im_P_lowBits : Jvm.Cond.instanceMethod m_P_lowBits.1 ∈ lw_tbl := List.mem_of_getElem? (i := 467) (by decide +kernel)
theorem se_P_lowBits : Jvm.Cond.selects "HalftoneRegions$Pace" m_P_lowBits.1 m_P_lowBits.1 ∈ lw_tbl := List.mem_of_getElem? (i := 468) (by decide +kernel)
theorem lk_R_51 : lkV "HalftoneRegions$RunReader" 51 m_P_lowBits 0 := ⟨List.mem_of_getElem? (i := 515) (by decide +kernel), im_P_lowBits, se_P_lowBits, ii_P, ⟨by decide +kernel, by decide +kernel, by decide +kernel⟩⟩
theorem im_R_readBit : Jvm.Cond.instanceMethod m_R_readBit.1 ∈ lw_tbl := List.mem_of_getElem? (i := 518) (by decide +kernel)
theorem se_R_readBit : Jvm.Cond.selects "HalftoneRegions$RunReader" m_R_readBit.1 m_R_readBit.1 ∈ lw_tbl := List.mem_of_getElem? (i := 12) (by decide +kernel)
theorem lk_R_55 : lkV "HalftoneRegions$RunReader" 55 m_R_readBit 0 := ⟨List.mem_of_getElem? (i := 516) (by decide +kernel), im_R_readBit, se_R_readBit, ii_R, ⟨by decide +kernel, by decide +kernel, by decide +kernel⟩⟩
theorem im_R_read : Jvm.Cond.instanceMethod m_R_read.1 ∈ lw_tbl := List.mem_of_getElem? (i := 524) (by decide +kernel)
theorem se_R_read : Jvm.Cond.selects "HalftoneRegions$RunReader" m_R_read.1 m_R_read.1 ∈ lw_tbl := List.mem_of_getElem? (i := 13) (by decide +kernel)
theorem lk_R_58 : lkV "HalftoneRegions$RunReader" 58 m_R_read 1 := ⟨List.mem_of_getElem? (i := 522) (by decide +kernel), im_R_read, se_R_read, ii_R, ⟨by decide +kernel, by decide +kernel, by decide +kernel⟩⟩
theorem im_P_learn : Jvm.Cond.instanceMethod m_P_learn.1 ∈ lw_tbl := List.mem_of_getElem? (i := 476) (by decide +kernel)
theorem se_P_learn : Jvm.Cond.selects "HalftoneRegions$Pace" m_P_learn.1 m_P_learn.1 ∈ lw_tbl := List.mem_of_getElem? (i := 477) (by decide +kernel)
theorem lk_R_62 : lkV "HalftoneRegions$RunReader" 62 m_P_learn 1 := ⟨List.mem_of_getElem? (i := 526) (by decide +kernel), im_P_learn, se_P_learn, ii_P, ⟨by decide +kernel, by decide +kernel, by decide +kernel⟩⟩
theorem im_R_isAllRead : Jvm.Cond.instanceMethod m_R_isAllRead.1 ∈ lw_tbl := List.mem_of_getElem? (i := 537) (by decide +kernel)
theorem se_R_isAllRead : Jvm.Cond.selects "HalftoneRegions$RunReader" m_R_isAllRead.1 m_R_isAllRead.1 ∈ lw_tbl := List.mem_of_getElem? (i := 14) (by decide +kernel)
theorem lk_R_72 : lkV "HalftoneRegions$RunReader" 72 m_R_isAllRead 0 := ⟨List.mem_of_getElem? (i := 535) (by decide +kernel), im_R_isAllRead, se_R_isAllRead, ii_R, ⟨by decide +kernel, by decide +kernel, by decide +kernel⟩⟩
theorem sc_JA_fill0 : Jvm.Cond.static m_JA_fill0.1 ∈ lw_tbl := List.mem_of_getElem? (i := 426) (by decide +kernel)
theorem lk_W_22 : lkS "HalftoneRegions$RunWriter" 22 m_JA_fill0 2 := ⟨List.mem_of_getElem? (i := 425) (by decide +kernel), sc_JA_fill0, ii_JA, ⟨by decide +kernel, by decide +kernel, by decide +kernel⟩⟩
theorem lk_W_28 : lkV "HalftoneRegions$RunWriter" 28 m_P_begin 0 := ⟨List.mem_of_getElem? (i := 428) (by decide +kernel), im_P_begin, se_P_begin, ii_P, ⟨by decide +kernel, by decide +kernel, by decide +kernel⟩⟩
theorem lk_W_41 : lkV "HalftoneRegions$RunWriter" 41 m_W_endRun 0 := ⟨List.mem_of_getElem? (i := 462) (by decide +kernel), im_W_endRun, se_W_endRun, ii_W, ⟨by decide +kernel, by decide +kernel, by decide +kernel⟩⟩
theorem lk_W_44 : lkV "HalftoneRegions$RunWriter" 44 m_P_lowBits 0 := ⟨List.mem_of_getElem? (i := 466) (by decide +kernel), im_P_lowBits, se_P_lowBits, ii_P, ⟨by decide +kernel, by decide +kernel, by decide +kernel⟩⟩
theorem im_W_write : Jvm.Cond.instanceMethod m_W_write.1 ∈ lw_tbl := List.mem_of_getElem? (i := 472) (by decide +kernel)
theorem se_W_write : Jvm.Cond.selects "HalftoneRegions$RunWriter" m_W_write.1 m_W_write.1 ∈ lw_tbl := List.mem_of_getElem? (i := 8) (by decide +kernel)
theorem lk_W_48 : lkV "HalftoneRegions$RunWriter" 48 m_W_write 2 := ⟨List.mem_of_getElem? (i := 470) (by decide +kernel), im_W_write, se_W_write, ii_W, ⟨by decide +kernel, by decide +kernel, by decide +kernel⟩⟩
theorem lk_W_52 : lkV "HalftoneRegions$RunWriter" 52 m_P_learn 1 := ⟨List.mem_of_getElem? (i := 475) (by decide +kernel), im_P_learn, se_P_learn, ii_P, ⟨by decide +kernel, by decide +kernel, by decide +kernel⟩⟩
theorem lk_W_56 : lkN "HalftoneRegions$RunWriter" 56 m_H_isWithin 3 := ⟨List.mem_of_getElem? (i := 474) (by decide +kernel), sc_H_isWithin, ii_H, ⟨by decide +kernel, by decide +kernel, by decide +kernel⟩⟩
theorem lk_S_19 : lkN "HalftoneRegions$Sheet" 19 m_H_isWithin 3 := ⟨List.mem_of_getElem? (i := 310) (by decide +kernel), sc_H_isWithin, ii_H, ⟨by decide +kernel, by decide +kernel, by decide +kernel⟩⟩
theorem lk_S_23 : lkS "HalftoneRegions$Sheet" 23 m_JI_bitCount 1 := ⟨List.mem_of_getElem? (i := 317) (by decide +kernel), sc_JI_bitCount, ii_JI, ⟨by decide +kernel, by decide +kernel, by decide +kernel⟩⟩
theorem lk_S_29 : lkS "HalftoneRegions$Sheet" 29 m_JA_fill1 2 := ⟨List.mem_of_getElem? (i := 381) (by decide +kernel), sc_JA_fill1, ii_JA, ⟨by decide +kernel, by decide +kernel, by decide +kernel⟩⟩
theorem im_H_patterns : Jvm.Cond.instanceMethod m_H_patterns.1 ∈ lw_tbl := List.mem_of_getElem? (i := 595) (by decide +kernel)
theorem se_H_patterns : Jvm.Cond.selects "HalftoneRegions" m_H_patterns.1 m_H_patterns.1 ∈ lw_tbl := List.mem_of_getElem? (i := 596) (by decide +kernel)
theorem lk_Z_7 : lkV "HalftoneRegionsLaw" 7 m_H_patterns 3 := ⟨List.mem_of_getElem? (i := 594) (by decide +kernel), im_H_patterns, se_H_patterns, ii_H, ⟨by decide +kernel, by decide +kernel, by decide +kernel⟩⟩
theorem im_H_ordered : Jvm.Cond.instanceMethod m_H_ordered.1 ∈ lw_tbl := List.mem_of_getElem? (i := 671) (by decide +kernel)
theorem se_H_ordered : Jvm.Cond.selects "HalftoneRegions" m_H_ordered.1 m_H_ordered.1 ∈ lw_tbl := List.mem_of_getElem? (i := 672) (by decide +kernel)
theorem lk_Z_15 : lkV "HalftoneRegionsLaw" 15 m_H_ordered 1 := ⟨List.mem_of_getElem? (i := 670) (by decide +kernel), im_H_ordered, se_H_ordered, ii_H, ⟨by decide +kernel, by decide +kernel, by decide +kernel⟩⟩
theorem im_H_put : Jvm.Cond.instanceMethod m_H_put.1 ∈ lw_tbl := List.mem_of_getElem? (i := 696) (by decide +kernel)
theorem se_H_put : Jvm.Cond.selects "HalftoneRegions" m_H_put.1 m_H_put.1 ∈ lw_tbl := List.mem_of_getElem? (i := 697) (by decide +kernel)
theorem lk_Z_19 : lkV "HalftoneRegionsLaw" 19 m_H_put 4 := ⟨List.mem_of_getElem? (i := 695) (by decide +kernel), im_H_put, se_H_put, ii_H, ⟨by decide +kernel, by decide +kernel, by decide +kernel⟩⟩
theorem im_H_cell : Jvm.Cond.instanceMethod m_H_cell.1 ∈ lw_tbl := List.mem_of_getElem? (i := 733) (by decide +kernel)
theorem se_H_cell : Jvm.Cond.selects "HalftoneRegions" m_H_cell.1 m_H_cell.1 ∈ lw_tbl := List.mem_of_getElem? (i := 734) (by decide +kernel)
theorem lk_Z_25 : lkV "HalftoneRegionsLaw" 25 m_H_cell 3 := ⟨List.mem_of_getElem? (i := 732) (by decide +kernel), im_H_cell, se_H_cell, ii_H, ⟨by decide +kernel, by decide +kernel, by decide +kernel⟩⟩
theorem im_H_grid : Jvm.Cond.instanceMethod m_H_grid.1 ∈ lw_tbl := List.mem_of_getElem? (i := 740) (by decide +kernel)
theorem se_H_grid : Jvm.Cond.selects "HalftoneRegions" m_H_grid.1 m_H_grid.1 ∈ lw_tbl := List.mem_of_getElem? (i := 741) (by decide +kernel)
theorem lk_Z_29 : lkV "HalftoneRegionsLaw" 29 m_H_grid 6 := ⟨List.mem_of_getElem? (i := 739) (by decide +kernel), im_H_grid, se_H_grid, ii_H, ⟨by decide +kernel, by decide +kernel, by decide +kernel⟩⟩
theorem im_H_where : Jvm.Cond.instanceMethod m_H_where.1 ∈ lw_tbl := List.mem_of_getElem? (i := 753) (by decide +kernel)
theorem se_H_where : Jvm.Cond.selects "HalftoneRegions" m_H_where.1 m_H_where.1 ∈ lw_tbl := List.mem_of_getElem? (i := 754) (by decide +kernel)
theorem lk_Z_33 : lkV "HalftoneRegionsLaw" 33 m_H_where 3 := ⟨List.mem_of_getElem? (i := 752) (by decide +kernel), im_H_where, se_H_where, ii_H, ⟨by decide +kernel, by decide +kernel, by decide +kernel⟩⟩
theorem im_H_outside : Jvm.Cond.instanceMethod m_H_outside.1 ∈ lw_tbl := List.mem_of_getElem? (i := 767) (by decide +kernel)
theorem se_H_outside : Jvm.Cond.selects "HalftoneRegions" m_H_outside.1 m_H_outside.1 ∈ lw_tbl := List.mem_of_getElem? (i := 768) (by decide +kernel)
theorem lk_Z_36 : lkV "HalftoneRegionsLaw" 36 m_H_outside 2 := ⟨List.mem_of_getElem? (i := 766) (by decide +kernel), im_H_outside, se_H_outside, ii_H, ⟨by decide +kernel, by decide +kernel, by decide +kernel⟩⟩
theorem im_H_grey : Jvm.Cond.instanceMethod m_H_grey.1 ∈ lw_tbl := List.mem_of_getElem? (i := 774) (by decide +kernel)
theorem se_H_grey : Jvm.Cond.selects "HalftoneRegions" m_H_grey.1 m_H_grey.1 ∈ lw_tbl := List.mem_of_getElem? (i := 775) (by decide +kernel)
theorem lk_Z_40 : lkV "HalftoneRegionsLaw" 40 m_H_grey 3 := ⟨List.mem_of_getElem? (i := 773) (by decide +kernel), im_H_grey, se_H_grey, ii_H, ⟨by decide +kernel, by decide +kernel, by decide +kernel⟩⟩
theorem im_H_greyAt : Jvm.Cond.instanceMethod m_H_greyAt.1 ∈ lw_tbl := List.mem_of_getElem? (i := 783) (by decide +kernel)
theorem se_H_greyAt : Jvm.Cond.selects "HalftoneRegions" m_H_greyAt.1 m_H_greyAt.1 ∈ lw_tbl := List.mem_of_getElem? (i := 784) (by decide +kernel)
theorem lk_Z_43 : lkV "HalftoneRegionsLaw" 43 m_H_greyAt 2 := ⟨List.mem_of_getElem? (i := 782) (by decide +kernel), im_H_greyAt, se_H_greyAt, ii_H, ⟨by decide +kernel, by decide +kernel, by decide +kernel⟩⟩
theorem im_H_way : Jvm.Cond.instanceMethod m_H_way.1 ∈ lw_tbl := List.mem_of_getElem? (i := 790) (by decide +kernel)
theorem se_H_way : Jvm.Cond.selects "HalftoneRegions" m_H_way.1 m_H_way.1 ∈ lw_tbl := List.mem_of_getElem? (i := 791) (by decide +kernel)
theorem lk_Z_47 : lkV "HalftoneRegionsLaw" 47 m_H_way 2 := ⟨List.mem_of_getElem? (i := 789) (by decide +kernel), im_H_way, se_H_way, ii_H, ⟨by decide +kernel, by decide +kernel, by decide +kernel⟩⟩
theorem im_H_row : Jvm.Cond.instanceMethod m_H_row.1 ∈ lw_tbl := List.mem_of_getElem? (i := 803) (by decide +kernel)
theorem se_H_row : Jvm.Cond.selects "HalftoneRegions" m_H_row.1 m_H_row.1 ∈ lw_tbl := List.mem_of_getElem? (i := 804) (by decide +kernel)
theorem lk_Z_50 : lkV "HalftoneRegionsLaw" 50 m_H_row 2 := ⟨List.mem_of_getElem? (i := 802) (by decide +kernel), im_H_row, se_H_row, ii_H, ⟨by decide +kernel, by decide +kernel, by decide +kernel⟩⟩
theorem im_H_count : Jvm.Cond.instanceMethod m_H_count.1 ∈ lw_tbl := List.mem_of_getElem? (i := 811) (by decide +kernel)
theorem se_H_count : Jvm.Cond.selects "HalftoneRegions" m_H_count.1 m_H_count.1 ∈ lw_tbl := List.mem_of_getElem? (i := 812) (by decide +kernel)
theorem lk_Z_53 : lkV "HalftoneRegionsLaw" 53 m_H_count 2 := ⟨List.mem_of_getElem? (i := 810) (by decide +kernel), im_H_count, se_H_count, ii_H, ⟨by decide +kernel, by decide +kernel, by decide +kernel⟩⟩
theorem im_H_at : Jvm.Cond.instanceMethod m_H_at.1 ∈ lw_tbl := List.mem_of_getElem? (i := 818) (by decide +kernel)
theorem se_H_at : Jvm.Cond.selects "HalftoneRegions" m_H_at.1 m_H_at.1 ∈ lw_tbl := List.mem_of_getElem? (i := 819) (by decide +kernel)
theorem lk_Z_56 : lkV "HalftoneRegionsLaw" 56 m_H_at 2 := ⟨List.mem_of_getElem? (i := 817) (by decide +kernel), im_H_at, se_H_at, ii_H, ⟨by decide +kernel, by decide +kernel, by decide +kernel⟩⟩
theorem im_H_byteAt : Jvm.Cond.instanceMethod m_H_byteAt.1 ∈ lw_tbl := List.mem_of_getElem? (i := 826) (by decide +kernel)
theorem se_H_byteAt : Jvm.Cond.selects "HalftoneRegions" m_H_byteAt.1 m_H_byteAt.1 ∈ lw_tbl := List.mem_of_getElem? (i := 827) (by decide +kernel)
theorem lk_Z_59 : lkV "HalftoneRegionsLaw" 59 m_H_byteAt 1 := ⟨List.mem_of_getElem? (i := 825) (by decide +kernel), im_H_byteAt, se_H_byteAt, ii_H, ⟨by decide +kernel, by decide +kernel, by decide +kernel⟩⟩
theorem im_H_feed : Jvm.Cond.instanceMethod m_H_feed.1 ∈ lw_tbl := List.mem_of_getElem? (i := 839) (by decide +kernel)
theorem se_H_feed : Jvm.Cond.selects "HalftoneRegions" m_H_feed.1 m_H_feed.1 ∈ lw_tbl := List.mem_of_getElem? (i := 840) (by decide +kernel)
theorem lk_Z_62 : lkV "HalftoneRegionsLaw" 62 m_H_feed 1 := ⟨List.mem_of_getElem? (i := 838) (by decide +kernel), im_H_feed, se_H_feed, ii_H, ⟨by decide +kernel, by decide +kernel, by decide +kernel⟩⟩
theorem im_H_pass : Jvm.Cond.instanceMethod m_H_pass.1 ∈ lw_tbl := List.mem_of_getElem? (i := 871) (by decide +kernel)
theorem se_H_pass : Jvm.Cond.selects "HalftoneRegions" m_H_pass.1 m_H_pass.1 ∈ lw_tbl := List.mem_of_getElem? (i := 872) (by decide +kernel)
theorem lk_Z_67 : lkV "HalftoneRegionsLaw" 67 m_H_pass 0 := ⟨List.mem_of_getElem? (i := 870) (by decide +kernel), im_H_pass, se_H_pass, ii_H, ⟨by decide +kernel, by decide +kernel, by decide +kernel⟩⟩
theorem im_H_context : Jvm.Cond.instanceMethod m_H_context.1 ∈ lw_tbl := List.mem_of_getElem? (i := 879) (by decide +kernel)
theorem se_H_context : Jvm.Cond.selects "HalftoneRegions" m_H_context.1 m_H_context.1 ∈ lw_tbl := List.mem_of_getElem? (i := 880) (by decide +kernel)
theorem lk_Z_71 : lkV "HalftoneRegionsLaw" 71 m_H_context 2 := ⟨List.mem_of_getElem? (i := 878) (by decide +kernel), im_H_context, se_H_context, ii_H, ⟨by decide +kernel, by decide +kernel, by decide +kernel⟩⟩
end
section
theorem mm_H_9 : Jvm.Cond.methodLink "HalftoneRegions" 9 Lib.Math.min.name ∈ lw_tbl := List.mem_of_getElem? (i := 81) (by decide +kernel)
theorem mm_H_15 : Jvm.Cond.methodLink "HalftoneRegions" 15 Lib.Math.max.name ∈ lw_tbl := List.mem_of_getElem? (i := 84) (by decide +kernel)
theorem cn_JI_265 : Jvm.Cond.constant "java/lang/Integer" 265 (1431655765) ∈ lw_tbl := List.mem_of_getElem? (i := 320) (by decide +kernel)
theorem cn_JI_266 : Jvm.Cond.constant "java/lang/Integer" 266 (858993459) ∈ lw_tbl := List.mem_of_getElem? (i := 321) (by decide +kernel)
theorem cn_JI_267 : Jvm.Cond.constant "java/lang/Integer" 267 (252645135) ∈ lw_tbl := List.mem_of_getElem? (i := 322) (by decide +kernel)
theorem cn_JL_314 : Jvm.Cond.constantLong "java/lang/Long" 314 (6148914691236517205) ∈ lw_tbl := List.mem_of_getElem? (i := 338) (by decide +kernel)
theorem cn_JL_316 : Jvm.Cond.constantLong "java/lang/Long" 316 (3689348814741910323) ∈ lw_tbl := List.mem_of_getElem? (i := 339) (by decide +kernel)
theorem cn_JL_318 : Jvm.Cond.constantLong "java/lang/Long" 318 (1085102592571150095) ∈ lw_tbl := List.mem_of_getElem? (i := 340) (by decide +kernel)
theorem mm_F_28 : Jvm.Cond.methodLink "HalftoneRegions$Forecast" 28 Lib.Math.min.name ∈ lw_tbl := List.mem_of_getElem? (i := 483) (by decide +kernel)
theorem mm_F_34 : Jvm.Cond.methodLink "HalftoneRegions$Forecast" 34 Lib.Math.max.name ∈ lw_tbl := List.mem_of_getElem? (i := 484) (by decide +kernel)
theorem mm_R_66 : Jvm.Cond.methodLink "HalftoneRegions$RunReader" 66 Lib.Math.min.name ∈ lw_tbl := List.mem_of_getElem? (i := 520) (by decide +kernel)
theorem mm_C_33 : Jvm.Cond.methodLink "HalftoneRegions$Codes" 33 Lib.Math.max.name ∈ lw_tbl := List.mem_of_getElem? (i := 546) (by decide +kernel)
theorem cn_H_132 : Jvm.Cond.constant "HalftoneRegions" 132 (-65536) ∈ lw_tbl := List.mem_of_getElem? (i := 744) (by decide +kernel)
theorem cn_H_133 : Jvm.Cond.constant "HalftoneRegions" 133 (65536) ∈ lw_tbl := List.mem_of_getElem? (i := 745) (by decide +kernel)
theorem cn_M_23 : Jvm.Cond.constant "HalftoneRegionsModel" 23 (60000) ∈ lw_tbl := List.mem_of_getElem? (i := 890) (by decide +kernel)
theorem cn_M_139 : Jvm.Cond.constant "HalftoneRegionsModel" 139 (-65536) ∈ lw_tbl := List.mem_of_getElem? (i := 1061) (by decide +kernel)
theorem cn_M_140 : Jvm.Cond.constant "HalftoneRegionsModel" 140 (65536) ∈ lw_tbl := List.mem_of_getElem? (i := 1062) (by decide +kernel)
end
section
section Named
variable {l : Launch} {B : List Sh} {R : Room} {y : Mt} {Zf : ZF} {kc ks pc i t : Nat} {lv : List (Option AV)} {st : List AV} {S : St}
/-- constants, by their values -/
theorem e_ci {n : Int} (v : Int32) (hd : cAt y.2.2.2.2.1 pc = some (.iconst n, 1, t)) (hv : Int32.ofInt n = v) (k : EE l B R y Zf kc ks (pc + 1) lv (aI v :: st) S) : EE l B R y Zf kc ks pc lv st S := e_sp hd rfl rfl (by rw [hv]; exact k)
theorem e_cb {n : Int} (v : Int32) (hd : cAt y.2.2.2.2.1 pc = some (.bipush n, 2, t)) (hv : (Int8.ofInt n).toInt32 = v) (k : EE l B R y Zf kc ks (pc + 2) lv (aI v :: st) S) : EE l B R y Zf kc ks pc lv st S := e_sp hd rfl rfl (by rw [hv]; exact k)
theorem e_cs {n : Int} (v : Int32) (hd : cAt y.2.2.2.2.1 pc = some (.sipush n, 3, t)) (hv : (Int16.ofInt n).toInt32 = v) (k : EE l B R y Zf kc ks (pc + 3) lv (aI v :: st) S) : EE l B R y Zf kc ks pc lv st S := e_sp hd rfl rfl (by rw [hv]; exact k)
theorem e_cl {n : Fin 2} (v : Int64) (hd : cAt y.2.2.2.2.1 pc = some (.lconst n, 1, t)) (hv : Int64.ofNat (n : Nat) = v) (k : EE l B R y Zf kc ks (pc + 1) lv (aL v :: st) S) : EE l B R y Zf kc ks pc lv st S := e_sp hd rfl rfl (by rw [hv]; exact k)
theorem e_inc {j : Nat} {n : Int} {x : Int32} (v : Int32) (hd : cAt y.2.2.2.2.1 pc = some (.iinc j n, 3, t)) (hx : lv[j]? = some (some (aI x))) (hp : (lvP lv j && decide (j < y.2.2.1)) = true) (hv : Int32.ofInt n = v) (k : EE l B R y Zf kc ks (pc + 3) (lv.set j (some (aI (x + v)))) st S) : EE l B R y Zf kc ks pc lv st S := by
  subst hv
  refine e_sp hd rfl ?_ k
  show incI y.2.2.1 lv j n st S = _
  unfold incI
  rw [hx]
  simp only [hp, if_true]
theorem e_iceq {o : Int} {t : Nat} {x z : Int32} (hd : cAt y.2.2.2.2.1 pc = some (.if_icmp .eq o, 3, t)) (kt : x = z → EE l B R y Zf kc ks t lv st S) (kf : ¬ x = z → EE l B R y Zf kc ks (pc + 3) lv st S) : EE l B R y Zf kc ks pc lv (aI z :: aI x :: st) S := e_icmp hd kt kf
theorem e_ifeq {o : Int} {t : Nat} {x : Int32} (hd : cAt y.2.2.2.2.1 pc = some (.ifCond .eq o, 3, t)) (kt : x = 0 → EE l B R y Zf kc ks t lv st S) (kf : ¬ x = 0 → EE l B R y Zf kc ks (pc + 3) lv st S) : EE l B R y Zf kc ks pc lv (aI x :: st) S := e_if hd kt kf
theorem e_icne {o : Int} {t : Nat} {x z : Int32} (hd : cAt y.2.2.2.2.1 pc = some (.if_icmp .ne o, 3, t)) (kt : ¬ x = z → EE l B R y Zf kc ks t lv st S) (kf : x = z → EE l B R y Zf kc ks (pc + 3) lv st S) : EE l B R y Zf kc ks pc lv (aI z :: aI x :: st) S := e_icmp hd kt (fun h => kf (Decidable.not_not.mp h))
theorem e_ifne {o : Int} {t : Nat} {x : Int32} (hd : cAt y.2.2.2.2.1 pc = some (.ifCond .ne o, 3, t)) (kt : ¬ x = 0 → EE l B R y Zf kc ks t lv st S) (kf : x = 0 → EE l B R y Zf kc ks (pc + 3) lv st S) : EE l B R y Zf kc ks pc lv (aI x :: st) S := e_if hd kt (fun h => kf (Decidable.not_not.mp h))
theorem e_iclt {o : Int} {t : Nat} {x z : Int32} (hd : cAt y.2.2.2.2.1 pc = some (.if_icmp .lt o, 3, t)) (kt : x < z → EE l B R y Zf kc ks t lv st S) (kf : ¬ x < z → EE l B R y Zf kc ks (pc + 3) lv st S) : EE l B R y Zf kc ks pc lv (aI z :: aI x :: st) S := e_icmp hd kt kf
theorem e_iflt {o : Int} {t : Nat} {x : Int32} (hd : cAt y.2.2.2.2.1 pc = some (.ifCond .lt o, 3, t)) (kt : x < 0 → EE l B R y Zf kc ks t lv st S) (kf : ¬ x < 0 → EE l B R y Zf kc ks (pc + 3) lv st S) : EE l B R y Zf kc ks pc lv (aI x :: st) S := e_if hd kt kf
theorem e_icge {o : Int} {t : Nat} {x z : Int32} (hd : cAt y.2.2.2.2.1 pc = some (.if_icmp .ge o, 3, t)) (kt : z ≤ x → EE l B R y Zf kc ks t lv st S) (kf : ¬ z ≤ x → EE l B R y Zf kc ks (pc + 3) lv st S) : EE l B R y Zf kc ks pc lv (aI z :: aI x :: st) S := e_icmp hd kt kf
theorem e_ifge {o : Int} {t : Nat} {x : Int32} (hd : cAt y.2.2.2.2.1 pc = some (.ifCond .ge o, 3, t)) (kt : 0 ≤ x → EE l B R y Zf kc ks t lv st S) (kf : ¬ 0 ≤ x → EE l B R y Zf kc ks (pc + 3) lv st S) : EE l B R y Zf kc ks pc lv (aI x :: st) S := e_if hd kt kf
theorem e_icgt {o : Int} {t : Nat} {x z : Int32} (hd : cAt y.2.2.2.2.1 pc = some (.if_icmp .gt o, 3, t)) (kt : z < x → EE l B R y Zf kc ks t lv st S) (kf : ¬ z < x → EE l B R y Zf kc ks (pc + 3) lv st S) : EE l B R y Zf kc ks pc lv (aI z :: aI x :: st) S := e_icmp hd kt kf
theorem e_ifgt {o : Int} {t : Nat} {x : Int32} (hd : cAt y.2.2.2.2.1 pc = some (.ifCond .gt o, 3, t)) (kt : 0 < x → EE l B R y Zf kc ks t lv st S) (kf : ¬ 0 < x → EE l B R y Zf kc ks (pc + 3) lv st S) : EE l B R y Zf kc ks pc lv (aI x :: st) S := e_if hd kt kf
theorem e_icle {o : Int} {t : Nat} {x z : Int32} (hd : cAt y.2.2.2.2.1 pc = some (.if_icmp .le o, 3, t)) (kt : x ≤ z → EE l B R y Zf kc ks t lv st S) (kf : ¬ x ≤ z → EE l B R y Zf kc ks (pc + 3) lv st S) : EE l B R y Zf kc ks pc lv (aI z :: aI x :: st) S := e_icmp hd kt kf
theorem e_ifle {o : Int} {t : Nat} {x : Int32} (hd : cAt y.2.2.2.2.1 pc = some (.ifCond .le o, 3, t)) (kt : x ≤ 0 → EE l B R y Zf kc ks t lv st S) (kf : ¬ x ≤ 0 → EE l B R y Zf kc ks (pc + 3) lv st S) : EE l B R y Zf kc ks pc lv (aI x :: st) S := e_if hd kt kf
/-- downward induction: a loop whose state behind i rounds is known -/
theorem e_for {P : Nat → Prop} (n : Nat) (hn : P n) (hs : ∀ i, i < n → P (i + 1) → P i) : P 0 := by
  have h : ∀ k, k ≤ n → P (n - k) := by
    intro k
    induction k with
    | zero => intro _; exact hn
    | succ k ih =>
      intro hk
      have h1 := hs (n - (k + 1)) (by omega)
      rw [show n - (k + 1) + 1 = n - k by omega] at h1
      exact h1 (ih (by omega))
  have := h n (Nat.le_refl n)
  rwa [Nat.sub_self] at this
end Named
end
section
/-! the cells, in the order in which they are made; h: the height -/
def SHm (h : Nat) : List Sh := [.inl (8, [none, none, some 1, some 3, some 5, some 7, some 9, some 11, some 14, some 17, some 20, none, none, none, none]), .inl (7, [some 2, none]), .inr (.int, h), .inl (7, [some 4, none]), .inr (.int, h),
  .inl (4, [some 6, none, none, none]), .inr (.long, 64), .inl (2, [some 8, none, none, none, none, none, none]), .inr (.int, 256), .inl (0, [some 10]), .inr (.int, 256), .inl (1, [some 12, some 13]), .inr (.int, 64), .inr (.int, 64),
  .inl (6, [some 15, some 16, none, none, none]), .inr (.byte, 384), .inl (3, [none, none]), .inl (5, [some 18, some 19, none, none, none, none, none, none]), .inr (.byte, 3000), .inl (3, [none, none]), .inr (.int, 65),
  .inl (9, [none, none, none, some 22, some 23, none, none, none, some 24, none, none, none, none, none, none, some 25, none, none, none, some 26, none, none, some 27, none, some 28, some 29, some 30, some 31, some 32, none, none, none, none, none, none, none, none, none]),
  .inr (.boolean, 1024), .inr (.boolean, 1024), .inr (.boolean, 4096), .inr (.int, 256), .inr (.boolean, 60000), .inr (.int, 3000), .inr (.int, 64), .inr (.int, 64), .inr (.boolean, 256), .inr (.boolean, 256), .inr (.int, 256)]
/-- whether a number lies within -/
def wi (a b c : Int32) : Int32 := if a < b then 0 else if c < a then 0 else 1
/-- a place's number, or -1 -/
def plc (i j : Int32) : Int32 := if wi i 0 15 = 0 then -1 else if wi j 0 15 = 0 then -1 else 16 * j + i
def ushr (x y : Int32) : Int32 := (x.toUInt32 >>> (y.toUInt32 &&& Int32.toUInt32 31)).toInt32
def mvd (b c : Int32) : Int32 := if c < 0 then ushr b (-c) else b <<< (c &&& 31)
set_option maxHeartbeats 4000000 in
set_option maxRecDepth 40000 in
theorem k_H_isWithin {l : Launch} {B : List Sh} {S : St} {a b c : Int32}  : KK l B (0, 0) m_H_isWithin [aI a, aI b, aI c] S (ans (some (aI (wi a b c))) S) := by
  refine k_start ok_H_isWithin (Nat.le_of_ble_eq_true rfl) ?_
  iterate 2 refine e_sp rfl rfl rfl ?_
  refine e_iclt rfl (fun h1 => ?_) (fun h1 => ?_)
  · refine e_ci 0 rfl rfl ?_
    refine e_zret rfl rfl (Nat.le_refl _) (Nat.le_refl _) (by decide) ?_
    exact ⟨by simp [wi, h1], rfl⟩
  · iterate 2 refine e_sp rfl rfl rfl ?_
    refine e_icgt rfl (fun h2 => ?_) (fun h2 => ?_)
    · refine e_ci 0 rfl rfl ?_
      refine e_zret rfl rfl (Nat.le_refl _) (Nat.le_refl _) (by decide) ?_
      exact ⟨by simp [wi, h1, h2], rfl⟩
    · refine e_ci 1 rfl rfl ?_
      refine e_goto rfl ?_
      refine e_zret rfl rfl (Nat.le_refl _) (Nat.le_refl _) (by decide) ?_
      exact ⟨by simp [wi, h1, h2], rfl⟩
set_option maxHeartbeats 4000000 in
set_option maxRecDepth 40000 in
theorem k_M_in {l : Launch} {B : List Sh} {S : St} {a b c : Int32}  : KK l B (0, 0) m_M_in [aI a, aI b, aI c] S (ans (some (aI (wi a b c))) S) := by
  refine k_start ok_M_in (Nat.le_of_ble_eq_true rfl) ?_
  iterate 2 refine e_sp rfl rfl rfl ?_
  refine e_iclt rfl (fun h1 => ?_) (fun h1 => ?_)
  · refine e_ci 0 rfl rfl ?_
    refine e_zret rfl rfl (Nat.le_refl _) (Nat.le_refl _) (by decide) ?_
    exact ⟨by simp [wi, h1], rfl⟩
  · iterate 2 refine e_sp rfl rfl rfl ?_
    refine e_icgt rfl (fun h2 => ?_) (fun h2 => ?_)
    · refine e_ci 0 rfl rfl ?_
      refine e_zret rfl rfl (Nat.le_refl _) (Nat.le_refl _) (by decide) ?_
      exact ⟨by simp [wi, h1, h2], rfl⟩
    · refine e_ci 1 rfl rfl ?_
      refine e_goto rfl ?_
      refine e_zret rfl rfl (Nat.le_refl _) (Nat.le_refl _) (by decide) ?_
      exact ⟨by simp [wi, h1, h2], rfl⟩
set_option maxHeartbeats 4000000 in
set_option maxRecDepth 40000 in
theorem k_H_placeOf {l : Launch} {B : List Sh} {S : St} {i j : Int32}  : KK l B (1, 22) m_H_placeOf [aI i, aI j] S (ans (some (aI (plc i j))) S) := by
  refine k_start ok_H_placeOf (Nat.le_of_ble_eq_true rfl) ?_
  iterate 1 refine e_sp rfl rfl rfl ?_
  refine e_ci 0 rfl rfl ?_
  refine e_cb 15 rfl rfl ?_
  refine e_callS1 ok_H_isWithin rfl lk_H_83 k_H_isWithin rfl rfl ⟨Nat.le_of_ble_eq_true rfl, Nat.le_of_ble_eq_true rfl⟩ ⟨Nat.zero_le _, Nat.zero_le _⟩ (Nat.le_of_ble_eq_true rfl) ?_
  refine e_ifeq rfl (fun h1 => ?_) (fun h1 => ?_)
  · refine e_ci 0 rfl rfl ?_
    iterate 2 refine e_sp rfl rfl rfl ?_
    refine e_ifeq rfl (fun _ => ?_) (fun h2 => absurd h2 (by first | decide | simp [puI, pt, upd]))
    refine e_ci (-1) rfl rfl ?_
    refine e_iret rfl rfl (Nat.le_refl _) (Nat.le_refl _) ?_
    exact ⟨by simp [plc, h1], rfl⟩
  · iterate 1 refine e_sp rfl rfl rfl ?_
    refine e_ci 0 rfl rfl ?_
    refine e_cb 15 rfl rfl ?_
    refine e_callS1 ok_H_isWithin rfl lk_H_83 k_H_isWithin rfl rfl ⟨Nat.le_of_ble_eq_true rfl, Nat.le_of_ble_eq_true rfl⟩ ⟨Nat.zero_le _, Nat.zero_le _⟩ (Nat.le_of_ble_eq_true rfl) ?_
    refine e_ifeq rfl (fun h3 => ?_) (fun h3 => ?_)
    · refine e_ci 0 rfl rfl ?_
      iterate 2 refine e_sp rfl rfl rfl ?_
      refine e_ifeq rfl (fun _ => ?_) (fun h4 => absurd h4 (by first | decide | simp [puI, pt, upd]))
      refine e_ci (-1) rfl rfl ?_
      refine e_iret rfl rfl (Nat.le_refl _) (Nat.le_refl _) ?_
      exact ⟨by simp [plc, h1, h3], rfl⟩
    · refine e_ci 1 rfl rfl ?_
      refine e_goto rfl ?_
      iterate 2 refine e_sp rfl rfl rfl ?_
      refine e_ifeq rfl (fun h5 => absurd h5 (by first | decide | simp [puI, pt, upd])) (fun _ => ?_)
      refine e_cb 16 rfl rfl ?_
      iterate 4 refine e_sp rfl rfl rfl ?_
      refine e_goto rfl ?_
      refine e_iret rfl rfl (Nat.le_refl _) (Nat.le_refl _) ?_
      exact ⟨by simp [plc, h1, h3], rfl⟩
set_option maxHeartbeats 4000000 in
set_option maxRecDepth 40000 in
theorem k_H_moved {l : Launch} {B : List Sh} {S : St} {a b : Int32}  : KK l B (0, 0) m_H_moved [aI a, aI b] S (ans (some (aI (mvd a b))) S) := by
  refine k_start ok_H_moved (Nat.le_of_ble_eq_true rfl) ?_
  iterate 1 refine e_sp rfl rfl rfl ?_
  refine e_iflt rfl (fun h1 => ?_) (fun h1 => ?_)
  · iterate 4 refine e_sp rfl rfl rfl ?_
    refine e_iret rfl rfl (Nat.le_refl _) (Nat.le_refl _) ?_
    exact ⟨by simp [mvd, ushr, h1], rfl⟩
  · iterate 3 refine e_sp rfl rfl rfl ?_
    refine e_goto rfl ?_
    refine e_iret rfl rfl (Nat.le_refl _) (Nat.le_refl _) ?_
    exact ⟨by simp [mvd, ushr, h1], rfl⟩
set_option maxHeartbeats 4000000 in
set_option maxRecDepth 40000 in
theorem k_M_by256 {l : Launch} {B : List Sh} {S : St} {a : Int32}  : KK l B (0, 0) m_M_by256 [aI a] S (ans (some (aI (a >>> (8 &&& 31)))) S) := by
  refine k_start ok_M_by256 (Nat.le_of_ble_eq_true rfl) ?_
  iterate 1 refine e_sp rfl rfl rfl ?_
  refine e_cb 8 rfl rfl ?_
  iterate 1 refine e_sp rfl rfl rfl ?_
  refine e_iret rfl rfl (Nat.le_refl _) (Nat.le_refl _) ?_
  exact ⟨rfl, rfl⟩
set_option maxHeartbeats 4000000 in
set_option maxRecDepth 40000 in
theorem k_P_begin_16 {l : Launch} {h : Nat} {S : St}  : KK l (SHm h) (0, 0) m_P_begin [aR 16] S (ans none (puI (puI S 16 0 4) 16 1 1)) := by
  refine k_start ok_P_begin (Nat.le_of_ble_eq_true rfl) ?_
  iterate 1 refine e_sp rfl rfl rfl ?_
  refine e_ci 4 rfl rfl ?_
  iterate 2 refine e_sp rfl rfl rfl ?_
  refine e_ci 1 rfl rfl ?_
  iterate 1 refine e_sp rfl rfl rfl ?_
  refine e_vret rfl rfl (Nat.le_refl _) (Nat.le_refl _) ?_
  exact ⟨rfl, rfl⟩
/-- the pace behind a run -/
def pacN_16 (S : St) (r : Int32) : St := if S.1 16 1 + 1 = 32 then puI (puI (puI (puI S 16 0 (S.1 16 0 + r)) 16 1 (S.1 16 1 + 1)) 16 0 ((S.1 16 0 + r) >>> (1 &&& 31))) 16 1 ((S.1 16 1 + 1) >>> (1 &&& 31)) else puI (puI S 16 0 (S.1 16 0 + r)) 16 1 (S.1 16 1 + 1)
set_option maxHeartbeats 4000000 in
set_option maxRecDepth 40000 in
theorem k_P_learn_16 {l : Launch} {h : Nat} {S : St} {r : Int32}  : KK l (SHm h) (0, 0) m_P_learn [aR 16, aI r] S (ans none (pacN_16 S r)) := by
  refine k_start ok_P_learn (Nat.le_of_ble_eq_true rfl) ?_
  iterate 9 refine e_sp rfl rfl rfl ?_
  refine e_ci 1 rfl rfl ?_
  iterate 4 refine e_sp rfl rfl rfl ?_
  refine e_cb 32 rfl rfl ?_
  refine e_icne rfl (fun h1 => ?_) (fun h1 => ?_)
  · refine e_vret rfl rfl (Nat.le_refl _) (Nat.le_refl _) ?_
    exact ⟨rfl, by simp [pacN_16, puI, pt, upd] at h1 ⊢; simp [h1]⟩
  · iterate 3 refine e_sp rfl rfl rfl ?_
    refine e_ci 1 rfl rfl ?_
    iterate 5 refine e_sp rfl rfl rfl ?_
    refine e_ci 1 rfl rfl ?_
    iterate 2 refine e_sp rfl rfl rfl ?_
    refine e_vret rfl rfl (Nat.le_refl _) (Nat.le_refl _) ?_
    exact ⟨rfl, by simp [pacN_16, puI, pt, upd] at h1 ⊢; simp [h1]⟩
set_option maxHeartbeats 4000000 in
set_option maxRecDepth 40000 in
theorem k_P_begin_19 {l : Launch} {h : Nat} {S : St}  : KK l (SHm h) (0, 0) m_P_begin [aR 19] S (ans none (puI (puI S 19 0 4) 19 1 1)) := by
  refine k_start ok_P_begin (Nat.le_of_ble_eq_true rfl) ?_
  iterate 1 refine e_sp rfl rfl rfl ?_
  refine e_ci 4 rfl rfl ?_
  iterate 2 refine e_sp rfl rfl rfl ?_
  refine e_ci 1 rfl rfl ?_
  iterate 1 refine e_sp rfl rfl rfl ?_
  refine e_vret rfl rfl (Nat.le_refl _) (Nat.le_refl _) ?_
  exact ⟨rfl, rfl⟩
/-- the pace behind a run -/
def pacN_19 (S : St) (r : Int32) : St := if S.1 19 1 + 1 = 32 then puI (puI (puI (puI S 19 0 (S.1 19 0 + r)) 19 1 (S.1 19 1 + 1)) 19 0 ((S.1 19 0 + r) >>> (1 &&& 31))) 19 1 ((S.1 19 1 + 1) >>> (1 &&& 31)) else puI (puI S 19 0 (S.1 19 0 + r)) 19 1 (S.1 19 1 + 1)
set_option maxHeartbeats 4000000 in
set_option maxRecDepth 40000 in
theorem k_P_learn_19 {l : Launch} {h : Nat} {S : St} {r : Int32}  : KK l (SHm h) (0, 0) m_P_learn [aR 19, aI r] S (ans none (pacN_19 S r)) := by
  refine k_start ok_P_learn (Nat.le_of_ble_eq_true rfl) ?_
  iterate 9 refine e_sp rfl rfl rfl ?_
  refine e_ci 1 rfl rfl ?_
  iterate 4 refine e_sp rfl rfl rfl ?_
  refine e_cb 32 rfl rfl ?_
  refine e_icne rfl (fun h1 => ?_) (fun h1 => ?_)
  · refine e_vret rfl rfl (Nat.le_refl _) (Nat.le_refl _) ?_
    exact ⟨rfl, by simp [pacN_19, puI, pt, upd] at h1 ⊢; simp [h1]⟩
  · iterate 3 refine e_sp rfl rfl rfl ?_
    refine e_ci 1 rfl rfl ?_
    iterate 5 refine e_sp rfl rfl rfl ?_
    refine e_ci 1 rfl rfl ?_
    iterate 2 refine e_sp rfl rfl rfl ?_
    refine e_vret rfl rfl (Nat.le_refl _) (Nat.le_refl _) ?_
    exact ⟨rfl, by simp [pacN_19, puI, pt, upd] at h1 ⊢; simp [h1]⟩
end
section
/-! Arrays.fill -/
def flI (S : St) (o : Nat) (v : Int32) (n : Nat) : St := (pt S.1 o (fun j => if j < n then v else S.1 o j), S.2)
def flL (S : St) (o : Nat) (v : Int64) (n : Nat) : St := (S.1, ptL S.2 o (fun j => if j < n then v else S.2 o j))
theorem pt_id (f : Nat → Nat → Int32) (o : Nat) : pt f o (f o) = f := by
  funext q
  by_cases h : q = o
  · subst h; exact pt_s
  · exact pt_n h
theorem ptL_id (f : Nat → Nat → Int64) (o : Nat) : ptL f o (f o) = f := by
  funext q
  by_cases h : q = o
  · subst h; exact ptL_s
  · exact ptL_n h
theorem pt_pt (f : Nat → Nat → Int32) (o : Nat) (r r' : Nat → Int32) : pt (pt f o r) o r' = pt f o r' := by
  funext q
  by_cases h : q = o
  · subst h; rw [pt_s, pt_s]
  · rw [pt_n h, pt_n h, pt_n h]
theorem ptL_ptL (f : Nat → Nat → Int64) (o : Nat) (r r' : Nat → Int64) : ptL (ptL f o r) o r' = ptL f o r' := by
  funext q
  by_cases h : q = o
  · subst h; rw [ptL_s, ptL_s]
  · rw [ptL_n h, ptL_n h, ptL_n h]
theorem flI_0 (S : St) (o : Nat) (v : Int32) : flI S o v 0 = S := by
  unfold flI
  simp only [Nat.not_lt_zero, if_false]
  rw [pt_id]
theorem flL_0 (S : St) (o : Nat) (v : Int64) : flL S o v 0 = S := by
  unfold flL
  simp only [Nat.not_lt_zero, if_false]
  rw [ptL_id]
theorem flI_s (S : St) (o : Nat) (v : Int32) (i : Nat) : puI (flI S o v i) o i v = flI S o v (i + 1) := by
  unfold flI puI
  simp only [pt_s, pt_pt]
  congr 2
  funext j
  unfold upd
  by_cases h : j = i
  · subst h; simp
  · rw [if_neg h]
    dsimp only
    by_cases h2 : j < i
    · rw [if_pos h2, if_pos (by omega)]
    · rw [if_neg h2, if_neg (by omega)]
theorem flL_s (S : St) (o : Nat) (v : Int64) (i : Nat) : puL (flL S o v i) o i v = flL S o v (i + 1) := by
  unfold flL puL
  simp only [ptL_s, ptL_ptL]
  congr 2
  funext j
  unfold vp_updL
  by_cases h : j = i
  · subst h; simp
  · rw [if_neg h]
    dsimp only
    by_cases h2 : j < i
    · rw [if_pos h2, if_pos (by omega)]
    · rw [if_neg h2, if_neg (by omega)]
set_option maxHeartbeats 4000000 in
set_option maxRecDepth 40000 in
theorem k_JA_fill1 {l : Launch} {B : List Sh} {S : St} {o n : Nat} {v : Int32} (hB : B[o]? = some (.inr (.int, n))) (hn : n < 2 ^ 31) : KK l B (0, 0) m_JA_fill1 [aR o, aI v] S (ans none (flI S o v n)) := by
  refine k_start ok_JA_fill1 (Nat.le_of_ble_eq_true rfl) ?_
  have L := e_for (P := fun i => E0 l B (0, 0) m_JA_fill1 5 [some (aR o), some (aI v), some (aI (nI i)), some (aI (nI n))] [] (flI S o v i) (ans none (flI S o v n))) n (by
      iterate 2 refine e_sp rfl rfl rfl ?_
      refine e_icge rfl (fun h1 => ?_) (fun h1 => ?_)
      · refine e_vret rfl rfl (Nat.le_refl _) (Nat.le_refl _) ?_
        exact ⟨rfl, rfl⟩
      · exact absurd (nI_le (Nat.le_refl _) hn) h1) (fun i hi ihi => by
      iterate 2 refine e_sp rfl rfl rfl ?_
      refine e_icge rfl (fun h1 => ?_) (fun h1 => ?_)
      · exact absurd h1 (nI_ge hi hn)
      · iterate 3 refine e_sp rfl rfl rfl ?_
        refine e_iast rfl (by first | rfl | assumption) (by exact vp_in_nI hi hn) ?_
        refine e_inc 1 rfl rfl rfl rfl ?_
        refine e_goto rfl ?_
        rw [nI_clamp (Nat.lt_trans hi hn), flI_s, nI_1]
        exact ihi)
  refine e_ci 0 rfl rfl ?_
  iterate 2 refine e_sp rfl rfl rfl ?_
  refine e_alen rfl (by first | rfl | assumption) (by decide) ?_
  iterate 1 refine e_sp rfl rfl rfl ?_
  rw [flI_0] at L
  exact L
set_option maxHeartbeats 4000000 in
set_option maxRecDepth 40000 in
theorem k_JA_fill0 {l : Launch} {B : List Sh} {S : St} {o n : Nat} {v : Int32} (hB : B[o]? = some (.inr (.byte, n))) (hn : n < 2 ^ 31) : KK l B (0, 0) m_JA_fill0 [aR o, aI v] S (ans none (flI S o (vp_nar .byte v) n)) := by
  refine k_start ok_JA_fill0 (Nat.le_of_ble_eq_true rfl) ?_
  have L := e_for (P := fun i => E0 l B (0, 0) m_JA_fill0 5 [some (aR o), some (aI v), some (aI (nI i)), some (aI (nI n))] [] (flI S o (vp_nar .byte v) i) (ans none (flI S o (vp_nar .byte v) n))) n (by
      iterate 2 refine e_sp rfl rfl rfl ?_
      refine e_icge rfl (fun h1 => ?_) (fun h1 => ?_)
      · refine e_vret rfl rfl (Nat.le_refl _) (Nat.le_refl _) ?_
        exact ⟨rfl, rfl⟩
      · exact absurd (nI_le (Nat.le_refl _) hn) h1) (fun i hi ihi => by
      iterate 2 refine e_sp rfl rfl rfl ?_
      refine e_icge rfl (fun h1 => ?_) (fun h1 => ?_)
      · exact absurd h1 (nI_ge hi hn)
      · iterate 3 refine e_sp rfl rfl rfl ?_
        refine e_bast rfl (by first | rfl | assumption) (by exact vp_in_nI hi hn) ?_
        refine e_inc 1 rfl rfl rfl rfl ?_
        refine e_goto rfl ?_
        rw [nI_clamp (Nat.lt_trans hi hn), flI_s, nI_1]
        exact ihi)
  refine e_ci 0 rfl rfl ?_
  iterate 2 refine e_sp rfl rfl rfl ?_
  refine e_alen rfl (by first | rfl | assumption) (by decide) ?_
  iterate 1 refine e_sp rfl rfl rfl ?_
  rw [flI_0] at L
  exact L
set_option maxHeartbeats 4000000 in
set_option maxRecDepth 40000 in
theorem k_JA_fill2 {l : Launch} {B : List Sh} {S : St} {o n : Nat} {v : Int64} (hB : B[o]? = some (.inr (.long, n))) (hn : n < 2 ^ 31) : KK l B (0, 0) m_JA_fill2 [aR o, aL v] S (ans none (flL S o v n)) := by
  refine k_start ok_JA_fill2 (Nat.le_of_ble_eq_true rfl) ?_
  have L := e_for (P := fun i => E0 l B (0, 0) m_JA_fill2 6 [some (aR o), some (aL v), none, some (aI (nI i)), some (aI (nI n))] [] (flL S o v i) (ans none (flL S o v n))) n (by
      iterate 2 refine e_sp rfl rfl rfl ?_
      refine e_icge rfl (fun h1 => ?_) (fun h1 => ?_)
      · refine e_vret rfl rfl (Nat.le_refl _) (Nat.le_refl _) ?_
        exact ⟨rfl, rfl⟩
      · exact absurd (nI_le (Nat.le_refl _) hn) h1) (fun i hi ihi => by
      iterate 2 refine e_sp rfl rfl rfl ?_
      refine e_icge rfl (fun h1 => ?_) (fun h1 => ?_)
      · exact absurd h1 (nI_ge hi hn)
      · iterate 3 refine e_sp rfl rfl rfl ?_
        refine e_last rfl (by first | rfl | assumption) (by exact vp_in_nI hi hn) ?_
        refine e_inc 1 rfl rfl rfl rfl ?_
        refine e_goto rfl ?_
        rw [nI_clamp (Nat.lt_trans hi hn), flL_s, nI_1]
        exact ihi)
  refine e_ci 0 rfl rfl ?_
  iterate 2 refine e_sp rfl rfl rfl ?_
  refine e_alen rfl (by first | rfl | assumption) (by decide) ?_
  iterate 1 refine e_sp rfl rfl rfl ?_
  rw [flL_0] at L
  exact L
/-! bitCount, as it is written -/
def bcI (x : Int32) : Int32 :=
  let a := x - (ushr x 1 &&& 1431655765)
  let b := (a &&& 858993459) + (ushr a 2 &&& 858993459)
  let c := (b + ushr b 4) &&& 252645135
  let e := c + ushr c 8
  let f := e + ushr e 16
  f &&& 63
def ushL (x : Int64) (y : Int32) : Int64 := (x.toUInt64 >>> (y.toInt64.toUInt64 &&& Int64.toUInt64 63)).toInt64
def bcL (x : Int64) : Int32 :=
  let a := x - (ushL x 1 &&& 6148914691236517205)
  let b := (a &&& 3689348814741910323) + (ushL a 2 &&& 3689348814741910323)
  let c := (b + ushL b 4) &&& 1085102592571150095
  let e := c + ushL c 8
  let f := e + ushL e 16
  let g := f + ushL f 32
  g.toInt32 &&& 127
set_option maxHeartbeats 4000000 in
set_option maxRecDepth 40000 in
theorem k_JI_bitCount {l : Launch} {B : List Sh} {S : St} {x : Int32}  : KK l B (0, 0) m_JI_bitCount [aI x] S (ans (some (aI (bcI x))) S) := by
  refine k_start ok_JI_bitCount (Nat.le_of_ble_eq_true rfl) ?_
  iterate 2 refine e_sp rfl rfl rfl ?_
  refine e_ci 1 rfl rfl ?_
  iterate 1 refine e_sp rfl rfl rfl ?_
  refine e_ldcw rfl cn_JI_265 ?_
  iterate 4 refine e_sp rfl rfl rfl ?_
  refine e_ldcw rfl cn_JI_266 ?_
  iterate 2 refine e_sp rfl rfl rfl ?_
  refine e_ci 2 rfl rfl ?_
  iterate 1 refine e_sp rfl rfl rfl ?_
  refine e_ldcw rfl cn_JI_266 ?_
  iterate 5 refine e_sp rfl rfl rfl ?_
  refine e_ci 4 rfl rfl ?_
  iterate 2 refine e_sp rfl rfl rfl ?_
  refine e_ldcw rfl cn_JI_267 ?_
  iterate 4 refine e_sp rfl rfl rfl ?_
  refine e_cb 8 rfl rfl ?_
  iterate 5 refine e_sp rfl rfl rfl ?_
  refine e_cb 16 rfl rfl ?_
  iterate 4 refine e_sp rfl rfl rfl ?_
  refine e_cb 63 rfl rfl ?_
  iterate 1 refine e_sp rfl rfl rfl ?_
  refine e_iret rfl rfl (Nat.le_refl _) (Nat.le_refl _) ?_
  exact ⟨rfl, rfl⟩
set_option maxHeartbeats 4000000 in
set_option maxRecDepth 40000 in
theorem k_JL_bitCount {l : Launch} {B : List Sh} {S : St} {x : Int64}  : KK l B (0, 0) m_JL_bitCount [aL x] S (ans (some (aI (bcL x))) S) := by
  refine k_start ok_JL_bitCount (Nat.le_of_ble_eq_true rfl) ?_
  iterate 2 refine e_sp rfl rfl rfl ?_
  refine e_ci 1 rfl rfl ?_
  iterate 1 refine e_sp rfl rfl rfl ?_
  refine e_ldc2 rfl cn_JL_314 ?_
  iterate 4 refine e_sp rfl rfl rfl ?_
  refine e_ldc2 rfl cn_JL_316 ?_
  iterate 2 refine e_sp rfl rfl rfl ?_
  refine e_ci 2 rfl rfl ?_
  iterate 1 refine e_sp rfl rfl rfl ?_
  refine e_ldc2 rfl cn_JL_316 ?_
  iterate 5 refine e_sp rfl rfl rfl ?_
  refine e_ci 4 rfl rfl ?_
  iterate 2 refine e_sp rfl rfl rfl ?_
  refine e_ldc2 rfl cn_JL_318 ?_
  iterate 4 refine e_sp rfl rfl rfl ?_
  refine e_cb 8 rfl rfl ?_
  iterate 5 refine e_sp rfl rfl rfl ?_
  refine e_cb 16 rfl rfl ?_
  iterate 5 refine e_sp rfl rfl rfl ?_
  refine e_cb 32 rfl rfl ?_
  iterate 5 refine e_sp rfl rfl rfl ?_
  refine e_cb 127 rfl rfl ?_
  iterate 1 refine e_sp rfl rfl rfl ?_
  refine e_iret rfl rfl (Nat.le_refl _) (Nat.le_refl _) ?_
  exact ⟨rfl, rfl⟩
end
section
/-! bounds -/
theorem wi_lo {y a c : Int32} (h : ¬ wi y a c = 0) : ¬ y < a ∧ ¬ c < y := by
  unfold wi at h
  by_cases h1 : y < a
  · rw [if_pos h1] at h; exact absurd rfl h
  · rw [if_neg h1] at h
    by_cases h2 : c < y
    · rw [if_pos h2] at h; exact absurd rfl h
    · exact ⟨h1, h2⟩
theorem wi_nat {y : Int32} {n : Nat} (hn : n < 2 ^ 31) (h : ¬ wi y 0 (nI n - 1) = 0) : ∃ j : Nat, j < n ∧ y = nI j := by
  obtain ⟨h1, h2⟩ := wi_lo h
  cases n with
  | zero =>
    exfalso
    have h3 : nI 0 - 1 = -1 := by decide
    rw [h3] at h2
    have h4 : y ≤ -1 := Int32.not_lt.mp h2
    have h5 : (0 : Int32) ≤ y := Int32.not_lt.mp h1
    exact absurd (Int32.le_trans h5 h4) (by decide)
  | succ m =>
    rw [nI_pred] at h2
    obtain ⟨j, hj, e⟩ := nI_of2 (nI_toInt (by omega)) h1 (Int32.not_lt.mp h2)
    exact ⟨j, by omega, e⟩
theorem wi_in {y : Int32} {n : Nat} (hn : n < 2 ^ 31) (h : ¬ wi y 0 (nI n - 1) = 0) : vp_in y n := by
  obtain ⟨j, hj, rfl⟩ := wi_nat hn h
  exact vp_in_nI hj hn
theorem plc_nat {i j : Int32} (h : ¬ plc i j = -1) : ∃ a b : Nat, a < 16 ∧ b < 16 ∧ i = nI a ∧ j = nI b ∧ plc i j = nI (16 * b + a) := by
  unfold plc at h ⊢
  by_cases h1 : wi i 0 15 = 0
  · rw [if_pos h1] at h; exact absurd rfl h
  · rw [if_neg h1] at h ⊢
    by_cases h2 : wi j 0 15 = 0
    · rw [if_pos h2] at h; exact absurd rfl h
    · rw [if_neg h2]
      obtain ⟨a, ha, rfl⟩ := wi_nat (n := 16) (by decide) (show ¬ wi i 0 (nI 16 - 1) = 0 from h1)
      obtain ⟨b, hb, rfl⟩ := wi_nat (n := 16) (by decide) (show ¬ wi j 0 (nI 16 - 1) = 0 from h2)
      refine ⟨a, b, ha, hb, rfl, rfl, ?_⟩
      rw [show (16 : Int32) = nI 16 from rfl, pk_mul, nI_add]
theorem plc_in {i j : Int32} (h : ¬ plc i j = -1) : vp_in (plc i j) 256 := by
  obtain ⟨a, b, ha, hb, -, -, e⟩ := plc_nat h
  rw [e]
  exact vp_in_nI (by omega) (by decide)
theorem plc_of {a b : Nat} (ha : a < 16) (hb : b < 16) : plc (nI a) (nI b) = nI (16 * b + a) ∧ ¬ plc (nI a) (nI b) = -1 := by
  have h1 : ∀ c, c < 16 → ¬ wi (nI c) 0 15 = 0 := by decide
  have e : plc (nI a) (nI b) = nI (16 * b + a) := by
    unfold plc
    rw [if_neg (h1 a ha), if_neg (h1 b hb), show (16 : Int32) = nI 16 from rfl, pk_mul, nI_add]
  refine ⟨e, ?_⟩
  rw [e]
  intro h
  have h2 : (nI (16 * b + a)).toInt = (-1 : Int32).toInt := by rw [h]
  rw [nI_toInt (by omega)] at h2
  have h3 : (-1 : Int32).toInt = -1 := by decide
  rw [h3] at h2
  omega
/-! Sheet -/
def lnS (S : St) (q h : Nat) (y : Int32) : Int32 := if wi y 0 (nI h - 1) = 0 then 0 else S.1 q y.toNatClampNeg
def clR (S : St) (q h : Nat) (mk y b : Int32) : Int32 := if wi y 0 (nI h - 1) = 0 then 0 else bcI ((S.1 q y.toNatClampNeg ^^^ b) &&& mk)
def clS (S : St) (q h : Nat) (mk y b : Int32) : St := if wi y 0 (nI h - 1) = 0 then S else puI S q y.toNatClampNeg (b &&& mk)
def dkA (S : St) (q : Nat) : Nat → Int32
  | 0 => 0
  | i + 1 => dkA S q i + bcI (S.1 q i)
set_option maxHeartbeats 4000000 in
set_option maxRecDepth 40000 in
theorem k_S_line_1 {l : Launch} {h : Nat} {S : St} {y : Int32} (hh : h < 2 ^ 31) : KK l (SHm h) (1, 22) m_S_line [aR 1, aI y] S (ans (some (aI (lnS S 2 h y))) S) := by
  refine k_start ok_S_line (Nat.le_of_ble_eq_true rfl) ?_
  iterate 1 refine e_sp rfl rfl rfl ?_
  refine e_ci 0 rfl rfl ?_
  iterate 2 refine e_sp rfl rfl rfl ?_
  refine e_alen rfl (by first | rfl | assumption) (by decide) ?_
  refine e_ci 1 rfl rfl ?_
  iterate 1 refine e_sp rfl rfl rfl ?_
  refine e_callN1 ok_H_isWithin rfl lk_S_19 k_H_isWithin rfl rfl ⟨Nat.le_of_ble_eq_true rfl, Nat.le_of_ble_eq_true rfl⟩ ⟨Nat.zero_le _, Nat.zero_le _⟩ (Nat.le_of_ble_eq_true rfl) ?_
  refine e_ifeq rfl (fun h1 => ?_) (fun h1 => ?_)
  · refine e_ci 0 rfl rfl ?_
    refine e_iret rfl rfl (Nat.le_refl _) (Nat.le_refl _) ?_
    exact ⟨by simp [lnS, h1], rfl⟩
  · iterate 3 refine e_sp rfl rfl rfl ?_
    refine e_iald rfl (by first | rfl | assumption) (by exact wi_in hh (by assumption)) ?_
    refine e_goto rfl ?_
    refine e_iret rfl rfl (Nat.le_refl _) (Nat.le_refl _) ?_
    exact ⟨by simp [lnS, h1], rfl⟩
set_option maxHeartbeats 4000000 in
set_option maxRecDepth 40000 in
theorem k_S_changeLine_1 {l : Launch} {h : Nat} {S : St} {y b : Int32} (hh : h < 2 ^ 31) : KK l (SHm h) (1, 22) m_S_changeLine [aR 1, aI y, aI b] S (ans (some (aI (clR S 2 h (S.1 1 1) y b))) (clS S 2 h (S.1 1 1) y b)) := by
  refine k_start ok_S_changeLine (Nat.le_of_ble_eq_true rfl) ?_
  iterate 1 refine e_sp rfl rfl rfl ?_
  refine e_ci 0 rfl rfl ?_
  iterate 2 refine e_sp rfl rfl rfl ?_
  refine e_alen rfl (by first | rfl | assumption) (by decide) ?_
  refine e_ci 1 rfl rfl ?_
  iterate 1 refine e_sp rfl rfl rfl ?_
  refine e_callN1 ok_H_isWithin rfl lk_S_19 k_H_isWithin rfl rfl ⟨Nat.le_of_ble_eq_true rfl, Nat.le_of_ble_eq_true rfl⟩ ⟨Nat.zero_le _, Nat.zero_le _⟩ (Nat.le_of_ble_eq_true rfl) ?_
  refine e_ifne rfl (fun h1 => ?_) (fun h1 => ?_)
  · iterate 3 refine e_sp rfl rfl rfl ?_
    refine e_iald rfl (by first | rfl | assumption) (by exact wi_in hh (by assumption)) ?_
    iterate 5 refine e_sp rfl rfl rfl ?_
    refine e_callS1 ok_JI_bitCount rfl lk_S_23 k_JI_bitCount rfl rfl ⟨Nat.le_of_ble_eq_true rfl, Nat.le_of_ble_eq_true rfl⟩ ⟨Nat.zero_le _, Nat.zero_le _⟩ (Nat.le_of_ble_eq_true rfl) ?_
    iterate 8 refine e_sp rfl rfl rfl ?_
    refine e_iast rfl (by first | rfl | assumption) (by exact wi_in hh (by assumption)) ?_
    iterate 1 refine e_sp rfl rfl rfl ?_
    refine e_iret rfl rfl (Nat.le_refl _) (Nat.le_refl _) ?_
    exact ⟨by simp [clR, h1], by simp [clS, h1]⟩
  · refine e_ci 0 rfl rfl ?_
    refine e_iret rfl rfl (Nat.le_refl _) (Nat.le_refl _) ?_
    exact ⟨by simp [clR, h1], by simp [clS, h1]⟩
set_option maxHeartbeats 4000000 in
set_option maxRecDepth 40000 in
theorem k_S_fill_1 {l : Launch} {h : Nat} {S : St} {v : Int32} (hh : h < 2 ^ 31) : KK l (SHm h) (1, 23) m_S_fill [aR 1, aI v] S (ans none (flI S 2 (if v = 0 then 0 else S.1 1 1) h)) := by
  refine k_start ok_S_fill (Nat.le_of_ble_eq_true rfl) ?_
  iterate 3 refine e_sp rfl rfl rfl ?_
  refine e_ifeq rfl (fun h1 => ?_) (fun h1 => ?_)
  · refine e_ci 0 rfl rfl ?_
    refine e_callS0 ok_JA_fill1 rfl lk_S_29 (k_JA_fill1 (by rfl) hh) rfl rfl ⟨Nat.le_of_ble_eq_true rfl, Nat.le_of_ble_eq_true rfl⟩ ⟨Nat.zero_le _, Nat.zero_le _⟩ (Nat.le_of_ble_eq_true rfl) ?_
    refine e_vret rfl rfl (Nat.le_refl _) (Nat.le_refl _) ?_
    exact ⟨rfl, by simp [h1]⟩
  · iterate 2 refine e_sp rfl rfl rfl ?_
    refine e_goto rfl ?_
    refine e_callS0 ok_JA_fill1 rfl lk_S_29 (k_JA_fill1 (by rfl) hh) rfl rfl ⟨Nat.le_of_ble_eq_true rfl, Nat.le_of_ble_eq_true rfl⟩ ⟨Nat.zero_le _, Nat.zero_le _⟩ (Nat.le_of_ble_eq_true rfl) ?_
    refine e_vret rfl rfl (Nat.le_refl _) (Nat.le_refl _) ?_
    exact ⟨rfl, by simp [h1]⟩
set_option maxHeartbeats 4000000 in
set_option maxRecDepth 40000 in
theorem k_S_darkSamples_1 {l : Launch} {h : Nat} {S : St} (hh : h < 2 ^ 31) : KK l (SHm h) (1, 20) m_S_darkSamples [aR 1] S (ans (some (aI (dkA S 2 h))) S) := by
  refine k_start ok_S_darkSamples (Nat.le_of_ble_eq_true rfl) ?_
  have L := e_for (P := fun i => E0 l (SHm h) (1, 20) m_S_darkSamples 4 [some (aR 1), some (aI (dkA S 2 i)), some (aI (nI i))] [] (S) (ans (some (aI (dkA S 2 h))) S)) h (by
      iterate 3 refine e_sp rfl rfl rfl ?_
      refine e_alen rfl (by first | rfl | assumption) (by decide) ?_
      refine e_icge rfl (fun h1 => ?_) (fun h1 => ?_)
      · iterate 1 refine e_sp rfl rfl rfl ?_
        refine e_iret rfl rfl (Nat.le_refl _) (Nat.le_refl _) ?_
        exact ⟨rfl, rfl⟩
      · exact absurd (nI_le (Nat.le_refl _) hh) h1) (fun i hi ihi => by
      iterate 3 refine e_sp rfl rfl rfl ?_
      refine e_alen rfl (by first | rfl | assumption) (by decide) ?_
      refine e_icge rfl (fun h1 => ?_) (fun h1 => ?_)
      · exact absurd h1 (nI_ge hi hh)
      · iterate 4 refine e_sp rfl rfl rfl ?_
        refine e_iald rfl (by first | rfl | assumption) (by exact vp_in_nI hi hh) ?_
        refine e_callS1 ok_JI_bitCount rfl lk_S_23 k_JI_bitCount rfl rfl ⟨Nat.le_of_ble_eq_true rfl, Nat.le_of_ble_eq_true rfl⟩ ⟨Nat.zero_le _, Nat.zero_le _⟩ (Nat.le_of_ble_eq_true rfl) ?_
        iterate 2 refine e_sp rfl rfl rfl ?_
        refine e_inc 1 rfl rfl rfl rfl ?_
        refine e_goto rfl ?_
        rw [nI_clamp (Nat.lt_trans hi hh), nI_1]
        exact ihi)
  refine e_ci 0 rfl rfl ?_
  iterate 1 refine e_sp rfl rfl rfl ?_
  refine e_ci 0 rfl rfl ?_
  iterate 1 refine e_sp rfl rfl rfl ?_
  exact L
set_option maxHeartbeats 4000000 in
set_option maxRecDepth 40000 in
theorem k_S_line_3 {l : Launch} {h : Nat} {S : St} {y : Int32} (hh : h < 2 ^ 31) : KK l (SHm h) (1, 22) m_S_line [aR 3, aI y] S (ans (some (aI (lnS S 4 h y))) S) := by
  refine k_start ok_S_line (Nat.le_of_ble_eq_true rfl) ?_
  iterate 1 refine e_sp rfl rfl rfl ?_
  refine e_ci 0 rfl rfl ?_
  iterate 2 refine e_sp rfl rfl rfl ?_
  refine e_alen rfl (by first | rfl | assumption) (by decide) ?_
  refine e_ci 1 rfl rfl ?_
  iterate 1 refine e_sp rfl rfl rfl ?_
  refine e_callN1 ok_H_isWithin rfl lk_S_19 k_H_isWithin rfl rfl ⟨Nat.le_of_ble_eq_true rfl, Nat.le_of_ble_eq_true rfl⟩ ⟨Nat.zero_le _, Nat.zero_le _⟩ (Nat.le_of_ble_eq_true rfl) ?_
  refine e_ifeq rfl (fun h1 => ?_) (fun h1 => ?_)
  · refine e_ci 0 rfl rfl ?_
    refine e_iret rfl rfl (Nat.le_refl _) (Nat.le_refl _) ?_
    exact ⟨by simp [lnS, h1], rfl⟩
  · iterate 3 refine e_sp rfl rfl rfl ?_
    refine e_iald rfl (by first | rfl | assumption) (by exact wi_in hh (by assumption)) ?_
    refine e_goto rfl ?_
    refine e_iret rfl rfl (Nat.le_refl _) (Nat.le_refl _) ?_
    exact ⟨by simp [lnS, h1], rfl⟩
set_option maxHeartbeats 4000000 in
set_option maxRecDepth 40000 in
theorem k_S_changeLine_3 {l : Launch} {h : Nat} {S : St} {y b : Int32} (hh : h < 2 ^ 31) : KK l (SHm h) (1, 22) m_S_changeLine [aR 3, aI y, aI b] S (ans (some (aI (clR S 4 h (S.1 3 1) y b))) (clS S 4 h (S.1 3 1) y b)) := by
  refine k_start ok_S_changeLine (Nat.le_of_ble_eq_true rfl) ?_
  iterate 1 refine e_sp rfl rfl rfl ?_
  refine e_ci 0 rfl rfl ?_
  iterate 2 refine e_sp rfl rfl rfl ?_
  refine e_alen rfl (by first | rfl | assumption) (by decide) ?_
  refine e_ci 1 rfl rfl ?_
  iterate 1 refine e_sp rfl rfl rfl ?_
  refine e_callN1 ok_H_isWithin rfl lk_S_19 k_H_isWithin rfl rfl ⟨Nat.le_of_ble_eq_true rfl, Nat.le_of_ble_eq_true rfl⟩ ⟨Nat.zero_le _, Nat.zero_le _⟩ (Nat.le_of_ble_eq_true rfl) ?_
  refine e_ifne rfl (fun h1 => ?_) (fun h1 => ?_)
  · iterate 3 refine e_sp rfl rfl rfl ?_
    refine e_iald rfl (by first | rfl | assumption) (by exact wi_in hh (by assumption)) ?_
    iterate 5 refine e_sp rfl rfl rfl ?_
    refine e_callS1 ok_JI_bitCount rfl lk_S_23 k_JI_bitCount rfl rfl ⟨Nat.le_of_ble_eq_true rfl, Nat.le_of_ble_eq_true rfl⟩ ⟨Nat.zero_le _, Nat.zero_le _⟩ (Nat.le_of_ble_eq_true rfl) ?_
    iterate 8 refine e_sp rfl rfl rfl ?_
    refine e_iast rfl (by first | rfl | assumption) (by exact wi_in hh (by assumption)) ?_
    iterate 1 refine e_sp rfl rfl rfl ?_
    refine e_iret rfl rfl (Nat.le_refl _) (Nat.le_refl _) ?_
    exact ⟨by simp [clR, h1], by simp [clS, h1]⟩
  · refine e_ci 0 rfl rfl ?_
    refine e_iret rfl rfl (Nat.le_refl _) (Nat.le_refl _) ?_
    exact ⟨by simp [clR, h1], by simp [clS, h1]⟩
set_option maxHeartbeats 4000000 in
set_option maxRecDepth 40000 in
theorem k_S_fill_3 {l : Launch} {h : Nat} {S : St} {v : Int32} (hh : h < 2 ^ 31) : KK l (SHm h) (1, 23) m_S_fill [aR 3, aI v] S (ans none (flI S 4 (if v = 0 then 0 else S.1 3 1) h)) := by
  refine k_start ok_S_fill (Nat.le_of_ble_eq_true rfl) ?_
  iterate 3 refine e_sp rfl rfl rfl ?_
  refine e_ifeq rfl (fun h1 => ?_) (fun h1 => ?_)
  · refine e_ci 0 rfl rfl ?_
    refine e_callS0 ok_JA_fill1 rfl lk_S_29 (k_JA_fill1 (by rfl) hh) rfl rfl ⟨Nat.le_of_ble_eq_true rfl, Nat.le_of_ble_eq_true rfl⟩ ⟨Nat.zero_le _, Nat.zero_le _⟩ (Nat.le_of_ble_eq_true rfl) ?_
    refine e_vret rfl rfl (Nat.le_refl _) (Nat.le_refl _) ?_
    exact ⟨rfl, by simp [h1]⟩
  · iterate 2 refine e_sp rfl rfl rfl ?_
    refine e_goto rfl ?_
    refine e_callS0 ok_JA_fill1 rfl lk_S_29 (k_JA_fill1 (by rfl) hh) rfl rfl ⟨Nat.le_of_ble_eq_true rfl, Nat.le_of_ble_eq_true rfl⟩ ⟨Nat.zero_le _, Nat.zero_le _⟩ (Nat.le_of_ble_eq_true rfl) ?_
    refine e_vret rfl rfl (Nat.le_refl _) (Nat.le_refl _) ?_
    exact ⟨rfl, by simp [h1]⟩
set_option maxHeartbeats 4000000 in
set_option maxRecDepth 40000 in
theorem k_S_darkSamples_3 {l : Launch} {h : Nat} {S : St} (hh : h < 2 ^ 31) : KK l (SHm h) (1, 20) m_S_darkSamples [aR 3] S (ans (some (aI (dkA S 4 h))) S) := by
  refine k_start ok_S_darkSamples (Nat.le_of_ble_eq_true rfl) ?_
  have L := e_for (P := fun i => E0 l (SHm h) (1, 20) m_S_darkSamples 4 [some (aR 3), some (aI (dkA S 4 i)), some (aI (nI i))] [] (S) (ans (some (aI (dkA S 4 h))) S)) h (by
      iterate 3 refine e_sp rfl rfl rfl ?_
      refine e_alen rfl (by first | rfl | assumption) (by decide) ?_
      refine e_icge rfl (fun h1 => ?_) (fun h1 => ?_)
      · iterate 1 refine e_sp rfl rfl rfl ?_
        refine e_iret rfl rfl (Nat.le_refl _) (Nat.le_refl _) ?_
        exact ⟨rfl, rfl⟩
      · exact absurd (nI_le (Nat.le_refl _) hh) h1) (fun i hi ihi => by
      iterate 3 refine e_sp rfl rfl rfl ?_
      refine e_alen rfl (by first | rfl | assumption) (by decide) ?_
      refine e_icge rfl (fun h1 => ?_) (fun h1 => ?_)
      · exact absurd h1 (nI_ge hi hh)
      · iterate 4 refine e_sp rfl rfl rfl ?_
        refine e_iald rfl (by first | rfl | assumption) (by exact vp_in_nI hi hh) ?_
        refine e_callS1 ok_JI_bitCount rfl lk_S_23 k_JI_bitCount rfl rfl ⟨Nat.le_of_ble_eq_true rfl, Nat.le_of_ble_eq_true rfl⟩ ⟨Nat.zero_le _, Nat.zero_le _⟩ (Nat.le_of_ble_eq_true rfl) ?_
        iterate 2 refine e_sp rfl rfl rfl ?_
        refine e_inc 1 rfl rfl rfl rfl ?_
        refine e_goto rfl ?_
        rw [nI_clamp (Nat.lt_trans hi hh), nI_1]
        exact ihi)
  refine e_ci 0 rfl rfl ?_
  iterate 1 refine e_sp rfl rfl rfl ?_
  refine e_ci 0 rfl rfl ?_
  iterate 1 refine e_sp rfl rfl rfl ?_
  exact L
/-! Lattice -/
def haL (S : St) (i j : Int32) : Int32 := if wi i 0 (S.1 7 1 - 1) = 0 then 0 else if wi j 0 (S.1 7 2 - 1) = 0 then 0 else 1
def lfL (S : St) (i j : Int32) : Int32 := (S.1 7 3 + j * S.1 7 6 + i * S.1 7 5) >>> (8 &&& 31)
def tpL (S : St) (i j : Int32) : Int32 := (S.1 7 4 + j * S.1 7 5 - i * S.1 7 6) >>> (8 &&& 31)
def grL (S : St) (i j : Int32) : Int32 := if plc i j = -1 then 0 else S.1 8 (plc i j).toNatClampNeg
def cgR (S : St) (i j g : Int32) : Int32 := if plc i j = -1 then 0 else if S.1 8 (plc i j).toNatClampNeg = g then 0 else 1
def cgS (S : St) (i j g : Int32) : St := if plc i j = -1 then S else puI S 8 (plc i j).toNatClampNeg g
set_option maxHeartbeats 4000000 in
set_option maxRecDepth 40000 in
theorem k_L_has {l : Launch} {h : Nat} {S : St} {i j : Int32}  : KK l (SHm h) (1, 22) m_L_has [aR 7, aI i, aI j] S (ans (some (aI (haL S i j))) S) := by
  refine k_start ok_L_has (Nat.le_of_ble_eq_true rfl) ?_
  iterate 1 refine e_sp rfl rfl rfl ?_
  refine e_ci 0 rfl rfl ?_
  iterate 2 refine e_sp rfl rfl rfl ?_
  refine e_ci 1 rfl rfl ?_
  iterate 1 refine e_sp rfl rfl rfl ?_
  refine e_callN1 ok_H_isWithin rfl lk_L_43 k_H_isWithin rfl rfl ⟨Nat.le_of_ble_eq_true rfl, Nat.le_of_ble_eq_true rfl⟩ ⟨Nat.zero_le _, Nat.zero_le _⟩ (Nat.le_of_ble_eq_true rfl) ?_
  refine e_ifeq rfl (fun h1 => ?_) (fun h1 => ?_)
  · refine e_ci 0 rfl rfl ?_
    refine e_zret rfl rfl (Nat.le_refl _) (Nat.le_refl _) (by decide) ?_
    exact ⟨by simp [haL, h1], rfl⟩
  · iterate 1 refine e_sp rfl rfl rfl ?_
    refine e_ci 0 rfl rfl ?_
    iterate 2 refine e_sp rfl rfl rfl ?_
    refine e_ci 1 rfl rfl ?_
    iterate 1 refine e_sp rfl rfl rfl ?_
    refine e_callN1 ok_H_isWithin rfl lk_L_43 k_H_isWithin rfl rfl ⟨Nat.le_of_ble_eq_true rfl, Nat.le_of_ble_eq_true rfl⟩ ⟨Nat.zero_le _, Nat.zero_le _⟩ (Nat.le_of_ble_eq_true rfl) ?_
    refine e_ifeq rfl (fun h2 => ?_) (fun h2 => ?_)
    · refine e_ci 0 rfl rfl ?_
      refine e_zret rfl rfl (Nat.le_refl _) (Nat.le_refl _) (by decide) ?_
      exact ⟨by simp [haL, h1, h2], rfl⟩
    · refine e_ci 1 rfl rfl ?_
      refine e_goto rfl ?_
      refine e_zret rfl rfl (Nat.le_refl _) (Nat.le_refl _) (by decide) ?_
      exact ⟨by simp [haL, h1, h2], rfl⟩
set_option maxHeartbeats 4000000 in
set_option maxRecDepth 40000 in
theorem k_L_leftOf {l : Launch} {h : Nat} {S : St} {i j : Int32}  : KK l (SHm h) (0, 0) m_L_leftOf [aR 7, aI i, aI j] S (ans (some (aI (lfL S i j))) S) := by
  refine k_start ok_L_leftOf (Nat.le_of_ble_eq_true rfl) ?_
  iterate 12 refine e_sp rfl rfl rfl ?_
  refine e_cb 8 rfl rfl ?_
  iterate 1 refine e_sp rfl rfl rfl ?_
  refine e_iret rfl rfl (Nat.le_refl _) (Nat.le_refl _) ?_
  exact ⟨rfl, rfl⟩
set_option maxHeartbeats 4000000 in
set_option maxRecDepth 40000 in
theorem k_L_topOf {l : Launch} {h : Nat} {S : St} {i j : Int32}  : KK l (SHm h) (0, 0) m_L_topOf [aR 7, aI i, aI j] S (ans (some (aI (tpL S i j))) S) := by
  refine k_start ok_L_topOf (Nat.le_of_ble_eq_true rfl) ?_
  iterate 12 refine e_sp rfl rfl rfl ?_
  refine e_cb 8 rfl rfl ?_
  iterate 1 refine e_sp rfl rfl rfl ?_
  refine e_iret rfl rfl (Nat.le_refl _) (Nat.le_refl _) ?_
  exact ⟨rfl, rfl⟩
set_option maxHeartbeats 4000000 in
set_option maxRecDepth 40000 in
theorem k_L_greyOf {l : Launch} {h : Nat} {S : St} {i j : Int32}  : KK l (SHm h) (2, 44) m_L_greyOf [aR 7, aI i, aI j] S (ans (some (aI (grL S i j))) S) := by
  refine k_start ok_L_greyOf (Nat.le_of_ble_eq_true rfl) ?_
  iterate 2 refine e_sp rfl rfl rfl ?_
  refine e_callN1 ok_H_placeOf rfl lk_L_47 k_H_placeOf rfl rfl ⟨Nat.le_of_ble_eq_true rfl, Nat.le_of_ble_eq_true rfl⟩ ⟨Nat.zero_le _, Nat.zero_le _⟩ (Nat.le_of_ble_eq_true rfl) ?_
  iterate 2 refine e_sp rfl rfl rfl ?_
  refine e_ci (-1) rfl rfl ?_
  refine e_icne rfl (fun h1 => ?_) (fun h1 => ?_)
  · iterate 3 refine e_sp rfl rfl rfl ?_
    refine e_iald rfl (by first | rfl | assumption) (by exact plc_in (by assumption)) ?_
    refine e_iret rfl rfl (Nat.le_refl _) (Nat.le_refl _) ?_
    exact ⟨by simp [grL, h1], rfl⟩
  · refine e_ci 0 rfl rfl ?_
    refine e_goto rfl ?_
    refine e_iret rfl rfl (Nat.le_refl _) (Nat.le_refl _) ?_
    exact ⟨by simp [grL, h1], rfl⟩
set_option maxHeartbeats 4000000 in
set_option maxRecDepth 40000 in
theorem k_L_changeGrey {l : Launch} {h : Nat} {S : St} {i j g : Int32}  : KK l (SHm h) (2, 44) m_L_changeGrey [aR 7, aI i, aI j, aI g] S (ans (some (aI (cgR S i j g))) (cgS S i j g)) := by
  refine k_start ok_L_changeGrey (Nat.le_of_ble_eq_true rfl) ?_
  iterate 2 refine e_sp rfl rfl rfl ?_
  refine e_callN1 ok_H_placeOf rfl lk_L_47 k_H_placeOf rfl rfl ⟨Nat.le_of_ble_eq_true rfl, Nat.le_of_ble_eq_true rfl⟩ ⟨Nat.zero_le _, Nat.zero_le _⟩ (Nat.le_of_ble_eq_true rfl) ?_
  iterate 2 refine e_sp rfl rfl rfl ?_
  refine e_ci (-1) rfl rfl ?_
  refine e_icne rfl (fun h1 => ?_) (fun h1 => ?_)
  · iterate 3 refine e_sp rfl rfl rfl ?_
    refine e_iald rfl (by first | rfl | assumption) (by exact plc_in (by assumption)) ?_
    iterate 1 refine e_sp rfl rfl rfl ?_
    refine e_iceq rfl (fun h2 => ?_) (fun h2 => ?_)
    · refine e_ci 0 rfl rfl ?_
      iterate 5 refine e_sp rfl rfl rfl ?_
      refine e_iast rfl (by first | rfl | assumption) (by exact plc_in (by assumption)) ?_
      iterate 1 refine e_sp rfl rfl rfl ?_
      refine e_zret rfl rfl (Nat.le_refl _) (Nat.le_refl _) (by decide) ?_
      exact ⟨by simp [cgR, h1, h2], by simp [cgS, h1, h2]⟩
    · refine e_ci 1 rfl rfl ?_
      refine e_goto rfl ?_
      iterate 5 refine e_sp rfl rfl rfl ?_
      refine e_iast rfl (by first | rfl | assumption) (by exact plc_in (by assumption)) ?_
      iterate 1 refine e_sp rfl rfl rfl ?_
      refine e_zret rfl rfl (Nat.le_refl _) (Nat.le_refl _) (by decide) ?_
      exact ⟨by simp [cgR, h1, h2], by simp [cgS, h1, h2]⟩
  · refine e_ci 0 rfl rfl ?_
    refine e_zret rfl rfl (Nat.le_refl _) (Nat.le_refl _) (by decide) ?_
    exact ⟨by simp [cgR, h1], by simp [cgS, h1]⟩
set_option maxHeartbeats 4000000 in
set_option maxRecDepth 40000 in
theorem k_L_turnTo {l : Launch} {h : Nat} {S : St} {a b c e : Int32}  : KK l (SHm h) (0, 0) m_L_turnTo [aR 7, aI a, aI b, aI c, aI e] S (ans none (puI (puI (puI (puI S 7 3 a) 7 4 b) 7 5 c) 7 6 e)) := by
  refine k_start ok_L_turnTo (Nat.le_of_ble_eq_true rfl) ?_
  iterate 12 refine e_sp rfl rfl rfl ?_
  refine e_vret rfl rfl (Nat.le_refl _) (Nat.le_refl _) ?_
  exact ⟨rfl, rfl⟩
set_option maxHeartbeats 4000000 in
set_option maxRecDepth 40000 in
theorem k_L_forgetGreys {l : Launch} {h : Nat} {S : St}  : KK l (SHm h) (1, 23) m_L_forgetGreys [aR 7] S (ans none (flI S 8 0 256)) := by
  refine k_start ok_L_forgetGreys (Nat.le_of_ble_eq_true rfl) ?_
  iterate 2 refine e_sp rfl rfl rfl ?_
  refine e_ci 0 rfl rfl ?_
  refine e_callS0 ok_JA_fill1 rfl lk_L_37 (k_JA_fill1 (by rfl) (by decide)) rfl rfl ⟨Nat.le_of_ble_eq_true rfl, Nat.le_of_ble_eq_true rfl⟩ ⟨Nat.zero_le _, Nat.zero_le _⟩ (Nat.le_of_ble_eq_true rfl) ?_
  refine e_vret rfl rfl (Nat.le_refl _) (Nat.le_refl _) ?_
  exact ⟨rfl, rfl⟩
set_option maxHeartbeats 4000000 in
set_option maxRecDepth 40000 in
theorem k_L_begin {l : Launch} {h : Nat} {S : St} {a b : Int32}  : KK l (SHm h) (2, 43) m_L_begin [aR 7, aI a, aI b] S (ans none (flI (puI (puI S 7 1 a) 7 2 b) 8 0 256)) := by
  refine k_start ok_L_begin (Nat.le_of_ble_eq_true rfl) ?_
  iterate 7 refine e_sp rfl rfl rfl ?_
  refine e_callV0 ok_L_forgetGreys rfl lk_L_25 (by rfl) (by rfl) k_L_forgetGreys rfl rfl ⟨Nat.le_of_ble_eq_true rfl, Nat.le_of_ble_eq_true rfl⟩ ⟨Nat.zero_le _, Nat.zero_le _⟩ (Nat.le_of_ble_eq_true rfl) ?_
  refine e_vret rfl rfl (Nat.le_refl _) (Nat.le_refl _) ?_
  exact ⟨rfl, rfl⟩
/-! Codes -/
def btC (S : St) (i j p : Int32) : Int32 := if plc i j = -1 then 0 else S.1 10 (plc i j).toNatClampNeg >>> (p &&& 31) &&& 1
def sgC (S : St) (i j g : Int32) : St := if plc i j = -1 then S else puI S 10 (plc i j).toNatClampNeg (g ^^^ g >>> (1 &&& 31))
def abC (S : St) (i j p b : Int32) : St := if plc i j = -1 then S else puI S 10 (plc i j).toNatClampNeg (S.1 10 (plc i j).toNatClampNeg ||| b <<< (p &&& 31))
def ctC (S : St) (i j p : Int32) : Int32 := (btC S (i - 1) j p <<< (5 &&& 31) ||| btC S (i - 2) j p <<< (4 &&& 31)) ||| (btC S (i - 1) (j - 1) p <<< (3 &&& 31) ||| btC S i (j - 1) p <<< (2 &&& 31) ||| btC S (i + 1) (j - 1) p <<< (1 &&& 31)) ||| btC S i j (p + 1)
def gcC (x : Int32) : Int32 :=
  let g := x ^^^ x >>> (1 &&& 31)
  let k := g ^^^ g >>> (2 &&& 31)
  k ^^^ k >>> (4 &&& 31)
def grC (S : St) (i j : Int32) : Int32 := if plc i j = -1 then 0 else gcC (S.1 10 (plc i j).toNatClampNeg)
def ggC (S : St) : Nat → Int32
  | 0 => 0
  | i + 1 => if ggC S i < gcC (S.1 10 i) then gcC (S.1 10 i) else ggC S i
set_option maxHeartbeats 4000000 in
set_option maxRecDepth 40000 in
theorem k_C_begin {l : Launch} {h : Nat} {S : St}  : KK l (SHm h) (1, 23) m_C_begin [aR 9] S (ans none (flI S 10 0 256)) := by
  refine k_start ok_C_begin (Nat.le_of_ble_eq_true rfl) ?_
  iterate 2 refine e_sp rfl rfl rfl ?_
  refine e_ci 0 rfl rfl ?_
  refine e_callS0 ok_JA_fill1 rfl lk_C_15 (k_JA_fill1 (by rfl) (by decide)) rfl rfl ⟨Nat.le_of_ble_eq_true rfl, Nat.le_of_ble_eq_true rfl⟩ ⟨Nat.zero_le _, Nat.zero_le _⟩ (Nat.le_of_ble_eq_true rfl) ?_
  refine e_vret rfl rfl (Nat.le_refl _) (Nat.le_refl _) ?_
  exact ⟨rfl, rfl⟩
set_option maxHeartbeats 4000000 in
set_option maxRecDepth 40000 in
theorem k_C_setGrey {l : Launch} {h : Nat} {S : St} {i j g : Int32}  : KK l (SHm h) (2, 44) m_C_setGrey [aR 9, aI i, aI j, aI g] S (ans none (sgC S i j g)) := by
  refine k_start ok_C_setGrey (Nat.le_of_ble_eq_true rfl) ?_
  iterate 2 refine e_sp rfl rfl rfl ?_
  refine e_callN1 ok_H_placeOf rfl lk_C_21 k_H_placeOf rfl rfl ⟨Nat.le_of_ble_eq_true rfl, Nat.le_of_ble_eq_true rfl⟩ ⟨Nat.zero_le _, Nat.zero_le _⟩ (Nat.le_of_ble_eq_true rfl) ?_
  iterate 2 refine e_sp rfl rfl rfl ?_
  refine e_ci (-1) rfl rfl ?_
  refine e_iceq rfl (fun h1 => ?_) (fun h1 => ?_)
  · refine e_vret rfl rfl (Nat.le_refl _) (Nat.le_refl _) ?_
    exact ⟨rfl, by simp [sgC, h1]⟩
  · iterate 5 refine e_sp rfl rfl rfl ?_
    refine e_ci 1 rfl rfl ?_
    iterate 2 refine e_sp rfl rfl rfl ?_
    refine e_iast rfl (by first | rfl | assumption) (by exact plc_in (by assumption)) ?_
    refine e_vret rfl rfl (Nat.le_refl _) (Nat.le_refl _) ?_
    exact ⟨rfl, by simp [sgC, h1]⟩
set_option maxHeartbeats 4000000 in
set_option maxRecDepth 40000 in
theorem k_C_addBit {l : Launch} {h : Nat} {S : St} {i j p b : Int32}  : KK l (SHm h) (2, 44) m_C_addBit [aR 9, aI i, aI j, aI p, aI b] S (ans none (abC S i j p b)) := by
  refine k_start ok_C_addBit (Nat.le_of_ble_eq_true rfl) ?_
  iterate 2 refine e_sp rfl rfl rfl ?_
  refine e_callN1 ok_H_placeOf rfl lk_C_21 k_H_placeOf rfl rfl ⟨Nat.le_of_ble_eq_true rfl, Nat.le_of_ble_eq_true rfl⟩ ⟨Nat.zero_le _, Nat.zero_le _⟩ (Nat.le_of_ble_eq_true rfl) ?_
  iterate 2 refine e_sp rfl rfl rfl ?_
  refine e_ci (-1) rfl rfl ?_
  refine e_iceq rfl (fun h1 => ?_) (fun h1 => ?_)
  · refine e_vret rfl rfl (Nat.le_refl _) (Nat.le_refl _) ?_
    exact ⟨rfl, by simp [abC, h1]⟩
  · iterate 4 refine e_sp rfl rfl rfl ?_
    refine e_iald rfl (by first | rfl | assumption) (by exact plc_in (by assumption)) ?_
    iterate 4 refine e_sp rfl rfl rfl ?_
    refine e_iast rfl (by first | rfl | assumption) (by exact plc_in (by assumption)) ?_
    refine e_vret rfl rfl (Nat.le_refl _) (Nat.le_refl _) ?_
    exact ⟨rfl, by simp [abC, h1]⟩
set_option maxHeartbeats 4000000 in
set_option maxRecDepth 40000 in
theorem k_C_bitOf {l : Launch} {h : Nat} {S : St} {i j p : Int32}  : KK l (SHm h) (2, 44) m_C_bitOf [aR 9, aI i, aI j, aI p] S (ans (some (aI (btC S i j p))) S) := by
  refine k_start ok_C_bitOf (Nat.le_of_ble_eq_true rfl) ?_
  iterate 2 refine e_sp rfl rfl rfl ?_
  refine e_callN1 ok_H_placeOf rfl lk_C_21 k_H_placeOf rfl rfl ⟨Nat.le_of_ble_eq_true rfl, Nat.le_of_ble_eq_true rfl⟩ ⟨Nat.zero_le _, Nat.zero_le _⟩ (Nat.le_of_ble_eq_true rfl) ?_
  iterate 2 refine e_sp rfl rfl rfl ?_
  refine e_ci (-1) rfl rfl ?_
  refine e_icne rfl (fun h1 => ?_) (fun h1 => ?_)
  · iterate 3 refine e_sp rfl rfl rfl ?_
    refine e_iald rfl (by first | rfl | assumption) (by exact plc_in (by assumption)) ?_
    iterate 2 refine e_sp rfl rfl rfl ?_
    refine e_ci 1 rfl rfl ?_
    iterate 1 refine e_sp rfl rfl rfl ?_
    refine e_iret rfl rfl (Nat.le_refl _) (Nat.le_refl _) ?_
    exact ⟨by simp [btC, h1], rfl⟩
  · refine e_ci 0 rfl rfl ?_
    refine e_goto rfl ?_
    refine e_iret rfl rfl (Nat.le_refl _) (Nat.le_refl _) ?_
    exact ⟨by simp [btC, h1], rfl⟩
set_option maxHeartbeats 4000000 in
set_option maxRecDepth 40000 in
theorem k_C_contextOf {l : Launch} {h : Nat} {S : St} {i j p : Int32}  : KK l (SHm h) (3, 68) m_C_contextOf [aR 9, aI i, aI j, aI p] S (ans (some (aI (ctC S i j p))) S) := by
  refine k_start ok_C_contextOf (Nat.le_of_ble_eq_true rfl) ?_
  iterate 2 refine e_sp rfl rfl rfl ?_
  refine e_ci 1 rfl rfl ?_
  iterate 3 refine e_sp rfl rfl rfl ?_
  refine e_callV1 ok_C_bitOf rfl lk_C_25 (by rfl) (by rfl) k_C_bitOf rfl rfl ⟨Nat.le_of_ble_eq_true rfl, Nat.le_of_ble_eq_true rfl⟩ ⟨Nat.zero_le _, Nat.zero_le _⟩ (Nat.le_of_ble_eq_true rfl) ?_
  refine e_ci 5 rfl rfl ?_
  iterate 3 refine e_sp rfl rfl rfl ?_
  refine e_ci 2 rfl rfl ?_
  iterate 3 refine e_sp rfl rfl rfl ?_
  refine e_callV1 ok_C_bitOf rfl lk_C_25 (by rfl) (by rfl) k_C_bitOf rfl rfl ⟨Nat.le_of_ble_eq_true rfl, Nat.le_of_ble_eq_true rfl⟩ ⟨Nat.zero_le _, Nat.zero_le _⟩ (Nat.le_of_ble_eq_true rfl) ?_
  refine e_ci 4 rfl rfl ?_
  iterate 5 refine e_sp rfl rfl rfl ?_
  refine e_ci 1 rfl rfl ?_
  iterate 2 refine e_sp rfl rfl rfl ?_
  refine e_ci 1 rfl rfl ?_
  iterate 2 refine e_sp rfl rfl rfl ?_
  refine e_callV1 ok_C_bitOf rfl lk_C_25 (by rfl) (by rfl) k_C_bitOf rfl rfl ⟨Nat.le_of_ble_eq_true rfl, Nat.le_of_ble_eq_true rfl⟩ ⟨Nat.zero_le _, Nat.zero_le _⟩ (Nat.le_of_ble_eq_true rfl) ?_
  refine e_ci 3 rfl rfl ?_
  iterate 4 refine e_sp rfl rfl rfl ?_
  refine e_ci 1 rfl rfl ?_
  iterate 2 refine e_sp rfl rfl rfl ?_
  refine e_callV1 ok_C_bitOf rfl lk_C_25 (by rfl) (by rfl) k_C_bitOf rfl rfl ⟨Nat.le_of_ble_eq_true rfl, Nat.le_of_ble_eq_true rfl⟩ ⟨Nat.zero_le _, Nat.zero_le _⟩ (Nat.le_of_ble_eq_true rfl) ?_
  refine e_ci 2 rfl rfl ?_
  iterate 4 refine e_sp rfl rfl rfl ?_
  refine e_ci 1 rfl rfl ?_
  iterate 2 refine e_sp rfl rfl rfl ?_
  refine e_ci 1 rfl rfl ?_
  iterate 2 refine e_sp rfl rfl rfl ?_
  refine e_callV1 ok_C_bitOf rfl lk_C_25 (by rfl) (by rfl) k_C_bitOf rfl rfl ⟨Nat.le_of_ble_eq_true rfl, Nat.le_of_ble_eq_true rfl⟩ ⟨Nat.zero_le _, Nat.zero_le _⟩ (Nat.le_of_ble_eq_true rfl) ?_
  refine e_ci 1 rfl rfl ?_
  iterate 10 refine e_sp rfl rfl rfl ?_
  refine e_ci 1 rfl rfl ?_
  iterate 1 refine e_sp rfl rfl rfl ?_
  refine e_callV1 ok_C_bitOf rfl lk_C_25 (by rfl) (by rfl) k_C_bitOf rfl rfl ⟨Nat.le_of_ble_eq_true rfl, Nat.le_of_ble_eq_true rfl⟩ ⟨Nat.zero_le _, Nat.zero_le _⟩ (Nat.le_of_ble_eq_true rfl) ?_
  iterate 1 refine e_sp rfl rfl rfl ?_
  refine e_iret rfl rfl (Nat.le_refl _) (Nat.le_refl _) ?_
  exact ⟨rfl, rfl⟩
set_option maxHeartbeats 4000000 in
set_option maxRecDepth 40000 in
theorem k_C_greyOfCode {l : Launch} {B : List Sh} {S : St} {x : Int32}  : KK l B (0, 0) m_C_greyOfCode [aI x] S (ans (some (aI (gcC x))) S) := by
  refine k_start ok_C_greyOfCode (Nat.le_of_ble_eq_true rfl) ?_
  iterate 2 refine e_sp rfl rfl rfl ?_
  refine e_ci 1 rfl rfl ?_
  iterate 5 refine e_sp rfl rfl rfl ?_
  refine e_ci 2 rfl rfl ?_
  iterate 5 refine e_sp rfl rfl rfl ?_
  refine e_ci 4 rfl rfl ?_
  iterate 2 refine e_sp rfl rfl rfl ?_
  refine e_iret rfl rfl (Nat.le_refl _) (Nat.le_refl _) ?_
  exact ⟨rfl, rfl⟩
set_option maxHeartbeats 4000000 in
set_option maxRecDepth 40000 in
theorem k_C_greyOf {l : Launch} {h : Nat} {S : St} {i j : Int32}  : KK l (SHm h) (2, 44) m_C_greyOf [aR 9, aI i, aI j] S (ans (some (aI (grC S i j))) S) := by
  refine k_start ok_C_greyOf (Nat.le_of_ble_eq_true rfl) ?_
  iterate 2 refine e_sp rfl rfl rfl ?_
  refine e_callN1 ok_H_placeOf rfl lk_C_21 k_H_placeOf rfl rfl ⟨Nat.le_of_ble_eq_true rfl, Nat.le_of_ble_eq_true rfl⟩ ⟨Nat.zero_le _, Nat.zero_le _⟩ (Nat.le_of_ble_eq_true rfl) ?_
  iterate 2 refine e_sp rfl rfl rfl ?_
  refine e_ci (-1) rfl rfl ?_
  refine e_icne rfl (fun h1 => ?_) (fun h1 => ?_)
  · iterate 3 refine e_sp rfl rfl rfl ?_
    refine e_iald rfl (by first | rfl | assumption) (by exact plc_in (by assumption)) ?_
    refine e_callS1 ok_C_greyOfCode rfl lk_C_29 k_C_greyOfCode rfl rfl ⟨Nat.le_of_ble_eq_true rfl, Nat.le_of_ble_eq_true rfl⟩ ⟨Nat.zero_le _, Nat.zero_le _⟩ (Nat.le_of_ble_eq_true rfl) ?_
    refine e_iret rfl rfl (Nat.le_refl _) (Nat.le_refl _) ?_
    exact ⟨by simp [grC, h1], rfl⟩
  · refine e_ci 0 rfl rfl ?_
    refine e_goto rfl ?_
    refine e_iret rfl rfl (Nat.le_refl _) (Nat.le_refl _) ?_
    exact ⟨by simp [grC, h1], rfl⟩
set_option maxHeartbeats 4000000 in
set_option maxRecDepth 40000 in
theorem k_C_greatestGrey {l : Launch} {h : Nat} {S : St} : KK l (SHm h) (1, 21) m_C_greatestGrey [aR 9] S (ans (some (aI (ggC S 256))) S) := by
  refine k_start ok_C_greatestGrey (Nat.le_of_ble_eq_true rfl) ?_
  have L := e_for (P := fun i => E0 l (SHm h) (1, 21) m_C_greatestGrey 4 [some (aR 9), some (aI (ggC S i)), some (aI (nI i))] [] (S) (ans (some (aI (ggC S 256))) S)) 256 (by
      iterate 3 refine e_sp rfl rfl rfl ?_
      refine e_alen rfl (by first | rfl | assumption) (by decide) ?_
      refine e_icge rfl (fun h1 => ?_) (fun h1 => ?_)
      · iterate 1 refine e_sp rfl rfl rfl ?_
        refine e_iret rfl rfl (Nat.le_refl _) (Nat.le_refl _) ?_
        exact ⟨rfl, rfl⟩
      · exact absurd (nI_le (Nat.le_refl _) (by decide)) h1) (fun i hi ihi => by
      iterate 3 refine e_sp rfl rfl rfl ?_
      refine e_alen rfl (by first | rfl | assumption) (by decide) ?_
      refine e_icge rfl (fun h1 => ?_) (fun h1 => ?_)
      · exact absurd h1 (nI_ge hi (by decide))
      · iterate 4 refine e_sp rfl rfl rfl ?_
        refine e_iald rfl (by first | rfl | assumption) (by exact vp_in_nI hi (by decide)) ?_
        refine e_callS1 ok_C_greyOfCode rfl lk_C_29 k_C_greyOfCode rfl rfl ⟨Nat.le_of_ble_eq_true rfl, Nat.le_of_ble_eq_true rfl⟩ ⟨Nat.zero_le _, Nat.zero_le _⟩ (Nat.le_of_ble_eq_true rfl) ?_
        refine e_mmax rfl mm_C_33 (Nat.le_of_ble_eq_true rfl) (Nat.le_of_ble_eq_true rfl) ⟨Nat.zero_le _, Nat.zero_le _⟩ ?_
        iterate 1 refine e_sp rfl rfl rfl ?_
        refine e_inc 1 rfl rfl rfl rfl ?_
        refine e_goto rfl ?_
        rw [nI_clamp (by omega), nI_1]
        exact ihi)
  refine e_ci 0 rfl rfl ?_
  iterate 1 refine e_sp rfl rfl rfl ?_
  refine e_ci 0 rfl rfl ?_
  iterate 1 refine e_sp rfl rfl rfl ?_
  exact L
/-! Forecast -/
def ftF (S : St) (c : Int32) : Int32 := if wi c 0 63 = 0 then 0 else if S.1 12 c.toNatClampNeg < 0 then 0 else 1
def up7 (s : Int32) : Int32 := if 0 ≤ s then s + 1 else s + 2
def dn8 (s : Int32) : Int32 := if 0 ≤ s then s - 2 else s - 1
/-- a state behind a bit -/
def nxF (s b : Int32) : Int32 := if b = 1 then (if up7 s < 7 then up7 s else 7) else (if -8 < dn8 s then dn8 s else -8)
def leF (S : St) (c b : Int32) : St := if wi c 0 63 = 0 then S else puI (puI S 12 c.toNatClampNeg (nxF (S.1 12 c.toNatClampNeg) b)) 13 c.toNatClampNeg (S.1 13 c.toNatClampNeg + 1)
set_option maxHeartbeats 4000000 in
set_option maxRecDepth 40000 in
theorem k_F_beginPlane {l : Launch} {h : Nat} {S : St}  : KK l (SHm h) (1, 23) m_F_beginPlane [aR 11] S (ans none (flI (flI S 12 (-1) 64) 13 0 64)) := by
  refine k_start ok_F_beginPlane (Nat.le_of_ble_eq_true rfl) ?_
  iterate 2 refine e_sp rfl rfl rfl ?_
  refine e_ci (-1) rfl rfl ?_
  refine e_callS0 ok_JA_fill1 rfl lk_F_18 (k_JA_fill1 (by rfl) (by decide)) rfl rfl ⟨Nat.le_of_ble_eq_true rfl, Nat.le_of_ble_eq_true rfl⟩ ⟨Nat.zero_le _, Nat.zero_le _⟩ (Nat.le_of_ble_eq_true rfl) ?_
  iterate 2 refine e_sp rfl rfl rfl ?_
  refine e_ci 0 rfl rfl ?_
  refine e_callS0 ok_JA_fill1 rfl lk_F_18 (k_JA_fill1 (by rfl) (by decide)) rfl rfl ⟨Nat.le_of_ble_eq_true rfl, Nat.le_of_ble_eq_true rfl⟩ ⟨Nat.zero_le _, Nat.zero_le _⟩ (Nat.le_of_ble_eq_true rfl) ?_
  refine e_vret rfl rfl (Nat.le_refl _) (Nat.le_refl _) ?_
  exact ⟨rfl, rfl⟩
set_option maxHeartbeats 4000000 in
set_option maxRecDepth 40000 in
theorem k_F_foretold {l : Launch} {h : Nat} {S : St} {c : Int32}  : KK l (SHm h) (1, 22) m_F_foretold [aR 11, aI c] S (ans (some (aI (ftF S c))) S) := by
  refine k_start ok_F_foretold (Nat.le_of_ble_eq_true rfl) ?_
  iterate 1 refine e_sp rfl rfl rfl ?_
  refine e_ci 0 rfl rfl ?_
  refine e_cb 63 rfl rfl ?_
  refine e_callN1 ok_H_isWithin rfl lk_F_24 k_H_isWithin rfl rfl ⟨Nat.le_of_ble_eq_true rfl, Nat.le_of_ble_eq_true rfl⟩ ⟨Nat.zero_le _, Nat.zero_le _⟩ (Nat.le_of_ble_eq_true rfl) ?_
  refine e_ifeq rfl (fun h1 => ?_) (fun h1 => ?_)
  · refine e_ci 0 rfl rfl ?_
    refine e_iret rfl rfl (Nat.le_refl _) (Nat.le_refl _) ?_
    exact ⟨by simp [ftF, h1], rfl⟩
  · iterate 3 refine e_sp rfl rfl rfl ?_
    refine e_iald rfl (by first | rfl | assumption) (by exact wi_in (n := 64) (by decide) (by assumption)) ?_
    refine e_iflt rfl (fun h2 => ?_) (fun h2 => ?_)
    · refine e_ci 0 rfl rfl ?_
      refine e_iret rfl rfl (Nat.le_refl _) (Nat.le_refl _) ?_
      exact ⟨by simp [ftF, h1, h2], rfl⟩
    · refine e_ci 1 rfl rfl ?_
      refine e_goto rfl ?_
      refine e_iret rfl rfl (Nat.le_refl _) (Nat.le_refl _) ?_
      exact ⟨by simp [ftF, h1, h2], rfl⟩
set_option maxHeartbeats 4000000 in
set_option maxRecDepth 40000 in
theorem k_F_learn {l : Launch} {h : Nat} {S : St} {c b : Int32}  : KK l (SHm h) (1, 22) m_F_learn [aR 11, aI c, aI b] S (ans none (leF S c b)) := by
  refine k_start ok_F_learn (Nat.le_of_ble_eq_true rfl) ?_
  iterate 1 refine e_sp rfl rfl rfl ?_
  refine e_ci 0 rfl rfl ?_
  refine e_cb 63 rfl rfl ?_
  refine e_callN1 ok_H_isWithin rfl lk_F_24 k_H_isWithin rfl rfl ⟨Nat.le_of_ble_eq_true rfl, Nat.le_of_ble_eq_true rfl⟩ ⟨Nat.zero_le _, Nat.zero_le _⟩ (Nat.le_of_ble_eq_true rfl) ?_
  refine e_ifne rfl (fun h1 => ?_) (fun h1 => ?_)
  · iterate 3 refine e_sp rfl rfl rfl ?_
    refine e_iald rfl (by first | rfl | assumption) (by exact wi_in (n := 64) (by decide) (by assumption)) ?_
    iterate 2 refine e_sp rfl rfl rfl ?_
    refine e_ci 1 rfl rfl ?_
    refine e_icne rfl (fun h2 => ?_) (fun h2 => ?_)
    · iterate 3 refine e_sp rfl rfl rfl ?_
      refine e_cb (-8) rfl rfl ?_
      iterate 1 refine e_sp rfl rfl rfl ?_
      refine e_ifge rfl (fun h3 => ?_) (fun h3 => ?_)
      · iterate 1 refine e_sp rfl rfl rfl ?_
        refine e_ci 2 rfl rfl ?_
        iterate 1 refine e_sp rfl rfl rfl ?_
        refine e_mmax rfl mm_F_34 (Nat.le_of_ble_eq_true rfl) (Nat.le_of_ble_eq_true rfl) ⟨Nat.zero_le _, Nat.zero_le _⟩ ?_
        refine e_iast rfl (by first | rfl | assumption) (by exact wi_in (n := 64) (by decide) (by assumption)) ?_
        iterate 4 refine e_sp rfl rfl rfl ?_
        refine e_iald rfl (by first | rfl | assumption) (by exact wi_in (n := 64) (by decide) (by assumption)) ?_
        refine e_ci 1 rfl rfl ?_
        iterate 1 refine e_sp rfl rfl rfl ?_
        refine e_iast rfl (by first | rfl | assumption) (by exact wi_in (n := 64) (by decide) (by assumption)) ?_
        refine e_vret rfl rfl (Nat.le_refl _) (Nat.le_refl _) ?_
        exact ⟨rfl, by simp [leF, nxF, up7, dn8, puI, pt, upd, h1, h2, h3]⟩
      · iterate 1 refine e_sp rfl rfl rfl ?_
        refine e_ci 1 rfl rfl ?_
        iterate 1 refine e_sp rfl rfl rfl ?_
        refine e_goto rfl ?_
        refine e_mmax rfl mm_F_34 (Nat.le_of_ble_eq_true rfl) (Nat.le_of_ble_eq_true rfl) ⟨Nat.zero_le _, Nat.zero_le _⟩ ?_
        refine e_iast rfl (by first | rfl | assumption) (by exact wi_in (n := 64) (by decide) (by assumption)) ?_
        iterate 4 refine e_sp rfl rfl rfl ?_
        refine e_iald rfl (by first | rfl | assumption) (by exact wi_in (n := 64) (by decide) (by assumption)) ?_
        refine e_ci 1 rfl rfl ?_
        iterate 1 refine e_sp rfl rfl rfl ?_
        refine e_iast rfl (by first | rfl | assumption) (by exact wi_in (n := 64) (by decide) (by assumption)) ?_
        refine e_vret rfl rfl (Nat.le_refl _) (Nat.le_refl _) ?_
        exact ⟨rfl, by simp [leF, nxF, up7, dn8, puI, pt, upd, h1, h2, h3]⟩
    · iterate 3 refine e_sp rfl rfl rfl ?_
      refine e_cb 7 rfl rfl ?_
      iterate 1 refine e_sp rfl rfl rfl ?_
      refine e_ifge rfl (fun h4 => ?_) (fun h4 => ?_)
      · iterate 1 refine e_sp rfl rfl rfl ?_
        refine e_ci 1 rfl rfl ?_
        iterate 1 refine e_sp rfl rfl rfl ?_
        refine e_mmin rfl mm_F_28 (Nat.le_of_ble_eq_true rfl) (Nat.le_of_ble_eq_true rfl) ⟨Nat.zero_le _, Nat.zero_le _⟩ ?_
        refine e_iast rfl (by first | rfl | assumption) (by exact wi_in (n := 64) (by decide) (by assumption)) ?_
        refine e_goto rfl ?_
        iterate 4 refine e_sp rfl rfl rfl ?_
        refine e_iald rfl (by first | rfl | assumption) (by exact wi_in (n := 64) (by decide) (by assumption)) ?_
        refine e_ci 1 rfl rfl ?_
        iterate 1 refine e_sp rfl rfl rfl ?_
        refine e_iast rfl (by first | rfl | assumption) (by exact wi_in (n := 64) (by decide) (by assumption)) ?_
        refine e_vret rfl rfl (Nat.le_refl _) (Nat.le_refl _) ?_
        exact ⟨rfl, by simp [leF, nxF, up7, dn8, puI, pt, upd, h1, h2, h4]⟩
      · iterate 1 refine e_sp rfl rfl rfl ?_
        refine e_ci 2 rfl rfl ?_
        iterate 1 refine e_sp rfl rfl rfl ?_
        refine e_goto rfl ?_
        refine e_mmin rfl mm_F_28 (Nat.le_of_ble_eq_true rfl) (Nat.le_of_ble_eq_true rfl) ⟨Nat.zero_le _, Nat.zero_le _⟩ ?_
        refine e_iast rfl (by first | rfl | assumption) (by exact wi_in (n := 64) (by decide) (by assumption)) ?_
        refine e_goto rfl ?_
        iterate 4 refine e_sp rfl rfl rfl ?_
        refine e_iald rfl (by first | rfl | assumption) (by exact wi_in (n := 64) (by decide) (by assumption)) ?_
        refine e_ci 1 rfl rfl ?_
        iterate 1 refine e_sp rfl rfl rfl ?_
        refine e_iast rfl (by first | rfl | assumption) (by exact wi_in (n := 64) (by decide) (by assumption)) ?_
        refine e_vret rfl rfl (Nat.le_refl _) (Nat.le_refl _) ?_
        exact ⟨rfl, by simp [leF, nxF, up7, dn8, puI, pt, upd, h1, h2, h4]⟩
  · refine e_vret rfl rfl (Nat.le_refl _) (Nat.le_refl _) ?_
    exact ⟨rfl, by simp [leF, nxF, up7, dn8, puI, pt, upd, h1]⟩
end
section
/-! PatternSet -/
theorem wi_01 (a b c : Int32) : wi a b c = 0 ∨ wi a b c = 1 := by
  unfold wi
  split
  · exact Or.inl rfl
  · split
    · exact Or.inl rfl
    · exact Or.inr rfl
def hpB (S : St) (p : Int32) : Int32 := wi p 0 (S.1 5 3 - 1)
def hsB (S : St) (p x y : Int32) : Int32 := if hpB S p = 0 then 0 else if wi x 0 (S.1 5 1 - 1) = 0 then 0 else if wi y 0 (S.1 5 2 - 1) = 0 then 0 else 1
def liB (S : St) (p y : Int32) : Int32 := if wi p 0 (nI 64 - 1) = 0 then 0 else (ushL (S.2 6 p.toNatClampNeg) (8 * y)).toInt32 &&& 255
def idB (S : St) (p x y : Int32) : Int32 := if liB S p y >>> (x &&& 31) &&& 1 = 1 then 1 else 0
def tnB (S : St) (p x y : Int32) : St := if wi p 0 (nI 64 - 1) = 0 then S else puL S 6 p.toNatClampNeg (S.2 6 p.toNatClampNeg ^^^ (1 : Int64) <<< ((8 * y + x).toInt64 &&& 63))
def keB (x y : Int32) : Int32 :=
  let a := (0 : Int32) <<< (2 &&& 31) ||| ((x ^^^ y) >>> (0 &&& 31) &&& 1) <<< (1 &&& 31) ||| (y >>> (0 &&& 31) &&& 1)
  let b := a <<< (2 &&& 31) ||| ((x ^^^ y) >>> (1 &&& 31) &&& 1) <<< (1 &&& 31) ||| (y >>> (1 &&& 31) &&& 1)
  b <<< (2 &&& 31) ||| ((x ^^^ y) >>> (2 &&& 31) &&& 1) <<< (1 &&& 31) ||| (y >>> (2 &&& 31) &&& 1)
def rkI (key : Int32) (v : Nat) (a : Int32) : Nat → Int32
  | 0 => a
  | u + 1 => if key ≤ keB (nI u) (nI v) then rkI key v a u else rkI key v a u + 1
def rkO (key : Int32) (w : Nat) : Nat → Int32
  | 0 => 0
  | v + 1 => rkI key v (rkO key w v) w
def bgB (S : St) (w h m : Int32) : St := flL (puI (puI (puI S 5 1 w) 5 2 h) 5 3 m) 6 0 64
/-- how many bits a number has -/
def bl : Nat → Nat → Nat
  | 0, _ => 0
  | f + 1, m => if m = 0 then 0 else bl f (m / 2) + 1
def faB (S : St) (p e : Int32) : Int32 := if bcL (S.2 6 p.toNatClampNeg) - e ≤ 0 then (-2) * (bcL (S.2 6 p.toNatClampNeg) - e) else 2 * (bcL (S.2 6 p.toNatClampNeg) - e) + 1
def neB (S : St) (e : Int32) : Nat → Nat
  | 0 => 0
  | i + 1 => if faB S (nI (neB S e i)) e ≤ faB S (nI (i + 1)) e then neB S e i else i + 1
theorem neB_le (S : St) (e : Int32) : ∀ i, neB S e i ≤ i
  | 0 => Nat.le_refl _
  | i + 1 => by
    unfold neB
    split
    · exact Nat.le_succ_of_le (neB_le S e i)
    · exact Nat.le_refl _
set_option maxHeartbeats 4000000 in
set_option maxRecDepth 40000 in
theorem k_B_begin {l : Launch} {h : Nat} {S : St} {a b c : Int32}  : KK l (SHm h) (1, 24) m_B_begin [aR 5, aI a, aI b, aI c] S (ans none (bgB S a b c)) := by
  refine k_start ok_B_begin (Nat.le_of_ble_eq_true rfl) ?_
  iterate 11 refine e_sp rfl rfl rfl ?_
  refine e_cl 0 rfl rfl ?_
  refine e_callS0 ok_JA_fill2 rfl lk_B_25 (k_JA_fill2 (by rfl) (by decide)) rfl rfl ⟨Nat.le_of_ble_eq_true rfl, Nat.le_of_ble_eq_true rfl⟩ ⟨Nat.zero_le _, Nat.zero_le _⟩ (Nat.le_of_ble_eq_true rfl) ?_
  refine e_vret rfl rfl (Nat.le_refl _) (Nat.le_refl _) ?_
  exact ⟨rfl, rfl⟩
set_option maxHeartbeats 4000000 in
set_option maxRecDepth 40000 in
theorem k_B_hasPattern {l : Launch} {h : Nat} {S : St} {p : Int32}  : KK l (SHm h) (1, 22) m_B_hasPattern [aR 5, aI p] S (ans (some (aI (hpB S p))) S) := by
  refine k_start ok_B_hasPattern (Nat.le_of_ble_eq_true rfl) ?_
  iterate 1 refine e_sp rfl rfl rfl ?_
  refine e_ci 0 rfl rfl ?_
  iterate 2 refine e_sp rfl rfl rfl ?_
  refine e_ci 1 rfl rfl ?_
  iterate 1 refine e_sp rfl rfl rfl ?_
  refine e_callN1 ok_H_isWithin rfl lk_B_45 k_H_isWithin rfl rfl ⟨Nat.le_of_ble_eq_true rfl, Nat.le_of_ble_eq_true rfl⟩ ⟨Nat.zero_le _, Nat.zero_le _⟩ (Nat.le_of_ble_eq_true rfl) ?_
  refine e_zret rfl rfl (Nat.le_refl _) (Nat.le_refl _) (by exact wi_01 _ _ _) ?_
  exact ⟨rfl, rfl⟩
set_option maxHeartbeats 4000000 in
set_option maxRecDepth 40000 in
theorem k_B_has {l : Launch} {h : Nat} {S : St} {p x y : Int32}  : KK l (SHm h) (2, 43) m_B_has [aR 5, aI p, aI x, aI y] S (ans (some (aI (hsB S p x y))) S) := by
  refine k_start ok_B_has (Nat.le_of_ble_eq_true rfl) ?_
  iterate 2 refine e_sp rfl rfl rfl ?_
  refine e_callV1 ok_B_hasPattern rfl lk_B_49 (by rfl) (by rfl) k_B_hasPattern rfl rfl ⟨Nat.le_of_ble_eq_true rfl, Nat.le_of_ble_eq_true rfl⟩ ⟨Nat.zero_le _, Nat.zero_le _⟩ (Nat.le_of_ble_eq_true rfl) ?_
  refine e_ifeq rfl (fun h1 => ?_) (fun h1 => ?_)
  · refine e_ci 0 rfl rfl ?_
    refine e_zret rfl rfl (Nat.le_refl _) (Nat.le_refl _) (by decide) ?_
    exact ⟨by simp [hsB, h1], rfl⟩
  · iterate 1 refine e_sp rfl rfl rfl ?_
    refine e_ci 0 rfl rfl ?_
    iterate 2 refine e_sp rfl rfl rfl ?_
    refine e_ci 1 rfl rfl ?_
    iterate 1 refine e_sp rfl rfl rfl ?_
    refine e_callN1 ok_H_isWithin rfl lk_B_45 k_H_isWithin rfl rfl ⟨Nat.le_of_ble_eq_true rfl, Nat.le_of_ble_eq_true rfl⟩ ⟨Nat.zero_le _, Nat.zero_le _⟩ (Nat.le_of_ble_eq_true rfl) ?_
    refine e_ifeq rfl (fun h2 => ?_) (fun h2 => ?_)
    · refine e_ci 0 rfl rfl ?_
      refine e_zret rfl rfl (Nat.le_refl _) (Nat.le_refl _) (by decide) ?_
      exact ⟨by simp [hsB, h1, h2], rfl⟩
    · iterate 1 refine e_sp rfl rfl rfl ?_
      refine e_ci 0 rfl rfl ?_
      iterate 2 refine e_sp rfl rfl rfl ?_
      refine e_ci 1 rfl rfl ?_
      iterate 1 refine e_sp rfl rfl rfl ?_
      refine e_callN1 ok_H_isWithin rfl lk_B_45 k_H_isWithin rfl rfl ⟨Nat.le_of_ble_eq_true rfl, Nat.le_of_ble_eq_true rfl⟩ ⟨Nat.zero_le _, Nat.zero_le _⟩ (Nat.le_of_ble_eq_true rfl) ?_
      refine e_ifeq rfl (fun h3 => ?_) (fun h3 => ?_)
      · refine e_ci 0 rfl rfl ?_
        refine e_zret rfl rfl (Nat.le_refl _) (Nat.le_refl _) (by decide) ?_
        exact ⟨by simp [hsB, h1, h2, h3], rfl⟩
      · refine e_ci 1 rfl rfl ?_
        refine e_goto rfl ?_
        refine e_zret rfl rfl (Nat.le_refl _) (Nat.le_refl _) (by decide) ?_
        exact ⟨by simp [hsB, h1, h2, h3], rfl⟩
set_option maxHeartbeats 4000000 in
set_option maxRecDepth 40000 in
theorem k_B_line {l : Launch} {h : Nat} {S : St} {p y : Int32}  : KK l (SHm h) (1, 22) m_B_line [aR 5, aI p, aI y] S (ans (some (aI (liB S p y))) S) := by
  refine k_start ok_B_line (Nat.le_of_ble_eq_true rfl) ?_
  iterate 1 refine e_sp rfl rfl rfl ?_
  refine e_ci 0 rfl rfl ?_
  iterate 2 refine e_sp rfl rfl rfl ?_
  refine e_alen rfl (by first | rfl | assumption) (by decide) ?_
  refine e_ci 1 rfl rfl ?_
  iterate 1 refine e_sp rfl rfl rfl ?_
  refine e_callN1 ok_H_isWithin rfl lk_B_45 k_H_isWithin rfl rfl ⟨Nat.le_of_ble_eq_true rfl, Nat.le_of_ble_eq_true rfl⟩ ⟨Nat.zero_le _, Nat.zero_le _⟩ (Nat.le_of_ble_eq_true rfl) ?_
  refine e_ifeq rfl (fun h1 => ?_) (fun h1 => ?_)
  · refine e_ci 0 rfl rfl ?_
    refine e_iret rfl rfl (Nat.le_refl _) (Nat.le_refl _) ?_
    exact ⟨by simp [liB, ushL, h1], rfl⟩
  · iterate 3 refine e_sp rfl rfl rfl ?_
    refine e_lald rfl (by first | rfl | assumption) (by exact wi_in (by decide) (by assumption)) ?_
    refine e_cb 8 rfl rfl ?_
    iterate 4 refine e_sp rfl rfl rfl ?_
    refine e_cs 255 rfl rfl ?_
    iterate 1 refine e_sp rfl rfl rfl ?_
    refine e_goto rfl ?_
    refine e_iret rfl rfl (Nat.le_refl _) (Nat.le_refl _) ?_
    exact ⟨by simp [liB, ushL, h1], rfl⟩
set_option maxHeartbeats 4000000 in
set_option maxRecDepth 40000 in
theorem k_B_isDark {l : Launch} {h : Nat} {S : St} {p x y : Int32}  : KK l (SHm h) (2, 44) m_B_isDark [aR 5, aI p, aI x, aI y] S (ans (some (aI (idB S p x y))) S) := by
  refine k_start ok_B_isDark (Nat.le_of_ble_eq_true rfl) ?_
  iterate 3 refine e_sp rfl rfl rfl ?_
  refine e_callV1 ok_B_line rfl lk_B_53 (by rfl) (by rfl) k_B_line rfl rfl ⟨Nat.le_of_ble_eq_true rfl, Nat.le_of_ble_eq_true rfl⟩ ⟨Nat.zero_le _, Nat.zero_le _⟩ (Nat.le_of_ble_eq_true rfl) ?_
  iterate 2 refine e_sp rfl rfl rfl ?_
  refine e_ci 1 rfl rfl ?_
  iterate 1 refine e_sp rfl rfl rfl ?_
  refine e_ci 1 rfl rfl ?_
  refine e_icne rfl (fun h1 => ?_) (fun h1 => ?_)
  · refine e_ci 0 rfl rfl ?_
    refine e_zret rfl rfl (Nat.le_refl _) (Nat.le_refl _) (by decide) ?_
    exact ⟨by simp [idB, h1], rfl⟩
  · refine e_ci 1 rfl rfl ?_
    refine e_goto rfl ?_
    refine e_zret rfl rfl (Nat.le_refl _) (Nat.le_refl _) (by decide) ?_
    exact ⟨by simp [idB, h1], rfl⟩
set_option maxHeartbeats 4000000 in
set_option maxRecDepth 40000 in
theorem k_B_turn {l : Launch} {h : Nat} {S : St} {p x y : Int32}  : KK l (SHm h) (1, 22) m_B_turn [aR 5, aI p, aI x, aI y] S (ans none (tnB S p x y)) := by
  refine k_start ok_B_turn (Nat.le_of_ble_eq_true rfl) ?_
  iterate 1 refine e_sp rfl rfl rfl ?_
  refine e_ci 0 rfl rfl ?_
  iterate 2 refine e_sp rfl rfl rfl ?_
  refine e_alen rfl (by first | rfl | assumption) (by decide) ?_
  refine e_ci 1 rfl rfl ?_
  iterate 1 refine e_sp rfl rfl rfl ?_
  refine e_callN1 ok_H_isWithin rfl lk_B_45 k_H_isWithin rfl rfl ⟨Nat.le_of_ble_eq_true rfl, Nat.le_of_ble_eq_true rfl⟩ ⟨Nat.zero_le _, Nat.zero_le _⟩ (Nat.le_of_ble_eq_true rfl) ?_
  refine e_ifeq rfl (fun h1 => ?_) (fun h1 => ?_)
  · refine e_vret rfl rfl (Nat.le_refl _) (Nat.le_refl _) ?_
    exact ⟨rfl, by simp [tnB, h1]⟩
  · iterate 4 refine e_sp rfl rfl rfl ?_
    refine e_lald rfl (by first | rfl | assumption) (by exact wi_in (by decide) (by assumption)) ?_
    refine e_cl 1 rfl rfl ?_
    refine e_cb 8 rfl rfl ?_
    iterate 6 refine e_sp rfl rfl rfl ?_
    refine e_last rfl (by first | rfl | assumption) (by exact wi_in (by decide) (by assumption)) ?_
    refine e_vret rfl rfl (Nat.le_refl _) (Nat.le_refl _) ?_
    exact ⟨rfl, by simp [tnB, h1]⟩
set_option maxHeartbeats 4000000 in
set_option maxRecDepth 40000 in
theorem k_B_keyOf {l : Launch} {B : List Sh} {S : St} {x y : Int32}  : KK l B (0, 0) m_B_keyOf [aI x, aI y] S (ans (some (aI (keB x y))) S) := by
  refine k_start ok_B_keyOf (Nat.le_of_ble_eq_true rfl) ?_
  refine e_ci 0 rfl rfl ?_
  iterate 1 refine e_sp rfl rfl rfl ?_
  refine e_ci 0 rfl rfl ?_
  iterate 2 refine e_sp rfl rfl rfl ?_
  refine e_ci 3 rfl rfl ?_
  refine e_icge rfl (fun h1 => absurd h1 (by first | decide | simp [puI, pt, upd])) (fun _ => ?_)
  iterate 1 refine e_sp rfl rfl rfl ?_
  refine e_ci 2 rfl rfl ?_
  iterate 6 refine e_sp rfl rfl rfl ?_
  refine e_ci 1 rfl rfl ?_
  iterate 1 refine e_sp rfl rfl rfl ?_
  refine e_ci 1 rfl rfl ?_
  iterate 5 refine e_sp rfl rfl rfl ?_
  refine e_ci 1 rfl rfl ?_
  iterate 3 refine e_sp rfl rfl rfl ?_
  refine e_inc 1 rfl rfl rfl rfl ?_
  refine e_goto rfl ?_
  iterate 1 refine e_sp rfl rfl rfl ?_
  refine e_ci 3 rfl rfl ?_
  refine e_icge rfl (fun h2 => absurd h2 (by first | decide | simp [puI, pt, upd])) (fun _ => ?_)
  iterate 1 refine e_sp rfl rfl rfl ?_
  refine e_ci 2 rfl rfl ?_
  iterate 6 refine e_sp rfl rfl rfl ?_
  refine e_ci 1 rfl rfl ?_
  iterate 1 refine e_sp rfl rfl rfl ?_
  refine e_ci 1 rfl rfl ?_
  iterate 5 refine e_sp rfl rfl rfl ?_
  refine e_ci 1 rfl rfl ?_
  iterate 3 refine e_sp rfl rfl rfl ?_
  refine e_inc 1 rfl rfl rfl rfl ?_
  refine e_goto rfl ?_
  iterate 1 refine e_sp rfl rfl rfl ?_
  refine e_ci 3 rfl rfl ?_
  refine e_icge rfl (fun h3 => absurd h3 (by first | decide | simp [puI, pt, upd])) (fun _ => ?_)
  iterate 1 refine e_sp rfl rfl rfl ?_
  refine e_ci 2 rfl rfl ?_
  iterate 6 refine e_sp rfl rfl rfl ?_
  refine e_ci 1 rfl rfl ?_
  iterate 1 refine e_sp rfl rfl rfl ?_
  refine e_ci 1 rfl rfl ?_
  iterate 5 refine e_sp rfl rfl rfl ?_
  refine e_ci 1 rfl rfl ?_
  iterate 3 refine e_sp rfl rfl rfl ?_
  refine e_inc 1 rfl rfl rfl rfl ?_
  refine e_goto rfl ?_
  iterate 1 refine e_sp rfl rfl rfl ?_
  refine e_ci 3 rfl rfl ?_
  refine e_icge rfl (fun _ => ?_) (fun h4 => absurd h4 (by first | decide | simp [puI, pt, upd]))
  iterate 1 refine e_sp rfl rfl rfl ?_
  refine e_iret rfl rfl (Nat.le_refl _) (Nat.le_refl _) ?_
  exact ⟨rfl, rfl⟩
set_option maxHeartbeats 4000000 in
set_option maxRecDepth 40000 in
theorem k_B_farness {l : Launch} {h : Nat} {S : St} {p e : Int32} (hp : vp_in p 64) : KK l (SHm h) (1, 21) m_B_farness [aR 5, aI p, aI e] S (ans (some (aI (faB S p e))) S) := by
  refine k_start ok_B_farness (Nat.le_of_ble_eq_true rfl) ?_
  iterate 3 refine e_sp rfl rfl rfl ?_
  refine e_lald rfl (by first | rfl | assumption) (by exact hp) ?_
  refine e_callS1 ok_JL_bitCount rfl lk_B_59 k_JL_bitCount rfl rfl ⟨Nat.le_of_ble_eq_true rfl, Nat.le_of_ble_eq_true rfl⟩ ⟨Nat.zero_le _, Nat.zero_le _⟩ (Nat.le_of_ble_eq_true rfl) ?_
  iterate 4 refine e_sp rfl rfl rfl ?_
  refine e_ifle rfl (fun h1 => ?_) (fun h1 => ?_)
  · refine e_cb (-2) rfl rfl ?_
    iterate 2 refine e_sp rfl rfl rfl ?_
    refine e_iret rfl rfl (Nat.le_refl _) (Nat.le_refl _) ?_
    exact ⟨by simp [faB, h1], rfl⟩
  · refine e_ci 2 rfl rfl ?_
    iterate 2 refine e_sp rfl rfl rfl ?_
    refine e_ci 1 rfl rfl ?_
    iterate 1 refine e_sp rfl rfl rfl ?_
    refine e_goto rfl ?_
    refine e_iret rfl rfl (Nat.le_refl _) (Nat.le_refl _) ?_
    exact ⟨by simp [faB, h1], rfl⟩
set_option maxHeartbeats 4000000 in
set_option maxRecDepth 40000 in
theorem k_B_rankOf {l : Launch} {h : Nat} {S : St} {x y : Int32} {w g : Nat} (hw : S.1 5 1 = nI w) (hg : S.1 5 2 = nI g) (hw2 : w < 2 ^ 31) (hg2 : g < 2 ^ 31) : KK l (SHm h) (1, 23) m_B_rankOf [aR 5, aI x, aI y] S (ans (some (aI (rkO (keB x y) w g))) S) := by
  refine k_start ok_B_rankOf (Nat.le_of_ble_eq_true rfl) ?_
  have L1 := e_for (P := fun v => ∀ z, E0 l (SHm h) (1, 23) m_B_rankOf 12 [some (aR 5), some (aI x), some (aI y), some (aI (keB x y)), some (aI (rkO (keB x y) w v)), some (aI (nI v)), z] [] (S) (ans (some (aI (rkO (keB x y) w g))) S)) g (by
      intro z
      iterate 3 refine e_sp rfl rfl rfl ?_
      refine e_icge rfl (fun h1 => ?_) (fun h1 => ?_)
      · iterate 1 refine e_sp rfl rfl rfl ?_
        refine e_iret rfl rfl (Nat.le_refl _) (Nat.le_refl _) ?_
        exact ⟨rfl, rfl⟩
      · try dsimp only
        rw [hg] at h1
        exact absurd (nI_le (Nat.le_refl _) hg2) h1) (fun v hv ihv => by
      intro z
      iterate 3 refine e_sp rfl rfl rfl ?_
      refine e_icge rfl (fun h1 => ?_) (fun h1 => ?_)
      · try dsimp only
        rw [hg] at h1
        exact absurd h1 (nI_ge hv hg2)
      · refine e_ci 0 rfl rfl ?_
        iterate 1 refine e_sp rfl rfl rfl ?_
        try dsimp only
        have L2 := e_for (P := fun u => E0 l (SHm h) (1, 23) m_B_rankOf 24 [some (aR 5), some (aI x), some (aI y), some (aI (keB x y)), some (aI (rkI (keB x y) v (rkO (keB x y) w v) u)), some (aI (nI v)), some (aI (nI u))] [] (S) (ans (some (aI (rkO (keB x y) w g))) S)) w (by
            iterate 3 refine e_sp rfl rfl rfl ?_
            refine e_icge rfl (fun h1 => ?_) (fun h1 => ?_)
            · refine e_inc 1 rfl rfl rfl rfl ?_
              refine e_goto rfl ?_
              try dsimp only
              rw [nI_1]
              exact ihv _
            · try dsimp only
              rw [hw] at h1
              exact absurd (nI_le (Nat.le_refl _) hw2) h1) (fun u hu ihu => by
            iterate 3 refine e_sp rfl rfl rfl ?_
            refine e_icge rfl (fun h1 => ?_) (fun h1 => ?_)
            · try dsimp only
              rw [hw] at h1
              exact absurd h1 (nI_ge hu hw2)
            · iterate 2 refine e_sp rfl rfl rfl ?_
              refine e_callS1 ok_B_keyOf rfl lk_B_42 k_B_keyOf rfl rfl ⟨Nat.le_of_ble_eq_true rfl, Nat.le_of_ble_eq_true rfl⟩ ⟨Nat.zero_le _, Nat.zero_le _⟩ (Nat.le_of_ble_eq_true rfl) ?_
              iterate 1 refine e_sp rfl rfl rfl ?_
              refine e_icge rfl (fun h2 => ?_) (fun h2 => ?_)
              · refine e_inc 1 rfl rfl rfl rfl ?_
                refine e_goto rfl ?_
                try dsimp only
                rw [nI_1]
                simp only [rkI, h2, if_true, if_false] at ihu
                exact ihu
              · refine e_inc 1 rfl rfl rfl rfl ?_
                refine e_inc 1 rfl rfl rfl rfl ?_
                refine e_goto rfl ?_
                try dsimp only
                rw [nI_1]
                simp only [rkI, h2, if_true, if_false] at ihu
                exact ihu)
        exact L2)
  iterate 2 refine e_sp rfl rfl rfl ?_
  refine e_callS1 ok_B_keyOf rfl lk_B_42 k_B_keyOf rfl rfl ⟨Nat.le_of_ble_eq_true rfl, Nat.le_of_ble_eq_true rfl⟩ ⟨Nat.zero_le _, Nat.zero_le _⟩ (Nat.le_of_ble_eq_true rfl) ?_
  iterate 1 refine e_sp rfl rfl rfl ?_
  refine e_ci 0 rfl rfl ?_
  iterate 1 refine e_sp rfl rfl rfl ?_
  refine e_ci 0 rfl rfl ?_
  iterate 1 refine e_sp rfl rfl rfl ?_
  try dsimp only
  exact L1 none
set_option maxHeartbeats 4000000 in
set_option maxRecDepth 40000 in
theorem k_B_planes {l : Launch} {h : Nat} {S : St} {m : Nat} (hm : S.1 5 3 = nI (m + 1)) (hm2 : m < 64) : KK l (SHm h) (0, 0) m_B_planes [aR 5] S (ans (some (aI (nI (bl 6 m)))) S) := by
  refine k_start ok_B_planes (Nat.le_of_ble_eq_true rfl) ?_
  have L : ∀ (f m k : Nat), m < 2 ^ f → f ≤ 6 → E0 l (SHm h) (0, 0) m_B_planes 9 [some (aR 5), some (aI (nI k)), some (aI (nI m))] [] S (ans (some (aI (nI (k + bl f m)))) S) := by
    intro f
    induction f with
    | zero =>
      intro m k hm _
      have hm0 : m = 0 := by omega
      subst hm0
      iterate 1 refine e_sp rfl rfl rfl ?_
      refine e_ifle rfl (fun h1 => ?_) (fun h1 => absurd (by decide) h1)
      iterate 1 refine e_sp rfl rfl rfl ?_
      refine e_iret rfl rfl (Nat.le_refl _) (Nat.le_refl _) ?_
      exact ⟨rfl, rfl⟩
    | succ f ih =>
      intro m k hm hf
      have hm31 : m < 2 ^ 31 := Nat.lt_of_lt_of_le hm (Nat.pow_le_pow_right (by omega) (by omega))
      iterate 1 refine e_sp rfl rfl rfl ?_
      refine e_ifle rfl (fun h1 => ?_) (fun h1 => ?_)
      · have hm0 : m = 0 := by
          rcases Nat.eq_zero_or_pos m with e | e
          · exact e
          · exact absurd h1 (nI_nle e hm31)
        subst hm0
        iterate 1 refine e_sp rfl rfl rfl ?_
        refine e_iret rfl rfl (Nat.le_refl _) (Nat.le_refl _) ?_
        exact ⟨by simp [bl], rfl⟩
      · have hm0 : ¬ m = 0 := fun e => h1 (by rw [e]; decide)
        refine e_inc 1 rfl rfl rfl rfl ?_
        iterate 1 refine e_sp rfl rfl rfl ?_
        refine e_ci 1 rfl rfl ?_
        iterate 2 refine e_sp rfl rfl rfl ?_
        refine e_goto rfl ?_
        dsimp only
        rw [nI_1, show nI m >>> ((1 : Int32) &&& 31) = nI (m / 2) from pk_shrN hm31 _ 1 (by decide)]
        have e9 := ih (m / 2) (k + 1) (by rw [Nat.pow_succ] at hm; omega) (by omega)
        rw [show k + 1 + bl f (m / 2) = k + bl (f + 1) m by simp only [bl]; rw [if_neg hm0]; omega] at e9
        exact e9
  have L0 := L 6 m 0 (by omega) (by omega)
  rw [Nat.zero_add] at L0
  refine e_ci 0 rfl rfl ?_
  iterate 3 refine e_sp rfl rfl rfl ?_
  refine e_ci 1 rfl rfl ?_
  iterate 2 refine e_sp rfl rfl rfl ?_
  dsimp only
  rw [hm, nI_pred]
  exact L0
set_option maxHeartbeats 4000000 in
set_option maxRecDepth 40000 in
theorem k_B_nearestTo {l : Launch} {h : Nat} {S : St} {e : Int32} {m : Nat} (hm : S.1 5 3 = nI (m + 1)) (hm2 : m < 64) : KK l (SHm h) (2, 44) m_B_nearestTo [aR 5, aI e] S (ans (some (aI (nI (neB S e m)))) S) := by
  refine k_start ok_B_nearestTo (Nat.le_of_ble_eq_true rfl) ?_
  have L := e_for (P := fun i => E0 l (SHm h) (2, 44) m_B_nearestTo 4 [some (aR 5), some (aI e), some (aI (nI (neB S e i))), some (aI (nI (i + 1)))] [] S (ans (some (aI (nI (neB S e m)))) S)) m (by
      iterate 3 refine e_sp rfl rfl rfl ?_
      refine e_icge rfl (fun h1 => ?_) (fun h1 => ?_)
      · iterate 1 refine e_sp rfl rfl rfl ?_
        refine e_iret rfl rfl (Nat.le_refl _) (Nat.le_refl _) ?_
        exact ⟨rfl, rfl⟩
      · try dsimp only
        exact absurd (by rw [hm]; exact nI_le (Nat.le_refl _) (by omega)) h1) (fun i hi ihi => by
      iterate 3 refine e_sp rfl rfl rfl ?_
      refine e_icge rfl (fun h1 => ?_) (fun h1 => ?_)
      · try dsimp only
        exact absurd (by rw [hm] at h1; exact h1) (nI_ge (show i + 1 < m + 1 by omega) (by omega))
      · iterate 3 refine e_sp rfl rfl rfl ?_
        refine e_alen rfl (by first | rfl | assumption) (by decide) ?_
        refine e_icge rfl (fun h2 => ?_) (fun h2 => ?_)
        · try dsimp only
          exact absurd h2 (nI_ge (show i + 1 < 64 by omega) (by decide))
        · iterate 3 refine e_sp rfl rfl rfl ?_
          refine e_callV1 ok_B_farness rfl lk_B_56 (by rfl) (by rfl) (k_B_farness (vp_in_nI (show i + 1 < 64 by omega) (by decide))) rfl rfl ⟨Nat.le_of_ble_eq_true rfl, Nat.le_of_ble_eq_true rfl⟩ ⟨Nat.zero_le _, Nat.zero_le _⟩ (Nat.le_of_ble_eq_true rfl) ?_
          iterate 3 refine e_sp rfl rfl rfl ?_
          refine e_callV1 ok_B_farness rfl lk_B_56 (by rfl) (by rfl) (k_B_farness (vp_in_nI (show neB S e i < 64 from Nat.lt_of_le_of_lt (neB_le S e i) (by omega)) (by decide))) rfl rfl ⟨Nat.le_of_ble_eq_true rfl, Nat.le_of_ble_eq_true rfl⟩ ⟨Nat.zero_le _, Nat.zero_le _⟩ (Nat.le_of_ble_eq_true rfl) ?_
          refine e_icge rfl (fun h3 => ?_) (fun h3 => ?_)
          · refine e_inc 1 rfl rfl rfl rfl ?_
            refine e_goto rfl ?_
            try dsimp only
            rw [nI_1]
            simp only [neB, h3, if_true, if_false] at ihi
            exact ihi
          · iterate 2 refine e_sp rfl rfl rfl ?_
            refine e_inc 1 rfl rfl rfl rfl ?_
            refine e_goto rfl ?_
            try dsimp only
            rw [nI_1]
            simp only [neB, h3, if_true, if_false] at ihi
            exact ihi)
  refine e_ci 0 rfl rfl ?_
  iterate 1 refine e_sp rfl rfl rfl ?_
  refine e_ci 1 rfl rfl ?_
  iterate 1 refine e_sp rfl rfl rfl ?_
  try dsimp only
  exact L
end
section
/-! ordered patterns -/
def rnI (key : Int32) (v a : Nat) : Nat → Nat
  | 0 => a
  | u + 1 => if key ≤ keB (nI u) (nI v) then rnI key v a u else rnI key v a u + 1
def rkN (key : Int32) (w : Nat) : Nat → Nat
  | 0 => 0
  | v + 1 => rnI key v (rkN key w v) w
theorem rkI_nat (key : Int32) (v a : Nat) : ∀ u, rkI key v (nI a) u = nI (rnI key v a u)
  | 0 => rfl
  | u + 1 => by
    simp only [rkI, rnI, rkI_nat key v a u]
    split
    · rfl
    · exact nI_1 _
theorem rkO_nat (key : Int32) (w : Nat) : ∀ v, rkO key w v = nI (rkN key w v)
  | 0 => rfl
  | v + 1 => by
    simp only [rkO, rkN]
    rw [rkO_nat key w v, rkI_nat]
theorem rnI_le (key : Int32) (v a : Nat) : ∀ u, rnI key v a u ≤ a + u
  | 0 => Nat.le_refl _
  | u + 1 => by
    have := rnI_le key v a u
    simp only [rnI]
    split <;> omega
theorem rkN_le (key : Int32) (w : Nat) : ∀ v, rkN key w v ≤ w * v
  | 0 => Nat.zero_le _
  | v + 1 => by
    have h1 := rkN_le key w v
    have h2 := rnI_le key v (rkN key w v) w
    simp only [rkN, Nat.mul_succ]
    omega
/-- from the rank on, cell (x, y) of each pattern is turned -/
def toS (S : St) (x y r : Nat) : Nat → St
  | 0 => S
  | c + 1 => tnB (toS S x y r c) (nI (r + 1 + c)) (nI x) (nI y)
def oxS (S : St) (q y : Nat) : Nat → St
  | 0 => S
  | x + 1 => toS (oxS S q y x) x y (rkN (keB (nI x) (nI y)) q q) (q * q - rkN (keB (nI x) (nI y)) q q)
def oyS (S : St) (q : Nat) : Nat → St
  | 0 => S
  | y + 1 => oxS (oyS S q y) q y q
theorem tnB_1 (S : St) (p x y : Int32) : (tnB S p x y).1 = S.1 := by
  unfold tnB
  split <;> rfl
theorem toS_1 (S : St) (x y r : Nat) : ∀ c, (toS S x y r c).1 = S.1
  | 0 => rfl
  | c + 1 => by simp only [toS]; rw [tnB_1, toS_1 S x y r c]
theorem oxS_1 (S : St) (q y : Nat) : ∀ x, (oxS S q y x).1 = S.1
  | 0 => rfl
  | x + 1 => by simp only [oxS]; rw [toS_1, oxS_1 S q y x]
theorem oyS_1 (S : St) (q : Nat) : ∀ y, (oyS S q y).1 = S.1
  | 0 => rfl
  | y + 1 => by simp only [oyS]; rw [oxS_1, oyS_1 S q y]
def orS (S : St) (q : Nat) : St := oyS (bgB S (nI q) (nI q) (nI (q * q + 1))) q q
set_option maxHeartbeats 4000000 in
set_option maxRecDepth 40000 in
theorem k_B_beginOrdered {l : Launch} {h : Nat} {S : St} {q : Nat} (hq : q ≤ 7) : KK l (SHm h) (2, 49) m_B_beginOrdered [aR 5, aI (nI q)] S (ans none (orS S q)) := by
  refine k_start ok_B_beginOrdered (Nat.le_of_ble_eq_true rfl) ?_
  have hqq : q * q ≤ 49 := Nat.mul_le_mul hq hq
  have hmn : (bgB S (nI q) (nI q) (nI (q * q + 1))).1 5 3 = nI (q * q + 1) := rfl
  have L1 := e_for (P := fun y => ∀ z3 z4, E0 l (SHm h) (2, 49) m_B_beginOrdered 13 [some (aR 5), some (aI (nI q)), some (aI (nI y)), z3, z4] [] (oyS (bgB S (nI q) (nI q) (nI (q * q + 1))) q y) (ans none (orS S q))) (q) (by
      intro z3 z4
      iterate 2 refine e_sp rfl rfl rfl ?_
      refine e_icge rfl (fun h1 => ?_) (fun h1 => ?_)
      · refine e_vret rfl rfl (Nat.le_refl _) (Nat.le_refl _) ?_
        exact ⟨rfl, rfl⟩
      · try dsimp only
        exact absurd (nI_le (Nat.le_refl _) (by omega)) h1) (fun y hy ihy => by
      intro z3 z4
      iterate 2 refine e_sp rfl rfl rfl ?_
      refine e_icge rfl (fun h1 => ?_) (fun h1 => ?_)
      · try dsimp only
        exact absurd h1 (nI_ge hy (by omega))
      · refine e_ci 0 rfl rfl ?_
        iterate 1 refine e_sp rfl rfl rfl ?_
        try dsimp only
        have L2 := e_for (P := fun x => ∀ z4, E0 l (SHm h) (2, 49) m_B_beginOrdered 20 [some (aR 5), some (aI (nI q)), some (aI (nI y)), some (aI (nI x)), z4] [] (oxS (oyS (bgB S (nI q) (nI q) (nI (q * q + 1))) q y) q y x) (ans none (orS S q))) (q) (by
            intro z4
            iterate 2 refine e_sp rfl rfl rfl ?_
            refine e_icge rfl (fun h1 => ?_) (fun h1 => ?_)
            · refine e_inc 1 rfl rfl rfl rfl ?_
              refine e_goto rfl ?_
              try dsimp only
              rw [nI_1]
              exact ihy _ _
            · try dsimp only
              exact absurd (nI_le (Nat.le_refl _) (by omega)) h1) (fun x hx ihx => by
            intro z4
            iterate 2 refine e_sp rfl rfl rfl ?_
            refine e_icge rfl (fun h1 => ?_) (fun h1 => ?_)
            · try dsimp only
              exact absurd h1 (nI_ge hx (by omega))
            · iterate 3 refine e_sp rfl rfl rfl ?_
              refine e_callV1 ok_B_rankOf rfl lk_B_35 (by rfl) (by rfl) (k_B_rankOf (w := q) (g := q) (by rw [oxS_1, oyS_1]; rfl) (by rw [oxS_1, oyS_1]; rfl) (by omega) (by omega)) rfl rfl ⟨Nat.le_of_ble_eq_true rfl, Nat.le_of_ble_eq_true rfl⟩ ⟨Nat.zero_le _, Nat.zero_le _⟩ (Nat.le_of_ble_eq_true rfl) ?_
              refine e_ci 1 rfl rfl ?_
              iterate 2 refine e_sp rfl rfl rfl ?_
              try dsimp only
              rw [rkO_nat, nI_1]
              have hrk := rkN_le (keB (nI x) (nI y)) q q
              have L3 := e_for (P := fun c => E0 l (SHm h) (2, 49) m_B_beginOrdered 35 [some (aR 5), some (aI (nI q)), some (aI (nI y)), some (aI (nI x)), some (aI (nI ((rkN (keB (nI x) (nI y)) q q) + 1 + c)))] [] (toS (oxS (oyS (bgB S (nI q) (nI q) (nI (q * q + 1))) q y) q y x) x y (rkN (keB (nI x) (nI y)) q q) c) (ans none (orS S q))) (q * q - (rkN (keB (nI x) (nI y)) q q)) (by
                  iterate 3 refine e_sp rfl rfl rfl ?_
                  refine e_icge rfl (fun h1 => ?_) (fun h1 => ?_)
                  · refine e_inc 1 rfl rfl rfl rfl ?_
                    refine e_goto rfl ?_
                    try dsimp only
                    rw [nI_1]
                    exact ihx _
                  · try dsimp only
                    rw [toS_1, oxS_1, oyS_1, hmn] at h1
                    exact absurd (nI_le (show q * q + 1 ≤ (rkN (keB (nI x) (nI y)) q q) + 1 + (q * q - (rkN (keB (nI x) (nI y)) q q)) by omega) (by omega)) h1) (fun c hc ihc => by
                  iterate 3 refine e_sp rfl rfl rfl ?_
                  refine e_icge rfl (fun h1 => ?_) (fun h1 => ?_)
                  · try dsimp only
                    rw [toS_1, oxS_1, oyS_1, hmn] at h1
                    exact absurd h1 (nI_ge (show (rkN (keB (nI x) (nI y)) q q) + 1 + c < q * q + 1 by omega) (by omega))
                  · iterate 4 refine e_sp rfl rfl rfl ?_
                    refine e_callV0 ok_B_turn rfl lk_B_39 (by rfl) (by rfl) k_B_turn rfl rfl ⟨Nat.le_of_ble_eq_true rfl, Nat.le_of_ble_eq_true rfl⟩ ⟨Nat.zero_le _, Nat.zero_le _⟩ (Nat.le_of_ble_eq_true rfl) ?_
                    refine e_inc 1 rfl rfl rfl rfl ?_
                    refine e_goto rfl ?_
                    try dsimp only
                    rw [nI_1]
                    exact ihc)
              exact L3)
        exact L2 _)
  iterate 6 refine e_sp rfl rfl rfl ?_
  refine e_ci 1 rfl rfl ?_
  iterate 1 refine e_sp rfl rfl rfl ?_
  dsimp only
  rw [show nI q * nI q + 1 = nI (q * q + 1) by rw [pk_mul, nI_1]]
  refine e_callV0 ok_B_begin rfl lk_B_31 (by rfl) (by rfl) k_B_begin rfl rfl ⟨Nat.le_of_ble_eq_true rfl, Nat.le_of_ble_eq_true rfl⟩ ⟨Nat.zero_le _, Nat.zero_le _⟩ (Nat.le_of_ble_eq_true rfl) ?_
  refine e_ci 0 rfl rfl ?_
  iterate 1 refine e_sp rfl rfl rfl ?_
  try dsimp only
  exact L1 _ _
end
section
theorem e_st {l : Launch} {B : List Sh} {R : Room} {y : Mt} {Zf : ZF} {kc ks pc : Nat} {lv : List (Option AV)} {st : List AV} {S S2 : St} (h : S = S2) (k : EE l B R y Zf kc ks pc lv st S2) : EE l B R y Zf kc ks pc lv st S := h ▸ k
/-! RunWriter -/
def lowK (nb sm : Int32) : Nat → Nat → Nat
  | 0, i => i
  | f + 1, i => if sm ≤ nb <<< (nI i &&& 31) then i else lowK nb sm f (i + 1)
theorem lowK_le (nb sm : Int32) : ∀ f i, lowK nb sm f i ≤ i + f
  | 0, i => Nat.le_refl _
  | f + 1, i => by
    simp only [lowK]
    split
    · omega
    · have := lowK_le nb sm f (i + 1); omega
def wbS (S : St) : St := puI (puI (puI (puI (puI (flI S 15 (vp_nar .byte 0) 384) 16 0 4) 16 1 1) 14 2 0) 14 3 0) 14 4 0
def wr1 (S : St) (v b : Int32) : St := if wi (S.1 14 2 >>> (3 &&& 31)) 0 (nI 384 - 1) = 0 then S else
  puI (puI S 15 (S.1 14 2 >>> (3 &&& 31)).toNatClampNeg (vp_nar .byte (S.1 15 (S.1 14 2 >>> (3 &&& 31)).toNatClampNeg ||| (v >>> (b &&& 31) &&& 1) <<< ((7 - (S.1 14 2 &&& 7)) &&& 31)).toInt8.toInt32)) 14 2 (S.1 14 2 + 1)
def wrS (v : Int32) : Nat → St → St
  | 0, S => S
  | n + 1, S => wrS v n (wr1 S v (nI n))
def fiW (S : St) : St := puI (puI (pacN_16 S (S.1 14 3)) 14 3 0) 14 4 ((puI (pacN_16 S (S.1 14 3)) 14 3 0).1 14 4 + 1)
/-- the end of a run of r bits -/
def enW (S : St) (r : Nat) : St :=
  if 12 ≤ nI (r / 2 ^ lowK (S.1 16 1) (S.1 16 0) 8 0) then fiW (wrS ((wrS 4095 12 S).1 14 3) 13 (wrS 4095 12 S))
  else fiW (wrS ((wrS (((1 <<< (nI (r / 2 ^ lowK (S.1 16 1) (S.1 16 0) 8 0) &&& 31)) - 1) <<< (1 &&& 31)) (r / 2 ^ lowK (S.1 16 1) (S.1 16 0) 8 0 + 1) S).1 14 3) (lowK (S.1 16 1) (S.1 16 0) 8 0) (wrS (((1 <<< (nI (r / 2 ^ lowK (S.1 16 1) (S.1 16 0) 8 0) &&& 31)) - 1) <<< (1 &&& 31)) (r / 2 ^ lowK (S.1 16 1) (S.1 16 0) 8 0 + 1) S))
def teW (S : St) (v : Int32) : St := if v = 0 then enW S (S.1 14 3).toNatClampNeg else puI S 14 3 (S.1 14 3 + 1)
theorem nI_tn {x : Int32} (h : ¬ x < 0) : x = nI x.toNatClampNeg ∧ x.toNatClampNeg < 2 ^ 31 := by
  obtain ⟨j, hj, rfl⟩ := nI_of h
  rw [nI_clamp hj]
  exact ⟨rfl, hj⟩
def szW (S : St) : Int32 := (S.1 14 2 + 7) >>> (3 &&& 31)
def mdW (S : St) (i : Int32) : Int32 := if wi i 0 (nI 384 - 1) = 0 then 0 else S.1 15 i.toNatClampNeg &&& 255
theorem shr_k {r : Nat} (hr : r < 2 ^ 31) : ∀ k, k ≤ 8 → nI r >>> (nI k &&& 31) = nI (r / 2 ^ k) := by
  intro k hk
  have h : ∀ k, k ≤ 8 → ((nI k &&& 31).toBitVec.smod 32).toNat = k := by decide
  exact pk_shrN hr _ k (h k hk)
set_option maxHeartbeats 4000000 in
set_option maxRecDepth 40000 in
theorem k_P_lowBits_16 {l : Launch} {h : Nat} {S : St} : KK l (SHm h) (0, 0) m_P_lowBits [aR 16] S (ans (some (aI (nI (lowK (S.1 16 1) (S.1 16 0) 8 0)))) S) := by
  refine k_start ok_P_lowBits (Nat.le_of_ble_eq_true rfl) ?_
  have L : ∀ (f i : Nat), i + f = 8 → E0 l (SHm h) (0, 0) m_P_lowBits 2 [some (aR 16), some (aI (nI i))] [] S (ans (some (aI (nI (lowK (S.1 16 1) (S.1 16 0) f i)))) S) := by
    intro f
    induction f with
    | zero =>
      intro i hi
      have hi8 : i = 8 := by omega
      subst hi8
      iterate 1 refine e_sp rfl rfl rfl ?_
      refine e_cb 8 rfl rfl ?_
      refine e_icge rfl (fun h1 => ?_) (fun h1 => absurd (by decide) h1)
      iterate 1 refine e_sp rfl rfl rfl ?_
      refine e_iret rfl rfl (Nat.le_refl _) (Nat.le_refl _) ?_
      exact ⟨rfl, rfl⟩
    | succ f ih =>
      intro i hi
      iterate 1 refine e_sp rfl rfl rfl ?_
      refine e_cb 8 rfl rfl ?_
      refine e_icge rfl (fun h1 => absurd h1 (nI_ge (show i < 8 by omega) (by decide))) (fun h1 => ?_)
      iterate 6 refine e_sp rfl rfl rfl ?_
      refine e_icge rfl (fun h2 => ?_) (fun h2 => ?_)
      · iterate 1 refine e_sp rfl rfl rfl ?_
        refine e_iret rfl rfl (Nat.le_refl _) (Nat.le_refl _) ?_
        exact ⟨by simp [lowK, h2], rfl⟩
      · refine e_inc 1 rfl rfl rfl rfl ?_
        refine e_goto rfl ?_
        rw [nI_1]
        have e9 := ih (i + 1) (by omega)
        rw [show lowK (S.1 16 1) (S.1 16 0) f (i + 1) = lowK (S.1 16 1) (S.1 16 0) (f + 1) i by simp [lowK, h2]] at e9
        exact e9
  refine e_ci 0 rfl rfl ?_
  iterate 1 refine e_sp rfl rfl rfl ?_
  exact L 8 0 rfl
set_option maxHeartbeats 4000000 in
set_option maxRecDepth 40000 in
theorem k_P_lowBits_19 {l : Launch} {h : Nat} {S : St} : KK l (SHm h) (0, 0) m_P_lowBits [aR 19] S (ans (some (aI (nI (lowK (S.1 19 1) (S.1 19 0) 8 0)))) S) := by
  refine k_start ok_P_lowBits (Nat.le_of_ble_eq_true rfl) ?_
  have L : ∀ (f i : Nat), i + f = 8 → E0 l (SHm h) (0, 0) m_P_lowBits 2 [some (aR 19), some (aI (nI i))] [] S (ans (some (aI (nI (lowK (S.1 19 1) (S.1 19 0) f i)))) S) := by
    intro f
    induction f with
    | zero =>
      intro i hi
      have hi8 : i = 8 := by omega
      subst hi8
      iterate 1 refine e_sp rfl rfl rfl ?_
      refine e_cb 8 rfl rfl ?_
      refine e_icge rfl (fun h1 => ?_) (fun h1 => absurd (by decide) h1)
      iterate 1 refine e_sp rfl rfl rfl ?_
      refine e_iret rfl rfl (Nat.le_refl _) (Nat.le_refl _) ?_
      exact ⟨rfl, rfl⟩
    | succ f ih =>
      intro i hi
      iterate 1 refine e_sp rfl rfl rfl ?_
      refine e_cb 8 rfl rfl ?_
      refine e_icge rfl (fun h1 => absurd h1 (nI_ge (show i < 8 by omega) (by decide))) (fun h1 => ?_)
      iterate 6 refine e_sp rfl rfl rfl ?_
      refine e_icge rfl (fun h2 => ?_) (fun h2 => ?_)
      · iterate 1 refine e_sp rfl rfl rfl ?_
        refine e_iret rfl rfl (Nat.le_refl _) (Nat.le_refl _) ?_
        exact ⟨by simp [lowK, h2], rfl⟩
      · refine e_inc 1 rfl rfl rfl rfl ?_
        refine e_goto rfl ?_
        rw [nI_1]
        have e9 := ih (i + 1) (by omega)
        rw [show lowK (S.1 19 1) (S.1 19 0) f (i + 1) = lowK (S.1 19 1) (S.1 19 0) (f + 1) i by simp [lowK, h2]] at e9
        exact e9
  refine e_ci 0 rfl rfl ?_
  iterate 1 refine e_sp rfl rfl rfl ?_
  exact L 8 0 rfl
set_option maxHeartbeats 4000000 in
set_option maxRecDepth 40000 in
theorem k_W_begin {l : Launch} {h : Nat} {S : St}  : KK l (SHm h) (1, 23) m_W_begin [aR 14] S (ans none (wbS S)) := by
  refine k_start ok_W_begin (Nat.le_of_ble_eq_true rfl) ?_
  iterate 2 refine e_sp rfl rfl rfl ?_
  refine e_ci 0 rfl rfl ?_
  refine e_callS0 ok_JA_fill0 rfl lk_W_22 (k_JA_fill0 (by rfl) (by decide)) rfl rfl ⟨Nat.le_of_ble_eq_true rfl, Nat.le_of_ble_eq_true rfl⟩ ⟨Nat.zero_le _, Nat.zero_le _⟩ (Nat.le_of_ble_eq_true rfl) ?_
  iterate 2 refine e_sp rfl rfl rfl ?_
  refine e_callV0 ok_P_begin rfl lk_W_28 (by rfl) (by rfl) k_P_begin_16 rfl rfl ⟨Nat.le_of_ble_eq_true rfl, Nat.le_of_ble_eq_true rfl⟩ ⟨Nat.zero_le _, Nat.zero_le _⟩ (Nat.le_of_ble_eq_true rfl) ?_
  iterate 1 refine e_sp rfl rfl rfl ?_
  refine e_ci 0 rfl rfl ?_
  iterate 2 refine e_sp rfl rfl rfl ?_
  refine e_ci 0 rfl rfl ?_
  iterate 2 refine e_sp rfl rfl rfl ?_
  refine e_ci 0 rfl rfl ?_
  iterate 1 refine e_sp rfl rfl rfl ?_
  refine e_vret rfl rfl (Nat.le_refl _) (Nat.le_refl _) ?_
  exact ⟨rfl, rfl⟩
set_option maxHeartbeats 4000000 in
set_option maxRecDepth 40000 in
theorem k_W_size {l : Launch} {h : Nat} {S : St}  : KK l (SHm h) (0, 0) m_W_size [aR 14] S (ans (some (aI (szW S))) S) := by
  refine k_start ok_W_size (Nat.le_of_ble_eq_true rfl) ?_
  iterate 2 refine e_sp rfl rfl rfl ?_
  refine e_cb 7 rfl rfl ?_
  iterate 1 refine e_sp rfl rfl rfl ?_
  refine e_ci 3 rfl rfl ?_
  iterate 1 refine e_sp rfl rfl rfl ?_
  refine e_iret rfl rfl (Nat.le_refl _) (Nat.le_refl _) ?_
  exact ⟨rfl, rfl⟩
set_option maxHeartbeats 4000000 in
set_option maxRecDepth 40000 in
theorem k_W_made {l : Launch} {h : Nat} {S : St} {i : Int32}  : KK l (SHm h) (1, 22) m_W_made [aR 14, aI i] S (ans (some (aI (mdW S i))) S) := by
  refine k_start ok_W_made (Nat.le_of_ble_eq_true rfl) ?_
  iterate 1 refine e_sp rfl rfl rfl ?_
  refine e_ci 0 rfl rfl ?_
  iterate 2 refine e_sp rfl rfl rfl ?_
  refine e_alen rfl (by first | rfl | assumption) (by decide) ?_
  refine e_ci 1 rfl rfl ?_
  iterate 1 refine e_sp rfl rfl rfl ?_
  refine e_callN1 ok_H_isWithin rfl lk_W_56 k_H_isWithin rfl rfl ⟨Nat.le_of_ble_eq_true rfl, Nat.le_of_ble_eq_true rfl⟩ ⟨Nat.zero_le _, Nat.zero_le _⟩ (Nat.le_of_ble_eq_true rfl) ?_
  refine e_ifeq rfl (fun h1 => ?_) (fun h1 => ?_)
  · refine e_ci 0 rfl rfl ?_
    refine e_iret rfl rfl (Nat.le_refl _) (Nat.le_refl _) ?_
    exact ⟨by simp [mdW, h1], rfl⟩
  · iterate 3 refine e_sp rfl rfl rfl ?_
    refine e_bald rfl (by first | rfl | assumption) (by exact wi_in (by decide) (by assumption)) ?_
    refine e_cs 255 rfl rfl ?_
    iterate 1 refine e_sp rfl rfl rfl ?_
    refine e_goto rfl ?_
    refine e_iret rfl rfl (Nat.le_refl _) (Nat.le_refl _) ?_
    exact ⟨by simp [mdW, h1], rfl⟩
set_option maxHeartbeats 4000000 in
set_option maxRecDepth 40000 in
theorem k_W_write {l : Launch} {h : Nat} {S : St} {v : Int32} {n : Nat} (hn : n ≤ 31) : KK l (SHm h) (1, 22) m_W_write [aR 14, aI v, aI (nI n)] S (ans none (wrS v n S)) := by
  refine k_start ok_W_write (Nat.le_of_ble_eq_true rfl) ?_
  have L : ∀ (w : Int32) (n : Nat), n ≤ 31 → ∀ (S : St) (z : Option AV), E0 l (SHm h) (1, 22) m_W_write 4 [some (aR 14), some (aI v), some (aI w), some (aI (nI n - 1)), z] [] S (ans none (wrS v n S)) := by
    intro w n
    induction n with
    | zero =>
      intro _ S z
      iterate 1 refine e_sp rfl rfl rfl ?_
      refine e_iflt rfl (fun h1 => ?_) (fun h1 => ?_)
      · refine e_vret rfl rfl (Nat.le_refl _) (Nat.le_refl _) ?_
        exact ⟨rfl, rfl⟩
      · try dsimp only
        exact absurd (by decide) h1
    | succ n ih =>
      intro hn S z
      iterate 1 refine e_sp rfl rfl rfl ?_
      refine e_iflt rfl (fun h1 => ?_) (fun h1 => ?_)
      · try dsimp only
        exact absurd h1 (by rw [nI_pred]; exact nI_pos (by omega))
      · iterate 2 refine e_sp rfl rfl rfl ?_
        refine e_ci 3 rfl rfl ?_
        iterate 3 refine e_sp rfl rfl rfl ?_
        refine e_ci 0 rfl rfl ?_
        iterate 2 refine e_sp rfl rfl rfl ?_
        refine e_alen rfl (by first | rfl | assumption) (by decide) ?_
        refine e_ci 1 rfl rfl ?_
        iterate 1 refine e_sp rfl rfl rfl ?_
        refine e_callN1 ok_H_isWithin rfl lk_W_56 k_H_isWithin rfl rfl ⟨Nat.le_of_ble_eq_true rfl, Nat.le_of_ble_eq_true rfl⟩ ⟨Nat.zero_le _, Nat.zero_le _⟩ (Nat.le_of_ble_eq_true rfl) ?_
        refine e_ifeq rfl (fun h2 => ?_) (fun h2 => ?_)
        · refine e_inc (-1) rfl rfl rfl rfl ?_
          refine e_goto rfl ?_
          try dsimp only
          rw [nI_pred, show nI n + (-1) = nI n - 1 from (Int32.sub_eq_add_neg _ _).symm]
          refine e_st (S2 := wr1 S v (nI n)) ?_ (ih (by omega) (wr1 S v (nI n)) _)
          simp only [wr1, h2, if_true, if_false]
          try rfl
        · iterate 4 refine e_sp rfl rfl rfl ?_
          refine e_bald rfl (by first | rfl | assumption) (by exact wi_in (by decide) (by assumption)) ?_
          iterate 3 refine e_sp rfl rfl rfl ?_
          refine e_ci 1 rfl rfl ?_
          iterate 1 refine e_sp rfl rfl rfl ?_
          refine e_cb 7 rfl rfl ?_
          iterate 2 refine e_sp rfl rfl rfl ?_
          refine e_cb 7 rfl rfl ?_
          iterate 5 refine e_sp rfl rfl rfl ?_
          refine e_bast rfl (by first | rfl | assumption) (by exact wi_in (by decide) (by assumption)) ?_
          iterate 3 refine e_sp rfl rfl rfl ?_
          refine e_ci 1 rfl rfl ?_
          iterate 2 refine e_sp rfl rfl rfl ?_
          refine e_inc (-1) rfl rfl rfl rfl ?_
          refine e_goto rfl ?_
          try dsimp only
          rw [nI_pred, show nI n + (-1) = nI n - 1 from (Int32.sub_eq_add_neg _ _).symm]
          refine e_st (S2 := wr1 S v (nI n)) ?_ (ih (by omega) (wr1 S v (nI n)) _)
          simp only [wr1, h2, if_true, if_false]
          try rfl
  iterate 1 refine e_sp rfl rfl rfl ?_
  refine e_ci 1 rfl rfl ?_
  iterate 2 refine e_sp rfl rfl rfl ?_
  exact L _ n hn S none
set_option maxHeartbeats 4000000 in
set_option maxRecDepth 40000 in
theorem k_W_endRun {l : Launch} {h : Nat} {S : St} {r : Nat} (hr : S.1 14 3 = nI r) (hr2 : r < 2 ^ 31) : KK l (SHm h) (2, 46) m_W_endRun [aR 14] S (ans none (enW S r)) := by
  refine k_start ok_W_endRun (Nat.le_of_ble_eq_true rfl) ?_
  have hlt : ¬ (12 : Int32) ≤ nI (r / 2 ^ lowK (S.1 16 1) (S.1 16 0) 8 0) → r / 2 ^ lowK (S.1 16 1) (S.1 16 0) 8 0 < 12 := by
    intro h9
    rcases Nat.lt_or_ge (r / 2 ^ lowK (S.1 16 1) (S.1 16 0) 8 0) 12 with q | q
    · exact q
    · exact absurd (nI_le q (Nat.lt_of_le_of_lt (Nat.div_le_self _ _) hr2)) h9
  iterate 2 refine e_sp rfl rfl rfl ?_
  refine e_callV1 ok_P_lowBits rfl lk_W_44 (by rfl) (by rfl) k_P_lowBits_16 rfl rfl ⟨Nat.le_of_ble_eq_true rfl, Nat.le_of_ble_eq_true rfl⟩ ⟨Nat.zero_le _, Nat.zero_le _⟩ (Nat.le_of_ble_eq_true rfl) ?_
  iterate 6 refine e_sp rfl rfl rfl ?_
  dsimp only
  rw [hr, shr_k hr2 _ (lowK_le _ _ 8 0)]
  iterate 1 refine e_sp rfl rfl rfl ?_
  refine e_cb 12 rfl rfl ?_
  refine e_icge rfl (fun h1 => ?_) (fun h1 => ?_)
  · iterate 1 refine e_sp rfl rfl rfl ?_
    refine e_cs 4095 rfl rfl ?_
    refine e_cb 12 rfl rfl ?_
    refine e_callV0 ok_W_write rfl lk_W_48 (by rfl) (by rfl) (k_W_write (n := 12) (by decide)) rfl rfl ⟨Nat.le_of_ble_eq_true rfl, Nat.le_of_ble_eq_true rfl⟩ ⟨Nat.zero_le _, Nat.zero_le _⟩ (Nat.le_of_ble_eq_true rfl) ?_
    iterate 3 refine e_sp rfl rfl rfl ?_
    refine e_cb 13 rfl rfl ?_
    refine e_callV0 ok_W_write rfl lk_W_48 (by rfl) (by rfl) (k_W_write (n := 13) (by decide)) rfl rfl ⟨Nat.le_of_ble_eq_true rfl, Nat.le_of_ble_eq_true rfl⟩ ⟨Nat.zero_le _, Nat.zero_le _⟩ (Nat.le_of_ble_eq_true rfl) ?_
    iterate 4 refine e_sp rfl rfl rfl ?_
    refine e_callV0 ok_P_learn rfl lk_W_52 (by rfl) (by rfl) k_P_learn_16 rfl rfl ⟨Nat.le_of_ble_eq_true rfl, Nat.le_of_ble_eq_true rfl⟩ ⟨Nat.zero_le _, Nat.zero_le _⟩ (Nat.le_of_ble_eq_true rfl) ?_
    iterate 1 refine e_sp rfl rfl rfl ?_
    refine e_ci 0 rfl rfl ?_
    iterate 4 refine e_sp rfl rfl rfl ?_
    refine e_ci 1 rfl rfl ?_
    iterate 2 refine e_sp rfl rfl rfl ?_
    refine e_vret rfl rfl (Nat.le_refl _) (Nat.le_refl _) ?_
    exact ⟨rfl, by simp only [enW, h1, if_true, if_false]; rfl⟩
  · iterate 1 refine e_sp rfl rfl rfl ?_
    refine e_ci 1 rfl rfl ?_
    iterate 2 refine e_sp rfl rfl rfl ?_
    refine e_ci 1 rfl rfl ?_
    iterate 1 refine e_sp rfl rfl rfl ?_
    refine e_ci 1 rfl rfl ?_
    iterate 2 refine e_sp rfl rfl rfl ?_
    refine e_ci 1 rfl rfl ?_
    iterate 1 refine e_sp rfl rfl rfl ?_
    dsimp only
    rw [nI_1]
    refine e_callV0 ok_W_write rfl lk_W_48 (by rfl) (by rfl) (k_W_write (by have := hlt (by assumption); omega)) rfl rfl ⟨Nat.le_of_ble_eq_true rfl, Nat.le_of_ble_eq_true rfl⟩ ⟨Nat.zero_le _, Nat.zero_le _⟩ (Nat.le_of_ble_eq_true rfl) ?_
    iterate 4 refine e_sp rfl rfl rfl ?_
    refine e_callV0 ok_W_write rfl lk_W_48 (by rfl) (by rfl) (k_W_write (Nat.le_trans (lowK_le _ _ 8 0) (by decide))) rfl rfl ⟨Nat.le_of_ble_eq_true rfl, Nat.le_of_ble_eq_true rfl⟩ ⟨Nat.zero_le _, Nat.zero_le _⟩ (Nat.le_of_ble_eq_true rfl) ?_
    refine e_goto rfl ?_
    iterate 4 refine e_sp rfl rfl rfl ?_
    refine e_callV0 ok_P_learn rfl lk_W_52 (by rfl) (by rfl) k_P_learn_16 rfl rfl ⟨Nat.le_of_ble_eq_true rfl, Nat.le_of_ble_eq_true rfl⟩ ⟨Nat.zero_le _, Nat.zero_le _⟩ (Nat.le_of_ble_eq_true rfl) ?_
    iterate 1 refine e_sp rfl rfl rfl ?_
    refine e_ci 0 rfl rfl ?_
    iterate 4 refine e_sp rfl rfl rfl ?_
    refine e_ci 1 rfl rfl ?_
    iterate 2 refine e_sp rfl rfl rfl ?_
    refine e_vret rfl rfl (Nat.le_refl _) (Nat.le_refl _) ?_
    exact ⟨rfl, by simp only [enW, h1, if_true, if_false]; rfl⟩
set_option maxHeartbeats 4000000 in
set_option maxRecDepth 40000 in
theorem k_W_tell {l : Launch} {h : Nat} {S : St} {v : Int32} (hr : ¬ S.1 14 3 < 0) : KK l (SHm h) (3, 68) m_W_tell [aR 14, aI v] S (ans none (teW S v)) := by
  refine k_start ok_W_tell (Nat.le_of_ble_eq_true rfl) ?_
  iterate 1 refine e_sp rfl rfl rfl ?_
  refine e_ifeq rfl (fun h1 => ?_) (fun h1 => ?_)
  · iterate 1 refine e_sp rfl rfl rfl ?_
    refine e_callV0 ok_W_endRun rfl lk_W_41 (by rfl) (by rfl) (k_W_endRun (nI_tn hr).1 (nI_tn hr).2) rfl rfl ⟨Nat.le_of_ble_eq_true rfl, Nat.le_of_ble_eq_true rfl⟩ ⟨Nat.zero_le _, Nat.zero_le _⟩ (Nat.le_of_ble_eq_true rfl) ?_
    refine e_vret rfl rfl (Nat.le_refl _) (Nat.le_refl _) ?_
    exact ⟨rfl, by simp [teW, h1]⟩
  · iterate 3 refine e_sp rfl rfl rfl ?_
    refine e_ci 1 rfl rfl ?_
    iterate 2 refine e_sp rfl rfl rfl ?_
    refine e_goto rfl ?_
    refine e_vret rfl rfl (Nat.le_refl _) (Nat.le_refl _) ?_
    exact ⟨rfl, by simp [teW, h1]⟩
end
section
/-! RunReader -/
def hrR (S : St) (n : Int32) : Int32 := if nI 3000 - S.1 17 2 < n then 0 else 1
def tkR (S : St) (b : Int32) : St := if wi (S.1 17 2) 0 (nI 3000 - 1) = 0 then S else puI (puI S 18 (S.1 17 2).toNatClampNeg (vp_nar .byte b.toInt8.toInt32)) 17 2 (S.1 17 2 + 1)
def rgS (S : St) (n : Int32) : St := puI (puI (puI (puI (puI (puI (puI S 19 0 4) 19 1 1) 17 3 0) 17 4 n) 17 5 (-1)) 17 6 0) 17 7 0
def rbW (S : St) : Int32 := wi (S.1 17 3 >>> (3 &&& 31)) 0 ((if nI 3000 < S.1 17 2 then nI 3000 else S.1 17 2) - 1)
def rbV (S : St) : Int32 := if rbW S = 0 then 0 else S.1 18 (S.1 17 3 >>> (3 &&& 31)).toNatClampNeg >>> ((7 - (S.1 17 3 &&& 7)) &&& 31) &&& 1
def rbS (S : St) : St := if rbW S = 0 then puI S 17 7 1 else puI S 17 3 (S.1 17 3 + 1)
def rdS (S : St) : Nat → St
  | 0 => S
  | i + 1 => rbS (rdS S i)
def rdV (S : St) : Nat → Int32
  | 0 => 0
  | i + 1 => rdV S i <<< (1 &&& 31) ||| rbV (rdS S i)
def onS : Nat → St → St
  | 0, S => S
  | f + 1, S => if rbV S = 1 then onS f (rbS S) else rbS S
def onC : Nat → St → Nat
  | 0, _ => 0
  | f + 1, S => if rbV S = 1 then onC f (rbS S) + 1 else 0
theorem onC_le : ∀ f S, onC f S ≤ f
  | 0, _ => Nat.le_refl _
  | f + 1, S => by
    simp only [onC]
    split
    · have := onC_le f (rbS S); omega
    · omega
theorem rbS_came (S : St) : (rbS S).1 17 2 = S.1 17 2 := by
  unfold rbS
  split <;> simp [puI, pt, upd]
theorem rdS_came (S : St) : ∀ i, (rdS S i).1 17 2 = S.1 17 2
  | 0 => rfl
  | i + 1 => by simp only [rdS]; rw [rbS_came, rdS_came S i]
theorem onS_came : ∀ f S, (onS f S).1 17 2 = S.1 17 2
  | 0, _ => rfl
  | f + 1, S => by
    simp only [onS]
    split
    · rw [onS_came f, rbS_came]
    · exact rbS_came S
theorem rbS_pace (S : St) (k : Nat) : (rbS S).1 19 k = S.1 19 k := by
  unfold rbS
  split <;> simp [puI, pt]
/-- behind the bits of a run: its length, and the rest -/
def rrF (S : St) (run : Int32) : St :=
  if S.1 17 7 = 0 then
    (if run ≤ (puI S 17 6 (S.1 17 6 + 1)).1 17 4 then pacN_19 (puI (puI S 17 6 (S.1 17 6 + 1)) 17 5 run) run else puI (puI S 17 6 (S.1 17 6 + 1)) 17 7 2)
  else S
def rrE (T : St) (on kk : Nat) : St := if 12 ≤ nI on then rrF (rdS T 13) (rdV T 13) else rrF (rdS T kk) (nI on <<< (nI kk &&& 31) ||| rdV T kk)
def rrS (S : St) : St := rrE (onS 12 S) (onC 12 S) (lowK (S.1 19 1) (S.1 19 0) 8 0)
def nbT (S : St) : St := if S.1 17 5 = -1 then rrS S else S
def nbU (S : St) : St := puI (puI S 17 4 (S.1 17 4 - 1)) 17 5 ((puI S 17 4 (S.1 17 4 - 1)).1 17 5 - 1)
def nbE (T : St) (f : Int32) : Int32 := if T.1 17 7 = 0 then (if (nbU T).1 17 5 = -1 then 1 - f else f) else 0
def nbG (T : St) : St := if T.1 17 7 = 0 then nbU T else T
def nbV (S : St) (f : Int32) : Int32 := nbE (nbT S) f
def nbS (S : St) : St := nbG (nbT S)
def arD (S : St) : Int32 := (S.1 17 3 + 7) >>> (3 &&& 31)
def arV (S : St) : Int32 := if arD S < S.1 17 2 then 0 else if wi (arD S - 1) 0 (nI 3000 - 1) = 0 then 0 else if S.1 18 (arD S - 1).toNatClampNeg &&& ((1 : Int32) <<< ((arD S <<< (3 &&& 31) - S.1 17 3) &&& 31) - 1) = 0 then 1 else 0
def edT (S : St) : St := if S.1 17 7 = 0 then (if S.1 17 5 = -1 then rrS S else S) else S
def edE (T : St) : St := if T.1 17 7 = 0 then (if arV T = 0 then puI T 17 7 3 else T) else T
def edS (S : St) : St := edE (edT S)
theorem rb_in {S : St} {c : Nat} (hc : S.1 17 2 = nI c) (hc2 : c ≤ 3000) (h : ¬ rbW S = 0) : ∃ j : Nat, j < c ∧ S.1 17 3 >>> (3 &&& 31) = nI j := by
  unfold rbW at h
  rw [hc] at h
  rw [if_neg (nI_nlt (show c ≤ 3000 from hc2) (by decide))] at h
  exact wi_nat (by omega) h
set_option maxHeartbeats 4000000 in
set_option maxRecDepth 40000 in
theorem k_R_hasRoomFor {l : Launch} {h : Nat} {S : St} {n : Int32}  : KK l (SHm h) (0, 0) m_R_hasRoomFor [aR 17, aI n] S (ans (some (aI (hrR S n))) S) := by
  refine k_start ok_R_hasRoomFor (Nat.le_of_ble_eq_true rfl) ?_
  iterate 3 refine e_sp rfl rfl rfl ?_
  refine e_alen rfl (by first | rfl | assumption) (by decide) ?_
  iterate 3 refine e_sp rfl rfl rfl ?_
  refine e_icgt rfl (fun h1 => ?_) (fun h1 => ?_)
  · refine e_ci 0 rfl rfl ?_
    refine e_zret rfl rfl (Nat.le_refl _) (Nat.le_refl _) (by decide) ?_
    exact ⟨by simp [hrR, h1], rfl⟩
  · refine e_ci 1 rfl rfl ?_
    refine e_goto rfl ?_
    refine e_zret rfl rfl (Nat.le_refl _) (Nat.le_refl _) (by decide) ?_
    exact ⟨by simp [hrR, h1], rfl⟩
set_option maxHeartbeats 4000000 in
set_option maxRecDepth 40000 in
theorem k_R_take {l : Launch} {h : Nat} {S : St} {b : Int32}  : KK l (SHm h) (1, 22) m_R_take [aR 17, aI b] S (ans none (tkR S b)) := by
  refine k_start ok_R_take (Nat.le_of_ble_eq_true rfl) ?_
  iterate 2 refine e_sp rfl rfl rfl ?_
  refine e_ci 0 rfl rfl ?_
  iterate 2 refine e_sp rfl rfl rfl ?_
  refine e_alen rfl (by first | rfl | assumption) (by decide) ?_
  refine e_ci 1 rfl rfl ?_
  iterate 1 refine e_sp rfl rfl rfl ?_
  refine e_callN1 ok_H_isWithin rfl lk_R_26 k_H_isWithin rfl rfl ⟨Nat.le_of_ble_eq_true rfl, Nat.le_of_ble_eq_true rfl⟩ ⟨Nat.zero_le _, Nat.zero_le _⟩ (Nat.le_of_ble_eq_true rfl) ?_
  refine e_ifeq rfl (fun h1 => ?_) (fun h1 => ?_)
  · refine e_vret rfl rfl (Nat.le_refl _) (Nat.le_refl _) ?_
    exact ⟨rfl, by simp only [tkR, h1, if_true, if_false]; try rfl⟩
  · iterate 6 refine e_sp rfl rfl rfl ?_
    refine e_bast rfl (by first | rfl | assumption) (by exact wi_in (by decide) (by assumption)) ?_
    iterate 3 refine e_sp rfl rfl rfl ?_
    refine e_ci 1 rfl rfl ?_
    iterate 2 refine e_sp rfl rfl rfl ?_
    refine e_vret rfl rfl (Nat.le_refl _) (Nat.le_refl _) ?_
    exact ⟨rfl, by simp only [tkR, h1, if_true, if_false]; try rfl⟩
set_option maxHeartbeats 4000000 in
set_option maxRecDepth 40000 in
theorem k_R_forgetBytes {l : Launch} {h : Nat} {S : St}  : KK l (SHm h) (0, 0) m_R_forgetBytes [aR 17] S (ans none (puI S 17 2 0)) := by
  refine k_start ok_R_forgetBytes (Nat.le_of_ble_eq_true rfl) ?_
  iterate 1 refine e_sp rfl rfl rfl ?_
  refine e_ci 0 rfl rfl ?_
  iterate 1 refine e_sp rfl rfl rfl ?_
  refine e_vret rfl rfl (Nat.le_refl _) (Nat.le_refl _) ?_
  exact ⟨rfl, rfl⟩
set_option maxHeartbeats 4000000 in
set_option maxRecDepth 40000 in
theorem k_R_begin {l : Launch} {h : Nat} {S : St} {n : Int32}  : KK l (SHm h) (1, 20) m_R_begin [aR 17, aI n] S (ans none (rgS S n)) := by
  refine k_start ok_R_begin (Nat.le_of_ble_eq_true rfl) ?_
  iterate 2 refine e_sp rfl rfl rfl ?_
  refine e_callV0 ok_P_begin rfl lk_R_30 (by rfl) (by rfl) k_P_begin_19 rfl rfl ⟨Nat.le_of_ble_eq_true rfl, Nat.le_of_ble_eq_true rfl⟩ ⟨Nat.zero_le _, Nat.zero_le _⟩ (Nat.le_of_ble_eq_true rfl) ?_
  iterate 1 refine e_sp rfl rfl rfl ?_
  refine e_ci 0 rfl rfl ?_
  iterate 5 refine e_sp rfl rfl rfl ?_
  refine e_ci (-1) rfl rfl ?_
  iterate 2 refine e_sp rfl rfl rfl ?_
  refine e_ci 0 rfl rfl ?_
  iterate 2 refine e_sp rfl rfl rfl ?_
  refine e_ci 0 rfl rfl ?_
  iterate 1 refine e_sp rfl rfl rfl ?_
  refine e_vret rfl rfl (Nat.le_refl _) (Nat.le_refl _) ?_
  exact ⟨rfl, rfl⟩
set_option maxHeartbeats 4000000 in
set_option maxRecDepth 40000 in
theorem k_R_readBit {l : Launch} {h : Nat} {S : St} {c : Nat} (hc : S.1 17 2 = nI c) (hc2 : c ≤ 3000) : KK l (SHm h) (1, 22) m_R_readBit [aR 17] S (ans (some (aI (rbV S))) (rbS S)) := by
  refine k_start ok_R_readBit (Nat.le_of_ble_eq_true rfl) ?_
  iterate 2 refine e_sp rfl rfl rfl ?_
  refine e_ci 3 rfl rfl ?_
  iterate 3 refine e_sp rfl rfl rfl ?_
  refine e_ci 0 rfl rfl ?_
  iterate 4 refine e_sp rfl rfl rfl ?_
  refine e_alen rfl (by first | rfl | assumption) (by decide) ?_
  refine e_mmin rfl mm_R_66 (Nat.le_of_ble_eq_true rfl) (Nat.le_of_ble_eq_true rfl) ⟨Nat.zero_le _, Nat.zero_le _⟩ ?_
  refine e_ci 1 rfl rfl ?_
  iterate 1 refine e_sp rfl rfl rfl ?_
  refine e_callN1 ok_H_isWithin rfl lk_R_26 k_H_isWithin rfl rfl ⟨Nat.le_of_ble_eq_true rfl, Nat.le_of_ble_eq_true rfl⟩ ⟨Nat.zero_le _, Nat.zero_le _⟩ (Nat.le_of_ble_eq_true rfl) ?_
  refine e_ifne rfl (fun h1 => ?_) (fun h1 => ?_)
  · iterate 3 refine e_sp rfl rfl rfl ?_
    refine e_bald rfl (by first | rfl | assumption) (by (obtain ⟨j, hj, e⟩ := rb_in hc hc2 (show ¬ rbW S = 0 by assumption); dsimp only; rw [e]; exact vp_in_nI (by omega) (by decide))) ?_
    refine e_cb 7 rfl rfl ?_
    iterate 2 refine e_sp rfl rfl rfl ?_
    refine e_cb 7 rfl rfl ?_
    iterate 3 refine e_sp rfl rfl rfl ?_
    refine e_ci 1 rfl rfl ?_
    iterate 5 refine e_sp rfl rfl rfl ?_
    refine e_ci 1 rfl rfl ?_
    iterate 3 refine e_sp rfl rfl rfl ?_
    refine e_iret rfl rfl (Nat.le_refl _) (Nat.le_refl _) ?_
    exact ⟨by simp only [rbV, (show rbW S = 0 ↔ _ from Iff.rfl), h1] <;> simp [rbW, h1], by simp [rbS, rbW, h1]⟩
  · iterate 1 refine e_sp rfl rfl rfl ?_
    refine e_ci 1 rfl rfl ?_
    iterate 1 refine e_sp rfl rfl rfl ?_
    refine e_ci 0 rfl rfl ?_
    refine e_iret rfl rfl (Nat.le_refl _) (Nat.le_refl _) ?_
    exact ⟨by simp only [rbV, (show rbW S = 0 ↔ _ from Iff.rfl), h1] <;> simp [rbW, h1], by simp [rbS, rbW, h1]⟩
set_option maxHeartbeats 4000000 in
set_option maxRecDepth 40000 in
theorem k_R_read {l : Launch} {h : Nat} {S : St} {c n : Nat} (hc : S.1 17 2 = nI c) (hc2 : c ≤ 3000) (hn : n < 2 ^ 31) : KK l (SHm h) (2, 44) m_R_read [aR 17, aI (nI n)] S (ans (some (aI (rdV S n))) (rdS S n)) := by
  refine k_start ok_R_read (Nat.le_of_ble_eq_true rfl) ?_
  have L := e_for (P := fun i => E0 l (SHm h) (2, 44) m_R_read 4 [some (aR 17), some (aI (nI n)), some (aI (rdV S i)), some (aI (nI i))] [] (rdS S i) (ans (some (aI (rdV S n))) (rdS S n))) (n) (by
      iterate 2 refine e_sp rfl rfl rfl ?_
      refine e_icge rfl (fun h1 => ?_) (fun h1 => ?_)
      · iterate 1 refine e_sp rfl rfl rfl ?_
        refine e_iret rfl rfl (Nat.le_refl _) (Nat.le_refl _) ?_
        exact ⟨rfl, rfl⟩
      · try dsimp only
        exact absurd (nI_le (Nat.le_refl _) hn) h1) (fun i hi ihi => by
      iterate 2 refine e_sp rfl rfl rfl ?_
      refine e_icge rfl (fun h1 => ?_) (fun h1 => ?_)
      · try dsimp only
        exact absurd h1 (nI_ge hi hn)
      · iterate 1 refine e_sp rfl rfl rfl ?_
        refine e_ci 1 rfl rfl ?_
        iterate 2 refine e_sp rfl rfl rfl ?_
        refine e_callV1 ok_R_readBit rfl lk_R_55 (by rfl) (by rfl) (k_R_readBit ((rdS_came S i).trans hc) hc2) rfl rfl ⟨Nat.le_of_ble_eq_true rfl, Nat.le_of_ble_eq_true rfl⟩ ⟨Nat.zero_le _, Nat.zero_le _⟩ (Nat.le_of_ble_eq_true rfl) ?_
        iterate 2 refine e_sp rfl rfl rfl ?_
        refine e_inc 1 rfl rfl rfl rfl ?_
        refine e_goto rfl ?_
        try dsimp only
        rw [nI_1]
        exact ihi)
  refine e_ci 0 rfl rfl ?_
  iterate 1 refine e_sp rfl rfl rfl ?_
  refine e_ci 0 rfl rfl ?_
  iterate 1 refine e_sp rfl rfl rfl ?_
  try dsimp only
  exact L
set_option maxHeartbeats 4000000 in
set_option maxRecDepth 40000 in
theorem k_R_readRunT {l : Launch} {h : Nat} {T : St} {c on kk : Nat} (hT : T.1 17 2 = nI c) (hc2 : c ≤ 3000) (hkk : kk ≤ 8) (z : Option AV) : E0 l (SHm h) (3, 67) m_R_readRun 30 [some (aR 17), some (aI (nI kk)), some (aI (nI on)), z] [] T (ans none (rrE T on kk)) := by
  iterate 1 refine e_sp rfl rfl rfl ?_
  refine e_cb 12 rfl rfl ?_
  refine e_icge rfl (fun h1 => ?_) (fun h1 => ?_)
  · rw [show rrE T on kk = rrF (rdS T 13) (rdV T 13) from if_pos h1]
    iterate 1 refine e_sp rfl rfl rfl ?_
    refine e_cb 13 rfl rfl ?_
    refine e_callV1 ok_R_read rfl lk_R_58 (by rfl) (by rfl) (k_R_read (n := 13) hT hc2 (by decide)) rfl rfl ⟨Nat.le_of_ble_eq_true rfl, Nat.le_of_ble_eq_true rfl⟩ ⟨Nat.zero_le _, Nat.zero_le _⟩ (Nat.le_of_ble_eq_true rfl) ?_
    generalize rdS T 13 = T2
    generalize rdV T 13 = rv
    iterate 3 refine e_sp rfl rfl rfl ?_
    refine e_ifeq rfl (fun h2 => ?_) (fun h2 => ?_)
    · iterate 3 refine e_sp rfl rfl rfl ?_
      refine e_ci 1 rfl rfl ?_
      iterate 5 refine e_sp rfl rfl rfl ?_
      refine e_icle rfl (fun h3 => ?_) (fun h3 => ?_)
      · iterate 6 refine e_sp rfl rfl rfl ?_
        refine e_callV0 ok_P_learn rfl lk_R_62 (by rfl) (by rfl) k_P_learn_19 rfl rfl ⟨Nat.le_of_ble_eq_true rfl, Nat.le_of_ble_eq_true rfl⟩ ⟨Nat.zero_le _, Nat.zero_le _⟩ (Nat.le_of_ble_eq_true rfl) ?_
        refine e_vret rfl rfl (Nat.le_refl _) (Nat.le_refl _) ?_
        exact ⟨rfl, by simp only [rrF, h2, h3, if_true, if_false]⟩
      · iterate 1 refine e_sp rfl rfl rfl ?_
        refine e_ci 2 rfl rfl ?_
        iterate 1 refine e_sp rfl rfl rfl ?_
        refine e_vret rfl rfl (Nat.le_refl _) (Nat.le_refl _) ?_
        exact ⟨rfl, by simp only [rrF, h2, h3, if_true, if_false]⟩
    · refine e_vret rfl rfl (Nat.le_refl _) (Nat.le_refl _) ?_
      exact ⟨rfl, by simp only [rrF, h2, if_true, if_false]⟩
  · rw [show rrE T on kk = rrF (rdS T kk) (nI on <<< (nI kk &&& 31) ||| rdV T kk) from if_neg h1]
    iterate 5 refine e_sp rfl rfl rfl ?_
    refine e_callV1 ok_R_read rfl lk_R_58 (by rfl) (by rfl) (k_R_read hT hc2 (Nat.lt_of_le_of_lt hkk (by decide))) rfl rfl ⟨Nat.le_of_ble_eq_true rfl, Nat.le_of_ble_eq_true rfl⟩ ⟨Nat.zero_le _, Nat.zero_le _⟩ (Nat.le_of_ble_eq_true rfl) ?_
    generalize rdS T kk = T2
    generalize rdV T kk = rv
    iterate 1 refine e_sp rfl rfl rfl ?_
    refine e_goto rfl ?_
    iterate 3 refine e_sp rfl rfl rfl ?_
    refine e_ifeq rfl (fun h4 => ?_) (fun h4 => ?_)
    · iterate 3 refine e_sp rfl rfl rfl ?_
      refine e_ci 1 rfl rfl ?_
      iterate 5 refine e_sp rfl rfl rfl ?_
      refine e_icle rfl (fun h5 => ?_) (fun h5 => ?_)
      · iterate 6 refine e_sp rfl rfl rfl ?_
        refine e_callV0 ok_P_learn rfl lk_R_62 (by rfl) (by rfl) k_P_learn_19 rfl rfl ⟨Nat.le_of_ble_eq_true rfl, Nat.le_of_ble_eq_true rfl⟩ ⟨Nat.zero_le _, Nat.zero_le _⟩ (Nat.le_of_ble_eq_true rfl) ?_
        refine e_vret rfl rfl (Nat.le_refl _) (Nat.le_refl _) ?_
        exact ⟨rfl, by simp only [rrF, h4, h5, if_true, if_false]⟩
      · iterate 1 refine e_sp rfl rfl rfl ?_
        refine e_ci 2 rfl rfl ?_
        iterate 1 refine e_sp rfl rfl rfl ?_
        refine e_vret rfl rfl (Nat.le_refl _) (Nat.le_refl _) ?_
        exact ⟨rfl, by simp only [rrF, h4, h5, if_true, if_false]⟩
    · refine e_vret rfl rfl (Nat.le_refl _) (Nat.le_refl _) ?_
      exact ⟨rfl, by simp only [rrF, h4, if_true, if_false]⟩
set_option maxHeartbeats 4000000 in
set_option maxRecDepth 40000 in
theorem k_R_readRun {l : Launch} {h : Nat} {S : St} {c : Nat} (hc : S.1 17 2 = nI c) (hc2 : c ≤ 3000) : KK l (SHm h) (3, 67) m_R_readRun [aR 17] S (ans none (rrS S)) := by
  refine k_start ok_R_readRun (Nat.le_of_ble_eq_true rfl) ?_
  have hS : rrS S = rrE (onS 12 S) (onC 12 S) (lowK (S.1 19 1) (S.1 19 0) 8 0) := rfl
  rw [hS]
  have hk8 : (lowK (S.1 19 1) (S.1 19 0) 8 0) ≤ 8 := lowK_le _ _ 8 0
  have h12 := onS_came 12 S
  rw [hc] at h12
  have L : ∀ (T0 : St) (on0 kk f i : Nat) (T : St), T0.1 17 2 = nI c → kk ≤ 8 → i + f = 12 → T.1 17 2 = nI c → onS f T = T0 → i + onC f T = on0 → ∀ z, E0 l (SHm h) (3, 67) m_R_readRun 10 [some (aR 17), some (aI (nI kk)), some (aI (nI i)), z] [] T (ans none (rrE T0 on0 kk)) := by
    intro T0 on0 kk f
    induction f with
    | zero =>
      intro i T hT0 hkk hi hT e1 e2 z
      have hi12 : i = 12 := by omega
      iterate 1 refine e_sp rfl rfl rfl ?_
      refine e_cb 12 rfl rfl ?_
      refine e_icge rfl (fun h1 => ?_) (fun h1 => absurd (by rw [hi12]; decide) h1)
      have e3 : T = T0 := e1
      have e4 : i = on0 := e2
      rw [e3, e4]
      exact k_R_readRunT hT0 hc2 hkk z
    | succ f ih =>
      intro i T hT0 hkk hi hT e1 e2 z
      iterate 1 refine e_sp rfl rfl rfl ?_
      refine e_cb 12 rfl rfl ?_
      refine e_icge rfl (fun h1 => absurd h1 (nI_ge (show i < 12 by omega) (by decide))) (fun h1 => ?_)
      iterate 1 refine e_sp rfl rfl rfl ?_
      refine e_callV1 ok_R_readBit rfl lk_R_55 (by rfl) (by rfl) (k_R_readBit hT hc2) rfl rfl ⟨Nat.le_of_ble_eq_true rfl, Nat.le_of_ble_eq_true rfl⟩ ⟨Nat.zero_le _, Nat.zero_le _⟩ (Nat.le_of_ble_eq_true rfl) ?_
      refine e_ci 1 rfl rfl ?_
      refine e_icne rfl (fun h2 => ?_) (fun h2 => ?_)
      · simp only [onS, onC, h2, if_false, Nat.add_zero] at e1 e2
        rw [e1, e2]
        exact k_R_readRunT hT0 hc2 hkk z
      · simp only [onS, onC, h2, if_true] at e1 e2
        refine e_inc 1 rfl rfl rfl rfl ?_
        refine e_goto rfl ?_
        rw [nI_1]
        exact ih (i + 1) (rbS T) hT0 hkk (by omega) ((rbS_came T).trans hT) e1 (by omega) z
  iterate 2 refine e_sp rfl rfl rfl ?_
  refine e_callV1 ok_P_lowBits rfl lk_R_51 (by rfl) (by rfl) k_P_lowBits_19 rfl rfl ⟨Nat.le_of_ble_eq_true rfl, Nat.le_of_ble_eq_true rfl⟩ ⟨Nat.zero_le _, Nat.zero_le _⟩ (Nat.le_of_ble_eq_true rfl) ?_
  iterate 1 refine e_sp rfl rfl rfl ?_
  refine e_ci 0 rfl rfl ?_
  iterate 1 refine e_sp rfl rfl rfl ?_
  exact L (onS 12 S) (onC 12 S) (lowK (S.1 19 1) (S.1 19 0) 8 0) 12 0 S h12 hk8 rfl hc rfl (Nat.zero_add _) none
set_option maxHeartbeats 4000000 in
set_option maxRecDepth 40000 in
theorem k_R_nextBit {l : Launch} {h : Nat} {S : St} {c : Nat} {f : Int32} (hc : S.1 17 2 = nI c) (hc2 : c ≤ 3000) : KK l (SHm h) (4, 90) m_R_nextBit [aR 17, aI f] S (ans (some (aI (nbV S f))) (nbS S)) := by
  refine k_start ok_R_nextBit (Nat.le_of_ble_eq_true rfl) ?_
  iterate 2 refine e_sp rfl rfl rfl ?_
  refine e_ci (-1) rfl rfl ?_
  refine e_icne rfl (fun h1 => ?_) (fun h1 => ?_)
  · simp only [nbV, nbS, nbT, h1, if_true, if_false]
    try generalize rrS S = T
    iterate 2 refine e_sp rfl rfl rfl ?_
    refine e_ifeq rfl (fun h2 => ?_) (fun h2 => ?_)
    · iterate 3 refine e_sp rfl rfl rfl ?_
      refine e_ci 1 rfl rfl ?_
      iterate 5 refine e_sp rfl rfl rfl ?_
      refine e_ci 1 rfl rfl ?_
      iterate 4 refine e_sp rfl rfl rfl ?_
      refine e_ci (-1) rfl rfl ?_
      refine e_icne rfl (fun h3 => ?_) (fun h3 => ?_)
      · iterate 1 refine e_sp rfl rfl rfl ?_
        refine e_iret rfl rfl (Nat.le_refl _) (Nat.le_refl _) ?_
        exact ⟨by simp only [nbE, nbU, h2, h3, if_true, if_false], by simp only [nbG, nbU, h2, h3, if_true, if_false]⟩
      · refine e_ci 1 rfl rfl ?_
        iterate 2 refine e_sp rfl rfl rfl ?_
        refine e_goto rfl ?_
        refine e_iret rfl rfl (Nat.le_refl _) (Nat.le_refl _) ?_
        exact ⟨by simp only [nbE, nbU, h2, h3, if_true, if_false], by simp only [nbG, nbU, h2, h3, if_true, if_false]⟩
    · refine e_ci 0 rfl rfl ?_
      refine e_iret rfl rfl (Nat.le_refl _) (Nat.le_refl _) ?_
      exact ⟨by simp only [nbE, nbU, h2, if_true, if_false], by simp only [nbG, nbU, h2, if_true, if_false]⟩
  · iterate 1 refine e_sp rfl rfl rfl ?_
    refine e_callV0 ok_R_readRun rfl lk_R_48 (by rfl) (by rfl) (k_R_readRun hc hc2) rfl rfl ⟨Nat.le_of_ble_eq_true rfl, Nat.le_of_ble_eq_true rfl⟩ ⟨Nat.zero_le _, Nat.zero_le _⟩ (Nat.le_of_ble_eq_true rfl) ?_
    simp only [nbV, nbS, nbT, h1, if_true, if_false]
    try generalize rrS S = T
    iterate 2 refine e_sp rfl rfl rfl ?_
    refine e_ifeq rfl (fun h4 => ?_) (fun h4 => ?_)
    · iterate 3 refine e_sp rfl rfl rfl ?_
      refine e_ci 1 rfl rfl ?_
      iterate 5 refine e_sp rfl rfl rfl ?_
      refine e_ci 1 rfl rfl ?_
      iterate 4 refine e_sp rfl rfl rfl ?_
      refine e_ci (-1) rfl rfl ?_
      refine e_icne rfl (fun h5 => ?_) (fun h5 => ?_)
      · iterate 1 refine e_sp rfl rfl rfl ?_
        refine e_iret rfl rfl (Nat.le_refl _) (Nat.le_refl _) ?_
        exact ⟨by simp only [nbE, nbU, h4, h5, if_true, if_false], by simp only [nbG, nbU, h4, h5, if_true, if_false]⟩
      · refine e_ci 1 rfl rfl ?_
        iterate 2 refine e_sp rfl rfl rfl ?_
        refine e_goto rfl ?_
        refine e_iret rfl rfl (Nat.le_refl _) (Nat.le_refl _) ?_
        exact ⟨by simp only [nbE, nbU, h4, h5, if_true, if_false], by simp only [nbG, nbU, h4, h5, if_true, if_false]⟩
    · refine e_ci 0 rfl rfl ?_
      refine e_iret rfl rfl (Nat.le_refl _) (Nat.le_refl _) ?_
      exact ⟨by simp only [nbE, nbU, h4, if_true, if_false], by simp only [nbG, nbU, h4, if_true, if_false]⟩
set_option maxHeartbeats 4000000 in
set_option maxRecDepth 40000 in
theorem k_R_isAllRead {l : Launch} {h : Nat} {S : St}  : KK l (SHm h) (1, 22) m_R_isAllRead [aR 17] S (ans (some (aI (arV S))) S) := by
  refine k_start ok_R_isAllRead (Nat.le_of_ble_eq_true rfl) ?_
  iterate 2 refine e_sp rfl rfl rfl ?_
  refine e_cb 7 rfl rfl ?_
  iterate 1 refine e_sp rfl rfl rfl ?_
  refine e_ci 3 rfl rfl ?_
  iterate 3 refine e_sp rfl rfl rfl ?_
  refine e_ci 1 rfl rfl ?_
  iterate 5 refine e_sp rfl rfl rfl ?_
  refine e_iclt rfl (fun h1 => ?_) (fun h1 => ?_)
  · refine e_ci 0 rfl rfl ?_
    refine e_zret rfl rfl (Nat.le_refl _) (Nat.le_refl _) (by decide) ?_
    exact ⟨by simp [arV, arD, h1], rfl⟩
  · iterate 1 refine e_sp rfl rfl rfl ?_
    refine e_ci 0 rfl rfl ?_
    iterate 2 refine e_sp rfl rfl rfl ?_
    refine e_alen rfl (by first | rfl | assumption) (by decide) ?_
    refine e_ci 1 rfl rfl ?_
    iterate 1 refine e_sp rfl rfl rfl ?_
    refine e_callN1 ok_H_isWithin rfl lk_R_26 k_H_isWithin rfl rfl ⟨Nat.le_of_ble_eq_true rfl, Nat.le_of_ble_eq_true rfl⟩ ⟨Nat.zero_le _, Nat.zero_le _⟩ (Nat.le_of_ble_eq_true rfl) ?_
    refine e_ifne rfl (fun h2 => ?_) (fun h2 => ?_)
    · iterate 1 refine e_sp rfl rfl rfl ?_
      refine e_ci 3 rfl rfl ?_
      iterate 8 refine e_sp rfl rfl rfl ?_
      refine e_bald rfl (by first | rfl | assumption) (by exact wi_in (by decide) (by assumption)) ?_
      refine e_ci 1 rfl rfl ?_
      iterate 2 refine e_sp rfl rfl rfl ?_
      refine e_ci 1 rfl rfl ?_
      iterate 2 refine e_sp rfl rfl rfl ?_
      refine e_ifne rfl (fun h3 => ?_) (fun h3 => ?_)
      · refine e_ci 0 rfl rfl ?_
        refine e_zret rfl rfl (Nat.le_refl _) (Nat.le_refl _) (by decide) ?_
        exact ⟨by simp [arV, arD, h1, h2, h3], rfl⟩
      · refine e_ci 1 rfl rfl ?_
        refine e_goto rfl ?_
        refine e_zret rfl rfl (Nat.le_refl _) (Nat.le_refl _) (by decide) ?_
        exact ⟨by simp [arV, arD, h1, h2, h3], rfl⟩
    · refine e_ci 0 rfl rfl ?_
      refine e_zret rfl rfl (Nat.le_refl _) (Nat.le_refl _) (by decide) ?_
      exact ⟨by simp [arV, arD, h1, h2], rfl⟩
set_option maxHeartbeats 4000000 in
set_option maxRecDepth 40000 in
theorem k_R_endT {l : Launch} {h : Nat} {T : St} : E0 l (SHm h) (4, 90) m_R_end 19 [some (aR 17)] [] T (ans none (edE T)) := by
  iterate 2 refine e_sp rfl rfl rfl ?_
  refine e_ifne rfl (fun h1 => ?_) (fun h1 => ?_)
  · refine e_vret rfl rfl (Nat.le_refl _) (Nat.le_refl _) ?_
    exact ⟨rfl, by simp only [edE, h1, if_true, if_false]⟩
  · iterate 1 refine e_sp rfl rfl rfl ?_
    refine e_callV1 ok_R_isAllRead rfl lk_R_72 (by rfl) (by rfl) k_R_isAllRead rfl rfl ⟨Nat.le_of_ble_eq_true rfl, Nat.le_of_ble_eq_true rfl⟩ ⟨Nat.zero_le _, Nat.zero_le _⟩ (Nat.le_of_ble_eq_true rfl) ?_
    refine e_ifne rfl (fun h2 => ?_) (fun h2 => ?_)
    · refine e_vret rfl rfl (Nat.le_refl _) (Nat.le_refl _) ?_
      exact ⟨rfl, by simp only [edE, h1, h2, if_true, if_false]⟩
    · iterate 1 refine e_sp rfl rfl rfl ?_
      refine e_ci 3 rfl rfl ?_
      iterate 1 refine e_sp rfl rfl rfl ?_
      refine e_vret rfl rfl (Nat.le_refl _) (Nat.le_refl _) ?_
      exact ⟨rfl, by simp only [edE, h1, h2, if_true, if_false]⟩
set_option maxHeartbeats 4000000 in
set_option maxRecDepth 40000 in
theorem k_R_end {l : Launch} {h : Nat} {S : St} {c : Nat} (hc : S.1 17 2 = nI c) (hc2 : c ≤ 3000) : KK l (SHm h) (4, 90) m_R_end [aR 17] S (ans none (edS S)) := by
  refine k_start ok_R_end (Nat.le_of_ble_eq_true rfl) ?_
  iterate 2 refine e_sp rfl rfl rfl ?_
  refine e_ifne rfl (fun h1 => ?_) (fun h1 => ?_)
  · try dsimp only
    simp only [edS, edT, h1, if_true, if_false]
    try generalize rrS S = T
    exact k_R_endT
  · iterate 2 refine e_sp rfl rfl rfl ?_
    refine e_ci (-1) rfl rfl ?_
    refine e_icne rfl (fun h2 => ?_) (fun h2 => ?_)
    · try dsimp only
      simp only [edS, edT, h1, h2, if_true, if_false]
      try generalize rrS S = T
      exact k_R_endT
    · iterate 1 refine e_sp rfl rfl rfl ?_
      refine e_callV0 ok_R_readRun rfl lk_R_48 (by rfl) (by rfl) (k_R_readRun hc hc2) rfl rfl ⟨Nat.le_of_ble_eq_true rfl, Nat.le_of_ble_eq_true rfl⟩ ⟨Nat.zero_le _, Nat.zero_le _⟩ (Nat.le_of_ble_eq_true rfl) ?_
      try dsimp only
      simp only [edS, edT, h1, h2, if_true, if_false]
      try generalize rrS S = T
      exact k_R_endT
end
section
/-! all places, row by row -/
def pI {σ : Type} (f : Nat → Nat → σ → σ) (j : Nat) : Nat → σ → σ
  | 0, s => s
  | i + 1, s => f i j (pI f j i s)
def pO {σ : Type} (f : Nat → Nat → σ → σ) (c : Nat) : Nat → σ → σ
  | 0, s => s
  | j + 1, s => pI f j c (pO f c j s)
theorem pI_inv {σ : Type} {f : Nat → Nat → σ → σ} {j : Nat} (I : σ → Prop) (hf : ∀ i s, I s → I (f i j s)) : ∀ i s, I s → I (pI f j i s)
  | 0, _, h => h
  | i + 1, s, h => hf i _ (pI_inv I hf i s h)
theorem pO_inv {σ : Type} {f : Nat → Nat → σ → σ} {c : Nat} (I : σ → Prop) (hf : ∀ i j s, I s → I (f i j s)) : ∀ j s, I s → I (pO f c j s)
  | 0, _, h => h
  | j + 1, s, h => pI_inv I (fun i => hf i j) c _ (pO_inv I hf j s h)
/-! HalftoneRegions, inside -/
def ouH (S : St) (i j : Int32) : Int32 := if S.1 0 0 ≤ lfL S i j then 1 else if lfL S i j + S.1 5 1 ≤ 0 then 1 else if S.1 0 1 ≤ tpL S i j then 1 else if 0 < tpL S i j + S.1 5 2 then 0 else 1
def skH (S : St) (i j : Int32) : Int32 := if S.1 0 13 = 1 then (if ouH S i j = 0 then 0 else 1) else 0
def poF (S : St) (i j : Nat) (a : Int32) : Int32 := if ouH S (nI i) (nI j) = 0 then a else a + 1
def poH (S : St) (c r : Nat) : Int32 := pO (poF S) c r 0
def cwR (S : St) (w : Int32) : Int32 := if w = 0 then S.1 0 11 else if w = 1 then S.1 0 12 else S.1 0 13
def cwS9 (S : St) (w v : Int32) : St := if w = 0 then puI S 0 11 v else if w = 1 then puI S 0 12 v else puI S 0 13 v
def cuH (S : St) (x : Int32) : Int32 := mvd ((1 : Int32) <<< (S.1 5 1 &&& 31) - 1) x &&& S.1 1 1
def coH (o line laid cols : Int32) : Int32 := if o = 1 then line &&& (laid ||| (cols ^^^ (-1))) else if o = 2 then line ^^^ laid else if o = 3 then line ^^^ laid ^^^ cols else if o = 4 then line &&& (cols ^^^ (-1)) ||| laid else line ||| laid
/-- the rows that a pattern covers: the first, and behind the last -/
def raH (S : St) (i j : Int32) : Nat := (if 0 < tpL S i j then tpL S i j else 0).toNatClampNeg
def rbH (S : St) (i j : Int32) : Nat := (if tpL S i j + S.1 5 2 < S.1 0 1 then tpL S i j + S.1 5 2 else S.1 0 1).toNatClampNeg
def duA (S : St) (h : Nat) (cols : Int32) (a : Nat) : Nat → Int32
  | 0 => 0
  | n + 1 => duA S h cols a n + bcI (lnS S 2 h (nI (a + n)) &&& cols)
def duH (S : St) (h : Nat) (i j : Int32) : Int32 := if ouH S i j = 0 then duA S h (cuH S (lfL S i j)) (raH S i j) (rbH S i j - raH S i j) else 0
def la1 (S : St) (h : Nat) (pat left top cols y : Int32) : St := clS S 4 h (S.1 3 1) y (coH (S.1 0 11) (lnS S 4 h y) (mvd (liB S pat (y - top)) left &&& cols) cols)
def laA (S : St) (h : Nat) (pat left top cols : Int32) (a : Nat) : Nat → St
  | 0 => S
  | n + 1 => la1 (laA S h pat left top cols a n) h pat left top cols (nI (a + n))
def laH (S : St) (h : Nat) (i j : Int32) : St := laA S h (grL S i j) (lfL S i j) (tpL S i j) (cuH S (lfL S i j)) (raH S i j) (rbH S i j - raH S i j)
theorem clS_o (S : St) (q h : Nat) (mk y b : Int32) (o : Nat) (ho : o ≠ q) : (clS S q h mk y b).1 o = S.1 o ∧ (clS S q h mk y b).2 = S.2 := by
  unfold clS
  split
  · exact ⟨rfl, rfl⟩
  · exact ⟨pt_n ho, rfl⟩
theorem laA_o (S : St) (h : Nat) (pat left top cols : Int32) (a o : Nat) (ho : o ≠ 4) : ∀ n, (laA S h pat left top cols a n).1 o = S.1 o ∧ (laA S h pat left top cols a n).2 = S.2
  | 0 => ⟨rfl, rfl⟩
  | n + 1 => by
    obtain ⟨e1, e2⟩ := laA_o S h pat left top cols a o ho n
    obtain ⟨e3, e4⟩ := clS_o (laA S h pat left top cols a n) 4 h ((laA S h pat left top cols a n).1 3 1) (nI (a + n)) (coH ((laA S h pat left top cols a n).1 0 11) (lnS (laA S h pat left top cols a n) 4 h (nI (a + n))) (mvd (liB (laA S h pat left top cols a n) pat (nI (a + n) - top)) left &&& cols) cols) o ho
    exact ⟨e3.trans e1, e4.trans e2⟩
theorem ou_0 {S : St} {i j : Int32} (h : ouH S i j = 0) : ¬ S.1 0 0 ≤ lfL S i j ∧ ¬ lfL S i j + S.1 5 1 ≤ 0 ∧ ¬ S.1 0 1 ≤ tpL S i j ∧ 0 < tpL S i j + S.1 5 2 := by
  unfold ouH at h
  by_cases h1 : S.1 0 0 ≤ lfL S i j
  · rw [if_pos h1] at h; exact absurd h (by decide)
  rw [if_neg h1] at h
  by_cases h2 : lfL S i j + S.1 5 1 ≤ 0
  · rw [if_pos h2] at h; exact absurd h (by decide)
  rw [if_neg h2] at h
  by_cases h3 : S.1 0 1 ≤ tpL S i j
  · rw [if_pos h3] at h; exact absurd h (by decide)
  rw [if_neg h3] at h
  by_cases h4 : 0 < tpL S i j + S.1 5 2
  · exact ⟨h1, h2, h3, h4⟩
  · rw [if_neg h4] at h; exact absurd h (by decide)
theorem ra_nI (S : St) (i j : Int32) : (if 0 < tpL S i j then tpL S i j else 0) = nI (raH S i j) ∧ raH S i j < 2 ^ 31 := by
  unfold raH
  refine nI_tn ?_
  split
  next h => exact fun h2 => absurd (Int32.lt_trans h h2) (by decide)
  next => decide
theorem rb_nI {S : St} {i j : Int32} {hh : Nat} (h0 : S.1 0 1 = nI hh) (h1 : hh < 2 ^ 31) (h : ouH S i j = 0) : (if tpL S i j + S.1 5 2 < S.1 0 1 then tpL S i j + S.1 5 2 else S.1 0 1) = nI (rbH S i j) ∧ rbH S i j < 2 ^ 31 := by
  unfold rbH
  refine nI_tn ?_
  split
  · exact fun h2 => absurd (Int32.lt_trans (ou_0 h).2.2.2 h2) (by decide)
  · rw [h0]; exact nI_pos h1
set_option maxHeartbeats 4000000 in
set_option maxRecDepth 40000 in
theorem k_H_isOutside {l : Launch} {h : Nat} {S : St} {i j : Int32}  : KK l (SHm h) (1, 22) m_H_isOutside [aR 0, aI i, aI j] S (ans (some (aI (ouH S i j))) S) := by
  refine k_start ok_H_isOutside (Nat.le_of_ble_eq_true rfl) ?_
  iterate 4 refine e_sp rfl rfl rfl ?_
  refine e_callV1 ok_L_leftOf rfl lk_H_156 (by rfl) (by rfl) k_L_leftOf rfl rfl ⟨Nat.le_of_ble_eq_true rfl, Nat.le_of_ble_eq_true rfl⟩ ⟨Nat.zero_le _, Nat.zero_le _⟩ (Nat.le_of_ble_eq_true rfl) ?_
  iterate 5 refine e_sp rfl rfl rfl ?_
  refine e_callV1 ok_L_topOf rfl lk_H_159 (by rfl) (by rfl) k_L_topOf rfl rfl ⟨Nat.le_of_ble_eq_true rfl, Nat.le_of_ble_eq_true rfl⟩ ⟨Nat.zero_le _, Nat.zero_le _⟩ (Nat.le_of_ble_eq_true rfl) ?_
  iterate 4 refine e_sp rfl rfl rfl ?_
  refine e_icge rfl (fun h1 => ?_) (fun h1 => ?_)
  · refine e_ci 1 rfl rfl ?_
    refine e_goto rfl ?_
    refine e_zret rfl rfl (Nat.le_refl _) (Nat.le_refl _) (by decide) ?_
    exact ⟨by simp [ouH, h1], rfl⟩
  · iterate 5 refine e_sp rfl rfl rfl ?_
    refine e_ifle rfl (fun h2 => ?_) (fun h2 => ?_)
    · refine e_ci 1 rfl rfl ?_
      refine e_goto rfl ?_
      refine e_zret rfl rfl (Nat.le_refl _) (Nat.le_refl _) (by decide) ?_
      exact ⟨by simp [ouH, h1, h2], rfl⟩
    · iterate 3 refine e_sp rfl rfl rfl ?_
      refine e_icge rfl (fun h3 => ?_) (fun h3 => ?_)
      · refine e_ci 1 rfl rfl ?_
        refine e_goto rfl ?_
        refine e_zret rfl rfl (Nat.le_refl _) (Nat.le_refl _) (by decide) ?_
        exact ⟨by simp [ouH, h1, h2, h3], rfl⟩
      · iterate 5 refine e_sp rfl rfl rfl ?_
        refine e_ifgt rfl (fun h4 => ?_) (fun h4 => ?_)
        · refine e_ci 0 rfl rfl ?_
          refine e_zret rfl rfl (Nat.le_refl _) (Nat.le_refl _) (by decide) ?_
          exact ⟨by simp [ouH, h1, h2, h3, h4], rfl⟩
        · refine e_ci 1 rfl rfl ?_
          refine e_goto rfl ?_
          refine e_zret rfl rfl (Nat.le_refl _) (Nat.le_refl _) (by decide) ?_
          exact ⟨by simp [ouH, h1, h2, h3, h4], rfl⟩
set_option maxHeartbeats 4000000 in
set_option maxRecDepth 40000 in
theorem k_H_isSkipped {l : Launch} {h : Nat} {S : St} {i j : Int32}  : KK l (SHm h) (2, 46) m_H_isSkipped [aR 0, aI i, aI j] S (ans (some (aI (skH S i j))) S) := by
  refine k_start ok_H_isSkipped (Nat.le_of_ble_eq_true rfl) ?_
  iterate 2 refine e_sp rfl rfl rfl ?_
  refine e_ci 1 rfl rfl ?_
  refine e_icne rfl (fun h1 => ?_) (fun h1 => ?_)
  · refine e_ci 0 rfl rfl ?_
    refine e_zret rfl rfl (Nat.le_refl _) (Nat.le_refl _) (by decide) ?_
    exact ⟨by simp [skH, h1], rfl⟩
  · iterate 3 refine e_sp rfl rfl rfl ?_
    refine e_callV1 ok_H_isOutside rfl lk_H_162 (by rfl) (by rfl) k_H_isOutside rfl rfl ⟨Nat.le_of_ble_eq_true rfl, Nat.le_of_ble_eq_true rfl⟩ ⟨Nat.zero_le _, Nat.zero_le _⟩ (Nat.le_of_ble_eq_true rfl) ?_
    refine e_ifeq rfl (fun h2 => ?_) (fun h2 => ?_)
    · refine e_ci 0 rfl rfl ?_
      refine e_zret rfl rfl (Nat.le_refl _) (Nat.le_refl _) (by decide) ?_
      exact ⟨by simp [skH, h1, h2], rfl⟩
    · refine e_ci 1 rfl rfl ?_
      refine e_goto rfl ?_
      refine e_zret rfl rfl (Nat.le_refl _) (Nat.le_refl _) (by decide) ?_
      exact ⟨by simp [skH, h1, h2], rfl⟩
set_option maxHeartbeats 4000000 in
set_option maxRecDepth 40000 in
theorem k_H_changeWay {l : Launch} {h : Nat} {S : St} {w v : Int32}  : KK l (SHm h) (0, 0) m_H_changeWay [aR 0, aI w, aI v] S (ans (some (aI (cwR S w))) (cwS9 S w v)) := by
  refine k_start ok_H_changeWay (Nat.le_of_ble_eq_true rfl) ?_
  iterate 1 refine e_sp rfl rfl rfl ?_
  refine e_ifne rfl (fun h1 => ?_) (fun h1 => ?_)
  · iterate 1 refine e_sp rfl rfl rfl ?_
    refine e_ci 1 rfl rfl ?_
    refine e_icne rfl (fun h2 => ?_) (fun h2 => ?_)
    · iterate 7 refine e_sp rfl rfl rfl ?_
      refine e_iret rfl rfl (Nat.le_refl _) (Nat.le_refl _) ?_
      exact ⟨by simp [cwR, h1, h2], by simp [cwS9, h1, h2]⟩
    · iterate 6 refine e_sp rfl rfl rfl ?_
      refine e_goto rfl ?_
      iterate 1 refine e_sp rfl rfl rfl ?_
      refine e_iret rfl rfl (Nat.le_refl _) (Nat.le_refl _) ?_
      exact ⟨by simp [cwR, h1, h2], by simp [cwS9, h1, h2]⟩
  · iterate 6 refine e_sp rfl rfl rfl ?_
    refine e_goto rfl ?_
    iterate 1 refine e_sp rfl rfl rfl ?_
    refine e_iret rfl rfl (Nat.le_refl _) (Nat.le_refl _) ?_
    exact ⟨by simp [cwR, h1], by simp [cwS9, h1]⟩
set_option maxHeartbeats 4000000 in
set_option maxRecDepth 40000 in
theorem k_H_columnsUnder {l : Launch} {h : Nat} {S : St} {x : Int32}  : KK l (SHm h) (1, 21) m_H_columnsUnder [aR 0, aI x] S (ans (some (aI (cuH S x))) S) := by
  refine k_start ok_H_columnsUnder (Nat.le_of_ble_eq_true rfl) ?_
  refine e_ci 1 rfl rfl ?_
  iterate 4 refine e_sp rfl rfl rfl ?_
  refine e_ci 1 rfl rfl ?_
  iterate 2 refine e_sp rfl rfl rfl ?_
  refine e_callS1 ok_H_moved rfl lk_H_315 k_H_moved rfl rfl ⟨Nat.le_of_ble_eq_true rfl, Nat.le_of_ble_eq_true rfl⟩ ⟨Nat.zero_le _, Nat.zero_le _⟩ (Nat.le_of_ble_eq_true rfl) ?_
  iterate 4 refine e_sp rfl rfl rfl ?_
  refine e_iret rfl rfl (Nat.le_refl _) (Nat.le_refl _) ?_
  exact ⟨rfl, rfl⟩
set_option maxHeartbeats 4000000 in
set_option maxRecDepth 40000 in
theorem k_H_combined {l : Launch} {h : Nat} {S : St} {a b c : Int32} : KK l (SHm h) (0, 0) m_H_combined [aR 0, aI a, aI b, aI c] S (ans (some (aI (coH (S.1 0 11) a b c))) S) := by
  refine k_start ok_H_combined (Nat.le_of_ble_eq_true rfl) ?_
  iterate 2 refine e_sp rfl rfl rfl ?_
  by_cases h1 : S.1 0 11 = 1
  · rw [h1]
    refine e_tswI (off := 32) (tgt := 36) rfl (by decide) (by decide) (by decide) (by decide) ?_
    iterate 3 refine e_sp rfl rfl rfl ?_
    refine e_ci (-1) rfl rfl ?_
    iterate 3 refine e_sp rfl rfl rfl ?_
    refine e_iret rfl rfl (Nat.le_refl _) (Nat.le_refl _) ?_
    exact ⟨by simp [coH], rfl⟩
  by_cases h2 : S.1 0 11 = 2
  · rw [h2]
    refine e_tswI (off := 40) (tgt := 44) rfl (by decide) (by decide) (by decide) (by decide) ?_
    iterate 3 refine e_sp rfl rfl rfl ?_
    refine e_iret rfl rfl (Nat.le_refl _) (Nat.le_refl _) ?_
    exact ⟨by simp [coH, h1], rfl⟩
  by_cases h3 : S.1 0 11 = 3
  · rw [h3]
    refine e_tswI (off := 44) (tgt := 48) rfl (by decide) (by decide) (by decide) (by decide) ?_
    iterate 5 refine e_sp rfl rfl rfl ?_
    refine e_iret rfl rfl (Nat.le_refl _) (Nat.le_refl _) ?_
    exact ⟨by simp [coH, h1, h2], rfl⟩
  by_cases h4 : S.1 0 11 = 4
  · rw [h4]
    refine e_tswI (off := 50) (tgt := 54) rfl (by decide) (by decide) (by decide) (by decide) ?_
    iterate 2 refine e_sp rfl rfl rfl ?_
    refine e_ci (-1) rfl rfl ?_
    iterate 4 refine e_sp rfl rfl rfl ?_
    refine e_iret rfl rfl (Nat.le_refl _) (Nat.le_refl _) ?_
    exact ⟨by simp [coH, h1, h2, h3], rfl⟩
  have hn : ∀ k : Int32, ¬ S.1 0 11 = k → (S.1 0 11).toInt ≠ k.toInt := fun k hk e => hk (Int32.toInt_inj.mp e)
  have g1 := hn 1 h1
  have g2 := hn 2 h2
  have g3 := hn 3 h3
  have g4 := hn 4 h4
  rw [show (1 : Int32).toInt = 1 from rfl] at g1
  rw [show (2 : Int32).toInt = 2 from rfl] at g2
  rw [show (3 : Int32).toInt = 3 from rfl] at g3
  rw [show (4 : Int32).toInt = 4 from rfl] at g4
  refine e_tswO (tgt := 62) rfl (by omega) (by decide) ?_
  iterate 3 refine e_sp rfl rfl rfl ?_
  refine e_iret rfl rfl (Nat.le_refl _) (Nat.le_refl _) ?_
  exact ⟨by simp [coH, h1, h2, h3, h4], rfl⟩
set_option maxHeartbeats 4000000 in
set_option maxRecDepth 40000 in
theorem k_H_placesOutside {l : Launch} {h : Nat} {S : St} {c r : Nat} (hc : S.1 7 1 = nI c) (hr : S.1 7 2 = nI r) (hc2 : c < 2 ^ 31) (hr2 : r < 2 ^ 31) : KK l (SHm h) (2, 46) m_H_placesOutside [aR 0] S (ans (some (aI (poH S c r))) S) := by
  refine k_start ok_H_placesOutside (Nat.le_of_ble_eq_true rfl) ?_
  have L1 := e_for (P := fun j => ∀ z3, E0 l (SHm h) (2, 46) m_H_placesOutside 4 [some (aR 0), some (aI (pO (poF S) c j 0)), some (aI (nI j)), z3] [] (S) (ans (some (aI (poH S c r))) S)) (r) (by
      intro z3
      iterate 4 refine e_sp rfl rfl rfl ?_
      refine e_icge rfl (fun h1 => ?_) (fun h1 => ?_)
      · iterate 1 refine e_sp rfl rfl rfl ?_
        refine e_iret rfl rfl (Nat.le_refl _) (Nat.le_refl _) ?_
        exact ⟨rfl, rfl⟩
      · try dsimp only
        rw [hr] at h1
        exact absurd (nI_le (Nat.le_refl _) hr2) h1) (fun j hj ihj => by
      intro z3
      iterate 4 refine e_sp rfl rfl rfl ?_
      refine e_icge rfl (fun h1 => ?_) (fun h1 => ?_)
      · try dsimp only
        rw [hr] at h1
        exact absurd h1 (nI_ge hj hr2)
      · refine e_ci 0 rfl rfl ?_
        iterate 1 refine e_sp rfl rfl rfl ?_
        try dsimp only
        have L2 := e_for (P := fun i => E0 l (SHm h) (2, 46) m_H_placesOutside 17 [some (aR 0), some (aI (pI (poF S) j i (pO (poF S) c j 0))), some (aI (nI j)), some (aI (nI i))] [] (S) (ans (some (aI (poH S c r))) S)) (c) (by
            iterate 4 refine e_sp rfl rfl rfl ?_
            refine e_icge rfl (fun h1 => ?_) (fun h1 => ?_)
            · refine e_inc 1 rfl rfl rfl rfl ?_
              refine e_goto rfl ?_
              try dsimp only
              rw [nI_1]
              exact ihj _
            · try dsimp only
              rw [hc] at h1
              exact absurd (nI_le (Nat.le_refl _) hc2) h1) (fun i hi ihi => by
            iterate 4 refine e_sp rfl rfl rfl ?_
            refine e_icge rfl (fun h1 => ?_) (fun h1 => ?_)
            · try dsimp only
              rw [hc] at h1
              exact absurd h1 (nI_ge hi hc2)
            · iterate 3 refine e_sp rfl rfl rfl ?_
              refine e_callV1 ok_H_isOutside rfl lk_H_162 (by rfl) (by rfl) k_H_isOutside rfl rfl ⟨Nat.le_of_ble_eq_true rfl, Nat.le_of_ble_eq_true rfl⟩ ⟨Nat.zero_le _, Nat.zero_le _⟩ (Nat.le_of_ble_eq_true rfl) ?_
              refine e_ifeq rfl (fun h2 => ?_) (fun h2 => ?_)
              · refine e_inc 1 rfl rfl rfl rfl ?_
                refine e_goto rfl ?_
                try dsimp only
                rw [nI_1]
                simp only [pI, poF, h2, if_true, if_false] at ihi
                exact ihi
              · refine e_inc 1 rfl rfl rfl rfl ?_
                refine e_inc 1 rfl rfl rfl rfl ?_
                refine e_goto rfl ?_
                try dsimp only
                rw [nI_1]
                simp only [pI, poF, h2, if_true, if_false] at ihi
                exact ihi)
        exact L2)
  refine e_ci 0 rfl rfl ?_
  iterate 1 refine e_sp rfl rfl rfl ?_
  refine e_ci 0 rfl rfl ?_
  iterate 1 refine e_sp rfl rfl rfl ?_
  try dsimp only
  exact L1 _
set_option maxHeartbeats 4000000 in
set_option maxRecDepth 40000 in
theorem k_H_darkUnder {l : Launch} {h : Nat} {S : St} {i j : Int32} (hh : h < 2 ^ 31) (h0 : S.1 0 1 = nI h) : KK l (SHm h) (2, 46) m_H_darkUnder [aR 0, aI i, aI j] S (ans (some (aI (duH S h i j))) S) := by
  refine k_start ok_H_darkUnder (Nat.le_of_ble_eq_true rfl) ?_
  have k2 : ouH S i j = 0 → E0 l (SHm h) (2, 46) m_H_darkUnder 11 (lvIn [aR 0, aI i, aI j] 7) [] S (ans (some (aI (duH S h i j))) S) := by
    intro hou
    obtain ⟨ha, ha2⟩ := ra_nI S i j
    obtain ⟨hb, hb2⟩ := rb_nI h0 hh hou
    have hle : nI (rbH S i j) ≤ nI ((raH S i j) + ((rbH S i j) - (raH S i j))) := nI_le (by omega) (by omega)
    have hge : ∀ n, n < (rbH S i j) - (raH S i j) → ¬ nI (rbH S i j) ≤ nI ((raH S i j) + n) := fun n hn => nI_ge (by omega) hb2
    have L := e_for (P := fun n => E0 l (SHm h) (2, 46) m_H_darkUnder 46 [some (aR 0), some (aI i), some (aI j), some (aI (tpL S i j)), some (aI (cuH S (lfL S i j))), some (aI (duA S h (cuH S (lfL S i j)) (raH S i j) n)), some (aI (nI ((raH S i j) + n)))] [] (S) (ans (some (aI (duH S h i j))) S)) ((rbH S i j) - (raH S i j)) (by
        iterate 8 refine e_sp rfl rfl rfl ?_
        refine e_mmin rfl mm_H_9 (Nat.le_of_ble_eq_true rfl) (Nat.le_of_ble_eq_true rfl) ⟨Nat.zero_le _, Nat.zero_le _⟩ ?_
        refine e_icge rfl (fun h1 => ?_) (fun h1 => ?_)
        · iterate 1 refine e_sp rfl rfl rfl ?_
          refine e_iret rfl rfl (Nat.le_refl _) (Nat.le_refl _) ?_
          exact ⟨by rw [duH, if_pos hou], rfl⟩
        · try dsimp only
          rw [hb] at h1
          exact absurd (hle) h1) (fun n hn ihn => by
        iterate 8 refine e_sp rfl rfl rfl ?_
        refine e_mmin rfl mm_H_9 (Nat.le_of_ble_eq_true rfl) (Nat.le_of_ble_eq_true rfl) ⟨Nat.zero_le _, Nat.zero_le _⟩ ?_
        refine e_icge rfl (fun h1 => ?_) (fun h1 => ?_)
        · try dsimp only
          rw [hb] at h1
          exact absurd h1 (hge n hn)
        · iterate 4 refine e_sp rfl rfl rfl ?_
          refine e_callV1 ok_S_line rfl lk_H_189 (by rfl) (by rfl) (k_S_line_1 hh) rfl rfl ⟨Nat.le_of_ble_eq_true rfl, Nat.le_of_ble_eq_true rfl⟩ ⟨Nat.zero_le _, Nat.zero_le _⟩ (Nat.le_of_ble_eq_true rfl) ?_
          iterate 2 refine e_sp rfl rfl rfl ?_
          refine e_callS1 ok_JI_bitCount rfl lk_H_310 k_JI_bitCount rfl rfl ⟨Nat.le_of_ble_eq_true rfl, Nat.le_of_ble_eq_true rfl⟩ ⟨Nat.zero_le _, Nat.zero_le _⟩ (Nat.le_of_ble_eq_true rfl) ?_
          iterate 2 refine e_sp rfl rfl rfl ?_
          refine e_inc 1 rfl rfl rfl rfl ?_
          refine e_goto rfl ?_
          try dsimp only
          rw [nI_1]
          exact ihn)
    iterate 4 refine e_sp rfl rfl rfl ?_
    refine e_callV1 ok_L_topOf rfl lk_H_159 (by rfl) (by rfl) k_L_topOf rfl rfl ⟨Nat.le_of_ble_eq_true rfl, Nat.le_of_ble_eq_true rfl⟩ ⟨Nat.zero_le _, Nat.zero_le _⟩ (Nat.le_of_ble_eq_true rfl) ?_
    iterate 6 refine e_sp rfl rfl rfl ?_
    refine e_callV1 ok_L_leftOf rfl lk_H_156 (by rfl) (by rfl) k_L_leftOf rfl rfl ⟨Nat.le_of_ble_eq_true rfl, Nat.le_of_ble_eq_true rfl⟩ ⟨Nat.zero_le _, Nat.zero_le _⟩ (Nat.le_of_ble_eq_true rfl) ?_
    refine e_callV1 ok_H_columnsUnder rfl lk_H_307 (by rfl) (by rfl) k_H_columnsUnder rfl rfl ⟨Nat.le_of_ble_eq_true rfl, Nat.le_of_ble_eq_true rfl⟩ ⟨Nat.zero_le _, Nat.zero_le _⟩ (Nat.le_of_ble_eq_true rfl) ?_
    iterate 1 refine e_sp rfl rfl rfl ?_
    refine e_ci 0 rfl rfl ?_
    iterate 1 refine e_sp rfl rfl rfl ?_
    refine e_ci 0 rfl rfl ?_
    iterate 1 refine e_sp rfl rfl rfl ?_
    refine e_mmax rfl mm_H_15 (Nat.le_of_ble_eq_true rfl) (Nat.le_of_ble_eq_true rfl) ⟨Nat.zero_le _, Nat.zero_le _⟩ ?_
    iterate 1 refine e_sp rfl rfl rfl ?_
    try dsimp only
    rw [ha]
    exact L
  iterate 3 refine e_sp rfl rfl rfl ?_
  refine e_callV1 ok_H_isOutside rfl lk_H_162 (by rfl) (by rfl) k_H_isOutside rfl rfl ⟨Nat.le_of_ble_eq_true rfl, Nat.le_of_ble_eq_true rfl⟩ ⟨Nat.zero_le _, Nat.zero_le _⟩ (Nat.le_of_ble_eq_true rfl) ?_
  refine e_ifeq rfl (fun h1 => ?_) (fun h1 => ?_)
  · try dsimp only
    have hou := h1
    exact k2 hou
  · refine e_ci 0 rfl rfl ?_
    refine e_iret rfl rfl (Nat.le_refl _) (Nat.le_refl _) ?_
    exact ⟨by rw [duH, if_neg h1], rfl⟩
set_option maxHeartbeats 4000000 in
set_option maxRecDepth 40000 in
theorem k_H_layPattern {l : Launch} {h : Nat} {S : St} {i j : Int32} (hh : h < 2 ^ 31) (h0 : S.1 0 1 = nI h) (hou : ouH S i j = 0) : KK l (SHm h) (3, 67) m_H_layPattern [aR 0, aI i, aI j] S (ans none (laH S h i j)) := by
  refine k_start ok_H_layPattern (Nat.le_of_ble_eq_true rfl) ?_
  obtain ⟨ha, ha2⟩ := ra_nI S i j
  obtain ⟨hb, hb2⟩ := rb_nI h0 hh hou
  have hle : nI (rbH S i j) ≤ nI ((raH S i j) + ((rbH S i j) - (raH S i j))) := nI_le (by omega) (by omega)
  have hge : ∀ n, n < (rbH S i j) - (raH S i j) → ¬ nI (rbH S i j) ≤ nI ((raH S i j) + n) := fun n hn => nI_ge (by omega) hb2
  have L := e_for (P := fun n => ∀ z8, E0 l (SHm h) (3, 67) m_H_layPattern 47 [some (aR 0), some (aI i), some (aI j), some (aI (lfL S i j)), some (aI (tpL S i j)), some (aI (cuH S (lfL S i j))), some (aI (grL S i j)), some (aI (nI ((raH S i j) + n))), z8] [] ((laA S h (grL S i j) (lfL S i j) (tpL S i j) (cuH S (lfL S i j)) (raH S i j) n)) (ans none (laH S h i j))) ((rbH S i j) - (raH S i j)) (by
      intro z8
      iterate 8 refine e_sp rfl rfl rfl ?_
      refine e_mmin rfl mm_H_9 (Nat.le_of_ble_eq_true rfl) (Nat.le_of_ble_eq_true rfl) ⟨Nat.zero_le _, Nat.zero_le _⟩ ?_
      refine e_icge rfl (fun h1 => ?_) (fun h1 => ?_)
      · refine e_vret rfl rfl (Nat.le_refl _) (Nat.le_refl _) ?_
        exact ⟨rfl, rfl⟩
      · try dsimp only
        rw [(laA_o S h _ _ _ _ _ 0 (by decide) _).1, (laA_o S h _ _ _ _ _ 5 (by decide) _).1, hb] at h1
        exact absurd (hle) h1) (fun n hn ihn => by
      intro z8
      iterate 8 refine e_sp rfl rfl rfl ?_
      refine e_mmin rfl mm_H_9 (Nat.le_of_ble_eq_true rfl) (Nat.le_of_ble_eq_true rfl) ⟨Nat.zero_le _, Nat.zero_le _⟩ ?_
      refine e_icge rfl (fun h1 => ?_) (fun h1 => ?_)
      · try dsimp only
        rw [(laA_o S h _ _ _ _ _ 0 (by decide) _).1, (laA_o S h _ _ _ _ _ 5 (by decide) _).1, hb] at h1
        exact absurd h1 (hge n hn)
      · iterate 6 refine e_sp rfl rfl rfl ?_
        refine e_callV1 ok_B_line rfl lk_H_321 (by rfl) (by rfl) k_B_line rfl rfl ⟨Nat.le_of_ble_eq_true rfl, Nat.le_of_ble_eq_true rfl⟩ ⟨Nat.zero_le _, Nat.zero_le _⟩ (Nat.le_of_ble_eq_true rfl) ?_
        iterate 1 refine e_sp rfl rfl rfl ?_
        refine e_callS1 ok_H_moved rfl lk_H_315 k_H_moved rfl rfl ⟨Nat.le_of_ble_eq_true rfl, Nat.le_of_ble_eq_true rfl⟩ ⟨Nat.zero_le _, Nat.zero_le _⟩ (Nat.le_of_ble_eq_true rfl) ?_
        iterate 10 refine e_sp rfl rfl rfl ?_
        refine e_callV1 ok_S_line rfl lk_H_189 (by rfl) (by rfl) (k_S_line_3 hh) rfl rfl ⟨Nat.le_of_ble_eq_true rfl, Nat.le_of_ble_eq_true rfl⟩ ⟨Nat.zero_le _, Nat.zero_le _⟩ (Nat.le_of_ble_eq_true rfl) ?_
        iterate 2 refine e_sp rfl rfl rfl ?_
        refine e_callV1 ok_H_combined rfl lk_H_323 (by rfl) (by rfl) k_H_combined rfl rfl ⟨Nat.le_of_ble_eq_true rfl, Nat.le_of_ble_eq_true rfl⟩ ⟨Nat.zero_le _, Nat.zero_le _⟩ (Nat.le_of_ble_eq_true rfl) ?_
        refine e_callV1 ok_S_changeLine rfl lk_H_186 (by rfl) (by rfl) (k_S_changeLine_3 hh) rfl rfl ⟨Nat.le_of_ble_eq_true rfl, Nat.le_of_ble_eq_true rfl⟩ ⟨Nat.zero_le _, Nat.zero_le _⟩ (Nat.le_of_ble_eq_true rfl) ?_
        iterate 1 refine e_sp rfl rfl rfl ?_
        refine e_inc 1 rfl rfl rfl rfl ?_
        refine e_goto rfl ?_
        try dsimp only
        rw [nI_1]
        exact ihn _)
  iterate 4 refine e_sp rfl rfl rfl ?_
  refine e_callV1 ok_L_leftOf rfl lk_H_156 (by rfl) (by rfl) k_L_leftOf rfl rfl ⟨Nat.le_of_ble_eq_true rfl, Nat.le_of_ble_eq_true rfl⟩ ⟨Nat.zero_le _, Nat.zero_le _⟩ (Nat.le_of_ble_eq_true rfl) ?_
  iterate 5 refine e_sp rfl rfl rfl ?_
  refine e_callV1 ok_L_topOf rfl lk_H_159 (by rfl) (by rfl) k_L_topOf rfl rfl ⟨Nat.le_of_ble_eq_true rfl, Nat.le_of_ble_eq_true rfl⟩ ⟨Nat.zero_le _, Nat.zero_le _⟩ (Nat.le_of_ble_eq_true rfl) ?_
  iterate 3 refine e_sp rfl rfl rfl ?_
  refine e_callV1 ok_H_columnsUnder rfl lk_H_307 (by rfl) (by rfl) k_H_columnsUnder rfl rfl ⟨Nat.le_of_ble_eq_true rfl, Nat.le_of_ble_eq_true rfl⟩ ⟨Nat.zero_le _, Nat.zero_le _⟩ (Nat.le_of_ble_eq_true rfl) ?_
  iterate 5 refine e_sp rfl rfl rfl ?_
  refine e_callV1 ok_L_greyOf rfl lk_H_174 (by rfl) (by rfl) k_L_greyOf rfl rfl ⟨Nat.le_of_ble_eq_true rfl, Nat.le_of_ble_eq_true rfl⟩ ⟨Nat.zero_le _, Nat.zero_le _⟩ (Nat.le_of_ble_eq_true rfl) ?_
  iterate 1 refine e_sp rfl rfl rfl ?_
  refine e_ci 0 rfl rfl ?_
  iterate 1 refine e_sp rfl rfl rfl ?_
  refine e_mmax rfl mm_H_15 (Nat.le_of_ble_eq_true rfl) (Nat.le_of_ble_eq_true rfl) ⟨Nat.zero_le _, Nat.zero_le _⟩ ?_
  iterate 1 refine e_sp rfl rfl rfl ?_
  try dsimp only
  rw [ha]
  exact L _
end
section
/-! which cells a step leaves alone -/
theorem puI_o {S : St} {o k q : Nat} {v : Int32} (h : q ≠ o) : (puI S o k v).1 q = S.1 q := pt_n h
theorem flI_o {S : St} {o n q : Nat} {v : Int32} (h : q ≠ o) : (flI S o v n).1 q = S.1 q := pt_n h
theorem wr1_o {S : St} {v b : Int32} {o : Nat} (h : o ≠ 14) (h2 : o ≠ 15) : (wr1 S v b).1 o = S.1 o ∧ (wr1 S v b).2 = S.2 := by
  unfold wr1
  split
  · exact ⟨rfl, rfl⟩
  · exact ⟨by rw [puI_o h, puI_o h2], rfl⟩
theorem wr1_k {S : St} {v b : Int32} {k : Nat} (h : k ≠ 2) : (wr1 S v b).1 14 k = S.1 14 k := by
  unfold wr1
  split
  · rfl
  · simp [puI, pt, upd, h]
theorem wrS_o {v : Int32} {o : Nat} (h : o ≠ 14) (h2 : o ≠ 15) : ∀ (n : Nat) (S : St), (wrS v n S).1 o = S.1 o ∧ (wrS v n S).2 = S.2
  | 0, _ => ⟨rfl, rfl⟩
  | n + 1, S => by
    obtain ⟨e1, e2⟩ := wrS_o h h2 n (wr1 S v (nI n))
    obtain ⟨e3, e4⟩ := wr1_o (S := S) (v := v) (b := nI n) h h2
    exact ⟨e1.trans e3, e2.trans e4⟩
theorem wrS_k {v : Int32} {k : Nat} (h : k ≠ 2) : ∀ (n : Nat) (S : St), (wrS v n S).1 14 k = S.1 14 k
  | 0, _ => rfl
  | n + 1, S => (wrS_k h n (wr1 S v (nI n))).trans (wr1_k h)
theorem pacN16_o {S : St} {r : Int32} {o : Nat} (h : o ≠ 16) : (pacN_16 S r).1 o = S.1 o ∧ (pacN_16 S r).2 = S.2 := by
  unfold pacN_16
  split
  · exact ⟨by rw [puI_o h, puI_o h, puI_o h, puI_o h], rfl⟩
  · exact ⟨by rw [puI_o h, puI_o h], rfl⟩
theorem pacN19_o {S : St} {r : Int32} {o : Nat} (h : o ≠ 19) : (pacN_19 S r).1 o = S.1 o ∧ (pacN_19 S r).2 = S.2 := by
  unfold pacN_19
  split
  · exact ⟨by rw [puI_o h, puI_o h, puI_o h, puI_o h], rfl⟩
  · exact ⟨by rw [puI_o h, puI_o h], rfl⟩
theorem fiW_o {S : St} {o : Nat} (h : o ≠ 14) (h2 : o ≠ 16) : (fiW S).1 o = S.1 o ∧ (fiW S).2 = S.2 := by
  unfold fiW
  refine ⟨?_, (pacN16_o h2).2⟩
  rw [puI_o h, puI_o h, (pacN16_o h2).1]
theorem fiW_run (S : St) : (fiW S).1 14 3 = 0 := by simp [fiW, puI, pt, upd]
theorem enW_o {S : St} {r o : Nat} (h : o ≠ 14) (h2 : o ≠ 15) (h3 : o ≠ 16) : (enW S r).1 o = S.1 o ∧ (enW S r).2 = S.2 := by
  unfold enW
  split
  · exact ⟨(fiW_o h h3).1.trans (((wrS_o h h2 _ _).1).trans (wrS_o h h2 _ _).1), (fiW_o h h3).2.trans (((wrS_o h h2 _ _).2).trans (wrS_o h h2 _ _).2)⟩
  · exact ⟨(fiW_o h h3).1.trans (((wrS_o h h2 _ _).1).trans (wrS_o h h2 _ _).1), (fiW_o h h3).2.trans (((wrS_o h h2 _ _).2).trans (wrS_o h h2 _ _).2)⟩
theorem enW_run (S : St) (r : Nat) : (enW S r).1 14 3 = 0 := by
  unfold enW
  split
  · exact fiW_run _
  · exact fiW_run _
theorem teW_o {S : St} {v : Int32} {o : Nat} (h : o ≠ 14) (h2 : o ≠ 15) (h3 : o ≠ 16) : (teW S v).1 o = S.1 o ∧ (teW S v).2 = S.2 := by
  unfold teW
  split
  · exact enW_o h h2 h3
  · exact ⟨puI_o h, rfl⟩
theorem leF_o {S : St} {c b : Int32} {o : Nat} (h : o ≠ 12) (h2 : o ≠ 13) : (leF S c b).1 o = S.1 o ∧ (leF S c b).2 = S.2 := by
  unfold leF
  split
  · exact ⟨rfl, rfl⟩
  · exact ⟨by rw [puI_o h2, puI_o h], rfl⟩
theorem abC_o {S : St} {i j p b : Int32} {o : Nat} (h : o ≠ 10) : (abC S i j p b).1 o = S.1 o ∧ (abC S i j p b).2 = S.2 := by
  unfold abC
  split
  · exact ⟨rfl, rfl⟩
  · exact ⟨puI_o h, rfl⟩
theorem cgS_o {S : St} {i j g : Int32} {o : Nat} (h : o ≠ 8) : (cgS S i j g).1 o = S.1 o ∧ (cgS S i j g).2 = S.2 := by
  unfold cgS
  split
  · exact ⟨rfl, rfl⟩
  · exact ⟨puI_o h, rfl⟩
def bpF (S : St) : St := flI (flI S 12 (-1) 64) 13 0 64
theorem bpF_o {S : St} {o : Nat} (h : o ≠ 12) (h2 : o ≠ 13) : (bpF S).1 o = S.1 o ∧ (bpF S).2 = S.2 := ⟨by unfold bpF; rw [flI_o h2, flI_o h], rfl⟩
/-! writePlane -/
def wpF (p : Int32) (i j : Nat) (T : St) : St := if skH T (nI i) (nI j) = 0 then leF (teW T (if btC T (nI i) (nI j) p = ftF T (ctC T (nI i) (nI j) p) then 1 else 0)) (ctC T (nI i) (nI j) p) (btC T (nI i) (nI j) p) else T
def wpH (S : St) (c r : Nat) (p : Int32) : St := pO (wpF p) c r (bpF S)
theorem wpF_o {p : Int32} {i j : Nat} {T : St} {o : Nat} (h : o ≠ 12) (h2 : o ≠ 13) (h3 : o ≠ 14) (h4 : o ≠ 15) (h5 : o ≠ 16) : (wpF p i j T).1 o = T.1 o ∧ (wpF p i j T).2 = T.2 := by
  unfold wpF
  split
  · exact ⟨(leF_o h h2).1.trans (teW_o h3 h4 h5).1, (leF_o h h2).2.trans (teW_o h3 h4 h5).2⟩
  · exact ⟨rfl, rfl⟩
def runOK (n : Nat) (T : St) : Prop := ∃ r, r ≤ n ∧ T.1 14 3 = nI r
theorem runOK.mono {n m : Nat} {T : St} (h : runOK n T) (hm : n ≤ m) : runOK m T := by
  obtain ⟨r, h1, h2⟩ := h
  exact ⟨r, Nat.le_trans h1 hm, h2⟩
theorem runOK.pos {n : Nat} {T : St} (h : runOK n T) (hn : n < 2 ^ 31) : ¬ T.1 14 3 < 0 := by
  obtain ⟨r, h1, h2⟩ := h
  rw [h2]
  exact nI_pos (by omega)
theorem teW_run {n : Nat} {T : St} {v : Int32} (h : runOK n T) : runOK (n + 1) (teW T v) := by
  unfold teW
  split
  · exact ⟨0, Nat.zero_le _, enW_run _ _⟩
  · obtain ⟨r, h1, h2⟩ := h
    refine ⟨r + 1, by omega, ?_⟩
    rw [← nI_1, ← h2]
    simp [puI, pt, upd]
theorem wpF_run {p : Int32} {i j n : Nat} {T : St} (h : runOK n T) : runOK (n + 1) (wpF p i j T) := by
  unfold wpF
  split
  · have e : ∀ X c b, (leF X c b).1 14 3 = X.1 14 3 := fun X c b => by rw [(leF_o (S := X) (c := c) (b := b) (o := 14) (by decide) (by decide)).1]
    obtain ⟨r, h1, h2⟩ := teW_run (v := if btC T (nI i) (nI j) p = ftF T (ctC T (nI i) (nI j) p) then 1 else 0) h
    exact ⟨r, h1, by rw [e]; exact h2⟩
  · exact h.mono (by omega)
theorem wpI_run {p : Int32} {j n : Nat} : ∀ (i : Nat) (T : St), runOK n T → runOK (n + i) (pI (wpF p) j i T)
  | 0, _, h => h
  | i + 1, T, h => wpF_run (wpI_run i T h)
theorem wpO_run {p : Int32} {c n : Nat} : ∀ (j : Nat) (T : St), runOK n T → runOK (n + c * j) (pO (wpF p) c j T)
  | 0, _, h => h
  | j + 1, T, h => by
    have := wpI_run (p := p) (j := j) c _ (wpO_run (p := p) (c := c) j T h)
    exact this.mono (by rw [Nat.mul_succ]; omega)
theorem wpO_o {p : Int32} {c j : Nat} {S : St} {o : Nat} (h : o ≠ 12) (h2 : o ≠ 13) (h3 : o ≠ 14) (h4 : o ≠ 15) (h5 : o ≠ 16) : (pO (wpF p) c j S).1 o = S.1 o ∧ (pO (wpF p) c j S).2 = S.2 :=
  pO_inv (fun T => T.1 o = S.1 o ∧ T.2 = S.2) (fun i j T hT => ⟨(wpF_o h h2 h3 h4 h5).1.trans hT.1, (wpF_o h h2 h3 h4 h5).2.trans hT.2⟩) j S ⟨rfl, rfl⟩
theorem wpI_o {p : Int32} {i j : Nat} {S : St} {o : Nat} (h : o ≠ 12) (h2 : o ≠ 13) (h3 : o ≠ 14) (h4 : o ≠ 15) (h5 : o ≠ 16) : (pI (wpF p) j i S).1 o = S.1 o ∧ (pI (wpF p) j i S).2 = S.2 :=
  pI_inv (fun T => T.1 o = S.1 o ∧ T.2 = S.2) (fun i T hT => ⟨(wpF_o h h2 h3 h4 h5).1.trans hT.1, (wpF_o h h2 h3 h4 h5).2.trans hT.2⟩) i S ⟨rfl, rfl⟩
set_option maxHeartbeats 4000000 in
set_option maxRecDepth 40000 in
theorem k_H_writePlane {l : Launch} {h : Nat} {S : St} {c r n : Nat} {p : Int32} (hc : S.1 7 1 = nI c) (hr : S.1 7 2 = nI r) (hc2 : c < 2 ^ 31) (hr2 : r < 2 ^ 31) (hn : runOK n S) (hn2 : n + c * r + c < 2 ^ 31) : KK l (SHm h) (4, 93) m_H_writePlane [aR 0, aI p] S (ans none (wpH S c r p)) := by
  refine k_start ok_H_writePlane (Nat.le_of_ble_eq_true rfl) ?_
  have hn0 : runOK n (bpF S) := by
    obtain ⟨q, h1, h2⟩ := hn
    exact ⟨q, h1, by rw [(bpF_o (by decide) (by decide)).1]; exact h2⟩
  have hrow : ∀ j, (pO (wpF p) c j (bpF S)).1 7 2 = nI r := fun j => by
    rw [(wpO_o (by decide) (by decide) (by decide) (by decide) (by decide)).1, (bpF_o (by decide) (by decide)).1]; exact hr
  have hcol : ∀ j i, (pI (wpF p) j i (pO (wpF p) c j (bpF S))).1 7 1 = nI c := fun j i => by
    rw [(wpI_o (by decide) (by decide) (by decide) (by decide) (by decide)).1, (wpO_o (by decide) (by decide) (by decide) (by decide) (by decide)).1, (bpF_o (by decide) (by decide)).1]; exact hc
  have hrun : ∀ j i, j < r → i < c → ¬ (pI (wpF p) j i (pO (wpF p) c j (bpF S))).1 14 3 < 0 := fun j i hj hi => by
    have h1 := wpI_run (p := p) (j := j) i _ (wpO_run (p := p) (c := c) j _ hn0)
    refine h1.pos ?_
    have h2 : c * j ≤ c * r := Nat.mul_le_mul_left c (Nat.le_of_lt hj)
    omega
  have L1 := e_for (P := fun j => ∀ z3 z4 z5, E0 l (SHm h) (4, 93) m_H_writePlane 9 [some (aR 0), some (aI p), some (aI (nI j)), z3, z4, z5] [] (pO (wpF p) c j (bpF S)) (ans none (wpH S c r p))) (r) (by
      intro z3 z4 z5
      iterate 4 refine e_sp rfl rfl rfl ?_
      refine e_icge rfl (fun h1 => ?_) (fun h1 => ?_)
      · refine e_vret rfl rfl (Nat.le_refl _) (Nat.le_refl _) ?_
        exact ⟨rfl, rfl⟩
      · try dsimp only
        rw [hrow] at h1
        exact absurd (nI_le (Nat.le_refl _) hr2) h1) (fun j hj ihj => by
      intro z3 z4 z5
      iterate 4 refine e_sp rfl rfl rfl ?_
      refine e_icge rfl (fun h1 => ?_) (fun h1 => ?_)
      · try dsimp only
        rw [hrow] at h1
        exact absurd h1 (nI_ge hj hr2)
      · refine e_ci 0 rfl rfl ?_
        iterate 1 refine e_sp rfl rfl rfl ?_
        try dsimp only
        have L2 := e_for (P := fun i => ∀ z4 z5, E0 l (SHm h) (4, 93) m_H_writePlane 22 [some (aR 0), some (aI p), some (aI (nI j)), some (aI (nI i)), z4, z5] [] (pI (wpF p) j i (pO (wpF p) c j (bpF S))) (ans none (wpH S c r p))) (c) (by
            intro z4 z5
            iterate 4 refine e_sp rfl rfl rfl ?_
            refine e_icge rfl (fun h1 => ?_) (fun h1 => ?_)
            · refine e_inc 1 rfl rfl rfl rfl ?_
              refine e_goto rfl ?_
              try dsimp only
              rw [nI_1]
              exact ihj _ _ _
            · try dsimp only
              rw [hcol] at h1
              exact absurd (nI_le (Nat.le_refl _) hc2) h1) (fun i hi ihi => by
            intro z4 z5
            iterate 4 refine e_sp rfl rfl rfl ?_
            refine e_icge rfl (fun h1 => ?_) (fun h1 => ?_)
            · try dsimp only
              rw [hcol] at h1
              exact absurd h1 (nI_ge hi hc2)
            · iterate 3 refine e_sp rfl rfl rfl ?_
              refine e_callV1 ok_H_isSkipped rfl lk_H_222 (by rfl) (by rfl) k_H_isSkipped rfl rfl ⟨Nat.le_of_ble_eq_true rfl, Nat.le_of_ble_eq_true rfl⟩ ⟨Nat.zero_le _, Nat.zero_le _⟩ (Nat.le_of_ble_eq_true rfl) ?_
              refine e_ifne rfl (fun h2 => ?_) (fun h2 => ?_)
              · refine e_inc 1 rfl rfl rfl rfl ?_
                refine e_goto rfl ?_
                try dsimp only
                rw [nI_1]
                simp only [pI, wpF] at ihi
                first | rw [if_pos h2] at ihi | rw [if_neg h2] at ihi
                exact ihi _ _
              · iterate 5 refine e_sp rfl rfl rfl ?_
                refine e_callV1 ok_C_contextOf rfl lk_H_327 (by rfl) (by rfl) k_C_contextOf rfl rfl ⟨Nat.le_of_ble_eq_true rfl, Nat.le_of_ble_eq_true rfl⟩ ⟨Nat.zero_le _, Nat.zero_le _⟩ (Nat.le_of_ble_eq_true rfl) ?_
                iterate 6 refine e_sp rfl rfl rfl ?_
                refine e_callV1 ok_C_bitOf rfl lk_H_330 (by rfl) (by rfl) k_C_bitOf rfl rfl ⟨Nat.le_of_ble_eq_true rfl, Nat.le_of_ble_eq_true rfl⟩ ⟨Nat.zero_le _, Nat.zero_le _⟩ (Nat.le_of_ble_eq_true rfl) ?_
                iterate 7 refine e_sp rfl rfl rfl ?_
                refine e_callV1 ok_F_foretold rfl lk_H_333 (by rfl) (by rfl) k_F_foretold rfl rfl ⟨Nat.le_of_ble_eq_true rfl, Nat.le_of_ble_eq_true rfl⟩ ⟨Nat.zero_le _, Nat.zero_le _⟩ (Nat.le_of_ble_eq_true rfl) ?_
                refine e_icne rfl (fun h3 => ?_) (fun h3 => ?_)
                · refine e_ci 0 rfl rfl ?_
                  refine e_callV0 ok_W_tell rfl lk_H_336 (by rfl) (by rfl) (k_W_tell (hrun j i hj hi)) rfl rfl ⟨Nat.le_of_ble_eq_true rfl, Nat.le_of_ble_eq_true rfl⟩ ⟨Nat.zero_le _, Nat.zero_le _⟩ (Nat.le_of_ble_eq_true rfl) ?_
                  iterate 4 refine e_sp rfl rfl rfl ?_
                  refine e_callV0 ok_F_learn rfl lk_H_339 (by rfl) (by rfl) k_F_learn rfl rfl ⟨Nat.le_of_ble_eq_true rfl, Nat.le_of_ble_eq_true rfl⟩ ⟨Nat.zero_le _, Nat.zero_le _⟩ (Nat.le_of_ble_eq_true rfl) ?_
                  refine e_inc 1 rfl rfl rfl rfl ?_
                  refine e_goto rfl ?_
                  try dsimp only
                  rw [nI_1]
                  simp only [pI, wpF] at ihi
                  first | rw [if_pos h2] at ihi | rw [if_neg h2] at ihi
                  first | rw [if_pos h3] at ihi | rw [if_neg h3] at ihi
                  exact ihi _ _
                · refine e_ci 1 rfl rfl ?_
                  refine e_goto rfl ?_
                  refine e_callV0 ok_W_tell rfl lk_H_336 (by rfl) (by rfl) (k_W_tell (hrun j i hj hi)) rfl rfl ⟨Nat.le_of_ble_eq_true rfl, Nat.le_of_ble_eq_true rfl⟩ ⟨Nat.zero_le _, Nat.zero_le _⟩ (Nat.le_of_ble_eq_true rfl) ?_
                  iterate 4 refine e_sp rfl rfl rfl ?_
                  refine e_callV0 ok_F_learn rfl lk_H_339 (by rfl) (by rfl) k_F_learn rfl rfl ⟨Nat.le_of_ble_eq_true rfl, Nat.le_of_ble_eq_true rfl⟩ ⟨Nat.zero_le _, Nat.zero_le _⟩ (Nat.le_of_ble_eq_true rfl) ?_
                  refine e_inc 1 rfl rfl rfl rfl ?_
                  refine e_goto rfl ?_
                  try dsimp only
                  rw [nI_1]
                  simp only [pI, wpF] at ihi
                  first | rw [if_pos h2] at ihi | rw [if_neg h2] at ihi
                  first | rw [if_pos h3] at ihi | rw [if_neg h3] at ihi
                  exact ihi _ _)
        exact L2 _ _)
  iterate 2 refine e_sp rfl rfl rfl ?_
  refine e_callV0 ok_F_beginPlane rfl lk_H_229 (by rfl) (by rfl) k_F_beginPlane rfl rfl ⟨Nat.le_of_ble_eq_true rfl, Nat.le_of_ble_eq_true rfl⟩ ⟨Nat.zero_le _, Nat.zero_le _⟩ (Nat.le_of_ble_eq_true rfl) ?_
  refine e_ci 0 rfl rfl ?_
  iterate 1 refine e_sp rfl rfl rfl ?_
  try dsimp only
  exact L1 _ _ _
/-! takeGreys -/
def tgF (i j : Nat) (T : St) : St := cgS T (nI i) (nI j) (grC T (nI i) (nI j))
def tgH (S : St) (c r : Nat) : St := pO tgF c r S
theorem tgO_o {c j : Nat} {S : St} {o : Nat} (h : o ≠ 8) : (pO tgF c j S).1 o = S.1 o ∧ (pO tgF c j S).2 = S.2 :=
  pO_inv (fun T => T.1 o = S.1 o ∧ T.2 = S.2) (fun i j T hT => ⟨(cgS_o h).1.trans hT.1, (cgS_o h).2.trans hT.2⟩) j S ⟨rfl, rfl⟩
theorem tgI_o {i j : Nat} {S : St} {o : Nat} (h : o ≠ 8) : (pI tgF j i S).1 o = S.1 o ∧ (pI tgF j i S).2 = S.2 :=
  pI_inv (fun T => T.1 o = S.1 o ∧ T.2 = S.2) (fun i T hT => ⟨(cgS_o h).1.trans hT.1, (cgS_o h).2.trans hT.2⟩) i S ⟨rfl, rfl⟩
set_option maxHeartbeats 4000000 in
set_option maxRecDepth 40000 in
theorem k_H_takeGreys {l : Launch} {h : Nat} {S : St} {c r : Nat} (hc : S.1 7 1 = nI c) (hr : S.1 7 2 = nI r) (hc2 : c < 2 ^ 31) (hr2 : r < 2 ^ 31) : KK l (SHm h) (3, 69) m_H_takeGreys [aR 0] S (ans none (tgH S c r)) := by
  refine k_start ok_H_takeGreys (Nat.le_of_ble_eq_true rfl) ?_
  have hrow : ∀ j, (pO tgF c j S).1 7 2 = nI r := fun j => by rw [(tgO_o (by decide)).1]; exact hr
  have hcol : ∀ j i, (pI tgF j i (pO tgF c j S)).1 7 1 = nI c := fun j i => by rw [(tgI_o (by decide)).1, (tgO_o (by decide)).1]; exact hc
  have L1 := e_for (P := fun j => ∀ z2, E0 l (SHm h) (3, 69) m_H_takeGreys 2 [some (aR 0), some (aI (nI j)), z2] [] (pO tgF c j S) (ans none (tgH S c r))) (r) (by
      intro z2
      iterate 4 refine e_sp rfl rfl rfl ?_
      refine e_icge rfl (fun h1 => ?_) (fun h1 => ?_)
      · refine e_vret rfl rfl (Nat.le_refl _) (Nat.le_refl _) ?_
        exact ⟨rfl, rfl⟩
      · try dsimp only
        rw [hrow] at h1
        exact absurd (nI_le (Nat.le_refl _) hr2) h1) (fun j hj ihj => by
      intro z2
      iterate 4 refine e_sp rfl rfl rfl ?_
      refine e_icge rfl (fun h1 => ?_) (fun h1 => ?_)
      · try dsimp only
        rw [hrow] at h1
        exact absurd h1 (nI_ge hj hr2)
      · refine e_ci 0 rfl rfl ?_
        iterate 1 refine e_sp rfl rfl rfl ?_
        try dsimp only
        have L2 := e_for (P := fun i => E0 l (SHm h) (3, 69) m_H_takeGreys 15 [some (aR 0), some (aI (nI j)), some (aI (nI i))] [] (pI tgF j i (pO tgF c j S)) (ans none (tgH S c r))) (c) (by
            iterate 4 refine e_sp rfl rfl rfl ?_
            refine e_icge rfl (fun h1 => ?_) (fun h1 => ?_)
            · refine e_inc 1 rfl rfl rfl rfl ?_
              refine e_goto rfl ?_
              try dsimp only
              rw [nI_1]
              exact ihj _
            · try dsimp only
              rw [hcol] at h1
              exact absurd (nI_le (Nat.le_refl _) hc2) h1) (fun i hi ihi => by
            iterate 4 refine e_sp rfl rfl rfl ?_
            refine e_icge rfl (fun h1 => ?_) (fun h1 => ?_)
            · try dsimp only
              rw [hcol] at h1
              exact absurd h1 (nI_ge hi hc2)
            · iterate 8 refine e_sp rfl rfl rfl ?_
              refine e_callV1 ok_C_greyOf rfl lk_H_348 (by rfl) (by rfl) k_C_greyOf rfl rfl ⟨Nat.le_of_ble_eq_true rfl, Nat.le_of_ble_eq_true rfl⟩ ⟨Nat.zero_le _, Nat.zero_le _⟩ (Nat.le_of_ble_eq_true rfl) ?_
              refine e_callV1 ok_L_changeGrey rfl lk_H_171 (by rfl) (by rfl) k_L_changeGrey rfl rfl ⟨Nat.le_of_ble_eq_true rfl, Nat.le_of_ble_eq_true rfl⟩ ⟨Nat.zero_le _, Nat.zero_le _⟩ (Nat.le_of_ble_eq_true rfl) ?_
              iterate 1 refine e_sp rfl rfl rfl ?_
              refine e_inc 1 rfl rfl rfl rfl ?_
              refine e_goto rfl ?_
              try dsimp only
              rw [nI_1]
              exact ihi)
        exact L2)
  refine e_ci 0 rfl rfl ?_
  iterate 1 refine e_sp rfl rfl rfl ?_
  try dsimp only
  exact L1 _
end
section
/-! the reader leaves all but cells 17 and 19 alone, and keeps how many bytes came -/
theorem rbS_o {S : St} {o : Nat} (h : o ≠ 17) : (rbS S).1 o = S.1 o ∧ (rbS S).2 = S.2 := by
  unfold rbS
  split
  · exact ⟨puI_o h, rfl⟩
  · exact ⟨puI_o h, rfl⟩
theorem rdS_o {S : St} {o : Nat} (h : o ≠ 17) : ∀ n, (rdS S n).1 o = S.1 o ∧ (rdS S n).2 = S.2
  | 0 => ⟨rfl, rfl⟩
  | n + 1 => ⟨(rbS_o h).1.trans (rdS_o h n).1, (rbS_o h).2.trans (rdS_o h n).2⟩
theorem onS_o {o : Nat} (h : o ≠ 17) : ∀ f (S : St), (onS f S).1 o = S.1 o ∧ (onS f S).2 = S.2
  | 0, _ => ⟨rfl, rfl⟩
  | f + 1, S => by
    simp only [onS]
    split
    · exact ⟨(onS_o h f _).1.trans (rbS_o h).1, (onS_o h f _).2.trans (rbS_o h).2⟩
    · exact rbS_o h
theorem rrF_o {S : St} {v : Int32} {o : Nat} (h : o ≠ 17) (h2 : o ≠ 19) : (rrF S v).1 o = S.1 o ∧ (rrF S v).2 = S.2 := by
  unfold rrF
  split
  · split
    · exact ⟨(pacN19_o h2).1.trans (by rw [puI_o h, puI_o h]), (pacN19_o h2).2⟩
    · exact ⟨by rw [puI_o h, puI_o h], rfl⟩
  · exact ⟨rfl, rfl⟩
theorem rrF_came {S : St} {v : Int32} : (rrF S v).1 17 2 = S.1 17 2 := by
  unfold rrF
  split
  · split
    · rw [(pacN19_o (o := 17) (by decide)).1]
      simp [puI, pt, upd]
    · simp [puI, pt, upd]
  · rfl
theorem rrE_o {T : St} {on kk o : Nat} (h : o ≠ 17) (h2 : o ≠ 19) : (rrE T on kk).1 o = T.1 o ∧ (rrE T on kk).2 = T.2 := by
  unfold rrE
  split
  · exact ⟨(rrF_o h h2).1.trans (rdS_o h _).1, (rrF_o h h2).2.trans (rdS_o h _).2⟩
  · exact ⟨(rrF_o h h2).1.trans (rdS_o h _).1, (rrF_o h h2).2.trans (rdS_o h _).2⟩
theorem rrE_came {T : St} {on kk : Nat} : (rrE T on kk).1 17 2 = T.1 17 2 := by
  unfold rrE
  split
  · rw [rrF_came, rdS_came]
  · rw [rrF_came, rdS_came]
theorem rrS_o {S : St} {o : Nat} (h : o ≠ 17) (h2 : o ≠ 19) : (rrS S).1 o = S.1 o ∧ (rrS S).2 = S.2 := ⟨(rrE_o h h2).1.trans (onS_o h _ _).1, (rrE_o h h2).2.trans (onS_o h _ _).2⟩
theorem rrS_came {S : St} : (rrS S).1 17 2 = S.1 17 2 := by
  unfold rrS
  rw [rrE_came, onS_came]
theorem nbT_o {S : St} {o : Nat} (h : o ≠ 17) (h2 : o ≠ 19) : (nbT S).1 o = S.1 o ∧ (nbT S).2 = S.2 := by
  unfold nbT
  split
  · exact rrS_o h h2
  · exact ⟨rfl, rfl⟩
theorem nbT_came {S : St} : (nbT S).1 17 2 = S.1 17 2 := by
  unfold nbT
  split
  · exact rrS_came
  · rfl
theorem nbG_o {T : St} {o : Nat} (h : o ≠ 17) : (nbG T).1 o = T.1 o ∧ (nbG T).2 = T.2 := by
  unfold nbG nbU
  split
  · exact ⟨by rw [puI_o h, puI_o h], rfl⟩
  · exact ⟨rfl, rfl⟩
theorem nbG_came {T : St} : (nbG T).1 17 2 = T.1 17 2 := by
  unfold nbG nbU
  split
  · simp [puI, pt, upd]
  · rfl
theorem nbS_o {S : St} {o : Nat} (h : o ≠ 17) (h2 : o ≠ 19) : (nbS S).1 o = S.1 o ∧ (nbS S).2 = S.2 := ⟨(nbG_o h).1.trans (nbT_o h h2).1, (nbG_o h).2.trans (nbT_o h h2).2⟩
theorem nbS_came {S : St} : (nbS S).1 17 2 = S.1 17 2 := by unfold nbS; rw [nbG_came, nbT_came]
/-! readPlane: what is refused stays -/
def rpG (p : Int32) (i j : Nat) (T : St) (cx bt : Int32) : St := if (nbS T).1 17 7 = 0 then leF (abC (nbS T) (nI i) (nI j) p bt) cx bt else nbS T
def rpF (p : Int32) (i j : Nat) (T : St) : St := if T.1 17 7 = 0 then (if skH T (nI i) (nI j) = 0 then rpG p i j T (ctC T (nI i) (nI j) p) (nbV T (ftF T (ctC T (nI i) (nI j) p))) else T) else T
def rpH (S : St) (c r : Nat) (p : Int32) : St := pO (rpF p) c r (bpF S)
theorem rpF_o {p : Int32} {i j : Nat} {T : St} {o : Nat} (h : o ≠ 10) (h2 : o ≠ 12) (h3 : o ≠ 13) (h4 : o ≠ 17) (h5 : o ≠ 19) : (rpF p i j T).1 o = T.1 o ∧ (rpF p i j T).2 = T.2 := by
  unfold rpF rpG
  split
  · split
    · split
      · exact ⟨(leF_o h2 h3).1.trans ((abC_o h).1.trans (nbS_o h4 h5).1), (leF_o h2 h3).2.trans ((abC_o h).2.trans (nbS_o h4 h5).2)⟩
      · exact nbS_o h4 h5
    · exact ⟨rfl, rfl⟩
  · exact ⟨rfl, rfl⟩
theorem rpF_came {p : Int32} {i j : Nat} {T : St} : (rpF p i j T).1 17 2 = T.1 17 2 := by
  unfold rpF rpG
  split
  · split
    · split
      · rw [(leF_o (o := 17) (by decide) (by decide)).1, (abC_o (o := 17) (by decide)).1, nbS_came]
      · exact nbS_came
    · rfl
  · rfl
theorem rpF_stop {p : Int32} {i j : Nat} {T : St} (h : ¬ T.1 17 7 = 0) : rpF p i j T = T := if_neg h
theorem pI_stop {F : Nat → Nat → St → St} (hF : ∀ i j T, ¬ T.1 17 7 = 0 → F i j T = T) {j i : Nat} {T : St} (h : ¬ (pI F j i T).1 17 7 = 0) : ∀ k, pI F j (i + k) T = pI F j i T
  | 0 => rfl
  | k + 1 => by
    have e := pI_stop hF h k
    show F (i + k) j (pI F j (i + k) T) = _
    rw [e]
    exact hF _ _ _ h
theorem pO_stop {F : Nat → Nat → St → St} (hF : ∀ i j T, ¬ T.1 17 7 = 0 → F i j T = T) {c j : Nat} {T : St} (h : ¬ (pO F c j T).1 17 7 = 0) : ∀ k, pO F c (j + k) T = pO F c j T
  | 0 => rfl
  | k + 1 => by
    have e := pO_stop hF h k
    show pI F (j + k) c (pO F c (j + k) T) = _
    rw [e]
    have e2 := pI_stop hF (j := j + k) (i := 0) (T := pO F c j T) h c
    rw [Nat.zero_add] at e2
    exact e2
theorem pO_stopI {F : Nat → Nat → St → St} (hF : ∀ i j T, ¬ T.1 17 7 = 0 → F i j T = T) {c r j i : Nat} {T : St} (hj : j < r) (hi : i ≤ c) (h : ¬ (pI F j i (pO F c j T)).1 17 7 = 0) : pO F c r T = pI F j i (pO F c j T) := by
  have e1 := pI_stop hF h (c - i)
  rw [show i + (c - i) = c by omega] at e1
  have e2 : pO F c (j + 1) T = pI F j i (pO F c j T) := e1
  have e3 := pO_stop hF (j := j + 1) (T := T) (c := c) (by rw [e2]; exact h) (r - (j + 1))
  rw [show j + 1 + (r - (j + 1)) = r by omega] at e3
  rw [e3, e2]
theorem rpO_o {p : Int32} {c j : Nat} {S : St} {o : Nat} (h : o ≠ 10) (h2 : o ≠ 12) (h3 : o ≠ 13) (h4 : o ≠ 17) (h5 : o ≠ 19) : (pO (rpF p) c j S).1 o = S.1 o ∧ (pO (rpF p) c j S).2 = S.2 :=
  pO_inv (fun T => T.1 o = S.1 o ∧ T.2 = S.2) (fun i j T hT => ⟨(rpF_o h h2 h3 h4 h5).1.trans hT.1, (rpF_o h h2 h3 h4 h5).2.trans hT.2⟩) j S ⟨rfl, rfl⟩
theorem rpI_o {p : Int32} {i j : Nat} {S : St} {o : Nat} (h : o ≠ 10) (h2 : o ≠ 12) (h3 : o ≠ 13) (h4 : o ≠ 17) (h5 : o ≠ 19) : (pI (rpF p) j i S).1 o = S.1 o ∧ (pI (rpF p) j i S).2 = S.2 :=
  pI_inv (fun T => T.1 o = S.1 o ∧ T.2 = S.2) (fun i T hT => ⟨(rpF_o h h2 h3 h4 h5).1.trans hT.1, (rpF_o h h2 h3 h4 h5).2.trans hT.2⟩) i S ⟨rfl, rfl⟩
theorem rpO_came {p : Int32} {c j : Nat} {S : St} : (pO (rpF p) c j S).1 17 2 = S.1 17 2 := pO_inv (fun T => T.1 17 2 = S.1 17 2) (fun i j T hT => rpF_came.trans hT) j S rfl
theorem rpI_came {p : Int32} {i j : Nat} {S : St} : (pI (rpF p) j i S).1 17 2 = S.1 17 2 := pI_inv (fun T => T.1 17 2 = S.1 17 2) (fun i T hT => rpF_came.trans hT) i S rfl
theorem leab_17 {S : St} {i j p b cx bt : Int32} : (leF (abC S i j p b) cx bt).1 17 = S.1 17 := by rw [(leF_o (by decide) (by decide)).1, (abC_o (by decide)).1]
set_option maxHeartbeats 4000000 in
set_option maxRecDepth 40000 in
theorem k_H_readPlane {l : Launch} {h : Nat} {S : St} {c r cm : Nat} {p : Int32} (hc : S.1 7 1 = nI c) (hr : S.1 7 2 = nI r) (hc2 : c < 2 ^ 31) (hr2 : r < 2 ^ 31) (hcm : S.1 17 2 = nI cm) (hcm2 : cm ≤ 3000) (h7 : S.1 17 7 = 0) : KK l (SHm h) (5, 111) m_H_readPlane [aR 0, aI p] S (ans none (rpH S c r p)) := by
  refine k_start ok_H_readPlane (Nat.le_of_ble_eq_true rfl) ?_
  have hrow : ∀ j, (pO (rpF p) c j (bpF S)).1 7 2 = nI r := fun j => by
    rw [(rpO_o (by decide) (by decide) (by decide) (by decide) (by decide)).1, (bpF_o (by decide) (by decide)).1]; exact hr
  have hcol : ∀ j i, (pI (rpF p) j i (pO (rpF p) c j (bpF S))).1 7 1 = nI c := fun j i => by
    rw [(rpI_o (by decide) (by decide) (by decide) (by decide) (by decide)).1, (rpO_o (by decide) (by decide) (by decide) (by decide) (by decide)).1, (bpF_o (by decide) (by decide)).1]; exact hc
  have hcame : ∀ j i, (pI (rpF p) j i (pO (rpF p) c j (bpF S))).1 17 2 = nI cm := fun j i => by
    rw [rpI_came, rpO_came, (bpF_o (by decide) (by decide)).1]; exact hcm
  have L1 := e_for (P := fun j => ∀ z3 z4 z5 (_ : (pO (rpF p) c j (bpF S)).1 17 7 = 0), E0 l (SHm h) (5, 111) m_H_readPlane 9 [some (aR 0), some (aI p), some (aI (nI j)), z3, z4, z5] [] (pO (rpF p) c j (bpF S)) (ans none (rpH S c r p))) (r) (by
      intro z3 z4 z5 hz
      iterate 4 refine e_sp rfl rfl rfl ?_
      refine e_icge rfl (fun h1 => ?_) (fun h1 => ?_)
      · refine e_vret rfl rfl (Nat.le_refl _) (Nat.le_refl _) ?_
        exact ⟨rfl, rfl⟩
      · try dsimp only
        rw [hrow] at h1
        exact absurd (nI_le (Nat.le_refl _) hr2) h1) (fun j hj ihj => by
      intro z3 z4 z5 hz
      iterate 4 refine e_sp rfl rfl rfl ?_
      refine e_icge rfl (fun h1 => ?_) (fun h1 => ?_)
      · try dsimp only
        rw [hrow] at h1
        exact absurd h1 (nI_ge hj hr2)
      · refine e_ci 0 rfl rfl ?_
        iterate 1 refine e_sp rfl rfl rfl ?_
        try dsimp only
        have L2 := e_for (P := fun i => ∀ z4 z5 (_ : (pI (rpF p) j i (pO (rpF p) c j (bpF S))).1 17 7 = 0), E0 l (SHm h) (5, 111) m_H_readPlane 22 [some (aR 0), some (aI p), some (aI (nI j)), some (aI (nI i)), z4, z5] [] (pI (rpF p) j i (pO (rpF p) c j (bpF S))) (ans none (rpH S c r p))) (c) (by
            intro z4 z5 hz
            iterate 4 refine e_sp rfl rfl rfl ?_
            refine e_icge rfl (fun h1 => ?_) (fun h1 => ?_)
            · refine e_inc 1 rfl rfl rfl rfl ?_
              refine e_goto rfl ?_
              try dsimp only
              rw [nI_1]
              exact ihj _ _ _ hz
            · try dsimp only
              rw [hcol] at h1
              exact absurd (nI_le (Nat.le_refl _) hc2) h1) (fun i hi ihi => by
            intro z4 z5 hz
            iterate 4 refine e_sp rfl rfl rfl ?_
            refine e_icge rfl (fun h1 => ?_) (fun h1 => ?_)
            · try dsimp only
              rw [hcol] at h1
              exact absurd h1 (nI_ge hi hc2)
            · iterate 3 refine e_sp rfl rfl rfl ?_
              refine e_callV1 ok_H_isSkipped rfl lk_H_222 (by rfl) (by rfl) k_H_isSkipped rfl rfl ⟨Nat.le_of_ble_eq_true rfl, Nat.le_of_ble_eq_true rfl⟩ ⟨Nat.zero_le _, Nat.zero_le _⟩ (Nat.le_of_ble_eq_true rfl) ?_
              refine e_ifne rfl (fun h2 => ?_) (fun h2 => ?_)
              · refine e_inc 1 rfl rfl rfl rfl ?_
                refine e_goto rfl ?_
                try dsimp only
                rw [nI_1]
                simp only [pI, rpF, rpG] at ihi
                rw [if_pos hz] at ihi
                rw [if_neg h2] at ihi
                exact ihi _ _ hz
              · iterate 5 refine e_sp rfl rfl rfl ?_
                refine e_callV1 ok_C_contextOf rfl lk_H_327 (by rfl) (by rfl) k_C_contextOf rfl rfl ⟨Nat.le_of_ble_eq_true rfl, Nat.le_of_ble_eq_true rfl⟩ ⟨Nat.zero_le _, Nat.zero_le _⟩ (Nat.le_of_ble_eq_true rfl) ?_
                iterate 6 refine e_sp rfl rfl rfl ?_
                refine e_callV1 ok_F_foretold rfl lk_H_333 (by rfl) (by rfl) k_F_foretold rfl rfl ⟨Nat.le_of_ble_eq_true rfl, Nat.le_of_ble_eq_true rfl⟩ ⟨Nat.zero_le _, Nat.zero_le _⟩ (Nat.le_of_ble_eq_true rfl) ?_
                refine e_callV1 ok_R_nextBit rfl lk_H_342 (by rfl) (by rfl) (k_R_nextBit ((hcame j i)) hcm2) rfl rfl ⟨Nat.le_of_ble_eq_true rfl, Nat.le_of_ble_eq_true rfl⟩ ⟨Nat.zero_le _, Nat.zero_le _⟩ (Nat.le_of_ble_eq_true rfl) ?_
                iterate 4 refine e_sp rfl rfl rfl ?_
                refine e_ifeq rfl (fun h3 => ?_) (fun h3 => ?_)
                · iterate 6 refine e_sp rfl rfl rfl ?_
                  refine e_callV0 ok_C_addBit rfl lk_H_345 (by rfl) (by rfl) k_C_addBit rfl rfl ⟨Nat.le_of_ble_eq_true rfl, Nat.le_of_ble_eq_true rfl⟩ ⟨Nat.zero_le _, Nat.zero_le _⟩ (Nat.le_of_ble_eq_true rfl) ?_
                  iterate 4 refine e_sp rfl rfl rfl ?_
                  refine e_callV0 ok_F_learn rfl lk_H_339 (by rfl) (by rfl) k_F_learn rfl rfl ⟨Nat.le_of_ble_eq_true rfl, Nat.le_of_ble_eq_true rfl⟩ ⟨Nat.zero_le _, Nat.zero_le _⟩ (Nat.le_of_ble_eq_true rfl) ?_
                  refine e_inc 1 rfl rfl rfl rfl ?_
                  refine e_goto rfl ?_
                  try dsimp only
                  rw [nI_1]
                  simp only [pI, rpF, rpG] at ihi
                  rw [if_pos hz] at ihi
                  rw [if_pos h2, if_pos h3] at ihi
                  exact ihi _ _ (by rw [leab_17]; exact h3)
                · refine e_vret rfl rfl (Nat.le_refl _) (Nat.le_refl _) ?_
                  have e9 : pI (rpF p) j (i + 1) (pO (rpF p) c j (bpF S)) = nbS (pI (rpF p) j i (pO (rpF p) c j (bpF S))) := by
                    simp only [pI, rpF, rpG]
                    rw [if_pos hz, if_pos h2, if_neg h3]
                  refine ⟨rfl, ?_⟩
                  rw [rpH, pO_stopI (fun _ _ _ h => rpF_stop h) hj (show i + 1 ≤ c by omega) (by rw [e9]; exact h3), e9])
        exact L2 _ _ hz)
  iterate 2 refine e_sp rfl rfl rfl ?_
  refine e_callV0 ok_F_beginPlane rfl lk_H_229 (by rfl) (by rfl) k_F_beginPlane rfl rfl ⟨Nat.le_of_ble_eq_true rfl, Nat.le_of_ble_eq_true rfl⟩ ⟨Nat.zero_le _, Nat.zero_le _⟩ (Nat.le_of_ble_eq_true rfl) ?_
  refine e_ci 0 rfl rfl ?_
  iterate 1 refine e_sp rfl rfl rfl ?_
  try dsimp only
  exact L1 _ _ _ (by show (bpF S).1 17 7 = 0; rw [(bpF_o (by decide) (by decide)).1]; exact h7)
end
section
/-! page -/
def pgS (S : St) (h : Nat) : Nat → St
  | 0 => S
  | y + 1 => clS (pgS S h y) 2 h ((pgS S h y).1 1 1) (nI y) (lnS (pgS S h y) 4 h (nI y))
def pgA (S : St) (h : Nat) : Nat → Int32
  | 0 => 0
  | y + 1 => pgA S h y + clR (pgS S h y) 2 h ((pgS S h y).1 1 1) (nI y) (lnS (pgS S h y) 4 h (nI y))
theorem pgS_o (S : St) (h o : Nat) (ho : o ≠ 2) : ∀ y, (pgS S h y).1 o = S.1 o ∧ (pgS S h y).2 = S.2
  | 0 => ⟨rfl, rfl⟩
  | y + 1 => ⟨(clS_o _ 2 h _ _ _ o ho).1.trans (pgS_o S h o ho y).1, (clS_o _ 2 h _ _ _ o ho).2.trans (pgS_o S h o ho y).2⟩
/-! shade -/
def shN (S : St) (m : Nat) : Nat → St
  | 0 => S
  | i + 1 => puI (shN S m i) 20 i (nI (neB (shN S m i) (nI i) m))
theorem shN_o (S : St) (m o : Nat) (ho : o ≠ 20) : ∀ i, (shN S m i).1 o = S.1 o ∧ (shN S m i).2 = S.2
  | 0 => ⟨rfl, rfl⟩
  | i + 1 => ⟨(puI_o ho).trans (shN_o S m o ho i).1, (shN_o S m o ho i).2⟩
def shG (T : St) (a : Int32) (i j : Nat) (dk : Int32) : St × Int32 := if wi dk 0 (nI 65 - 1) = 0 then (T, a) else (cgS T (nI i) (nI j) (T.1 20 dk.toNatClampNeg), if cgR T (nI i) (nI j) (T.1 20 dk.toNatClampNeg) = 0 then a else a + 1)
def shF (h i j : Nat) (x : St × Int32) : St × Int32 := shG x.1 x.2 i j (duH x.1 h (nI i) (nI j))
def shH (S : St) (h c r m : Nat) : St × Int32 := pO (shF h) c r (shN S m 65, 0)
theorem shF_o {h i j : Nat} {x : St × Int32} {o : Nat} (ho : o ≠ 8) : (shF h i j x).1.1 o = x.1.1 o ∧ (shF h i j x).1.2 = x.1.2 := by
  unfold shF shG
  split
  · exact ⟨rfl, rfl⟩
  · exact cgS_o ho
theorem shO_o {h c j : Nat} {S : St × Int32} {o : Nat} (ho : o ≠ 8) : (pO (shF h) c j S).1.1 o = S.1.1 o ∧ (pO (shF h) c j S).1.2 = S.1.2 :=
  pO_inv (fun T => T.1.1 o = S.1.1 o ∧ T.1.2 = S.1.2) (fun i j T hT => ⟨(shF_o ho).1.trans hT.1, (shF_o ho).2.trans hT.2⟩) j S ⟨rfl, rfl⟩
theorem shI_o {h i j : Nat} {S : St × Int32} {o : Nat} (ho : o ≠ 8) : (pI (shF h) j i S).1.1 o = S.1.1 o ∧ (pI (shF h) j i S).1.2 = S.1.2 :=
  pI_inv (fun T => T.1.1 o = S.1.1 o ∧ T.1.2 = S.1.2) (fun i T hT => ⟨(shF_o ho).1.trans hT.1, (shF_o ho).2.trans hT.2⟩) i S ⟨rfl, rfl⟩
/-! compose -/
def cmF (h i j : Nat) (T : St) : St := if ouH T (nI i) (nI j) = 0 then laH T h (nI i) (nI j) else T
def cmH (T : St) (h c r : Nat) : St := pO (cmF h) c r T
def cm0 (S : St) (h : Nat) : St := flI S 4 (if S.1 0 12 = 1 then S.1 3 1 else 0) h
theorem cmF_o {h i j : Nat} {T : St} {o : Nat} (ho : o ≠ 4) : (cmF h i j T).1 o = T.1 o ∧ (cmF h i j T).2 = T.2 := by
  unfold cmF
  split
  · exact laA_o _ _ _ _ _ _ _ o ho _
  · exact ⟨rfl, rfl⟩
theorem cmO_o {h c j : Nat} {S : St} {o : Nat} (ho : o ≠ 4) : (pO (cmF h) c j S).1 o = S.1 o ∧ (pO (cmF h) c j S).2 = S.2 :=
  pO_inv (fun T => T.1 o = S.1 o ∧ T.2 = S.2) (fun i j T hT => ⟨(cmF_o ho).1.trans hT.1, (cmF_o ho).2.trans hT.2⟩) j S ⟨rfl, rfl⟩
theorem cmI_o {h i j : Nat} {S : St} {o : Nat} (ho : o ≠ 4) : (pI (cmF h) j i S).1 o = S.1 o ∧ (pI (cmF h) j i S).2 = S.2 :=
  pI_inv (fun T => T.1 o = S.1 o ∧ T.2 = S.2) (fun i T hT => ⟨(cmF_o ho).1.trans hT.1, (cmF_o ho).2.trans hT.2⟩) i S ⟨rfl, rfl⟩
/-! encode -/
theorem sgC_o {S : St} {i j g : Int32} {o : Nat} (h : o ≠ 10) : (sgC S i j g).1 o = S.1 o ∧ (sgC S i j g).2 = S.2 := by
  unfold sgC
  split
  · exact ⟨rfl, rfl⟩
  · exact ⟨puI_o h, rfl⟩
def enF (i j : Nat) (T : St) : St := if skH T (nI i) (nI j) = 0 then sgC T (nI i) (nI j) (grL T (nI i) (nI j)) else T
def enH (S : St) (c r : Nat) : St := pO enF c r (flI S 10 0 256)
theorem enF_o {i j : Nat} {T : St} {o : Nat} (ho : o ≠ 10) : (enF i j T).1 o = T.1 o ∧ (enF i j T).2 = T.2 := by
  unfold enF
  split
  · exact sgC_o ho
  · exact ⟨rfl, rfl⟩
theorem enO_o {c j : Nat} {S : St} {o : Nat} (ho : o ≠ 10) : (pO enF c j S).1 o = S.1 o ∧ (pO enF c j S).2 = S.2 :=
  pO_inv (fun T => T.1 o = S.1 o ∧ T.2 = S.2) (fun i j T hT => ⟨(enF_o ho).1.trans hT.1, (enF_o ho).2.trans hT.2⟩) j S ⟨rfl, rfl⟩
theorem enI_o {i j : Nat} {S : St} {o : Nat} (ho : o ≠ 10) : (pI enF j i S).1 o = S.1 o ∧ (pI enF j i S).2 = S.2 :=
  pI_inv (fun T => T.1 o = S.1 o ∧ T.2 = S.2) (fun i T hT => ⟨(enF_o ho).1.trans hT.1, (enF_o ho).2.trans hT.2⟩) i S ⟨rfl, rfl⟩
/-- the planes, from the highest one down -/
def epS (c r : Nat) : Nat → St → St
  | 0, T => T
  | n + 1, T => epS c r n (wpH T c r (nI n))
theorem wpH_o {S : St} {c r : Nat} {p : Int32} {o : Nat} (h : o ≠ 12) (h2 : o ≠ 13) (h3 : o ≠ 14) (h4 : o ≠ 15) (h5 : o ≠ 16) : (wpH S c r p).1 o = S.1 o ∧ (wpH S c r p).2 = S.2 :=
  ⟨(wpO_o h h2 h3 h4 h5).1.trans (bpF_o h h2).1, (wpO_o h h2 h3 h4 h5).2.trans (bpF_o h h2).2⟩
theorem wpH_run {S : St} {c r n : Nat} {p : Int32} (h : runOK n S) : runOK (n + c * r) (wpH S c r p) := by
  obtain ⟨q, h1, h2⟩ := h
  exact wpO_run r _ ⟨q, h1, by rw [(bpF_o (by decide) (by decide)).1]; exact h2⟩
theorem wbS_o {S : St} {o : Nat} (h : o ≠ 14) (h2 : o ≠ 15) (h3 : o ≠ 16) : (wbS S).1 o = S.1 o ∧ (wbS S).2 = S.2 := by
  unfold wbS
  exact ⟨by rw [puI_o h, puI_o h, puI_o h, puI_o h3, puI_o h3, flI_o h2], rfl⟩
def ec0 (S : St) (c r : Nat) : St := bpF (wbS (enH S c r))
def ec1 (S : St) (c r m : Nat) : St := epS c r (bl 6 m) (ec0 S c r)
def ec2 (S : St) (c r m : Nat) : St := enW (ec1 S c r m) ((ec1 S c r m).1 14 3).toNatClampNeg
def ecS (S : St) (c r m : Nat) : St := puI (ec2 S c r m) 0 14 ((ec2 S c r m).1 14 4)
theorem bl_le : ∀ f m, bl f m ≤ f
  | 0, _ => Nat.le_refl _
  | f + 1, m => by
    simp only [bl]
    split
    · omega
    · have := bl_le f (m / 2); omega
set_option maxHeartbeats 4000000 in
set_option maxRecDepth 40000 in
theorem k_H_page {l : Launch} {h : Nat} {S : St} (hh : h < 2 ^ 31) (h0 : S.1 0 1 = nI h) : KK l (SHm h) (2, 45) m_H_page [aR 0] S (ans (some (aI (pgA S h h))) (pgS S h h)) := by
  refine k_start ok_H_page (Nat.le_of_ble_eq_true rfl) ?_
  have L := e_for (P := fun i => E0 l (SHm h) (2, 45) m_H_page 4 [some (aR 0), some (aI (pgA S h i)), some (aI (nI i))] [] (pgS S h i) (ans (some (aI (pgA S h h))) (pgS S h h))) (h) (by
      iterate 3 refine e_sp rfl rfl rfl ?_
      refine e_icge rfl (fun h1 => ?_) (fun h1 => ?_)
      · iterate 1 refine e_sp rfl rfl rfl ?_
        refine e_iret rfl rfl (Nat.le_refl _) (Nat.le_refl _) ?_
        exact ⟨rfl, rfl⟩
      · try dsimp only
        rw [(pgS_o S h 0 (by decide) _).1, h0] at h1
        exact absurd (nI_le (Nat.le_refl _) hh) h1) (fun i hi ihi => by
      iterate 3 refine e_sp rfl rfl rfl ?_
      refine e_icge rfl (fun h1 => ?_) (fun h1 => ?_)
      · try dsimp only
        rw [(pgS_o S h 0 (by decide) _).1, h0] at h1
        exact absurd h1 (nI_ge hi hh)
      · iterate 7 refine e_sp rfl rfl rfl ?_
        refine e_callV1 ok_S_line rfl lk_H_189 (by rfl) (by rfl) (k_S_line_3 hh) rfl rfl ⟨Nat.le_of_ble_eq_true rfl, Nat.le_of_ble_eq_true rfl⟩ ⟨Nat.zero_le _, Nat.zero_le _⟩ (Nat.le_of_ble_eq_true rfl) ?_
        refine e_callV1 ok_S_changeLine rfl lk_H_186 (by rfl) (by rfl) (k_S_changeLine_1 hh) rfl rfl ⟨Nat.le_of_ble_eq_true rfl, Nat.le_of_ble_eq_true rfl⟩ ⟨Nat.zero_le _, Nat.zero_le _⟩ (Nat.le_of_ble_eq_true rfl) ?_
        iterate 2 refine e_sp rfl rfl rfl ?_
        refine e_inc 1 rfl rfl rfl rfl ?_
        refine e_goto rfl ?_
        try dsimp only
        rw [nI_1]
        exact ihi)
  refine e_ci 0 rfl rfl ?_
  iterate 1 refine e_sp rfl rfl rfl ?_
  refine e_ci 0 rfl rfl ?_
  iterate 1 refine e_sp rfl rfl rfl ?_
  try dsimp only
  exact L
set_option maxHeartbeats 4000000 in
set_option maxRecDepth 40000 in
theorem k_H_shade {l : Launch} {h : Nat} {S : St} {c r m : Nat} (hh : h < 2 ^ 31) (h0 : S.1 0 1 = nI h) (hc : S.1 7 1 = nI c) (hr : S.1 7 2 = nI r) (hc2 : c < 2 ^ 31) (hr2 : r < 2 ^ 31) (hm : S.1 5 3 = nI (m + 1)) (hm2 : m < 64) : KK l (SHm h) (3, 72) m_H_shade [aR 0] S (ans (some (aI (shH S h c r m).2)) (shH S h c r m).1) := by
  refine k_start ok_H_shade (Nat.le_of_ble_eq_true rfl) ?_
  have hrow : ∀ j, (pO (shF h) c j (shN S m 65, 0)).1.1 7 2 = nI r := fun j => by
    rw [(shO_o (by decide)).1]; show (shN S m 65).1 7 2 = _; rw [(shN_o S m 7 (by decide) _).1]; exact hr
  have hcol : ∀ j i, (pI (shF h) j i (pO (shF h) c j (shN S m 65, 0))).1.1 7 1 = nI c := fun j i => by
    rw [(shI_o (by decide)).1, (shO_o (by decide)).1]; show (shN S m 65).1 7 1 = _; rw [(shN_o S m 7 (by decide) _).1]; exact hc
  have hhe : ∀ j i, (pI (shF h) j i (pO (shF h) c j (shN S m 65, 0))).1.1 0 1 = nI h := fun j i => by
    rw [(shI_o (by decide)).1, (shO_o (by decide)).1]; show (shN S m 65).1 0 1 = _; rw [(shN_o S m 0 (by decide) _).1]; exact h0
  have L1 := e_for (P := fun j => ∀ z3 z4, E0 l (SHm h) (3, 72) m_H_shade 35 [some (aR 0), some (aI (pO (shF h) c j (shN S m 65, 0)).2), some (aI (nI j)), z3, z4] [] ((pO (shF h) c j (shN S m 65, 0)).1) (ans (some (aI (shH S h c r m).2)) (shH S h c r m).1)) (r) (by
      intro z3 z4
      iterate 4 refine e_sp rfl rfl rfl ?_
      refine e_icge rfl (fun h1 => ?_) (fun h1 => ?_)
      · iterate 1 refine e_sp rfl rfl rfl ?_
        refine e_iret rfl rfl (Nat.le_refl _) (Nat.le_refl _) ?_
        exact ⟨rfl, rfl⟩
      · try dsimp only
        rw [hrow] at h1
        exact absurd (nI_le (Nat.le_refl _) hr2) h1) (fun j hj ihj => by
      intro z3 z4
      iterate 4 refine e_sp rfl rfl rfl ?_
      refine e_icge rfl (fun h1 => ?_) (fun h1 => ?_)
      · try dsimp only
        rw [hrow] at h1
        exact absurd h1 (nI_ge hj hr2)
      · refine e_ci 0 rfl rfl ?_
        iterate 1 refine e_sp rfl rfl rfl ?_
        try dsimp only
        have L2 := e_for (P := fun i => ∀ z4, E0 l (SHm h) (3, 72) m_H_shade 48 [some (aR 0), some (aI (pI (shF h) j i (pO (shF h) c j (shN S m 65, 0))).2), some (aI (nI j)), some (aI (nI i)), z4] [] ((pI (shF h) j i (pO (shF h) c j (shN S m 65, 0))).1) (ans (some (aI (shH S h c r m).2)) (shH S h c r m).1)) (c) (by
            intro z4
            iterate 4 refine e_sp rfl rfl rfl ?_
            refine e_icge rfl (fun h1 => ?_) (fun h1 => ?_)
            · refine e_inc 1 rfl rfl rfl rfl ?_
              refine e_goto rfl ?_
              try dsimp only
              rw [nI_1]
              exact ihj _ _
            · try dsimp only
              rw [hcol] at h1
              exact absurd (nI_le (Nat.le_refl _) hc2) h1) (fun i hi ihi => by
            intro z4
            iterate 4 refine e_sp rfl rfl rfl ?_
            refine e_icge rfl (fun h1 => ?_) (fun h1 => ?_)
            · try dsimp only
              rw [hcol] at h1
              exact absurd h1 (nI_ge hi hc2)
            · iterate 3 refine e_sp rfl rfl rfl ?_
              refine e_callV1 ok_H_darkUnder rfl lk_H_193 (by rfl) (by rfl) (k_H_darkUnder hh (hhe j i)) rfl rfl ⟨Nat.le_of_ble_eq_true rfl, Nat.le_of_ble_eq_true rfl⟩ ⟨Nat.zero_le _, Nat.zero_le _⟩ (Nat.le_of_ble_eq_true rfl) ?_
              iterate 2 refine e_sp rfl rfl rfl ?_
              refine e_ci 0 rfl rfl ?_
              iterate 2 refine e_sp rfl rfl rfl ?_
              refine e_alen rfl (by first | rfl | assumption) (by decide) ?_
              refine e_ci 1 rfl rfl ?_
              iterate 1 refine e_sp rfl rfl rfl ?_
              refine e_callS1 ok_H_isWithin rfl lk_H_83 k_H_isWithin rfl rfl ⟨Nat.le_of_ble_eq_true rfl, Nat.le_of_ble_eq_true rfl⟩ ⟨Nat.zero_le _, Nat.zero_le _⟩ (Nat.le_of_ble_eq_true rfl) ?_
              refine e_ifeq rfl (fun h2 => ?_) (fun h2 => ?_)
              · refine e_inc 1 rfl rfl rfl rfl ?_
                refine e_goto rfl ?_
                try dsimp only
                rw [nI_1]
                simp only [pI] at ihi
                simp only [shF, shG] at ihi
                first | rw [if_pos h2] at ihi | rw [if_neg h2] at ihi
                try dsimp only at ihi
                exact ihi _
              · iterate 7 refine e_sp rfl rfl rfl ?_
                refine e_iald rfl (by first | rfl | assumption) (by exact wi_in (by decide) (by assumption)) ?_
                refine e_callV1 ok_L_changeGrey rfl lk_H_171 (by rfl) (by rfl) k_L_changeGrey rfl rfl ⟨Nat.le_of_ble_eq_true rfl, Nat.le_of_ble_eq_true rfl⟩ ⟨Nat.zero_le _, Nat.zero_le _⟩ (Nat.le_of_ble_eq_true rfl) ?_
                refine e_ifeq rfl (fun h3 => ?_) (fun h3 => ?_)
                · refine e_inc 1 rfl rfl rfl rfl ?_
                  refine e_goto rfl ?_
                  try dsimp only
                  rw [nI_1]
                  simp only [pI] at ihi
                  simp only [shF, shG] at ihi
                  first | rw [if_pos h2] at ihi | rw [if_neg h2] at ihi
                  first | rw [if_pos h3] at ihi | rw [if_neg h3] at ihi
                  try dsimp only at ihi
                  exact ihi _
                · refine e_inc 1 rfl rfl rfl rfl ?_
                  refine e_inc 1 rfl rfl rfl rfl ?_
                  refine e_goto rfl ?_
                  try dsimp only
                  rw [nI_1]
                  simp only [pI] at ihi
                  simp only [shF, shG] at ihi
                  first | rw [if_pos h2] at ihi | rw [if_neg h2] at ihi
                  first | rw [if_pos h3] at ihi | rw [if_neg h3] at ihi
                  try dsimp only at ihi
                  exact ihi _)
        exact L2 _)
  have L0 := e_for (P := fun k => E0 l (SHm h) (3, 72) m_H_shade 2 [some (aR 0), some (aI (nI k)), none, none, none] [] (shN S m k) (ans (some (aI (shH S h c r m).2)) (shH S h c r m).1)) (65) (by
      iterate 3 refine e_sp rfl rfl rfl ?_
      refine e_alen rfl (by first | rfl | assumption) (by decide) ?_
      refine e_icge rfl (fun h1 => ?_) (fun h1 => ?_)
      · refine e_ci 0 rfl rfl ?_
        iterate 1 refine e_sp rfl rfl rfl ?_
        refine e_ci 0 rfl rfl ?_
        iterate 1 refine e_sp rfl rfl rfl ?_
        try dsimp only
        exact L1 _ _
      · try dsimp only
        exact absurd (nI_le (Nat.le_refl _) (by decide)) h1) (fun k hk ihk => by
      iterate 3 refine e_sp rfl rfl rfl ?_
      refine e_alen rfl (by first | rfl | assumption) (by decide) ?_
      refine e_icge rfl (fun h1 => ?_) (fun h1 => ?_)
      · try dsimp only
        exact absurd h1 (nI_ge hk (by decide))
      · iterate 6 refine e_sp rfl rfl rfl ?_
        refine e_callV1 ok_B_nearestTo rfl lk_H_196 (by rfl) (by rfl) (k_B_nearestTo (m := m) (by rw [(shN_o S m 5 (by decide) _).1]; exact hm) hm2) rfl rfl ⟨Nat.le_of_ble_eq_true rfl, Nat.le_of_ble_eq_true rfl⟩ ⟨Nat.zero_le _, Nat.zero_le _⟩ (Nat.le_of_ble_eq_true rfl) ?_
        refine e_iast rfl (by first | rfl | assumption) (by exact vp_in_nI hk (by decide)) ?_
        refine e_inc 1 rfl rfl rfl rfl ?_
        refine e_goto rfl ?_
        try dsimp only
        rw [nI_clamp (by omega), nI_1]
        exact ihk)
  refine e_ci 0 rfl rfl ?_
  iterate 1 refine e_sp rfl rfl rfl ?_
  try dsimp only
  exact L0
set_option maxHeartbeats 4000000 in
set_option maxRecDepth 40000 in
theorem k_H_composeT {l : Launch} {h : Nat} {T0 : St} {c r : Nat} (hh : h < 2 ^ 31) (h0 : T0.1 0 1 = nI h) (hc : T0.1 7 1 = nI c) (hr : T0.1 7 2 = nI r) (hc2 : c < 2 ^ 31) (hr2 : r < 2 ^ 31) (z2 : Option AV) : E0 l (SHm h) (4, 95) m_H_compose 22 [some (aR 0), some (aI (nI 0)), z2] [] T0 (ans (some (aI (dkA (cmH T0 h c r) 4 h))) (cmH T0 h c r)) := by
  have hrow : ∀ j, (pO (cmF h) c j T0).1 7 2 = nI r := fun j => by rw [(cmO_o (by decide)).1]; exact hr
  have hcol : ∀ j i, (pI (cmF h) j i (pO (cmF h) c j T0)).1 7 1 = nI c := fun j i => by rw [(cmI_o (by decide)).1, (cmO_o (by decide)).1]; exact hc
  have hhe : ∀ j i, (pI (cmF h) j i (pO (cmF h) c j T0)).1 0 1 = nI h := fun j i => by rw [(cmI_o (by decide)).1, (cmO_o (by decide)).1]; exact h0
  have L1 := e_for (P := fun j => ∀ z2, E0 l (SHm h) (4, 95) m_H_compose 22 [some (aR 0), some (aI (nI j)), z2] [] (pO (cmF h) c j T0) (ans (some (aI (dkA (cmH T0 h c r) 4 h))) (cmH T0 h c r))) (r) (by
      intro z2
      iterate 4 refine e_sp rfl rfl rfl ?_
      refine e_icge rfl (fun h1 => ?_) (fun h1 => ?_)
      · iterate 2 refine e_sp rfl rfl rfl ?_
        refine e_callV1 ok_S_darkSamples rfl lk_H_215 (by rfl) (by rfl) (k_S_darkSamples_3 hh) rfl rfl ⟨Nat.le_of_ble_eq_true rfl, Nat.le_of_ble_eq_true rfl⟩ ⟨Nat.zero_le _, Nat.zero_le _⟩ (Nat.le_of_ble_eq_true rfl) ?_
        refine e_iret rfl rfl (Nat.le_refl _) (Nat.le_refl _) ?_
        exact ⟨rfl, rfl⟩
      · try dsimp only
        rw [hrow] at h1
        exact absurd (nI_le (Nat.le_refl _) hr2) h1) (fun j hj ihj => by
      intro z2
      iterate 4 refine e_sp rfl rfl rfl ?_
      refine e_icge rfl (fun h1 => ?_) (fun h1 => ?_)
      · try dsimp only
        rw [hrow] at h1
        exact absurd h1 (nI_ge hj hr2)
      · refine e_ci 0 rfl rfl ?_
        iterate 1 refine e_sp rfl rfl rfl ?_
        try dsimp only
        have L2 := e_for (P := fun i => E0 l (SHm h) (4, 95) m_H_compose 35 [some (aR 0), some (aI (nI j)), some (aI (nI i))] [] (pI (cmF h) j i (pO (cmF h) c j T0)) (ans (some (aI (dkA (cmH T0 h c r) 4 h))) (cmH T0 h c r))) (c) (by
            iterate 4 refine e_sp rfl rfl rfl ?_
            refine e_icge rfl (fun h1 => ?_) (fun h1 => ?_)
            · refine e_inc 1 rfl rfl rfl rfl ?_
              refine e_goto rfl ?_
              try dsimp only
              rw [nI_1]
              exact ihj _
            · try dsimp only
              rw [hcol] at h1
              exact absurd (nI_le (Nat.le_refl _) hc2) h1) (fun i hi ihi => by
            iterate 4 refine e_sp rfl rfl rfl ?_
            refine e_icge rfl (fun h1 => ?_) (fun h1 => ?_)
            · try dsimp only
              rw [hcol] at h1
              exact absurd h1 (nI_ge hi hc2)
            · iterate 3 refine e_sp rfl rfl rfl ?_
              refine e_callV1 ok_H_isOutside rfl lk_H_162 (by rfl) (by rfl) k_H_isOutside rfl rfl ⟨Nat.le_of_ble_eq_true rfl, Nat.le_of_ble_eq_true rfl⟩ ⟨Nat.zero_le _, Nat.zero_le _⟩ (Nat.le_of_ble_eq_true rfl) ?_
              refine e_ifne rfl (fun h2 => ?_) (fun h2 => ?_)
              · refine e_inc 1 rfl rfl rfl rfl ?_
                refine e_goto rfl ?_
                try dsimp only
                rw [nI_1]
                simp only [pI, cmF] at ihi
                first | rw [if_pos h2] at ihi | rw [if_neg h2] at ihi
                exact ihi
              · iterate 3 refine e_sp rfl rfl rfl ?_
                refine e_callV0 ok_H_layPattern rfl lk_H_212 (by rfl) (by rfl) (k_H_layPattern hh (hhe j i) (by assumption)) rfl rfl ⟨Nat.le_of_ble_eq_true rfl, Nat.le_of_ble_eq_true rfl⟩ ⟨Nat.zero_le _, Nat.zero_le _⟩ (Nat.le_of_ble_eq_true rfl) ?_
                refine e_inc 1 rfl rfl rfl rfl ?_
                refine e_goto rfl ?_
                try dsimp only
                rw [nI_1]
                simp only [pI, cmF] at ihi
                first | rw [if_pos h2] at ihi | rw [if_neg h2] at ihi
                exact ihi)
        exact L2)
  exact L1 z2
set_option maxHeartbeats 4000000 in
set_option maxRecDepth 40000 in
theorem k_H_compose {l : Launch} {h : Nat} {S : St} {c r : Nat} (hh : h < 2 ^ 31) (h0 : S.1 0 1 = nI h) (hc : S.1 7 1 = nI c) (hr : S.1 7 2 = nI r) (hc2 : c < 2 ^ 31) (hr2 : r < 2 ^ 31) : KK l (SHm h) (4, 95) m_H_compose [aR 0] S (ans (some (aI (dkA (cmH (cm0 S h) h c r) 4 h))) (cmH (cm0 S h) h c r)) := by
  refine k_start ok_H_compose (Nat.le_of_ble_eq_true rfl) ?_
  iterate 4 refine e_sp rfl rfl rfl ?_
  refine e_ci 1 rfl rfl ?_
  refine e_icne rfl (fun h1 => ?_) (fun h1 => ?_)
  · refine e_ci 0 rfl rfl ?_
    refine e_callV0 ok_S_fill rfl lk_H_208 (by rfl) (by rfl) (k_S_fill_3 hh) rfl rfl ⟨Nat.le_of_ble_eq_true rfl, Nat.le_of_ble_eq_true rfl⟩ ⟨Nat.zero_le _, Nat.zero_le _⟩ (Nat.le_of_ble_eq_true rfl) ?_
    refine e_ci 0 rfl rfl ?_
    iterate 1 refine e_sp rfl rfl rfl ?_
    try dsimp only
    refine e_st (S2 := cm0 S h) (by simp [cm0, h1]) ?_
    exact k_H_composeT hh (by rw [cm0, flI_o (by decide)]; exact h0) (by rw [cm0, flI_o (by decide)]; exact hc) (by rw [cm0, flI_o (by decide)]; exact hr) hc2 hr2 none
  · refine e_ci 1 rfl rfl ?_
    refine e_goto rfl ?_
    refine e_callV0 ok_S_fill rfl lk_H_208 (by rfl) (by rfl) (k_S_fill_3 hh) rfl rfl ⟨Nat.le_of_ble_eq_true rfl, Nat.le_of_ble_eq_true rfl⟩ ⟨Nat.zero_le _, Nat.zero_le _⟩ (Nat.le_of_ble_eq_true rfl) ?_
    refine e_ci 0 rfl rfl ?_
    iterate 1 refine e_sp rfl rfl rfl ?_
    try dsimp only
    refine e_st (S2 := cm0 S h) (by simp [cm0, h1]) ?_
    exact k_H_composeT hh (by rw [cm0, flI_o (by decide)]; exact h0) (by rw [cm0, flI_o (by decide)]; exact hc) (by rw [cm0, flI_o (by decide)]; exact hr) hc2 hr2 none
set_option maxHeartbeats 4000000 in
set_option maxRecDepth 40000 in
theorem k_H_encodeP {l : Launch} {h c r m : Nat} {S : St} (hc2 : c < 2 ^ 31) (hr2 : r < 2 ^ 31) : ∀ (n : Nat) (T : St) (a : Nat) (z2 : Option AV), n ≤ 6 → runOK a T → a + (c * r) * n + c < 2 ^ 31 → T.1 7 1 = nI c → T.1 7 2 = nI r → epS c r n T = ec1 S c r m → E0 l (SHm h) (5, 118) m_H_encode 96 [some (aR 0), some (aI (nI n - 1)), z2] [] T (ans (some (aI (szW (ecS S c r m)))) (ecS S c r m)) := by
  intro n
  induction n with
  | zero =>
    intro T a z2 hn hT ha hc9 hr9 hq
    have hq : T = ec1 S c r m := hq
    iterate 1 refine e_sp rfl rfl rfl ?_
    refine e_iflt rfl (fun h1 => ?_) (fun h1 => ?_)
    · iterate 2 refine e_sp rfl rfl rfl ?_
      refine e_callV0 ok_W_endRun rfl lk_H_235 (by rfl) (by rfl) (k_W_endRun (nI_tn (hT.pos (by omega))).1 (nI_tn (hT.pos (by omega))).2) rfl rfl ⟨Nat.le_of_ble_eq_true rfl, Nat.le_of_ble_eq_true rfl⟩ ⟨Nat.zero_le _, Nat.zero_le _⟩ (Nat.le_of_ble_eq_true rfl) ?_
      iterate 7 refine e_sp rfl rfl rfl ?_
      refine e_callV1 ok_W_size rfl lk_H_242 (by rfl) (by rfl) k_W_size rfl rfl ⟨Nat.le_of_ble_eq_true rfl, Nat.le_of_ble_eq_true rfl⟩ ⟨Nat.zero_le _, Nat.zero_le _⟩ (Nat.le_of_ble_eq_true rfl) ?_
      refine e_iret rfl rfl (Nat.le_refl _) (Nat.le_refl _) ?_
      rw [hq]
      exact ⟨rfl, rfl⟩
    · try dsimp only
      exact absurd (by decide) h1
  | succ n ih =>
    intro T a z2 hn hT ha hc9 hr9 hq
    rw [Nat.mul_succ] at ha
    iterate 1 refine e_sp rfl rfl rfl ?_
    refine e_iflt rfl (fun h1 => ?_) (fun h1 => ?_)
    · try dsimp only
      exact absurd h1 (by rw [nI_pred]; exact nI_pos (by omega))
    · iterate 1 refine e_sp rfl rfl rfl ?_
      rw [nI_pred]
      iterate 1 refine e_sp rfl rfl rfl ?_
      refine e_callV0 ok_H_writePlane rfl lk_H_232 (by rfl) (by rfl) (k_H_writePlane (c := c) (r := r) (n := a) hc9 hr9 hc2 hr2 hT (by omega)) rfl rfl ⟨Nat.le_of_ble_eq_true rfl, Nat.le_of_ble_eq_true rfl⟩ ⟨Nat.zero_le _, Nat.zero_le _⟩ (Nat.le_of_ble_eq_true rfl) ?_
      refine e_inc (-1) rfl rfl rfl rfl ?_
      refine e_goto rfl ?_
      try dsimp only
      rw [show nI n + (-1) = nI n - 1 from (Int32.sub_eq_add_neg _ _).symm]
      exact ih (wpH T c r (nI n)) (a + c * r) z2 (by omega) (wpH_run hT) (by omega) (by rw [(wpH_o (by decide) (by decide) (by decide) (by decide) (by decide)).1]; exact hc9) (by rw [(wpH_o (by decide) (by decide) (by decide) (by decide) (by decide)).1]; exact hr9) hq
set_option maxHeartbeats 4000000 in
set_option maxRecDepth 40000 in
theorem k_H_encode {l : Launch} {h : Nat} {S : St} {c r m : Nat} (hc : S.1 7 1 = nI c) (hr : S.1 7 2 = nI r) (hc2 : c < 2 ^ 31) (hr2 : r < 2 ^ 31) (hcr : c * r ≤ 256) (hc16 : c ≤ 16) (hm : S.1 5 3 = nI (m + 1)) (hm2 : m < 64) : KK l (SHm h) (5, 118) m_H_encode [aR 0] S (ans (some (aI (szW (ecS S c r m)))) (ecS S c r m)) := by
  refine k_start ok_H_encode (Nat.le_of_ble_eq_true rfl) ?_
  have hrow : ∀ j, (pO enF c j (flI S 10 0 256)).1 7 2 = nI r := fun j => by rw [(enO_o (by decide)).1, flI_o (by decide)]; exact hr
  have hcol : ∀ j i, (pI enF j i (pO enF c j (flI S 10 0 256))).1 7 1 = nI c := fun j i => by rw [(enI_o (by decide)).1, (enO_o (by decide)).1, flI_o (by decide)]; exact hc
  have hek : ∀ k, (enH S c r).1 7 k = S.1 7 k := fun k => by rw [enH, (enO_o (by decide)).1, flI_o (by decide)]
  have h7 : ∀ k, (ec0 S c r).1 7 k = S.1 7 k := fun k => by rw [ec0, (bpF_o (by decide) (by decide)).1, (wbS_o (by decide) (by decide) (by decide)).1, hek]
  have hmany : (ec0 S c r).1 5 3 = nI (m + 1) := by
    rw [ec0, (bpF_o (by decide) (by decide)).1, (wbS_o (by decide) (by decide) (by decide)).1, enH, (enO_o (by decide)).1, flI_o (by decide)]; exact hm
  have hrun : runOK 0 (ec0 S c r) := ⟨0, Nat.le_refl _, by rw [ec0, (bpF_o (by decide) (by decide)).1]; simp [wbS, puI, pt, upd, nI_0]⟩
  have hb6 := bl_le 6 m
  have L0 : ∀ z2, E0 l (SHm h) (5, 118) m_H_encode 96 [some (aR 0), some (aI (nI (bl 6 m) - 1)), z2] [] (ec0 S c r) (ans (some (aI (szW (ecS S c r m)))) (ecS S c r m)) := fun z2 =>
    k_H_encodeP hc2 hr2 (bl 6 m) (ec0 S c r) 0 z2 hb6 hrun (by have : (c * r) * bl 6 m ≤ 256 * 6 := Nat.mul_le_mul hcr hb6; omega) ((h7 1).trans hc) ((h7 2).trans hr) rfl
  have L1 := e_for (P := fun j => ∀ z2, E0 l (SHm h) (5, 118) m_H_encode 9 [some (aR 0), some (aI (nI j)), z2] [] (pO enF c j (flI S 10 0 256)) (ans (some (aI (szW (ecS S c r m)))) (ecS S c r m))) (r) (by
      intro z2
      iterate 4 refine e_sp rfl rfl rfl ?_
      refine e_icge rfl (fun h1 => ?_) (fun h1 => ?_)
      · iterate 2 refine e_sp rfl rfl rfl ?_
        refine e_callV0 ok_W_begin rfl lk_H_228 (by rfl) (by rfl) k_W_begin rfl rfl ⟨Nat.le_of_ble_eq_true rfl, Nat.le_of_ble_eq_true rfl⟩ ⟨Nat.zero_le _, Nat.zero_le _⟩ (Nat.le_of_ble_eq_true rfl) ?_
        iterate 2 refine e_sp rfl rfl rfl ?_
        refine e_callV0 ok_F_beginPlane rfl lk_H_229 (by rfl) (by rfl) k_F_beginPlane rfl rfl ⟨Nat.le_of_ble_eq_true rfl, Nat.le_of_ble_eq_true rfl⟩ ⟨Nat.zero_le _, Nat.zero_le _⟩ (Nat.le_of_ble_eq_true rfl) ?_
        iterate 2 refine e_sp rfl rfl rfl ?_
        refine e_callV1 ok_B_planes rfl lk_H_103 (by rfl) (by rfl) (k_B_planes (m := m) hmany hm2) rfl rfl ⟨Nat.le_of_ble_eq_true rfl, Nat.le_of_ble_eq_true rfl⟩ ⟨Nat.zero_le _, Nat.zero_le _⟩ (Nat.le_of_ble_eq_true rfl) ?_
        refine e_ci 1 rfl rfl ?_
        iterate 2 refine e_sp rfl rfl rfl ?_
        try dsimp only
        exact L0 _
      · try dsimp only
        rw [hrow] at h1
        exact absurd (nI_le (Nat.le_refl _) hr2) h1) (fun j hj ihj => by
      intro z2
      iterate 4 refine e_sp rfl rfl rfl ?_
      refine e_icge rfl (fun h1 => ?_) (fun h1 => ?_)
      · try dsimp only
        rw [hrow] at h1
        exact absurd h1 (nI_ge hj hr2)
      · refine e_ci 0 rfl rfl ?_
        iterate 1 refine e_sp rfl rfl rfl ?_
        try dsimp only
        have L2 := e_for (P := fun i => E0 l (SHm h) (5, 118) m_H_encode 22 [some (aR 0), some (aI (nI j)), some (aI (nI i))] [] (pI enF j i (pO enF c j (flI S 10 0 256))) (ans (some (aI (szW (ecS S c r m)))) (ecS S c r m))) (c) (by
            iterate 4 refine e_sp rfl rfl rfl ?_
            refine e_icge rfl (fun h1 => ?_) (fun h1 => ?_)
            · refine e_inc 1 rfl rfl rfl rfl ?_
              refine e_goto rfl ?_
              try dsimp only
              rw [nI_1]
              exact ihj _
            · try dsimp only
              rw [hcol] at h1
              exact absurd (nI_le (Nat.le_refl _) hc2) h1) (fun i hi ihi => by
            iterate 4 refine e_sp rfl rfl rfl ?_
            refine e_icge rfl (fun h1 => ?_) (fun h1 => ?_)
            · try dsimp only
              rw [hcol] at h1
              exact absurd h1 (nI_ge hi hc2)
            · iterate 3 refine e_sp rfl rfl rfl ?_
              refine e_callV1 ok_H_isSkipped rfl lk_H_222 (by rfl) (by rfl) k_H_isSkipped rfl rfl ⟨Nat.le_of_ble_eq_true rfl, Nat.le_of_ble_eq_true rfl⟩ ⟨Nat.zero_le _, Nat.zero_le _⟩ (Nat.le_of_ble_eq_true rfl) ?_
              refine e_ifne rfl (fun h2 => ?_) (fun h2 => ?_)
              · refine e_inc 1 rfl rfl rfl rfl ?_
                refine e_goto rfl ?_
                try dsimp only
                rw [nI_1]
                simp only [pI, enF] at ihi
                first | rw [if_pos h2] at ihi | rw [if_neg h2] at ihi
                exact ihi
              · iterate 8 refine e_sp rfl rfl rfl ?_
                refine e_callV1 ok_L_greyOf rfl lk_H_174 (by rfl) (by rfl) k_L_greyOf rfl rfl ⟨Nat.le_of_ble_eq_true rfl, Nat.le_of_ble_eq_true rfl⟩ ⟨Nat.zero_le _, Nat.zero_le _⟩ (Nat.le_of_ble_eq_true rfl) ?_
                refine e_callV0 ok_C_setGrey rfl lk_H_225 (by rfl) (by rfl) k_C_setGrey rfl rfl ⟨Nat.le_of_ble_eq_true rfl, Nat.le_of_ble_eq_true rfl⟩ ⟨Nat.zero_le _, Nat.zero_le _⟩ (Nat.le_of_ble_eq_true rfl) ?_
                refine e_inc 1 rfl rfl rfl rfl ?_
                refine e_goto rfl ?_
                try dsimp only
                rw [nI_1]
                simp only [pI, enF] at ihi
                first | rw [if_pos h2] at ihi | rw [if_neg h2] at ihi
                exact ihi)
        exact L2)
  iterate 2 refine e_sp rfl rfl rfl ?_
  refine e_callV0 ok_C_begin rfl lk_H_220 (by rfl) (by rfl) k_C_begin rfl rfl ⟨Nat.le_of_ble_eq_true rfl, Nat.le_of_ble_eq_true rfl⟩ ⟨Nat.zero_le _, Nat.zero_le _⟩ (Nat.le_of_ble_eq_true rfl) ?_
  refine e_ci 0 rfl rfl ?_
  iterate 1 refine e_sp rfl rfl rfl ?_
  try dsimp only
  exact L1 none
end
section
/-! decode -/
theorem edT_o {S : St} {o : Nat} (h : o ≠ 17) (h2 : o ≠ 19) : (edT S).1 o = S.1 o ∧ (edT S).2 = S.2 := by
  unfold edT
  split
  · split
    · exact rrS_o h h2
    · exact ⟨rfl, rfl⟩
  · exact ⟨rfl, rfl⟩
theorem edE_o {T : St} {o : Nat} (h : o ≠ 17) : (edE T).1 o = T.1 o ∧ (edE T).2 = T.2 := by
  unfold edE
  split
  · split
    · exact ⟨puI_o h, rfl⟩
    · exact ⟨rfl, rfl⟩
  · exact ⟨rfl, rfl⟩
theorem edS_o {S : St} {o : Nat} (h : o ≠ 17) (h2 : o ≠ 19) : (edS S).1 o = S.1 o ∧ (edS S).2 = S.2 := ⟨(edE_o h).1.trans (edT_o h h2).1, (edE_o h).2.trans (edT_o h h2).2⟩
theorem rpH_o {S : St} {c r : Nat} {p : Int32} {o : Nat} (h : o ≠ 10) (h2 : o ≠ 12) (h3 : o ≠ 13) (h4 : o ≠ 17) (h5 : o ≠ 19) : (rpH S c r p).1 o = S.1 o ∧ (rpH S c r p).2 = S.2 :=
  ⟨(rpO_o h h2 h3 h4 h5).1.trans (bpF_o h2 h3).1, (rpO_o h h2 h3 h4 h5).2.trans (bpF_o h2 h3).2⟩
theorem rpH_came {S : St} {c r : Nat} {p : Int32} : (rpH S c r p).1 17 2 = S.1 17 2 := by
  unfold rpH
  rw [rpO_came, (bpF_o (by decide) (by decide)).1]
def dcP (S : St) (c r : Nat) : Int32 := S.1 7 1 * S.1 7 2 - (if S.1 0 13 = 1 then poH S c r else 0)
def dpS (c r : Nat) : Nat → St → St
  | 0, T => T
  | n + 1, T => if T.1 17 7 = 0 then dpS c r n (rpH T c r (nI n)) else T
def dcW (T : St) : St := puI (edS T) 0 14 ((edS T).1 17 6)
def dcN (W : St) : Int32 := if W.1 17 7 = 0 then (if ggC W 256 < W.1 5 3 then 0 else 4) else W.1 17 7
def dcR (W : St) (pl : Int32) : Int32 := if dcN W = 0 then pl else -1 - dcN W
def dcS (W : St) (c r : Nat) : St := if dcN W = 0 then tgH (puI W 17 2 0) c r else puI W 17 2 0
def dc0 (S : St) (c r m : Nat) : St := bpF (rgS (flI S 10 0 256) (dcP S c r * nI (bl 6 m)))
def dcX (S : St) (c r m : Nat) : St := dcW (dpS c r (bl 6 m) (dc0 S c r m))
theorem rgS_o {S : St} {n : Int32} {o : Nat} (h : o ≠ 17) (h2 : o ≠ 19) : (rgS S n).1 o = S.1 o ∧ (rgS S n).2 = S.2 := by
  unfold rgS
  exact ⟨by rw [puI_o h, puI_o h, puI_o h, puI_o h, puI_o h, puI_o h2, puI_o h2], rfl⟩
theorem rgS_came {S : St} {n : Int32} : (rgS S n).1 17 2 = S.1 17 2 := by simp [rgS, puI, pt, upd]
set_option maxHeartbeats 4000000 in
set_option maxRecDepth 40000 in
theorem k_H_decodeT {l : Launch} {h : Nat} {W : St} {c r : Nat} {pl : Int32} (hc : W.1 7 1 = nI c) (hr : W.1 7 2 = nI r) (hc2 : c < 2 ^ 31) (hr2 : r < 2 ^ 31) (z : Option AV) : E0 l (SHm h) (6, 136) m_H_decode 116 [some (aR 0), some (aI pl), z] [] W (ans (some (aI (dcR W pl))) (dcS W c r)) := by
  iterate 5 refine e_sp rfl rfl rfl ?_
  refine e_ifne rfl (fun h1 => ?_) (fun h1 => ?_)
  · iterate 2 refine e_sp rfl rfl rfl ?_
    refine e_callV0 ok_R_forgetBytes rfl lk_H_286 (by rfl) (by rfl) k_R_forgetBytes rfl rfl ⟨Nat.le_of_ble_eq_true rfl, Nat.le_of_ble_eq_true rfl⟩ ⟨Nat.zero_le _, Nat.zero_le _⟩ (Nat.le_of_ble_eq_true rfl) ?_
    iterate 1 refine e_sp rfl rfl rfl ?_
    refine e_ifeq rfl (fun h2 => ?_) (fun h2 => ?_)
    · iterate 1 refine e_sp rfl rfl rfl ?_
      refine e_callV0 ok_H_takeGreys rfl lk_H_289 (by rfl) (by rfl) (k_H_takeGreys (c := c) (r := r) (by rw [puI_o (by decide)]; exact hc) (by rw [puI_o (by decide)]; exact hr) hc2 hr2) rfl rfl ⟨Nat.le_of_ble_eq_true rfl, Nat.le_of_ble_eq_true rfl⟩ ⟨Nat.zero_le _, Nat.zero_le _⟩ (Nat.le_of_ble_eq_true rfl) ?_
      iterate 1 refine e_sp rfl rfl rfl ?_
      refine e_iret rfl rfl (Nat.le_refl _) (Nat.le_refl _) ?_
      exact ⟨by simp_all [dcR, dcN], by simp_all [dcS, dcN]⟩
    · refine e_ci (-1) rfl rfl ?_
      iterate 2 refine e_sp rfl rfl rfl ?_
      refine e_iret rfl rfl (Nat.le_refl _) (Nat.le_refl _) ?_
      exact ⟨by simp_all [dcR, dcN], by simp_all [dcS, dcN]⟩
  · iterate 2 refine e_sp rfl rfl rfl ?_
    refine e_callV1 ok_C_greatestGrey rfl lk_H_283 (by rfl) (by rfl) k_C_greatestGrey rfl rfl ⟨Nat.le_of_ble_eq_true rfl, Nat.le_of_ble_eq_true rfl⟩ ⟨Nat.zero_le _, Nat.zero_le _⟩ (Nat.le_of_ble_eq_true rfl) ?_
    iterate 3 refine e_sp rfl rfl rfl ?_
    refine e_iclt rfl (fun h3 => ?_) (fun h3 => ?_)
    · iterate 2 refine e_sp rfl rfl rfl ?_
      refine e_callV0 ok_R_forgetBytes rfl lk_H_286 (by rfl) (by rfl) k_R_forgetBytes rfl rfl ⟨Nat.le_of_ble_eq_true rfl, Nat.le_of_ble_eq_true rfl⟩ ⟨Nat.zero_le _, Nat.zero_le _⟩ (Nat.le_of_ble_eq_true rfl) ?_
      iterate 1 refine e_sp rfl rfl rfl ?_
      refine e_ifeq rfl (fun h4 => ?_) (fun h4 => ?_)
      · iterate 1 refine e_sp rfl rfl rfl ?_
        refine e_callV0 ok_H_takeGreys rfl lk_H_289 (by rfl) (by rfl) (k_H_takeGreys (c := c) (r := r) (by rw [puI_o (by decide)]; exact hc) (by rw [puI_o (by decide)]; exact hr) hc2 hr2) rfl rfl ⟨Nat.le_of_ble_eq_true rfl, Nat.le_of_ble_eq_true rfl⟩ ⟨Nat.zero_le _, Nat.zero_le _⟩ (Nat.le_of_ble_eq_true rfl) ?_
        iterate 1 refine e_sp rfl rfl rfl ?_
        refine e_iret rfl rfl (Nat.le_refl _) (Nat.le_refl _) ?_
        exact ⟨by simp_all [dcR, dcN], by simp_all [dcS, dcN]⟩
      · refine e_ci (-1) rfl rfl ?_
        iterate 2 refine e_sp rfl rfl rfl ?_
        refine e_iret rfl rfl (Nat.le_refl _) (Nat.le_refl _) ?_
        exact ⟨by simp_all [dcR, dcN], by simp_all [dcS, dcN]⟩
    · refine e_ci 4 rfl rfl ?_
      iterate 3 refine e_sp rfl rfl rfl ?_
      refine e_callV0 ok_R_forgetBytes rfl lk_H_286 (by rfl) (by rfl) k_R_forgetBytes rfl rfl ⟨Nat.le_of_ble_eq_true rfl, Nat.le_of_ble_eq_true rfl⟩ ⟨Nat.zero_le _, Nat.zero_le _⟩ (Nat.le_of_ble_eq_true rfl) ?_
      iterate 1 refine e_sp rfl rfl rfl ?_
      refine e_ifeq rfl (fun h5 => absurd h5 (by first | decide | simp [puI, pt, upd])) (fun _ => ?_)
      refine e_ci (-1) rfl rfl ?_
      iterate 2 refine e_sp rfl rfl rfl ?_
      refine e_iret rfl rfl (Nat.le_refl _) (Nat.le_refl _) ?_
      have e9 : dcN W = 4 := by rw [dcN, if_pos h1, if_neg h3]
      exact ⟨by rw [dcR, e9]; rfl, by rw [dcS, e9]; rfl⟩
set_option maxHeartbeats 4000000 in
set_option maxRecDepth 40000 in
theorem k_H_decodeE {l : Launch} {h : Nat} {T : St} {c r cm : Nat} {pl : Int32} (hcm : T.1 17 2 = nI cm) (hcm2 : cm ≤ 3000) (hc : T.1 7 1 = nI c) (hr : T.1 7 2 = nI r) (hc2 : c < 2 ^ 31) (hr2 : r < 2 ^ 31) (z : Option AV) : E0 l (SHm h) (6, 136) m_H_decode 98 [some (aR 0), some (aI pl), z] [] T (ans (some (aI (dcR (dcW T) pl))) (dcS (dcW T) c r)) := by
  iterate 2 refine e_sp rfl rfl rfl ?_
  refine e_callV0 ok_R_end rfl lk_H_279 (by rfl) (by rfl) (k_R_end hcm hcm2) rfl rfl ⟨Nat.le_of_ble_eq_true rfl, Nat.le_of_ble_eq_true rfl⟩ ⟨Nat.zero_le _, Nat.zero_le _⟩ (Nat.le_of_ble_eq_true rfl) ?_
  iterate 5 refine e_sp rfl rfl rfl ?_
  try dsimp only
  exact k_H_decodeT (W := dcW T) (by rw [dcW, puI_o (by decide), (edS_o (by decide) (by decide)).1]; exact hc) (by rw [dcW, puI_o (by decide), (edS_o (by decide) (by decide)).1]; exact hr) hc2 hr2 _
set_option maxHeartbeats 4000000 in
set_option maxRecDepth 40000 in
theorem k_H_decodeP {l : Launch} {h : Nat} {c r cm : Nat} {pl : Int32} (hcm2 : cm ≤ 3000) (hc2 : c < 2 ^ 31) (hr2 : r < 2 ^ 31) : ∀ (n : Nat) (T : St), n ≤ 6 → T.1 17 2 = nI cm → T.1 7 1 = nI c → T.1 7 2 = nI r → E0 l (SHm h) (6, 136) m_H_decode 73 [some (aR 0), some (aI pl), some (aI (nI n - 1))] [] T (ans (some (aI (dcR (dcW (dpS c r n T)) pl))) (dcS (dcW (dpS c r n T)) c r)) := by
  intro n
  induction n with
  | zero =>
    intro T hn hcm hc hr
    rw [show dpS c r 0 T = T from rfl]
    iterate 1 refine e_sp rfl rfl rfl ?_
    refine e_iflt rfl (fun h1 => ?_) (fun h1 => ?_)
    · iterate 2 refine e_sp rfl rfl rfl ?_
      refine e_callV0 ok_R_end rfl lk_H_279 (by rfl) (by rfl) (k_R_end hcm hcm2) rfl rfl ⟨Nat.le_of_ble_eq_true rfl, Nat.le_of_ble_eq_true rfl⟩ ⟨Nat.zero_le _, Nat.zero_le _⟩ (Nat.le_of_ble_eq_true rfl) ?_
      iterate 5 refine e_sp rfl rfl rfl ?_
      try dsimp only
      exact k_H_decodeT (W := dcW T) (by rw [dcW, puI_o (by decide), (edS_o (by decide) (by decide)).1]; exact hc) (by rw [dcW, puI_o (by decide), (edS_o (by decide) (by decide)).1]; exact hr) hc2 hr2 _
    · try dsimp only
      exact absurd (by decide) h1
  | succ n ih =>
    intro T hn hcm hc hr
    iterate 1 refine e_sp rfl rfl rfl ?_
    refine e_iflt rfl (fun h1 => ?_) (fun h1 => ?_)
    · try dsimp only
      exact absurd h1 (by rw [nI_pred]; exact nI_pos (by omega))
    · iterate 3 refine e_sp rfl rfl rfl ?_
      refine e_ifne rfl (fun h2 => ?_) (fun h2 => ?_)
      · try dsimp only
        rw [show dpS c r (n + 1) T = T from if_neg h2]
        exact k_H_decodeE hcm hcm2 hc hr hc2 hr2 _
      · iterate 1 refine e_sp rfl rfl rfl ?_
        rw [nI_pred]
        iterate 1 refine e_sp rfl rfl rfl ?_
        refine e_callV0 ok_H_readPlane rfl lk_H_276 (by rfl) (by rfl) (k_H_readPlane (c := c) (r := r) hc hr hc2 hr2 hcm hcm2 (by assumption)) rfl rfl ⟨Nat.le_of_ble_eq_true rfl, Nat.le_of_ble_eq_true rfl⟩ ⟨Nat.zero_le _, Nat.zero_le _⟩ (Nat.le_of_ble_eq_true rfl) ?_
        refine e_inc (-1) rfl rfl rfl rfl ?_
        refine e_goto rfl ?_
        try dsimp only
        rw [show nI n + (-1) = nI n - 1 from (Int32.sub_eq_add_neg _ _).symm, show dpS c r (n + 1) T = dpS c r n (rpH T c r (nI n)) from if_pos h2]
        exact ih (rpH T c r (nI n)) (by omega) (rpH_came.trans hcm) (by rw [(rpH_o (by decide) (by decide) (by decide) (by decide) (by decide)).1]; exact hc) (by rw [(rpH_o (by decide) (by decide) (by decide) (by decide) (by decide)).1]; exact hr)
set_option maxHeartbeats 4000000 in
set_option maxRecDepth 40000 in
theorem k_H_decode {l : Launch} {h : Nat} {S : St} {c r m cm : Nat} (hc : S.1 7 1 = nI c) (hr : S.1 7 2 = nI r) (hc2 : c < 2 ^ 31) (hr2 : r < 2 ^ 31) (hm : S.1 5 3 = nI (m + 1)) (hm2 : m < 64) (hcm : S.1 17 2 = nI cm) (hcm2 : cm ≤ 3000) : KK l (SHm h) (6, 136) m_H_decode [aR 0] S (ans (some (aI (dcR (dcX S c r m) (dcP S c r)))) (dcS (dcX S c r m) c r)) := by
  refine k_start ok_H_decode (Nat.le_of_ble_eq_true rfl) ?_
  have h7 : ∀ k, (dc0 S c r m).1 7 k = S.1 7 k := fun k => by rw [dc0, (bpF_o (by decide) (by decide)).1, (rgS_o (by decide) (by decide)).1, flI_o (by decide)]
  have hcm0 : (dc0 S c r m).1 17 2 = nI cm := by rw [dc0, (bpF_o (by decide) (by decide)).1, rgS_came, flI_o (by decide)]; exact hcm
  have hmany : ∀ n, (flI (flI (rgS (flI S 10 0 256) n) 12 (-1) 64) 13 0 64).1 5 3 = nI (m + 1) := fun n => by
    rw [flI_o (by decide), flI_o (by decide), (rgS_o (by decide) (by decide)).1, flI_o (by decide)]; exact hm
  iterate 9 refine e_sp rfl rfl rfl ?_
  refine e_ci 1 rfl rfl ?_
  refine e_icne rfl (fun h1 => ?_) (fun h1 => ?_)
  · refine e_ci 0 rfl rfl ?_
    iterate 4 refine e_sp rfl rfl rfl ?_
    refine e_callV0 ok_C_begin rfl lk_H_220 (by rfl) (by rfl) k_C_begin rfl rfl ⟨Nat.le_of_ble_eq_true rfl, Nat.le_of_ble_eq_true rfl⟩ ⟨Nat.zero_le _, Nat.zero_le _⟩ (Nat.le_of_ble_eq_true rfl) ?_
    iterate 5 refine e_sp rfl rfl rfl ?_
    refine e_callV1 ok_B_planes rfl lk_H_103 (by rfl) (by rfl) (k_B_planes (m := m) (by first | (rw [flI_o (by decide)]; exact hm) | exact hmany) hm2) rfl rfl ⟨Nat.le_of_ble_eq_true rfl, Nat.le_of_ble_eq_true rfl⟩ ⟨Nat.zero_le _, Nat.zero_le _⟩ (Nat.le_of_ble_eq_true rfl) ?_
    iterate 1 refine e_sp rfl rfl rfl ?_
    refine e_callV0 ok_R_begin rfl lk_H_271 (by rfl) (by rfl) k_R_begin rfl rfl ⟨Nat.le_of_ble_eq_true rfl, Nat.le_of_ble_eq_true rfl⟩ ⟨Nat.zero_le _, Nat.zero_le _⟩ (Nat.le_of_ble_eq_true rfl) ?_
    iterate 2 refine e_sp rfl rfl rfl ?_
    refine e_callV0 ok_F_beginPlane rfl lk_H_229 (by rfl) (by rfl) k_F_beginPlane rfl rfl ⟨Nat.le_of_ble_eq_true rfl, Nat.le_of_ble_eq_true rfl⟩ ⟨Nat.zero_le _, Nat.zero_le _⟩ (Nat.le_of_ble_eq_true rfl) ?_
    iterate 2 refine e_sp rfl rfl rfl ?_
    refine e_callV1 ok_B_planes rfl lk_H_103 (by rfl) (by rfl) (k_B_planes (m := m) (by first | (rw [flI_o (by decide)]; exact hm) | exact hmany) hm2) rfl rfl ⟨Nat.le_of_ble_eq_true rfl, Nat.le_of_ble_eq_true rfl⟩ ⟨Nat.zero_le _, Nat.zero_le _⟩ (Nat.le_of_ble_eq_true rfl) ?_
    refine e_ci 1 rfl rfl ?_
    iterate 2 refine e_sp rfl rfl rfl ?_
    try dsimp only
    refine e_st (S2 := dc0 S c r m) (by simp only [dc0, dcP, bpF, h1, if_true, if_false]) ?_
    have L := k_H_decodeP (l := l) (h := h) (pl := dcP S c r) hcm2 hc2 hr2 (bl 6 m) (dc0 S c r m) (bl_le 6 m) hcm0 ((h7 1).trans hc) ((h7 2).trans hr)
    simp only [dcP, h1, if_true, if_false] at L
    simp only [dcX, dcP, h1, if_true, if_false]
    exact L
  · iterate 1 refine e_sp rfl rfl rfl ?_
    refine e_callV1 ok_H_placesOutside rfl lk_H_146 (by rfl) (by rfl) (k_H_placesOutside hc hr hc2 hr2) rfl rfl ⟨Nat.le_of_ble_eq_true rfl, Nat.le_of_ble_eq_true rfl⟩ ⟨Nat.zero_le _, Nat.zero_le _⟩ (Nat.le_of_ble_eq_true rfl) ?_
    refine e_goto rfl ?_
    iterate 4 refine e_sp rfl rfl rfl ?_
    refine e_callV0 ok_C_begin rfl lk_H_220 (by rfl) (by rfl) k_C_begin rfl rfl ⟨Nat.le_of_ble_eq_true rfl, Nat.le_of_ble_eq_true rfl⟩ ⟨Nat.zero_le _, Nat.zero_le _⟩ (Nat.le_of_ble_eq_true rfl) ?_
    iterate 5 refine e_sp rfl rfl rfl ?_
    refine e_callV1 ok_B_planes rfl lk_H_103 (by rfl) (by rfl) (k_B_planes (m := m) (by first | (rw [flI_o (by decide)]; exact hm) | exact hmany) hm2) rfl rfl ⟨Nat.le_of_ble_eq_true rfl, Nat.le_of_ble_eq_true rfl⟩ ⟨Nat.zero_le _, Nat.zero_le _⟩ (Nat.le_of_ble_eq_true rfl) ?_
    iterate 1 refine e_sp rfl rfl rfl ?_
    refine e_callV0 ok_R_begin rfl lk_H_271 (by rfl) (by rfl) k_R_begin rfl rfl ⟨Nat.le_of_ble_eq_true rfl, Nat.le_of_ble_eq_true rfl⟩ ⟨Nat.zero_le _, Nat.zero_le _⟩ (Nat.le_of_ble_eq_true rfl) ?_
    iterate 2 refine e_sp rfl rfl rfl ?_
    refine e_callV0 ok_F_beginPlane rfl lk_H_229 (by rfl) (by rfl) k_F_beginPlane rfl rfl ⟨Nat.le_of_ble_eq_true rfl, Nat.le_of_ble_eq_true rfl⟩ ⟨Nat.zero_le _, Nat.zero_le _⟩ (Nat.le_of_ble_eq_true rfl) ?_
    iterate 2 refine e_sp rfl rfl rfl ?_
    refine e_callV1 ok_B_planes rfl lk_H_103 (by rfl) (by rfl) (k_B_planes (m := m) (by first | (rw [flI_o (by decide)]; exact hm) | exact hmany) hm2) rfl rfl ⟨Nat.le_of_ble_eq_true rfl, Nat.le_of_ble_eq_true rfl⟩ ⟨Nat.zero_le _, Nat.zero_le _⟩ (Nat.le_of_ble_eq_true rfl) ?_
    refine e_ci 1 rfl rfl ?_
    iterate 2 refine e_sp rfl rfl rfl ?_
    try dsimp only
    refine e_st (S2 := dc0 S c r m) (by simp only [dc0, dcP, bpF, h1, if_true, if_false]) ?_
    have L := k_H_decodeP (l := l) (h := h) (pl := dcP S c r) hcm2 hc2 hr2 (bl 6 m) (dc0 S c r m) (bl_le 6 m) hcm0 ((h7 1).trans hc) ((h7 2).trans hr)
    simp only [dcP, h1, if_true, if_false] at L
    simp only [dcX, dcP, h1, if_true, if_false]
    exact L
/-! clear -/
def clH (S : St) (h : Nat) : St := puI (puI (puI (puI (puI (wbS (bpF (puI (puI (puI (puI (flI (puI (puI (bgB (flI (flI S 2 0 h) 4 0 h) 1 1 1) 7 1 1) 7 2 1) 8 0 256) 7 3 0) 7 4 0) 7 5 256) 7 6 0))) 17 2 0) 0 11 0) 0 12 0) 0 13 0) 0 14 0
set_option maxHeartbeats 4000000 in
set_option maxRecDepth 40000 in
theorem k_H_clear {l : Launch} {h : Nat} {S : St} (hh : h < 2 ^ 31) : KK l (SHm h) (3, 65) m_H_clear [aR 0] S (ans none (clH S h)) := by
  refine k_start ok_H_clear (Nat.le_of_ble_eq_true rfl) ?_
  iterate 2 refine e_sp rfl rfl rfl ?_
  refine e_ci 0 rfl rfl ?_
  refine e_callV0 ok_S_fill rfl lk_H_208 (by rfl) (by rfl) (k_S_fill_1 hh) rfl rfl ⟨Nat.le_of_ble_eq_true rfl, Nat.le_of_ble_eq_true rfl⟩ ⟨Nat.zero_le _, Nat.zero_le _⟩ (Nat.le_of_ble_eq_true rfl) ?_
  iterate 2 refine e_sp rfl rfl rfl ?_
  refine e_ci 0 rfl rfl ?_
  refine e_callV0 ok_S_fill rfl lk_H_208 (by rfl) (by rfl) (k_S_fill_3 hh) rfl rfl ⟨Nat.le_of_ble_eq_true rfl, Nat.le_of_ble_eq_true rfl⟩ ⟨Nat.zero_le _, Nat.zero_le _⟩ (Nat.le_of_ble_eq_true rfl) ?_
  iterate 2 refine e_sp rfl rfl rfl ?_
  refine e_ci 1 rfl rfl ?_
  refine e_ci 1 rfl rfl ?_
  refine e_ci 1 rfl rfl ?_
  refine e_callV0 ok_B_begin rfl lk_H_96 (by rfl) (by rfl) k_B_begin rfl rfl ⟨Nat.le_of_ble_eq_true rfl, Nat.le_of_ble_eq_true rfl⟩ ⟨Nat.zero_le _, Nat.zero_le _⟩ (Nat.le_of_ble_eq_true rfl) ?_
  iterate 2 refine e_sp rfl rfl rfl ?_
  refine e_ci 1 rfl rfl ?_
  refine e_ci 1 rfl rfl ?_
  refine e_callV0 ok_L_begin rfl lk_H_140 (by rfl) (by rfl) k_L_begin rfl rfl ⟨Nat.le_of_ble_eq_true rfl, Nat.le_of_ble_eq_true rfl⟩ ⟨Nat.zero_le _, Nat.zero_le _⟩ (Nat.le_of_ble_eq_true rfl) ?_
  iterate 2 refine e_sp rfl rfl rfl ?_
  refine e_ci 0 rfl rfl ?_
  refine e_ci 0 rfl rfl ?_
  refine e_cs 256 rfl rfl ?_
  refine e_ci 0 rfl rfl ?_
  refine e_callV0 ok_L_turnTo rfl lk_H_142 (by rfl) (by rfl) k_L_turnTo rfl rfl ⟨Nat.le_of_ble_eq_true rfl, Nat.le_of_ble_eq_true rfl⟩ ⟨Nat.zero_le _, Nat.zero_le _⟩ (Nat.le_of_ble_eq_true rfl) ?_
  iterate 2 refine e_sp rfl rfl rfl ?_
  refine e_callV0 ok_F_beginPlane rfl lk_H_229 (by rfl) (by rfl) k_F_beginPlane rfl rfl ⟨Nat.le_of_ble_eq_true rfl, Nat.le_of_ble_eq_true rfl⟩ ⟨Nat.zero_le _, Nat.zero_le _⟩ (Nat.le_of_ble_eq_true rfl) ?_
  iterate 2 refine e_sp rfl rfl rfl ?_
  refine e_callV0 ok_W_begin rfl lk_H_228 (by rfl) (by rfl) k_W_begin rfl rfl ⟨Nat.le_of_ble_eq_true rfl, Nat.le_of_ble_eq_true rfl⟩ ⟨Nat.zero_le _, Nat.zero_le _⟩ (Nat.le_of_ble_eq_true rfl) ?_
  iterate 2 refine e_sp rfl rfl rfl ?_
  refine e_callV0 ok_R_forgetBytes rfl lk_H_286 (by rfl) (by rfl) k_R_forgetBytes rfl rfl ⟨Nat.le_of_ble_eq_true rfl, Nat.le_of_ble_eq_true rfl⟩ ⟨Nat.zero_le _, Nat.zero_le _⟩ (Nat.le_of_ble_eq_true rfl) ?_
  iterate 1 refine e_sp rfl rfl rfl ?_
  refine e_ci 0 rfl rfl ?_
  iterate 2 refine e_sp rfl rfl rfl ?_
  refine e_ci 0 rfl rfl ?_
  iterate 2 refine e_sp rfl rfl rfl ?_
  refine e_ci 0 rfl rfl ?_
  iterate 2 refine e_sp rfl rfl rfl ?_
  refine e_ci 0 rfl rfl ?_
  iterate 1 refine e_sp rfl rfl rfl ?_
  refine e_vret rfl rfl (Nat.le_refl _) (Nat.le_refl _) ?_
  exact ⟨rfl, rfl⟩
def tdH (S : St) (h m : Nat) (w : Int32) : Int32 := if w = 0 then S.1 0 0 else if w = 1 then S.1 0 1 else if w = 2 then S.1 5 3 else if w = 3 then S.1 5 1 else if w = 4 then S.1 5 2 else if w = 5 then nI (bl 6 m) else if w = 6 then S.1 7 1 else if w = 7 then S.1 7 2 else if w = 8 then szW S else if w = 9 then S.1 17 2 else if w = 10 then dkA S 2 h else if w = 11 then S.1 0 14 else -1
set_option maxHeartbeats 4000000 in
set_option maxRecDepth 40000 in
theorem k_H_told {l : Launch} {h m : Nat} {S : St} {w : Int32} (hh : h < 2 ^ 31) (hm : S.1 5 3 = nI (m + 1)) (hm2 : m < 64) : KK l (SHm h) (2, 42) m_H_told [aR 0, aI w] S (ans (some (aI (tdH S h m w))) S) := by
  refine k_start ok_H_told (Nat.le_of_ble_eq_true rfl) ?_
  iterate 1 refine e_sp rfl rfl rfl ?_
  by_cases h0 : w = 0
  · subst h0
    refine e_tswI (off := 63) (tgt := 64) rfl (by decide) (by decide) (by decide) (by decide) ?_
    iterate 2 refine e_sp rfl rfl rfl ?_
    refine e_iret rfl rfl (Nat.le_refl _) (Nat.le_refl _) ?_
    exact ⟨by simp [tdH], rfl⟩
  by_cases h1 : w = 1
  · subst h1
    refine e_tswI (off := 68) (tgt := 69) rfl (by decide) (by decide) (by decide) (by decide) ?_
    iterate 2 refine e_sp rfl rfl rfl ?_
    refine e_iret rfl rfl (Nat.le_refl _) (Nat.le_refl _) ?_
    exact ⟨by simp [tdH], rfl⟩
  by_cases h2 : w = 2
  · subst h2
    refine e_tswI (off := 73) (tgt := 74) rfl (by decide) (by decide) (by decide) (by decide) ?_
    iterate 3 refine e_sp rfl rfl rfl ?_
    refine e_iret rfl rfl (Nat.le_refl _) (Nat.le_refl _) ?_
    exact ⟨by simp [tdH], rfl⟩
  by_cases h3 : w = 3
  · subst h3
    refine e_tswI (off := 81) (tgt := 82) rfl (by decide) (by decide) (by decide) (by decide) ?_
    iterate 3 refine e_sp rfl rfl rfl ?_
    refine e_iret rfl rfl (Nat.le_refl _) (Nat.le_refl _) ?_
    exact ⟨by simp [tdH], rfl⟩
  by_cases h4 : w = 4
  · subst h4
    refine e_tswI (off := 89) (tgt := 90) rfl (by decide) (by decide) (by decide) (by decide) ?_
    iterate 3 refine e_sp rfl rfl rfl ?_
    refine e_iret rfl rfl (Nat.le_refl _) (Nat.le_refl _) ?_
    exact ⟨by simp [tdH], rfl⟩
  by_cases h5 : w = 5
  · subst h5
    refine e_tswI (off := 97) (tgt := 98) rfl (by decide) (by decide) (by decide) (by decide) ?_
    iterate 2 refine e_sp rfl rfl rfl ?_
    refine e_callV1 ok_B_planes rfl lk_H_103 (by rfl) (by rfl) (k_B_planes (m := m) hm hm2) rfl rfl ⟨Nat.le_of_ble_eq_true rfl, Nat.le_of_ble_eq_true rfl⟩ ⟨Nat.zero_le _, Nat.zero_le _⟩ (Nat.le_of_ble_eq_true rfl) ?_
    refine e_iret rfl rfl (Nat.le_refl _) (Nat.le_refl _) ?_
    exact ⟨by simp [tdH], rfl⟩
  by_cases h6 : w = 6
  · subst h6
    refine e_tswI (off := 105) (tgt := 106) rfl (by decide) (by decide) (by decide) (by decide) ?_
    iterate 3 refine e_sp rfl rfl rfl ?_
    refine e_iret rfl rfl (Nat.le_refl _) (Nat.le_refl _) ?_
    exact ⟨by simp [tdH], rfl⟩
  by_cases h7 : w = 7
  · subst h7
    refine e_tswI (off := 113) (tgt := 114) rfl (by decide) (by decide) (by decide) (by decide) ?_
    iterate 3 refine e_sp rfl rfl rfl ?_
    refine e_iret rfl rfl (Nat.le_refl _) (Nat.le_refl _) ?_
    exact ⟨by simp [tdH], rfl⟩
  by_cases h8 : w = 8
  · subst h8
    refine e_tswI (off := 121) (tgt := 122) rfl (by decide) (by decide) (by decide) (by decide) ?_
    iterate 2 refine e_sp rfl rfl rfl ?_
    refine e_callV1 ok_W_size rfl lk_H_242 (by rfl) (by rfl) k_W_size rfl rfl ⟨Nat.le_of_ble_eq_true rfl, Nat.le_of_ble_eq_true rfl⟩ ⟨Nat.zero_le _, Nat.zero_le _⟩ (Nat.le_of_ble_eq_true rfl) ?_
    refine e_iret rfl rfl (Nat.le_refl _) (Nat.le_refl _) ?_
    exact ⟨by simp [tdH], rfl⟩
  by_cases h9 : w = 9
  · subst h9
    refine e_tswI (off := 129) (tgt := 130) rfl (by decide) (by decide) (by decide) (by decide) ?_
    iterate 3 refine e_sp rfl rfl rfl ?_
    refine e_iret rfl rfl (Nat.le_refl _) (Nat.le_refl _) ?_
    exact ⟨by simp [tdH], rfl⟩
  by_cases h10 : w = 10
  · subst h10
    refine e_tswI (off := 137) (tgt := 138) rfl (by decide) (by decide) (by decide) (by decide) ?_
    iterate 2 refine e_sp rfl rfl rfl ?_
    refine e_callV1 ok_S_darkSamples rfl lk_H_215 (by rfl) (by rfl) (k_S_darkSamples_1 hh) rfl rfl ⟨Nat.le_of_ble_eq_true rfl, Nat.le_of_ble_eq_true rfl⟩ ⟨Nat.zero_le _, Nat.zero_le _⟩ (Nat.le_of_ble_eq_true rfl) ?_
    refine e_iret rfl rfl (Nat.le_refl _) (Nat.le_refl _) ?_
    exact ⟨by simp [tdH], rfl⟩
  by_cases h11 : w = 11
  · subst h11
    refine e_tswI (off := 145) (tgt := 146) rfl (by decide) (by decide) (by decide) (by decide) ?_
    iterate 2 refine e_sp rfl rfl rfl ?_
    refine e_iret rfl rfl (Nat.le_refl _) (Nat.le_refl _) ?_
    exact ⟨by simp [tdH], rfl⟩
  have hn : ∀ k : Int32, ¬ w = k → w.toInt ≠ k.toInt := fun k hk e => hk (Int32.toInt_inj.mp e)
  have g0 := hn 0 h0
  rw [show (0 : Int32).toInt = 0 from rfl] at g0
  have g1 := hn 1 h1
  rw [show (1 : Int32).toInt = 1 from rfl] at g1
  have g2 := hn 2 h2
  rw [show (2 : Int32).toInt = 2 from rfl] at g2
  have g3 := hn 3 h3
  rw [show (3 : Int32).toInt = 3 from rfl] at g3
  have g4 := hn 4 h4
  rw [show (4 : Int32).toInt = 4 from rfl] at g4
  have g5 := hn 5 h5
  rw [show (5 : Int32).toInt = 5 from rfl] at g5
  have g6 := hn 6 h6
  rw [show (6 : Int32).toInt = 6 from rfl] at g6
  have g7 := hn 7 h7
  rw [show (7 : Int32).toInt = 7 from rfl] at g7
  have g8 := hn 8 h8
  rw [show (8 : Int32).toInt = 8 from rfl] at g8
  have g9 := hn 9 h9
  rw [show (9 : Int32).toInt = 9 from rfl] at g9
  have g10 := hn 10 h10
  rw [show (10 : Int32).toInt = 10 from rfl] at g10
  have g11 := hn 11 h11
  rw [show (11 : Int32).toInt = 11 from rfl] at g11
  refine e_tswO (tgt := 151) rfl (by omega) (by decide) ?_
  refine e_ci (-1) rfl rfl ?_
  refine e_iret rfl rfl (Nat.le_refl _) (Nat.le_refl _) ?_
  exact ⟨by simp [tdH, h0, h1, h2, h3, h4, h5, h6, h7, h8, h9, h10, h11], rfl⟩
end
section
/-! the reference: patterns -/
theorem nz0 : vp_nar .boolean 0 = 0 := by decide
theorem nz1 : vp_nar .boolean 1 = 1 := by decide
theorem puI_flI {S : St} {o q n k : Nat} {v w : Int32} (h : o ≠ q) : puI (flI S o v n) q k w = flI (puI S q k w) o v n := by
  unfold puI flI
  have e1 : pt S.1 o (fun j => if j < n then v else S.1 o j) q = S.1 q := pt_n (fun z => h z.symm)
  have e2 : pt S.1 q (upd (S.1 q) k w) o = S.1 o := pt_n h
  simp only [e1, e2]
  congr 1
  funext z
  by_cases hz : z = q
  · subst hz; rw [pt_s, pt_n (fun y => h y.symm), pt_s]
  · rw [pt_n hz]
    by_cases hy : z = o
    · subst hy; rw [pt_s, pt_s]
    · rw [pt_n hy, pt_n hy, pt_n hz]
def blM (S : St) (w h n : Int32) : St := flI (flI (puI (puI (puI S 21 5 w) 21 6 h) 21 7 n) 24 (vp_nar .boolean 0) 4096) 25 0 256
def npM (S : St) : St := flI (flI S 28 (-1) 64) 29 0 64
theorem fl2_s {S : St} {o q i : Nat} {v w : Int32} (h : o ≠ q) : puI (puI (flI (flI S o v i) q w i) o i v) q i w = flI (flI S o v (i + 1)) q w (i + 1) := by
  rw [puI_flI (fun z => h z.symm), flI_s, flI_s]
def bgM (S : St) : St := npM (puI (puI (puI (puI (puI (puI (puI (puI (puI (puI (puI (puI (blM (flI (flI S 22 (vp_nar .boolean 0) 1024) 23 (vp_nar .boolean 0) 1024) 1 1 1) 21 9 1) 21 10 1) 21 11 0) 21 12 0) 21 13 256) 21 14 0) 21 16 0) 21 17 0) 21 18 0) 21 21 0) 21 23 0) 21 31 0)
def b1M (x k : Int32) : Int32 := x >>> (k &&& 31) &&& 1
def keM (x y : Int32) : Int32 :=
  let a : Int32 := 4 * 0 + 2 * b1M (x ^^^ y) 0 + b1M y 0
  let b : Int32 := 4 * a + 2 * b1M (x ^^^ y) 1 + b1M y 1
  4 * b + 2 * b1M (x ^^^ y) 2 + b1M y 2
def hcM (S : St) (k x y : Int32) : Int32 := if wi k 0 (S.1 21 7 - 1) = 0 then 0 else if wi x 0 (S.1 21 5 - 1) = 0 then 0 else if wi y 0 (S.1 21 6 - 1) = 0 then 0 else 1
theorem hcM_nat {S : St} {k x y : Int32} {m w g : Nat} (hm : S.1 21 7 = nI m) (hw : S.1 21 5 = nI w) (hg : S.1 21 6 = nI g) (hm2 : m ≤ 64) (hw2 : w ≤ 8) (hg2 : g ≤ 8) (h : ¬ hcM S k x y = 0) :
    ∃ a b c : Nat, a < m ∧ b < w ∧ c < g ∧ k = nI a ∧ x = nI b ∧ y = nI c := by
  unfold hcM at h
  rw [hm, hw, hg] at h
  by_cases h1 : wi k 0 (nI m - 1) = 0
  · rw [if_pos h1] at h; exact absurd rfl h
  rw [if_neg h1] at h
  by_cases h2 : wi x 0 (nI w - 1) = 0
  · rw [if_pos h2] at h; exact absurd rfl h
  rw [if_neg h2] at h
  by_cases h3 : wi y 0 (nI g - 1) = 0
  · rw [if_pos h3] at h; exact absurd rfl h
  obtain ⟨a, ha, e1⟩ := wi_nat (by omega) h1
  obtain ⟨b, hb, e2⟩ := wi_nat (by omega) h2
  obtain ⟨c, hc, e3⟩ := wi_nat (by omega) h3
  exact ⟨a, b, c, ha, hb, hc, e1, e2, e3⟩
theorem ix64 (a b c : Nat) : (64 : Int32) * nI a + 8 * nI c + nI b = nI (64 * a + 8 * c + b) := by
  rw [show (64 : Int32) = nI 64 from rfl, show (8 : Int32) = nI 8 from rfl, pk_mul, pk_mul, nI_add, nI_add]
theorem hcM_in {S : St} {k x y : Int32} {m w g : Nat} (hm : S.1 21 7 = nI m) (hw : S.1 21 5 = nI w) (hg : S.1 21 6 = nI g) (hm2 : m ≤ 64) (hw2 : w ≤ 8) (hg2 : g ≤ 8) (h : ¬ hcM S k x y = 0) : vp_in (64 * k + 8 * y + x) 4096 := by
  obtain ⟨a, b, c, ha, hb, hc, rfl, rfl, rfl⟩ := hcM_nat hm hw hg hm2 hw2 hg2 h
  rw [ix64]
  exact vp_in_nI (by omega) (by decide)
def xM (S : St) (i j : Int32) : Int32 := (S.1 21 11 + j * S.1 21 14 + i * S.1 21 13) >>> (8 &&& 31)
def yM (S : St) (i j : Int32) : Int32 := (S.1 21 12 + j * S.1 21 13 - i * S.1 21 14) >>> (8 &&& 31)
def ouM (S : St) (i j : Int32) : Int32 := if xM S i j + S.1 21 5 ≤ 0 then 1 else if S.1 21 1 ≤ xM S i j then 1 else if yM S i j + S.1 21 6 ≤ 0 then 1 else if yM S i j < S.1 21 2 then 0 else 1
def skM (S : St) (i j : Int32) : Int32 := if S.1 21 18 = 1 then (if ouM S i j = 0 then 0 else 1) else 0
def hpM (S : St) (i j : Int32) : Int32 := if wi i 0 (S.1 21 9 - 1) = 0 then 0 else if wi j 0 (S.1 21 10 - 1) = 0 then 0 else 1
theorem wi_1n {x : Int32} {n : Nat} (hn : n < 2 ^ 31) (h : ¬ wi x 1 (nI n) = 0) : ∃ m, m < n ∧ x = nI (m + 1) := by
  obtain ⟨h1, h2⟩ := wi_lo h
  have h3 : ¬ x < 0 := fun z => h1 (Int32.lt_trans z (by decide))
  obtain ⟨j, hj, e⟩ := nI_of2 (nI_toInt hn) h3 (Int32.not_lt.mp h2)
  cases j with
  | zero => exact absurd (show x < 1 by rw [e]; decide) h1
  | succ m => exact ⟨m, by omega, e⟩
def okP (w h n : Int32) : Int32 := if wi w 1 8 = 0 then 1 else if wi h 1 8 = 0 then 1 else if wi n 1 64 = 0 then 1 else 0
set_option maxHeartbeats 4000000 in
set_option maxRecDepth 40000 in
theorem k_M_blank {l : Launch} {h : Nat} {S : St} {a b c : Int32} : KK l (SHm h) (0, 0) m_M_blank [aR 21, aI a, aI b, aI c] S (ans none (blM S a b c)) := by
  refine k_start ok_M_blank (Nat.le_of_ble_eq_true rfl) ?_
  have L2 := e_for (P := fun i => E0 l (SHm h) (0, 0) m_M_blank 43 [some (aR 21), some (aI a), some (aI b), some (aI c), some (aI (nI i))] [] (flI (flI (puI (puI (puI S 21 5 a) 21 6 b) 21 7 c) 24 (vp_nar .boolean 0) 4096) 25 0 i) (ans none (blM S a b c))) (256) (by
      iterate 1 refine e_sp rfl rfl rfl ?_
      refine e_cs 256 rfl rfl ?_
      refine e_icge rfl (fun h1 => ?_) (fun h1 => ?_)
      · refine e_vret rfl rfl (Nat.le_refl _) (Nat.le_refl _) ?_
        exact ⟨rfl, rfl⟩
      · try dsimp only
        exact absurd (nI_le (Nat.le_refl _) (by decide)) h1) (fun i hi ihi => by
      iterate 1 refine e_sp rfl rfl rfl ?_
      refine e_cs 256 rfl rfl ?_
      refine e_icge rfl (fun h1 => ?_) (fun h1 => ?_)
      · try dsimp only
        exact absurd h1 (nI_ge hi (by decide))
      · iterate 3 refine e_sp rfl rfl rfl ?_
        refine e_ci 0 rfl rfl ?_
        refine e_iast rfl (by first | rfl | assumption) (by exact vp_in_nI hi (by decide)) ?_
        refine e_inc 1 rfl rfl rfl rfl ?_
        refine e_goto rfl ?_
        try dsimp only
        rw [nI_clamp (by omega), flI_s, nI_1]
        exact ihi)
  have L1 := e_for (P := fun i => E0 l (SHm h) (0, 0) m_M_blank 18 [some (aR 21), some (aI a), some (aI b), some (aI c), some (aI (nI i))] [] (flI (puI (puI (puI S 21 5 a) 21 6 b) 21 7 c) 24 (vp_nar .boolean 0) i) (ans none (blM S a b c))) (4096) (by
      iterate 1 refine e_sp rfl rfl rfl ?_
      refine e_cs 4096 rfl rfl ?_
      refine e_icge rfl (fun h1 => ?_) (fun h1 => ?_)
      · refine e_ci 0 rfl rfl ?_
        iterate 1 refine e_sp rfl rfl rfl ?_
        try dsimp only
        rw [flI_0] at L2
        exact L2
      · try dsimp only
        exact absurd (nI_le (Nat.le_refl _) (by decide)) h1) (fun i hi ihi => by
      iterate 1 refine e_sp rfl rfl rfl ?_
      refine e_cs 4096 rfl rfl ?_
      refine e_icge rfl (fun h1 => ?_) (fun h1 => ?_)
      · try dsimp only
        exact absurd h1 (nI_ge hi (by decide))
      · iterate 3 refine e_sp rfl rfl rfl ?_
        refine e_ci 0 rfl rfl ?_
        refine e_zast rfl (by first | rfl | assumption) (by exact vp_in_nI hi (by decide)) ?_
        refine e_inc 1 rfl rfl rfl rfl ?_
        refine e_goto rfl ?_
        try dsimp only
        rw [nI_clamp (by omega), flI_s, nI_1]
        exact ihi)
  iterate 9 refine e_sp rfl rfl rfl ?_
  refine e_ci 0 rfl rfl ?_
  iterate 1 refine e_sp rfl rfl rfl ?_
  try dsimp only
  rw [flI_0] at L1
  exact L1
/-- a counted loop -/
def nF {σ : Type} (f : Nat → σ → σ) : Nat → σ → σ
  | 0, s => s
  | i + 1, s => f i (nF f i s)
theorem nF_inv {σ : Type} {f : Nat → σ → σ} (I : σ → Prop) (hf : ∀ i s, I s → I (f i s)) : ∀ i s, I s → I (nF f i s)
  | 0, _, h => h
  | i + 1, s, h => hf i _ (nF_inv I hf i s h)
theorem rmd (n : Nat) {i : Nat} (hi : i < 2 ^ 31) (h0 : 0 < n) (hn : n < 2 ^ 31) : nI i - nI i / nI n * nI n = nI (i % n) := pk_rem hi h0 hn
theorem dvd9 (n : Nat) {i : Nat} (hi : i < 2 ^ 31) (h0 : 0 < n) (hn : n < 2 ^ 31) : nI i / nI n = nI (i / n) := pk_div hi h0 hn
set_option maxHeartbeats 4000000 in
set_option maxRecDepth 40000 in
theorem k_M_newPlane {l : Launch} {h : Nat} {S : St} : KK l (SHm h) (0, 0) m_M_newPlane [aR 21] S (ans none (npM S)) := by
  refine k_start ok_M_newPlane (Nat.le_of_ble_eq_true rfl) ?_
  have L1 := e_for (P := fun i => E0 l (SHm h) (0, 0) m_M_newPlane 2 [some (aR 21), some (aI (nI i))] [] (flI (flI S 28 (-1) i) 29 0 i) (ans none (npM S))) (64) (by
      iterate 1 refine e_sp rfl rfl rfl ?_
      refine e_cb 64 rfl rfl ?_
      refine e_icge rfl (fun h1 => ?_) (fun h1 => ?_)
      · refine e_vret rfl rfl (Nat.le_refl _) (Nat.le_refl _) ?_
        exact ⟨rfl, rfl⟩
      · try dsimp only
        exact absurd (nI_le (Nat.le_refl _) (by decide)) h1) (fun i hi ihi => by
      iterate 1 refine e_sp rfl rfl rfl ?_
      refine e_cb 64 rfl rfl ?_
      refine e_icge rfl (fun h1 => ?_) (fun h1 => ?_)
      · try dsimp only
        exact absurd h1 (nI_ge hi (by decide))
      · iterate 3 refine e_sp rfl rfl rfl ?_
        refine e_ci (-1) rfl rfl ?_
        refine e_iast rfl (by first | rfl | assumption) (by exact vp_in_nI hi (by decide)) ?_
        iterate 3 refine e_sp rfl rfl rfl ?_
        refine e_ci 0 rfl rfl ?_
        refine e_iast rfl (by first | rfl | assumption) (by exact vp_in_nI hi (by decide)) ?_
        refine e_inc 1 rfl rfl rfl rfl ?_
        refine e_goto rfl ?_
        try dsimp only
        rw [nI_clamp (by omega), fl2_s (by decide), nI_1]
        exact ihi)
  refine e_ci 0 rfl rfl ?_
  iterate 1 refine e_sp rfl rfl rfl ?_
  try dsimp only
  rw [flI_0, flI_0] at L1
  exact L1
set_option maxHeartbeats 4000000 in
set_option maxRecDepth 40000 in
theorem k_M_begin {l : Launch} {h : Nat} {S : St} : KK l (SHm h) (1, 24) m_M_begin [aR 21] S (ans none (bgM S)) := by
  refine k_start ok_M_begin (Nat.le_of_ble_eq_true rfl) ?_
  have L1 := e_for (P := fun i => E0 l (SHm h) (1, 24) m_M_begin 2 [some (aR 21), some (aI (nI i))] [] (flI (flI S 22 (vp_nar .boolean 0) i) 23 (vp_nar .boolean 0) i) (ans none (bgM S))) (1024) (by
      iterate 1 refine e_sp rfl rfl rfl ?_
      refine e_cs 1024 rfl rfl ?_
      refine e_icge rfl (fun h1 => ?_) (fun h1 => ?_)
      · iterate 1 refine e_sp rfl rfl rfl ?_
        refine e_ci 1 rfl rfl ?_
        refine e_ci 1 rfl rfl ?_
        refine e_ci 1 rfl rfl ?_
        refine e_callV0 ok_M_blank rfl lk_M_58 (by rfl) (by rfl) k_M_blank rfl rfl ⟨Nat.le_of_ble_eq_true rfl, Nat.le_of_ble_eq_true rfl⟩ ⟨Nat.zero_le _, Nat.zero_le _⟩ (Nat.le_of_ble_eq_true rfl) ?_
        iterate 1 refine e_sp rfl rfl rfl ?_
        refine e_ci 1 rfl rfl ?_
        iterate 2 refine e_sp rfl rfl rfl ?_
        refine e_ci 1 rfl rfl ?_
        iterate 2 refine e_sp rfl rfl rfl ?_
        refine e_ci 0 rfl rfl ?_
        iterate 2 refine e_sp rfl rfl rfl ?_
        refine e_ci 0 rfl rfl ?_
        iterate 2 refine e_sp rfl rfl rfl ?_
        refine e_cs 256 rfl rfl ?_
        iterate 2 refine e_sp rfl rfl rfl ?_
        refine e_ci 0 rfl rfl ?_
        iterate 2 refine e_sp rfl rfl rfl ?_
        refine e_ci 0 rfl rfl ?_
        iterate 2 refine e_sp rfl rfl rfl ?_
        refine e_ci 0 rfl rfl ?_
        iterate 2 refine e_sp rfl rfl rfl ?_
        refine e_ci 0 rfl rfl ?_
        iterate 2 refine e_sp rfl rfl rfl ?_
        refine e_ci 0 rfl rfl ?_
        iterate 2 refine e_sp rfl rfl rfl ?_
        refine e_ci 0 rfl rfl ?_
        iterate 2 refine e_sp rfl rfl rfl ?_
        refine e_ci 0 rfl rfl ?_
        iterate 2 refine e_sp rfl rfl rfl ?_
        refine e_callV0 ok_M_newPlane rfl lk_M_98 (by rfl) (by rfl) k_M_newPlane rfl rfl ⟨Nat.le_of_ble_eq_true rfl, Nat.le_of_ble_eq_true rfl⟩ ⟨Nat.zero_le _, Nat.zero_le _⟩ (Nat.le_of_ble_eq_true rfl) ?_
        refine e_vret rfl rfl (Nat.le_refl _) (Nat.le_refl _) ?_
        exact ⟨rfl, rfl⟩
      · try dsimp only
        exact absurd (nI_le (Nat.le_refl _) (by decide)) h1) (fun i hi ihi => by
      iterate 1 refine e_sp rfl rfl rfl ?_
      refine e_cs 1024 rfl rfl ?_
      refine e_icge rfl (fun h1 => ?_) (fun h1 => ?_)
      · try dsimp only
        exact absurd h1 (nI_ge hi (by decide))
      · iterate 3 refine e_sp rfl rfl rfl ?_
        refine e_ci 0 rfl rfl ?_
        refine e_zast rfl (by first | rfl | assumption) (by exact vp_in_nI hi (by decide)) ?_
        iterate 3 refine e_sp rfl rfl rfl ?_
        refine e_ci 0 rfl rfl ?_
        refine e_zast rfl (by first | rfl | assumption) (by exact vp_in_nI hi (by decide)) ?_
        refine e_inc 1 rfl rfl rfl rfl ?_
        refine e_goto rfl ?_
        try dsimp only
        rw [nI_clamp (by omega), fl2_s (by decide), nI_1]
        exact ihi)
  refine e_ci 0 rfl rfl ?_
  iterate 1 refine e_sp rfl rfl rfl ?_
  try dsimp only
  rw [flI_0, flI_0] at L1
  exact L1
set_option maxHeartbeats 4000000 in
set_option maxRecDepth 40000 in
theorem k_M_thrown {l : Launch} {h : Nat} {S : St}  : KK l (SHm h) (0, 0) m_M_thrown [aR 21] S (ans (some (aI (S.1 21 0))) S) := by
  refine k_start ok_M_thrown (Nat.le_of_ble_eq_true rfl) ?_
  iterate 2 refine e_sp rfl rfl rfl ?_
  refine e_iret rfl rfl (Nat.le_refl _) (Nat.le_refl _) ?_
  exact ⟨rfl, rfl⟩
set_option maxHeartbeats 4000000 in
set_option maxRecDepth 40000 in
theorem k_M_clear {l : Launch} {h : Nat} {S : St}  : KK l (SHm h) (2, 45) m_M_clear [aR 21] S (ans none (bgM (puI S 21 0 0))) := by
  refine k_start ok_M_clear (Nat.le_of_ble_eq_true rfl) ?_
  iterate 1 refine e_sp rfl rfl rfl ?_
  refine e_ci 0 rfl rfl ?_
  iterate 2 refine e_sp rfl rfl rfl ?_
  refine e_callV0 ok_M_begin rfl lk_M_52 (by rfl) (by rfl) k_M_begin rfl rfl ⟨Nat.le_of_ble_eq_true rfl, Nat.le_of_ble_eq_true rfl⟩ ⟨Nat.zero_le _, Nat.zero_le _⟩ (Nat.le_of_ble_eq_true rfl) ?_
  refine e_vret rfl rfl (Nat.le_refl _) (Nat.le_refl _) ?_
  exact ⟨rfl, rfl⟩
set_option maxHeartbeats 4000000 in
set_option maxRecDepth 40000 in
theorem k_M_keyOf {l : Launch} {B : List Sh} {S : St} {x y : Int32}  : KK l B (0, 0) m_M_keyOf [aI x, aI y] S (ans (some (aI (keM x y))) S) := by
  refine k_start ok_M_keyOf (Nat.le_of_ble_eq_true rfl) ?_
  refine e_ci 0 rfl rfl ?_
  iterate 1 refine e_sp rfl rfl rfl ?_
  refine e_ci 0 rfl rfl ?_
  iterate 2 refine e_sp rfl rfl rfl ?_
  refine e_ci 3 rfl rfl ?_
  refine e_icge rfl (fun h1 => absurd h1 (by first | decide | simp [puI, pt, upd])) (fun _ => ?_)
  refine e_ci 4 rfl rfl ?_
  iterate 2 refine e_sp rfl rfl rfl ?_
  refine e_ci 2 rfl rfl ?_
  iterate 5 refine e_sp rfl rfl rfl ?_
  refine e_ci 1 rfl rfl ?_
  iterate 6 refine e_sp rfl rfl rfl ?_
  refine e_ci 1 rfl rfl ?_
  iterate 3 refine e_sp rfl rfl rfl ?_
  refine e_inc 1 rfl rfl rfl rfl ?_
  refine e_goto rfl ?_
  iterate 1 refine e_sp rfl rfl rfl ?_
  refine e_ci 3 rfl rfl ?_
  refine e_icge rfl (fun h2 => absurd h2 (by first | decide | simp [puI, pt, upd])) (fun _ => ?_)
  refine e_ci 4 rfl rfl ?_
  iterate 2 refine e_sp rfl rfl rfl ?_
  refine e_ci 2 rfl rfl ?_
  iterate 5 refine e_sp rfl rfl rfl ?_
  refine e_ci 1 rfl rfl ?_
  iterate 6 refine e_sp rfl rfl rfl ?_
  refine e_ci 1 rfl rfl ?_
  iterate 3 refine e_sp rfl rfl rfl ?_
  refine e_inc 1 rfl rfl rfl rfl ?_
  refine e_goto rfl ?_
  iterate 1 refine e_sp rfl rfl rfl ?_
  refine e_ci 3 rfl rfl ?_
  refine e_icge rfl (fun h3 => absurd h3 (by first | decide | simp [puI, pt, upd])) (fun _ => ?_)
  refine e_ci 4 rfl rfl ?_
  iterate 2 refine e_sp rfl rfl rfl ?_
  refine e_ci 2 rfl rfl ?_
  iterate 5 refine e_sp rfl rfl rfl ?_
  refine e_ci 1 rfl rfl ?_
  iterate 6 refine e_sp rfl rfl rfl ?_
  refine e_ci 1 rfl rfl ?_
  iterate 3 refine e_sp rfl rfl rfl ?_
  refine e_inc 1 rfl rfl rfl rfl ?_
  refine e_goto rfl ?_
  iterate 1 refine e_sp rfl rfl rfl ?_
  refine e_ci 3 rfl rfl ?_
  refine e_icge rfl (fun _ => ?_) (fun h4 => absurd h4 (by first | decide | simp [puI, pt, upd]))
  iterate 1 refine e_sp rfl rfl rfl ?_
  refine e_iret rfl rfl (Nat.le_refl _) (Nat.le_refl _) ?_
  exact ⟨rfl, rfl⟩
set_option maxHeartbeats 4000000 in
set_option maxRecDepth 40000 in
theorem k_M_hasCell {l : Launch} {h : Nat} {S : St} {p x y : Int32}  : KK l (SHm h) (1, 22) m_M_hasCell [aR 21, aI p, aI x, aI y] S (ans (some (aI (hcM S p x y))) S) := by
  refine k_start ok_M_hasCell (Nat.le_of_ble_eq_true rfl) ?_
  iterate 1 refine e_sp rfl rfl rfl ?_
  refine e_ci 0 rfl rfl ?_
  iterate 2 refine e_sp rfl rfl rfl ?_
  refine e_ci 1 rfl rfl ?_
  iterate 1 refine e_sp rfl rfl rfl ?_
  refine e_callS1 ok_M_in rfl lk_M_110 k_M_in rfl rfl ⟨Nat.le_of_ble_eq_true rfl, Nat.le_of_ble_eq_true rfl⟩ ⟨Nat.zero_le _, Nat.zero_le _⟩ (Nat.le_of_ble_eq_true rfl) ?_
  refine e_ifeq rfl (fun h1 => ?_) (fun h1 => ?_)
  · refine e_ci 0 rfl rfl ?_
    refine e_zret rfl rfl (Nat.le_refl _) (Nat.le_refl _) (by decide) ?_
    exact ⟨by simp [hcM, h1], rfl⟩
  · iterate 1 refine e_sp rfl rfl rfl ?_
    refine e_ci 0 rfl rfl ?_
    iterate 2 refine e_sp rfl rfl rfl ?_
    refine e_ci 1 rfl rfl ?_
    iterate 1 refine e_sp rfl rfl rfl ?_
    refine e_callS1 ok_M_in rfl lk_M_110 k_M_in rfl rfl ⟨Nat.le_of_ble_eq_true rfl, Nat.le_of_ble_eq_true rfl⟩ ⟨Nat.zero_le _, Nat.zero_le _⟩ (Nat.le_of_ble_eq_true rfl) ?_
    refine e_ifeq rfl (fun h2 => ?_) (fun h2 => ?_)
    · refine e_ci 0 rfl rfl ?_
      refine e_zret rfl rfl (Nat.le_refl _) (Nat.le_refl _) (by decide) ?_
      exact ⟨by simp [hcM, h1, h2], rfl⟩
    · iterate 1 refine e_sp rfl rfl rfl ?_
      refine e_ci 0 rfl rfl ?_
      iterate 2 refine e_sp rfl rfl rfl ?_
      refine e_ci 1 rfl rfl ?_
      iterate 1 refine e_sp rfl rfl rfl ?_
      refine e_callS1 ok_M_in rfl lk_M_110 k_M_in rfl rfl ⟨Nat.le_of_ble_eq_true rfl, Nat.le_of_ble_eq_true rfl⟩ ⟨Nat.zero_le _, Nat.zero_le _⟩ (Nat.le_of_ble_eq_true rfl) ?_
      refine e_ifeq rfl (fun h3 => ?_) (fun h3 => ?_)
      · refine e_ci 0 rfl rfl ?_
        refine e_zret rfl rfl (Nat.le_refl _) (Nat.le_refl _) (by decide) ?_
        exact ⟨by simp [hcM, h1, h2, h3], rfl⟩
      · refine e_ci 1 rfl rfl ?_
        refine e_goto rfl ?_
        refine e_zret rfl rfl (Nat.le_refl _) (Nat.le_refl _) (by decide) ?_
        exact ⟨by simp [hcM, h1, h2, h3], rfl⟩
set_option maxHeartbeats 4000000 in
set_option maxRecDepth 40000 in
theorem k_M_hasPlace {l : Launch} {h : Nat} {S : St} {i j : Int32}  : KK l (SHm h) (1, 22) m_M_hasPlace [aR 21, aI i, aI j] S (ans (some (aI (hpM S i j))) S) := by
  refine k_start ok_M_hasPlace (Nat.le_of_ble_eq_true rfl) ?_
  iterate 1 refine e_sp rfl rfl rfl ?_
  refine e_ci 0 rfl rfl ?_
  iterate 2 refine e_sp rfl rfl rfl ?_
  refine e_ci 1 rfl rfl ?_
  iterate 1 refine e_sp rfl rfl rfl ?_
  refine e_callS1 ok_M_in rfl lk_M_110 k_M_in rfl rfl ⟨Nat.le_of_ble_eq_true rfl, Nat.le_of_ble_eq_true rfl⟩ ⟨Nat.zero_le _, Nat.zero_le _⟩ (Nat.le_of_ble_eq_true rfl) ?_
  refine e_ifeq rfl (fun h1 => ?_) (fun h1 => ?_)
  · refine e_ci 0 rfl rfl ?_
    refine e_zret rfl rfl (Nat.le_refl _) (Nat.le_refl _) (by decide) ?_
    exact ⟨by simp [hpM, h1], rfl⟩
  · iterate 1 refine e_sp rfl rfl rfl ?_
    refine e_ci 0 rfl rfl ?_
    iterate 2 refine e_sp rfl rfl rfl ?_
    refine e_ci 1 rfl rfl ?_
    iterate 1 refine e_sp rfl rfl rfl ?_
    refine e_callS1 ok_M_in rfl lk_M_110 k_M_in rfl rfl ⟨Nat.le_of_ble_eq_true rfl, Nat.le_of_ble_eq_true rfl⟩ ⟨Nat.zero_le _, Nat.zero_le _⟩ (Nat.le_of_ble_eq_true rfl) ?_
    refine e_ifeq rfl (fun h2 => ?_) (fun h2 => ?_)
    · refine e_ci 0 rfl rfl ?_
      refine e_zret rfl rfl (Nat.le_refl _) (Nat.le_refl _) (by decide) ?_
      exact ⟨by simp [hpM, h1, h2], rfl⟩
    · refine e_ci 1 rfl rfl ?_
      refine e_goto rfl ?_
      refine e_zret rfl rfl (Nat.le_refl _) (Nat.le_refl _) (by decide) ?_
      exact ⟨by simp [hpM, h1, h2], rfl⟩
set_option maxHeartbeats 4000000 in
set_option maxRecDepth 40000 in
theorem k_M_xOf {l : Launch} {h : Nat} {S : St} {i j : Int32}  : KK l (SHm h) (1, 20) m_M_xOf [aR 21, aI i, aI j] S (ans (some (aI (xM S i j))) S) := by
  refine k_start ok_M_xOf (Nat.le_of_ble_eq_true rfl) ?_
  iterate 12 refine e_sp rfl rfl rfl ?_
  refine e_callS1 ok_M_by256 rfl lk_M_125 k_M_by256 rfl rfl ⟨Nat.le_of_ble_eq_true rfl, Nat.le_of_ble_eq_true rfl⟩ ⟨Nat.zero_le _, Nat.zero_le _⟩ (Nat.le_of_ble_eq_true rfl) ?_
  refine e_iret rfl rfl (Nat.le_refl _) (Nat.le_refl _) ?_
  exact ⟨rfl, rfl⟩
set_option maxHeartbeats 4000000 in
set_option maxRecDepth 40000 in
theorem k_M_yOf {l : Launch} {h : Nat} {S : St} {i j : Int32}  : KK l (SHm h) (1, 20) m_M_yOf [aR 21, aI i, aI j] S (ans (some (aI (yM S i j))) S) := by
  refine k_start ok_M_yOf (Nat.le_of_ble_eq_true rfl) ?_
  iterate 12 refine e_sp rfl rfl rfl ?_
  refine e_callS1 ok_M_by256 rfl lk_M_125 k_M_by256 rfl rfl ⟨Nat.le_of_ble_eq_true rfl, Nat.le_of_ble_eq_true rfl⟩ ⟨Nat.zero_le _, Nat.zero_le _⟩ (Nat.le_of_ble_eq_true rfl) ?_
  refine e_iret rfl rfl (Nat.le_refl _) (Nat.le_refl _) ?_
  exact ⟨rfl, rfl⟩
set_option maxHeartbeats 4000000 in
set_option maxRecDepth 40000 in
theorem k_M_isOutside {l : Launch} {h : Nat} {S : St} {i j : Int32}  : KK l (SHm h) (2, 42) m_M_isOutside [aR 21, aI i, aI j] S (ans (some (aI (ouM S i j))) S) := by
  refine k_start ok_M_isOutside (Nat.le_of_ble_eq_true rfl) ?_
  iterate 3 refine e_sp rfl rfl rfl ?_
  refine e_callV1 ok_M_xOf rfl lk_M_129 (by rfl) (by rfl) k_M_xOf rfl rfl ⟨Nat.le_of_ble_eq_true rfl, Nat.le_of_ble_eq_true rfl⟩ ⟨Nat.zero_le _, Nat.zero_le _⟩ (Nat.le_of_ble_eq_true rfl) ?_
  iterate 4 refine e_sp rfl rfl rfl ?_
  refine e_callV1 ok_M_yOf rfl lk_M_132 (by rfl) (by rfl) k_M_yOf rfl rfl ⟨Nat.le_of_ble_eq_true rfl, Nat.le_of_ble_eq_true rfl⟩ ⟨Nat.zero_le _, Nat.zero_le _⟩ (Nat.le_of_ble_eq_true rfl) ?_
  iterate 5 refine e_sp rfl rfl rfl ?_
  refine e_ifle rfl (fun h1 => ?_) (fun h1 => ?_)
  · refine e_ci 1 rfl rfl ?_
    refine e_goto rfl ?_
    refine e_zret rfl rfl (Nat.le_refl _) (Nat.le_refl _) (by decide) ?_
    exact ⟨by simp [ouM, h1], rfl⟩
  · iterate 3 refine e_sp rfl rfl rfl ?_
    refine e_icge rfl (fun h2 => ?_) (fun h2 => ?_)
    · refine e_ci 1 rfl rfl ?_
      refine e_goto rfl ?_
      refine e_zret rfl rfl (Nat.le_refl _) (Nat.le_refl _) (by decide) ?_
      exact ⟨by simp [ouM, h1, h2], rfl⟩
    · iterate 4 refine e_sp rfl rfl rfl ?_
      refine e_ifle rfl (fun h3 => ?_) (fun h3 => ?_)
      · refine e_ci 1 rfl rfl ?_
        refine e_goto rfl ?_
        refine e_zret rfl rfl (Nat.le_refl _) (Nat.le_refl _) (by decide) ?_
        exact ⟨by simp [ouM, h1, h2, h3], rfl⟩
      · iterate 3 refine e_sp rfl rfl rfl ?_
        refine e_iclt rfl (fun h4 => ?_) (fun h4 => ?_)
        · refine e_ci 0 rfl rfl ?_
          refine e_zret rfl rfl (Nat.le_refl _) (Nat.le_refl _) (by decide) ?_
          exact ⟨by simp [ouM, h1, h2, h3, h4], rfl⟩
        · refine e_ci 1 rfl rfl ?_
          refine e_goto rfl ?_
          refine e_zret rfl rfl (Nat.le_refl _) (Nat.le_refl _) (by decide) ?_
          exact ⟨by simp [ouM, h1, h2, h3, h4], rfl⟩
set_option maxHeartbeats 4000000 in
set_option maxRecDepth 40000 in
theorem k_M_isSkipped {l : Launch} {h : Nat} {S : St} {i j : Int32}  : KK l (SHm h) (3, 66) m_M_isSkipped [aR 21, aI i, aI j] S (ans (some (aI (skM S i j))) S) := by
  refine k_start ok_M_isSkipped (Nat.le_of_ble_eq_true rfl) ?_
  iterate 2 refine e_sp rfl rfl rfl ?_
  refine e_ci 1 rfl rfl ?_
  refine e_icne rfl (fun h1 => ?_) (fun h1 => ?_)
  · refine e_ci 0 rfl rfl ?_
    refine e_zret rfl rfl (Nat.le_refl _) (Nat.le_refl _) (by decide) ?_
    exact ⟨by simp [skM, h1], rfl⟩
  · iterate 3 refine e_sp rfl rfl rfl ?_
    refine e_callV1 ok_M_isOutside rfl lk_M_135 (by rfl) (by rfl) k_M_isOutside rfl rfl ⟨Nat.le_of_ble_eq_true rfl, Nat.le_of_ble_eq_true rfl⟩ ⟨Nat.zero_le _, Nat.zero_le _⟩ (Nat.le_of_ble_eq_true rfl) ?_
    refine e_ifeq rfl (fun h2 => ?_) (fun h2 => ?_)
    · refine e_ci 0 rfl rfl ?_
      refine e_zret rfl rfl (Nat.le_refl _) (Nat.le_refl _) (by decide) ?_
      exact ⟨by simp [skM, h1, h2], rfl⟩
    · refine e_ci 1 rfl rfl ?_
      refine e_goto rfl ?_
      refine e_zret rfl rfl (Nat.le_refl _) (Nat.le_refl _) (by decide) ?_
      exact ⟨by simp [skM, h1, h2], rfl⟩
set_option maxHeartbeats 4000000 in
set_option maxRecDepth 40000 in
theorem k_M_planes {l : Launch} {h : Nat} {S : St} {m : Nat} (hm : S.1 21 7 = nI (m + 1)) (hm2 : m < 64) : KK l (SHm h) (0, 0) m_M_planes [aR 21] S (ans (some (aI (nI (bl 6 m)))) S) := by
  refine k_start ok_M_planes (Nat.le_of_ble_eq_true rfl) ?_
  have hsh : ∀ n, n ≤ 6 → nI m >>> (nI n &&& 31) = nI (m / 2 ^ n) := fun n hn => shr_k (by omega) n (by omega)
  have L : ∀ (f n : Nat), n + f = 6 → m / 2 ^ n < 2 ^ f → E0 l (SHm h) (0, 0) m_M_planes 2 [some (aR 21), some (aI (nI n))] [] S (ans (some (aI (nI (n + bl f (m / 2 ^ n))))) S) := by
    intro f
    induction f with
    | zero =>
      intro n hn hlt
      have e0 : m / 2 ^ n = 0 := Nat.lt_one_iff.mp hlt
      iterate 2 refine e_sp rfl rfl rfl ?_
      refine e_ci 1 rfl rfl ?_
      iterate 3 refine e_sp rfl rfl rfl ?_
      dsimp only
      rw [hm, nI_pred, hsh n (by omega), e0]
      refine e_ifeq rfl (fun h1 => ?_) (fun h1 => absurd nI_0 h1)
      iterate 1 refine e_sp rfl rfl rfl ?_
      refine e_iret rfl rfl (Nat.le_refl _) (Nat.le_refl _) ?_
      exact ⟨rfl, rfl⟩
    | succ f ih =>
      intro n hn hlt
      iterate 2 refine e_sp rfl rfl rfl ?_
      refine e_ci 1 rfl rfl ?_
      iterate 3 refine e_sp rfl rfl rfl ?_
      dsimp only
      rw [hm, nI_pred, hsh n (by omega)]
      have hb : m / 2 ^ n < 2 ^ 31 := Nat.lt_of_le_of_lt (Nat.div_le_self _ _) (by omega)
      refine e_ifeq rfl (fun h1 => ?_) (fun h1 => ?_)
      · have e0 : m / 2 ^ n = 0 := by
          rcases Nat.eq_zero_or_pos (m / 2 ^ n) with q | q
          · exact q
          · exact absurd h1 (nI_ne0 q hb)
        iterate 1 refine e_sp rfl rfl rfl ?_
        refine e_iret rfl rfl (Nat.le_refl _) (Nat.le_refl _) ?_
        rw [e0]
        exact ⟨by simp [bl], rfl⟩
      · have e0 : ¬ m / 2 ^ n = 0 := fun q => h1 (by rw [q]; exact nI_0)
        refine e_inc 1 rfl rfl rfl rfl ?_
        refine e_goto rfl ?_
        rw [nI_1]
        have e9 := ih (n + 1) (by omega) (by rw [Nat.pow_succ, ← Nat.div_div_eq_div_mul]; rw [Nat.pow_succ] at hlt; omega)
        rw [show n + 1 + bl f (m / 2 ^ (n + 1)) = n + bl (f + 1) (m / 2 ^ n) by simp only [bl]; rw [if_neg e0, Nat.pow_succ, ← Nat.div_div_eq_div_mul]; omega] at e9
        exact e9
  refine e_ci 0 rfl rfl ?_
  iterate 1 refine e_sp rfl rfl rfl ?_
  have L0 := L 6 0 rfl (by simpa using hm2)
  rw [Nat.pow_zero, Nat.div_one, Nat.zero_add] at L0
  exact L0
theorem okP_m {c : Int32} {S : St} {a b : Int32} (h : ¬ wi c 1 64 = 0) : (blM S a b c).1 21 7 = nI (c.toNatClampNeg - 1 + 1) := by
  obtain ⟨m, hm, rfl⟩ := wi_1n (n := 64) (by decide) h
  rw [nI_clamp (by omega), show m + 1 - 1 + 1 = m + 1 by omega]
  rfl
theorem okP_n {c : Int32} (h : ¬ wi c 1 64 = 0) : c.toNatClampNeg - 1 < 64 := by
  obtain ⟨m, hm, rfl⟩ := wi_1n (n := 64) (by decide) h
  rw [nI_clamp (by omega)]
  omega
set_option maxHeartbeats 4000000 in
set_option maxRecDepth 40000 in
theorem k_M_patterns {l : Launch} {h : Nat} {S : St} {a b c : Int32}  : KK l (SHm h) (1, 24) m_M_patterns [aR 21, aI a, aI b, aI c] S (ans (some (aI (if okP a b c = 0 then nI (bl 6 (c.toNatClampNeg - 1)) else 0))) (if okP a b c = 0 then blM (puI S 21 0 0) a b c else puI S 21 0 1)) := by
  refine k_start ok_M_patterns (Nat.le_of_ble_eq_true rfl) ?_
  iterate 2 refine e_sp rfl rfl rfl ?_
  refine e_ci 1 rfl rfl ?_
  refine e_cb 8 rfl rfl ?_
  refine e_callS1 ok_M_in rfl lk_M_110 k_M_in rfl rfl ⟨Nat.le_of_ble_eq_true rfl, Nat.le_of_ble_eq_true rfl⟩ ⟨Nat.zero_le _, Nat.zero_le _⟩ (Nat.le_of_ble_eq_true rfl) ?_
  refine e_ifeq rfl (fun h1 => ?_) (fun h1 => ?_)
  · refine e_ci 1 rfl rfl ?_
    iterate 3 refine e_sp rfl rfl rfl ?_
    refine e_ifle rfl (fun h2 => absurd h2 (by first | decide | simp [puI, pt, upd])) (fun _ => ?_)
    refine e_ci 0 rfl rfl ?_
    refine e_iret rfl rfl (Nat.le_refl _) (Nat.le_refl _) ?_
    exact ⟨by simp [okP, h1], by simp [okP, h1]⟩
  · iterate 1 refine e_sp rfl rfl rfl ?_
    refine e_ci 1 rfl rfl ?_
    refine e_cb 8 rfl rfl ?_
    refine e_callS1 ok_M_in rfl lk_M_110 k_M_in rfl rfl ⟨Nat.le_of_ble_eq_true rfl, Nat.le_of_ble_eq_true rfl⟩ ⟨Nat.zero_le _, Nat.zero_le _⟩ (Nat.le_of_ble_eq_true rfl) ?_
    refine e_ifeq rfl (fun h3 => ?_) (fun h3 => ?_)
    · refine e_ci 1 rfl rfl ?_
      iterate 3 refine e_sp rfl rfl rfl ?_
      refine e_ifle rfl (fun h4 => absurd h4 (by first | decide | simp [puI, pt, upd])) (fun _ => ?_)
      refine e_ci 0 rfl rfl ?_
      refine e_iret rfl rfl (Nat.le_refl _) (Nat.le_refl _) ?_
      exact ⟨by simp [okP, h1, h3], by simp [okP, h1, h3]⟩
    · iterate 1 refine e_sp rfl rfl rfl ?_
      refine e_ci 1 rfl rfl ?_
      refine e_cb 64 rfl rfl ?_
      refine e_callS1 ok_M_in rfl lk_M_110 k_M_in rfl rfl ⟨Nat.le_of_ble_eq_true rfl, Nat.le_of_ble_eq_true rfl⟩ ⟨Nat.zero_le _, Nat.zero_le _⟩ (Nat.le_of_ble_eq_true rfl) ?_
      refine e_ifeq rfl (fun h5 => ?_) (fun h5 => ?_)
      · refine e_ci 1 rfl rfl ?_
        iterate 3 refine e_sp rfl rfl rfl ?_
        refine e_ifle rfl (fun h6 => absurd h6 (by first | decide | simp [puI, pt, upd])) (fun _ => ?_)
        refine e_ci 0 rfl rfl ?_
        refine e_iret rfl rfl (Nat.le_refl _) (Nat.le_refl _) ?_
        exact ⟨by simp [okP, h1, h3, h5], by simp [okP, h1, h3, h5]⟩
      · refine e_ci 0 rfl rfl ?_
        refine e_goto rfl ?_
        iterate 3 refine e_sp rfl rfl rfl ?_
        refine e_ifle rfl (fun _ => ?_) (fun h7 => absurd h7 (by first | decide | simp [puI, pt, upd]))
        iterate 4 refine e_sp rfl rfl rfl ?_
        refine e_callV0 ok_M_blank rfl lk_M_58 (by rfl) (by rfl) k_M_blank rfl rfl ⟨Nat.le_of_ble_eq_true rfl, Nat.le_of_ble_eq_true rfl⟩ ⟨Nat.zero_le _, Nat.zero_le _⟩ (Nat.le_of_ble_eq_true rfl) ?_
        iterate 1 refine e_sp rfl rfl rfl ?_
        refine e_callV1 ok_M_planes rfl lk_M_114 (by rfl) (by rfl) (k_M_planes (m := c.toNatClampNeg - 1) (okP_m (by assumption)) (okP_n (by assumption))) rfl rfl ⟨Nat.le_of_ble_eq_true rfl, Nat.le_of_ble_eq_true rfl⟩ ⟨Nat.zero_le _, Nat.zero_le _⟩ (Nat.le_of_ble_eq_true rfl) ?_
        refine e_iret rfl rfl (Nat.le_refl _) (Nat.le_refl _) ?_
        exact ⟨by simp [okP, h1, h3, h5], by simp [okP, h1, h3, h5]⟩
def ix (k x y : Int32) : Nat := (64 * k + 8 * y + x).toNatClampNeg
def puM (S : St) (k x y b : Int32) : St := if hcM S k x y = 0 then puI S 21 0 1 else puI (puI S 21 0 0) 24 (ix k x y) (vp_nar .boolean b)
set_option maxHeartbeats 4000000 in
set_option maxRecDepth 40000 in
theorem k_M_put {l : Launch} {h : Nat} {S : St} {k x y b : Int32} {m w g : Nat} (hm : S.1 21 7 = nI m) (hw : S.1 21 5 = nI w) (hg : S.1 21 6 = nI g) (hm2 : m ≤ 64) (hw2 : w ≤ 8) (hg2 : g ≤ 8) : KK l (SHm h) (2, 45) m_M_put [aR 21, aI k, aI x, aI y, aI b] S (ans (some (aI (if hcM S k x y = 0 then 0 else if S.1 24 (ix k x y) = b then 0 else 1))) (puM S k x y b)) := by
  refine k_start ok_M_put (Nat.le_of_ble_eq_true rfl) ?_
  iterate 5 refine e_sp rfl rfl rfl ?_
  refine e_callV1 ok_M_hasCell rfl lk_M_122 (by rfl) (by rfl) k_M_hasCell rfl rfl ⟨Nat.le_of_ble_eq_true rfl, Nat.le_of_ble_eq_true rfl⟩ ⟨Nat.zero_le _, Nat.zero_le _⟩ (Nat.le_of_ble_eq_true rfl) ?_
  refine e_ifeq rfl (fun h1 => ?_) (fun h1 => ?_)
  · refine e_ci 1 rfl rfl ?_
    iterate 3 refine e_sp rfl rfl rfl ?_
    refine e_ifle rfl (fun h2 => absurd h2 (by first | decide | simp [puI, pt, upd])) (fun _ => ?_)
    refine e_ci 0 rfl rfl ?_
    refine e_zret rfl rfl (Nat.le_refl _) (Nat.le_refl _) (by decide) ?_
    exact ⟨by simp_all [puI, pt, upd, ix], by simp_all [puM, puI, pt, upd, ix]⟩
  · refine e_ci 0 rfl rfl ?_
    refine e_goto rfl ?_
    iterate 3 refine e_sp rfl rfl rfl ?_
    refine e_ifle rfl (fun _ => ?_) (fun h3 => absurd h3 (by first | decide | simp [puI, pt, upd]))
    iterate 2 refine e_sp rfl rfl rfl ?_
    refine e_cb 64 rfl rfl ?_
    iterate 2 refine e_sp rfl rfl rfl ?_
    refine e_cb 8 rfl rfl ?_
    iterate 5 refine e_sp rfl rfl rfl ?_
    refine e_zald rfl (by first | rfl | assumption) (by exact hcM_in hm hw hg hm2 hw2 hg2 (by assumption)) ?_
    iterate 1 refine e_sp rfl rfl rfl ?_
    refine e_iceq rfl (fun h4 => ?_) (fun h4 => ?_)
    · refine e_ci 0 rfl rfl ?_
      iterate 3 refine e_sp rfl rfl rfl ?_
      refine e_cb 64 rfl rfl ?_
      iterate 2 refine e_sp rfl rfl rfl ?_
      refine e_cb 8 rfl rfl ?_
      iterate 6 refine e_sp rfl rfl rfl ?_
      refine e_zast rfl (by first | rfl | assumption) (by exact hcM_in hm hw hg hm2 hw2 hg2 (by assumption)) ?_
      iterate 1 refine e_sp rfl rfl rfl ?_
      refine e_zret rfl rfl (Nat.le_refl _) (Nat.le_refl _) (by decide) ?_
      exact ⟨by simp_all [puI, pt, upd, ix], by simp_all [puM, puI, pt, upd, ix]⟩
    · refine e_ci 1 rfl rfl ?_
      refine e_goto rfl ?_
      iterate 3 refine e_sp rfl rfl rfl ?_
      refine e_cb 64 rfl rfl ?_
      iterate 2 refine e_sp rfl rfl rfl ?_
      refine e_cb 8 rfl rfl ?_
      iterate 6 refine e_sp rfl rfl rfl ?_
      refine e_zast rfl (by first | rfl | assumption) (by exact hcM_in hm hw hg hm2 hw2 hg2 (by assumption)) ?_
      iterate 1 refine e_sp rfl rfl rfl ?_
      refine e_zret rfl rfl (Nat.le_refl _) (Nat.le_refl _) (by decide) ?_
      exact ⟨by simp_all [puI, pt, upd, ix], by simp_all [puM, puI, pt, upd, ix]⟩
set_option maxHeartbeats 4000000 in
set_option maxRecDepth 40000 in
theorem k_M_cell {l : Launch} {h : Nat} {S : St} {k x y : Int32} {m w g : Nat} (hm : S.1 21 7 = nI m) (hw : S.1 21 5 = nI w) (hg : S.1 21 6 = nI g) (hm2 : m ≤ 64) (hw2 : w ≤ 8) (hg2 : g ≤ 8) : KK l (SHm h) (2, 45) m_M_cell [aR 21, aI k, aI x, aI y] S (ans (some (aI (if hcM S k x y = 0 then 0 else if S.1 24 (ix k x y) = 0 then 0 else 1))) (puI S 21 0 (if hcM S k x y = 0 then 1 else 0))) := by
  refine k_start ok_M_cell (Nat.le_of_ble_eq_true rfl) ?_
  iterate 5 refine e_sp rfl rfl rfl ?_
  refine e_callV1 ok_M_hasCell rfl lk_M_122 (by rfl) (by rfl) k_M_hasCell rfl rfl ⟨Nat.le_of_ble_eq_true rfl, Nat.le_of_ble_eq_true rfl⟩ ⟨Nat.zero_le _, Nat.zero_le _⟩ (Nat.le_of_ble_eq_true rfl) ?_
  refine e_ifeq rfl (fun h1 => ?_) (fun h1 => ?_)
  · refine e_ci 1 rfl rfl ?_
    iterate 3 refine e_sp rfl rfl rfl ?_
    refine e_ifne rfl (fun _ => ?_) (fun h2 => absurd h2 (by first | decide | simp [puI, pt, upd]))
    refine e_ci 0 rfl rfl ?_
    refine e_zret rfl rfl (Nat.le_refl _) (Nat.le_refl _) (by decide) ?_
    exact ⟨by simp_all [puI, pt, upd, ix], by simp_all⟩
  · refine e_ci 0 rfl rfl ?_
    refine e_goto rfl ?_
    iterate 3 refine e_sp rfl rfl rfl ?_
    refine e_ifne rfl (fun h3 => absurd h3 (by first | decide | simp [puI, pt, upd])) (fun _ => ?_)
    iterate 2 refine e_sp rfl rfl rfl ?_
    refine e_cb 64 rfl rfl ?_
    iterate 2 refine e_sp rfl rfl rfl ?_
    refine e_cb 8 rfl rfl ?_
    iterate 5 refine e_sp rfl rfl rfl ?_
    refine e_zald rfl (by first | rfl | assumption) (by exact hcM_in hm hw hg hm2 hw2 hg2 (by assumption)) ?_
    refine e_ifeq rfl (fun h4 => ?_) (fun h4 => ?_)
    · refine e_ci 0 rfl rfl ?_
      refine e_zret rfl rfl (Nat.le_refl _) (Nat.le_refl _) (by decide) ?_
      exact ⟨by simp_all [puI, pt, upd, ix], by simp_all⟩
    · refine e_ci 1 rfl rfl ?_
      refine e_goto rfl ?_
      refine e_zret rfl rfl (Nat.le_refl _) (Nat.le_refl _) (by decide) ?_
      exact ⟨by simp_all [puI, pt, upd, ix], by simp_all⟩
def dkF (S : St) (k i : Nat) (a : Int32) : Int32 := a + (if S.1 24 (64 * k + i) = 0 then 0 else 1)
def dkM (S : St) (k : Nat) : Int32 := nF (dkF S k) 64 0
theorem ix6 (a b : Nat) : (64 : Int32) * nI a + nI b = nI (64 * a + b) := by
  rw [show (64 : Int32) = nI 64 from rfl, pk_mul, nI_add]
set_option maxHeartbeats 4000000 in
set_option maxRecDepth 40000 in
theorem k_M_darkIn {l : Launch} {h : Nat} {S : St} {k : Nat} (hk : k < 64) : KK l (SHm h) (0, 0) m_M_darkIn [aR 21, aI (nI k)] S (ans (some (aI (dkM S k))) S) := by
  refine k_start ok_M_darkIn (Nat.le_of_ble_eq_true rfl) ?_
  have L1 := e_for (P := fun i => E0 l (SHm h) (0, 0) m_M_darkIn 4 [some (aR 21), some (aI (nI k)), some (aI (nF (dkF S k) i 0)), some (aI (nI i))] [] (S) (ans (some (aI (dkM S k))) S)) (64) (by
      iterate 1 refine e_sp rfl rfl rfl ?_
      refine e_cb 64 rfl rfl ?_
      refine e_icge rfl (fun h1 => ?_) (fun h1 => ?_)
      · iterate 1 refine e_sp rfl rfl rfl ?_
        refine e_iret rfl rfl (Nat.le_refl _) (Nat.le_refl _) ?_
        exact ⟨rfl, rfl⟩
      · try dsimp only
        exact absurd (nI_le (Nat.le_refl _) (by decide)) h1) (fun i hi ihi => by
      iterate 1 refine e_sp rfl rfl rfl ?_
      refine e_cb 64 rfl rfl ?_
      refine e_icge rfl (fun h1 => ?_) (fun h1 => ?_)
      · try dsimp only
        exact absurd h1 (nI_ge hi (by decide))
      · iterate 3 refine e_sp rfl rfl rfl ?_
        refine e_cb 64 rfl rfl ?_
        iterate 4 refine e_sp rfl rfl rfl ?_
        dsimp only
        rw [ix6]
        refine e_zald rfl (by first | rfl | assumption) (by exact vp_in_nI (show 64 * k + i < 4096 by omega) (by decide)) ?_
        rw [nI_clamp (by omega)]
        refine e_ifeq rfl (fun h2 => ?_) (fun h2 => ?_)
        · refine e_ci 0 rfl rfl ?_
          iterate 2 refine e_sp rfl rfl rfl ?_
          refine e_inc 1 rfl rfl rfl rfl ?_
          refine e_goto rfl ?_
          try dsimp only
          rw [nI_1]
          simp only [nF, dkF] at ihi
          first | rw [if_pos h2] at ihi | rw [if_neg h2] at ihi
          exact ihi
        · refine e_ci 1 rfl rfl ?_
          refine e_goto rfl ?_
          iterate 2 refine e_sp rfl rfl rfl ?_
          refine e_inc 1 rfl rfl rfl rfl ?_
          refine e_goto rfl ?_
          try dsimp only
          rw [nI_1]
          simp only [nF, dkF] at ihi
          first | rw [if_pos h2] at ihi | rw [if_neg h2] at ihi
          exact ihi)
  refine e_ci 0 rfl rfl ?_
  iterate 1 refine e_sp rfl rfl rfl ?_
  refine e_ci 0 rfl rfl ?_
  iterate 1 refine e_sp rfl rfl rfl ?_
  try dsimp only
  exact L1
def daF (S : St) (o i : Nat) (a : Int32) : Int32 := a + (if S.1 o i = 0 then 0 else 1)
def daM (S : St) (o : Nat) : Int32 := nF (daF S o) 1024 0
set_option maxHeartbeats 4000000 in
set_option maxRecDepth 40000 in
theorem k_M_dark {l : Launch} {h : Nat} {S : St} {o : Nat} (hB : (SHm h)[o]? = some (.inr (.boolean, 1024))) : KK l (SHm h) (0, 0) m_M_dark [aR o] S (ans (some (aI (daM S o))) S) := by
  refine k_start ok_M_dark (Nat.le_of_ble_eq_true rfl) ?_
  have L1 := e_for (P := fun i => E0 l (SHm h) (0, 0) m_M_dark 4 [some (aR o), some (aI (nF (daF S o) i 0)), some (aI (nI i))] [] (S) (ans (some (aI (daM S o))) S)) (1024) (by
      iterate 1 refine e_sp rfl rfl rfl ?_
      refine e_cs 1024 rfl rfl ?_
      refine e_icge rfl (fun h1 => ?_) (fun h1 => ?_)
      · iterate 1 refine e_sp rfl rfl rfl ?_
        refine e_iret rfl rfl (Nat.le_refl _) (Nat.le_refl _) ?_
        exact ⟨rfl, rfl⟩
      · try dsimp only
        exact absurd (nI_le (Nat.le_refl _) (by decide)) h1) (fun i hi ihi => by
      iterate 1 refine e_sp rfl rfl rfl ?_
      refine e_cs 1024 rfl rfl ?_
      refine e_icge rfl (fun h1 => ?_) (fun h1 => ?_)
      · try dsimp only
        exact absurd h1 (nI_ge hi (by decide))
      · iterate 3 refine e_sp rfl rfl rfl ?_
        refine e_zald rfl (by first | rfl | assumption) (by exact vp_in_nI hi (by decide)) ?_
        rw [nI_clamp (by omega)]
        refine e_ifeq rfl (fun h2 => ?_) (fun h2 => ?_)
        · refine e_ci 0 rfl rfl ?_
          iterate 2 refine e_sp rfl rfl rfl ?_
          refine e_inc 1 rfl rfl rfl rfl ?_
          refine e_goto rfl ?_
          try dsimp only
          rw [nI_1]
          simp only [nF, daF] at ihi
          first | rw [if_pos h2] at ihi | rw [if_neg h2] at ihi
          exact ihi
        · refine e_ci 1 rfl rfl ?_
          refine e_goto rfl ?_
          iterate 2 refine e_sp rfl rfl rfl ?_
          refine e_inc 1 rfl rfl rfl rfl ?_
          refine e_goto rfl ?_
          try dsimp only
          rw [nI_1]
          simp only [nF, daF] at ihi
          first | rw [if_pos h2] at ihi | rw [if_neg h2] at ihi
          exact ihi)
  refine e_ci 0 rfl rfl ?_
  iterate 1 refine e_sp rfl rfl rfl ?_
  refine e_ci 0 rfl rfl ?_
  iterate 1 refine e_sp rfl rfl rfl ?_
  try dsimp only
  exact L1
end
section
/-! the reference: grid, page, region -/
def hsM (S : St) (x y : Int32) : Int32 := if wi x 0 (S.1 21 1 - 1) = 0 then 0 else if wi y 0 (S.1 21 2 - 1) = 0 then 0 else 1
theorem two_nat {x y : Int32} {w g : Nat} (hw2 : w < 2 ^ 31) (hg2 : g < 2 ^ 31) (h : ¬ (if wi x 0 (nI w - 1) = 0 then (0 : Int32) else if wi y 0 (nI g - 1) = 0 then 0 else 1) = 0) : ∃ a b : Nat, a < w ∧ b < g ∧ x = nI a ∧ y = nI b := by
  by_cases h1 : wi x 0 (nI w - 1) = 0
  · rw [if_pos h1] at h; exact absurd rfl h
  rw [if_neg h1] at h
  by_cases h2 : wi y 0 (nI g - 1) = 0
  · rw [if_pos h2] at h; exact absurd rfl h
  obtain ⟨a, ha, e1⟩ := wi_nat hw2 h1
  obtain ⟨b, hb, e2⟩ := wi_nat hg2 h2
  exact ⟨a, b, ha, hb, e1, e2⟩
theorem hsM_nat {S : St} {x y : Int32} {w g : Nat} (hw : S.1 21 1 = nI w) (hg : S.1 21 2 = nI g) (hw2 : w ≤ 32) (hg2 : g ≤ 32) (h : ¬ hsM S x y = 0) : ∃ a b : Nat, a < w ∧ b < g ∧ x = nI a ∧ y = nI b := by
  unfold hsM at h
  rw [hw, hg] at h
  exact two_nat (by omega) (by omega) h
theorem hpM_nat {S : St} {x y : Int32} {w g : Nat} (hw : S.1 21 9 = nI w) (hg : S.1 21 10 = nI g) (hw2 : w ≤ 16) (hg2 : g ≤ 16) (h : ¬ hpM S x y = 0) : ∃ a b : Nat, a < w ∧ b < g ∧ x = nI a ∧ y = nI b := by
  unfold hpM at h
  rw [hw, hg] at h
  exact two_nat (by omega) (by omega) h
theorem ix32 (a b : Nat) : (32 : Int32) * nI b + nI a = nI (32 * b + a) := by
  rw [show (32 : Int32) = nI 32 from rfl, pk_mul, nI_add]
theorem ix16 (a b : Nat) : (16 : Int32) * nI b + nI a = nI (16 * b + a) := by
  rw [show (16 : Int32) = nI 16 from rfl, pk_mul, nI_add]
theorem hsM_in {S : St} {x y : Int32} {w g : Nat} (hw : S.1 21 1 = nI w) (hg : S.1 21 2 = nI g) (hw2 : w ≤ 32) (hg2 : g ≤ 32) (h : ¬ hsM S x y = 0) : vp_in (32 * y + x) 1024 := by
  obtain ⟨a, b, ha, hb, rfl, rfl⟩ := hsM_nat hw hg hw2 hg2 h
  rw [ix32]
  exact vp_in_nI (by omega) (by decide)
theorem hpM_in {S : St} {x y : Int32} {w g : Nat} (hw : S.1 21 9 = nI w) (hg : S.1 21 10 = nI g) (hw2 : w ≤ 16) (hg2 : g ≤ 16) (h : ¬ hpM S x y = 0) : vp_in (16 * y + x) 256 := by
  obtain ⟨a, b, ha, hb, rfl, rfl⟩ := hpM_nat hw hg hw2 hg2 h
  rw [ix16]
  exact vp_in_nI (by omega) (by decide)
def whC (S : St) (i j a : Int32) : Int32 := if hpM S i j = 0 then 1 else if wi a 0 1 = 0 then 2 else 0
def whR (S : St) (i j a : Int32) : Int32 := if hpM S i j = 0 then 0 else if wi a 0 1 = 0 then 0 else if a = 0 then xM S i j else yM S i j
def gyC (S : St) (i j v : Int32) : Int32 := if hpM S i j = 0 then 1 else if wi v 0 (S.1 21 7 - 1) = 0 then 2 else 0
def gyR (S : St) (i j v : Int32) : Int32 := if hpM S i j = 0 then 0 else if wi v 0 (S.1 21 7 - 1) = 0 then 0 else if S.1 25 (16 * j + i).toNatClampNeg = v then 0 else 1
def gyS (S : St) (i j v : Int32) : St := if hpM S i j = 0 then puI S 21 0 1 else if wi v 0 (S.1 21 7 - 1) = 0 then puI S 21 0 2 else puI (puI S 21 0 0) 25 (16 * j + i).toNatClampNeg v
def wyC (w v : Int32) : Int32 := if wi w 0 2 = 0 then 1 else if wi v 0 (if w = 0 then 4 else 1) = 0 then 1 else 0
def wyR (S : St) (w v : Int32) : Int32 := if wyC w v = 0 then (if w = 0 then S.1 21 16 else if w = 1 then S.1 21 17 else S.1 21 18) else 0
def wyT (S : St) (w v : Int32) : St :=
  let A := puI S 21 0 0
  let B := puI A 21 16 (if w = 0 then v else A.1 21 16)
  let C := puI B 21 17 (if w = 1 then v else B.1 21 17)
  puI C 21 18 (if w = 2 then v else C.1 21 18)
def wyS (S : St) (w v : Int32) : St := if wyC w v = 0 then wyT S w v else puI S 21 0 1
set_option maxHeartbeats 4000000 in
set_option maxRecDepth 40000 in
theorem k_M_hasSample {l : Launch} {h : Nat} {S : St} {x y : Int32}  : KK l (SHm h) (1, 22) m_M_hasSample [aR 21, aI x, aI y] S (ans (some (aI (hsM S x y))) S) := by
  refine k_start ok_M_hasSample (Nat.le_of_ble_eq_true rfl) ?_
  iterate 1 refine e_sp rfl rfl rfl ?_
  refine e_ci 0 rfl rfl ?_
  iterate 2 refine e_sp rfl rfl rfl ?_
  refine e_ci 1 rfl rfl ?_
  iterate 1 refine e_sp rfl rfl rfl ?_
  refine e_callS1 ok_M_in rfl lk_M_110 k_M_in rfl rfl ⟨Nat.le_of_ble_eq_true rfl, Nat.le_of_ble_eq_true rfl⟩ ⟨Nat.zero_le _, Nat.zero_le _⟩ (Nat.le_of_ble_eq_true rfl) ?_
  refine e_ifeq rfl (fun h1 => ?_) (fun h1 => ?_)
  · refine e_ci 0 rfl rfl ?_
    refine e_zret rfl rfl (Nat.le_refl _) (Nat.le_refl _) (by decide) ?_
    exact ⟨by simp [hsM, h1], rfl⟩
  · iterate 1 refine e_sp rfl rfl rfl ?_
    refine e_ci 0 rfl rfl ?_
    iterate 2 refine e_sp rfl rfl rfl ?_
    refine e_ci 1 rfl rfl ?_
    iterate 1 refine e_sp rfl rfl rfl ?_
    refine e_callS1 ok_M_in rfl lk_M_110 k_M_in rfl rfl ⟨Nat.le_of_ble_eq_true rfl, Nat.le_of_ble_eq_true rfl⟩ ⟨Nat.zero_le _, Nat.zero_le _⟩ (Nat.le_of_ble_eq_true rfl) ?_
    refine e_ifeq rfl (fun h2 => ?_) (fun h2 => ?_)
    · refine e_ci 0 rfl rfl ?_
      refine e_zret rfl rfl (Nat.le_refl _) (Nat.le_refl _) (by decide) ?_
      exact ⟨by simp [hsM, h1, h2], rfl⟩
    · refine e_ci 1 rfl rfl ?_
      refine e_goto rfl ?_
      refine e_zret rfl rfl (Nat.le_refl _) (Nat.le_refl _) (by decide) ?_
      exact ⟨by simp [hsM, h1, h2], rfl⟩
set_option maxHeartbeats 4000000 in
set_option maxRecDepth 40000 in
theorem k_M_where {l : Launch} {h : Nat} {S : St} {i j a : Int32}  : KK l (SHm h) (2, 44) m_M_where [aR 21, aI i, aI j, aI a] S (ans (some (aI (whR S i j a))) (puI S 21 0 (whC S i j a))) := by
  refine k_start ok_M_where (Nat.le_of_ble_eq_true rfl) ?_
  iterate 4 refine e_sp rfl rfl rfl ?_
  refine e_callV1 ok_M_hasPlace rfl lk_M_141 (by rfl) (by rfl) k_M_hasPlace rfl rfl ⟨Nat.le_of_ble_eq_true rfl, Nat.le_of_ble_eq_true rfl⟩ ⟨Nat.zero_le _, Nat.zero_le _⟩ (Nat.le_of_ble_eq_true rfl) ?_
  refine e_ifne rfl (fun h1 => ?_) (fun h1 => ?_)
  · iterate 1 refine e_sp rfl rfl rfl ?_
    refine e_ci 0 rfl rfl ?_
    refine e_ci 1 rfl rfl ?_
    refine e_callS1 ok_M_in rfl lk_M_110 k_M_in rfl rfl ⟨Nat.le_of_ble_eq_true rfl, Nat.le_of_ble_eq_true rfl⟩ ⟨Nat.zero_le _, Nat.zero_le _⟩ (Nat.le_of_ble_eq_true rfl) ?_
    refine e_ifne rfl (fun h2 => ?_) (fun h2 => ?_)
    · refine e_ci 0 rfl rfl ?_
      iterate 3 refine e_sp rfl rfl rfl ?_
      refine e_ifle rfl (fun _ => ?_) (fun h3 => absurd h3 (by first | decide | simp [puI, pt, upd]))
      iterate 1 refine e_sp rfl rfl rfl ?_
      refine e_ifne rfl (fun h4 => ?_) (fun h4 => ?_)
      · iterate 3 refine e_sp rfl rfl rfl ?_
        refine e_callV1 ok_M_yOf rfl lk_M_132 (by rfl) (by rfl) k_M_yOf rfl rfl ⟨Nat.le_of_ble_eq_true rfl, Nat.le_of_ble_eq_true rfl⟩ ⟨Nat.zero_le _, Nat.zero_le _⟩ (Nat.le_of_ble_eq_true rfl) ?_
        refine e_iret rfl rfl (Nat.le_refl _) (Nat.le_refl _) ?_
        exact ⟨by unfold whR; (first | rw [if_pos h1] | rw [if_neg h1] | skip); (first | rw [if_pos h2] | rw [if_neg h2] | skip); (first | rw [if_pos h4] | rw [if_neg h4] | skip); try rfl, by unfold whC; (first | rw [if_pos h1] | rw [if_neg h1] | skip); (first | rw [if_pos h2] | rw [if_neg h2] | skip); (first | rw [if_pos h4] | rw [if_neg h4] | skip); try rfl⟩
      · iterate 3 refine e_sp rfl rfl rfl ?_
        refine e_callV1 ok_M_xOf rfl lk_M_129 (by rfl) (by rfl) k_M_xOf rfl rfl ⟨Nat.le_of_ble_eq_true rfl, Nat.le_of_ble_eq_true rfl⟩ ⟨Nat.zero_le _, Nat.zero_le _⟩ (Nat.le_of_ble_eq_true rfl) ?_
        refine e_goto rfl ?_
        refine e_iret rfl rfl (Nat.le_refl _) (Nat.le_refl _) ?_
        exact ⟨by unfold whR; (first | rw [if_pos h1] | rw [if_neg h1] | skip); (first | rw [if_pos h2] | rw [if_neg h2] | skip); (first | rw [if_pos h4] | rw [if_neg h4] | skip); try rfl, by unfold whC; (first | rw [if_pos h1] | rw [if_neg h1] | skip); (first | rw [if_pos h2] | rw [if_neg h2] | skip); (first | rw [if_pos h4] | rw [if_neg h4] | skip); try rfl⟩
    · refine e_ci 2 rfl rfl ?_
      refine e_goto rfl ?_
      iterate 3 refine e_sp rfl rfl rfl ?_
      refine e_ifle rfl (fun h5 => absurd h5 (by first | decide | simp [puI, pt, upd])) (fun _ => ?_)
      refine e_ci 0 rfl rfl ?_
      refine e_goto rfl ?_
      refine e_iret rfl rfl (Nat.le_refl _) (Nat.le_refl _) ?_
      exact ⟨by unfold whR; (first | rw [if_pos h1] | rw [if_neg h1] | skip); (first | rw [if_pos h2] | rw [if_neg h2] | skip); try rfl, by unfold whC; (first | rw [if_pos h1] | rw [if_neg h1] | skip); (first | rw [if_pos h2] | rw [if_neg h2] | skip); try rfl⟩
  · refine e_ci 1 rfl rfl ?_
    refine e_goto rfl ?_
    iterate 3 refine e_sp rfl rfl rfl ?_
    refine e_ifle rfl (fun h6 => absurd h6 (by first | decide | simp [puI, pt, upd])) (fun _ => ?_)
    refine e_ci 0 rfl rfl ?_
    refine e_goto rfl ?_
    refine e_iret rfl rfl (Nat.le_refl _) (Nat.le_refl _) ?_
    exact ⟨by unfold whR; (first | rw [if_pos h1] | rw [if_neg h1] | skip); try rfl, by unfold whC; (first | rw [if_pos h1] | rw [if_neg h1] | skip); try rfl⟩
set_option maxHeartbeats 4000000 in
set_option maxRecDepth 40000 in
theorem k_M_outside {l : Launch} {h : Nat} {S : St} {i j : Int32}  : KK l (SHm h) (3, 66) m_M_outside [aR 21, aI i, aI j] S (ans (some (aI (if hpM S i j = 0 then 0 else if ouM (puI S 21 0 0) i j = 0 then 0 else 1))) (puI S 21 0 (if hpM S i j = 0 then 1 else 0))) := by
  refine k_start ok_M_outside (Nat.le_of_ble_eq_true rfl) ?_
  iterate 4 refine e_sp rfl rfl rfl ?_
  refine e_callV1 ok_M_hasPlace rfl lk_M_141 (by rfl) (by rfl) k_M_hasPlace rfl rfl ⟨Nat.le_of_ble_eq_true rfl, Nat.le_of_ble_eq_true rfl⟩ ⟨Nat.zero_le _, Nat.zero_le _⟩ (Nat.le_of_ble_eq_true rfl) ?_
  refine e_ifeq rfl (fun h1 => ?_) (fun h1 => ?_)
  · refine e_ci 1 rfl rfl ?_
    iterate 3 refine e_sp rfl rfl rfl ?_
    refine e_ifne rfl (fun _ => ?_) (fun h2 => absurd h2 (by first | decide | simp [puI, pt, upd]))
    refine e_ci 0 rfl rfl ?_
    refine e_zret rfl rfl (Nat.le_refl _) (Nat.le_refl _) (by decide) ?_
    exact ⟨by simp [h1], by simp [h1]⟩
  · refine e_ci 0 rfl rfl ?_
    refine e_goto rfl ?_
    iterate 3 refine e_sp rfl rfl rfl ?_
    refine e_ifne rfl (fun h3 => absurd h3 (by first | decide | simp [puI, pt, upd])) (fun _ => ?_)
    iterate 3 refine e_sp rfl rfl rfl ?_
    refine e_callV1 ok_M_isOutside rfl lk_M_135 (by rfl) (by rfl) k_M_isOutside rfl rfl ⟨Nat.le_of_ble_eq_true rfl, Nat.le_of_ble_eq_true rfl⟩ ⟨Nat.zero_le _, Nat.zero_le _⟩ (Nat.le_of_ble_eq_true rfl) ?_
    refine e_ifeq rfl (fun h4 => ?_) (fun h4 => ?_)
    · refine e_ci 0 rfl rfl ?_
      refine e_zret rfl rfl (Nat.le_refl _) (Nat.le_refl _) (by decide) ?_
      exact ⟨by simp [h1, h4], by simp [h1, h4]⟩
    · refine e_ci 1 rfl rfl ?_
      refine e_goto rfl ?_
      refine e_zret rfl rfl (Nat.le_refl _) (Nat.le_refl _) (by decide) ?_
      exact ⟨by simp [h1, h4], by simp [h1, h4]⟩
set_option maxHeartbeats 4000000 in
set_option maxRecDepth 40000 in
theorem k_M_grey {l : Launch} {h : Nat} {S : St} {i j v : Int32} {c r : Nat} (hc : S.1 21 9 = nI c) (hr : S.1 21 10 = nI r) (hc2 : c ≤ 16) (hr2 : r ≤ 16) : KK l (SHm h) (2, 44) m_M_grey [aR 21, aI i, aI j, aI v] S (ans (some (aI (gyR S i j v))) (gyS S i j v)) := by
  refine k_start ok_M_grey (Nat.le_of_ble_eq_true rfl) ?_
  iterate 4 refine e_sp rfl rfl rfl ?_
  refine e_callV1 ok_M_hasPlace rfl lk_M_141 (by rfl) (by rfl) k_M_hasPlace rfl rfl ⟨Nat.le_of_ble_eq_true rfl, Nat.le_of_ble_eq_true rfl⟩ ⟨Nat.zero_le _, Nat.zero_le _⟩ (Nat.le_of_ble_eq_true rfl) ?_
  refine e_ifne rfl (fun h1 => ?_) (fun h1 => ?_)
  · iterate 1 refine e_sp rfl rfl rfl ?_
    refine e_ci 0 rfl rfl ?_
    iterate 2 refine e_sp rfl rfl rfl ?_
    refine e_ci 1 rfl rfl ?_
    iterate 1 refine e_sp rfl rfl rfl ?_
    refine e_callS1 ok_M_in rfl lk_M_110 k_M_in rfl rfl ⟨Nat.le_of_ble_eq_true rfl, Nat.le_of_ble_eq_true rfl⟩ ⟨Nat.zero_le _, Nat.zero_le _⟩ (Nat.le_of_ble_eq_true rfl) ?_
    refine e_ifne rfl (fun h2 => ?_) (fun h2 => ?_)
    · refine e_ci 0 rfl rfl ?_
      iterate 3 refine e_sp rfl rfl rfl ?_
      refine e_ifle rfl (fun _ => ?_) (fun h3 => absurd h3 (by first | decide | simp [puI, pt, upd]))
      iterate 2 refine e_sp rfl rfl rfl ?_
      refine e_cb 16 rfl rfl ?_
      iterate 4 refine e_sp rfl rfl rfl ?_
      refine e_iald rfl (by first | rfl | assumption) (by exact hpM_in hc hr hc2 hr2 (by assumption)) ?_
      iterate 1 refine e_sp rfl rfl rfl ?_
      refine e_iceq rfl (fun h4 => ?_) (fun h4 => ?_)
      · refine e_ci 0 rfl rfl ?_
        iterate 3 refine e_sp rfl rfl rfl ?_
        refine e_cb 16 rfl rfl ?_
        iterate 5 refine e_sp rfl rfl rfl ?_
        refine e_iast rfl (by first | rfl | assumption) (by exact hpM_in hc hr hc2 hr2 (by assumption)) ?_
        iterate 1 refine e_sp rfl rfl rfl ?_
        refine e_zret rfl rfl (Nat.le_refl _) (Nat.le_refl _) (by decide) ?_
        exact ⟨by simp_all [gyR, puI, pt, upd], by simp_all [gyS, puI, pt, upd]⟩
      · refine e_ci 1 rfl rfl ?_
        refine e_goto rfl ?_
        iterate 3 refine e_sp rfl rfl rfl ?_
        refine e_cb 16 rfl rfl ?_
        iterate 5 refine e_sp rfl rfl rfl ?_
        refine e_iast rfl (by first | rfl | assumption) (by exact hpM_in hc hr hc2 hr2 (by assumption)) ?_
        iterate 1 refine e_sp rfl rfl rfl ?_
        refine e_zret rfl rfl (Nat.le_refl _) (Nat.le_refl _) (by decide) ?_
        exact ⟨by simp_all [gyR, puI, pt, upd], by simp_all [gyS, puI, pt, upd]⟩
    · refine e_ci 2 rfl rfl ?_
      refine e_goto rfl ?_
      iterate 3 refine e_sp rfl rfl rfl ?_
      refine e_ifle rfl (fun h5 => absurd h5 (by first | decide | simp [puI, pt, upd])) (fun _ => ?_)
      refine e_ci 0 rfl rfl ?_
      refine e_zret rfl rfl (Nat.le_refl _) (Nat.le_refl _) (by decide) ?_
      exact ⟨by simp_all [gyR, puI, pt, upd], by simp_all [gyS, puI, pt, upd]⟩
  · refine e_ci 1 rfl rfl ?_
    refine e_goto rfl ?_
    iterate 3 refine e_sp rfl rfl rfl ?_
    refine e_ifle rfl (fun h6 => absurd h6 (by first | decide | simp [puI, pt, upd])) (fun _ => ?_)
    refine e_ci 0 rfl rfl ?_
    refine e_zret rfl rfl (Nat.le_refl _) (Nat.le_refl _) (by decide) ?_
    exact ⟨by simp_all [gyR, puI, pt, upd], by simp_all [gyS, puI, pt, upd]⟩
set_option maxHeartbeats 4000000 in
set_option maxRecDepth 40000 in
theorem k_M_greyAt {l : Launch} {h : Nat} {S : St} {i j : Int32} {c r : Nat} (hc : S.1 21 9 = nI c) (hr : S.1 21 10 = nI r) (hc2 : c ≤ 16) (hr2 : r ≤ 16) : KK l (SHm h) (2, 44) m_M_greyAt [aR 21, aI i, aI j] S (ans (some (aI (if hpM S i j = 0 then 0 else S.1 25 (16 * j + i).toNatClampNeg))) (puI S 21 0 (if hpM S i j = 0 then 1 else 0))) := by
  refine k_start ok_M_greyAt (Nat.le_of_ble_eq_true rfl) ?_
  iterate 4 refine e_sp rfl rfl rfl ?_
  refine e_callV1 ok_M_hasPlace rfl lk_M_141 (by rfl) (by rfl) k_M_hasPlace rfl rfl ⟨Nat.le_of_ble_eq_true rfl, Nat.le_of_ble_eq_true rfl⟩ ⟨Nat.zero_le _, Nat.zero_le _⟩ (Nat.le_of_ble_eq_true rfl) ?_
  refine e_ifeq rfl (fun h1 => ?_) (fun h1 => ?_)
  · refine e_ci 1 rfl rfl ?_
    iterate 3 refine e_sp rfl rfl rfl ?_
    refine e_ifle rfl (fun h2 => absurd h2 (by first | decide | simp [puI, pt, upd])) (fun _ => ?_)
    refine e_ci 0 rfl rfl ?_
    refine e_goto rfl ?_
    refine e_iret rfl rfl (Nat.le_refl _) (Nat.le_refl _) ?_
    exact ⟨by simp_all [puI, pt, upd], by simp_all⟩
  · refine e_ci 0 rfl rfl ?_
    refine e_goto rfl ?_
    iterate 3 refine e_sp rfl rfl rfl ?_
    refine e_ifle rfl (fun _ => ?_) (fun h3 => absurd h3 (by first | decide | simp [puI, pt, upd]))
    iterate 2 refine e_sp rfl rfl rfl ?_
    refine e_cb 16 rfl rfl ?_
    iterate 4 refine e_sp rfl rfl rfl ?_
    refine e_iald rfl (by first | rfl | assumption) (by exact hpM_in hc hr hc2 hr2 (by assumption)) ?_
    refine e_iret rfl rfl (Nat.le_refl _) (Nat.le_refl _) ?_
    exact ⟨by simp_all [puI, pt, upd], by simp_all⟩
set_option maxHeartbeats 4000000 in
set_option maxRecDepth 40000 in
theorem k_M_way {l : Launch} {h : Nat} {S : St} {w v : Int32}  : KK l (SHm h) (1, 22) m_M_way [aR 21, aI w, aI v] S (ans (some (aI (wyR S w v))) (wyS S w v)) := by
  refine k_start ok_M_way (Nat.le_of_ble_eq_true rfl) ?_
  iterate 2 refine e_sp rfl rfl rfl ?_
  refine e_ci 0 rfl rfl ?_
  refine e_ci 2 rfl rfl ?_
  refine e_callS1 ok_M_in rfl lk_M_110 k_M_in rfl rfl ⟨Nat.le_of_ble_eq_true rfl, Nat.le_of_ble_eq_true rfl⟩ ⟨Nat.zero_le _, Nat.zero_le _⟩ (Nat.le_of_ble_eq_true rfl) ?_
  refine e_ifeq rfl (fun h1 => ?_) (fun h1 => ?_)
  · refine e_ci 1 rfl rfl ?_
    iterate 3 refine e_sp rfl rfl rfl ?_
    refine e_ifle rfl (fun h2 => absurd h2 (by first | decide | simp [puI, pt, upd])) (fun _ => ?_)
    refine e_ci 0 rfl rfl ?_
    refine e_iret rfl rfl (Nat.le_refl _) (Nat.le_refl _) ?_
    exact ⟨by simp_all [wyR, wyC, puI, pt, upd], by simp_all [wyS, wyC, wyT]⟩
  · iterate 1 refine e_sp rfl rfl rfl ?_
    refine e_ci 0 rfl rfl ?_
    iterate 1 refine e_sp rfl rfl rfl ?_
    refine e_ifne rfl (fun h3 => ?_) (fun h3 => ?_)
    · refine e_ci 1 rfl rfl ?_
      refine e_callS1 ok_M_in rfl lk_M_110 k_M_in rfl rfl ⟨Nat.le_of_ble_eq_true rfl, Nat.le_of_ble_eq_true rfl⟩ ⟨Nat.zero_le _, Nat.zero_le _⟩ (Nat.le_of_ble_eq_true rfl) ?_
      refine e_ifeq rfl (fun h4 => ?_) (fun h4 => ?_)
      · refine e_ci 1 rfl rfl ?_
        iterate 3 refine e_sp rfl rfl rfl ?_
        refine e_ifle rfl (fun h5 => absurd h5 (by first | decide | simp [puI, pt, upd])) (fun _ => ?_)
        refine e_ci 0 rfl rfl ?_
        refine e_iret rfl rfl (Nat.le_refl _) (Nat.le_refl _) ?_
        exact ⟨by simp_all [wyR, wyC, puI, pt, upd], by simp_all [wyS, wyC, wyT]⟩
      · refine e_ci 0 rfl rfl ?_
        refine e_goto rfl ?_
        iterate 3 refine e_sp rfl rfl rfl ?_
        refine e_ifle rfl (fun _ => ?_) (fun h6 => absurd h6 (by first | decide | simp [puI, pt, upd]))
        iterate 1 refine e_sp rfl rfl rfl ?_
        refine e_ifne rfl (fun h7 => ?_) (fun h7 => ?_)
        · iterate 1 refine e_sp rfl rfl rfl ?_
          refine e_ci 1 rfl rfl ?_
          refine e_icne rfl (fun h8 => ?_) (fun h8 => ?_)
          · iterate 5 refine e_sp rfl rfl rfl ?_
            refine e_ifne rfl (fun h9 => ?_) (fun h9 => ?_)
            · iterate 5 refine e_sp rfl rfl rfl ?_
              refine e_ci 1 rfl rfl ?_
              refine e_icne rfl (fun h10 => ?_) (fun h10 => ?_)
              · iterate 5 refine e_sp rfl rfl rfl ?_
                refine e_ci 2 rfl rfl ?_
                refine e_icne rfl (fun h11 => ?_) (fun h11 => ?_)
                · iterate 4 refine e_sp rfl rfl rfl ?_
                  refine e_iret rfl rfl (Nat.le_refl _) (Nat.le_refl _) ?_
                  exact ⟨by simp_all [wyR, wyC, puI, pt, upd], by simp_all [wyS, wyC, wyT]⟩
                · iterate 1 refine e_sp rfl rfl rfl ?_
                  refine e_goto rfl ?_
                  iterate 2 refine e_sp rfl rfl rfl ?_
                  refine e_iret rfl rfl (Nat.le_refl _) (Nat.le_refl _) ?_
                  exact ⟨by simp_all [wyR, wyC, puI, pt, upd], by simp_all [wyS, wyC, wyT]⟩
              · iterate 1 refine e_sp rfl rfl rfl ?_
                refine e_goto rfl ?_
                iterate 3 refine e_sp rfl rfl rfl ?_
                refine e_ci 2 rfl rfl ?_
                refine e_icne rfl (fun h12 => ?_) (fun h12 => ?_)
                · iterate 4 refine e_sp rfl rfl rfl ?_
                  refine e_iret rfl rfl (Nat.le_refl _) (Nat.le_refl _) ?_
                  exact ⟨by simp_all [wyR, wyC, puI, pt, upd], by simp_all [wyS, wyC, wyT]⟩
                · iterate 1 refine e_sp rfl rfl rfl ?_
                  refine e_goto rfl ?_
                  iterate 2 refine e_sp rfl rfl rfl ?_
                  refine e_iret rfl rfl (Nat.le_refl _) (Nat.le_refl _) ?_
                  exact ⟨by simp_all [wyR, wyC, puI, pt, upd], by simp_all [wyS, wyC, wyT]⟩
            · iterate 1 refine e_sp rfl rfl rfl ?_
              refine e_goto rfl ?_
              iterate 3 refine e_sp rfl rfl rfl ?_
              refine e_ci 1 rfl rfl ?_
              refine e_icne rfl (fun h13 => ?_) (fun h13 => ?_)
              · iterate 5 refine e_sp rfl rfl rfl ?_
                refine e_ci 2 rfl rfl ?_
                refine e_icne rfl (fun h14 => ?_) (fun h14 => ?_)
                · iterate 4 refine e_sp rfl rfl rfl ?_
                  refine e_iret rfl rfl (Nat.le_refl _) (Nat.le_refl _) ?_
                  exact ⟨by simp_all [wyR, wyC, puI, pt, upd], by simp_all [wyS, wyC, wyT]⟩
                · iterate 1 refine e_sp rfl rfl rfl ?_
                  refine e_goto rfl ?_
                  iterate 2 refine e_sp rfl rfl rfl ?_
                  refine e_iret rfl rfl (Nat.le_refl _) (Nat.le_refl _) ?_
                  exact ⟨by simp_all [wyR, wyC, puI, pt, upd], by simp_all [wyS, wyC, wyT]⟩
              · iterate 1 refine e_sp rfl rfl rfl ?_
                refine e_goto rfl ?_
                iterate 3 refine e_sp rfl rfl rfl ?_
                refine e_ci 2 rfl rfl ?_
                refine e_icne rfl (fun h15 => ?_) (fun h15 => ?_)
                · iterate 4 refine e_sp rfl rfl rfl ?_
                  refine e_iret rfl rfl (Nat.le_refl _) (Nat.le_refl _) ?_
                  exact ⟨by simp_all [wyR, wyC, puI, pt, upd], by simp_all [wyS, wyC, wyT]⟩
                · iterate 1 refine e_sp rfl rfl rfl ?_
                  refine e_goto rfl ?_
                  iterate 2 refine e_sp rfl rfl rfl ?_
                  refine e_iret rfl rfl (Nat.le_refl _) (Nat.le_refl _) ?_
                  exact ⟨by simp_all [wyR, wyC, puI, pt, upd], by simp_all [wyS, wyC, wyT]⟩
          · iterate 2 refine e_sp rfl rfl rfl ?_
            refine e_goto rfl ?_
            iterate 3 refine e_sp rfl rfl rfl ?_
            refine e_ifne rfl (fun h16 => ?_) (fun h16 => ?_)
            · iterate 5 refine e_sp rfl rfl rfl ?_
              refine e_ci 1 rfl rfl ?_
              refine e_icne rfl (fun h17 => ?_) (fun h17 => ?_)
              · iterate 5 refine e_sp rfl rfl rfl ?_
                refine e_ci 2 rfl rfl ?_
                refine e_icne rfl (fun h18 => ?_) (fun h18 => ?_)
                · iterate 4 refine e_sp rfl rfl rfl ?_
                  refine e_iret rfl rfl (Nat.le_refl _) (Nat.le_refl _) ?_
                  exact ⟨by simp_all [wyR, wyC, puI, pt, upd], by simp_all [wyS, wyC, wyT]⟩
                · iterate 1 refine e_sp rfl rfl rfl ?_
                  refine e_goto rfl ?_
                  iterate 2 refine e_sp rfl rfl rfl ?_
                  refine e_iret rfl rfl (Nat.le_refl _) (Nat.le_refl _) ?_
                  exact ⟨by simp_all [wyR, wyC, puI, pt, upd], by simp_all [wyS, wyC, wyT]⟩
              · iterate 1 refine e_sp rfl rfl rfl ?_
                refine e_goto rfl ?_
                iterate 3 refine e_sp rfl rfl rfl ?_
                refine e_ci 2 rfl rfl ?_
                refine e_icne rfl (fun h19 => ?_) (fun h19 => ?_)
                · iterate 4 refine e_sp rfl rfl rfl ?_
                  refine e_iret rfl rfl (Nat.le_refl _) (Nat.le_refl _) ?_
                  exact ⟨by simp_all [wyR, wyC, puI, pt, upd], by simp_all [wyS, wyC, wyT]⟩
                · iterate 1 refine e_sp rfl rfl rfl ?_
                  refine e_goto rfl ?_
                  iterate 2 refine e_sp rfl rfl rfl ?_
                  refine e_iret rfl rfl (Nat.le_refl _) (Nat.le_refl _) ?_
                  exact ⟨by simp_all [wyR, wyC, puI, pt, upd], by simp_all [wyS, wyC, wyT]⟩
            · iterate 1 refine e_sp rfl rfl rfl ?_
              refine e_goto rfl ?_
              iterate 3 refine e_sp rfl rfl rfl ?_
              refine e_ci 1 rfl rfl ?_
              refine e_icne rfl (fun h20 => ?_) (fun h20 => ?_)
              · iterate 5 refine e_sp rfl rfl rfl ?_
                refine e_ci 2 rfl rfl ?_
                refine e_icne rfl (fun h21 => ?_) (fun h21 => ?_)
                · iterate 4 refine e_sp rfl rfl rfl ?_
                  refine e_iret rfl rfl (Nat.le_refl _) (Nat.le_refl _) ?_
                  exact ⟨by simp_all [wyR, wyC, puI, pt, upd], by simp_all [wyS, wyC, wyT]⟩
                · iterate 1 refine e_sp rfl rfl rfl ?_
                  refine e_goto rfl ?_
                  iterate 2 refine e_sp rfl rfl rfl ?_
                  refine e_iret rfl rfl (Nat.le_refl _) (Nat.le_refl _) ?_
                  exact ⟨by simp_all [wyR, wyC, puI, pt, upd], by simp_all [wyS, wyC, wyT]⟩
              · iterate 1 refine e_sp rfl rfl rfl ?_
                refine e_goto rfl ?_
                iterate 3 refine e_sp rfl rfl rfl ?_
                refine e_ci 2 rfl rfl ?_
                refine e_icne rfl (fun h22 => ?_) (fun h22 => ?_)
                · iterate 4 refine e_sp rfl rfl rfl ?_
                  refine e_iret rfl rfl (Nat.le_refl _) (Nat.le_refl _) ?_
                  exact ⟨by simp_all [wyR, wyC, puI, pt, upd], by simp_all [wyS, wyC, wyT]⟩
                · iterate 1 refine e_sp rfl rfl rfl ?_
                  refine e_goto rfl ?_
                  iterate 2 refine e_sp rfl rfl rfl ?_
                  refine e_iret rfl rfl (Nat.le_refl _) (Nat.le_refl _) ?_
                  exact ⟨by simp_all [wyR, wyC, puI, pt, upd], by simp_all [wyS, wyC, wyT]⟩
        · iterate 2 refine e_sp rfl rfl rfl ?_
          refine e_goto rfl ?_
          iterate 3 refine e_sp rfl rfl rfl ?_
          refine e_ifne rfl (fun h23 => ?_) (fun h23 => ?_)
          · iterate 5 refine e_sp rfl rfl rfl ?_
            refine e_ci 1 rfl rfl ?_
            refine e_icne rfl (fun h24 => ?_) (fun h24 => ?_)
            · iterate 5 refine e_sp rfl rfl rfl ?_
              refine e_ci 2 rfl rfl ?_
              refine e_icne rfl (fun h25 => ?_) (fun h25 => ?_)
              · iterate 4 refine e_sp rfl rfl rfl ?_
                refine e_iret rfl rfl (Nat.le_refl _) (Nat.le_refl _) ?_
                exact ⟨by simp_all [wyR, wyC, puI, pt, upd], by simp_all [wyS, wyC, wyT]⟩
              · iterate 1 refine e_sp rfl rfl rfl ?_
                refine e_goto rfl ?_
                iterate 2 refine e_sp rfl rfl rfl ?_
                refine e_iret rfl rfl (Nat.le_refl _) (Nat.le_refl _) ?_
                exact ⟨by simp_all [wyR, wyC, puI, pt, upd], by simp_all [wyS, wyC, wyT]⟩
            · iterate 1 refine e_sp rfl rfl rfl ?_
              refine e_goto rfl ?_
              iterate 3 refine e_sp rfl rfl rfl ?_
              refine e_ci 2 rfl rfl ?_
              refine e_icne rfl (fun h26 => ?_) (fun h26 => ?_)
              · iterate 4 refine e_sp rfl rfl rfl ?_
                refine e_iret rfl rfl (Nat.le_refl _) (Nat.le_refl _) ?_
                exact ⟨by simp_all [wyR, wyC, puI, pt, upd], by simp_all [wyS, wyC, wyT]⟩
              · iterate 1 refine e_sp rfl rfl rfl ?_
                refine e_goto rfl ?_
                iterate 2 refine e_sp rfl rfl rfl ?_
                refine e_iret rfl rfl (Nat.le_refl _) (Nat.le_refl _) ?_
                exact ⟨by simp_all [wyR, wyC, puI, pt, upd], by simp_all [wyS, wyC, wyT]⟩
          · iterate 1 refine e_sp rfl rfl rfl ?_
            refine e_goto rfl ?_
            iterate 3 refine e_sp rfl rfl rfl ?_
            refine e_ci 1 rfl rfl ?_
            refine e_icne rfl (fun h27 => ?_) (fun h27 => ?_)
            · iterate 5 refine e_sp rfl rfl rfl ?_
              refine e_ci 2 rfl rfl ?_
              refine e_icne rfl (fun h28 => ?_) (fun h28 => ?_)
              · iterate 4 refine e_sp rfl rfl rfl ?_
                refine e_iret rfl rfl (Nat.le_refl _) (Nat.le_refl _) ?_
                exact ⟨by simp_all [wyR, wyC, puI, pt, upd], by simp_all [wyS, wyC, wyT]⟩
              · iterate 1 refine e_sp rfl rfl rfl ?_
                refine e_goto rfl ?_
                iterate 2 refine e_sp rfl rfl rfl ?_
                refine e_iret rfl rfl (Nat.le_refl _) (Nat.le_refl _) ?_
                exact ⟨by simp_all [wyR, wyC, puI, pt, upd], by simp_all [wyS, wyC, wyT]⟩
            · iterate 1 refine e_sp rfl rfl rfl ?_
              refine e_goto rfl ?_
              iterate 3 refine e_sp rfl rfl rfl ?_
              refine e_ci 2 rfl rfl ?_
              refine e_icne rfl (fun h29 => ?_) (fun h29 => ?_)
              · iterate 4 refine e_sp rfl rfl rfl ?_
                refine e_iret rfl rfl (Nat.le_refl _) (Nat.le_refl _) ?_
                exact ⟨by simp_all [wyR, wyC, puI, pt, upd], by simp_all [wyS, wyC, wyT]⟩
              · iterate 1 refine e_sp rfl rfl rfl ?_
                refine e_goto rfl ?_
                iterate 2 refine e_sp rfl rfl rfl ?_
                refine e_iret rfl rfl (Nat.le_refl _) (Nat.le_refl _) ?_
                exact ⟨by simp_all [wyR, wyC, puI, pt, upd], by simp_all [wyS, wyC, wyT]⟩
    · refine e_ci 4 rfl rfl ?_
      refine e_goto rfl ?_
      refine e_callS1 ok_M_in rfl lk_M_110 k_M_in rfl rfl ⟨Nat.le_of_ble_eq_true rfl, Nat.le_of_ble_eq_true rfl⟩ ⟨Nat.zero_le _, Nat.zero_le _⟩ (Nat.le_of_ble_eq_true rfl) ?_
      refine e_ifeq rfl (fun h30 => ?_) (fun h30 => ?_)
      · refine e_ci 1 rfl rfl ?_
        iterate 3 refine e_sp rfl rfl rfl ?_
        refine e_ifle rfl (fun h31 => absurd h31 (by first | decide | simp [puI, pt, upd])) (fun _ => ?_)
        refine e_ci 0 rfl rfl ?_
        refine e_iret rfl rfl (Nat.le_refl _) (Nat.le_refl _) ?_
        exact ⟨by simp_all [wyR, wyC, puI, pt, upd], by simp_all [wyS, wyC, wyT]⟩
      · refine e_ci 0 rfl rfl ?_
        refine e_goto rfl ?_
        iterate 3 refine e_sp rfl rfl rfl ?_
        refine e_ifle rfl (fun _ => ?_) (fun h32 => absurd h32 (by first | decide | simp [puI, pt, upd]))
        iterate 1 refine e_sp rfl rfl rfl ?_
        refine e_ifne rfl (fun h33 => ?_) (fun h33 => ?_)
        · iterate 1 refine e_sp rfl rfl rfl ?_
          refine e_ci 1 rfl rfl ?_
          refine e_icne rfl (fun h34 => ?_) (fun h34 => ?_)
          · iterate 5 refine e_sp rfl rfl rfl ?_
            refine e_ifne rfl (fun h35 => ?_) (fun h35 => ?_)
            · iterate 5 refine e_sp rfl rfl rfl ?_
              refine e_ci 1 rfl rfl ?_
              refine e_icne rfl (fun h36 => ?_) (fun h36 => ?_)
              · iterate 5 refine e_sp rfl rfl rfl ?_
                refine e_ci 2 rfl rfl ?_
                refine e_icne rfl (fun h37 => ?_) (fun h37 => ?_)
                · iterate 4 refine e_sp rfl rfl rfl ?_
                  refine e_iret rfl rfl (Nat.le_refl _) (Nat.le_refl _) ?_
                  exact ⟨by simp_all [wyR, wyC, puI, pt, upd], by simp_all [wyS, wyC, wyT]⟩
                · iterate 1 refine e_sp rfl rfl rfl ?_
                  refine e_goto rfl ?_
                  iterate 2 refine e_sp rfl rfl rfl ?_
                  refine e_iret rfl rfl (Nat.le_refl _) (Nat.le_refl _) ?_
                  exact ⟨by simp_all [wyR, wyC, puI, pt, upd], by simp_all [wyS, wyC, wyT]⟩
              · iterate 1 refine e_sp rfl rfl rfl ?_
                refine e_goto rfl ?_
                iterate 3 refine e_sp rfl rfl rfl ?_
                refine e_ci 2 rfl rfl ?_
                refine e_icne rfl (fun h38 => ?_) (fun h38 => ?_)
                · iterate 4 refine e_sp rfl rfl rfl ?_
                  refine e_iret rfl rfl (Nat.le_refl _) (Nat.le_refl _) ?_
                  exact ⟨by simp_all [wyR, wyC, puI, pt, upd], by simp_all [wyS, wyC, wyT]⟩
                · iterate 1 refine e_sp rfl rfl rfl ?_
                  refine e_goto rfl ?_
                  iterate 2 refine e_sp rfl rfl rfl ?_
                  refine e_iret rfl rfl (Nat.le_refl _) (Nat.le_refl _) ?_
                  exact ⟨by simp_all [wyR, wyC, puI, pt, upd], by simp_all [wyS, wyC, wyT]⟩
            · iterate 1 refine e_sp rfl rfl rfl ?_
              refine e_goto rfl ?_
              iterate 3 refine e_sp rfl rfl rfl ?_
              refine e_ci 1 rfl rfl ?_
              refine e_icne rfl (fun h39 => ?_) (fun h39 => ?_)
              · iterate 5 refine e_sp rfl rfl rfl ?_
                refine e_ci 2 rfl rfl ?_
                refine e_icne rfl (fun h40 => ?_) (fun h40 => ?_)
                · iterate 4 refine e_sp rfl rfl rfl ?_
                  refine e_iret rfl rfl (Nat.le_refl _) (Nat.le_refl _) ?_
                  exact ⟨by simp_all [wyR, wyC, puI, pt, upd], by simp_all [wyS, wyC, wyT]⟩
                · iterate 1 refine e_sp rfl rfl rfl ?_
                  refine e_goto rfl ?_
                  iterate 2 refine e_sp rfl rfl rfl ?_
                  refine e_iret rfl rfl (Nat.le_refl _) (Nat.le_refl _) ?_
                  exact ⟨by simp_all [wyR, wyC, puI, pt, upd], by simp_all [wyS, wyC, wyT]⟩
              · iterate 1 refine e_sp rfl rfl rfl ?_
                refine e_goto rfl ?_
                iterate 3 refine e_sp rfl rfl rfl ?_
                refine e_ci 2 rfl rfl ?_
                refine e_icne rfl (fun h41 => ?_) (fun h41 => ?_)
                · iterate 4 refine e_sp rfl rfl rfl ?_
                  refine e_iret rfl rfl (Nat.le_refl _) (Nat.le_refl _) ?_
                  exact ⟨by simp_all [wyR, wyC, puI, pt, upd], by simp_all [wyS, wyC, wyT]⟩
                · iterate 1 refine e_sp rfl rfl rfl ?_
                  refine e_goto rfl ?_
                  iterate 2 refine e_sp rfl rfl rfl ?_
                  refine e_iret rfl rfl (Nat.le_refl _) (Nat.le_refl _) ?_
                  exact ⟨by simp_all [wyR, wyC, puI, pt, upd], by simp_all [wyS, wyC, wyT]⟩
          · iterate 2 refine e_sp rfl rfl rfl ?_
            refine e_goto rfl ?_
            iterate 3 refine e_sp rfl rfl rfl ?_
            refine e_ifne rfl (fun h42 => ?_) (fun h42 => ?_)
            · iterate 5 refine e_sp rfl rfl rfl ?_
              refine e_ci 1 rfl rfl ?_
              refine e_icne rfl (fun h43 => ?_) (fun h43 => ?_)
              · iterate 5 refine e_sp rfl rfl rfl ?_
                refine e_ci 2 rfl rfl ?_
                refine e_icne rfl (fun h44 => ?_) (fun h44 => ?_)
                · iterate 4 refine e_sp rfl rfl rfl ?_
                  refine e_iret rfl rfl (Nat.le_refl _) (Nat.le_refl _) ?_
                  exact ⟨by simp_all [wyR, wyC, puI, pt, upd], by simp_all [wyS, wyC, wyT]⟩
                · iterate 1 refine e_sp rfl rfl rfl ?_
                  refine e_goto rfl ?_
                  iterate 2 refine e_sp rfl rfl rfl ?_
                  refine e_iret rfl rfl (Nat.le_refl _) (Nat.le_refl _) ?_
                  exact ⟨by simp_all [wyR, wyC, puI, pt, upd], by simp_all [wyS, wyC, wyT]⟩
              · iterate 1 refine e_sp rfl rfl rfl ?_
                refine e_goto rfl ?_
                iterate 3 refine e_sp rfl rfl rfl ?_
                refine e_ci 2 rfl rfl ?_
                refine e_icne rfl (fun h45 => ?_) (fun h45 => ?_)
                · iterate 4 refine e_sp rfl rfl rfl ?_
                  refine e_iret rfl rfl (Nat.le_refl _) (Nat.le_refl _) ?_
                  exact ⟨by simp_all [wyR, wyC, puI, pt, upd], by simp_all [wyS, wyC, wyT]⟩
                · iterate 1 refine e_sp rfl rfl rfl ?_
                  refine e_goto rfl ?_
                  iterate 2 refine e_sp rfl rfl rfl ?_
                  refine e_iret rfl rfl (Nat.le_refl _) (Nat.le_refl _) ?_
                  exact ⟨by simp_all [wyR, wyC, puI, pt, upd], by simp_all [wyS, wyC, wyT]⟩
            · iterate 1 refine e_sp rfl rfl rfl ?_
              refine e_goto rfl ?_
              iterate 3 refine e_sp rfl rfl rfl ?_
              refine e_ci 1 rfl rfl ?_
              refine e_icne rfl (fun h46 => ?_) (fun h46 => ?_)
              · iterate 5 refine e_sp rfl rfl rfl ?_
                refine e_ci 2 rfl rfl ?_
                refine e_icne rfl (fun h47 => ?_) (fun h47 => ?_)
                · iterate 4 refine e_sp rfl rfl rfl ?_
                  refine e_iret rfl rfl (Nat.le_refl _) (Nat.le_refl _) ?_
                  exact ⟨by simp_all [wyR, wyC, puI, pt, upd], by simp_all [wyS, wyC, wyT]⟩
                · iterate 1 refine e_sp rfl rfl rfl ?_
                  refine e_goto rfl ?_
                  iterate 2 refine e_sp rfl rfl rfl ?_
                  refine e_iret rfl rfl (Nat.le_refl _) (Nat.le_refl _) ?_
                  exact ⟨by simp_all [wyR, wyC, puI, pt, upd], by simp_all [wyS, wyC, wyT]⟩
              · iterate 1 refine e_sp rfl rfl rfl ?_
                refine e_goto rfl ?_
                iterate 3 refine e_sp rfl rfl rfl ?_
                refine e_ci 2 rfl rfl ?_
                refine e_icne rfl (fun h48 => ?_) (fun h48 => ?_)
                · iterate 4 refine e_sp rfl rfl rfl ?_
                  refine e_iret rfl rfl (Nat.le_refl _) (Nat.le_refl _) ?_
                  exact ⟨by simp_all [wyR, wyC, puI, pt, upd], by simp_all [wyS, wyC, wyT]⟩
                · iterate 1 refine e_sp rfl rfl rfl ?_
                  refine e_goto rfl ?_
                  iterate 2 refine e_sp rfl rfl rfl ?_
                  refine e_iret rfl rfl (Nat.le_refl _) (Nat.le_refl _) ?_
                  exact ⟨by simp_all [wyR, wyC, puI, pt, upd], by simp_all [wyS, wyC, wyT]⟩
        · iterate 2 refine e_sp rfl rfl rfl ?_
          refine e_goto rfl ?_
          iterate 3 refine e_sp rfl rfl rfl ?_
          refine e_ifne rfl (fun h49 => ?_) (fun h49 => ?_)
          · iterate 5 refine e_sp rfl rfl rfl ?_
            refine e_ci 1 rfl rfl ?_
            refine e_icne rfl (fun h50 => ?_) (fun h50 => ?_)
            · iterate 5 refine e_sp rfl rfl rfl ?_
              refine e_ci 2 rfl rfl ?_
              refine e_icne rfl (fun h51 => ?_) (fun h51 => ?_)
              · iterate 4 refine e_sp rfl rfl rfl ?_
                refine e_iret rfl rfl (Nat.le_refl _) (Nat.le_refl _) ?_
                exact ⟨by simp_all [wyR, wyC, puI, pt, upd], by simp_all [wyS, wyC, wyT]⟩
              · iterate 1 refine e_sp rfl rfl rfl ?_
                refine e_goto rfl ?_
                iterate 2 refine e_sp rfl rfl rfl ?_
                refine e_iret rfl rfl (Nat.le_refl _) (Nat.le_refl _) ?_
                exact ⟨by simp_all [wyR, wyC, puI, pt, upd], by simp_all [wyS, wyC, wyT]⟩
            · iterate 1 refine e_sp rfl rfl rfl ?_
              refine e_goto rfl ?_
              iterate 3 refine e_sp rfl rfl rfl ?_
              refine e_ci 2 rfl rfl ?_
              refine e_icne rfl (fun h52 => ?_) (fun h52 => ?_)
              · iterate 4 refine e_sp rfl rfl rfl ?_
                refine e_iret rfl rfl (Nat.le_refl _) (Nat.le_refl _) ?_
                exact ⟨by simp_all [wyR, wyC, puI, pt, upd], by simp_all [wyS, wyC, wyT]⟩
              · iterate 1 refine e_sp rfl rfl rfl ?_
                refine e_goto rfl ?_
                iterate 2 refine e_sp rfl rfl rfl ?_
                refine e_iret rfl rfl (Nat.le_refl _) (Nat.le_refl _) ?_
                exact ⟨by simp_all [wyR, wyC, puI, pt, upd], by simp_all [wyS, wyC, wyT]⟩
          · iterate 1 refine e_sp rfl rfl rfl ?_
            refine e_goto rfl ?_
            iterate 3 refine e_sp rfl rfl rfl ?_
            refine e_ci 1 rfl rfl ?_
            refine e_icne rfl (fun h53 => ?_) (fun h53 => ?_)
            · iterate 5 refine e_sp rfl rfl rfl ?_
              refine e_ci 2 rfl rfl ?_
              refine e_icne rfl (fun h54 => ?_) (fun h54 => ?_)
              · iterate 4 refine e_sp rfl rfl rfl ?_
                refine e_iret rfl rfl (Nat.le_refl _) (Nat.le_refl _) ?_
                exact ⟨by simp_all [wyR, wyC, puI, pt, upd], by simp_all [wyS, wyC, wyT]⟩
              · iterate 1 refine e_sp rfl rfl rfl ?_
                refine e_goto rfl ?_
                iterate 2 refine e_sp rfl rfl rfl ?_
                refine e_iret rfl rfl (Nat.le_refl _) (Nat.le_refl _) ?_
                exact ⟨by simp_all [wyR, wyC, puI, pt, upd], by simp_all [wyS, wyC, wyT]⟩
            · iterate 1 refine e_sp rfl rfl rfl ?_
              refine e_goto rfl ?_
              iterate 3 refine e_sp rfl rfl rfl ?_
              refine e_ci 2 rfl rfl ?_
              refine e_icne rfl (fun h55 => ?_) (fun h55 => ?_)
              · iterate 4 refine e_sp rfl rfl rfl ?_
                refine e_iret rfl rfl (Nat.le_refl _) (Nat.le_refl _) ?_
                exact ⟨by simp_all [wyR, wyC, puI, pt, upd], by simp_all [wyS, wyC, wyT]⟩
              · iterate 1 refine e_sp rfl rfl rfl ?_
                refine e_goto rfl ?_
                iterate 2 refine e_sp rfl rfl rfl ?_
                refine e_iret rfl rfl (Nat.le_refl _) (Nat.le_refl _) ?_
                exact ⟨by simp_all [wyR, wyC, puI, pt, upd], by simp_all [wyS, wyC, wyT]⟩
set_option maxHeartbeats 4000000 in
set_option maxRecDepth 40000 in
theorem k_M_at {l : Launch} {h : Nat} {S : St} {x y : Int32} {w g : Nat} (hw : S.1 21 1 = nI w) (hg : S.1 21 2 = nI g) (hw2 : w ≤ 32) (hg2 : g ≤ 32) : KK l (SHm h) (2, 44) m_M_at [aR 21, aI x, aI y] S (ans (some (aI (if hsM S x y = 0 then 0 else if S.1 23 (32 * y + x).toNatClampNeg = 0 then 0 else 1))) (puI S 21 0 (if hsM S x y = 0 then 1 else 0))) := by
  refine k_start ok_M_at (Nat.le_of_ble_eq_true rfl) ?_
  iterate 4 refine e_sp rfl rfl rfl ?_
  refine e_callV1 ok_M_hasSample rfl lk_M_144 (by rfl) (by rfl) k_M_hasSample rfl rfl ⟨Nat.le_of_ble_eq_true rfl, Nat.le_of_ble_eq_true rfl⟩ ⟨Nat.zero_le _, Nat.zero_le _⟩ (Nat.le_of_ble_eq_true rfl) ?_
  refine e_ifeq rfl (fun h1 => ?_) (fun h1 => ?_)
  · refine e_ci 1 rfl rfl ?_
    iterate 3 refine e_sp rfl rfl rfl ?_
    refine e_ifne rfl (fun _ => ?_) (fun h2 => absurd h2 (by first | decide | simp [puI, pt, upd]))
    refine e_ci 0 rfl rfl ?_
    refine e_zret rfl rfl (Nat.le_refl _) (Nat.le_refl _) (by decide) ?_
    exact ⟨by simp_all [puI, pt, upd], by simp_all⟩
  · refine e_ci 0 rfl rfl ?_
    refine e_goto rfl ?_
    iterate 3 refine e_sp rfl rfl rfl ?_
    refine e_ifne rfl (fun h3 => absurd h3 (by first | decide | simp [puI, pt, upd])) (fun _ => ?_)
    iterate 2 refine e_sp rfl rfl rfl ?_
    refine e_cb 32 rfl rfl ?_
    iterate 4 refine e_sp rfl rfl rfl ?_
    refine e_zald rfl (by first | rfl | assumption) (by exact hsM_in hw hg hw2 hg2 (by assumption)) ?_
    refine e_ifeq rfl (fun h4 => ?_) (fun h4 => ?_)
    · refine e_ci 0 rfl rfl ?_
      refine e_zret rfl rfl (Nat.le_refl _) (Nat.le_refl _) (by decide) ?_
      exact ⟨by simp_all [puI, pt, upd], by simp_all⟩
    · refine e_ci 1 rfl rfl ?_
      refine e_goto rfl ?_
      refine e_zret rfl rfl (Nat.le_refl _) (Nat.le_refl _) (by decide) ?_
      exact ⟨by simp_all [puI, pt, upd], by simp_all⟩
def pgF (i : Nat) (x : St × Int32) : St × Int32 := (puI x.1 22 i (vp_nar .boolean (x.1.1 23 i)), x.2 + (if x.1.1 22 i = x.1.1 23 i then 0 else 1))
def pgM (S : St) : St × Int32 := nF pgF 1024 (puI S 21 0 0, 0)
def cxF (S : St) (i j : Int32) (c : Nat) (a : Int32) : Int32 := a + (if S.1 21 5 ≤ nI (c % 8) then 0 else if S.1 21 6 ≤ nI (c / 8) then 0 else if hsM S (xM S i j + nI (c % 8)) (yM S i j + nI (c / 8)) = 0 then 0 else if S.1 22 (32 * (yM S i j + nI (c / 8)) + (xM S i j + nI (c % 8))).toNatClampNeg = 0 then 0 else 1)
def cnM (S : St) (i j : Int32) : Int32 := nF (cxF S i j) 64 0
set_option maxHeartbeats 4000000 in
set_option maxRecDepth 40000 in
theorem k_M_page {l : Launch} {h : Nat} {S : St} : KK l (SHm h) (0, 0) m_M_page [aR 21] S (ans (some (aI (pgM S).2)) (pgM S).1) := by
  refine k_start ok_M_page (Nat.le_of_ble_eq_true rfl) ?_
  have L1 := e_for (P := fun i => E0 l (SHm h) (0, 0) m_M_page 9 [some (aR 21), some (aI (nF pgF i (puI S 21 0 0, 0)).2), some (aI (nI i))] [] ((nF pgF i (puI S 21 0 0, 0)).1) (ans (some (aI (pgM S).2)) (pgM S).1)) (1024) (by
      iterate 1 refine e_sp rfl rfl rfl ?_
      refine e_cs 1024 rfl rfl ?_
      refine e_icge rfl (fun h1 => ?_) (fun h1 => ?_)
      · iterate 1 refine e_sp rfl rfl rfl ?_
        refine e_iret rfl rfl (Nat.le_refl _) (Nat.le_refl _) ?_
        exact ⟨rfl, rfl⟩
      · try dsimp only
        exact absurd (nI_le (Nat.le_refl _) (by decide)) h1) (fun i hi ihi => by
      iterate 1 refine e_sp rfl rfl rfl ?_
      refine e_cs 1024 rfl rfl ?_
      refine e_icge rfl (fun h1 => ?_) (fun h1 => ?_)
      · try dsimp only
        exact absurd h1 (nI_ge hi (by decide))
      · iterate 4 refine e_sp rfl rfl rfl ?_
        refine e_zald rfl (by first | rfl | assumption) (by exact vp_in_nI hi (by decide)) ?_
        rw [nI_clamp (by omega)]
        iterate 3 refine e_sp rfl rfl rfl ?_
        refine e_zald rfl (by first | rfl | assumption) (by exact vp_in_nI hi (by decide)) ?_
        rw [nI_clamp (by omega)]
        refine e_iceq rfl (fun h2 => ?_) (fun h2 => ?_)
        · refine e_ci 0 rfl rfl ?_
          iterate 8 refine e_sp rfl rfl rfl ?_
          refine e_zald rfl (by first | rfl | assumption) (by exact vp_in_nI hi (by decide)) ?_
          rw [nI_clamp (by omega)]
          refine e_zast rfl (by first | rfl | assumption) (by exact vp_in_nI hi (by decide)) ?_
          rw [nI_clamp (by omega)]
          refine e_inc 1 rfl rfl rfl rfl ?_
          refine e_goto rfl ?_
          try dsimp only
          rw [nI_1]
          simp only [nF, pgF] at ihi
          first | rw [if_pos h2] at ihi | rw [if_neg h2] at ihi
          exact ihi
        · refine e_ci 1 rfl rfl ?_
          refine e_goto rfl ?_
          iterate 8 refine e_sp rfl rfl rfl ?_
          refine e_zald rfl (by first | rfl | assumption) (by exact vp_in_nI hi (by decide)) ?_
          rw [nI_clamp (by omega)]
          refine e_zast rfl (by first | rfl | assumption) (by exact vp_in_nI hi (by decide)) ?_
          rw [nI_clamp (by omega)]
          refine e_inc 1 rfl rfl rfl rfl ?_
          refine e_goto rfl ?_
          try dsimp only
          rw [nI_1]
          simp only [nF, pgF] at ihi
          first | rw [if_pos h2] at ihi | rw [if_neg h2] at ihi
          exact ihi)
  iterate 1 refine e_sp rfl rfl rfl ?_
  refine e_ci 0 rfl rfl ?_
  iterate 1 refine e_sp rfl rfl rfl ?_
  refine e_ci 0 rfl rfl ?_
  iterate 1 refine e_sp rfl rfl rfl ?_
  refine e_ci 0 rfl rfl ?_
  iterate 1 refine e_sp rfl rfl rfl ?_
  try dsimp only
  exact L1
set_option maxHeartbeats 4000000 in
set_option maxRecDepth 40000 in
theorem k_M_countAt {l : Launch} {h : Nat} {S : St} {i j : Int32} {w g : Nat} (hw : S.1 21 1 = nI w) (hg : S.1 21 2 = nI g) (hw2 : w ≤ 32) (hg2 : g ≤ 32) : KK l (SHm h) (2, 44) m_M_countAt [aR 21, aI i, aI j] S (ans (some (aI (cnM S i j))) S) := by
  refine k_start ok_M_countAt (Nat.le_of_ble_eq_true rfl) ?_
  have L1 := e_for (P := fun n => ∀ z5 z6 z7, E0 l (SHm h) (2, 44) m_M_countAt 5 [some (aR 21), some (aI i), some (aI j), some (aI (nF (cxF S i j) n 0)), some (aI (nI n)), z5, z6, z7] [] (S) (ans (some (aI (cnM S i j))) S)) (64) (by
      intro z5 z6 z7
      iterate 1 refine e_sp rfl rfl rfl ?_
      refine e_cb 64 rfl rfl ?_
      refine e_icge rfl (fun h1 => ?_) (fun h1 => ?_)
      · iterate 1 refine e_sp rfl rfl rfl ?_
        refine e_iret rfl rfl (Nat.le_refl _) (Nat.le_refl _) ?_
        exact ⟨rfl, rfl⟩
      · try dsimp only
        exact absurd (nI_le (Nat.le_refl _) (by decide)) h1) (fun n hn ihn => by
      intro z5 z6 z7
      iterate 1 refine e_sp rfl rfl rfl ?_
      refine e_cb 64 rfl rfl ?_
      refine e_icge rfl (fun h1 => ?_) (fun h1 => ?_)
      · try dsimp only
        exact absurd h1 (nI_ge hn (by decide))
      · iterate 3 refine e_sp rfl rfl rfl ?_
        refine e_callV1 ok_M_xOf rfl lk_M_129 (by rfl) (by rfl) k_M_xOf rfl rfl ⟨Nat.le_of_ble_eq_true rfl, Nat.le_of_ble_eq_true rfl⟩ ⟨Nat.zero_le _, Nat.zero_le _⟩ (Nat.le_of_ble_eq_true rfl) ?_
        iterate 1 refine e_sp rfl rfl rfl ?_
        refine e_cb 8 rfl rfl ?_
        refine e_rem rfl (by decide) ?_
        rw [show (8 : Int32) = nI 8 from rfl, rmd 8 (by omega) (by decide) (by decide)]
        iterate 5 refine e_sp rfl rfl rfl ?_
        refine e_callV1 ok_M_yOf rfl lk_M_132 (by rfl) (by rfl) k_M_yOf rfl rfl ⟨Nat.le_of_ble_eq_true rfl, Nat.le_of_ble_eq_true rfl⟩ ⟨Nat.zero_le _, Nat.zero_le _⟩ (Nat.le_of_ble_eq_true rfl) ?_
        iterate 1 refine e_sp rfl rfl rfl ?_
        refine e_cb 8 rfl rfl ?_
        refine e_div rfl (by decide) ?_
        rw [show (8 : Int32) = nI 8 from rfl, dvd9 8 (by omega) (by decide) (by decide)]
        iterate 3 refine e_sp rfl rfl rfl ?_
        refine e_cb 8 rfl rfl ?_
        refine e_rem rfl (by decide) ?_
        rw [show (8 : Int32) = nI 8 from rfl, rmd 8 (by omega) (by decide) (by decide)]
        iterate 2 refine e_sp rfl rfl rfl ?_
        refine e_icge rfl (fun h2 => ?_) (fun h2 => ?_)
        · refine e_ci 0 rfl rfl ?_
          iterate 3 refine e_sp rfl rfl rfl ?_
          refine e_ifeq rfl (fun _ => ?_) (fun h3 => absurd h3 (by first | decide | simp [puI, pt, upd]))
          refine e_ci 0 rfl rfl ?_
          iterate 2 refine e_sp rfl rfl rfl ?_
          refine e_inc 1 rfl rfl rfl rfl ?_
          refine e_goto rfl ?_
          try dsimp only
          rw [nI_1]
          simp only [nF, cxF] at ihn
          first | rw [if_pos h2] at ihn | rw [if_neg h2] at ihn
          exact ihn _ _ _
        · iterate 1 refine e_sp rfl rfl rfl ?_
          refine e_cb 8 rfl rfl ?_
          refine e_div rfl (by decide) ?_
          rw [show (8 : Int32) = nI 8 from rfl, dvd9 8 (by omega) (by decide) (by decide)]
          iterate 2 refine e_sp rfl rfl rfl ?_
          refine e_icge rfl (fun h4 => ?_) (fun h4 => ?_)
          · refine e_ci 0 rfl rfl ?_
            iterate 3 refine e_sp rfl rfl rfl ?_
            refine e_ifeq rfl (fun _ => ?_) (fun h5 => absurd h5 (by first | decide | simp [puI, pt, upd]))
            refine e_ci 0 rfl rfl ?_
            iterate 2 refine e_sp rfl rfl rfl ?_
            refine e_inc 1 rfl rfl rfl rfl ?_
            refine e_goto rfl ?_
            try dsimp only
            rw [nI_1]
            simp only [nF, cxF] at ihn
            first | rw [if_pos h2] at ihn | rw [if_neg h2] at ihn
            first | rw [if_pos h4] at ihn | rw [if_neg h4] at ihn
            exact ihn _ _ _
          · iterate 3 refine e_sp rfl rfl rfl ?_
            refine e_callV1 ok_M_hasSample rfl lk_M_144 (by rfl) (by rfl) k_M_hasSample rfl rfl ⟨Nat.le_of_ble_eq_true rfl, Nat.le_of_ble_eq_true rfl⟩ ⟨Nat.zero_le _, Nat.zero_le _⟩ (Nat.le_of_ble_eq_true rfl) ?_
            refine e_ifeq rfl (fun h6 => ?_) (fun h6 => ?_)
            · refine e_ci 0 rfl rfl ?_
              iterate 3 refine e_sp rfl rfl rfl ?_
              refine e_ifeq rfl (fun _ => ?_) (fun h7 => absurd h7 (by first | decide | simp [puI, pt, upd]))
              refine e_ci 0 rfl rfl ?_
              iterate 2 refine e_sp rfl rfl rfl ?_
              refine e_inc 1 rfl rfl rfl rfl ?_
              refine e_goto rfl ?_
              try dsimp only
              rw [nI_1]
              simp only [nF, cxF] at ihn
              first | rw [if_pos h2] at ihn | rw [if_neg h2] at ihn
              first | rw [if_pos h4] at ihn | rw [if_neg h4] at ihn
              first | rw [if_pos h6] at ihn | rw [if_neg h6] at ihn
              exact ihn _ _ _
            · iterate 2 refine e_sp rfl rfl rfl ?_
              refine e_cb 32 rfl rfl ?_
              iterate 4 refine e_sp rfl rfl rfl ?_
              refine e_zald rfl (by first | rfl | assumption) (by exact hsM_in hw hg hw2 hg2 (by assumption)) ?_
              refine e_ifeq rfl (fun h8 => ?_) (fun h8 => ?_)
              · refine e_ci 0 rfl rfl ?_
                iterate 3 refine e_sp rfl rfl rfl ?_
                refine e_ifeq rfl (fun _ => ?_) (fun h9 => absurd h9 (by first | decide | simp [puI, pt, upd]))
                refine e_ci 0 rfl rfl ?_
                iterate 2 refine e_sp rfl rfl rfl ?_
                refine e_inc 1 rfl rfl rfl rfl ?_
                refine e_goto rfl ?_
                try dsimp only
                rw [nI_1]
                simp only [nF, cxF] at ihn
                first | rw [if_pos h2] at ihn | rw [if_neg h2] at ihn
                first | rw [if_pos h4] at ihn | rw [if_neg h4] at ihn
                first | rw [if_pos h6] at ihn | rw [if_neg h6] at ihn
                first | rw [if_pos h8] at ihn | rw [if_neg h8] at ihn
                exact ihn _ _ _
              · refine e_ci 1 rfl rfl ?_
                refine e_goto rfl ?_
                iterate 3 refine e_sp rfl rfl rfl ?_
                refine e_ifeq rfl (fun h10 => absurd h10 (by first | decide | simp [puI, pt, upd])) (fun _ => ?_)
                refine e_ci 1 rfl rfl ?_
                refine e_goto rfl ?_
                iterate 2 refine e_sp rfl rfl rfl ?_
                refine e_inc 1 rfl rfl rfl rfl ?_
                refine e_goto rfl ?_
                try dsimp only
                rw [nI_1]
                simp only [nF, cxF] at ihn
                first | rw [if_pos h2] at ihn | rw [if_neg h2] at ihn
                first | rw [if_pos h4] at ihn | rw [if_neg h4] at ihn
                first | rw [if_pos h6] at ihn | rw [if_neg h6] at ihn
                first | rw [if_pos h8] at ihn | rw [if_neg h8] at ihn
                exact ihn _ _ _)
  refine e_ci 0 rfl rfl ?_
  iterate 1 refine e_sp rfl rfl rfl ?_
  refine e_ci 0 rfl rfl ?_
  iterate 1 refine e_sp rfl rfl rfl ?_
  try dsimp only
  exact L1 _ _ _
set_option maxHeartbeats 4000000 in
set_option maxRecDepth 40000 in
theorem k_M_count {l : Launch} {h : Nat} {S : St} {i j : Int32} {w g : Nat} (hw : S.1 21 1 = nI w) (hg : S.1 21 2 = nI g) (hw2 : w ≤ 32) (hg2 : g ≤ 32) : KK l (SHm h) (3, 71) m_M_count [aR 21, aI i, aI j] S (ans (some (aI (if hpM S i j = 0 then 0 else cnM (puI S 21 0 0) i j))) (puI S 21 0 (if hpM S i j = 0 then 1 else 0))) := by
  refine k_start ok_M_count (Nat.le_of_ble_eq_true rfl) ?_
  iterate 4 refine e_sp rfl rfl rfl ?_
  refine e_callV1 ok_M_hasPlace rfl lk_M_141 (by rfl) (by rfl) k_M_hasPlace rfl rfl ⟨Nat.le_of_ble_eq_true rfl, Nat.le_of_ble_eq_true rfl⟩ ⟨Nat.zero_le _, Nat.zero_le _⟩ (Nat.le_of_ble_eq_true rfl) ?_
  refine e_ifeq rfl (fun h1 => ?_) (fun h1 => ?_)
  · refine e_ci 1 rfl rfl ?_
    iterate 3 refine e_sp rfl rfl rfl ?_
    refine e_ifle rfl (fun h2 => absurd h2 (by first | decide | simp [puI, pt, upd])) (fun _ => ?_)
    refine e_ci 0 rfl rfl ?_
    refine e_goto rfl ?_
    refine e_iret rfl rfl (Nat.le_refl _) (Nat.le_refl _) ?_
    exact ⟨by simp [h1], by simp [h1]⟩
  · refine e_ci 0 rfl rfl ?_
    refine e_goto rfl ?_
    iterate 3 refine e_sp rfl rfl rfl ?_
    refine e_ifle rfl (fun _ => ?_) (fun h3 => absurd h3 (by first | decide | simp [puI, pt, upd]))
    iterate 3 refine e_sp rfl rfl rfl ?_
    refine e_callV1 ok_M_countAt rfl lk_M_147 (by rfl) (by rfl) (k_M_countAt hw hg hw2 hg2) rfl rfl ⟨Nat.le_of_ble_eq_true rfl, Nat.le_of_ble_eq_true rfl⟩ ⟨Nat.zero_le _, Nat.zero_le _⟩ (Nat.le_of_ble_eq_true rfl) ?_
    refine e_iret rfl rfl (Nat.le_refl _) (Nat.le_refl _) ?_
    exact ⟨by simp [h1], by simp [h1]⟩
def okG (c r x y a b : Int32) : Int32 := if wi c 1 16 = 0 then 1 else if wi r 1 16 = 0 then 1 else if wi x (-65536) 65536 = 0 then 1 else if wi y (-65536) 65536 = 0 then 1 else if wi a (-4096) 4096 = 0 then 1 else if wi b (-4096) 4096 = 0 then 1 else if a = 0 then (if b = 0 then 1 else 0) else 0
def gdF (i : Nat) (x : St × Int32) : St × Int32 := (puI x.1 25 i 0, x.2 + (if hpM (puI x.1 25 i 0) (nI (i % 16)) (nI (i / 16)) = 0 then 0 else if ouM (puI x.1 25 i 0) (nI (i % 16)) (nI (i / 16)) = 0 then 0 else 1))
def gd0 (S : St) (c r x y a b : Int32) : St := puI (puI (puI (puI (puI (puI (puI S 21 0 0) 21 9 c) 21 10 r) 21 11 x) 21 12 y) 21 13 a) 21 14 b
def gdM (S : St) (c r x y a b : Int32) : St × Int32 := nF gdF 256 (gd0 S c r x y a b, 0)
set_option maxHeartbeats 4000000 in
set_option maxRecDepth 40000 in
theorem k_M_gridL {l : Launch} {h : Nat} {S : St} {c r x y a b : Int32} {z7 : Int32} : E0 l (SHm h) (3, 66) m_M_grid 150 [some (aR 21), some (aI c), some (aI r), some (aI x), some (aI y), some (aI a), some (aI b), some (aI z7), some (aI 0), some (aI (nI 0))] [] (gd0 S c r x y a b) (ans (some (aI (gdM S c r x y a b).2)) (gdM S c r x y a b).1) := by
  have L1 := e_for (P := fun n => E0 l (SHm h) (3, 66) m_M_grid 150 [some (aR 21), some (aI c), some (aI r), some (aI x), some (aI y), some (aI a), some (aI b), some (aI z7), some (aI (nF gdF n (gd0 S c r x y a b, 0)).2), some (aI (nI n))] [] ((nF gdF n (gd0 S c r x y a b, 0)).1) (ans (some (aI (gdM S c r x y a b).2)) (gdM S c r x y a b).1)) (256) (by
      iterate 1 refine e_sp rfl rfl rfl ?_
      refine e_cs 256 rfl rfl ?_
      refine e_icge rfl (fun h1 => ?_) (fun h1 => ?_)
      · iterate 1 refine e_sp rfl rfl rfl ?_
        refine e_iret rfl rfl (Nat.le_refl _) (Nat.le_refl _) ?_
        exact ⟨rfl, rfl⟩
      · try dsimp only
        exact absurd (nI_le (Nat.le_refl _) (by decide)) h1) (fun n hn ihn => by
      iterate 1 refine e_sp rfl rfl rfl ?_
      refine e_cs 256 rfl rfl ?_
      refine e_icge rfl (fun h1 => ?_) (fun h1 => ?_)
      · try dsimp only
        exact absurd h1 (nI_ge hn (by decide))
      · iterate 3 refine e_sp rfl rfl rfl ?_
        refine e_ci 0 rfl rfl ?_
        refine e_iast rfl (by first | rfl | assumption) (by exact vp_in_nI hn (by decide)) ?_
        rw [nI_clamp (by omega)]
        iterate 3 refine e_sp rfl rfl rfl ?_
        refine e_cb 16 rfl rfl ?_
        refine e_rem rfl (by decide) ?_
        rw [show (16 : Int32) = nI 16 from rfl, rmd 16 (by omega) (by decide) (by decide)]
        iterate 1 refine e_sp rfl rfl rfl ?_
        refine e_cb 16 rfl rfl ?_
        refine e_div rfl (by decide) ?_
        rw [show (16 : Int32) = nI 16 from rfl, dvd9 16 (by omega) (by decide) (by decide)]
        refine e_callV1 ok_M_hasPlace rfl lk_M_141 (by rfl) (by rfl) k_M_hasPlace rfl rfl ⟨Nat.le_of_ble_eq_true rfl, Nat.le_of_ble_eq_true rfl⟩ ⟨Nat.zero_le _, Nat.zero_le _⟩ (Nat.le_of_ble_eq_true rfl) ?_
        refine e_ifeq rfl (fun h2 => ?_) (fun h2 => ?_)
        · refine e_ci 0 rfl rfl ?_
          iterate 2 refine e_sp rfl rfl rfl ?_
          refine e_inc 1 rfl rfl rfl rfl ?_
          refine e_goto rfl ?_
          try dsimp only
          rw [nI_1]
          simp only [nF, gdF] at ihn
          first | rw [if_pos h2] at ihn | rw [if_neg h2] at ihn
          exact ihn
        · iterate 2 refine e_sp rfl rfl rfl ?_
          refine e_cb 16 rfl rfl ?_
          refine e_rem rfl (by decide) ?_
          rw [show (16 : Int32) = nI 16 from rfl, rmd 16 (by omega) (by decide) (by decide)]
          iterate 1 refine e_sp rfl rfl rfl ?_
          refine e_cb 16 rfl rfl ?_
          refine e_div rfl (by decide) ?_
          rw [show (16 : Int32) = nI 16 from rfl, dvd9 16 (by omega) (by decide) (by decide)]
          refine e_callV1 ok_M_isOutside rfl lk_M_135 (by rfl) (by rfl) k_M_isOutside rfl rfl ⟨Nat.le_of_ble_eq_true rfl, Nat.le_of_ble_eq_true rfl⟩ ⟨Nat.zero_le _, Nat.zero_le _⟩ (Nat.le_of_ble_eq_true rfl) ?_
          refine e_ifeq rfl (fun h3 => ?_) (fun h3 => ?_)
          · refine e_ci 0 rfl rfl ?_
            iterate 2 refine e_sp rfl rfl rfl ?_
            refine e_inc 1 rfl rfl rfl rfl ?_
            refine e_goto rfl ?_
            try dsimp only
            rw [nI_1]
            simp only [nF, gdF] at ihn
            first | rw [if_pos h2] at ihn | rw [if_neg h2] at ihn
            first | rw [if_pos h3] at ihn | rw [if_neg h3] at ihn
            exact ihn
          · refine e_ci 1 rfl rfl ?_
            refine e_goto rfl ?_
            iterate 2 refine e_sp rfl rfl rfl ?_
            refine e_inc 1 rfl rfl rfl rfl ?_
            refine e_goto rfl ?_
            try dsimp only
            rw [nI_1]
            simp only [nF, gdF] at ihn
            first | rw [if_pos h2] at ihn | rw [if_neg h2] at ihn
            first | rw [if_pos h3] at ihn | rw [if_neg h3] at ihn
            exact ihn)
  exact L1
set_option maxHeartbeats 4000000 in
set_option maxRecDepth 40000 in
theorem k_M_grid {l : Launch} {h : Nat} {S : St} {c r x y a b : Int32} : KK l (SHm h) (3, 66) m_M_grid [aR 21, aI c, aI r, aI x, aI y, aI a, aI b] S (ans (some (aI (if okG c r x y a b = 0 then (gdM S c r x y a b).2 else 0))) (if okG c r x y a b = 0 then (gdM S c r x y a b).1 else puI S 21 0 1)) := by
  refine k_start ok_M_grid (Nat.le_of_ble_eq_true rfl) ?_
  iterate 1 refine e_sp rfl rfl rfl ?_
  refine e_ci 1 rfl rfl ?_
  refine e_cb 16 rfl rfl ?_
  refine e_callS1 ok_M_in rfl lk_M_110 k_M_in rfl rfl ⟨Nat.le_of_ble_eq_true rfl, Nat.le_of_ble_eq_true rfl⟩ ⟨Nat.zero_le _, Nat.zero_le _⟩ (Nat.le_of_ble_eq_true rfl) ?_
  refine e_ifeq rfl (fun h1 => ?_) (fun h1 => ?_)
  · refine e_ci 0 rfl rfl ?_
    iterate 3 refine e_sp rfl rfl rfl ?_
    refine e_ifeq rfl (fun _ => ?_) (fun h2 => absurd h2 (by first | decide | simp [puI, pt, upd]))
    refine e_ci 1 rfl rfl ?_
    iterate 3 refine e_sp rfl rfl rfl ?_
    refine e_ifle rfl (fun h3 => absurd h3 (by first | decide | simp [puI, pt, upd])) (fun _ => ?_)
    refine e_ci 0 rfl rfl ?_
    refine e_iret rfl rfl (Nat.le_refl _) (Nat.le_refl _) ?_
    have hok : okG c r x y a b = 1 := by unfold okG; (first | rw [if_pos h1] | rw [if_neg h1] | skip)
    rw [hok]
    exact ⟨rfl, rfl⟩
  · iterate 1 refine e_sp rfl rfl rfl ?_
    refine e_ci 1 rfl rfl ?_
    refine e_cb 16 rfl rfl ?_
    refine e_callS1 ok_M_in rfl lk_M_110 k_M_in rfl rfl ⟨Nat.le_of_ble_eq_true rfl, Nat.le_of_ble_eq_true rfl⟩ ⟨Nat.zero_le _, Nat.zero_le _⟩ (Nat.le_of_ble_eq_true rfl) ?_
    refine e_ifeq rfl (fun h4 => ?_) (fun h4 => ?_)
    · refine e_ci 0 rfl rfl ?_
      iterate 3 refine e_sp rfl rfl rfl ?_
      refine e_ifeq rfl (fun _ => ?_) (fun h5 => absurd h5 (by first | decide | simp [puI, pt, upd]))
      refine e_ci 1 rfl rfl ?_
      iterate 3 refine e_sp rfl rfl rfl ?_
      refine e_ifle rfl (fun h6 => absurd h6 (by first | decide | simp [puI, pt, upd])) (fun _ => ?_)
      refine e_ci 0 rfl rfl ?_
      refine e_iret rfl rfl (Nat.le_refl _) (Nat.le_refl _) ?_
      have hok : okG c r x y a b = 1 := by unfold okG; (first | rw [if_pos h1] | rw [if_neg h1] | skip); (first | rw [if_pos h4] | rw [if_neg h4] | skip)
      rw [hok]
      exact ⟨rfl, rfl⟩
    · iterate 1 refine e_sp rfl rfl rfl ?_
      refine e_ldc rfl cn_M_139 ?_
      refine e_ldc rfl cn_M_140 ?_
      refine e_callS1 ok_M_in rfl lk_M_110 k_M_in rfl rfl ⟨Nat.le_of_ble_eq_true rfl, Nat.le_of_ble_eq_true rfl⟩ ⟨Nat.zero_le _, Nat.zero_le _⟩ (Nat.le_of_ble_eq_true rfl) ?_
      refine e_ifeq rfl (fun h7 => ?_) (fun h7 => ?_)
      · refine e_ci 0 rfl rfl ?_
        iterate 3 refine e_sp rfl rfl rfl ?_
        refine e_ifeq rfl (fun _ => ?_) (fun h8 => absurd h8 (by first | decide | simp [puI, pt, upd]))
        refine e_ci 1 rfl rfl ?_
        iterate 3 refine e_sp rfl rfl rfl ?_
        refine e_ifle rfl (fun h9 => absurd h9 (by first | decide | simp [puI, pt, upd])) (fun _ => ?_)
        refine e_ci 0 rfl rfl ?_
        refine e_iret rfl rfl (Nat.le_refl _) (Nat.le_refl _) ?_
        have hok : okG c r x y a b = 1 := by unfold okG; (first | rw [if_pos h1] | rw [if_neg h1] | skip); (first | rw [if_pos h4] | rw [if_neg h4] | skip); (first | rw [if_pos h7] | rw [if_neg h7] | skip)
        rw [hok]
        exact ⟨rfl, rfl⟩
      · iterate 1 refine e_sp rfl rfl rfl ?_
        refine e_ldc rfl cn_M_139 ?_
        refine e_ldc rfl cn_M_140 ?_
        refine e_callS1 ok_M_in rfl lk_M_110 k_M_in rfl rfl ⟨Nat.le_of_ble_eq_true rfl, Nat.le_of_ble_eq_true rfl⟩ ⟨Nat.zero_le _, Nat.zero_le _⟩ (Nat.le_of_ble_eq_true rfl) ?_
        refine e_ifeq rfl (fun h10 => ?_) (fun h10 => ?_)
        · refine e_ci 0 rfl rfl ?_
          iterate 3 refine e_sp rfl rfl rfl ?_
          refine e_ifeq rfl (fun _ => ?_) (fun h11 => absurd h11 (by first | decide | simp [puI, pt, upd]))
          refine e_ci 1 rfl rfl ?_
          iterate 3 refine e_sp rfl rfl rfl ?_
          refine e_ifle rfl (fun h12 => absurd h12 (by first | decide | simp [puI, pt, upd])) (fun _ => ?_)
          refine e_ci 0 rfl rfl ?_
          refine e_iret rfl rfl (Nat.le_refl _) (Nat.le_refl _) ?_
          have hok : okG c r x y a b = 1 := by unfold okG; (first | rw [if_pos h1] | rw [if_neg h1] | skip); (first | rw [if_pos h4] | rw [if_neg h4] | skip); (first | rw [if_pos h7] | rw [if_neg h7] | skip); (first | rw [if_pos h10] | rw [if_neg h10] | skip)
          rw [hok]
          exact ⟨rfl, rfl⟩
        · iterate 1 refine e_sp rfl rfl rfl ?_
          refine e_cs (-4096) rfl rfl ?_
          refine e_cs 4096 rfl rfl ?_
          refine e_callS1 ok_M_in rfl lk_M_110 k_M_in rfl rfl ⟨Nat.le_of_ble_eq_true rfl, Nat.le_of_ble_eq_true rfl⟩ ⟨Nat.zero_le _, Nat.zero_le _⟩ (Nat.le_of_ble_eq_true rfl) ?_
          refine e_ifeq rfl (fun h13 => ?_) (fun h13 => ?_)
          · refine e_ci 0 rfl rfl ?_
            iterate 3 refine e_sp rfl rfl rfl ?_
            refine e_ifeq rfl (fun _ => ?_) (fun h14 => absurd h14 (by first | decide | simp [puI, pt, upd]))
            refine e_ci 1 rfl rfl ?_
            iterate 3 refine e_sp rfl rfl rfl ?_
            refine e_ifle rfl (fun h15 => absurd h15 (by first | decide | simp [puI, pt, upd])) (fun _ => ?_)
            refine e_ci 0 rfl rfl ?_
            refine e_iret rfl rfl (Nat.le_refl _) (Nat.le_refl _) ?_
            have hok : okG c r x y a b = 1 := by unfold okG; (first | rw [if_pos h1] | rw [if_neg h1] | skip); (first | rw [if_pos h4] | rw [if_neg h4] | skip); (first | rw [if_pos h7] | rw [if_neg h7] | skip); (first | rw [if_pos h10] | rw [if_neg h10] | skip); (first | rw [if_pos h13] | rw [if_neg h13] | skip)
            rw [hok]
            exact ⟨rfl, rfl⟩
          · iterate 1 refine e_sp rfl rfl rfl ?_
            refine e_cs (-4096) rfl rfl ?_
            refine e_cs 4096 rfl rfl ?_
            refine e_callS1 ok_M_in rfl lk_M_110 k_M_in rfl rfl ⟨Nat.le_of_ble_eq_true rfl, Nat.le_of_ble_eq_true rfl⟩ ⟨Nat.zero_le _, Nat.zero_le _⟩ (Nat.le_of_ble_eq_true rfl) ?_
            refine e_ifeq rfl (fun h16 => ?_) (fun h16 => ?_)
            · refine e_ci 0 rfl rfl ?_
              iterate 3 refine e_sp rfl rfl rfl ?_
              refine e_ifeq rfl (fun _ => ?_) (fun h17 => absurd h17 (by first | decide | simp [puI, pt, upd]))
              refine e_ci 1 rfl rfl ?_
              iterate 3 refine e_sp rfl rfl rfl ?_
              refine e_ifle rfl (fun h18 => absurd h18 (by first | decide | simp [puI, pt, upd])) (fun _ => ?_)
              refine e_ci 0 rfl rfl ?_
              refine e_iret rfl rfl (Nat.le_refl _) (Nat.le_refl _) ?_
              have hok : okG c r x y a b = 1 := by unfold okG; (first | rw [if_pos h1] | rw [if_neg h1] | skip); (first | rw [if_pos h4] | rw [if_neg h4] | skip); (first | rw [if_pos h7] | rw [if_neg h7] | skip); (first | rw [if_pos h10] | rw [if_neg h10] | skip); (first | rw [if_pos h13] | rw [if_neg h13] | skip); (first | rw [if_pos h16] | rw [if_neg h16] | skip)
              rw [hok]
              exact ⟨rfl, rfl⟩
            · iterate 1 refine e_sp rfl rfl rfl ?_
              refine e_ifne rfl (fun h19 => ?_) (fun h19 => ?_)
              · refine e_ci 1 rfl rfl ?_
                refine e_goto rfl ?_
                iterate 3 refine e_sp rfl rfl rfl ?_
                refine e_ifeq rfl (fun h20 => absurd h20 (by first | decide | simp [puI, pt, upd])) (fun _ => ?_)
                refine e_ci 0 rfl rfl ?_
                refine e_goto rfl ?_
                iterate 3 refine e_sp rfl rfl rfl ?_
                refine e_ifle rfl (fun _ => ?_) (fun h21 => absurd h21 (by first | decide | simp [puI, pt, upd]))
                iterate 18 refine e_sp rfl rfl rfl ?_
                refine e_ci 0 rfl rfl ?_
                iterate 1 refine e_sp rfl rfl rfl ?_
                refine e_ci 0 rfl rfl ?_
                iterate 1 refine e_sp rfl rfl rfl ?_
                try dsimp only
                have hok : okG c r x y a b = 0 := by unfold okG; (first | rw [if_pos h1] | rw [if_neg h1] | skip); (first | rw [if_pos h4] | rw [if_neg h4] | skip); (first | rw [if_pos h7] | rw [if_neg h7] | skip); (first | rw [if_pos h10] | rw [if_neg h10] | skip); (first | rw [if_pos h13] | rw [if_neg h13] | skip); (first | rw [if_pos h16] | rw [if_neg h16] | skip); (first | rw [if_pos h19] | rw [if_neg h19] | skip)
                rw [if_pos hok, if_pos hok]
                exact k_M_gridL
              · iterate 1 refine e_sp rfl rfl rfl ?_
                refine e_ifeq rfl (fun h22 => ?_) (fun h22 => ?_)
                · refine e_ci 0 rfl rfl ?_
                  iterate 3 refine e_sp rfl rfl rfl ?_
                  refine e_ifeq rfl (fun _ => ?_) (fun h23 => absurd h23 (by first | decide | simp [puI, pt, upd]))
                  refine e_ci 1 rfl rfl ?_
                  iterate 3 refine e_sp rfl rfl rfl ?_
                  refine e_ifle rfl (fun h24 => absurd h24 (by first | decide | simp [puI, pt, upd])) (fun _ => ?_)
                  refine e_ci 0 rfl rfl ?_
                  refine e_iret rfl rfl (Nat.le_refl _) (Nat.le_refl _) ?_
                  have hok : okG c r x y a b = 1 := by unfold okG; (first | rw [if_pos h1] | rw [if_neg h1] | skip); (first | rw [if_pos h4] | rw [if_neg h4] | skip); (first | rw [if_pos h7] | rw [if_neg h7] | skip); (first | rw [if_pos h10] | rw [if_neg h10] | skip); (first | rw [if_pos h13] | rw [if_neg h13] | skip); (first | rw [if_pos h16] | rw [if_neg h16] | skip); (first | rw [if_pos h19] | rw [if_neg h19] | skip); (first | rw [if_pos h22] | rw [if_neg h22] | skip)
                  rw [hok]
                  exact ⟨rfl, rfl⟩
                · refine e_ci 1 rfl rfl ?_
                  refine e_goto rfl ?_
                  iterate 3 refine e_sp rfl rfl rfl ?_
                  refine e_ifeq rfl (fun h25 => absurd h25 (by first | decide | simp [puI, pt, upd])) (fun _ => ?_)
                  refine e_ci 0 rfl rfl ?_
                  refine e_goto rfl ?_
                  iterate 3 refine e_sp rfl rfl rfl ?_
                  refine e_ifle rfl (fun _ => ?_) (fun h26 => absurd h26 (by first | decide | simp [puI, pt, upd]))
                  iterate 18 refine e_sp rfl rfl rfl ?_
                  refine e_ci 0 rfl rfl ?_
                  iterate 1 refine e_sp rfl rfl rfl ?_
                  refine e_ci 0 rfl rfl ?_
                  iterate 1 refine e_sp rfl rfl rfl ?_
                  try dsimp only
                  have hok : okG c r x y a b = 0 := by unfold okG; (first | rw [if_pos h1] | rw [if_neg h1] | skip); (first | rw [if_pos h4] | rw [if_neg h4] | skip); (first | rw [if_pos h7] | rw [if_neg h7] | skip); (first | rw [if_pos h10] | rw [if_neg h10] | skip); (first | rw [if_pos h13] | rw [if_neg h13] | skip); (first | rw [if_pos h16] | rw [if_neg h16] | skip); (first | rw [if_pos h19] | rw [if_neg h19] | skip); (first | rw [if_pos h22] | rw [if_neg h22] | skip)
                  rw [if_pos hok, if_pos hok]
                  exact k_M_gridL
end
section
/-! the reference: row -/
def rwF (b : Nat) (word : Int32) (i : Nat) (x : St × Int32) : St × Int32 :=
  if word >>> (nI i &&& 31) &&& 1 = 1 then (puI x.1 22 (32 * b + i) (vp_nar .boolean 1), x.2 + (if x.1.1 22 (32 * b + i) = 1 then 0 else 1)) else (puI x.1 22 (32 * b + i) (vp_nar .boolean 0), x.2 + (if x.1.1 22 (32 * b + i) = 0 then 0 else 1))
def rwG (S : St) (b : Nat) (word : Int32) (w : Nat) : St × Int32 := nF (rwF b word) w (puI S 21 0 0, 0)
def rwM (S : St) (y word : Int32) (w : Nat) : St × Int32 := if wi y 0 (S.1 21 2 - 1) = 0 then (puI S 21 0 1, 0) else rwG S y.toNatClampNeg word w
theorem rwF_o {b i : Nat} {word : Int32} {x : St × Int32} {o : Nat} (h : o ≠ 22) : (rwF b word i x).1.1 o = x.1.1 o ∧ (rwF b word i x).1.2 = x.1.2 := by
  unfold rwF
  split
  · exact ⟨puI_o h, rfl⟩
  · exact ⟨puI_o h, rfl⟩
theorem rwN_o {b : Nat} {word : Int32} {x : St × Int32} {o : Nat} (h : o ≠ 22) (i : Nat) : (nF (rwF b word) i x).1.1 o = x.1.1 o ∧ (nF (rwF b word) i x).1.2 = x.1.2 :=
  nF_inv (fun T => T.1.1 o = x.1.1 o ∧ T.1.2 = x.1.2) (fun i T hT => ⟨(rwF_o h).1.trans hT.1, (rwF_o h).2.trans hT.2⟩) i x ⟨rfl, rfl⟩
set_option maxHeartbeats 4000000 in
set_option maxRecDepth 40000 in
theorem k_M_rowL {l : Launch} {h : Nat} {S : St} {b w : Nat} {word : Int32} (hw : S.1 21 1 = nI w) (hw2 : w ≤ 32) (hb : b < 32) : E0 l (SHm h) (1, 22) m_M_row 28 [some (aR 21), some (aI (nI b)), some (aI word), some (aI 0), some (aI 0), none] [] (puI S 21 0 0) (ans (some (aI (rwG S b word w).2)) (rwG S b word w).1) := by
  have hwn : ∀ n, (nF (rwF b word) n (puI S 21 0 0, 0)).1.1 21 1 = nI w := fun n => by rw [(rwN_o (by decide) n).1]; simpa [puI, pt, upd] using hw
  have hco : ∀ n, (nF (rwF b word) n (puI S 21 0 0, 0)).1.1 21 0 = 0 := fun n => by rw [(rwN_o (by decide) n).1]; simp [puI, pt, upd]
  have L1 := e_for (P := fun n => ∀ z5, E0 l (SHm h) (1, 22) m_M_row 28 [some (aR 21), some (aI (nI b)), some (aI word), some (aI (nF (rwF b word) n (puI S 21 0 0, 0)).2), some (aI (nI n)), z5] [] ((nF (rwF b word) n (puI S 21 0 0, 0)).1) (ans (some (aI (rwG S b word w).2)) (rwG S b word w).1)) (w) (by
      intro z5
      iterate 3 refine e_sp rfl rfl rfl ?_
      refine e_icge rfl (fun h1 => ?_) (fun h1 => ?_)
      · iterate 1 refine e_sp rfl rfl rfl ?_
        refine e_iret rfl rfl (Nat.le_refl _) (Nat.le_refl _) ?_
        exact ⟨rfl, rfl⟩
      · try dsimp only
        rw [hwn] at h1
        exact absurd (nI_le (Nat.le_refl _) (by omega)) h1) (fun n hn ihn => by
      intro z5
      iterate 3 refine e_sp rfl rfl rfl ?_
      refine e_icge rfl (fun h1 => ?_) (fun h1 => ?_)
      · try dsimp only
        rw [hwn] at h1
        exact absurd h1 (nI_ge hn (by omega))
      · iterate 2 refine e_sp rfl rfl rfl ?_
        rw [hco]
        refine e_ifne rfl (fun h2 => absurd h2 (by decide)) (fun _ => ?_)
        iterate 3 refine e_sp rfl rfl rfl ?_
        refine e_ci 1 rfl rfl ?_
        iterate 1 refine e_sp rfl rfl rfl ?_
        refine e_ci 1 rfl rfl ?_
        refine e_icne rfl (fun h3 => ?_) (fun h3 => ?_)
        · refine e_ci 0 rfl rfl ?_
          iterate 4 refine e_sp rfl rfl rfl ?_
          refine e_cb 32 rfl rfl ?_
          iterate 4 refine e_sp rfl rfl rfl ?_
          try dsimp only
          rw [ix32]
          refine e_zald rfl (by first | rfl | assumption) (by exact vp_in_nI (show 32 * b + n < 1024 by omega) (by decide)) ?_
          rw [nI_clamp (by omega)]
          iterate 1 refine e_sp rfl rfl rfl ?_
          refine e_iceq rfl (fun h4 => ?_) (fun h4 => ?_)
          · refine e_ci 0 rfl rfl ?_
            iterate 4 refine e_sp rfl rfl rfl ?_
            refine e_cb 32 rfl rfl ?_
            iterate 5 refine e_sp rfl rfl rfl ?_
            try dsimp only
            rw [ix32]
            refine e_zast rfl (by first | rfl | assumption) (by exact vp_in_nI (show 32 * b + n < 1024 by omega) (by decide)) ?_
            rw [nI_clamp (by omega)]
            refine e_inc 1 rfl rfl rfl rfl ?_
            refine e_goto rfl ?_
            try dsimp only
            rw [nI_1]
            simp only [nF] at ihn
            rw [rwF] at ihn
            (first | rw [if_pos h3] at ihn | rw [if_neg h3] at ihn)
            (first | rw [if_pos h4] at ihn | rw [if_neg h4] at ihn)
            exact ihn _
          · refine e_ci 1 rfl rfl ?_
            refine e_goto rfl ?_
            iterate 4 refine e_sp rfl rfl rfl ?_
            refine e_cb 32 rfl rfl ?_
            iterate 5 refine e_sp rfl rfl rfl ?_
            try dsimp only
            rw [ix32]
            refine e_zast rfl (by first | rfl | assumption) (by exact vp_in_nI (show 32 * b + n < 1024 by omega) (by decide)) ?_
            rw [nI_clamp (by omega)]
            refine e_inc 1 rfl rfl rfl rfl ?_
            refine e_goto rfl ?_
            try dsimp only
            rw [nI_1]
            simp only [nF] at ihn
            rw [rwF] at ihn
            (first | rw [if_pos h3] at ihn | rw [if_neg h3] at ihn)
            (first | rw [if_pos h4] at ihn | rw [if_neg h4] at ihn)
            exact ihn _
        · refine e_ci 1 rfl rfl ?_
          refine e_goto rfl ?_
          iterate 4 refine e_sp rfl rfl rfl ?_
          refine e_cb 32 rfl rfl ?_
          iterate 4 refine e_sp rfl rfl rfl ?_
          try dsimp only
          rw [ix32]
          refine e_zald rfl (by first | rfl | assumption) (by exact vp_in_nI (show 32 * b + n < 1024 by omega) (by decide)) ?_
          rw [nI_clamp (by omega)]
          iterate 1 refine e_sp rfl rfl rfl ?_
          refine e_iceq rfl (fun h5 => ?_) (fun h5 => ?_)
          · refine e_ci 0 rfl rfl ?_
            iterate 4 refine e_sp rfl rfl rfl ?_
            refine e_cb 32 rfl rfl ?_
            iterate 5 refine e_sp rfl rfl rfl ?_
            try dsimp only
            rw [ix32]
            refine e_zast rfl (by first | rfl | assumption) (by exact vp_in_nI (show 32 * b + n < 1024 by omega) (by decide)) ?_
            rw [nI_clamp (by omega)]
            refine e_inc 1 rfl rfl rfl rfl ?_
            refine e_goto rfl ?_
            try dsimp only
            rw [nI_1]
            simp only [nF] at ihn
            rw [rwF] at ihn
            (first | rw [if_pos h3] at ihn | rw [if_neg h3] at ihn)
            (first | rw [if_pos h5] at ihn | rw [if_neg h5] at ihn)
            exact ihn _
          · refine e_ci 1 rfl rfl ?_
            refine e_goto rfl ?_
            iterate 4 refine e_sp rfl rfl rfl ?_
            refine e_cb 32 rfl rfl ?_
            iterate 5 refine e_sp rfl rfl rfl ?_
            try dsimp only
            rw [ix32]
            refine e_zast rfl (by first | rfl | assumption) (by exact vp_in_nI (show 32 * b + n < 1024 by omega) (by decide)) ?_
            rw [nI_clamp (by omega)]
            refine e_inc 1 rfl rfl rfl rfl ?_
            refine e_goto rfl ?_
            try dsimp only
            rw [nI_1]
            simp only [nF] at ihn
            rw [rwF] at ihn
            (first | rw [if_pos h3] at ihn | rw [if_neg h3] at ihn)
            (first | rw [if_pos h5] at ihn | rw [if_neg h5] at ihn)
            exact ihn _)
  exact L1 none
set_option maxHeartbeats 4000000 in
set_option maxRecDepth 40000 in
theorem k_M_rowX {l : Launch} {h : Nat} {S : St} {y word : Int32} {w : Nat} (hw : S.1 21 1 = nI w) (hw2 : w ≤ 32) : E0 l (SHm h) (1, 22) m_M_row 28 [some (aR 21), some (aI y), some (aI word), some (aI 0), some (aI 0), none] [] (puI S 21 0 1) (ans (some (aI 0)) (puI S 21 0 1)) := by
  iterate 3 refine e_sp rfl rfl rfl ?_
  refine e_icge rfl (fun h1 => ?_) (fun h1 => ?_)
  · iterate 1 refine e_sp rfl rfl rfl ?_
    refine e_iret rfl rfl (Nat.le_refl _) (Nat.le_refl _) ?_
    exact ⟨rfl, rfl⟩
  · iterate 2 refine e_sp rfl rfl rfl ?_
    refine e_ifne rfl (fun h2 => ?_) (fun h2 => ?_)
    · iterate 1 refine e_sp rfl rfl rfl ?_
      refine e_iret rfl rfl (Nat.le_refl _) (Nat.le_refl _) ?_
      exact ⟨rfl, rfl⟩
    · try dsimp only
      exact absurd h2 (by simp [puI, pt, upd])
set_option maxHeartbeats 4000000 in
set_option maxRecDepth 40000 in
theorem k_M_row {l : Launch} {h : Nat} {S : St} {y word : Int32} {w g : Nat} (hw : S.1 21 1 = nI w) (hg : S.1 21 2 = nI g) (hw2 : w ≤ 32) (hg2 : g ≤ 32) : KK l (SHm h) (1, 22) m_M_row [aR 21, aI y, aI word] S (ans (some (aI (rwM S y word w).2)) (rwM S y word w).1) := by
  refine k_start ok_M_row (Nat.le_of_ble_eq_true rfl) ?_
  iterate 2 refine e_sp rfl rfl rfl ?_
  refine e_ci 0 rfl rfl ?_
  iterate 2 refine e_sp rfl rfl rfl ?_
  refine e_ci 1 rfl rfl ?_
  iterate 1 refine e_sp rfl rfl rfl ?_
  refine e_callS1 ok_M_in rfl lk_M_110 k_M_in rfl rfl ⟨Nat.le_of_ble_eq_true rfl, Nat.le_of_ble_eq_true rfl⟩ ⟨Nat.zero_le _, Nat.zero_le _⟩ (Nat.le_of_ble_eq_true rfl) ?_
  refine e_ifeq rfl (fun h1 => ?_) (fun h1 => ?_)
  · refine e_ci 1 rfl rfl ?_
    iterate 1 refine e_sp rfl rfl rfl ?_
    refine e_ci 0 rfl rfl ?_
    iterate 1 refine e_sp rfl rfl rfl ?_
    refine e_ci 0 rfl rfl ?_
    iterate 1 refine e_sp rfl rfl rfl ?_
    try dsimp only
    rw [rwM]
    first | (rw [if_pos h1]; exact k_M_rowX hw hw2) | (rw [if_neg h1]; obtain ⟨b, hb, rfl⟩ := wi_nat (by omega) (show ¬ wi y 0 (nI g - 1) = 0 from hg ▸ h1); rw [nI_clamp (by omega)]; exact k_M_rowL hw hw2 (by omega))
  · refine e_ci 0 rfl rfl ?_
    refine e_goto rfl ?_
    iterate 1 refine e_sp rfl rfl rfl ?_
    refine e_ci 0 rfl rfl ?_
    iterate 1 refine e_sp rfl rfl rfl ?_
    refine e_ci 0 rfl rfl ?_
    iterate 1 refine e_sp rfl rfl rfl ?_
    try dsimp only
    rw [rwM]
    first | (rw [if_pos h1]; exact k_M_rowX hw hw2) | (rw [if_neg h1]; obtain ⟨b, hb, rfl⟩ := wi_nat (by omega) (show ¬ wi y 0 (nI g - 1) = 0 from hg ▸ h1); rw [nI_clamp (by omega)]; exact k_M_rowL hw hw2 (by omega))
/-! nearest, shade -/
def awM (e c : Int32) : Int32 := if c ≤ e then e - c else c - e
def nrF (S : St) (c : Int32) (i b : Nat) : Nat :=
  if awM (dkM S (i + 1)) c < awM (dkM S b) c then i + 1 else if awM (dkM S (i + 1)) c = awM (dkM S b) c then (if dkM S b ≤ dkM S (i + 1) then b else i + 1) else b
def nrM (S : St) (c : Int32) (m : Nat) : Nat := nF (nrF S c) m 0
theorem nrN_le (S : St) (c : Int32) : ∀ i, nF (nrF S c) i 0 ≤ i
  | 0 => Nat.le_refl _
  | i + 1 => by
    have h := nrN_le S c i
    show nrF S c i (nF (nrF S c) i 0) ≤ i + 1
    generalize nF (nrF S c) i 0 = b at h ⊢
    unfold nrF
    split
    · exact Nat.le_refl _
    · split
      · split
        · omega
        · exact Nat.le_refl _
      · omega
set_option maxHeartbeats 4000000 in
set_option maxRecDepth 40000 in
theorem k_M_nearest {l : Launch} {h : Nat} {S : St} {c : Int32} {m : Nat} (hm : S.1 21 7 = nI (m + 1)) (hm2 : m < 64) : KK l (SHm h) (1, 23) m_M_nearest [aR 21, aI c] S (ans (some (aI (nI (nrM S c m)))) S) := by
  refine k_start ok_M_nearest (Nat.le_of_ble_eq_true rfl) ?_
  have L1 := e_for (P := fun n => ∀ z4 z5, E0 l (SHm h) (1, 23) m_M_nearest 4 [some (aR 21), some (aI c), some (aI (nI (nF (nrF S c) n 0))), some (aI (nI (n + 1))), z4, z5] [] (S) (ans (some (aI (nI (nrM S c m)))) S)) (m) (by
      intro z4 z5
      iterate 3 refine e_sp rfl rfl rfl ?_
      refine e_icge rfl (fun h1 => ?_) (fun h1 => ?_)
      · iterate 1 refine e_sp rfl rfl rfl ?_
        refine e_iret rfl rfl (Nat.le_refl _) (Nat.le_refl _) ?_
        exact ⟨rfl, rfl⟩
      · try dsimp only
        rw [hm] at h1
        exact absurd (nI_le (Nat.le_refl _) (by omega)) h1) (fun n hn ihn => by
      intro z4 z5
      iterate 3 refine e_sp rfl rfl rfl ?_
      refine e_icge rfl (fun h1 => ?_) (fun h1 => ?_)
      · try dsimp only
        rw [hm] at h1
        exact absurd h1 (nI_ge (show n + 1 < m + 1 by omega) (by omega))
      · iterate 2 refine e_sp rfl rfl rfl ?_
        refine e_callV1 ok_M_darkIn rfl lk_M_150 (by rfl) (by rfl) (k_M_darkIn (k := (nF (nrF S c) n 0)) (Nat.lt_of_le_of_lt (nrN_le S c n) (by omega))) rfl rfl ⟨Nat.le_of_ble_eq_true rfl, Nat.le_of_ble_eq_true rfl⟩ ⟨Nat.zero_le _, Nat.zero_le _⟩ (Nat.le_of_ble_eq_true rfl) ?_
        iterate 1 refine e_sp rfl rfl rfl ?_
        refine e_icge rfl (fun h2 => ?_) (fun h2 => ?_)
        · iterate 2 refine e_sp rfl rfl rfl ?_
          refine e_callV1 ok_M_darkIn rfl lk_M_150 (by rfl) (by rfl) (k_M_darkIn (k := (nF (nrF S c) n 0)) (Nat.lt_of_le_of_lt (nrN_le S c n) (by omega))) rfl rfl ⟨Nat.le_of_ble_eq_true rfl, Nat.le_of_ble_eq_true rfl⟩ ⟨Nat.zero_le _, Nat.zero_le _⟩ (Nat.le_of_ble_eq_true rfl) ?_
          iterate 5 refine e_sp rfl rfl rfl ?_
          refine e_callV1 ok_M_darkIn rfl lk_M_150 (by rfl) (by rfl) (k_M_darkIn (k := n + 1) (by omega)) rfl rfl ⟨Nat.le_of_ble_eq_true rfl, Nat.le_of_ble_eq_true rfl⟩ ⟨Nat.zero_le _, Nat.zero_le _⟩ (Nat.le_of_ble_eq_true rfl) ?_
          iterate 1 refine e_sp rfl rfl rfl ?_
          refine e_icge rfl (fun h3 => ?_) (fun h3 => ?_)
          · iterate 2 refine e_sp rfl rfl rfl ?_
            refine e_callV1 ok_M_darkIn rfl lk_M_150 (by rfl) (by rfl) (k_M_darkIn (k := n + 1) (by omega)) rfl rfl ⟨Nat.le_of_ble_eq_true rfl, Nat.le_of_ble_eq_true rfl⟩ ⟨Nat.zero_le _, Nat.zero_le _⟩ (Nat.le_of_ble_eq_true rfl) ?_
            iterate 5 refine e_sp rfl rfl rfl ?_
            refine e_iclt rfl (fun h4 => ?_) (fun h4 => ?_)
            · iterate 1 refine e_sp rfl rfl rfl ?_
              refine e_goto rfl ?_
              iterate 1 refine e_sp rfl rfl rfl ?_
              refine e_inc 1 rfl rfl rfl rfl ?_
              refine e_goto rfl ?_
              try dsimp only
              rw [nI_1]
              simp only [nF] at ihn
              rw [nrF] at ihn
              have eA : awM (dkM S (nF (nrF S c) n 0)) c = if c ≤ dkM S (nF (nrF S c) n 0) then dkM S (nF (nrF S c) n 0) - c else c - dkM S (nF (nrF S c) n 0) := rfl
              first | rw [if_pos h2] at eA | rw [if_neg h2] at eA
              have eB : awM (dkM S (n + 1)) c = if c ≤ dkM S (n + 1) then dkM S (n + 1) - c else c - dkM S (n + 1) := rfl
              first | rw [if_pos h3] at eB | rw [if_neg h3] at eB
              rw [eA, eB] at ihn
              (first | rw [if_pos h4] at ihn | rw [if_neg h4] at ihn)
              exact ihn _ _
            · iterate 2 refine e_sp rfl rfl rfl ?_
              refine e_icne rfl (fun h5 => ?_) (fun h5 => ?_)
              · iterate 2 refine e_sp rfl rfl rfl ?_
                refine e_inc 1 rfl rfl rfl rfl ?_
                refine e_goto rfl ?_
                try dsimp only
                rw [nI_1]
                simp only [nF] at ihn
                rw [nrF] at ihn
                have eA : awM (dkM S (nF (nrF S c) n 0)) c = if c ≤ dkM S (nF (nrF S c) n 0) then dkM S (nF (nrF S c) n 0) - c else c - dkM S (nF (nrF S c) n 0) := rfl
                first | rw [if_pos h2] at eA | rw [if_neg h2] at eA
                have eB : awM (dkM S (n + 1)) c = if c ≤ dkM S (n + 1) then dkM S (n + 1) - c else c - dkM S (n + 1) := rfl
                first | rw [if_pos h3] at eB | rw [if_neg h3] at eB
                rw [eA, eB] at ihn
                (first | rw [if_pos h4] at ihn | rw [if_neg h4] at ihn)
                (first | rw [if_pos h5] at ihn | rw [if_neg h5] at ihn)
                exact ihn _ _
              · iterate 2 refine e_sp rfl rfl rfl ?_
                refine e_callV1 ok_M_darkIn rfl lk_M_150 (by rfl) (by rfl) (k_M_darkIn (k := n + 1) (by omega)) rfl rfl ⟨Nat.le_of_ble_eq_true rfl, Nat.le_of_ble_eq_true rfl⟩ ⟨Nat.zero_le _, Nat.zero_le _⟩ (Nat.le_of_ble_eq_true rfl) ?_
                iterate 2 refine e_sp rfl rfl rfl ?_
                refine e_callV1 ok_M_darkIn rfl lk_M_150 (by rfl) (by rfl) (k_M_darkIn (k := (nF (nrF S c) n 0)) (Nat.lt_of_le_of_lt (nrN_le S c n) (by omega))) rfl rfl ⟨Nat.le_of_ble_eq_true rfl, Nat.le_of_ble_eq_true rfl⟩ ⟨Nat.zero_le _, Nat.zero_le _⟩ (Nat.le_of_ble_eq_true rfl) ?_
                refine e_icge rfl (fun h6 => ?_) (fun h6 => ?_)
                · iterate 2 refine e_sp rfl rfl rfl ?_
                  refine e_inc 1 rfl rfl rfl rfl ?_
                  refine e_goto rfl ?_
                  try dsimp only
                  rw [nI_1]
                  simp only [nF] at ihn
                  rw [nrF] at ihn
                  have eA : awM (dkM S (nF (nrF S c) n 0)) c = if c ≤ dkM S (nF (nrF S c) n 0) then dkM S (nF (nrF S c) n 0) - c else c - dkM S (nF (nrF S c) n 0) := rfl
                  first | rw [if_pos h2] at eA | rw [if_neg h2] at eA
                  have eB : awM (dkM S (n + 1)) c = if c ≤ dkM S (n + 1) then dkM S (n + 1) - c else c - dkM S (n + 1) := rfl
                  first | rw [if_pos h3] at eB | rw [if_neg h3] at eB
                  rw [eA, eB] at ihn
                  (first | rw [if_pos h4] at ihn | rw [if_neg h4] at ihn)
                  (first | rw [if_pos h5] at ihn | rw [if_neg h5] at ihn)
                  (first | rw [if_pos h6] at ihn | rw [if_neg h6] at ihn)
                  exact ihn _ _
                · iterate 1 refine e_sp rfl rfl rfl ?_
                  refine e_goto rfl ?_
                  iterate 1 refine e_sp rfl rfl rfl ?_
                  refine e_inc 1 rfl rfl rfl rfl ?_
                  refine e_goto rfl ?_
                  try dsimp only
                  rw [nI_1]
                  simp only [nF] at ihn
                  rw [nrF] at ihn
                  have eA : awM (dkM S (nF (nrF S c) n 0)) c = if c ≤ dkM S (nF (nrF S c) n 0) then dkM S (nF (nrF S c) n 0) - c else c - dkM S (nF (nrF S c) n 0) := rfl
                  first | rw [if_pos h2] at eA | rw [if_neg h2] at eA
                  have eB : awM (dkM S (n + 1)) c = if c ≤ dkM S (n + 1) then dkM S (n + 1) - c else c - dkM S (n + 1) := rfl
                  first | rw [if_pos h3] at eB | rw [if_neg h3] at eB
                  rw [eA, eB] at ihn
                  (first | rw [if_pos h4] at ihn | rw [if_neg h4] at ihn)
                  (first | rw [if_pos h5] at ihn | rw [if_neg h5] at ihn)
                  (first | rw [if_pos h6] at ihn | rw [if_neg h6] at ihn)
                  exact ihn _ _
          · iterate 3 refine e_sp rfl rfl rfl ?_
            refine e_callV1 ok_M_darkIn rfl lk_M_150 (by rfl) (by rfl) (k_M_darkIn (k := n + 1) (by omega)) rfl rfl ⟨Nat.le_of_ble_eq_true rfl, Nat.le_of_ble_eq_true rfl⟩ ⟨Nat.zero_le _, Nat.zero_le _⟩ (Nat.le_of_ble_eq_true rfl) ?_
            iterate 1 refine e_sp rfl rfl rfl ?_
            refine e_goto rfl ?_
            iterate 3 refine e_sp rfl rfl rfl ?_
            refine e_iclt rfl (fun h7 => ?_) (fun h7 => ?_)
            · iterate 1 refine e_sp rfl rfl rfl ?_
              refine e_goto rfl ?_
              iterate 1 refine e_sp rfl rfl rfl ?_
              refine e_inc 1 rfl rfl rfl rfl ?_
              refine e_goto rfl ?_
              try dsimp only
              rw [nI_1]
              simp only [nF] at ihn
              rw [nrF] at ihn
              have eA : awM (dkM S (nF (nrF S c) n 0)) c = if c ≤ dkM S (nF (nrF S c) n 0) then dkM S (nF (nrF S c) n 0) - c else c - dkM S (nF (nrF S c) n 0) := rfl
              first | rw [if_pos h2] at eA | rw [if_neg h2] at eA
              have eB : awM (dkM S (n + 1)) c = if c ≤ dkM S (n + 1) then dkM S (n + 1) - c else c - dkM S (n + 1) := rfl
              first | rw [if_pos h3] at eB | rw [if_neg h3] at eB
              rw [eA, eB] at ihn
              (first | rw [if_pos h7] at ihn | rw [if_neg h7] at ihn)
              exact ihn _ _
            · iterate 2 refine e_sp rfl rfl rfl ?_
              refine e_icne rfl (fun h8 => ?_) (fun h8 => ?_)
              · iterate 2 refine e_sp rfl rfl rfl ?_
                refine e_inc 1 rfl rfl rfl rfl ?_
                refine e_goto rfl ?_
                try dsimp only
                rw [nI_1]
                simp only [nF] at ihn
                rw [nrF] at ihn
                have eA : awM (dkM S (nF (nrF S c) n 0)) c = if c ≤ dkM S (nF (nrF S c) n 0) then dkM S (nF (nrF S c) n 0) - c else c - dkM S (nF (nrF S c) n 0) := rfl
                first | rw [if_pos h2] at eA | rw [if_neg h2] at eA
                have eB : awM (dkM S (n + 1)) c = if c ≤ dkM S (n + 1) then dkM S (n + 1) - c else c - dkM S (n + 1) := rfl
                first | rw [if_pos h3] at eB | rw [if_neg h3] at eB
                rw [eA, eB] at ihn
                (first | rw [if_pos h7] at ihn | rw [if_neg h7] at ihn)
                (first | rw [if_pos h8] at ihn | rw [if_neg h8] at ihn)
                exact ihn _ _
              · iterate 2 refine e_sp rfl rfl rfl ?_
                refine e_callV1 ok_M_darkIn rfl lk_M_150 (by rfl) (by rfl) (k_M_darkIn (k := n + 1) (by omega)) rfl rfl ⟨Nat.le_of_ble_eq_true rfl, Nat.le_of_ble_eq_true rfl⟩ ⟨Nat.zero_le _, Nat.zero_le _⟩ (Nat.le_of_ble_eq_true rfl) ?_
                iterate 2 refine e_sp rfl rfl rfl ?_
                refine e_callV1 ok_M_darkIn rfl lk_M_150 (by rfl) (by rfl) (k_M_darkIn (k := (nF (nrF S c) n 0)) (Nat.lt_of_le_of_lt (nrN_le S c n) (by omega))) rfl rfl ⟨Nat.le_of_ble_eq_true rfl, Nat.le_of_ble_eq_true rfl⟩ ⟨Nat.zero_le _, Nat.zero_le _⟩ (Nat.le_of_ble_eq_true rfl) ?_
                refine e_icge rfl (fun h9 => ?_) (fun h9 => ?_)
                · iterate 2 refine e_sp rfl rfl rfl ?_
                  refine e_inc 1 rfl rfl rfl rfl ?_
                  refine e_goto rfl ?_
                  try dsimp only
                  rw [nI_1]
                  simp only [nF] at ihn
                  rw [nrF] at ihn
                  have eA : awM (dkM S (nF (nrF S c) n 0)) c = if c ≤ dkM S (nF (nrF S c) n 0) then dkM S (nF (nrF S c) n 0) - c else c - dkM S (nF (nrF S c) n 0) := rfl
                  first | rw [if_pos h2] at eA | rw [if_neg h2] at eA
                  have eB : awM (dkM S (n + 1)) c = if c ≤ dkM S (n + 1) then dkM S (n + 1) - c else c - dkM S (n + 1) := rfl
                  first | rw [if_pos h3] at eB | rw [if_neg h3] at eB
                  rw [eA, eB] at ihn
                  (first | rw [if_pos h7] at ihn | rw [if_neg h7] at ihn)
                  (first | rw [if_pos h8] at ihn | rw [if_neg h8] at ihn)
                  (first | rw [if_pos h9] at ihn | rw [if_neg h9] at ihn)
                  exact ihn _ _
                · iterate 1 refine e_sp rfl rfl rfl ?_
                  refine e_goto rfl ?_
                  iterate 1 refine e_sp rfl rfl rfl ?_
                  refine e_inc 1 rfl rfl rfl rfl ?_
                  refine e_goto rfl ?_
                  try dsimp only
                  rw [nI_1]
                  simp only [nF] at ihn
                  rw [nrF] at ihn
                  have eA : awM (dkM S (nF (nrF S c) n 0)) c = if c ≤ dkM S (nF (nrF S c) n 0) then dkM S (nF (nrF S c) n 0) - c else c - dkM S (nF (nrF S c) n 0) := rfl
                  first | rw [if_pos h2] at eA | rw [if_neg h2] at eA
                  have eB : awM (dkM S (n + 1)) c = if c ≤ dkM S (n + 1) then dkM S (n + 1) - c else c - dkM S (n + 1) := rfl
                  first | rw [if_pos h3] at eB | rw [if_neg h3] at eB
                  rw [eA, eB] at ihn
                  (first | rw [if_pos h7] at ihn | rw [if_neg h7] at ihn)
                  (first | rw [if_pos h8] at ihn | rw [if_neg h8] at ihn)
                  (first | rw [if_pos h9] at ihn | rw [if_neg h9] at ihn)
                  exact ihn _ _
        · iterate 3 refine e_sp rfl rfl rfl ?_
          refine e_callV1 ok_M_darkIn rfl lk_M_150 (by rfl) (by rfl) (k_M_darkIn (k := (nF (nrF S c) n 0)) (Nat.lt_of_le_of_lt (nrN_le S c n) (by omega))) rfl rfl ⟨Nat.le_of_ble_eq_true rfl, Nat.le_of_ble_eq_true rfl⟩ ⟨Nat.zero_le _, Nat.zero_le _⟩ (Nat.le_of_ble_eq_true rfl) ?_
          iterate 1 refine e_sp rfl rfl rfl ?_
          refine e_goto rfl ?_
          iterate 3 refine e_sp rfl rfl rfl ?_
          refine e_callV1 ok_M_darkIn rfl lk_M_150 (by rfl) (by rfl) (k_M_darkIn (k := n + 1) (by omega)) rfl rfl ⟨Nat.le_of_ble_eq_true rfl, Nat.le_of_ble_eq_true rfl⟩ ⟨Nat.zero_le _, Nat.zero_le _⟩ (Nat.le_of_ble_eq_true rfl) ?_
          iterate 1 refine e_sp rfl rfl rfl ?_
          refine e_icge rfl (fun h10 => ?_) (fun h10 => ?_)
          · iterate 2 refine e_sp rfl rfl rfl ?_
            refine e_callV1 ok_M_darkIn rfl lk_M_150 (by rfl) (by rfl) (k_M_darkIn (k := n + 1) (by omega)) rfl rfl ⟨Nat.le_of_ble_eq_true rfl, Nat.le_of_ble_eq_true rfl⟩ ⟨Nat.zero_le _, Nat.zero_le _⟩ (Nat.le_of_ble_eq_true rfl) ?_
            iterate 5 refine e_sp rfl rfl rfl ?_
            refine e_iclt rfl (fun h11 => ?_) (fun h11 => ?_)
            · iterate 1 refine e_sp rfl rfl rfl ?_
              refine e_goto rfl ?_
              iterate 1 refine e_sp rfl rfl rfl ?_
              refine e_inc 1 rfl rfl rfl rfl ?_
              refine e_goto rfl ?_
              try dsimp only
              rw [nI_1]
              simp only [nF] at ihn
              rw [nrF] at ihn
              have eA : awM (dkM S (nF (nrF S c) n 0)) c = if c ≤ dkM S (nF (nrF S c) n 0) then dkM S (nF (nrF S c) n 0) - c else c - dkM S (nF (nrF S c) n 0) := rfl
              first | rw [if_pos h2] at eA | rw [if_neg h2] at eA
              have eB : awM (dkM S (n + 1)) c = if c ≤ dkM S (n + 1) then dkM S (n + 1) - c else c - dkM S (n + 1) := rfl
              first | rw [if_pos h10] at eB | rw [if_neg h10] at eB
              rw [eA, eB] at ihn
              (first | rw [if_pos h11] at ihn | rw [if_neg h11] at ihn)
              exact ihn _ _
            · iterate 2 refine e_sp rfl rfl rfl ?_
              refine e_icne rfl (fun h12 => ?_) (fun h12 => ?_)
              · iterate 2 refine e_sp rfl rfl rfl ?_
                refine e_inc 1 rfl rfl rfl rfl ?_
                refine e_goto rfl ?_
                try dsimp only
                rw [nI_1]
                simp only [nF] at ihn
                rw [nrF] at ihn
                have eA : awM (dkM S (nF (nrF S c) n 0)) c = if c ≤ dkM S (nF (nrF S c) n 0) then dkM S (nF (nrF S c) n 0) - c else c - dkM S (nF (nrF S c) n 0) := rfl
                first | rw [if_pos h2] at eA | rw [if_neg h2] at eA
                have eB : awM (dkM S (n + 1)) c = if c ≤ dkM S (n + 1) then dkM S (n + 1) - c else c - dkM S (n + 1) := rfl
                first | rw [if_pos h10] at eB | rw [if_neg h10] at eB
                rw [eA, eB] at ihn
                (first | rw [if_pos h11] at ihn | rw [if_neg h11] at ihn)
                (first | rw [if_pos h12] at ihn | rw [if_neg h12] at ihn)
                exact ihn _ _
              · iterate 2 refine e_sp rfl rfl rfl ?_
                refine e_callV1 ok_M_darkIn rfl lk_M_150 (by rfl) (by rfl) (k_M_darkIn (k := n + 1) (by omega)) rfl rfl ⟨Nat.le_of_ble_eq_true rfl, Nat.le_of_ble_eq_true rfl⟩ ⟨Nat.zero_le _, Nat.zero_le _⟩ (Nat.le_of_ble_eq_true rfl) ?_
                iterate 2 refine e_sp rfl rfl rfl ?_
                refine e_callV1 ok_M_darkIn rfl lk_M_150 (by rfl) (by rfl) (k_M_darkIn (k := (nF (nrF S c) n 0)) (Nat.lt_of_le_of_lt (nrN_le S c n) (by omega))) rfl rfl ⟨Nat.le_of_ble_eq_true rfl, Nat.le_of_ble_eq_true rfl⟩ ⟨Nat.zero_le _, Nat.zero_le _⟩ (Nat.le_of_ble_eq_true rfl) ?_
                refine e_icge rfl (fun h13 => ?_) (fun h13 => ?_)
                · iterate 2 refine e_sp rfl rfl rfl ?_
                  refine e_inc 1 rfl rfl rfl rfl ?_
                  refine e_goto rfl ?_
                  try dsimp only
                  rw [nI_1]
                  simp only [nF] at ihn
                  rw [nrF] at ihn
                  have eA : awM (dkM S (nF (nrF S c) n 0)) c = if c ≤ dkM S (nF (nrF S c) n 0) then dkM S (nF (nrF S c) n 0) - c else c - dkM S (nF (nrF S c) n 0) := rfl
                  first | rw [if_pos h2] at eA | rw [if_neg h2] at eA
                  have eB : awM (dkM S (n + 1)) c = if c ≤ dkM S (n + 1) then dkM S (n + 1) - c else c - dkM S (n + 1) := rfl
                  first | rw [if_pos h10] at eB | rw [if_neg h10] at eB
                  rw [eA, eB] at ihn
                  (first | rw [if_pos h11] at ihn | rw [if_neg h11] at ihn)
                  (first | rw [if_pos h12] at ihn | rw [if_neg h12] at ihn)
                  (first | rw [if_pos h13] at ihn | rw [if_neg h13] at ihn)
                  exact ihn _ _
                · iterate 1 refine e_sp rfl rfl rfl ?_
                  refine e_goto rfl ?_
                  iterate 1 refine e_sp rfl rfl rfl ?_
                  refine e_inc 1 rfl rfl rfl rfl ?_
                  refine e_goto rfl ?_
                  try dsimp only
                  rw [nI_1]
                  simp only [nF] at ihn
                  rw [nrF] at ihn
                  have eA : awM (dkM S (nF (nrF S c) n 0)) c = if c ≤ dkM S (nF (nrF S c) n 0) then dkM S (nF (nrF S c) n 0) - c else c - dkM S (nF (nrF S c) n 0) := rfl
                  first | rw [if_pos h2] at eA | rw [if_neg h2] at eA
                  have eB : awM (dkM S (n + 1)) c = if c ≤ dkM S (n + 1) then dkM S (n + 1) - c else c - dkM S (n + 1) := rfl
                  first | rw [if_pos h10] at eB | rw [if_neg h10] at eB
                  rw [eA, eB] at ihn
                  (first | rw [if_pos h11] at ihn | rw [if_neg h11] at ihn)
                  (first | rw [if_pos h12] at ihn | rw [if_neg h12] at ihn)
                  (first | rw [if_pos h13] at ihn | rw [if_neg h13] at ihn)
                  exact ihn _ _
          · iterate 3 refine e_sp rfl rfl rfl ?_
            refine e_callV1 ok_M_darkIn rfl lk_M_150 (by rfl) (by rfl) (k_M_darkIn (k := n + 1) (by omega)) rfl rfl ⟨Nat.le_of_ble_eq_true rfl, Nat.le_of_ble_eq_true rfl⟩ ⟨Nat.zero_le _, Nat.zero_le _⟩ (Nat.le_of_ble_eq_true rfl) ?_
            iterate 1 refine e_sp rfl rfl rfl ?_
            refine e_goto rfl ?_
            iterate 3 refine e_sp rfl rfl rfl ?_
            refine e_iclt rfl (fun h14 => ?_) (fun h14 => ?_)
            · iterate 1 refine e_sp rfl rfl rfl ?_
              refine e_goto rfl ?_
              iterate 1 refine e_sp rfl rfl rfl ?_
              refine e_inc 1 rfl rfl rfl rfl ?_
              refine e_goto rfl ?_
              try dsimp only
              rw [nI_1]
              simp only [nF] at ihn
              rw [nrF] at ihn
              have eA : awM (dkM S (nF (nrF S c) n 0)) c = if c ≤ dkM S (nF (nrF S c) n 0) then dkM S (nF (nrF S c) n 0) - c else c - dkM S (nF (nrF S c) n 0) := rfl
              first | rw [if_pos h2] at eA | rw [if_neg h2] at eA
              have eB : awM (dkM S (n + 1)) c = if c ≤ dkM S (n + 1) then dkM S (n + 1) - c else c - dkM S (n + 1) := rfl
              first | rw [if_pos h10] at eB | rw [if_neg h10] at eB
              rw [eA, eB] at ihn
              (first | rw [if_pos h14] at ihn | rw [if_neg h14] at ihn)
              exact ihn _ _
            · iterate 2 refine e_sp rfl rfl rfl ?_
              refine e_icne rfl (fun h15 => ?_) (fun h15 => ?_)
              · iterate 2 refine e_sp rfl rfl rfl ?_
                refine e_inc 1 rfl rfl rfl rfl ?_
                refine e_goto rfl ?_
                try dsimp only
                rw [nI_1]
                simp only [nF] at ihn
                rw [nrF] at ihn
                have eA : awM (dkM S (nF (nrF S c) n 0)) c = if c ≤ dkM S (nF (nrF S c) n 0) then dkM S (nF (nrF S c) n 0) - c else c - dkM S (nF (nrF S c) n 0) := rfl
                first | rw [if_pos h2] at eA | rw [if_neg h2] at eA
                have eB : awM (dkM S (n + 1)) c = if c ≤ dkM S (n + 1) then dkM S (n + 1) - c else c - dkM S (n + 1) := rfl
                first | rw [if_pos h10] at eB | rw [if_neg h10] at eB
                rw [eA, eB] at ihn
                (first | rw [if_pos h14] at ihn | rw [if_neg h14] at ihn)
                (first | rw [if_pos h15] at ihn | rw [if_neg h15] at ihn)
                exact ihn _ _
              · iterate 2 refine e_sp rfl rfl rfl ?_
                refine e_callV1 ok_M_darkIn rfl lk_M_150 (by rfl) (by rfl) (k_M_darkIn (k := n + 1) (by omega)) rfl rfl ⟨Nat.le_of_ble_eq_true rfl, Nat.le_of_ble_eq_true rfl⟩ ⟨Nat.zero_le _, Nat.zero_le _⟩ (Nat.le_of_ble_eq_true rfl) ?_
                iterate 2 refine e_sp rfl rfl rfl ?_
                refine e_callV1 ok_M_darkIn rfl lk_M_150 (by rfl) (by rfl) (k_M_darkIn (k := (nF (nrF S c) n 0)) (Nat.lt_of_le_of_lt (nrN_le S c n) (by omega))) rfl rfl ⟨Nat.le_of_ble_eq_true rfl, Nat.le_of_ble_eq_true rfl⟩ ⟨Nat.zero_le _, Nat.zero_le _⟩ (Nat.le_of_ble_eq_true rfl) ?_
                refine e_icge rfl (fun h16 => ?_) (fun h16 => ?_)
                · iterate 2 refine e_sp rfl rfl rfl ?_
                  refine e_inc 1 rfl rfl rfl rfl ?_
                  refine e_goto rfl ?_
                  try dsimp only
                  rw [nI_1]
                  simp only [nF] at ihn
                  rw [nrF] at ihn
                  have eA : awM (dkM S (nF (nrF S c) n 0)) c = if c ≤ dkM S (nF (nrF S c) n 0) then dkM S (nF (nrF S c) n 0) - c else c - dkM S (nF (nrF S c) n 0) := rfl
                  first | rw [if_pos h2] at eA | rw [if_neg h2] at eA
                  have eB : awM (dkM S (n + 1)) c = if c ≤ dkM S (n + 1) then dkM S (n + 1) - c else c - dkM S (n + 1) := rfl
                  first | rw [if_pos h10] at eB | rw [if_neg h10] at eB
                  rw [eA, eB] at ihn
                  (first | rw [if_pos h14] at ihn | rw [if_neg h14] at ihn)
                  (first | rw [if_pos h15] at ihn | rw [if_neg h15] at ihn)
                  (first | rw [if_pos h16] at ihn | rw [if_neg h16] at ihn)
                  exact ihn _ _
                · iterate 1 refine e_sp rfl rfl rfl ?_
                  refine e_goto rfl ?_
                  iterate 1 refine e_sp rfl rfl rfl ?_
                  refine e_inc 1 rfl rfl rfl rfl ?_
                  refine e_goto rfl ?_
                  try dsimp only
                  rw [nI_1]
                  simp only [nF] at ihn
                  rw [nrF] at ihn
                  have eA : awM (dkM S (nF (nrF S c) n 0)) c = if c ≤ dkM S (nF (nrF S c) n 0) then dkM S (nF (nrF S c) n 0) - c else c - dkM S (nF (nrF S c) n 0) := rfl
                  first | rw [if_pos h2] at eA | rw [if_neg h2] at eA
                  have eB : awM (dkM S (n + 1)) c = if c ≤ dkM S (n + 1) then dkM S (n + 1) - c else c - dkM S (n + 1) := rfl
                  first | rw [if_pos h10] at eB | rw [if_neg h10] at eB
                  rw [eA, eB] at ihn
                  (first | rw [if_pos h14] at ihn | rw [if_neg h14] at ihn)
                  (first | rw [if_pos h15] at ihn | rw [if_neg h15] at ihn)
                  (first | rw [if_pos h16] at ihn | rw [if_neg h16] at ihn)
                  exact ihn _ _)
  refine e_ci 0 rfl rfl ?_
  iterate 1 refine e_sp rfl rfl rfl ?_
  refine e_ci 1 rfl rfl ?_
  iterate 1 refine e_sp rfl rfl rfl ?_
  try dsimp only
  exact L1 _ _
def smF (m i j : Nat) (x : St × Int32) : St × Int32 := (puI x.1 25 (16 * j + i) (nI (nrM x.1 (cnM x.1 (nI i) (nI j)) m)), x.2 + (if x.1.1 25 (16 * j + i) = nI (nrM x.1 (cnM x.1 (nI i) (nI j)) m) then 0 else 1))
def smM (S : St) (c r m : Nat) : St × Int32 := pO (smF m) c r (puI S 21 0 0, 0)
theorem smF_o {m i j : Nat} {x : St × Int32} {o : Nat} (h : o ≠ 25) : (smF m i j x).1.1 o = x.1.1 o ∧ (smF m i j x).1.2 = x.1.2 := ⟨puI_o h, rfl⟩
theorem smO_o {m c j : Nat} {S : St × Int32} {o : Nat} (ho : o ≠ 25) : (pO (smF m) c j S).1.1 o = S.1.1 o ∧ (pO (smF m) c j S).1.2 = S.1.2 :=
  pO_inv (fun T => T.1.1 o = S.1.1 o ∧ T.1.2 = S.1.2) (fun i j T hT => ⟨(smF_o ho).1.trans hT.1, (smF_o ho).2.trans hT.2⟩) j S ⟨rfl, rfl⟩
theorem smI_o {m i j : Nat} {S : St × Int32} {o : Nat} (ho : o ≠ 25) : (pI (smF m) j i S).1.1 o = S.1.1 o ∧ (pI (smF m) j i S).1.2 = S.1.2 :=
  pI_inv (fun T => T.1.1 o = S.1.1 o ∧ T.1.2 = S.1.2) (fun i T hT => ⟨(smF_o ho).1.trans hT.1, (smF_o ho).2.trans hT.2⟩) i S ⟨rfl, rfl⟩
set_option maxHeartbeats 4000000 in
set_option maxRecDepth 40000 in
theorem k_M_shade {l : Launch} {h : Nat} {S : St} {c r m w g : Nat} (hc : S.1 21 9 = nI c) (hr : S.1 21 10 = nI r) (hc2 : c ≤ 16) (hr2 : r ≤ 16) (hw : S.1 21 1 = nI w) (hg : S.1 21 2 = nI g) (hw2 : w ≤ 32) (hg2 : g ≤ 32) (hm : S.1 21 7 = nI (m + 1)) (hm2 : m < 64) : KK l (SHm h) (3, 71) m_M_shade [aR 21] S (ans (some (aI (smM S c r m).2)) (smM S c r m).1) := by
  refine k_start ok_M_shade (Nat.le_of_ble_eq_true rfl) ?_
  have h0 : ∀ k, k ≠ 0 → (puI S 21 0 0).1 21 k = S.1 21 k := fun k hk => by simp [puI, pt, upd, hk]
  have hrow : ∀ j, (pO (smF m) c j (puI S 21 0 0, 0)).1.1 21 10 = nI r := fun j => by rw [(smO_o (by decide)).1]; exact (h0 10 (by decide)).trans hr
  have hcol : ∀ j i, (pI (smF m) j i (pO (smF m) c j (puI S 21 0 0, 0))).1.1 21 9 = nI c := fun j i => by rw [(smI_o (by decide)).1, (smO_o (by decide)).1]; exact (h0 9 (by decide)).trans hc
  have hf : ∀ j i k, k ≠ 0 → (pI (smF m) j i (pO (smF m) c j (puI S 21 0 0, 0))).1.1 21 k = S.1 21 k := fun j i k hk => by rw [(smI_o (by decide)).1, (smO_o (by decide)).1]; exact h0 k hk
  have L1 := e_for (P := fun j => ∀ z3 z4, E0 l (SHm h) (3, 71) m_M_shade 9 [some (aR 21), some (aI (pO (smF m) c j (puI S 21 0 0, 0)).2), some (aI (nI j)), z3, z4] [] ((pO (smF m) c j (puI S 21 0 0, 0)).1) (ans (some (aI (smM S c r m).2)) (smM S c r m).1)) (r) (by
      intro z3 z4
      iterate 3 refine e_sp rfl rfl rfl ?_
      refine e_icge rfl (fun h1 => ?_) (fun h1 => ?_)
      · iterate 1 refine e_sp rfl rfl rfl ?_
        refine e_iret rfl rfl (Nat.le_refl _) (Nat.le_refl _) ?_
        exact ⟨rfl, rfl⟩
      · try dsimp only
        rw [hrow] at h1
        exact absurd (nI_le (Nat.le_refl _) (by omega)) h1) (fun j hj ihj => by
      intro z3 z4
      iterate 3 refine e_sp rfl rfl rfl ?_
      refine e_icge rfl (fun h1 => ?_) (fun h1 => ?_)
      · try dsimp only
        rw [hrow] at h1
        exact absurd h1 (nI_ge hj (by omega))
      · refine e_ci 0 rfl rfl ?_
        iterate 1 refine e_sp rfl rfl rfl ?_
        try dsimp only
        have L2 := e_for (P := fun i => ∀ z4, E0 l (SHm h) (3, 71) m_M_shade 19 [some (aR 21), some (aI (pI (smF m) j i (pO (smF m) c j (puI S 21 0 0, 0))).2), some (aI (nI j)), some (aI (nI i)), z4] [] ((pI (smF m) j i (pO (smF m) c j (puI S 21 0 0, 0))).1) (ans (some (aI (smM S c r m).2)) (smM S c r m).1)) (c) (by
            intro z4
            iterate 3 refine e_sp rfl rfl rfl ?_
            refine e_icge rfl (fun h1 => ?_) (fun h1 => ?_)
            · refine e_inc 1 rfl rfl rfl rfl ?_
              refine e_goto rfl ?_
              try dsimp only
              rw [nI_1]
              exact ihj _ _
            · try dsimp only
              rw [hcol] at h1
              exact absurd (nI_le (Nat.le_refl _) (by omega)) h1) (fun i hi ihi => by
            intro z4
            iterate 3 refine e_sp rfl rfl rfl ?_
            refine e_icge rfl (fun h1 => ?_) (fun h1 => ?_)
            · try dsimp only
              rw [hcol] at h1
              exact absurd h1 (nI_ge hi (by omega))
            · iterate 4 refine e_sp rfl rfl rfl ?_
              refine e_callV1 ok_M_countAt rfl lk_M_147 (by rfl) (by rfl) (k_M_countAt ((hf j i 1 (by decide)).trans hw) ((hf j i 2 (by decide)).trans hg) hw2 hg2) rfl rfl ⟨Nat.le_of_ble_eq_true rfl, Nat.le_of_ble_eq_true rfl⟩ ⟨Nat.zero_le _, Nat.zero_le _⟩ (Nat.le_of_ble_eq_true rfl) ?_
              refine e_callV1 ok_M_nearest rfl lk_M_153 (by rfl) (by rfl) (k_M_nearest ((hf j i 7 (by decide)).trans hm) hm2) rfl rfl ⟨Nat.le_of_ble_eq_true rfl, Nat.le_of_ble_eq_true rfl⟩ ⟨Nat.zero_le _, Nat.zero_le _⟩ (Nat.le_of_ble_eq_true rfl) ?_
              iterate 4 refine e_sp rfl rfl rfl ?_
              refine e_cb 16 rfl rfl ?_
              iterate 4 refine e_sp rfl rfl rfl ?_
              try dsimp only
              rw [ix16]
              refine e_iald rfl (by first | rfl | assumption) (by exact vp_in_nI (show 16 * j + i < 256 by omega) (by decide)) ?_
              rw [nI_clamp (by omega)]
              iterate 1 refine e_sp rfl rfl rfl ?_
              refine e_iceq rfl (fun h2 => ?_) (fun h2 => ?_)
              · refine e_ci 0 rfl rfl ?_
                iterate 4 refine e_sp rfl rfl rfl ?_
                refine e_cb 16 rfl rfl ?_
                iterate 5 refine e_sp rfl rfl rfl ?_
                try dsimp only
                rw [ix16]
                refine e_iast rfl (by first | rfl | assumption) (by exact vp_in_nI (show 16 * j + i < 256 by omega) (by decide)) ?_
                rw [nI_clamp (by omega)]
                refine e_inc 1 rfl rfl rfl rfl ?_
                refine e_goto rfl ?_
                try dsimp only
                rw [nI_1]
                simp only [pI] at ihi
                rw [smF] at ihi
                (first | rw [if_pos h2] at ihi | rw [if_neg h2] at ihi)
                exact ihi _
              · refine e_ci 1 rfl rfl ?_
                refine e_goto rfl ?_
                iterate 4 refine e_sp rfl rfl rfl ?_
                refine e_cb 16 rfl rfl ?_
                iterate 5 refine e_sp rfl rfl rfl ?_
                try dsimp only
                rw [ix16]
                refine e_iast rfl (by first | rfl | assumption) (by exact vp_in_nI (show 16 * j + i < 256 by omega) (by decide)) ?_
                rw [nI_clamp (by omega)]
                refine e_inc 1 rfl rfl rfl rfl ?_
                refine e_goto rfl ?_
                try dsimp only
                rw [nI_1]
                simp only [pI] at ihi
                rw [smF] at ihi
                (first | rw [if_pos h2] at ihi | rw [if_neg h2] at ihi)
                exact ihi _)
        exact L2 _)
  iterate 1 refine e_sp rfl rfl rfl ?_
  refine e_ci 0 rfl rfl ?_
  iterate 1 refine e_sp rfl rfl rfl ?_
  refine e_ci 0 rfl rfl ?_
  iterate 1 refine e_sp rfl rfl rfl ?_
  refine e_ci 0 rfl rfl ?_
  iterate 1 refine e_sp rfl rfl rfl ?_
  try dsimp only
  exact L1 _ _
/-! both, layPattern, compose -/
def boM (o a b : Int32) : Int32 := if o = 0 then (if a = 0 then (if b = 0 then 0 else 1) else 1) else if o = 1 then (if a = 0 then 0 else if b = 0 then 0 else 1) else if o = 2 then (if a = b then 0 else 1) else if o = 3 then (if a = b then 1 else 0) else b
set_option maxHeartbeats 4000000 in
set_option maxRecDepth 40000 in
theorem k_M_both {l : Launch} {h : Nat} {S : St} {a b : Int32} (hb : b = 0 ∨ b = 1) : KK l (SHm h) (0, 0) m_M_both [aR 21, aI a, aI b] S (ans (some (aI (boM (S.1 21 16) a b))) S) := by
  refine k_start ok_M_both (Nat.le_of_ble_eq_true rfl) ?_
  iterate 2 refine e_sp rfl rfl rfl ?_
  by_cases h0 : S.1 21 16 = 0
  · rw [h0]
    refine e_tswI (off := 32) (tgt := 36) rfl (by decide) (by decide) (by decide) (by decide) ?_
    iterate 1 refine e_sp rfl rfl rfl ?_
    refine e_ifne rfl (fun h5 => ?_) (fun h5 => ?_)
    · refine e_ci 1 rfl rfl ?_
      refine e_goto rfl ?_
      refine e_zret rfl rfl (Nat.le_refl _) (Nat.le_refl _) (by decide) ?_
      exact ⟨by simp [boM, h5], rfl⟩
    · iterate 1 refine e_sp rfl rfl rfl ?_
      refine e_ifeq rfl (fun h6 => ?_) (fun h6 => ?_)
      · refine e_ci 0 rfl rfl ?_
        refine e_zret rfl rfl (Nat.le_refl _) (Nat.le_refl _) (by decide) ?_
        exact ⟨by simp [boM, h5, h6], rfl⟩
      · refine e_ci 1 rfl rfl ?_
        refine e_goto rfl ?_
        refine e_zret rfl rfl (Nat.le_refl _) (Nat.le_refl _) (by decide) ?_
        exact ⟨by simp [boM, h5, h6], rfl⟩
  by_cases h1 : S.1 21 16 = 1
  · rw [h1]
    refine e_tswI (off := 46) (tgt := 50) rfl (by decide) (by decide) (by decide) (by decide) ?_
    iterate 1 refine e_sp rfl rfl rfl ?_
    refine e_ifeq rfl (fun h5 => ?_) (fun h5 => ?_)
    · refine e_ci 0 rfl rfl ?_
      refine e_zret rfl rfl (Nat.le_refl _) (Nat.le_refl _) (by decide) ?_
      exact ⟨by simp [boM, h5], rfl⟩
    · iterate 1 refine e_sp rfl rfl rfl ?_
      refine e_ifeq rfl (fun h6 => ?_) (fun h6 => ?_)
      · refine e_ci 0 rfl rfl ?_
        refine e_zret rfl rfl (Nat.le_refl _) (Nat.le_refl _) (by decide) ?_
        exact ⟨by simp [boM, h5, h6], rfl⟩
      · refine e_ci 1 rfl rfl ?_
        refine e_goto rfl ?_
        refine e_zret rfl rfl (Nat.le_refl _) (Nat.le_refl _) (by decide) ?_
        exact ⟨by simp [boM, h5, h6], rfl⟩
  by_cases h2 : S.1 21 16 = 2
  · rw [h2]
    refine e_tswI (off := 60) (tgt := 64) rfl (by decide) (by decide) (by decide) (by decide) ?_
    iterate 2 refine e_sp rfl rfl rfl ?_
    refine e_iceq rfl (fun h5 => ?_) (fun h5 => ?_)
    · refine e_ci 0 rfl rfl ?_
      refine e_zret rfl rfl (Nat.le_refl _) (Nat.le_refl _) (by decide) ?_
      exact ⟨by simp [boM, h5], rfl⟩
    · refine e_ci 1 rfl rfl ?_
      refine e_goto rfl ?_
      refine e_zret rfl rfl (Nat.le_refl _) (Nat.le_refl _) (by decide) ?_
      exact ⟨by simp [boM, h5], rfl⟩
  by_cases h3 : S.1 21 16 = 3
  · rw [h3]
    refine e_tswI (off := 71) (tgt := 75) rfl (by decide) (by decide) (by decide) (by decide) ?_
    iterate 2 refine e_sp rfl rfl rfl ?_
    refine e_icne rfl (fun h5 => ?_) (fun h5 => ?_)
    · refine e_ci 0 rfl rfl ?_
      refine e_zret rfl rfl (Nat.le_refl _) (Nat.le_refl _) (by decide) ?_
      exact ⟨by simp [boM, h5], rfl⟩
    · refine e_ci 1 rfl rfl ?_
      refine e_goto rfl ?_
      refine e_zret rfl rfl (Nat.le_refl _) (Nat.le_refl _) (by decide) ?_
      exact ⟨by simp [boM, h5], rfl⟩
  have hn : ∀ k : Int32, ¬ S.1 21 16 = k → (S.1 21 16).toInt ≠ k.toInt := fun k hk e => hk (Int32.toInt_inj.mp e)
  have g0 := hn 0 h0
  rw [show (0 : Int32).toInt = 0 from rfl] at g0
  have g1 := hn 1 h1
  rw [show (1 : Int32).toInt = 1 from rfl] at g1
  have g2 := hn 2 h2
  rw [show (2 : Int32).toInt = 2 from rfl] at g2
  have g3 := hn 3 h3
  rw [show (3 : Int32).toInt = 3 from rfl] at g3
  refine e_tswO (tgt := 86) rfl (by omega) (by decide) ?_
  iterate 1 refine e_sp rfl rfl rfl ?_
  refine e_zret rfl rfl (Nat.le_refl _) (Nat.le_refl _) (by exact hb) ?_
  exact ⟨by rw [boM, if_neg h0, if_neg h1, if_neg h2, if_neg h3], rfl⟩
def lmI (T : St) (i j : Int32) (u v : Nat) : Nat := (32 * (yM T i j + nI v) + (xM T i j + nI u)).toNatClampNeg
def lmF (i j : Int32) (k u v : Nat) (T : St) : St := if hsM T (xM T i j + nI u) (yM T i j + nI v) = 0 then T else puI T 23 (lmI T i j u v) (vp_nar .boolean (boM (T.1 21 16) (T.1 23 (lmI T i j u v)) (T.1 24 (64 * k + 8 * v + u))))
def lmM (S : St) (i j : Int32) (k w g : Nat) : St := pO (lmF i j k) w g S
theorem lmF_o {i j : Int32} {k u v : Nat} {T : St} {o : Nat} (h : o ≠ 23) : (lmF i j k u v T).1 o = T.1 o ∧ (lmF i j k u v T).2 = T.2 := by
  unfold lmF
  split
  · exact ⟨rfl, rfl⟩
  · exact ⟨puI_o h, rfl⟩
theorem lmO_o {i j : Int32} {k w v : Nat} {S : St} {o : Nat} (ho : o ≠ 23) : (pO (lmF i j k) w v S).1 o = S.1 o ∧ (pO (lmF i j k) w v S).2 = S.2 :=
  pO_inv (fun T => T.1 o = S.1 o ∧ T.2 = S.2) (fun u v T hT => ⟨(lmF_o ho).1.trans hT.1, (lmF_o ho).2.trans hT.2⟩) v S ⟨rfl, rfl⟩
theorem lmI_o {i j : Int32} {k u v : Nat} {S : St} {o : Nat} (ho : o ≠ 23) : (pI (lmF i j k) v u S).1 o = S.1 o ∧ (pI (lmF i j k) v u S).2 = S.2 :=
  pI_inv (fun T => T.1 o = S.1 o ∧ T.2 = S.2) (fun u T hT => ⟨(lmF_o ho).1.trans hT.1, (lmF_o ho).2.trans hT.2⟩) u S ⟨rfl, rfl⟩
theorem hsM_01 (S : St) (x y : Int32) : hsM S x y = 0 ∨ hsM S x y = 1 := by
  unfold hsM
  split
  · exact Or.inl rfl
  · split
    · exact Or.inl rfl
    · exact Or.inr rfl
set_option maxHeartbeats 4000000 in
set_option maxRecDepth 40000 in
theorem k_M_layPattern {l : Launch} {h : Nat} {S : St} {a b k w g pw ph : Nat} (hw : S.1 21 1 = nI w) (hg : S.1 21 2 = nI g) (hw2 : w ≤ 32) (hg2 : g ≤ 32) (hpw : S.1 21 5 = nI pw) (hph : S.1 21 6 = nI ph) (hpw2 : pw ≤ 8) (hph2 : ph ≤ 8) (ha : a < 16) (hb : b < 16) (hk : S.1 25 (16 * b + a) = nI k) (hk2 : k < 64) (hcell : ∀ n, S.1 24 n = 0 ∨ S.1 24 n = 1) : KK l (SHm h) (2, 44) m_M_layPattern [aR 21, aI (nI a), aI (nI b)] S (ans none (lmM S (nI a) (nI b) k pw ph)) := by
  refine k_start ok_M_layPattern (Nat.le_of_ble_eq_true rfl) ?_
  generalize hi : nI a = i
  generalize hj : nI b = j
  have hrow : ∀ v, (pO (lmF i j k) pw v S).1 21 6 = nI ph := fun v => by rw [(lmO_o (by decide)).1]; exact hph
  have hcol : ∀ v u, (pI (lmF i j k) v u (pO (lmF i j k) pw v S)).1 21 5 = nI pw := fun v u => by rw [(lmI_o (by decide)).1, (lmO_o (by decide)).1]; exact hpw
  have hf : ∀ v u n, (pI (lmF i j k) v u (pO (lmF i j k) pw v S)).1 21 n = S.1 21 n := fun v u n => by rw [(lmI_o (by decide)).1, (lmO_o (by decide)).1]
  have L1 := e_for (P := fun v => ∀ z5 z6 z7, E0 l (SHm h) (2, 44) m_M_layPattern 15 [some (aR 21), some (aI i), some (aI j), some (aI (nI k)), some (aI (nI v)), z5, z6, z7] [] (pO (lmF i j k) pw v S) (ans none (lmM S i j k pw ph))) (ph) (by
      intro z5 z6 z7
      iterate 3 refine e_sp rfl rfl rfl ?_
      refine e_icge rfl (fun h1 => ?_) (fun h1 => ?_)
      · refine e_vret rfl rfl (Nat.le_refl _) (Nat.le_refl _) ?_
        exact ⟨rfl, rfl⟩
      · try dsimp only
        rw [hrow] at h1
        exact absurd (nI_le (Nat.le_refl _) (by omega)) h1) (fun v hv ihv => by
      intro z5 z6 z7
      iterate 3 refine e_sp rfl rfl rfl ?_
      refine e_icge rfl (fun h1 => ?_) (fun h1 => ?_)
      · try dsimp only
        rw [hrow] at h1
        exact absurd h1 (nI_ge hv (by omega))
      · refine e_ci 0 rfl rfl ?_
        iterate 1 refine e_sp rfl rfl rfl ?_
        try dsimp only
        have L2 := e_for (P := fun u => ∀ z6 z7, E0 l (SHm h) (2, 44) m_M_layPattern 27 [some (aR 21), some (aI i), some (aI j), some (aI (nI k)), some (aI (nI v)), some (aI (nI u)), z6, z7] [] (pI (lmF i j k) v u (pO (lmF i j k) pw v S)) (ans none (lmM S i j k pw ph))) (pw) (by
            intro z6 z7
            iterate 3 refine e_sp rfl rfl rfl ?_
            refine e_icge rfl (fun h1 => ?_) (fun h1 => ?_)
            · refine e_inc 1 rfl rfl rfl rfl ?_
              refine e_goto rfl ?_
              try dsimp only
              rw [nI_1]
              exact ihv _ _ _
            · try dsimp only
              rw [hcol] at h1
              exact absurd (nI_le (Nat.le_refl _) (by omega)) h1) (fun u hu ihu => by
            intro z6 z7
            iterate 3 refine e_sp rfl rfl rfl ?_
            refine e_icge rfl (fun h1 => ?_) (fun h1 => ?_)
            · try dsimp only
              rw [hcol] at h1
              exact absurd h1 (nI_ge hu (by omega))
            · iterate 3 refine e_sp rfl rfl rfl ?_
              refine e_callV1 ok_M_xOf rfl lk_M_129 (by rfl) (by rfl) k_M_xOf rfl rfl ⟨Nat.le_of_ble_eq_true rfl, Nat.le_of_ble_eq_true rfl⟩ ⟨Nat.zero_le _, Nat.zero_le _⟩ (Nat.le_of_ble_eq_true rfl) ?_
              iterate 6 refine e_sp rfl rfl rfl ?_
              refine e_callV1 ok_M_yOf rfl lk_M_132 (by rfl) (by rfl) k_M_yOf rfl rfl ⟨Nat.le_of_ble_eq_true rfl, Nat.le_of_ble_eq_true rfl⟩ ⟨Nat.zero_le _, Nat.zero_le _⟩ (Nat.le_of_ble_eq_true rfl) ?_
              iterate 6 refine e_sp rfl rfl rfl ?_
              refine e_callV1 ok_M_hasSample rfl lk_M_144 (by rfl) (by rfl) k_M_hasSample rfl rfl ⟨Nat.le_of_ble_eq_true rfl, Nat.le_of_ble_eq_true rfl⟩ ⟨Nat.zero_le _, Nat.zero_le _⟩ (Nat.le_of_ble_eq_true rfl) ?_
              refine e_ifeq rfl (fun h2 => ?_) (fun h2 => ?_)
              · refine e_inc 1 rfl rfl rfl rfl ?_
                refine e_goto rfl ?_
                try dsimp only
                rw [nI_1]
                simp only [pI] at ihu
                rw [lmF] at ihu
                (first | rw [if_pos h2] at ihu | rw [if_neg h2] at ihu)
                exact ihu _ _
              · iterate 2 refine e_sp rfl rfl rfl ?_
                refine e_cb 32 rfl rfl ?_
                iterate 7 refine e_sp rfl rfl rfl ?_
                refine e_cb 32 rfl rfl ?_
                iterate 4 refine e_sp rfl rfl rfl ?_
                refine e_zald rfl (by first | rfl | assumption) (by exact hsM_in ((hf v u 1).trans hw) ((hf v u 2).trans hg) hw2 hg2 (by assumption)) ?_
                iterate 2 refine e_sp rfl rfl rfl ?_
                refine e_cb 64 rfl rfl ?_
                iterate 2 refine e_sp rfl rfl rfl ?_
                refine e_cb 8 rfl rfl ?_
                iterate 5 refine e_sp rfl rfl rfl ?_
                try dsimp only
                rw [ix64]
                refine e_zald rfl (by first | rfl | assumption) (by exact vp_in_nI (show 64 * k + 8 * v + u < 4096 by omega) (by decide)) ?_
                rw [nI_clamp (show 64 * k + 8 * v + u < 2 ^ 31 by omega)]
                refine e_callV1 ok_M_both rfl lk_M_156 (by rfl) (by rfl) (k_M_both (by rw [(lmI_o (by decide)).1, (lmO_o (by decide)).1]; exact hcell _)) rfl rfl ⟨Nat.le_of_ble_eq_true rfl, Nat.le_of_ble_eq_true rfl⟩ ⟨Nat.zero_le _, Nat.zero_le _⟩ (Nat.le_of_ble_eq_true rfl) ?_
                refine e_zast rfl (by first | rfl | assumption) (by exact hsM_in ((hf v u 1).trans hw) ((hf v u 2).trans hg) hw2 hg2 (by assumption)) ?_
                refine e_inc 1 rfl rfl rfl rfl ?_
                refine e_goto rfl ?_
                try dsimp only
                rw [nI_1]
                simp only [pI] at ihu
                rw [lmF] at ihu
                (first | rw [if_pos h2] at ihu | rw [if_neg h2] at ihu)
                exact ihu _ _)
        exact L2 _ _)
  subst hi
  subst hj
  iterate 2 refine e_sp rfl rfl rfl ?_
  refine e_cb 16 rfl rfl ?_
  iterate 4 refine e_sp rfl rfl rfl ?_
  try dsimp only
  rw [ix16]
  refine e_iald rfl (by first | rfl | assumption) (by exact vp_in_nI (show 16 * b + a < 256 by omega) (by decide)) ?_
  rw [nI_clamp (by omega), hk]
  iterate 1 refine e_sp rfl rfl rfl ?_
  refine e_ci 0 rfl rfl ?_
  iterate 1 refine e_sp rfl rfl rfl ?_
  try dsimp only
  exact L1 _ _ _
def c0F (i : Nat) (T : St) : St := puI T 23 i (vp_nar .boolean (if T.1 21 17 = 1 then (if T.1 21 1 ≤ nI (i % 32) then 0 else if T.1 21 2 ≤ nI (i / 32) then 0 else 1) else 0))
def c0M (S : St) : St := nF c0F 1024 (puI S 21 0 0)
theorem c0N_o {S : St} {o : Nat} (h : o ≠ 23) (i : Nat) : (nF c0F i S).1 o = S.1 o ∧ (nF c0F i S).2 = S.2 :=
  nF_inv (f := c0F) (fun T => T.1 o = S.1 o ∧ T.2 = S.2) (fun i T hT => ⟨(puI_o h).trans hT.1, hT.2⟩) i S ⟨rfl, rfl⟩
def cpF (pw ph i j : Nat) (T : St) : St := lmM T (nI i) (nI j) (T.1 25 (16 * j + i)).toNatClampNeg pw ph
def cpM (T : St) (pw ph c r : Nat) : St := pO (cpF pw ph) c r T
theorem cpF_o {pw ph i j : Nat} {T : St} {o : Nat} (h : o ≠ 23) : (cpF pw ph i j T).1 o = T.1 o ∧ (cpF pw ph i j T).2 = T.2 := lmO_o h
theorem cpO_o {pw ph c j : Nat} {S : St} {o : Nat} (ho : o ≠ 23) : (pO (cpF pw ph) c j S).1 o = S.1 o ∧ (pO (cpF pw ph) c j S).2 = S.2 :=
  pO_inv (fun T => T.1 o = S.1 o ∧ T.2 = S.2) (fun i j T hT => ⟨(cpF_o ho).1.trans hT.1, (cpF_o ho).2.trans hT.2⟩) j S ⟨rfl, rfl⟩
theorem cpI_o {pw ph i j : Nat} {S : St} {o : Nat} (ho : o ≠ 23) : (pI (cpF pw ph) j i S).1 o = S.1 o ∧ (pI (cpF pw ph) j i S).2 = S.2 :=
  pI_inv (fun T => T.1 o = S.1 o ∧ T.2 = S.2) (fun i T hT => ⟨(cpF_o ho).1.trans hT.1, (cpF_o ho).2.trans hT.2⟩) i S ⟨rfl, rfl⟩
set_option maxHeartbeats 4000000 in
set_option maxRecDepth 40000 in
theorem k_M_compose {l : Launch} {h : Nat} {S : St} {c r w g pw ph : Nat} (hc : S.1 21 9 = nI c) (hr : S.1 21 10 = nI r) (hc2 : c ≤ 16) (hr2 : r ≤ 16) (hw : S.1 21 1 = nI w) (hg : S.1 21 2 = nI g) (hw2 : w ≤ 32) (hg2 : g ≤ 32) (hpw : S.1 21 5 = nI pw) (hph : S.1 21 6 = nI ph) (hpw2 : pw ≤ 8) (hph2 : ph ≤ 8) (hgr : ∀ n, n < 256 → ∃ k, k < 64 ∧ S.1 25 n = nI k) (hcell : ∀ n, S.1 24 n = 0 ∨ S.1 24 n = 1) : KK l (SHm h) (3, 71) m_M_compose [aR 21] S (ans (some (aI (daM (cpM (c0M S) pw ph c r) 23))) (cpM (c0M S) pw ph c r)) := by
  refine k_start ok_M_compose (Nat.le_of_ble_eq_true rfl) ?_
  have h0 : ∀ k, k ≠ 0 → (c0M S).1 21 k = S.1 21 k := fun k hk => by rw [c0M, (c0N_o (by decide) _).1]; simp [puI, pt, upd, hk]
  have h1 : ∀ o, o ≠ 21 → o ≠ 23 → (c0M S).1 o = S.1 o := fun o ho ho2 => by rw [c0M, (c0N_o ho2 _).1, puI_o ho]
  have hrow : ∀ j, (pO (cpF pw ph) c j (c0M S)).1 21 10 = nI r := fun j => by rw [(cpO_o (by decide)).1]; exact (h0 10 (by decide)).trans hr
  have hcol : ∀ j i, (pI (cpF pw ph) j i (pO (cpF pw ph) c j (c0M S))).1 21 9 = nI c := fun j i => by rw [(cpI_o (by decide)).1, (cpO_o (by decide)).1]; exact (h0 9 (by decide)).trans hc
  have hf : ∀ j i k, k ≠ 0 → (pI (cpF pw ph) j i (pO (cpF pw ph) c j (c0M S))).1 21 k = S.1 21 k := fun j i k hk => by rw [(cpI_o (by decide)).1, (cpO_o (by decide)).1]; exact h0 k hk
  have hcl : ∀ j i n, (pI (cpF pw ph) j i (pO (cpF pw ph) c j (c0M S))).1 24 n = 0 ∨ (pI (cpF pw ph) j i (pO (cpF pw ph) c j (c0M S))).1 24 n = 1 := fun j i n => by rw [(cpI_o (by decide)).1, (cpO_o (by decide)).1, h1 24 (by decide) (by decide)]; exact hcell n
  have hgq : ∀ j i n, n < 256 → (pI (cpF pw ph) j i (pO (cpF pw ph) c j (c0M S))).1 25 n = nI ((pI (cpF pw ph) j i (pO (cpF pw ph) c j (c0M S))).1 25 n).toNatClampNeg ∧ ((pI (cpF pw ph) j i (pO (cpF pw ph) c j (c0M S))).1 25 n).toNatClampNeg < 64 := fun j i n hn => by
    rw [(cpI_o (by decide)).1, (cpO_o (by decide)).1, h1 25 (by decide) (by decide)]
    obtain ⟨k, hk, e⟩ := hgr n hn
    rw [e, nI_clamp (by omega)]
    exact ⟨rfl, hk⟩
  have L1 := e_for (P := fun j => ∀ z2, E0 l (SHm h) (3, 71) m_M_compose 63 [some (aR 21), some (aI (nI j)), z2] [] (pO (cpF pw ph) c j (c0M S)) (ans (some (aI (daM (cpM (c0M S) pw ph c r) 23))) (cpM (c0M S) pw ph c r))) (r) (by
      intro z2
      iterate 3 refine e_sp rfl rfl rfl ?_
      refine e_icge rfl (fun h1 => ?_) (fun h1 => ?_)
      · iterate 2 refine e_sp rfl rfl rfl ?_
        refine e_callS1 ok_M_dark rfl lk_M_164 (k_M_dark (by rfl)) rfl rfl ⟨Nat.le_of_ble_eq_true rfl, Nat.le_of_ble_eq_true rfl⟩ ⟨Nat.zero_le _, Nat.zero_le _⟩ (Nat.le_of_ble_eq_true rfl) ?_
        refine e_iret rfl rfl (Nat.le_refl _) (Nat.le_refl _) ?_
        exact ⟨rfl, rfl⟩
      · try dsimp only
        rw [hrow] at h1
        exact absurd (nI_le (Nat.le_refl _) (by omega)) h1) (fun j hj ihj => by
      intro z2
      iterate 3 refine e_sp rfl rfl rfl ?_
      refine e_icge rfl (fun h1 => ?_) (fun h1 => ?_)
      · try dsimp only
        rw [hrow] at h1
        exact absurd h1 (nI_ge hj (by omega))
      · refine e_ci 0 rfl rfl ?_
        iterate 1 refine e_sp rfl rfl rfl ?_
        try dsimp only
        have L2 := e_for (P := fun i => E0 l (SHm h) (3, 71) m_M_compose 73 [some (aR 21), some (aI (nI j)), some (aI (nI i))] [] (pI (cpF pw ph) j i (pO (cpF pw ph) c j (c0M S))) (ans (some (aI (daM (cpM (c0M S) pw ph c r) 23))) (cpM (c0M S) pw ph c r))) (c) (by
            iterate 3 refine e_sp rfl rfl rfl ?_
            refine e_icge rfl (fun h1 => ?_) (fun h1 => ?_)
            · refine e_inc 1 rfl rfl rfl rfl ?_
              refine e_goto rfl ?_
              try dsimp only
              rw [nI_1]
              exact ihj _
            · try dsimp only
              rw [hcol] at h1
              exact absurd (nI_le (Nat.le_refl _) (by omega)) h1) (fun i hi ihi => by
            iterate 3 refine e_sp rfl rfl rfl ?_
            refine e_icge rfl (fun h1 => ?_) (fun h1 => ?_)
            · try dsimp only
              rw [hcol] at h1
              exact absurd h1 (nI_ge hi (by omega))
            · iterate 3 refine e_sp rfl rfl rfl ?_
              refine e_callV0 ok_M_layPattern rfl lk_M_160 (by rfl) (by rfl) (k_M_layPattern (k := ((pI (cpF pw ph) j i (pO (cpF pw ph) c j (c0M S))).1 25 (16 * j + i)).toNatClampNeg) ((hf j i 1 (by decide)).trans hw) ((hf j i 2 (by decide)).trans hg) hw2 hg2 ((hf j i 5 (by decide)).trans hpw) ((hf j i 6 (by decide)).trans hph) hpw2 hph2 (by omega) (by omega) (hgq j i (16 * j + i) (by omega)).1 (hgq j i (16 * j + i) (by omega)).2 (hcl j i)) rfl rfl ⟨Nat.le_of_ble_eq_true rfl, Nat.le_of_ble_eq_true rfl⟩ ⟨Nat.zero_le _, Nat.zero_le _⟩ (Nat.le_of_ble_eq_true rfl) ?_
              refine e_inc 1 rfl rfl rfl rfl ?_
              refine e_goto rfl ?_
              try dsimp only
              rw [nI_1]
              exact ihi)
        exact L2)
  have L0 := e_for (P := fun k => E0 l (SHm h) (3, 71) m_M_compose 7 [some (aR 21), some (aI (nI k)), none] [] (nF c0F k (puI S 21 0 0)) (ans (some (aI (daM (cpM (c0M S) pw ph c r) 23))) (cpM (c0M S) pw ph c r))) (1024) (by
      iterate 1 refine e_sp rfl rfl rfl ?_
      refine e_cs 1024 rfl rfl ?_
      refine e_icge rfl (fun h1 => ?_) (fun h1 => ?_)
      · refine e_ci 0 rfl rfl ?_
        iterate 1 refine e_sp rfl rfl rfl ?_
        try dsimp only
        exact L1 none
      · try dsimp only
        exact absurd (nI_le (Nat.le_refl _) (by decide)) h1) (fun k hk ihk => by
      iterate 1 refine e_sp rfl rfl rfl ?_
      refine e_cs 1024 rfl rfl ?_
      refine e_icge rfl (fun h1 => ?_) (fun h1 => ?_)
      · try dsimp only
        exact absurd h1 (nI_ge hk (by decide))
      · iterate 5 refine e_sp rfl rfl rfl ?_
        refine e_ci 1 rfl rfl ?_
        refine e_icne rfl (fun h2 => ?_) (fun h2 => ?_)
        · refine e_ci 0 rfl rfl ?_
          refine e_zast rfl (by first | rfl | assumption) (by exact vp_in_nI hk (by decide)) ?_
          rw [nI_clamp (by omega)]
          refine e_inc 1 rfl rfl rfl rfl ?_
          refine e_goto rfl ?_
          try dsimp only
          rw [nI_1]
          simp only [nF] at ihk
          rw [c0F] at ihk
          (first | rw [if_pos h2] at ihk | rw [if_neg h2] at ihk)
          exact ihk
        · iterate 1 refine e_sp rfl rfl rfl ?_
          refine e_cb 32 rfl rfl ?_
          refine e_rem rfl (by decide) ?_
          rw [show (32 : Int32) = nI 32 from rfl, rmd 32 (by omega) (by decide) (by decide)]
          iterate 2 refine e_sp rfl rfl rfl ?_
          refine e_icge rfl (fun h3 => ?_) (fun h3 => ?_)
          · refine e_ci 0 rfl rfl ?_
            refine e_zast rfl (by first | rfl | assumption) (by exact vp_in_nI hk (by decide)) ?_
            rw [nI_clamp (by omega)]
            refine e_inc 1 rfl rfl rfl rfl ?_
            refine e_goto rfl ?_
            try dsimp only
            rw [nI_1]
            simp only [nF] at ihk
            rw [c0F] at ihk
            (first | rw [if_pos h2] at ihk | rw [if_neg h2] at ihk)
            (first | rw [if_pos h3] at ihk | rw [if_neg h3] at ihk)
            exact ihk
          · iterate 1 refine e_sp rfl rfl rfl ?_
            refine e_cb 32 rfl rfl ?_
            refine e_div rfl (by decide) ?_
            rw [show (32 : Int32) = nI 32 from rfl, dvd9 32 (by omega) (by decide) (by decide)]
            iterate 2 refine e_sp rfl rfl rfl ?_
            refine e_icge rfl (fun h4 => ?_) (fun h4 => ?_)
            · refine e_ci 0 rfl rfl ?_
              refine e_zast rfl (by first | rfl | assumption) (by exact vp_in_nI hk (by decide)) ?_
              rw [nI_clamp (by omega)]
              refine e_inc 1 rfl rfl rfl rfl ?_
              refine e_goto rfl ?_
              try dsimp only
              rw [nI_1]
              simp only [nF] at ihk
              rw [c0F] at ihk
              (first | rw [if_pos h2] at ihk | rw [if_neg h2] at ihk)
              (first | rw [if_pos h3] at ihk | rw [if_neg h3] at ihk)
              (first | rw [if_pos h4] at ihk | rw [if_neg h4] at ihk)
              exact ihk
            · refine e_ci 1 rfl rfl ?_
              refine e_goto rfl ?_
              refine e_zast rfl (by first | rfl | assumption) (by exact vp_in_nI hk (by decide)) ?_
              rw [nI_clamp (by omega)]
              refine e_inc 1 rfl rfl rfl rfl ?_
              refine e_goto rfl ?_
              try dsimp only
              rw [nI_1]
              simp only [nF] at ihk
              rw [c0F] at ihk
              (first | rw [if_pos h2] at ihk | rw [if_neg h2] at ihk)
              (first | rw [if_pos h3] at ihk | rw [if_neg h3] at ihk)
              (first | rw [if_pos h4] at ihk | rw [if_neg h4] at ihk)
              exact ihk)
  iterate 1 refine e_sp rfl rfl rfl ?_
  refine e_ci 0 rfl rfl ?_
  iterate 1 refine e_sp rfl rfl rfl ?_
  refine e_ci 0 rfl rfl ?_
  iterate 1 refine e_sp rfl rfl rfl ?_
  try dsimp only
  exact L0
/-! ordered -/
def rkF (n c e r : Nat) : Nat := if keM (nI (c % n)) (nI (c / n)) ≤ keM (nI (e % n)) (nI (e / n)) then r else r + 1
def rkM (n c : Nat) : Nat := nF (rkF n c) (n * n) 0
theorem rkQ_le (n c : Nat) : ∀ i, nF (rkF n c) i 0 ≤ i
  | 0 => Nat.le_refl _
  | i + 1 => by
    have h := rkQ_le n c i
    show rkF n c i (nF (rkF n c) i 0) ≤ i + 1
    generalize nF (rkF n c) i 0 = b at h ⊢
    unfold rkF
    split
    · omega
    · omega
def o1F (n c r i : Nat) (T : St) : St := puI T 24 (64 * (r + 1 + i) + 8 * (c / n) + c % n) (vp_nar .boolean 1)
def orF (n c : Nat) (T : St) : St := nF (o1F n c (rkM n c)) (n * n - rkM n c) T
def orM (S : St) (n : Nat) : St := nF (orF n) (n * n) (blM (puI S 21 0 0) (nI n) (nI n) (nI (n * n + 1)))
theorem o1N_o {n c r : Nat} {S : St} {o : Nat} (h : o ≠ 24) (i : Nat) : (nF (o1F n c r) i S).1 o = S.1 o ∧ (nF (o1F n c r) i S).2 = S.2 :=
  nF_inv (f := o1F n c r) (fun T => T.1 o = S.1 o ∧ T.2 = S.2) (fun i T hT => ⟨(puI_o h).trans hT.1, hT.2⟩) i S ⟨rfl, rfl⟩
theorem orN_o {n : Nat} {S : St} {o : Nat} (h : o ≠ 24) (i : Nat) : (nF (orF n) i S).1 o = S.1 o ∧ (nF (orF n) i S).2 = S.2 :=
  nF_inv (f := orF n) (fun T => T.1 o = S.1 o ∧ T.2 = S.2) (fun i T hT => ⟨(o1N_o h _).1.trans hT.1, (o1N_o h _).2.trans hT.2⟩) i S ⟨rfl, rfl⟩
theorem nn_le {n : Nat} (h : n ≤ 7) : n * n ≤ 49 := Nat.mul_le_mul h h
theorem dm_lt {n c : Nat} (h : c < n * n) (h7 : n ≤ 7) : c / n < 7 ∧ c % n < 7 ∧ 0 < n := by
  have h0 : 0 < n := by rcases Nat.eq_zero_or_pos n with e | e; (subst e; omega); exact e
  exact ⟨Nat.lt_of_lt_of_le (Nat.div_lt_of_lt_mul h) h7, Nat.lt_of_lt_of_le (Nat.mod_lt _ h0) h7, h0⟩
def okO (q : Int32) : Int32 := if wi q 1 7 = 0 then 1 else 0
def odR (S : St) (q : Int32) : Int32 := if wi q 1 7 = 0 then 0 else nI (q.toNatClampNeg * q.toNatClampNeg + 1)
def odS (S : St) (q : Int32) : St := if wi q 1 7 = 0 then puI S 21 0 1 else orM S q.toNatClampNeg
set_option maxHeartbeats 4000000 in
set_option maxRecDepth 40000 in
theorem k_M_orderedL {l : Launch} {h : Nat} {S : St} {n : Nat} (hn0 : 0 < n) (hn7 : n ≤ 7) : E0 l (SHm h) (1, 24) m_M_ordered 41 [some (aR 21), some (aI (nI n)), some (aI 0), none, none] [] (blM (puI S 21 0 0) (nI n) (nI n) (nI (n * n + 1))) (ans (some (aI (nI (n * n + 1)))) (orM S n)) := by
  have hnn := nn_le hn7
  have hn0n : ¬ nI n = 0 := nI_ne0 hn0 (by omega)
  have hmB : (blM (puI S 21 0 0) (nI n) (nI n) (nI (n * n + 1))).1 21 7 = nI (n * n + 1) := by rw [blM, flI_o (by decide), flI_o (by decide)]; simp [puI, pt, upd]
  have hmR : (nF (orF n) (n * n) (blM (puI S 21 0 0) (nI n) (nI n) (nI (n * n + 1)))).1 21 7 = nI (n * n + 1) := by rw [(orN_o (by decide) _).1]; exact hmB
  have L1 := e_for (P := fun c => ∀ z3 z4, E0 l (SHm h) (1, 24) m_M_ordered 41 [some (aR 21), some (aI (nI n)), some (aI (nI c)), z3, z4] [] ((nF (orF n) c (blM (puI S 21 0 0) (nI n) (nI n) (nI (n * n + 1))))) (ans (some (aI (nI (n * n + 1)))) (orM S n))) (n * n) (by
      intro z3 z4
      iterate 4 refine e_sp rfl rfl rfl ?_
      refine e_icge rfl (fun h1 => ?_) (fun h1 => ?_)
      · iterate 2 refine e_sp rfl rfl rfl ?_
        refine e_iret rfl rfl (Nat.le_refl _) (Nat.le_refl _) ?_
        exact ⟨by rw [hmR], rfl⟩
      · try dsimp only
        dsimp only at h1
        rw [pk_mul] at h1
        exact absurd (nI_le (Nat.le_refl _) (by omega)) h1) (fun c hc ihc => by
      intro z3 z4
      iterate 4 refine e_sp rfl rfl rfl ?_
      refine e_icge rfl (fun h1 => ?_) (fun h1 => ?_)
      · try dsimp only
        dsimp only at h1
        rw [pk_mul] at h1
        exact absurd h1 (nI_ge hc (by omega))
      · refine e_ci 0 rfl rfl ?_
        iterate 1 refine e_sp rfl rfl rfl ?_
        refine e_ci 0 rfl rfl ?_
        iterate 1 refine e_sp rfl rfl rfl ?_
        try dsimp only
        have hrk : rkM n c ≤ n * n := rkQ_le n c _
        obtain ⟨hd1, hd2, -⟩ := dm_lt hc hn7
        have hmk : ∀ i, (nF (o1F n c (rkM n c)) i (nF (orF n) c (blM (puI S 21 0 0) (nI n) (nI n) (nI (n * n + 1))))).1 21 7 = nI (n * n + 1) := fun i => by rw [(o1N_o (by decide) i).1, (orN_o (by decide) c).1]; exact hmB
        have L3 := e_for (P := fun i => E0 l (SHm h) (1, 24) m_M_ordered 103 [some (aR 21), some (aI (nI n)), some (aI (nI c)), some (aI (nI (rkM n c))), some (aI (nI (rkM n c + 1 + i)))] [] (nF (o1F n c (rkM n c)) i (nF (orF n) c (blM (puI S 21 0 0) (nI n) (nI n) (nI (n * n + 1))))) (ans (some (aI (nI (n * n + 1)))) (orM S n))) (n * n - rkM n c) (by
            iterate 3 refine e_sp rfl rfl rfl ?_
            refine e_icge rfl (fun h1 => ?_) (fun h1 => ?_)
            · refine e_inc 1 rfl rfl rfl rfl ?_
              refine e_goto rfl ?_
              try dsimp only
              rw [nI_1]
              exact ihc _ _
            · try dsimp only
              rw [hmk] at h1
              exact absurd (nI_le (by omega) (by omega)) h1) (fun i hi ihi => by
            iterate 3 refine e_sp rfl rfl rfl ?_
            refine e_icge rfl (fun h1 => ?_) (fun h1 => ?_)
            · try dsimp only
              rw [hmk] at h1
              exact absurd h1 (nI_ge (show rkM n c + 1 + i < n * n + 1 by omega) (by omega))
            · iterate 2 refine e_sp rfl rfl rfl ?_
              refine e_cb 64 rfl rfl ?_
              iterate 2 refine e_sp rfl rfl rfl ?_
              refine e_cb 8 rfl rfl ?_
              iterate 2 refine e_sp rfl rfl rfl ?_
              refine e_div rfl (by exact hn0n) ?_
              try dsimp only
              rw [dvd9 n (by omega) hn0 (by omega)]
              iterate 4 refine e_sp rfl rfl rfl ?_
              refine e_rem rfl (by exact hn0n) ?_
              try dsimp only
              rw [rmd n (by omega) hn0 (by omega)]
              iterate 1 refine e_sp rfl rfl rfl ?_
              try dsimp only
              rw [ix64]
              refine e_ci 1 rfl rfl ?_
              refine e_zast rfl (by first | rfl | assumption) (by exact vp_in_nI (show 64 * (rkM n c + 1 + i) + 8 * (c / n) + c % n < 4096 by omega) (by decide)) ?_
              rw [nI_clamp (by omega)]
              refine e_inc 1 rfl rfl rfl rfl ?_
              refine e_goto rfl ?_
              try dsimp only
              rw [nI_1]
              exact ihi)
        have L2 := e_for (P := fun e => E0 l (SHm h) (1, 24) m_M_ordered 53 [some (aR 21), some (aI (nI n)), some (aI (nI c)), some (aI (nI (nF (rkF n c) e 0))), some (aI (nI e))] [] ((nF (orF n) c (blM (puI S 21 0 0) (nI n) (nI n) (nI (n * n + 1))))) (ans (some (aI (nI (n * n + 1)))) (orM S n))) (n * n) (by
            iterate 4 refine e_sp rfl rfl rfl ?_
            refine e_icge rfl (fun h1 => ?_) (fun h1 => ?_)
            · iterate 1 refine e_sp rfl rfl rfl ?_
              refine e_ci 1 rfl rfl ?_
              iterate 2 refine e_sp rfl rfl rfl ?_
              try dsimp only
              rw [nI_1]
              exact L3
            · try dsimp only
              dsimp only at h1
              rw [pk_mul] at h1
              exact absurd (nI_le (Nat.le_refl _) (by omega)) h1) (fun e he ihe => by
            iterate 4 refine e_sp rfl rfl rfl ?_
            refine e_icge rfl (fun h1 => ?_) (fun h1 => ?_)
            · try dsimp only
              dsimp only at h1
              rw [pk_mul] at h1
              exact absurd h1 (nI_ge he (by omega))
            · iterate 3 refine e_sp rfl rfl rfl ?_
              refine e_rem rfl (by exact hn0n) ?_
              try dsimp only
              rw [rmd n (by omega) hn0 (by omega)]
              iterate 2 refine e_sp rfl rfl rfl ?_
              refine e_div rfl (by exact hn0n) ?_
              try dsimp only
              rw [dvd9 n (by omega) hn0 (by omega)]
              refine e_callS1 ok_M_keyOf rfl lk_M_118 k_M_keyOf rfl rfl ⟨Nat.le_of_ble_eq_true rfl, Nat.le_of_ble_eq_true rfl⟩ ⟨Nat.zero_le _, Nat.zero_le _⟩ (Nat.le_of_ble_eq_true rfl) ?_
              iterate 2 refine e_sp rfl rfl rfl ?_
              refine e_rem rfl (by exact hn0n) ?_
              try dsimp only
              rw [rmd n (by omega) hn0 (by omega)]
              iterate 2 refine e_sp rfl rfl rfl ?_
              refine e_div rfl (by exact hn0n) ?_
              try dsimp only
              rw [dvd9 n (by omega) hn0 (by omega)]
              refine e_callS1 ok_M_keyOf rfl lk_M_118 k_M_keyOf rfl rfl ⟨Nat.le_of_ble_eq_true rfl, Nat.le_of_ble_eq_true rfl⟩ ⟨Nat.zero_le _, Nat.zero_le _⟩ (Nat.le_of_ble_eq_true rfl) ?_
              refine e_icge rfl (fun h2 => ?_) (fun h2 => ?_)
              · refine e_ci 0 rfl rfl ?_
                iterate 2 refine e_sp rfl rfl rfl ?_
                refine e_inc 1 rfl rfl rfl rfl ?_
                refine e_goto rfl ?_
                try dsimp only
                simp only [nI_1, Int32.add_zero]
                simp only [nF] at ihe
                rw [rkF] at ihe
                (first | rw [if_pos h2] at ihe | rw [if_neg h2] at ihe)
                exact ihe
              · refine e_ci 1 rfl rfl ?_
                refine e_goto rfl ?_
                iterate 2 refine e_sp rfl rfl rfl ?_
                refine e_inc 1 rfl rfl rfl rfl ?_
                refine e_goto rfl ?_
                try dsimp only
                simp only [nI_1, Int32.add_zero]
                simp only [nF] at ihe
                rw [rkF] at ihe
                (first | rw [if_pos h2] at ihe | rw [if_neg h2] at ihe)
                exact ihe)
        exact L2)
  exact L1 none none
set_option maxHeartbeats 4000000 in
set_option maxRecDepth 40000 in
theorem k_M_ordered {l : Launch} {h : Nat} {S : St} {q : Int32} : KK l (SHm h) (1, 24) m_M_ordered [aR 21, aI q] S (ans (some (aI (odR S q))) (odS S q)) := by
  refine k_start ok_M_ordered (Nat.le_of_ble_eq_true rfl) ?_
  iterate 2 refine e_sp rfl rfl rfl ?_
  refine e_ci 1 rfl rfl ?_
  refine e_cb 7 rfl rfl ?_
  refine e_callS1 ok_M_in rfl lk_M_110 k_M_in rfl rfl ⟨Nat.le_of_ble_eq_true rfl, Nat.le_of_ble_eq_true rfl⟩ ⟨Nat.zero_le _, Nat.zero_le _⟩ (Nat.le_of_ble_eq_true rfl) ?_
  refine e_ifeq rfl (fun h1 => ?_) (fun h1 => ?_)
  · refine e_ci 1 rfl rfl ?_
    iterate 3 refine e_sp rfl rfl rfl ?_
    refine e_ifle rfl (fun h2 => absurd h2 (by first | decide | simp [puI, pt, upd])) (fun _ => ?_)
    refine e_ci 0 rfl rfl ?_
    refine e_iret rfl rfl (Nat.le_refl _) (Nat.le_refl _) ?_
    exact ⟨by rw [odR, if_pos h1], by rw [odS, if_pos h1]⟩
  · refine e_ci 0 rfl rfl ?_
    refine e_goto rfl ?_
    iterate 3 refine e_sp rfl rfl rfl ?_
    refine e_ifle rfl (fun _ => ?_) (fun h3 => absurd h3 (by first | decide | simp [puI, pt, upd]))
    iterate 6 refine e_sp rfl rfl rfl ?_
    refine e_ci 1 rfl rfl ?_
    iterate 1 refine e_sp rfl rfl rfl ?_
    refine e_callV0 ok_M_blank rfl lk_M_58 (by rfl) (by rfl) k_M_blank rfl rfl ⟨Nat.le_of_ble_eq_true rfl, Nat.le_of_ble_eq_true rfl⟩ ⟨Nat.zero_le _, Nat.zero_le _⟩ (Nat.le_of_ble_eq_true rfl) ?_
    refine e_ci 0 rfl rfl ?_
    iterate 1 refine e_sp rfl rfl rfl ?_
    try dsimp only
    obtain ⟨n, hn, rfl⟩ := wi_1n (n := 7) (by decide) (show ¬ wi q 1 (nI 7) = 0 from h1)
    have hq : wi (nI (n + 1)) 1 7 ≠ 0 := h1
    rw [odR, odS, if_neg hq, if_neg hq, nI_clamp (by omega)]
    rw [pk_mul, nI_1]
    exact k_M_orderedL (by omega) (by omega)
end
section
/-! the reference: planes, contexts, runs -/
def nx1 (i : Nat) (T : St) : St := puI (puI T 31 i (vp_nar .boolean (T.1 30 i))) 30 i (vp_nar .boolean 0)
def nxM (S : St) : St := npM (nF nx1 256 S)
theorem nx1_o {S : St} {o : Nat} (h : o ≠ 30) (h2 : o ≠ 31) (i : Nat) : (nF nx1 i S).1 o = S.1 o ∧ (nF nx1 i S).2 = S.2 :=
  nF_inv (f := nx1) (fun T => T.1 o = S.1 o ∧ T.2 = S.2) (fun i T hT => ⟨by unfold nx1; rw [puI_o h, puI_o h2]; exact hT.1, hT.2⟩) i S ⟨rfl, rfl⟩
theorem npM_o {S : St} {o : Nat} (h : o ≠ 28) (h2 : o ≠ 29) : (npM S).1 o = S.1 o ∧ (npM S).2 = S.2 := ⟨by unfold npM; rw [flI_o h2, flI_o h], rfl⟩
theorem nxM_o {S : St} {o : Nat} (h : o ≠ 28) (h2 : o ≠ 29) (h3 : o ≠ 30) (h4 : o ≠ 31) : (nxM S).1 o = S.1 o ∧ (nxM S).2 = S.2 :=
  ⟨(npM_o h h2).1.trans (nx1_o h3 h4 _).1, (npM_o h h2).2.trans (nx1_o h3 h4 _).2⟩
def tdM (S : St) (i j : Int32) : Int32 := if hpM S i j = 0 then 0 else if S.1 30 (16 * j + i).toNatClampNeg = 0 then 0 else 1
def ctM (S : St) (i j : Int32) : Int32 := 32 * tdM S (i - 1) j + 16 * tdM S (i - 2) j + 8 * tdM S (i - 1) (j - 1) + 4 * tdM S i (j - 1) + 2 * tdM S (i + 1) (j - 1) + (if S.1 31 (16 * j + i).toNatClampNeg = 0 then 0 else 1)
theorem tdM_01 (S : St) (i j : Int32) : tdM S i j = 0 ∨ tdM S i j = 1 := by
  unfold tdM
  split
  · exact Or.inl rfl
  · split
    · exact Or.inl rfl
    · exact Or.inr rfl
theorem if_01 (p : Prop) [Decidable p] : (if p then (0 : Int32) else 1) = 0 ∨ (if p then (0 : Int32) else 1) = 1 := by
  by_cases h : p
  · rw [if_pos h]; exact Or.inl rfl
  · rw [if_neg h]; exact Or.inr rfl
theorem six_nat {a b c e f g : Int32} (ha : a = 0 ∨ a = 1) (hb : b = 0 ∨ b = 1) (hc : c = 0 ∨ c = 1) (he : e = 0 ∨ e = 1) (hf : f = 0 ∨ f = 1) (hg : g = 0 ∨ g = 1) : ∃ n, n < 64 ∧ 32 * a + 16 * b + 8 * c + 4 * e + 2 * f + g = nI n := by
  rcases ha with rfl | rfl <;> rcases hb with rfl | rfl <;> rcases hc with rfl | rfl <;> rcases he with rfl | rfl <;> rcases hf with rfl | rfl <;> rcases hg with rfl | rfl <;> exact ⟨_, by decide, rfl⟩
theorem ctM_nat (S : St) (i j : Int32) : ∃ n, n < 64 ∧ ctM S i j = nI n := six_nat (tdM_01 _ _ _) (tdM_01 _ _ _) (tdM_01 _ _ _) (tdM_01 _ _ _) (tdM_01 _ _ _) (if_01 _)
theorem ctM_in (S : St) (i j : Int32) : vp_in (ctM S i j) 64 := by
  obtain ⟨n, h, e⟩ := ctM_nat S i j
  rw [e]
  exact vp_in_nI h (by decide)
def nsM (s b : Int32) : Int32 := if b = 0 then (if 0 ≤ s then s - 2 else s - 1) else (if 0 ≤ s then s + 1 else s + 2)
def ncM (t : Int32) : Int32 := if t ≤ 7 then (if -8 ≤ t then t else -8) else 7
def leM (S : St) (c b : Int32) : St := puI (puI S 29 c.toNatClampNeg (S.1 29 c.toNatClampNeg + 1)) 28 c.toNatClampNeg (ncM (nsM (S.1 28 c.toNatClampNeg) b))
def brM (S : St) : St := npM (flI (flI (puI (puI (puI S 21 29 4) 21 30 1) 21 31 0) 30 (vp_nar .boolean 0) 256) 31 (vp_nar .boolean 0) 256)
def krM (S : St) (r : Int32) : St := if S.1 21 30 + 1 = 32 then puI (puI (puI (puI S 21 29 (S.1 21 29 + r)) 21 30 (S.1 21 30 + 1)) 21 29 ((S.1 21 29 + r) / 2)) 21 30 16 else puI (puI S 21 29 (S.1 21 29 + r)) 21 30 (S.1 21 30 + 1)
def mw1 (S : St) (v b : Int32) : St := puI (puI S 26 (S.1 21 20).toNatClampNeg (vp_nar .boolean (if v >>> (b &&& 31) &&& 1 = 1 then 1 else 0))) 21 20 (S.1 21 20 + 1)
def mwS (v : Int32) : Nat → St → St
  | 0, S => S
  | n + 1, S => mwS v n (mw1 S v (nI n))
def moS : Nat → St → St
  | 0, S => S
  | n + 1, S => mwS 1 1 (moS n S)
def mfi (S : St) (r : Nat) : St := krM (puI S 21 31 (S.1 21 31 + 1)) (nI r)
def lkM (S : St) : Nat := lowK (S.1 21 30) (S.1 21 29) 8 0
def mrS (S : St) (r : Nat) : St := if 12 ≤ nI (r / 2 ^ lkM S) then mfi (mwS (nI r) 13 (mwS 4095 12 S)) r else mfi (mwS (nI r) (lkM S) (mwS 0 1 (moS (r / 2 ^ lkM S) S))) r
def bitsOK (n : Nat) (T : St) : Prop := ∃ q, q ≤ n ∧ T.1 21 20 = nI q
theorem bitsOK.mono {n m : Nat} {T : St} (h : bitsOK n T) (hm : n ≤ m) : bitsOK m T := by
  obtain ⟨r, h1, h2⟩ := h
  exact ⟨r, Nat.le_trans h1 hm, h2⟩
theorem mw1_bits {n : Nat} {T : St} {v b : Int32} (h : bitsOK n T) : bitsOK (n + 1) (mw1 T v b) := by
  obtain ⟨r, h1, h2⟩ := h
  refine ⟨r + 1, by omega, ?_⟩
  rw [← nI_1, ← h2]
  simp [mw1, puI, pt, upd]
theorem mwS_bits {v : Int32} : ∀ (k n : Nat) (T : St), bitsOK n T → bitsOK (n + k) (mwS v k T)
  | 0, _, _, h => h
  | k + 1, n, T, h => (mwS_bits k (n + 1) _ (mw1_bits (v := v) (b := nI k) h)).mono (by omega)
theorem moS_bits : ∀ (k n : Nat) (T : St), bitsOK n T → bitsOK (n + k) (moS k T)
  | 0, _, _, h => h
  | k + 1, n, T, h => mwS_bits 1 (n + k) _ (moS_bits k n T h)
theorem krM_k {S : St} {r : Int32} {k : Nat} (h : k ≠ 29) (h2 : k ≠ 30) : (krM S r).1 21 k = S.1 21 k := by
  unfold krM
  split <;> simp [puI, pt, upd, h, h2]
theorem mfi_bits {n r : Nat} {T : St} (h : bitsOK n T) : bitsOK n (mfi T r) := by
  obtain ⟨q, h1, h2⟩ := h
  refine ⟨q, h1, ?_⟩
  rw [mfi, krM_k (by decide) (by decide), ← h2]
  simp [puI, pt, upd]
theorem lkM_le (S : St) : lkM S ≤ 8 := lowK_le _ _ 8 0
theorem mrS_bits {n r : Nat} {T : St} (h : bitsOK n T) (hr : r < 2 ^ 31) : bitsOK (n + 25) (mrS T r) := by
  have hk := lkM_le T
  unfold mrS
  by_cases h9 : (12 : Int32) ≤ nI (r / 2 ^ lkM T)
  · rw [if_pos h9]
    exact (mfi_bits (mwS_bits 13 _ _ (mwS_bits 12 _ _ h))).mono (by omega)
  · rw [if_neg h9]
    have hq : r / 2 ^ lkM T < 12 := by
      rcases Nat.lt_or_ge (r / 2 ^ lkM T) 12 with q | q
      · exact q
      · exact absurd (nI_le q (Nat.lt_of_le_of_lt (Nat.div_le_self _ _) hr)) h9
    exact (mfi_bits (mwS_bits _ _ _ (mwS_bits 1 _ _ (moS_bits _ _ _ h)))).mono (by omega)
theorem mw1_o {S : St} {v b : Int32} {o : Nat} (h : o ≠ 21) (h2 : o ≠ 26) : (mw1 S v b).1 o = S.1 o ∧ (mw1 S v b).2 = S.2 := ⟨by unfold mw1; rw [puI_o h, puI_o h2], rfl⟩
theorem mw1_k {S : St} {v b : Int32} {k : Nat} (h : k ≠ 20) : (mw1 S v b).1 21 k = S.1 21 k := by simp [mw1, puI, pt, upd, h]
theorem mwS_o {v : Int32} {o : Nat} (h : o ≠ 21) (h2 : o ≠ 26) : ∀ (n : Nat) (S : St), (mwS v n S).1 o = S.1 o ∧ (mwS v n S).2 = S.2
  | 0, _ => ⟨rfl, rfl⟩
  | n + 1, S => ⟨(mwS_o h h2 n _).1.trans (mw1_o h h2).1, (mwS_o h h2 n _).2.trans (mw1_o h h2).2⟩
theorem mwS_k {v : Int32} {k : Nat} (h : k ≠ 20) : ∀ (n : Nat) (S : St), (mwS v n S).1 21 k = S.1 21 k
  | 0, _ => rfl
  | n + 1, S => (mwS_k h n _).trans (mw1_k h)
theorem moS_o {o : Nat} (h : o ≠ 21) (h2 : o ≠ 26) : ∀ (n : Nat) (S : St), (moS n S).1 o = S.1 o ∧ (moS n S).2 = S.2
  | 0, _ => ⟨rfl, rfl⟩
  | n + 1, S => ⟨(mwS_o h h2 1 _).1.trans (moS_o h h2 n S).1, (mwS_o h h2 1 _).2.trans (moS_o h h2 n S).2⟩
theorem moS_k {k : Nat} (h : k ≠ 20) : ∀ (n : Nat) (S : St), (moS n S).1 21 k = S.1 21 k
  | 0, _ => rfl
  | n + 1, S => (mwS_k h 1 _).trans (moS_k h n S)
theorem krM_o {S : St} {r : Int32} {o : Nat} (h : o ≠ 21) : (krM S r).1 o = S.1 o ∧ (krM S r).2 = S.2 := by
  unfold krM
  split
  · exact ⟨by rw [puI_o h, puI_o h, puI_o h, puI_o h], rfl⟩
  · exact ⟨by rw [puI_o h, puI_o h], rfl⟩
theorem mfi_o {S : St} {r o : Nat} (h : o ≠ 21) : (mfi S r).1 o = S.1 o ∧ (mfi S r).2 = S.2 := ⟨by unfold mfi; rw [(krM_o h).1, puI_o h], (krM_o h).2⟩
theorem mfi_k {S : St} {r k : Nat} (h : k ≠ 29) (h2 : k ≠ 30) (h3 : k ≠ 31) : (mfi S r).1 21 k = S.1 21 k := by
  rw [mfi, krM_k h h2]
  simp [puI, pt, upd, h3]
theorem mrS_o {S : St} {r o : Nat} (h : o ≠ 21) (h2 : o ≠ 26) : (mrS S r).1 o = S.1 o ∧ (mrS S r).2 = S.2 := by
  unfold mrS
  split
  · exact ⟨by rw [(mfi_o h).1, (mwS_o h h2 _ _).1, (mwS_o h h2 _ _).1], by rw [(mfi_o h).2, (mwS_o h h2 _ _).2, (mwS_o h h2 _ _).2]⟩
  · exact ⟨by rw [(mfi_o h).1, (mwS_o h h2 _ _).1, (mwS_o h h2 _ _).1, (moS_o h h2 _ _).1], by rw [(mfi_o h).2, (mwS_o h h2 _ _).2, (mwS_o h h2 _ _).2, (moS_o h h2 _ _).2]⟩
theorem mrS_k {S : St} {r k : Nat} (h0 : k ≠ 20) (h : k ≠ 29) (h2 : k ≠ 30) (h3 : k ≠ 31) : (mrS S r).1 21 k = S.1 21 k := by
  unfold mrS
  split
  · rw [mfi_k h h2 h3, mwS_k h0, mwS_k h0]
  · rw [mfi_k h h2 h3, mwS_k h0, mwS_k h0, moS_k h0]
theorem leM_o {S : St} {c b : Int32} {o : Nat} (h : o ≠ 28) (h2 : o ≠ 29) : (leM S c b).1 o = S.1 o ∧ (leM S c b).2 = S.2 := ⟨by unfold leM; rw [puI_o h, puI_o h2], rfl⟩
set_option maxHeartbeats 4000000 in
set_option maxRecDepth 40000 in
theorem k_M_nextPlane {l : Launch} {h : Nat} {S : St} : KK l (SHm h) (1, 21) m_M_nextPlane [aR 21] S (ans none (nxM S)) := by
  refine k_start ok_M_nextPlane (Nat.le_of_ble_eq_true rfl) ?_
  have L1 := e_for (P := fun i => E0 l (SHm h) (1, 21) m_M_nextPlane 2 [some (aR 21), some (aI (nI i))] [] (nF nx1 i S) (ans none (nxM S))) (256) (by
      iterate 1 refine e_sp rfl rfl rfl ?_
      refine e_cs 256 rfl rfl ?_
      refine e_icge rfl (fun h1 => ?_) (fun h1 => ?_)
      · iterate 1 refine e_sp rfl rfl rfl ?_
        refine e_callV0 ok_M_newPlane rfl lk_M_98 (by rfl) (by rfl) k_M_newPlane rfl rfl ⟨Nat.le_of_ble_eq_true rfl, Nat.le_of_ble_eq_true rfl⟩ ⟨Nat.zero_le _, Nat.zero_le _⟩ (Nat.le_of_ble_eq_true rfl) ?_
        refine e_vret rfl rfl (Nat.le_refl _) (Nat.le_refl _) ?_
        exact ⟨rfl, rfl⟩
      · try dsimp only
        exact absurd (nI_le (Nat.le_refl _) (by decide)) h1) (fun i hi ihi => by
      iterate 1 refine e_sp rfl rfl rfl ?_
      refine e_cs 256 rfl rfl ?_
      refine e_icge rfl (fun h1 => ?_) (fun h1 => ?_)
      · try dsimp only
        exact absurd h1 (nI_ge hi (by decide))
      · iterate 6 refine e_sp rfl rfl rfl ?_
        refine e_zald rfl (by first | rfl | assumption) (by exact vp_in_nI hi (by decide)) ?_
        rw [nI_clamp (by omega)]
        refine e_zast rfl (by first | rfl | assumption) (by exact vp_in_nI hi (by decide)) ?_
        rw [nI_clamp (by omega)]
        iterate 3 refine e_sp rfl rfl rfl ?_
        refine e_ci 0 rfl rfl ?_
        refine e_zast rfl (by first | rfl | assumption) (by exact vp_in_nI hi (by decide)) ?_
        rw [nI_clamp (by omega)]
        refine e_inc 1 rfl rfl rfl rfl ?_
        refine e_goto rfl ?_
        try dsimp only
        rw [nI_1]
        exact ihi)
  refine e_ci 0 rfl rfl ?_
  iterate 1 refine e_sp rfl rfl rfl ?_
  try dsimp only
  exact L1
set_option maxHeartbeats 4000000 in
set_option maxRecDepth 40000 in
theorem k_M_toldAt {l : Launch} {h : Nat} {S : St} {i j : Int32} {c r : Nat} (hc : S.1 21 9 = nI c) (hr : S.1 21 10 = nI r) (hc2 : c ≤ 16) (hr2 : r ≤ 16) : KK l (SHm h) (2, 44) m_M_toldAt [aR 21, aI i, aI j] S (ans (some (aI (tdM S i j))) S) := by
  refine k_start ok_M_toldAt (Nat.le_of_ble_eq_true rfl) ?_
  iterate 3 refine e_sp rfl rfl rfl ?_
  refine e_callV1 ok_M_hasPlace rfl lk_M_141 (by rfl) (by rfl) k_M_hasPlace rfl rfl ⟨Nat.le_of_ble_eq_true rfl, Nat.le_of_ble_eq_true rfl⟩ ⟨Nat.zero_le _, Nat.zero_le _⟩ (Nat.le_of_ble_eq_true rfl) ?_
  refine e_ifeq rfl (fun h1 => ?_) (fun h1 => ?_)
  · refine e_ci 0 rfl rfl ?_
    refine e_iret rfl rfl (Nat.le_refl _) (Nat.le_refl _) ?_
    exact ⟨by unfold tdM; (first | rw [if_pos h1] | rw [if_neg h1] | skip), rfl⟩
  · iterate 2 refine e_sp rfl rfl rfl ?_
    refine e_cb 16 rfl rfl ?_
    iterate 4 refine e_sp rfl rfl rfl ?_
    refine e_zald rfl (by first | rfl | assumption) (by exact hpM_in hc hr hc2 hr2 (by assumption)) ?_
    refine e_ifeq rfl (fun h2 => ?_) (fun h2 => ?_)
    · refine e_ci 0 rfl rfl ?_
      refine e_iret rfl rfl (Nat.le_refl _) (Nat.le_refl _) ?_
      exact ⟨by unfold tdM; (first | rw [if_pos h1] | rw [if_neg h1] | skip); (first | rw [if_pos h2] | rw [if_neg h2] | skip), rfl⟩
    · refine e_ci 1 rfl rfl ?_
      refine e_goto rfl ?_
      refine e_iret rfl rfl (Nat.le_refl _) (Nat.le_refl _) ?_
      exact ⟨by unfold tdM; (first | rw [if_pos h1] | rw [if_neg h1] | skip); (first | rw [if_pos h2] | rw [if_neg h2] | skip), rfl⟩
set_option maxHeartbeats 4000000 in
set_option maxRecDepth 40000 in
theorem k_M_contextOf {l : Launch} {h : Nat} {S : St} {a b : Nat} {c r : Nat} (hc : S.1 21 9 = nI c) (hr : S.1 21 10 = nI r) (hc2 : c ≤ 16) (hr2 : r ≤ 16) (ha : a < 16) (hb : b < 16) : KK l (SHm h) (3, 66) m_M_contextOf [aR 21, aI (nI a), aI (nI b)] S (ans (some (aI (ctM S (nI a) (nI b)))) S) := by
  refine k_start ok_M_contextOf (Nat.le_of_ble_eq_true rfl) ?_
  refine e_cb 32 rfl rfl ?_
  iterate 2 refine e_sp rfl rfl rfl ?_
  refine e_ci 1 rfl rfl ?_
  iterate 2 refine e_sp rfl rfl rfl ?_
  refine e_callV1 ok_M_toldAt rfl lk_M_168 (by rfl) (by rfl) (k_M_toldAt hc hr hc2 hr2) rfl rfl ⟨Nat.le_of_ble_eq_true rfl, Nat.le_of_ble_eq_true rfl⟩ ⟨Nat.zero_le _, Nat.zero_le _⟩ (Nat.le_of_ble_eq_true rfl) ?_
  iterate 1 refine e_sp rfl rfl rfl ?_
  refine e_cb 16 rfl rfl ?_
  iterate 2 refine e_sp rfl rfl rfl ?_
  refine e_ci 2 rfl rfl ?_
  iterate 2 refine e_sp rfl rfl rfl ?_
  refine e_callV1 ok_M_toldAt rfl lk_M_168 (by rfl) (by rfl) (k_M_toldAt hc hr hc2 hr2) rfl rfl ⟨Nat.le_of_ble_eq_true rfl, Nat.le_of_ble_eq_true rfl⟩ ⟨Nat.zero_le _, Nat.zero_le _⟩ (Nat.le_of_ble_eq_true rfl) ?_
  iterate 2 refine e_sp rfl rfl rfl ?_
  refine e_cb 8 rfl rfl ?_
  iterate 2 refine e_sp rfl rfl rfl ?_
  refine e_ci 1 rfl rfl ?_
  iterate 2 refine e_sp rfl rfl rfl ?_
  refine e_ci 1 rfl rfl ?_
  iterate 1 refine e_sp rfl rfl rfl ?_
  refine e_callV1 ok_M_toldAt rfl lk_M_168 (by rfl) (by rfl) (k_M_toldAt hc hr hc2 hr2) rfl rfl ⟨Nat.le_of_ble_eq_true rfl, Nat.le_of_ble_eq_true rfl⟩ ⟨Nat.zero_le _, Nat.zero_le _⟩ (Nat.le_of_ble_eq_true rfl) ?_
  iterate 2 refine e_sp rfl rfl rfl ?_
  refine e_ci 4 rfl rfl ?_
  iterate 3 refine e_sp rfl rfl rfl ?_
  refine e_ci 1 rfl rfl ?_
  iterate 1 refine e_sp rfl rfl rfl ?_
  refine e_callV1 ok_M_toldAt rfl lk_M_168 (by rfl) (by rfl) (k_M_toldAt hc hr hc2 hr2) rfl rfl ⟨Nat.le_of_ble_eq_true rfl, Nat.le_of_ble_eq_true rfl⟩ ⟨Nat.zero_le _, Nat.zero_le _⟩ (Nat.le_of_ble_eq_true rfl) ?_
  iterate 2 refine e_sp rfl rfl rfl ?_
  refine e_ci 2 rfl rfl ?_
  iterate 2 refine e_sp rfl rfl rfl ?_
  refine e_ci 1 rfl rfl ?_
  iterate 2 refine e_sp rfl rfl rfl ?_
  refine e_ci 1 rfl rfl ?_
  iterate 1 refine e_sp rfl rfl rfl ?_
  refine e_callV1 ok_M_toldAt rfl lk_M_168 (by rfl) (by rfl) (k_M_toldAt hc hr hc2 hr2) rfl rfl ⟨Nat.le_of_ble_eq_true rfl, Nat.le_of_ble_eq_true rfl⟩ ⟨Nat.zero_le _, Nat.zero_le _⟩ (Nat.le_of_ble_eq_true rfl) ?_
  iterate 6 refine e_sp rfl rfl rfl ?_
  refine e_cb 16 rfl rfl ?_
  iterate 4 refine e_sp rfl rfl rfl ?_
  refine e_zald rfl (by first | rfl | assumption) (by (dsimp only; rw [ix16]; exact vp_in_nI (show 16 * b + a < 256 by omega) (by decide))) ?_
  refine e_ifeq rfl (fun h1 => ?_) (fun h1 => ?_)
  · refine e_ci 0 rfl rfl ?_
    iterate 1 refine e_sp rfl rfl rfl ?_
    refine e_iret rfl rfl (Nat.le_refl _) (Nat.le_refl _) ?_
    exact ⟨by unfold ctM; (first | rw [if_pos h1] | rw [if_neg h1] | skip); try rfl, rfl⟩
  · refine e_ci 1 rfl rfl ?_
    refine e_goto rfl ?_
    iterate 1 refine e_sp rfl rfl rfl ?_
    refine e_iret rfl rfl (Nat.le_refl _) (Nat.le_refl _) ?_
    exact ⟨by unfold ctM; (first | rw [if_pos h1] | rw [if_neg h1] | skip); try rfl, rfl⟩
set_option maxHeartbeats 4000000 in
set_option maxRecDepth 40000 in
theorem k_M_learn {l : Launch} {h : Nat} {S : St} {c b : Int32} (hc : vp_in c 64) : KK l (SHm h) (0, 0) m_M_learn [aR 21, aI c, aI b] S (ans none (leM S c b)) := by
  refine k_start ok_M_learn (Nat.le_of_ble_eq_true rfl) ?_
  iterate 4 refine e_sp rfl rfl rfl ?_
  refine e_iald rfl (by first | rfl | assumption) (by exact hc) ?_
  refine e_ci 1 rfl rfl ?_
  iterate 1 refine e_sp rfl rfl rfl ?_
  refine e_iast rfl (by first | rfl | assumption) (by exact hc) ?_
  iterate 3 refine e_sp rfl rfl rfl ?_
  refine e_iald rfl (by first | rfl | assumption) (by exact hc) ?_
  rw [puI_o (show (28 : Nat) ≠ 29 by decide)]
  iterate 2 refine e_sp rfl rfl rfl ?_
  refine e_ifeq rfl (fun h1 => ?_) (fun h1 => ?_)
  · iterate 1 refine e_sp rfl rfl rfl ?_
    refine e_ifge rfl (fun h2 => ?_) (fun h2 => ?_)
    · iterate 1 refine e_sp rfl rfl rfl ?_
      refine e_ci 2 rfl rfl ?_
      iterate 6 refine e_sp rfl rfl rfl ?_
      refine e_cb 7 rfl rfl ?_
      refine e_icle rfl (fun h3 => ?_) (fun h3 => ?_)
      · iterate 1 refine e_sp rfl rfl rfl ?_
        refine e_cb (-8) rfl rfl ?_
        refine e_icge rfl (fun h4 => ?_) (fun h4 => ?_)
        · iterate 1 refine e_sp rfl rfl rfl ?_
          refine e_iast rfl (by first | rfl | assumption) (by exact hc) ?_
          refine e_vret rfl rfl (Nat.le_refl _) (Nat.le_refl _) ?_
          refine ⟨rfl, ?_⟩
          unfold leM nsM ncM
          (first | rw [if_pos h1] | rw [if_neg h1])
          (first | rw [if_pos h2] | rw [if_neg h2])
          (first | rw [if_pos h3] | rw [if_neg h3])
          (first | rw [if_pos h4] | rw [if_neg h4])
          try rfl
        · refine e_cb (-8) rfl rfl ?_
          refine e_goto rfl ?_
          refine e_iast rfl (by first | rfl | assumption) (by exact hc) ?_
          refine e_vret rfl rfl (Nat.le_refl _) (Nat.le_refl _) ?_
          refine ⟨rfl, ?_⟩
          unfold leM nsM ncM
          (first | rw [if_pos h1] | rw [if_neg h1])
          (first | rw [if_pos h2] | rw [if_neg h2])
          (first | rw [if_pos h3] | rw [if_neg h3])
          (first | rw [if_pos h4] | rw [if_neg h4])
          try rfl
      · refine e_cb 7 rfl rfl ?_
        refine e_goto rfl ?_
        refine e_iast rfl (by first | rfl | assumption) (by exact hc) ?_
        refine e_vret rfl rfl (Nat.le_refl _) (Nat.le_refl _) ?_
        refine ⟨rfl, ?_⟩
        unfold leM nsM ncM
        (first | rw [if_pos h1] | rw [if_neg h1])
        (first | rw [if_pos h2] | rw [if_neg h2])
        (first | rw [if_pos h3] | rw [if_neg h3])
        try rfl
    · iterate 1 refine e_sp rfl rfl rfl ?_
      refine e_ci 1 rfl rfl ?_
      iterate 1 refine e_sp rfl rfl rfl ?_
      refine e_goto rfl ?_
      iterate 5 refine e_sp rfl rfl rfl ?_
      refine e_cb 7 rfl rfl ?_
      refine e_icle rfl (fun h5 => ?_) (fun h5 => ?_)
      · iterate 1 refine e_sp rfl rfl rfl ?_
        refine e_cb (-8) rfl rfl ?_
        refine e_icge rfl (fun h6 => ?_) (fun h6 => ?_)
        · iterate 1 refine e_sp rfl rfl rfl ?_
          refine e_iast rfl (by first | rfl | assumption) (by exact hc) ?_
          refine e_vret rfl rfl (Nat.le_refl _) (Nat.le_refl _) ?_
          refine ⟨rfl, ?_⟩
          unfold leM nsM ncM
          (first | rw [if_pos h1] | rw [if_neg h1])
          (first | rw [if_pos h2] | rw [if_neg h2])
          (first | rw [if_pos h5] | rw [if_neg h5])
          (first | rw [if_pos h6] | rw [if_neg h6])
          try rfl
        · refine e_cb (-8) rfl rfl ?_
          refine e_goto rfl ?_
          refine e_iast rfl (by first | rfl | assumption) (by exact hc) ?_
          refine e_vret rfl rfl (Nat.le_refl _) (Nat.le_refl _) ?_
          refine ⟨rfl, ?_⟩
          unfold leM nsM ncM
          (first | rw [if_pos h1] | rw [if_neg h1])
          (first | rw [if_pos h2] | rw [if_neg h2])
          (first | rw [if_pos h5] | rw [if_neg h5])
          (first | rw [if_pos h6] | rw [if_neg h6])
          try rfl
      · refine e_cb 7 rfl rfl ?_
        refine e_goto rfl ?_
        refine e_iast rfl (by first | rfl | assumption) (by exact hc) ?_
        refine e_vret rfl rfl (Nat.le_refl _) (Nat.le_refl _) ?_
        refine ⟨rfl, ?_⟩
        unfold leM nsM ncM
        (first | rw [if_pos h1] | rw [if_neg h1])
        (first | rw [if_pos h2] | rw [if_neg h2])
        (first | rw [if_pos h5] | rw [if_neg h5])
        try rfl
  · iterate 1 refine e_sp rfl rfl rfl ?_
    refine e_ifge rfl (fun h7 => ?_) (fun h7 => ?_)
    · iterate 1 refine e_sp rfl rfl rfl ?_
      refine e_ci 1 rfl rfl ?_
      iterate 1 refine e_sp rfl rfl rfl ?_
      refine e_goto rfl ?_
      iterate 5 refine e_sp rfl rfl rfl ?_
      refine e_cb 7 rfl rfl ?_
      refine e_icle rfl (fun h8 => ?_) (fun h8 => ?_)
      · iterate 1 refine e_sp rfl rfl rfl ?_
        refine e_cb (-8) rfl rfl ?_
        refine e_icge rfl (fun h9 => ?_) (fun h9 => ?_)
        · iterate 1 refine e_sp rfl rfl rfl ?_
          refine e_iast rfl (by first | rfl | assumption) (by exact hc) ?_
          refine e_vret rfl rfl (Nat.le_refl _) (Nat.le_refl _) ?_
          refine ⟨rfl, ?_⟩
          unfold leM nsM ncM
          (first | rw [if_pos h1] | rw [if_neg h1])
          (first | rw [if_pos h7] | rw [if_neg h7])
          (first | rw [if_pos h8] | rw [if_neg h8])
          (first | rw [if_pos h9] | rw [if_neg h9])
          try rfl
        · refine e_cb (-8) rfl rfl ?_
          refine e_goto rfl ?_
          refine e_iast rfl (by first | rfl | assumption) (by exact hc) ?_
          refine e_vret rfl rfl (Nat.le_refl _) (Nat.le_refl _) ?_
          refine ⟨rfl, ?_⟩
          unfold leM nsM ncM
          (first | rw [if_pos h1] | rw [if_neg h1])
          (first | rw [if_pos h7] | rw [if_neg h7])
          (first | rw [if_pos h8] | rw [if_neg h8])
          (first | rw [if_pos h9] | rw [if_neg h9])
          try rfl
      · refine e_cb 7 rfl rfl ?_
        refine e_goto rfl ?_
        refine e_iast rfl (by first | rfl | assumption) (by exact hc) ?_
        refine e_vret rfl rfl (Nat.le_refl _) (Nat.le_refl _) ?_
        refine ⟨rfl, ?_⟩
        unfold leM nsM ncM
        (first | rw [if_pos h1] | rw [if_neg h1])
        (first | rw [if_pos h7] | rw [if_neg h7])
        (first | rw [if_pos h8] | rw [if_neg h8])
        try rfl
    · iterate 1 refine e_sp rfl rfl rfl ?_
      refine e_ci 2 rfl rfl ?_
      iterate 1 refine e_sp rfl rfl rfl ?_
      refine e_goto rfl ?_
      iterate 5 refine e_sp rfl rfl rfl ?_
      refine e_cb 7 rfl rfl ?_
      refine e_icle rfl (fun h10 => ?_) (fun h10 => ?_)
      · iterate 1 refine e_sp rfl rfl rfl ?_
        refine e_cb (-8) rfl rfl ?_
        refine e_icge rfl (fun h11 => ?_) (fun h11 => ?_)
        · iterate 1 refine e_sp rfl rfl rfl ?_
          refine e_iast rfl (by first | rfl | assumption) (by exact hc) ?_
          refine e_vret rfl rfl (Nat.le_refl _) (Nat.le_refl _) ?_
          refine ⟨rfl, ?_⟩
          unfold leM nsM ncM
          (first | rw [if_pos h1] | rw [if_neg h1])
          (first | rw [if_pos h7] | rw [if_neg h7])
          (first | rw [if_pos h10] | rw [if_neg h10])
          (first | rw [if_pos h11] | rw [if_neg h11])
          try rfl
        · refine e_cb (-8) rfl rfl ?_
          refine e_goto rfl ?_
          refine e_iast rfl (by first | rfl | assumption) (by exact hc) ?_
          refine e_vret rfl rfl (Nat.le_refl _) (Nat.le_refl _) ?_
          refine ⟨rfl, ?_⟩
          unfold leM nsM ncM
          (first | rw [if_pos h1] | rw [if_neg h1])
          (first | rw [if_pos h7] | rw [if_neg h7])
          (first | rw [if_pos h10] | rw [if_neg h10])
          (first | rw [if_pos h11] | rw [if_neg h11])
          try rfl
      · refine e_cb 7 rfl rfl ?_
        refine e_goto rfl ?_
        refine e_iast rfl (by first | rfl | assumption) (by exact hc) ?_
        refine e_vret rfl rfl (Nat.le_refl _) (Nat.le_refl _) ?_
        refine ⟨rfl, ?_⟩
        unfold leM nsM ncM
        (first | rw [if_pos h1] | rw [if_neg h1])
        (first | rw [if_pos h7] | rw [if_neg h7])
        (first | rw [if_pos h10] | rw [if_neg h10])
        try rfl
set_option maxHeartbeats 4000000 in
set_option maxRecDepth 40000 in
theorem k_M_beginRuns {l : Launch} {h : Nat} {S : St} : KK l (SHm h) (1, 21) m_M_beginRuns [aR 21] S (ans none (brM S)) := by
  refine k_start ok_M_beginRuns (Nat.le_of_ble_eq_true rfl) ?_
  have L1 := e_for (P := fun i => E0 l (SHm h) (1, 21) m_M_beginRuns 17 [some (aR 21), some (aI (nI i))] [] (flI (flI (puI (puI (puI S 21 29 4) 21 30 1) 21 31 0) 30 (vp_nar .boolean 0) i) 31 (vp_nar .boolean 0) i) (ans none (brM S))) (256) (by
      iterate 1 refine e_sp rfl rfl rfl ?_
      refine e_cs 256 rfl rfl ?_
      refine e_icge rfl (fun h1 => ?_) (fun h1 => ?_)
      · iterate 1 refine e_sp rfl rfl rfl ?_
        refine e_callV0 ok_M_newPlane rfl lk_M_98 (by rfl) (by rfl) k_M_newPlane rfl rfl ⟨Nat.le_of_ble_eq_true rfl, Nat.le_of_ble_eq_true rfl⟩ ⟨Nat.zero_le _, Nat.zero_le _⟩ (Nat.le_of_ble_eq_true rfl) ?_
        refine e_vret rfl rfl (Nat.le_refl _) (Nat.le_refl _) ?_
        exact ⟨rfl, rfl⟩
      · try dsimp only
        exact absurd (nI_le (Nat.le_refl _) (by decide)) h1) (fun i hi ihi => by
      iterate 1 refine e_sp rfl rfl rfl ?_
      refine e_cs 256 rfl rfl ?_
      refine e_icge rfl (fun h1 => ?_) (fun h1 => ?_)
      · try dsimp only
        exact absurd h1 (nI_ge hi (by decide))
      · iterate 3 refine e_sp rfl rfl rfl ?_
        refine e_ci 0 rfl rfl ?_
        refine e_zast rfl (by first | rfl | assumption) (by exact vp_in_nI hi (by decide)) ?_
        iterate 3 refine e_sp rfl rfl rfl ?_
        refine e_ci 0 rfl rfl ?_
        refine e_zast rfl (by first | rfl | assumption) (by exact vp_in_nI hi (by decide)) ?_
        refine e_inc 1 rfl rfl rfl rfl ?_
        refine e_goto rfl ?_
        try dsimp only
        rw [nI_clamp (by omega), fl2_s (by decide), nI_1]
        exact ihi)
  iterate 1 refine e_sp rfl rfl rfl ?_
  refine e_ci 4 rfl rfl ?_
  iterate 2 refine e_sp rfl rfl rfl ?_
  refine e_ci 1 rfl rfl ?_
  iterate 2 refine e_sp rfl rfl rfl ?_
  refine e_ci 0 rfl rfl ?_
  iterate 1 refine e_sp rfl rfl rfl ?_
  refine e_ci 0 rfl rfl ?_
  iterate 1 refine e_sp rfl rfl rfl ?_
  try dsimp only
  rw [flI_0, flI_0] at L1
  exact L1
set_option maxHeartbeats 4000000 in
set_option maxRecDepth 40000 in
theorem k_M_small {l : Launch} {h : Nat} {S : St} : KK l (SHm h) (0, 0) m_M_small [aR 21] S (ans (some (aI (nI (lkM S)))) S) := by
  refine k_start ok_M_small (Nat.le_of_ble_eq_true rfl) ?_
  have L : ∀ (f i : Nat), i + f = 8 → E0 l (SHm h) (0, 0) m_M_small 2 [some (aR 21), some (aI (nI i))] [] S (ans (some (aI (nI (lowK (S.1 21 30) (S.1 21 29) f i)))) S) := by
    intro f
    induction f with
    | zero =>
      intro i hi
      have hi8 : i = 8 := by omega
      subst hi8
      iterate 1 refine e_sp rfl rfl rfl ?_
      refine e_cb 8 rfl rfl ?_
      refine e_icge rfl (fun h1 => ?_) (fun h1 => absurd (by decide) h1)
      iterate 1 refine e_sp rfl rfl rfl ?_
      refine e_iret rfl rfl (Nat.le_refl _) (Nat.le_refl _) ?_
      exact ⟨rfl, rfl⟩
    | succ f ih =>
      intro i hi
      iterate 1 refine e_sp rfl rfl rfl ?_
      refine e_cb 8 rfl rfl ?_
      refine e_icge rfl (fun h1 => absurd h1 (nI_ge (show i < 8 by omega) (by decide))) (fun h1 => ?_)
      iterate 6 refine e_sp rfl rfl rfl ?_
      refine e_icge rfl (fun h2 => ?_) (fun h2 => ?_)
      · iterate 1 refine e_sp rfl rfl rfl ?_
        refine e_iret rfl rfl (Nat.le_refl _) (Nat.le_refl _) ?_
        exact ⟨by simp [lowK, h2], rfl⟩
      · refine e_inc 1 rfl rfl rfl rfl ?_
        refine e_goto rfl ?_
        rw [nI_1]
        have e9 := ih (i + 1) (by omega)
        rw [show lowK (S.1 21 30) (S.1 21 29) f (i + 1) = lowK (S.1 21 30) (S.1 21 29) (f + 1) i by simp [lowK, h2]] at e9
        exact e9
  refine e_ci 0 rfl rfl ?_
  iterate 1 refine e_sp rfl rfl rfl ?_
  exact L 8 0 rfl
set_option maxHeartbeats 4000000 in
set_option maxRecDepth 40000 in
theorem k_M_keepRun {l : Launch} {h : Nat} {S : St} {r : Int32}  : KK l (SHm h) (0, 0) m_M_keepRun [aR 21, aI r] S (ans none (krM S r)) := by
  refine k_start ok_M_keepRun (Nat.le_of_ble_eq_true rfl) ?_
  iterate 9 refine e_sp rfl rfl rfl ?_
  refine e_ci 1 rfl rfl ?_
  iterate 4 refine e_sp rfl rfl rfl ?_
  refine e_cb 32 rfl rfl ?_
  refine e_icne rfl (fun h1 => ?_) (fun h1 => ?_)
  · refine e_vret rfl rfl (Nat.le_refl _) (Nat.le_refl _) ?_
    exact ⟨rfl, by simp [krM, puI, pt, upd] at h1 ⊢; simp [h1]⟩
  · iterate 3 refine e_sp rfl rfl rfl ?_
    refine e_ci 2 rfl rfl ?_
    refine e_div rfl (by decide) ?_
    iterate 2 refine e_sp rfl rfl rfl ?_
    refine e_cb 16 rfl rfl ?_
    iterate 1 refine e_sp rfl rfl rfl ?_
    refine e_vret rfl rfl (Nat.le_refl _) (Nat.le_refl _) ?_
    exact ⟨rfl, by simp [krM, puI, pt, upd] at h1 ⊢; simp [h1]⟩
set_option maxHeartbeats 4000000 in
set_option maxRecDepth 40000 in
theorem k_M_write {l : Launch} {h : Nat} {S : St} {v : Int32} {n a : Nat} (hn : n ≤ 31) (hb : bitsOK a S) (ha : a + n ≤ 60000) : KK l (SHm h) (0, 0) m_M_write [aR 21, aI v, aI (nI n)] S (ans none (mwS v n S)) := by
  refine k_start ok_M_write (Nat.le_of_ble_eq_true rfl) ?_
  have L : ∀ (w : Int32) (n : Nat), n ≤ 31 → ∀ (a : Nat) (S : St), bitsOK a S → a + n ≤ 60000 → E0 l (SHm h) (0, 0) m_M_write 4 [some (aR 21), some (aI v), some (aI w), some (aI (nI n - 1))] [] S (ans none (mwS v n S)) := by
    intro w n
    induction n with
    | zero =>
      intro _ a S hb ha
      iterate 1 refine e_sp rfl rfl rfl ?_
      refine e_iflt rfl (fun h1 => ?_) (fun h1 => ?_)
      · refine e_vret rfl rfl (Nat.le_refl _) (Nat.le_refl _) ?_
        exact ⟨rfl, rfl⟩
      · try dsimp only
        exact absurd (by decide) h1
    | succ n ih =>
      intro hn a S hb ha
      iterate 1 refine e_sp rfl rfl rfl ?_
      refine e_iflt rfl (fun h1 => ?_) (fun h1 => ?_)
      · try dsimp only
        exact absurd h1 (by rw [nI_pred]; exact nI_pos (by omega))
      · iterate 6 refine e_sp rfl rfl rfl ?_
        rw [nI_pred]
        iterate 1 refine e_sp rfl rfl rfl ?_
        refine e_ci 1 rfl rfl ?_
        iterate 1 refine e_sp rfl rfl rfl ?_
        refine e_ci 1 rfl rfl ?_
        refine e_icne rfl (fun h2 => ?_) (fun h2 => ?_)
        · refine e_ci 0 rfl rfl ?_
          refine e_zast rfl (by first | rfl | assumption) (by (obtain ⟨q, hq, e⟩ := hb; rw [e]; exact vp_in_nI (show q < 60000 by omega) (by decide))) ?_
          iterate 3 refine e_sp rfl rfl rfl ?_
          refine e_ci 1 rfl rfl ?_
          iterate 2 refine e_sp rfl rfl rfl ?_
          simp only [nI_pred]
          refine e_inc (-1) rfl rfl rfl rfl ?_
          refine e_goto rfl ?_
          try dsimp only
          rw [show nI n + (-1) = nI n - 1 from (Int32.sub_eq_add_neg _ _).symm]
          refine e_st (S2 := mw1 S v (nI n)) ?_ (ih (by omega) (a + 1) (mw1 S v (nI n)) (mw1_bits hb) (by omega))
          unfold mw1
          (first | rw [if_pos h2] | rw [if_neg h2])
          try rfl
        · refine e_ci 1 rfl rfl ?_
          refine e_goto rfl ?_
          refine e_zast rfl (by first | rfl | assumption) (by (obtain ⟨q, hq, e⟩ := hb; rw [e]; exact vp_in_nI (show q < 60000 by omega) (by decide))) ?_
          iterate 3 refine e_sp rfl rfl rfl ?_
          refine e_ci 1 rfl rfl ?_
          iterate 2 refine e_sp rfl rfl rfl ?_
          simp only [nI_pred]
          refine e_inc (-1) rfl rfl rfl rfl ?_
          refine e_goto rfl ?_
          try dsimp only
          rw [show nI n + (-1) = nI n - 1 from (Int32.sub_eq_add_neg _ _).symm]
          refine e_st (S2 := mw1 S v (nI n)) ?_ (ih (by omega) (a + 1) (mw1 S v (nI n)) (mw1_bits hb) (by omega))
          unfold mw1
          (first | rw [if_pos h2] | rw [if_neg h2])
          try rfl
  iterate 1 refine e_sp rfl rfl rfl ?_
  refine e_ci 1 rfl rfl ?_
  iterate 2 refine e_sp rfl rfl rfl ?_
  exact L _ n hn a S hb ha
set_option maxHeartbeats 4000000 in
set_option maxRecDepth 40000 in
theorem k_M_writeRun {l : Launch} {h : Nat} {S : St} {r a : Nat} (hr2 : r < 2 ^ 31) (hb : bitsOK a S) (ha : a + 25 ≤ 60000) : KK l (SHm h) (1, 23) m_M_writeRun [aR 21, aI (nI r)] S (ans none (mrS S r)) := by
  refine k_start ok_M_writeRun (Nat.le_of_ble_eq_true rfl) ?_
  have hk8 := lkM_le S
  have L0 : ¬ (12 : Int32) ≤ nI (r / 2 ^ lkM S) → E0 l (SHm h) (1, 23) m_M_writeRun 15 [some (aR 21), some (aI (nI r)), some (aI (nI (lkM S))), some (aI 0)] [] S (ans none (mrS S r)) := by
    intro hq9
    have hq : (r / 2 ^ lkM S) < 12 := by
      rcases Nat.lt_or_ge (r / 2 ^ lkM S) 12 with q | q
      · exact q
      · exact absurd (nI_le q (Nat.lt_of_le_of_lt (Nat.div_le_self _ _) hr2)) hq9
    have L1 := e_for (P := fun i => E0 l (SHm h) (1, 23) m_M_writeRun 15 [some (aR 21), some (aI (nI r)), some (aI (nI (lkM S))), some (aI (nI i))] [] (moS i S) (ans none (mrS S r))) ((r / 2 ^ lkM S)) (by
        iterate 4 refine e_sp rfl rfl rfl ?_
        refine e_icge rfl (fun h1 => ?_) (fun h1 => ?_)
        · iterate 1 refine e_sp rfl rfl rfl ?_
          refine e_ci 0 rfl rfl ?_
          refine e_ci 1 rfl rfl ?_
          refine e_callV0 ok_M_write rfl lk_M_183 (by rfl) (by rfl) (k_M_write (n := 1) (a := a + (r / 2 ^ lkM S)) (by decide) (moS_bits _ a S hb) (by omega)) rfl rfl ⟨Nat.le_of_ble_eq_true rfl, Nat.le_of_ble_eq_true rfl⟩ ⟨Nat.zero_le _, Nat.zero_le _⟩ (Nat.le_of_ble_eq_true rfl) ?_
          iterate 3 refine e_sp rfl rfl rfl ?_
          refine e_callV0 ok_M_write rfl lk_M_183 (by rfl) (by rfl) (k_M_write (n := lkM S) (a := a + (r / 2 ^ lkM S) + 1) (by omega) (mwS_bits 1 _ _ (moS_bits _ a S hb)) (by omega)) rfl rfl ⟨Nat.le_of_ble_eq_true rfl, Nat.le_of_ble_eq_true rfl⟩ ⟨Nat.zero_le _, Nat.zero_le _⟩ (Nat.le_of_ble_eq_true rfl) ?_
          refine e_goto rfl ?_
          iterate 3 refine e_sp rfl rfl rfl ?_
          refine e_ci 1 rfl rfl ?_
          iterate 4 refine e_sp rfl rfl rfl ?_
          refine e_callV0 ok_M_keepRun rfl lk_M_186 (by rfl) (by rfl) k_M_keepRun rfl rfl ⟨Nat.le_of_ble_eq_true rfl, Nat.le_of_ble_eq_true rfl⟩ ⟨Nat.zero_le _, Nat.zero_le _⟩ (Nat.le_of_ble_eq_true rfl) ?_
          refine e_vret rfl rfl (Nat.le_refl _) (Nat.le_refl _) ?_
          exact ⟨rfl, by rw [mrS, if_neg hq9]; rfl⟩
        · try dsimp only
          dsimp only at h1
          rw [shr_k hr2 _ (lkM_le S)] at h1
          exact absurd (nI_le (Nat.le_refl _) (by omega)) h1) (fun i hi ihi => by
        iterate 4 refine e_sp rfl rfl rfl ?_
        refine e_icge rfl (fun h1 => ?_) (fun h1 => ?_)
        · try dsimp only
          dsimp only at h1
          rw [shr_k hr2 _ (lkM_le S)] at h1
          exact absurd h1 (nI_ge hi (by omega))
        · iterate 1 refine e_sp rfl rfl rfl ?_
          refine e_ci 1 rfl rfl ?_
          refine e_ci 1 rfl rfl ?_
          refine e_callV0 ok_M_write rfl lk_M_183 (by rfl) (by rfl) (k_M_write (n := 1) (a := a + i) (by decide) (moS_bits i a S hb) (by omega)) rfl rfl ⟨Nat.le_of_ble_eq_true rfl, Nat.le_of_ble_eq_true rfl⟩ ⟨Nat.zero_le _, Nat.zero_le _⟩ (Nat.le_of_ble_eq_true rfl) ?_
          refine e_inc 1 rfl rfl rfl rfl ?_
          refine e_goto rfl ?_
          try dsimp only
          rw [nI_1]
          exact ihi)
    exact L1
  iterate 1 refine e_sp rfl rfl rfl ?_
  refine e_callV1 ok_M_small rfl lk_M_180 (by rfl) (by rfl) k_M_small rfl rfl ⟨Nat.le_of_ble_eq_true rfl, Nat.le_of_ble_eq_true rfl⟩ ⟨Nat.zero_le _, Nat.zero_le _⟩ (Nat.le_of_ble_eq_true rfl) ?_
  iterate 4 refine e_sp rfl rfl rfl ?_
  dsimp only
  rw [shr_k hr2 _ (lkM_le S)]
  refine e_cb 12 rfl rfl ?_
  refine e_icge rfl (fun h1 => ?_) (fun h1 => ?_)
  · iterate 1 refine e_sp rfl rfl rfl ?_
    refine e_cs 4095 rfl rfl ?_
    refine e_cb 12 rfl rfl ?_
    refine e_callV0 ok_M_write rfl lk_M_183 (by rfl) (by rfl) (k_M_write (n := 12) (a := a) (by decide) hb (by omega)) rfl rfl ⟨Nat.le_of_ble_eq_true rfl, Nat.le_of_ble_eq_true rfl⟩ ⟨Nat.zero_le _, Nat.zero_le _⟩ (Nat.le_of_ble_eq_true rfl) ?_
    iterate 2 refine e_sp rfl rfl rfl ?_
    refine e_cb 13 rfl rfl ?_
    refine e_callV0 ok_M_write rfl lk_M_183 (by rfl) (by rfl) (k_M_write (n := 13) (a := a + 12) (by decide) (mwS_bits 12 _ _ hb) (by omega)) rfl rfl ⟨Nat.le_of_ble_eq_true rfl, Nat.le_of_ble_eq_true rfl⟩ ⟨Nat.zero_le _, Nat.zero_le _⟩ (Nat.le_of_ble_eq_true rfl) ?_
    iterate 3 refine e_sp rfl rfl rfl ?_
    refine e_ci 1 rfl rfl ?_
    iterate 4 refine e_sp rfl rfl rfl ?_
    refine e_callV0 ok_M_keepRun rfl lk_M_186 (by rfl) (by rfl) k_M_keepRun rfl rfl ⟨Nat.le_of_ble_eq_true rfl, Nat.le_of_ble_eq_true rfl⟩ ⟨Nat.zero_le _, Nat.zero_le _⟩ (Nat.le_of_ble_eq_true rfl) ?_
    refine e_vret rfl rfl (Nat.le_refl _) (Nat.le_refl _) ?_
    exact ⟨rfl, by rw [mrS, if_pos h1]; rfl⟩
  · refine e_ci 0 rfl rfl ?_
    iterate 1 refine e_sp rfl rfl rfl ?_
    try dsimp only
    exact L0 h1
end
section
/-! the reference: encode -/
def emB (T : St) (p : Int32) (k : Nat) : Int32 := if T.1 25 k >>> (p &&& 31) &&& 1 = T.1 25 k >>> ((p + 1) &&& 31) &&& 1 then 0 else 1
def emG (T : St) (r k : Nat) (c bit ft : Int32) : St × Nat := if bit = ft then (leM (puI T 30 k (vp_nar .boolean bit)) c bit, r + 1) else (leM (puI (mrS T r) 30 k (vp_nar .boolean bit)) c bit, 0)
def emF (p : Int32) (k : Nat) (x : St × Nat) : St × Nat :=
  if hpM x.1 (nI (k % 16)) (nI (k / 16)) = 0 then x else if skM x.1 (nI (k % 16)) (nI (k / 16)) = 0 then
    emG x.1 x.2 k (ctM x.1 (nI (k % 16)) (nI (k / 16))) (emB x.1 p k) (if x.1.1 28 (ctM x.1 (nI (k % 16)) (nI (k / 16))).toNatClampNeg < 0 then 0 else 1)
  else x
/-- what the planes keep: fields of cell 21 that encode does not write, and all cells that it does not write -/
def emI (S T : St) : Prop := (∀ k, k ≠ 20 → k ≠ 29 → k ≠ 30 → k ≠ 31 → T.1 21 k = S.1 21 k) ∧ T.1 25 = S.1 25
theorem emG_cases {T : St} {r k : Nat} {c bit ft : Int32} (P : St × Nat → Prop) (h1 : P (leM (puI T 30 k (vp_nar .boolean bit)) c bit, r + 1)) (h2 : P (leM (puI (mrS T r) 30 k (vp_nar .boolean bit)) c bit, 0)) : P (emG T r k c bit ft) := by
  unfold emG
  split
  · exact h1
  · exact h2
theorem emF_cases {p : Int32} {k : Nat} {x : St × Nat} (P : St × Nat → Prop) (h0 : P x) (h1 : ∀ c bit, P (leM (puI x.1 30 k (vp_nar .boolean bit)) c bit, x.2 + 1)) (h2 : ∀ c bit, P (leM (puI (mrS x.1 x.2) 30 k (vp_nar .boolean bit)) c bit, 0)) : P (emF p k x) := by
  unfold emF
  split
  · exact h0
  · split
    · exact emG_cases P (h1 _ _) (h2 _ _)
    · exact h0
theorem lp_o {T : St} {k : Nat} {b c bit : Int32} {o : Nat} (h : o ≠ 28) (h2 : o ≠ 29) (h3 : o ≠ 30) : (leM (puI T 30 k b) c bit).1 o = T.1 o ∧ (leM (puI T 30 k b) c bit).2 = T.2 := ⟨by rw [(leM_o h h2).1, puI_o h3], rfl⟩
def emN (a n : Nat) (x : St × Nat) : Prop := bitsOK a x.1 ∧ x.2 ≤ n
theorem emF_N {p : Int32} {k a n : Nat} {x : St × Nat} (h : emN a n x) (hn : n < 2 ^ 31) : emN (a + 25) (n + 1) (emF p k x) := by
  have h9 := h
  obtain ⟨hb, hr⟩ := h
  refine emF_cases (emN (a + 25) (n + 1)) ⟨hb.mono (by omega), by omega⟩ (fun c bit => ⟨?_, by show x.2 + 1 ≤ n + 1; omega⟩) (fun c bit => ⟨?_, Nat.zero_le _⟩)
  · obtain ⟨q, h1, h2⟩ := hb
    exact ⟨q, by omega, by rw [(lp_o (by decide) (by decide) (by decide)).1]; exact h2⟩
  · obtain ⟨q, h1, h2⟩ := mrS_bits hb (show x.2 < 2 ^ 31 by omega)
    exact ⟨q, h1, by rw [(lp_o (by decide) (by decide) (by decide)).1]; exact h2⟩
theorem emF_I {S : St} {p : Int32} {k : Nat} {x : St × Nat} (h : emI S x.1) : emI S (emF p k x).1 := by
  refine emF_cases (fun y => emI S y.1) h (fun c bit => ⟨fun q q1 q2 q3 q4 => ?_, ?_⟩) (fun c bit => ⟨fun q q1 q2 q3 q4 => ?_, ?_⟩)
  · rw [(lp_o (by decide) (by decide) (by decide)).1]; exact h.1 q q1 q2 q3 q4
  · rw [(lp_o (by decide) (by decide) (by decide)).1]; exact h.2
  · rw [(lp_o (by decide) (by decide) (by decide)).1, mrS_k q1 q2 q3 q4]; exact h.1 q q1 q2 q3 q4
  · rw [(lp_o (by decide) (by decide) (by decide)).1, (mrS_o (by decide) (by decide)).1]; exact h.2
theorem emN_N {p : Int32} {a n : Nat} : ∀ (i : Nat) (x : St × Nat), emN a n x → n + i < 2 ^ 31 → emN (a + 25 * i) (n + i) (nF (emF p) i x)
  | 0, _, h, _ => h
  | i + 1, x, h, hn => by
    have h1 := emF_N (p := p) (k := i) (emN_N (p := p) i x h (by omega)) (by omega)
    rw [show a + 25 * (i + 1) = a + 25 * i + 25 by omega]
    exact h1
theorem emN_I {S : St} {p : Int32} (i : Nat) (x : St × Nat) (h : emI S x.1) : emI S (nF (emF p) i x).1 := nF_inv (f := emF p) (fun y => emI S y.1) (fun _ _ hy => emF_I hy) i x h
theorem nxM_I {S T : St} (h : emI S T) : emI S (nxM T) := ⟨fun q q1 q2 q3 q4 => by rw [(nxM_o (by decide) (by decide) (by decide) (by decide)).1]; exact h.1 q q1 q2 q3 q4, by rw [(nxM_o (by decide) (by decide) (by decide) (by decide)).1]; exact h.2⟩
theorem nxM_bits {a : Nat} {T : St} (h : bitsOK a T) : bitsOK a (nxM T) := by
  obtain ⟨q, h1, h2⟩ := h
  exact ⟨q, h1, by rw [(nxM_o (by decide) (by decide) (by decide) (by decide)).1]; exact h2⟩
def epF (p : Int32) (x : St × Nat) : St × Nat := nF (emF p) 256 (nxM x.1, x.2)
theorem epF_I {S : St} {p : Int32} {x : St × Nat} (h : emI S x.1) : emI S (epF p x).1 := by
  unfold epF
  exact emN_I _ _ (nxM_I h)
theorem epF_N {p : Int32} {a n : Nat} {x : St × Nat} (h : emN a n x) (hn : n + 256 < 2 ^ 31) : emN (a + 25 * 256) (n + 256) (epF p x) := by
  unfold epF
  exact emN_N _ _ ⟨nxM_bits h.1, h.2⟩ hn
def epM : Nat → St × Nat → St × Nat
  | 0, x => x
  | n + 1, x => epM n (epF (nI n) x)
def ee0 (S : St) : St := brM (puI (puI S 21 0 0) 21 20 0)
def ee1 (S : St) (m : Nat) : St × Nat := epM (bl 6 m) (ee0 S, 0)
def ee2 (S : St) (m : Nat) : St := mrS (ee1 S m).1 (ee1 S m).2
def eeR (T : St) : Int32 := (T.1 21 20 + 7) / 8
def eeT (T : St) : St := puI T 21 21 (eeR T)
theorem brM_o {S : St} {o : Nat} (h : o ≠ 21) (h1 : o ≠ 28) (h2 : o ≠ 29) (h3 : o ≠ 30) (h4 : o ≠ 31) : (brM S).1 o = S.1 o ∧ (brM S).2 = S.2 := ⟨by unfold brM; rw [(npM_o h1 h2).1, flI_o h4, flI_o h3, puI_o h, puI_o h, puI_o h], rfl⟩
theorem brM_k {S : St} {k : Nat} (h : k ≠ 29) (h1 : k ≠ 30) (h2 : k ≠ 31) : (brM S).1 21 k = S.1 21 k := by
  unfold brM
  rw [(npM_o (by decide) (by decide)).1, flI_o (by decide), flI_o (by decide)]
  simp [puI, pt, upd, h, h1, h2]
theorem emG_00 {T : St} {r k : Nat} {c : Int32} : emG T r k c 0 0 = (leM (puI T 30 k (vp_nar .boolean 0)) c 0, r + 1) := if_pos rfl
theorem emG_11 {T : St} {r k : Nat} {c : Int32} : emG T r k c 1 1 = (leM (puI T 30 k (vp_nar .boolean 1)) c 1, r + 1) := if_pos rfl
theorem emG_01 {T : St} {r k : Nat} {c : Int32} : emG T r k c 0 1 = (leM (puI (mrS T r) 30 k (vp_nar .boolean 0)) c 0, 0) := if_neg (by decide)
theorem emG_10 {T : St} {r k : Nat} {c : Int32} : emG T r k c 1 0 = (leM (puI (mrS T r) 30 k (vp_nar .boolean 1)) c 1, 0) := if_neg (by decide)
set_option maxHeartbeats 4000000 in
set_option maxRecDepth 40000 in
theorem k_M_encodeK {l : Launch} {h : Nat} {T : St} {Q0 : Option AV → St → Prop} {c r n rr a b : Nat} (hc : T.1 21 9 = nI c) (hr : T.1 21 10 = nI r) (hc2 : c ≤ 16) (hr2 : r ≤ 16) (hb : bitsOK a T) (ha : a + 25 * 256 ≤ 60000) (hrr0 : rr ≤ b) (hb2 : b + 256 < 2 ^ 31) (kn : ∀ z3 z4 z5 z6 z7, E0 l (SHm h) (4, 89) m_M_encode 23 [some (aR 21), some (aI (nI (epF (nI n) (T, rr)).2)), some (aI (nI n - 1)), z3, z4, z5, z6, z7] [] (epF (nI n) (T, rr)).1 Q0) (z4 z5 z6 z7 : Option AV) : E0 l (SHm h) (4, 89) m_M_encode 33 [some (aR 21), some (aI (nI rr)), some (aI (nI n)), some (aI (nI 0)), z4, z5, z6, z7] [] (nxM T) Q0 := by
  have hI : ∀ k, emI T (nF (emF (nI n)) k (nxM T, rr)).1 := fun k => emN_I k _ (nxM_I ⟨fun _ _ _ _ _ => rfl, rfl⟩)
  have hcc : ∀ k, (nF (emF (nI n)) k (nxM T, rr)).1.1 21 9 = nI c := fun k => ((hI k).1 9 (by decide) (by decide) (by decide) (by decide)).trans hc
  have hrr : ∀ k, (nF (emF (nI n)) k (nxM T, rr)).1.1 21 10 = nI r := fun k => ((hI k).1 10 (by decide) (by decide) (by decide) (by decide)).trans hr
  have hN : ∀ k, k < 256 → bitsOK (a + 25 * k) (nF (emF (nI n)) k (nxM T, rr)).1 ∧ (nF (emF (nI n)) k (nxM T, rr)).2 < 2 ^ 31 ∧ a + 25 * k + 25 ≤ 60000 := fun k hk => by
    have h9 := emN_N (p := nI n) (a := a) (n := b) k (nxM T, rr) ⟨nxM_bits hb, hrr0⟩ (by omega)
    have h8 := h9.2
    exact ⟨h9.1, by omega, by omega⟩
  have L1 := e_for (P := fun k => ∀ z4 z5 z6 z7, E0 l (SHm h) (4, 89) m_M_encode 33 [some (aR 21), some (aI (nI (nF (emF (nI n)) k (nxM T, rr)).2)), some (aI (nI n)), some (aI (nI k)), z4, z5, z6, z7] [] ((nF (emF (nI n)) k (nxM T, rr)).1) (Q0)) (256) (by
      intro z4 z5 z6 z7
      iterate 1 refine e_sp rfl rfl rfl ?_
      refine e_cs 256 rfl rfl ?_
      refine e_icge rfl (fun h1 => ?_) (fun h1 => ?_)
      · refine e_inc (-1) rfl rfl rfl rfl ?_
        refine e_goto rfl ?_
        try dsimp only
        rw [show nI n + (-1) = nI n - 1 from (Int32.sub_eq_add_neg _ _).symm]
        have kn2 := kn
        unfold epF at kn2
        dsimp only at kn2
        exact kn2 _ _ _ _ _
      · try dsimp only
        exact absurd (nI_le (Nat.le_refl _) (by decide)) h1) (fun k hk ihk => by
      intro z4 z5 z6 z7
      iterate 1 refine e_sp rfl rfl rfl ?_
      refine e_cs 256 rfl rfl ?_
      refine e_icge rfl (fun h1 => ?_) (fun h1 => ?_)
      · try dsimp only
        exact absurd h1 (nI_ge hk (by decide))
      · iterate 1 refine e_sp rfl rfl rfl ?_
        refine e_cb 16 rfl rfl ?_
        refine e_rem rfl (by decide) ?_
        try dsimp only
        rw [show (16 : Int32) = nI 16 from rfl, rmd 16 (by omega) (by decide) (by decide)]
        iterate 2 refine e_sp rfl rfl rfl ?_
        refine e_cb 16 rfl rfl ?_
        refine e_div rfl (by decide) ?_
        try dsimp only
        rw [show (16 : Int32) = nI 16 from rfl, dvd9 16 (by omega) (by decide) (by decide)]
        iterate 4 refine e_sp rfl rfl rfl ?_
        refine e_callV1 ok_M_hasPlace rfl lk_M_141 (by rfl) (by rfl) k_M_hasPlace rfl rfl ⟨Nat.le_of_ble_eq_true rfl, Nat.le_of_ble_eq_true rfl⟩ ⟨Nat.zero_le _, Nat.zero_le _⟩ (Nat.le_of_ble_eq_true rfl) ?_
        refine e_ifeq rfl (fun h2 => ?_) (fun h2 => ?_)
        · refine e_inc 1 rfl rfl rfl rfl ?_
          refine e_goto rfl ?_
          try dsimp only
          simp only [nI_1]
          simp only [nF] at ihk
          rw [emF] at ihk
          (first | rw [if_pos h2] at ihk | rw [if_neg h2] at ihk)
          exact ihk _ _ _ _
        · iterate 3 refine e_sp rfl rfl rfl ?_
          refine e_callV1 ok_M_isSkipped rfl lk_M_196 (by rfl) (by rfl) k_M_isSkipped rfl rfl ⟨Nat.le_of_ble_eq_true rfl, Nat.le_of_ble_eq_true rfl⟩ ⟨Nat.zero_le _, Nat.zero_le _⟩ (Nat.le_of_ble_eq_true rfl) ?_
          refine e_ifne rfl (fun h3 => ?_) (fun h3 => ?_)
          · refine e_inc 1 rfl rfl rfl rfl ?_
            refine e_goto rfl ?_
            try dsimp only
            simp only [nI_1]
            simp only [nF] at ihk
            rw [emF] at ihk
            (first | rw [if_pos h2] at ihk | rw [if_neg h2] at ihk)
            (first | rw [if_pos h3] at ihk | rw [if_neg h3] at ihk)
            exact ihk _ _ _ _
          · iterate 3 refine e_sp rfl rfl rfl ?_
            refine e_iald rfl (by first | rfl | assumption) (by exact vp_in_nI hk (by decide)) ?_
            rw [nI_clamp (by omega)]
            iterate 2 refine e_sp rfl rfl rfl ?_
            refine e_ci 1 rfl rfl ?_
            iterate 4 refine e_sp rfl rfl rfl ?_
            refine e_iald rfl (by first | rfl | assumption) (by exact vp_in_nI hk (by decide)) ?_
            rw [nI_clamp (by omega)]
            iterate 1 refine e_sp rfl rfl rfl ?_
            refine e_ci 1 rfl rfl ?_
            iterate 2 refine e_sp rfl rfl rfl ?_
            refine e_ci 1 rfl rfl ?_
            iterate 1 refine e_sp rfl rfl rfl ?_
            refine e_iceq rfl (fun h4 => ?_) (fun h4 => ?_)
            · refine e_ci 0 rfl rfl ?_
              iterate 4 refine e_sp rfl rfl rfl ?_
              refine e_callV1 ok_M_contextOf rfl lk_M_199 (by rfl) (by rfl) (k_M_contextOf (hcc k) (hrr k) hc2 hr2 (by omega) (by omega)) rfl rfl ⟨Nat.le_of_ble_eq_true rfl, Nat.le_of_ble_eq_true rfl⟩ ⟨Nat.zero_le _, Nat.zero_le _⟩ (Nat.le_of_ble_eq_true rfl) ?_
              iterate 5 refine e_sp rfl rfl rfl ?_
              refine e_iald rfl (by first | rfl | assumption) (by exact ctM_in _ _ _) ?_
              refine e_iflt rfl (fun h5 => ?_) (fun h5 => ?_)
              · refine e_ci 0 rfl rfl ?_
                refine e_icne rfl (fun h6 => absurd h6 (by first | decide | simp [puI, pt, upd])) (fun _ => ?_)
                refine e_inc 1 rfl rfl rfl rfl ?_
                refine e_goto rfl ?_
                iterate 4 refine e_sp rfl rfl rfl ?_
                refine e_zast rfl (by first | rfl | assumption) (by exact vp_in_nI hk (by decide)) ?_
                rw [nI_clamp (by omega)]
                iterate 3 refine e_sp rfl rfl rfl ?_
                refine e_callV0 ok_M_learn rfl lk_M_205 (by rfl) (by rfl) (k_M_learn (ctM_in _ _ _)) rfl rfl ⟨Nat.le_of_ble_eq_true rfl, Nat.le_of_ble_eq_true rfl⟩ ⟨Nat.zero_le _, Nat.zero_le _⟩ (Nat.le_of_ble_eq_true rfl) ?_
                refine e_inc 1 rfl rfl rfl rfl ?_
                refine e_goto rfl ?_
                try dsimp only
                simp only [nI_1]
                simp only [nF] at ihk
                rw [emF] at ihk
                (first | rw [if_pos h2] at ihk | rw [if_neg h2] at ihk)
                (first | rw [if_pos h3] at ihk | rw [if_neg h3] at ihk)
                rw [emB] at ihk
                (first | rw [if_pos h4] at ihk | rw [if_neg h4] at ihk)
                (first | rw [if_pos h5] at ihk | rw [if_neg h5] at ihk)
                first | rw [emG_00] at ihk | rw [emG_11] at ihk | rw [emG_01] at ihk | rw [emG_10] at ihk
                exact ihk _ _ _ _
              · refine e_ci 1 rfl rfl ?_
                refine e_goto rfl ?_
                refine e_icne rfl (fun _ => ?_) (fun h7 => absurd h7 (by first | decide | simp [puI, pt, upd]))
                iterate 2 refine e_sp rfl rfl rfl ?_
                refine e_callV0 ok_M_writeRun rfl lk_M_202 (by rfl) (by rfl) (k_M_writeRun (hN k hk).2.1 (hN k hk).1 (hN k hk).2.2) rfl rfl ⟨Nat.le_of_ble_eq_true rfl, Nat.le_of_ble_eq_true rfl⟩ ⟨Nat.zero_le _, Nat.zero_le _⟩ (Nat.le_of_ble_eq_true rfl) ?_
                refine e_ci 0 rfl rfl ?_
                iterate 5 refine e_sp rfl rfl rfl ?_
                refine e_zast rfl (by first | rfl | assumption) (by exact vp_in_nI hk (by decide)) ?_
                rw [nI_clamp (by omega)]
                iterate 3 refine e_sp rfl rfl rfl ?_
                refine e_callV0 ok_M_learn rfl lk_M_205 (by rfl) (by rfl) (k_M_learn (ctM_in _ _ _)) rfl rfl ⟨Nat.le_of_ble_eq_true rfl, Nat.le_of_ble_eq_true rfl⟩ ⟨Nat.zero_le _, Nat.zero_le _⟩ (Nat.le_of_ble_eq_true rfl) ?_
                refine e_inc 1 rfl rfl rfl rfl ?_
                refine e_goto rfl ?_
                try dsimp only
                simp only [nI_1]
                simp only [nF] at ihk
                rw [emF] at ihk
                (first | rw [if_pos h2] at ihk | rw [if_neg h2] at ihk)
                (first | rw [if_pos h3] at ihk | rw [if_neg h3] at ihk)
                rw [emB] at ihk
                (first | rw [if_pos h4] at ihk | rw [if_neg h4] at ihk)
                (first | rw [if_pos h5] at ihk | rw [if_neg h5] at ihk)
                first | rw [emG_00] at ihk | rw [emG_11] at ihk | rw [emG_01] at ihk | rw [emG_10] at ihk
                exact ihk _ _ _ _
            · refine e_ci 1 rfl rfl ?_
              refine e_goto rfl ?_
              iterate 4 refine e_sp rfl rfl rfl ?_
              refine e_callV1 ok_M_contextOf rfl lk_M_199 (by rfl) (by rfl) (k_M_contextOf (hcc k) (hrr k) hc2 hr2 (by omega) (by omega)) rfl rfl ⟨Nat.le_of_ble_eq_true rfl, Nat.le_of_ble_eq_true rfl⟩ ⟨Nat.zero_le _, Nat.zero_le _⟩ (Nat.le_of_ble_eq_true rfl) ?_
              iterate 5 refine e_sp rfl rfl rfl ?_
              refine e_iald rfl (by first | rfl | assumption) (by exact ctM_in _ _ _) ?_
              refine e_iflt rfl (fun h8 => ?_) (fun h8 => ?_)
              · refine e_ci 0 rfl rfl ?_
                refine e_icne rfl (fun _ => ?_) (fun h9 => absurd h9 (by first | decide | simp [puI, pt, upd]))
                iterate 2 refine e_sp rfl rfl rfl ?_
                refine e_callV0 ok_M_writeRun rfl lk_M_202 (by rfl) (by rfl) (k_M_writeRun (hN k hk).2.1 (hN k hk).1 (hN k hk).2.2) rfl rfl ⟨Nat.le_of_ble_eq_true rfl, Nat.le_of_ble_eq_true rfl⟩ ⟨Nat.zero_le _, Nat.zero_le _⟩ (Nat.le_of_ble_eq_true rfl) ?_
                refine e_ci 0 rfl rfl ?_
                iterate 5 refine e_sp rfl rfl rfl ?_
                refine e_zast rfl (by first | rfl | assumption) (by exact vp_in_nI hk (by decide)) ?_
                rw [nI_clamp (by omega)]
                iterate 3 refine e_sp rfl rfl rfl ?_
                refine e_callV0 ok_M_learn rfl lk_M_205 (by rfl) (by rfl) (k_M_learn (ctM_in _ _ _)) rfl rfl ⟨Nat.le_of_ble_eq_true rfl, Nat.le_of_ble_eq_true rfl⟩ ⟨Nat.zero_le _, Nat.zero_le _⟩ (Nat.le_of_ble_eq_true rfl) ?_
                refine e_inc 1 rfl rfl rfl rfl ?_
                refine e_goto rfl ?_
                try dsimp only
                simp only [nI_1]
                simp only [nF] at ihk
                rw [emF] at ihk
                (first | rw [if_pos h2] at ihk | rw [if_neg h2] at ihk)
                (first | rw [if_pos h3] at ihk | rw [if_neg h3] at ihk)
                rw [emB] at ihk
                (first | rw [if_pos h4] at ihk | rw [if_neg h4] at ihk)
                (first | rw [if_pos h8] at ihk | rw [if_neg h8] at ihk)
                first | rw [emG_00] at ihk | rw [emG_11] at ihk | rw [emG_01] at ihk | rw [emG_10] at ihk
                exact ihk _ _ _ _
              · refine e_ci 1 rfl rfl ?_
                refine e_goto rfl ?_
                refine e_icne rfl (fun h10 => absurd h10 (by first | decide | simp [puI, pt, upd])) (fun _ => ?_)
                refine e_inc 1 rfl rfl rfl rfl ?_
                refine e_goto rfl ?_
                iterate 4 refine e_sp rfl rfl rfl ?_
                refine e_zast rfl (by first | rfl | assumption) (by exact vp_in_nI hk (by decide)) ?_
                rw [nI_clamp (by omega)]
                iterate 3 refine e_sp rfl rfl rfl ?_
                refine e_callV0 ok_M_learn rfl lk_M_205 (by rfl) (by rfl) (k_M_learn (ctM_in _ _ _)) rfl rfl ⟨Nat.le_of_ble_eq_true rfl, Nat.le_of_ble_eq_true rfl⟩ ⟨Nat.zero_le _, Nat.zero_le _⟩ (Nat.le_of_ble_eq_true rfl) ?_
                refine e_inc 1 rfl rfl rfl rfl ?_
                refine e_goto rfl ?_
                try dsimp only
                simp only [nI_1]
                simp only [nF] at ihk
                rw [emF] at ihk
                (first | rw [if_pos h2] at ihk | rw [if_neg h2] at ihk)
                (first | rw [if_pos h3] at ihk | rw [if_neg h3] at ihk)
                rw [emB] at ihk
                (first | rw [if_pos h4] at ihk | rw [if_neg h4] at ihk)
                (first | rw [if_pos h8] at ihk | rw [if_neg h8] at ihk)
                first | rw [emG_00] at ihk | rw [emG_11] at ihk | rw [emG_01] at ihk | rw [emG_10] at ihk
                exact ihk _ _ _ _)
  exact L1 _ _ _ _
set_option maxHeartbeats 4000000 in
set_option maxRecDepth 40000 in
theorem k_M_encodeP {l : Launch} {h : Nat} {c r : Nat} {Q0 : Option AV → St → Prop} (hc2 : c ≤ 16) (hr2 : r ≤ 16) : ∀ (n : Nat) (T : St) (rr a b : Nat), n ≤ 6 → T.1 21 9 = nI c → T.1 21 10 = nI r → bitsOK a T → a + 6400 * n + 25 ≤ 60000 → rr ≤ b → b + 256 * n + 256 < 2 ^ 31 → Q0 (some (aI (eeR (mrS (epM n (T, rr)).1 (epM n (T, rr)).2)))) (eeT (mrS (epM n (T, rr)).1 (epM n (T, rr)).2)) → ∀ z3 z4 z5 z6 z7, E0 l (SHm h) (4, 89) m_M_encode 23 [some (aR 21), some (aI (nI rr)), some (aI (nI n - 1)), z3, z4, z5, z6, z7] [] T Q0 := by
  intro n
  induction n with
  | zero =>
    intro T rr a b hn hc hr hb ha hrr hb2 hq z3 z4 z5 z6 z7
    iterate 1 refine e_sp rfl rfl rfl ?_
    refine e_iflt rfl (fun h1 => ?_) (fun h1 => ?_)
    · iterate 2 refine e_sp rfl rfl rfl ?_
      refine e_callV0 ok_M_writeRun rfl lk_M_202 (by rfl) (by rfl) (k_M_writeRun (by omega) hb (by omega)) rfl rfl ⟨Nat.le_of_ble_eq_true rfl, Nat.le_of_ble_eq_true rfl⟩ ⟨Nat.zero_le _, Nat.zero_le _⟩ (Nat.le_of_ble_eq_true rfl) ?_
      iterate 3 refine e_sp rfl rfl rfl ?_
      refine e_cb 7 rfl rfl ?_
      iterate 1 refine e_sp rfl rfl rfl ?_
      refine e_cb 8 rfl rfl ?_
      refine e_div rfl (by decide) ?_
      iterate 3 refine e_sp rfl rfl rfl ?_
      refine e_iret rfl rfl (Nat.le_refl _) (Nat.le_refl _) ?_
      exact hq
    · try dsimp only
      exact absurd (by decide) h1
  | succ n ih =>
    intro T rr a b hn hc hr hb ha hrr hb2 hq z3 z4 z5 z6 z7
    have kn : ∀ z3 z4 z5 z6 z7, E0 l (SHm h) (4, 89) m_M_encode 23 [some (aR 21), some (aI (nI (epF (nI n) (T, rr)).2)), some (aI (nI n - 1)), z3, z4, z5, z6, z7] [] (epF (nI n) (T, rr)).1 Q0 := by
      have hI : emI T (epF (nI n) (T, rr)).1 := epF_I (x := (T, rr)) ⟨fun _ _ _ _ _ => rfl, rfl⟩
      have hN := epF_N (p := nI n) (a := a) (n := b) (x := (T, rr)) ⟨hb, hrr⟩ (by omega)
      rw [epM] at hq
      revert hI hN hq
      generalize epF (nI n) (T, rr) = E
      obtain ⟨E1, E2⟩ := E
      intro hq hI hN
      exact ih E1 E2 (a + 25 * 256) (b + 256) (by omega) ((hI.1 9 (by decide) (by decide) (by decide) (by decide)).trans hc) ((hI.1 10 (by decide) (by decide) (by decide) (by decide)).trans hr) hN.1 (by omega) hN.2 (by omega) hq
    iterate 1 refine e_sp rfl rfl rfl ?_
    refine e_iflt rfl (fun h1 => ?_) (fun h1 => ?_)
    · try dsimp only
      exact absurd h1 (by rw [nI_pred]; exact nI_pos (by omega))
    · try dsimp only
      simp only [nI_pred]
      iterate 1 refine e_sp rfl rfl rfl ?_
      refine e_callV0 ok_M_nextPlane rfl lk_M_193 (by rfl) (by rfl) k_M_nextPlane rfl rfl ⟨Nat.le_of_ble_eq_true rfl, Nat.le_of_ble_eq_true rfl⟩ ⟨Nat.zero_le _, Nat.zero_le _⟩ (Nat.le_of_ble_eq_true rfl) ?_
      refine e_ci 0 rfl rfl ?_
      iterate 1 refine e_sp rfl rfl rfl ?_
      try dsimp only
      exact k_M_encodeK (a := a) (b := b) hc hr hc2 hr2 hb (by omega) hrr (by omega) kn _ _ _ _
set_option maxHeartbeats 4000000 in
set_option maxRecDepth 40000 in
theorem k_M_encode {l : Launch} {h : Nat} {S : St} {c r m : Nat} (hc : S.1 21 9 = nI c) (hr : S.1 21 10 = nI r) (hc2 : c ≤ 16) (hr2 : r ≤ 16) (hm : S.1 21 7 = nI (m + 1)) (hm2 : m < 64) : KK l (SHm h) (4, 89) m_M_encode [aR 21] S (ans (some (aI (eeR (ee2 S m)))) (eeT (ee2 S m))) := by
  refine k_start ok_M_encode (Nat.le_of_ble_eq_true rfl) ?_
  have hk0 : ∀ k, k ≠ 0 → k ≠ 20 → k ≠ 29 → k ≠ 30 → k ≠ 31 → (ee0 S).1 21 k = S.1 21 k := fun k k0 k1 k2 k3 k4 => by
    rw [ee0, brM_k k2 k3 k4]; simp [puI, pt, upd, k0, k1]
  have hmm : (ee0 S).1 21 7 = nI (m + 1) := (hk0 7 (by decide) (by decide) (by decide) (by decide) (by decide)).trans hm
  have hcc : (ee0 S).1 21 9 = nI c := (hk0 9 (by decide) (by decide) (by decide) (by decide) (by decide)).trans hc
  have hrr : (ee0 S).1 21 10 = nI r := (hk0 10 (by decide) (by decide) (by decide) (by decide) (by decide)).trans hr
  have hbb : bitsOK 0 (ee0 S) := ⟨0, Nat.le_refl _, by rw [ee0, brM_k (by decide) (by decide) (by decide)]; simp [puI, pt, upd, nI_0]⟩
  iterate 1 refine e_sp rfl rfl rfl ?_
  refine e_ci 0 rfl rfl ?_
  iterate 2 refine e_sp rfl rfl rfl ?_
  refine e_ci 0 rfl rfl ?_
  iterate 2 refine e_sp rfl rfl rfl ?_
  refine e_callV0 ok_M_beginRuns rfl lk_M_190 (by rfl) (by rfl) k_M_beginRuns rfl rfl ⟨Nat.le_of_ble_eq_true rfl, Nat.le_of_ble_eq_true rfl⟩ ⟨Nat.zero_le _, Nat.zero_le _⟩ (Nat.le_of_ble_eq_true rfl) ?_
  refine e_ci 0 rfl rfl ?_
  iterate 2 refine e_sp rfl rfl rfl ?_
  refine e_callV1 ok_M_planes rfl lk_M_114 (by rfl) (by rfl) (k_M_planes (m := m) hmm hm2) rfl rfl ⟨Nat.le_of_ble_eq_true rfl, Nat.le_of_ble_eq_true rfl⟩ ⟨Nat.zero_le _, Nat.zero_le _⟩ (Nat.le_of_ble_eq_true rfl) ?_
  refine e_ci 1 rfl rfl ?_
  iterate 2 refine e_sp rfl rfl rfl ?_
  try dsimp only
  exact k_M_encodeP hc2 hr2 (bl 6 m) (ee0 S) 0 0 0 (bl_le 6 m) hcc hrr hbb (by have := bl_le 6 m; omega) (Nat.le_refl _) (by have := bl_le 6 m; omega) ⟨rfl, rfl⟩ _ _ _ _ _
/-! bytes -/
def mbF (S : St) (n i : Nat) (v : Int32) : Int32 := 2 * v + (if S.1 21 20 ≤ nI (8 * n + i) then 0 else if S.1 26 (8 * n + i) = 0 then 0 else 1)
def mbM (S : St) (n : Nat) : Int32 := nF (mbF S n) 8 0
theorem ix8 (n : Nat) : (8 : Int32) * nI n = nI (8 * n) := by rw [show (8 : Int32) = nI 8 from rfl, pk_mul]
set_option maxHeartbeats 4000000 in
set_option maxRecDepth 40000 in
theorem k_M_madeByte {l : Launch} {h : Nat} {S : St} {n q : Nat} (hq : S.1 21 20 = nI q) (hq2 : q ≤ 60000) (hn : n ≤ 60000) : KK l (SHm h) (0, 0) m_M_madeByte [aR 21, aI (nI n)] S (ans (some (aI (mbM S n))) S) := by
  refine k_start ok_M_madeByte (Nat.le_of_ble_eq_true rfl) ?_
  have he8 : (8 : Int32) * nI n + 8 = nI (8 * n + 8) := by rw [ix8, show (8 : Int32) = nI 8 from rfl, nI_add]
  have hin : ∀ i, i < 8 → ¬ S.1 21 20 ≤ nI (8 * n + i) → vp_in (nI (8 * n + i)) 60000 := fun i hi h9 => by
    refine vp_in_nI ?_ (by decide)
    rw [hq] at h9
    rcases Nat.lt_or_ge (8 * n + i) q with g | g
    · omega
    · exact absurd (nI_le g (by omega)) h9
  have L1 := e_for (P := fun i => E0 l (SHm h) (0, 0) m_M_madeByte 7 [some (aR 21), some (aI (nI n)), some (aI (nF (mbF S n) i 0)), some (aI (nI (8 * n + i)))] [] (S) (ans (some (aI (mbM S n))) S)) (8) (by
      iterate 1 refine e_sp rfl rfl rfl ?_
      refine e_cb 8 rfl rfl ?_
      iterate 2 refine e_sp rfl rfl rfl ?_
      refine e_cb 8 rfl rfl ?_
      iterate 1 refine e_sp rfl rfl rfl ?_
      refine e_icge rfl (fun h1 => ?_) (fun h1 => ?_)
      · iterate 1 refine e_sp rfl rfl rfl ?_
        refine e_iret rfl rfl (Nat.le_refl _) (Nat.le_refl _) ?_
        exact ⟨rfl, rfl⟩
      · try dsimp only
        dsimp only at h1
        rw [he8] at h1
        exact absurd (nI_le (Nat.le_refl _) (by omega)) h1) (fun i hi ihi => by
      iterate 1 refine e_sp rfl rfl rfl ?_
      refine e_cb 8 rfl rfl ?_
      iterate 2 refine e_sp rfl rfl rfl ?_
      refine e_cb 8 rfl rfl ?_
      iterate 1 refine e_sp rfl rfl rfl ?_
      refine e_icge rfl (fun h1 => ?_) (fun h1 => ?_)
      · try dsimp only
        dsimp only at h1
        rw [he8] at h1
        exact absurd h1 (nI_ge (show 8 * n + i < 8 * n + 8 by omega) (by omega))
      · refine e_ci 2 rfl rfl ?_
        iterate 5 refine e_sp rfl rfl rfl ?_
        refine e_icge rfl (fun h2 => ?_) (fun h2 => ?_)
        · refine e_ci 0 rfl rfl ?_
          iterate 2 refine e_sp rfl rfl rfl ?_
          refine e_inc 1 rfl rfl rfl rfl ?_
          refine e_goto rfl ?_
          try dsimp only
          rw [nI_1]
          simp only [nF] at ihi
          rw [mbF] at ihi
          (first | rw [if_pos h2] at ihi | rw [if_neg h2] at ihi)
          exact ihi
        · iterate 3 refine e_sp rfl rfl rfl ?_
          refine e_zald rfl (by first | rfl | assumption) (by exact hin i hi (by assumption)) ?_
          rw [nI_clamp (by omega)]
          refine e_ifeq rfl (fun h3 => ?_) (fun h3 => ?_)
          · refine e_ci 0 rfl rfl ?_
            iterate 2 refine e_sp rfl rfl rfl ?_
            refine e_inc 1 rfl rfl rfl rfl ?_
            refine e_goto rfl ?_
            try dsimp only
            rw [nI_1]
            simp only [nF] at ihi
            rw [mbF] at ihi
            (first | rw [if_pos h2] at ihi | rw [if_neg h2] at ihi)
            (first | rw [if_pos h3] at ihi | rw [if_neg h3] at ihi)
            exact ihi
          · refine e_ci 1 rfl rfl ?_
            refine e_goto rfl ?_
            iterate 2 refine e_sp rfl rfl rfl ?_
            refine e_inc 1 rfl rfl rfl rfl ?_
            refine e_goto rfl ?_
            try dsimp only
            rw [nI_1]
            simp only [nF] at ihi
            rw [mbF] at ihi
            (first | rw [if_pos h2] at ihi | rw [if_neg h2] at ihi)
            (first | rw [if_pos h3] at ihi | rw [if_neg h3] at ihi)
            exact ihi)
  refine e_ci 0 rfl rfl ?_
  iterate 1 refine e_sp rfl rfl rfl ?_
  refine e_cb 8 rfl rfl ?_
  iterate 3 refine e_sp rfl rfl rfl ?_
  try dsimp only
  try dsimp only
  rw [ix8]
  exact L1
def byR (S : St) (i : Int32) : Int32 := if wi i 0 (S.1 21 21 - 1) = 0 then 0 else mbM (puI S 21 0 0) i.toNatClampNeg
def byC (S : St) (i : Int32) : Int32 := if wi i 0 (S.1 21 21 - 1) = 0 then 1 else 0
theorem mbM_0 {S : St} {v : Int32} (n : Nat) : mbM (puI S 21 0 v) n = mbM S n := by
  have e : mbF (puI S 21 0 v) n = mbF S n := by
    funext i w
    simp [mbF, puI, pt, upd]
  unfold mbM
  rw [e]
set_option maxHeartbeats 4000000 in
set_option maxRecDepth 40000 in
theorem k_M_byteAt {l : Launch} {h : Nat} {S : St} {i : Int32} {q dd : Nat} (hq : S.1 21 20 = nI q) (hq2 : q ≤ 60000) (hd : S.1 21 21 = nI dd) (hd2 : dd ≤ 60000) : KK l (SHm h) (1, 23) m_M_byteAt [aR 21, aI i] S (ans (some (aI (byR S i))) (puI S 21 0 (byC S i))) := by
  refine k_start ok_M_byteAt (Nat.le_of_ble_eq_true rfl) ?_
  iterate 2 refine e_sp rfl rfl rfl ?_
  refine e_ci 0 rfl rfl ?_
  iterate 2 refine e_sp rfl rfl rfl ?_
  refine e_ci 1 rfl rfl ?_
  iterate 1 refine e_sp rfl rfl rfl ?_
  refine e_callS1 ok_M_in rfl lk_M_110 k_M_in rfl rfl ⟨Nat.le_of_ble_eq_true rfl, Nat.le_of_ble_eq_true rfl⟩ ⟨Nat.zero_le _, Nat.zero_le _⟩ (Nat.le_of_ble_eq_true rfl) ?_
  refine e_ifeq rfl (fun h1 => ?_) (fun h1 => ?_)
  · refine e_ci 1 rfl rfl ?_
    iterate 3 refine e_sp rfl rfl rfl ?_
    refine e_ifle rfl (fun h2 => absurd h2 (by first | decide | simp [puI, pt, upd])) (fun _ => ?_)
    refine e_ci 0 rfl rfl ?_
    refine e_goto rfl ?_
    refine e_iret rfl rfl (Nat.le_refl _) (Nat.le_refl _) ?_
    exact ⟨by rw [byR, if_pos h1], by rw [byC, if_pos h1]⟩
  · refine e_ci 0 rfl rfl ?_
    refine e_goto rfl ?_
    iterate 3 refine e_sp rfl rfl rfl ?_
    refine e_ifle rfl (fun _ => ?_) (fun h3 => absurd h3 (by first | decide | simp [puI, pt, upd]))
    try dsimp only
    obtain ⟨j, hj, rfl⟩ := wi_nat (n := dd) (by omega) (show ¬ wi i 0 (nI dd - 1) = 0 from hd ▸ h1)
    have e1 : byR S (nI j) = mbM (puI S 21 0 0) j := by rw [byR, if_neg h1, nI_clamp (by omega)]
    have e2 : byC S (nI j) = 0 := by rw [byC, if_neg h1]
    rw [e1, e2]
    iterate 2 refine e_sp rfl rfl rfl ?_
    refine e_callV1 ok_M_madeByte rfl lk_M_209 (by rfl) (by rfl) (k_M_madeByte (q := q) (by simpa [puI, pt, upd] using hq) hq2 (by omega)) rfl rfl ⟨Nat.le_of_ble_eq_true rfl, Nat.le_of_ble_eq_true rfl⟩ ⟨Nat.zero_le _, Nat.zero_le _⟩ (Nat.le_of_ble_eq_true rfl) ?_
    refine e_iret rfl rfl (Nat.le_refl _) (Nat.le_refl _) ?_
    exact ⟨rfl, rfl⟩
def fdC (S : St) (b : Int32) : Int32 := if wi b 0 255 = 0 then 1 else if S.1 21 23 = 3000 then 2 else 0
def fdT (S : St) (b : Int32) : St := puI (puI (puI S 21 0 0) 27 (S.1 21 23).toNatClampNeg b) 21 23 (S.1 21 23 + 1)
def fdS (S : St) (b : Int32) : St := if fdC S b = 0 then fdT S b else puI S 21 0 (fdC S b)
def fdR (S : St) (b : Int32) : Int32 := if fdC S b = 0 then S.1 21 23 + 1 else 0
theorem cm_lt {x : Int32} {n : Nat} (h : x = nI n) (hn : n ≤ 3000) (h2 : ¬ x = 3000) : n < 3000 := by
  rcases Nat.lt_or_ge n 3000 with g | g
  · exact g
  · exact absurd (by rw [h, show n = 3000 by omega]; rfl) h2
set_option maxHeartbeats 4000000 in
set_option maxRecDepth 40000 in
theorem k_M_feed {l : Launch} {h : Nat} {S : St} {b : Int32} {n : Nat} (hn : S.1 21 23 = nI n) (hn2 : n ≤ 3000) : KK l (SHm h) (1, 22) m_M_feed [aR 21, aI b] S (ans (some (aI (fdR S b))) (fdS S b)) := by
  refine k_start ok_M_feed (Nat.le_of_ble_eq_true rfl) ?_
  iterate 2 refine e_sp rfl rfl rfl ?_
  refine e_ci 0 rfl rfl ?_
  refine e_cs 255 rfl rfl ?_
  refine e_callS1 ok_M_in rfl lk_M_110 k_M_in rfl rfl ⟨Nat.le_of_ble_eq_true rfl, Nat.le_of_ble_eq_true rfl⟩ ⟨Nat.zero_le _, Nat.zero_le _⟩ (Nat.le_of_ble_eq_true rfl) ?_
  refine e_ifne rfl (fun h1 => ?_) (fun h1 => ?_)
  · iterate 2 refine e_sp rfl rfl rfl ?_
    refine e_cs 3000 rfl rfl ?_
    refine e_icne rfl (fun h2 => ?_) (fun h2 => ?_)
    · refine e_ci 0 rfl rfl ?_
      iterate 3 refine e_sp rfl rfl rfl ?_
      refine e_ifle rfl (fun _ => ?_) (fun h3 => absurd h3 (by first | decide | simp [puI, pt, upd]))
      iterate 5 refine e_sp rfl rfl rfl ?_
      refine e_iast rfl (by first | rfl | assumption) (by (show vp_in (S.1 21 23) 3000; rw [hn]; exact vp_in_nI (cm_lt hn hn2 (by assumption)) (by decide))) ?_
      iterate 3 refine e_sp rfl rfl rfl ?_
      refine e_ci 1 rfl rfl ?_
      iterate 4 refine e_sp rfl rfl rfl ?_
      refine e_iret rfl rfl (Nat.le_refl _) (Nat.le_refl _) ?_
      first
      | (have e9 : fdC S b = 2 := (if_neg h1).trans (if_pos h2)
         exact ⟨by { rw [fdR, e9]; rfl }, by { rw [fdS, e9]; rfl }⟩)
      | (have e9 : fdC S b = 0 := (if_neg h1).trans (if_neg h2)
         exact ⟨by { rw [fdR, e9, if_pos rfl]; simp [puI, pt, upd] }, by { rw [fdS, e9, if_pos rfl]; simp [fdT, puI, pt, upd] }⟩)
    · refine e_ci 2 rfl rfl ?_
      refine e_goto rfl ?_
      iterate 3 refine e_sp rfl rfl rfl ?_
      refine e_ifle rfl (fun h4 => absurd h4 (by first | decide | simp [puI, pt, upd])) (fun _ => ?_)
      refine e_ci 0 rfl rfl ?_
      refine e_iret rfl rfl (Nat.le_refl _) (Nat.le_refl _) ?_
      first
      | (have e9 : fdC S b = 2 := (if_neg h1).trans (if_pos h2)
         exact ⟨by { rw [fdR, e9]; rfl }, by { rw [fdS, e9]; rfl }⟩)
      | (have e9 : fdC S b = 0 := (if_neg h1).trans (if_neg h2)
         exact ⟨by { rw [fdR, e9, if_pos rfl]; simp [puI, pt, upd] }, by { rw [fdS, e9, if_pos rfl]; simp [fdT, puI, pt, upd] }⟩)
  · refine e_ci 1 rfl rfl ?_
    refine e_goto rfl ?_
    iterate 3 refine e_sp rfl rfl rfl ?_
    refine e_ifle rfl (fun h5 => absurd h5 (by first | decide | simp [puI, pt, upd])) (fun _ => ?_)
    refine e_ci 0 rfl rfl ?_
    refine e_iret rfl rfl (Nat.le_refl _) (Nat.le_refl _) ?_
    have e9 : fdC S b = 1 := by rw [fdC, if_pos h1]
    exact ⟨by rw [fdR, e9]; rfl, by rw [fdS, e9]; rfl⟩
def psF (i : Nat) (T : St) : St := puI (puI T 27 (T.1 21 23).toNatClampNeg (mbM T i)) 21 23 (T.1 21 23 + 1)
def psL (S : St) (n : Nat) : St := nF psF n (puI S 21 0 0)
def psC (S : St) : Int32 := if S.1 21 23 + S.1 21 21 ≤ 3000 then 0 else 1
def psS (S : St) (n : Nat) : St := if psC S = 0 then psL S n else puI S 21 0 1
def psR (S : St) (n : Nat) : Int32 := if psC S = 0 then (psL S n).1 21 23 else 0
theorem psN_k {S : St} {k : Nat} (h : k ≠ 23) (i : Nat) : (nF psF i S).1 21 k = S.1 21 k :=
  nF_inv (f := psF) (fun T => T.1 21 k = S.1 21 k) (fun i T hT => by rw [← hT]; simp [psF, puI, pt, upd, h]) i S rfl
theorem psN_c {S : St} {c : Nat} (hc : S.1 21 23 = nI c) : ∀ i, (nF psF i S).1 21 23 = nI (c + i)
  | 0 => hc
  | i + 1 => by
    have h := psN_c hc i
    show (psF i (nF psF i S)).1 21 23 = _
    rw [show nI (c + (i + 1)) = nI (c + i) + 1 from (nI_1 _).symm, ← h]
    simp [psF, puI, pt, upd]
set_option maxHeartbeats 4000000 in
set_option maxRecDepth 40000 in
theorem k_M_pass {l : Launch} {h : Nat} {S : St} {q dd cc : Nat} (hq : S.1 21 20 = nI q) (hq2 : q ≤ 60000) (hd : S.1 21 21 = nI dd) (hd2 : dd ≤ 60000) (hc : S.1 21 23 = nI cc) (hc2 : cc ≤ 3000) : KK l (SHm h) (1, 23) m_M_pass [aR 21] S (ans (some (aI (psR S dd))) (psS S dd)) := by
  refine k_start ok_M_pass (Nat.le_of_ble_eq_true rfl) ?_
  have hq0 : (puI S 21 0 0).1 21 20 = nI q := by simpa [puI, pt, upd] using hq
  have hd0 : (puI S 21 0 0).1 21 21 = nI dd := by simpa [puI, pt, upd] using hd
  have hc0 : (puI S 21 0 0).1 21 23 = nI cc := by simpa [puI, pt, upd] using hc
  have hle : S.1 21 23 + S.1 21 21 ≤ 3000 → cc + dd ≤ 3000 := fun h9 => by
    rw [hc, hd, nI_add] at h9
    rcases Nat.lt_or_ge 3000 (cc + dd) with g | g
    · exact absurd h9 (nI_ge g (by omega))
    · exact g
  iterate 6 refine e_sp rfl rfl rfl ?_
  refine e_cs 3000 rfl rfl ?_
  refine e_icle rfl (fun h1 => ?_) (fun h1 => ?_)
  · refine e_ci 0 rfl rfl ?_
    iterate 3 refine e_sp rfl rfl rfl ?_
    refine e_ifle rfl (fun _ => ?_) (fun h2 => absurd h2 (by first | decide | simp [puI, pt, upd]))
    refine e_ci 0 rfl rfl ?_
    iterate 1 refine e_sp rfl rfl rfl ?_
    try dsimp only
    have hp : psC S = 0 := by rw [psC, if_pos h1]
    have hlt : cc + dd ≤ 3000 := hle h1
    have L1 := e_for (P := fun i => E0 l (SHm h) (1, 23) m_M_pass 35 [some (aR 21), some (aI (nI i))] [] (nF psF i (puI S 21 0 0)) (ans (some (aI (psR S dd))) (psS S dd))) (dd) (by
        iterate 3 refine e_sp rfl rfl rfl ?_
        refine e_icge rfl (fun h1 => ?_) (fun h1 => ?_)
        · iterate 2 refine e_sp rfl rfl rfl ?_
          refine e_iret rfl rfl (Nat.le_refl _) (Nat.le_refl _) ?_
          exact ⟨by rw [psR, if_pos hp]; rfl, by rw [psS, if_pos hp]; rfl⟩
        · try dsimp only
          rw [psN_k (by decide), hd0] at h1
          exact absurd (nI_le (Nat.le_refl _) (by omega)) h1) (fun i hi ihi => by
        iterate 3 refine e_sp rfl rfl rfl ?_
        refine e_icge rfl (fun h1 => ?_) (fun h1 => ?_)
        · try dsimp only
          rw [psN_k (by decide), hd0] at h1
          exact absurd h1 (nI_ge hi (by omega))
        · iterate 6 refine e_sp rfl rfl rfl ?_
          refine e_callV1 ok_M_madeByte rfl lk_M_209 (by rfl) (by rfl) (k_M_madeByte (q := q) ((psN_k (by decide) i).trans hq0) hq2 (by omega)) rfl rfl ⟨Nat.le_of_ble_eq_true rfl, Nat.le_of_ble_eq_true rfl⟩ ⟨Nat.zero_le _, Nat.zero_le _⟩ (Nat.le_of_ble_eq_true rfl) ?_
          refine e_iast rfl (by first | rfl | assumption) (by (rw [psN_c hc0 i]; exact vp_in_nI (show cc + i < 3000 by omega) (by decide))) ?_
          iterate 3 refine e_sp rfl rfl rfl ?_
          refine e_ci 1 rfl rfl ?_
          iterate 2 refine e_sp rfl rfl rfl ?_
          refine e_inc 1 rfl rfl rfl rfl ?_
          refine e_goto rfl ?_
          try dsimp only
          rw [nI_1]
          exact ihi)
    exact L1
  · refine e_ci 1 rfl rfl ?_
    refine e_goto rfl ?_
    iterate 3 refine e_sp rfl rfl rfl ?_
    refine e_ifle rfl (fun h3 => absurd h3 (by first | decide | simp [puI, pt, upd])) (fun _ => ?_)
    refine e_ci 0 rfl rfl ?_
    refine e_iret rfl rfl (Nat.le_refl _) (Nat.le_refl _) ?_
    have hp : psC S = 1 := by rw [psC, if_neg h1]
    exact ⟨by rw [psR, hp]; rfl, by rw [psS, hp]; rfl⟩
def cxC (c w : Int32) : Int32 := if wi c 0 63 = 0 then 1 else if wi w 0 1 = 0 then 2 else 0
def cxR (S : St) (c w : Int32) : Int32 := if wi c 0 63 = 0 then 0 else if wi w 0 1 = 0 then 0 else if w = 0 then S.1 28 c.toNatClampNeg else S.1 29 c.toNatClampNeg
set_option maxHeartbeats 4000000 in
set_option maxRecDepth 40000 in
theorem k_M_context {l : Launch} {h : Nat} {S : St} {c w : Int32}  : KK l (SHm h) (1, 22) m_M_context [aR 21, aI c, aI w] S (ans (some (aI (cxR S c w))) (puI S 21 0 (cxC c w))) := by
  refine k_start ok_M_context (Nat.le_of_ble_eq_true rfl) ?_
  iterate 2 refine e_sp rfl rfl rfl ?_
  refine e_ci 0 rfl rfl ?_
  refine e_cb 63 rfl rfl ?_
  refine e_callS1 ok_M_in rfl lk_M_110 k_M_in rfl rfl ⟨Nat.le_of_ble_eq_true rfl, Nat.le_of_ble_eq_true rfl⟩ ⟨Nat.zero_le _, Nat.zero_le _⟩ (Nat.le_of_ble_eq_true rfl) ?_
  refine e_ifne rfl (fun h1 => ?_) (fun h1 => ?_)
  · iterate 1 refine e_sp rfl rfl rfl ?_
    refine e_ci 0 rfl rfl ?_
    refine e_ci 1 rfl rfl ?_
    refine e_callS1 ok_M_in rfl lk_M_110 k_M_in rfl rfl ⟨Nat.le_of_ble_eq_true rfl, Nat.le_of_ble_eq_true rfl⟩ ⟨Nat.zero_le _, Nat.zero_le _⟩ (Nat.le_of_ble_eq_true rfl) ?_
    refine e_ifne rfl (fun h2 => ?_) (fun h2 => ?_)
    · refine e_ci 0 rfl rfl ?_
      iterate 3 refine e_sp rfl rfl rfl ?_
      refine e_ifle rfl (fun _ => ?_) (fun h3 => absurd h3 (by first | decide | simp [puI, pt, upd]))
      iterate 1 refine e_sp rfl rfl rfl ?_
      refine e_ifne rfl (fun h4 => ?_) (fun h4 => ?_)
      · iterate 3 refine e_sp rfl rfl rfl ?_
        refine e_iald rfl (by first | rfl | assumption) (by exact wi_in (n := 64) (by decide) (by assumption)) ?_
        refine e_iret rfl rfl (Nat.le_refl _) (Nat.le_refl _) ?_
        exact ⟨by unfold cxR; (first | rw [if_pos h1] | rw [if_neg h1] | skip); (first | rw [if_pos h2] | rw [if_neg h2] | skip); (first | rw [if_pos h4] | rw [if_neg h4] | skip); try rfl, by unfold cxC; (first | rw [if_pos h1] | rw [if_neg h1] | skip); (first | rw [if_pos h2] | rw [if_neg h2] | skip); (first | rw [if_pos h4] | rw [if_neg h4] | skip); try rfl⟩
      · iterate 3 refine e_sp rfl rfl rfl ?_
        refine e_iald rfl (by first | rfl | assumption) (by exact wi_in (n := 64) (by decide) (by assumption)) ?_
        refine e_goto rfl ?_
        refine e_iret rfl rfl (Nat.le_refl _) (Nat.le_refl _) ?_
        exact ⟨by unfold cxR; (first | rw [if_pos h1] | rw [if_neg h1] | skip); (first | rw [if_pos h2] | rw [if_neg h2] | skip); (first | rw [if_pos h4] | rw [if_neg h4] | skip); try rfl, by unfold cxC; (first | rw [if_pos h1] | rw [if_neg h1] | skip); (first | rw [if_pos h2] | rw [if_neg h2] | skip); (first | rw [if_pos h4] | rw [if_neg h4] | skip); try rfl⟩
    · refine e_ci 2 rfl rfl ?_
      refine e_goto rfl ?_
      iterate 3 refine e_sp rfl rfl rfl ?_
      refine e_ifle rfl (fun h5 => absurd h5 (by first | decide | simp [puI, pt, upd])) (fun _ => ?_)
      refine e_ci 0 rfl rfl ?_
      refine e_goto rfl ?_
      refine e_iret rfl rfl (Nat.le_refl _) (Nat.le_refl _) ?_
      exact ⟨by unfold cxR; (first | rw [if_pos h1] | rw [if_neg h1] | skip); (first | rw [if_pos h2] | rw [if_neg h2] | skip); try rfl, by unfold cxC; (first | rw [if_pos h1] | rw [if_neg h1] | skip); (first | rw [if_pos h2] | rw [if_neg h2] | skip); try rfl⟩
  · refine e_ci 1 rfl rfl ?_
    refine e_goto rfl ?_
    iterate 3 refine e_sp rfl rfl rfl ?_
    refine e_ifle rfl (fun h6 => absurd h6 (by first | decide | simp [puI, pt, upd])) (fun _ => ?_)
    refine e_ci 0 rfl rfl ?_
    refine e_goto rfl ?_
    refine e_iret rfl rfl (Nat.le_refl _) (Nat.le_refl _) ?_
    exact ⟨by unfold cxR; (first | rw [if_pos h1] | rw [if_neg h1] | skip); try rfl, by unfold cxC; (first | rw [if_pos h1] | rw [if_neg h1] | skip); try rfl⟩
theorem daM_0 {S : St} {k : Nat} {v : Int32} {o : Nat} (h : o ≠ 21) : daM (puI S 21 k v) o = daM S o := by
  have e : daF (puI S 21 k v) o = daF S o := by
    funext i w
    unfold daF
    rw [puI_o h]
  unfold daM
  rw [e]
def tdN (S : St) (m : Nat) (w : Int32) : Int32 := if w = 0 then S.1 21 1 else if w = 1 then S.1 21 2 else if w = 2 then S.1 21 7 else if w = 3 then S.1 21 5 else if w = 4 then S.1 21 6 else if w = 5 then nI (bl 6 m) else if w = 6 then S.1 21 9 else if w = 7 then S.1 21 10 else if w = 8 then S.1 21 21 else if w = 9 then S.1 21 23 else if w = 10 then daM S 22 else if w = 11 then S.1 21 31 else -1
set_option maxHeartbeats 4000000 in
set_option maxRecDepth 40000 in
theorem k_M_told {l : Launch} {h m : Nat} {S : St} {w : Int32} (hm : S.1 21 7 = nI (m + 1)) (hm2 : m < 64) : KK l (SHm h) (1, 22) m_M_told [aR 21, aI w] S (ans (some (aI (tdN S m w))) (puI S 21 0 0)) := by
  refine k_start ok_M_told (Nat.le_of_ble_eq_true rfl) ?_
  have hda : daM (puI S 21 0 0) 22 = daM S 22 := daM_0 (by decide)
  refine e_sp rfl rfl rfl ?_
  refine e_ci 0 rfl rfl ?_
  iterate 2 refine e_sp rfl rfl rfl ?_
  by_cases h0 : w = 0
  · subst h0
    refine e_tswI (off := 62) (tgt := 68) rfl (by decide) (by decide) (by decide) (by decide) ?_
    iterate 2 refine e_sp rfl rfl rfl ?_
    refine e_iret rfl rfl (Nat.le_refl _) (Nat.le_refl _) ?_
    exact ⟨by simp [tdN, puI, pt, upd], rfl⟩
  by_cases h1 : w = 1
  · subst h1
    refine e_tswI (off := 67) (tgt := 73) rfl (by decide) (by decide) (by decide) (by decide) ?_
    iterate 2 refine e_sp rfl rfl rfl ?_
    refine e_iret rfl rfl (Nat.le_refl _) (Nat.le_refl _) ?_
    exact ⟨by simp [tdN, puI, pt, upd], rfl⟩
  by_cases h2 : w = 2
  · subst h2
    refine e_tswI (off := 72) (tgt := 78) rfl (by decide) (by decide) (by decide) (by decide) ?_
    iterate 2 refine e_sp rfl rfl rfl ?_
    refine e_iret rfl rfl (Nat.le_refl _) (Nat.le_refl _) ?_
    exact ⟨by simp [tdN, puI, pt, upd], rfl⟩
  by_cases h3 : w = 3
  · subst h3
    refine e_tswI (off := 77) (tgt := 83) rfl (by decide) (by decide) (by decide) (by decide) ?_
    iterate 2 refine e_sp rfl rfl rfl ?_
    refine e_iret rfl rfl (Nat.le_refl _) (Nat.le_refl _) ?_
    exact ⟨by simp [tdN, puI, pt, upd], rfl⟩
  by_cases h4 : w = 4
  · subst h4
    refine e_tswI (off := 82) (tgt := 88) rfl (by decide) (by decide) (by decide) (by decide) ?_
    iterate 2 refine e_sp rfl rfl rfl ?_
    refine e_iret rfl rfl (Nat.le_refl _) (Nat.le_refl _) ?_
    exact ⟨by simp [tdN, puI, pt, upd], rfl⟩
  by_cases h5 : w = 5
  · subst h5
    refine e_tswI (off := 87) (tgt := 93) rfl (by decide) (by decide) (by decide) (by decide) ?_
    iterate 1 refine e_sp rfl rfl rfl ?_
    refine e_callV1 ok_M_planes rfl lk_M_114 (by rfl) (by rfl) (k_M_planes (m := m) (by simpa [puI, pt, upd] using hm) hm2) rfl rfl ⟨Nat.le_of_ble_eq_true rfl, Nat.le_of_ble_eq_true rfl⟩ ⟨Nat.zero_le _, Nat.zero_le _⟩ (Nat.le_of_ble_eq_true rfl) ?_
    refine e_iret rfl rfl (Nat.le_refl _) (Nat.le_refl _) ?_
    exact ⟨by simp [tdN, puI, pt, upd], rfl⟩
  by_cases h6 : w = 6
  · subst h6
    refine e_tswI (off := 92) (tgt := 98) rfl (by decide) (by decide) (by decide) (by decide) ?_
    iterate 2 refine e_sp rfl rfl rfl ?_
    refine e_iret rfl rfl (Nat.le_refl _) (Nat.le_refl _) ?_
    exact ⟨by simp [tdN, puI, pt, upd], rfl⟩
  by_cases h7 : w = 7
  · subst h7
    refine e_tswI (off := 97) (tgt := 103) rfl (by decide) (by decide) (by decide) (by decide) ?_
    iterate 2 refine e_sp rfl rfl rfl ?_
    refine e_iret rfl rfl (Nat.le_refl _) (Nat.le_refl _) ?_
    exact ⟨by simp [tdN, puI, pt, upd], rfl⟩
  by_cases h8 : w = 8
  · subst h8
    refine e_tswI (off := 102) (tgt := 108) rfl (by decide) (by decide) (by decide) (by decide) ?_
    iterate 2 refine e_sp rfl rfl rfl ?_
    refine e_iret rfl rfl (Nat.le_refl _) (Nat.le_refl _) ?_
    exact ⟨by simp [tdN, puI, pt, upd], rfl⟩
  by_cases h9 : w = 9
  · subst h9
    refine e_tswI (off := 107) (tgt := 113) rfl (by decide) (by decide) (by decide) (by decide) ?_
    iterate 2 refine e_sp rfl rfl rfl ?_
    refine e_iret rfl rfl (Nat.le_refl _) (Nat.le_refl _) ?_
    exact ⟨by simp [tdN, puI, pt, upd], rfl⟩
  by_cases h10 : w = 10
  · subst h10
    refine e_tswI (off := 112) (tgt := 118) rfl (by decide) (by decide) (by decide) (by decide) ?_
    iterate 2 refine e_sp rfl rfl rfl ?_
    refine e_callS1 ok_M_dark rfl lk_M_164 (k_M_dark (by rfl)) rfl rfl ⟨Nat.le_of_ble_eq_true rfl, Nat.le_of_ble_eq_true rfl⟩ ⟨Nat.zero_le _, Nat.zero_le _⟩ (Nat.le_of_ble_eq_true rfl) ?_
    refine e_iret rfl rfl (Nat.le_refl _) (Nat.le_refl _) ?_
    exact ⟨by rw [hda]; simp [tdN], rfl⟩
  by_cases h11 : w = 11
  · subst h11
    refine e_tswI (off := 120) (tgt := 126) rfl (by decide) (by decide) (by decide) (by decide) ?_
    iterate 2 refine e_sp rfl rfl rfl ?_
    refine e_iret rfl rfl (Nat.le_refl _) (Nat.le_refl _) ?_
    exact ⟨by simp [tdN, puI, pt, upd], rfl⟩
  have hn : ∀ k : Int32, ¬ w = k → w.toInt ≠ k.toInt := fun k hk e => hk (Int32.toInt_inj.mp e)
  have g0 := hn 0 h0
  rw [show (0 : Int32).toInt = 0 from rfl] at g0
  have g1 := hn 1 h1
  rw [show (1 : Int32).toInt = 1 from rfl] at g1
  have g2 := hn 2 h2
  rw [show (2 : Int32).toInt = 2 from rfl] at g2
  have g3 := hn 3 h3
  rw [show (3 : Int32).toInt = 3 from rfl] at g3
  have g4 := hn 4 h4
  rw [show (4 : Int32).toInt = 4 from rfl] at g4
  have g5 := hn 5 h5
  rw [show (5 : Int32).toInt = 5 from rfl] at g5
  have g6 := hn 6 h6
  rw [show (6 : Int32).toInt = 6 from rfl] at g6
  have g7 := hn 7 h7
  rw [show (7 : Int32).toInt = 7 from rfl] at g7
  have g8 := hn 8 h8
  rw [show (8 : Int32).toInt = 8 from rfl] at g8
  have g9 := hn 9 h9
  rw [show (9 : Int32).toInt = 9 from rfl] at g9
  have g10 := hn 10 h10
  rw [show (10 : Int32).toInt = 10 from rfl] at g10
  have g11 := hn 11 h11
  rw [show (11 : Int32).toInt = 11 from rfl] at g11
  refine e_tswO (tgt := 131) rfl (by omega) (by decide) ?_
  refine e_ci (-1) rfl rfl ?_
  refine e_iret rfl rfl (Nat.le_refl _) (Nat.le_refl _) ?_
  exact ⟨by simp [tdN, h0, h1, h2, h3, h4, h5, h6, h7, h8, h9, h10, h11], rfl⟩
end
section
/-! the reference: reading -/
def atM (S : St) : Nat := (S.1 21 32).toNatClampNeg
def roV (S : St) : Int32 := if S.1 21 32 < 8 * S.1 21 23 then S.1 27 (atM S / 8) >>> ((7 - nI (atM S % 8)) &&& 31) &&& 1 else 0
def roS (S : St) : St := if S.1 21 32 < 8 * S.1 21 23 then puI S 21 32 (S.1 21 32 + 1) else puI S 21 35 1
/-- the bytes that came, and the place where the reading stands -/
def atOK (c : Nat) (S : St) : Prop := S.1 21 23 = nI c ∧ ∃ a, a ≤ 8 * c ∧ S.1 21 32 = nI a
theorem atOK.lt {c : Nat} {S : St} (h : atOK c S) (hc : c ≤ 3000) (h9 : S.1 21 32 < 8 * S.1 21 23) : atM S < 8 * c ∧ S.1 21 32 = nI (atM S) := by
  obtain ⟨h1, a, h2, h3⟩ := h
  have e : atM S = a := by rw [atM, h3, nI_clamp (by omega)]
  rw [e]
  refine ⟨?_, h3⟩
  rw [h3, h1, show (8 : Int32) = nI 8 from rfl, pk_mul] at h9
  rcases Nat.lt_or_ge a (8 * c) with g | g
  · exact g
  · exact absurd h9 (nI_nlt g (by omega))
theorem roS_at {c : Nat} {S : St} (h : atOK c S) (hc : c ≤ 3000) : atOK c (roS S) := by
  unfold roS
  by_cases h9 : S.1 21 32 < 8 * S.1 21 23
  · rw [if_pos h9]
    obtain ⟨e1, e2⟩ := h.lt hc h9
    refine ⟨?_, atM S + 1, by omega, ?_⟩
    · rw [← h.1]; simp [puI, pt, upd]
    · rw [← nI_1, ← e2]; simp [puI, pt, upd]
  · rw [if_neg h9]
    obtain ⟨h1, a, h2, h3⟩ := h
    refine ⟨?_, a, h2, ?_⟩
    · rw [← h1]; simp [puI, pt, upd]
    · rw [← h3]; simp [puI, pt, upd]
def rsS (S : St) : Nat → St
  | 0 => S
  | i + 1 => roS (rsS S i)
def rsV (S : St) : Nat → Int32
  | 0 => 0
  | i + 1 => 2 * rsV S i + roV (rsS S i)
theorem rsS_at {c : Nat} {S : St} (h : atOK c S) (hc : c ≤ 3000) : ∀ i, atOK c (rsS S i)
  | 0 => h
  | i + 1 => roS_at (rsS_at h hc i) hc
def moN : Nat → St → St
  | 0, S => S
  | f + 1, S => if roV S = 1 then moN f (roS S) else roS S
def moC : Nat → St → Nat
  | 0, _ => 0
  | f + 1, S => if roV S = 1 then moC f (roS S) + 1 else 0
theorem moC_le : ∀ f S, moC f S ≤ f
  | 0, _ => Nat.le_refl _
  | f + 1, S => by
    simp only [moC]
    split
    · have := moC_le f (roS S); omega
    · omega
theorem moN_at {c : Nat} (hc : c ≤ 3000) : ∀ f S, atOK c S → atOK c (moN f S)
  | 0, _, h => h
  | f + 1, S, h => by
    simp only [moN]
    split
    · exact moN_at hc f _ (roS_at h hc)
    · exact roS_at h hc
/-- behind the bits of a run -/
def mdA (T : St) (v : Int32) : St := puI (puI T 21 33 v) 21 34 1
def mdB (T : St) : St := puI T 21 31 (T.1 21 31 + (if T.1 21 35 = 0 then 1 else 0))
def mdC (T : St) : St := puI T 21 37 (if T.1 21 35 = 0 then (if T.1 21 33 ≤ T.1 21 36 then 0 else 1) else 0)
def mdF (T : St) (v : Int32) : St := krM (mdC (mdB (mdA T v))) ((mdC (mdB (mdA T v))).1 21 33)
def mdE (T : St) (on kk : Nat) : St := if nI on = 12 then mdF (rsS T 13) (rsV T 13) else mdF (rsS T kk) (nI on <<< (nI kk &&& 31) + rsV T kk)
def mdS (S : St) : St := mdE (moN 12 S) (moC 12 S) (lkM S)
theorem mdF_k {T : St} {v : Int32} {k : Nat} (h : k ≠ 29) (h1 : k ≠ 30) (h2 : k ≠ 31) (h3 : k ≠ 33) (h4 : k ≠ 34) (h5 : k ≠ 37) : (mdF T v).1 21 k = T.1 21 k := by
  rw [mdF, krM_k h h1]
  simp [mdA, mdB, mdC, puI, pt, upd, h2, h3, h4, h5]
theorem mdF_at {c : Nat} {T : St} {v : Int32} (h : atOK c T) : atOK c (mdF T v) := by
  obtain ⟨h1, a, h2, h3⟩ := h
  exact ⟨by rw [mdF_k (by decide) (by decide) (by decide) (by decide) (by decide) (by decide)]; exact h1, a, h2, by rw [mdF_k (by decide) (by decide) (by decide) (by decide) (by decide) (by decide)]; exact h3⟩
theorem mdE_at {c : Nat} {T : St} {on kk : Nat} (hc : c ≤ 3000) (h : atOK c T) : atOK c (mdE T on kk) := by
  unfold mdE
  split
  · exact mdF_at (rsS_at h hc _)
  · exact mdF_at (rsS_at h hc _)
theorem mdS_at {c : Nat} {T : St} (hc : c ≤ 3000) (h : atOK c T) : atOK c (mdS T) := mdE_at hc (moN_at hc _ _ h)
def mtT (S : St) : St := if S.1 21 34 = 0 then mdS S else S
def mtV (T : St) (f : Int32) : Int32 := if T.1 21 33 ≤ 0 then (if f = 0 then 1 else 0) else if T.1 21 37 = 0 then f else (if f = 0 then 1 else 0)
def mtS (T : St) : St := if T.1 21 33 ≤ 0 then puI T 21 34 0 else if T.1 21 37 = 0 then puI T 21 33 (T.1 21 33 - 1) else puI T 21 34 0
def mbV (S : St) (f : Int32) : Int32 := mtV (mtT S) f
def mbS (S : St) : St := mtS (mtT S)
theorem mbS_at {c : Nat} {T : St} (hc : c ≤ 3000) (h : atOK c T) : atOK c (mbS T) := by
  have h1 : atOK c (mtT T) := by
    unfold mtT
    split
    · exact mdS_at hc h
    · exact h
  obtain ⟨h2, a, h3, h4⟩ := h1
  unfold mbS
  generalize mtT T = U at h2 h4 ⊢
  unfold mtS
  split
  · exact ⟨by rw [← h2]; simp [puI, pt, upd], a, h3, by rw [← h4]; simp [puI, pt, upd]⟩
  · split
    · exact ⟨by rw [← h2]; simp [puI, pt, upd], a, h3, by rw [← h4]; simp [puI, pt, upd]⟩
    · exact ⟨by rw [← h2]; simp [puI, pt, upd], a, h3, by rw [← h4]; simp [puI, pt, upd]⟩
theorem mbV_01 {S : St} {f : Int32} (h : f = 0 ∨ f = 1) : mbV S f = 0 ∨ mbV S f = 1 := by
  unfold mbV mtV
  rcases h with rfl | rfl
  · split
    · exact Or.inr rfl
    · split
      · exact Or.inl rfl
      · exact Or.inr rfl
  · split
    · exact Or.inl rfl
    · split
      · exact Or.inr rfl
      · exact Or.inl rfl
set_option maxHeartbeats 4000000 in
set_option maxRecDepth 40000 in
theorem k_M_readOne {l : Launch} {h c : Nat} {S : St} (ha : atOK c S) (hc : c ≤ 3000) : KK l (SHm h) (0, 0) m_M_readOne [aR 21] S (ans (some (aI (roV S))) (roS S)) := by
  refine k_start ok_M_readOne (Nat.le_of_ble_eq_true rfl) ?_
  iterate 2 refine e_sp rfl rfl rfl ?_
  refine e_cb 8 rfl rfl ?_
  iterate 3 refine e_sp rfl rfl rfl ?_
  refine e_iclt rfl (fun h1 => ?_) (fun h1 => ?_)
  · obtain ⟨hlt, hat⟩ := ha.lt hc h1
    iterate 4 refine e_sp rfl rfl rfl ?_
    refine e_cb 8 rfl rfl ?_
    refine e_div rfl (by decide) ?_
    try dsimp only
    rw [show S.1 21 32 / 8 = nI (atM S / 8) by rw [show (8 : Int32) = nI 8 from rfl, ← dvd9 8 (by omega) (by decide) (by decide), ← hat]]
    refine e_iald rfl (by first | rfl | assumption) (by exact vp_in_nI (show atM S / 8 < 3000 by omega) (by decide)) ?_
    rw [nI_clamp (by omega)]
    refine e_cb 7 rfl rfl ?_
    iterate 2 refine e_sp rfl rfl rfl ?_
    refine e_cb 8 rfl rfl ?_
    refine e_rem rfl (by decide) ?_
    try dsimp only
    rw [show S.1 21 32 - S.1 21 32 / 8 * 8 = nI (atM S % 8) by rw [show (8 : Int32) = nI 8 from rfl, ← rmd 8 (by omega) (by decide) (by decide), ← hat]]
    iterate 2 refine e_sp rfl rfl rfl ?_
    refine e_ci 1 rfl rfl ?_
    iterate 5 refine e_sp rfl rfl rfl ?_
    refine e_ci 1 rfl rfl ?_
    iterate 3 refine e_sp rfl rfl rfl ?_
    refine e_iret rfl rfl (Nat.le_refl _) (Nat.le_refl _) ?_
    exact ⟨by rw [roV]; (first | rw [if_pos h1] | rw [if_neg h1] | skip), by rw [roS]; (first | rw [if_pos h1] | rw [if_neg h1] | skip)⟩
  · iterate 1 refine e_sp rfl rfl rfl ?_
    refine e_ci 1 rfl rfl ?_
    iterate 1 refine e_sp rfl rfl rfl ?_
    refine e_ci 0 rfl rfl ?_
    refine e_iret rfl rfl (Nat.le_refl _) (Nat.le_refl _) ?_
    exact ⟨by rw [roV]; (first | rw [if_pos h1] | rw [if_neg h1] | skip), by rw [roS]; (first | rw [if_pos h1] | rw [if_neg h1] | skip)⟩
set_option maxHeartbeats 4000000 in
set_option maxRecDepth 40000 in
theorem k_M_readSome {l : Launch} {h c n : Nat} {S : St} (ha : atOK c S) (hc : c ≤ 3000) (hn : n < 2 ^ 31) : KK l (SHm h) (1, 21) m_M_readSome [aR 21, aI (nI n)] S (ans (some (aI (rsV S n))) (rsS S n)) := by
  refine k_start ok_M_readSome (Nat.le_of_ble_eq_true rfl) ?_
  have L1 := e_for (P := fun i => E0 l (SHm h) (1, 21) m_M_readSome 4 [some (aR 21), some (aI (nI n)), some (aI (rsV S i)), some (aI (nI i))] [] (rsS S i) (ans (some (aI (rsV S n))) (rsS S n))) (n) (by
      iterate 2 refine e_sp rfl rfl rfl ?_
      refine e_icge rfl (fun h1 => ?_) (fun h1 => ?_)
      · iterate 1 refine e_sp rfl rfl rfl ?_
        refine e_iret rfl rfl (Nat.le_refl _) (Nat.le_refl _) ?_
        exact ⟨rfl, rfl⟩
      · try dsimp only
        exact absurd (nI_le (Nat.le_refl _) hn) h1) (fun i hi ihi => by
      iterate 2 refine e_sp rfl rfl rfl ?_
      refine e_icge rfl (fun h1 => ?_) (fun h1 => ?_)
      · try dsimp only
        exact absurd h1 (nI_ge hi hn)
      · refine e_ci 2 rfl rfl ?_
        iterate 3 refine e_sp rfl rfl rfl ?_
        refine e_callV1 ok_M_readOne rfl lk_M_219 (by rfl) (by rfl) (k_M_readOne (rsS_at ha hc i) hc) rfl rfl ⟨Nat.le_of_ble_eq_true rfl, Nat.le_of_ble_eq_true rfl⟩ ⟨Nat.zero_le _, Nat.zero_le _⟩ (Nat.le_of_ble_eq_true rfl) ?_
        iterate 2 refine e_sp rfl rfl rfl ?_
        refine e_inc 1 rfl rfl rfl rfl ?_
        refine e_goto rfl ?_
        try dsimp only
        rw [nI_1]
        exact ihi)
  refine e_ci 0 rfl rfl ?_
  iterate 1 refine e_sp rfl rfl rfl ?_
  refine e_ci 0 rfl rfl ?_
  iterate 1 refine e_sp rfl rfl rfl ?_
  try dsimp only
  exact L1
set_option maxHeartbeats 4000000 in
set_option maxRecDepth 40000 in
theorem k_M_readRunD {l : Launch} {h : Nat} {T : St} {a b : Option AV} : E0 l (SHm h) (2, 44) m_M_readRun 108 [some (aR 21), a, b] [] T (ans none (krM T (T.1 21 33))) := by
  iterate 3 refine e_sp rfl rfl rfl ?_
  refine e_callV0 ok_M_keepRun rfl lk_M_186 (by rfl) (by rfl) k_M_keepRun rfl rfl ⟨Nat.le_of_ble_eq_true rfl, Nat.le_of_ble_eq_true rfl⟩ ⟨Nat.zero_le _, Nat.zero_le _⟩ (Nat.le_of_ble_eq_true rfl) ?_
  refine e_vret rfl rfl (Nat.le_refl _) (Nat.le_refl _) ?_
  exact ⟨rfl, rfl⟩
set_option maxHeartbeats 4000000 in
set_option maxRecDepth 40000 in
theorem k_M_readRunC {l : Launch} {h : Nat} {T : St} {a b : Option AV} : E0 l (SHm h) (2, 44) m_M_readRun 81 [some (aR 21), a, b] [] T (ans none (krM (mdC T) ((mdC T).1 21 33))) := by
  iterate 3 refine e_sp rfl rfl rfl ?_
  refine e_ifne rfl (fun h1 => ?_) (fun h1 => ?_)
  · refine e_ci 0 rfl rfl ?_
    try dsimp only
    refine e_sp rfl rfl rfl ?_
    refine e_st (S2 := mdC T) (by rw [mdC]; (first | rw [if_pos h1] | rw [if_neg h1] | skip); try rfl) ?_
    exact k_M_readRunD
  · iterate 4 refine e_sp rfl rfl rfl ?_
    refine e_icle rfl (fun h2 => ?_) (fun h2 => ?_)
    · refine e_ci 0 rfl rfl ?_
      try dsimp only
      refine e_sp rfl rfl rfl ?_
      refine e_st (S2 := mdC T) (by rw [mdC]; (first | rw [if_pos h1] | rw [if_neg h1] | skip); (first | rw [if_pos h2] | rw [if_neg h2] | skip); try rfl) ?_
      exact k_M_readRunD
    · refine e_ci 1 rfl rfl ?_
      refine e_goto rfl ?_
      try dsimp only
      refine e_sp rfl rfl rfl ?_
      refine e_st (S2 := mdC T) (by rw [mdC]; (first | rw [if_pos h1] | rw [if_neg h1] | skip); (first | rw [if_pos h2] | rw [if_neg h2] | skip); try rfl) ?_
      exact k_M_readRunD
set_option maxHeartbeats 4000000 in
set_option maxRecDepth 40000 in
theorem k_M_readRunB {l : Launch} {h : Nat} {T2 : St} {v : Int32} {a b : Option AV} : E0 l (SHm h) (2, 44) m_M_readRun 52 [some (aR 21), a, b] [aI v, aR 21] T2 (ans none (mdF T2 v)) := by
  iterate 2 refine e_sp rfl rfl rfl ?_
  refine e_ci 1 rfl rfl ?_
  iterate 6 refine e_sp rfl rfl rfl ?_
  refine e_ifeq rfl (fun h1 => ?_) (fun h1 => ?_)
  · refine e_ci 1 rfl rfl ?_
    try dsimp only
    refine e_sp rfl rfl rfl ?_
    refine e_sp rfl rfl rfl ?_
    refine e_st (S2 := mdB (mdA T2 v)) (by rw [mdB, mdA]; (first | rw [if_pos h1] | rw [if_neg h1])) ?_
    exact k_M_readRunC
  · refine e_ci 0 rfl rfl ?_
    refine e_goto rfl ?_
    try dsimp only
    refine e_sp rfl rfl rfl ?_
    refine e_sp rfl rfl rfl ?_
    refine e_st (S2 := mdB (mdA T2 v)) (by rw [mdB, mdA]; (first | rw [if_pos h1] | rw [if_neg h1])) ?_
    exact k_M_readRunC
set_option maxHeartbeats 4000000 in
set_option maxRecDepth 40000 in
theorem k_M_readRunT {l : Launch} {h : Nat} {T : St} {c on kk : Nat} (hT : atOK c T) (hc : c ≤ 3000) (hkk : kk ≤ 8) : E0 l (SHm h) (2, 44) m_M_readRun 27 [some (aR 21), some (aI (nI kk)), some (aI (nI on))] [] T (ans none (mdE T on kk)) := by
  iterate 2 refine e_sp rfl rfl rfl ?_
  refine e_cb 12 rfl rfl ?_
  refine e_icne rfl (fun h1 => ?_) (fun h1 => ?_)
  · rw [show mdE T on kk = mdF (rsS T kk) (nI on <<< (nI kk &&& 31) + rsV T kk) from if_neg h1]
    iterate 5 refine e_sp rfl rfl rfl ?_
    refine e_callV1 ok_M_readSome rfl lk_M_222 (by rfl) (by rfl) (k_M_readSome (n := kk) hT hc (by omega)) rfl rfl ⟨Nat.le_of_ble_eq_true rfl, Nat.le_of_ble_eq_true rfl⟩ ⟨Nat.zero_le _, Nat.zero_le _⟩ (Nat.le_of_ble_eq_true rfl) ?_
    generalize rsS T kk = T2
    generalize rsV T kk = rv
    iterate 1 refine e_sp rfl rfl rfl ?_
    try dsimp only
    exact k_M_readRunB
  · rw [show mdE T on kk = mdF (rsS T 13) (rsV T 13) from if_pos h1]
    iterate 1 refine e_sp rfl rfl rfl ?_
    refine e_cb 13 rfl rfl ?_
    refine e_callV1 ok_M_readSome rfl lk_M_222 (by rfl) (by rfl) (k_M_readSome (n := 13) hT hc (by decide)) rfl rfl ⟨Nat.le_of_ble_eq_true rfl, Nat.le_of_ble_eq_true rfl⟩ ⟨Nat.zero_le _, Nat.zero_le _⟩ (Nat.le_of_ble_eq_true rfl) ?_
    generalize rsS T 13 = T2
    generalize rsV T 13 = rv
    refine e_goto rfl ?_
    try dsimp only
    exact k_M_readRunB
set_option maxHeartbeats 4000000 in
set_option maxRecDepth 40000 in
theorem k_M_readRun {l : Launch} {h c : Nat} {S : St} (ha : atOK c S) (hc : c ≤ 3000) : KK l (SHm h) (2, 44) m_M_readRun [aR 21] S (ans none (mdS S)) := by
  refine k_start ok_M_readRun (Nat.le_of_ble_eq_true rfl) ?_
  have hS : mdS S = mdE (moN 12 S) (moC 12 S) (lkM S) := rfl
  rw [hS]
  have hk8 : lkM S ≤ 8 := lkM_le S
  have h12 := moN_at hc 12 S ha
  have L : ∀ (T0 : St) (on0 kk f i : Nat) (T : St), atOK c T0 → kk ≤ 8 → i + f = 12 → atOK c T → moN f T = T0 → i + moC f T = on0 → E0 l (SHm h) (2, 44) m_M_readRun 7 [some (aR 21), some (aI (nI kk)), some (aI (nI i))] [] T (ans none (mdE T0 on0 kk)) := by
    intro T0 on0 kk f
    induction f with
    | zero =>
      intro i T hT0 hkk hi hT e1 e2
      have hi12 : i = 12 := by omega
      iterate 1 refine e_sp rfl rfl rfl ?_
      refine e_cb 12 rfl rfl ?_
      refine e_icge rfl (fun h1 => ?_) (fun h1 => absurd (by rw [hi12]; decide) h1)
      have e3 : T = T0 := e1
      have e4 : i = on0 := e2
      rw [e3, e4]
      exact k_M_readRunT hT0 hc hkk
    | succ f ih =>
      intro i T hT0 hkk hi hT e1 e2
      iterate 1 refine e_sp rfl rfl rfl ?_
      refine e_cb 12 rfl rfl ?_
      refine e_icge rfl (fun h1 => absurd h1 (nI_ge (show i < 12 by omega) (by decide))) (fun h1 => ?_)
      iterate 1 refine e_sp rfl rfl rfl ?_
      refine e_callV1 ok_M_readOne rfl lk_M_219 (by rfl) (by rfl) (k_M_readOne hT hc) rfl rfl ⟨Nat.le_of_ble_eq_true rfl, Nat.le_of_ble_eq_true rfl⟩ ⟨Nat.zero_le _, Nat.zero_le _⟩ (Nat.le_of_ble_eq_true rfl) ?_
      refine e_ci 1 rfl rfl ?_
      refine e_icne rfl (fun h2 => ?_) (fun h2 => ?_)
      · simp only [moN, moC, h2, if_false, Nat.add_zero] at e1 e2
        rw [e1, e2]
        exact k_M_readRunT hT0 hc hkk
      · simp only [moN, moC, h2, if_true] at e1 e2
        refine e_inc 1 rfl rfl rfl rfl ?_
        refine e_goto rfl ?_
        rw [nI_1]
        exact ih (i + 1) (roS T) hT0 hkk (by omega) (roS_at hT hc) e1 (by omega)
  iterate 1 refine e_sp rfl rfl rfl ?_
  refine e_callV1 ok_M_small rfl lk_M_180 (by rfl) (by rfl) k_M_small rfl rfl ⟨Nat.le_of_ble_eq_true rfl, Nat.le_of_ble_eq_true rfl⟩ ⟨Nat.zero_le _, Nat.zero_le _⟩ (Nat.le_of_ble_eq_true rfl) ?_
  iterate 1 refine e_sp rfl rfl rfl ?_
  refine e_ci 0 rfl rfl ?_
  iterate 1 refine e_sp rfl rfl rfl ?_
  exact L (moN 12 S) (moC 12 S) (lkM S) 12 0 S h12 hk8 rfl ha rfl (Nat.zero_add _)
set_option maxHeartbeats 4000000 in
set_option maxRecDepth 40000 in
theorem k_M_readBitT {l : Launch} {h : Nat} {T : St} {f : Int32} (hf : f = 0 ∨ f = 1) : E0 l (SHm h) (3, 66) m_M_readBit 11 [some (aR 21), some (aI f)] [] T (ans (some (aI (mtV T f))) (mtS T)) := by
  iterate 2 refine e_sp rfl rfl rfl ?_
  refine e_ifle rfl (fun h1 => ?_) (fun h1 => ?_)
  · iterate 1 refine e_sp rfl rfl rfl ?_
    refine e_ci 0 rfl rfl ?_
    iterate 2 refine e_sp rfl rfl rfl ?_
    refine e_ifne rfl (fun h2 => ?_) (fun h2 => ?_)
    · refine e_ci 0 rfl rfl ?_
      refine e_zret rfl rfl (Nat.le_refl _) (Nat.le_refl _) (by first | decide | exact hf) ?_
      exact ⟨by rw [mtV]; (first | rw [if_pos h1] | rw [if_neg h1] | skip); (first | rw [if_pos h2] | rw [if_neg h2] | skip), by rw [mtS]; (first | rw [if_pos h1] | rw [if_neg h1] | skip); (first | rw [if_pos h2] | rw [if_neg h2] | skip)⟩
    · refine e_ci 1 rfl rfl ?_
      refine e_goto rfl ?_
      refine e_zret rfl rfl (Nat.le_refl _) (Nat.le_refl _) (by first | decide | exact hf) ?_
      exact ⟨by rw [mtV]; (first | rw [if_pos h1] | rw [if_neg h1] | skip); (first | rw [if_pos h2] | rw [if_neg h2] | skip), by rw [mtS]; (first | rw [if_pos h1] | rw [if_neg h1] | skip); (first | rw [if_pos h2] | rw [if_neg h2] | skip)⟩
  · iterate 2 refine e_sp rfl rfl rfl ?_
    refine e_ifne rfl (fun h3 => ?_) (fun h3 => ?_)
    · iterate 1 refine e_sp rfl rfl rfl ?_
      refine e_ci 0 rfl rfl ?_
      iterate 2 refine e_sp rfl rfl rfl ?_
      refine e_ifne rfl (fun h4 => ?_) (fun h4 => ?_)
      · refine e_ci 0 rfl rfl ?_
        refine e_zret rfl rfl (Nat.le_refl _) (Nat.le_refl _) (by first | decide | exact hf) ?_
        exact ⟨by rw [mtV]; (first | rw [if_pos h1] | rw [if_neg h1] | skip); (first | rw [if_pos h3] | rw [if_neg h3] | skip); (first | rw [if_pos h4] | rw [if_neg h4] | skip), by rw [mtS]; (first | rw [if_pos h1] | rw [if_neg h1] | skip); (first | rw [if_pos h3] | rw [if_neg h3] | skip); (first | rw [if_pos h4] | rw [if_neg h4] | skip)⟩
      · refine e_ci 1 rfl rfl ?_
        refine e_goto rfl ?_
        refine e_zret rfl rfl (Nat.le_refl _) (Nat.le_refl _) (by first | decide | exact hf) ?_
        exact ⟨by rw [mtV]; (first | rw [if_pos h1] | rw [if_neg h1] | skip); (first | rw [if_pos h3] | rw [if_neg h3] | skip); (first | rw [if_pos h4] | rw [if_neg h4] | skip), by rw [mtS]; (first | rw [if_pos h1] | rw [if_neg h1] | skip); (first | rw [if_pos h3] | rw [if_neg h3] | skip); (first | rw [if_pos h4] | rw [if_neg h4] | skip)⟩
    · iterate 3 refine e_sp rfl rfl rfl ?_
      refine e_ci 1 rfl rfl ?_
      iterate 3 refine e_sp rfl rfl rfl ?_
      refine e_zret rfl rfl (Nat.le_refl _) (Nat.le_refl _) (by first | decide | exact hf) ?_
      exact ⟨by rw [mtV]; (first | rw [if_pos h1] | rw [if_neg h1] | skip); (first | rw [if_pos h3] | rw [if_neg h3] | skip), by rw [mtS]; (first | rw [if_pos h1] | rw [if_neg h1] | skip); (first | rw [if_pos h3] | rw [if_neg h3] | skip)⟩
set_option maxHeartbeats 4000000 in
set_option maxRecDepth 40000 in
theorem k_M_readBit {l : Launch} {h c : Nat} {S : St} {f : Int32} (ha : atOK c S) (hc : c ≤ 3000) (hf : f = 0 ∨ f = 1) : KK l (SHm h) (3, 66) m_M_readBit [aR 21, aI f] S (ans (some (aI (mbV S f))) (mbS S)) := by
  refine k_start ok_M_readBit (Nat.le_of_ble_eq_true rfl) ?_
  iterate 2 refine e_sp rfl rfl rfl ?_
  refine e_ifne rfl (fun h1 => ?_) (fun h1 => ?_)
  · try dsimp only
    have e9 : mtT S = if S.1 21 34 = 0 then mdS S else S := rfl
    (first | rw [if_pos h1] at e9 | rw [if_neg h1] at e9)
    rw [mbV, mbS, e9]
    exact k_M_readBitT hf
  · iterate 1 refine e_sp rfl rfl rfl ?_
    refine e_callV0 ok_M_readRun rfl lk_M_237 (by rfl) (by rfl) (k_M_readRun ha hc) rfl rfl ⟨Nat.le_of_ble_eq_true rfl, Nat.le_of_ble_eq_true rfl⟩ ⟨Nat.zero_le _, Nat.zero_le _⟩ (Nat.le_of_ble_eq_true rfl) ?_
    try dsimp only
    have e9 : mtT S = if S.1 21 34 = 0 then mdS S else S := rfl
    (first | rw [if_pos h1] at e9 | rw [if_neg h1] at e9)
    rw [mbV, mbS, e9]
    exact k_M_readBitT hf
end
section
/-! the reference: decode -/
theorem roS_o {S : St} {o : Nat} (h : o ≠ 21) : (roS S).1 o = S.1 o ∧ (roS S).2 = S.2 := by
  unfold roS
  split
  · exact ⟨puI_o h, rfl⟩
  · exact ⟨puI_o h, rfl⟩
theorem roS_k {S : St} {k : Nat} (h : k < 29) : (roS S).1 21 k = S.1 21 k := by
  have h1 : k ≠ 32 := by omega
  have h2 : k ≠ 35 := by omega
  unfold roS
  split <;> simp [puI, pt, upd, h1, h2]
theorem rsS_o {S : St} {o : Nat} (h : o ≠ 21) : ∀ n, (rsS S n).1 o = S.1 o ∧ (rsS S n).2 = S.2
  | 0 => ⟨rfl, rfl⟩
  | n + 1 => ⟨(roS_o h).1.trans (rsS_o h n).1, (roS_o h).2.trans (rsS_o h n).2⟩
theorem rsS_k {S : St} {k : Nat} (h : k < 29) : ∀ n, (rsS S n).1 21 k = S.1 21 k
  | 0 => rfl
  | n + 1 => (roS_k h).trans (rsS_k h n)
theorem moN_o {o : Nat} (h : o ≠ 21) : ∀ f (S : St), (moN f S).1 o = S.1 o ∧ (moN f S).2 = S.2
  | 0, _ => ⟨rfl, rfl⟩
  | f + 1, S => by
    simp only [moN]
    split
    · exact ⟨(moN_o h f _).1.trans (roS_o h).1, (moN_o h f _).2.trans (roS_o h).2⟩
    · exact roS_o h
theorem moN_k {k : Nat} (h : k < 29) : ∀ f (S : St), (moN f S).1 21 k = S.1 21 k
  | 0, _ => rfl
  | f + 1, S => by
    simp only [moN]
    split
    · exact (moN_k h f _).trans (roS_k h)
    · exact roS_k h
theorem mdF_o {T : St} {v : Int32} {o : Nat} (h : o ≠ 21) : (mdF T v).1 o = T.1 o ∧ (mdF T v).2 = T.2 := by
  refine ⟨?_, (krM_o h).2⟩
  rw [mdF, (krM_o h).1, mdC, puI_o h, mdB, puI_o h, mdA, puI_o h, puI_o h]
theorem mdE_o {T : St} {on kk o : Nat} (h : o ≠ 21) : (mdE T on kk).1 o = T.1 o ∧ (mdE T on kk).2 = T.2 := by
  unfold mdE
  split
  · exact ⟨(mdF_o h).1.trans (rsS_o h _).1, (mdF_o h).2.trans (rsS_o h _).2⟩
  · exact ⟨(mdF_o h).1.trans (rsS_o h _).1, (mdF_o h).2.trans (rsS_o h _).2⟩
theorem mdE_k {T : St} {on kk k : Nat} (h : k < 29) : (mdE T on kk).1 21 k = T.1 21 k := by
  have e : ∀ U v, (mdF U v).1 21 k = U.1 21 k := fun U v => mdF_k (by omega) (by omega) (by omega) (by omega) (by omega) (by omega)
  unfold mdE
  split
  · exact (e _ _).trans (rsS_k h _)
  · exact (e _ _).trans (rsS_k h _)
theorem mdS_o {S : St} {o : Nat} (h : o ≠ 21) : (mdS S).1 o = S.1 o ∧ (mdS S).2 = S.2 := ⟨(mdE_o h).1.trans (moN_o h _ _).1, (mdE_o h).2.trans (moN_o h _ _).2⟩
theorem mdS_k {S : St} {k : Nat} (h : k < 29) : (mdS S).1 21 k = S.1 21 k := (mdE_k h).trans (moN_k h _ _)
theorem mtT_o {S : St} {o : Nat} (h : o ≠ 21) : (mtT S).1 o = S.1 o ∧ (mtT S).2 = S.2 := by
  unfold mtT
  split
  · exact mdS_o h
  · exact ⟨rfl, rfl⟩
theorem mtT_k {S : St} {k : Nat} (h : k < 29) : (mtT S).1 21 k = S.1 21 k := by
  unfold mtT
  split
  · exact mdS_k h
  · rfl
theorem mtS_o {T : St} {o : Nat} (h : o ≠ 21) : (mtS T).1 o = T.1 o ∧ (mtS T).2 = T.2 := by
  unfold mtS
  split
  · exact ⟨puI_o h, rfl⟩
  · split
    · exact ⟨puI_o h, rfl⟩
    · exact ⟨puI_o h, rfl⟩
theorem mtS_k {T : St} {k : Nat} (h : k < 29) : (mtS T).1 21 k = T.1 21 k := by
  have h1 : k ≠ 33 := by omega
  have h2 : k ≠ 34 := by omega
  unfold mtS
  split
  · simp [puI, pt, upd, h1, h2]
  · split <;> simp [puI, pt, upd, h1, h2]
theorem mbS_o {S : St} {o : Nat} (h : o ≠ 21) : (mbS S).1 o = S.1 o ∧ (mbS S).2 = S.2 := ⟨(mtS_o h).1.trans (mtT_o h).1, (mtS_o h).2.trans (mtT_o h).2⟩
theorem mbS_k {S : St} {k : Nat} (h : k < 29) : (mbS S).1 21 k = S.1 21 k := (mtS_k h).trans (mtT_k h)
/-- neither ended nor beyond -/
abbrev goes (T : St) : Prop := T.1 21 35 = 0 ∧ T.1 21 37 = 0
def rmV (T1 : St) (k : Nat) (c bit : Int32) : St := leM (puI (puI T1 21 36 (T1.1 21 36 - 1)) 30 k (vp_nar .boolean bit)) c bit
def rmU (T4 : St) (k : Nat) (bit : Int32) : St := puI T4 32 k (2 * T4.1 32 k + (if T4.1 32 k &&& 1 = 1 then (if bit = 1 then 0 else 1) else (if bit = 0 then 0 else 1)))
def rmX (T1 : St) (k : Nat) (c bit : Int32) : St := if T1.1 21 35 = 0 then (if T1.1 21 37 = 0 then rmU (rmV T1 k c bit) k bit else T1) else T1
def rmF (k : Nat) (T : St) : St := if goes T then (if hpM T (nI (k % 16)) (nI (k / 16)) = 0 then T else if skM T (nI (k % 16)) (nI (k / 16)) = 0 then
    rmX (mbS T) k (ctM T (nI (k % 16)) (nI (k / 16))) (mbV T (if T.1 28 (ctM T (nI (k % 16)) (nI (k / 16))).toNatClampNeg < 0 then 0 else 1)) else T) else T
/-- what reading a plane keeps -/
def rmI (c : Nat) (S T : St) : Prop := (∀ k, k < 29 → T.1 21 k = S.1 21 k) ∧ (∀ o, o ≠ 21 → o ≠ 28 → o ≠ 29 → o ≠ 30 → o ≠ 31 → o ≠ 32 → T.1 o = S.1 o) ∧ T.2 = S.2 ∧ atOK c T
theorem rmUV_k {T1 : St} {k q : Nat} {c bit : Int32} (h : q ≠ 36) : (rmU (rmV T1 k c bit) k bit).1 21 q = T1.1 21 q := by
  rw [rmU, puI_o (by decide), rmV, (leM_o (by decide) (by decide)).1, puI_o (by decide)]
  simp [puI, pt, upd, h]
theorem rmUV_o {T1 : St} {k o : Nat} {c bit : Int32} (h1 : o ≠ 21) (h2 : o ≠ 28) (h3 : o ≠ 29) (h4 : o ≠ 30) (h6 : o ≠ 32) : (rmU (rmV T1 k c bit) k bit).1 o = T1.1 o := by
  rw [rmU, puI_o h6, rmV, (leM_o h2 h3).1, puI_o h4, puI_o h1]
theorem rmX_I {c0 : Nat} {S T1 : St} {k : Nat} {c bit : Int32} (h : rmI c0 S T1) : rmI c0 S (rmX T1 k c bit) := by
  unfold rmX
  split
  · split
    · obtain ⟨h1, h2, h3, h4, a, h5, h6⟩ := h
      refine ⟨fun q hq => (rmUV_k (by omega)).trans (h1 q hq), fun o o1 o2 o3 o4 o5 o6 => (rmUV_o o1 o2 o3 o4 o6).trans (h2 o o1 o2 o3 o4 o5 o6), h3, ?_, a, h5, ?_⟩
      · rw [rmUV_k (by decide)]; exact h4
      · rw [rmUV_k (by decide)]; exact h6
    · exact h
  · exact h
theorem rmF_I {c0 : Nat} {S T : St} {k : Nat} (hc : c0 ≤ 3000) (h : rmI c0 S T) : rmI c0 S (rmF k T) := by
  unfold rmF
  split
  · split
    · exact h
    · split
      · exact rmX_I ⟨fun q hq => (mbS_k hq).trans (h.1 q hq), fun o o1 o2 o3 o4 o5 o6 => (mbS_o o1).1.trans (h.2.1 o o1 o2 o3 o4 o5 o6), (mbS_o (o := 0) (by decide)).2.trans h.2.2.1, mbS_at hc h.2.2.2⟩
      · exact h
  · exact h
theorem rmN_I {c0 : Nat} {S : St} (hc : c0 ≤ 3000) (i : Nat) (T : St) (h : rmI c0 S T) : rmI c0 S (nF rmF i T) := nF_inv (f := rmF) (rmI c0 S) (fun _ _ hy => rmF_I hc hy) i T h
theorem nxM_Ir {c0 : Nat} {S T : St} (h : rmI c0 S T) : rmI c0 S (nxM T) := by
  obtain ⟨h1, h2, h3, h4, a, h5, h6⟩ := h
  have e : (nxM T).1 21 = T.1 21 := (nxM_o (by decide) (by decide) (by decide) (by decide)).1
  exact ⟨fun q hq => by rw [e]; exact h1 q hq, fun o o1 o2 o3 o4 o5 o6 => (nxM_o o2 o3 o4 o5).1.trans (h2 o o1 o2 o3 o4 o5 o6), (nxM_o (o := 0) (by decide) (by decide) (by decide) (by decide)).2.trans h3, by rw [e]; exact h4, a, h5, by rw [e]; exact h6⟩
theorem rmF_stay {T : St} {k : Nat} (h : ¬ goes T) : rmF k T = T := by unfold rmF; rw [if_neg h]
theorem rmN_stay {T : St} {k : Nat} (h : ¬ goes (nF rmF k T)) : ∀ i, nF rmF (k + i) T = nF rmF k T
  | 0 => rfl
  | i + 1 => by
    show rmF (k + i) (nF rmF (k + i) T) = _
    rw [rmN_stay h i]
    exact rmF_stay h
def rpP (T : St) : St := if goes T then nF rmF 256 (nxM T) else T
def rpN : Nat → St → St
  | 0, T => T
  | n + 1, T => rpN n (rpP T)
theorem rpN_stay {T : St} (h : ¬ goes T) : ∀ n, rpN n T = T
  | 0 => rfl
  | n + 1 => by
    show rpN n (rpP T) = T
    rw [show rpP T = T from if_neg h]
    exact rpN_stay h n
theorem rpP_I {c0 : Nat} {S T : St} (hc : c0 ≤ 3000) (h : rmI c0 S T) : rmI c0 S (rpP T) := by
  unfold rpP
  split
  · exact rmN_I hc _ _ (nxM_Ir h)
  · exact h
theorem rpN_I {c0 : Nat} {S : St} (hc : c0 ≤ 3000) : ∀ n T, rmI c0 S T → rmI c0 S (rpN n T)
  | 0, _, h => h
  | n + 1, T, h => rpN_I hc n _ (rpP_I hc h)
def plF (S : St) (k : Nat) (a : Int32) : Int32 := a + (if hpM S (nI (k % 16)) (nI (k / 16)) = 0 then 0 else if skM S (nI (k % 16)) (nI (k / 16)) = 0 then 1 else 0)
def plM (S : St) : Int32 := nF (plF S) 256 0
def rd0 (S : St) (m : Nat) : St := puI (puI (flI S 32 0 256) 21 36 (plM (flI S 32 0 256) * nI (bl 6 m))) 21 37 0
def reF (T : St) : St := if goes T then mtT T else T
def rpS (S : St) (m : Nat) : St := reF (rpN (bl 6 m) (rd0 S m))
def rpR (S : St) (m : Nat) : Int32 := if goes (rpS S m) then plM (flI S 32 0 256) else -1
set_option maxHeartbeats 4000000 in
set_option maxRecDepth 40000 in
theorem k_M_readPlanesK {l : Launch} {h : Nat} {T : St} {Q0 : Option AV → St → Prop} {c r n cm : Nat} {pl : Int32} (hc : T.1 21 9 = nI c) (hr : T.1 21 10 = nI r) (hc2 : c ≤ 16) (hr2 : r ≤ 16) (hcm : cm ≤ 3000) (ha : atOK cm T) (hg : goes T)
    (kx : ¬ goes (nF rmF 256 (nxM T)) → Q0 (some (aI (-1))) (nF rmF 256 (nxM T)))
    (kn : goes (nF rmF 256 (nxM T)) → ∀ z3 z4 z5 z6 z7, E0 l (SHm h) (4, 89) m_M_readPlanes 99 [some (aR 21), some (aI pl), some (aI (nI n - 1)), z3, z4, z5, z6, z7] [] (nF rmF 256 (nxM T)) Q0) (z4 z5 z6 z7 : Option AV) : E0 l (SHm h) (4, 89) m_M_readPlanes 109 [some (aR 21), some (aI pl), some (aI (nI n)), some (aI (nI 0)), z4, z5, z6, z7] [] (nxM T) Q0 := by
  have hI : ∀ k, rmI cm T (nF rmF k (nxM T)) := fun k => rmN_I hcm k _ (nxM_Ir ⟨fun _ _ => rfl, fun _ _ _ _ _ _ _ => rfl, rfl, ha⟩)
  have hcc : ∀ k, (nF rmF k (nxM T)).1 21 9 = nI c := fun k => ((hI k).1 9 (by decide)).trans hc
  have hrr : ∀ k, (nF rmF k (nxM T)).1 21 10 = nI r := fun k => ((hI k).1 10 (by decide)).trans hr
  have hat : ∀ k, atOK cm (nF rmF k (nxM T)) := fun k => (hI k).2.2.2
  have e21 : (nxM T).1 21 = T.1 21 := (nxM_o (by decide) (by decide) (by decide) (by decide)).1
  have hg0 : goes (nxM T) := ⟨by rw [e21]; exact hg.1, by rw [e21]; exact hg.2⟩
  have L1 := e_for (P := fun k => ∀ (_ : goes (nF rmF k (nxM T))) (z4 z5 z6 z7 : Option AV), E0 l (SHm h) (4, 89) m_M_readPlanes 109 [some (aR 21), some (aI pl), some (aI (nI n)), some (aI (nI k)), z4, z5, z6, z7] [] ((nF rmF k (nxM T))) (Q0)) (256) (by
      intro hgo z4 z5 z6 z7
      iterate 1 refine e_sp rfl rfl rfl ?_
      refine e_cs 256 rfl rfl ?_
      refine e_icge rfl (fun h1 => ?_) (fun h1 => ?_)
      · refine e_inc (-1) rfl rfl rfl rfl ?_
        refine e_goto rfl ?_
        try dsimp only
        rw [show nI n + (-1) = nI n - 1 from (Int32.sub_eq_add_neg _ _).symm]
        exact kn hgo _ _ _ _ _
      · try dsimp only
        exact absurd (nI_le (Nat.le_refl _) (by decide)) h1) (fun k hk ihk => by
      intro hgo z4 z5 z6 z7
      iterate 1 refine e_sp rfl rfl rfl ?_
      refine e_cs 256 rfl rfl ?_
      refine e_icge rfl (fun h1 => ?_) (fun h1 => ?_)
      · try dsimp only
        exact absurd h1 (nI_ge hk (by decide))
      · iterate 1 refine e_sp rfl rfl rfl ?_
        refine e_cb 16 rfl rfl ?_
        refine e_rem rfl (by decide) ?_
        try dsimp only
        rw [show (16 : Int32) = nI 16 from rfl, rmd 16 (by omega) (by decide) (by decide)]
        iterate 2 refine e_sp rfl rfl rfl ?_
        refine e_cb 16 rfl rfl ?_
        refine e_div rfl (by decide) ?_
        try dsimp only
        rw [show (16 : Int32) = nI 16 from rfl, dvd9 16 (by omega) (by decide) (by decide)]
        iterate 4 refine e_sp rfl rfl rfl ?_
        refine e_callV1 ok_M_hasPlace rfl lk_M_141 (by rfl) (by rfl) k_M_hasPlace rfl rfl ⟨Nat.le_of_ble_eq_true rfl, Nat.le_of_ble_eq_true rfl⟩ ⟨Nat.zero_le _, Nat.zero_le _⟩ (Nat.le_of_ble_eq_true rfl) ?_
        refine e_ifeq rfl (fun h2 => ?_) (fun h2 => ?_)
        · try rw [nI_clamp (show k < 2 ^ 31 by omega)]
          refine e_inc 1 rfl rfl rfl rfl ?_
          refine e_goto rfl ?_
          try dsimp only
          simp only [nI_1]
          simp only [nF] at ihk
          rw [rmF, if_pos hgo] at ihk
          (first | rw [if_pos h2] at ihk | rw [if_neg h2] at ihk)
          exact ihk hgo _ _ _ _
        · iterate 3 refine e_sp rfl rfl rfl ?_
          refine e_callV1 ok_M_isSkipped rfl lk_M_196 (by rfl) (by rfl) k_M_isSkipped rfl rfl ⟨Nat.le_of_ble_eq_true rfl, Nat.le_of_ble_eq_true rfl⟩ ⟨Nat.zero_le _, Nat.zero_le _⟩ (Nat.le_of_ble_eq_true rfl) ?_
          refine e_ifne rfl (fun h3 => ?_) (fun h3 => ?_)
          · try rw [nI_clamp (show k < 2 ^ 31 by omega)]
            refine e_inc 1 rfl rfl rfl rfl ?_
            refine e_goto rfl ?_
            try dsimp only
            simp only [nI_1]
            simp only [nF] at ihk
            rw [rmF, if_pos hgo] at ihk
            (first | rw [if_pos h2] at ihk | rw [if_neg h2] at ihk)
            (first | rw [if_pos h3] at ihk | rw [if_neg h3] at ihk)
            exact ihk hgo _ _ _ _
          · iterate 3 refine e_sp rfl rfl rfl ?_
            refine e_callV1 ok_M_contextOf rfl lk_M_199 (by rfl) (by rfl) (k_M_contextOf (hcc k) (hrr k) hc2 hr2 (by omega) (by omega)) rfl rfl ⟨Nat.le_of_ble_eq_true rfl, Nat.le_of_ble_eq_true rfl⟩ ⟨Nat.zero_le _, Nat.zero_le _⟩ (Nat.le_of_ble_eq_true rfl) ?_
            iterate 5 refine e_sp rfl rfl rfl ?_
            refine e_iald rfl (by first | rfl | assumption) (by exact ctM_in _ _ _) ?_
            refine e_iflt rfl (fun h4 => ?_) (fun h4 => ?_)
            · refine e_ci 0 rfl rfl ?_
              refine e_callV1 ok_M_readBit rfl lk_M_240 (by rfl) (by rfl) (k_M_readBit (hat k) hcm (by decide)) rfl rfl ⟨Nat.le_of_ble_eq_true rfl, Nat.le_of_ble_eq_true rfl⟩ ⟨Nat.zero_le _, Nat.zero_le _⟩ (Nat.le_of_ble_eq_true rfl) ?_
              iterate 3 refine e_sp rfl rfl rfl ?_
              refine e_ifne rfl (fun h5 => ?_) (fun h5 => ?_)
              · refine e_ci (-1) rfl rfl ?_
                refine e_iret rfl rfl (Nat.le_refl _) (Nat.le_refl _) ?_
                have e9 : nF rmF (k + 1) (nxM T) = mbS (nF rmF k (nxM T)) := by
                  show rmF k (nF rmF k (nxM T)) = _
                  rw [rmF, if_pos hgo]
                  (first | rw [if_pos h2] | rw [if_neg h2])
                  (first | rw [if_pos h3] | rw [if_neg h3])
                  rw [rmX]
                  (first | rw [if_pos h5] | rw [if_neg h5])
                have h9 : ¬ goes (nF rmF (k + 1) (nxM T)) := by
                  rw [e9]
                  exact fun g => (by first | exact h5 g.1 | exact h5 g.2)
                rw [← e9]
                have e8 : nF rmF (k + 1 + (255 - k)) (nxM T) = _ := rmN_stay h9 (255 - k)
                rw [show k + 1 + (255 - k) = 256 by omega] at e8
                rw [← e8]
                rw [← e8] at h9
                exact kx h9
              · iterate 2 refine e_sp rfl rfl rfl ?_
                refine e_ifeq rfl (fun h6 => ?_) (fun h6 => ?_)
                · iterate 3 refine e_sp rfl rfl rfl ?_
                  refine e_ci 1 rfl rfl ?_
                  iterate 5 refine e_sp rfl rfl rfl ?_
                  skip
                  iterate 1 refine e_sp rfl rfl rfl ?_
                  refine e_zast rfl (by first | rfl | assumption) (by exact vp_in_nI hk (by decide)) ?_
                  rw [nI_clamp (by omega)]
                  iterate 3 refine e_sp rfl rfl rfl ?_
                  refine e_callV0 ok_M_learn rfl lk_M_205 (by rfl) (by rfl) (k_M_learn (ctM_in _ _ _)) rfl rfl ⟨Nat.le_of_ble_eq_true rfl, Nat.le_of_ble_eq_true rfl⟩ ⟨Nat.zero_le _, Nat.zero_le _⟩ (Nat.le_of_ble_eq_true rfl) ?_
                  have ek : ∀ (q : Nat) (c b : Int32), q ≠ 36 → (rmU (rmV (mbS (nF rmF k (nxM T))) k c b) k b).1 21 q = (mbS (nF rmF k (nxM T))).1 21 q := fun q c b hq => rmUV_k hq
                  refine e_st (S2 := rmV (mbS (nF rmF k (nxM T))) k _ _) rfl ?_
                  iterate 3 refine e_sp rfl rfl rfl ?_
                  refine e_ci 2 rfl rfl ?_
                  iterate 3 refine e_sp rfl rfl rfl ?_
                  refine e_iald rfl (by first | rfl | assumption) (by exact vp_in_nI hk (by decide)) ?_
                  rw [nI_clamp (by omega)]
                  iterate 5 refine e_sp rfl rfl rfl ?_
                  refine e_iald rfl (by first | rfl | assumption) (by exact vp_in_nI hk (by decide)) ?_
                  rw [nI_clamp (by omega)]
                  refine e_ci 1 rfl rfl ?_
                  iterate 1 refine e_sp rfl rfl rfl ?_
                  refine e_ci 1 rfl rfl ?_
                  refine e_icne rfl (fun h7 => ?_) (fun h7 => ?_)
                  · refine e_ci 0 rfl rfl ?_
                    refine e_icne rfl (fun h8 => ?_) (fun h8 => ?_)
                    · refine e_ci 1 rfl rfl ?_
                      iterate 1 refine e_sp rfl rfl rfl ?_
                      refine e_iast rfl (by first | rfl | assumption) (by exact vp_in_nI hk (by decide)) ?_
                      try rw [nI_clamp (show k < 2 ^ 31 by omega)]
                      refine e_inc 1 rfl rfl rfl rfl ?_
                      refine e_goto rfl ?_
                      try dsimp only
                      simp only [nI_1]
                      simp only [nF] at ihk
                      rw [rmF, if_pos hgo] at ihk
                      (first | rw [if_pos h2] at ihk | rw [if_neg h2] at ihk)
                      (first | rw [if_pos h3] at ihk | rw [if_neg h3] at ihk)
                      (first | rw [if_pos h4] at ihk | rw [if_neg h4] at ihk)
                      rw [rmX] at ihk
                      (first | rw [if_pos h5] at ihk | rw [if_neg h5] at ihk)
                      (first | rw [if_pos h6] at ihk | rw [if_neg h6] at ihk)
                      have ihg := ihk ⟨(ek 35 _ _ (by decide)).trans (by assumption), (ek 37 _ _ (by decide)).trans (by assumption)⟩
                      rw [rmU] at ihg
                      (first | rw [if_pos h7] at ihg | rw [if_neg h7] at ihg)
                      (first | rw [if_pos h8] at ihg | rw [if_neg h8] at ihg)
                      exact ihg _ _ _ _
                    · refine e_ci 0 rfl rfl ?_
                      refine e_goto rfl ?_
                      iterate 1 refine e_sp rfl rfl rfl ?_
                      refine e_iast rfl (by first | rfl | assumption) (by exact vp_in_nI hk (by decide)) ?_
                      try rw [nI_clamp (show k < 2 ^ 31 by omega)]
                      refine e_inc 1 rfl rfl rfl rfl ?_
                      refine e_goto rfl ?_
                      try dsimp only
                      simp only [nI_1]
                      simp only [nF] at ihk
                      rw [rmF, if_pos hgo] at ihk
                      (first | rw [if_pos h2] at ihk | rw [if_neg h2] at ihk)
                      (first | rw [if_pos h3] at ihk | rw [if_neg h3] at ihk)
                      (first | rw [if_pos h4] at ihk | rw [if_neg h4] at ihk)
                      rw [rmX] at ihk
                      (first | rw [if_pos h5] at ihk | rw [if_neg h5] at ihk)
                      (first | rw [if_pos h6] at ihk | rw [if_neg h6] at ihk)
                      have ihg := ihk ⟨(ek 35 _ _ (by decide)).trans (by assumption), (ek 37 _ _ (by decide)).trans (by assumption)⟩
                      rw [rmU] at ihg
                      (first | rw [if_pos h7] at ihg | rw [if_neg h7] at ihg)
                      (first | rw [if_pos h8] at ihg | rw [if_neg h8] at ihg)
                      exact ihg _ _ _ _
                  · refine e_ci 1 rfl rfl ?_
                    refine e_goto rfl ?_
                    refine e_icne rfl (fun h9 => ?_) (fun h9 => ?_)
                    · refine e_ci 1 rfl rfl ?_
                      iterate 1 refine e_sp rfl rfl rfl ?_
                      refine e_iast rfl (by first | rfl | assumption) (by exact vp_in_nI hk (by decide)) ?_
                      try rw [nI_clamp (show k < 2 ^ 31 by omega)]
                      refine e_inc 1 rfl rfl rfl rfl ?_
                      refine e_goto rfl ?_
                      try dsimp only
                      simp only [nI_1]
                      simp only [nF] at ihk
                      rw [rmF, if_pos hgo] at ihk
                      (first | rw [if_pos h2] at ihk | rw [if_neg h2] at ihk)
                      (first | rw [if_pos h3] at ihk | rw [if_neg h3] at ihk)
                      (first | rw [if_pos h4] at ihk | rw [if_neg h4] at ihk)
                      rw [rmX] at ihk
                      (first | rw [if_pos h5] at ihk | rw [if_neg h5] at ihk)
                      (first | rw [if_pos h6] at ihk | rw [if_neg h6] at ihk)
                      have ihg := ihk ⟨(ek 35 _ _ (by decide)).trans (by assumption), (ek 37 _ _ (by decide)).trans (by assumption)⟩
                      rw [rmU] at ihg
                      (first | rw [if_pos h7] at ihg | rw [if_neg h7] at ihg)
                      (first | rw [if_pos h9] at ihg | rw [if_neg h9] at ihg)
                      exact ihg _ _ _ _
                    · refine e_ci 0 rfl rfl ?_
                      refine e_goto rfl ?_
                      iterate 1 refine e_sp rfl rfl rfl ?_
                      refine e_iast rfl (by first | rfl | assumption) (by exact vp_in_nI hk (by decide)) ?_
                      try rw [nI_clamp (show k < 2 ^ 31 by omega)]
                      refine e_inc 1 rfl rfl rfl rfl ?_
                      refine e_goto rfl ?_
                      try dsimp only
                      simp only [nI_1]
                      simp only [nF] at ihk
                      rw [rmF, if_pos hgo] at ihk
                      (first | rw [if_pos h2] at ihk | rw [if_neg h2] at ihk)
                      (first | rw [if_pos h3] at ihk | rw [if_neg h3] at ihk)
                      (first | rw [if_pos h4] at ihk | rw [if_neg h4] at ihk)
                      rw [rmX] at ihk
                      (first | rw [if_pos h5] at ihk | rw [if_neg h5] at ihk)
                      (first | rw [if_pos h6] at ihk | rw [if_neg h6] at ihk)
                      have ihg := ihk ⟨(ek 35 _ _ (by decide)).trans (by assumption), (ek 37 _ _ (by decide)).trans (by assumption)⟩
                      rw [rmU] at ihg
                      (first | rw [if_pos h7] at ihg | rw [if_neg h7] at ihg)
                      (first | rw [if_pos h9] at ihg | rw [if_neg h9] at ihg)
                      exact ihg _ _ _ _
                · refine e_ci (-1) rfl rfl ?_
                  refine e_iret rfl rfl (Nat.le_refl _) (Nat.le_refl _) ?_
                  have e9 : nF rmF (k + 1) (nxM T) = mbS (nF rmF k (nxM T)) := by
                    show rmF k (nF rmF k (nxM T)) = _
                    rw [rmF, if_pos hgo]
                    (first | rw [if_pos h2] | rw [if_neg h2])
                    (first | rw [if_pos h3] | rw [if_neg h3])
                    rw [rmX]
                    (first | rw [if_pos h5] | rw [if_neg h5])
                    (first | rw [if_pos h6] | rw [if_neg h6])
                  have h9 : ¬ goes (nF rmF (k + 1) (nxM T)) := by
                    rw [e9]
                    exact fun g => (by first | exact h6 g.1 | exact h6 g.2)
                  rw [← e9]
                  have e8 : nF rmF (k + 1 + (255 - k)) (nxM T) = _ := rmN_stay h9 (255 - k)
                  rw [show k + 1 + (255 - k) = 256 by omega] at e8
                  rw [← e8]
                  rw [← e8] at h9
                  exact kx h9
            · refine e_ci 1 rfl rfl ?_
              refine e_goto rfl ?_
              refine e_callV1 ok_M_readBit rfl lk_M_240 (by rfl) (by rfl) (k_M_readBit (hat k) hcm (by decide)) rfl rfl ⟨Nat.le_of_ble_eq_true rfl, Nat.le_of_ble_eq_true rfl⟩ ⟨Nat.zero_le _, Nat.zero_le _⟩ (Nat.le_of_ble_eq_true rfl) ?_
              iterate 3 refine e_sp rfl rfl rfl ?_
              refine e_ifne rfl (fun h10 => ?_) (fun h10 => ?_)
              · refine e_ci (-1) rfl rfl ?_
                refine e_iret rfl rfl (Nat.le_refl _) (Nat.le_refl _) ?_
                have e9 : nF rmF (k + 1) (nxM T) = mbS (nF rmF k (nxM T)) := by
                  show rmF k (nF rmF k (nxM T)) = _
                  rw [rmF, if_pos hgo]
                  (first | rw [if_pos h2] | rw [if_neg h2])
                  (first | rw [if_pos h3] | rw [if_neg h3])
                  rw [rmX]
                  (first | rw [if_pos h10] | rw [if_neg h10])
                have h9 : ¬ goes (nF rmF (k + 1) (nxM T)) := by
                  rw [e9]
                  exact fun g => (by first | exact h10 g.1 | exact h10 g.2)
                rw [← e9]
                have e8 : nF rmF (k + 1 + (255 - k)) (nxM T) = _ := rmN_stay h9 (255 - k)
                rw [show k + 1 + (255 - k) = 256 by omega] at e8
                rw [← e8]
                rw [← e8] at h9
                exact kx h9
              · iterate 2 refine e_sp rfl rfl rfl ?_
                refine e_ifeq rfl (fun h11 => ?_) (fun h11 => ?_)
                · iterate 3 refine e_sp rfl rfl rfl ?_
                  refine e_ci 1 rfl rfl ?_
                  iterate 5 refine e_sp rfl rfl rfl ?_
                  skip
                  iterate 1 refine e_sp rfl rfl rfl ?_
                  refine e_zast rfl (by first | rfl | assumption) (by exact vp_in_nI hk (by decide)) ?_
                  rw [nI_clamp (by omega)]
                  iterate 3 refine e_sp rfl rfl rfl ?_
                  refine e_callV0 ok_M_learn rfl lk_M_205 (by rfl) (by rfl) (k_M_learn (ctM_in _ _ _)) rfl rfl ⟨Nat.le_of_ble_eq_true rfl, Nat.le_of_ble_eq_true rfl⟩ ⟨Nat.zero_le _, Nat.zero_le _⟩ (Nat.le_of_ble_eq_true rfl) ?_
                  have ek : ∀ (q : Nat) (c b : Int32), q ≠ 36 → (rmU (rmV (mbS (nF rmF k (nxM T))) k c b) k b).1 21 q = (mbS (nF rmF k (nxM T))).1 21 q := fun q c b hq => rmUV_k hq
                  refine e_st (S2 := rmV (mbS (nF rmF k (nxM T))) k _ _) rfl ?_
                  iterate 3 refine e_sp rfl rfl rfl ?_
                  refine e_ci 2 rfl rfl ?_
                  iterate 3 refine e_sp rfl rfl rfl ?_
                  refine e_iald rfl (by first | rfl | assumption) (by exact vp_in_nI hk (by decide)) ?_
                  rw [nI_clamp (by omega)]
                  iterate 5 refine e_sp rfl rfl rfl ?_
                  refine e_iald rfl (by first | rfl | assumption) (by exact vp_in_nI hk (by decide)) ?_
                  rw [nI_clamp (by omega)]
                  refine e_ci 1 rfl rfl ?_
                  iterate 1 refine e_sp rfl rfl rfl ?_
                  refine e_ci 1 rfl rfl ?_
                  refine e_icne rfl (fun h12 => ?_) (fun h12 => ?_)
                  · refine e_ci 0 rfl rfl ?_
                    refine e_icne rfl (fun h13 => ?_) (fun h13 => ?_)
                    · refine e_ci 1 rfl rfl ?_
                      iterate 1 refine e_sp rfl rfl rfl ?_
                      refine e_iast rfl (by first | rfl | assumption) (by exact vp_in_nI hk (by decide)) ?_
                      try rw [nI_clamp (show k < 2 ^ 31 by omega)]
                      refine e_inc 1 rfl rfl rfl rfl ?_
                      refine e_goto rfl ?_
                      try dsimp only
                      simp only [nI_1]
                      simp only [nF] at ihk
                      rw [rmF, if_pos hgo] at ihk
                      (first | rw [if_pos h2] at ihk | rw [if_neg h2] at ihk)
                      (first | rw [if_pos h3] at ihk | rw [if_neg h3] at ihk)
                      (first | rw [if_pos h4] at ihk | rw [if_neg h4] at ihk)
                      rw [rmX] at ihk
                      (first | rw [if_pos h10] at ihk | rw [if_neg h10] at ihk)
                      (first | rw [if_pos h11] at ihk | rw [if_neg h11] at ihk)
                      have ihg := ihk ⟨(ek 35 _ _ (by decide)).trans (by assumption), (ek 37 _ _ (by decide)).trans (by assumption)⟩
                      rw [rmU] at ihg
                      (first | rw [if_pos h12] at ihg | rw [if_neg h12] at ihg)
                      (first | rw [if_pos h13] at ihg | rw [if_neg h13] at ihg)
                      exact ihg _ _ _ _
                    · refine e_ci 0 rfl rfl ?_
                      refine e_goto rfl ?_
                      iterate 1 refine e_sp rfl rfl rfl ?_
                      refine e_iast rfl (by first | rfl | assumption) (by exact vp_in_nI hk (by decide)) ?_
                      try rw [nI_clamp (show k < 2 ^ 31 by omega)]
                      refine e_inc 1 rfl rfl rfl rfl ?_
                      refine e_goto rfl ?_
                      try dsimp only
                      simp only [nI_1]
                      simp only [nF] at ihk
                      rw [rmF, if_pos hgo] at ihk
                      (first | rw [if_pos h2] at ihk | rw [if_neg h2] at ihk)
                      (first | rw [if_pos h3] at ihk | rw [if_neg h3] at ihk)
                      (first | rw [if_pos h4] at ihk | rw [if_neg h4] at ihk)
                      rw [rmX] at ihk
                      (first | rw [if_pos h10] at ihk | rw [if_neg h10] at ihk)
                      (first | rw [if_pos h11] at ihk | rw [if_neg h11] at ihk)
                      have ihg := ihk ⟨(ek 35 _ _ (by decide)).trans (by assumption), (ek 37 _ _ (by decide)).trans (by assumption)⟩
                      rw [rmU] at ihg
                      (first | rw [if_pos h12] at ihg | rw [if_neg h12] at ihg)
                      (first | rw [if_pos h13] at ihg | rw [if_neg h13] at ihg)
                      exact ihg _ _ _ _
                  · refine e_ci 1 rfl rfl ?_
                    refine e_goto rfl ?_
                    refine e_icne rfl (fun h14 => ?_) (fun h14 => ?_)
                    · refine e_ci 1 rfl rfl ?_
                      iterate 1 refine e_sp rfl rfl rfl ?_
                      refine e_iast rfl (by first | rfl | assumption) (by exact vp_in_nI hk (by decide)) ?_
                      try rw [nI_clamp (show k < 2 ^ 31 by omega)]
                      refine e_inc 1 rfl rfl rfl rfl ?_
                      refine e_goto rfl ?_
                      try dsimp only
                      simp only [nI_1]
                      simp only [nF] at ihk
                      rw [rmF, if_pos hgo] at ihk
                      (first | rw [if_pos h2] at ihk | rw [if_neg h2] at ihk)
                      (first | rw [if_pos h3] at ihk | rw [if_neg h3] at ihk)
                      (first | rw [if_pos h4] at ihk | rw [if_neg h4] at ihk)
                      rw [rmX] at ihk
                      (first | rw [if_pos h10] at ihk | rw [if_neg h10] at ihk)
                      (first | rw [if_pos h11] at ihk | rw [if_neg h11] at ihk)
                      have ihg := ihk ⟨(ek 35 _ _ (by decide)).trans (by assumption), (ek 37 _ _ (by decide)).trans (by assumption)⟩
                      rw [rmU] at ihg
                      (first | rw [if_pos h12] at ihg | rw [if_neg h12] at ihg)
                      (first | rw [if_pos h14] at ihg | rw [if_neg h14] at ihg)
                      exact ihg _ _ _ _
                    · refine e_ci 0 rfl rfl ?_
                      refine e_goto rfl ?_
                      iterate 1 refine e_sp rfl rfl rfl ?_
                      refine e_iast rfl (by first | rfl | assumption) (by exact vp_in_nI hk (by decide)) ?_
                      try rw [nI_clamp (show k < 2 ^ 31 by omega)]
                      refine e_inc 1 rfl rfl rfl rfl ?_
                      refine e_goto rfl ?_
                      try dsimp only
                      simp only [nI_1]
                      simp only [nF] at ihk
                      rw [rmF, if_pos hgo] at ihk
                      (first | rw [if_pos h2] at ihk | rw [if_neg h2] at ihk)
                      (first | rw [if_pos h3] at ihk | rw [if_neg h3] at ihk)
                      (first | rw [if_pos h4] at ihk | rw [if_neg h4] at ihk)
                      rw [rmX] at ihk
                      (first | rw [if_pos h10] at ihk | rw [if_neg h10] at ihk)
                      (first | rw [if_pos h11] at ihk | rw [if_neg h11] at ihk)
                      have ihg := ihk ⟨(ek 35 _ _ (by decide)).trans (by assumption), (ek 37 _ _ (by decide)).trans (by assumption)⟩
                      rw [rmU] at ihg
                      (first | rw [if_pos h12] at ihg | rw [if_neg h12] at ihg)
                      (first | rw [if_pos h14] at ihg | rw [if_neg h14] at ihg)
                      exact ihg _ _ _ _
                · refine e_ci (-1) rfl rfl ?_
                  refine e_iret rfl rfl (Nat.le_refl _) (Nat.le_refl _) ?_
                  have e9 : nF rmF (k + 1) (nxM T) = mbS (nF rmF k (nxM T)) := by
                    show rmF k (nF rmF k (nxM T)) = _
                    rw [rmF, if_pos hgo]
                    (first | rw [if_pos h2] | rw [if_neg h2])
                    (first | rw [if_pos h3] | rw [if_neg h3])
                    rw [rmX]
                    (first | rw [if_pos h10] | rw [if_neg h10])
                    (first | rw [if_pos h11] | rw [if_neg h11])
                  have h9 : ¬ goes (nF rmF (k + 1) (nxM T)) := by
                    rw [e9]
                    exact fun g => (by first | exact h11 g.1 | exact h11 g.2)
                  rw [← e9]
                  have e8 : nF rmF (k + 1 + (255 - k)) (nxM T) = _ := rmN_stay h9 (255 - k)
                  rw [show k + 1 + (255 - k) = 256 by omega] at e8
                  rw [← e8]
                  rw [← e8] at h9
                  exact kx h9)
  exact L1 hg0 _ _ _ _
end
section
set_option maxHeartbeats 4000000 in
set_option maxRecDepth 40000 in
theorem k_M_readPlanesZ {l : Launch} {h : Nat} {T : St} {Q0 : Option AV → St → Prop} {pl : Int32} {z2 z3 z4 z5 z6 z7 : Option AV} (hq : Q0 (some (aI (if goes T then pl else -1))) T) : E0 l (SHm h) (4, 89) m_M_readPlanes 288 [some (aR 21), some (aI pl), z2, z3, z4, z5, z6, z7] [] T Q0 := by
  have hq9 : ∀ v, v = (if goes T then pl else -1) → Q0 (some (aI v)) T := fun v hv => by rw [hv]; exact hq
  iterate 2 refine e_sp rfl rfl rfl ?_
  refine e_ifne rfl (fun h1 => ?_) (fun h1 => ?_)
  · refine e_ci (-1) rfl rfl ?_
    refine e_goto rfl ?_
    refine e_iret rfl rfl (Nat.le_refl _) (Nat.le_refl _) ?_
    have hgo : True := trivial
    exact hq9 _ (by first | exact (if_pos ⟨h1, h1⟩).symm | exact (if_neg (fun g => h1 g.1)).symm | exact (if_neg (fun g => h1 g.2)).symm)
  · iterate 2 refine e_sp rfl rfl rfl ?_
    refine e_ifeq rfl (fun h2 => ?_) (fun h2 => ?_)
    · iterate 1 refine e_sp rfl rfl rfl ?_
      refine e_iret rfl rfl (Nat.le_refl _) (Nat.le_refl _) ?_
      have hgo : True := trivial
      exact hq9 _ (by first | exact (if_pos ⟨h1, h2⟩).symm | exact (if_neg (fun g => h1 g.1)).symm | exact (if_neg (fun g => h2 g.2)).symm)
    · refine e_ci (-1) rfl rfl ?_
      refine e_goto rfl ?_
      refine e_iret rfl rfl (Nat.le_refl _) (Nat.le_refl _) ?_
      have hgo : True := trivial
      exact hq9 _ (by first | exact (if_pos ⟨h1, h2⟩).symm | exact (if_neg (fun g => h1 g.1)).symm | exact (if_neg (fun g => h2 g.2)).symm)
set_option maxHeartbeats 4000000 in
set_option maxRecDepth 40000 in
theorem k_M_readPlanesE {l : Launch} {h cm : Nat} {T : St} {Q0 : Option AV → St → Prop} {pl : Int32} {z2 z3 z4 z5 z6 z7 : Option AV} (ha : atOK cm T) (hcm : cm ≤ 3000) (hq : Q0 (some (aI (if goes (mtT T) then pl else -1))) (mtT T)) : E0 l (SHm h) (4, 89) m_M_readPlanes 277 [some (aR 21), some (aI pl), z2, z3, z4, z5, z6, z7] [] T Q0 := by
  iterate 2 refine e_sp rfl rfl rfl ?_
  refine e_ifne rfl (fun h1 => ?_) (fun h1 => ?_)
  · try dsimp only
    have e9 : mtT T = if T.1 21 34 = 0 then mdS T else T := rfl
    (first | rw [if_pos h1] at e9 | rw [if_neg h1] at e9)
    exact k_M_readPlanesZ (by rw [← e9]; exact hq)
  · iterate 1 refine e_sp rfl rfl rfl ?_
    refine e_callV0 ok_M_readRun rfl lk_M_237 (by rfl) (by rfl) (k_M_readRun ha hcm) rfl rfl ⟨Nat.le_of_ble_eq_true rfl, Nat.le_of_ble_eq_true rfl⟩ ⟨Nat.zero_le _, Nat.zero_le _⟩ (Nat.le_of_ble_eq_true rfl) ?_
    try dsimp only
    have e9 : mtT T = if T.1 21 34 = 0 then mdS T else T := rfl
    (first | rw [if_pos h1] at e9 | rw [if_neg h1] at e9)
    exact k_M_readPlanesZ (by rw [← e9]; exact hq)
set_option maxHeartbeats 4000000 in
set_option maxRecDepth 40000 in
theorem k_M_readPlanesP {l : Launch} {h cm c r : Nat} {Q0 : Option AV → St → Prop} {pl : Int32} (hc2 : c ≤ 16) (hr2 : r ≤ 16) (hcm : cm ≤ 3000) : ∀ (n : Nat) (T : St), n ≤ 6 → T.1 21 9 = nI c → T.1 21 10 = nI r → atOK cm T → goes T → Q0 (some (aI (if goes (reF (rpN n T)) then pl else -1))) (reF (rpN n T)) → ∀ z3 z4 z5 z6 z7, E0 l (SHm h) (4, 89) m_M_readPlanes 99 [some (aR 21), some (aI pl), some (aI (nI n - 1)), z3, z4, z5, z6, z7] [] T Q0 := by
  intro n
  induction n with
  | zero =>
    intro T hn hc hr ha hg hq z3 z4 z5 z6 z7
    have hq : Q0 (some (aI (if goes (reF T) then pl else -1))) (reF T) := hq
    iterate 1 refine e_sp rfl rfl rfl ?_
    refine e_iflt rfl (fun h1 => ?_) (fun h1 => ?_)
    · try dsimp only
      exact k_M_readPlanesE ha hcm (by rw [show reF T = mtT T from if_pos hg] at hq; exact hq)
    · try dsimp only
      exact absurd (by decide) h1
  | succ n ih =>
    intro T hn hc hr ha hg hq z3 z4 z5 z6 z7
    have hp : rpP T = nF rmF 256 (nxM T) := if_pos hg
    rw [show rpN (n + 1) T = rpN n (rpP T) from rfl, hp] at hq
    have hI : rmI cm T (nF rmF 256 (nxM T)) := by rw [← hp]; exact rpP_I hcm ⟨fun _ _ => rfl, fun _ _ _ _ _ _ _ => rfl, rfl, ha⟩
    have kx : ¬ goes (nF rmF 256 (nxM T)) → Q0 (some (aI (-1))) (nF rmF 256 (nxM T)) := by
      revert hq
      generalize nF rmF 256 (nxM T) = U
      intro hq h9
      rw [rpN_stay h9, show reF U = U from if_neg h9, if_neg h9] at hq
      exact hq
    have kn : goes (nF rmF 256 (nxM T)) → ∀ z3 z4 z5 z6 z7, E0 l (SHm h) (4, 89) m_M_readPlanes 99 [some (aR 21), some (aI pl), some (aI (nI n - 1)), z3, z4, z5, z6, z7] [] (nF rmF 256 (nxM T)) Q0 := by
      revert hq hI
      generalize nF rmF 256 (nxM T) = U
      intro hq hI h9
      exact ih U (by omega) ((hI.1 9 (by decide)).trans hc) ((hI.1 10 (by decide)).trans hr) hI.2.2.2 h9 hq
    iterate 1 refine e_sp rfl rfl rfl ?_
    refine e_iflt rfl (fun h1 => ?_) (fun h1 => ?_)
    · try dsimp only
      exact absurd h1 (by rw [nI_pred]; exact nI_pos (by omega))
    · try dsimp only
      simp only [nI_pred]
      iterate 1 refine e_sp rfl rfl rfl ?_
      refine e_callV0 ok_M_nextPlane rfl lk_M_193 (by rfl) (by rfl) k_M_nextPlane rfl rfl ⟨Nat.le_of_ble_eq_true rfl, Nat.le_of_ble_eq_true rfl⟩ ⟨Nat.zero_le _, Nat.zero_le _⟩ (Nat.le_of_ble_eq_true rfl) ?_
      refine e_ci 0 rfl rfl ?_
      iterate 1 refine e_sp rfl rfl rfl ?_
      try dsimp only
      exact k_M_readPlanesK hc hr hc2 hr2 hcm ha hg kx kn _ _ _ _
theorem rd0_k {S : St} {m k : Nat} (h : k ≠ 36) (h2 : k ≠ 37) : (rd0 S m).1 21 k = S.1 21 k := by
  unfold rd0
  generalize plM (flI S 32 0 256) * nI (bl 6 m) = v
  have e : ∀ q, (flI S 32 0 256).1 21 q = S.1 21 q := fun q => by rw [flI_o (by decide)]
  generalize flI S 32 0 256 = U at e ⊢
  rw [← e]
  simp [puI, pt, upd, h, h2]
theorem rd0_37 {S : St} {m : Nat} : (rd0 S m).1 21 37 = 0 := by
  unfold rd0
  generalize plM (flI S 32 0 256) * nI (bl 6 m) = v
  generalize flI S 32 0 256 = U
  simp [puI, pt, upd]
set_option maxHeartbeats 4000000 in
set_option maxRecDepth 40000 in
theorem k_M_readPlanes {l : Launch} {h : Nat} {S : St} {c r m cm : Nat} (hc : S.1 21 9 = nI c) (hr : S.1 21 10 = nI r) (hc2 : c ≤ 16) (hr2 : r ≤ 16) (hm : S.1 21 7 = nI (m + 1)) (hm2 : m < 64) (ha : atOK cm S) (hcm : cm ≤ 3000) (h35 : S.1 21 35 = 0) : KK l (SHm h) (4, 89) m_M_readPlanes [aR 21] S (ans (some (aI (rpR S m))) (rpS S m)) := by
  refine k_start ok_M_readPlanes (Nat.le_of_ble_eq_true rfl) ?_
  have hb6 := bl_le 6 m
  have ha0 : atOK cm (rd0 S m) := by
    obtain ⟨h1, a, h2, h3⟩ := ha
    exact ⟨by rw [rd0_k (by decide) (by decide)]; exact h1, a, h2, by rw [rd0_k (by decide) (by decide)]; exact h3⟩
  have hg0 : goes (rd0 S m) := ⟨by rw [rd0_k (by decide) (by decide)]; exact h35, rd0_37⟩
  have hm : (flI S 32 0 256).1 21 7 = nI (m + 1) := by rw [flI_o (by decide)]; exact hm
  have L3 : E0 l (SHm h) (4, 89) m_M_readPlanes 99 [some (aR 21), some (aI (plM (flI S 32 0 256))), some (aI (nI (bl 6 m) - 1)), none, none, none, none, none] [] (rd0 S m) (ans (some (aI (rpR S m))) (rpS S m)) :=
    k_M_readPlanesP hc2 hr2 hcm (bl 6 m) (rd0 S m) hb6 (by rw [rd0_k (by decide) (by decide)]; exact hc) (by rw [rd0_k (by decide) (by decide)]; exact hr) ha0 hg0 ⟨rfl, rfl⟩ _ _ _ _ _
  unfold rd0 plM at L3
  generalize hF : (flI S 32 0 256) = F at L3 hm
  have L2 := e_for (P := fun k => E0 l (SHm h) (4, 89) m_M_readPlanes 26 [some (aR 21), some (aI (nF (plF F) k 0)), some (aI (nI k)), none, none, none, none, none] [] (F) (ans (some (aI (rpR S m))) (rpS S m))) (256) (by
      iterate 1 refine e_sp rfl rfl rfl ?_
      refine e_cs 256 rfl rfl ?_
      refine e_icge rfl (fun h1 => ?_) (fun h1 => ?_)
      · iterate 3 refine e_sp rfl rfl rfl ?_
        refine e_callV1 ok_M_planes rfl lk_M_114 (by rfl) (by rfl) (k_M_planes (m := m) (by simpa [puI, pt, upd] using hm) hm2) rfl rfl ⟨Nat.le_of_ble_eq_true rfl, Nat.le_of_ble_eq_true rfl⟩ ⟨Nat.zero_le _, Nat.zero_le _⟩ (Nat.le_of_ble_eq_true rfl) ?_
        iterate 3 refine e_sp rfl rfl rfl ?_
        refine e_ci 0 rfl rfl ?_
        iterate 2 refine e_sp rfl rfl rfl ?_
        refine e_callV1 ok_M_planes rfl lk_M_114 (by rfl) (by rfl) (k_M_planes (m := m) (by simpa [puI, pt, upd] using hm) hm2) rfl rfl ⟨Nat.le_of_ble_eq_true rfl, Nat.le_of_ble_eq_true rfl⟩ ⟨Nat.zero_le _, Nat.zero_le _⟩ (Nat.le_of_ble_eq_true rfl) ?_
        refine e_ci 1 rfl rfl ?_
        iterate 2 refine e_sp rfl rfl rfl ?_
        try dsimp only
        exact L3
      · try dsimp only
        exact absurd (nI_le (Nat.le_refl _) (by decide)) h1) (fun k hk ihk => by
      iterate 1 refine e_sp rfl rfl rfl ?_
      refine e_cs 256 rfl rfl ?_
      refine e_icge rfl (fun h1 => ?_) (fun h1 => ?_)
      · try dsimp only
        exact absurd h1 (nI_ge hk (by decide))
      · iterate 3 refine e_sp rfl rfl rfl ?_
        refine e_cb 16 rfl rfl ?_
        refine e_rem rfl (by decide) ?_
        try dsimp only
        rw [show (16 : Int32) = nI 16 from rfl, rmd 16 (by omega) (by decide) (by decide)]
        iterate 1 refine e_sp rfl rfl rfl ?_
        refine e_cb 16 rfl rfl ?_
        refine e_div rfl (by decide) ?_
        try dsimp only
        rw [show (16 : Int32) = nI 16 from rfl, dvd9 16 (by omega) (by decide) (by decide)]
        refine e_callV1 ok_M_hasPlace rfl lk_M_141 (by rfl) (by rfl) k_M_hasPlace rfl rfl ⟨Nat.le_of_ble_eq_true rfl, Nat.le_of_ble_eq_true rfl⟩ ⟨Nat.zero_le _, Nat.zero_le _⟩ (Nat.le_of_ble_eq_true rfl) ?_
        refine e_ifeq rfl (fun h2 => ?_) (fun h2 => ?_)
        · refine e_ci 0 rfl rfl ?_
          iterate 2 refine e_sp rfl rfl rfl ?_
          refine e_inc 1 rfl rfl rfl rfl ?_
          refine e_goto rfl ?_
          try dsimp only
          rw [nI_1]
          simp only [nF] at ihk
          rw [plF] at ihk
          (first | rw [if_pos h2] at ihk | rw [if_neg h2] at ihk)
          exact ihk
        · iterate 2 refine e_sp rfl rfl rfl ?_
          refine e_cb 16 rfl rfl ?_
          refine e_rem rfl (by decide) ?_
          try dsimp only
          rw [show (16 : Int32) = nI 16 from rfl, rmd 16 (by omega) (by decide) (by decide)]
          iterate 1 refine e_sp rfl rfl rfl ?_
          refine e_cb 16 rfl rfl ?_
          refine e_div rfl (by decide) ?_
          try dsimp only
          rw [show (16 : Int32) = nI 16 from rfl, dvd9 16 (by omega) (by decide) (by decide)]
          refine e_callV1 ok_M_isSkipped rfl lk_M_196 (by rfl) (by rfl) k_M_isSkipped rfl rfl ⟨Nat.le_of_ble_eq_true rfl, Nat.le_of_ble_eq_true rfl⟩ ⟨Nat.zero_le _, Nat.zero_le _⟩ (Nat.le_of_ble_eq_true rfl) ?_
          refine e_ifne rfl (fun h3 => ?_) (fun h3 => ?_)
          · refine e_ci 0 rfl rfl ?_
            iterate 2 refine e_sp rfl rfl rfl ?_
            refine e_inc 1 rfl rfl rfl rfl ?_
            refine e_goto rfl ?_
            try dsimp only
            rw [nI_1]
            simp only [nF] at ihk
            rw [plF] at ihk
            (first | rw [if_pos h2] at ihk | rw [if_neg h2] at ihk)
            (first | rw [if_pos h3] at ihk | rw [if_neg h3] at ihk)
            exact ihk
          · refine e_ci 1 rfl rfl ?_
            refine e_goto rfl ?_
            iterate 2 refine e_sp rfl rfl rfl ?_
            refine e_inc 1 rfl rfl rfl rfl ?_
            refine e_goto rfl ?_
            try dsimp only
            rw [nI_1]
            simp only [nF] at ihk
            rw [plF] at ihk
            (first | rw [if_pos h2] at ihk | rw [if_neg h2] at ihk)
            (first | rw [if_pos h3] at ihk | rw [if_neg h3] at ihk)
            exact ihk)
  rw [← hF] at L2
  have L1 := e_for (P := fun i => E0 l (SHm h) (4, 89) m_M_readPlanes 2 [some (aR 21), some (aI (nI i)), none, none, none, none, none, none] [] (flI S 32 0 i) (ans (some (aI (rpR S m))) (rpS S m))) (256) (by
      iterate 1 refine e_sp rfl rfl rfl ?_
      refine e_cs 256 rfl rfl ?_
      refine e_icge rfl (fun h1 => ?_) (fun h1 => ?_)
      · refine e_ci 0 rfl rfl ?_
        iterate 1 refine e_sp rfl rfl rfl ?_
        refine e_ci 0 rfl rfl ?_
        iterate 1 refine e_sp rfl rfl rfl ?_
        try dsimp only
        exact L2
      · try dsimp only
        exact absurd (nI_le (Nat.le_refl _) (by decide)) h1) (fun i hi ihi => by
      iterate 1 refine e_sp rfl rfl rfl ?_
      refine e_cs 256 rfl rfl ?_
      refine e_icge rfl (fun h1 => ?_) (fun h1 => ?_)
      · try dsimp only
        exact absurd h1 (nI_ge hi (by decide))
      · iterate 3 refine e_sp rfl rfl rfl ?_
        refine e_ci 0 rfl rfl ?_
        refine e_iast rfl (by first | rfl | assumption) (by exact vp_in_nI hi (by decide)) ?_
        refine e_inc 1 rfl rfl rfl rfl ?_
        refine e_goto rfl ?_
        try dsimp only
        rw [nI_clamp (by omega), flI_s, nI_1]
        exact ihi)
  refine e_ci 0 rfl rfl ?_
  iterate 1 refine e_sp rfl rfl rfl ?_
  try dsimp only
  rw [flI_0] at L1
  exact L1
/-! isMore, refusal -/
def imF (S : St) (a i : Nat) (v : Int32) : Int32 := if v = 0 then (if S.1 27 ((a + i) / 8) >>> ((7 - nI ((a + i) % 8)) &&& 31) &&& 1 = 1 then 1 else 0) else 1
def im0 (S : St) : Int32 := if 8 * S.1 21 23 ≤ S.1 21 32 + 7 then 0 else 1
def imM (S : St) : Int32 := nF (imF S (atM S)) (8 * (S.1 21 23).toNatClampNeg - atM S) (im0 S)
theorem imN_01 {S : St} {a : Nat} {v : Int32} (h : v = 0 ∨ v = 1) : ∀ i, nF (imF S a) i v = 0 ∨ nF (imF S a) i v = 1
  | 0 => h
  | i + 1 => by
    show imF S a i (nF (imF S a) i v) = 0 ∨ imF S a i (nF (imF S a) i v) = 1
    unfold imF
    split
    · split
      · exact Or.inr rfl
      · exact Or.inl rfl
    · exact Or.inr rfl
set_option maxHeartbeats 4000000 in
set_option maxRecDepth 40000 in
theorem k_M_isMoreL {l : Launch} {h : Nat} {S : St} {c a : Nat} {v : Int32} (hz1 : S.1 21 23 = nI c) (hz2 : a ≤ 8 * c) (hc : c ≤ 3000) (hv : v = 0 ∨ v = 1) : E0 l (SHm h) (0, 0) m_M_isMore 28 [some (aR 21), some (aI v), some (aI (nI a))] [] S (ans (some (aI (nF (imF S a) (8 * c - a) v))) S) := by
  have L1 := e_for (P := fun i => E0 l (SHm h) (0, 0) m_M_isMore 28 [some (aR 21), some (aI (nF (imF S a) i v)), some (aI (nI (a + i)))] [] (S) (ans (some (aI (nF (imF S a) (8 * c - a) v))) S)) (8 * c - a) (by
      iterate 1 refine e_sp rfl rfl rfl ?_
      refine e_cb 8 rfl rfl ?_
      iterate 3 refine e_sp rfl rfl rfl ?_
      refine e_icge rfl (fun h1 => ?_) (fun h1 => ?_)
      · iterate 1 refine e_sp rfl rfl rfl ?_
        refine e_zret rfl rfl (Nat.le_refl _) (Nat.le_refl _) (by exact imN_01 hv _) ?_
        exact ⟨rfl, rfl⟩
      · try dsimp only
        try dsimp only at h1
        rw [hz1, ix8] at h1
        exact absurd (nI_le (by omega) (by omega)) h1) (fun i hi ihi => by
      iterate 1 refine e_sp rfl rfl rfl ?_
      refine e_cb 8 rfl rfl ?_
      iterate 3 refine e_sp rfl rfl rfl ?_
      refine e_icge rfl (fun h1 => ?_) (fun h1 => ?_)
      · try dsimp only
        try dsimp only at h1
        rw [hz1, ix8] at h1
        exact absurd h1 (nI_ge (show a + i < 8 * c by omega) (by omega))
      · iterate 1 refine e_sp rfl rfl rfl ?_
        refine e_ifne rfl (fun h2 => ?_) (fun h2 => ?_)
        · refine e_ci 1 rfl rfl ?_
          refine e_goto rfl ?_
          iterate 1 refine e_sp rfl rfl rfl ?_
          refine e_inc 1 rfl rfl rfl rfl ?_
          refine e_goto rfl ?_
          try dsimp only
          rw [nI_1]
          simp only [nF] at ihi
          rw [imF] at ihi
          (first | rw [if_pos h2] at ihi | rw [if_neg h2] at ihi)
          exact ihi
        · iterate 3 refine e_sp rfl rfl rfl ?_
          refine e_cb 8 rfl rfl ?_
          refine e_div rfl (by decide) ?_
          try dsimp only
          rw [show (8 : Int32) = nI 8 from rfl, dvd9 8 (by omega) (by decide) (by decide)]
          refine e_iald rfl (by first | rfl | assumption) (by exact vp_in_nI (show (a + i) / 8 < 3000 by omega) (by decide)) ?_
          rw [nI_clamp (by omega)]
          refine e_cb 7 rfl rfl ?_
          iterate 1 refine e_sp rfl rfl rfl ?_
          refine e_cb 8 rfl rfl ?_
          refine e_rem rfl (by decide) ?_
          try dsimp only
          rw [show (8 : Int32) = nI 8 from rfl, rmd 8 (by omega) (by decide) (by decide)]
          iterate 2 refine e_sp rfl rfl rfl ?_
          refine e_ci 1 rfl rfl ?_
          iterate 1 refine e_sp rfl rfl rfl ?_
          refine e_ci 1 rfl rfl ?_
          refine e_icne rfl (fun h3 => ?_) (fun h3 => ?_)
          · refine e_ci 0 rfl rfl ?_
            iterate 1 refine e_sp rfl rfl rfl ?_
            refine e_inc 1 rfl rfl rfl rfl ?_
            refine e_goto rfl ?_
            try dsimp only
            rw [nI_1]
            simp only [nF] at ihi
            rw [imF] at ihi
            (first | rw [if_pos h2] at ihi | rw [if_neg h2] at ihi)
            (first | rw [if_pos h3] at ihi | rw [if_neg h3] at ihi)
            exact ihi
          · refine e_ci 1 rfl rfl ?_
            refine e_goto rfl ?_
            iterate 1 refine e_sp rfl rfl rfl ?_
            refine e_inc 1 rfl rfl rfl rfl ?_
            refine e_goto rfl ?_
            try dsimp only
            rw [nI_1]
            simp only [nF] at ihi
            rw [imF] at ihi
            (first | rw [if_pos h2] at ihi | rw [if_neg h2] at ihi)
            (first | rw [if_pos h3] at ihi | rw [if_neg h3] at ihi)
            exact ihi)
  exact L1
set_option maxHeartbeats 4000000 in
set_option maxRecDepth 40000 in
theorem k_M_isMore {l : Launch} {h : Nat} {S : St} {c : Nat} (ha : atOK c S) (hc : c ≤ 3000) : KK l (SHm h) (0, 0) m_M_isMore [aR 21] S (ans (some (aI (imM S))) S) := by
  refine k_start ok_M_isMore (Nat.le_of_ble_eq_true rfl) ?_
  obtain ⟨hz1, a, hz2, hz3⟩ := ha
  have e3 : atM S = a := by rw [atM, hz3, nI_clamp (by omega)]
  iterate 2 refine e_sp rfl rfl rfl ?_
  refine e_cb 7 rfl rfl ?_
  iterate 1 refine e_sp rfl rfl rfl ?_
  refine e_cb 8 rfl rfl ?_
  iterate 3 refine e_sp rfl rfl rfl ?_
  refine e_icge rfl (fun h1 => ?_) (fun h1 => ?_)
  · refine e_ci 0 rfl rfl ?_
    iterate 4 refine e_sp rfl rfl rfl ?_
    try dsimp only
    have e9 : im0 S = if 8 * S.1 21 23 ≤ S.1 21 32 + 7 then 0 else 1 := rfl
    (first | rw [if_pos h1] at e9 | rw [if_neg h1] at e9)
    have e8 : imM S = nF (imF S a) (8 * c - a) (im0 S) := by rw [imM, e3, hz1, nI_clamp (by omega)]
    rw [e8, e9, hz3]
    exact k_M_isMoreL hz1 hz2 hc (by decide)
  · refine e_ci 1 rfl rfl ?_
    refine e_goto rfl ?_
    iterate 4 refine e_sp rfl rfl rfl ?_
    try dsimp only
    have e9 : im0 S = if 8 * S.1 21 23 ≤ S.1 21 32 + 7 then 0 else 1 := rfl
    (first | rw [if_pos h1] at e9 | rw [if_neg h1] at e9)
    have e8 : imM S = nF (imF S a) (8 * c - a) (im0 S) := by rw [imM, e3, hz1, nI_clamp (by omega)]
    rw [e8, e9, hz3]
    exact k_M_isMoreL hz1 hz2 hc (by decide)
def rfA (S : St) : Nat → Bool
  | 0 => true
  | i + 1 => rfA S i && decide (S.1 32 i < S.1 21 7)
theorem rfA_iff (S : St) : ∀ n, rfA S n = true ↔ ∀ i, i < n → S.1 32 i < S.1 21 7
  | 0 => ⟨fun _ i h => absurd h (Nat.not_lt_zero i), fun _ => rfl⟩
  | n + 1 => by
    simp only [rfA, Bool.and_eq_true, decide_eq_true_eq, rfA_iff S n]
    constructor
    · rintro ⟨h1, h2⟩ i hi
      rcases Nat.lt_or_ge i n with g | g
      · exact h1 i g
      · rw [show i = n by omega]; exact h2
    · intro h1
      exact ⟨fun i hi => h1 i (by omega), h1 n (by omega)⟩
def rfR (S : St) : Int32 := if imM S = 0 then (if rfA S 256 = true then 0 else 4) else 3
set_option maxHeartbeats 4000000 in
set_option maxRecDepth 40000 in
theorem k_M_refusal {l : Launch} {h : Nat} {S : St} {c : Nat} (ha : atOK c S) (hc : c ≤ 3000) : KK l (SHm h) (1, 22) m_M_refusal [aR 21] S (ans (some (aI (rfR S))) S) := by
  refine k_start ok_M_refusal (Nat.le_of_ble_eq_true rfl) ?_
  iterate 1 refine e_sp rfl rfl rfl ?_
  refine e_callV1 ok_M_isMore rfl lk_M_244 (by rfl) (by rfl) (k_M_isMore ha hc) rfl rfl ⟨Nat.le_of_ble_eq_true rfl, Nat.le_of_ble_eq_true rfl⟩ ⟨Nat.zero_le _, Nat.zero_le _⟩ (Nat.le_of_ble_eq_true rfl) ?_
  refine e_ifeq rfl (fun h1 => ?_) (fun h1 => ?_)
  · refine e_ci 0 rfl rfl ?_
    iterate 1 refine e_sp rfl rfl rfl ?_
    try dsimp only
    have hm0 := h1
    have L1 := e_for (P := fun i => ∀ (_ : ∀ q, q < i → S.1 32 q < S.1 21 7), E0 l (SHm h) (1, 22) m_M_refusal 11 [some (aR 21), some (aI (nI i))] [] (S) (ans (some (aI (rfR S))) S)) (256) (by
        intro hall
        iterate 1 refine e_sp rfl rfl rfl ?_
        refine e_cs 256 rfl rfl ?_
        refine e_icge rfl (fun h1 => ?_) (fun h1 => ?_)
        · refine e_ci 0 rfl rfl ?_
          refine e_iret rfl rfl (Nat.le_refl _) (Nat.le_refl _) ?_
          exact ⟨by rw [rfR, if_pos hm0, if_pos ((rfA_iff S 256).mpr hall)], rfl⟩
        · try dsimp only
          exact absurd (nI_le (Nat.le_refl _) (by decide)) h1) (fun i hi ihi => by
        intro hall
        iterate 1 refine e_sp rfl rfl rfl ?_
        refine e_cs 256 rfl rfl ?_
        refine e_icge rfl (fun h1 => ?_) (fun h1 => ?_)
        · try dsimp only
          exact absurd h1 (nI_ge hi (by decide))
        · iterate 3 refine e_sp rfl rfl rfl ?_
          refine e_iald rfl (by first | rfl | assumption) (by exact vp_in_nI hi (by decide)) ?_
          rw [nI_clamp (by omega)]
          iterate 2 refine e_sp rfl rfl rfl ?_
          refine e_iclt rfl (fun h2 => ?_) (fun h2 => ?_)
          · refine e_inc 1 rfl rfl rfl rfl ?_
            refine e_goto rfl ?_
            try dsimp only
            rw [nI_1]
            refine ihi (fun q hq => ?_)
            rcases Nat.lt_or_ge q i with g | g
            · exact hall q g
            · rw [show q = i by omega]; exact h2
          · refine e_ci 4 rfl rfl ?_
            refine e_iret rfl rfl (Nat.le_refl _) (Nat.le_refl _) ?_
            exact ⟨by rw [rfR, if_pos hm0, if_neg (fun g => h2 ((rfA_iff S 256).mp g i hi))], rfl⟩)
    exact L1 (fun q hq => absurd hq (Nat.not_lt_zero q))
  · refine e_ci 3 rfl rfl ?_
    refine e_iret rfl rfl (Nat.le_refl _) (Nat.le_refl _) ?_
    exact ⟨by rw [rfR, if_neg h1], rfl⟩
/-! decode -/
def de0 (S : St) : St := puI (puI (puI (puI (brM (puI S 21 0 0)) 21 32 0) 21 33 0) 21 34 0) 21 35 0
def deN (T : St) (pl : Int32) : Int32 := if T.1 21 35 = 0 then (if 0 ≤ pl then rfR T else 2) else 1
def cyF (i : Nat) (T : St) : St := puI T 25 i (T.1 32 i)
def deR (T : St) (pl : Int32) : Int32 := if deN T pl ≤ 0 then pl else -1 - deN T pl
def deS (T : St) (pl : Int32) : St := if deN T pl ≤ 0 then nF cyF 256 (puI T 21 23 0) else puI T 21 23 0
def deX (S : St) (m : Nat) : St := rpS (de0 S) m
def deP (S : St) (m : Nat) : Int32 := rpR (de0 S) m
theorem de0_k {S : St} {k : Nat} (h0 : k ≠ 0) (h : k < 29) : (de0 S).1 21 k = S.1 21 k := by
  have h1 : k ≠ 32 := by omega
  have h2 : k ≠ 33 := by omega
  have h3 : k ≠ 34 := by omega
  have h4 : k ≠ 35 := by omega
  have e : (brM (puI S 21 0 0)).1 21 k = S.1 21 k := by rw [brM_k (by omega) (by omega) (by omega)]; simp [puI, pt, upd, h0]
  rw [← e]
  unfold de0
  simp [puI, pt, upd, h1, h2, h3, h4]
set_option maxHeartbeats 4000000 in
set_option maxRecDepth 40000 in
theorem k_M_decodeC {l : Launch} {h : Nat} {W : St} {pl no : Int32} : E0 l (SHm h) (5, 116) m_M_decode 73 [some (aR 21), some (aI pl), some (aI no), some (aI (nI 0))] [] W (ans (some (aI pl)) (nF cyF 256 W)) := by
  have L1 := e_for (P := fun i => E0 l (SHm h) (5, 116) m_M_decode 73 [some (aR 21), some (aI pl), some (aI no), some (aI (nI i))] [] (nF cyF i W) (ans (some (aI pl)) (nF cyF 256 W))) (256) (by
      iterate 1 refine e_sp rfl rfl rfl ?_
      refine e_cs 256 rfl rfl ?_
      refine e_icge rfl (fun h1 => ?_) (fun h1 => ?_)
      · iterate 1 refine e_sp rfl rfl rfl ?_
        refine e_iret rfl rfl (Nat.le_refl _) (Nat.le_refl _) ?_
        exact ⟨rfl, rfl⟩
      · try dsimp only
        exact absurd (nI_le (Nat.le_refl _) (by decide)) h1) (fun i hi ihi => by
      iterate 1 refine e_sp rfl rfl rfl ?_
      refine e_cs 256 rfl rfl ?_
      refine e_icge rfl (fun h1 => ?_) (fun h1 => ?_)
      · try dsimp only
        exact absurd h1 (nI_ge hi (by decide))
      · iterate 6 refine e_sp rfl rfl rfl ?_
        refine e_iald rfl (by first | rfl | assumption) (by exact vp_in_nI hi (by decide)) ?_
        rw [nI_clamp (by omega)]
        refine e_iast rfl (by first | rfl | assumption) (by exact vp_in_nI hi (by decide)) ?_
        try rw [nI_clamp (by omega)]
        refine e_inc 1 rfl rfl rfl rfl ?_
        refine e_goto rfl ?_
        try dsimp only
        rw [nI_1]
        exact ihi)
  exact L1
set_option maxHeartbeats 4000000 in
set_option maxRecDepth 40000 in
theorem k_M_decodeD {l : Launch} {h : Nat} {T : St} {pl : Int32} (z3 : Option AV) : E0 l (SHm h) (5, 116) m_M_decode 58 [some (aR 21), some (aI pl), some (aI (deN T pl)), z3] [] T (ans (some (aI (deR T pl))) (deS T pl)) := by
  have hdR : deR T pl = if deN T pl ≤ 0 then pl else -1 - deN T pl := rfl
  have hdS : deS T pl = if deN T pl ≤ 0 then nF cyF 256 (puI T 21 23 0) else puI T 21 23 0 := rfl
  generalize deN T pl = no at hdR hdS ⊢
  iterate 1 refine e_sp rfl rfl rfl ?_
  refine e_ci 0 rfl rfl ?_
  iterate 2 refine e_sp rfl rfl rfl ?_
  refine e_ifle rfl (fun h1 => ?_) (fun h1 => ?_)
  · refine e_ci 0 rfl rfl ?_
    iterate 1 refine e_sp rfl rfl rfl ?_
    try dsimp only
    rw [hdR, hdS, if_pos h1, if_pos h1]
    exact k_M_decodeC
  · refine e_ci (-1) rfl rfl ?_
    iterate 2 refine e_sp rfl rfl rfl ?_
    refine e_iret rfl rfl (Nat.le_refl _) (Nat.le_refl _) ?_
    rw [hdR, hdS, if_neg h1, if_neg h1]
    exact ⟨rfl, rfl⟩
set_option maxHeartbeats 4000000 in
set_option maxRecDepth 40000 in
theorem k_M_decodeT {l : Launch} {h cm : Nat} {T : St} {pl : Int32} (ha : atOK cm T) (hcm : cm ≤ 3000) (z2 z3 : Option AV) : E0 l (SHm h) (5, 116) m_M_decode 34 [some (aR 21), some (aI pl), z2, z3] [] T (ans (some (aI (deR T pl))) (deS T pl)) := by
  iterate 2 refine e_sp rfl rfl rfl ?_
  refine e_ifeq rfl (fun h1 => ?_) (fun h1 => ?_)
  · iterate 1 refine e_sp rfl rfl rfl ?_
    refine e_ifge rfl (fun h2 => ?_) (fun h2 => ?_)
    · iterate 1 refine e_sp rfl rfl rfl ?_
      refine e_callV1 ok_M_refusal rfl lk_M_251 (by rfl) (by rfl) (k_M_refusal ha hcm) rfl rfl ⟨Nat.le_of_ble_eq_true rfl, Nat.le_of_ble_eq_true rfl⟩ ⟨Nat.zero_le _, Nat.zero_le _⟩ (Nat.le_of_ble_eq_true rfl) ?_
      try dsimp only
      have e9 : deN T pl = if T.1 21 35 = 0 then (if 0 ≤ pl then rfR T else 2) else 1 := rfl
      (first | rw [if_pos h1] at e9 | rw [if_neg h1] at e9)
      (first | rw [if_pos h2] at e9 | rw [if_neg h2] at e9)
      rw [← e9]
      refine e_sp rfl rfl rfl ?_
      exact k_M_decodeD _
    · refine e_ci 2 rfl rfl ?_
      refine e_goto rfl ?_
      try dsimp only
      have e9 : deN T pl = if T.1 21 35 = 0 then (if 0 ≤ pl then rfR T else 2) else 1 := rfl
      (first | rw [if_pos h1] at e9 | rw [if_neg h1] at e9)
      (first | rw [if_pos h2] at e9 | rw [if_neg h2] at e9)
      rw [← e9]
      refine e_sp rfl rfl rfl ?_
      exact k_M_decodeD _
  · refine e_ci 1 rfl rfl ?_
    refine e_goto rfl ?_
    try dsimp only
    have e9 : deN T pl = if T.1 21 35 = 0 then (if 0 ≤ pl then rfR T else 2) else 1 := rfl
    (first | rw [if_pos h1] at e9 | rw [if_neg h1] at e9)
    rw [← e9]
    refine e_sp rfl rfl rfl ?_
    exact k_M_decodeD _
theorem de0_at {cm : Nat} {S : St} (hc : S.1 21 23 = nI cm) : atOK cm (de0 S) := by
  refine ⟨by rw [de0_k (by decide) (by decide)]; exact hc, 0, Nat.zero_le _, ?_⟩
  simp [de0, puI, pt, upd, nI_0]
theorem de0_35 {S : St} : (de0 S).1 21 35 = 0 := by simp [de0, puI, pt, upd]
theorem rpS_I {cm m : Nat} {S : St} (hcm : cm ≤ 3000) (ha : atOK cm S) : rmI cm S (rpS S m) := by
  have h0 : rmI cm S (rd0 S m) := by
    obtain ⟨h1, a, h2, h3⟩ := ha
    refine ⟨fun k hk => rd0_k (by omega) (by omega), fun o o1 o2 o3 o4 o5 o6 => ?_, rfl, by rw [rd0_k (by decide) (by decide)]; exact h1, a, h2, by rw [rd0_k (by decide) (by decide)]; exact h3⟩
    rw [rd0, puI_o o1, puI_o o1, flI_o o6]
  have h1 := rpN_I hcm (bl 6 m) _ h0
  unfold rpS
  generalize rpN (bl 6 m) (rd0 S m) = U at h1 ⊢
  unfold reF
  split
  · obtain ⟨g1, g2, g3, g4⟩ := h1
    refine ⟨fun k hk => (mtT_k hk).trans (g1 k hk), fun o o1 o2 o3 o4 o5 o6 => (mtT_o o1).1.trans (g2 o o1 o2 o3 o4 o5 o6), (mtT_o (o := 0) (by decide)).2.trans g3, ?_⟩
    unfold mtT
    split
    · exact mdS_at hcm g4
    · exact g4
  · exact h1
set_option maxHeartbeats 4000000 in
set_option maxRecDepth 40000 in
theorem k_M_decode {l : Launch} {h : Nat} {S : St} {c r m cm : Nat} (hc : S.1 21 9 = nI c) (hr : S.1 21 10 = nI r) (hc2 : c ≤ 16) (hr2 : r ≤ 16) (hm : S.1 21 7 = nI (m + 1)) (hm2 : m < 64) (hcb : S.1 21 23 = nI cm) (hcm : cm ≤ 3000) : KK l (SHm h) (5, 116) m_M_decode [aR 21] S (ans (some (aI (deR (deX S m) (deP S m)))) (deS (deX S m) (deP S m))) := by
  refine k_start ok_M_decode (Nat.le_of_ble_eq_true rfl) ?_
  have ha0 := de0_at hcb
  have h350 : (de0 S).1 21 35 = 0 := de0_35
  have hX : atOK cm (deX S m) := (rpS_I hcm ha0).2.2.2
  iterate 1 refine e_sp rfl rfl rfl ?_
  refine e_ci 0 rfl rfl ?_
  iterate 2 refine e_sp rfl rfl rfl ?_
  refine e_callV0 ok_M_beginRuns rfl lk_M_190 (by rfl) (by rfl) k_M_beginRuns rfl rfl ⟨Nat.le_of_ble_eq_true rfl, Nat.le_of_ble_eq_true rfl⟩ ⟨Nat.zero_le _, Nat.zero_le _⟩ (Nat.le_of_ble_eq_true rfl) ?_
  iterate 1 refine e_sp rfl rfl rfl ?_
  refine e_ci 0 rfl rfl ?_
  iterate 2 refine e_sp rfl rfl rfl ?_
  refine e_ci 0 rfl rfl ?_
  iterate 2 refine e_sp rfl rfl rfl ?_
  refine e_ci 0 rfl rfl ?_
  iterate 2 refine e_sp rfl rfl rfl ?_
  refine e_ci 0 rfl rfl ?_
  iterate 1 refine e_sp rfl rfl rfl ?_
  refine e_st (S2 := de0 S) rfl ?_
  iterate 1 refine e_sp rfl rfl rfl ?_
  refine e_callV1 ok_M_readPlanes rfl lk_M_248 (by rfl) (by rfl) (k_M_readPlanes (m := m) (by rw [de0_k (by decide) (by decide)]; exact hc) (by rw [de0_k (by decide) (by decide)]; exact hr) hc2 hr2 (by rw [de0_k (by decide) (by decide)]; exact hm) hm2 ha0 hcm h350) rfl rfl ⟨Nat.le_of_ble_eq_true rfl, Nat.le_of_ble_eq_true rfl⟩ ⟨Nat.zero_le _, Nat.zero_le _⟩ (Nat.le_of_ble_eq_true rfl) ?_
  iterate 1 refine e_sp rfl rfl rfl ?_
  try dsimp only
  exact k_M_decodeT hX hcm _ _
end
