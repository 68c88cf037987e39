theorem sc_H_isWithin : Jvm.Cond.static m_H_isWithin.1 ∈ lw_tbl := List.mem_of_getElem? (i := 311) (by decide +kernel)
theorem ii_H : Jvm.Cond.initialized "HalftoneRegions" ∈ lw_tbl := List.mem_of_getElem? (i := 53) (by decide +kernel)
theorem lk_H_83 : lkS "HalftoneRegions" 83 m_H_isWithin 3 := ⟨List.mem_of_getElem? (i := 365) (by decide +kernel), sc_H_isWithin, ii_H, ⟨by decide +kernel, by decide +kernel, by decide +kernel⟩⟩
theorem im_B_begin : Jvm.Cond.instanceMethod m_B_begin.1 ∈ lw_tbl := List.mem_of_getElem? (i := 568) (by decide +kernel)
theorem se_B_begin : Jvm.Cond.selects "HalftoneRegions$PatternSet" m_B_begin.1 m_B_begin.1 ∈ lw_tbl := List.mem_of_getElem? (i := 569) (by decide +kernel)
theorem ii_B : Jvm.Cond.initialized "HalftoneRegions$PatternSet" ∈ lw_tbl := List.mem_of_getElem? (i := 56) (by decide +kernel)
theorem lk_H_96 : lkV "HalftoneRegions" 96 m_B_begin 3 := ⟨List.mem_of_getElem? (i := 567) (by decide +kernel), im_B_begin, se_B_begin, ii_B, ⟨by decide +kernel, by decide +kernel, by decide +kernel⟩⟩
theorem im_L_forgetGreys : Jvm.Cond.instanceMethod m_L_forgetGreys.1 ∈ lw_tbl := List.mem_of_getElem? (i := 579) (by decide +kernel)
theorem se_L_forgetGreys : Jvm.Cond.selects "HalftoneRegions$Lattice" m_L_forgetGreys.1 m_L_forgetGreys.1 ∈ lw_tbl := List.mem_of_getElem? (i := 580) (by decide +kernel)
theorem ii_L : Jvm.Cond.initialized "HalftoneRegions$Lattice" ∈ lw_tbl := List.mem_of_getElem? (i := 57) (by decide +kernel)
theorem lk_H_100 : lkV "HalftoneRegions" 100 m_L_forgetGreys 0 := ⟨List.mem_of_getElem? (i := 666) (by decide +kernel), im_L_forgetGreys, se_L_forgetGreys, ii_L, ⟨by decide +kernel, by decide +kernel, by decide +kernel⟩⟩
theorem im_B_planes : Jvm.Cond.instanceMethod m_B_planes.1 ∈ lw_tbl := List.mem_of_getElem? (i := 437) (by decide +kernel)
theorem se_B_planes : Jvm.Cond.selects "HalftoneRegions$PatternSet" m_B_planes.1 m_B_planes.1 ∈ lw_tbl := List.mem_of_getElem? (i := 438) (by decide +kernel)
theorem lk_H_103 : lkV "HalftoneRegions" 103 m_B_planes 0 := ⟨List.mem_of_getElem? (i := 436) (by decide +kernel), im_B_planes, se_B_planes, ii_B, ⟨by decide +kernel, by decide +kernel, by decide +kernel⟩⟩
theorem im_B_beginOrdered : Jvm.Cond.instanceMethod m_B_beginOrdered.1 ∈ lw_tbl := List.mem_of_getElem? (i := 676) (by decide +kernel)
theorem se_B_beginOrdered : Jvm.Cond.selects "HalftoneRegions$PatternSet" m_B_beginOrdered.1 m_B_beginOrdered.1 ∈ lw_tbl := List.mem_of_getElem? (i := 677) (by decide +kernel)
theorem lk_H_109 : lkV "HalftoneRegions" 109 m_B_beginOrdered 1 := ⟨List.mem_of_getElem? (i := 675) (by decide +kernel), im_B_beginOrdered, se_B_beginOrdered, ii_B, ⟨by decide +kernel, by decide +kernel, by decide +kernel⟩⟩
theorem im_B_has : Jvm.Cond.instanceMethod m_B_has.1 ∈ lw_tbl := List.mem_of_getElem? (i := 700) (by decide +kernel)
theorem se_B_has : Jvm.Cond.selects "HalftoneRegions$PatternSet" m_B_has.1 m_B_has.1 ∈ lw_tbl := List.mem_of_getElem? (i := 701) (by decide +kernel)
theorem lk_H_116 : lkV "HalftoneRegions" 116 m_B_has 3 := ⟨List.mem_of_getElem? (i := 699) (by decide +kernel), im_B_has, se_B_has, ii_B, ⟨by decide +kernel, by decide +kernel, by decide +kernel⟩⟩
theorem im_B_isDark : Jvm.Cond.instanceMethod m_B_isDark.1 ∈ lw_tbl := List.mem_of_getElem? (i := 724) (by decide +kernel)
theorem se_B_isDark : Jvm.Cond.selects "HalftoneRegions$PatternSet" m_B_isDark.1 m_B_isDark.1 ∈ lw_tbl := List.mem_of_getElem? (i := 725) (by decide +kernel)
theorem lk_H_124 : lkV "HalftoneRegions" 124 m_B_isDark 3 := ⟨List.mem_of_getElem? (i := 723) (by decide +kernel), im_B_isDark, se_B_isDark, ii_B, ⟨by decide +kernel, by decide +kernel, by decide +kernel⟩⟩
theorem im_B_turn : Jvm.Cond.instanceMethod m_B_turn.1 ∈ lw_tbl := List.mem_of_getElem? (i := 688) (by decide +kernel)
theorem se_B_turn : Jvm.Cond.selects "HalftoneRegions$PatternSet" m_B_turn.1 m_B_turn.1 ∈ lw_tbl := List.mem_of_getElem? (i := 689) (by decide +kernel)
theorem lk_H_127 : lkV "HalftoneRegions" 127 m_B_turn 3 := ⟨List.mem_of_getElem? (i := 728) (by decide +kernel), im_B_turn, se_B_turn, ii_B, ⟨by decide +kernel, by decide +kernel, by decide +kernel⟩⟩
theorem im_L_begin : Jvm.Cond.instanceMethod m_L_begin.1 ∈ lw_tbl := List.mem_of_getElem? (i := 575) (by decide +kernel)
theorem se_L_begin : Jvm.Cond.selects "HalftoneRegions$Lattice" m_L_begin.1 m_L_begin.1 ∈ lw_tbl := List.mem_of_getElem? (i := 576) (by decide +kernel)
theorem lk_H_140 : lkV "HalftoneRegions" 140 m_L_begin 2 := ⟨List.mem_of_getElem? (i := 574) (by decide +kernel), im_L_begin, se_L_begin, ii_L, ⟨by decide +kernel, by decide +kernel, by decide +kernel⟩⟩
theorem im_L_turnTo : Jvm.Cond.instanceMethod m_L_turnTo.1 ∈ lw_tbl := List.mem_of_getElem? (i := 584) (by decide +kernel)
theorem se_L_turnTo : Jvm.Cond.selects "HalftoneRegions$Lattice" m_L_turnTo.1 m_L_turnTo.1 ∈ lw_tbl := List.mem_of_getElem? (i := 585) (by decide +kernel)
theorem lk_H_142 : lkV "HalftoneRegions" 142 m_L_turnTo 4 := ⟨List.mem_of_getElem? (i := 583) (by decide +kernel), im_L_turnTo, se_L_turnTo, ii_L, ⟨by decide +kernel, by decide +kernel, by decide +kernel⟩⟩
theorem im_H_placesOutside : Jvm.Cond.instanceMethod m_H_placesOutside.1 ∈ lw_tbl := List.mem_of_getElem? (i := 496) (by decide +kernel)
theorem se_H_placesOutside : Jvm.Cond.selects "HalftoneRegions" m_H_placesOutside.1 m_H_placesOutside.1 ∈ lw_tbl := List.mem_of_getElem? (i := 9) (by decide +kernel)
theorem lk_H_146 : lkV "HalftoneRegions" 146 m_H_placesOutside 0 := ⟨List.mem_of_getElem? (i := 494) (by decide +kernel), im_H_placesOutside, se_H_placesOutside, ii_H, ⟨by decide +kernel, by decide +kernel, by decide +kernel⟩⟩
theorem im_L_has : Jvm.Cond.instanceMethod m_L_has.1 ∈ lw_tbl := List.mem_of_getElem? (i := 757) (by decide +kernel)
theorem se_L_has : Jvm.Cond.selects "HalftoneRegions$Lattice" m_L_has.1 m_L_has.1 ∈ lw_tbl := List.mem_of_getElem? (i := 758) (by decide +kernel)
theorem lk_H_149 : lkV "HalftoneRegions" 149 m_L_has 2 := ⟨List.mem_of_getElem? (i := 756) (by decide +kernel), im_L_has, se_L_has, ii_L, ⟨by decide +kernel, by decide +kernel, by decide +kernel⟩⟩
theorem im_L_leftOf : Jvm.Cond.instanceMethod m_L_leftOf.1 ∈ lw_tbl := List.mem_of_getElem? (i := 350) (by decide +kernel)
theorem se_L_leftOf : Jvm.Cond.selects "HalftoneRegions$Lattice" m_L_leftOf.1 m_L_leftOf.1 ∈ lw_tbl := List.mem_of_getElem? (i := 351) (by decide +kernel)
theorem lk_H_156 : lkV "HalftoneRegions" 156 m_L_leftOf 2 := ⟨List.mem_of_getElem? (i := 349) (by decide +kernel), im_L_leftOf, se_L_leftOf, ii_L, ⟨by decide +kernel, by decide +kernel, by decide +kernel⟩⟩
theorem im_L_topOf : Jvm.Cond.instanceMethod m_L_topOf.1 ∈ lw_tbl := List.mem_of_getElem? (i := 354) (by decide +kernel)
theorem se_L_topOf : Jvm.Cond.selects "HalftoneRegions$Lattice" m_L_topOf.1 m_L_topOf.1 ∈ lw_tbl := List.mem_of_getElem? (i := 355) (by decide +kernel)
theorem lk_H_159 : lkV "HalftoneRegions" 159 m_L_topOf 2 := ⟨List.mem_of_getElem? (i := 353) (by decide +kernel), im_L_topOf, se_L_topOf, ii_L, ⟨by decide +kernel, by decide +kernel, by decide +kernel⟩⟩
theorem im_H_isOutside : Jvm.Cond.instanceMethod m_H_isOutside.1 ∈ lw_tbl := List.mem_of_getElem? (i := 347) (by decide +kernel)
theorem se_H_isOutside : Jvm.Cond.selects "HalftoneRegions" m_H_isOutside.1 m_H_isOutside.1 ∈ lw_tbl := List.mem_of_getElem? (i := 2) (by decide +kernel)
theorem lk_H_162 : lkV "HalftoneRegions" 162 m_H_isOutside 2 := ⟨List.mem_of_getElem? (i := 345) (by decide +kernel), im_H_isOutside, se_H_isOutside, ii_H, ⟨by decide +kernel, by decide +kernel, by decide +kernel⟩⟩
theorem im_B_hasPattern : Jvm.Cond.instanceMethod m_B_hasPattern.1 ∈ lw_tbl := List.mem_of_getElem? (i := 704) (by decide +kernel)
theorem se_B_hasPattern : Jvm.Cond.selects "HalftoneRegions$PatternSet" m_B_hasPattern.1 m_B_hasPattern.1 ∈ lw_tbl := List.mem_of_getElem? (i := 705) (by decide +kernel)
theorem lk_H_165 : lkV "HalftoneRegions" 165 m_B_hasPattern 1 := ⟨List.mem_of_getElem? (i := 777) (by decide +kernel), im_B_hasPattern, se_B_hasPattern, ii_B, ⟨by decide +kernel, by decide +kernel, by decide +kernel⟩⟩
theorem im_L_changeGrey : Jvm.Cond.instanceMethod m_L_changeGrey.1 ∈ lw_tbl := List.mem_of_getElem? (i := 367) (by decide +kernel)
theorem se_L_changeGrey : Jvm.Cond.selects "HalftoneRegions$Lattice" m_L_changeGrey.1 m_L_changeGrey.1 ∈ lw_tbl := List.mem_of_getElem? (i := 368) (by decide +kernel)
theorem lk_H_171 : lkV "HalftoneRegions" 171 m_L_changeGrey 3 := ⟨List.mem_of_getElem? (i := 366) (by decide +kernel), im_L_changeGrey, se_L_changeGrey, ii_L, ⟨by decide +kernel, by decide +kernel, by decide +kernel⟩⟩
theorem im_L_greyOf : Jvm.Cond.instanceMethod m_L_greyOf.1 ∈ lw_tbl := List.mem_of_getElem? (i := 387) (by decide +kernel)
theorem se_L_greyOf : Jvm.Cond.selects "HalftoneRegions$Lattice" m_L_greyOf.1 m_L_greyOf.1 ∈ lw_tbl := List.mem_of_getElem? (i := 388) (by decide +kernel)
theorem lk_H_174 : lkV "HalftoneRegions" 174 m_L_greyOf 2 := ⟨List.mem_of_getElem? (i := 386) (by decide +kernel), im_L_greyOf, se_L_greyOf, ii_L, ⟨by decide +kernel, by decide +kernel, by decide +kernel⟩⟩
theorem im_H_changeWay : Jvm.Cond.instanceMethod m_H_changeWay.1 ∈ lw_tbl := List.mem_of_getElem? (i := 797) (by decide +kernel)
theorem se_H_changeWay : Jvm.Cond.selects "HalftoneRegions" m_H_changeWay.1 m_H_changeWay.1 ∈ lw_tbl := List.mem_of_getElem? (i := 18) (by decide +kernel)
theorem lk_H_181 : lkV "HalftoneRegions" 181 m_H_changeWay 2 := ⟨List.mem_of_getElem? (i := 795) (by decide +kernel), im_H_changeWay, se_H_changeWay, ii_H, ⟨by decide +kernel, by decide +kernel, by decide +kernel⟩⟩
theorem im_S_changeLine : Jvm.Cond.instanceMethod m_S_changeLine.1 ∈ lw_tbl := List.mem_of_getElem? (i := 314) (by decide +kernel)
theorem se_S_changeLine : Jvm.Cond.selects "HalftoneRegions$Sheet" m_S_changeLine.1 m_S_changeLine.1 ∈ lw_tbl := List.mem_of_getElem? (i := 315) (by decide +kernel)
theorem ii_S : Jvm.Cond.initialized "HalftoneRegions$Sheet" ∈ lw_tbl := List.mem_of_getElem? (i := 55) (by decide +kernel)
theorem lk_H_186 : lkV "HalftoneRegions" 186 m_S_changeLine 2 := ⟨List.mem_of_getElem? (i := 313) (by decide +kernel), im_S_changeLine, se_S_changeLine, ii_S, ⟨by decide +kernel, by decide +kernel, by decide +kernel⟩⟩
theorem im_S_line : Jvm.Cond.instanceMethod m_S_line.1 ∈ lw_tbl := List.mem_of_getElem? (i := 307) (by decide +kernel)
theorem se_S_line : Jvm.Cond.selects "HalftoneRegions$Sheet" m_S_line.1 m_S_line.1 ∈ lw_tbl := List.mem_of_getElem? (i := 308) (by decide +kernel)
theorem lk_H_189 : lkV "HalftoneRegions" 189 m_S_line 1 := ⟨List.mem_of_getElem? (i := 306) (by decide +kernel), im_S_line, se_S_line, ii_S, ⟨by decide +kernel, by decide +kernel, by decide +kernel⟩⟩
theorem im_H_darkUnder : Jvm.Cond.instanceMethod m_H_darkUnder.1 ∈ lw_tbl := List.mem_of_getElem? (i := 343) (by decide +kernel)
theorem se_H_darkUnder : Jvm.Cond.selects "HalftoneRegions" m_H_darkUnder.1 m_H_darkUnder.1 ∈ lw_tbl := List.mem_of_getElem? (i := 1) (by decide +kernel)
theorem lk_H_193 : lkV "HalftoneRegions" 193 m_H_darkUnder 2 := ⟨List.mem_of_getElem? (i := 341) (by decide +kernel), im_H_darkUnder, se_H_darkUnder, ii_H, ⟨by decide +kernel, by decide +kernel, by decide +kernel⟩⟩
theorem im_B_nearestTo : Jvm.Cond.instanceMethod m_B_nearestTo.1 ∈ lw_tbl := List.mem_of_getElem? (i := 328) (by decide +kernel)
theorem se_B_nearestTo : Jvm.Cond.selects "HalftoneRegions$PatternSet" m_B_nearestTo.1 m_B_nearestTo.1 ∈ lw_tbl := List.mem_of_getElem? (i := 329) (by decide +kernel)
theorem lk_H_196 : lkV "HalftoneRegions" 196 m_B_nearestTo 1 := ⟨List.mem_of_getElem? (i := 327) (by decide +kernel), im_B_nearestTo, se_B_nearestTo, ii_B, ⟨by decide +kernel, by decide +kernel, by decide +kernel⟩⟩
theorem im_S_fill : Jvm.Cond.instanceMethod m_S_fill.1 ∈ lw_tbl := List.mem_of_getElem? (i := 378) (by decide +kernel)
theorem se_S_fill : Jvm.Cond.selects "HalftoneRegions$Sheet" m_S_fill.1 m_S_fill.1 ∈ lw_tbl := List.mem_of_getElem? (i := 379) (by decide +kernel)
theorem lk_H_208 : lkV "HalftoneRegions" 208 m_S_fill 1 := ⟨List.mem_of_getElem? (i := 377) (by decide +kernel), im_S_fill, se_S_fill, ii_S, ⟨by decide +kernel, by decide +kernel, by decide +kernel⟩⟩
theorem im_H_layPattern : Jvm.Cond.instanceMethod m_H_layPattern.1 ∈ lw_tbl := List.mem_of_getElem? (i := 384) (by decide +kernel)
theorem se_H_layPattern : Jvm.Cond.selects "HalftoneRegions" m_H_layPattern.1 m_H_layPattern.1 ∈ lw_tbl := List.mem_of_getElem? (i := 4) (by decide +kernel)
theorem lk_H_212 : lkV "HalftoneRegions" 212 m_H_layPattern 2 := ⟨List.mem_of_getElem? (i := 382) (by decide +kernel), im_H_layPattern, se_H_layPattern, ii_H, ⟨by decide +kernel, by decide +kernel, by decide +kernel⟩⟩
theorem im_S_darkSamples : Jvm.Cond.instanceMethod m_S_darkSamples.1 ∈ lw_tbl := List.mem_of_getElem? (i := 400) (by decide +kernel)
theorem se_S_darkSamples : Jvm.Cond.selects "HalftoneRegions$Sheet" m_S_darkSamples.1 m_S_darkSamples.1 ∈ lw_tbl := List.mem_of_getElem? (i := 401) (by decide +kernel)
theorem lk_H_215 : lkV "HalftoneRegions" 215 m_S_darkSamples 0 := ⟨List.mem_of_getElem? (i := 399) (by decide +kernel), im_S_darkSamples, se_S_darkSamples, ii_S, ⟨by decide +kernel, by decide +kernel, by decide +kernel⟩⟩
theorem im_C_begin : Jvm.Cond.instanceMethod m_C_begin.1 ∈ lw_tbl := List.mem_of_getElem? (i := 408) (by decide +kernel)
theorem se_C_begin : Jvm.Cond.selects "HalftoneRegions$Codes" m_C_begin.1 m_C_begin.1 ∈ lw_tbl := List.mem_of_getElem? (i := 409) (by decide +kernel)
theorem ii_C : Jvm.Cond.initialized "HalftoneRegions$Codes" ∈ lw_tbl := List.mem_of_getElem? (i := 58) (by decide +kernel)
theorem lk_H_220 : lkV "HalftoneRegions" 220 m_C_begin 0 := ⟨List.mem_of_getElem? (i := 407) (by decide +kernel), im_C_begin, se_C_begin, ii_C, ⟨by decide +kernel, by decide +kernel, by decide +kernel⟩⟩
theorem im_H_isSkipped : Jvm.Cond.instanceMethod m_H_isSkipped.1 ∈ lw_tbl := List.mem_of_getElem? (i := 414) (by decide +kernel)
theorem se_H_isSkipped : Jvm.Cond.selects "HalftoneRegions" m_H_isSkipped.1 m_H_isSkipped.1 ∈ lw_tbl := List.mem_of_getElem? (i := 6) (by decide +kernel)
theorem lk_H_222 : lkV "HalftoneRegions" 222 m_H_isSkipped 2 := ⟨List.mem_of_getElem? (i := 412) (by decide +kernel), im_H_isSkipped, se_H_isSkipped, ii_H, ⟨by decide +kernel, by decide +kernel, by decide +kernel⟩⟩
theorem im_C_setGrey : Jvm.Cond.instanceMethod m_C_setGrey.1 ∈ lw_tbl := List.mem_of_getElem? (i := 417) (by decide +kernel)
theorem se_C_setGrey : Jvm.Cond.selects "HalftoneRegions$Codes" m_C_setGrey.1 m_C_setGrey.1 ∈ lw_tbl := List.mem_of_getElem? (i := 418) (by decide +kernel)
theorem lk_H_225 : lkV "HalftoneRegions" 225 m_C_setGrey 3 := ⟨List.mem_of_getElem? (i := 416) (by decide +kernel), im_C_setGrey, se_C_setGrey, ii_C, ⟨by decide +kernel, by decide +kernel, by decide +kernel⟩⟩
theorem im_W_begin : Jvm.Cond.instanceMethod m_W_begin.1 ∈ lw_tbl := List.mem_of_getElem? (i := 422) (by decide +kernel)
theorem se_W_begin : Jvm.Cond.selects "HalftoneRegions$RunWriter" m_W_begin.1 m_W_begin.1 ∈ lw_tbl := List.mem_of_getElem? (i := 423) (by decide +kernel)
theorem ii_W : Jvm.Cond.initialized "HalftoneRegions$RunWriter" ∈ lw_tbl := List.mem_of_getElem? (i := 61) (by decide +kernel)
theorem lk_H_228 : lkV "HalftoneRegions" 228 m_W_begin 0 := ⟨List.mem_of_getElem? (i := 421) (by decide +kernel), im_W_begin, se_W_begin, ii_W, ⟨by decide +kernel, by decide +kernel, by decide +kernel⟩⟩
theorem im_F_beginPlane : Jvm.Cond.instanceMethod m_F_beginPlane.1 ∈ lw_tbl := List.mem_of_getElem? (i := 433) (by decide +kernel)
theorem se_F_beginPlane : Jvm.Cond.selects "HalftoneRegions$Forecast" m_F_beginPlane.1 m_F_beginPlane.1 ∈ lw_tbl := List.mem_of_getElem? (i := 434) (by decide +kernel)
theorem ii_F : Jvm.Cond.initialized "HalftoneRegions$Forecast" ∈ lw_tbl := List.mem_of_getElem? (i := 59) (by decide +kernel)
theorem lk_H_229 : lkV "HalftoneRegions" 229 m_F_beginPlane 0 := ⟨List.mem_of_getElem? (i := 432) (by decide +kernel), im_F_beginPlane, se_F_beginPlane, ii_F, ⟨by decide +kernel, by decide +kernel, by decide +kernel⟩⟩
theorem im_H_writePlane : Jvm.Cond.instanceMethod m_H_writePlane.1 ∈ lw_tbl := List.mem_of_getElem? (i := 442) (by decide +kernel)
theorem se_H_writePlane : Jvm.Cond.selects "HalftoneRegions" m_H_writePlane.1 m_H_writePlane.1 ∈ lw_tbl := List.mem_of_getElem? (i := 7) (by decide +kernel)
theorem lk_H_232 : lkV "HalftoneRegions" 232 m_H_writePlane 1 := ⟨List.mem_of_getElem? (i := 440) (by decide +kernel), im_H_writePlane, se_H_writePlane, ii_H, ⟨by decide +kernel, by decide +kernel, by decide +kernel⟩⟩
theorem im_W_endRun : Jvm.Cond.instanceMethod m_W_endRun.1 ∈ lw_tbl := List.mem_of_getElem? (i := 463) (by decide +kernel)
theorem se_W_endRun : Jvm.Cond.selects "HalftoneRegions$RunWriter" m_W_endRun.1 m_W_endRun.1 ∈ lw_tbl := List.mem_of_getElem? (i := 464) (by decide +kernel)
theorem lk_H_235 : lkV "HalftoneRegions" 235 m_W_endRun 0 := ⟨List.mem_of_getElem? (i := 485) (by decide +kernel), im_W_endRun, se_W_endRun, ii_W, ⟨by decide +kernel, by decide +kernel, by decide +kernel⟩⟩
theorem im_W_size : Jvm.Cond.instanceMethod m_W_size.1 ∈ lw_tbl := List.mem_of_getElem? (i := 487) (by decide +kernel)
theorem se_W_size : Jvm.Cond.selects "HalftoneRegions$RunWriter" m_W_size.1 m_W_size.1 ∈ lw_tbl := List.mem_of_getElem? (i := 488) (by decide +kernel)
theorem lk_H_242 : lkV "HalftoneRegions" 242 m_W_size 0 := ⟨List.mem_of_getElem? (i := 486) (by decide +kernel), im_W_size, se_W_size, ii_W, ⟨by decide +kernel, by decide +kernel, by decide +kernel⟩⟩
theorem im_W_made : Jvm.Cond.instanceMethod m_W_made.1 ∈ lw_tbl := List.mem_of_getElem? (i := 831) (by decide +kernel)
theorem se_W_made : Jvm.Cond.selects "HalftoneRegions$RunWriter" m_W_made.1 m_W_made.1 ∈ lw_tbl := List.mem_of_getElem? (i := 832) (by decide +kernel)
theorem lk_H_247 : lkV "HalftoneRegions" 247 m_W_made 1 := ⟨List.mem_of_getElem? (i := 830) (by decide +kernel), im_W_made, se_W_made, ii_W, ⟨by decide +kernel, by decide +kernel, by decide +kernel⟩⟩
theorem im_R_hasRoomFor : Jvm.Cond.instanceMethod m_R_hasRoomFor.1 ∈ lw_tbl := List.mem_of_getElem? (i := 844) (by decide +kernel)
theorem se_R_hasRoomFor : Jvm.Cond.selects "HalftoneRegions$RunReader" m_R_hasRoomFor.1 m_R_hasRoomFor.1 ∈ lw_tbl := List.mem_of_getElem? (i := 845) (by decide +kernel)
theorem ii_R : Jvm.Cond.initialized "HalftoneRegions$RunReader" ∈ lw_tbl := List.mem_of_getElem? (i := 63) (by decide +kernel)
theorem lk_H_252 : lkV "HalftoneRegions" 252 m_R_hasRoomFor 1 := ⟨List.mem_of_getElem? (i := 843) (by decide +kernel), im_R_hasRoomFor, se_R_hasRoomFor, ii_R, ⟨by decide +kernel, by decide +kernel, by decide +kernel⟩⟩
theorem im_R_take : Jvm.Cond.instanceMethod m_R_take.1 ∈ lw_tbl := List.mem_of_getElem? (i := 864) (by decide +kernel)
theorem se_R_take : Jvm.Cond.selects "HalftoneRegions$RunReader" m_R_take.1 m_R_take.1 ∈ lw_tbl := List.mem_of_getElem? (i := 865) (by decide +kernel)
theorem lk_H_260 : lkV "HalftoneRegions" 260 m_R_take 1 := ⟨List.mem_of_getElem? (i := 863) (by decide +kernel), im_R_take, se_R_take, ii_R, ⟨by decide +kernel, by decide +kernel, by decide +kernel⟩⟩
theorem im_R_begin : Jvm.Cond.instanceMethod m_R_begin.1 ∈ lw_tbl := List.mem_of_getElem? (i := 499) (by decide +kernel)
theorem se_R_begin : Jvm.Cond.selects "HalftoneRegions$RunReader" m_R_begin.1 m_R_begin.1 ∈ lw_tbl := List.mem_of_getElem? (i := 500) (by decide +kernel)
theorem lk_H_271 : lkV "HalftoneRegions" 271 m_R_begin 1 := ⟨List.mem_of_getElem? (i := 498) (by decide +kernel), im_R_begin, se_R_begin, ii_R, ⟨by decide +kernel, by decide +kernel, by decide +kernel⟩⟩
theorem im_H_readPlane : Jvm.Cond.instanceMethod m_H_readPlane.1 ∈ lw_tbl := List.mem_of_getElem? (i := 505) (by decide +kernel)
theorem se_H_readPlane : Jvm.Cond.selects "HalftoneRegions" m_H_readPlane.1 m_H_readPlane.1 ∈ lw_tbl := List.mem_of_getElem? (i := 10) (by decide +kernel)
theorem lk_H_276 : lkV "HalftoneRegions" 276 m_H_readPlane 1 := ⟨List.mem_of_getElem? (i := 503) (by decide +kernel), im_H_readPlane, se_H_readPlane, ii_H, ⟨by decide +kernel, by decide +kernel, by decide +kernel⟩⟩
theorem im_R_end : Jvm.Cond.instanceMethod m_R_end.1 ∈ lw_tbl := List.mem_of_getElem? (i := 532) (by decide +kernel)
theorem se_R_end : Jvm.Cond.selects "HalftoneRegions$RunReader" m_R_end.1 m_R_end.1 ∈ lw_tbl := List.mem_of_getElem? (i := 533) (by decide +kernel)
theorem lk_H_279 : lkV "HalftoneRegions" 279 m_R_end 0 := ⟨List.mem_of_getElem? (i := 531) (by decide +kernel), im_R_end, se_R_end, ii_R, ⟨by decide +kernel, by decide +kernel, by decide +kernel⟩⟩
theorem im_C_greatestGrey : Jvm.Cond.instanceMethod m_C_greatestGrey.1 ∈ lw_tbl := List.mem_of_getElem? (i := 540) (by decide +kernel)
theorem se_C_greatestGrey : Jvm.Cond.selects "HalftoneRegions$Codes" m_C_greatestGrey.1 m_C_greatestGrey.1 ∈ lw_tbl := List.mem_of_getElem? (i := 541) (by decide +kernel)
theorem lk_H_283 : lkV "HalftoneRegions" 283 m_C_greatestGrey 0 := ⟨List.mem_of_getElem? (i := 539) (by decide +kernel), im_C_greatestGrey, se_C_greatestGrey, ii_C, ⟨by decide +kernel, by decide +kernel, by decide +kernel⟩⟩
theorem im_R_forgetBytes : Jvm.Cond.instanceMethod m_R_forgetBytes.1 ∈ lw_tbl := List.mem_of_getElem? (i := 548) (by decide +kernel)
theorem se_R_forgetBytes : Jvm.Cond.selects "HalftoneRegions$RunReader" m_R_forgetBytes.1 m_R_forgetBytes.1 ∈ lw_tbl := List.mem_of_getElem? (i := 549) (by decide +kernel)
theorem lk_H_286 : lkV "HalftoneRegions" 286 m_R_forgetBytes 0 := ⟨List.mem_of_getElem? (i := 547) (by decide +kernel), im_R_forgetBytes, se_R_forgetBytes, ii_R, ⟨by decide +kernel, by decide +kernel, by decide +kernel⟩⟩
theorem im_H_takeGreys : Jvm.Cond.instanceMethod m_H_takeGreys.1 ∈ lw_tbl := List.mem_of_getElem? (i := 553) (by decide +kernel)
theorem se_H_takeGreys : Jvm.Cond.selects "HalftoneRegions" m_H_takeGreys.1 m_H_takeGreys.1 ∈ lw_tbl := List.mem_of_getElem? (i := 15) (by decide +kernel)
theorem lk_H_289 : lkV "HalftoneRegions" 289 m_H_takeGreys 0 := ⟨List.mem_of_getElem? (i := 551) (by decide +kernel), im_H_takeGreys, se_H_takeGreys, ii_H, ⟨by decide +kernel, by decide +kernel, by decide +kernel⟩⟩
theorem im_H_columnsUnder : Jvm.Cond.instanceMethod m_H_columnsUnder.1 ∈ lw_tbl := List.mem_of_getElem? (i := 359) (by decide +kernel)
theorem se_H_columnsUnder : Jvm.Cond.selects "HalftoneRegions" m_H_columnsUnder.1 m_H_columnsUnder.1 ∈ lw_tbl := List.mem_of_getElem? (i := 3) (by decide +kernel)
theorem lk_H_307 : lkV "HalftoneRegions" 307 m_H_columnsUnder 1 := ⟨List.mem_of_getElem? (i := 357) (by decide +kernel), im_H_columnsUnder, se_H_columnsUnder, ii_H, ⟨by decide +kernel, by decide +kernel, by decide +kernel⟩⟩
theorem sc_JI_bitCount : Jvm.Cond.static m_JI_bitCount.1 ∈ lw_tbl := List.mem_of_getElem? (i := 318) (by decide +kernel)
theorem ii_JI : Jvm.Cond.initialized "java/lang/Integer" ∈ lw_tbl := List.mem_of_getElem? (i := 70) (by decide +kernel)
theorem lk_H_310 : lkS "HalftoneRegions" 310 m_JI_bitCount 1 := ⟨List.mem_of_getElem? (i := 364) (by decide +kernel), sc_JI_bitCount, ii_JI, ⟨by decide +kernel, by decide +kernel, by decide +kernel⟩⟩
theorem sc_H_moved : Jvm.Cond.static m_H_moved.1 ∈ lw_tbl := List.mem_of_getElem? (i := 362) (by decide +kernel)
theorem lk_H_315 : lkS "HalftoneRegions" 315 m_H_moved 2 := ⟨List.mem_of_getElem? (i := 361) (by decide +kernel), sc_H_moved, ii_H, ⟨by decide +kernel, by decide +kernel, by decide +kernel⟩⟩
theorem im_B_line : Jvm.Cond.instanceMethod m_B_line.1 ∈ lw_tbl := List.mem_of_getElem? (i := 391) (by decide +kernel)
theorem se_B_line : Jvm.Cond.selects "HalftoneRegions$PatternSet" m_B_line.1 m_B_line.1 ∈ lw_tbl := List.mem_of_getElem? (i := 392) (by decide +kernel)
theorem lk_H_321 : lkV "HalftoneRegions" 321 m_B_line 2 := ⟨List.mem_of_getElem? (i := 390) (by decide +kernel), im_B_line, se_B_line, ii_B, ⟨by decide +kernel, by decide +kernel, by decide +kernel⟩⟩
theorem im_H_combined : Jvm.Cond.instanceMethod m_H_combined.1 ∈ lw_tbl := List.mem_of_getElem? (i := 397) (by decide +kernel)
theorem se_H_combined : Jvm.Cond.selects "HalftoneRegions" m_H_combined.1 m_H_combined.1 ∈ lw_tbl := List.mem_of_getElem? (i := 5) (by decide +kernel)
theorem lk_H_323 : lkV "HalftoneRegions" 323 m_H_combined 3 := ⟨List.mem_of_getElem? (i := 395) (by decide +kernel), im_H_combined, se_H_combined, ii_H, ⟨by decide +kernel, by decide +kernel, by decide +kernel⟩⟩
theorem im_C_contextOf : Jvm.Cond.instanceMethod m_C_contextOf.1 ∈ lw_tbl := List.mem_of_getElem? (i := 445) (by decide +kernel)
theorem se_C_contextOf : Jvm.Cond.selects "HalftoneRegions$Codes" m_C_contextOf.1 m_C_contextOf.1 ∈ lw_tbl := List.mem_of_getElem? (i := 446) (by decide +kernel)
theorem lk_H_327 : lkV "HalftoneRegions" 327 m_C_contextOf 3 := ⟨List.mem_of_getElem? (i := 444) (by decide +kernel), im_C_contextOf, se_C_contextOf, ii_C, ⟨by decide +kernel, by decide +kernel, by decide +kernel⟩⟩
theorem im_C_bitOf : Jvm.Cond.instanceMethod m_C_bitOf.1 ∈ lw_tbl := List.mem_of_getElem? (i := 449) (by decide +kernel)
theorem se_C_bitOf : Jvm.Cond.selects "HalftoneRegions$Codes" m_C_bitOf.1 m_C_bitOf.1 ∈ lw_tbl := List.mem_of_getElem? (i := 450) (by decide +kernel)
theorem lk_H_330 : lkV "HalftoneRegions" 330 m_C_bitOf 3 := ⟨List.mem_of_getElem? (i := 452) (by decide +kernel), im_C_bitOf, se_C_bitOf, ii_C, ⟨by decide +kernel, by decide +kernel, by decide +kernel⟩⟩
theorem im_F_foretold : Jvm.Cond.instanceMethod m_F_foretold.1 ∈ lw_tbl := List.mem_of_getElem? (i := 454) (by decide +kernel)
theorem se_F_foretold : Jvm.Cond.selects "HalftoneRegions$Forecast" m_F_foretold.1 m_F_foretold.1 ∈ lw_tbl := List.mem_of_getElem? (i := 455) (by decide +kernel)
theorem lk_H_333 : lkV "HalftoneRegions" 333 m_F_foretold 1 := ⟨List.mem_of_getElem? (i := 453) (by decide +kernel), im_F_foretold, se_F_foretold, ii_F, ⟨by decide +kernel, by decide +kernel, by decide +kernel⟩⟩
theorem im_W_tell : Jvm.Cond.instanceMethod m_W_tell.1 ∈ lw_tbl := List.mem_of_getElem? (i := 459) (by decide +kernel)
theorem se_W_tell : Jvm.Cond.selects "HalftoneRegions$RunWriter" m_W_tell.1 m_W_tell.1 ∈ lw_tbl := List.mem_of_getElem? (i := 460) (by decide +kernel)
theorem lk_H_336 : lkV "HalftoneRegions" 336 m_W_tell 1 := ⟨List.mem_of_getElem? (i := 458) (by decide +kernel), im_W_tell, se_W_tell, ii_W, ⟨by decide +kernel, by decide +kernel, by decide +kernel⟩⟩
theorem im_F_learn : Jvm.Cond.instanceMethod m_F_learn.1 ∈ lw_tbl := List.mem_of_getElem? (i := 480) (by decide +kernel)
theorem se_F_learn : Jvm.Cond.selects "HalftoneRegions$Forecast" m_F_learn.1 m_F_learn.1 ∈ lw_tbl := List.mem_of_getElem? (i := 481) (by decide +kernel)
theorem lk_H_339 : lkV "HalftoneRegions" 339 m_F_learn 2 := ⟨List.mem_of_getElem? (i := 479) (by decide +kernel), im_F_learn, se_F_learn, ii_F, ⟨by decide +kernel, by decide +kernel, by decide +kernel⟩⟩
theorem im_R_nextBit : Jvm.Cond.instanceMethod m_R_nextBit.1 ∈ lw_tbl := List.mem_of_getElem? (i := 508) (by decide +kernel)
theorem se_R_nextBit : Jvm.Cond.selects "HalftoneRegions$RunReader" m_R_nextBit.1 m_R_nextBit.1 ∈ lw_tbl := List.mem_of_getElem? (i := 509) (by decide +kernel)
theorem lk_H_342 : lkV "HalftoneRegions" 342 m_R_nextBit 1 := ⟨List.mem_of_getElem? (i := 507) (by decide +kernel), im_R_nextBit, se_R_nextBit, ii_R, ⟨by decide +kernel, by decide +kernel, by decide +kernel⟩⟩
theorem im_C_addBit : Jvm.Cond.instanceMethod m_C_addBit.1 ∈ lw_tbl := List.mem_of_getElem? (i := 528) (by decide +kernel)
theorem se_C_addBit : Jvm.Cond.selects "HalftoneRegions$Codes" m_C_addBit.1 m_C_addBit.1 ∈ lw_tbl := List.mem_of_getElem? (i := 529) (by decide +kernel)
theorem lk_H_345 : lkV "HalftoneRegions" 345 m_C_addBit 4 := ⟨List.mem_of_getElem? (i := 527) (by decide +kernel), im_C_addBit, se_C_addBit, ii_C, ⟨by decide +kernel, by decide +kernel, by decide +kernel⟩⟩
theorem im_C_greyOf : Jvm.Cond.instanceMethod m_C_greyOf.1 ∈ lw_tbl := List.mem_of_getElem? (i := 556) (by decide +kernel)
theorem se_C_greyOf : Jvm.Cond.selects "HalftoneRegions$Codes" m_C_greyOf.1 m_C_greyOf.1 ∈ lw_tbl := List.mem_of_getElem? (i := 557) (by decide +kernel)
theorem lk_H_348 : lkV "HalftoneRegions" 348 m_C_greyOf 2 := ⟨List.mem_of_getElem? (i := 555) (by decide +kernel), im_C_greyOf, se_C_greyOf, ii_C, ⟨by decide +kernel, by decide +kernel, by decide +kernel⟩⟩
theorem im_M_begin : Jvm.Cond.instanceMethod m_M_begin.1 ∈ lw_tbl := List.mem_of_getElem? (i := 893) (by decide +kernel)
theorem se_M_begin : Jvm.Cond.selects "HalftoneRegionsModel" m_M_begin.1 m_M_begin.1 ∈ lw_tbl := List.mem_of_getElem? (i := 19) (by decide +kernel)
theorem ii_M : Jvm.Cond.initialized "HalftoneRegionsModel" ∈ lw_tbl := List.mem_of_getElem? (i := 64) (by decide +kernel)
theorem lk_M_52 : lkV "HalftoneRegionsModel" 52 m_M_begin 0 := ⟨List.mem_of_getElem? (i := 891) (by decide +kernel), im_M_begin, se_M_begin, ii_M, ⟨by decide +kernel, by decide +kernel, by decide +kernel⟩⟩
theorem im_M_blank : Jvm.Cond.instanceMethod m_M_blank.1 ∈ lw_tbl := List.mem_of_getElem? (i := 897) (by decide +kernel)
theorem se_M_blank : Jvm.Cond.selects "HalftoneRegionsModel" m_M_blank.1 m_M_blank.1 ∈ lw_tbl := List.mem_of_getElem? (i := 20) (by decide +kernel)
theorem lk_M_58 : lkV "HalftoneRegionsModel" 58 m_M_blank 3 := ⟨List.mem_of_getElem? (i := 895) (by decide +kernel), im_M_blank, se_M_blank, ii_M, ⟨by decide +kernel, by decide +kernel, by decide +kernel⟩⟩
theorem im_M_newPlane : Jvm.Cond.instanceMethod m_M_newPlane.1 ∈ lw_tbl := List.mem_of_getElem? (i := 901) (by decide +kernel)
theorem se_M_newPlane : Jvm.Cond.selects "HalftoneRegionsModel" m_M_newPlane.1 m_M_newPlane.1 ∈ lw_tbl := List.mem_of_getElem? (i := 21) (by decide +kernel)
theorem lk_M_98 : lkV "HalftoneRegionsModel" 98 m_M_newPlane 0 := ⟨List.mem_of_getElem? (i := 899) (by decide +kernel), im_M_newPlane, se_M_newPlane, ii_M, ⟨by decide +kernel, by decide +kernel, by decide +kernel⟩⟩
theorem sc_M_in : Jvm.Cond.static m_M_in.1 ∈ lw_tbl := List.mem_of_getElem? (i := 1032) (by decide +kernel)
theorem lk_M_110 : lkS "HalftoneRegionsModel" 110 m_M_in 3 := ⟨List.mem_of_getElem? (i := 1031) (by decide +kernel), sc_M_in, ii_M, ⟨by decide +kernel, by decide +kernel, by decide +kernel⟩⟩
theorem im_M_planes : Jvm.Cond.instanceMethod m_M_planes.1 ∈ lw_tbl := List.mem_of_getElem? (i := 1036) (by decide +kernel)
theorem se_M_planes : Jvm.Cond.selects "HalftoneRegionsModel" m_M_planes.1 m_M_planes.1 ∈ lw_tbl := List.mem_of_getElem? (i := 22) (by decide +kernel)
theorem lk_M_114 : lkV "HalftoneRegionsModel" 114 m_M_planes 0 := ⟨List.mem_of_getElem? (i := 1034) (by decide +kernel), im_M_planes, se_M_planes, ii_M, ⟨by decide +kernel, by decide +kernel, by decide +kernel⟩⟩
theorem sc_M_keyOf : Jvm.Cond.static m_M_keyOf.1 ∈ lw_tbl := List.mem_of_getElem? (i := 1043) (by decide +kernel)
theorem lk_M_118 : lkS "HalftoneRegionsModel" 118 m_M_keyOf 2 := ⟨List.mem_of_getElem? (i := 1042) (by decide +kernel), sc_M_keyOf, ii_M, ⟨by decide +kernel, by decide +kernel, by decide +kernel⟩⟩
theorem im_M_hasCell : Jvm.Cond.instanceMethod m_M_hasCell.1 ∈ lw_tbl := List.mem_of_getElem? (i := 1051) (by decide +kernel)
theorem se_M_hasCell : Jvm.Cond.selects "HalftoneRegionsModel" m_M_hasCell.1 m_M_hasCell.1 ∈ lw_tbl := List.mem_of_getElem? (i := 23) (by decide +kernel)
theorem lk_M_122 : lkV "HalftoneRegionsModel" 122 m_M_hasCell 3 := ⟨List.mem_of_getElem? (i := 1049) (by decide +kernel), im_M_hasCell, se_M_hasCell, ii_M, ⟨by decide +kernel, by decide +kernel, by decide +kernel⟩⟩
theorem sc_M_by256 : Jvm.Cond.static m_M_by256.1 ∈ lw_tbl := List.mem_of_getElem? (i := 1076) (by decide +kernel)
theorem lk_M_125 : lkS "HalftoneRegionsModel" 125 m_M_by256 1 := ⟨List.mem_of_getElem? (i := 1075) (by decide +kernel), sc_M_by256, ii_M, ⟨by decide +kernel, by decide +kernel, by decide +kernel⟩⟩
theorem im_M_xOf : Jvm.Cond.instanceMethod m_M_xOf.1 ∈ lw_tbl := List.mem_of_getElem? (i := 1073) (by decide +kernel)
theorem se_M_xOf : Jvm.Cond.selects "HalftoneRegionsModel" m_M_xOf.1 m_M_xOf.1 ∈ lw_tbl := List.mem_of_getElem? (i := 26) (by decide +kernel)
theorem lk_M_129 : lkV "HalftoneRegionsModel" 129 m_M_xOf 2 := ⟨List.mem_of_getElem? (i := 1071) (by decide +kernel), im_M_xOf, se_M_xOf, ii_M, ⟨by decide +kernel, by decide +kernel, by decide +kernel⟩⟩
theorem im_M_yOf : Jvm.Cond.instanceMethod m_M_yOf.1 ∈ lw_tbl := List.mem_of_getElem? (i := 1080) (by decide +kernel)
theorem se_M_yOf : Jvm.Cond.selects "HalftoneRegionsModel" m_M_yOf.1 m_M_yOf.1 ∈ lw_tbl := List.mem_of_getElem? (i := 27) (by decide +kernel)
theorem lk_M_132 : lkV "HalftoneRegionsModel" 132 m_M_yOf 2 := ⟨List.mem_of_getElem? (i := 1078) (by decide +kernel), im_M_yOf, se_M_yOf, ii_M, ⟨by decide +kernel, by decide +kernel, by decide +kernel⟩⟩
theorem im_M_isOutside : Jvm.Cond.instanceMethod m_M_isOutside.1 ∈ lw_tbl := List.mem_of_getElem? (i := 1069) (by decide +kernel)
theorem se_M_isOutside : Jvm.Cond.selects "HalftoneRegionsModel" m_M_isOutside.1 m_M_isOutside.1 ∈ lw_tbl := List.mem_of_getElem? (i := 25) (by decide +kernel)
theorem lk_M_135 : lkV "HalftoneRegionsModel" 135 m_M_isOutside 2 := ⟨List.mem_of_getElem? (i := 1067) (by decide +kernel), im_M_isOutside, se_M_isOutside, ii_M, ⟨by decide +kernel, by decide +kernel, by decide +kernel⟩⟩
theorem im_M_hasPlace : Jvm.Cond.instanceMethod m_M_hasPlace.1 ∈ lw_tbl := List.mem_of_getElem? (i := 1065) (by decide +kernel)
theorem se_M_hasPlace : Jvm.Cond.selects "HalftoneRegionsModel" m_M_hasPlace.1 m_M_hasPlace.1 ∈ lw_tbl := List.mem_of_getElem? (i := 24) (by decide +kernel)
theorem lk_M_141 : lkV "HalftoneRegionsModel" 141 m_M_hasPlace 2 := ⟨List.mem_of_getElem? (i := 1063) (by decide +kernel), im_M_hasPlace, se_M_hasPlace, ii_M, ⟨by decide +kernel, by decide +kernel, by decide +kernel⟩⟩
theorem im_M_hasSample : Jvm.Cond.instanceMethod m_M_hasSample.1 ∈ lw_tbl := List.mem_of_getElem? (i := 1120) (by decide +kernel)
theorem se_M_hasSample : Jvm.Cond.selects "HalftoneRegionsModel" m_M_hasSample.1 m_M_hasSample.1 ∈ lw_tbl := List.mem_of_getElem? (i := 29) (by decide +kernel)
theorem lk_M_144 : lkV "HalftoneRegionsModel" 144 m_M_hasSample 2 := ⟨List.mem_of_getElem? (i := 1118) (by decide +kernel), im_M_hasSample, se_M_hasSample, ii_M, ⟨by decide +kernel, by decide +kernel, by decide +kernel⟩⟩
theorem im_M_countAt : Jvm.Cond.instanceMethod m_M_countAt.1 ∈ lw_tbl := List.mem_of_getElem? (i := 1116) (by decide +kernel)
theorem se_M_countAt : Jvm.Cond.selects "HalftoneRegionsModel" m_M_countAt.1 m_M_countAt.1 ∈ lw_tbl := List.mem_of_getElem? (i := 28) (by decide +kernel)
theorem lk_M_147 : lkV "HalftoneRegionsModel" 147 m_M_countAt 2 := ⟨List.mem_of_getElem? (i := 1114) (by decide +kernel), im_M_countAt, se_M_countAt, ii_M, ⟨by decide +kernel, by decide +kernel, by decide +kernel⟩⟩
theorem im_M_darkIn : Jvm.Cond.instanceMethod m_M_darkIn.1 ∈ lw_tbl := List.mem_of_getElem? (i := 1132) (by decide +kernel)
theorem se_M_darkIn : Jvm.Cond.selects "HalftoneRegionsModel" m_M_darkIn.1 m_M_darkIn.1 ∈ lw_tbl := List.mem_of_getElem? (i := 31) (by decide +kernel)
theorem lk_M_150 : lkV "HalftoneRegionsModel" 150 m_M_darkIn 1 := ⟨List.mem_of_getElem? (i := 1130) (by decide +kernel), im_M_darkIn, se_M_darkIn, ii_M, ⟨by decide +kernel, by decide +kernel, by decide +kernel⟩⟩
theorem im_M_nearest : Jvm.Cond.instanceMethod m_M_nearest.1 ∈ lw_tbl := List.mem_of_getElem? (i := 1128) (by decide +kernel)
theorem se_M_nearest : Jvm.Cond.selects "HalftoneRegionsModel" m_M_nearest.1 m_M_nearest.1 ∈ lw_tbl := List.mem_of_getElem? (i := 30) (by decide +kernel)
theorem lk_M_153 : lkV "HalftoneRegionsModel" 153 m_M_nearest 1 := ⟨List.mem_of_getElem? (i := 1126) (by decide +kernel), im_M_nearest, se_M_nearest, ii_M, ⟨by decide +kernel, by decide +kernel, by decide +kernel⟩⟩
theorem im_M_both : Jvm.Cond.instanceMethod m_M_both.1 ∈ lw_tbl := List.mem_of_getElem? (i := 1144) (by decide +kernel)
theorem se_M_both : Jvm.Cond.selects "HalftoneRegionsModel" m_M_both.1 m_M_both.1 ∈ lw_tbl := List.mem_of_getElem? (i := 33) (by decide +kernel)
theorem lk_M_156 : lkV "HalftoneRegionsModel" 156 m_M_both 2 := ⟨List.mem_of_getElem? (i := 1142) (by decide +kernel), im_M_both, se_M_both, ii_M, ⟨by decide +kernel, by decide +kernel, by decide +kernel⟩⟩
theorem im_M_layPattern : Jvm.Cond.instanceMethod m_M_layPattern.1 ∈ lw_tbl := List.mem_of_getElem? (i := 1140) (by decide +kernel)
theorem se_M_layPattern : Jvm.Cond.selects "HalftoneRegionsModel" m_M_layPattern.1 m_M_layPattern.1 ∈ lw_tbl := List.mem_of_getElem? (i := 32) (by decide +kernel)
theorem lk_M_160 : lkV "HalftoneRegionsModel" 160 m_M_layPattern 2 := ⟨List.mem_of_getElem? (i := 1138) (by decide +kernel), im_M_layPattern, se_M_layPattern, ii_M, ⟨by decide +kernel, by decide +kernel, by decide +kernel⟩⟩
theorem sc_M_dark : Jvm.Cond.static m_M_dark.1 ∈ lw_tbl := List.mem_of_getElem? (i := 1147) (by decide +kernel)
theorem lk_M_164 : lkS "HalftoneRegionsModel" 164 m_M_dark 1 := ⟨List.mem_of_getElem? (i := 1146) (by decide +kernel), sc_M_dark, ii_M, ⟨by decide +kernel, by decide +kernel, by decide +kernel⟩⟩
theorem im_M_toldAt : Jvm.Cond.instanceMethod m_M_toldAt.1 ∈ lw_tbl := List.mem_of_getElem? (i := 1175) (by decide +kernel)
theorem se_M_toldAt : Jvm.Cond.selects "HalftoneRegionsModel" m_M_toldAt.1 m_M_toldAt.1 ∈ lw_tbl := List.mem_of_getElem? (i := 38) (by decide +kernel)
theorem lk_M_168 : lkV "HalftoneRegionsModel" 168 m_M_toldAt 2 := ⟨List.mem_of_getElem? (i := 1173) (by decide +kernel), im_M_toldAt, se_M_toldAt, ii_M, ⟨by decide +kernel, by decide +kernel, by decide +kernel⟩⟩
theorem im_M_small : Jvm.Cond.instanceMethod m_M_small.1 ∈ lw_tbl := List.mem_of_getElem? (i := 1183) (by decide +kernel)
theorem se_M_small : Jvm.Cond.selects "HalftoneRegionsModel" m_M_small.1 m_M_small.1 ∈ lw_tbl := List.mem_of_getElem? (i := 40) (by decide +kernel)
theorem lk_M_180 : lkV "HalftoneRegionsModel" 180 m_M_small 0 := ⟨List.mem_of_getElem? (i := 1181) (by decide +kernel), im_M_small, se_M_small, ii_M, ⟨by decide +kernel, by decide +kernel, by decide +kernel⟩⟩
theorem im_M_write : Jvm.Cond.instanceMethod m_M_write.1 ∈ lw_tbl := List.mem_of_getElem? (i := 1187) (by decide +kernel)
theorem se_M_write : Jvm.Cond.selects "HalftoneRegionsModel" m_M_write.1 m_M_write.1 ∈ lw_tbl := List.mem_of_getElem? (i := 41) (by decide +kernel)
theorem lk_M_183 : lkV "HalftoneRegionsModel" 183 m_M_write 2 := ⟨List.mem_of_getElem? (i := 1185) (by decide +kernel), im_M_write, se_M_write, ii_M, ⟨by decide +kernel, by decide +kernel, by decide +kernel⟩⟩
theorem im_M_keepRun : Jvm.Cond.instanceMethod m_M_keepRun.1 ∈ lw_tbl := List.mem_of_getElem? (i := 1191) (by decide +kernel)
theorem se_M_keepRun : Jvm.Cond.selects "HalftoneRegionsModel" m_M_keepRun.1 m_M_keepRun.1 ∈ lw_tbl := List.mem_of_getElem? (i := 42) (by decide +kernel)
theorem lk_M_186 : lkV "HalftoneRegionsModel" 186 m_M_keepRun 1 := ⟨List.mem_of_getElem? (i := 1189) (by decide +kernel), im_M_keepRun, se_M_keepRun, ii_M, ⟨by decide +kernel, by decide +kernel, by decide +kernel⟩⟩
theorem im_M_beginRuns : Jvm.Cond.instanceMethod m_M_beginRuns.1 ∈ lw_tbl := List.mem_of_getElem? (i := 1159) (by decide +kernel)
theorem se_M_beginRuns : Jvm.Cond.selects "HalftoneRegionsModel" m_M_beginRuns.1 m_M_beginRuns.1 ∈ lw_tbl := List.mem_of_getElem? (i := 34) (by decide +kernel)
theorem lk_M_190 : lkV "HalftoneRegionsModel" 190 m_M_beginRuns 0 := ⟨List.mem_of_getElem? (i := 1157) (by decide +kernel), im_M_beginRuns, se_M_beginRuns, ii_M, ⟨by decide +kernel, by decide +kernel, by decide +kernel⟩⟩
theorem im_M_nextPlane : Jvm.Cond.instanceMethod m_M_nextPlane.1 ∈ lw_tbl := List.mem_of_getElem? (i := 1163) (by decide +kernel)
theorem se_M_nextPlane : Jvm.Cond.selects "HalftoneRegionsModel" m_M_nextPlane.1 m_M_nextPlane.1 ∈ lw_tbl := List.mem_of_getElem? (i := 35) (by decide +kernel)
theorem lk_M_193 : lkV "HalftoneRegionsModel" 193 m_M_nextPlane 0 := ⟨List.mem_of_getElem? (i := 1161) (by decide +kernel), im_M_nextPlane, se_M_nextPlane, ii_M, ⟨by decide +kernel, by decide +kernel, by decide +kernel⟩⟩
theorem im_M_isSkipped : Jvm.Cond.instanceMethod m_M_isSkipped.1 ∈ lw_tbl := List.mem_of_getElem? (i := 1167) (by decide +kernel)
theorem se_M_isSkipped : Jvm.Cond.selects "HalftoneRegionsModel" m_M_isSkipped.1 m_M_isSkipped.1 ∈ lw_tbl := List.mem_of_getElem? (i := 36) (by decide +kernel)
theorem lk_M_196 : lkV "HalftoneRegionsModel" 196 m_M_isSkipped 2 := ⟨List.mem_of_getElem? (i := 1165) (by decide +kernel), im_M_isSkipped, se_M_isSkipped, ii_M, ⟨by decide +kernel, by decide +kernel, by decide +kernel⟩⟩
theorem im_M_contextOf : Jvm.Cond.instanceMethod m_M_contextOf.1 ∈ lw_tbl := List.mem_of_getElem? (i := 1171) (by decide +kernel)
theorem se_M_contextOf : Jvm.Cond.selects "HalftoneRegionsModel" m_M_contextOf.1 m_M_contextOf.1 ∈ lw_tbl := List.mem_of_getElem? (i := 37) (by decide +kernel)
theorem lk_M_199 : lkV "HalftoneRegionsModel" 199 m_M_contextOf 2 := ⟨List.mem_of_getElem? (i := 1169) (by decide +kernel), im_M_contextOf, se_M_contextOf, ii_M, ⟨by decide +kernel, by decide +kernel, by decide +kernel⟩⟩
theorem im_M_writeRun : Jvm.Cond.instanceMethod m_M_writeRun.1 ∈ lw_tbl := List.mem_of_getElem? (i := 1179) (by decide +kernel)
theorem se_M_writeRun : Jvm.Cond.selects "HalftoneRegionsModel" m_M_writeRun.1 m_M_writeRun.1 ∈ lw_tbl := List.mem_of_getElem? (i := 39) (by decide +kernel)
theorem lk_M_202 : lkV "HalftoneRegionsModel" 202 m_M_writeRun 1 := ⟨List.mem_of_getElem? (i := 1177) (by decide +kernel), im_M_writeRun, se_M_writeRun, ii_M, ⟨by decide +kernel, by decide +kernel, by decide +kernel⟩⟩
theorem im_M_learn : Jvm.Cond.instanceMethod m_M_learn.1 ∈ lw_tbl := List.mem_of_getElem? (i := 1195) (by decide +kernel)
theorem se_M_learn : Jvm.Cond.selects "HalftoneRegionsModel" m_M_learn.1 m_M_learn.1 ∈ lw_tbl := List.mem_of_getElem? (i := 43) (by decide +kernel)
theorem lk_M_205 : lkV "HalftoneRegionsModel" 205 m_M_learn 2 := ⟨List.mem_of_getElem? (i := 1193) (by decide +kernel), im_M_learn, se_M_learn, ii_M, ⟨by decide +kernel, by decide +kernel, by decide +kernel⟩⟩
theorem im_M_madeByte : Jvm.Cond.instanceMethod m_M_madeByte.1 ∈ lw_tbl := List.mem_of_getElem? (i := 1203) (by decide +kernel)
theorem se_M_madeByte : Jvm.Cond.selects "HalftoneRegionsModel" m_M_madeByte.1 m_M_madeByte.1 ∈ lw_tbl := List.mem_of_getElem? (i := 44) (by decide +kernel)
theorem lk_M_209 : lkV "HalftoneRegionsModel" 209 m_M_madeByte 1 := ⟨List.mem_of_getElem? (i := 1201) (by decide +kernel), im_M_madeByte, se_M_madeByte, ii_M, ⟨by decide +kernel, by decide +kernel, by decide +kernel⟩⟩
theorem im_M_readOne : Jvm.Cond.instanceMethod m_M_readOne.1 ∈ lw_tbl := List.mem_of_getElem? (i := 1231) (by decide +kernel)
theorem se_M_readOne : Jvm.Cond.selects "HalftoneRegionsModel" m_M_readOne.1 m_M_readOne.1 ∈ lw_tbl := List.mem_of_getElem? (i := 48) (by decide +kernel)
theorem lk_M_219 : lkV "HalftoneRegionsModel" 219 m_M_readOne 0 := ⟨List.mem_of_getElem? (i := 1229) (by decide +kernel), im_M_readOne, se_M_readOne, ii_M, ⟨by decide +kernel, by decide +kernel, by decide +kernel⟩⟩
theorem im_M_readSome : Jvm.Cond.instanceMethod m_M_readSome.1 ∈ lw_tbl := List.mem_of_getElem? (i := 1235) (by decide +kernel)
theorem se_M_readSome : Jvm.Cond.selects "HalftoneRegionsModel" m_M_readSome.1 m_M_readSome.1 ∈ lw_tbl := List.mem_of_getElem? (i := 49) (by decide +kernel)
theorem lk_M_222 : lkV "HalftoneRegionsModel" 222 m_M_readSome 1 := ⟨List.mem_of_getElem? (i := 1233) (by decide +kernel), im_M_readSome, se_M_readSome, ii_M, ⟨by decide +kernel, by decide +kernel, by decide +kernel⟩⟩
theorem im_M_readRun : Jvm.Cond.instanceMethod m_M_readRun.1 ∈ lw_tbl := List.mem_of_getElem? (i := 1227) (by decide +kernel)
theorem se_M_readRun : Jvm.Cond.selects "HalftoneRegionsModel" m_M_readRun.1 m_M_readRun.1 ∈ lw_tbl := List.mem_of_getElem? (i := 47) (by decide +kernel)
theorem lk_M_237 : lkV "HalftoneRegionsModel" 237 m_M_readRun 0 := ⟨List.mem_of_getElem? (i := 1225) (by decide +kernel), im_M_readRun, se_M_readRun, ii_M, ⟨by decide +kernel, by decide +kernel, by decide +kernel⟩⟩
theorem im_M_readBit : Jvm.Cond.instanceMethod m_M_readBit.1 ∈ lw_tbl := List.mem_of_getElem? (i := 1223) (by decide +kernel)
theorem se_M_readBit : Jvm.Cond.selects "HalftoneRegionsModel" m_M_readBit.1 m_M_readBit.1 ∈ lw_tbl := List.mem_of_getElem? (i := 46) (by decide +kernel)
theorem lk_M_240 : lkV "HalftoneRegionsModel" 240 m_M_readBit 1 := ⟨List.mem_of_getElem? (i := 1221) (by decide +kernel), im_M_readBit, se_M_readBit, ii_M, ⟨by decide +kernel, by decide +kernel, by decide +kernel⟩⟩
theorem im_M_isMore : Jvm.Cond.instanceMethod m_M_isMore.1 ∈ lw_tbl := List.mem_of_getElem? (i := 1243) (by decide +kernel)
theorem se_M_isMore : Jvm.Cond.selects "HalftoneRegionsModel" m_M_isMore.1 m_M_isMore.1 ∈ lw_tbl := List.mem_of_getElem? (i := 51) (by decide +kernel)
theorem lk_M_244 : lkV "HalftoneRegionsModel" 244 m_M_isMore 0 := ⟨List.mem_of_getElem? (i := 1241) (by decide +kernel), im_M_isMore, se_M_isMore, ii_M, ⟨by decide +kernel, by decide +kernel, by decide +kernel⟩⟩
theorem im_M_readPlanes : Jvm.Cond.instanceMethod m_M_readPlanes.1 ∈ lw_tbl := List.mem_of_getElem? (i := 1219) (by decide +kernel)
theorem se_M_readPlanes : Jvm.Cond.selects "HalftoneRegionsModel" m_M_readPlanes.1 m_M_readPlanes.1 ∈ lw_tbl := List.mem_of_getElem? (i := 45) (by decide +kernel)
theorem lk_M_248 : lkV "HalftoneRegionsModel" 248 m_M_readPlanes 0 := ⟨List.mem_of_getElem? (i := 1217) (by decide +kernel), im_M_readPlanes, se_M_readPlanes, ii_M, ⟨by decide +kernel, by decide +kernel, by decide +kernel⟩⟩
theorem im_M_refusal : Jvm.Cond.instanceMethod m_M_refusal.1 ∈ lw_tbl := List.mem_of_getElem? (i := 1239) (by decide +kernel)
theorem se_M_refusal : Jvm.Cond.selects "HalftoneRegionsModel" m_M_refusal.1 m_M_refusal.1 ∈ lw_tbl := List.mem_of_getElem? (i := 50) (by decide +kernel)
theorem lk_M_251 : lkV "HalftoneRegionsModel" 251 m_M_refusal 0 := ⟨List.mem_of_getElem? (i := 1237) (by decide +kernel), im_M_refusal, se_M_refusal, ii_M, ⟨by decide +kernel, by decide +kernel, by decide +kernel⟩⟩
theorem sc_JA_fill1 : Jvm.Cond.static m_JA_fill1.1 ∈ lw_tbl := List.mem_of_getElem? (i := 172) (by decide +kernel)
theorem ii_JA : Jvm.Cond.initialized "java/util/Arrays" ∈ lw_tbl := List.mem_of_getElem? (i := 60) (by decide +kernel)
theorem lk_C_15 : lkS "HalftoneRegions$Codes" 15 m_JA_fill1 2 := ⟨List.mem_of_getElem? (i := 411) (by decide +kernel), sc_JA_fill1, ii_JA, ⟨by decide +kernel, by decide +kernel, by decide +kernel⟩⟩
theorem sc_H_placeOf : Jvm.Cond.static m_H_placeOf.1 ∈ lw_tbl := List.mem_of_getElem? (i := 371) (by decide +kernel)
theorem lk_C_21 : lkN "HalftoneRegions$Codes" 21 m_H_placeOf 2 := ⟨List.mem_of_getElem? (i := 420) (by decide +kernel), sc_H_placeOf, ii_H, ⟨by decide +kernel, by decide +kernel, by decide +kernel⟩⟩
theorem lk_C_25 : lkV "HalftoneRegions$Codes" 25 m_C_bitOf 3 := ⟨List.mem_of_getElem? (i := 448) (by decide +kernel), im_C_bitOf, se_C_bitOf, ii_C, ⟨by decide +kernel, by decide +kernel, by decide +kernel⟩⟩
theorem sc_C_greyOfCode : Jvm.Cond.static m_C_greyOfCode.1 ∈ lw_tbl := List.mem_of_getElem? (i := 544) (by decide +kernel)
theorem lk_C_29 : lkS "HalftoneRegions$Codes" 29 m_C_greyOfCode 1 := ⟨List.mem_of_getElem? (i := 543) (by decide +kernel), sc_C_greyOfCode, ii_C, ⟨by decide +kernel, by decide +kernel, by decide +kernel⟩⟩
theorem lk_F_18 : lkS "HalftoneRegions$Forecast" 18 m_JA_fill1 2 := ⟨List.mem_of_getElem? (i := 171) (by decide +kernel), sc_JA_fill1, ii_JA, ⟨by decide +kernel, by decide +kernel, by decide +kernel⟩⟩
theorem lk_F_24 : lkN "HalftoneRegions$Forecast" 24 m_H_isWithin 3 := ⟨List.mem_of_getElem? (i := 457) (by decide +kernel), sc_H_isWithin, ii_H, ⟨by decide +kernel, by decide +kernel, by decide +kernel⟩⟩
theorem lk_L_25 : lkV "HalftoneRegions$Lattice" 25 m_L_forgetGreys 0 := ⟨List.mem_of_getElem? (i := 578) (by decide +kernel), im_L_forgetGreys, se_L_forgetGreys, ii_L, ⟨by decide +kernel, by decide +kernel, by decide +kernel⟩⟩
theorem lk_L_37 : lkS "HalftoneRegions$Lattice" 37 m_JA_fill1 2 := ⟨List.mem_of_getElem? (i := 582) (by decide +kernel), sc_JA_fill1, ii_JA, ⟨by decide +kernel, by decide +kernel, by decide +kernel⟩⟩
theorem lk_L_43 : lkN "HalftoneRegions$Lattice" 43 m_H_isWithin 3 := ⟨List.mem_of_getElem? (i := 760) (by decide +kernel), sc_H_isWithin, ii_H, ⟨by decide +kernel, by decide +kernel, by decide +kernel⟩⟩
theorem lk_L_47 : lkN "HalftoneRegions$Lattice" 47 m_H_placeOf 2 := ⟨List.mem_of_getElem? (i := 370) (by decide +kernel), sc_H_placeOf, ii_H, ⟨by decide +kernel, by decide +kernel, by decide +kernel⟩⟩
theorem sc_JA_fill2 : Jvm.Cond.static m_JA_fill2.1 ∈ lw_tbl := List.mem_of_getElem? (i := 572) (by decide +kernel)
theorem lk_B_25 : lkS "HalftoneRegions$PatternSet" 25 m_JA_fill2 2 := ⟨List.mem_of_getElem? (i := 571) (by decide +kernel), sc_JA_fill2, ii_JA, ⟨by decide +kernel, by decide +kernel, by decide +kernel⟩⟩
theorem lk_B_31 : lkV "HalftoneRegions$PatternSet" 31 m_B_begin 3 := ⟨List.mem_of_getElem? (i := 679) (by decide +kernel), im_B_begin, se_B_begin, ii_B, ⟨by decide +kernel, by decide +kernel, by decide +kernel⟩⟩
theorem im_B_rankOf : Jvm.Cond.instanceMethod m_B_rankOf.1 ∈ lw_tbl := List.mem_of_getElem? (i := 682) (by decide +kernel)
theorem se_B_rankOf : Jvm.Cond.selects "HalftoneRegions$PatternSet" m_B_rankOf.1 m_B_rankOf.1 ∈ lw_tbl := List.mem_of_getElem? (i := 17) (by decide +kernel)
theorem lk_B_35 : lkV "HalftoneRegions$PatternSet" 35 m_B_rankOf 2 := ⟨List.mem_of_getElem? (i := 680) (by decide +kernel), im_B_rankOf, se_B_rankOf, ii_B, ⟨by decide +kernel, by decide +kernel, by decide +kernel⟩⟩
theorem lk_B_39 : lkV "HalftoneRegions$PatternSet" 39 m_B_turn 3 := ⟨List.mem_of_getElem? (i := 687) (by decide +kernel), im_B_turn, se_B_turn, ii_B, ⟨by decide +kernel, by decide +kernel, by decide +kernel⟩⟩
theorem sc_B_keyOf : Jvm.Cond.static m_B_keyOf.1 ∈ lw_tbl := List.mem_of_getElem? (i := 685) (by decide +kernel)
theorem lk_B_42 : lkS "HalftoneRegions$PatternSet" 42 m_B_keyOf 2 := ⟨List.mem_of_getElem? (i := 684) (by decide +kernel), sc_B_keyOf, ii_B, ⟨by decide +kernel, by decide +kernel, by decide +kernel⟩⟩
theorem lk_B_45 : lkN "HalftoneRegions$PatternSet" 45 m_H_isWithin 3 := ⟨List.mem_of_getElem? (i := 394) (by decide +kernel), sc_H_isWithin, ii_H, ⟨by decide +kernel, by decide +kernel, by decide +kernel⟩⟩
theorem lk_B_49 : lkV "HalftoneRegions$PatternSet" 49 m_B_hasPattern 1 := ⟨List.mem_of_getElem? (i := 703) (by decide +kernel), im_B_hasPattern, se_B_hasPattern, ii_B, ⟨by decide +kernel, by decide +kernel, by decide +kernel⟩⟩
theorem lk_B_53 : lkV "HalftoneRegions$PatternSet" 53 m_B_line 2 := ⟨List.mem_of_getElem? (i := 727) (by decide +kernel), im_B_line, se_B_line, ii_B, ⟨by decide +kernel, by decide +kernel, by decide +kernel⟩⟩
theorem im_B_farness : Jvm.Cond.instanceMethod m_B_farness.1 ∈ lw_tbl := List.mem_of_getElem? (i := 333) (by decide +kernel)
theorem se_B_farness : Jvm.Cond.selects "HalftoneRegions$PatternSet" m_B_farness.1 m_B_farness.1 ∈ lw_tbl := List.mem_of_getElem? (i := 0) (by decide +kernel)
theorem lk_B_56 : lkV "HalftoneRegions$PatternSet" 56 m_B_farness 2 := ⟨List.mem_of_getElem? (i := 331) (by decide +kernel), im_B_farness, se_B_farness, ii_B, ⟨by decide +kernel, by decide +kernel, by decide +kernel⟩⟩
theorem sc_JL_bitCount : Jvm.Cond.static m_JL_bitCount.1 ∈ lw_tbl := List.mem_of_getElem? (i := 336) (by decide +kernel)
theorem ii_JL : Jvm.Cond.initialized "java/lang/Long" ∈ lw_tbl := List.mem_of_getElem? (i := 71) (by decide +kernel)
theorem lk_B_59 : lkS "HalftoneRegions$PatternSet" 59 m_JL_bitCount 1 := ⟨List.mem_of_getElem? (i := 335) (by decide +kernel), sc_JL_bitCount, ii_JL, ⟨by decide +kernel, by decide +kernel, by decide +kernel⟩⟩
theorem lk_R_26 : lkN "HalftoneRegions$RunReader" 26 m_H_isWithin 3 := ⟨List.mem_of_getElem? (i := 521) (by decide +kernel), sc_H_isWithin, ii_H, ⟨by decide +kernel, by decide +kernel, by decide +kernel⟩⟩
theorem im_P_begin : Jvm.Cond.instanceMethod m_P_begin.1 ∈ lw_tbl := List.mem_of_getElem? (i := 429) (by decide +kernel)
theorem se_P_begin : Jvm.Cond.selects "HalftoneRegions$Pace" m_P_begin.1 m_P_begin.1 ∈ lw_tbl := List.mem_of_getElem? (i := 430) (by decide +kernel)
theorem ii_P : Jvm.Cond.initialized "HalftoneRegions$Pace" ∈ lw_tbl := List.mem_of_getElem? (i := 62) (by decide +kernel)
theorem lk_R_30 : lkV "HalftoneRegions$RunReader" 30 m_P_begin 0 := ⟨List.mem_of_getElem? (i := 502) (by decide +kernel), im_P_begin, se_P_begin, ii_P, ⟨by decide +kernel, by decide +kernel, by decide +kernel⟩⟩
theorem im_R_readRun : Jvm.Cond.instanceMethod m_R_readRun.1 ∈ lw_tbl := List.mem_of_getElem? (i := 513) (by decide +kernel)
theorem se_R_readRun : Jvm.Cond.selects "HalftoneRegions$RunReader" m_R_readRun.1 m_R_readRun.1 ∈ lw_tbl := List.mem_of_getElem? (i := 11) (by decide +kernel)
theorem lk_R_48 : lkV "HalftoneRegions$RunReader" 48 m_R_readRun 0 := ⟨List.mem_of_getElem? (i := 511) (by decide +kernel), im_R_readRun, se_R_readRun, ii_R, ⟨by decide +kernel, by decide +kernel, by decide +kernel⟩⟩
theorem im_P_lowBits : Jvm.Cond.instanceMethod m_P_lowBits.1 ∈ lw_tbl := List.mem_of_getElem? (i := 467) (by decide +kernel)
theorem se_P_lowBits : Jvm.Cond.selects "HalftoneRegions$Pace" m_P_lowBits.1 m_P_lowBits.1 ∈ lw_tbl := List.mem_of_getElem? (i := 468) (by decide +kernel)
theorem lk_R_51 : lkV "HalftoneRegions$RunReader" 51 m_P_lowBits 0 := ⟨List.mem_of_getElem? (i := 515) (by decide +kernel), im_P_lowBits, se_P_lowBits, ii_P, ⟨by decide +kernel, by decide +kernel, by decide +kernel⟩⟩
theorem im_R_readBit : Jvm.Cond.instanceMethod m_R_readBit.1 ∈ lw_tbl := List.mem_of_getElem? (i := 518) (by decide +kernel)
theorem se_R_readBit : Jvm.Cond.selects "HalftoneRegions$RunReader" m_R_readBit.1 m_R_readBit.1 ∈ lw_tbl := List.mem_of_getElem? (i := 12) (by decide +kernel)
theorem lk_R_55 : lkV "HalftoneRegions$RunReader" 55 m_R_readBit 0 := ⟨List.mem_of_getElem? (i := 516) (by decide +kernel), im_R_readBit, se_R_readBit, ii_R, ⟨by decide +kernel, by decide +kernel, by decide +kernel⟩⟩
theorem im_R_read : Jvm.Cond.instanceMethod m_R_read.1 ∈ lw_tbl := List.mem_of_getElem? (i := 524) (by decide +kernel)
theorem se_R_read : Jvm.Cond.selects "HalftoneRegions$RunReader" m_R_read.1 m_R_read.1 ∈ lw_tbl := List.mem_of_getElem? (i := 13) (by decide +kernel)
theorem lk_R_58 : lkV "HalftoneRegions$RunReader" 58 m_R_read 1 := ⟨List.mem_of_getElem? (i := 522) (by decide +kernel), im_R_read, se_R_read, ii_R, ⟨by decide +kernel, by decide +kernel, by decide +kernel⟩⟩
theorem im_P_learn : Jvm.Cond.instanceMethod m_P_learn.1 ∈ lw_tbl := List.mem_of_getElem? (i := 476) (by decide +kernel)
theorem se_P_learn : Jvm.Cond.selects "HalftoneRegions$Pace" m_P_learn.1 m_P_learn.1 ∈ lw_tbl := List.mem_of_getElem? (i := 477) (by decide +kernel)
theorem lk_R_62 : lkV "HalftoneRegions$RunReader" 62 m_P_learn 1 := ⟨List.mem_of_getElem? (i := 526) (by decide +kernel), im_P_learn, se_P_learn, ii_P, ⟨by decide +kernel, by decide +kernel, by decide +kernel⟩⟩
theorem im_R_isAllRead : Jvm.Cond.instanceMethod m_R_isAllRead.1 ∈ lw_tbl := List.mem_of_getElem? (i := 537) (by decide +kernel)
theorem se_R_isAllRead : Jvm.Cond.selects "HalftoneRegions$RunReader" m_R_isAllRead.1 m_R_isAllRead.1 ∈ lw_tbl := List.mem_of_getElem? (i := 14) (by decide +kernel)
theorem lk_R_72 : lkV "HalftoneRegions$RunReader" 72 m_R_isAllRead 0 := ⟨List.mem_of_getElem? (i := 535) (by decide +kernel), im_R_isAllRead, se_R_isAllRead, ii_R, ⟨by decide +kernel, by decide +kernel, by decide +kernel⟩⟩
theorem sc_JA_fill0 : Jvm.Cond.static m_JA_fill0.1 ∈ lw_tbl := List.mem_of_getElem? (i := 426) (by decide +kernel)
theorem lk_W_22 : lkS "HalftoneRegions$RunWriter" 22 m_JA_fill0 2 := ⟨List.mem_of_getElem? (i := 425) (by decide +kernel), sc_JA_fill0, ii_JA, ⟨by decide +kernel, by decide +kernel, by decide +kernel⟩⟩
theorem lk_W_28 : lkV "HalftoneRegions$RunWriter" 28 m_P_begin 0 := ⟨List.mem_of_getElem? (i := 428) (by decide +kernel), im_P_begin, se_P_begin, ii_P, ⟨by decide +kernel, by decide +kernel, by decide +kernel⟩⟩
theorem lk_W_41 : lkV "HalftoneRegions$RunWriter" 41 m_W_endRun 0 := ⟨List.mem_of_getElem? (i := 462) (by decide +kernel), im_W_endRun, se_W_endRun, ii_W, ⟨by decide +kernel, by decide +kernel, by decide +kernel⟩⟩
theorem lk_W_44 : lkV "HalftoneRegions$RunWriter" 44 m_P_lowBits 0 := ⟨List.mem_of_getElem? (i := 466) (by decide +kernel), im_P_lowBits, se_P_lowBits, ii_P, ⟨by decide +kernel, by decide +kernel, by decide +kernel⟩⟩
theorem im_W_write : Jvm.Cond.instanceMethod m_W_write.1 ∈ lw_tbl := List.mem_of_getElem? (i := 472) (by decide +kernel)
theorem se_W_write : Jvm.Cond.selects "HalftoneRegions$RunWriter" m_W_write.1 m_W_write.1 ∈ lw_tbl := List.mem_of_getElem? (i := 8) (by decide +kernel)
theorem lk_W_48 : lkV "HalftoneRegions$RunWriter" 48 m_W_write 2 := ⟨List.mem_of_getElem? (i := 470) (by decide +kernel), im_W_write, se_W_write, ii_W, ⟨by decide +kernel, by decide +kernel, by decide +kernel⟩⟩
theorem lk_W_52 : lkV "HalftoneRegions$RunWriter" 52 m_P_learn 1 := ⟨List.mem_of_getElem? (i := 475) (by decide +kernel), im_P_learn, se_P_learn, ii_P, ⟨by decide +kernel, by decide +kernel, by decide +kernel⟩⟩
theorem lk_W_56 : lkN "HalftoneRegions$RunWriter" 56 m_H_isWithin 3 := ⟨List.mem_of_getElem? (i := 474) (by decide +kernel), sc_H_isWithin, ii_H, ⟨by decide +kernel, by decide +kernel, by decide +kernel⟩⟩
theorem lk_S_19 : lkN "HalftoneRegions$Sheet" 19 m_H_isWithin 3 := ⟨List.mem_of_getElem? (i := 310) (by decide +kernel), sc_H_isWithin, ii_H, ⟨by decide +kernel, by decide +kernel, by decide +kernel⟩⟩
theorem lk_S_23 : lkS "HalftoneRegions$Sheet" 23 m_JI_bitCount 1 := ⟨List.mem_of_getElem? (i := 317) (by decide +kernel), sc_JI_bitCount, ii_JI, ⟨by decide +kernel, by decide +kernel, by decide +kernel⟩⟩
theorem lk_S_29 : lkS "HalftoneRegions$Sheet" 29 m_JA_fill1 2 := ⟨List.mem_of_getElem? (i := 381) (by decide +kernel), sc_JA_fill1, ii_JA, ⟨by decide +kernel, by decide +kernel, by decide +kernel⟩⟩
theorem im_H_patterns : Jvm.Cond.instanceMethod m_H_patterns.1 ∈ lw_tbl := List.mem_of_getElem? (i := 595) (by decide +kernel)
theorem se_H_patterns : Jvm.Cond.selects "HalftoneRegions" m_H_patterns.1 m_H_patterns.1 ∈ lw_tbl := List.mem_of_getElem? (i := 596) (by decide +kernel)
theorem lk_Z_7 : lkV "HalftoneRegionsLaw" 7 m_H_patterns 3 := ⟨List.mem_of_getElem? (i := 594) (by decide +kernel), im_H_patterns, se_H_patterns, ii_H, ⟨by decide +kernel, by decide +kernel, by decide +kernel⟩⟩
theorem im_H_ordered : Jvm.Cond.instanceMethod m_H_ordered.1 ∈ lw_tbl := List.mem_of_getElem? (i := 671) (by decide +kernel)
theorem se_H_ordered : Jvm.Cond.selects "HalftoneRegions" m_H_ordered.1 m_H_ordered.1 ∈ lw_tbl := List.mem_of_getElem? (i := 672) (by decide +kernel)
theorem lk_Z_15 : lkV "HalftoneRegionsLaw" 15 m_H_ordered 1 := ⟨List.mem_of_getElem? (i := 670) (by decide +kernel), im_H_ordered, se_H_ordered, ii_H, ⟨by decide +kernel, by decide +kernel, by decide +kernel⟩⟩
theorem im_H_put : Jvm.Cond.instanceMethod m_H_put.1 ∈ lw_tbl := List.mem_of_getElem? (i := 696) (by decide +kernel)
theorem se_H_put : Jvm.Cond.selects "HalftoneRegions" m_H_put.1 m_H_put.1 ∈ lw_tbl := List.mem_of_getElem? (i := 697) (by decide +kernel)
theorem lk_Z_19 : lkV "HalftoneRegionsLaw" 19 m_H_put 4 := ⟨List.mem_of_getElem? (i := 695) (by decide +kernel), im_H_put, se_H_put, ii_H, ⟨by decide +kernel, by decide +kernel, by decide +kernel⟩⟩
theorem im_H_cell : Jvm.Cond.instanceMethod m_H_cell.1 ∈ lw_tbl := List.mem_of_getElem? (i := 733) (by decide +kernel)
theorem se_H_cell : Jvm.Cond.selects "HalftoneRegions" m_H_cell.1 m_H_cell.1 ∈ lw_tbl := List.mem_of_getElem? (i := 734) (by decide +kernel)
theorem lk_Z_25 : lkV "HalftoneRegionsLaw" 25 m_H_cell 3 := ⟨List.mem_of_getElem? (i := 732) (by decide +kernel), im_H_cell, se_H_cell, ii_H, ⟨by decide +kernel, by decide +kernel, by decide +kernel⟩⟩
theorem im_H_grid : Jvm.Cond.instanceMethod m_H_grid.1 ∈ lw_tbl := List.mem_of_getElem? (i := 740) (by decide +kernel)
theorem se_H_grid : Jvm.Cond.selects "HalftoneRegions" m_H_grid.1 m_H_grid.1 ∈ lw_tbl := List.mem_of_getElem? (i := 741) (by decide +kernel)
theorem lk_Z_29 : lkV "HalftoneRegionsLaw" 29 m_H_grid 6 := ⟨List.mem_of_getElem? (i := 739) (by decide +kernel), im_H_grid, se_H_grid, ii_H, ⟨by decide +kernel, by decide +kernel, by decide +kernel⟩⟩
theorem im_H_where : Jvm.Cond.instanceMethod m_H_where.1 ∈ lw_tbl := List.mem_of_getElem? (i := 753) (by decide +kernel)
theorem se_H_where : Jvm.Cond.selects "HalftoneRegions" m_H_where.1 m_H_where.1 ∈ lw_tbl := List.mem_of_getElem? (i := 754) (by decide +kernel)
theorem lk_Z_33 : lkV "HalftoneRegionsLaw" 33 m_H_where 3 := ⟨List.mem_of_getElem? (i := 752) (by decide +kernel), im_H_where, se_H_where, ii_H, ⟨by decide +kernel, by decide +kernel, by decide +kernel⟩⟩
theorem im_H_outside : Jvm.Cond.instanceMethod m_H_outside.1 ∈ lw_tbl := List.mem_of_getElem? (i := 767) (by decide +kernel)
theorem se_H_outside : Jvm.Cond.selects "HalftoneRegions" m_H_outside.1 m_H_outside.1 ∈ lw_tbl := List.mem_of_getElem? (i := 768) (by decide +kernel)
theorem lk_Z_36 : lkV "HalftoneRegionsLaw" 36 m_H_outside 2 := ⟨List.mem_of_getElem? (i := 766) (by decide +kernel), im_H_outside, se_H_outside, ii_H, ⟨by decide +kernel, by decide +kernel, by decide +kernel⟩⟩
theorem im_H_grey : Jvm.Cond.instanceMethod m_H_grey.1 ∈ lw_tbl := List.mem_of_getElem? (i := 774) (by decide +kernel)
theorem se_H_grey : Jvm.Cond.selects "HalftoneRegions" m_H_grey.1 m_H_grey.1 ∈ lw_tbl := List.mem_of_getElem? (i := 775) (by decide +kernel)
theorem lk_Z_40 : lkV "HalftoneRegionsLaw" 40 m_H_grey 3 := ⟨List.mem_of_getElem? (i := 773) (by decide +kernel), im_H_grey, se_H_grey, ii_H, ⟨by decide +kernel, by decide +kernel, by decide +kernel⟩⟩
theorem im_H_greyAt : Jvm.Cond.instanceMethod m_H_greyAt.1 ∈ lw_tbl := List.mem_of_getElem? (i := 783) (by decide +kernel)
theorem se_H_greyAt : Jvm.Cond.selects "HalftoneRegions" m_H_greyAt.1 m_H_greyAt.1 ∈ lw_tbl := List.mem_of_getElem? (i := 784) (by decide +kernel)
theorem lk_Z_43 : lkV "HalftoneRegionsLaw" 43 m_H_greyAt 2 := ⟨List.mem_of_getElem? (i := 782) (by decide +kernel), im_H_greyAt, se_H_greyAt, ii_H, ⟨by decide +kernel, by decide +kernel, by decide +kernel⟩⟩
theorem im_H_way : Jvm.Cond.instanceMethod m_H_way.1 ∈ lw_tbl := List.mem_of_getElem? (i := 790) (by decide +kernel)
theorem se_H_way : Jvm.Cond.selects "HalftoneRegions" m_H_way.1 m_H_way.1 ∈ lw_tbl := List.mem_of_getElem? (i := 791) (by decide +kernel)
theorem lk_Z_47 : lkV "HalftoneRegionsLaw" 47 m_H_way 2 := ⟨List.mem_of_getElem? (i := 789) (by decide +kernel), im_H_way, se_H_way, ii_H, ⟨by decide +kernel, by decide +kernel, by decide +kernel⟩⟩
theorem im_H_row : Jvm.Cond.instanceMethod m_H_row.1 ∈ lw_tbl := List.mem_of_getElem? (i := 803) (by decide +kernel)
theorem se_H_row : Jvm.Cond.selects "HalftoneRegions" m_H_row.1 m_H_row.1 ∈ lw_tbl := List.mem_of_getElem? (i := 804) (by decide +kernel)
theorem lk_Z_50 : lkV "HalftoneRegionsLaw" 50 m_H_row 2 := ⟨List.mem_of_getElem? (i := 802) (by decide +kernel), im_H_row, se_H_row, ii_H, ⟨by decide +kernel, by decide +kernel, by decide +kernel⟩⟩
theorem im_H_count : Jvm.Cond.instanceMethod m_H_count.1 ∈ lw_tbl := List.mem_of_getElem? (i := 811) (by decide +kernel)
theorem se_H_count : Jvm.Cond.selects "HalftoneRegions" m_H_count.1 m_H_count.1 ∈ lw_tbl := List.mem_of_getElem? (i := 812) (by decide +kernel)
theorem lk_Z_53 : lkV "HalftoneRegionsLaw" 53 m_H_count 2 := ⟨List.mem_of_getElem? (i := 810) (by decide +kernel), im_H_count, se_H_count, ii_H, ⟨by decide +kernel, by decide +kernel, by decide +kernel⟩⟩
theorem im_H_at : Jvm.Cond.instanceMethod m_H_at.1 ∈ lw_tbl := List.mem_of_getElem? (i := 818) (by decide +kernel)
theorem se_H_at : Jvm.Cond.selects "HalftoneRegions" m_H_at.1 m_H_at.1 ∈ lw_tbl := List.mem_of_getElem? (i := 819) (by decide +kernel)
theorem lk_Z_56 : lkV "HalftoneRegionsLaw" 56 m_H_at 2 := ⟨List.mem_of_getElem? (i := 817) (by decide +kernel), im_H_at, se_H_at, ii_H, ⟨by decide +kernel, by decide +kernel, by decide +kernel⟩⟩
theorem im_H_byteAt : Jvm.Cond.instanceMethod m_H_byteAt.1 ∈ lw_tbl := List.mem_of_getElem? (i := 826) (by decide +kernel)
theorem se_H_byteAt : Jvm.Cond.selects "HalftoneRegions" m_H_byteAt.1 m_H_byteAt.1 ∈ lw_tbl := List.mem_of_getElem? (i := 827) (by decide +kernel)
theorem lk_Z_59 : lkV "HalftoneRegionsLaw" 59 m_H_byteAt 1 := ⟨List.mem_of_getElem? (i := 825) (by decide +kernel), im_H_byteAt, se_H_byteAt, ii_H, ⟨by decide +kernel, by decide +kernel, by decide +kernel⟩⟩
theorem im_H_feed : Jvm.Cond.instanceMethod m_H_feed.1 ∈ lw_tbl := List.mem_of_getElem? (i := 839) (by decide +kernel)
theorem se_H_feed : Jvm.Cond.selects "HalftoneRegions" m_H_feed.1 m_H_feed.1 ∈ lw_tbl := List.mem_of_getElem? (i := 840) (by decide +kernel)
theorem lk_Z_62 : lkV "HalftoneRegionsLaw" 62 m_H_feed 1 := ⟨List.mem_of_getElem? (i := 838) (by decide +kernel), im_H_feed, se_H_feed, ii_H, ⟨by decide +kernel, by decide +kernel, by decide +kernel⟩⟩
theorem im_H_pass : Jvm.Cond.instanceMethod m_H_pass.1 ∈ lw_tbl := List.mem_of_getElem? (i := 871) (by decide +kernel)
theorem se_H_pass : Jvm.Cond.selects "HalftoneRegions" m_H_pass.1 m_H_pass.1 ∈ lw_tbl := List.mem_of_getElem? (i := 872) (by decide +kernel)
theorem lk_Z_67 : lkV "HalftoneRegionsLaw" 67 m_H_pass 0 := ⟨List.mem_of_getElem? (i := 870) (by decide +kernel), im_H_pass, se_H_pass, ii_H, ⟨by decide +kernel, by decide +kernel, by decide +kernel⟩⟩
theorem im_H_context : Jvm.Cond.instanceMethod m_H_context.1 ∈ lw_tbl := List.mem_of_getElem? (i := 879) (by decide +kernel)
theorem se_H_context : Jvm.Cond.selects "HalftoneRegions" m_H_context.1 m_H_context.1 ∈ lw_tbl := List.mem_of_getElem? (i := 880) (by decide +kernel)
theorem lk_Z_71 : lkV "HalftoneRegionsLaw" 71 m_H_context 2 := ⟨List.mem_of_getElem? (i := 878) (by decide +kernel), im_H_context, se_H_context, ii_H, ⟨by decide +kernel, by decide +kernel, by decide +kernel⟩⟩
