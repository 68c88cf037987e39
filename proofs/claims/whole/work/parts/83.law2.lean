def m_Zc6 : Mt := (⟨"HalftoneRegionsLaw", "law", "([I)Z"⟩, code, 7, (some .boolean), LI10 ++ (LI11 ++ (LI23)), F_Z)
theorem od_m_Zc6 : okD m_Zc6 := by
  refine ⟨?_, okF_Z⟩
  show (LI10 ++ (LI11 ++ (LI23))).all (cdB code) = true
  simp only [List.all_append, LI10_ok, LI11_ok, LI23_ok, Bool.and_self]
set_option maxHeartbeats 4000000 in
set_option maxRecDepth 40000 in
theorem c_6 {l : Launch} {h w b L i kc ks : Nat} {xs : Nat → Int32} {Z0 : List Frame → Array Value → State → State → Prop} {S : St} {a5 a6 : Option AV} (hfl : l.flags = Jvm.pinnedFlags ++ [Jvm.noTraceFlag]) (hL : L ≤ 3586) (hi : i + 7 ≤ L) (H : Rl h w S S) (hc : kc + 1 ≤ room_1.cells ∧ ks + 6 ≤ room_1.slots) (IH : ∀ (S9 : St) (kc9 ks9 : Nat) (a5 a6 : Option AV), Rl h w S9 S9 → kc9 ≤ kc + 1 → ks9 ≤ ks + 6 → EE l (SHw h) room_1 m_Z_law (zG F9L 0 (SHw h) (zLw b L xs Z0)) kc9 ks9 43 [some (aR 99), some (aR 0), some (aR 21), some (aR 33), some (aI (nI (i + 7))), a5, a6] [] S9) : EE l (SHw h) room_1 m_Zc6 (zG F9L 0 (SHw h) (zLw b L xs Z0)) kc ks 708 [some (aR 99), some (aR 0), some (aR 21), some (aR 33), some (aI (nI i)), a5, a6] [] S := by
  obtain ⟨pw9, ph9, m9, c9, r9, ⟨q1, q2, q3, q4, q5⟩, ⟨t1, t2, t3, t4⟩, ⟨z1, z2, z3, z4, z5⟩, ⟨d1, d2, d3, d4⟩, u1, u2⟩ := fld H
  obtain ⟨qb, db, cb, w1, w2, w3, w3b, w4, w5, w6, w7⟩ := fld2 H
  have hA := s_outside (i := (xs (nI i + nI 1).toNatClampNeg)) (j := (xs (nI i + nI 2).toNatClampNeg)) H
  iterate 3 refine e_sp rfl rfl rfl ?_
  refine e_ci 1 rfl rfl ?_
  iterate 1 refine e_sp rfl rfl rfl ?_
  refine e_sld rfl (vin9 (k := 1) (by omega) (by omega)) ?_
  iterate 2 refine e_sp rfl rfl rfl ?_
  refine e_ci 2 rfl rfl ?_
  iterate 1 refine e_sp rfl rfl rfl ?_
  refine e_sld rfl (vin9 (k := 2) (by omega) (by omega)) ?_
  iterate 1 refine e_sp rfl rfl rfl ?_
  refine e_callSW cw_Z_outside rfl ll_110 (w_outside hfl) rfl rfl ⟨Nat.le_of_ble_eq_true rfl, Nat.le_of_ble_eq_true rfl⟩ ⟨hc.1, hc.2⟩ (Nat.le_of_ble_eq_true rfl) ?_
  iterate 4 refine e_sp rfl rfl rfl ?_
  refine e_ci 1 rfl rfl ?_
  iterate 1 refine e_sp rfl rfl rfl ?_
  refine e_sld rfl (vin9 (k := 1) (by omega) (by omega)) ?_
  iterate 2 refine e_sp rfl rfl rfl ?_
  refine e_ci 2 rfl rfl ?_
  iterate 1 refine e_sp rfl rfl rfl ?_
  refine e_sld rfl (vin9 (k := 2) (by omega) (by omega)) ?_
  refine e_callV1 ok_M_outside rfl ll_113 (by rfl) (by rfl) (kk_ext (X := [.inr (.long, 1)]) k_M_outside) rfl rfl ⟨Nat.le_of_ble_eq_true rfl, Nat.le_of_ble_eq_true rfl⟩ ⟨hc.1, hc.2⟩ (Nat.le_of_ble_eq_true rfl) ?_
  iterate 2 refine e_sp rfl rfl rfl ?_
  refine e_callV1 ok_M_thrown rfl ll_89 (by rfl) (by rfl) (kk_ext (X := [.inr (.long, 1)]) k_M_thrown) rfl rfl ⟨Nat.le_of_ble_eq_true rfl, Nat.le_of_ble_eq_true rfl⟩ ⟨hc.1, hc.2⟩ (Nat.le_of_ble_eq_true rfl) ?_
  iterate 1 refine e_sp rfl rfl rfl ?_
  refine e_iceq rfl (fun _ => ?_) (fun hx => absurd hA.2.1 hx)
  iterate 1 refine e_sp rfl rfl rfl ?_
  refine e_ifne rfl (fun hz => ?_) (fun hz => ?_)
  · refine e_goto rfl ?_
    refine e_inc 7 rfl rfl rfl rfl ?_
    refine e_goto rfl ?_
    try dsimp only [List.set]
    rw [show nI i + 7 = nI (i + 7) from nI_add i 7]
    exact ee_sub od_Z_law ⟨rfl, rfl, rfl, rfl⟩ (IH _ _ _ _ _ hA.1 (Nat.le_refl _) (Nat.le_refl _))
  · iterate 1 refine e_sp rfl rfl rfl ?_
    refine e_ci 0 rfl rfl ?_
    refine e_lald (o := 33) (n := 1) rfl rfl (show vp_in (nI 0) 1 from vp_in_nI (by decide) (by decide)) ?_
    iterate 1 refine e_sp rfl rfl rfl ?_
    refine e_ifeq rfl (fun hy => ?_) (fun hy => ?_)
    · refine e_cl 0 rfl rfl ?_
      iterate 1 refine e_sp rfl rfl rfl ?_
      refine e_ifeq rfl (fun _ => ?_) (fun hx => absurd (cmp_0 ((hA.2.2 hz).trans (b2L_0 hy))) hx)
      refine e_goto rfl ?_
      refine e_inc 7 rfl rfl rfl rfl ?_
      refine e_goto rfl ?_
      try dsimp only [List.set]
      rw [show nI i + 7 = nI (i + 7) from nI_add i 7]
      exact ee_sub od_Z_law ⟨rfl, rfl, rfl, rfl⟩ (IH _ _ _ _ _ hA.1 (Nat.le_refl _) (Nat.le_refl _))
    · refine e_cl 1 rfl rfl ?_
      refine e_goto rfl ?_
      iterate 1 refine e_sp rfl rfl rfl ?_
      refine e_ifeq rfl (fun _ => ?_) (fun hx => absurd (cmp_0 ((hA.2.2 hz).trans (b2L_1 hy))) hx)
      refine e_goto rfl ?_
      refine e_inc 7 rfl rfl rfl rfl ?_
      refine e_goto rfl ?_
      try dsimp only [List.set]
      rw [show nI i + 7 = nI (i + 7) from nI_add i 7]
      exact ee_sub od_Z_law ⟨rfl, rfl, rfl, rfl⟩ (IH _ _ _ _ _ hA.1 (Nat.le_refl _) (Nat.le_refl _))
def m_Zc7 : Mt := (⟨"HalftoneRegionsLaw", "law", "([I)Z"⟩, code, 7, (some .boolean), LI11 ++ (LI12 ++ (LI23)), F_Z)
theorem od_m_Zc7 : okD m_Zc7 := by
  refine ⟨?_, okF_Z⟩
  show (LI11 ++ (LI12 ++ (LI23))).all (cdB code) = true
  simp only [List.all_append, LI11_ok, LI12_ok, LI23_ok, Bool.and_self]
set_option maxHeartbeats 4000000 in
set_option maxRecDepth 40000 in
theorem c_7 {l : Launch} {h w b L i kc ks : Nat} {xs : Nat → Int32} {Z0 : List Frame → Array Value → State → State → Prop} {S : St} {a5 a6 : Option AV} (hfl : l.flags = Jvm.pinnedFlags ++ [Jvm.noTraceFlag]) (hL : L ≤ 3586) (hi : i + 7 ≤ L) (H : Rl h w S S) (hc : kc + 1 ≤ room_1.cells ∧ ks + 6 ≤ room_1.slots) (IH : ∀ (S9 : St) (kc9 ks9 : Nat) (a5 a6 : Option AV), Rl h w S9 S9 → kc9 ≤ kc + 1 → ks9 ≤ ks + 6 → EE l (SHw h) room_1 m_Z_law (zG F9L 0 (SHw h) (zLw b L xs Z0)) kc9 ks9 43 [some (aR 99), some (aR 0), some (aR 21), some (aR 33), some (aI (nI (i + 7))), a5, a6] [] S9) : EE l (SHw h) room_1 m_Zc7 (zG F9L 0 (SHw h) (zLw b L xs Z0)) kc ks 783 [some (aR 99), some (aR 0), some (aR 21), some (aR 33), some (aI (nI i)), a5, a6] [] S := by
  obtain ⟨pw9, ph9, m9, c9, r9, ⟨q1, q2, q3, q4, q5⟩, ⟨t1, t2, t3, t4⟩, ⟨z1, z2, z3, z4, z5⟩, ⟨d1, d2, d3, d4⟩, u1, u2⟩ := fld H
  obtain ⟨qb, db, cb, w1, w2, w3, w3b, w4, w5, w6, w7⟩ := fld2 H
  have hA := s_grey (i := (xs (nI i + nI 1).toNatClampNeg)) (j := (xs (nI i + nI 2).toNatClampNeg)) (v := (xs (nI i + nI 3).toNatClampNeg)) H
  have f21 : ∀ k, (if gyH S (xs (nI i + nI 1).toNatClampNeg) (xs (nI i + nI 2).toNatClampNeg) (xs (nI i + nI 3).toNatClampNeg) = 0 then puL (cgS S (xs (nI i + nI 1).toNatClampNeg) (xs (nI i + nI 2).toNatClampNeg) (xs (nI i + nI 3).toNatClampNeg)) 33 0 (b2L (cgR S (xs (nI i + nI 1).toNatClampNeg) (xs (nI i + nI 2).toNatClampNeg) (xs (nI i + nI 3).toNatClampNeg))) else S).1 21 k = S.1 21 k := fun k => by
      split
      · rw [puL_1]
        unfold cgS
        split
        · rfl
        · rw [puI_at, if_neg (by omega)]
      · rfl
  iterate 3 refine e_sp rfl rfl rfl ?_
  refine e_ci 1 rfl rfl ?_
  iterate 1 refine e_sp rfl rfl rfl ?_
  refine e_sld rfl (vin9 (k := 1) (by omega) (by omega)) ?_
  iterate 2 refine e_sp rfl rfl rfl ?_
  refine e_ci 2 rfl rfl ?_
  iterate 1 refine e_sp rfl rfl rfl ?_
  refine e_sld rfl (vin9 (k := 2) (by omega) (by omega)) ?_
  iterate 2 refine e_sp rfl rfl rfl ?_
  refine e_ci 3 rfl rfl ?_
  iterate 1 refine e_sp rfl rfl rfl ?_
  refine e_sld rfl (vin9 (k := 3) (by omega) (by omega)) ?_
  iterate 1 refine e_sp rfl rfl rfl ?_
  refine e_callSW cw_Z_grey rfl ll_114 (w_grey hfl) rfl rfl ⟨Nat.le_of_ble_eq_true rfl, Nat.le_of_ble_eq_true rfl⟩ ⟨hc.1, hc.2⟩ (Nat.le_of_ble_eq_true rfl) ?_
  iterate 4 refine e_sp rfl rfl rfl ?_
  refine e_ci 1 rfl rfl ?_
  iterate 1 refine e_sp rfl rfl rfl ?_
  refine e_sld rfl (vin9 (k := 1) (by omega) (by omega)) ?_
  iterate 2 refine e_sp rfl rfl rfl ?_
  refine e_ci 2 rfl rfl ?_
  iterate 1 refine e_sp rfl rfl rfl ?_
  refine e_sld rfl (vin9 (k := 2) (by omega) (by omega)) ?_
  iterate 2 refine e_sp rfl rfl rfl ?_
  refine e_ci 3 rfl rfl ?_
  iterate 1 refine e_sp rfl rfl rfl ?_
  refine e_sld rfl (vin9 (k := 3) (by omega) (by omega)) ?_
  refine e_callV1 ok_M_grey rfl ll_116 (by rfl) (by rfl) (kk_ext (X := [.inr (.long, 1)]) (k_M_grey (c := c9) (r := r9) ((f21 9).trans q4) ((f21 10).trans q5) (by omega) (by omega))) rfl rfl ⟨Nat.le_of_ble_eq_true rfl, Nat.le_of_ble_eq_true rfl⟩ ⟨hc.1, hc.2⟩ (Nat.le_of_ble_eq_true rfl) ?_
  iterate 2 refine e_sp rfl rfl rfl ?_
  refine e_callV1 ok_M_thrown rfl ll_89 (by rfl) (by rfl) (kk_ext (X := [.inr (.long, 1)]) k_M_thrown) rfl rfl ⟨Nat.le_of_ble_eq_true rfl, Nat.le_of_ble_eq_true rfl⟩ ⟨hc.1, hc.2⟩ (Nat.le_of_ble_eq_true rfl) ?_
  iterate 1 refine e_sp rfl rfl rfl ?_
  refine e_iceq rfl (fun _ => ?_) (fun hx => absurd hA.2.1 hx)
  iterate 1 refine e_sp rfl rfl rfl ?_
  refine e_ifne rfl (fun hz => ?_) (fun hz => ?_)
  · refine e_goto rfl ?_
    refine e_inc 7 rfl rfl rfl rfl ?_
    refine e_goto rfl ?_
    try dsimp only [List.set]
    rw [show nI i + 7 = nI (i + 7) from nI_add i 7]
    exact ee_sub od_Z_law ⟨rfl, rfl, rfl, rfl⟩ (IH _ _ _ _ _ hA.1 (Nat.le_refl _) (Nat.le_refl _))
  · iterate 1 refine e_sp rfl rfl rfl ?_
    refine e_ci 0 rfl rfl ?_
    refine e_lald (o := 33) (n := 1) rfl rfl (show vp_in (nI 0) 1 from vp_in_nI (by decide) (by decide)) ?_
    iterate 1 refine e_sp rfl rfl rfl ?_
    refine e_ifeq rfl (fun hy => ?_) (fun hy => ?_)
    · refine e_cl 0 rfl rfl ?_
      iterate 1 refine e_sp rfl rfl rfl ?_
      refine e_ifeq rfl (fun _ => ?_) (fun hx => absurd (cmp_0 ((hA.2.2 hz).trans (b2L_0 hy))) hx)
      refine e_goto rfl ?_
      refine e_inc 7 rfl rfl rfl rfl ?_
      refine e_goto rfl ?_
      try dsimp only [List.set]
      rw [show nI i + 7 = nI (i + 7) from nI_add i 7]
      exact ee_sub od_Z_law ⟨rfl, rfl, rfl, rfl⟩ (IH _ _ _ _ _ hA.1 (Nat.le_refl _) (Nat.le_refl _))
    · refine e_cl 1 rfl rfl ?_
      refine e_goto rfl ?_
      iterate 1 refine e_sp rfl rfl rfl ?_
      refine e_ifeq rfl (fun _ => ?_) (fun hx => absurd (cmp_0 ((hA.2.2 hz).trans (b2L_1 hy))) hx)
      refine e_goto rfl ?_
      refine e_inc 7 rfl rfl rfl rfl ?_
      refine e_goto rfl ?_
      try dsimp only [List.set]
      rw [show nI i + 7 = nI (i + 7) from nI_add i 7]
      exact ee_sub od_Z_law ⟨rfl, rfl, rfl, rfl⟩ (IH _ _ _ _ _ hA.1 (Nat.le_refl _) (Nat.le_refl _))
def m_Zc8 : Mt := (⟨"HalftoneRegionsLaw", "law", "([I)Z"⟩, code, 7, (some .boolean), LI12 ++ (LI13 ++ (LI23)), F_Z)
theorem od_m_Zc8 : okD m_Zc8 := by
  refine ⟨?_, okF_Z⟩
  show (LI12 ++ (LI13 ++ (LI23))).all (cdB code) = true
  simp only [List.all_append, LI12_ok, LI13_ok, LI23_ok, Bool.and_self]
set_option maxHeartbeats 4000000 in
set_option maxRecDepth 40000 in
theorem c_8 {l : Launch} {h w b L i kc ks : Nat} {xs : Nat → Int32} {Z0 : List Frame → Array Value → State → State → Prop} {S : St} {a5 a6 : Option AV} (hfl : l.flags = Jvm.pinnedFlags ++ [Jvm.noTraceFlag]) (hL : L ≤ 3586) (hi : i + 7 ≤ L) (H : Rl h w S S) (hc : kc + 1 ≤ room_1.cells ∧ ks + 6 ≤ room_1.slots) (IH : ∀ (S9 : St) (kc9 ks9 : Nat) (a5 a6 : Option AV), Rl h w S9 S9 → kc9 ≤ kc + 1 → ks9 ≤ ks + 6 → EE l (SHw h) room_1 m_Z_law (zG F9L 0 (SHw h) (zLw b L xs Z0)) kc9 ks9 43 [some (aR 99), some (aR 0), some (aR 21), some (aR 33), some (aI (nI (i + 7))), a5, a6] [] S9) : EE l (SHw h) room_1 m_Zc8 (zG F9L 0 (SHw h) (zLw b L xs Z0)) kc ks 870 [some (aR 99), some (aR 0), some (aR 21), some (aR 33), some (aI (nI i)), a5, a6] [] S := by
  obtain ⟨pw9, ph9, m9, c9, r9, ⟨q1, q2, q3, q4, q5⟩, ⟨t1, t2, t3, t4⟩, ⟨z1, z2, z3, z4, z5⟩, ⟨d1, d2, d3, d4⟩, u1, u2⟩ := fld H
  obtain ⟨qb, db, cb, w1, w2, w3, w3b, w4, w5, w6, w7⟩ := fld2 H
  have hA := s_greyAt (i := (xs (nI i + nI 1).toNatClampNeg)) (j := (xs (nI i + nI 2).toNatClampNeg)) H
  have f21 : ∀ k, (if c1H (haL S (xs (nI i + nI 1).toNatClampNeg) (xs (nI i + nI 2).toNatClampNeg)) = 0 then puL S 33 0 ((grL S (xs (nI i + nI 1).toNatClampNeg) (xs (nI i + nI 2).toNatClampNeg)).toInt64) else S).1 21 k = S.1 21 k := fun k => by split <;> rfl
  iterate 3 refine e_sp rfl rfl rfl ?_
  refine e_ci 1 rfl rfl ?_
  iterate 1 refine e_sp rfl rfl rfl ?_
  refine e_sld rfl (vin9 (k := 1) (by omega) (by omega)) ?_
  iterate 2 refine e_sp rfl rfl rfl ?_
  refine e_ci 2 rfl rfl ?_
  iterate 1 refine e_sp rfl rfl rfl ?_
  refine e_sld rfl (vin9 (k := 2) (by omega) (by omega)) ?_
  iterate 1 refine e_sp rfl rfl rfl ?_
  refine e_callSW cw_Z_greyAt rfl ll_117 (w_greyAt hfl) rfl rfl ⟨Nat.le_of_ble_eq_true rfl, Nat.le_of_ble_eq_true rfl⟩ ⟨hc.1, hc.2⟩ (Nat.le_of_ble_eq_true rfl) ?_
  iterate 4 refine e_sp rfl rfl rfl ?_
  refine e_ci 1 rfl rfl ?_
  iterate 1 refine e_sp rfl rfl rfl ?_
  refine e_sld rfl (vin9 (k := 1) (by omega) (by omega)) ?_
  iterate 2 refine e_sp rfl rfl rfl ?_
  refine e_ci 2 rfl rfl ?_
  iterate 1 refine e_sp rfl rfl rfl ?_
  refine e_sld rfl (vin9 (k := 2) (by omega) (by omega)) ?_
  refine e_callV1 ok_M_greyAt rfl ll_119 (by rfl) (by rfl) (kk_ext (X := [.inr (.long, 1)]) (k_M_greyAt (c := c9) (r := r9) ((f21 9).trans q4) ((f21 10).trans q5) (by omega) (by omega))) rfl rfl ⟨Nat.le_of_ble_eq_true rfl, Nat.le_of_ble_eq_true rfl⟩ ⟨hc.1, hc.2⟩ (Nat.le_of_ble_eq_true rfl) ?_
  iterate 2 refine e_sp rfl rfl rfl ?_
  refine e_callV1 ok_M_thrown rfl ll_89 (by rfl) (by rfl) (kk_ext (X := [.inr (.long, 1)]) k_M_thrown) rfl rfl ⟨Nat.le_of_ble_eq_true rfl, Nat.le_of_ble_eq_true rfl⟩ ⟨hc.1, hc.2⟩ (Nat.le_of_ble_eq_true rfl) ?_
  iterate 1 refine e_sp rfl rfl rfl ?_
  refine e_iceq rfl (fun _ => ?_) (fun hx => absurd hA.2.1 hx)
  iterate 1 refine e_sp rfl rfl rfl ?_
  refine e_ifne rfl (fun hz => ?_) (fun hz => ?_)
  · refine e_goto rfl ?_
    refine e_inc 7 rfl rfl rfl rfl ?_
    refine e_goto rfl ?_
    try dsimp only [List.set]
    rw [show nI i + 7 = nI (i + 7) from nI_add i 7]
    exact ee_sub od_Z_law ⟨rfl, rfl, rfl, rfl⟩ (IH _ _ _ _ _ hA.1 (Nat.le_refl _) (Nat.le_refl _))
  · iterate 1 refine e_sp rfl rfl rfl ?_
    refine e_ci 0 rfl rfl ?_
    refine e_lald (o := 33) (n := 1) rfl rfl (show vp_in (nI 0) 1 from vp_in_nI (by decide) (by decide)) ?_
    iterate 3 refine e_sp rfl rfl rfl ?_
    refine e_ifeq rfl (fun _ => ?_) (fun hx => absurd (cmp_0 (hA.2.2 hz)) hx)
    refine e_goto rfl ?_
    refine e_inc 7 rfl rfl rfl rfl ?_
    refine e_goto rfl ?_
    try dsimp only [List.set]
    rw [show nI i + 7 = nI (i + 7) from nI_add i 7]
    exact ee_sub od_Z_law ⟨rfl, rfl, rfl, rfl⟩ (IH _ _ _ _ _ hA.1 (Nat.le_refl _) (Nat.le_refl _))
def m_Zc9 : Mt := (⟨"HalftoneRegionsLaw", "law", "([I)Z"⟩, code, 7, (some .boolean), LI13 ++ (LI14 ++ (LI23)), F_Z)
theorem od_m_Zc9 : okD m_Zc9 := by
  refine ⟨?_, okF_Z⟩
  show (LI13 ++ (LI14 ++ (LI23))).all (cdB code) = true
  simp only [List.all_append, LI13_ok, LI14_ok, LI23_ok, Bool.and_self]
set_option maxHeartbeats 4000000 in
set_option maxRecDepth 40000 in
theorem c_9 {l : Launch} {h w b L i kc ks : Nat} {xs : Nat → Int32} {Z0 : List Frame → Array Value → State → State → Prop} {S : St} {a5 a6 : Option AV} (hfl : l.flags = Jvm.pinnedFlags ++ [Jvm.noTraceFlag]) (hL : L ≤ 3586) (hi : i + 7 ≤ L) (H : Rl h w S S) (hc : kc + 1 ≤ room_1.cells ∧ ks + 6 ≤ room_1.slots) (IH : ∀ (S9 : St) (kc9 ks9 : Nat) (a5 a6 : Option AV), Rl h w S9 S9 → kc9 ≤ kc + 1 → ks9 ≤ ks + 6 → EE l (SHw h) room_1 m_Z_law (zG F9L 0 (SHw h) (zLw b L xs Z0)) kc9 ks9 43 [some (aR 99), some (aR 0), some (aR 21), some (aR 33), some (aI (nI (i + 7))), a5, a6] [] S9) : EE l (SHw h) room_1 m_Zc9 (zG F9L 0 (SHw h) (zLw b L xs Z0)) kc ks 938 [some (aR 99), some (aR 0), some (aR 21), some (aR 33), some (aI (nI i)), a5, a6] [] S := by
  obtain ⟨pw9, ph9, m9, c9, r9, ⟨q1, q2, q3, q4, q5⟩, ⟨t1, t2, t3, t4⟩, ⟨z1, z2, z3, z4, z5⟩, ⟨d1, d2, d3, d4⟩, u1, u2⟩ := fld H
  obtain ⟨qb, db, cb, w1, w2, w3, w3b, w4, w5, w6, w7⟩ := fld2 H
  have hA := s_way (x := (xs (nI i + nI 1).toNatClampNeg)) (v := (xs (nI i + nI 2).toNatClampNeg)) H
  iterate 3 refine e_sp rfl rfl rfl ?_
  refine e_ci 1 rfl rfl ?_
  iterate 1 refine e_sp rfl rfl rfl ?_
  refine e_sld rfl (vin9 (k := 1) (by omega) (by omega)) ?_
  iterate 2 refine e_sp rfl rfl rfl ?_
  refine e_ci 2 rfl rfl ?_
  iterate 1 refine e_sp rfl rfl rfl ?_
  refine e_sld rfl (vin9 (k := 2) (by omega) (by omega)) ?_
  iterate 1 refine e_sp rfl rfl rfl ?_
  refine e_callSW cw_Z_way rfl ll_120 (w_way hfl) rfl rfl ⟨Nat.le_of_ble_eq_true rfl, Nat.le_of_ble_eq_true rfl⟩ ⟨hc.1, hc.2⟩ (Nat.le_of_ble_eq_true rfl) ?_
  iterate 4 refine e_sp rfl rfl rfl ?_
  refine e_ci 1 rfl rfl ?_
  iterate 1 refine e_sp rfl rfl rfl ?_
  refine e_sld rfl (vin9 (k := 1) (by omega) (by omega)) ?_
  iterate 2 refine e_sp rfl rfl rfl ?_
  refine e_ci 2 rfl rfl ?_
  iterate 1 refine e_sp rfl rfl rfl ?_
  refine e_sld rfl (vin9 (k := 2) (by omega) (by omega)) ?_
  refine e_callV1 ok_M_way rfl ll_122 (by rfl) (by rfl) (kk_ext (X := [.inr (.long, 1)]) k_M_way) rfl rfl ⟨Nat.le_of_ble_eq_true rfl, Nat.le_of_ble_eq_true rfl⟩ ⟨hc.1, hc.2⟩ (Nat.le_of_ble_eq_true rfl) ?_
  iterate 2 refine e_sp rfl rfl rfl ?_
  refine e_callV1 ok_M_thrown rfl ll_89 (by rfl) (by rfl) (kk_ext (X := [.inr (.long, 1)]) k_M_thrown) rfl rfl ⟨Nat.le_of_ble_eq_true rfl, Nat.le_of_ble_eq_true rfl⟩ ⟨hc.1, hc.2⟩ (Nat.le_of_ble_eq_true rfl) ?_
  iterate 1 refine e_sp rfl rfl rfl ?_
  refine e_iceq rfl (fun _ => ?_) (fun hx => absurd hA.2.1 hx)
  iterate 1 refine e_sp rfl rfl rfl ?_
  refine e_ifne rfl (fun hz => ?_) (fun hz => ?_)
  · refine e_goto rfl ?_
    refine e_inc 7 rfl rfl rfl rfl ?_
    refine e_goto rfl ?_
    try dsimp only [List.set]
    rw [show nI i + 7 = nI (i + 7) from nI_add i 7]
    exact ee_sub od_Z_law ⟨rfl, rfl, rfl, rfl⟩ (IH _ _ _ _ _ hA.1 (Nat.le_refl _) (Nat.le_refl _))
  · iterate 1 refine e_sp rfl rfl rfl ?_
    refine e_ci 0 rfl rfl ?_
    refine e_lald (o := 33) (n := 1) rfl rfl (show vp_in (nI 0) 1 from vp_in_nI (by decide) (by decide)) ?_
    iterate 3 refine e_sp rfl rfl rfl ?_
    refine e_ifeq rfl (fun _ => ?_) (fun hx => absurd (cmp_0 (hA.2.2 hz)) hx)
    refine e_goto rfl ?_
    refine e_inc 7 rfl rfl rfl rfl ?_
    refine e_goto rfl ?_
    try dsimp only [List.set]
    rw [show nI i + 7 = nI (i + 7) from nI_add i 7]
    exact ee_sub od_Z_law ⟨rfl, rfl, rfl, rfl⟩ (IH _ _ _ _ _ hA.1 (Nat.le_refl _) (Nat.le_refl _))
def m_Zc10 : Mt := (⟨"HalftoneRegionsLaw", "law", "([I)Z"⟩, code, 7, (some .boolean), LI14 ++ (LI15 ++ (LI16 ++ (LI23))), F_Z)
theorem od_m_Zc10 : okD m_Zc10 := by
  refine ⟨?_, okF_Z⟩
  show (LI14 ++ (LI15 ++ (LI16 ++ (LI23)))).all (cdB code) = true
  simp only [List.all_append, LI14_ok, LI15_ok, LI16_ok, LI23_ok, Bool.and_self]
set_option maxHeartbeats 4000000 in
set_option maxRecDepth 40000 in
theorem c_10 {l : Launch} {h w b L i kc ks : Nat} {xs : Nat → Int32} {Z0 : List Frame → Array Value → State → State → Prop} {S : St} {a5 a6 : Option AV} (hfl : l.flags = Jvm.pinnedFlags ++ [Jvm.noTraceFlag]) (hL : L ≤ 3586) (hi : i + 7 ≤ L) (H : Rl h w S S) (hc : kc + 1 ≤ room_1.cells ∧ ks + 6 ≤ room_1.slots) (IH : ∀ (S9 : St) (kc9 ks9 : Nat) (a5 a6 : Option AV), Rl h w S9 S9 → kc9 ≤ kc + 1 → ks9 ≤ ks + 6 → EE l (SHw h) room_1 m_Z_law (zG F9L 0 (SHw h) (zLw b L xs Z0)) kc9 ks9 43 [some (aR 99), some (aR 0), some (aR 21), some (aR 33), some (aI (nI (i + 7))), a5, a6] [] S9) : EE l (SHw h) room_1 m_Zc10 (zG F9L 0 (SHw h) (zLw b L xs Z0)) kc ks 1006 [some (aR 99), some (aR 0), some (aR 21), some (aR 33), some (aI (nI i)), a5, a6] [] S := by
  obtain ⟨pw9, ph9, m9, c9, r9, ⟨q1, q2, q3, q4, q5⟩, ⟨t1, t2, t3, t4⟩, ⟨z1, z2, z3, z4, z5⟩, ⟨d1, d2, d3, d4⟩, u1, u2⟩ := fld H
  obtain ⟨qb, db, cb, w1, w2, w3, w3b, w4, w5, w6, w7⟩ := fld2 H
  have hA := s_row (y := (xs (nI i + nI 1).toNatClampNeg)) (word := (xs (nI i + nI 2).toNatClampNeg)) H
  have f21 : ∀ k, (if c1H (wi (xs (nI i + nI 1).toNatClampNeg) 0 (S.1 0 1 - 1)) = 0 then puL (clS S 2 h (S.1 1 1) (xs (nI i + nI 1).toNatClampNeg) (xs (nI i + nI 2).toNatClampNeg)) 33 0 ((clR S 2 h (S.1 1 1) (xs (nI i + nI 1).toNatClampNeg) (xs (nI i + nI 2).toNatClampNeg)).toInt64) else S).1 21 k = S.1 21 k := fun k => by
      split
      · rw [puL_1]
        unfold clS
        split
        · rfl
        · rw [puI_at, if_neg (by omega)]
      · rfl
  iterate 3 refine e_sp rfl rfl rfl ?_
  refine e_ci 1 rfl rfl ?_
  iterate 1 refine e_sp rfl rfl rfl ?_
  refine e_sld rfl (vin9 (k := 1) (by omega) (by omega)) ?_
  iterate 2 refine e_sp rfl rfl rfl ?_
  refine e_ci 2 rfl rfl ?_
  iterate 1 refine e_sp rfl rfl rfl ?_
  refine e_sld rfl (vin9 (k := 2) (by omega) (by omega)) ?_
  iterate 1 refine e_sp rfl rfl rfl ?_
  refine e_callSW cw_Z_row rfl ll_123 (w_row hfl (by omega)) rfl rfl ⟨Nat.le_of_ble_eq_true rfl, Nat.le_of_ble_eq_true rfl⟩ ⟨hc.1, hc.2⟩ (Nat.le_of_ble_eq_true rfl) ?_
  iterate 4 refine e_sp rfl rfl rfl ?_
  refine e_ci 1 rfl rfl ?_
  iterate 1 refine e_sp rfl rfl rfl ?_
  refine e_sld rfl (vin9 (k := 1) (by omega) (by omega)) ?_
  iterate 2 refine e_sp rfl rfl rfl ?_
  refine e_ci 2 rfl rfl ?_
  iterate 1 refine e_sp rfl rfl rfl ?_
  refine e_sld rfl (vin9 (k := 2) (by omega) (by omega)) ?_
  refine e_callV1 ok_M_row rfl ll_125 (by rfl) (by rfl) (kk_ext (X := [.inr (.long, 1)]) (k_M_row (w := w) (g := h) ((f21 1).trans d1) ((f21 2).trans d2) d3 d4)) rfl rfl ⟨Nat.le_of_ble_eq_true rfl, Nat.le_of_ble_eq_true rfl⟩ ⟨hc.1, hc.2⟩ (Nat.le_of_ble_eq_true rfl) ?_
  iterate 2 refine e_sp rfl rfl rfl ?_
  refine e_callV1 ok_M_thrown rfl ll_89 (by rfl) (by rfl) (kk_ext (X := [.inr (.long, 1)]) k_M_thrown) rfl rfl ⟨Nat.le_of_ble_eq_true rfl, Nat.le_of_ble_eq_true rfl⟩ ⟨hc.1, hc.2⟩ (Nat.le_of_ble_eq_true rfl) ?_
  iterate 1 refine e_sp rfl rfl rfl ?_
  refine e_iceq rfl (fun _ => ?_) (fun hx => absurd hA.2.1 hx)
  iterate 1 refine e_sp rfl rfl rfl ?_
  refine e_ifne rfl (fun hz => ?_) (fun hz => ?_)
  · refine e_goto rfl ?_
    refine e_inc 7 rfl rfl rfl rfl ?_
    refine e_goto rfl ?_
    try dsimp only [List.set]
    rw [show nI i + 7 = nI (i + 7) from nI_add i 7]
    exact ee_sub od_Z_law ⟨rfl, rfl, rfl, rfl⟩ (IH _ _ _ _ _ hA.1 (Nat.le_refl _) (Nat.le_refl _))
  · iterate 1 refine e_sp rfl rfl rfl ?_
    refine e_ci 0 rfl rfl ?_
    refine e_lald (o := 33) (n := 1) rfl rfl (show vp_in (nI 0) 1 from vp_in_nI (by decide) (by decide)) ?_
    iterate 3 refine e_sp rfl rfl rfl ?_
    refine e_ifeq rfl (fun _ => ?_) (fun hx => absurd (cmp_0 (hA.2.2 hz)) hx)
    refine e_goto rfl ?_
    refine e_inc 7 rfl rfl rfl rfl ?_
    refine e_goto rfl ?_
    try dsimp only [List.set]
    rw [show nI i + 7 = nI (i + 7) from nI_add i 7]
    exact ee_sub od_Z_law ⟨rfl, rfl, rfl, rfl⟩ (IH _ _ _ _ _ hA.1 (Nat.le_refl _) (Nat.le_refl _))
def m_Zc11 : Mt := (⟨"HalftoneRegionsLaw", "law", "([I)Z"⟩, code, 7, (some .boolean), LI16 ++ (LI23), F_Z)
theorem od_m_Zc11 : okD m_Zc11 := by
  refine ⟨?_, okF_Z⟩
  show (LI16 ++ (LI23)).all (cdB code) = true
  simp only [List.all_append, LI16_ok, LI23_ok, Bool.and_self]
set_option maxHeartbeats 4000000 in
set_option maxRecDepth 40000 in
theorem c_11 {l : Launch} {h w b L i kc ks : Nat} {xs : Nat → Int32} {Z0 : List Frame → Array Value → State → State → Prop} {S : St} {a5 a6 : Option AV} (hfl : l.flags = Jvm.pinnedFlags ++ [Jvm.noTraceFlag]) (hL : L ≤ 3586) (hi : i + 7 ≤ L) (H : Rl h w S S) (hc : kc + 1 ≤ room_1.cells ∧ ks + 6 ≤ room_1.slots) (IH : ∀ (S9 : St) (kc9 ks9 : Nat) (a5 a6 : Option AV), Rl h w S9 S9 → kc9 ≤ kc + 1 → ks9 ≤ ks + 6 → EE l (SHw h) room_1 m_Z_law (zG F9L 0 (SHw h) (zLw b L xs Z0)) kc9 ks9 43 [some (aR 99), some (aR 0), some (aR 21), some (aR 33), some (aI (nI (i + 7))), a5, a6] [] S9) : EE l (SHw h) room_1 m_Zc11 (zG F9L 0 (SHw h) (zLw b L xs Z0)) kc ks 1074 [some (aR 99), some (aR 0), some (aR 21), some (aR 33), some (aI (nI i)), a5, a6] [] S := by
  obtain ⟨pw9, ph9, m9, c9, r9, ⟨q1, q2, q3, q4, q5⟩, ⟨t1, t2, t3, t4⟩, ⟨z1, z2, z3, z4, z5⟩, ⟨d1, d2, d3, d4⟩, u1, u2⟩ := fld H
  obtain ⟨qb, db, cb, w1, w2, w3, w3b, w4, w5, w6, w7⟩ := fld2 H
  have hA := s_page H
  iterate 1 refine e_sp rfl rfl rfl ?_
  refine e_callV1 ok_H_page rfl ll_126 (by rfl) (by rfl) (kk_ext (X := [.inr (.long, 1)]) (k_H_page (by omega) t4)) rfl rfl ⟨Nat.le_of_ble_eq_true rfl, Nat.le_of_ble_eq_true rfl⟩ ⟨Nat.le_trans (Nat.le_succ _) hc.1, Nat.le_trans (Nat.le_add_right _ 6) hc.2⟩ (Nat.le_of_ble_eq_true rfl) ?_
  iterate 1 refine e_sp rfl rfl rfl ?_
  refine e_callV1 ok_M_page rfl ll_129 (by rfl) (by rfl) (kk_ext (X := [.inr (.long, 1)]) k_M_page) rfl rfl ⟨Nat.le_of_ble_eq_true rfl, Nat.le_of_ble_eq_true rfl⟩ ⟨Nat.le_trans (Nat.le_succ _) hc.1, Nat.le_trans (Nat.le_add_right _ 6) hc.2⟩ (Nat.le_of_ble_eq_true rfl) ?_
  refine e_iceq rfl (fun _ => ?_) (fun hx => absurd hA.2 hx)
  refine e_inc 7 rfl rfl rfl rfl ?_
  refine e_goto rfl ?_
  try dsimp only [List.set]
  rw [show nI i + 7 = nI (i + 7) from nI_add i 7]
  exact ee_sub od_Z_law ⟨rfl, rfl, rfl, rfl⟩ (IH _ _ _ _ _ hA.1 (Nat.le_succ _) (Nat.le_add_right _ 6))
