def m_Zc0 : Mt := (⟨"HalftoneRegionsLaw", "law", "([I)Z"⟩, code, 7, (some .boolean), LI0 ++ (LI1 ++ (LI2 ++ (LI23))), F_Z)
theorem od_m_Zc0 : okD m_Zc0 := by
  refine ⟨?_, okF_Z⟩
  show (LI0 ++ (LI1 ++ (LI2 ++ (LI23)))).all (cdB code) = true
  simp only [List.all_append, LI0_ok, LI1_ok, LI2_ok, LI23_ok, Bool.and_self]
set_option maxHeartbeats 4000000 in
set_option maxRecDepth 40000 in
theorem c_0 {l : Launch} {h w b L i kc ks : Nat} {xs : Nat → Int32} {Z0 : List Frame → Array Value → State → State → Prop} {S : St} {a5 a6 : Option AV} (hfl : l.flags = Jvm.pinnedFlags ++ [Jvm.noTraceFlag]) (hL : L ≤ 3586) (hi : i + 7 ≤ L) (H : Rl h w S S) (hc : kc + 1 ≤ room_1.cells ∧ ks + 6 ≤ room_1.slots) (IH : ∀ (S9 : St) (kc9 ks9 : Nat) (a5 a6 : Option AV), Rl h w S9 S9 → kc9 ≤ kc + 1 → ks9 ≤ ks + 6 → EE l (SHw h) room_1 m_Z_law (zG F9L 0 (SHw h) (zLw b L xs Z0)) kc9 ks9 43 [some (aR 99), some (aR 0), some (aR 21), some (aR 33), some (aI (nI (i + 7))), a5, a6] [] S9) : EE l (SHw h) room_1 m_Zc0 (zG F9L 0 (SHw h) (zLw b L xs Z0)) kc ks 172 [some (aR 99), some (aR 0), some (aR 21), some (aR 33), some (aI (nI i)), a5, a6] [] S := by
  obtain ⟨pw9, ph9, m9, c9, r9, ⟨q1, q2, q3, q4, q5⟩, ⟨t1, t2, t3, t4⟩, ⟨z1, z2, z3, z4, z5⟩, ⟨d1, d2, d3, d4⟩, u1, u2⟩ := fld H
  obtain ⟨qb, db, cb, w1, w2, w3, w3b, w4, w5, w6, w7⟩ := fld2 H
  have hA := s_patterns (a := (xs (nI i + nI 1).toNatClampNeg)) (b := (xs (nI i + nI 2).toNatClampNeg)) (c := (xs (nI i + nI 3).toNatClampNeg)) H
  iterate 3 refine e_sp rfl rfl rfl ?_
  refine e_ci 1 rfl rfl ?_
  iterate 1 refine e_sp rfl rfl rfl ?_
  refine e_sld rfl (vin9 (k := 1) (by omega) (by omega)) ?_
  iterate 2 refine e_sp rfl rfl rfl ?_
  refine e_ci 2 rfl rfl ?_
  iterate 1 refine e_sp rfl rfl rfl ?_
  refine e_sld rfl (vin9 (k := 2) (by omega) (by omega)) ?_
  iterate 2 refine e_sp rfl rfl rfl ?_
  refine e_ci 3 rfl rfl ?_
  iterate 1 refine e_sp rfl rfl rfl ?_
  refine e_sld rfl (vin9 (k := 3) (by omega) (by omega)) ?_
  iterate 1 refine e_sp rfl rfl rfl ?_
  refine e_callSW cw_Z_patterns rfl ll_85 (w_patterns hfl) rfl rfl ⟨Nat.le_of_ble_eq_true rfl, Nat.le_of_ble_eq_true rfl⟩ ⟨hc.1, hc.2⟩ (Nat.le_of_ble_eq_true rfl) ?_
  iterate 4 refine e_sp rfl rfl rfl ?_
  refine e_ci 1 rfl rfl ?_
  iterate 1 refine e_sp rfl rfl rfl ?_
  refine e_sld rfl (vin9 (k := 1) (by omega) (by omega)) ?_
  iterate 2 refine e_sp rfl rfl rfl ?_
  refine e_ci 2 rfl rfl ?_
  iterate 1 refine e_sp rfl rfl rfl ?_
  refine e_sld rfl (vin9 (k := 2) (by omega) (by omega)) ?_
  iterate 2 refine e_sp rfl rfl rfl ?_
  refine e_ci 3 rfl rfl ?_
  iterate 1 refine e_sp rfl rfl rfl ?_
  refine e_sld rfl (vin9 (k := 3) (by omega) (by omega)) ?_
  refine e_callV1 ok_M_patterns rfl ll_88 (by rfl) (by rfl) (kk_ext (X := [.inr (.long, 1)]) k_M_patterns) rfl rfl ⟨Nat.le_of_ble_eq_true rfl, Nat.le_of_ble_eq_true rfl⟩ ⟨hc.1, hc.2⟩ (Nat.le_of_ble_eq_true rfl) ?_
  iterate 2 refine e_sp rfl rfl rfl ?_
  refine e_callV1 ok_M_thrown rfl ll_89 (by rfl) (by rfl) (kk_ext (X := [.inr (.long, 1)]) k_M_thrown) rfl rfl ⟨Nat.le_of_ble_eq_true rfl, Nat.le_of_ble_eq_true rfl⟩ ⟨hc.1, hc.2⟩ (Nat.le_of_ble_eq_true rfl) ?_
  iterate 1 refine e_sp rfl rfl rfl ?_
  refine e_iceq rfl (fun _ => ?_) (fun hx => absurd hA.2.1 hx)
  iterate 1 refine e_sp rfl rfl rfl ?_
  refine e_ifne rfl (fun hz => ?_) (fun hz => ?_)
  · refine e_goto rfl ?_
    refine e_inc 7 rfl rfl rfl rfl ?_
    refine e_goto rfl ?_
    try dsimp only [List.set]
    rw [show nI i + 7 = nI (i + 7) from nI_add i 7]
    exact ee_sub od_Z_law ⟨rfl, rfl, rfl, rfl⟩ (IH _ _ _ _ _ hA.1 (Nat.le_refl _) (Nat.le_refl _))
  · iterate 1 refine e_sp rfl rfl rfl ?_
    refine e_ci 0 rfl rfl ?_
    refine e_lald (o := 33) (n := 1) rfl rfl (show vp_in (nI 0) 1 from vp_in_nI (by decide) (by decide)) ?_
    iterate 3 refine e_sp rfl rfl rfl ?_
    refine e_ifeq rfl (fun _ => ?_) (fun hx => absurd (cmp_0 (hA.2.2 hz)) hx)
    refine e_goto rfl ?_
    refine e_inc 7 rfl rfl rfl rfl ?_
    refine e_goto rfl ?_
    try dsimp only [List.set]
    rw [show nI i + 7 = nI (i + 7) from nI_add i 7]
    exact ee_sub od_Z_law ⟨rfl, rfl, rfl, rfl⟩ (IH _ _ _ _ _ hA.1 (Nat.le_refl _) (Nat.le_refl _))
def m_Zc1 : Mt := (⟨"HalftoneRegionsLaw", "law", "([I)Z"⟩, code, 7, (some .boolean), LI2 ++ (LI3 ++ (LI23)), F_Z)
theorem od_m_Zc1 : okD m_Zc1 := by
  refine ⟨?_, okF_Z⟩
  show (LI2 ++ (LI3 ++ (LI23))).all (cdB code) = true
  simp only [List.all_append, LI2_ok, LI3_ok, LI23_ok, Bool.and_self]
set_option maxHeartbeats 4000000 in
set_option maxRecDepth 40000 in
theorem c_1 {l : Launch} {h w b L i kc ks : Nat} {xs : Nat → Int32} {Z0 : List Frame → Array Value → State → State → Prop} {S : St} {a5 a6 : Option AV} (hfl : l.flags = Jvm.pinnedFlags ++ [Jvm.noTraceFlag]) (hL : L ≤ 3586) (hi : i + 7 ≤ L) (H : Rl h w S S) (hc : kc + 1 ≤ room_1.cells ∧ ks + 6 ≤ room_1.slots) (IH : ∀ (S9 : St) (kc9 ks9 : Nat) (a5 a6 : Option AV), Rl h w S9 S9 → kc9 ≤ kc + 1 → ks9 ≤ ks + 6 → EE l (SHw h) room_1 m_Z_law (zG F9L 0 (SHw h) (zLw b L xs Z0)) kc9 ks9 43 [some (aR 99), some (aR 0), some (aR 21), some (aR 33), some (aI (nI (i + 7))), a5, a6] [] S9) : EE l (SHw h) room_1 m_Zc1 (zG F9L 0 (SHw h) (zLw b L xs Z0)) kc ks 252 [some (aR 99), some (aR 0), some (aR 21), some (aR 33), some (aI (nI i)), a5, a6] [] S := by
  obtain ⟨pw9, ph9, m9, c9, r9, ⟨q1, q2, q3, q4, q5⟩, ⟨t1, t2, t3, t4⟩, ⟨z1, z2, z3, z4, z5⟩, ⟨d1, d2, d3, d4⟩, u1, u2⟩ := fld H
  obtain ⟨qb, db, cb, w1, w2, w3, w3b, w4, w5, w6, w7⟩ := fld2 H
  have hA := s_ordered (q := (xs (nI i + nI 1).toNatClampNeg)) H
  iterate 3 refine e_sp rfl rfl rfl ?_
  refine e_ci 1 rfl rfl ?_
  iterate 1 refine e_sp rfl rfl rfl ?_
  refine e_sld rfl (vin9 (k := 1) (by omega) (by omega)) ?_
  iterate 1 refine e_sp rfl rfl rfl ?_
  refine e_callSW cw_Z_ordered rfl ll_92 (w_ordered hfl) rfl rfl ⟨Nat.le_of_ble_eq_true rfl, Nat.le_of_ble_eq_true rfl⟩ ⟨hc.1, hc.2⟩ (Nat.le_of_ble_eq_true rfl) ?_
  iterate 4 refine e_sp rfl rfl rfl ?_
  refine e_ci 1 rfl rfl ?_
  iterate 1 refine e_sp rfl rfl rfl ?_
  refine e_sld rfl (vin9 (k := 1) (by omega) (by omega)) ?_
  refine e_callV1 ok_M_ordered rfl ll_95 (by rfl) (by rfl) (kk_ext (X := [.inr (.long, 1)]) k_M_ordered) rfl rfl ⟨Nat.le_of_ble_eq_true rfl, Nat.le_of_ble_eq_true rfl⟩ ⟨hc.1, hc.2⟩ (Nat.le_of_ble_eq_true rfl) ?_
  iterate 2 refine e_sp rfl rfl rfl ?_
  refine e_callV1 ok_M_thrown rfl ll_89 (by rfl) (by rfl) (kk_ext (X := [.inr (.long, 1)]) k_M_thrown) rfl rfl ⟨Nat.le_of_ble_eq_true rfl, Nat.le_of_ble_eq_true rfl⟩ ⟨hc.1, hc.2⟩ (Nat.le_of_ble_eq_true rfl) ?_
  iterate 1 refine e_sp rfl rfl rfl ?_
  refine e_iceq rfl (fun _ => ?_) (fun hx => absurd hA.2.1 hx)
  iterate 1 refine e_sp rfl rfl rfl ?_
  refine e_ifne rfl (fun hz => ?_) (fun hz => ?_)
  · refine e_goto rfl ?_
    refine e_inc 7 rfl rfl rfl rfl ?_
    refine e_goto rfl ?_
    try dsimp only [List.set]
    rw [show nI i + 7 = nI (i + 7) from nI_add i 7]
    exact ee_sub od_Z_law ⟨rfl, rfl, rfl, rfl⟩ (IH _ _ _ _ _ hA.1 (Nat.le_refl _) (Nat.le_refl _))
  · iterate 1 refine e_sp rfl rfl rfl ?_
    refine e_ci 0 rfl rfl ?_
    refine e_lald (o := 33) (n := 1) rfl rfl (show vp_in (nI 0) 1 from vp_in_nI (by decide) (by decide)) ?_
    iterate 3 refine e_sp rfl rfl rfl ?_
    refine e_ifeq rfl (fun _ => ?_) (fun hx => absurd (cmp_0 (hA.2.2 hz)) hx)
    refine e_goto rfl ?_
    refine e_inc 7 rfl rfl rfl rfl ?_
    refine e_goto rfl ?_
    try dsimp only [List.set]
    rw [show nI i + 7 = nI (i + 7) from nI_add i 7]
    exact ee_sub od_Z_law ⟨rfl, rfl, rfl, rfl⟩ (IH _ _ _ _ _ hA.1 (Nat.le_refl _) (Nat.le_refl _))
def m_Zc2 : Mt := (⟨"HalftoneRegionsLaw", "law", "([I)Z"⟩, code, 7, (some .boolean), LI3 ++ (LI4 ++ (LI5 ++ (LI23))), F_Z)
theorem od_m_Zc2 : okD m_Zc2 := by
  refine ⟨?_, okF_Z⟩
  show (LI3 ++ (LI4 ++ (LI5 ++ (LI23)))).all (cdB code) = true
  simp only [List.all_append, LI3_ok, LI4_ok, LI5_ok, LI23_ok, Bool.and_self]
set_option maxHeartbeats 4000000 in
set_option maxRecDepth 40000 in
theorem c_2 {l : Launch} {h w b L i kc ks : Nat} {xs : Nat → Int32} {Z0 : List Frame → Array Value → State → State → Prop} {S : St} {a5 a6 : Option AV} (hfl : l.flags = Jvm.pinnedFlags ++ [Jvm.noTraceFlag]) (hL : L ≤ 3586) (hi : i + 7 ≤ L) (H : Rl h w S S) (hc : kc + 1 ≤ room_1.cells ∧ ks + 6 ≤ room_1.slots) (IH : ∀ (S9 : St) (kc9 ks9 : Nat) (a5 a6 : Option AV), Rl h w S9 S9 → kc9 ≤ kc + 1 → ks9 ≤ ks + 6 → EE l (SHw h) room_1 m_Z_law (zG F9L 0 (SHw h) (zLw b L xs Z0)) kc9 ks9 43 [some (aR 99), some (aR 0), some (aR 21), some (aR 33), some (aI (nI (i + 7))), a5, a6] [] S9) : EE l (SHw h) room_1 m_Zc2 (zG F9L 0 (SHw h) (zLw b L xs Z0)) kc ks 308 [some (aR 99), some (aR 0), some (aR 21), some (aR 33), some (aI (nI i)), a5, a6] [] S := by
  obtain ⟨pw9, ph9, m9, c9, r9, ⟨q1, q2, q3, q4, q5⟩, ⟨t1, t2, t3, t4⟩, ⟨z1, z2, z3, z4, z5⟩, ⟨d1, d2, d3, d4⟩, u1, u2⟩ := fld H
  obtain ⟨qb, db, cb, w1, w2, w3, w3b, w4, w5, w6, w7⟩ := fld2 H
  iterate 3 refine e_sp rfl rfl rfl ?_
  refine e_ci 1 rfl rfl ?_
  iterate 1 refine e_sp rfl rfl rfl ?_
  refine e_sld rfl (vin9 (k := 1) (by omega) (by omega)) ?_
  iterate 2 refine e_sp rfl rfl rfl ?_
  refine e_ci 2 rfl rfl ?_
  iterate 1 refine e_sp rfl rfl rfl ?_
  refine e_sld rfl (vin9 (k := 2) (by omega) (by omega)) ?_
  iterate 2 refine e_sp rfl rfl rfl ?_
  refine e_ci 3 rfl rfl ?_
  iterate 1 refine e_sp rfl rfl rfl ?_
  refine e_sld rfl (vin9 (k := 3) (by omega) (by omega)) ?_
  iterate 2 refine e_sp rfl rfl rfl ?_
  refine e_ci 4 rfl rfl ?_
  iterate 1 refine e_sp rfl rfl rfl ?_
  refine e_sld rfl (vin9 (k := 4) (by omega) (by omega)) ?_
  refine e_ifeq rfl (fun hb => ?_) (fun hb => ?_)
  · have hA := s_put (p := (xs (nI i + nI 1).toNatClampNeg)) (x := (xs (nI i + nI 2).toNatClampNeg)) (y := (xs (nI i + nI 3).toNatClampNeg)) (b := 0) H (by decide)
    have f21 : ∀ k, (if c1H (hsB S (xs (nI i + nI 1).toNatClampNeg) (xs (nI i + nI 2).toNatClampNeg) (xs (nI i + nI 3).toNatClampNeg)) = 0 then puL (if idB S (xs (nI i + nI 1).toNatClampNeg) (xs (nI i + nI 2).toNatClampNeg) (xs (nI i + nI 3).toNatClampNeg) = 0 then S else tnB S (xs (nI i + nI 1).toNatClampNeg) (xs (nI i + nI 2).toNatClampNeg) (xs (nI i + nI 3).toNatClampNeg)) 33 0 (b2L (if idB S (xs (nI i + nI 1).toNatClampNeg) (xs (nI i + nI 2).toNatClampNeg) (xs (nI i + nI 3).toNatClampNeg) = 0 then 0 else 1)) else S).1 21 k = S.1 21 k := fun k => by
        split
        · rw [puL_1]
          split
          · rfl
          · rw [tn_1]
        · rfl
    refine e_ci 0 rfl rfl ?_
    iterate 1 refine e_sp rfl rfl rfl ?_
    refine e_callSW cw_Z_put rfl ll_96 (w_put hfl) rfl rfl ⟨Nat.le_of_ble_eq_true rfl, Nat.le_of_ble_eq_true rfl⟩ ⟨hc.1, hc.2⟩ (Nat.le_of_ble_eq_true rfl) ?_
    iterate 4 refine e_sp rfl rfl rfl ?_
    refine e_ci 1 rfl rfl ?_
    iterate 1 refine e_sp rfl rfl rfl ?_
    refine e_sld rfl (vin9 (k := 1) (by omega) (by omega)) ?_
    iterate 2 refine e_sp rfl rfl rfl ?_
    refine e_ci 2 rfl rfl ?_
    iterate 1 refine e_sp rfl rfl rfl ?_
    refine e_sld rfl (vin9 (k := 2) (by omega) (by omega)) ?_
    iterate 2 refine e_sp rfl rfl rfl ?_
    refine e_ci 3 rfl rfl ?_
    iterate 1 refine e_sp rfl rfl rfl ?_
    refine e_sld rfl (vin9 (k := 3) (by omega) (by omega)) ?_
    iterate 2 refine e_sp rfl rfl rfl ?_
    refine e_ci 4 rfl rfl ?_
    iterate 1 refine e_sp rfl rfl rfl ?_
    refine e_sld rfl (vin9 (k := 4) (by omega) (by omega)) ?_
    refine e_ifeq rfl (fun _ => ?_) (fun hx => absurd hb hx)
    refine e_ci 0 rfl rfl ?_
    refine e_callV1 ok_M_put rfl ll_99 (by rfl) (by rfl) (kk_ext (X := [.inr (.long, 1)]) (k_M_put (m := m9 + 1) (w := pw9) (g := ph9) ((f21 7).trans q3) ((f21 5).trans q1) ((f21 6).trans q2) (by omega) (by omega) (by omega))) rfl rfl ⟨Nat.le_of_ble_eq_true rfl, Nat.le_of_ble_eq_true rfl⟩ ⟨hc.1, hc.2⟩ (Nat.le_of_ble_eq_true rfl) ?_
    iterate 2 refine e_sp rfl rfl rfl ?_
    refine e_callV1 ok_M_thrown rfl ll_89 (by rfl) (by rfl) (kk_ext (X := [.inr (.long, 1)]) k_M_thrown) rfl rfl ⟨Nat.le_of_ble_eq_true rfl, Nat.le_of_ble_eq_true rfl⟩ ⟨hc.1, hc.2⟩ (Nat.le_of_ble_eq_true rfl) ?_
    iterate 1 refine e_sp rfl rfl rfl ?_
    refine e_iceq rfl (fun _ => ?_) (fun hx => absurd hA.2.1 hx)
    iterate 1 refine e_sp rfl rfl rfl ?_
    refine e_ifne rfl (fun hz => ?_) (fun hz => ?_)
    · refine e_goto rfl ?_
      refine e_inc 7 rfl rfl rfl rfl ?_
      refine e_goto rfl ?_
      try dsimp only [List.set]
      rw [show nI i + 7 = nI (i + 7) from nI_add i 7]
      exact ee_sub od_Z_law ⟨rfl, rfl, rfl, rfl⟩ (IH _ _ _ _ _ hA.1 (Nat.le_refl _) (Nat.le_refl _))
    · iterate 1 refine e_sp rfl rfl rfl ?_
      refine e_ci 0 rfl rfl ?_
      refine e_lald (o := 33) (n := 1) rfl rfl (show vp_in (nI 0) 1 from vp_in_nI (by decide) (by decide)) ?_
      iterate 1 refine e_sp rfl rfl rfl ?_
      refine e_ifeq rfl (fun hy => ?_) (fun hy => ?_)
      · refine e_cl 0 rfl rfl ?_
        iterate 1 refine e_sp rfl rfl rfl ?_
        refine e_ifeq rfl (fun _ => ?_) (fun hx => absurd (cmp_0 ((hA.2.2 hz).trans (b2L_0 hy))) hx)
        refine e_goto rfl ?_
        refine e_inc 7 rfl rfl rfl rfl ?_
        refine e_goto rfl ?_
        try dsimp only [List.set]
        rw [show nI i + 7 = nI (i + 7) from nI_add i 7]
        exact ee_sub od_Z_law ⟨rfl, rfl, rfl, rfl⟩ (IH _ _ _ _ _ hA.1 (Nat.le_refl _) (Nat.le_refl _))
      · refine e_cl 1 rfl rfl ?_
        refine e_goto rfl ?_
        iterate 1 refine e_sp rfl rfl rfl ?_
        refine e_ifeq rfl (fun _ => ?_) (fun hx => absurd (cmp_0 ((hA.2.2 hz).trans (b2L_1 hy))) hx)
        refine e_goto rfl ?_
        refine e_inc 7 rfl rfl rfl rfl ?_
        refine e_goto rfl ?_
        try dsimp only [List.set]
        rw [show nI i + 7 = nI (i + 7) from nI_add i 7]
        exact ee_sub od_Z_law ⟨rfl, rfl, rfl, rfl⟩ (IH _ _ _ _ _ hA.1 (Nat.le_refl _) (Nat.le_refl _))
  · have hA := s_put (p := (xs (nI i + nI 1).toNatClampNeg)) (x := (xs (nI i + nI 2).toNatClampNeg)) (y := (xs (nI i + nI 3).toNatClampNeg)) (b := 1) H (by decide)
    have f21 : ∀ k, (if c1H (hsB S (xs (nI i + nI 1).toNatClampNeg) (xs (nI i + nI 2).toNatClampNeg) (xs (nI i + nI 3).toNatClampNeg)) = 0 then puL (if idB S (xs (nI i + nI 1).toNatClampNeg) (xs (nI i + nI 2).toNatClampNeg) (xs (nI i + nI 3).toNatClampNeg) = 1 then S else tnB S (xs (nI i + nI 1).toNatClampNeg) (xs (nI i + nI 2).toNatClampNeg) (xs (nI i + nI 3).toNatClampNeg)) 33 0 (b2L (if idB S (xs (nI i + nI 1).toNatClampNeg) (xs (nI i + nI 2).toNatClampNeg) (xs (nI i + nI 3).toNatClampNeg) = 1 then 0 else 1)) else S).1 21 k = S.1 21 k := fun k => by
        split
        · rw [puL_1]
          split
          · rfl
          · rw [tn_1]
        · rfl
    refine e_ci 1 rfl rfl ?_
    refine e_goto rfl ?_
    iterate 1 refine e_sp rfl rfl rfl ?_
    refine e_callSW cw_Z_put rfl ll_96 (w_put hfl) rfl rfl ⟨Nat.le_of_ble_eq_true rfl, Nat.le_of_ble_eq_true rfl⟩ ⟨hc.1, hc.2⟩ (Nat.le_of_ble_eq_true rfl) ?_
    iterate 4 refine e_sp rfl rfl rfl ?_
    refine e_ci 1 rfl rfl ?_
    iterate 1 refine e_sp rfl rfl rfl ?_
    refine e_sld rfl (vin9 (k := 1) (by omega) (by omega)) ?_
    iterate 2 refine e_sp rfl rfl rfl ?_
    refine e_ci 2 rfl rfl ?_
    iterate 1 refine e_sp rfl rfl rfl ?_
    refine e_sld rfl (vin9 (k := 2) (by omega) (by omega)) ?_
    iterate 2 refine e_sp rfl rfl rfl ?_
    refine e_ci 3 rfl rfl ?_
    iterate 1 refine e_sp rfl rfl rfl ?_
    refine e_sld rfl (vin9 (k := 3) (by omega) (by omega)) ?_
    iterate 2 refine e_sp rfl rfl rfl ?_
    refine e_ci 4 rfl rfl ?_
    iterate 1 refine e_sp rfl rfl rfl ?_
    refine e_sld rfl (vin9 (k := 4) (by omega) (by omega)) ?_
    refine e_ifeq rfl (fun hx => absurd hx hb) (fun _ => ?_)
    refine e_ci 1 rfl rfl ?_
    refine e_goto rfl ?_
    refine e_callV1 ok_M_put rfl ll_99 (by rfl) (by rfl) (kk_ext (X := [.inr (.long, 1)]) (k_M_put (m := m9 + 1) (w := pw9) (g := ph9) ((f21 7).trans q3) ((f21 5).trans q1) ((f21 6).trans q2) (by omega) (by omega) (by omega))) rfl rfl ⟨Nat.le_of_ble_eq_true rfl, Nat.le_of_ble_eq_true rfl⟩ ⟨hc.1, hc.2⟩ (Nat.le_of_ble_eq_true rfl) ?_
    iterate 2 refine e_sp rfl rfl rfl ?_
    refine e_callV1 ok_M_thrown rfl ll_89 (by rfl) (by rfl) (kk_ext (X := [.inr (.long, 1)]) k_M_thrown) rfl rfl ⟨Nat.le_of_ble_eq_true rfl, Nat.le_of_ble_eq_true rfl⟩ ⟨hc.1, hc.2⟩ (Nat.le_of_ble_eq_true rfl) ?_
    iterate 1 refine e_sp rfl rfl rfl ?_
    refine e_iceq rfl (fun _ => ?_) (fun hx => absurd hA.2.1 hx)
    iterate 1 refine e_sp rfl rfl rfl ?_
    refine e_ifne rfl (fun hz => ?_) (fun hz => ?_)
    · refine e_goto rfl ?_
      refine e_inc 7 rfl rfl rfl rfl ?_
      refine e_goto rfl ?_
      try dsimp only [List.set]
      rw [show nI i + 7 = nI (i + 7) from nI_add i 7]
      exact ee_sub od_Z_law ⟨rfl, rfl, rfl, rfl⟩ (IH _ _ _ _ _ hA.1 (Nat.le_refl _) (Nat.le_refl _))
    · iterate 1 refine e_sp rfl rfl rfl ?_
      refine e_ci 0 rfl rfl ?_
      refine e_lald (o := 33) (n := 1) rfl rfl (show vp_in (nI 0) 1 from vp_in_nI (by decide) (by decide)) ?_
      iterate 1 refine e_sp rfl rfl rfl ?_
      refine e_ifeq rfl (fun hy => ?_) (fun hy => ?_)
      · refine e_cl 0 rfl rfl ?_
        iterate 1 refine e_sp rfl rfl rfl ?_
        refine e_ifeq rfl (fun _ => ?_) (fun hx => absurd (cmp_0 ((hA.2.2 hz).trans (b2L_0 hy))) hx)
        refine e_goto rfl ?_
        refine e_inc 7 rfl rfl rfl rfl ?_
        refine e_goto rfl ?_
        try dsimp only [List.set]
        rw [show nI i + 7 = nI (i + 7) from nI_add i 7]
        exact ee_sub od_Z_law ⟨rfl, rfl, rfl, rfl⟩ (IH _ _ _ _ _ hA.1 (Nat.le_refl _) (Nat.le_refl _))
      · refine e_cl 1 rfl rfl ?_
        refine e_goto rfl ?_
        iterate 1 refine e_sp rfl rfl rfl ?_
        refine e_ifeq rfl (fun _ => ?_) (fun hx => absurd (cmp_0 ((hA.2.2 hz).trans (b2L_1 hy))) hx)
        refine e_goto rfl ?_
        refine e_inc 7 rfl rfl rfl rfl ?_
        refine e_goto rfl ?_
        try dsimp only [List.set]
        rw [show nI i + 7 = nI (i + 7) from nI_add i 7]
        exact ee_sub od_Z_law ⟨rfl, rfl, rfl, rfl⟩ (IH _ _ _ _ _ hA.1 (Nat.le_refl _) (Nat.le_refl _))
def m_Zc3 : Mt := (⟨"HalftoneRegionsLaw", "law", "([I)Z"⟩, code, 7, (some .boolean), LI5 ++ (LI6 ++ (LI23)), F_Z)
theorem od_m_Zc3 : okD m_Zc3 := by
  refine ⟨?_, okF_Z⟩
  show (LI5 ++ (LI6 ++ (LI23))).all (cdB code) = true
  simp only [List.all_append, LI5_ok, LI6_ok, LI23_ok, Bool.and_self]
set_option maxHeartbeats 4000000 in
set_option maxRecDepth 40000 in
theorem c_3 {l : Launch} {h w b L i kc ks : Nat} {xs : Nat → Int32} {Z0 : List Frame → Array Value → State → State → Prop} {S : St} {a5 a6 : Option AV} (hfl : l.flags = Jvm.pinnedFlags ++ [Jvm.noTraceFlag]) (hL : L ≤ 3586) (hi : i + 7 ≤ L) (H : Rl h w S S) (hc : kc + 1 ≤ room_1.cells ∧ ks + 6 ≤ room_1.slots) (IH : ∀ (S9 : St) (kc9 ks9 : Nat) (a5 a6 : Option AV), Rl h w S9 S9 → kc9 ≤ kc + 1 → ks9 ≤ ks + 6 → EE l (SHw h) room_1 m_Z_law (zG F9L 0 (SHw h) (zLw b L xs Z0)) kc9 ks9 43 [some (aR 99), some (aR 0), some (aR 21), some (aR 33), some (aI (nI (i + 7))), a5, a6] [] S9) : EE l (SHw h) room_1 m_Zc3 (zG F9L 0 (SHw h) (zLw b L xs Z0)) kc ks 423 [some (aR 99), some (aR 0), some (aR 21), some (aR 33), some (aI (nI i)), a5, a6] [] S := by
  obtain ⟨pw9, ph9, m9, c9, r9, ⟨q1, q2, q3, q4, q5⟩, ⟨t1, t2, t3, t4⟩, ⟨z1, z2, z3, z4, z5⟩, ⟨d1, d2, d3, d4⟩, u1, u2⟩ := fld H
  obtain ⟨qb, db, cb, w1, w2, w3, w3b, w4, w5, w6, w7⟩ := fld2 H
  have hA := s_cell (p := (xs (nI i + nI 1).toNatClampNeg)) (x := (xs (nI i + nI 2).toNatClampNeg)) (y := (xs (nI i + nI 3).toNatClampNeg)) H
  have f21 : ∀ k, (if c1H (hsB S (xs (nI i + nI 1).toNatClampNeg) (xs (nI i + nI 2).toNatClampNeg) (xs (nI i + nI 3).toNatClampNeg)) = 0 then puL S 33 0 (b2L (idB S (xs (nI i + nI 1).toNatClampNeg) (xs (nI i + nI 2).toNatClampNeg) (xs (nI i + nI 3).toNatClampNeg))) else S).1 21 k = S.1 21 k := fun k => by split <;> rfl
  iterate 3 refine e_sp rfl rfl rfl ?_
  refine e_ci 1 rfl rfl ?_
  iterate 1 refine e_sp rfl rfl rfl ?_
  refine e_sld rfl (vin9 (k := 1) (by omega) (by omega)) ?_
  iterate 2 refine e_sp rfl rfl rfl ?_
  refine e_ci 2 rfl rfl ?_
  iterate 1 refine e_sp rfl rfl rfl ?_
  refine e_sld rfl (vin9 (k := 2) (by omega) (by omega)) ?_
  iterate 2 refine e_sp rfl rfl rfl ?_
  refine e_ci 3 rfl rfl ?_
  iterate 1 refine e_sp rfl rfl rfl ?_
  refine e_sld rfl (vin9 (k := 3) (by omega) (by omega)) ?_
  iterate 1 refine e_sp rfl rfl rfl ?_
  refine e_callSW cw_Z_cell1 rfl ll_100 (w_cell1 hfl) rfl rfl ⟨Nat.le_of_ble_eq_true rfl, Nat.le_of_ble_eq_true rfl⟩ ⟨hc.1, hc.2⟩ (Nat.le_of_ble_eq_true rfl) ?_
  iterate 4 refine e_sp rfl rfl rfl ?_
  refine e_ci 1 rfl rfl ?_
  iterate 1 refine e_sp rfl rfl rfl ?_
  refine e_sld rfl (vin9 (k := 1) (by omega) (by omega)) ?_
  iterate 2 refine e_sp rfl rfl rfl ?_
  refine e_ci 2 rfl rfl ?_
  iterate 1 refine e_sp rfl rfl rfl ?_
  refine e_sld rfl (vin9 (k := 2) (by omega) (by omega)) ?_
  iterate 2 refine e_sp rfl rfl rfl ?_
  refine e_ci 3 rfl rfl ?_
  iterate 1 refine e_sp rfl rfl rfl ?_
  refine e_sld rfl (vin9 (k := 3) (by omega) (by omega)) ?_
  refine e_callV1 ok_M_cell rfl ll_102 (by rfl) (by rfl) (kk_ext (X := [.inr (.long, 1)]) (k_M_cell (m := m9 + 1) (w := pw9) (g := ph9) ((f21 7).trans q3) ((f21 5).trans q1) ((f21 6).trans q2) (by omega) (by omega) (by omega))) rfl rfl ⟨Nat.le_of_ble_eq_true rfl, Nat.le_of_ble_eq_true rfl⟩ ⟨hc.1, hc.2⟩ (Nat.le_of_ble_eq_true rfl) ?_
  iterate 2 refine e_sp rfl rfl rfl ?_
  refine e_callV1 ok_M_thrown rfl ll_89 (by rfl) (by rfl) (kk_ext (X := [.inr (.long, 1)]) k_M_thrown) rfl rfl ⟨Nat.le_of_ble_eq_true rfl, Nat.le_of_ble_eq_true rfl⟩ ⟨hc.1, hc.2⟩ (Nat.le_of_ble_eq_true rfl) ?_
  iterate 1 refine e_sp rfl rfl rfl ?_
  refine e_iceq rfl (fun _ => ?_) (fun hx => absurd hA.2.1 hx)
  iterate 1 refine e_sp rfl rfl rfl ?_
  refine e_ifne rfl (fun hz => ?_) (fun hz => ?_)
  · refine e_goto rfl ?_
    refine e_inc 7 rfl rfl rfl rfl ?_
    refine e_goto rfl ?_
    try dsimp only [List.set]
    rw [show nI i + 7 = nI (i + 7) from nI_add i 7]
    exact ee_sub od_Z_law ⟨rfl, rfl, rfl, rfl⟩ (IH _ _ _ _ _ hA.1 (Nat.le_refl _) (Nat.le_refl _))
  · iterate 1 refine e_sp rfl rfl rfl ?_
    refine e_ci 0 rfl rfl ?_
    refine e_lald (o := 33) (n := 1) rfl rfl (show vp_in (nI 0) 1 from vp_in_nI (by decide) (by decide)) ?_
    iterate 1 refine e_sp rfl rfl rfl ?_
    refine e_ifeq rfl (fun hy => ?_) (fun hy => ?_)
    · refine e_cl 0 rfl rfl ?_
      iterate 1 refine e_sp rfl rfl rfl ?_
      refine e_ifeq rfl (fun _ => ?_) (fun hx => absurd (cmp_0 ((hA.2.2 hz).trans (b2L_0 hy))) hx)
      refine e_goto rfl ?_
      refine e_inc 7 rfl rfl rfl rfl ?_
      refine e_goto rfl ?_
      try dsimp only [List.set]
      rw [show nI i + 7 = nI (i + 7) from nI_add i 7]
      exact ee_sub od_Z_law ⟨rfl, rfl, rfl, rfl⟩ (IH _ _ _ _ _ hA.1 (Nat.le_refl _) (Nat.le_refl _))
    · refine e_cl 1 rfl rfl ?_
      refine e_goto rfl ?_
      iterate 1 refine e_sp rfl rfl rfl ?_
      refine e_ifeq rfl (fun _ => ?_) (fun hx => absurd (cmp_0 ((hA.2.2 hz).trans (b2L_1 hy))) hx)
      refine e_goto rfl ?_
      refine e_inc 7 rfl rfl rfl rfl ?_
      refine e_goto rfl ?_
      try dsimp only [List.set]
      rw [show nI i + 7 = nI (i + 7) from nI_add i 7]
      exact ee_sub od_Z_law ⟨rfl, rfl, rfl, rfl⟩ (IH _ _ _ _ _ hA.1 (Nat.le_refl _) (Nat.le_refl _))
def m_Zc4 : Mt := (⟨"HalftoneRegionsLaw", "law", "([I)Z"⟩, code, 7, (some .boolean), LI6 ++ (LI7 ++ (LI8 ++ (LI23))), F_Z)
theorem od_m_Zc4 : okD m_Zc4 := by
  refine ⟨?_, okF_Z⟩
  show (LI6 ++ (LI7 ++ (LI8 ++ (LI23)))).all (cdB code) = true
  simp only [List.all_append, LI6_ok, LI7_ok, LI8_ok, LI23_ok, Bool.and_self]
set_option maxHeartbeats 4000000 in
set_option maxRecDepth 40000 in
theorem c_4 {l : Launch} {h w b L i kc ks : Nat} {xs : Nat → Int32} {Z0 : List Frame → Array Value → State → State → Prop} {S : St} {a5 a6 : Option AV} (hfl : l.flags = Jvm.pinnedFlags ++ [Jvm.noTraceFlag]) (hL : L ≤ 3586) (hi : i + 7 ≤ L) (H : Rl h w S S) (hc : kc + 1 ≤ room_1.cells ∧ ks + 6 ≤ room_1.slots) (IH : ∀ (S9 : St) (kc9 ks9 : Nat) (a5 a6 : Option AV), Rl h w S9 S9 → kc9 ≤ kc + 1 → ks9 ≤ ks + 6 → EE l (SHw h) room_1 m_Z_law (zG F9L 0 (SHw h) (zLw b L xs Z0)) kc9 ks9 43 [some (aR 99), some (aR 0), some (aR 21), some (aR 33), some (aI (nI (i + 7))), a5, a6] [] S9) : EE l (SHw h) room_1 m_Zc4 (zG F9L 0 (SHw h) (zLw b L xs Z0)) kc ks 510 [some (aR 99), some (aR 0), some (aR 21), some (aR 33), some (aI (nI i)), a5, a6] [] S := by
  obtain ⟨pw9, ph9, m9, c9, r9, ⟨q1, q2, q3, q4, q5⟩, ⟨t1, t2, t3, t4⟩, ⟨z1, z2, z3, z4, z5⟩, ⟨d1, d2, d3, d4⟩, u1, u2⟩ := fld H
  obtain ⟨qb, db, cb, w1, w2, w3, w3b, w4, w5, w6, w7⟩ := fld2 H
  have hA := s_grid (c := (xs (nI i + nI 1).toNatClampNeg)) (r := (xs (nI i + nI 2).toNatClampNeg)) (x := (xs (nI i + nI 3).toNatClampNeg)) (y := (xs (nI i + nI 4).toNatClampNeg)) (a := (xs (nI i + nI 5).toNatClampNeg)) (b := (xs (nI i + nI 6).toNatClampNeg)) H
  iterate 3 refine e_sp rfl rfl rfl ?_
  refine e_ci 1 rfl rfl ?_
  iterate 1 refine e_sp rfl rfl rfl ?_
  refine e_sld rfl (vin9 (k := 1) (by omega) (by omega)) ?_
  iterate 2 refine e_sp rfl rfl rfl ?_
  refine e_ci 2 rfl rfl ?_
  iterate 1 refine e_sp rfl rfl rfl ?_
  refine e_sld rfl (vin9 (k := 2) (by omega) (by omega)) ?_
  iterate 2 refine e_sp rfl rfl rfl ?_
  refine e_ci 3 rfl rfl ?_
  iterate 1 refine e_sp rfl rfl rfl ?_
  refine e_sld rfl (vin9 (k := 3) (by omega) (by omega)) ?_
  iterate 2 refine e_sp rfl rfl rfl ?_
  refine e_ci 4 rfl rfl ?_
  iterate 1 refine e_sp rfl rfl rfl ?_
  refine e_sld rfl (vin9 (k := 4) (by omega) (by omega)) ?_
  iterate 2 refine e_sp rfl rfl rfl ?_
  refine e_ci 5 rfl rfl ?_
  iterate 1 refine e_sp rfl rfl rfl ?_
  refine e_sld rfl (vin9 (k := 5) (by omega) (by omega)) ?_
  iterate 2 refine e_sp rfl rfl rfl ?_
  refine e_cb 6 rfl rfl ?_
  iterate 1 refine e_sp rfl rfl rfl ?_
  refine e_sld rfl (vin9 (k := 6) (by omega) (by omega)) ?_
  iterate 1 refine e_sp rfl rfl rfl ?_
  refine e_callSW cw_Z_grid rfl ll_103 (w_grid hfl) rfl rfl ⟨Nat.le_of_ble_eq_true rfl, Nat.le_of_ble_eq_true rfl⟩ ⟨hc.1, hc.2⟩ (Nat.le_of_ble_eq_true rfl) ?_
  iterate 4 refine e_sp rfl rfl rfl ?_
  refine e_ci 1 rfl rfl ?_
  iterate 1 refine e_sp rfl rfl rfl ?_
  refine e_sld rfl (vin9 (k := 1) (by omega) (by omega)) ?_
  iterate 2 refine e_sp rfl rfl rfl ?_
  refine e_ci 2 rfl rfl ?_
  iterate 1 refine e_sp rfl rfl rfl ?_
  refine e_sld rfl (vin9 (k := 2) (by omega) (by omega)) ?_
  iterate 2 refine e_sp rfl rfl rfl ?_
  refine e_ci 3 rfl rfl ?_
  iterate 1 refine e_sp rfl rfl rfl ?_
  refine e_sld rfl (vin9 (k := 3) (by omega) (by omega)) ?_
  iterate 2 refine e_sp rfl rfl rfl ?_
  refine e_ci 4 rfl rfl ?_
  iterate 1 refine e_sp rfl rfl rfl ?_
  refine e_sld rfl (vin9 (k := 4) (by omega) (by omega)) ?_
  iterate 2 refine e_sp rfl rfl rfl ?_
  refine e_ci 5 rfl rfl ?_
  iterate 1 refine e_sp rfl rfl rfl ?_
  refine e_sld rfl (vin9 (k := 5) (by omega) (by omega)) ?_
  iterate 2 refine e_sp rfl rfl rfl ?_
  refine e_cb 6 rfl rfl ?_
  iterate 1 refine e_sp rfl rfl rfl ?_
  refine e_sld rfl (vin9 (k := 6) (by omega) (by omega)) ?_
  refine e_callV1 ok_M_grid rfl ll_106 (by rfl) (by rfl) (kk_ext (X := [.inr (.long, 1)]) k_M_grid) rfl rfl ⟨Nat.le_of_ble_eq_true rfl, Nat.le_of_ble_eq_true rfl⟩ ⟨hc.1, hc.2⟩ (Nat.le_of_ble_eq_true rfl) ?_
  iterate 2 refine e_sp rfl rfl rfl ?_
  refine e_callV1 ok_M_thrown rfl ll_89 (by rfl) (by rfl) (kk_ext (X := [.inr (.long, 1)]) k_M_thrown) rfl rfl ⟨Nat.le_of_ble_eq_true rfl, Nat.le_of_ble_eq_true rfl⟩ ⟨hc.1, hc.2⟩ (Nat.le_of_ble_eq_true rfl) ?_
  iterate 1 refine e_sp rfl rfl rfl ?_
  refine e_iceq rfl (fun _ => ?_) (fun hx => absurd hA.2.1 hx)
  iterate 1 refine e_sp rfl rfl rfl ?_
  refine e_ifne rfl (fun hz => ?_) (fun hz => ?_)
  · refine e_goto rfl ?_
    refine e_inc 7 rfl rfl rfl rfl ?_
    refine e_goto rfl ?_
    try dsimp only [List.set]
    rw [show nI i + 7 = nI (i + 7) from nI_add i 7]
    exact ee_sub od_Z_law ⟨rfl, rfl, rfl, rfl⟩ (IH _ _ _ _ _ hA.1 (Nat.le_refl _) (Nat.le_refl _))
  · iterate 1 refine e_sp rfl rfl rfl ?_
    refine e_ci 0 rfl rfl ?_
    refine e_lald (o := 33) (n := 1) rfl rfl (show vp_in (nI 0) 1 from vp_in_nI (by decide) (by decide)) ?_
    iterate 3 refine e_sp rfl rfl rfl ?_
    refine e_ifeq rfl (fun _ => ?_) (fun hx => absurd (cmp_0 (hA.2.2 hz)) hx)
    refine e_goto rfl ?_
    refine e_inc 7 rfl rfl rfl rfl ?_
    refine e_goto rfl ?_
    try dsimp only [List.set]
    rw [show nI i + 7 = nI (i + 7) from nI_add i 7]
    exact ee_sub od_Z_law ⟨rfl, rfl, rfl, rfl⟩ (IH _ _ _ _ _ hA.1 (Nat.le_refl _) (Nat.le_refl _))
def m_Zc5 : Mt := (⟨"HalftoneRegionsLaw", "law", "([I)Z"⟩, code, 7, (some .boolean), LI8 ++ (LI9 ++ (LI10 ++ (LI23))), F_Z)
theorem od_m_Zc5 : okD m_Zc5 := by
  refine ⟨?_, okF_Z⟩
  show (LI8 ++ (LI9 ++ (LI10 ++ (LI23)))).all (cdB code) = true
  simp only [List.all_append, LI8_ok, LI9_ok, LI10_ok, LI23_ok, Bool.and_self]
set_option maxHeartbeats 4000000 in
set_option maxRecDepth 40000 in
theorem c_5 {l : Launch} {h w b L i kc ks : Nat} {xs : Nat → Int32} {Z0 : List Frame → Array Value → State → State → Prop} {S : St} {a5 a6 : Option AV} (hfl : l.flags = Jvm.pinnedFlags ++ [Jvm.noTraceFlag]) (hL : L ≤ 3586) (hi : i + 7 ≤ L) (H : Rl h w S S) (hc : kc + 1 ≤ room_1.cells ∧ ks + 6 ≤ room_1.slots) (IH : ∀ (S9 : St) (kc9 ks9 : Nat) (a5 a6 : Option AV), Rl h w S9 S9 → kc9 ≤ kc + 1 → ks9 ≤ ks + 6 → EE l (SHw h) room_1 m_Z_law (zG F9L 0 (SHw h) (zLw b L xs Z0)) kc9 ks9 43 [some (aR 99), some (aR 0), some (aR 21), some (aR 33), some (aI (nI (i + 7))), a5, a6] [] S9) : EE l (SHw h) room_1 m_Zc5 (zG F9L 0 (SHw h) (zLw b L xs Z0)) kc ks 628 [some (aR 99), some (aR 0), some (aR 21), some (aR 33), some (aI (nI i)), a5, a6] [] S := by
  obtain ⟨pw9, ph9, m9, c9, r9, ⟨q1, q2, q3, q4, q5⟩, ⟨t1, t2, t3, t4⟩, ⟨z1, z2, z3, z4, z5⟩, ⟨d1, d2, d3, d4⟩, u1, u2⟩ := fld H
  obtain ⟨qb, db, cb, w1, w2, w3, w3b, w4, w5, w6, w7⟩ := fld2 H
  have hA := s_where (i := (xs (nI i + nI 1).toNatClampNeg)) (j := (xs (nI i + nI 2).toNatClampNeg)) (a := (xs (nI i + nI 3).toNatClampNeg)) H
  iterate 3 refine e_sp rfl rfl rfl ?_
  refine e_ci 1 rfl rfl ?_
  iterate 1 refine e_sp rfl rfl rfl ?_
  refine e_sld rfl (vin9 (k := 1) (by omega) (by omega)) ?_
  iterate 2 refine e_sp rfl rfl rfl ?_
  refine e_ci 2 rfl rfl ?_
  iterate 1 refine e_sp rfl rfl rfl ?_
  refine e_sld rfl (vin9 (k := 2) (by omega) (by omega)) ?_
  iterate 2 refine e_sp rfl rfl rfl ?_
  refine e_ci 3 rfl rfl ?_
  iterate 1 refine e_sp rfl rfl rfl ?_
  refine e_sld rfl (vin9 (k := 3) (by omega) (by omega)) ?_
  iterate 1 refine e_sp rfl rfl rfl ?_
  refine e_callSW cw_Z_where rfl ll_107 (w_where hfl) rfl rfl ⟨Nat.le_of_ble_eq_true rfl, Nat.le_of_ble_eq_true rfl⟩ ⟨hc.1, hc.2⟩ (Nat.le_of_ble_eq_true rfl) ?_
  iterate 4 refine e_sp rfl rfl rfl ?_
  refine e_ci 1 rfl rfl ?_
  iterate 1 refine e_sp rfl rfl rfl ?_
  refine e_sld rfl (vin9 (k := 1) (by omega) (by omega)) ?_
  iterate 2 refine e_sp rfl rfl rfl ?_
  refine e_ci 2 rfl rfl ?_
  iterate 1 refine e_sp rfl rfl rfl ?_
  refine e_sld rfl (vin9 (k := 2) (by omega) (by omega)) ?_
  iterate 2 refine e_sp rfl rfl rfl ?_
  refine e_ci 3 rfl rfl ?_
  iterate 1 refine e_sp rfl rfl rfl ?_
  refine e_sld rfl (vin9 (k := 3) (by omega) (by omega)) ?_
  refine e_callV1 ok_M_where rfl ll_109 (by rfl) (by rfl) (kk_ext (X := [.inr (.long, 1)]) k_M_where) rfl rfl ⟨Nat.le_of_ble_eq_true rfl, Nat.le_of_ble_eq_true rfl⟩ ⟨hc.1, hc.2⟩ (Nat.le_of_ble_eq_true rfl) ?_
  iterate 2 refine e_sp rfl rfl rfl ?_
  refine e_callV1 ok_M_thrown rfl ll_89 (by rfl) (by rfl) (kk_ext (X := [.inr (.long, 1)]) k_M_thrown) rfl rfl ⟨Nat.le_of_ble_eq_true rfl, Nat.le_of_ble_eq_true rfl⟩ ⟨hc.1, hc.2⟩ (Nat.le_of_ble_eq_true rfl) ?_
  iterate 1 refine e_sp rfl rfl rfl ?_
  refine e_iceq rfl (fun _ => ?_) (fun hx => absurd hA.2.1 hx)
  iterate 1 refine e_sp rfl rfl rfl ?_
  refine e_ifne rfl (fun hz => ?_) (fun hz => ?_)
  · refine e_goto rfl ?_
    refine e_inc 7 rfl rfl rfl rfl ?_
    refine e_goto rfl ?_
    try dsimp only [List.set]
    rw [show nI i + 7 = nI (i + 7) from nI_add i 7]
    exact ee_sub od_Z_law ⟨rfl, rfl, rfl, rfl⟩ (IH _ _ _ _ _ hA.1 (Nat.le_refl _) (Nat.le_refl _))
  · iterate 1 refine e_sp rfl rfl rfl ?_
    refine e_ci 0 rfl rfl ?_
    refine e_lald (o := 33) (n := 1) rfl rfl (show vp_in (nI 0) 1 from vp_in_nI (by decide) (by decide)) ?_
    iterate 3 refine e_sp rfl rfl rfl ?_
    refine e_ifeq rfl (fun _ => ?_) (fun hx => absurd (cmp_0 (hA.2.2 hz)) hx)
    refine e_goto rfl ?_
    refine e_inc 7 rfl rfl rfl rfl ?_
    refine e_goto rfl ?_
    try dsimp only [List.set]
    rw [show nI i + 7 = nI (i + 7) from nI_add i 7]
    exact ee_sub od_Z_law ⟨rfl, rfl, rfl, rfl⟩ (IH _ _ _ _ _ hA.1 (Nat.le_refl _) (Nat.le_refl _))
