def m_Zc12 : Mt := (⟨"HalftoneRegionsLaw", "law", "([I)Z"⟩, code, 7, (some .boolean), LI16 ++ (LI17 ++ (LI23)), F_Z)
theorem od_m_Zc12 : okD m_Zc12 := by
  refine ⟨?_, okF_Z⟩
  show (LI16 ++ (LI17 ++ (LI23))).all (cdB code) = true
  simp only [List.all_append, LI16_ok, LI17_ok, LI23_ok, Bool.and_self]
set_option maxHeartbeats 4000000 in
set_option maxRecDepth 40000 in
theorem c_12 {l : Launch} {h w b L i kc ks : Nat} {xs : Nat → Int32} {Z0 : List Frame → Array Value → State → State → Prop} {S : St} {a5 a6 : Option AV} (hfl : l.flags = Jvm.pinnedFlags ++ [Jvm.noTraceFlag]) (hL : L ≤ 3586) (hi : i + 7 ≤ L) (H : Rl h w S S) (hc : kc + 1 ≤ room_1.cells ∧ ks + 6 ≤ room_1.slots) (IH : ∀ (S9 : St) (kc9 ks9 : Nat) (a5 a6 : Option AV), Rl h w S9 S9 → kc9 ≤ kc + 1 → ks9 ≤ ks + 6 → EE l (SHw h) room_1 m_Z_law (zG F9L 0 (SHw h) (zLw b L xs Z0)) kc9 ks9 43 [some (aR 99), some (aR 0), some (aR 21), some (aR 33), some (aI (nI (i + 7))), a5, a6] [] S9) : EE l (SHw h) room_1 m_Zc12 (zG F9L 0 (SHw h) (zLw b L xs Z0)) kc ks 1087 [some (aR 99), some (aR 0), some (aR 21), some (aR 33), some (aI (nI i)), a5, a6] [] S := by
  obtain ⟨pw9, ph9, m9, c9, r9, ⟨q1, q2, q3, q4, q5⟩, ⟨t1, t2, t3, t4⟩, ⟨z1, z2, z3, z4, z5⟩, ⟨d1, d2, d3, d4⟩, u1, u2⟩ := fld H
  obtain ⟨qb, db, cb, w1, w2, w3, w3b, w4, w5, w6, w7⟩ := fld2 H
  have hA := s_count (i := (xs (nI i + nI 1).toNatClampNeg)) (j := (xs (nI i + nI 2).toNatClampNeg)) H
  have f21 : ∀ k, (if c1H (haL S (xs (nI i + nI 1).toNatClampNeg) (xs (nI i + nI 2).toNatClampNeg)) = 0 then puL S 33 0 ((duH S h (xs (nI i + nI 1).toNatClampNeg) (xs (nI i + nI 2).toNatClampNeg)).toInt64) else S).1 21 k = S.1 21 k := fun k => by split <;> rfl
  iterate 3 refine e_sp rfl rfl rfl ?_
  refine e_ci 1 rfl rfl ?_
  iterate 1 refine e_sp rfl rfl rfl ?_
  refine e_sld rfl (vin9 (k := 1) (by omega) (by omega)) ?_
  iterate 2 refine e_sp rfl rfl rfl ?_
  refine e_ci 2 rfl rfl ?_
  iterate 1 refine e_sp rfl rfl rfl ?_
  refine e_sld rfl (vin9 (k := 2) (by omega) (by omega)) ?_
  iterate 1 refine e_sp rfl rfl rfl ?_
  refine e_callSW cw_Z_count rfl ll_130 (w_count hfl (by omega) t4) rfl rfl ⟨Nat.le_of_ble_eq_true rfl, Nat.le_of_ble_eq_true rfl⟩ ⟨hc.1, hc.2⟩ (Nat.le_of_ble_eq_true rfl) ?_
  iterate 4 refine e_sp rfl rfl rfl ?_
  refine e_ci 1 rfl rfl ?_
  iterate 1 refine e_sp rfl rfl rfl ?_
  refine e_sld rfl (vin9 (k := 1) (by omega) (by omega)) ?_
  iterate 2 refine e_sp rfl rfl rfl ?_
  refine e_ci 2 rfl rfl ?_
  iterate 1 refine e_sp rfl rfl rfl ?_
  refine e_sld rfl (vin9 (k := 2) (by omega) (by omega)) ?_
  refine e_callV1 ok_M_count rfl ll_132 (by rfl) (by rfl) (kk_ext (X := [.inr (.long, 1)]) (k_M_count (w := w) (g := h) ((f21 1).trans d1) ((f21 2).trans d2) d3 d4)) rfl rfl ⟨Nat.le_of_ble_eq_true rfl, Nat.le_of_ble_eq_true rfl⟩ ⟨hc.1, hc.2⟩ (Nat.le_of_ble_eq_true rfl) ?_
  iterate 2 refine e_sp rfl rfl rfl ?_
  refine e_callV1 ok_M_thrown rfl ll_89 (by rfl) (by rfl) (kk_ext (X := [.inr (.long, 1)]) k_M_thrown) rfl rfl ⟨Nat.le_of_ble_eq_true rfl, Nat.le_of_ble_eq_true rfl⟩ ⟨hc.1, hc.2⟩ (Nat.le_of_ble_eq_true rfl) ?_
  iterate 1 refine e_sp rfl rfl rfl ?_
  refine e_iceq rfl (fun _ => ?_) (fun hx => absurd hA.2.1 hx)
  iterate 1 refine e_sp rfl rfl rfl ?_
  refine e_ifne rfl (fun hz => ?_) (fun hz => ?_)
  · refine e_goto rfl ?_
    refine e_inc 7 rfl rfl rfl rfl ?_
    refine e_goto rfl ?_
    try dsimp only [List.set]
    rw [show nI i + 7 = nI (i + 7) from nI_add i 7]
    exact ee_sub od_Z_law ⟨rfl, rfl, rfl, rfl⟩ (IH _ _ _ _ _ hA.1 (Nat.le_refl _) (Nat.le_refl _))
  · iterate 1 refine e_sp rfl rfl rfl ?_
    refine e_ci 0 rfl rfl ?_
    refine e_lald (o := 33) (n := 1) rfl rfl (show vp_in (nI 0) 1 from vp_in_nI (by decide) (by decide)) ?_
    iterate 3 refine e_sp rfl rfl rfl ?_
    refine e_ifeq rfl (fun _ => ?_) (fun hx => absurd (cmp_0 (hA.2.2 hz)) hx)
    refine e_goto rfl ?_
    refine e_inc 7 rfl rfl rfl rfl ?_
    refine e_goto rfl ?_
    try dsimp only [List.set]
    rw [show nI i + 7 = nI (i + 7) from nI_add i 7]
    exact ee_sub od_Z_law ⟨rfl, rfl, rfl, rfl⟩ (IH _ _ _ _ _ hA.1 (Nat.le_refl _) (Nat.le_refl _))
def m_Zc13 : Mt := (⟨"HalftoneRegionsLaw", "law", "([I)Z"⟩, code, 7, (some .boolean), LI17 ++ (LI23), F_Z)
theorem od_m_Zc13 : okD m_Zc13 := by
  refine ⟨?_, okF_Z⟩
  show (LI17 ++ (LI23)).all (cdB code) = true
  simp only [List.all_append, LI17_ok, LI23_ok, Bool.and_self]
set_option maxHeartbeats 4000000 in
set_option maxRecDepth 40000 in
theorem c_13 {l : Launch} {h w b L i kc ks : Nat} {xs : Nat → Int32} {Z0 : List Frame → Array Value → State → State → Prop} {S : St} {a5 a6 : Option AV} (hfl : l.flags = Jvm.pinnedFlags ++ [Jvm.noTraceFlag]) (hL : L ≤ 3586) (hi : i + 7 ≤ L) (H : Rl h w S S) (hc : kc + 1 ≤ room_1.cells ∧ ks + 6 ≤ room_1.slots) (IH : ∀ (S9 : St) (kc9 ks9 : Nat) (a5 a6 : Option AV), Rl h w S9 S9 → kc9 ≤ kc + 1 → ks9 ≤ ks + 6 → EE l (SHw h) room_1 m_Z_law (zG F9L 0 (SHw h) (zLw b L xs Z0)) kc9 ks9 43 [some (aR 99), some (aR 0), some (aR 21), some (aR 33), some (aI (nI (i + 7))), a5, a6] [] S9) : EE l (SHw h) room_1 m_Zc13 (zG F9L 0 (SHw h) (zLw b L xs Z0)) kc ks 1155 [some (aR 99), some (aR 0), some (aR 21), some (aR 33), some (aI (nI i)), a5, a6] [] S := by
  obtain ⟨pw9, ph9, m9, c9, r9, ⟨q1, q2, q3, q4, q5⟩, ⟨t1, t2, t3, t4⟩, ⟨z1, z2, z3, z4, z5⟩, ⟨d1, d2, d3, d4⟩, u1, u2⟩ := fld H
  obtain ⟨qb, db, cb, w1, w2, w3, w3b, w4, w5, w6, w7⟩ := fld2 H
  have hA := s_shade (c := c9) (r := r9) (m := m9) H q3 z3 q4 q5 z4 z5
  have f21 : ∀ k, (shH S h c9 r9 m9).1.1 21 k = S.1 21 k := fun k => sh_fr 21 k (by decide)
  iterate 1 refine e_sp rfl rfl rfl ?_
  refine e_callV1 ok_H_shade rfl ll_133 (by rfl) (by rfl) (kk_ext (X := [.inr (.long, 1)]) (k_H_shade (c := c9) (r := r9) (m := m9) (by omega) t4 t2 t3 (by omega) (by omega) t1 z3)) rfl rfl ⟨Nat.le_of_ble_eq_true rfl, Nat.le_of_ble_eq_true rfl⟩ ⟨Nat.le_trans (Nat.le_succ _) hc.1, Nat.le_trans (Nat.le_add_right _ 6) hc.2⟩ (Nat.le_of_ble_eq_true rfl) ?_
  iterate 1 refine e_sp rfl rfl rfl ?_
  refine e_callV1 ok_M_shade rfl ll_136 (by rfl) (by rfl) (kk_ext (X := [.inr (.long, 1)]) (k_M_shade (c := c9) (r := r9) (m := m9) (w := w) (g := h) (by rw [f21 9]; exact q4) (by rw [f21 10]; exact q5) z4 z5 (by rw [f21 1]; exact d1) (by rw [f21 2]; exact d2) d3 d4 (by rw [f21 7]; exact q3) z3)) rfl rfl ⟨Nat.le_of_ble_eq_true rfl, Nat.le_of_ble_eq_true rfl⟩ ⟨Nat.le_trans (Nat.le_succ _) hc.1, Nat.le_trans (Nat.le_add_right _ 6) hc.2⟩ (Nat.le_of_ble_eq_true rfl) ?_
  refine e_iceq rfl (fun _ => ?_) (fun hx => absurd hA.2.1 hx)
  refine e_inc 7 rfl rfl rfl rfl ?_
  refine e_goto rfl ?_
  try dsimp only [List.set]
  rw [show nI i + 7 = nI (i + 7) from nI_add i 7]
  exact ee_sub od_Z_law ⟨rfl, rfl, rfl, rfl⟩ (IH _ _ _ _ _ hA.1 (Nat.le_succ _) (Nat.le_add_right _ 6))
def m_Zc14 : Mt := (⟨"HalftoneRegionsLaw", "law", "([I)Z"⟩, code, 7, (some .boolean), LI17 ++ (LI23), F_Z)
theorem od_m_Zc14 : okD m_Zc14 := by
  refine ⟨?_, okF_Z⟩
  show (LI17 ++ (LI23)).all (cdB code) = true
  simp only [List.all_append, LI17_ok, LI23_ok, Bool.and_self]
set_option maxHeartbeats 4000000 in
set_option maxRecDepth 40000 in
theorem c_14 {l : Launch} {h w b L i kc ks : Nat} {xs : Nat → Int32} {Z0 : List Frame → Array Value → State → State → Prop} {S : St} {a5 a6 : Option AV} (hfl : l.flags = Jvm.pinnedFlags ++ [Jvm.noTraceFlag]) (hL : L ≤ 3586) (hi : i + 7 ≤ L) (H : Rl h w S S) (hc : kc + 1 ≤ room_1.cells ∧ ks + 6 ≤ room_1.slots) (IH : ∀ (S9 : St) (kc9 ks9 : Nat) (a5 a6 : Option AV), Rl h w S9 S9 → kc9 ≤ kc + 1 → ks9 ≤ ks + 6 → EE l (SHw h) room_1 m_Z_law (zG F9L 0 (SHw h) (zLw b L xs Z0)) kc9 ks9 43 [some (aR 99), some (aR 0), some (aR 21), some (aR 33), some (aI (nI (i + 7))), a5, a6] [] S9) : EE l (SHw h) room_1 m_Zc14 (zG F9L 0 (SHw h) (zLw b L xs Z0)) kc ks 1168 [some (aR 99), some (aR 0), some (aR 21), some (aR 33), some (aI (nI i)), a5, a6] [] S := by
  obtain ⟨pw9, ph9, m9, c9, r9, ⟨q1, q2, q3, q4, q5⟩, ⟨t1, t2, t3, t4⟩, ⟨z1, z2, z3, z4, z5⟩, ⟨d1, d2, d3, d4⟩, u1, u2⟩ := fld H
  obtain ⟨qb, db, cb, w1, w2, w3, w3b, w4, w5, w6, w7⟩ := fld2 H
  have hA := s_compose (pw := pw9) (ph := ph9) (c := c9) (r := r9) H q1 q2 q4 q5 z1 z2 z4 z5
  have f9 : ∀ o k, 21 ≤ o → (cmH (cm0 S h) h c9 r9).1 o k = S.1 o k := cm_fr
  iterate 1 refine e_sp rfl rfl rfl ?_
  refine e_callV1 ok_H_compose rfl ll_137 (by rfl) (by rfl) (kk_ext (X := [.inr (.long, 1)]) (k_H_compose (c := c9) (r := r9) (by omega) t4 t2 t3 (by omega) (by omega))) rfl rfl ⟨Nat.le_of_ble_eq_true rfl, Nat.le_of_ble_eq_true rfl⟩ ⟨Nat.le_trans (Nat.le_succ _) hc.1, Nat.le_trans (Nat.le_add_right _ 6) hc.2⟩ (Nat.le_of_ble_eq_true rfl) ?_
  iterate 1 refine e_sp rfl rfl rfl ?_
  refine e_callV1 ok_M_compose rfl ll_140 (by rfl) (by rfl) (kk_ext (X := [.inr (.long, 1)]) (k_M_compose (c := c9) (r := r9) (w := w) (g := h) (pw := pw9) (ph := ph9) (by rw [f9 21 9 (by decide)]; exact q4) (by rw [f9 21 10 (by decide)]; exact q5) z4 z5 (by rw [f9 21 1 (by decide)]; exact d1) (by rw [f9 21 2 (by decide)]; exact d2) d3 d4 (by rw [f9 21 5 (by decide)]; exact q1) (by rw [f9 21 6 (by decide)]; exact q2) z1 z2 (fun n hn => by rw [f9 25 n (by decide)]; exact u1 n hn) (fun n => by rw [f9 24 n (by decide)]; exact u2 n))) rfl rfl ⟨Nat.le_of_ble_eq_true rfl, Nat.le_of_ble_eq_true rfl⟩ ⟨Nat.le_trans (Nat.le_succ _) hc.1, Nat.le_trans (Nat.le_add_right _ 6) hc.2⟩ (Nat.le_of_ble_eq_true rfl) ?_
  refine e_iceq rfl (fun _ => ?_) (fun hx => absurd hA.2.1 hx)
  refine e_inc 7 rfl rfl rfl rfl ?_
  refine e_goto rfl ?_
  try dsimp only [List.set]
  rw [show nI i + 7 = nI (i + 7) from nI_add i 7]
  exact ee_sub od_Z_law ⟨rfl, rfl, rfl, rfl⟩ (IH _ _ _ _ _ hA.1 (Nat.le_succ _) (Nat.le_add_right _ 6))
def m_Zc15 : Mt := (⟨"HalftoneRegionsLaw", "law", "([I)Z"⟩, code, 7, (some .boolean), LI17 ++ (LI18 ++ (LI23)), F_Z)
theorem od_m_Zc15 : okD m_Zc15 := by
  refine ⟨?_, okF_Z⟩
  show (LI17 ++ (LI18 ++ (LI23))).all (cdB code) = true
  simp only [List.all_append, LI17_ok, LI18_ok, LI23_ok, Bool.and_self]
set_option maxHeartbeats 4000000 in
set_option maxRecDepth 40000 in
theorem c_15 {l : Launch} {h w b L i kc ks : Nat} {xs : Nat → Int32} {Z0 : List Frame → Array Value → State → State → Prop} {S : St} {a5 a6 : Option AV} (hfl : l.flags = Jvm.pinnedFlags ++ [Jvm.noTraceFlag]) (hL : L ≤ 3586) (hi : i + 7 ≤ L) (H : Rl h w S S) (hc : kc + 1 ≤ room_1.cells ∧ ks + 6 ≤ room_1.slots) (IH : ∀ (S9 : St) (kc9 ks9 : Nat) (a5 a6 : Option AV), Rl h w S9 S9 → kc9 ≤ kc + 1 → ks9 ≤ ks + 6 → EE l (SHw h) room_1 m_Z_law (zG F9L 0 (SHw h) (zLw b L xs Z0)) kc9 ks9 43 [some (aR 99), some (aR 0), some (aR 21), some (aR 33), some (aI (nI (i + 7))), a5, a6] [] S9) : EE l (SHw h) room_1 m_Zc15 (zG F9L 0 (SHw h) (zLw b L xs Z0)) kc ks 1181 [some (aR 99), some (aR 0), some (aR 21), some (aR 33), some (aI (nI i)), a5, a6] [] S := by
  obtain ⟨pw9, ph9, m9, c9, r9, ⟨q1, q2, q3, q4, q5⟩, ⟨t1, t2, t3, t4⟩, ⟨z1, z2, z3, z4, z5⟩, ⟨d1, d2, d3, d4⟩, u1, u2⟩ := fld H
  obtain ⟨qb, db, cb, w1, w2, w3, w3b, w4, w5, w6, w7⟩ := fld2 H
  have hA := s_at (x := (xs (nI i + nI 1).toNatClampNeg)) (y := (xs (nI i + nI 2).toNatClampNeg)) H
  have f21 : ∀ k, (if atH S (xs (nI i + nI 1).toNatClampNeg) (xs (nI i + nI 2).toNatClampNeg) = 0 then puL S 33 0 (b2L (if ushr (lnS S 4 h (xs (nI i + nI 2).toNatClampNeg)) (xs (nI i + nI 1).toNatClampNeg) &&& 1 = 1 then 1 else 0)) else S).1 21 k = S.1 21 k := fun k => by split <;> rfl
  iterate 3 refine e_sp rfl rfl rfl ?_
  refine e_ci 1 rfl rfl ?_
  iterate 1 refine e_sp rfl rfl rfl ?_
  refine e_sld rfl (vin9 (k := 1) (by omega) (by omega)) ?_
  iterate 2 refine e_sp rfl rfl rfl ?_
  refine e_ci 2 rfl rfl ?_
  iterate 1 refine e_sp rfl rfl rfl ?_
  refine e_sld rfl (vin9 (k := 2) (by omega) (by omega)) ?_
  iterate 1 refine e_sp rfl rfl rfl ?_
  refine e_callSW cw_Z_at rfl ll_141 (w_at hfl (by omega)) rfl rfl ⟨Nat.le_of_ble_eq_true rfl, Nat.le_of_ble_eq_true rfl⟩ ⟨hc.1, hc.2⟩ (Nat.le_of_ble_eq_true rfl) ?_
  iterate 4 refine e_sp rfl rfl rfl ?_
  refine e_ci 1 rfl rfl ?_
  iterate 1 refine e_sp rfl rfl rfl ?_
  refine e_sld rfl (vin9 (k := 1) (by omega) (by omega)) ?_
  iterate 2 refine e_sp rfl rfl rfl ?_
  refine e_ci 2 rfl rfl ?_
  iterate 1 refine e_sp rfl rfl rfl ?_
  refine e_sld rfl (vin9 (k := 2) (by omega) (by omega)) ?_
  refine e_callV1 ok_M_at rfl ll_143 (by rfl) (by rfl) (kk_ext (X := [.inr (.long, 1)]) (k_M_at (w := w) (g := h) ((f21 1).trans d1) ((f21 2).trans d2) d3 d4)) rfl rfl ⟨Nat.le_of_ble_eq_true rfl, Nat.le_of_ble_eq_true rfl⟩ ⟨hc.1, hc.2⟩ (Nat.le_of_ble_eq_true rfl) ?_
  iterate 2 refine e_sp rfl rfl rfl ?_
  refine e_callV1 ok_M_thrown rfl ll_89 (by rfl) (by rfl) (kk_ext (X := [.inr (.long, 1)]) k_M_thrown) rfl rfl ⟨Nat.le_of_ble_eq_true rfl, Nat.le_of_ble_eq_true rfl⟩ ⟨hc.1, hc.2⟩ (Nat.le_of_ble_eq_true rfl) ?_
  iterate 1 refine e_sp rfl rfl rfl ?_
  refine e_iceq rfl (fun _ => ?_) (fun hx => absurd hA.2.1 hx)
  iterate 1 refine e_sp rfl rfl rfl ?_
  refine e_ifne rfl (fun hz => ?_) (fun hz => ?_)
  · refine e_goto rfl ?_
    refine e_inc 7 rfl rfl rfl rfl ?_
    refine e_goto rfl ?_
    try dsimp only [List.set]
    rw [show nI i + 7 = nI (i + 7) from nI_add i 7]
    exact ee_sub od_Z_law ⟨rfl, rfl, rfl, rfl⟩ (IH _ _ _ _ _ hA.1 (Nat.le_refl _) (Nat.le_refl _))
  · iterate 1 refine e_sp rfl rfl rfl ?_
    refine e_ci 0 rfl rfl ?_
    refine e_lald (o := 33) (n := 1) rfl rfl (show vp_in (nI 0) 1 from vp_in_nI (by decide) (by decide)) ?_
    iterate 1 refine e_sp rfl rfl rfl ?_
    refine e_ifeq rfl (fun hy => ?_) (fun hy => ?_)
    · refine e_cl 0 rfl rfl ?_
      iterate 1 refine e_sp rfl rfl rfl ?_
      refine e_ifeq rfl (fun _ => ?_) (fun hx => absurd (cmp_0 ((hA.2.2 hz).trans (b2L_0 hy))) hx)
      refine e_goto rfl ?_
      refine e_inc 7 rfl rfl rfl rfl ?_
      refine e_goto rfl ?_
      try dsimp only [List.set]
      rw [show nI i + 7 = nI (i + 7) from nI_add i 7]
      exact ee_sub od_Z_law ⟨rfl, rfl, rfl, rfl⟩ (IH _ _ _ _ _ hA.1 (Nat.le_refl _) (Nat.le_refl _))
    · refine e_cl 1 rfl rfl ?_
      refine e_goto rfl ?_
      iterate 1 refine e_sp rfl rfl rfl ?_
      refine e_ifeq rfl (fun _ => ?_) (fun hx => absurd (cmp_0 ((hA.2.2 hz).trans (b2L_1 hy))) hx)
      refine e_goto rfl ?_
      refine e_inc 7 rfl rfl rfl rfl ?_
      refine e_goto rfl ?_
      try dsimp only [List.set]
      rw [show nI i + 7 = nI (i + 7) from nI_add i 7]
      exact ee_sub od_Z_law ⟨rfl, rfl, rfl, rfl⟩ (IH _ _ _ _ _ hA.1 (Nat.le_refl _) (Nat.le_refl _))
def m_Zc16 : Mt := (⟨"HalftoneRegionsLaw", "law", "([I)Z"⟩, code, 7, (some .boolean), LI18 ++ (LI19 ++ (LI23)), F_Z)
theorem od_m_Zc16 : okD m_Zc16 := by
  refine ⟨?_, okF_Z⟩
  show (LI18 ++ (LI19 ++ (LI23))).all (cdB code) = true
  simp only [List.all_append, LI18_ok, LI19_ok, LI23_ok, Bool.and_self]
set_option maxHeartbeats 4000000 in
set_option maxRecDepth 40000 in
theorem c_16 {l : Launch} {h w b L i kc ks : Nat} {xs : Nat → Int32} {Z0 : List Frame → Array Value → State → State → Prop} {S : St} {a5 a6 : Option AV} (hfl : l.flags = Jvm.pinnedFlags ++ [Jvm.noTraceFlag]) (hL : L ≤ 3586) (hi : i + 7 ≤ L) (H : Rl h w S S) (hc : kc + 1 ≤ room_1.cells ∧ ks + 6 ≤ room_1.slots) (IH : ∀ (S9 : St) (kc9 ks9 : Nat) (a5 a6 : Option AV), Rl h w S9 S9 → kc9 ≤ kc + 1 → ks9 ≤ ks + 6 → EE l (SHw h) room_1 m_Z_law (zG F9L 0 (SHw h) (zLw b L xs Z0)) kc9 ks9 43 [some (aR 99), some (aR 0), some (aR 21), some (aR 33), some (aI (nI (i + 7))), a5, a6] [] S9) : EE l (SHw h) room_1 m_Zc16 (zG F9L 0 (SHw h) (zLw b L xs Z0)) kc ks 1256 [some (aR 99), some (aR 0), some (aR 21), some (aR 33), some (aI (nI i)), a5, a6] [] S := by
  obtain ⟨pw9, ph9, m9, c9, r9, ⟨q1, q2, q3, q4, q5⟩, ⟨t1, t2, t3, t4⟩, ⟨z1, z2, z3, z4, z5⟩, ⟨d1, d2, d3, d4⟩, u1, u2⟩ := fld H
  obtain ⟨qb, db, cb, w1, w2, w3, w3b, w4, w5, w6, w7⟩ := fld2 H
  have hcr : c9 * r9 ≤ 256 := Nat.mul_le_mul z4 z5
  have hA := s_encode (c := c9) (r := r9) (m := m9) H q4 q5 q3 z4 z5 z3
  have f9 : ∀ o k, 21 ≤ o → (ecS S c9 r9 m9).1 o k = S.1 o k := ec_fr z4 z5
  iterate 1 refine e_sp rfl rfl rfl ?_
  refine e_callV1 ok_H_encode rfl ll_144 (by rfl) (by rfl) (kk_ext (X := [.inr (.long, 1)]) (k_H_encode (c := c9) (r := r9) (m := m9) t2 t3 (by omega) (by omega) hcr z4 t1 z3)) rfl rfl ⟨Nat.le_of_ble_eq_true rfl, Nat.le_of_ble_eq_true rfl⟩ ⟨Nat.le_trans (Nat.le_succ _) hc.1, Nat.le_trans (Nat.le_add_right _ 6) hc.2⟩ (Nat.le_of_ble_eq_true rfl) ?_
  iterate 1 refine e_sp rfl rfl rfl ?_
  refine e_callV1 ok_M_encode rfl ll_147 (by rfl) (by rfl) (kk_ext (X := [.inr (.long, 1)]) (k_M_encode (c := c9) (r := r9) (m := m9) (by rw [f9 21 9 (by decide)]; exact q4) (by rw [f9 21 10 (by decide)]; exact q5) z4 z5 (by rw [f9 21 7 (by decide)]; exact q3) z3)) rfl rfl ⟨Nat.le_of_ble_eq_true rfl, Nat.le_of_ble_eq_true rfl⟩ ⟨Nat.le_trans (Nat.le_succ _) hc.1, Nat.le_trans (Nat.le_add_right _ 6) hc.2⟩ (Nat.le_of_ble_eq_true rfl) ?_
  refine e_iceq rfl (fun _ => ?_) (fun hx => absurd hA.2.1 hx)
  refine e_inc 7 rfl rfl rfl rfl ?_
  refine e_goto rfl ?_
  try dsimp only [List.set]
  rw [show nI i + 7 = nI (i + 7) from nI_add i 7]
  exact ee_sub od_Z_law ⟨rfl, rfl, rfl, rfl⟩ (IH _ _ _ _ _ hA.1 (Nat.le_succ _) (Nat.le_add_right _ 6))
def m_Zc17 : Mt := (⟨"HalftoneRegionsLaw", "law", "([I)Z"⟩, code, 7, (some .boolean), LI19 ++ (LI23), F_Z)
theorem od_m_Zc17 : okD m_Zc17 := by
  refine ⟨?_, okF_Z⟩
  show (LI19 ++ (LI23)).all (cdB code) = true
  simp only [List.all_append, LI19_ok, LI23_ok, Bool.and_self]
set_option maxHeartbeats 4000000 in
set_option maxRecDepth 40000 in
theorem c_17 {l : Launch} {h w b L i kc ks : Nat} {xs : Nat → Int32} {Z0 : List Frame → Array Value → State → State → Prop} {S : St} {a5 a6 : Option AV} (hfl : l.flags = Jvm.pinnedFlags ++ [Jvm.noTraceFlag]) (hL : L ≤ 3586) (hi : i + 7 ≤ L) (H : Rl h w S S) (hc : kc + 1 ≤ room_1.cells ∧ ks + 6 ≤ room_1.slots) (IH : ∀ (S9 : St) (kc9 ks9 : Nat) (a5 a6 : Option AV), Rl h w S9 S9 → kc9 ≤ kc + 1 → ks9 ≤ ks + 6 → EE l (SHw h) room_1 m_Z_law (zG F9L 0 (SHw h) (zLw b L xs Z0)) kc9 ks9 43 [some (aR 99), some (aR 0), some (aR 21), some (aR 33), some (aI (nI (i + 7))), a5, a6] [] S9) : EE l (SHw h) room_1 m_Zc17 (zG F9L 0 (SHw h) (zLw b L xs Z0)) kc ks 1269 [some (aR 99), some (aR 0), some (aR 21), some (aR 33), some (aI (nI i)), a5, a6] [] S := by
  obtain ⟨pw9, ph9, m9, c9, r9, ⟨q1, q2, q3, q4, q5⟩, ⟨t1, t2, t3, t4⟩, ⟨z1, z2, z3, z4, z5⟩, ⟨d1, d2, d3, d4⟩, u1, u2⟩ := fld H
  obtain ⟨qb, db, cb, w1, w2, w3, w3b, w4, w5, w6, w7⟩ := fld2 H
  have hA := s_byteAt (i := (xs (nI i + nI 1).toNatClampNeg)) H
  have f21 : ∀ k, (if c1H (wi (xs (nI i + nI 1).toNatClampNeg) 0 (szW S - 1)) = 0 then puL S 33 0 ((mdW S (xs (nI i + nI 1).toNatClampNeg)).toInt64) else S).1 21 k = S.1 21 k := fun k => by split <;> rfl
  iterate 3 refine e_sp rfl rfl rfl ?_
  refine e_ci 1 rfl rfl ?_
  iterate 1 refine e_sp rfl rfl rfl ?_
  refine e_sld rfl (vin9 (k := 1) (by omega) (by omega)) ?_
  iterate 1 refine e_sp rfl rfl rfl ?_
  refine e_callSW cw_Z_byteAt rfl ll_148 (w_byteAt hfl) rfl rfl ⟨Nat.le_of_ble_eq_true rfl, Nat.le_of_ble_eq_true rfl⟩ ⟨hc.1, hc.2⟩ (Nat.le_of_ble_eq_true rfl) ?_
  iterate 4 refine e_sp rfl rfl rfl ?_
  refine e_ci 1 rfl rfl ?_
  iterate 1 refine e_sp rfl rfl rfl ?_
  refine e_sld rfl (vin9 (k := 1) (by omega) (by omega)) ?_
  refine e_callV1 ok_M_byteAt rfl ll_150 (by rfl) (by rfl) (kk_ext (X := [.inr (.long, 1)]) (k_M_byteAt (q := qb) (dd := db) ((f21 20).trans w1) w2 ((f21 21).trans w3) (by omega))) rfl rfl ⟨Nat.le_of_ble_eq_true rfl, Nat.le_of_ble_eq_true rfl⟩ ⟨hc.1, hc.2⟩ (Nat.le_of_ble_eq_true rfl) ?_
  iterate 2 refine e_sp rfl rfl rfl ?_
  refine e_callV1 ok_M_thrown rfl ll_89 (by rfl) (by rfl) (kk_ext (X := [.inr (.long, 1)]) k_M_thrown) rfl rfl ⟨Nat.le_of_ble_eq_true rfl, Nat.le_of_ble_eq_true rfl⟩ ⟨hc.1, hc.2⟩ (Nat.le_of_ble_eq_true rfl) ?_
  iterate 1 refine e_sp rfl rfl rfl ?_
  refine e_iceq rfl (fun _ => ?_) (fun hx => absurd hA.2.1 hx)
  iterate 1 refine e_sp rfl rfl rfl ?_
  refine e_ifne rfl (fun hz => ?_) (fun hz => ?_)
  · refine e_goto rfl ?_
    refine e_inc 7 rfl rfl rfl rfl ?_
    refine e_goto rfl ?_
    try dsimp only [List.set]
    rw [show nI i + 7 = nI (i + 7) from nI_add i 7]
    exact ee_sub od_Z_law ⟨rfl, rfl, rfl, rfl⟩ (IH _ _ _ _ _ hA.1 (Nat.le_refl _) (Nat.le_refl _))
  · iterate 1 refine e_sp rfl rfl rfl ?_
    refine e_ci 0 rfl rfl ?_
    refine e_lald (o := 33) (n := 1) rfl rfl (show vp_in (nI 0) 1 from vp_in_nI (by decide) (by decide)) ?_
    iterate 3 refine e_sp rfl rfl rfl ?_
    refine e_ifeq rfl (fun _ => ?_) (fun hx => absurd (cmp_0 (hA.2.2 hz)) hx)
    refine e_goto rfl ?_
    refine e_inc 7 rfl rfl rfl rfl ?_
    refine e_goto rfl ?_
    try dsimp only [List.set]
    rw [show nI i + 7 = nI (i + 7) from nI_add i 7]
    exact ee_sub od_Z_law ⟨rfl, rfl, rfl, rfl⟩ (IH _ _ _ _ _ hA.1 (Nat.le_refl _) (Nat.le_refl _))
