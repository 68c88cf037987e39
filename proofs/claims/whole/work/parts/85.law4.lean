theorem e_out0 {l : Launch} {B : List Sh} {R : Room} {y : Mt} {Zf : ZF} {kc ks pc t : Nat} {lv : List (Option AV)} {st : List AV} {S : St} {v : Int64} (hd : cAt y.2.2.2.2.1 pc = some (.laload, 1, t)) (hB : B[33]? = some (.inr (.long, 1))) (hv : S.2 33 0 = v) (k : EE l B R y Zf kc ks (pc + 1) lv (aL v :: st) S) : EE l B R y Zf kc ks pc lv (aI 0 :: aR 33 :: st) S := by
  subst hv
  exact e_lald (o := 33) (n := 1) hd hB (show vp_in (nI 0) 1 from vp_in_nI (by decide) (by decide)) k
def m_Zc18 : Mt := (⟨"HalftoneRegionsLaw", "law", "([I)Z"⟩, code, 7, (some .boolean), LI19 ++ (LI20 ++ (LI23)), F_Z)
theorem od_m_Zc18 : okD m_Zc18 := by
  refine ⟨?_, okF_Z⟩
  show (LI19 ++ (LI20 ++ (LI23))).all (cdB code) = true
  simp only [List.all_append, LI19_ok, LI20_ok, LI23_ok, Bool.and_self]
set_option maxHeartbeats 4000000 in
set_option maxRecDepth 40000 in
theorem c_18 {l : Launch} {h w b L i kc ks : Nat} {xs : Nat → Int32} {Z0 : List Frame → Array Value → State → State → Prop} {S : St} {a5 a6 : Option AV} (hfl : l.flags = Jvm.pinnedFlags ++ [Jvm.noTraceFlag]) (hL : L ≤ 3586) (hi : i + 7 ≤ L) (H : Rl h w S S) (hc : kc + 1 ≤ room_1.cells ∧ ks + 6 ≤ room_1.slots) (IH : ∀ (S9 : St) (kc9 ks9 : Nat) (a5 a6 : Option AV), Rl h w S9 S9 → kc9 ≤ kc + 1 → ks9 ≤ ks + 6 → EE l (SHw h) room_1 m_Z_law (zG F9L 0 (SHw h) (zLw b L xs Z0)) kc9 ks9 43 [some (aR 99), some (aR 0), some (aR 21), some (aR 33), some (aI (nI (i + 7))), a5, a6] [] S9) : EE l (SHw h) room_1 m_Zc18 (zG F9L 0 (SHw h) (zLw b L xs Z0)) kc ks 1325 [some (aR 99), some (aR 0), some (aR 21), some (aR 33), some (aI (nI i)), a5, a6] [] S := by
  obtain ⟨pw9, ph9, m9, c9, r9, ⟨q1, q2, q3, q4, q5⟩, ⟨t1, t2, t3, t4⟩, ⟨z1, z2, z3, z4, z5⟩, ⟨d1, d2, d3, d4⟩, u1, u2⟩ := fld H
  obtain ⟨qb, db, cb, w1, w2, w3, w3b, w4, w5, w6, w7⟩ := fld2 H
  have hA := s_feed (b := (xs (nI i + nI 1).toNatClampNeg)) H
  have f21 : ∀ k, (if fdH S (xs (nI i + nI 1).toNatClampNeg) = 0 then puL (tkR S (xs (nI i + nI 1).toNatClampNeg)) 33 0 (((tkR S (xs (nI i + nI 1).toNatClampNeg)).1 17 2).toInt64) else S).1 21 k = S.1 21 k := fun k => by
      split
      · rw [puL_1]
        unfold tkR
        split
        · rfl
        · rw [puI_at, if_neg (by omega), puI_at, if_neg (by omega)]
      · rfl
  iterate 3 refine e_sp rfl rfl rfl ?_
  refine e_ci 1 rfl rfl ?_
  iterate 1 refine e_sp rfl rfl rfl ?_
  refine e_sld rfl (vin9 (k := 1) (by omega) (by omega)) ?_
  iterate 1 refine e_sp rfl rfl rfl ?_
  refine e_callSW cw_Z_feed rfl ll_151 (w_feed hfl) rfl rfl ⟨Nat.le_of_ble_eq_true rfl, Nat.le_of_ble_eq_true rfl⟩ ⟨hc.1, hc.2⟩ (Nat.le_of_ble_eq_true rfl) ?_
  iterate 4 refine e_sp rfl rfl rfl ?_
  refine e_ci 1 rfl rfl ?_
  iterate 1 refine e_sp rfl rfl rfl ?_
  refine e_sld rfl (vin9 (k := 1) (by omega) (by omega)) ?_
  refine e_callV1 ok_M_feed rfl ll_153 (by rfl) (by rfl) (kk_ext (X := [.inr (.long, 1)]) (k_M_feed (n := cb) ((f21 23).trans w5) w6)) rfl rfl ⟨Nat.le_of_ble_eq_true rfl, Nat.le_of_ble_eq_true rfl⟩ ⟨hc.1, hc.2⟩ (Nat.le_of_ble_eq_true rfl) ?_
  iterate 2 refine e_sp rfl rfl rfl ?_
  refine e_callV1 ok_M_thrown rfl ll_89 (by rfl) (by rfl) (kk_ext (X := [.inr (.long, 1)]) k_M_thrown) rfl rfl ⟨Nat.le_of_ble_eq_true rfl, Nat.le_of_ble_eq_true rfl⟩ ⟨hc.1, hc.2⟩ (Nat.le_of_ble_eq_true rfl) ?_
  iterate 1 refine e_sp rfl rfl rfl ?_
  refine e_iceq rfl (fun _ => ?_) (fun hx => absurd hA.2.1 hx)
  iterate 1 refine e_sp rfl rfl rfl ?_
  refine e_ifne rfl (fun hz => ?_) (fun hz => ?_)
  · refine e_goto rfl ?_
    refine e_inc 7 rfl rfl rfl rfl ?_
    refine e_goto rfl ?_
    try dsimp only [List.set]
    rw [show nI i + 7 = nI (i + 7) from nI_add i 7]
    exact ee_sub od_Z_law ⟨rfl, rfl, rfl, rfl⟩ (IH _ _ _ _ _ hA.1 (Nat.le_refl _) (Nat.le_refl _))
  · iterate 1 refine e_sp rfl rfl rfl ?_
    refine e_ci 0 rfl rfl ?_
    refine e_lald (o := 33) (n := 1) rfl rfl (show vp_in (nI 0) 1 from vp_in_nI (by decide) (by decide)) ?_
    iterate 3 refine e_sp rfl rfl rfl ?_
    refine e_ifeq rfl (fun _ => ?_) (fun hx => absurd (cmp_0 (hA.2.2 hz)) hx)
    refine e_goto rfl ?_
    refine e_inc 7 rfl rfl rfl rfl ?_
    refine e_goto rfl ?_
    try dsimp only [List.set]
    rw [show nI i + 7 = nI (i + 7) from nI_add i 7]
    exact ee_sub od_Z_law ⟨rfl, rfl, rfl, rfl⟩ (IH _ _ _ _ _ hA.1 (Nat.le_refl _) (Nat.le_refl _))
def m_Zc19 : Mt := (⟨"HalftoneRegionsLaw", "law", "([I)Z"⟩, code, 7, (some .boolean), LI20 ++ (LI21 ++ (LI23)), F_Z)
theorem od_m_Zc19 : okD m_Zc19 := by
  refine ⟨?_, okF_Z⟩
  show (LI20 ++ (LI21 ++ (LI23))).all (cdB code) = true
  simp only [List.all_append, LI20_ok, LI21_ok, LI23_ok, Bool.and_self]
set_option maxHeartbeats 4000000 in
set_option maxRecDepth 40000 in
theorem c_19 {l : Launch} {h w b L i kc ks : Nat} {xs : Nat → Int32} {Z0 : List Frame → Array Value → State → State → Prop} {S : St} {a5 a6 : Option AV} (hfl : l.flags = Jvm.pinnedFlags ++ [Jvm.noTraceFlag]) (hL : L ≤ 3586) (hi : i + 7 ≤ L) (H : Rl h w S S) (hc : kc + 1 ≤ room_1.cells ∧ ks + 6 ≤ room_1.slots) (IH : ∀ (S9 : St) (kc9 ks9 : Nat) (a5 a6 : Option AV), Rl h w S9 S9 → kc9 ≤ kc + 1 → ks9 ≤ ks + 6 → EE l (SHw h) room_1 m_Z_law (zG F9L 0 (SHw h) (zLw b L xs Z0)) kc9 ks9 43 [some (aR 99), some (aR 0), some (aR 21), some (aR 33), some (aI (nI (i + 7))), a5, a6] [] S9) : EE l (SHw h) room_1 m_Zc19 (zG F9L 0 (SHw h) (zLw b L xs Z0)) kc ks 1381 [some (aR 99), some (aR 0), some (aR 21), some (aR 33), some (aI (nI i)), a5, a6] [] S := by
  obtain ⟨pw9, ph9, m9, c9, r9, ⟨q1, q2, q3, q4, q5⟩, ⟨t1, t2, t3, t4⟩, ⟨z1, z2, z3, z4, z5⟩, ⟨d1, d2, d3, d4⟩, u1, u2⟩ := fld H
  obtain ⟨qb, db, cb, w1, w2, w3, w3b, w4, w5, w6, w7⟩ := fld2 H
  have hA := s_pass (n := db) H w4 w3b
  have f21 : ∀ k, (if c1H (hrR S (szW S)) = 0 then puL (ppS S db) 33 0 (((ppS S db).1 17 2).toInt64) else S).1 21 k = S.1 21 k := fun k => by
      split
      · rw [puL_1]
        exact pp_21 db k
      · rfl
  iterate 2 refine e_sp rfl rfl rfl ?_
  refine e_callSW cw_Z_pass rfl ll_154 (w_pass hfl w4 (by omega)) rfl rfl ⟨Nat.le_of_ble_eq_true rfl, Nat.le_of_ble_eq_true rfl⟩ ⟨hc.1, hc.2⟩ (Nat.le_of_ble_eq_true rfl) ?_
  iterate 2 refine e_sp rfl rfl rfl ?_
  refine e_callV1 ok_M_pass rfl ll_157 (by rfl) (by rfl) (kk_ext (X := [.inr (.long, 1)]) (k_M_pass (q := qb) (dd := db) (cc := cb) ((f21 20).trans w1) w2 ((f21 21).trans w3) (by omega) ((f21 23).trans w5) w6)) rfl rfl ⟨Nat.le_of_ble_eq_true rfl, Nat.le_of_ble_eq_true rfl⟩ ⟨hc.1, hc.2⟩ (Nat.le_of_ble_eq_true rfl) ?_
  iterate 2 refine e_sp rfl rfl rfl ?_
  refine e_callV1 ok_M_thrown rfl ll_89 (by rfl) (by rfl) (kk_ext (X := [.inr (.long, 1)]) k_M_thrown) rfl rfl ⟨Nat.le_of_ble_eq_true rfl, Nat.le_of_ble_eq_true rfl⟩ ⟨hc.1, hc.2⟩ (Nat.le_of_ble_eq_true rfl) ?_
  iterate 1 refine e_sp rfl rfl rfl ?_
  refine e_iceq rfl (fun _ => ?_) (fun hx => absurd hA.2.1 hx)
  iterate 1 refine e_sp rfl rfl rfl ?_
  refine e_ifne rfl (fun hz => ?_) (fun hz => ?_)
  · refine e_goto rfl ?_
    refine e_inc 7 rfl rfl rfl rfl ?_
    refine e_goto rfl ?_
    try dsimp only [List.set]
    rw [show nI i + 7 = nI (i + 7) from nI_add i 7]
    exact ee_sub od_Z_law ⟨rfl, rfl, rfl, rfl⟩ (IH _ _ _ _ _ hA.1 (Nat.le_refl _) (Nat.le_refl _))
  · iterate 1 refine e_sp rfl rfl rfl ?_
    refine e_ci 0 rfl rfl ?_
    refine e_out0 rfl rfl (hA.2.2 hz) ?_
    iterate 3 refine e_sp rfl rfl rfl ?_
    refine e_ifeq rfl (fun _ => ?_) (fun hx => absurd (cmp_0 rfl) hx)
    refine e_goto rfl ?_
    refine e_inc 7 rfl rfl rfl rfl ?_
    refine e_goto rfl ?_
    try dsimp only [List.set]
    rw [show nI i + 7 = nI (i + 7) from nI_add i 7]
    exact ee_sub od_Z_law ⟨rfl, rfl, rfl, rfl⟩ (IH _ _ _ _ _ hA.1 (Nat.le_refl _) (Nat.le_refl _))
def m_Zc20 : Mt := (⟨"HalftoneRegionsLaw", "law", "([I)Z"⟩, code, 7, (some .boolean), LI21 ++ (LI23), F_Z)
theorem od_m_Zc20 : okD m_Zc20 := by
  refine ⟨?_, okF_Z⟩
  show (LI21 ++ (LI23)).all (cdB code) = true
  simp only [List.all_append, LI21_ok, LI23_ok, Bool.and_self]
set_option maxHeartbeats 4000000 in
set_option maxRecDepth 40000 in
theorem c_20 {l : Launch} {h w b L i kc ks : Nat} {xs : Nat → Int32} {Z0 : List Frame → Array Value → State → State → Prop} {S : St} {a5 a6 : Option AV} (hfl : l.flags = Jvm.pinnedFlags ++ [Jvm.noTraceFlag]) (hL : L ≤ 3586) (hi : i + 7 ≤ L) (H : Rl h w S S) (hc : kc + 1 ≤ room_1.cells ∧ ks + 6 ≤ room_1.slots) (IH : ∀ (S9 : St) (kc9 ks9 : Nat) (a5 a6 : Option AV), Rl h w S9 S9 → kc9 ≤ kc + 1 → ks9 ≤ ks + 6 → EE l (SHw h) room_1 m_Z_law (zG F9L 0 (SHw h) (zLw b L xs Z0)) kc9 ks9 43 [some (aR 99), some (aR 0), some (aR 21), some (aR 33), some (aI (nI (i + 7))), a5, a6] [] S9) : EE l (SHw h) room_1 m_Zc20 (zG F9L 0 (SHw h) (zLw b L xs Z0)) kc ks 1425 [some (aR 99), some (aR 0), some (aR 21), some (aR 33), some (aI (nI i)), a5, a6] [] S := by
  obtain ⟨pw9, ph9, m9, c9, r9, ⟨q1, q2, q3, q4, q5⟩, ⟨t1, t2, t3, t4⟩, ⟨z1, z2, z3, z4, z5⟩, ⟨d1, d2, d3, d4⟩, u1, u2⟩ := fld H
  obtain ⟨qb, db, cb, w1, w2, w3, w3b, w4, w5, w6, w7⟩ := fld2 H
  have hA := s_decode (c := c9) (r := r9) (m := m9) H q4 q5 q3 z4 z5 z3
  have f9 : ∀ o k, 21 ≤ o → (dcS (dcX S c9 r9 m9) c9 r9).1 o k = S.1 o k := fun o k ho => fa_dc.1 o k (by omega)
  iterate 1 refine e_sp rfl rfl rfl ?_
  refine e_callV1 ok_H_decode rfl ll_158 (by rfl) (by rfl) (kk_ext (X := [.inr (.long, 1)]) (k_H_decode (c := c9) (r := r9) (m := m9) (cm := cb) t2 t3 (by omega) (by omega) t1 z3 w7 w6)) rfl rfl ⟨Nat.le_of_ble_eq_true rfl, Nat.le_of_ble_eq_true rfl⟩ ⟨Nat.le_trans (Nat.le_succ _) hc.1, Nat.le_trans (Nat.le_add_right _ 6) hc.2⟩ (Nat.le_of_ble_eq_true rfl) ?_
  iterate 1 refine e_sp rfl rfl rfl ?_
  refine e_callV1 ok_M_decode rfl ll_161 (by rfl) (by rfl) (kk_ext (X := [.inr (.long, 1)]) (k_M_decode (c := c9) (r := r9) (m := m9) (cm := cb) (by rw [f9 21 9 (by decide)]; exact q4) (by rw [f9 21 10 (by decide)]; exact q5) z4 z5 (by rw [f9 21 7 (by decide)]; exact q3) z3 (by rw [f9 21 23 (by decide)]; exact w5) w6)) rfl rfl ⟨Nat.le_of_ble_eq_true rfl, Nat.le_of_ble_eq_true rfl⟩ ⟨Nat.le_trans (Nat.le_succ _) hc.1, Nat.le_trans (Nat.le_add_right _ 6) hc.2⟩ (Nat.le_of_ble_eq_true rfl) ?_
  refine e_iceq rfl (fun _ => ?_) (fun hx => absurd hA.2.1 hx)
  refine e_inc 7 rfl rfl rfl rfl ?_
  refine e_goto rfl ?_
  try dsimp only [List.set]
  rw [show nI i + 7 = nI (i + 7) from nI_add i 7]
  exact ee_sub od_Z_law ⟨rfl, rfl, rfl, rfl⟩ (IH _ _ _ _ _ hA.1 (Nat.le_succ _) (Nat.le_add_right _ 6))
def m_Zc21 : Mt := (⟨"HalftoneRegionsLaw", "law", "([I)Z"⟩, code, 7, (some .boolean), LI21 ++ (LI22 ++ (LI23)), F_Z)
theorem od_m_Zc21 : okD m_Zc21 := by
  refine ⟨?_, okF_Z⟩
  show (LI21 ++ (LI22 ++ (LI23))).all (cdB code) = true
  simp only [List.all_append, LI21_ok, LI22_ok, LI23_ok, Bool.and_self]
set_option maxHeartbeats 4000000 in
set_option maxRecDepth 40000 in
theorem c_21 {l : Launch} {h w b L i kc ks : Nat} {xs : Nat → Int32} {Z0 : List Frame → Array Value → State → State → Prop} {S : St} {a5 a6 : Option AV} (hfl : l.flags = Jvm.pinnedFlags ++ [Jvm.noTraceFlag]) (hL : L ≤ 3586) (hi : i + 7 ≤ L) (H : Rl h w S S) (hc : kc + 1 ≤ room_1.cells ∧ ks + 6 ≤ room_1.slots) (IH : ∀ (S9 : St) (kc9 ks9 : Nat) (a5 a6 : Option AV), Rl h w S9 S9 → kc9 ≤ kc + 1 → ks9 ≤ ks + 6 → EE l (SHw h) room_1 m_Z_law (zG F9L 0 (SHw h) (zLw b L xs Z0)) kc9 ks9 43 [some (aR 99), some (aR 0), some (aR 21), some (aR 33), some (aI (nI (i + 7))), a5, a6] [] S9) : EE l (SHw h) room_1 m_Zc21 (zG F9L 0 (SHw h) (zLw b L xs Z0)) kc ks 1438 [some (aR 99), some (aR 0), some (aR 21), some (aR 33), some (aI (nI i)), a5, a6] [] S := by
  obtain ⟨pw9, ph9, m9, c9, r9, ⟨q1, q2, q3, q4, q5⟩, ⟨t1, t2, t3, t4⟩, ⟨z1, z2, z3, z4, z5⟩, ⟨d1, d2, d3, d4⟩, u1, u2⟩ := fld H
  obtain ⟨qb, db, cb, w1, w2, w3, w3b, w4, w5, w6, w7⟩ := fld2 H
  have hA := s_context (c9 := (xs (nI i + nI 1).toNatClampNeg)) (x := (xs (nI i + nI 2).toNatClampNeg)) H
  iterate 3 refine e_sp rfl rfl rfl ?_
  refine e_ci 1 rfl rfl ?_
  iterate 1 refine e_sp rfl rfl rfl ?_
  refine e_sld rfl (vin9 (k := 1) (by omega) (by omega)) ?_
  iterate 2 refine e_sp rfl rfl rfl ?_
  refine e_ci 2 rfl rfl ?_
  iterate 1 refine e_sp rfl rfl rfl ?_
  refine e_sld rfl (vin9 (k := 2) (by omega) (by omega)) ?_
  iterate 1 refine e_sp rfl rfl rfl ?_
  refine e_callSW cw_Z_context rfl ll_162 (w_context hfl) rfl rfl ⟨Nat.le_of_ble_eq_true rfl, Nat.le_of_ble_eq_true rfl⟩ ⟨hc.1, hc.2⟩ (Nat.le_of_ble_eq_true rfl) ?_
  iterate 4 refine e_sp rfl rfl rfl ?_
  refine e_ci 1 rfl rfl ?_
  iterate 1 refine e_sp rfl rfl rfl ?_
  refine e_sld rfl (vin9 (k := 1) (by omega) (by omega)) ?_
  iterate 2 refine e_sp rfl rfl rfl ?_
  refine e_ci 2 rfl rfl ?_
  iterate 1 refine e_sp rfl rfl rfl ?_
  refine e_sld rfl (vin9 (k := 2) (by omega) (by omega)) ?_
  refine e_callV1 ok_M_context rfl ll_164 (by rfl) (by rfl) (kk_ext (X := [.inr (.long, 1)]) k_M_context) rfl rfl ⟨Nat.le_of_ble_eq_true rfl, Nat.le_of_ble_eq_true rfl⟩ ⟨hc.1, hc.2⟩ (Nat.le_of_ble_eq_true rfl) ?_
  iterate 2 refine e_sp rfl rfl rfl ?_
  refine e_callV1 ok_M_thrown rfl ll_89 (by rfl) (by rfl) (kk_ext (X := [.inr (.long, 1)]) k_M_thrown) rfl rfl ⟨Nat.le_of_ble_eq_true rfl, Nat.le_of_ble_eq_true rfl⟩ ⟨hc.1, hc.2⟩ (Nat.le_of_ble_eq_true rfl) ?_
  iterate 1 refine e_sp rfl rfl rfl ?_
  refine e_iceq rfl (fun _ => ?_) (fun hx => absurd hA.2.1 hx)
  iterate 1 refine e_sp rfl rfl rfl ?_
  refine e_ifne rfl (fun hz => ?_) (fun hz => ?_)
  · refine e_goto rfl ?_
    refine e_inc 7 rfl rfl rfl rfl ?_
    refine e_goto rfl ?_
    try dsimp only [List.set]
    rw [show nI i + 7 = nI (i + 7) from nI_add i 7]
    exact ee_sub od_Z_law ⟨rfl, rfl, rfl, rfl⟩ (IH _ _ _ _ _ hA.1 (Nat.le_refl _) (Nat.le_refl _))
  · iterate 1 refine e_sp rfl rfl rfl ?_
    refine e_ci 0 rfl rfl ?_
    refine e_lald (o := 33) (n := 1) rfl rfl (show vp_in (nI 0) 1 from vp_in_nI (by decide) (by decide)) ?_
    iterate 3 refine e_sp rfl rfl rfl ?_
    refine e_ifeq rfl (fun _ => ?_) (fun hx => absurd (cmp_0 (hA.2.2 hz)) hx)
    refine e_goto rfl ?_
    refine e_inc 7 rfl rfl rfl rfl ?_
    refine e_goto rfl ?_
    try dsimp only [List.set]
    rw [show nI i + 7 = nI (i + 7) from nI_add i 7]
    exact ee_sub od_Z_law ⟨rfl, rfl, rfl, rfl⟩ (IH _ _ _ _ _ hA.1 (Nat.le_refl _) (Nat.le_refl _))
def m_Zc22 : Mt := (⟨"HalftoneRegionsLaw", "law", "([I)Z"⟩, code, 7, (some .boolean), LI22 ++ (LI23), F_Z)
theorem od_m_Zc22 : okD m_Zc22 := by
  refine ⟨?_, okF_Z⟩
  show (LI22 ++ (LI23)).all (cdB code) = true
  simp only [List.all_append, LI22_ok, LI23_ok, Bool.and_self]
set_option maxHeartbeats 4000000 in
set_option maxRecDepth 40000 in
theorem c_22 {l : Launch} {h w b L i kc ks : Nat} {xs : Nat → Int32} {Z0 : List Frame → Array Value → State → State → Prop} {S : St} {a5 a6 : Option AV} (hfl : l.flags = Jvm.pinnedFlags ++ [Jvm.noTraceFlag]) (hL : L ≤ 3586) (hi : i + 7 ≤ L) (H : Rl h w S S) (hc : kc + 1 ≤ room_1.cells ∧ ks + 6 ≤ room_1.slots) (IH : ∀ (S9 : St) (kc9 ks9 : Nat) (a5 a6 : Option AV), Rl h w S9 S9 → kc9 ≤ kc + 1 → ks9 ≤ ks + 6 → EE l (SHw h) room_1 m_Z_law (zG F9L 0 (SHw h) (zLw b L xs Z0)) kc9 ks9 43 [some (aR 99), some (aR 0), some (aR 21), some (aR 33), some (aI (nI (i + 7))), a5, a6] [] S9) : EE l (SHw h) room_1 m_Zc22 (zG F9L 0 (SHw h) (zLw b L xs Z0)) kc ks 1506 [some (aR 99), some (aR 0), some (aR 21), some (aR 33), some (aI (nI i)), a5, a6] [] S := by
  obtain ⟨pw9, ph9, m9, c9, r9, ⟨q1, q2, q3, q4, q5⟩, ⟨t1, t2, t3, t4⟩, ⟨z1, z2, z3, z4, z5⟩, ⟨d1, d2, d3, d4⟩, u1, u2⟩ := fld H
  obtain ⟨qb, db, cb, w1, w2, w3, w3b, w4, w5, w6, w7⟩ := fld2 H
  have hA := s_told (x := (xs (nI i + nI 1).toNatClampNeg)) H q3 z3
  iterate 3 refine e_sp rfl rfl rfl ?_
  refine e_ci 1 rfl rfl ?_
  iterate 1 refine e_sp rfl rfl rfl ?_
  refine e_sld rfl (vin9 (k := 1) (by omega) (by omega)) ?_
  refine e_callV1 ok_H_told rfl ll_165 (by rfl) (by rfl) (kk_ext (X := [.inr (.long, 1)]) (k_H_told (m := m9) (by omega) t1 z3)) rfl rfl ⟨Nat.le_of_ble_eq_true rfl, Nat.le_of_ble_eq_true rfl⟩ ⟨Nat.le_trans (Nat.le_succ _) hc.1, Nat.le_trans (Nat.le_add_right _ 6) hc.2⟩ (Nat.le_of_ble_eq_true rfl) ?_
  iterate 3 refine e_sp rfl rfl rfl ?_
  refine e_ci 1 rfl rfl ?_
  iterate 1 refine e_sp rfl rfl rfl ?_
  refine e_sld rfl (vin9 (k := 1) (by omega) (by omega)) ?_
  refine e_callV1 ok_M_told rfl ll_168 (by rfl) (by rfl) (kk_ext (X := [.inr (.long, 1)]) (k_M_told (m := m9) q3 z3)) rfl rfl ⟨Nat.le_of_ble_eq_true rfl, Nat.le_of_ble_eq_true rfl⟩ ⟨Nat.le_trans (Nat.le_succ _) hc.1, Nat.le_trans (Nat.le_add_right _ 6) hc.2⟩ (Nat.le_of_ble_eq_true rfl) ?_
  refine e_iceq rfl (fun _ => ?_) (fun hx => absurd hA.1 hx)
  refine e_inc 7 rfl rfl rfl rfl ?_
  refine e_goto rfl ?_
  try dsimp only [List.set]
  rw [show nI i + 7 = nI (i + 7) from nI_add i 7]
  exact ee_sub od_Z_law ⟨rfl, rfl, rfl, rfl⟩ (IH _ _ _ _ _ hA.2 (Nat.le_succ _) (Nat.le_add_right _ 6))
def m_Zc23 : Mt := (⟨"HalftoneRegionsLaw", "law", "([I)Z"⟩, code, 7, (some .boolean), LI23, F_Z)
theorem od_m_Zc23 : okD m_Zc23 := by
  refine ⟨?_, okF_Z⟩
  show (LI23).all (cdB code) = true
  simp only [List.all_append, LI23_ok, Bool.and_self]
set_option maxHeartbeats 4000000 in
set_option maxRecDepth 40000 in
theorem c_23 {l : Launch} {h w b L i kc ks : Nat} {xs : Nat → Int32} {Z0 : List Frame → Array Value → State → State → Prop} {S : St} {a5 a6 : Option AV} (hfl : l.flags = Jvm.pinnedFlags ++ [Jvm.noTraceFlag]) (hL : L ≤ 3586) (hi : i + 7 ≤ L) (H : Rl h w S S) (hc : kc + 1 ≤ room_1.cells ∧ ks + 6 ≤ room_1.slots) (IH : ∀ (S9 : St) (kc9 ks9 : Nat) (a5 a6 : Option AV), Rl h w S9 S9 → kc9 ≤ kc + 1 → ks9 ≤ ks + 6 → EE l (SHw h) room_1 m_Z_law (zG F9L 0 (SHw h) (zLw b L xs Z0)) kc9 ks9 43 [some (aR 99), some (aR 0), some (aR 21), some (aR 33), some (aI (nI (i + 7))), a5, a6] [] S9) : EE l (SHw h) room_1 m_Zc23 (zG F9L 0 (SHw h) (zLw b L xs Z0)) kc ks 1531 [some (aR 99), some (aR 0), some (aR 21), some (aR 33), some (aI (nI i)), a5, a6] [] S := by
  obtain ⟨pw9, ph9, m9, c9, r9, ⟨q1, q2, q3, q4, q5⟩, ⟨t1, t2, t3, t4⟩, ⟨z1, z2, z3, z4, z5⟩, ⟨d1, d2, d3, d4⟩, u1, u2⟩ := fld H
  obtain ⟨qb, db, cb, w1, w2, w3, w3b, w4, w5, w6, w7⟩ := fld2 H
  have hA := s_clear H
  iterate 1 refine e_sp rfl rfl rfl ?_
  refine e_callV0 ok_H_clear rfl ll_169 (by rfl) (by rfl) (kk_ext (X := [.inr (.long, 1)]) (k_H_clear (by omega))) rfl rfl ⟨Nat.le_of_ble_eq_true rfl, Nat.le_of_ble_eq_true rfl⟩ ⟨Nat.le_trans (Nat.le_succ _) hc.1, Nat.le_trans (Nat.le_add_right _ 6) hc.2⟩ (Nat.le_of_ble_eq_true rfl) ?_
  iterate 1 refine e_sp rfl rfl rfl ?_
  refine e_callV0 ok_M_clear rfl ll_172 (by rfl) (by rfl) (kk_ext (X := [.inr (.long, 1)]) k_M_clear) rfl rfl ⟨Nat.le_of_ble_eq_true rfl, Nat.le_of_ble_eq_true rfl⟩ ⟨Nat.le_trans (Nat.le_succ _) hc.1, Nat.le_trans (Nat.le_add_right _ 6) hc.2⟩ (Nat.le_of_ble_eq_true rfl) ?_
  refine e_goto rfl ?_
  refine e_inc 7 rfl rfl rfl rfl ?_
  refine e_goto rfl ?_
  try dsimp only [List.set]
  rw [show nI i + 7 = nI (i + 7) from nI_add i 7]
  exact ee_sub od_Z_law ⟨rfl, rfl, rfl, rfl⟩ (IH _ _ _ _ _ hA (Nat.le_succ _) (Nat.le_add_right _ 6))
