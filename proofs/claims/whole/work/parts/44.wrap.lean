/-! the law's wrappers -/
def SHw (h : Nat) : List Sh := SHm h ++ [.inr (.long, 1)]
theorem kk_ext {l : Launch} {B X : List Sh} {d : Nat × Nat} {z : Mt} {av : List AV} {S : St} {Q : Option AV → St → Prop} (h : KK l B d z av S Q) : KK l (B ++ X) d z av S Q := by
  intro sh ad D cA sz hsh hi
  obtain ⟨sh', rfl⟩ := hsh
  exact h _ ad D cA sz ⟨X ++ sh', by rw [List.append_assoc]⟩ hi
theorem kx_ext {l : Launch} {B X : List Sh} {d : Nat × Nat} {z : Mt} {av : List AV} {S : St} {N : String} (h : KX l B d z av S N) : KX l (B ++ X) d z av S N := by
  intro sh ad D cA sz hsh hi
  obtain ⟨sh', rfl⟩ := hsh
  exact h _ ad D cA sz ⟨X ++ sh', by rw [List.append_assoc]⟩ hi
theorem zw_of {y : Mt} {Q : Option AV → St → Prop} : ∀ below args s sh ad D cA t, zR Q 1 6 below args s sh ad D cA t → zW y Q below args s sh ad D cA t := fun _ _ _ _ _ _ _ _ h _ => h
theorem wcl_13 : Jvm.Cond.classLink "HalftoneRegionsLaw" 13 xIA ∈ gw := gw_in (by decide +kernel) rfl
theorem wcl_23 : Jvm.Cond.classLink "HalftoneRegionsLaw" 23 xIB ∈ gw := gw_in (by decide +kernel) rfl
theorem wcl_65 : Jvm.Cond.classLink "HalftoneRegionsLaw" 65 xUO ∈ gw := gw_in (by decide +kernel) rfl
theorem wca_IA : Jvm.Cond.castable xIA xIA ∈ xW := List.mem_filter.mpr ⟨by decide +kernel, rfl⟩
theorem wca_IB : Jvm.Cond.castable xIB xIB ∈ xW := List.mem_filter.mpr ⟨by decide +kernel, rfl⟩
theorem wca_UO : Jvm.Cond.castable xUO xUO ∈ xW := List.mem_filter.mpr ⟨by decide +kernel, rfl⟩
def b2L (x : Int32) : Int64 := if x = 0 then 0 else 1
set_option maxHeartbeats 4000000 in
set_option maxRecDepth 40000 in
theorem w_patterns {l : Launch} {h : Nat} {S : St} {a b c : Int32} (hfl : l.flags = Jvm.pinnedFlags ++ [Jvm.noTraceFlag])  : KW l (SHw h) (7, 113) m_Z_patterns hh_Z_patterns [aR 0, aI a, aI b, aI c, aR 33] S (ans (some (aI (okP a b c))) (if okP a b c = 0 then puL (pnS S a b c) 33 0 ((nI (bl 6 (c.toNatClampNeg - 1))).toInt64) else S)) := by
  refine k_startW od_Z_patterns (by decide +kernel) (Nat.le_of_ble_eq_true rfl) ?_
  by_cases hok : okP a b c = 0
  · refine ee_mono zw_of ?_
    iterate 1 refine e_sp rfl rfl rfl ?_
    refine e_ci 0 rfl rfl ?_
    iterate 4 refine e_sp rfl rfl rfl ?_
    refine e_callV1 ok_H_patterns rfl lk_Z_7 (by rfl) (by rfl) (kk_ext (X := [.inr (.long, 1)]) (k_H_patterns hok)) rfl rfl ⟨Nat.le_of_ble_eq_true rfl, Nat.le_of_ble_eq_true rfl⟩ ⟨Nat.zero_le _, Nat.zero_le _⟩ (Nat.le_of_ble_eq_true rfl) ?_
    iterate 1 refine e_sp rfl rfl rfl ?_
    refine e_last rfl (by first | rfl | assumption) (by exact (show vp_in (nI 0) 1 from vp_in_nI (by decide) (by decide))) ?_
    refine e_goto rfl ?_
    refine e_ci 0 rfl rfl ?_
    refine e_iret rfl rfl (Nat.zero_le _) (Nat.zero_le _) ?_
    exact ⟨by rw [hok], by rw [if_pos hok]; rfl⟩
  have hv : okP a b c = 1 := by
    revert hok
    unfold okP
    (repeat' split) <;> first | (intro _; rfl) | (intro z; exact absurd rfl z)
  iterate 1 refine e_sp rfl rfl rfl ?_
  refine e_ci 0 rfl rfl ?_
  iterate 4 refine e_sp rfl rfl rfl ?_
  try dsimp only
  exact e_catch (hp := 15) (k9 := 5) (v := 1) ok_H_patterns rfl lk_Z_7 (by rfl) (by rfl) (kx_ext (X := [.inr (.long, 1)]) (x_H_patterns_xIA hfl hv)) rfl rfl ⟨Nat.le_of_ble_eq_true rfl, Nat.le_of_ble_eq_true rfl⟩ (Nat.le_of_ble_eq_true rfl) cw_Z_patterns ⟨⟨by decide, by decide, by decide⟩, Or.inl ⟨rfl, wcl_13, wca_IA⟩⟩ rfl (Or.inl rfl) rfl (Nat.lt_of_lt_of_le (Nat.lt_succ_self _) (Nat.le_of_ble_eq_true rfl)) rfl rfl rfl rfl ⟨by rw [hv], by rw [if_neg hok]⟩

set_option maxHeartbeats 4000000 in
set_option maxRecDepth 40000 in
theorem w_put {l : Launch} {h : Nat} {S : St} {p x y b : Int32} (hfl : l.flags = Jvm.pinnedFlags ++ [Jvm.noTraceFlag])  : KW l (SHw h) (7, 115) m_Z_put hh_Z_put [aR 0, aI p, aI x, aI y, aI b, aR 33] S (ans (some (aI (c1H (hsB S p x y)))) (if c1H (hsB S p x y) = 0 then puL (if idB S p x y = b then S else tnB S p x y) 33 0 (b2L (if idB S p x y = b then 0 else 1)) else S)) := by
  refine k_startW od_Z_put (by decide +kernel) (Nat.le_of_ble_eq_true rfl) ?_
  by_cases hok : c1H (hsB S p x y) = 0
  · refine ee_mono zw_of ?_
    iterate 1 refine e_sp rfl rfl rfl ?_
    refine e_ci 0 rfl rfl ?_
    iterate 5 refine e_sp rfl rfl rfl ?_
    refine e_callV1 ok_H_put rfl lk_Z_19 (by rfl) (by rfl) (kk_ext (X := [.inr (.long, 1)]) (k_H_put hok)) rfl rfl ⟨Nat.le_of_ble_eq_true rfl, Nat.le_of_ble_eq_true rfl⟩ ⟨Nat.zero_le _, Nat.zero_le _⟩ (Nat.le_of_ble_eq_true rfl) ?_
    refine e_ifeq rfl (fun h1 => ?_) (fun h1 => ?_)
    · refine e_cl 0 rfl rfl ?_
      refine e_last rfl (by first | rfl | assumption) (by exact (show vp_in (nI 0) 1 from vp_in_nI (by decide) (by decide))) ?_
      refine e_goto rfl ?_
      refine e_ci 0 rfl rfl ?_
      refine e_iret rfl rfl (Nat.zero_le _) (Nat.zero_le _) ?_
      exact ⟨by rw [hok], by rw [if_pos hok, b2L]; (first | rw [if_pos h1] | rw [if_neg h1]); rfl⟩
    · refine e_cl 1 rfl rfl ?_
      refine e_goto rfl ?_
      refine e_last rfl (by first | rfl | assumption) (by exact (show vp_in (nI 0) 1 from vp_in_nI (by decide) (by decide))) ?_
      refine e_goto rfl ?_
      refine e_ci 0 rfl rfl ?_
      refine e_iret rfl rfl (Nat.zero_le _) (Nat.zero_le _) ?_
      exact ⟨by rw [hok], by rw [if_pos hok, b2L]; (first | rw [if_pos h1] | rw [if_neg h1]); rfl⟩
  have hv : c1H (hsB S p x y) = 1 := by
    revert hok
    unfold c1H
    (repeat' split) <;> first | (intro _; rfl) | (intro z; exact absurd rfl z)
  iterate 1 refine e_sp rfl rfl rfl ?_
  refine e_ci 0 rfl rfl ?_
  iterate 5 refine e_sp rfl rfl rfl ?_
  try dsimp only
  exact e_catch (hp := 24) (k9 := 6) (v := 1) ok_H_put rfl lk_Z_19 (by rfl) (by rfl) (kx_ext (X := [.inr (.long, 1)]) (x_H_put_xIB hfl hv)) rfl rfl ⟨Nat.le_of_ble_eq_true rfl, Nat.le_of_ble_eq_true rfl⟩ (Nat.le_of_ble_eq_true rfl) cw_Z_put ⟨⟨by decide, by decide, by decide⟩, Or.inl ⟨rfl, wcl_23, wca_IB⟩⟩ rfl (Or.inl rfl) rfl (Nat.lt_of_lt_of_le (Nat.lt_succ_self _) (Nat.le_of_ble_eq_true rfl)) rfl rfl rfl rfl ⟨by rw [hv], by rw [if_neg hok]⟩

set_option maxHeartbeats 4000000 in
set_option maxRecDepth 40000 in
theorem w_cell1 {l : Launch} {h : Nat} {S : St} {p x y : Int32} (hfl : l.flags = Jvm.pinnedFlags ++ [Jvm.noTraceFlag])  : KW l (SHw h) (7, 113) m_Z_cell1 hh_Z_cell1 [aR 0, aI p, aI x, aI y, aR 33] S (ans (some (aI (c1H (hsB S p x y)))) (if c1H (hsB S p x y) = 0 then puL S 33 0 (b2L (idB S p x y)) else S)) := by
  refine k_startW od_Z_cell1 (by decide +kernel) (Nat.le_of_ble_eq_true rfl) ?_
  by_cases hok : c1H (hsB S p x y) = 0
  · refine ee_mono zw_of ?_
    iterate 1 refine e_sp rfl rfl rfl ?_
    refine e_ci 0 rfl rfl ?_
    iterate 4 refine e_sp rfl rfl rfl ?_
    refine e_callV1 ok_H_cell rfl lk_Z_25 (by rfl) (by rfl) (kk_ext (X := [.inr (.long, 1)]) (k_H_cell hok)) rfl rfl ⟨Nat.le_of_ble_eq_true rfl, Nat.le_of_ble_eq_true rfl⟩ ⟨Nat.zero_le _, Nat.zero_le _⟩ (Nat.le_of_ble_eq_true rfl) ?_
    refine e_ifeq rfl (fun h1 => ?_) (fun h1 => ?_)
    · refine e_cl 0 rfl rfl ?_
      refine e_last rfl (by first | rfl | assumption) (by exact (show vp_in (nI 0) 1 from vp_in_nI (by decide) (by decide))) ?_
      refine e_goto rfl ?_
      refine e_ci 0 rfl rfl ?_
      refine e_iret rfl rfl (Nat.zero_le _) (Nat.zero_le _) ?_
      exact ⟨by rw [hok], by rw [if_pos hok, b2L]; (first | rw [if_pos h1] | rw [if_neg h1]); rfl⟩
    · refine e_cl 1 rfl rfl ?_
      refine e_goto rfl ?_
      refine e_last rfl (by first | rfl | assumption) (by exact (show vp_in (nI 0) 1 from vp_in_nI (by decide) (by decide))) ?_
      refine e_goto rfl ?_
      refine e_ci 0 rfl rfl ?_
      refine e_iret rfl rfl (Nat.zero_le _) (Nat.zero_le _) ?_
      exact ⟨by rw [hok], by rw [if_pos hok, b2L]; (first | rw [if_pos h1] | rw [if_neg h1]); rfl⟩
  have hv : c1H (hsB S p x y) = 1 := by
    revert hok
    unfold c1H
    (repeat' split) <;> first | (intro _; rfl) | (intro z; exact absurd rfl z)
  iterate 1 refine e_sp rfl rfl rfl ?_
  refine e_ci 0 rfl rfl ?_
  iterate 4 refine e_sp rfl rfl rfl ?_
  try dsimp only
  exact e_catch (hp := 22) (k9 := 5) (v := 1) ok_H_cell rfl lk_Z_25 (by rfl) (by rfl) (kx_ext (X := [.inr (.long, 1)]) (x_H_cell_xIB hfl hv)) rfl rfl ⟨Nat.le_of_ble_eq_true rfl, Nat.le_of_ble_eq_true rfl⟩ (Nat.le_of_ble_eq_true rfl) cw_Z_cell1 ⟨⟨by decide, by decide, by decide⟩, Or.inl ⟨rfl, wcl_23, wca_IB⟩⟩ rfl (Or.inl rfl) rfl (Nat.lt_of_lt_of_le (Nat.lt_succ_self _) (Nat.le_of_ble_eq_true rfl)) rfl rfl rfl rfl ⟨by rw [hv], by rw [if_neg hok]⟩

set_option maxHeartbeats 4000000 in
set_option maxRecDepth 40000 in
theorem w_grid {l : Launch} {h : Nat} {S : St} {c r x y a b : Int32} (hfl : l.flags = Jvm.pinnedFlags ++ [Jvm.noTraceFlag])  : KW l (SHw h) (7, 116) m_Z_grid hh_Z_grid [aR 0, aI c, aI r, aI x, aI y, aI a, aI b, aR 33] S (ans (some (aI (okG c r x y a b))) (if okG c r x y a b = 0 then puL (gdS S c r x y a b) 33 0 ((poH (gdS S c r x y a b) c.toNatClampNeg r.toNatClampNeg).toInt64) else S)) := by
  refine k_startW od_Z_grid (by decide +kernel) (Nat.le_of_ble_eq_true rfl) ?_
  by_cases hok : okG c r x y a b = 0
  · refine ee_mono zw_of ?_
    iterate 1 refine e_sp rfl rfl rfl ?_
    refine e_ci 0 rfl rfl ?_
    iterate 7 refine e_sp rfl rfl rfl ?_
    refine e_callV1 ok_H_grid rfl lk_Z_29 (by rfl) (by rfl) (kk_ext (X := [.inr (.long, 1)]) (k_H_grid hok)) rfl rfl ⟨Nat.le_of_ble_eq_true rfl, Nat.le_of_ble_eq_true rfl⟩ ⟨Nat.zero_le _, Nat.zero_le _⟩ (Nat.le_of_ble_eq_true rfl) ?_
    iterate 1 refine e_sp rfl rfl rfl ?_
    refine e_last rfl (by first | rfl | assumption) (by exact (show vp_in (nI 0) 1 from vp_in_nI (by decide) (by decide))) ?_
    refine e_goto rfl ?_
    refine e_ci 0 rfl rfl ?_
    refine e_iret rfl rfl (Nat.zero_le _) (Nat.zero_le _) ?_
    exact ⟨by rw [hok], by rw [if_pos hok]; rfl⟩
  have hv : okG c r x y a b = 1 := by
    revert hok
    unfold okG
    (repeat' split) <;> first | (intro _; rfl) | (intro z; exact absurd rfl z)
  iterate 1 refine e_sp rfl rfl rfl ?_
  refine e_ci 0 rfl rfl ?_
  iterate 7 refine e_sp rfl rfl rfl ?_
  try dsimp only
  exact e_catch (hp := 21) (k9 := 8) (v := 1) ok_H_grid rfl lk_Z_29 (by rfl) (by rfl) (kx_ext (X := [.inr (.long, 1)]) (x_H_grid_xIA hfl hv)) rfl rfl ⟨Nat.le_of_ble_eq_true rfl, Nat.le_of_ble_eq_true rfl⟩ (Nat.le_of_ble_eq_true rfl) cw_Z_grid ⟨⟨by decide, by decide, by decide⟩, Or.inl ⟨rfl, wcl_13, wca_IA⟩⟩ rfl (Or.inl rfl) rfl (Nat.lt_of_lt_of_le (Nat.lt_succ_self _) (Nat.le_of_ble_eq_true rfl)) rfl rfl rfl rfl ⟨by rw [hv], by rw [if_neg hok]⟩

set_option maxHeartbeats 4000000 in
set_option maxRecDepth 40000 in
theorem w_where {l : Launch} {h : Nat} {S : St} {i j a : Int32} (hfl : l.flags = Jvm.pinnedFlags ++ [Jvm.noTraceFlag])  : KW l (SHw h) (7, 113) m_Z_where hh_Z_where [aR 0, aI i, aI j, aI a, aR 33] S (ans (some (aI (whH S i j a))) (if whH S i j a = 0 then puL S 33 0 ((if a = 0 then lfL S i j else tpL S i j).toInt64) else S)) := by
  refine k_startW od_Z_where (by decide +kernel) (Nat.le_of_ble_eq_true rfl) ?_
  by_cases hok : whH S i j a = 0
  · refine ee_mono zw_of ?_
    iterate 1 refine e_sp rfl rfl rfl ?_
    refine e_ci 0 rfl rfl ?_
    iterate 4 refine e_sp rfl rfl rfl ?_
    refine e_callV1 ok_H_where rfl lk_Z_33 (by rfl) (by rfl) (kk_ext (X := [.inr (.long, 1)]) (k_H_where hok)) rfl rfl ⟨Nat.le_of_ble_eq_true rfl, Nat.le_of_ble_eq_true rfl⟩ ⟨Nat.zero_le _, Nat.zero_le _⟩ (Nat.le_of_ble_eq_true rfl) ?_
    iterate 1 refine e_sp rfl rfl rfl ?_
    refine e_last rfl (by first | rfl | assumption) (by exact (show vp_in (nI 0) 1 from vp_in_nI (by decide) (by decide))) ?_
    refine e_goto rfl ?_
    refine e_ci 0 rfl rfl ?_
    refine e_iret rfl rfl (Nat.zero_le _) (Nat.zero_le _) ?_
    exact ⟨by rw [hok], by rw [if_pos hok]; rfl⟩
  by_cases hv : whH S i j a = 1
  · iterate 1 refine e_sp rfl rfl rfl ?_
    refine e_ci 0 rfl rfl ?_
    iterate 4 refine e_sp rfl rfl rfl ?_
    try dsimp only
    exact e_catch (hp := 15) (k9 := 5) (v := 1) ok_H_where rfl lk_Z_33 (by rfl) (by rfl) (kx_ext (X := [.inr (.long, 1)]) (x_H_where_xIB hfl hv)) rfl rfl ⟨Nat.le_of_ble_eq_true rfl, Nat.le_of_ble_eq_true rfl⟩ (Nat.le_of_ble_eq_true rfl) cw_Z_where ⟨⟨by decide, by decide, by decide⟩, Or.inl ⟨rfl, wcl_23, wca_IB⟩⟩ rfl (Or.inl rfl) rfl (Nat.lt_of_lt_of_le (Nat.lt_succ_self _) (Nat.le_of_ble_eq_true rfl)) rfl rfl rfl rfl ⟨by rw [hv], by rw [if_neg hok]⟩
  have hv2 : whH S i j a = 2 := by
    revert hok hv
    unfold whH
    (repeat' split) <;> first | (intro _ _; rfl) | (intro z _; exact absurd rfl z) | (intro _ z; exact absurd rfl z) | (intro z; exact absurd rfl z)
  iterate 1 refine e_sp rfl rfl rfl ?_
  refine e_ci 0 rfl rfl ?_
  iterate 4 refine e_sp rfl rfl rfl ?_
  try dsimp only
  exact e_catch (hp := 19) (k9 := 5) (v := 2) ok_H_where rfl lk_Z_33 (by rfl) (by rfl) (kx_ext (X := [.inr (.long, 1)]) (x_H_where_xIA hfl hv2)) rfl rfl ⟨Nat.le_of_ble_eq_true rfl, Nat.le_of_ble_eq_true rfl⟩ (Nat.le_of_ble_eq_true rfl) cw_Z_where ⟨⟨by decide, by decide, by decide⟩, Or.inr ⟨⟨_, wcl_23, by decide⟩, ⟨⟨by decide, by decide, by decide⟩, Or.inl ⟨rfl, wcl_13, wca_IA⟩⟩⟩⟩ rfl (Or.inl rfl) rfl (Nat.lt_of_lt_of_le (Nat.lt_succ_self _) (Nat.le_of_ble_eq_true rfl)) rfl rfl rfl rfl ⟨by rw [hv2], by rw [if_neg hok]⟩

set_option maxHeartbeats 4000000 in
set_option maxRecDepth 40000 in
theorem w_outside {l : Launch} {h : Nat} {S : St} {i j : Int32} (hfl : l.flags = Jvm.pinnedFlags ++ [Jvm.noTraceFlag])  : KW l (SHw h) (7, 112) m_Z_outside hh_Z_outside [aR 0, aI i, aI j, aR 33] S (ans (some (aI (c1H (haL S i j)))) (if c1H (haL S i j) = 0 then puL S 33 0 (b2L (ouH S i j)) else S)) := by
  refine k_startW od_Z_outside (by decide +kernel) (Nat.le_of_ble_eq_true rfl) ?_
  by_cases hok : c1H (haL S i j) = 0
  · refine ee_mono zw_of ?_
    iterate 1 refine e_sp rfl rfl rfl ?_
    refine e_ci 0 rfl rfl ?_
    iterate 3 refine e_sp rfl rfl rfl ?_
    refine e_callV1 ok_H_outside rfl lk_Z_36 (by rfl) (by rfl) (kk_ext (X := [.inr (.long, 1)]) (k_H_outside hok)) rfl rfl ⟨Nat.le_of_ble_eq_true rfl, Nat.le_of_ble_eq_true rfl⟩ ⟨Nat.zero_le _, Nat.zero_le _⟩ (Nat.le_of_ble_eq_true rfl) ?_
    refine e_ifeq rfl (fun h1 => ?_) (fun h1 => ?_)
    · refine e_cl 0 rfl rfl ?_
      refine e_last rfl (by first | rfl | assumption) (by exact (show vp_in (nI 0) 1 from vp_in_nI (by decide) (by decide))) ?_
      refine e_goto rfl ?_
      refine e_ci 0 rfl rfl ?_
      refine e_iret rfl rfl (Nat.zero_le _) (Nat.zero_le _) ?_
      exact ⟨by rw [hok], by rw [if_pos hok, b2L]; (first | rw [if_pos h1] | rw [if_neg h1]); rfl⟩
    · refine e_cl 1 rfl rfl ?_
      refine e_goto rfl ?_
      refine e_last rfl (by first | rfl | assumption) (by exact (show vp_in (nI 0) 1 from vp_in_nI (by decide) (by decide))) ?_
      refine e_goto rfl ?_
      refine e_ci 0 rfl rfl ?_
      refine e_iret rfl rfl (Nat.zero_le _) (Nat.zero_le _) ?_
      exact ⟨by rw [hok], by rw [if_pos hok, b2L]; (first | rw [if_pos h1] | rw [if_neg h1]); rfl⟩
  have hv : c1H (haL S i j) = 1 := by
    revert hok
    unfold c1H
    (repeat' split) <;> first | (intro _; rfl) | (intro z; exact absurd rfl z)
  iterate 1 refine e_sp rfl rfl rfl ?_
  refine e_ci 0 rfl rfl ?_
  iterate 3 refine e_sp rfl rfl rfl ?_
  try dsimp only
  exact e_catch (hp := 20) (k9 := 4) (v := 1) ok_H_outside rfl lk_Z_36 (by rfl) (by rfl) (kx_ext (X := [.inr (.long, 1)]) (x_H_outside_xIB hfl hv)) rfl rfl ⟨Nat.le_of_ble_eq_true rfl, Nat.le_of_ble_eq_true rfl⟩ (Nat.le_of_ble_eq_true rfl) cw_Z_outside ⟨⟨by decide, by decide, by decide⟩, Or.inl ⟨rfl, wcl_23, wca_IB⟩⟩ rfl (Or.inl rfl) rfl (Nat.lt_of_lt_of_le (Nat.lt_succ_self _) (Nat.le_of_ble_eq_true rfl)) rfl rfl rfl rfl ⟨by rw [hv], by rw [if_neg hok]⟩

set_option maxHeartbeats 4000000 in
set_option maxRecDepth 40000 in
theorem w_grey {l : Launch} {h : Nat} {S : St} {i j v : Int32} (hfl : l.flags = Jvm.pinnedFlags ++ [Jvm.noTraceFlag])  : KW l (SHw h) (7, 113) m_Z_grey hh_Z_grey [aR 0, aI i, aI j, aI v, aR 33] S (ans (some (aI (gyH S i j v))) (if gyH S i j v = 0 then puL (cgS S i j v) 33 0 (b2L (cgR S i j v)) else S)) := by
  refine k_startW od_Z_grey (by decide +kernel) (Nat.le_of_ble_eq_true rfl) ?_
  by_cases hok : gyH S i j v = 0
  · refine ee_mono zw_of ?_
    iterate 1 refine e_sp rfl rfl rfl ?_
    refine e_ci 0 rfl rfl ?_
    iterate 4 refine e_sp rfl rfl rfl ?_
    refine e_callV1 ok_H_grey rfl lk_Z_40 (by rfl) (by rfl) (kk_ext (X := [.inr (.long, 1)]) (k_H_grey hok)) rfl rfl ⟨Nat.le_of_ble_eq_true rfl, Nat.le_of_ble_eq_true rfl⟩ ⟨Nat.zero_le _, Nat.zero_le _⟩ (Nat.le_of_ble_eq_true rfl) ?_
    refine e_ifeq rfl (fun h1 => ?_) (fun h1 => ?_)
    · refine e_cl 0 rfl rfl ?_
      refine e_last rfl (by first | rfl | assumption) (by exact (show vp_in (nI 0) 1 from vp_in_nI (by decide) (by decide))) ?_
      refine e_goto rfl ?_
      refine e_ci 0 rfl rfl ?_
      refine e_iret rfl rfl (Nat.zero_le _) (Nat.zero_le _) ?_
      exact ⟨by rw [hok], by rw [if_pos hok, b2L]; (first | rw [if_pos h1] | rw [if_neg h1]); rfl⟩
    · refine e_cl 1 rfl rfl ?_
      refine e_goto rfl ?_
      refine e_last rfl (by first | rfl | assumption) (by exact (show vp_in (nI 0) 1 from vp_in_nI (by decide) (by decide))) ?_
      refine e_goto rfl ?_
      refine e_ci 0 rfl rfl ?_
      refine e_iret rfl rfl (Nat.zero_le _) (Nat.zero_le _) ?_
      exact ⟨by rw [hok], by rw [if_pos hok, b2L]; (first | rw [if_pos h1] | rw [if_neg h1]); rfl⟩
  by_cases hv : gyH S i j v = 1
  · iterate 1 refine e_sp rfl rfl rfl ?_
    refine e_ci 0 rfl rfl ?_
    iterate 4 refine e_sp rfl rfl rfl ?_
    try dsimp only
    exact e_catch (hp := 22) (k9 := 5) (v := 1) ok_H_grey rfl lk_Z_40 (by rfl) (by rfl) (kx_ext (X := [.inr (.long, 1)]) (x_H_grey_xIB hfl hv)) rfl rfl ⟨Nat.le_of_ble_eq_true rfl, Nat.le_of_ble_eq_true rfl⟩ (Nat.le_of_ble_eq_true rfl) cw_Z_grey ⟨⟨by decide, by decide, by decide⟩, Or.inl ⟨rfl, wcl_23, wca_IB⟩⟩ rfl (Or.inl rfl) rfl (Nat.lt_of_lt_of_le (Nat.lt_succ_self _) (Nat.le_of_ble_eq_true rfl)) rfl rfl rfl rfl ⟨by rw [hv], by rw [if_neg hok]⟩
  have hv2 : gyH S i j v = 2 := by
    revert hok hv
    unfold gyH
    (repeat' split) <;> first | (intro _ _; rfl) | (intro z _; exact absurd rfl z) | (intro _ z; exact absurd rfl z) | (intro z; exact absurd rfl z)
  iterate 1 refine e_sp rfl rfl rfl ?_
  refine e_ci 0 rfl rfl ?_
  iterate 4 refine e_sp rfl rfl rfl ?_
  try dsimp only
  exact e_catch (hp := 26) (k9 := 5) (v := 2) ok_H_grey rfl lk_Z_40 (by rfl) (by rfl) (kx_ext (X := [.inr (.long, 1)]) (x_H_grey_xIA hfl hv2)) rfl rfl ⟨Nat.le_of_ble_eq_true rfl, Nat.le_of_ble_eq_true rfl⟩ (Nat.le_of_ble_eq_true rfl) cw_Z_grey ⟨⟨by decide, by decide, by decide⟩, Or.inr ⟨⟨_, wcl_23, by decide⟩, ⟨⟨by decide, by decide, by decide⟩, Or.inl ⟨rfl, wcl_13, wca_IA⟩⟩⟩⟩ rfl (Or.inl rfl) rfl (Nat.lt_of_lt_of_le (Nat.lt_succ_self _) (Nat.le_of_ble_eq_true rfl)) rfl rfl rfl rfl ⟨by rw [hv2], by rw [if_neg hok]⟩

set_option maxHeartbeats 4000000 in
set_option maxRecDepth 40000 in
theorem w_greyAt {l : Launch} {h : Nat} {S : St} {i j : Int32} (hfl : l.flags = Jvm.pinnedFlags ++ [Jvm.noTraceFlag])  : KW l (SHw h) (7, 112) m_Z_greyAt hh_Z_greyAt [aR 0, aI i, aI j, aR 33] S (ans (some (aI (c1H (haL S i j)))) (if c1H (haL S i j) = 0 then puL S 33 0 ((grL S i j).toInt64) else S)) := by
  refine k_startW od_Z_greyAt (by decide +kernel) (Nat.le_of_ble_eq_true rfl) ?_
  by_cases hok : c1H (haL S i j) = 0
  · refine ee_mono zw_of ?_
    iterate 1 refine e_sp rfl rfl rfl ?_
    refine e_ci 0 rfl rfl ?_
    iterate 3 refine e_sp rfl rfl rfl ?_
    refine e_callV1 ok_H_greyAt rfl lk_Z_43 (by rfl) (by rfl) (kk_ext (X := [.inr (.long, 1)]) (k_H_greyAt hok)) rfl rfl ⟨Nat.le_of_ble_eq_true rfl, Nat.le_of_ble_eq_true rfl⟩ ⟨Nat.zero_le _, Nat.zero_le _⟩ (Nat.le_of_ble_eq_true rfl) ?_
    iterate 1 refine e_sp rfl rfl rfl ?_
    refine e_last rfl (by first | rfl | assumption) (by exact (show vp_in (nI 0) 1 from vp_in_nI (by decide) (by decide))) ?_
    refine e_goto rfl ?_
    refine e_ci 0 rfl rfl ?_
    refine e_iret rfl rfl (Nat.zero_le _) (Nat.zero_le _) ?_
    exact ⟨by rw [hok], by rw [if_pos hok]; rfl⟩
  have hv : c1H (haL S i j) = 1 := by
    revert hok
    unfold c1H
    (repeat' split) <;> first | (intro _; rfl) | (intro z; exact absurd rfl z)
  iterate 1 refine e_sp rfl rfl rfl ?_
  refine e_ci 0 rfl rfl ?_
  iterate 3 refine e_sp rfl rfl rfl ?_
  try dsimp only
  exact e_catch (hp := 13) (k9 := 4) (v := 1) ok_H_greyAt rfl lk_Z_43 (by rfl) (by rfl) (kx_ext (X := [.inr (.long, 1)]) (x_H_greyAt_xIB hfl hv)) rfl rfl ⟨Nat.le_of_ble_eq_true rfl, Nat.le_of_ble_eq_true rfl⟩ (Nat.le_of_ble_eq_true rfl) cw_Z_greyAt ⟨⟨by decide, by decide, by decide⟩, Or.inl ⟨rfl, wcl_23, wca_IB⟩⟩ rfl (Or.inl rfl) rfl (Nat.lt_of_lt_of_le (Nat.lt_succ_self _) (Nat.le_of_ble_eq_true rfl)) rfl rfl rfl rfl ⟨by rw [hv], by rw [if_neg hok]⟩

set_option maxHeartbeats 4000000 in
set_option maxRecDepth 40000 in
theorem w_way {l : Launch} {h : Nat} {S : St} {w v : Int32} (hfl : l.flags = Jvm.pinnedFlags ++ [Jvm.noTraceFlag])  : KW l (SHw h) (7, 112) m_Z_way hh_Z_way [aR 0, aI w, aI v, aR 33] S (ans (some (aI (wyC w v))) (if wyC w v = 0 then puL (cwS9 S w v) 33 0 ((cwR S w).toInt64) else S)) := by
  refine k_startW od_Z_way (by decide +kernel) (Nat.le_of_ble_eq_true rfl) ?_
  by_cases hok : wyC w v = 0
  · refine ee_mono zw_of ?_
    iterate 1 refine e_sp rfl rfl rfl ?_
    refine e_ci 0 rfl rfl ?_
    iterate 3 refine e_sp rfl rfl rfl ?_
    refine e_callV1 ok_H_way rfl lk_Z_47 (by rfl) (by rfl) (kk_ext (X := [.inr (.long, 1)]) (k_H_way hok)) rfl rfl ⟨Nat.le_of_ble_eq_true rfl, Nat.le_of_ble_eq_true rfl⟩ ⟨Nat.zero_le _, Nat.zero_le _⟩ (Nat.le_of_ble_eq_true rfl) ?_
    iterate 1 refine e_sp rfl rfl rfl ?_
    refine e_last rfl (by first | rfl | assumption) (by exact (show vp_in (nI 0) 1 from vp_in_nI (by decide) (by decide))) ?_
    refine e_goto rfl ?_
    refine e_ci 0 rfl rfl ?_
    refine e_iret rfl rfl (Nat.zero_le _) (Nat.zero_le _) ?_
    exact ⟨by rw [hok], by rw [if_pos hok]; rfl⟩
  have hv : wyC w v = 1 := by
    revert hok
    unfold wyC
    (repeat' split) <;> first | (intro _; rfl) | (intro z; exact absurd rfl z)
  iterate 1 refine e_sp rfl rfl rfl ?_
  refine e_ci 0 rfl rfl ?_
  iterate 3 refine e_sp rfl rfl rfl ?_
  try dsimp only
  exact e_catch (hp := 13) (k9 := 4) (v := 1) ok_H_way rfl lk_Z_47 (by rfl) (by rfl) (kx_ext (X := [.inr (.long, 1)]) (x_H_way_xIA hfl hv)) rfl rfl ⟨Nat.le_of_ble_eq_true rfl, Nat.le_of_ble_eq_true rfl⟩ (Nat.le_of_ble_eq_true rfl) cw_Z_way ⟨⟨by decide, by decide, by decide⟩, Or.inl ⟨rfl, wcl_13, wca_IA⟩⟩ rfl (Or.inl rfl) rfl (Nat.lt_of_lt_of_le (Nat.lt_succ_self _) (Nat.le_of_ble_eq_true rfl)) rfl rfl rfl rfl ⟨by rw [hv], by rw [if_neg hok]⟩

set_option maxHeartbeats 4000000 in
set_option maxRecDepth 40000 in
theorem w_row {l : Launch} {h : Nat} {S : St} {y b : Int32} (hfl : l.flags = Jvm.pinnedFlags ++ [Jvm.noTraceFlag]) (hh : h < 2 ^ 31) : KW l (SHw h) (7, 112) m_Z_row hh_Z_row [aR 0, aI y, aI b, aR 33] S (ans (some (aI (c1H (wi y 0 (S.1 0 1 - 1))))) (if c1H (wi y 0 (S.1 0 1 - 1)) = 0 then puL (clS S 2 h (S.1 1 1) y b) 33 0 ((clR S 2 h (S.1 1 1) y b).toInt64) else S)) := by
  refine k_startW od_Z_row (by decide +kernel) (Nat.le_of_ble_eq_true rfl) ?_
  by_cases hok : c1H (wi y 0 (S.1 0 1 - 1)) = 0
  · refine ee_mono zw_of ?_
    iterate 1 refine e_sp rfl rfl rfl ?_
    refine e_ci 0 rfl rfl ?_
    iterate 3 refine e_sp rfl rfl rfl ?_
    refine e_callV1 ok_H_row rfl lk_Z_50 (by rfl) (by rfl) (kk_ext (X := [.inr (.long, 1)]) (k_H_row hh hok)) rfl rfl ⟨Nat.le_of_ble_eq_true rfl, Nat.le_of_ble_eq_true rfl⟩ ⟨Nat.zero_le _, Nat.zero_le _⟩ (Nat.le_of_ble_eq_true rfl) ?_
    iterate 1 refine e_sp rfl rfl rfl ?_
    refine e_last rfl (by first | rfl | assumption) (by exact (show vp_in (nI 0) 1 from vp_in_nI (by decide) (by decide))) ?_
    refine e_goto rfl ?_
    refine e_ci 0 rfl rfl ?_
    refine e_iret rfl rfl (Nat.zero_le _) (Nat.zero_le _) ?_
    exact ⟨by rw [hok], by rw [if_pos hok]; rfl⟩
  have hv : c1H (wi y 0 (S.1 0 1 - 1)) = 1 := by
    revert hok
    unfold c1H
    (repeat' split) <;> first | (intro _; rfl) | (intro z; exact absurd rfl z)
  iterate 1 refine e_sp rfl rfl rfl ?_
  refine e_ci 0 rfl rfl ?_
  iterate 3 refine e_sp rfl rfl rfl ?_
  try dsimp only
  exact e_catch (hp := 13) (k9 := 4) (v := 1) ok_H_row rfl lk_Z_50 (by rfl) (by rfl) (kx_ext (X := [.inr (.long, 1)]) (x_H_row_xIB hfl hv)) rfl rfl ⟨Nat.le_of_ble_eq_true rfl, Nat.le_of_ble_eq_true rfl⟩ (Nat.le_of_ble_eq_true rfl) cw_Z_row ⟨⟨by decide, by decide, by decide⟩, Or.inl ⟨rfl, wcl_23, wca_IB⟩⟩ rfl (Or.inl rfl) rfl (Nat.lt_of_lt_of_le (Nat.lt_succ_self _) (Nat.le_of_ble_eq_true rfl)) rfl rfl rfl rfl ⟨by rw [hv], by rw [if_neg hok]⟩

set_option maxHeartbeats 4000000 in
set_option maxRecDepth 40000 in
theorem w_count {l : Launch} {h : Nat} {S : St} {i j : Int32} (hfl : l.flags = Jvm.pinnedFlags ++ [Jvm.noTraceFlag]) (hh : h < 2 ^ 31) (h0 : S.1 0 1 = nI h) : KW l (SHw h) (7, 112) m_Z_count hh_Z_count [aR 0, aI i, aI j, aR 33] S (ans (some (aI (c1H (haL S i j)))) (if c1H (haL S i j) = 0 then puL S 33 0 ((duH S h i j).toInt64) else S)) := by
  refine k_startW od_Z_count (by decide +kernel) (Nat.le_of_ble_eq_true rfl) ?_
  by_cases hok : c1H (haL S i j) = 0
  · refine ee_mono zw_of ?_
    iterate 1 refine e_sp rfl rfl rfl ?_
    refine e_ci 0 rfl rfl ?_
    iterate 3 refine e_sp rfl rfl rfl ?_
    refine e_callV1 ok_H_count rfl lk_Z_53 (by rfl) (by rfl) (kk_ext (X := [.inr (.long, 1)]) (k_H_count hh h0 hok)) rfl rfl ⟨Nat.le_of_ble_eq_true rfl, Nat.le_of_ble_eq_true rfl⟩ ⟨Nat.zero_le _, Nat.zero_le _⟩ (Nat.le_of_ble_eq_true rfl) ?_
    iterate 1 refine e_sp rfl rfl rfl ?_
    refine e_last rfl (by first | rfl | assumption) (by exact (show vp_in (nI 0) 1 from vp_in_nI (by decide) (by decide))) ?_
    refine e_goto rfl ?_
    refine e_ci 0 rfl rfl ?_
    refine e_iret rfl rfl (Nat.zero_le _) (Nat.zero_le _) ?_
    exact ⟨by rw [hok], by rw [if_pos hok]; rfl⟩
  have hv : c1H (haL S i j) = 1 := by
    revert hok
    unfold c1H
    (repeat' split) <;> first | (intro _; rfl) | (intro z; exact absurd rfl z)
  iterate 1 refine e_sp rfl rfl rfl ?_
  refine e_ci 0 rfl rfl ?_
  iterate 3 refine e_sp rfl rfl rfl ?_
  try dsimp only
  exact e_catch (hp := 13) (k9 := 4) (v := 1) ok_H_count rfl lk_Z_53 (by rfl) (by rfl) (kx_ext (X := [.inr (.long, 1)]) (x_H_count_xIB hfl hv)) rfl rfl ⟨Nat.le_of_ble_eq_true rfl, Nat.le_of_ble_eq_true rfl⟩ (Nat.le_of_ble_eq_true rfl) cw_Z_count ⟨⟨by decide, by decide, by decide⟩, Or.inl ⟨rfl, wcl_23, wca_IB⟩⟩ rfl (Or.inl rfl) rfl (Nat.lt_of_lt_of_le (Nat.lt_succ_self _) (Nat.le_of_ble_eq_true rfl)) rfl rfl rfl rfl ⟨by rw [hv], by rw [if_neg hok]⟩

set_option maxHeartbeats 4000000 in
set_option maxRecDepth 40000 in
theorem w_at {l : Launch} {h : Nat} {S : St} {x y : Int32} (hfl : l.flags = Jvm.pinnedFlags ++ [Jvm.noTraceFlag]) (hh : h < 2 ^ 31) : KW l (SHw h) (7, 112) m_Z_at hh_Z_at [aR 0, aI x, aI y, aR 33] S (ans (some (aI (atH S x y))) (if atH S x y = 0 then puL S 33 0 (b2L (if ushr (lnS S 4 h y) x &&& 1 = 1 then 1 else 0)) else S)) := by
  refine k_startW od_Z_at (by decide +kernel) (Nat.le_of_ble_eq_true rfl) ?_
  by_cases hok : atH S x y = 0
  · refine ee_mono zw_of ?_
    iterate 1 refine e_sp rfl rfl rfl ?_
    refine e_ci 0 rfl rfl ?_
    iterate 3 refine e_sp rfl rfl rfl ?_
    refine e_callV1 ok_H_at rfl lk_Z_56 (by rfl) (by rfl) (kk_ext (X := [.inr (.long, 1)]) (k_H_at hh hok)) rfl rfl ⟨Nat.le_of_ble_eq_true rfl, Nat.le_of_ble_eq_true rfl⟩ ⟨Nat.zero_le _, Nat.zero_le _⟩ (Nat.le_of_ble_eq_true rfl) ?_
    refine e_ifeq rfl (fun h1 => ?_) (fun h1 => ?_)
    · refine e_cl 0 rfl rfl ?_
      refine e_last rfl (by first | rfl | assumption) (by exact (show vp_in (nI 0) 1 from vp_in_nI (by decide) (by decide))) ?_
      refine e_goto rfl ?_
      refine e_ci 0 rfl rfl ?_
      refine e_iret rfl rfl (Nat.zero_le _) (Nat.zero_le _) ?_
      exact ⟨by rw [hok], by rw [if_pos hok, b2L]; (first | rw [if_pos h1] | rw [if_neg h1]); rfl⟩
    · refine e_cl 1 rfl rfl ?_
      refine e_goto rfl ?_
      refine e_last rfl (by first | rfl | assumption) (by exact (show vp_in (nI 0) 1 from vp_in_nI (by decide) (by decide))) ?_
      refine e_goto rfl ?_
      refine e_ci 0 rfl rfl ?_
      refine e_iret rfl rfl (Nat.zero_le _) (Nat.zero_le _) ?_
      exact ⟨by rw [hok], by rw [if_pos hok, b2L]; (first | rw [if_pos h1] | rw [if_neg h1]); rfl⟩
  have hv : atH S x y = 1 := by
    revert hok
    unfold atH
    (repeat' split) <;> first | (intro _; rfl) | (intro z; exact absurd rfl z)
  iterate 1 refine e_sp rfl rfl rfl ?_
  refine e_ci 0 rfl rfl ?_
  iterate 3 refine e_sp rfl rfl rfl ?_
  try dsimp only
  exact e_catch (hp := 20) (k9 := 4) (v := 1) ok_H_at rfl lk_Z_56 (by rfl) (by rfl) (kx_ext (X := [.inr (.long, 1)]) (x_H_at_xIB hfl hv)) rfl rfl ⟨Nat.le_of_ble_eq_true rfl, Nat.le_of_ble_eq_true rfl⟩ (Nat.le_of_ble_eq_true rfl) cw_Z_at ⟨⟨by decide, by decide, by decide⟩, Or.inl ⟨rfl, wcl_23, wca_IB⟩⟩ rfl (Or.inl rfl) rfl (Nat.lt_of_lt_of_le (Nat.lt_succ_self _) (Nat.le_of_ble_eq_true rfl)) rfl rfl rfl rfl ⟨by rw [hv], by rw [if_neg hok]⟩

set_option maxHeartbeats 4000000 in
set_option maxRecDepth 40000 in
theorem w_byteAt {l : Launch} {h : Nat} {S : St} {i : Int32} (hfl : l.flags = Jvm.pinnedFlags ++ [Jvm.noTraceFlag])  : KW l (SHw h) (7, 111) m_Z_byteAt hh_Z_byteAt [aR 0, aI i, aR 33] S (ans (some (aI (c1H (wi i 0 (szW S - 1))))) (if c1H (wi i 0 (szW S - 1)) = 0 then puL S 33 0 ((mdW S i).toInt64) else S)) := by
  refine k_startW od_Z_byteAt (by decide +kernel) (Nat.le_of_ble_eq_true rfl) ?_
  by_cases hok : c1H (wi i 0 (szW S - 1)) = 0
  · refine ee_mono zw_of ?_
    iterate 1 refine e_sp rfl rfl rfl ?_
    refine e_ci 0 rfl rfl ?_
    iterate 2 refine e_sp rfl rfl rfl ?_
    refine e_callV1 ok_H_byteAt rfl lk_Z_59 (by rfl) (by rfl) (kk_ext (X := [.inr (.long, 1)]) (k_H_byteAt hok)) rfl rfl ⟨Nat.le_of_ble_eq_true rfl, Nat.le_of_ble_eq_true rfl⟩ ⟨Nat.zero_le _, Nat.zero_le _⟩ (Nat.le_of_ble_eq_true rfl) ?_
    iterate 1 refine e_sp rfl rfl rfl ?_
    refine e_last rfl (by first | rfl | assumption) (by exact (show vp_in (nI 0) 1 from vp_in_nI (by decide) (by decide))) ?_
    refine e_goto rfl ?_
    refine e_ci 0 rfl rfl ?_
    refine e_iret rfl rfl (Nat.zero_le _) (Nat.zero_le _) ?_
    exact ⟨by rw [hok], by rw [if_pos hok]; rfl⟩
  have hv : c1H (wi i 0 (szW S - 1)) = 1 := by
    revert hok
    unfold c1H
    (repeat' split) <;> first | (intro _; rfl) | (intro z; exact absurd rfl z)
  iterate 1 refine e_sp rfl rfl rfl ?_
  refine e_ci 0 rfl rfl ?_
  iterate 2 refine e_sp rfl rfl rfl ?_
  try dsimp only
  exact e_catch (hp := 12) (k9 := 3) (v := 1) ok_H_byteAt rfl lk_Z_59 (by rfl) (by rfl) (kx_ext (X := [.inr (.long, 1)]) (x_H_byteAt_xIB hfl hv)) rfl rfl ⟨Nat.le_of_ble_eq_true rfl, Nat.le_of_ble_eq_true rfl⟩ (Nat.le_of_ble_eq_true rfl) cw_Z_byteAt ⟨⟨by decide, by decide, by decide⟩, Or.inl ⟨rfl, wcl_23, wca_IB⟩⟩ rfl (Or.inr ⟨_, rfl, rfl⟩) rfl (Nat.lt_of_lt_of_le (Nat.lt_succ_self _) (Nat.le_of_ble_eq_true rfl)) rfl rfl rfl rfl ⟨by rw [hv], by rw [if_neg hok]⟩

set_option maxHeartbeats 4000000 in
set_option maxRecDepth 40000 in
theorem w_feed {l : Launch} {h : Nat} {S : St} {b : Int32} (hfl : l.flags = Jvm.pinnedFlags ++ [Jvm.noTraceFlag])  : KW l (SHw h) (7, 111) m_Z_feed hh_Z_feed [aR 0, aI b, aR 33] S (ans (some (aI (fdH S b))) (if fdH S b = 0 then puL (tkR S b) 33 0 (((tkR S b).1 17 2).toInt64) else S)) := by
  refine k_startW od_Z_feed (by decide +kernel) (Nat.le_of_ble_eq_true rfl) ?_
  by_cases hok : fdH S b = 0
  · refine ee_mono zw_of ?_
    iterate 1 refine e_sp rfl rfl rfl ?_
    refine e_ci 0 rfl rfl ?_
    iterate 2 refine e_sp rfl rfl rfl ?_
    refine e_callV1 ok_H_feed rfl lk_Z_62 (by rfl) (by rfl) (kk_ext (X := [.inr (.long, 1)]) (k_H_feed hok)) rfl rfl ⟨Nat.le_of_ble_eq_true rfl, Nat.le_of_ble_eq_true rfl⟩ ⟨Nat.zero_le _, Nat.zero_le _⟩ (Nat.le_of_ble_eq_true rfl) ?_
    iterate 1 refine e_sp rfl rfl rfl ?_
    refine e_last rfl (by first | rfl | assumption) (by exact (show vp_in (nI 0) 1 from vp_in_nI (by decide) (by decide))) ?_
    refine e_goto rfl ?_
    refine e_ci 0 rfl rfl ?_
    refine e_iret rfl rfl (Nat.zero_le _) (Nat.zero_le _) ?_
    exact ⟨by rw [hok], by rw [if_pos hok]; rfl⟩
  by_cases hv : fdH S b = 1
  · iterate 1 refine e_sp rfl rfl rfl ?_
    refine e_ci 0 rfl rfl ?_
    iterate 2 refine e_sp rfl rfl rfl ?_
    try dsimp only
    exact e_catch (hp := 12) (k9 := 3) (v := 1) ok_H_feed rfl lk_Z_62 (by rfl) (by rfl) (kx_ext (X := [.inr (.long, 1)]) (x_H_feed_xIA hfl hv)) rfl rfl ⟨Nat.le_of_ble_eq_true rfl, Nat.le_of_ble_eq_true rfl⟩ (Nat.le_of_ble_eq_true rfl) cw_Z_feed ⟨⟨by decide, by decide, by decide⟩, Or.inl ⟨rfl, wcl_13, wca_IA⟩⟩ rfl (Or.inr ⟨_, rfl, rfl⟩) rfl (Nat.lt_of_lt_of_le (Nat.lt_succ_self _) (Nat.le_of_ble_eq_true rfl)) rfl rfl rfl rfl ⟨by rw [hv], by rw [if_neg hok]⟩
  have hv2 : fdH S b = 2 := by
    revert hok hv
    unfold fdH
    (repeat' split) <;> first | (intro _ _; rfl) | (intro z _; exact absurd rfl z) | (intro _ z; exact absurd rfl z) | (intro z; exact absurd rfl z)
  iterate 1 refine e_sp rfl rfl rfl ?_
  refine e_ci 0 rfl rfl ?_
  iterate 2 refine e_sp rfl rfl rfl ?_
  try dsimp only
  exact e_catch (hp := 15) (k9 := 3) (v := 2) ok_H_feed rfl lk_Z_62 (by rfl) (by rfl) (kx_ext (X := [.inr (.long, 1)]) (x_H_feed_xUO hfl hv2)) rfl rfl ⟨Nat.le_of_ble_eq_true rfl, Nat.le_of_ble_eq_true rfl⟩ (Nat.le_of_ble_eq_true rfl) cw_Z_feed ⟨⟨by decide, by decide, by decide⟩, Or.inr ⟨⟨_, wcl_13, by decide⟩, ⟨⟨by decide, by decide, by decide⟩, Or.inl ⟨rfl, wcl_65, wca_UO⟩⟩⟩⟩ rfl (Or.inr ⟨_, rfl, rfl⟩) rfl (Nat.lt_of_lt_of_le (Nat.lt_succ_self _) (Nat.le_of_ble_eq_true rfl)) rfl rfl rfl rfl ⟨by rw [hv2], by rw [if_neg hok]⟩

set_option maxHeartbeats 4000000 in
set_option maxRecDepth 40000 in
theorem w_context {l : Launch} {h : Nat} {S : St} {c w : Int32} (hfl : l.flags = Jvm.pinnedFlags ++ [Jvm.noTraceFlag])  : KW l (SHw h) (7, 112) m_Z_context hh_Z_context [aR 0, aI c, aI w, aR 33] S (ans (some (aI (cxC c w))) (if cxC c w = 0 then puL S 33 0 ((if w = 0 then S.1 12 c.toNatClampNeg else S.1 13 c.toNatClampNeg).toInt64) else S)) := by
  refine k_startW od_Z_context (by decide +kernel) (Nat.le_of_ble_eq_true rfl) ?_
  by_cases hok : cxC c w = 0
  · refine ee_mono zw_of ?_
    iterate 1 refine e_sp rfl rfl rfl ?_
    refine e_ci 0 rfl rfl ?_
    iterate 3 refine e_sp rfl rfl rfl ?_
    refine e_callV1 ok_H_context rfl lk_Z_71 (by rfl) (by rfl) (kk_ext (X := [.inr (.long, 1)]) (k_H_context hok)) rfl rfl ⟨Nat.le_of_ble_eq_true rfl, Nat.le_of_ble_eq_true rfl⟩ ⟨Nat.zero_le _, Nat.zero_le _⟩ (Nat.le_of_ble_eq_true rfl) ?_
    iterate 1 refine e_sp rfl rfl rfl ?_
    refine e_last rfl (by first | rfl | assumption) (by exact (show vp_in (nI 0) 1 from vp_in_nI (by decide) (by decide))) ?_
    refine e_goto rfl ?_
    refine e_ci 0 rfl rfl ?_
    refine e_iret rfl rfl (Nat.zero_le _) (Nat.zero_le _) ?_
    exact ⟨by rw [hok], by rw [if_pos hok]; rfl⟩
  by_cases hv : cxC c w = 1
  · iterate 1 refine e_sp rfl rfl rfl ?_
    refine e_ci 0 rfl rfl ?_
    iterate 3 refine e_sp rfl rfl rfl ?_
    try dsimp only
    exact e_catch (hp := 13) (k9 := 4) (v := 1) ok_H_context rfl lk_Z_71 (by rfl) (by rfl) (kx_ext (X := [.inr (.long, 1)]) (x_H_context_xIB hfl hv)) rfl rfl ⟨Nat.le_of_ble_eq_true rfl, Nat.le_of_ble_eq_true rfl⟩ (Nat.le_of_ble_eq_true rfl) cw_Z_context ⟨⟨by decide, by decide, by decide⟩, Or.inl ⟨rfl, wcl_23, wca_IB⟩⟩ rfl (Or.inl rfl) rfl (Nat.lt_of_lt_of_le (Nat.lt_succ_self _) (Nat.le_of_ble_eq_true rfl)) rfl rfl rfl rfl ⟨by rw [hv], by rw [if_neg hok]⟩
  have hv2 : cxC c w = 2 := by
    revert hok hv
    unfold cxC
    (repeat' split) <;> first | (intro _ _; rfl) | (intro z _; exact absurd rfl z) | (intro _ z; exact absurd rfl z) | (intro z; exact absurd rfl z)
  iterate 1 refine e_sp rfl rfl rfl ?_
  refine e_ci 0 rfl rfl ?_
  iterate 3 refine e_sp rfl rfl rfl ?_
  try dsimp only
  exact e_catch (hp := 17) (k9 := 4) (v := 2) ok_H_context rfl lk_Z_71 (by rfl) (by rfl) (kx_ext (X := [.inr (.long, 1)]) (x_H_context_xIA hfl hv2)) rfl rfl ⟨Nat.le_of_ble_eq_true rfl, Nat.le_of_ble_eq_true rfl⟩ (Nat.le_of_ble_eq_true rfl) cw_Z_context ⟨⟨by decide, by decide, by decide⟩, Or.inr ⟨⟨_, wcl_23, by decide⟩, ⟨⟨by decide, by decide, by decide⟩, Or.inl ⟨rfl, wcl_13, wca_IA⟩⟩⟩⟩ rfl (Or.inl rfl) rfl (Nat.lt_of_lt_of_le (Nat.lt_succ_self _) (Nat.le_of_ble_eq_true rfl)) rfl rfl rfl rfl ⟨by rw [hv2], by rw [if_neg hok]⟩

set_option maxHeartbeats 4000000 in
set_option maxRecDepth 40000 in
theorem w_pass {l : Launch} {h : Nat} {S : St} {n : Nat} (hfl : l.flags = Jvm.pinnedFlags ++ [Jvm.noTraceFlag]) (hn : szW S = nI n) (hn2 : n < 2 ^ 31) : KW l (SHw h) (7, 112) m_Z_pass hh_Z_pass [aR 0, aR 33] S (ans (some (aI (c1H (hrR S (szW S))))) (if c1H (hrR S (szW S)) = 0 then puL (ppS S n) 33 0 (((ppS S n).1 17 2).toInt64) else S)) := by
  refine k_startW od_Z_pass (by decide +kernel) (Nat.le_of_ble_eq_true rfl) ?_
  by_cases hok : c1H (hrR S (szW S)) = 0
  · refine ee_mono zw_of ?_
    iterate 1 refine e_sp rfl rfl rfl ?_
    refine e_ci 0 rfl rfl ?_
    iterate 1 refine e_sp rfl rfl rfl ?_
    refine e_callV1 ok_H_pass rfl lk_Z_67 (by rfl) (by rfl) (kk_ext (X := [.inr (.long, 1)]) (k_H_pass hn hn2 hok)) rfl rfl ⟨Nat.le_of_ble_eq_true rfl, Nat.le_of_ble_eq_true rfl⟩ ⟨Nat.zero_le _, Nat.zero_le _⟩ (Nat.le_of_ble_eq_true rfl) ?_
    iterate 1 refine e_sp rfl rfl rfl ?_
    refine e_last rfl (by first | rfl | assumption) (by exact (show vp_in (nI 0) 1 from vp_in_nI (by decide) (by decide))) ?_
    refine e_goto rfl ?_
    refine e_ci 0 rfl rfl ?_
    refine e_iret rfl rfl (Nat.zero_le _) (Nat.zero_le _) ?_
    exact ⟨by rw [hok], by rw [if_pos hok]; rfl⟩
  have hv : c1H (hrR S (szW S)) = 1 := by
    revert hok
    unfold c1H
    (repeat' split) <;> first | (intro _; rfl) | (intro z; exact absurd rfl z)
  iterate 1 refine e_sp rfl rfl rfl ?_
  refine e_ci 0 rfl rfl ?_
  iterate 1 refine e_sp rfl rfl rfl ?_
  try dsimp only
  exact e_catch (hp := 11) (k9 := 2) (v := 1) ok_H_pass rfl lk_Z_67 (by rfl) (by rfl) (kx_ext (X := [.inr (.long, 1)]) (x_H_pass_xUO hfl hv)) rfl rfl ⟨Nat.le_of_ble_eq_true rfl, Nat.le_of_ble_eq_true rfl⟩ (Nat.le_of_ble_eq_true rfl) cw_Z_pass ⟨⟨by decide, by decide, by decide⟩, Or.inl ⟨rfl, wcl_65, wca_UO⟩⟩ rfl (Or.inr ⟨_, rfl, rfl⟩) rfl (Nat.lt_of_lt_of_le (Nat.lt_succ_self _) (Nat.le_of_ble_eq_true rfl)) rfl rfl rfl rfl ⟨by rw [hv], by rw [if_neg hok]⟩

theorem okO_nat {q : Int32} (h : okO q = 0) : q = nI q.toNatClampNeg ∧ q.toNatClampNeg ≤ 7 := by
  have h9 : ¬ wi q 1 7 = 0 := fun z => absurd h (by rw [okO, if_pos z]; decide)
  obtain ⟨m, hm, rfl⟩ := wi_1n (n := 7) (by decide) h9
  rw [nI_clamp (by omega)]
  exact ⟨rfl, by omega⟩
theorem kq_ordered {l : Launch} {h : Nat} {S : St} {q : Int32} (hok : okO q = 0) : KK l (SHm h) (3, 73) m_H_ordered [aR 0, aI q] S (ans (some (aI (nI (q.toNatClampNeg * q.toNatClampNeg + 1)))) (ptS S q.toNatClampNeg)) := by
  have e := (okO_nat hok).1
  have h9 := k_H_ordered (l := l) (h := h) (S := S) (n := q.toNatClampNeg) (okO_nat hok).2 (by rw [← e]; exact hok)
  rw [← e] at h9
  exact h9
set_option maxHeartbeats 4000000 in
set_option maxRecDepth 40000 in
theorem w_ordered {l : Launch} {h : Nat} {S : St} {q : Int32} (hfl : l.flags = Jvm.pinnedFlags ++ [Jvm.noTraceFlag])  : KW l (SHw h) (7, 111) m_Z_ordered hh_Z_ordered [aR 0, aI q, aR 33] S (ans (some (aI (okO q))) (if okO q = 0 then puL (ptS S q.toNatClampNeg) 33 0 ((nI (q.toNatClampNeg * q.toNatClampNeg + 1)).toInt64) else S)) := by
  refine k_startW od_Z_ordered (by decide +kernel) (Nat.le_of_ble_eq_true rfl) ?_
  by_cases hok : okO q = 0
  · refine ee_mono zw_of ?_
    iterate 1 refine e_sp rfl rfl rfl ?_
    refine e_ci 0 rfl rfl ?_
    iterate 2 refine e_sp rfl rfl rfl ?_
    refine e_callV1 ok_H_ordered rfl lk_Z_15 (by rfl) (by rfl) (kk_ext (X := [.inr (.long, 1)]) (kq_ordered hok)) rfl rfl ⟨Nat.le_of_ble_eq_true rfl, Nat.le_of_ble_eq_true rfl⟩ ⟨Nat.zero_le _, Nat.zero_le _⟩ (Nat.le_of_ble_eq_true rfl) ?_
    iterate 1 refine e_sp rfl rfl rfl ?_
    refine e_last rfl (by first | rfl | assumption) (by exact (show vp_in (nI 0) 1 from vp_in_nI (by decide) (by decide))) ?_
    refine e_goto rfl ?_
    refine e_ci 0 rfl rfl ?_
    refine e_iret rfl rfl (Nat.zero_le _) (Nat.zero_le _) ?_
    exact ⟨by rw [hok], by rw [if_pos hok]; rfl⟩
  have hv : okO q = 1 := by
    revert hok
    unfold okO
    (repeat' split) <;> first | (intro _; rfl) | (intro z; exact absurd rfl z)
  iterate 1 refine e_sp rfl rfl rfl ?_
  refine e_ci 0 rfl rfl ?_
  iterate 2 refine e_sp rfl rfl rfl ?_
  try dsimp only
  exact e_catch (hp := 12) (k9 := 3) (v := 1) ok_H_ordered rfl lk_Z_15 (by rfl) (by rfl) (kx_ext (X := [.inr (.long, 1)]) (x_H_ordered_xIA hfl hv)) rfl rfl ⟨Nat.le_of_ble_eq_true rfl, Nat.le_of_ble_eq_true rfl⟩ (Nat.le_of_ble_eq_true rfl) cw_Z_ordered ⟨⟨by decide, by decide, by decide⟩, Or.inl ⟨rfl, wcl_13, wca_IA⟩⟩ rfl (Or.inr ⟨_, rfl, rfl⟩) rfl (Nat.lt_of_lt_of_le (Nat.lt_succ_self _) (Nat.le_of_ble_eq_true rfl)) rfl rfl rfl rfl ⟨by rw [hv], by rw [if_neg hok]⟩

