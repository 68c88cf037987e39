/-! the constructors -/
def df0 (t : FieldType) (x : Option Nat) : Bool := match x, defaultValue t with
  | none, .int v => v == 0
  | some q, .null => decide (1000 ≤ q)
  | _, _ => false
theorem df0_of {t : FieldType} {x : Option Nat} (h : df0 t x = true) (ad : Nat → Nat) (j : Nat) : defaultValue t = fldV ad (fun _ => 0) j x := by
  unfold df0 at h
  split at h
  next v e => rw [e]; simp only [beq_iff_eq] at h; rw [h]; rfl
  next q e => rw [e]; have := of_decide_eq_true h; unfold fldV; simp only; rw [if_neg (by omega)]
  next => cases h
theorem df9 {fl : List (Option Nat)} {ty : Nat → FieldType} {n : Nat} (h : (fl.length == n && (List.range n).all (fun j => df0 (ty j) (fl.getD j none))) = true) (ad : Nat → Nat) (j : Nat) (hj : j < n) : defaultValue (ty j) = vp_V (fl.mapIdx (fldV ad (fun _ => 0))) j := by
  rw [Bool.and_eq_true, beq_iff_eq] at h
  have h2 := List.all_eq_true.mp h.2 j (List.mem_range.mpr hj)
  have hl : j < fl.length := by rw [h.1]; exact hj
  rw [df0_of h2 ad j]
  simp [vp_V, List.getD, hl]
theorem aw_int : Jvm.Cond.arrayClass .int ∈ gw := gw_in (by decide +kernel) rfl
theorem aw_long : Jvm.Cond.arrayClass .long ∈ gw := gw_in (by decide +kernel) rfl
theorem aw_byte : Jvm.Cond.arrayClass .byte ∈ gw := gw_in (by decide +kernel) rfl
theorem aw_boolean : Jvm.Cond.arrayClass .boolean ∈ gw := gw_in (by decide +kernel) rfl
set_option maxRecDepth 100000 in
theorem in9_C : Jvm.Cond.instantiable R_C 1 ∈ gw := gw_in (List.mem_of_getElem? (i := 156) rfl) rfl
set_option maxRecDepth 100000 in
theorem ii9_C : Jvm.Cond.initialized R_C ∈ gw := gw_in (List.mem_of_getElem? (i := 58) rfl) rfl
set_option maxRecDepth 100000 in
theorem df_C : ∀ (ad : Nat → Nat) (j : Nat), j < 1 → defaultValue (ty_C j) = vp_V (([some 1000] : List (Option Nat)).mapIdx (fldV ad (fun _ => 0))) j := fun ad j hj => df9 (fl := [some 1000]) (ty := ty_C) (by decide +kernel) ad j hj
set_option maxRecDepth 100000 in
theorem in9_F : Jvm.Cond.instantiable R_F 2 ∈ gw := gw_in (List.mem_of_getElem? (i := 166) rfl) rfl
set_option maxRecDepth 100000 in
theorem ii9_F : Jvm.Cond.initialized R_F ∈ gw := gw_in (List.mem_of_getElem? (i := 59) rfl) rfl
set_option maxRecDepth 100000 in
theorem df_F : ∀ (ad : Nat → Nat) (j : Nat), j < 2 → defaultValue (ty_F j) = vp_V (([some 1000, some 1000] : List (Option Nat)).mapIdx (fldV ad (fun _ => 0))) j := fun ad j hj => df9 (fl := [some 1000, some 1000]) (ty := ty_F) (by decide +kernel) ad j hj
set_option maxRecDepth 100000 in
theorem in9_L : Jvm.Cond.instantiable R_L 7 ∈ gw := gw_in (List.mem_of_getElem? (i := 126) rfl) rfl
set_option maxRecDepth 100000 in
theorem ii9_L : Jvm.Cond.initialized R_L ∈ gw := gw_in (List.mem_of_getElem? (i := 57) rfl) rfl
set_option maxRecDepth 100000 in
theorem df_L : ∀ (ad : Nat → Nat) (j : Nat), j < 7 → defaultValue (ty_L j) = vp_V (([some 1000, none, none, none, none, none, none] : List (Option Nat)).mapIdx (fldV ad (fun _ => 0))) j := fun ad j hj => df9 (fl := [some 1000, none, none, none, none, none, none]) (ty := ty_L) (by decide +kernel) ad j hj
set_option maxRecDepth 100000 in
theorem in9_P : Jvm.Cond.instantiable R_P 2 ∈ gw := gw_in (List.mem_of_getElem? (i := 190) rfl) rfl
set_option maxRecDepth 100000 in
theorem ii9_P : Jvm.Cond.initialized R_P ∈ gw := gw_in (List.mem_of_getElem? (i := 62) rfl) rfl
set_option maxRecDepth 100000 in
theorem df_P : ∀ (ad : Nat → Nat) (j : Nat), j < 2 → defaultValue (ty_P j) = vp_V (([none, none] : List (Option Nat)).mapIdx (fldV ad (fun _ => 0))) j := fun ad j hj => df9 (fl := [none, none]) (ty := ty_P) (by decide +kernel) ad j hj
set_option maxRecDepth 100000 in
theorem in9_B : Jvm.Cond.instantiable R_B 4 ∈ gw := gw_in (List.mem_of_getElem? (i := 103) rfl) rfl
set_option maxRecDepth 100000 in
theorem ii9_B : Jvm.Cond.initialized R_B ∈ gw := gw_in (List.mem_of_getElem? (i := 56) rfl) rfl
set_option maxRecDepth 100000 in
theorem df_B : ∀ (ad : Nat → Nat) (j : Nat), j < 4 → defaultValue (ty_B j) = vp_V (([some 1000, none, none, none] : List (Option Nat)).mapIdx (fldV ad (fun _ => 0))) j := fun ad j hj => df9 (fl := [some 1000, none, none, none]) (ty := ty_B) (by decide +kernel) ad j hj
set_option maxRecDepth 100000 in
theorem in9_R : Jvm.Cond.instantiable R_R 8 ∈ gw := gw_in (List.mem_of_getElem? (i := 221) rfl) rfl
set_option maxRecDepth 100000 in
theorem ii9_R : Jvm.Cond.initialized R_R ∈ gw := gw_in (List.mem_of_getElem? (i := 63) rfl) rfl
set_option maxRecDepth 100000 in
theorem df_R : ∀ (ad : Nat → Nat) (j : Nat), j < 8 → defaultValue (ty_R j) = vp_V (([some 1000, some 1000, none, none, none, none, none, none] : List (Option Nat)).mapIdx (fldV ad (fun _ => 0))) j := fun ad j hj => df9 (fl := [some 1000, some 1000, none, none, none, none, none, none]) (ty := ty_R) (by decide +kernel) ad j hj
set_option maxRecDepth 100000 in
theorem in9_W : Jvm.Cond.instantiable R_W 5 ∈ gw := gw_in (List.mem_of_getElem? (i := 184) rfl) rfl
set_option maxRecDepth 100000 in
theorem ii9_W : Jvm.Cond.initialized R_W ∈ gw := gw_in (List.mem_of_getElem? (i := 61) rfl) rfl
set_option maxRecDepth 100000 in
theorem df_W : ∀ (ad : Nat → Nat) (j : Nat), j < 5 → defaultValue (ty_W j) = vp_V (([some 1000, some 1000, none, none, none] : List (Option Nat)).mapIdx (fldV ad (fun _ => 0))) j := fun ad j hj => df9 (fl := [some 1000, some 1000, none, none, none]) (ty := ty_W) (by decide +kernel) ad j hj
set_option maxRecDepth 100000 in
theorem in9_S : Jvm.Cond.instantiable R_S 2 ∈ gw := gw_in (List.mem_of_getElem? (i := 88) rfl) rfl
set_option maxRecDepth 100000 in
theorem ii9_S : Jvm.Cond.initialized R_S ∈ gw := gw_in (List.mem_of_getElem? (i := 55) rfl) rfl
set_option maxRecDepth 100000 in
theorem df_S : ∀ (ad : Nat → Nat) (j : Nat), j < 2 → defaultValue (ty_S j) = vp_V (([some 1000, none] : List (Option Nat)).mapIdx (fldV ad (fun _ => 0))) j := fun ad j hj => df9 (fl := [some 1000, none]) (ty := ty_S) (by decide +kernel) ad j hj
set_option maxRecDepth 100000 in
theorem in9_H : Jvm.Cond.instantiable R_H 15 ∈ gw := gw_in (List.mem_of_getElem? (i := 74) rfl) rfl
set_option maxRecDepth 100000 in
theorem ii9_H : Jvm.Cond.initialized R_H ∈ gw := gw_in (List.mem_of_getElem? (i := 53) rfl) rfl
set_option maxRecDepth 100000 in
theorem df_H : ∀ (ad : Nat → Nat) (j : Nat), j < 15 → defaultValue (ty_H j) = vp_V (([none, none, some 1000, some 1000, some 1000, some 1000, some 1000, some 1000, some 1000, some 1000, some 1000, none, none, none, none] : List (Option Nat)).mapIdx (fldV ad (fun _ => 0))) j := fun ad j hj => df9 (fl := [none, none, some 1000, some 1000, some 1000, some 1000, some 1000, some 1000, some 1000, some 1000, some 1000, none, none, none, none]) (ty := ty_H) (by decide +kernel) ad j hj
set_option maxRecDepth 100000 in
theorem in9_M : Jvm.Cond.instantiable R_M 38 ∈ gw := gw_in (List.mem_of_getElem? (i := 885) rfl) rfl
set_option maxRecDepth 100000 in
theorem ii9_M : Jvm.Cond.initialized R_M ∈ gw := gw_in (List.mem_of_getElem? (i := 64) rfl) rfl
set_option maxRecDepth 100000 in
theorem df_M : ∀ (ad : Nat → Nat) (j : Nat), j < 38 → defaultValue (ty_M j) = vp_V (([none, none, none, some 1000, some 1000, none, none, none, some 1000, none, none, none, none, none, none, some 1000, none, none, none, some 1000, none, none, some 1000, none, some 1000, some 1000, some 1000, some 1000, some 1000, none, none, none, none, none, none, none, none, none] : List (Option Nat)).mapIdx (fldV ad (fun _ => 0))) j := fun ad j hj => df9 (fl := [none, none, none, some 1000, some 1000, none, none, none, some 1000, none, none, none, none, none, none, some 1000, none, none, none, some 1000, none, none, some 1000, none, some 1000, some 1000, some 1000, some 1000, some 1000, none, none, none, none, none, none, none, none, none]) (ty := ty_M) (by decide +kernel) ad j hj
def msk (w : Int32) : Int32 := if w < 32 then ((1 : Int32) <<< (w &&& 31)) - 1 else -1
def cl9 (x : Int32) : Int32 := if 1 < (if x < 32 then x else 32) then (if x < 32 then x else 32) else 1
theorem h_lt9 {h : Nat} (h1 : 1 ≤ h) (h32 : h ≤ 32) : ¬ nI h < 1 := by
  rw [Int32.lt_iff_toInt_lt, nI_toInt (by omega)]
  show ¬ (h : Int) < 1
  omega
theorem h_nn9 {h : Nat} (h32 : h ≤ 32) : ¬ nI h < 0 := by
  rw [Int32.lt_iff_toInt_lt, nI_toInt (by omega)]
  show ¬ (h : Int) < 0
  omega
theorem h_tn9 {h : Nat} (h32 : h ≤ 32) : (nI h).toNatClampNeg = h := by
  rw [← Int32.toNat_toInt, nI_toInt (by omega)]
  rfl
def WD0 (h : Nat) : List Sh := [.inl (8, [none, none, some 1000, some 1000, some 1000, some 1000, some 1000, some 1000, some 1000, some 1000, some 1000, none, none, none, none]), .inl (7, [some 1000, none])]
def WD1 (h : Nat) : List Sh := [.inl (8, [none, none, some 1000, some 1000, some 1000, some 1000, some 1000, some 1000, some 1000, some 1000, some 1000, none, none, none, none]), .inl (7, [some 1000, none]), .inr (.int, h)]
set_option maxRecDepth 100000 in
theorem p9_S_9 : okP9 m_S_init 9 7 0 R_S T_S 2 (.array .int) := ⟨rfl, by decide, rfl, rfl, by decide +kernel, gw_in (List.mem_of_getElem? (i := 93) rfl) rfl, rfl⟩
def WD2 (h : Nat) : List Sh := [.inl (8, [none, none, some 1000, some 1000, some 1000, some 1000, some 1000, some 1000, some 1000, some 1000, some 1000, none, none, none, none]), .inl (7, [some 2, none]), .inr (.int, h)]
set_option maxRecDepth 100000 in
theorem p9_S_15 : okP9 m_S_init 15 7 1 R_S T_S 2 (.int) := ⟨rfl, by decide, rfl, rfl, by decide +kernel, gw_in (List.mem_of_getElem? (i := 94) rfl) rfl, rfl⟩
set_option maxHeartbeats 4000000 in
set_option maxRecDepth 40000 in
theorem n_S_pa {l : Launch} {h : Nat} {S : St} {w : Int32} (h1 : 1 ≤ h) (h32 : h ≤ 32) (hw : w < 32) : KN l (WD0 h) (1, 20) m_S_init [aR 1, aI w, aI (nI h)] S (WD2 h) (fun S9 => S9 = puI (nz S 2) 1 1 (msk w)) 1 32 := by
  refine k_startN ok_S_init (Nat.le_of_ble_eq_true rfl) ?_
  iterate 1 refine e_sp rfl rfl rfl ?_
  refine e_obj rfl lo_S lo_im lo_cd ⟨Nat.le_of_ble_eq_true rfl, Nat.le_of_ble_eq_true rfl⟩ (Nat.le_of_ble_eq_true rfl) ?_
  iterate 2 refine e_sp rfl rfl rfl ?_
  refine e_ci 1 rfl rfl ?_
  refine e_iclt rfl (fun h1x => absurd h1x (h_lt9 h1 h32)) (fun _ => ?_)
  iterate 1 refine e_sp rfl rfl rfl ?_
  refine e_goto rfl ?_
  refine e_newA (N := h) (nf := 3) rfl rfl (by decide) aw_int (h_nn9 h32) (h_tn9 h32) (Nat.le_trans h32 (by decide)) (Nat.le_of_ble_eq_true rfl) (Nat.lt_of_lt_of_le (Nat.lt_of_succ_le (Nat.le_of_ble_eq_true rfl)) (Nat.le_refl 3)) (show blindZ _ (WD2 h).length _ from zzN_blind) rfl rfl rfl (by constructor <;> (dsimp only [rmN]; omega)) ?_
  change EE l (WD1 h) _ _ (zG _ _ (WD1 h) _) _ _ _ _ _ _
  refine e_putA (fun _ h9 => h9) rfl p9_S_9 rfl rfl (by decide) (Nat.lt_of_lt_of_le (Nat.lt_of_succ_le (Nat.le_of_ble_eq_true rfl)) (Nat.le_refl 1000)) ?_
  change EE l (WD2 h) _ _ (zG _ _ (WD2 h) _) _ _ _ _ _ _
  iterate 2 refine e_sp rfl rfl rfl ?_
  refine e_cb 32 rfl rfl ?_
  refine e_iclt rfl (fun _ => ?_) (fun h2x => absurd h2x (fun z => z hw))
  refine e_ci 1 rfl rfl ?_
  iterate 2 refine e_sp rfl rfl rfl ?_
  refine e_ci 1 rfl rfl ?_
  iterate 1 refine e_sp rfl rfl rfl ?_
  refine e_putI (fun _ h9 => h9) rfl p9_S_15 rfl rfl ?_
  refine e_vretN rfl rfl (by omega) (by omega) ?_
  rw [msk]
  first | rw [if_pos hw] | rw [if_neg hw]
  rfl
set_option maxHeartbeats 4000000 in
set_option maxRecDepth 40000 in
theorem n_S_pb {l : Launch} {h : Nat} {S : St} {w : Int32} (h1 : 1 ≤ h) (h32 : h ≤ 32) (hw : ¬ w < 32) : KN l (WD0 h) (1, 20) m_S_init [aR 1, aI w, aI (nI h)] S (WD2 h) (fun S9 => S9 = puI (nz S 2) 1 1 (msk w)) 1 32 := by
  refine k_startN ok_S_init (Nat.le_of_ble_eq_true rfl) ?_
  iterate 1 refine e_sp rfl rfl rfl ?_
  refine e_obj rfl lo_S lo_im lo_cd ⟨Nat.le_of_ble_eq_true rfl, Nat.le_of_ble_eq_true rfl⟩ (Nat.le_of_ble_eq_true rfl) ?_
  iterate 2 refine e_sp rfl rfl rfl ?_
  refine e_ci 1 rfl rfl ?_
  refine e_iclt rfl (fun h1x => absurd h1x (h_lt9 h1 h32)) (fun _ => ?_)
  iterate 1 refine e_sp rfl rfl rfl ?_
  refine e_goto rfl ?_
  refine e_newA (N := h) (nf := 3) rfl rfl (by decide) aw_int (h_nn9 h32) (h_tn9 h32) (Nat.le_trans h32 (by decide)) (Nat.le_of_ble_eq_true rfl) (Nat.lt_of_lt_of_le (Nat.lt_of_succ_le (Nat.le_of_ble_eq_true rfl)) (Nat.le_refl 3)) (show blindZ _ (WD2 h).length _ from zzN_blind) rfl rfl rfl (by constructor <;> (dsimp only [rmN]; omega)) ?_
  change EE l (WD1 h) _ _ (zG _ _ (WD1 h) _) _ _ _ _ _ _
  refine e_putA (fun _ h9 => h9) rfl p9_S_9 rfl rfl (by decide) (Nat.lt_of_lt_of_le (Nat.lt_of_succ_le (Nat.le_of_ble_eq_true rfl)) (Nat.le_refl 1000)) ?_
  change EE l (WD2 h) _ _ (zG _ _ (WD2 h) _) _ _ _ _ _ _
  iterate 2 refine e_sp rfl rfl rfl ?_
  refine e_cb 32 rfl rfl ?_
  refine e_iclt rfl (fun h2x => absurd h2x (hw)) (fun _ => ?_)
  refine e_ci (-1) rfl rfl ?_
  refine e_goto rfl ?_
  refine e_putI (fun _ h9 => h9) rfl p9_S_15 rfl rfl ?_
  refine e_vretN rfl rfl (by omega) (by omega) ?_
  rw [msk]
  first | rw [if_pos hw] | rw [if_neg hw]
  rfl
theorem n_S_p {l : Launch} {h : Nat} {S : St} {w : Int32} (h1 : 1 ≤ h) (h32 : h ≤ 32) : KN l (WD0 h) (1, 20) m_S_init [aR 1, aI w, aI (nI h)] S (WD2 h) (fun S9 => S9 = puI (nz S 2) 1 1 (msk w)) 1 32 := by
  by_cases hw : w < 32
  · exact n_S_pa h1 h32 hw
  · exact n_S_pb h1 h32 hw
def WD3 (h : Nat) : List Sh := [.inl (8, [none, none, some 1, some 1000, some 1000, some 1000, some 1000, some 1000, some 1000, some 1000, some 1000, none, none, none, none]), .inl (7, [some 2, none]), .inr (.int, h), .inl (7, [some 1000, none])]
def WD4 (h : Nat) : List Sh := [.inl (8, [none, none, some 1, some 1000, some 1000, some 1000, some 1000, some 1000, some 1000, some 1000, some 1000, none, none, none, none]), .inl (7, [some 2, none]), .inr (.int, h), .inl (7, [some 1000, none]), .inr (.int, h)]
def WD5 (h : Nat) : List Sh := [.inl (8, [none, none, some 1, some 1000, some 1000, some 1000, some 1000, some 1000, some 1000, some 1000, some 1000, none, none, none, none]), .inl (7, [some 2, none]), .inr (.int, h), .inl (7, [some 4, none]), .inr (.int, h)]
set_option maxHeartbeats 4000000 in
set_option maxRecDepth 40000 in
theorem n_S_ra {l : Launch} {h : Nat} {S : St} {w : Int32} (h1 : 1 ≤ h) (h32 : h ≤ 32) (hw : w < 32) : KN l (WD3 h) (1, 20) m_S_init [aR 3, aI w, aI (nI h)] S (WD5 h) (fun S9 => S9 = puI (nz S 4) 3 1 (msk w)) 1 32 := by
  refine k_startN ok_S_init (Nat.le_of_ble_eq_true rfl) ?_
  iterate 1 refine e_sp rfl rfl rfl ?_
  refine e_obj rfl lo_S lo_im lo_cd ⟨Nat.le_of_ble_eq_true rfl, Nat.le_of_ble_eq_true rfl⟩ (Nat.le_of_ble_eq_true rfl) ?_
  iterate 2 refine e_sp rfl rfl rfl ?_
  refine e_ci 1 rfl rfl ?_
  refine e_iclt rfl (fun h1x => absurd h1x (h_lt9 h1 h32)) (fun _ => ?_)
  iterate 1 refine e_sp rfl rfl rfl ?_
  refine e_goto rfl ?_
  refine e_newA (N := h) (nf := 5) rfl rfl (by decide) aw_int (h_nn9 h32) (h_tn9 h32) (Nat.le_trans h32 (by decide)) (Nat.le_of_ble_eq_true rfl) (Nat.lt_of_lt_of_le (Nat.lt_of_succ_le (Nat.le_of_ble_eq_true rfl)) (Nat.le_refl 5)) (show blindZ _ (WD5 h).length _ from zzN_blind) rfl rfl rfl (by constructor <;> (dsimp only [rmN]; omega)) ?_
  change EE l (WD4 h) _ _ (zG _ _ (WD4 h) _) _ _ _ _ _ _
  refine e_putA (fun _ h9 => h9) rfl p9_S_9 rfl rfl (by decide) (Nat.lt_of_lt_of_le (Nat.lt_of_succ_le (Nat.le_of_ble_eq_true rfl)) (Nat.le_refl 1000)) ?_
  change EE l (WD5 h) _ _ (zG _ _ (WD5 h) _) _ _ _ _ _ _
  iterate 2 refine e_sp rfl rfl rfl ?_
  refine e_cb 32 rfl rfl ?_
  refine e_iclt rfl (fun _ => ?_) (fun h2x => absurd h2x (fun z => z hw))
  refine e_ci 1 rfl rfl ?_
  iterate 2 refine e_sp rfl rfl rfl ?_
  refine e_ci 1 rfl rfl ?_
  iterate 1 refine e_sp rfl rfl rfl ?_
  refine e_putI (fun _ h9 => h9) rfl p9_S_15 rfl rfl ?_
  refine e_vretN rfl rfl (by omega) (by omega) ?_
  rw [msk]
  first | rw [if_pos hw] | rw [if_neg hw]
  rfl
set_option maxHeartbeats 4000000 in
set_option maxRecDepth 40000 in
theorem n_S_rb {l : Launch} {h : Nat} {S : St} {w : Int32} (h1 : 1 ≤ h) (h32 : h ≤ 32) (hw : ¬ w < 32) : KN l (WD3 h) (1, 20) m_S_init [aR 3, aI w, aI (nI h)] S (WD5 h) (fun S9 => S9 = puI (nz S 4) 3 1 (msk w)) 1 32 := by
  refine k_startN ok_S_init (Nat.le_of_ble_eq_true rfl) ?_
  iterate 1 refine e_sp rfl rfl rfl ?_
  refine e_obj rfl lo_S lo_im lo_cd ⟨Nat.le_of_ble_eq_true rfl, Nat.le_of_ble_eq_true rfl⟩ (Nat.le_of_ble_eq_true rfl) ?_
  iterate 2 refine e_sp rfl rfl rfl ?_
  refine e_ci 1 rfl rfl ?_
  refine e_iclt rfl (fun h1x => absurd h1x (h_lt9 h1 h32)) (fun _ => ?_)
  iterate 1 refine e_sp rfl rfl rfl ?_
  refine e_goto rfl ?_
  refine e_newA (N := h) (nf := 5) rfl rfl (by decide) aw_int (h_nn9 h32) (h_tn9 h32) (Nat.le_trans h32 (by decide)) (Nat.le_of_ble_eq_true rfl) (Nat.lt_of_lt_of_le (Nat.lt_of_succ_le (Nat.le_of_ble_eq_true rfl)) (Nat.le_refl 5)) (show blindZ _ (WD5 h).length _ from zzN_blind) rfl rfl rfl (by constructor <;> (dsimp only [rmN]; omega)) ?_
  change EE l (WD4 h) _ _ (zG _ _ (WD4 h) _) _ _ _ _ _ _
  refine e_putA (fun _ h9 => h9) rfl p9_S_9 rfl rfl (by decide) (Nat.lt_of_lt_of_le (Nat.lt_of_succ_le (Nat.le_of_ble_eq_true rfl)) (Nat.le_refl 1000)) ?_
  change EE l (WD5 h) _ _ (zG _ _ (WD5 h) _) _ _ _ _ _ _
  iterate 2 refine e_sp rfl rfl rfl ?_
  refine e_cb 32 rfl rfl ?_
  refine e_iclt rfl (fun h2x => absurd h2x (hw)) (fun _ => ?_)
  refine e_ci (-1) rfl rfl ?_
  refine e_goto rfl ?_
  refine e_putI (fun _ h9 => h9) rfl p9_S_15 rfl rfl ?_
  refine e_vretN rfl rfl (by omega) (by omega) ?_
  rw [msk]
  first | rw [if_pos hw] | rw [if_neg hw]
  rfl
theorem n_S_r {l : Launch} {h : Nat} {S : St} {w : Int32} (h1 : 1 ≤ h) (h32 : h ≤ 32) : KN l (WD3 h) (1, 20) m_S_init [aR 3, aI w, aI (nI h)] S (WD5 h) (fun S9 => S9 = puI (nz S 4) 3 1 (msk w)) 1 32 := by
  by_cases hw : w < 32
  · exact n_S_ra h1 h32 hw
  · exact n_S_rb h1 h32 hw
def WD6 (h : Nat) : List Sh := [.inl (8, [none, none, some 1, some 3, some 1000, some 1000, some 1000, some 1000, some 1000, some 1000, some 1000, none, none, none, none]), .inl (7, [some 2, none]), .inr (.int, h), .inl (7, [some 4, none]), .inr (.int, h), .inl (4, [some 1000, none, none, none])]
def WD7 (h : Nat) : List Sh := [.inl (8, [none, none, some 1, some 3, some 1000, some 1000, some 1000, some 1000, some 1000, some 1000, some 1000, none, none, none, none]), .inl (7, [some 2, none]), .inr (.int, h), .inl (7, [some 4, none]), .inr (.int, h), .inl (4, [some 1000, none, none, none]), .inr (.long, 64)]
set_option maxRecDepth 100000 in
theorem p9_B_9 : okP9 m_B_init 9 4 0 R_B T_B 4 (.array .long) := ⟨rfl, by decide, rfl, rfl, by decide +kernel, gw_in (List.mem_of_getElem? (i := 108) rfl) rfl, rfl⟩
def WD8 (h : Nat) : List Sh := [.inl (8, [none, none, some 1, some 3, some 1000, some 1000, some 1000, some 1000, some 1000, some 1000, some 1000, none, none, none, none]), .inl (7, [some 2, none]), .inr (.int, h), .inl (7, [some 4, none]), .inr (.int, h), .inl (4, [some 6, none, none, none]), .inr (.long, 64)]
set_option maxHeartbeats 4000000 in
set_option maxRecDepth 40000 in
theorem n_B_5 {l : Launch} {h : Nat} {S : St}   : KN l (WD6 h) (1, 20) m_B_init [aR 5] S (WD8 h) (fun S9 => S9 = puI (puI (puI (nz S 6) 5 1 1) 5 2 1) 5 3 1) 1 64 := by
  refine k_startN ok_B_init (Nat.le_of_ble_eq_true rfl) ?_
  iterate 1 refine e_sp rfl rfl rfl ?_
  refine e_obj rfl lo_B lo_im lo_cd ⟨Nat.le_of_ble_eq_true rfl, Nat.le_of_ble_eq_true rfl⟩ (Nat.le_of_ble_eq_true rfl) ?_
  iterate 1 refine e_sp rfl rfl rfl ?_
  refine e_cb 64 rfl rfl ?_
  refine e_newA (N := 64) (nf := 7) rfl rfl (by decide) aw_long (by decide) (by decide) (by decide) (Nat.le_of_ble_eq_true rfl) (Nat.lt_of_lt_of_le (Nat.lt_of_succ_le (Nat.le_of_ble_eq_true rfl)) (Nat.le_refl 7)) (show blindZ _ (WD8 h).length _ from zzN_blind) rfl rfl rfl (by constructor <;> (dsimp only [rmN]; omega)) ?_
  change EE l (WD7 h) _ _ (zG _ _ (WD7 h) _) _ _ _ _ _ _
  refine e_putA (fun _ h9 => h9) rfl p9_B_9 rfl rfl (by decide) (Nat.lt_of_lt_of_le (Nat.lt_of_succ_le (Nat.le_of_ble_eq_true rfl)) (Nat.le_refl 1000)) ?_
  change EE l (WD8 h) _ _ (zG _ _ (WD8 h) _) _ _ _ _ _ _
  iterate 1 refine e_sp rfl rfl rfl ?_
  refine e_ci 1 rfl rfl ?_
  iterate 2 refine e_sp rfl rfl rfl ?_
  refine e_ci 1 rfl rfl ?_
  iterate 2 refine e_sp rfl rfl rfl ?_
  refine e_ci 1 rfl rfl ?_
  iterate 1 refine e_sp rfl rfl rfl ?_
  refine e_vretN rfl rfl (by omega) (by omega) ?_
  rfl
def WD9 (h : Nat) : List Sh := [.inl (8, [none, none, some 1, some 3, some 5, some 1000, some 1000, some 1000, some 1000, some 1000, some 1000, none, none, none, none]), .inl (7, [some 2, none]), .inr (.int, h), .inl (7, [some 4, none]), .inr (.int, h), .inl (4, [some 6, none, none, none]), .inr (.long, 64), .inl (2, [some 1000, none, none, none, none, none, none])]
def WD10 (h : Nat) : List Sh := [.inl (8, [none, none, some 1, some 3, some 5, some 1000, some 1000, some 1000, some 1000, some 1000, some 1000, none, none, none, none]), .inl (7, [some 2, none]), .inr (.int, h), .inl (7, [some 4, none]), .inr (.int, h), .inl (4, [some 6, none, none, none]), .inr (.long, 64), .inl (2, [some 1000, none, none, none, none, none, none]), .inr (.int, 256)]
set_option maxRecDepth 100000 in
theorem p9_L_9 : okP9 m_L_init 9 2 0 R_L T_L 7 (.array .int) := ⟨rfl, by decide, rfl, rfl, by decide +kernel, gw_in (List.mem_of_getElem? (i := 131) rfl) rfl, rfl⟩
def WD11 (h : Nat) : List Sh := [.inl (8, [none, none, some 1, some 3, some 5, some 1000, some 1000, some 1000, some 1000, some 1000, some 1000, none, none, none, none]), .inl (7, [some 2, none]), .inr (.int, h), .inl (7, [some 4, none]), .inr (.int, h), .inl (4, [some 6, none, none, none]), .inr (.long, 64), .inl (2, [some 8, none, none, none, none, none, none]), .inr (.int, 256)]
set_option maxHeartbeats 4000000 in
set_option maxRecDepth 40000 in
theorem n_L_7 {l : Launch} {h : Nat} {S : St}   : KN l (WD9 h) (1, 20) m_L_init [aR 7] S (WD11 h) (fun S9 => S9 = puI (puI (puI (nz S 8) 7 1 1) 7 2 1) 7 5 256) 1 256 := by
  refine k_startN ok_L_init (Nat.le_of_ble_eq_true rfl) ?_
  iterate 1 refine e_sp rfl rfl rfl ?_
  refine e_obj rfl lo_L lo_im lo_cd ⟨Nat.le_of_ble_eq_true rfl, Nat.le_of_ble_eq_true rfl⟩ (Nat.le_of_ble_eq_true rfl) ?_
  iterate 1 refine e_sp rfl rfl rfl ?_
  refine e_cs 256 rfl rfl ?_
  refine e_newA (N := 256) (nf := 9) rfl rfl (by decide) aw_int (by decide) (by decide) (by decide) (Nat.le_of_ble_eq_true rfl) (Nat.lt_of_lt_of_le (Nat.lt_of_succ_le (Nat.le_of_ble_eq_true rfl)) (Nat.le_refl 9)) (show blindZ _ (WD11 h).length _ from zzN_blind) rfl rfl rfl (by constructor <;> (dsimp only [rmN]; omega)) ?_
  change EE l (WD10 h) _ _ (zG _ _ (WD10 h) _) _ _ _ _ _ _
  refine e_putA (fun _ h9 => h9) rfl p9_L_9 rfl rfl (by decide) (Nat.lt_of_lt_of_le (Nat.lt_of_succ_le (Nat.le_of_ble_eq_true rfl)) (Nat.le_refl 1000)) ?_
  change EE l (WD11 h) _ _ (zG _ _ (WD11 h) _) _ _ _ _ _ _
  iterate 1 refine e_sp rfl rfl rfl ?_
  refine e_ci 1 rfl rfl ?_
  iterate 2 refine e_sp rfl rfl rfl ?_
  refine e_ci 1 rfl rfl ?_
  iterate 2 refine e_sp rfl rfl rfl ?_
  refine e_cs 256 rfl rfl ?_
  iterate 1 refine e_sp rfl rfl rfl ?_
  refine e_vretN rfl rfl (by omega) (by omega) ?_
  rfl
def WD12 (h : Nat) : List Sh := [.inl (8, [none, none, some 1, some 3, some 5, some 7, some 1000, some 1000, some 1000, some 1000, some 1000, none, none, none, none]), .inl (7, [some 2, none]), .inr (.int, h), .inl (7, [some 4, none]), .inr (.int, h), .inl (4, [some 6, none, none, none]), .inr (.long, 64), .inl (2, [some 8, none, none, none, none, none, none]), .inr (.int, 256), .inl (0, [some 1000])]
def WD13 (h : Nat) : List Sh := [.inl (8, [none, none, some 1, some 3, some 5, some 7, some 1000, some 1000, some 1000, some 1000, some 1000, none, none, none, none]), .inl (7, [some 2, none]), .inr (.int, h), .inl (7, [some 4, none]), .inr (.int, h), .inl (4, [some 6, none, none, none]), .inr (.long, 64), .inl (2, [some 8, none, none, none, none, none, none]), .inr (.int, 256), .inl (0, [some 1000]), .inr (.int, 256)]
set_option maxRecDepth 100000 in
theorem p9_C_9 : okP9 m_C_init 9 0 0 R_C T_C 1 (.array .int) := ⟨rfl, by decide, rfl, rfl, by decide +kernel, gw_in (List.mem_of_getElem? (i := 161) rfl) rfl, rfl⟩
def WD14 (h : Nat) : List Sh := [.inl (8, [none, none, some 1, some 3, some 5, some 7, some 1000, some 1000, some 1000, some 1000, some 1000, none, none, none, none]), .inl (7, [some 2, none]), .inr (.int, h), .inl (7, [some 4, none]), .inr (.int, h), .inl (4, [some 6, none, none, none]), .inr (.long, 64), .inl (2, [some 8, none, none, none, none, none, none]), .inr (.int, 256), .inl (0, [some 10]), .inr (.int, 256)]
set_option maxHeartbeats 4000000 in
set_option maxRecDepth 40000 in
theorem n_C_9 {l : Launch} {h : Nat} {S : St}   : KN l (WD12 h) (1, 20) m_C_init [aR 9] S (WD14 h) (fun S9 => S9 = nz S 10) 1 256 := by
  refine k_startN ok_C_init (Nat.le_of_ble_eq_true rfl) ?_
  iterate 1 refine e_sp rfl rfl rfl ?_
  refine e_obj rfl lo_C lo_im lo_cd ⟨Nat.le_of_ble_eq_true rfl, Nat.le_of_ble_eq_true rfl⟩ (Nat.le_of_ble_eq_true rfl) ?_
  iterate 1 refine e_sp rfl rfl rfl ?_
  refine e_cs 256 rfl rfl ?_
  refine e_newA (N := 256) (nf := 11) rfl rfl (by decide) aw_int (by decide) (by decide) (by decide) (Nat.le_of_ble_eq_true rfl) (Nat.lt_of_lt_of_le (Nat.lt_of_succ_le (Nat.le_of_ble_eq_true rfl)) (Nat.le_refl 11)) (show blindZ _ (WD14 h).length _ from zzN_blind) rfl rfl rfl (by constructor <;> (dsimp only [rmN]; omega)) ?_
  change EE l (WD13 h) _ _ (zG _ _ (WD13 h) _) _ _ _ _ _ _
  refine e_putA (fun _ h9 => h9) rfl p9_C_9 rfl rfl (by decide) (Nat.lt_of_lt_of_le (Nat.lt_of_succ_le (Nat.le_of_ble_eq_true rfl)) (Nat.le_refl 1000)) ?_
  change EE l (WD14 h) _ _ (zG _ _ (WD14 h) _) _ _ _ _ _ _
  refine e_vretN rfl rfl (by omega) (by omega) ?_
  rfl
def WD15 (h : Nat) : List Sh := [.inl (8, [none, none, some 1, some 3, some 5, some 7, some 9, some 1000, some 1000, some 1000, some 1000, none, none, none, none]), .inl (7, [some 2, none]), .inr (.int, h), .inl (7, [some 4, none]), .inr (.int, h), .inl (4, [some 6, none, none, none]), .inr (.long, 64), .inl (2, [some 8, none, none, none, none, none, none]), .inr (.int, 256), .inl (0, [some 10]), .inr (.int, 256), .inl (1, [some 1000, some 1000])]
def WD16 (h : Nat) : List Sh := [.inl (8, [none, none, some 1, some 3, some 5, some 7, some 9, some 1000, some 1000, some 1000, some 1000, none, none, none, none]), .inl (7, [some 2, none]), .inr (.int, h), .inl (7, [some 4, none]), .inr (.int, h), .inl (4, [some 6, none, none, none]), .inr (.long, 64), .inl (2, [some 8, none, none, none, none, none, none]), .inr (.int, 256), .inl (0, [some 10]), .inr (.int, 256), .inl (1, [some 1000, some 1000]), .inr (.int, 64)]
set_option maxRecDepth 100000 in
theorem p9_F_9 : okP9 m_F_init 9 1 0 R_F T_F 2 (.array .int) := ⟨rfl, by decide, rfl, rfl, by decide +kernel, gw_in (List.mem_of_getElem? (i := 174) rfl) rfl, rfl⟩
def WD17 (h : Nat) : List Sh := [.inl (8, [none, none, some 1, some 3, some 5, some 7, some 9, some 1000, some 1000, some 1000, some 1000, none, none, none, none]), .inl (7, [some 2, none]), .inr (.int, h), .inl (7, [some 4, none]), .inr (.int, h), .inl (4, [some 6, none, none, none]), .inr (.long, 64), .inl (2, [some 8, none, none, none, none, none, none]), .inr (.int, 256), .inl (0, [some 10]), .inr (.int, 256), .inl (1, [some 12, some 1000]), .inr (.int, 64)]
def WD18 (h : Nat) : List Sh := [.inl (8, [none, none, some 1, some 3, some 5, some 7, some 9, some 1000, some 1000, some 1000, some 1000, none, none, none, none]), .inl (7, [some 2, none]), .inr (.int, h), .inl (7, [some 4, none]), .inr (.int, h), .inl (4, [some 6, none, none, none]), .inr (.long, 64), .inl (2, [some 8, none, none, none, none, none, none]), .inr (.int, 256), .inl (0, [some 10]), .inr (.int, 256), .inl (1, [some 12, some 1000]), .inr (.int, 64), .inr (.int, 64)]
set_option maxRecDepth 100000 in
theorem p9_F_15 : okP9 m_F_init 15 1 1 R_F T_F 2 (.array .int) := ⟨rfl, by decide, rfl, rfl, by decide +kernel, gw_in (List.mem_of_getElem? (i := 176) rfl) rfl, rfl⟩
def WD19 (h : Nat) : List Sh := [.inl (8, [none, none, some 1, some 3, some 5, some 7, some 9, some 1000, some 1000, some 1000, some 1000, none, none, none, none]), .inl (7, [some 2, none]), .inr (.int, h), .inl (7, [some 4, none]), .inr (.int, h), .inl (4, [some 6, none, none, none]), .inr (.long, 64), .inl (2, [some 8, none, none, none, none, none, none]), .inr (.int, 256), .inl (0, [some 10]), .inr (.int, 256), .inl (1, [some 12, some 13]), .inr (.int, 64), .inr (.int, 64)]
set_option maxHeartbeats 4000000 in
set_option maxRecDepth 40000 in
theorem n_F_11 {l : Launch} {h : Nat} {S : St}   : KN l (WD15 h) (1, 30) m_F_init [aR 11] S (WD19 h) (fun S9 => S9 = flI (nz (nz S 12) 13) 12 (-1) 64) 2 128 := by
  refine k_startN ok_F_init (Nat.le_of_ble_eq_true rfl) ?_
  iterate 1 refine e_sp rfl rfl rfl ?_
  refine e_obj rfl lo_F lo_im lo_cd ⟨Nat.le_of_ble_eq_true rfl, Nat.le_of_ble_eq_true rfl⟩ (Nat.le_of_ble_eq_true rfl) ?_
  iterate 1 refine e_sp rfl rfl rfl ?_
  refine e_cb 64 rfl rfl ?_
  refine e_newA (N := 64) (nf := 14) rfl rfl (by decide) aw_int (by decide) (by decide) (by decide) (Nat.le_of_ble_eq_true rfl) (Nat.lt_of_lt_of_le (Nat.lt_of_succ_le (Nat.le_of_ble_eq_true rfl)) (Nat.le_refl 14)) (show blindZ _ (WD19 h).length _ from zzN_blind) rfl rfl rfl (by constructor <;> (dsimp only [rmN]; omega)) ?_
  change EE l (WD16 h) _ _ (zG _ _ (WD16 h) _) _ _ _ _ _ _
  refine e_putA (fun _ h9 => h9) rfl p9_F_9 rfl rfl (by decide) (Nat.lt_of_lt_of_le (Nat.lt_of_succ_le (Nat.le_of_ble_eq_true rfl)) (Nat.le_refl 1000)) ?_
  change EE l (WD17 h) _ _ (zG _ _ (WD17 h) _) _ _ _ _ _ _
  iterate 1 refine e_sp rfl rfl rfl ?_
  refine e_cb 64 rfl rfl ?_
  refine e_newA (N := 64) (nf := 14) rfl rfl (by decide) aw_int (by decide) (by decide) (by decide) (Nat.le_of_ble_eq_true rfl) (Nat.lt_of_lt_of_le (Nat.lt_of_succ_le (Nat.le_of_ble_eq_true rfl)) (Nat.le_refl 14)) (show blindZ _ (WD19 h).length _ from zzN_blind) rfl rfl rfl (by constructor <;> (dsimp only [rmN]; omega)) ?_
  change EE l (WD18 h) _ _ (zG _ _ (WD18 h) _) _ _ _ _ _ _
  refine e_putA (fun _ h9 => h9) rfl p9_F_15 rfl rfl (by decide) (Nat.lt_of_lt_of_le (Nat.lt_of_succ_le (Nat.le_of_ble_eq_true rfl)) (Nat.le_refl 1000)) ?_
  change EE l (WD19 h) _ _ (zG _ _ (WD19 h) _) _ _ _ _ _ _
  iterate 2 refine e_sp rfl rfl rfl ?_
  refine e_ci (-1) rfl rfl ?_
  refine e_callS0 ok_JA_fill1 rfl lk_F_18 (k_JA_fill1 (by rfl) (by decide)) rfl rfl ⟨Nat.le_of_ble_eq_true rfl, Nat.le_of_ble_eq_true rfl⟩ ⟨by dsimp only [rmN]; omega, by dsimp only [rmN]; omega⟩ (Nat.le_of_ble_eq_true rfl) ?_
  refine e_vretN rfl rfl (by omega) (by omega) ?_
  rfl
def WD20 (h : Nat) : List Sh := [.inl (8, [none, none, some 1, some 3, some 5, some 7, some 9, some 11, some 1000, some 1000, some 1000, none, none, none, none]), .inl (7, [some 2, none]), .inr (.int, h), .inl (7, [some 4, none]), .inr (.int, h), .inl (4, [some 6, none, none, none]), .inr (.long, 64), .inl (2, [some 8, none, none, none, none, none, none]), .inr (.int, 256), .inl (0, [some 10]), .inr (.int, 256), .inl (1, [some 12, some 13]), .inr (.int, 64), .inr (.int, 64), .inl (6, [some 15, some 1000, none, none, none]), .inr (.byte, 384), .inl (3, [none, none])]
set_option maxHeartbeats 4000000 in
set_option maxRecDepth 40000 in
theorem n_P_16 {l : Launch} {h : Nat} {S : St}   : KN l (WD20 h) (1, 20) m_P_init [aR 16] S (WD20 h) (fun S9 => S9 = S) 0 0 := by
  refine k_startN ok_P_init (Nat.le_of_ble_eq_true rfl) ?_
  iterate 1 refine e_sp rfl rfl rfl ?_
  refine e_obj rfl lo_P lo_im lo_cd ⟨Nat.le_of_ble_eq_true rfl, Nat.le_of_ble_eq_true rfl⟩ (Nat.le_of_ble_eq_true rfl) ?_
  refine e_vretN rfl rfl (by omega) (by omega) ?_
  rfl
def WD21 (h : Nat) : List Sh := [.inl (8, [none, none, some 1, some 3, some 5, some 7, some 9, some 11, some 1000, some 1000, some 1000, none, none, none, none]), .inl (7, [some 2, none]), .inr (.int, h), .inl (7, [some 4, none]), .inr (.int, h), .inl (4, [some 6, none, none, none]), .inr (.long, 64), .inl (2, [some 8, none, none, none, none, none, none]), .inr (.int, 256), .inl (0, [some 10]), .inr (.int, 256), .inl (1, [some 12, some 13]), .inr (.int, 64), .inr (.int, 64), .inl (6, [some 1000, some 1000, none, none, none])]
def WD22 (h : Nat) : List Sh := [.inl (8, [none, none, some 1, some 3, some 5, some 7, some 9, some 11, some 1000, some 1000, some 1000, none, none, none, none]), .inl (7, [some 2, none]), .inr (.int, h), .inl (7, [some 4, none]), .inr (.int, h), .inl (4, [some 6, none, none, none]), .inr (.long, 64), .inl (2, [some 8, none, none, none, none, none, none]), .inr (.int, 256), .inl (0, [some 10]), .inr (.int, 256), .inl (1, [some 12, some 13]), .inr (.int, 64), .inr (.int, 64), .inl (6, [some 1000, some 1000, none, none, none]), .inr (.byte, 384)]
set_option maxRecDepth 100000 in
theorem p9_W_9 : okP9 m_W_init 9 6 0 R_W T_W 5 (.array .byte) := ⟨rfl, by decide, rfl, rfl, by decide +kernel, gw_in (List.mem_of_getElem? (i := 203) rfl) rfl, rfl⟩
def WD23 (h : Nat) : List Sh := [.inl (8, [none, none, some 1, some 3, some 5, some 7, some 9, some 11, some 1000, some 1000, some 1000, none, none, none, none]), .inl (7, [some 2, none]), .inr (.int, h), .inl (7, [some 4, none]), .inr (.int, h), .inl (4, [some 6, none, none, none]), .inr (.long, 64), .inl (2, [some 8, none, none, none, none, none, none]), .inr (.int, 256), .inl (0, [some 10]), .inr (.int, 256), .inl (1, [some 12, some 13]), .inr (.int, 64), .inr (.int, 64), .inl (6, [some 15, some 1000, none, none, none]), .inr (.byte, 384)]
set_option maxRecDepth 100000 in
theorem cl_W_15 : Jvm.Cond.classLink "HalftoneRegions$RunWriter" 15 R_P ∈ gw := gw_in (List.mem_of_getElem? (i := 189) rfl) rfl
set_option maxRecDepth 100000 in
theorem p9_W_18 : okP9 m_W_init 18 6 1 R_W T_W 5 (.object "HalftoneRegions$Pace") := ⟨rfl, by decide, rfl, rfl, by decide +kernel, gw_in (List.mem_of_getElem? (i := 204) rfl) rfl, rfl⟩
def WD24 (h : Nat) : List Sh := [.inl (8, [none, none, some 1, some 3, some 5, some 7, some 9, some 11, some 1000, some 1000, some 1000, none, none, none, none]), .inl (7, [some 2, none]), .inr (.int, h), .inl (7, [some 4, none]), .inr (.int, h), .inl (4, [some 6, none, none, none]), .inr (.long, 64), .inl (2, [some 8, none, none, none, none, none, none]), .inr (.int, 256), .inl (0, [some 10]), .inr (.int, 256), .inl (1, [some 12, some 13]), .inr (.int, 64), .inr (.int, 64), .inl (6, [some 15, some 16, none, none, none]), .inr (.byte, 384), .inl (3, [none, none])]
set_option maxHeartbeats 4000000 in
set_option maxRecDepth 40000 in
theorem n_W_14 {l : Launch} {h : Nat} {S : St}   : KN l (WD21 h) (2, 40) m_W_init [aR 14] S (WD24 h) (fun S9 => S9 = nz (nz S 15) 16) 2 386 := by
  refine k_startN ok_W_init (Nat.le_of_ble_eq_true rfl) ?_
  iterate 1 refine e_sp rfl rfl rfl ?_
  refine e_obj rfl lo_W lo_im lo_cd ⟨Nat.le_of_ble_eq_true rfl, Nat.le_of_ble_eq_true rfl⟩ (Nat.le_of_ble_eq_true rfl) ?_
  iterate 1 refine e_sp rfl rfl rfl ?_
  refine e_cs 384 rfl rfl ?_
  refine e_newA (N := 384) (nf := 17) rfl rfl (by decide) aw_byte (by decide) (by decide) (by decide) (Nat.le_of_ble_eq_true rfl) (Nat.lt_of_lt_of_le (Nat.lt_of_succ_le (Nat.le_of_ble_eq_true rfl)) (Nat.le_refl 17)) (show blindZ _ (WD24 h).length _ from zzN_blind) rfl rfl rfl (by constructor <;> (dsimp only [rmN]; omega)) ?_
  change EE l (WD22 h) _ _ (zG _ _ (WD22 h) _) _ _ _ _ _ _
  refine e_putA (fun _ h9 => h9) rfl p9_W_9 rfl rfl (by decide) (Nat.lt_of_lt_of_le (Nat.lt_of_succ_le (Nat.le_of_ble_eq_true rfl)) (Nat.le_refl 1000)) ?_
  change EE l (WD23 h) _ _ (zG _ _ (WD23 h) _) _ _ _ _ _ _
  iterate 1 refine e_sp rfl rfl rfl ?_
  refine e_newO (ci := 3) (fl := [none, none]) (nf := 17) rfl cl_W_15 in9_P ii9_P rfl ty_P_ok df_P (Nat.le_of_ble_eq_true rfl) (Nat.lt_of_lt_of_le (Nat.lt_of_succ_le (Nat.le_of_ble_eq_true rfl)) (Nat.le_refl 17)) (show blindZ _ (WD24 h).length _ from zzN_blind) rfl rfl rfl (by constructor <;> (dsimp only [rmN]; omega)) ?_
  change EE l (WD20 h) _ _ (zG _ _ (WD20 h) _) _ _ _ _ _ _
  iterate 1 refine e_sp rfl rfl rfl ?_
  refine e_callJ (nf := 17) ok_P_init rfl li_W_17 n_P_16 rfl rfl rfl ⟨Nat.le_of_ble_eq_true rfl, Nat.le_of_ble_eq_true rfl⟩ (by constructor <;> (dsimp only [rmN]; omega)) (Nat.le_of_ble_eq_true rfl) (Nat.le_of_ble_eq_true rfl) (Nat.le_of_ble_eq_true rfl) (Nat.le_of_ble_eq_true rfl) (show blindZ _ (WD24 h).length _ from zzN_blind) rfl rfl (fun _ hq9 => ?_)
  subst hq9
  refine e_putA (fun _ h9 => h9) rfl p9_W_18 rfl rfl (by decide) (Nat.lt_of_lt_of_le (Nat.lt_of_succ_le (Nat.le_of_ble_eq_true rfl)) (Nat.le_refl 1000)) ?_
  change EE l (WD24 h) _ _ (zG _ _ (WD24 h) _) _ _ _ _ _ _
  refine e_vretN rfl rfl (by omega) (by omega) ?_
  rfl
def WD25 (h : Nat) : List Sh := [.inl (8, [none, none, some 1, some 3, some 5, some 7, some 9, some 11, some 14, some 1000, some 1000, none, none, none, none]), .inl (7, [some 2, none]), .inr (.int, h), .inl (7, [some 4, none]), .inr (.int, h), .inl (4, [some 6, none, none, none]), .inr (.long, 64), .inl (2, [some 8, none, none, none, none, none, none]), .inr (.int, 256), .inl (0, [some 10]), .inr (.int, 256), .inl (1, [some 12, some 13]), .inr (.int, 64), .inr (.int, 64), .inl (6, [some 15, some 16, none, none, none]), .inr (.byte, 384), .inl (3, [none, none]), .inl (5, [some 18, some 1000, none, none, none, none, none, none]), .inr (.byte, 3000), .inl (3, [none, none])]
set_option maxHeartbeats 4000000 in
set_option maxRecDepth 40000 in
theorem n_P_19 {l : Launch} {h : Nat} {S : St}   : KN l (WD25 h) (1, 20) m_P_init [aR 19] S (WD25 h) (fun S9 => S9 = S) 0 0 := by
  refine k_startN ok_P_init (Nat.le_of_ble_eq_true rfl) ?_
  iterate 1 refine e_sp rfl rfl rfl ?_
  refine e_obj rfl lo_P lo_im lo_cd ⟨Nat.le_of_ble_eq_true rfl, Nat.le_of_ble_eq_true rfl⟩ (Nat.le_of_ble_eq_true rfl) ?_
  refine e_vretN rfl rfl (by omega) (by omega) ?_
  rfl
def WD26 (h : Nat) : List Sh := [.inl (8, [none, none, some 1, some 3, some 5, some 7, some 9, some 11, some 14, some 1000, some 1000, none, none, none, none]), .inl (7, [some 2, none]), .inr (.int, h), .inl (7, [some 4, none]), .inr (.int, h), .inl (4, [some 6, none, none, none]), .inr (.long, 64), .inl (2, [some 8, none, none, none, none, none, none]), .inr (.int, 256), .inl (0, [some 10]), .inr (.int, 256), .inl (1, [some 12, some 13]), .inr (.int, 64), .inr (.int, 64), .inl (6, [some 15, some 16, none, none, none]), .inr (.byte, 384), .inl (3, [none, none]), .inl (5, [some 1000, some 1000, none, none, none, none, none, none])]
def WD27 (h : Nat) : List Sh := [.inl (8, [none, none, some 1, some 3, some 5, some 7, some 9, some 11, some 14, some 1000, some 1000, none, none, none, none]), .inl (7, [some 2, none]), .inr (.int, h), .inl (7, [some 4, none]), .inr (.int, h), .inl (4, [some 6, none, none, none]), .inr (.long, 64), .inl (2, [some 8, none, none, none, none, none, none]), .inr (.int, 256), .inl (0, [some 10]), .inr (.int, 256), .inl (1, [some 12, some 13]), .inr (.int, 64), .inr (.int, 64), .inl (6, [some 15, some 16, none, none, none]), .inr (.byte, 384), .inl (3, [none, none]), .inl (5, [some 1000, some 1000, none, none, none, none, none, none]), .inr (.byte, 3000)]
set_option maxRecDepth 100000 in
theorem p9_R_9 : okP9 m_R_init 9 5 0 R_R T_R 8 (.array .byte) := ⟨rfl, by decide, rfl, rfl, by decide +kernel, gw_in (List.mem_of_getElem? (i := 228) rfl) rfl, rfl⟩
def WD28 (h : Nat) : List Sh := [.inl (8, [none, none, some 1, some 3, some 5, some 7, some 9, some 11, some 14, some 1000, some 1000, none, none, none, none]), .inl (7, [some 2, none]), .inr (.int, h), .inl (7, [some 4, none]), .inr (.int, h), .inl (4, [some 6, none, none, none]), .inr (.long, 64), .inl (2, [some 8, none, none, none, none, none, none]), .inr (.int, 256), .inl (0, [some 10]), .inr (.int, 256), .inl (1, [some 12, some 13]), .inr (.int, 64), .inr (.int, 64), .inl (6, [some 15, some 16, none, none, none]), .inr (.byte, 384), .inl (3, [none, none]), .inl (5, [some 18, some 1000, none, none, none, none, none, none]), .inr (.byte, 3000)]
set_option maxRecDepth 100000 in
theorem cl_R_15 : Jvm.Cond.classLink "HalftoneRegions$RunReader" 15 R_P ∈ gw := gw_in (List.mem_of_getElem? (i := 226) rfl) rfl
set_option maxRecDepth 100000 in
theorem p9_R_18 : okP9 m_R_init 18 5 1 R_R T_R 8 (.object "HalftoneRegions$Pace") := ⟨rfl, by decide, rfl, rfl, by decide +kernel, gw_in (List.mem_of_getElem? (i := 229) rfl) rfl, rfl⟩
def WD29 (h : Nat) : List Sh := [.inl (8, [none, none, some 1, some 3, some 5, some 7, some 9, some 11, some 14, some 1000, some 1000, none, none, none, none]), .inl (7, [some 2, none]), .inr (.int, h), .inl (7, [some 4, none]), .inr (.int, h), .inl (4, [some 6, none, none, none]), .inr (.long, 64), .inl (2, [some 8, none, none, none, none, none, none]), .inr (.int, 256), .inl (0, [some 10]), .inr (.int, 256), .inl (1, [some 12, some 13]), .inr (.int, 64), .inr (.int, 64), .inl (6, [some 15, some 16, none, none, none]), .inr (.byte, 384), .inl (3, [none, none]), .inl (5, [some 18, some 19, none, none, none, none, none, none]), .inr (.byte, 3000), .inl (3, [none, none])]
set_option maxHeartbeats 4000000 in
set_option maxRecDepth 40000 in
theorem n_R_17 {l : Launch} {h : Nat} {S : St}   : KN l (WD26 h) (2, 40) m_R_init [aR 17] S (WD29 h) (fun S9 => S9 = nz (nz S 18) 19) 2 3002 := by
  refine k_startN ok_R_init (Nat.le_of_ble_eq_true rfl) ?_
  iterate 1 refine e_sp rfl rfl rfl ?_
  refine e_obj rfl lo_R lo_im lo_cd ⟨Nat.le_of_ble_eq_true rfl, Nat.le_of_ble_eq_true rfl⟩ (Nat.le_of_ble_eq_true rfl) ?_
  iterate 1 refine e_sp rfl rfl rfl ?_
  refine e_cs 3000 rfl rfl ?_
  refine e_newA (N := 3000) (nf := 20) rfl rfl (by decide) aw_byte (by decide) (by decide) (by decide) (Nat.le_of_ble_eq_true rfl) (Nat.lt_of_lt_of_le (Nat.lt_of_succ_le (Nat.le_of_ble_eq_true rfl)) (Nat.le_refl 20)) (show blindZ _ (WD29 h).length _ from zzN_blind) rfl rfl rfl (by constructor <;> (dsimp only [rmN]; omega)) ?_
  change EE l (WD27 h) _ _ (zG _ _ (WD27 h) _) _ _ _ _ _ _
  refine e_putA (fun _ h9 => h9) rfl p9_R_9 rfl rfl (by decide) (Nat.lt_of_lt_of_le (Nat.lt_of_succ_le (Nat.le_of_ble_eq_true rfl)) (Nat.le_refl 1000)) ?_
  change EE l (WD28 h) _ _ (zG _ _ (WD28 h) _) _ _ _ _ _ _
  iterate 1 refine e_sp rfl rfl rfl ?_
  refine e_newO (ci := 3) (fl := [none, none]) (nf := 20) rfl cl_R_15 in9_P ii9_P rfl ty_P_ok df_P (Nat.le_of_ble_eq_true rfl) (Nat.lt_of_lt_of_le (Nat.lt_of_succ_le (Nat.le_of_ble_eq_true rfl)) (Nat.le_refl 20)) (show blindZ _ (WD29 h).length _ from zzN_blind) rfl rfl rfl (by constructor <;> (dsimp only [rmN]; omega)) ?_
  change EE l (WD25 h) _ _ (zG _ _ (WD25 h) _) _ _ _ _ _ _
  iterate 1 refine e_sp rfl rfl rfl ?_
  refine e_callJ (nf := 20) ok_P_init rfl li_R_17 n_P_19 rfl rfl rfl ⟨Nat.le_of_ble_eq_true rfl, Nat.le_of_ble_eq_true rfl⟩ (by constructor <;> (dsimp only [rmN]; omega)) (Nat.le_of_ble_eq_true rfl) (Nat.le_of_ble_eq_true rfl) (Nat.le_of_ble_eq_true rfl) (Nat.le_of_ble_eq_true rfl) (show blindZ _ (WD29 h).length _ from zzN_blind) rfl rfl (fun _ hq9 => ?_)
  subst hq9
  refine e_putA (fun _ h9 => h9) rfl p9_R_18 rfl rfl (by decide) (Nat.lt_of_lt_of_le (Nat.lt_of_succ_le (Nat.le_of_ble_eq_true rfl)) (Nat.le_refl 1000)) ?_
  change EE l (WD29 h) _ _ (zG _ _ (WD29 h) _) _ _ _ _ _ _
  refine e_vretN rfl rfl (by omega) (by omega) ?_
  rfl
/-- the store behind the class's constructor -/
def hS9 (S : St) (w : Int32) (h : Nat) : St :=
  let A := puI (puI S 0 0 w) 0 1 (nI h)
  let A := puI (nz (nz A 1) 2) 1 1 (msk w)
  let A := puI (nz (nz A 3) 4) 3 1 (msk w)
  let A := puI (puI (puI (nz (nz A 5) 6) 5 1 1) 5 2 1) 5 3 1
  let A := puI (puI (puI (nz (nz A 7) 8) 7 1 1) 7 2 1) 7 5 256
  let A := nz (nz A 9) 10
  let A := flI (nz (nz (nz A 11) 12) 13) 12 (-1) 64
  let A := nz (nz (nz A 14) 15) 16
  let A := nz (nz (nz A 17) 18) 19
  nz A 20
def WD30 (h : Nat) : List Sh := [.inl (8, [none, none, some 1000, some 1000, some 1000, some 1000, some 1000, some 1000, some 1000, some 1000, some 1000, none, none, none, none])]
set_option maxRecDepth 100000 in
theorem p9_H_18 : okP9 m_H_init 18 8 0 R_H T_H 15 (.int) := ⟨rfl, by decide, rfl, rfl, by decide +kernel, gw_in (List.mem_of_getElem? (i := 256) rfl) rfl, rfl⟩
set_option maxRecDepth 100000 in
theorem p9_H_22 : okP9 m_H_init 22 8 1 R_H T_H 15 (.int) := ⟨rfl, by decide, rfl, rfl, by decide +kernel, gw_in (List.mem_of_getElem? (i := 257) rfl) rfl, rfl⟩
set_option maxRecDepth 100000 in
theorem cl_H_25 : Jvm.Cond.classLink "HalftoneRegions" 25 R_S ∈ gw := gw_in (List.mem_of_getElem? (i := 87) rfl) rfl
set_option maxRecDepth 100000 in
theorem p9_H_30 : okP9 m_H_init 30 8 2 R_H T_H 15 (.object "HalftoneRegions$Sheet") := ⟨rfl, by decide, rfl, rfl, by decide +kernel, gw_in (List.mem_of_getElem? (i := 258) rfl) rfl, rfl⟩
def WD31 (h : Nat) : List Sh := [.inl (8, [none, none, some 1, some 1000, some 1000, some 1000, some 1000, some 1000, some 1000, some 1000, some 1000, none, none, none, none]), .inl (7, [some 2, none]), .inr (.int, h)]
set_option maxRecDepth 100000 in
theorem p9_H_34 : okP9 m_H_init 34 8 3 R_H T_H 15 (.object "HalftoneRegions$Sheet") := ⟨rfl, by decide, rfl, rfl, by decide +kernel, gw_in (List.mem_of_getElem? (i := 259) rfl) rfl, rfl⟩
def WD32 (h : Nat) : List Sh := [.inl (8, [none, none, some 1, some 3, some 1000, some 1000, some 1000, some 1000, some 1000, some 1000, some 1000, none, none, none, none]), .inl (7, [some 2, none]), .inr (.int, h), .inl (7, [some 4, none]), .inr (.int, h)]
set_option maxRecDepth 100000 in
theorem cl_H_37 : Jvm.Cond.classLink "HalftoneRegions" 37 R_B ∈ gw := gw_in (List.mem_of_getElem? (i := 102) rfl) rfl
set_option maxRecDepth 100000 in
theorem p9_H_40 : okP9 m_H_init 40 8 4 R_H T_H 15 (.object "HalftoneRegions$PatternSet") := ⟨rfl, by decide, rfl, rfl, by decide +kernel, gw_in (List.mem_of_getElem? (i := 260) rfl) rfl, rfl⟩
def WD33 (h : Nat) : List Sh := [.inl (8, [none, none, some 1, some 3, some 5, some 1000, some 1000, some 1000, some 1000, some 1000, some 1000, none, none, none, none]), .inl (7, [some 2, none]), .inr (.int, h), .inl (7, [some 4, none]), .inr (.int, h), .inl (4, [some 6, none, none, none]), .inr (.long, 64)]
set_option maxRecDepth 100000 in
theorem cl_H_44 : Jvm.Cond.classLink "HalftoneRegions" 44 R_L ∈ gw := gw_in (List.mem_of_getElem? (i := 125) rfl) rfl
set_option maxRecDepth 100000 in
theorem p9_H_47 : okP9 m_H_init 47 8 5 R_H T_H 15 (.object "HalftoneRegions$Lattice") := ⟨rfl, by decide, rfl, rfl, by decide +kernel, gw_in (List.mem_of_getElem? (i := 261) rfl) rfl, rfl⟩
def WD34 (h : Nat) : List Sh := [.inl (8, [none, none, some 1, some 3, some 5, some 7, some 1000, some 1000, some 1000, some 1000, some 1000, none, none, none, none]), .inl (7, [some 2, none]), .inr (.int, h), .inl (7, [some 4, none]), .inr (.int, h), .inl (4, [some 6, none, none, none]), .inr (.long, 64), .inl (2, [some 8, none, none, none, none, none, none]), .inr (.int, 256)]
set_option maxRecDepth 100000 in
theorem cl_H_51 : Jvm.Cond.classLink "HalftoneRegions" 51 R_C ∈ gw := gw_in (List.mem_of_getElem? (i := 155) rfl) rfl
set_option maxRecDepth 100000 in
theorem p9_H_54 : okP9 m_H_init 54 8 6 R_H T_H 15 (.object "HalftoneRegions$Codes") := ⟨rfl, by decide, rfl, rfl, by decide +kernel, gw_in (List.mem_of_getElem? (i := 262) rfl) rfl, rfl⟩
def WD35 (h : Nat) : List Sh := [.inl (8, [none, none, some 1, some 3, some 5, some 7, some 9, some 1000, some 1000, some 1000, some 1000, none, none, none, none]), .inl (7, [some 2, none]), .inr (.int, h), .inl (7, [some 4, none]), .inr (.int, h), .inl (4, [some 6, none, none, none]), .inr (.long, 64), .inl (2, [some 8, none, none, none, none, none, none]), .inr (.int, 256), .inl (0, [some 10]), .inr (.int, 256)]
set_option maxRecDepth 100000 in
theorem cl_H_58 : Jvm.Cond.classLink "HalftoneRegions" 58 R_F ∈ gw := gw_in (List.mem_of_getElem? (i := 165) rfl) rfl
set_option maxRecDepth 100000 in
theorem p9_H_61 : okP9 m_H_init 61 8 7 R_H T_H 15 (.object "HalftoneRegions$Forecast") := ⟨rfl, by decide, rfl, rfl, by decide +kernel, gw_in (List.mem_of_getElem? (i := 263) rfl) rfl, rfl⟩
def WD36 (h : Nat) : List Sh := [.inl (8, [none, none, some 1, some 3, some 5, some 7, some 9, some 11, some 1000, some 1000, some 1000, none, none, none, none]), .inl (7, [some 2, none]), .inr (.int, h), .inl (7, [some 4, none]), .inr (.int, h), .inl (4, [some 6, none, none, none]), .inr (.long, 64), .inl (2, [some 8, none, none, none, none, none, none]), .inr (.int, 256), .inl (0, [some 10]), .inr (.int, 256), .inl (1, [some 12, some 13]), .inr (.int, 64), .inr (.int, 64)]
set_option maxRecDepth 100000 in
theorem cl_H_65 : Jvm.Cond.classLink "HalftoneRegions" 65 R_W ∈ gw := gw_in (List.mem_of_getElem? (i := 183) rfl) rfl
set_option maxRecDepth 100000 in
theorem p9_H_68 : okP9 m_H_init 68 8 8 R_H T_H 15 (.object "HalftoneRegions$RunWriter") := ⟨rfl, by decide, rfl, rfl, by decide +kernel, gw_in (List.mem_of_getElem? (i := 264) rfl) rfl, rfl⟩
def WD37 (h : Nat) : List Sh := [.inl (8, [none, none, some 1, some 3, some 5, some 7, some 9, some 11, some 14, some 1000, some 1000, none, none, none, none]), .inl (7, [some 2, none]), .inr (.int, h), .inl (7, [some 4, none]), .inr (.int, h), .inl (4, [some 6, none, none, none]), .inr (.long, 64), .inl (2, [some 8, none, none, none, none, none, none]), .inr (.int, 256), .inl (0, [some 10]), .inr (.int, 256), .inl (1, [some 12, some 13]), .inr (.int, 64), .inr (.int, 64), .inl (6, [some 15, some 16, none, none, none]), .inr (.byte, 384), .inl (3, [none, none])]
set_option maxRecDepth 100000 in
theorem cl_H_72 : Jvm.Cond.classLink "HalftoneRegions" 72 R_R ∈ gw := gw_in (List.mem_of_getElem? (i := 220) rfl) rfl
set_option maxRecDepth 100000 in
theorem p9_H_75 : okP9 m_H_init 75 8 9 R_H T_H 15 (.object "HalftoneRegions$RunReader") := ⟨rfl, by decide, rfl, rfl, by decide +kernel, gw_in (List.mem_of_getElem? (i := 265) rfl) rfl, rfl⟩
def WD38 (h : Nat) : List Sh := [.inl (8, [none, none, some 1, some 3, some 5, some 7, some 9, some 11, some 14, some 17, some 1000, none, none, none, none]), .inl (7, [some 2, none]), .inr (.int, h), .inl (7, [some 4, none]), .inr (.int, h), .inl (4, [some 6, none, none, none]), .inr (.long, 64), .inl (2, [some 8, none, none, none, none, none, none]), .inr (.int, 256), .inl (0, [some 10]), .inr (.int, 256), .inl (1, [some 12, some 13]), .inr (.int, 64), .inr (.int, 64), .inl (6, [some 15, some 16, none, none, none]), .inr (.byte, 384), .inl (3, [none, none]), .inl (5, [some 18, some 19, none, none, none, none, none, none]), .inr (.byte, 3000), .inl (3, [none, none])]
def WD39 (h : Nat) : List Sh := [.inl (8, [none, none, some 1, some 3, some 5, some 7, some 9, some 11, some 14, some 17, some 1000, none, none, none, none]), .inl (7, [some 2, none]), .inr (.int, h), .inl (7, [some 4, none]), .inr (.int, h), .inl (4, [some 6, none, none, none]), .inr (.long, 64), .inl (2, [some 8, none, none, none, none, none, none]), .inr (.int, 256), .inl (0, [some 10]), .inr (.int, 256), .inl (1, [some 12, some 13]), .inr (.int, 64), .inr (.int, 64), .inl (6, [some 15, some 16, none, none, none]), .inr (.byte, 384), .inl (3, [none, none]), .inl (5, [some 18, some 19, none, none, none, none, none, none]), .inr (.byte, 3000), .inl (3, [none, none]), .inr (.int, 65)]
set_option maxRecDepth 100000 in
theorem p9_H_79 : okP9 m_H_init 79 8 10 R_H T_H 15 (.array .int) := ⟨rfl, by decide, rfl, rfl, by decide +kernel, gw_in (List.mem_of_getElem? (i := 266) rfl) rfl, rfl⟩
def WD40 (h : Nat) : List Sh := [.inl (8, [none, none, some 1, some 3, some 5, some 7, some 9, some 11, some 14, some 17, some 20, none, none, none, none]), .inl (7, [some 2, none]), .inr (.int, h), .inl (7, [some 4, none]), .inr (.int, h), .inl (4, [some 6, none, none, none]), .inr (.long, 64), .inl (2, [some 8, none, none, none, none, none, none]), .inr (.int, 256), .inl (0, [some 10]), .inr (.int, 256), .inl (1, [some 12, some 13]), .inr (.int, 64), .inr (.int, 64), .inl (6, [some 15, some 16, none, none, none]), .inr (.byte, 384), .inl (3, [none, none]), .inl (5, [some 18, some 19, none, none, none, none, none, none]), .inr (.byte, 3000), .inl (3, [none, none]), .inr (.int, 65)]
set_option maxHeartbeats 4000000 in
set_option maxRecDepth 40000 in
theorem n_H_0 {l : Launch} {h : Nat} {S : St} {a b : Int32} (hb : cl9 b = nI h) (h1 : 1 ≤ h) (h32 : h ≤ 32) : KN l (WD30 h) (3, 60) m_H_init [aR 0, aI a, aI b] S (WD40 h) (fun S9 => S9 = hS9 S (cl9 a) h) 20 5000 := by
  refine k_startN ok_H_init (Nat.le_of_ble_eq_true rfl) ?_
  iterate 1 refine e_sp rfl rfl rfl ?_
  refine e_obj rfl lo_H lo_im lo_cd ⟨Nat.le_of_ble_eq_true rfl, Nat.le_of_ble_eq_true rfl⟩ (Nat.le_of_ble_eq_true rfl) ?_
  iterate 1 refine e_sp rfl rfl rfl ?_
  refine e_ci 1 rfl rfl ?_
  refine e_cb 32 rfl rfl ?_
  iterate 1 refine e_sp rfl rfl rfl ?_
  refine e_mmin rfl mm_H_9 (Nat.le_of_ble_eq_true rfl) (Nat.le_of_ble_eq_true rfl) ⟨by dsimp only [rmN]; omega, by dsimp only [rmN]; omega⟩ ?_
  refine e_mmax rfl mm_H_15 (Nat.le_of_ble_eq_true rfl) (Nat.le_of_ble_eq_true rfl) ⟨by dsimp only [rmN]; omega, by dsimp only [rmN]; omega⟩ ?_
  refine e_putI (v := cl9 a) (fun _ h9 => h9) rfl p9_H_18 rfl rfl ?_
  iterate 1 refine e_sp rfl rfl rfl ?_
  refine e_ci 1 rfl rfl ?_
  refine e_cb 32 rfl rfl ?_
  iterate 1 refine e_sp rfl rfl rfl ?_
  refine e_mmin rfl mm_H_9 (Nat.le_of_ble_eq_true rfl) (Nat.le_of_ble_eq_true rfl) ⟨by dsimp only [rmN]; omega, by dsimp only [rmN]; omega⟩ ?_
  refine e_mmax rfl mm_H_15 (Nat.le_of_ble_eq_true rfl) (Nat.le_of_ble_eq_true rfl) ⟨by dsimp only [rmN]; omega, by dsimp only [rmN]; omega⟩ ?_
  refine e_putI (v := cl9 b) (fun _ h9 => h9) rfl p9_H_22 rfl rfl ?_
  rw [hb]
  iterate 1 refine e_sp rfl rfl rfl ?_
  refine e_newO (ci := 7) (fl := [some 1000, none]) (nf := 21) rfl cl_H_25 in9_S ii9_S rfl ty_S_ok df_S (Nat.le_of_ble_eq_true rfl) (Nat.lt_of_lt_of_le (Nat.lt_of_succ_le (Nat.le_of_ble_eq_true rfl)) (Nat.le_refl 21)) (show blindZ _ (WD40 h).length _ from zzN_blind) rfl rfl rfl (by constructor <;> (dsimp only [rmN]; omega)) ?_
  change EE l (WD0 h) _ _ (zG _ _ (WD0 h) _) _ _ _ _ _ _
  iterate 5 refine e_sp rfl rfl rfl ?_
  refine e_callI (nf := 21) ok_S_init rfl li_H_27 (n_S_p h1 h32) rfl rfl rfl ⟨Nat.le_of_ble_eq_true rfl, Nat.le_of_ble_eq_true rfl⟩ (by constructor <;> (dsimp only [rmN]; omega)) (Nat.le_of_ble_eq_true rfl) (Nat.le_of_ble_eq_true rfl) (Nat.le_of_ble_eq_true rfl) (Nat.le_of_ble_eq_true rfl) (show blindZ _ (WD40 h).length _ from zzN_blind) rfl rfl (fun _ hq9 => ?_)
  subst hq9
  refine e_putA (fun _ h9 => h9) rfl p9_H_30 rfl rfl (by decide) (Nat.lt_of_lt_of_le (Nat.lt_of_succ_le (Nat.le_of_ble_eq_true rfl)) (Nat.le_refl 1000)) ?_
  change EE l (WD31 h) _ _ (zG _ _ (WD31 h) _) _ _ _ _ _ _
  iterate 1 refine e_sp rfl rfl rfl ?_
  refine e_newO (ci := 7) (fl := [some 1000, none]) (nf := 21) rfl cl_H_25 in9_S ii9_S rfl ty_S_ok df_S (Nat.le_of_ble_eq_true rfl) (Nat.lt_of_lt_of_le (Nat.lt_of_succ_le (Nat.le_of_ble_eq_true rfl)) (Nat.le_refl 21)) (show blindZ _ (WD40 h).length _ from zzN_blind) rfl rfl rfl (by constructor <;> (dsimp only [rmN]; omega)) ?_
  change EE l (WD3 h) _ _ (zG _ _ (WD3 h) _) _ _ _ _ _ _
  iterate 5 refine e_sp rfl rfl rfl ?_
  refine e_callI (nf := 21) ok_S_init rfl li_H_27 (n_S_r h1 h32) rfl rfl rfl ⟨Nat.le_of_ble_eq_true rfl, Nat.le_of_ble_eq_true rfl⟩ (by constructor <;> (dsimp only [rmN]; omega)) (Nat.le_of_ble_eq_true rfl) (Nat.le_of_ble_eq_true rfl) (Nat.le_of_ble_eq_true rfl) (Nat.le_of_ble_eq_true rfl) (show blindZ _ (WD40 h).length _ from zzN_blind) rfl rfl (fun _ hq9 => ?_)
  subst hq9
  refine e_putA (fun _ h9 => h9) rfl p9_H_34 rfl rfl (by decide) (Nat.lt_of_lt_of_le (Nat.lt_of_succ_le (Nat.le_of_ble_eq_true rfl)) (Nat.le_refl 1000)) ?_
  change EE l (WD32 h) _ _ (zG _ _ (WD32 h) _) _ _ _ _ _ _
  iterate 1 refine e_sp rfl rfl rfl ?_
  refine e_newO (ci := 4) (fl := [some 1000, none, none, none]) (nf := 21) rfl cl_H_37 in9_B ii9_B rfl ty_B_ok df_B (Nat.le_of_ble_eq_true rfl) (Nat.lt_of_lt_of_le (Nat.lt_of_succ_le (Nat.le_of_ble_eq_true rfl)) (Nat.le_refl 21)) (show blindZ _ (WD40 h).length _ from zzN_blind) rfl rfl rfl (by constructor <;> (dsimp only [rmN]; omega)) ?_
  change EE l (WD6 h) _ _ (zG _ _ (WD6 h) _) _ _ _ _ _ _
  iterate 1 refine e_sp rfl rfl rfl ?_
  refine e_callI (nf := 21) ok_B_init rfl li_H_39 n_B_5 rfl rfl rfl ⟨Nat.le_of_ble_eq_true rfl, Nat.le_of_ble_eq_true rfl⟩ (by constructor <;> (dsimp only [rmN]; omega)) (Nat.le_of_ble_eq_true rfl) (Nat.le_of_ble_eq_true rfl) (Nat.le_of_ble_eq_true rfl) (Nat.le_of_ble_eq_true rfl) (show blindZ _ (WD40 h).length _ from zzN_blind) rfl rfl (fun _ hq9 => ?_)
  subst hq9
  refine e_putA (fun _ h9 => h9) rfl p9_H_40 rfl rfl (by decide) (Nat.lt_of_lt_of_le (Nat.lt_of_succ_le (Nat.le_of_ble_eq_true rfl)) (Nat.le_refl 1000)) ?_
  change EE l (WD33 h) _ _ (zG _ _ (WD33 h) _) _ _ _ _ _ _
  iterate 1 refine e_sp rfl rfl rfl ?_
  refine e_newO (ci := 2) (fl := [some 1000, none, none, none, none, none, none]) (nf := 21) rfl cl_H_44 in9_L ii9_L rfl ty_L_ok df_L (Nat.le_of_ble_eq_true rfl) (Nat.lt_of_lt_of_le (Nat.lt_of_succ_le (Nat.le_of_ble_eq_true rfl)) (Nat.le_refl 21)) (show blindZ _ (WD40 h).length _ from zzN_blind) rfl rfl rfl (by constructor <;> (dsimp only [rmN]; omega)) ?_
  change EE l (WD9 h) _ _ (zG _ _ (WD9 h) _) _ _ _ _ _ _
  iterate 1 refine e_sp rfl rfl rfl ?_
  refine e_callI (nf := 21) ok_L_init rfl li_H_46 n_L_7 rfl rfl rfl ⟨Nat.le_of_ble_eq_true rfl, Nat.le_of_ble_eq_true rfl⟩ (by constructor <;> (dsimp only [rmN]; omega)) (Nat.le_of_ble_eq_true rfl) (Nat.le_of_ble_eq_true rfl) (Nat.le_of_ble_eq_true rfl) (Nat.le_of_ble_eq_true rfl) (show blindZ _ (WD40 h).length _ from zzN_blind) rfl rfl (fun _ hq9 => ?_)
  subst hq9
  refine e_putA (fun _ h9 => h9) rfl p9_H_47 rfl rfl (by decide) (Nat.lt_of_lt_of_le (Nat.lt_of_succ_le (Nat.le_of_ble_eq_true rfl)) (Nat.le_refl 1000)) ?_
  change EE l (WD34 h) _ _ (zG _ _ (WD34 h) _) _ _ _ _ _ _
  iterate 1 refine e_sp rfl rfl rfl ?_
  refine e_newO (ci := 0) (fl := [some 1000]) (nf := 21) rfl cl_H_51 in9_C ii9_C rfl ty_C_ok df_C (Nat.le_of_ble_eq_true rfl) (Nat.lt_of_lt_of_le (Nat.lt_of_succ_le (Nat.le_of_ble_eq_true rfl)) (Nat.le_refl 21)) (show blindZ _ (WD40 h).length _ from zzN_blind) rfl rfl rfl (by constructor <;> (dsimp only [rmN]; omega)) ?_
  change EE l (WD12 h) _ _ (zG _ _ (WD12 h) _) _ _ _ _ _ _
  iterate 1 refine e_sp rfl rfl rfl ?_
  refine e_callI (nf := 21) ok_C_init rfl li_H_53 n_C_9 rfl rfl rfl ⟨Nat.le_of_ble_eq_true rfl, Nat.le_of_ble_eq_true rfl⟩ (by constructor <;> (dsimp only [rmN]; omega)) (Nat.le_of_ble_eq_true rfl) (Nat.le_of_ble_eq_true rfl) (Nat.le_of_ble_eq_true rfl) (Nat.le_of_ble_eq_true rfl) (show blindZ _ (WD40 h).length _ from zzN_blind) rfl rfl (fun _ hq9 => ?_)
  subst hq9
  refine e_putA (fun _ h9 => h9) rfl p9_H_54 rfl rfl (by decide) (Nat.lt_of_lt_of_le (Nat.lt_of_succ_le (Nat.le_of_ble_eq_true rfl)) (Nat.le_refl 1000)) ?_
  change EE l (WD35 h) _ _ (zG _ _ (WD35 h) _) _ _ _ _ _ _
  iterate 1 refine e_sp rfl rfl rfl ?_
  refine e_newO (ci := 1) (fl := [some 1000, some 1000]) (nf := 21) rfl cl_H_58 in9_F ii9_F rfl ty_F_ok df_F (Nat.le_of_ble_eq_true rfl) (Nat.lt_of_lt_of_le (Nat.lt_of_succ_le (Nat.le_of_ble_eq_true rfl)) (Nat.le_refl 21)) (show blindZ _ (WD40 h).length _ from zzN_blind) rfl rfl rfl (by constructor <;> (dsimp only [rmN]; omega)) ?_
  change EE l (WD15 h) _ _ (zG _ _ (WD15 h) _) _ _ _ _ _ _
  iterate 1 refine e_sp rfl rfl rfl ?_
  refine e_callI (nf := 21) ok_F_init rfl li_H_60 n_F_11 rfl rfl rfl ⟨Nat.le_of_ble_eq_true rfl, Nat.le_of_ble_eq_true rfl⟩ (by constructor <;> (dsimp only [rmN]; omega)) (Nat.le_of_ble_eq_true rfl) (Nat.le_of_ble_eq_true rfl) (Nat.le_of_ble_eq_true rfl) (Nat.le_of_ble_eq_true rfl) (show blindZ _ (WD40 h).length _ from zzN_blind) rfl rfl (fun _ hq9 => ?_)
  subst hq9
  refine e_putA (fun _ h9 => h9) rfl p9_H_61 rfl rfl (by decide) (Nat.lt_of_lt_of_le (Nat.lt_of_succ_le (Nat.le_of_ble_eq_true rfl)) (Nat.le_refl 1000)) ?_
  change EE l (WD36 h) _ _ (zG _ _ (WD36 h) _) _ _ _ _ _ _
  iterate 1 refine e_sp rfl rfl rfl ?_
  refine e_newO (ci := 6) (fl := [some 1000, some 1000, none, none, none]) (nf := 21) rfl cl_H_65 in9_W ii9_W rfl ty_W_ok df_W (Nat.le_of_ble_eq_true rfl) (Nat.lt_of_lt_of_le (Nat.lt_of_succ_le (Nat.le_of_ble_eq_true rfl)) (Nat.le_refl 21)) (show blindZ _ (WD40 h).length _ from zzN_blind) rfl rfl rfl (by constructor <;> (dsimp only [rmN]; omega)) ?_
  change EE l (WD21 h) _ _ (zG _ _ (WD21 h) _) _ _ _ _ _ _
  iterate 1 refine e_sp rfl rfl rfl ?_
  refine e_callI (nf := 21) ok_W_init rfl li_H_67 n_W_14 rfl rfl rfl ⟨Nat.le_of_ble_eq_true rfl, Nat.le_of_ble_eq_true rfl⟩ (by constructor <;> (dsimp only [rmN]; omega)) (Nat.le_of_ble_eq_true rfl) (Nat.le_of_ble_eq_true rfl) (Nat.le_of_ble_eq_true rfl) (Nat.le_of_ble_eq_true rfl) (show blindZ _ (WD40 h).length _ from zzN_blind) rfl rfl (fun _ hq9 => ?_)
  subst hq9
  refine e_putA (fun _ h9 => h9) rfl p9_H_68 rfl rfl (by decide) (Nat.lt_of_lt_of_le (Nat.lt_of_succ_le (Nat.le_of_ble_eq_true rfl)) (Nat.le_refl 1000)) ?_
  change EE l (WD37 h) _ _ (zG _ _ (WD37 h) _) _ _ _ _ _ _
  iterate 1 refine e_sp rfl rfl rfl ?_
  refine e_newO (ci := 5) (fl := [some 1000, some 1000, none, none, none, none, none, none]) (nf := 21) rfl cl_H_72 in9_R ii9_R rfl ty_R_ok df_R (Nat.le_of_ble_eq_true rfl) (Nat.lt_of_lt_of_le (Nat.lt_of_succ_le (Nat.le_of_ble_eq_true rfl)) (Nat.le_refl 21)) (show blindZ _ (WD40 h).length _ from zzN_blind) rfl rfl rfl (by constructor <;> (dsimp only [rmN]; omega)) ?_
  change EE l (WD26 h) _ _ (zG _ _ (WD26 h) _) _ _ _ _ _ _
  iterate 1 refine e_sp rfl rfl rfl ?_
  refine e_callI (nf := 21) ok_R_init rfl li_H_74 n_R_17 rfl rfl rfl ⟨Nat.le_of_ble_eq_true rfl, Nat.le_of_ble_eq_true rfl⟩ (by constructor <;> (dsimp only [rmN]; omega)) (Nat.le_of_ble_eq_true rfl) (Nat.le_of_ble_eq_true rfl) (Nat.le_of_ble_eq_true rfl) (Nat.le_of_ble_eq_true rfl) (show blindZ _ (WD40 h).length _ from zzN_blind) rfl rfl (fun _ hq9 => ?_)
  subst hq9
  refine e_putA (fun _ h9 => h9) rfl p9_H_75 rfl rfl (by decide) (Nat.lt_of_lt_of_le (Nat.lt_of_succ_le (Nat.le_of_ble_eq_true rfl)) (Nat.le_refl 1000)) ?_
  change EE l (WD38 h) _ _ (zG _ _ (WD38 h) _) _ _ _ _ _ _
  iterate 1 refine e_sp rfl rfl rfl ?_
  refine e_cb 65 rfl rfl ?_
  refine e_newA (N := 65) (nf := 21) rfl rfl (by decide) aw_int (by decide) (by decide) (by decide) (Nat.le_of_ble_eq_true rfl) (Nat.lt_of_lt_of_le (Nat.lt_of_succ_le (Nat.le_of_ble_eq_true rfl)) (Nat.le_refl 21)) (show blindZ _ (WD40 h).length _ from zzN_blind) rfl rfl rfl (by constructor <;> (dsimp only [rmN]; omega)) ?_
  change EE l (WD39 h) _ _ (zG _ _ (WD39 h) _) _ _ _ _ _ _
  refine e_putA (fun _ h9 => h9) rfl p9_H_79 rfl rfl (by decide) (Nat.lt_of_lt_of_le (Nat.lt_of_succ_le (Nat.le_of_ble_eq_true rfl)) (Nat.le_refl 1000)) ?_
  change EE l (WD40 h) _ _ (zG _ _ (WD40 h) _) _ _ _ _ _ _
  refine e_vretN rfl rfl (by omega) (by omega) ?_
  rfl
/-- the store behind the reference's constructor -/
def mS9 (S : St) (w : Int32) (h : Nat) : St :=
  bgM (puI (puI (nz (nz (nz (nz (nz (nz (nz (nz (nz (nz (nz S 22) 23) 24) 25) 26) 27) 28) 29) 30) 31) 32) 21 1 w) 21 2 (nI h))
theorem cl9_lo {x : Int32} (g : ¬ 1 ≤ x) : cl9 x = 1 := by
  rw [Int32.le_iff_toInt_le] at g
  unfold cl9
  have e1 : (1 : Int32).toInt = 1 := rfl
  have e2 : (32 : Int32).toInt = 32 := rfl
  rw [if_pos (by rw [Int32.lt_iff_toInt_lt]; omega : x < 32), if_neg (by rw [Int32.lt_iff_toInt_lt]; omega)]
theorem cl9_in {x : Int32} (g : 1 ≤ x) (g2 : x ≤ 32) : cl9 x = x := by
  rw [Int32.le_iff_toInt_le] at g g2
  unfold cl9
  have e1 : (1 : Int32).toInt = 1 := rfl
  have e2 : (32 : Int32).toInt = 32 := rfl
  by_cases h : x < 32
  · rw [if_pos h]
    by_cases h3 : 1 < x
    · rw [if_pos h3]
    · rw [if_neg h3]
      rw [Int32.lt_iff_toInt_lt] at h3
      apply Int32.toInt_inj.mp
      omega
  · rw [if_neg h, if_pos (by decide)]
    rw [Int32.lt_iff_toInt_lt] at h
    apply Int32.toInt_inj.mp
    omega
theorem cl9_hi {x : Int32} (g : 1 ≤ x) (g2 : ¬ x ≤ 32) : cl9 x = 32 := by
  rw [Int32.le_iff_toInt_le] at g g2
  unfold cl9
  have e1 : (1 : Int32).toInt = 1 := rfl
  have e2 : (32 : Int32).toInt = 32 := rfl
  rw [if_neg (by rw [Int32.lt_iff_toInt_lt]; omega : ¬ x < 32), if_pos (by decide)]
def WD41 (h : Nat) : List Sh := [.inl (8, [none, none, some 1, some 3, some 5, some 7, some 9, some 11, some 14, some 17, some 20, none, none, none, none]), .inl (7, [some 2, none]), .inr (.int, h), .inl (7, [some 4, none]), .inr (.int, h), .inl (4, [some 6, none, none, none]), .inr (.long, 64), .inl (2, [some 8, none, none, none, none, none, none]), .inr (.int, 256), .inl (0, [some 10]), .inr (.int, 256), .inl (1, [some 12, some 13]), .inr (.int, 64), .inr (.int, 64), .inl (6, [some 15, some 16, none, none, none]), .inr (.byte, 384), .inl (3, [none, none]), .inl (5, [some 18, some 19, none, none, none, none, none, none]), .inr (.byte, 3000), .inl (3, [none, none]), .inr (.int, 65), .inl (9, [none, none, none, some 1000, some 1000, none, none, none, some 1000, none, none, none, none, none, none, some 1000, none, none, none, some 1000, none, none, some 1000, none, some 1000, some 1000, some 1000, some 1000, some 1000, none, none, none, none, none, none, none, none, none])]
def WD42 (h : Nat) : List Sh := [.inl (8, [none, none, some 1, some 3, some 5, some 7, some 9, some 11, some 14, some 17, some 20, none, none, none, none]), .inl (7, [some 2, none]), .inr (.int, h), .inl (7, [some 4, none]), .inr (.int, h), .inl (4, [some 6, none, none, none]), .inr (.long, 64), .inl (2, [some 8, none, none, none, none, none, none]), .inr (.int, 256), .inl (0, [some 10]), .inr (.int, 256), .inl (1, [some 12, some 13]), .inr (.int, 64), .inr (.int, 64), .inl (6, [some 15, some 16, none, none, none]), .inr (.byte, 384), .inl (3, [none, none]), .inl (5, [some 18, some 19, none, none, none, none, none, none]), .inr (.byte, 3000), .inl (3, [none, none]), .inr (.int, 65), .inl (9, [none, none, none, some 1000, some 1000, none, none, none, some 1000, none, none, none, none, none, none, some 1000, none, none, none, some 1000, none, none, some 1000, none, some 1000, some 1000, some 1000, some 1000, some 1000, none, none, none, none, none, none, none, none, none]), .inr (.boolean, 1024)]
set_option maxRecDepth 100000 in
theorem p9_M_7 : okP9 m_M_init 7 9 3 R_M T_M 38 (.array .boolean) := ⟨rfl, by decide, rfl, rfl, by decide +kernel, gw_in (List.mem_of_getElem? (i := 906) rfl) rfl, rfl⟩
def WD43 (h : Nat) : List Sh := [.inl (8, [none, none, some 1, some 3, some 5, some 7, some 9, some 11, some 14, some 17, some 20, none, none, none, none]), .inl (7, [some 2, none]), .inr (.int, h), .inl (7, [some 4, none]), .inr (.int, h), .inl (4, [some 6, none, none, none]), .inr (.long, 64), .inl (2, [some 8, none, none, none, none, none, none]), .inr (.int, 256), .inl (0, [some 10]), .inr (.int, 256), .inl (1, [some 12, some 13]), .inr (.int, 64), .inr (.int, 64), .inl (6, [some 15, some 16, none, none, none]), .inr (.byte, 384), .inl (3, [none, none]), .inl (5, [some 18, some 19, none, none, none, none, none, none]), .inr (.byte, 3000), .inl (3, [none, none]), .inr (.int, 65), .inl (9, [none, none, none, some 22, some 1000, none, none, none, some 1000, none, none, none, none, none, none, some 1000, none, none, none, some 1000, none, none, some 1000, none, some 1000, some 1000, some 1000, some 1000, some 1000, none, none, none, none, none, none, none, none, none]), .inr (.boolean, 1024)]
def WD44 (h : Nat) : List Sh := [.inl (8, [none, none, some 1, some 3, some 5, some 7, some 9, some 11, some 14, some 17, some 20, none, none, none, none]), .inl (7, [some 2, none]), .inr (.int, h), .inl (7, [some 4, none]), .inr (.int, h), .inl (4, [some 6, none, none, none]), .inr (.long, 64), .inl (2, [some 8, none, none, none, none, none, none]), .inr (.int, 256), .inl (0, [some 10]), .inr (.int, 256), .inl (1, [some 12, some 13]), .inr (.int, 64), .inr (.int, 64), .inl (6, [some 15, some 16, none, none, none]), .inr (.byte, 384), .inl (3, [none, none]), .inl (5, [some 18, some 19, none, none, none, none, none, none]), .inr (.byte, 3000), .inl (3, [none, none]), .inr (.int, 65), .inl (9, [none, none, none, some 22, some 1000, none, none, none, some 1000, none, none, none, none, none, none, some 1000, none, none, none, some 1000, none, none, some 1000, none, some 1000, some 1000, some 1000, some 1000, some 1000, none, none, none, none, none, none, none, none, none]), .inr (.boolean, 1024), .inr (.boolean, 1024)]
set_option maxRecDepth 100000 in
theorem p9_M_13 : okP9 m_M_init 13 9 4 R_M T_M 38 (.array .boolean) := ⟨rfl, by decide, rfl, rfl, by decide +kernel, gw_in (List.mem_of_getElem? (i := 907) rfl) rfl, rfl⟩
def WD45 (h : Nat) : List Sh := [.inl (8, [none, none, some 1, some 3, some 5, some 7, some 9, some 11, some 14, some 17, some 20, none, none, none, none]), .inl (7, [some 2, none]), .inr (.int, h), .inl (7, [some 4, none]), .inr (.int, h), .inl (4, [some 6, none, none, none]), .inr (.long, 64), .inl (2, [some 8, none, none, none, none, none, none]), .inr (.int, 256), .inl (0, [some 10]), .inr (.int, 256), .inl (1, [some 12, some 13]), .inr (.int, 64), .inr (.int, 64), .inl (6, [some 15, some 16, none, none, none]), .inr (.byte, 384), .inl (3, [none, none]), .inl (5, [some 18, some 19, none, none, none, none, none, none]), .inr (.byte, 3000), .inl (3, [none, none]), .inr (.int, 65), .inl (9, [none, none, none, some 22, some 23, none, none, none, some 1000, none, none, none, none, none, none, some 1000, none, none, none, some 1000, none, none, some 1000, none, some 1000, some 1000, some 1000, some 1000, some 1000, none, none, none, none, none, none, none, none, none]), .inr (.boolean, 1024), .inr (.boolean, 1024)]
def WD46 (h : Nat) : List Sh := [.inl (8, [none, none, some 1, some 3, some 5, some 7, some 9, some 11, some 14, some 17, some 20, none, none, none, none]), .inl (7, [some 2, none]), .inr (.int, h), .inl (7, [some 4, none]), .inr (.int, h), .inl (4, [some 6, none, none, none]), .inr (.long, 64), .inl (2, [some 8, none, none, none, none, none, none]), .inr (.int, 256), .inl (0, [some 10]), .inr (.int, 256), .inl (1, [some 12, some 13]), .inr (.int, 64), .inr (.int, 64), .inl (6, [some 15, some 16, none, none, none]), .inr (.byte, 384), .inl (3, [none, none]), .inl (5, [some 18, some 19, none, none, none, none, none, none]), .inr (.byte, 3000), .inl (3, [none, none]), .inr (.int, 65), .inl (9, [none, none, none, some 22, some 23, none, none, none, some 1000, none, none, none, none, none, none, some 1000, none, none, none, some 1000, none, none, some 1000, none, some 1000, some 1000, some 1000, some 1000, some 1000, none, none, none, none, none, none, none, none, none]), .inr (.boolean, 1024), .inr (.boolean, 1024), .inr (.boolean, 4096)]
set_option maxRecDepth 100000 in
theorem p9_M_16 : okP9 m_M_init 16 9 8 R_M T_M 38 (.array .boolean) := ⟨rfl, by decide, rfl, rfl, by decide +kernel, gw_in (List.mem_of_getElem? (i := 911) rfl) rfl, rfl⟩
def WD47 (h : Nat) : List Sh := [.inl (8, [none, none, some 1, some 3, some 5, some 7, some 9, some 11, some 14, some 17, some 20, none, none, none, none]), .inl (7, [some 2, none]), .inr (.int, h), .inl (7, [some 4, none]), .inr (.int, h), .inl (4, [some 6, none, none, none]), .inr (.long, 64), .inl (2, [some 8, none, none, none, none, none, none]), .inr (.int, 256), .inl (0, [some 10]), .inr (.int, 256), .inl (1, [some 12, some 13]), .inr (.int, 64), .inr (.int, 64), .inl (6, [some 15, some 16, none, none, none]), .inr (.byte, 384), .inl (3, [none, none]), .inl (5, [some 18, some 19, none, none, none, none, none, none]), .inr (.byte, 3000), .inl (3, [none, none]), .inr (.int, 65), .inl (9, [none, none, none, some 22, some 23, none, none, none, some 24, none, none, none, none, none, none, some 1000, none, none, none, some 1000, none, none, some 1000, none, some 1000, some 1000, some 1000, some 1000, some 1000, none, none, none, none, none, none, none, none, none]), .inr (.boolean, 1024), .inr (.boolean, 1024), .inr (.boolean, 4096)]
def WD48 (h : Nat) : List Sh := [.inl (8, [none, none, some 1, some 3, some 5, some 7, some 9, some 11, some 14, some 17, some 20, none, none, none, none]), .inl (7, [some 2, none]), .inr (.int, h), .inl (7, [some 4, none]), .inr (.int, h), .inl (4, [some 6, none, none, none]), .inr (.long, 64), .inl (2, [some 8, none, none, none, none, none, none]), .inr (.int, 256), .inl (0, [some 10]), .inr (.int, 256), .inl (1, [some 12, some 13]), .inr (.int, 64), .inr (.int, 64), .inl (6, [some 15, some 16, none, none, none]), .inr (.byte, 384), .inl (3, [none, none]), .inl (5, [some 18, some 19, none, none, none, none, none, none]), .inr (.byte, 3000), .inl (3, [none, none]), .inr (.int, 65), .inl (9, [none, none, none, some 22, some 23, none, none, none, some 24, none, none, none, none, none, none, some 1000, none, none, none, some 1000, none, none, some 1000, none, some 1000, some 1000, some 1000, some 1000, some 1000, none, none, none, none, none, none, none, none, none]), .inr (.boolean, 1024), .inr (.boolean, 1024), .inr (.boolean, 4096), .inr (.int, 256)]
set_option maxRecDepth 100000 in
theorem p9_M_19 : okP9 m_M_init 19 9 15 R_M T_M 38 (.array .int) := ⟨rfl, by decide, rfl, rfl, by decide +kernel, gw_in (List.mem_of_getElem? (i := 918) rfl) rfl, rfl⟩
def WD49 (h : Nat) : List Sh := [.inl (8, [none, none, some 1, some 3, some 5, some 7, some 9, some 11, some 14, some 17, some 20, none, none, none, none]), .inl (7, [some 2, none]), .inr (.int, h), .inl (7, [some 4, none]), .inr (.int, h), .inl (4, [some 6, none, none, none]), .inr (.long, 64), .inl (2, [some 8, none, none, none, none, none, none]), .inr (.int, 256), .inl (0, [some 10]), .inr (.int, 256), .inl (1, [some 12, some 13]), .inr (.int, 64), .inr (.int, 64), .inl (6, [some 15, some 16, none, none, none]), .inr (.byte, 384), .inl (3, [none, none]), .inl (5, [some 18, some 19, none, none, none, none, none, none]), .inr (.byte, 3000), .inl (3, [none, none]), .inr (.int, 65), .inl (9, [none, none, none, some 22, some 23, none, none, none, some 24, none, none, none, none, none, none, some 25, none, none, none, some 1000, none, none, some 1000, none, some 1000, some 1000, some 1000, some 1000, some 1000, none, none, none, none, none, none, none, none, none]), .inr (.boolean, 1024), .inr (.boolean, 1024), .inr (.boolean, 4096), .inr (.int, 256)]
def WD50 (h : Nat) : List Sh := [.inl (8, [none, none, some 1, some 3, some 5, some 7, some 9, some 11, some 14, some 17, some 20, none, none, none, none]), .inl (7, [some 2, none]), .inr (.int, h), .inl (7, [some 4, none]), .inr (.int, h), .inl (4, [some 6, none, none, none]), .inr (.long, 64), .inl (2, [some 8, none, none, none, none, none, none]), .inr (.int, 256), .inl (0, [some 10]), .inr (.int, 256), .inl (1, [some 12, some 13]), .inr (.int, 64), .inr (.int, 64), .inl (6, [some 15, some 16, none, none, none]), .inr (.byte, 384), .inl (3, [none, none]), .inl (5, [some 18, some 19, none, none, none, none, none, none]), .inr (.byte, 3000), .inl (3, [none, none]), .inr (.int, 65), .inl (9, [none, none, none, some 22, some 23, none, none, none, some 24, none, none, none, none, none, none, some 25, none, none, none, some 1000, none, none, some 1000, none, some 1000, some 1000, some 1000, some 1000, some 1000, none, none, none, none, none, none, none, none, none]), .inr (.boolean, 1024), .inr (.boolean, 1024), .inr (.boolean, 4096), .inr (.int, 256), .inr (.boolean, 60000)]
set_option maxRecDepth 100000 in
theorem p9_M_24 : okP9 m_M_init 24 9 19 R_M T_M 38 (.array .boolean) := ⟨rfl, by decide, rfl, rfl, by decide +kernel, gw_in (List.mem_of_getElem? (i := 922) rfl) rfl, rfl⟩
def WD51 (h : Nat) : List Sh := [.inl (8, [none, none, some 1, some 3, some 5, some 7, some 9, some 11, some 14, some 17, some 20, none, none, none, none]), .inl (7, [some 2, none]), .inr (.int, h), .inl (7, [some 4, none]), .inr (.int, h), .inl (4, [some 6, none, none, none]), .inr (.long, 64), .inl (2, [some 8, none, none, none, none, none, none]), .inr (.int, 256), .inl (0, [some 10]), .inr (.int, 256), .inl (1, [some 12, some 13]), .inr (.int, 64), .inr (.int, 64), .inl (6, [some 15, some 16, none, none, none]), .inr (.byte, 384), .inl (3, [none, none]), .inl (5, [some 18, some 19, none, none, none, none, none, none]), .inr (.byte, 3000), .inl (3, [none, none]), .inr (.int, 65), .inl (9, [none, none, none, some 22, some 23, none, none, none, some 24, none, none, none, none, none, none, some 25, none, none, none, some 26, none, none, some 1000, none, some 1000, some 1000, some 1000, some 1000, some 1000, none, none, none, none, none, none, none, none, none]), .inr (.boolean, 1024), .inr (.boolean, 1024), .inr (.boolean, 4096), .inr (.int, 256), .inr (.boolean, 60000)]
def WD52 (h : Nat) : List Sh := [.inl (8, [none, none, some 1, some 3, some 5, some 7, some 9, some 11, some 14, some 17, some 20, none, none, none, none]), .inl (7, [some 2, none]), .inr (.int, h), .inl (7, [some 4, none]), .inr (.int, h), .inl (4, [some 6, none, none, none]), .inr (.long, 64), .inl (2, [some 8, none, none, none, none, none, none]), .inr (.int, 256), .inl (0, [some 10]), .inr (.int, 256), .inl (1, [some 12, some 13]), .inr (.int, 64), .inr (.int, 64), .inl (6, [some 15, some 16, none, none, none]), .inr (.byte, 384), .inl (3, [none, none]), .inl (5, [some 18, some 19, none, none, none, none, none, none]), .inr (.byte, 3000), .inl (3, [none, none]), .inr (.int, 65), .inl (9, [none, none, none, some 22, some 23, none, none, none, some 24, none, none, none, none, none, none, some 25, none, none, none, some 26, none, none, some 1000, none, some 1000, some 1000, some 1000, some 1000, some 1000, none, none, none, none, none, none, none, none, none]), .inr (.boolean, 1024), .inr (.boolean, 1024), .inr (.boolean, 4096), .inr (.int, 256), .inr (.boolean, 60000), .inr (.int, 3000)]
set_option maxRecDepth 100000 in
theorem p9_M_27 : okP9 m_M_init 27 9 22 R_M T_M 38 (.array .int) := ⟨rfl, by decide, rfl, rfl, by decide +kernel, gw_in (List.mem_of_getElem? (i := 925) rfl) rfl, rfl⟩
def WD53 (h : Nat) : List Sh := [.inl (8, [none, none, some 1, some 3, some 5, some 7, some 9, some 11, some 14, some 17, some 20, none, none, none, none]), .inl (7, [some 2, none]), .inr (.int, h), .inl (7, [some 4, none]), .inr (.int, h), .inl (4, [some 6, none, none, none]), .inr (.long, 64), .inl (2, [some 8, none, none, none, none, none, none]), .inr (.int, 256), .inl (0, [some 10]), .inr (.int, 256), .inl (1, [some 12, some 13]), .inr (.int, 64), .inr (.int, 64), .inl (6, [some 15, some 16, none, none, none]), .inr (.byte, 384), .inl (3, [none, none]), .inl (5, [some 18, some 19, none, none, none, none, none, none]), .inr (.byte, 3000), .inl (3, [none, none]), .inr (.int, 65), .inl (9, [none, none, none, some 22, some 23, none, none, none, some 24, none, none, none, none, none, none, some 25, none, none, none, some 26, none, none, some 27, none, some 1000, some 1000, some 1000, some 1000, some 1000, none, none, none, none, none, none, none, none, none]), .inr (.boolean, 1024), .inr (.boolean, 1024), .inr (.boolean, 4096), .inr (.int, 256), .inr (.boolean, 60000), .inr (.int, 3000)]
def WD54 (h : Nat) : List Sh := [.inl (8, [none, none, some 1, some 3, some 5, some 7, some 9, some 11, some 14, some 17, some 20, none, none, none, none]), .inl (7, [some 2, none]), .inr (.int, h), .inl (7, [some 4, none]), .inr (.int, h), .inl (4, [some 6, none, none, none]), .inr (.long, 64), .inl (2, [some 8, none, none, none, none, none, none]), .inr (.int, 256), .inl (0, [some 10]), .inr (.int, 256), .inl (1, [some 12, some 13]), .inr (.int, 64), .inr (.int, 64), .inl (6, [some 15, some 16, none, none, none]), .inr (.byte, 384), .inl (3, [none, none]), .inl (5, [some 18, some 19, none, none, none, none, none, none]), .inr (.byte, 3000), .inl (3, [none, none]), .inr (.int, 65), .inl (9, [none, none, none, some 22, some 23, none, none, none, some 24, none, none, none, none, none, none, some 25, none, none, none, some 26, none, none, some 27, none, some 1000, some 1000, some 1000, some 1000, some 1000, none, none, none, none, none, none, none, none, none]), .inr (.boolean, 1024), .inr (.boolean, 1024), .inr (.boolean, 4096), .inr (.int, 256), .inr (.boolean, 60000), .inr (.int, 3000), .inr (.int, 64)]
set_option maxRecDepth 100000 in
theorem p9_M_30 : okP9 m_M_init 30 9 24 R_M T_M 38 (.array .int) := ⟨rfl, by decide, rfl, rfl, by decide +kernel, gw_in (List.mem_of_getElem? (i := 927) rfl) rfl, rfl⟩
def WD55 (h : Nat) : List Sh := [.inl (8, [none, none, some 1, some 3, some 5, some 7, some 9, some 11, some 14, some 17, some 20, none, none, none, none]), .inl (7, [some 2, none]), .inr (.int, h), .inl (7, [some 4, none]), .inr (.int, h), .inl (4, [some 6, none, none, none]), .inr (.long, 64), .inl (2, [some 8, none, none, none, none, none, none]), .inr (.int, 256), .inl (0, [some 10]), .inr (.int, 256), .inl (1, [some 12, some 13]), .inr (.int, 64), .inr (.int, 64), .inl (6, [some 15, some 16, none, none, none]), .inr (.byte, 384), .inl (3, [none, none]), .inl (5, [some 18, some 19, none, none, none, none, none, none]), .inr (.byte, 3000), .inl (3, [none, none]), .inr (.int, 65), .inl (9, [none, none, none, some 22, some 23, none, none, none, some 24, none, none, none, none, none, none, some 25, none, none, none, some 26, none, none, some 27, none, some 28, some 1000, some 1000, some 1000, some 1000, none, none, none, none, none, none, none, none, none]), .inr (.boolean, 1024), .inr (.boolean, 1024), .inr (.boolean, 4096), .inr (.int, 256), .inr (.boolean, 60000), .inr (.int, 3000), .inr (.int, 64)]
def WD56 (h : Nat) : List Sh := [.inl (8, [none, none, some 1, some 3, some 5, some 7, some 9, some 11, some 14, some 17, some 20, none, none, none, none]), .inl (7, [some 2, none]), .inr (.int, h), .inl (7, [some 4, none]), .inr (.int, h), .inl (4, [some 6, none, none, none]), .inr (.long, 64), .inl (2, [some 8, none, none, none, none, none, none]), .inr (.int, 256), .inl (0, [some 10]), .inr (.int, 256), .inl (1, [some 12, some 13]), .inr (.int, 64), .inr (.int, 64), .inl (6, [some 15, some 16, none, none, none]), .inr (.byte, 384), .inl (3, [none, none]), .inl (5, [some 18, some 19, none, none, none, none, none, none]), .inr (.byte, 3000), .inl (3, [none, none]), .inr (.int, 65), .inl (9, [none, none, none, some 22, some 23, none, none, none, some 24, none, none, none, none, none, none, some 25, none, none, none, some 26, none, none, some 27, none, some 28, some 1000, some 1000, some 1000, some 1000, none, none, none, none, none, none, none, none, none]), .inr (.boolean, 1024), .inr (.boolean, 1024), .inr (.boolean, 4096), .inr (.int, 256), .inr (.boolean, 60000), .inr (.int, 3000), .inr (.int, 64), .inr (.int, 64)]
set_option maxRecDepth 100000 in
theorem p9_M_33 : okP9 m_M_init 33 9 25 R_M T_M 38 (.array .int) := ⟨rfl, by decide, rfl, rfl, by decide +kernel, gw_in (List.mem_of_getElem? (i := 928) rfl) rfl, rfl⟩
def WD57 (h : Nat) : List Sh := [.inl (8, [none, none, some 1, some 3, some 5, some 7, some 9, some 11, some 14, some 17, some 20, none, none, none, none]), .inl (7, [some 2, none]), .inr (.int, h), .inl (7, [some 4, none]), .inr (.int, h), .inl (4, [some 6, none, none, none]), .inr (.long, 64), .inl (2, [some 8, none, none, none, none, none, none]), .inr (.int, 256), .inl (0, [some 10]), .inr (.int, 256), .inl (1, [some 12, some 13]), .inr (.int, 64), .inr (.int, 64), .inl (6, [some 15, some 16, none, none, none]), .inr (.byte, 384), .inl (3, [none, none]), .inl (5, [some 18, some 19, none, none, none, none, none, none]), .inr (.byte, 3000), .inl (3, [none, none]), .inr (.int, 65), .inl (9, [none, none, none, some 22, some 23, none, none, none, some 24, none, none, none, none, none, none, some 25, none, none, none, some 26, none, none, some 27, none, some 28, some 29, some 1000, some 1000, some 1000, none, none, none, none, none, none, none, none, none]), .inr (.boolean, 1024), .inr (.boolean, 1024), .inr (.boolean, 4096), .inr (.int, 256), .inr (.boolean, 60000), .inr (.int, 3000), .inr (.int, 64), .inr (.int, 64)]
def WD58 (h : Nat) : List Sh := [.inl (8, [none, none, some 1, some 3, some 5, some 7, some 9, some 11, some 14, some 17, some 20, none, none, none, none]), .inl (7, [some 2, none]), .inr (.int, h), .inl (7, [some 4, none]), .inr (.int, h), .inl (4, [some 6, none, none, none]), .inr (.long, 64), .inl (2, [some 8, none, none, none, none, none, none]), .inr (.int, 256), .inl (0, [some 10]), .inr (.int, 256), .inl (1, [some 12, some 13]), .inr (.int, 64), .inr (.int, 64), .inl (6, [some 15, some 16, none, none, none]), .inr (.byte, 384), .inl (3, [none, none]), .inl (5, [some 18, some 19, none, none, none, none, none, none]), .inr (.byte, 3000), .inl (3, [none, none]), .inr (.int, 65), .inl (9, [none, none, none, some 22, some 23, none, none, none, some 24, none, none, none, none, none, none, some 25, none, none, none, some 26, none, none, some 27, none, some 28, some 29, some 1000, some 1000, some 1000, none, none, none, none, none, none, none, none, none]), .inr (.boolean, 1024), .inr (.boolean, 1024), .inr (.boolean, 4096), .inr (.int, 256), .inr (.boolean, 60000), .inr (.int, 3000), .inr (.int, 64), .inr (.int, 64), .inr (.boolean, 256)]
set_option maxRecDepth 100000 in
theorem p9_M_36 : okP9 m_M_init 36 9 26 R_M T_M 38 (.array .boolean) := ⟨rfl, by decide, rfl, rfl, by decide +kernel, gw_in (List.mem_of_getElem? (i := 929) rfl) rfl, rfl⟩
def WD59 (h : Nat) : List Sh := [.inl (8, [none, none, some 1, some 3, some 5, some 7, some 9, some 11, some 14, some 17, some 20, none, none, none, none]), .inl (7, [some 2, none]), .inr (.int, h), .inl (7, [some 4, none]), .inr (.int, h), .inl (4, [some 6, none, none, none]), .inr (.long, 64), .inl (2, [some 8, none, none, none, none, none, none]), .inr (.int, 256), .inl (0, [some 10]), .inr (.int, 256), .inl (1, [some 12, some 13]), .inr (.int, 64), .inr (.int, 64), .inl (6, [some 15, some 16, none, none, none]), .inr (.byte, 384), .inl (3, [none, none]), .inl (5, [some 18, some 19, none, none, none, none, none, none]), .inr (.byte, 3000), .inl (3, [none, none]), .inr (.int, 65), .inl (9, [none, none, none, some 22, some 23, none, none, none, some 24, none, none, none, none, none, none, some 25, none, none, none, some 26, none, none, some 27, none, some 28, some 29, some 30, some 1000, some 1000, none, none, none, none, none, none, none, none, none]), .inr (.boolean, 1024), .inr (.boolean, 1024), .inr (.boolean, 4096), .inr (.int, 256), .inr (.boolean, 60000), .inr (.int, 3000), .inr (.int, 64), .inr (.int, 64), .inr (.boolean, 256)]
def WD60 (h : Nat) : List Sh := [.inl (8, [none, none, some 1, some 3, some 5, some 7, some 9, some 11, some 14, some 17, some 20, none, none, none, none]), .inl (7, [some 2, none]), .inr (.int, h), .inl (7, [some 4, none]), .inr (.int, h), .inl (4, [some 6, none, none, none]), .inr (.long, 64), .inl (2, [some 8, none, none, none, none, none, none]), .inr (.int, 256), .inl (0, [some 10]), .inr (.int, 256), .inl (1, [some 12, some 13]), .inr (.int, 64), .inr (.int, 64), .inl (6, [some 15, some 16, none, none, none]), .inr (.byte, 384), .inl (3, [none, none]), .inl (5, [some 18, some 19, none, none, none, none, none, none]), .inr (.byte, 3000), .inl (3, [none, none]), .inr (.int, 65), .inl (9, [none, none, none, some 22, some 23, none, none, none, some 24, none, none, none, none, none, none, some 25, none, none, none, some 26, none, none, some 27, none, some 28, some 29, some 30, some 1000, some 1000, none, none, none, none, none, none, none, none, none]), .inr (.boolean, 1024), .inr (.boolean, 1024), .inr (.boolean, 4096), .inr (.int, 256), .inr (.boolean, 60000), .inr (.int, 3000), .inr (.int, 64), .inr (.int, 64), .inr (.boolean, 256), .inr (.boolean, 256)]
set_option maxRecDepth 100000 in
theorem p9_M_39 : okP9 m_M_init 39 9 27 R_M T_M 38 (.array .boolean) := ⟨rfl, by decide, rfl, rfl, by decide +kernel, gw_in (List.mem_of_getElem? (i := 930) rfl) rfl, rfl⟩
def WD61 (h : Nat) : List Sh := [.inl (8, [none, none, some 1, some 3, some 5, some 7, some 9, some 11, some 14, some 17, some 20, none, none, none, none]), .inl (7, [some 2, none]), .inr (.int, h), .inl (7, [some 4, none]), .inr (.int, h), .inl (4, [some 6, none, none, none]), .inr (.long, 64), .inl (2, [some 8, none, none, none, none, none, none]), .inr (.int, 256), .inl (0, [some 10]), .inr (.int, 256), .inl (1, [some 12, some 13]), .inr (.int, 64), .inr (.int, 64), .inl (6, [some 15, some 16, none, none, none]), .inr (.byte, 384), .inl (3, [none, none]), .inl (5, [some 18, some 19, none, none, none, none, none, none]), .inr (.byte, 3000), .inl (3, [none, none]), .inr (.int, 65), .inl (9, [none, none, none, some 22, some 23, none, none, none, some 24, none, none, none, none, none, none, some 25, none, none, none, some 26, none, none, some 27, none, some 28, some 29, some 30, some 31, some 1000, none, none, none, none, none, none, none, none, none]), .inr (.boolean, 1024), .inr (.boolean, 1024), .inr (.boolean, 4096), .inr (.int, 256), .inr (.boolean, 60000), .inr (.int, 3000), .inr (.int, 64), .inr (.int, 64), .inr (.boolean, 256), .inr (.boolean, 256)]
def WD62 (h : Nat) : List Sh := [.inl (8, [none, none, some 1, some 3, some 5, some 7, some 9, some 11, some 14, some 17, some 20, none, none, none, none]), .inl (7, [some 2, none]), .inr (.int, h), .inl (7, [some 4, none]), .inr (.int, h), .inl (4, [some 6, none, none, none]), .inr (.long, 64), .inl (2, [some 8, none, none, none, none, none, none]), .inr (.int, 256), .inl (0, [some 10]), .inr (.int, 256), .inl (1, [some 12, some 13]), .inr (.int, 64), .inr (.int, 64), .inl (6, [some 15, some 16, none, none, none]), .inr (.byte, 384), .inl (3, [none, none]), .inl (5, [some 18, some 19, none, none, none, none, none, none]), .inr (.byte, 3000), .inl (3, [none, none]), .inr (.int, 65), .inl (9, [none, none, none, some 22, some 23, none, none, none, some 24, none, none, none, none, none, none, some 25, none, none, none, some 26, none, none, some 27, none, some 28, some 29, some 30, some 31, some 1000, none, none, none, none, none, none, none, none, none]), .inr (.boolean, 1024), .inr (.boolean, 1024), .inr (.boolean, 4096), .inr (.int, 256), .inr (.boolean, 60000), .inr (.int, 3000), .inr (.int, 64), .inr (.int, 64), .inr (.boolean, 256), .inr (.boolean, 256), .inr (.int, 256)]
set_option maxRecDepth 100000 in
theorem p9_M_42 : okP9 m_M_init 42 9 28 R_M T_M 38 (.array .int) := ⟨rfl, by decide, rfl, rfl, by decide +kernel, gw_in (List.mem_of_getElem? (i := 931) rfl) rfl, rfl⟩
def WD63 (h : Nat) : List Sh := [.inl (8, [none, none, some 1, some 3, some 5, some 7, some 9, some 11, some 14, some 17, some 20, none, none, none, none]), .inl (7, [some 2, none]), .inr (.int, h), .inl (7, [some 4, none]), .inr (.int, h), .inl (4, [some 6, none, none, none]), .inr (.long, 64), .inl (2, [some 8, none, none, none, none, none, none]), .inr (.int, 256), .inl (0, [some 10]), .inr (.int, 256), .inl (1, [some 12, some 13]), .inr (.int, 64), .inr (.int, 64), .inl (6, [some 15, some 16, none, none, none]), .inr (.byte, 384), .inl (3, [none, none]), .inl (5, [some 18, some 19, none, none, none, none, none, none]), .inr (.byte, 3000), .inl (3, [none, none]), .inr (.int, 65), .inl (9, [none, none, none, some 22, some 23, none, none, none, some 24, none, none, none, none, none, none, some 25, none, none, none, some 26, none, none, some 27, none, some 28, some 29, some 30, some 31, some 32, none, none, none, none, none, none, none, none, none]), .inr (.boolean, 1024), .inr (.boolean, 1024), .inr (.boolean, 4096), .inr (.int, 256), .inr (.boolean, 60000), .inr (.int, 3000), .inr (.int, 64), .inr (.int, 64), .inr (.boolean, 256), .inr (.boolean, 256), .inr (.int, 256)]
set_option maxRecDepth 100000 in
theorem p9_M_49 : okP9 m_M_init 49 9 2 R_M T_M 38 (.int) := ⟨rfl, by decide, rfl, rfl, by decide +kernel, gw_in (List.mem_of_getElem? (i := 905) rfl) rfl, rfl⟩
set_option maxRecDepth 100000 in
theorem p9_M_45 : okP9 m_M_init 45 9 1 R_M T_M 38 (.int) := ⟨rfl, by decide, rfl, rfl, by decide +kernel, gw_in (List.mem_of_getElem? (i := 904) rfl) rfl, rfl⟩
set_option maxHeartbeats 4000000 in
set_option maxRecDepth 40000 in
theorem n_M_21 {l : Launch} {h : Nat} {S : St} {a b : Int32} (hb : cl9 b = nI h) : KN l (WD41 h) (2, 54) m_M_init [aR 21, aI a, aI b] S (WD63 h) (fun S9 => S9 = mS9 S (cl9 a) h) 11 70296 := by
  refine k_startN ok_M_init (Nat.le_of_ble_eq_true rfl) ?_
  have J2 : ∀ v, v = cl9 b → EE l (WD63 h) (rmN (2, 54) 11 70296) m_M_init (zG (nC m_M_init) 22 (WD63 h) (zzN 22 (WD63 h) (fun S9 => S9 = mS9 S (cl9 a) h) 11 70296)) 11 70296 147 [some (aR 21), some (aI a), some (aI b)] [aI v, aR 21] (puI (nz (nz (nz (nz (nz (nz (nz (nz (nz (nz (nz S 22) 23) 24) 25) 26) 27) 28) 29) 30) 31) 32) 21 1 (cl9 a)) := by
    intro v hv
    rw [hv, hb]
    refine e_putI (fun _ h9 => h9) rfl p9_M_49 rfl rfl ?_
    iterate 1 refine e_sp rfl rfl rfl ?_
    refine e_callV0 ok_M_begin rfl lk_M_52 (by rfl) (by rfl) k_M_begin rfl rfl ⟨Nat.le_of_ble_eq_true rfl, Nat.le_of_ble_eq_true rfl⟩ ⟨by dsimp only [rmN]; omega, by dsimp only [rmN]; omega⟩ (Nat.le_of_ble_eq_true rfl) ?_
    refine e_vretN rfl rfl (by omega) (by omega) ?_
    rfl
  have J1 : ∀ v, v = cl9 a → EE l (WD63 h) (rmN (2, 54) 11 70296) m_M_init (zG (nC m_M_init) 22 (WD63 h) (zzN 22 (WD63 h) (fun S9 => S9 = mS9 S (cl9 a) h) 11 70296)) 11 70296 122 [some (aR 21), some (aI a), some (aI b)] [aI v, aR 21] ((nz (nz (nz (nz (nz (nz (nz (nz (nz (nz (nz S 22) 23) 24) 25) 26) 27) 28) 29) 30) 31) 32)) := by
    intro v hv
    rw [hv]
    refine e_putI (fun _ h9 => h9) rfl p9_M_45 rfl rfl ?_
    iterate 1 refine e_sp rfl rfl rfl ?_
    iterate 1 refine e_sp rfl rfl rfl ?_
    refine e_ci 1 rfl rfl ?_
    refine e_icge rfl (fun g1 => ?_) (fun g1 => ?_)
    · iterate 1 refine e_sp rfl rfl rfl ?_
      refine e_cb 32 rfl rfl ?_
      refine e_icle rfl (fun g2 => ?_) (fun g2 => ?_)
      · iterate 1 refine e_sp rfl rfl rfl ?_
        exact J2 _ (cl9_in g1 g2).symm
      · refine e_cb 32 rfl rfl ?_
        refine e_goto rfl ?_
        exact J2 _ (cl9_hi g1 g2).symm
    · refine e_ci 1 rfl rfl ?_
      refine e_goto rfl ?_
      exact J2 _ (cl9_lo g1).symm
  iterate 1 refine e_sp rfl rfl rfl ?_
  refine e_obj rfl lo_M lo_im lo_cd ⟨Nat.le_of_ble_eq_true rfl, Nat.le_of_ble_eq_true rfl⟩ (Nat.le_of_ble_eq_true rfl) ?_
  iterate 1 refine e_sp rfl rfl rfl ?_
  refine e_cs 1024 rfl rfl ?_
  refine e_newA (N := 1024) (nf := 33) rfl rfl (by decide) aw_boolean (by decide) (by decide) (by decide) (Nat.le_of_ble_eq_true rfl) (Nat.lt_of_lt_of_le (Nat.lt_of_succ_le (Nat.le_of_ble_eq_true rfl)) (Nat.le_refl 33)) (show blindZ _ (WD63 h).length _ from zzN_blind) rfl rfl rfl (by constructor <;> (dsimp only [rmN]; omega)) ?_
  change EE l (WD42 h) _ _ (zG _ _ (WD42 h) _) _ _ _ _ _ _
  refine e_putA (fun _ h9 => h9) rfl p9_M_7 rfl rfl (by decide) (Nat.lt_of_lt_of_le (Nat.lt_of_succ_le (Nat.le_of_ble_eq_true rfl)) (Nat.le_refl 1000)) ?_
  change EE l (WD43 h) _ _ (zG _ _ (WD43 h) _) _ _ _ _ _ _
  iterate 1 refine e_sp rfl rfl rfl ?_
  refine e_cs 1024 rfl rfl ?_
  refine e_newA (N := 1024) (nf := 33) rfl rfl (by decide) aw_boolean (by decide) (by decide) (by decide) (Nat.le_of_ble_eq_true rfl) (Nat.lt_of_lt_of_le (Nat.lt_of_succ_le (Nat.le_of_ble_eq_true rfl)) (Nat.le_refl 33)) (show blindZ _ (WD63 h).length _ from zzN_blind) rfl rfl rfl (by constructor <;> (dsimp only [rmN]; omega)) ?_
  change EE l (WD44 h) _ _ (zG _ _ (WD44 h) _) _ _ _ _ _ _
  refine e_putA (fun _ h9 => h9) rfl p9_M_13 rfl rfl (by decide) (Nat.lt_of_lt_of_le (Nat.lt_of_succ_le (Nat.le_of_ble_eq_true rfl)) (Nat.le_refl 1000)) ?_
  change EE l (WD45 h) _ _ (zG _ _ (WD45 h) _) _ _ _ _ _ _
  iterate 1 refine e_sp rfl rfl rfl ?_
  refine e_cs 4096 rfl rfl ?_
  refine e_newA (N := 4096) (nf := 33) rfl rfl (by decide) aw_boolean (by decide) (by decide) (by decide) (Nat.le_of_ble_eq_true rfl) (Nat.lt_of_lt_of_le (Nat.lt_of_succ_le (Nat.le_of_ble_eq_true rfl)) (Nat.le_refl 33)) (show blindZ _ (WD63 h).length _ from zzN_blind) rfl rfl rfl (by constructor <;> (dsimp only [rmN]; omega)) ?_
  change EE l (WD46 h) _ _ (zG _ _ (WD46 h) _) _ _ _ _ _ _
  refine e_putA (fun _ h9 => h9) rfl p9_M_16 rfl rfl (by decide) (Nat.lt_of_lt_of_le (Nat.lt_of_succ_le (Nat.le_of_ble_eq_true rfl)) (Nat.le_refl 1000)) ?_
  change EE l (WD47 h) _ _ (zG _ _ (WD47 h) _) _ _ _ _ _ _
  iterate 1 refine e_sp rfl rfl rfl ?_
  refine e_cs 256 rfl rfl ?_
  refine e_newA (N := 256) (nf := 33) rfl rfl (by decide) aw_int (by decide) (by decide) (by decide) (Nat.le_of_ble_eq_true rfl) (Nat.lt_of_lt_of_le (Nat.lt_of_succ_le (Nat.le_of_ble_eq_true rfl)) (Nat.le_refl 33)) (show blindZ _ (WD63 h).length _ from zzN_blind) rfl rfl rfl (by constructor <;> (dsimp only [rmN]; omega)) ?_
  change EE l (WD48 h) _ _ (zG _ _ (WD48 h) _) _ _ _ _ _ _
  refine e_putA (fun _ h9 => h9) rfl p9_M_19 rfl rfl (by decide) (Nat.lt_of_lt_of_le (Nat.lt_of_succ_le (Nat.le_of_ble_eq_true rfl)) (Nat.le_refl 1000)) ?_
  change EE l (WD49 h) _ _ (zG _ _ (WD49 h) _) _ _ _ _ _ _
  iterate 1 refine e_sp rfl rfl rfl ?_
  refine e_ldc rfl cn_M_23 ?_
  refine e_newA (N := 60000) (nf := 33) rfl rfl (by decide) aw_boolean (by decide) (by decide) (by decide) (Nat.le_of_ble_eq_true rfl) (Nat.lt_of_lt_of_le (Nat.lt_of_succ_le (Nat.le_of_ble_eq_true rfl)) (Nat.le_refl 33)) (show blindZ _ (WD63 h).length _ from zzN_blind) rfl rfl rfl (by constructor <;> (dsimp only [rmN]; omega)) ?_
  change EE l (WD50 h) _ _ (zG _ _ (WD50 h) _) _ _ _ _ _ _
  refine e_putA (fun _ h9 => h9) rfl p9_M_24 rfl rfl (by decide) (Nat.lt_of_lt_of_le (Nat.lt_of_succ_le (Nat.le_of_ble_eq_true rfl)) (Nat.le_refl 1000)) ?_
  change EE l (WD51 h) _ _ (zG _ _ (WD51 h) _) _ _ _ _ _ _
  iterate 1 refine e_sp rfl rfl rfl ?_
  refine e_cs 3000 rfl rfl ?_
  refine e_newA (N := 3000) (nf := 33) rfl rfl (by decide) aw_int (by decide) (by decide) (by decide) (Nat.le_of_ble_eq_true rfl) (Nat.lt_of_lt_of_le (Nat.lt_of_succ_le (Nat.le_of_ble_eq_true rfl)) (Nat.le_refl 33)) (show blindZ _ (WD63 h).length _ from zzN_blind) rfl rfl rfl (by constructor <;> (dsimp only [rmN]; omega)) ?_
  change EE l (WD52 h) _ _ (zG _ _ (WD52 h) _) _ _ _ _ _ _
  refine e_putA (fun _ h9 => h9) rfl p9_M_27 rfl rfl (by decide) (Nat.lt_of_lt_of_le (Nat.lt_of_succ_le (Nat.le_of_ble_eq_true rfl)) (Nat.le_refl 1000)) ?_
  change EE l (WD53 h) _ _ (zG _ _ (WD53 h) _) _ _ _ _ _ _
  iterate 1 refine e_sp rfl rfl rfl ?_
  refine e_cb 64 rfl rfl ?_
  refine e_newA (N := 64) (nf := 33) rfl rfl (by decide) aw_int (by decide) (by decide) (by decide) (Nat.le_of_ble_eq_true rfl) (Nat.lt_of_lt_of_le (Nat.lt_of_succ_le (Nat.le_of_ble_eq_true rfl)) (Nat.le_refl 33)) (show blindZ _ (WD63 h).length _ from zzN_blind) rfl rfl rfl (by constructor <;> (dsimp only [rmN]; omega)) ?_
  change EE l (WD54 h) _ _ (zG _ _ (WD54 h) _) _ _ _ _ _ _
  refine e_putA (fun _ h9 => h9) rfl p9_M_30 rfl rfl (by decide) (Nat.lt_of_lt_of_le (Nat.lt_of_succ_le (Nat.le_of_ble_eq_true rfl)) (Nat.le_refl 1000)) ?_
  change EE l (WD55 h) _ _ (zG _ _ (WD55 h) _) _ _ _ _ _ _
  iterate 1 refine e_sp rfl rfl rfl ?_
  refine e_cb 64 rfl rfl ?_
  refine e_newA (N := 64) (nf := 33) rfl rfl (by decide) aw_int (by decide) (by decide) (by decide) (Nat.le_of_ble_eq_true rfl) (Nat.lt_of_lt_of_le (Nat.lt_of_succ_le (Nat.le_of_ble_eq_true rfl)) (Nat.le_refl 33)) (show blindZ _ (WD63 h).length _ from zzN_blind) rfl rfl rfl (by constructor <;> (dsimp only [rmN]; omega)) ?_
  change EE l (WD56 h) _ _ (zG _ _ (WD56 h) _) _ _ _ _ _ _
  refine e_putA (fun _ h9 => h9) rfl p9_M_33 rfl rfl (by decide) (Nat.lt_of_lt_of_le (Nat.lt_of_succ_le (Nat.le_of_ble_eq_true rfl)) (Nat.le_refl 1000)) ?_
  change EE l (WD57 h) _ _ (zG _ _ (WD57 h) _) _ _ _ _ _ _
  iterate 1 refine e_sp rfl rfl rfl ?_
  refine e_cs 256 rfl rfl ?_
  refine e_newA (N := 256) (nf := 33) rfl rfl (by decide) aw_boolean (by decide) (by decide) (by decide) (Nat.le_of_ble_eq_true rfl) (Nat.lt_of_lt_of_le (Nat.lt_of_succ_le (Nat.le_of_ble_eq_true rfl)) (Nat.le_refl 33)) (show blindZ _ (WD63 h).length _ from zzN_blind) rfl rfl rfl (by constructor <;> (dsimp only [rmN]; omega)) ?_
  change EE l (WD58 h) _ _ (zG _ _ (WD58 h) _) _ _ _ _ _ _
  refine e_putA (fun _ h9 => h9) rfl p9_M_36 rfl rfl (by decide) (Nat.lt_of_lt_of_le (Nat.lt_of_succ_le (Nat.le_of_ble_eq_true rfl)) (Nat.le_refl 1000)) ?_
  change EE l (WD59 h) _ _ (zG _ _ (WD59 h) _) _ _ _ _ _ _
  iterate 1 refine e_sp rfl rfl rfl ?_
  refine e_cs 256 rfl rfl ?_
  refine e_newA (N := 256) (nf := 33) rfl rfl (by decide) aw_boolean (by decide) (by decide) (by decide) (Nat.le_of_ble_eq_true rfl) (Nat.lt_of_lt_of_le (Nat.lt_of_succ_le (Nat.le_of_ble_eq_true rfl)) (Nat.le_refl 33)) (show blindZ _ (WD63 h).length _ from zzN_blind) rfl rfl rfl (by constructor <;> (dsimp only [rmN]; omega)) ?_
  change EE l (WD60 h) _ _ (zG _ _ (WD60 h) _) _ _ _ _ _ _
  refine e_putA (fun _ h9 => h9) rfl p9_M_39 rfl rfl (by decide) (Nat.lt_of_lt_of_le (Nat.lt_of_succ_le (Nat.le_of_ble_eq_true rfl)) (Nat.le_refl 1000)) ?_
  change EE l (WD61 h) _ _ (zG _ _ (WD61 h) _) _ _ _ _ _ _
  iterate 1 refine e_sp rfl rfl rfl ?_
  refine e_cs 256 rfl rfl ?_
  refine e_newA (N := 256) (nf := 33) rfl rfl (by decide) aw_int (by decide) (by decide) (by decide) (Nat.le_of_ble_eq_true rfl) (Nat.lt_of_lt_of_le (Nat.lt_of_succ_le (Nat.le_of_ble_eq_true rfl)) (Nat.le_refl 33)) (show blindZ _ (WD63 h).length _ from zzN_blind) rfl rfl rfl (by constructor <;> (dsimp only [rmN]; omega)) ?_
  change EE l (WD62 h) _ _ (zG _ _ (WD62 h) _) _ _ _ _ _ _
  refine e_putA (fun _ h9 => h9) rfl p9_M_42 rfl rfl (by decide) (Nat.lt_of_lt_of_le (Nat.lt_of_succ_le (Nat.le_of_ble_eq_true rfl)) (Nat.le_refl 1000)) ?_
  change EE l (WD63 h) _ _ (zG _ _ (WD63 h) _) _ _ _ _ _ _
  iterate 1 refine e_sp rfl rfl rfl ?_
  iterate 1 refine e_sp rfl rfl rfl ?_
  refine e_ci 1 rfl rfl ?_
  refine e_icge rfl (fun g1 => ?_) (fun g1 => ?_)
  · iterate 1 refine e_sp rfl rfl rfl ?_
    refine e_cb 32 rfl rfl ?_
    refine e_icle rfl (fun g2 => ?_) (fun g2 => ?_)
    · iterate 1 refine e_sp rfl rfl rfl ?_
      exact J1 _ (cl9_in g1 g2).symm
    · refine e_cb 32 rfl rfl ?_
      refine e_goto rfl ?_
      exact J1 _ (cl9_hi g1 g2).symm
  · refine e_ci 1 rfl rfl ?_
    refine e_goto rfl ?_
    exact J1 _ (cl9_lo g1).symm
theorem WD63_eq (h : Nat) : WD63 h = SHm h := rfl
