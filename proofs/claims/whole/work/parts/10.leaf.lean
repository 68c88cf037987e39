/-! the cells, in the order in which they are made; h: the height -/
def SHm (h : Nat) : List Sh := [.inl (8, [none, none, some 1, some 3, some 5, some 7, some 9, some 11, some 14, some 17, some 20, none, none, none, none]), .inl (7, [some 2, none]), .inr (.int, h), .inl (7, [some 4, none]), .inr (.int, h),
  .inl (4, [some 6, none, none, none]), .inr (.long, 64), .inl (2, [some 8, none, none, none, none, none, none]), .inr (.int, 256), .inl (0, [some 10]), .inr (.int, 256), .inl (1, [some 12, some 13]), .inr (.int, 64), .inr (.int, 64),
  .inl (6, [some 15, some 16, none, none, none]), .inr (.byte, 384), .inl (3, [none, none]), .inl (5, [some 18, some 19, none, none, none, none, none, none]), .inr (.byte, 3000), .inl (3, [none, none]), .inr (.int, 65),
  .inl (9, [none, none, none, some 22, some 23, none, none, none, some 24, none, none, none, none, none, none, some 25, none, none, none, some 26, none, none, some 27, none, some 28, some 29, some 30, some 31, some 32, none, none, none, none, none, none, none, none, none]),
  .inr (.boolean, 1024), .inr (.boolean, 1024), .inr (.boolean, 4096), .inr (.int, 256), .inr (.boolean, 60000), .inr (.int, 3000), .inr (.int, 64), .inr (.int, 64), .inr (.boolean, 256), .inr (.boolean, 256), .inr (.int, 256)]
/-- whether a number lies within -/
def wi (a b c : Int32) : Int32 := if a < b then 0 else if c < a then 0 else 1
/-- a place's number, or -1 -/
def plc (i j : Int32) : Int32 := if wi i 0 15 = 0 then -1 else if wi j 0 15 = 0 then -1 else 16 * j + i
def ushr (x y : Int32) : Int32 := (x.toUInt32 >>> (y.toUInt32 &&& Int32.toUInt32 31)).toInt32
def mvd (b c : Int32) : Int32 := if c < 0 then ushr b (-c) else b <<< (c &&& 31)
set_option maxHeartbeats 4000000 in
set_option maxRecDepth 40000 in
theorem k_H_isWithin {l : Launch} {B : List Sh} {S : St} {a b c : Int32}  : KK l B (0, 0) m_H_isWithin [aI a, aI b, aI c] S (ans (some (aI (wi a b c))) S) := by
  refine k_start ok_H_isWithin (Nat.le_of_ble_eq_true rfl) ?_
  iterate 2 refine e_sp rfl rfl rfl ?_
  refine e_iclt rfl (fun h1 => ?_) (fun h1 => ?_)
  · refine e_ci 0 rfl rfl ?_
    refine e_zret rfl rfl (Nat.le_refl _) (Nat.le_refl _) (by decide) ?_
    exact ⟨by simp [wi, h1], rfl⟩
  · iterate 2 refine e_sp rfl rfl rfl ?_
    refine e_icgt rfl (fun h2 => ?_) (fun h2 => ?_)
    · refine e_ci 0 rfl rfl ?_
      refine e_zret rfl rfl (Nat.le_refl _) (Nat.le_refl _) (by decide) ?_
      exact ⟨by simp [wi, h1, h2], rfl⟩
    · refine e_ci 1 rfl rfl ?_
      refine e_goto rfl ?_
      refine e_zret rfl rfl (Nat.le_refl _) (Nat.le_refl _) (by decide) ?_
      exact ⟨by simp [wi, h1, h2], rfl⟩
set_option maxHeartbeats 4000000 in
set_option maxRecDepth 40000 in
theorem k_M_in {l : Launch} {B : List Sh} {S : St} {a b c : Int32}  : KK l B (0, 0) m_M_in [aI a, aI b, aI c] S (ans (some (aI (wi a b c))) S) := by
  refine k_start ok_M_in (Nat.le_of_ble_eq_true rfl) ?_
  iterate 2 refine e_sp rfl rfl rfl ?_
  refine e_iclt rfl (fun h1 => ?_) (fun h1 => ?_)
  · refine e_ci 0 rfl rfl ?_
    refine e_zret rfl rfl (Nat.le_refl _) (Nat.le_refl _) (by decide) ?_
    exact ⟨by simp [wi, h1], rfl⟩
  · iterate 2 refine e_sp rfl rfl rfl ?_
    refine e_icgt rfl (fun h2 => ?_) (fun h2 => ?_)
    · refine e_ci 0 rfl rfl ?_
      refine e_zret rfl rfl (Nat.le_refl _) (Nat.le_refl _) (by decide) ?_
      exact ⟨by simp [wi, h1, h2], rfl⟩
    · refine e_ci 1 rfl rfl ?_
      refine e_goto rfl ?_
      refine e_zret rfl rfl (Nat.le_refl _) (Nat.le_refl _) (by decide) ?_
      exact ⟨by simp [wi, h1, h2], rfl⟩
set_option maxHeartbeats 4000000 in
set_option maxRecDepth 40000 in
theorem k_H_placeOf {l : Launch} {B : List Sh} {S : St} {i j : Int32}  : KK l B (1, 22) m_H_placeOf [aI i, aI j] S (ans (some (aI (plc i j))) S) := by
  refine k_start ok_H_placeOf (Nat.le_of_ble_eq_true rfl) ?_
  iterate 1 refine e_sp rfl rfl rfl ?_
  refine e_ci 0 rfl rfl ?_
  refine e_cb 15 rfl rfl ?_
  refine e_callS1 ok_H_isWithin rfl lk_H_83 k_H_isWithin rfl rfl ⟨Nat.le_of_ble_eq_true rfl, Nat.le_of_ble_eq_true rfl⟩ ⟨Nat.zero_le _, Nat.zero_le _⟩ (Nat.le_of_ble_eq_true rfl) ?_
  refine e_ifeq rfl (fun h1 => ?_) (fun h1 => ?_)
  · refine e_ci 0 rfl rfl ?_
    iterate 2 refine e_sp rfl rfl rfl ?_
    refine e_ifeq rfl (fun _ => ?_) (fun h2 => absurd h2 (by first | decide | simp [puI, pt, upd]))
    refine e_ci (-1) rfl rfl ?_
    refine e_iret rfl rfl (Nat.le_refl _) (Nat.le_refl _) ?_
    exact ⟨by simp [plc, h1], rfl⟩
  · iterate 1 refine e_sp rfl rfl rfl ?_
    refine e_ci 0 rfl rfl ?_
    refine e_cb 15 rfl rfl ?_
    refine e_callS1 ok_H_isWithin rfl lk_H_83 k_H_isWithin rfl rfl ⟨Nat.le_of_ble_eq_true rfl, Nat.le_of_ble_eq_true rfl⟩ ⟨Nat.zero_le _, Nat.zero_le _⟩ (Nat.le_of_ble_eq_true rfl) ?_
    refine e_ifeq rfl (fun h3 => ?_) (fun h3 => ?_)
    · refine e_ci 0 rfl rfl ?_
      iterate 2 refine e_sp rfl rfl rfl ?_
      refine e_ifeq rfl (fun _ => ?_) (fun h4 => absurd h4 (by first | decide | simp [puI, pt, upd]))
      refine e_ci (-1) rfl rfl ?_
      refine e_iret rfl rfl (Nat.le_refl _) (Nat.le_refl _) ?_
      exact ⟨by simp [plc, h1, h3], rfl⟩
    · refine e_ci 1 rfl rfl ?_
      refine e_goto rfl ?_
      iterate 2 refine e_sp rfl rfl rfl ?_
      refine e_ifeq rfl (fun h5 => absurd h5 (by first | decide | simp [puI, pt, upd])) (fun _ => ?_)
      refine e_cb 16 rfl rfl ?_
      iterate 4 refine e_sp rfl rfl rfl ?_
      refine e_goto rfl ?_
      refine e_iret rfl rfl (Nat.le_refl _) (Nat.le_refl _) ?_
      exact ⟨by simp [plc, h1, h3], rfl⟩
set_option maxHeartbeats 4000000 in
set_option maxRecDepth 40000 in
theorem k_H_moved {l : Launch} {B : List Sh} {S : St} {a b : Int32}  : KK l B (0, 0) m_H_moved [aI a, aI b] S (ans (some (aI (mvd a b))) S) := by
  refine k_start ok_H_moved (Nat.le_of_ble_eq_true rfl) ?_
  iterate 1 refine e_sp rfl rfl rfl ?_
  refine e_iflt rfl (fun h1 => ?_) (fun h1 => ?_)
  · iterate 4 refine e_sp rfl rfl rfl ?_
    refine e_iret rfl rfl (Nat.le_refl _) (Nat.le_refl _) ?_
    exact ⟨by simp [mvd, ushr, h1], rfl⟩
  · iterate 3 refine e_sp rfl rfl rfl ?_
    refine e_goto rfl ?_
    refine e_iret rfl rfl (Nat.le_refl _) (Nat.le_refl _) ?_
    exact ⟨by simp [mvd, ushr, h1], rfl⟩
set_option maxHeartbeats 4000000 in
set_option maxRecDepth 40000 in
theorem k_M_by256 {l : Launch} {B : List Sh} {S : St} {a : Int32}  : KK l B (0, 0) m_M_by256 [aI a] S (ans (some (aI (a >>> (8 &&& 31)))) S) := by
  refine k_start ok_M_by256 (Nat.le_of_ble_eq_true rfl) ?_
  iterate 1 refine e_sp rfl rfl rfl ?_
  refine e_cb 8 rfl rfl ?_
  iterate 1 refine e_sp rfl rfl rfl ?_
  refine e_iret rfl rfl (Nat.le_refl _) (Nat.le_refl _) ?_
  exact ⟨rfl, rfl⟩
set_option maxHeartbeats 4000000 in
set_option maxRecDepth 40000 in
theorem k_P_begin_16 {l : Launch} {h : Nat} {S : St}  : KK l (SHm h) (0, 0) m_P_begin [aR 16] S (ans none (puI (puI S 16 0 4) 16 1 1)) := by
  refine k_start ok_P_begin (Nat.le_of_ble_eq_true rfl) ?_
  iterate 1 refine e_sp rfl rfl rfl ?_
  refine e_ci 4 rfl rfl ?_
  iterate 2 refine e_sp rfl rfl rfl ?_
  refine e_ci 1 rfl rfl ?_
  iterate 1 refine e_sp rfl rfl rfl ?_
  refine e_vret rfl rfl (Nat.le_refl _) (Nat.le_refl _) ?_
  exact ⟨rfl, rfl⟩
/-- the pace behind a run -/
def pacN_16 (S : St) (r : Int32) : St := if S.1 16 1 + 1 = 32 then puI (puI (puI (puI S 16 0 (S.1 16 0 + r)) 16 1 (S.1 16 1 + 1)) 16 0 ((S.1 16 0 + r) >>> (1 &&& 31))) 16 1 ((S.1 16 1 + 1) >>> (1 &&& 31)) else puI (puI S 16 0 (S.1 16 0 + r)) 16 1 (S.1 16 1 + 1)
set_option maxHeartbeats 4000000 in
set_option maxRecDepth 40000 in
theorem k_P_learn_16 {l : Launch} {h : Nat} {S : St} {r : Int32}  : KK l (SHm h) (0, 0) m_P_learn [aR 16, aI r] S (ans none (pacN_16 S r)) := by
  refine k_start ok_P_learn (Nat.le_of_ble_eq_true rfl) ?_
  iterate 9 refine e_sp rfl rfl rfl ?_
  refine e_ci 1 rfl rfl ?_
  iterate 4 refine e_sp rfl rfl rfl ?_
  refine e_cb 32 rfl rfl ?_
  refine e_icne rfl (fun h1 => ?_) (fun h1 => ?_)
  · refine e_vret rfl rfl (Nat.le_refl _) (Nat.le_refl _) ?_
    exact ⟨rfl, by simp [pacN_16, puI, pt, upd] at h1 ⊢; simp [h1]⟩
  · iterate 3 refine e_sp rfl rfl rfl ?_
    refine e_ci 1 rfl rfl ?_
    iterate 5 refine e_sp rfl rfl rfl ?_
    refine e_ci 1 rfl rfl ?_
    iterate 2 refine e_sp rfl rfl rfl ?_
    refine e_vret rfl rfl (Nat.le_refl _) (Nat.le_refl _) ?_
    exact ⟨rfl, by simp [pacN_16, puI, pt, upd] at h1 ⊢; simp [h1]⟩
set_option maxHeartbeats 4000000 in
set_option maxRecDepth 40000 in
theorem k_P_begin_19 {l : Launch} {h : Nat} {S : St}  : KK l (SHm h) (0, 0) m_P_begin [aR 19] S (ans none (puI (puI S 19 0 4) 19 1 1)) := by
  refine k_start ok_P_begin (Nat.le_of_ble_eq_true rfl) ?_
  iterate 1 refine e_sp rfl rfl rfl ?_
  refine e_ci 4 rfl rfl ?_
  iterate 2 refine e_sp rfl rfl rfl ?_
  refine e_ci 1 rfl rfl ?_
  iterate 1 refine e_sp rfl rfl rfl ?_
  refine e_vret rfl rfl (Nat.le_refl _) (Nat.le_refl _) ?_
  exact ⟨rfl, rfl⟩
/-- the pace behind a run -/
def pacN_19 (S : St) (r : Int32) : St := if S.1 19 1 + 1 = 32 then puI (puI (puI (puI S 19 0 (S.1 19 0 + r)) 19 1 (S.1 19 1 + 1)) 19 0 ((S.1 19 0 + r) >>> (1 &&& 31))) 19 1 ((S.1 19 1 + 1) >>> (1 &&& 31)) else puI (puI S 19 0 (S.1 19 0 + r)) 19 1 (S.1 19 1 + 1)
set_option maxHeartbeats 4000000 in
set_option maxRecDepth 40000 in
theorem k_P_learn_19 {l : Launch} {h : Nat} {S : St} {r : Int32}  : KK l (SHm h) (0, 0) m_P_learn [aR 19, aI r] S (ans none (pacN_19 S r)) := by
  refine k_start ok_P_learn (Nat.le_of_ble_eq_true rfl) ?_
  iterate 9 refine e_sp rfl rfl rfl ?_
  refine e_ci 1 rfl rfl ?_
  iterate 4 refine e_sp rfl rfl rfl ?_
  refine e_cb 32 rfl rfl ?_
  refine e_icne rfl (fun h1 => ?_) (fun h1 => ?_)
  · refine e_vret rfl rfl (Nat.le_refl _) (Nat.le_refl _) ?_
    exact ⟨rfl, by simp [pacN_19, puI, pt, upd] at h1 ⊢; simp [h1]⟩
  · iterate 3 refine e_sp rfl rfl rfl ?_
    refine e_ci 1 rfl rfl ?_
    iterate 5 refine e_sp rfl rfl rfl ?_
    refine e_ci 1 rfl rfl ?_
    iterate 2 refine e_sp rfl rfl rfl ?_
    refine e_vret rfl rfl (Nat.le_refl _) (Nat.le_refl _) ?_
    exact ⟨rfl, by simp [pacN_19, puI, pt, upd] at h1 ⊢; simp [h1]⟩
