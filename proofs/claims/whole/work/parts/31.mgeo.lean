/-! the reference: grid, page, region -/
def hsM (S : St) (x y : Int32) : Int32 := if wi x 0 (S.1 21 1 - 1) = 0 then 0 else if wi y 0 (S.1 21 2 - 1) = 0 then 0 else 1
theorem two_nat {x y : Int32} {w g : Nat} (hw2 : w < 2 ^ 31) (hg2 : g < 2 ^ 31) (h : ¬ (if wi x 0 (nI w - 1) = 0 then (0 : Int32) else if wi y 0 (nI g - 1) = 0 then 0 else 1) = 0) : ∃ a b : Nat, a < w ∧ b < g ∧ x = nI a ∧ y = nI b := by
  by_cases h1 : wi x 0 (nI w - 1) = 0
  · rw [if_pos h1] at h; exact absurd rfl h
  rw [if_neg h1] at h
  by_cases h2 : wi y 0 (nI g - 1) = 0
  · rw [if_pos h2] at h; exact absurd rfl h
  obtain ⟨a, ha, e1⟩ := wi_nat hw2 h1
  obtain ⟨b, hb, e2⟩ := wi_nat hg2 h2
  exact ⟨a, b, ha, hb, e1, e2⟩
theorem hsM_nat {S : St} {x y : Int32} {w g : Nat} (hw : S.1 21 1 = nI w) (hg : S.1 21 2 = nI g) (hw2 : w ≤ 32) (hg2 : g ≤ 32) (h : ¬ hsM S x y = 0) : ∃ a b : Nat, a < w ∧ b < g ∧ x = nI a ∧ y = nI b := by
  unfold hsM at h
  rw [hw, hg] at h
  exact two_nat (by omega) (by omega) h
theorem hpM_nat {S : St} {x y : Int32} {w g : Nat} (hw : S.1 21 9 = nI w) (hg : S.1 21 10 = nI g) (hw2 : w ≤ 16) (hg2 : g ≤ 16) (h : ¬ hpM S x y = 0) : ∃ a b : Nat, a < w ∧ b < g ∧ x = nI a ∧ y = nI b := by
  unfold hpM at h
  rw [hw, hg] at h
  exact two_nat (by omega) (by omega) h
theorem ix32 (a b : Nat) : (32 : Int32) * nI b + nI a = nI (32 * b + a) := by
  rw [show (32 : Int32) = nI 32 from rfl, pk_mul, nI_add]
theorem ix16 (a b : Nat) : (16 : Int32) * nI b + nI a = nI (16 * b + a) := by
  rw [show (16 : Int32) = nI 16 from rfl, pk_mul, nI_add]
theorem hsM_in {S : St} {x y : Int32} {w g : Nat} (hw : S.1 21 1 = nI w) (hg : S.1 21 2 = nI g) (hw2 : w ≤ 32) (hg2 : g ≤ 32) (h : ¬ hsM S x y = 0) : vp_in (32 * y + x) 1024 := by
  obtain ⟨a, b, ha, hb, rfl, rfl⟩ := hsM_nat hw hg hw2 hg2 h
  rw [ix32]
  exact vp_in_nI (by omega) (by decide)
theorem hpM_in {S : St} {x y : Int32} {w g : Nat} (hw : S.1 21 9 = nI w) (hg : S.1 21 10 = nI g) (hw2 : w ≤ 16) (hg2 : g ≤ 16) (h : ¬ hpM S x y = 0) : vp_in (16 * y + x) 256 := by
  obtain ⟨a, b, ha, hb, rfl, rfl⟩ := hpM_nat hw hg hw2 hg2 h
  rw [ix16]
  exact vp_in_nI (by omega) (by decide)
def whC (S : St) (i j a : Int32) : Int32 := if hpM S i j = 0 then 1 else if wi a 0 1 = 0 then 2 else 0
def whR (S : St) (i j a : Int32) : Int32 := if hpM S i j = 0 then 0 else if wi a 0 1 = 0 then 0 else if a = 0 then xM S i j else yM S i j
def gyC (S : St) (i j v : Int32) : Int32 := if hpM S i j = 0 then 1 else if wi v 0 (S.1 21 7 - 1) = 0 then 2 else 0
def gyR (S : St) (i j v : Int32) : Int32 := if hpM S i j = 0 then 0 else if wi v 0 (S.1 21 7 - 1) = 0 then 0 else if S.1 25 (16 * j + i).toNatClampNeg = v then 0 else 1
def gyS (S : St) (i j v : Int32) : St := if hpM S i j = 0 then puI S 21 0 1 else if wi v 0 (S.1 21 7 - 1) = 0 then puI S 21 0 2 else puI (puI S 21 0 0) 25 (16 * j + i).toNatClampNeg v
def wyC (w v : Int32) : Int32 := if wi w 0 2 = 0 then 1 else if wi v 0 (if w = 0 then 4 else 1) = 0 then 1 else 0
def wyR (S : St) (w v : Int32) : Int32 := if wyC w v = 0 then (if w = 0 then S.1 21 16 else if w = 1 then S.1 21 17 else S.1 21 18) else 0
def wyT (S : St) (w v : Int32) : St :=
  let A := puI S 21 0 0
  let B := puI A 21 16 (if w = 0 then v else A.1 21 16)
  let C := puI B 21 17 (if w = 1 then v else B.1 21 17)
  puI C 21 18 (if w = 2 then v else C.1 21 18)
def wyS (S : St) (w v : Int32) : St := if wyC w v = 0 then wyT S w v else puI S 21 0 1
set_option maxHeartbeats 4000000 in
set_option maxRecDepth 40000 in
theorem k_M_hasSample {l : Launch} {h : Nat} {S : St} {x y : Int32}  : KK l (SHm h) (1, 22) m_M_hasSample [aR 21, aI x, aI y] S (ans (some (aI (hsM S x y))) S) := by
  refine k_start ok_M_hasSample (Nat.le_of_ble_eq_true rfl) ?_
  iterate 1 refine e_sp rfl rfl rfl ?_
  refine e_ci 0 rfl rfl ?_
  iterate 2 refine e_sp rfl rfl rfl ?_
  refine e_ci 1 rfl rfl ?_
  iterate 1 refine e_sp rfl rfl rfl ?_
  refine e_callS1 ok_M_in rfl lk_M_110 k_M_in rfl rfl ⟨Nat.le_of_ble_eq_true rfl, Nat.le_of_ble_eq_true rfl⟩ ⟨Nat.zero_le _, Nat.zero_le _⟩ (Nat.le_of_ble_eq_true rfl) ?_
  refine e_ifeq rfl (fun h1 => ?_) (fun h1 => ?_)
  · refine e_ci 0 rfl rfl ?_
    refine e_zret rfl rfl (Nat.le_refl _) (Nat.le_refl _) (by decide) ?_
    exact ⟨by simp [hsM, h1], rfl⟩
  · iterate 1 refine e_sp rfl rfl rfl ?_
    refine e_ci 0 rfl rfl ?_
    iterate 2 refine e_sp rfl rfl rfl ?_
    refine e_ci 1 rfl rfl ?_
    iterate 1 refine e_sp rfl rfl rfl ?_
    refine e_callS1 ok_M_in rfl lk_M_110 k_M_in rfl rfl ⟨Nat.le_of_ble_eq_true rfl, Nat.le_of_ble_eq_true rfl⟩ ⟨Nat.zero_le _, Nat.zero_le _⟩ (Nat.le_of_ble_eq_true rfl) ?_
    refine e_ifeq rfl (fun h2 => ?_) (fun h2 => ?_)
    · refine e_ci 0 rfl rfl ?_
      refine e_zret rfl rfl (Nat.le_refl _) (Nat.le_refl _) (by decide) ?_
      exact ⟨by simp [hsM, h1, h2], rfl⟩
    · refine e_ci 1 rfl rfl ?_
      refine e_goto rfl ?_
      refine e_zret rfl rfl (Nat.le_refl _) (Nat.le_refl _) (by decide) ?_
      exact ⟨by simp [hsM, h1, h2], rfl⟩
set_option maxHeartbeats 4000000 in
set_option maxRecDepth 40000 in
theorem k_M_where {l : Launch} {h : Nat} {S : St} {i j a : Int32}  : KK l (SHm h) (2, 44) m_M_where [aR 21, aI i, aI j, aI a] S (ans (some (aI (whR S i j a))) (puI S 21 0 (whC S i j a))) := by
  refine k_start ok_M_where (Nat.le_of_ble_eq_true rfl) ?_
  iterate 4 refine e_sp rfl rfl rfl ?_
  refine e_callV1 ok_M_hasPlace rfl lk_M_141 (by rfl) (by rfl) k_M_hasPlace rfl rfl ⟨Nat.le_of_ble_eq_true rfl, Nat.le_of_ble_eq_true rfl⟩ ⟨Nat.zero_le _, Nat.zero_le _⟩ (Nat.le_of_ble_eq_true rfl) ?_
  refine e_ifne rfl (fun h1 => ?_) (fun h1 => ?_)
  · iterate 1 refine e_sp rfl rfl rfl ?_
    refine e_ci 0 rfl rfl ?_
    refine e_ci 1 rfl rfl ?_
    refine e_callS1 ok_M_in rfl lk_M_110 k_M_in rfl rfl ⟨Nat.le_of_ble_eq_true rfl, Nat.le_of_ble_eq_true rfl⟩ ⟨Nat.zero_le _, Nat.zero_le _⟩ (Nat.le_of_ble_eq_true rfl) ?_
    refine e_ifne rfl (fun h2 => ?_) (fun h2 => ?_)
    · refine e_ci 0 rfl rfl ?_
      iterate 3 refine e_sp rfl rfl rfl ?_
      refine e_ifle rfl (fun _ => ?_) (fun h3 => absurd h3 (by first | decide | simp [puI, pt, upd]))
      iterate 1 refine e_sp rfl rfl rfl ?_
      refine e_ifne rfl (fun h4 => ?_) (fun h4 => ?_)
      · iterate 3 refine e_sp rfl rfl rfl ?_
        refine e_callV1 ok_M_yOf rfl lk_M_132 (by rfl) (by rfl) k_M_yOf rfl rfl ⟨Nat.le_of_ble_eq_true rfl, Nat.le_of_ble_eq_true rfl⟩ ⟨Nat.zero_le _, Nat.zero_le _⟩ (Nat.le_of_ble_eq_true rfl) ?_
        refine e_iret rfl rfl (Nat.le_refl _) (Nat.le_refl _) ?_
        exact ⟨by unfold whR; (first | rw [if_pos h1] | rw [if_neg h1] | skip); (first | rw [if_pos h2] | rw [if_neg h2] | skip); (first | rw [if_pos h4] | rw [if_neg h4] | skip); try rfl, by unfold whC; (first | rw [if_pos h1] | rw [if_neg h1] | skip); (first | rw [if_pos h2] | rw [if_neg h2] | skip); (first | rw [if_pos h4] | rw [if_neg h4] | skip); try rfl⟩
      · iterate 3 refine e_sp rfl rfl rfl ?_
        refine e_callV1 ok_M_xOf rfl lk_M_129 (by rfl) (by rfl) k_M_xOf rfl rfl ⟨Nat.le_of_ble_eq_true rfl, Nat.le_of_ble_eq_true rfl⟩ ⟨Nat.zero_le _, Nat.zero_le _⟩ (Nat.le_of_ble_eq_true rfl) ?_
        refine e_goto rfl ?_
        refine e_iret rfl rfl (Nat.le_refl _) (Nat.le_refl _) ?_
        exact ⟨by unfold whR; (first | rw [if_pos h1] | rw [if_neg h1] | skip); (first | rw [if_pos h2] | rw [if_neg h2] | skip); (first | rw [if_pos h4] | rw [if_neg h4] | skip); try rfl, by unfold whC; (first | rw [if_pos h1] | rw [if_neg h1] | skip); (first | rw [if_pos h2] | rw [if_neg h2] | skip); (first | rw [if_pos h4] | rw [if_neg h4] | skip); try rfl⟩
    · refine e_ci 2 rfl rfl ?_
      refine e_goto rfl ?_
      iterate 3 refine e_sp rfl rfl rfl ?_
      refine e_ifle rfl (fun h5 => absurd h5 (by first | decide | simp [puI, pt, upd])) (fun _ => ?_)
      refine e_ci 0 rfl rfl ?_
      refine e_goto rfl ?_
      refine e_iret rfl rfl (Nat.le_refl _) (Nat.le_refl _) ?_
      exact ⟨by unfold whR; (first | rw [if_pos h1] | rw [if_neg h1] | skip); (first | rw [if_pos h2] | rw [if_neg h2] | skip); try rfl, by unfold whC; (first | rw [if_pos h1] | rw [if_neg h1] | skip); (first | rw [if_pos h2] | rw [if_neg h2] | skip); try rfl⟩
  · refine e_ci 1 rfl rfl ?_
    refine e_goto rfl ?_
    iterate 3 refine e_sp rfl rfl rfl ?_
    refine e_ifle rfl (fun h6 => absurd h6 (by first | decide | simp [puI, pt, upd])) (fun _ => ?_)
    refine e_ci 0 rfl rfl ?_
    refine e_goto rfl ?_
    refine e_iret rfl rfl (Nat.le_refl _) (Nat.le_refl _) ?_
    exact ⟨by unfold whR; (first | rw [if_pos h1] | rw [if_neg h1] | skip); try rfl, by unfold whC; (first | rw [if_pos h1] | rw [if_neg h1] | skip); try rfl⟩
set_option maxHeartbeats 4000000 in
set_option maxRecDepth 40000 in
theorem k_M_outside {l : Launch} {h : Nat} {S : St} {i j : Int32}  : KK l (SHm h) (3, 66) m_M_outside [aR 21, aI i, aI j] S (ans (some (aI (if hpM S i j = 0 then 0 else if ouM (puI S 21 0 0) i j = 0 then 0 else 1))) (puI S 21 0 (if hpM S i j = 0 then 1 else 0))) := by
  refine k_start ok_M_outside (Nat.le_of_ble_eq_true rfl) ?_
  iterate 4 refine e_sp rfl rfl rfl ?_
  refine e_callV1 ok_M_hasPlace rfl lk_M_141 (by rfl) (by rfl) k_M_hasPlace rfl rfl ⟨Nat.le_of_ble_eq_true rfl, Nat.le_of_ble_eq_true rfl⟩ ⟨Nat.zero_le _, Nat.zero_le _⟩ (Nat.le_of_ble_eq_true rfl) ?_
  refine e_ifeq rfl (fun h1 => ?_) (fun h1 => ?_)
  · refine e_ci 1 rfl rfl ?_
    iterate 3 refine e_sp rfl rfl rfl ?_
    refine e_ifne rfl (fun _ => ?_) (fun h2 => absurd h2 (by first | decide | simp [puI, pt, upd]))
    refine e_ci 0 rfl rfl ?_
    refine e_zret rfl rfl (Nat.le_refl _) (Nat.le_refl _) (by decide) ?_
    exact ⟨by simp [h1], by simp [h1]⟩
  · refine e_ci 0 rfl rfl ?_
    refine e_goto rfl ?_
    iterate 3 refine e_sp rfl rfl rfl ?_
    refine e_ifne rfl (fun h3 => absurd h3 (by first | decide | simp [puI, pt, upd])) (fun _ => ?_)
    iterate 3 refine e_sp rfl rfl rfl ?_
    refine e_callV1 ok_M_isOutside rfl lk_M_135 (by rfl) (by rfl) k_M_isOutside rfl rfl ⟨Nat.le_of_ble_eq_true rfl, Nat.le_of_ble_eq_true rfl⟩ ⟨Nat.zero_le _, Nat.zero_le _⟩ (Nat.le_of_ble_eq_true rfl) ?_
    refine e_ifeq rfl (fun h4 => ?_) (fun h4 => ?_)
    · refine e_ci 0 rfl rfl ?_
      refine e_zret rfl rfl (Nat.le_refl _) (Nat.le_refl _) (by decide) ?_
      exact ⟨by simp [h1, h4], by simp [h1, h4]⟩
    · refine e_ci 1 rfl rfl ?_
      refine e_goto rfl ?_
      refine e_zret rfl rfl (Nat.le_refl _) (Nat.le_refl _) (by decide) ?_
      exact ⟨by simp [h1, h4], by simp [h1, h4]⟩
set_option maxHeartbeats 4000000 in
set_option maxRecDepth 40000 in
theorem k_M_grey {l : Launch} {h : Nat} {S : St} {i j v : Int32} {c r : Nat} (hc : S.1 21 9 = nI c) (hr : S.1 21 10 = nI r) (hc2 : c ≤ 16) (hr2 : r ≤ 16) : KK l (SHm h) (2, 44) m_M_grey [aR 21, aI i, aI j, aI v] S (ans (some (aI (gyR S i j v))) (gyS S i j v)) := by
  refine k_start ok_M_grey (Nat.le_of_ble_eq_true rfl) ?_
  iterate 4 refine e_sp rfl rfl rfl ?_
  refine e_callV1 ok_M_hasPlace rfl lk_M_141 (by rfl) (by rfl) k_M_hasPlace rfl rfl ⟨Nat.le_of_ble_eq_true rfl, Nat.le_of_ble_eq_true rfl⟩ ⟨Nat.zero_le _, Nat.zero_le _⟩ (Nat.le_of_ble_eq_true rfl) ?_
  refine e_ifne rfl (fun h1 => ?_) (fun h1 => ?_)
  · iterate 1 refine e_sp rfl rfl rfl ?_
    refine e_ci 0 rfl rfl ?_
    iterate 2 refine e_sp rfl rfl rfl ?_
    refine e_ci 1 rfl rfl ?_
    iterate 1 refine e_sp rfl rfl rfl ?_
    refine e_callS1 ok_M_in rfl lk_M_110 k_M_in rfl rfl ⟨Nat.le_of_ble_eq_true rfl, Nat.le_of_ble_eq_true rfl⟩ ⟨Nat.zero_le _, Nat.zero_le _⟩ (Nat.le_of_ble_eq_true rfl) ?_
    refine e_ifne rfl (fun h2 => ?_) (fun h2 => ?_)
    · refine e_ci 0 rfl rfl ?_
      iterate 3 refine e_sp rfl rfl rfl ?_
      refine e_ifle rfl (fun _ => ?_) (fun h3 => absurd h3 (by first | decide | simp [puI, pt, upd]))
      iterate 2 refine e_sp rfl rfl rfl ?_
      refine e_cb 16 rfl rfl ?_
      iterate 4 refine e_sp rfl rfl rfl ?_
      refine e_iald rfl (by first | rfl | assumption) (by exact hpM_in hc hr hc2 hr2 (by assumption)) ?_
      iterate 1 refine e_sp rfl rfl rfl ?_
      refine e_iceq rfl (fun h4 => ?_) (fun h4 => ?_)
      · refine e_ci 0 rfl rfl ?_
        iterate 3 refine e_sp rfl rfl rfl ?_
        refine e_cb 16 rfl rfl ?_
        iterate 5 refine e_sp rfl rfl rfl ?_
        refine e_iast rfl (by first | rfl | assumption) (by exact hpM_in hc hr hc2 hr2 (by assumption)) ?_
        iterate 1 refine e_sp rfl rfl rfl ?_
        refine e_zret rfl rfl (Nat.le_refl _) (Nat.le_refl _) (by decide) ?_
        exact ⟨by simp_all [gyR, puI, pt, upd], by simp_all [gyS, puI, pt, upd]⟩
      · refine e_ci 1 rfl rfl ?_
        refine e_goto rfl ?_
        iterate 3 refine e_sp rfl rfl rfl ?_
        refine e_cb 16 rfl rfl ?_
        iterate 5 refine e_sp rfl rfl rfl ?_
        refine e_iast rfl (by first | rfl | assumption) (by exact hpM_in hc hr hc2 hr2 (by assumption)) ?_
        iterate 1 refine e_sp rfl rfl rfl ?_
        refine e_zret rfl rfl (Nat.le_refl _) (Nat.le_refl _) (by decide) ?_
        exact ⟨by simp_all [gyR, puI, pt, upd], by simp_all [gyS, puI, pt, upd]⟩
    · refine e_ci 2 rfl rfl ?_
      refine e_goto rfl ?_
      iterate 3 refine e_sp rfl rfl rfl ?_
      refine e_ifle rfl (fun h5 => absurd h5 (by first | decide | simp [puI, pt, upd])) (fun _ => ?_)
      refine e_ci 0 rfl rfl ?_
      refine e_zret rfl rfl (Nat.le_refl _) (Nat.le_refl _) (by decide) ?_
      exact ⟨by simp_all [gyR, puI, pt, upd], by simp_all [gyS, puI, pt, upd]⟩
  · refine e_ci 1 rfl rfl ?_
    refine e_goto rfl ?_
    iterate 3 refine e_sp rfl rfl rfl ?_
    refine e_ifle rfl (fun h6 => absurd h6 (by first | decide | simp [puI, pt, upd])) (fun _ => ?_)
    refine e_ci 0 rfl rfl ?_
    refine e_zret rfl rfl (Nat.le_refl _) (Nat.le_refl _) (by decide) ?_
    exact ⟨by simp_all [gyR, puI, pt, upd], by simp_all [gyS, puI, pt, upd]⟩
set_option maxHeartbeats 4000000 in
set_option maxRecDepth 40000 in
theorem k_M_greyAt {l : Launch} {h : Nat} {S : St} {i j : Int32} {c r : Nat} (hc : S.1 21 9 = nI c) (hr : S.1 21 10 = nI r) (hc2 : c ≤ 16) (hr2 : r ≤ 16) : KK l (SHm h) (2, 44) m_M_greyAt [aR 21, aI i, aI j] S (ans (some (aI (if hpM S i j = 0 then 0 else S.1 25 (16 * j + i).toNatClampNeg))) (puI S 21 0 (if hpM S i j = 0 then 1 else 0))) := by
  refine k_start ok_M_greyAt (Nat.le_of_ble_eq_true rfl) ?_
  iterate 4 refine e_sp rfl rfl rfl ?_
  refine e_callV1 ok_M_hasPlace rfl lk_M_141 (by rfl) (by rfl) k_M_hasPlace rfl rfl ⟨Nat.le_of_ble_eq_true rfl, Nat.le_of_ble_eq_true rfl⟩ ⟨Nat.zero_le _, Nat.zero_le _⟩ (Nat.le_of_ble_eq_true rfl) ?_
  refine e_ifeq rfl (fun h1 => ?_) (fun h1 => ?_)
  · refine e_ci 1 rfl rfl ?_
    iterate 3 refine e_sp rfl rfl rfl ?_
    refine e_ifle rfl (fun h2 => absurd h2 (by first | decide | simp [puI, pt, upd])) (fun _ => ?_)
    refine e_ci 0 rfl rfl ?_
    refine e_goto rfl ?_
    refine e_iret rfl rfl (Nat.le_refl _) (Nat.le_refl _) ?_
    exact ⟨by simp_all [puI, pt, upd], by simp_all⟩
  · refine e_ci 0 rfl rfl ?_
    refine e_goto rfl ?_
    iterate 3 refine e_sp rfl rfl rfl ?_
    refine e_ifle rfl (fun _ => ?_) (fun h3 => absurd h3 (by first | decide | simp [puI, pt, upd]))
    iterate 2 refine e_sp rfl rfl rfl ?_
    refine e_cb 16 rfl rfl ?_
    iterate 4 refine e_sp rfl rfl rfl ?_
    refine e_iald rfl (by first | rfl | assumption) (by exact hpM_in hc hr hc2 hr2 (by assumption)) ?_
    refine e_iret rfl rfl (Nat.le_refl _) (Nat.le_refl _) ?_
    exact ⟨by simp_all [puI, pt, upd], by simp_all⟩
set_option maxHeartbeats 4000000 in
set_option maxRecDepth 40000 in
theorem k_M_way {l : Launch} {h : Nat} {S : St} {w v : Int32}  : KK l (SHm h) (1, 22) m_M_way [aR 21, aI w, aI v] S (ans (some (aI (wyR S w v))) (wyS S w v)) := by
  refine k_start ok_M_way (Nat.le_of_ble_eq_true rfl) ?_
  iterate 2 refine e_sp rfl rfl rfl ?_
  refine e_ci 0 rfl rfl ?_
  refine e_ci 2 rfl rfl ?_
  refine e_callS1 ok_M_in rfl lk_M_110 k_M_in rfl rfl ⟨Nat.le_of_ble_eq_true rfl, Nat.le_of_ble_eq_true rfl⟩ ⟨Nat.zero_le _, Nat.zero_le _⟩ (Nat.le_of_ble_eq_true rfl) ?_
  refine e_ifeq rfl (fun h1 => ?_) (fun h1 => ?_)
  · refine e_ci 1 rfl rfl ?_
    iterate 3 refine e_sp rfl rfl rfl ?_
    refine e_ifle rfl (fun h2 => absurd h2 (by first | decide | simp [puI, pt, upd])) (fun _ => ?_)
    refine e_ci 0 rfl rfl ?_
    refine e_iret rfl rfl (Nat.le_refl _) (Nat.le_refl _) ?_
    exact ⟨by simp_all [wyR, wyC, puI, pt, upd], by simp_all [wyS, wyC, wyT]⟩
  · iterate 1 refine e_sp rfl rfl rfl ?_
    refine e_ci 0 rfl rfl ?_
    iterate 1 refine e_sp rfl rfl rfl ?_
    refine e_ifne rfl (fun h3 => ?_) (fun h3 => ?_)
    · refine e_ci 1 rfl rfl ?_
      refine e_callS1 ok_M_in rfl lk_M_110 k_M_in rfl rfl ⟨Nat.le_of_ble_eq_true rfl, Nat.le_of_ble_eq_true rfl⟩ ⟨Nat.zero_le _, Nat.zero_le _⟩ (Nat.le_of_ble_eq_true rfl) ?_
      refine e_ifeq rfl (fun h4 => ?_) (fun h4 => ?_)
      · refine e_ci 1 rfl rfl ?_
        iterate 3 refine e_sp rfl rfl rfl ?_
        refine e_ifle rfl (fun h5 => absurd h5 (by first | decide | simp [puI, pt, upd])) (fun _ => ?_)
        refine e_ci 0 rfl rfl ?_
        refine e_iret rfl rfl (Nat.le_refl _) (Nat.le_refl _) ?_
        exact ⟨by simp_all [wyR, wyC, puI, pt, upd], by simp_all [wyS, wyC, wyT]⟩
      · refine e_ci 0 rfl rfl ?_
        refine e_goto rfl ?_
        iterate 3 refine e_sp rfl rfl rfl ?_
        refine e_ifle rfl (fun _ => ?_) (fun h6 => absurd h6 (by first | decide | simp [puI, pt, upd]))
        iterate 1 refine e_sp rfl rfl rfl ?_
        refine e_ifne rfl (fun h7 => ?_) (fun h7 => ?_)
        · iterate 1 refine e_sp rfl rfl rfl ?_
          refine e_ci 1 rfl rfl ?_
          refine e_icne rfl (fun h8 => ?_) (fun h8 => ?_)
          · iterate 5 refine e_sp rfl rfl rfl ?_
            refine e_ifne rfl (fun h9 => ?_) (fun h9 => ?_)
            · iterate 5 refine e_sp rfl rfl rfl ?_
              refine e_ci 1 rfl rfl ?_
              refine e_icne rfl (fun h10 => ?_) (fun h10 => ?_)
              · iterate 5 refine e_sp rfl rfl rfl ?_
                refine e_ci 2 rfl rfl ?_
                refine e_icne rfl (fun h11 => ?_) (fun h11 => ?_)
                · iterate 4 refine e_sp rfl rfl rfl ?_
                  refine e_iret rfl rfl (Nat.le_refl _) (Nat.le_refl _) ?_
                  exact ⟨by simp_all [wyR, wyC, puI, pt, upd], by simp_all [wyS, wyC, wyT]⟩
                · iterate 1 refine e_sp rfl rfl rfl ?_
                  refine e_goto rfl ?_
                  iterate 2 refine e_sp rfl rfl rfl ?_
                  refine e_iret rfl rfl (Nat.le_refl _) (Nat.le_refl _) ?_
                  exact ⟨by simp_all [wyR, wyC, puI, pt, upd], by simp_all [wyS, wyC, wyT]⟩
              · iterate 1 refine e_sp rfl rfl rfl ?_
                refine e_goto rfl ?_
                iterate 3 refine e_sp rfl rfl rfl ?_
                refine e_ci 2 rfl rfl ?_
                refine e_icne rfl (fun h12 => ?_) (fun h12 => ?_)
                · iterate 4 refine e_sp rfl rfl rfl ?_
                  refine e_iret rfl rfl (Nat.le_refl _) (Nat.le_refl _) ?_
                  exact ⟨by simp_all [wyR, wyC, puI, pt, upd], by simp_all [wyS, wyC, wyT]⟩
                · iterate 1 refine e_sp rfl rfl rfl ?_
                  refine e_goto rfl ?_
                  iterate 2 refine e_sp rfl rfl rfl ?_
                  refine e_iret rfl rfl (Nat.le_refl _) (Nat.le_refl _) ?_
                  exact ⟨by simp_all [wyR, wyC, puI, pt, upd], by simp_all [wyS, wyC, wyT]⟩
            · iterate 1 refine e_sp rfl rfl rfl ?_
              refine e_goto rfl ?_
              iterate 3 refine e_sp rfl rfl rfl ?_
              refine e_ci 1 rfl rfl ?_
              refine e_icne rfl (fun h13 => ?_) (fun h13 => ?_)
              · iterate 5 refine e_sp rfl rfl rfl ?_
                refine e_ci 2 rfl rfl ?_
                refine e_icne rfl (fun h14 => ?_) (fun h14 => ?_)
                · iterate 4 refine e_sp rfl rfl rfl ?_
                  refine e_iret rfl rfl (Nat.le_refl _) (Nat.le_refl _) ?_
                  exact ⟨by simp_all [wyR, wyC, puI, pt, upd], by simp_all [wyS, wyC, wyT]⟩
                · iterate 1 refine e_sp rfl rfl rfl ?_
                  refine e_goto rfl ?_
                  iterate 2 refine e_sp rfl rfl rfl ?_
                  refine e_iret rfl rfl (Nat.le_refl _) (Nat.le_refl _) ?_
                  exact ⟨by simp_all [wyR, wyC, puI, pt, upd], by simp_all [wyS, wyC, wyT]⟩
              · iterate 1 refine e_sp rfl rfl rfl ?_
                refine e_goto rfl ?_
                iterate 3 refine e_sp rfl rfl rfl ?_
                refine e_ci 2 rfl rfl ?_
                refine e_icne rfl (fun h15 => ?_) (fun h15 => ?_)
                · iterate 4 refine e_sp rfl rfl rfl ?_
                  refine e_iret rfl rfl (Nat.le_refl _) (Nat.le_refl _) ?_
                  exact ⟨by simp_all [wyR, wyC, puI, pt, upd], by simp_all [wyS, wyC, wyT]⟩
                · iterate 1 refine e_sp rfl rfl rfl ?_
                  refine e_goto rfl ?_
                  iterate 2 refine e_sp rfl rfl rfl ?_
                  refine e_iret rfl rfl (Nat.le_refl _) (Nat.le_refl _) ?_
                  exact ⟨by simp_all [wyR, wyC, puI, pt, upd], by simp_all [wyS, wyC, wyT]⟩
          · iterate 2 refine e_sp rfl rfl rfl ?_
            refine e_goto rfl ?_
            iterate 3 refine e_sp rfl rfl rfl ?_
            refine e_ifne rfl (fun h16 => ?_) (fun h16 => ?_)
            · iterate 5 refine e_sp rfl rfl rfl ?_
              refine e_ci 1 rfl rfl ?_
              refine e_icne rfl (fun h17 => ?_) (fun h17 => ?_)
              · iterate 5 refine e_sp rfl rfl rfl ?_
                refine e_ci 2 rfl rfl ?_
                refine e_icne rfl (fun h18 => ?_) (fun h18 => ?_)
                · iterate 4 refine e_sp rfl rfl rfl ?_
                  refine e_iret rfl rfl (Nat.le_refl _) (Nat.le_refl _) ?_
                  exact ⟨by simp_all [wyR, wyC, puI, pt, upd], by simp_all [wyS, wyC, wyT]⟩
                · iterate 1 refine e_sp rfl rfl rfl ?_
                  refine e_goto rfl ?_
                  iterate 2 refine e_sp rfl rfl rfl ?_
                  refine e_iret rfl rfl (Nat.le_refl _) (Nat.le_refl _) ?_
                  exact ⟨by simp_all [wyR, wyC, puI, pt, upd], by simp_all [wyS, wyC, wyT]⟩
              · iterate 1 refine e_sp rfl rfl rfl ?_
                refine e_goto rfl ?_
                iterate 3 refine e_sp rfl rfl rfl ?_
                refine e_ci 2 rfl rfl ?_
                refine e_icne rfl (fun h19 => ?_) (fun h19 => ?_)
                · iterate 4 refine e_sp rfl rfl rfl ?_
                  refine e_iret rfl rfl (Nat.le_refl _) (Nat.le_refl _) ?_
                  exact ⟨by simp_all [wyR, wyC, puI, pt, upd], by simp_all [wyS, wyC, wyT]⟩
                · iterate 1 refine e_sp rfl rfl rfl ?_
                  refine e_goto rfl ?_
                  iterate 2 refine e_sp rfl rfl rfl ?_
                  refine e_iret rfl rfl (Nat.le_refl _) (Nat.le_refl _) ?_
                  exact ⟨by simp_all [wyR, wyC, puI, pt, upd], by simp_all [wyS, wyC, wyT]⟩
            · iterate 1 refine e_sp rfl rfl rfl ?_
              refine e_goto rfl ?_
              iterate 3 refine e_sp rfl rfl rfl ?_
              refine e_ci 1 rfl rfl ?_
              refine e_icne rfl (fun h20 => ?_) (fun h20 => ?_)
              · iterate 5 refine e_sp rfl rfl rfl ?_
                refine e_ci 2 rfl rfl ?_
                refine e_icne rfl (fun h21 => ?_) (fun h21 => ?_)
                · iterate 4 refine e_sp rfl rfl rfl ?_
                  refine e_iret rfl rfl (Nat.le_refl _) (Nat.le_refl _) ?_
                  exact ⟨by simp_all [wyR, wyC, puI, pt, upd], by simp_all [wyS, wyC, wyT]⟩
                · iterate 1 refine e_sp rfl rfl rfl ?_
                  refine e_goto rfl ?_
                  iterate 2 refine e_sp rfl rfl rfl ?_
                  refine e_iret rfl rfl (Nat.le_refl _) (Nat.le_refl _) ?_
                  exact ⟨by simp_all [wyR, wyC, puI, pt, upd], by simp_all [wyS, wyC, wyT]⟩
              · iterate 1 refine e_sp rfl rfl rfl ?_
                refine e_goto rfl ?_
                iterate 3 refine e_sp rfl rfl rfl ?_
                refine e_ci 2 rfl rfl ?_
                refine e_icne rfl (fun h22 => ?_) (fun h22 => ?_)
                · iterate 4 refine e_sp rfl rfl rfl ?_
                  refine e_iret rfl rfl (Nat.le_refl _) (Nat.le_refl _) ?_
                  exact ⟨by simp_all [wyR, wyC, puI, pt, upd], by simp_all [wyS, wyC, wyT]⟩
                · iterate 1 refine e_sp rfl rfl rfl ?_
                  refine e_goto rfl ?_
                  iterate 2 refine e_sp rfl rfl rfl ?_
                  refine e_iret rfl rfl (Nat.le_refl _) (Nat.le_refl _) ?_
                  exact ⟨by simp_all [wyR, wyC, puI, pt, upd], by simp_all [wyS, wyC, wyT]⟩
        · iterate 2 refine e_sp rfl rfl rfl ?_
          refine e_goto rfl ?_
          iterate 3 refine e_sp rfl rfl rfl ?_
          refine e_ifne rfl (fun h23 => ?_) (fun h23 => ?_)
          · iterate 5 refine e_sp rfl rfl rfl ?_
            refine e_ci 1 rfl rfl ?_
            refine e_icne rfl (fun h24 => ?_) (fun h24 => ?_)
            · iterate 5 refine e_sp rfl rfl rfl ?_
              refine e_ci 2 rfl rfl ?_
              refine e_icne rfl (fun h25 => ?_) (fun h25 => ?_)
              · iterate 4 refine e_sp rfl rfl rfl ?_
                refine e_iret rfl rfl (Nat.le_refl _) (Nat.le_refl _) ?_
                exact ⟨by simp_all [wyR, wyC, puI, pt, upd], by simp_all [wyS, wyC, wyT]⟩
              · iterate 1 refine e_sp rfl rfl rfl ?_
                refine e_goto rfl ?_
                iterate 2 refine e_sp rfl rfl rfl ?_
                refine e_iret rfl rfl (Nat.le_refl _) (Nat.le_refl _) ?_
                exact ⟨by simp_all [wyR, wyC, puI, pt, upd], by simp_all [wyS, wyC, wyT]⟩
            · iterate 1 refine e_sp rfl rfl rfl ?_
              refine e_goto rfl ?_
              iterate 3 refine e_sp rfl rfl rfl ?_
              refine e_ci 2 rfl rfl ?_
              refine e_icne rfl (fun h26 => ?_) (fun h26 => ?_)
              · iterate 4 refine e_sp rfl rfl rfl ?_
                refine e_iret rfl rfl (Nat.le_refl _) (Nat.le_refl _) ?_
                exact ⟨by simp_all [wyR, wyC, puI, pt, upd], by simp_all [wyS, wyC, wyT]⟩
              · iterate 1 refine e_sp rfl rfl rfl ?_
                refine e_goto rfl ?_
                iterate 2 refine e_sp rfl rfl rfl ?_
                refine e_iret rfl rfl (Nat.le_refl _) (Nat.le_refl _) ?_
                exact ⟨by simp_all [wyR, wyC, puI, pt, upd], by simp_all [wyS, wyC, wyT]⟩
          · iterate 1 refine e_sp rfl rfl rfl ?_
            refine e_goto rfl ?_
            iterate 3 refine e_sp rfl rfl rfl ?_
            refine e_ci 1 rfl rfl ?_
            refine e_icne rfl (fun h27 => ?_) (fun h27 => ?_)
            · iterate 5 refine e_sp rfl rfl rfl ?_
              refine e_ci 2 rfl rfl ?_
              refine e_icne rfl (fun h28 => ?_) (fun h28 => ?_)
              · iterate 4 refine e_sp rfl rfl rfl ?_
                refine e_iret rfl rfl (Nat.le_refl _) (Nat.le_refl _) ?_
                exact ⟨by simp_all [wyR, wyC, puI, pt, upd], by simp_all [wyS, wyC, wyT]⟩
              · iterate 1 refine e_sp rfl rfl rfl ?_
                refine e_goto rfl ?_
                iterate 2 refine e_sp rfl rfl rfl ?_
                refine e_iret rfl rfl (Nat.le_refl _) (Nat.le_refl _) ?_
                exact ⟨by simp_all [wyR, wyC, puI, pt, upd], by simp_all [wyS, wyC, wyT]⟩
            · iterate 1 refine e_sp rfl rfl rfl ?_
              refine e_goto rfl ?_
              iterate 3 refine e_sp rfl rfl rfl ?_
              refine e_ci 2 rfl rfl ?_
              refine e_icne rfl (fun h29 => ?_) (fun h29 => ?_)
              · iterate 4 refine e_sp rfl rfl rfl ?_
                refine e_iret rfl rfl (Nat.le_refl _) (Nat.le_refl _) ?_
                exact ⟨by simp_all [wyR, wyC, puI, pt, upd], by simp_all [wyS, wyC, wyT]⟩
              · iterate 1 refine e_sp rfl rfl rfl ?_
                refine e_goto rfl ?_
                iterate 2 refine e_sp rfl rfl rfl ?_
                refine e_iret rfl rfl (Nat.le_refl _) (Nat.le_refl _) ?_
                exact ⟨by simp_all [wyR, wyC, puI, pt, upd], by simp_all [wyS, wyC, wyT]⟩
    · refine e_ci 4 rfl rfl ?_
      refine e_goto rfl ?_
      refine e_callS1 ok_M_in rfl lk_M_110 k_M_in rfl rfl ⟨Nat.le_of_ble_eq_true rfl, Nat.le_of_ble_eq_true rfl⟩ ⟨Nat.zero_le _, Nat.zero_le _⟩ (Nat.le_of_ble_eq_true rfl) ?_
      refine e_ifeq rfl (fun h30 => ?_) (fun h30 => ?_)
      · refine e_ci 1 rfl rfl ?_
        iterate 3 refine e_sp rfl rfl rfl ?_
        refine e_ifle rfl (fun h31 => absurd h31 (by first | decide | simp [puI, pt, upd])) (fun _ => ?_)
        refine e_ci 0 rfl rfl ?_
        refine e_iret rfl rfl (Nat.le_refl _) (Nat.le_refl _) ?_
        exact ⟨by simp_all [wyR, wyC, puI, pt, upd], by simp_all [wyS, wyC, wyT]⟩
      · refine e_ci 0 rfl rfl ?_
        refine e_goto rfl ?_
        iterate 3 refine e_sp rfl rfl rfl ?_
        refine e_ifle rfl (fun _ => ?_) (fun h32 => absurd h32 (by first | decide | simp [puI, pt, upd]))
        iterate 1 refine e_sp rfl rfl rfl ?_
        refine e_ifne rfl (fun h33 => ?_) (fun h33 => ?_)
        · iterate 1 refine e_sp rfl rfl rfl ?_
          refine e_ci 1 rfl rfl ?_
          refine e_icne rfl (fun h34 => ?_) (fun h34 => ?_)
          · iterate 5 refine e_sp rfl rfl rfl ?_
            refine e_ifne rfl (fun h35 => ?_) (fun h35 => ?_)
            · iterate 5 refine e_sp rfl rfl rfl ?_
              refine e_ci 1 rfl rfl ?_
              refine e_icne rfl (fun h36 => ?_) (fun h36 => ?_)
              · iterate 5 refine e_sp rfl rfl rfl ?_
                refine e_ci 2 rfl rfl ?_
                refine e_icne rfl (fun h37 => ?_) (fun h37 => ?_)
                · iterate 4 refine e_sp rfl rfl rfl ?_
                  refine e_iret rfl rfl (Nat.le_refl _) (Nat.le_refl _) ?_
                  exact ⟨by simp_all [wyR, wyC, puI, pt, upd], by simp_all [wyS, wyC, wyT]⟩
                · iterate 1 refine e_sp rfl rfl rfl ?_
                  refine e_goto rfl ?_
                  iterate 2 refine e_sp rfl rfl rfl ?_
                  refine e_iret rfl rfl (Nat.le_refl _) (Nat.le_refl _) ?_
                  exact ⟨by simp_all [wyR, wyC, puI, pt, upd], by simp_all [wyS, wyC, wyT]⟩
              · iterate 1 refine e_sp rfl rfl rfl ?_
                refine e_goto rfl ?_
                iterate 3 refine e_sp rfl rfl rfl ?_
                refine e_ci 2 rfl rfl ?_
                refine e_icne rfl (fun h38 => ?_) (fun h38 => ?_)
                · iterate 4 refine e_sp rfl rfl rfl ?_
                  refine e_iret rfl rfl (Nat.le_refl _) (Nat.le_refl _) ?_
                  exact ⟨by simp_all [wyR, wyC, puI, pt, upd], by simp_all [wyS, wyC, wyT]⟩
                · iterate 1 refine e_sp rfl rfl rfl ?_
                  refine e_goto rfl ?_
                  iterate 2 refine e_sp rfl rfl rfl ?_
                  refine e_iret rfl rfl (Nat.le_refl _) (Nat.le_refl _) ?_
                  exact ⟨by simp_all [wyR, wyC, puI, pt, upd], by simp_all [wyS, wyC, wyT]⟩
            · iterate 1 refine e_sp rfl rfl rfl ?_
              refine e_goto rfl ?_
              iterate 3 refine e_sp rfl rfl rfl ?_
              refine e_ci 1 rfl rfl ?_
              refine e_icne rfl (fun h39 => ?_) (fun h39 => ?_)
              · iterate 5 refine e_sp rfl rfl rfl ?_
                refine e_ci 2 rfl rfl ?_
                refine e_icne rfl (fun h40 => ?_) (fun h40 => ?_)
                · iterate 4 refine e_sp rfl rfl rfl ?_
                  refine e_iret rfl rfl (Nat.le_refl _) (Nat.le_refl _) ?_
                  exact ⟨by simp_all [wyR, wyC, puI, pt, upd], by simp_all [wyS, wyC, wyT]⟩
                · iterate 1 refine e_sp rfl rfl rfl ?_
                  refine e_goto rfl ?_
                  iterate 2 refine e_sp rfl rfl rfl ?_
                  refine e_iret rfl rfl (Nat.le_refl _) (Nat.le_refl _) ?_
                  exact ⟨by simp_all [wyR, wyC, puI, pt, upd], by simp_all [wyS, wyC, wyT]⟩
              · iterate 1 refine e_sp rfl rfl rfl ?_
                refine e_goto rfl ?_
                iterate 3 refine e_sp rfl rfl rfl ?_
                refine e_ci 2 rfl rfl ?_
                refine e_icne rfl (fun h41 => ?_) (fun h41 => ?_)
                · iterate 4 refine e_sp rfl rfl rfl ?_
                  refine e_iret rfl rfl (Nat.le_refl _) (Nat.le_refl _) ?_
                  exact ⟨by simp_all [wyR, wyC, puI, pt, upd], by simp_all [wyS, wyC, wyT]⟩
                · iterate 1 refine e_sp rfl rfl rfl ?_
                  refine e_goto rfl ?_
                  iterate 2 refine e_sp rfl rfl rfl ?_
                  refine e_iret rfl rfl (Nat.le_refl _) (Nat.le_refl _) ?_
                  exact ⟨by simp_all [wyR, wyC, puI, pt, upd], by simp_all [wyS, wyC, wyT]⟩
          · iterate 2 refine e_sp rfl rfl rfl ?_
            refine e_goto rfl ?_
            iterate 3 refine e_sp rfl rfl rfl ?_
            refine e_ifne rfl (fun h42 => ?_) (fun h42 => ?_)
            · iterate 5 refine e_sp rfl rfl rfl ?_
              refine e_ci 1 rfl rfl ?_
              refine e_icne rfl (fun h43 => ?_) (fun h43 => ?_)
              · iterate 5 refine e_sp rfl rfl rfl ?_
                refine e_ci 2 rfl rfl ?_
                refine e_icne rfl (fun h44 => ?_) (fun h44 => ?_)
                · iterate 4 refine e_sp rfl rfl rfl ?_
                  refine e_iret rfl rfl (Nat.le_refl _) (Nat.le_refl _) ?_
                  exact ⟨by simp_all [wyR, wyC, puI, pt, upd], by simp_all [wyS, wyC, wyT]⟩
                · iterate 1 refine e_sp rfl rfl rfl ?_
                  refine e_goto rfl ?_
                  iterate 2 refine e_sp rfl rfl rfl ?_
                  refine e_iret rfl rfl (Nat.le_refl _) (Nat.le_refl _) ?_
                  exact ⟨by simp_all [wyR, wyC, puI, pt, upd], by simp_all [wyS, wyC, wyT]⟩
              · iterate 1 refine e_sp rfl rfl rfl ?_
                refine e_goto rfl ?_
                iterate 3 refine e_sp rfl rfl rfl ?_
                refine e_ci 2 rfl rfl ?_
                refine e_icne rfl (fun h45 => ?_) (fun h45 => ?_)
                · iterate 4 refine e_sp rfl rfl rfl ?_
                  refine e_iret rfl rfl (Nat.le_refl _) (Nat.le_refl _) ?_
                  exact ⟨by simp_all [wyR, wyC, puI, pt, upd], by simp_all [wyS, wyC, wyT]⟩
                · iterate 1 refine e_sp rfl rfl rfl ?_
                  refine e_goto rfl ?_
                  iterate 2 refine e_sp rfl rfl rfl ?_
                  refine e_iret rfl rfl (Nat.le_refl _) (Nat.le_refl _) ?_
                  exact ⟨by simp_all [wyR, wyC, puI, pt, upd], by simp_all [wyS, wyC, wyT]⟩
            · iterate 1 refine e_sp rfl rfl rfl ?_
              refine e_goto rfl ?_
              iterate 3 refine e_sp rfl rfl rfl ?_
              refine e_ci 1 rfl rfl ?_
              refine e_icne rfl (fun h46 => ?_) (fun h46 => ?_)
              · iterate 5 refine e_sp rfl rfl rfl ?_
                refine e_ci 2 rfl rfl ?_
                refine e_icne rfl (fun h47 => ?_) (fun h47 => ?_)
                · iterate 4 refine e_sp rfl rfl rfl ?_
                  refine e_iret rfl rfl (Nat.le_refl _) (Nat.le_refl _) ?_
                  exact ⟨by simp_all [wyR, wyC, puI, pt, upd], by simp_all [wyS, wyC, wyT]⟩
                · iterate 1 refine e_sp rfl rfl rfl ?_
                  refine e_goto rfl ?_
                  iterate 2 refine e_sp rfl rfl rfl ?_
                  refine e_iret rfl rfl (Nat.le_refl _) (Nat.le_refl _) ?_
                  exact ⟨by simp_all [wyR, wyC, puI, pt, upd], by simp_all [wyS, wyC, wyT]⟩
              · iterate 1 refine e_sp rfl rfl rfl ?_
                refine e_goto rfl ?_
                iterate 3 refine e_sp rfl rfl rfl ?_
                refine e_ci 2 rfl rfl ?_
                refine e_icne rfl (fun h48 => ?_) (fun h48 => ?_)
                · iterate 4 refine e_sp rfl rfl rfl ?_
                  refine e_iret rfl rfl (Nat.le_refl _) (Nat.le_refl _) ?_
                  exact ⟨by simp_all [wyR, wyC, puI, pt, upd], by simp_all [wyS, wyC, wyT]⟩
                · iterate 1 refine e_sp rfl rfl rfl ?_
                  refine e_goto rfl ?_
                  iterate 2 refine e_sp rfl rfl rfl ?_
                  refine e_iret rfl rfl (Nat.le_refl _) (Nat.le_refl _) ?_
                  exact ⟨by simp_all [wyR, wyC, puI, pt, upd], by simp_all [wyS, wyC, wyT]⟩
        · iterate 2 refine e_sp rfl rfl rfl ?_
          refine e_goto rfl ?_
          iterate 3 refine e_sp rfl rfl rfl ?_
          refine e_ifne rfl (fun h49 => ?_) (fun h49 => ?_)
          · iterate 5 refine e_sp rfl rfl rfl ?_
            refine e_ci 1 rfl rfl ?_
            refine e_icne rfl (fun h50 => ?_) (fun h50 => ?_)
            · iterate 5 refine e_sp rfl rfl rfl ?_
              refine e_ci 2 rfl rfl ?_
              refine e_icne rfl (fun h51 => ?_) (fun h51 => ?_)
              · iterate 4 refine e_sp rfl rfl rfl ?_
                refine e_iret rfl rfl (Nat.le_refl _) (Nat.le_refl _) ?_
                exact ⟨by simp_all [wyR, wyC, puI, pt, upd], by simp_all [wyS, wyC, wyT]⟩
              · iterate 1 refine e_sp rfl rfl rfl ?_
                refine e_goto rfl ?_
                iterate 2 refine e_sp rfl rfl rfl ?_
                refine e_iret rfl rfl (Nat.le_refl _) (Nat.le_refl _) ?_
                exact ⟨by simp_all [wyR, wyC, puI, pt, upd], by simp_all [wyS, wyC, wyT]⟩
            · iterate 1 refine e_sp rfl rfl rfl ?_
              refine e_goto rfl ?_
              iterate 3 refine e_sp rfl rfl rfl ?_
              refine e_ci 2 rfl rfl ?_
              refine e_icne rfl (fun h52 => ?_) (fun h52 => ?_)
              · iterate 4 refine e_sp rfl rfl rfl ?_
                refine e_iret rfl rfl (Nat.le_refl _) (Nat.le_refl _) ?_
                exact ⟨by simp_all [wyR, wyC, puI, pt, upd], by simp_all [wyS, wyC, wyT]⟩
              · iterate 1 refine e_sp rfl rfl rfl ?_
                refine e_goto rfl ?_
                iterate 2 refine e_sp rfl rfl rfl ?_
                refine e_iret rfl rfl (Nat.le_refl _) (Nat.le_refl _) ?_
                exact ⟨by simp_all [wyR, wyC, puI, pt, upd], by simp_all [wyS, wyC, wyT]⟩
          · iterate 1 refine e_sp rfl rfl rfl ?_
            refine e_goto rfl ?_
            iterate 3 refine e_sp rfl rfl rfl ?_
            refine e_ci 1 rfl rfl ?_
            refine e_icne rfl (fun h53 => ?_) (fun h53 => ?_)
            · iterate 5 refine e_sp rfl rfl rfl ?_
              refine e_ci 2 rfl rfl ?_
              refine e_icne rfl (fun h54 => ?_) (fun h54 => ?_)
              · iterate 4 refine e_sp rfl rfl rfl ?_
                refine e_iret rfl rfl (Nat.le_refl _) (Nat.le_refl _) ?_
                exact ⟨by simp_all [wyR, wyC, puI, pt, upd], by simp_all [wyS, wyC, wyT]⟩
              · iterate 1 refine e_sp rfl rfl rfl ?_
                refine e_goto rfl ?_
                iterate 2 refine e_sp rfl rfl rfl ?_
                refine e_iret rfl rfl (Nat.le_refl _) (Nat.le_refl _) ?_
                exact ⟨by simp_all [wyR, wyC, puI, pt, upd], by simp_all [wyS, wyC, wyT]⟩
            · iterate 1 refine e_sp rfl rfl rfl ?_
              refine e_goto rfl ?_
              iterate 3 refine e_sp rfl rfl rfl ?_
              refine e_ci 2 rfl rfl ?_
              refine e_icne rfl (fun h55 => ?_) (fun h55 => ?_)
              · iterate 4 refine e_sp rfl rfl rfl ?_
                refine e_iret rfl rfl (Nat.le_refl _) (Nat.le_refl _) ?_
                exact ⟨by simp_all [wyR, wyC, puI, pt, upd], by simp_all [wyS, wyC, wyT]⟩
              · iterate 1 refine e_sp rfl rfl rfl ?_
                refine e_goto rfl ?_
                iterate 2 refine e_sp rfl rfl rfl ?_
                refine e_iret rfl rfl (Nat.le_refl _) (Nat.le_refl _) ?_
                exact ⟨by simp_all [wyR, wyC, puI, pt, upd], by simp_all [wyS, wyC, wyT]⟩
set_option maxHeartbeats 4000000 in
set_option maxRecDepth 40000 in
theorem k_M_at {l : Launch} {h : Nat} {S : St} {x y : Int32} {w g : Nat} (hw : S.1 21 1 = nI w) (hg : S.1 21 2 = nI g) (hw2 : w ≤ 32) (hg2 : g ≤ 32) : KK l (SHm h) (2, 44) m_M_at [aR 21, aI x, aI y] S (ans (some (aI (if hsM S x y = 0 then 0 else if S.1 23 (32 * y + x).toNatClampNeg = 0 then 0 else 1))) (puI S 21 0 (if hsM S x y = 0 then 1 else 0))) := by
  refine k_start ok_M_at (Nat.le_of_ble_eq_true rfl) ?_
  iterate 4 refine e_sp rfl rfl rfl ?_
  refine e_callV1 ok_M_hasSample rfl lk_M_144 (by rfl) (by rfl) k_M_hasSample rfl rfl ⟨Nat.le_of_ble_eq_true rfl, Nat.le_of_ble_eq_true rfl⟩ ⟨Nat.zero_le _, Nat.zero_le _⟩ (Nat.le_of_ble_eq_true rfl) ?_
  refine e_ifeq rfl (fun h1 => ?_) (fun h1 => ?_)
  · refine e_ci 1 rfl rfl ?_
    iterate 3 refine e_sp rfl rfl rfl ?_
    refine e_ifne rfl (fun _ => ?_) (fun h2 => absurd h2 (by first | decide | simp [puI, pt, upd]))
    refine e_ci 0 rfl rfl ?_
    refine e_zret rfl rfl (Nat.le_refl _) (Nat.le_refl _) (by decide) ?_
    exact ⟨by simp_all [puI, pt, upd], by simp_all⟩
  · refine e_ci 0 rfl rfl ?_
    refine e_goto rfl ?_
    iterate 3 refine e_sp rfl rfl rfl ?_
    refine e_ifne rfl (fun h3 => absurd h3 (by first | decide | simp [puI, pt, upd])) (fun _ => ?_)
    iterate 2 refine e_sp rfl rfl rfl ?_
    refine e_cb 32 rfl rfl ?_
    iterate 4 refine e_sp rfl rfl rfl ?_
    refine e_zald rfl (by first | rfl | assumption) (by exact hsM_in hw hg hw2 hg2 (by assumption)) ?_
    refine e_ifeq rfl (fun h4 => ?_) (fun h4 => ?_)
    · refine e_ci 0 rfl rfl ?_
      refine e_zret rfl rfl (Nat.le_refl _) (Nat.le_refl _) (by decide) ?_
      exact ⟨by simp_all [puI, pt, upd], by simp_all⟩
    · refine e_ci 1 rfl rfl ?_
      refine e_goto rfl ?_
      refine e_zret rfl rfl (Nat.le_refl _) (Nat.le_refl _) (by decide) ?_
      exact ⟨by simp_all [puI, pt, upd], by simp_all⟩
def pgF (i : Nat) (x : St × Int32) : St × Int32 := (puI x.1 22 i (vp_nar .boolean (x.1.1 23 i)), x.2 + (if x.1.1 22 i = x.1.1 23 i then 0 else 1))
def pgM (S : St) : St × Int32 := nF pgF 1024 (puI S 21 0 0, 0)
def cxF (S : St) (i j : Int32) (c : Nat) (a : Int32) : Int32 := a + (if S.1 21 5 ≤ nI (c % 8) then 0 else if S.1 21 6 ≤ nI (c / 8) then 0 else if hsM S (xM S i j + nI (c % 8)) (yM S i j + nI (c / 8)) = 0 then 0 else if S.1 22 (32 * (yM S i j + nI (c / 8)) + (xM S i j + nI (c % 8))).toNatClampNeg = 0 then 0 else 1)
def cnM (S : St) (i j : Int32) : Int32 := nF (cxF S i j) 64 0
set_option maxHeartbeats 4000000 in
set_option maxRecDepth 40000 in
theorem k_M_page {l : Launch} {h : Nat} {S : St} : KK l (SHm h) (0, 0) m_M_page [aR 21] S (ans (some (aI (pgM S).2)) (pgM S).1) := by
  refine k_start ok_M_page (Nat.le_of_ble_eq_true rfl) ?_
  have L1 := e_for (P := fun i => E0 l (SHm h) (0, 0) m_M_page 9 [some (aR 21), some (aI (nF pgF i (puI S 21 0 0, 0)).2), some (aI (nI i))] [] ((nF pgF i (puI S 21 0 0, 0)).1) (ans (some (aI (pgM S).2)) (pgM S).1)) (1024) (by
      iterate 1 refine e_sp rfl rfl rfl ?_
      refine e_cs 1024 rfl rfl ?_
      refine e_icge rfl (fun h1 => ?_) (fun h1 => ?_)
      · iterate 1 refine e_sp rfl rfl rfl ?_
        refine e_iret rfl rfl (Nat.le_refl _) (Nat.le_refl _) ?_
        exact ⟨rfl, rfl⟩
      · try dsimp only
        exact absurd (nI_le (Nat.le_refl _) (by decide)) h1) (fun i hi ihi => by
      iterate 1 refine e_sp rfl rfl rfl ?_
      refine e_cs 1024 rfl rfl ?_
      refine e_icge rfl (fun h1 => ?_) (fun h1 => ?_)
      · try dsimp only
        exact absurd h1 (nI_ge hi (by decide))
      · iterate 4 refine e_sp rfl rfl rfl ?_
        refine e_zald rfl (by first | rfl | assumption) (by exact vp_in_nI hi (by decide)) ?_
        rw [nI_clamp (by omega)]
        iterate 3 refine e_sp rfl rfl rfl ?_
        refine e_zald rfl (by first | rfl | assumption) (by exact vp_in_nI hi (by decide)) ?_
        rw [nI_clamp (by omega)]
        refine e_iceq rfl (fun h2 => ?_) (fun h2 => ?_)
        · refine e_ci 0 rfl rfl ?_
          iterate 8 refine e_sp rfl rfl rfl ?_
          refine e_zald rfl (by first | rfl | assumption) (by exact vp_in_nI hi (by decide)) ?_
          rw [nI_clamp (by omega)]
          refine e_zast rfl (by first | rfl | assumption) (by exact vp_in_nI hi (by decide)) ?_
          rw [nI_clamp (by omega)]
          refine e_inc 1 rfl rfl rfl rfl ?_
          refine e_goto rfl ?_
          try dsimp only
          rw [nI_1]
          simp only [nF, pgF] at ihi
          first | rw [if_pos h2] at ihi | rw [if_neg h2] at ihi
          exact ihi
        · refine e_ci 1 rfl rfl ?_
          refine e_goto rfl ?_
          iterate 8 refine e_sp rfl rfl rfl ?_
          refine e_zald rfl (by first | rfl | assumption) (by exact vp_in_nI hi (by decide)) ?_
          rw [nI_clamp (by omega)]
          refine e_zast rfl (by first | rfl | assumption) (by exact vp_in_nI hi (by decide)) ?_
          rw [nI_clamp (by omega)]
          refine e_inc 1 rfl rfl rfl rfl ?_
          refine e_goto rfl ?_
          try dsimp only
          rw [nI_1]
          simp only [nF, pgF] at ihi
          first | rw [if_pos h2] at ihi | rw [if_neg h2] at ihi
          exact ihi)
  iterate 1 refine e_sp rfl rfl rfl ?_
  refine e_ci 0 rfl rfl ?_
  iterate 1 refine e_sp rfl rfl rfl ?_
  refine e_ci 0 rfl rfl ?_
  iterate 1 refine e_sp rfl rfl rfl ?_
  refine e_ci 0 rfl rfl ?_
  iterate 1 refine e_sp rfl rfl rfl ?_
  try dsimp only
  exact L1
set_option maxHeartbeats 4000000 in
set_option maxRecDepth 40000 in
theorem k_M_countAt {l : Launch} {h : Nat} {S : St} {i j : Int32} {w g : Nat} (hw : S.1 21 1 = nI w) (hg : S.1 21 2 = nI g) (hw2 : w ≤ 32) (hg2 : g ≤ 32) : KK l (SHm h) (2, 44) m_M_countAt [aR 21, aI i, aI j] S (ans (some (aI (cnM S i j))) S) := by
  refine k_start ok_M_countAt (Nat.le_of_ble_eq_true rfl) ?_
  have L1 := e_for (P := fun n => ∀ z5 z6 z7, E0 l (SHm h) (2, 44) m_M_countAt 5 [some (aR 21), some (aI i), some (aI j), some (aI (nF (cxF S i j) n 0)), some (aI (nI n)), z5, z6, z7] [] (S) (ans (some (aI (cnM S i j))) S)) (64) (by
      intro z5 z6 z7
      iterate 1 refine e_sp rfl rfl rfl ?_
      refine e_cb 64 rfl rfl ?_
      refine e_icge rfl (fun h1 => ?_) (fun h1 => ?_)
      · iterate 1 refine e_sp rfl rfl rfl ?_
        refine e_iret rfl rfl (Nat.le_refl _) (Nat.le_refl _) ?_
        exact ⟨rfl, rfl⟩
      · try dsimp only
        exact absurd (nI_le (Nat.le_refl _) (by decide)) h1) (fun n hn ihn => by
      intro z5 z6 z7
      iterate 1 refine e_sp rfl rfl rfl ?_
      refine e_cb 64 rfl rfl ?_
      refine e_icge rfl (fun h1 => ?_) (fun h1 => ?_)
      · try dsimp only
        exact absurd h1 (nI_ge hn (by decide))
      · iterate 3 refine e_sp rfl rfl rfl ?_
        refine e_callV1 ok_M_xOf rfl lk_M_129 (by rfl) (by rfl) k_M_xOf rfl rfl ⟨Nat.le_of_ble_eq_true rfl, Nat.le_of_ble_eq_true rfl⟩ ⟨Nat.zero_le _, Nat.zero_le _⟩ (Nat.le_of_ble_eq_true rfl) ?_
        iterate 1 refine e_sp rfl rfl rfl ?_
        refine e_cb 8 rfl rfl ?_
        refine e_rem rfl (by decide) ?_
        rw [show (8 : Int32) = nI 8 from rfl, rmd 8 (by omega) (by decide) (by decide)]
        iterate 5 refine e_sp rfl rfl rfl ?_
        refine e_callV1 ok_M_yOf rfl lk_M_132 (by rfl) (by rfl) k_M_yOf rfl rfl ⟨Nat.le_of_ble_eq_true rfl, Nat.le_of_ble_eq_true rfl⟩ ⟨Nat.zero_le _, Nat.zero_le _⟩ (Nat.le_of_ble_eq_true rfl) ?_
        iterate 1 refine e_sp rfl rfl rfl ?_
        refine e_cb 8 rfl rfl ?_
        refine e_div rfl (by decide) ?_
        rw [show (8 : Int32) = nI 8 from rfl, dvd9 8 (by omega) (by decide) (by decide)]
        iterate 3 refine e_sp rfl rfl rfl ?_
        refine e_cb 8 rfl rfl ?_
        refine e_rem rfl (by decide) ?_
        rw [show (8 : Int32) = nI 8 from rfl, rmd 8 (by omega) (by decide) (by decide)]
        iterate 2 refine e_sp rfl rfl rfl ?_
        refine e_icge rfl (fun h2 => ?_) (fun h2 => ?_)
        · refine e_ci 0 rfl rfl ?_
          iterate 3 refine e_sp rfl rfl rfl ?_
          refine e_ifeq rfl (fun _ => ?_) (fun h3 => absurd h3 (by first | decide | simp [puI, pt, upd]))
          refine e_ci 0 rfl rfl ?_
          iterate 2 refine e_sp rfl rfl rfl ?_
          refine e_inc 1 rfl rfl rfl rfl ?_
          refine e_goto rfl ?_
          try dsimp only
          rw [nI_1]
          simp only [nF, cxF] at ihn
          first | rw [if_pos h2] at ihn | rw [if_neg h2] at ihn
          exact ihn _ _ _
        · iterate 1 refine e_sp rfl rfl rfl ?_
          refine e_cb 8 rfl rfl ?_
          refine e_div rfl (by decide) ?_
          rw [show (8 : Int32) = nI 8 from rfl, dvd9 8 (by omega) (by decide) (by decide)]
          iterate 2 refine e_sp rfl rfl rfl ?_
          refine e_icge rfl (fun h4 => ?_) (fun h4 => ?_)
          · refine e_ci 0 rfl rfl ?_
            iterate 3 refine e_sp rfl rfl rfl ?_
            refine e_ifeq rfl (fun _ => ?_) (fun h5 => absurd h5 (by first | decide | simp [puI, pt, upd]))
            refine e_ci 0 rfl rfl ?_
            iterate 2 refine e_sp rfl rfl rfl ?_
            refine e_inc 1 rfl rfl rfl rfl ?_
            refine e_goto rfl ?_
            try dsimp only
            rw [nI_1]
            simp only [nF, cxF] at ihn
            first | rw [if_pos h2] at ihn | rw [if_neg h2] at ihn
            first | rw [if_pos h4] at ihn | rw [if_neg h4] at ihn
            exact ihn _ _ _
          · iterate 3 refine e_sp rfl rfl rfl ?_
            refine e_callV1 ok_M_hasSample rfl lk_M_144 (by rfl) (by rfl) k_M_hasSample rfl rfl ⟨Nat.le_of_ble_eq_true rfl, Nat.le_of_ble_eq_true rfl⟩ ⟨Nat.zero_le _, Nat.zero_le _⟩ (Nat.le_of_ble_eq_true rfl) ?_
            refine e_ifeq rfl (fun h6 => ?_) (fun h6 => ?_)
            · refine e_ci 0 rfl rfl ?_
              iterate 3 refine e_sp rfl rfl rfl ?_
              refine e_ifeq rfl (fun _ => ?_) (fun h7 => absurd h7 (by first | decide | simp [puI, pt, upd]))
              refine e_ci 0 rfl rfl ?_
              iterate 2 refine e_sp rfl rfl rfl ?_
              refine e_inc 1 rfl rfl rfl rfl ?_
              refine e_goto rfl ?_
              try dsimp only
              rw [nI_1]
              simp only [nF, cxF] at ihn
              first | rw [if_pos h2] at ihn | rw [if_neg h2] at ihn
              first | rw [if_pos h4] at ihn | rw [if_neg h4] at ihn
              first | rw [if_pos h6] at ihn | rw [if_neg h6] at ihn
              exact ihn _ _ _
            · iterate 2 refine e_sp rfl rfl rfl ?_
              refine e_cb 32 rfl rfl ?_
              iterate 4 refine e_sp rfl rfl rfl ?_
              refine e_zald rfl (by first | rfl | assumption) (by exact hsM_in hw hg hw2 hg2 (by assumption)) ?_
              refine e_ifeq rfl (fun h8 => ?_) (fun h8 => ?_)
              · refine e_ci 0 rfl rfl ?_
                iterate 3 refine e_sp rfl rfl rfl ?_
                refine e_ifeq rfl (fun _ => ?_) (fun h9 => absurd h9 (by first | decide | simp [puI, pt, upd]))
                refine e_ci 0 rfl rfl ?_
                iterate 2 refine e_sp rfl rfl rfl ?_
                refine e_inc 1 rfl rfl rfl rfl ?_
                refine e_goto rfl ?_
                try dsimp only
                rw [nI_1]
                simp only [nF, cxF] at ihn
                first | rw [if_pos h2] at ihn | rw [if_neg h2] at ihn
                first | rw [if_pos h4] at ihn | rw [if_neg h4] at ihn
                first | rw [if_pos h6] at ihn | rw [if_neg h6] at ihn
                first | rw [if_pos h8] at ihn | rw [if_neg h8] at ihn
                exact ihn _ _ _
              · refine e_ci 1 rfl rfl ?_
                refine e_goto rfl ?_
                iterate 3 refine e_sp rfl rfl rfl ?_
                refine e_ifeq rfl (fun h10 => absurd h10 (by first | decide | simp [puI, pt, upd])) (fun _ => ?_)
                refine e_ci 1 rfl rfl ?_
                refine e_goto rfl ?_
                iterate 2 refine e_sp rfl rfl rfl ?_
                refine e_inc 1 rfl rfl rfl rfl ?_
                refine e_goto rfl ?_
                try dsimp only
                rw [nI_1]
                simp only [nF, cxF] at ihn
                first | rw [if_pos h2] at ihn | rw [if_neg h2] at ihn
                first | rw [if_pos h4] at ihn | rw [if_neg h4] at ihn
                first | rw [if_pos h6] at ihn | rw [if_neg h6] at ihn
                first | rw [if_pos h8] at ihn | rw [if_neg h8] at ihn
                exact ihn _ _ _)
  refine e_ci 0 rfl rfl ?_
  iterate 1 refine e_sp rfl rfl rfl ?_
  refine e_ci 0 rfl rfl ?_
  iterate 1 refine e_sp rfl rfl rfl ?_
  try dsimp only
  exact L1 _ _ _
set_option maxHeartbeats 4000000 in
set_option maxRecDepth 40000 in
theorem k_M_count {l : Launch} {h : Nat} {S : St} {i j : Int32} {w g : Nat} (hw : S.1 21 1 = nI w) (hg : S.1 21 2 = nI g) (hw2 : w ≤ 32) (hg2 : g ≤ 32) : KK l (SHm h) (3, 71) m_M_count [aR 21, aI i, aI j] S (ans (some (aI (if hpM S i j = 0 then 0 else cnM (puI S 21 0 0) i j))) (puI S 21 0 (if hpM S i j = 0 then 1 else 0))) := by
  refine k_start ok_M_count (Nat.le_of_ble_eq_true rfl) ?_
  iterate 4 refine e_sp rfl rfl rfl ?_
  refine e_callV1 ok_M_hasPlace rfl lk_M_141 (by rfl) (by rfl) k_M_hasPlace rfl rfl ⟨Nat.le_of_ble_eq_true rfl, Nat.le_of_ble_eq_true rfl⟩ ⟨Nat.zero_le _, Nat.zero_le _⟩ (Nat.le_of_ble_eq_true rfl) ?_
  refine e_ifeq rfl (fun h1 => ?_) (fun h1 => ?_)
  · refine e_ci 1 rfl rfl ?_
    iterate 3 refine e_sp rfl rfl rfl ?_
    refine e_ifle rfl (fun h2 => absurd h2 (by first | decide | simp [puI, pt, upd])) (fun _ => ?_)
    refine e_ci 0 rfl rfl ?_
    refine e_goto rfl ?_
    refine e_iret rfl rfl (Nat.le_refl _) (Nat.le_refl _) ?_
    exact ⟨by simp [h1], by simp [h1]⟩
  · refine e_ci 0 rfl rfl ?_
    refine e_goto rfl ?_
    iterate 3 refine e_sp rfl rfl rfl ?_
    refine e_ifle rfl (fun _ => ?_) (fun h3 => absurd h3 (by first | decide | simp [puI, pt, upd]))
    iterate 3 refine e_sp rfl rfl rfl ?_
    refine e_callV1 ok_M_countAt rfl lk_M_147 (by rfl) (by rfl) (k_M_countAt hw hg hw2 hg2) rfl rfl ⟨Nat.le_of_ble_eq_true rfl, Nat.le_of_ble_eq_true rfl⟩ ⟨Nat.zero_le _, Nat.zero_le _⟩ (Nat.le_of_ble_eq_true rfl) ?_
    refine e_iret rfl rfl (Nat.le_refl _) (Nat.le_refl _) ?_
    exact ⟨by simp [h1], by simp [h1]⟩
def okG (c r x y a b : Int32) : Int32 := if wi c 1 16 = 0 then 1 else if wi r 1 16 = 0 then 1 else if wi x (-65536) 65536 = 0 then 1 else if wi y (-65536) 65536 = 0 then 1 else if wi a (-4096) 4096 = 0 then 1 else if wi b (-4096) 4096 = 0 then 1 else if a = 0 then (if b = 0 then 1 else 0) else 0
def gdF (i : Nat) (x : St × Int32) : St × Int32 := (puI x.1 25 i 0, x.2 + (if hpM (puI x.1 25 i 0) (nI (i % 16)) (nI (i / 16)) = 0 then 0 else if ouM (puI x.1 25 i 0) (nI (i % 16)) (nI (i / 16)) = 0 then 0 else 1))
def gd0 (S : St) (c r x y a b : Int32) : St := puI (puI (puI (puI (puI (puI (puI S 21 0 0) 21 9 c) 21 10 r) 21 11 x) 21 12 y) 21 13 a) 21 14 b
def gdM (S : St) (c r x y a b : Int32) : St × Int32 := nF gdF 256 (gd0 S c r x y a b, 0)
set_option maxHeartbeats 4000000 in
set_option maxRecDepth 40000 in
theorem k_M_gridL {l : Launch} {h : Nat} {S : St} {c r x y a b : Int32} {z7 : Int32} : E0 l (SHm h) (3, 66) m_M_grid 150 [some (aR 21), some (aI c), some (aI r), some (aI x), some (aI y), some (aI a), some (aI b), some (aI z7), some (aI 0), some (aI (nI 0))] [] (gd0 S c r x y a b) (ans (some (aI (gdM S c r x y a b).2)) (gdM S c r x y a b).1) := by
  have L1 := e_for (P := fun n => E0 l (SHm h) (3, 66) m_M_grid 150 [some (aR 21), some (aI c), some (aI r), some (aI x), some (aI y), some (aI a), some (aI b), some (aI z7), some (aI (nF gdF n (gd0 S c r x y a b, 0)).2), some (aI (nI n))] [] ((nF gdF n (gd0 S c r x y a b, 0)).1) (ans (some (aI (gdM S c r x y a b).2)) (gdM S c r x y a b).1)) (256) (by
      iterate 1 refine e_sp rfl rfl rfl ?_
      refine e_cs 256 rfl rfl ?_
      refine e_icge rfl (fun h1 => ?_) (fun h1 => ?_)
      · iterate 1 refine e_sp rfl rfl rfl ?_
        refine e_iret rfl rfl (Nat.le_refl _) (Nat.le_refl _) ?_
        exact ⟨rfl, rfl⟩
      · try dsimp only
        exact absurd (nI_le (Nat.le_refl _) (by decide)) h1) (fun n hn ihn => by
      iterate 1 refine e_sp rfl rfl rfl ?_
      refine e_cs 256 rfl rfl ?_
      refine e_icge rfl (fun h1 => ?_) (fun h1 => ?_)
      · try dsimp only
        exact absurd h1 (nI_ge hn (by decide))
      · iterate 3 refine e_sp rfl rfl rfl ?_
        refine e_ci 0 rfl rfl ?_
        refine e_iast rfl (by first | rfl | assumption) (by exact vp_in_nI hn (by decide)) ?_
        rw [nI_clamp (by omega)]
        iterate 3 refine e_sp rfl rfl rfl ?_
        refine e_cb 16 rfl rfl ?_
        refine e_rem rfl (by decide) ?_
        rw [show (16 : Int32) = nI 16 from rfl, rmd 16 (by omega) (by decide) (by decide)]
        iterate 1 refine e_sp rfl rfl rfl ?_
        refine e_cb 16 rfl rfl ?_
        refine e_div rfl (by decide) ?_
        rw [show (16 : Int32) = nI 16 from rfl, dvd9 16 (by omega) (by decide) (by decide)]
        refine e_callV1 ok_M_hasPlace rfl lk_M_141 (by rfl) (by rfl) k_M_hasPlace rfl rfl ⟨Nat.le_of_ble_eq_true rfl, Nat.le_of_ble_eq_true rfl⟩ ⟨Nat.zero_le _, Nat.zero_le _⟩ (Nat.le_of_ble_eq_true rfl) ?_
        refine e_ifeq rfl (fun h2 => ?_) (fun h2 => ?_)
        · refine e_ci 0 rfl rfl ?_
          iterate 2 refine e_sp rfl rfl rfl ?_
          refine e_inc 1 rfl rfl rfl rfl ?_
          refine e_goto rfl ?_
          try dsimp only
          rw [nI_1]
          simp only [nF, gdF] at ihn
          first | rw [if_pos h2] at ihn | rw [if_neg h2] at ihn
          exact ihn
        · iterate 2 refine e_sp rfl rfl rfl ?_
          refine e_cb 16 rfl rfl ?_
          refine e_rem rfl (by decide) ?_
          rw [show (16 : Int32) = nI 16 from rfl, rmd 16 (by omega) (by decide) (by decide)]
          iterate 1 refine e_sp rfl rfl rfl ?_
          refine e_cb 16 rfl rfl ?_
          refine e_div rfl (by decide) ?_
          rw [show (16 : Int32) = nI 16 from rfl, dvd9 16 (by omega) (by decide) (by decide)]
          refine e_callV1 ok_M_isOutside rfl lk_M_135 (by rfl) (by rfl) k_M_isOutside rfl rfl ⟨Nat.le_of_ble_eq_true rfl, Nat.le_of_ble_eq_true rfl⟩ ⟨Nat.zero_le _, Nat.zero_le _⟩ (Nat.le_of_ble_eq_true rfl) ?_
          refine e_ifeq rfl (fun h3 => ?_) (fun h3 => ?_)
          · refine e_ci 0 rfl rfl ?_
            iterate 2 refine e_sp rfl rfl rfl ?_
            refine e_inc 1 rfl rfl rfl rfl ?_
            refine e_goto rfl ?_
            try dsimp only
            rw [nI_1]
            simp only [nF, gdF] at ihn
            first | rw [if_pos h2] at ihn | rw [if_neg h2] at ihn
            first | rw [if_pos h3] at ihn | rw [if_neg h3] at ihn
            exact ihn
          · refine e_ci 1 rfl rfl ?_
            refine e_goto rfl ?_
            iterate 2 refine e_sp rfl rfl rfl ?_
            refine e_inc 1 rfl rfl rfl rfl ?_
            refine e_goto rfl ?_
            try dsimp only
            rw [nI_1]
            simp only [nF, gdF] at ihn
            first | rw [if_pos h2] at ihn | rw [if_neg h2] at ihn
            first | rw [if_pos h3] at ihn | rw [if_neg h3] at ihn
            exact ihn)
  exact L1
set_option maxHeartbeats 4000000 in
set_option maxRecDepth 40000 in
theorem k_M_grid {l : Launch} {h : Nat} {S : St} {c r x y a b : Int32} : KK l (SHm h) (3, 66) m_M_grid [aR 21, aI c, aI r, aI x, aI y, aI a, aI b] S (ans (some (aI (if okG c r x y a b = 0 then (gdM S c r x y a b).2 else 0))) (if okG c r x y a b = 0 then (gdM S c r x y a b).1 else puI S 21 0 1)) := by
  refine k_start ok_M_grid (Nat.le_of_ble_eq_true rfl) ?_
  iterate 1 refine e_sp rfl rfl rfl ?_
  refine e_ci 1 rfl rfl ?_
  refine e_cb 16 rfl rfl ?_
  refine e_callS1 ok_M_in rfl lk_M_110 k_M_in rfl rfl ⟨Nat.le_of_ble_eq_true rfl, Nat.le_of_ble_eq_true rfl⟩ ⟨Nat.zero_le _, Nat.zero_le _⟩ (Nat.le_of_ble_eq_true rfl) ?_
  refine e_ifeq rfl (fun h1 => ?_) (fun h1 => ?_)
  · refine e_ci 0 rfl rfl ?_
    iterate 3 refine e_sp rfl rfl rfl ?_
    refine e_ifeq rfl (fun _ => ?_) (fun h2 => absurd h2 (by first | decide | simp [puI, pt, upd]))
    refine e_ci 1 rfl rfl ?_
    iterate 3 refine e_sp rfl rfl rfl ?_
    refine e_ifle rfl (fun h3 => absurd h3 (by first | decide | simp [puI, pt, upd])) (fun _ => ?_)
    refine e_ci 0 rfl rfl ?_
    refine e_iret rfl rfl (Nat.le_refl _) (Nat.le_refl _) ?_
    have hok : okG c r x y a b = 1 := by unfold okG; (first | rw [if_pos h1] | rw [if_neg h1] | skip)
    rw [hok]
    exact ⟨rfl, rfl⟩
  · iterate 1 refine e_sp rfl rfl rfl ?_
    refine e_ci 1 rfl rfl ?_
    refine e_cb 16 rfl rfl ?_
    refine e_callS1 ok_M_in rfl lk_M_110 k_M_in rfl rfl ⟨Nat.le_of_ble_eq_true rfl, Nat.le_of_ble_eq_true rfl⟩ ⟨Nat.zero_le _, Nat.zero_le _⟩ (Nat.le_of_ble_eq_true rfl) ?_
    refine e_ifeq rfl (fun h4 => ?_) (fun h4 => ?_)
    · refine e_ci 0 rfl rfl ?_
      iterate 3 refine e_sp rfl rfl rfl ?_
      refine e_ifeq rfl (fun _ => ?_) (fun h5 => absurd h5 (by first | decide | simp [puI, pt, upd]))
      refine e_ci 1 rfl rfl ?_
      iterate 3 refine e_sp rfl rfl rfl ?_
      refine e_ifle rfl (fun h6 => absurd h6 (by first | decide | simp [puI, pt, upd])) (fun _ => ?_)
      refine e_ci 0 rfl rfl ?_
      refine e_iret rfl rfl (Nat.le_refl _) (Nat.le_refl _) ?_
      have hok : okG c r x y a b = 1 := by unfold okG; (first | rw [if_pos h1] | rw [if_neg h1] | skip); (first | rw [if_pos h4] | rw [if_neg h4] | skip)
      rw [hok]
      exact ⟨rfl, rfl⟩
    · iterate 1 refine e_sp rfl rfl rfl ?_
      refine e_ldc rfl cn_M_139 ?_
      refine e_ldc rfl cn_M_140 ?_
      refine e_callS1 ok_M_in rfl lk_M_110 k_M_in rfl rfl ⟨Nat.le_of_ble_eq_true rfl, Nat.le_of_ble_eq_true rfl⟩ ⟨Nat.zero_le _, Nat.zero_le _⟩ (Nat.le_of_ble_eq_true rfl) ?_
      refine e_ifeq rfl (fun h7 => ?_) (fun h7 => ?_)
      · refine e_ci 0 rfl rfl ?_
        iterate 3 refine e_sp rfl rfl rfl ?_
        refine e_ifeq rfl (fun _ => ?_) (fun h8 => absurd h8 (by first | decide | simp [puI, pt, upd]))
        refine e_ci 1 rfl rfl ?_
        iterate 3 refine e_sp rfl rfl rfl ?_
        refine e_ifle rfl (fun h9 => absurd h9 (by first | decide | simp [puI, pt, upd])) (fun _ => ?_)
        refine e_ci 0 rfl rfl ?_
        refine e_iret rfl rfl (Nat.le_refl _) (Nat.le_refl _) ?_
        have hok : okG c r x y a b = 1 := by unfold okG; (first | rw [if_pos h1] | rw [if_neg h1] | skip); (first | rw [if_pos h4] | rw [if_neg h4] | skip); (first | rw [if_pos h7] | rw [if_neg h7] | skip)
        rw [hok]
        exact ⟨rfl, rfl⟩
      · iterate 1 refine e_sp rfl rfl rfl ?_
        refine e_ldc rfl cn_M_139 ?_
        refine e_ldc rfl cn_M_140 ?_
        refine e_callS1 ok_M_in rfl lk_M_110 k_M_in rfl rfl ⟨Nat.le_of_ble_eq_true rfl, Nat.le_of_ble_eq_true rfl⟩ ⟨Nat.zero_le _, Nat.zero_le _⟩ (Nat.le_of_ble_eq_true rfl) ?_
        refine e_ifeq rfl (fun h10 => ?_) (fun h10 => ?_)
        · refine e_ci 0 rfl rfl ?_
          iterate 3 refine e_sp rfl rfl rfl ?_
          refine e_ifeq rfl (fun _ => ?_) (fun h11 => absurd h11 (by first | decide | simp [puI, pt, upd]))
          refine e_ci 1 rfl rfl ?_
          iterate 3 refine e_sp rfl rfl rfl ?_
          refine e_ifle rfl (fun h12 => absurd h12 (by first | decide | simp [puI, pt, upd])) (fun _ => ?_)
          refine e_ci 0 rfl rfl ?_
          refine e_iret rfl rfl (Nat.le_refl _) (Nat.le_refl _) ?_
          have hok : okG c r x y a b = 1 := by unfold okG; (first | rw [if_pos h1] | rw [if_neg h1] | skip); (first | rw [if_pos h4] | rw [if_neg h4] | skip); (first | rw [if_pos h7] | rw [if_neg h7] | skip); (first | rw [if_pos h10] | rw [if_neg h10] | skip)
          rw [hok]
          exact ⟨rfl, rfl⟩
        · iterate 1 refine e_sp rfl rfl rfl ?_
          refine e_cs (-4096) rfl rfl ?_
          refine e_cs 4096 rfl rfl ?_
          refine e_callS1 ok_M_in rfl lk_M_110 k_M_in rfl rfl ⟨Nat.le_of_ble_eq_true rfl, Nat.le_of_ble_eq_true rfl⟩ ⟨Nat.zero_le _, Nat.zero_le _⟩ (Nat.le_of_ble_eq_true rfl) ?_
          refine e_ifeq rfl (fun h13 => ?_) (fun h13 => ?_)
          · refine e_ci 0 rfl rfl ?_
            iterate 3 refine e_sp rfl rfl rfl ?_
            refine e_ifeq rfl (fun _ => ?_) (fun h14 => absurd h14 (by first | decide | simp [puI, pt, upd]))
            refine e_ci 1 rfl rfl ?_
            iterate 3 refine e_sp rfl rfl rfl ?_
            refine e_ifle rfl (fun h15 => absurd h15 (by first | decide | simp [puI, pt, upd])) (fun _ => ?_)
            refine e_ci 0 rfl rfl ?_
            refine e_iret rfl rfl (Nat.le_refl _) (Nat.le_refl _) ?_
            have hok : okG c r x y a b = 1 := by unfold okG; (first | rw [if_pos h1] | rw [if_neg h1] | skip); (first | rw [if_pos h4] | rw [if_neg h4] | skip); (first | rw [if_pos h7] | rw [if_neg h7] | skip); (first | rw [if_pos h10] | rw [if_neg h10] | skip); (first | rw [if_pos h13] | rw [if_neg h13] | skip)
            rw [hok]
            exact ⟨rfl, rfl⟩
          · iterate 1 refine e_sp rfl rfl rfl ?_
            refine e_cs (-4096) rfl rfl ?_
            refine e_cs 4096 rfl rfl ?_
            refine e_callS1 ok_M_in rfl lk_M_110 k_M_in rfl rfl ⟨Nat.le_of_ble_eq_true rfl, Nat.le_of_ble_eq_true rfl⟩ ⟨Nat.zero_le _, Nat.zero_le _⟩ (Nat.le_of_ble_eq_true rfl) ?_
            refine e_ifeq rfl (fun h16 => ?_) (fun h16 => ?_)
            · refine e_ci 0 rfl rfl ?_
              iterate 3 refine e_sp rfl rfl rfl ?_
              refine e_ifeq rfl (fun _ => ?_) (fun h17 => absurd h17 (by first | decide | simp [puI, pt, upd]))
              refine e_ci 1 rfl rfl ?_
              iterate 3 refine e_sp rfl rfl rfl ?_
              refine e_ifle rfl (fun h18 => absurd h18 (by first | decide | simp [puI, pt, upd])) (fun _ => ?_)
              refine e_ci 0 rfl rfl ?_
              refine e_iret rfl rfl (Nat.le_refl _) (Nat.le_refl _) ?_
              have hok : okG c r x y a b = 1 := by unfold okG; (first | rw [if_pos h1] | rw [if_neg h1] | skip); (first | rw [if_pos h4] | rw [if_neg h4] | skip); (first | rw [if_pos h7] | rw [if_neg h7] | skip); (first | rw [if_pos h10] | rw [if_neg h10] | skip); (first | rw [if_pos h13] | rw [if_neg h13] | skip); (first | rw [if_pos h16] | rw [if_neg h16] | skip)
              rw [hok]
              exact ⟨rfl, rfl⟩
            · iterate 1 refine e_sp rfl rfl rfl ?_
              refine e_ifne rfl (fun h19 => ?_) (fun h19 => ?_)
              · refine e_ci 1 rfl rfl ?_
                refine e_goto rfl ?_
                iterate 3 refine e_sp rfl rfl rfl ?_
                refine e_ifeq rfl (fun h20 => absurd h20 (by first | decide | simp [puI, pt, upd])) (fun _ => ?_)
                refine e_ci 0 rfl rfl ?_
                refine e_goto rfl ?_
                iterate 3 refine e_sp rfl rfl rfl ?_
                refine e_ifle rfl (fun _ => ?_) (fun h21 => absurd h21 (by first | decide | simp [puI, pt, upd]))
                iterate 18 refine e_sp rfl rfl rfl ?_
                refine e_ci 0 rfl rfl ?_
                iterate 1 refine e_sp rfl rfl rfl ?_
                refine e_ci 0 rfl rfl ?_
                iterate 1 refine e_sp rfl rfl rfl ?_
                try dsimp only
                have hok : okG c r x y a b = 0 := by unfold okG; (first | rw [if_pos h1] | rw [if_neg h1] | skip); (first | rw [if_pos h4] | rw [if_neg h4] | skip); (first | rw [if_pos h7] | rw [if_neg h7] | skip); (first | rw [if_pos h10] | rw [if_neg h10] | skip); (first | rw [if_pos h13] | rw [if_neg h13] | skip); (first | rw [if_pos h16] | rw [if_neg h16] | skip); (first | rw [if_pos h19] | rw [if_neg h19] | skip)
                rw [if_pos hok, if_pos hok]
                exact k_M_gridL
              · iterate 1 refine e_sp rfl rfl rfl ?_
                refine e_ifeq rfl (fun h22 => ?_) (fun h22 => ?_)
                · refine e_ci 0 rfl rfl ?_
                  iterate 3 refine e_sp rfl rfl rfl ?_
                  refine e_ifeq rfl (fun _ => ?_) (fun h23 => absurd h23 (by first | decide | simp [puI, pt, upd]))
                  refine e_ci 1 rfl rfl ?_
                  iterate 3 refine e_sp rfl rfl rfl ?_
                  refine e_ifle rfl (fun h24 => absurd h24 (by first | decide | simp [puI, pt, upd])) (fun _ => ?_)
                  refine e_ci 0 rfl rfl ?_
                  refine e_iret rfl rfl (Nat.le_refl _) (Nat.le_refl _) ?_
                  have hok : okG c r x y a b = 1 := by unfold okG; (first | rw [if_pos h1] | rw [if_neg h1] | skip); (first | rw [if_pos h4] | rw [if_neg h4] | skip); (first | rw [if_pos h7] | rw [if_neg h7] | skip); (first | rw [if_pos h10] | rw [if_neg h10] | skip); (first | rw [if_pos h13] | rw [if_neg h13] | skip); (first | rw [if_pos h16] | rw [if_neg h16] | skip); (first | rw [if_pos h19] | rw [if_neg h19] | skip); (first | rw [if_pos h22] | rw [if_neg h22] | skip)
                  rw [hok]
                  exact ⟨rfl, rfl⟩
                · refine e_ci 1 rfl rfl ?_
                  refine e_goto rfl ?_
                  iterate 3 refine e_sp rfl rfl rfl ?_
                  refine e_ifeq rfl (fun h25 => absurd h25 (by first | decide | simp [puI, pt, upd])) (fun _ => ?_)
                  refine e_ci 0 rfl rfl ?_
                  refine e_goto rfl ?_
                  iterate 3 refine e_sp rfl rfl rfl ?_
                  refine e_ifle rfl (fun _ => ?_) (fun h26 => absurd h26 (by first | decide | simp [puI, pt, upd]))
                  iterate 18 refine e_sp rfl rfl rfl ?_
                  refine e_ci 0 rfl rfl ?_
                  iterate 1 refine e_sp rfl rfl rfl ?_
                  refine e_ci 0 rfl rfl ?_
                  iterate 1 refine e_sp rfl rfl rfl ?_
                  try dsimp only
                  have hok : okG c r x y a b = 0 := by unfold okG; (first | rw [if_pos h1] | rw [if_neg h1] | skip); (first | rw [if_pos h4] | rw [if_neg h4] | skip); (first | rw [if_pos h7] | rw [if_neg h7] | skip); (first | rw [if_pos h10] | rw [if_neg h10] | skip); (first | rw [if_pos h13] | rw [if_neg h13] | skip); (first | rw [if_pos h16] | rw [if_neg h16] | skip); (first | rw [if_pos h19] | rw [if_neg h19] | skip); (first | rw [if_pos h22] | rw [if_neg h22] | skip)
                  rw [if_pos hok, if_pos hok]
                  exact k_M_gridL
