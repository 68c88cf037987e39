/-! bounds -/
theorem wi_lo {y a c : Int32} (h : ¬ wi y a c = 0) : ¬ y < a ∧ ¬ c < y := by
  unfold wi at h
  by_cases h1 : y < a
  · rw [if_pos h1] at h; exact absurd rfl h
  · rw [if_neg h1] at h
    by_cases h2 : c < y
    · rw [if_pos h2] at h; exact absurd rfl h
    · exact ⟨h1, h2⟩
theorem wi_nat {y : Int32} {n : Nat} (hn : n < 2 ^ 31) (h : ¬ wi y 0 (nI n - 1) = 0) : ∃ j : Nat, j < n ∧ y = nI j := by
  obtain ⟨h1, h2⟩ := wi_lo h
  cases n with
  | zero =>
    exfalso
    have h3 : nI 0 - 1 = -1 := by decide
    rw [h3] at h2
    have h4 : y ≤ -1 := Int32.not_lt.mp h2
    have h5 : (0 : Int32) ≤ y := Int32.not_lt.mp h1
    exact absurd (Int32.le_trans h5 h4) (by decide)
  | succ m =>
    rw [nI_pred] at h2
    obtain ⟨j, hj, e⟩ := nI_of2 (nI_toInt (by omega)) h1 (Int32.not_lt.mp h2)
    exact ⟨j, by omega, e⟩
theorem wi_in {y : Int32} {n : Nat} (hn : n < 2 ^ 31) (h : ¬ wi y 0 (nI n - 1) = 0) : vp_in y n := by
  obtain ⟨j, hj, rfl⟩ := wi_nat hn h
  exact vp_in_nI hj hn
theorem plc_nat {i j : Int32} (h : ¬ plc i j = -1) : ∃ a b : Nat, a < 16 ∧ b < 16 ∧ i = nI a ∧ j = nI b ∧ plc i j = nI (16 * b + a) := by
  unfold plc at h ⊢
  by_cases h1 : wi i 0 15 = 0
  · rw [if_pos h1] at h; exact absurd rfl h
  · rw [if_neg h1] at h ⊢
    by_cases h2 : wi j 0 15 = 0
    · rw [if_pos h2] at h; exact absurd rfl h
    · rw [if_neg h2]
      obtain ⟨a, ha, rfl⟩ := wi_nat (n := 16) (by decide) (show ¬ wi i 0 (nI 16 - 1) = 0 from h1)
      obtain ⟨b, hb, rfl⟩ := wi_nat (n := 16) (by decide) (show ¬ wi j 0 (nI 16 - 1) = 0 from h2)
      refine ⟨a, b, ha, hb, rfl, rfl, ?_⟩
      rw [show (16 : Int32) = nI 16 from rfl, pk_mul, nI_add]
theorem plc_in {i j : Int32} (h : ¬ plc i j = -1) : vp_in (plc i j) 256 := by
  obtain ⟨a, b, ha, hb, -, -, e⟩ := plc_nat h
  rw [e]
  exact vp_in_nI (by omega) (by decide)
theorem plc_of {a b : Nat} (ha : a < 16) (hb : b < 16) : plc (nI a) (nI b) = nI (16 * b + a) ∧ ¬ plc (nI a) (nI b) = -1 := by
  have h1 : ∀ c, c < 16 → ¬ wi (nI c) 0 15 = 0 := by decide
  have e : plc (nI a) (nI b) = nI (16 * b + a) := by
    unfold plc
    rw [if_neg (h1 a ha), if_neg (h1 b hb), show (16 : Int32) = nI 16 from rfl, pk_mul, nI_add]
  refine ⟨e, ?_⟩
  rw [e]
  intro h
  have h2 : (nI (16 * b + a)).toInt = (-1 : Int32).toInt := by rw [h]
  rw [nI_toInt (by omega)] at h2
  have h3 : (-1 : Int32).toInt = -1 := by decide
  rw [h3] at h2
  omega
/-! Sheet -/
def lnS (S : St) (q h : Nat) (y : Int32) : Int32 := if wi y 0 (nI h - 1) = 0 then 0 else S.1 q y.toNatClampNeg
def clR (S : St) (q h : Nat) (mk y b : Int32) : Int32 := if wi y 0 (nI h - 1) = 0 then 0 else bcI ((S.1 q y.toNatClampNeg ^^^ b) &&& mk)
def clS (S : St) (q h : Nat) (mk y b : Int32) : St := if wi y 0 (nI h - 1) = 0 then S else puI S q y.toNatClampNeg (b &&& mk)
def dkA (S : St) (q : Nat) : Nat → Int32
  | 0 => 0
  | i + 1 => dkA S q i + bcI (S.1 q i)
set_option maxHeartbeats 4000000 in
set_option maxRecDepth 40000 in
theorem k_S_line_1 {l : Launch} {h : Nat} {S : St} {y : Int32} (hh : h < 2 ^ 31) : KK l (SHm h) (1, 22) m_S_line [aR 1, aI y] S (ans (some (aI (lnS S 2 h y))) S) := by
  refine k_start ok_S_line (Nat.le_of_ble_eq_true rfl) ?_
  iterate 1 refine e_sp rfl rfl rfl ?_
  refine e_ci 0 rfl rfl ?_
  iterate 2 refine e_sp rfl rfl rfl ?_
  refine e_alen rfl (by first | rfl | assumption) (by decide) ?_
  refine e_ci 1 rfl rfl ?_
  iterate 1 refine e_sp rfl rfl rfl ?_
  refine e_callN1 ok_H_isWithin rfl lk_S_19 k_H_isWithin rfl rfl ⟨Nat.le_of_ble_eq_true rfl, Nat.le_of_ble_eq_true rfl⟩ ⟨Nat.zero_le _, Nat.zero_le _⟩ (Nat.le_of_ble_eq_true rfl) ?_
  refine e_ifeq rfl (fun h1 => ?_) (fun h1 => ?_)
  · refine e_ci 0 rfl rfl ?_
    refine e_iret rfl rfl (Nat.le_refl _) (Nat.le_refl _) ?_
    exact ⟨by simp [lnS, h1], rfl⟩
  · iterate 3 refine e_sp rfl rfl rfl ?_
    refine e_iald rfl (by first | rfl | assumption) (by exact wi_in hh (by assumption)) ?_
    refine e_goto rfl ?_
    refine e_iret rfl rfl (Nat.le_refl _) (Nat.le_refl _) ?_
    exact ⟨by simp [lnS, h1], rfl⟩
set_option maxHeartbeats 4000000 in
set_option maxRecDepth 40000 in
theorem k_S_changeLine_1 {l : Launch} {h : Nat} {S : St} {y b : Int32} (hh : h < 2 ^ 31) : KK l (SHm h) (1, 22) m_S_changeLine [aR 1, aI y, aI b] S (ans (some (aI (clR S 2 h (S.1 1 1) y b))) (clS S 2 h (S.1 1 1) y b)) := by
  refine k_start ok_S_changeLine (Nat.le_of_ble_eq_true rfl) ?_
  iterate 1 refine e_sp rfl rfl rfl ?_
  refine e_ci 0 rfl rfl ?_
  iterate 2 refine e_sp rfl rfl rfl ?_
  refine e_alen rfl (by first | rfl | assumption) (by decide) ?_
  refine e_ci 1 rfl rfl ?_
  iterate 1 refine e_sp rfl rfl rfl ?_
  refine e_callN1 ok_H_isWithin rfl lk_S_19 k_H_isWithin rfl rfl ⟨Nat.le_of_ble_eq_true rfl, Nat.le_of_ble_eq_true rfl⟩ ⟨Nat.zero_le _, Nat.zero_le _⟩ (Nat.le_of_ble_eq_true rfl) ?_
  refine e_ifne rfl (fun h1 => ?_) (fun h1 => ?_)
  · iterate 3 refine e_sp rfl rfl rfl ?_
    refine e_iald rfl (by first | rfl | assumption) (by exact wi_in hh (by assumption)) ?_
    iterate 5 refine e_sp rfl rfl rfl ?_
    refine e_callS1 ok_JI_bitCount rfl lk_S_23 k_JI_bitCount rfl rfl ⟨Nat.le_of_ble_eq_true rfl, Nat.le_of_ble_eq_true rfl⟩ ⟨Nat.zero_le _, Nat.zero_le _⟩ (Nat.le_of_ble_eq_true rfl) ?_
    iterate 8 refine e_sp rfl rfl rfl ?_
    refine e_iast rfl (by first | rfl | assumption) (by exact wi_in hh (by assumption)) ?_
    iterate 1 refine e_sp rfl rfl rfl ?_
    refine e_iret rfl rfl (Nat.le_refl _) (Nat.le_refl _) ?_
    exact ⟨by simp [clR, h1], by simp [clS, h1]⟩
  · refine e_ci 0 rfl rfl ?_
    refine e_iret rfl rfl (Nat.le_refl _) (Nat.le_refl _) ?_
    exact ⟨by simp [clR, h1], by simp [clS, h1]⟩
set_option maxHeartbeats 4000000 in
set_option maxRecDepth 40000 in
theorem k_S_fill_1 {l : Launch} {h : Nat} {S : St} {v : Int32} (hh : h < 2 ^ 31) : KK l (SHm h) (1, 23) m_S_fill [aR 1, aI v] S (ans none (flI S 2 (if v = 0 then 0 else S.1 1 1) h)) := by
  refine k_start ok_S_fill (Nat.le_of_ble_eq_true rfl) ?_
  iterate 3 refine e_sp rfl rfl rfl ?_
  refine e_ifeq rfl (fun h1 => ?_) (fun h1 => ?_)
  · refine e_ci 0 rfl rfl ?_
    refine e_callS0 ok_JA_fill1 rfl lk_S_29 (k_JA_fill1 (by rfl) hh) rfl rfl ⟨Nat.le_of_ble_eq_true rfl, Nat.le_of_ble_eq_true rfl⟩ ⟨Nat.zero_le _, Nat.zero_le _⟩ (Nat.le_of_ble_eq_true rfl) ?_
    refine e_vret rfl rfl (Nat.le_refl _) (Nat.le_refl _) ?_
    exact ⟨rfl, by simp [h1]⟩
  · iterate 2 refine e_sp rfl rfl rfl ?_
    refine e_goto rfl ?_
    refine e_callS0 ok_JA_fill1 rfl lk_S_29 (k_JA_fill1 (by rfl) hh) rfl rfl ⟨Nat.le_of_ble_eq_true rfl, Nat.le_of_ble_eq_true rfl⟩ ⟨Nat.zero_le _, Nat.zero_le _⟩ (Nat.le_of_ble_eq_true rfl) ?_
    refine e_vret rfl rfl (Nat.le_refl _) (Nat.le_refl _) ?_
    exact ⟨rfl, by simp [h1]⟩
set_option maxHeartbeats 4000000 in
set_option maxRecDepth 40000 in
theorem k_S_darkSamples_1 {l : Launch} {h : Nat} {S : St} (hh : h < 2 ^ 31) : KK l (SHm h) (1, 20) m_S_darkSamples [aR 1] S (ans (some (aI (dkA S 2 h))) S) := by
  refine k_start ok_S_darkSamples (Nat.le_of_ble_eq_true rfl) ?_
  have L := e_for (P := fun i => E0 l (SHm h) (1, 20) m_S_darkSamples 4 [some (aR 1), some (aI (dkA S 2 i)), some (aI (nI i))] [] (S) (ans (some (aI (dkA S 2 h))) S)) h (by
      iterate 3 refine e_sp rfl rfl rfl ?_
      refine e_alen rfl (by first | rfl | assumption) (by decide) ?_
      refine e_icge rfl (fun h1 => ?_) (fun h1 => ?_)
      · iterate 1 refine e_sp rfl rfl rfl ?_
        refine e_iret rfl rfl (Nat.le_refl _) (Nat.le_refl _) ?_
        exact ⟨rfl, rfl⟩
      · exact absurd (nI_le (Nat.le_refl _) hh) h1) (fun i hi ihi => by
      iterate 3 refine e_sp rfl rfl rfl ?_
      refine e_alen rfl (by first | rfl | assumption) (by decide) ?_
      refine e_icge rfl (fun h1 => ?_) (fun h1 => ?_)
      · exact absurd h1 (nI_ge hi hh)
      · iterate 4 refine e_sp rfl rfl rfl ?_
        refine e_iald rfl (by first | rfl | assumption) (by exact vp_in_nI hi hh) ?_
        refine e_callS1 ok_JI_bitCount rfl lk_S_23 k_JI_bitCount rfl rfl ⟨Nat.le_of_ble_eq_true rfl, Nat.le_of_ble_eq_true rfl⟩ ⟨Nat.zero_le _, Nat.zero_le _⟩ (Nat.le_of_ble_eq_true rfl) ?_
        iterate 2 refine e_sp rfl rfl rfl ?_
        refine e_inc 1 rfl rfl rfl rfl ?_
        refine e_goto rfl ?_
        rw [nI_clamp (Nat.lt_trans hi hh), nI_1]
        exact ihi)
  refine e_ci 0 rfl rfl ?_
  iterate 1 refine e_sp rfl rfl rfl ?_
  refine e_ci 0 rfl rfl ?_
  iterate 1 refine e_sp rfl rfl rfl ?_
  exact L
set_option maxHeartbeats 4000000 in
set_option maxRecDepth 40000 in
theorem k_S_line_3 {l : Launch} {h : Nat} {S : St} {y : Int32} (hh : h < 2 ^ 31) : KK l (SHm h) (1, 22) m_S_line [aR 3, aI y] S (ans (some (aI (lnS S 4 h y))) S) := by
  refine k_start ok_S_line (Nat.le_of_ble_eq_true rfl) ?_
  iterate 1 refine e_sp rfl rfl rfl ?_
  refine e_ci 0 rfl rfl ?_
  iterate 2 refine e_sp rfl rfl rfl ?_
  refine e_alen rfl (by first | rfl | assumption) (by decide) ?_
  refine e_ci 1 rfl rfl ?_
  iterate 1 refine e_sp rfl rfl rfl ?_
  refine e_callN1 ok_H_isWithin rfl lk_S_19 k_H_isWithin rfl rfl ⟨Nat.le_of_ble_eq_true rfl, Nat.le_of_ble_eq_true rfl⟩ ⟨Nat.zero_le _, Nat.zero_le _⟩ (Nat.le_of_ble_eq_true rfl) ?_
  refine e_ifeq rfl (fun h1 => ?_) (fun h1 => ?_)
  · refine e_ci 0 rfl rfl ?_
    refine e_iret rfl rfl (Nat.le_refl _) (Nat.le_refl _) ?_
    exact ⟨by simp [lnS, h1], rfl⟩
  · iterate 3 refine e_sp rfl rfl rfl ?_
    refine e_iald rfl (by first | rfl | assumption) (by exact wi_in hh (by assumption)) ?_
    refine e_goto rfl ?_
    refine e_iret rfl rfl (Nat.le_refl _) (Nat.le_refl _) ?_
    exact ⟨by simp [lnS, h1], rfl⟩
set_option maxHeartbeats 4000000 in
set_option maxRecDepth 40000 in
theorem k_S_changeLine_3 {l : Launch} {h : Nat} {S : St} {y b : Int32} (hh : h < 2 ^ 31) : KK l (SHm h) (1, 22) m_S_changeLine [aR 3, aI y, aI b] S (ans (some (aI (clR S 4 h (S.1 3 1) y b))) (clS S 4 h (S.1 3 1) y b)) := by
  refine k_start ok_S_changeLine (Nat.le_of_ble_eq_true rfl) ?_
  iterate 1 refine e_sp rfl rfl rfl ?_
  refine e_ci 0 rfl rfl ?_
  iterate 2 refine e_sp rfl rfl rfl ?_
  refine e_alen rfl (by first | rfl | assumption) (by decide) ?_
  refine e_ci 1 rfl rfl ?_
  iterate 1 refine e_sp rfl rfl rfl ?_
  refine e_callN1 ok_H_isWithin rfl lk_S_19 k_H_isWithin rfl rfl ⟨Nat.le_of_ble_eq_true rfl, Nat.le_of_ble_eq_true rfl⟩ ⟨Nat.zero_le _, Nat.zero_le _⟩ (Nat.le_of_ble_eq_true rfl) ?_
  refine e_ifne rfl (fun h1 => ?_) (fun h1 => ?_)
  · iterate 3 refine e_sp rfl rfl rfl ?_
    refine e_iald rfl (by first | rfl | assumption) (by exact wi_in hh (by assumption)) ?_
    iterate 5 refine e_sp rfl rfl rfl ?_
    refine e_callS1 ok_JI_bitCount rfl lk_S_23 k_JI_bitCount rfl rfl ⟨Nat.le_of_ble_eq_true rfl, Nat.le_of_ble_eq_true rfl⟩ ⟨Nat.zero_le _, Nat.zero_le _⟩ (Nat.le_of_ble_eq_true rfl) ?_
    iterate 8 refine e_sp rfl rfl rfl ?_
    refine e_iast rfl (by first | rfl | assumption) (by exact wi_in hh (by assumption)) ?_
    iterate 1 refine e_sp rfl rfl rfl ?_
    refine e_iret rfl rfl (Nat.le_refl _) (Nat.le_refl _) ?_
    exact ⟨by simp [clR, h1], by simp [clS, h1]⟩
  · refine e_ci 0 rfl rfl ?_
    refine e_iret rfl rfl (Nat.le_refl _) (Nat.le_refl _) ?_
    exact ⟨by simp [clR, h1], by simp [clS, h1]⟩
set_option maxHeartbeats 4000000 in
set_option maxRecDepth 40000 in
theorem k_S_fill_3 {l : Launch} {h : Nat} {S : St} {v : Int32} (hh : h < 2 ^ 31) : KK l (SHm h) (1, 23) m_S_fill [aR 3, aI v] S (ans none (flI S 4 (if v = 0 then 0 else S.1 3 1) h)) := by
  refine k_start ok_S_fill (Nat.le_of_ble_eq_true rfl) ?_
  iterate 3 refine e_sp rfl rfl rfl ?_
  refine e_ifeq rfl (fun h1 => ?_) (fun h1 => ?_)
  · refine e_ci 0 rfl rfl ?_
    refine e_callS0 ok_JA_fill1 rfl lk_S_29 (k_JA_fill1 (by rfl) hh) rfl rfl ⟨Nat.le_of_ble_eq_true rfl, Nat.le_of_ble_eq_true rfl⟩ ⟨Nat.zero_le _, Nat.zero_le _⟩ (Nat.le_of_ble_eq_true rfl) ?_
    refine e_vret rfl rfl (Nat.le_refl _) (Nat.le_refl _) ?_
    exact ⟨rfl, by simp [h1]⟩
  · iterate 2 refine e_sp rfl rfl rfl ?_
    refine e_goto rfl ?_
    refine e_callS0 ok_JA_fill1 rfl lk_S_29 (k_JA_fill1 (by rfl) hh) rfl rfl ⟨Nat.le_of_ble_eq_true rfl, Nat.le_of_ble_eq_true rfl⟩ ⟨Nat.zero_le _, Nat.zero_le _⟩ (Nat.le_of_ble_eq_true rfl) ?_
    refine e_vret rfl rfl (Nat.le_refl _) (Nat.le_refl _) ?_
    exact ⟨rfl, by simp [h1]⟩
set_option maxHeartbeats 4000000 in
set_option maxRecDepth 40000 in
theorem k_S_darkSamples_3 {l : Launch} {h : Nat} {S : St} (hh : h < 2 ^ 31) : KK l (SHm h) (1, 20) m_S_darkSamples [aR 3] S (ans (some (aI (dkA S 4 h))) S) := by
  refine k_start ok_S_darkSamples (Nat.le_of_ble_eq_true rfl) ?_
  have L := e_for (P := fun i => E0 l (SHm h) (1, 20) m_S_darkSamples 4 [some (aR 3), some (aI (dkA S 4 i)), some (aI (nI i))] [] (S) (ans (some (aI (dkA S 4 h))) S)) h (by
      iterate 3 refine e_sp rfl rfl rfl ?_
      refine e_alen rfl (by first | rfl | assumption) (by decide) ?_
      refine e_icge rfl (fun h1 => ?_) (fun h1 => ?_)
      · iterate 1 refine e_sp rfl rfl rfl ?_
        refine e_iret rfl rfl (Nat.le_refl _) (Nat.le_refl _) ?_
        exact ⟨rfl, rfl⟩
      · exact absurd (nI_le (Nat.le_refl _) hh) h1) (fun i hi ihi => by
      iterate 3 refine e_sp rfl rfl rfl ?_
      refine e_alen rfl (by first | rfl | assumption) (by decide) ?_
      refine e_icge rfl (fun h1 => ?_) (fun h1 => ?_)
      · exact absurd h1 (nI_ge hi hh)
      · iterate 4 refine e_sp rfl rfl rfl ?_
        refine e_iald rfl (by first | rfl | assumption) (by exact vp_in_nI hi hh) ?_
        refine e_callS1 ok_JI_bitCount rfl lk_S_23 k_JI_bitCount rfl rfl ⟨Nat.le_of_ble_eq_true rfl, Nat.le_of_ble_eq_true rfl⟩ ⟨Nat.zero_le _, Nat.zero_le _⟩ (Nat.le_of_ble_eq_true rfl) ?_
        iterate 2 refine e_sp rfl rfl rfl ?_
        refine e_inc 1 rfl rfl rfl rfl ?_
        refine e_goto rfl ?_
        rw [nI_clamp (Nat.lt_trans hi hh), nI_1]
        exact ihi)
  refine e_ci 0 rfl rfl ?_
  iterate 1 refine e_sp rfl rfl rfl ?_
  refine e_ci 0 rfl rfl ?_
  iterate 1 refine e_sp rfl rfl rfl ?_
  exact L
/-! Lattice -/
def haL (S : St) (i j : Int32) : Int32 := if wi i 0 (S.1 7 1 - 1) = 0 then 0 else if wi j 0 (S.1 7 2 - 1) = 0 then 0 else 1
def lfL (S : St) (i j : Int32) : Int32 := (S.1 7 3 + j * S.1 7 6 + i * S.1 7 5) >>> (8 &&& 31)
def tpL (S : St) (i j : Int32) : Int32 := (S.1 7 4 + j * S.1 7 5 - i * S.1 7 6) >>> (8 &&& 31)
def grL (S : St) (i j : Int32) : Int32 := if plc i j = -1 then 0 else S.1 8 (plc i j).toNatClampNeg
def cgR (S : St) (i j g : Int32) : Int32 := if plc i j = -1 then 0 else if S.1 8 (plc i j).toNatClampNeg = g then 0 else 1
def cgS (S : St) (i j g : Int32) : St := if plc i j = -1 then S else puI S 8 (plc i j).toNatClampNeg g
set_option maxHeartbeats 4000000 in
set_option maxRecDepth 40000 in
theorem k_L_has {l : Launch} {h : Nat} {S : St} {i j : Int32}  : KK l (SHm h) (1, 22) m_L_has [aR 7, aI i, aI j] S (ans (some (aI (haL S i j))) S) := by
  refine k_start ok_L_has (Nat.le_of_ble_eq_true rfl) ?_
  iterate 1 refine e_sp rfl rfl rfl ?_
  refine e_ci 0 rfl rfl ?_
  iterate 2 refine e_sp rfl rfl rfl ?_
  refine e_ci 1 rfl rfl ?_
  iterate 1 refine e_sp rfl rfl rfl ?_
  refine e_callN1 ok_H_isWithin rfl lk_L_43 k_H_isWithin rfl rfl ⟨Nat.le_of_ble_eq_true rfl, Nat.le_of_ble_eq_true rfl⟩ ⟨Nat.zero_le _, Nat.zero_le _⟩ (Nat.le_of_ble_eq_true rfl) ?_
  refine e_ifeq rfl (fun h1 => ?_) (fun h1 => ?_)
  · refine e_ci 0 rfl rfl ?_
    refine e_zret rfl rfl (Nat.le_refl _) (Nat.le_refl _) (by decide) ?_
    exact ⟨by simp [haL, h1], rfl⟩
  · iterate 1 refine e_sp rfl rfl rfl ?_
    refine e_ci 0 rfl rfl ?_
    iterate 2 refine e_sp rfl rfl rfl ?_
    refine e_ci 1 rfl rfl ?_
    iterate 1 refine e_sp rfl rfl rfl ?_
    refine e_callN1 ok_H_isWithin rfl lk_L_43 k_H_isWithin rfl rfl ⟨Nat.le_of_ble_eq_true rfl, Nat.le_of_ble_eq_true rfl⟩ ⟨Nat.zero_le _, Nat.zero_le _⟩ (Nat.le_of_ble_eq_true rfl) ?_
    refine e_ifeq rfl (fun h2 => ?_) (fun h2 => ?_)
    · refine e_ci 0 rfl rfl ?_
      refine e_zret rfl rfl (Nat.le_refl _) (Nat.le_refl _) (by decide) ?_
      exact ⟨by simp [haL, h1, h2], rfl⟩
    · refine e_ci 1 rfl rfl ?_
      refine e_goto rfl ?_
      refine e_zret rfl rfl (Nat.le_refl _) (Nat.le_refl _) (by decide) ?_
      exact ⟨by simp [haL, h1, h2], rfl⟩
set_option maxHeartbeats 4000000 in
set_option maxRecDepth 40000 in
theorem k_L_leftOf {l : Launch} {h : Nat} {S : St} {i j : Int32}  : KK l (SHm h) (0, 0) m_L_leftOf [aR 7, aI i, aI j] S (ans (some (aI (lfL S i j))) S) := by
  refine k_start ok_L_leftOf (Nat.le_of_ble_eq_true rfl) ?_
  iterate 12 refine e_sp rfl rfl rfl ?_
  refine e_cb 8 rfl rfl ?_
  iterate 1 refine e_sp rfl rfl rfl ?_
  refine e_iret rfl rfl (Nat.le_refl _) (Nat.le_refl _) ?_
  exact ⟨rfl, rfl⟩
set_option maxHeartbeats 4000000 in
set_option maxRecDepth 40000 in
theorem k_L_topOf {l : Launch} {h : Nat} {S : St} {i j : Int32}  : KK l (SHm h) (0, 0) m_L_topOf [aR 7, aI i, aI j] S (ans (some (aI (tpL S i j))) S) := by
  refine k_start ok_L_topOf (Nat.le_of_ble_eq_true rfl) ?_
  iterate 12 refine e_sp rfl rfl rfl ?_
  refine e_cb 8 rfl rfl ?_
  iterate 1 refine e_sp rfl rfl rfl ?_
  refine e_iret rfl rfl (Nat.le_refl _) (Nat.le_refl _) ?_
  exact ⟨rfl, rfl⟩
set_option maxHeartbeats 4000000 in
set_option maxRecDepth 40000 in
theorem k_L_greyOf {l : Launch} {h : Nat} {S : St} {i j : Int32}  : KK l (SHm h) (2, 44) m_L_greyOf [aR 7, aI i, aI j] S (ans (some (aI (grL S i j))) S) := by
  refine k_start ok_L_greyOf (Nat.le_of_ble_eq_true rfl) ?_
  iterate 2 refine e_sp rfl rfl rfl ?_
  refine e_callN1 ok_H_placeOf rfl lk_L_47 k_H_placeOf rfl rfl ⟨Nat.le_of_ble_eq_true rfl, Nat.le_of_ble_eq_true rfl⟩ ⟨Nat.zero_le _, Nat.zero_le _⟩ (Nat.le_of_ble_eq_true rfl) ?_
  iterate 2 refine e_sp rfl rfl rfl ?_
  refine e_ci (-1) rfl rfl ?_
  refine e_icne rfl (fun h1 => ?_) (fun h1 => ?_)
  · iterate 3 refine e_sp rfl rfl rfl ?_
    refine e_iald rfl (by first | rfl | assumption) (by exact plc_in (by assumption)) ?_
    refine e_iret rfl rfl (Nat.le_refl _) (Nat.le_refl _) ?_
    exact ⟨by simp [grL, h1], rfl⟩
  · refine e_ci 0 rfl rfl ?_
    refine e_goto rfl ?_
    refine e_iret rfl rfl (Nat.le_refl _) (Nat.le_refl _) ?_
    exact ⟨by simp [grL, h1], rfl⟩
set_option maxHeartbeats 4000000 in
set_option maxRecDepth 40000 in
theorem k_L_changeGrey {l : Launch} {h : Nat} {S : St} {i j g : Int32}  : KK l (SHm h) (2, 44) m_L_changeGrey [aR 7, aI i, aI j, aI g] S (ans (some (aI (cgR S i j g))) (cgS S i j g)) := by
  refine k_start ok_L_changeGrey (Nat.le_of_ble_eq_true rfl) ?_
  iterate 2 refine e_sp rfl rfl rfl ?_
  refine e_callN1 ok_H_placeOf rfl lk_L_47 k_H_placeOf rfl rfl ⟨Nat.le_of_ble_eq_true rfl, Nat.le_of_ble_eq_true rfl⟩ ⟨Nat.zero_le _, Nat.zero_le _⟩ (Nat.le_of_ble_eq_true rfl) ?_
  iterate 2 refine e_sp rfl rfl rfl ?_
  refine e_ci (-1) rfl rfl ?_
  refine e_icne rfl (fun h1 => ?_) (fun h1 => ?_)
  · iterate 3 refine e_sp rfl rfl rfl ?_
    refine e_iald rfl (by first | rfl | assumption) (by exact plc_in (by assumption)) ?_
    iterate 1 refine e_sp rfl rfl rfl ?_
    refine e_iceq rfl (fun h2 => ?_) (fun h2 => ?_)
    · refine e_ci 0 rfl rfl ?_
      iterate 5 refine e_sp rfl rfl rfl ?_
      refine e_iast rfl (by first | rfl | assumption) (by exact plc_in (by assumption)) ?_
      iterate 1 refine e_sp rfl rfl rfl ?_
      refine e_zret rfl rfl (Nat.le_refl _) (Nat.le_refl _) (by decide) ?_
      exact ⟨by simp [cgR, h1, h2], by simp [cgS, h1, h2]⟩
    · refine e_ci 1 rfl rfl ?_
      refine e_goto rfl ?_
      iterate 5 refine e_sp rfl rfl rfl ?_
      refine e_iast rfl (by first | rfl | assumption) (by exact plc_in (by assumption)) ?_
      iterate 1 refine e_sp rfl rfl rfl ?_
      refine e_zret rfl rfl (Nat.le_refl _) (Nat.le_refl _) (by decide) ?_
      exact ⟨by simp [cgR, h1, h2], by simp [cgS, h1, h2]⟩
  · refine e_ci 0 rfl rfl ?_
    refine e_zret rfl rfl (Nat.le_refl _) (Nat.le_refl _) (by decide) ?_
    exact ⟨by simp [cgR, h1], by simp [cgS, h1]⟩
set_option maxHeartbeats 4000000 in
set_option maxRecDepth 40000 in
theorem k_L_turnTo {l : Launch} {h : Nat} {S : St} {a b c e : Int32}  : KK l (SHm h) (0, 0) m_L_turnTo [aR 7, aI a, aI b, aI c, aI e] S (ans none (puI (puI (puI (puI S 7 3 a) 7 4 b) 7 5 c) 7 6 e)) := by
  refine k_start ok_L_turnTo (Nat.le_of_ble_eq_true rfl) ?_
  iterate 12 refine e_sp rfl rfl rfl ?_
  refine e_vret rfl rfl (Nat.le_refl _) (Nat.le_refl _) ?_
  exact ⟨rfl, rfl⟩
set_option maxHeartbeats 4000000 in
set_option maxRecDepth 40000 in
theorem k_L_forgetGreys {l : Launch} {h : Nat} {S : St}  : KK l (SHm h) (1, 23) m_L_forgetGreys [aR 7] S (ans none (flI S 8 0 256)) := by
  refine k_start ok_L_forgetGreys (Nat.le_of_ble_eq_true rfl) ?_
  iterate 2 refine e_sp rfl rfl rfl ?_
  refine e_ci 0 rfl rfl ?_
  refine e_callS0 ok_JA_fill1 rfl lk_L_37 (k_JA_fill1 (by rfl) (by decide)) rfl rfl ⟨Nat.le_of_ble_eq_true rfl, Nat.le_of_ble_eq_true rfl⟩ ⟨Nat.zero_le _, Nat.zero_le _⟩ (Nat.le_of_ble_eq_true rfl) ?_
  refine e_vret rfl rfl (Nat.le_refl _) (Nat.le_refl _) ?_
  exact ⟨rfl, rfl⟩
set_option maxHeartbeats 4000000 in
set_option maxRecDepth 40000 in
theorem k_L_begin {l : Launch} {h : Nat} {S : St} {a b : Int32}  : KK l (SHm h) (2, 43) m_L_begin [aR 7, aI a, aI b] S (ans none (flI (puI (puI S 7 1 a) 7 2 b) 8 0 256)) := by
  refine k_start ok_L_begin (Nat.le_of_ble_eq_true rfl) ?_
  iterate 7 refine e_sp rfl rfl rfl ?_
  refine e_callV0 ok_L_forgetGreys rfl lk_L_25 (by rfl) (by rfl) k_L_forgetGreys rfl rfl ⟨Nat.le_of_ble_eq_true rfl, Nat.le_of_ble_eq_true rfl⟩ ⟨Nat.zero_le _, Nat.zero_le _⟩ (Nat.le_of_ble_eq_true rfl) ?_
  refine e_vret rfl rfl (Nat.le_refl _) (Nat.le_refl _) ?_
  exact ⟨rfl, rfl⟩
/-! Codes -/
def btC (S : St) (i j p : Int32) : Int32 := if plc i j = -1 then 0 else S.1 10 (plc i j).toNatClampNeg >>> (p &&& 31) &&& 1
def sgC (S : St) (i j g : Int32) : St := if plc i j = -1 then S else puI S 10 (plc i j).toNatClampNeg (g ^^^ g >>> (1 &&& 31))
def abC (S : St) (i j p b : Int32) : St := if plc i j = -1 then S else puI S 10 (plc i j).toNatClampNeg (S.1 10 (plc i j).toNatClampNeg ||| b <<< (p &&& 31))
def ctC (S : St) (i j p : Int32) : Int32 := (btC S (i - 1) j p <<< (5 &&& 31) ||| btC S (i - 2) j p <<< (4 &&& 31)) ||| (btC S (i - 1) (j - 1) p <<< (3 &&& 31) ||| btC S i (j - 1) p <<< (2 &&& 31) ||| btC S (i + 1) (j - 1) p <<< (1 &&& 31)) ||| btC S i j (p + 1)
def gcC (x : Int32) : Int32 :=
  let g := x ^^^ x >>> (1 &&& 31)
  let k := g ^^^ g >>> (2 &&& 31)
  k ^^^ k >>> (4 &&& 31)
def grC (S : St) (i j : Int32) : Int32 := if plc i j = -1 then 0 else gcC (S.1 10 (plc i j).toNatClampNeg)
def ggC (S : St) : Nat → Int32
  | 0 => 0
  | i + 1 => if ggC S i < gcC (S.1 10 i) then gcC (S.1 10 i) else ggC S i
set_option maxHeartbeats 4000000 in
set_option maxRecDepth 40000 in
theorem k_C_begin {l : Launch} {h : Nat} {S : St}  : KK l (SHm h) (1, 23) m_C_begin [aR 9] S (ans none (flI S 10 0 256)) := by
  refine k_start ok_C_begin (Nat.le_of_ble_eq_true rfl) ?_
  iterate 2 refine e_sp rfl rfl rfl ?_
  refine e_ci 0 rfl rfl ?_
  refine e_callS0 ok_JA_fill1 rfl lk_C_15 (k_JA_fill1 (by rfl) (by decide)) rfl rfl ⟨Nat.le_of_ble_eq_true rfl, Nat.le_of_ble_eq_true rfl⟩ ⟨Nat.zero_le _, Nat.zero_le _⟩ (Nat.le_of_ble_eq_true rfl) ?_
  refine e_vret rfl rfl (Nat.le_refl _) (Nat.le_refl _) ?_
  exact ⟨rfl, rfl⟩
set_option maxHeartbeats 4000000 in
set_option maxRecDepth 40000 in
theorem k_C_setGrey {l : Launch} {h : Nat} {S : St} {i j g : Int32}  : KK l (SHm h) (2, 44) m_C_setGrey [aR 9, aI i, aI j, aI g] S (ans none (sgC S i j g)) := by
  refine k_start ok_C_setGrey (Nat.le_of_ble_eq_true rfl) ?_
  iterate 2 refine e_sp rfl rfl rfl ?_
  refine e_callN1 ok_H_placeOf rfl lk_C_21 k_H_placeOf rfl rfl ⟨Nat.le_of_ble_eq_true rfl, Nat.le_of_ble_eq_true rfl⟩ ⟨Nat.zero_le _, Nat.zero_le _⟩ (Nat.le_of_ble_eq_true rfl) ?_
  iterate 2 refine e_sp rfl rfl rfl ?_
  refine e_ci (-1) rfl rfl ?_
  refine e_iceq rfl (fun h1 => ?_) (fun h1 => ?_)
  · refine e_vret rfl rfl (Nat.le_refl _) (Nat.le_refl _) ?_
    exact ⟨rfl, by simp [sgC, h1]⟩
  · iterate 5 refine e_sp rfl rfl rfl ?_
    refine e_ci 1 rfl rfl ?_
    iterate 2 refine e_sp rfl rfl rfl ?_
    refine e_iast rfl (by first | rfl | assumption) (by exact plc_in (by assumption)) ?_
    refine e_vret rfl rfl (Nat.le_refl _) (Nat.le_refl _) ?_
    exact ⟨rfl, by simp [sgC, h1]⟩
set_option maxHeartbeats 4000000 in
set_option maxRecDepth 40000 in
theorem k_C_addBit {l : Launch} {h : Nat} {S : St} {i j p b : Int32}  : KK l (SHm h) (2, 44) m_C_addBit [aR 9, aI i, aI j, aI p, aI b] S (ans none (abC S i j p b)) := by
  refine k_start ok_C_addBit (Nat.le_of_ble_eq_true rfl) ?_
  iterate 2 refine e_sp rfl rfl rfl ?_
  refine e_callN1 ok_H_placeOf rfl lk_C_21 k_H_placeOf rfl rfl ⟨Nat.le_of_ble_eq_true rfl, Nat.le_of_ble_eq_true rfl⟩ ⟨Nat.zero_le _, Nat.zero_le _⟩ (Nat.le_of_ble_eq_true rfl) ?_
  iterate 2 refine e_sp rfl rfl rfl ?_
  refine e_ci (-1) rfl rfl ?_
  refine e_iceq rfl (fun h1 => ?_) (fun h1 => ?_)
  · refine e_vret rfl rfl (Nat.le_refl _) (Nat.le_refl _) ?_
    exact ⟨rfl, by simp [abC, h1]⟩
  · iterate 4 refine e_sp rfl rfl rfl ?_
    refine e_iald rfl (by first | rfl | assumption) (by exact plc_in (by assumption)) ?_
    iterate 4 refine e_sp rfl rfl rfl ?_
    refine e_iast rfl (by first | rfl | assumption) (by exact plc_in (by assumption)) ?_
    refine e_vret rfl rfl (Nat.le_refl _) (Nat.le_refl _) ?_
    exact ⟨rfl, by simp [abC, h1]⟩
set_option maxHeartbeats 4000000 in
set_option maxRecDepth 40000 in
theorem k_C_bitOf {l : Launch} {h : Nat} {S : St} {i j p : Int32}  : KK l (SHm h) (2, 44) m_C_bitOf [aR 9, aI i, aI j, aI p] S (ans (some (aI (btC S i j p))) S) := by
  refine k_start ok_C_bitOf (Nat.le_of_ble_eq_true rfl) ?_
  iterate 2 refine e_sp rfl rfl rfl ?_
  refine e_callN1 ok_H_placeOf rfl lk_C_21 k_H_placeOf rfl rfl ⟨Nat.le_of_ble_eq_true rfl, Nat.le_of_ble_eq_true rfl⟩ ⟨Nat.zero_le _, Nat.zero_le _⟩ (Nat.le_of_ble_eq_true rfl) ?_
  iterate 2 refine e_sp rfl rfl rfl ?_
  refine e_ci (-1) rfl rfl ?_
  refine e_icne rfl (fun h1 => ?_) (fun h1 => ?_)
  · iterate 3 refine e_sp rfl rfl rfl ?_
    refine e_iald rfl (by first | rfl | assumption) (by exact plc_in (by assumption)) ?_
    iterate 2 refine e_sp rfl rfl rfl ?_
    refine e_ci 1 rfl rfl ?_
    iterate 1 refine e_sp rfl rfl rfl ?_
    refine e_iret rfl rfl (Nat.le_refl _) (Nat.le_refl _) ?_
    exact ⟨by simp [btC, h1], rfl⟩
  · refine e_ci 0 rfl rfl ?_
    refine e_goto rfl ?_
    refine e_iret rfl rfl (Nat.le_refl _) (Nat.le_refl _) ?_
    exact ⟨by simp [btC, h1], rfl⟩
set_option maxHeartbeats 4000000 in
set_option maxRecDepth 40000 in
theorem k_C_contextOf {l : Launch} {h : Nat} {S : St} {i j p : Int32}  : KK l (SHm h) (3, 68) m_C_contextOf [aR 9, aI i, aI j, aI p] S (ans (some (aI (ctC S i j p))) S) := by
  refine k_start ok_C_contextOf (Nat.le_of_ble_eq_true rfl) ?_
  iterate 2 refine e_sp rfl rfl rfl ?_
  refine e_ci 1 rfl rfl ?_
  iterate 3 refine e_sp rfl rfl rfl ?_
  refine e_callV1 ok_C_bitOf rfl lk_C_25 (by rfl) (by rfl) k_C_bitOf rfl rfl ⟨Nat.le_of_ble_eq_true rfl, Nat.le_of_ble_eq_true rfl⟩ ⟨Nat.zero_le _, Nat.zero_le _⟩ (Nat.le_of_ble_eq_true rfl) ?_
  refine e_ci 5 rfl rfl ?_
  iterate 3 refine e_sp rfl rfl rfl ?_
  refine e_ci 2 rfl rfl ?_
  iterate 3 refine e_sp rfl rfl rfl ?_
  refine e_callV1 ok_C_bitOf rfl lk_C_25 (by rfl) (by rfl) k_C_bitOf rfl rfl ⟨Nat.le_of_ble_eq_true rfl, Nat.le_of_ble_eq_true rfl⟩ ⟨Nat.zero_le _, Nat.zero_le _⟩ (Nat.le_of_ble_eq_true rfl) ?_
  refine e_ci 4 rfl rfl ?_
  iterate 5 refine e_sp rfl rfl rfl ?_
  refine e_ci 1 rfl rfl ?_
  iterate 2 refine e_sp rfl rfl rfl ?_
  refine e_ci 1 rfl rfl ?_
  iterate 2 refine e_sp rfl rfl rfl ?_
  refine e_callV1 ok_C_bitOf rfl lk_C_25 (by rfl) (by rfl) k_C_bitOf rfl rfl ⟨Nat.le_of_ble_eq_true rfl, Nat.le_of_ble_eq_true rfl⟩ ⟨Nat.zero_le _, Nat.zero_le _⟩ (Nat.le_of_ble_eq_true rfl) ?_
  refine e_ci 3 rfl rfl ?_
  iterate 4 refine e_sp rfl rfl rfl ?_
  refine e_ci 1 rfl rfl ?_
  iterate 2 refine e_sp rfl rfl rfl ?_
  refine e_callV1 ok_C_bitOf rfl lk_C_25 (by rfl) (by rfl) k_C_bitOf rfl rfl ⟨Nat.le_of_ble_eq_true rfl, Nat.le_of_ble_eq_true rfl⟩ ⟨Nat.zero_le _, Nat.zero_le _⟩ (Nat.le_of_ble_eq_true rfl) ?_
  refine e_ci 2 rfl rfl ?_
  iterate 4 refine e_sp rfl rfl rfl ?_
  refine e_ci 1 rfl rfl ?_
  iterate 2 refine e_sp rfl rfl rfl ?_
  refine e_ci 1 rfl rfl ?_
  iterate 2 refine e_sp rfl rfl rfl ?_
  refine e_callV1 ok_C_bitOf rfl lk_C_25 (by rfl) (by rfl) k_C_bitOf rfl rfl ⟨Nat.le_of_ble_eq_true rfl, Nat.le_of_ble_eq_true rfl⟩ ⟨Nat.zero_le _, Nat.zero_le _⟩ (Nat.le_of_ble_eq_true rfl) ?_
  refine e_ci 1 rfl rfl ?_
  iterate 10 refine e_sp rfl rfl rfl ?_
  refine e_ci 1 rfl rfl ?_
  iterate 1 refine e_sp rfl rfl rfl ?_
  refine e_callV1 ok_C_bitOf rfl lk_C_25 (by rfl) (by rfl) k_C_bitOf rfl rfl ⟨Nat.le_of_ble_eq_true rfl, Nat.le_of_ble_eq_true rfl⟩ ⟨Nat.zero_le _, Nat.zero_le _⟩ (Nat.le_of_ble_eq_true rfl) ?_
  iterate 1 refine e_sp rfl rfl rfl ?_
  refine e_iret rfl rfl (Nat.le_refl _) (Nat.le_refl _) ?_
  exact ⟨rfl, rfl⟩
set_option maxHeartbeats 4000000 in
set_option maxRecDepth 40000 in
theorem k_C_greyOfCode {l : Launch} {B : List Sh} {S : St} {x : Int32}  : KK l B (0, 0) m_C_greyOfCode [aI x] S (ans (some (aI (gcC x))) S) := by
  refine k_start ok_C_greyOfCode (Nat.le_of_ble_eq_true rfl) ?_
  iterate 2 refine e_sp rfl rfl rfl ?_
  refine e_ci 1 rfl rfl ?_
  iterate 5 refine e_sp rfl rfl rfl ?_
  refine e_ci 2 rfl rfl ?_
  iterate 5 refine e_sp rfl rfl rfl ?_
  refine e_ci 4 rfl rfl ?_
  iterate 2 refine e_sp rfl rfl rfl ?_
  refine e_iret rfl rfl (Nat.le_refl _) (Nat.le_refl _) ?_
  exact ⟨rfl, rfl⟩
set_option maxHeartbeats 4000000 in
set_option maxRecDepth 40000 in
theorem k_C_greyOf {l : Launch} {h : Nat} {S : St} {i j : Int32}  : KK l (SHm h) (2, 44) m_C_greyOf [aR 9, aI i, aI j] S (ans (some (aI (grC S i j))) S) := by
  refine k_start ok_C_greyOf (Nat.le_of_ble_eq_true rfl) ?_
  iterate 2 refine e_sp rfl rfl rfl ?_
  refine e_callN1 ok_H_placeOf rfl lk_C_21 k_H_placeOf rfl rfl ⟨Nat.le_of_ble_eq_true rfl, Nat.le_of_ble_eq_true rfl⟩ ⟨Nat.zero_le _, Nat.zero_le _⟩ (Nat.le_of_ble_eq_true rfl) ?_
  iterate 2 refine e_sp rfl rfl rfl ?_
  refine e_ci (-1) rfl rfl ?_
  refine e_icne rfl (fun h1 => ?_) (fun h1 => ?_)
  · iterate 3 refine e_sp rfl rfl rfl ?_
    refine e_iald rfl (by first | rfl | assumption) (by exact plc_in (by assumption)) ?_
    refine e_callS1 ok_C_greyOfCode rfl lk_C_29 k_C_greyOfCode rfl rfl ⟨Nat.le_of_ble_eq_true rfl, Nat.le_of_ble_eq_true rfl⟩ ⟨Nat.zero_le _, Nat.zero_le _⟩ (Nat.le_of_ble_eq_true rfl) ?_
    refine e_iret rfl rfl (Nat.le_refl _) (Nat.le_refl _) ?_
    exact ⟨by simp [grC, h1], rfl⟩
  · refine e_ci 0 rfl rfl ?_
    refine e_goto rfl ?_
    refine e_iret rfl rfl (Nat.le_refl _) (Nat.le_refl _) ?_
    exact ⟨by simp [grC, h1], rfl⟩
set_option maxHeartbeats 4000000 in
set_option maxRecDepth 40000 in
theorem k_C_greatestGrey {l : Launch} {h : Nat} {S : St} : KK l (SHm h) (1, 21) m_C_greatestGrey [aR 9] S (ans (some (aI (ggC S 256))) S) := by
  refine k_start ok_C_greatestGrey (Nat.le_of_ble_eq_true rfl) ?_
  have L := e_for (P := fun i => E0 l (SHm h) (1, 21) m_C_greatestGrey 4 [some (aR 9), some (aI (ggC S i)), some (aI (nI i))] [] (S) (ans (some (aI (ggC S 256))) S)) 256 (by
      iterate 3 refine e_sp rfl rfl rfl ?_
      refine e_alen rfl (by first | rfl | assumption) (by decide) ?_
      refine e_icge rfl (fun h1 => ?_) (fun h1 => ?_)
      · iterate 1 refine e_sp rfl rfl rfl ?_
        refine e_iret rfl rfl (Nat.le_refl _) (Nat.le_refl _) ?_
        exact ⟨rfl, rfl⟩
      · exact absurd (nI_le (Nat.le_refl _) (by decide)) h1) (fun i hi ihi => by
      iterate 3 refine e_sp rfl rfl rfl ?_
      refine e_alen rfl (by first | rfl | assumption) (by decide) ?_
      refine e_icge rfl (fun h1 => ?_) (fun h1 => ?_)
      · exact absurd h1 (nI_ge hi (by decide))
      · iterate 4 refine e_sp rfl rfl rfl ?_
        refine e_iald rfl (by first | rfl | assumption) (by exact vp_in_nI hi (by decide)) ?_
        refine e_callS1 ok_C_greyOfCode rfl lk_C_29 k_C_greyOfCode rfl rfl ⟨Nat.le_of_ble_eq_true rfl, Nat.le_of_ble_eq_true rfl⟩ ⟨Nat.zero_le _, Nat.zero_le _⟩ (Nat.le_of_ble_eq_true rfl) ?_
        refine e_mmax rfl mm_C_33 (Nat.le_of_ble_eq_true rfl) (Nat.le_of_ble_eq_true rfl) ⟨Nat.zero_le _, Nat.zero_le _⟩ ?_
        iterate 1 refine e_sp rfl rfl rfl ?_
        refine e_inc 1 rfl rfl rfl rfl ?_
        refine e_goto rfl ?_
        rw [nI_clamp (by omega), nI_1]
        exact ihi)
  refine e_ci 0 rfl rfl ?_
  iterate 1 refine e_sp rfl rfl rfl ?_
  refine e_ci 0 rfl rfl ?_
  iterate 1 refine e_sp rfl rfl rfl ?_
  exact L
/-! Forecast -/
def ftF (S : St) (c : Int32) : Int32 := if wi c 0 63 = 0 then 0 else if S.1 12 c.toNatClampNeg < 0 then 0 else 1
def up7 (s : Int32) : Int32 := if 0 ≤ s then s + 1 else s + 2
def dn8 (s : Int32) : Int32 := if 0 ≤ s then s - 2 else s - 1
/-- a state behind a bit -/
def nxF (s b : Int32) : Int32 := if b = 1 then (if up7 s < 7 then up7 s else 7) else (if -8 < dn8 s then dn8 s else -8)
def leF (S : St) (c b : Int32) : St := if wi c 0 63 = 0 then S else puI (puI S 12 c.toNatClampNeg (nxF (S.1 12 c.toNatClampNeg) b)) 13 c.toNatClampNeg (S.1 13 c.toNatClampNeg + 1)
set_option maxHeartbeats 4000000 in
set_option maxRecDepth 40000 in
theorem k_F_beginPlane {l : Launch} {h : Nat} {S : St}  : KK l (SHm h) (1, 23) m_F_beginPlane [aR 11] S (ans none (flI (flI S 12 (-1) 64) 13 0 64)) := by
  refine k_start ok_F_beginPlane (Nat.le_of_ble_eq_true rfl) ?_
  iterate 2 refine e_sp rfl rfl rfl ?_
  refine e_ci (-1) rfl rfl ?_
  refine e_callS0 ok_JA_fill1 rfl lk_F_18 (k_JA_fill1 (by rfl) (by decide)) rfl rfl ⟨Nat.le_of_ble_eq_true rfl, Nat.le_of_ble_eq_true rfl⟩ ⟨Nat.zero_le _, Nat.zero_le _⟩ (Nat.le_of_ble_eq_true rfl) ?_
  iterate 2 refine e_sp rfl rfl rfl ?_
  refine e_ci 0 rfl rfl ?_
  refine e_callS0 ok_JA_fill1 rfl lk_F_18 (k_JA_fill1 (by rfl) (by decide)) rfl rfl ⟨Nat.le_of_ble_eq_true rfl, Nat.le_of_ble_eq_true rfl⟩ ⟨Nat.zero_le _, Nat.zero_le _⟩ (Nat.le_of_ble_eq_true rfl) ?_
  refine e_vret rfl rfl (Nat.le_refl _) (Nat.le_refl _) ?_
  exact ⟨rfl, rfl⟩
set_option maxHeartbeats 4000000 in
set_option maxRecDepth 40000 in
theorem k_F_foretold {l : Launch} {h : Nat} {S : St} {c : Int32}  : KK l (SHm h) (1, 22) m_F_foretold [aR 11, aI c] S (ans (some (aI (ftF S c))) S) := by
  refine k_start ok_F_foretold (Nat.le_of_ble_eq_true rfl) ?_
  iterate 1 refine e_sp rfl rfl rfl ?_
  refine e_ci 0 rfl rfl ?_
  refine e_cb 63 rfl rfl ?_
  refine e_callN1 ok_H_isWithin rfl lk_F_24 k_H_isWithin rfl rfl ⟨Nat.le_of_ble_eq_true rfl, Nat.le_of_ble_eq_true rfl⟩ ⟨Nat.zero_le _, Nat.zero_le _⟩ (Nat.le_of_ble_eq_true rfl) ?_
  refine e_ifeq rfl (fun h1 => ?_) (fun h1 => ?_)
  · refine e_ci 0 rfl rfl ?_
    refine e_iret rfl rfl (Nat.le_refl _) (Nat.le_refl _) ?_
    exact ⟨by simp [ftF, h1], rfl⟩
  · iterate 3 refine e_sp rfl rfl rfl ?_
    refine e_iald rfl (by first | rfl | assumption) (by exact wi_in (n := 64) (by decide) (by assumption)) ?_
    refine e_iflt rfl (fun h2 => ?_) (fun h2 => ?_)
    · refine e_ci 0 rfl rfl ?_
      refine e_iret rfl rfl (Nat.le_refl _) (Nat.le_refl _) ?_
      exact ⟨by simp [ftF, h1, h2], rfl⟩
    · refine e_ci 1 rfl rfl ?_
      refine e_goto rfl ?_
      refine e_iret rfl rfl (Nat.le_refl _) (Nat.le_refl _) ?_
      exact ⟨by simp [ftF, h1, h2], rfl⟩
set_option maxHeartbeats 4000000 in
set_option maxRecDepth 40000 in
theorem k_F_learn {l : Launch} {h : Nat} {S : St} {c b : Int32}  : KK l (SHm h) (1, 22) m_F_learn [aR 11, aI c, aI b] S (ans none (leF S c b)) := by
  refine k_start ok_F_learn (Nat.le_of_ble_eq_true rfl) ?_
  iterate 1 refine e_sp rfl rfl rfl ?_
  refine e_ci 0 rfl rfl ?_
  refine e_cb 63 rfl rfl ?_
  refine e_callN1 ok_H_isWithin rfl lk_F_24 k_H_isWithin rfl rfl ⟨Nat.le_of_ble_eq_true rfl, Nat.le_of_ble_eq_true rfl⟩ ⟨Nat.zero_le _, Nat.zero_le _⟩ (Nat.le_of_ble_eq_true rfl) ?_
  refine e_ifne rfl (fun h1 => ?_) (fun h1 => ?_)
  · iterate 3 refine e_sp rfl rfl rfl ?_
    refine e_iald rfl (by first | rfl | assumption) (by exact wi_in (n := 64) (by decide) (by assumption)) ?_
    iterate 2 refine e_sp rfl rfl rfl ?_
    refine e_ci 1 rfl rfl ?_
    refine e_icne rfl (fun h2 => ?_) (fun h2 => ?_)
    · iterate 3 refine e_sp rfl rfl rfl ?_
      refine e_cb (-8) rfl rfl ?_
      iterate 1 refine e_sp rfl rfl rfl ?_
      refine e_ifge rfl (fun h3 => ?_) (fun h3 => ?_)
      · iterate 1 refine e_sp rfl rfl rfl ?_
        refine e_ci 2 rfl rfl ?_
        iterate 1 refine e_sp rfl rfl rfl ?_
        refine e_mmax rfl mm_F_34 (Nat.le_of_ble_eq_true rfl) (Nat.le_of_ble_eq_true rfl) ⟨Nat.zero_le _, Nat.zero_le _⟩ ?_
        refine e_iast rfl (by first | rfl | assumption) (by exact wi_in (n := 64) (by decide) (by assumption)) ?_
        iterate 4 refine e_sp rfl rfl rfl ?_
        refine e_iald rfl (by first | rfl | assumption) (by exact wi_in (n := 64) (by decide) (by assumption)) ?_
        refine e_ci 1 rfl rfl ?_
        iterate 1 refine e_sp rfl rfl rfl ?_
        refine e_iast rfl (by first | rfl | assumption) (by exact wi_in (n := 64) (by decide) (by assumption)) ?_
        refine e_vret rfl rfl (Nat.le_refl _) (Nat.le_refl _) ?_
        exact ⟨rfl, by simp [leF, nxF, up7, dn8, puI, pt, upd, h1, h2, h3]⟩
      · iterate 1 refine e_sp rfl rfl rfl ?_
        refine e_ci 1 rfl rfl ?_
        iterate 1 refine e_sp rfl rfl rfl ?_
        refine e_goto rfl ?_
        refine e_mmax rfl mm_F_34 (Nat.le_of_ble_eq_true rfl) (Nat.le_of_ble_eq_true rfl) ⟨Nat.zero_le _, Nat.zero_le _⟩ ?_
        refine e_iast rfl (by first | rfl | assumption) (by exact wi_in (n := 64) (by decide) (by assumption)) ?_
        iterate 4 refine e_sp rfl rfl rfl ?_
        refine e_iald rfl (by first | rfl | assumption) (by exact wi_in (n := 64) (by decide) (by assumption)) ?_
        refine e_ci 1 rfl rfl ?_
        iterate 1 refine e_sp rfl rfl rfl ?_
        refine e_iast rfl (by first | rfl | assumption) (by exact wi_in (n := 64) (by decide) (by assumption)) ?_
        refine e_vret rfl rfl (Nat.le_refl _) (Nat.le_refl _) ?_
        exact ⟨rfl, by simp [leF, nxF, up7, dn8, puI, pt, upd, h1, h2, h3]⟩
    · iterate 3 refine e_sp rfl rfl rfl ?_
      refine e_cb 7 rfl rfl ?_
      iterate 1 refine e_sp rfl rfl rfl ?_
      refine e_ifge rfl (fun h4 => ?_) (fun h4 => ?_)
      · iterate 1 refine e_sp rfl rfl rfl ?_
        refine e_ci 1 rfl rfl ?_
        iterate 1 refine e_sp rfl rfl rfl ?_
        refine e_mmin rfl mm_F_28 (Nat.le_of_ble_eq_true rfl) (Nat.le_of_ble_eq_true rfl) ⟨Nat.zero_le _, Nat.zero_le _⟩ ?_
        refine e_iast rfl (by first | rfl | assumption) (by exact wi_in (n := 64) (by decide) (by assumption)) ?_
        refine e_goto rfl ?_
        iterate 4 refine e_sp rfl rfl rfl ?_
        refine e_iald rfl (by first | rfl | assumption) (by exact wi_in (n := 64) (by decide) (by assumption)) ?_
        refine e_ci 1 rfl rfl ?_
        iterate 1 refine e_sp rfl rfl rfl ?_
        refine e_iast rfl (by first | rfl | assumption) (by exact wi_in (n := 64) (by decide) (by assumption)) ?_
        refine e_vret rfl rfl (Nat.le_refl _) (Nat.le_refl _) ?_
        exact ⟨rfl, by simp [leF, nxF, up7, dn8, puI, pt, upd, h1, h2, h4]⟩
      · iterate 1 refine e_sp rfl rfl rfl ?_
        refine e_ci 2 rfl rfl ?_
        iterate 1 refine e_sp rfl rfl rfl ?_
        refine e_goto rfl ?_
        refine e_mmin rfl mm_F_28 (Nat.le_of_ble_eq_true rfl) (Nat.le_of_ble_eq_true rfl) ⟨Nat.zero_le _, Nat.zero_le _⟩ ?_
        refine e_iast rfl (by first | rfl | assumption) (by exact wi_in (n := 64) (by decide) (by assumption)) ?_
        refine e_goto rfl ?_
        iterate 4 refine e_sp rfl rfl rfl ?_
        refine e_iald rfl (by first | rfl | assumption) (by exact wi_in (n := 64) (by decide) (by assumption)) ?_
        refine e_ci 1 rfl rfl ?_
        iterate 1 refine e_sp rfl rfl rfl ?_
        refine e_iast rfl (by first | rfl | assumption) (by exact wi_in (n := 64) (by decide) (by assumption)) ?_
        refine e_vret rfl rfl (Nat.le_refl _) (Nat.le_refl _) ?_
        exact ⟨rfl, by simp [leF, nxF, up7, dn8, puI, pt, upd, h1, h2, h4]⟩
  · refine e_vret rfl rfl (Nat.le_refl _) (Nat.le_refl _) ?_
    exact ⟨rfl, by simp [leF, nxF, up7, dn8, puI, pt, upd, h1]⟩
