/-! RunReader -/
def hrR (S : St) (n : Int32) : Int32 := if nI 3000 - S.1 17 2 < n then 0 else 1
def tkR (S : St) (b : Int32) : St := if wi (S.1 17 2) 0 (nI 3000 - 1) = 0 then S else puI (puI S 18 (S.1 17 2).toNatClampNeg (vp_nar .byte b.toInt8.toInt32)) 17 2 (S.1 17 2 + 1)
def rgS (S : St) (n : Int32) : St := puI (puI (puI (puI (puI (puI (puI S 19 0 4) 19 1 1) 17 3 0) 17 4 n) 17 5 (-1)) 17 6 0) 17 7 0
def rbW (S : St) : Int32 := wi (S.1 17 3 >>> (3 &&& 31)) 0 ((if nI 3000 < S.1 17 2 then nI 3000 else S.1 17 2) - 1)
def rbV (S : St) : Int32 := if rbW S = 0 then 0 else S.1 18 (S.1 17 3 >>> (3 &&& 31)).toNatClampNeg >>> ((7 - (S.1 17 3 &&& 7)) &&& 31) &&& 1
def rbS (S : St) : St := if rbW S = 0 then puI S 17 7 1 else puI S 17 3 (S.1 17 3 + 1)
def rdS (S : St) : Nat → St
  | 0 => S
  | i + 1 => rbS (rdS S i)
def rdV (S : St) : Nat → Int32
  | 0 => 0
  | i + 1 => rdV S i <<< (1 &&& 31) ||| rbV (rdS S i)
def onS : Nat → St → St
  | 0, S => S
  | f + 1, S => if rbV S = 1 then onS f (rbS S) else rbS S
def onC : Nat → St → Nat
  | 0, _ => 0
  | f + 1, S => if rbV S = 1 then onC f (rbS S) + 1 else 0
theorem onC_le : ∀ f S, onC f S ≤ f
  | 0, _ => Nat.le_refl _
  | f + 1, S => by
    simp only [onC]
    split
    · have := onC_le f (rbS S); omega
    · omega
theorem rbS_came (S : St) : (rbS S).1 17 2 = S.1 17 2 := by
  unfold rbS
  split <;> simp [puI, pt, upd]
theorem rdS_came (S : St) : ∀ i, (rdS S i).1 17 2 = S.1 17 2
  | 0 => rfl
  | i + 1 => by simp only [rdS]; rw [rbS_came, rdS_came S i]
theorem onS_came : ∀ f S, (onS f S).1 17 2 = S.1 17 2
  | 0, _ => rfl
  | f + 1, S => by
    simp only [onS]
    split
    · rw [onS_came f, rbS_came]
    · exact rbS_came S
theorem rbS_pace (S : St) (k : Nat) : (rbS S).1 19 k = S.1 19 k := by
  unfold rbS
  split <;> simp [puI, pt]
/-- behind the bits of a run: its length, and the rest -/
def rrF (S : St) (run : Int32) : St :=
  if S.1 17 7 = 0 then
    (if run ≤ (puI S 17 6 (S.1 17 6 + 1)).1 17 4 then pacN_19 (puI (puI S 17 6 (S.1 17 6 + 1)) 17 5 run) run else puI (puI S 17 6 (S.1 17 6 + 1)) 17 7 2)
  else S
def rrE (T : St) (on kk : Nat) : St := if 12 ≤ nI on then rrF (rdS T 13) (rdV T 13) else rrF (rdS T kk) (nI on <<< (nI kk &&& 31) ||| rdV T kk)
def rrS (S : St) : St := rrE (onS 12 S) (onC 12 S) (lowK (S.1 19 1) (S.1 19 0) 8 0)
def nbT (S : St) : St := if S.1 17 5 = -1 then rrS S else S
def nbU (S : St) : St := puI (puI S 17 4 (S.1 17 4 - 1)) 17 5 ((puI S 17 4 (S.1 17 4 - 1)).1 17 5 - 1)
def nbE (T : St) (f : Int32) : Int32 := if T.1 17 7 = 0 then (if (nbU T).1 17 5 = -1 then 1 - f else f) else 0
def nbG (T : St) : St := if T.1 17 7 = 0 then nbU T else T
def nbV (S : St) (f : Int32) : Int32 := nbE (nbT S) f
def nbS (S : St) : St := nbG (nbT S)
def arD (S : St) : Int32 := (S.1 17 3 + 7) >>> (3 &&& 31)
def arV (S : St) : Int32 := if arD S < S.1 17 2 then 0 else if wi (arD S - 1) 0 (nI 3000 - 1) = 0 then 0 else if S.1 18 (arD S - 1).toNatClampNeg &&& ((1 : Int32) <<< ((arD S <<< (3 &&& 31) - S.1 17 3) &&& 31) - 1) = 0 then 1 else 0
def edT (S : St) : St := if S.1 17 7 = 0 then (if S.1 17 5 = -1 then rrS S else S) else S
def edE (T : St) : St := if T.1 17 7 = 0 then (if arV T = 0 then puI T 17 7 3 else T) else T
def edS (S : St) : St := edE (edT S)
theorem rb_in {S : St} {c : Nat} (hc : S.1 17 2 = nI c) (hc2 : c ≤ 3000) (h : ¬ rbW S = 0) : ∃ j : Nat, j < c ∧ S.1 17 3 >>> (3 &&& 31) = nI j := by
  unfold rbW at h
  rw [hc] at h
  rw [if_neg (nI_nlt (show c ≤ 3000 from hc2) (by decide))] at h
  exact wi_nat (by omega) h
set_option maxHeartbeats 4000000 in
set_option maxRecDepth 40000 in
theorem k_R_hasRoomFor {l : Launch} {h : Nat} {S : St} {n : Int32}  : KK l (SHm h) (0, 0) m_R_hasRoomFor [aR 17, aI n] S (ans (some (aI (hrR S n))) S) := by
  refine k_start ok_R_hasRoomFor (Nat.le_of_ble_eq_true rfl) ?_
  iterate 3 refine e_sp rfl rfl rfl ?_
  refine e_alen rfl (by first | rfl | assumption) (by decide) ?_
  iterate 3 refine e_sp rfl rfl rfl ?_
  refine e_icgt rfl (fun h1 => ?_) (fun h1 => ?_)
  · refine e_ci 0 rfl rfl ?_
    refine e_zret rfl rfl (Nat.le_refl _) (Nat.le_refl _) (by decide) ?_
    exact ⟨by simp [hrR, h1], rfl⟩
  · refine e_ci 1 rfl rfl ?_
    refine e_goto rfl ?_
    refine e_zret rfl rfl (Nat.le_refl _) (Nat.le_refl _) (by decide) ?_
    exact ⟨by simp [hrR, h1], rfl⟩
set_option maxHeartbeats 4000000 in
set_option maxRecDepth 40000 in
theorem k_R_take {l : Launch} {h : Nat} {S : St} {b : Int32}  : KK l (SHm h) (1, 22) m_R_take [aR 17, aI b] S (ans none (tkR S b)) := by
  refine k_start ok_R_take (Nat.le_of_ble_eq_true rfl) ?_
  iterate 2 refine e_sp rfl rfl rfl ?_
  refine e_ci 0 rfl rfl ?_
  iterate 2 refine e_sp rfl rfl rfl ?_
  refine e_alen rfl (by first | rfl | assumption) (by decide) ?_
  refine e_ci 1 rfl rfl ?_
  iterate 1 refine e_sp rfl rfl rfl ?_
  refine e_callN1 ok_H_isWithin rfl lk_R_26 k_H_isWithin rfl rfl ⟨Nat.le_of_ble_eq_true rfl, Nat.le_of_ble_eq_true rfl⟩ ⟨Nat.zero_le _, Nat.zero_le _⟩ (Nat.le_of_ble_eq_true rfl) ?_
  refine e_ifeq rfl (fun h1 => ?_) (fun h1 => ?_)
  · refine e_vret rfl rfl (Nat.le_refl _) (Nat.le_refl _) ?_
    exact ⟨rfl, by simp only [tkR, h1, if_true, if_false]; try rfl⟩
  · iterate 6 refine e_sp rfl rfl rfl ?_
    refine e_bast rfl (by first | rfl | assumption) (by exact wi_in (by decide) (by assumption)) ?_
    iterate 3 refine e_sp rfl rfl rfl ?_
    refine e_ci 1 rfl rfl ?_
    iterate 2 refine e_sp rfl rfl rfl ?_
    refine e_vret rfl rfl (Nat.le_refl _) (Nat.le_refl _) ?_
    exact ⟨rfl, by simp only [tkR, h1, if_true, if_false]; try rfl⟩
set_option maxHeartbeats 4000000 in
set_option maxRecDepth 40000 in
theorem k_R_forgetBytes {l : Launch} {h : Nat} {S : St}  : KK l (SHm h) (0, 0) m_R_forgetBytes [aR 17] S (ans none (puI S 17 2 0)) := by
  refine k_start ok_R_forgetBytes (Nat.le_of_ble_eq_true rfl) ?_
  iterate 1 refine e_sp rfl rfl rfl ?_
  refine e_ci 0 rfl rfl ?_
  iterate 1 refine e_sp rfl rfl rfl ?_
  refine e_vret rfl rfl (Nat.le_refl _) (Nat.le_refl _) ?_
  exact ⟨rfl, rfl⟩
set_option maxHeartbeats 4000000 in
set_option maxRecDepth 40000 in
theorem k_R_begin {l : Launch} {h : Nat} {S : St} {n : Int32}  : KK l (SHm h) (1, 20) m_R_begin [aR 17, aI n] S (ans none (rgS S n)) := by
  refine k_start ok_R_begin (Nat.le_of_ble_eq_true rfl) ?_
  iterate 2 refine e_sp rfl rfl rfl ?_
  refine e_callV0 ok_P_begin rfl lk_R_30 (by rfl) (by rfl) k_P_begin_19 rfl rfl ⟨Nat.le_of_ble_eq_true rfl, Nat.le_of_ble_eq_true rfl⟩ ⟨Nat.zero_le _, Nat.zero_le _⟩ (Nat.le_of_ble_eq_true rfl) ?_
  iterate 1 refine e_sp rfl rfl rfl ?_
  refine e_ci 0 rfl rfl ?_
  iterate 5 refine e_sp rfl rfl rfl ?_
  refine e_ci (-1) rfl rfl ?_
  iterate 2 refine e_sp rfl rfl rfl ?_
  refine e_ci 0 rfl rfl ?_
  iterate 2 refine e_sp rfl rfl rfl ?_
  refine e_ci 0 rfl rfl ?_
  iterate 1 refine e_sp rfl rfl rfl ?_
  refine e_vret rfl rfl (Nat.le_refl _) (Nat.le_refl _) ?_
  exact ⟨rfl, rfl⟩
set_option maxHeartbeats 4000000 in
set_option maxRecDepth 40000 in
theorem k_R_readBit {l : Launch} {h : Nat} {S : St} {c : Nat} (hc : S.1 17 2 = nI c) (hc2 : c ≤ 3000) : KK l (SHm h) (1, 22) m_R_readBit [aR 17] S (ans (some (aI (rbV S))) (rbS S)) := by
  refine k_start ok_R_readBit (Nat.le_of_ble_eq_true rfl) ?_
  iterate 2 refine e_sp rfl rfl rfl ?_
  refine e_ci 3 rfl rfl ?_
  iterate 3 refine e_sp rfl rfl rfl ?_
  refine e_ci 0 rfl rfl ?_
  iterate 4 refine e_sp rfl rfl rfl ?_
  refine e_alen rfl (by first | rfl | assumption) (by decide) ?_
  refine e_mmin rfl mm_R_66 (Nat.le_of_ble_eq_true rfl) (Nat.le_of_ble_eq_true rfl) ⟨Nat.zero_le _, Nat.zero_le _⟩ ?_
  refine e_ci 1 rfl rfl ?_
  iterate 1 refine e_sp rfl rfl rfl ?_
  refine e_callN1 ok_H_isWithin rfl lk_R_26 k_H_isWithin rfl rfl ⟨Nat.le_of_ble_eq_true rfl, Nat.le_of_ble_eq_true rfl⟩ ⟨Nat.zero_le _, Nat.zero_le _⟩ (Nat.le_of_ble_eq_true rfl) ?_
  refine e_ifne rfl (fun h1 => ?_) (fun h1 => ?_)
  · iterate 3 refine e_sp rfl rfl rfl ?_
    refine e_bald rfl (by first | rfl | assumption) (by (obtain ⟨j, hj, e⟩ := rb_in hc hc2 (show ¬ rbW S = 0 by assumption); dsimp only; rw [e]; exact vp_in_nI (by omega) (by decide))) ?_
    refine e_cb 7 rfl rfl ?_
    iterate 2 refine e_sp rfl rfl rfl ?_
    refine e_cb 7 rfl rfl ?_
    iterate 3 refine e_sp rfl rfl rfl ?_
    refine e_ci 1 rfl rfl ?_
    iterate 5 refine e_sp rfl rfl rfl ?_
    refine e_ci 1 rfl rfl ?_
    iterate 3 refine e_sp rfl rfl rfl ?_
    refine e_iret rfl rfl (Nat.le_refl _) (Nat.le_refl _) ?_
    exact ⟨by simp only [rbV, (show rbW S = 0 ↔ _ from Iff.rfl), h1] <;> simp [rbW, h1], by simp [rbS, rbW, h1]⟩
  · iterate 1 refine e_sp rfl rfl rfl ?_
    refine e_ci 1 rfl rfl ?_
    iterate 1 refine e_sp rfl rfl rfl ?_
    refine e_ci 0 rfl rfl ?_
    refine e_iret rfl rfl (Nat.le_refl _) (Nat.le_refl _) ?_
    exact ⟨by simp only [rbV, (show rbW S = 0 ↔ _ from Iff.rfl), h1] <;> simp [rbW, h1], by simp [rbS, rbW, h1]⟩
set_option maxHeartbeats 4000000 in
set_option maxRecDepth 40000 in
theorem k_R_read {l : Launch} {h : Nat} {S : St} {c n : Nat} (hc : S.1 17 2 = nI c) (hc2 : c ≤ 3000) (hn : n < 2 ^ 31) : KK l (SHm h) (2, 44) m_R_read [aR 17, aI (nI n)] S (ans (some (aI (rdV S n))) (rdS S n)) := by
  refine k_start ok_R_read (Nat.le_of_ble_eq_true rfl) ?_
  have L := e_for (P := fun i => E0 l (SHm h) (2, 44) m_R_read 4 [some (aR 17), some (aI (nI n)), some (aI (rdV S i)), some (aI (nI i))] [] (rdS S i) (ans (some (aI (rdV S n))) (rdS S n))) (n) (by
      iterate 2 refine e_sp rfl rfl rfl ?_
      refine e_icge rfl (fun h1 => ?_) (fun h1 => ?_)
      · iterate 1 refine e_sp rfl rfl rfl ?_
        refine e_iret rfl rfl (Nat.le_refl _) (Nat.le_refl _) ?_
        exact ⟨rfl, rfl⟩
      · try dsimp only
        exact absurd (nI_le (Nat.le_refl _) hn) h1) (fun i hi ihi => by
      iterate 2 refine e_sp rfl rfl rfl ?_
      refine e_icge rfl (fun h1 => ?_) (fun h1 => ?_)
      · try dsimp only
        exact absurd h1 (nI_ge hi hn)
      · iterate 1 refine e_sp rfl rfl rfl ?_
        refine e_ci 1 rfl rfl ?_
        iterate 2 refine e_sp rfl rfl rfl ?_
        refine e_callV1 ok_R_readBit rfl lk_R_55 (by rfl) (by rfl) (k_R_readBit ((rdS_came S i).trans hc) hc2) rfl rfl ⟨Nat.le_of_ble_eq_true rfl, Nat.le_of_ble_eq_true rfl⟩ ⟨Nat.zero_le _, Nat.zero_le _⟩ (Nat.le_of_ble_eq_true rfl) ?_
        iterate 2 refine e_sp rfl rfl rfl ?_
        refine e_inc 1 rfl rfl rfl rfl ?_
        refine e_goto rfl ?_
        try dsimp only
        rw [nI_1]
        exact ihi)
  refine e_ci 0 rfl rfl ?_
  iterate 1 refine e_sp rfl rfl rfl ?_
  refine e_ci 0 rfl rfl ?_
  iterate 1 refine e_sp rfl rfl rfl ?_
  try dsimp only
  exact L
set_option maxHeartbeats 4000000 in
set_option maxRecDepth 40000 in
theorem k_R_readRunT {l : Launch} {h : Nat} {T : St} {c on kk : Nat} (hT : T.1 17 2 = nI c) (hc2 : c ≤ 3000) (hkk : kk ≤ 8) (z : Option AV) : E0 l (SHm h) (3, 67) m_R_readRun 30 [some (aR 17), some (aI (nI kk)), some (aI (nI on)), z] [] T (ans none (rrE T on kk)) := by
  iterate 1 refine e_sp rfl rfl rfl ?_
  refine e_cb 12 rfl rfl ?_
  refine e_icge rfl (fun h1 => ?_) (fun h1 => ?_)
  · rw [show rrE T on kk = rrF (rdS T 13) (rdV T 13) from if_pos h1]
    iterate 1 refine e_sp rfl rfl rfl ?_
    refine e_cb 13 rfl rfl ?_
    refine e_callV1 ok_R_read rfl lk_R_58 (by rfl) (by rfl) (k_R_read (n := 13) hT hc2 (by decide)) rfl rfl ⟨Nat.le_of_ble_eq_true rfl, Nat.le_of_ble_eq_true rfl⟩ ⟨Nat.zero_le _, Nat.zero_le _⟩ (Nat.le_of_ble_eq_true rfl) ?_
    generalize rdS T 13 = T2
    generalize rdV T 13 = rv
    iterate 3 refine e_sp rfl rfl rfl ?_
    refine e_ifeq rfl (fun h2 => ?_) (fun h2 => ?_)
    · iterate 3 refine e_sp rfl rfl rfl ?_
      refine e_ci 1 rfl rfl ?_
      iterate 5 refine e_sp rfl rfl rfl ?_
      refine e_icle rfl (fun h3 => ?_) (fun h3 => ?_)
      · iterate 6 refine e_sp rfl rfl rfl ?_
        refine e_callV0 ok_P_learn rfl lk_R_62 (by rfl) (by rfl) k_P_learn_19 rfl rfl ⟨Nat.le_of_ble_eq_true rfl, Nat.le_of_ble_eq_true rfl⟩ ⟨Nat.zero_le _, Nat.zero_le _⟩ (Nat.le_of_ble_eq_true rfl) ?_
        refine e_vret rfl rfl (Nat.le_refl _) (Nat.le_refl _) ?_
        exact ⟨rfl, by simp only [rrF, h2, h3, if_true, if_false]⟩
      · iterate 1 refine e_sp rfl rfl rfl ?_
        refine e_ci 2 rfl rfl ?_
        iterate 1 refine e_sp rfl rfl rfl ?_
        refine e_vret rfl rfl (Nat.le_refl _) (Nat.le_refl _) ?_
        exact ⟨rfl, by simp only [rrF, h2, h3, if_true, if_false]⟩
    · refine e_vret rfl rfl (Nat.le_refl _) (Nat.le_refl _) ?_
      exact ⟨rfl, by simp only [rrF, h2, if_true, if_false]⟩
  · rw [show rrE T on kk = rrF (rdS T kk) (nI on <<< (nI kk &&& 31) ||| rdV T kk) from if_neg h1]
    iterate 5 refine e_sp rfl rfl rfl ?_
    refine e_callV1 ok_R_read rfl lk_R_58 (by rfl) (by rfl) (k_R_read hT hc2 (Nat.lt_of_le_of_lt hkk (by decide))) rfl rfl ⟨Nat.le_of_ble_eq_true rfl, Nat.le_of_ble_eq_true rfl⟩ ⟨Nat.zero_le _, Nat.zero_le _⟩ (Nat.le_of_ble_eq_true rfl) ?_
    generalize rdS T kk = T2
    generalize rdV T kk = rv
    iterate 1 refine e_sp rfl rfl rfl ?_
    refine e_goto rfl ?_
    iterate 3 refine e_sp rfl rfl rfl ?_
    refine e_ifeq rfl (fun h4 => ?_) (fun h4 => ?_)
    · iterate 3 refine e_sp rfl rfl rfl ?_
      refine e_ci 1 rfl rfl ?_
      iterate 5 refine e_sp rfl rfl rfl ?_
      refine e_icle rfl (fun h5 => ?_) (fun h5 => ?_)
      · iterate 6 refine e_sp rfl rfl rfl ?_
        refine e_callV0 ok_P_learn rfl lk_R_62 (by rfl) (by rfl) k_P_learn_19 rfl rfl ⟨Nat.le_of_ble_eq_true rfl, Nat.le_of_ble_eq_true rfl⟩ ⟨Nat.zero_le _, Nat.zero_le _⟩ (Nat.le_of_ble_eq_true rfl) ?_
        refine e_vret rfl rfl (Nat.le_refl _) (Nat.le_refl _) ?_
        exact ⟨rfl, by simp only [rrF, h4, h5, if_true, if_false]⟩
      · iterate 1 refine e_sp rfl rfl rfl ?_
        refine e_ci 2 rfl rfl ?_
        iterate 1 refine e_sp rfl rfl rfl ?_
        refine e_vret rfl rfl (Nat.le_refl _) (Nat.le_refl _) ?_
        exact ⟨rfl, by simp only [rrF, h4, h5, if_true, if_false]⟩
    · refine e_vret rfl rfl (Nat.le_refl _) (Nat.le_refl _) ?_
      exact ⟨rfl, by simp only [rrF, h4, if_true, if_false]⟩
set_option maxHeartbeats 4000000 in
set_option maxRecDepth 40000 in
theorem k_R_readRun {l : Launch} {h : Nat} {S : St} {c : Nat} (hc : S.1 17 2 = nI c) (hc2 : c ≤ 3000) : KK l (SHm h) (3, 67) m_R_readRun [aR 17] S (ans none (rrS S)) := by
  refine k_start ok_R_readRun (Nat.le_of_ble_eq_true rfl) ?_
  have hS : rrS S = rrE (onS 12 S) (onC 12 S) (lowK (S.1 19 1) (S.1 19 0) 8 0) := rfl
  rw [hS]
  have hk8 : (lowK (S.1 19 1) (S.1 19 0) 8 0) ≤ 8 := lowK_le _ _ 8 0
  have h12 := onS_came 12 S
  rw [hc] at h12
  have L : ∀ (T0 : St) (on0 kk f i : Nat) (T : St), T0.1 17 2 = nI c → kk ≤ 8 → i + f = 12 → T.1 17 2 = nI c → onS f T = T0 → i + onC f T = on0 → ∀ z, E0 l (SHm h) (3, 67) m_R_readRun 10 [some (aR 17), some (aI (nI kk)), some (aI (nI i)), z] [] T (ans none (rrE T0 on0 kk)) := by
    intro T0 on0 kk f
    induction f with
    | zero =>
      intro i T hT0 hkk hi hT e1 e2 z
      have hi12 : i = 12 := by omega
      iterate 1 refine e_sp rfl rfl rfl ?_
      refine e_cb 12 rfl rfl ?_
      refine e_icge rfl (fun h1 => ?_) (fun h1 => absurd (by rw [hi12]; decide) h1)
      have e3 : T = T0 := e1
      have e4 : i = on0 := e2
      rw [e3, e4]
      exact k_R_readRunT hT0 hc2 hkk z
    | succ f ih =>
      intro i T hT0 hkk hi hT e1 e2 z
      iterate 1 refine e_sp rfl rfl rfl ?_
      refine e_cb 12 rfl rfl ?_
      refine e_icge rfl (fun h1 => absurd h1 (nI_ge (show i < 12 by omega) (by decide))) (fun h1 => ?_)
      iterate 1 refine e_sp rfl rfl rfl ?_
      refine e_callV1 ok_R_readBit rfl lk_R_55 (by rfl) (by rfl) (k_R_readBit hT hc2) rfl rfl ⟨Nat.le_of_ble_eq_true rfl, Nat.le_of_ble_eq_true rfl⟩ ⟨Nat.zero_le _, Nat.zero_le _⟩ (Nat.le_of_ble_eq_true rfl) ?_
      refine e_ci 1 rfl rfl ?_
      refine e_icne rfl (fun h2 => ?_) (fun h2 => ?_)
      · simp only [onS, onC, h2, if_false, Nat.add_zero] at e1 e2
        rw [e1, e2]
        exact k_R_readRunT hT0 hc2 hkk z
      · simp only [onS, onC, h2, if_true] at e1 e2
        refine e_inc 1 rfl rfl rfl rfl ?_
        refine e_goto rfl ?_
        rw [nI_1]
        exact ih (i + 1) (rbS T) hT0 hkk (by omega) ((rbS_came T).trans hT) e1 (by omega) z
  iterate 2 refine e_sp rfl rfl rfl ?_
  refine e_callV1 ok_P_lowBits rfl lk_R_51 (by rfl) (by rfl) k_P_lowBits_19 rfl rfl ⟨Nat.le_of_ble_eq_true rfl, Nat.le_of_ble_eq_true rfl⟩ ⟨Nat.zero_le _, Nat.zero_le _⟩ (Nat.le_of_ble_eq_true rfl) ?_
  iterate 1 refine e_sp rfl rfl rfl ?_
  refine e_ci 0 rfl rfl ?_
  iterate 1 refine e_sp rfl rfl rfl ?_
  exact L (onS 12 S) (onC 12 S) (lowK (S.1 19 1) (S.1 19 0) 8 0) 12 0 S h12 hk8 rfl hc rfl (Nat.zero_add _) none
set_option maxHeartbeats 4000000 in
set_option maxRecDepth 40000 in
theorem k_R_nextBit {l : Launch} {h : Nat} {S : St} {c : Nat} {f : Int32} (hc : S.1 17 2 = nI c) (hc2 : c ≤ 3000) : KK l (SHm h) (4, 90) m_R_nextBit [aR 17, aI f] S (ans (some (aI (nbV S f))) (nbS S)) := by
  refine k_start ok_R_nextBit (Nat.le_of_ble_eq_true rfl) ?_
  iterate 2 refine e_sp rfl rfl rfl ?_
  refine e_ci (-1) rfl rfl ?_
  refine e_icne rfl (fun h1 => ?_) (fun h1 => ?_)
  · simp only [nbV, nbS, nbT, h1, if_true, if_false]
    try generalize rrS S = T
    iterate 2 refine e_sp rfl rfl rfl ?_
    refine e_ifeq rfl (fun h2 => ?_) (fun h2 => ?_)
    · iterate 3 refine e_sp rfl rfl rfl ?_
      refine e_ci 1 rfl rfl ?_
      iterate 5 refine e_sp rfl rfl rfl ?_
      refine e_ci 1 rfl rfl ?_
      iterate 4 refine e_sp rfl rfl rfl ?_
      refine e_ci (-1) rfl rfl ?_
      refine e_icne rfl (fun h3 => ?_) (fun h3 => ?_)
      · iterate 1 refine e_sp rfl rfl rfl ?_
        refine e_iret rfl rfl (Nat.le_refl _) (Nat.le_refl _) ?_
        exact ⟨by simp only [nbE, nbU, h2, h3, if_true, if_false], by simp only [nbG, nbU, h2, h3, if_true, if_false]⟩
      · refine e_ci 1 rfl rfl ?_
        iterate 2 refine e_sp rfl rfl rfl ?_
        refine e_goto rfl ?_
        refine e_iret rfl rfl (Nat.le_refl _) (Nat.le_refl _) ?_
        exact ⟨by simp only [nbE, nbU, h2, h3, if_true, if_false], by simp only [nbG, nbU, h2, h3, if_true, if_false]⟩
    · refine e_ci 0 rfl rfl ?_
      refine e_iret rfl rfl (Nat.le_refl _) (Nat.le_refl _) ?_
      exact ⟨by simp only [nbE, nbU, h2, if_true, if_false], by simp only [nbG, nbU, h2, if_true, if_false]⟩
  · iterate 1 refine e_sp rfl rfl rfl ?_
    refine e_callV0 ok_R_readRun rfl lk_R_48 (by rfl) (by rfl) (k_R_readRun hc hc2) rfl rfl ⟨Nat.le_of_ble_eq_true rfl, Nat.le_of_ble_eq_true rfl⟩ ⟨Nat.zero_le _, Nat.zero_le _⟩ (Nat.le_of_ble_eq_true rfl) ?_
    simp only [nbV, nbS, nbT, h1, if_true, if_false]
    try generalize rrS S = T
    iterate 2 refine e_sp rfl rfl rfl ?_
    refine e_ifeq rfl (fun h4 => ?_) (fun h4 => ?_)
    · iterate 3 refine e_sp rfl rfl rfl ?_
      refine e_ci 1 rfl rfl ?_
      iterate 5 refine e_sp rfl rfl rfl ?_
      refine e_ci 1 rfl rfl ?_
      iterate 4 refine e_sp rfl rfl rfl ?_
      refine e_ci (-1) rfl rfl ?_
      refine e_icne rfl (fun h5 => ?_) (fun h5 => ?_)
      · iterate 1 refine e_sp rfl rfl rfl ?_
        refine e_iret rfl rfl (Nat.le_refl _) (Nat.le_refl _) ?_
        exact ⟨by simp only [nbE, nbU, h4, h5, if_true, if_false], by simp only [nbG, nbU, h4, h5, if_true, if_false]⟩
      · refine e_ci 1 rfl rfl ?_
        iterate 2 refine e_sp rfl rfl rfl ?_
        refine e_goto rfl ?_
        refine e_iret rfl rfl (Nat.le_refl _) (Nat.le_refl _) ?_
        exact ⟨by simp only [nbE, nbU, h4, h5, if_true, if_false], by simp only [nbG, nbU, h4, h5, if_true, if_false]⟩
    · refine e_ci 0 rfl rfl ?_
      refine e_iret rfl rfl (Nat.le_refl _) (Nat.le_refl _) ?_
      exact ⟨by simp only [nbE, nbU, h4, if_true, if_false], by simp only [nbG, nbU, h4, if_true, if_false]⟩
set_option maxHeartbeats 4000000 in
set_option maxRecDepth 40000 in
theorem k_R_isAllRead {l : Launch} {h : Nat} {S : St}  : KK l (SHm h) (1, 22) m_R_isAllRead [aR 17] S (ans (some (aI (arV S))) S) := by
  refine k_start ok_R_isAllRead (Nat.le_of_ble_eq_true rfl) ?_
  iterate 2 refine e_sp rfl rfl rfl ?_
  refine e_cb 7 rfl rfl ?_
  iterate 1 refine e_sp rfl rfl rfl ?_
  refine e_ci 3 rfl rfl ?_
  iterate 3 refine e_sp rfl rfl rfl ?_
  refine e_ci 1 rfl rfl ?_
  iterate 5 refine e_sp rfl rfl rfl ?_
  refine e_iclt rfl (fun h1 => ?_) (fun h1 => ?_)
  · refine e_ci 0 rfl rfl ?_
    refine e_zret rfl rfl (Nat.le_refl _) (Nat.le_refl _) (by decide) ?_
    exact ⟨by simp [arV, arD, h1], rfl⟩
  · iterate 1 refine e_sp rfl rfl rfl ?_
    refine e_ci 0 rfl rfl ?_
    iterate 2 refine e_sp rfl rfl rfl ?_
    refine e_alen rfl (by first | rfl | assumption) (by decide) ?_
    refine e_ci 1 rfl rfl ?_
    iterate 1 refine e_sp rfl rfl rfl ?_
    refine e_callN1 ok_H_isWithin rfl lk_R_26 k_H_isWithin rfl rfl ⟨Nat.le_of_ble_eq_true rfl, Nat.le_of_ble_eq_true rfl⟩ ⟨Nat.zero_le _, Nat.zero_le _⟩ (Nat.le_of_ble_eq_true rfl) ?_
    refine e_ifne rfl (fun h2 => ?_) (fun h2 => ?_)
    · iterate 1 refine e_sp rfl rfl rfl ?_
      refine e_ci 3 rfl rfl ?_
      iterate 8 refine e_sp rfl rfl rfl ?_
      refine e_bald rfl (by first | rfl | assumption) (by exact wi_in (by decide) (by assumption)) ?_
      refine e_ci 1 rfl rfl ?_
      iterate 2 refine e_sp rfl rfl rfl ?_
      refine e_ci 1 rfl rfl ?_
      iterate 2 refine e_sp rfl rfl rfl ?_
      refine e_ifne rfl (fun h3 => ?_) (fun h3 => ?_)
      · refine e_ci 0 rfl rfl ?_
        refine e_zret rfl rfl (Nat.le_refl _) (Nat.le_refl _) (by decide) ?_
        exact ⟨by simp [arV, arD, h1, h2, h3], rfl⟩
      · refine e_ci 1 rfl rfl ?_
        refine e_goto rfl ?_
        refine e_zret rfl rfl (Nat.le_refl _) (Nat.le_refl _) (by decide) ?_
        exact ⟨by simp [arV, arD, h1, h2, h3], rfl⟩
    · refine e_ci 0 rfl rfl ?_
      refine e_zret rfl rfl (Nat.le_refl _) (Nat.le_refl _) (by decide) ?_
      exact ⟨by simp [arV, arD, h1, h2], rfl⟩
set_option maxHeartbeats 4000000 in
set_option maxRecDepth 40000 in
theorem k_R_endT {l : Launch} {h : Nat} {T : St} : E0 l (SHm h) (4, 90) m_R_end 19 [some (aR 17)] [] T (ans none (edE T)) := by
  iterate 2 refine e_sp rfl rfl rfl ?_
  refine e_ifne rfl (fun h1 => ?_) (fun h1 => ?_)
  · refine e_vret rfl rfl (Nat.le_refl _) (Nat.le_refl _) ?_
    exact ⟨rfl, by simp only [edE, h1, if_true, if_false]⟩
  · iterate 1 refine e_sp rfl rfl rfl ?_
    refine e_callV1 ok_R_isAllRead rfl lk_R_72 (by rfl) (by rfl) k_R_isAllRead rfl rfl ⟨Nat.le_of_ble_eq_true rfl, Nat.le_of_ble_eq_true rfl⟩ ⟨Nat.zero_le _, Nat.zero_le _⟩ (Nat.le_of_ble_eq_true rfl) ?_
    refine e_ifne rfl (fun h2 => ?_) (fun h2 => ?_)
    · refine e_vret rfl rfl (Nat.le_refl _) (Nat.le_refl _) ?_
      exact ⟨rfl, by simp only [edE, h1, h2, if_true, if_false]⟩
    · iterate 1 refine e_sp rfl rfl rfl ?_
      refine e_ci 3 rfl rfl ?_
      iterate 1 refine e_sp rfl rfl rfl ?_
      refine e_vret rfl rfl (Nat.le_refl _) (Nat.le_refl _) ?_
      exact ⟨rfl, by simp only [edE, h1, h2, if_true, if_false]⟩
set_option maxHeartbeats 4000000 in
set_option maxRecDepth 40000 in
theorem k_R_end {l : Launch} {h : Nat} {S : St} {c : Nat} (hc : S.1 17 2 = nI c) (hc2 : c ≤ 3000) : KK l (SHm h) (4, 90) m_R_end [aR 17] S (ans none (edS S)) := by
  refine k_start ok_R_end (Nat.le_of_ble_eq_true rfl) ?_
  iterate 2 refine e_sp rfl rfl rfl ?_
  refine e_ifne rfl (fun h1 => ?_) (fun h1 => ?_)
  · try dsimp only
    simp only [edS, edT, h1, if_true, if_false]
    try generalize rrS S = T
    exact k_R_endT
  · iterate 2 refine e_sp rfl rfl rfl ?_
    refine e_ci (-1) rfl rfl ?_
    refine e_icne rfl (fun h2 => ?_) (fun h2 => ?_)
    · try dsimp only
      simp only [edS, edT, h1, h2, if_true, if_false]
      try generalize rrS S = T
      exact k_R_endT
    · iterate 1 refine e_sp rfl rfl rfl ?_
      refine e_callV0 ok_R_readRun rfl lk_R_48 (by rfl) (by rfl) (k_R_readRun hc hc2) rfl rfl ⟨Nat.le_of_ble_eq_true rfl, Nat.le_of_ble_eq_true rfl⟩ ⟨Nat.zero_le _, Nat.zero_le _⟩ (Nat.le_of_ble_eq_true rfl) ?_
      try dsimp only
      simp only [edS, edT, h1, h2, if_true, if_false]
      try generalize rrS S = T
      exact k_R_endT
