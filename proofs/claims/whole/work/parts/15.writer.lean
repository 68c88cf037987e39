theorem e_st {l : Launch} {B : List Sh} {R : Room} {y : Mt} {Zf : ZF} {kc ks pc : Nat} {lv : List (Option AV)} {st : List AV} {S S2 : St} (h : S = S2) (k : EE l B R y Zf kc ks pc lv st S2) : EE l B R y Zf kc ks pc lv st S := h ▸ k
/-! RunWriter -/
def lowK (nb sm : Int32) : Nat → Nat → Nat
  | 0, i => i
  | f + 1, i => if sm ≤ nb <<< (nI i &&& 31) then i else lowK nb sm f (i + 1)
theorem lowK_le (nb sm : Int32) : ∀ f i, lowK nb sm f i ≤ i + f
  | 0, i => Nat.le_refl _
  | f + 1, i => by
    simp only [lowK]
    split
    · omega
    · have := lowK_le nb sm f (i + 1); omega
def wbS (S : St) : St := puI (puI (puI (puI (puI (flI S 15 (vp_nar .byte 0) 384) 16 0 4) 16 1 1) 14 2 0) 14 3 0) 14 4 0
def wr1 (S : St) (v b : Int32) : St := if wi (S.1 14 2 >>> (3 &&& 31)) 0 (nI 384 - 1) = 0 then S else
  puI (puI S 15 (S.1 14 2 >>> (3 &&& 31)).toNatClampNeg (vp_nar .byte (S.1 15 (S.1 14 2 >>> (3 &&& 31)).toNatClampNeg ||| (v >>> (b &&& 31) &&& 1) <<< ((7 - (S.1 14 2 &&& 7)) &&& 31)).toInt8.toInt32)) 14 2 (S.1 14 2 + 1)
def wrS (v : Int32) : Nat → St → St
  | 0, S => S
  | n + 1, S => wrS v n (wr1 S v (nI n))
def fiW (S : St) : St := puI (puI (pacN_16 S (S.1 14 3)) 14 3 0) 14 4 ((puI (pacN_16 S (S.1 14 3)) 14 3 0).1 14 4 + 1)
/-- the end of a run of r bits -/
def enW (S : St) (r : Nat) : St :=
  if 12 ≤ nI (r / 2 ^ lowK (S.1 16 1) (S.1 16 0) 8 0) then fiW (wrS ((wrS 4095 12 S).1 14 3) 13 (wrS 4095 12 S))
  else fiW (wrS ((wrS (((1 <<< (nI (r / 2 ^ lowK (S.1 16 1) (S.1 16 0) 8 0) &&& 31)) - 1) <<< (1 &&& 31)) (r / 2 ^ lowK (S.1 16 1) (S.1 16 0) 8 0 + 1) S).1 14 3) (lowK (S.1 16 1) (S.1 16 0) 8 0) (wrS (((1 <<< (nI (r / 2 ^ lowK (S.1 16 1) (S.1 16 0) 8 0) &&& 31)) - 1) <<< (1 &&& 31)) (r / 2 ^ lowK (S.1 16 1) (S.1 16 0) 8 0 + 1) S))
def teW (S : St) (v : Int32) : St := if v = 0 then enW S (S.1 14 3).toNatClampNeg else puI S 14 3 (S.1 14 3 + 1)
theorem nI_tn {x : Int32} (h : ¬ x < 0) : x = nI x.toNatClampNeg ∧ x.toNatClampNeg < 2 ^ 31 := by
  obtain ⟨j, hj, rfl⟩ := nI_of h
  rw [nI_clamp hj]
  exact ⟨rfl, hj⟩
def szW (S : St) : Int32 := (S.1 14 2 + 7) >>> (3 &&& 31)
def mdW (S : St) (i : Int32) : Int32 := if wi i 0 (nI 384 - 1) = 0 then 0 else S.1 15 i.toNatClampNeg &&& 255
theorem shr_k {r : Nat} (hr : r < 2 ^ 31) : ∀ k, k ≤ 8 → nI r >>> (nI k &&& 31) = nI (r / 2 ^ k) := by
  intro k hk
  have h : ∀ k, k ≤ 8 → ((nI k &&& 31).toBitVec.smod 32).toNat = k := by decide
  exact pk_shrN hr _ k (h k hk)
set_option maxHeartbeats 4000000 in
set_option maxRecDepth 40000 in
theorem k_P_lowBits_16 {l : Launch} {h : Nat} {S : St} : KK l (SHm h) (0, 0) m_P_lowBits [aR 16] S (ans (some (aI (nI (lowK (S.1 16 1) (S.1 16 0) 8 0)))) S) := by
  refine k_start ok_P_lowBits (Nat.le_of_ble_eq_true rfl) ?_
  have L : ∀ (f i : Nat), i + f = 8 → E0 l (SHm h) (0, 0) m_P_lowBits 2 [some (aR 16), some (aI (nI i))] [] S (ans (some (aI (nI (lowK (S.1 16 1) (S.1 16 0) f i)))) S) := by
    intro f
    induction f with
    | zero =>
      intro i hi
      have hi8 : i = 8 := by omega
      subst hi8
      iterate 1 refine e_sp rfl rfl rfl ?_
      refine e_cb 8 rfl rfl ?_
      refine e_icge rfl (fun h1 => ?_) (fun h1 => absurd (by decide) h1)
      iterate 1 refine e_sp rfl rfl rfl ?_
      refine e_iret rfl rfl (Nat.le_refl _) (Nat.le_refl _) ?_
      exact ⟨rfl, rfl⟩
    | succ f ih =>
      intro i hi
      iterate 1 refine e_sp rfl rfl rfl ?_
      refine e_cb 8 rfl rfl ?_
      refine e_icge rfl (fun h1 => absurd h1 (nI_ge (show i < 8 by omega) (by decide))) (fun h1 => ?_)
      iterate 6 refine e_sp rfl rfl rfl ?_
      refine e_icge rfl (fun h2 => ?_) (fun h2 => ?_)
      · iterate 1 refine e_sp rfl rfl rfl ?_
        refine e_iret rfl rfl (Nat.le_refl _) (Nat.le_refl _) ?_
        exact ⟨by simp [lowK, h2], rfl⟩
      · refine e_inc 1 rfl rfl rfl rfl ?_
        refine e_goto rfl ?_
        rw [nI_1]
        have e9 := ih (i + 1) (by omega)
        rw [show lowK (S.1 16 1) (S.1 16 0) f (i + 1) = lowK (S.1 16 1) (S.1 16 0) (f + 1) i by simp [lowK, h2]] at e9
        exact e9
  refine e_ci 0 rfl rfl ?_
  iterate 1 refine e_sp rfl rfl rfl ?_
  exact L 8 0 rfl
set_option maxHeartbeats 4000000 in
set_option maxRecDepth 40000 in
theorem k_P_lowBits_19 {l : Launch} {h : Nat} {S : St} : KK l (SHm h) (0, 0) m_P_lowBits [aR 19] S (ans (some (aI (nI (lowK (S.1 19 1) (S.1 19 0) 8 0)))) S) := by
  refine k_start ok_P_lowBits (Nat.le_of_ble_eq_true rfl) ?_
  have L : ∀ (f i : Nat), i + f = 8 → E0 l (SHm h) (0, 0) m_P_lowBits 2 [some (aR 19), some (aI (nI i))] [] S (ans (some (aI (nI (lowK (S.1 19 1) (S.1 19 0) f i)))) S) := by
    intro f
    induction f with
    | zero =>
      intro i hi
      have hi8 : i = 8 := by omega
      subst hi8
      iterate 1 refine e_sp rfl rfl rfl ?_
      refine e_cb 8 rfl rfl ?_
      refine e_icge rfl (fun h1 => ?_) (fun h1 => absurd (by decide) h1)
      iterate 1 refine e_sp rfl rfl rfl ?_
      refine e_iret rfl rfl (Nat.le_refl _) (Nat.le_refl _) ?_
      exact ⟨rfl, rfl⟩
    | succ f ih =>
      intro i hi
      iterate 1 refine e_sp rfl rfl rfl ?_
      refine e_cb 8 rfl rfl ?_
      refine e_icge rfl (fun h1 => absurd h1 (nI_ge (show i < 8 by omega) (by decide))) (fun h1 => ?_)
      iterate 6 refine e_sp rfl rfl rfl ?_
      refine e_icge rfl (fun h2 => ?_) (fun h2 => ?_)
      · iterate 1 refine e_sp rfl rfl rfl ?_
        refine e_iret rfl rfl (Nat.le_refl _) (Nat.le_refl _) ?_
        exact ⟨by simp [lowK, h2], rfl⟩
      · refine e_inc 1 rfl rfl rfl rfl ?_
        refine e_goto rfl ?_
        rw [nI_1]
        have e9 := ih (i + 1) (by omega)
        rw [show lowK (S.1 19 1) (S.1 19 0) f (i + 1) = lowK (S.1 19 1) (S.1 19 0) (f + 1) i by simp [lowK, h2]] at e9
        exact e9
  refine e_ci 0 rfl rfl ?_
  iterate 1 refine e_sp rfl rfl rfl ?_
  exact L 8 0 rfl
set_option maxHeartbeats 4000000 in
set_option maxRecDepth 40000 in
theorem k_W_begin {l : Launch} {h : Nat} {S : St}  : KK l (SHm h) (1, 23) m_W_begin [aR 14] S (ans none (wbS S)) := by
  refine k_start ok_W_begin (Nat.le_of_ble_eq_true rfl) ?_
  iterate 2 refine e_sp rfl rfl rfl ?_
  refine e_ci 0 rfl rfl ?_
  refine e_callS0 ok_JA_fill0 rfl lk_W_22 (k_JA_fill0 (by rfl) (by decide)) rfl rfl ⟨Nat.le_of_ble_eq_true rfl, Nat.le_of_ble_eq_true rfl⟩ ⟨Nat.zero_le _, Nat.zero_le _⟩ (Nat.le_of_ble_eq_true rfl) ?_
  iterate 2 refine e_sp rfl rfl rfl ?_
  refine e_callV0 ok_P_begin rfl lk_W_28 (by rfl) (by rfl) k_P_begin_16 rfl rfl ⟨Nat.le_of_ble_eq_true rfl, Nat.le_of_ble_eq_true rfl⟩ ⟨Nat.zero_le _, Nat.zero_le _⟩ (Nat.le_of_ble_eq_true rfl) ?_
  iterate 1 refine e_sp rfl rfl rfl ?_
  refine e_ci 0 rfl rfl ?_
  iterate 2 refine e_sp rfl rfl rfl ?_
  refine e_ci 0 rfl rfl ?_
  iterate 2 refine e_sp rfl rfl rfl ?_
  refine e_ci 0 rfl rfl ?_
  iterate 1 refine e_sp rfl rfl rfl ?_
  refine e_vret rfl rfl (Nat.le_refl _) (Nat.le_refl _) ?_
  exact ⟨rfl, rfl⟩
set_option maxHeartbeats 4000000 in
set_option maxRecDepth 40000 in
theorem k_W_size {l : Launch} {h : Nat} {S : St}  : KK l (SHm h) (0, 0) m_W_size [aR 14] S (ans (some (aI (szW S))) S) := by
  refine k_start ok_W_size (Nat.le_of_ble_eq_true rfl) ?_
  iterate 2 refine e_sp rfl rfl rfl ?_
  refine e_cb 7 rfl rfl ?_
  iterate 1 refine e_sp rfl rfl rfl ?_
  refine e_ci 3 rfl rfl ?_
  iterate 1 refine e_sp rfl rfl rfl ?_
  refine e_iret rfl rfl (Nat.le_refl _) (Nat.le_refl _) ?_
  exact ⟨rfl, rfl⟩
set_option maxHeartbeats 4000000 in
set_option maxRecDepth 40000 in
theorem k_W_made {l : Launch} {h : Nat} {S : St} {i : Int32}  : KK l (SHm h) (1, 22) m_W_made [aR 14, aI i] S (ans (some (aI (mdW S i))) S) := by
  refine k_start ok_W_made (Nat.le_of_ble_eq_true rfl) ?_
  iterate 1 refine e_sp rfl rfl rfl ?_
  refine e_ci 0 rfl rfl ?_
  iterate 2 refine e_sp rfl rfl rfl ?_
  refine e_alen rfl (by first | rfl | assumption) (by decide) ?_
  refine e_ci 1 rfl rfl ?_
  iterate 1 refine e_sp rfl rfl rfl ?_
  refine e_callN1 ok_H_isWithin rfl lk_W_56 k_H_isWithin rfl rfl ⟨Nat.le_of_ble_eq_true rfl, Nat.le_of_ble_eq_true rfl⟩ ⟨Nat.zero_le _, Nat.zero_le _⟩ (Nat.le_of_ble_eq_true rfl) ?_
  refine e_ifeq rfl (fun h1 => ?_) (fun h1 => ?_)
  · refine e_ci 0 rfl rfl ?_
    refine e_iret rfl rfl (Nat.le_refl _) (Nat.le_refl _) ?_
    exact ⟨by simp [mdW, h1], rfl⟩
  · iterate 3 refine e_sp rfl rfl rfl ?_
    refine e_bald rfl (by first | rfl | assumption) (by exact wi_in (by decide) (by assumption)) ?_
    refine e_cs 255 rfl rfl ?_
    iterate 1 refine e_sp rfl rfl rfl ?_
    refine e_goto rfl ?_
    refine e_iret rfl rfl (Nat.le_refl _) (Nat.le_refl _) ?_
    exact ⟨by simp [mdW, h1], rfl⟩
set_option maxHeartbeats 4000000 in
set_option maxRecDepth 40000 in
theorem k_W_write {l : Launch} {h : Nat} {S : St} {v : Int32} {n : Nat} (hn : n ≤ 31) : KK l (SHm h) (1, 22) m_W_write [aR 14, aI v, aI (nI n)] S (ans none (wrS v n S)) := by
  refine k_start ok_W_write (Nat.le_of_ble_eq_true rfl) ?_
  have L : ∀ (w : Int32) (n : Nat), n ≤ 31 → ∀ (S : St) (z : Option AV), E0 l (SHm h) (1, 22) m_W_write 4 [some (aR 14), some (aI v), some (aI w), some (aI (nI n - 1)), z] [] S (ans none (wrS v n S)) := by
    intro w n
    induction n with
    | zero =>
      intro _ S z
      iterate 1 refine e_sp rfl rfl rfl ?_
      refine e_iflt rfl (fun h1 => ?_) (fun h1 => ?_)
      · refine e_vret rfl rfl (Nat.le_refl _) (Nat.le_refl _) ?_
        exact ⟨rfl, rfl⟩
      · try dsimp only
        exact absurd (by decide) h1
    | succ n ih =>
      intro hn S z
      iterate 1 refine e_sp rfl rfl rfl ?_
      refine e_iflt rfl (fun h1 => ?_) (fun h1 => ?_)
      · try dsimp only
        exact absurd h1 (by rw [nI_pred]; exact nI_pos (by omega))
      · iterate 2 refine e_sp rfl rfl rfl ?_
        refine e_ci 3 rfl rfl ?_
        iterate 3 refine e_sp rfl rfl rfl ?_
        refine e_ci 0 rfl rfl ?_
        iterate 2 refine e_sp rfl rfl rfl ?_
        refine e_alen rfl (by first | rfl | assumption) (by decide) ?_
        refine e_ci 1 rfl rfl ?_
        iterate 1 refine e_sp rfl rfl rfl ?_
        refine e_callN1 ok_H_isWithin rfl lk_W_56 k_H_isWithin rfl rfl ⟨Nat.le_of_ble_eq_true rfl, Nat.le_of_ble_eq_true rfl⟩ ⟨Nat.zero_le _, Nat.zero_le _⟩ (Nat.le_of_ble_eq_true rfl) ?_
        refine e_ifeq rfl (fun h2 => ?_) (fun h2 => ?_)
        · refine e_inc (-1) rfl rfl rfl rfl ?_
          refine e_goto rfl ?_
          try dsimp only
          rw [nI_pred, show nI n + (-1) = nI n - 1 from (Int32.sub_eq_add_neg _ _).symm]
          refine e_st (S2 := wr1 S v (nI n)) ?_ (ih (by omega) (wr1 S v (nI n)) _)
          simp only [wr1, h2, if_true, if_false]
          try rfl
        · iterate 4 refine e_sp rfl rfl rfl ?_
          refine e_bald rfl (by first | rfl | assumption) (by exact wi_in (by decide) (by assumption)) ?_
          iterate 3 refine e_sp rfl rfl rfl ?_
          refine e_ci 1 rfl rfl ?_
          iterate 1 refine e_sp rfl rfl rfl ?_
          refine e_cb 7 rfl rfl ?_
          iterate 2 refine e_sp rfl rfl rfl ?_
          refine e_cb 7 rfl rfl ?_
          iterate 5 refine e_sp rfl rfl rfl ?_
          refine e_bast rfl (by first | rfl | assumption) (by exact wi_in (by decide) (by assumption)) ?_
          iterate 3 refine e_sp rfl rfl rfl ?_
          refine e_ci 1 rfl rfl ?_
          iterate 2 refine e_sp rfl rfl rfl ?_
          refine e_inc (-1) rfl rfl rfl rfl ?_
          refine e_goto rfl ?_
          try dsimp only
          rw [nI_pred, show nI n + (-1) = nI n - 1 from (Int32.sub_eq_add_neg _ _).symm]
          refine e_st (S2 := wr1 S v (nI n)) ?_ (ih (by omega) (wr1 S v (nI n)) _)
          simp only [wr1, h2, if_true, if_false]
          try rfl
  iterate 1 refine e_sp rfl rfl rfl ?_
  refine e_ci 1 rfl rfl ?_
  iterate 2 refine e_sp rfl rfl rfl ?_
  exact L _ n hn S none
set_option maxHeartbeats 4000000 in
set_option maxRecDepth 40000 in
theorem k_W_endRun {l : Launch} {h : Nat} {S : St} {r : Nat} (hr : S.1 14 3 = nI r) (hr2 : r < 2 ^ 31) : KK l (SHm h) (2, 46) m_W_endRun [aR 14] S (ans none (enW S r)) := by
  refine k_start ok_W_endRun (Nat.le_of_ble_eq_true rfl) ?_
  have hlt : ¬ (12 : Int32) ≤ nI (r / 2 ^ lowK (S.1 16 1) (S.1 16 0) 8 0) → r / 2 ^ lowK (S.1 16 1) (S.1 16 0) 8 0 < 12 := by
    intro h9
    rcases Nat.lt_or_ge (r / 2 ^ lowK (S.1 16 1) (S.1 16 0) 8 0) 12 with q | q
    · exact q
    · exact absurd (nI_le q (Nat.lt_of_le_of_lt (Nat.div_le_self _ _) hr2)) h9
  iterate 2 refine e_sp rfl rfl rfl ?_
  refine e_callV1 ok_P_lowBits rfl lk_W_44 (by rfl) (by rfl) k_P_lowBits_16 rfl rfl ⟨Nat.le_of_ble_eq_true rfl, Nat.le_of_ble_eq_true rfl⟩ ⟨Nat.zero_le _, Nat.zero_le _⟩ (Nat.le_of_ble_eq_true rfl) ?_
  iterate 6 refine e_sp rfl rfl rfl ?_
  dsimp only
  rw [hr, shr_k hr2 _ (lowK_le _ _ 8 0)]
  iterate 1 refine e_sp rfl rfl rfl ?_
  refine e_cb 12 rfl rfl ?_
  refine e_icge rfl (fun h1 => ?_) (fun h1 => ?_)
  · iterate 1 refine e_sp rfl rfl rfl ?_
    refine e_cs 4095 rfl rfl ?_
    refine e_cb 12 rfl rfl ?_
    refine e_callV0 ok_W_write rfl lk_W_48 (by rfl) (by rfl) (k_W_write (n := 12) (by decide)) rfl rfl ⟨Nat.le_of_ble_eq_true rfl, Nat.le_of_ble_eq_true rfl⟩ ⟨Nat.zero_le _, Nat.zero_le _⟩ (Nat.le_of_ble_eq_true rfl) ?_
    iterate 3 refine e_sp rfl rfl rfl ?_
    refine e_cb 13 rfl rfl ?_
    refine e_callV0 ok_W_write rfl lk_W_48 (by rfl) (by rfl) (k_W_write (n := 13) (by decide)) rfl rfl ⟨Nat.le_of_ble_eq_true rfl, Nat.le_of_ble_eq_true rfl⟩ ⟨Nat.zero_le _, Nat.zero_le _⟩ (Nat.le_of_ble_eq_true rfl) ?_
    iterate 4 refine e_sp rfl rfl rfl ?_
    refine e_callV0 ok_P_learn rfl lk_W_52 (by rfl) (by rfl) k_P_learn_16 rfl rfl ⟨Nat.le_of_ble_eq_true rfl, Nat.le_of_ble_eq_true rfl⟩ ⟨Nat.zero_le _, Nat.zero_le _⟩ (Nat.le_of_ble_eq_true rfl) ?_
    iterate 1 refine e_sp rfl rfl rfl ?_
    refine e_ci 0 rfl rfl ?_
    iterate 4 refine e_sp rfl rfl rfl ?_
    refine e_ci 1 rfl rfl ?_
    iterate 2 refine e_sp rfl rfl rfl ?_
    refine e_vret rfl rfl (Nat.le_refl _) (Nat.le_refl _) ?_
    exact ⟨rfl, by simp only [enW, h1, if_true, if_false]; rfl⟩
  · iterate 1 refine e_sp rfl rfl rfl ?_
    refine e_ci 1 rfl rfl ?_
    iterate 2 refine e_sp rfl rfl rfl ?_
    refine e_ci 1 rfl rfl ?_
    iterate 1 refine e_sp rfl rfl rfl ?_
    refine e_ci 1 rfl rfl ?_
    iterate 2 refine e_sp rfl rfl rfl ?_
    refine e_ci 1 rfl rfl ?_
    iterate 1 refine e_sp rfl rfl rfl ?_
    dsimp only
    rw [nI_1]
    refine e_callV0 ok_W_write rfl lk_W_48 (by rfl) (by rfl) (k_W_write (by have := hlt (by assumption); omega)) rfl rfl ⟨Nat.le_of_ble_eq_true rfl, Nat.le_of_ble_eq_true rfl⟩ ⟨Nat.zero_le _, Nat.zero_le _⟩ (Nat.le_of_ble_eq_true rfl) ?_
    iterate 4 refine e_sp rfl rfl rfl ?_
    refine e_callV0 ok_W_write rfl lk_W_48 (by rfl) (by rfl) (k_W_write (Nat.le_trans (lowK_le _ _ 8 0) (by decide))) rfl rfl ⟨Nat.le_of_ble_eq_true rfl, Nat.le_of_ble_eq_true rfl⟩ ⟨Nat.zero_le _, Nat.zero_le _⟩ (Nat.le_of_ble_eq_true rfl) ?_
    refine e_goto rfl ?_
    iterate 4 refine e_sp rfl rfl rfl ?_
    refine e_callV0 ok_P_learn rfl lk_W_52 (by rfl) (by rfl) k_P_learn_16 rfl rfl ⟨Nat.le_of_ble_eq_true rfl, Nat.le_of_ble_eq_true rfl⟩ ⟨Nat.zero_le _, Nat.zero_le _⟩ (Nat.le_of_ble_eq_true rfl) ?_
    iterate 1 refine e_sp rfl rfl rfl ?_
    refine e_ci 0 rfl rfl ?_
    iterate 4 refine e_sp rfl rfl rfl ?_
    refine e_ci 1 rfl rfl ?_
    iterate 2 refine e_sp rfl rfl rfl ?_
    refine e_vret rfl rfl (Nat.le_refl _) (Nat.le_refl _) ?_
    exact ⟨rfl, by simp only [enW, h1, if_true, if_false]; rfl⟩
set_option maxHeartbeats 4000000 in
set_option maxRecDepth 40000 in
theorem k_W_tell {l : Launch} {h : Nat} {S : St} {v : Int32} (hr : ¬ S.1 14 3 < 0) : KK l (SHm h) (3, 68) m_W_tell [aR 14, aI v] S (ans none (teW S v)) := by
  refine k_start ok_W_tell (Nat.le_of_ble_eq_true rfl) ?_
  iterate 1 refine e_sp rfl rfl rfl ?_
  refine e_ifeq rfl (fun h1 => ?_) (fun h1 => ?_)
  · iterate 1 refine e_sp rfl rfl rfl ?_
    refine e_callV0 ok_W_endRun rfl lk_W_41 (by rfl) (by rfl) (k_W_endRun (nI_tn hr).1 (nI_tn hr).2) rfl rfl ⟨Nat.le_of_ble_eq_true rfl, Nat.le_of_ble_eq_true rfl⟩ ⟨Nat.zero_le _, Nat.zero_le _⟩ (Nat.le_of_ble_eq_true rfl) ?_
    refine e_vret rfl rfl (Nat.le_refl _) (Nat.le_refl _) ?_
    exact ⟨rfl, by simp [teW, h1]⟩
  · iterate 3 refine e_sp rfl rfl rfl ?_
    refine e_ci 1 rfl rfl ?_
    iterate 2 refine e_sp rfl rfl rfl ?_
    refine e_goto rfl ?_
    refine e_vret rfl rfl (Nat.le_refl _) (Nat.le_refl _) ?_
    exact ⟨rfl, by simp [teW, h1]⟩
