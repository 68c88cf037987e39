/-! decode -/
theorem edT_o {S : St} {o : Nat} (h : o ≠ 17) (h2 : o ≠ 19) : (edT S).1 o = S.1 o ∧ (edT S).2 = S.2 := by
  unfold edT
  split
  · split
    · exact rrS_o h h2
    · exact ⟨rfl, rfl⟩
  · exact ⟨rfl, rfl⟩
theorem edE_o {T : St} {o : Nat} (h : o ≠ 17) : (edE T).1 o = T.1 o ∧ (edE T).2 = T.2 := by
  unfold edE
  split
  · split
    · exact ⟨puI_o h, rfl⟩
    · exact ⟨rfl, rfl⟩
  · exact ⟨rfl, rfl⟩
theorem edS_o {S : St} {o : Nat} (h : o ≠ 17) (h2 : o ≠ 19) : (edS S).1 o = S.1 o ∧ (edS S).2 = S.2 := ⟨(edE_o h).1.trans (edT_o h h2).1, (edE_o h).2.trans (edT_o h h2).2⟩
theorem rpH_o {S : St} {c r : Nat} {p : Int32} {o : Nat} (h : o ≠ 10) (h2 : o ≠ 12) (h3 : o ≠ 13) (h4 : o ≠ 17) (h5 : o ≠ 19) : (rpH S c r p).1 o = S.1 o ∧ (rpH S c r p).2 = S.2 :=
  ⟨(rpO_o h h2 h3 h4 h5).1.trans (bpF_o h2 h3).1, (rpO_o h h2 h3 h4 h5).2.trans (bpF_o h2 h3).2⟩
theorem rpH_came {S : St} {c r : Nat} {p : Int32} : (rpH S c r p).1 17 2 = S.1 17 2 := by
  unfold rpH
  rw [rpO_came, (bpF_o (by decide) (by decide)).1]
def dcP (S : St) (c r : Nat) : Int32 := S.1 7 1 * S.1 7 2 - (if S.1 0 13 = 1 then poH S c r else 0)
def dpS (c r : Nat) : Nat → St → St
  | 0, T => T
  | n + 1, T => if T.1 17 7 = 0 then dpS c r n (rpH T c r (nI n)) else T
def dcW (T : St) : St := puI (edS T) 0 14 ((edS T).1 17 6)
def dcN (W : St) : Int32 := if W.1 17 7 = 0 then (if ggC W 256 < W.1 5 3 then 0 else 4) else W.1 17 7
def dcR (W : St) (pl : Int32) : Int32 := if dcN W = 0 then pl else -1 - dcN W
def dcS (W : St) (c r : Nat) : St := if dcN W = 0 then tgH (puI W 17 2 0) c r else puI W 17 2 0
def dc0 (S : St) (c r m : Nat) : St := bpF (rgS (flI S 10 0 256) (dcP S c r * nI (bl 6 m)))
def dcX (S : St) (c r m : Nat) : St := dcW (dpS c r (bl 6 m) (dc0 S c r m))
theorem rgS_o {S : St} {n : Int32} {o : Nat} (h : o ≠ 17) (h2 : o ≠ 19) : (rgS S n).1 o = S.1 o ∧ (rgS S n).2 = S.2 := by
  unfold rgS
  exact ⟨by rw [puI_o h, puI_o h, puI_o h, puI_o h, puI_o h, puI_o h2, puI_o h2], rfl⟩
theorem rgS_came {S : St} {n : Int32} : (rgS S n).1 17 2 = S.1 17 2 := by simp [rgS, puI, pt, upd]
set_option maxHeartbeats 4000000 in
set_option maxRecDepth 40000 in
theorem k_H_decodeT {l : Launch} {h : Nat} {W : St} {c r : Nat} {pl : Int32} (hc : W.1 7 1 = nI c) (hr : W.1 7 2 = nI r) (hc2 : c < 2 ^ 31) (hr2 : r < 2 ^ 31) (z : Option AV) : E0 l (SHm h) (6, 136) m_H_decode 116 [some (aR 0), some (aI pl), z] [] W (ans (some (aI (dcR W pl))) (dcS W c r)) := by
  iterate 5 refine e_sp rfl rfl rfl ?_
  refine e_ifne rfl (fun h1 => ?_) (fun h1 => ?_)
  · iterate 2 refine e_sp rfl rfl rfl ?_
    refine e_callV0 ok_R_forgetBytes rfl lk_H_286 (by rfl) (by rfl) k_R_forgetBytes rfl rfl ⟨Nat.le_of_ble_eq_true rfl, Nat.le_of_ble_eq_true rfl⟩ ⟨Nat.zero_le _, Nat.zero_le _⟩ (Nat.le_of_ble_eq_true rfl) ?_
    iterate 1 refine e_sp rfl rfl rfl ?_
    refine e_ifeq rfl (fun h2 => ?_) (fun h2 => ?_)
    · iterate 1 refine e_sp rfl rfl rfl ?_
      refine e_callV0 ok_H_takeGreys rfl lk_H_289 (by rfl) (by rfl) (k_H_takeGreys (c := c) (r := r) (by rw [puI_o (by decide)]; exact hc) (by rw [puI_o (by decide)]; exact hr) hc2 hr2) rfl rfl ⟨Nat.le_of_ble_eq_true rfl, Nat.le_of_ble_eq_true rfl⟩ ⟨Nat.zero_le _, Nat.zero_le _⟩ (Nat.le_of_ble_eq_true rfl) ?_
      iterate 1 refine e_sp rfl rfl rfl ?_
      refine e_iret rfl rfl (Nat.le_refl _) (Nat.le_refl _) ?_
      exact ⟨by simp_all [dcR, dcN], by simp_all [dcS, dcN]⟩
    · refine e_ci (-1) rfl rfl ?_
      iterate 2 refine e_sp rfl rfl rfl ?_
      refine e_iret rfl rfl (Nat.le_refl _) (Nat.le_refl _) ?_
      exact ⟨by simp_all [dcR, dcN], by simp_all [dcS, dcN]⟩
  · iterate 2 refine e_sp rfl rfl rfl ?_
    refine e_callV1 ok_C_greatestGrey rfl lk_H_283 (by rfl) (by rfl) k_C_greatestGrey rfl rfl ⟨Nat.le_of_ble_eq_true rfl, Nat.le_of_ble_eq_true rfl⟩ ⟨Nat.zero_le _, Nat.zero_le _⟩ (Nat.le_of_ble_eq_true rfl) ?_
    iterate 3 refine e_sp rfl rfl rfl ?_
    refine e_iclt rfl (fun h3 => ?_) (fun h3 => ?_)
    · iterate 2 refine e_sp rfl rfl rfl ?_
      refine e_callV0 ok_R_forgetBytes rfl lk_H_286 (by rfl) (by rfl) k_R_forgetBytes rfl rfl ⟨Nat.le_of_ble_eq_true rfl, Nat.le_of_ble_eq_true rfl⟩ ⟨Nat.zero_le _, Nat.zero_le _⟩ (Nat.le_of_ble_eq_true rfl) ?_
      iterate 1 refine e_sp rfl rfl rfl ?_
      refine e_ifeq rfl (fun h4 => ?_) (fun h4 => ?_)
      · iterate 1 refine e_sp rfl rfl rfl ?_
        refine e_callV0 ok_H_takeGreys rfl lk_H_289 (by rfl) (by rfl) (k_H_takeGreys (c := c) (r := r) (by rw [puI_o (by decide)]; exact hc) (by rw [puI_o (by decide)]; exact hr) hc2 hr2) rfl rfl ⟨Nat.le_of_ble_eq_true rfl, Nat.le_of_ble_eq_true rfl⟩ ⟨Nat.zero_le _, Nat.zero_le _⟩ (Nat.le_of_ble_eq_true rfl) ?_
        iterate 1 refine e_sp rfl rfl rfl ?_
        refine e_iret rfl rfl (Nat.le_refl _) (Nat.le_refl _) ?_
        exact ⟨by simp_all [dcR, dcN], by simp_all [dcS, dcN]⟩
      · refine e_ci (-1) rfl rfl ?_
        iterate 2 refine e_sp rfl rfl rfl ?_
        refine e_iret rfl rfl (Nat.le_refl _) (Nat.le_refl _) ?_
        exact ⟨by simp_all [dcR, dcN], by simp_all [dcS, dcN]⟩
    · refine e_ci 4 rfl rfl ?_
      iterate 3 refine e_sp rfl rfl rfl ?_
      refine e_callV0 ok_R_forgetBytes rfl lk_H_286 (by rfl) (by rfl) k_R_forgetBytes rfl rfl ⟨Nat.le_of_ble_eq_true rfl, Nat.le_of_ble_eq_true rfl⟩ ⟨Nat.zero_le _, Nat.zero_le _⟩ (Nat.le_of_ble_eq_true rfl) ?_
      iterate 1 refine e_sp rfl rfl rfl ?_
      refine e_ifeq rfl (fun h5 => absurd h5 (by first | decide | simp [puI, pt, upd])) (fun _ => ?_)
      refine e_ci (-1) rfl rfl ?_
      iterate 2 refine e_sp rfl rfl rfl ?_
      refine e_iret rfl rfl (Nat.le_refl _) (Nat.le_refl _) ?_
      have e9 : dcN W = 4 := by rw [dcN, if_pos h1, if_neg h3]
      exact ⟨by rw [dcR, e9]; rfl, by rw [dcS, e9]; rfl⟩
set_option maxHeartbeats 4000000 in
set_option maxRecDepth 40000 in
theorem k_H_decodeE {l : Launch} {h : Nat} {T : St} {c r cm : Nat} {pl : Int32} (hcm : T.1 17 2 = nI cm) (hcm2 : cm ≤ 3000) (hc : T.1 7 1 = nI c) (hr : T.1 7 2 = nI r) (hc2 : c < 2 ^ 31) (hr2 : r < 2 ^ 31) (z : Option AV) : E0 l (SHm h) (6, 136) m_H_decode 98 [some (aR 0), some (aI pl), z] [] T (ans (some (aI (dcR (dcW T) pl))) (dcS (dcW T) c r)) := by
  iterate 2 refine e_sp rfl rfl rfl ?_
  refine e_callV0 ok_R_end rfl lk_H_279 (by rfl) (by rfl) (k_R_end hcm hcm2) rfl rfl ⟨Nat.le_of_ble_eq_true rfl, Nat.le_of_ble_eq_true rfl⟩ ⟨Nat.zero_le _, Nat.zero_le _⟩ (Nat.le_of_ble_eq_true rfl) ?_
  iterate 5 refine e_sp rfl rfl rfl ?_
  try dsimp only
  exact k_H_decodeT (W := dcW T) (by rw [dcW, puI_o (by decide), (edS_o (by decide) (by decide)).1]; exact hc) (by rw [dcW, puI_o (by decide), (edS_o (by decide) (by decide)).1]; exact hr) hc2 hr2 _
set_option maxHeartbeats 4000000 in
set_option maxRecDepth 40000 in
theorem k_H_decodeP {l : Launch} {h : Nat} {c r cm : Nat} {pl : Int32} (hcm2 : cm ≤ 3000) (hc2 : c < 2 ^ 31) (hr2 : r < 2 ^ 31) : ∀ (n : Nat) (T : St), n ≤ 6 → T.1 17 2 = nI cm → T.1 7 1 = nI c → T.1 7 2 = nI r → E0 l (SHm h) (6, 136) m_H_decode 73 [some (aR 0), some (aI pl), some (aI (nI n - 1))] [] T (ans (some (aI (dcR (dcW (dpS c r n T)) pl))) (dcS (dcW (dpS c r n T)) c r)) := by
  intro n
  induction n with
  | zero =>
    intro T hn hcm hc hr
    rw [show dpS c r 0 T = T from rfl]
    iterate 1 refine e_sp rfl rfl rfl ?_
    refine e_iflt rfl (fun h1 => ?_) (fun h1 => ?_)
    · iterate 2 refine e_sp rfl rfl rfl ?_
      refine e_callV0 ok_R_end rfl lk_H_279 (by rfl) (by rfl) (k_R_end hcm hcm2) rfl rfl ⟨Nat.le_of_ble_eq_true rfl, Nat.le_of_ble_eq_true rfl⟩ ⟨Nat.zero_le _, Nat.zero_le _⟩ (Nat.le_of_ble_eq_true rfl) ?_
      iterate 5 refine e_sp rfl rfl rfl ?_
      try dsimp only
      exact k_H_decodeT (W := dcW T) (by rw [dcW, puI_o (by decide), (edS_o (by decide) (by decide)).1]; exact hc) (by rw [dcW, puI_o (by decide), (edS_o (by decide) (by decide)).1]; exact hr) hc2 hr2 _
    · try dsimp only
      exact absurd (by decide) h1
  | succ n ih =>
    intro T hn hcm hc hr
    iterate 1 refine e_sp rfl rfl rfl ?_
    refine e_iflt rfl (fun h1 => ?_) (fun h1 => ?_)
    · try dsimp only
      exact absurd h1 (by rw [nI_pred]; exact nI_pos (by omega))
    · iterate 3 refine e_sp rfl rfl rfl ?_
      refine e_ifne rfl (fun h2 => ?_) (fun h2 => ?_)
      · try dsimp only
        rw [show dpS c r (n + 1) T = T from if_neg h2]
        exact k_H_decodeE hcm hcm2 hc hr hc2 hr2 _
      · iterate 1 refine e_sp rfl rfl rfl ?_
        rw [nI_pred]
        iterate 1 refine e_sp rfl rfl rfl ?_
        refine e_callV0 ok_H_readPlane rfl lk_H_276 (by rfl) (by rfl) (k_H_readPlane (c := c) (r := r) hc hr hc2 hr2 hcm hcm2 (by assumption)) rfl rfl ⟨Nat.le_of_ble_eq_true rfl, Nat.le_of_ble_eq_true rfl⟩ ⟨Nat.zero_le _, Nat.zero_le _⟩ (Nat.le_of_ble_eq_true rfl) ?_
        refine e_inc (-1) rfl rfl rfl rfl ?_
        refine e_goto rfl ?_
        try dsimp only
        rw [show nI n + (-1) = nI n - 1 from (Int32.sub_eq_add_neg _ _).symm, show dpS c r (n + 1) T = dpS c r n (rpH T c r (nI n)) from if_pos h2]
        exact ih (rpH T c r (nI n)) (by omega) (rpH_came.trans hcm) (by rw [(rpH_o (by decide) (by decide) (by decide) (by decide) (by decide)).1]; exact hc) (by rw [(rpH_o (by decide) (by decide) (by decide) (by decide) (by decide)).1]; exact hr)
set_option maxHeartbeats 4000000 in
set_option maxRecDepth 40000 in
theorem k_H_decode {l : Launch} {h : Nat} {S : St} {c r m cm : Nat} (hc : S.1 7 1 = nI c) (hr : S.1 7 2 = nI r) (hc2 : c < 2 ^ 31) (hr2 : r < 2 ^ 31) (hm : S.1 5 3 = nI (m + 1)) (hm2 : m < 64) (hcm : S.1 17 2 = nI cm) (hcm2 : cm ≤ 3000) : KK l (SHm h) (6, 136) m_H_decode [aR 0] S (ans (some (aI (dcR (dcX S c r m) (dcP S c r)))) (dcS (dcX S c r m) c r)) := by
  refine k_start ok_H_decode (Nat.le_of_ble_eq_true rfl) ?_
  have h7 : ∀ k, (dc0 S c r m).1 7 k = S.1 7 k := fun k => by rw [dc0, (bpF_o (by decide) (by decide)).1, (rgS_o (by decide) (by decide)).1, flI_o (by decide)]
  have hcm0 : (dc0 S c r m).1 17 2 = nI cm := by rw [dc0, (bpF_o (by decide) (by decide)).1, rgS_came, flI_o (by decide)]; exact hcm
  have hmany : ∀ n, (flI (flI (rgS (flI S 10 0 256) n) 12 (-1) 64) 13 0 64).1 5 3 = nI (m + 1) := fun n => by
    rw [flI_o (by decide), flI_o (by decide), (rgS_o (by decide) (by decide)).1, flI_o (by decide)]; exact hm
  iterate 9 refine e_sp rfl rfl rfl ?_
  refine e_ci 1 rfl rfl ?_
  refine e_icne rfl (fun h1 => ?_) (fun h1 => ?_)
  · refine e_ci 0 rfl rfl ?_
    iterate 4 refine e_sp rfl rfl rfl ?_
    refine e_callV0 ok_C_begin rfl lk_H_220 (by rfl) (by rfl) k_C_begin rfl rfl ⟨Nat.le_of_ble_eq_true rfl, Nat.le_of_ble_eq_true rfl⟩ ⟨Nat.zero_le _, Nat.zero_le _⟩ (Nat.le_of_ble_eq_true rfl) ?_
    iterate 5 refine e_sp rfl rfl rfl ?_
    refine e_callV1 ok_B_planes rfl lk_H_103 (by rfl) (by rfl) (k_B_planes (m := m) (by first | (rw [flI_o (by decide)]; exact hm) | exact hmany) hm2) rfl rfl ⟨Nat.le_of_ble_eq_true rfl, Nat.le_of_ble_eq_true rfl⟩ ⟨Nat.zero_le _, Nat.zero_le _⟩ (Nat.le_of_ble_eq_true rfl) ?_
    iterate 1 refine e_sp rfl rfl rfl ?_
    refine e_callV0 ok_R_begin rfl lk_H_271 (by rfl) (by rfl) k_R_begin rfl rfl ⟨Nat.le_of_ble_eq_true rfl, Nat.le_of_ble_eq_true rfl⟩ ⟨Nat.zero_le _, Nat.zero_le _⟩ (Nat.le_of_ble_eq_true rfl) ?_
    iterate 2 refine e_sp rfl rfl rfl ?_
    refine e_callV0 ok_F_beginPlane rfl lk_H_229 (by rfl) (by rfl) k_F_beginPlane rfl rfl ⟨Nat.le_of_ble_eq_true rfl, Nat.le_of_ble_eq_true rfl⟩ ⟨Nat.zero_le _, Nat.zero_le _⟩ (Nat.le_of_ble_eq_true rfl) ?_
    iterate 2 refine e_sp rfl rfl rfl ?_
    refine e_callV1 ok_B_planes rfl lk_H_103 (by rfl) (by rfl) (k_B_planes (m := m) (by first | (rw [flI_o (by decide)]; exact hm) | exact hmany) hm2) rfl rfl ⟨Nat.le_of_ble_eq_true rfl, Nat.le_of_ble_eq_true rfl⟩ ⟨Nat.zero_le _, Nat.zero_le _⟩ (Nat.le_of_ble_eq_true rfl) ?_
    refine e_ci 1 rfl rfl ?_
    iterate 2 refine e_sp rfl rfl rfl ?_
    try dsimp only
    refine e_st (S2 := dc0 S c r m) (by simp only [dc0, dcP, bpF, h1, if_true, if_false]) ?_
    have L := k_H_decodeP (l := l) (h := h) (pl := dcP S c r) hcm2 hc2 hr2 (bl 6 m) (dc0 S c r m) (bl_le 6 m) hcm0 ((h7 1).trans hc) ((h7 2).trans hr)
    simp only [dcP, h1, if_true, if_false] at L
    simp only [dcX, dcP, h1, if_true, if_false]
    exact L
  · iterate 1 refine e_sp rfl rfl rfl ?_
    refine e_callV1 ok_H_placesOutside rfl lk_H_146 (by rfl) (by rfl) (k_H_placesOutside hc hr hc2 hr2) rfl rfl ⟨Nat.le_of_ble_eq_true rfl, Nat.le_of_ble_eq_true rfl⟩ ⟨Nat.zero_le _, Nat.zero_le _⟩ (Nat.le_of_ble_eq_true rfl) ?_
    refine e_goto rfl ?_
    iterate 4 refine e_sp rfl rfl rfl ?_
    refine e_callV0 ok_C_begin rfl lk_H_220 (by rfl) (by rfl) k_C_begin rfl rfl ⟨Nat.le_of_ble_eq_true rfl, Nat.le_of_ble_eq_true rfl⟩ ⟨Nat.zero_le _, Nat.zero_le _⟩ (Nat.le_of_ble_eq_true rfl) ?_
    iterate 5 refine e_sp rfl rfl rfl ?_
    refine e_callV1 ok_B_planes rfl lk_H_103 (by rfl) (by rfl) (k_B_planes (m := m) (by first | (rw [flI_o (by decide)]; exact hm) | exact hmany) hm2) rfl rfl ⟨Nat.le_of_ble_eq_true rfl, Nat.le_of_ble_eq_true rfl⟩ ⟨Nat.zero_le _, Nat.zero_le _⟩ (Nat.le_of_ble_eq_true rfl) ?_
    iterate 1 refine e_sp rfl rfl rfl ?_
    refine e_callV0 ok_R_begin rfl lk_H_271 (by rfl) (by rfl) k_R_begin rfl rfl ⟨Nat.le_of_ble_eq_true rfl, Nat.le_of_ble_eq_true rfl⟩ ⟨Nat.zero_le _, Nat.zero_le _⟩ (Nat.le_of_ble_eq_true rfl) ?_
    iterate 2 refine e_sp rfl rfl rfl ?_
    refine e_callV0 ok_F_beginPlane rfl lk_H_229 (by rfl) (by rfl) k_F_beginPlane rfl rfl ⟨Nat.le_of_ble_eq_true rfl, Nat.le_of_ble_eq_true rfl⟩ ⟨Nat.zero_le _, Nat.zero_le _⟩ (Nat.le_of_ble_eq_true rfl) ?_
    iterate 2 refine e_sp rfl rfl rfl ?_
    refine e_callV1 ok_B_planes rfl lk_H_103 (by rfl) (by rfl) (k_B_planes (m := m) (by first | (rw [flI_o (by decide)]; exact hm) | exact hmany) hm2) rfl rfl ⟨Nat.le_of_ble_eq_true rfl, Nat.le_of_ble_eq_true rfl⟩ ⟨Nat.zero_le _, Nat.zero_le _⟩ (Nat.le_of_ble_eq_true rfl) ?_
    refine e_ci 1 rfl rfl ?_
    iterate 2 refine e_sp rfl rfl rfl ?_
    try dsimp only
    refine e_st (S2 := dc0 S c r m) (by simp only [dc0, dcP, bpF, h1, if_true, if_false]) ?_
    have L := k_H_decodeP (l := l) (h := h) (pl := dcP S c r) hcm2 hc2 hr2 (bl 6 m) (dc0 S c r m) (bl_le 6 m) hcm0 ((h7 1).trans hc) ((h7 2).trans hr)
    simp only [dcP, h1, if_true, if_false] at L
    simp only [dcX, dcP, h1, if_true, if_false]
    exact L
/-! clear -/
def clH (S : St) (h : Nat) : St := puI (puI (puI (puI (puI (wbS (bpF (puI (puI (puI (puI (flI (puI (puI (bgB (flI (flI S 2 0 h) 4 0 h) 1 1 1) 7 1 1) 7 2 1) 8 0 256) 7 3 0) 7 4 0) 7 5 256) 7 6 0))) 17 2 0) 0 11 0) 0 12 0) 0 13 0) 0 14 0
set_option maxHeartbeats 4000000 in
set_option maxRecDepth 40000 in
theorem k_H_clear {l : Launch} {h : Nat} {S : St} (hh : h < 2 ^ 31) : KK l (SHm h) (3, 65) m_H_clear [aR 0] S (ans none (clH S h)) := by
  refine k_start ok_H_clear (Nat.le_of_ble_eq_true rfl) ?_
  iterate 2 refine e_sp rfl rfl rfl ?_
  refine e_ci 0 rfl rfl ?_
  refine e_callV0 ok_S_fill rfl lk_H_208 (by rfl) (by rfl) (k_S_fill_1 hh) rfl rfl ⟨Nat.le_of_ble_eq_true rfl, Nat.le_of_ble_eq_true rfl⟩ ⟨Nat.zero_le _, Nat.zero_le _⟩ (Nat.le_of_ble_eq_true rfl) ?_
  iterate 2 refine e_sp rfl rfl rfl ?_
  refine e_ci 0 rfl rfl ?_
  refine e_callV0 ok_S_fill rfl lk_H_208 (by rfl) (by rfl) (k_S_fill_3 hh) rfl rfl ⟨Nat.le_of_ble_eq_true rfl, Nat.le_of_ble_eq_true rfl⟩ ⟨Nat.zero_le _, Nat.zero_le _⟩ (Nat.le_of_ble_eq_true rfl) ?_
  iterate 2 refine e_sp rfl rfl rfl ?_
  refine e_ci 1 rfl rfl ?_
  refine e_ci 1 rfl rfl ?_
  refine e_ci 1 rfl rfl ?_
  refine e_callV0 ok_B_begin rfl lk_H_96 (by rfl) (by rfl) k_B_begin rfl rfl ⟨Nat.le_of_ble_eq_true rfl, Nat.le_of_ble_eq_true rfl⟩ ⟨Nat.zero_le _, Nat.zero_le _⟩ (Nat.le_of_ble_eq_true rfl) ?_
  iterate 2 refine e_sp rfl rfl rfl ?_
  refine e_ci 1 rfl rfl ?_
  refine e_ci 1 rfl rfl ?_
  refine e_callV0 ok_L_begin rfl lk_H_140 (by rfl) (by rfl) k_L_begin rfl rfl ⟨Nat.le_of_ble_eq_true rfl, Nat.le_of_ble_eq_true rfl⟩ ⟨Nat.zero_le _, Nat.zero_le _⟩ (Nat.le_of_ble_eq_true rfl) ?_
  iterate 2 refine e_sp rfl rfl rfl ?_
  refine e_ci 0 rfl rfl ?_
  refine e_ci 0 rfl rfl ?_
  refine e_cs 256 rfl rfl ?_
  refine e_ci 0 rfl rfl ?_
  refine e_callV0 ok_L_turnTo rfl lk_H_142 (by rfl) (by rfl) k_L_turnTo rfl rfl ⟨Nat.le_of_ble_eq_true rfl, Nat.le_of_ble_eq_true rfl⟩ ⟨Nat.zero_le _, Nat.zero_le _⟩ (Nat.le_of_ble_eq_true rfl) ?_
  iterate 2 refine e_sp rfl rfl rfl ?_
  refine e_callV0 ok_F_beginPlane rfl lk_H_229 (by rfl) (by rfl) k_F_beginPlane rfl rfl ⟨Nat.le_of_ble_eq_true rfl, Nat.le_of_ble_eq_true rfl⟩ ⟨Nat.zero_le _, Nat.zero_le _⟩ (Nat.le_of_ble_eq_true rfl) ?_
  iterate 2 refine e_sp rfl rfl rfl ?_
  refine e_callV0 ok_W_begin rfl lk_H_228 (by rfl) (by rfl) k_W_begin rfl rfl ⟨Nat.le_of_ble_eq_true rfl, Nat.le_of_ble_eq_true rfl⟩ ⟨Nat.zero_le _, Nat.zero_le _⟩ (Nat.le_of_ble_eq_true rfl) ?_
  iterate 2 refine e_sp rfl rfl rfl ?_
  refine e_callV0 ok_R_forgetBytes rfl lk_H_286 (by rfl) (by rfl) k_R_forgetBytes rfl rfl ⟨Nat.le_of_ble_eq_true rfl, Nat.le_of_ble_eq_true rfl⟩ ⟨Nat.zero_le _, Nat.zero_le _⟩ (Nat.le_of_ble_eq_true rfl) ?_
  iterate 1 refine e_sp rfl rfl rfl ?_
  refine e_ci 0 rfl rfl ?_
  iterate 2 refine e_sp rfl rfl rfl ?_
  refine e_ci 0 rfl rfl ?_
  iterate 2 refine e_sp rfl rfl rfl ?_
  refine e_ci 0 rfl rfl ?_
  iterate 2 refine e_sp rfl rfl rfl ?_
  refine e_ci 0 rfl rfl ?_
  iterate 1 refine e_sp rfl rfl rfl ?_
  refine e_vret rfl rfl (Nat.le_refl _) (Nat.le_refl _) ?_
  exact ⟨rfl, rfl⟩
def tdH (S : St) (h m : Nat) (w : Int32) : Int32 := if w = 0 then S.1 0 0 else if w = 1 then S.1 0 1 else if w = 2 then S.1 5 3 else if w = 3 then S.1 5 1 else if w = 4 then S.1 5 2 else if w = 5 then nI (bl 6 m) else if w = 6 then S.1 7 1 else if w = 7 then S.1 7 2 else if w = 8 then szW S else if w = 9 then S.1 17 2 else if w = 10 then dkA S 2 h else if w = 11 then S.1 0 14 else -1
set_option maxHeartbeats 4000000 in
set_option maxRecDepth 40000 in
theorem k_H_told {l : Launch} {h m : Nat} {S : St} {w : Int32} (hh : h < 2 ^ 31) (hm : S.1 5 3 = nI (m + 1)) (hm2 : m < 64) : KK l (SHm h) (2, 42) m_H_told [aR 0, aI w] S (ans (some (aI (tdH S h m w))) S) := by
  refine k_start ok_H_told (Nat.le_of_ble_eq_true rfl) ?_
  iterate 1 refine e_sp rfl rfl rfl ?_
  by_cases h0 : w = 0
  · subst h0
    refine e_tswI (off := 63) (tgt := 64) rfl (by decide) (by decide) (by decide) (by decide) ?_
    iterate 2 refine e_sp rfl rfl rfl ?_
    refine e_iret rfl rfl (Nat.le_refl _) (Nat.le_refl _) ?_
    exact ⟨by simp [tdH], rfl⟩
  by_cases h1 : w = 1
  · subst h1
    refine e_tswI (off := 68) (tgt := 69) rfl (by decide) (by decide) (by decide) (by decide) ?_
    iterate 2 refine e_sp rfl rfl rfl ?_
    refine e_iret rfl rfl (Nat.le_refl _) (Nat.le_refl _) ?_
    exact ⟨by simp [tdH], rfl⟩
  by_cases h2 : w = 2
  · subst h2
    refine e_tswI (off := 73) (tgt := 74) rfl (by decide) (by decide) (by decide) (by decide) ?_
    iterate 3 refine e_sp rfl rfl rfl ?_
    refine e_iret rfl rfl (Nat.le_refl _) (Nat.le_refl _) ?_
    exact ⟨by simp [tdH], rfl⟩
  by_cases h3 : w = 3
  · subst h3
    refine e_tswI (off := 81) (tgt := 82) rfl (by decide) (by decide) (by decide) (by decide) ?_
    iterate 3 refine e_sp rfl rfl rfl ?_
    refine e_iret rfl rfl (Nat.le_refl _) (Nat.le_refl _) ?_
    exact ⟨by simp [tdH], rfl⟩
  by_cases h4 : w = 4
  · subst h4
    refine e_tswI (off := 89) (tgt := 90) rfl (by decide) (by decide) (by decide) (by decide) ?_
    iterate 3 refine e_sp rfl rfl rfl ?_
    refine e_iret rfl rfl (Nat.le_refl _) (Nat.le_refl _) ?_
    exact ⟨by simp [tdH], rfl⟩
  by_cases h5 : w = 5
  · subst h5
    refine e_tswI (off := 97) (tgt := 98) rfl (by decide) (by decide) (by decide) (by decide) ?_
    iterate 2 refine e_sp rfl rfl rfl ?_
    refine e_callV1 ok_B_planes rfl lk_H_103 (by rfl) (by rfl) (k_B_planes (m := m) hm hm2) rfl rfl ⟨Nat.le_of_ble_eq_true rfl, Nat.le_of_ble_eq_true rfl⟩ ⟨Nat.zero_le _, Nat.zero_le _⟩ (Nat.le_of_ble_eq_true rfl) ?_
    refine e_iret rfl rfl (Nat.le_refl _) (Nat.le_refl _) ?_
    exact ⟨by simp [tdH], rfl⟩
  by_cases h6 : w = 6
  · subst h6
    refine e_tswI (off := 105) (tgt := 106) rfl (by decide) (by decide) (by decide) (by decide) ?_
    iterate 3 refine e_sp rfl rfl rfl ?_
    refine e_iret rfl rfl (Nat.le_refl _) (Nat.le_refl _) ?_
    exact ⟨by simp [tdH], rfl⟩
  by_cases h7 : w = 7
  · subst h7
    refine e_tswI (off := 113) (tgt := 114) rfl (by decide) (by decide) (by decide) (by decide) ?_
    iterate 3 refine e_sp rfl rfl rfl ?_
    refine e_iret rfl rfl (Nat.le_refl _) (Nat.le_refl _) ?_
    exact ⟨by simp [tdH], rfl⟩
  by_cases h8 : w = 8
  · subst h8
    refine e_tswI (off := 121) (tgt := 122) rfl (by decide) (by decide) (by decide) (by decide) ?_
    iterate 2 refine e_sp rfl rfl rfl ?_
    refine e_callV1 ok_W_size rfl lk_H_242 (by rfl) (by rfl) k_W_size rfl rfl ⟨Nat.le_of_ble_eq_true rfl, Nat.le_of_ble_eq_true rfl⟩ ⟨Nat.zero_le _, Nat.zero_le _⟩ (Nat.le_of_ble_eq_true rfl) ?_
    refine e_iret rfl rfl (Nat.le_refl _) (Nat.le_refl _) ?_
    exact ⟨by simp [tdH], rfl⟩
  by_cases h9 : w = 9
  · subst h9
    refine e_tswI (off := 129) (tgt := 130) rfl (by decide) (by decide) (by decide) (by decide) ?_
    iterate 3 refine e_sp rfl rfl rfl ?_
    refine e_iret rfl rfl (Nat.le_refl _) (Nat.le_refl _) ?_
    exact ⟨by simp [tdH], rfl⟩
  by_cases h10 : w = 10
  · subst h10
    refine e_tswI (off := 137) (tgt := 138) rfl (by decide) (by decide) (by decide) (by decide) ?_
    iterate 2 refine e_sp rfl rfl rfl ?_
    refine e_callV1 ok_S_darkSamples rfl lk_H_215 (by rfl) (by rfl) (k_S_darkSamples_1 hh) rfl rfl ⟨Nat.le_of_ble_eq_true rfl, Nat.le_of_ble_eq_true rfl⟩ ⟨Nat.zero_le _, Nat.zero_le _⟩ (Nat.le_of_ble_eq_true rfl) ?_
    refine e_iret rfl rfl (Nat.le_refl _) (Nat.le_refl _) ?_
    exact ⟨by simp [tdH], rfl⟩
  by_cases h11 : w = 11
  · subst h11
    refine e_tswI (off := 145) (tgt := 146) rfl (by decide) (by decide) (by decide) (by decide) ?_
    iterate 2 refine e_sp rfl rfl rfl ?_
    refine e_iret rfl rfl (Nat.le_refl _) (Nat.le_refl _) ?_
    exact ⟨by simp [tdH], rfl⟩
  have hn : ∀ k : Int32, ¬ w = k → w.toInt ≠ k.toInt := fun k hk e => hk (Int32.toInt_inj.mp e)
  have g0 := hn 0 h0
  rw [show (0 : Int32).toInt = 0 from rfl] at g0
  have g1 := hn 1 h1
  rw [show (1 : Int32).toInt = 1 from rfl] at g1
  have g2 := hn 2 h2
  rw [show (2 : Int32).toInt = 2 from rfl] at g2
  have g3 := hn 3 h3
  rw [show (3 : Int32).toInt = 3 from rfl] at g3
  have g4 := hn 4 h4
  rw [show (4 : Int32).toInt = 4 from rfl] at g4
  have g5 := hn 5 h5
  rw [show (5 : Int32).toInt = 5 from rfl] at g5
  have g6 := hn 6 h6
  rw [show (6 : Int32).toInt = 6 from rfl] at g6
  have g7 := hn 7 h7
  rw [show (7 : Int32).toInt = 7 from rfl] at g7
  have g8 := hn 8 h8
  rw [show (8 : Int32).toInt = 8 from rfl] at g8
  have g9 := hn 9 h9
  rw [show (9 : Int32).toInt = 9 from rfl] at g9
  have g10 := hn 10 h10
  rw [show (10 : Int32).toInt = 10 from rfl] at g10
  have g11 := hn 11 h11
  rw [show (11 : Int32).toInt = 11 from rfl] at g11
  refine e_tswO (tgt := 151) rfl (by omega) (by decide) ?_
  refine e_ci (-1) rfl rfl ?_
  refine e_iret rfl rfl (Nat.le_refl _) (Nat.le_refl _) ?_
  exact ⟨by simp [tdH, h0, h1, h2, h3, h4, h5, h6, h7, h8, h9, h10, h11], rfl⟩
