/-! the reader leaves all but cells 17 and 19 alone, and keeps how many bytes came -/
theorem rbS_o {S : St} {o : Nat} (h : o ≠ 17) : (rbS S).1 o = S.1 o ∧ (rbS S).2 = S.2 := by
  unfold rbS
  split
  · exact ⟨puI_o h, rfl⟩
  · exact ⟨puI_o h, rfl⟩
theorem rdS_o {S : St} {o : Nat} (h : o ≠ 17) : ∀ n, (rdS S n).1 o = S.1 o ∧ (rdS S n).2 = S.2
  | 0 => ⟨rfl, rfl⟩
  | n + 1 => ⟨(rbS_o h).1.trans (rdS_o h n).1, (rbS_o h).2.trans (rdS_o h n).2⟩
theorem onS_o {o : Nat} (h : o ≠ 17) : ∀ f (S : St), (onS f S).1 o = S.1 o ∧ (onS f S).2 = S.2
  | 0, _ => ⟨rfl, rfl⟩
  | f + 1, S => by
    simp only [onS]
    split
    · exact ⟨(onS_o h f _).1.trans (rbS_o h).1, (onS_o h f _).2.trans (rbS_o h).2⟩
    · exact rbS_o h
theorem rrF_o {S : St} {v : Int32} {o : Nat} (h : o ≠ 17) (h2 : o ≠ 19) : (rrF S v).1 o = S.1 o ∧ (rrF S v).2 = S.2 := by
  unfold rrF
  split
  · split
    · exact ⟨(pacN19_o h2).1.trans (by rw [puI_o h, puI_o h]), (pacN19_o h2).2⟩
    · exact ⟨by rw [puI_o h, puI_o h], rfl⟩
  · exact ⟨rfl, rfl⟩
theorem rrF_came {S : St} {v : Int32} : (rrF S v).1 17 2 = S.1 17 2 := by
  unfold rrF
  split
  · split
    · rw [(pacN19_o (o := 17) (by decide)).1]
      simp [puI, pt, upd]
    · simp [puI, pt, upd]
  · rfl
theorem rrE_o {T : St} {on kk o : Nat} (h : o ≠ 17) (h2 : o ≠ 19) : (rrE T on kk).1 o = T.1 o ∧ (rrE T on kk).2 = T.2 := by
  unfold rrE
  split
  · exact ⟨(rrF_o h h2).1.trans (rdS_o h _).1, (rrF_o h h2).2.trans (rdS_o h _).2⟩
  · exact ⟨(rrF_o h h2).1.trans (rdS_o h _).1, (rrF_o h h2).2.trans (rdS_o h _).2⟩
theorem rrE_came {T : St} {on kk : Nat} : (rrE T on kk).1 17 2 = T.1 17 2 := by
  unfold rrE
  split
  · rw [rrF_came, rdS_came]
  · rw [rrF_came, rdS_came]
theorem rrS_o {S : St} {o : Nat} (h : o ≠ 17) (h2 : o ≠ 19) : (rrS S).1 o = S.1 o ∧ (rrS S).2 = S.2 := ⟨(rrE_o h h2).1.trans (onS_o h _ _).1, (rrE_o h h2).2.trans (onS_o h _ _).2⟩
theorem rrS_came {S : St} : (rrS S).1 17 2 = S.1 17 2 := by
  unfold rrS
  rw [rrE_came, onS_came]
theorem nbT_o {S : St} {o : Nat} (h : o ≠ 17) (h2 : o ≠ 19) : (nbT S).1 o = S.1 o ∧ (nbT S).2 = S.2 := by
  unfold nbT
  split
  · exact rrS_o h h2
  · exact ⟨rfl, rfl⟩
theorem nbT_came {S : St} : (nbT S).1 17 2 = S.1 17 2 := by
  unfold nbT
  split
  · exact rrS_came
  · rfl
theorem nbG_o {T : St} {o : Nat} (h : o ≠ 17) : (nbG T).1 o = T.1 o ∧ (nbG T).2 = T.2 := by
  unfold nbG nbU
  split
  · exact ⟨by rw [puI_o h, puI_o h], rfl⟩
  · exact ⟨rfl, rfl⟩
theorem nbG_came {T : St} : (nbG T).1 17 2 = T.1 17 2 := by
  unfold nbG nbU
  split
  · simp [puI, pt, upd]
  · rfl
theorem nbS_o {S : St} {o : Nat} (h : o ≠ 17) (h2 : o ≠ 19) : (nbS S).1 o = S.1 o ∧ (nbS S).2 = S.2 := ⟨(nbG_o h).1.trans (nbT_o h h2).1, (nbG_o h).2.trans (nbT_o h h2).2⟩
theorem nbS_came {S : St} : (nbS S).1 17 2 = S.1 17 2 := by unfold nbS; rw [nbG_came, nbT_came]
/-! readPlane: what is refused stays -/
def rpG (p : Int32) (i j : Nat) (T : St) (cx bt : Int32) : St := if (nbS T).1 17 7 = 0 then leF (abC (nbS T) (nI i) (nI j) p bt) cx bt else nbS T
def rpF (p : Int32) (i j : Nat) (T : St) : St := if T.1 17 7 = 0 then (if skH T (nI i) (nI j) = 0 then rpG p i j T (ctC T (nI i) (nI j) p) (nbV T (ftF T (ctC T (nI i) (nI j) p))) else T) else T
def rpH (S : St) (c r : Nat) (p : Int32) : St := pO (rpF p) c r (bpF S)
theorem rpF_o {p : Int32} {i j : Nat} {T : St} {o : Nat} (h : o ≠ 10) (h2 : o ≠ 12) (h3 : o ≠ 13) (h4 : o ≠ 17) (h5 : o ≠ 19) : (rpF p i j T).1 o = T.1 o ∧ (rpF p i j T).2 = T.2 := by
  unfold rpF rpG
  split
  · split
    · split
      · exact ⟨(leF_o h2 h3).1.trans ((abC_o h).1.trans (nbS_o h4 h5).1), (leF_o h2 h3).2.trans ((abC_o h).2.trans (nbS_o h4 h5).2)⟩
      · exact nbS_o h4 h5
    · exact ⟨rfl, rfl⟩
  · exact ⟨rfl, rfl⟩
theorem rpF_came {p : Int32} {i j : Nat} {T : St} : (rpF p i j T).1 17 2 = T.1 17 2 := by
  unfold rpF rpG
  split
  · split
    · split
      · rw [(leF_o (o := 17) (by decide) (by decide)).1, (abC_o (o := 17) (by decide)).1, nbS_came]
      · exact nbS_came
    · rfl
  · rfl
theorem rpF_stop {p : Int32} {i j : Nat} {T : St} (h : ¬ T.1 17 7 = 0) : rpF p i j T = T := if_neg h
theorem pI_stop {F : Nat → Nat → St → St} (hF : ∀ i j T, ¬ T.1 17 7 = 0 → F i j T = T) {j i : Nat} {T : St} (h : ¬ (pI F j i T).1 17 7 = 0) : ∀ k, pI F j (i + k) T = pI F j i T
  | 0 => rfl
  | k + 1 => by
    have e := pI_stop hF h k
    show F (i + k) j (pI F j (i + k) T) = _
    rw [e]
    exact hF _ _ _ h
theorem pO_stop {F : Nat → Nat → St → St} (hF : ∀ i j T, ¬ T.1 17 7 = 0 → F i j T = T) {c j : Nat} {T : St} (h : ¬ (pO F c j T).1 17 7 = 0) : ∀ k, pO F c (j + k) T = pO F c j T
  | 0 => rfl
  | k + 1 => by
    have e := pO_stop hF h k
    show pI F (j + k) c (pO F c (j + k) T) = _
    rw [e]
    have e2 := pI_stop hF (j := j + k) (i := 0) (T := pO F c j T) h c
    rw [Nat.zero_add] at e2
    exact e2
theorem pO_stopI {F : Nat → Nat → St → St} (hF : ∀ i j T, ¬ T.1 17 7 = 0 → F i j T = T) {c r j i : Nat} {T : St} (hj : j < r) (hi : i ≤ c) (h : ¬ (pI F j i (pO F c j T)).1 17 7 = 0) : pO F c r T = pI F j i (pO F c j T) := by
  have e1 := pI_stop hF h (c - i)
  rw [show i + (c - i) = c by omega] at e1
  have e2 : pO F c (j + 1) T = pI F j i (pO F c j T) := e1
  have e3 := pO_stop hF (j := j + 1) (T := T) (c := c) (by rw [e2]; exact h) (r - (j + 1))
  rw [show j + 1 + (r - (j + 1)) = r by omega] at e3
  rw [e3, e2]
theorem rpO_o {p : Int32} {c j : Nat} {S : St} {o : Nat} (h : o ≠ 10) (h2 : o ≠ 12) (h3 : o ≠ 13) (h4 : o ≠ 17) (h5 : o ≠ 19) : (pO (rpF p) c j S).1 o = S.1 o ∧ (pO (rpF p) c j S).2 = S.2 :=
  pO_inv (fun T => T.1 o = S.1 o ∧ T.2 = S.2) (fun i j T hT => ⟨(rpF_o h h2 h3 h4 h5).1.trans hT.1, (rpF_o h h2 h3 h4 h5).2.trans hT.2⟩) j S ⟨rfl, rfl⟩
theorem rpI_o {p : Int32} {i j : Nat} {S : St} {o : Nat} (h : o ≠ 10) (h2 : o ≠ 12) (h3 : o ≠ 13) (h4 : o ≠ 17) (h5 : o ≠ 19) : (pI (rpF p) j i S).1 o = S.1 o ∧ (pI (rpF p) j i S).2 = S.2 :=
  pI_inv (fun T => T.1 o = S.1 o ∧ T.2 = S.2) (fun i T hT => ⟨(rpF_o h h2 h3 h4 h5).1.trans hT.1, (rpF_o h h2 h3 h4 h5).2.trans hT.2⟩) i S ⟨rfl, rfl⟩
theorem rpO_came {p : Int32} {c j : Nat} {S : St} : (pO (rpF p) c j S).1 17 2 = S.1 17 2 := pO_inv (fun T => T.1 17 2 = S.1 17 2) (fun i j T hT => rpF_came.trans hT) j S rfl
theorem rpI_came {p : Int32} {i j : Nat} {S : St} : (pI (rpF p) j i S).1 17 2 = S.1 17 2 := pI_inv (fun T => T.1 17 2 = S.1 17 2) (fun i T hT => rpF_came.trans hT) i S rfl
theorem leab_17 {S : St} {i j p b cx bt : Int32} : (leF (abC S i j p b) cx bt).1 17 = S.1 17 := by rw [(leF_o (by decide) (by decide)).1, (abC_o (by decide)).1]
set_option maxHeartbeats 4000000 in
set_option maxRecDepth 40000 in
theorem k_H_readPlane {l : Launch} {h : Nat} {S : St} {c r cm : Nat} {p : Int32} (hc : S.1 7 1 = nI c) (hr : S.1 7 2 = nI r) (hc2 : c < 2 ^ 31) (hr2 : r < 2 ^ 31) (hcm : S.1 17 2 = nI cm) (hcm2 : cm ≤ 3000) (h7 : S.1 17 7 = 0) : KK l (SHm h) (5, 111) m_H_readPlane [aR 0, aI p] S (ans none (rpH S c r p)) := by
  refine k_start ok_H_readPlane (Nat.le_of_ble_eq_true rfl) ?_
  have hrow : ∀ j, (pO (rpF p) c j (bpF S)).1 7 2 = nI r := fun j => by
    rw [(rpO_o (by decide) (by decide) (by decide) (by decide) (by decide)).1, (bpF_o (by decide) (by decide)).1]; exact hr
  have hcol : ∀ j i, (pI (rpF p) j i (pO (rpF p) c j (bpF S))).1 7 1 = nI c := fun j i => by
    rw [(rpI_o (by decide) (by decide) (by decide) (by decide) (by decide)).1, (rpO_o (by decide) (by decide) (by decide) (by decide) (by decide)).1, (bpF_o (by decide) (by decide)).1]; exact hc
  have hcame : ∀ j i, (pI (rpF p) j i (pO (rpF p) c j (bpF S))).1 17 2 = nI cm := fun j i => by
    rw [rpI_came, rpO_came, (bpF_o (by decide) (by decide)).1]; exact hcm
  have L1 := e_for (P := fun j => ∀ z3 z4 z5 (_ : (pO (rpF p) c j (bpF S)).1 17 7 = 0), E0 l (SHm h) (5, 111) m_H_readPlane 9 [some (aR 0), some (aI p), some (aI (nI j)), z3, z4, z5] [] (pO (rpF p) c j (bpF S)) (ans none (rpH S c r p))) (r) (by
      intro z3 z4 z5 hz
      iterate 4 refine e_sp rfl rfl rfl ?_
      refine e_icge rfl (fun h1 => ?_) (fun h1 => ?_)
      · refine e_vret rfl rfl (Nat.le_refl _) (Nat.le_refl _) ?_
        exact ⟨rfl, rfl⟩
      · try dsimp only
        rw [hrow] at h1
        exact absurd (nI_le (Nat.le_refl _) hr2) h1) (fun j hj ihj => by
      intro z3 z4 z5 hz
      iterate 4 refine e_sp rfl rfl rfl ?_
      refine e_icge rfl (fun h1 => ?_) (fun h1 => ?_)
      · try dsimp only
        rw [hrow] at h1
        exact absurd h1 (nI_ge hj hr2)
      · refine e_ci 0 rfl rfl ?_
        iterate 1 refine e_sp rfl rfl rfl ?_
        try dsimp only
        have L2 := e_for (P := fun i => ∀ z4 z5 (_ : (pI (rpF p) j i (pO (rpF p) c j (bpF S))).1 17 7 = 0), E0 l (SHm h) (5, 111) m_H_readPlane 22 [some (aR 0), some (aI p), some (aI (nI j)), some (aI (nI i)), z4, z5] [] (pI (rpF p) j i (pO (rpF p) c j (bpF S))) (ans none (rpH S c r p))) (c) (by
            intro z4 z5 hz
            iterate 4 refine e_sp rfl rfl rfl ?_
            refine e_icge rfl (fun h1 => ?_) (fun h1 => ?_)
            · refine e_inc 1 rfl rfl rfl rfl ?_
              refine e_goto rfl ?_
              try dsimp only
              rw [nI_1]
              exact ihj _ _ _ hz
            · try dsimp only
              rw [hcol] at h1
              exact absurd (nI_le (Nat.le_refl _) hc2) h1) (fun i hi ihi => by
            intro z4 z5 hz
            iterate 4 refine e_sp rfl rfl rfl ?_
            refine e_icge rfl (fun h1 => ?_) (fun h1 => ?_)
            · try dsimp only
              rw [hcol] at h1
              exact absurd h1 (nI_ge hi hc2)
            · iterate 3 refine e_sp rfl rfl rfl ?_
              refine e_callV1 ok_H_isSkipped rfl lk_H_222 (by rfl) (by rfl) k_H_isSkipped rfl rfl ⟨Nat.le_of_ble_eq_true rfl, Nat.le_of_ble_eq_true rfl⟩ ⟨Nat.zero_le _, Nat.zero_le _⟩ (Nat.le_of_ble_eq_true rfl) ?_
              refine e_ifne rfl (fun h2 => ?_) (fun h2 => ?_)
              · refine e_inc 1 rfl rfl rfl rfl ?_
                refine e_goto rfl ?_
                try dsimp only
                rw [nI_1]
                simp only [pI, rpF, rpG] at ihi
                rw [if_pos hz] at ihi
                rw [if_neg h2] at ihi
                exact ihi _ _ hz
              · iterate 5 refine e_sp rfl rfl rfl ?_
                refine e_callV1 ok_C_contextOf rfl lk_H_327 (by rfl) (by rfl) k_C_contextOf rfl rfl ⟨Nat.le_of_ble_eq_true rfl, Nat.le_of_ble_eq_true rfl⟩ ⟨Nat.zero_le _, Nat.zero_le _⟩ (Nat.le_of_ble_eq_true rfl) ?_
                iterate 6 refine e_sp rfl rfl rfl ?_
                refine e_callV1 ok_F_foretold rfl lk_H_333 (by rfl) (by rfl) k_F_foretold rfl rfl ⟨Nat.le_of_ble_eq_true rfl, Nat.le_of_ble_eq_true rfl⟩ ⟨Nat.zero_le _, Nat.zero_le _⟩ (Nat.le_of_ble_eq_true rfl) ?_
                refine e_callV1 ok_R_nextBit rfl lk_H_342 (by rfl) (by rfl) (k_R_nextBit ((hcame j i)) hcm2) rfl rfl ⟨Nat.le_of_ble_eq_true rfl, Nat.le_of_ble_eq_true rfl⟩ ⟨Nat.zero_le _, Nat.zero_le _⟩ (Nat.le_of_ble_eq_true rfl) ?_
                iterate 4 refine e_sp rfl rfl rfl ?_
                refine e_ifeq rfl (fun h3 => ?_) (fun h3 => ?_)
                · iterate 6 refine e_sp rfl rfl rfl ?_
                  refine e_callV0 ok_C_addBit rfl lk_H_345 (by rfl) (by rfl) k_C_addBit rfl rfl ⟨Nat.le_of_ble_eq_true rfl, Nat.le_of_ble_eq_true rfl⟩ ⟨Nat.zero_le _, Nat.zero_le _⟩ (Nat.le_of_ble_eq_true rfl) ?_
                  iterate 4 refine e_sp rfl rfl rfl ?_
                  refine e_callV0 ok_F_learn rfl lk_H_339 (by rfl) (by rfl) k_F_learn rfl rfl ⟨Nat.le_of_ble_eq_true rfl, Nat.le_of_ble_eq_true rfl⟩ ⟨Nat.zero_le _, Nat.zero_le _⟩ (Nat.le_of_ble_eq_true rfl) ?_
                  refine e_inc 1 rfl rfl rfl rfl ?_
                  refine e_goto rfl ?_
                  try dsimp only
                  rw [nI_1]
                  simp only [pI, rpF, rpG] at ihi
                  rw [if_pos hz] at ihi
                  rw [if_pos h2, if_pos h3] at ihi
                  exact ihi _ _ (by rw [leab_17]; exact h3)
                · refine e_vret rfl rfl (Nat.le_refl _) (Nat.le_refl _) ?_
                  have e9 : pI (rpF p) j (i + 1) (pO (rpF p) c j (bpF S)) = nbS (pI (rpF p) j i (pO (rpF p) c j (bpF S))) := by
                    simp only [pI, rpF, rpG]
                    rw [if_pos hz, if_pos h2, if_neg h3]
                  refine ⟨rfl, ?_⟩
                  rw [rpH, pO_stopI (fun _ _ _ h => rpF_stop h) hj (show i + 1 ≤ c by omega) (by rw [e9]; exact h3), e9])
        exact L2 _ _ hz)
  iterate 2 refine e_sp rfl rfl rfl ?_
  refine e_callV0 ok_F_beginPlane rfl lk_H_229 (by rfl) (by rfl) k_F_beginPlane rfl rfl ⟨Nat.le_of_ble_eq_true rfl, Nat.le_of_ble_eq_true rfl⟩ ⟨Nat.zero_le _, Nat.zero_le _⟩ (Nat.le_of_ble_eq_true rfl) ?_
  refine e_ci 0 rfl rfl ?_
  iterate 1 refine e_sp rfl rfl rfl ?_
  try dsimp only
  exact L1 _ _ _ (by show (bpF S).1 17 7 = 0; rw [(bpF_o (by decide) (by decide)).1]; exact h7)
