/-! which cells a step leaves alone -/
theorem puI_o {S : St} {o k q : Nat} {v : Int32} (h : q ≠ o) : (puI S o k v).1 q = S.1 q := pt_n h
theorem flI_o {S : St} {o n q : Nat} {v : Int32} (h : q ≠ o) : (flI S o v n).1 q = S.1 q := pt_n h
theorem wr1_o {S : St} {v b : Int32} {o : Nat} (h : o ≠ 14) (h2 : o ≠ 15) : (wr1 S v b).1 o = S.1 o ∧ (wr1 S v b).2 = S.2 := by
  unfold wr1
  split
  · exact ⟨rfl, rfl⟩
  · exact ⟨by rw [puI_o h, puI_o h2], rfl⟩
theorem wr1_k {S : St} {v b : Int32} {k : Nat} (h : k ≠ 2) : (wr1 S v b).1 14 k = S.1 14 k := by
  unfold wr1
  split
  · rfl
  · simp [puI, pt, upd, h]
theorem wrS_o {v : Int32} {o : Nat} (h : o ≠ 14) (h2 : o ≠ 15) : ∀ (n : Nat) (S : St), (wrS v n S).1 o = S.1 o ∧ (wrS v n S).2 = S.2
  | 0, _ => ⟨rfl, rfl⟩
  | n + 1, S => by
    obtain ⟨e1, e2⟩ := wrS_o h h2 n (wr1 S v (nI n))
    obtain ⟨e3, e4⟩ := wr1_o (S := S) (v := v) (b := nI n) h h2
    exact ⟨e1.trans e3, e2.trans e4⟩
theorem wrS_k {v : Int32} {k : Nat} (h : k ≠ 2) : ∀ (n : Nat) (S : St), (wrS v n S).1 14 k = S.1 14 k
  | 0, _ => rfl
  | n + 1, S => (wrS_k h n (wr1 S v (nI n))).trans (wr1_k h)
theorem pacN16_o {S : St} {r : Int32} {o : Nat} (h : o ≠ 16) : (pacN_16 S r).1 o = S.1 o ∧ (pacN_16 S r).2 = S.2 := by
  unfold pacN_16
  split
  · exact ⟨by rw [puI_o h, puI_o h, puI_o h, puI_o h], rfl⟩
  · exact ⟨by rw [puI_o h, puI_o h], rfl⟩
theorem pacN19_o {S : St} {r : Int32} {o : Nat} (h : o ≠ 19) : (pacN_19 S r).1 o = S.1 o ∧ (pacN_19 S r).2 = S.2 := by
  unfold pacN_19
  split
  · exact ⟨by rw [puI_o h, puI_o h, puI_o h, puI_o h], rfl⟩
  · exact ⟨by rw [puI_o h, puI_o h], rfl⟩
theorem fiW_o {S : St} {o : Nat} (h : o ≠ 14) (h2 : o ≠ 16) : (fiW S).1 o = S.1 o ∧ (fiW S).2 = S.2 := by
  unfold fiW
  refine ⟨?_, (pacN16_o h2).2⟩
  rw [puI_o h, puI_o h, (pacN16_o h2).1]
theorem fiW_run (S : St) : (fiW S).1 14 3 = 0 := by simp [fiW, puI, pt, upd]
theorem enW_o {S : St} {r o : Nat} (h : o ≠ 14) (h2 : o ≠ 15) (h3 : o ≠ 16) : (enW S r).1 o = S.1 o ∧ (enW S r).2 = S.2 := by
  unfold enW
  split
  · exact ⟨(fiW_o h h3).1.trans (((wrS_o h h2 _ _).1).trans (wrS_o h h2 _ _).1), (fiW_o h h3).2.trans (((wrS_o h h2 _ _).2).trans (wrS_o h h2 _ _).2)⟩
  · exact ⟨(fiW_o h h3).1.trans (((wrS_o h h2 _ _).1).trans (wrS_o h h2 _ _).1), (fiW_o h h3).2.trans (((wrS_o h h2 _ _).2).trans (wrS_o h h2 _ _).2)⟩
theorem enW_run (S : St) (r : Nat) : (enW S r).1 14 3 = 0 := by
  unfold enW
  split
  · exact fiW_run _
  · exact fiW_run _
theorem teW_o {S : St} {v : Int32} {o : Nat} (h : o ≠ 14) (h2 : o ≠ 15) (h3 : o ≠ 16) : (teW S v).1 o = S.1 o ∧ (teW S v).2 = S.2 := by
  unfold teW
  split
  · exact enW_o h h2 h3
  · exact ⟨puI_o h, rfl⟩
theorem leF_o {S : St} {c b : Int32} {o : Nat} (h : o ≠ 12) (h2 : o ≠ 13) : (leF S c b).1 o = S.1 o ∧ (leF S c b).2 = S.2 := by
  unfold leF
  split
  · exact ⟨rfl, rfl⟩
  · exact ⟨by rw [puI_o h2, puI_o h], rfl⟩
theorem abC_o {S : St} {i j p b : Int32} {o : Nat} (h : o ≠ 10) : (abC S i j p b).1 o = S.1 o ∧ (abC S i j p b).2 = S.2 := by
  unfold abC
  split
  · exact ⟨rfl, rfl⟩
  · exact ⟨puI_o h, rfl⟩
theorem cgS_o {S : St} {i j g : Int32} {o : Nat} (h : o ≠ 8) : (cgS S i j g).1 o = S.1 o ∧ (cgS S i j g).2 = S.2 := by
  unfold cgS
  split
  · exact ⟨rfl, rfl⟩
  · exact ⟨puI_o h, rfl⟩
def bpF (S : St) : St := flI (flI S 12 (-1) 64) 13 0 64
theorem bpF_o {S : St} {o : Nat} (h : o ≠ 12) (h2 : o ≠ 13) : (bpF S).1 o = S.1 o ∧ (bpF S).2 = S.2 := ⟨by unfold bpF; rw [flI_o h2, flI_o h], rfl⟩
/-! writePlane -/
def wpF (p : Int32) (i j : Nat) (T : St) : St := if skH T (nI i) (nI j) = 0 then leF (teW T (if btC T (nI i) (nI j) p = ftF T (ctC T (nI i) (nI j) p) then 1 else 0)) (ctC T (nI i) (nI j) p) (btC T (nI i) (nI j) p) else T
def wpH (S : St) (c r : Nat) (p : Int32) : St := pO (wpF p) c r (bpF S)
theorem wpF_o {p : Int32} {i j : Nat} {T : St} {o : Nat} (h : o ≠ 12) (h2 : o ≠ 13) (h3 : o ≠ 14) (h4 : o ≠ 15) (h5 : o ≠ 16) : (wpF p i j T).1 o = T.1 o ∧ (wpF p i j T).2 = T.2 := by
  unfold wpF
  split
  · exact ⟨(leF_o h h2).1.trans (teW_o h3 h4 h5).1, (leF_o h h2).2.trans (teW_o h3 h4 h5).2⟩
  · exact ⟨rfl, rfl⟩
def runOK (n : Nat) (T : St) : Prop := ∃ r, r ≤ n ∧ T.1 14 3 = nI r
theorem runOK.mono {n m : Nat} {T : St} (h : runOK n T) (hm : n ≤ m) : runOK m T := by
  obtain ⟨r, h1, h2⟩ := h
  exact ⟨r, Nat.le_trans h1 hm, h2⟩
theorem runOK.pos {n : Nat} {T : St} (h : runOK n T) (hn : n < 2 ^ 31) : ¬ T.1 14 3 < 0 := by
  obtain ⟨r, h1, h2⟩ := h
  rw [h2]
  exact nI_pos (by omega)
theorem teW_run {n : Nat} {T : St} {v : Int32} (h : runOK n T) : runOK (n + 1) (teW T v) := by
  unfold teW
  split
  · exact ⟨0, Nat.zero_le _, enW_run _ _⟩
  · obtain ⟨r, h1, h2⟩ := h
    refine ⟨r + 1, by omega, ?_⟩
    rw [← nI_1, ← h2]
    simp [puI, pt, upd]
theorem wpF_run {p : Int32} {i j n : Nat} {T : St} (h : runOK n T) : runOK (n + 1) (wpF p i j T) := by
  unfold wpF
  split
  · have e : ∀ X c b, (leF X c b).1 14 3 = X.1 14 3 := fun X c b => by rw [(leF_o (S := X) (c := c) (b := b) (o := 14) (by decide) (by decide)).1]
    obtain ⟨r, h1, h2⟩ := teW_run (v := if btC T (nI i) (nI j) p = ftF T (ctC T (nI i) (nI j) p) then 1 else 0) h
    exact ⟨r, h1, by rw [e]; exact h2⟩
  · exact h.mono (by omega)
theorem wpI_run {p : Int32} {j n : Nat} : ∀ (i : Nat) (T : St), runOK n T → runOK (n + i) (pI (wpF p) j i T)
  | 0, _, h => h
  | i + 1, T, h => wpF_run (wpI_run i T h)
theorem wpO_run {p : Int32} {c n : Nat} : ∀ (j : Nat) (T : St), runOK n T → runOK (n + c * j) (pO (wpF p) c j T)
  | 0, _, h => h
  | j + 1, T, h => by
    have := wpI_run (p := p) (j := j) c _ (wpO_run (p := p) (c := c) j T h)
    exact this.mono (by rw [Nat.mul_succ]; omega)
theorem wpO_o {p : Int32} {c j : Nat} {S : St} {o : Nat} (h : o ≠ 12) (h2 : o ≠ 13) (h3 : o ≠ 14) (h4 : o ≠ 15) (h5 : o ≠ 16) : (pO (wpF p) c j S).1 o = S.1 o ∧ (pO (wpF p) c j S).2 = S.2 :=
  pO_inv (fun T => T.1 o = S.1 o ∧ T.2 = S.2) (fun i j T hT => ⟨(wpF_o h h2 h3 h4 h5).1.trans hT.1, (wpF_o h h2 h3 h4 h5).2.trans hT.2⟩) j S ⟨rfl, rfl⟩
theorem wpI_o {p : Int32} {i j : Nat} {S : St} {o : Nat} (h : o ≠ 12) (h2 : o ≠ 13) (h3 : o ≠ 14) (h4 : o ≠ 15) (h5 : o ≠ 16) : (pI (wpF p) j i S).1 o = S.1 o ∧ (pI (wpF p) j i S).2 = S.2 :=
  pI_inv (fun T => T.1 o = S.1 o ∧ T.2 = S.2) (fun i T hT => ⟨(wpF_o h h2 h3 h4 h5).1.trans hT.1, (wpF_o h h2 h3 h4 h5).2.trans hT.2⟩) i S ⟨rfl, rfl⟩
set_option maxHeartbeats 4000000 in
set_option maxRecDepth 40000 in
theorem k_H_writePlane {l : Launch} {h : Nat} {S : St} {c r n : Nat} {p : Int32} (hc : S.1 7 1 = nI c) (hr : S.1 7 2 = nI r) (hc2 : c < 2 ^ 31) (hr2 : r < 2 ^ 31) (hn : runOK n S) (hn2 : n + c * r + c < 2 ^ 31) : KK l (SHm h) (4, 93) m_H_writePlane [aR 0, aI p] S (ans none (wpH S c r p)) := by
  refine k_start ok_H_writePlane (Nat.le_of_ble_eq_true rfl) ?_
  have hn0 : runOK n (bpF S) := by
    obtain ⟨q, h1, h2⟩ := hn
    exact ⟨q, h1, by rw [(bpF_o (by decide) (by decide)).1]; exact h2⟩
  have hrow : ∀ j, (pO (wpF p) c j (bpF S)).1 7 2 = nI r := fun j => by
    rw [(wpO_o (by decide) (by decide) (by decide) (by decide) (by decide)).1, (bpF_o (by decide) (by decide)).1]; exact hr
  have hcol : ∀ j i, (pI (wpF p) j i (pO (wpF p) c j (bpF S))).1 7 1 = nI c := fun j i => by
    rw [(wpI_o (by decide) (by decide) (by decide) (by decide) (by decide)).1, (wpO_o (by decide) (by decide) (by decide) (by decide) (by decide)).1, (bpF_o (by decide) (by decide)).1]; exact hc
  have hrun : ∀ j i, j < r → i < c → ¬ (pI (wpF p) j i (pO (wpF p) c j (bpF S))).1 14 3 < 0 := fun j i hj hi => by
    have h1 := wpI_run (p := p) (j := j) i _ (wpO_run (p := p) (c := c) j _ hn0)
    refine h1.pos ?_
    have h2 : c * j ≤ c * r := Nat.mul_le_mul_left c (Nat.le_of_lt hj)
    omega
  have L1 := e_for (P := fun j => ∀ z3 z4 z5, E0 l (SHm h) (4, 93) m_H_writePlane 9 [some (aR 0), some (aI p), some (aI (nI j)), z3, z4, z5] [] (pO (wpF p) c j (bpF S)) (ans none (wpH S c r p))) (r) (by
      intro z3 z4 z5
      iterate 4 refine e_sp rfl rfl rfl ?_
      refine e_icge rfl (fun h1 => ?_) (fun h1 => ?_)
      · refine e_vret rfl rfl (Nat.le_refl _) (Nat.le_refl _) ?_
        exact ⟨rfl, rfl⟩
      · try dsimp only
        rw [hrow] at h1
        exact absurd (nI_le (Nat.le_refl _) hr2) h1) (fun j hj ihj => by
      intro z3 z4 z5
      iterate 4 refine e_sp rfl rfl rfl ?_
      refine e_icge rfl (fun h1 => ?_) (fun h1 => ?_)
      · try dsimp only
        rw [hrow] at h1
        exact absurd h1 (nI_ge hj hr2)
      · refine e_ci 0 rfl rfl ?_
        iterate 1 refine e_sp rfl rfl rfl ?_
        try dsimp only
        have L2 := e_for (P := fun i => ∀ z4 z5, E0 l (SHm h) (4, 93) m_H_writePlane 22 [some (aR 0), some (aI p), some (aI (nI j)), some (aI (nI i)), z4, z5] [] (pI (wpF p) j i (pO (wpF p) c j (bpF S))) (ans none (wpH S c r p))) (c) (by
            intro z4 z5
            iterate 4 refine e_sp rfl rfl rfl ?_
            refine e_icge rfl (fun h1 => ?_) (fun h1 => ?_)
            · refine e_inc 1 rfl rfl rfl rfl ?_
              refine e_goto rfl ?_
              try dsimp only
              rw [nI_1]
              exact ihj _ _ _
            · try dsimp only
              rw [hcol] at h1
              exact absurd (nI_le (Nat.le_refl _) hc2) h1) (fun i hi ihi => by
            intro z4 z5
            iterate 4 refine e_sp rfl rfl rfl ?_
            refine e_icge rfl (fun h1 => ?_) (fun h1 => ?_)
            · try dsimp only
              rw [hcol] at h1
              exact absurd h1 (nI_ge hi hc2)
            · iterate 3 refine e_sp rfl rfl rfl ?_
              refine e_callV1 ok_H_isSkipped rfl lk_H_222 (by rfl) (by rfl) k_H_isSkipped rfl rfl ⟨Nat.le_of_ble_eq_true rfl, Nat.le_of_ble_eq_true rfl⟩ ⟨Nat.zero_le _, Nat.zero_le _⟩ (Nat.le_of_ble_eq_true rfl) ?_
              refine e_ifne rfl (fun h2 => ?_) (fun h2 => ?_)
              · refine e_inc 1 rfl rfl rfl rfl ?_
                refine e_goto rfl ?_
                try dsimp only
                rw [nI_1]
                simp only [pI, wpF] at ihi
                first | rw [if_pos h2] at ihi | rw [if_neg h2] at ihi
                exact ihi _ _
              · iterate 5 refine e_sp rfl rfl rfl ?_
                refine e_callV1 ok_C_contextOf rfl lk_H_327 (by rfl) (by rfl) k_C_contextOf rfl rfl ⟨Nat.le_of_ble_eq_true rfl, Nat.le_of_ble_eq_true rfl⟩ ⟨Nat.zero_le _, Nat.zero_le _⟩ (Nat.le_of_ble_eq_true rfl) ?_
                iterate 6 refine e_sp rfl rfl rfl ?_
                refine e_callV1 ok_C_bitOf rfl lk_H_330 (by rfl) (by rfl) k_C_bitOf rfl rfl ⟨Nat.le_of_ble_eq_true rfl, Nat.le_of_ble_eq_true rfl⟩ ⟨Nat.zero_le _, Nat.zero_le _⟩ (Nat.le_of_ble_eq_true rfl) ?_
                iterate 7 refine e_sp rfl rfl rfl ?_
                refine e_callV1 ok_F_foretold rfl lk_H_333 (by rfl) (by rfl) k_F_foretold rfl rfl ⟨Nat.le_of_ble_eq_true rfl, Nat.le_of_ble_eq_true rfl⟩ ⟨Nat.zero_le _, Nat.zero_le _⟩ (Nat.le_of_ble_eq_true rfl) ?_
                refine e_icne rfl (fun h3 => ?_) (fun h3 => ?_)
                · refine e_ci 0 rfl rfl ?_
                  refine e_callV0 ok_W_tell rfl lk_H_336 (by rfl) (by rfl) (k_W_tell (hrun j i hj hi)) rfl rfl ⟨Nat.le_of_ble_eq_true rfl, Nat.le_of_ble_eq_true rfl⟩ ⟨Nat.zero_le _, Nat.zero_le _⟩ (Nat.le_of_ble_eq_true rfl) ?_
                  iterate 4 refine e_sp rfl rfl rfl ?_
                  refine e_callV0 ok_F_learn rfl lk_H_339 (by rfl) (by rfl) k_F_learn rfl rfl ⟨Nat.le_of_ble_eq_true rfl, Nat.le_of_ble_eq_true rfl⟩ ⟨Nat.zero_le _, Nat.zero_le _⟩ (Nat.le_of_ble_eq_true rfl) ?_
                  refine e_inc 1 rfl rfl rfl rfl ?_
                  refine e_goto rfl ?_
                  try dsimp only
                  rw [nI_1]
                  simp only [pI, wpF] at ihi
                  first | rw [if_pos h2] at ihi | rw [if_neg h2] at ihi
                  first | rw [if_pos h3] at ihi | rw [if_neg h3] at ihi
                  exact ihi _ _
                · refine e_ci 1 rfl rfl ?_
                  refine e_goto rfl ?_
                  refine e_callV0 ok_W_tell rfl lk_H_336 (by rfl) (by rfl) (k_W_tell (hrun j i hj hi)) rfl rfl ⟨Nat.le_of_ble_eq_true rfl, Nat.le_of_ble_eq_true rfl⟩ ⟨Nat.zero_le _, Nat.zero_le _⟩ (Nat.le_of_ble_eq_true rfl) ?_
                  iterate 4 refine e_sp rfl rfl rfl ?_
                  refine e_callV0 ok_F_learn rfl lk_H_339 (by rfl) (by rfl) k_F_learn rfl rfl ⟨Nat.le_of_ble_eq_true rfl, Nat.le_of_ble_eq_true rfl⟩ ⟨Nat.zero_le _, Nat.zero_le _⟩ (Nat.le_of_ble_eq_true rfl) ?_
                  refine e_inc 1 rfl rfl rfl rfl ?_
                  refine e_goto rfl ?_
                  try dsimp only
                  rw [nI_1]
                  simp only [pI, wpF] at ihi
                  first | rw [if_pos h2] at ihi | rw [if_neg h2] at ihi
                  first | rw [if_pos h3] at ihi | rw [if_neg h3] at ihi
                  exact ihi _ _)
        exact L2 _ _)
  iterate 2 refine e_sp rfl rfl rfl ?_
  refine e_callV0 ok_F_beginPlane rfl lk_H_229 (by rfl) (by rfl) k_F_beginPlane rfl rfl ⟨Nat.le_of_ble_eq_true rfl, Nat.le_of_ble_eq_true rfl⟩ ⟨Nat.zero_le _, Nat.zero_le _⟩ (Nat.le_of_ble_eq_true rfl) ?_
  refine e_ci 0 rfl rfl ?_
  iterate 1 refine e_sp rfl rfl rfl ?_
  try dsimp only
  exact L1 _ _ _
/-! takeGreys -/
def tgF (i j : Nat) (T : St) : St := cgS T (nI i) (nI j) (grC T (nI i) (nI j))
def tgH (S : St) (c r : Nat) : St := pO tgF c r S
theorem tgO_o {c j : Nat} {S : St} {o : Nat} (h : o ≠ 8) : (pO tgF c j S).1 o = S.1 o ∧ (pO tgF c j S).2 = S.2 :=
  pO_inv (fun T => T.1 o = S.1 o ∧ T.2 = S.2) (fun i j T hT => ⟨(cgS_o h).1.trans hT.1, (cgS_o h).2.trans hT.2⟩) j S ⟨rfl, rfl⟩
theorem tgI_o {i j : Nat} {S : St} {o : Nat} (h : o ≠ 8) : (pI tgF j i S).1 o = S.1 o ∧ (pI tgF j i S).2 = S.2 :=
  pI_inv (fun T => T.1 o = S.1 o ∧ T.2 = S.2) (fun i T hT => ⟨(cgS_o h).1.trans hT.1, (cgS_o h).2.trans hT.2⟩) i S ⟨rfl, rfl⟩
set_option maxHeartbeats 4000000 in
set_option maxRecDepth 40000 in
theorem k_H_takeGreys {l : Launch} {h : Nat} {S : St} {c r : Nat} (hc : S.1 7 1 = nI c) (hr : S.1 7 2 = nI r) (hc2 : c < 2 ^ 31) (hr2 : r < 2 ^ 31) : KK l (SHm h) (3, 69) m_H_takeGreys [aR 0] S (ans none (tgH S c r)) := by
  refine k_start ok_H_takeGreys (Nat.le_of_ble_eq_true rfl) ?_
  have hrow : ∀ j, (pO tgF c j S).1 7 2 = nI r := fun j => by rw [(tgO_o (by decide)).1]; exact hr
  have hcol : ∀ j i, (pI tgF j i (pO tgF c j S)).1 7 1 = nI c := fun j i => by rw [(tgI_o (by decide)).1, (tgO_o (by decide)).1]; exact hc
  have L1 := e_for (P := fun j => ∀ z2, E0 l (SHm h) (3, 69) m_H_takeGreys 2 [some (aR 0), some (aI (nI j)), z2] [] (pO tgF c j S) (ans none (tgH S c r))) (r) (by
      intro z2
      iterate 4 refine e_sp rfl rfl rfl ?_
      refine e_icge rfl (fun h1 => ?_) (fun h1 => ?_)
      · refine e_vret rfl rfl (Nat.le_refl _) (Nat.le_refl _) ?_
        exact ⟨rfl, rfl⟩
      · try dsimp only
        rw [hrow] at h1
        exact absurd (nI_le (Nat.le_refl _) hr2) h1) (fun j hj ihj => by
      intro z2
      iterate 4 refine e_sp rfl rfl rfl ?_
      refine e_icge rfl (fun h1 => ?_) (fun h1 => ?_)
      · try dsimp only
        rw [hrow] at h1
        exact absurd h1 (nI_ge hj hr2)
      · refine e_ci 0 rfl rfl ?_
        iterate 1 refine e_sp rfl rfl rfl ?_
        try dsimp only
        have L2 := e_for (P := fun i => E0 l (SHm h) (3, 69) m_H_takeGreys 15 [some (aR 0), some (aI (nI j)), some (aI (nI i))] [] (pI tgF j i (pO tgF c j S)) (ans none (tgH S c r))) (c) (by
            iterate 4 refine e_sp rfl rfl rfl ?_
            refine e_icge rfl (fun h1 => ?_) (fun h1 => ?_)
            · refine e_inc 1 rfl rfl rfl rfl ?_
              refine e_goto rfl ?_
              try dsimp only
              rw [nI_1]
              exact ihj _
            · try dsimp only
              rw [hcol] at h1
              exact absurd (nI_le (Nat.le_refl _) hc2) h1) (fun i hi ihi => by
            iterate 4 refine e_sp rfl rfl rfl ?_
            refine e_icge rfl (fun h1 => ?_) (fun h1 => ?_)
            · try dsimp only
              rw [hcol] at h1
              exact absurd h1 (nI_ge hi hc2)
            · iterate 8 refine e_sp rfl rfl rfl ?_
              refine e_callV1 ok_C_greyOf rfl lk_H_348 (by rfl) (by rfl) k_C_greyOf rfl rfl ⟨Nat.le_of_ble_eq_true rfl, Nat.le_of_ble_eq_true rfl⟩ ⟨Nat.zero_le _, Nat.zero_le _⟩ (Nat.le_of_ble_eq_true rfl) ?_
              refine e_callV1 ok_L_changeGrey rfl lk_H_171 (by rfl) (by rfl) k_L_changeGrey rfl rfl ⟨Nat.le_of_ble_eq_true rfl, Nat.le_of_ble_eq_true rfl⟩ ⟨Nat.zero_le _, Nat.zero_le _⟩ (Nat.le_of_ble_eq_true rfl) ?_
              iterate 1 refine e_sp rfl rfl rfl ?_
              refine e_inc 1 rfl rfl rfl rfl ?_
              refine e_goto rfl ?_
              try dsimp only
              rw [nI_1]
              exact ihi)
        exact L2)
  refine e_ci 0 rfl rfl ?_
  iterate 1 refine e_sp rfl rfl rfl ?_
  try dsimp only
  exact L1 _
