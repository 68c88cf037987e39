/-! page -/
def pgS (S : St) (h : Nat) : Nat → St
  | 0 => S
  | y + 1 => clS (pgS S h y) 2 h ((pgS S h y).1 1 1) (nI y) (lnS (pgS S h y) 4 h (nI y))
def pgA (S : St) (h : Nat) : Nat → Int32
  | 0 => 0
  | y + 1 => pgA S h y + clR (pgS S h y) 2 h ((pgS S h y).1 1 1) (nI y) (lnS (pgS S h y) 4 h (nI y))
theorem pgS_o (S : St) (h o : Nat) (ho : o ≠ 2) : ∀ y, (pgS S h y).1 o = S.1 o ∧ (pgS S h y).2 = S.2
  | 0 => ⟨rfl, rfl⟩
  | y + 1 => ⟨(clS_o _ 2 h _ _ _ o ho).1.trans (pgS_o S h o ho y).1, (clS_o _ 2 h _ _ _ o ho).2.trans (pgS_o S h o ho y).2⟩
/-! shade -/
def shN (S : St) (m : Nat) : Nat → St
  | 0 => S
  | i + 1 => puI (shN S m i) 20 i (nI (neB (shN S m i) (nI i) m))
theorem shN_o (S : St) (m o : Nat) (ho : o ≠ 20) : ∀ i, (shN S m i).1 o = S.1 o ∧ (shN S m i).2 = S.2
  | 0 => ⟨rfl, rfl⟩
  | i + 1 => ⟨(puI_o ho).trans (shN_o S m o ho i).1, (shN_o S m o ho i).2⟩
def shG (T : St) (a : Int32) (i j : Nat) (dk : Int32) : St × Int32 := if wi dk 0 (nI 65 - 1) = 0 then (T, a) else (cgS T (nI i) (nI j) (T.1 20 dk.toNatClampNeg), if cgR T (nI i) (nI j) (T.1 20 dk.toNatClampNeg) = 0 then a else a + 1)
def shF (h i j : Nat) (x : St × Int32) : St × Int32 := shG x.1 x.2 i j (duH x.1 h (nI i) (nI j))
def shH (S : St) (h c r m : Nat) : St × Int32 := pO (shF h) c r (shN S m 65, 0)
theorem shF_o {h i j : Nat} {x : St × Int32} {o : Nat} (ho : o ≠ 8) : (shF h i j x).1.1 o = x.1.1 o ∧ (shF h i j x).1.2 = x.1.2 := by
  unfold shF shG
  split
  · exact ⟨rfl, rfl⟩
  · exact cgS_o ho
theorem shO_o {h c j : Nat} {S : St × Int32} {o : Nat} (ho : o ≠ 8) : (pO (shF h) c j S).1.1 o = S.1.1 o ∧ (pO (shF h) c j S).1.2 = S.1.2 :=
  pO_inv (fun T => T.1.1 o = S.1.1 o ∧ T.1.2 = S.1.2) (fun i j T hT => ⟨(shF_o ho).1.trans hT.1, (shF_o ho).2.trans hT.2⟩) j S ⟨rfl, rfl⟩
theorem shI_o {h i j : Nat} {S : St × Int32} {o : Nat} (ho : o ≠ 8) : (pI (shF h) j i S).1.1 o = S.1.1 o ∧ (pI (shF h) j i S).1.2 = S.1.2 :=
  pI_inv (fun T => T.1.1 o = S.1.1 o ∧ T.1.2 = S.1.2) (fun i T hT => ⟨(shF_o ho).1.trans hT.1, (shF_o ho).2.trans hT.2⟩) i S ⟨rfl, rfl⟩
/-! compose -/
def cmF (h i j : Nat) (T : St) : St := if ouH T (nI i) (nI j) = 0 then laH T h (nI i) (nI j) else T
def cmH (T : St) (h c r : Nat) : St := pO (cmF h) c r T
def cm0 (S : St) (h : Nat) : St := flI S 4 (if S.1 0 12 = 1 then S.1 3 1 else 0) h
theorem cmF_o {h i j : Nat} {T : St} {o : Nat} (ho : o ≠ 4) : (cmF h i j T).1 o = T.1 o ∧ (cmF h i j T).2 = T.2 := by
  unfold cmF
  split
  · exact laA_o _ _ _ _ _ _ _ o ho _
  · exact ⟨rfl, rfl⟩
theorem cmO_o {h c j : Nat} {S : St} {o : Nat} (ho : o ≠ 4) : (pO (cmF h) c j S).1 o = S.1 o ∧ (pO (cmF h) c j S).2 = S.2 :=
  pO_inv (fun T => T.1 o = S.1 o ∧ T.2 = S.2) (fun i j T hT => ⟨(cmF_o ho).1.trans hT.1, (cmF_o ho).2.trans hT.2⟩) j S ⟨rfl, rfl⟩
theorem cmI_o {h i j : Nat} {S : St} {o : Nat} (ho : o ≠ 4) : (pI (cmF h) j i S).1 o = S.1 o ∧ (pI (cmF h) j i S).2 = S.2 :=
  pI_inv (fun T => T.1 o = S.1 o ∧ T.2 = S.2) (fun i T hT => ⟨(cmF_o ho).1.trans hT.1, (cmF_o ho).2.trans hT.2⟩) i S ⟨rfl, rfl⟩
/-! encode -/
theorem sgC_o {S : St} {i j g : Int32} {o : Nat} (h : o ≠ 10) : (sgC S i j g).1 o = S.1 o ∧ (sgC S i j g).2 = S.2 := by
  unfold sgC
  split
  · exact ⟨rfl, rfl⟩
  · exact ⟨puI_o h, rfl⟩
def enF (i j : Nat) (T : St) : St := if skH T (nI i) (nI j) = 0 then sgC T (nI i) (nI j) (grL T (nI i) (nI j)) else T
def enH (S : St) (c r : Nat) : St := pO enF c r (flI S 10 0 256)
theorem enF_o {i j : Nat} {T : St} {o : Nat} (ho : o ≠ 10) : (enF i j T).1 o = T.1 o ∧ (enF i j T).2 = T.2 := by
  unfold enF
  split
  · exact sgC_o ho
  · exact ⟨rfl, rfl⟩
theorem enO_o {c j : Nat} {S : St} {o : Nat} (ho : o ≠ 10) : (pO enF c j S).1 o = S.1 o ∧ (pO enF c j S).2 = S.2 :=
  pO_inv (fun T => T.1 o = S.1 o ∧ T.2 = S.2) (fun i j T hT => ⟨(enF_o ho).1.trans hT.1, (enF_o ho).2.trans hT.2⟩) j S ⟨rfl, rfl⟩
theorem enI_o {i j : Nat} {S : St} {o : Nat} (ho : o ≠ 10) : (pI enF j i S).1 o = S.1 o ∧ (pI enF j i S).2 = S.2 :=
  pI_inv (fun T => T.1 o = S.1 o ∧ T.2 = S.2) (fun i T hT => ⟨(enF_o ho).1.trans hT.1, (enF_o ho).2.trans hT.2⟩) i S ⟨rfl, rfl⟩
/-- the planes, from the highest one down -/
def epS (c r : Nat) : Nat → St → St
  | 0, T => T
  | n + 1, T => epS c r n (wpH T c r (nI n))
theorem wpH_o {S : St} {c r : Nat} {p : Int32} {o : Nat} (h : o ≠ 12) (h2 : o ≠ 13) (h3 : o ≠ 14) (h4 : o ≠ 15) (h5 : o ≠ 16) : (wpH S c r p).1 o = S.1 o ∧ (wpH S c r p).2 = S.2 :=
  ⟨(wpO_o h h2 h3 h4 h5).1.trans (bpF_o h h2).1, (wpO_o h h2 h3 h4 h5).2.trans (bpF_o h h2).2⟩
theorem wpH_run {S : St} {c r n : Nat} {p : Int32} (h : runOK n S) : runOK (n + c * r) (wpH S c r p) := by
  obtain ⟨q, h1, h2⟩ := h
  exact wpO_run r _ ⟨q, h1, by rw [(bpF_o (by decide) (by decide)).1]; exact h2⟩
theorem wbS_o {S : St} {o : Nat} (h : o ≠ 14) (h2 : o ≠ 15) (h3 : o ≠ 16) : (wbS S).1 o = S.1 o ∧ (wbS S).2 = S.2 := by
  unfold wbS
  exact ⟨by rw [puI_o h, puI_o h, puI_o h, puI_o h3, puI_o h3, flI_o h2], rfl⟩
def ec0 (S : St) (c r : Nat) : St := bpF (wbS (enH S c r))
def ec1 (S : St) (c r m : Nat) : St := epS c r (bl 6 m) (ec0 S c r)
def ec2 (S : St) (c r m : Nat) : St := enW (ec1 S c r m) ((ec1 S c r m).1 14 3).toNatClampNeg
def ecS (S : St) (c r m : Nat) : St := puI (ec2 S c r m) 0 14 ((ec2 S c r m).1 14 4)
theorem bl_le : ∀ f m, bl f m ≤ f
  | 0, _ => Nat.le_refl _
  | f + 1, m => by
    simp only [bl]
    split
    · omega
    · have := bl_le f (m / 2); omega
set_option maxHeartbeats 4000000 in
set_option maxRecDepth 40000 in
theorem k_H_page {l : Launch} {h : Nat} {S : St} (hh : h < 2 ^ 31) (h0 : S.1 0 1 = nI h) : KK l (SHm h) (2, 45) m_H_page [aR 0] S (ans (some (aI (pgA S h h))) (pgS S h h)) := by
  refine k_start ok_H_page (Nat.le_of_ble_eq_true rfl) ?_
  have L := e_for (P := fun i => E0 l (SHm h) (2, 45) m_H_page 4 [some (aR 0), some (aI (pgA S h i)), some (aI (nI i))] [] (pgS S h i) (ans (some (aI (pgA S h h))) (pgS S h h))) (h) (by
      iterate 3 refine e_sp rfl rfl rfl ?_
      refine e_icge rfl (fun h1 => ?_) (fun h1 => ?_)
      · iterate 1 refine e_sp rfl rfl rfl ?_
        refine e_iret rfl rfl (Nat.le_refl _) (Nat.le_refl _) ?_
        exact ⟨rfl, rfl⟩
      · try dsimp only
        rw [(pgS_o S h 0 (by decide) _).1, h0] at h1
        exact absurd (nI_le (Nat.le_refl _) hh) h1) (fun i hi ihi => by
      iterate 3 refine e_sp rfl rfl rfl ?_
      refine e_icge rfl (fun h1 => ?_) (fun h1 => ?_)
      · try dsimp only
        rw [(pgS_o S h 0 (by decide) _).1, h0] at h1
        exact absurd h1 (nI_ge hi hh)
      · iterate 7 refine e_sp rfl rfl rfl ?_
        refine e_callV1 ok_S_line rfl lk_H_189 (by rfl) (by rfl) (k_S_line_3 hh) rfl rfl ⟨Nat.le_of_ble_eq_true rfl, Nat.le_of_ble_eq_true rfl⟩ ⟨Nat.zero_le _, Nat.zero_le _⟩ (Nat.le_of_ble_eq_true rfl) ?_
        refine e_callV1 ok_S_changeLine rfl lk_H_186 (by rfl) (by rfl) (k_S_changeLine_1 hh) rfl rfl ⟨Nat.le_of_ble_eq_true rfl, Nat.le_of_ble_eq_true rfl⟩ ⟨Nat.zero_le _, Nat.zero_le _⟩ (Nat.le_of_ble_eq_true rfl) ?_
        iterate 2 refine e_sp rfl rfl rfl ?_
        refine e_inc 1 rfl rfl rfl rfl ?_
        refine e_goto rfl ?_
        try dsimp only
        rw [nI_1]
        exact ihi)
  refine e_ci 0 rfl rfl ?_
  iterate 1 refine e_sp rfl rfl rfl ?_
  refine e_ci 0 rfl rfl ?_
  iterate 1 refine e_sp rfl rfl rfl ?_
  try dsimp only
  exact L
set_option maxHeartbeats 4000000 in
set_option maxRecDepth 40000 in
theorem k_H_shade {l : Launch} {h : Nat} {S : St} {c r m : Nat} (hh : h < 2 ^ 31) (h0 : S.1 0 1 = nI h) (hc : S.1 7 1 = nI c) (hr : S.1 7 2 = nI r) (hc2 : c < 2 ^ 31) (hr2 : r < 2 ^ 31) (hm : S.1 5 3 = nI (m + 1)) (hm2 : m < 64) : KK l (SHm h) (3, 72) m_H_shade [aR 0] S (ans (some (aI (shH S h c r m).2)) (shH S h c r m).1) := by
  refine k_start ok_H_shade (Nat.le_of_ble_eq_true rfl) ?_
  have hrow : ∀ j, (pO (shF h) c j (shN S m 65, 0)).1.1 7 2 = nI r := fun j => by
    rw [(shO_o (by decide)).1]; show (shN S m 65).1 7 2 = _; rw [(shN_o S m 7 (by decide) _).1]; exact hr
  have hcol : ∀ j i, (pI (shF h) j i (pO (shF h) c j (shN S m 65, 0))).1.1 7 1 = nI c := fun j i => by
    rw [(shI_o (by decide)).1, (shO_o (by decide)).1]; show (shN S m 65).1 7 1 = _; rw [(shN_o S m 7 (by decide) _).1]; exact hc
  have hhe : ∀ j i, (pI (shF h) j i (pO (shF h) c j (shN S m 65, 0))).1.1 0 1 = nI h := fun j i => by
    rw [(shI_o (by decide)).1, (shO_o (by decide)).1]; show (shN S m 65).1 0 1 = _; rw [(shN_o S m 0 (by decide) _).1]; exact h0
  have L1 := e_for (P := fun j => ∀ z3 z4, E0 l (SHm h) (3, 72) m_H_shade 35 [some (aR 0), some (aI (pO (shF h) c j (shN S m 65, 0)).2), some (aI (nI j)), z3, z4] [] ((pO (shF h) c j (shN S m 65, 0)).1) (ans (some (aI (shH S h c r m).2)) (shH S h c r m).1)) (r) (by
      intro z3 z4
      iterate 4 refine e_sp rfl rfl rfl ?_
      refine e_icge rfl (fun h1 => ?_) (fun h1 => ?_)
      · iterate 1 refine e_sp rfl rfl rfl ?_
        refine e_iret rfl rfl (Nat.le_refl _) (Nat.le_refl _) ?_
        exact ⟨rfl, rfl⟩
      · try dsimp only
        rw [hrow] at h1
        exact absurd (nI_le (Nat.le_refl _) hr2) h1) (fun j hj ihj => by
      intro z3 z4
      iterate 4 refine e_sp rfl rfl rfl ?_
      refine e_icge rfl (fun h1 => ?_) (fun h1 => ?_)
      · try dsimp only
        rw [hrow] at h1
        exact absurd h1 (nI_ge hj hr2)
      · refine e_ci 0 rfl rfl ?_
        iterate 1 refine e_sp rfl rfl rfl ?_
        try dsimp only
        have L2 := e_for (P := fun i => ∀ z4, E0 l (SHm h) (3, 72) m_H_shade 48 [some (aR 0), some (aI (pI (shF h) j i (pO (shF h) c j (shN S m 65, 0))).2), some (aI (nI j)), some (aI (nI i)), z4] [] ((pI (shF h) j i (pO (shF h) c j (shN S m 65, 0))).1) (ans (some (aI (shH S h c r m).2)) (shH S h c r m).1)) (c) (by
            intro z4
            iterate 4 refine e_sp rfl rfl rfl ?_
            refine e_icge rfl (fun h1 => ?_) (fun h1 => ?_)
            · refine e_inc 1 rfl rfl rfl rfl ?_
              refine e_goto rfl ?_
              try dsimp only
              rw [nI_1]
              exact ihj _ _
            · try dsimp only
              rw [hcol] at h1
              exact absurd (nI_le (Nat.le_refl _) hc2) h1) (fun i hi ihi => by
            intro z4
            iterate 4 refine e_sp rfl rfl rfl ?_
            refine e_icge rfl (fun h1 => ?_) (fun h1 => ?_)
            · try dsimp only
              rw [hcol] at h1
              exact absurd h1 (nI_ge hi hc2)
            · iterate 3 refine e_sp rfl rfl rfl ?_
              refine e_callV1 ok_H_darkUnder rfl lk_H_193 (by rfl) (by rfl) (k_H_darkUnder hh (hhe j i)) rfl rfl ⟨Nat.le_of_ble_eq_true rfl, Nat.le_of_ble_eq_true rfl⟩ ⟨Nat.zero_le _, Nat.zero_le _⟩ (Nat.le_of_ble_eq_true rfl) ?_
              iterate 2 refine e_sp rfl rfl rfl ?_
              refine e_ci 0 rfl rfl ?_
              iterate 2 refine e_sp rfl rfl rfl ?_
              refine e_alen rfl (by first | rfl | assumption) (by decide) ?_
              refine e_ci 1 rfl rfl ?_
              iterate 1 refine e_sp rfl rfl rfl ?_
              refine e_callS1 ok_H_isWithin rfl lk_H_83 k_H_isWithin rfl rfl ⟨Nat.le_of_ble_eq_true rfl, Nat.le_of_ble_eq_true rfl⟩ ⟨Nat.zero_le _, Nat.zero_le _⟩ (Nat.le_of_ble_eq_true rfl) ?_
              refine e_ifeq rfl (fun h2 => ?_) (fun h2 => ?_)
              · refine e_inc 1 rfl rfl rfl rfl ?_
                refine e_goto rfl ?_
                try dsimp only
                rw [nI_1]
                simp only [pI] at ihi
                simp only [shF, shG] at ihi
                first | rw [if_pos h2] at ihi | rw [if_neg h2] at ihi
                try dsimp only at ihi
                exact ihi _
              · iterate 7 refine e_sp rfl rfl rfl ?_
                refine e_iald rfl (by first | rfl | assumption) (by exact wi_in (by decide) (by assumption)) ?_
                refine e_callV1 ok_L_changeGrey rfl lk_H_171 (by rfl) (by rfl) k_L_changeGrey rfl rfl ⟨Nat.le_of_ble_eq_true rfl, Nat.le_of_ble_eq_true rfl⟩ ⟨Nat.zero_le _, Nat.zero_le _⟩ (Nat.le_of_ble_eq_true rfl) ?_
                refine e_ifeq rfl (fun h3 => ?_) (fun h3 => ?_)
                · refine e_inc 1 rfl rfl rfl rfl ?_
                  refine e_goto rfl ?_
                  try dsimp only
                  rw [nI_1]
                  simp only [pI] at ihi
                  simp only [shF, shG] at ihi
                  first | rw [if_pos h2] at ihi | rw [if_neg h2] at ihi
                  first | rw [if_pos h3] at ihi | rw [if_neg h3] at ihi
                  try dsimp only at ihi
                  exact ihi _
                · refine e_inc 1 rfl rfl rfl rfl ?_
                  refine e_inc 1 rfl rfl rfl rfl ?_
                  refine e_goto rfl ?_
                  try dsimp only
                  rw [nI_1]
                  simp only [pI] at ihi
                  simp only [shF, shG] at ihi
                  first | rw [if_pos h2] at ihi | rw [if_neg h2] at ihi
                  first | rw [if_pos h3] at ihi | rw [if_neg h3] at ihi
                  try dsimp only at ihi
                  exact ihi _)
        exact L2 _)
  have L0 := e_for (P := fun k => E0 l (SHm h) (3, 72) m_H_shade 2 [some (aR 0), some (aI (nI k)), none, none, none] [] (shN S m k) (ans (some (aI (shH S h c r m).2)) (shH S h c r m).1)) (65) (by
      iterate 3 refine e_sp rfl rfl rfl ?_
      refine e_alen rfl (by first | rfl | assumption) (by decide) ?_
      refine e_icge rfl (fun h1 => ?_) (fun h1 => ?_)
      · refine e_ci 0 rfl rfl ?_
        iterate 1 refine e_sp rfl rfl rfl ?_
        refine e_ci 0 rfl rfl ?_
        iterate 1 refine e_sp rfl rfl rfl ?_
        try dsimp only
        exact L1 _ _
      · try dsimp only
        exact absurd (nI_le (Nat.le_refl _) (by decide)) h1) (fun k hk ihk => by
      iterate 3 refine e_sp rfl rfl rfl ?_
      refine e_alen rfl (by first | rfl | assumption) (by decide) ?_
      refine e_icge rfl (fun h1 => ?_) (fun h1 => ?_)
      · try dsimp only
        exact absurd h1 (nI_ge hk (by decide))
      · iterate 6 refine e_sp rfl rfl rfl ?_
        refine e_callV1 ok_B_nearestTo rfl lk_H_196 (by rfl) (by rfl) (k_B_nearestTo (m := m) (by rw [(shN_o S m 5 (by decide) _).1]; exact hm) hm2) rfl rfl ⟨Nat.le_of_ble_eq_true rfl, Nat.le_of_ble_eq_true rfl⟩ ⟨Nat.zero_le _, Nat.zero_le _⟩ (Nat.le_of_ble_eq_true rfl) ?_
        refine e_iast rfl (by first | rfl | assumption) (by exact vp_in_nI hk (by decide)) ?_
        refine e_inc 1 rfl rfl rfl rfl ?_
        refine e_goto rfl ?_
        try dsimp only
        rw [nI_clamp (by omega), nI_1]
        exact ihk)
  refine e_ci 0 rfl rfl ?_
  iterate 1 refine e_sp rfl rfl rfl ?_
  try dsimp only
  exact L0
set_option maxHeartbeats 4000000 in
set_option maxRecDepth 40000 in
theorem k_H_composeT {l : Launch} {h : Nat} {T0 : St} {c r : Nat} (hh : h < 2 ^ 31) (h0 : T0.1 0 1 = nI h) (hc : T0.1 7 1 = nI c) (hr : T0.1 7 2 = nI r) (hc2 : c < 2 ^ 31) (hr2 : r < 2 ^ 31) (z2 : Option AV) : E0 l (SHm h) (4, 95) m_H_compose 22 [some (aR 0), some (aI (nI 0)), z2] [] T0 (ans (some (aI (dkA (cmH T0 h c r) 4 h))) (cmH T0 h c r)) := by
  have hrow : ∀ j, (pO (cmF h) c j T0).1 7 2 = nI r := fun j => by rw [(cmO_o (by decide)).1]; exact hr
  have hcol : ∀ j i, (pI (cmF h) j i (pO (cmF h) c j T0)).1 7 1 = nI c := fun j i => by rw [(cmI_o (by decide)).1, (cmO_o (by decide)).1]; exact hc
  have hhe : ∀ j i, (pI (cmF h) j i (pO (cmF h) c j T0)).1 0 1 = nI h := fun j i => by rw [(cmI_o (by decide)).1, (cmO_o (by decide)).1]; exact h0
  have L1 := e_for (P := fun j => ∀ z2, E0 l (SHm h) (4, 95) m_H_compose 22 [some (aR 0), some (aI (nI j)), z2] [] (pO (cmF h) c j T0) (ans (some (aI (dkA (cmH T0 h c r) 4 h))) (cmH T0 h c r))) (r) (by
      intro z2
      iterate 4 refine e_sp rfl rfl rfl ?_
      refine e_icge rfl (fun h1 => ?_) (fun h1 => ?_)
      · iterate 2 refine e_sp rfl rfl rfl ?_
        refine e_callV1 ok_S_darkSamples rfl lk_H_215 (by rfl) (by rfl) (k_S_darkSamples_3 hh) rfl rfl ⟨Nat.le_of_ble_eq_true rfl, Nat.le_of_ble_eq_true rfl⟩ ⟨Nat.zero_le _, Nat.zero_le _⟩ (Nat.le_of_ble_eq_true rfl) ?_
        refine e_iret rfl rfl (Nat.le_refl _) (Nat.le_refl _) ?_
        exact ⟨rfl, rfl⟩
      · try dsimp only
        rw [hrow] at h1
        exact absurd (nI_le (Nat.le_refl _) hr2) h1) (fun j hj ihj => by
      intro z2
      iterate 4 refine e_sp rfl rfl rfl ?_
      refine e_icge rfl (fun h1 => ?_) (fun h1 => ?_)
      · try dsimp only
        rw [hrow] at h1
        exact absurd h1 (nI_ge hj hr2)
      · refine e_ci 0 rfl rfl ?_
        iterate 1 refine e_sp rfl rfl rfl ?_
        try dsimp only
        have L2 := e_for (P := fun i => E0 l (SHm h) (4, 95) m_H_compose 35 [some (aR 0), some (aI (nI j)), some (aI (nI i))] [] (pI (cmF h) j i (pO (cmF h) c j T0)) (ans (some (aI (dkA (cmH T0 h c r) 4 h))) (cmH T0 h c r))) (c) (by
            iterate 4 refine e_sp rfl rfl rfl ?_
            refine e_icge rfl (fun h1 => ?_) (fun h1 => ?_)
            · refine e_inc 1 rfl rfl rfl rfl ?_
              refine e_goto rfl ?_
              try dsimp only
              rw [nI_1]
              exact ihj _
            · try dsimp only
              rw [hcol] at h1
              exact absurd (nI_le (Nat.le_refl _) hc2) h1) (fun i hi ihi => by
            iterate 4 refine e_sp rfl rfl rfl ?_
            refine e_icge rfl (fun h1 => ?_) (fun h1 => ?_)
            · try dsimp only
              rw [hcol] at h1
              exact absurd h1 (nI_ge hi hc2)
            · iterate 3 refine e_sp rfl rfl rfl ?_
              refine e_callV1 ok_H_isOutside rfl lk_H_162 (by rfl) (by rfl) k_H_isOutside rfl rfl ⟨Nat.le_of_ble_eq_true rfl, Nat.le_of_ble_eq_true rfl⟩ ⟨Nat.zero_le _, Nat.zero_le _⟩ (Nat.le_of_ble_eq_true rfl) ?_
              refine e_ifne rfl (fun h2 => ?_) (fun h2 => ?_)
              · refine e_inc 1 rfl rfl rfl rfl ?_
                refine e_goto rfl ?_
                try dsimp only
                rw [nI_1]
                simp only [pI, cmF] at ihi
                first | rw [if_pos h2] at ihi | rw [if_neg h2] at ihi
                exact ihi
              · iterate 3 refine e_sp rfl rfl rfl ?_
                refine e_callV0 ok_H_layPattern rfl lk_H_212 (by rfl) (by rfl) (k_H_layPattern hh (hhe j i) (by assumption)) rfl rfl ⟨Nat.le_of_ble_eq_true rfl, Nat.le_of_ble_eq_true rfl⟩ ⟨Nat.zero_le _, Nat.zero_le _⟩ (Nat.le_of_ble_eq_true rfl) ?_
                refine e_inc 1 rfl rfl rfl rfl ?_
                refine e_goto rfl ?_
                try dsimp only
                rw [nI_1]
                simp only [pI, cmF] at ihi
                first | rw [if_pos h2] at ihi | rw [if_neg h2] at ihi
                exact ihi)
        exact L2)
  exact L1 z2
set_option maxHeartbeats 4000000 in
set_option maxRecDepth 40000 in
theorem k_H_compose {l : Launch} {h : Nat} {S : St} {c r : Nat} (hh : h < 2 ^ 31) (h0 : S.1 0 1 = nI h) (hc : S.1 7 1 = nI c) (hr : S.1 7 2 = nI r) (hc2 : c < 2 ^ 31) (hr2 : r < 2 ^ 31) : KK l (SHm h) (4, 95) m_H_compose [aR 0] S (ans (some (aI (dkA (cmH (cm0 S h) h c r) 4 h))) (cmH (cm0 S h) h c r)) := by
  refine k_start ok_H_compose (Nat.le_of_ble_eq_true rfl) ?_
  iterate 4 refine e_sp rfl rfl rfl ?_
  refine e_ci 1 rfl rfl ?_
  refine e_icne rfl (fun h1 => ?_) (fun h1 => ?_)
  · refine e_ci 0 rfl rfl ?_
    refine e_callV0 ok_S_fill rfl lk_H_208 (by rfl) (by rfl) (k_S_fill_3 hh) rfl rfl ⟨Nat.le_of_ble_eq_true rfl, Nat.le_of_ble_eq_true rfl⟩ ⟨Nat.zero_le _, Nat.zero_le _⟩ (Nat.le_of_ble_eq_true rfl) ?_
    refine e_ci 0 rfl rfl ?_
    iterate 1 refine e_sp rfl rfl rfl ?_
    try dsimp only
    refine e_st (S2 := cm0 S h) (by simp [cm0, h1]) ?_
    exact k_H_composeT hh (by rw [cm0, flI_o (by decide)]; exact h0) (by rw [cm0, flI_o (by decide)]; exact hc) (by rw [cm0, flI_o (by decide)]; exact hr) hc2 hr2 none
  · refine e_ci 1 rfl rfl ?_
    refine e_goto rfl ?_
    refine e_callV0 ok_S_fill rfl lk_H_208 (by rfl) (by rfl) (k_S_fill_3 hh) rfl rfl ⟨Nat.le_of_ble_eq_true rfl, Nat.le_of_ble_eq_true rfl⟩ ⟨Nat.zero_le _, Nat.zero_le _⟩ (Nat.le_of_ble_eq_true rfl) ?_
    refine e_ci 0 rfl rfl ?_
    iterate 1 refine e_sp rfl rfl rfl ?_
    try dsimp only
    refine e_st (S2 := cm0 S h) (by simp [cm0, h1]) ?_
    exact k_H_composeT hh (by rw [cm0, flI_o (by decide)]; exact h0) (by rw [cm0, flI_o (by decide)]; exact hc) (by rw [cm0, flI_o (by decide)]; exact hr) hc2 hr2 none
set_option maxHeartbeats 4000000 in
set_option maxRecDepth 40000 in
theorem k_H_encodeP {l : Launch} {h c r m : Nat} {S : St} (hc2 : c < 2 ^ 31) (hr2 : r < 2 ^ 31) : ∀ (n : Nat) (T : St) (a : Nat) (z2 : Option AV), n ≤ 6 → runOK a T → a + (c * r) * n + c < 2 ^ 31 → T.1 7 1 = nI c → T.1 7 2 = nI r → epS c r n T = ec1 S c r m → E0 l (SHm h) (5, 118) m_H_encode 96 [some (aR 0), some (aI (nI n - 1)), z2] [] T (ans (some (aI (szW (ecS S c r m)))) (ecS S c r m)) := by
  intro n
  induction n with
  | zero =>
    intro T a z2 hn hT ha hc9 hr9 hq
    have hq : T = ec1 S c r m := hq
    iterate 1 refine e_sp rfl rfl rfl ?_
    refine e_iflt rfl (fun h1 => ?_) (fun h1 => ?_)
    · iterate 2 refine e_sp rfl rfl rfl ?_
      refine e_callV0 ok_W_endRun rfl lk_H_235 (by rfl) (by rfl) (k_W_endRun (nI_tn (hT.pos (by omega))).1 (nI_tn (hT.pos (by omega))).2) rfl rfl ⟨Nat.le_of_ble_eq_true rfl, Nat.le_of_ble_eq_true rfl⟩ ⟨Nat.zero_le _, Nat.zero_le _⟩ (Nat.le_of_ble_eq_true rfl) ?_
      iterate 7 refine e_sp rfl rfl rfl ?_
      refine e_callV1 ok_W_size rfl lk_H_242 (by rfl) (by rfl) k_W_size rfl rfl ⟨Nat.le_of_ble_eq_true rfl, Nat.le_of_ble_eq_true rfl⟩ ⟨Nat.zero_le _, Nat.zero_le _⟩ (Nat.le_of_ble_eq_true rfl) ?_
      refine e_iret rfl rfl (Nat.le_refl _) (Nat.le_refl _) ?_
      rw [hq]
      exact ⟨rfl, rfl⟩
    · try dsimp only
      exact absurd (by decide) h1
  | succ n ih =>
    intro T a z2 hn hT ha hc9 hr9 hq
    rw [Nat.mul_succ] at ha
    iterate 1 refine e_sp rfl rfl rfl ?_
    refine e_iflt rfl (fun h1 => ?_) (fun h1 => ?_)
    · try dsimp only
      exact absurd h1 (by rw [nI_pred]; exact nI_pos (by omega))
    · iterate 1 refine e_sp rfl rfl rfl ?_
      rw [nI_pred]
      iterate 1 refine e_sp rfl rfl rfl ?_
      refine e_callV0 ok_H_writePlane rfl lk_H_232 (by rfl) (by rfl) (k_H_writePlane (c := c) (r := r) (n := a) hc9 hr9 hc2 hr2 hT (by omega)) rfl rfl ⟨Nat.le_of_ble_eq_true rfl, Nat.le_of_ble_eq_true rfl⟩ ⟨Nat.zero_le _, Nat.zero_le _⟩ (Nat.le_of_ble_eq_true rfl) ?_
      refine e_inc (-1) rfl rfl rfl rfl ?_
      refine e_goto rfl ?_
      try dsimp only
      rw [show nI n + (-1) = nI n - 1 from (Int32.sub_eq_add_neg _ _).symm]
      exact ih (wpH T c r (nI n)) (a + c * r) z2 (by omega) (wpH_run hT) (by omega) (by rw [(wpH_o (by decide) (by decide) (by decide) (by decide) (by decide)).1]; exact hc9) (by rw [(wpH_o (by decide) (by decide) (by decide) (by decide) (by decide)).1]; exact hr9) hq
set_option maxHeartbeats 4000000 in
set_option maxRecDepth 40000 in
theorem k_H_encode {l : Launch} {h : Nat} {S : St} {c r m : Nat} (hc : S.1 7 1 = nI c) (hr : S.1 7 2 = nI r) (hc2 : c < 2 ^ 31) (hr2 : r < 2 ^ 31) (hcr : c * r ≤ 256) (hc16 : c ≤ 16) (hm : S.1 5 3 = nI (m + 1)) (hm2 : m < 64) : KK l (SHm h) (5, 118) m_H_encode [aR 0] S (ans (some (aI (szW (ecS S c r m)))) (ecS S c r m)) := by
  refine k_start ok_H_encode (Nat.le_of_ble_eq_true rfl) ?_
  have hrow : ∀ j, (pO enF c j (flI S 10 0 256)).1 7 2 = nI r := fun j => by rw [(enO_o (by decide)).1, flI_o (by decide)]; exact hr
  have hcol : ∀ j i, (pI enF j i (pO enF c j (flI S 10 0 256))).1 7 1 = nI c := fun j i => by rw [(enI_o (by decide)).1, (enO_o (by decide)).1, flI_o (by decide)]; exact hc
  have hek : ∀ k, (enH S c r).1 7 k = S.1 7 k := fun k => by rw [enH, (enO_o (by decide)).1, flI_o (by decide)]
  have h7 : ∀ k, (ec0 S c r).1 7 k = S.1 7 k := fun k => by rw [ec0, (bpF_o (by decide) (by decide)).1, (wbS_o (by decide) (by decide) (by decide)).1, hek]
  have hmany : (ec0 S c r).1 5 3 = nI (m + 1) := by
    rw [ec0, (bpF_o (by decide) (by decide)).1, (wbS_o (by decide) (by decide) (by decide)).1, enH, (enO_o (by decide)).1, flI_o (by decide)]; exact hm
  have hrun : runOK 0 (ec0 S c r) := ⟨0, Nat.le_refl _, by rw [ec0, (bpF_o (by decide) (by decide)).1]; simp [wbS, puI, pt, upd, nI_0]⟩
  have hb6 := bl_le 6 m
  have L0 : ∀ z2, E0 l (SHm h) (5, 118) m_H_encode 96 [some (aR 0), some (aI (nI (bl 6 m) - 1)), z2] [] (ec0 S c r) (ans (some (aI (szW (ecS S c r m)))) (ecS S c r m)) := fun z2 =>
    k_H_encodeP hc2 hr2 (bl 6 m) (ec0 S c r) 0 z2 hb6 hrun (by have : (c * r) * bl 6 m ≤ 256 * 6 := Nat.mul_le_mul hcr hb6; omega) ((h7 1).trans hc) ((h7 2).trans hr) rfl
  have L1 := e_for (P := fun j => ∀ z2, E0 l (SHm h) (5, 118) m_H_encode 9 [some (aR 0), some (aI (nI j)), z2] [] (pO enF c j (flI S 10 0 256)) (ans (some (aI (szW (ecS S c r m)))) (ecS S c r m))) (r) (by
      intro z2
      iterate 4 refine e_sp rfl rfl rfl ?_
      refine e_icge rfl (fun h1 => ?_) (fun h1 => ?_)
      · iterate 2 refine e_sp rfl rfl rfl ?_
        refine e_callV0 ok_W_begin rfl lk_H_228 (by rfl) (by rfl) k_W_begin rfl rfl ⟨Nat.le_of_ble_eq_true rfl, Nat.le_of_ble_eq_true rfl⟩ ⟨Nat.zero_le _, Nat.zero_le _⟩ (Nat.le_of_ble_eq_true rfl) ?_
        iterate 2 refine e_sp rfl rfl rfl ?_
        refine e_callV0 ok_F_beginPlane rfl lk_H_229 (by rfl) (by rfl) k_F_beginPlane rfl rfl ⟨Nat.le_of_ble_eq_true rfl, Nat.le_of_ble_eq_true rfl⟩ ⟨Nat.zero_le _, Nat.zero_le _⟩ (Nat.le_of_ble_eq_true rfl) ?_
        iterate 2 refine e_sp rfl rfl rfl ?_
        refine e_callV1 ok_B_planes rfl lk_H_103 (by rfl) (by rfl) (k_B_planes (m := m) hmany hm2) rfl rfl ⟨Nat.le_of_ble_eq_true rfl, Nat.le_of_ble_eq_true rfl⟩ ⟨Nat.zero_le _, Nat.zero_le _⟩ (Nat.le_of_ble_eq_true rfl) ?_
        refine e_ci 1 rfl rfl ?_
        iterate 2 refine e_sp rfl rfl rfl ?_
        try dsimp only
        exact L0 _
      · try dsimp only
        rw [hrow] at h1
        exact absurd (nI_le (Nat.le_refl _) hr2) h1) (fun j hj ihj => by
      intro z2
      iterate 4 refine e_sp rfl rfl rfl ?_
      refine e_icge rfl (fun h1 => ?_) (fun h1 => ?_)
      · try dsimp only
        rw [hrow] at h1
        exact absurd h1 (nI_ge hj hr2)
      · refine e_ci 0 rfl rfl ?_
        iterate 1 refine e_sp rfl rfl rfl ?_
        try dsimp only
        have L2 := e_for (P := fun i => E0 l (SHm h) (5, 118) m_H_encode 22 [some (aR 0), some (aI (nI j)), some (aI (nI i))] [] (pI enF j i (pO enF c j (flI S 10 0 256))) (ans (some (aI (szW (ecS S c r m)))) (ecS S c r m))) (c) (by
            iterate 4 refine e_sp rfl rfl rfl ?_
            refine e_icge rfl (fun h1 => ?_) (fun h1 => ?_)
            · refine e_inc 1 rfl rfl rfl rfl ?_
              refine e_goto rfl ?_
              try dsimp only
              rw [nI_1]
              exact ihj _
            · try dsimp only
              rw [hcol] at h1
              exact absurd (nI_le (Nat.le_refl _) hc2) h1) (fun i hi ihi => by
            iterate 4 refine e_sp rfl rfl rfl ?_
            refine e_icge rfl (fun h1 => ?_) (fun h1 => ?_)
            · try dsimp only
              rw [hcol] at h1
              exact absurd h1 (nI_ge hi hc2)
            · iterate 3 refine e_sp rfl rfl rfl ?_
              refine e_callV1 ok_H_isSkipped rfl lk_H_222 (by rfl) (by rfl) k_H_isSkipped rfl rfl ⟨Nat.le_of_ble_eq_true rfl, Nat.le_of_ble_eq_true rfl⟩ ⟨Nat.zero_le _, Nat.zero_le _⟩ (Nat.le_of_ble_eq_true rfl) ?_
              refine e_ifne rfl (fun h2 => ?_) (fun h2 => ?_)
              · refine e_inc 1 rfl rfl rfl rfl ?_
                refine e_goto rfl ?_
                try dsimp only
                rw [nI_1]
                simp only [pI, enF] at ihi
                first | rw [if_pos h2] at ihi | rw [if_neg h2] at ihi
                exact ihi
              · iterate 8 refine e_sp rfl rfl rfl ?_
                refine e_callV1 ok_L_greyOf rfl lk_H_174 (by rfl) (by rfl) k_L_greyOf rfl rfl ⟨Nat.le_of_ble_eq_true rfl, Nat.le_of_ble_eq_true rfl⟩ ⟨Nat.zero_le _, Nat.zero_le _⟩ (Nat.le_of_ble_eq_true rfl) ?_
                refine e_callV0 ok_C_setGrey rfl lk_H_225 (by rfl) (by rfl) k_C_setGrey rfl rfl ⟨Nat.le_of_ble_eq_true rfl, Nat.le_of_ble_eq_true rfl⟩ ⟨Nat.zero_le _, Nat.zero_le _⟩ (Nat.le_of_ble_eq_true rfl) ?_
                refine e_inc 1 rfl rfl rfl rfl ?_
                refine e_goto rfl ?_
                try dsimp only
                rw [nI_1]
                simp only [pI, enF] at ihi
                first | rw [if_pos h2] at ihi | rw [if_neg h2] at ihi
                exact ihi)
        exact L2)
  iterate 2 refine e_sp rfl rfl rfl ?_
  refine e_callV0 ok_C_begin rfl lk_H_220 (by rfl) (by rfl) k_C_begin rfl rfl ⟨Nat.le_of_ble_eq_true rfl, Nat.le_of_ble_eq_true rfl⟩ ⟨Nat.zero_le _, Nat.zero_le _⟩ (Nat.le_of_ble_eq_true rfl) ?_
  refine e_ci 0 rfl rfl ?_
  iterate 1 refine e_sp rfl rfl rfl ?_
  try dsimp only
  exact L1 none
