/-! the reference: decode -/
theorem roS_o {S : St} {o : Nat} (h : o ≠ 21) : (roS S).1 o = S.1 o ∧ (roS S).2 = S.2 := by
  unfold roS
  split
  · exact ⟨puI_o h, rfl⟩
  · exact ⟨puI_o h, rfl⟩
theorem roS_k {S : St} {k : Nat} (h : k < 29) : (roS S).1 21 k = S.1 21 k := by
  have h1 : k ≠ 32 := by omega
  have h2 : k ≠ 35 := by omega
  unfold roS
  split <;> simp [puI, pt, upd, h1, h2]
theorem rsS_o {S : St} {o : Nat} (h : o ≠ 21) : ∀ n, (rsS S n).1 o = S.1 o ∧ (rsS S n).2 = S.2
  | 0 => ⟨rfl, rfl⟩
  | n + 1 => ⟨(roS_o h).1.trans (rsS_o h n).1, (roS_o h).2.trans (rsS_o h n).2⟩
theorem rsS_k {S : St} {k : Nat} (h : k < 29) : ∀ n, (rsS S n).1 21 k = S.1 21 k
  | 0 => rfl
  | n + 1 => (roS_k h).trans (rsS_k h n)
theorem moN_o {o : Nat} (h : o ≠ 21) : ∀ f (S : St), (moN f S).1 o = S.1 o ∧ (moN f S).2 = S.2
  | 0, _ => ⟨rfl, rfl⟩
  | f + 1, S => by
    simp only [moN]
    split
    · exact ⟨(moN_o h f _).1.trans (roS_o h).1, (moN_o h f _).2.trans (roS_o h).2⟩
    · exact roS_o h
theorem moN_k {k : Nat} (h : k < 29) : ∀ f (S : St), (moN f S).1 21 k = S.1 21 k
  | 0, _ => rfl
  | f + 1, S => by
    simp only [moN]
    split
    · exact (moN_k h f _).trans (roS_k h)
    · exact roS_k h
theorem mdF_o {T : St} {v : Int32} {o : Nat} (h : o ≠ 21) : (mdF T v).1 o = T.1 o ∧ (mdF T v).2 = T.2 := by
  refine ⟨?_, (krM_o h).2⟩
  rw [mdF, (krM_o h).1, mdC, puI_o h, mdB, puI_o h, mdA, puI_o h, puI_o h]
theorem mdE_o {T : St} {on kk o : Nat} (h : o ≠ 21) : (mdE T on kk).1 o = T.1 o ∧ (mdE T on kk).2 = T.2 := by
  unfold mdE
  split
  · exact ⟨(mdF_o h).1.trans (rsS_o h _).1, (mdF_o h).2.trans (rsS_o h _).2⟩
  · exact ⟨(mdF_o h).1.trans (rsS_o h _).1, (mdF_o h).2.trans (rsS_o h _).2⟩
theorem mdE_k {T : St} {on kk k : Nat} (h : k < 29) : (mdE T on kk).1 21 k = T.1 21 k := by
  have e : ∀ U v, (mdF U v).1 21 k = U.1 21 k := fun U v => mdF_k (by omega) (by omega) (by omega) (by omega) (by omega) (by omega)
  unfold mdE
  split
  · exact (e _ _).trans (rsS_k h _)
  · exact (e _ _).trans (rsS_k h _)
theorem mdS_o {S : St} {o : Nat} (h : o ≠ 21) : (mdS S).1 o = S.1 o ∧ (mdS S).2 = S.2 := ⟨(mdE_o h).1.trans (moN_o h _ _).1, (mdE_o h).2.trans (moN_o h _ _).2⟩
theorem mdS_k {S : St} {k : Nat} (h : k < 29) : (mdS S).1 21 k = S.1 21 k := (mdE_k h).trans (moN_k h _ _)
theorem mtT_o {S : St} {o : Nat} (h : o ≠ 21) : (mtT S).1 o = S.1 o ∧ (mtT S).2 = S.2 := by
  unfold mtT
  split
  · exact mdS_o h
  · exact ⟨rfl, rfl⟩
theorem mtT_k {S : St} {k : Nat} (h : k < 29) : (mtT S).1 21 k = S.1 21 k := by
  unfold mtT
  split
  · exact mdS_k h
  · rfl
theorem mtS_o {T : St} {o : Nat} (h : o ≠ 21) : (mtS T).1 o = T.1 o ∧ (mtS T).2 = T.2 := by
  unfold mtS
  split
  · exact ⟨puI_o h, rfl⟩
  · split
    · exact ⟨puI_o h, rfl⟩
    · exact ⟨puI_o h, rfl⟩
theorem mtS_k {T : St} {k : Nat} (h : k < 29) : (mtS T).1 21 k = T.1 21 k := by
  have h1 : k ≠ 33 := by omega
  have h2 : k ≠ 34 := by omega
  unfold mtS
  split
  · simp [puI, pt, upd, h1, h2]
  · split <;> simp [puI, pt, upd, h1, h2]
theorem mbS_o {S : St} {o : Nat} (h : o ≠ 21) : (mbS S).1 o = S.1 o ∧ (mbS S).2 = S.2 := ⟨(mtS_o h).1.trans (mtT_o h).1, (mtS_o h).2.trans (mtT_o h).2⟩
theorem mbS_k {S : St} {k : Nat} (h : k < 29) : (mbS S).1 21 k = S.1 21 k := (mtS_k h).trans (mtT_k h)
/-- neither ended nor beyond -/
abbrev goes (T : St) : Prop := T.1 21 35 = 0 ∧ T.1 21 37 = 0
def rmV (T1 : St) (k : Nat) (c bit : Int32) : St := leM (puI (puI T1 21 36 (T1.1 21 36 - 1)) 30 k (vp_nar .boolean bit)) c bit
def rmU (T4 : St) (k : Nat) (bit : Int32) : St := puI T4 32 k (2 * T4.1 32 k + (if T4.1 32 k &&& 1 = 1 then (if bit = 1 then 0 else 1) else (if bit = 0 then 0 else 1)))
def rmX (T1 : St) (k : Nat) (c bit : Int32) : St := if T1.1 21 35 = 0 then (if T1.1 21 37 = 0 then rmU (rmV T1 k c bit) k bit else T1) else T1
def rmF (k : Nat) (T : St) : St := if goes T then (if hpM T (nI (k % 16)) (nI (k / 16)) = 0 then T else if skM T (nI (k % 16)) (nI (k / 16)) = 0 then
    rmX (mbS T) k (ctM T (nI (k % 16)) (nI (k / 16))) (mbV T (if T.1 28 (ctM T (nI (k % 16)) (nI (k / 16))).toNatClampNeg < 0 then 0 else 1)) else T) else T
/-- what reading a plane keeps -/
def rmI (c : Nat) (S T : St) : Prop := (∀ k, k < 29 → T.1 21 k = S.1 21 k) ∧ (∀ o, o ≠ 21 → o ≠ 28 → o ≠ 29 → o ≠ 30 → o ≠ 31 → o ≠ 32 → T.1 o = S.1 o) ∧ T.2 = S.2 ∧ atOK c T
theorem rmUV_k {T1 : St} {k q : Nat} {c bit : Int32} (h : q ≠ 36) : (rmU (rmV T1 k c bit) k bit).1 21 q = T1.1 21 q := by
  rw [rmU, puI_o (by decide), rmV, (leM_o (by decide) (by decide)).1, puI_o (by decide)]
  simp [puI, pt, upd, h]
theorem rmUV_o {T1 : St} {k o : Nat} {c bit : Int32} (h1 : o ≠ 21) (h2 : o ≠ 28) (h3 : o ≠ 29) (h4 : o ≠ 30) (h6 : o ≠ 32) : (rmU (rmV T1 k c bit) k bit).1 o = T1.1 o := by
  rw [rmU, puI_o h6, rmV, (leM_o h2 h3).1, puI_o h4, puI_o h1]
theorem rmX_I {c0 : Nat} {S T1 : St} {k : Nat} {c bit : Int32} (h : rmI c0 S T1) : rmI c0 S (rmX T1 k c bit) := by
  unfold rmX
  split
  · split
    · obtain ⟨h1, h2, h3, h4, a, h5, h6⟩ := h
      refine ⟨fun q hq => (rmUV_k (by omega)).trans (h1 q hq), fun o o1 o2 o3 o4 o5 o6 => (rmUV_o o1 o2 o3 o4 o6).trans (h2 o o1 o2 o3 o4 o5 o6), h3, ?_, a, h5, ?_⟩
      · rw [rmUV_k (by decide)]; exact h4
      · rw [rmUV_k (by decide)]; exact h6
    · exact h
  · exact h
theorem rmF_I {c0 : Nat} {S T : St} {k : Nat} (hc : c0 ≤ 3000) (h : rmI c0 S T) : rmI c0 S (rmF k T) := by
  unfold rmF
  split
  · split
    · exact h
    · split
      · exact rmX_I ⟨fun q hq => (mbS_k hq).trans (h.1 q hq), fun o o1 o2 o3 o4 o5 o6 => (mbS_o o1).1.trans (h.2.1 o o1 o2 o3 o4 o5 o6), (mbS_o (o := 0) (by decide)).2.trans h.2.2.1, mbS_at hc h.2.2.2⟩
      · exact h
  · exact h
theorem rmN_I {c0 : Nat} {S : St} (hc : c0 ≤ 3000) (i : Nat) (T : St) (h : rmI c0 S T) : rmI c0 S (nF rmF i T) := nF_inv (f := rmF) (rmI c0 S) (fun _ _ hy => rmF_I hc hy) i T h
theorem nxM_Ir {c0 : Nat} {S T : St} (h : rmI c0 S T) : rmI c0 S (nxM T) := by
  obtain ⟨h1, h2, h3, h4, a, h5, h6⟩ := h
  have e : (nxM T).1 21 = T.1 21 := (nxM_o (by decide) (by decide) (by decide) (by decide)).1
  exact ⟨fun q hq => by rw [e]; exact h1 q hq, fun o o1 o2 o3 o4 o5 o6 => (nxM_o o2 o3 o4 o5).1.trans (h2 o o1 o2 o3 o4 o5 o6), (nxM_o (o := 0) (by decide) (by decide) (by decide) (by decide)).2.trans h3, by rw [e]; exact h4, a, h5, by rw [e]; exact h6⟩
theorem rmF_stay {T : St} {k : Nat} (h : ¬ goes T) : rmF k T = T := by unfold rmF; rw [if_neg h]
theorem rmN_stay {T : St} {k : Nat} (h : ¬ goes (nF rmF k T)) : ∀ i, nF rmF (k + i) T = nF rmF k T
  | 0 => rfl
  | i + 1 => by
    show rmF (k + i) (nF rmF (k + i) T) = _
    rw [rmN_stay h i]
    exact rmF_stay h
def rpP (T : St) : St := if goes T then nF rmF 256 (nxM T) else T
def rpN : Nat → St → St
  | 0, T => T
  | n + 1, T => rpN n (rpP T)
theorem rpN_stay {T : St} (h : ¬ goes T) : ∀ n, rpN n T = T
  | 0 => rfl
  | n + 1 => by
    show rpN n (rpP T) = T
    rw [show rpP T = T from if_neg h]
    exact rpN_stay h n
theorem rpP_I {c0 : Nat} {S T : St} (hc : c0 ≤ 3000) (h : rmI c0 S T) : rmI c0 S (rpP T) := by
  unfold rpP
  split
  · exact rmN_I hc _ _ (nxM_Ir h)
  · exact h
theorem rpN_I {c0 : Nat} {S : St} (hc : c0 ≤ 3000) : ∀ n T, rmI c0 S T → rmI c0 S (rpN n T)
  | 0, _, h => h
  | n + 1, T, h => rpN_I hc n _ (rpP_I hc h)
def plF (S : St) (k : Nat) (a : Int32) : Int32 := a + (if hpM S (nI (k % 16)) (nI (k / 16)) = 0 then 0 else if skM S (nI (k % 16)) (nI (k / 16)) = 0 then 1 else 0)
def plM (S : St) : Int32 := nF (plF S) 256 0
def rd0 (S : St) (m : Nat) : St := puI (puI (flI S 32 0 256) 21 36 (plM (flI S 32 0 256) * nI (bl 6 m))) 21 37 0
def reF (T : St) : St := if goes T then mtT T else T
def rpS (S : St) (m : Nat) : St := reF (rpN (bl 6 m) (rd0 S m))
def rpR (S : St) (m : Nat) : Int32 := if goes (rpS S m) then plM (flI S 32 0 256) else -1
set_option maxHeartbeats 4000000 in
set_option maxRecDepth 40000 in
theorem k_M_readPlanesK {l : Launch} {h : Nat} {T : St} {Q0 : Option AV → St → Prop} {c r n cm : Nat} {pl : Int32} (hc : T.1 21 9 = nI c) (hr : T.1 21 10 = nI r) (hc2 : c ≤ 16) (hr2 : r ≤ 16) (hcm : cm ≤ 3000) (ha : atOK cm T) (hg : goes T)
    (kx : ¬ goes (nF rmF 256 (nxM T)) → Q0 (some (aI (-1))) (nF rmF 256 (nxM T)))
    (kn : goes (nF rmF 256 (nxM T)) → ∀ z3 z4 z5 z6 z7, E0 l (SHm h) (4, 89) m_M_readPlanes 99 [some (aR 21), some (aI pl), some (aI (nI n - 1)), z3, z4, z5, z6, z7] [] (nF rmF 256 (nxM T)) Q0) (z4 z5 z6 z7 : Option AV) : E0 l (SHm h) (4, 89) m_M_readPlanes 109 [some (aR 21), some (aI pl), some (aI (nI n)), some (aI (nI 0)), z4, z5, z6, z7] [] (nxM T) Q0 := by
  have hI : ∀ k, rmI cm T (nF rmF k (nxM T)) := fun k => rmN_I hcm k _ (nxM_Ir ⟨fun _ _ => rfl, fun _ _ _ _ _ _ _ => rfl, rfl, ha⟩)
  have hcc : ∀ k, (nF rmF k (nxM T)).1 21 9 = nI c := fun k => ((hI k).1 9 (by decide)).trans hc
  have hrr : ∀ k, (nF rmF k (nxM T)).1 21 10 = nI r := fun k => ((hI k).1 10 (by decide)).trans hr
  have hat : ∀ k, atOK cm (nF rmF k (nxM T)) := fun k => (hI k).2.2.2
  have e21 : (nxM T).1 21 = T.1 21 := (nxM_o (by decide) (by decide) (by decide) (by decide)).1
  have hg0 : goes (nxM T) := ⟨by rw [e21]; exact hg.1, by rw [e21]; exact hg.2⟩
  have L1 := e_for (P := fun k => ∀ (_ : goes (nF rmF k (nxM T))) (z4 z5 z6 z7 : Option AV), E0 l (SHm h) (4, 89) m_M_readPlanes 109 [some (aR 21), some (aI pl), some (aI (nI n)), some (aI (nI k)), z4, z5, z6, z7] [] ((nF rmF k (nxM T))) (Q0)) (256) (by
      intro hgo z4 z5 z6 z7
      iterate 1 refine e_sp rfl rfl rfl ?_
      refine e_cs 256 rfl rfl ?_
      refine e_icge rfl (fun h1 => ?_) (fun h1 => ?_)
      · refine e_inc (-1) rfl rfl rfl rfl ?_
        refine e_goto rfl ?_
        try dsimp only
        rw [show nI n + (-1) = nI n - 1 from (Int32.sub_eq_add_neg _ _).symm]
        exact kn hgo _ _ _ _ _
      · try dsimp only
        exact absurd (nI_le (Nat.le_refl _) (by decide)) h1) (fun k hk ihk => by
      intro hgo z4 z5 z6 z7
      iterate 1 refine e_sp rfl rfl rfl ?_
      refine e_cs 256 rfl rfl ?_
      refine e_icge rfl (fun h1 => ?_) (fun h1 => ?_)
      · try dsimp only
        exact absurd h1 (nI_ge hk (by decide))
      · iterate 1 refine e_sp rfl rfl rfl ?_
        refine e_cb 16 rfl rfl ?_
        refine e_rem rfl (by decide) ?_
        try dsimp only
        rw [show (16 : Int32) = nI 16 from rfl, rmd 16 (by omega) (by decide) (by decide)]
        iterate 2 refine e_sp rfl rfl rfl ?_
        refine e_cb 16 rfl rfl ?_
        refine e_div rfl (by decide) ?_
        try dsimp only
        rw [show (16 : Int32) = nI 16 from rfl, dvd9 16 (by omega) (by decide) (by decide)]
        iterate 4 refine e_sp rfl rfl rfl ?_
        refine e_callV1 ok_M_hasPlace rfl lk_M_141 (by rfl) (by rfl) k_M_hasPlace rfl rfl ⟨Nat.le_of_ble_eq_true rfl, Nat.le_of_ble_eq_true rfl⟩ ⟨Nat.zero_le _, Nat.zero_le _⟩ (Nat.le_of_ble_eq_true rfl) ?_
        refine e_ifeq rfl (fun h2 => ?_) (fun h2 => ?_)
        · try rw [nI_clamp (show k < 2 ^ 31 by omega)]
          refine e_inc 1 rfl rfl rfl rfl ?_
          refine e_goto rfl ?_
          try dsimp only
          simp only [nI_1]
          simp only [nF] at ihk
          rw [rmF, if_pos hgo] at ihk
          (first | rw [if_pos h2] at ihk | rw [if_neg h2] at ihk)
          exact ihk hgo _ _ _ _
        · iterate 3 refine e_sp rfl rfl rfl ?_
          refine e_callV1 ok_M_isSkipped rfl lk_M_196 (by rfl) (by rfl) k_M_isSkipped rfl rfl ⟨Nat.le_of_ble_eq_true rfl, Nat.le_of_ble_eq_true rfl⟩ ⟨Nat.zero_le _, Nat.zero_le _⟩ (Nat.le_of_ble_eq_true rfl) ?_
          refine e_ifne rfl (fun h3 => ?_) (fun h3 => ?_)
          · try rw [nI_clamp (show k < 2 ^ 31 by omega)]
            refine e_inc 1 rfl rfl rfl rfl ?_
            refine e_goto rfl ?_
            try dsimp only
            simp only [nI_1]
            simp only [nF] at ihk
            rw [rmF, if_pos hgo] at ihk
            (first | rw [if_pos h2] at ihk | rw [if_neg h2] at ihk)
            (first | rw [if_pos h3] at ihk | rw [if_neg h3] at ihk)
            exact ihk hgo _ _ _ _
          · iterate 3 refine e_sp rfl rfl rfl ?_
            refine e_callV1 ok_M_contextOf rfl lk_M_199 (by rfl) (by rfl) (k_M_contextOf (hcc k) (hrr k) hc2 hr2 (by omega) (by omega)) rfl rfl ⟨Nat.le_of_ble_eq_true rfl, Nat.le_of_ble_eq_true rfl⟩ ⟨Nat.zero_le _, Nat.zero_le _⟩ (Nat.le_of_ble_eq_true rfl) ?_
            iterate 5 refine e_sp rfl rfl rfl ?_
            refine e_iald rfl (by first | rfl | assumption) (by exact ctM_in _ _ _) ?_
            refine e_iflt rfl (fun h4 => ?_) (fun h4 => ?_)
            · refine e_ci 0 rfl rfl ?_
              refine e_callV1 ok_M_readBit rfl lk_M_240 (by rfl) (by rfl) (k_M_readBit (hat k) hcm (by decide)) rfl rfl ⟨Nat.le_of_ble_eq_true rfl, Nat.le_of_ble_eq_true rfl⟩ ⟨Nat.zero_le _, Nat.zero_le _⟩ (Nat.le_of_ble_eq_true rfl) ?_
              iterate 3 refine e_sp rfl rfl rfl ?_
              refine e_ifne rfl (fun h5 => ?_) (fun h5 => ?_)
              · refine e_ci (-1) rfl rfl ?_
                refine e_iret rfl rfl (Nat.le_refl _) (Nat.le_refl _) ?_
                have e9 : nF rmF (k + 1) (nxM T) = mbS (nF rmF k (nxM T)) := by
                  show rmF k (nF rmF k (nxM T)) = _
                  rw [rmF, if_pos hgo]
                  (first | rw [if_pos h2] | rw [if_neg h2])
                  (first | rw [if_pos h3] | rw [if_neg h3])
                  rw [rmX]
                  (first | rw [if_pos h5] | rw [if_neg h5])
                have h9 : ¬ goes (nF rmF (k + 1) (nxM T)) := by
                  rw [e9]
                  exact fun g => (by first | exact h5 g.1 | exact h5 g.2)
                rw [← e9]
                have e8 : nF rmF (k + 1 + (255 - k)) (nxM T) = _ := rmN_stay h9 (255 - k)
                rw [show k + 1 + (255 - k) = 256 by omega] at e8
                rw [← e8]
                rw [← e8] at h9
                exact kx h9
              · iterate 2 refine e_sp rfl rfl rfl ?_
                refine e_ifeq rfl (fun h6 => ?_) (fun h6 => ?_)
                · iterate 3 refine e_sp rfl rfl rfl ?_
                  refine e_ci 1 rfl rfl ?_
                  iterate 5 refine e_sp rfl rfl rfl ?_
                  skip
                  iterate 1 refine e_sp rfl rfl rfl ?_
                  refine e_zast rfl (by first | rfl | assumption) (by exact vp_in_nI hk (by decide)) ?_
                  rw [nI_clamp (by omega)]
                  iterate 3 refine e_sp rfl rfl rfl ?_
                  refine e_callV0 ok_M_learn rfl lk_M_205 (by rfl) (by rfl) (k_M_learn (ctM_in _ _ _)) rfl rfl ⟨Nat.le_of_ble_eq_true rfl, Nat.le_of_ble_eq_true rfl⟩ ⟨Nat.zero_le _, Nat.zero_le _⟩ (Nat.le_of_ble_eq_true rfl) ?_
                  have ek : ∀ (q : Nat) (c b : Int32), q ≠ 36 → (rmU (rmV (mbS (nF rmF k (nxM T))) k c b) k b).1 21 q = (mbS (nF rmF k (nxM T))).1 21 q := fun q c b hq => rmUV_k hq
                  refine e_st (S2 := rmV (mbS (nF rmF k (nxM T))) k _ _) rfl ?_
                  iterate 3 refine e_sp rfl rfl rfl ?_
                  refine e_ci 2 rfl rfl ?_
                  iterate 3 refine e_sp rfl rfl rfl ?_
                  refine e_iald rfl (by first | rfl | assumption) (by exact vp_in_nI hk (by decide)) ?_
                  rw [nI_clamp (by omega)]
                  iterate 5 refine e_sp rfl rfl rfl ?_
                  refine e_iald rfl (by first | rfl | assumption) (by exact vp_in_nI hk (by decide)) ?_
                  rw [nI_clamp (by omega)]
                  refine e_ci 1 rfl rfl ?_
                  iterate 1 refine e_sp rfl rfl rfl ?_
                  refine e_ci 1 rfl rfl ?_
                  refine e_icne rfl (fun h7 => ?_) (fun h7 => ?_)
                  · refine e_ci 0 rfl rfl ?_
                    refine e_icne rfl (fun h8 => ?_) (fun h8 => ?_)
                    · refine e_ci 1 rfl rfl ?_
                      iterate 1 refine e_sp rfl rfl rfl ?_
                      refine e_iast rfl (by first | rfl | assumption) (by exact vp_in_nI hk (by decide)) ?_
                      try rw [nI_clamp (show k < 2 ^ 31 by omega)]
                      refine e_inc 1 rfl rfl rfl rfl ?_
                      refine e_goto rfl ?_
                      try dsimp only
                      simp only [nI_1]
                      simp only [nF] at ihk
                      rw [rmF, if_pos hgo] at ihk
                      (first | rw [if_pos h2] at ihk | rw [if_neg h2] at ihk)
                      (first | rw [if_pos h3] at ihk | rw [if_neg h3] at ihk)
                      (first | rw [if_pos h4] at ihk | rw [if_neg h4] at ihk)
                      rw [rmX] at ihk
                      (first | rw [if_pos h5] at ihk | rw [if_neg h5] at ihk)
                      (first | rw [if_pos h6] at ihk | rw [if_neg h6] at ihk)
                      have ihg := ihk ⟨(ek 35 _ _ (by decide)).trans (by assumption), (ek 37 _ _ (by decide)).trans (by assumption)⟩
                      rw [rmU] at ihg
                      (first | rw [if_pos h7] at ihg | rw [if_neg h7] at ihg)
                      (first | rw [if_pos h8] at ihg | rw [if_neg h8] at ihg)
                      exact ihg _ _ _ _
                    · refine e_ci 0 rfl rfl ?_
                      refine e_goto rfl ?_
                      iterate 1 refine e_sp rfl rfl rfl ?_
                      refine e_iast rfl (by first | rfl | assumption) (by exact vp_in_nI hk (by decide)) ?_
                      try rw [nI_clamp (show k < 2 ^ 31 by omega)]
                      refine e_inc 1 rfl rfl rfl rfl ?_
                      refine e_goto rfl ?_
                      try dsimp only
                      simp only [nI_1]
                      simp only [nF] at ihk
                      rw [rmF, if_pos hgo] at ihk
                      (first | rw [if_pos h2] at ihk | rw [if_neg h2] at ihk)
                      (first | rw [if_pos h3] at ihk | rw [if_neg h3] at ihk)
                      (first | rw [if_pos h4] at ihk | rw [if_neg h4] at ihk)
                      rw [rmX] at ihk
                      (first | rw [if_pos h5] at ihk | rw [if_neg h5] at ihk)
                      (first | rw [if_pos h6] at ihk | rw [if_neg h6] at ihk)
                      have ihg := ihk ⟨(ek 35 _ _ (by decide)).trans (by assumption), (ek 37 _ _ (by decide)).trans (by assumption)⟩
                      rw [rmU] at ihg
                      (first | rw [if_pos h7] at ihg | rw [if_neg h7] at ihg)
                      (first | rw [if_pos h8] at ihg | rw [if_neg h8] at ihg)
                      exact ihg _ _ _ _
                  · refine e_ci 1 rfl rfl ?_
                    refine e_goto rfl ?_
                    refine e_icne rfl (fun h9 => ?_) (fun h9 => ?_)
                    · refine e_ci 1 rfl rfl ?_
                      iterate 1 refine e_sp rfl rfl rfl ?_
                      refine e_iast rfl (by first | rfl | assumption) (by exact vp_in_nI hk (by decide)) ?_
                      try rw [nI_clamp (show k < 2 ^ 31 by omega)]
                      refine e_inc 1 rfl rfl rfl rfl ?_
                      refine e_goto rfl ?_
                      try dsimp only
                      simp only [nI_1]
                      simp only [nF] at ihk
                      rw [rmF, if_pos hgo] at ihk
                      (first | rw [if_pos h2] at ihk | rw [if_neg h2] at ihk)
                      (first | rw [if_pos h3] at ihk | rw [if_neg h3] at ihk)
                      (first | rw [if_pos h4] at ihk | rw [if_neg h4] at ihk)
                      rw [rmX] at ihk
                      (first | rw [if_pos h5] at ihk | rw [if_neg h5] at ihk)
                      (first | rw [if_pos h6] at ihk | rw [if_neg h6] at ihk)
                      have ihg := ihk ⟨(ek 35 _ _ (by decide)).trans (by assumption), (ek 37 _ _ (by decide)).trans (by assumption)⟩
                      rw [rmU] at ihg
                      (first | rw [if_pos h7] at ihg | rw [if_neg h7] at ihg)
                      (first | rw [if_pos h9] at ihg | rw [if_neg h9] at ihg)
                      exact ihg _ _ _ _
                    · refine e_ci 0 rfl rfl ?_
                      refine e_goto rfl ?_
                      iterate 1 refine e_sp rfl rfl rfl ?_
                      refine e_iast rfl (by first | rfl | assumption) (by exact vp_in_nI hk (by decide)) ?_
                      try rw [nI_clamp (show k < 2 ^ 31 by omega)]
                      refine e_inc 1 rfl rfl rfl rfl ?_
                      refine e_goto rfl ?_
                      try dsimp only
                      simp only [nI_1]
                      simp only [nF] at ihk
                      rw [rmF, if_pos hgo] at ihk
                      (first | rw [if_pos h2] at ihk | rw [if_neg h2] at ihk)
                      (first | rw [if_pos h3] at ihk | rw [if_neg h3] at ihk)
                      (first | rw [if_pos h4] at ihk | rw [if_neg h4] at ihk)
                      rw [rmX] at ihk
                      (first | rw [if_pos h5] at ihk | rw [if_neg h5] at ihk)
                      (first | rw [if_pos h6] at ihk | rw [if_neg h6] at ihk)
                      have ihg := ihk ⟨(ek 35 _ _ (by decide)).trans (by assumption), (ek 37 _ _ (by decide)).trans (by assumption)⟩
                      rw [rmU] at ihg
                      (first | rw [if_pos h7] at ihg | rw [if_neg h7] at ihg)
                      (first | rw [if_pos h9] at ihg | rw [if_neg h9] at ihg)
                      exact ihg _ _ _ _
                · refine e_ci (-1) rfl rfl ?_
                  refine e_iret rfl rfl (Nat.le_refl _) (Nat.le_refl _) ?_
                  have e9 : nF rmF (k + 1) (nxM T) = mbS (nF rmF k (nxM T)) := by
                    show rmF k (nF rmF k (nxM T)) = _
                    rw [rmF, if_pos hgo]
                    (first | rw [if_pos h2] | rw [if_neg h2])
                    (first | rw [if_pos h3] | rw [if_neg h3])
                    rw [rmX]
                    (first | rw [if_pos h5] | rw [if_neg h5])
                    (first | rw [if_pos h6] | rw [if_neg h6])
                  have h9 : ¬ goes (nF rmF (k + 1) (nxM T)) := by
                    rw [e9]
                    exact fun g => (by first | exact h6 g.1 | exact h6 g.2)
                  rw [← e9]
                  have e8 : nF rmF (k + 1 + (255 - k)) (nxM T) = _ := rmN_stay h9 (255 - k)
                  rw [show k + 1 + (255 - k) = 256 by omega] at e8
                  rw [← e8]
                  rw [← e8] at h9
                  exact kx h9
            · refine e_ci 1 rfl rfl ?_
              refine e_goto rfl ?_
              refine e_callV1 ok_M_readBit rfl lk_M_240 (by rfl) (by rfl) (k_M_readBit (hat k) hcm (by decide)) rfl rfl ⟨Nat.le_of_ble_eq_true rfl, Nat.le_of_ble_eq_true rfl⟩ ⟨Nat.zero_le _, Nat.zero_le _⟩ (Nat.le_of_ble_eq_true rfl) ?_
              iterate 3 refine e_sp rfl rfl rfl ?_
              refine e_ifne rfl (fun h10 => ?_) (fun h10 => ?_)
              · refine e_ci (-1) rfl rfl ?_
                refine e_iret rfl rfl (Nat.le_refl _) (Nat.le_refl _) ?_
                have e9 : nF rmF (k + 1) (nxM T) = mbS (nF rmF k (nxM T)) := by
                  show rmF k (nF rmF k (nxM T)) = _
                  rw [rmF, if_pos hgo]
                  (first | rw [if_pos h2] | rw [if_neg h2])
                  (first | rw [if_pos h3] | rw [if_neg h3])
                  rw [rmX]
                  (first | rw [if_pos h10] | rw [if_neg h10])
                have h9 : ¬ goes (nF rmF (k + 1) (nxM T)) := by
                  rw [e9]
                  exact fun g => (by first | exact h10 g.1 | exact h10 g.2)
                rw [← e9]
                have e8 : nF rmF (k + 1 + (255 - k)) (nxM T) = _ := rmN_stay h9 (255 - k)
                rw [show k + 1 + (255 - k) = 256 by omega] at e8
                rw [← e8]
                rw [← e8] at h9
                exact kx h9
              · iterate 2 refine e_sp rfl rfl rfl ?_
                refine e_ifeq rfl (fun h11 => ?_) (fun h11 => ?_)
                · iterate 3 refine e_sp rfl rfl rfl ?_
                  refine e_ci 1 rfl rfl ?_
                  iterate 5 refine e_sp rfl rfl rfl ?_
                  skip
                  iterate 1 refine e_sp rfl rfl rfl ?_
                  refine e_zast rfl (by first | rfl | assumption) (by exact vp_in_nI hk (by decide)) ?_
                  rw [nI_clamp (by omega)]
                  iterate 3 refine e_sp rfl rfl rfl ?_
                  refine e_callV0 ok_M_learn rfl lk_M_205 (by rfl) (by rfl) (k_M_learn (ctM_in _ _ _)) rfl rfl ⟨Nat.le_of_ble_eq_true rfl, Nat.le_of_ble_eq_true rfl⟩ ⟨Nat.zero_le _, Nat.zero_le _⟩ (Nat.le_of_ble_eq_true rfl) ?_
                  have ek : ∀ (q : Nat) (c b : Int32), q ≠ 36 → (rmU (rmV (mbS (nF rmF k (nxM T))) k c b) k b).1 21 q = (mbS (nF rmF k (nxM T))).1 21 q := fun q c b hq => rmUV_k hq
                  refine e_st (S2 := rmV (mbS (nF rmF k (nxM T))) k _ _) rfl ?_
                  iterate 3 refine e_sp rfl rfl rfl ?_
                  refine e_ci 2 rfl rfl ?_
                  iterate 3 refine e_sp rfl rfl rfl ?_
                  refine e_iald rfl (by first | rfl | assumption) (by exact vp_in_nI hk (by decide)) ?_
                  rw [nI_clamp (by omega)]
                  iterate 5 refine e_sp rfl rfl rfl ?_
                  refine e_iald rfl (by first | rfl | assumption) (by exact vp_in_nI hk (by decide)) ?_
                  rw [nI_clamp (by omega)]
                  refine e_ci 1 rfl rfl ?_
                  iterate 1 refine e_sp rfl rfl rfl ?_
                  refine e_ci 1 rfl rfl ?_
                  refine e_icne rfl (fun h12 => ?_) (fun h12 => ?_)
                  · refine e_ci 0 rfl rfl ?_
                    refine e_icne rfl (fun h13 => ?_) (fun h13 => ?_)
                    · refine e_ci 1 rfl rfl ?_
                      iterate 1 refine e_sp rfl rfl rfl ?_
                      refine e_iast rfl (by first | rfl | assumption) (by exact vp_in_nI hk (by decide)) ?_
                      try rw [nI_clamp (show k < 2 ^ 31 by omega)]
                      refine e_inc 1 rfl rfl rfl rfl ?_
                      refine e_goto rfl ?_
                      try dsimp only
                      simp only [nI_1]
                      simp only [nF] at ihk
                      rw [rmF, if_pos hgo] at ihk
                      (first | rw [if_pos h2] at ihk | rw [if_neg h2] at ihk)
                      (first | rw [if_pos h3] at ihk | rw [if_neg h3] at ihk)
                      (first | rw [if_pos h4] at ihk | rw [if_neg h4] at ihk)
                      rw [rmX] at ihk
                      (first | rw [if_pos h10] at ihk | rw [if_neg h10] at ihk)
                      (first | rw [if_pos h11] at ihk | rw [if_neg h11] at ihk)
                      have ihg := ihk ⟨(ek 35 _ _ (by decide)).trans (by assumption), (ek 37 _ _ (by decide)).trans (by assumption)⟩
                      rw [rmU] at ihg
                      (first | rw [if_pos h12] at ihg | rw [if_neg h12] at ihg)
                      (first | rw [if_pos h13] at ihg | rw [if_neg h13] at ihg)
                      exact ihg _ _ _ _
                    · refine e_ci 0 rfl rfl ?_
                      refine e_goto rfl ?_
                      iterate 1 refine e_sp rfl rfl rfl ?_
                      refine e_iast rfl (by first | rfl | assumption) (by exact vp_in_nI hk (by decide)) ?_
                      try rw [nI_clamp (show k < 2 ^ 31 by omega)]
                      refine e_inc 1 rfl rfl rfl rfl ?_
                      refine e_goto rfl ?_
                      try dsimp only
                      simp only [nI_1]
                      simp only [nF] at ihk
                      rw [rmF, if_pos hgo] at ihk
                      (first | rw [if_pos h2] at ihk | rw [if_neg h2] at ihk)
                      (first | rw [if_pos h3] at ihk | rw [if_neg h3] at ihk)
                      (first | rw [if_pos h4] at ihk | rw [if_neg h4] at ihk)
                      rw [rmX] at ihk
                      (first | rw [if_pos h10] at ihk | rw [if_neg h10] at ihk)
                      (first | rw [if_pos h11] at ihk | rw [if_neg h11] at ihk)
                      have ihg := ihk ⟨(ek 35 _ _ (by decide)).trans (by assumption), (ek 37 _ _ (by decide)).trans (by assumption)⟩
                      rw [rmU] at ihg
                      (first | rw [if_pos h12] at ihg | rw [if_neg h12] at ihg)
                      (first | rw [if_pos h13] at ihg | rw [if_neg h13] at ihg)
                      exact ihg _ _ _ _
                  · refine e_ci 1 rfl rfl ?_
                    refine e_goto rfl ?_
                    refine e_icne rfl (fun h14 => ?_) (fun h14 => ?_)
                    · refine e_ci 1 rfl rfl ?_
                      iterate 1 refine e_sp rfl rfl rfl ?_
                      refine e_iast rfl (by first | rfl | assumption) (by exact vp_in_nI hk (by decide)) ?_
                      try rw [nI_clamp (show k < 2 ^ 31 by omega)]
                      refine e_inc 1 rfl rfl rfl rfl ?_
                      refine e_goto rfl ?_
                      try dsimp only
                      simp only [nI_1]
                      simp only [nF] at ihk
                      rw [rmF, if_pos hgo] at ihk
                      (first | rw [if_pos h2] at ihk | rw [if_neg h2] at ihk)
                      (first | rw [if_pos h3] at ihk | rw [if_neg h3] at ihk)
                      (first | rw [if_pos h4] at ihk | rw [if_neg h4] at ihk)
                      rw [rmX] at ihk
                      (first | rw [if_pos h10] at ihk | rw [if_neg h10] at ihk)
                      (first | rw [if_pos h11] at ihk | rw [if_neg h11] at ihk)
                      have ihg := ihk ⟨(ek 35 _ _ (by decide)).trans (by assumption), (ek 37 _ _ (by decide)).trans (by assumption)⟩
                      rw [rmU] at ihg
                      (first | rw [if_pos h12] at ihg | rw [if_neg h12] at ihg)
                      (first | rw [if_pos h14] at ihg | rw [if_neg h14] at ihg)
                      exact ihg _ _ _ _
                    · refine e_ci 0 rfl rfl ?_
                      refine e_goto rfl ?_
                      iterate 1 refine e_sp rfl rfl rfl ?_
                      refine e_iast rfl (by first | rfl | assumption) (by exact vp_in_nI hk (by decide)) ?_
                      try rw [nI_clamp (show k < 2 ^ 31 by omega)]
                      refine e_inc 1 rfl rfl rfl rfl ?_
                      refine e_goto rfl ?_
                      try dsimp only
                      simp only [nI_1]
                      simp only [nF] at ihk
                      rw [rmF, if_pos hgo] at ihk
                      (first | rw [if_pos h2] at ihk | rw [if_neg h2] at ihk)
                      (first | rw [if_pos h3] at ihk | rw [if_neg h3] at ihk)
                      (first | rw [if_pos h4] at ihk | rw [if_neg h4] at ihk)
                      rw [rmX] at ihk
                      (first | rw [if_pos h10] at ihk | rw [if_neg h10] at ihk)
                      (first | rw [if_pos h11] at ihk | rw [if_neg h11] at ihk)
                      have ihg := ihk ⟨(ek 35 _ _ (by decide)).trans (by assumption), (ek 37 _ _ (by decide)).trans (by assumption)⟩
                      rw [rmU] at ihg
                      (first | rw [if_pos h12] at ihg | rw [if_neg h12] at ihg)
                      (first | rw [if_pos h14] at ihg | rw [if_neg h14] at ihg)
                      exact ihg _ _ _ _
                · refine e_ci (-1) rfl rfl ?_
                  refine e_iret rfl rfl (Nat.le_refl _) (Nat.le_refl _) ?_
                  have e9 : nF rmF (k + 1) (nxM T) = mbS (nF rmF k (nxM T)) := by
                    show rmF k (nF rmF k (nxM T)) = _
                    rw [rmF, if_pos hgo]
                    (first | rw [if_pos h2] | rw [if_neg h2])
                    (first | rw [if_pos h3] | rw [if_neg h3])
                    rw [rmX]
                    (first | rw [if_pos h10] | rw [if_neg h10])
                    (first | rw [if_pos h11] | rw [if_neg h11])
                  have h9 : ¬ goes (nF rmF (k + 1) (nxM T)) := by
                    rw [e9]
                    exact fun g => (by first | exact h11 g.1 | exact h11 g.2)
                  rw [← e9]
                  have e8 : nF rmF (k + 1 + (255 - k)) (nxM T) = _ := rmN_stay h9 (255 - k)
                  rw [show k + 1 + (255 - k) = 256 by omega] at e8
                  rw [← e8]
                  rw [← e8] at h9
                  exact kx h9)
  exact L1 hg0 _ _ _ _
