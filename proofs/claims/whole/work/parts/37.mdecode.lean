set_option maxHeartbeats 4000000 in
set_option maxRecDepth 40000 in
theorem k_M_readPlanesZ {l : Launch} {h : Nat} {T : St} {Q0 : Option AV → St → Prop} {pl : Int32} {z2 z3 z4 z5 z6 z7 : Option AV} (hq : Q0 (some (aI (if goes T then pl else -1))) T) : E0 l (SHm h) (4, 89) m_M_readPlanes 288 [some (aR 21), some (aI pl), z2, z3, z4, z5, z6, z7] [] T Q0 := by
  have hq9 : ∀ v, v = (if goes T then pl else -1) → Q0 (some (aI v)) T := fun v hv => by rw [hv]; exact hq
  iterate 2 refine e_sp rfl rfl rfl ?_
  refine e_ifne rfl (fun h1 => ?_) (fun h1 => ?_)
  · refine e_ci (-1) rfl rfl ?_
    refine e_goto rfl ?_
    refine e_iret rfl rfl (Nat.le_refl _) (Nat.le_refl _) ?_
    have hgo : True := trivial
    exact hq9 _ (by first | exact (if_pos ⟨h1, h1⟩).symm | exact (if_neg (fun g => h1 g.1)).symm | exact (if_neg (fun g => h1 g.2)).symm)
  · iterate 2 refine e_sp rfl rfl rfl ?_
    refine e_ifeq rfl (fun h2 => ?_) (fun h2 => ?_)
    · iterate 1 refine e_sp rfl rfl rfl ?_
      refine e_iret rfl rfl (Nat.le_refl _) (Nat.le_refl _) ?_
      have hgo : True := trivial
      exact hq9 _ (by first | exact (if_pos ⟨h1, h2⟩).symm | exact (if_neg (fun g => h1 g.1)).symm | exact (if_neg (fun g => h2 g.2)).symm)
    · refine e_ci (-1) rfl rfl ?_
      refine e_goto rfl ?_
      refine e_iret rfl rfl (Nat.le_refl _) (Nat.le_refl _) ?_
      have hgo : True := trivial
      exact hq9 _ (by first | exact (if_pos ⟨h1, h2⟩).symm | exact (if_neg (fun g => h1 g.1)).symm | exact (if_neg (fun g => h2 g.2)).symm)
set_option maxHeartbeats 4000000 in
set_option maxRecDepth 40000 in
theorem k_M_readPlanesE {l : Launch} {h cm : Nat} {T : St} {Q0 : Option AV → St → Prop} {pl : Int32} {z2 z3 z4 z5 z6 z7 : Option AV} (ha : atOK cm T) (hcm : cm ≤ 3000) (hq : Q0 (some (aI (if goes (mtT T) then pl else -1))) (mtT T)) : E0 l (SHm h) (4, 89) m_M_readPlanes 277 [some (aR 21), some (aI pl), z2, z3, z4, z5, z6, z7] [] T Q0 := by
  iterate 2 refine e_sp rfl rfl rfl ?_
  refine e_ifne rfl (fun h1 => ?_) (fun h1 => ?_)
  · try dsimp only
    have e9 : mtT T = if T.1 21 34 = 0 then mdS T else T := rfl
    (first | rw [if_pos h1] at e9 | rw [if_neg h1] at e9)
    exact k_M_readPlanesZ (by rw [← e9]; exact hq)
  · iterate 1 refine e_sp rfl rfl rfl ?_
    refine e_callV0 ok_M_readRun rfl lk_M_237 (by rfl) (by rfl) (k_M_readRun ha hcm) rfl rfl ⟨Nat.le_of_ble_eq_true rfl, Nat.le_of_ble_eq_true rfl⟩ ⟨Nat.zero_le _, Nat.zero_le _⟩ (Nat.le_of_ble_eq_true rfl) ?_
    try dsimp only
    have e9 : mtT T = if T.1 21 34 = 0 then mdS T else T := rfl
    (first | rw [if_pos h1] at e9 | rw [if_neg h1] at e9)
    exact k_M_readPlanesZ (by rw [← e9]; exact hq)
set_option maxHeartbeats 4000000 in
set_option maxRecDepth 40000 in
theorem k_M_readPlanesP {l : Launch} {h cm c r : Nat} {Q0 : Option AV → St → Prop} {pl : Int32} (hc2 : c ≤ 16) (hr2 : r ≤ 16) (hcm : cm ≤ 3000) : ∀ (n : Nat) (T : St), n ≤ 6 → T.1 21 9 = nI c → T.1 21 10 = nI r → atOK cm T → goes T → Q0 (some (aI (if goes (reF (rpN n T)) then pl else -1))) (reF (rpN n T)) → ∀ z3 z4 z5 z6 z7, E0 l (SHm h) (4, 89) m_M_readPlanes 99 [some (aR 21), some (aI pl), some (aI (nI n - 1)), z3, z4, z5, z6, z7] [] T Q0 := by
  intro n
  induction n with
  | zero =>
    intro T hn hc hr ha hg hq z3 z4 z5 z6 z7
    have hq : Q0 (some (aI (if goes (reF T) then pl else -1))) (reF T) := hq
    iterate 1 refine e_sp rfl rfl rfl ?_
    refine e_iflt rfl (fun h1 => ?_) (fun h1 => ?_)
    · try dsimp only
      exact k_M_readPlanesE ha hcm (by rw [show reF T = mtT T from if_pos hg] at hq; exact hq)
    · try dsimp only
      exact absurd (by decide) h1
  | succ n ih =>
    intro T hn hc hr ha hg hq z3 z4 z5 z6 z7
    have hp : rpP T = nF rmF 256 (nxM T) := if_pos hg
    rw [show rpN (n + 1) T = rpN n (rpP T) from rfl, hp] at hq
    have hI : rmI cm T (nF rmF 256 (nxM T)) := by rw [← hp]; exact rpP_I hcm ⟨fun _ _ => rfl, fun _ _ _ _ _ _ _ => rfl, rfl, ha⟩
    have kx : ¬ goes (nF rmF 256 (nxM T)) → Q0 (some (aI (-1))) (nF rmF 256 (nxM T)) := by
      revert hq
      generalize nF rmF 256 (nxM T) = U
      intro hq h9
      rw [rpN_stay h9, show reF U = U from if_neg h9, if_neg h9] at hq
      exact hq
    have kn : goes (nF rmF 256 (nxM T)) → ∀ z3 z4 z5 z6 z7, E0 l (SHm h) (4, 89) m_M_readPlanes 99 [some (aR 21), some (aI pl), some (aI (nI n - 1)), z3, z4, z5, z6, z7] [] (nF rmF 256 (nxM T)) Q0 := by
      revert hq hI
      generalize nF rmF 256 (nxM T) = U
      intro hq hI h9
      exact ih U (by omega) ((hI.1 9 (by decide)).trans hc) ((hI.1 10 (by decide)).trans hr) hI.2.2.2 h9 hq
    iterate 1 refine e_sp rfl rfl rfl ?_
    refine e_iflt rfl (fun h1 => ?_) (fun h1 => ?_)
    · try dsimp only
      exact absurd h1 (by rw [nI_pred]; exact nI_pos (by omega))
    · try dsimp only
      simp only [nI_pred]
      iterate 1 refine e_sp rfl rfl rfl ?_
      refine e_callV0 ok_M_nextPlane rfl lk_M_193 (by rfl) (by rfl) k_M_nextPlane rfl rfl ⟨Nat.le_of_ble_eq_true rfl, Nat.le_of_ble_eq_true rfl⟩ ⟨Nat.zero_le _, Nat.zero_le _⟩ (Nat.le_of_ble_eq_true rfl) ?_
      refine e_ci 0 rfl rfl ?_
      iterate 1 refine e_sp rfl rfl rfl ?_
      try dsimp only
      exact k_M_readPlanesK hc hr hc2 hr2 hcm ha hg kx kn _ _ _ _
theorem rd0_k {S : St} {m k : Nat} (h : k ≠ 36) (h2 : k ≠ 37) : (rd0 S m).1 21 k = S.1 21 k := by
  unfold rd0
  generalize plM (flI S 32 0 256) * nI (bl 6 m) = v
  have e : ∀ q, (flI S 32 0 256).1 21 q = S.1 21 q := fun q => by rw [flI_o (by decide)]
  generalize flI S 32 0 256 = U at e ⊢
  rw [← e]
  simp [puI, pt, upd, h, h2]
theorem rd0_37 {S : St} {m : Nat} : (rd0 S m).1 21 37 = 0 := by
  unfold rd0
  generalize plM (flI S 32 0 256) * nI (bl 6 m) = v
  generalize flI S 32 0 256 = U
  simp [puI, pt, upd]
set_option maxHeartbeats 4000000 in
set_option maxRecDepth 40000 in
theorem k_M_readPlanes {l : Launch} {h : Nat} {S : St} {c r m cm : Nat} (hc : S.1 21 9 = nI c) (hr : S.1 21 10 = nI r) (hc2 : c ≤ 16) (hr2 : r ≤ 16) (hm : S.1 21 7 = nI (m + 1)) (hm2 : m < 64) (ha : atOK cm S) (hcm : cm ≤ 3000) (h35 : S.1 21 35 = 0) : KK l (SHm h) (4, 89) m_M_readPlanes [aR 21] S (ans (some (aI (rpR S m))) (rpS S m)) := by
  refine k_start ok_M_readPlanes (Nat.le_of_ble_eq_true rfl) ?_
  have hb6 := bl_le 6 m
  have ha0 : atOK cm (rd0 S m) := by
    obtain ⟨h1, a, h2, h3⟩ := ha
    exact ⟨by rw [rd0_k (by decide) (by decide)]; exact h1, a, h2, by rw [rd0_k (by decide) (by decide)]; exact h3⟩
  have hg0 : goes (rd0 S m) := ⟨by rw [rd0_k (by decide) (by decide)]; exact h35, rd0_37⟩
  have hm : (flI S 32 0 256).1 21 7 = nI (m + 1) := by rw [flI_o (by decide)]; exact hm
  have L3 : E0 l (SHm h) (4, 89) m_M_readPlanes 99 [some (aR 21), some (aI (plM (flI S 32 0 256))), some (aI (nI (bl 6 m) - 1)), none, none, none, none, none] [] (rd0 S m) (ans (some (aI (rpR S m))) (rpS S m)) :=
    k_M_readPlanesP hc2 hr2 hcm (bl 6 m) (rd0 S m) hb6 (by rw [rd0_k (by decide) (by decide)]; exact hc) (by rw [rd0_k (by decide) (by decide)]; exact hr) ha0 hg0 ⟨rfl, rfl⟩ _ _ _ _ _
  unfold rd0 plM at L3
  generalize hF : (flI S 32 0 256) = F at L3 hm
  have L2 := e_for (P := fun k => E0 l (SHm h) (4, 89) m_M_readPlanes 26 [some (aR 21), some (aI (nF (plF F) k 0)), some (aI (nI k)), none, none, none, none, none] [] (F) (ans (some (aI (rpR S m))) (rpS S m))) (256) (by
      iterate 1 refine e_sp rfl rfl rfl ?_
      refine e_cs 256 rfl rfl ?_
      refine e_icge rfl (fun h1 => ?_) (fun h1 => ?_)
      · iterate 3 refine e_sp rfl rfl rfl ?_
        refine e_callV1 ok_M_planes rfl lk_M_114 (by rfl) (by rfl) (k_M_planes (m := m) (by simpa [puI, pt, upd] using hm) hm2) rfl rfl ⟨Nat.le_of_ble_eq_true rfl, Nat.le_of_ble_eq_true rfl⟩ ⟨Nat.zero_le _, Nat.zero_le _⟩ (Nat.le_of_ble_eq_true rfl) ?_
        iterate 3 refine e_sp rfl rfl rfl ?_
        refine e_ci 0 rfl rfl ?_
        iterate 2 refine e_sp rfl rfl rfl ?_
        refine e_callV1 ok_M_planes rfl lk_M_114 (by rfl) (by rfl) (k_M_planes (m := m) (by simpa [puI, pt, upd] using hm) hm2) rfl rfl ⟨Nat.le_of_ble_eq_true rfl, Nat.le_of_ble_eq_true rfl⟩ ⟨Nat.zero_le _, Nat.zero_le _⟩ (Nat.le_of_ble_eq_true rfl) ?_
        refine e_ci 1 rfl rfl ?_
        iterate 2 refine e_sp rfl rfl rfl ?_
        try dsimp only
        exact L3
      · try dsimp only
        exact absurd (nI_le (Nat.le_refl _) (by decide)) h1) (fun k hk ihk => by
      iterate 1 refine e_sp rfl rfl rfl ?_
      refine e_cs 256 rfl rfl ?_
      refine e_icge rfl (fun h1 => ?_) (fun h1 => ?_)
      · try dsimp only
        exact absurd h1 (nI_ge hk (by decide))
      · iterate 3 refine e_sp rfl rfl rfl ?_
        refine e_cb 16 rfl rfl ?_
        refine e_rem rfl (by decide) ?_
        try dsimp only
        rw [show (16 : Int32) = nI 16 from rfl, rmd 16 (by omega) (by decide) (by decide)]
        iterate 1 refine e_sp rfl rfl rfl ?_
        refine e_cb 16 rfl rfl ?_
        refine e_div rfl (by decide) ?_
        try dsimp only
        rw [show (16 : Int32) = nI 16 from rfl, dvd9 16 (by omega) (by decide) (by decide)]
        refine e_callV1 ok_M_hasPlace rfl lk_M_141 (by rfl) (by rfl) k_M_hasPlace rfl rfl ⟨Nat.le_of_ble_eq_true rfl, Nat.le_of_ble_eq_true rfl⟩ ⟨Nat.zero_le _, Nat.zero_le _⟩ (Nat.le_of_ble_eq_true rfl) ?_
        refine e_ifeq rfl (fun h2 => ?_) (fun h2 => ?_)
        · refine e_ci 0 rfl rfl ?_
          iterate 2 refine e_sp rfl rfl rfl ?_
          refine e_inc 1 rfl rfl rfl rfl ?_
          refine e_goto rfl ?_
          try dsimp only
          rw [nI_1]
          simp only [nF] at ihk
          rw [plF] at ihk
          (first | rw [if_pos h2] at ihk | rw [if_neg h2] at ihk)
          exact ihk
        · iterate 2 refine e_sp rfl rfl rfl ?_
          refine e_cb 16 rfl rfl ?_
          refine e_rem rfl (by decide) ?_
          try dsimp only
          rw [show (16 : Int32) = nI 16 from rfl, rmd 16 (by omega) (by decide) (by decide)]
          iterate 1 refine e_sp rfl rfl rfl ?_
          refine e_cb 16 rfl rfl ?_
          refine e_div rfl (by decide) ?_
          try dsimp only
          rw [show (16 : Int32) = nI 16 from rfl, dvd9 16 (by omega) (by decide) (by decide)]
          refine e_callV1 ok_M_isSkipped rfl lk_M_196 (by rfl) (by rfl) k_M_isSkipped rfl rfl ⟨Nat.le_of_ble_eq_true rfl, Nat.le_of_ble_eq_true rfl⟩ ⟨Nat.zero_le _, Nat.zero_le _⟩ (Nat.le_of_ble_eq_true rfl) ?_
          refine e_ifne rfl (fun h3 => ?_) (fun h3 => ?_)
          · refine e_ci 0 rfl rfl ?_
            iterate 2 refine e_sp rfl rfl rfl ?_
            refine e_inc 1 rfl rfl rfl rfl ?_
            refine e_goto rfl ?_
            try dsimp only
            rw [nI_1]
            simp only [nF] at ihk
            rw [plF] at ihk
            (first | rw [if_pos h2] at ihk | rw [if_neg h2] at ihk)
            (first | rw [if_pos h3] at ihk | rw [if_neg h3] at ihk)
            exact ihk
          · refine e_ci 1 rfl rfl ?_
            refine e_goto rfl ?_
            iterate 2 refine e_sp rfl rfl rfl ?_
            refine e_inc 1 rfl rfl rfl rfl ?_
            refine e_goto rfl ?_
            try dsimp only
            rw [nI_1]
            simp only [nF] at ihk
            rw [plF] at ihk
            (first | rw [if_pos h2] at ihk | rw [if_neg h2] at ihk)
            (first | rw [if_pos h3] at ihk | rw [if_neg h3] at ihk)
            exact ihk)
  rw [← hF] at L2
  have L1 := e_for (P := fun i => E0 l (SHm h) (4, 89) m_M_readPlanes 2 [some (aR 21), some (aI (nI i)), none, none, none, none, none, none] [] (flI S 32 0 i) (ans (some (aI (rpR S m))) (rpS S m))) (256) (by
      iterate 1 refine e_sp rfl rfl rfl ?_
      refine e_cs 256 rfl rfl ?_
      refine e_icge rfl (fun h1 => ?_) (fun h1 => ?_)
      · refine e_ci 0 rfl rfl ?_
        iterate 1 refine e_sp rfl rfl rfl ?_
        refine e_ci 0 rfl rfl ?_
        iterate 1 refine e_sp rfl rfl rfl ?_
        try dsimp only
        exact L2
      · try dsimp only
        exact absurd (nI_le (Nat.le_refl _) (by decide)) h1) (fun i hi ihi => by
      iterate 1 refine e_sp rfl rfl rfl ?_
      refine e_cs 256 rfl rfl ?_
      refine e_icge rfl (fun h1 => ?_) (fun h1 => ?_)
      · try dsimp only
        exact absurd h1 (nI_ge hi (by decide))
      · iterate 3 refine e_sp rfl rfl rfl ?_
        refine e_ci 0 rfl rfl ?_
        refine e_iast rfl (by first | rfl | assumption) (by exact vp_in_nI hi (by decide)) ?_
        refine e_inc 1 rfl rfl rfl rfl ?_
        refine e_goto rfl ?_
        try dsimp only
        rw [nI_clamp (by omega), flI_s, nI_1]
        exact ihi)
  refine e_ci 0 rfl rfl ?_
  iterate 1 refine e_sp rfl rfl rfl ?_
  try dsimp only
  rw [flI_0] at L1
  exact L1
/-! isMore, refusal -/
def imF (S : St) (a i : Nat) (v : Int32) : Int32 := if v = 0 then (if S.1 27 ((a + i) / 8) >>> ((7 - nI ((a + i) % 8)) &&& 31) &&& 1 = 1 then 1 else 0) else 1
def im0 (S : St) : Int32 := if 8 * S.1 21 23 ≤ S.1 21 32 + 7 then 0 else 1
def imM (S : St) : Int32 := nF (imF S (atM S)) (8 * (S.1 21 23).toNatClampNeg - atM S) (im0 S)
theorem imN_01 {S : St} {a : Nat} {v : Int32} (h : v = 0 ∨ v = 1) : ∀ i, nF (imF S a) i v = 0 ∨ nF (imF S a) i v = 1
  | 0 => h
  | i + 1 => by
    show imF S a i (nF (imF S a) i v) = 0 ∨ imF S a i (nF (imF S a) i v) = 1
    unfold imF
    split
    · split
      · exact Or.inr rfl
      · exact Or.inl rfl
    · exact Or.inr rfl
set_option maxHeartbeats 4000000 in
set_option maxRecDepth 40000 in
theorem k_M_isMoreL {l : Launch} {h : Nat} {S : St} {c a : Nat} {v : Int32} (hz1 : S.1 21 23 = nI c) (hz2 : a ≤ 8 * c) (hc : c ≤ 3000) (hv : v = 0 ∨ v = 1) : E0 l (SHm h) (0, 0) m_M_isMore 28 [some (aR 21), some (aI v), some (aI (nI a))] [] S (ans (some (aI (nF (imF S a) (8 * c - a) v))) S) := by
  have L1 := e_for (P := fun i => E0 l (SHm h) (0, 0) m_M_isMore 28 [some (aR 21), some (aI (nF (imF S a) i v)), some (aI (nI (a + i)))] [] (S) (ans (some (aI (nF (imF S a) (8 * c - a) v))) S)) (8 * c - a) (by
      iterate 1 refine e_sp rfl rfl rfl ?_
      refine e_cb 8 rfl rfl ?_
      iterate 3 refine e_sp rfl rfl rfl ?_
      refine e_icge rfl (fun h1 => ?_) (fun h1 => ?_)
      · iterate 1 refine e_sp rfl rfl rfl ?_
        refine e_zret rfl rfl (Nat.le_refl _) (Nat.le_refl _) (by exact imN_01 hv _) ?_
        exact ⟨rfl, rfl⟩
      · try dsimp only
        try dsimp only at h1
        rw [hz1, ix8] at h1
        exact absurd (nI_le (by omega) (by omega)) h1) (fun i hi ihi => by
      iterate 1 refine e_sp rfl rfl rfl ?_
      refine e_cb 8 rfl rfl ?_
      iterate 3 refine e_sp rfl rfl rfl ?_
      refine e_icge rfl (fun h1 => ?_) (fun h1 => ?_)
      · try dsimp only
        try dsimp only at h1
        rw [hz1, ix8] at h1
        exact absurd h1 (nI_ge (show a + i < 8 * c by omega) (by omega))
      · iterate 1 refine e_sp rfl rfl rfl ?_
        refine e_ifne rfl (fun h2 => ?_) (fun h2 => ?_)
        · refine e_ci 1 rfl rfl ?_
          refine e_goto rfl ?_
          iterate 1 refine e_sp rfl rfl rfl ?_
          refine e_inc 1 rfl rfl rfl rfl ?_
          refine e_goto rfl ?_
          try dsimp only
          rw [nI_1]
          simp only [nF] at ihi
          rw [imF] at ihi
          (first | rw [if_pos h2] at ihi | rw [if_neg h2] at ihi)
          exact ihi
        · iterate 3 refine e_sp rfl rfl rfl ?_
          refine e_cb 8 rfl rfl ?_
          refine e_div rfl (by decide) ?_
          try dsimp only
          rw [show (8 : Int32) = nI 8 from rfl, dvd9 8 (by omega) (by decide) (by decide)]
          refine e_iald rfl (by first | rfl | assumption) (by exact vp_in_nI (show (a + i) / 8 < 3000 by omega) (by decide)) ?_
          rw [nI_clamp (by omega)]
          refine e_cb 7 rfl rfl ?_
          iterate 1 refine e_sp rfl rfl rfl ?_
          refine e_cb 8 rfl rfl ?_
          refine e_rem rfl (by decide) ?_
          try dsimp only
          rw [show (8 : Int32) = nI 8 from rfl, rmd 8 (by omega) (by decide) (by decide)]
          iterate 2 refine e_sp rfl rfl rfl ?_
          refine e_ci 1 rfl rfl ?_
          iterate 1 refine e_sp rfl rfl rfl ?_
          refine e_ci 1 rfl rfl ?_
          refine e_icne rfl (fun h3 => ?_) (fun h3 => ?_)
          · refine e_ci 0 rfl rfl ?_
            iterate 1 refine e_sp rfl rfl rfl ?_
            refine e_inc 1 rfl rfl rfl rfl ?_
            refine e_goto rfl ?_
            try dsimp only
            rw [nI_1]
            simp only [nF] at ihi
            rw [imF] at ihi
            (first | rw [if_pos h2] at ihi | rw [if_neg h2] at ihi)
            (first | rw [if_pos h3] at ihi | rw [if_neg h3] at ihi)
            exact ihi
          · refine e_ci 1 rfl rfl ?_
            refine e_goto rfl ?_
            iterate 1 refine e_sp rfl rfl rfl ?_
            refine e_inc 1 rfl rfl rfl rfl ?_
            refine e_goto rfl ?_
            try dsimp only
            rw [nI_1]
            simp only [nF] at ihi
            rw [imF] at ihi
            (first | rw [if_pos h2] at ihi | rw [if_neg h2] at ihi)
            (first | rw [if_pos h3] at ihi | rw [if_neg h3] at ihi)
            exact ihi)
  exact L1
set_option maxHeartbeats 4000000 in
set_option maxRecDepth 40000 in
theorem k_M_isMore {l : Launch} {h : Nat} {S : St} {c : Nat} (ha : atOK c S) (hc : c ≤ 3000) : KK l (SHm h) (0, 0) m_M_isMore [aR 21] S (ans (some (aI (imM S))) S) := by
  refine k_start ok_M_isMore (Nat.le_of_ble_eq_true rfl) ?_
  obtain ⟨hz1, a, hz2, hz3⟩ := ha
  have e3 : atM S = a := by rw [atM, hz3, nI_clamp (by omega)]
  iterate 2 refine e_sp rfl rfl rfl ?_
  refine e_cb 7 rfl rfl ?_
  iterate 1 refine e_sp rfl rfl rfl ?_
  refine e_cb 8 rfl rfl ?_
  iterate 3 refine e_sp rfl rfl rfl ?_
  refine e_icge rfl (fun h1 => ?_) (fun h1 => ?_)
  · refine e_ci 0 rfl rfl ?_
    iterate 4 refine e_sp rfl rfl rfl ?_
    try dsimp only
    have e9 : im0 S = if 8 * S.1 21 23 ≤ S.1 21 32 + 7 then 0 else 1 := rfl
    (first | rw [if_pos h1] at e9 | rw [if_neg h1] at e9)
    have e8 : imM S = nF (imF S a) (8 * c - a) (im0 S) := by rw [imM, e3, hz1, nI_clamp (by omega)]
    rw [e8, e9, hz3]
    exact k_M_isMoreL hz1 hz2 hc (by decide)
  · refine e_ci 1 rfl rfl ?_
    refine e_goto rfl ?_
    iterate 4 refine e_sp rfl rfl rfl ?_
    try dsimp only
    have e9 : im0 S = if 8 * S.1 21 23 ≤ S.1 21 32 + 7 then 0 else 1 := rfl
    (first | rw [if_pos h1] at e9 | rw [if_neg h1] at e9)
    have e8 : imM S = nF (imF S a) (8 * c - a) (im0 S) := by rw [imM, e3, hz1, nI_clamp (by omega)]
    rw [e8, e9, hz3]
    exact k_M_isMoreL hz1 hz2 hc (by decide)
def rfA (S : St) : Nat → Bool
  | 0 => true
  | i + 1 => rfA S i && decide (S.1 32 i < S.1 21 7)
theorem rfA_iff (S : St) : ∀ n, rfA S n = true ↔ ∀ i, i < n → S.1 32 i < S.1 21 7
  | 0 => ⟨fun _ i h => absurd h (Nat.not_lt_zero i), fun _ => rfl⟩
  | n + 1 => by
    simp only [rfA, Bool.and_eq_true, decide_eq_true_eq, rfA_iff S n]
    constructor
    · rintro ⟨h1, h2⟩ i hi
      rcases Nat.lt_or_ge i n with g | g
      · exact h1 i g
      · rw [show i = n by omega]; exact h2
    · intro h1
      exact ⟨fun i hi => h1 i (by omega), h1 n (by omega)⟩
def rfR (S : St) : Int32 := if imM S = 0 then (if rfA S 256 = true then 0 else 4) else 3
set_option maxHeartbeats 4000000 in
set_option maxRecDepth 40000 in
theorem k_M_refusal {l : Launch} {h : Nat} {S : St} {c : Nat} (ha : atOK c S) (hc : c ≤ 3000) : KK l (SHm h) (1, 22) m_M_refusal [aR 21] S (ans (some (aI (rfR S))) S) := by
  refine k_start ok_M_refusal (Nat.le_of_ble_eq_true rfl) ?_
  iterate 1 refine e_sp rfl rfl rfl ?_
  refine e_callV1 ok_M_isMore rfl lk_M_244 (by rfl) (by rfl) (k_M_isMore ha hc) rfl rfl ⟨Nat.le_of_ble_eq_true rfl, Nat.le_of_ble_eq_true rfl⟩ ⟨Nat.zero_le _, Nat.zero_le _⟩ (Nat.le_of_ble_eq_true rfl) ?_
  refine e_ifeq rfl (fun h1 => ?_) (fun h1 => ?_)
  · refine e_ci 0 rfl rfl ?_
    iterate 1 refine e_sp rfl rfl rfl ?_
    try dsimp only
    have hm0 := h1
    have L1 := e_for (P := fun i => ∀ (_ : ∀ q, q < i → S.1 32 q < S.1 21 7), E0 l (SHm h) (1, 22) m_M_refusal 11 [some (aR 21), some (aI (nI i))] [] (S) (ans (some (aI (rfR S))) S)) (256) (by
        intro hall
        iterate 1 refine e_sp rfl rfl rfl ?_
        refine e_cs 256 rfl rfl ?_
        refine e_icge rfl (fun h1 => ?_) (fun h1 => ?_)
        · refine e_ci 0 rfl rfl ?_
          refine e_iret rfl rfl (Nat.le_refl _) (Nat.le_refl _) ?_
          exact ⟨by rw [rfR, if_pos hm0, if_pos ((rfA_iff S 256).mpr hall)], rfl⟩
        · try dsimp only
          exact absurd (nI_le (Nat.le_refl _) (by decide)) h1) (fun i hi ihi => by
        intro hall
        iterate 1 refine e_sp rfl rfl rfl ?_
        refine e_cs 256 rfl rfl ?_
        refine e_icge rfl (fun h1 => ?_) (fun h1 => ?_)
        · try dsimp only
          exact absurd h1 (nI_ge hi (by decide))
        · iterate 3 refine e_sp rfl rfl rfl ?_
          refine e_iald rfl (by first | rfl | assumption) (by exact vp_in_nI hi (by decide)) ?_
          rw [nI_clamp (by omega)]
          iterate 2 refine e_sp rfl rfl rfl ?_
          refine e_iclt rfl (fun h2 => ?_) (fun h2 => ?_)
          · refine e_inc 1 rfl rfl rfl rfl ?_
            refine e_goto rfl ?_
            try dsimp only
            rw [nI_1]
            refine ihi (fun q hq => ?_)
            rcases Nat.lt_or_ge q i with g | g
            · exact hall q g
            · rw [show q = i by omega]; exact h2
          · refine e_ci 4 rfl rfl ?_
            refine e_iret rfl rfl (Nat.le_refl _) (Nat.le_refl _) ?_
            exact ⟨by rw [rfR, if_pos hm0, if_neg (fun g => h2 ((rfA_iff S 256).mp g i hi))], rfl⟩)
    exact L1 (fun q hq => absurd hq (Nat.not_lt_zero q))
  · refine e_ci 3 rfl rfl ?_
    refine e_iret rfl rfl (Nat.le_refl _) (Nat.le_refl _) ?_
    exact ⟨by rw [rfR, if_neg h1], rfl⟩
/-! decode -/
def de0 (S : St) : St := puI (puI (puI (puI (brM (puI S 21 0 0)) 21 32 0) 21 33 0) 21 34 0) 21 35 0
def deN (T : St) (pl : Int32) : Int32 := if T.1 21 35 = 0 then (if 0 ≤ pl then rfR T else 2) else 1
def cyF (i : Nat) (T : St) : St := puI T 25 i (T.1 32 i)
def deR (T : St) (pl : Int32) : Int32 := if deN T pl ≤ 0 then pl else -1 - deN T pl
def deS (T : St) (pl : Int32) : St := if deN T pl ≤ 0 then nF cyF 256 (puI T 21 23 0) else puI T 21 23 0
def deX (S : St) (m : Nat) : St := rpS (de0 S) m
def deP (S : St) (m : Nat) : Int32 := rpR (de0 S) m
theorem de0_k {S : St} {k : Nat} (h0 : k ≠ 0) (h : k < 29) : (de0 S).1 21 k = S.1 21 k := by
  have h1 : k ≠ 32 := by omega
  have h2 : k ≠ 33 := by omega
  have h3 : k ≠ 34 := by omega
  have h4 : k ≠ 35 := by omega
  have e : (brM (puI S 21 0 0)).1 21 k = S.1 21 k := by rw [brM_k (by omega) (by omega) (by omega)]; simp [puI, pt, upd, h0]
  rw [← e]
  unfold de0
  simp [puI, pt, upd, h1, h2, h3, h4]
set_option maxHeartbeats 4000000 in
set_option maxRecDepth 40000 in
theorem k_M_decodeC {l : Launch} {h : Nat} {W : St} {pl no : Int32} : E0 l (SHm h) (5, 116) m_M_decode 73 [some (aR 21), some (aI pl), some (aI no), some (aI (nI 0))] [] W (ans (some (aI pl)) (nF cyF 256 W)) := by
  have L1 := e_for (P := fun i => E0 l (SHm h) (5, 116) m_M_decode 73 [some (aR 21), some (aI pl), some (aI no), some (aI (nI i))] [] (nF cyF i W) (ans (some (aI pl)) (nF cyF 256 W))) (256) (by
      iterate 1 refine e_sp rfl rfl rfl ?_
      refine e_cs 256 rfl rfl ?_
      refine e_icge rfl (fun h1 => ?_) (fun h1 => ?_)
      · iterate 1 refine e_sp rfl rfl rfl ?_
        refine e_iret rfl rfl (Nat.le_refl _) (Nat.le_refl _) ?_
        exact ⟨rfl, rfl⟩
      · try dsimp only
        exact absurd (nI_le (Nat.le_refl _) (by decide)) h1) (fun i hi ihi => by
      iterate 1 refine e_sp rfl rfl rfl ?_
      refine e_cs 256 rfl rfl ?_
      refine e_icge rfl (fun h1 => ?_) (fun h1 => ?_)
      · try dsimp only
        exact absurd h1 (nI_ge hi (by decide))
      · iterate 6 refine e_sp rfl rfl rfl ?_
        refine e_iald rfl (by first | rfl | assumption) (by exact vp_in_nI hi (by decide)) ?_
        rw [nI_clamp (by omega)]
        refine e_iast rfl (by first | rfl | assumption) (by exact vp_in_nI hi (by decide)) ?_
        try rw [nI_clamp (by omega)]
        refine e_inc 1 rfl rfl rfl rfl ?_
        refine e_goto rfl ?_
        try dsimp only
        rw [nI_1]
        exact ihi)
  exact L1
set_option maxHeartbeats 4000000 in
set_option maxRecDepth 40000 in
theorem k_M_decodeD {l : Launch} {h : Nat} {T : St} {pl : Int32} (z3 : Option AV) : E0 l (SHm h) (5, 116) m_M_decode 58 [some (aR 21), some (aI pl), some (aI (deN T pl)), z3] [] T (ans (some (aI (deR T pl))) (deS T pl)) := by
  have hdR : deR T pl = if deN T pl ≤ 0 then pl else -1 - deN T pl := rfl
  have hdS : deS T pl = if deN T pl ≤ 0 then nF cyF 256 (puI T 21 23 0) else puI T 21 23 0 := rfl
  generalize deN T pl = no at hdR hdS ⊢
  iterate 1 refine e_sp rfl rfl rfl ?_
  refine e_ci 0 rfl rfl ?_
  iterate 2 refine e_sp rfl rfl rfl ?_
  refine e_ifle rfl (fun h1 => ?_) (fun h1 => ?_)
  · refine e_ci 0 rfl rfl ?_
    iterate 1 refine e_sp rfl rfl rfl ?_
    try dsimp only
    rw [hdR, hdS, if_pos h1, if_pos h1]
    exact k_M_decodeC
  · refine e_ci (-1) rfl rfl ?_
    iterate 2 refine e_sp rfl rfl rfl ?_
    refine e_iret rfl rfl (Nat.le_refl _) (Nat.le_refl _) ?_
    rw [hdR, hdS, if_neg h1, if_neg h1]
    exact ⟨rfl, rfl⟩
set_option maxHeartbeats 4000000 in
set_option maxRecDepth 40000 in
theorem k_M_decodeT {l : Launch} {h cm : Nat} {T : St} {pl : Int32} (ha : atOK cm T) (hcm : cm ≤ 3000) (z2 z3 : Option AV) : E0 l (SHm h) (5, 116) m_M_decode 34 [some (aR 21), some (aI pl), z2, z3] [] T (ans (some (aI (deR T pl))) (deS T pl)) := by
  iterate 2 refine e_sp rfl rfl rfl ?_
  refine e_ifeq rfl (fun h1 => ?_) (fun h1 => ?_)
  · iterate 1 refine e_sp rfl rfl rfl ?_
    refine e_ifge rfl (fun h2 => ?_) (fun h2 => ?_)
    · iterate 1 refine e_sp rfl rfl rfl ?_
      refine e_callV1 ok_M_refusal rfl lk_M_251 (by rfl) (by rfl) (k_M_refusal ha hcm) rfl rfl ⟨Nat.le_of_ble_eq_true rfl, Nat.le_of_ble_eq_true rfl⟩ ⟨Nat.zero_le _, Nat.zero_le _⟩ (Nat.le_of_ble_eq_true rfl) ?_
      try dsimp only
      have e9 : deN T pl = if T.1 21 35 = 0 then (if 0 ≤ pl then rfR T else 2) else 1 := rfl
      (first | rw [if_pos h1] at e9 | rw [if_neg h1] at e9)
      (first | rw [if_pos h2] at e9 | rw [if_neg h2] at e9)
      rw [← e9]
      refine e_sp rfl rfl rfl ?_
      exact k_M_decodeD _
    · refine e_ci 2 rfl rfl ?_
      refine e_goto rfl ?_
      try dsimp only
      have e9 : deN T pl = if T.1 21 35 = 0 then (if 0 ≤ pl then rfR T else 2) else 1 := rfl
      (first | rw [if_pos h1] at e9 | rw [if_neg h1] at e9)
      (first | rw [if_pos h2] at e9 | rw [if_neg h2] at e9)
      rw [← e9]
      refine e_sp rfl rfl rfl ?_
      exact k_M_decodeD _
  · refine e_ci 1 rfl rfl ?_
    refine e_goto rfl ?_
    try dsimp only
    have e9 : deN T pl = if T.1 21 35 = 0 then (if 0 ≤ pl then rfR T else 2) else 1 := rfl
    (first | rw [if_pos h1] at e9 | rw [if_neg h1] at e9)
    rw [← e9]
    refine e_sp rfl rfl rfl ?_
    exact k_M_decodeD _
theorem de0_at {cm : Nat} {S : St} (hc : S.1 21 23 = nI cm) : atOK cm (de0 S) := by
  refine ⟨by rw [de0_k (by decide) (by decide)]; exact hc, 0, Nat.zero_le _, ?_⟩
  simp [de0, puI, pt, upd, nI_0]
theorem de0_35 {S : St} : (de0 S).1 21 35 = 0 := by simp [de0, puI, pt, upd]
theorem rpS_I {cm m : Nat} {S : St} (hcm : cm ≤ 3000) (ha : atOK cm S) : rmI cm S (rpS S m) := by
  have h0 : rmI cm S (rd0 S m) := by
    obtain ⟨h1, a, h2, h3⟩ := ha
    refine ⟨fun k hk => rd0_k (by omega) (by omega), fun o o1 o2 o3 o4 o5 o6 => ?_, rfl, by rw [rd0_k (by decide) (by decide)]; exact h1, a, h2, by rw [rd0_k (by decide) (by decide)]; exact h3⟩
    rw [rd0, puI_o o1, puI_o o1, flI_o o6]
  have h1 := rpN_I hcm (bl 6 m) _ h0
  unfold rpS
  generalize rpN (bl 6 m) (rd0 S m) = U at h1 ⊢
  unfold reF
  split
  · obtain ⟨g1, g2, g3, g4⟩ := h1
    refine ⟨fun k hk => (mtT_k hk).trans (g1 k hk), fun o o1 o2 o3 o4 o5 o6 => (mtT_o o1).1.trans (g2 o o1 o2 o3 o4 o5 o6), (mtT_o (o := 0) (by decide)).2.trans g3, ?_⟩
    unfold mtT
    split
    · exact mdS_at hcm g4
    · exact g4
  · exact h1
set_option maxHeartbeats 4000000 in
set_option maxRecDepth 40000 in
theorem k_M_decode {l : Launch} {h : Nat} {S : St} {c r m cm : Nat} (hc : S.1 21 9 = nI c) (hr : S.1 21 10 = nI r) (hc2 : c ≤ 16) (hr2 : r ≤ 16) (hm : S.1 21 7 = nI (m + 1)) (hm2 : m < 64) (hcb : S.1 21 23 = nI cm) (hcm : cm ≤ 3000) : KK l (SHm h) (5, 116) m_M_decode [aR 21] S (ans (some (aI (deR (deX S m) (deP S m)))) (deS (deX S m) (deP S m))) := by
  refine k_start ok_M_decode (Nat.le_of_ble_eq_true rfl) ?_
  have ha0 := de0_at hcb
  have h350 : (de0 S).1 21 35 = 0 := de0_35
  have hX : atOK cm (deX S m) := (rpS_I hcm ha0).2.2.2
  iterate 1 refine e_sp rfl rfl rfl ?_
  refine e_ci 0 rfl rfl ?_
  iterate 2 refine e_sp rfl rfl rfl ?_
  refine e_callV0 ok_M_beginRuns rfl lk_M_190 (by rfl) (by rfl) k_M_beginRuns rfl rfl ⟨Nat.le_of_ble_eq_true rfl, Nat.le_of_ble_eq_true rfl⟩ ⟨Nat.zero_le _, Nat.zero_le _⟩ (Nat.le_of_ble_eq_true rfl) ?_
  iterate 1 refine e_sp rfl rfl rfl ?_
  refine e_ci 0 rfl rfl ?_
  iterate 2 refine e_sp rfl rfl rfl ?_
  refine e_ci 0 rfl rfl ?_
  iterate 2 refine e_sp rfl rfl rfl ?_
  refine e_ci 0 rfl rfl ?_
  iterate 2 refine e_sp rfl rfl rfl ?_
  refine e_ci 0 rfl rfl ?_
  iterate 1 refine e_sp rfl rfl rfl ?_
  refine e_st (S2 := de0 S) rfl ?_
  iterate 1 refine e_sp rfl rfl rfl ?_
  refine e_callV1 ok_M_readPlanes rfl lk_M_248 (by rfl) (by rfl) (k_M_readPlanes (m := m) (by rw [de0_k (by decide) (by decide)]; exact hc) (by rw [de0_k (by decide) (by decide)]; exact hr) hc2 hr2 (by rw [de0_k (by decide) (by decide)]; exact hm) hm2 ha0 hcm h350) rfl rfl ⟨Nat.le_of_ble_eq_true rfl, Nat.le_of_ble_eq_true rfl⟩ ⟨Nat.zero_le _, Nat.zero_le _⟩ (Nat.le_of_ble_eq_true rfl) ?_
  iterate 1 refine e_sp rfl rfl rfl ?_
  try dsimp only
  exact k_M_decodeT hX hcm _ _
