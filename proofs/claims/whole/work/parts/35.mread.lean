/-! the reference: reading -/
def atM (S : St) : Nat := (S.1 21 32).toNatClampNeg
def roV (S : St) : Int32 := if S.1 21 32 < 8 * S.1 21 23 then S.1 27 (atM S / 8) >>> ((7 - nI (atM S % 8)) &&& 31) &&& 1 else 0
def roS (S : St) : St := if S.1 21 32 < 8 * S.1 21 23 then puI S 21 32 (S.1 21 32 + 1) else puI S 21 35 1
/-- the bytes that came, and the place where the reading stands -/
def atOK (c : Nat) (S : St) : Prop := S.1 21 23 = nI c ∧ ∃ a, a ≤ 8 * c ∧ S.1 21 32 = nI a
theorem atOK.lt {c : Nat} {S : St} (h : atOK c S) (hc : c ≤ 3000) (h9 : S.1 21 32 < 8 * S.1 21 23) : atM S < 8 * c ∧ S.1 21 32 = nI (atM S) := by
  obtain ⟨h1, a, h2, h3⟩ := h
  have e : atM S = a := by rw [atM, h3, nI_clamp (by omega)]
  rw [e]
  refine ⟨?_, h3⟩
  rw [h3, h1, show (8 : Int32) = nI 8 from rfl, pk_mul] at h9
  rcases Nat.lt_or_ge a (8 * c) with g | g
  · exact g
  · exact absurd h9 (nI_nlt g (by omega))
theorem roS_at {c : Nat} {S : St} (h : atOK c S) (hc : c ≤ 3000) : atOK c (roS S) := by
  unfold roS
  by_cases h9 : S.1 21 32 < 8 * S.1 21 23
  · rw [if_pos h9]
    obtain ⟨e1, e2⟩ := h.lt hc h9
    refine ⟨?_, atM S + 1, by omega, ?_⟩
    · rw [← h.1]; simp [puI, pt, upd]
    · rw [← nI_1, ← e2]; simp [puI, pt, upd]
  · rw [if_neg h9]
    obtain ⟨h1, a, h2, h3⟩ := h
    refine ⟨?_, a, h2, ?_⟩
    · rw [← h1]; simp [puI, pt, upd]
    · rw [← h3]; simp [puI, pt, upd]
def rsS (S : St) : Nat → St
  | 0 => S
  | i + 1 => roS (rsS S i)
def rsV (S : St) : Nat → Int32
  | 0 => 0
  | i + 1 => 2 * rsV S i + roV (rsS S i)
theorem rsS_at {c : Nat} {S : St} (h : atOK c S) (hc : c ≤ 3000) : ∀ i, atOK c (rsS S i)
  | 0 => h
  | i + 1 => roS_at (rsS_at h hc i) hc
def moN : Nat → St → St
  | 0, S => S
  | f + 1, S => if roV S = 1 then moN f (roS S) else roS S
def moC : Nat → St → Nat
  | 0, _ => 0
  | f + 1, S => if roV S = 1 then moC f (roS S) + 1 else 0
theorem moC_le : ∀ f S, moC f S ≤ f
  | 0, _ => Nat.le_refl _
  | f + 1, S => by
    simp only [moC]
    split
    · have := moC_le f (roS S); omega
    · omega
theorem moN_at {c : Nat} (hc : c ≤ 3000) : ∀ f S, atOK c S → atOK c (moN f S)
  | 0, _, h => h
  | f + 1, S, h => by
    simp only [moN]
    split
    · exact moN_at hc f _ (roS_at h hc)
    · exact roS_at h hc
/-- behind the bits of a run -/
def mdA (T : St) (v : Int32) : St := puI (puI T 21 33 v) 21 34 1
def mdB (T : St) : St := puI T 21 31 (T.1 21 31 + (if T.1 21 35 = 0 then 1 else 0))
def mdC (T : St) : St := puI T 21 37 (if T.1 21 35 = 0 then (if T.1 21 33 ≤ T.1 21 36 then 0 else 1) else 0)
def mdF (T : St) (v : Int32) : St := krM (mdC (mdB (mdA T v))) ((mdC (mdB (mdA T v))).1 21 33)
def mdE (T : St) (on kk : Nat) : St := if nI on = 12 then mdF (rsS T 13) (rsV T 13) else mdF (rsS T kk) (nI on <<< (nI kk &&& 31) + rsV T kk)
def mdS (S : St) : St := mdE (moN 12 S) (moC 12 S) (lkM S)
theorem mdF_k {T : St} {v : Int32} {k : Nat} (h : k ≠ 29) (h1 : k ≠ 30) (h2 : k ≠ 31) (h3 : k ≠ 33) (h4 : k ≠ 34) (h5 : k ≠ 37) : (mdF T v).1 21 k = T.1 21 k := by
  rw [mdF, krM_k h h1]
  simp [mdA, mdB, mdC, puI, pt, upd, h2, h3, h4, h5]
theorem mdF_at {c : Nat} {T : St} {v : Int32} (h : atOK c T) : atOK c (mdF T v) := by
  obtain ⟨h1, a, h2, h3⟩ := h
  exact ⟨by rw [mdF_k (by decide) (by decide) (by decide) (by decide) (by decide) (by decide)]; exact h1, a, h2, by rw [mdF_k (by decide) (by decide) (by decide) (by decide) (by decide) (by decide)]; exact h3⟩
theorem mdE_at {c : Nat} {T : St} {on kk : Nat} (hc : c ≤ 3000) (h : atOK c T) : atOK c (mdE T on kk) := by
  unfold mdE
  split
  · exact mdF_at (rsS_at h hc _)
  · exact mdF_at (rsS_at h hc _)
theorem mdS_at {c : Nat} {T : St} (hc : c ≤ 3000) (h : atOK c T) : atOK c (mdS T) := mdE_at hc (moN_at hc _ _ h)
def mtT (S : St) : St := if S.1 21 34 = 0 then mdS S else S
def mtV (T : St) (f : Int32) : Int32 := if T.1 21 33 ≤ 0 then (if f = 0 then 1 else 0) else if T.1 21 37 = 0 then f else (if f = 0 then 1 else 0)
def mtS (T : St) : St := if T.1 21 33 ≤ 0 then puI T 21 34 0 else if T.1 21 37 = 0 then puI T 21 33 (T.1 21 33 - 1) else puI T 21 34 0
def mbV (S : St) (f : Int32) : Int32 := mtV (mtT S) f
def mbS (S : St) : St := mtS (mtT S)
theorem mbS_at {c : Nat} {T : St} (hc : c ≤ 3000) (h : atOK c T) : atOK c (mbS T) := by
  have h1 : atOK c (mtT T) := by
    unfold mtT
    split
    · exact mdS_at hc h
    · exact h
  obtain ⟨h2, a, h3, h4⟩ := h1
  unfold mbS
  generalize mtT T = U at h2 h4 ⊢
  unfold mtS
  split
  · exact ⟨by rw [← h2]; simp [puI, pt, upd], a, h3, by rw [← h4]; simp [puI, pt, upd]⟩
  · split
    · exact ⟨by rw [← h2]; simp [puI, pt, upd], a, h3, by rw [← h4]; simp [puI, pt, upd]⟩
    · exact ⟨by rw [← h2]; simp [puI, pt, upd], a, h3, by rw [← h4]; simp [puI, pt, upd]⟩
theorem mbV_01 {S : St} {f : Int32} (h : f = 0 ∨ f = 1) : mbV S f = 0 ∨ mbV S f = 1 := by
  unfold mbV mtV
  rcases h with rfl | rfl
  · split
    · exact Or.inr rfl
    · split
      · exact Or.inl rfl
      · exact Or.inr rfl
  · split
    · exact Or.inl rfl
    · split
      · exact Or.inr rfl
      · exact Or.inl rfl
set_option maxHeartbeats 4000000 in
set_option maxRecDepth 40000 in
theorem k_M_readOne {l : Launch} {h c : Nat} {S : St} (ha : atOK c S) (hc : c ≤ 3000) : KK l (SHm h) (0, 0) m_M_readOne [aR 21] S (ans (some (aI (roV S))) (roS S)) := by
  refine k_start ok_M_readOne (Nat.le_of_ble_eq_true rfl) ?_
  iterate 2 refine e_sp rfl rfl rfl ?_
  refine e_cb 8 rfl rfl ?_
  iterate 3 refine e_sp rfl rfl rfl ?_
  refine e_iclt rfl (fun h1 => ?_) (fun h1 => ?_)
  · obtain ⟨hlt, hat⟩ := ha.lt hc h1
    iterate 4 refine e_sp rfl rfl rfl ?_
    refine e_cb 8 rfl rfl ?_
    refine e_div rfl (by decide) ?_
    try dsimp only
    rw [show S.1 21 32 / 8 = nI (atM S / 8) by rw [show (8 : Int32) = nI 8 from rfl, ← dvd9 8 (by omega) (by decide) (by decide), ← hat]]
    refine e_iald rfl (by first | rfl | assumption) (by exact vp_in_nI (show atM S / 8 < 3000 by omega) (by decide)) ?_
    rw [nI_clamp (by omega)]
    refine e_cb 7 rfl rfl ?_
    iterate 2 refine e_sp rfl rfl rfl ?_
    refine e_cb 8 rfl rfl ?_
    refine e_rem rfl (by decide) ?_
    try dsimp only
    rw [show S.1 21 32 - S.1 21 32 / 8 * 8 = nI (atM S % 8) by rw [show (8 : Int32) = nI 8 from rfl, ← rmd 8 (by omega) (by decide) (by decide), ← hat]]
    iterate 2 refine e_sp rfl rfl rfl ?_
    refine e_ci 1 rfl rfl ?_
    iterate 5 refine e_sp rfl rfl rfl ?_
    refine e_ci 1 rfl rfl ?_
    iterate 3 refine e_sp rfl rfl rfl ?_
    refine e_iret rfl rfl (Nat.le_refl _) (Nat.le_refl _) ?_
    exact ⟨by rw [roV]; (first | rw [if_pos h1] | rw [if_neg h1] | skip), by rw [roS]; (first | rw [if_pos h1] | rw [if_neg h1] | skip)⟩
  · iterate 1 refine e_sp rfl rfl rfl ?_
    refine e_ci 1 rfl rfl ?_
    iterate 1 refine e_sp rfl rfl rfl ?_
    refine e_ci 0 rfl rfl ?_
    refine e_iret rfl rfl (Nat.le_refl _) (Nat.le_refl _) ?_
    exact ⟨by rw [roV]; (first | rw [if_pos h1] | rw [if_neg h1] | skip), by rw [roS]; (first | rw [if_pos h1] | rw [if_neg h1] | skip)⟩
set_option maxHeartbeats 4000000 in
set_option maxRecDepth 40000 in
theorem k_M_readSome {l : Launch} {h c n : Nat} {S : St} (ha : atOK c S) (hc : c ≤ 3000) (hn : n < 2 ^ 31) : KK l (SHm h) (1, 21) m_M_readSome [aR 21, aI (nI n)] S (ans (some (aI (rsV S n))) (rsS S n)) := by
  refine k_start ok_M_readSome (Nat.le_of_ble_eq_true rfl) ?_
  have L1 := e_for (P := fun i => E0 l (SHm h) (1, 21) m_M_readSome 4 [some (aR 21), some (aI (nI n)), some (aI (rsV S i)), some (aI (nI i))] [] (rsS S i) (ans (some (aI (rsV S n))) (rsS S n))) (n) (by
      iterate 2 refine e_sp rfl rfl rfl ?_
      refine e_icge rfl (fun h1 => ?_) (fun h1 => ?_)
      · iterate 1 refine e_sp rfl rfl rfl ?_
        refine e_iret rfl rfl (Nat.le_refl _) (Nat.le_refl _) ?_
        exact ⟨rfl, rfl⟩
      · try dsimp only
        exact absurd (nI_le (Nat.le_refl _) hn) h1) (fun i hi ihi => by
      iterate 2 refine e_sp rfl rfl rfl ?_
      refine e_icge rfl (fun h1 => ?_) (fun h1 => ?_)
      · try dsimp only
        exact absurd h1 (nI_ge hi hn)
      · refine e_ci 2 rfl rfl ?_
        iterate 3 refine e_sp rfl rfl rfl ?_
        refine e_callV1 ok_M_readOne rfl lk_M_219 (by rfl) (by rfl) (k_M_readOne (rsS_at ha hc i) hc) rfl rfl ⟨Nat.le_of_ble_eq_true rfl, Nat.le_of_ble_eq_true rfl⟩ ⟨Nat.zero_le _, Nat.zero_le _⟩ (Nat.le_of_ble_eq_true rfl) ?_
        iterate 2 refine e_sp rfl rfl rfl ?_
        refine e_inc 1 rfl rfl rfl rfl ?_
        refine e_goto rfl ?_
        try dsimp only
        rw [nI_1]
        exact ihi)
  refine e_ci 0 rfl rfl ?_
  iterate 1 refine e_sp rfl rfl rfl ?_
  refine e_ci 0 rfl rfl ?_
  iterate 1 refine e_sp rfl rfl rfl ?_
  try dsimp only
  exact L1
set_option maxHeartbeats 4000000 in
set_option maxRecDepth 40000 in
theorem k_M_readRunD {l : Launch} {h : Nat} {T : St} {a b : Option AV} : E0 l (SHm h) (2, 44) m_M_readRun 108 [some (aR 21), a, b] [] T (ans none (krM T (T.1 21 33))) := by
  iterate 3 refine e_sp rfl rfl rfl ?_
  refine e_callV0 ok_M_keepRun rfl lk_M_186 (by rfl) (by rfl) k_M_keepRun rfl rfl ⟨Nat.le_of_ble_eq_true rfl, Nat.le_of_ble_eq_true rfl⟩ ⟨Nat.zero_le _, Nat.zero_le _⟩ (Nat.le_of_ble_eq_true rfl) ?_
  refine e_vret rfl rfl (Nat.le_refl _) (Nat.le_refl _) ?_
  exact ⟨rfl, rfl⟩
set_option maxHeartbeats 4000000 in
set_option maxRecDepth 40000 in
theorem k_M_readRunC {l : Launch} {h : Nat} {T : St} {a b : Option AV} : E0 l (SHm h) (2, 44) m_M_readRun 81 [some (aR 21), a, b] [] T (ans none (krM (mdC T) ((mdC T).1 21 33))) := by
  iterate 3 refine e_sp rfl rfl rfl ?_
  refine e_ifne rfl (fun h1 => ?_) (fun h1 => ?_)
  · refine e_ci 0 rfl rfl ?_
    try dsimp only
    refine e_sp rfl rfl rfl ?_
    refine e_st (S2 := mdC T) (by rw [mdC]; (first | rw [if_pos h1] | rw [if_neg h1] | skip); try rfl) ?_
    exact k_M_readRunD
  · iterate 4 refine e_sp rfl rfl rfl ?_
    refine e_icle rfl (fun h2 => ?_) (fun h2 => ?_)
    · refine e_ci 0 rfl rfl ?_
      try dsimp only
      refine e_sp rfl rfl rfl ?_
      refine e_st (S2 := mdC T) (by rw [mdC]; (first | rw [if_pos h1] | rw [if_neg h1] | skip); (first | rw [if_pos h2] | rw [if_neg h2] | skip); try rfl) ?_
      exact k_M_readRunD
    · refine e_ci 1 rfl rfl ?_
      refine e_goto rfl ?_
      try dsimp only
      refine e_sp rfl rfl rfl ?_
      refine e_st (S2 := mdC T) (by rw [mdC]; (first | rw [if_pos h1] | rw [if_neg h1] | skip); (first | rw [if_pos h2] | rw [if_neg h2] | skip); try rfl) ?_
      exact k_M_readRunD
set_option maxHeartbeats 4000000 in
set_option maxRecDepth 40000 in
theorem k_M_readRunB {l : Launch} {h : Nat} {T2 : St} {v : Int32} {a b : Option AV} : E0 l (SHm h) (2, 44) m_M_readRun 52 [some (aR 21), a, b] [aI v, aR 21] T2 (ans none (mdF T2 v)) := by
  iterate 2 refine e_sp rfl rfl rfl ?_
  refine e_ci 1 rfl rfl ?_
  iterate 6 refine e_sp rfl rfl rfl ?_
  refine e_ifeq rfl (fun h1 => ?_) (fun h1 => ?_)
  · refine e_ci 1 rfl rfl ?_
    try dsimp only
    refine e_sp rfl rfl rfl ?_
    refine e_sp rfl rfl rfl ?_
    refine e_st (S2 := mdB (mdA T2 v)) (by rw [mdB, mdA]; (first | rw [if_pos h1] | rw [if_neg h1])) ?_
    exact k_M_readRunC
  · refine e_ci 0 rfl rfl ?_
    refine e_goto rfl ?_
    try dsimp only
    refine e_sp rfl rfl rfl ?_
    refine e_sp rfl rfl rfl ?_
    refine e_st (S2 := mdB (mdA T2 v)) (by rw [mdB, mdA]; (first | rw [if_pos h1] | rw [if_neg h1])) ?_
    exact k_M_readRunC
set_option maxHeartbeats 4000000 in
set_option maxRecDepth 40000 in
theorem k_M_readRunT {l : Launch} {h : Nat} {T : St} {c on kk : Nat} (hT : atOK c T) (hc : c ≤ 3000) (hkk : kk ≤ 8) : E0 l (SHm h) (2, 44) m_M_readRun 27 [some (aR 21), some (aI (nI kk)), some (aI (nI on))] [] T (ans none (mdE T on kk)) := by
  iterate 2 refine e_sp rfl rfl rfl ?_
  refine e_cb 12 rfl rfl ?_
  refine e_icne rfl (fun h1 => ?_) (fun h1 => ?_)
  · rw [show mdE T on kk = mdF (rsS T kk) (nI on <<< (nI kk &&& 31) + rsV T kk) from if_neg h1]
    iterate 5 refine e_sp rfl rfl rfl ?_
    refine e_callV1 ok_M_readSome rfl lk_M_222 (by rfl) (by rfl) (k_M_readSome (n := kk) hT hc (by omega)) rfl rfl ⟨Nat.le_of_ble_eq_true rfl, Nat.le_of_ble_eq_true rfl⟩ ⟨Nat.zero_le _, Nat.zero_le _⟩ (Nat.le_of_ble_eq_true rfl) ?_
    generalize rsS T kk = T2
    generalize rsV T kk = rv
    iterate 1 refine e_sp rfl rfl rfl ?_
    try dsimp only
    exact k_M_readRunB
  · rw [show mdE T on kk = mdF (rsS T 13) (rsV T 13) from if_pos h1]
    iterate 1 refine e_sp rfl rfl rfl ?_
    refine e_cb 13 rfl rfl ?_
    refine e_callV1 ok_M_readSome rfl lk_M_222 (by rfl) (by rfl) (k_M_readSome (n := 13) hT hc (by decide)) rfl rfl ⟨Nat.le_of_ble_eq_true rfl, Nat.le_of_ble_eq_true rfl⟩ ⟨Nat.zero_le _, Nat.zero_le _⟩ (Nat.le_of_ble_eq_true rfl) ?_
    generalize rsS T 13 = T2
    generalize rsV T 13 = rv
    refine e_goto rfl ?_
    try dsimp only
    exact k_M_readRunB
set_option maxHeartbeats 4000000 in
set_option maxRecDepth 40000 in
theorem k_M_readRun {l : Launch} {h c : Nat} {S : St} (ha : atOK c S) (hc : c ≤ 3000) : KK l (SHm h) (2, 44) m_M_readRun [aR 21] S (ans none (mdS S)) := by
  refine k_start ok_M_readRun (Nat.le_of_ble_eq_true rfl) ?_
  have hS : mdS S = mdE (moN 12 S) (moC 12 S) (lkM S) := rfl
  rw [hS]
  have hk8 : lkM S ≤ 8 := lkM_le S
  have h12 := moN_at hc 12 S ha
  have L : ∀ (T0 : St) (on0 kk f i : Nat) (T : St), atOK c T0 → kk ≤ 8 → i + f = 12 → atOK c T → moN f T = T0 → i + moC f T = on0 → E0 l (SHm h) (2, 44) m_M_readRun 7 [some (aR 21), some (aI (nI kk)), some (aI (nI i))] [] T (ans none (mdE T0 on0 kk)) := by
    intro T0 on0 kk f
    induction f with
    | zero =>
      intro i T hT0 hkk hi hT e1 e2
      have hi12 : i = 12 := by omega
      iterate 1 refine e_sp rfl rfl rfl ?_
      refine e_cb 12 rfl rfl ?_
      refine e_icge rfl (fun h1 => ?_) (fun h1 => absurd (by rw [hi12]; decide) h1)
      have e3 : T = T0 := e1
      have e4 : i = on0 := e2
      rw [e3, e4]
      exact k_M_readRunT hT0 hc hkk
    | succ f ih =>
      intro i T hT0 hkk hi hT e1 e2
      iterate 1 refine e_sp rfl rfl rfl ?_
      refine e_cb 12 rfl rfl ?_
      refine e_icge rfl (fun h1 => absurd h1 (nI_ge (show i < 12 by omega) (by decide))) (fun h1 => ?_)
      iterate 1 refine e_sp rfl rfl rfl ?_
      refine e_callV1 ok_M_readOne rfl lk_M_219 (by rfl) (by rfl) (k_M_readOne hT hc) rfl rfl ⟨Nat.le_of_ble_eq_true rfl, Nat.le_of_ble_eq_true rfl⟩ ⟨Nat.zero_le _, Nat.zero_le _⟩ (Nat.le_of_ble_eq_true rfl) ?_
      refine e_ci 1 rfl rfl ?_
      refine e_icne rfl (fun h2 => ?_) (fun h2 => ?_)
      · simp only [moN, moC, h2, if_false, Nat.add_zero] at e1 e2
        rw [e1, e2]
        exact k_M_readRunT hT0 hc hkk
      · simp only [moN, moC, h2, if_true] at e1 e2
        refine e_inc 1 rfl rfl rfl rfl ?_
        refine e_goto rfl ?_
        rw [nI_1]
        exact ih (i + 1) (roS T) hT0 hkk (by omega) (roS_at hT hc) e1 (by omega)
  iterate 1 refine e_sp rfl rfl rfl ?_
  refine e_callV1 ok_M_small rfl lk_M_180 (by rfl) (by rfl) k_M_small rfl rfl ⟨Nat.le_of_ble_eq_true rfl, Nat.le_of_ble_eq_true rfl⟩ ⟨Nat.zero_le _, Nat.zero_le _⟩ (Nat.le_of_ble_eq_true rfl) ?_
  iterate 1 refine e_sp rfl rfl rfl ?_
  refine e_ci 0 rfl rfl ?_
  iterate 1 refine e_sp rfl rfl rfl ?_
  exact L (moN 12 S) (moC 12 S) (lkM S) 12 0 S h12 hk8 rfl ha rfl (Nat.zero_add _)
set_option maxHeartbeats 4000000 in
set_option maxRecDepth 40000 in
theorem k_M_readBitT {l : Launch} {h : Nat} {T : St} {f : Int32} (hf : f = 0 ∨ f = 1) : E0 l (SHm h) (3, 66) m_M_readBit 11 [some (aR 21), some (aI f)] [] T (ans (some (aI (mtV T f))) (mtS T)) := by
  iterate 2 refine e_sp rfl rfl rfl ?_
  refine e_ifle rfl (fun h1 => ?_) (fun h1 => ?_)
  · iterate 1 refine e_sp rfl rfl rfl ?_
    refine e_ci 0 rfl rfl ?_
    iterate 2 refine e_sp rfl rfl rfl ?_
    refine e_ifne rfl (fun h2 => ?_) (fun h2 => ?_)
    · refine e_ci 0 rfl rfl ?_
      refine e_zret rfl rfl (Nat.le_refl _) (Nat.le_refl _) (by first | decide | exact hf) ?_
      exact ⟨by rw [mtV]; (first | rw [if_pos h1] | rw [if_neg h1] | skip); (first | rw [if_pos h2] | rw [if_neg h2] | skip), by rw [mtS]; (first | rw [if_pos h1] | rw [if_neg h1] | skip); (first | rw [if_pos h2] | rw [if_neg h2] | skip)⟩
    · refine e_ci 1 rfl rfl ?_
      refine e_goto rfl ?_
      refine e_zret rfl rfl (Nat.le_refl _) (Nat.le_refl _) (by first | decide | exact hf) ?_
      exact ⟨by rw [mtV]; (first | rw [if_pos h1] | rw [if_neg h1] | skip); (first | rw [if_pos h2] | rw [if_neg h2] | skip), by rw [mtS]; (first | rw [if_pos h1] | rw [if_neg h1] | skip); (first | rw [if_pos h2] | rw [if_neg h2] | skip)⟩
  · iterate 2 refine e_sp rfl rfl rfl ?_
    refine e_ifne rfl (fun h3 => ?_) (fun h3 => ?_)
    · iterate 1 refine e_sp rfl rfl rfl ?_
      refine e_ci 0 rfl rfl ?_
      iterate 2 refine e_sp rfl rfl rfl ?_
      refine e_ifne rfl (fun h4 => ?_) (fun h4 => ?_)
      · refine e_ci 0 rfl rfl ?_
        refine e_zret rfl rfl (Nat.le_refl _) (Nat.le_refl _) (by first | decide | exact hf) ?_
        exact ⟨by rw [mtV]; (first | rw [if_pos h1] | rw [if_neg h1] | skip); (first | rw [if_pos h3] | rw [if_neg h3] | skip); (first | rw [if_pos h4] | rw [if_neg h4] | skip), by rw [mtS]; (first | rw [if_pos h1] | rw [if_neg h1] | skip); (first | rw [if_pos h3] | rw [if_neg h3] | skip); (first | rw [if_pos h4] | rw [if_neg h4] | skip)⟩
      · refine e_ci 1 rfl rfl ?_
        refine e_goto rfl ?_
        refine e_zret rfl rfl (Nat.le_refl _) (Nat.le_refl _) (by first | decide | exact hf) ?_
        exact ⟨by rw [mtV]; (first | rw [if_pos h1] | rw [if_neg h1] | skip); (first | rw [if_pos h3] | rw [if_neg h3] | skip); (first | rw [if_pos h4] | rw [if_neg h4] | skip), by rw [mtS]; (first | rw [if_pos h1] | rw [if_neg h1] | skip); (first | rw [if_pos h3] | rw [if_neg h3] | skip); (first | rw [if_pos h4] | rw [if_neg h4] | skip)⟩
    · iterate 3 refine e_sp rfl rfl rfl ?_
      refine e_ci 1 rfl rfl ?_
      iterate 3 refine e_sp rfl rfl rfl ?_
      refine e_zret rfl rfl (Nat.le_refl _) (Nat.le_refl _) (by first | decide | exact hf) ?_
      exact ⟨by rw [mtV]; (first | rw [if_pos h1] | rw [if_neg h1] | skip); (first | rw [if_pos h3] | rw [if_neg h3] | skip), by rw [mtS]; (first | rw [if_pos h1] | rw [if_neg h1] | skip); (first | rw [if_pos h3] | rw [if_neg h3] | skip)⟩
set_option maxHeartbeats 4000000 in
set_option maxRecDepth 40000 in
theorem k_M_readBit {l : Launch} {h c : Nat} {S : St} {f : Int32} (ha : atOK c S) (hc : c ≤ 3000) (hf : f = 0 ∨ f = 1) : KK l (SHm h) (3, 66) m_M_readBit [aR 21, aI f] S (ans (some (aI (mbV S f))) (mbS S)) := by
  refine k_start ok_M_readBit (Nat.le_of_ble_eq_true rfl) ?_
  iterate 2 refine e_sp rfl rfl rfl ?_
  refine e_ifne rfl (fun h1 => ?_) (fun h1 => ?_)
  · try dsimp only
    have e9 : mtT S = if S.1 21 34 = 0 then mdS S else S := rfl
    (first | rw [if_pos h1] at e9 | rw [if_neg h1] at e9)
    rw [mbV, mbS, e9]
    exact k_M_readBitT hf
  · iterate 1 refine e_sp rfl rfl rfl ?_
    refine e_callV0 ok_M_readRun rfl lk_M_237 (by rfl) (by rfl) (k_M_readRun ha hc) rfl rfl ⟨Nat.le_of_ble_eq_true rfl, Nat.le_of_ble_eq_true rfl⟩ ⟨Nat.zero_le _, Nat.zero_le _⟩ (Nat.le_of_ble_eq_true rfl) ?_
    try dsimp only
    have e9 : mtT S = if S.1 21 34 = 0 then mdS S else S := rfl
    (first | rw [if_pos h1] at e9 | rw [if_neg h1] at e9)
    rw [mbV, mbS, e9]
    exact k_M_readBitT hf
