/-! the reference: planes, contexts, runs -/
def nx1 (i : Nat) (T : St) : St := puI (puI T 31 i (vp_nar .boolean (T.1 30 i))) 30 i (vp_nar .boolean 0)
def nxM (S : St) : St := npM (nF nx1 256 S)
theorem nx1_o {S : St} {o : Nat} (h : o ≠ 30) (h2 : o ≠ 31) (i : Nat) : (nF nx1 i S).1 o = S.1 o ∧ (nF nx1 i S).2 = S.2 :=
  nF_inv (f := nx1) (fun T => T.1 o = S.1 o ∧ T.2 = S.2) (fun i T hT => ⟨by unfold nx1; rw [puI_o h, puI_o h2]; exact hT.1, hT.2⟩) i S ⟨rfl, rfl⟩
theorem npM_o {S : St} {o : Nat} (h : o ≠ 28) (h2 : o ≠ 29) : (npM S).1 o = S.1 o ∧ (npM S).2 = S.2 := ⟨by unfold npM; rw [flI_o h2, flI_o h], rfl⟩
theorem nxM_o {S : St} {o : Nat} (h : o ≠ 28) (h2 : o ≠ 29) (h3 : o ≠ 30) (h4 : o ≠ 31) : (nxM S).1 o = S.1 o ∧ (nxM S).2 = S.2 :=
  ⟨(npM_o h h2).1.trans (nx1_o h3 h4 _).1, (npM_o h h2).2.trans (nx1_o h3 h4 _).2⟩
def tdM (S : St) (i j : Int32) : Int32 := if hpM S i j = 0 then 0 else if S.1 30 (16 * j + i).toNatClampNeg = 0 then 0 else 1
def ctM (S : St) (i j : Int32) : Int32 := 32 * tdM S (i - 1) j + 16 * tdM S (i - 2) j + 8 * tdM S (i - 1) (j - 1) + 4 * tdM S i (j - 1) + 2 * tdM S (i + 1) (j - 1) + (if S.1 31 (16 * j + i).toNatClampNeg = 0 then 0 else 1)
theorem tdM_01 (S : St) (i j : Int32) : tdM S i j = 0 ∨ tdM S i j = 1 := by
  unfold tdM
  split
  · exact Or.inl rfl
  · split
    · exact Or.inl rfl
    · exact Or.inr rfl
theorem if_01 (p : Prop) [Decidable p] : (if p then (0 : Int32) else 1) = 0 ∨ (if p then (0 : Int32) else 1) = 1 := by
  by_cases h : p
  · rw [if_pos h]; exact Or.inl rfl
  · rw [if_neg h]; exact Or.inr rfl
theorem six_nat {a b c e f g : Int32} (ha : a = 0 ∨ a = 1) (hb : b = 0 ∨ b = 1) (hc : c = 0 ∨ c = 1) (he : e = 0 ∨ e = 1) (hf : f = 0 ∨ f = 1) (hg : g = 0 ∨ g = 1) : ∃ n, n < 64 ∧ 32 * a + 16 * b + 8 * c + 4 * e + 2 * f + g = nI n := by
  rcases ha with rfl | rfl <;> rcases hb with rfl | rfl <;> rcases hc with rfl | rfl <;> rcases he with rfl | rfl <;> rcases hf with rfl | rfl <;> rcases hg with rfl | rfl <;> exact ⟨_, by decide, rfl⟩
theorem ctM_nat (S : St) (i j : Int32) : ∃ n, n < 64 ∧ ctM S i j = nI n := six_nat (tdM_01 _ _ _) (tdM_01 _ _ _) (tdM_01 _ _ _) (tdM_01 _ _ _) (tdM_01 _ _ _) (if_01 _)
theorem ctM_in (S : St) (i j : Int32) : vp_in (ctM S i j) 64 := by
  obtain ⟨n, h, e⟩ := ctM_nat S i j
  rw [e]
  exact vp_in_nI h (by decide)
def nsM (s b : Int32) : Int32 := if b = 0 then (if 0 ≤ s then s - 2 else s - 1) else (if 0 ≤ s then s + 1 else s + 2)
def ncM (t : Int32) : Int32 := if t ≤ 7 then (if -8 ≤ t then t else -8) else 7
def leM (S : St) (c b : Int32) : St := puI (puI S 29 c.toNatClampNeg (S.1 29 c.toNatClampNeg + 1)) 28 c.toNatClampNeg (ncM (nsM (S.1 28 c.toNatClampNeg) b))
def brM (S : St) : St := npM (flI (flI (puI (puI (puI S 21 29 4) 21 30 1) 21 31 0) 30 (vp_nar .boolean 0) 256) 31 (vp_nar .boolean 0) 256)
def krM (S : St) (r : Int32) : St := if S.1 21 30 + 1 = 32 then puI (puI (puI (puI S 21 29 (S.1 21 29 + r)) 21 30 (S.1 21 30 + 1)) 21 29 ((S.1 21 29 + r) / 2)) 21 30 16 else puI (puI S 21 29 (S.1 21 29 + r)) 21 30 (S.1 21 30 + 1)
def mw1 (S : St) (v b : Int32) : St := puI (puI S 26 (S.1 21 20).toNatClampNeg (vp_nar .boolean (if v >>> (b &&& 31) &&& 1 = 1 then 1 else 0))) 21 20 (S.1 21 20 + 1)
def mwS (v : Int32) : Nat → St → St
  | 0, S => S
  | n + 1, S => mwS v n (mw1 S v (nI n))
def moS : Nat → St → St
  | 0, S => S
  | n + 1, S => mwS 1 1 (moS n S)
def mfi (S : St) (r : Nat) : St := krM (puI S 21 31 (S.1 21 31 + 1)) (nI r)
def lkM (S : St) : Nat := lowK (S.1 21 30) (S.1 21 29) 8 0
def mrS (S : St) (r : Nat) : St := if 12 ≤ nI (r / 2 ^ lkM S) then mfi (mwS (nI r) 13 (mwS 4095 12 S)) r else mfi (mwS (nI r) (lkM S) (mwS 0 1 (moS (r / 2 ^ lkM S) S))) r
def bitsOK (n : Nat) (T : St) : Prop := ∃ q, q ≤ n ∧ T.1 21 20 = nI q
theorem bitsOK.mono {n m : Nat} {T : St} (h : bitsOK n T) (hm : n ≤ m) : bitsOK m T := by
  obtain ⟨r, h1, h2⟩ := h
  exact ⟨r, Nat.le_trans h1 hm, h2⟩
theorem mw1_bits {n : Nat} {T : St} {v b : Int32} (h : bitsOK n T) : bitsOK (n + 1) (mw1 T v b) := by
  obtain ⟨r, h1, h2⟩ := h
  refine ⟨r + 1, by omega, ?_⟩
  rw [← nI_1, ← h2]
  simp [mw1, puI, pt, upd]
theorem mwS_bits {v : Int32} : ∀ (k n : Nat) (T : St), bitsOK n T → bitsOK (n + k) (mwS v k T)
  | 0, _, _, h => h
  | k + 1, n, T, h => (mwS_bits k (n + 1) _ (mw1_bits (v := v) (b := nI k) h)).mono (by omega)
theorem moS_bits : ∀ (k n : Nat) (T : St), bitsOK n T → bitsOK (n + k) (moS k T)
  | 0, _, _, h => h
  | k + 1, n, T, h => mwS_bits 1 (n + k) _ (moS_bits k n T h)
theorem krM_k {S : St} {r : Int32} {k : Nat} (h : k ≠ 29) (h2 : k ≠ 30) : (krM S r).1 21 k = S.1 21 k := by
  unfold krM
  split <;> simp [puI, pt, upd, h, h2]
theorem mfi_bits {n r : Nat} {T : St} (h : bitsOK n T) : bitsOK n (mfi T r) := by
  obtain ⟨q, h1, h2⟩ := h
  refine ⟨q, h1, ?_⟩
  rw [mfi, krM_k (by decide) (by decide), ← h2]
  simp [puI, pt, upd]
theorem lkM_le (S : St) : lkM S ≤ 8 := lowK_le _ _ 8 0
theorem mrS_bits {n r : Nat} {T : St} (h : bitsOK n T) (hr : r < 2 ^ 31) : bitsOK (n + 25) (mrS T r) := by
  have hk := lkM_le T
  unfold mrS
  by_cases h9 : (12 : Int32) ≤ nI (r / 2 ^ lkM T)
  · rw [if_pos h9]
    exact (mfi_bits (mwS_bits 13 _ _ (mwS_bits 12 _ _ h))).mono (by omega)
  · rw [if_neg h9]
    have hq : r / 2 ^ lkM T < 12 := by
      rcases Nat.lt_or_ge (r / 2 ^ lkM T) 12 with q | q
      · exact q
      · exact absurd (nI_le q (Nat.lt_of_le_of_lt (Nat.div_le_self _ _) hr)) h9
    exact (mfi_bits (mwS_bits _ _ _ (mwS_bits 1 _ _ (moS_bits _ _ _ h)))).mono (by omega)
theorem mw1_o {S : St} {v b : Int32} {o : Nat} (h : o ≠ 21) (h2 : o ≠ 26) : (mw1 S v b).1 o = S.1 o ∧ (mw1 S v b).2 = S.2 := ⟨by unfold mw1; rw [puI_o h, puI_o h2], rfl⟩
theorem mw1_k {S : St} {v b : Int32} {k : Nat} (h : k ≠ 20) : (mw1 S v b).1 21 k = S.1 21 k := by simp [mw1, puI, pt, upd, h]
theorem mwS_o {v : Int32} {o : Nat} (h : o ≠ 21) (h2 : o ≠ 26) : ∀ (n : Nat) (S : St), (mwS v n S).1 o = S.1 o ∧ (mwS v n S).2 = S.2
  | 0, _ => ⟨rfl, rfl⟩
  | n + 1, S => ⟨(mwS_o h h2 n _).1.trans (mw1_o h h2).1, (mwS_o h h2 n _).2.trans (mw1_o h h2).2⟩
theorem mwS_k {v : Int32} {k : Nat} (h : k ≠ 20) : ∀ (n : Nat) (S : St), (mwS v n S).1 21 k = S.1 21 k
  | 0, _ => rfl
  | n + 1, S => (mwS_k h n _).trans (mw1_k h)
theorem moS_o {o : Nat} (h : o ≠ 21) (h2 : o ≠ 26) : ∀ (n : Nat) (S : St), (moS n S).1 o = S.1 o ∧ (moS n S).2 = S.2
  | 0, _ => ⟨rfl, rfl⟩
  | n + 1, S => ⟨(mwS_o h h2 1 _).1.trans (moS_o h h2 n S).1, (mwS_o h h2 1 _).2.trans (moS_o h h2 n S).2⟩
theorem moS_k {k : Nat} (h : k ≠ 20) : ∀ (n : Nat) (S : St), (moS n S).1 21 k = S.1 21 k
  | 0, _ => rfl
  | n + 1, S => (mwS_k h 1 _).trans (moS_k h n S)
theorem krM_o {S : St} {r : Int32} {o : Nat} (h : o ≠ 21) : (krM S r).1 o = S.1 o ∧ (krM S r).2 = S.2 := by
  unfold krM
  split
  · exact ⟨by rw [puI_o h, puI_o h, puI_o h, puI_o h], rfl⟩
  · exact ⟨by rw [puI_o h, puI_o h], rfl⟩
theorem mfi_o {S : St} {r o : Nat} (h : o ≠ 21) : (mfi S r).1 o = S.1 o ∧ (mfi S r).2 = S.2 := ⟨by unfold mfi; rw [(krM_o h).1, puI_o h], (krM_o h).2⟩
theorem mfi_k {S : St} {r k : Nat} (h : k ≠ 29) (h2 : k ≠ 30) (h3 : k ≠ 31) : (mfi S r).1 21 k = S.1 21 k := by
  rw [mfi, krM_k h h2]
  simp [puI, pt, upd, h3]
theorem mrS_o {S : St} {r o : Nat} (h : o ≠ 21) (h2 : o ≠ 26) : (mrS S r).1 o = S.1 o ∧ (mrS S r).2 = S.2 := by
  unfold mrS
  split
  · exact ⟨by rw [(mfi_o h).1, (mwS_o h h2 _ _).1, (mwS_o h h2 _ _).1], by rw [(mfi_o h).2, (mwS_o h h2 _ _).2, (mwS_o h h2 _ _).2]⟩
  · exact ⟨by rw [(mfi_o h).1, (mwS_o h h2 _ _).1, (mwS_o h h2 _ _).1, (moS_o h h2 _ _).1], by rw [(mfi_o h).2, (mwS_o h h2 _ _).2, (mwS_o h h2 _ _).2, (moS_o h h2 _ _).2]⟩
theorem mrS_k {S : St} {r k : Nat} (h0 : k ≠ 20) (h : k ≠ 29) (h2 : k ≠ 30) (h3 : k ≠ 31) : (mrS S r).1 21 k = S.1 21 k := by
  unfold mrS
  split
  · rw [mfi_k h h2 h3, mwS_k h0, mwS_k h0]
  · rw [mfi_k h h2 h3, mwS_k h0, mwS_k h0, moS_k h0]
theorem leM_o {S : St} {c b : Int32} {o : Nat} (h : o ≠ 28) (h2 : o ≠ 29) : (leM S c b).1 o = S.1 o ∧ (leM S c b).2 = S.2 := ⟨by unfold leM; rw [puI_o h, puI_o h2], rfl⟩
set_option maxHeartbeats 4000000 in
set_option maxRecDepth 40000 in
theorem k_M_nextPlane {l : Launch} {h : Nat} {S : St} : KK l (SHm h) (1, 21) m_M_nextPlane [aR 21] S (ans none (nxM S)) := by
  refine k_start ok_M_nextPlane (Nat.le_of_ble_eq_true rfl) ?_
  have L1 := e_for (P := fun i => E0 l (SHm h) (1, 21) m_M_nextPlane 2 [some (aR 21), some (aI (nI i))] [] (nF nx1 i S) (ans none (nxM S))) (256) (by
      iterate 1 refine e_sp rfl rfl rfl ?_
      refine e_cs 256 rfl rfl ?_
      refine e_icge rfl (fun h1 => ?_) (fun h1 => ?_)
      · iterate 1 refine e_sp rfl rfl rfl ?_
        refine e_callV0 ok_M_newPlane rfl lk_M_98 (by rfl) (by rfl) k_M_newPlane rfl rfl ⟨Nat.le_of_ble_eq_true rfl, Nat.le_of_ble_eq_true rfl⟩ ⟨Nat.zero_le _, Nat.zero_le _⟩ (Nat.le_of_ble_eq_true rfl) ?_
        refine e_vret rfl rfl (Nat.le_refl _) (Nat.le_refl _) ?_
        exact ⟨rfl, rfl⟩
      · try dsimp only
        exact absurd (nI_le (Nat.le_refl _) (by decide)) h1) (fun i hi ihi => by
      iterate 1 refine e_sp rfl rfl rfl ?_
      refine e_cs 256 rfl rfl ?_
      refine e_icge rfl (fun h1 => ?_) (fun h1 => ?_)
      · try dsimp only
        exact absurd h1 (nI_ge hi (by decide))
      · iterate 6 refine e_sp rfl rfl rfl ?_
        refine e_zald rfl (by first | rfl | assumption) (by exact vp_in_nI hi (by decide)) ?_
        rw [nI_clamp (by omega)]
        refine e_zast rfl (by first | rfl | assumption) (by exact vp_in_nI hi (by decide)) ?_
        rw [nI_clamp (by omega)]
        iterate 3 refine e_sp rfl rfl rfl ?_
        refine e_ci 0 rfl rfl ?_
        refine e_zast rfl (by first | rfl | assumption) (by exact vp_in_nI hi (by decide)) ?_
        rw [nI_clamp (by omega)]
        refine e_inc 1 rfl rfl rfl rfl ?_
        refine e_goto rfl ?_
        try dsimp only
        rw [nI_1]
        exact ihi)
  refine e_ci 0 rfl rfl ?_
  iterate 1 refine e_sp rfl rfl rfl ?_
  try dsimp only
  exact L1
set_option maxHeartbeats 4000000 in
set_option maxRecDepth 40000 in
theorem k_M_toldAt {l : Launch} {h : Nat} {S : St} {i j : Int32} {c r : Nat} (hc : S.1 21 9 = nI c) (hr : S.1 21 10 = nI r) (hc2 : c ≤ 16) (hr2 : r ≤ 16) : KK l (SHm h) (2, 44) m_M_toldAt [aR 21, aI i, aI j] S (ans (some (aI (tdM S i j))) S) := by
  refine k_start ok_M_toldAt (Nat.le_of_ble_eq_true rfl) ?_
  iterate 3 refine e_sp rfl rfl rfl ?_
  refine e_callV1 ok_M_hasPlace rfl lk_M_141 (by rfl) (by rfl) k_M_hasPlace rfl rfl ⟨Nat.le_of_ble_eq_true rfl, Nat.le_of_ble_eq_true rfl⟩ ⟨Nat.zero_le _, Nat.zero_le _⟩ (Nat.le_of_ble_eq_true rfl) ?_
  refine e_ifeq rfl (fun h1 => ?_) (fun h1 => ?_)
  · refine e_ci 0 rfl rfl ?_
    refine e_iret rfl rfl (Nat.le_refl _) (Nat.le_refl _) ?_
    exact ⟨by unfold tdM; (first | rw [if_pos h1] | rw [if_neg h1] | skip), rfl⟩
  · iterate 2 refine e_sp rfl rfl rfl ?_
    refine e_cb 16 rfl rfl ?_
    iterate 4 refine e_sp rfl rfl rfl ?_
    refine e_zald rfl (by first | rfl | assumption) (by exact hpM_in hc hr hc2 hr2 (by assumption)) ?_
    refine e_ifeq rfl (fun h2 => ?_) (fun h2 => ?_)
    · refine e_ci 0 rfl rfl ?_
      refine e_iret rfl rfl (Nat.le_refl _) (Nat.le_refl _) ?_
      exact ⟨by unfold tdM; (first | rw [if_pos h1] | rw [if_neg h1] | skip); (first | rw [if_pos h2] | rw [if_neg h2] | skip), rfl⟩
    · refine e_ci 1 rfl rfl ?_
      refine e_goto rfl ?_
      refine e_iret rfl rfl (Nat.le_refl _) (Nat.le_refl _) ?_
      exact ⟨by unfold tdM; (first | rw [if_pos h1] | rw [if_neg h1] | skip); (first | rw [if_pos h2] | rw [if_neg h2] | skip), rfl⟩
set_option maxHeartbeats 4000000 in
set_option maxRecDepth 40000 in
theorem k_M_contextOf {l : Launch} {h : Nat} {S : St} {a b : Nat} {c r : Nat} (hc : S.1 21 9 = nI c) (hr : S.1 21 10 = nI r) (hc2 : c ≤ 16) (hr2 : r ≤ 16) (ha : a < 16) (hb : b < 16) : KK l (SHm h) (3, 66) m_M_contextOf [aR 21, aI (nI a), aI (nI b)] S (ans (some (aI (ctM S (nI a) (nI b)))) S) := by
  refine k_start ok_M_contextOf (Nat.le_of_ble_eq_true rfl) ?_
  refine e_cb 32 rfl rfl ?_
  iterate 2 refine e_sp rfl rfl rfl ?_
  refine e_ci 1 rfl rfl ?_
  iterate 2 refine e_sp rfl rfl rfl ?_
  refine e_callV1 ok_M_toldAt rfl lk_M_168 (by rfl) (by rfl) (k_M_toldAt hc hr hc2 hr2) rfl rfl ⟨Nat.le_of_ble_eq_true rfl, Nat.le_of_ble_eq_true rfl⟩ ⟨Nat.zero_le _, Nat.zero_le _⟩ (Nat.le_of_ble_eq_true rfl) ?_
  iterate 1 refine e_sp rfl rfl rfl ?_
  refine e_cb 16 rfl rfl ?_
  iterate 2 refine e_sp rfl rfl rfl ?_
  refine e_ci 2 rfl rfl ?_
  iterate 2 refine e_sp rfl rfl rfl ?_
  refine e_callV1 ok_M_toldAt rfl lk_M_168 (by rfl) (by rfl) (k_M_toldAt hc hr hc2 hr2) rfl rfl ⟨Nat.le_of_ble_eq_true rfl, Nat.le_of_ble_eq_true rfl⟩ ⟨Nat.zero_le _, Nat.zero_le _⟩ (Nat.le_of_ble_eq_true rfl) ?_
  iterate 2 refine e_sp rfl rfl rfl ?_
  refine e_cb 8 rfl rfl ?_
  iterate 2 refine e_sp rfl rfl rfl ?_
  refine e_ci 1 rfl rfl ?_
  iterate 2 refine e_sp rfl rfl rfl ?_
  refine e_ci 1 rfl rfl ?_
  iterate 1 refine e_sp rfl rfl rfl ?_
  refine e_callV1 ok_M_toldAt rfl lk_M_168 (by rfl) (by rfl) (k_M_toldAt hc hr hc2 hr2) rfl rfl ⟨Nat.le_of_ble_eq_true rfl, Nat.le_of_ble_eq_true rfl⟩ ⟨Nat.zero_le _, Nat.zero_le _⟩ (Nat.le_of_ble_eq_true rfl) ?_
  iterate 2 refine e_sp rfl rfl rfl ?_
  refine e_ci 4 rfl rfl ?_
  iterate 3 refine e_sp rfl rfl rfl ?_
  refine e_ci 1 rfl rfl ?_
  iterate 1 refine e_sp rfl rfl rfl ?_
  refine e_callV1 ok_M_toldAt rfl lk_M_168 (by rfl) (by rfl) (k_M_toldAt hc hr hc2 hr2) rfl rfl ⟨Nat.le_of_ble_eq_true rfl, Nat.le_of_ble_eq_true rfl⟩ ⟨Nat.zero_le _, Nat.zero_le _⟩ (Nat.le_of_ble_eq_true rfl) ?_
  iterate 2 refine e_sp rfl rfl rfl ?_
  refine e_ci 2 rfl rfl ?_
  iterate 2 refine e_sp rfl rfl rfl ?_
  refine e_ci 1 rfl rfl ?_
  iterate 2 refine e_sp rfl rfl rfl ?_
  refine e_ci 1 rfl rfl ?_
  iterate 1 refine e_sp rfl rfl rfl ?_
  refine e_callV1 ok_M_toldAt rfl lk_M_168 (by rfl) (by rfl) (k_M_toldAt hc hr hc2 hr2) rfl rfl ⟨Nat.le_of_ble_eq_true rfl, Nat.le_of_ble_eq_true rfl⟩ ⟨Nat.zero_le _, Nat.zero_le _⟩ (Nat.le_of_ble_eq_true rfl) ?_
  iterate 6 refine e_sp rfl rfl rfl ?_
  refine e_cb 16 rfl rfl ?_
  iterate 4 refine e_sp rfl rfl rfl ?_
  refine e_zald rfl (by first | rfl | assumption) (by (dsimp only; rw [ix16]; exact vp_in_nI (show 16 * b + a < 256 by omega) (by decide))) ?_
  refine e_ifeq rfl (fun h1 => ?_) (fun h1 => ?_)
  · refine e_ci 0 rfl rfl ?_
    iterate 1 refine e_sp rfl rfl rfl ?_
    refine e_iret rfl rfl (Nat.le_refl _) (Nat.le_refl _) ?_
    exact ⟨by unfold ctM; (first | rw [if_pos h1] | rw [if_neg h1] | skip); try rfl, rfl⟩
  · refine e_ci 1 rfl rfl ?_
    refine e_goto rfl ?_
    iterate 1 refine e_sp rfl rfl rfl ?_
    refine e_iret rfl rfl (Nat.le_refl _) (Nat.le_refl _) ?_
    exact ⟨by unfold ctM; (first | rw [if_pos h1] | rw [if_neg h1] | skip); try rfl, rfl⟩
set_option maxHeartbeats 4000000 in
set_option maxRecDepth 40000 in
theorem k_M_learn {l : Launch} {h : Nat} {S : St} {c b : Int32} (hc : vp_in c 64) : KK l (SHm h) (0, 0) m_M_learn [aR 21, aI c, aI b] S (ans none (leM S c b)) := by
  refine k_start ok_M_learn (Nat.le_of_ble_eq_true rfl) ?_
  iterate 4 refine e_sp rfl rfl rfl ?_
  refine e_iald rfl (by first | rfl | assumption) (by exact hc) ?_
  refine e_ci 1 rfl rfl ?_
  iterate 1 refine e_sp rfl rfl rfl ?_
  refine e_iast rfl (by first | rfl | assumption) (by exact hc) ?_
  iterate 3 refine e_sp rfl rfl rfl ?_
  refine e_iald rfl (by first | rfl | assumption) (by exact hc) ?_
  rw [puI_o (show (28 : Nat) ≠ 29 by decide)]
  iterate 2 refine e_sp rfl rfl rfl ?_
  refine e_ifeq rfl (fun h1 => ?_) (fun h1 => ?_)
  · iterate 1 refine e_sp rfl rfl rfl ?_
    refine e_ifge rfl (fun h2 => ?_) (fun h2 => ?_)
    · iterate 1 refine e_sp rfl rfl rfl ?_
      refine e_ci 2 rfl rfl ?_
      iterate 6 refine e_sp rfl rfl rfl ?_
      refine e_cb 7 rfl rfl ?_
      refine e_icle rfl (fun h3 => ?_) (fun h3 => ?_)
      · iterate 1 refine e_sp rfl rfl rfl ?_
        refine e_cb (-8) rfl rfl ?_
        refine e_icge rfl (fun h4 => ?_) (fun h4 => ?_)
        · iterate 1 refine e_sp rfl rfl rfl ?_
          refine e_iast rfl (by first | rfl | assumption) (by exact hc) ?_
          refine e_vret rfl rfl (Nat.le_refl _) (Nat.le_refl _) ?_
          refine ⟨rfl, ?_⟩
          unfold leM nsM ncM
          (first | rw [if_pos h1] | rw [if_neg h1])
          (first | rw [if_pos h2] | rw [if_neg h2])
          (first | rw [if_pos h3] | rw [if_neg h3])
          (first | rw [if_pos h4] | rw [if_neg h4])
          try rfl
        · refine e_cb (-8) rfl rfl ?_
          refine e_goto rfl ?_
          refine e_iast rfl (by first | rfl | assumption) (by exact hc) ?_
          refine e_vret rfl rfl (Nat.le_refl _) (Nat.le_refl _) ?_
          refine ⟨rfl, ?_⟩
          unfold leM nsM ncM
          (first | rw [if_pos h1] | rw [if_neg h1])
          (first | rw [if_pos h2] | rw [if_neg h2])
          (first | rw [if_pos h3] | rw [if_neg h3])
          (first | rw [if_pos h4] | rw [if_neg h4])
          try rfl
      · refine e_cb 7 rfl rfl ?_
        refine e_goto rfl ?_
        refine e_iast rfl (by first | rfl | assumption) (by exact hc) ?_
        refine e_vret rfl rfl (Nat.le_refl _) (Nat.le_refl _) ?_
        refine ⟨rfl, ?_⟩
        unfold leM nsM ncM
        (first | rw [if_pos h1] | rw [if_neg h1])
        (first | rw [if_pos h2] | rw [if_neg h2])
        (first | rw [if_pos h3] | rw [if_neg h3])
        try rfl
    · iterate 1 refine e_sp rfl rfl rfl ?_
      refine e_ci 1 rfl rfl ?_
      iterate 1 refine e_sp rfl rfl rfl ?_
      refine e_goto rfl ?_
      iterate 5 refine e_sp rfl rfl rfl ?_
      refine e_cb 7 rfl rfl ?_
      refine e_icle rfl (fun h5 => ?_) (fun h5 => ?_)
      · iterate 1 refine e_sp rfl rfl rfl ?_
        refine e_cb (-8) rfl rfl ?_
        refine e_icge rfl (fun h6 => ?_) (fun h6 => ?_)
        · iterate 1 refine e_sp rfl rfl rfl ?_
          refine e_iast rfl (by first | rfl | assumption) (by exact hc) ?_
          refine e_vret rfl rfl (Nat.le_refl _) (Nat.le_refl _) ?_
          refine ⟨rfl, ?_⟩
          unfold leM nsM ncM
          (first | rw [if_pos h1] | rw [if_neg h1])
          (first | rw [if_pos h2] | rw [if_neg h2])
          (first | rw [if_pos h5] | rw [if_neg h5])
          (first | rw [if_pos h6] | rw [if_neg h6])
          try rfl
        · refine e_cb (-8) rfl rfl ?_
          refine e_goto rfl ?_
          refine e_iast rfl (by first | rfl | assumption) (by exact hc) ?_
          refine e_vret rfl rfl (Nat.le_refl _) (Nat.le_refl _) ?_
          refine ⟨rfl, ?_⟩
          unfold leM nsM ncM
          (first | rw [if_pos h1] | rw [if_neg h1])
          (first | rw [if_pos h2] | rw [if_neg h2])
          (first | rw [if_pos h5] | rw [if_neg h5])
          (first | rw [if_pos h6] | rw [if_neg h6])
          try rfl
      · refine e_cb 7 rfl rfl ?_
        refine e_goto rfl ?_
        refine e_iast rfl (by first | rfl | assumption) (by exact hc) ?_
        refine e_vret rfl rfl (Nat.le_refl _) (Nat.le_refl _) ?_
        refine ⟨rfl, ?_⟩
        unfold leM nsM ncM
        (first | rw [if_pos h1] | rw [if_neg h1])
        (first | rw [if_pos h2] | rw [if_neg h2])
        (first | rw [if_pos h5] | rw [if_neg h5])
        try rfl
  · iterate 1 refine e_sp rfl rfl rfl ?_
    refine e_ifge rfl (fun h7 => ?_) (fun h7 => ?_)
    · iterate 1 refine e_sp rfl rfl rfl ?_
      refine e_ci 1 rfl rfl ?_
      iterate 1 refine e_sp rfl rfl rfl ?_
      refine e_goto rfl ?_
      iterate 5 refine e_sp rfl rfl rfl ?_
      refine e_cb 7 rfl rfl ?_
      refine e_icle rfl (fun h8 => ?_) (fun h8 => ?_)
      · iterate 1 refine e_sp rfl rfl rfl ?_
        refine e_cb (-8) rfl rfl ?_
        refine e_icge rfl (fun h9 => ?_) (fun h9 => ?_)
        · iterate 1 refine e_sp rfl rfl rfl ?_
          refine e_iast rfl (by first | rfl | assumption) (by exact hc) ?_
          refine e_vret rfl rfl (Nat.le_refl _) (Nat.le_refl _) ?_
          refine ⟨rfl, ?_⟩
          unfold leM nsM ncM
          (first | rw [if_pos h1] | rw [if_neg h1])
          (first | rw [if_pos h7] | rw [if_neg h7])
          (first | rw [if_pos h8] | rw [if_neg h8])
          (first | rw [if_pos h9] | rw [if_neg h9])
          try rfl
        · refine e_cb (-8) rfl rfl ?_
          refine e_goto rfl ?_
          refine e_iast rfl (by first | rfl | assumption) (by exact hc) ?_
          refine e_vret rfl rfl (Nat.le_refl _) (Nat.le_refl _) ?_
          refine ⟨rfl, ?_⟩
          unfold leM nsM ncM
          (first | rw [if_pos h1] | rw [if_neg h1])
          (first | rw [if_pos h7] | rw [if_neg h7])
          (first | rw [if_pos h8] | rw [if_neg h8])
          (first | rw [if_pos h9] | rw [if_neg h9])
          try rfl
      · refine e_cb 7 rfl rfl ?_
        refine e_goto rfl ?_
        refine e_iast rfl (by first | rfl | assumption) (by exact hc) ?_
        refine e_vret rfl rfl (Nat.le_refl _) (Nat.le_refl _) ?_
        refine ⟨rfl, ?_⟩
        unfold leM nsM ncM
        (first | rw [if_pos h1] | rw [if_neg h1])
        (first | rw [if_pos h7] | rw [if_neg h7])
        (first | rw [if_pos h8] | rw [if_neg h8])
        try rfl
    · iterate 1 refine e_sp rfl rfl rfl ?_
      refine e_ci 2 rfl rfl ?_
      iterate 1 refine e_sp rfl rfl rfl ?_
      refine e_goto rfl ?_
      iterate 5 refine e_sp rfl rfl rfl ?_
      refine e_cb 7 rfl rfl ?_
      refine e_icle rfl (fun h10 => ?_) (fun h10 => ?_)
      · iterate 1 refine e_sp rfl rfl rfl ?_
        refine e_cb (-8) rfl rfl ?_
        refine e_icge rfl (fun h11 => ?_) (fun h11 => ?_)
        · iterate 1 refine e_sp rfl rfl rfl ?_
          refine e_iast rfl (by first | rfl | assumption) (by exact hc) ?_
          refine e_vret rfl rfl (Nat.le_refl _) (Nat.le_refl _) ?_
          refine ⟨rfl, ?_⟩
          unfold leM nsM ncM
          (first | rw [if_pos h1] | rw [if_neg h1])
          (first | rw [if_pos h7] | rw [if_neg h7])
          (first | rw [if_pos h10] | rw [if_neg h10])
          (first | rw [if_pos h11] | rw [if_neg h11])
          try rfl
        · refine e_cb (-8) rfl rfl ?_
          refine e_goto rfl ?_
          refine e_iast rfl (by first | rfl | assumption) (by exact hc) ?_
          refine e_vret rfl rfl (Nat.le_refl _) (Nat.le_refl _) ?_
          refine ⟨rfl, ?_⟩
          unfold leM nsM ncM
          (first | rw [if_pos h1] | rw [if_neg h1])
          (first | rw [if_pos h7] | rw [if_neg h7])
          (first | rw [if_pos h10] | rw [if_neg h10])
          (first | rw [if_pos h11] | rw [if_neg h11])
          try rfl
      · refine e_cb 7 rfl rfl ?_
        refine e_goto rfl ?_
        refine e_iast rfl (by first | rfl | assumption) (by exact hc) ?_
        refine e_vret rfl rfl (Nat.le_refl _) (Nat.le_refl _) ?_
        refine ⟨rfl, ?_⟩
        unfold leM nsM ncM
        (first | rw [if_pos h1] | rw [if_neg h1])
        (first | rw [if_pos h7] | rw [if_neg h7])
        (first | rw [if_pos h10] | rw [if_neg h10])
        try rfl
set_option maxHeartbeats 4000000 in
set_option maxRecDepth 40000 in
theorem k_M_beginRuns {l : Launch} {h : Nat} {S : St} : KK l (SHm h) (1, 21) m_M_beginRuns [aR 21] S (ans none (brM S)) := by
  refine k_start ok_M_beginRuns (Nat.le_of_ble_eq_true rfl) ?_
  have L1 := e_for (P := fun i => E0 l (SHm h) (1, 21) m_M_beginRuns 17 [some (aR 21), some (aI (nI i))] [] (flI (flI (puI (puI (puI S 21 29 4) 21 30 1) 21 31 0) 30 (vp_nar .boolean 0) i) 31 (vp_nar .boolean 0) i) (ans none (brM S))) (256) (by
      iterate 1 refine e_sp rfl rfl rfl ?_
      refine e_cs 256 rfl rfl ?_
      refine e_icge rfl (fun h1 => ?_) (fun h1 => ?_)
      · iterate 1 refine e_sp rfl rfl rfl ?_
        refine e_callV0 ok_M_newPlane rfl lk_M_98 (by rfl) (by rfl) k_M_newPlane rfl rfl ⟨Nat.le_of_ble_eq_true rfl, Nat.le_of_ble_eq_true rfl⟩ ⟨Nat.zero_le _, Nat.zero_le _⟩ (Nat.le_of_ble_eq_true rfl) ?_
        refine e_vret rfl rfl (Nat.le_refl _) (Nat.le_refl _) ?_
        exact ⟨rfl, rfl⟩
      · try dsimp only
        exact absurd (nI_le (Nat.le_refl _) (by decide)) h1) (fun i hi ihi => by
      iterate 1 refine e_sp rfl rfl rfl ?_
      refine e_cs 256 rfl rfl ?_
      refine e_icge rfl (fun h1 => ?_) (fun h1 => ?_)
      · try dsimp only
        exact absurd h1 (nI_ge hi (by decide))
      · iterate 3 refine e_sp rfl rfl rfl ?_
        refine e_ci 0 rfl rfl ?_
        refine e_zast rfl (by first | rfl | assumption) (by exact vp_in_nI hi (by decide)) ?_
        iterate 3 refine e_sp rfl rfl rfl ?_
        refine e_ci 0 rfl rfl ?_
        refine e_zast rfl (by first | rfl | assumption) (by exact vp_in_nI hi (by decide)) ?_
        refine e_inc 1 rfl rfl rfl rfl ?_
        refine e_goto rfl ?_
        try dsimp only
        rw [nI_clamp (by omega), fl2_s (by decide), nI_1]
        exact ihi)
  iterate 1 refine e_sp rfl rfl rfl ?_
  refine e_ci 4 rfl rfl ?_
  iterate 2 refine e_sp rfl rfl rfl ?_
  refine e_ci 1 rfl rfl ?_
  iterate 2 refine e_sp rfl rfl rfl ?_
  refine e_ci 0 rfl rfl ?_
  iterate 1 refine e_sp rfl rfl rfl ?_
  refine e_ci 0 rfl rfl ?_
  iterate 1 refine e_sp rfl rfl rfl ?_
  try dsimp only
  rw [flI_0, flI_0] at L1
  exact L1
set_option maxHeartbeats 4000000 in
set_option maxRecDepth 40000 in
theorem k_M_small {l : Launch} {h : Nat} {S : St} : KK l (SHm h) (0, 0) m_M_small [aR 21] S (ans (some (aI (nI (lkM S)))) S) := by
  refine k_start ok_M_small (Nat.le_of_ble_eq_true rfl) ?_
  have L : ∀ (f i : Nat), i + f = 8 → E0 l (SHm h) (0, 0) m_M_small 2 [some (aR 21), some (aI (nI i))] [] S (ans (some (aI (nI (lowK (S.1 21 30) (S.1 21 29) f i)))) S) := by
    intro f
    induction f with
    | zero =>
      intro i hi
      have hi8 : i = 8 := by omega
      subst hi8
      iterate 1 refine e_sp rfl rfl rfl ?_
      refine e_cb 8 rfl rfl ?_
      refine e_icge rfl (fun h1 => ?_) (fun h1 => absurd (by decide) h1)
      iterate 1 refine e_sp rfl rfl rfl ?_
      refine e_iret rfl rfl (Nat.le_refl _) (Nat.le_refl _) ?_
      exact ⟨rfl, rfl⟩
    | succ f ih =>
      intro i hi
      iterate 1 refine e_sp rfl rfl rfl ?_
      refine e_cb 8 rfl rfl ?_
      refine e_icge rfl (fun h1 => absurd h1 (nI_ge (show i < 8 by omega) (by decide))) (fun h1 => ?_)
      iterate 6 refine e_sp rfl rfl rfl ?_
      refine e_icge rfl (fun h2 => ?_) (fun h2 => ?_)
      · iterate 1 refine e_sp rfl rfl rfl ?_
        refine e_iret rfl rfl (Nat.le_refl _) (Nat.le_refl _) ?_
        exact ⟨by simp [lowK, h2], rfl⟩
      · refine e_inc 1 rfl rfl rfl rfl ?_
        refine e_goto rfl ?_
        rw [nI_1]
        have e9 := ih (i + 1) (by omega)
        rw [show lowK (S.1 21 30) (S.1 21 29) f (i + 1) = lowK (S.1 21 30) (S.1 21 29) (f + 1) i by simp [lowK, h2]] at e9
        exact e9
  refine e_ci 0 rfl rfl ?_
  iterate 1 refine e_sp rfl rfl rfl ?_
  exact L 8 0 rfl
set_option maxHeartbeats 4000000 in
set_option maxRecDepth 40000 in
theorem k_M_keepRun {l : Launch} {h : Nat} {S : St} {r : Int32}  : KK l (SHm h) (0, 0) m_M_keepRun [aR 21, aI r] S (ans none (krM S r)) := by
  refine k_start ok_M_keepRun (Nat.le_of_ble_eq_true rfl) ?_
  iterate 9 refine e_sp rfl rfl rfl ?_
  refine e_ci 1 rfl rfl ?_
  iterate 4 refine e_sp rfl rfl rfl ?_
  refine e_cb 32 rfl rfl ?_
  refine e_icne rfl (fun h1 => ?_) (fun h1 => ?_)
  · refine e_vret rfl rfl (Nat.le_refl _) (Nat.le_refl _) ?_
    exact ⟨rfl, by simp [krM, puI, pt, upd] at h1 ⊢; simp [h1]⟩
  · iterate 3 refine e_sp rfl rfl rfl ?_
    refine e_ci 2 rfl rfl ?_
    refine e_div rfl (by decide) ?_
    iterate 2 refine e_sp rfl rfl rfl ?_
    refine e_cb 16 rfl rfl ?_
    iterate 1 refine e_sp rfl rfl rfl ?_
    refine e_vret rfl rfl (Nat.le_refl _) (Nat.le_refl _) ?_
    exact ⟨rfl, by simp [krM, puI, pt, upd] at h1 ⊢; simp [h1]⟩
set_option maxHeartbeats 4000000 in
set_option maxRecDepth 40000 in
theorem k_M_write {l : Launch} {h : Nat} {S : St} {v : Int32} {n a : Nat} (hn : n ≤ 31) (hb : bitsOK a S) (ha : a + n ≤ 60000) : KK l (SHm h) (0, 0) m_M_write [aR 21, aI v, aI (nI n)] S (ans none (mwS v n S)) := by
  refine k_start ok_M_write (Nat.le_of_ble_eq_true rfl) ?_
  have L : ∀ (w : Int32) (n : Nat), n ≤ 31 → ∀ (a : Nat) (S : St), bitsOK a S → a + n ≤ 60000 → E0 l (SHm h) (0, 0) m_M_write 4 [some (aR 21), some (aI v), some (aI w), some (aI (nI n - 1))] [] S (ans none (mwS v n S)) := by
    intro w n
    induction n with
    | zero =>
      intro _ a S hb ha
      iterate 1 refine e_sp rfl rfl rfl ?_
      refine e_iflt rfl (fun h1 => ?_) (fun h1 => ?_)
      · refine e_vret rfl rfl (Nat.le_refl _) (Nat.le_refl _) ?_
        exact ⟨rfl, rfl⟩
      · try dsimp only
        exact absurd (by decide) h1
    | succ n ih =>
      intro hn a S hb ha
      iterate 1 refine e_sp rfl rfl rfl ?_
      refine e_iflt rfl (fun h1 => ?_) (fun h1 => ?_)
      · try dsimp only
        exact absurd h1 (by rw [nI_pred]; exact nI_pos (by omega))
      · iterate 6 refine e_sp rfl rfl rfl ?_
        rw [nI_pred]
        iterate 1 refine e_sp rfl rfl rfl ?_
        refine e_ci 1 rfl rfl ?_
        iterate 1 refine e_sp rfl rfl rfl ?_
        refine e_ci 1 rfl rfl ?_
        refine e_icne rfl (fun h2 => ?_) (fun h2 => ?_)
        · refine e_ci 0 rfl rfl ?_
          refine e_zast rfl (by first | rfl | assumption) (by (obtain ⟨q, hq, e⟩ := hb; rw [e]; exact vp_in_nI (show q < 60000 by omega) (by decide))) ?_
          iterate 3 refine e_sp rfl rfl rfl ?_
          refine e_ci 1 rfl rfl ?_
          iterate 2 refine e_sp rfl rfl rfl ?_
          simp only [nI_pred]
          refine e_inc (-1) rfl rfl rfl rfl ?_
          refine e_goto rfl ?_
          try dsimp only
          rw [show nI n + (-1) = nI n - 1 from (Int32.sub_eq_add_neg _ _).symm]
          refine e_st (S2 := mw1 S v (nI n)) ?_ (ih (by omega) (a + 1) (mw1 S v (nI n)) (mw1_bits hb) (by omega))
          unfold mw1
          (first | rw [if_pos h2] | rw [if_neg h2])
          try rfl
        · refine e_ci 1 rfl rfl ?_
          refine e_goto rfl ?_
          refine e_zast rfl (by first | rfl | assumption) (by (obtain ⟨q, hq, e⟩ := hb; rw [e]; exact vp_in_nI (show q < 60000 by omega) (by decide))) ?_
          iterate 3 refine e_sp rfl rfl rfl ?_
          refine e_ci 1 rfl rfl ?_
          iterate 2 refine e_sp rfl rfl rfl ?_
          simp only [nI_pred]
          refine e_inc (-1) rfl rfl rfl rfl ?_
          refine e_goto rfl ?_
          try dsimp only
          rw [show nI n + (-1) = nI n - 1 from (Int32.sub_eq_add_neg _ _).symm]
          refine e_st (S2 := mw1 S v (nI n)) ?_ (ih (by omega) (a + 1) (mw1 S v (nI n)) (mw1_bits hb) (by omega))
          unfold mw1
          (first | rw [if_pos h2] | rw [if_neg h2])
          try rfl
  iterate 1 refine e_sp rfl rfl rfl ?_
  refine e_ci 1 rfl rfl ?_
  iterate 2 refine e_sp rfl rfl rfl ?_
  exact L _ n hn a S hb ha
set_option maxHeartbeats 4000000 in
set_option maxRecDepth 40000 in
theorem k_M_writeRun {l : Launch} {h : Nat} {S : St} {r a : Nat} (hr2 : r < 2 ^ 31) (hb : bitsOK a S) (ha : a + 25 ≤ 60000) : KK l (SHm h) (1, 23) m_M_writeRun [aR 21, aI (nI r)] S (ans none (mrS S r)) := by
  refine k_start ok_M_writeRun (Nat.le_of_ble_eq_true rfl) ?_
  have hk8 := lkM_le S
  have L0 : ¬ (12 : Int32) ≤ nI (r / 2 ^ lkM S) → E0 l (SHm h) (1, 23) m_M_writeRun 15 [some (aR 21), some (aI (nI r)), some (aI (nI (lkM S))), some (aI 0)] [] S (ans none (mrS S r)) := by
    intro hq9
    have hq : (r / 2 ^ lkM S) < 12 := by
      rcases Nat.lt_or_ge (r / 2 ^ lkM S) 12 with q | q
      · exact q
      · exact absurd (nI_le q (Nat.lt_of_le_of_lt (Nat.div_le_self _ _) hr2)) hq9
    have L1 := e_for (P := fun i => E0 l (SHm h) (1, 23) m_M_writeRun 15 [some (aR 21), some (aI (nI r)), some (aI (nI (lkM S))), some (aI (nI i))] [] (moS i S) (ans none (mrS S r))) ((r / 2 ^ lkM S)) (by
        iterate 4 refine e_sp rfl rfl rfl ?_
        refine e_icge rfl (fun h1 => ?_) (fun h1 => ?_)
        · iterate 1 refine e_sp rfl rfl rfl ?_
          refine e_ci 0 rfl rfl ?_
          refine e_ci 1 rfl rfl ?_
          refine e_callV0 ok_M_write rfl lk_M_183 (by rfl) (by rfl) (k_M_write (n := 1) (a := a + (r / 2 ^ lkM S)) (by decide) (moS_bits _ a S hb) (by omega)) rfl rfl ⟨Nat.le_of_ble_eq_true rfl, Nat.le_of_ble_eq_true rfl⟩ ⟨Nat.zero_le _, Nat.zero_le _⟩ (Nat.le_of_ble_eq_true rfl) ?_
          iterate 3 refine e_sp rfl rfl rfl ?_
          refine e_callV0 ok_M_write rfl lk_M_183 (by rfl) (by rfl) (k_M_write (n := lkM S) (a := a + (r / 2 ^ lkM S) + 1) (by omega) (mwS_bits 1 _ _ (moS_bits _ a S hb)) (by omega)) rfl rfl ⟨Nat.le_of_ble_eq_true rfl, Nat.le_of_ble_eq_true rfl⟩ ⟨Nat.zero_le _, Nat.zero_le _⟩ (Nat.le_of_ble_eq_true rfl) ?_
          refine e_goto rfl ?_
          iterate 3 refine e_sp rfl rfl rfl ?_
          refine e_ci 1 rfl rfl ?_
          iterate 4 refine e_sp rfl rfl rfl ?_
          refine e_callV0 ok_M_keepRun rfl lk_M_186 (by rfl) (by rfl) k_M_keepRun rfl rfl ⟨Nat.le_of_ble_eq_true rfl, Nat.le_of_ble_eq_true rfl⟩ ⟨Nat.zero_le _, Nat.zero_le _⟩ (Nat.le_of_ble_eq_true rfl) ?_
          refine e_vret rfl rfl (Nat.le_refl _) (Nat.le_refl _) ?_
          exact ⟨rfl, by rw [mrS, if_neg hq9]; rfl⟩
        · try dsimp only
          dsimp only at h1
          rw [shr_k hr2 _ (lkM_le S)] at h1
          exact absurd (nI_le (Nat.le_refl _) (by omega)) h1) (fun i hi ihi => by
        iterate 4 refine e_sp rfl rfl rfl ?_
        refine e_icge rfl (fun h1 => ?_) (fun h1 => ?_)
        · try dsimp only
          dsimp only at h1
          rw [shr_k hr2 _ (lkM_le S)] at h1
          exact absurd h1 (nI_ge hi (by omega))
        · iterate 1 refine e_sp rfl rfl rfl ?_
          refine e_ci 1 rfl rfl ?_
          refine e_ci 1 rfl rfl ?_
          refine e_callV0 ok_M_write rfl lk_M_183 (by rfl) (by rfl) (k_M_write (n := 1) (a := a + i) (by decide) (moS_bits i a S hb) (by omega)) rfl rfl ⟨Nat.le_of_ble_eq_true rfl, Nat.le_of_ble_eq_true rfl⟩ ⟨Nat.zero_le _, Nat.zero_le _⟩ (Nat.le_of_ble_eq_true rfl) ?_
          refine e_inc 1 rfl rfl rfl rfl ?_
          refine e_goto rfl ?_
          try dsimp only
          rw [nI_1]
          exact ihi)
    exact L1
  iterate 1 refine e_sp rfl rfl rfl ?_
  refine e_callV1 ok_M_small rfl lk_M_180 (by rfl) (by rfl) k_M_small rfl rfl ⟨Nat.le_of_ble_eq_true rfl, Nat.le_of_ble_eq_true rfl⟩ ⟨Nat.zero_le _, Nat.zero_le _⟩ (Nat.le_of_ble_eq_true rfl) ?_
  iterate 4 refine e_sp rfl rfl rfl ?_
  dsimp only
  rw [shr_k hr2 _ (lkM_le S)]
  refine e_cb 12 rfl rfl ?_
  refine e_icge rfl (fun h1 => ?_) (fun h1 => ?_)
  · iterate 1 refine e_sp rfl rfl rfl ?_
    refine e_cs 4095 rfl rfl ?_
    refine e_cb 12 rfl rfl ?_
    refine e_callV0 ok_M_write rfl lk_M_183 (by rfl) (by rfl) (k_M_write (n := 12) (a := a) (by decide) hb (by omega)) rfl rfl ⟨Nat.le_of_ble_eq_true rfl, Nat.le_of_ble_eq_true rfl⟩ ⟨Nat.zero_le _, Nat.zero_le _⟩ (Nat.le_of_ble_eq_true rfl) ?_
    iterate 2 refine e_sp rfl rfl rfl ?_
    refine e_cb 13 rfl rfl ?_
    refine e_callV0 ok_M_write rfl lk_M_183 (by rfl) (by rfl) (k_M_write (n := 13) (a := a + 12) (by decide) (mwS_bits 12 _ _ hb) (by omega)) rfl rfl ⟨Nat.le_of_ble_eq_true rfl, Nat.le_of_ble_eq_true rfl⟩ ⟨Nat.zero_le _, Nat.zero_le _⟩ (Nat.le_of_ble_eq_true rfl) ?_
    iterate 3 refine e_sp rfl rfl rfl ?_
    refine e_ci 1 rfl rfl ?_
    iterate 4 refine e_sp rfl rfl rfl ?_
    refine e_callV0 ok_M_keepRun rfl lk_M_186 (by rfl) (by rfl) k_M_keepRun rfl rfl ⟨Nat.le_of_ble_eq_true rfl, Nat.le_of_ble_eq_true rfl⟩ ⟨Nat.zero_le _, Nat.zero_le _⟩ (Nat.le_of_ble_eq_true rfl) ?_
    refine e_vret rfl rfl (Nat.le_refl _) (Nat.le_refl _) ?_
    exact ⟨rfl, by rw [mrS, if_pos h1]; rfl⟩
  · refine e_ci 0 rfl rfl ?_
    iterate 1 refine e_sp rfl rfl rfl ?_
    try dsimp only
    exact L0 h1
