/-! the reference: patterns -/
theorem nz0 : vp_nar .boolean 0 = 0 := by decide
theorem nz1 : vp_nar .boolean 1 = 1 := by decide
theorem puI_flI {S : St} {o q n k : Nat} {v w : Int32} (h : o ≠ q) : puI (flI S o v n) q k w = flI (puI S q k w) o v n := by
  unfold puI flI
  have e1 : pt S.1 o (fun j => if j < n then v else S.1 o j) q = S.1 q := pt_n (fun z => h z.symm)
  have e2 : pt S.1 q (upd (S.1 q) k w) o = S.1 o := pt_n h
  simp only [e1, e2]
  congr 1
  funext z
  by_cases hz : z = q
  · subst hz; rw [pt_s, pt_n (fun y => h y.symm), pt_s]
  · rw [pt_n hz]
    by_cases hy : z = o
    · subst hy; rw [pt_s, pt_s]
    · rw [pt_n hy, pt_n hy, pt_n hz]
def blM (S : St) (w h n : Int32) : St := flI (flI (puI (puI (puI S 21 5 w) 21 6 h) 21 7 n) 24 (vp_nar .boolean 0) 4096) 25 0 256
def npM (S : St) : St := flI (flI S 28 (-1) 64) 29 0 64
theorem fl2_s {S : St} {o q i : Nat} {v w : Int32} (h : o ≠ q) : puI (puI (flI (flI S o v i) q w i) o i v) q i w = flI (flI S o v (i + 1)) q w (i + 1) := by
  rw [puI_flI (fun z => h z.symm), flI_s, flI_s]
def bgM (S : St) : St := npM (puI (puI (puI (puI (puI (puI (puI (puI (puI (puI (puI (puI (blM (flI (flI S 22 (vp_nar .boolean 0) 1024) 23 (vp_nar .boolean 0) 1024) 1 1 1) 21 9 1) 21 10 1) 21 11 0) 21 12 0) 21 13 256) 21 14 0) 21 16 0) 21 17 0) 21 18 0) 21 21 0) 21 23 0) 21 31 0)
def b1M (x k : Int32) : Int32 := x >>> (k &&& 31) &&& 1
def keM (x y : Int32) : Int32 :=
  let a : Int32 := 4 * 0 + 2 * b1M (x ^^^ y) 0 + b1M y 0
  let b : Int32 := 4 * a + 2 * b1M (x ^^^ y) 1 + b1M y 1
  4 * b + 2 * b1M (x ^^^ y) 2 + b1M y 2
def hcM (S : St) (k x y : Int32) : Int32 := if wi k 0 (S.1 21 7 - 1) = 0 then 0 else if wi x 0 (S.1 21 5 - 1) = 0 then 0 else if wi y 0 (S.1 21 6 - 1) = 0 then 0 else 1
theorem hcM_nat {S : St} {k x y : Int32} {m w g : Nat} (hm : S.1 21 7 = nI m) (hw : S.1 21 5 = nI w) (hg : S.1 21 6 = nI g) (hm2 : m ≤ 64) (hw2 : w ≤ 8) (hg2 : g ≤ 8) (h : ¬ hcM S k x y = 0) :
    ∃ a b c : Nat, a < m ∧ b < w ∧ c < g ∧ k = nI a ∧ x = nI b ∧ y = nI c := by
  unfold hcM at h
  rw [hm, hw, hg] at h
  by_cases h1 : wi k 0 (nI m - 1) = 0
  · rw [if_pos h1] at h; exact absurd rfl h
  rw [if_neg h1] at h
  by_cases h2 : wi x 0 (nI w - 1) = 0
  · rw [if_pos h2] at h; exact absurd rfl h
  rw [if_neg h2] at h
  by_cases h3 : wi y 0 (nI g - 1) = 0
  · rw [if_pos h3] at h; exact absurd rfl h
  obtain ⟨a, ha, e1⟩ := wi_nat (by omega) h1
  obtain ⟨b, hb, e2⟩ := wi_nat (by omega) h2
  obtain ⟨c, hc, e3⟩ := wi_nat (by omega) h3
  exact ⟨a, b, c, ha, hb, hc, e1, e2, e3⟩
theorem ix64 (a b c : Nat) : (64 : Int32) * nI a + 8 * nI c + nI b = nI (64 * a + 8 * c + b) := by
  rw [show (64 : Int32) = nI 64 from rfl, show (8 : Int32) = nI 8 from rfl, pk_mul, pk_mul, nI_add, nI_add]
theorem hcM_in {S : St} {k x y : Int32} {m w g : Nat} (hm : S.1 21 7 = nI m) (hw : S.1 21 5 = nI w) (hg : S.1 21 6 = nI g) (hm2 : m ≤ 64) (hw2 : w ≤ 8) (hg2 : g ≤ 8) (h : ¬ hcM S k x y = 0) : vp_in (64 * k + 8 * y + x) 4096 := by
  obtain ⟨a, b, c, ha, hb, hc, rfl, rfl, rfl⟩ := hcM_nat hm hw hg hm2 hw2 hg2 h
  rw [ix64]
  exact vp_in_nI (by omega) (by decide)
def xM (S : St) (i j : Int32) : Int32 := (S.1 21 11 + j * S.1 21 14 + i * S.1 21 13) >>> (8 &&& 31)
def yM (S : St) (i j : Int32) : Int32 := (S.1 21 12 + j * S.1 21 13 - i * S.1 21 14) >>> (8 &&& 31)
def ouM (S : St) (i j : Int32) : Int32 := if xM S i j + S.1 21 5 ≤ 0 then 1 else if S.1 21 1 ≤ xM S i j then 1 else if yM S i j + S.1 21 6 ≤ 0 then 1 else if yM S i j < S.1 21 2 then 0 else 1
def skM (S : St) (i j : Int32) : Int32 := if S.1 21 18 = 1 then (if ouM S i j = 0 then 0 else 1) else 0
def hpM (S : St) (i j : Int32) : Int32 := if wi i 0 (S.1 21 9 - 1) = 0 then 0 else if wi j 0 (S.1 21 10 - 1) = 0 then 0 else 1
theorem wi_1n {x : Int32} {n : Nat} (hn : n < 2 ^ 31) (h : ¬ wi x 1 (nI n) = 0) : ∃ m, m < n ∧ x = nI (m + 1) := by
  obtain ⟨h1, h2⟩ := wi_lo h
  have h3 : ¬ x < 0 := fun z => h1 (Int32.lt_trans z (by decide))
  obtain ⟨j, hj, e⟩ := nI_of2 (nI_toInt hn) h3 (Int32.not_lt.mp h2)
  cases j with
  | zero => exact absurd (show x < 1 by rw [e]; decide) h1
  | succ m => exact ⟨m, by omega, e⟩
def okP (w h n : Int32) : Int32 := if wi w 1 8 = 0 then 1 else if wi h 1 8 = 0 then 1 else if wi n 1 64 = 0 then 1 else 0
set_option maxHeartbeats 4000000 in
set_option maxRecDepth 40000 in
theorem k_M_blank {l : Launch} {h : Nat} {S : St} {a b c : Int32} : KK l (SHm h) (0, 0) m_M_blank [aR 21, aI a, aI b, aI c] S (ans none (blM S a b c)) := by
  refine k_start ok_M_blank (Nat.le_of_ble_eq_true rfl) ?_
  have L2 := e_for (P := fun i => E0 l (SHm h) (0, 0) m_M_blank 43 [some (aR 21), some (aI a), some (aI b), some (aI c), some (aI (nI i))] [] (flI (flI (puI (puI (puI S 21 5 a) 21 6 b) 21 7 c) 24 (vp_nar .boolean 0) 4096) 25 0 i) (ans none (blM S a b c))) (256) (by
      iterate 1 refine e_sp rfl rfl rfl ?_
      refine e_cs 256 rfl rfl ?_
      refine e_icge rfl (fun h1 => ?_) (fun h1 => ?_)
      · refine e_vret rfl rfl (Nat.le_refl _) (Nat.le_refl _) ?_
        exact ⟨rfl, rfl⟩
      · try dsimp only
        exact absurd (nI_le (Nat.le_refl _) (by decide)) h1) (fun i hi ihi => by
      iterate 1 refine e_sp rfl rfl rfl ?_
      refine e_cs 256 rfl rfl ?_
      refine e_icge rfl (fun h1 => ?_) (fun h1 => ?_)
      · try dsimp only
        exact absurd h1 (nI_ge hi (by decide))
      · iterate 3 refine e_sp rfl rfl rfl ?_
        refine e_ci 0 rfl rfl ?_
        refine e_iast rfl (by first | rfl | assumption) (by exact vp_in_nI hi (by decide)) ?_
        refine e_inc 1 rfl rfl rfl rfl ?_
        refine e_goto rfl ?_
        try dsimp only
        rw [nI_clamp (by omega), flI_s, nI_1]
        exact ihi)
  have L1 := e_for (P := fun i => E0 l (SHm h) (0, 0) m_M_blank 18 [some (aR 21), some (aI a), some (aI b), some (aI c), some (aI (nI i))] [] (flI (puI (puI (puI S 21 5 a) 21 6 b) 21 7 c) 24 (vp_nar .boolean 0) i) (ans none (blM S a b c))) (4096) (by
      iterate 1 refine e_sp rfl rfl rfl ?_
      refine e_cs 4096 rfl rfl ?_
      refine e_icge rfl (fun h1 => ?_) (fun h1 => ?_)
      · refine e_ci 0 rfl rfl ?_
        iterate 1 refine e_sp rfl rfl rfl ?_
        try dsimp only
        rw [flI_0] at L2
        exact L2
      · try dsimp only
        exact absurd (nI_le (Nat.le_refl _) (by decide)) h1) (fun i hi ihi => by
      iterate 1 refine e_sp rfl rfl rfl ?_
      refine e_cs 4096 rfl rfl ?_
      refine e_icge rfl (fun h1 => ?_) (fun h1 => ?_)
      · try dsimp only
        exact absurd h1 (nI_ge hi (by decide))
      · iterate 3 refine e_sp rfl rfl rfl ?_
        refine e_ci 0 rfl rfl ?_
        refine e_zast rfl (by first | rfl | assumption) (by exact vp_in_nI hi (by decide)) ?_
        refine e_inc 1 rfl rfl rfl rfl ?_
        refine e_goto rfl ?_
        try dsimp only
        rw [nI_clamp (by omega), flI_s, nI_1]
        exact ihi)
  iterate 9 refine e_sp rfl rfl rfl ?_
  refine e_ci 0 rfl rfl ?_
  iterate 1 refine e_sp rfl rfl rfl ?_
  try dsimp only
  rw [flI_0] at L1
  exact L1
/-- a counted loop -/
def nF {σ : Type} (f : Nat → σ → σ) : Nat → σ → σ
  | 0, s => s
  | i + 1, s => f i (nF f i s)
theorem nF_inv {σ : Type} {f : Nat → σ → σ} (I : σ → Prop) (hf : ∀ i s, I s → I (f i s)) : ∀ i s, I s → I (nF f i s)
  | 0, _, h => h
  | i + 1, s, h => hf i _ (nF_inv I hf i s h)
theorem rmd (n : Nat) {i : Nat} (hi : i < 2 ^ 31) (h0 : 0 < n) (hn : n < 2 ^ 31) : nI i - nI i / nI n * nI n = nI (i % n) := pk_rem hi h0 hn
theorem dvd9 (n : Nat) {i : Nat} (hi : i < 2 ^ 31) (h0 : 0 < n) (hn : n < 2 ^ 31) : nI i / nI n = nI (i / n) := pk_div hi h0 hn
set_option maxHeartbeats 4000000 in
set_option maxRecDepth 40000 in
theorem k_M_newPlane {l : Launch} {h : Nat} {S : St} : KK l (SHm h) (0, 0) m_M_newPlane [aR 21] S (ans none (npM S)) := by
  refine k_start ok_M_newPlane (Nat.le_of_ble_eq_true rfl) ?_
  have L1 := e_for (P := fun i => E0 l (SHm h) (0, 0) m_M_newPlane 2 [some (aR 21), some (aI (nI i))] [] (flI (flI S 28 (-1) i) 29 0 i) (ans none (npM S))) (64) (by
      iterate 1 refine e_sp rfl rfl rfl ?_
      refine e_cb 64 rfl rfl ?_
      refine e_icge rfl (fun h1 => ?_) (fun h1 => ?_)
      · refine e_vret rfl rfl (Nat.le_refl _) (Nat.le_refl _) ?_
        exact ⟨rfl, rfl⟩
      · try dsimp only
        exact absurd (nI_le (Nat.le_refl _) (by decide)) h1) (fun i hi ihi => by
      iterate 1 refine e_sp rfl rfl rfl ?_
      refine e_cb 64 rfl rfl ?_
      refine e_icge rfl (fun h1 => ?_) (fun h1 => ?_)
      · try dsimp only
        exact absurd h1 (nI_ge hi (by decide))
      · iterate 3 refine e_sp rfl rfl rfl ?_
        refine e_ci (-1) rfl rfl ?_
        refine e_iast rfl (by first | rfl | assumption) (by exact vp_in_nI hi (by decide)) ?_
        iterate 3 refine e_sp rfl rfl rfl ?_
        refine e_ci 0 rfl rfl ?_
        refine e_iast rfl (by first | rfl | assumption) (by exact vp_in_nI hi (by decide)) ?_
        refine e_inc 1 rfl rfl rfl rfl ?_
        refine e_goto rfl ?_
        try dsimp only
        rw [nI_clamp (by omega), fl2_s (by decide), nI_1]
        exact ihi)
  refine e_ci 0 rfl rfl ?_
  iterate 1 refine e_sp rfl rfl rfl ?_
  try dsimp only
  rw [flI_0, flI_0] at L1
  exact L1
set_option maxHeartbeats 4000000 in
set_option maxRecDepth 40000 in
theorem k_M_begin {l : Launch} {h : Nat} {S : St} : KK l (SHm h) (1, 24) m_M_begin [aR 21] S (ans none (bgM S)) := by
  refine k_start ok_M_begin (Nat.le_of_ble_eq_true rfl) ?_
  have L1 := e_for (P := fun i => E0 l (SHm h) (1, 24) m_M_begin 2 [some (aR 21), some (aI (nI i))] [] (flI (flI S 22 (vp_nar .boolean 0) i) 23 (vp_nar .boolean 0) i) (ans none (bgM S))) (1024) (by
      iterate 1 refine e_sp rfl rfl rfl ?_
      refine e_cs 1024 rfl rfl ?_
      refine e_icge rfl (fun h1 => ?_) (fun h1 => ?_)
      · iterate 1 refine e_sp rfl rfl rfl ?_
        refine e_ci 1 rfl rfl ?_
        refine e_ci 1 rfl rfl ?_
        refine e_ci 1 rfl rfl ?_
        refine e_callV0 ok_M_blank rfl lk_M_58 (by rfl) (by rfl) k_M_blank rfl rfl ⟨Nat.le_of_ble_eq_true rfl, Nat.le_of_ble_eq_true rfl⟩ ⟨Nat.zero_le _, Nat.zero_le _⟩ (Nat.le_of_ble_eq_true rfl) ?_
        iterate 1 refine e_sp rfl rfl rfl ?_
        refine e_ci 1 rfl rfl ?_
        iterate 2 refine e_sp rfl rfl rfl ?_
        refine e_ci 1 rfl rfl ?_
        iterate 2 refine e_sp rfl rfl rfl ?_
        refine e_ci 0 rfl rfl ?_
        iterate 2 refine e_sp rfl rfl rfl ?_
        refine e_ci 0 rfl rfl ?_
        iterate 2 refine e_sp rfl rfl rfl ?_
        refine e_cs 256 rfl rfl ?_
        iterate 2 refine e_sp rfl rfl rfl ?_
        refine e_ci 0 rfl rfl ?_
        iterate 2 refine e_sp rfl rfl rfl ?_
        refine e_ci 0 rfl rfl ?_
        iterate 2 refine e_sp rfl rfl rfl ?_
        refine e_ci 0 rfl rfl ?_
        iterate 2 refine e_sp rfl rfl rfl ?_
        refine e_ci 0 rfl rfl ?_
        iterate 2 refine e_sp rfl rfl rfl ?_
        refine e_ci 0 rfl rfl ?_
        iterate 2 refine e_sp rfl rfl rfl ?_
        refine e_ci 0 rfl rfl ?_
        iterate 2 refine e_sp rfl rfl rfl ?_
        refine e_ci 0 rfl rfl ?_
        iterate 2 refine e_sp rfl rfl rfl ?_
        refine e_callV0 ok_M_newPlane rfl lk_M_98 (by rfl) (by rfl) k_M_newPlane rfl rfl ⟨Nat.le_of_ble_eq_true rfl, Nat.le_of_ble_eq_true rfl⟩ ⟨Nat.zero_le _, Nat.zero_le _⟩ (Nat.le_of_ble_eq_true rfl) ?_
        refine e_vret rfl rfl (Nat.le_refl _) (Nat.le_refl _) ?_
        exact ⟨rfl, rfl⟩
      · try dsimp only
        exact absurd (nI_le (Nat.le_refl _) (by decide)) h1) (fun i hi ihi => by
      iterate 1 refine e_sp rfl rfl rfl ?_
      refine e_cs 1024 rfl rfl ?_
      refine e_icge rfl (fun h1 => ?_) (fun h1 => ?_)
      · try dsimp only
        exact absurd h1 (nI_ge hi (by decide))
      · iterate 3 refine e_sp rfl rfl rfl ?_
        refine e_ci 0 rfl rfl ?_
        refine e_zast rfl (by first | rfl | assumption) (by exact vp_in_nI hi (by decide)) ?_
        iterate 3 refine e_sp rfl rfl rfl ?_
        refine e_ci 0 rfl rfl ?_
        refine e_zast rfl (by first | rfl | assumption) (by exact vp_in_nI hi (by decide)) ?_
        refine e_inc 1 rfl rfl rfl rfl ?_
        refine e_goto rfl ?_
        try dsimp only
        rw [nI_clamp (by omega), fl2_s (by decide), nI_1]
        exact ihi)
  refine e_ci 0 rfl rfl ?_
  iterate 1 refine e_sp rfl rfl rfl ?_
  try dsimp only
  rw [flI_0, flI_0] at L1
  exact L1
set_option maxHeartbeats 4000000 in
set_option maxRecDepth 40000 in
theorem k_M_thrown {l : Launch} {h : Nat} {S : St}  : KK l (SHm h) (0, 0) m_M_thrown [aR 21] S (ans (some (aI (S.1 21 0))) S) := by
  refine k_start ok_M_thrown (Nat.le_of_ble_eq_true rfl) ?_
  iterate 2 refine e_sp rfl rfl rfl ?_
  refine e_iret rfl rfl (Nat.le_refl _) (Nat.le_refl _) ?_
  exact ⟨rfl, rfl⟩
set_option maxHeartbeats 4000000 in
set_option maxRecDepth 40000 in
theorem k_M_clear {l : Launch} {h : Nat} {S : St}  : KK l (SHm h) (2, 45) m_M_clear [aR 21] S (ans none (bgM (puI S 21 0 0))) := by
  refine k_start ok_M_clear (Nat.le_of_ble_eq_true rfl) ?_
  iterate 1 refine e_sp rfl rfl rfl ?_
  refine e_ci 0 rfl rfl ?_
  iterate 2 refine e_sp rfl rfl rfl ?_
  refine e_callV0 ok_M_begin rfl lk_M_52 (by rfl) (by rfl) k_M_begin rfl rfl ⟨Nat.le_of_ble_eq_true rfl, Nat.le_of_ble_eq_true rfl⟩ ⟨Nat.zero_le _, Nat.zero_le _⟩ (Nat.le_of_ble_eq_true rfl) ?_
  refine e_vret rfl rfl (Nat.le_refl _) (Nat.le_refl _) ?_
  exact ⟨rfl, rfl⟩
set_option maxHeartbeats 4000000 in
set_option maxRecDepth 40000 in
theorem k_M_keyOf {l : Launch} {B : List Sh} {S : St} {x y : Int32}  : KK l B (0, 0) m_M_keyOf [aI x, aI y] S (ans (some (aI (keM x y))) S) := by
  refine k_start ok_M_keyOf (Nat.le_of_ble_eq_true rfl) ?_
  refine e_ci 0 rfl rfl ?_
  iterate 1 refine e_sp rfl rfl rfl ?_
  refine e_ci 0 rfl rfl ?_
  iterate 2 refine e_sp rfl rfl rfl ?_
  refine e_ci 3 rfl rfl ?_
  refine e_icge rfl (fun h1 => absurd h1 (by first | decide | simp [puI, pt, upd])) (fun _ => ?_)
  refine e_ci 4 rfl rfl ?_
  iterate 2 refine e_sp rfl rfl rfl ?_
  refine e_ci 2 rfl rfl ?_
  iterate 5 refine e_sp rfl rfl rfl ?_
  refine e_ci 1 rfl rfl ?_
  iterate 6 refine e_sp rfl rfl rfl ?_
  refine e_ci 1 rfl rfl ?_
  iterate 3 refine e_sp rfl rfl rfl ?_
  refine e_inc 1 rfl rfl rfl rfl ?_
  refine e_goto rfl ?_
  iterate 1 refine e_sp rfl rfl rfl ?_
  refine e_ci 3 rfl rfl ?_
  refine e_icge rfl (fun h2 => absurd h2 (by first | decide | simp [puI, pt, upd])) (fun _ => ?_)
  refine e_ci 4 rfl rfl ?_
  iterate 2 refine e_sp rfl rfl rfl ?_
  refine e_ci 2 rfl rfl ?_
  iterate 5 refine e_sp rfl rfl rfl ?_
  refine e_ci 1 rfl rfl ?_
  iterate 6 refine e_sp rfl rfl rfl ?_
  refine e_ci 1 rfl rfl ?_
  iterate 3 refine e_sp rfl rfl rfl ?_
  refine e_inc 1 rfl rfl rfl rfl ?_
  refine e_goto rfl ?_
  iterate 1 refine e_sp rfl rfl rfl ?_
  refine e_ci 3 rfl rfl ?_
  refine e_icge rfl (fun h3 => absurd h3 (by first | decide | simp [puI, pt, upd])) (fun _ => ?_)
  refine e_ci 4 rfl rfl ?_
  iterate 2 refine e_sp rfl rfl rfl ?_
  refine e_ci 2 rfl rfl ?_
  iterate 5 refine e_sp rfl rfl rfl ?_
  refine e_ci 1 rfl rfl ?_
  iterate 6 refine e_sp rfl rfl rfl ?_
  refine e_ci 1 rfl rfl ?_
  iterate 3 refine e_sp rfl rfl rfl ?_
  refine e_inc 1 rfl rfl rfl rfl ?_
  refine e_goto rfl ?_
  iterate 1 refine e_sp rfl rfl rfl ?_
  refine e_ci 3 rfl rfl ?_
  refine e_icge rfl (fun _ => ?_) (fun h4 => absurd h4 (by first | decide | simp [puI, pt, upd]))
  iterate 1 refine e_sp rfl rfl rfl ?_
  refine e_iret rfl rfl (Nat.le_refl _) (Nat.le_refl _) ?_
  exact ⟨rfl, rfl⟩
set_option maxHeartbeats 4000000 in
set_option maxRecDepth 40000 in
theorem k_M_hasCell {l : Launch} {h : Nat} {S : St} {p x y : Int32}  : KK l (SHm h) (1, 22) m_M_hasCell [aR 21, aI p, aI x, aI y] S (ans (some (aI (hcM S p x y))) S) := by
  refine k_start ok_M_hasCell (Nat.le_of_ble_eq_true rfl) ?_
  iterate 1 refine e_sp rfl rfl rfl ?_
  refine e_ci 0 rfl rfl ?_
  iterate 2 refine e_sp rfl rfl rfl ?_
  refine e_ci 1 rfl rfl ?_
  iterate 1 refine e_sp rfl rfl rfl ?_
  refine e_callS1 ok_M_in rfl lk_M_110 k_M_in rfl rfl ⟨Nat.le_of_ble_eq_true rfl, Nat.le_of_ble_eq_true rfl⟩ ⟨Nat.zero_le _, Nat.zero_le _⟩ (Nat.le_of_ble_eq_true rfl) ?_
  refine e_ifeq rfl (fun h1 => ?_) (fun h1 => ?_)
  · refine e_ci 0 rfl rfl ?_
    refine e_zret rfl rfl (Nat.le_refl _) (Nat.le_refl _) (by decide) ?_
    exact ⟨by simp [hcM, h1], rfl⟩
  · iterate 1 refine e_sp rfl rfl rfl ?_
    refine e_ci 0 rfl rfl ?_
    iterate 2 refine e_sp rfl rfl rfl ?_
    refine e_ci 1 rfl rfl ?_
    iterate 1 refine e_sp rfl rfl rfl ?_
    refine e_callS1 ok_M_in rfl lk_M_110 k_M_in rfl rfl ⟨Nat.le_of_ble_eq_true rfl, Nat.le_of_ble_eq_true rfl⟩ ⟨Nat.zero_le _, Nat.zero_le _⟩ (Nat.le_of_ble_eq_true rfl) ?_
    refine e_ifeq rfl (fun h2 => ?_) (fun h2 => ?_)
    · refine e_ci 0 rfl rfl ?_
      refine e_zret rfl rfl (Nat.le_refl _) (Nat.le_refl _) (by decide) ?_
      exact ⟨by simp [hcM, h1, h2], rfl⟩
    · iterate 1 refine e_sp rfl rfl rfl ?_
      refine e_ci 0 rfl rfl ?_
      iterate 2 refine e_sp rfl rfl rfl ?_
      refine e_ci 1 rfl rfl ?_
      iterate 1 refine e_sp rfl rfl rfl ?_
      refine e_callS1 ok_M_in rfl lk_M_110 k_M_in rfl rfl ⟨Nat.le_of_ble_eq_true rfl, Nat.le_of_ble_eq_true rfl⟩ ⟨Nat.zero_le _, Nat.zero_le _⟩ (Nat.le_of_ble_eq_true rfl) ?_
      refine e_ifeq rfl (fun h3 => ?_) (fun h3 => ?_)
      · refine e_ci 0 rfl rfl ?_
        refine e_zret rfl rfl (Nat.le_refl _) (Nat.le_refl _) (by decide) ?_
        exact ⟨by simp [hcM, h1, h2, h3], rfl⟩
      · refine e_ci 1 rfl rfl ?_
        refine e_goto rfl ?_
        refine e_zret rfl rfl (Nat.le_refl _) (Nat.le_refl _) (by decide) ?_
        exact ⟨by simp [hcM, h1, h2, h3], rfl⟩
set_option maxHeartbeats 4000000 in
set_option maxRecDepth 40000 in
theorem k_M_hasPlace {l : Launch} {h : Nat} {S : St} {i j : Int32}  : KK l (SHm h) (1, 22) m_M_hasPlace [aR 21, aI i, aI j] S (ans (some (aI (hpM S i j))) S) := by
  refine k_start ok_M_hasPlace (Nat.le_of_ble_eq_true rfl) ?_
  iterate 1 refine e_sp rfl rfl rfl ?_
  refine e_ci 0 rfl rfl ?_
  iterate 2 refine e_sp rfl rfl rfl ?_
  refine e_ci 1 rfl rfl ?_
  iterate 1 refine e_sp rfl rfl rfl ?_
  refine e_callS1 ok_M_in rfl lk_M_110 k_M_in rfl rfl ⟨Nat.le_of_ble_eq_true rfl, Nat.le_of_ble_eq_true rfl⟩ ⟨Nat.zero_le _, Nat.zero_le _⟩ (Nat.le_of_ble_eq_true rfl) ?_
  refine e_ifeq rfl (fun h1 => ?_) (fun h1 => ?_)
  · refine e_ci 0 rfl rfl ?_
    refine e_zret rfl rfl (Nat.le_refl _) (Nat.le_refl _) (by decide) ?_
    exact ⟨by simp [hpM, h1], rfl⟩
  · iterate 1 refine e_sp rfl rfl rfl ?_
    refine e_ci 0 rfl rfl ?_
    iterate 2 refine e_sp rfl rfl rfl ?_
    refine e_ci 1 rfl rfl ?_
    iterate 1 refine e_sp rfl rfl rfl ?_
    refine e_callS1 ok_M_in rfl lk_M_110 k_M_in rfl rfl ⟨Nat.le_of_ble_eq_true rfl, Nat.le_of_ble_eq_true rfl⟩ ⟨Nat.zero_le _, Nat.zero_le _⟩ (Nat.le_of_ble_eq_true rfl) ?_
    refine e_ifeq rfl (fun h2 => ?_) (fun h2 => ?_)
    · refine e_ci 0 rfl rfl ?_
      refine e_zret rfl rfl (Nat.le_refl _) (Nat.le_refl _) (by decide) ?_
      exact ⟨by simp [hpM, h1, h2], rfl⟩
    · refine e_ci 1 rfl rfl ?_
      refine e_goto rfl ?_
      refine e_zret rfl rfl (Nat.le_refl _) (Nat.le_refl _) (by decide) ?_
      exact ⟨by simp [hpM, h1, h2], rfl⟩
set_option maxHeartbeats 4000000 in
set_option maxRecDepth 40000 in
theorem k_M_xOf {l : Launch} {h : Nat} {S : St} {i j : Int32}  : KK l (SHm h) (1, 20) m_M_xOf [aR 21, aI i, aI j] S (ans (some (aI (xM S i j))) S) := by
  refine k_start ok_M_xOf (Nat.le_of_ble_eq_true rfl) ?_
  iterate 12 refine e_sp rfl rfl rfl ?_
  refine e_callS1 ok_M_by256 rfl lk_M_125 k_M_by256 rfl rfl ⟨Nat.le_of_ble_eq_true rfl, Nat.le_of_ble_eq_true rfl⟩ ⟨Nat.zero_le _, Nat.zero_le _⟩ (Nat.le_of_ble_eq_true rfl) ?_
  refine e_iret rfl rfl (Nat.le_refl _) (Nat.le_refl _) ?_
  exact ⟨rfl, rfl⟩
set_option maxHeartbeats 4000000 in
set_option maxRecDepth 40000 in
theorem k_M_yOf {l : Launch} {h : Nat} {S : St} {i j : Int32}  : KK l (SHm h) (1, 20) m_M_yOf [aR 21, aI i, aI j] S (ans (some (aI (yM S i j))) S) := by
  refine k_start ok_M_yOf (Nat.le_of_ble_eq_true rfl) ?_
  iterate 12 refine e_sp rfl rfl rfl ?_
  refine e_callS1 ok_M_by256 rfl lk_M_125 k_M_by256 rfl rfl ⟨Nat.le_of_ble_eq_true rfl, Nat.le_of_ble_eq_true rfl⟩ ⟨Nat.zero_le _, Nat.zero_le _⟩ (Nat.le_of_ble_eq_true rfl) ?_
  refine e_iret rfl rfl (Nat.le_refl _) (Nat.le_refl _) ?_
  exact ⟨rfl, rfl⟩
set_option maxHeartbeats 4000000 in
set_option maxRecDepth 40000 in
theorem k_M_isOutside {l : Launch} {h : Nat} {S : St} {i j : Int32}  : KK l (SHm h) (2, 42) m_M_isOutside [aR 21, aI i, aI j] S (ans (some (aI (ouM S i j))) S) := by
  refine k_start ok_M_isOutside (Nat.le_of_ble_eq_true rfl) ?_
  iterate 3 refine e_sp rfl rfl rfl ?_
  refine e_callV1 ok_M_xOf rfl lk_M_129 (by rfl) (by rfl) k_M_xOf rfl rfl ⟨Nat.le_of_ble_eq_true rfl, Nat.le_of_ble_eq_true rfl⟩ ⟨Nat.zero_le _, Nat.zero_le _⟩ (Nat.le_of_ble_eq_true rfl) ?_
  iterate 4 refine e_sp rfl rfl rfl ?_
  refine e_callV1 ok_M_yOf rfl lk_M_132 (by rfl) (by rfl) k_M_yOf rfl rfl ⟨Nat.le_of_ble_eq_true rfl, Nat.le_of_ble_eq_true rfl⟩ ⟨Nat.zero_le _, Nat.zero_le _⟩ (Nat.le_of_ble_eq_true rfl) ?_
  iterate 5 refine e_sp rfl rfl rfl ?_
  refine e_ifle rfl (fun h1 => ?_) (fun h1 => ?_)
  · refine e_ci 1 rfl rfl ?_
    refine e_goto rfl ?_
    refine e_zret rfl rfl (Nat.le_refl _) (Nat.le_refl _) (by decide) ?_
    exact ⟨by simp [ouM, h1], rfl⟩
  · iterate 3 refine e_sp rfl rfl rfl ?_
    refine e_icge rfl (fun h2 => ?_) (fun h2 => ?_)
    · refine e_ci 1 rfl rfl ?_
      refine e_goto rfl ?_
      refine e_zret rfl rfl (Nat.le_refl _) (Nat.le_refl _) (by decide) ?_
      exact ⟨by simp [ouM, h1, h2], rfl⟩
    · iterate 4 refine e_sp rfl rfl rfl ?_
      refine e_ifle rfl (fun h3 => ?_) (fun h3 => ?_)
      · refine e_ci 1 rfl rfl ?_
        refine e_goto rfl ?_
        refine e_zret rfl rfl (Nat.le_refl _) (Nat.le_refl _) (by decide) ?_
        exact ⟨by simp [ouM, h1, h2, h3], rfl⟩
      · iterate 3 refine e_sp rfl rfl rfl ?_
        refine e_iclt rfl (fun h4 => ?_) (fun h4 => ?_)
        · refine e_ci 0 rfl rfl ?_
          refine e_zret rfl rfl (Nat.le_refl _) (Nat.le_refl _) (by decide) ?_
          exact ⟨by simp [ouM, h1, h2, h3, h4], rfl⟩
        · refine e_ci 1 rfl rfl ?_
          refine e_goto rfl ?_
          refine e_zret rfl rfl (Nat.le_refl _) (Nat.le_refl _) (by decide) ?_
          exact ⟨by simp [ouM, h1, h2, h3, h4], rfl⟩
set_option maxHeartbeats 4000000 in
set_option maxRecDepth 40000 in
theorem k_M_isSkipped {l : Launch} {h : Nat} {S : St} {i j : Int32}  : KK l (SHm h) (3, 66) m_M_isSkipped [aR 21, aI i, aI j] S (ans (some (aI (skM S i j))) S) := by
  refine k_start ok_M_isSkipped (Nat.le_of_ble_eq_true rfl) ?_
  iterate 2 refine e_sp rfl rfl rfl ?_
  refine e_ci 1 rfl rfl ?_
  refine e_icne rfl (fun h1 => ?_) (fun h1 => ?_)
  · refine e_ci 0 rfl rfl ?_
    refine e_zret rfl rfl (Nat.le_refl _) (Nat.le_refl _) (by decide) ?_
    exact ⟨by simp [skM, h1], rfl⟩
  · iterate 3 refine e_sp rfl rfl rfl ?_
    refine e_callV1 ok_M_isOutside rfl lk_M_135 (by rfl) (by rfl) k_M_isOutside rfl rfl ⟨Nat.le_of_ble_eq_true rfl, Nat.le_of_ble_eq_true rfl⟩ ⟨Nat.zero_le _, Nat.zero_le _⟩ (Nat.le_of_ble_eq_true rfl) ?_
    refine e_ifeq rfl (fun h2 => ?_) (fun h2 => ?_)
    · refine e_ci 0 rfl rfl ?_
      refine e_zret rfl rfl (Nat.le_refl _) (Nat.le_refl _) (by decide) ?_
      exact ⟨by simp [skM, h1, h2], rfl⟩
    · refine e_ci 1 rfl rfl ?_
      refine e_goto rfl ?_
      refine e_zret rfl rfl (Nat.le_refl _) (Nat.le_refl _) (by decide) ?_
      exact ⟨by simp [skM, h1, h2], rfl⟩
set_option maxHeartbeats 4000000 in
set_option maxRecDepth 40000 in
theorem k_M_planes {l : Launch} {h : Nat} {S : St} {m : Nat} (hm : S.1 21 7 = nI (m + 1)) (hm2 : m < 64) : KK l (SHm h) (0, 0) m_M_planes [aR 21] S (ans (some (aI (nI (bl 6 m)))) S) := by
  refine k_start ok_M_planes (Nat.le_of_ble_eq_true rfl) ?_
  have hsh : ∀ n, n ≤ 6 → nI m >>> (nI n &&& 31) = nI (m / 2 ^ n) := fun n hn => shr_k (by omega) n (by omega)
  have L : ∀ (f n : Nat), n + f = 6 → m / 2 ^ n < 2 ^ f → E0 l (SHm h) (0, 0) m_M_planes 2 [some (aR 21), some (aI (nI n))] [] S (ans (some (aI (nI (n + bl f (m / 2 ^ n))))) S) := by
    intro f
    induction f with
    | zero =>
      intro n hn hlt
      have e0 : m / 2 ^ n = 0 := Nat.lt_one_iff.mp hlt
      iterate 2 refine e_sp rfl rfl rfl ?_
      refine e_ci 1 rfl rfl ?_
      iterate 3 refine e_sp rfl rfl rfl ?_
      dsimp only
      rw [hm, nI_pred, hsh n (by omega), e0]
      refine e_ifeq rfl (fun h1 => ?_) (fun h1 => absurd nI_0 h1)
      iterate 1 refine e_sp rfl rfl rfl ?_
      refine e_iret rfl rfl (Nat.le_refl _) (Nat.le_refl _) ?_
      exact ⟨rfl, rfl⟩
    | succ f ih =>
      intro n hn hlt
      iterate 2 refine e_sp rfl rfl rfl ?_
      refine e_ci 1 rfl rfl ?_
      iterate 3 refine e_sp rfl rfl rfl ?_
      dsimp only
      rw [hm, nI_pred, hsh n (by omega)]
      have hb : m / 2 ^ n < 2 ^ 31 := Nat.lt_of_le_of_lt (Nat.div_le_self _ _) (by omega)
      refine e_ifeq rfl (fun h1 => ?_) (fun h1 => ?_)
      · have e0 : m / 2 ^ n = 0 := by
          rcases Nat.eq_zero_or_pos (m / 2 ^ n) with q | q
          · exact q
          · exact absurd h1 (nI_ne0 q hb)
        iterate 1 refine e_sp rfl rfl rfl ?_
        refine e_iret rfl rfl (Nat.le_refl _) (Nat.le_refl _) ?_
        rw [e0]
        exact ⟨by simp [bl], rfl⟩
      · have e0 : ¬ m / 2 ^ n = 0 := fun q => h1 (by rw [q]; exact nI_0)
        refine e_inc 1 rfl rfl rfl rfl ?_
        refine e_goto rfl ?_
        rw [nI_1]
        have e9 := ih (n + 1) (by omega) (by rw [Nat.pow_succ, ← Nat.div_div_eq_div_mul]; rw [Nat.pow_succ] at hlt; omega)
        rw [show n + 1 + bl f (m / 2 ^ (n + 1)) = n + bl (f + 1) (m / 2 ^ n) by simp only [bl]; rw [if_neg e0, Nat.pow_succ, ← Nat.div_div_eq_div_mul]; omega] at e9
        exact e9
  refine e_ci 0 rfl rfl ?_
  iterate 1 refine e_sp rfl rfl rfl ?_
  have L0 := L 6 0 rfl (by simpa using hm2)
  rw [Nat.pow_zero, Nat.div_one, Nat.zero_add] at L0
  exact L0
theorem okP_m {c : Int32} {S : St} {a b : Int32} (h : ¬ wi c 1 64 = 0) : (blM S a b c).1 21 7 = nI (c.toNatClampNeg - 1 + 1) := by
  obtain ⟨m, hm, rfl⟩ := wi_1n (n := 64) (by decide) h
  rw [nI_clamp (by omega), show m + 1 - 1 + 1 = m + 1 by omega]
  rfl
theorem okP_n {c : Int32} (h : ¬ wi c 1 64 = 0) : c.toNatClampNeg - 1 < 64 := by
  obtain ⟨m, hm, rfl⟩ := wi_1n (n := 64) (by decide) h
  rw [nI_clamp (by omega)]
  omega
set_option maxHeartbeats 4000000 in
set_option maxRecDepth 40000 in
theorem k_M_patterns {l : Launch} {h : Nat} {S : St} {a b c : Int32}  : KK l (SHm h) (1, 24) m_M_patterns [aR 21, aI a, aI b, aI c] S (ans (some (aI (if okP a b c = 0 then nI (bl 6 (c.toNatClampNeg - 1)) else 0))) (if okP a b c = 0 then blM (puI S 21 0 0) a b c else puI S 21 0 1)) := by
  refine k_start ok_M_patterns (Nat.le_of_ble_eq_true rfl) ?_
  iterate 2 refine e_sp rfl rfl rfl ?_
  refine e_ci 1 rfl rfl ?_
  refine e_cb 8 rfl rfl ?_
  refine e_callS1 ok_M_in rfl lk_M_110 k_M_in rfl rfl ⟨Nat.le_of_ble_eq_true rfl, Nat.le_of_ble_eq_true rfl⟩ ⟨Nat.zero_le _, Nat.zero_le _⟩ (Nat.le_of_ble_eq_true rfl) ?_
  refine e_ifeq rfl (fun h1 => ?_) (fun h1 => ?_)
  · refine e_ci 1 rfl rfl ?_
    iterate 3 refine e_sp rfl rfl rfl ?_
    refine e_ifle rfl (fun h2 => absurd h2 (by first | decide | simp [puI, pt, upd])) (fun _ => ?_)
    refine e_ci 0 rfl rfl ?_
    refine e_iret rfl rfl (Nat.le_refl _) (Nat.le_refl _) ?_
    exact ⟨by simp [okP, h1], by simp [okP, h1]⟩
  · iterate 1 refine e_sp rfl rfl rfl ?_
    refine e_ci 1 rfl rfl ?_
    refine e_cb 8 rfl rfl ?_
    refine e_callS1 ok_M_in rfl lk_M_110 k_M_in rfl rfl ⟨Nat.le_of_ble_eq_true rfl, Nat.le_of_ble_eq_true rfl⟩ ⟨Nat.zero_le _, Nat.zero_le _⟩ (Nat.le_of_ble_eq_true rfl) ?_
    refine e_ifeq rfl (fun h3 => ?_) (fun h3 => ?_)
    · refine e_ci 1 rfl rfl ?_
      iterate 3 refine e_sp rfl rfl rfl ?_
      refine e_ifle rfl (fun h4 => absurd h4 (by first | decide | simp [puI, pt, upd])) (fun _ => ?_)
      refine e_ci 0 rfl rfl ?_
      refine e_iret rfl rfl (Nat.le_refl _) (Nat.le_refl _) ?_
      exact ⟨by simp [okP, h1, h3], by simp [okP, h1, h3]⟩
    · iterate 1 refine e_sp rfl rfl rfl ?_
      refine e_ci 1 rfl rfl ?_
      refine e_cb 64 rfl rfl ?_
      refine e_callS1 ok_M_in rfl lk_M_110 k_M_in rfl rfl ⟨Nat.le_of_ble_eq_true rfl, Nat.le_of_ble_eq_true rfl⟩ ⟨Nat.zero_le _, Nat.zero_le _⟩ (Nat.le_of_ble_eq_true rfl) ?_
      refine e_ifeq rfl (fun h5 => ?_) (fun h5 => ?_)
      · refine e_ci 1 rfl rfl ?_
        iterate 3 refine e_sp rfl rfl rfl ?_
        refine e_ifle rfl (fun h6 => absurd h6 (by first | decide | simp [puI, pt, upd])) (fun _ => ?_)
        refine e_ci 0 rfl rfl ?_
        refine e_iret rfl rfl (Nat.le_refl _) (Nat.le_refl _) ?_
        exact ⟨by simp [okP, h1, h3, h5], by simp [okP, h1, h3, h5]⟩
      · refine e_ci 0 rfl rfl ?_
        refine e_goto rfl ?_
        iterate 3 refine e_sp rfl rfl rfl ?_
        refine e_ifle rfl (fun _ => ?_) (fun h7 => absurd h7 (by first | decide | simp [puI, pt, upd]))
        iterate 4 refine e_sp rfl rfl rfl ?_
        refine e_callV0 ok_M_blank rfl lk_M_58 (by rfl) (by rfl) k_M_blank rfl rfl ⟨Nat.le_of_ble_eq_true rfl, Nat.le_of_ble_eq_true rfl⟩ ⟨Nat.zero_le _, Nat.zero_le _⟩ (Nat.le_of_ble_eq_true rfl) ?_
        iterate 1 refine e_sp rfl rfl rfl ?_
        refine e_callV1 ok_M_planes rfl lk_M_114 (by rfl) (by rfl) (k_M_planes (m := c.toNatClampNeg - 1) (okP_m (by assumption)) (okP_n (by assumption))) rfl rfl ⟨Nat.le_of_ble_eq_true rfl, Nat.le_of_ble_eq_true rfl⟩ ⟨Nat.zero_le _, Nat.zero_le _⟩ (Nat.le_of_ble_eq_true rfl) ?_
        refine e_iret rfl rfl (Nat.le_refl _) (Nat.le_refl _) ?_
        exact ⟨by simp [okP, h1, h3, h5], by simp [okP, h1, h3, h5]⟩
def ix (k x y : Int32) : Nat := (64 * k + 8 * y + x).toNatClampNeg
def puM (S : St) (k x y b : Int32) : St := if hcM S k x y = 0 then puI S 21 0 1 else puI (puI S 21 0 0) 24 (ix k x y) (vp_nar .boolean b)
set_option maxHeartbeats 4000000 in
set_option maxRecDepth 40000 in
theorem k_M_put {l : Launch} {h : Nat} {S : St} {k x y b : Int32} {m w g : Nat} (hm : S.1 21 7 = nI m) (hw : S.1 21 5 = nI w) (hg : S.1 21 6 = nI g) (hm2 : m ≤ 64) (hw2 : w ≤ 8) (hg2 : g ≤ 8) : KK l (SHm h) (2, 45) m_M_put [aR 21, aI k, aI x, aI y, aI b] S (ans (some (aI (if hcM S k x y = 0 then 0 else if S.1 24 (ix k x y) = b then 0 else 1))) (puM S k x y b)) := by
  refine k_start ok_M_put (Nat.le_of_ble_eq_true rfl) ?_
  iterate 5 refine e_sp rfl rfl rfl ?_
  refine e_callV1 ok_M_hasCell rfl lk_M_122 (by rfl) (by rfl) k_M_hasCell rfl rfl ⟨Nat.le_of_ble_eq_true rfl, Nat.le_of_ble_eq_true rfl⟩ ⟨Nat.zero_le _, Nat.zero_le _⟩ (Nat.le_of_ble_eq_true rfl) ?_
  refine e_ifeq rfl (fun h1 => ?_) (fun h1 => ?_)
  · refine e_ci 1 rfl rfl ?_
    iterate 3 refine e_sp rfl rfl rfl ?_
    refine e_ifle rfl (fun h2 => absurd h2 (by first | decide | simp [puI, pt, upd])) (fun _ => ?_)
    refine e_ci 0 rfl rfl ?_
    refine e_zret rfl rfl (Nat.le_refl _) (Nat.le_refl _) (by decide) ?_
    exact ⟨by simp_all [puI, pt, upd, ix], by simp_all [puM, puI, pt, upd, ix]⟩
  · refine e_ci 0 rfl rfl ?_
    refine e_goto rfl ?_
    iterate 3 refine e_sp rfl rfl rfl ?_
    refine e_ifle rfl (fun _ => ?_) (fun h3 => absurd h3 (by first | decide | simp [puI, pt, upd]))
    iterate 2 refine e_sp rfl rfl rfl ?_
    refine e_cb 64 rfl rfl ?_
    iterate 2 refine e_sp rfl rfl rfl ?_
    refine e_cb 8 rfl rfl ?_
    iterate 5 refine e_sp rfl rfl rfl ?_
    refine e_zald rfl (by first | rfl | assumption) (by exact hcM_in hm hw hg hm2 hw2 hg2 (by assumption)) ?_
    iterate 1 refine e_sp rfl rfl rfl ?_
    refine e_iceq rfl (fun h4 => ?_) (fun h4 => ?_)
    · refine e_ci 0 rfl rfl ?_
      iterate 3 refine e_sp rfl rfl rfl ?_
      refine e_cb 64 rfl rfl ?_
      iterate 2 refine e_sp rfl rfl rfl ?_
      refine e_cb 8 rfl rfl ?_
      iterate 6 refine e_sp rfl rfl rfl ?_
      refine e_zast rfl (by first | rfl | assumption) (by exact hcM_in hm hw hg hm2 hw2 hg2 (by assumption)) ?_
      iterate 1 refine e_sp rfl rfl rfl ?_
      refine e_zret rfl rfl (Nat.le_refl _) (Nat.le_refl _) (by decide) ?_
      exact ⟨by simp_all [puI, pt, upd, ix], by simp_all [puM, puI, pt, upd, ix]⟩
    · refine e_ci 1 rfl rfl ?_
      refine e_goto rfl ?_
      iterate 3 refine e_sp rfl rfl rfl ?_
      refine e_cb 64 rfl rfl ?_
      iterate 2 refine e_sp rfl rfl rfl ?_
      refine e_cb 8 rfl rfl ?_
      iterate 6 refine e_sp rfl rfl rfl ?_
      refine e_zast rfl (by first | rfl | assumption) (by exact hcM_in hm hw hg hm2 hw2 hg2 (by assumption)) ?_
      iterate 1 refine e_sp rfl rfl rfl ?_
      refine e_zret rfl rfl (Nat.le_refl _) (Nat.le_refl _) (by decide) ?_
      exact ⟨by simp_all [puI, pt, upd, ix], by simp_all [puM, puI, pt, upd, ix]⟩
set_option maxHeartbeats 4000000 in
set_option maxRecDepth 40000 in
theorem k_M_cell {l : Launch} {h : Nat} {S : St} {k x y : Int32} {m w g : Nat} (hm : S.1 21 7 = nI m) (hw : S.1 21 5 = nI w) (hg : S.1 21 6 = nI g) (hm2 : m ≤ 64) (hw2 : w ≤ 8) (hg2 : g ≤ 8) : KK l (SHm h) (2, 45) m_M_cell [aR 21, aI k, aI x, aI y] S (ans (some (aI (if hcM S k x y = 0 then 0 else if S.1 24 (ix k x y) = 0 then 0 else 1))) (puI S 21 0 (if hcM S k x y = 0 then 1 else 0))) := by
  refine k_start ok_M_cell (Nat.le_of_ble_eq_true rfl) ?_
  iterate 5 refine e_sp rfl rfl rfl ?_
  refine e_callV1 ok_M_hasCell rfl lk_M_122 (by rfl) (by rfl) k_M_hasCell rfl rfl ⟨Nat.le_of_ble_eq_true rfl, Nat.le_of_ble_eq_true rfl⟩ ⟨Nat.zero_le _, Nat.zero_le _⟩ (Nat.le_of_ble_eq_true rfl) ?_
  refine e_ifeq rfl (fun h1 => ?_) (fun h1 => ?_)
  · refine e_ci 1 rfl rfl ?_
    iterate 3 refine e_sp rfl rfl rfl ?_
    refine e_ifne rfl (fun _ => ?_) (fun h2 => absurd h2 (by first | decide | simp [puI, pt, upd]))
    refine e_ci 0 rfl rfl ?_
    refine e_zret rfl rfl (Nat.le_refl _) (Nat.le_refl _) (by decide) ?_
    exact ⟨by simp_all [puI, pt, upd, ix], by simp_all⟩
  · refine e_ci 0 rfl rfl ?_
    refine e_goto rfl ?_
    iterate 3 refine e_sp rfl rfl rfl ?_
    refine e_ifne rfl (fun h3 => absurd h3 (by first | decide | simp [puI, pt, upd])) (fun _ => ?_)
    iterate 2 refine e_sp rfl rfl rfl ?_
    refine e_cb 64 rfl rfl ?_
    iterate 2 refine e_sp rfl rfl rfl ?_
    refine e_cb 8 rfl rfl ?_
    iterate 5 refine e_sp rfl rfl rfl ?_
    refine e_zald rfl (by first | rfl | assumption) (by exact hcM_in hm hw hg hm2 hw2 hg2 (by assumption)) ?_
    refine e_ifeq rfl (fun h4 => ?_) (fun h4 => ?_)
    · refine e_ci 0 rfl rfl ?_
      refine e_zret rfl rfl (Nat.le_refl _) (Nat.le_refl _) (by decide) ?_
      exact ⟨by simp_all [puI, pt, upd, ix], by simp_all⟩
    · refine e_ci 1 rfl rfl ?_
      refine e_goto rfl ?_
      refine e_zret rfl rfl (Nat.le_refl _) (Nat.le_refl _) (by decide) ?_
      exact ⟨by simp_all [puI, pt, upd, ix], by simp_all⟩
def dkF (S : St) (k i : Nat) (a : Int32) : Int32 := a + (if S.1 24 (64 * k + i) = 0 then 0 else 1)
def dkM (S : St) (k : Nat) : Int32 := nF (dkF S k) 64 0
theorem ix6 (a b : Nat) : (64 : Int32) * nI a + nI b = nI (64 * a + b) := by
  rw [show (64 : Int32) = nI 64 from rfl, pk_mul, nI_add]
set_option maxHeartbeats 4000000 in
set_option maxRecDepth 40000 in
theorem k_M_darkIn {l : Launch} {h : Nat} {S : St} {k : Nat} (hk : k < 64) : KK l (SHm h) (0, 0) m_M_darkIn [aR 21, aI (nI k)] S (ans (some (aI (dkM S k))) S) := by
  refine k_start ok_M_darkIn (Nat.le_of_ble_eq_true rfl) ?_
  have L1 := e_for (P := fun i => E0 l (SHm h) (0, 0) m_M_darkIn 4 [some (aR 21), some (aI (nI k)), some (aI (nF (dkF S k) i 0)), some (aI (nI i))] [] (S) (ans (some (aI (dkM S k))) S)) (64) (by
      iterate 1 refine e_sp rfl rfl rfl ?_
      refine e_cb 64 rfl rfl ?_
      refine e_icge rfl (fun h1 => ?_) (fun h1 => ?_)
      · iterate 1 refine e_sp rfl rfl rfl ?_
        refine e_iret rfl rfl (Nat.le_refl _) (Nat.le_refl _) ?_
        exact ⟨rfl, rfl⟩
      · try dsimp only
        exact absurd (nI_le (Nat.le_refl _) (by decide)) h1) (fun i hi ihi => by
      iterate 1 refine e_sp rfl rfl rfl ?_
      refine e_cb 64 rfl rfl ?_
      refine e_icge rfl (fun h1 => ?_) (fun h1 => ?_)
      · try dsimp only
        exact absurd h1 (nI_ge hi (by decide))
      · iterate 3 refine e_sp rfl rfl rfl ?_
        refine e_cb 64 rfl rfl ?_
        iterate 4 refine e_sp rfl rfl rfl ?_
        dsimp only
        rw [ix6]
        refine e_zald rfl (by first | rfl | assumption) (by exact vp_in_nI (show 64 * k + i < 4096 by omega) (by decide)) ?_
        rw [nI_clamp (by omega)]
        refine e_ifeq rfl (fun h2 => ?_) (fun h2 => ?_)
        · refine e_ci 0 rfl rfl ?_
          iterate 2 refine e_sp rfl rfl rfl ?_
          refine e_inc 1 rfl rfl rfl rfl ?_
          refine e_goto rfl ?_
          try dsimp only
          rw [nI_1]
          simp only [nF, dkF] at ihi
          first | rw [if_pos h2] at ihi | rw [if_neg h2] at ihi
          exact ihi
        · refine e_ci 1 rfl rfl ?_
          refine e_goto rfl ?_
          iterate 2 refine e_sp rfl rfl rfl ?_
          refine e_inc 1 rfl rfl rfl rfl ?_
          refine e_goto rfl ?_
          try dsimp only
          rw [nI_1]
          simp only [nF, dkF] at ihi
          first | rw [if_pos h2] at ihi | rw [if_neg h2] at ihi
          exact ihi)
  refine e_ci 0 rfl rfl ?_
  iterate 1 refine e_sp rfl rfl rfl ?_
  refine e_ci 0 rfl rfl ?_
  iterate 1 refine e_sp rfl rfl rfl ?_
  try dsimp only
  exact L1
def daF (S : St) (o i : Nat) (a : Int32) : Int32 := a + (if S.1 o i = 0 then 0 else 1)
def daM (S : St) (o : Nat) : Int32 := nF (daF S o) 1024 0
set_option maxHeartbeats 4000000 in
set_option maxRecDepth 40000 in
theorem k_M_dark {l : Launch} {h : Nat} {S : St} {o : Nat} (hB : (SHm h)[o]? = some (.inr (.boolean, 1024))) : KK l (SHm h) (0, 0) m_M_dark [aR o] S (ans (some (aI (daM S o))) S) := by
  refine k_start ok_M_dark (Nat.le_of_ble_eq_true rfl) ?_
  have L1 := e_for (P := fun i => E0 l (SHm h) (0, 0) m_M_dark 4 [some (aR o), some (aI (nF (daF S o) i 0)), some (aI (nI i))] [] (S) (ans (some (aI (daM S o))) S)) (1024) (by
      iterate 1 refine e_sp rfl rfl rfl ?_
      refine e_cs 1024 rfl rfl ?_
      refine e_icge rfl (fun h1 => ?_) (fun h1 => ?_)
      · iterate 1 refine e_sp rfl rfl rfl ?_
        refine e_iret rfl rfl (Nat.le_refl _) (Nat.le_refl _) ?_
        exact ⟨rfl, rfl⟩
      · try dsimp only
        exact absurd (nI_le (Nat.le_refl _) (by decide)) h1) (fun i hi ihi => by
      iterate 1 refine e_sp rfl rfl rfl ?_
      refine e_cs 1024 rfl rfl ?_
      refine e_icge rfl (fun h1 => ?_) (fun h1 => ?_)
      · try dsimp only
        exact absurd h1 (nI_ge hi (by decide))
      · iterate 3 refine e_sp rfl rfl rfl ?_
        refine e_zald rfl (by first | rfl | assumption) (by exact vp_in_nI hi (by decide)) ?_
        rw [nI_clamp (by omega)]
        refine e_ifeq rfl (fun h2 => ?_) (fun h2 => ?_)
        · refine e_ci 0 rfl rfl ?_
          iterate 2 refine e_sp rfl rfl rfl ?_
          refine e_inc 1 rfl rfl rfl rfl ?_
          refine e_goto rfl ?_
          try dsimp only
          rw [nI_1]
          simp only [nF, daF] at ihi
          first | rw [if_pos h2] at ihi | rw [if_neg h2] at ihi
          exact ihi
        · refine e_ci 1 rfl rfl ?_
          refine e_goto rfl ?_
          iterate 2 refine e_sp rfl rfl rfl ?_
          refine e_inc 1 rfl rfl rfl rfl ?_
          refine e_goto rfl ?_
          try dsimp only
          rw [nI_1]
          simp only [nF, daF] at ihi
          first | rw [if_pos h2] at ihi | rw [if_neg h2] at ihi
          exact ihi)
  refine e_ci 0 rfl rfl ?_
  iterate 1 refine e_sp rfl rfl rfl ?_
  refine e_ci 0 rfl rfl ?_
  iterate 1 refine e_sp rfl rfl rfl ?_
  try dsimp only
  exact L1
