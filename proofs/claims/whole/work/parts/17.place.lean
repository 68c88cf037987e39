/-! all places, row by row -/
def pI {σ : Type} (f : Nat → Nat → σ → σ) (j : Nat) : Nat → σ → σ
  | 0, s => s
  | i + 1, s => f i j (pI f j i s)
def pO {σ : Type} (f : Nat → Nat → σ → σ) (c : Nat) : Nat → σ → σ
  | 0, s => s
  | j + 1, s => pI f j c (pO f c j s)
theorem pI_inv {σ : Type} {f : Nat → Nat → σ → σ} {j : Nat} (I : σ → Prop) (hf : ∀ i s, I s → I (f i j s)) : ∀ i s, I s → I (pI f j i s)
  | 0, _, h => h
  | i + 1, s, h => hf i _ (pI_inv I hf i s h)
theorem pO_inv {σ : Type} {f : Nat → Nat → σ → σ} {c : Nat} (I : σ → Prop) (hf : ∀ i j s, I s → I (f i j s)) : ∀ j s, I s → I (pO f c j s)
  | 0, _, h => h
  | j + 1, s, h => pI_inv I (fun i => hf i j) c _ (pO_inv I hf j s h)
/-! HalftoneRegions, inside -/
def ouH (S : St) (i j : Int32) : Int32 := if S.1 0 0 ≤ lfL S i j then 1 else if lfL S i j + S.1 5 1 ≤ 0 then 1 else if S.1 0 1 ≤ tpL S i j then 1 else if 0 < tpL S i j + S.1 5 2 then 0 else 1
def skH (S : St) (i j : Int32) : Int32 := if S.1 0 13 = 1 then (if ouH S i j = 0 then 0 else 1) else 0
def poF (S : St) (i j : Nat) (a : Int32) : Int32 := if ouH S (nI i) (nI j) = 0 then a else a + 1
def poH (S : St) (c r : Nat) : Int32 := pO (poF S) c r 0
def cwR (S : St) (w : Int32) : Int32 := if w = 0 then S.1 0 11 else if w = 1 then S.1 0 12 else S.1 0 13
def cwS9 (S : St) (w v : Int32) : St := if w = 0 then puI S 0 11 v else if w = 1 then puI S 0 12 v else puI S 0 13 v
def cuH (S : St) (x : Int32) : Int32 := mvd ((1 : Int32) <<< (S.1 5 1 &&& 31) - 1) x &&& S.1 1 1
def coH (o line laid cols : Int32) : Int32 := if o = 1 then line &&& (laid ||| (cols ^^^ (-1))) else if o = 2 then line ^^^ laid else if o = 3 then line ^^^ laid ^^^ cols else if o = 4 then line &&& (cols ^^^ (-1)) ||| laid else line ||| laid
/-- the rows that a pattern covers: the first, and behind the last -/
def raH (S : St) (i j : Int32) : Nat := (if 0 < tpL S i j then tpL S i j else 0).toNatClampNeg
def rbH (S : St) (i j : Int32) : Nat := (if tpL S i j + S.1 5 2 < S.1 0 1 then tpL S i j + S.1 5 2 else S.1 0 1).toNatClampNeg
def duA (S : St) (h : Nat) (cols : Int32) (a : Nat) : Nat → Int32
  | 0 => 0
  | n + 1 => duA S h cols a n + bcI (lnS S 2 h (nI (a + n)) &&& cols)
def duH (S : St) (h : Nat) (i j : Int32) : Int32 := if ouH S i j = 0 then duA S h (cuH S (lfL S i j)) (raH S i j) (rbH S i j - raH S i j) else 0
def la1 (S : St) (h : Nat) (pat left top cols y : Int32) : St := clS S 4 h (S.1 3 1) y (coH (S.1 0 11) (lnS S 4 h y) (mvd (liB S pat (y - top)) left &&& cols) cols)
def laA (S : St) (h : Nat) (pat left top cols : Int32) (a : Nat) : Nat → St
  | 0 => S
  | n + 1 => la1 (laA S h pat left top cols a n) h pat left top cols (nI (a + n))
def laH (S : St) (h : Nat) (i j : Int32) : St := laA S h (grL S i j) (lfL S i j) (tpL S i j) (cuH S (lfL S i j)) (raH S i j) (rbH S i j - raH S i j)
theorem clS_o (S : St) (q h : Nat) (mk y b : Int32) (o : Nat) (ho : o ≠ q) : (clS S q h mk y b).1 o = S.1 o ∧ (clS S q h mk y b).2 = S.2 := by
  unfold clS
  split
  · exact ⟨rfl, rfl⟩
  · exact ⟨pt_n ho, rfl⟩
theorem laA_o (S : St) (h : Nat) (pat left top cols : Int32) (a o : Nat) (ho : o ≠ 4) : ∀ n, (laA S h pat left top cols a n).1 o = S.1 o ∧ (laA S h pat left top cols a n).2 = S.2
  | 0 => ⟨rfl, rfl⟩
  | n + 1 => by
    obtain ⟨e1, e2⟩ := laA_o S h pat left top cols a o ho n
    obtain ⟨e3, e4⟩ := clS_o (laA S h pat left top cols a n) 4 h ((laA S h pat left top cols a n).1 3 1) (nI (a + n)) (coH ((laA S h pat left top cols a n).1 0 11) (lnS (laA S h pat left top cols a n) 4 h (nI (a + n))) (mvd (liB (laA S h pat left top cols a n) pat (nI (a + n) - top)) left &&& cols) cols) o ho
    exact ⟨e3.trans e1, e4.trans e2⟩
theorem ou_0 {S : St} {i j : Int32} (h : ouH S i j = 0) : ¬ S.1 0 0 ≤ lfL S i j ∧ ¬ lfL S i j + S.1 5 1 ≤ 0 ∧ ¬ S.1 0 1 ≤ tpL S i j ∧ 0 < tpL S i j + S.1 5 2 := by
  unfold ouH at h
  by_cases h1 : S.1 0 0 ≤ lfL S i j
  · rw [if_pos h1] at h; exact absurd h (by decide)
  rw [if_neg h1] at h
  by_cases h2 : lfL S i j + S.1 5 1 ≤ 0
  · rw [if_pos h2] at h; exact absurd h (by decide)
  rw [if_neg h2] at h
  by_cases h3 : S.1 0 1 ≤ tpL S i j
  · rw [if_pos h3] at h; exact absurd h (by decide)
  rw [if_neg h3] at h
  by_cases h4 : 0 < tpL S i j + S.1 5 2
  · exact ⟨h1, h2, h3, h4⟩
  · rw [if_neg h4] at h; exact absurd h (by decide)
theorem ra_nI (S : St) (i j : Int32) : (if 0 < tpL S i j then tpL S i j else 0) = nI (raH S i j) ∧ raH S i j < 2 ^ 31 := by
  unfold raH
  refine nI_tn ?_
  split
  next h => exact fun h2 => absurd (Int32.lt_trans h h2) (by decide)
  next => decide
theorem rb_nI {S : St} {i j : Int32} {hh : Nat} (h0 : S.1 0 1 = nI hh) (h1 : hh < 2 ^ 31) (h : ouH S i j = 0) : (if tpL S i j + S.1 5 2 < S.1 0 1 then tpL S i j + S.1 5 2 else S.1 0 1) = nI (rbH S i j) ∧ rbH S i j < 2 ^ 31 := by
  unfold rbH
  refine nI_tn ?_
  split
  · exact fun h2 => absurd (Int32.lt_trans (ou_0 h).2.2.2 h2) (by decide)
  · rw [h0]; exact nI_pos h1
set_option maxHeartbeats 4000000 in
set_option maxRecDepth 40000 in
theorem k_H_isOutside {l : Launch} {h : Nat} {S : St} {i j : Int32}  : KK l (SHm h) (1, 22) m_H_isOutside [aR 0, aI i, aI j] S (ans (some (aI (ouH S i j))) S) := by
  refine k_start ok_H_isOutside (Nat.le_of_ble_eq_true rfl) ?_
  iterate 4 refine e_sp rfl rfl rfl ?_
  refine e_callV1 ok_L_leftOf rfl lk_H_156 (by rfl) (by rfl) k_L_leftOf rfl rfl ⟨Nat.le_of_ble_eq_true rfl, Nat.le_of_ble_eq_true rfl⟩ ⟨Nat.zero_le _, Nat.zero_le _⟩ (Nat.le_of_ble_eq_true rfl) ?_
  iterate 5 refine e_sp rfl rfl rfl ?_
  refine e_callV1 ok_L_topOf rfl lk_H_159 (by rfl) (by rfl) k_L_topOf rfl rfl ⟨Nat.le_of_ble_eq_true rfl, Nat.le_of_ble_eq_true rfl⟩ ⟨Nat.zero_le _, Nat.zero_le _⟩ (Nat.le_of_ble_eq_true rfl) ?_
  iterate 4 refine e_sp rfl rfl rfl ?_
  refine e_icge rfl (fun h1 => ?_) (fun h1 => ?_)
  · refine e_ci 1 rfl rfl ?_
    refine e_goto rfl ?_
    refine e_zret rfl rfl (Nat.le_refl _) (Nat.le_refl _) (by decide) ?_
    exact ⟨by simp [ouH, h1], rfl⟩
  · iterate 5 refine e_sp rfl rfl rfl ?_
    refine e_ifle rfl (fun h2 => ?_) (fun h2 => ?_)
    · refine e_ci 1 rfl rfl ?_
      refine e_goto rfl ?_
      refine e_zret rfl rfl (Nat.le_refl _) (Nat.le_refl _) (by decide) ?_
      exact ⟨by simp [ouH, h1, h2], rfl⟩
    · iterate 3 refine e_sp rfl rfl rfl ?_
      refine e_icge rfl (fun h3 => ?_) (fun h3 => ?_)
      · refine e_ci 1 rfl rfl ?_
        refine e_goto rfl ?_
        refine e_zret rfl rfl (Nat.le_refl _) (Nat.le_refl _) (by decide) ?_
        exact ⟨by simp [ouH, h1, h2, h3], rfl⟩
      · iterate 5 refine e_sp rfl rfl rfl ?_
        refine e_ifgt rfl (fun h4 => ?_) (fun h4 => ?_)
        · refine e_ci 0 rfl rfl ?_
          refine e_zret rfl rfl (Nat.le_refl _) (Nat.le_refl _) (by decide) ?_
          exact ⟨by simp [ouH, h1, h2, h3, h4], rfl⟩
        · refine e_ci 1 rfl rfl ?_
          refine e_goto rfl ?_
          refine e_zret rfl rfl (Nat.le_refl _) (Nat.le_refl _) (by decide) ?_
          exact ⟨by simp [ouH, h1, h2, h3, h4], rfl⟩
set_option maxHeartbeats 4000000 in
set_option maxRecDepth 40000 in
theorem k_H_isSkipped {l : Launch} {h : Nat} {S : St} {i j : Int32}  : KK l (SHm h) (2, 46) m_H_isSkipped [aR 0, aI i, aI j] S (ans (some (aI (skH S i j))) S) := by
  refine k_start ok_H_isSkipped (Nat.le_of_ble_eq_true rfl) ?_
  iterate 2 refine e_sp rfl rfl rfl ?_
  refine e_ci 1 rfl rfl ?_
  refine e_icne rfl (fun h1 => ?_) (fun h1 => ?_)
  · refine e_ci 0 rfl rfl ?_
    refine e_zret rfl rfl (Nat.le_refl _) (Nat.le_refl _) (by decide) ?_
    exact ⟨by simp [skH, h1], rfl⟩
  · iterate 3 refine e_sp rfl rfl rfl ?_
    refine e_callV1 ok_H_isOutside rfl lk_H_162 (by rfl) (by rfl) k_H_isOutside rfl rfl ⟨Nat.le_of_ble_eq_true rfl, Nat.le_of_ble_eq_true rfl⟩ ⟨Nat.zero_le _, Nat.zero_le _⟩ (Nat.le_of_ble_eq_true rfl) ?_
    refine e_ifeq rfl (fun h2 => ?_) (fun h2 => ?_)
    · refine e_ci 0 rfl rfl ?_
      refine e_zret rfl rfl (Nat.le_refl _) (Nat.le_refl _) (by decide) ?_
      exact ⟨by simp [skH, h1, h2], rfl⟩
    · refine e_ci 1 rfl rfl ?_
      refine e_goto rfl ?_
      refine e_zret rfl rfl (Nat.le_refl _) (Nat.le_refl _) (by decide) ?_
      exact ⟨by simp [skH, h1, h2], rfl⟩
set_option maxHeartbeats 4000000 in
set_option maxRecDepth 40000 in
theorem k_H_changeWay {l : Launch} {h : Nat} {S : St} {w v : Int32}  : KK l (SHm h) (0, 0) m_H_changeWay [aR 0, aI w, aI v] S (ans (some (aI (cwR S w))) (cwS9 S w v)) := by
  refine k_start ok_H_changeWay (Nat.le_of_ble_eq_true rfl) ?_
  iterate 1 refine e_sp rfl rfl rfl ?_
  refine e_ifne rfl (fun h1 => ?_) (fun h1 => ?_)
  · iterate 1 refine e_sp rfl rfl rfl ?_
    refine e_ci 1 rfl rfl ?_
    refine e_icne rfl (fun h2 => ?_) (fun h2 => ?_)
    · iterate 7 refine e_sp rfl rfl rfl ?_
      refine e_iret rfl rfl (Nat.le_refl _) (Nat.le_refl _) ?_
      exact ⟨by simp [cwR, h1, h2], by simp [cwS9, h1, h2]⟩
    · iterate 6 refine e_sp rfl rfl rfl ?_
      refine e_goto rfl ?_
      iterate 1 refine e_sp rfl rfl rfl ?_
      refine e_iret rfl rfl (Nat.le_refl _) (Nat.le_refl _) ?_
      exact ⟨by simp [cwR, h1, h2], by simp [cwS9, h1, h2]⟩
  · iterate 6 refine e_sp rfl rfl rfl ?_
    refine e_goto rfl ?_
    iterate 1 refine e_sp rfl rfl rfl ?_
    refine e_iret rfl rfl (Nat.le_refl _) (Nat.le_refl _) ?_
    exact ⟨by simp [cwR, h1], by simp [cwS9, h1]⟩
set_option maxHeartbeats 4000000 in
set_option maxRecDepth 40000 in
theorem k_H_columnsUnder {l : Launch} {h : Nat} {S : St} {x : Int32}  : KK l (SHm h) (1, 21) m_H_columnsUnder [aR 0, aI x] S (ans (some (aI (cuH S x))) S) := by
  refine k_start ok_H_columnsUnder (Nat.le_of_ble_eq_true rfl) ?_
  refine e_ci 1 rfl rfl ?_
  iterate 4 refine e_sp rfl rfl rfl ?_
  refine e_ci 1 rfl rfl ?_
  iterate 2 refine e_sp rfl rfl rfl ?_
  refine e_callS1 ok_H_moved rfl lk_H_315 k_H_moved rfl rfl ⟨Nat.le_of_ble_eq_true rfl, Nat.le_of_ble_eq_true rfl⟩ ⟨Nat.zero_le _, Nat.zero_le _⟩ (Nat.le_of_ble_eq_true rfl) ?_
  iterate 4 refine e_sp rfl rfl rfl ?_
  refine e_iret rfl rfl (Nat.le_refl _) (Nat.le_refl _) ?_
  exact ⟨rfl, rfl⟩
set_option maxHeartbeats 4000000 in
set_option maxRecDepth 40000 in
theorem k_H_combined {l : Launch} {h : Nat} {S : St} {a b c : Int32} : KK l (SHm h) (0, 0) m_H_combined [aR 0, aI a, aI b, aI c] S (ans (some (aI (coH (S.1 0 11) a b c))) S) := by
  refine k_start ok_H_combined (Nat.le_of_ble_eq_true rfl) ?_
  iterate 2 refine e_sp rfl rfl rfl ?_
  by_cases h1 : S.1 0 11 = 1
  · rw [h1]
    refine e_tswI (off := 32) (tgt := 36) rfl (by decide) (by decide) (by decide) (by decide) ?_
    iterate 3 refine e_sp rfl rfl rfl ?_
    refine e_ci (-1) rfl rfl ?_
    iterate 3 refine e_sp rfl rfl rfl ?_
    refine e_iret rfl rfl (Nat.le_refl _) (Nat.le_refl _) ?_
    exact ⟨by simp [coH], rfl⟩
  by_cases h2 : S.1 0 11 = 2
  · rw [h2]
    refine e_tswI (off := 40) (tgt := 44) rfl (by decide) (by decide) (by decide) (by decide) ?_
    iterate 3 refine e_sp rfl rfl rfl ?_
    refine e_iret rfl rfl (Nat.le_refl _) (Nat.le_refl _) ?_
    exact ⟨by simp [coH, h1], rfl⟩
  by_cases h3 : S.1 0 11 = 3
  · rw [h3]
    refine e_tswI (off := 44) (tgt := 48) rfl (by decide) (by decide) (by decide) (by decide) ?_
    iterate 5 refine e_sp rfl rfl rfl ?_
    refine e_iret rfl rfl (Nat.le_refl _) (Nat.le_refl _) ?_
    exact ⟨by simp [coH, h1, h2], rfl⟩
  by_cases h4 : S.1 0 11 = 4
  · rw [h4]
    refine e_tswI (off := 50) (tgt := 54) rfl (by decide) (by decide) (by decide) (by decide) ?_
    iterate 2 refine e_sp rfl rfl rfl ?_
    refine e_ci (-1) rfl rfl ?_
    iterate 4 refine e_sp rfl rfl rfl ?_
    refine e_iret rfl rfl (Nat.le_refl _) (Nat.le_refl _) ?_
    exact ⟨by simp [coH, h1, h2, h3], rfl⟩
  have hn : ∀ k : Int32, ¬ S.1 0 11 = k → (S.1 0 11).toInt ≠ k.toInt := fun k hk e => hk (Int32.toInt_inj.mp e)
  have g1 := hn 1 h1
  have g2 := hn 2 h2
  have g3 := hn 3 h3
  have g4 := hn 4 h4
  rw [show (1 : Int32).toInt = 1 from rfl] at g1
  rw [show (2 : Int32).toInt = 2 from rfl] at g2
  rw [show (3 : Int32).toInt = 3 from rfl] at g3
  rw [show (4 : Int32).toInt = 4 from rfl] at g4
  refine e_tswO (tgt := 62) rfl (by omega) (by decide) ?_
  iterate 3 refine e_sp rfl rfl rfl ?_
  refine e_iret rfl rfl (Nat.le_refl _) (Nat.le_refl _) ?_
  exact ⟨by simp [coH, h1, h2, h3, h4], rfl⟩
set_option maxHeartbeats 4000000 in
set_option maxRecDepth 40000 in
theorem k_H_placesOutside {l : Launch} {h : Nat} {S : St} {c r : Nat} (hc : S.1 7 1 = nI c) (hr : S.1 7 2 = nI r) (hc2 : c < 2 ^ 31) (hr2 : r < 2 ^ 31) : KK l (SHm h) (2, 46) m_H_placesOutside [aR 0] S (ans (some (aI (poH S c r))) S) := by
  refine k_start ok_H_placesOutside (Nat.le_of_ble_eq_true rfl) ?_
  have L1 := e_for (P := fun j => ∀ z3, E0 l (SHm h) (2, 46) m_H_placesOutside 4 [some (aR 0), some (aI (pO (poF S) c j 0)), some (aI (nI j)), z3] [] (S) (ans (some (aI (poH S c r))) S)) (r) (by
      intro z3
      iterate 4 refine e_sp rfl rfl rfl ?_
      refine e_icge rfl (fun h1 => ?_) (fun h1 => ?_)
      · iterate 1 refine e_sp rfl rfl rfl ?_
        refine e_iret rfl rfl (Nat.le_refl _) (Nat.le_refl _) ?_
        exact ⟨rfl, rfl⟩
      · try dsimp only
        rw [hr] at h1
        exact absurd (nI_le (Nat.le_refl _) hr2) h1) (fun j hj ihj => by
      intro z3
      iterate 4 refine e_sp rfl rfl rfl ?_
      refine e_icge rfl (fun h1 => ?_) (fun h1 => ?_)
      · try dsimp only
        rw [hr] at h1
        exact absurd h1 (nI_ge hj hr2)
      · refine e_ci 0 rfl rfl ?_
        iterate 1 refine e_sp rfl rfl rfl ?_
        try dsimp only
        have L2 := e_for (P := fun i => E0 l (SHm h) (2, 46) m_H_placesOutside 17 [some (aR 0), some (aI (pI (poF S) j i (pO (poF S) c j 0))), some (aI (nI j)), some (aI (nI i))] [] (S) (ans (some (aI (poH S c r))) S)) (c) (by
            iterate 4 refine e_sp rfl rfl rfl ?_
            refine e_icge rfl (fun h1 => ?_) (fun h1 => ?_)
            · refine e_inc 1 rfl rfl rfl rfl ?_
              refine e_goto rfl ?_
              try dsimp only
              rw [nI_1]
              exact ihj _
            · try dsimp only
              rw [hc] at h1
              exact absurd (nI_le (Nat.le_refl _) hc2) h1) (fun i hi ihi => by
            iterate 4 refine e_sp rfl rfl rfl ?_
            refine e_icge rfl (fun h1 => ?_) (fun h1 => ?_)
            · try dsimp only
              rw [hc] at h1
              exact absurd h1 (nI_ge hi hc2)
            · iterate 3 refine e_sp rfl rfl rfl ?_
              refine e_callV1 ok_H_isOutside rfl lk_H_162 (by rfl) (by rfl) k_H_isOutside rfl rfl ⟨Nat.le_of_ble_eq_true rfl, Nat.le_of_ble_eq_true rfl⟩ ⟨Nat.zero_le _, Nat.zero_le _⟩ (Nat.le_of_ble_eq_true rfl) ?_
              refine e_ifeq rfl (fun h2 => ?_) (fun h2 => ?_)
              · refine e_inc 1 rfl rfl rfl rfl ?_
                refine e_goto rfl ?_
                try dsimp only
                rw [nI_1]
                simp only [pI, poF, h2, if_true, if_false] at ihi
                exact ihi
              · refine e_inc 1 rfl rfl rfl rfl ?_
                refine e_inc 1 rfl rfl rfl rfl ?_
                refine e_goto rfl ?_
                try dsimp only
                rw [nI_1]
                simp only [pI, poF, h2, if_true, if_false] at ihi
                exact ihi)
        exact L2)
  refine e_ci 0 rfl rfl ?_
  iterate 1 refine e_sp rfl rfl rfl ?_
  refine e_ci 0 rfl rfl ?_
  iterate 1 refine e_sp rfl rfl rfl ?_
  try dsimp only
  exact L1 _
set_option maxHeartbeats 4000000 in
set_option maxRecDepth 40000 in
theorem k_H_darkUnder {l : Launch} {h : Nat} {S : St} {i j : Int32} (hh : h < 2 ^ 31) (h0 : S.1 0 1 = nI h) : KK l (SHm h) (2, 46) m_H_darkUnder [aR 0, aI i, aI j] S (ans (some (aI (duH S h i j))) S) := by
  refine k_start ok_H_darkUnder (Nat.le_of_ble_eq_true rfl) ?_
  have k2 : ouH S i j = 0 → E0 l (SHm h) (2, 46) m_H_darkUnder 11 (lvIn [aR 0, aI i, aI j] 7) [] S (ans (some (aI (duH S h i j))) S) := by
    intro hou
    obtain ⟨ha, ha2⟩ := ra_nI S i j
    obtain ⟨hb, hb2⟩ := rb_nI h0 hh hou
    have hle : nI (rbH S i j) ≤ nI ((raH S i j) + ((rbH S i j) - (raH S i j))) := nI_le (by omega) (by omega)
    have hge : ∀ n, n < (rbH S i j) - (raH S i j) → ¬ nI (rbH S i j) ≤ nI ((raH S i j) + n) := fun n hn => nI_ge (by omega) hb2
    have L := e_for (P := fun n => E0 l (SHm h) (2, 46) m_H_darkUnder 46 [some (aR 0), some (aI i), some (aI j), some (aI (tpL S i j)), some (aI (cuH S (lfL S i j))), some (aI (duA S h (cuH S (lfL S i j)) (raH S i j) n)), some (aI (nI ((raH S i j) + n)))] [] (S) (ans (some (aI (duH S h i j))) S)) ((rbH S i j) - (raH S i j)) (by
        iterate 8 refine e_sp rfl rfl rfl ?_
        refine e_mmin rfl mm_H_9 (Nat.le_of_ble_eq_true rfl) (Nat.le_of_ble_eq_true rfl) ⟨Nat.zero_le _, Nat.zero_le _⟩ ?_
        refine e_icge rfl (fun h1 => ?_) (fun h1 => ?_)
        · iterate 1 refine e_sp rfl rfl rfl ?_
          refine e_iret rfl rfl (Nat.le_refl _) (Nat.le_refl _) ?_
          exact ⟨by rw [duH, if_pos hou], rfl⟩
        · try dsimp only
          rw [hb] at h1
          exact absurd (hle) h1) (fun n hn ihn => by
        iterate 8 refine e_sp rfl rfl rfl ?_
        refine e_mmin rfl mm_H_9 (Nat.le_of_ble_eq_true rfl) (Nat.le_of_ble_eq_true rfl) ⟨Nat.zero_le _, Nat.zero_le _⟩ ?_
        refine e_icge rfl (fun h1 => ?_) (fun h1 => ?_)
        · try dsimp only
          rw [hb] at h1
          exact absurd h1 (hge n hn)
        · iterate 4 refine e_sp rfl rfl rfl ?_
          refine e_callV1 ok_S_line rfl lk_H_189 (by rfl) (by rfl) (k_S_line_1 hh) rfl rfl ⟨Nat.le_of_ble_eq_true rfl, Nat.le_of_ble_eq_true rfl⟩ ⟨Nat.zero_le _, Nat.zero_le _⟩ (Nat.le_of_ble_eq_true rfl) ?_
          iterate 2 refine e_sp rfl rfl rfl ?_
          refine e_callS1 ok_JI_bitCount rfl lk_H_310 k_JI_bitCount rfl rfl ⟨Nat.le_of_ble_eq_true rfl, Nat.le_of_ble_eq_true rfl⟩ ⟨Nat.zero_le _, Nat.zero_le _⟩ (Nat.le_of_ble_eq_true rfl) ?_
          iterate 2 refine e_sp rfl rfl rfl ?_
          refine e_inc 1 rfl rfl rfl rfl ?_
          refine e_goto rfl ?_
          try dsimp only
          rw [nI_1]
          exact ihn)
    iterate 4 refine e_sp rfl rfl rfl ?_
    refine e_callV1 ok_L_topOf rfl lk_H_159 (by rfl) (by rfl) k_L_topOf rfl rfl ⟨Nat.le_of_ble_eq_true rfl, Nat.le_of_ble_eq_true rfl⟩ ⟨Nat.zero_le _, Nat.zero_le _⟩ (Nat.le_of_ble_eq_true rfl) ?_
    iterate 6 refine e_sp rfl rfl rfl ?_
    refine e_callV1 ok_L_leftOf rfl lk_H_156 (by rfl) (by rfl) k_L_leftOf rfl rfl ⟨Nat.le_of_ble_eq_true rfl, Nat.le_of_ble_eq_true rfl⟩ ⟨Nat.zero_le _, Nat.zero_le _⟩ (Nat.le_of_ble_eq_true rfl) ?_
    refine e_callV1 ok_H_columnsUnder rfl lk_H_307 (by rfl) (by rfl) k_H_columnsUnder rfl rfl ⟨Nat.le_of_ble_eq_true rfl, Nat.le_of_ble_eq_true rfl⟩ ⟨Nat.zero_le _, Nat.zero_le _⟩ (Nat.le_of_ble_eq_true rfl) ?_
    iterate 1 refine e_sp rfl rfl rfl ?_
    refine e_ci 0 rfl rfl ?_
    iterate 1 refine e_sp rfl rfl rfl ?_
    refine e_ci 0 rfl rfl ?_
    iterate 1 refine e_sp rfl rfl rfl ?_
    refine e_mmax rfl mm_H_15 (Nat.le_of_ble_eq_true rfl) (Nat.le_of_ble_eq_true rfl) ⟨Nat.zero_le _, Nat.zero_le _⟩ ?_
    iterate 1 refine e_sp rfl rfl rfl ?_
    try dsimp only
    rw [ha]
    exact L
  iterate 3 refine e_sp rfl rfl rfl ?_
  refine e_callV1 ok_H_isOutside rfl lk_H_162 (by rfl) (by rfl) k_H_isOutside rfl rfl ⟨Nat.le_of_ble_eq_true rfl, Nat.le_of_ble_eq_true rfl⟩ ⟨Nat.zero_le _, Nat.zero_le _⟩ (Nat.le_of_ble_eq_true rfl) ?_
  refine e_ifeq rfl (fun h1 => ?_) (fun h1 => ?_)
  · try dsimp only
    have hou := h1
    exact k2 hou
  · refine e_ci 0 rfl rfl ?_
    refine e_iret rfl rfl (Nat.le_refl _) (Nat.le_refl _) ?_
    exact ⟨by rw [duH, if_neg h1], rfl⟩
set_option maxHeartbeats 4000000 in
set_option maxRecDepth 40000 in
theorem k_H_layPattern {l : Launch} {h : Nat} {S : St} {i j : Int32} (hh : h < 2 ^ 31) (h0 : S.1 0 1 = nI h) (hou : ouH S i j = 0) : KK l (SHm h) (3, 67) m_H_layPattern [aR 0, aI i, aI j] S (ans none (laH S h i j)) := by
  refine k_start ok_H_layPattern (Nat.le_of_ble_eq_true rfl) ?_
  obtain ⟨ha, ha2⟩ := ra_nI S i j
  obtain ⟨hb, hb2⟩ := rb_nI h0 hh hou
  have hle : nI (rbH S i j) ≤ nI ((raH S i j) + ((rbH S i j) - (raH S i j))) := nI_le (by omega) (by omega)
  have hge : ∀ n, n < (rbH S i j) - (raH S i j) → ¬ nI (rbH S i j) ≤ nI ((raH S i j) + n) := fun n hn => nI_ge (by omega) hb2
  have L := e_for (P := fun n => ∀ z8, E0 l (SHm h) (3, 67) m_H_layPattern 47 [some (aR 0), some (aI i), some (aI j), some (aI (lfL S i j)), some (aI (tpL S i j)), some (aI (cuH S (lfL S i j))), some (aI (grL S i j)), some (aI (nI ((raH S i j) + n))), z8] [] ((laA S h (grL S i j) (lfL S i j) (tpL S i j) (cuH S (lfL S i j)) (raH S i j) n)) (ans none (laH S h i j))) ((rbH S i j) - (raH S i j)) (by
      intro z8
      iterate 8 refine e_sp rfl rfl rfl ?_
      refine e_mmin rfl mm_H_9 (Nat.le_of_ble_eq_true rfl) (Nat.le_of_ble_eq_true rfl) ⟨Nat.zero_le _, Nat.zero_le _⟩ ?_
      refine e_icge rfl (fun h1 => ?_) (fun h1 => ?_)
      · refine e_vret rfl rfl (Nat.le_refl _) (Nat.le_refl _) ?_
        exact ⟨rfl, rfl⟩
      · try dsimp only
        rw [(laA_o S h _ _ _ _ _ 0 (by decide) _).1, (laA_o S h _ _ _ _ _ 5 (by decide) _).1, hb] at h1
        exact absurd (hle) h1) (fun n hn ihn => by
      intro z8
      iterate 8 refine e_sp rfl rfl rfl ?_
      refine e_mmin rfl mm_H_9 (Nat.le_of_ble_eq_true rfl) (Nat.le_of_ble_eq_true rfl) ⟨Nat.zero_le _, Nat.zero_le _⟩ ?_
      refine e_icge rfl (fun h1 => ?_) (fun h1 => ?_)
      · try dsimp only
        rw [(laA_o S h _ _ _ _ _ 0 (by decide) _).1, (laA_o S h _ _ _ _ _ 5 (by decide) _).1, hb] at h1
        exact absurd h1 (hge n hn)
      · iterate 6 refine e_sp rfl rfl rfl ?_
        refine e_callV1 ok_B_line rfl lk_H_321 (by rfl) (by rfl) k_B_line rfl rfl ⟨Nat.le_of_ble_eq_true rfl, Nat.le_of_ble_eq_true rfl⟩ ⟨Nat.zero_le _, Nat.zero_le _⟩ (Nat.le_of_ble_eq_true rfl) ?_
        iterate 1 refine e_sp rfl rfl rfl ?_
        refine e_callS1 ok_H_moved rfl lk_H_315 k_H_moved rfl rfl ⟨Nat.le_of_ble_eq_true rfl, Nat.le_of_ble_eq_true rfl⟩ ⟨Nat.zero_le _, Nat.zero_le _⟩ (Nat.le_of_ble_eq_true rfl) ?_
        iterate 10 refine e_sp rfl rfl rfl ?_
        refine e_callV1 ok_S_line rfl lk_H_189 (by rfl) (by rfl) (k_S_line_3 hh) rfl rfl ⟨Nat.le_of_ble_eq_true rfl, Nat.le_of_ble_eq_true rfl⟩ ⟨Nat.zero_le _, Nat.zero_le _⟩ (Nat.le_of_ble_eq_true rfl) ?_
        iterate 2 refine e_sp rfl rfl rfl ?_
        refine e_callV1 ok_H_combined rfl lk_H_323 (by rfl) (by rfl) k_H_combined rfl rfl ⟨Nat.le_of_ble_eq_true rfl, Nat.le_of_ble_eq_true rfl⟩ ⟨Nat.zero_le _, Nat.zero_le _⟩ (Nat.le_of_ble_eq_true rfl) ?_
        refine e_callV1 ok_S_changeLine rfl lk_H_186 (by rfl) (by rfl) (k_S_changeLine_3 hh) rfl rfl ⟨Nat.le_of_ble_eq_true rfl, Nat.le_of_ble_eq_true rfl⟩ ⟨Nat.zero_le _, Nat.zero_le _⟩ (Nat.le_of_ble_eq_true rfl) ?_
        iterate 1 refine e_sp rfl rfl rfl ?_
        refine e_inc 1 rfl rfl rfl rfl ?_
        refine e_goto rfl ?_
        try dsimp only
        rw [nI_1]
        exact ihn _)
  iterate 4 refine e_sp rfl rfl rfl ?_
  refine e_callV1 ok_L_leftOf rfl lk_H_156 (by rfl) (by rfl) k_L_leftOf rfl rfl ⟨Nat.le_of_ble_eq_true rfl, Nat.le_of_ble_eq_true rfl⟩ ⟨Nat.zero_le _, Nat.zero_le _⟩ (Nat.le_of_ble_eq_true rfl) ?_
  iterate 5 refine e_sp rfl rfl rfl ?_
  refine e_callV1 ok_L_topOf rfl lk_H_159 (by rfl) (by rfl) k_L_topOf rfl rfl ⟨Nat.le_of_ble_eq_true rfl, Nat.le_of_ble_eq_true rfl⟩ ⟨Nat.zero_le _, Nat.zero_le _⟩ (Nat.le_of_ble_eq_true rfl) ?_
  iterate 3 refine e_sp rfl rfl rfl ?_
  refine e_callV1 ok_H_columnsUnder rfl lk_H_307 (by rfl) (by rfl) k_H_columnsUnder rfl rfl ⟨Nat.le_of_ble_eq_true rfl, Nat.le_of_ble_eq_true rfl⟩ ⟨Nat.zero_le _, Nat.zero_le _⟩ (Nat.le_of_ble_eq_true rfl) ?_
  iterate 5 refine e_sp rfl rfl rfl ?_
  refine e_callV1 ok_L_greyOf rfl lk_H_174 (by rfl) (by rfl) k_L_greyOf rfl rfl ⟨Nat.le_of_ble_eq_true rfl, Nat.le_of_ble_eq_true rfl⟩ ⟨Nat.zero_le _, Nat.zero_le _⟩ (Nat.le_of_ble_eq_true rfl) ?_
  iterate 1 refine e_sp rfl rfl rfl ?_
  refine e_ci 0 rfl rfl ?_
  iterate 1 refine e_sp rfl rfl rfl ?_
  refine e_mmax rfl mm_H_15 (Nat.le_of_ble_eq_true rfl) (Nat.le_of_ble_eq_true rfl) ⟨Nat.zero_le _, Nat.zero_le _⟩ ?_
  iterate 1 refine e_sp rfl rfl rfl ?_
  try dsimp only
  rw [ha]
  exact L _
