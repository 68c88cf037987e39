/-! ordered patterns -/
def rnI (key : Int32) (v a : Nat) : Nat → Nat
  | 0 => a
  | u + 1 => if key ≤ keB (nI u) (nI v) then rnI key v a u else rnI key v a u + 1
def rkN (key : Int32) (w : Nat) : Nat → Nat
  | 0 => 0
  | v + 1 => rnI key v (rkN key w v) w
theorem rkI_nat (key : Int32) (v a : Nat) : ∀ u, rkI key v (nI a) u = nI (rnI key v a u)
  | 0 => rfl
  | u + 1 => by
    simp only [rkI, rnI, rkI_nat key v a u]
    split
    · rfl
    · exact nI_1 _
theorem rkO_nat (key : Int32) (w : Nat) : ∀ v, rkO key w v = nI (rkN key w v)
  | 0 => rfl
  | v + 1 => by
    simp only [rkO, rkN]
    rw [rkO_nat key w v, rkI_nat]
theorem rnI_le (key : Int32) (v a : Nat) : ∀ u, rnI key v a u ≤ a + u
  | 0 => Nat.le_refl _
  | u + 1 => by
    have := rnI_le key v a u
    simp only [rnI]
    split <;> omega
theorem rkN_le (key : Int32) (w : Nat) : ∀ v, rkN key w v ≤ w * v
  | 0 => Nat.zero_le _
  | v + 1 => by
    have h1 := rkN_le key w v
    have h2 := rnI_le key v (rkN key w v) w
    simp only [rkN, Nat.mul_succ]
    omega
/-- from the rank on, cell (x, y) of each pattern is turned -/
def toS (S : St) (x y r : Nat) : Nat → St
  | 0 => S
  | c + 1 => tnB (toS S x y r c) (nI (r + 1 + c)) (nI x) (nI y)
def oxS (S : St) (q y : Nat) : Nat → St
  | 0 => S
  | x + 1 => toS (oxS S q y x) x y (rkN (keB (nI x) (nI y)) q q) (q * q - rkN (keB (nI x) (nI y)) q q)
def oyS (S : St) (q : Nat) : Nat → St
  | 0 => S
  | y + 1 => oxS (oyS S q y) q y q
theorem tnB_1 (S : St) (p x y : Int32) : (tnB S p x y).1 = S.1 := by
  unfold tnB
  split <;> rfl
theorem toS_1 (S : St) (x y r : Nat) : ∀ c, (toS S x y r c).1 = S.1
  | 0 => rfl
  | c + 1 => by simp only [toS]; rw [tnB_1, toS_1 S x y r c]
theorem oxS_1 (S : St) (q y : Nat) : ∀ x, (oxS S q y x).1 = S.1
  | 0 => rfl
  | x + 1 => by simp only [oxS]; rw [toS_1, oxS_1 S q y x]
theorem oyS_1 (S : St) (q : Nat) : ∀ y, (oyS S q y).1 = S.1
  | 0 => rfl
  | y + 1 => by simp only [oyS]; rw [oxS_1, oyS_1 S q y]
def orS (S : St) (q : Nat) : St := oyS (bgB S (nI q) (nI q) (nI (q * q + 1))) q q
set_option maxHeartbeats 4000000 in
set_option maxRecDepth 40000 in
theorem k_B_beginOrdered {l : Launch} {h : Nat} {S : St} {q : Nat} (hq : q ≤ 7) : KK l (SHm h) (2, 49) m_B_beginOrdered [aR 5, aI (nI q)] S (ans none (orS S q)) := by
  refine k_start ok_B_beginOrdered (Nat.le_of_ble_eq_true rfl) ?_
  have hqq : q * q ≤ 49 := Nat.mul_le_mul hq hq
  have hmn : (bgB S (nI q) (nI q) (nI (q * q + 1))).1 5 3 = nI (q * q + 1) := rfl
  have L1 := e_for (P := fun y => ∀ z3 z4, E0 l (SHm h) (2, 49) m_B_beginOrdered 13 [some (aR 5), some (aI (nI q)), some (aI (nI y)), z3, z4] [] (oyS (bgB S (nI q) (nI q) (nI (q * q + 1))) q y) (ans none (orS S q))) (q) (by
      intro z3 z4
      iterate 2 refine e_sp rfl rfl rfl ?_
      refine e_icge rfl (fun h1 => ?_) (fun h1 => ?_)
      · refine e_vret rfl rfl (Nat.le_refl _) (Nat.le_refl _) ?_
        exact ⟨rfl, rfl⟩
      · try dsimp only
        exact absurd (nI_le (Nat.le_refl _) (by omega)) h1) (fun y hy ihy => by
      intro z3 z4
      iterate 2 refine e_sp rfl rfl rfl ?_
      refine e_icge rfl (fun h1 => ?_) (fun h1 => ?_)
      · try dsimp only
        exact absurd h1 (nI_ge hy (by omega))
      · refine e_ci 0 rfl rfl ?_
        iterate 1 refine e_sp rfl rfl rfl ?_
        try dsimp only
        have L2 := e_for (P := fun x => ∀ z4, E0 l (SHm h) (2, 49) m_B_beginOrdered 20 [some (aR 5), some (aI (nI q)), some (aI (nI y)), some (aI (nI x)), z4] [] (oxS (oyS (bgB S (nI q) (nI q) (nI (q * q + 1))) q y) q y x) (ans none (orS S q))) (q) (by
            intro z4
            iterate 2 refine e_sp rfl rfl rfl ?_
            refine e_icge rfl (fun h1 => ?_) (fun h1 => ?_)
            · refine e_inc 1 rfl rfl rfl rfl ?_
              refine e_goto rfl ?_
              try dsimp only
              rw [nI_1]
              exact ihy _ _
            · try dsimp only
              exact absurd (nI_le (Nat.le_refl _) (by omega)) h1) (fun x hx ihx => by
            intro z4
            iterate 2 refine e_sp rfl rfl rfl ?_
            refine e_icge rfl (fun h1 => ?_) (fun h1 => ?_)
            · try dsimp only
              exact absurd h1 (nI_ge hx (by omega))
            · iterate 3 refine e_sp rfl rfl rfl ?_
              refine e_callV1 ok_B_rankOf rfl lk_B_35 (by rfl) (by rfl) (k_B_rankOf (w := q) (g := q) (by rw [oxS_1, oyS_1]; rfl) (by rw [oxS_1, oyS_1]; rfl) (by omega) (by omega)) rfl rfl ⟨Nat.le_of_ble_eq_true rfl, Nat.le_of_ble_eq_true rfl⟩ ⟨Nat.zero_le _, Nat.zero_le _⟩ (Nat.le_of_ble_eq_true rfl) ?_
              refine e_ci 1 rfl rfl ?_
              iterate 2 refine e_sp rfl rfl rfl ?_
              try dsimp only
              rw [rkO_nat, nI_1]
              have hrk := rkN_le (keB (nI x) (nI y)) q q
              have L3 := e_for (P := fun c => E0 l (SHm h) (2, 49) m_B_beginOrdered 35 [some (aR 5), some (aI (nI q)), some (aI (nI y)), some (aI (nI x)), some (aI (nI ((rkN (keB (nI x) (nI y)) q q) + 1 + c)))] [] (toS (oxS (oyS (bgB S (nI q) (nI q) (nI (q * q + 1))) q y) q y x) x y (rkN (keB (nI x) (nI y)) q q) c) (ans none (orS S q))) (q * q - (rkN (keB (nI x) (nI y)) q q)) (by
                  iterate 3 refine e_sp rfl rfl rfl ?_
                  refine e_icge rfl (fun h1 => ?_) (fun h1 => ?_)
                  · refine e_inc 1 rfl rfl rfl rfl ?_
                    refine e_goto rfl ?_
                    try dsimp only
                    rw [nI_1]
                    exact ihx _
                  · try dsimp only
                    rw [toS_1, oxS_1, oyS_1, hmn] at h1
                    exact absurd (nI_le (show q * q + 1 ≤ (rkN (keB (nI x) (nI y)) q q) + 1 + (q * q - (rkN (keB (nI x) (nI y)) q q)) by omega) (by omega)) h1) (fun c hc ihc => by
                  iterate 3 refine e_sp rfl rfl rfl ?_
                  refine e_icge rfl (fun h1 => ?_) (fun h1 => ?_)
                  · try dsimp only
                    rw [toS_1, oxS_1, oyS_1, hmn] at h1
                    exact absurd h1 (nI_ge (show (rkN (keB (nI x) (nI y)) q q) + 1 + c < q * q + 1 by omega) (by omega))
                  · iterate 4 refine e_sp rfl rfl rfl ?_
                    refine e_callV0 ok_B_turn rfl lk_B_39 (by rfl) (by rfl) k_B_turn rfl rfl ⟨Nat.le_of_ble_eq_true rfl, Nat.le_of_ble_eq_true rfl⟩ ⟨Nat.zero_le _, Nat.zero_le _⟩ (Nat.le_of_ble_eq_true rfl) ?_
                    refine e_inc 1 rfl rfl rfl rfl ?_
                    refine e_goto rfl ?_
                    try dsimp only
                    rw [nI_1]
                    exact ihc)
              exact L3)
        exact L2 _)
  iterate 6 refine e_sp rfl rfl rfl ?_
  refine e_ci 1 rfl rfl ?_
  iterate 1 refine e_sp rfl rfl rfl ?_
  dsimp only
  rw [show nI q * nI q + 1 = nI (q * q + 1) by rw [pk_mul, nI_1]]
  refine e_callV0 ok_B_begin rfl lk_B_31 (by rfl) (by rfl) k_B_begin rfl rfl ⟨Nat.le_of_ble_eq_true rfl, Nat.le_of_ble_eq_true rfl⟩ ⟨Nat.zero_le _, Nat.zero_le _⟩ (Nat.le_of_ble_eq_true rfl) ?_
  refine e_ci 0 rfl rfl ?_
  iterate 1 refine e_sp rfl rfl rfl ?_
  try dsimp only
  exact L1 _ _
