/-! PatternSet -/
theorem wi_01 (a b c : Int32) : wi a b c = 0 ∨ wi a b c = 1 := by
  unfold wi
  split
  · exact Or.inl rfl
  · split
    · exact Or.inl rfl
    · exact Or.inr rfl
def hpB (S : St) (p : Int32) : Int32 := wi p 0 (S.1 5 3 - 1)
def hsB (S : St) (p x y : Int32) : Int32 := if hpB S p = 0 then 0 else if wi x 0 (S.1 5 1 - 1) = 0 then 0 else if wi y 0 (S.1 5 2 - 1) = 0 then 0 else 1
def liB (S : St) (p y : Int32) : Int32 := if wi p 0 (nI 64 - 1) = 0 then 0 else (ushL (S.2 6 p.toNatClampNeg) (8 * y)).toInt32 &&& 255
def idB (S : St) (p x y : Int32) : Int32 := if liB S p y >>> (x &&& 31) &&& 1 = 1 then 1 else 0
def tnB (S : St) (p x y : Int32) : St := if wi p 0 (nI 64 - 1) = 0 then S else puL S 6 p.toNatClampNeg (S.2 6 p.toNatClampNeg ^^^ (1 : Int64) <<< ((8 * y + x).toInt64 &&& 63))
def keB (x y : Int32) : Int32 :=
  let a := (0 : Int32) <<< (2 &&& 31) ||| ((x ^^^ y) >>> (0 &&& 31) &&& 1) <<< (1 &&& 31) ||| (y >>> (0 &&& 31) &&& 1)
  let b := a <<< (2 &&& 31) ||| ((x ^^^ y) >>> (1 &&& 31) &&& 1) <<< (1 &&& 31) ||| (y >>> (1 &&& 31) &&& 1)
  b <<< (2 &&& 31) ||| ((x ^^^ y) >>> (2 &&& 31) &&& 1) <<< (1 &&& 31) ||| (y >>> (2 &&& 31) &&& 1)
def rkI (key : Int32) (v : Nat) (a : Int32) : Nat → Int32
  | 0 => a
  | u + 1 => if key ≤ keB (nI u) (nI v) then rkI key v a u else rkI key v a u + 1
def rkO (key : Int32) (w : Nat) : Nat → Int32
  | 0 => 0
  | v + 1 => rkI key v (rkO key w v) w
def bgB (S : St) (w h m : Int32) : St := flL (puI (puI (puI S 5 1 w) 5 2 h) 5 3 m) 6 0 64
/-- how many bits a number has -/
def bl : Nat → Nat → Nat
  | 0, _ => 0
  | f + 1, m => if m = 0 then 0 else bl f (m / 2) + 1
def faB (S : St) (p e : Int32) : Int32 := if bcL (S.2 6 p.toNatClampNeg) - e ≤ 0 then (-2) * (bcL (S.2 6 p.toNatClampNeg) - e) else 2 * (bcL (S.2 6 p.toNatClampNeg) - e) + 1
def neB (S : St) (e : Int32) : Nat → Nat
  | 0 => 0
  | i + 1 => if faB S (nI (neB S e i)) e ≤ faB S (nI (i + 1)) e then neB S e i else i + 1
theorem neB_le (S : St) (e : Int32) : ∀ i, neB S e i ≤ i
  | 0 => Nat.le_refl _
  | i + 1 => by
    unfold neB
    split
    · exact Nat.le_succ_of_le (neB_le S e i)
    · exact Nat.le_refl _
set_option maxHeartbeats 4000000 in
set_option maxRecDepth 40000 in
theorem k_B_begin {l : Launch} {h : Nat} {S : St} {a b c : Int32}  : KK l (SHm h) (1, 24) m_B_begin [aR 5, aI a, aI b, aI c] S (ans none (bgB S a b c)) := by
  refine k_start ok_B_begin (Nat.le_of_ble_eq_true rfl) ?_
  iterate 11 refine e_sp rfl rfl rfl ?_
  refine e_cl 0 rfl rfl ?_
  refine e_callS0 ok_JA_fill2 rfl lk_B_25 (k_JA_fill2 (by rfl) (by decide)) rfl rfl ⟨Nat.le_of_ble_eq_true rfl, Nat.le_of_ble_eq_true rfl⟩ ⟨Nat.zero_le _, Nat.zero_le _⟩ (Nat.le_of_ble_eq_true rfl) ?_
  refine e_vret rfl rfl (Nat.le_refl _) (Nat.le_refl _) ?_
  exact ⟨rfl, rfl⟩
set_option maxHeartbeats 4000000 in
set_option maxRecDepth 40000 in
theorem k_B_hasPattern {l : Launch} {h : Nat} {S : St} {p : Int32}  : KK l (SHm h) (1, 22) m_B_hasPattern [aR 5, aI p] S (ans (some (aI (hpB S p))) S) := by
  refine k_start ok_B_hasPattern (Nat.le_of_ble_eq_true rfl) ?_
  iterate 1 refine e_sp rfl rfl rfl ?_
  refine e_ci 0 rfl rfl ?_
  iterate 2 refine e_sp rfl rfl rfl ?_
  refine e_ci 1 rfl rfl ?_
  iterate 1 refine e_sp rfl rfl rfl ?_
  refine e_callN1 ok_H_isWithin rfl lk_B_45 k_H_isWithin rfl rfl ⟨Nat.le_of_ble_eq_true rfl, Nat.le_of_ble_eq_true rfl⟩ ⟨Nat.zero_le _, Nat.zero_le _⟩ (Nat.le_of_ble_eq_true rfl) ?_
  refine e_zret rfl rfl (Nat.le_refl _) (Nat.le_refl _) (by exact wi_01 _ _ _) ?_
  exact ⟨rfl, rfl⟩
set_option maxHeartbeats 4000000 in
set_option maxRecDepth 40000 in
theorem k_B_has {l : Launch} {h : Nat} {S : St} {p x y : Int32}  : KK l (SHm h) (2, 43) m_B_has [aR 5, aI p, aI x, aI y] S (ans (some (aI (hsB S p x y))) S) := by
  refine k_start ok_B_has (Nat.le_of_ble_eq_true rfl) ?_
  iterate 2 refine e_sp rfl rfl rfl ?_
  refine e_callV1 ok_B_hasPattern rfl lk_B_49 (by rfl) (by rfl) k_B_hasPattern rfl rfl ⟨Nat.le_of_ble_eq_true rfl, Nat.le_of_ble_eq_true rfl⟩ ⟨Nat.zero_le _, Nat.zero_le _⟩ (Nat.le_of_ble_eq_true rfl) ?_
  refine e_ifeq rfl (fun h1 => ?_) (fun h1 => ?_)
  · refine e_ci 0 rfl rfl ?_
    refine e_zret rfl rfl (Nat.le_refl _) (Nat.le_refl _) (by decide) ?_
    exact ⟨by simp [hsB, h1], rfl⟩
  · iterate 1 refine e_sp rfl rfl rfl ?_
    refine e_ci 0 rfl rfl ?_
    iterate 2 refine e_sp rfl rfl rfl ?_
    refine e_ci 1 rfl rfl ?_
    iterate 1 refine e_sp rfl rfl rfl ?_
    refine e_callN1 ok_H_isWithin rfl lk_B_45 k_H_isWithin rfl rfl ⟨Nat.le_of_ble_eq_true rfl, Nat.le_of_ble_eq_true rfl⟩ ⟨Nat.zero_le _, Nat.zero_le _⟩ (Nat.le_of_ble_eq_true rfl) ?_
    refine e_ifeq rfl (fun h2 => ?_) (fun h2 => ?_)
    · refine e_ci 0 rfl rfl ?_
      refine e_zret rfl rfl (Nat.le_refl _) (Nat.le_refl _) (by decide) ?_
      exact ⟨by simp [hsB, h1, h2], rfl⟩
    · iterate 1 refine e_sp rfl rfl rfl ?_
      refine e_ci 0 rfl rfl ?_
      iterate 2 refine e_sp rfl rfl rfl ?_
      refine e_ci 1 rfl rfl ?_
      iterate 1 refine e_sp rfl rfl rfl ?_
      refine e_callN1 ok_H_isWithin rfl lk_B_45 k_H_isWithin rfl rfl ⟨Nat.le_of_ble_eq_true rfl, Nat.le_of_ble_eq_true rfl⟩ ⟨Nat.zero_le _, Nat.zero_le _⟩ (Nat.le_of_ble_eq_true rfl) ?_
      refine e_ifeq rfl (fun h3 => ?_) (fun h3 => ?_)
      · refine e_ci 0 rfl rfl ?_
        refine e_zret rfl rfl (Nat.le_refl _) (Nat.le_refl _) (by decide) ?_
        exact ⟨by simp [hsB, h1, h2, h3], rfl⟩
      · refine e_ci 1 rfl rfl ?_
        refine e_goto rfl ?_
        refine e_zret rfl rfl (Nat.le_refl _) (Nat.le_refl _) (by decide) ?_
        exact ⟨by simp [hsB, h1, h2, h3], rfl⟩
set_option maxHeartbeats 4000000 in
set_option maxRecDepth 40000 in
theorem k_B_line {l : Launch} {h : Nat} {S : St} {p y : Int32}  : KK l (SHm h) (1, 22) m_B_line [aR 5, aI p, aI y] S (ans (some (aI (liB S p y))) S) := by
  refine k_start ok_B_line (Nat.le_of_ble_eq_true rfl) ?_
  iterate 1 refine e_sp rfl rfl rfl ?_
  refine e_ci 0 rfl rfl ?_
  iterate 2 refine e_sp rfl rfl rfl ?_
  refine e_alen rfl (by first | rfl | assumption) (by decide) ?_
  refine e_ci 1 rfl rfl ?_
  iterate 1 refine e_sp rfl rfl rfl ?_
  refine e_callN1 ok_H_isWithin rfl lk_B_45 k_H_isWithin rfl rfl ⟨Nat.le_of_ble_eq_true rfl, Nat.le_of_ble_eq_true rfl⟩ ⟨Nat.zero_le _, Nat.zero_le _⟩ (Nat.le_of_ble_eq_true rfl) ?_
  refine e_ifeq rfl (fun h1 => ?_) (fun h1 => ?_)
  · refine e_ci 0 rfl rfl ?_
    refine e_iret rfl rfl (Nat.le_refl _) (Nat.le_refl _) ?_
    exact ⟨by simp [liB, ushL, h1], rfl⟩
  · iterate 3 refine e_sp rfl rfl rfl ?_
    refine e_lald rfl (by first | rfl | assumption) (by exact wi_in (by decide) (by assumption)) ?_
    refine e_cb 8 rfl rfl ?_
    iterate 4 refine e_sp rfl rfl rfl ?_
    refine e_cs 255 rfl rfl ?_
    iterate 1 refine e_sp rfl rfl rfl ?_
    refine e_goto rfl ?_
    refine e_iret rfl rfl (Nat.le_refl _) (Nat.le_refl _) ?_
    exact ⟨by simp [liB, ushL, h1], rfl⟩
set_option maxHeartbeats 4000000 in
set_option maxRecDepth 40000 in
theorem k_B_isDark {l : Launch} {h : Nat} {S : St} {p x y : Int32}  : KK l (SHm h) (2, 44) m_B_isDark [aR 5, aI p, aI x, aI y] S (ans (some (aI (idB S p x y))) S) := by
  refine k_start ok_B_isDark (Nat.le_of_ble_eq_true rfl) ?_
  iterate 3 refine e_sp rfl rfl rfl ?_
  refine e_callV1 ok_B_line rfl lk_B_53 (by rfl) (by rfl) k_B_line rfl rfl ⟨Nat.le_of_ble_eq_true rfl, Nat.le_of_ble_eq_true rfl⟩ ⟨Nat.zero_le _, Nat.zero_le _⟩ (Nat.le_of_ble_eq_true rfl) ?_
  iterate 2 refine e_sp rfl rfl rfl ?_
  refine e_ci 1 rfl rfl ?_
  iterate 1 refine e_sp rfl rfl rfl ?_
  refine e_ci 1 rfl rfl ?_
  refine e_icne rfl (fun h1 => ?_) (fun h1 => ?_)
  · refine e_ci 0 rfl rfl ?_
    refine e_zret rfl rfl (Nat.le_refl _) (Nat.le_refl _) (by decide) ?_
    exact ⟨by simp [idB, h1], rfl⟩
  · refine e_ci 1 rfl rfl ?_
    refine e_goto rfl ?_
    refine e_zret rfl rfl (Nat.le_refl _) (Nat.le_refl _) (by decide) ?_
    exact ⟨by simp [idB, h1], rfl⟩
set_option maxHeartbeats 4000000 in
set_option maxRecDepth 40000 in
theorem k_B_turn {l : Launch} {h : Nat} {S : St} {p x y : Int32}  : KK l (SHm h) (1, 22) m_B_turn [aR 5, aI p, aI x, aI y] S (ans none (tnB S p x y)) := by
  refine k_start ok_B_turn (Nat.le_of_ble_eq_true rfl) ?_
  iterate 1 refine e_sp rfl rfl rfl ?_
  refine e_ci 0 rfl rfl ?_
  iterate 2 refine e_sp rfl rfl rfl ?_
  refine e_alen rfl (by first | rfl | assumption) (by decide) ?_
  refine e_ci 1 rfl rfl ?_
  iterate 1 refine e_sp rfl rfl rfl ?_
  refine e_callN1 ok_H_isWithin rfl lk_B_45 k_H_isWithin rfl rfl ⟨Nat.le_of_ble_eq_true rfl, Nat.le_of_ble_eq_true rfl⟩ ⟨Nat.zero_le _, Nat.zero_le _⟩ (Nat.le_of_ble_eq_true rfl) ?_
  refine e_ifeq rfl (fun h1 => ?_) (fun h1 => ?_)
  · refine e_vret rfl rfl (Nat.le_refl _) (Nat.le_refl _) ?_
    exact ⟨rfl, by simp [tnB, h1]⟩
  · iterate 4 refine e_sp rfl rfl rfl ?_
    refine e_lald rfl (by first | rfl | assumption) (by exact wi_in (by decide) (by assumption)) ?_
    refine e_cl 1 rfl rfl ?_
    refine e_cb 8 rfl rfl ?_
    iterate 6 refine e_sp rfl rfl rfl ?_
    refine e_last rfl (by first | rfl | assumption) (by exact wi_in (by decide) (by assumption)) ?_
    refine e_vret rfl rfl (Nat.le_refl _) (Nat.le_refl _) ?_
    exact ⟨rfl, by simp [tnB, h1]⟩
set_option maxHeartbeats 4000000 in
set_option maxRecDepth 40000 in
theorem k_B_keyOf {l : Launch} {B : List Sh} {S : St} {x y : Int32}  : KK l B (0, 0) m_B_keyOf [aI x, aI y] S (ans (some (aI (keB x y))) S) := by
  refine k_start ok_B_keyOf (Nat.le_of_ble_eq_true rfl) ?_
  refine e_ci 0 rfl rfl ?_
  iterate 1 refine e_sp rfl rfl rfl ?_
  refine e_ci 0 rfl rfl ?_
  iterate 2 refine e_sp rfl rfl rfl ?_
  refine e_ci 3 rfl rfl ?_
  refine e_icge rfl (fun h1 => absurd h1 (by first | decide | simp [puI, pt, upd])) (fun _ => ?_)
  iterate 1 refine e_sp rfl rfl rfl ?_
  refine e_ci 2 rfl rfl ?_
  iterate 6 refine e_sp rfl rfl rfl ?_
  refine e_ci 1 rfl rfl ?_
  iterate 1 refine e_sp rfl rfl rfl ?_
  refine e_ci 1 rfl rfl ?_
  iterate 5 refine e_sp rfl rfl rfl ?_
  refine e_ci 1 rfl rfl ?_
  iterate 3 refine e_sp rfl rfl rfl ?_
  refine e_inc 1 rfl rfl rfl rfl ?_
  refine e_goto rfl ?_
  iterate 1 refine e_sp rfl rfl rfl ?_
  refine e_ci 3 rfl rfl ?_
  refine e_icge rfl (fun h2 => absurd h2 (by first | decide | simp [puI, pt, upd])) (fun _ => ?_)
  iterate 1 refine e_sp rfl rfl rfl ?_
  refine e_ci 2 rfl rfl ?_
  iterate 6 refine e_sp rfl rfl rfl ?_
  refine e_ci 1 rfl rfl ?_
  iterate 1 refine e_sp rfl rfl rfl ?_
  refine e_ci 1 rfl rfl ?_
  iterate 5 refine e_sp rfl rfl rfl ?_
  refine e_ci 1 rfl rfl ?_
  iterate 3 refine e_sp rfl rfl rfl ?_
  refine e_inc 1 rfl rfl rfl rfl ?_
  refine e_goto rfl ?_
  iterate 1 refine e_sp rfl rfl rfl ?_
  refine e_ci 3 rfl rfl ?_
  refine e_icge rfl (fun h3 => absurd h3 (by first | decide | simp [puI, pt, upd])) (fun _ => ?_)
  iterate 1 refine e_sp rfl rfl rfl ?_
  refine e_ci 2 rfl rfl ?_
  iterate 6 refine e_sp rfl rfl rfl ?_
  refine e_ci 1 rfl rfl ?_
  iterate 1 refine e_sp rfl rfl rfl ?_
  refine e_ci 1 rfl rfl ?_
  iterate 5 refine e_sp rfl rfl rfl ?_
  refine e_ci 1 rfl rfl ?_
  iterate 3 refine e_sp rfl rfl rfl ?_
  refine e_inc 1 rfl rfl rfl rfl ?_
  refine e_goto rfl ?_
  iterate 1 refine e_sp rfl rfl rfl ?_
  refine e_ci 3 rfl rfl ?_
  refine e_icge rfl (fun _ => ?_) (fun h4 => absurd h4 (by first | decide | simp [puI, pt, upd]))
  iterate 1 refine e_sp rfl rfl rfl ?_
  refine e_iret rfl rfl (Nat.le_refl _) (Nat.le_refl _) ?_
  exact ⟨rfl, rfl⟩
set_option maxHeartbeats 4000000 in
set_option maxRecDepth 40000 in
theorem k_B_farness {l : Launch} {h : Nat} {S : St} {p e : Int32} (hp : vp_in p 64) : KK l (SHm h) (1, 21) m_B_farness [aR 5, aI p, aI e] S (ans (some (aI (faB S p e))) S) := by
  refine k_start ok_B_farness (Nat.le_of_ble_eq_true rfl) ?_
  iterate 3 refine e_sp rfl rfl rfl ?_
  refine e_lald rfl (by first | rfl | assumption) (by exact hp) ?_
  refine e_callS1 ok_JL_bitCount rfl lk_B_59 k_JL_bitCount rfl rfl ⟨Nat.le_of_ble_eq_true rfl, Nat.le_of_ble_eq_true rfl⟩ ⟨Nat.zero_le _, Nat.zero_le _⟩ (Nat.le_of_ble_eq_true rfl) ?_
  iterate 4 refine e_sp rfl rfl rfl ?_
  refine e_ifle rfl (fun h1 => ?_) (fun h1 => ?_)
  · refine e_cb (-2) rfl rfl ?_
    iterate 2 refine e_sp rfl rfl rfl ?_
    refine e_iret rfl rfl (Nat.le_refl _) (Nat.le_refl _) ?_
    exact ⟨by simp [faB, h1], rfl⟩
  · refine e_ci 2 rfl rfl ?_
    iterate 2 refine e_sp rfl rfl rfl ?_
    refine e_ci 1 rfl rfl ?_
    iterate 1 refine e_sp rfl rfl rfl ?_
    refine e_goto rfl ?_
    refine e_iret rfl rfl (Nat.le_refl _) (Nat.le_refl _) ?_
    exact ⟨by simp [faB, h1], rfl⟩
set_option maxHeartbeats 4000000 in
set_option maxRecDepth 40000 in
theorem k_B_rankOf {l : Launch} {h : Nat} {S : St} {x y : Int32} {w g : Nat} (hw : S.1 5 1 = nI w) (hg : S.1 5 2 = nI g) (hw2 : w < 2 ^ 31) (hg2 : g < 2 ^ 31) : KK l (SHm h) (1, 23) m_B_rankOf [aR 5, aI x, aI y] S (ans (some (aI (rkO (keB x y) w g))) S) := by
  refine k_start ok_B_rankOf (Nat.le_of_ble_eq_true rfl) ?_
  have L1 := e_for (P := fun v => ∀ z, E0 l (SHm h) (1, 23) m_B_rankOf 12 [some (aR 5), some (aI x), some (aI y), some (aI (keB x y)), some (aI (rkO (keB x y) w v)), some (aI (nI v)), z] [] (S) (ans (some (aI (rkO (keB x y) w g))) S)) g (by
      intro z
      iterate 3 refine e_sp rfl rfl rfl ?_
      refine e_icge rfl (fun h1 => ?_) (fun h1 => ?_)
      · iterate 1 refine e_sp rfl rfl rfl ?_
        refine e_iret rfl rfl (Nat.le_refl _) (Nat.le_refl _) ?_
        exact ⟨rfl, rfl⟩
      · try dsimp only
        rw [hg] at h1
        exact absurd (nI_le (Nat.le_refl _) hg2) h1) (fun v hv ihv => by
      intro z
      iterate 3 refine e_sp rfl rfl rfl ?_
      refine e_icge rfl (fun h1 => ?_) (fun h1 => ?_)
      · try dsimp only
        rw [hg] at h1
        exact absurd h1 (nI_ge hv hg2)
      · refine e_ci 0 rfl rfl ?_
        iterate 1 refine e_sp rfl rfl rfl ?_
        try dsimp only
        have L2 := e_for (P := fun u => E0 l (SHm h) (1, 23) m_B_rankOf 24 [some (aR 5), some (aI x), some (aI y), some (aI (keB x y)), some (aI (rkI (keB x y) v (rkO (keB x y) w v) u)), some (aI (nI v)), some (aI (nI u))] [] (S) (ans (some (aI (rkO (keB x y) w g))) S)) w (by
            iterate 3 refine e_sp rfl rfl rfl ?_
            refine e_icge rfl (fun h1 => ?_) (fun h1 => ?_)
            · refine e_inc 1 rfl rfl rfl rfl ?_
              refine e_goto rfl ?_
              try dsimp only
              rw [nI_1]
              exact ihv _
            · try dsimp only
              rw [hw] at h1
              exact absurd (nI_le (Nat.le_refl _) hw2) h1) (fun u hu ihu => by
            iterate 3 refine e_sp rfl rfl rfl ?_
            refine e_icge rfl (fun h1 => ?_) (fun h1 => ?_)
            · try dsimp only
              rw [hw] at h1
              exact absurd h1 (nI_ge hu hw2)
            · iterate 2 refine e_sp rfl rfl rfl ?_
              refine e_callS1 ok_B_keyOf rfl lk_B_42 k_B_keyOf rfl rfl ⟨Nat.le_of_ble_eq_true rfl, Nat.le_of_ble_eq_true rfl⟩ ⟨Nat.zero_le _, Nat.zero_le _⟩ (Nat.le_of_ble_eq_true rfl) ?_
              iterate 1 refine e_sp rfl rfl rfl ?_
              refine e_icge rfl (fun h2 => ?_) (fun h2 => ?_)
              · refine e_inc 1 rfl rfl rfl rfl ?_
                refine e_goto rfl ?_
                try dsimp only
                rw [nI_1]
                simp only [rkI, h2, if_true, if_false] at ihu
                exact ihu
              · refine e_inc 1 rfl rfl rfl rfl ?_
                refine e_inc 1 rfl rfl rfl rfl ?_
                refine e_goto rfl ?_
                try dsimp only
                rw [nI_1]
                simp only [rkI, h2, if_true, if_false] at ihu
                exact ihu)
        exact L2)
  iterate 2 refine e_sp rfl rfl rfl ?_
  refine e_callS1 ok_B_keyOf rfl lk_B_42 k_B_keyOf rfl rfl ⟨Nat.le_of_ble_eq_true rfl, Nat.le_of_ble_eq_true rfl⟩ ⟨Nat.zero_le _, Nat.zero_le _⟩ (Nat.le_of_ble_eq_true rfl) ?_
  iterate 1 refine e_sp rfl rfl rfl ?_
  refine e_ci 0 rfl rfl ?_
  iterate 1 refine e_sp rfl rfl rfl ?_
  refine e_ci 0 rfl rfl ?_
  iterate 1 refine e_sp rfl rfl rfl ?_
  try dsimp only
  exact L1 none
set_option maxHeartbeats 4000000 in
set_option maxRecDepth 40000 in
theorem k_B_planes {l : Launch} {h : Nat} {S : St} {m : Nat} (hm : S.1 5 3 = nI (m + 1)) (hm2 : m < 64) : KK l (SHm h) (0, 0) m_B_planes [aR 5] S (ans (some (aI (nI (bl 6 m)))) S) := by
  refine k_start ok_B_planes (Nat.le_of_ble_eq_true rfl) ?_
  have L : ∀ (f m k : Nat), m < 2 ^ f → f ≤ 6 → E0 l (SHm h) (0, 0) m_B_planes 9 [some (aR 5), some (aI (nI k)), some (aI (nI m))] [] S (ans (some (aI (nI (k + bl f m)))) S) := by
    intro f
    induction f with
    | zero =>
      intro m k hm _
      have hm0 : m = 0 := by omega
      subst hm0
      iterate 1 refine e_sp rfl rfl rfl ?_
      refine e_ifle rfl (fun h1 => ?_) (fun h1 => absurd (by decide) h1)
      iterate 1 refine e_sp rfl rfl rfl ?_
      refine e_iret rfl rfl (Nat.le_refl _) (Nat.le_refl _) ?_
      exact ⟨rfl, rfl⟩
    | succ f ih =>
      intro m k hm hf
      have hm31 : m < 2 ^ 31 := Nat.lt_of_lt_of_le hm (Nat.pow_le_pow_right (by omega) (by omega))
      iterate 1 refine e_sp rfl rfl rfl ?_
      refine e_ifle rfl (fun h1 => ?_) (fun h1 => ?_)
      · have hm0 : m = 0 := by
          rcases Nat.eq_zero_or_pos m with e | e
          · exact e
          · exact absurd h1 (nI_nle e hm31)
        subst hm0
        iterate 1 refine e_sp rfl rfl rfl ?_
        refine e_iret rfl rfl (Nat.le_refl _) (Nat.le_refl _) ?_
        exact ⟨by simp [bl], rfl⟩
      · have hm0 : ¬ m = 0 := fun e => h1 (by rw [e]; decide)
        refine e_inc 1 rfl rfl rfl rfl ?_
        iterate 1 refine e_sp rfl rfl rfl ?_
        refine e_ci 1 rfl rfl ?_
        iterate 2 refine e_sp rfl rfl rfl ?_
        refine e_goto rfl ?_
        dsimp only
        rw [nI_1, show nI m >>> ((1 : Int32) &&& 31) = nI (m / 2) from pk_shrN hm31 _ 1 (by decide)]
        have e9 := ih (m / 2) (k + 1) (by rw [Nat.pow_succ] at hm; omega) (by omega)
        rw [show k + 1 + bl f (m / 2) = k + bl (f + 1) m by simp only [bl]; rw [if_neg hm0]; omega] at e9
        exact e9
  have L0 := L 6 m 0 (by omega) (by omega)
  rw [Nat.zero_add] at L0
  refine e_ci 0 rfl rfl ?_
  iterate 3 refine e_sp rfl rfl rfl ?_
  refine e_ci 1 rfl rfl ?_
  iterate 2 refine e_sp rfl rfl rfl ?_
  dsimp only
  rw [hm, nI_pred]
  exact L0
set_option maxHeartbeats 4000000 in
set_option maxRecDepth 40000 in
theorem k_B_nearestTo {l : Launch} {h : Nat} {S : St} {e : Int32} {m : Nat} (hm : S.1 5 3 = nI (m + 1)) (hm2 : m < 64) : KK l (SHm h) (2, 44) m_B_nearestTo [aR 5, aI e] S (ans (some (aI (nI (neB S e m)))) S) := by
  refine k_start ok_B_nearestTo (Nat.le_of_ble_eq_true rfl) ?_
  have L := e_for (P := fun i => E0 l (SHm h) (2, 44) m_B_nearestTo 4 [some (aR 5), some (aI e), some (aI (nI (neB S e i))), some (aI (nI (i + 1)))] [] S (ans (some (aI (nI (neB S e m)))) S)) m (by
      iterate 3 refine e_sp rfl rfl rfl ?_
      refine e_icge rfl (fun h1 => ?_) (fun h1 => ?_)
      · iterate 1 refine e_sp rfl rfl rfl ?_
        refine e_iret rfl rfl (Nat.le_refl _) (Nat.le_refl _) ?_
        exact ⟨rfl, rfl⟩
      · try dsimp only
        exact absurd (by rw [hm]; exact nI_le (Nat.le_refl _) (by omega)) h1) (fun i hi ihi => by
      iterate 3 refine e_sp rfl rfl rfl ?_
      refine e_icge rfl (fun h1 => ?_) (fun h1 => ?_)
      · try dsimp only
        exact absurd (by rw [hm] at h1; exact h1) (nI_ge (show i + 1 < m + 1 by omega) (by omega))
      · iterate 3 refine e_sp rfl rfl rfl ?_
        refine e_alen rfl (by first | rfl | assumption) (by decide) ?_
        refine e_icge rfl (fun h2 => ?_) (fun h2 => ?_)
        · try dsimp only
          exact absurd h2 (nI_ge (show i + 1 < 64 by omega) (by decide))
        · iterate 3 refine e_sp rfl rfl rfl ?_
          refine e_callV1 ok_B_farness rfl lk_B_56 (by rfl) (by rfl) (k_B_farness (vp_in_nI (show i + 1 < 64 by omega) (by decide))) rfl rfl ⟨Nat.le_of_ble_eq_true rfl, Nat.le_of_ble_eq_true rfl⟩ ⟨Nat.zero_le _, Nat.zero_le _⟩ (Nat.le_of_ble_eq_true rfl) ?_
          iterate 3 refine e_sp rfl rfl rfl ?_
          refine e_callV1 ok_B_farness rfl lk_B_56 (by rfl) (by rfl) (k_B_farness (vp_in_nI (show neB S e i < 64 from Nat.lt_of_le_of_lt (neB_le S e i) (by omega)) (by decide))) rfl rfl ⟨Nat.le_of_ble_eq_true rfl, Nat.le_of_ble_eq_true rfl⟩ ⟨Nat.zero_le _, Nat.zero_le _⟩ (Nat.le_of_ble_eq_true rfl) ?_
          refine e_icge rfl (fun h3 => ?_) (fun h3 => ?_)
          · refine e_inc 1 rfl rfl rfl rfl ?_
            refine e_goto rfl ?_
            try dsimp only
            rw [nI_1]
            simp only [neB, h3, if_true, if_false] at ihi
            exact ihi
          · iterate 2 refine e_sp rfl rfl rfl ?_
            refine e_inc 1 rfl rfl rfl rfl ?_
            refine e_goto rfl ?_
            try dsimp only
            rw [nI_1]
            simp only [neB, h3, if_true, if_false] at ihi
            exact ihi)
  refine e_ci 0 rfl rfl ?_
  iterate 1 refine e_sp rfl rfl rfl ?_
  refine e_ci 1 rfl rfl ?_
  iterate 1 refine e_sp rfl rfl rfl ?_
  try dsimp only
  exact L
