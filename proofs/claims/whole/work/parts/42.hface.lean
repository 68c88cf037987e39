theorem cl_87 : Jvm.Cond.classLink xOwn 87 xIA ∈ gw := gw_in (by decide +kernel) rfl
theorem cl_119 : Jvm.Cond.classLink xOwn 119 xIB ∈ gw := gw_in (by decide +kernel) rfl
theorem cl_255 : Jvm.Cond.classLink xOwn 255 xUO ∈ gw := gw_in (by decide +kernel) rfl
def c1H (x : Int32) : Int32 := if x = 0 then 1 else 0
def whH (S : St) (i j a : Int32) : Int32 := if haL S i j = 0 then 1 else if wi a 0 1 = 0 then 2 else 0
def gyH (S : St) (i j v : Int32) : Int32 := if haL S i j = 0 then 1 else if hpB S v = 0 then 2 else 0
def atH (S : St) (x y : Int32) : Int32 := if wi x 0 (S.1 0 0 - 1) = 0 then 1 else if wi y 0 (S.1 0 1 - 1) = 0 then 1 else 0
def fdH (S : St) (b : Int32) : Int32 := if wi b 0 255 = 0 then 1 else if hrR S 1 = 0 then 2 else 0
def pnS (S : St) (a b c : Int32) : St := flI (bgB S a b c) 8 0 256
theorem pn_m {S : St} {a b c : Int32} (h : okP a b c = 0) : (pnS S a b c).1 5 3 = nI (c.toNatClampNeg - 1 + 1) ∧ c.toNatClampNeg - 1 < 64 := by
  have h9 : ¬ wi c 1 64 = 0 := by
    intro h0
    unfold okP at h
    by_cases h1 : wi a 1 8 = 0
    · rw [if_pos h1] at h; exact absurd h (by decide)
    rw [if_neg h1] at h
    by_cases h2 : wi b 1 8 = 0
    · rw [if_pos h2] at h; exact absurd h (by decide)
    rw [if_neg h2, if_pos h0] at h
    exact absurd h (by decide)
  obtain ⟨m, hm, rfl⟩ := wi_1n (n := 64) (by decide) h9
  rw [nI_clamp (by omega), show m + 1 - 1 + 1 = m + 1 by omega]
  exact ⟨rfl, by omega⟩
theorem idB_01 (S : St) (p x y : Int32) : idB S p x y = 0 ∨ idB S p x y = 1 := by
  unfold idB
  split
  · exact Or.inr rfl
  · exact Or.inl rfl
theorem ouH_01 (S : St) (i j : Int32) : ouH S i j = 0 ∨ ouH S i j = 1 := by
  unfold ouH
  split
  · exact Or.inr rfl
  · split
    · exact Or.inr rfl
    · split
      · exact Or.inr rfl
      · split
        · exact Or.inl rfl
        · exact Or.inr rfl
theorem cgR_01 (S : St) (i j g : Int32) : cgR S i j g = 0 ∨ cgR S i j g = 1 := by
  unfold cgR
  split
  · exact Or.inl rfl
  · exact if_01 _
def gdS (S : St) (c r x y a b : Int32) : St := puI (puI (puI (puI (flI (puI (puI S 7 1 c) 7 2 r) 8 0 256) 7 3 x) 7 4 y) 7 5 a) 7 6 b
theorem okG_nat {c r x y a b : Int32} (h : okG c r x y a b = 0) : (∃ n, n < 16 ∧ c = nI (n + 1)) ∧ (∃ n, n < 16 ∧ r = nI (n + 1)) := by
  unfold okG at h
  by_cases h1 : wi c 1 16 = 0
  · rw [if_pos h1] at h; exact absurd h (by decide)
  rw [if_neg h1] at h
  by_cases h2 : wi r 1 16 = 0
  · rw [if_pos h2] at h; exact absurd h (by decide)
  exact ⟨wi_1n (n := 16) (by decide) h1, wi_1n (n := 16) (by decide) h2⟩
theorem gdS_c {S : St} {c r x y a b : Int32} (h : okG c r x y a b = 0) : (gdS S c r x y a b).1 7 1 = nI c.toNatClampNeg ∧ (gdS S c r x y a b).1 7 2 = nI r.toNatClampNeg ∧ c.toNatClampNeg < 2 ^ 31 ∧ r.toNatClampNeg < 2 ^ 31 := by
  obtain ⟨⟨n, hn, rfl⟩, ⟨k, hk, rfl⟩⟩ := okG_nat h
  rw [nI_clamp (by omega), nI_clamp (by omega)]
  exact ⟨rfl, rfl, by omega, by omega⟩
def ptS (S : St) (q : Nat) : St := flI (orS S q) 8 0 256
def ppS (S : St) : Nat → St
  | 0 => S
  | i + 1 => tkR (ppS S i) (mdW (ppS S i) (nI i))
theorem tkR_14 {S : St} {b : Int32} {o : Nat} (h : o ≠ 17) (h2 : o ≠ 18) : (tkR S b).1 o = S.1 o ∧ (tkR S b).2 = S.2 := by
  unfold tkR
  split
  · exact ⟨rfl, rfl⟩
  · exact ⟨by rw [puI_o h, puI_o h2], rfl⟩
set_option maxHeartbeats 4000000 in
set_option maxRecDepth 40000 in
theorem k_H_patterns {l : Launch} {h : Nat} {S : St} {a b c : Int32}  (hok : okP a b c = 0) : KK l (SHm h) (2, 47) m_H_patterns [aR 0, aI a, aI b, aI c] S (ans (some (aI (nI (bl 6 (c.toNatClampNeg - 1))))) (pnS S a b c)) := by
  refine k_start ok_H_patterns (Nat.le_of_ble_eq_true rfl) ?_
  iterate 1 refine e_sp rfl rfl rfl ?_
  refine e_ci 1 rfl rfl ?_
  refine e_cb 8 rfl rfl ?_
  refine e_callS1 ok_H_isWithin rfl lk_H_83 k_H_isWithin rfl rfl ⟨Nat.le_of_ble_eq_true rfl, Nat.le_of_ble_eq_true rfl⟩ ⟨Nat.zero_le _, Nat.zero_le _⟩ (Nat.le_of_ble_eq_true rfl) ?_
  refine e_ifeq rfl (fun h1 => ?_) (fun h1 => ?_)
  · try dsimp only
    exact absurd hok (by unfold okP; (first | rw [if_pos h1] | rw [if_neg h1] | skip); decide)
  · iterate 1 refine e_sp rfl rfl rfl ?_
    refine e_ci 1 rfl rfl ?_
    refine e_cb 8 rfl rfl ?_
    refine e_callS1 ok_H_isWithin rfl lk_H_83 k_H_isWithin rfl rfl ⟨Nat.le_of_ble_eq_true rfl, Nat.le_of_ble_eq_true rfl⟩ ⟨Nat.zero_le _, Nat.zero_le _⟩ (Nat.le_of_ble_eq_true rfl) ?_
    refine e_ifne rfl (fun h2 => ?_) (fun h2 => ?_)
    · iterate 1 refine e_sp rfl rfl rfl ?_
      refine e_ci 1 rfl rfl ?_
      refine e_cb 64 rfl rfl ?_
      refine e_callS1 ok_H_isWithin rfl lk_H_83 k_H_isWithin rfl rfl ⟨Nat.le_of_ble_eq_true rfl, Nat.le_of_ble_eq_true rfl⟩ ⟨Nat.zero_le _, Nat.zero_le _⟩ (Nat.le_of_ble_eq_true rfl) ?_
      refine e_ifne rfl (fun h3 => ?_) (fun h3 => ?_)
      · iterate 5 refine e_sp rfl rfl rfl ?_
        refine e_callV0 ok_B_begin rfl lk_H_96 (by rfl) (by rfl) k_B_begin rfl rfl ⟨Nat.le_of_ble_eq_true rfl, Nat.le_of_ble_eq_true rfl⟩ ⟨Nat.zero_le _, Nat.zero_le _⟩ (Nat.le_of_ble_eq_true rfl) ?_
        iterate 2 refine e_sp rfl rfl rfl ?_
        refine e_callV0 ok_L_forgetGreys rfl lk_H_100 (by rfl) (by rfl) k_L_forgetGreys rfl rfl ⟨Nat.le_of_ble_eq_true rfl, Nat.le_of_ble_eq_true rfl⟩ ⟨Nat.zero_le _, Nat.zero_le _⟩ (Nat.le_of_ble_eq_true rfl) ?_
        iterate 2 refine e_sp rfl rfl rfl ?_
        refine e_callV1 ok_B_planes rfl lk_H_103 (by rfl) (by rfl) (k_B_planes (pn_m (S := S) hok).1 (pn_m (S := S) hok).2) rfl rfl ⟨Nat.le_of_ble_eq_true rfl, Nat.le_of_ble_eq_true rfl⟩ ⟨Nat.zero_le _, Nat.zero_le _⟩ (Nat.le_of_ble_eq_true rfl) ?_
        refine e_iret rfl rfl (Nat.le_refl _) (Nat.le_refl _) ?_
        exact ⟨rfl, rfl⟩
      · try dsimp only
        exact absurd hok (by unfold okP; (first | rw [if_pos h1] | rw [if_neg h1] | skip); (first | rw [if_pos h2] | rw [if_neg h2] | skip); (first | rw [if_pos h3] | rw [if_neg h3] | skip); decide)
    · try dsimp only
      exact absurd hok (by unfold okP; (first | rw [if_pos h1] | rw [if_neg h1] | skip); (first | rw [if_pos h2] | rw [if_neg h2] | skip); decide)
set_option maxHeartbeats 4000000 in
set_option maxRecDepth 40000 in
theorem x_H_patterns_xIA {l : Launch} {h : Nat} {S : St} {a b c : Int32} (hfl : l.flags = Jvm.pinnedFlags ++ [Jvm.noTraceFlag])  (hok : okP a b c = 1) : KX l (SHm h) (6, 90) m_H_patterns [aR 0, aI a, aI b, aI c] S xIA := by
  refine k_startX ok_H_patterns (Nat.le_of_ble_eq_true rfl) ?_
  iterate 1 refine e_sp rfl rfl rfl ?_
  refine e_ci 1 rfl rfl ?_
  refine e_cb 8 rfl rfl ?_
  refine e_callS1 ok_H_isWithin rfl lk_H_83 k_H_isWithin rfl rfl ⟨Nat.le_of_ble_eq_true rfl, Nat.le_of_ble_eq_true rfl⟩ ⟨Nat.zero_le _, Nat.zero_le _⟩ (Nat.le_of_ble_eq_true rfl) ?_
  refine e_ifeq rfl (fun h1 => ?_) (fun h1 => ?_)
  · try dsimp only
    exact e_throw (tw := 2) (ji := 89) (ic := 91) (idx := 87) hfl rfl rfl (Or.inl ⟨rfl, rfl⟩) rfl rfl rfl (List.mem_of_getElem? (i := 0) rfl) xok_IA ok_H_patterns.2.2.1 cl_87 (by decide)
  · iterate 1 refine e_sp rfl rfl rfl ?_
    refine e_ci 1 rfl rfl ?_
    refine e_cb 8 rfl rfl ?_
    refine e_callS1 ok_H_isWithin rfl lk_H_83 k_H_isWithin rfl rfl ⟨Nat.le_of_ble_eq_true rfl, Nat.le_of_ble_eq_true rfl⟩ ⟨Nat.zero_le _, Nat.zero_le _⟩ (Nat.le_of_ble_eq_true rfl) ?_
    refine e_ifne rfl (fun h2 => ?_) (fun h2 => ?_)
    · iterate 1 refine e_sp rfl rfl rfl ?_
      refine e_ci 1 rfl rfl ?_
      refine e_cb 64 rfl rfl ?_
      refine e_callS1 ok_H_isWithin rfl lk_H_83 k_H_isWithin rfl rfl ⟨Nat.le_of_ble_eq_true rfl, Nat.le_of_ble_eq_true rfl⟩ ⟨Nat.zero_le _, Nat.zero_le _⟩ (Nat.le_of_ble_eq_true rfl) ?_
      refine e_ifne rfl (fun h3 => ?_) (fun h3 => ?_)
      · try dsimp only
        exact absurd hok (by unfold okP; (first | rw [if_pos h1] | rw [if_neg h1] | skip); (first | rw [if_pos h2] | rw [if_neg h2] | skip); (first | rw [if_pos h3] | rw [if_neg h3] | skip); decide)
      · try dsimp only
        exact e_throw (tw := 2) (ji := 94) (ic := 91) (idx := 87) hfl rfl rfl (Or.inl ⟨rfl, rfl⟩) rfl rfl rfl (List.mem_of_getElem? (i := 1) rfl) xok_IA ok_H_patterns.2.2.1 cl_87 (by decide)
    · try dsimp only
      exact e_throw (tw := 2) (ji := 89) (ic := 91) (idx := 87) hfl rfl rfl (Or.inl ⟨rfl, rfl⟩) rfl rfl rfl (List.mem_of_getElem? (i := 0) rfl) xok_IA ok_H_patterns.2.2.1 cl_87 (by decide)
set_option maxHeartbeats 4000000 in
set_option maxRecDepth 40000 in
theorem k_H_put {l : Launch} {h : Nat} {S : St} {p x y b : Int32}  (hok : c1H (hsB S p x y) = 0) : KK l (SHm h) (3, 67) m_H_put [aR 0, aI p, aI x, aI y, aI b] S (ans (some (aI (if idB S p x y = b then 0 else 1))) (if idB S p x y = b then S else tnB S p x y)) := by
  refine k_start ok_H_put (Nat.le_of_ble_eq_true rfl) ?_
  iterate 5 refine e_sp rfl rfl rfl ?_
  refine e_callV1 ok_B_has rfl lk_H_116 (by rfl) (by rfl) k_B_has rfl rfl ⟨Nat.le_of_ble_eq_true rfl, Nat.le_of_ble_eq_true rfl⟩ ⟨Nat.zero_le _, Nat.zero_le _⟩ (Nat.le_of_ble_eq_true rfl) ?_
  refine e_ifne rfl (fun h1 => ?_) (fun h1 => ?_)
  · iterate 5 refine e_sp rfl rfl rfl ?_
    refine e_callV1 ok_B_isDark rfl lk_H_124 (by rfl) (by rfl) k_B_isDark rfl rfl ⟨Nat.le_of_ble_eq_true rfl, Nat.le_of_ble_eq_true rfl⟩ ⟨Nat.zero_le _, Nat.zero_le _⟩ (Nat.le_of_ble_eq_true rfl) ?_
    iterate 1 refine e_sp rfl rfl rfl ?_
    refine e_iceq rfl (fun h2 => ?_) (fun h2 => ?_)
    · refine e_ci 0 rfl rfl ?_
      iterate 2 refine e_sp rfl rfl rfl ?_
      refine e_ifeq rfl (fun _ => ?_) (fun h3 => absurd h3 (by first | decide | simp [puI, pt, upd]))
      iterate 1 refine e_sp rfl rfl rfl ?_
      refine e_zret rfl rfl (Nat.le_refl _) (Nat.le_refl _) (by decide) ?_
      exact ⟨by simp [h2], by simp [h2]⟩
    · refine e_ci 1 rfl rfl ?_
      refine e_goto rfl ?_
      iterate 2 refine e_sp rfl rfl rfl ?_
      refine e_ifeq rfl (fun h4 => absurd h4 (by first | decide | simp [puI, pt, upd])) (fun _ => ?_)
      iterate 5 refine e_sp rfl rfl rfl ?_
      refine e_callV0 ok_B_turn rfl lk_H_127 (by rfl) (by rfl) k_B_turn rfl rfl ⟨Nat.le_of_ble_eq_true rfl, Nat.le_of_ble_eq_true rfl⟩ ⟨Nat.zero_le _, Nat.zero_le _⟩ (Nat.le_of_ble_eq_true rfl) ?_
      iterate 1 refine e_sp rfl rfl rfl ?_
      refine e_zret rfl rfl (Nat.le_refl _) (Nat.le_refl _) (by decide) ?_
      exact ⟨by simp [h2], by simp [h2]⟩
  · try dsimp only
    exact absurd hok (by unfold c1H; (first | rw [if_pos h1] | rw [if_neg h1] | skip); decide)
set_option maxHeartbeats 4000000 in
set_option maxRecDepth 40000 in
theorem x_H_put_xIB {l : Launch} {h : Nat} {S : St} {p x y b : Int32} (hfl : l.flags = Jvm.pinnedFlags ++ [Jvm.noTraceFlag])  (hok : c1H (hsB S p x y) = 1) : KX l (SHm h) (6, 90) m_H_put [aR 0, aI p, aI x, aI y, aI b] S xIB := by
  refine k_startX ok_H_put (Nat.le_of_ble_eq_true rfl) ?_
  iterate 5 refine e_sp rfl rfl rfl ?_
  refine e_callV1 ok_B_has rfl lk_H_116 (by rfl) (by rfl) k_B_has rfl rfl ⟨Nat.le_of_ble_eq_true rfl, Nat.le_of_ble_eq_true rfl⟩ ⟨Nat.zero_le _, Nat.zero_le _⟩ (Nat.le_of_ble_eq_true rfl) ?_
  refine e_ifne rfl (fun h1 => ?_) (fun h1 => ?_)
  · try dsimp only
    exact absurd hok (by unfold c1H; (first | rw [if_pos h1] | rw [if_neg h1] | skip); decide)
  · try dsimp only
    exact e_throw (tw := 2) (ji := 121) (ic := 123) (idx := 119) hfl rfl rfl (Or.inl ⟨rfl, rfl⟩) rfl rfl rfl (List.mem_of_getElem? (i := 3) rfl) xok_IB ok_H_put.2.2.1 cl_119 (by decide)
set_option maxHeartbeats 4000000 in
set_option maxRecDepth 40000 in
theorem k_H_cell {l : Launch} {h : Nat} {S : St} {p x y : Int32}  (hok : c1H (hsB S p x y) = 0) : KK l (SHm h) (3, 67) m_H_cell [aR 0, aI p, aI x, aI y] S (ans (some (aI (idB S p x y))) S) := by
  refine k_start ok_H_cell (Nat.le_of_ble_eq_true rfl) ?_
  iterate 5 refine e_sp rfl rfl rfl ?_
  refine e_callV1 ok_B_has rfl lk_H_116 (by rfl) (by rfl) k_B_has rfl rfl ⟨Nat.le_of_ble_eq_true rfl, Nat.le_of_ble_eq_true rfl⟩ ⟨Nat.zero_le _, Nat.zero_le _⟩ (Nat.le_of_ble_eq_true rfl) ?_
  refine e_ifne rfl (fun h1 => ?_) (fun h1 => ?_)
  · iterate 5 refine e_sp rfl rfl rfl ?_
    refine e_callV1 ok_B_isDark rfl lk_H_124 (by rfl) (by rfl) k_B_isDark rfl rfl ⟨Nat.le_of_ble_eq_true rfl, Nat.le_of_ble_eq_true rfl⟩ ⟨Nat.zero_le _, Nat.zero_le _⟩ (Nat.le_of_ble_eq_true rfl) ?_
    refine e_zret rfl rfl (Nat.le_refl _) (Nat.le_refl _) (by exact idB_01 _ _ _ _) ?_
    exact ⟨rfl, rfl⟩
  · try dsimp only
    exact absurd hok (by unfold c1H; (first | rw [if_pos h1] | rw [if_neg h1] | skip); decide)
set_option maxHeartbeats 4000000 in
set_option maxRecDepth 40000 in
theorem x_H_cell_xIB {l : Launch} {h : Nat} {S : St} {p x y : Int32} (hfl : l.flags = Jvm.pinnedFlags ++ [Jvm.noTraceFlag])  (hok : c1H (hsB S p x y) = 1) : KX l (SHm h) (6, 90) m_H_cell [aR 0, aI p, aI x, aI y] S xIB := by
  refine k_startX ok_H_cell (Nat.le_of_ble_eq_true rfl) ?_
  iterate 5 refine e_sp rfl rfl rfl ?_
  refine e_callV1 ok_B_has rfl lk_H_116 (by rfl) (by rfl) k_B_has rfl rfl ⟨Nat.le_of_ble_eq_true rfl, Nat.le_of_ble_eq_true rfl⟩ ⟨Nat.zero_le _, Nat.zero_le _⟩ (Nat.le_of_ble_eq_true rfl) ?_
  refine e_ifne rfl (fun h1 => ?_) (fun h1 => ?_)
  · try dsimp only
    exact absurd hok (by unfold c1H; (first | rw [if_pos h1] | rw [if_neg h1] | skip); decide)
  · try dsimp only
    exact e_throw (tw := 2) (ji := 121) (ic := 123) (idx := 119) hfl rfl rfl (Or.inl ⟨rfl, rfl⟩) rfl rfl rfl (List.mem_of_getElem? (i := 3) rfl) xok_IB ok_H_cell.2.2.1 cl_119 (by decide)
set_option maxHeartbeats 4000000 in
set_option maxRecDepth 40000 in
theorem k_H_grid {l : Launch} {h : Nat} {S : St} {c r x y a b : Int32}  (hok : okG c r x y a b = 0) : KK l (SHm h) (3, 69) m_H_grid [aR 0, aI c, aI r, aI x, aI y, aI a, aI b] S (ans (some (aI (poH (gdS S c r x y a b) c.toNatClampNeg r.toNatClampNeg))) (gdS S c r x y a b)) := by
  refine k_start ok_H_grid (Nat.le_of_ble_eq_true rfl) ?_
  iterate 1 refine e_sp rfl rfl rfl ?_
  refine e_ci 1 rfl rfl ?_
  refine e_cb 16 rfl rfl ?_
  refine e_callS1 ok_H_isWithin rfl lk_H_83 k_H_isWithin rfl rfl ⟨Nat.le_of_ble_eq_true rfl, Nat.le_of_ble_eq_true rfl⟩ ⟨Nat.zero_le _, Nat.zero_le _⟩ (Nat.le_of_ble_eq_true rfl) ?_
  refine e_ifeq rfl (fun h1 => ?_) (fun h1 => ?_)
  · try dsimp only
    exact absurd hok (by unfold okG; (first | rw [if_pos h1] | rw [if_neg h1] | skip); decide)
  · iterate 1 refine e_sp rfl rfl rfl ?_
    refine e_ci 1 rfl rfl ?_
    refine e_cb 16 rfl rfl ?_
    refine e_callS1 ok_H_isWithin rfl lk_H_83 k_H_isWithin rfl rfl ⟨Nat.le_of_ble_eq_true rfl, Nat.le_of_ble_eq_true rfl⟩ ⟨Nat.zero_le _, Nat.zero_le _⟩ (Nat.le_of_ble_eq_true rfl) ?_
    refine e_ifne rfl (fun h2 => ?_) (fun h2 => ?_)
    · iterate 1 refine e_sp rfl rfl rfl ?_
      refine e_ldc rfl cn_H_132 ?_
      refine e_ldc rfl cn_H_133 ?_
      refine e_callS1 ok_H_isWithin rfl lk_H_83 k_H_isWithin rfl rfl ⟨Nat.le_of_ble_eq_true rfl, Nat.le_of_ble_eq_true rfl⟩ ⟨Nat.zero_le _, Nat.zero_le _⟩ (Nat.le_of_ble_eq_true rfl) ?_
      refine e_ifeq rfl (fun h3 => ?_) (fun h3 => ?_)
      · try dsimp only
        exact absurd hok (by unfold okG; (first | rw [if_pos h1] | rw [if_neg h1] | skip); (first | rw [if_pos h2] | rw [if_neg h2] | skip); (first | rw [if_pos h3] | rw [if_neg h3] | skip); decide)
      · iterate 1 refine e_sp rfl rfl rfl ?_
        refine e_ldc rfl cn_H_132 ?_
        refine e_ldc rfl cn_H_133 ?_
        refine e_callS1 ok_H_isWithin rfl lk_H_83 k_H_isWithin rfl rfl ⟨Nat.le_of_ble_eq_true rfl, Nat.le_of_ble_eq_true rfl⟩ ⟨Nat.zero_le _, Nat.zero_le _⟩ (Nat.le_of_ble_eq_true rfl) ?_
        refine e_ifne rfl (fun h4 => ?_) (fun h4 => ?_)
        · iterate 1 refine e_sp rfl rfl rfl ?_
          refine e_cs (-4096) rfl rfl ?_
          refine e_cs 4096 rfl rfl ?_
          refine e_callS1 ok_H_isWithin rfl lk_H_83 k_H_isWithin rfl rfl ⟨Nat.le_of_ble_eq_true rfl, Nat.le_of_ble_eq_true rfl⟩ ⟨Nat.zero_le _, Nat.zero_le _⟩ (Nat.le_of_ble_eq_true rfl) ?_
          refine e_ifeq rfl (fun h5 => ?_) (fun h5 => ?_)
          · try dsimp only
            exact absurd hok (by unfold okG; (first | rw [if_pos h1] | rw [if_neg h1] | skip); (first | rw [if_pos h2] | rw [if_neg h2] | skip); (first | rw [if_pos h3] | rw [if_neg h3] | skip); (first | rw [if_pos h4] | rw [if_neg h4] | skip); (first | rw [if_pos h5] | rw [if_neg h5] | skip); decide)
          · iterate 1 refine e_sp rfl rfl rfl ?_
            refine e_cs (-4096) rfl rfl ?_
            refine e_cs 4096 rfl rfl ?_
            refine e_callS1 ok_H_isWithin rfl lk_H_83 k_H_isWithin rfl rfl ⟨Nat.le_of_ble_eq_true rfl, Nat.le_of_ble_eq_true rfl⟩ ⟨Nat.zero_le _, Nat.zero_le _⟩ (Nat.le_of_ble_eq_true rfl) ?_
            refine e_ifne rfl (fun h6 => ?_) (fun h6 => ?_)
            · iterate 1 refine e_sp rfl rfl rfl ?_
              refine e_ifne rfl (fun h7 => ?_) (fun h7 => ?_)
              · iterate 4 refine e_sp rfl rfl rfl ?_
                refine e_callV0 ok_L_begin rfl lk_H_140 (by rfl) (by rfl) k_L_begin rfl rfl ⟨Nat.le_of_ble_eq_true rfl, Nat.le_of_ble_eq_true rfl⟩ ⟨Nat.zero_le _, Nat.zero_le _⟩ (Nat.le_of_ble_eq_true rfl) ?_
                iterate 6 refine e_sp rfl rfl rfl ?_
                refine e_callV0 ok_L_turnTo rfl lk_H_142 (by rfl) (by rfl) k_L_turnTo rfl rfl ⟨Nat.le_of_ble_eq_true rfl, Nat.le_of_ble_eq_true rfl⟩ ⟨Nat.zero_le _, Nat.zero_le _⟩ (Nat.le_of_ble_eq_true rfl) ?_
                iterate 1 refine e_sp rfl rfl rfl ?_
                refine e_callV1 ok_H_placesOutside rfl lk_H_146 (by rfl) (by rfl) (k_H_placesOutside (gdS_c (S := S) hok).1 (gdS_c (S := S) hok).2.1 (gdS_c (S := S) hok).2.2.1 (gdS_c (S := S) hok).2.2.2) rfl rfl ⟨Nat.le_of_ble_eq_true rfl, Nat.le_of_ble_eq_true rfl⟩ ⟨Nat.zero_le _, Nat.zero_le _⟩ (Nat.le_of_ble_eq_true rfl) ?_
                refine e_iret rfl rfl (Nat.le_refl _) (Nat.le_refl _) ?_
                exact ⟨rfl, rfl⟩
              · iterate 1 refine e_sp rfl rfl rfl ?_
                refine e_ifne rfl (fun h8 => ?_) (fun h8 => ?_)
                · iterate 4 refine e_sp rfl rfl rfl ?_
                  refine e_callV0 ok_L_begin rfl lk_H_140 (by rfl) (by rfl) k_L_begin rfl rfl ⟨Nat.le_of_ble_eq_true rfl, Nat.le_of_ble_eq_true rfl⟩ ⟨Nat.zero_le _, Nat.zero_le _⟩ (Nat.le_of_ble_eq_true rfl) ?_
                  iterate 6 refine e_sp rfl rfl rfl ?_
                  refine e_callV0 ok_L_turnTo rfl lk_H_142 (by rfl) (by rfl) k_L_turnTo rfl rfl ⟨Nat.le_of_ble_eq_true rfl, Nat.le_of_ble_eq_true rfl⟩ ⟨Nat.zero_le _, Nat.zero_le _⟩ (Nat.le_of_ble_eq_true rfl) ?_
                  iterate 1 refine e_sp rfl rfl rfl ?_
                  refine e_callV1 ok_H_placesOutside rfl lk_H_146 (by rfl) (by rfl) (k_H_placesOutside (gdS_c (S := S) hok).1 (gdS_c (S := S) hok).2.1 (gdS_c (S := S) hok).2.2.1 (gdS_c (S := S) hok).2.2.2) rfl rfl ⟨Nat.le_of_ble_eq_true rfl, Nat.le_of_ble_eq_true rfl⟩ ⟨Nat.zero_le _, Nat.zero_le _⟩ (Nat.le_of_ble_eq_true rfl) ?_
                  refine e_iret rfl rfl (Nat.le_refl _) (Nat.le_refl _) ?_
                  exact ⟨rfl, rfl⟩
                · try dsimp only
                  exact absurd hok (by unfold okG; (first | rw [if_pos h1] | rw [if_neg h1] | skip); (first | rw [if_pos h2] | rw [if_neg h2] | skip); (first | rw [if_pos h3] | rw [if_neg h3] | skip); (first | rw [if_pos h4] | rw [if_neg h4] | skip); (first | rw [if_pos h5] | rw [if_neg h5] | skip); (first | rw [if_pos h6] | rw [if_neg h6] | skip); (first | rw [if_pos h7] | rw [if_neg h7] | skip); (first | rw [if_pos h8] | rw [if_neg h8] | skip); decide)
            · try dsimp only
              exact absurd hok (by unfold okG; (first | rw [if_pos h1] | rw [if_neg h1] | skip); (first | rw [if_pos h2] | rw [if_neg h2] | skip); (first | rw [if_pos h3] | rw [if_neg h3] | skip); (first | rw [if_pos h4] | rw [if_neg h4] | skip); (first | rw [if_pos h5] | rw [if_neg h5] | skip); (first | rw [if_pos h6] | rw [if_neg h6] | skip); decide)
        · try dsimp only
          exact absurd hok (by unfold okG; (first | rw [if_pos h1] | rw [if_neg h1] | skip); (first | rw [if_pos h2] | rw [if_neg h2] | skip); (first | rw [if_pos h3] | rw [if_neg h3] | skip); (first | rw [if_pos h4] | rw [if_neg h4] | skip); decide)
    · try dsimp only
      exact absurd hok (by unfold okG; (first | rw [if_pos h1] | rw [if_neg h1] | skip); (first | rw [if_pos h2] | rw [if_neg h2] | skip); decide)
set_option maxHeartbeats 4000000 in
set_option maxRecDepth 40000 in
theorem x_H_grid_xIA {l : Launch} {h : Nat} {S : St} {c r x y a b : Int32} (hfl : l.flags = Jvm.pinnedFlags ++ [Jvm.noTraceFlag])  (hok : okG c r x y a b = 1) : KX l (SHm h) (6, 90) m_H_grid [aR 0, aI c, aI r, aI x, aI y, aI a, aI b] S xIA := by
  refine k_startX ok_H_grid (Nat.le_of_ble_eq_true rfl) ?_
  iterate 1 refine e_sp rfl rfl rfl ?_
  refine e_ci 1 rfl rfl ?_
  refine e_cb 16 rfl rfl ?_
  refine e_callS1 ok_H_isWithin rfl lk_H_83 k_H_isWithin rfl rfl ⟨Nat.le_of_ble_eq_true rfl, Nat.le_of_ble_eq_true rfl⟩ ⟨Nat.zero_le _, Nat.zero_le _⟩ (Nat.le_of_ble_eq_true rfl) ?_
  refine e_ifeq rfl (fun h1 => ?_) (fun h1 => ?_)
  · try dsimp only
    exact e_throw (tw := 2) (ji := 130) (ic := 91) (idx := 87) hfl rfl rfl (Or.inl ⟨rfl, rfl⟩) rfl rfl rfl (List.mem_of_getElem? (i := 4) rfl) xok_IA ok_H_grid.2.2.1 cl_87 (by decide)
  · iterate 1 refine e_sp rfl rfl rfl ?_
    refine e_ci 1 rfl rfl ?_
    refine e_cb 16 rfl rfl ?_
    refine e_callS1 ok_H_isWithin rfl lk_H_83 k_H_isWithin rfl rfl ⟨Nat.le_of_ble_eq_true rfl, Nat.le_of_ble_eq_true rfl⟩ ⟨Nat.zero_le _, Nat.zero_le _⟩ (Nat.le_of_ble_eq_true rfl) ?_
    refine e_ifne rfl (fun h2 => ?_) (fun h2 => ?_)
    · iterate 1 refine e_sp rfl rfl rfl ?_
      refine e_ldc rfl cn_H_132 ?_
      refine e_ldc rfl cn_H_133 ?_
      refine e_callS1 ok_H_isWithin rfl lk_H_83 k_H_isWithin rfl rfl ⟨Nat.le_of_ble_eq_true rfl, Nat.le_of_ble_eq_true rfl⟩ ⟨Nat.zero_le _, Nat.zero_le _⟩ (Nat.le_of_ble_eq_true rfl) ?_
      refine e_ifeq rfl (fun h3 => ?_) (fun h3 => ?_)
      · try dsimp only
        exact e_throw (tw := 2) (ji := 134) (ic := 91) (idx := 87) hfl rfl rfl (Or.inl ⟨rfl, rfl⟩) rfl rfl rfl (List.mem_of_getElem? (i := 5) rfl) xok_IA ok_H_grid.2.2.1 cl_87 (by decide)
      · iterate 1 refine e_sp rfl rfl rfl ?_
        refine e_ldc rfl cn_H_132 ?_
        refine e_ldc rfl cn_H_133 ?_
        refine e_callS1 ok_H_isWithin rfl lk_H_83 k_H_isWithin rfl rfl ⟨Nat.le_of_ble_eq_true rfl, Nat.le_of_ble_eq_true rfl⟩ ⟨Nat.zero_le _, Nat.zero_le _⟩ (Nat.le_of_ble_eq_true rfl) ?_
        refine e_ifne rfl (fun h4 => ?_) (fun h4 => ?_)
        · iterate 1 refine e_sp rfl rfl rfl ?_
          refine e_cs (-4096) rfl rfl ?_
          refine e_cs 4096 rfl rfl ?_
          refine e_callS1 ok_H_isWithin rfl lk_H_83 k_H_isWithin rfl rfl ⟨Nat.le_of_ble_eq_true rfl, Nat.le_of_ble_eq_true rfl⟩ ⟨Nat.zero_le _, Nat.zero_le _⟩ (Nat.le_of_ble_eq_true rfl) ?_
          refine e_ifeq rfl (fun h5 => ?_) (fun h5 => ?_)
          · try dsimp only
            exact e_throw (tw := 2) (ji := 136) (ic := 91) (idx := 87) hfl rfl rfl (Or.inl ⟨rfl, rfl⟩) rfl rfl rfl (List.mem_of_getElem? (i := 6) rfl) xok_IA ok_H_grid.2.2.1 cl_87 (by decide)
          · iterate 1 refine e_sp rfl rfl rfl ?_
            refine e_cs (-4096) rfl rfl ?_
            refine e_cs 4096 rfl rfl ?_
            refine e_callS1 ok_H_isWithin rfl lk_H_83 k_H_isWithin rfl rfl ⟨Nat.le_of_ble_eq_true rfl, Nat.le_of_ble_eq_true rfl⟩ ⟨Nat.zero_le _, Nat.zero_le _⟩ (Nat.le_of_ble_eq_true rfl) ?_
            refine e_ifne rfl (fun h6 => ?_) (fun h6 => ?_)
            · iterate 1 refine e_sp rfl rfl rfl ?_
              refine e_ifne rfl (fun h7 => ?_) (fun h7 => ?_)
              · try dsimp only
                exact absurd hok (by unfold okG; (first | rw [if_pos h1] | rw [if_neg h1] | skip); (first | rw [if_pos h2] | rw [if_neg h2] | skip); (first | rw [if_pos h3] | rw [if_neg h3] | skip); (first | rw [if_pos h4] | rw [if_neg h4] | skip); (first | rw [if_pos h5] | rw [if_neg h5] | skip); (first | rw [if_pos h6] | rw [if_neg h6] | skip); (first | rw [if_pos h7] | rw [if_neg h7] | skip); decide)
              · iterate 1 refine e_sp rfl rfl rfl ?_
                refine e_ifne rfl (fun h8 => ?_) (fun h8 => ?_)
                · try dsimp only
                  exact absurd hok (by unfold okG; (first | rw [if_pos h1] | rw [if_neg h1] | skip); (first | rw [if_pos h2] | rw [if_neg h2] | skip); (first | rw [if_pos h3] | rw [if_neg h3] | skip); (first | rw [if_pos h4] | rw [if_neg h4] | skip); (first | rw [if_pos h5] | rw [if_neg h5] | skip); (first | rw [if_pos h6] | rw [if_neg h6] | skip); (first | rw [if_pos h7] | rw [if_neg h7] | skip); (first | rw [if_pos h8] | rw [if_neg h8] | skip); decide)
                · try dsimp only
                  exact e_throw (tw := 2) (ji := 138) (ic := 91) (idx := 87) hfl rfl rfl (Or.inl ⟨rfl, rfl⟩) rfl rfl rfl (List.mem_of_getElem? (i := 7) rfl) xok_IA ok_H_grid.2.2.1 cl_87 (by decide)
            · try dsimp only
              exact e_throw (tw := 2) (ji := 136) (ic := 91) (idx := 87) hfl rfl rfl (Or.inl ⟨rfl, rfl⟩) rfl rfl rfl (List.mem_of_getElem? (i := 6) rfl) xok_IA ok_H_grid.2.2.1 cl_87 (by decide)
        · try dsimp only
          exact e_throw (tw := 2) (ji := 134) (ic := 91) (idx := 87) hfl rfl rfl (Or.inl ⟨rfl, rfl⟩) rfl rfl rfl (List.mem_of_getElem? (i := 5) rfl) xok_IA ok_H_grid.2.2.1 cl_87 (by decide)
    · try dsimp only
      exact e_throw (tw := 2) (ji := 130) (ic := 91) (idx := 87) hfl rfl rfl (Or.inl ⟨rfl, rfl⟩) rfl rfl rfl (List.mem_of_getElem? (i := 4) rfl) xok_IA ok_H_grid.2.2.1 cl_87 (by decide)
set_option maxHeartbeats 4000000 in
set_option maxRecDepth 40000 in
theorem k_H_where {l : Launch} {h : Nat} {S : St} {i j a : Int32}  (hok : whH S i j a = 0) : KK l (SHm h) (2, 44) m_H_where [aR 0, aI i, aI j, aI a] S (ans (some (aI (if a = 0 then lfL S i j else tpL S i j))) S) := by
  refine k_start ok_H_where (Nat.le_of_ble_eq_true rfl) ?_
  iterate 4 refine e_sp rfl rfl rfl ?_
  refine e_callV1 ok_L_has rfl lk_H_149 (by rfl) (by rfl) k_L_has rfl rfl ⟨Nat.le_of_ble_eq_true rfl, Nat.le_of_ble_eq_true rfl⟩ ⟨Nat.zero_le _, Nat.zero_le _⟩ (Nat.le_of_ble_eq_true rfl) ?_
  refine e_ifne rfl (fun h1 => ?_) (fun h1 => ?_)
  · iterate 1 refine e_sp rfl rfl rfl ?_
    refine e_ci 0 rfl rfl ?_
    refine e_ci 1 rfl rfl ?_
    refine e_callS1 ok_H_isWithin rfl lk_H_83 k_H_isWithin rfl rfl ⟨Nat.le_of_ble_eq_true rfl, Nat.le_of_ble_eq_true rfl⟩ ⟨Nat.zero_le _, Nat.zero_le _⟩ (Nat.le_of_ble_eq_true rfl) ?_
    refine e_ifne rfl (fun h2 => ?_) (fun h2 => ?_)
    · iterate 1 refine e_sp rfl rfl rfl ?_
      refine e_ifne rfl (fun h3 => ?_) (fun h3 => ?_)
      · iterate 4 refine e_sp rfl rfl rfl ?_
        refine e_callV1 ok_L_topOf rfl lk_H_159 (by rfl) (by rfl) k_L_topOf rfl rfl ⟨Nat.le_of_ble_eq_true rfl, Nat.le_of_ble_eq_true rfl⟩ ⟨Nat.zero_le _, Nat.zero_le _⟩ (Nat.le_of_ble_eq_true rfl) ?_
        refine e_iret rfl rfl (Nat.le_refl _) (Nat.le_refl _) ?_
        exact ⟨by simp [h3], rfl⟩
      · iterate 4 refine e_sp rfl rfl rfl ?_
        refine e_callV1 ok_L_leftOf rfl lk_H_156 (by rfl) (by rfl) k_L_leftOf rfl rfl ⟨Nat.le_of_ble_eq_true rfl, Nat.le_of_ble_eq_true rfl⟩ ⟨Nat.zero_le _, Nat.zero_le _⟩ (Nat.le_of_ble_eq_true rfl) ?_
        refine e_goto rfl ?_
        refine e_iret rfl rfl (Nat.le_refl _) (Nat.le_refl _) ?_
        exact ⟨by simp [h3], rfl⟩
    · try dsimp only
      exact absurd hok (by unfold whH; (first | rw [if_pos h1] | rw [if_neg h1] | skip); (first | rw [if_pos h2] | rw [if_neg h2] | skip); decide)
  · try dsimp only
    exact absurd hok (by unfold whH; (first | rw [if_pos h1] | rw [if_neg h1] | skip); decide)
set_option maxHeartbeats 4000000 in
set_option maxRecDepth 40000 in
theorem x_H_where_xIB {l : Launch} {h : Nat} {S : St} {i j a : Int32} (hfl : l.flags = Jvm.pinnedFlags ++ [Jvm.noTraceFlag])  (hok : whH S i j a = 1) : KX l (SHm h) (6, 90) m_H_where [aR 0, aI i, aI j, aI a] S xIB := by
  refine k_startX ok_H_where (Nat.le_of_ble_eq_true rfl) ?_
  iterate 4 refine e_sp rfl rfl rfl ?_
  refine e_callV1 ok_L_has rfl lk_H_149 (by rfl) (by rfl) k_L_has rfl rfl ⟨Nat.le_of_ble_eq_true rfl, Nat.le_of_ble_eq_true rfl⟩ ⟨Nat.zero_le _, Nat.zero_le _⟩ (Nat.le_of_ble_eq_true rfl) ?_
  refine e_ifne rfl (fun h1 => ?_) (fun h1 => ?_)
  · iterate 1 refine e_sp rfl rfl rfl ?_
    refine e_ci 0 rfl rfl ?_
    refine e_ci 1 rfl rfl ?_
    refine e_callS1 ok_H_isWithin rfl lk_H_83 k_H_isWithin rfl rfl ⟨Nat.le_of_ble_eq_true rfl, Nat.le_of_ble_eq_true rfl⟩ ⟨Nat.zero_le _, Nat.zero_le _⟩ (Nat.le_of_ble_eq_true rfl) ?_
    refine e_ifne rfl (fun h2 => ?_) (fun h2 => ?_)
    · try dsimp only
      exact absurd hok (by unfold whH; (first | rw [if_pos h1] | rw [if_neg h1] | skip); (first | rw [if_pos h2] | rw [if_neg h2] | skip); decide)
    · try dsimp only
      exact absurd hok (by unfold whH; (first | rw [if_pos h1] | rw [if_neg h1] | skip); (first | rw [if_pos h2] | rw [if_neg h2] | skip); decide)
  · try dsimp only
    exact e_throw (tw := 2) (ji := 152) (ic := 123) (idx := 119) hfl rfl rfl (Or.inl ⟨rfl, rfl⟩) rfl rfl rfl (List.mem_of_getElem? (i := 8) rfl) xok_IB ok_H_where.2.2.1 cl_119 (by decide)
set_option maxHeartbeats 4000000 in
set_option maxRecDepth 40000 in
theorem x_H_where_xIA {l : Launch} {h : Nat} {S : St} {i j a : Int32} (hfl : l.flags = Jvm.pinnedFlags ++ [Jvm.noTraceFlag])  (hok : whH S i j a = 2) : KX l (SHm h) (6, 90) m_H_where [aR 0, aI i, aI j, aI a] S xIA := by
  refine k_startX ok_H_where (Nat.le_of_ble_eq_true rfl) ?_
  iterate 4 refine e_sp rfl rfl rfl ?_
  refine e_callV1 ok_L_has rfl lk_H_149 (by rfl) (by rfl) k_L_has rfl rfl ⟨Nat.le_of_ble_eq_true rfl, Nat.le_of_ble_eq_true rfl⟩ ⟨Nat.zero_le _, Nat.zero_le _⟩ (Nat.le_of_ble_eq_true rfl) ?_
  refine e_ifne rfl (fun h1 => ?_) (fun h1 => ?_)
  · iterate 1 refine e_sp rfl rfl rfl ?_
    refine e_ci 0 rfl rfl ?_
    refine e_ci 1 rfl rfl ?_
    refine e_callS1 ok_H_isWithin rfl lk_H_83 k_H_isWithin rfl rfl ⟨Nat.le_of_ble_eq_true rfl, Nat.le_of_ble_eq_true rfl⟩ ⟨Nat.zero_le _, Nat.zero_le _⟩ (Nat.le_of_ble_eq_true rfl) ?_
    refine e_ifne rfl (fun h2 => ?_) (fun h2 => ?_)
    · try dsimp only
      exact absurd hok (by unfold whH; (first | rw [if_pos h1] | rw [if_neg h1] | skip); (first | rw [if_pos h2] | rw [if_neg h2] | skip); decide)
    · try dsimp only
      exact e_throw (tw := 2) (ji := 154) (ic := 91) (idx := 87) hfl rfl rfl (Or.inl ⟨rfl, rfl⟩) rfl rfl rfl (List.mem_of_getElem? (i := 9) rfl) xok_IA ok_H_where.2.2.1 cl_87 (by decide)
  · try dsimp only
    exact absurd hok (by unfold whH; (first | rw [if_pos h1] | rw [if_neg h1] | skip); decide)
set_option maxHeartbeats 4000000 in
set_option maxRecDepth 40000 in
theorem k_H_outside {l : Launch} {h : Nat} {S : St} {i j : Int32}  (hok : c1H (haL S i j) = 0) : KK l (SHm h) (2, 46) m_H_outside [aR 0, aI i, aI j] S (ans (some (aI (ouH S i j))) S) := by
  refine k_start ok_H_outside (Nat.le_of_ble_eq_true rfl) ?_
  iterate 4 refine e_sp rfl rfl rfl ?_
  refine e_callV1 ok_L_has rfl lk_H_149 (by rfl) (by rfl) k_L_has rfl rfl ⟨Nat.le_of_ble_eq_true rfl, Nat.le_of_ble_eq_true rfl⟩ ⟨Nat.zero_le _, Nat.zero_le _⟩ (Nat.le_of_ble_eq_true rfl) ?_
  refine e_ifne rfl (fun h1 => ?_) (fun h1 => ?_)
  · iterate 3 refine e_sp rfl rfl rfl ?_
    refine e_callV1 ok_H_isOutside rfl lk_H_162 (by rfl) (by rfl) k_H_isOutside rfl rfl ⟨Nat.le_of_ble_eq_true rfl, Nat.le_of_ble_eq_true rfl⟩ ⟨Nat.zero_le _, Nat.zero_le _⟩ (Nat.le_of_ble_eq_true rfl) ?_
    refine e_zret rfl rfl (Nat.le_refl _) (Nat.le_refl _) (by exact ouH_01 _ _ _) ?_
    exact ⟨rfl, rfl⟩
  · try dsimp only
    exact absurd hok (by unfold c1H; (first | rw [if_pos h1] | rw [if_neg h1] | skip); decide)
set_option maxHeartbeats 4000000 in
set_option maxRecDepth 40000 in
theorem x_H_outside_xIB {l : Launch} {h : Nat} {S : St} {i j : Int32} (hfl : l.flags = Jvm.pinnedFlags ++ [Jvm.noTraceFlag])  (hok : c1H (haL S i j) = 1) : KX l (SHm h) (6, 90) m_H_outside [aR 0, aI i, aI j] S xIB := by
  refine k_startX ok_H_outside (Nat.le_of_ble_eq_true rfl) ?_
  iterate 4 refine e_sp rfl rfl rfl ?_
  refine e_callV1 ok_L_has rfl lk_H_149 (by rfl) (by rfl) k_L_has rfl rfl ⟨Nat.le_of_ble_eq_true rfl, Nat.le_of_ble_eq_true rfl⟩ ⟨Nat.zero_le _, Nat.zero_le _⟩ (Nat.le_of_ble_eq_true rfl) ?_
  refine e_ifne rfl (fun h1 => ?_) (fun h1 => ?_)
  · try dsimp only
    exact absurd hok (by unfold c1H; (first | rw [if_pos h1] | rw [if_neg h1] | skip); decide)
  · try dsimp only
    exact e_throw (tw := 2) (ji := 152) (ic := 123) (idx := 119) hfl rfl rfl (Or.inl ⟨rfl, rfl⟩) rfl rfl rfl (List.mem_of_getElem? (i := 8) rfl) xok_IB ok_H_outside.2.2.1 cl_119 (by decide)
set_option maxHeartbeats 4000000 in
set_option maxRecDepth 40000 in
theorem k_H_grey {l : Launch} {h : Nat} {S : St} {i j v : Int32}  (hok : gyH S i j v = 0) : KK l (SHm h) (3, 69) m_H_grey [aR 0, aI i, aI j, aI v] S (ans (some (aI (cgR S i j v))) (cgS S i j v)) := by
  refine k_start ok_H_grey (Nat.le_of_ble_eq_true rfl) ?_
  iterate 4 refine e_sp rfl rfl rfl ?_
  refine e_callV1 ok_L_has rfl lk_H_149 (by rfl) (by rfl) k_L_has rfl rfl ⟨Nat.le_of_ble_eq_true rfl, Nat.le_of_ble_eq_true rfl⟩ ⟨Nat.zero_le _, Nat.zero_le _⟩ (Nat.le_of_ble_eq_true rfl) ?_
  refine e_ifne rfl (fun h1 => ?_) (fun h1 => ?_)
  · iterate 3 refine e_sp rfl rfl rfl ?_
    refine e_callV1 ok_B_hasPattern rfl lk_H_165 (by rfl) (by rfl) k_B_hasPattern rfl rfl ⟨Nat.le_of_ble_eq_true rfl, Nat.le_of_ble_eq_true rfl⟩ ⟨Nat.zero_le _, Nat.zero_le _⟩ (Nat.le_of_ble_eq_true rfl) ?_
    refine e_ifne rfl (fun h2 => ?_) (fun h2 => ?_)
    · iterate 5 refine e_sp rfl rfl rfl ?_
      refine e_callV1 ok_L_changeGrey rfl lk_H_171 (by rfl) (by rfl) k_L_changeGrey rfl rfl ⟨Nat.le_of_ble_eq_true rfl, Nat.le_of_ble_eq_true rfl⟩ ⟨Nat.zero_le _, Nat.zero_le _⟩ (Nat.le_of_ble_eq_true rfl) ?_
      refine e_zret rfl rfl (Nat.le_refl _) (Nat.le_refl _) (by exact cgR_01 _ _ _ _) ?_
      exact ⟨rfl, rfl⟩
    · try dsimp only
      exact absurd hok (by unfold gyH; (first | rw [if_pos h1] | rw [if_neg h1] | skip); (first | rw [if_pos h2] | rw [if_neg h2] | skip); decide)
  · try dsimp only
    exact absurd hok (by unfold gyH; (first | rw [if_pos h1] | rw [if_neg h1] | skip); decide)
set_option maxHeartbeats 4000000 in
set_option maxRecDepth 40000 in
theorem x_H_grey_xIB {l : Launch} {h : Nat} {S : St} {i j v : Int32} (hfl : l.flags = Jvm.pinnedFlags ++ [Jvm.noTraceFlag])  (hok : gyH S i j v = 1) : KX l (SHm h) (6, 90) m_H_grey [aR 0, aI i, aI j, aI v] S xIB := by
  refine k_startX ok_H_grey (Nat.le_of_ble_eq_true rfl) ?_
  iterate 4 refine e_sp rfl rfl rfl ?_
  refine e_callV1 ok_L_has rfl lk_H_149 (by rfl) (by rfl) k_L_has rfl rfl ⟨Nat.le_of_ble_eq_true rfl, Nat.le_of_ble_eq_true rfl⟩ ⟨Nat.zero_le _, Nat.zero_le _⟩ (Nat.le_of_ble_eq_true rfl) ?_
  refine e_ifne rfl (fun h1 => ?_) (fun h1 => ?_)
  · iterate 3 refine e_sp rfl rfl rfl ?_
    refine e_callV1 ok_B_hasPattern rfl lk_H_165 (by rfl) (by rfl) k_B_hasPattern rfl rfl ⟨Nat.le_of_ble_eq_true rfl, Nat.le_of_ble_eq_true rfl⟩ ⟨Nat.zero_le _, Nat.zero_le _⟩ (Nat.le_of_ble_eq_true rfl) ?_
    refine e_ifne rfl (fun h2 => ?_) (fun h2 => ?_)
    · try dsimp only
      exact absurd hok (by unfold gyH; (first | rw [if_pos h1] | rw [if_neg h1] | skip); (first | rw [if_pos h2] | rw [if_neg h2] | skip); decide)
    · try dsimp only
      exact absurd hok (by unfold gyH; (first | rw [if_pos h1] | rw [if_neg h1] | skip); (first | rw [if_pos h2] | rw [if_neg h2] | skip); decide)
  · try dsimp only
    exact e_throw (tw := 2) (ji := 152) (ic := 123) (idx := 119) hfl rfl rfl (Or.inl ⟨rfl, rfl⟩) rfl rfl rfl (List.mem_of_getElem? (i := 8) rfl) xok_IB ok_H_grey.2.2.1 cl_119 (by decide)
set_option maxHeartbeats 4000000 in
set_option maxRecDepth 40000 in
theorem x_H_grey_xIA {l : Launch} {h : Nat} {S : St} {i j v : Int32} (hfl : l.flags = Jvm.pinnedFlags ++ [Jvm.noTraceFlag])  (hok : gyH S i j v = 2) : KX l (SHm h) (6, 90) m_H_grey [aR 0, aI i, aI j, aI v] S xIA := by
  refine k_startX ok_H_grey (Nat.le_of_ble_eq_true rfl) ?_
  iterate 4 refine e_sp rfl rfl rfl ?_
  refine e_callV1 ok_L_has rfl lk_H_149 (by rfl) (by rfl) k_L_has rfl rfl ⟨Nat.le_of_ble_eq_true rfl, Nat.le_of_ble_eq_true rfl⟩ ⟨Nat.zero_le _, Nat.zero_le _⟩ (Nat.le_of_ble_eq_true rfl) ?_
  refine e_ifne rfl (fun h1 => ?_) (fun h1 => ?_)
  · iterate 3 refine e_sp rfl rfl rfl ?_
    refine e_callV1 ok_B_hasPattern rfl lk_H_165 (by rfl) (by rfl) k_B_hasPattern rfl rfl ⟨Nat.le_of_ble_eq_true rfl, Nat.le_of_ble_eq_true rfl⟩ ⟨Nat.zero_le _, Nat.zero_le _⟩ (Nat.le_of_ble_eq_true rfl) ?_
    refine e_ifne rfl (fun h2 => ?_) (fun h2 => ?_)
    · try dsimp only
      exact absurd hok (by unfold gyH; (first | rw [if_pos h1] | rw [if_neg h1] | skip); (first | rw [if_pos h2] | rw [if_neg h2] | skip); decide)
    · try dsimp only
      exact e_throw (tw := 2) (ji := 169) (ic := 91) (idx := 87) hfl rfl rfl (Or.inl ⟨rfl, rfl⟩) rfl rfl rfl (List.mem_of_getElem? (i := 10) rfl) xok_IA ok_H_grey.2.2.1 cl_87 (by decide)
  · try dsimp only
    exact absurd hok (by unfold gyH; (first | rw [if_pos h1] | rw [if_neg h1] | skip); decide)
set_option maxHeartbeats 4000000 in
set_option maxRecDepth 40000 in
theorem k_H_greyAt {l : Launch} {h : Nat} {S : St} {i j : Int32}  (hok : c1H (haL S i j) = 0) : KK l (SHm h) (3, 67) m_H_greyAt [aR 0, aI i, aI j] S (ans (some (aI (grL S i j))) S) := by
  refine k_start ok_H_greyAt (Nat.le_of_ble_eq_true rfl) ?_
  iterate 4 refine e_sp rfl rfl rfl ?_
  refine e_callV1 ok_L_has rfl lk_H_149 (by rfl) (by rfl) k_L_has rfl rfl ⟨Nat.le_of_ble_eq_true rfl, Nat.le_of_ble_eq_true rfl⟩ ⟨Nat.zero_le _, Nat.zero_le _⟩ (Nat.le_of_ble_eq_true rfl) ?_
  refine e_ifne rfl (fun h1 => ?_) (fun h1 => ?_)
  · iterate 4 refine e_sp rfl rfl rfl ?_
    refine e_callV1 ok_L_greyOf rfl lk_H_174 (by rfl) (by rfl) k_L_greyOf rfl rfl ⟨Nat.le_of_ble_eq_true rfl, Nat.le_of_ble_eq_true rfl⟩ ⟨Nat.zero_le _, Nat.zero_le _⟩ (Nat.le_of_ble_eq_true rfl) ?_
    refine e_iret rfl rfl (Nat.le_refl _) (Nat.le_refl _) ?_
    exact ⟨rfl, rfl⟩
  · try dsimp only
    exact absurd hok (by unfold c1H; (first | rw [if_pos h1] | rw [if_neg h1] | skip); decide)
set_option maxHeartbeats 4000000 in
set_option maxRecDepth 40000 in
theorem x_H_greyAt_xIB {l : Launch} {h : Nat} {S : St} {i j : Int32} (hfl : l.flags = Jvm.pinnedFlags ++ [Jvm.noTraceFlag])  (hok : c1H (haL S i j) = 1) : KX l (SHm h) (6, 90) m_H_greyAt [aR 0, aI i, aI j] S xIB := by
  refine k_startX ok_H_greyAt (Nat.le_of_ble_eq_true rfl) ?_
  iterate 4 refine e_sp rfl rfl rfl ?_
  refine e_callV1 ok_L_has rfl lk_H_149 (by rfl) (by rfl) k_L_has rfl rfl ⟨Nat.le_of_ble_eq_true rfl, Nat.le_of_ble_eq_true rfl⟩ ⟨Nat.zero_le _, Nat.zero_le _⟩ (Nat.le_of_ble_eq_true rfl) ?_
  refine e_ifne rfl (fun h1 => ?_) (fun h1 => ?_)
  · try dsimp only
    exact absurd hok (by unfold c1H; (first | rw [if_pos h1] | rw [if_neg h1] | skip); decide)
  · try dsimp only
    exact e_throw (tw := 2) (ji := 152) (ic := 123) (idx := 119) hfl rfl rfl (Or.inl ⟨rfl, rfl⟩) rfl rfl rfl (List.mem_of_getElem? (i := 8) rfl) xok_IB ok_H_greyAt.2.2.1 cl_119 (by decide)
set_option maxHeartbeats 4000000 in
set_option maxRecDepth 40000 in
theorem k_H_way {l : Launch} {h : Nat} {S : St} {w v : Int32}  (hok : wyC w v = 0) : KK l (SHm h) (1, 23) m_H_way [aR 0, aI w, aI v] S (ans (some (aI (cwR S w))) (cwS9 S w v)) := by
  refine k_start ok_H_way (Nat.le_of_ble_eq_true rfl) ?_
  iterate 1 refine e_sp rfl rfl rfl ?_
  refine e_ci 0 rfl rfl ?_
  refine e_ci 2 rfl rfl ?_
  refine e_callS1 ok_H_isWithin rfl lk_H_83 k_H_isWithin rfl rfl ⟨Nat.le_of_ble_eq_true rfl, Nat.le_of_ble_eq_true rfl⟩ ⟨Nat.zero_le _, Nat.zero_le _⟩ (Nat.le_of_ble_eq_true rfl) ?_
  refine e_ifne rfl (fun h1 => ?_) (fun h1 => ?_)
  · iterate 1 refine e_sp rfl rfl rfl ?_
    refine e_ci 0 rfl rfl ?_
    iterate 1 refine e_sp rfl rfl rfl ?_
    refine e_ifne rfl (fun h2 => ?_) (fun h2 => ?_)
    · refine e_ci 1 rfl rfl ?_
      refine e_callS1 ok_H_isWithin rfl lk_H_83 k_H_isWithin rfl rfl ⟨Nat.le_of_ble_eq_true rfl, Nat.le_of_ble_eq_true rfl⟩ ⟨Nat.zero_le _, Nat.zero_le _⟩ (Nat.le_of_ble_eq_true rfl) ?_
      refine e_ifne rfl (fun h3 => ?_) (fun h3 => ?_)
      · iterate 3 refine e_sp rfl rfl rfl ?_
        refine e_callV1 ok_H_changeWay rfl lk_H_181 (by rfl) (by rfl) k_H_changeWay rfl rfl ⟨Nat.le_of_ble_eq_true rfl, Nat.le_of_ble_eq_true rfl⟩ ⟨Nat.zero_le _, Nat.zero_le _⟩ (Nat.le_of_ble_eq_true rfl) ?_
        refine e_iret rfl rfl (Nat.le_refl _) (Nat.le_refl _) ?_
        exact ⟨rfl, rfl⟩
      · try dsimp only
        exact absurd hok (by unfold wyC; (first | rw [if_pos h1] | rw [if_neg h1] | skip); (first | rw [if_pos h2] | rw [if_neg h2] | skip); (first | rw [if_pos h3] | rw [if_neg h3] | skip); decide)
    · refine e_ci 4 rfl rfl ?_
      refine e_goto rfl ?_
      refine e_callS1 ok_H_isWithin rfl lk_H_83 k_H_isWithin rfl rfl ⟨Nat.le_of_ble_eq_true rfl, Nat.le_of_ble_eq_true rfl⟩ ⟨Nat.zero_le _, Nat.zero_le _⟩ (Nat.le_of_ble_eq_true rfl) ?_
      refine e_ifne rfl (fun h4 => ?_) (fun h4 => ?_)
      · iterate 3 refine e_sp rfl rfl rfl ?_
        refine e_callV1 ok_H_changeWay rfl lk_H_181 (by rfl) (by rfl) k_H_changeWay rfl rfl ⟨Nat.le_of_ble_eq_true rfl, Nat.le_of_ble_eq_true rfl⟩ ⟨Nat.zero_le _, Nat.zero_le _⟩ (Nat.le_of_ble_eq_true rfl) ?_
        refine e_iret rfl rfl (Nat.le_refl _) (Nat.le_refl _) ?_
        exact ⟨rfl, rfl⟩
      · try dsimp only
        exact absurd hok (by unfold wyC; (first | rw [if_pos h1] | rw [if_neg h1] | skip); (first | rw [if_pos h2] | rw [if_neg h2] | skip); (first | rw [if_pos h4] | rw [if_neg h4] | skip); decide)
  · try dsimp only
    exact absurd hok (by unfold wyC; (first | rw [if_pos h1] | rw [if_neg h1] | skip); decide)
set_option maxHeartbeats 4000000 in
set_option maxRecDepth 40000 in
theorem x_H_way_xIA {l : Launch} {h : Nat} {S : St} {w v : Int32} (hfl : l.flags = Jvm.pinnedFlags ++ [Jvm.noTraceFlag])  (hok : wyC w v = 1) : KX l (SHm h) (6, 90) m_H_way [aR 0, aI w, aI v] S xIA := by
  refine k_startX ok_H_way (Nat.le_of_ble_eq_true rfl) ?_
  iterate 1 refine e_sp rfl rfl rfl ?_
  refine e_ci 0 rfl rfl ?_
  refine e_ci 2 rfl rfl ?_
  refine e_callS1 ok_H_isWithin rfl lk_H_83 k_H_isWithin rfl rfl ⟨Nat.le_of_ble_eq_true rfl, Nat.le_of_ble_eq_true rfl⟩ ⟨Nat.zero_le _, Nat.zero_le _⟩ (Nat.le_of_ble_eq_true rfl) ?_
  refine e_ifne rfl (fun h1 => ?_) (fun h1 => ?_)
  · iterate 1 refine e_sp rfl rfl rfl ?_
    refine e_ci 0 rfl rfl ?_
    iterate 1 refine e_sp rfl rfl rfl ?_
    refine e_ifne rfl (fun h2 => ?_) (fun h2 => ?_)
    · refine e_ci 1 rfl rfl ?_
      refine e_callS1 ok_H_isWithin rfl lk_H_83 k_H_isWithin rfl rfl ⟨Nat.le_of_ble_eq_true rfl, Nat.le_of_ble_eq_true rfl⟩ ⟨Nat.zero_le _, Nat.zero_le _⟩ (Nat.le_of_ble_eq_true rfl) ?_
      refine e_ifne rfl (fun h3 => ?_) (fun h3 => ?_)
      · try dsimp only
        exact absurd hok (by unfold wyC; (first | rw [if_pos h1] | rw [if_neg h1] | skip); (first | rw [if_pos h2] | rw [if_neg h2] | skip); (first | rw [if_pos h3] | rw [if_neg h3] | skip); decide)
      · try dsimp only
        exact e_throw (tw := 2) (ji := 179) (ic := 91) (idx := 87) hfl rfl rfl (Or.inl ⟨rfl, rfl⟩) rfl rfl rfl (List.mem_of_getElem? (i := 12) rfl) xok_IA ok_H_way.2.2.1 cl_87 (by decide)
    · refine e_ci 4 rfl rfl ?_
      refine e_goto rfl ?_
      refine e_callS1 ok_H_isWithin rfl lk_H_83 k_H_isWithin rfl rfl ⟨Nat.le_of_ble_eq_true rfl, Nat.le_of_ble_eq_true rfl⟩ ⟨Nat.zero_le _, Nat.zero_le _⟩ (Nat.le_of_ble_eq_true rfl) ?_
      refine e_ifne rfl (fun h4 => ?_) (fun h4 => ?_)
      · try dsimp only
        exact absurd hok (by unfold wyC; (first | rw [if_pos h1] | rw [if_neg h1] | skip); (first | rw [if_pos h2] | rw [if_neg h2] | skip); (first | rw [if_pos h4] | rw [if_neg h4] | skip); decide)
      · try dsimp only
        exact e_throw (tw := 2) (ji := 179) (ic := 91) (idx := 87) hfl rfl rfl (Or.inl ⟨rfl, rfl⟩) rfl rfl rfl (List.mem_of_getElem? (i := 12) rfl) xok_IA ok_H_way.2.2.1 cl_87 (by decide)
  · try dsimp only
    exact e_throw (tw := 2) (ji := 177) (ic := 91) (idx := 87) hfl rfl rfl (Or.inl ⟨rfl, rfl⟩) rfl rfl rfl (List.mem_of_getElem? (i := 11) rfl) xok_IA ok_H_way.2.2.1 cl_87 (by decide)
set_option maxHeartbeats 4000000 in
set_option maxRecDepth 40000 in
theorem k_H_row {l : Launch} {h : Nat} {S : St} {y b : Int32}  (hh : h < 2 ^ 31) (hok : c1H (wi y 0 (S.1 0 1 - 1)) = 0) : KK l (SHm h) (2, 45) m_H_row [aR 0, aI y, aI b] S (ans (some (aI (clR S 2 h (S.1 1 1) y b))) (clS S 2 h (S.1 1 1) y b)) := by
  refine k_start ok_H_row (Nat.le_of_ble_eq_true rfl) ?_
  iterate 1 refine e_sp rfl rfl rfl ?_
  refine e_ci 0 rfl rfl ?_
  iterate 2 refine e_sp rfl rfl rfl ?_
  refine e_ci 1 rfl rfl ?_
  iterate 1 refine e_sp rfl rfl rfl ?_
  refine e_callS1 ok_H_isWithin rfl lk_H_83 k_H_isWithin rfl rfl ⟨Nat.le_of_ble_eq_true rfl, Nat.le_of_ble_eq_true rfl⟩ ⟨Nat.zero_le _, Nat.zero_le _⟩ (Nat.le_of_ble_eq_true rfl) ?_
  refine e_ifne rfl (fun h1 => ?_) (fun h1 => ?_)
  · iterate 4 refine e_sp rfl rfl rfl ?_
    refine e_callV1 ok_S_changeLine rfl lk_H_186 (by rfl) (by rfl) (k_S_changeLine_1 hh) rfl rfl ⟨Nat.le_of_ble_eq_true rfl, Nat.le_of_ble_eq_true rfl⟩ ⟨Nat.zero_le _, Nat.zero_le _⟩ (Nat.le_of_ble_eq_true rfl) ?_
    refine e_iret rfl rfl (Nat.le_refl _) (Nat.le_refl _) ?_
    exact ⟨rfl, rfl⟩
  · try dsimp only
    exact absurd hok (by unfold c1H; (first | rw [if_pos h1] | rw [if_neg h1] | skip); decide)
set_option maxHeartbeats 4000000 in
set_option maxRecDepth 40000 in
theorem x_H_row_xIB {l : Launch} {h : Nat} {S : St} {y b : Int32} (hfl : l.flags = Jvm.pinnedFlags ++ [Jvm.noTraceFlag])  (hok : c1H (wi y 0 (S.1 0 1 - 1)) = 1) : KX l (SHm h) (6, 90) m_H_row [aR 0, aI y, aI b] S xIB := by
  refine k_startX ok_H_row (Nat.le_of_ble_eq_true rfl) ?_
  iterate 1 refine e_sp rfl rfl rfl ?_
  refine e_ci 0 rfl rfl ?_
  iterate 2 refine e_sp rfl rfl rfl ?_
  refine e_ci 1 rfl rfl ?_
  iterate 1 refine e_sp rfl rfl rfl ?_
  refine e_callS1 ok_H_isWithin rfl lk_H_83 k_H_isWithin rfl rfl ⟨Nat.le_of_ble_eq_true rfl, Nat.le_of_ble_eq_true rfl⟩ ⟨Nat.zero_le _, Nat.zero_le _⟩ (Nat.le_of_ble_eq_true rfl) ?_
  refine e_ifne rfl (fun h1 => ?_) (fun h1 => ?_)
  · try dsimp only
    exact absurd hok (by unfold c1H; (first | rw [if_pos h1] | rw [if_neg h1] | skip); decide)
  · try dsimp only
    exact e_throw (tw := 2) (ji := 184) (ic := 123) (idx := 119) hfl rfl rfl (Or.inl ⟨rfl, rfl⟩) rfl rfl rfl (List.mem_of_getElem? (i := 13) rfl) xok_IB ok_H_row.2.2.1 cl_119 (by decide)
set_option maxHeartbeats 4000000 in
set_option maxRecDepth 40000 in
theorem k_H_count {l : Launch} {h : Nat} {S : St} {i j : Int32}  (hh : h < 2 ^ 31) (h0 : S.1 0 1 = nI h) (hok : c1H (haL S i j) = 0) : KK l (SHm h) (3, 72) m_H_count [aR 0, aI i, aI j] S (ans (some (aI (duH S h i j))) S) := by
  refine k_start ok_H_count (Nat.le_of_ble_eq_true rfl) ?_
  iterate 4 refine e_sp rfl rfl rfl ?_
  refine e_callV1 ok_L_has rfl lk_H_149 (by rfl) (by rfl) k_L_has rfl rfl ⟨Nat.le_of_ble_eq_true rfl, Nat.le_of_ble_eq_true rfl⟩ ⟨Nat.zero_le _, Nat.zero_le _⟩ (Nat.le_of_ble_eq_true rfl) ?_
  refine e_ifne rfl (fun h1 => ?_) (fun h1 => ?_)
  · iterate 3 refine e_sp rfl rfl rfl ?_
    refine e_callV1 ok_H_darkUnder rfl lk_H_193 (by rfl) (by rfl) (k_H_darkUnder hh h0) rfl rfl ⟨Nat.le_of_ble_eq_true rfl, Nat.le_of_ble_eq_true rfl⟩ ⟨Nat.zero_le _, Nat.zero_le _⟩ (Nat.le_of_ble_eq_true rfl) ?_
    refine e_iret rfl rfl (Nat.le_refl _) (Nat.le_refl _) ?_
    exact ⟨rfl, rfl⟩
  · try dsimp only
    exact absurd hok (by unfold c1H; (first | rw [if_pos h1] | rw [if_neg h1] | skip); decide)
set_option maxHeartbeats 4000000 in
set_option maxRecDepth 40000 in
theorem x_H_count_xIB {l : Launch} {h : Nat} {S : St} {i j : Int32} (hfl : l.flags = Jvm.pinnedFlags ++ [Jvm.noTraceFlag])  (hok : c1H (haL S i j) = 1) : KX l (SHm h) (6, 90) m_H_count [aR 0, aI i, aI j] S xIB := by
  refine k_startX ok_H_count (Nat.le_of_ble_eq_true rfl) ?_
  iterate 4 refine e_sp rfl rfl rfl ?_
  refine e_callV1 ok_L_has rfl lk_H_149 (by rfl) (by rfl) k_L_has rfl rfl ⟨Nat.le_of_ble_eq_true rfl, Nat.le_of_ble_eq_true rfl⟩ ⟨Nat.zero_le _, Nat.zero_le _⟩ (Nat.le_of_ble_eq_true rfl) ?_
  refine e_ifne rfl (fun h1 => ?_) (fun h1 => ?_)
  · try dsimp only
    exact absurd hok (by unfold c1H; (first | rw [if_pos h1] | rw [if_neg h1] | skip); decide)
  · try dsimp only
    exact e_throw (tw := 2) (ji := 152) (ic := 123) (idx := 119) hfl rfl rfl (Or.inl ⟨rfl, rfl⟩) rfl rfl rfl (List.mem_of_getElem? (i := 8) rfl) xok_IB ok_H_count.2.2.1 cl_119 (by decide)
set_option maxHeartbeats 4000000 in
set_option maxRecDepth 40000 in
theorem k_H_at {l : Launch} {h : Nat} {S : St} {x y : Int32}  (hh : h < 2 ^ 31) (hok : atH S x y = 0) : KK l (SHm h) (2, 43) m_H_at [aR 0, aI x, aI y] S (ans (some (aI (if ushr (lnS S 4 h y) x &&& 1 = 1 then 1 else 0))) S) := by
  refine k_start ok_H_at (Nat.le_of_ble_eq_true rfl) ?_
  iterate 1 refine e_sp rfl rfl rfl ?_
  refine e_ci 0 rfl rfl ?_
  iterate 2 refine e_sp rfl rfl rfl ?_
  refine e_ci 1 rfl rfl ?_
  iterate 1 refine e_sp rfl rfl rfl ?_
  refine e_callS1 ok_H_isWithin rfl lk_H_83 k_H_isWithin rfl rfl ⟨Nat.le_of_ble_eq_true rfl, Nat.le_of_ble_eq_true rfl⟩ ⟨Nat.zero_le _, Nat.zero_le _⟩ (Nat.le_of_ble_eq_true rfl) ?_
  refine e_ifeq rfl (fun h1 => ?_) (fun h1 => ?_)
  · try dsimp only
    exact absurd hok (by unfold atH; (first | rw [if_pos h1] | rw [if_neg h1] | skip); decide)
  · iterate 1 refine e_sp rfl rfl rfl ?_
    refine e_ci 0 rfl rfl ?_
    iterate 2 refine e_sp rfl rfl rfl ?_
    refine e_ci 1 rfl rfl ?_
    iterate 1 refine e_sp rfl rfl rfl ?_
    refine e_callS1 ok_H_isWithin rfl lk_H_83 k_H_isWithin rfl rfl ⟨Nat.le_of_ble_eq_true rfl, Nat.le_of_ble_eq_true rfl⟩ ⟨Nat.zero_le _, Nat.zero_le _⟩ (Nat.le_of_ble_eq_true rfl) ?_
    refine e_ifne rfl (fun h2 => ?_) (fun h2 => ?_)
    · iterate 3 refine e_sp rfl rfl rfl ?_
      refine e_callV1 ok_S_line rfl lk_H_189 (by rfl) (by rfl) (k_S_line_3 hh) rfl rfl ⟨Nat.le_of_ble_eq_true rfl, Nat.le_of_ble_eq_true rfl⟩ ⟨Nat.zero_le _, Nat.zero_le _⟩ (Nat.le_of_ble_eq_true rfl) ?_
      iterate 2 refine e_sp rfl rfl rfl ?_
      refine e_ci 1 rfl rfl ?_
      iterate 1 refine e_sp rfl rfl rfl ?_
      refine e_ci 1 rfl rfl ?_
      refine e_icne rfl (fun h3 => ?_) (fun h3 => ?_)
      · refine e_ci 0 rfl rfl ?_
        refine e_zret rfl rfl (Nat.le_refl _) (Nat.le_refl _) (by decide) ?_
        exact ⟨by simp [ushr] at h3 ⊢; simp [h3], rfl⟩
      · refine e_ci 1 rfl rfl ?_
        refine e_goto rfl ?_
        refine e_zret rfl rfl (Nat.le_refl _) (Nat.le_refl _) (by decide) ?_
        exact ⟨by simp [ushr] at h3 ⊢; simp [h3], rfl⟩
    · try dsimp only
      exact absurd hok (by unfold atH; (first | rw [if_pos h1] | rw [if_neg h1] | skip); (first | rw [if_pos h2] | rw [if_neg h2] | skip); decide)
set_option maxHeartbeats 4000000 in
set_option maxRecDepth 40000 in
theorem x_H_at_xIB {l : Launch} {h : Nat} {S : St} {x y : Int32} (hfl : l.flags = Jvm.pinnedFlags ++ [Jvm.noTraceFlag])  (hok : atH S x y = 1) : KX l (SHm h) (6, 90) m_H_at [aR 0, aI x, aI y] S xIB := by
  refine k_startX ok_H_at (Nat.le_of_ble_eq_true rfl) ?_
  iterate 1 refine e_sp rfl rfl rfl ?_
  refine e_ci 0 rfl rfl ?_
  iterate 2 refine e_sp rfl rfl rfl ?_
  refine e_ci 1 rfl rfl ?_
  iterate 1 refine e_sp rfl rfl rfl ?_
  refine e_callS1 ok_H_isWithin rfl lk_H_83 k_H_isWithin rfl rfl ⟨Nat.le_of_ble_eq_true rfl, Nat.le_of_ble_eq_true rfl⟩ ⟨Nat.zero_le _, Nat.zero_le _⟩ (Nat.le_of_ble_eq_true rfl) ?_
  refine e_ifeq rfl (fun h1 => ?_) (fun h1 => ?_)
  · try dsimp only
    exact e_throw (tw := 2) (ji := 218) (ic := 123) (idx := 119) hfl rfl rfl (Or.inl ⟨rfl, rfl⟩) rfl rfl rfl (List.mem_of_getElem? (i := 14) rfl) xok_IB ok_H_at.2.2.1 cl_119 (by decide)
  · iterate 1 refine e_sp rfl rfl rfl ?_
    refine e_ci 0 rfl rfl ?_
    iterate 2 refine e_sp rfl rfl rfl ?_
    refine e_ci 1 rfl rfl ?_
    iterate 1 refine e_sp rfl rfl rfl ?_
    refine e_callS1 ok_H_isWithin rfl lk_H_83 k_H_isWithin rfl rfl ⟨Nat.le_of_ble_eq_true rfl, Nat.le_of_ble_eq_true rfl⟩ ⟨Nat.zero_le _, Nat.zero_le _⟩ (Nat.le_of_ble_eq_true rfl) ?_
    refine e_ifne rfl (fun h2 => ?_) (fun h2 => ?_)
    · try dsimp only
      exact absurd hok (by unfold atH; (first | rw [if_pos h1] | rw [if_neg h1] | skip); (first | rw [if_pos h2] | rw [if_neg h2] | skip); decide)
    · try dsimp only
      exact e_throw (tw := 2) (ji := 218) (ic := 123) (idx := 119) hfl rfl rfl (Or.inl ⟨rfl, rfl⟩) rfl rfl rfl (List.mem_of_getElem? (i := 14) rfl) xok_IB ok_H_at.2.2.1 cl_119 (by decide)
set_option maxHeartbeats 4000000 in
set_option maxRecDepth 40000 in
theorem k_H_byteAt {l : Launch} {h : Nat} {S : St} {i : Int32}  (hok : c1H (wi i 0 (szW S - 1)) = 0) : KK l (SHm h) (2, 43) m_H_byteAt [aR 0, aI i] S (ans (some (aI (mdW S i))) S) := by
  refine k_start ok_H_byteAt (Nat.le_of_ble_eq_true rfl) ?_
  iterate 1 refine e_sp rfl rfl rfl ?_
  refine e_ci 0 rfl rfl ?_
  iterate 2 refine e_sp rfl rfl rfl ?_
  refine e_callV1 ok_W_size rfl lk_H_242 (by rfl) (by rfl) k_W_size rfl rfl ⟨Nat.le_of_ble_eq_true rfl, Nat.le_of_ble_eq_true rfl⟩ ⟨Nat.zero_le _, Nat.zero_le _⟩ (Nat.le_of_ble_eq_true rfl) ?_
  refine e_ci 1 rfl rfl ?_
  iterate 1 refine e_sp rfl rfl rfl ?_
  refine e_callS1 ok_H_isWithin rfl lk_H_83 k_H_isWithin rfl rfl ⟨Nat.le_of_ble_eq_true rfl, Nat.le_of_ble_eq_true rfl⟩ ⟨Nat.zero_le _, Nat.zero_le _⟩ (Nat.le_of_ble_eq_true rfl) ?_
  refine e_ifne rfl (fun h1 => ?_) (fun h1 => ?_)
  · iterate 3 refine e_sp rfl rfl rfl ?_
    refine e_callV1 ok_W_made rfl lk_H_247 (by rfl) (by rfl) k_W_made rfl rfl ⟨Nat.le_of_ble_eq_true rfl, Nat.le_of_ble_eq_true rfl⟩ ⟨Nat.zero_le _, Nat.zero_le _⟩ (Nat.le_of_ble_eq_true rfl) ?_
    refine e_iret rfl rfl (Nat.le_refl _) (Nat.le_refl _) ?_
    exact ⟨rfl, rfl⟩
  · try dsimp only
    exact absurd hok (by unfold c1H; (first | rw [if_pos h1] | rw [if_neg h1] | skip); decide)
set_option maxHeartbeats 4000000 in
set_option maxRecDepth 40000 in
theorem x_H_byteAt_xIB {l : Launch} {h : Nat} {S : St} {i : Int32} (hfl : l.flags = Jvm.pinnedFlags ++ [Jvm.noTraceFlag])  (hok : c1H (wi i 0 (szW S - 1)) = 1) : KX l (SHm h) (6, 90) m_H_byteAt [aR 0, aI i] S xIB := by
  refine k_startX ok_H_byteAt (Nat.le_of_ble_eq_true rfl) ?_
  iterate 1 refine e_sp rfl rfl rfl ?_
  refine e_ci 0 rfl rfl ?_
  iterate 2 refine e_sp rfl rfl rfl ?_
  refine e_callV1 ok_W_size rfl lk_H_242 (by rfl) (by rfl) k_W_size rfl rfl ⟨Nat.le_of_ble_eq_true rfl, Nat.le_of_ble_eq_true rfl⟩ ⟨Nat.zero_le _, Nat.zero_le _⟩ (Nat.le_of_ble_eq_true rfl) ?_
  refine e_ci 1 rfl rfl ?_
  iterate 1 refine e_sp rfl rfl rfl ?_
  refine e_callS1 ok_H_isWithin rfl lk_H_83 k_H_isWithin rfl rfl ⟨Nat.le_of_ble_eq_true rfl, Nat.le_of_ble_eq_true rfl⟩ ⟨Nat.zero_le _, Nat.zero_le _⟩ (Nat.le_of_ble_eq_true rfl) ?_
  refine e_ifne rfl (fun h1 => ?_) (fun h1 => ?_)
  · try dsimp only
    exact absurd hok (by unfold c1H; (first | rw [if_pos h1] | rw [if_neg h1] | skip); decide)
  · try dsimp only
    exact e_throw (tw := 2) (ji := 245) (ic := 123) (idx := 119) hfl rfl rfl (Or.inl ⟨rfl, rfl⟩) rfl rfl rfl (List.mem_of_getElem? (i := 15) rfl) xok_IB ok_H_byteAt.2.2.1 cl_119 (by decide)
set_option maxHeartbeats 4000000 in
set_option maxRecDepth 40000 in
theorem k_H_feed {l : Launch} {h : Nat} {S : St} {b : Int32}  (hok : fdH S b = 0) : KK l (SHm h) (2, 43) m_H_feed [aR 0, aI b] S (ans (some (aI ((tkR S b).1 17 2))) (tkR S b)) := by
  refine k_start ok_H_feed (Nat.le_of_ble_eq_true rfl) ?_
  iterate 1 refine e_sp rfl rfl rfl ?_
  refine e_ci 0 rfl rfl ?_
  refine e_cs 255 rfl rfl ?_
  refine e_callS1 ok_H_isWithin rfl lk_H_83 k_H_isWithin rfl rfl ⟨Nat.le_of_ble_eq_true rfl, Nat.le_of_ble_eq_true rfl⟩ ⟨Nat.zero_le _, Nat.zero_le _⟩ (Nat.le_of_ble_eq_true rfl) ?_
  refine e_ifne rfl (fun h1 => ?_) (fun h1 => ?_)
  · iterate 2 refine e_sp rfl rfl rfl ?_
    refine e_ci 1 rfl rfl ?_
    refine e_callV1 ok_R_hasRoomFor rfl lk_H_252 (by rfl) (by rfl) k_R_hasRoomFor rfl rfl ⟨Nat.le_of_ble_eq_true rfl, Nat.le_of_ble_eq_true rfl⟩ ⟨Nat.zero_le _, Nat.zero_le _⟩ (Nat.le_of_ble_eq_true rfl) ?_
    refine e_ifne rfl (fun h2 => ?_) (fun h2 => ?_)
    · iterate 3 refine e_sp rfl rfl rfl ?_
      refine e_callV0 ok_R_take rfl lk_H_260 (by rfl) (by rfl) k_R_take rfl rfl ⟨Nat.le_of_ble_eq_true rfl, Nat.le_of_ble_eq_true rfl⟩ ⟨Nat.zero_le _, Nat.zero_le _⟩ (Nat.le_of_ble_eq_true rfl) ?_
      iterate 3 refine e_sp rfl rfl rfl ?_
      refine e_iret rfl rfl (Nat.le_refl _) (Nat.le_refl _) ?_
      exact ⟨rfl, rfl⟩
    · try dsimp only
      exact absurd hok (by unfold fdH; (first | rw [if_pos h1] | rw [if_neg h1] | skip); (first | rw [if_pos h2] | rw [if_neg h2] | skip); decide)
  · try dsimp only
    exact absurd hok (by unfold fdH; (first | rw [if_pos h1] | rw [if_neg h1] | skip); decide)
set_option maxHeartbeats 4000000 in
set_option maxRecDepth 40000 in
theorem x_H_feed_xIA {l : Launch} {h : Nat} {S : St} {b : Int32} (hfl : l.flags = Jvm.pinnedFlags ++ [Jvm.noTraceFlag])  (hok : fdH S b = 1) : KX l (SHm h) (6, 90) m_H_feed [aR 0, aI b] S xIA := by
  refine k_startX ok_H_feed (Nat.le_of_ble_eq_true rfl) ?_
  iterate 1 refine e_sp rfl rfl rfl ?_
  refine e_ci 0 rfl rfl ?_
  refine e_cs 255 rfl rfl ?_
  refine e_callS1 ok_H_isWithin rfl lk_H_83 k_H_isWithin rfl rfl ⟨Nat.le_of_ble_eq_true rfl, Nat.le_of_ble_eq_true rfl⟩ ⟨Nat.zero_le _, Nat.zero_le _⟩ (Nat.le_of_ble_eq_true rfl) ?_
  refine e_ifne rfl (fun h1 => ?_) (fun h1 => ?_)
  · iterate 2 refine e_sp rfl rfl rfl ?_
    refine e_ci 1 rfl rfl ?_
    refine e_callV1 ok_R_hasRoomFor rfl lk_H_252 (by rfl) (by rfl) k_R_hasRoomFor rfl rfl ⟨Nat.le_of_ble_eq_true rfl, Nat.le_of_ble_eq_true rfl⟩ ⟨Nat.zero_le _, Nat.zero_le _⟩ (Nat.le_of_ble_eq_true rfl) ?_
    refine e_ifne rfl (fun h2 => ?_) (fun h2 => ?_)
    · try dsimp only
      exact absurd hok (by unfold fdH; (first | rw [if_pos h1] | rw [if_neg h1] | skip); (first | rw [if_pos h2] | rw [if_neg h2] | skip); decide)
    · try dsimp only
      exact absurd hok (by unfold fdH; (first | rw [if_pos h1] | rw [if_neg h1] | skip); (first | rw [if_pos h2] | rw [if_neg h2] | skip); decide)
  · try dsimp only
    exact e_throw (tw := 2) (ji := 250) (ic := 91) (idx := 87) hfl rfl rfl (Or.inl ⟨rfl, rfl⟩) rfl rfl rfl (List.mem_of_getElem? (i := 16) rfl) xok_IA ok_H_feed.2.2.1 cl_87 (by decide)
set_option maxHeartbeats 4000000 in
set_option maxRecDepth 40000 in
theorem x_H_feed_xUO {l : Launch} {h : Nat} {S : St} {b : Int32} (hfl : l.flags = Jvm.pinnedFlags ++ [Jvm.noTraceFlag])  (hok : fdH S b = 2) : KX l (SHm h) (6, 90) m_H_feed [aR 0, aI b] S xUO := by
  refine k_startX ok_H_feed (Nat.le_of_ble_eq_true rfl) ?_
  iterate 1 refine e_sp rfl rfl rfl ?_
  refine e_ci 0 rfl rfl ?_
  refine e_cs 255 rfl rfl ?_
  refine e_callS1 ok_H_isWithin rfl lk_H_83 k_H_isWithin rfl rfl ⟨Nat.le_of_ble_eq_true rfl, Nat.le_of_ble_eq_true rfl⟩ ⟨Nat.zero_le _, Nat.zero_le _⟩ (Nat.le_of_ble_eq_true rfl) ?_
  refine e_ifne rfl (fun h1 => ?_) (fun h1 => ?_)
  · iterate 2 refine e_sp rfl rfl rfl ?_
    refine e_ci 1 rfl rfl ?_
    refine e_callV1 ok_R_hasRoomFor rfl lk_H_252 (by rfl) (by rfl) k_R_hasRoomFor rfl rfl ⟨Nat.le_of_ble_eq_true rfl, Nat.le_of_ble_eq_true rfl⟩ ⟨Nat.zero_le _, Nat.zero_le _⟩ (Nat.le_of_ble_eq_true rfl) ?_
    refine e_ifne rfl (fun h2 => ?_) (fun h2 => ?_)
    · try dsimp only
      exact absurd hok (by unfold fdH; (first | rw [if_pos h1] | rw [if_neg h1] | skip); (first | rw [if_pos h2] | rw [if_neg h2] | skip); decide)
    · try dsimp only
      exact e_throw (tw := 3) (ji := 257) (ic := 259) (idx := 255) hfl rfl rfl (Or.inr ⟨rfl, rfl⟩) rfl rfl rfl (List.mem_of_getElem? (i := 17) rfl) xok_UO ok_H_feed.2.2.1 cl_255 (by decide)
  · try dsimp only
    exact absurd hok (by unfold fdH; (first | rw [if_pos h1] | rw [if_neg h1] | skip); decide)
set_option maxHeartbeats 4000000 in
set_option maxRecDepth 40000 in
theorem k_H_context {l : Launch} {h : Nat} {S : St} {c w : Int32}  (hok : cxC c w = 0) : KK l (SHm h) (1, 22) m_H_context [aR 0, aI c, aI w] S (ans (some (aI (if w = 0 then S.1 12 c.toNatClampNeg else S.1 13 c.toNatClampNeg))) S) := by
  refine k_start ok_H_context (Nat.le_of_ble_eq_true rfl) ?_
  iterate 1 refine e_sp rfl rfl rfl ?_
  refine e_ci 0 rfl rfl ?_
  refine e_cb 63 rfl rfl ?_
  refine e_callS1 ok_H_isWithin rfl lk_H_83 k_H_isWithin rfl rfl ⟨Nat.le_of_ble_eq_true rfl, Nat.le_of_ble_eq_true rfl⟩ ⟨Nat.zero_le _, Nat.zero_le _⟩ (Nat.le_of_ble_eq_true rfl) ?_
  refine e_ifne rfl (fun h1 => ?_) (fun h1 => ?_)
  · iterate 1 refine e_sp rfl rfl rfl ?_
    refine e_ci 0 rfl rfl ?_
    refine e_ci 1 rfl rfl ?_
    refine e_callS1 ok_H_isWithin rfl lk_H_83 k_H_isWithin rfl rfl ⟨Nat.le_of_ble_eq_true rfl, Nat.le_of_ble_eq_true rfl⟩ ⟨Nat.zero_le _, Nat.zero_le _⟩ (Nat.le_of_ble_eq_true rfl) ?_
    refine e_ifne rfl (fun h2 => ?_) (fun h2 => ?_)
    · iterate 1 refine e_sp rfl rfl rfl ?_
      refine e_ifne rfl (fun h3 => ?_) (fun h3 => ?_)
      · iterate 4 refine e_sp rfl rfl rfl ?_
        refine e_iald rfl (by first | rfl | assumption) (by exact wi_in (n := 64) (by decide) (by assumption)) ?_
        refine e_iret rfl rfl (Nat.le_refl _) (Nat.le_refl _) ?_
        exact ⟨by simp [h3], rfl⟩
      · iterate 4 refine e_sp rfl rfl rfl ?_
        refine e_iald rfl (by first | rfl | assumption) (by exact wi_in (n := 64) (by decide) (by assumption)) ?_
        refine e_goto rfl ?_
        refine e_iret rfl rfl (Nat.le_refl _) (Nat.le_refl _) ?_
        exact ⟨by simp [h3], rfl⟩
    · try dsimp only
      exact absurd hok (by unfold cxC; (first | rw [if_pos h1] | rw [if_neg h1] | skip); (first | rw [if_pos h2] | rw [if_neg h2] | skip); decide)
  · try dsimp only
    exact absurd hok (by unfold cxC; (first | rw [if_pos h1] | rw [if_neg h1] | skip); decide)
set_option maxHeartbeats 4000000 in
set_option maxRecDepth 40000 in
theorem x_H_context_xIB {l : Launch} {h : Nat} {S : St} {c w : Int32} (hfl : l.flags = Jvm.pinnedFlags ++ [Jvm.noTraceFlag])  (hok : cxC c w = 1) : KX l (SHm h) (6, 90) m_H_context [aR 0, aI c, aI w] S xIB := by
  refine k_startX ok_H_context (Nat.le_of_ble_eq_true rfl) ?_
  iterate 1 refine e_sp rfl rfl rfl ?_
  refine e_ci 0 rfl rfl ?_
  refine e_cb 63 rfl rfl ?_
  refine e_callS1 ok_H_isWithin rfl lk_H_83 k_H_isWithin rfl rfl ⟨Nat.le_of_ble_eq_true rfl, Nat.le_of_ble_eq_true rfl⟩ ⟨Nat.zero_le _, Nat.zero_le _⟩ (Nat.le_of_ble_eq_true rfl) ?_
  refine e_ifne rfl (fun h1 => ?_) (fun h1 => ?_)
  · iterate 1 refine e_sp rfl rfl rfl ?_
    refine e_ci 0 rfl rfl ?_
    refine e_ci 1 rfl rfl ?_
    refine e_callS1 ok_H_isWithin rfl lk_H_83 k_H_isWithin rfl rfl ⟨Nat.le_of_ble_eq_true rfl, Nat.le_of_ble_eq_true rfl⟩ ⟨Nat.zero_le _, Nat.zero_le _⟩ (Nat.le_of_ble_eq_true rfl) ?_
    refine e_ifne rfl (fun h2 => ?_) (fun h2 => ?_)
    · try dsimp only
      exact absurd hok (by unfold cxC; (first | rw [if_pos h1] | rw [if_neg h1] | skip); (first | rw [if_pos h2] | rw [if_neg h2] | skip); decide)
    · try dsimp only
      exact absurd hok (by unfold cxC; (first | rw [if_pos h1] | rw [if_neg h1] | skip); (first | rw [if_pos h2] | rw [if_neg h2] | skip); decide)
  · try dsimp only
    exact e_throw (tw := 3) (ji := 292) (ic := 123) (idx := 119) hfl rfl rfl (Or.inr ⟨rfl, rfl⟩) rfl rfl rfl (List.mem_of_getElem? (i := 19) rfl) xok_IB ok_H_context.2.2.1 cl_119 (by decide)
set_option maxHeartbeats 4000000 in
set_option maxRecDepth 40000 in
theorem x_H_context_xIA {l : Launch} {h : Nat} {S : St} {c w : Int32} (hfl : l.flags = Jvm.pinnedFlags ++ [Jvm.noTraceFlag])  (hok : cxC c w = 2) : KX l (SHm h) (6, 90) m_H_context [aR 0, aI c, aI w] S xIA := by
  refine k_startX ok_H_context (Nat.le_of_ble_eq_true rfl) ?_
  iterate 1 refine e_sp rfl rfl rfl ?_
  refine e_ci 0 rfl rfl ?_
  refine e_cb 63 rfl rfl ?_
  refine e_callS1 ok_H_isWithin rfl lk_H_83 k_H_isWithin rfl rfl ⟨Nat.le_of_ble_eq_true rfl, Nat.le_of_ble_eq_true rfl⟩ ⟨Nat.zero_le _, Nat.zero_le _⟩ (Nat.le_of_ble_eq_true rfl) ?_
  refine e_ifne rfl (fun h1 => ?_) (fun h1 => ?_)
  · iterate 1 refine e_sp rfl rfl rfl ?_
    refine e_ci 0 rfl rfl ?_
    refine e_ci 1 rfl rfl ?_
    refine e_callS1 ok_H_isWithin rfl lk_H_83 k_H_isWithin rfl rfl ⟨Nat.le_of_ble_eq_true rfl, Nat.le_of_ble_eq_true rfl⟩ ⟨Nat.zero_le _, Nat.zero_le _⟩ (Nat.le_of_ble_eq_true rfl) ?_
    refine e_ifne rfl (fun h2 => ?_) (fun h2 => ?_)
    · try dsimp only
      exact absurd hok (by unfold cxC; (first | rw [if_pos h1] | rw [if_neg h1] | skip); (first | rw [if_pos h2] | rw [if_neg h2] | skip); decide)
    · try dsimp only
      exact e_throw (tw := 3) (ji := 294) (ic := 91) (idx := 87) hfl rfl rfl (Or.inr ⟨rfl, rfl⟩) rfl rfl rfl (List.mem_of_getElem? (i := 20) rfl) xok_IA ok_H_context.2.2.1 cl_87 (by decide)
  · try dsimp only
    exact absurd hok (by unfold cxC; (first | rw [if_pos h1] | rw [if_neg h1] | skip); decide)
set_option maxHeartbeats 4000000 in
set_option maxRecDepth 40000 in
theorem k_H_ordered {l : Launch} {h : Nat} {S : St} {n : Nat}  (hn : n ≤ 7) (hok : okO (nI n) = 0) : KK l (SHm h) (3, 73) m_H_ordered [aR 0, aI (nI n)] S (ans (some (aI (nI (n * n + 1)))) (ptS S n)) := by
  refine k_start ok_H_ordered (Nat.le_of_ble_eq_true rfl) ?_
  iterate 1 refine e_sp rfl rfl rfl ?_
  refine e_ci 1 rfl rfl ?_
  refine e_cb 7 rfl rfl ?_
  refine e_callS1 ok_H_isWithin rfl lk_H_83 k_H_isWithin rfl rfl ⟨Nat.le_of_ble_eq_true rfl, Nat.le_of_ble_eq_true rfl⟩ ⟨Nat.zero_le _, Nat.zero_le _⟩ (Nat.le_of_ble_eq_true rfl) ?_
  refine e_ifne rfl (fun h1 => ?_) (fun h1 => ?_)
  · iterate 3 refine e_sp rfl rfl rfl ?_
    refine e_callV0 ok_B_beginOrdered rfl lk_H_109 (by rfl) (by rfl) (k_B_beginOrdered hn) rfl rfl ⟨Nat.le_of_ble_eq_true rfl, Nat.le_of_ble_eq_true rfl⟩ ⟨Nat.zero_le _, Nat.zero_le _⟩ (Nat.le_of_ble_eq_true rfl) ?_
    iterate 2 refine e_sp rfl rfl rfl ?_
    refine e_callV0 ok_L_forgetGreys rfl lk_H_100 (by rfl) (by rfl) k_L_forgetGreys rfl rfl ⟨Nat.le_of_ble_eq_true rfl, Nat.le_of_ble_eq_true rfl⟩ ⟨Nat.zero_le _, Nat.zero_le _⟩ (Nat.le_of_ble_eq_true rfl) ?_
    iterate 3 refine e_sp rfl rfl rfl ?_
    refine e_iret rfl rfl (Nat.le_refl _) (Nat.le_refl _) ?_
    exact ⟨by rw [show (flI (orS S n) 8 0 256).1 5 3 = nI (n * n + 1) by rw [flI_o (by decide), orS, oyS_1]; rfl], rfl⟩
  · try dsimp only
    exact absurd hok (by unfold okO; (first | rw [if_pos h1] | rw [if_neg h1] | skip); decide)
set_option maxHeartbeats 4000000 in
set_option maxRecDepth 40000 in
theorem x_H_ordered_xIA {l : Launch} {h : Nat} {S : St} {q : Int32} (hfl : l.flags = Jvm.pinnedFlags ++ [Jvm.noTraceFlag]) (hok : okO q = 1) : KX l (SHm h) (6, 90) m_H_ordered [aR 0, aI q] S xIA := by
  refine k_startX ok_H_ordered (Nat.le_of_ble_eq_true rfl) ?_
  iterate 1 refine e_sp rfl rfl rfl ?_
  refine e_ci 1 rfl rfl ?_
  refine e_cb 7 rfl rfl ?_
  refine e_callS1 ok_H_isWithin rfl lk_H_83 k_H_isWithin rfl rfl ⟨Nat.le_of_ble_eq_true rfl, Nat.le_of_ble_eq_true rfl⟩ ⟨Nat.zero_le _, Nat.zero_le _⟩ (Nat.le_of_ble_eq_true rfl) ?_
  refine e_ifne rfl (fun h1 => ?_) (fun h1 => ?_)
  · try dsimp only
    exact absurd hok (by unfold okO; (first | rw [if_pos h1] | rw [if_neg h1] | skip); decide)
  · try dsimp only
    exact e_throw (tw := 2) (ji := 107) (ic := 91) (idx := 87) hfl rfl rfl (Or.inl ⟨rfl, rfl⟩) rfl rfl rfl (List.mem_of_getElem? (i := 2) rfl) xok_IA ok_H_ordered.2.2.1 cl_87 (by decide)
set_option maxHeartbeats 4000000 in
set_option maxRecDepth 40000 in
theorem k_H_pass {l : Launch} {h : Nat} {S : St} {n : Nat} (hn : szW S = nI n) (hn2 : n < 2 ^ 31) (hok : c1H (hrR S (szW S)) = 0) : KK l (SHm h) (2, 43) m_H_pass [aR 0] S (ans (some (aI ((ppS S n).1 17 2))) (ppS S n)) := by
  refine k_start ok_H_pass (Nat.le_of_ble_eq_true rfl) ?_
  have L1 := e_for (P := fun i => E0 l (SHm h) (2, 43) m_H_pass 32 [some (aR 0), some (aI (nI n)), some (aI (nI i))] [] (ppS S i) (ans (some (aI ((ppS S n).1 17 2))) (ppS S n))) (n) (by
      iterate 2 refine e_sp rfl rfl rfl ?_
      refine e_icge rfl (fun h1 => ?_) (fun h1 => ?_)
      · iterate 3 refine e_sp rfl rfl rfl ?_
        refine e_iret rfl rfl (Nat.le_refl _) (Nat.le_refl _) ?_
        exact ⟨rfl, rfl⟩
      · try dsimp only
        exact absurd (nI_le (Nat.le_refl _) (by omega)) h1) (fun i hi ihi => by
      iterate 2 refine e_sp rfl rfl rfl ?_
      refine e_icge rfl (fun h1 => ?_) (fun h1 => ?_)
      · try dsimp only
        exact absurd h1 (nI_ge hi (by omega))
      · iterate 5 refine e_sp rfl rfl rfl ?_
        refine e_callV1 ok_W_made rfl lk_H_247 (by rfl) (by rfl) k_W_made rfl rfl ⟨Nat.le_of_ble_eq_true rfl, Nat.le_of_ble_eq_true rfl⟩ ⟨Nat.zero_le _, Nat.zero_le _⟩ (Nat.le_of_ble_eq_true rfl) ?_
        refine e_callV0 ok_R_take rfl lk_H_260 (by rfl) (by rfl) k_R_take rfl rfl ⟨Nat.le_of_ble_eq_true rfl, Nat.le_of_ble_eq_true rfl⟩ ⟨Nat.zero_le _, Nat.zero_le _⟩ (Nat.le_of_ble_eq_true rfl) ?_
        refine e_inc 1 rfl rfl rfl rfl ?_
        refine e_goto rfl ?_
        try dsimp only
        rw [nI_1]
        exact ihi)
  iterate 2 refine e_sp rfl rfl rfl ?_
  refine e_callV1 ok_W_size rfl lk_H_242 (by rfl) (by rfl) k_W_size rfl rfl ⟨Nat.le_of_ble_eq_true rfl, Nat.le_of_ble_eq_true rfl⟩ ⟨Nat.zero_le _, Nat.zero_le _⟩ (Nat.le_of_ble_eq_true rfl) ?_
  iterate 4 refine e_sp rfl rfl rfl ?_
  refine e_callV1 ok_R_hasRoomFor rfl lk_H_252 (by rfl) (by rfl) k_R_hasRoomFor rfl rfl ⟨Nat.le_of_ble_eq_true rfl, Nat.le_of_ble_eq_true rfl⟩ ⟨Nat.zero_le _, Nat.zero_le _⟩ (Nat.le_of_ble_eq_true rfl) ?_
  refine e_ifne rfl (fun h1 => ?_) (fun h1 => ?_)
  · refine e_ci 0 rfl rfl ?_
    iterate 1 refine e_sp rfl rfl rfl ?_
    try dsimp only
    rw [hn]
    exact L1
  · try dsimp only
    exact absurd hok (by unfold c1H; (first | rw [if_pos h1] | rw [if_neg h1] | skip); decide)
set_option maxHeartbeats 4000000 in
set_option maxRecDepth 40000 in
theorem x_H_pass_xUO {l : Launch} {h : Nat} {S : St} (hfl : l.flags = Jvm.pinnedFlags ++ [Jvm.noTraceFlag]) (hok : c1H (hrR S (szW S)) = 1) : KX l (SHm h) (6, 90) m_H_pass [aR 0] S xUO := by
  refine k_startX ok_H_pass (Nat.le_of_ble_eq_true rfl) ?_
  iterate 2 refine e_sp rfl rfl rfl ?_
  refine e_callV1 ok_W_size rfl lk_H_242 (by rfl) (by rfl) k_W_size rfl rfl ⟨Nat.le_of_ble_eq_true rfl, Nat.le_of_ble_eq_true rfl⟩ ⟨Nat.zero_le _, Nat.zero_le _⟩ (Nat.le_of_ble_eq_true rfl) ?_
  iterate 4 refine e_sp rfl rfl rfl ?_
  refine e_callV1 ok_R_hasRoomFor rfl lk_H_252 (by rfl) (by rfl) k_R_hasRoomFor rfl rfl ⟨Nat.le_of_ble_eq_true rfl, Nat.le_of_ble_eq_true rfl⟩ ⟨Nat.zero_le _, Nat.zero_le _⟩ (Nat.le_of_ble_eq_true rfl) ?_
  refine e_ifne rfl (fun h1 => ?_) (fun h1 => ?_)
  · try dsimp only
    exact absurd hok (by unfold c1H; (first | rw [if_pos h1] | rw [if_neg h1] | skip); decide)
  · try dsimp only
    exact e_throw (tw := 3) (ji := 266) (ic := 259) (idx := 255) hfl rfl rfl (Or.inr ⟨rfl, rfl⟩) rfl rfl rfl (List.mem_of_getElem? (i := 18) rfl) xok_UO ok_H_pass.2.2.1 cl_255 (by decide)
