/-! Arrays.fill -/
def flI (S : St) (o : Nat) (v : Int32) (n : Nat) : St := (pt S.1 o (fun j => if j < n then v else S.1 o j), S.2)
def flL (S : St) (o : Nat) (v : Int64) (n : Nat) : St := (S.1, ptL S.2 o (fun j => if j < n then v else S.2 o j))
theorem pt_id (f : Nat → Nat → Int32) (o : Nat) : pt f o (f o) = f := by
  funext q
  by_cases h : q = o
  · subst h; exact pt_s
  · exact pt_n h
theorem ptL_id (f : Nat → Nat → Int64) (o : Nat) : ptL f o (f o) = f := by
  funext q
  by_cases h : q = o
  · subst h; exact ptL_s
  · exact ptL_n h
theorem pt_pt (f : Nat → Nat → Int32) (o : Nat) (r r' : Nat → Int32) : pt (pt f o r) o r' = pt f o r' := by
  funext q
  by_cases h : q = o
  · subst h; rw [pt_s, pt_s]
  · rw [pt_n h, pt_n h, pt_n h]
theorem ptL_ptL (f : Nat → Nat → Int64) (o : Nat) (r r' : Nat → Int64) : ptL (ptL f o r) o r' = ptL f o r' := by
  funext q
  by_cases h : q = o
  · subst h; rw [ptL_s, ptL_s]
  · rw [ptL_n h, ptL_n h, ptL_n h]
theorem flI_0 (S : St) (o : Nat) (v : Int32) : flI S o v 0 = S := by
  unfold flI
  simp only [Nat.not_lt_zero, if_false]
  rw [pt_id]
theorem flL_0 (S : St) (o : Nat) (v : Int64) : flL S o v 0 = S := by
  unfold flL
  simp only [Nat.not_lt_zero, if_false]
  rw [ptL_id]
theorem flI_s (S : St) (o : Nat) (v : Int32) (i : Nat) : puI (flI S o v i) o i v = flI S o v (i + 1) := by
  unfold flI puI
  simp only [pt_s, pt_pt]
  congr 2
  funext j
  unfold upd
  by_cases h : j = i
  · subst h; simp
  · rw [if_neg h]
    dsimp only
    by_cases h2 : j < i
    · rw [if_pos h2, if_pos (by omega)]
    · rw [if_neg h2, if_neg (by omega)]
theorem flL_s (S : St) (o : Nat) (v : Int64) (i : Nat) : puL (flL S o v i) o i v = flL S o v (i + 1) := by
  unfold flL puL
  simp only [ptL_s, ptL_ptL]
  congr 2
  funext j
  unfold vp_updL
  by_cases h : j = i
  · subst h; simp
  · rw [if_neg h]
    dsimp only
    by_cases h2 : j < i
    · rw [if_pos h2, if_pos (by omega)]
    · rw [if_neg h2, if_neg (by omega)]
set_option maxHeartbeats 4000000 in
set_option maxRecDepth 40000 in
theorem k_JA_fill1 {l : Launch} {B : List Sh} {S : St} {o n : Nat} {v : Int32} (hB : B[o]? = some (.inr (.int, n))) (hn : n < 2 ^ 31) : KK l B (0, 0) m_JA_fill1 [aR o, aI v] S (ans none (flI S o v n)) := by
  refine k_start ok_JA_fill1 (Nat.le_of_ble_eq_true rfl) ?_
  have L := e_for (P := fun i => E0 l B (0, 0) m_JA_fill1 5 [some (aR o), some (aI v), some (aI (nI i)), some (aI (nI n))] [] (flI S o v i) (ans none (flI S o v n))) n (by
      iterate 2 refine e_sp rfl rfl rfl ?_
      refine e_icge rfl (fun h1 => ?_) (fun h1 => ?_)
      · refine e_vret rfl rfl (Nat.le_refl _) (Nat.le_refl _) ?_
        exact ⟨rfl, rfl⟩
      · exact absurd (nI_le (Nat.le_refl _) hn) h1) (fun i hi ihi => by
      iterate 2 refine e_sp rfl rfl rfl ?_
      refine e_icge rfl (fun h1 => ?_) (fun h1 => ?_)
      · exact absurd h1 (nI_ge hi hn)
      · iterate 3 refine e_sp rfl rfl rfl ?_
        refine e_iast rfl (by first | rfl | assumption) (by exact vp_in_nI hi hn) ?_
        refine e_inc 1 rfl rfl rfl rfl ?_
        refine e_goto rfl ?_
        rw [nI_clamp (Nat.lt_trans hi hn), flI_s, nI_1]
        exact ihi)
  refine e_ci 0 rfl rfl ?_
  iterate 2 refine e_sp rfl rfl rfl ?_
  refine e_alen rfl (by first | rfl | assumption) (by decide) ?_
  iterate 1 refine e_sp rfl rfl rfl ?_
  rw [flI_0] at L
  exact L
set_option maxHeartbeats 4000000 in
set_option maxRecDepth 40000 in
theorem k_JA_fill0 {l : Launch} {B : List Sh} {S : St} {o n : Nat} {v : Int32} (hB : B[o]? = some (.inr (.byte, n))) (hn : n < 2 ^ 31) : KK l B (0, 0) m_JA_fill0 [aR o, aI v] S (ans none (flI S o (vp_nar .byte v) n)) := by
  refine k_start ok_JA_fill0 (Nat.le_of_ble_eq_true rfl) ?_
  have L := e_for (P := fun i => E0 l B (0, 0) m_JA_fill0 5 [some (aR o), some (aI v), some (aI (nI i)), some (aI (nI n))] [] (flI S o (vp_nar .byte v) i) (ans none (flI S o (vp_nar .byte v) n))) n (by
      iterate 2 refine e_sp rfl rfl rfl ?_
      refine e_icge rfl (fun h1 => ?_) (fun h1 => ?_)
      · refine e_vret rfl rfl (Nat.le_refl _) (Nat.le_refl _) ?_
        exact ⟨rfl, rfl⟩
      · exact absurd (nI_le (Nat.le_refl _) hn) h1) (fun i hi ihi => by
      iterate 2 refine e_sp rfl rfl rfl ?_
      refine e_icge rfl (fun h1 => ?_) (fun h1 => ?_)
      · exact absurd h1 (nI_ge hi hn)
      · iterate 3 refine e_sp rfl rfl rfl ?_
        refine e_bast rfl (by first | rfl | assumption) (by exact vp_in_nI hi hn) ?_
        refine e_inc 1 rfl rfl rfl rfl ?_
        refine e_goto rfl ?_
        rw [nI_clamp (Nat.lt_trans hi hn), flI_s, nI_1]
        exact ihi)
  refine e_ci 0 rfl rfl ?_
  iterate 2 refine e_sp rfl rfl rfl ?_
  refine e_alen rfl (by first | rfl | assumption) (by decide) ?_
  iterate 1 refine e_sp rfl rfl rfl ?_
  rw [flI_0] at L
  exact L
set_option maxHeartbeats 4000000 in
set_option maxRecDepth 40000 in
theorem k_JA_fill2 {l : Launch} {B : List Sh} {S : St} {o n : Nat} {v : Int64} (hB : B[o]? = some (.inr (.long, n))) (hn : n < 2 ^ 31) : KK l B (0, 0) m_JA_fill2 [aR o, aL v] S (ans none (flL S o v n)) := by
  refine k_start ok_JA_fill2 (Nat.le_of_ble_eq_true rfl) ?_
  have L := e_for (P := fun i => E0 l B (0, 0) m_JA_fill2 6 [some (aR o), some (aL v), none, some (aI (nI i)), some (aI (nI n))] [] (flL S o v i) (ans none (flL S o v n))) n (by
      iterate 2 refine e_sp rfl rfl rfl ?_
      refine e_icge rfl (fun h1 => ?_) (fun h1 => ?_)
      · refine e_vret rfl rfl (Nat.le_refl _) (Nat.le_refl _) ?_
        exact ⟨rfl, rfl⟩
      · exact absurd (nI_le (Nat.le_refl _) hn) h1) (fun i hi ihi => by
      iterate 2 refine e_sp rfl rfl rfl ?_
      refine e_icge rfl (fun h1 => ?_) (fun h1 => ?_)
      · exact absurd h1 (nI_ge hi hn)
      · iterate 3 refine e_sp rfl rfl rfl ?_
        refine e_last rfl (by first | rfl | assumption) (by exact vp_in_nI hi hn) ?_
        refine e_inc 1 rfl rfl rfl rfl ?_
        refine e_goto rfl ?_
        rw [nI_clamp (Nat.lt_trans hi hn), flL_s, nI_1]
        exact ihi)
  refine e_ci 0 rfl rfl ?_
  iterate 2 refine e_sp rfl rfl rfl ?_
  refine e_alen rfl (by first | rfl | assumption) (by decide) ?_
  iterate 1 refine e_sp rfl rfl rfl ?_
  rw [flL_0] at L
  exact L
/-! bitCount, as it is written -/
def bcI (x : Int32) : Int32 :=
  let a := x - (ushr x 1 &&& 1431655765)
  let b := (a &&& 858993459) + (ushr a 2 &&& 858993459)
  let c := (b + ushr b 4) &&& 252645135
  let e := c + ushr c 8
  let f := e + ushr e 16
  f &&& 63
def ushL (x : Int64) (y : Int32) : Int64 := (x.toUInt64 >>> (y.toInt64.toUInt64 &&& Int64.toUInt64 63)).toInt64
def bcL (x : Int64) : Int32 :=
  let a := x - (ushL x 1 &&& 6148914691236517205)
  let b := (a &&& 3689348814741910323) + (ushL a 2 &&& 3689348814741910323)
  let c := (b + ushL b 4) &&& 1085102592571150095
  let e := c + ushL c 8
  let f := e + ushL e 16
  let g := f + ushL f 32
  g.toInt32 &&& 127
set_option maxHeartbeats 4000000 in
set_option maxRecDepth 40000 in
theorem k_JI_bitCount {l : Launch} {B : List Sh} {S : St} {x : Int32}  : KK l B (0, 0) m_JI_bitCount [aI x] S (ans (some (aI (bcI x))) S) := by
  refine k_start ok_JI_bitCount (Nat.le_of_ble_eq_true rfl) ?_
  iterate 2 refine e_sp rfl rfl rfl ?_
  refine e_ci 1 rfl rfl ?_
  iterate 1 refine e_sp rfl rfl rfl ?_
  refine e_ldcw rfl cn_JI_265 ?_
  iterate 4 refine e_sp rfl rfl rfl ?_
  refine e_ldcw rfl cn_JI_266 ?_
  iterate 2 refine e_sp rfl rfl rfl ?_
  refine e_ci 2 rfl rfl ?_
  iterate 1 refine e_sp rfl rfl rfl ?_
  refine e_ldcw rfl cn_JI_266 ?_
  iterate 5 refine e_sp rfl rfl rfl ?_
  refine e_ci 4 rfl rfl ?_
  iterate 2 refine e_sp rfl rfl rfl ?_
  refine e_ldcw rfl cn_JI_267 ?_
  iterate 4 refine e_sp rfl rfl rfl ?_
  refine e_cb 8 rfl rfl ?_
  iterate 5 refine e_sp rfl rfl rfl ?_
  refine e_cb 16 rfl rfl ?_
  iterate 4 refine e_sp rfl rfl rfl ?_
  refine e_cb 63 rfl rfl ?_
  iterate 1 refine e_sp rfl rfl rfl ?_
  refine e_iret rfl rfl (Nat.le_refl _) (Nat.le_refl _) ?_
  exact ⟨rfl, rfl⟩
set_option maxHeartbeats 4000000 in
set_option maxRecDepth 40000 in
theorem k_JL_bitCount {l : Launch} {B : List Sh} {S : St} {x : Int64}  : KK l B (0, 0) m_JL_bitCount [aL x] S (ans (some (aI (bcL x))) S) := by
  refine k_start ok_JL_bitCount (Nat.le_of_ble_eq_true rfl) ?_
  iterate 2 refine e_sp rfl rfl rfl ?_
  refine e_ci 1 rfl rfl ?_
  iterate 1 refine e_sp rfl rfl rfl ?_
  refine e_ldc2 rfl cn_JL_314 ?_
  iterate 4 refine e_sp rfl rfl rfl ?_
  refine e_ldc2 rfl cn_JL_316 ?_
  iterate 2 refine e_sp rfl rfl rfl ?_
  refine e_ci 2 rfl rfl ?_
  iterate 1 refine e_sp rfl rfl rfl ?_
  refine e_ldc2 rfl cn_JL_316 ?_
  iterate 5 refine e_sp rfl rfl rfl ?_
  refine e_ci 4 rfl rfl ?_
  iterate 2 refine e_sp rfl rfl rfl ?_
  refine e_ldc2 rfl cn_JL_318 ?_
  iterate 4 refine e_sp rfl rfl rfl ?_
  refine e_cb 8 rfl rfl ?_
  iterate 5 refine e_sp rfl rfl rfl ?_
  refine e_cb 16 rfl rfl ?_
  iterate 5 refine e_sp rfl rfl rfl ?_
  refine e_cb 32 rfl rfl ?_
  iterate 5 refine e_sp rfl rfl rfl ?_
  refine e_cb 127 rfl rfl ?_
  iterate 1 refine e_sp rfl rfl rfl ?_
  refine e_iret rfl rfl (Nat.le_refl _) (Nat.le_refl _) ?_
  exact ⟨rfl, rfl⟩
