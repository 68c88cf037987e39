/-! cells of patterns -/
theorem liB_bit {A : St} {k b i : Nat} (hk : k < 64) (hb : b < 8) : bI9 (liB A (nI k) (nI b)) i = (decide (i < 8) && bL9 (A.2 6 k) (8 * b + i)) := by
  unfold liB
  rw [if_neg (wi_ok hk (by decide)), nI_clamp (by omega), show (8 : Int32) * nI b = nI (8 * b) from by rw [show (8 : Int32) = nI 8 from rfl, pk_mul], bI_and, bI_255]
  by_cases h : i < 8
  · rw [bI_toInt32 (by omega), bL_ushL (by omega)]
    simp [h]
  · simp [h]
theorem idB_v {A : St} {k a b : Nat} (hk : k < 64) (ha : a < 8) (hb : b < 8) : idB A (nI k) (nI a) (nI b) = b2I (bL9 (A.2 6 k) (8 * b + a)) := by
  unfold idB
  rw [bit1 (by omega), liB_bit hk hb]
  simp only [ha, decide_true, Bool.true_and]
  cases bL9 (A.2 6 k) (8 * b + a) <;> decide
theorem hs_hc {pw ph m : Nat} {A B : St} (H : Rpat pw ph m A B) {p x y : Int32} : hsB A p x y = hcM B p x y := by
  obtain ⟨-, -, -, -, -, a1, a2, a3, b1, b2, b3⟩ := H
  unfold hsB hpB hcM
  rw [a1, a2, a3, b1, b2, b3]
theorem hc_nat {pw ph m : Nat} {A B : St} (H : Rpat pw ph m A B) {p x y : Int32} (h : ¬ hcM B p x y = 0) : ∃ k a b, k ≤ m ∧ a < pw ∧ b < ph ∧ p = nI k ∧ x = nI a ∧ y = nI b := by
  obtain ⟨-, w2, -, h2, hm, -, -, -, b1, b2, b3⟩ := H
  unfold hcM at h
  rw [b1, b2, b3] at h
  by_cases e1 : wi p 0 (nI (m + 1) - 1) = 0
  · rw [if_pos e1] at h; exact absurd rfl h
  rw [if_neg e1] at h
  by_cases e2 : wi x 0 (nI pw - 1) = 0
  · rw [if_pos e2] at h; exact absurd rfl h
  rw [if_neg e2] at h
  by_cases e3 : wi y 0 (nI ph - 1) = 0
  · rw [if_pos e3] at h; exact absurd rfl h
  obtain ⟨k, hk, rfl⟩ := wi_nat (by omega) e1
  obtain ⟨a, ha, rfl⟩ := wi_nat (by omega) e2
  obtain ⟨b, hb, rfl⟩ := wi_nat (by omega) e3
  exact ⟨k, a, b, by omega, ha, hb, rfl, rfl, rfl⟩
theorem ix_n {k a b : Nat} (hk : k < 64) (ha : a < 8) (hb : b < 8) : ix (nI k) (nI a) (nI b) = 64 * k + (8 * b + a) := by
  unfold ix
  rw [show (64 : Int32) * nI k = nI (64 * k) from by rw [show (64 : Int32) = nI 64 from rfl, pk_mul], show (8 : Int32) * nI b = nI (8 * b) from by rw [show (8 : Int32) = nI 8 from rfl, pk_mul], nI_add, nI_add, nI_clamp (by omega)]
  omega
theorem cel_v {A B : St} (H : Rcel A B) {k a b : Nat} (hk : k < 64) (ha : a < 8) (hb : b < 8) : B.1 24 (ix (nI k) (nI a) (nI b)) = idB A (nI k) (nI a) (nI b) := by
  rw [ix_n hk ha hb, H.1 k (8 * b + a) hk (by omega), idB_v hk ha hb]
theorem tnB_v {A : St} {k a b : Nat} (hk : k < 64) (ha : a < 8) (hb : b < 8) : tnB A (nI k) (nI a) (nI b) = puL A 6 k (A.2 6 k ^^^ (1 : Int64) <<< ((nI (8 * b + a)).toInt64 &&& 63)) := by
  unfold tnB
  rw [if_neg (wi_ok hk (by decide)), nI_clamp (by omega), show (8 : Int32) * nI b = nI (8 * b) from by rw [show (8 : Int32) = nI 8 from rfl, pk_mul], nI_add]
/-- a cell told anew, in both -/
theorem cel_put {A B : St} (H : Rcel A B) {k a b : Nat} {v : Bool} (hk : k < 64) (ha : a < 8) (hb : b < 8) : Rcel (if idB A (nI k) (nI a) (nI b) = b2I v then A else tnB A (nI k) (nI a) (nI b)) (puI B 24 (ix (nI k) (nI a) (nI b)) (vp_nar .boolean (b2I v))) := by
  rw [idB_v hk ha hb, nar_b2I, ix_n hk ha hb, tnB_v hk ha hb]
  simp only [b2I_inj]
  refine ⟨fun k' i hk' hi => ?_, fun n => ?_⟩
  · rw [puI_at]
    have hbit : bL9 ((if bL9 (A.2 6 k) (8 * b + a) = v then A else puL A 6 k (A.2 6 k ^^^ (1 : Int64) <<< ((nI (8 * b + a)).toInt64 &&& 63))).2 6 k') i = if k' = k ∧ i = 8 * b + a then v else bL9 (A.2 6 k') i := by
      by_cases e : bL9 (A.2 6 k) (8 * b + a) = v
      · rw [if_pos e]
        by_cases e2 : k' = k ∧ i = 8 * b + a
        · rw [if_pos e2, e2.1, e2.2, e]
        · rw [if_neg e2]
      · rw [if_neg e, puL_at]
        by_cases e1 : k' = k
        · subst e1
          rw [if_pos ⟨rfl, rfl⟩, bL_xor, bL_one (by omega)]
          by_cases e2 : i = 8 * b + a
          · subst e2
            rw [if_pos ⟨rfl, rfl⟩]
            simp only [hi, decide_true, Bool.and_self]
            revert e
            cases bL9 (A.2 6 k') (8 * b + a) <;> cases v <;> decide
          · rw [if_neg (fun z => e2 z.2)]
            simp [e2]
        · rw [if_neg (fun z => e1 z.2), if_neg (fun z => e1 z.1)]
    rw [hbit]
    by_cases e : k' = k ∧ i = 8 * b + a
    · rw [if_pos e, if_pos ⟨rfl, by rw [e.1, e.2]⟩]
    · rw [if_neg e, if_neg (by omega), H.1 k' i hk' hi]
  · rw [puI_at]
    by_cases e : 24 = 24 ∧ n = 64 * k + (8 * b + a)
    · rw [if_pos e]; exact b2I_01 v
    · rw [if_neg e]; exact H.2 n
theorem tn_1 {A : St} {p x y : Int32} : (tnB A p x y).1 = A.1 := by
  unfold tnB
  by_cases h : wi p 0 (nI 64 - 1) = 0
  · rw [if_pos h]
  · rw [if_neg h, puL_1]
theorem q_put {h w : Nat} {A B : St} {p x y b : Int32} (H : Rl h w A B) (hc : ¬ hcM B p x y = 0) (hb : b = 0 ∨ b = 1) : Rl h w (if idB A p x y = b then A else tnB A p x y) (puI (puI B 21 0 0) 24 (ix p x y) (vp_nar .boolean b)) := by
  obtain ⟨pw, ph, m, c, r, h1, h2, h3, h4, h5, h6, h7, h8, h9, h10, h11, h12⟩ := H
  have FA : ∀ o k, ¬ (o = 99) → (if idB A p x y = b then A else tnB A p x y).1 o k = A.1 o k := by
    intro o k hn
    by_cases e : idB A p x y = b
    · rw [if_pos e]
    · rw [if_neg e, tn_1]
  have FB : ∀ o k, ¬ (o = 24 ∨ (o = 21 ∧ k = 0)) → (puI (puI B 21 0 0) 24 (ix p x y) (vp_nar .boolean b)).1 o k = B.1 o k := by
    intro o k hn
    rw [puI_at, if_neg (by omega), puI_at, if_neg (by omega)]
  refine ⟨pw, ph, m, c, r, h1.mv (fun o k e => FA o k (by omega)) (fun k e => FB 21 k (by omega)), h2.mv (fun k => FA 2 k (by omega)) (fun k => FB 22 k (by omega)), h3.mv (fun k => FA 4 k (by omega)) (fun k => FB 23 k (by omega)), h4.mv (fun k => FA 5 k (by omega)) (fun k e => FB 21 k (by omega)), ?_, h6.mv (fun k => FA 7 k (by omega)) (fun k e1 e2 => FB 21 k (by omega)), h7.mv (fun k => FA 8 k (by omega)) (fun k => FB 25 k (by omega)), h8.mv (fun k e1 e2 => FA 0 k (by omega)) (fun k e1 e2 => FB 21 k (by omega)), h9.mv (FA 0 14 (by omega)) (FB 21 31 (by omega)), h10.mv (fun k => FA 12 k (by omega)) (fun k => FA 13 k (by omega)) (fun k => FB 28 k (by omega)) (fun k => FB 29 k (by omega)), h11.mv (FA 14 2 (by omega)) (fun k => FA 15 k (by omega)) (fun k e => FB 21 k (by omega)) (fun k => FB 26 k (by omega)), h12.mv (FA 17 2 (by omega)) (fun k => FA 18 k (by omega)) (FB 21 23 (by omega)) (fun k => FB 27 k (by omega))⟩
  · obtain ⟨k, a, b9, g1, g2, g3, rfl, rfl, rfl⟩ := hc_nat h4 hc
    obtain ⟨-, w2, -, h2', hm, -⟩ := h4
    rw [eq_b hb]
    exact cel_put (h5.mv (fun _ => rfl) (fun k => by rw [puI_at, if_neg (by omega)])) (by omega) (by omega) (by omega)

/-! places -/
theorem lf_x {c r : Nat} {A B : St} (H : Rgrd c r A B) {i j : Int32} : lfL A i j = xM B i j ∧ tpL A i j = yM B i j := by
  obtain ⟨-, -, -, -, -, -, -, -, e1, e2, e3, e4⟩ := H
  unfold lfL tpL xM yM
  rw [e1, e2, e3, e4]
  exact ⟨rfl, rfl⟩
theorem ha_hp {c r : Nat} {A B : St} (H : Rgrd c r A B) {i j : Int32} : haL A i j = hpM B i j := by
  obtain ⟨-, -, -, -, a1, a2, b1, b2, -⟩ := H
  unfold haL hpM
  rw [a1, a2, b1, b2]
theorem hp_nat {c r : Nat} {A B : St} (H : Rgrd c r A B) {i j : Int32} (h : ¬ hpM B i j = 0) : ∃ a b, a < c ∧ b < r ∧ i = nI a ∧ j = nI b := by
  obtain ⟨-, c2, -, r2, -, -, b1, b2, -⟩ := H
  unfold hpM at h
  rw [b1, b2] at h
  by_cases e1 : wi i 0 (nI c - 1) = 0
  · rw [if_pos e1] at h; exact absurd rfl h
  rw [if_neg e1] at h
  by_cases e2 : wi j 0 (nI r - 1) = 0
  · rw [if_pos e2] at h; exact absurd rfl h
  obtain ⟨a, ha, rfl⟩ := wi_nat (by omega) e1
  obtain ⟨b, hb, rfl⟩ := wi_nat (by omega) e2
  exact ⟨a, b, ha, hb, rfl, rfl⟩
theorem hp_of {c r : Nat} {B : St} (b1 : B.1 21 9 = nI c) (b2 : B.1 21 10 = nI r) (hc : c ≤ 16) (hr : r ≤ 16) {a b : Nat} (ha : a < 2 ^ 31) (hb : b < 2 ^ 31) : hpM B (nI a) (nI b) = if a < c ∧ b < r then 1 else 0 := by
  unfold hpM
  rw [b1, b2]
  by_cases e1 : a < c
  · rw [if_neg (wi_ok e1 (by omega))]
    by_cases e2 : b < r
    · rw [if_neg (wi_ok e2 (by omega)), if_pos ⟨e1, e2⟩]
    · rw [if_pos (wi_0 (by omega) hb), if_neg (fun z => e2 z.2)]
  · rw [if_pos (wi_0 (by omega) ha), if_neg (fun z => e1 z.1)]
theorem ou_ou {h w pw ph m c r : Nat} {A B : St} (H1 : Rdim h w A B) (H2 : Rpat pw ph m A B) (H3 : Rgrd c r A B) {i j : Int32} : ouH A i j = ouM B i j := by
  obtain ⟨-, -, -, -, a1, a2, -, -, b1, b2⟩ := H1
  obtain ⟨-, -, -, -, -, a3, a4, -, b3, b4, -⟩ := H2
  unfold ouH ouM
  rw [(lf_x H3).1, (lf_x H3).2, a1, a2, a3, a4, b1, b2, b3, b4]
  by_cases e1 : nI w ≤ xM B i j
  · rw [if_pos e1]
    by_cases e2 : xM B i j + nI pw ≤ 0
    · rw [if_pos e2]
    · rw [if_neg e2, if_pos e1]
  · rw [if_neg e1, if_neg e1]
    by_cases e2 : xM B i j + nI pw ≤ 0
    · rw [if_pos e2, if_pos e2]
    · rw [if_neg e2, if_neg e2]
      by_cases e3 : nI h ≤ yM B i j
      · rw [if_pos e3, if_neg (Int32.not_lt.mpr e3)]
        by_cases e4 : yM B i j + nI ph ≤ 0
        · rw [if_pos e4]
        · rw [if_neg e4]
      · rw [if_neg e3, if_pos (Int32.not_le.mp e3)]
        by_cases e4 : yM B i j + nI ph ≤ 0
        · rw [if_pos e4, if_neg (Int32.not_lt.mpr e4)]
        · rw [if_neg e4, if_pos (Int32.not_le.mp e4)]
theorem ouM_01 {B : St} {i j : Int32} : ouM B i j = 0 ∨ ouM B i j = 1 := by
  unfold ouM
  repeat' split
  all_goals first | exact Or.inl rfl | exact Or.inr rfl
theorem sk_sk {h w pw ph m c r : Nat} {A B : St} (H1 : Rdim h w A B) (H2 : Rpat pw ph m A B) (H3 : Rgrd c r A B) (H4 : Rway A B) {i j : Int32} : skH A i j = skM B i j := by
  unfold skH skM
  rw [ou_ou H1 H2 H3, H4.2.2.2.2.1]
theorem gr_gr {c r m : Nat} {A B : St} (H3 : Rgrd c r A B) (H : Rgry c r m A B) {a b : Nat} (ha : a < 16) (hb : b < 16) : grL A (nI a) (nI b) = B.1 25 (16 * b + a) := by
  unfold grL
  rw [if_neg (plc_of ha hb).2, (plc_of ha hb).1, nI_clamp (by omega), (H (16 * b + a) (by omega)).1]
theorem at_16 {a b : Nat} (ha : a < 16) (hb : b < 16) : ((16 : Int32) * nI b + nI a).toNatClampNeg = 16 * b + a := by
  rw [show (16 : Int32) * nI b = nI (16 * b) from by rw [show (16 : Int32) = nI 16 from rfl, pk_mul], nI_add, nI_clamp (by omega)]
theorem q_grey {h w : Nat} {A B : St} {i j v : Int32} (H : Rl h w A B) (hc : ¬ hpM B i j = 0) (hv : ¬ wi v 0 (B.1 21 7 - 1) = 0) : Rl h w (cgS A i j v) (puI (puI B 21 0 0) 25 (16 * j + i).toNatClampNeg v) := by
  obtain ⟨pw, ph, m, c, r, h1, h2, h3, h4, h5, h6, h7, h8, h9, h10, h11, h12⟩ := H
  have FA : ∀ o k, ¬ (o = 8) → (cgS A i j v).1 o k = A.1 o k := by
    intro o k hn
    unfold cgS
    by_cases e : plc i j = -1
    · rw [if_pos e]
    · rw [if_neg e, puI_at, if_neg (by omega)]
  have FB : ∀ o k, ¬ (o = 25 ∨ (o = 21 ∧ k = 0)) → (puI (puI B 21 0 0) 25 (16 * j + i).toNatClampNeg v).1 o k = B.1 o k := by
    intro o k hn
    rw [puI_at, if_neg (by omega), puI_at, if_neg (by omega)]
  have FA2 : ∀ k, (cgS A i j v).2 6 k = A.2 6 k := by
      intro k
      unfold cgS
      by_cases e : plc i j = -1
      · rw [if_pos e]
      · rw [if_neg e]; rfl
  refine ⟨pw, ph, m, c, r, h1.mv (fun o k e => FA o k (by omega)) (fun k e => FB 21 k (by omega)), h2.mv (fun k => FA 2 k (by omega)) (fun k => FB 22 k (by omega)), h3.mv (fun k => FA 4 k (by omega)) (fun k => FB 23 k (by omega)), h4.mv (fun k => FA 5 k (by omega)) (fun k e => FB 21 k (by omega)), h5.mv (fun k => FA2 k) (fun k => FB 24 k (by omega)), h6.mv (fun k => FA 7 k (by omega)) (fun k e1 e2 => FB 21 k (by omega)), ?_, h8.mv (fun k e1 e2 => FA 0 k (by omega)) (fun k e1 e2 => FB 21 k (by omega)), h9.mv (FA 0 14 (by omega)) (FB 21 31 (by omega)), h10.mv (fun k => FA 12 k (by omega)) (fun k => FA 13 k (by omega)) (fun k => FB 28 k (by omega)) (fun k => FB 29 k (by omega)), h11.mv (FA 14 2 (by omega)) (fun k => FA 15 k (by omega)) (fun k e => FB 21 k (by omega)) (fun k => FB 26 k (by omega)), h12.mv (FA 17 2 (by omega)) (fun k => FA 18 k (by omega)) (FB 21 23 (by omega)) (fun k => FB 27 k (by omega))⟩
  · obtain ⟨a, b, ha, hb, rfl, rfl⟩ := hp_nat h6 hc
    obtain ⟨-, c2, -, r2, -⟩ := h6
    obtain ⟨-, -, -, -, hm, -, -, -, -, -, b3⟩ := h4
    rw [b3] at hv
    obtain ⟨g, hg, rfl⟩ := wi_nat (by omega) hv
    unfold cgS
    rw [if_neg (plc_of (by omega) (by omega)).2, (plc_of (by omega) (by omega)).1, nI_clamp (by omega), at_16 (by omega) (by omega)]
    intro n hn
    rw [puI_at, puI_at, puI_at]
    obtain ⟨g1, g2, g3⟩ := h7 n hn
    by_cases e : n = 16 * b + a
    · rw [if_pos ⟨rfl, e⟩, if_pos ⟨rfl, e⟩]
      exact ⟨rfl, ⟨g, by omega, rfl⟩, fun z => by omega⟩
    · rw [if_neg (fun z => e z.2), if_neg (fun z => e z.2), if_neg (by omega)]
      exact ⟨g1, g2, g3⟩

theorem wyC_0 {x v : Int32} (h : wyC x v = 0) : (x = 0 ∧ ∃ o, o ≤ 4 ∧ v = nI o) ∨ ((x = 1 ∨ x = 2) ∧ (v = 0 ∨ v = 1)) := by
  unfold wyC at h
  by_cases e1 : wi x 0 2 = 0
  · rw [if_pos e1] at h; exact absurd h (by decide)
  rw [if_neg e1] at h
  by_cases e2 : wi v 0 (if x = 0 then 4 else 1) = 0
  · rw [if_pos e2] at h; exact absurd h (by decide)
  obtain ⟨a, ha, rfl⟩ := wi_nat (n := 3) (by decide) e1
  by_cases e3 : nI a = 0
  · rw [if_pos e3] at e2
    obtain ⟨b, hb, rfl⟩ := wi_nat (n := 5) (by decide) e2
    exact Or.inl ⟨e3, b, by omega, rfl⟩
  · rw [if_neg e3] at e2
    obtain ⟨b, hb, rfl⟩ := wi_nat (n := 2) (by decide) e2
    refine Or.inr ⟨?_, ?_⟩
    · match a, ha with
      | 0, _ => exact absurd rfl e3
      | 1, _ => exact Or.inl rfl
      | 2, _ => exact Or.inr rfl
    · match b, hb with
      | 0, _ => exact Or.inl rfl
      | 1, _ => exact Or.inr rfl
theorem q_way {h w : Nat} {A B : St} {x v : Int32} (H : Rl h w A B) (hc : wyC x v = 0) : Rl h w (cwS9 A x v) (wyT B x v) := by
  obtain ⟨pw, ph, m, c, r, h1, h2, h3, h4, h5, h6, h7, h8, h9, h10, h11, h12⟩ := H
  have FA : ∀ o k, ¬ (o = 0 ∧ (k = 11 ∨ k = 12 ∨ k = 13)) → (cwS9 A x v).1 o k = A.1 o k := by
    intro o k hn
    unfold cwS9
    repeat' split
    all_goals (rw [puI_at, if_neg (by omega)])
  have FB : ∀ o k, ¬ (o = 21 ∧ (k = 0 ∨ k = 16 ∨ k = 17 ∨ k = 18)) → (wyT B x v).1 o k = B.1 o k := by
    intro o k hn
    simp only [wyT, puI_at]
    repeat rw [if_neg (by omega)]
  have FA2 : ∀ k, (cwS9 A x v).2 6 k = A.2 6 k := by
      intro k
      unfold cwS9
      repeat' split
      all_goals rfl
  refine ⟨pw, ph, m, c, r, h1.mv (fun o k e => FA o k (by omega)) (fun k e => FB 21 k (by omega)), h2.mv (fun k => FA 2 k (by omega)) (fun k => FB 22 k (by omega)), h3.mv (fun k => FA 4 k (by omega)) (fun k => FB 23 k (by omega)), h4.mv (fun k => FA 5 k (by omega)) (fun k e => FB 21 k (by omega)), h5.mv (fun k => FA2 k) (fun k => FB 24 k (by omega)), h6.mv (fun k => FA 7 k (by omega)) (fun k e1 e2 => FB 21 k (by omega)), h7.mv (fun k => FA 8 k (by omega)) (fun k => FB 25 k (by omega)), ?_, h9.mv (FA 0 14 (by omega)) (FB 21 31 (by omega)), h10.mv (fun k => FA 12 k (by omega)) (fun k => FA 13 k (by omega)) (fun k => FB 28 k (by omega)) (fun k => FB 29 k (by omega)), h11.mv (FA 14 2 (by omega)) (fun k => FA 15 k (by omega)) (fun k e => FB 21 k (by omega)) (fun k => FB 26 k (by omega)), h12.mv (FA 17 2 (by omega)) (fun k => FA 18 k (by omega)) (FB 21 23 (by omega)) (fun k => FB 27 k (by omega))⟩
  · obtain ⟨e1, e2, e3, e4, e5, e6⟩ := h8
    rcases wyC_0 hc with ⟨rfl, v9, hv, rfl⟩ | ⟨rfl | rfl, hv⟩
    · refine ⟨?_, ⟨v9, hv, ?_⟩, ?_, ?_, ?_, ?_⟩ <;> simp [cwS9, wyT, puI_at, e3, e4, e5, e6]
    · refine ⟨?_, ?_, ?_, ?_, ?_, ?_⟩ <;> simp [cwS9, wyT, puI_at, e1, e2, e3, e4, e5, e6, hv]
    · refine ⟨?_, ?_, ?_, ?_, ?_, ?_⟩ <;> simp [cwS9, wyT, puI_at, e1, e2, e3, e4, e5, e6, hv]

