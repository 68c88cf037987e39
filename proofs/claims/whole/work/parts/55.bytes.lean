/-! bytes that come -/
theorem nar_byte {b : Int32} : vp_nar .byte b.toInt8.toInt32 = b.toInt8.toInt32 := by
  show b.toInt8.toInt32.toInt8.toInt32 = _
  rw [Int8.toInt8_toInt32]
theorem hr_1 {A B : St} (H : Rrea A B) : hrR A 1 = if B.1 21 23 = 3000 then 0 else 1 := by
  obtain ⟨cm, hc, a1, b1, -⟩ := H
  unfold hrR
  rw [a1, b1]
  by_cases e : cm = 3000
  · subst e; decide
  · rw [if_neg (show ¬ nI cm = 3000 from fun z => e ((nI_eq (by omega) (by decide)).mp z))]
    obtain ⟨d, hd⟩ : ∃ d, 3000 = cm + (d + 1) := ⟨3000 - cm - 1, by omega⟩
    rw [hd, ← nI_add cm (d + 1), Int32.add_comm, Int32.add_sub_cancel, if_neg (show ¬ nI (d + 1) < 1 from nI_nlt (b := 1) (by omega) (by omega))]
theorem rea_cm {A B : St} (H : Rrea A B) : ∃ cm, cm ≤ 3000 ∧ A.1 17 2 = nI cm ∧ B.1 21 23 = nI cm := by
  obtain ⟨cm, hc, a1, b1, -⟩ := H
  exact ⟨cm, hc, a1, b1⟩
theorem q_take {h w : Nat} {A B : St} {cm v : Nat} (H : Rl h w A B) (hc : cm < 3000) (hcm : B.1 21 23 = nI cm) (hv : v < 256) : Rl h w (tkR A (nI v)) (puI (puI B 27 (B.1 21 23).toNatClampNeg (nI v)) 21 23 (B.1 21 23 + 1)) := by
  obtain ⟨pw, ph, m, c, r, h1, h2, h3, h4, h5, h6, h7, h8, h9, h10, h11, h12⟩ := H
  have TK : tkR A (nI v) = puI (puI A 18 cm (nI v).toInt8.toInt32) 17 2 (nI (cm + 1)) := by
    obtain ⟨cm', hc', a1, b1, hb⟩ := h12
    have e : cm' = cm := (nI_eq (by omega) (by omega)).mp (b1.symm.trans hcm)
    subst e
    unfold tkR
    rw [a1, if_neg (wi_ok hc (by decide)), nI_clamp (by omega), nar_byte, nI_1]
  have FA : ∀ o k, ¬ (o = 18 ∨ (o = 17 ∧ k = 2)) → (tkR A (nI v)).1 o k = A.1 o k := by
    intro o k hn
    rw [TK, puI_at, if_neg (by omega), puI_at, if_neg (by omega)]
  have FB : ∀ o k, ¬ (o = 27 ∨ (o = 21 ∧ k = 23)) → (puI (puI B 27 (B.1 21 23).toNatClampNeg (nI v)) 21 23 (B.1 21 23 + 1)).1 o k = B.1 o k := by
    intro o k hn
    rw [puI_at, if_neg (by omega), puI_at, if_neg (by omega)]
  have FA2 : ∀ k, (tkR A (nI v)).2 6 k = A.2 6 k := fun k => by rw [TK]; rfl
  refine ⟨pw, ph, m, c, r, h1.mv (fun o k e => FA o k (by omega)) (fun k e => FB 21 k (by omega)), h2.mv (fun k => FA 2 k (by omega)) (fun k => FB 22 k (by omega)), h3.mv (fun k => FA 4 k (by omega)) (fun k => FB 23 k (by omega)), h4.mv (fun k => FA 5 k (by omega)) (fun k e => FB 21 k (by omega)), h5.mv (fun k => FA2 k) (fun k => FB 24 k (by omega)), h6.mv (fun k => FA 7 k (by omega)) (fun k e1 e2 => FB 21 k (by omega)), h7.mv (fun k => FA 8 k (by omega)) (fun k => FB 25 k (by omega)), h8.mv (fun k e1 e2 => FA 0 k (by omega)) (fun k e1 e2 => FB 21 k (by omega)), h9.mv (FA 0 14 (by omega)) (FB 21 31 (by omega)), h10.mv (fun k => FA 12 k (by omega)) (fun k => FA 13 k (by omega)) (fun k => FB 28 k (by omega)) (fun k => FB 29 k (by omega)), h11.mv (FA 14 2 (by omega)) (fun k => FA 15 k (by omega)) (fun k e => FB 21 k (by omega)) (fun k => FB 26 k (by omega)), ?_⟩
  · obtain ⟨cm', hc', a1, b1, hb⟩ := h12
    have e : cm' = cm := (nI_eq (by omega) (by omega)).mp (b1.symm.trans hcm)
    subst e
    rw [TK, hcm, nI_clamp (by omega), nI_1]
    refine ⟨cm' + 1, by omega, by rw [puI_s], by rw [puI_s], fun n hn => ?_⟩
    by_cases e : n = cm'
    · refine ⟨v, hv, ?_, ?_⟩ <;> simp [puI_at, e]
    · obtain ⟨v', hv', g1, g2⟩ := hb n (by omega)
      refine ⟨v', hv', ?_, ?_⟩ <;> simp [puI_at, e, g1, g2]

/-! bytes that are made -/
theorem sz_w {A B : St} (H : Rwri A B) : szW A = B.1 21 21 ∧ ∃ n, n ≤ 384 ∧ B.1 21 21 = nI n := by
  obtain ⟨nb, q, hb, -, a1, -, -, b1, -⟩ := H
  unfold szW
  rw [a1, b1, show (7 : Int32) = nI 7 from rfl, show (3 : Int32) = nI 3 from rfl, nI_add, shr_k (by omega) 3 (by decide)]
  exact ⟨rfl, _, by omega, rfl⟩
theorem byte_all : ∀ v, v < 256 → nF (fun i a => (2 : Int32) * a + b2I (v.testBit (7 - i))) 8 0 = nI v := by decide +kernel
theorem and255 (x : Int32) : ∃ v, v < 256 ∧ x &&& 255 = nI v ∧ ∀ k, k < 8 → bI9 x k = v.testBit k := by
  refine ⟨x.toBitVec.toNat % 256, Nat.mod_lt _ (by decide), ?_, fun k hk => ?_⟩
  · apply eqI
    intro i hi
    rw [bI_and, bI_255, bI_nI, show 256 = 2 ^ 8 from rfl, Nat.testBit_mod_two_pow]
    simp [hi, bI9, BitVec.getLsbD, Bool.and_comm]
  · rw [show 256 = 2 ^ 8 from rfl, Nat.testBit_mod_two_pow]
    simp [hk, bI9, BitVec.getLsbD]
theorem by_by {A B : St} (H : Rwri A B) {n : Nat} (hn : nI n < B.1 21 21) (hn2 : n < 384) : ∃ v, v < 256 ∧ mdW A (nI n) = nI v ∧ mbM B n = nI v := by
  obtain ⟨nb, q, hb, hq, a1, b0, hq2, b1, hbit, hz⟩ := H
  rw [b1, nI_ltI (by omega) (by omega)] at hn
  have hq3 : q = nb := hq2 (by omega)
  subst hq3
  obtain ⟨v, hv, e, hk⟩ := and255 (A.1 15 n)
  refine ⟨v, hv, ?_, ?_⟩
  · unfold mdW
    rw [if_neg (wi_ok hn2 (by decide)), nI_clamp (by omega), e]
  · rw [← byte_all v hv]
    unfold mbM
    apply nF_congr
    intro i t hi
    unfold mbF
    congr 1
    rw [b0, ← hk (7 - i) (by omega)]
    by_cases e1 : 8 * n + i < q
    · rw [if_neg (show ¬ nI q ≤ nI (8 * n + i) from nI_ge e1 (by omega)), hbit _ e1, show (8 * n + i) / 8 = n by omega, show (8 * n + i) % 8 = i by omega]
      cases bI9 (A.1 15 n) (7 - i) <;> decide
    · rw [if_pos (nI_le (by omega) (by omega))]
      have := hz (8 * n + i) (by omega) (by omega)
      rw [show (8 * n + i) / 8 = n by omega, show (8 * n + i) % 8 = i by omega] at this
      rw [this]
      rfl
