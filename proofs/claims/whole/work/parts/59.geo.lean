/-! where a pattern lies -/
theorem shr8_b (z : Int32) : -8388608 ≤ (z >>> (8 &&& 31)).toInt ∧ (z >>> (8 &&& 31)).toInt < 8388608 := by
  have e : (z >>> (8 &&& 31)).toInt = z.toInt >>> 8 := by
    show (z >>> (nI 8 &&& 31)).toBitVec.toInt = z.toBitVec.toInt >>> 8
    rw [bv_shr (by decide), BitVec.toInt_sshiftRight]
  have h1 := Int32.le_toInt z
  have h2 := Int32.toInt_lt z
  rw [e, Int.shiftRight_eq_div_pow]
  omega
theorem x_b (B : St) (i j : Int32) : -8388608 ≤ (xM B i j).toInt ∧ (xM B i j).toInt < 8388608 := shr8_b _
theorem y_b (B : St) (i j : Int32) : -8388608 ≤ (yM B i j).toInt ∧ (yM B i j).toInt < 8388608 := shr8_b _
theorem add_i {z : Int32} {n : Nat} (hz : -8388608 ≤ z.toInt ∧ z.toInt < 8388608) (hn : n ≤ 64) : (z + nI n).toInt = z.toInt + n := by
  rw [Int32.toInt_add, nI_toInt (by omega)]
  exact Int.bmod_eq_of_le (by omega) (by omega)
theorem wi_i {z : Int32} {n : Nat} (hn : n ≤ 32) : wi z 0 (nI n - 1) = if 0 ≤ z.toInt ∧ z.toInt < n then 1 else 0 := by
  by_cases h : wi z 0 (nI n - 1) = 0
  · rw [h, if_neg]
    intro h2
    have e : z = nI z.toInt.toNat := by
      apply Int32.toInt_inj.mp
      rw [nI_toInt (by omega)]
      omega
    rw [e] at h
    exact wi_ok (by omega) (by omega) h
  · obtain ⟨j, hj, rfl⟩ := wi_nat (by omega) h
    have h3 : wi (nI j) 0 (nI n - 1) = 1 := by
      unfold wi at h ⊢
      split at h
      · exact absurd rfl h
      · rename_i h4
        rw [if_neg h4]
        split at h
        · exact absurd rfl h
        · rename_i h5
          rw [if_neg h5]
    rw [h3, nI_toInt (by omega), if_pos (by omega)]
theorem to_n {z : Int32} (h : 0 ≤ z.toInt) : z = nI z.toInt.toNat ∧ z.toNatClampNeg = z.toInt.toNat := by
  have h2 := Int32.toInt_lt z
  have e : z = nI z.toInt.toNat := by
    apply Int32.toInt_inj.mp
    rw [nI_toInt (by omega)]
    omega
  refine ⟨e, ?_⟩
  rw [← Int32.toNat_toInt]
theorem ou_i {h w pw ph m c r : Nat} {A B : St} (H1 : Rdim h w A B) (H2 : Rpat pw ph m A B) {i j : Int32} : ouM B i j = 0 ↔ (0 < (xM B i j).toInt + pw ∧ (xM B i j).toInt < w ∧ 0 < (yM B i j).toInt + ph ∧ (yM B i j).toInt < h) := by
  obtain ⟨-, w2, -, q2, -, -, -, -, b1, b2⟩ := H1
  obtain ⟨-, p2, -, p4, -, -, -, -, b3, b4, -⟩ := H2
  have hx := x_b B i j
  have hy := y_b B i j
  unfold ouM
  rw [b1, b2, b3, b4]
  have z0 : (0 : Int32).toInt = 0 := rfl
  have e1 : (xM B i j + nI pw ≤ 0) ↔ (xM B i j).toInt + pw ≤ 0 := by rw [Int32.le_iff_toInt_le, add_i hx (by omega), z0]
  have e2 : (nI w ≤ xM B i j) ↔ (w : Int) ≤ (xM B i j).toInt := by rw [Int32.le_iff_toInt_le, nI_toInt (by omega)]
  have e3 : (yM B i j + nI ph ≤ 0) ↔ (yM B i j).toInt + ph ≤ 0 := by rw [Int32.le_iff_toInt_le, add_i hy (by omega), z0]
  have e4 : (yM B i j < nI h) ↔ (yM B i j).toInt < h := by rw [Int32.lt_iff_toInt_lt, nI_toInt (by omega)]
  simp only [e1, e2, e3, e4]
  by_cases f1 : (xM B i j).toInt + pw ≤ 0
  · rw [if_pos f1]; exact ⟨fun z => absurd z (by decide), fun z => by omega⟩
  rw [if_neg f1]
  by_cases f2 : (w : Int) ≤ (xM B i j).toInt
  · rw [if_pos f2]; exact ⟨fun z => absurd z (by decide), fun z => by omega⟩
  rw [if_neg f2]
  by_cases f3 : (yM B i j).toInt + ph ≤ 0
  · rw [if_pos f3]; exact ⟨fun z => absurd z (by decide), fun z => by omega⟩
  rw [if_neg f3]
  by_cases f4 : (yM B i j).toInt < h
  · rw [if_pos f4]; exact ⟨fun _ => by omega, fun _ => rfl⟩
  · rw [if_neg f4]; exact ⟨fun z => absurd z (by decide), fun z => by omega⟩
/-- bits moved by as many columns as an int says -/
theorem mvd_bit {b c : Int32} {x : Nat} (h1 : -32 < c.toInt) (h2 : c.toInt < 32) : bI9 (mvd b c) x = (decide (x < 32) && decide (c.toInt ≤ x) && bI9 b ((x : Int) - c.toInt).toNat) := by
  unfold mvd
  have z0 : (0 : Int32).toInt = 0 := rfl
  by_cases h : c < 0
  · rw [if_pos h]
    rw [Int32.lt_iff_toInt_lt, z0] at h
    have e : -c = nI (-c.toInt).toNat := by
      apply Int32.toInt_inj.mp
      rw [nI_toInt (by omega), Int32.toInt_neg, Int.bmod_eq_of_le (by omega) (by omega)]
      omega
    rw [e, bI_ushr (by omega), show ((x : Int) - c.toInt).toNat = (-c.toInt).toNat + x by omega]
    have h3 : c.toInt ≤ x := by omega
    by_cases hx : x < 32
    · simp [hx, h3]
    · rw [bI_hi (by omega)]; simp
  · rw [if_neg h]
    rw [Int32.lt_iff_toInt_lt, z0] at h
    obtain ⟨e, -⟩ := to_n (z := c) (by omega)
    have e2 : c.toInt = (c.toInt.toNat : Int) := by omega
    generalize c.toInt.toNat = n at *
    rw [e, bI_shl (by omega), ← e, e2]
    by_cases hx : x < n
    · have : ¬ (n : Int) ≤ x := by omega
      simp [hx, this]
    · have h3 : (n : Int) ≤ x := by omega
      rw [show ((x : Int) - n).toNat = x - n by omega]
      simp [hx, h3]
theorem cu_bit {h w pw ph m : Nat} {A B : St} (H1 : Rdim h w A B) (H2 : Rpat pw ph m A B) {c : Int32} (h1 : -32 < c.toInt) (h2 : c.toInt < 32) {x : Nat} : bI9 (cuH A c) x = (decide (c.toInt ≤ x ∧ (x : Int) < c.toInt + pw) && decide (x < w)) := by
  obtain ⟨-, w2, -, q2, -, -, a3, -⟩ := H1
  obtain ⟨-, p2, -, p4, -, a5, -⟩ := H2
  unfold cuH
  rw [a3, a5, bI_and, bI_msk w2, mvd_bit h1 h2, bI_ones (by omega)]
  by_cases hx : x < w
  · have h3 : x < 32 := by omega
    simp only [hx, h3, decide_true, Bool.true_and, Bool.and_true]
    by_cases h4 : c.toInt ≤ x
    · simp only [h4, decide_true, Bool.true_and, true_and]
      congr 1
      apply propext
      omega
    · simp [h4]
  · simp [hx]
theorem ra_rb {h w pw ph m c r : Nat} {A B : St} (H1 : Rdim h w A B) (H2 : Rpat pw ph m A B) (H3 : Rgrd c r A B) {i j : Int32} (ho : ouM B i j = 0) : raH A i j = (max 0 (yM B i j).toInt).toNat ∧ rbH A i j = (min (h : Int) ((yM B i j).toInt + ph)).toNat := by
  obtain ⟨-, -, g3, g4⟩ := (ou_i (c := c) (r := r) H1 H2).mp ho
  obtain ⟨-, w2, -, q2, -, a2, -⟩ := H1
  obtain ⟨-, p2, -, p4, -, -, a6, -⟩ := H2
  have hy := y_b B i j
  have z0 : (0 : Int32).toInt = 0 := rfl
  unfold raH rbH
  rw [(lf_x H3).2, a2, a6]
  constructor
  · by_cases hz : (0 : Int32) < yM B i j
    · rw [if_pos hz]
      rw [Int32.lt_iff_toInt_lt, z0] at hz
      rw [(to_n (by omega)).2]
      congr 1
      omega
    · rw [if_neg hz]
      rw [Int32.lt_iff_toInt_lt, z0] at hz
      show 0 = _
      omega
  · have ea := add_i (n := ph) hy (by omega)
    by_cases hz : yM B i j + nI ph < nI h
    · rw [if_pos hz]
      rw [Int32.lt_iff_toInt_lt, ea, nI_toInt (by omega)] at hz
      rw [(to_n (by omega)).2, ea]
      congr 1
      omega
    · rw [if_neg hz]
      rw [Int32.lt_iff_toInt_lt, ea, nI_toInt (by omega)] at hz
      rw [nI_clamp (by omega)]
      omega
