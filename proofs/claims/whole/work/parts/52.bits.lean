/-! bits of ints and longs -/
theorem am_r : ∀ n, n < 32 → ((nI n &&& 31).toBitVec.smod 32).toNat = n := by decide +kernel
theorem bv_shr {x : Int32} {n : Nat} (h : n < 32) : (x >>> (nI n &&& 31)).toBitVec = x.toBitVec.sshiftRight n := by
  rw [Int32.toBitVec_shiftRight]
  unfold BitVec.sshiftRight'
  rw [am_r n h]
theorem bv_shl {x : Int32} {n : Nat} (h : n < 32) : (x <<< (nI n &&& 31)).toBitVec = x.toBitVec <<< n := by
  rw [Int32.toBitVec_shiftLeft]
  show x.toBitVec <<< (((nI n &&& 31).toBitVec.smod 32).toNat) = _
  rw [am_r n h]
theorem am_u : ∀ n, n < 32 → ((nI n).toUInt32 &&& Int32.toUInt32 31).toNat % 32 = n := by decide +kernel
theorem bv_ushr {x : Int32} {n : Nat} (h : n < 32) : (ushr x (nI n)).toBitVec = x.toBitVec >>> n := by
  apply BitVec.eq_of_toNat_eq
  show ((x.toUInt32 >>> ((nI n).toUInt32 &&& Int32.toUInt32 31))).toNat = _
  rw [UInt32.toNat_shiftRight, am_u n h, BitVec.toNat_ushiftRight]
  rfl
theorem am_l : ∀ n, n < 64 → ((nI n).toInt64.toUInt64 &&& Int64.toUInt64 63).toNat % 64 = n := by decide +kernel
theorem bv_ushL {x : Int64} {n : Nat} (h : n < 64) : (ushL x (nI n)).toBitVec = x.toBitVec >>> n := by
  apply BitVec.eq_of_toNat_eq
  show ((x.toUInt64 >>> ((nI n).toInt64.toUInt64 &&& Int64.toUInt64 63))).toNat = _
  rw [UInt64.toNat_shiftRight, am_l n h, BitVec.toNat_ushiftRight]
  rfl
theorem am_ll : ∀ n, n < 64 → (((nI n).toInt64 &&& 63).toBitVec.smod 64).toNat = n := by decide +kernel
theorem bv_shlL {x : Int64} {n : Nat} (h : n < 64) : (x <<< ((nI n).toInt64 &&& 63)).toBitVec = x.toBitVec <<< n := by
  rw [Int64.toBitVec_shiftLeft]
  show x.toBitVec <<< ((((nI n).toInt64 &&& 63).toBitVec.smod 64).toNat) = _
  rw [am_ll n h]
theorem eqI {x y : Int32} (h : ∀ i, i < 32 → bI9 x i = bI9 y i) : x = y := by
  apply Int32.toBitVec_inj.mp
  apply BitVec.eq_of_getLsbD_eq
  exact h
theorem bI_and {x y : Int32} {n : Nat} : bI9 (x &&& y) n = (bI9 x n && bI9 y n) := by
  unfold bI9; rw [Int32.toBitVec_and, BitVec.getLsbD_and]
theorem bI_or {x y : Int32} {n : Nat} : bI9 (x ||| y) n = (bI9 x n || bI9 y n) := by
  unfold bI9; rw [Int32.toBitVec_or, BitVec.getLsbD_or]
theorem bI_xor {x y : Int32} {n : Nat} : bI9 (x ^^^ y) n = (bI9 x n ^^ bI9 y n) := by
  unfold bI9; rw [Int32.toBitVec_xor, BitVec.getLsbD_xor]
theorem bI_hi {x : Int32} {n : Nat} (h : 32 ≤ n) : bI9 x n = false := BitVec.getLsbD_of_ge _ _ h
theorem bL_hi {x : Int64} {n : Nat} (h : 64 ≤ n) : bL9 x n = false := BitVec.getLsbD_of_ge _ _ h
theorem bI_0 {n : Nat} : bI9 0 n = false := by unfold bI9; exact BitVec.getLsbD_zero
theorem bL_0 {n : Nat} : bL9 0 n = false := by unfold bL9; exact BitVec.getLsbD_zero
theorem bI_m1 {n : Nat} : bI9 (-1) n = decide (n < 32) := by
  unfold bI9
  show (BitVec.allOnes 32).getLsbD n = _
  exact BitVec.getLsbD_allOnes
theorem bI_1 {n : Nat} : bI9 1 n = decide (n = 0) := by
  unfold bI9
  show (1#32).getLsbD n = _
  rw [BitVec.getLsbD_one]
  simp
theorem bI_shl {x : Int32} {n i : Nat} (h : n < 32) : bI9 (x <<< (nI n &&& 31)) i = (decide (i < 32) && !decide (i < n) && bI9 x (i - n)) := by
  unfold bI9; rw [bv_shl h, BitVec.getLsbD_shiftLeft]
theorem bI_ushr {x : Int32} {n i : Nat} (h : n < 32) : bI9 (ushr x (nI n)) i = bI9 x (n + i) := by
  unfold bI9; rw [bv_ushr h, BitVec.getLsbD_ushiftRight]
theorem bI_shr {x : Int32} {n i : Nat} (h : n + i < 32) : bI9 (x >>> (nI n &&& 31)) i = bI9 x (n + i) := by
  unfold bI9
  rw [bv_shr (by omega), BitVec.getLsbD_sshiftRight]
  simp [h]
  omega
theorem bI_nI {n i : Nat} : bI9 (nI n) i = (decide (i < 32) && n.testBit i) := by
  unfold bI9
  show (BitVec.ofNat 32 n).getLsbD i = _
  rw [BitVec.getLsbD_ofNat]
theorem and1 {x : Int32} : x &&& 1 = b2I (bI9 x 0) := by
  apply eqI
  intro i _
  rw [bI_and, bI_1]
  by_cases hi : i = 0
  · subst hi
    cases hx : bI9 x 0 <;> simp [b2I, bI_1, bI_0]
  · cases hx : bI9 x 0 <;> simp [b2I, bI_1, bI_0, hi]
theorem bit1 {x : Int32} {n : Nat} (h : n < 32) : x >>> (nI n &&& 31) &&& 1 = b2I (bI9 x n) := by
  rw [and1, bI_shr (by omega)]
  rfl
theorem ubit1 {x : Int32} {n : Nat} (h : n < 32) : ushr x (nI n) &&& 1 = b2I (bI9 x n) := by
  rw [and1, bI_ushr h]
  rfl
theorem bI_toInt32 {x : Int64} {n : Nat} (h : n < 32) : bI9 x.toInt32 n = bL9 x n := by
  unfold bI9 bL9
  rw [Int64.toBitVec_toInt32, BitVec.getLsbD_signExtend]
  have h2 : n < 64 := by omega
  simp [h, h2]
theorem bL_ushL {x : Int64} {n i : Nat} (h : n < 64) : bL9 (ushL x (nI n)) i = bL9 x (n + i) := by
  unfold bL9; rw [bv_ushL h, BitVec.getLsbD_ushiftRight]
theorem bL_xor {x y : Int64} {n : Nat} : bL9 (x ^^^ y) n = (bL9 x n ^^ bL9 y n) := by
  unfold bL9; rw [Int64.toBitVec_xor, BitVec.getLsbD_xor]
theorem bL_one {n i : Nat} (h : n < 64) : bL9 ((1 : Int64) <<< ((nI n).toInt64 &&& 63)) i = (decide (i < 64) && decide (i = n)) := by
  unfold bL9
  rw [bv_shlL h, BitVec.getLsbD_shiftLeft]
  show (decide (i < 64) && !decide (i < n) && (1#64).getLsbD (i - n)) = _
  rw [BitVec.getLsbD_one]
  by_cases h1 : i < n
  · have : ¬ i = n := by omega
    simp [h1, this]
  · by_cases h2 : i = n
    · subst h2; simp
    · have : ¬ i - n = 0 := by omega
      simp [h1, h2, this]
theorem bI_255 {i : Nat} : bI9 255 i = decide (i < 8) := by
  show bI9 (nI 255) i = _
  rw [bI_nI]
  by_cases h : i < 8
  · have h2 : ∀ i, i < 8 → (decide (i < 32) && Nat.testBit 255 i) = true := by decide
    rw [h2 i h]; simp [h]
  · rw [Nat.testBit_lt_two_pow (Nat.lt_of_lt_of_le (by decide : 255 < 2 ^ 8) (Nat.pow_le_pow_right (by decide) (by omega)))]
    simp [h]
/-- the mask of the first n columns -/
theorem bI_ones {n i : Nat} (h : n < 32) : bI9 ((1 : Int32) <<< (nI n &&& 31) - 1) i = decide (i < n) := by
  have e : (1 : Int32) <<< (nI n &&& 31) - 1 = nI (2 ^ n - 1) := by
    apply Int32.toBitVec_inj.mp
    rw [Int32.toBitVec_sub, bv_shl h]
    apply BitVec.eq_of_toNat_eq
    have h1 : 2 ^ n < 2 ^ 32 := Nat.pow_lt_pow_right (by decide) h
    have h2 : 0 < 2 ^ n := Nat.pow_pos (by decide)
    show ((1#32 <<< n) - 1#32).toNat = (BitVec.ofNat 32 (2 ^ n - 1)).toNat
    rw [BitVec.toNat_sub, BitVec.toNat_shiftLeft, BitVec.toNat_ofNat, BitVec.toNat_ofNat, Nat.shiftLeft_eq]
    have h3 : 1 % 2 ^ 32 * 2 ^ n % 2 ^ 32 = 2 ^ n := by
      rw [show 1 % 2 ^ 32 = 1 by decide, Nat.one_mul, Nat.mod_eq_of_lt h1]
    rw [h3]
    omega
  rw [e, bI_nI, Nat.testBit_two_pow_sub_one]
  by_cases h1 : i < n
  · have : i < 32 := by omega
    simp [h1, this]
  · simp [h1]
theorem bI_msk {w i : Nat} (h : w ≤ 32) : bI9 (msk (nI w)) i = decide (i < w) := by
  unfold msk
  by_cases h1 : w < 32
  · rw [if_pos (show nI w < 32 from nI_lt (b := 32) h1 (by decide)), bI_ones h1]
  · have : w = 32 := by omega
    subst this
    rw [if_neg (by decide), bI_m1]
theorem eq_b {b : Int32} (h : b = 0 ∨ b = 1) : b = b2I (decide (b = 1)) := by
  rcases h with rfl | rfl <;> decide
