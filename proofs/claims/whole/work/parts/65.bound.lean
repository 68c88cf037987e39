/-! how many bits the runs take: a potential. 3200 units are a bit -/
def wb_cost (r k : Nat) : Nat := if r / 2 ^ k < 12 then r / 2 ^ k + 1 + k else 25
def wb_k (m a k : Nat) : Prop := k ≤ 8 ∧ (∀ j, j < k → m * 2 ^ j < a) ∧ (k < 8 → a ≤ m * 2 ^ k)
def wb_f (m a : Nat) : Nat := (64 * a + 128 - 128 * m) + (32 * a + 128 - 128 * m) + (16 * a + 128 - 128 * m) + (8 * a + 128 - 128 * m) + (4 * a + 128 - 128 * m) + (2 * a + 128 - 128 * m) + (a + 128 - 128 * m)
def wb_ph (m a : Nat) : Nat := 128 * (a - m) + 25 * wb_f m a
def wb_ps (m : Nat) : Nat := match m with
  | 0 => 42
  | 1 => 42
  | 2 => 33
  | 3 => 26
  | 4 => 20
  | 5 => 16
  | 6 => 12
  | 7 => 9
  | 8 => 6
  | 9 => 4
  | 10 => 2
  | 11 => 1
  | _ => 0
/-- a term whose level lies under the mean: it moves by what the run brings, less one -/
theorem wb_lo {c a m r : Nat} (h : 128 * m < c * a) : (c * (a + r) + 128 - 128 * (m + 1)) + 128 = (c * a + 128 - 128 * m) + c * r := by
  have : c * (a + r) = c * a + c * r := Nat.mul_add c a r
  omega
theorem wb_hi {c a m r : Nat} (h : c * a ≤ 128 * m) : (c * (a + r) + 128 - 128 * (m + 1)) ≤ (c * a + 128 - 128 * m) + (c * r - 128) := by
  have : c * (a + r) = c * a + c * r := Nat.mul_add c a r
  omega
theorem wb_k0 {m a r : Nat} (hm : 1 ≤ m) (hm2 : m ≤ 30) (ha : a ≤ m) : 3200 * wb_cost r 0 + wb_ph (m + 1) (a + r) + 3200 * wb_ps (m + 1) ≤ 6272 * (r + 1) + wb_ph m a + 3200 * wb_ps m := by
  have e : wb_cost r 0 = if r < 12 then r + 1 else 25 := by simp [wb_cost]
  rw [e]
  have h0 : wb_ph (m + 1) (a + r) ≤ 128 * (r - 1) + 25 * ((64 * r - 64 * m) + (32 * r - 96 * m) + (16 * r - 112 * m) + (8 * r - 120 * m) + (4 * r - 124 * m) + (2 * r - 126 * m) + (r - 127 * m)) := by
    unfold wb_ph wb_f
    have h1 : a + r - (m + 1) ≤ r - 1 := by omega
    have g1 : 64 * (a + r) + 128 - 128 * (m + 1) ≤ 64 * r - 64 * m := by omega
    have g2 : 32 * (a + r) + 128 - 128 * (m + 1) ≤ 32 * r - 96 * m := by omega
    have g3 : 16 * (a + r) + 128 - 128 * (m + 1) ≤ 16 * r - 112 * m := by omega
    have g4 : 8 * (a + r) + 128 - 128 * (m + 1) ≤ 8 * r - 120 * m := by omega
    have g5 : 4 * (a + r) + 128 - 128 * (m + 1) ≤ 4 * r - 124 * m := by omega
    have g6 : 2 * (a + r) + 128 - 128 * (m + 1) ≤ 2 * r - 126 * m := by omega
    have g7 : (a + r) + 128 - 128 * (m + 1) ≤ r - 127 * m := by omega
    omega
  have h2 : 3200 * (if r < 12 then r + 1 else 25) + (128 * (r - 1) + 25 * ((64 * r - 64 * m) + (32 * r - 96 * m) + (16 * r - 112 * m) + (8 * r - 120 * m) + (4 * r - 124 * m) + (2 * r - 126 * m) + (r - 127 * m))) + 3200 * wb_ps (m + 1) ≤ 6272 * (r + 1) + 3200 * wb_ps m := by
    rcases (show m = 1 ∨ m = 2 ∨ m = 3 ∨ m = 4 ∨ m = 5 ∨ m = 6 ∨ m = 7 ∨ m = 8 ∨ m = 9 ∨ m = 10 ∨ m = 11 ∨ 12 ≤ m by omega) with rfl | rfl | rfl | rfl | rfl | rfl | rfl | rfl | rfl | rfl | rfl | h
    case inr.inr.inr.inr.inr.inr.inr.inr.inr.inr.inr =>
      have e1 : wb_ps (m + 1) = 0 := by
        obtain ⟨n, rfl⟩ : ∃ n, m = n + 12 := ⟨m - 12, by omega⟩
        rfl
      have e2 : wb_ps m = 0 := by
        obtain ⟨n, rfl⟩ : ∃ n, m = n + 12 := ⟨m - 12, by omega⟩
        rfl
      rw [e1, e2]
      split <;> omega
    all_goals (simp only [wb_ps]; split <;> omega)
  omega
theorem wb_s1 {m a r : Nat} (h0 : m < a) (hu : a ≤ 2 * m) : 3200 * wb_cost r 1 + wb_ph (m + 1) (a + r) ≤ 6272 * (r + 1) + wb_ph m a := by
  have e : wb_cost r 1 = if r / 2 < 12 then r / 2 + 2 else 25 := by
    unfold wb_cost; (try split) <;> (try split) <;> omega
  have l0 : (a + r - (m + 1)) + 1 = (a - m) + r := by omega
  have g1 : (64 * (a + r) + 128 - 128 * (m + 1)) ≤ (64 * a + 128 - 128 * m) + (64 * r - 128) := by omega
  have g2 : (32 * (a + r) + 128 - 128 * (m + 1)) ≤ (32 * a + 128 - 128 * m) + (32 * r - 128) := by omega
  have g3 : (16 * (a + r) + 128 - 128 * (m + 1)) ≤ (16 * a + 128 - 128 * m) + (16 * r - 128) := by omega
  have g4 : (8 * (a + r) + 128 - 128 * (m + 1)) ≤ (8 * a + 128 - 128 * m) + (8 * r - 128) := by omega
  have g5 : (4 * (a + r) + 128 - 128 * (m + 1)) ≤ (4 * a + 128 - 128 * m) + (4 * r - 128) := by omega
  have g6 : (2 * (a + r) + 128 - 128 * (m + 1)) ≤ (2 * a + 128 - 128 * m) + (2 * r - 128) := by omega
  have g7 : ((a + r) + 128 - 128 * (m + 1)) ≤ (a + 128 - 128 * m) + (r - 128) := by omega
  have hc : 3200 * (if r / 2 < 12 then r / 2 + 2 else 25) + 128 * r + 25 * ((64 * r - 128) + (32 * r - 128) + (16 * r - 128) + (8 * r - 128) + (4 * r - 128) + (2 * r - 128) + (r - 128)) ≤ 6272 * (r + 1) + 128 := by
    split <;> omega
  rw [e]
  unfold wb_ph wb_f
  generalize (if r / 2 < 12 then r / 2 + 2 else 25) = co at hc ⊢
  generalize a + r - (m + 1) = n0 at l0 ⊢
  generalize a - m = o0 at l0 ⊢
  generalize 64 * (a + r) + 128 - 128 * (m + 1) = n1 at g1 ⊢
  generalize 64 * a + 128 - 128 * m = o1 at g1 ⊢
  generalize 32 * (a + r) + 128 - 128 * (m + 1) = n2 at g2 ⊢
  generalize 32 * a + 128 - 128 * m = o2 at g2 ⊢
  generalize 16 * (a + r) + 128 - 128 * (m + 1) = n3 at g3 ⊢
  generalize 16 * a + 128 - 128 * m = o3 at g3 ⊢
  generalize 8 * (a + r) + 128 - 128 * (m + 1) = n4 at g4 ⊢
  generalize 8 * a + 128 - 128 * m = o4 at g4 ⊢
  generalize 4 * (a + r) + 128 - 128 * (m + 1) = n5 at g5 ⊢
  generalize 4 * a + 128 - 128 * m = o5 at g5 ⊢
  generalize 2 * (a + r) + 128 - 128 * (m + 1) = n6 at g6 ⊢
  generalize 2 * a + 128 - 128 * m = o6 at g6 ⊢
  generalize (a + r) + 128 - 128 * (m + 1) = n7 at g7 ⊢
  generalize a + 128 - 128 * m = o7 at g7 ⊢
  generalize 64 * r - 128 = u1 at g1 hc
  generalize 32 * r - 128 = u2 at g2 hc
  generalize 16 * r - 128 = u3 at g3 hc
  generalize 8 * r - 128 = u4 at g4 hc
  generalize 4 * r - 128 = u5 at g5 hc
  generalize 2 * r - 128 = u6 at g6 hc
  generalize r - 128 = u7 at g7 hc
  omega
theorem wb_s2 {m a r : Nat} (h0 : m < a) (h1 : 2 * m < a) (hu : a ≤ 4 * m) : 3200 * wb_cost r 2 + wb_ph (m + 1) (a + r) ≤ 6272 * (r + 1) + wb_ph m a := by
  have e : wb_cost r 2 = if r / 4 < 12 then r / 4 + 3 else 25 := by
    unfold wb_cost; (try split) <;> (try split) <;> omega
  have l0 : (a + r - (m + 1)) + 1 = (a - m) + r := by omega
  have g1 : (64 * (a + r) + 128 - 128 * (m + 1)) + 128 = (64 * a + 128 - 128 * m) + 64 * r := by omega
  have g2 : (32 * (a + r) + 128 - 128 * (m + 1)) ≤ (32 * a + 128 - 128 * m) + (32 * r - 128) := by omega
  have g3 : (16 * (a + r) + 128 - 128 * (m + 1)) ≤ (16 * a + 128 - 128 * m) + (16 * r - 128) := by omega
  have g4 : (8 * (a + r) + 128 - 128 * (m + 1)) ≤ (8 * a + 128 - 128 * m) + (8 * r - 128) := by omega
  have g5 : (4 * (a + r) + 128 - 128 * (m + 1)) ≤ (4 * a + 128 - 128 * m) + (4 * r - 128) := by omega
  have g6 : (2 * (a + r) + 128 - 128 * (m + 1)) ≤ (2 * a + 128 - 128 * m) + (2 * r - 128) := by omega
  have g7 : ((a + r) + 128 - 128 * (m + 1)) ≤ (a + 128 - 128 * m) + (r - 128) := by omega
  have hc : 3200 * (if r / 4 < 12 then r / 4 + 3 else 25) + 128 * r + 25 * (64 * r + (32 * r - 128) + (16 * r - 128) + (8 * r - 128) + (4 * r - 128) + (2 * r - 128) + (r - 128)) ≤ 6272 * (r + 1) + 3328 := by
    split <;> omega
  rw [e]
  unfold wb_ph wb_f
  generalize (if r / 4 < 12 then r / 4 + 3 else 25) = co at hc ⊢
  generalize a + r - (m + 1) = n0 at l0 ⊢
  generalize a - m = o0 at l0 ⊢
  generalize 64 * (a + r) + 128 - 128 * (m + 1) = n1 at g1 ⊢
  generalize 64 * a + 128 - 128 * m = o1 at g1 ⊢
  generalize 32 * (a + r) + 128 - 128 * (m + 1) = n2 at g2 ⊢
  generalize 32 * a + 128 - 128 * m = o2 at g2 ⊢
  generalize 16 * (a + r) + 128 - 128 * (m + 1) = n3 at g3 ⊢
  generalize 16 * a + 128 - 128 * m = o3 at g3 ⊢
  generalize 8 * (a + r) + 128 - 128 * (m + 1) = n4 at g4 ⊢
  generalize 8 * a + 128 - 128 * m = o4 at g4 ⊢
  generalize 4 * (a + r) + 128 - 128 * (m + 1) = n5 at g5 ⊢
  generalize 4 * a + 128 - 128 * m = o5 at g5 ⊢
  generalize 2 * (a + r) + 128 - 128 * (m + 1) = n6 at g6 ⊢
  generalize 2 * a + 128 - 128 * m = o6 at g6 ⊢
  generalize (a + r) + 128 - 128 * (m + 1) = n7 at g7 ⊢
  generalize a + 128 - 128 * m = o7 at g7 ⊢
  generalize 32 * r - 128 = u2 at g2 hc
  generalize 16 * r - 128 = u3 at g3 hc
  generalize 8 * r - 128 = u4 at g4 hc
  generalize 4 * r - 128 = u5 at g5 hc
  generalize 2 * r - 128 = u6 at g6 hc
  generalize r - 128 = u7 at g7 hc
  omega
theorem wb_s3 {m a r : Nat} (h0 : m < a) (h1 : 2 * m < a) (h2 : 4 * m < a) (hu : a ≤ 8 * m) : 3200 * wb_cost r 3 + wb_ph (m + 1) (a + r) ≤ 6272 * (r + 1) + wb_ph m a := by
  have e : wb_cost r 3 = if r / 8 < 12 then r / 8 + 4 else 25 := by
    unfold wb_cost; (try split) <;> (try split) <;> omega
  have l0 : (a + r - (m + 1)) + 1 = (a - m) + r := by omega
  have g1 : (64 * (a + r) + 128 - 128 * (m + 1)) + 128 = (64 * a + 128 - 128 * m) + 64 * r := by omega
  have g2 : (32 * (a + r) + 128 - 128 * (m + 1)) + 128 = (32 * a + 128 - 128 * m) + 32 * r := by omega
  have g3 : (16 * (a + r) + 128 - 128 * (m + 1)) ≤ (16 * a + 128 - 128 * m) + (16 * r - 128) := by omega
  have g4 : (8 * (a + r) + 128 - 128 * (m + 1)) ≤ (8 * a + 128 - 128 * m) + (8 * r - 128) := by omega
  have g5 : (4 * (a + r) + 128 - 128 * (m + 1)) ≤ (4 * a + 128 - 128 * m) + (4 * r - 128) := by omega
  have g6 : (2 * (a + r) + 128 - 128 * (m + 1)) ≤ (2 * a + 128 - 128 * m) + (2 * r - 128) := by omega
  have g7 : ((a + r) + 128 - 128 * (m + 1)) ≤ (a + 128 - 128 * m) + (r - 128) := by omega
  have hc : 3200 * (if r / 8 < 12 then r / 8 + 4 else 25) + 128 * r + 25 * (64 * r + 32 * r + (16 * r - 128) + (8 * r - 128) + (4 * r - 128) + (2 * r - 128) + (r - 128)) ≤ 6272 * (r + 1) + 6528 := by
    split <;> omega
  rw [e]
  unfold wb_ph wb_f
  generalize (if r / 8 < 12 then r / 8 + 4 else 25) = co at hc ⊢
  generalize a + r - (m + 1) = n0 at l0 ⊢
  generalize a - m = o0 at l0 ⊢
  generalize 64 * (a + r) + 128 - 128 * (m + 1) = n1 at g1 ⊢
  generalize 64 * a + 128 - 128 * m = o1 at g1 ⊢
  generalize 32 * (a + r) + 128 - 128 * (m + 1) = n2 at g2 ⊢
  generalize 32 * a + 128 - 128 * m = o2 at g2 ⊢
  generalize 16 * (a + r) + 128 - 128 * (m + 1) = n3 at g3 ⊢
  generalize 16 * a + 128 - 128 * m = o3 at g3 ⊢
  generalize 8 * (a + r) + 128 - 128 * (m + 1) = n4 at g4 ⊢
  generalize 8 * a + 128 - 128 * m = o4 at g4 ⊢
  generalize 4 * (a + r) + 128 - 128 * (m + 1) = n5 at g5 ⊢
  generalize 4 * a + 128 - 128 * m = o5 at g5 ⊢
  generalize 2 * (a + r) + 128 - 128 * (m + 1) = n6 at g6 ⊢
  generalize 2 * a + 128 - 128 * m = o6 at g6 ⊢
  generalize (a + r) + 128 - 128 * (m + 1) = n7 at g7 ⊢
  generalize a + 128 - 128 * m = o7 at g7 ⊢
  generalize 16 * r - 128 = u3 at g3 hc
  generalize 8 * r - 128 = u4 at g4 hc
  generalize 4 * r - 128 = u5 at g5 hc
  generalize 2 * r - 128 = u6 at g6 hc
  generalize r - 128 = u7 at g7 hc
  omega
theorem wb_s4 {m a r : Nat} (h0 : m < a) (h1 : 2 * m < a) (h2 : 4 * m < a) (h3 : 8 * m < a) (hu : a ≤ 16 * m) : 3200 * wb_cost r 4 + wb_ph (m + 1) (a + r) ≤ 6272 * (r + 1) + wb_ph m a := by
  have e : wb_cost r 4 = if r / 16 < 12 then r / 16 + 5 else 25 := by
    unfold wb_cost; (try split) <;> (try split) <;> omega
  have l0 : (a + r - (m + 1)) + 1 = (a - m) + r := by omega
  have g1 : (64 * (a + r) + 128 - 128 * (m + 1)) + 128 = (64 * a + 128 - 128 * m) + 64 * r := by omega
  have g2 : (32 * (a + r) + 128 - 128 * (m + 1)) + 128 = (32 * a + 128 - 128 * m) + 32 * r := by omega
  have g3 : (16 * (a + r) + 128 - 128 * (m + 1)) + 128 = (16 * a + 128 - 128 * m) + 16 * r := by omega
  have g4 : (8 * (a + r) + 128 - 128 * (m + 1)) ≤ (8 * a + 128 - 128 * m) + (8 * r - 128) := by omega
  have g5 : (4 * (a + r) + 128 - 128 * (m + 1)) ≤ (4 * a + 128 - 128 * m) + (4 * r - 128) := by omega
  have g6 : (2 * (a + r) + 128 - 128 * (m + 1)) ≤ (2 * a + 128 - 128 * m) + (2 * r - 128) := by omega
  have g7 : ((a + r) + 128 - 128 * (m + 1)) ≤ (a + 128 - 128 * m) + (r - 128) := by omega
  have hc : 3200 * (if r / 16 < 12 then r / 16 + 5 else 25) + 128 * r + 25 * (64 * r + 32 * r + 16 * r + (8 * r - 128) + (4 * r - 128) + (2 * r - 128) + (r - 128)) ≤ 6272 * (r + 1) + 9728 := by
    split <;> omega
  rw [e]
  unfold wb_ph wb_f
  generalize (if r / 16 < 12 then r / 16 + 5 else 25) = co at hc ⊢
  generalize a + r - (m + 1) = n0 at l0 ⊢
  generalize a - m = o0 at l0 ⊢
  generalize 64 * (a + r) + 128 - 128 * (m + 1) = n1 at g1 ⊢
  generalize 64 * a + 128 - 128 * m = o1 at g1 ⊢
  generalize 32 * (a + r) + 128 - 128 * (m + 1) = n2 at g2 ⊢
  generalize 32 * a + 128 - 128 * m = o2 at g2 ⊢
  generalize 16 * (a + r) + 128 - 128 * (m + 1) = n3 at g3 ⊢
  generalize 16 * a + 128 - 128 * m = o3 at g3 ⊢
  generalize 8 * (a + r) + 128 - 128 * (m + 1) = n4 at g4 ⊢
  generalize 8 * a + 128 - 128 * m = o4 at g4 ⊢
  generalize 4 * (a + r) + 128 - 128 * (m + 1) = n5 at g5 ⊢
  generalize 4 * a + 128 - 128 * m = o5 at g5 ⊢
  generalize 2 * (a + r) + 128 - 128 * (m + 1) = n6 at g6 ⊢
  generalize 2 * a + 128 - 128 * m = o6 at g6 ⊢
  generalize (a + r) + 128 - 128 * (m + 1) = n7 at g7 ⊢
  generalize a + 128 - 128 * m = o7 at g7 ⊢
  generalize 8 * r - 128 = u4 at g4 hc
  generalize 4 * r - 128 = u5 at g5 hc
  generalize 2 * r - 128 = u6 at g6 hc
  generalize r - 128 = u7 at g7 hc
  omega
theorem wb_s5 {m a r : Nat} (h0 : m < a) (h1 : 2 * m < a) (h2 : 4 * m < a) (h3 : 8 * m < a) (h4 : 16 * m < a) (hu : a ≤ 32 * m) : 3200 * wb_cost r 5 + wb_ph (m + 1) (a + r) ≤ 6272 * (r + 1) + wb_ph m a := by
  have e : wb_cost r 5 = if r / 32 < 12 then r / 32 + 6 else 25 := by
    unfold wb_cost; (try split) <;> (try split) <;> omega
  have l0 : (a + r - (m + 1)) + 1 = (a - m) + r := by omega
  have g1 : (64 * (a + r) + 128 - 128 * (m + 1)) + 128 = (64 * a + 128 - 128 * m) + 64 * r := by omega
  have g2 : (32 * (a + r) + 128 - 128 * (m + 1)) + 128 = (32 * a + 128 - 128 * m) + 32 * r := by omega
  have g3 : (16 * (a + r) + 128 - 128 * (m + 1)) + 128 = (16 * a + 128 - 128 * m) + 16 * r := by omega
  have g4 : (8 * (a + r) + 128 - 128 * (m + 1)) + 128 = (8 * a + 128 - 128 * m) + 8 * r := by omega
  have g5 : (4 * (a + r) + 128 - 128 * (m + 1)) ≤ (4 * a + 128 - 128 * m) + (4 * r - 128) := by omega
  have g6 : (2 * (a + r) + 128 - 128 * (m + 1)) ≤ (2 * a + 128 - 128 * m) + (2 * r - 128) := by omega
  have g7 : ((a + r) + 128 - 128 * (m + 1)) ≤ (a + 128 - 128 * m) + (r - 128) := by omega
  have hc : 3200 * (if r / 32 < 12 then r / 32 + 6 else 25) + 128 * r + 25 * (64 * r + 32 * r + 16 * r + 8 * r + (4 * r - 128) + (2 * r - 128) + (r - 128)) ≤ 6272 * (r + 1) + 12928 := by
    split <;> omega
  rw [e]
  unfold wb_ph wb_f
  generalize (if r / 32 < 12 then r / 32 + 6 else 25) = co at hc ⊢
  generalize a + r - (m + 1) = n0 at l0 ⊢
  generalize a - m = o0 at l0 ⊢
  generalize 64 * (a + r) + 128 - 128 * (m + 1) = n1 at g1 ⊢
  generalize 64 * a + 128 - 128 * m = o1 at g1 ⊢
  generalize 32 * (a + r) + 128 - 128 * (m + 1) = n2 at g2 ⊢
  generalize 32 * a + 128 - 128 * m = o2 at g2 ⊢
  generalize 16 * (a + r) + 128 - 128 * (m + 1) = n3 at g3 ⊢
  generalize 16 * a + 128 - 128 * m = o3 at g3 ⊢
  generalize 8 * (a + r) + 128 - 128 * (m + 1) = n4 at g4 ⊢
  generalize 8 * a + 128 - 128 * m = o4 at g4 ⊢
  generalize 4 * (a + r) + 128 - 128 * (m + 1) = n5 at g5 ⊢
  generalize 4 * a + 128 - 128 * m = o5 at g5 ⊢
  generalize 2 * (a + r) + 128 - 128 * (m + 1) = n6 at g6 ⊢
  generalize 2 * a + 128 - 128 * m = o6 at g6 ⊢
  generalize (a + r) + 128 - 128 * (m + 1) = n7 at g7 ⊢
  generalize a + 128 - 128 * m = o7 at g7 ⊢
  generalize 4 * r - 128 = u5 at g5 hc
  generalize 2 * r - 128 = u6 at g6 hc
  generalize r - 128 = u7 at g7 hc
  omega
theorem wb_s6 {m a r : Nat} (h0 : m < a) (h1 : 2 * m < a) (h2 : 4 * m < a) (h3 : 8 * m < a) (h4 : 16 * m < a) (h5 : 32 * m < a) (hu : a ≤ 64 * m) : 3200 * wb_cost r 6 + wb_ph (m + 1) (a + r) ≤ 6272 * (r + 1) + wb_ph m a := by
  have e : wb_cost r 6 = if r / 64 < 12 then r / 64 + 7 else 25 := by
    unfold wb_cost; (try split) <;> (try split) <;> omega
  have l0 : (a + r - (m + 1)) + 1 = (a - m) + r := by omega
  have g1 : (64 * (a + r) + 128 - 128 * (m + 1)) + 128 = (64 * a + 128 - 128 * m) + 64 * r := by omega
  have g2 : (32 * (a + r) + 128 - 128 * (m + 1)) + 128 = (32 * a + 128 - 128 * m) + 32 * r := by omega
  have g3 : (16 * (a + r) + 128 - 128 * (m + 1)) + 128 = (16 * a + 128 - 128 * m) + 16 * r := by omega
  have g4 : (8 * (a + r) + 128 - 128 * (m + 1)) + 128 = (8 * a + 128 - 128 * m) + 8 * r := by omega
  have g5 : (4 * (a + r) + 128 - 128 * (m + 1)) + 128 = (4 * a + 128 - 128 * m) + 4 * r := by omega
  have g6 : (2 * (a + r) + 128 - 128 * (m + 1)) ≤ (2 * a + 128 - 128 * m) + (2 * r - 128) := by omega
  have g7 : ((a + r) + 128 - 128 * (m + 1)) ≤ (a + 128 - 128 * m) + (r - 128) := by omega
  have hc : 3200 * (if r / 64 < 12 then r / 64 + 7 else 25) + 128 * r + 25 * (64 * r + 32 * r + 16 * r + 8 * r + 4 * r + (2 * r - 128) + (r - 128)) ≤ 6272 * (r + 1) + 16128 := by
    split <;> omega
  rw [e]
  unfold wb_ph wb_f
  generalize (if r / 64 < 12 then r / 64 + 7 else 25) = co at hc ⊢
  generalize a + r - (m + 1) = n0 at l0 ⊢
  generalize a - m = o0 at l0 ⊢
  generalize 64 * (a + r) + 128 - 128 * (m + 1) = n1 at g1 ⊢
  generalize 64 * a + 128 - 128 * m = o1 at g1 ⊢
  generalize 32 * (a + r) + 128 - 128 * (m + 1) = n2 at g2 ⊢
  generalize 32 * a + 128 - 128 * m = o2 at g2 ⊢
  generalize 16 * (a + r) + 128 - 128 * (m + 1) = n3 at g3 ⊢
  generalize 16 * a + 128 - 128 * m = o3 at g3 ⊢
  generalize 8 * (a + r) + 128 - 128 * (m + 1) = n4 at g4 ⊢
  generalize 8 * a + 128 - 128 * m = o4 at g4 ⊢
  generalize 4 * (a + r) + 128 - 128 * (m + 1) = n5 at g5 ⊢
  generalize 4 * a + 128 - 128 * m = o5 at g5 ⊢
  generalize 2 * (a + r) + 128 - 128 * (m + 1) = n6 at g6 ⊢
  generalize 2 * a + 128 - 128 * m = o6 at g6 ⊢
  generalize (a + r) + 128 - 128 * (m + 1) = n7 at g7 ⊢
  generalize a + 128 - 128 * m = o7 at g7 ⊢
  generalize 2 * r - 128 = u6 at g6 hc
  generalize r - 128 = u7 at g7 hc
  omega
theorem wb_s7 {m a r : Nat} (h0 : m < a) (h1 : 2 * m < a) (h2 : 4 * m < a) (h3 : 8 * m < a) (h4 : 16 * m < a) (h5 : 32 * m < a) (h6 : 64 * m < a) (hu : a ≤ 128 * m) : 3200 * wb_cost r 7 + wb_ph (m + 1) (a + r) ≤ 6272 * (r + 1) + wb_ph m a := by
  have e : wb_cost r 7 = if r / 128 < 12 then r / 128 + 8 else 25 := by
    unfold wb_cost; (try split) <;> (try split) <;> omega
  have l0 : (a + r - (m + 1)) + 1 = (a - m) + r := by omega
  have g1 : (64 * (a + r) + 128 - 128 * (m + 1)) + 128 = (64 * a + 128 - 128 * m) + 64 * r := by omega
  have g2 : (32 * (a + r) + 128 - 128 * (m + 1)) + 128 = (32 * a + 128 - 128 * m) + 32 * r := by omega
  have g3 : (16 * (a + r) + 128 - 128 * (m + 1)) + 128 = (16 * a + 128 - 128 * m) + 16 * r := by omega
  have g4 : (8 * (a + r) + 128 - 128 * (m + 1)) + 128 = (8 * a + 128 - 128 * m) + 8 * r := by omega
  have g5 : (4 * (a + r) + 128 - 128 * (m + 1)) + 128 = (4 * a + 128 - 128 * m) + 4 * r := by omega
  have g6 : (2 * (a + r) + 128 - 128 * (m + 1)) + 128 = (2 * a + 128 - 128 * m) + 2 * r := by omega
  have g7 : ((a + r) + 128 - 128 * (m + 1)) ≤ (a + 128 - 128 * m) + (r - 128) := by omega
  have hc : 3200 * (if r / 128 < 12 then r / 128 + 8 else 25) + 128 * r + 25 * (64 * r + 32 * r + 16 * r + 8 * r + 4 * r + 2 * r + (r - 128)) ≤ 6272 * (r + 1) + 19328 := by
    split <;> omega
  rw [e]
  unfold wb_ph wb_f
  generalize (if r / 128 < 12 then r / 128 + 8 else 25) = co at hc ⊢
  generalize a + r - (m + 1) = n0 at l0 ⊢
  generalize a - m = o0 at l0 ⊢
  generalize 64 * (a + r) + 128 - 128 * (m + 1) = n1 at g1 ⊢
  generalize 64 * a + 128 - 128 * m = o1 at g1 ⊢
  generalize 32 * (a + r) + 128 - 128 * (m + 1) = n2 at g2 ⊢
  generalize 32 * a + 128 - 128 * m = o2 at g2 ⊢
  generalize 16 * (a + r) + 128 - 128 * (m + 1) = n3 at g3 ⊢
  generalize 16 * a + 128 - 128 * m = o3 at g3 ⊢
  generalize 8 * (a + r) + 128 - 128 * (m + 1) = n4 at g4 ⊢
  generalize 8 * a + 128 - 128 * m = o4 at g4 ⊢
  generalize 4 * (a + r) + 128 - 128 * (m + 1) = n5 at g5 ⊢
  generalize 4 * a + 128 - 128 * m = o5 at g5 ⊢
  generalize 2 * (a + r) + 128 - 128 * (m + 1) = n6 at g6 ⊢
  generalize 2 * a + 128 - 128 * m = o6 at g6 ⊢
  generalize (a + r) + 128 - 128 * (m + 1) = n7 at g7 ⊢
  generalize a + 128 - 128 * m = o7 at g7 ⊢
  generalize r - 128 = u7 at g7 hc
  omega
theorem wb_s8 {m a r : Nat} (h0 : m < a) (h1 : 2 * m < a) (h2 : 4 * m < a) (h3 : 8 * m < a) (h4 : 16 * m < a) (h5 : 32 * m < a) (h6 : 64 * m < a) (h7 : 128 * m < a) : 3200 * wb_cost r 8 + wb_ph (m + 1) (a + r) ≤ 6272 * (r + 1) + wb_ph m a := by
  have e : wb_cost r 8 = if r / 256 < 12 then r / 256 + 9 else 25 := by
    unfold wb_cost; (try split) <;> (try split) <;> omega
  have l0 : (a + r - (m + 1)) + 1 = (a - m) + r := by omega
  have g1 : (64 * (a + r) + 128 - 128 * (m + 1)) + 128 = (64 * a + 128 - 128 * m) + 64 * r := by omega
  have g2 : (32 * (a + r) + 128 - 128 * (m + 1)) + 128 = (32 * a + 128 - 128 * m) + 32 * r := by omega
  have g3 : (16 * (a + r) + 128 - 128 * (m + 1)) + 128 = (16 * a + 128 - 128 * m) + 16 * r := by omega
  have g4 : (8 * (a + r) + 128 - 128 * (m + 1)) + 128 = (8 * a + 128 - 128 * m) + 8 * r := by omega
  have g5 : (4 * (a + r) + 128 - 128 * (m + 1)) + 128 = (4 * a + 128 - 128 * m) + 4 * r := by omega
  have g6 : (2 * (a + r) + 128 - 128 * (m + 1)) + 128 = (2 * a + 128 - 128 * m) + 2 * r := by omega
  have g7 : ((a + r) + 128 - 128 * (m + 1)) + 128 = (a + 128 - 128 * m) + r := by omega
  have hc : 3200 * (if r / 256 < 12 then r / 256 + 9 else 25) + 128 * r + 25 * (64 * r + 32 * r + 16 * r + 8 * r + 4 * r + 2 * r + r) ≤ 6272 * (r + 1) + 22528 := by
    split <;> omega
  rw [e]
  unfold wb_ph wb_f
  generalize (if r / 256 < 12 then r / 256 + 9 else 25) = co at hc ⊢
  generalize a + r - (m + 1) = n0 at l0 ⊢
  generalize a - m = o0 at l0 ⊢
  generalize 64 * (a + r) + 128 - 128 * (m + 1) = n1 at g1 ⊢
  generalize 64 * a + 128 - 128 * m = o1 at g1 ⊢
  generalize 32 * (a + r) + 128 - 128 * (m + 1) = n2 at g2 ⊢
  generalize 32 * a + 128 - 128 * m = o2 at g2 ⊢
  generalize 16 * (a + r) + 128 - 128 * (m + 1) = n3 at g3 ⊢
  generalize 16 * a + 128 - 128 * m = o3 at g3 ⊢
  generalize 8 * (a + r) + 128 - 128 * (m + 1) = n4 at g4 ⊢
  generalize 8 * a + 128 - 128 * m = o4 at g4 ⊢
  generalize 4 * (a + r) + 128 - 128 * (m + 1) = n5 at g5 ⊢
  generalize 4 * a + 128 - 128 * m = o5 at g5 ⊢
  generalize 2 * (a + r) + 128 - 128 * (m + 1) = n6 at g6 ⊢
  generalize 2 * a + 128 - 128 * m = o6 at g6 ⊢
  generalize (a + r) + 128 - 128 * (m + 1) = n7 at g7 ⊢
  generalize a + 128 - 128 * m = o7 at g7 ⊢
  omega
theorem wb_lin {co r T n0 n1 n2 n3 n4 n5 n6 n7 o0 o1 o2 o3 o4 o5 o6 o7 B0 B1 B2 B3 B4 B5 B6 B7 : Nat} (hc : 6400 * co + 3303 * r ≤ 12544 * (r + 1) + T) (l0 : 2 * n0 + 1 ≤ o0 + r) (g1 : 2 * n1 ≤ o1 + 64 * r) (g2 : 2 * n2 ≤ o2 + 32 * r) (g3 : 2 * n3 ≤ o3 + 16 * r) (g4 : 2 * n4 ≤ o4 + 8 * r) (g5 : 2 * n5 ≤ o5 + 4 * r) (g6 : 2 * n6 ≤ o6 + 2 * r) (g7 : 2 * n7 ≤ o7 + r)
    (b0 : B0 ≤ o0) (b1 : B1 ≤ o1) (b2 : B2 ≤ o2) (b3 : B3 ≤ o3) (b4 : B4 ≤ o4) (b5 : B5 ≤ o5) (b6 : B6 ≤ o6) (b7 : B7 ≤ o7) (hT : T = 128 + (128 * B0 + 25 * (B1 + B2 + B3 + B4 + B5 + B6 + B7))) : 3200 * co + (128 * n0 + 25 * (n1 + n2 + n3 + n4 + n5 + n6 + n7)) ≤ 6272 * (r + 1) + (128 * o0 + 25 * (o1 + o2 + o3 + o4 + o5 + o6 + o7)) := by omega
set_option maxRecDepth 100000 in
theorem wb_h0 {a r : Nat} (hu : a ≤ 31) : 3200 * wb_cost r 0 + wb_ph 16 ((a + r) / 2) ≤ 6272 * (r + 1) + wb_ph 31 a := by
  have e : wb_cost r 0 = if r < 12 then r + 1 else 25 := by simp [wb_cost]
  rw [e]
  have h0 : wb_ph 16 ((a + r) / 2) ≤ 128 * ((r + 31) / 2 - 16) + 25 * ((64 * ((r + 31) / 2) - 1920) + (32 * ((r + 31) / 2) - 1920) + (16 * ((r + 31) / 2) - 1920) + (8 * ((r + 31) / 2) - 1920) + (4 * ((r + 31) / 2) - 1920) + (2 * ((r + 31) / 2) - 1920) + ((r + 31) / 2 - 1920)) := by
    unfold wb_ph wb_f
    have h1 : (a + r) / 2 - 16 ≤ (r + 31) / 2 - 16 := by omega
    have g1 : 64 * ((a + r) / 2) + 128 - 128 * 16 ≤ 64 * ((r + 31) / 2) - 1920 := by omega
    have g2 : 32 * ((a + r) / 2) + 128 - 128 * 16 ≤ 32 * ((r + 31) / 2) - 1920 := by omega
    have g3 : 16 * ((a + r) / 2) + 128 - 128 * 16 ≤ 16 * ((r + 31) / 2) - 1920 := by omega
    have g4 : 8 * ((a + r) / 2) + 128 - 128 * 16 ≤ 8 * ((r + 31) / 2) - 1920 := by omega
    have g5 : 4 * ((a + r) / 2) + 128 - 128 * 16 ≤ 4 * ((r + 31) / 2) - 1920 := by omega
    have g6 : 2 * ((a + r) / 2) + 128 - 128 * 16 ≤ 2 * ((r + 31) / 2) - 1920 := by omega
    have g7 : (a + r) / 2 + 128 - 128 * 16 ≤ (r + 31) / 2 - 1920 := by omega
    omega
  have h2 : 3200 * (if r < 12 then r + 1 else 25) + (128 * ((r + 31) / 2 - 16) + 25 * ((64 * ((r + 31) / 2) - 1920) + (32 * ((r + 31) / 2) - 1920) + (16 * ((r + 31) / 2) - 1920) + (8 * ((r + 31) / 2) - 1920) + (4 * ((r + 31) / 2) - 1920) + (2 * ((r + 31) / 2) - 1920) + ((r + 31) / 2 - 1920))) ≤ 6272 * (r + 1) := by
    split <;> omega
  omega
set_option maxRecDepth 100000 in
theorem wb_h1 {a r : Nat} (hl : 31 < a) : 3200 * wb_cost r 1 + wb_ph 16 ((a + r) / 2) ≤ 6272 * (r + 1) + wb_ph 31 a := by
  have e : wb_cost r 1 = if r / 2 < 12 then r / 2 + 2 else 25 := by
    unfold wb_cost; (try split) <;> (try split) <;> omega
  have l0 : 2 * ((a + r) / 2 - 16) + 1 ≤ (a - 31) + r := by omega
  have b0 : 1 ≤ a - 31 := by omega
  have g1 : 2 * (64 * ((a + r) / 2) + 128 - 128 * 16) ≤ (64 * a + 128 - 128 * 31) + 64 * r := by omega
  have g2 : 2 * (32 * ((a + r) / 2) + 128 - 128 * 16) ≤ (32 * a + 128 - 128 * 31) + 32 * r := by omega
  have g3 : 2 * (16 * ((a + r) / 2) + 128 - 128 * 16) ≤ (16 * a + 128 - 128 * 31) + 16 * r := by omega
  have g4 : 2 * (8 * ((a + r) / 2) + 128 - 128 * 16) ≤ (8 * a + 128 - 128 * 31) + 8 * r := by omega
  have g5 : 2 * (4 * ((a + r) / 2) + 128 - 128 * 16) ≤ (4 * a + 128 - 128 * 31) + 4 * r := by omega
  have g6 : 2 * (2 * ((a + r) / 2) + 128 - 128 * 16) ≤ (2 * a + 128 - 128 * 31) + 2 * r := by omega
  have g7 : 2 * ((a + r) / 2 + 128 - 128 * 16) ≤ (a + 128 - 128 * 31) + r := by omega
  have hc : 6400 * (if r / 2 < 12 then r / 2 + 2 else 25) + 3303 * r ≤ 12544 * (r + 1) + 256 := by
    split <;> omega
  rw [e]
  unfold wb_ph wb_f
  exact wb_lin hc l0 g1 g2 g3 g4 g5 g6 g7 b0 (Nat.zero_le _) (Nat.zero_le _) (Nat.zero_le _) (Nat.zero_le _) (Nat.zero_le _) (Nat.zero_le _) (Nat.zero_le _) (by decide)
set_option maxRecDepth 100000 in
theorem wb_h2 {a r : Nat} (hl : 62 < a) : 3200 * wb_cost r 2 + wb_ph 16 ((a + r) / 2) ≤ 6272 * (r + 1) + wb_ph 31 a := by
  have e : wb_cost r 2 = if r / 4 < 12 then r / 4 + 3 else 25 := by
    unfold wb_cost; (try split) <;> (try split) <;> omega
  have l0 : 2 * ((a + r) / 2 - 16) + 1 ≤ (a - 31) + r := by omega
  have b0 : 32 ≤ a - 31 := by omega
  have g1 : 2 * (64 * ((a + r) / 2) + 128 - 128 * 16) ≤ (64 * a + 128 - 128 * 31) + 64 * r := by omega
  have g2 : 2 * (32 * ((a + r) / 2) + 128 - 128 * 16) ≤ (32 * a + 128 - 128 * 31) + 32 * r := by omega
  have g3 : 2 * (16 * ((a + r) / 2) + 128 - 128 * 16) ≤ (16 * a + 128 - 128 * 31) + 16 * r := by omega
  have g4 : 2 * (8 * ((a + r) / 2) + 128 - 128 * 16) ≤ (8 * a + 128 - 128 * 31) + 8 * r := by omega
  have g5 : 2 * (4 * ((a + r) / 2) + 128 - 128 * 16) ≤ (4 * a + 128 - 128 * 31) + 4 * r := by omega
  have g6 : 2 * (2 * ((a + r) / 2) + 128 - 128 * 16) ≤ (2 * a + 128 - 128 * 31) + 2 * r := by omega
  have g7 : 2 * ((a + r) / 2 + 128 - 128 * 16) ≤ (a + 128 - 128 * 31) + r := by omega
  have b1 : 192 ≤ 64 * a + 128 - 128 * 31 := by omega
  have hc : 6400 * (if r / 4 < 12 then r / 4 + 3 else 25) + 3303 * r ≤ 12544 * (r + 1) + 9024 := by
    split <;> omega
  rw [e]
  unfold wb_ph wb_f
  exact wb_lin hc l0 g1 g2 g3 g4 g5 g6 g7 b0 b1 (Nat.zero_le _) (Nat.zero_le _) (Nat.zero_le _) (Nat.zero_le _) (Nat.zero_le _) (Nat.zero_le _) (by decide)
set_option maxRecDepth 100000 in
theorem wb_h3 {a r : Nat} (hl : 124 < a) : 3200 * wb_cost r 3 + wb_ph 16 ((a + r) / 2) ≤ 6272 * (r + 1) + wb_ph 31 a := by
  have e : wb_cost r 3 = if r / 8 < 12 then r / 8 + 4 else 25 := by
    unfold wb_cost; (try split) <;> (try split) <;> omega
  have l0 : 2 * ((a + r) / 2 - 16) + 1 ≤ (a - 31) + r := by omega
  have b0 : 94 ≤ a - 31 := by omega
  have g1 : 2 * (64 * ((a + r) / 2) + 128 - 128 * 16) ≤ (64 * a + 128 - 128 * 31) + 64 * r := by omega
  have g2 : 2 * (32 * ((a + r) / 2) + 128 - 128 * 16) ≤ (32 * a + 128 - 128 * 31) + 32 * r := by omega
  have g3 : 2 * (16 * ((a + r) / 2) + 128 - 128 * 16) ≤ (16 * a + 128 - 128 * 31) + 16 * r := by omega
  have g4 : 2 * (8 * ((a + r) / 2) + 128 - 128 * 16) ≤ (8 * a + 128 - 128 * 31) + 8 * r := by omega
  have g5 : 2 * (4 * ((a + r) / 2) + 128 - 128 * 16) ≤ (4 * a + 128 - 128 * 31) + 4 * r := by omega
  have g6 : 2 * (2 * ((a + r) / 2) + 128 - 128 * 16) ≤ (2 * a + 128 - 128 * 31) + 2 * r := by omega
  have g7 : 2 * ((a + r) / 2 + 128 - 128 * 16) ≤ (a + 128 - 128 * 31) + r := by omega
  have b1 : 4160 ≤ 64 * a + 128 - 128 * 31 := by omega
  have b2 : 160 ≤ 32 * a + 128 - 128 * 31 := by omega
  have hc : 6400 * (if r / 8 < 12 then r / 8 + 4 else 25) + 3303 * r ≤ 12544 * (r + 1) + 120160 := by
    split <;> omega
  rw [e]
  unfold wb_ph wb_f
  exact wb_lin hc l0 g1 g2 g3 g4 g5 g6 g7 b0 b1 b2 (Nat.zero_le _) (Nat.zero_le _) (Nat.zero_le _) (Nat.zero_le _) (Nat.zero_le _) (by decide)
set_option maxRecDepth 100000 in
theorem wb_h4 {a r : Nat} (hl : 248 < a) : 3200 * wb_cost r 4 + wb_ph 16 ((a + r) / 2) ≤ 6272 * (r + 1) + wb_ph 31 a := by
  have e : wb_cost r 4 = if r / 16 < 12 then r / 16 + 5 else 25 := by
    unfold wb_cost; (try split) <;> (try split) <;> omega
  have l0 : 2 * ((a + r) / 2 - 16) + 1 ≤ (a - 31) + r := by omega
  have b0 : 218 ≤ a - 31 := by omega
  have g1 : 2 * (64 * ((a + r) / 2) + 128 - 128 * 16) ≤ (64 * a + 128 - 128 * 31) + 64 * r := by omega
  have g2 : 2 * (32 * ((a + r) / 2) + 128 - 128 * 16) ≤ (32 * a + 128 - 128 * 31) + 32 * r := by omega
  have g3 : 2 * (16 * ((a + r) / 2) + 128 - 128 * 16) ≤ (16 * a + 128 - 128 * 31) + 16 * r := by omega
  have g4 : 2 * (8 * ((a + r) / 2) + 128 - 128 * 16) ≤ (8 * a + 128 - 128 * 31) + 8 * r := by omega
  have g5 : 2 * (4 * ((a + r) / 2) + 128 - 128 * 16) ≤ (4 * a + 128 - 128 * 31) + 4 * r := by omega
  have g6 : 2 * (2 * ((a + r) / 2) + 128 - 128 * 16) ≤ (2 * a + 128 - 128 * 31) + 2 * r := by omega
  have g7 : 2 * ((a + r) / 2 + 128 - 128 * 16) ≤ (a + 128 - 128 * 31) + r := by omega
  have b1 : 12096 ≤ 64 * a + 128 - 128 * 31 := by omega
  have b2 : 4128 ≤ 32 * a + 128 - 128 * 31 := by omega
  have b3 : 144 ≤ 16 * a + 128 - 128 * 31 := by omega
  have hc : 6400 * (if r / 16 < 12 then r / 16 + 5 else 25) + 3303 * r ≤ 12544 * (r + 1) + 437232 := by
    split <;> omega
  rw [e]
  unfold wb_ph wb_f
  exact wb_lin hc l0 g1 g2 g3 g4 g5 g6 g7 b0 b1 b2 b3 (Nat.zero_le _) (Nat.zero_le _) (Nat.zero_le _) (Nat.zero_le _) (by decide)
set_option maxRecDepth 100000 in
theorem wb_h5 {a r : Nat} (hl : 496 < a) : 3200 * wb_cost r 5 + wb_ph 16 ((a + r) / 2) ≤ 6272 * (r + 1) + wb_ph 31 a := by
  have e : wb_cost r 5 = if r / 32 < 12 then r / 32 + 6 else 25 := by
    unfold wb_cost; (try split) <;> (try split) <;> omega
  have l0 : 2 * ((a + r) / 2 - 16) + 1 ≤ (a - 31) + r := by omega
  have b0 : 466 ≤ a - 31 := by omega
  have g1 : 2 * (64 * ((a + r) / 2) + 128 - 128 * 16) ≤ (64 * a + 128 - 128 * 31) + 64 * r := by omega
  have g2 : 2 * (32 * ((a + r) / 2) + 128 - 128 * 16) ≤ (32 * a + 128 - 128 * 31) + 32 * r := by omega
  have g3 : 2 * (16 * ((a + r) / 2) + 128 - 128 * 16) ≤ (16 * a + 128 - 128 * 31) + 16 * r := by omega
  have g4 : 2 * (8 * ((a + r) / 2) + 128 - 128 * 16) ≤ (8 * a + 128 - 128 * 31) + 8 * r := by omega
  have g5 : 2 * (4 * ((a + r) / 2) + 128 - 128 * 16) ≤ (4 * a + 128 - 128 * 31) + 4 * r := by omega
  have g6 : 2 * (2 * ((a + r) / 2) + 128 - 128 * 16) ≤ (2 * a + 128 - 128 * 31) + 2 * r := by omega
  have g7 : 2 * ((a + r) / 2 + 128 - 128 * 16) ≤ (a + 128 - 128 * 31) + r := by omega
  have b1 : 27968 ≤ 64 * a + 128 - 128 * 31 := by omega
  have b2 : 12064 ≤ 32 * a + 128 - 128 * 31 := by omega
  have b3 : 4112 ≤ 16 * a + 128 - 128 * 31 := by omega
  have b4 : 136 ≤ 8 * a + 128 - 128 * 31 := by omega
  have hc : 6400 * (if r / 32 < 12 then r / 32 + 6 else 25) + 3303 * r ≤ 12544 * (r + 1) + 1166776 := by
    split <;> omega
  rw [e]
  unfold wb_ph wb_f
  exact wb_lin hc l0 g1 g2 g3 g4 g5 g6 g7 b0 b1 b2 b3 b4 (Nat.zero_le _) (Nat.zero_le _) (Nat.zero_le _) (by decide)
set_option maxRecDepth 100000 in
theorem wb_h6 {a r : Nat} (hl : 992 < a) : 3200 * wb_cost r 6 + wb_ph 16 ((a + r) / 2) ≤ 6272 * (r + 1) + wb_ph 31 a := by
  have e : wb_cost r 6 = if r / 64 < 12 then r / 64 + 7 else 25 := by
    unfold wb_cost; (try split) <;> (try split) <;> omega
  have l0 : 2 * ((a + r) / 2 - 16) + 1 ≤ (a - 31) + r := by omega
  have b0 : 962 ≤ a - 31 := by omega
  have g1 : 2 * (64 * ((a + r) / 2) + 128 - 128 * 16) ≤ (64 * a + 128 - 128 * 31) + 64 * r := by omega
  have g2 : 2 * (32 * ((a + r) / 2) + 128 - 128 * 16) ≤ (32 * a + 128 - 128 * 31) + 32 * r := by omega
  have g3 : 2 * (16 * ((a + r) / 2) + 128 - 128 * 16) ≤ (16 * a + 128 - 128 * 31) + 16 * r := by omega
  have g4 : 2 * (8 * ((a + r) / 2) + 128 - 128 * 16) ≤ (8 * a + 128 - 128 * 31) + 8 * r := by omega
  have g5 : 2 * (4 * ((a + r) / 2) + 128 - 128 * 16) ≤ (4 * a + 128 - 128 * 31) + 4 * r := by omega
  have g6 : 2 * (2 * ((a + r) / 2) + 128 - 128 * 16) ≤ (2 * a + 128 - 128 * 31) + 2 * r := by omega
  have g7 : 2 * ((a + r) / 2 + 128 - 128 * 16) ≤ (a + 128 - 128 * 31) + r := by omega
  have b1 : 59712 ≤ 64 * a + 128 - 128 * 31 := by omega
  have b2 : 27936 ≤ 32 * a + 128 - 128 * 31 := by omega
  have b3 : 12048 ≤ 16 * a + 128 - 128 * 31 := by omega
  have b4 : 4104 ≤ 8 * a + 128 - 128 * 31 := by omega
  have b5 : 132 ≤ 4 * a + 128 - 128 * 31 := by omega
  have hc : 6400 * (if r / 64 < 12 then r / 64 + 7 else 25) + 3303 * r ≤ 12544 * (r + 1) + 2721564 := by
    split <;> omega
  rw [e]
  unfold wb_ph wb_f
  exact wb_lin hc l0 g1 g2 g3 g4 g5 g6 g7 b0 b1 b2 b3 b4 b5 (Nat.zero_le _) (Nat.zero_le _) (by decide)
set_option maxRecDepth 100000 in
theorem wb_h7 {a r : Nat} (hl : 1984 < a) : 3200 * wb_cost r 7 + wb_ph 16 ((a + r) / 2) ≤ 6272 * (r + 1) + wb_ph 31 a := by
  have e : wb_cost r 7 = if r / 128 < 12 then r / 128 + 8 else 25 := by
    unfold wb_cost; (try split) <;> (try split) <;> omega
  have l0 : 2 * ((a + r) / 2 - 16) + 1 ≤ (a - 31) + r := by omega
  have b0 : 1954 ≤ a - 31 := by omega
  have g1 : 2 * (64 * ((a + r) / 2) + 128 - 128 * 16) ≤ (64 * a + 128 - 128 * 31) + 64 * r := by omega
  have g2 : 2 * (32 * ((a + r) / 2) + 128 - 128 * 16) ≤ (32 * a + 128 - 128 * 31) + 32 * r := by omega
  have g3 : 2 * (16 * ((a + r) / 2) + 128 - 128 * 16) ≤ (16 * a + 128 - 128 * 31) + 16 * r := by omega
  have g4 : 2 * (8 * ((a + r) / 2) + 128 - 128 * 16) ≤ (8 * a + 128 - 128 * 31) + 8 * r := by omega
  have g5 : 2 * (4 * ((a + r) / 2) + 128 - 128 * 16) ≤ (4 * a + 128 - 128 * 31) + 4 * r := by omega
  have g6 : 2 * (2 * ((a + r) / 2) + 128 - 128 * 16) ≤ (2 * a + 128 - 128 * 31) + 2 * r := by omega
  have g7 : 2 * ((a + r) / 2 + 128 - 128 * 16) ≤ (a + 128 - 128 * 31) + r := by omega
  have b1 : 123200 ≤ 64 * a + 128 - 128 * 31 := by omega
  have b2 : 59680 ≤ 32 * a + 128 - 128 * 31 := by omega
  have b3 : 27920 ≤ 16 * a + 128 - 128 * 31 := by omega
  have b4 : 12040 ≤ 8 * a + 128 - 128 * 31 := by omega
  have b5 : 4100 ≤ 4 * a + 128 - 128 * 31 := by omega
  have b6 : 130 ≤ 2 * a + 128 - 128 * 31 := by omega
  have hc : 6400 * (if r / 128 < 12 then r / 128 + 8 else 25) + 3303 * r ≤ 12544 * (r + 1) + 5926990 := by
    split <;> omega
  rw [e]
  unfold wb_ph wb_f
  exact wb_lin hc l0 g1 g2 g3 g4 g5 g6 g7 b0 b1 b2 b3 b4 b5 b6 (Nat.zero_le _) (by decide)
set_option maxRecDepth 100000 in
theorem wb_h8 {a r : Nat} (hl : 3968 < a) : 3200 * wb_cost r 8 + wb_ph 16 ((a + r) / 2) ≤ 6272 * (r + 1) + wb_ph 31 a := by
  have e : wb_cost r 8 = if r / 256 < 12 then r / 256 + 9 else 25 := by
    unfold wb_cost; (try split) <;> (try split) <;> omega
  have l0 : 2 * ((a + r) / 2 - 16) + 1 ≤ (a - 31) + r := by omega
  have b0 : 3938 ≤ a - 31 := by omega
  have g1 : 2 * (64 * ((a + r) / 2) + 128 - 128 * 16) ≤ (64 * a + 128 - 128 * 31) + 64 * r := by omega
  have g2 : 2 * (32 * ((a + r) / 2) + 128 - 128 * 16) ≤ (32 * a + 128 - 128 * 31) + 32 * r := by omega
  have g3 : 2 * (16 * ((a + r) / 2) + 128 - 128 * 16) ≤ (16 * a + 128 - 128 * 31) + 16 * r := by omega
  have g4 : 2 * (8 * ((a + r) / 2) + 128 - 128 * 16) ≤ (8 * a + 128 - 128 * 31) + 8 * r := by omega
  have g5 : 2 * (4 * ((a + r) / 2) + 128 - 128 * 16) ≤ (4 * a + 128 - 128 * 31) + 4 * r := by omega
  have g6 : 2 * (2 * ((a + r) / 2) + 128 - 128 * 16) ≤ (2 * a + 128 - 128 * 31) + 2 * r := by omega
  have g7 : 2 * ((a + r) / 2 + 128 - 128 * 16) ≤ (a + 128 - 128 * 31) + r := by omega
  have b1 : 250176 ≤ 64 * a + 128 - 128 * 31 := by omega
  have b2 : 123168 ≤ 32 * a + 128 - 128 * 31 := by omega
  have b3 : 59664 ≤ 16 * a + 128 - 128 * 31 := by omega
  have b4 : 27912 ≤ 8 * a + 128 - 128 * 31 := by omega
  have b5 : 12036 ≤ 4 * a + 128 - 128 * 31 := by omega
  have b6 : 4098 ≤ 2 * a + 128 - 128 * 31 := by omega
  have b7 : 129 ≤ a + 128 - 128 * 31 := by omega
  have hc : 6400 * (if r / 256 < 12 then r / 256 + 9 else 25) + 3303 * r ≤ 12544 * (r + 1) + 12433767 := by
    split <;> omega
  rw [e]
  unfold wb_ph wb_f
  exact wb_lin hc l0 g1 g2 g3 g4 g5 g6 g7 b0 b1 b2 b3 b4 b5 b6 b7 (by decide)
/-- one run more: its bits, and the potential behind it -/
theorem wb_step {m a r k : Nat} (hm : 1 ≤ m) (hm2 : m ≤ 31) (hk : wb_k m a k) :
    3200 * wb_cost r k + wb_ph (if m + 1 = 32 then 16 else m + 1) (if m + 1 = 32 then (a + r) / 2 else a + r) + 3200 * wb_ps (if m + 1 = 32 then 16 else m + 1) ≤ 6272 * (r + 1) + wb_ph m a + 3200 * wb_ps m := by
  obtain ⟨h8, hl, hu⟩ := hk
  by_cases h31 : m = 31
  · subst h31
    simp only [Nat.reduceAdd, if_true]
    have e1 : wb_ps 16 = 0 := rfl
    have e2 : wb_ps 31 = 0 := rfl
    rw [e1, e2]
    rcases (show k = 0 ∨ k = 1 ∨ k = 2 ∨ k = 3 ∨ k = 4 ∨ k = 5 ∨ k = 6 ∨ k = 7 ∨ k = 8 by omega) with rfl | rfl | rfl | rfl | rfl | rfl | rfl | rfl | rfl
    · have := hu (by omega); have := wb_h0 (a := a) (r := r) (by omega); omega
    · have := hl 0 (by omega); have := wb_h1 (a := a) (r := r) (by omega); omega
    · have := hl 1 (by omega); have := wb_h2 (a := a) (r := r) (by omega); omega
    · have := hl 2 (by omega); have := wb_h3 (a := a) (r := r) (by omega); omega
    · have := hl 3 (by omega); have := wb_h4 (a := a) (r := r) (by omega); omega
    · have := hl 4 (by omega); have := wb_h5 (a := a) (r := r) (by omega); omega
    · have := hl 5 (by omega); have := wb_h6 (a := a) (r := r) (by omega); omega
    · have := hl 6 (by omega); have := wb_h7 (a := a) (r := r) (by omega); omega
    · have := hl 7 (by omega); have := wb_h8 (a := a) (r := r) (by omega); omega
  · have hne : ¬ m + 1 = 32 := by omega
    rw [if_neg hne, if_neg hne]
    have hp : wb_ps (m + 1) ≤ wb_ps m := by
      rcases (show m = 1 ∨ m = 2 ∨ m = 3 ∨ m = 4 ∨ m = 5 ∨ m = 6 ∨ m = 7 ∨ m = 8 ∨ m = 9 ∨ m = 10 ∨ m = 11 ∨ 12 ≤ m by omega) with rfl | rfl | rfl | rfl | rfl | rfl | rfl | rfl | rfl | rfl | rfl | h
      case inr.inr.inr.inr.inr.inr.inr.inr.inr.inr.inr =>
        obtain ⟨n, rfl⟩ : ∃ n, m = n + 12 := ⟨m - 12, by omega⟩
        exact Nat.le_refl 0
      all_goals decide
    rcases (show k = 0 ∨ k = 1 ∨ k = 2 ∨ k = 3 ∨ k = 4 ∨ k = 5 ∨ k = 6 ∨ k = 7 ∨ k = 8 by omega) with rfl | rfl | rfl | rfl | rfl | rfl | rfl | rfl | rfl
    · have := hu (by omega); exact wb_k0 hm (by omega) (by omega)
    · have q0 := hl 0 (by omega); have qu := hu (by omega); have := wb_s1 (m := m) (a := a) (r := r) (by omega) (by omega); omega
    · have q0 := hl 0 (by omega); have q1 := hl 1 (by omega); have qu := hu (by omega); have := wb_s2 (m := m) (a := a) (r := r) (by omega) (by omega) (by omega); omega
    · have q0 := hl 0 (by omega); have q1 := hl 1 (by omega); have q2 := hl 2 (by omega); have qu := hu (by omega); have := wb_s3 (m := m) (a := a) (r := r) (by omega) (by omega) (by omega) (by omega); omega
    · have q0 := hl 0 (by omega); have q1 := hl 1 (by omega); have q2 := hl 2 (by omega); have q3 := hl 3 (by omega); have qu := hu (by omega); have := wb_s4 (m := m) (a := a) (r := r) (by omega) (by omega) (by omega) (by omega) (by omega); omega
    · have q0 := hl 0 (by omega); have q1 := hl 1 (by omega); have q2 := hl 2 (by omega); have q3 := hl 3 (by omega); have q4 := hl 4 (by omega); have qu := hu (by omega); have := wb_s5 (m := m) (a := a) (r := r) (by omega) (by omega) (by omega) (by omega) (by omega) (by omega); omega
    · have q0 := hl 0 (by omega); have q1 := hl 1 (by omega); have q2 := hl 2 (by omega); have q3 := hl 3 (by omega); have q4 := hl 4 (by omega); have q5 := hl 5 (by omega); have qu := hu (by omega); have := wb_s6 (m := m) (a := a) (r := r) (by omega) (by omega) (by omega) (by omega) (by omega) (by omega) (by omega); omega
    · have q0 := hl 0 (by omega); have q1 := hl 1 (by omega); have q2 := hl 2 (by omega); have q3 := hl 3 (by omega); have q4 := hl 4 (by omega); have q5 := hl 5 (by omega); have q6 := hl 6 (by omega); have qu := hu (by omega); have := wb_s7 (m := m) (a := a) (r := r) (by omega) (by omega) (by omega) (by omega) (by omega) (by omega) (by omega) (by omega); omega
    · have q0 := hl 0 (by omega); have q1 := hl 1 (by omega); have q2 := hl 2 (by omega); have q3 := hl 3 (by omega); have q4 := hl 4 (by omega); have q5 := hl 5 (by omega); have q6 := hl 6 (by omega); have q7 := hl 7 (by omega); have := wb_s8 (m := m) (a := a) (r := r) (by omega) (by omega) (by omega) (by omega) (by omega) (by omega) (by omega) (by omega); omega
