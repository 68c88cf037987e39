theorem wi_1x {y : Int32} {n : Nat} (hn : n < 2 ^ 31) (h : ¬ wi y 1 (nI n) = 0) : ∃ j : Nat, 1 ≤ j ∧ j ≤ n ∧ y = nI j := by
  obtain ⟨h1, h2⟩ := wi_lo h
  have h0 : ¬ y < 0 := fun h3 => h1 (Int32.lt_trans h3 (by decide))
  obtain ⟨j, hj, rfl⟩ := nI_of2 (nI_toInt hn) h0 (Int32.not_lt.mp h2)
  refine ⟨j, ?_, hj, rfl⟩
  cases j with
  | zero => exact absurd (by decide : nI 0 < 1) h1
  | succ j => omega
theorem wi_ok {j n : Nat} (h : j < n) (hn : n < 2 ^ 31) : ¬ wi (nI j) 0 (nI n - 1) = 0 := by
  unfold wi
  obtain ⟨m, rfl⟩ : ∃ m, n = m + 1 := ⟨n - 1, by omega⟩
  rw [if_neg (nI_pos (by omega)), nI_pred, if_neg (nI_nlt (by omega) (by omega))]
  decide
theorem wi_0 {j n : Nat} (h : n ≤ j) (hj : j < 2 ^ 31) : wi (nI j) 0 (nI n - 1) = 0 := by
  apply Classical.byContradiction
  intro h2
  obtain ⟨k, hk, e⟩ := wi_nat (by omega) h2
  rw [nI_eq (by omega) (by omega)] at e
  omega
theorem okP_0 {a b c : Int32} (h : okP a b c = 0) : ∃ p q n, (1 ≤ p ∧ p ≤ 8) ∧ (1 ≤ q ∧ q ≤ 8) ∧ n < 64 ∧ a = nI p ∧ b = nI q ∧ c = nI (n + 1) := by
  unfold okP at h
  by_cases h1 : wi a 1 8 = 0
  · rw [if_pos h1] at h; exact absurd h (by decide)
  rw [if_neg h1] at h
  by_cases h2 : wi b 1 8 = 0
  · rw [if_pos h2] at h; exact absurd h (by decide)
  rw [if_neg h2] at h
  by_cases h3 : wi c 1 64 = 0
  · rw [if_pos h3] at h; exact absurd h (by decide)
  obtain ⟨p, p1, p2, rfl⟩ := wi_1x (n := 8) (by decide) h1
  obtain ⟨q, q1, q2, rfl⟩ := wi_1x (n := 8) (by decide) h2
  obtain ⟨n, n1, n2, rfl⟩ := wi_1x (n := 64) (by decide) h3
  exact ⟨p, q, n - 1, ⟨p1, p2⟩, ⟨q1, q2⟩, by omega, rfl, rfl, by rw [show n - 1 + 1 = n by omega]⟩
theorem q_patterns {h w : Nat} {A B : St} {a b c9 : Int32} (H : Rl h w A B) (hok : okP a b c9 = 0) : Rl h w (pnS A a b c9) (blM (puI B 21 0 0) a b c9) := by
  obtain ⟨pw, ph, m, c, r, h1, h2, h3, h4, h5, h6, h7, h8, h9, h10, h11, h12⟩ := H
  obtain ⟨p, q, n, p1, q1, n1, rfl, rfl, rfl⟩ := okP_0 hok
  have FA : ∀ o k, ¬ (o = 5 ∨ o = 8) → (pnS A (nI p) (nI q) (nI (n + 1))).1 o k = A.1 o k := by
    intro o k hn
    simp only [pnS, bgB, flI_at, flL_1, puI_at, puL_1]
    repeat rw [if_neg (by omega)]
  have FB : ∀ o k, ¬ (o = 24 ∨ o = 25 ∨ (o = 21 ∧ (k = 0 ∨ k = 5 ∨ k = 6 ∨ k = 7))) → (blM (puI B 21 0 0) (nI p) (nI q) (nI (n + 1))).1 o k = B.1 o k := by
    intro o k hn
    simp only [blM, flI_at, flL_1, puI_at, puL_1]
    repeat rw [if_neg (by omega)]
  refine ⟨p, q, n, c, r, h1.mv (fun o k e => FA o k (by omega)) (fun k e => FB 21 k (by omega)), h2.mv (fun k => FA 2 k (by omega)) (fun k => FB 22 k (by omega)), h3.mv (fun k => FA 4 k (by omega)) (fun k => FB 23 k (by omega)), ?_, ?_, h6.mv (fun k => FA 7 k (by omega)) (fun k e1 e2 => FB 21 k (by omega)), ?_, h8.mv (fun k e1 e2 => FA 0 k (by omega)) (fun k e1 e2 => FB 21 k (by omega)), h9.mv (FA 0 14 (by omega)) (FB 21 31 (by omega)), h10.mv (fun k => FA 12 k (by omega)) (fun k => FA 13 k (by omega)) (fun k => FB 28 k (by omega)) (fun k => FB 29 k (by omega)), h11.mv (FA 14 2 (by omega)) (fun k => FA 15 k (by omega)) (fun k e => FB 21 k (by omega)) (fun k => FB 26 k (by omega)), h12.mv (FA 17 2 (by omega)) (fun k => FA 18 k (by omega)) (FB 21 23 (by omega)) (fun k => FB 27 k (by omega))⟩
  · refine ⟨p1.1, p1.2, q1.1, q1.2, n1, ?_⟩
    simp [pnS, bgB, blM, flI_at, flL_1, puI_at]
  · refine ⟨fun k i hk hi => ?_, fun n => ?_⟩
    · have e : (pnS A (nI p) (nI q) (nI (n + 1))).2 6 k = 0 := by simp [pnS, bgB, flI_2, flL_at, hk]
      have e2 : 64 * k + i < 4096 := by omega
      rw [e, bL_0]
      simp [blM, flI_at, nar_0, e2]
      rfl
    · rcases h5.2 n with e | e <;> by_cases e2 : n < 4096 <;> simp [blM, flI_at, puI_at, nar_0, e2, e]
  · intro k hk
    refine ⟨?_, ⟨0, Nat.zero_le _, ?_⟩, fun _ => ?_⟩ <;> simp [pnS, blM, flI_at, hk]
    rfl

