/-! one bit read, one plane read -/
def nxt (B : St) : St := puI B 21 36 (B.1 21 36 - 1)
theorem run_or {cm t : Nat} {A B : St} (hB : Byt cm A B) (ht : t ≤ 1600) (H : Liv cm t A B) (hr : A.1 17 6 = B.1 21 31) :
    (Liv cm (t + 1) (nbT A) (mtT B) ∧ ¬ (nbT A).1 17 5 = -1 ∨ Ref (nbT A) (mtT B)) ∧ runA A (nbT A) ∧ runB B (mtT B) ∧ (nbT A).1 17 6 = (mtT B).1 21 31 := by
  have H' := H
  obtain ⟨a, mm, aa, h1, h2, h3, h4, h5, m1, m2, ha⟩ := H
  unfold nbT mtT
  rcases h4 with ⟨e1, e2⟩ | ⟨e0, e1, q, hq, e2, e3⟩
  · rw [if_pos e1, if_pos e2]
    exact run_eq hB ht H' e1 hr
  · have hne : ¬ A.1 17 5 = -1 := by
      rw [e2]
      intro h9
      have h8 : (nI q).toInt = (-1 : Int32).toInt := by rw [h9]
      rw [nI_toInt (by omega), show (-1 : Int32).toInt = -1 from rfl] at h8
      omega
    rw [if_neg hne, if_neg (by rw [e1]; decide)]
    exact ⟨Or.inl ⟨⟨a, mm, aa, h1, h2, h3, Or.inr ⟨e0, e1, q, hq, e2, e3⟩, h5, m1, m2, by omega⟩, hne⟩, runA.r, runB.r, hr⟩
theorem ref_7 {A B : St} (H : Ref A B) : ¬ A.1 17 7 = 0 ∧ ¬ goes B := by
  unfold goes
  rcases H with ⟨h1, h2⟩ | ⟨h1, h2, h3⟩
  · rw [h1, h2]; exact ⟨by decide, fun z => absurd z.1 (by decide)⟩
  · rw [h1, h3]; exact ⟨by decide, fun z => absurd z.2 (by decide)⟩
theorem liv_7 {cm t : Nat} {A B : St} (H : Liv cm t A B) : A.1 17 7 = 0 ∧ goes B := by
  obtain ⟨a, mm, aa, ⟨-, -, -, h1, h2⟩, h3, -⟩ := H
  exact ⟨h1, h2, h3⟩
theorem bit_eq {cm t : Nat} {A B : St} (hB : Byt cm A B) (ht : t ≤ 1600) (H : Liv cm t A B) (hr : A.1 17 6 = B.1 21 31) (f : Bool) :
    ((Liv cm (t + 1) (nbS A) (nxt (mbS B)) ∧ ∃ b, nbV A (b2I f) = b2I b ∧ mbV B (b2I f) = b2I b) ∨ Ref (nbS A) (mbS B)) ∧ runA A (nbS A) ∧ runB B (mbS B) ∧ (nbS A).1 17 6 = (mbS B).1 21 31 := by
  obtain ⟨g1, g2, g3, g4⟩ := run_or hB ht H hr
  have fU : ∀ U : St, runB U (mtS U) := fun U => by
    unfold mtS
    repeat' split
    all_goals exact runB.r.pu (by decide)
  unfold nbS nbV mbS mbV
  rcases g1 with ⟨⟨a, mm, aa, h1, h2, h3, h4, h5, m1, m2, ha⟩, hne⟩ | hR
  · generalize nbT A = T at *
    generalize mtT B = U at *
    obtain ⟨q1, q2, q3, q4, q5⟩ := h1
    rcases h4 with ⟨e1, -⟩ | ⟨e0, e1, q, hq, e2, e3⟩
    · exact absurd e1 hne
    · have e7 : T.1 17 7 = 0 := q4
      have hG : nbG T = puI (puI T 17 4 (T.1 17 4 - 1)) 17 5 (nI q - 1) := by
        unfold nbG nbU
        rw [if_pos e7, puI_at, if_neg (by decide), e2]
      have hU5 : (nbU T).1 17 5 = nI q - 1 := by
        unfold nbU
        rw [puI_s, puI_at, if_neg (by decide), e2]
      have z0 : (nI q ≤ 0) ↔ q = 0 := by
        rw [show (0 : Int32) = nI 0 from rfl, nI_leI (by omega) (by decide)]
        omega
      rw [hG]
      refine ⟨Or.inl ?_, g2.t ((runA.r.pu (Or.inr ⟨rfl, by decide⟩)).pu (Or.inr ⟨rfl, by decide⟩)), g3.t (fU U), ?_⟩
      · by_cases zq : q = 0
        · subst zq
          have hS : mtS U = puI U 21 34 0 := by
            unfold mtS
            rw [e3, if_pos (z0.mpr rfl)]
          rw [hS]
          refine ⟨⟨a, mm, aa, ⟨?_, ?_, q3, ?_, ?_⟩, ?_, ?_, Or.inl ⟨?_, ?_⟩, ⟨?_, ?_, ?_, ?_⟩, m1, m2, ha⟩, !f, ?_, ?_⟩
          · simp [puI_at, q1]
          · simp [nxt, puI_at, q2]
          · simp [puI_at, q4]
          · simp [nxt, puI_at, q5]
          · simp [nxt, puI_at, h2]
          · simp [nxt, puI_at, h3]
          · rw [puI_s]; decide
          · simp [nxt, puI_at]
          · simp [puI_at, h5.1]
          · simp [nxt, puI_at, h5.2.1]
          · simp [puI_at, h5.2.2.1]
          · simp [nxt, puI_at, h5.2.2.2]
          · unfold nbE
            rw [if_pos e7, hU5, if_pos (by decide)]
            cases f <;> decide
          · unfold mtV
            rw [e3, if_pos (z0.mpr rfl)]
            cases f <;> decide
        · have hS : mtS U = puI U 21 33 (nI q - 1) := by
            unfold mtS
            rw [e3, if_neg (fun y => zq (z0.mp y)), if_pos h2]
          have hq1 : nI q - 1 = nI (q - 1) := sub_nn (n := 1) (by omega)
          have hqn : ¬ nI (q - 1) = -1 := by
            intro h9
            have h8 : (nI (q - 1)).toInt = (-1 : Int32).toInt := by rw [h9]
            rw [nI_toInt (by omega), show (-1 : Int32).toInt = -1 from rfl] at h8
            omega
          rw [hS, hq1]
          refine ⟨⟨a, mm, aa, ⟨?_, ?_, q3, ?_, ?_⟩, ?_, ?_, Or.inr ⟨e0, ?_, q - 1, by omega, ?_, ?_⟩, ⟨?_, ?_, ?_, ?_⟩, m1, m2, ha⟩, f, ?_, ?_⟩
          · simp [puI_at, q1]
          · simp [nxt, puI_at, q2]
          · simp [puI_at, q4]
          · simp [nxt, puI_at, q5]
          · simp [nxt, puI_at, h2]
          · simp [nxt, puI_at, h3]
          · simp [nxt, puI_at, e1]
          · rw [puI_s]
          · simp [nxt, puI_at]
          · simp [puI_at, h5.1]
          · simp [nxt, puI_at, h5.2.1]
          · simp [puI_at, h5.2.2.1]
          · simp [nxt, puI_at, h5.2.2.2]
          · unfold nbE
            rw [if_pos e7, hU5, hq1, if_neg hqn]
          · unfold mtV
            rw [e3, if_neg (fun y => zq (z0.mp y)), if_pos h2]
      · have : (mtS U).1 21 31 = U.1 21 31 := by
          unfold mtS
          repeat' split
          all_goals (rw [puI_at, if_neg (by decide)])
        rw [this, puI_at, if_neg (by decide), puI_at, if_neg (by decide), g4]
  · have h7 := (ref_7 hR).1
    have hG : nbG (nbT A) = nbT A := by unfold nbG; rw [if_neg h7]
    rw [hG]
    generalize mtT B = U at *
    have fk : ∀ k, k ≠ 33 → k ≠ 34 → (mtS U).1 21 k = U.1 21 k := fun k n1 n2 => by
      unfold mtS
      repeat' split
      all_goals (rw [puI_at, if_neg (by omega)])
    refine ⟨Or.inr ?_, g2, g3.t (fU U), by rw [fk 31 (by decide) (by decide), g4]⟩
    unfold Ref
    rw [fk 35 (by decide) (by decide), fk 37 (by decide) (by decide)]
    exact hR
/-! codes and what they tell, as both keep them -/
def gd9 (x : Nat) : Nat := x ^^^ (x >>> 1) ^^^ (x >>> 2) ^^^ (x >>> 3) ^^^ (x >>> 4) ^^^ (x >>> 5)
theorem gd_gc : ∀ x, x < 64 → gcC (nI x) = nI (gd9 x) ∧ gd9 x < 64 := by decide +kernel
theorem gd_up : ∀ u, u < 32 → ∀ b : Bool, 2 * nI (gd9 u) + (if nI (gd9 u) &&& 1 = 1 then (if b2I b = 1 then 0 else 1) else (if b2I b = 0 then 0 else 1)) = nI (gd9 (2 * u + b2N b)) := by decide +kernel
theorem or_bit : ∀ p, p < 6 → ∀ u, u < 2 ^ (5 - p) → ∀ b : Bool, nI (2 ^ (p + 1) * u) ||| b2I b <<< (nI p &&& 31) = nI (2 ^ p * (2 * u + b2N b)) ∧ bI9 (nI (2 ^ p * (2 * u + b2N b))) p = b ∧ bI9 (nI (2 ^ p * (2 * u + b2N b))) (p + 1) = bI9 (nI (2 ^ (p + 1) * u)) (p + 1) := by decide +kernel
theorem no_bit : ∀ p, p < 6 → ∀ u, u < 2 ^ (5 - p) → bI9 (nI (2 ^ (p + 1) * u)) p = false := by decide +kernel
def decA (A0 A : St) : Prop := (∀ o k, ¬ (o = 10 ∨ o = 12 ∨ o = 13 ∨ o = 19 ∨ (o = 17 ∧ 3 ≤ k)) → A.1 o k = A0.1 o k) ∧ A.2 = A0.2
def decB (B0 B : St) : Prop := (∀ o k, ¬ (o = 28 ∨ o = 29 ∨ o = 30 ∨ o = 31 ∨ o = 32 ∨ (o = 21 ∧ 29 ≤ k)) → B.1 o k = B0.1 o k) ∧ B.2 = B0.2
/-- a code of which the planes from q on are read -/
def Cd (q : Nat) (x y : Int32) : Prop := ∃ u, u < 2 ^ (6 - q) ∧ x = nI (2 ^ q * u) ∧ y = nI (gd9 u)
def act (c r : Nat) (B0 : St) (n : Nat) : Prop := (n % 16 < c ∧ n / 16 < r) ∧ skM B0 (nI (n % 16)) (nI (n / 16)) = 0
def DeC (p k c r : Nat) (B0 A B : St) : Prop := (∀ n, n < 256 → B.1 30 n = if n < k then b2I (bI9 (A.1 10 n) p) else 0) ∧ (∀ n, n < 256 → B.1 31 n = b2I (bI9 (A.1 10 n) (p + 1))) ∧ (∀ n, n < 256 → Cd (if n < k then p else p + 1) (A.1 10 n) (B.1 32 n)) ∧ ∀ n, n < 256 → ¬ act c r B0 n → A.1 10 n = 0
theorem Cd_0 {q q' : Nat} {y : Int32} (H : Cd q 0 y) (hq : q ≤ 6) (hq' : q' ≤ 6) : Cd q' 0 y := by
  obtain ⟨u, h1, h2, h3⟩ := H
  have hb : 2 ^ q * u < 64 := by
    have h4 : 2 ^ q * u < 2 ^ q * 2 ^ (6 - q) := Nat.mul_lt_mul_of_pos_left h1 (Nat.pow_pos (by decide))
    rw [← Nat.pow_add, show q + (6 - q) = 6 by omega] at h4
    exact h4
  have h0 : 2 ^ q * u = 0 := by
    rw [show (0 : Int32) = nI 0 from rfl, nI_eq (by decide) (by omega)] at h2
    exact h2.symm
  have hu : u = 0 := by
    rcases Nat.mul_eq_zero.mp h0 with z | z
    · exact absurd z (Nat.ne_of_gt (Nat.pow_pos (by decide)))
    · exact z
  subst hu
  exact ⟨0, Nat.pow_pos (by decide), by rw [Nat.mul_zero]; rfl, h3⟩
def DeR (cm p k t c r : Nat) (A0 B0 A B : St) : Prop := decA A0 A ∧ decB B0 B ∧ Rctx A B ∧ A.1 17 6 = B.1 21 31 ∧ ((Liv cm t A B ∧ DeC p k c r B0 A B) ∨ Ref A B)
theorem Liv.up {cm t : Nat} {A B : St} (H : Liv cm t A B) : Liv cm (t + 1) A B := by
  obtain ⟨a, mm, aa, h1, h2, h3, h4, h5, m1, m2, ha⟩ := H
  exact ⟨a, mm, aa, h1, h2, h3, h4, h5, m1, m2, by omega⟩
theorem Liv.mv {cm t : Nat} {A B A' B' : St} (H : Liv cm t A B) (a : ∀ k, 3 ≤ k → A'.1 17 k = A.1 17 k) (a2 : ∀ k, A'.1 19 k = A.1 19 k) (b : ∀ k, 29 ≤ k → B'.1 21 k = B.1 21 k) : Liv cm t A' B' := by
  obtain ⟨p, mm, aa, ⟨h1, h1', h1'', h1a, h1b⟩, h2, h3, h4, ⟨h5, h6, h7, h8⟩, m1, m2, ha⟩ := H
  refine ⟨p, mm, aa, ⟨?_, ?_, h1'', ?_, ?_⟩, ?_, ?_, ?_, ⟨?_, ?_, ?_, ?_⟩, m1, m2, ha⟩
  · rw [a 3 (by decide), h1]
  · rw [b 32 (by decide), h1']
  · rw [a 7 (by decide), h1a]
  · rw [b 35 (by decide), h1b]
  · rw [b 37 (by decide), h2]
  · rw [a 4 (by decide), b 36 (by decide), h3]
  · rw [a 5 (by decide), b 34 (by decide), b 33 (by decide)]
    exact h4
  · rw [a2, h5]
  · rw [b 30 (by decide), h6]
  · rw [a2, h7]
  · rw [b 29 (by decide), h8]
