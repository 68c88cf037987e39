/-! bits that are read, runs that are read -/
def Byt (cm : Nat) (A B : St) : Prop := cm ≤ 3000 ∧ A.1 17 2 = nI cm ∧ B.1 21 23 = nI cm ∧ ∀ n, n < cm → ∃ v, v < 256 ∧ B.1 27 n = nI v ∧ A.1 18 n = (nI v).toInt8.toInt32
def rdA (A0 A : St) : Prop := (∀ o k, ¬ (o = 17 ∧ (k = 3 ∨ k = 7)) → A.1 o k = A0.1 o k) ∧ A.2 = A0.2
def rdB (B0 B : St) : Prop := (∀ o k, ¬ (o = 21 ∧ (k = 32 ∨ k = 35)) → B.1 o k = B0.1 o k) ∧ B.2 = B0.2
/-- where both read, and whether the bits have ended -/
def Rd (cm a : Nat) (e : Bool) (A B : St) : Prop := A.1 17 3 = nI a ∧ B.1 21 32 = nI a ∧ a ≤ 8 * cm ∧ A.1 17 7 = b2I e ∧ B.1 21 35 = b2I e
theorem Byt.mv {cm : Nat} {A B A' B' : St} (H : Byt cm A B) (a : A'.1 17 2 = A.1 17 2) (a2 : ∀ k, A'.1 18 k = A.1 18 k) (b : B'.1 21 23 = B.1 21 23) (b2 : ∀ k, B'.1 27 k = B.1 27 k) : Byt cm A' B' := by
  have a' : A'.1 18 = A.1 18 := funext a2
  have b' : B'.1 27 = B.1 27 := funext b2
  unfold Byt
  rw [a, a', b, b']
  exact H
theorem rb_w {cm a : Nat} {A B : St} (hB : Byt cm A B) (h : A.1 17 3 = nI a) (ha : a ≤ 8 * cm) : rbW A = if a < 8 * cm then 1 else 0 := by
  obtain ⟨hc, a1, -, -⟩ := hB
  unfold rbW
  have e1 : nI a >>> (3 &&& 31) = nI (a / 8) := shr_k (r := a) (by omega) 3 (by decide)
  rw [h, e1, a1, if_neg (show ¬ nI 3000 < nI cm from nI_nlt hc (by omega))]
  by_cases z : a < 8 * cm
  · rw [if_pos z]
    have h3 := wi_ok (j := a / 8) (n := cm) (by omega) (by omega)
    unfold wi at h3 ⊢
    split at h3
    · exact absurd rfl h3
    · rename_i h4
      rw [if_neg h4]
      split at h3
      · exact absurd rfl h3
      · rename_i h5
        rw [if_neg h5]
  · rw [if_neg z]
    exact wi_0 (by omega) (by omega)
theorem rd_1 {cm a : Nat} {e : Bool} {A B : St} (hB : Byt cm A B) (H : Rd cm a e A B) : ∃ a' e', Rd cm a' e' (rbS A) (roS B) ∧ rdA A (rbS A) ∧ rdB B (roS B) ∧ (∃ b, rbV A = b2I b ∧ roV B = b2I b) ∧ (a' = a + 1 ∧ e' = e ∨ e' = true) := by
  obtain ⟨h1, h2, h3, h4, h5⟩ := H
  have hw := rb_w hB h1 h3
  obtain ⟨hc, a1, b1, hby⟩ := hB
  have h8 : (8 : Int32) * nI cm = nI (8 * cm) := by rw [show (8 : Int32) = nI 8 from rfl, pk_mul]
  unfold rbS roS rbV roV atM
  rw [hw, h2, b1, h8, h1]
  by_cases z : a < 8 * cm
  · rw [if_pos z, if_neg (show ¬ (1 : Int32) = 0 by decide), if_neg (show ¬ (1 : Int32) = 0 by decide), if_pos (nI_lt z (by omega)), if_pos (nI_lt z (by omega))]
    refine ⟨a + 1, e, ⟨?_, ?_, by omega, ?_, ?_⟩, ⟨fun o k hn => by rw [puI_at, if_neg (by omega)], rfl⟩, ⟨fun o k hn => by rw [puI_at, if_neg (by omega)], rfl⟩, ?_, Or.inl ⟨rfl, rfl⟩⟩
    · rw [puI_s, nI_1]
    · rw [puI_s, nI_1]
    · rw [puI_at, if_neg (by decide), h4]
    · rw [puI_at, if_neg (by decide), h5]
    · obtain ⟨v, hv, f1, f2⟩ := hby (a / 8) (by omega)
      have e1 : nI a >>> (3 &&& 31) = nI (a / 8) := shr_k (r := a) (by omega) 3 (by decide)
      refine ⟨bI9 (nI v) (7 - a % 8), ?_, ?_⟩
      · rw [e1, nI_clamp (by omega), and_7 (by omega), sub_7 (by omega), bit1 (by omega), f2, bI_b8 (by omega)]
      · rw [nI_clamp (by omega), sub_7 (by omega), bit1 (by omega), f1]
  · rw [if_neg z, if_pos rfl, if_pos rfl, if_neg (nI_nlt (by omega) (by omega)), if_neg (nI_nlt (by omega) (by omega))]
    refine ⟨a, true, ⟨?_, ?_, h3, ?_, ?_⟩, ⟨fun o k hn => by rw [puI_at, if_neg (by omega)], rfl⟩, ⟨fun o k hn => by rw [puI_at, if_neg (by omega)], rfl⟩, ⟨false, rfl, rfl⟩, Or.inr rfl⟩
    · rw [puI_at, if_neg (by decide), h1]
    · rw [puI_at, if_neg (by decide), h2]
    · rw [puI_s]; rfl
    · rw [puI_s]; rfl
theorem rdA_t {A B C : St} (h : rdA A B) (g : rdA B C) : rdA A C := ⟨fun o k hn => (g.1 o k hn).trans (h.1 o k hn), g.2.trans h.2⟩
theorem rdB_t {A B C : St} (h : rdB A B) (g : rdB B C) : rdB A C := ⟨fun o k hn => (g.1 o k hn).trans (h.1 o k hn), g.2.trans h.2⟩
theorem Byt.rd {cm : Nat} {A B A' B' : St} (H : Byt cm A B) (a : rdA A A') (b : rdB B B') : Byt cm A' B' := H.mv (a.1 17 2 (by decide)) (fun k => a.1 18 k (by omega)) (b.1 21 23 (by decide)) (fun k => b.1 27 k (by omega))
/-- ones up to a zero -/
theorem rd_ones {cm : Nat} : ∀ (f a : Nat) (e : Bool) (A B : St), Byt cm A B → Rd cm a e A B → ∃ a' e', Rd cm a' e' (onS f A) (moN f B) ∧ rdA A (onS f A) ∧ rdB B (moN f B) ∧ onC f A = moC f B ∧ onC f A ≤ f ∧ (f = 0 ∨ a + 1 ≤ a' ∨ e' = true) ∧ (e = true → e' = true)
  | 0, a, e, A, B, _, H => ⟨a, e, H, ⟨fun _ _ _ => rfl, rfl⟩, ⟨fun _ _ _ => rfl, rfl⟩, rfl, Nat.le_refl _, Or.inl rfl, fun h => h⟩
  | f + 1, a, e, A, B, hB, H => by
    obtain ⟨a1, e1, g1, g2, g3, ⟨b, g4, g5⟩, g6⟩ := rd_1 hB H
    have hmon : e = true → e1 = true := fun h => by rcases g6 with ⟨-, z⟩ | z; exact z.trans h; exact z
    unfold onS moN onC moC
    rw [g4, g5]
    cases b with
    | false =>
      rw [if_neg (by decide), if_neg (by decide), if_neg (by decide), if_neg (by decide)]
      refine ⟨a1, e1, g1, g2, g3, rfl, Nat.zero_le _, Or.inr ?_, hmon⟩
      rcases g6 with ⟨z, -⟩ | z
      · exact Or.inl (by omega)
      · exact Or.inr z
    | true =>
      rw [if_pos (by decide), if_pos (by decide), if_pos (by decide), if_pos (by decide)]
      obtain ⟨a2, e2, k1, k2, k3, k4, k5, k6, k7⟩ := rd_ones f a1 e1 _ _ (hB.rd g2 g3) g1
      refine ⟨a2, e2, k1, rdA_t g2 k2, rdB_t g3 k3, by rw [k4], by omega, Or.inr ?_, fun h => k7 (hmon h)⟩
      rcases g6 with ⟨z, -⟩ | z
      · rcases k6 with z2 | z2 | z2
        · subst z2
          have q1 := k1.1
          have q1' : nI a1 = nI a2 := g1.1.symm.trans q1
          have : a1 = a2 := (nI_eq (by have := g1.2.2.1; have := hB.1; omega) (by have := k1.2.2.1; have := hB.1; omega)).mp q1'
          exact Or.inl (by omega)
        · exact Or.inl (by omega)
        · exact Or.inr z2
      · exact Or.inr (k7 z)
theorem or_b {t : Nat} (ht : t < 2 ^ 20) (b : Bool) : nI t <<< (1 &&& 31) ||| b2I b = nI (2 * t + b2N b) := by
  apply eqI
  intro i hi
  show bI9 (nI t <<< (nI 1 &&& 31) ||| b2I b) i = _
  rw [bI_or, bI_shl (by decide), bI_nI, bI_nI, show b2I b = nI (b2N b) from b2I_n b, bI_nI]
  cases i with
  | zero => cases b <;> simp [b2N, Nat.testBit_zero]
  | succ i =>
    have h1 : (2 * t + b2N b).testBit (i + 1) = t.testBit i := by
      rw [Nat.testBit_succ]
      congr 1
      cases b <;> simp [b2N] <;> omega
    have h2 : (b2N b).testBit (i + 1) = false := by
      rw [Nat.testBit_succ]
      cases b <;> simp [b2N]
    have h3 : i < 32 := by omega
    rw [h1, h2]
    simp [hi, h3]
/-- a number of n bits -/
theorem rd_num {cm : Nat} {A0 B0 : St} {a0 : Nat} {e0 : Bool} (hB : Byt cm A0 B0) (H : Rd cm a0 e0 A0 B0) : ∀ n, n ≤ 13 → ∃ a e t, Rd cm a e (rdS A0 n) (rsS B0 n) ∧ rdA A0 (rdS A0 n) ∧ rdB B0 (rsS B0 n) ∧ rdV A0 n = nI t ∧ rsV B0 n = nI t ∧ t < 2 ^ n ∧ (a0 ≤ a) ∧ (e0 = true → e = true)
  | 0, _ => ⟨a0, e0, 0, H, ⟨fun _ _ _ => rfl, rfl⟩, ⟨fun _ _ _ => rfl, rfl⟩, rfl, rfl, by decide, Nat.le_refl _, fun h => h⟩
  | n + 1, hn => by
    obtain ⟨a, e, t, g1, g2, g3, g4, g5, g6, g7, g8⟩ := rd_num hB H n (by omega)
    obtain ⟨a1, e1, k1, k2, k3, ⟨b, k4, k5⟩, k6⟩ := rd_1 (hB.rd g2 g3) g1
    have hp : t < 2 ^ 20 := Nat.lt_of_lt_of_le g6 (Nat.pow_le_pow_right (by decide) (by omega))
    have hle : a0 ≤ a1 ∧ (e = true → e1 = true) := by
      rcases k6 with ⟨z, z2⟩ | z
      · exact ⟨by omega, fun h => z2.trans h⟩
      · refine ⟨?_, fun _ => z⟩
        have q := k1.1
        have : a1 = a ∨ a1 = a + 1 := by
          unfold rbS at q
          split at q
          · rw [puI_at, if_neg (by decide), g1.1] at q
            exact Or.inl ((nI_eq (by have := k1.2.2.1; have := hB.1; omega) (by have := g1.2.2.1; have := hB.1; omega)).mp q.symm)
          · rw [puI_s, g1.1, nI_1] at q
            exact Or.inr ((nI_eq (by have := k1.2.2.1; have := hB.1; omega) (by have := g1.2.2.1; have := hB.1; omega)).mp q.symm)
        omega
    refine ⟨a1, e1, 2 * t + b2N b, k1, rdA_t g2 k2, rdB_t g3 k3, ?_, ?_, ?_, hle.1, fun h => hle.2 (g8 h)⟩
    · show rdV A0 n <<< (1 &&& 31) ||| rbV (rdS A0 n) = _
      rw [g4, k4, or_b hp]
    · show 2 * rsV B0 n + roV (rsS B0 n) = _
      rw [g5, k5, b2I_n, show (2 : Int32) = nI 2 from rfl, pk_mul, nI_add]
    · have : b2N b ≤ 1 := by cases b <;> decide
      rw [Nat.pow_succ]
      omega
theorem on_or : ∀ on, on < 13 → ∀ k, k < 9 → nI on <<< (nI k &&& 31) = nI (on * 2 ^ k) := by decide +kernel
theorem or_low {u k t : Nat} (ht : t < 2 ^ k) (hk : k ≤ 8) (hu : u ≤ 12) : nI (u * 2 ^ k) ||| nI t = nI (u * 2 ^ k + t) := by
  apply eqI
  intro i hi
  rw [bI_or, bI_nI, bI_nI, bI_nI, Nat.mul_comm, Nat.testBit_two_pow_mul_add u ht, show 2 ^ k * u = 2 ^ k * u + 0 from rfl, Nat.testBit_two_pow_mul_add u (Nat.pow_pos (by decide))]
  by_cases z : i < k
  · simp [z, hi]
  · rw [Nat.testBit_lt_two_pow (Nat.lt_of_lt_of_le ht (Nat.pow_le_pow_right (by decide) (by omega)))]
    simp [z]
