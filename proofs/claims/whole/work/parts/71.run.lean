/-! one run read -/
/-- what both hold between two bits: place, left, the run ahead, the pace; t: how many runs at most -/
def Liv (cm t : Nat) (A B : St) : Prop := ∃ a mm aa, Rd cm a false A B ∧ B.1 21 37 = 0 ∧ A.1 17 4 = B.1 21 36 ∧ ((A.1 17 5 = -1 ∧ B.1 21 34 = 0) ∨ (1 ≤ a ∧ B.1 21 34 = 1 ∧ ∃ q, q < 2 ^ 13 ∧ A.1 17 5 = nI q ∧ B.1 21 33 = nI q)) ∧ (A.1 19 1 = nI mm ∧ B.1 21 30 = nI mm ∧ A.1 19 0 = nI aa ∧ B.1 21 29 = nI aa) ∧ 1 ≤ mm ∧ mm ≤ 31 ∧ aa ≤ 4 + 8192 * t
/-- refused: the bits have ended, or a run is too long -/
def Ref (A B : St) : Prop := (A.1 17 7 = 1 ∧ B.1 21 35 = 1) ∨ (A.1 17 7 = 2 ∧ B.1 21 35 = 0 ∧ B.1 21 37 = 1)
def runA (A0 A : St) : Prop := (∀ o k, ¬ (o = 19 ∨ (o = 17 ∧ 3 ≤ k)) → A.1 o k = A0.1 o k) ∧ A.2 = A0.2
def runB (B0 B : St) : Prop := (∀ o k, ¬ (o = 21 ∧ 29 ≤ k) → B.1 o k = B0.1 o k) ∧ B.2 = B0.2
theorem rdA.w {A B : St} (h : rdA A B) : runA A B := ⟨fun o k hn => h.1 o k (by omega), h.2⟩
theorem rdB.w {A B : St} (h : rdB A B) : runB A B := ⟨fun o k hn => h.1 o k (by omega), h.2⟩
theorem runA.t {A B C : St} (h : runA A B) (g : runA B C) : runA A C := ⟨fun o k hn => (g.1 o k hn).trans (h.1 o k hn), g.2.trans h.2⟩
theorem runB.t {A B C : St} (h : runB A B) (g : runB B C) : runB A C := ⟨fun o k hn => (g.1 o k hn).trans (h.1 o k hn), g.2.trans h.2⟩
theorem runA.pu {A B : St} {o k : Nat} {v : Int32} (h : runA A B) (ho : o = 19 ∨ (o = 17 ∧ 3 ≤ k)) : runA A (puI B o k v) := ⟨fun o' k' hn => by rw [puI_at, if_neg (by rintro ⟨rfl, rfl⟩; exact hn ho)]; exact h.1 o' k' hn, h.2⟩
theorem runB.pu {A B : St} {k : Nat} {v : Int32} (h : runB A B) (hk : 29 ≤ k) : runB A (puI B 21 k v) := ⟨fun o' k' hn => by rw [puI_at, if_neg (by omega)]; exact h.1 o' k' hn, h.2⟩
theorem runA.r {A : St} : runA A A := ⟨fun _ _ _ => rfl, rfl⟩
theorem runB.r {A : St} : runB A A := ⟨fun _ _ _ => rfl, rfl⟩
theorem pac_r {A0 A : St} {r : Int32} (h : runA A0 A) : runA A0 (pacN_19 A r) := by
  unfold pacN_19
  split
  · exact (((h.pu (Or.inl rfl)).pu (Or.inl rfl)).pu (Or.inl rfl)).pu (Or.inl rfl)
  · exact (h.pu (Or.inl rfl)).pu (Or.inl rfl)
theorem kr_r {B0 B : St} {r : Int32} (h : runB B0 B) : runB B0 (krM B r) := by
  unfold krM
  split
  · exact (((h.pu (by decide)).pu (by decide)).pu (by decide)).pu (by decide)
  · exact (h.pu (by decide)).pu (by decide)
theorem pace_eq {A B : St} {mm aa q : Nat} (h1 : A.1 19 1 = nI mm) (h2 : B.1 21 30 = nI mm) (h3 : A.1 19 0 = nI aa) (h4 : B.1 21 29 = nI aa) (m2 : mm ≤ 31) (ha : aa < 2 ^ 30) (hq : q < 2 ^ 13) : ∃ mm' aa', (pacN_19 A (nI q)).1 19 1 = nI mm' ∧ (krM B (nI q)).1 21 30 = nI mm' ∧ (pacN_19 A (nI q)).1 19 0 = nI aa' ∧ (krM B (nI q)).1 21 29 = nI aa' ∧ 1 ≤ mm' ∧ mm' ≤ 31 ∧ aa' ≤ aa + q := by
  unfold pacN_19 krM
  rw [h1, h2, h3, h4, nI_1, nI_add]
  have es : nI (aa + q) >>> (1 &&& 31) = nI ((aa + q) / 2) := shr_k (r := aa + q) (by omega) 1 (by decide)
  have ed : nI (aa + q) / 2 = nI ((aa + q) / 2) := dvd9 2 (by omega) (by decide) (by decide)
  by_cases e : mm + 1 = 32
  · rw [e, if_pos (show nI 32 = 32 from rfl), if_pos (show nI 32 = 32 from rfl), es, ed]
    refine ⟨16, (aa + q) / 2, ?_, ?_, ?_, ?_, by decide, by decide, by omega⟩
    · rw [puI_s]; rfl
    · rw [puI_s]; rfl
    · rw [puI_at, if_neg (by decide), puI_s]
    · rw [puI_at, if_neg (by decide), puI_s]
  · have hne : ¬ nI (mm + 1) = 32 := fun z => e ((nI_eq (by omega) (by decide)).mp z)
    rw [if_neg hne, if_neg hne]
    refine ⟨mm + 1, aa + q, ?_, ?_, ?_, ?_, by omega, by omega, by omega⟩
    · rw [puI_s]
    · rw [puI_s]
    · rw [puI_at, if_neg (by decide), puI_s]
    · rw [puI_at, if_neg (by decide), puI_s]
theorem pac_k {A : St} {r : Int32} {o k : Nat} (h : o ≠ 19) : (pacN_19 A r).1 o k = A.1 o k := by
  unfold pacN_19
  split
  · simp [puI_at, h]
  · simp [puI_at, h]
/-- the end of reading a run, both ways -/
theorem run_fin {cm t a mm aa q : Nat} {e : Bool} {A B : St} (H : Rd cm a e A B) (hq : q < 2 ^ 13) (ht : t ≤ 1600) (ha : 1 ≤ a ∨ e = true) (hl : A.1 17 4 = B.1 21 36) (hh : A.1 17 5 = -1) (hr : A.1 17 6 = B.1 21 31) (h1 : A.1 19 1 = nI mm) (h2 : B.1 21 30 = nI mm) (h3 : A.1 19 0 = nI aa) (h4 : B.1 21 29 = nI aa) (m1 : 1 ≤ mm) (m2 : mm ≤ 31) (haa : aa ≤ 4 + 8192 * t) :
    (Liv cm (t + 1) (rrF A (nI q)) (mdF B (nI q)) ∧ ¬ (rrF A (nI q)).1 17 5 = -1 ∨ Ref (rrF A (nI q)) (mdF B (nI q))) ∧ runA A (rrF A (nI q)) ∧ runB B (mdF B (nI q)) ∧ (rrF A (nI q)).1 17 6 = (mdF B (nI q)).1 21 31 := by
  obtain ⟨g1, g2, g3, g4, g5⟩ := H
  have hB : runB B (mdF B (nI q)) := by
    unfold mdF mdC mdB mdA
    exact kr_r ((((runB.r (A := B)).pu (by decide)).pu (by decide)).pu (by decide) |>.pu (by decide))
  have hA : runA A (rrF A (nI q)) := by
    unfold rrF
    split
    · split
      · exact pac_r (((runA.r (A := A)).pu (Or.inr ⟨rfl, by decide⟩)).pu (Or.inr ⟨rfl, by decide⟩))
      · exact ((runA.r (A := A)).pu (Or.inr ⟨rfl, by decide⟩)).pu (Or.inr ⟨rfl, by decide⟩)
    · exact ⟨fun _ _ _ => rfl, rfl⟩
  -- the reference's store ahead of the pace
  have c33 : (mdC (mdB (mdA B (nI q)))).1 21 33 = nI q := by simp [mdC, mdB, mdA, puI_at]
  have c34 : (mdC (mdB (mdA B (nI q)))).1 21 34 = 1 := by simp [mdC, mdB, mdA, puI_at]
  have c35 : (mdC (mdB (mdA B (nI q)))).1 21 35 = b2I e := by simp [mdC, mdB, mdA, puI_at, g5]
  have c32 : (mdC (mdB (mdA B (nI q)))).1 21 32 = nI a := by simp [mdC, mdB, mdA, puI_at, g2]
  have c36 : (mdC (mdB (mdA B (nI q)))).1 21 36 = B.1 21 36 := by simp [mdC, mdB, mdA, puI_at]
  have c30 : (mdC (mdB (mdA B (nI q)))).1 21 30 = nI mm := by simp [mdC, mdB, mdA, puI_at, h2]
  have c29 : (mdC (mdB (mdA B (nI q)))).1 21 29 = nI aa := by simp [mdC, mdB, mdA, puI_at, h4]
  have c31 : (mdC (mdB (mdA B (nI q)))).1 21 31 = B.1 21 31 + (if b2I e = 0 then 1 else 0) := by simp [mdC, mdB, mdA, puI_at, g5]
  have c37 : (mdC (mdB (mdA B (nI q)))).1 21 37 = if b2I e = 0 then (if nI q ≤ B.1 21 36 then 0 else 1) else 0 := by simp [mdC, mdB, mdA, puI_at, g5]
  have kk : ∀ k, k ≠ 29 → k ≠ 30 → (mdF B (nI q)).1 21 k = (mdC (mdB (mdA B (nI q)))).1 21 k := fun k n1 n2 => by
    unfold mdF
    rw [krM_k n1 n2]
  refine ⟨?_, hA, hB, ?_⟩
  · cases e with
    | true =>
      right
      left
      refine ⟨?_, ?_⟩
      · unfold rrF
        rw [if_neg (by rw [g4]; decide), g4]; rfl
      · rw [kk 35 (by decide) (by decide), c35]; rfl
    | false =>
      have e7 : A.1 17 7 = 0 := g4
      have e4 : (puI A 17 6 (A.1 17 6 + 1)).1 17 4 = B.1 21 36 := by rw [puI_at, if_neg (by decide), hl]
      by_cases z : nI q ≤ B.1 21 36
      · left
        have er : rrF A (nI q) = pacN_19 (puI (puI A 17 6 (A.1 17 6 + 1)) 17 5 (nI q)) (nI q) := by
          unfold rrF
          rw [if_pos e7, e4, if_pos z]
        rw [er]
        obtain ⟨mm', aa', p1, p2, p3, p4, p5, p6, p7⟩ := pace_eq (A := puI (puI A 17 6 (A.1 17 6 + 1)) 17 5 (nI q)) (B := mdC (mdB (mdA B (nI q)))) (mm := mm) (aa := aa) (q := q) (by rw [puI_at, if_neg (by decide), puI_at, if_neg (by decide), h1]) c30 (by rw [puI_at, if_neg (by decide), puI_at, if_neg (by decide), h3]) c29 m2 (by omega) hq
        have md : mdF B (nI q) = krM (mdC (mdB (mdA B (nI q)))) (nI q) := by
          unfold mdF
          rw [c33]
        refine ⟨⟨a, mm', aa', ⟨?_, ?_, g3, ?_, ?_⟩, ?_, ?_, Or.inr ⟨?_, ?_, q, hq, ?_, ?_⟩, ⟨p1, by rw [md]; exact p2, p3, by rw [md]; exact p4⟩, p5, p6, by omega⟩, ?_⟩
        · rw [pac_k (by decide), puI_at, if_neg (by decide), puI_at, if_neg (by decide), g1]
        · rw [kk 32 (by decide) (by decide), c32]
        · rw [pac_k (by decide), puI_at, if_neg (by decide), puI_at, if_neg (by decide), g4]
        · rw [kk 35 (by decide) (by decide), c35]
        · rw [kk 37 (by decide) (by decide), c37, if_pos (show b2I false = 0 from rfl), if_pos z]
        · rw [pac_k (by decide), puI_at, if_neg (by decide), e4, kk 36 (by decide) (by decide), c36]
        · rcases ha with h | h
          · exact h
          · cases h
        · rw [kk 34 (by decide) (by decide), c34]
        · rw [pac_k (by decide), puI_s]
        · rw [kk 33 (by decide) (by decide), c33]
        · rw [pac_k (by decide), puI_s]
          intro h9
          have h8 : (nI q).toInt = (-1 : Int32).toInt := by rw [h9]
          rw [nI_toInt (by omega), show (-1 : Int32).toInt = -1 from rfl] at h8
          omega
      · right
        right
        refine ⟨?_, ?_, ?_⟩
        · unfold rrF
          rw [if_pos e7, e4, if_neg z, puI_s]
        · rw [kk 35 (by decide) (by decide), c35]; rfl
        · rw [kk 37 (by decide) (by decide), c37, if_pos (show b2I false = 0 from rfl), if_neg z]
  · rw [kk 31 (by decide) (by decide), c31]
    cases e with
    | true =>
      unfold rrF
      rw [if_neg (by rw [g4]; decide), hr, if_neg (by decide), Int32.add_zero]
    | false =>
      unfold rrF
      rw [if_pos (show A.1 17 7 = 0 from g4), if_pos (show b2I false = 0 from rfl)]
      split
      · rw [pac_k (by decide), puI_at, if_neg (by decide), puI_s, hr]
      · rw [puI_at, if_neg (by decide), puI_s, hr]
theorem run_eq {cm t : Nat} {A B : St} (hB : Byt cm A B) (ht : t ≤ 1600) (H : Liv cm t A B) (hh : A.1 17 5 = -1) (hr : A.1 17 6 = B.1 21 31) :
    (Liv cm (t + 1) (rrS A) (mdS B) ∧ ¬ (rrS A).1 17 5 = -1 ∨ Ref (rrS A) (mdS B)) ∧ runA A (rrS A) ∧ runB B (mdS B) ∧ (rrS A).1 17 6 = (mdS B).1 21 31 := by
  obtain ⟨a, mm, aa, h1, h2, h3, h4, ⟨h5, h6, h7, h8⟩, m1, m2, ha⟩ := H
  obtain ⟨a1, e1, k1, k2, k3, k4, k5, k6, -⟩ := rd_ones 12 a false A B hB h1
  have hL : lkM B = lowK (A.1 19 1) (A.1 19 0) 8 0 := by
    unfold lkM
    rw [h6, h8, h5, h7]
  have hk8 : lowK (A.1 19 1) (A.1 19 0) 8 0 ≤ 8 := lowK_le _ _ 8 0
  have key : ∀ (n : Nat), n ≤ 13 → ∀ (u : Nat → Nat), (∀ x, x < 2 ^ n → u x < 2 ^ 13) → ∃ x, x < 2 ^ n ∧ rdV (onS 12 A) n = nI x ∧ rsV (moN 12 B) n = nI x ∧ (∀ (T : St) (U : St), T = rrF (rdS (onS 12 A) n) (nI (u x)) → U = mdF (rsS (moN 12 B) n) (nI (u x)) → (Liv cm (t + 1) T U ∧ ¬ T.1 17 5 = -1 ∨ Ref T U) ∧ runA A T ∧ runB B U ∧ T.1 17 6 = U.1 21 31) := by
    intro n hn u hu
    obtain ⟨a2, e2, x, g1, g2, g3, g4, g5, g6, g7, g8⟩ := rd_num (hB.rd k2 k3) k1 n hn
    refine ⟨x, g6, g4, g5, fun T U hT hU => ?_⟩
    have fA := rdA_t k2 g2
    have fB := rdB_t k3 g3
    have hfin := run_fin (t := t) (mm := mm) (aa := aa) (q := u x) g1 (hu x g6) ht (by rcases k6 with z | z | z; exact absurd z (by decide); exact Or.inl (by omega); exact Or.inr (g8 z)) (by rw [fA.1 17 4 (by decide), fB.1 21 36 (by decide), h3]) (by rw [fA.1 17 5 (by decide), hh]) (by rw [fA.1 17 6 (by decide), fB.1 21 31 (by decide), hr]) (by rw [fA.1 19 1 (by omega), h5]) (by rw [fB.1 21 30 (by decide), h6]) (by rw [fA.1 19 0 (by omega), h7]) (by rw [fB.1 21 29 (by decide), h8]) m1 m2 ha
    rw [hT, hU]
    exact ⟨hfin.1, fA.w.t hfin.2.1, fB.w.t hfin.2.2.1, hfin.2.2.2⟩
  unfold rrS mdS rrE mdE
  rw [hL, ← k4]
  generalize hK : lowK (A.1 19 1) (A.1 19 0) 8 0 = K at *
  by_cases z : onC 12 A = 12
  · rw [z, if_pos (show 12 ≤ nI 12 by decide), if_pos (show nI 12 = 12 from rfl)]
    obtain ⟨x, x1, x2, x3, x4⟩ := key 13 (Nat.le_refl _) (fun y => y) (fun y hy => hy)
    rw [x2, x3]
    exact x4 _ _ rfl rfl
  · rw [if_neg (show ¬ 12 ≤ nI (onC 12 A) from nI_ge (b := 12) (by omega) (by decide)), if_neg (show ¬ nI (onC 12 A) = 12 from fun y => z ((nI_eq (by omega) (by decide)).mp y))]
    have hp8 : 2 ^ K ≤ 2 ^ 8 := Nat.pow_le_pow_right (by decide) hk8
    obtain ⟨x, x1, x2, x3, x4⟩ := key K (by omega) (fun y => onC 12 A * 2 ^ K + y) (fun y hy => by
      have : onC 12 A * 2 ^ K ≤ 12 * 2 ^ 8 := Nat.mul_le_mul k5 hp8
      show onC 12 A * 2 ^ K + y < 2 ^ 13
      omega)
    rw [x2, x3, on_or _ (by omega) _ (by omega), or_low x1 hk8 k5, nI_add]
    exact x4 _ _ rfl rfl
