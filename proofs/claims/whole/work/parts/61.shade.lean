/-- what is no part of the relation may change -/
theorem Rl.mvw {h w : Nat} {A B A' B' : St} (H : Rl h w A B) (a : ∀ o k, o ≤ 18 → o ≠ 10 → o ≠ 16 → (o = 14 → k = 2) → (o = 17 → k = 2) → A'.1 o k = A.1 o k) (a2 : ∀ k, A'.2 6 k = A.2 6 k) (b : ∀ o k, 21 ≤ o → o ≤ 29 → ¬ (o = 21 ∧ (k = 0 ∨ k = 29 ∨ k = 30 ∨ 32 ≤ k)) → B'.1 o k = B.1 o k) : Rl h w A' B' := by
  obtain ⟨pw, ph, m, c, r, h1, h2, h3, h4, h5, h6, h7, h8, h9, h10, h11, h12⟩ := H
  refine ⟨pw, ph, m, c, r, h1.mv ?_ ?_, h2.mv ?_ ?_, h3.mv ?_ ?_, h4.mv ?_ ?_, h5.mv a2 ?_, h6.mv ?_ ?_, h7.mv ?_ ?_, h8.mv ?_ ?_, h9.mv ?_ ?_, h10.mv ?_ ?_ ?_ ?_, h11.mv ?_ ?_ ?_ ?_, h12.mv ?_ ?_ ?_ ?_⟩
  all_goals (first | (intro o k e; exact a o k (by omega) (by omega) (by omega) (by omega) (by omega)) | (intro k; exact a _ k (by decide) (by decide) (by decide) (by omega) (by omega)) | (intro k; exact b _ k (by decide) (by decide) (by omega)) | (intro k e; exact b _ k (by decide) (by decide) (by omega)) | (intro k e1 e2; exact a _ k (by decide) (by decide) (by decide) (by omega) (by omega)) | (intro k e1 e2; exact b _ k (by decide) (by decide) (by omega)) | exact a _ _ (by decide) (by decide) (by decide) (by omega) (by omega) | exact b _ _ (by decide) (by decide) (by decide))
/-! the nearest pattern -/
theorem dk_eq {A B : St} (H : Rcel A B) {k : Nat} (hk : k < 64) : ∃ D, D ≤ 64 ∧ bcL (A.2 6 k) = nI D ∧ dkM B k = nI D := by
  refine ⟨sm (fun i => b2N (bL9 (A.2 6 k) i)) 64, ?_, bcL_sm _, ?_⟩
  · have := sm_le (f := fun i => b2N (bL9 (A.2 6 k) i)) (b := 1) 64 (fun i _ => by unfold b2N; split <;> omega)
    omega
  · rw [← nF_sm]
    unfold dkM
    apply nF_congr
    intro i t hi
    unfold dkF
    rw [H.1 k i hk hi]
    congr 1
    cases bL9 (A.2 6 k) i <;> decide
theorem sub_i {a b : Nat} (ha : a ≤ 64) (hb : b ≤ 64) : (nI a - nI b).toInt = (a : Int) - b := by
  rw [Int32.toInt_sub, nI_toInt (by omega), nI_toInt (by omega)]
  exact Int.bmod_eq_of_le (by omega) (by omega)
theorem fa_i {A : St} {p D e : Nat} (hp : p < 64) (hD : D ≤ 64) (he : e ≤ 64) (h : bcL (A.2 6 p) = nI D) : (faB A (nI p) (nI e)).toInt = if (D : Int) - e ≤ 0 then -2 * ((D : Int) - e) else 2 * ((D : Int) - e) + 1 := by
  unfold faB
  rw [nI_clamp (by omega), h]
  have z0 : (0 : Int32).toInt = 0 := rfl
  have es := sub_i hD he
  by_cases h1 : (D : Int) - e ≤ 0
  · rw [if_pos (by rw [Int32.le_iff_toInt_le, es, z0]; exact h1), if_pos h1, Int32.toInt_mul, es, show (-2 : Int32).toInt = -2 from rfl]
    exact Int.bmod_eq_of_le (by omega) (by omega)
  · rw [if_neg (by rw [Int32.le_iff_toInt_le, es, z0]; exact h1), if_neg h1, Int32.toInt_add, Int32.toInt_mul, es, show (2 : Int32).toInt = 2 from rfl, show (1 : Int32).toInt = 1 from rfl, Int.bmod_eq_of_le (n := 2 * ((D : Int) - e)) (by omega) (by omega)]
    exact Int.bmod_eq_of_le (by omega) (by omega)
theorem aw_i {D e : Nat} (hD : D ≤ 64) (he : e ≤ 64) : (awM (nI D) (nI e)).toInt = if e ≤ D then (D : Int) - e else (e : Int) - D := by
  unfold awM
  by_cases h : e ≤ D
  · rw [if_pos (nI_le h (by omega)), if_pos h, sub_i hD he]
  · rw [if_neg (nI_ge (by omega) (by omega)), if_neg h, sub_i he hD]
theorem near_eq {A B : St} (H : Rcel A B) {e : Nat} (he : e ≤ 64) (m : Nat) (hm : m < 64) : neB A (nI e) m = nrM B (nI e) m ∧ nrM B (nI e) m ≤ m := by
  induction m with
  | zero => exact ⟨rfl, Nat.le_refl _⟩
  | succ m ih =>
    obtain ⟨e1, e2⟩ := ih (by omega)
    have en : neB A (nI e) (m + 1) = if faB A (nI (neB A (nI e) m)) (nI e) ≤ faB A (nI (m + 1)) (nI e) then neB A (nI e) m else m + 1 := rfl
    have er : nrM B (nI e) (m + 1) = nrF B (nI e) m (nrM B (nI e) m) := rfl
    rw [en, er, e1]
    clear en er e1
    generalize nrM B (nI e) m = b at *
    obtain ⟨D1, d1, f1, g1⟩ := dk_eq H (k := b) (by omega)
    obtain ⟨D2, d2, f2, g2⟩ := dk_eq H (k := m + 1) hm
    have a1 := fa_i (p := b) (by omega) d1 he f1
    have a2 := fa_i (p := m + 1) hm d2 he f2
    have w1 := aw_i d1 he
    have w2 := aw_i d2 he
    unfold nrF
    rw [g1, g2]
    have c1 : (faB A (nI b) (nI e) ≤ faB A (nI (m + 1)) (nI e)) ↔ (faB A (nI b) (nI e)).toInt ≤ (faB A (nI (m + 1)) (nI e)).toInt := Int32.le_iff_toInt_le
    have c2 : (awM (nI D2) (nI e) < awM (nI D1) (nI e)) ↔ (awM (nI D2) (nI e)).toInt < (awM (nI D1) (nI e)).toInt := Int32.lt_iff_toInt_lt
    have c3 : (awM (nI D2) (nI e) = awM (nI D1) (nI e)) ↔ (awM (nI D2) (nI e)).toInt = (awM (nI D1) (nI e)).toInt := Int32.toInt_inj.symm
    have c4 : (nI D1 ≤ nI D2) ↔ D1 ≤ D2 := nI_leI (by omega) (by omega)
    rw [a1, a2] at c1
    rw [w1, w2] at c2 c3
    simp only [c1, c2, c3, c4]
    constructor
    · repeat' split
      all_goals first | rfl | omega
    · repeat' split
      all_goals omega
theorem shN_f {A : St} {m : Nat} (n : Nat) : (∀ o k, o ≠ 20 → (shN A m n).1 o k = A.1 o k) ∧ (shN A m n).2 = A.2 ∧ ∀ d, d < n → (shN A m n).1 20 d = nI (neB A (nI d) m) := by
  induction n with
  | zero => exact ⟨fun _ _ _ => rfl, rfl, fun d hd => by omega⟩
  | succ n ih =>
    obtain ⟨e1, e2, e3⟩ := ih
    have es : shN A m (n + 1) = puI (shN A m n) 20 n (nI (neB (shN A m n) (nI n) m)) := rfl
    rw [es]
    refine ⟨fun o k ho => ?_, e2, fun d hd => ?_⟩
    · rw [puI_at, if_neg (by omega), e1 o k ho]
    · have ne : ∀ S : St, S.2 = A.2 → ∀ q, neB S (nI n) q = neB A (nI n) q := by
        intro S hS q
        induction q with
        | zero => rfl
        | succ q ihq =>
          show (if faB S (nI (neB S (nI n) q)) (nI n) ≤ faB S (nI (q + 1)) (nI n) then neB S (nI n) q else q + 1) = (if faB A (nI (neB A (nI n) q)) (nI n) ≤ faB A (nI (q + 1)) (nI n) then neB A (nI n) q else q + 1)
          rw [ihq]
          unfold faB
          rw [hS]
      rw [puI_at, ne _ e2]
      by_cases h1 : d = n
      · rw [if_pos ⟨rfl, h1⟩, h1]
      · rw [if_neg (fun z => h1 z.2)]; exact e3 d (by omega)
theorem nr_24 {S T : St} (h : S.1 24 = T.1 24) {c : Int32} (m : Nat) : nrM S c m = nrM T c m := by
  have e : ∀ k, dkM S k = dkM T k := fun k => by unfold dkM dkF; rw [h]
  unfold nrM
  apply nF_congr
  intro i t hi
  unfold nrF
  rw [e, e]
def shI (h w : Nat) (B0 : St) (m : Nat) (c r : Nat) (x y : St × Int32) : Prop := Rl h w x.1 y.1 ∧ x.2 = y.2 ∧ y.1.1 24 = B0.1 24 ∧ (y.1.1 21 7 = nI (m + 1) ∧ y.1.1 21 9 = nI c ∧ y.1.1 21 10 = nI r) ∧ ∀ d, d ≤ 64 → x.1.1 20 d = nI (nrM B0 (nI d) m) ∧ nrM B0 (nI d) m ≤ m
theorem sh_step {h w m c r i j : Nat} {B0 : St} {x y : St × Int32} (hm : m < 64) (hc : c ≤ 16) (hr : r ≤ 16) (hi : i < c) (hj : j < r) (H : shI h w B0 m c r x y) : shI h w B0 m c r (shF h i j x) (smF m i j y) := by
  obtain ⟨R, e1, e2, ⟨e3, e4, e5⟩, e6⟩ := H
  obtain ⟨N, hN, f1, f2⟩ := count_eq R (i := nI i) (j := nI j)
  obtain ⟨g1, g2⟩ := e6 N hN
  have hw : ¬ wi (nI N) 0 (nI 65 - 1) = 0 := wi_ok (by omega) (by decide)
  have hsh : shF h i j x = (cgS x.1 (nI i) (nI j) (nI (nrM B0 (nI N) m)), if cgR x.1 (nI i) (nI j) (nI (nrM B0 (nI N) m)) = 0 then x.2 else x.2 + 1) := by
    unfold shF shG
    rw [f1, if_neg hw, nI_clamp (by omega), g1]
  have hsm : smF m i j y = (puI y.1 25 (16 * j + i) (nI (nrM B0 (nI N) m)), y.2 + (if y.1.1 25 (16 * j + i) = nI (nrM B0 (nI N) m) then 0 else 1)) := by
    unfold smF
    rw [f2, nr_24 e2]
  rw [hsh, hsm]
  have R' := R
  obtain ⟨pw, ph, m', c', r', h1, h2, h3, h4, h5, h6, h7, -⟩ := R'
  have hp : ¬ hpM y.1 (nI i) (nI j) = 0 := by
    rw [hp_of e4 e5 hc hr (by omega) (by omega), if_pos ⟨hi, hj⟩]; decide
  have hv : ¬ wi (nI (nrM B0 (nI N) m)) 0 (y.1.1 21 7 - 1) = 0 := by
    rw [e3]; exact wi_ok (by omega) (by omega)
  refine ⟨?_, ?_, ?_, ⟨?_, ?_, ?_⟩, fun d hd => ?_⟩
  · have := q_grey R hp hv
    rw [at_16 (by omega) (by omega)] at this
    refine this.mv (fun o k _ => rfl) (fun k => rfl) (fun o k _ hk => ?_)
    rw [puI_at, puI_at, puI_at]
    by_cases z : o = 25 ∧ k = 16 * j + i
    · rw [if_pos z, if_pos z]
    · rw [if_neg z, if_neg z, if_neg hk]
  · dsimp only
    have ec : cgR x.1 (nI i) (nI j) (nI (nrM B0 (nI N) m)) = if y.1.1 25 (16 * j + i) = nI (nrM B0 (nI N) m) then 0 else 1 := by
      unfold cgR
      rw [if_neg (plc_of (by omega) (by omega)).2, (plc_of (by omega) (by omega)).1, nI_clamp (by omega), (h7 (16 * j + i) (by omega)).1]
    rw [ec, e1]
    by_cases z : y.1.1 25 (16 * j + i) = nI (nrM B0 (nI N) m)
    · simp [z]
    · simp [z]
  · dsimp only
    rw [← e2]
    funext k
    rw [puI_at, if_neg (by omega)]
  · dsimp only
    rw [puI_at, if_neg (by omega), e3]
  · dsimp only
    rw [puI_at, if_neg (by omega), e4]
  · dsimp only
    rw [puI_at, if_neg (by omega), e5]
  · dsimp only
    rw [← (e6 d hd).1]
    refine ⟨?_, (e6 d hd).2⟩
    unfold cgS
    split
    · rfl
    · rw [puI_at, if_neg (by omega)]
theorem q_shade {h w c r m : Nat} {A B : St} (H : Rl h w A B) (hm : B.1 21 7 = nI (m + 1)) (hm2 : m < 64) (hc : B.1 21 9 = nI c) (hr : B.1 21 10 = nI r) (hc2 : c ≤ 16) (hr2 : r ≤ 16) : Rl h w (shH A h c r m).1 (smM B c r m).1 ∧ (shH A h c r m).2 = (smM B c r m).2 := by
  have H5 : Rcel A B := by
    obtain ⟨pw, ph, m', c', r', h1, h2, h3, h4, h5, -⟩ := H
    exact h5
  have key : shI h w B m c r (shH A h c r m) (smM B c r m) := by
    unfold shH smM
    refine pO_rel0 (R := shI h w B m c r) r (fun i j x y hi hj hR => sh_step hm2 hc2 hr2 hi hj hR) ⟨?_, rfl, ?_, ⟨?_, ?_, ?_⟩, fun d hd => ?_⟩
    · refine H.mvw (fun o k ho _ _ _ _ => ?_) (fun k => ?_) (fun o k ho _ hk => ?_)
      · exact (shN_f 65).1 o k (by omega)
      · rw [(shN_f 65).2.1]
      · rw [puI_at, if_neg (by omega)]
    · rfl
    · exact hm
    · exact hc
    · exact hr
    · rw [(shN_f 65).2.2 d (by omega), (near_eq H5 hd m hm2).1]
      exact ⟨rfl, (near_eq H5 hd m hm2).2⟩
  exact ⟨key.1, key.2.1⟩
theorem sh_fr {A : St} {h c r m : Nat} : ∀ o k, 21 ≤ o → (shH A h c r m).1.1 o k = A.1 o k := by
  intro o k ho
  unfold shH
  have := pO_iv (f := shF h) (I := fun x : St × Int32 => x.1.1 o k = A.1 o k) (c := c) r (s := (shN A m 65, 0)) (fun i j t _ _ e => by
    unfold shF shG
    split
    · exact e
    · dsimp only
      unfold cgS
      split
      · exact e
      · rw [puI_at, if_neg (by omega)]; exact e) ((shN_f 65).1 o k (by omega))
  exact this
