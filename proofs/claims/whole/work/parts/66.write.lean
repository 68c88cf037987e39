/-! bits that are written, runs that end -/
theorem bI_b8 {x : Int32} {k : Nat} (h : k < 8) : bI9 x.toInt8.toInt32 k = bI9 x k := by
  unfold bI9
  rw [Int8.toBitVec_toInt32, Int32.toBitVec_toInt8, BitVec.getLsbD_signExtend, BitVec.getLsbD_signExtend]
  have h1 : k < 32 := by omega
  simp [h, h1]
theorem and_7 {n : Nat} (h : n < 2 ^ 31) : nI n &&& 7 = nI (n % 8) := by
  apply eqI
  intro i hi
  rw [bI_and, bI_nI, bI_nI, show (7 : Int32) = nI 7 from rfl, bI_nI, show 7 = 2 ^ 3 - 1 from rfl, Nat.testBit_two_pow_sub_one, show 8 = 2 ^ 3 from rfl, Nat.testBit_mod_two_pow]
  simp [hi, Bool.and_comm]
theorem sub_7 {n : Nat} (h : n ≤ 7) : (7 : Int32) - nI n = nI (7 - n) := by
  have : ∀ n, n < 8 → (7 : Int32) - nI n = nI (7 - n) := by decide
  exact this n (by omega)
def Rwb (nb : Nat) (A B : St) : Prop := A.1 14 2 = nI nb ∧ B.1 21 20 = nI nb ∧ (∀ n, n < nb → B.1 26 n = b2I (bI9 (A.1 15 (n / 8)) (7 - n % 8))) ∧ ∀ n, nb ≤ n → n < 3072 → bI9 (A.1 15 (n / 8)) (7 - n % 8) = false
theorem Rwb.mv {nb : Nat} {A B A' B' : St} (H : Rwb nb A B) (a : A'.1 14 2 = A.1 14 2) (a2 : ∀ k, A'.1 15 k = A.1 15 k) (b : B'.1 21 20 = B.1 21 20) (b2 : ∀ k, B'.1 26 k = B.1 26 k) : Rwb nb A' B' := by
  have a' : A'.1 15 = A.1 15 := funext a2
  have b' : B'.1 26 = B.1 26 := funext b2
  unfold Rwb
  rw [a, a', b, b']
  exact H
theorem wr_v {A : St} {nb n : Nat} {v : Int32} (h : A.1 14 2 = nI nb) (hb : nb < 3072) (hn : n < 32) : wr1 A v (nI n) = puI (puI A 15 (nb / 8) (A.1 15 (nb / 8) ||| (b2I (bI9 v n)) <<< (nI (7 - nb % 8) &&& 31)).toInt8.toInt32) 14 2 (nI (nb + 1)) := by
  unfold wr1
  have e1 : nI nb >>> (3 &&& 31) = nI (nb / 8) := shr_k (r := nb) (by omega) 3 (by decide)
  rw [h, e1, if_neg (wi_ok (by omega) (by decide)), nI_clamp (by omega), bit1 hn, and_7 (by omega), sub_7 (by omega), nar_byte, nI_1]
theorem mw_v {B : St} {nb n : Nat} {v : Int32} (h : B.1 21 20 = nI nb) (hb : nb < 3072) (hn : n < 32) : mw1 B v (nI n) = puI (puI B 26 nb (b2I (bI9 v n))) 21 20 (nI (nb + 1)) := by
  unfold mw1
  rw [h, nI_clamp (by omega), bit1 hn, nI_1]
  have : vp_nar .boolean (if b2I (bI9 v n) = 1 then 1 else 0) = b2I (bI9 v n) := by
    cases bI9 v n <;> decide +kernel
  rw [this]
theorem w_one {A B : St} {nb n n' : Nat} {v v' : Int32} (H : Rwb nb A B) (hb : nb < 3072) (hn : n < 32) (hn' : n' < 32) (hv : bI9 v n = bI9 v' n') : Rwb (nb + 1) (wr1 A v (nI n)) (mw1 B v' (nI n')) := by
  obtain ⟨a1, b1, g1, g2⟩ := H
  rw [wr_v a1 hb hn, mw_v b1 hb hn', ← hv]
  have eb : ∀ k i, i < 8 → bI9 ((puI (puI A 15 (nb / 8) (A.1 15 (nb / 8) ||| (b2I (bI9 v n)) <<< (nI (7 - nb % 8) &&& 31)).toInt8.toInt32) 14 2 (nI (nb + 1))).1 15 k) i = if k = nb / 8 ∧ i = 7 - nb % 8 then (bI9 (A.1 15 k) i || bI9 v n) else bI9 (A.1 15 k) i := by
    intro k i hi
    rw [puI_at, if_neg (by omega), puI_at]
    by_cases e : k = nb / 8
    · rw [if_pos ⟨rfl, e⟩, bI_b8 hi, bI_or, bI_shl (by omega), e]
      by_cases e2 : i = 7 - nb % 8
      · rw [if_pos ⟨rfl, e2⟩, e2]
        have h3 : 7 - nb % 8 < 32 := by omega
        rw [Nat.sub_self]
        cases bI9 v n <;> simp [b2I, bI_1, bI_0, h3]
      · rw [if_neg (fun z => e2 z.2)]
        by_cases e3 : i < 7 - nb % 8
        · simp [e3]
        · have h4 : ¬ i - (7 - nb % 8) = 0 := by omega
          cases bI9 v n <;> simp [b2I, bI_1, bI_0, h4]
    · rw [if_neg (fun z => e z.2), if_neg (fun z => e z.1)]
  refine ⟨puI_s, puI_s, fun q hq => ?_, fun q hq hq2 => ?_⟩
  · rw [eb _ _ (by omega), puI_at, if_neg (by omega), puI_at]
    by_cases e : q = nb
    · subst e
      rw [if_pos ⟨rfl, rfl⟩, if_pos ⟨rfl, rfl⟩, g2 q (Nat.le_refl _) hb, Bool.false_or]
    · rw [if_neg (fun z => e z.2), if_neg (by omega), g1 q (by omega)]
  · rw [eb _ _ (by omega), if_neg (by omega)]
    exact g2 q (by omega) hq2
theorem wr_f {A : St} {v b : Int32} : ∀ o k, ¬ (o = 15 ∨ (o = 14 ∧ k = 2)) → (wr1 A v b).1 o k = A.1 o k := by
  intro o k hn
  unfold wr1
  split
  · rfl
  · rw [puI_at, if_neg (by omega), puI_at, if_neg (by omega)]
theorem wr_2 {A : St} {v b : Int32} : (wr1 A v b).2 = A.2 := by
  unfold wr1
  split <;> rfl
theorem wrS_f {v : Int32} : ∀ (n : Nat) (A : St) (o k : Nat), ¬ (o = 15 ∨ (o = 14 ∧ k = 2)) → (wrS v n A).1 o k = A.1 o k
  | 0, _, _, _, _ => rfl
  | n + 1, A, o, k, hn => (wrS_f n (wr1 A v (nI n)) o k hn).trans (wr_f o k hn)
theorem wrS_2 {v : Int32} : ∀ (n : Nat) (A : St), (wrS v n A).2 = A.2
  | 0, _ => rfl
  | n + 1, A => (wrS_2 n (wr1 A v (nI n))).trans wr_2
theorem w_same {v : Int32} : ∀ (n nb : Nat) (A B : St), n ≤ 31 → nb + n ≤ 3072 → Rwb nb A B → Rwb (nb + n) (wrS v n A) (mwS v n B)
  | 0, _, _, _, _, _, H => H
  | n + 1, nb, A, B, hn, hb, H => by
    have h1 := w_one (n := n) (n' := n) (v := v) (v' := v) H (by omega) (by omega) (by omega) rfl
    have h2 := w_same (v := v) n (nb + 1) _ _ (by omega) (by omega) h1
    rw [show nb + (n + 1) = nb + 1 + n by omega]
    exact h2
/-- as many ones as q says, then a zero -/
theorem w_unary {q : Nat} (hq : q < 12) : ∀ (t nb : Nat) (A B : St), t ≤ q → nb + t + 1 ≤ 3072 → Rwb nb A B → Rwb (nb + t + 1) (wrS (((1 <<< (nI q &&& 31)) - 1) <<< (1 &&& 31)) (t + 1) A) (mwS 0 1 (moS t B)) := by
  have hbit : ∀ i, i < 32 → bI9 (((1 <<< (nI q &&& 31)) - 1) <<< (1 &&& 31)) i = (decide (0 < i) && decide (i < q + 1)) := by
    intro i hi
    show bI9 (((1 <<< (nI q &&& 31)) - 1) <<< (nI 1 &&& 31)) i = _
    rw [bI_shl (by decide), bI_ones (by omega)]
    by_cases h0 : i = 0
    · subst h0; simp
    · have h1 : ¬ i < 1 := by omega
      have h2 : 0 < i := by omega
      simp only [hi, h1, h2, decide_true, decide_false, Bool.not_false, Bool.true_and]
      congr 1
      apply propext
      omega
  have moS_sw : ∀ (t : Nat) (B : St), moS t (mwS 1 1 B) = mwS 1 1 (moS t B) := by
    intro t
    induction t with
    | zero => intro B; rfl
    | succ t ih => intro B; show mwS 1 1 (moS t (mwS 1 1 B)) = _; rw [ih]; rfl
  intro t
  induction t with
  | zero =>
    intro nb A B _ hb H
    exact w_one (n := 0) (n' := 0) H (by omega) (by decide) (by decide) (by rw [hbit 0 (by decide)]; rfl)
  | succ t ih =>
    intro nb A B ht hb H
    have h1 := w_one (A := A) (B := B) (n := t + 1) (n' := 0) (v := (((1 <<< (nI q &&& 31)) - 1) <<< (1 &&& 31))) (v' := 1) H (by omega) (by omega) (by decide) (by
      rw [hbit _ (by omega), bI_1]
      have h2 : t + 1 < q + 1 := by omega
      simp [h2])
    have h2 := ih (nb + 1) _ _ (by omega) (by omega) h1
    have e : mwS 0 1 (moS (t + 1) B) = mwS 0 1 (moS t (mw1 B 1 (nI 0))) := by
      show mwS 0 1 (mwS 1 1 (moS t B)) = mwS 0 1 (moS t (mwS 1 1 B))
      rw [moS_sw]
    rw [e, show nb + (t + 1) + 1 = nb + 1 + t + 1 by omega]
    exact h2
theorem shl_n {m i : Nat} (hm : m ≤ 31) (hi : i ≤ 8) : nI m <<< (nI i &&& 31) = nI (m * 2 ^ i) := by
  have : ∀ m, m < 32 → ∀ i, i < 9 → nI m <<< (nI i &&& 31) = nI (m * 2 ^ i) := by decide +kernel
  exact this m (by omega) i (by omega)
theorem low_wb {m a : Nat} (hm : m ≤ 31) (ha : a < 2 ^ 31) : wb_k m a (lowK (nI m) (nI a) 8 0) := by
  have key : ∀ f i, i + f = 8 → (∀ j, j < i → m * 2 ^ j < a) → wb_k m a (lowK (nI m) (nI a) f i) := by
    intro f
    induction f with
    | zero =>
      intro i hi hj
      have : i = 8 := by omega
      subst this
      exact ⟨Nat.le_refl _, hj, fun z => absurd z (Nat.lt_irrefl _)⟩
    | succ f ih =>
      intro i hi hj
      have hp : m * 2 ^ i < 2 ^ 31 := by
        have h1 : 2 ^ i ≤ 2 ^ 8 := Nat.pow_le_pow_right (by decide) (by omega)
        have h2 : m * 2 ^ i ≤ 31 * 2 ^ 8 := Nat.mul_le_mul hm h1
        omega
      unfold lowK
      rw [shl_n hm (by omega)]
      by_cases h : nI a ≤ nI (m * 2 ^ i)
      · rw [if_pos h]
        exact ⟨by omega, hj, fun _ => (nI_leI ha hp).mp h⟩
      · rw [if_neg h]
        apply ih (i + 1) (by omega)
        intro j hj2
        by_cases e : j = i
        · subst e
          exact Nat.lt_of_not_le (fun z => h ((nI_leI ha hp).mpr z))
        · exact hj j (by omega)
  exact key 8 0 rfl (fun j hj => by omega)
def EnW (dt run : Nat) (A B : St) : Prop := ∃ nb mm aa, Rwb nb A B ∧ (A.1 16 1 = nI mm ∧ B.1 21 30 = nI mm ∧ A.1 16 0 = nI aa ∧ B.1 21 29 = nI aa) ∧ (1 ≤ mm ∧ mm ≤ 31 ∧ aa + run ≤ 4 + dt) ∧ A.1 14 3 = nI run ∧ A.1 14 4 = B.1 21 31 ∧ 3200 * nb + (wb_ph mm aa + 3200 * wb_ps mm) + 6272 * run ≤ 6272 * dt + 147484
theorem EnW.mv {dt run : Nat} {A B A' B' : St} (H : EnW dt run A B) (a : ∀ k, 2 ≤ k → k ≤ 4 → A'.1 14 k = A.1 14 k) (a2 : ∀ k, A'.1 15 k = A.1 15 k) (a3 : ∀ k, A'.1 16 k = A.1 16 k) (b : ∀ k, k = 20 ∨ k = 29 ∨ k = 30 ∨ k = 31 → B'.1 21 k = B.1 21 k) (b2 : ∀ k, B'.1 26 k = B.1 26 k) : EnW dt run A' B' := by
  obtain ⟨nb, mm, aa, h1, ⟨h2, h3, h4, h5⟩, h6, h7, h8, h9⟩ := H
  refine ⟨nb, mm, aa, h1.mv (a 2 (by decide) (by decide)) a2 (b 20 (by decide)) b2, ⟨?_, ?_, ?_, ?_⟩, h6, ?_, ?_, h9⟩
  · rw [a3, h2]
  · rw [b 30 (by decide), h3]
  · rw [a3, h4]
  · rw [b 29 (by decide), h5]
  · rw [a 3 (by decide) (by decide), h7]
  · rw [a 4 (by decide) (by decide), b 31 (by decide), h8]
theorem en_ok {dt run : Nat} {A B : St} (H : EnW dt run A B) : EnW (dt + 1) (run + 1) (puI A 14 3 (A.1 14 3 + 1)) B := by
  obtain ⟨nb, mm, aa, h1, ⟨h2, h3, h4, h5⟩, ⟨h6, h10, h11⟩, h7, h8, h9⟩ := H
  refine ⟨nb, mm, aa, h1.mv (by rw [puI_at, if_neg (by decide)]) (fun k => by rw [puI_at, if_neg (by omega)]) rfl (fun _ => rfl), ⟨?_, h3, ?_, h5⟩, ⟨h6, h10, by omega⟩, ?_, ?_, by omega⟩
  · rw [puI_at, if_neg (by decide), h2]
  · rw [puI_at, if_neg (by decide), h4]
  · rw [puI_s, h7, nI_1]
  · rw [puI_at, if_neg (by decide), h8]
/-- a run's end, when its bits are written -/
theorem en_fin {nb mm aa run : Nat} {A B A0 : St} (hW : Rwb nb A B) (hr : run < 2 ^ 20) (ha : aa < 2 ^ 20) (h2 : A.1 16 1 = nI mm) (h3 : B.1 21 30 = nI mm) (h4 : A.1 16 0 = nI aa) (h5 : B.1 21 29 = nI aa) (h6 : 1 ≤ mm) (h10 : mm ≤ 31) (h7 : A.1 14 3 = nI run) (h8 : A.1 14 4 = B.1 21 31) : Rwb nb (fiW A) (mfi B run) ∧ ((fiW A).1 16 1 = nI (if mm + 1 = 32 then 16 else mm + 1) ∧ (mfi B run).1 21 30 = nI (if mm + 1 = 32 then 16 else mm + 1) ∧ (fiW A).1 16 0 = nI (if mm + 1 = 32 then (aa + run) / 2 else aa + run) ∧ (mfi B run).1 21 29 = nI (if mm + 1 = 32 then (aa + run) / 2 else aa + run)) ∧ (fiW A).1 14 3 = nI 0 ∧ (fiW A).1 14 4 = (mfi B run).1 21 31 := by
  have eP : pacN_16 A (A.1 14 3) = if mm + 1 = 32 then puI (puI (puI (puI A 16 0 (nI (aa + run))) 16 1 (nI 32)) 16 0 (nI ((aa + run) / 2))) 16 1 (nI 16) else puI (puI A 16 0 (nI (aa + run))) 16 1 (nI (mm + 1)) := by
    unfold pacN_16
    rw [h2, h4, h7, nI_1, nI_add]
    have es : nI (aa + run) >>> (1 &&& 31) = nI ((aa + run) / 2) := shr_k (r := aa + run) (by omega) 1 (by decide)
    by_cases e : mm + 1 = 32
    · rw [e, if_pos (show nI 32 = 32 from rfl), if_pos rfl, es]
      rfl
    · rw [if_neg (show ¬ nI (mm + 1) = 32 from fun z => e ((nI_eq (by omega) (by decide)).mp z)), if_neg e]
  have eK : krM (puI B 21 31 (B.1 21 31 + 1)) (nI run) = if mm + 1 = 32 then puI (puI (puI (puI (puI B 21 31 (B.1 21 31 + 1)) 21 29 (nI (aa + run))) 21 30 (nI 32)) 21 29 (nI ((aa + run) / 2))) 21 30 (nI 16) else puI (puI (puI B 21 31 (B.1 21 31 + 1)) 21 29 (nI (aa + run))) 21 30 (nI (mm + 1)) := by
    unfold krM
    have e29 : (puI B 21 31 (B.1 21 31 + 1)).1 21 29 = nI aa := by rw [puI_at, if_neg (by decide), h5]
    have e30 : (puI B 21 31 (B.1 21 31 + 1)).1 21 30 = nI mm := by rw [puI_at, if_neg (by decide), h3]
    rw [e29, e30, nI_1, nI_add]
    have es : nI (aa + run) / 2 = nI ((aa + run) / 2) := dvd9 2 (by omega) (by decide) (by decide)
    by_cases e : mm + 1 = 32
    · rw [e, if_pos (show nI 32 = 32 from rfl), if_pos rfl, es]
      rfl
    · rw [if_neg (show ¬ nI (mm + 1) = 32 from fun z => e ((nI_eq (by omega) (by decide)).mp z)), if_neg e]
  unfold fiW mfi
  rw [eP, eK]
  by_cases e : mm + 1 = 32
  · simp only [if_pos e]
    refine ⟨hW.mv ?_ (fun k => ?_) ?_ (fun k => ?_), ⟨?_, ?_, ?_, ?_⟩, ?_, ?_⟩ <;> simp [puI_at, h8]
    rfl
  · simp only [if_neg e]
    refine ⟨hW.mv ?_ (fun k => ?_) ?_ (fun k => ?_), ⟨?_, ?_, ?_, ?_⟩, ?_, ?_⟩ <;> simp [puI_at, h8]
    rfl
theorem en_end {dt run : Nat} {A B : St} (H : EnW dt run A B) (hd : dt ≤ 1536) : EnW (dt + 1) 0 (enW A run) (mrS B run) := by
  obtain ⟨nb, mm, aa, h1, ⟨h2, h3, h4, h5⟩, ⟨h6, h10, h11⟩, h7, h8, h9⟩ := H
  have hk := low_wb (m := mm) (a := aa) h10 (by omega)
  have hst := wb_step (r := run) h6 h10 hk
  have eL : lkM B = lowK (nI mm) (nI aa) 8 0 := by unfold lkM; rw [h3, h5]
  have hk8 : lowK (nI mm) (nI aa) 8 0 ≤ 8 := hk.1
  have hpow : 0 < 2 ^ lowK (nI mm) (nI aa) 8 0 := Nat.pow_pos (by decide)
  have hq : run / 2 ^ lowK (nI mm) (nI aa) 8 0 ≤ run := Nat.div_le_self _ _
  have hfit : nb + wb_cost run (lowK (nI mm) (nI aa) 8 0) ≤ 3072 := by omega
  unfold enW mrS
  rw [h2, h4, eL]
  generalize lowK (nI mm) (nI aa) 8 0 = K at *
  generalize hQ : run / 2 ^ K = Q at *
  unfold wb_cost at hst hfit
  rw [hQ] at hst hfit
  by_cases e : 12 ≤ Q
  · rw [if_pos (show 12 ≤ nI Q from nI_le (a := 12) e (by omega)), if_pos (show 12 ≤ nI Q from nI_le (a := 12) e (by omega))]
    rw [if_neg (by omega)] at hst hfit
    have w1 := w_same (v := 4095) 12 nb A B (by decide) (by omega) h1
    have r1 : (wrS 4095 12 A).1 14 3 = nI run := by rw [wrS_f 12 A 14 3 (by omega), h7]
    have w2 := w_same (v := nI run) 13 (nb + 12) _ _ (by decide) (by omega) w1
    rw [r1]
    have fA : ∀ o k, ¬ (o = 15 ∨ (o = 14 ∧ k = 2)) → (wrS (nI run) 13 (wrS 4095 12 A)).1 o k = A.1 o k := fun o k hn => (wrS_f 13 _ o k hn).trans (wrS_f 12 A o k hn)
    have fB : ∀ k, k ≠ 20 → (mwS (nI run) 13 (mwS 4095 12 B)).1 21 k = B.1 21 k := fun k hn => (mwS_k hn 13 _).trans (mwS_k hn 12 B)
    obtain ⟨f1, f2, f3, f4⟩ := en_fin (A0 := A) (run := run) (mm := mm) (aa := aa) w2 (by omega) (by omega) (by rw [fA 16 1 (by omega), h2]) (by rw [fB 30 (by decide), h3]) (by rw [fA 16 0 (by omega), h4]) (by rw [fB 29 (by decide), h5]) h6 h10 (by rw [fA 14 3 (by omega), h7]) (by rw [fA 14 4 (by omega), fB 31 (by decide), h8])
    refine ⟨_, _, _, f1, f2, ⟨?_, ?_, ?_⟩, f3, f4, ?_⟩
    · split <;> omega
    · split <;> omega
    · split <;> omega
    · omega
  · rw [if_neg (show ¬ 12 ≤ nI Q from nI_ge (b := 12) (by omega) (by omega)), if_neg (show ¬ 12 ≤ nI Q from nI_ge (b := 12) (by omega) (by omega))]
    rw [if_pos (by omega)] at hst hfit
    have w1 := w_unary (q := Q) (by omega) Q nb A B (Nat.le_refl _) (by omega) h1
    have r1 : (wrS (((1 <<< (nI Q &&& 31)) - 1) <<< (1 &&& 31)) (Q + 1) A).1 14 3 = nI run := by rw [wrS_f _ A 14 3 (by omega), h7]
    have w2 := w_same (v := nI run) K (nb + Q + 1) _ _ (by omega) (by omega) w1
    rw [r1]
    have fA : ∀ o k, ¬ (o = 15 ∨ (o = 14 ∧ k = 2)) → (wrS (nI run) K (wrS (((1 <<< (nI Q &&& 31)) - 1) <<< (1 &&& 31)) (Q + 1) A)).1 o k = A.1 o k := fun o k hn => (wrS_f K _ o k hn).trans (wrS_f _ A o k hn)
    have fB : ∀ k, k ≠ 20 → (mwS (nI run) K (mwS 0 1 (moS Q B))).1 21 k = B.1 21 k := fun k hn => (mwS_k hn K _).trans ((mwS_k hn 1 _).trans (moS_k hn Q B))
    obtain ⟨f1, f2, f3, f4⟩ := en_fin (A0 := A) (run := run) (mm := mm) (aa := aa) w2 (by omega) (by omega) (by rw [fA 16 1 (by omega), h2]) (by rw [fB 30 (by decide), h3]) (by rw [fA 16 0 (by omega), h4]) (by rw [fB 29 (by decide), h5]) h6 h10 (by rw [fA 14 3 (by omega), h7]) (by rw [fA 14 4 (by omega), fB 31 (by decide), h8])
    refine ⟨_, _, _, f1, f2, ⟨?_, ?_, ?_⟩, f3, f4, ?_⟩
    · split <;> omega
    · split <;> omega
    · split <;> omega
    · omega
