/-! a new object, and one that is cleared -/
theorem Rl_fresh {h w : Nat} {A B : St} (hd : Rdim h w A B) (a2 : ∀ y, y < h → A.1 2 y = 0) (a4 : ∀ y, y < h → A.1 4 y = 0) (a5 : A.1 5 1 = 1 ∧ A.1 5 2 = 1 ∧ A.1 5 3 = 1) (a6 : ∀ k, k < 64 → A.2 6 k = 0) (a7 : A.1 7 1 = 1 ∧ A.1 7 2 = 1 ∧ A.1 7 3 = 0 ∧ A.1 7 4 = 0 ∧ A.1 7 5 = 256 ∧ A.1 7 6 = 0) (a8 : ∀ n, n < 256 → A.1 8 n = 0)
    (a0 : A.1 0 11 = 0 ∧ A.1 0 12 = 0 ∧ A.1 0 13 = 0 ∧ A.1 0 14 = 0) (a12 : ∀ n, n < 64 → A.1 12 n = -1 ∧ A.1 13 n = 0) (a14 : A.1 14 2 = 0) (a15 : ∀ n, n < 384 → A.1 15 n = 0) (a17 : A.1 17 2 = 0)
    (b22 : ∀ n, n < 1024 → B.1 22 n = 0 ∧ B.1 23 n = 0) (b24 : ∀ n, n < 4096 → B.1 24 n = 0) (b24' : ∀ n, B.1 24 n = 0 ∨ B.1 24 n = 1) (b25 : ∀ n, n < 256 → B.1 25 n = 0) (b28 : ∀ n, n < 64 → B.1 28 n = -1 ∧ B.1 29 n = 0)
    (b21 : B.1 21 5 = 1 ∧ B.1 21 6 = 1 ∧ B.1 21 7 = 1 ∧ B.1 21 9 = 1 ∧ B.1 21 10 = 1 ∧ B.1 21 11 = 0 ∧ B.1 21 12 = 0 ∧ B.1 21 13 = 256 ∧ B.1 21 14 = 0 ∧ B.1 21 16 = 0 ∧ B.1 21 17 = 0 ∧ B.1 21 18 = 0 ∧ B.1 21 21 = 0 ∧ B.1 21 23 = 0 ∧ B.1 21 31 = 0) (b20 : ∃ q, q ≤ 60000 ∧ B.1 21 20 = nI q) : Rl h w A B := by
  obtain ⟨c5, c6, c7, c9, c10, c11, c12, c13, c14, c16, c17, c18, c21, c23, c31⟩ := b21
  obtain ⟨q, hq, c20⟩ := b20
  have hh : h ≤ 32 := hd.2.2.2.1
  refine ⟨1, 1, 0, 1, 1, hd, ?_, ?_, ?_, ?_, ?_, ?_, ?_, ?_, ?_, ?_, ?_⟩
  · refine ⟨fun y x hy hx => ?_, fun y x hy _ => ?_, fun n hn hn2 => (b22 n hn2).1⟩
    · rw [(b22 _ (by omega)).1, a2 y hy, bI_0]; rfl
    · rw [a2 y hy, bI_0]
  · refine ⟨fun y x hy hx => ?_, fun y x hy _ => ?_, fun n hn hn2 => (b22 n hn2).2⟩
    · rw [(b22 _ (by omega)).2, a4 y hy, bI_0]; rfl
    · rw [a4 y hy, bI_0]
  · exact ⟨by decide, by decide, by decide, by decide, by decide, a5.1, a5.2.1, a5.2.2, c5, c6, c7⟩
  · exact ⟨fun k i hk hi => by rw [b24 _ (by omega), a6 k hk, bL_0]; rfl, b24'⟩
  · obtain ⟨d1, d2, d3, d4, d5, d6⟩ := a7
    exact ⟨by decide, by decide, by decide, by decide, d1, d2, c9, c10, by rw [d3, c11], by rw [d4, c12], by rw [d5, c13], by rw [d6, c14]⟩
  · intro n hn
    exact ⟨by rw [a8 n hn, b25 n hn], ⟨0, Nat.le_refl _, b25 n hn⟩, fun _ => b25 n hn⟩
  · exact ⟨by rw [a0.1, c16], ⟨0, by decide, c16⟩, by rw [a0.2.1, c17], Or.inl c17, by rw [a0.2.2.1, c18], Or.inl c18⟩
  · show A.1 0 14 = B.1 21 31
    rw [a0.2.2.2, c31]
  · intro n hn
    rw [(a12 n hn).1, (a12 n hn).2, (b28 n hn).1, (b28 n hn).2]
    exact ⟨rfl, by decide, by decide, rfl⟩
  · refine ⟨0, q, by decide, hq, a14, c20, fun z => by omega, c21, fun n hn => by omega, fun n _ hn => ?_⟩
    rw [a15 _ (by omega), bI_0]
  · exact ⟨0, by decide, a17, c23, fun n hn => by omega⟩
theorem nar_b0 : vp_nar .byte 0 = 0 := by decide +kernel
theorem q_clear {h w : Nat} {A B : St} (H : Rl h w A B) : Rl h w (clH A h) (bgM (puI B 21 0 0)) := by
  obtain ⟨pw, ph, m, c, r, h1, h2, h3, h4, h5, h6, h7, h8, h9, h10, h11, h12⟩ := H
  obtain ⟨nb, q, -, hq, -, hq2, -⟩ := h11
  refine Rl_fresh (h1.mv (fun o k e => ?_) (fun k e => ?_)) (fun y hy => ?_) (fun y hy => ?_) ?_ (fun k hk => ?_) ?_ (fun n hn => ?_) ?_ (fun n hn => ?_) ?_ (fun n hn => ?_) ?_ (fun n hn => ?_) (fun n hn => ?_) (fun n => ?_) (fun n hn => ?_) (fun n hn => ?_) ?_ ⟨q, hq, ?_⟩
  · simp only [clH, wbS, bpF, bgB, flI_at, puI_at, flL_1]
    repeat rw [if_neg (by omega)]
  · simp only [bgM, npM, blM, flI_at, puI_at]
    repeat rw [if_neg (by omega)]
  · simp [clH, wbS, bpF, bgB, flI_at, puI_at, flL_1, hy]
  · simp [clH, wbS, bpF, bgB, flI_at, puI_at, flL_1, hy]
  · simp [clH, wbS, bpF, bgB, flI_at, puI_at, flL_1]
  · simp [clH, wbS, bpF, bgB, flI_2, puI_2, flL_at, hk]
  · simp [clH, wbS, bpF, bgB, flI_at, puI_at, flL_1]
  · simp [clH, wbS, bpF, bgB, flI_at, puI_at, flL_1, hn]
  · simp [clH, wbS, bpF, bgB, flI_at, puI_at, flL_1]
  · simp [clH, wbS, bpF, bgB, flI_at, puI_at, flL_1, hn]
  · simp [clH, wbS, bpF, bgB, flI_at, puI_at, flL_1]
  · simp [clH, wbS, bpF, bgB, flI_at, puI_at, flL_1, hn, nar_b0]
  · simp [clH, wbS, bpF, bgB, flI_at, puI_at, flL_1]
  · simp [bgM, npM, blM, flI_at, puI_at, nar_0, hn]
  · simp [bgM, npM, blM, flI_at, puI_at, nar_0, hn]
  · by_cases e : n < 4096
    · simp [bgM, npM, blM, flI_at, puI_at, nar_0, e]
    · simp [bgM, npM, blM, flI_at, puI_at, nar_0, e, h5.2 n]
  · simp [bgM, npM, blM, flI_at, puI_at, nar_0, hn]
  · simp [bgM, npM, blM, flI_at, puI_at, nar_0, hn]
  · simp [bgM, npM, blM, flI_at, puI_at]
  · simp [bgM, npM, blM, flI_at, puI_at, hq2]
theorem q_init {S : St} {h w : Nat} (h1 : 1 ≤ h) (h32 : h ≤ 32) (w1 : 1 ≤ w) (w32 : w ≤ 32) (S0 : St) (e : S0 = mS9 (nz (hS9 (nz S 0) (nI w) h) 21) (nI w) h) : Rl h w S0 S0 := by
  subst e
  refine Rl_fresh ⟨w1, w32, h1, h32, ?_, ?_, ?_, ?_, ?_, ?_⟩ (fun y hy => ?_) (fun y hy => ?_) ?_ (fun k hk => ?_) ?_ (fun n hn => ?_) ?_ (fun n hn => ?_) ?_ (fun n hn => ?_) ?_ (fun n hn => ?_) (fun n hn => ?_) (fun n => ?_) (fun n hn => ?_) (fun n hn => ?_) ?_ ⟨0, by decide, ?_⟩
  all_goals simp_all [mS9, hS9, bgM, npM, blM, flI_at, puI_at, nz_at, nz_2, nar_0, flI_2, puI_2]
  all_goals first | rfl | (split <;> simp_all)
/-! a grid -/
theorem okG_0 {c r x y a b : Int32} (hk : okG c r x y a b = 0) : ∃ p q, 1 ≤ p ∧ p ≤ 16 ∧ 1 ≤ q ∧ q ≤ 16 ∧ c = nI p ∧ r = nI q := by
  unfold okG at hk
  by_cases h1 : wi c 1 16 = 0
  · rw [if_pos h1] at hk; exact absurd hk (by decide)
  rw [if_neg h1] at hk
  by_cases h2 : wi r 1 16 = 0
  · rw [if_pos h2] at hk; exact absurd hk (by decide)
  obtain ⟨p, p1, p2, rfl⟩ := wi_1x (n := 16) (by decide) h1
  obtain ⟨q, q1, q2, rfl⟩ := wi_1x (n := 16) (by decide) h2
  exact ⟨p, q, p1, p2, q1, q2, rfl, rfl⟩
def gdQ (T : St) (i : Nat) (a : Int32) : Int32 := a + (if hpM T (nI (i % 16)) (nI (i / 16)) = 0 then 0 else if ouM T (nI (i % 16)) (nI (i / 16)) = 0 then 0 else 1)
theorem gd_all {T : St} (n : Nat) : (∀ o k, (nF gdF n (T, 0)).1.1 o k = if o = 25 ∧ k < n then 0 else T.1 o k) ∧ (nF gdF n (T, 0)).1.2 = T.2 ∧ (nF gdF n (T, 0)).2 = nF (gdQ T) n 0 := by
  induction n with
  | zero =>
    refine ⟨fun o k => ?_, rfl, rfl⟩
    rw [if_neg (by omega)]
    rfl
  | succ n ih =>
    obtain ⟨e1, e2, e3⟩ := ih
    have es : nF gdF (n + 1) (T, 0) = gdF n (nF gdF n (T, 0)) := rfl
    have et : nF (gdQ T) (n + 1) 0 = gdQ T n (nF (gdQ T) n 0) := rfl
    rw [es, et, ← e3]
    clear es et e3
    generalize nF gdF n (T, 0) = z at *
    have e21 : ∀ k, (puI z.1 25 n 0).1 21 k = T.1 21 k := fun k => by rw [puI_at, if_neg (by omega), e1, if_neg (by omega)]
    unfold gdF
    refine ⟨fun o k => ?_, e2, ?_⟩
    · dsimp only
      rw [puI_at, e1]
      by_cases h1 : o = 25 ∧ k = n
      · rw [if_pos h1, if_pos (by omega)]
      · rw [if_neg h1]
        by_cases h2 : o = 25 ∧ k < n
        · rw [if_pos h2, if_pos (by omega)]
        · rw [if_neg h2, if_neg (by omega)]
    · unfold gdQ hpM ouM xM yM
      simp only [e21]
theorem cnt_out {h w pw ph m c r : Nat} {A B : St} (H1 : Rdim h w A B) (H2 : Rpat pw ph m A B) (H3 : Rgrd c r A B) : poH A c r = nF (gdQ B) 256 0 := by
  have c2 : c ≤ 16 := H3.2.1
  have r2 : r ≤ 16 := H3.2.2.2.1
  have b1 := H3.2.2.2.2.2.2.1
  have b2 := H3.2.2.2.2.2.2.2.1
  rw [show 256 = 16 * 16 from rfl]
  have e : nF (gdQ B) (16 * 16) 0 = pO (fun i j a => if i < c ∧ j < r then poF A i j a else a) 16 16 0 := by
    rw [← nF_pO (n := 16) (by decide) 16]
    apply nF_congr
    intro i t hi
    unfold gdQ poF
    rw [hp_of b1 b2 c2 r2 (by omega) (by omega), ou_ou H1 H2 H3]
    by_cases e1 : i % 16 < c ∧ i / 16 < r
    · rw [if_pos e1, if_pos e1, if_neg (by decide)]
      by_cases e2 : ouM B (nI (i % 16)) (nI (i / 16)) = 0
      · rw [if_pos e2, if_pos e2]; simp
      · rw [if_neg e2, if_neg e2]
    · rw [if_neg e1, if_neg e1, if_pos rfl]; simp
  rw [e, pO_sub c2 r2]
  rfl
theorem grd_new {p q : Nat} {A B : St} {x y a b : Int32} (p1 : 1 ≤ p) (p2 : p ≤ 16) (q1 : 1 ≤ q) (q2 : q ≤ 16) : Rgrd p q (gdS A (nI p) (nI q) x y a b) (gd0 B (nI p) (nI q) x y a b) := by
  refine ⟨p1, p2, q1, q2, ?_, ?_, ?_, ?_, ?_, ?_, ?_, ?_⟩ <;> simp [gdS, gd0, flI_at, puI_at]
theorem grid_cnt {h w : Nat} {A B : St} {c9 r9 x y a b : Int32} (H : Rl h w A B) (hk : okG c9 r9 x y a b = 0) : poH (gdS A c9 r9 x y a b) c9.toNatClampNeg r9.toNatClampNeg = (gdM B c9 r9 x y a b).2 := by
  obtain ⟨pw, ph, m, c, r, h1, h2, h3, h4, h5, h6, h7, h8, h9, h10, h11, h12⟩ := H
  obtain ⟨p, q, p1, p2, q1, q2, rfl, rfl⟩ := okG_0 hk
  rw [nI_clamp (by omega), nI_clamp (by omega)]
  unfold gdM
  rw [(gd_all 256).2.2]
  refine cnt_out (h1.mv (fun o k e => ?_) (fun k e => ?_)) (h4.mv (fun k => ?_) (fun k e => ?_)) (grd_new p1 p2 q1 q2)
  · simp only [gdS, flI_at, puI_at]
    repeat rw [if_neg (by omega)]
  · simp only [gd0, flI_at, puI_at]
    repeat rw [if_neg (by omega)]
  · simp only [gdS, flI_at, puI_at]
    repeat rw [if_neg (by omega)]
  · simp only [gd0, flI_at, puI_at]
    repeat rw [if_neg (by omega)]
theorem q_grid {h w : Nat} {A B : St} {c9 r9 x y a b : Int32} (H : Rl h w A B) (hk : okG c9 r9 x y a b = 0) : Rl h w (gdS A c9 r9 x y a b) ((gdM B c9 r9 x y a b).1) := by
  obtain ⟨pw, ph, m, c, r, h1, h2, h3, h4, h5, h6, h7, h8, h9, h10, h11, h12⟩ := H
  obtain ⟨p, q, p1, p2, q1, q2, rfl, rfl⟩ := okG_0 hk
  have FA : ∀ o k, ¬ (o = 7 ∨ o = 8) → (gdS A (nI p) (nI q) x y a b).1 o k = A.1 o k := by
    intro o k hn
    simp only [gdS, flI_at, puI_at]
    repeat rw [if_neg (by omega)]
  have FB : ∀ o k, ¬ (o = 25 ∨ (o = 21 ∧ (k = 0 ∨ (9 ≤ k ∧ k ≤ 14)))) → ((gdM B (nI p) (nI q) x y a b).1).1 o k = B.1 o k := by
    intro o k hn
    unfold gdM
    rw [(gd_all 256).1, if_neg (by omega)]
    simp only [gd0, flI_at, puI_at]
    repeat rw [if_neg (by omega)]
  have FA2 : ∀ k, (gdS A (nI p) (nI q) x y a b).2 6 k = A.2 6 k := fun k => rfl
  refine ⟨pw, ph, m, p, q, h1.mv (fun o k e => FA o k (by omega)) (fun k e => FB 21 k (by omega)), h2.mv (fun k => FA 2 k (by omega)) (fun k => FB 22 k (by omega)), h3.mv (fun k => FA 4 k (by omega)) (fun k => FB 23 k (by omega)), h4.mv (fun k => FA 5 k (by omega)) (fun k e => FB 21 k (by omega)), h5.mv (fun k => FA2 k) (fun k => FB 24 k (by omega)), ?_, ?_, h8.mv (fun k e1 e2 => FA 0 k (by omega)) (fun k e1 e2 => FB 21 k (by omega)), h9.mv (FA 0 14 (by omega)) (FB 21 31 (by omega)), h10.mv (fun k => FA 12 k (by omega)) (fun k => FA 13 k (by omega)) (fun k => FB 28 k (by omega)) (fun k => FB 29 k (by omega)), h11.mv (FA 14 2 (by omega)) (fun k => FA 15 k (by omega)) (fun k e => FB 21 k (by omega)) (fun k => FB 26 k (by omega)), h12.mv (FA 17 2 (by omega)) (fun k => FA 18 k (by omega)) (FB 21 23 (by omega)) (fun k => FB 27 k (by omega))⟩
  · refine (grd_new (A := A) (B := B) (x := x) (y := y) (a := a) (b := b) p1 p2 q1 q2).mv (fun _ => rfl) (fun k _ _ => ?_)
    unfold gdM
    rw [(gd_all 256).1, if_neg (by omega)]
  · intro n hn
    have e1 : (gdS A (nI p) (nI q) x y a b).1 8 n = 0 := by simp [gdS, flI_at, puI_at, hn]
    have e2 : (gdM B (nI p) (nI q) x y a b).1.1 25 n = 0 := by
      unfold gdM
      rw [(gd_all 256).1, if_pos ⟨rfl, hn⟩]
    rw [e1, e2]
    exact ⟨rfl, ⟨0, Nat.zero_le _, rfl⟩, fun _ => rfl⟩

/-! the bytes that are made, passed on -/
theorem q_pass {h w : Nat} {A B : St} {n cm : Nat} (H : Rl h w A B) (hn : B.1 21 21 = nI n) (hn2 : n ≤ 384) (hcm : B.1 21 23 = nI cm) (hc : cm + n ≤ 3000) : Rl h w (ppS A n) (nF psF n B) ∧ (nF psF n B).1 21 23 = nI (cm + n) ∧ (∀ o k, o ≠ 18 → o ≠ 17 → (ppS A n).1 o k = A.1 o k) := by
  have key : ∀ i, i ≤ n → Rl h w (ppS A i) (nF psF i B) ∧ (nF psF i B).1 21 23 = nI (cm + i) ∧ (nF psF i B).1 21 21 = nI n ∧ (∀ o k, o ≠ 18 → o ≠ 17 → (ppS A i).1 o k = A.1 o k) := by
    intro i hi
    induction i with
    | zero => exact ⟨H, hcm, hn, fun _ _ _ _ => rfl⟩
    | succ i ih =>
      obtain ⟨R, g1, g2, g3⟩ := ih (by omega)
      have R' := R
      obtain ⟨pw, ph, m, c, r, -, -, -, -, -, -, -, -, -, -, r11, r12⟩ := R'
      obtain ⟨v, hv, e1, e2⟩ := by_by (n := i) r11 (by rw [g2]; exact nI_lt (by omega) (by omega)) (by omega)
      have eA : ppS A (i + 1) = tkR (ppS A i) (nI v) := by
        show tkR (ppS A i) (mdW (ppS A i) (nI i)) = _
        rw [e1]
      have eB : nF psF (i + 1) B = puI (puI (nF psF i B) 27 ((nF psF i B).1 21 23).toNatClampNeg (nI v)) 21 23 ((nF psF i B).1 21 23 + 1) := by
        rw [← e2]
        rfl
      rw [eA, eB]
      refine ⟨q_take R (by omega) g1 hv, ?_, ?_, fun o k ho1 ho2 => ?_⟩
      · rw [puI_s, g1, nI_1]; rfl
      · rw [puI_at, if_neg (by decide), puI_at, if_neg (by omega), g2]
      · rw [← g3 o k ho1 ho2]
        unfold tkR
        split
        · rfl
        · rw [puI_at, if_neg (by omega), puI_at, if_neg (by omega)]
  exact ⟨(key n (Nat.le_refl _)).1, (key n (Nat.le_refl _)).2.1, (key n (Nat.le_refl _)).2.2.2⟩
