theorem en_codes {h w pw ph m c r : Nat} {A B : St} (H1 : Rdim h w A B) (H2 : Rpat pw ph m A B) (H3 : Rgrd c r A B) (H4 : Rway A B) (H7 : Rgry c r m A B) : (∀ o q, o ≠ 10 → (enH A c r).1 o q = A.1 o q) ∧ (enH A c r).2 = A.2 ∧ ∀ n, n < 256 → (enH A c r).1 10 n = if (n % 16 < c ∧ n / 16 < r) ∧ skM B (nI (n % 16)) (nI (n / 16)) = 0 then B.1 25 n ^^^ B.1 25 n >>> (1 &&& 31) else 0 := by
  unfold enH
  rw [pO_256 H3.2.1 H3.2.2.2.1]
  have key := nF_rel (f := fun k t => if k % 16 < c ∧ k / 16 < r then enF (k % 16) (k / 16) t else t) (g := fun _ (u : Unit) => u) (R := fun k (T : St) (_ : Unit) => (∀ o q, o ≠ 10 → T.1 o q = A.1 o q) ∧ T.2 = A.2 ∧ ∀ n, n < 256 → T.1 10 n = if n < k ∧ (n % 16 < c ∧ n / 16 < r) ∧ skM B (nI (n % 16)) (nI (n / 16)) = 0 then B.1 25 n ^^^ B.1 25 n >>> (1 &&& 31) else 0) 256 (s := flI A 10 0 256) (t := ()) ?_ ?_
  · refine ⟨key.1, key.2.1, fun n hn => ?_⟩
    rw [key.2.2 n hn]
    by_cases z : (n % 16 < c ∧ n / 16 < r) ∧ skM B (nI (n % 16)) (nI (n / 16)) = 0
    · rw [if_pos ⟨hn, z⟩, if_pos z]
    · rw [if_neg (fun y => z y.2), if_neg z]
  · intro k T _ hk ⟨g1, g2, g3⟩
    have same : ¬ ((k % 16 < c ∧ k / 16 < r) ∧ skM B (nI (k % 16)) (nI (k / 16)) = 0) → (∀ o q, o ≠ 10 → T.1 o q = A.1 o q) ∧ T.2 = A.2 ∧ ∀ n, n < 256 → T.1 10 n = if n < k + 1 ∧ (n % 16 < c ∧ n / 16 < r) ∧ skM B (nI (n % 16)) (nI (n / 16)) = 0 then B.1 25 n ^^^ B.1 25 n >>> (1 &&& 31) else 0 := by
      intro hno
      refine ⟨g1, g2, fun n hn => ?_⟩
      rw [g3 n hn]
      by_cases z : n = k
      · subst z
        rw [if_neg (fun y => hno y.2), if_neg (fun y => hno y.2)]
      · by_cases z2 : n < k ∧ (n % 16 < c ∧ n / 16 < r) ∧ skM B (nI (n % 16)) (nI (n / 16)) = 0
        · rw [if_pos z2, if_pos ⟨by omega, z2.2⟩]
        · rw [if_neg z2, if_neg (fun y => z2 ⟨by omega, y.2⟩)]
    by_cases hin : k % 16 < c ∧ k / 16 < r
    · rw [if_pos hin]
      have hsk : skH T (nI (k % 16)) (nI (k / 16)) = skM B (nI (k % 16)) (nI (k / 16)) := by
        rw [← sk_sk H1 H2 H3 H4]
        unfold skH ouH lfL tpL
        rw [g1 0 13 (by decide), g1 0 0 (by decide), g1 0 1 (by decide), g1 5 1 (by decide), g1 5 2 (by decide), g1 7 3 (by decide), g1 7 4 (by decide), g1 7 5 (by decide), g1 7 6 (by decide)]
      unfold enF
      rw [hsk]
      by_cases hs : skM B (nI (k % 16)) (nI (k / 16)) = 0
      · rw [if_pos hs]
        have hg : grL T (nI (k % 16)) (nI (k / 16)) = B.1 25 k := by
          unfold grL
          rw [if_neg (plc_of (by omega) (by omega)).2, (plc_of (by omega) (by omega)).1, nI_clamp (by omega), show 16 * (k / 16) + k % 16 = k by omega, g1 8 k (by decide), (H7 k hk).1]
        rw [hg]
        unfold sgC
        rw [if_neg (plc_of (by omega) (by omega)).2, (plc_of (by omega) (by omega)).1, nI_clamp (by omega), show 16 * (k / 16) + k % 16 = k by omega]
        refine ⟨fun o q hn => by rw [puI_at, if_neg (fun z => hn z.1)]; exact g1 o q hn, g2, fun n hn => ?_⟩
        rw [puI_at]
        by_cases z : n = k
        · subst z
          rw [if_pos ⟨rfl, rfl⟩, if_pos ⟨by omega, hin, hs⟩]
        · rw [if_neg (fun y => z y.2), g3 n hn]
          by_cases z2 : n < k ∧ (n % 16 < c ∧ n / 16 < r) ∧ skM B (nI (n % 16)) (nI (n / 16)) = 0
          · rw [if_pos z2, if_pos ⟨by omega, z2.2⟩]
          · rw [if_neg z2, if_neg (fun y => z2 ⟨by omega, y.2⟩)]
      · rw [if_neg hs]
        exact same (fun z => hs z.2)
    · rw [if_neg hin]
      exact same (fun z => hin z.1)
  · refine ⟨fun o q hn => by rw [flI_at, if_neg (fun z => hn z.1)], rfl, fun n hn => ?_⟩
    rw [flI_at, if_pos ⟨rfl, hn⟩, if_neg (by omega)]
theorem brM_f {S : St} : (∀ o k, ¬ (o = 28 ∨ o = 29 ∨ o = 30 ∨ o = 31 ∨ (o = 21 ∧ (k = 29 ∨ k = 30 ∨ k = 31))) → (brM S).1 o k = S.1 o k) ∧ (brM S).2 = S.2 := by
  unfold brM npM
  refine ⟨fun o k hn => ?_, rfl⟩
  simp only [flI_at, puI_at]
  repeat rw [if_neg (by omega)]
theorem te_end {T : St} : enW T (T.1 14 3).toNatClampNeg = teW T 0 := by
  unfold teW
  rw [if_pos rfl]
theorem num_0 : 3200 * 0 + (wb_ph 1 4 + 3200 * wb_ps 1) + 6272 * 0 ≤ 6272 * 0 + 147484 := by decide +kernel
theorem q_encode {h w c9 r9 m9 : Nat} {A B : St} (H : Rl h w A B) (k1 : B.1 21 9 = nI c9) (k2 : B.1 21 10 = nI r9) (k3 : B.1 21 7 = nI (m9 + 1)) (c2 : c9 ≤ 16) (r2 : r9 ≤ 16) (hm2 : m9 < 64) : Rl h w (ecS A c9 r9 m9) (eeT (ee2 B m9)) ∧ szW (ecS A c9 r9 m9) = eeR (ee2 B m9) := by
  obtain ⟨pw, ph, m, c, r, h1, h2, h3, h4, h5, h6, h7, h8, h9, h10, h11, h12⟩ := H
  have ec : c = c9 := (nI_eq (by have := h6.2.1; omega) (by omega)).mp (h6.2.2.2.2.2.2.1.symm.trans k1)
  have er : r = r9 := (nI_eq (by have := h6.2.2.2.1; omega) (by omega)).mp (h6.2.2.2.2.2.2.2.1.symm.trans k2)
  have em : m + 1 = m9 + 1 := (nI_eq (by have := h4.2.2.2.2.1; omega) (by omega)).mp (h4.2.2.2.2.2.2.2.2.2.2.symm.trans k3)
  have em' : m = m9 := by omega
  subst ec
  subst er
  subst em'
  obtain ⟨a1, a2, a3⟩ := en_codes h1 h4 h6 h8 h7
  obtain ⟨bl1, bl2⟩ := bl_lt m hm2
  have C : Cod h w pw ph m c r (enH A c r) (puI B 21 0 0) := by
    refine ⟨h1.mv (fun o k e => a1 o k (by omega)) (fun k e => by rw [puI_at, if_neg (by omega)]), h4.mv (fun k => a1 5 k (by decide)) (fun k e => by rw [puI_at, if_neg (by omega)]), h6.mv (fun k => a1 7 k (by decide)) (fun k e1 e2 => by rw [puI_at, if_neg (by omega)]), h8.mv (fun k e1 e2 => a1 0 k (by decide)) (fun k e1 e2 => by rw [puI_at, if_neg (by omega)]), fun n hn => ?_⟩
    exact a3 n hn
  have P0 : EnP (bl 6 m) 0 (enH A c r) (puI B 21 0 0) (ec0 A c r) (ee0 B, 0) := by
    unfold ec0 ee0
    refine ⟨⟨fun o k hn => ?_, rfl⟩, ⟨fun o k hn => ?_, rfl⟩, ctx_new _ _ rfl rfl, ⟨0, 1, 4, ⟨?_, ?_, fun n hn => by omega, fun n _ hn => ?_⟩, ⟨?_, ?_, ?_, ?_⟩, ⟨by decide, by decide, Nat.le_refl 4⟩, ?_, ?_, num_0⟩, fun q hq => ?_⟩
    · simp only [bpF, wbS, flI_at, puI_at]
      repeat rw [if_neg (by omega)]
    · dsimp only
      rw [brM_f.1 o k (by omega), puI_at, if_neg (by omega)]
    · simp [bpF, wbS, flI_at, puI_at]; rfl
    · dsimp only; rw [brM_f.1 21 20 (by decide), puI_s]; rfl
    · have e : (bpF (wbS (enH A c r))).1 15 (n / 8) = 0 := by
        have h9 : n / 8 < 384 := by omega
        simp [bpF, wbS, flI_at, puI_at, h9, nar_b0]
      rw [e, bI_0]
    · simp [bpF, wbS, flI_at, puI_at]; rfl
    · simp [brM, npM, flI_at, puI_at]; rfl
    · simp [bpF, wbS, flI_at, puI_at]; rfl
    · simp [brM, npM, flI_at, puI_at]; rfl
    · simp [bpF, wbS, flI_at, puI_at]; rfl
    · simp [bpF, wbS, brM, npM, flI_at, puI_at]
    · have e : (brM (puI (puI B 21 0 0) 21 20 0)).1 30 q = 0 := by simp [brM, npM, flI_at, puI_at, hq, nar_0]
      dsimp only
      rw [e, a3 q hq]
      split
      · obtain ⟨-, ⟨g, hg, eg⟩, -⟩ := h7 q hq
        rw [eg, gray_hi hm2 hg (Nat.le_refl _) (by omega)]
        rfl
      · rw [bI_0]; rfl
  have P1 := en_planes C (bl 6 m) 0 _ _ bl2 (by omega) P0
  obtain ⟨p1, p2, p3, p4, -⟩ := P1
  have eA2 : ec2 A c r m = teW (ec1 A c r m) 0 := te_end
  have W2 := (te_eq p4 (by omega)).1
  have W3 : EnW (0 + 256 * bl 6 m + 1) 0 (ec2 A c r m) (ee2 B m) := by rw [eA2]; exact W2
  have X2 : Rctx (ec2 A c r m) (ee2 B m) := by
    rw [eA2]
    exact p3.mv (fun q => enw_f.1 12 q (by omega)) (fun q => enw_f.1 13 q (by omega)) (fun q => by rw [show (ee2 B m).1 28 = _ from (mrS_o (by decide) (by decide)).1]; rfl) (fun q => by rw [show (ee2 B m).1 29 = _ from (mrS_o (by decide) (by decide)).1]; rfl)
  have mo : ∀ o q, ¬ (o = 26 ∨ (o = 21 ∧ (q = 20 ∨ q = 29 ∨ q = 30 ∨ q = 31))) → (ee2 B m).1 o q = (ee1 B m).1.1 o q := fun o q hn => by
    unfold ee2
    by_cases z : o = 21
    · subst z; exact mrS_k (by omega) (by omega) (by omega) (by omega)
    · rw [(mrS_o (S := (ee1 B m).1) (r := (ee1 B m).2) (o := o) z (by omega)).1]
  have FA : ∀ o k, ¬ (o = 10 ∨ o = 12 ∨ o = 13 ∨ o = 14 ∨ o = 15 ∨ o = 16 ∨ (o = 0 ∧ k = 14)) → (ecS A c r m).1 o k = A.1 o k := by
    intro o k hn
    unfold ecS
    rw [puI_at, if_neg (by omega), eA2, enw_f.1 o k (by omega), ← a1 o k (by omega)]
    exact p1.1 o k (by omega)
  have FB : ∀ o k, ¬ (o = 26 ∨ o = 28 ∨ o = 29 ∨ o = 30 ∨ o = 31 ∨ (o = 21 ∧ (k = 0 ∨ k = 20 ∨ k = 21 ∨ k = 29 ∨ k = 30 ∨ k = 31))) → (eeT (ee2 B m)).1 o k = B.1 o k := by
    intro o k hn
    unfold eeT
    rw [puI_at, if_neg (by omega), mo o k (by omega)]
    refine (p2.1 o k (by omega)).trans ?_
    rw [puI_at, if_neg (by omega)]
  have FA2 : ∀ k, (ecS A c r m).2 6 k = A.2 6 k := fun k => by
    show (ec2 A c r m).2 6 k = _
    rw [eA2, enw_f.2, ← a2]
    exact congrFun (congrFun p1.2 6) k
  have WR : Rwri (ecS A c r m) (eeT (ee2 B m)) := by
    obtain ⟨nb, mm, aa, ⟨q1, q2, q3, q4⟩, -, -, -, -, hb⟩ := W3
    have hnb : nb ≤ 3072 := by omega
    have e21 : eeR (ee2 B m) = nI ((nb + 7) / 8) := by
      unfold eeR
      rw [q2, show (7 : Int32) = nI 7 from rfl, nI_add]
      exact dvd9 8 (by omega) (by decide) (by decide)
    refine ⟨nb, nb, hnb, by omega, ?_, ?_, fun _ => rfl, ?_, fun n hn => ?_, fun n hn hn2 => ?_⟩
    · unfold ecS; rw [puI_at, if_neg (by decide), q1]
    · unfold eeT; rw [puI_at, if_neg (by decide), q2]
    · unfold eeT; rw [puI_s, e21]
    · unfold ecS eeT; rw [puI_at, if_neg (by omega), puI_at, if_neg (by omega)]; exact q3 n hn
    · unfold ecS; rw [puI_at, if_neg (by omega)]; exact q4 n hn hn2
  refine ⟨?_, ?_⟩
  · refine ⟨pw, ph, m, c, r, h1.mv (fun o k e => FA o k (by omega)) (fun k e => FB 21 k (by omega)), h2.mv (fun k => FA 2 k (by omega)) (fun k => FB 22 k (by omega)), h3.mv (fun k => FA 4 k (by omega)) (fun k => FB 23 k (by omega)), h4.mv (fun k => FA 5 k (by omega)) (fun k e => FB 21 k (by omega)), h5.mv (fun k => FA2 k) (fun k => FB 24 k (by omega)), h6.mv (fun k => FA 7 k (by omega)) (fun k e1 e2 => FB 21 k (by omega)), h7.mv (fun k => FA 8 k (by omega)) (fun k => FB 25 k (by omega)), h8.mv (fun k e1 e2 => FA 0 k (by omega)) (fun k e1 e2 => FB 21 k (by omega)), ?_, ?_, ?_, h12.mv (FA 17 2 (by omega)) (fun k => FA 18 k (by omega)) (FB 21 23 (by omega)) (fun k => FB 27 k (by omega))⟩
    · show (ecS A c r m).1 0 14 = (eeT (ee2 B m)).1 21 31
      obtain ⟨nb, mm, aa, -, -, -, -, q5, -⟩ := W3
      unfold ecS eeT
      rw [puI_s, puI_at, if_neg (by decide), q5]
    · exact X2.mv (fun q => by unfold ecS; rw [puI_at, if_neg (by omega)]) (fun q => by unfold ecS; rw [puI_at, if_neg (by omega)]) (fun q => by unfold eeT; rw [puI_at, if_neg (by omega)]) (fun q => by unfold eeT; rw [puI_at, if_neg (by omega)])
    · exact WR
  · rw [(sz_w WR).1]
    unfold eeT
    rw [puI_s]
theorem ec_fr {A : St} {c r m : Nat} (hc : c ≤ 16) (hr : r ≤ 16) : ∀ o k, 21 ≤ o → (ecS A c r m).1 o k = A.1 o k := by
  intro o k ho
  have wp : ∀ (p : Int32) (T : St), T.1 o k = A.1 o k → (wpH T c r p).1 o k = A.1 o k := by
    intro p T hT
    unfold wpH
    exact pO_iv (f := wpF p) (I := fun x : St => x.1 o k = A.1 o k) (c := c) r (fun i j t _ _ e => by
      unfold wpF
      split
      · rw [le_f.1 o k (by omega), enw_f.1 o k (by omega)]; exact e
      · exact e) (by unfold bpF; rw [flI_at, if_neg (by omega), flI_at, if_neg (by omega)]; exact hT)
  have ep : ∀ (n : Nat) (T : St), T.1 o k = A.1 o k → (epS c r n T).1 o k = A.1 o k := by
    intro n
    induction n with
    | zero => intro T hT; exact hT
    | succ n ih => intro T hT; rw [epS_s]; exact ih _ (wp _ T hT)
  unfold ecS ec2
  rw [puI_at, if_neg (by omega), te_end, enw_f.1 o k (by omega)]
  unfold ec1
  apply ep
  unfold ec0 bpF wbS
  simp only [flI_at, puI_at]
  repeat rw [if_neg (by omega)]
  unfold enH
  exact pO_iv (f := enF) (I := fun x : St => x.1 o k = A.1 o k) (c := c) r (fun i j t _ _ e => by
    unfold enF
    split
    · unfold sgC
      split
      · exact e
      · rw [puI_at, if_neg (by omega)]; exact e
    · exact e) (by rw [flI_at, if_neg (by omega)])
