theorem sub_y {y : Nat} {Y : Int32} (hy : y < 32) (hb : -8388608 ≤ Y.toInt ∧ Y.toInt < 8388608) (h : Y.toInt ≤ y) : nI y - Y = nI ((y : Int) - Y.toInt).toNat := by
  apply Int32.toInt_inj.mp
  rw [Int32.toInt_sub, nI_toInt (by omega), nI_toInt (by omega), Int.bmod_eq_of_le (by omega) (by omega)]
  omega
/-- the region behind a pattern that is laid -/
theorem lay_reg {h w pw ph m c r g : Nat} {A B : St} {i j : Int32} (H1 : Rdim h w A B) (H2 : Rpat pw ph m A B) (H3 : Rsh h w 4 23 A B) (H5 : Rcel A B) (H6 : Rgrd c r A B) (H8 : Rway A B) (hg : g < 64) (hgr : grL A i j = nI g) : Rsh h w 4 23 (if ouH A i j = 0 then laH A h i j else A) (lmM B i j g pw ph) := by
  have w2 : w ≤ 32 := H1.2.1
  have q2 : h ≤ 32 := H1.2.2.2.1
  have p2 : pw ≤ 8 := H2.2.1
  have p4 : ph ≤ 8 := H2.2.2.2.1
  have hmk : A.1 3 1 = msk (nI w) := H1.2.2.2.2.2.2.2.1
  obtain ⟨l1, -, l3⟩ := lm_all (i := i) (j := j) (k := g) H1 H2 H5.2
  have lm0 : ∀ n, ¬ vis h w pw (xM B i j).toInt (yM B i j).toInt 0 ph n → (lmM B i j g pw ph).1 23 n = B.1 23 n := fun n hn => l1 23 n (fun z => hn z.2)
  have hyb := y_b B i j
  rw [ou_ou H1 H2 H6]
  by_cases ho : ouM B i j = 0
  · rw [if_pos ho]
    obtain ⟨g1, g2, g3, g4⟩ := (ou_i (c := c) (r := r) H1 H2).mp ho
    obtain ⟨f1, f2⟩ := ra_rb H1 H2 H6 ho
    obtain ⟨a1, -⟩ := la_all (w := w) (A := A) (pat := nI g) (left := xM B i j) (top := yM B i j) (cols := cuH A (xM B i j)) (a := raH A i j) q2 (rbH A i j - raH A i j) (by omega)
    have el : laH A h i j = laA A h (nI g) (xM B i j) (yM B i j) (cuH A (xM B i j)) (raH A i j) (rbH A i j - raH A i j) := by
      unfold laH
      rw [hgr, (lf_x H6).1, (lf_x H6).2]
    rw [el]
    have cb : ∀ x, bI9 (cuH A (xM B i j)) x = (decide ((xM B i j).toInt ≤ x ∧ (x : Int) < (xM B i j).toInt + pw) && decide (x < w)) := fun x => cu_bit H1 H2 (by omega) (by omega)
    have mb : ∀ b x, bI9 (mvd b (xM B i j)) x = (decide (x < 32) && decide ((xM B i j).toInt ≤ x) && bI9 b ((x : Int) - (xM B i j).toInt).toNat) := fun b x => mvd_bit (by omega) (by omega)
    generalize hX : (xM B i j).toInt = X at *
    generalize hY : (yM B i j).toInt = Y at *
    obtain ⟨o9, ho9, how⟩ := H8.2.1
    have hop : A.1 0 11 = nI o9 := H8.1.trans how
    refine ⟨fun y x hy hx => ?_, fun y x hy hx => ?_, fun n hn hn2 => ?_⟩
    · rw [a1]
      by_cases z : Y ≤ y ∧ (y : Int) < Y + ph
      · rw [if_pos (by omega)]
        have hv : ((y : Int) - Y).toNat < 8 := by omega
        have esub : nI y - yM B i j = nI ((y : Int) - Y).toNat := by
          have := sub_y (Y := yM B i j) (y := y) (by omega) (by rw [hY]; exact hyb) (by rw [hY]; exact z.1)
          rw [hY] at this
          exact this
        rw [esub, bI_and, hmk, bI_msk w2, hop]
        have hl : bI9 (mvd (liB A (nI g) (nI ((y : Int) - Y).toNat)) (xM B i j) &&& cuH A (xM B i j)) x = ((decide (X ≤ x) && (decide (((x : Int) - X).toNat < 8) && bL9 (A.2 6 g) (8 * ((y : Int) - Y).toNat + ((x : Int) - X).toNat))) && bI9 (cuH A (xM B i j)) x) := by
          rw [bI_and, mb, liB_bit hg hv]
          simp [hx]
        have hco := co_bit ho9 (line := A.1 4 y) hx hl
        by_cases hxw : x < w
        · simp only [hxw, decide_true, Bool.and_true]
          rw [hco]
          by_cases hC : bI9 (cuH A (xM B i j)) x = true
          · rw [if_pos hC]
            rw [cb] at hC
            simp only [Bool.and_eq_true, decide_eq_true_eq] at hC
            rw [l3 _ (by unfold vis; omega), show (32 * y + x) / 32 = y by omega, show (32 * y + x) % 32 = x by omega, how, H3.1 y x hy hx, Nat.add_assoc, H5.1 g _ hg (by omega)]
            have e1 : X ≤ x := hC.1.1
            have e2 : ((x : Int) - X).toNat < 8 := by omega
            simp only [e1, e2, decide_true, Bool.true_and]
          · rw [if_neg hC]
            rw [cb] at hC
            simp only [Bool.and_eq_true, decide_eq_true_eq] at hC
            rw [lm0 _ (by unfold vis; omega), H3.1 y x hy hx]
        · simp only [hxw, decide_false, Bool.and_false]
          rw [lm0 _ (by unfold vis; omega), H3.1 y x hy hx, H3.2.1 y x hy (by omega)]
      · rw [if_neg (by omega), lm0 _ (by unfold vis; omega), H3.1 y x hy hx]
    · rw [a1]
      split
      · rw [bI_and, hmk, bI_msk w2]
        simp [Nat.not_lt.mpr hx]
      · exact H3.2.1 y x hy hx
    · rw [lm0 _ (by unfold vis; omega)]
      exact H3.2.2 n hn hn2
  · rw [if_neg ho]
    have hn : ¬ (0 < (xM B i j).toInt + pw ∧ (xM B i j).toInt < w ∧ 0 < (yM B i j).toInt + ph ∧ (yM B i j).toInt < h) := fun z => ho ((ou_i (c := c) (r := r) H1 H2).mpr z)
    have nov : ∀ n, ¬ vis h w pw (xM B i j).toInt (yM B i j).toInt 0 ph n := fun n => by
      unfold vis
      omega
    exact H3.mv (fun _ => rfl) (fun k => lm0 k (nov k))
theorem la_fr {A : St} {h : Nat} {i j : Int32} {o k : Nat} (ho : o ≠ 4) : (if ouH A i j = 0 then laH A h i j else A).1 o k = A.1 o k ∧ (if ouH A i j = 0 then laH A h i j else A).2 = A.2 := by
  have key : ∀ (a n : Nat) (pat left top cols : Int32), (laA A h pat left top cols a n).1 o k = A.1 o k ∧ (laA A h pat left top cols a n).2 = A.2 := by
    intro a n pat left top cols
    induction n with
    | zero => exact ⟨rfl, rfl⟩
    | succ n ih =>
      show (la1 (laA A h pat left top cols a n) h pat left top cols (nI (a + n))).1 o k = _ ∧ (la1 (laA A h pat left top cols a n) h pat left top cols (nI (a + n))).2 = _
      unfold la1 clS
      split
      · exact ih
      · exact ⟨by rw [puI_at, if_neg (by omega)]; exact ih.1, ih.2⟩
  split
  · exact key _ _ _ _ _ _
  · exact ⟨rfl, rfl⟩
def cmI (h w pw ph c r : Nat) (A B : St) : Prop := Rl h w A B ∧ B.1 21 5 = nI pw ∧ B.1 21 6 = nI ph ∧ B.1 21 9 = nI c ∧ B.1 21 10 = nI r
theorem cm_step {h w pw9 ph9 c9 r9 i j : Nat} {A B : St} (p2 : pw9 ≤ 8) (p4 : ph9 ≤ 8) (c2 : c9 ≤ 16) (r2 : r9 ≤ 16) (hi : i < c9) (hj : j < r9) (H : cmI h w pw9 ph9 c9 r9 A B) : cmI h w pw9 ph9 c9 r9 (cmF h i j A) (cpF pw9 ph9 i j B) := by
  obtain ⟨H, k1, k2, k3, k4⟩ := H
  obtain ⟨pw, ph, m, c, r, h1, h2, h3, h4, h5, h6, h7, h8, h9, h10, h11, h12⟩ := H
  have e1 : pw = pw9 := (nI_eq (by have := h4.2.1; omega) (by omega)).mp (h4.2.2.2.2.2.2.2.2.1.symm.trans k1)
  have e2 : ph = ph9 := (nI_eq (by have := h4.2.2.2.1; omega) (by omega)).mp (h4.2.2.2.2.2.2.2.2.2.1.symm.trans k2)
  subst e1
  subst e2
  have hm : m < 64 := h4.2.2.2.2.1
  obtain ⟨gg1, ⟨g, hg, gg2⟩, -⟩ := h7 (16 * j + i) (by omega)
  have hgr : grL A (nI i) (nI j) = nI g := by rw [gr_gr h6 h7 (by omega) (by omega), gg2]
  have ec : cpF pw ph i j B = lmM B (nI i) (nI j) g pw ph := by
    unfold cpF
    rw [gg2, nI_clamp (by omega)]
  rw [ec]
  have FB : ∀ o k, ¬ (o = 23) → (lmM B (nI i) (nI j) g pw ph).1 o k = B.1 o k := fun o k hn => (lm_all h1 h4 h5.2).1 o k (fun z => hn z.1)
  have FA : ∀ o k, ¬ (o = 4) → (cmF h i j A).1 o k = A.1 o k := fun o k hn => (la_fr hn).1
  have FA2 : ∀ k, (cmF h i j A).2 6 k = A.2 6 k := fun k => by
    have := (la_fr (A := A) (h := h) (i := nI i) (j := nI j) (o := 0) (k := 0) (by decide)).2
    show (if ouH A (nI i) (nI j) = 0 then laH A h (nI i) (nI j) else A).2 6 k = _
    rw [this]
  refine ⟨?_, by rw [FB 21 5 (by decide)]; exact k1, by rw [FB 21 6 (by decide)]; exact k2, by rw [FB 21 9 (by decide)]; exact k3, by rw [FB 21 10 (by decide)]; exact k4⟩
  refine ⟨pw, ph, m, c, r, h1.mv (fun o k e => FA o k (by omega)) (fun k e => FB 21 k (by omega)), h2.mv (fun k => FA 2 k (by omega)) (fun k => FB 22 k (by omega)), ?_, h4.mv (fun k => FA 5 k (by omega)) (fun k e => FB 21 k (by omega)), h5.mv (fun k => FA2 k) (fun k => FB 24 k (by omega)), h6.mv (fun k => FA 7 k (by omega)) (fun k e1 e2 => FB 21 k (by omega)), h7.mv (fun k => FA 8 k (by omega)) (fun k => FB 25 k (by omega)), h8.mv (fun k e1 e2 => FA 0 k (by omega)) (fun k e1 e2 => FB 21 k (by omega)), h9.mv (FA 0 14 (by omega)) (FB 21 31 (by omega)), h10.mv (fun k => FA 12 k (by omega)) (fun k => FA 13 k (by omega)) (fun k => FB 28 k (by omega)) (fun k => FB 29 k (by omega)), h11.mv (FA 14 2 (by omega)) (fun k => FA 15 k (by omega)) (fun k e => FB 21 k (by omega)) (fun k => FB 26 k (by omega)), h12.mv (FA 17 2 (by omega)) (fun k => FA 18 k (by omega)) (FB 21 23 (by omega)) (fun k => FB 27 k (by omega))⟩
  · exact lay_reg h1 h4 h3 h5 h6 h8 (by omega) hgr

theorem c0_all {T : St} (n : Nat) : (∀ o k, (nF c0F n T).1 o k = if o = 23 ∧ k < n then (if T.1 21 17 = 1 then (if T.1 21 1 ≤ nI (k % 32) then 0 else if T.1 21 2 ≤ nI (k / 32) then 0 else 1) else 0) else T.1 o k) ∧ (nF c0F n T).2 = T.2 := by
  induction n with
  | zero =>
    refine ⟨fun o k => ?_, rfl⟩
    rw [if_neg (by omega)]
    rfl
  | succ n ih =>
    obtain ⟨e1, e2⟩ := ih
    have es : nF c0F (n + 1) T = c0F n (nF c0F n T) := rfl
    rw [es]
    clear es
    generalize nF c0F n T = z at *
    have e21 : ∀ k, z.1 21 k = T.1 21 k := fun k => by rw [e1, if_neg (by omega)]
    unfold c0F
    rw [e21, e21, e21]
    have hn : ∀ a : Int32, a = (if T.1 21 17 = 1 then (if T.1 21 1 ≤ nI (n % 32) then 0 else if T.1 21 2 ≤ nI (n / 32) then 0 else 1) else 0) → vp_nar .boolean a = a := by
      intro a ha
      apply nar_01
      rw [ha]
      repeat' split
      all_goals first | exact Or.inl rfl | exact Or.inr rfl
    rw [hn _ rfl]
    refine ⟨fun o k => ?_, e2⟩
    rw [puI_at, e1]
    by_cases h1 : o = 23 ∧ k = n
    · rw [if_pos h1, if_pos (show o = 23 ∧ k < n + 1 by omega), h1.2]
    · rw [if_neg h1]
      by_cases h2 : o = 23 ∧ k < n
      · rw [if_pos h2, if_pos (show o = 23 ∧ k < n + 1 by omega)]
      · rw [if_neg h2, if_neg (show ¬ (o = 23 ∧ k < n + 1) by omega)]
theorem q_cm0 {h w : Nat} {A B : St}  (H : Rl h w A B)  : Rl h w (cm0 A h) (c0M B) := by
  obtain ⟨pw, ph, m, c, r, h1, h2, h3, h4, h5, h6, h7, h8, h9, h10, h11, h12⟩ := H
  have FA : ∀ o k, ¬ (o = 4) → (cm0 A h).1 o k = A.1 o k := by
    intro o k hn
    unfold cm0
    rw [flI_at, if_neg (by omega)]
  have FB : ∀ o k, ¬ (o = 23 ∨ (o = 21 ∧ k = 0)) → (c0M B).1 o k = B.1 o k := by
    intro o k hn
    unfold c0M
    rw [(c0_all 1024).1, if_neg (by omega), puI_at, if_neg (by omega)]
  have FA2 : ∀ k, (cm0 A h).2 6 k = A.2 6 k := fun k => rfl
  refine ⟨pw, ph, m, c, r, h1.mv (fun o k e => FA o k (by omega)) (fun k e => FB 21 k (by omega)), h2.mv (fun k => FA 2 k (by omega)) (fun k => FB 22 k (by omega)), ?_, h4.mv (fun k => FA 5 k (by omega)) (fun k e => FB 21 k (by omega)), h5.mv (fun k => FA2 k) (fun k => FB 24 k (by omega)), h6.mv (fun k => FA 7 k (by omega)) (fun k e1 e2 => FB 21 k (by omega)), h7.mv (fun k => FA 8 k (by omega)) (fun k => FB 25 k (by omega)), h8.mv (fun k e1 e2 => FA 0 k (by omega)) (fun k e1 e2 => FB 21 k (by omega)), h9.mv (FA 0 14 (by omega)) (FB 21 31 (by omega)), h10.mv (fun k => FA 12 k (by omega)) (fun k => FA 13 k (by omega)) (fun k => FB 28 k (by omega)) (fun k => FB 29 k (by omega)), h11.mv (FA 14 2 (by omega)) (fun k => FA 15 k (by omega)) (fun k e => FB 21 k (by omega)) (fun k => FB 26 k (by omega)), h12.mv (FA 17 2 (by omega)) (fun k => FA 18 k (by omega)) (FB 21 23 (by omega)) (fun k => FB 27 k (by omega))⟩
  · obtain ⟨w1, w2, q1, q2, a1, a2, a3, a4, b1, b2⟩ := h1
    have eB : ∀ n, n < 1024 → (c0M B).1 23 n = if B.1 21 17 = 1 then (if n % 32 < w ∧ n / 32 < h then 1 else 0) else 0 := fun n hn => by
      unfold c0M
      rw [(c0_all 1024).1, if_pos ⟨rfl, hn⟩, show (puI B 21 0 0).1 21 17 = B.1 21 17 from rfl, show (puI B 21 0 0).1 21 1 = B.1 21 1 from rfl, show (puI B 21 0 0).1 21 2 = B.1 21 2 from rfl, b1, b2]
      by_cases z : B.1 21 17 = 1
      · rw [if_pos z, if_pos z]
        by_cases z1 : n % 32 < w
        · rw [if_neg (nI_ge z1 (by omega))]
          by_cases z2 : n / 32 < h
          · rw [if_neg (nI_ge z2 (by omega)), if_pos ⟨z1, z2⟩]
          · rw [if_pos (nI_le (by omega) (by omega)), if_neg (fun y => z2 y.2)]
        · rw [if_pos (nI_le (by omega) (by omega)), if_neg (fun y => z1 y.1)]
      · rw [if_neg z, if_neg z]
    have eA : ∀ y, y < h → (cm0 A h).1 4 y = if B.1 21 17 = 1 then msk (nI w) else 0 := fun y hy => by
      unfold cm0
      rw [flI_at, if_pos ⟨rfl, hy⟩, h8.2.2.1, a4]
    refine ⟨fun y x hy hx => ?_, fun y x hy hx => ?_, fun n hn hn2 => ?_⟩
    · rw [eA y hy, eB _ (by omega), show (32 * y + x) % 32 = x by omega, show (32 * y + x) / 32 = y by omega]
      by_cases z : B.1 21 17 = 1
      · rw [if_pos z, if_pos z, bI_msk w2]
        by_cases z1 : x < w
        · rw [if_pos ⟨z1, hy⟩]; simp [z1]; rfl
        · rw [if_neg (fun y => z1 y.1)]; simp [z1]; rfl
      · rw [if_neg z, if_neg z, bI_0]; rfl
    · rw [eA y hy]
      by_cases z : B.1 21 17 = 1
      · rw [if_pos z, bI_msk w2]
        simp [Nat.not_lt.mpr hx]
      · rw [if_neg z, bI_0]
    · rw [eB n hn2]
      by_cases z : B.1 21 17 = 1
      · rw [if_pos z, if_neg (by omega)]
      · rw [if_neg z]

theorem q_compose {h w pw ph c r : Nat} {A B : St} (H : Rl h w A B) (k1 : B.1 21 5 = nI pw) (k2 : B.1 21 6 = nI ph) (k3 : B.1 21 9 = nI c) (k4 : B.1 21 10 = nI r) (p2 : pw ≤ 8) (p4 : ph ≤ 8) (c2 : c ≤ 16) (r2 : r ≤ 16) : Rl h w (cmH (cm0 A h) h c r) (cpM (c0M B) pw ph c r) ∧ dkA (cmH (cm0 A h) h c r) 4 h = daM (cpM (c0M B) pw ph c r) 23 := by
  have key : cmI h w pw ph c r (cmH (cm0 A h) h c r) (cpM (c0M B) pw ph c r) := by
    unfold cmH cpM
    refine pO_rel0 (R := cmI h w pw ph c r) r (fun i j x y hi hj hR => cm_step p2 p4 c2 r2 hi hj hR) ⟨q_cm0 H, ?_, ?_, ?_, ?_⟩
    · unfold c0M; rw [(c0_all 1024).1, if_neg (by omega), puI_at, if_neg (by omega)]; exact k1
    · unfold c0M; rw [(c0_all 1024).1, if_neg (by omega), puI_at, if_neg (by omega)]; exact k2
    · unfold c0M; rw [(c0_all 1024).1, if_neg (by omega), puI_at, if_neg (by omega)]; exact k3
    · unfold c0M; rw [(c0_all 1024).1, if_neg (by omega), puI_at, if_neg (by omega)]; exact k4
  refine ⟨key.1, ?_⟩
  obtain ⟨pw', ph', m, c', r', h1, h2, h3, -⟩ := key.1
  exact dark_all h1.2.2.2.1 h3
theorem cm_fr {A : St} {h c r : Nat} : ∀ o k, 21 ≤ o → (cmH (cm0 A h) h c r).1 o k = A.1 o k := by
  intro o k ho
  unfold cmH
  exact pO_iv (f := cmF h) (I := fun x : St => x.1 o k = A.1 o k) (c := c) r (s := cm0 A h) (fun i j t _ _ e => (la_fr (A := t) (h := h) (i := nI i) (j := nI j) (o := o) (k := k) (by omega)).1.trans e) (by unfold cm0; rw [flI_at, if_neg (by omega)])
