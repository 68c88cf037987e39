/-! sheets: one line told anew, the whole page, the dark samples -/
theorem bit_row {h w o p : Nat} {A B : St} (H : Rsh h w o p A B) {y x : Nat} (hy : y < h) (hx : x < 32) : B.1 p (32 * y + x) = b2I (bI9 (A.1 o y) x) := H.1 y x hy hx
theorem rwF_e {b i : Nat} {word : Int32} (hi : i < 32) (x : St × Int32) : rwF b word i x = (puI x.1 22 (32 * b + i) (b2I (bI9 word i)), x.2 + (if x.1.1 22 (32 * b + i) = b2I (bI9 word i) then 0 else 1)) := by
  unfold rwF
  rw [bit1 hi]
  cases hb : bI9 word i
  · rw [if_neg (by decide), nar_0]
    rfl
  · rw [if_pos (by decide), nar_1]
    rfl
theorem rw_all {b : Nat} {word : Int32} {T : St} (n : Nat) (hn : n ≤ 32) : (∀ o k, (nF (rwF b word) n (T, 0)).1.1 o k = if o = 22 ∧ 32 * b ≤ k ∧ k < 32 * b + n then b2I (bI9 word (k - 32 * b)) else T.1 o k) ∧ (nF (rwF b word) n (T, 0)).1.2 = T.2 ∧ (nF (rwF b word) n (T, 0)).2 = nI (sm (fun i => b2N (!decide (T.1 22 (32 * b + i) = b2I (bI9 word i)))) n) := by
  induction n with
  | zero =>
    refine ⟨fun o k => ?_, rfl, rfl⟩
    rw [if_neg (by omega)]
    rfl
  | succ n ih =>
    obtain ⟨e1, e2, e3⟩ := ih (by omega)
    have es : nF (rwF b word) (n + 1) (T, 0) = rwF b word n (nF (rwF b word) n (T, 0)) := rfl
    rw [es, rwF_e (by omega)]
    refine ⟨fun o k => ?_, e2, ?_⟩
    · dsimp only
      rw [puI_at, e1]
      by_cases h1 : o = 22 ∧ k = 32 * b + n
      · rw [if_pos h1, if_pos (by omega), h1.2, show 32 * b + n - 32 * b = n by omega]
      · rw [if_neg h1]
        by_cases h2 : o = 22 ∧ 32 * b ≤ k ∧ k < 32 * b + n
        · rw [if_pos h2, if_pos (by omega)]
        · rw [if_neg h2, if_neg (by omega)]
    · dsimp only
      have e22 : (nF (rwF b word) n (T, 0)).1.1 22 (32 * b + n) = T.1 22 (32 * b + n) := by rw [e1, if_neg (by omega)]
      rw [e3, e22]
      show nI _ + _ = nI (sm _ n + b2N _)
      by_cases h1 : T.1 22 (32 * b + n) = b2I (bI9 word n)
      · rw [if_pos h1]
        simp [h1, b2N]
      · rw [if_neg h1, show (1 : Int32) = nI 1 from rfl, nI_add]
        simp [h1, b2N]
theorem wi_h {h : Nat} (h32 : h ≤ 32) {y : Int32} (hy : ¬ wi y 0 (nI h - 1) = 0) : ∃ b, b < h ∧ y = nI b := wi_nat (by omega) hy
theorem sm_w {w : Nat} (hw : w ≤ 32) {f : Nat → Nat} (h : ∀ i, w ≤ i → f i = 0) : sm f 32 = sm f w := by
  obtain ⟨d, hd⟩ := Nat.exists_eq_add_of_le hw
  rw [hd, sm_split, sm_0 d (fun i _ => h _ (by omega)), Nat.add_zero]
/-- the count of a line told anew -/
theorem cl_cnt {h w o p b : Nat} {A B : St} {word mk : Int32} (hw : w ≤ 32) (hm : mk = msk (nI w)) (H : Rsh h w o p A B) (hb : b < h) : bcI ((A.1 o b ^^^ word) &&& mk) = nI (sm (fun i => b2N (!decide (B.1 p (32 * b + i) = b2I (bI9 word i)))) w) := by
  rw [bc_sm, hm, sm_w hw (fun i hi => by rw [bI_and, bI_msk hw]; simp [Nat.not_lt.mpr hi, b2N])]
  congr 1
  apply sm_congr
  intro i hi
  rw [bI_and, bI_msk hw, bI_xor, bit_row H hb (by omega)]
  simp only [hi, decide_true, Bool.and_true, b2I_inj]
  cases bI9 (A.1 o b) i <;> cases bI9 word i <;> rfl
theorem sh_put {h w o p b : Nat} {A A' B B' : St} {word mk : Int32} (hw : w ≤ 32) (hh : h ≤ 32) (hm : mk = msk (nI w)) (H : Rsh h w o p A B) (hb : b < h) (hA : ∀ k, A'.1 o k = if k = b then word &&& mk else A.1 o k) (hB : ∀ k, B'.1 p k = if 32 * b ≤ k ∧ k < 32 * b + w then b2I (bI9 word (k - 32 * b)) else B.1 p k) : Rsh h w o p A' B' := by
  obtain ⟨g1, g2, g3⟩ := H
  refine ⟨fun y x hy hx => ?_, fun y x hy hx => ?_, fun n hn hn2 => ?_⟩
  · rw [hA, hB]
    by_cases e : y = b
    · subst e
      rw [if_pos rfl, hm, bI_and, bI_msk hw]
      by_cases e2 : x < w
      · rw [if_pos (by omega), show 32 * y + x - 32 * y = x by omega]
        simp [e2]
      · rw [if_neg (by omega), g1 y x hy hx, g2 y x hy (by omega)]
        simp [e2]
    · rw [if_neg e, if_neg (by omega), g1 y x hy hx]
  · rw [hA]
    by_cases e : y = b
    · rw [if_pos e, hm, bI_and, bI_msk hw]
      simp [Nat.not_lt.mpr hx]
    · rw [if_neg e]; exact g2 y x hy hx
  · rw [hB, if_neg (by omega)]; exact g3 n hn hn2
theorem row_cnt {h w : Nat} {A B : St} {y word : Int32} (H : Rl h w A B) (hy : ¬ wi y 0 (nI h - 1) = 0) : clR A 2 h (A.1 1 1) y word = (rwM B y word w).2 := by
  obtain ⟨pw, ph, m, c, r, ⟨w1, w2, q1, q2, a1, a2, a3, a4, b1, b2⟩, h2, -⟩ := H
  obtain ⟨b, hb, rfl⟩ := wi_h q2 hy
  unfold clR rwM rwG
  rw [b2, if_neg hy, if_neg hy, nI_clamp (by omega), (rw_all w w2).2.2]
  exact cl_cnt w2 a3 (h2.mv (fun _ => rfl) (fun _ => rfl)) hb
theorem q_row {h w : Nat} {A B : St} {y word : Int32} (H : Rl h w A B) (hy : ¬ wi y 0 (nI h - 1) = 0) : Rl h w (clS A 2 h (A.1 1 1) y word) ((rwM B y word w).1) := by
  obtain ⟨pw, ph, m, c, r, h1, h2, h3, h4, h5, h6, h7, h8, h9, h10, h11, h12⟩ := H
  have FA : ∀ o k, ¬ (o = 2) → (clS A 2 h (A.1 1 1) y word).1 o k = A.1 o k := by
    intro o k hn
    unfold clS
    rw [if_neg hy, puI_at, if_neg (by omega)]
  have FB : ∀ o k, ¬ (o = 22 ∨ (o = 21 ∧ k = 0)) → ((rwM B y word w).1).1 o k = B.1 o k := by
    intro o k hn
    obtain ⟨w1, w2, q1, q2, a1, a2, a3, a4, b1, b2⟩ := h1
    unfold rwM rwG
    rw [b2, if_neg hy, (rw_all w w2).1, if_neg (by omega), puI_at, if_neg (by omega)]
  have FA2 : ∀ k, (clS A 2 h (A.1 1 1) y word).2 6 k = A.2 6 k := by
      intro k
      unfold clS
      rw [if_neg hy]
      rfl
  refine ⟨pw, ph, m, c, r, h1.mv (fun o k e => FA o k (by omega)) (fun k e => FB 21 k (by omega)), ?_, h3.mv (fun k => FA 4 k (by omega)) (fun k => FB 23 k (by omega)), h4.mv (fun k => FA 5 k (by omega)) (fun k e => FB 21 k (by omega)), h5.mv (fun k => FA2 k) (fun k => FB 24 k (by omega)), h6.mv (fun k => FA 7 k (by omega)) (fun k e1 e2 => FB 21 k (by omega)), h7.mv (fun k => FA 8 k (by omega)) (fun k => FB 25 k (by omega)), h8.mv (fun k e1 e2 => FA 0 k (by omega)) (fun k e1 e2 => FB 21 k (by omega)), h9.mv (FA 0 14 (by omega)) (FB 21 31 (by omega)), h10.mv (fun k => FA 12 k (by omega)) (fun k => FA 13 k (by omega)) (fun k => FB 28 k (by omega)) (fun k => FB 29 k (by omega)), h11.mv (FA 14 2 (by omega)) (fun k => FA 15 k (by omega)) (fun k e => FB 21 k (by omega)) (fun k => FB 26 k (by omega)), h12.mv (FA 17 2 (by omega)) (fun k => FA 18 k (by omega)) (FB 21 23 (by omega)) (fun k => FB 27 k (by omega))⟩
  · obtain ⟨w1, w2, q1, q2, a1, a2, a3, a4, b1, b2⟩ := h1
    obtain ⟨b, hb, rfl⟩ := wi_h q2 hy
    refine sh_put (word := word) w2 q2 a3 h2 hb (fun k => ?_) (fun k => ?_)
    · unfold clS
      rw [if_neg hy, nI_clamp (by omega), puI_at]
      simp
    · unfold rwM rwG
      rw [b2, if_neg hy, nI_clamp (by omega), (rw_all w w2).1]
      simp [puI_at]

/-- all lines of the page told by the region's -/
theorem pg_all {T : St} (hT : ∀ k, k < 1024 → T.1 23 k = 0 ∨ T.1 23 k = 1) (n : Nat) (hn : n ≤ 1024) : (∀ o k, (nF pgF n (T, 0)).1.1 o k = if o = 22 ∧ k < n then T.1 23 k else T.1 o k) ∧ (nF pgF n (T, 0)).1.2 = T.2 ∧ (nF pgF n (T, 0)).2 = nI (sm (fun i => b2N (!decide (T.1 22 i = T.1 23 i))) n) := by
  induction n with
  | zero =>
    refine ⟨fun o k => ?_, rfl, rfl⟩
    rw [if_neg (by omega)]
    rfl
  | succ n ih =>
    obtain ⟨e1, e2, e3⟩ := ih (by omega)
    have es : nF pgF (n + 1) (T, 0) = pgF n (nF pgF n (T, 0)) := rfl
    rw [es]
    clear ih es
    generalize nF pgF n (T, 0) = z at *
    unfold pgF
    have hnar : vp_nar .boolean (T.1 23 n) = T.1 23 n := by
      rcases hT n (by omega) with e | e <;> rw [e]
      · exact nar_0
      · exact nar_1
    have e23 : z.1.1 23 n = T.1 23 n := by rw [e1, if_neg (by omega)]
    have e22 : z.1.1 22 n = T.1 22 n := by rw [e1, if_neg (by omega)]
    refine ⟨fun o k => ?_, e2, ?_⟩
    · dsimp only
      rw [e23, hnar, puI_at, e1]
      by_cases h1 : o = 22 ∧ k = n
      · rw [if_pos h1, if_pos (by omega), h1.2]
      · rw [if_neg h1]
        by_cases h2 : o = 22 ∧ k < n
        · rw [if_pos h2, if_pos (by omega)]
        · rw [if_neg h2, if_neg (by omega)]
    · dsimp only
      rw [e3, e22, e23]
      show nI _ + _ = nI (sm _ n + b2N _)
      by_cases h1 : T.1 22 n = T.1 23 n
      · rw [if_pos h1]
        simp [h1, b2N]
      · rw [if_neg h1, show (1 : Int32) = nI 1 from rfl, nI_add]
        simp [h1, b2N]
theorem sh_01 {h w o p : Nat} {A B : St} (H : Rsh h w o p A B) (k : Nat) (hk : k < 1024) : B.1 p k = 0 ∨ B.1 p k = 1 := by
  by_cases e : k < 32 * h
  · have := H.1 (k / 32) (k % 32) (by omega) (by omega)
    rw [show 32 * (k / 32) + k % 32 = k by omega] at this
    rw [this]
    exact b2I_01 _
  · exact Or.inl (H.2.2 k (by omega) hk)
theorem pg_cls {h w : Nat} {A : St} (hh : h ≤ 32) (n : Nat) (hn : n ≤ h) : (∀ o k, (pgS A h n).1 o k = if o = 2 ∧ k < n then A.1 4 k &&& A.1 1 1 else A.1 o k) ∧ (pgS A h n).2 = A.2 ∧ ∀ B, Rsh h w 2 22 A B → Rsh h w 4 23 A B → w ≤ 32 → A.1 1 1 = msk (nI w) → pgA A h n = nI (sm (fun y => sm (fun i => b2N (!decide (B.1 22 (32 * y + i) = B.1 23 (32 * y + i)))) 32) n) := by
  induction n with
  | zero =>
    refine ⟨fun o k => ?_, rfl, fun _ _ _ _ _ => rfl⟩
    rw [if_neg (by omega)]
    rfl
  | succ n ih =>
    obtain ⟨e1, e2, e3⟩ := ih (by omega)
    have hy : ¬ wi (nI n) 0 (nI h - 1) = 0 := wi_ok (by omega) (by omega)
    have el : lnS (pgS A h n) 4 h (nI n) = A.1 4 n := by
      unfold lnS
      rw [if_neg hy, nI_clamp (by omega), e1, if_neg (by omega)]
    have em : (pgS A h n).1 1 1 = A.1 1 1 := by rw [e1, if_neg (by omega)]
    refine ⟨fun o k => ?_, ?_, fun B H1 H2 hw hm => ?_⟩
    · show (clS (pgS A h n) 2 h ((pgS A h n).1 1 1) (nI n) (lnS (pgS A h n) 4 h (nI n))).1 o k = _
      rw [el, em]
      unfold clS
      rw [if_neg hy, nI_clamp (by omega), puI_at, e1]
      by_cases h1 : o = 2 ∧ k = n
      · rw [if_pos h1, if_pos (by omega), h1.2]
      · rw [if_neg h1]
        by_cases h2 : o = 2 ∧ k < n
        · rw [if_pos h2, if_pos (by omega)]
        · rw [if_neg h2, if_neg (by omega)]
    · show (clS (pgS A h n) 2 h ((pgS A h n).1 1 1) (nI n) (lnS (pgS A h n) 4 h (nI n))).2 = _
      unfold clS
      rw [if_neg hy]
      exact e2
    · show pgA A h n + clR (pgS A h n) 2 h ((pgS A h n).1 1 1) (nI n) (lnS (pgS A h n) 4 h (nI n)) = nI (sm _ n + _)
      rw [e3 B H1 H2 hw hm, el, em, ← nI_add]
      congr 1
      unfold clR
      rw [if_neg hy, nI_clamp (by omega), e1, if_neg (by omega), bc_sm]
      congr 1
      apply sm_congr
      intro i hi
      rw [bI_and, bI_xor, hm, bI_msk hw, H1.1 n i (by omega) hi, H2.1 n i (by omega) hi]
      simp only [b2I_inj]
      by_cases e : i < w
      · simp only [e, decide_true, Bool.and_true]
        cases bI9 (A.1 2 n) i <;> cases bI9 (A.1 4 n) i <;> rfl
      · rw [H1.2.1 n i (by omega) (by omega), H2.2.1 n i (by omega) (by omega)]
        simp [e]
theorem page_cnt {h w : Nat} {A B : St} (H : Rl h w A B) : pgA A h h = (pgM B).2 := by
  obtain ⟨pw, ph, m, c, r, ⟨w1, w2, q1, q2, a1, a2, a3, a4, b1, b2⟩, h2, h3, -⟩ := H
  rw [(pg_cls (w := w) q2 h (Nat.le_refl _)).2.2 B h2 h3 w2 a3]
  unfold pgM
  rw [(pg_all (T := puI B 21 0 0) (fun k hk => by rw [puI_at, if_neg (by omega)]; exact sh_01 h3 k hk) 1024 (Nat.le_refl _)).2.2, show 1024 = 32 * 32 from rfl, sm_mul]
  congr 1
  obtain ⟨d, hd⟩ := Nat.exists_eq_add_of_le q2
  rw [show sm (fun y => sm (fun x => b2N (!decide ((puI B 21 0 0).1 22 (32 * y + x) = (puI B 21 0 0).1 23 (32 * y + x)))) 32) 32 = sm (fun y => sm (fun x => b2N (!decide (B.1 22 (32 * y + x) = B.1 23 (32 * y + x)))) 32) (h + d) from by rw [← hd]; rfl, sm_split]
  rw [sm_0 d (fun i hi => sm_0 32 (fun x hx => by rw [h2.2.2 _ (by omega) (by omega), h3.2.2 _ (by omega) (by omega)]; rfl)), Nat.add_zero]
theorem q_page {h w : Nat} {A B : St}  (H : Rl h w A B)  : Rl h w (pgS A h h) ((pgM B).1) := by
  obtain ⟨pw, ph, m, c, r, h1, h2, h3, h4, h5, h6, h7, h8, h9, h10, h11, h12⟩ := H
  have FA : ∀ o k, ¬ (o = 2) → (pgS A h h).1 o k = A.1 o k := by
    intro o k hn
    rw [(pg_cls (w := w) h1.2.2.2.1 h (Nat.le_refl _)).1, if_neg (by omega)]
  have FB : ∀ o k, ¬ (o = 22 ∨ (o = 21 ∧ k = 0)) → ((pgM B).1).1 o k = B.1 o k := by
    intro o k hn
    unfold pgM
    rw [(pg_all (T := puI B 21 0 0) (fun k hk => by rw [puI_at, if_neg (by omega)]; exact sh_01 h3 k hk) 1024 (Nat.le_refl _)).1, if_neg (by omega), puI_at, if_neg (by omega)]
  have FA2 : ∀ k, (pgS A h h).2 6 k = A.2 6 k := fun k => by rw [(pg_cls (w := w) h1.2.2.2.1 h (Nat.le_refl _)).2.1]
  refine ⟨pw, ph, m, c, r, h1.mv (fun o k e => FA o k (by omega)) (fun k e => FB 21 k (by omega)), ?_, h3.mv (fun k => FA 4 k (by omega)) (fun k => FB 23 k (by omega)), h4.mv (fun k => FA 5 k (by omega)) (fun k e => FB 21 k (by omega)), h5.mv (fun k => FA2 k) (fun k => FB 24 k (by omega)), h6.mv (fun k => FA 7 k (by omega)) (fun k e1 e2 => FB 21 k (by omega)), h7.mv (fun k => FA 8 k (by omega)) (fun k => FB 25 k (by omega)), h8.mv (fun k e1 e2 => FA 0 k (by omega)) (fun k e1 e2 => FB 21 k (by omega)), h9.mv (FA 0 14 (by omega)) (FB 21 31 (by omega)), h10.mv (fun k => FA 12 k (by omega)) (fun k => FA 13 k (by omega)) (fun k => FB 28 k (by omega)) (fun k => FB 29 k (by omega)), h11.mv (FA 14 2 (by omega)) (fun k => FA 15 k (by omega)) (fun k e => FB 21 k (by omega)) (fun k => FB 26 k (by omega)), h12.mv (FA 17 2 (by omega)) (fun k => FA 18 k (by omega)) (FB 21 23 (by omega)) (fun k => FB 27 k (by omega))⟩
  · obtain ⟨w1, w2, q1, q2, a1, a2, a3, a4, b1, b2⟩ := h1
    have eA : ∀ y, y < h → (pgS A h h).1 2 y = A.1 4 y &&& msk (nI w) := fun y hy => by rw [(pg_cls (w := w) q2 h (Nat.le_refl _)).1, if_pos ⟨rfl, hy⟩, a3]
    have eB : ∀ k, k < 1024 → (pgM B).1.1 22 k = B.1 23 k := fun k hk => by
      unfold pgM
      rw [(pg_all (T := puI B 21 0 0) (fun k hk => by rw [puI_at, if_neg (by omega)]; exact sh_01 h3 k hk) 1024 (Nat.le_refl _)).1, if_pos ⟨rfl, hk⟩, puI_at, if_neg (by omega)]
    refine ⟨fun y x hy hx => ?_, fun y x hy hx => ?_, fun n hn hn2 => ?_⟩
    · rw [eA y hy, eB _ (by omega), h3.1 y x hy hx, bI_and, bI_msk w2]
      by_cases e : x < w
      · simp [e]
      · rw [h3.2.1 y x hy (by omega)]; rfl
    · rw [eA y hy, bI_and, h3.2.1 y x hy hx]; rfl
    · rw [eB n hn2]; exact h3.2.2 n hn hn2

/-- the dark samples of the page, or of the region -/
theorem dark_all {h w o p : Nat} {A B : St} (hh : h ≤ 32) (H : Rsh h w o p A B) : dkA A o h = daM B p := by
  have e1 : ∀ n, n ≤ h → dkA A o n = nI (sm (fun y => sm (fun x => b2N (bI9 (A.1 o y) x)) 32) n) := by
    intro n hn
    induction n with
    | zero => rfl
    | succ n ih =>
      show dkA A o n + bcI (A.1 o n) = nI (sm _ n + _)
      rw [ih (by omega), bc_sm, nI_add]
  have e2 : daM B p = nI (sm (fun k => b2N (!decide (B.1 p k = 0))) 1024) := by
    rw [← nF_sm]
    unfold daM
    apply nF_congr
    intro i t hi
    unfold daF
    congr 1
    by_cases e : B.1 p i = 0
    · rw [if_pos e]; simp [e, b2N]; rfl
    · rw [if_neg e]; simp [e, b2N]; rfl
  rw [e1 h (Nat.le_refl _), e2, show 1024 = 32 * 32 from rfl, sm_mul]
  congr 1
  obtain ⟨d, hd⟩ := Nat.exists_eq_add_of_le hh
  rw [show sm (fun y => sm (fun x => b2N (!decide (B.1 p (32 * y + x) = 0))) 32) 32 = sm (fun y => sm (fun x => b2N (!decide (B.1 p (32 * y + x) = 0))) 32) (h + d) from by rw [← hd], sm_split]
  rw [sm_0 d (fun i hi => sm_0 32 (fun x hx => by rw [H.2.2 _ (by omega) (by omega)]; rfl)), Nat.add_zero]
  apply sm_congr
  intro y hy
  apply sm_congr
  intro x hx
  rw [H.1 y x hy hx]
  simp only [b2I_0]
  cases bI9 (A.1 o y) x <;> rfl
/-! one sample of the region -/
theorem hs_nat {h w : Nat} {A B : St} (H : Rdim h w A B) {x y : Int32} (hs : ¬ hsM B x y = 0) : ∃ a b, a < w ∧ b < h ∧ x = nI a ∧ y = nI b := by
  obtain ⟨-, w2, -, q2, -, -, -, -, b1, b2⟩ := H
  unfold hsM at hs
  rw [b1, b2] at hs
  by_cases e1 : wi x 0 (nI w - 1) = 0
  · rw [if_pos e1] at hs; exact absurd rfl hs
  rw [if_neg e1] at hs
  by_cases e2 : wi y 0 (nI h - 1) = 0
  · rw [if_pos e2] at hs; exact absurd rfl hs
  obtain ⟨a, ha, rfl⟩ := wi_nat (by omega) e1
  obtain ⟨b, hb, rfl⟩ := wi_nat (by omega) e2
  exact ⟨a, b, ha, hb, rfl, rfl⟩
theorem at_c {h w : Nat} {A B : St} (H : Rdim h w A B) {x y : Int32} : atH A x y = if hsM B x y = 0 then 1 else 0 := by
  obtain ⟨-, w2, -, q2, a1, a2, -, -, b1, b2⟩ := H
  unfold atH hsM
  rw [a1, a2, b1, b2]
  by_cases e1 : wi x 0 (nI w - 1) = 0
  · rw [if_pos e1, if_pos e1]; rfl
  · rw [if_neg e1, if_neg e1]
    by_cases e2 : wi y 0 (nI h - 1) = 0
    · rw [if_pos e2, if_pos e2]; rfl
    · rw [if_neg e2, if_neg e2]; rfl
theorem at_32 {a b : Nat} (ha : a < 32) (hb : b < 32) : ((32 : Int32) * nI b + nI a).toNatClampNeg = 32 * b + a := by
  rw [show (32 : Int32) * nI b = nI (32 * b) from by rw [show (32 : Int32) = nI 32 from rfl, pk_mul], nI_add, nI_clamp (by omega)]
theorem at_v {h w : Nat} {A B : St} (H : Rl h w A B) {x y : Int32} (hs : ¬ hsM B x y = 0) : (if ushr (lnS A 4 h y) x &&& 1 = 1 then (1 : Int32) else 0) = if B.1 23 (32 * y + x).toNatClampNeg = 0 then 0 else 1 := by
  obtain ⟨pw, ph, m, c, r, h1, h2, h3, -⟩ := H
  obtain ⟨a, b, ha, hb, rfl, rfl⟩ := hs_nat h1 hs
  obtain ⟨-, w2, -, q2, -⟩ := h1
  unfold lnS
  rw [if_neg (wi_ok hb (by omega)), nI_clamp (by omega), ubit1 (by omega), at_32 (by omega) (by omega), h3.1 b a hb (by omega)]
  cases bI9 (A.1 4 b) a <;> decide
