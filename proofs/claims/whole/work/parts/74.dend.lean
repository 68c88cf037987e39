/-! the end of decoding -/
theorem shl_nI {n k : Nat} (hk : k < 32) (h : n * 2 ^ k < 2 ^ 31) : nI n <<< (nI k &&& 31) = nI (n * 2 ^ k) := by
  apply Int32.toBitVec_inj.mp
  rw [bv_shl hk]
  apply BitVec.eq_of_toNat_eq
  have h1 : n ≤ n * 2 ^ k := Nat.le_mul_of_pos_right n (Nat.pow_pos (by decide))
  show ((BitVec.ofNat 32 n) <<< k).toNat = (BitVec.ofNat 32 (n * 2 ^ k)).toNat
  rw [BitVec.toNat_shiftLeft, BitVec.toNat_ofNat, BitVec.toNat_ofNat, Nat.shiftLeft_eq, Nat.mod_eq_of_lt (show n < 2 ^ 32 by omega)]
theorem im_all {S : St} {a : Nat} (n : Nat) (v0 : Int32) : nF (imF S a) n v0 = 0 ↔ v0 = 0 ∧ ∀ i, i < n → bI9 (S.1 27 ((a + i) / 8)) (7 - (a + i) % 8) = false := by
  induction n with
  | zero => exact ⟨fun h => ⟨h, fun i hi => by omega⟩, fun h => h.1⟩
  | succ n ih =>
    have es : nF (imF S a) (n + 1) v0 = imF S a n (nF (imF S a) n v0) := rfl
    rw [es]
    unfold imF
    rw [sub_7 (by omega), bit1 (by omega)]
    by_cases z : nF (imF S a) n v0 = 0
    · have z' := z
      unfold imF at z'
      rw [if_pos (by exact z)]
      obtain ⟨h1, h2⟩ := ih.mp z
      cases hb : bI9 (S.1 27 ((a + n) / 8)) (7 - (a + n) % 8) with
      | false =>
        rw [if_neg (by decide)]
        refine ⟨fun _ => ⟨h1, fun i hi => ?_⟩, fun _ => rfl⟩
        by_cases e : i = n
        · subst e; exact hb
        · exact h2 i (by omega)
      | true =>
        rw [if_pos (by decide)]
        refine ⟨fun h => absurd h (by decide), fun h => ?_⟩
        have := h.2 n (Nat.lt_succ_self n)
        rw [hb] at this
        cases this
    · rw [if_neg (by exact z)]
      refine ⟨fun h => absurd h (by decide), fun h => absurd (ih.mpr ⟨h.1, fun i hi => h.2 i (by omega)⟩) z⟩
theorem and_0 {x : Int32} {n : Nat} (hn : n < 32) : x &&& ((1 : Int32) <<< (nI n &&& 31) - 1) = 0 ↔ ∀ i, i < n → bI9 x i = false := by
  constructor
  · intro h i hi
    have h1 : bI9 (x &&& ((1 : Int32) <<< (nI n &&& 31) - 1)) i = false := by rw [h, bI_0]
    rw [bI_and, bI_ones hn] at h1
    simpa [hi] using h1
  · intro h
    apply eqI
    intro i _
    rw [bI_and, bI_ones hn, bI_0]
    by_cases z : i < n
    · rw [h i z]; rfl
    · simp [z]
theorem ar_im {cm a : Nat} {T U : St} (hB : Byt cm T U) (h1 : T.1 17 3 = nI a) (h2 : U.1 21 32 = nI a) (ha : a ≤ 8 * cm) (ha1 : 1 ≤ a) : arV T = if imM U = 0 then 1 else 0 := by
  obtain ⟨hc, a1, b1, hby⟩ := hB
  have eD : arD T = nI ((a + 7) / 8) := by
    unfold arD
    rw [h1, show (7 : Int32) = nI 7 from rfl, nI_add]
    exact shr_k (r := a + 7) (by omega) 3 (by decide)
  have h8 : (8 : Int32) * nI cm = nI (8 * cm) := by rw [show (8 : Int32) = nI 8 from rfl, pk_mul]
  have eI : imM U = 0 ↔ im0 U = 0 ∧ ∀ i, i < 8 * cm - a → bI9 (U.1 27 ((a + i) / 8)) (7 - (a + i) % 8) = false := by
    have : imM U = nF (imF U a) (8 * cm - a) (im0 U) := by
      unfold imM atM
      rw [h2, b1, nI_clamp (by omega), nI_clamp (by omega)]
    rw [this]
    exact im_all _ _
  have e0 : im0 U = 0 ↔ 8 * cm ≤ a + 7 := by
    unfold im0
    rw [h2, b1, h8, show (7 : Int32) = nI 7 from rfl, nI_add]
    by_cases z : 8 * cm ≤ a + 7
    · rw [if_pos (nI_le z (by omega))]; exact ⟨fun _ => z, fun _ => rfl⟩
    · rw [if_neg (nI_ge (by omega) (by omega))]; exact ⟨fun h => absurd h (by decide), fun h => absurd h z⟩
  unfold arV
  rw [eD, a1]
  by_cases z : (a + 7) / 8 < cm
  · rw [if_pos (nI_lt z (by omega)), if_neg]
    intro h
    have := e0.mp (eI.mp h).1
    omega
  · rw [if_neg (nI_nlt (by omega) (by omega))]
    have ec : (a + 7) / 8 = cm := by omega
    have es : nI cm - 1 = nI (cm - 1) := sub_nn (n := 1) (by omega)
    rw [ec, es, if_neg (wi_ok (by omega) (by decide)), nI_clamp (by omega)]
    have e3 : nI cm <<< (3 &&& 31) - T.1 17 3 = nI (8 * cm - a) := by
      rw [h1, show nI cm <<< (3 &&& 31) = nI (cm * 2 ^ 3) from shl_nI (k := 3) (by decide) (by omega), show cm * 2 ^ 3 = 8 * cm by omega]
      exact sub_nn ha
    rw [e3]
    obtain ⟨v, hv, f1, f2⟩ := hby (cm - 1) (by omega)
    have hb : (T.1 18 (cm - 1) &&& ((1 : Int32) <<< (nI (8 * cm - a) &&& 31) - 1) = 0) ↔ imM U = 0 := by
      rw [and_0 (by omega), eI, e0]
      constructor
      · intro h
        refine ⟨by omega, fun i hi => ?_⟩
        have := h (8 * cm - a - 1 - i) (by omega)
        rw [f2, bI_b8 (by omega)] at this
        rw [show (a + i) / 8 = cm - 1 by omega, show 7 - (a + i) % 8 = 8 * cm - a - 1 - i by omega, f1]
        exact this
      · intro h i hi
        have := h.2 (8 * cm - a - 1 - i) (by omega)
        rw [show (a + (8 * cm - a - 1 - i)) / 8 = cm - 1 by omega, show 7 - (a + (8 * cm - a - 1 - i)) % 8 = i by omega, f1] at this
        rw [f2, bI_b8 (by omega)]
        exact this
    by_cases y : imM U = 0
    · rw [if_pos y, if_pos (hb.mpr y)]
    · rw [if_neg y, if_neg (fun q => y (hb.mp q))]
theorem gg_lt {S : St} {M : Int32} (hM : 0 < M) (n : Nat) : ggC S n < M ↔ ∀ i, i < n → gcC (S.1 10 i) < M := by
  induction n with
  | zero => exact ⟨fun _ i hi => by omega, fun _ => hM⟩
  | succ n ih =>
    have es : ggC S (n + 1) = if ggC S n < gcC (S.1 10 n) then gcC (S.1 10 n) else ggC S n := rfl
    rw [es]
    by_cases z : ggC S n < gcC (S.1 10 n)
    · rw [if_pos z]
      constructor
      · intro h i hi
        by_cases e : i = n
        · subst e; exact h
        · exact ih.mp (Int32.lt_trans z h) i (by omega)
      · intro h
        exact h n (Nat.lt_succ_self n)
    · rw [if_neg z]
      constructor
      · intro h i hi
        by_cases e : i = n
        · subst e; exact Int32.lt_of_le_of_lt (Int32.not_lt.mp z) h
        · exact ih.mp h i (by omega)
      · intro h
        exact ih.mpr (fun i hi => h i (by omega))
theorem rf_all {S : St} (n : Nat) : rfA S n = true ↔ ∀ i, i < n → S.1 32 i < S.1 21 7 := by
  induction n with
  | zero => exact ⟨fun _ i hi => by omega, fun _ => rfl⟩
  | succ n ih =>
    show (rfA S n && decide (S.1 32 n < S.1 21 7)) = true ↔ _
    rw [Bool.and_eq_true, ih, decide_eq_true_eq]
    constructor
    · intro h i hi
      by_cases e : i = n
      · subst e; exact h.2
      · exact h.1 i (by omega)
    · intro h
      exact ⟨fun i hi => h i (by omega), h n (Nat.lt_succ_self n)⟩
/-! how many places a plane has -/
theorem sm_const {c : Nat} (n : Nat) : sm (fun _ => c) n = c * n := by
  induction n with
  | zero => rfl
  | succ n ih => show sm _ n + c = c * (n + 1); rw [ih, Nat.mul_succ]
theorem sm_grid {c r : Nat} (hc : c ≤ 16) (hr : r ≤ 16) : sm (fun k => if k % 16 < c ∧ k / 16 < r then 1 else 0) 256 = c * r := by
  rw [show 256 = 16 * 16 from rfl, sm_mul]
  rw [show c * r = sm (fun _ => c) r from (sm_const r).symm, ← sm_lt hr]
  apply sm_congr
  intro y hy
  by_cases z : y < r
  · rw [if_pos z, show c = sm (fun _ => 1) c from by rw [sm_const, Nat.one_mul], ← sm_lt hc]
    apply sm_congr
    intro x hx
    rw [show (16 * y + x) % 16 = x by omega, show (16 * y + x) / 16 = y by omega]
    rw [show sm (fun i => if i < c then 1 else 0) 16 = c from by rw [sm_lt hc, sm_const, Nat.one_mul]]
    by_cases z2 : x < c
    · rw [if_pos ⟨z2, z⟩, if_pos z2]
    · rw [if_neg (fun y => z2 y.1), if_neg z2]
  · rw [if_neg z]
    apply sm_0
    intro x hx
    rw [show (16 * y + x) / 16 = y by omega, if_neg (fun q => z q.2)]
theorem pl_eq {h w pw ph m c r : Nat} {A B : St} (H1 : Rdim h w A B) (H2 : Rpat pw ph m A B) (H3 : Rgrd c r A B) (H4 : Rway A B) : ∃ PL, PL ≤ 256 ∧ dcP A c r = nI PL ∧ plM B = nI PL := by
  have c2 : c ≤ 16 := H3.2.1
  have r2 : r ≤ 16 := H3.2.2.2.1
  have b1 := H3.2.2.2.2.2.2.1
  have b2 := H3.2.2.2.2.2.2.2.1
  have eP : plM B = nI (sm (fun k => if k % 16 < c ∧ k / 16 < r then (if skM B (nI (k % 16)) (nI (k / 16)) = 0 then 1 else 0) else 0) 256) := by
    rw [← nF_sm]
    unfold plM
    apply nF_congr
    intro k t hk
    unfold plF
    congr 1
    rw [hp_of b1 b2 c2 r2 (by omega) (by omega)]
    by_cases z : k % 16 < c ∧ k / 16 < r
    · rw [if_pos z, if_pos z, if_neg (by decide)]
      split <;> rfl
    · rw [if_neg z, if_neg z, if_pos rfl]; rfl
  have eO : poH A c r = nI (sm (fun k => if k % 16 < c ∧ k / 16 < r then (if ouM B (nI (k % 16)) (nI (k / 16)) = 0 then 0 else 1) else 0) 256) := by
    rw [cnt_out H1 H2 H3, ← nF_sm]
    apply nF_congr
    intro k t hk
    unfold gdQ
    congr 1
    rw [hp_of b1 b2 c2 r2 (by omega) (by omega)]
    by_cases z : k % 16 < c ∧ k / 16 < r
    · rw [if_pos z, if_pos z, if_neg (by decide)]
      split <;> rfl
    · rw [if_neg z, if_neg z, if_pos rfl]; rfl
  have hle : sm (fun k => if k % 16 < c ∧ k / 16 < r then (if skM B (nI (k % 16)) (nI (k / 16)) = 0 then 1 else 0) else 0) 256 ≤ 256 := by
    have := sm_le (f := fun k => if k % 16 < c ∧ k / 16 < r then (if skM B (nI (k % 16)) (nI (k / 16)) = 0 then 1 else 0) else 0) (b := 1) 256 (fun i _ => by
      show (if i % 16 < c ∧ i / 16 < r then (if skM B (nI (i % 16)) (nI (i / 16)) = 0 then 1 else 0) else 0) ≤ 1
      repeat' split
      all_goals omega)
    omega
  refine ⟨_, hle, ?_, eP⟩
  unfold dcP
  rw [H3.2.2.2.2.1, H3.2.2.2.2.2.1, H4.2.2.2.2.1, pk_mul]
  rcases H4.2.2.2.2.2 with z | z
  · rw [z, if_neg (by decide), ← sm_grid c2 r2]
    rw [show nI (sm (fun k => if k % 16 < c ∧ k / 16 < r then 1 else 0) 256) - 0 = nI (sm (fun k => if k % 16 < c ∧ k / 16 < r then 1 else 0) 256) from Int32.sub_zero _]
    refine congrArg nI (sm_congr 256 (fun k hk => ?_))
    by_cases y : k % 16 < c ∧ k / 16 < r
    · have e9 : skM B (nI (k % 16)) (nI (k / 16)) = 0 := by
        unfold skM
        rw [z, if_neg (by decide)]
      rw [if_pos y, if_pos y, e9, if_pos rfl]
    · rw [if_neg y, if_neg y]
  · rw [z, if_pos rfl, eO, ← sm_grid c2 r2]
    have hs : sm (fun k => if k % 16 < c ∧ k / 16 < r then 1 else 0) 256 = sm (fun k => if k % 16 < c ∧ k / 16 < r then (if skM B (nI (k % 16)) (nI (k / 16)) = 0 then 1 else 0) else 0) 256 + sm (fun k => if k % 16 < c ∧ k / 16 < r then (if ouM B (nI (k % 16)) (nI (k / 16)) = 0 then 0 else 1) else 0) 256 := by
      rw [← sm_plus]
      apply sm_congr
      intro k hk
      by_cases y : k % 16 < c ∧ k / 16 < r
      · rw [if_pos y, if_pos y, if_pos y]
        unfold skM
        rw [z, if_pos rfl]
        by_cases x : ouM B (nI (k % 16)) (nI (k / 16)) = 0
        · rw [if_pos x, if_pos x, if_pos rfl]
        · rw [if_neg x, if_neg x, if_neg (by decide)]
      · rw [if_neg y, if_neg y, if_neg y]
    rw [hs, ← nI_add, Int32.add_sub_cancel]
theorem pl_21 {S T : St} (h : ∀ k, 1 ≤ k → k < 29 → S.1 21 k = T.1 21 k) : plM S = plM T := by
  unfold plM
  apply nF_congr
  intro i t hi
  unfold plF hpM skM ouM xM yM
  rw [h 9 (by decide) (by decide), h 10 (by decide) (by decide), h 18 (by decide) (by decide), h 11 (by decide) (by decide), h 12 (by decide) (by decide), h 13 (by decide) (by decide), h 14 (by decide) (by decide), h 5 (by decide) (by decide), h 6 (by decide) (by decide), h 1 (by decide) (by decide), h 2 (by decide) (by decide)]
theorem tg_all {T : St} {c r : Nat} (hc : c ≤ 16) (hr : r ≤ 16) : (∀ o q, (tgH T c r).1 o q = if o = 8 ∧ q < 256 ∧ (q % 16 < c ∧ q / 16 < r) then gcC (T.1 10 q) else T.1 o q) ∧ (tgH T c r).2 = T.2 := by
  unfold tgH
  rw [pO_256 hc hr]
  have key := nF_rel (f := fun k t => if k % 16 < c ∧ k / 16 < r then tgF (k % 16) (k / 16) t else t) (g := fun _ (u : Unit) => u) (R := fun k (S : St) (_ : Unit) => (∀ o q, S.1 o q = if o = 8 ∧ q < k ∧ (q % 16 < c ∧ q / 16 < r) then gcC (T.1 10 q) else T.1 o q) ∧ S.2 = T.2) 256 (s := T) (t := ()) ?_ ?_
  · exact key
  · intro k S _ hk ⟨g1, g2⟩
    by_cases hin : k % 16 < c ∧ k / 16 < r
    · have e : (if k % 16 < c ∧ k / 16 < r then tgF (k % 16) (k / 16) S else S) = puI S 8 k (gcC (T.1 10 k)) := by
        rw [if_pos hin]
        unfold tgF cgS grC
        rw [if_neg (plc_of (by omega) (by omega)).2, if_neg (plc_of (by omega) (by omega)).2, (plc_of (by omega) (by omega)).1, nI_clamp (by omega), show 16 * (k / 16) + k % 16 = k by omega, g1, if_neg (by omega)]
      rw [e]
      refine ⟨fun o q => ?_, g2⟩
      rw [puI_at, g1]
      by_cases z : o = 8 ∧ q = k
      · rw [if_pos z, z.2, if_pos ⟨z.1, by omega, hin⟩]
      · rw [if_neg z]
        by_cases z2 : o = 8 ∧ q < k ∧ (q % 16 < c ∧ q / 16 < r)
        · rw [if_pos z2, if_pos ⟨z2.1, by omega, z2.2.2⟩]
        · rw [if_neg z2, if_neg (by omega)]
    · rw [if_neg hin]
      refine ⟨fun o q => ?_, g2⟩
      rw [g1]
      by_cases z2 : o = 8 ∧ q < k ∧ (q % 16 < c ∧ q / 16 < r)
      · rw [if_pos z2, if_pos ⟨z2.1, by omega, z2.2.2⟩]
      · rw [if_neg z2, if_neg (fun y => z2 ⟨y.1, by
          by_cases e : q = k
          · subst e; exact absurd y.2.2 hin
          · omega, y.2.2⟩)]
  · refine ⟨fun o q => ?_, rfl⟩
    rw [if_neg (by omega)]
theorem cy_all {T : St} (n : Nat) : (∀ o k, (nF cyF n T).1 o k = if o = 25 ∧ k < n then T.1 32 k else T.1 o k) ∧ (nF cyF n T).2 = T.2 := by
  induction n with
  | zero =>
    refine ⟨fun o k => ?_, rfl⟩
    rw [if_neg (by omega)]
    rfl
  | succ n ih =>
    obtain ⟨e1, e2⟩ := ih
    have es : nF cyF (n + 1) T = cyF n (nF cyF n T) := rfl
    rw [es]
    clear es
    generalize nF cyF n T = z at *
    have e32 : z.1 32 n = T.1 32 n := by rw [e1, if_neg (by omega)]
    unfold cyF
    rw [e32]
    refine ⟨fun o k => ?_, e2⟩
    rw [puI_at, e1]
    by_cases h1 : o = 25 ∧ k = n
    · rw [if_pos h1, if_pos (by omega), h1.2]
    · rw [if_neg h1]
      by_cases h2 : o = 25 ∧ k < n
      · rw [if_pos h2, if_pos (by omega)]
      · rw [if_neg h2, if_neg (by omega)]
