/-! the dark samples under a pattern -/
theorem sm_lt {f : Nat → Nat} {p N : Nat} (h : p ≤ N) : sm (fun i => if i < p then f i else 0) N = sm f p := by
  obtain ⟨d, rfl⟩ := Nat.exists_eq_add_of_le h
  rw [sm_split, sm_0 d (fun i _ => if_neg (by omega)), Nat.add_zero]
  exact sm_congr p (fun i hi => if_pos hi)
/-- a sample of the page, or light outside of it -/
def smp (A : St) (o h : Nat) (x y : Int) : Bool := decide (0 ≤ x) && (decide (0 ≤ y) && (decide (y < h) && bI9 (A.1 o y.toNat) x.toNat))
theorem smp_n {A : St} {o h a b : Nat} (hb : b < h) : smp A o h (a : Int) (b : Int) = bI9 (A.1 o b) a := by
  unfold smp
  have h1 : (0 : Int) ≤ a := by omega
  have h2 : (0 : Int) ≤ b := by omega
  have h3 : (b : Int) < h := by omega
  simp [h1, h2, h3]
theorem smp_0 {A : St} {o h w : Nat} {x y : Int} (hz : ∀ y x, y < h → w ≤ x → bI9 (A.1 o y) x = false) (hn : x < 0 ∨ w ≤ x ∨ y < 0 ∨ h ≤ y) : smp A o h x y = false := by
  unfold smp
  by_cases h1 : 0 ≤ x
  · by_cases h2 : 0 ≤ y
    · by_cases h3 : y < h
      · rw [hz y.toNat x.toNat (by omega) (by omega)]; simp
      · simp [h3]
    · simp [h2]
  · simp [h1]
def cn9 (A : St) (h pw ph : Nat) (X Y : Int) : Nat := sm (fun v => sm (fun u => b2N (smp A 2 h (X + u) (Y + v))) pw) ph
theorem hs_i {h w : Nat} {A B : St} (H : Rdim h w A B) {x y : Int32} : hsM B x y = if (0 ≤ x.toInt ∧ x.toInt < w) ∧ (0 ≤ y.toInt ∧ y.toInt < h) then 1 else 0 := by
  obtain ⟨-, w2, -, q2, -, -, -, -, b1, b2⟩ := H
  unfold hsM
  rw [b1, b2, wi_i w2, wi_i q2]
  by_cases e1 : 0 ≤ x.toInt ∧ x.toInt < w
  · by_cases e2 : 0 ≤ y.toInt ∧ y.toInt < h
    · simp [e1, e2]
    · simp [e1, e2]
  · simp [e1]
theorem cx_v {h w pw ph m : Nat} {A B : St} (H1 : Rdim h w A B) (H2 : Rpat pw ph m A B) (H3 : Rsh h w 2 22 A B) {i j : Int32} {u v : Nat} (hu : u < 8) (hv : v < 8) : (if B.1 21 5 ≤ nI u then (0 : Int32) else if B.1 21 6 ≤ nI v then 0 else if hsM B (xM B i j + nI u) (yM B i j + nI v) = 0 then 0 else if B.1 22 (32 * (yM B i j + nI v) + (xM B i j + nI u)).toNatClampNeg = 0 then 0 else 1) = nI (if v < ph then (if u < pw then b2N (smp A 2 h ((xM B i j).toInt + u) ((yM B i j).toInt + v)) else 0) else 0) := by
  have hx := add_i (n := u) (x_b B i j) (by omega)
  have hy := add_i (n := v) (y_b B i j) (by omega)
  have e0 := hs_i (x := xM B i j + nI u) (y := yM B i j + nI v) H1
  rw [hx, hy] at e0
  obtain ⟨-, w2, -, q2, -, -, -, -, b1, b2⟩ := H1
  obtain ⟨-, p2, -, p4, -, -, -, -, b3, b4, -⟩ := H2
  rw [b3, b4]
  by_cases e1 : u < pw
  · rw [if_neg (nI_ge e1 (by omega))]
    by_cases e2 : v < ph
    · rw [if_neg (nI_ge e2 (by omega)), if_pos e2, if_pos e1, e0]
      by_cases e3 : (0 ≤ (xM B i j).toInt + u ∧ (xM B i j).toInt + u < w) ∧ (0 ≤ (yM B i j).toInt + v ∧ (yM B i j).toInt + v < h)
      · rw [if_pos e3, if_neg (by decide)]
        obtain ⟨f1, -⟩ := to_n (z := xM B i j + nI u) (by rw [hx]; omega)
        obtain ⟨f2, -⟩ := to_n (z := yM B i j + nI v) (by rw [hy]; omega)
        rw [f1, f2, hx, hy, at_32 (by omega) (by omega), H3.1 _ _ (by omega) (by omega)]
        have f3 := smp_n (A := A) (o := 2) (h := h) (a := ((xM B i j).toInt + u).toNat) (b := ((yM B i j).toInt + v).toNat) (by omega)
        rw [Int.toNat_of_nonneg e3.1.1, Int.toNat_of_nonneg e3.2.1] at f3
        rw [f3]
        cases bI9 (A.1 2 ((yM B i j).toInt + v).toNat) ((xM B i j).toInt + u).toNat <;> decide
      · rw [if_neg e3, if_pos rfl, smp_0 H3.2.1 (by omega)]
        rfl
    · rw [if_pos (nI_le (by omega) (by omega)), if_neg e2]; rfl
  · rw [if_pos (nI_le (by omega) (by omega))]
    by_cases e2 : v < ph
    · rw [if_pos e2, if_neg e1]; rfl
    · rw [if_neg e2]; rfl
theorem cn_val {h w pw ph m : Nat} {A B : St} (H1 : Rdim h w A B) (H2 : Rpat pw ph m A B) (H3 : Rsh h w 2 22 A B) {i j : Int32} : cnM B i j = nI (cn9 A h pw ph (xM B i j).toInt (yM B i j).toInt) := by
  have p2 : pw ≤ 8 := H2.2.1
  have p4 : ph ≤ 8 := H2.2.2.2.1
  unfold cnM cn9
  have e : nF (cxF B i j) 64 0 = nF (fun c a => a + nI (if c / 8 < ph then (if c % 8 < pw then b2N (smp A 2 h ((xM B i j).toInt + ((c % 8 : Nat) : Int)) ((yM B i j).toInt + ((c / 8 : Nat) : Int))) else 0) else 0)) 64 0 := by
    apply nF_congr
    intro c t hc
    unfold cxF
    rw [cx_v H1 H2 H3 (by omega) (by omega)]
  rw [e, nF_sm, show 64 = 8 * 8 from rfl, sm_mul]
  congr 1
  rw [← sm_lt p4]
  apply sm_congr
  intro v hv
  by_cases e1 : v < ph
  · rw [if_pos e1, ← sm_lt p2]
    apply sm_congr
    intro u hu
    rw [show (8 * v + u) / 8 = v by omega, show (8 * v + u) % 8 = u by omega, if_pos e1]
  · rw [if_neg e1]
    apply sm_0
    intro u hu
    rw [show (8 * v + u) / 8 = v by omega, if_neg e1]
theorem cn_le {A : St} {h pw ph : Nat} {X Y : Int} (p2 : pw ≤ 8) (p4 : ph ≤ 8) : cn9 A h pw ph X Y ≤ 64 := by
  unfold cn9
  have h1 : ∀ v, v < ph → sm (fun u => b2N (smp A 2 h (X + u) (Y + v))) pw ≤ 8 := fun v _ => by
    have := sm_le (f := fun u : Nat => b2N (smp A 2 h (X + u) (Y + v))) (b := 1) pw (fun i _ => by unfold b2N; split <;> omega)
    omega
  have := sm_le (b := 8) ph h1
  omega
/-- the same sum by the page's own lines -/
def gn9 (A : St) (h pw : Nat) (X : Int) (y : Int) : Nat := sm (fun x => if X ≤ x ∧ (x : Int) < X + pw then b2N (smp A 2 h x y) else 0) 32
theorem cn_rows {h w pw ph : Nat} {A : St} (w2 : w ≤ 32) (hz : ∀ y x, y < h → w ≤ x → bI9 (A.1 2 y) x = false) {X Y : Int} : cn9 A h pw ph X Y = sm (fun y => if Y ≤ y ∧ (y : Int) < Y + ph then gn9 A h pw X y else 0) h := by
  have e1 : ∀ y : Int, sm (fun u => b2N (smp A 2 h (X + u) y)) pw = gn9 A h pw X y := fun y => by
    exact sm_win (F := fun t => b2N (smp A 2 h t y)) (N := 32) (fun t ht => by
      show b2N (smp A 2 h t y) = 0
      rw [smp_0 hz (by omega)]; rfl) pw
  unfold cn9
  rw [sm_congr ph (fun v _ => e1 (Y + v))]
  exact sm_win (F := fun t => gn9 A h pw X t) (N := h) (fun t ht => by
    show gn9 A h pw X t = 0
    unfold gn9
    apply sm_0
    intro x _
    rw [smp_0 hz (by omega)]
    split <;> rfl) ph
theorem du_val {h w pw ph m c r : Nat} {A B : St} (H1 : Rdim h w A B) (H2 : Rpat pw ph m A B) (H6 : Rgrd c r A B) (H3 : Rsh h w 2 22 A B) {i j : Int32} : duH A h i j = nI (cn9 A h pw ph (xM B i j).toInt (yM B i j).toInt) := by
  have w2 : w ≤ 32 := H1.2.1
  have q2 : h ≤ 32 := H1.2.2.2.1
  have p2 : pw ≤ 8 := H2.2.1
  have p4 : ph ≤ 8 := H2.2.2.2.1
  unfold duH
  rw [ou_ou H1 H2 H6, (lf_x H6).1]
  by_cases ho : ouM B i j = 0
  · rw [if_pos ho]
    obtain ⟨g1, g2, g3, g4⟩ := (ou_i (c := c) (r := r) H1 H2).mp ho
    obtain ⟨f1, f2⟩ := ra_rb H1 H2 H6 ho
    rw [cn_rows w2 H3.2.1]
    generalize hX : (xM B i j).toInt = X at *
    generalize hY : (yM B i j).toInt = Y at *
    have cb : ∀ x, bI9 (cuH A (xM B i j)) x = (decide (X ≤ x ∧ (x : Int) < X + pw) && decide (x < w)) := fun x => by rw [← hX]; exact cu_bit H1 H2 (by omega) (by omega)
    have row : ∀ y, y < h → bcI (lnS A 2 h (nI y) &&& cuH A (xM B i j)) = nI (gn9 A h pw X y) := fun y hy => by
      unfold lnS
      rw [if_neg (wi_ok hy (by omega)), nI_clamp (by omega), bc_sm]
      congr 1
      unfold gn9
      apply sm_congr
      intro x hx
      rw [bI_and, cb, smp_n hy]
      by_cases e1 : X ≤ x ∧ (x : Int) < X + pw
      · rw [if_pos e1]
        by_cases e2 : x < w
        · simp [e1, e2]
        · rw [H3.2.1 y x hy (by omega)]; rfl
      · rw [if_neg e1]
        simp [e1, b2N]
    have da : ∀ n, raH A i j + n ≤ h → duA A h (cuH A (xM B i j)) (raH A i j) n = nI (sm (fun t => gn9 A h pw X ((raH A i j : Int) + t)) n) := by
      intro n hn
      induction n with
      | zero => rfl
      | succ n ih =>
        show duA A h _ _ n + bcI (lnS A 2 h (nI (raH A i j + n)) &&& _) = nI (sm _ n + _)
        rw [ih (by omega), row _ (by omega), nI_add, Int.natCast_add]
    rw [da _ (by omega)]
    congr 1
    have hw := sm_win (F := fun t => if 0 ≤ t ∧ t < h then gn9 A h pw X t else 0) (X := (raH A i j : Int)) (N := h) (fun t ht => if_neg (by omega)) (rbH A i j - raH A i j)
    have e9 : sm (fun t => gn9 A h pw X ((raH A i j : Int) + t)) (rbH A i j - raH A i j) = sm (fun u : Nat => if 0 ≤ ((raH A i j : Int) + u) ∧ ((raH A i j : Int) + u) < h then gn9 A h pw X ((raH A i j : Int) + u) else 0) (rbH A i j - raH A i j) := sm_congr _ (fun t ht => by rw [if_pos (by omega)])
    rw [e9, hw]
    apply sm_congr
    intro y hy
    by_cases e1 : Y ≤ y ∧ (y : Int) < Y + ph
    · rw [if_pos e1, if_pos (by omega), if_pos (by omega)]
    · rw [if_neg e1, if_neg (by omega)]
  · rw [if_neg ho]
    have hn : ¬ (0 < (xM B i j).toInt + pw ∧ (xM B i j).toInt < w ∧ 0 < (yM B i j).toInt + ph ∧ (yM B i j).toInt < h) := fun z => ho ((ou_i (c := c) (r := r) H1 H2).mpr z)
    have e0 : cn9 A h pw ph (xM B i j).toInt (yM B i j).toInt = 0 := by
      unfold cn9
      apply sm_0
      intro v hv
      apply sm_0
      intro u hu
      rw [smp_0 H3.2.1 (by omega)]; rfl
    rw [e0]
    rfl
theorem count_eq {h w : Nat} {A B : St} (H : Rl h w A B) {i j : Int32} : ∃ N, N ≤ 64 ∧ duH A h i j = nI N ∧ cnM B i j = nI N := by
  obtain ⟨pw, ph, m, c, r, h1, h2, h3, h4, h5, h6, -⟩ := H
  exact ⟨_, cn_le h4.2.1 h4.2.2.2.1, du_val h1 h4 h6 h2, cn_val h1 h4 h2⟩
