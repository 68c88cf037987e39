/-! ordered patterns -/
theorem rk_all : ∀ n, n < 8 → ∀ y, y < n → ∀ x, x < n → rkN (keB (nI x) (nI y)) n n = rkM n (n * y + x) := by decide +kernel
def orG (n x y : Nat) (T : St) : St := orF n (n * y + x) T
theorem or_pO {n : Nat} (hn : 0 < n) {T : St} : nF (orF n) (n * n) T = pO (orG n) n n T := by
  rw [← nF_pO hn]
  apply nF_congr
  intro c t _
  unfold orG
  rw [Nat.div_add_mod]
def toG (n x y : Nat) (S : St) : St := toS S x y (rkN (keB (nI x) (nI y)) n n) (n * n - rkN (keB (nI x) (nI y)) n n)
theorem ox_pI {n y : Nat} {S : St} (x : Nat) : oxS S n y x = pI (toG n) y x S := by
  induction x with
  | zero => rfl
  | succ x ih =>
    show toS (oxS S n y x) x y _ _ = toG n x y (pI (toG n) y x S)
    rw [ih]
    rfl
theorem oy_pO {n : Nat} {S : St} (y : Nat) : oyS S n y = pO (toG n) n y S := by
  induction y with
  | zero => rfl
  | succ y ih =>
    show oxS (oyS S n y) n y n = pI (toG n) y n (pO (toG n) n y S)
    rw [ih, ox_pI]
def orI (n x y : Nat) (S T : St) : Prop := Rcel S T ∧ ∀ k x' y', k < 64 → x' < n → y' < n → (y < y' ∨ (y' = y ∧ x ≤ x')) → T.1 24 (64 * k + (8 * y' + x')) = 0
theorem or_step {n x y : Nat} {S T : St} (hn : n < 8) (hx : x < n) (hy : y < n) (H : orI n x y S T) : orI n (x + 1) y (toG n x y S) (orG n x y T) := by
  unfold toG orG orF
  rw [rk_all n hn y hy x hx]
  generalize rkM n (n * y + x) = r
  have hnn : n * n ≤ 49 := Nat.le_trans (Nat.mul_le_mul (show n ≤ 7 by omega) (show n ≤ 7 by omega)) (by decide)
  have ey : (n * y + x) / n = y := by rw [Nat.mul_add_div (by omega), Nat.div_eq_of_lt hx, Nat.add_zero]
  have ex : (n * y + x) % n = x := by rw [Nat.mul_add_mod, Nat.mod_eq_of_lt hx]
  have key : ∀ t, t ≤ n * n - r → Rcel (toS S x y r t) (nF (o1F n (n * y + x) r) t T) ∧ (∀ q, (¬ ∃ k, k < r + 1 + t ∧ q = 64 * k + (8 * y + x)) → (nF (o1F n (n * y + x) r) t T).1 24 q = T.1 24 q) := by
    intro t ht
    induction t with
    | zero => exact ⟨H.1, fun _ _ => rfl⟩
    | succ t ih =>
      obtain ⟨g1, g2⟩ := ih (by omega)
      have es : toS S x y r (t + 1) = tnB (toS S x y r t) (nI (r + 1 + t)) (nI x) (nI y) := rfl
      have em : nF (o1F n (n * y + x) r) (t + 1) T = puI (nF (o1F n (n * y + x) r) t T) 24 (ix (nI (r + 1 + t)) (nI x) (nI y)) (vp_nar .boolean (b2I true)) := by
        rw [ix_n (by omega) (by omega) (by omega)]
        show o1F n (n * y + x) r t (nF (o1F n (n * y + x) r) t T) = _
        rw [o1F, ey, ex, Nat.add_assoc (64 * (r + 1 + t))]
        rfl
      rw [es, em]
      have e0 : (nF (o1F n (n * y + x) r) t T).1 24 (64 * (r + 1 + t) + (8 * y + x)) = 0 := by
        rw [g2 _ (by rintro ⟨k, h1, h2⟩; omega)]
        exact H.2 (r + 1 + t) x y (by omega) hx hy (Or.inr ⟨rfl, Nat.le_refl _⟩)
      have eid : idB (toS S x y r t) (nI (r + 1 + t)) (nI x) (nI y) = 0 := by
        rw [← cel_v g1 (by omega) (by omega) (by omega), ix_n (by omega) (by omega) (by omega), e0]
      have hput := cel_put (v := true) g1 (k := r + 1 + t) (a := x) (b := y) (by omega) (by omega) (by omega)
      rw [eid, if_neg (by decide)] at hput
      refine ⟨hput, fun q hq => ?_⟩
      rw [puI_at, ix_n (by omega) (by omega) (by omega), if_neg (fun z => hq ⟨r + 1 + t, by omega, z.2⟩)]
      exact g2 q (fun ⟨k, h1, h2⟩ => hq ⟨k, by omega, h2⟩)
  obtain ⟨g1, g2⟩ := key (n * n - r) (Nat.le_refl _)
  refine ⟨g1, fun k x' y' hk hx' hy' hv => ?_⟩
  rw [g2 _ (by rintro ⟨k', h1, h2⟩; omega)]
  exact H.2 k x' y' hk hx' hy' (by omega)
theorem to_1 {S : St} {x y r : Nat} (t : Nat) : (toS S x y r t).1 = S.1 := by
  induction t with
  | zero => rfl
  | succ t ih => rw [← ih]; exact tn_1
theorem or_1 {n : Nat} {S : St} : (oyS S n n).1 = S.1 := by
  rw [oy_pO]
  exact pO_iv (I := fun T : St => T.1 = S.1) n (fun i j t _ _ e => (to_1 _).trans e) rfl
theorem or_f {n : Nat} {T : St} : (∀ o k, o ≠ 24 → (nF (orF n) (n * n) T).1 o k = T.1 o k) ∧ (nF (orF n) (n * n) T).2 = T.2 := by
  have h1 := nF_iv (f := orF n) (I := fun U : St => (∀ o k, o ≠ 24 → U.1 o k = T.1 o k) ∧ U.2 = T.2) (n * n) (s := T) (fun i U _ e => by
    unfold orF
    exact nF_iv (f := o1F n i (rkM n i)) (I := fun U : St => (∀ o k, o ≠ 24 → U.1 o k = T.1 o k) ∧ U.2 = T.2) _ (fun i V _ e => ⟨fun o k ho => by
      unfold o1F
      rw [puI_at, if_neg (by omega)]
      exact e.1 o k ho, e.2⟩) e) ⟨fun _ _ _ => rfl, rfl⟩
  exact h1
theorem okO_n {q : Int32} (h : okO q = 0) : ∃ n, 1 ≤ n ∧ n ≤ 7 ∧ q = nI n := by
  have h9 : ¬ wi q 1 7 = 0 := fun z => absurd h (by rw [okO, if_pos z]; decide)
  obtain ⟨n, n1, n2, rfl⟩ := wi_1x (n := 7) (by decide) h9
  exact ⟨n, n1, n2, rfl⟩
theorem okP_nn : ∀ n, 1 ≤ n → n ≤ 7 → okP (nI n) (nI n) (nI (n * n + 1)) = 0 := by
  intro n h1 h2
  have : ∀ n, n < 8 → 1 ≤ n → okP (nI n) (nI n) (nI (n * n + 1)) = 0 := by decide +kernel
  exact this n (by omega) h1
theorem q_ordered {h w n : Nat} {A B : St} (H : Rl h w A B) (n1 : 1 ≤ n) (n7 : n ≤ 7) : Rl h w (ptS A n) (orM B n) := by
  have H0 := q_patterns H (okP_nn n n1 n7)
  have hc : Rcel (oyS (bgB A (nI n) (nI n) (nI (n * n + 1))) n n) (orM B n) := by
    obtain ⟨pw, ph, m, c, r, h1, h2, h3, h4, h5, -⟩ := H0
    unfold orM
    rw [or_pO (by omega), oy_pO]
    have := pO_rel (f := toG n) (g := orG n) (R := orI n) (c := n) n (s := bgB A (nI n) (nI n) (nI (n * n + 1))) (t := blM (puI B 21 0 0) (nI n) (nI n) (nI (n * n + 1))) (fun i j x y hi hj hR => or_step (by omega) hi hj hR) (fun j x y hj hR => ⟨hR.1, fun k x' y' hk hx' hy' hv => hR.2 k x' y' hk hx' hy' (by omega)⟩) ⟨h5.mv (fun k => rfl) (fun k => rfl), fun k x' y' hk hx' hy' hv => ?_⟩
    · exact this.1
    · have e2 : 64 * k + (8 * y' + x') < 4096 := by omega
      simp [blM, flI_at, nar_0, e2]
  obtain ⟨pw, ph, m, c, r, h1, h2, h3, h4, h5, h6, h7, h8, h9, h10, h11, h12⟩ := H0
  have FA : ∀ o k, (ptS A n).1 o k = (pnS A (nI n) (nI n) (nI (n * n + 1))).1 o k := fun o k => by
    unfold ptS pnS orS
    rw [flI_at, flI_at, or_1]
  have FB : ∀ o k, o ≠ 24 → (orM B n).1 o k = (blM (puI B 21 0 0) (nI n) (nI n) (nI (n * n + 1))).1 o k := fun o k ho => or_f.1 o k ho
  refine ⟨pw, ph, m, c, r, h1.mv (fun o k e => FA o k) (fun k e => FB 21 k (by decide)), h2.mv (fun k => FA 2 k) (fun k => FB 22 k (by decide)), h3.mv (fun k => FA 4 k) (fun k => FB 23 k (by decide)), h4.mv (fun k => FA 5 k) (fun k e => FB 21 k (by decide)), hc.mv (fun k => rfl) (fun k => rfl), h6.mv (fun k => FA 7 k) (fun k e1 e2 => FB 21 k (by decide)), h7.mv (fun k => FA 8 k) (fun k => FB 25 k (by decide)), h8.mv (fun k e1 e2 => FA 0 k) (fun k e1 e2 => FB 21 k (by decide)), h9.mv (FA 0 14) (FB 21 31 (by decide)), h10.mv (fun k => FA 12 k) (fun k => FA 13 k) (fun k => FB 28 k (by decide)) (fun k => FB 29 k (by decide)), h11.mv (FA 14 2) (fun k => FA 15 k) (fun k e => FB 21 k (by decide)) (fun k => FB 26 k (by decide)), h12.mv (FA 17 2) (fun k => FA 18 k) (FB 21 23 (by decide)) (fun k => FB 27 k (by decide))⟩
