/-! what a step may write; loops; reading the store -/
def fp (P : Nat → Nat → Prop) (S T : St) : Prop := (∀ o k, ¬ P o k → T.1 o k = S.1 o k) ∧ T.2 = S.2
theorem fp_refl {P : Nat → Nat → Prop} {S : St} : fp P S S := ⟨fun _ _ _ => rfl, rfl⟩
theorem fp_trans {P : Nat → Nat → Prop} {S T U : St} (a : fp P S T) (b : fp P T U) : fp P S U := ⟨fun o k h => (b.1 o k h).trans (a.1 o k h), b.2.trans a.2⟩
theorem fp_mono {P Q : Nat → Nat → Prop} {S T : St} (a : fp P S T) (h : ∀ o k, P o k → Q o k) : fp Q S T := ⟨fun o k hn => a.1 o k (fun z => hn (h o k z)), a.2⟩
theorem puI_at {S : St} {o k : Nat} {v : Int32} {o' k' : Nat} : (puI S o k v).1 o' k' = if o' = o ∧ k' = k then v else S.1 o' k' := by
  unfold puI pt upd
  by_cases h : o' = o
  · subst h
    by_cases h2 : k' = k
    · simp [h2]
    · simp [h2]
  · simp [h]
theorem flI_at {S : St} {o n : Nat} {v : Int32} {o' k' : Nat} : (flI S o v n).1 o' k' = if o' = o ∧ k' < n then v else S.1 o' k' := by
  unfold flI pt
  by_cases h : o' = o
  · subst h
    by_cases h2 : k' < n
    · simp [h2]
    · simp [h2]
  · simp [h]
theorem puI_2 {S : St} {o k : Nat} {v : Int32} : (puI S o k v).2 = S.2 := rfl
theorem flI_2 {S : St} {o n : Nat} {v : Int32} : (flI S o v n).2 = S.2 := rfl
theorem puL_1 {S : St} {o k : Nat} {v : Int64} : (puL S o k v).1 = S.1 := rfl
theorem flL_1 {S : St} {o n : Nat} {v : Int64} : (flL S o v n).1 = S.1 := rfl
theorem puL_at {S : St} {o k : Nat} {v : Int64} {o' k' : Nat} : (puL S o k v).2 o' k' = if o' = o ∧ k' = k then v else S.2 o' k' := by
  unfold puL ptL vp_updL
  by_cases h : o' = o
  · subst h
    by_cases h2 : k' = k
    · simp [h2]
    · simp [h2]
  · simp [h]
theorem flL_at {S : St} {o n : Nat} {v : Int64} {o' k' : Nat} : (flL S o v n).2 o' k' = if o' = o ∧ k' < n then v else S.2 o' k' := by
  unfold flL ptL
  by_cases h : o' = o
  · subst h
    by_cases h2 : k' < n
    · simp [h2]
    · simp [h2]
  · simp [h]
theorem puI_s {S : St} {o k : Nat} {v : Int32} : (puI S o k v).1 o k = v := by rw [puI_at, if_pos ⟨rfl, rfl⟩]
theorem fp_puI {P : Nat → Nat → Prop} {S : St} {o k : Nat} {v : Int32} (h : P o k) : fp P S (puI S o k v) := ⟨fun o' k' hn => by rw [puI_at, if_neg (fun e => hn (by rw [e.1, e.2]; exact h))], rfl⟩
theorem fp_flI {P : Nat → Nat → Prop} {S : St} {o n : Nat} {v : Int32} (h : ∀ k, P o k) : fp P S (flI S o v n) := ⟨fun o' k' hn => by rw [flI_at, if_neg (fun e => hn (by rw [e.1]; exact h k'))], rfl⟩
theorem fp_pu {P : Nat → Nat → Prop} {S T : St} {o k : Nat} {v : Int32} (h : P o k) (a : fp P S T) : fp P S (puI T o k v) := fp_trans a (fp_puI h)
theorem fp_fl {P : Nat → Nat → Prop} {S T : St} {o n : Nat} {v : Int32} (h : ∀ k, P o k) (a : fp P S T) : fp P S (flI T o v n) := fp_trans a (fp_flI h)
theorem fp_ite {P : Nat → Nat → Prop} {S T U : St} {c : Prop} [Decidable c] (a : fp P S T) (b : fp P S U) : fp P S (if c then T else U) := by
  by_cases h : c
  · rw [if_pos h]; exact a
  · rw [if_neg h]; exact b
theorem nF_iv {σ : Type} {f : Nat → σ → σ} {I : σ → Prop} (n : Nat) {s : σ} (h : ∀ i t, i < n → I t → I (f i t)) (h0 : I s) : I (nF f n s) := by
  induction n with
  | zero => exact h0
  | succ n ih => exact h n _ (Nat.lt_succ_self n) (ih (fun i t hi => h i t (Nat.lt_succ_of_lt hi)))
theorem pI_iv {σ : Type} {f : Nat → Nat → σ → σ} {I : σ → Prop} {j : Nat} (n : Nat) {s : σ} (h : ∀ i t, i < n → I t → I (f i j t)) (h0 : I s) : I (pI f j n s) := by
  induction n with
  | zero => exact h0
  | succ n ih => exact h n _ (Nat.lt_succ_self n) (ih (fun i t hi => h i t (Nat.lt_succ_of_lt hi)))
theorem pO_iv {σ : Type} {f : Nat → Nat → σ → σ} {I : σ → Prop} {c : Nat} (r : Nat) {s : σ} (h : ∀ i j t, i < c → j < r → I t → I (f i j t)) (h0 : I s) : I (pO f c r s) := by
  induction r with
  | zero => exact h0
  | succ r ih => exact pI_iv c (fun i t hi => h i r t hi (Nat.lt_succ_self r)) (ih (fun i j t hi hj => h i j t hi (Nat.lt_succ_of_lt hj)))
theorem fp_nF {P : Nat → Nat → Prop} {f : Nat → St → St} {n : Nat} {S : St} (h : ∀ i T, fp P T (f i T)) : fp P S (nF f n S) := nF_iv (I := fun T => fp P S T) n (fun i t _ a => fp_trans a (h i t)) fp_refl
theorem fp_pO {P : Nat → Nat → Prop} {f : Nat → Nat → St → St} {c r : Nat} {S : St} (h : ∀ i j T, fp P T (f i j T)) : fp P S (pO f c r S) := pO_iv (I := fun T => fp P S T) r (fun i j t _ _ a => fp_trans a (h i j t)) fp_refl
theorem fp_nF1 {σ : Type} {P : Nat → Nat → Prop} {f : Nat → St × σ → St × σ} {n : Nat} {x : St × σ} (h : ∀ i y, fp P y.1 (f i y).1) : fp P x.1 (nF f n x).1 := nF_iv (I := fun y => fp P x.1 y.1) n (fun i t _ a => fp_trans a (h i t)) fp_refl
theorem fp_pO1 {σ : Type} {P : Nat → Nat → Prop} {f : Nat → Nat → St × σ → St × σ} {c r : Nat} {x : St × σ} (h : ∀ i j y, fp P y.1 (f i j y).1) : fp P x.1 (pO f c r x).1 := pO_iv (I := fun y => fp P x.1 y.1) r (fun i j t _ _ a => fp_trans a (h i j t)) fp_refl
/-! loops over each other -/
theorem nF_congr {σ : Type} {f g : Nat → σ → σ} (n : Nat) {s : σ} (h : ∀ i t, i < n → f i t = g i t) : nF f n s = nF g n s := by
  induction n with
  | zero => rfl
  | succ n ih =>
    show f n (nF f n s) = g n (nF g n s)
    rw [ih (fun i t hi => h i t (Nat.lt_succ_of_lt hi)), h n _ (Nat.lt_succ_self n)]
theorem nF_add {σ : Type} {f : Nat → σ → σ} (a n : Nat) {s : σ} : nF f (a + n) s = nF (fun i => f (a + i)) n (nF f a s) := by
  induction n with
  | zero => rfl
  | succ n ih =>
    show f (a + n) (nF f (a + n) s) = f (a + n) _
    rw [ih]
theorem nF_pI {σ : Type} {f : Nat → Nat → σ → σ} {j : Nat} (n : Nat) {s : σ} : nF (fun i => f i j) n s = pI f j n s := by
  induction n with
  | zero => rfl
  | succ n ih =>
    show f n j _ = f n j _
    rw [ih]
theorem nF_pO {σ : Type} {f : Nat → Nat → σ → σ} {n : Nat} (hn : 0 < n) (m : Nat) {s : σ} : nF (fun c => f (c % n) (c / n)) (n * m) s = pO f n m s := by
  induction m with
  | zero => rfl
  | succ m ih =>
    rw [Nat.mul_succ, nF_add, ih]
    show _ = pI f m n (pO f n m s)
    rw [← nF_pI]
    apply nF_congr
    intro i t hi
    rw [Nat.mul_add_mod, Nat.mod_eq_of_lt hi, Nat.mul_add_div hn, Nat.div_eq_of_lt hi, Nat.add_zero]
theorem pI_congr {σ : Type} {f g : Nat → Nat → σ → σ} {j : Nat} (n : Nat) {s : σ} (h : ∀ i t, i < n → f i j t = g i j t) : pI f j n s = pI g j n s := by
  rw [← nF_pI, ← nF_pI]
  exact nF_congr n h
theorem pO_congr {σ : Type} {f g : Nat → Nat → σ → σ} {c : Nat} (r : Nat) {s : σ} (h : ∀ i j t, i < c → j < r → f i j t = g i j t) : pO f c r s = pO g c r s := by
  induction r with
  | zero => rfl
  | succ r ih =>
    show pI f r c _ = pI g r c _
    rw [ih (fun i j t hi hj => h i j t hi (Nat.lt_succ_of_lt hj)), pI_congr c (fun i t hi => h i r t hi (Nat.lt_succ_self r))]
theorem nF_id {σ : Type} {f : Nat → σ → σ} (n : Nat) {s : σ} (h : ∀ i t, i < n → f i t = t) : nF f n s = s := by
  induction n with
  | zero => rfl
  | succ n ih =>
    show f n _ = s
    rw [h n _ (Nat.lt_succ_self n), ih (fun i t hi => h i t (Nat.lt_succ_of_lt hi))]
theorem nF_sub {σ : Type} {f : Nat → σ → σ} {c C : Nat} (hc : c ≤ C) {s : σ} : nF (fun i t => if i < c then f i t else t) C s = nF f c s := by
  obtain ⟨d, rfl⟩ := Nat.exists_eq_add_of_le hc
  rw [nF_add, nF_id d (fun i t _ => if_neg (by omega))]
  exact nF_congr c (fun i t hi => if_pos hi)
theorem pO_sub {σ : Type} {f : Nat → Nat → σ → σ} {c r C R : Nat} (hc : c ≤ C) (hr : r ≤ R) {s : σ} : pO (fun i j t => if i < c ∧ j < r then f i j t else t) C R s = pO f c r s := by
  have hI : ∀ j t, pI (fun i j t => if i < c ∧ j < r then f i j t else t) j C t = if j < r then pI f j c t else t := by
    intro j t
    rw [← nF_pI]
    by_cases h : j < r
    · rw [if_pos h, ← nF_pI, ← nF_sub hc]
      apply nF_congr
      intro i t hi
      by_cases h1 : i < c
      · rw [if_pos h1, if_pos ⟨h1, h⟩]
      · rw [if_neg h1, if_neg (fun e => h1 e.1)]
    · rw [if_neg h]
      exact nF_id C (fun i t _ => if_neg (fun e => h e.2))
  have hO : ∀ m, pO (fun i j t => if i < c ∧ j < r then f i j t else t) C m s = nF (fun j t => if j < r then pI f j c t else t) m s := by
    intro m
    induction m with
    | zero => rfl
    | succ m ih =>
      show pI _ m C _ = (if m < r then pI f m c _ else _)
      rw [hI, ih]
  have hE : ∀ m, pO f c m s = nF (fun j t => pI f j c t) m s := by
    intro m
    induction m with
    | zero => rfl
    | succ m ih =>
      show pI f m c _ = pI f m c _
      rw [ih]
  rw [hO, nF_sub hr, hE]
theorem nF_rel {σ τ : Type} {f : Nat → σ → σ} {g : Nat → τ → τ} {R : Nat → σ → τ → Prop} (n : Nat) {s : σ} {t : τ} (h : ∀ i x y, i < n → R i x y → R (i + 1) (f i x) (g i y)) (h0 : R 0 s t) : R n (nF f n s) (nF g n t) := by
  induction n with
  | zero => exact h0
  | succ n ih => exact h n _ _ (Nat.lt_succ_self n) (ih (fun i x y hi => h i x y (Nat.lt_succ_of_lt hi)))
theorem pI_rel {σ τ : Type} {f : Nat → Nat → σ → σ} {g : Nat → Nat → τ → τ} {R : Nat → σ → τ → Prop} {j : Nat} (n : Nat) {s : σ} {t : τ} (h : ∀ i x y, i < n → R i x y → R (i + 1) (f i j x) (g i j y)) (h0 : R 0 s t) : R n (pI f j n s) (pI g j n t) := by
  rw [← nF_pI, ← nF_pI]
  exact nF_rel n h h0
theorem pO_rel {σ τ : Type} {f : Nat → Nat → σ → σ} {g : Nat → Nat → τ → τ} {R : Nat → Nat → σ → τ → Prop} {c : Nat} (r : Nat) {s : σ} {t : τ} (h : ∀ i j x y, i < c → j < r → R i j x y → R (i + 1) j (f i j x) (g i j y)) (hn : ∀ j x y, j < r → R c j x y → R 0 (j + 1) x y) (h0 : R 0 0 s t) : R 0 r (pO f c r s) (pO g c r t) := by
  induction r with
  | zero => exact h0
  | succ r ih => exact hn r _ _ (Nat.lt_succ_self r) (pI_rel (R := fun i => R i r) c (fun i x y hi => h i r x y hi (Nat.lt_succ_self r)) (ih (fun i j x y hi hj => h i j x y hi (Nat.lt_succ_of_lt hj)) (fun j x y hj => hn j x y (Nat.lt_succ_of_lt hj))))
/-- the same relation all along -/
theorem pO_rel0 {σ τ : Type} {f : Nat → Nat → σ → σ} {g : Nat → Nat → τ → τ} {R : σ → τ → Prop} {c : Nat} (r : Nat) {s : σ} {t : τ} (h : ∀ i j x y, i < c → j < r → R x y → R (f i j x) (g i j y)) (h0 : R s t) : R (pO f c r s) (pO g c r t) :=
  pO_rel (R := fun _ _ => R) r h (fun _ _ _ _ k => k) h0
/-! a truth value as an int -/
def b2I (b : Bool) : Int32 := if b then 1 else 0
theorem b2I_0 {b : Bool} : b2I b = 0 ↔ b = false := by cases b <;> decide
theorem b2I_1 {b : Bool} : b2I b = 1 ↔ b = true := by cases b <;> decide
theorem b2I_inj {a b : Bool} : b2I a = b2I b ↔ a = b := by cases a <;> cases b <;> decide
theorem b2I_01 (b : Bool) : b2I b = 0 ∨ b2I b = 1 := by cases b <;> decide
theorem nar_b2I (b : Bool) : vp_nar .boolean (b2I b) = b2I b := by cases b <;> decide +kernel
theorem nar_0 : vp_nar .boolean 0 = 0 := by decide +kernel
theorem nar_1 : vp_nar .boolean 1 = 1 := by decide +kernel
/-- bit n of an int, of a long -/
def bI9 (x : Int32) (n : Nat) : Bool := x.toBitVec.getLsbD n
def bL9 (x : Int64) (n : Nat) : Bool := x.toBitVec.getLsbD n
