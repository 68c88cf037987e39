/-! composing the region -/
theorem hs_21 {S T : St} (h : ∀ k, S.1 21 k = T.1 21 k) (x y : Int32) : hsM S x y = hsM T x y := by unfold hsM; rw [h, h]
theorem xy_21 {S T : St} (h : ∀ k, S.1 21 k = T.1 21 k) (i j : Int32) : xM S i j = xM T i j ∧ yM S i j = yM T i j := by
  unfold xM yM
  rw [h, h, h, h]
  exact ⟨rfl, rfl⟩
theorem bo_01 {o a b : Int32} (hb : b = 0 ∨ b = 1) : boM o a b = 0 ∨ boM o a b = 1 := by
  unfold boM
  repeat' split
  all_goals first | exact Or.inl rfl | exact Or.inr rfl | exact hb
theorem nar_01 {a : Int32} (h : a = 0 ∨ a = 1) : vp_nar .boolean a = a := by
  rcases h with rfl | rfl
  · exact nar_0
  · exact nar_1
/-- which samples a pattern has told, when it stands at cell u of line v -/
def vis (h w pw : Nat) (X Y : Int) (u v : Nat) (n : Nat) : Prop := (n % 32 < w ∧ n / 32 < h) ∧ (X ≤ (n % 32 : Nat) ∧ ((n % 32 : Nat) : Int) < X + pw) ∧ Y ≤ (n / 32 : Nat) ∧ (((n / 32 : Nat) : Int) < Y + v ∨ (((n / 32 : Nat) : Int) = Y + v ∧ ((n % 32 : Nat) : Int) < X + u))
theorem lm_all {h w pw ph m : Nat} {A B : St} (H1 : Rdim h w A B) (H2 : Rpat pw ph m A B) (hcel : ∀ n, B.1 24 n = 0 ∨ B.1 24 n = 1) {i j : Int32} {k : Nat} : (∀ o n, ¬ (o = 23 ∧ vis h w pw (xM B i j).toInt (yM B i j).toInt 0 ph n) → (lmM B i j k pw ph).1 o n = B.1 o n) ∧ (lmM B i j k pw ph).2 = B.2 ∧ ∀ n, vis h w pw (xM B i j).toInt (yM B i j).toInt 0 ph n → (lmM B i j k pw ph).1 23 n = boM (B.1 21 16) (B.1 23 n) (B.1 24 (64 * k + 8 * (((n / 32 : Nat) : Int) - (yM B i j).toInt).toNat + (((n % 32 : Nat) : Int) - (xM B i j).toInt).toNat)) := by
  have w2 : w ≤ 32 := H1.2.1
  have q2 : h ≤ 32 := H1.2.2.2.1
  have p2 : pw ≤ 8 := H2.2.1
  have p4 : ph ≤ 8 := H2.2.2.2.1
  generalize hX : (xM B i j).toInt = X
  generalize hY : (yM B i j).toInt = Y
  have bx := x_b B i j
  have bb := y_b B i j
  rw [hX] at bx
  rw [hY] at bb
  unfold lmM
  refine pO_rel (f := lmF i j k) (g := fun _ _ t => t) (t := ()) (R := fun u v (T : St) (_ : Unit) => (∀ o n, ¬ (o = 23 ∧ vis h w pw X Y u v n) → T.1 o n = B.1 o n) ∧ T.2 = B.2 ∧ ∀ n, vis h w pw X Y u v n → T.1 23 n = boM (B.1 21 16) (B.1 23 n) (B.1 24 (64 * k + 8 * (((n / 32 : Nat) : Int) - Y).toNat + (((n % 32 : Nat) : Int) - X).toNat))) ph ?_ ?_ ?_
  · intro u v T _ hu hv ⟨g1, g2, g3⟩
    have e21 : ∀ q, T.1 21 q = B.1 21 q := fun q => g1 21 q (by omega)
    have ex := add_i (n := u) (x_b B i j) (by omega)
    have ey := add_i (n := v) (y_b B i j) (by omega)
    rw [hX] at ex
    rw [hY] at ey
    unfold lmF
    rw [(xy_21 e21 i j).1, (xy_21 e21 i j).2, hs_21 e21, hs_i H1, ex, ey]
    by_cases c0 : (0 ≤ X + u ∧ X + u < w) ∧ (0 ≤ Y + v ∧ Y + v < h)
    · rw [if_pos c0, if_neg (by decide)]
      have ei : lmI T i j u v = 32 * (Y + v).toNat + (X + u).toNat := by
        unfold lmI
        rw [(xy_21 e21 i j).1, (xy_21 e21 i j).2]
        obtain ⟨f1, -⟩ := to_n (z := xM B i j + nI u) (by rw [ex]; omega)
        obtain ⟨f2, -⟩ := to_n (z := yM B i j + nI v) (by rw [ey]; omega)
        rw [f1, f2, ex, ey, at_32 (by omega) (by omega)]
      rw [ei]
      have nv : ¬ vis h w pw X Y u v (32 * (Y + v).toNat + (X + u).toNat) := by
        unfold vis
        omega
      have e24 : T.1 24 (64 * k + 8 * v + u) = B.1 24 (64 * k + 8 * v + u) := g1 24 _ (by omega)
      have e23 : T.1 23 (32 * (Y + v).toNat + (X + u).toNat) = B.1 23 (32 * (Y + v).toNat + (X + u).toNat) := g1 23 _ (fun z => nv z.2)
      rw [e24, e23, e21 16, nar_01 (bo_01 (hcel _))]
      refine ⟨fun o n hn => ?_, g2, fun n hn => ?_⟩
      · rw [puI_at]
        by_cases z : o = 23 ∧ n = 32 * (Y + v).toNat + (X + u).toNat
        · exfalso
          apply hn
          refine ⟨z.1, ?_⟩
          rw [z.2]
          unfold vis
          omega
        · rw [if_neg z]
          apply g1
          intro z2
          apply hn
          refine ⟨z2.1, ?_⟩
          have := z2.2
          unfold vis at this ⊢
          omega
      · rw [puI_at]
        by_cases z : n = 32 * (Y + v).toNat + (X + u).toNat
        · rw [if_pos ⟨rfl, z⟩, z, show (((32 * (Y + v).toNat + (X + u).toNat) / 32 : Nat) : Int) - Y = v by omega, show (((32 * (Y + v).toNat + (X + u).toNat) % 32 : Nat) : Int) - X = u by omega]
          rfl
        · rw [if_neg (fun z2 => z z2.2)]
          apply g3
          unfold vis at hn ⊢
          omega
    · rw [if_neg c0, if_pos rfl]
      have same : ∀ n, vis h w pw X Y (u + 1) v n ↔ vis h w pw X Y u v n := by
        intro n
        unfold vis
        omega
      refine ⟨fun o n hn => g1 o n (by rw [← same]; exact hn), g2, fun n hn => g3 n ((same n).mp hn)⟩
  · intro v T _ hv ⟨g1, g2, g3⟩
    have same : ∀ n, vis h w pw X Y 0 (v + 1) n ↔ vis h w pw X Y pw v n := by
      intro n
      unfold vis
      omega
    exact ⟨fun o n hn => g1 o n (by rw [← same]; exact hn), g2, fun n hn => g3 n ((same n).mp hn)⟩
  · have none : ∀ n, ¬ vis h w pw X Y 0 0 n := by
      intro n
      unfold vis
      omega
    exact ⟨fun _ _ _ => rfl, rfl, fun n hn => absurd hn (none n)⟩
/-- the class's lines -/
theorem la_all {h w : Nat} {A : St} {pat left top cols : Int32} {a : Nat} (q2 : h ≤ 32) (n : Nat) (hn : a + n ≤ h) : (∀ o k, (laA A h pat left top cols a n).1 o k = if o = 4 ∧ a ≤ k ∧ k < a + n then coH (A.1 0 11) (A.1 4 k) (mvd (liB A pat (nI k - top)) left &&& cols) cols &&& A.1 3 1 else A.1 o k) ∧ (laA A h pat left top cols a n).2 = A.2 := by
  induction n with
  | zero =>
    refine ⟨fun o k => ?_, rfl⟩
    rw [if_neg (by omega)]
    rfl
  | succ n ih =>
    obtain ⟨e1, e2⟩ := ih (by omega)
    have es : laA A h pat left top cols a (n + 1) = la1 (laA A h pat left top cols a n) h pat left top cols (nI (a + n)) := rfl
    rw [es]
    clear es ih
    generalize laA A h pat left top cols a n = T at *
    have hy : ¬ wi (nI (a + n)) 0 (nI h - 1) = 0 := wi_ok (by omega) (by omega)
    have f1 : T.1 3 1 = A.1 3 1 := by rw [e1, if_neg (by omega)]
    have f2 : T.1 0 11 = A.1 0 11 := by rw [e1, if_neg (by omega)]
    have f3 : lnS T 4 h (nI (a + n)) = A.1 4 (a + n) := by
      unfold lnS
      rw [if_neg hy, nI_clamp (by omega), e1, if_neg (by omega)]
    have f4 : ∀ y, liB T pat y = liB A pat y := fun y => by unfold liB; rw [e2]
    unfold la1 clS
    rw [if_neg hy, nI_clamp (by omega), f1, f2, f3, f4]
    refine ⟨fun o k => ?_, e2⟩
    rw [puI_at, e1]
    by_cases z : o = 4 ∧ k = a + n
    · rw [if_pos z, if_pos (by omega), z.2]
    · rw [if_neg z]
      by_cases z2 : o = 4 ∧ a ≤ k ∧ k < a + n
      · rw [if_pos z2, if_pos (by omega)]
      · rw [if_neg z2, if_neg (by omega)]
theorem bI_not {x : Int32} {n : Nat} (h : n < 32) : bI9 (x ^^^ (-1)) n = !bI9 x n := by
  rw [bI_xor, bI_m1]
  simp [h]
theorem co_bit {o : Nat} (ho : o ≤ 4) {line laid cols : Int32} {x : Nat} (hx : x < 32) {P : Bool} (hl : bI9 laid x = (P && bI9 cols x)) : b2I (bI9 (coH (nI o) line laid cols) x) = if bI9 cols x = true then boM (nI o) (b2I (bI9 line x)) (b2I P) else b2I (bI9 line x) := by
  have hs : o = 0 ∨ o = 1 ∨ o = 2 ∨ o = 3 ∨ o = 4 := by omega
  rcases hs with rfl | rfl | rfl | rfl | rfl
  · rw [show coH (nI 0) line laid cols = line ||| laid from rfl, bI_or, hl]
    cases bI9 cols x <;> cases bI9 line x <;> cases P <;> decide
  · rw [show coH (nI 1) line laid cols = line &&& (laid ||| (cols ^^^ (-1))) from rfl, bI_and, bI_or, bI_not hx, hl]
    cases bI9 cols x <;> cases bI9 line x <;> cases P <;> decide
  · rw [show coH (nI 2) line laid cols = line ^^^ laid from rfl, bI_xor, hl]
    cases bI9 cols x <;> cases bI9 line x <;> cases P <;> decide
  · rw [show coH (nI 3) line laid cols = line ^^^ laid ^^^ cols from rfl, bI_xor, bI_xor, hl]
    cases bI9 cols x <;> cases bI9 line x <;> cases P <;> decide
  · rw [show coH (nI 4) line laid cols = line &&& (cols ^^^ (-1)) ||| laid from rfl, bI_or, bI_and, bI_not hx, hl]
    cases bI9 cols x <;> cases bI9 line x <;> cases P <;> decide
