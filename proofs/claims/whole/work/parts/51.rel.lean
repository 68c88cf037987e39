/-! what holds between the class's cells and the reference's -/
def Rdim (h w : Nat) (A B : St) : Prop := 1 ≤ w ∧ w ≤ 32 ∧ 1 ≤ h ∧ h ≤ 32 ∧ A.1 0 0 = nI w ∧ A.1 0 1 = nI h ∧ A.1 1 1 = msk (nI w) ∧ A.1 3 1 = msk (nI w) ∧ B.1 21 1 = nI w ∧ B.1 21 2 = nI h
def Rsh (h w o p : Nat) (A B : St) : Prop := (∀ y x, y < h → x < 32 → B.1 p (32 * y + x) = b2I (bI9 (A.1 o y) x)) ∧ (∀ y x, y < h → w ≤ x → bI9 (A.1 o y) x = false) ∧ (∀ n, 32 * h ≤ n → n < 1024 → B.1 p n = 0)
def Rpat (pw ph m : Nat) (A B : St) : Prop := 1 ≤ pw ∧ pw ≤ 8 ∧ 1 ≤ ph ∧ ph ≤ 8 ∧ m < 64 ∧ A.1 5 1 = nI pw ∧ A.1 5 2 = nI ph ∧ A.1 5 3 = nI (m + 1) ∧ B.1 21 5 = nI pw ∧ B.1 21 6 = nI ph ∧ B.1 21 7 = nI (m + 1)
def Rcel (A B : St) : Prop := (∀ k i, k < 64 → i < 64 → B.1 24 (64 * k + i) = b2I (bL9 (A.2 6 k) i)) ∧ ∀ n, B.1 24 n = 0 ∨ B.1 24 n = 1
def Rgrd (c r : Nat) (A B : St) : Prop := 1 ≤ c ∧ c ≤ 16 ∧ 1 ≤ r ∧ r ≤ 16 ∧ A.1 7 1 = nI c ∧ A.1 7 2 = nI r ∧ B.1 21 9 = nI c ∧ B.1 21 10 = nI r ∧ A.1 7 3 = B.1 21 11 ∧ A.1 7 4 = B.1 21 12 ∧ A.1 7 5 = B.1 21 13 ∧ A.1 7 6 = B.1 21 14
def Rgry (c r m : Nat) (A B : St) : Prop := ∀ n, n < 256 → A.1 8 n = B.1 25 n ∧ (∃ k, k ≤ m ∧ B.1 25 n = nI k) ∧ ((c ≤ n % 16 ∨ r ≤ n / 16) → B.1 25 n = 0)
def Rway (A B : St) : Prop := A.1 0 11 = B.1 21 16 ∧ (∃ o, o ≤ 4 ∧ B.1 21 16 = nI o) ∧ A.1 0 12 = B.1 21 17 ∧ (B.1 21 17 = 0 ∨ B.1 21 17 = 1) ∧ A.1 0 13 = B.1 21 18 ∧ (B.1 21 18 = 0 ∨ B.1 21 18 = 1)
def Rrun (A B : St) : Prop := A.1 0 14 = B.1 21 31
def Rctx (A B : St) : Prop := ∀ n, n < 64 → A.1 12 n = B.1 28 n ∧ -8 ≤ B.1 28 n ∧ B.1 28 n ≤ 7 ∧ A.1 13 n = B.1 29 n
def Rwri (A B : St) : Prop := ∃ nb q, nb ≤ 3072 ∧ q ≤ 60000 ∧ A.1 14 2 = nI nb ∧ B.1 21 20 = nI q ∧ (0 < nb → q = nb) ∧ B.1 21 21 = nI ((nb + 7) / 8) ∧ (∀ n, n < nb → B.1 26 n = b2I (bI9 (A.1 15 (n / 8)) (7 - n % 8))) ∧ (∀ n, nb ≤ n → n < 3072 → bI9 (A.1 15 (n / 8)) (7 - n % 8) = false)
def Rrea (A B : St) : Prop := ∃ cm, cm ≤ 3000 ∧ A.1 17 2 = nI cm ∧ B.1 21 23 = nI cm ∧ ∀ n, n < cm → ∃ v, v < 256 ∧ B.1 27 n = nI v ∧ A.1 18 n = (nI v).toInt8.toInt32
def Rl (h w : Nat) (A B : St) : Prop := ∃ pw ph m c r, Rdim h w A B ∧ Rsh h w 2 22 A B ∧ Rsh h w 4 23 A B ∧ Rpat pw ph m A B ∧ Rcel A B ∧ Rgrd c r A B ∧ Rgry c r m A B ∧ Rway A B ∧ Rrun A B ∧ Rctx A B ∧ Rwri A B ∧ Rrea A B
theorem nz_at {S : St} {o o' k' : Nat} : (nz S o).1 o' k' = if o' = o then 0 else S.1 o' k' := by
  unfold nz pt
  by_cases h : o' = o
  · simp [h]
  · simp [h]
theorem nz_2 {S : St} {o o' k' : Nat} : (nz S o).2 o' k' = if o' = o then 0 else S.2 o' k' := by
  unfold nz ptL
  by_cases h : o' = o
  · simp [h]
  · simp [h]
section Frames
variable {h w : Nat} {A B A' B' : St}
theorem Rdim.mv (H : Rdim h w A B) (a : ∀ o k, (o = 0 ∧ k ≤ 1) ∨ (o = 1 ∧ k = 1) ∨ (o = 3 ∧ k = 1) → A'.1 o k = A.1 o k) (b : ∀ k, k = 1 ∨ k = 2 → B'.1 21 k = B.1 21 k) : Rdim h w A' B' := by
  unfold Rdim
  rw [a 0 0 (by decide), a 0 1 (by decide), a 1 1 (by decide), a 3 1 (by decide), b 1 (by decide), b 2 (by decide)]
  exact H
theorem Rsh.mv {o p : Nat} (H : Rsh h w o p A B) (a : ∀ k, A'.1 o k = A.1 o k) (b : ∀ k, B'.1 p k = B.1 p k) : Rsh h w o p A' B' := by
  have a' : A'.1 o = A.1 o := funext a
  have b' : B'.1 p = B.1 p := funext b
  unfold Rsh
  rw [a', b']
  exact H
theorem Rpat.mv {pw ph m : Nat} (H : Rpat pw ph m A B) (a : ∀ k, A'.1 5 k = A.1 5 k) (b : ∀ k, k = 5 ∨ k = 6 ∨ k = 7 → B'.1 21 k = B.1 21 k) : Rpat pw ph m A' B' := by
  unfold Rpat
  rw [a 1, a 2, a 3, b 5 (by decide), b 6 (by decide), b 7 (by decide)]
  exact H
theorem Rcel.mv (H : Rcel A B) (a : ∀ k, A'.2 6 k = A.2 6 k) (b : ∀ k, B'.1 24 k = B.1 24 k) : Rcel A' B' := by
  have a' : A'.2 6 = A.2 6 := funext a
  have b' : B'.1 24 = B.1 24 := funext b
  unfold Rcel
  rw [a', b']
  exact H
theorem Rgrd.mv {c r : Nat} (H : Rgrd c r A B) (a : ∀ k, A'.1 7 k = A.1 7 k) (b : ∀ k, 9 ≤ k → k ≤ 14 → B'.1 21 k = B.1 21 k) : Rgrd c r A' B' := by
  unfold Rgrd
  rw [a 1, a 2, a 3, a 4, a 5, a 6, b 9 (by decide) (by decide), b 10 (by decide) (by decide), b 11 (by decide) (by decide), b 12 (by decide) (by decide), b 13 (by decide) (by decide), b 14 (by decide) (by decide)]
  exact H
theorem Rgry.mv {c r m : Nat} (H : Rgry c r m A B) (a : ∀ k, A'.1 8 k = A.1 8 k) (b : ∀ k, B'.1 25 k = B.1 25 k) : Rgry c r m A' B' := by
  intro n hn
  rw [a n, b n]
  exact H n hn
theorem Rway.mv (H : Rway A B) (a : ∀ k, 11 ≤ k → k ≤ 13 → A'.1 0 k = A.1 0 k) (b : ∀ k, 16 ≤ k → k ≤ 18 → B'.1 21 k = B.1 21 k) : Rway A' B' := by
  unfold Rway
  rw [a 11 (by decide) (by decide), a 12 (by decide) (by decide), a 13 (by decide) (by decide), b 16 (by decide) (by decide), b 17 (by decide) (by decide), b 18 (by decide) (by decide)]
  exact H
theorem Rrun.mv (H : Rrun A B) (a : A'.1 0 14 = A.1 0 14) (b : B'.1 21 31 = B.1 21 31) : Rrun A' B' := by
  unfold Rrun
  rw [a, b]
  exact H
theorem Rctx.mv (H : Rctx A B) (a : ∀ k, A'.1 12 k = A.1 12 k) (a2 : ∀ k, A'.1 13 k = A.1 13 k) (b : ∀ k, B'.1 28 k = B.1 28 k) (b2 : ∀ k, B'.1 29 k = B.1 29 k) : Rctx A' B' := by
  intro n hn
  rw [a n, b n, a2 n, b2 n]
  exact H n hn
theorem Rwri.mv (H : Rwri A B) (a : A'.1 14 2 = A.1 14 2) (a2 : ∀ k, A'.1 15 k = A.1 15 k) (b : ∀ k, k = 20 ∨ k = 21 → B'.1 21 k = B.1 21 k) (b2 : ∀ k, B'.1 26 k = B.1 26 k) : Rwri A' B' := by
  have a' : A'.1 15 = A.1 15 := funext a2
  have b' : B'.1 26 = B.1 26 := funext b2
  unfold Rwri
  rw [a, a', b', b 20 (by decide), b 21 (by decide)]
  exact H
theorem Rrea.mv (H : Rrea A B) (a : A'.1 17 2 = A.1 17 2) (a2 : ∀ k, A'.1 18 k = A.1 18 k) (b : B'.1 21 23 = B.1 21 23) (b2 : ∀ k, B'.1 27 k = B.1 27 k) : Rrea A' B' := by
  have a' : A'.1 18 = A.1 18 := funext a2
  have b' : B'.1 27 = B.1 27 := funext b2
  unfold Rrea
  rw [a, a', b, b']
  exact H
theorem Rl.mv (H : Rl h w A B) (a : ∀ o k, o ≤ 20 → A'.1 o k = A.1 o k) (a2 : ∀ k, A'.2 6 k = A.2 6 k) (b : ∀ o k, 21 ≤ o → ¬ (o = 21 ∧ k = 0) → B'.1 o k = B.1 o k) : Rl h w A' B' := by
  obtain ⟨pw, ph, m, c, r, h1, h2, h3, h4, h5, h6, h7, h8, h9, h10, h11, h12⟩ := H
  refine ⟨pw, ph, m, c, r, h1.mv ?_ ?_, h2.mv ?_ ?_, h3.mv ?_ ?_, h4.mv ?_ ?_, h5.mv a2 ?_, h6.mv ?_ ?_, h7.mv ?_ ?_, h8.mv ?_ ?_, h9.mv ?_ ?_, h10.mv ?_ ?_ ?_ ?_, h11.mv ?_ ?_ ?_ ?_, h12.mv ?_ ?_ ?_ ?_⟩
  all_goals (first | (intro o k e; exact a o k (by omega)) | (intro k; exact a _ k (by decide)) | (intro k; exact b _ k (by decide) (by omega)) | (intro k e; exact b _ k (by decide) (by omega)) | (intro k e1 e2; exact a _ k (by decide)) | (intro k e1 e2; exact b _ k (by decide) (by omega)) | exact a _ _ (by decide) | exact b _ _ (by decide) (by decide))
/-- both stores become one again -/
theorem comb {S1 S2 F : St} (H : Rl h w F S2) (hF1 : ∀ o k, o ≤ 20 → S1.1 o k = F.1 o k) (hF2 : ∀ k, S1.2 6 k = F.2 6 k) (hM : fp (fun o _ => 21 ≤ o) S1 S2) : Rl h w S2 S2 :=
  H.mv (fun o k ho => (hM.1 o k (by omega)).trans (hF1 o k ho)) (fun k => by rw [hM.2]; exact hF2 k) (fun _ _ _ _ => rfl)
theorem comb0 {S : St} {v : Int32} (H : Rl h w S S) : Rl h w (puI S 21 0 v) (puI S 21 0 v) :=
  H.mv (fun o k ho => by rw [puI_at, if_neg (by omega)]) (fun k => rfl) (fun o k ho hk => by rw [puI_at, if_neg hk])
end Frames
