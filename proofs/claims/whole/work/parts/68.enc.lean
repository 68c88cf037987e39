/-! encoding, step by step -/
def encA (A0 A : St) : Prop := (∀ o k, ¬ (o = 12 ∨ o = 13 ∨ o = 14 ∨ o = 15 ∨ o = 16) → A.1 o k = A0.1 o k) ∧ A.2 = A0.2
def encB (B0 B : St) : Prop := (∀ o k, ¬ (o = 26 ∨ o = 28 ∨ o = 29 ∨ o = 30 ∨ o = 31 ∨ (o = 21 ∧ (k = 20 ∨ k = 29 ∨ k = 30 ∨ k = 31))) → B.1 o k = B0.1 o k) ∧ B.2 = B0.2
/-- what does not change while one encodes -/
def Cod (h w pw ph m c r : Nat) (A0 B0 : St) : Prop := Rdim h w A0 B0 ∧ Rpat pw ph m A0 B0 ∧ Rgrd c r A0 B0 ∧ Rway A0 B0 ∧ ∀ n, n < 256 → A0.1 10 n = if (n % 16 < c ∧ n / 16 < r) ∧ skM B0 (nI (n % 16)) (nI (n / 16)) = 0 then B0.1 25 n ^^^ B0.1 25 n >>> (1 &&& 31) else 0
theorem enw_f {A : St} {v : Int32} : (∀ o k, ¬ (o = 14 ∨ o = 15 ∨ o = 16) → (teW A v).1 o k = A.1 o k) ∧ (teW A v).2 = A.2 := by
  have pac : ∀ (S : St) (x : Int32), (∀ o k, o ≠ 16 → (pacN_16 S x).1 o k = S.1 o k) ∧ (pacN_16 S x).2 = S.2 := by
    intro S x
    unfold pacN_16
    split
    · exact ⟨fun o k hn => by simp [puI_at, hn], rfl⟩
    · exact ⟨fun o k hn => by simp [puI_at, hn], rfl⟩
  have fi : ∀ S : St, (∀ o k, ¬ (o = 14 ∨ o = 15 ∨ o = 16) → (fiW S).1 o k = S.1 o k) ∧ (fiW S).2 = S.2 := by
    intro S
    unfold fiW
    refine ⟨fun o k hn => ?_, (pac S _).2⟩
    rw [puI_at, if_neg (by omega), puI_at, if_neg (by omega), (pac S _).1 o k (by omega)]
  have en : ∀ (S : St) (q : Nat), (∀ o k, ¬ (o = 14 ∨ o = 15 ∨ o = 16) → (enW S q).1 o k = S.1 o k) ∧ (enW S q).2 = S.2 := by
    intro S q
    unfold enW
    split
    · exact ⟨fun o k hn => ((fi _).1 o k hn).trans ((wrS_f _ _ o k (by omega)).trans (wrS_f _ _ o k (by omega))), ((fi _).2).trans ((wrS_2 _ _).trans (wrS_2 _ _))⟩
    · exact ⟨fun o k hn => ((fi _).1 o k hn).trans ((wrS_f _ _ o k (by omega)).trans (wrS_f _ _ o k (by omega))), ((fi _).2).trans ((wrS_2 _ _).trans (wrS_2 _ _))⟩
  unfold teW
  split
  · exact en A _
  · exact ⟨fun o k hn => by rw [puI_at, if_neg (by omega)], rfl⟩
theorem EnW.up {dt run : Nat} {A B : St} (H : EnW dt run A B) : EnW (dt + 1) run A B := by
  obtain ⟨nb, mm, aa, h1, h2, ⟨h3, h4, h5⟩, h6, h7, h8⟩ := H
  exact ⟨nb, mm, aa, h1, h2, ⟨h3, h4, by omega⟩, h6, h7, by omega⟩
theorem te_eq {dt run : Nat} {A B : St} (H : EnW dt run A B) (hd : dt ≤ 1536) : EnW (dt + 1) 0 (teW A 0) (mrS B run) ∧ EnW (dt + 1) (run + 1) (teW A 1) B := by
  have hr : (A.1 14 3).toNatClampNeg = run := by
    obtain ⟨nb, mm, aa, h1, h2, ⟨h3, h4, h5⟩, h6, h7, h8⟩ := H
    rw [h6, nI_clamp (by omega)]
  constructor
  · show EnW (dt + 1) 0 (enW A (A.1 14 3).toNatClampNeg) (mrS B run)
    rw [hr]
    exact en_end H hd
  · exact en_ok H
def EnR (p k D : Nat) (A0 B0 A : St) (x : St × Nat) : Prop := encA A0 A ∧ encB B0 x.1 ∧ Rctx A x.1 ∧ EnW D x.2 A x.1 ∧ (∀ n, n < 256 → x.1.1 30 n = if n < k then b2I (bI9 (A0.1 10 n) p) else 0) ∧ ∀ n, n < 256 → x.1.1 31 n = b2I (bI9 (A0.1 10 n) (p + 1))
theorem en_step {h w pw ph m c r p k D : Nat} {A0 B0 A : St} {x : St × Nat} (C : Cod h w pw ph m c r A0 B0) (hp : p < 6) (hk : k < 256) (hD : D < 1536) (H : EnR p k D A0 B0 A x) : EnR p (k + 1) (D + 1) A0 B0 (if k % 16 < c ∧ k / 16 < r then wpF (nI p) (k % 16) (k / 16) A else A) (emF (nI p) k x) := by
  obtain ⟨C1, C2, C3, C4, C5⟩ := C
  obtain ⟨e1, e2, e3, e4, e5, e6⟩ := H
  have K1 : Rdim h w A x.1 := C1.mv (fun o q e => e1.1 o q (by omega)) (fun q e => e2.1 21 q (by omega))
  have K2 : Rpat pw ph m A x.1 := C2.mv (fun q => e1.1 5 q (by omega)) (fun q e => e2.1 21 q (by omega))
  have K3 : Rgrd c r A x.1 := C3.mv (fun q => e1.1 7 q (by omega)) (fun q z1 z2 => e2.1 21 q (by omega))
  have K4 : Rway A x.1 := C4.mv (fun q z1 z2 => e1.1 0 q (by omega)) (fun q z1 z2 => e2.1 21 q (by omega))
  have c2 : c ≤ 16 := K3.2.1
  have r2 : r ≤ 16 := K3.2.2.2.1
  have b1 := K3.2.2.2.2.2.2.1
  have b2 := K3.2.2.2.2.2.2.2.1
  have hsk : skM x.1 (nI (k % 16)) (nI (k / 16)) = skM B0 (nI (k % 16)) (nI (k / 16)) := by
    rw [← sk_sk K1 K2 K3 K4, ← sk_sk C1 C2 C3 C4]
    unfold skH ouH lfL tpL
    rw [e1.1 0 13 (by omega), e1.1 0 0 (by omega), e1.1 0 1 (by omega), e1.1 5 1 (by omega), e1.1 5 2 (by omega), e1.1 7 3 (by omega), e1.1 7 4 (by omega), e1.1 7 5 (by omega), e1.1 7 6 (by omega)]
  have still : (A0.1 10 k = 0) → EnR p (k + 1) (D + 1) A0 B0 A x := by
    intro hz
    refine ⟨e1, e2, e3, e4.up, fun n hn => ?_, e6⟩
    rw [e5 n hn]
    by_cases z : n < k
    · rw [if_pos z, if_pos (by omega)]
    · rw [if_neg z]
      by_cases z2 : n = k
      · rw [if_pos (by omega), z2, hz, bI_0]; rfl
      · rw [if_neg (by omega)]
  unfold emF
  rw [hp_of b1 b2 c2 r2 (by omega) (by omega)]
  by_cases hin : k % 16 < c ∧ k / 16 < r
  · rw [if_pos hin, if_pos hin, if_neg (by decide)]
    unfold wpF
    rw [sk_sk K1 K2 K3 K4, hsk]
    by_cases hs : skM B0 (nI (k % 16)) (nI (k / 16)) = 0
    · rw [if_pos hs, if_pos hs]
      have hT : Told p k c r A x.1 := by
        refine ⟨⟨b1, b2, c2, r2⟩, fun n hn => ?_, fun n hn ho => ?_, fun n hn => ?_⟩
        · rw [e5 n hn, e1.1 10 n (by omega)]
        · rw [e1.1 10 n (by omega), C5 n hn, if_neg (by omega)]
        · rw [e6 n hn, e1.1 10 n (by omega)]
      have hct := ct_ct hT (by omega) (a := k % 16) (b := k / 16) (by omega) (by omega) (by omega)
      obtain ⟨cx, hcx, ecx⟩ := ctM_nat x.1 (nI (k % 16)) (nI (k / 16))
      have ecode : A.1 10 k = B0.1 25 k ^^^ B0.1 25 k >>> (1 &&& 31) := by
        rw [e1.1 10 k (by omega), C5 k hk, if_pos ⟨hin, hs⟩]
      have hbt : btC A (nI (k % 16)) (nI (k / 16)) (nI p) = b2I (bI9 (A0.1 10 k) p) := by
        rw [bt_n (by omega) (by omega) (by omega), show 16 * (k / 16) + k % 16 = k by omega, e1.1 10 k (by omega)]
      have hem : emB x.1 (nI p) k = b2I (bI9 (A0.1 10 k) p) := by
        rw [emB_v (by omega), e2.1 25 k (by omega), ← gray_bit (by omega), ← ecode, e1.1 10 k (by omega)]
      rw [hct, ecx, hbt, hem, ft_ft e3 hcx, nI_clamp (by omega)]
      generalize hbb : bI9 (A0.1 10 k) p = bb
      have here1 : ∀ (T : St) (v : Int32), (∀ n, n < 256 → T.1 30 n = if n < k then b2I (bI9 (A0.1 10 n) p) else 0) → v = b2I bb → ∀ n, n < 256 → (leM (puI T 30 k v) (nI cx) (b2I bb)).1 30 n = if n < k + 1 then b2I (bI9 (A0.1 10 n) p) else 0 := by
        intro T v hT2 hv n hn
        rw [lm_f.1 30 n (by omega), puI_at]
        by_cases z : n = k
        · rw [if_pos ⟨rfl, z⟩, if_pos (by omega), hv, ← hbb, z]
        · rw [if_neg (fun y => z y.2), hT2 n hn]
          by_cases z2 : n < k
          · rw [if_pos z2, if_pos (by omega)]
          · rw [if_neg z2, if_neg (by omega)]
      obtain ⟨t0, t1⟩ := te_eq e4 (by omega)
      unfold emG
      by_cases hft : b2I bb = if x.1.1 28 cx < 0 then 0 else 1
      · rw [if_pos hft, if_pos hft]
        refine ⟨⟨fun o q hn => ?_, ?_⟩, ⟨fun o q hn => ?_, ?_⟩, ?_, ?_, ?_, ?_⟩
        · rw [le_f.1 o q (by omega), enw_f.1 o q (by omega)]; exact e1.1 o q hn
        · rw [le_f.2, enw_f.2]; exact e1.2
        · dsimp only
          rw [lm_f.1 o q (by omega), puI_at, if_neg (by omega)]; exact e2.1 o q hn
        · exact e2.2
        · exact learn_eq (e3.mv (fun q => enw_f.1 12 q (by omega)) (fun q => enw_f.1 13 q (by omega)) (fun q => by rw [puI_at, if_neg (by omega)]) (fun q => by rw [puI_at, if_neg (by omega)])) hcx bb
        · exact t1.mv (fun q _ _ => le_f.1 14 q (by omega)) (fun q => le_f.1 15 q (by omega)) (fun q => le_f.1 16 q (by omega)) (fun q _ => by dsimp only; rw [lm_f.1 21 q (by omega), puI_at, if_neg (by omega)]) (fun q => by dsimp only; rw [lm_f.1 26 q (by omega), puI_at, if_neg (by omega)])
        · exact here1 x.1 _ e5 (nar_b2I bb)
        · intro n hn
          dsimp only
          rw [lm_f.1 31 n (by omega), puI_at, if_neg (by omega)]; exact e6 n hn
      · rw [if_neg hft, if_neg hft]
        have mo : ∀ o q, ¬ (o = 26 ∨ (o = 21 ∧ (q = 20 ∨ q = 29 ∨ q = 30 ∨ q = 31))) → (mrS x.1 x.2).1 o q = x.1.1 o q := fun o q hn => by
          by_cases z : o = 21
          · subst z; exact mrS_k (by omega) (by omega) (by omega) (by omega)
          · rw [(mrS_o (S := x.1) (r := x.2) (o := o) z (by omega)).1]
        refine ⟨⟨fun o q hn => ?_, ?_⟩, ⟨fun o q hn => ?_, ?_⟩, ?_, ?_, ?_, ?_⟩
        · rw [le_f.1 o q (by omega), enw_f.1 o q (by omega)]; exact e1.1 o q hn
        · rw [le_f.2, enw_f.2]; exact e1.2
        · dsimp only
          rw [lm_f.1 o q (by omega), puI_at, if_neg (by omega), mo o q (by omega)]; exact e2.1 o q hn
        · exact (mrS_o (S := x.1) (r := x.2) (o := 0) (by decide) (by decide)).2.trans e2.2
        · exact learn_eq (e3.mv (fun q => enw_f.1 12 q (by omega)) (fun q => enw_f.1 13 q (by omega)) (fun q => by rw [puI_at, if_neg (by omega), mo 28 q (by omega)]) (fun q => by rw [puI_at, if_neg (by omega), mo 29 q (by omega)])) hcx bb
        · exact t0.mv (fun q _ _ => le_f.1 14 q (by omega)) (fun q => le_f.1 15 q (by omega)) (fun q => le_f.1 16 q (by omega)) (fun q _ => by dsimp only; rw [lm_f.1 21 q (by omega), puI_at, if_neg (by omega)]) (fun q => by dsimp only; rw [lm_f.1 26 q (by omega), puI_at, if_neg (by omega)])
        · exact here1 (mrS x.1 x.2) _ (fun n hn => by rw [mo 30 n (by omega)]; exact e5 n hn) (nar_b2I bb)
        · intro n hn
          dsimp only
          rw [lm_f.1 31 n (by omega), puI_at, if_neg (by omega), mo 31 n (by omega)]; exact e6 n hn
    · rw [if_neg hs, if_neg hs]
      exact still (by rw [C5 k hk, if_neg (fun z => hs z.2)])
  · rw [if_neg hin, if_neg hin, if_pos rfl]
    exact still (by rw [C5 k hk, if_neg (fun z => hin z.1)])
/-- a plane as one loop over all places -/
theorem pO_256 {σ : Type} {f : Nat → Nat → σ → σ} {c r : Nat} (hc : c ≤ 16) (hr : r ≤ 16) {s : σ} : pO f c r s = nF (fun k t => if k % 16 < c ∧ k / 16 < r then f (k % 16) (k / 16) t else t) 256 s := by
  rw [← pO_sub hc hr, show 256 = 16 * 16 from rfl, ← nF_pO (n := 16) (by decide) 16]
theorem nx_all2 {T : St} (n : Nat) : (∀ o k, (nF nx1 n T).1 o k = if o = 31 ∧ k < n then vp_nar .boolean (T.1 30 k) else if o = 30 ∧ k < n then 0 else T.1 o k) ∧ (nF nx1 n T).2 = T.2 := by
  induction n with
  | zero =>
    refine ⟨fun o k => ?_, rfl⟩
    rw [if_neg (by omega), if_neg (by omega)]
    rfl
  | succ n ih =>
    obtain ⟨e1, e2⟩ := ih
    have es : nF nx1 (n + 1) T = nx1 n (nF nx1 n T) := rfl
    rw [es]
    clear es
    generalize nF nx1 n T = z at *
    have e30 : z.1 30 n = T.1 30 n := by rw [e1, if_neg (by omega), if_neg (by omega)]
    unfold nx1
    rw [e30, nar_0]
    refine ⟨fun o k => ?_, e2⟩
    rw [puI_at, puI_at, e1]
    by_cases h1 : k = n
    · subst h1
      by_cases h2 : o = 30
      · subst h2; simp
      · by_cases h3 : o = 31
        · subst h3; simp
        · simp [h2, h3]
    · have h4 : (k < n + 1) ↔ (k < n) := by omega
      simp [h1, h4]
theorem nxM_v {T : St} (hT : ∀ n, n < 256 → T.1 30 n = 0 ∨ T.1 30 n = 1) : (∀ n, n < 256 → (nxM T).1 31 n = T.1 30 n) ∧ (∀ n, n < 256 → (nxM T).1 30 n = 0) := by
  unfold nxM npM
  refine ⟨fun n hn => ?_, fun n hn => ?_⟩
  · rw [flI_at, if_neg (by omega), flI_at, if_neg (by omega), (nx_all2 256).1, if_pos ⟨rfl, hn⟩, nar_01 (hT n hn)]
  · rw [flI_at, if_neg (by omega), flI_at, if_neg (by omega), (nx_all2 256).1, if_neg (by omega), if_pos ⟨rfl, hn⟩]
theorem ctx_new {A B : St} (X Y : St) (hA : A = flI (flI X 12 (-1) 64) 13 0 64) (hB : B = flI (flI Y 28 (-1) 64) 29 0 64) : Rctx A B := by
  subst hA
  subst hB
  intro n hn
  simp [flI_at, hn]
def EnP (n D : Nat) (A0 B0 A : St) (x : St × Nat) : Prop := encA A0 A ∧ encB B0 x.1 ∧ Rctx A x.1 ∧ EnW D x.2 A x.1 ∧ ∀ q, q < 256 → x.1.1 30 q = b2I (bI9 (A0.1 10 q) n)
theorem en_plane {h w pw ph m c r p D : Nat} {A0 B0 A : St} {x : St × Nat} (C : Cod h w pw ph m c r A0 B0) (hp : p < 6) (hD : D + 256 ≤ 1536) (H : EnP (p + 1) D A0 B0 A x) : EnP p (D + 256) A0 B0 (wpH A c r (nI p)) (epF (nI p) x) := by
  obtain ⟨e1, e2, e3, e4, e5⟩ := H
  obtain ⟨f1, f2⟩ := nxM_v (T := x.1) (fun n hn => by rw [e5 n hn]; exact b2I_01 _)
  have hno : ∀ o q, ¬ (o = 28 ∨ o = 29 ∨ o = 30 ∨ o = 31) → (nxM x.1).1 o q = x.1.1 o q := fun o q hn => by rw [(nxM_o (S := x.1) (o := o) (by omega) (by omega) (by omega) (by omega)).1]
  have hbf : ∀ o q, ¬ (o = 12 ∨ o = 13) → (bpF A).1 o q = A.1 o q := fun o q hn => by unfold bpF; rw [flI_at, if_neg (by omega), flI_at, if_neg (by omega)]
  have key : EnR p 256 (D + 256) A0 B0 (wpH A c r (nI p)) (epF (nI p) x) := by
    unfold wpH epF
    rw [pO_256 C.2.2.1.2.1 C.2.2.1.2.2.2.1]
    refine nF_rel (R := fun k A x => EnR p k (D + k) A0 B0 A x) 256 (fun k A x hk hR => en_step C hp hk (show D + k < 1536 by omega) hR) ⟨⟨fun o q hn => ?_, e1.2⟩, ⟨fun o q hn => ?_, ?_⟩, ?_, ?_, ?_, ?_⟩
    · rw [hbf o q (by omega)]; exact e1.1 o q hn
    · rw [hno o q (by omega)]; exact e2.1 o q hn
    · exact (nxM_o (S := x.1) (o := 0) (by decide) (by decide) (by decide) (by decide)).2.trans e2.2
    · exact ctx_new A (nF nx1 256 x.1) rfl rfl
    · exact e4.mv (fun q _ _ => hbf 14 q (by omega)) (fun q => hbf 15 q (by omega)) (fun q => hbf 16 q (by omega)) (fun q _ => hno 21 q (by omega)) (fun q => hno 26 q (by omega))
    · intro n hn
      rw [if_neg (by omega)]; exact f2 n hn
    · intro n hn
      rw [f1 n hn]; exact e5 n hn
  obtain ⟨g1, g2, g3, g4, g5, -⟩ := key
  exact ⟨g1, g2, g3, g4, fun q hq => by rw [g5 q hq, if_pos hq]⟩
theorem epS_s {c r n : Nat} {T : St} : epS c r (n + 1) T = epS c r n (wpH T c r (nI n)) := rfl
theorem epM_s {n : Nat} {x : St × Nat} : epM (n + 1) x = epM n (epF (nI n) x) := by rw [epM]
theorem en_planes {h w pw ph m c r : Nat} {A0 B0 : St} (C : Cod h w pw ph m c r A0 B0) (n : Nat) : ∀ (D : Nat) (A : St) (x : St × Nat), n ≤ 6 → D + 256 * n ≤ 1536 → EnP n D A0 B0 A x → EnP 0 (D + 256 * n) A0 B0 (epS c r n A) (epM n x) := by
  induction n with
  | zero =>
    intro D A x _ _ H
    exact H
  | succ n ih =>
    intro D A x hn hD H
    have e : D + 256 * (n + 1) = D + 256 + 256 * n := by rw [Nat.mul_succ, Nat.add_comm (256 * n), Nat.add_assoc]
    rw [e] at hD
    have h1 := en_plane C (p := n) (by omega) (Nat.le_trans (Nat.le_add_right _ _) hD) H
    have h2 := ih (D + 256) _ _ (by omega) hD h1
    rw [e, epS_s, epM_s]
    exact h2
