/-- what does not change while one decodes -/
def Dod (h w pw ph m c r cm : Nat) (A0 B0 : St) : Prop := Rdim h w A0 B0 ∧ Rpat pw ph m A0 B0 ∧ Rgrd c r A0 B0 ∧ Rway A0 B0 ∧ Byt cm A0 B0
theorem de_step {h w pw ph m c r cm p k t : Nat} {A0 B0 A B : St} (C : Dod h w pw ph m c r cm A0 B0) (hp : p < 6) (hk : k < 256) (ht : t ≤ 1600) (H : DeR cm p k t c r A0 B0 A B) : DeR cm p (k + 1) (t + 1) c r A0 B0 (if k % 16 < c ∧ k / 16 < r then rpF (nI p) (k % 16) (k / 16) A else A) (rmF k B) := by
  obtain ⟨C1, C2, C3, C4, C5⟩ := C
  obtain ⟨e1, e2, e3, e4, e5⟩ := H
  rcases e5 with ⟨hL, hC⟩ | hR
  case inr =>
    obtain ⟨r1, r2⟩ := ref_7 hR
    have eA : (if k % 16 < c ∧ k / 16 < r then rpF (nI p) (k % 16) (k / 16) A else A) = A := by
      split
      · unfold rpF; rw [if_neg r1]
      · rfl
    have eB : rmF k B = B := by unfold rmF; rw [if_neg r2]
    rw [eA, eB]
    exact ⟨e1, e2, e3, e4, Or.inr hR⟩
  have K1 : Rdim h w A B := C1.mv (fun o q e => e1.1 o q (by omega)) (fun q e => e2.1 21 q (by omega))
  have K2 : Rpat pw ph m A B := C2.mv (fun q => e1.1 5 q (by omega)) (fun q e => e2.1 21 q (by omega))
  have K3 : Rgrd c r A B := C3.mv (fun q => e1.1 7 q (by omega)) (fun q z1 z2 => e2.1 21 q (by omega))
  have K4 : Rway A B := C4.mv (fun q z1 z2 => e1.1 0 q (by omega)) (fun q z1 z2 => e2.1 21 q (by omega))
  have K5 : Byt cm A B := C5.mv (e1.1 17 2 (by decide)) (fun q => e1.1 18 q (by omega)) (e2.1 21 23 (by decide)) (fun q => e2.1 27 q (by omega))
  have c2 : c ≤ 16 := K3.2.1
  have r2 : r ≤ 16 := K3.2.2.2.1
  have b1 := K3.2.2.2.2.2.2.1
  have b2 := K3.2.2.2.2.2.2.2.1
  obtain ⟨l1, l2⟩ := liv_7 hL
  obtain ⟨d1, d2, d3, d4⟩ := hC
  have hsk : skM B (nI (k % 16)) (nI (k / 16)) = skM B0 (nI (k % 16)) (nI (k / 16)) := by
    rw [← sk_sk K1 K2 K3 K4, ← sk_sk C1 C2 C3 C4]
    unfold skH ouH lfL tpL
    rw [e1.1 0 13 (by omega), e1.1 0 0 (by omega), e1.1 0 1 (by omega), e1.1 5 1 (by omega), e1.1 5 2 (by omega), e1.1 7 3 (by omega), e1.1 7 4 (by omega), e1.1 7 5 (by omega), e1.1 7 6 (by omega)]
  have still : (A.1 10 k = 0) → DeR cm p (k + 1) (t + 1) c r A0 B0 A B := by
    intro hz
    refine ⟨e1, e2, e3, e4, Or.inl ⟨hL.up, fun n hn => ?_, d2, fun n hn => ?_, d4⟩⟩
    · rw [d1 n hn]
      by_cases z : n < k
      · rw [if_pos z, if_pos (by omega)]
      · rw [if_neg z]
        by_cases z2 : n = k
        · rw [if_pos (by omega), z2, hz, bI_0]; rfl
        · rw [if_neg (by omega)]
    · have := d3 n hn
      by_cases z2 : n = k
      · subst z2
        rw [if_neg (by omega), hz] at this
        rw [if_pos (by omega), hz]
        exact Cd_0 this (by omega) (by omega)
      · by_cases z : n < k
        · rw [if_pos z] at this; rw [if_pos (by omega)]; exact this
        · rw [if_neg z] at this; rw [if_neg (by omega)]; exact this
  unfold rmF
  rw [if_pos l2, hp_of b1 b2 c2 r2 (by omega) (by omega)]
  by_cases hin : k % 16 < c ∧ k / 16 < r
  · rw [if_pos hin, if_pos hin, if_neg (by decide)]
    unfold rpF
    rw [if_pos l1, sk_sk K1 K2 K3 K4, hsk]
    by_cases hs : skM B0 (nI (k % 16)) (nI (k / 16)) = 0
    · rw [if_pos hs, if_pos hs]
      have hT : Told p k c r A B := by
        refine ⟨⟨b1, b2, c2, r2⟩, d1, fun n hn ho => ?_, d2⟩
        exact d4 n hn (fun z => by have := z.1; omega)
      have hct := ct_ct hT (by omega) (a := k % 16) (b := k / 16) (by omega) (by omega) (by omega)
      obtain ⟨cx, hcx, ecx⟩ := ctM_nat B (nI (k % 16)) (nI (k / 16))
      rw [hct, ecx, ft_ft e3 hcx, nI_clamp (by omega)]
      obtain ⟨f, hf⟩ : ∃ f : Bool, (if B.1 28 cx < 0 then (0 : Int32) else 1) = b2I f := by
        by_cases z : B.1 28 cx < 0
        · exact ⟨false, if_pos z⟩
        · exact ⟨true, if_neg z⟩
      rw [hf]
      obtain ⟨g1, g2, g3, g4⟩ := bit_eq K5 ht hL e4 f
      rcases g1 with ⟨gL, b, v1, v2⟩ | gR
      · rw [v1, v2]
        obtain ⟨q1, q2⟩ := liv_7 gL
        have q35 : (mbS B).1 21 35 = 0 := by
          have := q2.1
          unfold nxt at this
          rw [puI_at, if_neg (by decide)] at this
          exact this
        have q37 : (mbS B).1 21 37 = 0 := by
          have := q2.2
          unfold nxt at this
          rw [puI_at, if_neg (by decide)] at this
          exact this
        unfold rpG rmX
        rw [if_pos q1, if_pos q35, if_pos q37]
        -- the codes
        have ecode : (nbS A).1 10 k = A.1 10 k := g2.1 10 k (by omega)
        have hcd := d3 k hk
        rw [if_neg (by omega)] at hcd
        obtain ⟨u, u1, u2, u3⟩ := hcd
        have u1' : u < 2 ^ (5 - p) := by rw [show 5 - p = 6 - (p + 1) by omega]; exact u1
        have u32 : u < 32 := Nat.lt_of_lt_of_le u1' (Nat.pow_le_pow_right (n := 2) (by decide) (show 5 - p ≤ 5 by omega))
        obtain ⟨o1, o2, o3⟩ := or_bit p hp u u1' b
        have hab : abC (nbS A) (nI (k % 16)) (nI (k / 16)) (nI p) (b2I b) = puI (nbS A) 10 k (nI (2 ^ p * (2 * u + b2N b))) := by
          unfold abC
          rw [if_neg (plc_of (by omega) (by omega)).2, (plc_of (by omega) (by omega)).1, nI_clamp (by omega), show 16 * (k / 16) + k % 16 = k by omega, ecode, u2, o1]
        rw [hab]
        have hrv : rmV (mbS B) k (nI cx) (b2I b) = leM (puI (nxt (mbS B)) 30 k (b2I b)) (nI cx) (b2I b) := by
          unfold rmV nxt
          rw [nar_b2I]
        have h32 : (rmV (mbS B) k (nI cx) (b2I b)).1 32 k = nI (gd9 u) := by
          rw [hrv, lm_f.1 32 k (by omega), puI_at, if_neg (by omega), nxt, puI_at, if_neg (by omega), g3.1 32 k (by omega), u3]
        have hru : rmU (rmV (mbS B) k (nI cx) (b2I b)) k (b2I b) = puI (leM (puI (nxt (mbS B)) 30 k (b2I b)) (nI cx) (b2I b)) 32 k (nI (gd9 (2 * u + b2N b))) := by
          unfold rmU
          rw [h32, gd_up u u32 b, hrv]
        rw [hru]
        have fA : ∀ o q, ¬ (o = 10 ∨ o = 12 ∨ o = 13 ∨ o = 19 ∨ (o = 17 ∧ 3 ≤ q)) → (leF (puI (nbS A) 10 k (nI (2 ^ p * (2 * u + b2N b)))) (nI cx) (b2I b)).1 o q = A.1 o q := fun o q hn => by
          rw [le_f.1 o q (by omega), puI_at, if_neg (by omega), g2.1 o q (by omega)]
        have fB : ∀ o q, ¬ (o = 28 ∨ o = 29 ∨ o = 30 ∨ o = 32 ∨ (o = 21 ∧ 29 ≤ q)) → (puI (leM (puI (nxt (mbS B)) 30 k (b2I b)) (nI cx) (b2I b)) 32 k (nI (gd9 (2 * u + b2N b)))).1 o q = B.1 o q := fun o q hn => by
          rw [puI_at, if_neg (by omega), lm_f.1 o q (by omega), puI_at, if_neg (by omega), nxt, puI_at, if_neg (by omega), g3.1 o q (by omega)]
        have a10 : ∀ n, (leF (puI (nbS A) 10 k (nI (2 ^ p * (2 * u + b2N b)))) (nI cx) (b2I b)).1 10 n = if n = k then nI (2 ^ p * (2 * u + b2N b)) else A.1 10 n := fun n => by
          rw [le_f.1 10 n (by omega), puI_at, g2.1 10 n (by omega)]
          simp
        have b30 : ∀ n, (puI (leM (puI (nxt (mbS B)) 30 k (b2I b)) (nI cx) (b2I b)) 32 k (nI (gd9 (2 * u + b2N b)))).1 30 n = if n = k then b2I b else B.1 30 n := fun n => by
          rw [puI_at, if_neg (by omega), lm_f.1 30 n (by omega), puI_at, nxt, puI_at, if_neg (show ¬ (30 = 21 ∧ n = 36) by omega), g3.1 30 n (by omega)]
          simp
        have b32 : ∀ n, (puI (leM (puI (nxt (mbS B)) 30 k (b2I b)) (nI cx) (b2I b)) 32 k (nI (gd9 (2 * u + b2N b)))).1 32 n = if n = k then nI (gd9 (2 * u + b2N b)) else B.1 32 n := fun n => by
          rw [puI_at, lm_f.1 32 n (by omega), puI_at, if_neg (show ¬ (32 = 30 ∧ n = k) by omega), nxt, puI_at, if_neg (show ¬ (32 = 21 ∧ n = 36) by omega), g3.1 32 n (by omega)]
          simp
        refine ⟨⟨fun o q hn => (fA o q hn).trans (e1.1 o q hn), ?_⟩, ⟨fun o q hn => (fB o q (by omega)).trans (e2.1 o q hn), ?_⟩, ?_, ?_, Or.inl ⟨?_, fun n hn => ?_, fun n hn => ?_, fun n hn => ?_, fun n hn ha => ?_⟩⟩
        · rw [le_f.2]; exact g2.2.trans e1.2
        · exact g3.2.trans e2.2
        · refine (learn_eq (A := puI (nbS A) 10 k (nI (2 ^ p * (2 * u + b2N b)))) (B := puI (nxt (mbS B)) 30 k (b2I b)) (e3.mv (fun q => ?_) (fun q => ?_) (fun q => ?_) (fun q => ?_)) hcx b).mv (fun q => rfl) (fun q => rfl) (fun q => ?_) (fun q => ?_)
          · rw [puI_at, if_neg (by omega), g2.1 12 q (by omega)]
          · rw [puI_at, if_neg (by omega), g2.1 13 q (by omega)]
          · rw [puI_at, if_neg (by omega), nxt, puI_at, if_neg (by omega), g3.1 28 q (by omega)]
          · rw [puI_at, if_neg (by omega), nxt, puI_at, if_neg (by omega), g3.1 29 q (by omega)]
          · rw [puI_at, if_neg (by omega)]
          · rw [puI_at, if_neg (by omega)]
        · rw [le_f.1 17 6 (by omega), puI_at, if_neg (by omega), puI_at, if_neg (by omega), lm_f.1 21 31 (by omega), puI_at, if_neg (by omega), nxt, puI_at, if_neg (by decide), g4]
        · refine gL.mv (fun q _ => ?_) (fun q => ?_) (fun q _ => ?_)
          · rw [le_f.1 17 q (by omega), puI_at, if_neg (by omega)]
          · rw [le_f.1 19 q (by omega), puI_at, if_neg (by omega)]
          · rw [puI_at, if_neg (by omega), lm_f.1 21 q (by omega), puI_at, if_neg (by omega)]
        · rw [b30, a10]
          by_cases z : n = k
          · rw [if_pos z, if_pos z, if_pos (by omega), o2]
          · rw [if_neg z, if_neg z, d1 n hn]
            by_cases z2 : n < k
            · rw [if_pos z2, if_pos (by omega)]
            · rw [if_neg z2, if_neg (by omega)]
        · rw [a10, fB 31 n (by omega), d2 n hn]
          by_cases z : n = k
          · rw [if_pos z, o3, z, u2]
          · rw [if_neg z]
        · rw [a10, b32]
          by_cases z : n = k
          · rw [if_pos z, if_pos z, if_pos (by omega)]
            refine ⟨2 * u + b2N b, ?_, rfl, rfl⟩
            have hb1 : b2N b ≤ 1 := by cases b <;> decide
            rw [show 6 - p = (5 - p) + 1 by omega, Nat.pow_succ]
            omega
          · rw [if_neg z, if_neg z]
            have := d3 n hn
            by_cases z2 : n < k
            · rw [if_pos z2] at this; rw [if_pos (by omega)]; exact this
            · rw [if_neg z2] at this; rw [if_neg (by omega)]; exact this
        · rw [a10]
          by_cases z : n = k
          · exfalso
            subst z
            exact ha ⟨hin, hs⟩
          · rw [if_neg z]; exact d4 n hn ha
      · obtain ⟨r1, r3⟩ := ref_7 gR
        have eA : ∀ cx bt, rpG (nI p) (k % 16) (k / 16) A cx bt = nbS A := fun cx bt => by unfold rpG; rw [if_neg r1]
        have eB : ∀ cx bt, rmX (mbS B) k cx bt = mbS B := fun cx bt => by
          unfold rmX
          unfold goes at r3
          by_cases z : (mbS B).1 21 35 = 0
          · rw [if_pos z, if_neg (fun y => r3 ⟨z, y⟩)]
          · rw [if_neg z]
        rw [eA, eB]
        refine ⟨⟨fun o q hn => (g2.1 o q (by omega)).trans (e1.1 o q hn), g2.2.trans e1.2⟩, ⟨fun o q hn => (g3.1 o q (by omega)).trans (e2.1 o q hn), g3.2.trans e2.2⟩, e3.mv (fun q => g2.1 12 q (by omega)) (fun q => g2.1 13 q (by omega)) (fun q => g3.1 28 q (by omega)) (fun q => g3.1 29 q (by omega)), g4, Or.inr gR⟩
    · rw [if_neg hs, if_neg hs]
      exact still (d4 k hk (fun z => hs z.2))
  · rw [if_neg hin, if_neg hin, if_pos rfl]
    exact still (d4 k hk (fun z => hin z.1))
def DeP (cm n t c r : Nat) (A0 B0 A B : St) : Prop := decA A0 A ∧ decB B0 B ∧ Rctx A B ∧ A.1 17 6 = B.1 21 31 ∧ ((Liv cm t A B ∧ (∀ q, q < 256 → B.1 30 q = b2I (bI9 (A.1 10 q) n)) ∧ (∀ q, q < 256 → Cd n (A.1 10 q) (B.1 32 q)) ∧ ∀ q, q < 256 → ¬ act c r B0 q → A.1 10 q = 0) ∨ Ref A B)
theorem de_plane {h w pw ph m c r cm p t : Nat} {A0 B0 A B : St} (C : Dod h w pw ph m c r cm A0 B0) (hp : p < 6) (ht : t + 256 ≤ 1600) (H : DeP cm (p + 1) t c r A0 B0 A B) : DeP cm p (t + 256) c r A0 B0 (if A.1 17 7 = 0 then rpH A c r (nI p) else A) (rpP B) := by
  obtain ⟨e1, e2, e3, e4, e5⟩ := H
  rcases e5 with ⟨hL, e5, e6, e7⟩ | hR
  case inr =>
    obtain ⟨r1, r2⟩ := ref_7 hR
    have eB : rpP B = B := by unfold rpP; rw [if_neg r2]
    rw [if_neg r1, eB]
    exact ⟨e1, e2, e3, e4, Or.inr hR⟩
  obtain ⟨l1, l2⟩ := liv_7 hL
  obtain ⟨f1, f2⟩ := nxM_v (T := B) (fun n hn => by rw [e5 n hn]; exact b2I_01 _)
  have hno : ∀ o q, ¬ (o = 28 ∨ o = 29 ∨ o = 30 ∨ o = 31) → (nxM B).1 o q = B.1 o q := fun o q hn => by rw [(nxM_o (S := B) (o := o) (by omega) (by omega) (by omega) (by omega)).1]
  have hbf : ∀ o q, ¬ (o = 12 ∨ o = 13) → (bpF A).1 o q = A.1 o q := fun o q hn => by unfold bpF; rw [flI_at, if_neg (by omega), flI_at, if_neg (by omega)]
  have eB : rpP B = nF rmF 256 (nxM B) := by unfold rpP; rw [if_pos l2]
  rw [if_pos l1, eB]
  have key : DeR cm p 256 (t + 256) c r A0 B0 (rpH A c r (nI p)) (nF rmF 256 (nxM B)) := by
    unfold rpH
    rw [pO_256 C.2.2.1.2.1 C.2.2.1.2.2.2.1]
    refine nF_rel (R := fun k A B => DeR cm p k (t + k) c r A0 B0 A B) 256 (fun k A B hk hR => de_step C hp hk (show t + k ≤ 1600 by omega) hR) ⟨⟨fun o q hn => ?_, e1.2⟩, ⟨fun o q hn => ?_, ?_⟩, ?_, ?_, Or.inl ⟨?_, fun n hn => ?_, fun n hn => ?_, fun n hn => ?_, fun n hn ha => ?_⟩⟩
    · rw [hbf o q (by omega)]; exact e1.1 o q hn
    · rw [hno o q (by omega)]; exact e2.1 o q hn
    · exact (nxM_o (S := B) (o := 0) (by decide) (by decide) (by decide) (by decide)).2.trans e2.2
    · exact ctx_new A (nF nx1 256 B) rfl rfl
    · rw [hbf 17 6 (by omega), hno 21 31 (by omega)]; exact e4
    · exact hL.mv (fun q _ => hbf 17 q (by omega)) (fun q => hbf 19 q (by omega)) (fun q _ => hno 21 q (by omega))
    · rw [if_neg (by omega)]; exact f2 n hn
    · rw [f1 n hn, hbf 10 n (by omega)]; exact e5 n hn
    · rw [if_neg (by omega), hbf 10 n (by omega), hno 32 n (by omega)]; exact e6 n hn
    · rw [hbf 10 n (by omega)]; exact e7 n hn ha
  obtain ⟨g1, g2, g3, g4, g5⟩ := key
  refine ⟨g1, g2, g3, g4, ?_⟩
  rcases g5 with ⟨gL, k1, k2, k3, k4⟩ | gR
  · refine Or.inl ⟨gL, fun q hq => by rw [k1 q hq, if_pos hq], fun q hq => ?_, k4⟩
    have := k3 q hq
    rw [if_pos hq] at this
    exact this
  · exact Or.inr gR
theorem dpS_s {c r n : Nat} {T : St} : dpS c r (n + 1) T = if T.1 17 7 = 0 then dpS c r n (rpH T c r (nI n)) else T := by rw [dpS]
theorem rpN_s {n : Nat} {T : St} : rpN (n + 1) T = rpN n (rpP T) := by rw [rpN]
theorem de_ref {A B : St} (H : Ref A B) {c r : Nat} (n : Nat) : dpS c r n A = A ∧ rpN n B = B := by
  obtain ⟨r1, r2⟩ := ref_7 H
  constructor
  · cases n with
    | zero => rfl
    | succ n => rw [dpS_s, if_neg r1]
  · induction n with
    | zero => rfl
    | succ n ih =>
      have eB : rpP B = B := by unfold rpP; rw [if_neg r2]
      rw [rpN_s, eB]; exact ih
theorem de_planes {h w pw ph m c r cm : Nat} {A0 B0 : St} (C : Dod h w pw ph m c r cm A0 B0) (n : Nat) : ∀ (t : Nat) (A B : St), n ≤ 6 → t + 256 * n ≤ 1600 → DeP cm n t c r A0 B0 A B → DeP cm 0 (t + 256 * n) c r A0 B0 (dpS c r n A) (rpN n B) := by
  induction n with
  | zero =>
    intro t A B _ _ H
    exact H
  | succ n ih =>
    intro t A B hn hD H
    have e : t + 256 * (n + 1) = t + 256 + 256 * n := by rw [Nat.mul_succ, Nat.add_comm (256 * n), Nat.add_assoc]
    rw [e] at hD
    have h1 := de_plane C (p := n) (by omega) (Nat.le_trans (Nat.le_add_right _ _) hD) H
    by_cases z : A.1 17 7 = 0
    · rw [if_pos z] at h1
      have h2 := ih (t + 256) _ _ (by omega) hD h1
      rw [e, dpS_s, if_pos z, rpN_s]
      exact h2
    · obtain ⟨e1, e2, e3, e4, e5⟩ := H
      rcases e5 with ⟨hL, -⟩ | hR
      · exact absurd (liv_7 hL).1 z
      · obtain ⟨f1, f2⟩ := de_ref hR (c := c) (r := r) (n + 1)
        rw [f1, f2]
        exact ⟨e1, e2, e3, e4, Or.inr hR⟩
