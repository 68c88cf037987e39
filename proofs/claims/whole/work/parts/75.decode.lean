theorem de0_f {B : St} : (∀ o k, ¬ (o = 28 ∨ o = 29 ∨ o = 30 ∨ o = 31 ∨ (o = 21 ∧ (29 ≤ k ∧ k ≤ 35))) → (de0 B).1 o k = (puI B 21 0 0).1 o k) ∧ (de0 B).2 = B.2 := by
  unfold de0
  refine ⟨fun o k hn => ?_, rfl⟩
  rw [puI_at, if_neg (by omega), puI_at, if_neg (by omega), puI_at, if_neg (by omega), puI_at, if_neg (by omega), brM_f.1 o k (by omega)]
theorem rd0_f {S : St} {m : Nat} : (∀ o k, ¬ (o = 32 ∨ (o = 21 ∧ (k = 36 ∨ k = 37))) → (rd0 S m).1 o k = S.1 o k) ∧ (rd0 S m).2 = S.2 := by
  unfold rd0
  refine ⟨fun o k hn => ?_, rfl⟩
  rw [puI_at, if_neg (by omega), puI_at, if_neg (by omega), flI_at, if_neg (by omega)]
theorem ed_T {S : St} (h : S.1 17 7 = 0) : edT S = nbT S := by
  unfold edT nbT
  rw [if_pos h]
theorem ed_R {S : St} (h : ¬ S.1 17 7 = 0) : edS S = S := by
  unfold edS edT
  rw [if_neg h]
  unfold edE
  rw [if_neg h]
theorem q_decode {h w c9 r9 m9 : Nat} {A B : St} (H : Rl h w A B) (k1 : B.1 21 9 = nI c9) (k2 : B.1 21 10 = nI r9) (k3 : B.1 21 7 = nI (m9 + 1)) (c2 : c9 ≤ 16) (r2 : r9 ≤ 16) (hm2 : m9 < 64) : Rl h w (dcS (dcX A c9 r9 m9) c9 r9) (deS (deX B m9) (deP B m9)) ∧ dcR (dcX A c9 r9 m9) (dcP A c9 r9) = deR (deX B m9) (deP B m9) := by
  obtain ⟨pw, ph, m, c, r, h1, h2, h3, h4, h5, h6, h7, h8, h9, h10, h11, h12⟩ := H
  have ec : c = c9 := (nI_eq (by have := h6.2.1; omega) (by omega)).mp (h6.2.2.2.2.2.2.1.symm.trans k1)
  have er : r = r9 := (nI_eq (by have := h6.2.2.2.1; omega) (by omega)).mp (h6.2.2.2.2.2.2.2.1.symm.trans k2)
  have em : m + 1 = m9 + 1 := (nI_eq (by have := h4.2.2.2.2.1; omega) (by omega)).mp (h4.2.2.2.2.2.2.2.2.2.2.symm.trans k3)
  have em' : m = m9 := by omega
  subst ec
  subst er
  subst em'
  obtain ⟨bl1, bl2⟩ := bl_lt m hm2
  obtain ⟨cm, hcm, rc1, rc2, rc3⟩ := h12
  have C : Dod h w pw ph m c r cm A (puI B 21 0 0) := by
    refine ⟨h1.mv (fun o k e => rfl) (fun k e => by rw [puI_at, if_neg (by omega)]), h4.mv (fun k => rfl) (fun k e => by rw [puI_at, if_neg (by omega)]), h6.mv (fun k => rfl) (fun k e1 e2 => by rw [puI_at, if_neg (by omega)]), h8.mv (fun k e1 e2 => rfl) (fun k e1 e2 => by rw [puI_at, if_neg (by omega)]), hcm, rc1, ?_, fun n hn => ?_⟩
    · rw [puI_at, if_neg (by decide), rc2]
    · rw [puI_at, if_neg (by omega)]; exact rc3 n hn
  obtain ⟨PL, hPL, pl1, pl2⟩ := pl_eq h1 h4 h6 h8
  have pl3 : plM (flI (de0 B) 32 0 256) = nI PL := by
    rw [← pl2]
    refine pl_21 (fun k hk1 hk => ?_)
    rw [flI_at, if_neg (by omega), de0_f.1 21 k (by omega), puI_at, if_neg (by omega)]
  have P0 : DeP cm (bl 6 m) 0 c r A (puI B 21 0 0) (dc0 A c r m) (rd0 (de0 B) m) := by
    have hb32 : ∀ q, q < 256 → (rd0 (de0 B) m).1 32 q = 0 := fun q hq => by
      unfold rd0
      rw [puI_at, if_neg (by omega), puI_at, if_neg (by omega), flI_at, if_pos ⟨rfl, hq⟩]
    have ha10 : ∀ q, q < 256 → (dc0 A c r m).1 10 q = 0 := fun q hq => by
      simp [dc0, bpF, rgS, flI_at, puI_at, hq]
    refine ⟨⟨fun o k hn => ?_, rfl⟩, ⟨fun o k hn => ?_, ?_⟩, ?_, ?_, Or.inl ⟨⟨0, 1, 4, ⟨?_, ?_, Nat.zero_le _, ?_, ?_⟩, ?_, ?_, Or.inl ⟨?_, ?_⟩, ⟨?_, ?_, ?_, ?_⟩, by decide, by decide, Nat.le_refl 4⟩, fun q hq => ?_, fun q hq => ?_, fun q hq _ => ha10 q hq⟩⟩
    · simp only [dc0, bpF, rgS, flI_at, puI_at]
      repeat rw [if_neg (by omega)]
    · rw [rd0_f.1 o k (by omega), de0_f.1 o k (by omega)]
    · exact rd0_f.2.trans de0_f.2
    · refine (ctx_new (rgS (flI A 10 0 256) (dcP A c r * nI (bl 6 m))) (flI (flI (puI (puI (puI (puI B 21 0 0) 21 29 4) 21 30 1) 21 31 0) 30 (vp_nar .boolean 0) 256) 31 (vp_nar .boolean 0) 256) rfl rfl).mv (fun q => rfl) (fun q => rfl) (fun q => ?_) (fun q => ?_)
      · rw [rd0_f.1 28 q (by omega)]; rfl
      · rw [rd0_f.1 29 q (by omega)]; rfl
    · rw [rd0_f.1 21 31 (by decide)]
      simp [dc0, bpF, rgS, de0, brM, npM, flI_at, puI_at]
    · simp [dc0, bpF, rgS, flI_at, puI_at]; rfl
    · rw [rd0_f.1 21 32 (by decide)]
      simp [de0, puI_at]; rfl
    · simp [dc0, bpF, rgS, flI_at, puI_at]; rfl
    · rw [rd0_f.1 21 35 (by decide)]
      simp [de0, puI_at]; rfl
    · simp [rd0, puI_at]
    · have e1 : (dc0 A c r m).1 17 4 = dcP A c r * nI (bl 6 m) := by simp [dc0, bpF, rgS, flI_at, puI_at]
      have e2 : (rd0 (de0 B) m).1 21 36 = plM (flI (de0 B) 32 0 256) * nI (bl 6 m) := by
        unfold rd0
        rw [puI_at, if_neg (by decide), puI_s]
      rw [e1, e2, pl1, pl3]
    · simp [dc0, bpF, rgS, flI_at, puI_at]
    · rw [rd0_f.1 21 34 (by decide)]
      simp [de0, puI_at]
    · simp [dc0, bpF, rgS, flI_at, puI_at]; rfl
    · rw [rd0_f.1 21 30 (by decide)]
      simp [de0, brM, npM, flI_at, puI_at]; rfl
    · simp [dc0, bpF, rgS, flI_at, puI_at]; rfl
    · rw [rd0_f.1 21 29 (by decide)]
      simp [de0, brM, npM, flI_at, puI_at]; rfl
    · rw [rd0_f.1 30 q (by omega), ha10 q hq, bI_0]
      simp [de0, brM, npM, flI_at, puI_at, hq, nar_0]
      rfl
    · rw [ha10 q hq, hb32 q hq]
      exact ⟨0, Nat.pow_pos (by decide), by rw [Nat.mul_zero]; rfl, rfl⟩
  have P1 := de_planes C (bl 6 m) 0 _ _ bl2 (by omega) P0
  obtain ⟨p1, p2, p3, p4, p5⟩ := P1
  -- the last run, or none
  have hK5 : Byt cm (dpS c r (bl 6 m) (dc0 A c r m)) (rpN (bl 6 m) (rd0 (de0 B) m)) := C.2.2.2.2.mv (p1.1 17 2 (by decide)) (fun q => p1.1 18 q (by omega)) (p2.1 21 23 (by decide)) (fun q => p2.1 27 q (by omega))
  have eX : dcX A c r m = puI (edS (dpS c r (bl 6 m) (dc0 A c r m))) 0 14 ((edS (dpS c r (bl 6 m) (dc0 A c r m))).1 17 6) := rfl
  have eU : deX B m = reF (rpN (bl 6 m) (rd0 (de0 B) m)) := rfl
  have eP : deP B m = if goes (reF (rpN (bl 6 m) (rd0 (de0 B) m))) then nI PL else -1 := by
    rw [← pl3]; rfl
  rw [eX, eU, eP]
  clear eX eU eP P0
  generalize dpS c r (bl 6 m) (dc0 A c r m) = A1 at *
  generalize rpN (bl 6 m) (rd0 (de0 B) m) = B1 at *
  -- what holds behind the end: frames, runs, and how it went
  have E : ∃ T U : St, edS A1 = edE T ∧ reF B1 = U ∧ runA A1 T ∧ runB B1 U ∧ T.1 17 6 = U.1 21 31 ∧ ((∃ a, Rd cm a false T U ∧ 1 ≤ a ∧ U.1 21 37 = 0 ∧ (∀ q, q < 256 → Cd 0 (T.1 10 q) (U.1 32 q)) ∧ ∀ q, q < 256 → ¬ act c r (puI B 21 0 0) q → T.1 10 q = 0) ∨ Ref T U) := by
    rcases p5 with ⟨gL, -, g2, g3⟩ | gR
    · obtain ⟨l1, l2⟩ := liv_7 gL
      obtain ⟨q1, q2, q3, q4⟩ := run_or hK5 (by omega) gL p4
      refine ⟨nbT A1, mtT B1, ?_, ?_, q2, q3, q4, ?_⟩
      · unfold edS; rw [ed_T l1]
      · unfold reF; rw [if_pos l2]
      · rcases q1 with ⟨⟨a, mm, aa, s1, s2, s3, s4, -⟩, hne⟩ | qR
        · left
          refine ⟨a, s1, ?_, s2, fun q hq => ?_, fun q hq ha => ?_⟩
          · rcases s4 with ⟨z, -⟩ | ⟨z, -⟩
            · exact absurd z hne
            · exact z
          · rw [q2.1 10 q (by omega), q3.1 32 q (by omega)]; exact g2 q hq
          · rw [q2.1 10 q (by omega)]; exact g3 q hq ha
        · exact Or.inr qR
    · obtain ⟨l1, l2⟩ := ref_7 gR
      refine ⟨A1, B1, ?_, ?_, runA.r, runB.r, p4, Or.inr gR⟩
      · rw [ed_R l1]
        unfold edE
        rw [if_neg l1]
      · unfold reF; rw [if_neg l2]
  obtain ⟨T, U, eT, eU, fT, fU, hruns, hway⟩ := E
  rw [eT, eU]
  have XA : ∀ o k, ¬ (o = 10 ∨ o = 12 ∨ o = 13 ∨ o = 19 ∨ (o = 17 ∧ 3 ≤ k)) → T.1 o k = A.1 o k := fun o k hn => (fT.1 o k (by omega)).trans (p1.1 o k hn)
  have XB : ∀ o k, ¬ (o = 28 ∨ o = 29 ∨ o = 30 ∨ o = 31 ∨ o = 32 ∨ (o = 21 ∧ (k = 0 ∨ 29 ≤ k))) → U.1 o k = B.1 o k := fun o k hn => by
    rw [fU.1 o k (by omega), p2.1 o k (by omega), puI_at, if_neg (by omega)]
  have X2 : T.2 = A.2 := fT.2.trans p1.2
  have XC : Rctx T U := p3.mv (fun q => fT.1 12 q (by omega)) (fun q => fT.1 13 q (by omega)) (fun q => fU.1 28 q (by omega)) (fun q => fU.1 29 q (by omega))
  have fE : (∀ o k, ¬ (o = 17 ∧ k = 7) → (edE T).1 o k = T.1 o k) ∧ (edE T).2 = T.2 := by
    unfold edE
    repeat' split
    · exact ⟨fun o k hn => by rw [puI_at, if_neg hn], rfl⟩
    · exact ⟨fun _ _ _ => rfl, rfl⟩
    · exact ⟨fun _ _ _ => rfl, rfl⟩
  -- the common part: a refused call
  have refused : Rl h w (puI (puI (edE T) 0 14 ((edE T).1 17 6)) 17 2 0) (puI U 21 23 0) := by
    have FA : ∀ o k, ¬ (o = 10 ∨ o = 12 ∨ o = 13 ∨ o = 17 ∨ o = 19 ∨ (o = 0 ∧ k = 14)) → (puI (puI (edE T) 0 14 ((edE T).1 17 6)) 17 2 0).1 o k = A.1 o k := fun o k hn => by
      rw [puI_at, if_neg (by omega), puI_at, if_neg (by omega), fE.1 o k (by omega), XA o k (by omega)]
    have FB : ∀ o k, ¬ (o = 28 ∨ o = 29 ∨ o = 30 ∨ o = 31 ∨ o = 32 ∨ (o = 21 ∧ (k = 0 ∨ k = 23 ∨ 29 ≤ k))) → (puI U 21 23 0).1 o k = B.1 o k := fun o k hn => by
      rw [puI_at, if_neg (by omega), XB o k (by omega)]
    have FA2 : ∀ k, (puI (puI (edE T) 0 14 ((edE T).1 17 6)) 17 2 0).2 6 k = A.2 6 k := fun k => by
      show (edE T).2 6 k = _
      rw [fE.2, X2]
    refine ⟨pw, ph, m, c, r, h1.mv (fun o k e => FA o k (by omega)) (fun k e => FB 21 k (by omega)), h2.mv (fun k => FA 2 k (by omega)) (fun k => FB 22 k (by omega)), h3.mv (fun k => FA 4 k (by omega)) (fun k => FB 23 k (by omega)), h4.mv (fun k => FA 5 k (by omega)) (fun k e => FB 21 k (by omega)), h5.mv (fun k => FA2 k) (fun k => FB 24 k (by omega)), h6.mv (fun k => FA 7 k (by omega)) (fun k e1 e2 => FB 21 k (by omega)), h7.mv (fun k => FA 8 k (by omega)) (fun k => FB 25 k (by omega)), h8.mv (fun k e1 e2 => FA 0 k (by omega)) (fun k e1 e2 => FB 21 k (by omega)), ?_, ?_, h11.mv (FA 14 2 (by omega)) (fun k => FA 15 k (by omega)) (fun k e => FB 21 k (by omega)) (fun k => FB 26 k (by omega)), ?_⟩
    · show (puI (puI (edE T) 0 14 ((edE T).1 17 6)) 17 2 0).1 0 14 = (puI U 21 23 0).1 21 31
      rw [puI_at, if_neg (by decide), puI_s, puI_at, if_neg (by decide), fE.1 17 6 (by decide), hruns]
    · exact XC.mv (fun q => by rw [puI_at, if_neg (by omega), puI_at, if_neg (by omega), fE.1 12 q (by omega)]) (fun q => by rw [puI_at, if_neg (by omega), puI_at, if_neg (by omega), fE.1 13 q (by omega)]) (fun q => by rw [puI_at, if_neg (by omega)]) (fun q => by rw [puI_at, if_neg (by omega)])
    · exact ⟨0, by decide, by rw [puI_s]; rfl, by rw [puI_s]; rfl, fun n hn => by omega⟩
  rcases hway with ⟨a, ⟨s1, s2, s3, s4, s5⟩, ha, s6, s7, s8⟩ | hR
  · have e7 : T.1 17 7 = 0 := s4
    have hg : goes U := ⟨s5, s6⟩
    have hBy : Byt cm T U := hK5.mv (fT.1 17 2 (by decide)) (fun q => fT.1 18 q (by omega)) (fU.1 21 23 (by decide)) (fun q => fU.1 27 q (by omega))
    have har := ar_im hBy s1 s2 s3 ha
    have hpl : (0 : Int32) ≤ nI PL := nI_le (a := 0) (Nat.zero_le _) (by omega)
    rw [if_pos hg]
    have hdn : deN U (nI PL) = rfR U := by
      unfold deN
      rw [if_pos (show U.1 21 35 = 0 from s5), if_pos hpl]
    by_cases him : imM U = 0
    · have eE : edE T = T := by
        unfold edE
        rw [if_pos e7, har, if_pos him, if_neg (by decide)]
      have h17 : (puI (edE T) 0 14 ((edE T).1 17 6)).1 17 7 = 0 := by rw [puI_at, if_neg (by decide), eE, e7]
      have h5 : (puI (edE T) 0 14 ((edE T).1 17 6)).1 5 3 = nI (m + 1) := by rw [puI_at, if_neg (by decide), eE, XA 5 3 (by decide), h4.2.2.2.2.2.2.2.1]
      have hv : ∀ q, q < 256 → gcC (T.1 10 q) = U.1 32 q ∧ ∃ g, g < 64 ∧ U.1 32 q = nI g := fun q hq => by
        obtain ⟨u, u1, u2, u3⟩ := s7 q hq
        have := gd_gc u u1
        rw [u2, Nat.pow_zero, Nat.one_mul, u3]
        exact ⟨this.1, _, this.2, rfl⟩
      have hgg : ggC (puI (edE T) 0 14 ((edE T).1 17 6)) 256 < nI (m + 1) ↔ rfA U 256 = true := by
        rw [gg_lt (show (0 : Int32) < nI (m + 1) from nI_lt (a := 0) (by omega) (by omega)), rf_all]
        have e21 : U.1 21 7 = nI (m + 1) := by rw [XB 21 7 (by omega), h4.2.2.2.2.2.2.2.2.2.2]
        constructor
        · intro hh i hi
          have := hh i hi
          rw [puI_at, if_neg (by omega), eE, (hv i hi).1] at this
          rw [e21]; exact this
        · intro hh i hi
          rw [puI_at, if_neg (by omega), eE, (hv i hi).1, ← e21]
          exact hh i hi
      by_cases hrf : rfA U 256 = true
      · have hN : dcN (puI (edE T) 0 14 ((edE T).1 17 6)) = 0 := by
          unfold dcN
          rw [if_pos h17, h5, if_pos (hgg.mpr hrf)]
        have hD : deN U (nI PL) = 0 := by
          rw [hdn]
          unfold rfR
          rw [if_pos him, if_pos hrf]
        unfold dcS dcR deS deR
        rw [hN, hD, if_pos rfl, if_pos rfl, if_pos (by decide), if_pos (by decide), pl1]
        refine ⟨?_, rfl⟩
        obtain ⟨pw', ph', m', c', r', j1, j2, j3, j4, j5, j6, j7, j8, j9, j10, j11, j12⟩ := refused
        obtain ⟨tg1, tg2⟩ := tg_all (T := puI (puI (edE T) 0 14 ((edE T).1 17 6)) 17 2 0) c2 r2
        obtain ⟨cy1, cy2⟩ := cy_all (T := puI U 21 23 0) 256
        have GA : ∀ o k, o ≠ 8 → (tgH (puI (puI (edE T) 0 14 ((edE T).1 17 6)) 17 2 0) c r).1 o k = (puI (puI (edE T) 0 14 ((edE T).1 17 6)) 17 2 0).1 o k := fun o k hn => by rw [tg1, if_neg (fun z => hn z.1)]
        have GB : ∀ o k, o ≠ 25 → (nF cyF 256 (puI U 21 23 0)).1 o k = (puI U 21 23 0).1 o k := fun o k hn => by rw [cy1, if_neg (fun z => hn z.1)]
        have em2 : m' + 1 = m + 1 := (nI_eq (by have := j4.2.2.2.2.1; omega) (by omega)).mp (j4.2.2.2.2.2.2.2.2.2.2.symm.trans (by rw [puI_at, if_neg (by decide), XB 21 7 (by omega)]; exact h4.2.2.2.2.2.2.2.2.2.2))
        have ec2 : c' = c := (nI_eq (by have := j6.2.1; omega) (by omega)).mp (j6.2.2.2.2.2.2.1.symm.trans (by rw [puI_at, if_neg (by decide), XB 21 9 (by omega)]; exact h6.2.2.2.2.2.2.1))
        have er2 : r' = r := (nI_eq (by have := j6.2.2.2.1; omega) (by omega)).mp (j6.2.2.2.2.2.2.2.1.symm.trans (by rw [puI_at, if_neg (by decide), XB 21 10 (by omega)]; exact h6.2.2.2.2.2.2.2.1))
        have em3 : m' = m := by omega
        subst em3
        subst ec2
        subst er2
        refine ⟨pw', ph', m', c', r', j1.mv (fun o k e => GA o k (by omega)) (fun k e => GB 21 k (by decide)), j2.mv (fun k => GA 2 k (by decide)) (fun k => GB 22 k (by decide)), j3.mv (fun k => GA 4 k (by decide)) (fun k => GB 23 k (by decide)), j4.mv (fun k => GA 5 k (by decide)) (fun k e => GB 21 k (by decide)), j5.mv (fun k => by rw [tg2]) (fun k => GB 24 k (by decide)), j6.mv (fun k => GA 7 k (by decide)) (fun k e1 e2 => GB 21 k (by decide)), ?_, j8.mv (fun k e1 e2 => GA 0 k (by decide)) (fun k e1 e2 => GB 21 k (by decide)), j9.mv (GA 0 14 (by decide)) (GB 21 31 (by decide)), j10.mv (fun k => GA 12 k (by decide)) (fun k => GA 13 k (by decide)) (fun k => GB 28 k (by decide)) (fun k => GB 29 k (by decide)), j11.mv (GA 14 2 (by decide)) (fun k => GA 15 k (by decide)) (fun k e => GB 21 k (by decide)) (fun k => GB 26 k (by decide)), j12.mv (GA 17 2 (by decide)) (fun k => GA 18 k (by decide)) (GB 21 23 (by decide)) (fun k => GB 27 k (by decide))⟩
        intro q hq
        have e10 : (puI (puI (edE T) 0 14 ((edE T).1 17 6)) 17 2 0).1 10 q = T.1 10 q := by rw [puI_at, if_neg (by omega), puI_at, if_neg (by omega), eE]
        have e8 : (puI (puI (edE T) 0 14 ((edE T).1 17 6)) 17 2 0).1 8 q = A.1 8 q := by rw [puI_at, if_neg (by omega), puI_at, if_neg (by omega), eE, XA 8 q (by omega)]
        have e25 : (nF cyF 256 (puI U 21 23 0)).1 25 q = U.1 32 q := by rw [cy1, if_pos ⟨rfl, hq⟩, puI_at, if_neg (by omega)]
        rw [tg1, e25, e10, e8]
        obtain ⟨v1, g, hg64, v2⟩ := hv q hq
        have hlt : U.1 32 q < U.1 21 7 := (rf_all 256).mp hrf q hq
        rw [XB 21 7 (by omega), h4.2.2.2.2.2.2.2.2.2.2, v2, nI_ltI (by omega) (by omega)] at hlt
        by_cases hin : q % 16 < c' ∧ q / 16 < r'
        · rw [if_pos ⟨rfl, hq, hin⟩, v1]
          refine ⟨rfl, ⟨g, by omega, v2⟩, fun z => by omega⟩
        · rw [if_neg (fun z => hin z.2.2)]
          have z10 := s8 q hq (fun z => hin z.1)
          have z32 : U.1 32 q = 0 := by
            rw [← v1, z10]
            decide
          obtain ⟨w1, -, w3⟩ := h7 q hq
          rw [w1, w3 (by omega), z32]
          exact ⟨rfl, ⟨0, Nat.zero_le _, rfl⟩, fun _ => rfl⟩
      · have hN : dcN (puI (edE T) 0 14 ((edE T).1 17 6)) = 4 := by
          unfold dcN
          rw [if_pos h17, h5, if_neg (fun z => hrf (hgg.mp z))]
        have hD : deN U (nI PL) = 4 := by
          rw [hdn]
          unfold rfR
          rw [if_pos him, if_neg hrf]
        unfold dcS dcR deS deR
        rw [hN, hD, if_neg (by decide), if_neg (by decide), if_neg (by decide), if_neg (by decide)]
        exact ⟨refused, rfl⟩
    · have eE : edE T = puI T 17 7 3 := by
        unfold edE
        rw [if_pos e7, har, if_neg him, if_pos rfl]
      have hN : dcN (puI (edE T) 0 14 ((edE T).1 17 6)) = 3 := by
        have h7 : (puI (edE T) 0 14 ((edE T).1 17 6)).1 17 7 = 3 := by rw [puI_at, if_neg (show ¬ (17 = 0 ∧ 7 = 14) by decide), eE, puI_s]
        unfold dcN
        rw [h7, if_neg (show ¬ (3 : Int32) = 0 by decide)]
      have hD : deN U (nI PL) = 3 := by
        rw [hdn]
        unfold rfR
        rw [if_neg him]
      unfold dcS dcR deS deR
      rw [hN, hD, if_neg (by decide), if_neg (by decide), if_neg (by decide), if_neg (by decide)]
      exact ⟨refused, rfl⟩
  · obtain ⟨l1, l2⟩ := ref_7 hR
    have eE : edE T = T := by
      unfold edE
      rw [if_neg l1]
    rw [if_neg l2]
    have h17 : (puI (edE T) 0 14 ((edE T).1 17 6)).1 17 7 = T.1 17 7 := by rw [puI_at, if_neg (by decide), eE]
    rcases hR with ⟨z1, z2⟩ | ⟨z1, z2, z3⟩
    · have hN : dcN (puI (edE T) 0 14 ((edE T).1 17 6)) = 1 := by
        unfold dcN
        rw [h17, z1, if_neg (by decide)]
      have hD : deN U (-1) = 1 := by
        unfold deN
        rw [z2, if_neg (by decide)]
      unfold dcS dcR deS deR
      rw [hN, hD, if_neg (by decide), if_neg (by decide), if_neg (by decide), if_neg (by decide)]
      exact ⟨refused, rfl⟩
    · have hN : dcN (puI (edE T) 0 14 ((edE T).1 17 6)) = 2 := by
        unfold dcN
        rw [h17, z1, if_neg (by decide)]
      have hD : deN U (-1) = 2 := by
        unfold deN
        rw [z2, if_pos rfl, if_neg (by decide)]
      unfold dcS dcR deS deR
      rw [hN, hD, if_neg (by decide), if_neg (by decide), if_neg (by decide), if_neg (by decide)]
      exact ⟨refused, rfl⟩
