/-! decode, bytes, told, clear -/
theorem fm_ro {T : St} : fp (fun o _ => 21 ≤ o) T (roS T) := by
  unfold roS
  split
  · exact fp_puI (by decide : 21 ≤ 21)
  · exact fp_puI (by decide : 21 ≤ 21)
theorem fm_rs {T : St} (n : Nat) : fp (fun o _ => 21 ≤ o) T (rsS T n) := by
  induction n with
  | zero => exact fp_refl
  | succ n ih => exact fp_trans ih fm_ro
theorem fm_mo : ∀ (n : Nat) (T : St), fp (fun o _ => 21 ≤ o) T (moN n T)
  | 0, _ => fp_refl
  | n + 1, T => by
    unfold moN
    split
    · exact fp_trans fm_ro (fm_mo n _)
    · exact fm_ro
theorem fm_kr {T : St} {r : Int32} : fp (fun o _ => 21 ≤ o) T (krM T r) := by
  unfold krM
  split
  · exact fp_pu (by decide : 21 ≤ 21) (fp_pu (by decide : 21 ≤ 21) (fp_pu (by decide : 21 ≤ 21) (fp_puI (by decide : 21 ≤ 21))))
  · exact fp_pu (by decide : 21 ≤ 21) (fp_puI (by decide : 21 ≤ 21))
theorem fm_md {T : St} {v : Int32} : fp (fun o _ => 21 ≤ o) T (mdF T v) := by
  have h1 : fp (fun o _ => 21 ≤ o) T (mdC (mdB (mdA T v))) := by
    unfold mdC mdB mdA
    exact fp_pu (by decide : 21 ≤ 21) (fp_pu (by decide : 21 ≤ 21) (fp_pu (by decide : 21 ≤ 21) (fp_puI (by decide : 21 ≤ 21))))
  unfold mdF
  exact fp_trans h1 fm_kr
theorem fm_mt {T : St} : fp (fun o _ => 21 ≤ o) T (mtT T) := by
  unfold mtT
  split
  · unfold mdS mdE
    split
    · exact fp_trans (fm_mo _ _) (fp_trans (fm_rs _) fm_md)
    · exact fp_trans (fm_mo _ _) (fp_trans (fm_rs _) fm_md)
  · exact fp_refl
theorem fm_mb {T : St} : fp (fun o _ => 21 ≤ o) T (mbS T) := by
  unfold mbS mtS
  repeat' split
  all_goals exact fp_pu (by decide : 21 ≤ 21) fm_mt
theorem fm_rm {k : Nat} {T : St} : fp (fun o _ => 21 ≤ o) T (rmF k T) := by
  unfold rmF
  split
  · split
    · exact fp_refl
    · split
      · unfold rmX
        split
        · split
          · have h1 : fp (fun o _ => 21 ≤ o) T (rmV (mbS T) k (ctM T (nI (k % 16)) (nI (k / 16))) (mbV T (if T.1 28 (ctM T (nI (k % 16)) (nI (k / 16))).toNatClampNeg < 0 then 0 else 1))) := by
              unfold rmV
              exact fp_trans (fp_pu (by decide : 21 ≤ 30) (fp_pu (by decide : 21 ≤ 21) fm_mb)) fp_le
            unfold rmU
            exact fp_pu (by decide : 21 ≤ 32) h1
          · exact fm_mb
        · exact fm_mb
      · exact fp_refl
  · exact fp_refl
theorem fm_de {S : St} {m : Nat} {pl : Int32} : fp (fun o _ => 21 ≤ o) S (deS (deX S m) pl) := by
  have h0 : fp (fun o _ => 21 ≤ o) S (de0 S) := by
    unfold de0
    exact fp_pu (by decide : 21 ≤ 21) (fp_pu (by decide : 21 ≤ 21) (fp_pu (by decide : 21 ≤ 21) (fp_pu (by decide : 21 ≤ 21) (fp_trans (fp_puI (by decide : 21 ≤ 21)) fp_br))))
  have h1 : fp (fun o _ => 21 ≤ o) (de0 S) (rd0 (de0 S) m) := by
    unfold rd0
    exact fp_pu (by decide : 21 ≤ 21) (fp_pu (by decide : 21 ≤ 21) (fp_flI (fun _ => (by decide : 21 ≤ 32))))
  have hP : ∀ T : St, fp (fun o _ => 21 ≤ o) T (rpP T) := fun T => by
    unfold rpP
    split
    · exact fp_trans fp_nx (fp_nF (fun i U => fm_rm))
    · exact fp_refl
  have hN : ∀ (n : Nat) (T : St), fp (fun o _ => 21 ≤ o) T (rpN n T) := by
    intro n
    induction n with
    | zero => intro T; exact fp_refl
    | succ n ih => intro T; rw [rpN_s]; exact fp_trans (hP T) (ih _)
  have hX : fp (fun o _ => 21 ≤ o) S (deX S m) := by
    show fp (fun o _ => 21 ≤ o) S (reF (rpN (bl 6 m) (rd0 (de0 S) m)))
    refine fp_trans (fp_trans h0 (fp_trans h1 (hN (bl 6 m) _))) ?_
    unfold reF
    split
    · exact fm_mt
    · exact fp_refl
  unfold deS
  split
  · exact fp_trans (fp_pu (k := 23) (v := 0) (by decide : 21 ≤ 21) hX) (fp_nF (fun i U => by unfold cyF; exact fp_puI (by decide : 21 ≤ 25)))
  · exact fp_pu (by decide : 21 ≤ 21) hX
theorem s_decode {h w c r m : Nat} {S : St} (H : Rl h w S S) (k1 : S.1 21 9 = nI c) (k2 : S.1 21 10 = nI r) (k3 : S.1 21 7 = nI (m + 1)) (c2 : c ≤ 16) (r2 : r ≤ 16) (hm2 : m < 64) : Rl h w (deS (deX (dcS (dcX S c r m) c r) m) (deP (dcS (dcX S c r m) c r) m)) (deS (deX (dcS (dcX S c r m) c r) m) (deP (dcS (dcX S c r m) c r) m)) ∧ dcR (dcX S c r m) (dcP S c r) = deR (deX (dcS (dcX S c r m) c r) m) (deP (dcS (dcX S c r m) c r) m) ∧ Rl h w S (dcS (dcX S c r m) c r) := by
  have fr : ∀ o k, 21 ≤ o → (dcS (dcX S c r m) c r).1 o k = S.1 o k := fun o k ho => fa_dc.1 o k (by omega)
  have hp : Rl h w S (dcS (dcX S c r m) c r) := pre_pl H fr
  obtain ⟨q1, q2⟩ := q_decode hp (by rw [fr 21 9 (by decide), k1]) (by rw [fr 21 10 (by decide), k2]) (by rw [fr 21 7 (by decide), k3]) c2 r2 hm2
  exact ⟨fin_pl q1 fm_de, q2, hp⟩
theorem s_byteAt {h w : Nat} {S : St} {i : Int32} (H : Rl h w S S) : Agr h w (puI (if c1H (wi i 0 (szW S - 1)) = 0 then puL S 33 0 ((mdW S i).toInt64) else S) 21 0 (byC (if c1H (wi i 0 (szW S - 1)) = 0 then puL S 33 0 ((mdW S i).toInt64) else S) i)) (c1H (wi i 0 (szW S - 1))) ((byR (if c1H (wi i 0 (szW S - 1)) = 0 then puL S 33 0 ((mdW S i).toInt64) else S) i).toInt64) := by
  have H' := H
  obtain ⟨pw, ph, m, c, r, h1, h2, h3, h4, h5, h6, h7, h8, h9, h10, h11, h12⟩ := H'
  obtain ⟨e1, n, hn, e2⟩ := sz_w h11
  rw [e1]
  by_cases z : wi i 0 (S.1 21 21 - 1) = 0
  · have c1 : c1H (wi i 0 (S.1 21 21 - 1)) = 1 := by rw [z]; rfl
    have b1 : byC S i = 1 := by unfold byC; rw [if_pos z]
    rw [c1, if_neg (by decide), b1]
    exact agr_no H (by decide)
  · have c0 : c1H (wi i 0 (S.1 21 21 - 1)) = 0 := by unfold c1H; rw [if_neg z]
    have b1 : byC (puL S 33 0 ((mdW S i).toInt64)) i = 0 := by unfold byC; rw [puL_1, if_neg z]
    have v1 : byR (puL S 33 0 ((mdW S i).toInt64)) i = mdW S i := by
      have z' := z
      rw [e2] at z'
      obtain ⟨k, hk, rfl⟩ := wi_nat (by omega) z'
      obtain ⟨v, hv, f1, f2⟩ := by_by (n := k) h11 (by rw [e2]; exact nI_lt hk (by omega)) (by omega)
      unfold byR
      rw [puL_1, if_neg z, nI_clamp (by omega), mbM_0, f1]
      exact f2
    rw [c0, if_pos rfl, b1, v1]
    exact look (x := 0) H
theorem s_feed {h w : Nat} {S : St} {b : Int32} (H : Rl h w S S) : Agr h w (fdS (if fdH S b = 0 then puL (tkR S b) 33 0 (((tkR S b).1 17 2).toInt64) else S) b) (fdH S b) ((fdR (if fdH S b = 0 then puL (tkR S b) 33 0 (((tkR S b).1 17 2).toInt64) else S) b).toInt64) := by
  have H' := H
  obtain ⟨pw, ph, m, c, r, h1, h2, h3, h4, h5, h6, h7, h8, h9, h10, h11, h12⟩ := H'
  have eq : fdH S b = fdC S b := by
    unfold fdH fdC
    rw [hr_1 h12]
    by_cases y1 : wi b 0 255 = 0
    · rw [if_pos y1, if_pos y1]
    · rw [if_neg y1, if_neg y1]
      by_cases y2 : S.1 21 23 = 3000
      · rw [if_pos y2, if_pos y2, if_pos rfl]
      · rw [if_neg y2, if_neg y2, if_neg (by decide)]
  by_cases z : fdC S b = 0
  · rw [eq, z, if_pos rfl]
    have hz := z
    unfold fdC at hz
    by_cases y1 : wi b 0 255 = 0
    · rw [if_pos y1] at hz; exact absurd hz (by decide)
    rw [if_neg y1] at hz
    by_cases y2 : S.1 21 23 = 3000
    · rw [if_pos y2] at hz; exact absurd hz (by decide)
    obtain ⟨v, hv, rfl⟩ := wi_nat (n := 256) (by decide) y1
    obtain ⟨cm, hcm, a1, b1⟩ := rea_cm h12
    have hc : cm < 3000 := Nat.lt_of_le_of_ne hcm (fun e => y2 (by rw [b1, e]; rfl))
    have fT : ∀ o k, 21 ≤ o → (tkR S (nI v)).1 o k = S.1 o k := fun o k ho => by
      unfold tkR
      split
      · rfl
      · rw [puI_at, if_neg (by omega), puI_at, if_neg (by omega)]
    have e17 : (tkR S (nI v)).1 17 2 = nI (cm + 1) := by
      unfold tkR
      rw [a1, if_neg (wi_ok hc (by decide)), puI_s, nI_1]
    have hp := pre_ok (F := tkR S (nI v)) (v := ((tkR S (nI v)).1 17 2).toInt64) H rfl fT
    have g23 : (puL (tkR S (nI v)) 33 0 (((tkR S (nI v)).1 17 2).toInt64)).1 21 23 = nI cm := by rw [puL_1, fT 21 23 (by decide), b1]
    have zF : fdC (puL (tkR S (nI v)) 33 0 (((tkR S (nI v)).1 17 2).toInt64)) (nI v) = 0 := by
      unfold fdC
      rw [g23, if_neg y1, if_neg (by rw [← b1]; exact y2)]
    have q := q_take hp hc g23 hv
    have eS : fdS (puL (tkR S (nI v)) 33 0 (((tkR S (nI v)).1 17 2).toInt64)) (nI v) = fdT (puL (tkR S (nI v)) 33 0 (((tkR S (nI v)).1 17 2).toInt64)) (nI v) := by unfold fdS; rw [if_pos zF]
    have eR : fdR (puL (tkR S (nI v)) 33 0 (((tkR S (nI v)).1 17 2).toInt64)) (nI v) = (tkR S (nI v)).1 17 2 := by
      unfold fdR
      rw [if_pos zF, g23, nI_1, e17]
    rw [eS, eR]
    have q2 : Rl h w (tkR S (nI v)) (fdT (puL (tkR S (nI v)) 33 0 (((tkR S (nI v)).1 17 2).toInt64)) (nI v)) := by
      refine q.mv (fun _ _ _ => rfl) (fun _ => rfl) (fun o k ho hk => ?_)
      unfold fdT
      rw [puI_at, puI_at, puI_at, puI_at, puI_at]
      by_cases t1 : o = 21 ∧ k = 23
      · rw [if_pos t1, if_pos t1]
      · rw [if_neg t1, if_neg t1, if_neg hk]
    have fM : fp gM (puL (tkR S (nI v)) 33 0 (((tkR S (nI v)).1 17 2).toInt64)) (fdT (puL (tkR S (nI v)) 33 0 (((tkR S (nI v)).1 17 2).toInt64)) (nI v)) := by
      unfold fdT
      exact fp_pu (by decide : 21 ≤ 21) (fp_pu (by decide : 21 ≤ 27) (fp_puI (by decide : 21 ≤ 21)))
    obtain ⟨r1, r2⟩ := fin_ok q2 rfl fM
    refine ⟨r1, ?_, fun _ => r2⟩
    unfold fdT
    rw [puI_at, if_neg (by decide), puI_at, if_neg (by omega), puI_s]
  · rw [eq, if_neg z]
    unfold fdS
    rw [if_neg z]
    exact agr_no H z
theorem s_pass {h w n : Nat} {S : St} (H : Rl h w S S) (hn : szW S = nI n) (hn2 : n ≤ 384) : Agr h w (psS (if c1H (hrR S (szW S)) = 0 then puL (ppS S n) 33 0 (((ppS S n).1 17 2).toInt64) else S) n) (c1H (hrR S (szW S))) ((psR (if c1H (hrR S (szW S)) = 0 then puL (ppS S n) 33 0 (((ppS S n).1 17 2).toInt64) else S) n).toInt64) := by
  have H' := H
  obtain ⟨pw, ph, m, c, r, h1, h2, h3, h4, h5, h6, h7, h8, h9, h10, h11, h12⟩ := H'
  obtain ⟨cm, hcm, a1, b1⟩ := rea_cm h12
  have e21 : S.1 21 21 = nI n := (sz_w h11).1.symm.trans hn
  have hps : ∀ U : St, U.1 21 23 = nI cm → U.1 21 21 = nI n → psC U = if cm + n ≤ 3000 then 0 else 1 := fun U u1 u2 => by
    unfold psC
    rw [u1, u2, nI_add]
    by_cases y : cm + n ≤ 3000
    · rw [if_pos (show nI (cm + n) ≤ 3000 from nI_le (b := 3000) y (by decide)), if_pos y]
    · rw [if_neg (show ¬ nI (cm + n) ≤ 3000 from nI_ge (a := 3000) (by omega) (by omega)), if_neg y]
  have hhr : hrR S (szW S) = if cm + n ≤ 3000 then 1 else 0 := by
    unfold hrR
    have es : nI 3000 - nI cm = nI (3000 - cm) := sub_nn hcm
    rw [hn, a1, es]
    by_cases y : cm + n ≤ 3000
    · rw [if_neg (nI_nlt (by omega) (by omega)), if_pos y]
    · rw [if_pos (nI_lt (by omega) (by omega)), if_neg y]
  by_cases y : cm + n ≤ 3000
  · have c0 : c1H (hrR S (szW S)) = 0 := by rw [hhr, if_pos y]; rfl
    rw [c0, if_pos rfl]
    have fP : ∀ o k, 21 ≤ o → (ppS S n).1 o k = S.1 o k := fun o k ho => (q_pass H e21 hn2 b1 y).2.2 o k (by omega) (by omega)
    have hp := pre_ok (F := ppS S n) (v := ((ppS S n).1 17 2).toInt64) H rfl fP
    have hp0 : Rl h w S (puI (puL (ppS S n) 33 0 (((ppS S n).1 17 2).toInt64)) 21 0 0) := hp.mv (fun _ _ _ => rfl) (fun _ => rfl) (fun o k ho hk => by rw [puI_at, if_neg hk])
    have g21 : (puI (puL (ppS S n) 33 0 (((ppS S n).1 17 2).toInt64)) 21 0 0).1 21 21 = nI n := by rw [puI_at, if_neg (by decide), puL_1, fP 21 21 (by decide), e21]
    have g23 : (puI (puL (ppS S n) 33 0 (((ppS S n).1 17 2).toInt64)) 21 0 0).1 21 23 = nI cm := by rw [puI_at, if_neg (by decide), puL_1, fP 21 23 (by decide), b1]
    obtain ⟨q1, q2, q3⟩ := q_pass hp0 g21 hn2 g23 y
    have zP : psC (puL (ppS S n) 33 0 (((ppS S n).1 17 2).toInt64)) = 0 := by
      rw [hps _ (by rw [puL_1, fP 21 23 (by decide), b1]) (by rw [puL_1, fP 21 21 (by decide), e21]), if_pos y]
    have e17 : (ppS S n).1 17 2 = nI (cm + n) := by
      obtain ⟨pw, ph, m, c, r, -, -, -, -, -, -, -, -, -, -, -, t12⟩ := q1
      obtain ⟨cm', hc', t1, t2, -⟩ := t12
      rw [q2] at t2
      rw [t1, t2]
    unfold psS psR psL
    rw [if_pos zP, if_pos zP, q2, ← e17]
    have fM : fp gM (puL (ppS S n) 33 0 (((ppS S n).1 17 2).toInt64)) (nF psF n (puI (puL (ppS S n) 33 0 (((ppS S n).1 17 2).toInt64)) 21 0 0)) := fp_trans (fp_puI (show gM 21 0 from (by decide : 21 ≤ 21))) (fp_nF (fun i U => by unfold psF; exact fp_pu (by decide : 21 ≤ 21) (fp_puI (by decide : 21 ≤ 27))))
    obtain ⟨r1, r2⟩ := fin_ok q1 rfl fM
    refine ⟨r1, ?_, fun _ => r2⟩
    rw [psN_k (by decide), puI_s]
  · have c1 : c1H (hrR S (szW S)) = 1 := by rw [hhr, if_neg y]; rfl
    rw [c1, if_neg (by decide)]
    unfold psS
    rw [hps S b1 e21, if_neg y, if_neg (by decide)]
    exact agr_no H (by decide)
theorem s_told {h w m : Nat} {S : St} {x : Int32} (H : Rl h w S S) (hm : S.1 21 7 = nI (m + 1)) (hm2 : m < 64) : tdH S h m x = tdN S m x ∧ Rl h w (puI S 21 0 0) (puI S 21 0 0) := by
  refine ⟨?_, comb0 H⟩
  obtain ⟨pw, ph, m', c, r, h1, h2, h3, h4, h5, h6, h7, h8, h9, h10, h11, h12⟩ := H
  obtain ⟨cm, hcm, a1, b1⟩ := rea_cm h12
  unfold tdH tdN
  rw [h1.2.2.2.2.1, h1.2.2.2.2.2.1, h1.2.2.2.2.2.2.2.2.1, h1.2.2.2.2.2.2.2.2.2, h4.2.2.2.2.2.2.2.1, h4.2.2.2.2.2.2.2.2.2.2, h4.2.2.2.2.2.1, h4.2.2.2.2.2.2.1, h4.2.2.2.2.2.2.2.2.1, h4.2.2.2.2.2.2.2.2.2.1, h6.2.2.2.2.1, h6.2.2.2.2.2.1, h6.2.2.2.2.2.2.1, h6.2.2.2.2.2.2.2.1, (sz_w h11).1, a1, b1, dark_all h1.2.2.2.1 h2, show S.1 0 14 = S.1 21 31 from h9]
theorem s_clear {h w : Nat} {S : St} (H : Rl h w S S) : Rl h w (bgM (puI (clH S h) 21 0 0)) (bgM (puI (clH S h) 21 0 0)) := by
  have hp : Rl h w S (clH S h) := pre_pl H (fun o k ho => by
    simp only [clH, wbS, bpF, bgB, flI_at, puI_at, flL_1]
    repeat rw [if_neg (by omega)])
  refine fin_pl (q_clear hp) ?_
  unfold bgM
  refine fp_trans ?_ fp_np
  iterate 12 refine fp_pu (by decide : 21 ≤ 21) ?_
  exact fp_trans (fp_fl (fun _ => (by decide : 21 ≤ 23)) (fp_fl (fun _ => (by decide : 21 ≤ 22)) (fp_puI (by decide : 21 ≤ 21)))) fp_bl
