/-! calls that are never refused, bytes, told, clear -/
theorem s_page {h w : Nat} {S : St} (H : Rl h w S S) : Rl h w (pgM (pgS S h h)).1 (pgM (pgS S h h)).1 ∧ pgA S h h = (pgM (pgS S h h)).2 := by
  have hq : h ≤ 32 := by
    obtain ⟨pw, ph, m, c, r, h1, -⟩ := H
    exact h1.2.2.2.1
  have hp : Rl h w S (pgS S h h) := pre_pl H (fun o k ho => by rw [(pg_cls (w := w) hq h (Nat.le_refl _)).1, if_neg (by omega)])
  have h01 : ∀ k, k < 1024 → (puI (pgS S h h) 21 0 0).1 23 k = 0 ∨ (puI (pgS S h h) 21 0 0).1 23 k = 1 := fun k hk => by
    rw [puI_at, if_neg (by omega)]
    obtain ⟨pw, ph, m, c, r, h1, h2, h3, -⟩ := hp
    exact sh_01 h3 k hk
  refine ⟨fin_pl (q_page hp) ?_, page_cnt hp⟩
  unfold pgM
  refine ⟨fun o k hn => ?_, (pg_all h01 1024 (Nat.le_refl _)).2.1⟩
  rw [(pg_all h01 1024 (Nat.le_refl _)).1, if_neg (by omega), puI_at, if_neg (by omega)]
theorem fld {h w : Nat} {S S1 : St} (H : Rl h w S S1) : ∃ pw ph m c r, (S1.1 21 5 = nI pw ∧ S1.1 21 6 = nI ph ∧ S1.1 21 7 = nI (m + 1) ∧ S1.1 21 9 = nI c ∧ S1.1 21 10 = nI r) ∧ (S.1 5 3 = nI (m + 1) ∧ S.1 7 1 = nI c ∧ S.1 7 2 = nI r ∧ S.1 0 1 = nI h) ∧ (pw ≤ 8 ∧ ph ≤ 8 ∧ m < 64 ∧ c ≤ 16 ∧ r ≤ 16) ∧ (S1.1 21 1 = nI w ∧ S1.1 21 2 = nI h ∧ w ≤ 32 ∧ h ≤ 32) ∧ (∀ n, n < 256 → ∃ k, k < 64 ∧ S1.1 25 n = nI k) ∧ ∀ n, S1.1 24 n = 0 ∨ S1.1 24 n = 1 := by
  obtain ⟨pw, ph, m, c, r, h1, h2, h3, h4, h5, h6, h7, -⟩ := H
  refine ⟨pw, ph, m, c, r, ⟨h4.2.2.2.2.2.2.2.2.1, h4.2.2.2.2.2.2.2.2.2.1, h4.2.2.2.2.2.2.2.2.2.2, h6.2.2.2.2.2.2.1, h6.2.2.2.2.2.2.2.1⟩, ⟨h4.2.2.2.2.2.2.2.1, h6.2.2.2.2.1, h6.2.2.2.2.2.1, h1.2.2.2.2.2.1⟩, ⟨h4.2.1, h4.2.2.2.1, h4.2.2.2.2.1, h6.2.1, h6.2.2.2.1⟩, ⟨h1.2.2.2.2.2.2.2.2.1, h1.2.2.2.2.2.2.2.2.2, h1.2.1, h1.2.2.2.1⟩, fun n hn => ?_, h5.2⟩
  obtain ⟨-, ⟨k, hk, e⟩, -⟩ := h7 n hn
  have := h4.2.2.2.2.1
  exact ⟨k, by omega, e⟩
theorem s_shade {h w c r m : Nat} {S : St} (H : Rl h w S S) (hm : S.1 21 7 = nI (m + 1)) (hm2 : m < 64) (hc : S.1 21 9 = nI c) (hr : S.1 21 10 = nI r) (hc2 : c ≤ 16) (hr2 : r ≤ 16) : Rl h w (smM (shH S h c r m).1 c r m).1 (smM (shH S h c r m).1 c r m).1 ∧ (shH S h c r m).2 = (smM (shH S h c r m).1 c r m).2 ∧ Rl h w S (shH S h c r m).1 := by
  have hp : Rl h w S (shH S h c r m).1 := pre_pl H sh_fr
  obtain ⟨q1, q2⟩ := q_shade hp (by rw [sh_fr 21 7 (by decide), hm]) hm2 (by rw [sh_fr 21 9 (by decide), hc]) (by rw [sh_fr 21 10 (by decide), hr]) hc2 hr2
  refine ⟨fin_pl q1 ?_, q2, hp⟩
  unfold smM
  exact fp_trans (fp_puI (by decide : 21 ≤ 21)) (fp_pO1 (x := (puI (shH S h c r m).1 21 0 0, (0 : Int32))) (fun i j y => by unfold smF; exact fp_puI (by decide : 21 ≤ 25)))
theorem fp_lm {T : St} {i j : Int32} {k pw ph : Nat} : fp (fun o _ => 21 ≤ o) T (lmM T i j k pw ph) := by
  unfold lmM
  refine fp_pO (fun u v U => ?_)
  unfold lmF
  split
  · exact fp_refl
  · exact fp_puI (by decide : 21 ≤ 23)
theorem s_compose {h w pw ph c r : Nat} {S : St} (H : Rl h w S S) (k1 : S.1 21 5 = nI pw) (k2 : S.1 21 6 = nI ph) (k3 : S.1 21 9 = nI c) (k4 : S.1 21 10 = nI r) (p2 : pw ≤ 8) (p4 : ph ≤ 8) (c2 : c ≤ 16) (r2 : r ≤ 16) : Rl h w (cpM (c0M (cmH (cm0 S h) h c r)) pw ph c r) (cpM (c0M (cmH (cm0 S h) h c r)) pw ph c r) ∧ dkA (cmH (cm0 S h) h c r) 4 h = daM (cpM (c0M (cmH (cm0 S h) h c r)) pw ph c r) 23 ∧ Rl h w S (cmH (cm0 S h) h c r) := by
  have hp : Rl h w S (cmH (cm0 S h) h c r) := pre_pl H cm_fr
  obtain ⟨q1, q2⟩ := q_compose hp (by rw [cm_fr 21 5 (by decide), k1]) (by rw [cm_fr 21 6 (by decide), k2]) (by rw [cm_fr 21 9 (by decide), k3]) (by rw [cm_fr 21 10 (by decide), k4]) p2 p4 c2 r2
  refine ⟨fin_pl q1 ?_, q2, hp⟩
  unfold cpM c0M
  refine fp_trans (fp_trans (fp_puI (by decide : 21 ≤ 21)) (fp_nF (fun i T => by unfold c0F; exact fp_puI (by decide : 21 ≤ 23)))) (fp_pO (fun i j T => fp_lm))
theorem fp_le {T : St} {c b : Int32} : fp (fun o _ => 21 ≤ o) T (leM T c b) := by
  unfold leM
  exact fp_pu (by decide : 21 ≤ 28) (fp_puI (by decide : 21 ≤ 29))
theorem fp_np {T : St} : fp (fun o _ => 21 ≤ o) T (npM T) := by
  unfold npM
  exact fp_fl (fun _ => (by decide : 21 ≤ 29)) (fp_flI (fun _ => (by decide : 21 ≤ 28)))
theorem fp_nx {T : St} : fp (fun o _ => 21 ≤ o) T (nxM T) := by
  unfold nxM
  exact fp_trans (fp_nF (fun i U => by unfold nx1; exact fp_pu (by decide : 21 ≤ 30) (fp_puI (by decide : 21 ≤ 31)))) fp_np
theorem fp_br {T : St} : fp (fun o _ => 21 ≤ o) T (brM T) := by
  unfold brM
  exact fp_trans (fp_fl (fun _ => (by decide : 21 ≤ 31)) (fp_fl (fun _ => (by decide : 21 ≤ 30)) (fp_pu (by decide : 21 ≤ 21) (fp_pu (by decide : 21 ≤ 21) (fp_puI (by decide : 21 ≤ 21)))))) fp_np
theorem fp_mr {T : St} {r : Nat} : fp (fun o _ => 21 ≤ o) T (mrS T r) := ⟨fun o k hn => by rw [(mrS_o (S := T) (r := r) (o := o) (by omega) (by omega)).1], (mrS_o (S := T) (r := r) (o := 0) (by decide) (by decide)).2⟩
theorem fp_em {p : Int32} {k : Nat} {x : St × Nat} : fp (fun o _ => 21 ≤ o) x.1 (emF p k x).1 := by
  refine emF_cases (P := fun y => fp (fun o _ => 21 ≤ o) x.1 y.1) fp_refl (fun c bit => ?_) (fun c bit => ?_)
  · exact fp_trans (fp_puI (by decide : 21 ≤ 30)) fp_le
  · exact fp_trans fp_mr (fp_trans (fp_puI (by decide : 21 ≤ 30)) fp_le)
theorem fp_ee {S : St} {m : Nat} : fp (fun o _ => 21 ≤ o) S (eeT (ee2 S m)) := by
  have ep : ∀ (n : Nat) (x : St × Nat), fp (fun o _ => 21 ≤ o) x.1 (epM n x).1 := by
    intro n
    induction n with
    | zero => intro x; exact fp_refl
    | succ n ih =>
      intro x
      rw [epM_s]
      refine fp_trans ?_ (ih _)
      unfold epF
      exact fp_trans fp_nx (fp_nF1 (x := (nxM x.1, x.2)) (fun i y => fp_em))
  unfold eeT ee2 ee1
  refine fp_pu (by decide : 21 ≤ 21) (fp_trans (fp_trans ?_ (ep _ _)) fp_mr)
  unfold ee0
  exact fp_trans (fp_trans (fp_puI (by decide : 21 ≤ 21)) (fp_puI (by decide : 21 ≤ 21))) fp_br
theorem s_encode {h w c r m : Nat} {S : St} (H : Rl h w S S) (k1 : S.1 21 9 = nI c) (k2 : S.1 21 10 = nI r) (k3 : S.1 21 7 = nI (m + 1)) (c2 : c ≤ 16) (r2 : r ≤ 16) (hm2 : m < 64) : Rl h w (eeT (ee2 (ecS S c r m) m)) (eeT (ee2 (ecS S c r m) m)) ∧ szW (ecS S c r m) = eeR (ee2 (ecS S c r m) m) ∧ Rl h w S (ecS S c r m) := by
  have hp : Rl h w S (ecS S c r m) := pre_pl H (ec_fr c2 r2)
  obtain ⟨q1, q2⟩ := q_encode hp (by rw [ec_fr c2 r2 21 9 (by decide), k1]) (by rw [ec_fr c2 r2 21 10 (by decide), k2]) (by rw [ec_fr c2 r2 21 7 (by decide), k3]) c2 r2 hm2
  exact ⟨fin_pl q1 fp_ee, q2, hp⟩
def gA : Nat → Nat → Prop := fun o _ => o ≤ 20
theorem fa_pac {T : St} {r : Int32} : fp (fun o _ => o ≤ 20) T (pacN_19 T r) := by
  unfold pacN_19
  split
  · exact fp_pu (by decide : 19 ≤ 20) (fp_pu (by decide : 19 ≤ 20) (fp_pu (by decide : 19 ≤ 20) (fp_puI (by decide : 19 ≤ 20))))
  · exact fp_pu (by decide : 19 ≤ 20) (fp_puI (by decide : 19 ≤ 20))
theorem fa_rb {T : St} : fp (fun o _ => o ≤ 20) T (rbS T) := by
  unfold rbS
  split
  · exact fp_puI (by decide : 17 ≤ 20)
  · exact fp_puI (by decide : 17 ≤ 20)
theorem fa_rd {T : St} (n : Nat) : fp (fun o _ => o ≤ 20) T (rdS T n) := by
  induction n with
  | zero => exact fp_refl
  | succ n ih => exact fp_trans ih fa_rb
theorem fa_on : ∀ (n : Nat) (T : St), fp (fun o _ => o ≤ 20) T (onS n T)
  | 0, _ => fp_refl
  | n + 1, T => by
    unfold onS
    split
    · exact fp_trans fa_rb (fa_on n _)
    · exact fa_rb
theorem fa_rf {T : St} {x : Int32} : fp (fun o _ => o ≤ 20) T (rrF T x) := by
  unfold rrF
  split
  · split
    · exact fp_trans (fp_pu (by decide : 17 ≤ 20) (fp_puI (by decide : 17 ≤ 20))) fa_pac
    · exact fp_pu (by decide : 17 ≤ 20) (fp_puI (by decide : 17 ≤ 20))
  · exact fp_refl
theorem fa_rr {T : St} : fp (fun o _ => o ≤ 20) T (rrS T) := by
  unfold rrS rrE
  split
  · exact fp_trans (fa_on _ _) (fp_trans (fa_rd _) fa_rf)
  · exact fp_trans (fa_on _ _) (fp_trans (fa_rd _) fa_rf)
theorem fa_nb {T : St} : fp (fun o _ => o ≤ 20) T (nbS T) := by
  have h1 : fp (fun o _ => o ≤ 20) T (nbT T) := by
    unfold nbT
    split
    · exact fa_rr
    · exact fp_refl
  unfold nbS nbG
  split
  · refine fp_trans h1 ?_
    unfold nbU
    exact fp_pu (by decide : 17 ≤ 20) (fp_puI (by decide : 17 ≤ 20))
  · exact h1
theorem fa_le {T : St} {c b : Int32} : fp (fun o _ => o ≤ 20) T (leF T c b) := ⟨fun o k hn => le_f.1 o k (by omega), le_f.2⟩
theorem fa_rp {p : Int32} {i j : Nat} {T : St} : fp (fun o _ => o ≤ 20) T (rpF p i j T) := by
  unfold rpF
  split
  · split
    · unfold rpG
      split
      · refine fp_trans fa_nb (fp_trans ?_ fa_le)
        unfold abC
        split
        · exact fp_refl
        · exact fp_puI (by decide : 10 ≤ 20)
      · exact fa_nb
    · exact fp_refl
  · exact fp_refl
theorem fa_bp {T : St} : fp (fun o _ => o ≤ 20) T (bpF T) := by
  unfold bpF
  exact fp_fl (fun _ => (by decide : 13 ≤ 20)) (fp_flI (fun _ => (by decide : 12 ≤ 20)))
theorem fa_dp {c r : Nat} (n : Nat) : ∀ T : St, fp (fun o _ => o ≤ 20) T (dpS c r n T) := by
  induction n with
  | zero => intro T; exact fp_refl
  | succ n ih =>
    intro T
    rw [dpS_s]
    split
    · refine fp_trans ?_ (ih _)
      unfold rpH
      exact fp_trans fa_bp (fp_pO (fun i j U => fa_rp))
    · exact fp_refl
theorem fa_dc {S : St} {c r m : Nat} : fp (fun o _ => o ≤ 20) S (dcS (dcX S c r m) c r) := by
  have hX : fp (fun o _ => o ≤ 20) S (dcX S c r m) := by
    have h1 : fp (fun o _ => o ≤ 20) S (dc0 S c r m) := by
      unfold dc0 rgS
      exact fp_trans (fp_pu (by decide : 17 ≤ 20) (fp_pu (by decide : 17 ≤ 20) (fp_pu (by decide : 17 ≤ 20) (fp_pu (by decide : 17 ≤ 20) (fp_pu (by decide : 17 ≤ 20) (fp_pu (by decide : 19 ≤ 20) (fp_pu (by decide : 19 ≤ 20) (fp_flI (fun _ => (by decide : 10 ≤ 20)))))))))) fa_bp
    have h2 := fp_trans h1 (fa_dp (c := c) (r := r) (bl 6 m) (dc0 S c r m))
    have hT : ∀ U : St, fp (fun o _ => o ≤ 20) U (edT U) := fun U => by
      unfold edT
      split
      · split
        · exact fa_rr
        · exact fp_refl
      · exact fp_refl
    have hE : ∀ U : St, fp (fun o _ => o ≤ 20) U (edS U) := fun U => by
      unfold edS edE
      split
      · split
        · exact fp_pu (by decide : 17 ≤ 20) (hT _)
        · exact hT _
      · exact hT _
    unfold dcX dcW
    exact fp_pu (by decide : 0 ≤ 20) (fp_trans h2 (hE _))
  unfold dcS
  split
  · refine fp_trans (fp_pu (k := 2) (v := 0) (by decide : 17 ≤ 20) hX) ?_
    unfold tgH
    refine fp_pO (fun i j U => ?_)
    unfold tgF cgS
    split
    · exact fp_refl
    · exact fp_puI (by decide : 8 ≤ 20)
  · exact fp_pu (by decide : 17 ≤ 20) hX
