/-! one call of the law, in both: the relation stays, the answers agree -/
theorem pre_ok {h w : Nat} {S F S1 : St} {v : Int64} (H : Rl h w S S) (e : S1 = puL F 33 0 v) (fF : ∀ o k, 21 ≤ o → F.1 o k = S.1 o k) : Rl h w S S1 :=
  H.mv (fun _ _ _ => rfl) (fun _ => rfl) (fun o k ho _ => by rw [e, puL_1]; exact fF o k ho)
theorem fin_ok {h w : Nat} {F S1 S2 : St} {v : Int64} (HR : Rl h w F S2) (e : S1 = puL F 33 0 v) (fM : fp (fun o _ => 21 ≤ o) S1 S2) : Rl h w S2 S2 ∧ S2.2 33 0 = v := by
  refine ⟨comb HR (fun o k _ => by rw [e]; rfl) (fun k => by rw [e, puL_at, if_neg (by omega)]) fM, ?_⟩
  rw [fM.2, e, puL_at, if_pos ⟨rfl, rfl⟩]
theorem fin_pl {h w : Nat} {F S2 : St} (HR : Rl h w F S2) (fM : fp (fun o _ => 21 ≤ o) F S2) : Rl h w S2 S2 := comb HR (fun _ _ _ => rfl) (fun _ => rfl) fM
theorem pre_pl {h w : Nat} {S F : St} (H : Rl h w S S) (fF : ∀ o k, 21 ≤ o → F.1 o k = S.1 o k) : Rl h w S F := H.mv (fun _ _ _ => rfl) (fun _ => rfl) (fun o k ho _ => fF o k ho)
def gM : Nat → Nat → Prop := fun o _ => 21 ≤ o
/-- a call that is not refused, or refused with a code: what the law asks of it -/
def Agr (h w : Nat) (S2 : St) (code : Int32) (out : Int64) : Prop := Rl h w S2 S2 ∧ S2.1 21 0 = code ∧ (code = 0 → S2.2 33 0 = out)
theorem agr_no {h w : Nat} {S : St} {code : Int32} {out : Int64} (H : Rl h w S S) (hc : ¬ code = 0) : Agr h w (puI S 21 0 code) code out := ⟨comb0 H, puI_s, fun z => absurd z hc⟩
theorem fp_bl {T : St} {a b c : Int32} : fp gM T (blM T a b c) := by
  unfold blM
  exact fp_fl (fun _ => (by decide : 21 ≤ 25)) (fp_fl (fun _ => (by decide : 21 ≤ 24)) (fp_pu (by decide : 21 ≤ 21) (fp_pu (by decide : 21 ≤ 21) (fp_pu (by decide : 21 ≤ 21) fp_refl))))
theorem s_patterns {h w : Nat} {S : St} {a b c : Int32} (H : Rl h w S S) : Agr h w (if okP a b c = 0 then blM (puI (if okP a b c = 0 then puL (pnS S a b c) 33 0 ((nI (bl 6 (c.toNatClampNeg - 1))).toInt64) else S) 21 0 0) a b c else puI (if okP a b c = 0 then puL (pnS S a b c) 33 0 ((nI (bl 6 (c.toNatClampNeg - 1))).toInt64) else S) 21 0 1) (okP a b c) ((if okP a b c = 0 then nI (bl 6 (c.toNatClampNeg - 1)) else 0).toInt64) := by
  by_cases z : okP a b c = 0
  · rw [if_pos z, if_pos z, if_pos z, z]
    have hp := pre_ok (F := pnS S a b c) (v := (nI (bl 6 (c.toNatClampNeg - 1))).toInt64) H rfl (fun o k ho => by simp only [pnS, bgB, flI_at, flL_1, puI_at]; repeat rw [if_neg (by omega)])
    obtain ⟨r1, r2⟩ := fin_ok (q_patterns hp z) rfl (fp_trans (fp_puI (show gM 21 0 from (by decide : 21 ≤ 21))) fp_bl)
    refine ⟨r1, ?_, fun _ => r2⟩
    simp [blM, flI_at, puI_at]
  · rw [if_neg z, if_neg z]
    have e : okP a b c = 1 := by
      revert z
      unfold okP
      (repeat' split) <;> first | (intro _; rfl) | (intro z; exact absurd rfl z)
    rw [e]
    exact agr_no H (by decide)
theorem s_ordered {h w : Nat} {S : St} {q : Int32} (H : Rl h w S S) : Agr h w (odS (if okO q = 0 then puL (ptS S q.toNatClampNeg) 33 0 ((nI (q.toNatClampNeg * q.toNatClampNeg + 1)).toInt64) else S) q) (okO q) ((odR (if okO q = 0 then puL (ptS S q.toNatClampNeg) 33 0 ((nI (q.toNatClampNeg * q.toNatClampNeg + 1)).toInt64) else S) q).toInt64) := by
  by_cases z : okO q = 0
  · rw [if_pos z, z]
    obtain ⟨n, n1, n7, rfl⟩ := okO_n z
    have z9 : ¬ wi (nI n) 1 7 = 0 := fun y => absurd z (by rw [okO, if_pos y]; decide)
    unfold odS odR
    rw [if_neg z9, if_neg z9, nI_clamp (by omega)]
    have hp := pre_ok (F := ptS S n) (v := (nI (n * n + 1)).toInt64) H rfl (fun o k ho => by
      unfold ptS orS
      rw [flI_at, if_neg (by omega), or_1]
      simp only [bgB, flL_1, puI_at]
      repeat rw [if_neg (by omega)])
    have fM : fp gM (puL (ptS S n) 33 0 ((nI (n * n + 1)).toInt64)) (orM (puL (ptS S n) 33 0 ((nI (n * n + 1)).toInt64)) n) := by
      unfold orM
      refine fp_trans (fp_trans (fp_puI (show gM 21 0 from (by decide : 21 ≤ 21))) fp_bl) ⟨fun o k hn => or_f.1 o k (fun e => hn (by rw [e]; show 21 ≤ 24; decide)), or_f.2⟩
    obtain ⟨r1, r2⟩ := fin_ok (q_ordered hp n1 n7) rfl fM
    refine ⟨r1, ?_, fun _ => r2⟩
    unfold orM
    rw [or_f.1 21 0 (by decide)]
    simp [blM, flI_at, puI_at]
  · have z9 : wi q 1 7 = 0 := by
      apply Classical.byContradiction
      intro y
      exact z (by rw [okO, if_neg y])
    have e : okO q = 1 := by rw [okO, if_pos z9]
    rw [if_neg z, e]
    unfold odS
    rw [if_pos z9]
    exact agr_no H (by decide)
theorem hs_S {h w : Nat} {S S1 : St} {p x y : Int32} (H : Rl h w S S1) : hsB S p x y = hcM S1 p x y := by
  obtain ⟨pw, ph, m, c, r, h1, h2, h3, h4, -⟩ := H
  exact hs_hc h4
theorem pre_0 {h w : Nat} {S : St} {v : Int64} (H : Rl h w S S) : Rl h w S (puL S 33 0 v) := pre_ok H rfl (fun _ _ _ => rfl)
/-- a call that only looks -/
theorem look {h w : Nat} {S : St} {v : Int64} {x : Int32} (H : Rl h w S S) : Agr h w (puI (puL S 33 0 v) 21 0 0) 0 v := by
  have hp := pre_0 (v := v) H
  have h2 : Rl h w S (puI (puL S 33 0 v) 21 0 0) := hp.mv (fun _ _ _ => rfl) (fun _ => rfl) (fun o k ho hk => by rw [puI_at, if_neg hk])
  obtain ⟨r1, r2⟩ := fin_ok h2 rfl (fp_puI (show gM 21 0 from (by decide : 21 ≤ 21)))
  exact ⟨r1, puI_s, fun _ => r2⟩
theorem s_put {h w : Nat} {S : St} {p x y b : Int32} (H : Rl h w S S) (hb : b = 0 ∨ b = 1) : Agr h w (puM (if c1H (hsB S p x y) = 0 then puL (if idB S p x y = b then S else tnB S p x y) 33 0 (b2L (if idB S p x y = b then 0 else 1)) else S) p x y b) (c1H (hsB S p x y))
    (b2L (if hcM (if c1H (hsB S p x y) = 0 then puL (if idB S p x y = b then S else tnB S p x y) 33 0 (b2L (if idB S p x y = b then 0 else 1)) else S) p x y = 0 then 0 else if (if c1H (hsB S p x y) = 0 then puL (if idB S p x y = b then S else tnB S p x y) 33 0 (b2L (if idB S p x y = b then 0 else 1)) else S).1 24 (ix p x y) = b then 0 else 1)) := by
  have eh := hs_S (p := p) (x := x) (y := y) H
  by_cases z : hcM S p x y = 0
  · have c1 : c1H (hsB S p x y) = 1 := by rw [eh, z]; rfl
    rw [c1, if_neg (by decide)]
    unfold puM
    rw [if_pos z]
    exact agr_no H (by decide)
  · have c0 : c1H (hsB S p x y) = 0 := by rw [eh]; unfold c1H; rw [if_neg z]
    rw [c0, if_pos rfl]
    have f1 : (if idB S p x y = b then S else tnB S p x y).1 = S.1 := by split; rfl; exact tn_1
    have hp := pre_ok (F := if idB S p x y = b then S else tnB S p x y) (v := b2L (if idB S p x y = b then 0 else 1)) H rfl (fun o k _ => by rw [f1])
    have z1 : ¬ hcM (puL (if idB S p x y = b then S else tnB S p x y) 33 0 (b2L (if idB S p x y = b then 0 else 1))) p x y = 0 := by rw [← hs_S hp, eh]; exact z
    have v1 : S.1 24 (ix p x y) = idB S p x y := by
      obtain ⟨pw, ph, m, c, r, h1, h2, h3, h4, h5, -⟩ := H
      obtain ⟨k, a, b9, g1, g2, g3, rfl, rfl, rfl⟩ := hc_nat h4 z
      obtain ⟨-, w2, -, h2', hm, -⟩ := h4
      exact cel_v h5 (by omega) (by omega) (by omega)
    unfold puM
    rw [if_neg z1, if_neg z1, puL_1, f1, v1]
    obtain ⟨r1, r2⟩ := fin_ok (q_put hp z1 hb) rfl (fp_trans (fp_puI (show gM 21 0 from (by decide : 21 ≤ 21))) (fp_puI (show gM 24 (ix p x y) from (by decide : 21 ≤ 24))))
    refine ⟨r1, ?_, fun _ => r2⟩
    rw [puI_at, if_neg (by omega), puI_s]
theorem s_cell {h w : Nat} {S : St} {p x y : Int32} (H : Rl h w S S) : Agr h w (puI (if c1H (hsB S p x y) = 0 then puL S 33 0 (b2L (idB S p x y)) else S) 21 0 (if hcM (if c1H (hsB S p x y) = 0 then puL S 33 0 (b2L (idB S p x y)) else S) p x y = 0 then 1 else 0)) (c1H (hsB S p x y))
    (b2L (if hcM (if c1H (hsB S p x y) = 0 then puL S 33 0 (b2L (idB S p x y)) else S) p x y = 0 then 0 else if (if c1H (hsB S p x y) = 0 then puL S 33 0 (b2L (idB S p x y)) else S).1 24 (ix p x y) = 0 then 0 else 1)) := by
  have eh := hs_S (p := p) (x := x) (y := y) H
  by_cases z : hcM S p x y = 0
  · have c1 : c1H (hsB S p x y) = 1 := by rw [eh, z]; rfl
    rw [c1, if_neg (by decide), if_pos z]
    exact agr_no H (by decide)
  · have c0 : c1H (hsB S p x y) = 0 := by rw [eh]; unfold c1H; rw [if_neg z]
    rw [c0, if_pos rfl]
    have z1 : ¬ hcM (puL S 33 0 (b2L (idB S p x y))) p x y = 0 := z
    have v1 : S.1 24 (ix p x y) = idB S p x y ∧ (idB S p x y = 0 ∨ idB S p x y = 1) := by
      obtain ⟨pw, ph, m, c, r, h1, h2, h3, h4, h5, -⟩ := H
      obtain ⟨k, a, b9, g1, g2, g3, rfl, rfl, rfl⟩ := hc_nat h4 z
      obtain ⟨-, w2, -, h2', hm, -⟩ := h4
      refine ⟨cel_v h5 (by omega) (by omega) (by omega), ?_⟩
      rw [idB_v (by omega) (by omega) (by omega)]
      exact b2I_01 _
    rw [if_neg z1, if_neg z1, puL_1, v1.1]
    have e2 : (if idB S p x y = 0 then (0 : Int32) else 1) = idB S p x y := by
      rcases v1.2 with e | e <;> rw [e] <;> decide
    rw [e2]
    exact look (x := 0) H
theorem pos_S {h w : Nat} {S S1 : St} {i j : Int32} (H : Rl h w S S1) : haL S i j = hpM S1 i j ∧ lfL S i j = xM S1 i j ∧ tpL S i j = yM S1 i j ∧ ouH S i j = ouM S1 i j := by
  obtain ⟨pw, ph, m, c, r, h1, h2, h3, h4, h5, h6, -⟩ := H
  exact ⟨ha_hp h6, (lf_x h6).1, (lf_x h6).2, ou_ou h1 h4 h6⟩
theorem s_where {h w : Nat} {S : St} {i j a : Int32} (H : Rl h w S S) : Agr h w (puI (if whH S i j a = 0 then puL S 33 0 ((if a = 0 then lfL S i j else tpL S i j).toInt64) else S) 21 0 (whC (if whH S i j a = 0 then puL S 33 0 ((if a = 0 then lfL S i j else tpL S i j).toInt64) else S) i j a)) (whH S i j a) ((whR (if whH S i j a = 0 then puL S 33 0 ((if a = 0 then lfL S i j else tpL S i j).toInt64) else S) i j a).toInt64) := by
  obtain ⟨e1, e2, e3, e4⟩ := pos_S (i := i) (j := j) H
  have eq : whH S i j a = whC S i j a := by unfold whH whC; rw [e1]
  by_cases z : whH S i j a = 0
  · rw [if_pos z, z]
    have zc : whC S i j a = 0 := by rw [← eq]; exact z
    have z1 : whC (puL S 33 0 ((if a = 0 then lfL S i j else tpL S i j).toInt64)) i j a = 0 := zc
    have v1 : whR (puL S 33 0 ((if a = 0 then lfL S i j else tpL S i j).toInt64)) i j a = if a = 0 then lfL S i j else tpL S i j := by
      show whR S i j a = _
      unfold whR
      unfold whC at zc
      by_cases y1 : hpM S i j = 0
      · rw [if_pos y1] at zc; exact absurd zc (by decide)
      rw [if_neg y1] at zc ⊢
      by_cases y2 : wi a 0 1 = 0
      · rw [if_pos y2] at zc; exact absurd zc (by decide)
      rw [if_neg y2, e2, e3]
    rw [z1, v1]
    exact look (x := 0) H
  · rw [if_neg z, ← eq]
    exact agr_no H z
theorem s_outside {h w : Nat} {S : St} {i j : Int32} (H : Rl h w S S) : Agr h w (puI (if c1H (haL S i j) = 0 then puL S 33 0 (b2L (ouH S i j)) else S) 21 0 (if hpM (if c1H (haL S i j) = 0 then puL S 33 0 (b2L (ouH S i j)) else S) i j = 0 then 1 else 0)) (c1H (haL S i j))
    (b2L (if hpM (if c1H (haL S i j) = 0 then puL S 33 0 (b2L (ouH S i j)) else S) i j = 0 then 0 else if ouM (puI (if c1H (haL S i j) = 0 then puL S 33 0 (b2L (ouH S i j)) else S) 21 0 0) i j = 0 then 0 else 1)) := by
  obtain ⟨e1, e2, e3, e4⟩ := pos_S (i := i) (j := j) H
  by_cases z : hpM S i j = 0
  · have c1 : c1H (haL S i j) = 1 := by rw [e1, z]; rfl
    rw [c1, if_neg (by decide), if_pos z]
    exact agr_no H (by decide)
  · have c0 : c1H (haL S i j) = 0 := by rw [e1]; unfold c1H; rw [if_neg z]
    rw [c0, if_pos rfl]
    have z1 : ¬ hpM (puL S 33 0 (b2L (ouH S i j))) i j = 0 := z
    have o1 : ouM (puI (puL S 33 0 (b2L (ouH S i j))) 21 0 0) i j = ouH S i j := e4.symm
    have e2 : (if ouH S i j = 0 then (0 : Int32) else 1) = ouH S i j := by
      rw [e4]
      rcases ouM_01 (B := S) (i := i) (j := j) with e | e <;> rw [e] <;> decide
    rw [if_neg z1, if_neg z1, o1, e2]
    exact look (x := 0) H
theorem s_greyAt {h w : Nat} {S : St} {i j : Int32} (H : Rl h w S S) : Agr h w (puI (if c1H (haL S i j) = 0 then puL S 33 0 ((grL S i j).toInt64) else S) 21 0 (if hpM (if c1H (haL S i j) = 0 then puL S 33 0 ((grL S i j).toInt64) else S) i j = 0 then 1 else 0)) (c1H (haL S i j))
    ((if hpM (if c1H (haL S i j) = 0 then puL S 33 0 ((grL S i j).toInt64) else S) i j = 0 then 0 else (if c1H (haL S i j) = 0 then puL S 33 0 ((grL S i j).toInt64) else S).1 25 (16 * j + i).toNatClampNeg).toInt64) := by
  obtain ⟨e1, e2, e3, e4⟩ := pos_S (i := i) (j := j) H
  by_cases z : hpM S i j = 0
  · have c1 : c1H (haL S i j) = 1 := by rw [e1, z]; rfl
    rw [c1, if_neg (by decide), if_pos z]
    exact agr_no H (by decide)
  · have c0 : c1H (haL S i j) = 0 := by rw [e1]; unfold c1H; rw [if_neg z]
    rw [c0, if_pos rfl]
    have z1 : ¬ hpM (puL S 33 0 ((grL S i j).toInt64)) i j = 0 := z
    have v1 : S.1 25 (16 * j + i).toNatClampNeg = grL S i j := by
      obtain ⟨pw, ph, m, c, r, h1, h2, h3, h4, h5, h6, h7, -⟩ := H
      obtain ⟨a, b, ha, hb, rfl, rfl⟩ := hp_nat h6 z
      have c2 : c ≤ 16 := h6.2.1
      have r2 : r ≤ 16 := h6.2.2.2.1
      rw [gr_gr h6 h7 (by omega) (by omega), at_16 (by omega) (by omega)]
    rw [if_neg z1, if_neg z1, puL_1, v1]
    exact look (x := 0) H
theorem s_grey {h w : Nat} {S : St} {i j v : Int32} (H : Rl h w S S) : Agr h w (gyS (if gyH S i j v = 0 then puL (cgS S i j v) 33 0 (b2L (cgR S i j v)) else S) i j v) (gyH S i j v) (b2L (gyR (if gyH S i j v = 0 then puL (cgS S i j v) 33 0 (b2L (cgR S i j v)) else S) i j v)) := by
  obtain ⟨e1, e2, e3, e4⟩ := pos_S (i := i) (j := j) H
  have e5 : hpB S v = wi v 0 (S.1 21 7 - 1) := by
    obtain ⟨pw, ph, m, c, r, h1, h2, h3, h4, -⟩ := H
    unfold hpB
    rw [h4.2.2.2.2.2.2.2.1, h4.2.2.2.2.2.2.2.2.2.2]
  unfold gyH
  rw [e1, e5]
  by_cases z : hpM S i j = 0
  · rw [if_pos z, if_neg (by decide)]
    unfold gyS
    rw [if_pos z]
    exact agr_no H (by decide)
  · rw [if_neg z]
    by_cases z2 : wi v 0 (S.1 21 7 - 1) = 0
    · rw [if_pos z2, if_neg (by decide)]
      unfold gyS
      rw [if_neg z, if_pos z2]
      exact agr_no H (by decide)
    · rw [if_neg z2, if_pos rfl]
      have fc : ∀ o k, 21 ≤ o → (cgS S i j v).1 o k = S.1 o k := fun o k ho => by
        unfold cgS
        split
        · rfl
        · rw [puI_at, if_neg (by omega)]
      have hp := pre_ok (F := cgS S i j v) (v := b2L (cgR S i j v)) H rfl fc
      have a1 : hpM (puL (cgS S i j v) 33 0 (b2L (cgR S i j v))) i j = hpM S i j := by unfold hpM; rw [puL_1, fc 21 9 (by decide), fc 21 10 (by decide)]
      have a2 : (puL (cgS S i j v) 33 0 (b2L (cgR S i j v))).1 21 7 = S.1 21 7 := by rw [puL_1, fc 21 7 (by decide)]
      have a3 : (puL (cgS S i j v) 33 0 (b2L (cgR S i j v))).1 25 (16 * j + i).toNatClampNeg = S.1 25 (16 * j + i).toNatClampNeg := by rw [puL_1, fc 25 _ (by decide)]
      have v1 : cgR S i j v = if S.1 25 (16 * j + i).toNatClampNeg = v then 0 else 1 := by
        obtain ⟨pw, ph, m, c, r, h1, h2, h3, h4, h5, h6, h7, -⟩ := H
        obtain ⟨a, b, ha, hb, rfl, rfl⟩ := hp_nat h6 z
        have c2 : c ≤ 16 := h6.2.1
        have r2 : r ≤ 16 := h6.2.2.2.1
        unfold cgR
        rw [if_neg (plc_of (by omega) (by omega)).2, (plc_of (by omega) (by omega)).1, nI_clamp (by omega), at_16 (by omega) (by omega), (h7 (16 * b + a) (by omega)).1]
      unfold gyS gyR
      rw [a1, a2, a3, if_neg z, if_neg z2, if_neg z, if_neg z2, ← v1]
      obtain ⟨r1, r2⟩ := fin_ok (q_grey hp (by rw [a1]; exact z) (by rw [a2]; exact z2)) rfl (fp_trans (fp_puI (show gM 21 0 from (by decide : 21 ≤ 21))) (fp_puI (show gM 25 (16 * j + i).toNatClampNeg from (by decide : 21 ≤ 25))))
      refine ⟨r1, ?_, fun _ => r2⟩
      rw [puI_at, if_neg (by omega), puI_s]
theorem s_way {h w : Nat} {S : St} {x v : Int32} (H : Rl h w S S) : Agr h w (wyS (if wyC x v = 0 then puL (cwS9 S x v) 33 0 ((cwR S x).toInt64) else S) x v) (wyC x v) ((wyR (if wyC x v = 0 then puL (cwS9 S x v) 33 0 ((cwR S x).toInt64) else S) x v).toInt64) := by
  unfold wyS wyR
  by_cases z : wyC x v = 0
  · rw [if_pos z, if_pos z, if_pos z, z]
    have fc : ∀ o k, 21 ≤ o → (cwS9 S x v).1 o k = S.1 o k := fun o k ho => by
      unfold cwS9
      repeat' split
      all_goals (rw [puI_at, if_neg (by omega)])
    have hp := pre_ok (F := cwS9 S x v) (v := (cwR S x).toInt64) H rfl fc
    have v1 : (if x = 0 then (puL (cwS9 S x v) 33 0 ((cwR S x).toInt64)).1 21 16 else if x = 1 then (puL (cwS9 S x v) 33 0 ((cwR S x).toInt64)).1 21 17 else (puL (cwS9 S x v) 33 0 ((cwR S x).toInt64)).1 21 18) = cwR S x := by
      obtain ⟨pw, ph, m, c, r, h1, h2, h3, h4, h5, h6, h7, h8, -⟩ := H
      rw [puL_1, fc 21 16 (by decide), fc 21 17 (by decide), fc 21 18 (by decide)]
      unfold cwR
      rw [h8.1, h8.2.2.1, h8.2.2.2.2.1]
    have fM : fp gM (puL (cwS9 S x v) 33 0 ((cwR S x).toInt64)) (wyT (puL (cwS9 S x v) 33 0 ((cwR S x).toInt64)) x v) := by
      unfold wyT
      exact fp_pu (by decide : 21 ≤ 21) (fp_pu (by decide : 21 ≤ 21) (fp_pu (by decide : 21 ≤ 21) (fp_puI (by decide : 21 ≤ 21))))
    obtain ⟨r1, r2⟩ := fin_ok (q_way hp z) rfl fM
    rw [v1]
    refine ⟨r1, ?_, fun _ => r2⟩
    simp [wyT, puI_at]
  · have e : wyC x v = 1 := by
      revert z
      unfold wyC
      (repeat' split) <;> first | (intro _; rfl) | (intro z; exact absurd rfl z)
    rw [if_neg z, if_neg z, e]
    exact agr_no H (by decide)
theorem s_context {h w : Nat} {S : St} {c9 x : Int32} (H : Rl h w S S) : Agr h w (puI (if cxC c9 x = 0 then puL S 33 0 ((if x = 0 then S.1 12 c9.toNatClampNeg else S.1 13 c9.toNatClampNeg).toInt64) else S) 21 0 (cxC c9 x)) (cxC c9 x) ((cxR (if cxC c9 x = 0 then puL S 33 0 ((if x = 0 then S.1 12 c9.toNatClampNeg else S.1 13 c9.toNatClampNeg).toInt64) else S) c9 x).toInt64) := by
  by_cases z : cxC c9 x = 0
  · rw [if_pos z, z]
    have v1 : cxR (puL S 33 0 ((if x = 0 then S.1 12 c9.toNatClampNeg else S.1 13 c9.toNatClampNeg).toInt64)) c9 x = if x = 0 then S.1 12 c9.toNatClampNeg else S.1 13 c9.toNatClampNeg := by
      show cxR S c9 x = _
      unfold cxR
      unfold cxC at z
      by_cases y1 : wi c9 0 63 = 0
      · rw [if_pos y1] at z; exact absurd z (by decide)
      rw [if_neg y1] at z ⊢
      by_cases y2 : wi x 0 1 = 0
      · rw [if_pos y2] at z; exact absurd z (by decide)
      rw [if_neg y2]
      obtain ⟨n, hn, rfl⟩ := wi_nat (n := 64) (by decide) y1
      obtain ⟨pw, ph, m, c, r, h1, h2, h3, h4, h5, h6, h7, h8, h9, h10, -⟩ := H
      rw [nI_clamp (by omega), (h10 n hn).1, (h10 n hn).2.2.2]
    rw [v1]
    exact look (x := 0) H
  · rw [if_neg z]
    exact agr_no H z
theorem s_row {h w : Nat} {S : St} {y word : Int32} (H : Rl h w S S) : Agr h w (rwM (if c1H (wi y 0 (S.1 0 1 - 1)) = 0 then puL (clS S 2 h (S.1 1 1) y word) 33 0 ((clR S 2 h (S.1 1 1) y word).toInt64) else S) y word w).1 (c1H (wi y 0 (S.1 0 1 - 1))) (((rwM (if c1H (wi y 0 (S.1 0 1 - 1)) = 0 then puL (clS S 2 h (S.1 1 1) y word) 33 0 ((clR S 2 h (S.1 1 1) y word).toInt64) else S) y word w).2).toInt64) := by
  have hd : S.1 0 1 = nI h ∧ S.1 21 2 = nI h ∧ w ≤ 32 := by
    obtain ⟨pw, ph, m, c, r, h1, -⟩ := H
    exact ⟨h1.2.2.2.2.2.1, h1.2.2.2.2.2.2.2.2.2, h1.2.1⟩
  rw [hd.1]
  by_cases z : wi y 0 (nI h - 1) = 0
  · have c1 : c1H (wi y 0 (nI h - 1)) = 1 := by rw [z]; rfl
    rw [c1, if_neg (by decide)]
    unfold rwM
    rw [hd.2.1, if_pos z]
    exact agr_no H (by decide)
  · have c0 : c1H (wi y 0 (nI h - 1)) = 0 := by unfold c1H; rw [if_neg z]
    rw [c0, if_pos rfl]
    have fc : ∀ o k, 21 ≤ o → (clS S 2 h (S.1 1 1) y word).1 o k = S.1 o k := fun o k ho => by
      unfold clS
      rw [if_neg z, puI_at, if_neg (by omega)]
    have hp := pre_ok (F := clS S 2 h (S.1 1 1) y word) (v := (clR S 2 h (S.1 1 1) y word).toInt64) H rfl fc
    have fM : fp gM (puL (clS S 2 h (S.1 1 1) y word) 33 0 ((clR S 2 h (S.1 1 1) y word).toInt64)) (rwM (puL (clS S 2 h (S.1 1 1) y word) 33 0 ((clR S 2 h (S.1 1 1) y word).toInt64)) y word w).1 := by
      unfold rwM rwG
      rw [puL_1, fc 21 2 (by decide), hd.2.1, if_neg z]
      refine ⟨fun o k hn => ?_, (rw_all w hd.2.2).2.1⟩
      unfold gM at hn
      rw [(rw_all w hd.2.2).1, if_neg (by omega), puI_at, if_neg (by omega)]
    obtain ⟨r1, r2⟩ := fin_ok (q_row hp z) rfl fM
    rw [← row_cnt hp z]
    refine ⟨r1, ?_, fun _ => r2⟩
    unfold rwM rwG
    rw [puL_1, fc 21 2 (by decide), hd.2.1, if_neg z, (rw_all w hd.2.2).1, if_neg (by omega), puI_s]
theorem s_count {h w : Nat} {S : St} {i j : Int32} (H : Rl h w S S) : Agr h w (puI (if c1H (haL S i j) = 0 then puL S 33 0 ((duH S h i j).toInt64) else S) 21 0 (if hpM (if c1H (haL S i j) = 0 then puL S 33 0 ((duH S h i j).toInt64) else S) i j = 0 then 1 else 0)) (c1H (haL S i j))
    ((if hpM (if c1H (haL S i j) = 0 then puL S 33 0 ((duH S h i j).toInt64) else S) i j = 0 then 0 else cnM (puI (if c1H (haL S i j) = 0 then puL S 33 0 ((duH S h i j).toInt64) else S) 21 0 0) i j).toInt64) := by
  obtain ⟨e1, e2, e3, e4⟩ := pos_S (i := i) (j := j) H
  by_cases z : hpM S i j = 0
  · have c1 : c1H (haL S i j) = 1 := by rw [e1, z]; rfl
    rw [c1, if_neg (by decide), if_pos z]
    exact agr_no H (by decide)
  · have c0 : c1H (haL S i j) = 0 := by rw [e1]; unfold c1H; rw [if_neg z]
    rw [c0, if_pos rfl]
    have z1 : ¬ hpM (puL S 33 0 ((duH S h i j).toInt64)) i j = 0 := z
    have hp : Rl h w S (puI (puL S 33 0 ((duH S h i j).toInt64)) 21 0 0) := (pre_0 (v := (duH S h i j).toInt64) H).mv (fun _ _ _ => rfl) (fun _ => rfl) (fun o k ho hk => by rw [puI_at, if_neg hk])
    obtain ⟨N, hN, f1, f2⟩ := count_eq hp (i := i) (j := j)
    rw [if_neg z1, if_neg z1, f2, ← f1]
    exact look (x := 0) H
theorem s_at {h w : Nat} {S : St} {x y : Int32} (H : Rl h w S S) : Agr h w (puI (if atH S x y = 0 then puL S 33 0 (b2L (if ushr (lnS S 4 h y) x &&& 1 = 1 then 1 else 0)) else S) 21 0 (if hsM (if atH S x y = 0 then puL S 33 0 (b2L (if ushr (lnS S 4 h y) x &&& 1 = 1 then 1 else 0)) else S) x y = 0 then 1 else 0)) (atH S x y)
    (b2L (if hsM (if atH S x y = 0 then puL S 33 0 (b2L (if ushr (lnS S 4 h y) x &&& 1 = 1 then 1 else 0)) else S) x y = 0 then 0 else if (if atH S x y = 0 then puL S 33 0 (b2L (if ushr (lnS S 4 h y) x &&& 1 = 1 then 1 else 0)) else S).1 23 (32 * y + x).toNatClampNeg = 0 then 0 else 1)) := by
  have ea : atH S x y = if hsM S x y = 0 then 1 else 0 := by
    obtain ⟨pw, ph, m, c, r, h1, -⟩ := H
    exact at_c h1
  by_cases z : hsM S x y = 0
  · rw [if_pos z] at ea
    rw [ea, if_neg (by decide), if_pos z]
    exact agr_no H (by decide)
  · rw [if_neg z] at ea
    rw [ea, if_pos rfl]
    have z1 : ¬ hsM (puL S 33 0 (b2L (if ushr (lnS S 4 h y) x &&& 1 = 1 then 1 else 0))) x y = 0 := z
    rw [if_neg z1, if_neg z1, puL_1, ← at_v H z]
    exact look (x := 0) H
theorem s_grid {h w : Nat} {S : St} {c r x y a b : Int32} (H : Rl h w S S) : Agr h w (if okG c r x y a b = 0 then (gdM (if okG c r x y a b = 0 then puL (gdS S c r x y a b) 33 0 ((poH (gdS S c r x y a b) c.toNatClampNeg r.toNatClampNeg).toInt64) else S) c r x y a b).1 else puI (if okG c r x y a b = 0 then puL (gdS S c r x y a b) 33 0 ((poH (gdS S c r x y a b) c.toNatClampNeg r.toNatClampNeg).toInt64) else S) 21 0 1) (okG c r x y a b)
    ((if okG c r x y a b = 0 then (gdM (if okG c r x y a b = 0 then puL (gdS S c r x y a b) 33 0 ((poH (gdS S c r x y a b) c.toNatClampNeg r.toNatClampNeg).toInt64) else S) c r x y a b).2 else 0).toInt64) := by
  by_cases z : okG c r x y a b = 0
  · rw [if_pos z, if_pos z, if_pos z, z]
    have hp := pre_ok (F := gdS S c r x y a b) (v := (poH (gdS S c r x y a b) c.toNatClampNeg r.toNatClampNeg).toInt64) H rfl (fun o k ho => by simp only [gdS, flI_at, puI_at]; repeat rw [if_neg (by omega)])
    have fM : fp gM (puL (gdS S c r x y a b) 33 0 ((poH (gdS S c r x y a b) c.toNatClampNeg r.toNatClampNeg).toInt64)) (gdM (puL (gdS S c r x y a b) 33 0 ((poH (gdS S c r x y a b) c.toNatClampNeg r.toNatClampNeg).toInt64)) c r x y a b).1 := by
      unfold gdM
      refine ⟨fun o k hn => ?_, (gd_all 256).2.1⟩
      unfold gM at hn
      rw [(gd_all 256).1, if_neg (by omega)]
      simp only [gd0, puI_at]
      repeat rw [if_neg (by omega)]
    obtain ⟨r1, r2⟩ := fin_ok (q_grid hp z) rfl fM
    rw [← grid_cnt hp z]
    refine ⟨r1, ?_, fun _ => r2⟩
    unfold gdM
    rw [(gd_all 256).1, if_neg (by omega)]
    simp [gd0, puI_at]
  · have e : okG c r x y a b = 1 := by
      revert z
      unfold okG
      (repeat' split) <;> first | (intro _; rfl) | (intro z; exact absurd rfl z)
    rw [if_neg z, if_neg z, e]
    exact agr_no H (by decide)
