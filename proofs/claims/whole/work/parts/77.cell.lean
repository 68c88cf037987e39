/-! a number of the script, or 0 -/
def PcS (av : List AV) (S : St) (sh : List Sh) (ad : Nat → Nat) (D : va_G) (cA : FieldType → ClassId) (sz b L : Nat) (xs : Nat → Int32) : Array Value → State → Prop :=
  va_Pc (av.map (av_V ad)) (fun U => U.heap.size = sz ∧ va_P D classes (wdA ad cA S sh) U.heap ∧ va_K D classes (tysA cA) U ∧ nOK U ∧ va_X b L xs U U.heap)
theorem pcS_blind {av : List AV} {S : St} {sh : List Sh} {ad : Nat → Nat} {D : va_G} {cA : FieldType → ClassId} {sz b L : Nat} {xs : Nat → Int32} : FrameBlind (PcS av S sh ad D cA sz b L xs) := by
  intro a U g mk q
  obtain ⟨q0, q1, q2, q3, q4, q5⟩ := q
  exact ⟨q0, q1, q2, va_K.moved (u := U) (U := U.calling g mk a) (Vm.Alike.refl U.vm) q3, nOK.vm (s := U) (U := U.calling g mk a) rfl q4, va_X.moved (u := U) (U := U.calling g mk a) (Vm.Alike.refl U.vm) q5⟩
def zS (Q : Option AV → St → Prop) (b L : Nat) (xs : Nat → Int32) : ZF := fun below args s sh ad D cA t => (scH b L xs s ad ∧ ¬ aA sh.length ad s.heap.size b) → zR Q 0 0 below args s sh ad D cA t
theorem e_sldZ {l : Launch} {B : List Sh} {R : Room} {y : Mt} {Q : Option AV → St → Prop} {kc ks pc t b L : Nat} {xs : Nat → Int32} {lv : List (Option AV)} {st : List AV} {S : St} {i : Int32}
    (hd : cAt y.2.2.2.2.1 pc = some (.iaload, 1, t)) (hin : vp_in i L) (k : EE l B R y (zS Q b L xs) kc ks (pc + 1) lv (aI (xs i.toNatClampNeg) :: st) S) : EE l B R y (zS Q b L xs) kc ks pc lv (aI i :: aR 99 :: st) S := by
  intro p e s m args below meth c sh ad D cA H locs ls C hP hS hl
  obtain ⟨hx, hb, hr, hml, hown, hts, hlk, hn9, hK, hok, hsh, hi⟩ := id C
  by_cases hs : scH b L xs s ad ∧ ¬ aA sh.length ad s.heap.size b
  case neg =>
    intro T hT X
    exact ⟨_, Steps.refl _, fun h9 => absurd h9 hs⟩
  show W p l e R s m args below meth c H locs kc ks _ (F0 m pc ls (.int i :: .ref (ad 99) :: st.map (av_V ad)))
  rw [hs.1.1]
  exact va_sld hx hb hs.1.2.1 hs.1.2.2 hs.2 hS hin (okM_c hok hd).1 (k p e s m args below meth c sh ad D cA H locs ls C hP hS hl)
theorem e_slenZ {l : Launch} {B : List Sh} {R : Room} {y : Mt} {Q : Option AV → St → Prop} {kc ks pc t b L : Nat} {xs : Nat → Int32} {lv : List (Option AV)} {st : List AV} {S : St}
    (hd : cAt y.2.2.2.2.1 pc = some (.arraylength, 1, t)) (k : EE l B R y (zS Q b L xs) kc ks (pc + 1) lv (aI (nI L) :: st) S) : EE l B R y (zS Q b L xs) kc ks pc lv (aR 99 :: st) S := by
  intro p e s m args below meth c sh ad D cA H locs ls C hP hS hl
  obtain ⟨hx, hb, hr, hml, hown, hts, hlk, hn9, hK, hok, hsh, hi⟩ := id C
  by_cases hs : scH b L xs s ad ∧ ¬ aA sh.length ad s.heap.size b
  case neg =>
    intro T hT X
    exact ⟨_, Steps.refl _, fun h9 => absurd h9 hs⟩
  show W p l e R s m args below meth c H locs kc ks _ (F0 m pc ls (.ref (ad 99) :: st.map (av_V ad)))
  rw [hs.1.1]
  exact va_slen hx hb hs.1.2.1 hs.1.2.2 hs.2 hS (okM_c hok hd).1 (k p e s m args below meth c sh ad D cA H locs ls C hP hS hl)
def cl0 (L : Nat) (xs : Nat → Int32) (k : Nat) : Int32 := if k < L then xs k else 0
theorem k_cell {l : Launch} {B : List Sh} {S : St} {b L k : Nat} {xs : Nat → Int32} (hL : L ≤ 3586) (hk : k < 2 ^ 31) : EE l B (rmD (0, 0)) m_Z_cell0 (zS (ans (some (aI (cl0 L xs k))) S) b L xs) 0 0 0 (lvIn [aR 99, aI (nI k)] 2) [] S := by
  iterate 2 refine e_sp rfl rfl rfl ?_
  refine e_slenZ rfl ?_
  refine e_icge rfl (fun h1 => ?_) (fun h1 => ?_)
  · refine e_ci 0 rfl rfl ?_
    refine ee_mono (fun _ _ _ _ _ _ _ _ h _ => h) ?_
    refine e_iret rfl rfl (Nat.le_refl _) (Nat.le_refl _) ?_
    have h2 : ¬ k < L := fun z => absurd h1 (nI_ge z (by omega))
    exact ⟨by rw [cl0, if_neg h2], rfl⟩
  · have h2 : k < L := Nat.lt_of_not_le (fun z => h1 (nI_le z (by omega)))
    iterate 2 refine e_sp rfl rfl rfl ?_
    refine e_sldZ rfl (vp_in_nI h2 (by omega)) ?_
    refine e_goto rfl ?_
    refine ee_mono (fun _ _ _ _ _ _ _ _ h _ => h) ?_
    refine e_iret rfl rfl (Nat.le_refl _) (Nat.le_refl _) ?_
    exact ⟨by rw [cl0, if_pos h2, nI_clamp hk], rfl⟩
theorem m_cell {l : Launch} {S : St} {b L k : Nat} {xs : Nat → Int32} (hL : L ≤ 3586) (hk : k < 2 ^ 31) {sh : List Sh} {ad : Nat → Nat} {D : va_G} {cA : FieldType → ClassId} {sz : Nat} (hi : ∀ i j, i < sh.length → j < sh.length → ad i = ad j → i = j) (ha : ad 99 = b) (hbz : b < sz) (hbA : ¬ aA sh.length ad sz b) :
    Met l m_Z_cell0.1 (wsM m_Z_cell0) (rmD (0, 0)) (PcS [aR 99, aI (nI k)] S sh ad D cA sz b L xs) (QcA (ans (some (aI (cl0 L xs k))) S) sh ad D cA) 0 0 (aA sh.length ad sz) := by
  refine va_MetF (cc := m_Z_cell0.2.1) (maxL := m_Z_cell0.2.2.1) (ret := m_Z_cell0.2.2.2.1) ok_Z_cell0.2.2.2 rfl ?_
  intro p e s m args below meth c s₁ Bd hml hv
  obtain ⟨rfl, hsz, hP, hK, hno, hX⟩ := hv
  subst hsz
  rw [lg_entry_eq]
  have hts0 := atoms_spec (ws := wsM m_Z_cell0) Bd.pre
  have h := k_cell (l := l) (B := []) (S := S) (b := b) (L := L) (k := k) (xs := xs) hL hk p e s m _ below meth c sh ad D cA s.heap [] _ ⟨Bd.exec, Bd.bytes, Bd.returns, hml, findClass_of_methodNamed Bd.named, fun w hw => hts0 w (List.mem_cons_of_mem _ hw), Bd.notSynchronized, hno, hK, ok_Z_cell0.D, ⟨sh, rfl⟩, hi⟩ hP va_S.rf (lh_entry ad [aR 99, aI (nI k)] (n := 2) (Nat.le_refl 2))
  intro T hT X
  obtain ⟨t, a, bb⟩ := h T hT X
  exact ⟨t, a, bb ⟨⟨ha, hX, hbz⟩, hbA⟩⟩
theorem e_callSC {l : Launch} {B : List Sh} {R : Room} {y : Mt} {Z0 : List Frame → Array Value → State → State → Prop} {kc ks pc i t b L k : Nat} {xs : Nat → Int32} {lv : List (Option AV)} {rest : List AV} {S : St} (hL : L ≤ 3586) (hk : k < 2 ^ 31)
    (hd : cAt y.2.2.2.2.1 pc = some (.invokestatic i, 3, t)) (hl : lkS y.1.cls i m_Z_cell0 2) (hR : 1 ≤ R.frames ∧ 21 ≤ R.locals) (hc : kc ≤ R.cells ∧ ks ≤ R.slots) (hrest : (rest.map av_c).sum ≤ 8)
    (kk : EE l B R y (zG F9L 0 B (zLw b L xs Z0)) kc ks (pc + 3) lv (aI (cl0 L xs k) :: rest) S) : EE l B R y (zG F9L 0 B (zLw b L xs Z0)) kc ks pc lv (aI (nI k) :: aR 99 :: rest) S := by
  refine zg_in (fun p e s m args below meth c ad D cA H locs ls Cc hP hS hlh hF hfr => ?_)
  obtain ⟨hx, hb, hr, hml, hown, hts, hlk, hn, hKw, hok, hsh, hi⟩ := id Cc
  by_cases hs : scH b L xs s ad
  case neg =>
    intro T hT X
    exact ⟨_, Steps.refl _, fun h9 => absurd h9 hs⟩
  have hbA := sc_out hs hfr
  have hbH : b < H.size := Nat.lt_of_lt_of_le hs.2.2 hS.1
  have hbA2 : ¬ aA B.length ad H.size b := fun z => hbA (aA_mono hS.1 b z)
  obtain ⟨w1, w2, w4, w5⟩ := hl
  have hM := m_cell (l := l) (S := S) (b := b) (L := L) (k := k) (xs := xs) (sh := B) (ad := ad) (D := D) (cA := cA) (sz := H.size) hL hk hi hs.1 hbH hbA2
  have hG : GoodIn gw (va_wsS y.1.cls i m_Z_cell0.1 (wsM m_Z_cell0)) := fun w hw => by
    unfold va_wsS at hw
    rcases List.mem_append.mp hw with h | h
    · simp only [List.mem_cons, List.not_mem_nil, or_false] at h
      rcases h with rfl | rfl | rfl
      · exact gw_good (gw_in w1 rfl)
      · exact gw_good (gw_in w2 rfl)
      · exact gw_good (gw_in w4 rfl)
    · exact gw_wsM ok_Z_cell0 w h
  have hpre : ∀ U : State, U.heap = H → s.WarmedH U.vm → PcS [aR 99, aI (nI k)] S B ad D cA H.size b L xs ([aR 99, aI (nI k)].map (av_V ad)).toArray U := by
    intro U hU hW
    refine ⟨rfl, by rw [hU], by rw [hU]; exact hP, va_K.moved hW.alike hKw, hn.warm hW, ?_⟩
    rw [hU]
    exact va_X.moved hW.alike (hs.2.1.kept (hS.2.1 b hs.2.2 hbA))
  have e9 : (aI (nI k) :: aR 99 :: rest).map (av_V ad) = ([aR 99, aI (nI k)].map (av_V ad)).reverse ++ rest.map (av_V ad) := rfl
  rw [e9]
  refine a_call (va_runS (As := [aR 99, aI (nI k)].map (av_V ad)) (rest := rest.map (av_V ad)) ⟨hx, hb, hml, hown, hts⟩ hM (va_cwS 2 hts hG rfl rfl rfl w5 ⟨hR.1, hR.2⟩) ⟨pcS_blind, hpre⟩ rfl rfl hlh.1 rfl (lv_room (by rw [av_cats]; exact hrest)) (okM_c hok hd).1 ⟨hc.1, hc.2⟩) hS (fun r S' H1 locs1 hq hP1 hS1 => ?_)
  obtain ⟨rfl, rfl⟩ := hq
  have h := kk p e s m args below meth c B ad D cA H1 locs1 ls Cc hP1 hS1 hlh
  intro T1 hT1 X1
  obtain ⟨t9, a9, b9⟩ := h T1 hT1 X1
  exact ⟨t9, a9, b9 ⟨rfl, hF, hfr⟩⟩
