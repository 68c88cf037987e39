/-! the law's own rows: the script, calls of methods that catch -/
def scH (b L : Nat) (xs : Nat → Int32) (s : State) (ad : Nat → Nat) : Prop := ad 99 = b ∧ va_X b L xs s s.heap ∧ b < s.heap.size
def zLw (b L : Nat) (xs : Nat → Int32) (Z0 : List Frame → Array Value → State → State → Prop) : ZG := fun below args s ad _ _ t => scH b L xs s ad → Z0 below args s t
def F9L (s : State) : Prop := tOK (fun q => s.heap.size ≤ q) s
theorem zLw_blind {b L : Nat} {xs : Nat → Int32} {Z0 : List Frame → Array Value → State → State → Prop} {n0 nf : Nat} (h : nf ≤ 99) : blindZ n0 nf (zLw b L xs Z0) := by
  intro below args s ad ad' D cA t ha hz hs
  exact hz ⟨by rw [ha 99 (Or.inr h)]; exact hs.1, hs.2⟩
theorem sc_out {b L : Nat} {xs : Nat → Int32} {s : State} {ad : Nat → Nat} {n : Nat} (hs : scH b L xs s ad) (hfr : ∀ i, 0 ≤ i → i < n → s.heap.size ≤ ad i) : ¬ aA n ad s.heap.size b := by
  rintro (⟨i, h1, h2⟩ | h)
  · have := hfr i (Nat.zero_le _) h1
    have := hs.2.2
    omega
  · have := hs.2.2
    omega
theorem e_sld {l : Launch} {B : List Sh} {R : Room} {y : Mt} {Z0 : List Frame → Array Value → State → State → Prop} {kc ks pc t b L : Nat} {xs : Nat → Int32} {lv : List (Option AV)} {st : List AV} {S : St} {i : Int32}
    (hd : cAt y.2.2.2.2.1 pc = some (.iaload, 1, t)) (hin : vp_in i L) (k : EE l B R y (zG F9L 0 B (zLw b L xs Z0)) kc ks (pc + 1) lv (aI (xs i.toNatClampNeg) :: st) S) : EE l B R y (zG F9L 0 B (zLw b L xs Z0)) kc ks pc lv (aI i :: aR 99 :: st) S := by
  refine zg_in (fun p e s m args below meth c ad D cA H locs ls Cc hP hS hl hF hfr => ?_)
  obtain ⟨hx, hb, hr, hml, hown, hts, hlk, hn9, hK, hok, hsh, hi⟩ := id Cc
  by_cases hs : scH b L xs s ad
  case neg =>
    intro T hT X
    exact ⟨_, Steps.refl _, fun h9 => absurd h9 hs⟩
  show W p l e R s m args below meth c H locs kc ks _ (F0 m pc ls (.int i :: .ref (ad 99) :: st.map (av_V ad)))
  rw [hs.1]
  refine va_sld hx hb hs.2.1 hs.2.2 (sc_out hs hfr) hS hin (okM_c hok hd).1 ?_
  have h := k p e s m args below meth c B ad D cA H locs ls Cc hP hS hl
  intro T1 hT1 X1
  obtain ⟨t9, a9, b9⟩ := h T1 hT1 X1
  exact ⟨t9, a9, b9 ⟨rfl, hF, hfr⟩⟩
theorem e_slen {l : Launch} {B : List Sh} {R : Room} {y : Mt} {Z0 : List Frame → Array Value → State → State → Prop} {kc ks pc t b L : Nat} {xs : Nat → Int32} {lv : List (Option AV)} {st : List AV} {S : St}
    (hd : cAt y.2.2.2.2.1 pc = some (.arraylength, 1, t)) (k : EE l B R y (zG F9L 0 B (zLw b L xs Z0)) kc ks (pc + 1) lv (aI (nI L) :: st) S) : EE l B R y (zG F9L 0 B (zLw b L xs Z0)) kc ks pc lv (aR 99 :: st) S := by
  refine zg_in (fun p e s m args below meth c ad D cA H locs ls Cc hP hS hl hF hfr => ?_)
  obtain ⟨hx, hb, hr, hml, hown, hts, hlk, hn9, hK, hok, hsh, hi⟩ := id Cc
  by_cases hs : scH b L xs s ad
  case neg =>
    intro T hT X
    exact ⟨_, Steps.refl _, fun h9 => absurd h9 hs⟩
  show W p l e R s m args below meth c H locs kc ks _ (F0 m pc ls (.ref (ad 99) :: st.map (av_V ad)))
  rw [hs.1]
  refine va_slen hx hb hs.2.1 hs.2.2 (sc_out hs hfr) hS (okM_c hok hd).1 ?_
  have h := k p e s m args below meth c B ad D cA H locs ls Cc hP hS hl
  intro T1 hT1 X1
  obtain ⟨t9, a9, b9⟩ := h T1 hT1 X1
  exact ⟨t9, a9, b9 ⟨rfl, hF, hfr⟩⟩
theorem e_callSW {l : Launch} {B : List Sh} {R : Room} {y z : Mt} {ZZ : ZG} {kc ks pc i t n : Nat} {d : Nat × Nat} {hh : List (Nat × Nat × Nat × Nat)} {lv : List (Option AV)} {st as rest : List AV} {S S1 : St} {v : AV}
    (hcw : Jvm.Cond.codeWith z.1 z.2.1 z.2.2.1 z.2.2.2.1 hh ∈ gw) (hd : cAt y.2.2.2.2.1 pc = some (.invokestatic i, 3, t)) (hl : lkS y.1.cls i z n) (hK : KW l B d z hh as S (ans (some v) S1)) (hlen : as.length = n) (hst : st = as.reverse ++ rest)
    (hR : d.1 + 1 ≤ R.frames ∧ 8 + (z.2.2.1 + 11) + d.2 ≤ R.locals) (hc : kc + 1 ≤ R.cells ∧ ks + 6 ≤ R.slots) (hrest : (rest.map av_c).sum ≤ 8)
    (kk : EE l B R y (zG F9L 0 B ZZ) (kc + 1) (ks + 6) (pc + 3) lv (v :: rest) S1) : EE l B R y (zG F9L 0 B ZZ) kc ks pc lv st S := by
  subst hst
  refine zg_in (fun p e s m args below meth c ad D cA H locs ls Cc hP hS hlh hF hfr => ?_)
  obtain ⟨hx, hb, hr, hml, hown, hts, hlk, hn9, hKw, hok, hsh, hi⟩ := id Cc
  obtain ⟨w1, w2, w4, w5⟩ := hl
  have hM := hK B ad D cA H.size ⟨[], by simp⟩ hi
  have hG : GoodIn gw (wsW z hh) := fun w hw => by
    rcases List.mem_cons.mp hw with rfl | h
    · exact gw_good hcw
    · exact gw_good h
  have hto : tOK (aA B.length ad s.heap.size) s := tOK.to (s := s) (U := s) (State.WarmedH.refl s) (fun _ _ _ => rfl) (fun q hq => by
    rcases hq with ⟨j, h1, h2⟩ | h
    · rw [h2]; exact hfr j (Nat.zero_le _) h1
    · exact h) hF
  intro T hT X
  have hBk : Back l R p e below s args z.1 3 8 (PreOf R 1 6 (PcT as S B ad D cA H.size)) (PostOf (QcA (ans (some v) S1) B ad D cA) 1 6 (aA B.length ad H.size)) :=
    va_backW (hh := hh) (bytes := z.2.1) (maxL := z.2.2.1) (ret := z.2.2.2.1) hM pcT_blind rfl rfl hR.1 hR.2 (pay_in hts hG) List.mem_cons_self (fun a' U hW => word_at hW (gw_good (gw_in w4 rfl)).2 (hts _ (gw_in w4 rfl)))
  obtain ⟨m9, methM, cM, hnamed, hmethM, -, -, -, -, -, -, hsigM⟩ := Cond.codeWith_spec (hts _ hcw)
  have hstatic : methM.isStatic = true := Cond.static_spec hnamed hmethM (hts _ (gw_in w2 rfl))
  obtain ⟨kP, hkP, -⟩ := className_of_methodNamed hnamed
  have hinitP : kP.init = .initialized := Cond.initialized_spec (findClass_of_methodNamed hnamed) hkP (hts _ (gw_in w4 rfl))
  have hlenA : (as.map (av_V ad)).length = methM.sig.parameters.length := by
    have h2 := w5.2.2
    rw [hsigM] at h2
    rw [List.length_map, hlen]
    exact (Option.some.inj h2).symm
  rw [map_rev]
  obtain ⟨vm₁, X₁, hstep₁⟩ := X.invokestatic hx hown (hts _ (gw_in w1 rfl)) hnamed hmethM hstatic hkP hinitP ⟨w5.1, w5.2.1⟩ (g := F0 m pc ls ((as.map (av_V ad)).reverse ++ rest.map (av_V ad))) rfl (argsL := as.map (av_V ad)) (rest := rest.map (av_V ad)) hlenA rfl (by rw [hb]; exact (okM_c hok hd).1)
  obtain ⟨v9, ⟨U', l2, c2, s2⟩, X', ⟨g', mk, t', L', e1, e2, hq, h1, hL, h2, h3⟩, hsteps⟩ := hBk m meth c ⟨T.setVm vm₁, locs, kc, ks⟩ (F0 m pc ls (rest.map (av_V ad))) (.invokestatic i) m9 (as.map (av_V ad)).toArray X₁ rfl (by rw [hml]; exact hlh.1) (by rw [hb]; exact (okM_c hok hd).1) (by rw [← av_cats ad] at hrest; show 2 * 0 + _ ≤ 8; simpa using hrest) (X₁.named hnamed) ⟨hc.1, hc.2, pcT_pre Cc hP hS hto as _ hT X₁.warmed⟩
  dsimp only [Pt.U, Pt.locs, Pt.cells, Pt.slots] at X' e1 e2 h1 h2 h3 hsteps
  subst h1 h2 h3
  obtain ⟨⟨r, S', hv, ⟨hr1, hr2⟩, hP', hK'⟩, hF'⟩ := hq
  subst hr1
  subst hr2
  cases hv
  have hhp : ((T.setVm vm₁).calling g' mk (as.map (av_V ad)).toArray).heap = H := hT
  have hS2 : va_S (aA B.length ad s.heap.size) s.heap U'.heap (locs ++ L') := by
    refine ⟨?_, fun q g1 g2 => ?_, fun q hq => ?_⟩
    · rw [e1]
      have := hF'.1
      rw [hhp] at this
      exact Nat.le_trans hS.1 this
    · have g3 := hF'.2 q (by rw [hhp]; exact Nat.lt_of_lt_of_le g1 hS.1) (fun zz => g2 (aA_mono (by rw [hhp]; exact hS.1) q zz))
      rw [e1, g3, hhp]
      exact hS.2.1 q g1 g2
    · rcases List.mem_append.mp hq with h | h
      · exact hS.2.2 q h
      · exact aA_mono hS.1 _ (hL q h)
  have h := kk p e s m args below meth c B ad D cA U'.heap (locs ++ L') ls Cc (by rw [e1]; exact hP') hS2 hlh
  obtain ⟨t2, a1, b1⟩ := h U' rfl X'
  refine ⟨t2, hstep₁ _ fun acts => ?_, b1 ⟨rfl, hF, hfr⟩⟩
  rw [doInvoke_state]
  exact hsteps.trans a1
