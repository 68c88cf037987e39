/-! answers, calls, beginnings -/
/-- frames and locals -/
def rmD (d : Nat × Nat) : Room := { frames := d.1, cells := 0, slots := 0, locals := d.2 }
def QcA (Q : Option AV → St → Prop) (sh : List Sh) (ad : Nat → Nat) (D : va_G) (cA : FieldType → ClassId) : Array Value → State → Outcome → State → Prop := fun _ st oc t =>
  (∃ (r : Option AV) (S' : St), oc = .returned (r.map (av_V ad)) ∧ Q r S' ∧ va_P D classes (wdA ad cA S' sh) t.heap ∧ va_K D classes (tysA cA) t) ∧ va_F (aA sh.length ad st.heap.size) st t
def zR (Q : Option AV → St → Prop) (mc ms : Nat) : ZF := fun below args s sh ad D cA => MQ below (QcA Q sh ad D cA) args s mc ms (aA sh.length ad s.heap.size)
def wsM (z : Mt) : List Jvm.Cond := .code z.1 z.2.1 z.2.2.1 z.2.2.2.1 :: gw
def PcA (av : List AV) (S : St) (sh : List Sh) (ad : Nat → Nat) (D : va_G) (cA : FieldType → ClassId) (sz : Nat) : Array Value → State → Prop :=
  va_Pc (av.map (av_V ad)) (fun U => U.heap.size = sz ∧ va_P D classes (wdA ad cA S sh) U.heap ∧ va_K D classes (tysA cA) U ∧ nOK U)
/-- a method's contract: at depth d, with these arguments over this store it returns, as Q says -/
def KK (l : Launch) (B : List Sh) (d : Nat × Nat) (z : Mt) (av : List AV) (S : St) (Q : Option AV → St → Prop) : Prop :=
  ∀ (sh : List Sh) (ad : Nat → Nat) (D : va_G) (cA : FieldType → ClassId) (sz : Nat), (∃ sh', sh = B ++ sh') → (∀ i j, i < sh.length → j < sh.length → ad i = ad j → i = j) →
    Met l z.1 (wsM z) (rmD d) (PcA av S sh ad D cA sz) (QcA Q sh ad D cA) 0 0 (aA sh.length ad sz)
abbrev E0 (l : Launch) (B : List Sh) (d : Nat × Nat) (y : Mt) (pc : Nat) (lv : List (Option AV)) (st : List AV) (S : St) (Q : Option AV → St → Prop) : Prop := EE l B (rmD d) y (zR Q 0 0) 0 0 pc lv st S
theorem k_start {l : Launch} {B : List Sh} {d : Nat × Nat} {z : Mt} {av : List AV} {S : St} {Q : Option AV → St → Prop} (hz : okM z) (hn : (lvArgs av).length ≤ z.2.2.1) (he : E0 l B d z 0 (lvIn av z.2.2.1) [] S Q) : KK l B d z av S Q := by
  intro sh ad D cA sz hB hi
  refine va_MetF (cc := z.2.1) (maxL := z.2.2.1) (ret := z.2.2.2.1) hz.2.2.2 rfl ?_
  intro p e s m args below meth c s₁ Bd hml hv
  obtain ⟨rfl, hsz, hP, hK, hno⟩ := hv
  subst hsz
  rw [lg_entry_eq]
  have hts0 := atoms_spec (ws := wsM z) Bd.pre
  exact he p e s m _ below meth c sh ad D cA s.heap [] _ ⟨Bd.exec, Bd.bytes, Bd.returns, hml, findClass_of_methodNamed Bd.named, fun w hw => hts0 w (List.mem_cons_of_mem _ hw), Bd.notSynchronized, hno, hK, hz.D, hB, hi⟩ hP va_S.rf (lh_entry ad av hn)
section Ends
variable {l : Launch} {B : List Sh} {R : Room} {y : Mt} {kc ks pc mc ms : Nat} {lv : List (Option AV)} {S : St} {Q : Option AV → St → Prop}
theorem e_iret {t : Nat} {v : Int32} (hd : cAt y.2.2.2.2.1 pc = some (.ireturn, 1, t)) (hrt : y.2.2.2.1 = some .int) (h1 : kc ≤ mc) (h2 : ks ≤ ms) (hq : Q (some (aI v)) S) : EE l B R y (zR Q mc ms) kc ks pc lv [aI v] S := by
  intro p e s m args below meth c sh ad D cA H locs ls C hP hS hl
  obtain ⟨hx, hb, hr, hml, hown, hts, hlk, hn, hK, hok, hsh, hi⟩ := id C
  refine W.widen h1 h2 ?_
  exact W.iret hx hb (hr.trans hrt) (fun t ht hW => ⟨⟨some (aI v), S, rfl, hq, by rw [ht]; exact hP, va_K.moved hW.alike hK⟩, hS.F ht⟩) hS.2.2 (okM_c hok hd).1
theorem e_zret {t : Nat} {v : Int32} (hd : cAt y.2.2.2.2.1 pc = some (.ireturn, 1, t)) (hrt : y.2.2.2.1 = some .boolean) (h1 : kc ≤ mc) (h2 : ks ≤ ms) (hv : v = 0 ∨ v = 1) (hq : Q (some (aI v)) S) : EE l B R y (zR Q mc ms) kc ks pc lv [aI v] S := by
  intro p e s m args below meth c sh ad D cA H locs ls C hP hS hl
  obtain ⟨hx, hb, hr, hml, hown, hts, hlk, hn, hK, hok, hsh, hi⟩ := id C
  refine W.widen h1 h2 ?_
  exact W.zret hx hb (hr.trans hrt) (nar_bool hv) (fun t ht hW => ⟨⟨some (aI v), S, rfl, hq, by rw [ht]; exact hP, va_K.moved hW.alike hK⟩, hS.F ht⟩) hS.2.2 (okM_c hok hd).1
theorem e_vret {t : Nat} (hd : cAt y.2.2.2.2.1 pc = some (.return_, 1, t)) (hrt : y.2.2.2.1 = none) (h1 : kc ≤ mc) (h2 : ks ≤ ms) (hq : Q none S) : EE l B R y (zR Q mc ms) kc ks pc lv [] S := by
  intro p e s m args below meth c sh ad D cA H locs ls C hP hS hl
  obtain ⟨hx, hb, hr, hml, hown, hts, hlk, hn, hK, hok, hsh, hi⟩ := id C
  refine W.widen h1 h2 ?_
  exact W.vret hx hb (hr.trans hrt) (fun t ht hW => ⟨⟨none, S, rfl, hq, by rw [ht]; exact hP, va_K.moved hW.alike hK⟩, hS.F ht⟩) hS.2.2 (okM_c hok hd).1
end Ends
theorem pcA_blind {av : List AV} {S : St} {sh : List Sh} {ad : Nat → Nat} {D : va_G} {cA : FieldType → ClassId} {sz : Nat} : FrameBlind (PcA av S sh ad D cA sz) := by
  intro a U g mk q
  obtain ⟨q0, q1, q2, q3, q4⟩ := q
  exact ⟨q0, q1, q2, va_K.moved (u := U) (U := U.calling g mk a) (Vm.Alike.refl U.vm) q3, nOK.vm (s := U) (U := U.calling g mk a) rfl q4⟩
theorem a_call {p : Program} {l : Launch} {e : Env} {R : Room} {s : State} {m : MethodId} {args a : Array Value} {below : List Frame} {meth : Method} {c : Code} {H : Heap} {locs : List Loc} {kc ks pc : Nat} {Z : State → Prop} {ls : Array Slot} {st0 rest : List Value}
    {sh : List Sh} {ad : Nat → Nat} {D : va_G} {cA : FieldType → ClassId} {Q : Option AV → St → Prop}
    (hr : va_Run p l e R s m args below meth c H locs kc ks 0 0 (F0 m pc ls st0) rest (QcA Q sh ad D cA a) (aA sh.length ad H.size)) (hS : va_S (aA sh.length ad s.heap.size) s.heap H locs)
    (kk : ∀ (r : Option AV) (S' : St) (H1 : Heap) (locs1 : List Loc), Q r S' → va_P D classes (wdA ad cA S' sh) H1 → va_S (aA sh.length ad s.heap.size) s.heap H1 locs1 → W p l e R s m args below meth c H1 locs1 kc ks Z (F0 m (pc + 3) ls ((r.map (av_V ad)).toList ++ rest))) :
    W p l e R s m args below meth c H locs kc ks Z (F0 m pc ls st0) := by
  intro T hT X
  obtain ⟨v, st₀, t, T', L, h0, X', hL, e1, e2, ⟨⟨r, S', hv, hq, hp, hk⟩, hz, hkk⟩, st⟩ := hr T hT X
  cases hv
  rw [h0] at hz hkk
  have hA : ∀ q, aA sh.length ad H.size q → aA sh.length ad s.heap.size q := fun q h => by
    rcases h with h | h
    · exact Or.inl h
    · exact Or.inr (Nat.le_trans hS.1 h)
  obtain ⟨t2, a1, b1⟩ := kk r S' T'.heap (locs ++ L) hq (by rw [e1]; exact hp)
    ⟨Nat.le_trans hS.1 (by rw [e1]; exact hz), fun q h1 h2 => by rw [e1, hkk q (Nat.lt_of_lt_of_le h1 hS.1) (fun z => h2 (hA q z))]; exact hS.2.1 q h1 h2, fun q hq => by
      rcases List.mem_append.mp hq with h | h
      · exact hS.2.2 q h
      · exact hA _ (hL q h)⟩ T' rfl X'
  exact ⟨t2, st t2 a1, b1⟩
def notMH (z : MethodName) (n : Nat) : Prop := z.cls ≠ "java/lang/invoke/MethodHandle" ∧ z.cls ≠ "java/lang/invoke/VarHandle" ∧ (parseMethodDescriptor z.desc).map (fun d => d.parameters.length) = some n
/-- what the tables say of a call: virtual, static, static of a nest mate -/
def lkV (own : String) (i : Nat) (z : Mt) (n : Nat) : Prop := Jvm.Cond.methodLink own i z.1 ∈ lw_tbl ∧ Jvm.Cond.instanceMethod z.1 ∈ lw_tbl ∧ Jvm.Cond.selects z.1.cls z.1 z.1 ∈ lw_tbl ∧ Jvm.Cond.initialized z.1.cls ∈ lw_tbl ∧ notMH z.1 n
def lkS (own : String) (i : Nat) (z : Mt) (n : Nat) : Prop := Jvm.Cond.methodLink own i z.1 ∈ lw_tbl ∧ Jvm.Cond.static z.1 ∈ lw_tbl ∧ Jvm.Cond.initialized z.1.cls ∈ lw_tbl ∧ notMH z.1 n
def lkN (own : String) (i : Nat) (z : Mt) (n : Nat) : Prop := Jvm.Cond.methodLinkNest own i z.1 nestHost ∈ lw_tbl ∧ Jvm.Cond.static z.1 ∈ lw_tbl ∧ Jvm.Cond.initialized z.1.cls ∈ lw_tbl ∧ notMH z.1 n
def lkW (own : String) (i : Nat) (z : Mt) (n : Nat) : Prop := Jvm.Cond.methodLinkNest own i z.1 nestHost ∈ lw_tbl ∧ Jvm.Cond.instanceMethod z.1 ∈ lw_tbl ∧ Jvm.Cond.selects z.1.cls z.1 z.1 ∈ lw_tbl ∧ Jvm.Cond.initialized z.1.cls ∈ lw_tbl ∧ notMH z.1 n
section Calls9
variable {l : Launch} {B : List Sh} {R : Room} {y z : Mt} {Zf : ZF} {kc ks pc i t n : Nat} {d : Nat × Nat} {lv : List (Option AV)} {st as rest : List AV} {S : St} {Q : Option AV → St → Prop}
theorem map_rev (ad : Nat → Nat) (as rest : List AV) : (as.reverse ++ rest).map (av_V ad) = (as.map (av_V ad)).reverse ++ rest.map (av_V ad) := by
  rw [List.map_append, List.map_reverse]
theorem gw_wsM (hz : okM z) : GoodIn gw (wsM z) := fun w hw => by
  rcases List.mem_cons.mp hw with rfl | h
  · exact gw_good hz.2.2.1
  · exact gw_good h
theorem pcA_pre {p : Program} {s : State} {m : MethodId} {args : Array Value} {meth : Method} {c : Code} {sh : List Sh} {ad : Nat → Nat} {D : va_G} {cA : FieldType → ClassId} {H : Heap} (C : Cx B y p s m args meth c sh ad D cA) (hP : va_P D classes (wdA ad cA S sh) H) (as : List AV) : ∀ U : State, U.heap = H → s.WarmedH U.vm → PcA as S sh ad D cA H.size (as.map (av_V ad)).toArray U := by
  intro U hU hW
  obtain ⟨hx, hb, hr, hml, hown, hts, hlk, hn, hK, hok, hsh, hi⟩ := id C
  exact ⟨rfl, by rw [hU], by rw [hU]; exact hP, va_K.moved hW.alike hK, hn.warm hW⟩
theorem e_callV {o ci : Nat} {fl : List (Option Nat)} (hz : okM z) (hd : cAt y.2.2.2.2.1 pc = some (.invokevirtual i, 3, t)) (hl : lkV y.1.cls i z n) (hB : B[o]? = some (.inl (ci, fl))) (hci : (classes[ci]?).map (fun r => r.1) = some z.1.cls)
    (hK : KK l B d z (aR o :: as) S Q) (hlen : as.length = n) (hst : st = as.reverse ++ aR o :: rest) (hR : d.1 + 1 ≤ R.frames ∧ 8 + (z.2.2.1 + 11) + d.2 ≤ R.locals) (hc : kc ≤ R.cells ∧ ks ≤ R.slots) (hrest : (rest.map av_c).sum ≤ 8)
    (kk : ∀ (r : Option AV) (S' : St), Q r S' → EE l B R y Zf kc ks (pc + 3) lv (r.toList ++ rest) S') : EE l B R y Zf kc ks pc lv st S := by
  subst hst
  intro p e s m args below meth c sh ad D cA H locs ls C hP hS hlh
  obtain ⟨hx, hb, hr, hml, hown, hts, hlk, hn, hKw, hok, hsh, hi⟩ := id C
  obtain ⟨w1, w2, w3, w4, w5⟩ := hl
  obtain ⟨rc, hrc, hrn⟩ := Option.map_eq_some_iff.mp hci
  have hM := hK sh ad D cA H.size hsh hi
  have hG : GoodIn gw (wsV y.1.cls i z.1.cls z.1 (wsM z)) := fun w hw => by
    unfold wsV at hw
    rcases List.mem_append.mp hw with h | h
    · simp only [List.mem_cons, List.not_mem_nil, or_false] at h
      rcases h with rfl | rfl | rfl | rfl
      · exact gw_good (gw_in w1 rfl)
      · exact gw_good (gw_in w2 rfl)
      · exact gw_good (gw_in w3 rfl)
      · exact gw_good (gw_in w4 rfl)
    · exact gw_wsM hz w h
  rw [map_rev, List.map_cons]
  refine a_call (va_runV (C := z.1.cls) (As := as.map (av_V ad)) (rest := rest.map (av_V ad)) ⟨hx, hb, hml, hown, hts⟩ hM (cwV n hts hG rfl rfl rfl ⟨rfl, w5⟩ hR) ⟨pcA_blind, ?_, pcA_pre C hP (aR o :: as)⟩ rfl (by rw [List.length_map]; exact hlen) hlh.1 rfl (lv_room (by rw [av_cats]; exact hrest)) (okM_c hok hd).1 ⟨hc.1, hc.2⟩) hS (fun r S' H1 locs1 hq hP1 hS1 => ?_)
  · obtain ⟨cell, g1, g2, g3⟩ := va_recv hKw hP hrc (wd_at (sh_pre hsh hB))
    exact ⟨cell, g1, g2, by rw [← hrn]; exact g3⟩
  · have h := kk r S' hq p e s m args below meth c sh ad D cA H1 locs1 ls C hP1 hS1 hlh
    rw [List.map_append] at h
    cases r <;> exact h
theorem e_callW {o ci : Nat} {fl : List (Option Nat)} (hz : okM z) (hd : cAt y.2.2.2.2.1 pc = some (.invokevirtual i, 3, t)) (hl : lkW y.1.cls i z n) (hB : B[o]? = some (.inl (ci, fl))) (hci : (classes[ci]?).map (fun r => r.1) = some z.1.cls)
    (hK : KK l B d z (aR o :: as) S Q) (hlen : as.length = n) (hst : st = as.reverse ++ aR o :: rest) (hR : d.1 + 1 ≤ R.frames ∧ 8 + (z.2.2.1 + 11) + d.2 ≤ R.locals) (hc : kc ≤ R.cells ∧ ks ≤ R.slots) (hrest : (rest.map av_c).sum ≤ 8)
    (kk : ∀ (r : Option AV) (S' : St), Q r S' → EE l B R y Zf kc ks (pc + 3) lv (r.toList ++ rest) S') : EE l B R y Zf kc ks pc lv st S := by
  subst hst
  intro p e s m args below meth c sh ad D cA H locs ls C hP hS hlh
  obtain ⟨hx, hb, hr, hml, hown, hts, hlk, hn, hKw, hok, hsh, hi⟩ := id C
  obtain ⟨w1, w2, w3, w4, w5⟩ := hl
  obtain ⟨rc, hrc, hrn⟩ := Option.map_eq_some_iff.mp hci
  have hM := hK sh ad D cA H.size hsh hi
  rw [map_rev, List.map_cons]
  refine a_call (va_runVN (C := z.1.cls) (As := as.map (av_V ad)) (rest := rest.map (av_V ad)) ⟨hx, hb, hml, hown, hts⟩ hM ⟨va_cnB n hts (gw_wsM hz) rfl rfl rfl (hn _ (nw_in w1 rfl)) (hts _ (gw_in w4 rfl)) w5 hR, hts _ (gw_in w2 rfl), hts _ (gw_in w3 rfl)⟩ ⟨pcA_blind, ?_, pcA_pre C hP (aR o :: as)⟩ rfl (by rw [List.length_map]; exact hlen) hlh.1 rfl (lv_room (by rw [av_cats]; exact hrest)) (okM_c hok hd).1 ⟨hc.1, hc.2⟩) hS (fun r S' H1 locs1 hq hP1 hS1 => ?_)
  · obtain ⟨cell, g1, g2, g3⟩ := va_recv hKw hP hrc (wd_at (sh_pre hsh hB))
    exact ⟨cell, g1, g2, by rw [← hrn]; exact g3⟩
  · have h := kk r S' hq p e s m args below meth c sh ad D cA H1 locs1 ls C hP1 hS1 hlh
    rw [List.map_append] at h
    cases r <;> exact h
theorem e_callS (hz : okM z) (hd : cAt y.2.2.2.2.1 pc = some (.invokestatic i, 3, t)) (hl : lkS y.1.cls i z n)
    (hK : KK l B d z as S Q) (hlen : as.length = n) (hst : st = as.reverse ++ rest) (hR : d.1 + 1 ≤ R.frames ∧ 8 + (z.2.2.1 + 11) + d.2 ≤ R.locals) (hc : kc ≤ R.cells ∧ ks ≤ R.slots) (hrest : (rest.map av_c).sum ≤ 8)
    (kk : ∀ (r : Option AV) (S' : St), Q r S' → EE l B R y Zf kc ks (pc + 3) lv (r.toList ++ rest) S') : EE l B R y Zf kc ks pc lv st S := by
  subst hst
  intro p e s m args below meth c sh ad D cA H locs ls C hP hS hlh
  obtain ⟨hx, hb, hr, hml, hown, hts, hlk, hn, hKw, hok, hsh, hi⟩ := id C
  obtain ⟨w1, w2, w4, w5⟩ := hl
  have hM := hK sh ad D cA H.size hsh hi
  have hG : GoodIn gw (va_wsS y.1.cls i z.1 (wsM z)) := fun w hw => by
    unfold va_wsS at hw
    rcases List.mem_append.mp hw with h | h
    · simp only [List.mem_cons, List.not_mem_nil, or_false] at h
      rcases h with rfl | rfl | rfl
      · exact gw_good (gw_in w1 rfl)
      · exact gw_good (gw_in w2 rfl)
      · exact gw_good (gw_in w4 rfl)
    · exact gw_wsM hz w h
  rw [map_rev]
  refine a_call (va_runS (As := as.map (av_V ad)) (rest := rest.map (av_V ad)) ⟨hx, hb, hml, hown, hts⟩ hM (va_cwS n hts hG rfl rfl rfl w5 hR) ⟨pcA_blind, pcA_pre C hP as⟩ rfl (by rw [List.length_map]; exact hlen) hlh.1 rfl (lv_room (by rw [av_cats]; exact hrest)) (okM_c hok hd).1 ⟨hc.1, hc.2⟩) hS (fun r S' H1 locs1 hq hP1 hS1 => ?_)
  have h := kk r S' hq p e s m args below meth c sh ad D cA H1 locs1 ls C hP1 hS1 hlh
  rw [List.map_append] at h
  cases r <;> exact h
theorem e_callN (hz : okM z) (hd : cAt y.2.2.2.2.1 pc = some (.invokestatic i, 3, t)) (hl : lkN y.1.cls i z n)
    (hK : KK l B d z as S Q) (hlen : as.length = n) (hst : st = as.reverse ++ rest) (hR : d.1 + 1 ≤ R.frames ∧ 8 + (z.2.2.1 + 11) + d.2 ≤ R.locals) (hc : kc ≤ R.cells ∧ ks ≤ R.slots) (hrest : (rest.map av_c).sum ≤ 8)
    (kk : ∀ (r : Option AV) (S' : St), Q r S' → EE l B R y Zf kc ks (pc + 3) lv (r.toList ++ rest) S') : EE l B R y Zf kc ks pc lv st S := by
  subst hst
  intro p e s m args below meth c sh ad D cA H locs ls C hP hS hlh
  obtain ⟨hx, hb, hr, hml, hown, hts, hlk, hn, hKw, hok, hsh, hi⟩ := id C
  obtain ⟨w1, w2, w4, w5⟩ := hl
  have hM := hK sh ad D cA H.size hsh hi
  rw [map_rev]
  refine a_call (va_runSN (As := as.map (av_V ad)) (rest := rest.map (av_V ad)) ⟨hx, hb, hml, hown, hts⟩ hM ⟨va_cnB n hts (gw_wsM hz) rfl rfl rfl (hn _ (nw_in w1 rfl)) (hts _ (gw_in w4 rfl)) w5 hR, hts _ (gw_in w2 rfl), trivial⟩ ⟨pcA_blind, pcA_pre C hP as⟩ rfl (by rw [List.length_map]; exact hlen) hlh.1 rfl (lv_room (by rw [av_cats]; exact hrest)) (okM_c hok hd).1 ⟨hc.1, hc.2⟩) hS (fun r S' H1 locs1 hq hP1 hS1 => ?_)
  have h := kk r S' hq p e s m args below meth c sh ad D cA H1 locs1 ls C hP1 hS1 hlh
  rw [List.map_append] at h
  cases r <;> exact h
end Calls9
/-- one answer, one store -/
def ans (v : Option AV) (S1 : St) : Option AV → St → Prop := fun r S' => r = v ∧ S' = S1
section Calls10
variable {l : Launch} {B : List Sh} {R : Room} {y z : Mt} {Zf : ZF} {kc ks pc i t n : Nat} {d : Nat × Nat} {lv : List (Option AV)} {st as rest : List AV} {S S1 : St} {v : AV}
theorem e_callV1 {o ci : Nat} {fl : List (Option Nat)} (hz : okM z) (hd : cAt y.2.2.2.2.1 pc = some (.invokevirtual i, 3, t)) (hl : lkV y.1.cls i z n) (hB : B[o]? = some (.inl (ci, fl))) (hci : (classes[ci]?).map (fun r => r.1) = some z.1.cls)
    (hK : KK l B d z (aR o :: as) S (ans (some v) S1)) (hlen : as.length = n) (hst : st = as.reverse ++ aR o :: rest) (hR : d.1 + 1 ≤ R.frames ∧ 8 + (z.2.2.1 + 11) + d.2 ≤ R.locals) (hc : kc ≤ R.cells ∧ ks ≤ R.slots) (hrest : (rest.map av_c).sum ≤ 8)
    (kk : EE l B R y Zf kc ks (pc + 3) lv (v :: rest) S1) : EE l B R y Zf kc ks pc lv st S := e_callV hz hd hl hB hci hK hlen hst hR hc hrest (fun r S' h => by obtain ⟨rfl, rfl⟩ := h; exact kk)
theorem e_callV0 {o ci : Nat} {fl : List (Option Nat)} (hz : okM z) (hd : cAt y.2.2.2.2.1 pc = some (.invokevirtual i, 3, t)) (hl : lkV y.1.cls i z n) (hB : B[o]? = some (.inl (ci, fl))) (hci : (classes[ci]?).map (fun r => r.1) = some z.1.cls)
    (hK : KK l B d z (aR o :: as) S (ans none S1)) (hlen : as.length = n) (hst : st = as.reverse ++ aR o :: rest) (hR : d.1 + 1 ≤ R.frames ∧ 8 + (z.2.2.1 + 11) + d.2 ≤ R.locals) (hc : kc ≤ R.cells ∧ ks ≤ R.slots) (hrest : (rest.map av_c).sum ≤ 8)
    (kk : EE l B R y Zf kc ks (pc + 3) lv rest S1) : EE l B R y Zf kc ks pc lv st S := e_callV hz hd hl hB hci hK hlen hst hR hc hrest (fun r S' h => by obtain ⟨rfl, rfl⟩ := h; exact kk)
theorem e_callW1 {o ci : Nat} {fl : List (Option Nat)} (hz : okM z) (hd : cAt y.2.2.2.2.1 pc = some (.invokevirtual i, 3, t)) (hl : lkW y.1.cls i z n) (hB : B[o]? = some (.inl (ci, fl))) (hci : (classes[ci]?).map (fun r => r.1) = some z.1.cls)
    (hK : KK l B d z (aR o :: as) S (ans (some v) S1)) (hlen : as.length = n) (hst : st = as.reverse ++ aR o :: rest) (hR : d.1 + 1 ≤ R.frames ∧ 8 + (z.2.2.1 + 11) + d.2 ≤ R.locals) (hc : kc ≤ R.cells ∧ ks ≤ R.slots) (hrest : (rest.map av_c).sum ≤ 8)
    (kk : EE l B R y Zf kc ks (pc + 3) lv (v :: rest) S1) : EE l B R y Zf kc ks pc lv st S := e_callW hz hd hl hB hci hK hlen hst hR hc hrest (fun r S' h => by obtain ⟨rfl, rfl⟩ := h; exact kk)
theorem e_callW0 {o ci : Nat} {fl : List (Option Nat)} (hz : okM z) (hd : cAt y.2.2.2.2.1 pc = some (.invokevirtual i, 3, t)) (hl : lkW y.1.cls i z n) (hB : B[o]? = some (.inl (ci, fl))) (hci : (classes[ci]?).map (fun r => r.1) = some z.1.cls)
    (hK : KK l B d z (aR o :: as) S (ans none S1)) (hlen : as.length = n) (hst : st = as.reverse ++ aR o :: rest) (hR : d.1 + 1 ≤ R.frames ∧ 8 + (z.2.2.1 + 11) + d.2 ≤ R.locals) (hc : kc ≤ R.cells ∧ ks ≤ R.slots) (hrest : (rest.map av_c).sum ≤ 8)
    (kk : EE l B R y Zf kc ks (pc + 3) lv rest S1) : EE l B R y Zf kc ks pc lv st S := e_callW hz hd hl hB hci hK hlen hst hR hc hrest (fun r S' h => by obtain ⟨rfl, rfl⟩ := h; exact kk)
theorem e_callS1 (hz : okM z) (hd : cAt y.2.2.2.2.1 pc = some (.invokestatic i, 3, t)) (hl : lkS y.1.cls i z n)
    (hK : KK l B d z as S (ans (some v) S1)) (hlen : as.length = n) (hst : st = as.reverse ++ rest) (hR : d.1 + 1 ≤ R.frames ∧ 8 + (z.2.2.1 + 11) + d.2 ≤ R.locals) (hc : kc ≤ R.cells ∧ ks ≤ R.slots) (hrest : (rest.map av_c).sum ≤ 8)
    (kk : EE l B R y Zf kc ks (pc + 3) lv (v :: rest) S1) : EE l B R y Zf kc ks pc lv st S := e_callS hz hd hl hK hlen hst hR hc hrest (fun r S' h => by obtain ⟨rfl, rfl⟩ := h; exact kk)
theorem e_callS0 (hz : okM z) (hd : cAt y.2.2.2.2.1 pc = some (.invokestatic i, 3, t)) (hl : lkS y.1.cls i z n)
    (hK : KK l B d z as S (ans none S1)) (hlen : as.length = n) (hst : st = as.reverse ++ rest) (hR : d.1 + 1 ≤ R.frames ∧ 8 + (z.2.2.1 + 11) + d.2 ≤ R.locals) (hc : kc ≤ R.cells ∧ ks ≤ R.slots) (hrest : (rest.map av_c).sum ≤ 8)
    (kk : EE l B R y Zf kc ks (pc + 3) lv rest S1) : EE l B R y Zf kc ks pc lv st S := e_callS hz hd hl hK hlen hst hR hc hrest (fun r S' h => by obtain ⟨rfl, rfl⟩ := h; exact kk)
theorem e_callN1 (hz : okM z) (hd : cAt y.2.2.2.2.1 pc = some (.invokestatic i, 3, t)) (hl : lkN y.1.cls i z n)
    (hK : KK l B d z as S (ans (some v) S1)) (hlen : as.length = n) (hst : st = as.reverse ++ rest) (hR : d.1 + 1 ≤ R.frames ∧ 8 + (z.2.2.1 + 11) + d.2 ≤ R.locals) (hc : kc ≤ R.cells ∧ ks ≤ R.slots) (hrest : (rest.map av_c).sum ≤ 8)
    (kk : EE l B R y Zf kc ks (pc + 3) lv (v :: rest) S1) : EE l B R y Zf kc ks pc lv st S := e_callN hz hd hl hK hlen hst hR hc hrest (fun r S' h => by obtain ⟨rfl, rfl⟩ := h; exact kk)
theorem e_callN0 (hz : okM z) (hd : cAt y.2.2.2.2.1 pc = some (.invokestatic i, 3, t)) (hl : lkN y.1.cls i z n)
    (hK : KK l B d z as S (ans none S1)) (hlen : as.length = n) (hst : st = as.reverse ++ rest) (hR : d.1 + 1 ≤ R.frames ∧ 8 + (z.2.2.1 + 11) + d.2 ≤ R.locals) (hc : kc ≤ R.cells ∧ ks ≤ R.slots) (hrest : (rest.map av_c).sum ≤ 8)
    (kk : EE l B R y Zf kc ks (pc + 3) lv rest S1) : EE l B R y Zf kc ks pc lv st S := e_callN hz hd hl hK hlen hst hR hc hrest (fun r S' h => by obtain ⟨rfl, rfl⟩ := h; exact kk)
end Calls10
