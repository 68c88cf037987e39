/-! a method that catches -/
def wsW (z : Mt) (hh : List (Nat × Nat × Nat × Nat)) : List Jvm.Cond := .codeWith z.1 z.2.1 z.2.2.1 z.2.2.2.1 hh :: gw
def zW (y : Mt) (Q : Option AV → St → Prop) : ZF := fun below args s sh ad D cA t => tF y s (aA sh.length ad s.heap.size) → zR Q 1 6 below args s sh ad D cA t
def KW (l : Launch) (B : List Sh) (d : Nat × Nat) (z : Mt) (hh : List (Nat × Nat × Nat × Nat)) (av : List AV) (S : St) (Q : Option AV → St → Prop) : Prop :=
  ∀ (sh : List Sh) (ad : Nat → Nat) (D : va_G) (cA : FieldType → ClassId) (sz : Nat), (∃ sh', sh = B ++ sh') → (∀ i j, i < sh.length → j < sh.length → ad i = ad j → i = j) →
    Met l z.1 (wsW z hh) (rmT d) (PcT av S sh ad D cA sz) (QcA Q sh ad D cA) 1 6 (aA sh.length ad sz)
theorem ee_mono {l : Launch} {B : List Sh} {R : Room} {y : Mt} {Z1 Z2 : ZF} {kc ks pc : Nat} {lv : List (Option AV)} {st : List AV} {S : St} (h : ∀ below args s sh ad D cA t, Z1 below args s sh ad D cA t → Z2 below args s sh ad D cA t) (k : EE l B R y Z1 kc ks pc lv st S) : EE l B R y Z2 kc ks pc lv st S := by
  intro p e s m args below meth c sh ad D cA H locs ls C hP hS hl T hT X
  obtain ⟨t, a, b⟩ := k p e s m args below meth c sh ad D cA H locs ls C hP hS hl T hT X
  exact ⟨t, a, h _ _ _ _ _ _ _ _ b⟩
theorem k_startW {l : Launch} {B : List Sh} {d : Nat × Nat} {z : Mt} {hh : List (Nat × Nat × Nat × Nat)} {av : List AV} {S : St} {Q : Option AV → St → Prop} (hz : okD z) (hy : plainName z.1.cls = true) (hn : (lvArgs av).length ≤ z.2.2.1) (he : EE l B (rmT d) z (zW z Q) 0 0 0 (lvIn av z.2.2.1) [] S) : KW l B d z hh av S Q := by
  intro sh ad D cA sz hB hi
  refine va_MetW (cc := z.2.1) (maxL := z.2.2.1) (ret := z.2.2.2.1) (hh := hh) hy rfl ?_
  intro p e s m args below meth c s₁ Bd hml hv
  obtain ⟨rfl, hsz, hP, hK, hno, hto⟩ := hv
  subst hsz
  rw [lg_entry_eq]
  have hts0 := atoms_spec (ws := wsW z hh) Bd.pre
  have h := he p e s m _ below meth c sh ad D cA s.heap [] _ ⟨Bd.exec, Bd.bytes, Bd.returns, hml, findClass_of_methodNamed Bd.named, fun w hw => hts0 w (List.mem_cons_of_mem _ hw), Bd.notSynchronized, hno, hK, hz, hB, hi⟩ hP va_S.rf (lh_entry ad av hn)
  intro T hT X
  obtain ⟨t, a, b⟩ := h T hT X
  exact ⟨t, a, b ⟨⟨m, _, below, Bd.frames, Bd.named⟩, hto⟩⟩
theorem pcT_blind {av : List AV} {S : St} {sh : List Sh} {ad : Nat → Nat} {D : va_G} {cA : FieldType → ClassId} {sz : Nat} : FrameBlind (PcT av S sh ad D cA sz) := by
  intro a U g mk q
  obtain ⟨q0, q1, q2, q3, q4, q5⟩ := q
  exact ⟨q0, q1, q2, va_K.moved (u := U) (U := U.calling g mk a) (Vm.Alike.refl U.vm) q3, nOK.vm (s := U) (U := U.calling g mk a) rfl q4, tOK.to (s := U) (U := U.calling g mk a) (State.WarmedH.refl U) (fun _ _ _ => rfl) (fun _ h => h) q5⟩
theorem aA_mono {n : Nat} {ad : Nat → Nat} {a b : Nat} (h : a ≤ b) : ∀ q, aA n ad b q → aA n ad a q := fun q hq => by
  rcases hq with h1 | h1
  · exact Or.inl h1
  · exact Or.inr (Nat.le_trans h h1)
theorem pcT_pre {B : List Sh} {y : Mt} {p : Program} {s : State} {m : MethodId} {args : Array Value} {meth : Method} {c : Code} {sh : List Sh} {ad : Nat → Nat} {D : va_G} {cA : FieldType → ClassId} {H : Heap} {S : St} {locs : List Loc} (C : Cx B y p s m args meth c sh ad D cA) (hP : va_P D classes (wdA ad cA S sh) H) (hS : va_S (aA sh.length ad s.heap.size) s.heap H locs) (hto : tOK (aA sh.length ad s.heap.size) s) (as : List AV) : ∀ U : State, U.heap = H → s.WarmedH U.vm → PcT as S sh ad D cA H.size (as.map (av_V ad)).toArray U := by
  intro U hU hW
  obtain ⟨hx, hb, hr, hml, hown, hts, hlk, hn, hK, hok, hsh, hi⟩ := id C
  exact ⟨rfl, by rw [hU], by rw [hU]; exact hP, va_K.moved hW.alike hK, hn.warm hW, hto.to hW (fun q h1 h2 => by rw [hU]; exact hS.2.1 q h1 h2) (aA_mono hS.1)⟩
/-- the row of a table of handlers that catches an X, the rows ahead of it passed -/
def catches (own X : String) (pc : Nat) (hp : Nat) : List (Nat × Nat × Nat × Nat) → Prop
  | [] => False
  | (a, b, h, ct) :: r => (a ≤ pc ∧ pc < b ∧ ct ≠ 0) ∧ ((h = hp ∧ Jvm.Cond.classLink own ct X ∈ gw ∧ Jvm.Cond.castable X X ∈ xW) ∨ ((∃ N, Jvm.Cond.classLink own ct N ∈ gw ∧ (X, N) ∈ nots) ∧ catches own X pc hp r))
theorem rows_split {own X : String} {pc hp : Nat} {p : Program} {l : Launch} {e : Env} {R : Room} {s T : State} {m : MethodId} {args : Array Value} {below : List Frame} {meth : Method} {c : Code} {locs : List Loc} {kc ks : Nat} {A : Nat → Prop} {cX : ClassId}
    (X0 : Stand p l e R s m args below meth c T locs kc ks) (hown : s.vm.findClass own = some m.cls) (hts : ∀ w ∈ gw, w.before args s = true) (hto : tOK A s) (hcX : s.vm.findClass X = some cX) :
    ∀ (es : List ExceptionTableEntry), catches own X pc hp (es.map (fun h => (h.startPc, h.endPc, h.handlerPc, h.catchType))) →
      ∃ pre x rest, es = pre ++ x :: rest ∧ (∀ y ∈ pre, RowPassed e.platform s m.cls pc cX y) ∧ covers x pc = true ∧ RowCatches e.platform s m.cls cX x ∧ x.handlerPc = hp ∧ ∃ k, s.vm.classes[cX]? = some k
  | [], h => h.elim
  | x :: r, h => by
    obtain ⟨⟨h1, h2, h3⟩, h4⟩ := h
    have hpl : e.platform.magicAccessors = ({} : Platform).magicAccessors := by rw [X0.admits.platform]
    have hcov : covers x pc = true := by simp only [covers, Bool.and_eq_true, decide_eq_true_eq]; exact ⟨h1, h2⟩
    rcases h4 with ⟨g1, g2, g3⟩ | ⟨⟨N, g1, g2⟩, g3⟩
    · have hcast : (Jvm.Cond.castable X X).before args s = true := face_to (s := s) rfl (Vm.Alike.refl s.vm) (hto.2.2.2.2.2.1 _ g3)
      obtain ⟨c3, c4, hc3, hc4, hasg⟩ := Cond.castable_spec hcast
      cases hc3.symm.trans hcX
      cases hc4.symm.trans hcX
      obtain ⟨k1, k2⟩ := X0.catches_of_link hown h3 (hts _ g2) hcX hasg
      exact ⟨[], x, r, rfl, (fun y hy => by cases hy), hcov, k1, g1, k2⟩
    · obtain ⟨pre, z, rest, e1, e2, e3, e4, e5, e6⟩ := rows_split X0 hown hts hto hcX r g3
      refine ⟨x :: pre, z, rest, by rw [e1]; rfl, fun y hy => ?_, e3, e4, e5, e6⟩
      rcases List.mem_cons.mp hy with rfl | hy
      · exact RowPassed.of_words hpl hown h3 (hts _ g1) hcX (hto.2.2.2.2.2.2 _ g2).w
      · exact e2 y hy
def wA (i : Instr) : Nat := match i with
  | .astore _ => 2
  | _ => 1
theorem e_catch {l : Launch} {B : List Sh} {d d' : Nat × Nat} {y z : Mt} {hh : List (Nat × Nat × Nat × Nat)} {pc i t n o ci hp wi9 t1 t2 t3 k9 : Nat} {n9 : Int} {v : Int32} {fl : List (Option Nat)} {lv : List (Option AV)} {st as rest : List AV} {S : St} {Q : Option AV → St → Prop} {X : String} {ia : Instr}
    (hz : okM z) (hd : cAt y.2.2.2.2.1 pc = some (.invokevirtual i, 3, t)) (hl : lkV y.1.cls i z n) (hB : B[o]? = some (.inl (ci, fl))) (hci : (classes[ci]?).map (fun r => r.1) = some z.1.cls)
    (hK : KX l B d' z (aR o :: as) S X) (hlen : as.length = n) (hst : st = as.reverse ++ aR o :: rest) (hR : d'.1 + 1 ≤ d.1 ∧ 8 + (z.2.2.1 + 11) + d'.2 ≤ d.2) (hrest : (rest.map av_c).sum ≤ 8)
    (hcw : Jvm.Cond.codeWith y.1 y.2.1 y.2.2.1 y.2.2.2.1 hh ∈ gw) (hca : catches y.1.cls X pc hp hh)
    (ha : cAt y.2.2.2.2.1 hp = some (ia, wi9, t1)) (hia : ia = .astore k9 ∨ ∃ f : Fin 4, ia = .astore_n f ∧ (f : Nat) = k9) (hw9 : wi9 = wA ia) (hk9 : k9 < y.2.2.1)
    (hc : cAt y.2.2.2.2.1 (hp + wi9) = some (.iconst n9, 1, t2)) (hv : Int32.ofInt n9 = v) (hr9 : cAt y.2.2.2.2.1 (hp + wi9 + 1) = some (.ireturn, 1, t3)) (hrt : y.2.2.2.1 = some .int) (hq : Q (some (aI v)) S) :
    EE l B (rmT d) y (zW y Q) 0 0 pc lv st S := by
  subst hst
  intro p e s m args below meth c sh ad D cA H locs ls C hP hS hlh
  obtain ⟨hx, hb, hr, hml, hown, hts, hlk, hn, hKw, hok, hsh, hi⟩ := id C
  obtain ⟨w1, w2, w3, w4, w5⟩ := hl
  obtain ⟨rc, hrc, hrn⟩ := Option.map_eq_some_iff.mp hci
  have hM := hK sh ad D cA H.size hsh hi
  intro T hT X0
  by_cases hF : tF y s (aA sh.length ad s.heap.size)
  case neg => exact ⟨_, Steps.refl _, fun h => absurd h hF⟩
  obtain ⟨⟨m', a', b', hfr, hnm⟩, hto⟩ := id hF
  have hm : m' = m := by
    have h9 := X0.frames.symm.trans hfr
    simp only [List.cons.injEq, Frame.invoking.injEq] at h9
    exact h9.1.1.symm
  subst hm
  obtain ⟨m9, meth', c', hn9, hm1, hc1, -, -, htab, -⟩ := Cond.codeWith_spec (hts _ hcw)
  cases hnm.symm.trans hn9
  cases X0.method.symm.trans hm1
  cases X0.code.symm.trans hc1
  have hpay := pay_in hts (gw_wsM hz)
  have hcodeZ : Jvm.Cond.code z.1 z.2.1 z.2.2.1 z.2.2.2.1 ∈ wsM z := List.mem_cons_self
  have hBT : BackT l (rmT d) p e below s args z.1 3 8 (fun A a => A.cells + 1 ≤ 1 ∧ A.slots + 6 ≤ 6 ∧ PcT (aR o :: as) S sh ad D cA H.size a A.U)
      (fun A a x Bp => ∃ (g : JFrame) (mk : MethodId) (t : State) (L : List Loc), Bp.U.heap = t.heap ∧ Bp.U.vm = t.vm ∧ QcT X S sh ad D cA a (A.U.calling g mk a) (.threw x) t ∧ Bp.locs = A.locs ++ L ∧ (∀ q ∈ L, aA sh.length ad H.size q.base) ∧ Bp.cells = A.cells + 1 ∧ Bp.slots = A.slots + 6) := by
    refine BackT.of_free (bytes := z.2.1) (maxL := z.2.2.1) (ret := z.2.2.2.1) (E := fun a st o t L k n => k = 1 ∧ n = 6 ∧ ∀ q ∈ L, aA sh.length ad H.size q.base) hM hR.1 hR.2 ?_ ?_ (fun _ _ _ _ _ _ _ _ _ => trivial) ?_ ?_
    · intro m meth c A a XA hp
      exact ⟨atoms_intro fun w hw => hpay w hw _ _ XA.warmed, hpay _ hcodeZ _ _ XA.warmed, word_at XA.warmed (gw_good (gw_in w4 rfl)).2 (hts _ (gw_in w4 rfl)), hp.1, hp.2.1⟩
    · intro m meth c A a g mk XA hp
      exact pcT_blind _ _ _ _ hp.2.2
    · intro a st o t ⟨hq, L, hF, hL⟩
      exact ⟨L, 1, 6, hF, rfl, rfl, hL⟩
    · intro m meth c A a g mk v t L k n XA hp hq hF ⟨e1, e2, hL⟩
      subst e1; subst e2
      exact ⟨g, mk, t, L, rfl, rfl, hq.1, rfl, hL, rfl, rfl⟩
  obtain ⟨cellB, hcB, hoB, hclB⟩ := va_recv hKw hP hrc (wd_at (sh_pre hsh hB))
  rw [hrn] at hclB
  obtain ⟨mk, methM, hnamed, hmethM, hstM, habM⟩ := Cond.instanceMethod_spec (hts _ (gw_in w2 rfl))
  obtain ⟨methM', cM, hmethM', -, -, -, -, -, -, hsigM⟩ := Cond.code_spec hnamed (hts _ hz.2.2.1)
  cases hmethM.symm.trans hmethM'
  obtain ⟨c2, r2, m2, q1, q2, q3, q4, kP, hkP, hkPi⟩ := Cond.selects_spec (hts _ (gw_in w3 rfl))
  cases hclB.symm.trans q1
  cases (State.methodFound?_of_named hnamed ⟨w5.1, w5.2.1⟩).symm.trans q2
  cases hnamed.symm.trans q3
  have hselP : selectMethod e.platform s.vm cellB.cls mk = .method mk := by rw [Launch.admits_selectMethod X0.admits]; exact q4
  have hlenA : (as.map (av_V ad)).length = methM.sig.parameters.length := by
    have h2 := w5.2.2
    rw [hsigM] at h2
    rw [List.length_map, hlen]
    exact (Option.some.inj h2).symm
  rw [map_rev, List.map_cons]
  obtain ⟨vm₁, X₁, hstep₁⟩ := X0.invokevirtual hx hown (hts _ (gw_in w1 rfl)) hnamed hmethM hstM hkP hkPi ⟨w5.1, w5.2.1⟩ (a := ad o) (cell := cellB) (by rw [hT]; exact hcB)
    (fun z h => by rw [h] at hoB; cases hoB) hselP hmethM habM hkP hkPi (g := F0 m' pc ls ((as.map (av_V ad)).reverse ++ .ref (ad o) :: rest.map (av_V ad))) rfl (argsL := as.map (av_V ad)) (rest := rest.map (av_V ad)) hlenA rfl (by rw [hb]; exact (okM_c hok hd).1)
  obtain ⟨x, ⟨U', l2, c2', s2'⟩, X', ⟨g', mk', t', L, e1, e2, hqT, e3, hL, e4, e5⟩, hsteps⟩ := hBT m' meth c ⟨T.setVm vm₁, locs, 0, 0⟩ (F0 m' pc ls (rest.map (av_V ad))) (.invokevirtual i) mk (Value.ref (ad o) :: as.map (av_V ad)).toArray X₁ rfl (by rw [hml]; exact hlh.1) (by rw [hb]; exact (okM_c hok hd).1) (by rw [← av_cats ad] at hrest; show 2 * 0 + _ ≤ 8; simpa using hrest) (X₁.named hnamed) ⟨Nat.le_refl _, Nat.le_refl _, pcT_pre C hP hS hto (aR o :: as) _ hT X₁.warmed⟩
  dsimp only [Pt.U, Pt.locs, Pt.cells, Pt.slots] at X' e1 e2 e3 e4 e5 hsteps
  subst e3 e4 e5
  obtain ⟨x', hx', hxs, ⟨cell, hcell, hcX, hcvm⟩, hP', hK', hF'⟩ := hqT
  cases hx'
  have hcX' : s.vm.findClass X = some cell.cls := by
    have h9 : (T.setVm vm₁).vm.findClass X = some cell.cls := hcX
    rw [X₁.warmed.alike.findClass] at h9
    exact h9
  have hcell' : U'.heap[x]? = some cell := by rw [e1]; exact hcell
  obtain ⟨pre, xr, rs, g1, g2, g3, g4, g5, g6⟩ := rows_split X' hown hts hto hcX' c.exceptionTable.toList (by rw [htab]; exact hca)
  have hcome : Steps p.tables e below (T.setTop (F0 m' pc ls ((as.map (av_V ad)).reverse ++ .ref (ad o) :: rest.map (av_V ad)))) ((U'.setTop (F0 m' pc ls (rest.map (av_V ad)))).pushFrame (.throwing x)) := hstep₁ _ fun acts => by rw [doInvoke_state]; exact hsteps
  obtain ⟨vm', XV, hcaught⟩ := X'.thenCaughtThrough x rfl hcome hcell' (by rw [hcvm]; rfl) g6 pre xr rs g1 g2 g3 g4
  rw [g5] at hcaught
  have hS2 : va_S (aA sh.length ad s.heap.size) s.heap U'.heap (locs ++ L) := by
    have hh : ((T.setVm vm₁).calling g' mk' (Value.ref (ad o) :: as.map (av_V ad)).toArray).heap = H := hT
    refine ⟨?_, fun q h1 h2 => ?_, fun q hq => ?_⟩
    · rw [e1]
      refine Nat.le_trans hS.1 ?_
      have := hF'.1
      rw [hh] at this
      exact this
    · have h3 := hF'.2 q (by rw [hh]; exact Nat.lt_of_lt_of_le h1 hS.1) (fun z => h2 (aA_mono hS.1 q (by rw [hh] at z; exact z)))
      rw [hh] at h3
      rw [e1, h3]
      exact hS.2.1 q h1 h2
    · rcases List.mem_append.mp hq with h | h
      · exact hS.2.2 q h
      · exact aA_mono hS.1 _ (hL q h)
  have hfin : W p l e (rmT d) s m' args below meth c U'.heap (locs ++ L) (0 + 1) (0 + 6) (zR Q 1 6 below args s sh ad D cA) (F0 m' hp ls [.ref x]) := by
    have key : ∀ ls' : Array Slot, W p l e (rmT d) s m' args below meth c U'.heap (locs ++ L) (0 + 1) (0 + 6) (zR Q 1 6 below args s sh ad D cA) (F0 m' (hp + wi9) ls' []) := fun ls' => by
      refine lv_iconst hx hb (okM_c hok hc).1 hv ?_
      exact W.iret hx hb (hr.trans hrt) (fun t ht hW => ⟨⟨some (aI v), S, rfl, hq, by rw [ht, e1]; exact hP', va_K.moved hW.alike hKw⟩, hS2.F ht⟩) hS2.2.2 (okM_c hok hr9).1
    rcases hia with rfl | ⟨f, rfl, hf⟩
    · subst hw9
      exact lv_astore hx hb (okM_c hok ha).1 (lh_has hlh) hk9 rfl (fun ls' _ => key ls')
    · subst hw9
      exact lv_astore_n hx hb (okM_c hok ha).1 hf (lh_has hlh) hk9 rfl (fun ls' _ => key ls')
  obtain ⟨t9, a9, b9⟩ := hfin (U'.setVm vm') rfl XV
  exact ⟨t9, hcaught.trans a9, fun _ => b9⟩
