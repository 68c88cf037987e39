/-! a method that throws: its contract, its beginning, the throw itself, the catch of it -/
def xUp : List String := ["java/lang/RuntimeException", "java/lang/Exception"]
def xOwn : String := "HalftoneRegions"
def xIA : String := "java/lang/IllegalArgumentException"
def xIB : String := "java/lang/IndexOutOfBoundsException"
def xUO : String := "java/lang/UnsupportedOperationException"
def stW1 : Jvm.Cond := .isRef (.static Bundle.tN "UNASSIGNED_STACK" Bundle.steD)
def stW2 : Jvm.Cond := .isRef (.static Bundle.tN "SUPPRESSED_SENTINEL" Bundle.listD)
def strs : List (Nat × String) := [(89, "a pattern's width and height are 1 to 8"), (94, "there are 1 to 64 patterns"), (107, "a side is 1 to 7"), (121, "no such cell"), (130, "there are 1 to 16 columns and rows"), (134, "gx and gy are -65536 to 65536"), (136, "dx and dy are -4096 to 4096"), (138, "dx and dy are both 0"), (152, "no such place"), (154, "an axis is 0 or 1"), (169, "no such pattern"), (177, "a way is 0 to 2"), (179, "no such way"), (184, "no such row"), (218, "no such sample"), (245, "no such byte"), (250, "a byte is 0 to 255"), (257, "no room for a byte"), (266, "no room for these bytes"), (292, "no such context"), (294, "a context tells 0 or 1")]
def lyW1 : Jvm.Cond := .laysStatic Bundle.tN "UNASSIGNED_STACK" Bundle.steD
def lyW2 : Jvm.Cond := .laysStatic Bundle.tN "SUPPRESSED_SENTINEL" Bundle.listD
def faceWord (w : Jvm.Cond) : Bool := match w with
  | .declares .. => true
  | .castable .. => true
  | _ => false
def xW : List Jvm.Cond := lw_tbl.filter faceWord
/-- what the throw of a new X wants of the tables -/
def xOK (X : String) (ic : Nat) : Prop := (Bundle.ownAtoms xOwn ic X xUp).all (fun w => decide (w ∈ gw) || (decide (w ∈ xW) || (decide (w = stW1) || (decide (w = stW2) || (decide (w = lyW1) || decide (w = lyW2)))))) = true ∧ Bundle.fit X = true ∧ Jvm.Cond.initialized X ∈ gw ∧ Jvm.Cond.instantiable X 6 ∈ gw
set_option maxRecDepth 100000 in
theorem xok_IA : xOK xIA 91 := ⟨by decide +kernel, by decide +kernel, gw_in (by decide +kernel) rfl, gw_in (by decide +kernel) rfl⟩
set_option maxRecDepth 100000 in
theorem xok_IB : xOK xIB 123 := ⟨by decide +kernel, by decide +kernel, gw_in (by decide +kernel) rfl, gw_in (by decide +kernel) rfl⟩
set_option maxRecDepth 100000 in
theorem xok_UO : xOK xUO 259 := ⟨by decide +kernel, by decide +kernel, gw_in (by decide +kernel) rfl, gw_in (by decide +kernel) rfl⟩
def rmT (d : Nat × Nat) : Room := { frames := d.1, cells := 1, slots := 6, locals := d.2 }
/-- a static field that is laid, its cell outside A -/
def zL (C n d : String) (A : Nat → Prop) (U : State) : Prop := ∃ (c : ClassId) (k : Class) (i : Nat) (f : Field) (a : Nat) (cell : Cell), U.vm.findClass C = some c ∧ U.fieldFound? C n d = some (c, k, i, f) ∧ f.isStatic = true ∧ k.statics = some a ∧ U.heap[a]? = some cell ∧ cell.vm.isStatics = true ∧ cell.cls = c ∧ f.slot < cell.slots.size ∧ k.staticTypes[f.slot]? = some f.type ∧ ¬ A a
theorem zL.to {C n d : String} {A A' : Nat → Prop} {s U : State} (hvm : s.vm.Alike U.vm) (hk : ∀ q : Nat, q < s.heap.size → ¬ A q → U.heap[q]? = s.heap[q]?) (hA : ∀ q, A' q → A q) (h : zL C n d A s) : zL C n d A' U := by
  obtain ⟨c, k, i, f, a, cell, h1, h2, h3, h4, h5, h6, h7, h8, h9, h10⟩ := h
  obtain ⟨k', hi', he⟩ := State.fieldFound?_setVm hvm h2
  exact ⟨c, k', i, f, a, cell, by rw [hvm.findClass]; exact h1, hi', h3, by rw [he]; exact h4, by rw [hk a (Array.getElem?_eq_some_iff.mp h5).1 h10]; exact h5, h6, h7, h8, by rw [he]; exact h9, fun z => h10 (hA a z)⟩
theorem zL.w {C n d : String} {A : Nat → Prop} {s : State} {args : Array Value} (h : zL C n d A s) : (Jvm.Cond.laysStatic C n d).before args s = true := by
  obtain ⟨c, k, i, f, a, cell, h1, h2, h3, h4, h5, h6, h7, h8, h9, h10⟩ := h
  simp [Cond.before, Cond.holds, Cond.value, h1, h2, h3, h4, h5, h6, h7, h8, h9]
theorem zL.of {C n d : String} {A : Nat → Prop} {s : State} {args : Array Value} (h : (Jvm.Cond.laysStatic C n d).before args s = true) (hA : ∀ a : Nat, a < s.heap.size → ¬ A a) : zL C n d A s := by
  obtain ⟨c, k, i, f, a, cell, h1, h2, h3, h4, h5, h6, h7, h8, h9⟩ := Cond.laysStatic_spec h
  exact ⟨c, k, i, f, a, cell, h1, h2, h3, h4, h5, h6, h7, h8, h9, hA a (Array.getElem?_eq_some_iff.mp h5).1⟩
theorem face_on {w : Jvm.Cond} (hw : faceWord w = true) : w.onTables = true ∧ w.faceAtom = true := by
  cases w <;> first | exact ⟨rfl, rfl⟩ | (exact absurd hw (by decide)) | (simp [faceWord] at hw)
theorem face_to {w : Jvm.Cond} (hw : faceWord w = true) {s U : State} {A A' : Array Value} (hvm : s.vm.Alike U.vm) (h : w.before A s = true) : w.before A' U = true := by
  obtain ⟨h1, h2⟩ := face_on hw
  have h3 := Cond.faceAtom_setVm hvm w h2 h
  have e := Cond.onTables_vm (A := A) (A' := A') (U := s) (U' := U) U.vm w h1
  have hU : U.setVm U.vm = U := rfl
  rw [hU] at e
  rw [← e]
  exact h3
/-- a class that is no kind of another -/
def noCast (a b : String) (U : State) : Prop := ∃ ca cb, U.vm.findClass a = some ca ∧ U.vm.findClass b = some cb ∧ U.vm.assignable ca cb = false
theorem noCast.to {a b : String} {s U : State} (hvm : s.vm.Alike U.vm) (h : noCast a b s) : noCast a b U := by
  obtain ⟨ca, cb, h1, h2, h3⟩ := h
  exact ⟨ca, cb, by rw [hvm.findClass]; exact h1, by rw [hvm.findClass]; exact h2, by rw [hvm.assignable]; exact h3⟩
theorem noCast.w {a b : String} {s : State} {args : Array Value} (h : noCast a b s) : (Jvm.Cond.not (.castable a b)).before args s = true := by
  obtain ⟨ca, cb, h1, h2, h3⟩ := h
  simp [Cond.before, Cond.holds, Cond.value, h1, h2, h3]
def nots : List (String × String) := [(xIA, xIB), (xUO, xIA)]
/-- what a state must have for a throw: two statics of Throwable, the texts, words of the tables that are no good words -/
def tOK (A : Nat → Prop) (U : State) : Prop := va_Zq Bundle.tN "UNASSIGNED_STACK" Bundle.steD A U U.heap ∧ va_Zq Bundle.tN "SUPPRESSED_SENTINEL" Bundle.listD A U U.heap ∧ (∀ q ∈ strs, ∃ a, vk_R xOwn q.1 q.2 a U) ∧ zL Bundle.tN "UNASSIGNED_STACK" Bundle.steD A U ∧ zL Bundle.tN "SUPPRESSED_SENTINEL" Bundle.listD A U ∧ (∀ w ∈ xW, w.before #[] U = true) ∧ ∀ q ∈ nots, noCast q.1 q.2 U
theorem tOK.to {A A' : Nat → Prop} {s U : State} (hW : s.WarmedH U.vm) (hk : ∀ q : Nat, q < s.heap.size → ¬ A q → U.heap[q]? = s.heap[q]?) (hA : ∀ q, A' q → A q) (h : tOK A s) : tOK A' U :=
  ⟨((h.1.kept hk).moved hW.alike).narrow hA, ((h.2.1.kept hk).moved hW.alike).narrow hA, fun q hq => by
    obtain ⟨a, ha⟩ := h.2.2.1 q hq
    exact ⟨a, ha.warm hW⟩, h.2.2.2.1.to hW.alike hk hA, h.2.2.2.2.1.to hW.alike hk hA, fun w hw => face_to (List.mem_filter.mp hw).2 hW.alike (h.2.2.2.2.2.1 w hw), fun q hq => (h.2.2.2.2.2.2 q hq).to hW.alike⟩
theorem zq_ref {C n d : String} {A : Nat → Prop} {s : State} {args : Array Value} (h : va_Zq C n d A s s.heap) : (Jvm.Cond.isRef (.static C n d)).before args s = true := by
  rcases h with h | ⟨t, h⟩
  · obtain ⟨cf, kf, fi, f, a, cell, h1, h2, h3, h4, h5, h6, h7, h8⟩ := h
    simp [Cond.before, Cond.holds, Cond.value, Term.eval, State.fieldNamed?, h1, h2, h4, h5, h6, h7]
  · obtain ⟨cf, kf, fi, f, a, cell, h1, h2, h3, h4, h5, h6, h7, h8⟩ := h
    simp [Cond.before, Cond.holds, Cond.value, Term.eval, State.fieldNamed?, h1, h2, h4, h5, h6, h7]
theorem own_at {X : String} {ic : Nat} {A : Nat → Prop} {s : State} {args : Array Value} (hX : xOK X ic) (hts : ∀ w ∈ gw, w.before args s = true) (hF : tOK A s) : ∀ w ∈ Bundle.ownAtoms xOwn ic X xUp, w.before args s = true := by
  intro w hw
  have h := List.all_eq_true.mp hX.1 w hw
  simp only [Bool.or_eq_true, decide_eq_true_eq] at h
  rcases h with h | h | h | h | h | h
  · exact hts w h
  · exact face_to (s := s) (List.mem_filter.mp h).2 (Vm.Alike.refl s.vm) (hF.2.2.2.2.2.1 w h)
  · rw [h]; exact zq_ref hF.1
  · rw [h]; exact zq_ref hF.2.1
  · rw [h]; exact hF.2.2.2.1.w
  · rw [h]; exact hF.2.2.2.2.1.w
def tF (y : Mt) (s : State) (A : Nat → Prop) : Prop := (∃ (m : MethodId) (a : Array Value) (b : List Frame), s.frames = .invoking m a :: b ∧ s.methodNamed? y.1 = some m) ∧ tOK A s
/-- a place that the world tells -/
def known (D : va_G) (ad : Nat → Nat) (sh : List Sh) (q : Loc) : Prop := ∃ (j : Nat) (z : Sh), sh[j]? = some z ∧ q.base = ad j ∧ ∀ (ci : Nat) (fl : List (Option Nat)) (r : vw_C), z = .inl (ci, fl) → classes[ci]? = some r → ∃ k, k < r.2.2 ∧ q.slot = D.2 ci k
noncomputable def unk (D : va_G) (ad : Nat → Nat) (sh : List Sh) (locs : List Loc) : List Loc := locs.filter (fun q => @decide (¬ known D ad sh q) (Classical.propDecidable _))
theorem unk_in {D : va_G} {ad : Nat → Nat} {sh : List Sh} {locs : List Loc} {q : Loc} (h : q ∈ unk D ad sh locs) : q ∈ locs ∧ ¬ known D ad sh q := by
  unfold unk at h
  rw [List.mem_filter] at h
  exact ⟨h.1, @of_decide_eq_true _ (Classical.propDecidable _) h.2⟩
theorem unk_of {D : va_G} {ad : Nat → Nat} {sh : List Sh} {locs : List Loc} {q : Loc} (h : q ∉ unk D ad sh locs) : q ∉ locs ∨ known D ad sh q := by
  by_cases h1 : q ∈ locs
  · by_cases h2 : known D ad sh q
    · exact Or.inr h2
    · exact absurd (by unfold unk; rw [List.mem_filter]; exact ⟨h1, @decide_eq_true _ (Classical.propDecidable _) h2⟩) h
  · exact Or.inl h1
/-- one place of the world, in two heaps that hold the same -/
theorem known_same {D : va_G} {ad : Nat → Nat} {sh : List Sh} {cA : FieldType → ClassId} {S : St} {H H' : Heap} {q : Loc} {c c' : Cell} (hP : va_P D classes (wdA ad cA S sh) H) (hP' : va_P D classes (wdA ad cA S sh) H') (hk : known D ad sh q) (h1 : H[q.base]? = some c) (h2 : H'[q.base]? = some c') : c'.slots[q.slot]? = c.slots[q.slot]? := by
  obtain ⟨j, z, hz, e, h⟩ := hk
  have a1 := hP j _ (wd_at hz)
  have a2 := hP' j _ (wd_at hz)
  rcases z with ⟨ci, fl⟩ | ⟨ty, n⟩
  · obtain ⟨r, hr, cell, g1, -, -, g4⟩ := a1
    obtain ⟨r', hr', cell', g1', -, -, g4'⟩ := a2
    obtain ⟨k, hk, ek⟩ := h ci fl r rfl hr
    cases hr.symm.trans hr'
    have g1 : H[ad j]? = some cell := g1
    have g1' : H'[ad j]? = some cell' := g1'
    rw [← e, h1] at g1
    rw [← e, h2] at g1'
    cases g1
    cases g1'
    rw [ek, g4 k hk, g4' k hk]
  · have h5 : ∃ f, H[ad j]? = some (arrV (cA ty) n f) ∧ H'[ad j]? = some (arrV (cA ty) n f) := by
      cases ty <;> first | exact ⟨fun i => .int (S.1 j i), a1, a2⟩ | exact ⟨fun i => .long (S.2 j i), a1, a2⟩
    obtain ⟨f, g1, g2⟩ := h5
    rw [← e, h1] at g1
    rw [← e, h2] at g2
    cases g1
    cases g2
    rfl
theorem stand_unk {p : Program} {l : Launch} {e : Env} {R : Room} {s T : State} {m : MethodId} {args : Array Value} {below : List Frame} {meth : Method} {c : Code} {locs : List Loc} {kc ks : Nat} {sh : List Sh} {ad : Nat → Nat} {D : va_G} {cA : FieldType → ClassId} {S : St}
    (X : Stand p l e R s m args below meth c T locs kc ks) (hP0 : va_P D classes (wdA ad cA S sh) s.heap) (hP : va_P D classes (wdA ad cA S sh) T.heap) : Stand p l e R s m args below meth c T (unk D ad sh locs) kc ks := by
  refine ⟨X.admits, X.cas, X.clock, X.frames, X.room, X.hears, X.method, X.code, X.here, X.tail, X.warmed, X.limits, X.bytes, X.same.1, X.same.2.1, X.same.2.2.1, X.same.2.2.2.1, X.same.2.2.2.2.1, fun a c0 hc => ?_⟩
  obtain ⟨c', h1, h2, h3, h4⟩ := X.same.2.2.2.2.2 a c0 hc
  refine ⟨c', h1, h2, h3, fun i hni => ?_⟩
  rcases unk_of hni with h | h
  · exact h4 i h
  · exact known_same hP0 hP h hc h1
/-- what is not among the places that may have changed is as it was -/
theorem same_slots {s s' : State} {L : List Loc} {k n a : Nat} {c : Cell} (h : s.sameButNew s' L k n) (hc : s.heap[a]? = some c) : ∃ c', s'.heap[a]? = some c' ∧ c'.cls = c.cls ∧ c'.vm = c.vm ∧ (∀ i, (⟨a, i⟩ : Loc) ∉ L → c'.slots[i]? = c.slots[i]?) ∧ ((∀ i, (⟨a, i⟩ : Loc) ∉ L) → c' = c) := by
  obtain ⟨c', h1, h2, h3, h4⟩ := h.2.2.2.2.2 a c hc
  refine ⟨c', h1, by rw [h2], by rw [h2], h4, fun h5 => ?_⟩
  rw [h2]
  have e : c'.slots = c.slots := Array.ext_getElem? (fun i => h4 i (h5 i))
  rw [e]
theorem same_world {D : va_G} {ad : Nat → Nat} {sh : List Sh} {cA : FieldType → ClassId} {S : St} {s s' : State} {locs : List Loc} {k n : Nat} (h : s.sameButNew s' (unk D ad sh locs) k n) (hP0 : va_P D classes (wdA ad cA S sh) s.heap) : va_P D classes (wdA ad cA S sh) s'.heap := by
  intro j q hq
  obtain ⟨z, hz, rfl⟩ := wd_of hq
  have a1 := hP0 j _ hq
  rcases z with ⟨ci, fl⟩ | ⟨ty, nn⟩
  · obtain ⟨r, hr, cell, g1, g2, g3, g4⟩ := a1
    obtain ⟨c', b1, b2, b3, b4, -⟩ := same_slots h g1
    refine ⟨r, hr, c', b1, b2.trans g2, b3.trans g3, fun i hi => ?_⟩
    rw [b4 _ (fun hm => (unk_in hm).2 ⟨j, _, hz, rfl, fun ci' fl' r' e1 e2 => by cases e1; cases hr.symm.trans e2; exact ⟨i, hi, rfl⟩⟩)]
    exact g4 i hi
  · have key : ∀ c0 : Cell, s.heap[ad j]? = some c0 → s'.heap[ad j]? = some c0 := fun c0 hc0 => by
      obtain ⟨c', b1, -, -, -, b5⟩ := same_slots h hc0
      rw [b1, b5 (fun i hm => (unk_in hm).2 ⟨j, _, hz, rfl, fun ci' fl' r' e1 e2 => by cases e1⟩)]
    cases ty <;> exact key _ a1
/-- a new X was thrown, the world as it was -/
def QcT (X : String) (S : St) (sh : List Sh) (ad : Nat → Nat) (D : va_G) (cA : FieldType → ClassId) : Array Value → State → Outcome → State → Prop := fun _ st oc t =>
  ∃ (x : Nat), oc = .threw x ∧ st.heap.size ≤ x ∧ (∃ cell : Cell, t.heap[x]? = some cell ∧ st.vm.findClass X = some cell.cls ∧ cell.vm = .none) ∧ va_P D classes (wdA ad cA S sh) t.heap ∧ va_K D classes (tysA cA) t ∧ va_F (aA sh.length ad st.heap.size) st t
def zT (y : Mt) (X : String) (S : St) : ZF := fun below args s sh ad D cA t => (tF y s (aA sh.length ad s.heap.size) ∧ va_P D classes (wdA ad cA S sh) s.heap) →
  ∃ o, t.status = .running ∧ Ended t below o ∧ QcT X S sh ad D cA args s o t ∧ ∃ L, FrameEndT s o t L 1 6 ∧ ∀ q ∈ L, aA sh.length ad s.heap.size q.base
def PcT (av : List AV) (S : St) (sh : List Sh) (ad : Nat → Nat) (D : va_G) (cA : FieldType → ClassId) (sz : Nat) : Array Value → State → Prop :=
  va_Pc (av.map (av_V ad)) (fun U => U.heap.size = sz ∧ va_P D classes (wdA ad cA S sh) U.heap ∧ va_K D classes (tysA cA) U ∧ nOK U ∧ tOK (aA sh.length ad sz) U)
/-- the contract of a method that throws a new X -/
def KX (l : Launch) (B : List Sh) (d : Nat × Nat) (z : Mt) (av : List AV) (S : St) (X : String) : Prop :=
  ∀ (sh : List Sh) (ad : Nat → Nat) (D : va_G) (cA : FieldType → ClassId) (sz : Nat), (∃ sh', sh = B ++ sh') → (∀ i j, i < sh.length → j < sh.length → ad i = ad j → i = j) →
    MetFree l z.1 (headSpec (wsM z) (rmT d)) (PcT av S sh ad D cA sz) (fun _ _ _ _ _ => True) (fun a st o t => QcT X S sh ad D cA a st o t ∧ ∃ L, FrameEndT st o t L 1 6 ∧ ∀ q ∈ L, aA sh.length ad sz q.base)
theorem k_startX {l : Launch} {B : List Sh} {d : Nat × Nat} {z : Mt} {av : List AV} {S : St} {X : String} (hz : okM z) (hn : (lvArgs av).length ≤ z.2.2.1) (he : EE l B (rmT d) z (zT z X S) 0 0 0 (lvIn av z.2.2.1) [] S) : KX l B d z av S X := by
  intro sh ad D cA sz hB hi
  refine MetFree.of_bodySF (code := z.2.1) (maxLocals := z.2.2.1) (ret := z.2.2.2.1) hz.2.2.2 ?_ ?_
  · intro args s m h hnm
    obtain ⟨meth, c, h1, h2, h3, h4, h5, h6, -, -⟩ := Cond.code_spec hnm (atoms_spec (ws := wsM z) h _ List.mem_cons_self)
    exact ⟨meth, c, h1, h2, h3, h4, h5, h6⟩
  · intro p e s m args below meth c s₁ Bd hml hv _
    obtain ⟨rfl, hsz, hP, hK, hno, hto⟩ := hv
    subst hsz
    have hh0 : s₁.heap = s.heap := by rw [Bd.state]; rfl
    have hts0 := atoms_spec (ws := wsM z) Bd.pre
    have hW := he p e s m _ below meth c sh ad D cA s.heap [] _ ⟨Bd.exec, Bd.bytes, Bd.returns, hml, findClass_of_methodNamed Bd.named, fun w hw => hts0 w (List.mem_cons_of_mem _ hw), Bd.notSynchronized, hno, hK, hz.D, hB, hi⟩ hP va_S.rf (lh_entry ad av hn)
    rw [lg_entry_eq]
    obtain ⟨t, a1, hZ⟩ := hW s₁ hh0 (Stand.of_body Bd)
    obtain ⟨o, b1, b2, b3, b4⟩ := hZ ⟨⟨⟨m, _, below, Bd.frames, Bd.named⟩, hto⟩, hP⟩
    exact ⟨t, o, a1, b1, b2, b3, b4⟩
/-- an old cell that the method may write is no statics -/
theorem locs_plain {p : Program} {l : Launch} {e : Env} {R : Room} {s T : State} {m : MethodId} {args : Array Value} {below : List Frame} {meth : Method} {c : Code} {locs : List Loc} {kc ks : Nat} {sh : List Sh} {ad : Nat → Nat} {D : va_G} {cA : FieldType → ClassId} {S : St} {H : Heap}
    (X : Stand p l e R s m args below meth c T locs kc ks) (hT : ∀ q : Nat, q < s.heap.size → T.heap[q]? = H[q]?) (hP : va_P D classes (wdA ad cA S sh) H) (hL : ∀ q ∈ locs, aA sh.length ad s.heap.size q.base) :
    ∀ x ∈ locs, ∀ cell, s.heap[x.base]? = some cell → cell.vm.isStatics = false := by
  intro x hx cell hc
  have hlt : x.base < s.heap.size := (Array.getElem?_eq_some_iff.mp hc).1
  rcases hL x hx with ⟨i, hi, e⟩ | h
  · obtain ⟨c', h1, h2, -⟩ := X.same.2.2.2.2.2 x.base cell hc
    have hTH : T.heap[x.base]? = some c' := h1
    rw [hT _ hlt] at hTH
    obtain ⟨z, hz⟩ : ∃ z, sh[i]? = some z := ⟨sh[i], List.getElem?_eq_getElem hi⟩
    have h3 := hP i _ (wd_at hz)
    rw [← e] at h3
    have h4 : c'.vm = .none := by
      rcases z with ⟨ci, fl⟩ | ⟨ty, n⟩
      · obtain ⟨r, -, cell2, g1, g2, g3, -⟩ := h3
        have g1 : H[x.base]? = some cell2 := g1
        rw [hTH] at g1
        cases g1
        exact g3
      · have h5 : ∃ f, H[x.base]? = some (arrV (cA ty) n f) := by
          cases ty <;> first | exact ⟨fun k => .int (S.1 i k), h3⟩ | exact ⟨fun k => .long (S.2 i k), h3⟩
        obtain ⟨f, h5⟩ := h5
        rw [hTH] at h5
        cases h5
        rfl
    have h6 : c'.vm = cell.vm := by rw [h2]
    rw [← h6, h4]
    rfl
  · exact absurd hlt (Nat.not_lt.mpr h)
theorem e_throw {l : Launch} {B : List Sh} {d : Nat × Nat} {y : Mt} {pc : Nat} {lv : List (Option AV)} {S : St} {X tx : String} {idx ji ic tw t0 t1 t2 t3 t4 : Nat} (hfl : l.flags = Jvm.pinnedFlags ++ [Jvm.noTraceFlag])
    (hd0 : cAt y.2.2.2.2.1 pc = some (.new idx, 3, t0)) (hd3 : cAt y.2.2.2.2.1 (pc + 3) = some (.dup, 1, t1))
    (hld : (cAt y.2.2.2.2.1 (pc + 3 + 1) = some (.ldc ji, 2, t2) ∧ tw = 2) ∨ (cAt y.2.2.2.2.1 (pc + 3 + 1) = some (.ldc_w ji, 3, t2) ∧ tw = 3))
    (hd6 : cAt y.2.2.2.2.1 (pc + 3 + 1 + tw) = some (.invokespecial ic, 3, t3)) (hd9 : cAt y.2.2.2.2.1 (pc + 3 + 1 + tw + 3) = some (.athrow, 1, t4))
    (hcls : y.1.cls = xOwn) (hstr : (ji, tx) ∈ strs) (hX : xOK X ic) (hcode : Jvm.Cond.code y.1 y.2.1 y.2.2.1 y.2.2.2.1 ∈ gw) (hcl : Jvm.Cond.classLink xOwn idx X ∈ gw) (hR : 6 ≤ d.1 ∧ 90 ≤ d.2) :
    EE l B (rmT d) y (zT y X S) 0 0 pc lv [] S := by
  intro p e s m args below meth c sh ad D cA H locs ls C hP hS hl
  obtain ⟨hx, hb, hr, hml, hown, hts, hlk, hn, hK, hok, hsh, hi⟩ := id C
  rw [hcls] at hown
  intro T hT X0
  by_cases hF : tF y s (aA sh.length ad s.heap.size) ∧ va_P D classes (wdA ad cA S sh) s.heap
  case neg => exact ⟨_, Steps.refl _, fun h => absurd h hF⟩
  obtain ⟨⟨⟨m', a', b', hfr, hnm⟩, hto⟩, hP0⟩ := id hF
  have hm : m' = m := by
    have h9 := X0.frames.symm.trans hfr
    simp only [List.cons.injEq, Frame.invoking.injEq] at h9
    exact h9.1.1.symm
  subst hm
  obtain ⟨q, hq⟩ := hto.2.2.1 _ hstr
  obtain ⟨cC, k0, hfc, -⟩ := Cond.instantiable_spec (hts _ hX.2.2.2)
  obtain ⟨meth', c', hm1, hc1, -, -, -, -, hex, -⟩ := Cond.code_spec hnm (hts _ hcode)
  cases X0.method.symm.trans hm1
  cases X0.code.symm.trans hc1
  have hout : ∀ x ∈ c.exceptionTable.toList, covers x (pc + 3 + 1 + tw + 3) = false := by
    intro x hxm
    rw [Array.isEmpty_iff.mp hex] at hxm
    cases hxm
  have key : W p l e (rmT d) s m' args below meth c H locs 0 0 (zT y X S below args s sh ad D cA) (F0 m' pc ls []) := by
    refine W.newcK hx hb hown (hts _ hcl) (hts _ hX.2.2.2) (hts _ hX.2.2.1) rfl (okM_c hok hd0).1 (by show 0 + 1 ≤ 1; omega) (by show 0 + 6 ≤ 6; omega) hfc rfl (fun H1 kC hkC e1 z1 o1 => ?_)
    refine lv_dup hx hb (okM_c hok hd3).1 rfl ?_
    have hk : ∀ (k : Nat) (x : Nat × va_E), (wdA ad cA S sh)[k]? = some x → H1[x.1]? = H[x.1]? := fun k x hx => o1 x.1 ((hP k x hx).lt)
    have hP1 : va_P D classes (wdA ad cA S sh) H1 := hP.kept hk
    have key2 : W p l e (rmT d) s m' args below meth c H1 locs (0 + 1) (0 + 6) (zT y X S below args s sh ad D cA) (F0 m' (pc + 3 + 1 + tw) ls [.ref q, .ref H.size, .ref H.size]) := by
      intro T1 hT1 X9
      have X1 := stand_unk (D := D) (ad := ad) (sh := sh) (cA := cA) (S := S) X9 hP0 (by rw [hT1]; exact hP1)
      have hSL : ∀ q ∈ unk D ad sh locs, aA sh.length ad s.heap.size q.base := fun q hq => hS.2.2 q (unk_in hq).1
      obtain ⟨U, hsteps, hrun, hend, hW, hsame, ce, hce, Kc⟩ := X1.ctorThrowS hx (Launch.traces_off hfl X0.admits) (own := xOwn) (cls := X) (names := xUp) (ic := ic) hown hX.2.1 (by decide +kernel)
        (own_at hX hts hto) (locs_plain (H := H1) X1 (fun q _ => by rw [hT1]) hP1 hSL) (a := H.size) hfc hkC (by rw [hT1]; exact e1) hS.1 (msg := .ref q) rfl
        (g := F0 m' (pc + 3 + 1 + tw) ls [.ref q, .ref H.size, .ref H.size]) rfl (by rw [hml]; exact hl.1) rfl rfl (rest := []) rfl (by rw [hb]; exact (okM_c hok hd6).1) (by rw [hb]; exact (okM_c hok hd9).1) hout
        (by show 2 + 3 < d.1; omega) (by show 2 * 0 + 1 + (13 * (2 + 1) + 42) ≤ d.2; omega)
      refine ⟨U, hsteps, fun _ => ⟨.threw H.size, hrun, hend, ⟨H.size, rfl, hS.1, ⟨ce, hce, Kc.cls, Kc.vm⟩, same_world (s' := { U with vm := s.vm }) hsame hP0, va_K.moved hW.alike hK, hsame.2.1, fun a ha hnA => ?_⟩, unk D ad sh locs, ⟨⟨_, rfl⟩, hW, hsame⟩, hSL⟩⟩
      obtain ⟨c0, hc0⟩ : ∃ c0, s.heap[a]? = some c0 := ⟨s.heap[a], Array.getElem?_eq_getElem ha⟩
      obtain ⟨c', b1, -, -, -, b5⟩ := same_slots (s' := { U with vm := s.vm }) hsame hc0
      rw [hc0, ← b5 (fun i hm => hnA (hSL _ hm))]
      exact b1
    rcases hld with ⟨h4, rfl⟩ | ⟨h4, rfl⟩
    · exact va_ldcS hx hb hown hq (okM_c hok h4).1 key2
    · intro T1 hT1 X1
      obtain ⟨t, a1, b1⟩ := key2 T1 hT1 X1
      exact ⟨t, X1.ldcStringW hx hown (text := tx) (a := q) hq.1 hq.2 (g := F0 m' (pc + 3 + 1) ls _) rfl (by rw [hb]; exact (okM_c hok h4).1) t a1, b1⟩
  exact key T hT X0
