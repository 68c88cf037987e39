/-! the beginning -/
theorem inst_all : ∀ (ci : Nat) (r : vw_C), classes[ci]? = some r → Jvm.Cond.instantiable r.1 r.2.2 ∈ gw := by
  intro ci r h
  match ci, h with
  | 0, h => cases h; exact in9_C
  | 1, h => cases h; exact in9_F
  | 2, h => cases h; exact in9_L
  | 3, h => cases h; exact in9_P
  | 4, h => cases h; exact in9_B
  | 5, h => cases h; exact in9_R
  | 6, h => cases h; exact in9_W
  | 7, h => cases h; exact in9_S
  | 8, h => cases h; exact in9_H
  | 9, h => cases h; exact in9_M
  | ci + 10, h => cases h
theorem gw_tbl {w : Jvm.Cond} (h : w ∈ gw) : w ∈ lw_tbl := (List.mem_filter.mp h).1
theorem start_K {s : State} {args : Array Value} (hts : ∀ w ∈ lw_tbl, w.before args s = true) : ∃ (D : va_G) (cA : FieldType → ClassId), va_K D classes (tysA cA) s := by
  have h1 : ∀ c : Nat, ∃ x : ClassId × (Nat → Nat), ∀ q, classes[c]? = some q → u_Kn s q.1 q.2.1 q.2.2 x.1 x.2 := by
    intro c
    cases hc : classes[c]? with
    | none => exact ⟨(0, fun _ => 0), fun q hq => by cases hq⟩
    | some r =>
      obtain ⟨cC, iS, hk⟩ := u_known (C := r.1) (T := r.2.1) (N := r.2.2) (n := r.2.2) hts (fun w hw => gw_tbl ((cls_all c r hc).1 w hw)) (hts _ (gw_tbl (inst_all c r hc)))
      exact ⟨(cC, iS), fun q hq => by cases hq; exact hk⟩
  obtain ⟨f, hf⟩ := Classical.axiomOfChoice h1
  have h2 : ∀ ty : FieldType, ∃ cA : ClassId, (ty = .int ∨ ty = .long ∨ ty = .byte ∨ ty = .boolean) → ArrOfT s cA ty ∧ va_RA s cA ty := by
    intro ty
    by_cases h : ty = .int ∨ ty = .long ∨ ty = .byte ∨ ty = .boolean
    · have hw : Jvm.Cond.arrayClass ty ∈ gw := by
        rcases h with rfl | rfl | rfl | rfl
        · exact aw_int
        · exact aw_long
        · exact aw_byte
        · exact aw_boolean
      obtain ⟨c, k, comp, g1, g2, g3⟩ := Cond.arrayClass_spec (hts _ (gw_tbl hw))
      refine ⟨c, fun _ => ⟨fun n z => ⟨fun k h => (by cases h), k, g2, comp, g3⟩, ?_⟩⟩
      rcases h with rfl | rfl | rfl | rfl <;> exact g1
    · exact ⟨0, fun z => absurd z h⟩
  obtain ⟨cA, hcA⟩ := Classical.axiomOfChoice h2
  refine ⟨(fun c => (f c).1, fun c => (f c).2), cA, fun c q hq => hf c q hq, fun k q hq => ?_⟩
  match k, hq with
  | 0, hq => cases hq; exact hcA .int (by decide)
  | 1, hq => cases hq; exact hcA .long (by decide)
  | 2, hq => cases hq; exact hcA .byte (by decide)
  | 3, hq => cases hq; exact hcA .boolean (by decide)
  | k + 4, hq => cases hq
theorem noCast_of {a b : String} {s : State} {args : Array Value} (h : (Jvm.Cond.not (.castable a b)).before args s = true) : noCast a b s := by
  simp only [Cond.before, Cond.holds, Cond.value] at h
  cases ha : s.vm.findClass a with
  | none => simp [ha] at h
  | some ca =>
    cases hb : s.vm.findClass b with
    | none => simp [ha, hb] at h
    | some cb =>
      simp [ha, hb] at h
      exact ⟨ca, cb, ha, hb, h⟩
set_option maxRecDepth 100000 in
theorem start_T {s : State} {args : Array Value} (hts : ∀ w ∈ lw_tbl, w.before args s = true) (hgv : (Jvm.Cond.and given_1 narrow_1).before args s = true) : F9L s := by
  have hs := flat_of_before _ hgv
  have hA : ∀ a : Nat, a < s.heap.size → ¬ s.heap.size ≤ a := fun a h => Nat.not_le.mpr h
  have l1 : (Jvm.Cond.laysStatic Bundle.tN "UNASSIGNED_STACK" Bundle.steD).before args s = true := hts _ (by decide +kernel)
  have l2 : (Jvm.Cond.laysStatic Bundle.tN "SUPPRESSED_SENTINEL" Bundle.listD).before args s = true := hts _ (by decide +kernel)
  have i1 : (Jvm.Cond.initialized Bundle.tN).before args s = true := hts _ (by decide +kernel)
  have r1 : (Jvm.Cond.isRef (.static Bundle.tN "UNASSIGNED_STACK" Bundle.steD)).before args s = true := hs _ (by decide +kernel)
  have r2 : (Jvm.Cond.isRef (.static Bundle.tN "SUPPRESSED_SENTINEL" Bundle.listD)).before args s = true := hs _ (by decide +kernel)
  refine ⟨va_Zqof l1 i1 r1 hA, va_Zqof l2 i1 r2 hA, fun q hq => ?_, zL.of l1 hA, zL.of l2 hA, fun w hw => face_to (s := s) (List.mem_filter.mp hw).2 (Vm.Alike.refl s.vm) (hts _ (List.mem_filter.mp hw).1), fun q hq => ?_⟩
  · have h1 : (Jvm.Cond.stringRef xOwn q.1 q.2).before args s = true := hts _ (by
      have : ∀ q ∈ strs, Jvm.Cond.stringRef xOwn q.1 q.2 ∈ lw_tbl := by decide +kernel
      exact this q hq)
    have h2 : (Jvm.Cond.exactly (.string xOwn q.1) "java/lang/String").before args s = true := hs _ (by
      have : ∀ q ∈ strs, Jvm.Cond.exactly (.string xOwn q.1) "java/lang/String" ∈ flatC (Jvm.Cond.and given_1 narrow_1) := by decide +kernel
      exact this q hq)
    obtain ⟨a, c, cell, k, g1, -⟩ := Cond.exactly_spec h2
    exact ⟨a, vk_R.of h1 g1⟩
  · have h2 : (Jvm.Cond.not (.castable q.1 q.2)).before args s = true := hs _ (by
      have : ∀ q ∈ nots, Jvm.Cond.not (.castable q.1 q.2) ∈ flatC (Jvm.Cond.and given_1 narrow_1) := by decide +kernel
      exact this q hq)
    exact noCast_of h2
theorem whole_start {p : Program} {e : Env} {s : State} {m : MethodId} {below : List Frame} {meth : Method} {c : Code} (l : Launch) (hfl : l.flags = flags0) {b L : Nat} {xs : Nat → Int32} (hL : L ≤ 3586) (C0 : lw_At p s m meth c b L xs) : W p l e room_1 s m #[Value.ref b] below meth c s.heap [] 0 0 (lw_Z below #[Value.ref b] s) (entryFrame m ([Value.ref b] : List Value).toArray 7) := by
  obtain ⟨hx, hb, hr, hml, hown, hts, hX, hbl, hlk, hgv⟩ := C0
  obtain ⟨D, cA, hK⟩ := start_K hts
  have hF := start_T hts hgv
  have hn : nOK s := fun w hw => va_Nw.of (by
    have h2 := (List.mem_filter.mp hw).2
    cases w <;> first | rfl | (exact absurd h2 (by decide)) | (simp [nestWord] at h2)) (hts w (List.mem_filter.mp hw).1)
  rw [lg_entry_eq]
  have h := lw_body (l := l) (b := b) (L := L) (xs := xs) (S0 := (fun _ _ => 0, fun _ _ => 0)) hfl hL p e s m #[Value.ref b] below meth c [] (fun _ => b) D cA s.heap [] _ ⟨hx, hb, hr, hml, hown, fun w hw => hts w (gw_tbl hw), hlk, hn, hK, od_Z_law, ⟨[], rfl⟩, fun i j hi => absurd hi (Nat.not_lt_zero _)⟩ (fun k q hq => by simp [wdA] at hq) va_S.rf (lh_entry (fun _ => b) [aR 99] (n := 7) (Nat.le_of_ble_eq_true rfl))
  intro T hT X
  obtain ⟨t, a, bb⟩ := h T hT X
  exact ⟨t, a, bb ⟨rfl, hF, fun i _ hi => absurd hi (Nat.not_lt_zero _)⟩ ⟨rfl, hX, hbl⟩ rfl⟩
set_option maxHeartbeats 4000000 in
theorem lw_walk (l : Launch) (hfl : l.flags = flags0) (b : Addr) (xs : List Int32) : MetFree l x (headSpec (Jvm.Cond.code x code maxLocals ret :: tables_1) room_1) (lw_P b xs) (fun _ _ _ _ _ => True) lw_Q := by
  refine MetFree.of_bodyS (code := code) (maxLocals := maxLocals) (ret := ret) (by decide) ?_ ?_
  · intro args s m h hn
    obtain ⟨meth, c, h1, h2, h3, h4, h5, h6, -, -⟩ := Cond.code_spec hn (atoms_spec (ws := Jvm.Cond.code x code maxLocals ret :: tables_1) h _ List.mem_cons_self)
    exact ⟨meth, c, h1, h2, h3, h4, h5, h6⟩
  · intro p e s m args below meth c s₁ B hml0 hP _
    obtain ⟨rfl, hx, hbd, hgv⟩ := hP
    obtain ⟨scr, harrAt, hlist, hof, hsmall⟩ := hx
    obtain ⟨hcb, hkn, -, -⟩ := State.arrayAt?_spec harrAt
    have hown : s.vm.findClass R_law = some m.cls := findClass_of_methodNamed B.named
    have hts0 : ∀ c ∈ (Jvm.Cond.code x code maxLocals ret :: tables_1), c.before #[Value.ref b] s = true := atoms_spec (ws := Jvm.Cond.code x code maxLocals ret :: tables_1) B.pre
    have hts : ∀ w ∈ lw_tbl, w.before #[Value.ref b] s = true := k2_hts_sels lw_privs (fun w hw => hts0 w (List.mem_cons_of_mem _ hw)) lw_privs_ok
    have hml : c.maxLocals = 7 := B.maxLocals_eq (hts0 _ List.mem_cons_self)
    have X₀ : Stand p l e room_1 s m #[Value.ref b] below meth c s₁ [] 0 0 := Stand.of_body B
    have hh0 : s₁.heap = s.heap := by rw [B.state]; rfl
    have hsz : scr.slots.size = xs.length := by rw [← Array.length_toList, hlist, List.length_map]
    have hval : ∀ j : Nat, j < xs.length → scr.slots[j]? = some (.int (xs.getD j 0)) := fun j hj => by
      rw [← Array.getElem?_toList, hlist]
      simp [hj]
    have hbl : b < s.heap.size := (Array.getElem?_eq_some_iff.mp hcb).1
    have hX : va_X b xs.length (fun j => xs.getD j 0) s s.heap := ⟨scr, hcb, hof, hkn, hsz, hval⟩
    have K : W p l e room_1 s m #[Value.ref b] below meth c s₁.heap [] 0 0 (lw_Z below #[Value.ref b] s) (entryFrame m ([Value.ref b] : List Value).toArray 7) := by
      rw [hh0]
      exact whole_start l hfl hbd ⟨B.exec, B.bytes, B.returns, hml, hown, hts, hX, hbl, B.notSynchronized, hgv⟩
    obtain ⟨t, a1, o, b1, b2, b3⟩ := K s₁ rfl X₀
    exact ⟨t, o, a1, b1, b2, b3⟩
theorem lw_pre_spec {args : Array Value} {s : State} (h : (Jvm.Cond.and given_1 narrow_1).before args s = true) (hr : rest_1_c.before args s = true) : ∃ (b : Addr) (xs : List Int32), lw_P b xs args s := by
  have hs := flat_of_before _ h
  have hq := flat_of_before _ hr
  have hc : (Cond.count 1).before args s = true := hs _ (by decide +kernel)
  have harr : (Cond.arrayOf (.arg 0) .int).before args s = true := hs _ (by decide +kernel)
  have hle : (Cond.le (.length (.arg 0)) (.int 3586)).before args s = true := hs _ (by decide +kernel)
  have hlen : (Cond.isInt (.length (.arg 0))).before args s = true := hq _ (by decide +kernel)
  have hall : (Cond.all (.arg 0) (.isInt (.elem (.arg 0) (.index 0)))).before args s = true := hq _ (by decide +kernel)
  obtain ⟨b, xs, hb, hx⟩ := State.ints_of_pre rfl harr hlen hall
  have hsm : xs.length < 2 ^ 31 := hx.choose_spec.2.2.2
  have hev : (Term.length (.arg 0)).eval args s none [] s = some (.int xs.length.toInt32) := hx.length_eval hb
  have hv := Cond.le_ints hev (show (Term.int 3586).eval args s none [] s = some (.int 3586) from rfl)
  have hd : xs.length.toInt32 ≤ 3586 := by
    simpa [Cond.before, Cond.holds, hv] using hle
  have hN : xs.length ≤ 3586 := (Int32.ofNat_le_ofNat hsm (by decide)).mp (show Int32.ofNat xs.length ≤ Int32.ofNat 3586 from hd)
  exact ⟨b, xs, Cond.one_arg hc (show args[0]? = some (.ref b) from hb), hx, hN, h⟩
theorem lw_comes (l : Launch) (hfl : l.flags = flags0) : Comes l x (Jvm.Cond.code x code maxLocals ret :: tables_1) room_1 (fun tb e args s => Calls_1 tb e args s ∧ rest_1 tb e args s ∧ Pre_1 tb e args s)
    (fun _ _ args s o t => lw_Q args s o t) := by
  intro p e ha hc hk s m args below hf hfit hheap happ hpre
  obtain ⟨b, xs, hP⟩ := lw_pre_spec hpre.2.2 hpre.2.1
  obtain ⟨k, o, h1, h2, h3, hQ⟩ := lw_walk l hfl b xs p e ha hc hk s m args below hf ((Spec.applies_iff_loose hf).mp happ).1 hP trivial
  exact ⟨k, o, h1, h2, h3, hQ⟩
theorem lw_frame {s t : State} {o : Outcome} {args : Array Value} (h : Framed s o t [] 601024 7293000) :
    Framed s o t (fieldLocs frame_1_writes args s ++ arrayLocs frame_1_arrays args s ++ staticLocs frame_1_statics s) 601024 7293000 := h
theorem lw_limb (L : Cond) (hL : ∀ (args : Array Value) (s t : State), L.after args s (.returned (some (.int 1))) t = true) :
    ArmFor flags0 classFile x code maxLocals ret World_1 tables_1 room_1 Calls_1 rest_1 Pre_1
      (fun tb e a s o t => postC L tb e a s o t ∧ Framed s o t (fieldLocs frame_1_writes a s ++ arrayLocs frame_1_arrays a s ++ staticLocs frame_1_statics s) 601024 7293000) := by
  intro l hfl _ _ p e ha hc hk s m args below hf hfit hheap happ hpre
  obtain ⟨k, o, h1, h2, h3, rfl, hF⟩ := lw_comes l hfl p e ha hc hk s m args below hf hfit hheap happ hpre
  exact ⟨k, _, h1, h2, h3, hL args s _, lw_frame hF⟩
theorem i_vc : Claimed_1_1 ∧ Claimed_1_2 := ⟨lw_limb limb_1_1 (fun args s t => by simp [limb_1_1, Cond.after, Cond.holds, Cond.value]), lw_limb limb_1_2 (fun args s t => Cond.after_iff.mpr (by
  first | (rw [show limb_1_2 = Cond.eq .result (.int 1) from rfl, Cond.eq_ints (x := 1) (y := 1) rfl rfl]; simp; done) | (simp [limb_1_2, Cond.value, Term.eval]; done)))⟩
