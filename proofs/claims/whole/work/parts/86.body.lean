def R_law : String := "HalftoneRegionsLaw"
def lw_P (b : Addr) (xs : List Int32) (args : Array Value) (s : State) : Prop := args = #[.ref b] ∧ s.IntsAt b xs ∧ xs.length ≤ 3586 ∧ (Jvm.Cond.and given_1 narrow_1).before args s = true
def lw_Q (_ : Array Value) (s : State) (o : Outcome) (t : State) : Prop := o = .returned (some (.int 1)) ∧ Framed s o t [] 601024 7293000
def lw_Z (below : List Frame) (a : Array Value) (s : State) : State → Prop := fun t => ∃ o, t.status = .running ∧ Ended t below o ∧ lw_Q a s o t
/-- the law's own end, with 1 on the stack, nothing written that was there before, its room as the claim has it -/
theorem lw_ret {p : Program} {l : Launch} {e : Env} {s : State} {m : MethodId} {below : List Frame} {meth : Method} {c : Code} {b : Nat} (hx : p.tables.exec = Jvm.exec) (hb : c.code = code) (hr : meth.sig.returnType = ret) (hlocks : meth.locks = false) {pc : Nat} {H : Heap} {ls : Array Slot} (hdg : decode code pc = .ok (.ireturn, 1)) : W p l e room_1 s m #[Value.ref b] below meth c H [] 601024 7293000 (lw_Z below #[Value.ref b] s) (F0 m pc ls [.int 1]) := by
  intro T hT X
  obtain ⟨fs, hret, hrun, hended, hW, hframe⟩ := X.leave (v := some (.int 1)) (hlocks := hlocks) (fun h => by rw [hr] at h; cases h)
  have hmeth' : T.vm.method? m = some meth := X.method'
  refine ⟨T.setFrames fs, ?_, .returned (some (.int 1)), hrun, hended, rfl, ⟨_, rfl⟩, hW, hframe⟩
  jvm_step X.here [X.here.top, hx, hb, hdg, hmeth', hr, ret, narrow_b1]
  (try refine ⟨rfl, ?_⟩); (try refine ⟨rfl, ?_⟩)
  first | (intro acts; rw [hret _ acts rfl rfl rfl]) | rw [hret _ _ rfl rfl rfl]
  exact Steps.refl _
/-- what holds at the law's entry: the machine, the code, the tables' words (any of lw_tbl by 'hts w (by decide +kernel)'), the script of L ints xs at the cell b, what the Statement gives of the start (any of its parts by flat_of_before) -/
def lw_At (p : Program) (s : State) (m : MethodId) (meth : Method) (c : Code) (b L : Nat) (xs : Nat → Int32) : Prop :=
  p.tables.exec = Jvm.exec ∧ c.code = code ∧ meth.sig.returnType = ret ∧ c.maxLocals = 7 ∧ s.vm.findClass R_law = some m.cls ∧ (∀ w ∈ lw_tbl, w.before #[Value.ref b] s = true) ∧ va_X b L xs s s.heap ∧ b < s.heap.size ∧ meth.locks = false ∧ (Jvm.Cond.and given_1 narrow_1).before #[Value.ref b] s = true
/-! the law's body -/
def zZ (b : Nat) : List Frame → Array Value → State → State → Prop := fun below args s t => args = #[Value.ref b] → lw_Z below #[Value.ref b] s t
theorem drop9 {p : Program} {l : Launch} {e : Env} {R : Room} {s T : State} {m : MethodId} {args : Array Value} {below : List Frame} {meth : Method} {c : Code} {locs : List Loc} {kc ks : Nat} (X : Stand p l e R s m args below meth c T locs kc ks) (h : ∀ q ∈ locs, s.heap.size ≤ q.base) : Stand p l e R s m args below meth c T [] kc ks := by
  refine ⟨X.admits, X.cas, X.clock, X.frames, X.room, X.hears, X.method, X.code, X.here, X.tail, X.warmed, X.limits, X.bytes, X.same.1, X.same.2.1, X.same.2.2.1, X.same.2.2.2.1, X.same.2.2.2.2.1, fun a c0 hc => ?_⟩
  obtain ⟨c', h1, h2, h3, h4⟩ := X.same.2.2.2.2.2 a c0 hc
  refine ⟨c', h1, h2, h3, fun i _ => h4 i (fun hin => ?_)⟩
  have h5 := h _ hin
  have h6 : a < s.heap.size := (Array.getElem?_eq_some_iff.mp hc).1
  exact absurd h5 (Nat.not_le.mpr h6)
theorem e_lret {l : Launch} {B : List Sh} {y : Mt} {b L kc ks pc t : Nat} {xs : Nat → Int32} {lv : List (Option AV)} {S : St} (hd : cAt y.2.2.2.2.1 pc = some (.ireturn, 1, t)) (hy : y.2.1 = code) (hret : y.2.2.2.1 = ret) (hkc : kc ≤ 601024) (hks : ks ≤ 7293000) : EE l B room_1 y (zG F9L 0 B (zLw b L xs (zZ b))) kc ks pc lv [aI 1] S := by
  refine zg_in (fun p e s m args below meth c ad D cA H locs ls Cc hP hS hl hF hfr => ?_)
  obtain ⟨hx, hb, hr, hml, hown, hts, hlk, hn9, hK, hok, hsh, hi⟩ := id Cc
  by_cases ha : args = #[Value.ref b]
  case neg =>
    intro T hT X
    exact ⟨_, Steps.refl _, fun _ h9 => absurd h9 ha⟩
  subst ha
  intro T hT X
  have X' := drop9 X (fun q hq => by
    rcases hS.2.2 q hq with ⟨i, h1, h2⟩ | h1
    · rw [h2]; exact hfr i (Nat.zero_le _) h1
    · exact h1)
  have hdg : decode code pc = .ok (.ireturn, 1) := by
    have := (okM_c hok hd).1
    rw [hy] at this
    exact this
  obtain ⟨t9, a9, b9⟩ := (W.widen hkc hks (lw_ret (b := b) (H := H) (ls := ls) hx (hb.trans hy) (hr.trans hret) hlk hdg)) T hT X'
  exact ⟨t9, a9, fun _ _ => b9⟩
theorem gt7 {L i : Nat} (hL : L ≤ 3586) (hi : i ≤ 4000) : nI L - 7 < nI i ↔ L < i + 7 := by
  rw [Int32.lt_iff_toInt_lt, Int32.toInt_sub, nI_toInt (by omega), nI_toInt (by omega), show (7 : Int32).toInt = 7 from rfl, Int.bmod_eq_of_le (by omega) (by omega)]
  omega
theorem and31 (x : Int32) : ∃ q, q < 32 ∧ x &&& 31 = nI q := by
  refine ⟨x.toBitVec.toNat % 2 ^ 5, Nat.lt_of_lt_of_le (Nat.mod_lt _ (by decide)) (by decide), ?_⟩
  apply eqI
  intro i hi
  rw [bI_and, show (31 : Int32) = nI 31 from rfl, bI_nI, bI_nI, show 31 = 2 ^ 5 - 1 from rfl, Nat.testBit_two_pow_sub_one, Nat.testBit_mod_two_pow]
  simp [hi, bI9, BitVec.getLsbD, Bool.and_comm]
theorem cl9_n (x : Int32) : ∃ n, 1 ≤ n ∧ n ≤ 32 ∧ cl9 x = nI n := by
  by_cases g : 1 ≤ x
  · by_cases g2 : x ≤ 32
    · rw [cl9_in g g2]
      rw [Int32.le_iff_toInt_le] at g g2
      have z1 : (1 : Int32).toInt = 1 := rfl
      have z2 : (32 : Int32).toInt = 32 := rfl
      obtain ⟨e, -⟩ := to_n (z := x) (by omega)
      exact ⟨x.toInt.toNat, by omega, by omega, e⟩
    · exact ⟨32, by decide, by decide, cl9_hi g g2⟩
  · exact ⟨1, by decide, by decide, cl9_lo g⟩
def m_Zh : Mt := (⟨"HalftoneRegionsLaw", "law", "([I)Z"⟩, code, 7, (some .boolean), LI0 ++ (LI23), F_Z)
theorem od_m_Zh : okD m_Zh := by
  refine ⟨?_, okF_Z⟩
  show (LI0 ++ (LI23)).all (cdB code) = true
  simp only [List.all_append, LI0_ok, LI23_ok, Bool.and_self]
set_option maxHeartbeats 4000000 in
set_option maxRecDepth 40000 in
theorem lw_loop {l : Launch} {h w b L : Nat} {xs : Nat → Int32} (hfl : l.flags = Jvm.pinnedFlags ++ [Jvm.noTraceFlag]) (hL : L ≤ 3586) (n : Nat) : ∀ (i kc ks : Nat) (S : St) (a5 a6 : Option AV), i ≤ 4000 → L < i + 7 + 7 * n → kc + n ≤ 601024 → ks + 6 * n ≤ 7293000 → Rl h w S S → EE l (SHw h) room_1 m_Z_law (zG F9L 0 (SHw h) (zLw b L xs (zZ b))) kc ks 43 [some (aR 99), some (aR 0), some (aR 21), some (aR 33), some (aI (nI i)), a5, a6] [] S := by
  induction n with
  | zero =>
    intro i kc ks S a5 a6 hi hn hk hs H
    refine ee_sub od_m_Zh ⟨rfl, rfl, rfl, rfl⟩ ?_
    iterate 2 refine e_sp rfl rfl rfl ?_
    refine e_slen rfl ?_
    refine e_cb 7 rfl rfl ?_
    iterate 1 refine e_sp rfl rfl rfl ?_
    refine e_icgt rfl (fun h1 => ?_) (fun h1 => absurd ((gt7 hL hi).mpr (by omega)) h1)
    refine e_ci 1 rfl rfl ?_
    exact e_lret rfl rfl rfl (by omega) (by omega)
  | succ n ih =>
    intro i kc ks S a5 a6 hi hn hk hs H
    refine ee_sub od_m_Zh ⟨rfl, rfl, rfl, rfl⟩ ?_
    iterate 2 refine e_sp rfl rfl rfl ?_
    refine e_slen rfl ?_
    refine e_cb 7 rfl rfl ?_
    iterate 1 refine e_sp rfl rfl rfl ?_
    refine e_icgt rfl (fun h1 => ?_) (fun h1 => ?_)
    · refine e_ci 1 rfl rfl ?_
      exact e_lret rfl rfl rfl (by omega) (by omega)
    have hiL : i + 7 ≤ L := Nat.le_of_not_lt (fun z => h1 ((gt7 hL hi).mpr z))
    have hcc : kc + 1 ≤ room_1.cells ∧ ks + 6 ≤ room_1.slots := ⟨show kc + 1 ≤ 601024 by omega, show ks + 6 ≤ 7293000 by omega⟩
    have IH : ∀ (S9 : St) (kc9 ks9 : Nat) (a5 a6 : Option AV), Rl h w S9 S9 → kc9 ≤ kc + 1 → ks9 ≤ ks + 6 → EE l (SHw h) room_1 m_Z_law (zG F9L 0 (SHw h) (zLw b L xs (zZ b))) kc9 ks9 43 [some (aR 99), some (aR 0), some (aR 21), some (aR 33), some (aI (nI (i + 7))), a5, a6] [] S9 := fun S9 kc9 ks9 a5 a6 H9 g1 g2 => ih (i + 7) kc9 ks9 S9 a5 a6 (by omega) (by omega) (by omega) (by omega) H9
    iterate 2 refine e_sp rfl rfl rfl ?_
    refine e_sld rfl (vp_in_nI (by omega) (by omega)) ?_
    refine e_cb 31 rfl rfl ?_
    iterate 1 refine e_sp rfl rfl rfl ?_
    obtain ⟨q, hq, eq⟩ := and31 (xs (nI i).toNatClampNeg)
    dsimp only
    rw [eq]
    rcases (show q = 0 ∨ q = 1 ∨ q = 2 ∨ q = 3 ∨ q = 4 ∨ q = 5 ∨ q = 6 ∨ q = 7 ∨ q = 8 ∨ q = 9 ∨ q = 10 ∨ q = 11 ∨ q = 12 ∨ q = 13 ∨ q = 14 ∨ q = 15 ∨ q = 16 ∨ q = 17 ∨ q = 18 ∨ q = 19 ∨ q = 20 ∨ q = 21 ∨ q = 22 ∨ q = 23 ∨ 24 ≤ q by omega) with rfl | rfl | rfl | rfl | rfl | rfl | rfl | rfl | rfl | rfl | rfl | rfl | rfl | rfl | rfl | rfl | rfl | rfl | rfl | rfl | rfl | rfl | rfl | rfl | hq2
    · refine e_tswI (off := 112) (tgt := 172) rfl (by decide) (by decide) rfl (by decide) ?_
      exact ee_sub od_m_Zc0 ⟨rfl, rfl, rfl, rfl⟩ (c_0 hfl hL hiL H hcc IH)
    · refine e_tswI (off := 192) (tgt := 252) rfl (by decide) (by decide) rfl (by decide) ?_
      exact ee_sub od_m_Zc1 ⟨rfl, rfl, rfl, rfl⟩ (c_1 hfl hL hiL H hcc IH)
    · refine e_tswI (off := 248) (tgt := 308) rfl (by decide) (by decide) rfl (by decide) ?_
      exact ee_sub od_m_Zc2 ⟨rfl, rfl, rfl, rfl⟩ (c_2 hfl hL hiL H hcc IH)
    · refine e_tswI (off := 363) (tgt := 423) rfl (by decide) (by decide) rfl (by decide) ?_
      exact ee_sub od_m_Zc3 ⟨rfl, rfl, rfl, rfl⟩ (c_3 hfl hL hiL H hcc IH)
    · refine e_tswI (off := 450) (tgt := 510) rfl (by decide) (by decide) rfl (by decide) ?_
      exact ee_sub od_m_Zc4 ⟨rfl, rfl, rfl, rfl⟩ (c_4 hfl hL hiL H hcc IH)
    · refine e_tswI (off := 568) (tgt := 628) rfl (by decide) (by decide) rfl (by decide) ?_
      exact ee_sub od_m_Zc5 ⟨rfl, rfl, rfl, rfl⟩ (c_5 hfl hL hiL H hcc IH)
    · refine e_tswI (off := 648) (tgt := 708) rfl (by decide) (by decide) rfl (by decide) ?_
      exact ee_sub od_m_Zc6 ⟨rfl, rfl, rfl, rfl⟩ (c_6 hfl hL hiL H hcc IH)
    · refine e_tswI (off := 723) (tgt := 783) rfl (by decide) (by decide) rfl (by decide) ?_
      exact ee_sub od_m_Zc7 ⟨rfl, rfl, rfl, rfl⟩ (c_7 hfl hL hiL H hcc IH)
    · refine e_tswI (off := 810) (tgt := 870) rfl (by decide) (by decide) rfl (by decide) ?_
      exact ee_sub od_m_Zc8 ⟨rfl, rfl, rfl, rfl⟩ (c_8 hfl hL hiL H hcc IH)
    · refine e_tswI (off := 878) (tgt := 938) rfl (by decide) (by decide) rfl (by decide) ?_
      exact ee_sub od_m_Zc9 ⟨rfl, rfl, rfl, rfl⟩ (c_9 hfl hL hiL H hcc IH)
    · refine e_tswI (off := 946) (tgt := 1006) rfl (by decide) (by decide) rfl (by decide) ?_
      exact ee_sub od_m_Zc10 ⟨rfl, rfl, rfl, rfl⟩ (c_10 hfl hL hiL H hcc IH)
    · refine e_tswI (off := 1014) (tgt := 1074) rfl (by decide) (by decide) rfl (by decide) ?_
      exact ee_sub od_m_Zc11 ⟨rfl, rfl, rfl, rfl⟩ (c_11 hfl hL hiL H hcc IH)
    · refine e_tswI (off := 1027) (tgt := 1087) rfl (by decide) (by decide) rfl (by decide) ?_
      exact ee_sub od_m_Zc12 ⟨rfl, rfl, rfl, rfl⟩ (c_12 hfl hL hiL H hcc IH)
    · refine e_tswI (off := 1095) (tgt := 1155) rfl (by decide) (by decide) rfl (by decide) ?_
      exact ee_sub od_m_Zc13 ⟨rfl, rfl, rfl, rfl⟩ (c_13 hfl hL hiL H hcc IH)
    · refine e_tswI (off := 1108) (tgt := 1168) rfl (by decide) (by decide) rfl (by decide) ?_
      exact ee_sub od_m_Zc14 ⟨rfl, rfl, rfl, rfl⟩ (c_14 hfl hL hiL H hcc IH)
    · refine e_tswI (off := 1121) (tgt := 1181) rfl (by decide) (by decide) rfl (by decide) ?_
      exact ee_sub od_m_Zc15 ⟨rfl, rfl, rfl, rfl⟩ (c_15 hfl hL hiL H hcc IH)
    · refine e_tswI (off := 1196) (tgt := 1256) rfl (by decide) (by decide) rfl (by decide) ?_
      exact ee_sub od_m_Zc16 ⟨rfl, rfl, rfl, rfl⟩ (c_16 hfl hL hiL H hcc IH)
    · refine e_tswI (off := 1209) (tgt := 1269) rfl (by decide) (by decide) rfl (by decide) ?_
      exact ee_sub od_m_Zc17 ⟨rfl, rfl, rfl, rfl⟩ (c_17 hfl hL hiL H hcc IH)
    · refine e_tswI (off := 1265) (tgt := 1325) rfl (by decide) (by decide) rfl (by decide) ?_
      exact ee_sub od_m_Zc18 ⟨rfl, rfl, rfl, rfl⟩ (c_18 hfl hL hiL H hcc IH)
    · refine e_tswI (off := 1321) (tgt := 1381) rfl (by decide) (by decide) rfl (by decide) ?_
      exact ee_sub od_m_Zc19 ⟨rfl, rfl, rfl, rfl⟩ (c_19 hfl hL hiL H hcc IH)
    · refine e_tswI (off := 1365) (tgt := 1425) rfl (by decide) (by decide) rfl (by decide) ?_
      exact ee_sub od_m_Zc20 ⟨rfl, rfl, rfl, rfl⟩ (c_20 hfl hL hiL H hcc IH)
    · refine e_tswI (off := 1378) (tgt := 1438) rfl (by decide) (by decide) rfl (by decide) ?_
      exact ee_sub od_m_Zc21 ⟨rfl, rfl, rfl, rfl⟩ (c_21 hfl hL hiL H hcc IH)
    · refine e_tswI (off := 1446) (tgt := 1506) rfl (by decide) (by decide) rfl (by decide) ?_
      exact ee_sub od_m_Zc22 ⟨rfl, rfl, rfl, rfl⟩ (c_22 hfl hL hiL H hcc IH)
    · refine e_tswI (off := 1471) (tgt := 1531) rfl (by decide) (by decide) rfl (by decide) ?_
      exact ee_sub od_m_Zc23 ⟨rfl, rfl, rfl, rfl⟩ (c_23 hfl hL hiL H hcc IH)
    · refine e_tswO (tgt := 1542) rfl (Or.inr (by rw [nI_toInt (by omega)]; omega)) (by decide) ?_
      refine e_inc 7 rfl rfl rfl rfl ?_
      refine e_goto rfl ?_
      try dsimp only [List.set]
      rw [show nI i + 7 = nI (i + 7) from nI_add i 7]
      exact ee_sub od_Z_law ⟨rfl, rfl, rfl, rfl⟩ (IH _ _ _ _ _ H (Nat.le_succ _) (Nat.le_add_right _ 6))
set_option maxRecDepth 100000 in
theorem cl_Z_8 : Jvm.Cond.classLink "HalftoneRegionsLaw" 8 R_H ∈ gw := gw_in (List.mem_of_getElem? (i := 73) rfl) rfl
set_option maxRecDepth 100000 in
theorem cl_Z_82 : Jvm.Cond.classLink "HalftoneRegionsLaw" 82 R_M ∈ gw := gw_in (List.mem_of_getElem? (i := 884) rfl) rfl
set_option maxHeartbeats 4000000 in
set_option maxRecDepth 40000 in
theorem lw_body {l : Launch} {b L : Nat} {xs : Nat → Int32} {S0 : St} (hfl : l.flags = Jvm.pinnedFlags ++ [Jvm.noTraceFlag]) (hL : L ≤ 3586) : EE l [] room_1 m_Z_law (zG F9L 0 [] (zLw b L xs (zZ b))) 0 0 0 (lvIn [aR 99] 7) [] S0 := by
  obtain ⟨w, w1, w32, ew⟩ := cl9_n (cl0 L xs 0)
  obtain ⟨h, h1, h32, eh⟩ := cl9_n (cl0 L xs 1)
  refine ee_sub od_m_Zh ⟨rfl, rfl, rfl, rfl⟩ ?_
  refine e_newO (ci := 8) (fl := [none, none, some 1000, some 1000, some 1000, some 1000, some 1000, some 1000, some 1000, some 1000, some 1000, none, none, none, none]) (nf := 34) rfl cl_Z_8 in9_H ii9_H rfl ty_H_ok df_H (Nat.le_of_ble_eq_true rfl) (Nat.lt_of_lt_of_le (Nat.lt_of_succ_le (Nat.le_of_ble_eq_true rfl)) (Nat.le_refl 34)) (zLw_blind (by decide)) rfl rfl rfl ⟨Nat.le_of_ble_eq_true rfl, Nat.le_of_ble_eq_true rfl⟩ ?_
  change EE l (WD30 h) _ _ (zG _ _ (WD30 h) _) _ _ _ _ _ _
  iterate 2 refine e_sp rfl rfl rfl ?_
  refine e_ci 0 rfl rfl ?_
  refine e_callSC (k := 0) hL (by decide) rfl ll_74 ⟨Nat.le_of_ble_eq_true rfl, Nat.le_of_ble_eq_true rfl⟩ ⟨Nat.le_of_ble_eq_true rfl, Nat.le_of_ble_eq_true rfl⟩ (Nat.le_of_ble_eq_true rfl) ?_
  iterate 1 refine e_sp rfl rfl rfl ?_
  refine e_ci 1 rfl rfl ?_
  refine e_callSC (k := 1) hL (by decide) rfl ll_74 ⟨Nat.le_of_ble_eq_true rfl, Nat.le_of_ble_eq_true rfl⟩ ⟨Nat.le_of_ble_eq_true rfl, Nat.le_of_ble_eq_true rfl⟩ (Nat.le_of_ble_eq_true rfl) ?_
  refine e_callI (nf := 34) ok_H_init rfl ll_79 (n_H_0 eh h1 h32) rfl rfl rfl ⟨Nat.le_of_ble_eq_true rfl, Nat.le_of_ble_eq_true rfl⟩ ⟨Nat.le_of_ble_eq_true rfl, Nat.le_of_ble_eq_true rfl⟩ (Nat.le_of_ble_eq_true rfl) (Nat.le_of_ble_eq_true rfl) (Nat.le_of_ble_eq_true rfl) (Nat.le_of_ble_eq_true rfl) (zLw_blind (by decide)) rfl rfl (fun _ hq9 => ?_)
  subst hq9
  iterate 1 refine e_sp rfl rfl rfl ?_
  refine e_newO (ci := 9) (fl := [none, none, none, some 1000, some 1000, none, none, none, some 1000, none, none, none, none, none, none, some 1000, none, none, none, some 1000, none, none, some 1000, none, some 1000, some 1000, some 1000, some 1000, some 1000, none, none, none, none, none, none, none, none, none]) (nf := 34) rfl cl_Z_82 in9_M ii9_M rfl ty_M_ok df_M (Nat.le_of_ble_eq_true rfl) (Nat.lt_of_lt_of_le (Nat.lt_of_succ_le (Nat.le_of_ble_eq_true rfl)) (Nat.le_refl 34)) (zLw_blind (by decide)) rfl rfl rfl ⟨Nat.le_of_ble_eq_true rfl, Nat.le_of_ble_eq_true rfl⟩ ?_
  change EE l (WD41 h) _ _ (zG _ _ (WD41 h) _) _ _ _ _ _ _
  iterate 2 refine e_sp rfl rfl rfl ?_
  refine e_ci 0 rfl rfl ?_
  refine e_callSC (k := 0) hL (by decide) rfl ll_74 ⟨Nat.le_of_ble_eq_true rfl, Nat.le_of_ble_eq_true rfl⟩ ⟨Nat.le_of_ble_eq_true rfl, Nat.le_of_ble_eq_true rfl⟩ (Nat.le_of_ble_eq_true rfl) ?_
  iterate 1 refine e_sp rfl rfl rfl ?_
  refine e_ci 1 rfl rfl ?_
  refine e_callSC (k := 1) hL (by decide) rfl ll_74 ⟨Nat.le_of_ble_eq_true rfl, Nat.le_of_ble_eq_true rfl⟩ ⟨Nat.le_of_ble_eq_true rfl, Nat.le_of_ble_eq_true rfl⟩ (Nat.le_of_ble_eq_true rfl) ?_
  refine e_callI (nf := 34) ok_M_init rfl ll_84 (n_M_21 eh) rfl rfl rfl ⟨Nat.le_of_ble_eq_true rfl, Nat.le_of_ble_eq_true rfl⟩ ⟨Nat.le_of_ble_eq_true rfl, Nat.le_of_ble_eq_true rfl⟩ (Nat.le_of_ble_eq_true rfl) (Nat.le_of_ble_eq_true rfl) (Nat.le_of_ble_eq_true rfl) (Nat.le_of_ble_eq_true rfl) (zLw_blind (by decide)) rfl rfl (fun _ hq9 => ?_)
  subst hq9
  iterate 1 refine e_sp rfl rfl rfl ?_
  refine e_ci 1 rfl rfl ?_
  refine e_newA (N := 1) (nf := 34) rfl rfl (by decide) aw_long (by decide) (by decide) (by decide) (Nat.le_of_ble_eq_true rfl) (Nat.lt_of_lt_of_le (Nat.lt_of_succ_le (Nat.le_of_ble_eq_true rfl)) (Nat.le_refl 34)) (zLw_blind (by decide)) rfl rfl rfl ⟨Nat.le_of_ble_eq_true rfl, Nat.le_of_ble_eq_true rfl⟩ ?_
  change EE l (SHw h) _ _ (zG _ _ (SHw h) _) _ _ _ _ _ _
  iterate 1 refine e_sp rfl rfl rfl ?_
  refine e_ci 2 rfl rfl ?_
  iterate 1 refine e_sp rfl rfl rfl ?_
  refine ee_sub od_Z_law ⟨rfl, rfl, rfl, rfl⟩ ?_
  refine lw_loop (h := h) (w := w) hfl hL 512 2 _ _ _ none none (by decide) (by omega) (Nat.le_of_ble_eq_true rfl) (Nat.le_of_ble_eq_true rfl) ?_
  have R0 : Rl h w (mS9 (nz (hS9 (nz S0 0) (cl9 (cl0 L xs 0)) h) 21) (cl9 (cl0 L xs 0)) h) (mS9 (nz (hS9 (nz S0 0) (cl9 (cl0 L xs 0)) h) 21) (cl9 (cl0 L xs 0)) h) := by
    rw [ew]
    exact q_init (S := S0) h1 h32 w1 w32 _ rfl
  refine R0.mvw (fun o k ho _ _ _ _ => ?_) (fun k => ?_) (fun o k ho ho2 _ => ?_)
  · exact (nz_at (o := 33)).trans (if_neg (by omega))
  · exact (nz_2 (o := 33)).trans (if_neg (by decide))
  · exact (nz_at (o := 33)).trans (if_neg (by omega))
