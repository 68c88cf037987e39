/-! the reference: encode -/
def emB (T : St) (p : Int32) (k : Nat) : Int32 := if T.1 25 k >>> (p &&& 31) &&& 1 = T.1 25 k >>> ((p + 1) &&& 31) &&& 1 then 0 else 1
def emG (T : St) (r k : Nat) (c bit ft : Int32) : St × Nat := if bit = ft then (leM (puI T 30 k (vp_nar .boolean bit)) c bit, r + 1) else (leM (puI (mrS T r) 30 k (vp_nar .boolean bit)) c bit, 0)
def emF (p : Int32) (k : Nat) (x : St × Nat) : St × Nat :=
  if hpM x.1 (nI (k % 16)) (nI (k / 16)) = 0 then x else if skM x.1 (nI (k % 16)) (nI (k / 16)) = 0 then
    emG x.1 x.2 k (ctM x.1 (nI (k % 16)) (nI (k / 16))) (emB x.1 p k) (if x.1.1 28 (ctM x.1 (nI (k % 16)) (nI (k / 16))).toNatClampNeg < 0 then 0 else 1)
  else x
/-- what the planes keep: fields of cell 21 that encode does not write, and all cells that it does not write -/
def emI (S T : St) : Prop := (∀ k, k ≠ 20 → k ≠ 29 → k ≠ 30 → k ≠ 31 → T.1 21 k = S.1 21 k) ∧ T.1 25 = S.1 25
theorem emG_cases {T : St} {r k : Nat} {c bit ft : Int32} (P : St × Nat → Prop) (h1 : P (leM (puI T 30 k (vp_nar .boolean bit)) c bit, r + 1)) (h2 : P (leM (puI (mrS T r) 30 k (vp_nar .boolean bit)) c bit, 0)) : P (emG T r k c bit ft) := by
  unfold emG
  split
  · exact h1
  · exact h2
theorem emF_cases {p : Int32} {k : Nat} {x : St × Nat} (P : St × Nat → Prop) (h0 : P x) (h1 : ∀ c bit, P (leM (puI x.1 30 k (vp_nar .boolean bit)) c bit, x.2 + 1)) (h2 : ∀ c bit, P (leM (puI (mrS x.1 x.2) 30 k (vp_nar .boolean bit)) c bit, 0)) : P (emF p k x) := by
  unfold emF
  split
  · exact h0
  · split
    · exact emG_cases P (h1 _ _) (h2 _ _)
    · exact h0
theorem lp_o {T : St} {k : Nat} {b c bit : Int32} {o : Nat} (h : o ≠ 28) (h2 : o ≠ 29) (h3 : o ≠ 30) : (leM (puI T 30 k b) c bit).1 o = T.1 o ∧ (leM (puI T 30 k b) c bit).2 = T.2 := ⟨by rw [(leM_o h h2).1, puI_o h3], rfl⟩
def emN (a n : Nat) (x : St × Nat) : Prop := bitsOK a x.1 ∧ x.2 ≤ n
theorem emF_N {p : Int32} {k a n : Nat} {x : St × Nat} (h : emN a n x) (hn : n < 2 ^ 31) : emN (a + 25) (n + 1) (emF p k x) := by
  have h9 := h
  obtain ⟨hb, hr⟩ := h
  refine emF_cases (emN (a + 25) (n + 1)) ⟨hb.mono (by omega), by omega⟩ (fun c bit => ⟨?_, by show x.2 + 1 ≤ n + 1; omega⟩) (fun c bit => ⟨?_, Nat.zero_le _⟩)
  · obtain ⟨q, h1, h2⟩ := hb
    exact ⟨q, by omega, by rw [(lp_o (by decide) (by decide) (by decide)).1]; exact h2⟩
  · obtain ⟨q, h1, h2⟩ := mrS_bits hb (show x.2 < 2 ^ 31 by omega)
    exact ⟨q, h1, by rw [(lp_o (by decide) (by decide) (by decide)).1]; exact h2⟩
theorem emF_I {S : St} {p : Int32} {k : Nat} {x : St × Nat} (h : emI S x.1) : emI S (emF p k x).1 := by
  refine emF_cases (fun y => emI S y.1) h (fun c bit => ⟨fun q q1 q2 q3 q4 => ?_, ?_⟩) (fun c bit => ⟨fun q q1 q2 q3 q4 => ?_, ?_⟩)
  · rw [(lp_o (by decide) (by decide) (by decide)).1]; exact h.1 q q1 q2 q3 q4
  · rw [(lp_o (by decide) (by decide) (by decide)).1]; exact h.2
  · rw [(lp_o (by decide) (by decide) (by decide)).1, mrS_k q1 q2 q3 q4]; exact h.1 q q1 q2 q3 q4
  · rw [(lp_o (by decide) (by decide) (by decide)).1, (mrS_o (by decide) (by decide)).1]; exact h.2
theorem emN_N {p : Int32} {a n : Nat} : ∀ (i : Nat) (x : St × Nat), emN a n x → n + i < 2 ^ 31 → emN (a + 25 * i) (n + i) (nF (emF p) i x)
  | 0, _, h, _ => h
  | i + 1, x, h, hn => by
    have h1 := emF_N (p := p) (k := i) (emN_N (p := p) i x h (by omega)) (by omega)
    rw [show a + 25 * (i + 1) = a + 25 * i + 25 by omega]
    exact h1
theorem emN_I {S : St} {p : Int32} (i : Nat) (x : St × Nat) (h : emI S x.1) : emI S (nF (emF p) i x).1 := nF_inv (f := emF p) (fun y => emI S y.1) (fun _ _ hy => emF_I hy) i x h
theorem nxM_I {S T : St} (h : emI S T) : emI S (nxM T) := ⟨fun q q1 q2 q3 q4 => by rw [(nxM_o (by decide) (by decide) (by decide) (by decide)).1]; exact h.1 q q1 q2 q3 q4, by rw [(nxM_o (by decide) (by decide) (by decide) (by decide)).1]; exact h.2⟩
theorem nxM_bits {a : Nat} {T : St} (h : bitsOK a T) : bitsOK a (nxM T) := by
  obtain ⟨q, h1, h2⟩ := h
  exact ⟨q, h1, by rw [(nxM_o (by decide) (by decide) (by decide) (by decide)).1]; exact h2⟩
def epF (p : Int32) (x : St × Nat) : St × Nat := nF (emF p) 256 (nxM x.1, x.2)
theorem epF_I {S : St} {p : Int32} {x : St × Nat} (h : emI S x.1) : emI S (epF p x).1 := by
  unfold epF
  exact emN_I _ _ (nxM_I h)
theorem epF_N {p : Int32} {a n : Nat} {x : St × Nat} (h : emN a n x) (hn : n + 256 < 2 ^ 31) : emN (a + 25 * 256) (n + 256) (epF p x) := by
  unfold epF
  exact emN_N _ _ ⟨nxM_bits h.1, h.2⟩ hn
def epM : Nat → St × Nat → St × Nat
  | 0, x => x
  | n + 1, x => epM n (epF (nI n) x)
def ee0 (S : St) : St := brM (puI (puI S 21 0 0) 21 20 0)
def ee1 (S : St) (m : Nat) : St × Nat := epM (bl 6 m) (ee0 S, 0)
def ee2 (S : St) (m : Nat) : St := mrS (ee1 S m).1 (ee1 S m).2
def eeR (T : St) : Int32 := (T.1 21 20 + 7) / 8
def eeT (T : St) : St := puI T 21 21 (eeR T)
theorem brM_o {S : St} {o : Nat} (h : o ≠ 21) (h1 : o ≠ 28) (h2 : o ≠ 29) (h3 : o ≠ 30) (h4 : o ≠ 31) : (brM S).1 o = S.1 o ∧ (brM S).2 = S.2 := ⟨by unfold brM; rw [(npM_o h1 h2).1, flI_o h4, flI_o h3, puI_o h, puI_o h, puI_o h], rfl⟩
theorem brM_k {S : St} {k : Nat} (h : k ≠ 29) (h1 : k ≠ 30) (h2 : k ≠ 31) : (brM S).1 21 k = S.1 21 k := by
  unfold brM
  rw [(npM_o (by decide) (by decide)).1, flI_o (by decide), flI_o (by decide)]
  simp [puI, pt, upd, h, h1, h2]
theorem emG_00 {T : St} {r k : Nat} {c : Int32} : emG T r k c 0 0 = (leM (puI T 30 k (vp_nar .boolean 0)) c 0, r + 1) := if_pos rfl
theorem emG_11 {T : St} {r k : Nat} {c : Int32} : emG T r k c 1 1 = (leM (puI T 30 k (vp_nar .boolean 1)) c 1, r + 1) := if_pos rfl
theorem emG_01 {T : St} {r k : Nat} {c : Int32} : emG T r k c 0 1 = (leM (puI (mrS T r) 30 k (vp_nar .boolean 0)) c 0, 0) := if_neg (by decide)
theorem emG_10 {T : St} {r k : Nat} {c : Int32} : emG T r k c 1 0 = (leM (puI (mrS T r) 30 k (vp_nar .boolean 1)) c 1, 0) := if_neg (by decide)
set_option maxHeartbeats 4000000 in
set_option maxRecDepth 40000 in
theorem k_M_encodeK {l : Launch} {h : Nat} {T : St} {Q0 : Option AV → St → Prop} {c r n rr a b : Nat} (hc : T.1 21 9 = nI c) (hr : T.1 21 10 = nI r) (hc2 : c ≤ 16) (hr2 : r ≤ 16) (hb : bitsOK a T) (ha : a + 25 * 256 ≤ 60000) (hrr0 : rr ≤ b) (hb2 : b + 256 < 2 ^ 31) (kn : ∀ z3 z4 z5 z6 z7, E0 l (SHm h) (4, 89) m_M_encode 23 [some (aR 21), some (aI (nI (epF (nI n) (T, rr)).2)), some (aI (nI n - 1)), z3, z4, z5, z6, z7] [] (epF (nI n) (T, rr)).1 Q0) (z4 z5 z6 z7 : Option AV) : E0 l (SHm h) (4, 89) m_M_encode 33 [some (aR 21), some (aI (nI rr)), some (aI (nI n)), some (aI (nI 0)), z4, z5, z6, z7] [] (nxM T) Q0 := by
  have hI : ∀ k, emI T (nF (emF (nI n)) k (nxM T, rr)).1 := fun k => emN_I k _ (nxM_I ⟨fun _ _ _ _ _ => rfl, rfl⟩)
  have hcc : ∀ k, (nF (emF (nI n)) k (nxM T, rr)).1.1 21 9 = nI c := fun k => ((hI k).1 9 (by decide) (by decide) (by decide) (by decide)).trans hc
  have hrr : ∀ k, (nF (emF (nI n)) k (nxM T, rr)).1.1 21 10 = nI r := fun k => ((hI k).1 10 (by decide) (by decide) (by decide) (by decide)).trans hr
  have hN : ∀ k, k < 256 → bitsOK (a + 25 * k) (nF (emF (nI n)) k (nxM T, rr)).1 ∧ (nF (emF (nI n)) k (nxM T, rr)).2 < 2 ^ 31 ∧ a + 25 * k + 25 ≤ 60000 := fun k hk => by
    have h9 := emN_N (p := nI n) (a := a) (n := b) k (nxM T, rr) ⟨nxM_bits hb, hrr0⟩ (by omega)
    have h8 := h9.2
    exact ⟨h9.1, by omega, by omega⟩
  have L1 := e_for (P := fun k => ∀ z4 z5 z6 z7, E0 l (SHm h) (4, 89) m_M_encode 33 [some (aR 21), some (aI (nI (nF (emF (nI n)) k (nxM T, rr)).2)), some (aI (nI n)), some (aI (nI k)), z4, z5, z6, z7] [] ((nF (emF (nI n)) k (nxM T, rr)).1) (Q0)) (256) (by
      intro z4 z5 z6 z7
      iterate 1 refine e_sp rfl rfl rfl ?_
      refine e_cs 256 rfl rfl ?_
      refine e_icge rfl (fun h1 => ?_) (fun h1 => ?_)
      · refine e_inc (-1) rfl rfl rfl rfl ?_
        refine e_goto rfl ?_
        try dsimp only
        rw [show nI n + (-1) = nI n - 1 from (Int32.sub_eq_add_neg _ _).symm]
        have kn2 := kn
        unfold epF at kn2
        dsimp only at kn2
        exact kn2 _ _ _ _ _
      · try dsimp only
        exact absurd (nI_le (Nat.le_refl _) (by decide)) h1) (fun k hk ihk => by
      intro z4 z5 z6 z7
      iterate 1 refine e_sp rfl rfl rfl ?_
      refine e_cs 256 rfl rfl ?_
      refine e_icge rfl (fun h1 => ?_) (fun h1 => ?_)
      · try dsimp only
        exact absurd h1 (nI_ge hk (by decide))
      · iterate 1 refine e_sp rfl rfl rfl ?_
        refine e_cb 16 rfl rfl ?_
        refine e_rem rfl (by decide) ?_
        try dsimp only
        rw [show (16 : Int32) = nI 16 from rfl, rmd 16 (by omega) (by decide) (by decide)]
        iterate 2 refine e_sp rfl rfl rfl ?_
        refine e_cb 16 rfl rfl ?_
        refine e_div rfl (by decide) ?_
        try dsimp only
        rw [show (16 : Int32) = nI 16 from rfl, dvd9 16 (by omega) (by decide) (by decide)]
        iterate 4 refine e_sp rfl rfl rfl ?_
        refine e_callV1 ok_M_hasPlace rfl lk_M_141 (by rfl) (by rfl) k_M_hasPlace rfl rfl ⟨Nat.le_of_ble_eq_true rfl, Nat.le_of_ble_eq_true rfl⟩ ⟨Nat.zero_le _, Nat.zero_le _⟩ (Nat.le_of_ble_eq_true rfl) ?_
        refine e_ifeq rfl (fun h2 => ?_) (fun h2 => ?_)
        · refine e_inc 1 rfl rfl rfl rfl ?_
          refine e_goto rfl ?_
          try dsimp only
          simp only [nI_1]
          simp only [nF] at ihk
          rw [emF] at ihk
          (first | rw [if_pos h2] at ihk | rw [if_neg h2] at ihk)
          exact ihk _ _ _ _
        · iterate 3 refine e_sp rfl rfl rfl ?_
          refine e_callV1 ok_M_isSkipped rfl lk_M_196 (by rfl) (by rfl) k_M_isSkipped rfl rfl ⟨Nat.le_of_ble_eq_true rfl, Nat.le_of_ble_eq_true rfl⟩ ⟨Nat.zero_le _, Nat.zero_le _⟩ (Nat.le_of_ble_eq_true rfl) ?_
          refine e_ifne rfl (fun h3 => ?_) (fun h3 => ?_)
          · refine e_inc 1 rfl rfl rfl rfl ?_
            refine e_goto rfl ?_
            try dsimp only
            simp only [nI_1]
            simp only [nF] at ihk
            rw [emF] at ihk
            (first | rw [if_pos h2] at ihk | rw [if_neg h2] at ihk)
            (first | rw [if_pos h3] at ihk | rw [if_neg h3] at ihk)
            exact ihk _ _ _ _
          · iterate 3 refine e_sp rfl rfl rfl ?_
            refine e_iald rfl (by first | rfl | assumption) (by exact vp_in_nI hk (by decide)) ?_
            rw [nI_clamp (by omega)]
            iterate 2 refine e_sp rfl rfl rfl ?_
            refine e_ci 1 rfl rfl ?_
            iterate 4 refine e_sp rfl rfl rfl ?_
            refine e_iald rfl (by first | rfl | assumption) (by exact vp_in_nI hk (by decide)) ?_
            rw [nI_clamp (by omega)]
            iterate 1 refine e_sp rfl rfl rfl ?_
            refine e_ci 1 rfl rfl ?_
            iterate 2 refine e_sp rfl rfl rfl ?_
            refine e_ci 1 rfl rfl ?_
            iterate 1 refine e_sp rfl rfl rfl ?_
            refine e_iceq rfl (fun h4 => ?_) (fun h4 => ?_)
            · refine e_ci 0 rfl rfl ?_
              iterate 4 refine e_sp rfl rfl rfl ?_
              refine e_callV1 ok_M_contextOf rfl lk_M_199 (by rfl) (by rfl) (k_M_contextOf (hcc k) (hrr k) hc2 hr2 (by omega) (by omega)) rfl rfl ⟨Nat.le_of_ble_eq_true rfl, Nat.le_of_ble_eq_true rfl⟩ ⟨Nat.zero_le _, Nat.zero_le _⟩ (Nat.le_of_ble_eq_true rfl) ?_
              iterate 5 refine e_sp rfl rfl rfl ?_
              refine e_iald rfl (by first | rfl | assumption) (by exact ctM_in _ _ _) ?_
              refine e_iflt rfl (fun h5 => ?_) (fun h5 => ?_)
              · refine e_ci 0 rfl rfl ?_
                refine e_icne rfl (fun h6 => absurd h6 (by first | decide | simp [puI, pt, upd])) (fun _ => ?_)
                refine e_inc 1 rfl rfl rfl rfl ?_
                refine e_goto rfl ?_
                iterate 4 refine e_sp rfl rfl rfl ?_
                refine e_zast rfl (by first | rfl | assumption) (by exact vp_in_nI hk (by decide)) ?_
                rw [nI_clamp (by omega)]
                iterate 3 refine e_sp rfl rfl rfl ?_
                refine e_callV0 ok_M_learn rfl lk_M_205 (by rfl) (by rfl) (k_M_learn (ctM_in _ _ _)) rfl rfl ⟨Nat.le_of_ble_eq_true rfl, Nat.le_of_ble_eq_true rfl⟩ ⟨Nat.zero_le _, Nat.zero_le _⟩ (Nat.le_of_ble_eq_true rfl) ?_
                refine e_inc 1 rfl rfl rfl rfl ?_
                refine e_goto rfl ?_
                try dsimp only
                simp only [nI_1]
                simp only [nF] at ihk
                rw [emF] at ihk
                (first | rw [if_pos h2] at ihk | rw [if_neg h2] at ihk)
                (first | rw [if_pos h3] at ihk | rw [if_neg h3] at ihk)
                rw [emB] at ihk
                (first | rw [if_pos h4] at ihk | rw [if_neg h4] at ihk)
                (first | rw [if_pos h5] at ihk | rw [if_neg h5] at ihk)
                first | rw [emG_00] at ihk | rw [emG_11] at ihk | rw [emG_01] at ihk | rw [emG_10] at ihk
                exact ihk _ _ _ _
              · refine e_ci 1 rfl rfl ?_
                refine e_goto rfl ?_
                refine e_icne rfl (fun _ => ?_) (fun h7 => absurd h7 (by first | decide | simp [puI, pt, upd]))
                iterate 2 refine e_sp rfl rfl rfl ?_
                refine e_callV0 ok_M_writeRun rfl lk_M_202 (by rfl) (by rfl) (k_M_writeRun (hN k hk).2.1 (hN k hk).1 (hN k hk).2.2) rfl rfl ⟨Nat.le_of_ble_eq_true rfl, Nat.le_of_ble_eq_true rfl⟩ ⟨Nat.zero_le _, Nat.zero_le _⟩ (Nat.le_of_ble_eq_true rfl) ?_
                refine e_ci 0 rfl rfl ?_
                iterate 5 refine e_sp rfl rfl rfl ?_
                refine e_zast rfl (by first | rfl | assumption) (by exact vp_in_nI hk (by decide)) ?_
                rw [nI_clamp (by omega)]
                iterate 3 refine e_sp rfl rfl rfl ?_
                refine e_callV0 ok_M_learn rfl lk_M_205 (by rfl) (by rfl) (k_M_learn (ctM_in _ _ _)) rfl rfl ⟨Nat.le_of_ble_eq_true rfl, Nat.le_of_ble_eq_true rfl⟩ ⟨Nat.zero_le _, Nat.zero_le _⟩ (Nat.le_of_ble_eq_true rfl) ?_
                refine e_inc 1 rfl rfl rfl rfl ?_
                refine e_goto rfl ?_
                try dsimp only
                simp only [nI_1]
                simp only [nF] at ihk
                rw [emF] at ihk
                (first | rw [if_pos h2] at ihk | rw [if_neg h2] at ihk)
                (first | rw [if_pos h3] at ihk | rw [if_neg h3] at ihk)
                rw [emB] at ihk
                (first | rw [if_pos h4] at ihk | rw [if_neg h4] at ihk)
                (first | rw [if_pos h5] at ihk | rw [if_neg h5] at ihk)
                first | rw [emG_00] at ihk | rw [emG_11] at ihk | rw [emG_01] at ihk | rw [emG_10] at ihk
                exact ihk _ _ _ _
            · refine e_ci 1 rfl rfl ?_
              refine e_goto rfl ?_
              iterate 4 refine e_sp rfl rfl rfl ?_
              refine e_callV1 ok_M_contextOf rfl lk_M_199 (by rfl) (by rfl) (k_M_contextOf (hcc k) (hrr k) hc2 hr2 (by omega) (by omega)) rfl rfl ⟨Nat.le_of_ble_eq_true rfl, Nat.le_of_ble_eq_true rfl⟩ ⟨Nat.zero_le _, Nat.zero_le _⟩ (Nat.le_of_ble_eq_true rfl) ?_
              iterate 5 refine e_sp rfl rfl rfl ?_
              refine e_iald rfl (by first | rfl | assumption) (by exact ctM_in _ _ _) ?_
              refine e_iflt rfl (fun h8 => ?_) (fun h8 => ?_)
              · refine e_ci 0 rfl rfl ?_
                refine e_icne rfl (fun _ => ?_) (fun h9 => absurd h9 (by first | decide | simp [puI, pt, upd]))
                iterate 2 refine e_sp rfl rfl rfl ?_
                refine e_callV0 ok_M_writeRun rfl lk_M_202 (by rfl) (by rfl) (k_M_writeRun (hN k hk).2.1 (hN k hk).1 (hN k hk).2.2) rfl rfl ⟨Nat.le_of_ble_eq_true rfl, Nat.le_of_ble_eq_true rfl⟩ ⟨Nat.zero_le _, Nat.zero_le _⟩ (Nat.le_of_ble_eq_true rfl) ?_
                refine e_ci 0 rfl rfl ?_
                iterate 5 refine e_sp rfl rfl rfl ?_
                refine e_zast rfl (by first | rfl | assumption) (by exact vp_in_nI hk (by decide)) ?_
                rw [nI_clamp (by omega)]
                iterate 3 refine e_sp rfl rfl rfl ?_
                refine e_callV0 ok_M_learn rfl lk_M_205 (by rfl) (by rfl) (k_M_learn (ctM_in _ _ _)) rfl rfl ⟨Nat.le_of_ble_eq_true rfl, Nat.le_of_ble_eq_true rfl⟩ ⟨Nat.zero_le _, Nat.zero_le _⟩ (Nat.le_of_ble_eq_true rfl) ?_
                refine e_inc 1 rfl rfl rfl rfl ?_
                refine e_goto rfl ?_
                try dsimp only
                simp only [nI_1]
                simp only [nF] at ihk
                rw [emF] at ihk
                (first | rw [if_pos h2] at ihk | rw [if_neg h2] at ihk)
                (first | rw [if_pos h3] at ihk | rw [if_neg h3] at ihk)
                rw [emB] at ihk
                (first | rw [if_pos h4] at ihk | rw [if_neg h4] at ihk)
                (first | rw [if_pos h8] at ihk | rw [if_neg h8] at ihk)
                first | rw [emG_00] at ihk | rw [emG_11] at ihk | rw [emG_01] at ihk | rw [emG_10] at ihk
                exact ihk _ _ _ _
              · refine e_ci 1 rfl rfl ?_
                refine e_goto rfl ?_
                refine e_icne rfl (fun h10 => absurd h10 (by first | decide | simp [puI, pt, upd])) (fun _ => ?_)
                refine e_inc 1 rfl rfl rfl rfl ?_
                refine e_goto rfl ?_
                iterate 4 refine e_sp rfl rfl rfl ?_
                refine e_zast rfl (by first | rfl | assumption) (by exact vp_in_nI hk (by decide)) ?_
                rw [nI_clamp (by omega)]
                iterate 3 refine e_sp rfl rfl rfl ?_
                refine e_callV0 ok_M_learn rfl lk_M_205 (by rfl) (by rfl) (k_M_learn (ctM_in _ _ _)) rfl rfl ⟨Nat.le_of_ble_eq_true rfl, Nat.le_of_ble_eq_true rfl⟩ ⟨Nat.zero_le _, Nat.zero_le _⟩ (Nat.le_of_ble_eq_true rfl) ?_
                refine e_inc 1 rfl rfl rfl rfl ?_
                refine e_goto rfl ?_
                try dsimp only
                simp only [nI_1]
                simp only [nF] at ihk
                rw [emF] at ihk
                (first | rw [if_pos h2] at ihk | rw [if_neg h2] at ihk)
                (first | rw [if_pos h3] at ihk | rw [if_neg h3] at ihk)
                rw [emB] at ihk
                (first | rw [if_pos h4] at ihk | rw [if_neg h4] at ihk)
                (first | rw [if_pos h8] at ihk | rw [if_neg h8] at ihk)
                first | rw [emG_00] at ihk | rw [emG_11] at ihk | rw [emG_01] at ihk | rw [emG_10] at ihk
                exact ihk _ _ _ _)
  exact L1 _ _ _ _
set_option maxHeartbeats 4000000 in
set_option maxRecDepth 40000 in
theorem k_M_encodeP {l : Launch} {h : Nat} {c r : Nat} {Q0 : Option AV → St → Prop} (hc2 : c ≤ 16) (hr2 : r ≤ 16) : ∀ (n : Nat) (T : St) (rr a b : Nat), n ≤ 6 → T.1 21 9 = nI c → T.1 21 10 = nI r → bitsOK a T → a + 6400 * n + 25 ≤ 60000 → rr ≤ b → b + 256 * n + 256 < 2 ^ 31 → Q0 (some (aI (eeR (mrS (epM n (T, rr)).1 (epM n (T, rr)).2)))) (eeT (mrS (epM n (T, rr)).1 (epM n (T, rr)).2)) → ∀ z3 z4 z5 z6 z7, E0 l (SHm h) (4, 89) m_M_encode 23 [some (aR 21), some (aI (nI rr)), some (aI (nI n - 1)), z3, z4, z5, z6, z7] [] T Q0 := by
  intro n
  induction n with
  | zero =>
    intro T rr a b hn hc hr hb ha hrr hb2 hq z3 z4 z5 z6 z7
    iterate 1 refine e_sp rfl rfl rfl ?_
    refine e_iflt rfl (fun h1 => ?_) (fun h1 => ?_)
    · iterate 2 refine e_sp rfl rfl rfl ?_
      refine e_callV0 ok_M_writeRun rfl lk_M_202 (by rfl) (by rfl) (k_M_writeRun (by omega) hb (by omega)) rfl rfl ⟨Nat.le_of_ble_eq_true rfl, Nat.le_of_ble_eq_true rfl⟩ ⟨Nat.zero_le _, Nat.zero_le _⟩ (Nat.le_of_ble_eq_true rfl) ?_
      iterate 3 refine e_sp rfl rfl rfl ?_
      refine e_cb 7 rfl rfl ?_
      iterate 1 refine e_sp rfl rfl rfl ?_
      refine e_cb 8 rfl rfl ?_
      refine e_div rfl (by decide) ?_
      iterate 3 refine e_sp rfl rfl rfl ?_
      refine e_iret rfl rfl (Nat.le_refl _) (Nat.le_refl _) ?_
      exact hq
    · try dsimp only
      exact absurd (by decide) h1
  | succ n ih =>
    intro T rr a b hn hc hr hb ha hrr hb2 hq z3 z4 z5 z6 z7
    have kn : ∀ z3 z4 z5 z6 z7, E0 l (SHm h) (4, 89) m_M_encode 23 [some (aR 21), some (aI (nI (epF (nI n) (T, rr)).2)), some (aI (nI n - 1)), z3, z4, z5, z6, z7] [] (epF (nI n) (T, rr)).1 Q0 := by
      have hI : emI T (epF (nI n) (T, rr)).1 := epF_I (x := (T, rr)) ⟨fun _ _ _ _ _ => rfl, rfl⟩
      have hN := epF_N (p := nI n) (a := a) (n := b) (x := (T, rr)) ⟨hb, hrr⟩ (by omega)
      rw [epM] at hq
      revert hI hN hq
      generalize epF (nI n) (T, rr) = E
      obtain ⟨E1, E2⟩ := E
      intro hq hI hN
      exact ih E1 E2 (a + 25 * 256) (b + 256) (by omega) ((hI.1 9 (by decide) (by decide) (by decide) (by decide)).trans hc) ((hI.1 10 (by decide) (by decide) (by decide) (by decide)).trans hr) hN.1 (by omega) hN.2 (by omega) hq
    iterate 1 refine e_sp rfl rfl rfl ?_
    refine e_iflt rfl (fun h1 => ?_) (fun h1 => ?_)
    · try dsimp only
      exact absurd h1 (by rw [nI_pred]; exact nI_pos (by omega))
    · try dsimp only
      simp only [nI_pred]
      iterate 1 refine e_sp rfl rfl rfl ?_
      refine e_callV0 ok_M_nextPlane rfl lk_M_193 (by rfl) (by rfl) k_M_nextPlane rfl rfl ⟨Nat.le_of_ble_eq_true rfl, Nat.le_of_ble_eq_true rfl⟩ ⟨Nat.zero_le _, Nat.zero_le _⟩ (Nat.le_of_ble_eq_true rfl) ?_
      refine e_ci 0 rfl rfl ?_
      iterate 1 refine e_sp rfl rfl rfl ?_
      try dsimp only
      exact k_M_encodeK (a := a) (b := b) hc hr hc2 hr2 hb (by omega) hrr (by omega) kn _ _ _ _
set_option maxHeartbeats 4000000 in
set_option maxRecDepth 40000 in
theorem k_M_encode {l : Launch} {h : Nat} {S : St} {c r m : Nat} (hc : S.1 21 9 = nI c) (hr : S.1 21 10 = nI r) (hc2 : c ≤ 16) (hr2 : r ≤ 16) (hm : S.1 21 7 = nI (m + 1)) (hm2 : m < 64) : KK l (SHm h) (4, 89) m_M_encode [aR 21] S (ans (some (aI (eeR (ee2 S m)))) (eeT (ee2 S m))) := by
  refine k_start ok_M_encode (Nat.le_of_ble_eq_true rfl) ?_
  have hk0 : ∀ k, k ≠ 0 → k ≠ 20 → k ≠ 29 → k ≠ 30 → k ≠ 31 → (ee0 S).1 21 k = S.1 21 k := fun k k0 k1 k2 k3 k4 => by
    rw [ee0, brM_k k2 k3 k4]; simp [puI, pt, upd, k0, k1]
  have hmm : (ee0 S).1 21 7 = nI (m + 1) := (hk0 7 (by decide) (by decide) (by decide) (by decide) (by decide)).trans hm
  have hcc : (ee0 S).1 21 9 = nI c := (hk0 9 (by decide) (by decide) (by decide) (by decide) (by decide)).trans hc
  have hrr : (ee0 S).1 21 10 = nI r := (hk0 10 (by decide) (by decide) (by decide) (by decide) (by decide)).trans hr
  have hbb : bitsOK 0 (ee0 S) := ⟨0, Nat.le_refl _, by rw [ee0, brM_k (by decide) (by decide) (by decide)]; simp [puI, pt, upd, nI_0]⟩
  iterate 1 refine e_sp rfl rfl rfl ?_
  refine e_ci 0 rfl rfl ?_
  iterate 2 refine e_sp rfl rfl rfl ?_
  refine e_ci 0 rfl rfl ?_
  iterate 2 refine e_sp rfl rfl rfl ?_
  refine e_callV0 ok_M_beginRuns rfl lk_M_190 (by rfl) (by rfl) k_M_beginRuns rfl rfl ⟨Nat.le_of_ble_eq_true rfl, Nat.le_of_ble_eq_true rfl⟩ ⟨Nat.zero_le _, Nat.zero_le _⟩ (Nat.le_of_ble_eq_true rfl) ?_
  refine e_ci 0 rfl rfl ?_
  iterate 2 refine e_sp rfl rfl rfl ?_
  refine e_callV1 ok_M_planes rfl lk_M_114 (by rfl) (by rfl) (k_M_planes (m := m) hmm hm2) rfl rfl ⟨Nat.le_of_ble_eq_true rfl, Nat.le_of_ble_eq_true rfl⟩ ⟨Nat.zero_le _, Nat.zero_le _⟩ (Nat.le_of_ble_eq_true rfl) ?_
  refine e_ci 1 rfl rfl ?_
  iterate 2 refine e_sp rfl rfl rfl ?_
  try dsimp only
  exact k_M_encodeP hc2 hr2 (bl 6 m) (ee0 S) 0 0 0 (bl_le 6 m) hcc hrr hbb (by have := bl_le 6 m; omega) (Nat.le_refl _) (by have := bl_le 6 m; omega) ⟨rfl, rfl⟩ _ _ _ _ _
/-! bytes -/
def mbF (S : St) (n i : Nat) (v : Int32) : Int32 := 2 * v + (if S.1 21 20 ≤ nI (8 * n + i) then 0 else if S.1 26 (8 * n + i) = 0 then 0 else 1)
def mbM (S : St) (n : Nat) : Int32 := nF (mbF S n) 8 0
theorem ix8 (n : Nat) : (8 : Int32) * nI n = nI (8 * n) := by rw [show (8 : Int32) = nI 8 from rfl, pk_mul]
set_option maxHeartbeats 4000000 in
set_option maxRecDepth 40000 in
theorem k_M_madeByte {l : Launch} {h : Nat} {S : St} {n q : Nat} (hq : S.1 21 20 = nI q) (hq2 : q ≤ 60000) (hn : n ≤ 60000) : KK l (SHm h) (0, 0) m_M_madeByte [aR 21, aI (nI n)] S (ans (some (aI (mbM S n))) S) := by
  refine k_start ok_M_madeByte (Nat.le_of_ble_eq_true rfl) ?_
  have he8 : (8 : Int32) * nI n + 8 = nI (8 * n + 8) := by rw [ix8, show (8 : Int32) = nI 8 from rfl, nI_add]
  have hin : ∀ i, i < 8 → ¬ S.1 21 20 ≤ nI (8 * n + i) → vp_in (nI (8 * n + i)) 60000 := fun i hi h9 => by
    refine vp_in_nI ?_ (by decide)
    rw [hq] at h9
    rcases Nat.lt_or_ge (8 * n + i) q with g | g
    · omega
    · exact absurd (nI_le g (by omega)) h9
  have L1 := e_for (P := fun i => E0 l (SHm h) (0, 0) m_M_madeByte 7 [some (aR 21), some (aI (nI n)), some (aI (nF (mbF S n) i 0)), some (aI (nI (8 * n + i)))] [] (S) (ans (some (aI (mbM S n))) S)) (8) (by
      iterate 1 refine e_sp rfl rfl rfl ?_
      refine e_cb 8 rfl rfl ?_
      iterate 2 refine e_sp rfl rfl rfl ?_
      refine e_cb 8 rfl rfl ?_
      iterate 1 refine e_sp rfl rfl rfl ?_
      refine e_icge rfl (fun h1 => ?_) (fun h1 => ?_)
      · iterate 1 refine e_sp rfl rfl rfl ?_
        refine e_iret rfl rfl (Nat.le_refl _) (Nat.le_refl _) ?_
        exact ⟨rfl, rfl⟩
      · try dsimp only
        dsimp only at h1
        rw [he8] at h1
        exact absurd (nI_le (Nat.le_refl _) (by omega)) h1) (fun i hi ihi => by
      iterate 1 refine e_sp rfl rfl rfl ?_
      refine e_cb 8 rfl rfl ?_
      iterate 2 refine e_sp rfl rfl rfl ?_
      refine e_cb 8 rfl rfl ?_
      iterate 1 refine e_sp rfl rfl rfl ?_
      refine e_icge rfl (fun h1 => ?_) (fun h1 => ?_)
      · try dsimp only
        dsimp only at h1
        rw [he8] at h1
        exact absurd h1 (nI_ge (show 8 * n + i < 8 * n + 8 by omega) (by omega))
      · refine e_ci 2 rfl rfl ?_
        iterate 5 refine e_sp rfl rfl rfl ?_
        refine e_icge rfl (fun h2 => ?_) (fun h2 => ?_)
        · refine e_ci 0 rfl rfl ?_
          iterate 2 refine e_sp rfl rfl rfl ?_
          refine e_inc 1 rfl rfl rfl rfl ?_
          refine e_goto rfl ?_
          try dsimp only
          rw [nI_1]
          simp only [nF] at ihi
          rw [mbF] at ihi
          (first | rw [if_pos h2] at ihi | rw [if_neg h2] at ihi)
          exact ihi
        · iterate 3 refine e_sp rfl rfl rfl ?_
          refine e_zald rfl (by first | rfl | assumption) (by exact hin i hi (by assumption)) ?_
          rw [nI_clamp (by omega)]
          refine e_ifeq rfl (fun h3 => ?_) (fun h3 => ?_)
          · refine e_ci 0 rfl rfl ?_
            iterate 2 refine e_sp rfl rfl rfl ?_
            refine e_inc 1 rfl rfl rfl rfl ?_
            refine e_goto rfl ?_
            try dsimp only
            rw [nI_1]
            simp only [nF] at ihi
            rw [mbF] at ihi
            (first | rw [if_pos h2] at ihi | rw [if_neg h2] at ihi)
            (first | rw [if_pos h3] at ihi | rw [if_neg h3] at ihi)
            exact ihi
          · refine e_ci 1 rfl rfl ?_
            refine e_goto rfl ?_
            iterate 2 refine e_sp rfl rfl rfl ?_
            refine e_inc 1 rfl rfl rfl rfl ?_
            refine e_goto rfl ?_
            try dsimp only
            rw [nI_1]
            simp only [nF] at ihi
            rw [mbF] at ihi
            (first | rw [if_pos h2] at ihi | rw [if_neg h2] at ihi)
            (first | rw [if_pos h3] at ihi | rw [if_neg h3] at ihi)
            exact ihi)
  refine e_ci 0 rfl rfl ?_
  iterate 1 refine e_sp rfl rfl rfl ?_
  refine e_cb 8 rfl rfl ?_
  iterate 3 refine e_sp rfl rfl rfl ?_
  try dsimp only
  try dsimp only
  rw [ix8]
  exact L1
def byR (S : St) (i : Int32) : Int32 := if wi i 0 (S.1 21 21 - 1) = 0 then 0 else mbM (puI S 21 0 0) i.toNatClampNeg
def byC (S : St) (i : Int32) : Int32 := if wi i 0 (S.1 21 21 - 1) = 0 then 1 else 0
theorem mbM_0 {S : St} {v : Int32} (n : Nat) : mbM (puI S 21 0 v) n = mbM S n := by
  have e : mbF (puI S 21 0 v) n = mbF S n := by
    funext i w
    simp [mbF, puI, pt, upd]
  unfold mbM
  rw [e]
set_option maxHeartbeats 4000000 in
set_option maxRecDepth 40000 in
theorem k_M_byteAt {l : Launch} {h : Nat} {S : St} {i : Int32} {q dd : Nat} (hq : S.1 21 20 = nI q) (hq2 : q ≤ 60000) (hd : S.1 21 21 = nI dd) (hd2 : dd ≤ 60000) : KK l (SHm h) (1, 23) m_M_byteAt [aR 21, aI i] S (ans (some (aI (byR S i))) (puI S 21 0 (byC S i))) := by
  refine k_start ok_M_byteAt (Nat.le_of_ble_eq_true rfl) ?_
  iterate 2 refine e_sp rfl rfl rfl ?_
  refine e_ci 0 rfl rfl ?_
  iterate 2 refine e_sp rfl rfl rfl ?_
  refine e_ci 1 rfl rfl ?_
  iterate 1 refine e_sp rfl rfl rfl ?_
  refine e_callS1 ok_M_in rfl lk_M_110 k_M_in rfl rfl ⟨Nat.le_of_ble_eq_true rfl, Nat.le_of_ble_eq_true rfl⟩ ⟨Nat.zero_le _, Nat.zero_le _⟩ (Nat.le_of_ble_eq_true rfl) ?_
  refine e_ifeq rfl (fun h1 => ?_) (fun h1 => ?_)
  · refine e_ci 1 rfl rfl ?_
    iterate 3 refine e_sp rfl rfl rfl ?_
    refine e_ifle rfl (fun h2 => absurd h2 (by first | decide | simp [puI, pt, upd])) (fun _ => ?_)
    refine e_ci 0 rfl rfl ?_
    refine e_goto rfl ?_
    refine e_iret rfl rfl (Nat.le_refl _) (Nat.le_refl _) ?_
    exact ⟨by rw [byR, if_pos h1], by rw [byC, if_pos h1]⟩
  · refine e_ci 0 rfl rfl ?_
    refine e_goto rfl ?_
    iterate 3 refine e_sp rfl rfl rfl ?_
    refine e_ifle rfl (fun _ => ?_) (fun h3 => absurd h3 (by first | decide | simp [puI, pt, upd]))
    try dsimp only
    obtain ⟨j, hj, rfl⟩ := wi_nat (n := dd) (by omega) (show ¬ wi i 0 (nI dd - 1) = 0 from hd ▸ h1)
    have e1 : byR S (nI j) = mbM (puI S 21 0 0) j := by rw [byR, if_neg h1, nI_clamp (by omega)]
    have e2 : byC S (nI j) = 0 := by rw [byC, if_neg h1]
    rw [e1, e2]
    iterate 2 refine e_sp rfl rfl rfl ?_
    refine e_callV1 ok_M_madeByte rfl lk_M_209 (by rfl) (by rfl) (k_M_madeByte (q := q) (by simpa [puI, pt, upd] using hq) hq2 (by omega)) rfl rfl ⟨Nat.le_of_ble_eq_true rfl, Nat.le_of_ble_eq_true rfl⟩ ⟨Nat.zero_le _, Nat.zero_le _⟩ (Nat.le_of_ble_eq_true rfl) ?_
    refine e_iret rfl rfl (Nat.le_refl _) (Nat.le_refl _) ?_
    exact ⟨rfl, rfl⟩
def fdC (S : St) (b : Int32) : Int32 := if wi b 0 255 = 0 then 1 else if S.1 21 23 = 3000 then 2 else 0
def fdT (S : St) (b : Int32) : St := puI (puI (puI S 21 0 0) 27 (S.1 21 23).toNatClampNeg b) 21 23 (S.1 21 23 + 1)
def fdS (S : St) (b : Int32) : St := if fdC S b = 0 then fdT S b else puI S 21 0 (fdC S b)
def fdR (S : St) (b : Int32) : Int32 := if fdC S b = 0 then S.1 21 23 + 1 else 0
theorem cm_lt {x : Int32} {n : Nat} (h : x = nI n) (hn : n ≤ 3000) (h2 : ¬ x = 3000) : n < 3000 := by
  rcases Nat.lt_or_ge n 3000 with g | g
  · exact g
  · exact absurd (by rw [h, show n = 3000 by omega]; rfl) h2
set_option maxHeartbeats 4000000 in
set_option maxRecDepth 40000 in
theorem k_M_feed {l : Launch} {h : Nat} {S : St} {b : Int32} {n : Nat} (hn : S.1 21 23 = nI n) (hn2 : n ≤ 3000) : KK l (SHm h) (1, 22) m_M_feed [aR 21, aI b] S (ans (some (aI (fdR S b))) (fdS S b)) := by
  refine k_start ok_M_feed (Nat.le_of_ble_eq_true rfl) ?_
  iterate 2 refine e_sp rfl rfl rfl ?_
  refine e_ci 0 rfl rfl ?_
  refine e_cs 255 rfl rfl ?_
  refine e_callS1 ok_M_in rfl lk_M_110 k_M_in rfl rfl ⟨Nat.le_of_ble_eq_true rfl, Nat.le_of_ble_eq_true rfl⟩ ⟨Nat.zero_le _, Nat.zero_le _⟩ (Nat.le_of_ble_eq_true rfl) ?_
  refine e_ifne rfl (fun h1 => ?_) (fun h1 => ?_)
  · iterate 2 refine e_sp rfl rfl rfl ?_
    refine e_cs 3000 rfl rfl ?_
    refine e_icne rfl (fun h2 => ?_) (fun h2 => ?_)
    · refine e_ci 0 rfl rfl ?_
      iterate 3 refine e_sp rfl rfl rfl ?_
      refine e_ifle rfl (fun _ => ?_) (fun h3 => absurd h3 (by first | decide | simp [puI, pt, upd]))
      iterate 5 refine e_sp rfl rfl rfl ?_
      refine e_iast rfl (by first | rfl | assumption) (by (show vp_in (S.1 21 23) 3000; rw [hn]; exact vp_in_nI (cm_lt hn hn2 (by assumption)) (by decide))) ?_
      iterate 3 refine e_sp rfl rfl rfl ?_
      refine e_ci 1 rfl rfl ?_
      iterate 4 refine e_sp rfl rfl rfl ?_
      refine e_iret rfl rfl (Nat.le_refl _) (Nat.le_refl _) ?_
      first
      | (have e9 : fdC S b = 2 := (if_neg h1).trans (if_pos h2)
         exact ⟨by { rw [fdR, e9]; rfl }, by { rw [fdS, e9]; rfl }⟩)
      | (have e9 : fdC S b = 0 := (if_neg h1).trans (if_neg h2)
         exact ⟨by { rw [fdR, e9, if_pos rfl]; simp [puI, pt, upd] }, by { rw [fdS, e9, if_pos rfl]; simp [fdT, puI, pt, upd] }⟩)
    · refine e_ci 2 rfl rfl ?_
      refine e_goto rfl ?_
      iterate 3 refine e_sp rfl rfl rfl ?_
      refine e_ifle rfl (fun h4 => absurd h4 (by first | decide | simp [puI, pt, upd])) (fun _ => ?_)
      refine e_ci 0 rfl rfl ?_
      refine e_iret rfl rfl (Nat.le_refl _) (Nat.le_refl _) ?_
      first
      | (have e9 : fdC S b = 2 := (if_neg h1).trans (if_pos h2)
         exact ⟨by { rw [fdR, e9]; rfl }, by { rw [fdS, e9]; rfl }⟩)
      | (have e9 : fdC S b = 0 := (if_neg h1).trans (if_neg h2)
         exact ⟨by { rw [fdR, e9, if_pos rfl]; simp [puI, pt, upd] }, by { rw [fdS, e9, if_pos rfl]; simp [fdT, puI, pt, upd] }⟩)
  · refine e_ci 1 rfl rfl ?_
    refine e_goto rfl ?_
    iterate 3 refine e_sp rfl rfl rfl ?_
    refine e_ifle rfl (fun h5 => absurd h5 (by first | decide | simp [puI, pt, upd])) (fun _ => ?_)
    refine e_ci 0 rfl rfl ?_
    refine e_iret rfl rfl (Nat.le_refl _) (Nat.le_refl _) ?_
    have e9 : fdC S b = 1 := by rw [fdC, if_pos h1]
    exact ⟨by rw [fdR, e9]; rfl, by rw [fdS, e9]; rfl⟩
def psF (i : Nat) (T : St) : St := puI (puI T 27 (T.1 21 23).toNatClampNeg (mbM T i)) 21 23 (T.1 21 23 + 1)
def psL (S : St) (n : Nat) : St := nF psF n (puI S 21 0 0)
def psC (S : St) : Int32 := if S.1 21 23 + S.1 21 21 ≤ 3000 then 0 else 1
def psS (S : St) (n : Nat) : St := if psC S = 0 then psL S n else puI S 21 0 1
def psR (S : St) (n : Nat) : Int32 := if psC S = 0 then (psL S n).1 21 23 else 0
theorem psN_k {S : St} {k : Nat} (h : k ≠ 23) (i : Nat) : (nF psF i S).1 21 k = S.1 21 k :=
  nF_inv (f := psF) (fun T => T.1 21 k = S.1 21 k) (fun i T hT => by rw [← hT]; simp [psF, puI, pt, upd, h]) i S rfl
theorem psN_c {S : St} {c : Nat} (hc : S.1 21 23 = nI c) : ∀ i, (nF psF i S).1 21 23 = nI (c + i)
  | 0 => hc
  | i + 1 => by
    have h := psN_c hc i
    show (psF i (nF psF i S)).1 21 23 = _
    rw [show nI (c + (i + 1)) = nI (c + i) + 1 from (nI_1 _).symm, ← h]
    simp [psF, puI, pt, upd]
set_option maxHeartbeats 4000000 in
set_option maxRecDepth 40000 in
theorem k_M_pass {l : Launch} {h : Nat} {S : St} {q dd cc : Nat} (hq : S.1 21 20 = nI q) (hq2 : q ≤ 60000) (hd : S.1 21 21 = nI dd) (hd2 : dd ≤ 60000) (hc : S.1 21 23 = nI cc) (hc2 : cc ≤ 3000) : KK l (SHm h) (1, 23) m_M_pass [aR 21] S (ans (some (aI (psR S dd))) (psS S dd)) := by
  refine k_start ok_M_pass (Nat.le_of_ble_eq_true rfl) ?_
  have hq0 : (puI S 21 0 0).1 21 20 = nI q := by simpa [puI, pt, upd] using hq
  have hd0 : (puI S 21 0 0).1 21 21 = nI dd := by simpa [puI, pt, upd] using hd
  have hc0 : (puI S 21 0 0).1 21 23 = nI cc := by simpa [puI, pt, upd] using hc
  have hle : S.1 21 23 + S.1 21 21 ≤ 3000 → cc + dd ≤ 3000 := fun h9 => by
    rw [hc, hd, nI_add] at h9
    rcases Nat.lt_or_ge 3000 (cc + dd) with g | g
    · exact absurd h9 (nI_ge g (by omega))
    · exact g
  iterate 6 refine e_sp rfl rfl rfl ?_
  refine e_cs 3000 rfl rfl ?_
  refine e_icle rfl (fun h1 => ?_) (fun h1 => ?_)
  · refine e_ci 0 rfl rfl ?_
    iterate 3 refine e_sp rfl rfl rfl ?_
    refine e_ifle rfl (fun _ => ?_) (fun h2 => absurd h2 (by first | decide | simp [puI, pt, upd]))
    refine e_ci 0 rfl rfl ?_
    iterate 1 refine e_sp rfl rfl rfl ?_
    try dsimp only
    have hp : psC S = 0 := by rw [psC, if_pos h1]
    have hlt : cc + dd ≤ 3000 := hle h1
    have L1 := e_for (P := fun i => E0 l (SHm h) (1, 23) m_M_pass 35 [some (aR 21), some (aI (nI i))] [] (nF psF i (puI S 21 0 0)) (ans (some (aI (psR S dd))) (psS S dd))) (dd) (by
        iterate 3 refine e_sp rfl rfl rfl ?_
        refine e_icge rfl (fun h1 => ?_) (fun h1 => ?_)
        · iterate 2 refine e_sp rfl rfl rfl ?_
          refine e_iret rfl rfl (Nat.le_refl _) (Nat.le_refl _) ?_
          exact ⟨by rw [psR, if_pos hp]; rfl, by rw [psS, if_pos hp]; rfl⟩
        · try dsimp only
          rw [psN_k (by decide), hd0] at h1
          exact absurd (nI_le (Nat.le_refl _) (by omega)) h1) (fun i hi ihi => by
        iterate 3 refine e_sp rfl rfl rfl ?_
        refine e_icge rfl (fun h1 => ?_) (fun h1 => ?_)
        · try dsimp only
          rw [psN_k (by decide), hd0] at h1
          exact absurd h1 (nI_ge hi (by omega))
        · iterate 6 refine e_sp rfl rfl rfl ?_
          refine e_callV1 ok_M_madeByte rfl lk_M_209 (by rfl) (by rfl) (k_M_madeByte (q := q) ((psN_k (by decide) i).trans hq0) hq2 (by omega)) rfl rfl ⟨Nat.le_of_ble_eq_true rfl, Nat.le_of_ble_eq_true rfl⟩ ⟨Nat.zero_le _, Nat.zero_le _⟩ (Nat.le_of_ble_eq_true rfl) ?_
          refine e_iast rfl (by first | rfl | assumption) (by (rw [psN_c hc0 i]; exact vp_in_nI (show cc + i < 3000 by omega) (by decide))) ?_
          iterate 3 refine e_sp rfl rfl rfl ?_
          refine e_ci 1 rfl rfl ?_
          iterate 2 refine e_sp rfl rfl rfl ?_
          refine e_inc 1 rfl rfl rfl rfl ?_
          refine e_goto rfl ?_
          try dsimp only
          rw [nI_1]
          exact ihi)
    exact L1
  · refine e_ci 1 rfl rfl ?_
    refine e_goto rfl ?_
    iterate 3 refine e_sp rfl rfl rfl ?_
    refine e_ifle rfl (fun h3 => absurd h3 (by first | decide | simp [puI, pt, upd])) (fun _ => ?_)
    refine e_ci 0 rfl rfl ?_
    refine e_iret rfl rfl (Nat.le_refl _) (Nat.le_refl _) ?_
    have hp : psC S = 1 := by rw [psC, if_neg h1]
    exact ⟨by rw [psR, hp]; rfl, by rw [psS, hp]; rfl⟩
def cxC (c w : Int32) : Int32 := if wi c 0 63 = 0 then 1 else if wi w 0 1 = 0 then 2 else 0
def cxR (S : St) (c w : Int32) : Int32 := if wi c 0 63 = 0 then 0 else if wi w 0 1 = 0 then 0 else if w = 0 then S.1 28 c.toNatClampNeg else S.1 29 c.toNatClampNeg
set_option maxHeartbeats 4000000 in
set_option maxRecDepth 40000 in
theorem k_M_context {l : Launch} {h : Nat} {S : St} {c w : Int32}  : KK l (SHm h) (1, 22) m_M_context [aR 21, aI c, aI w] S (ans (some (aI (cxR S c w))) (puI S 21 0 (cxC c w))) := by
  refine k_start ok_M_context (Nat.le_of_ble_eq_true rfl) ?_
  iterate 2 refine e_sp rfl rfl rfl ?_
  refine e_ci 0 rfl rfl ?_
  refine e_cb 63 rfl rfl ?_
  refine e_callS1 ok_M_in rfl lk_M_110 k_M_in rfl rfl ⟨Nat.le_of_ble_eq_true rfl, Nat.le_of_ble_eq_true rfl⟩ ⟨Nat.zero_le _, Nat.zero_le _⟩ (Nat.le_of_ble_eq_true rfl) ?_
  refine e_ifne rfl (fun h1 => ?_) (fun h1 => ?_)
  · iterate 1 refine e_sp rfl rfl rfl ?_
    refine e_ci 0 rfl rfl ?_
    refine e_ci 1 rfl rfl ?_
    refine e_callS1 ok_M_in rfl lk_M_110 k_M_in rfl rfl ⟨Nat.le_of_ble_eq_true rfl, Nat.le_of_ble_eq_true rfl⟩ ⟨Nat.zero_le _, Nat.zero_le _⟩ (Nat.le_of_ble_eq_true rfl) ?_
    refine e_ifne rfl (fun h2 => ?_) (fun h2 => ?_)
    · refine e_ci 0 rfl rfl ?_
      iterate 3 refine e_sp rfl rfl rfl ?_
      refine e_ifle rfl (fun _ => ?_) (fun h3 => absurd h3 (by first | decide | simp [puI, pt, upd]))
      iterate 1 refine e_sp rfl rfl rfl ?_
      refine e_ifne rfl (fun h4 => ?_) (fun h4 => ?_)
      · iterate 3 refine e_sp rfl rfl rfl ?_
        refine e_iald rfl (by first | rfl | assumption) (by exact wi_in (n := 64) (by decide) (by assumption)) ?_
        refine e_iret rfl rfl (Nat.le_refl _) (Nat.le_refl _) ?_
        exact ⟨by unfold cxR; (first | rw [if_pos h1] | rw [if_neg h1] | skip); (first | rw [if_pos h2] | rw [if_neg h2] | skip); (first | rw [if_pos h4] | rw [if_neg h4] | skip); try rfl, by unfold cxC; (first | rw [if_pos h1] | rw [if_neg h1] | skip); (first | rw [if_pos h2] | rw [if_neg h2] | skip); (first | rw [if_pos h4] | rw [if_neg h4] | skip); try rfl⟩
      · iterate 3 refine e_sp rfl rfl rfl ?_
        refine e_iald rfl (by first | rfl | assumption) (by exact wi_in (n := 64) (by decide) (by assumption)) ?_
        refine e_goto rfl ?_
        refine e_iret rfl rfl (Nat.le_refl _) (Nat.le_refl _) ?_
        exact ⟨by unfold cxR; (first | rw [if_pos h1] | rw [if_neg h1] | skip); (first | rw [if_pos h2] | rw [if_neg h2] | skip); (first | rw [if_pos h4] | rw [if_neg h4] | skip); try rfl, by unfold cxC; (first | rw [if_pos h1] | rw [if_neg h1] | skip); (first | rw [if_pos h2] | rw [if_neg h2] | skip); (first | rw [if_pos h4] | rw [if_neg h4] | skip); try rfl⟩
    · refine e_ci 2 rfl rfl ?_
      refine e_goto rfl ?_
      iterate 3 refine e_sp rfl rfl rfl ?_
      refine e_ifle rfl (fun h5 => absurd h5 (by first | decide | simp [puI, pt, upd])) (fun _ => ?_)
      refine e_ci 0 rfl rfl ?_
      refine e_goto rfl ?_
      refine e_iret rfl rfl (Nat.le_refl _) (Nat.le_refl _) ?_
      exact ⟨by unfold cxR; (first | rw [if_pos h1] | rw [if_neg h1] | skip); (first | rw [if_pos h2] | rw [if_neg h2] | skip); try rfl, by unfold cxC; (first | rw [if_pos h1] | rw [if_neg h1] | skip); (first | rw [if_pos h2] | rw [if_neg h2] | skip); try rfl⟩
  · refine e_ci 1 rfl rfl ?_
    refine e_goto rfl ?_
    iterate 3 refine e_sp rfl rfl rfl ?_
    refine e_ifle rfl (fun h6 => absurd h6 (by first | decide | simp [puI, pt, upd])) (fun _ => ?_)
    refine e_ci 0 rfl rfl ?_
    refine e_goto rfl ?_
    refine e_iret rfl rfl (Nat.le_refl _) (Nat.le_refl _) ?_
    exact ⟨by unfold cxR; (first | rw [if_pos h1] | rw [if_neg h1] | skip); try rfl, by unfold cxC; (first | rw [if_pos h1] | rw [if_neg h1] | skip); try rfl⟩
theorem daM_0 {S : St} {k : Nat} {v : Int32} {o : Nat} (h : o ≠ 21) : daM (puI S 21 k v) o = daM S o := by
  have e : daF (puI S 21 k v) o = daF S o := by
    funext i w
    unfold daF
    rw [puI_o h]
  unfold daM
  rw [e]
def tdN (S : St) (m : Nat) (w : Int32) : Int32 := if w = 0 then S.1 21 1 else if w = 1 then S.1 21 2 else if w = 2 then S.1 21 7 else if w = 3 then S.1 21 5 else if w = 4 then S.1 21 6 else if w = 5 then nI (bl 6 m) else if w = 6 then S.1 21 9 else if w = 7 then S.1 21 10 else if w = 8 then S.1 21 21 else if w = 9 then S.1 21 23 else if w = 10 then daM S 22 else if w = 11 then S.1 21 31 else -1
set_option maxHeartbeats 4000000 in
set_option maxRecDepth 40000 in
theorem k_M_told {l : Launch} {h m : Nat} {S : St} {w : Int32} (hm : S.1 21 7 = nI (m + 1)) (hm2 : m < 64) : KK l (SHm h) (1, 22) m_M_told [aR 21, aI w] S (ans (some (aI (tdN S m w))) (puI S 21 0 0)) := by
  refine k_start ok_M_told (Nat.le_of_ble_eq_true rfl) ?_
  have hda : daM (puI S 21 0 0) 22 = daM S 22 := daM_0 (by decide)
  refine e_sp rfl rfl rfl ?_
  refine e_ci 0 rfl rfl ?_
  iterate 2 refine e_sp rfl rfl rfl ?_
  by_cases h0 : w = 0
  · subst h0
    refine e_tswI (off := 62) (tgt := 68) rfl (by decide) (by decide) (by decide) (by decide) ?_
    iterate 2 refine e_sp rfl rfl rfl ?_
    refine e_iret rfl rfl (Nat.le_refl _) (Nat.le_refl _) ?_
    exact ⟨by simp [tdN, puI, pt, upd], rfl⟩
  by_cases h1 : w = 1
  · subst h1
    refine e_tswI (off := 67) (tgt := 73) rfl (by decide) (by decide) (by decide) (by decide) ?_
    iterate 2 refine e_sp rfl rfl rfl ?_
    refine e_iret rfl rfl (Nat.le_refl _) (Nat.le_refl _) ?_
    exact ⟨by simp [tdN, puI, pt, upd], rfl⟩
  by_cases h2 : w = 2
  · subst h2
    refine e_tswI (off := 72) (tgt := 78) rfl (by decide) (by decide) (by decide) (by decide) ?_
    iterate 2 refine e_sp rfl rfl rfl ?_
    refine e_iret rfl rfl (Nat.le_refl _) (Nat.le_refl _) ?_
    exact ⟨by simp [tdN, puI, pt, upd], rfl⟩
  by_cases h3 : w = 3
  · subst h3
    refine e_tswI (off := 77) (tgt := 83) rfl (by decide) (by decide) (by decide) (by decide) ?_
    iterate 2 refine e_sp rfl rfl rfl ?_
    refine e_iret rfl rfl (Nat.le_refl _) (Nat.le_refl _) ?_
    exact ⟨by simp [tdN, puI, pt, upd], rfl⟩
  by_cases h4 : w = 4
  · subst h4
    refine e_tswI (off := 82) (tgt := 88) rfl (by decide) (by decide) (by decide) (by decide) ?_
    iterate 2 refine e_sp rfl rfl rfl ?_
    refine e_iret rfl rfl (Nat.le_refl _) (Nat.le_refl _) ?_
    exact ⟨by simp [tdN, puI, pt, upd], rfl⟩
  by_cases h5 : w = 5
  · subst h5
    refine e_tswI (off := 87) (tgt := 93) rfl (by decide) (by decide) (by decide) (by decide) ?_
    iterate 1 refine e_sp rfl rfl rfl ?_
    refine e_callV1 ok_M_planes rfl lk_M_114 (by rfl) (by rfl) (k_M_planes (m := m) (by simpa [puI, pt, upd] using hm) hm2) rfl rfl ⟨Nat.le_of_ble_eq_true rfl, Nat.le_of_ble_eq_true rfl⟩ ⟨Nat.zero_le _, Nat.zero_le _⟩ (Nat.le_of_ble_eq_true rfl) ?_
    refine e_iret rfl rfl (Nat.le_refl _) (Nat.le_refl _) ?_
    exact ⟨by simp [tdN, puI, pt, upd], rfl⟩
  by_cases h6 : w = 6
  · subst h6
    refine e_tswI (off := 92) (tgt := 98) rfl (by decide) (by decide) (by decide) (by decide) ?_
    iterate 2 refine e_sp rfl rfl rfl ?_
    refine e_iret rfl rfl (Nat.le_refl _) (Nat.le_refl _) ?_
    exact ⟨by simp [tdN, puI, pt, upd], rfl⟩
  by_cases h7 : w = 7
  · subst h7
    refine e_tswI (off := 97) (tgt := 103) rfl (by decide) (by decide) (by decide) (by decide) ?_
    iterate 2 refine e_sp rfl rfl rfl ?_
    refine e_iret rfl rfl (Nat.le_refl _) (Nat.le_refl _) ?_
    exact ⟨by simp [tdN, puI, pt, upd], rfl⟩
  by_cases h8 : w = 8
  · subst h8
    refine e_tswI (off := 102) (tgt := 108) rfl (by decide) (by decide) (by decide) (by decide) ?_
    iterate 2 refine e_sp rfl rfl rfl ?_
    refine e_iret rfl rfl (Nat.le_refl _) (Nat.le_refl _) ?_
    exact ⟨by simp [tdN, puI, pt, upd], rfl⟩
  by_cases h9 : w = 9
  · subst h9
    refine e_tswI (off := 107) (tgt := 113) rfl (by decide) (by decide) (by decide) (by decide) ?_
    iterate 2 refine e_sp rfl rfl rfl ?_
    refine e_iret rfl rfl (Nat.le_refl _) (Nat.le_refl _) ?_
    exact ⟨by simp [tdN, puI, pt, upd], rfl⟩
  by_cases h10 : w = 10
  · subst h10
    refine e_tswI (off := 112) (tgt := 118) rfl (by decide) (by decide) (by decide) (by decide) ?_
    iterate 2 refine e_sp rfl rfl rfl ?_
    refine e_callS1 ok_M_dark rfl lk_M_164 (k_M_dark (by rfl)) rfl rfl ⟨Nat.le_of_ble_eq_true rfl, Nat.le_of_ble_eq_true rfl⟩ ⟨Nat.zero_le _, Nat.zero_le _⟩ (Nat.le_of_ble_eq_true rfl) ?_
    refine e_iret rfl rfl (Nat.le_refl _) (Nat.le_refl _) ?_
    exact ⟨by rw [hda]; simp [tdN], rfl⟩
  by_cases h11 : w = 11
  · subst h11
    refine e_tswI (off := 120) (tgt := 126) rfl (by decide) (by decide) (by decide) (by decide) ?_
    iterate 2 refine e_sp rfl rfl rfl ?_
    refine e_iret rfl rfl (Nat.le_refl _) (Nat.le_refl _) ?_
    exact ⟨by simp [tdN, puI, pt, upd], rfl⟩
  have hn : ∀ k : Int32, ¬ w = k → w.toInt ≠ k.toInt := fun k hk e => hk (Int32.toInt_inj.mp e)
  have g0 := hn 0 h0
  rw [show (0 : Int32).toInt = 0 from rfl] at g0
  have g1 := hn 1 h1
  rw [show (1 : Int32).toInt = 1 from rfl] at g1
  have g2 := hn 2 h2
  rw [show (2 : Int32).toInt = 2 from rfl] at g2
  have g3 := hn 3 h3
  rw [show (3 : Int32).toInt = 3 from rfl] at g3
  have g4 := hn 4 h4
  rw [show (4 : Int32).toInt = 4 from rfl] at g4
  have g5 := hn 5 h5
  rw [show (5 : Int32).toInt = 5 from rfl] at g5
  have g6 := hn 6 h6
  rw [show (6 : Int32).toInt = 6 from rfl] at g6
  have g7 := hn 7 h7
  rw [show (7 : Int32).toInt = 7 from rfl] at g7
  have g8 := hn 8 h8
  rw [show (8 : Int32).toInt = 8 from rfl] at g8
  have g9 := hn 9 h9
  rw [show (9 : Int32).toInt = 9 from rfl] at g9
  have g10 := hn 10 h10
  rw [show (10 : Int32).toInt = 10 from rfl] at g10
  have g11 := hn 11 h11
  rw [show (11 : Int32).toInt = 11 from rfl] at g11
  refine e_tswO (tgt := 131) rfl (by omega) (by decide) ?_
  refine e_ci (-1) rfl rfl ?_
  refine e_iret rfl rfl (Nat.le_refl _) (Nat.le_refl _) ?_
  exact ⟨by simp [tdN, h0, h1, h2, h3, h4, h5, h6, h7, h8, h9, h10, h11], rfl⟩
