/-! a simple instruction, whatever it is -/
section Sp
variable {l : Launch} {B : List Sh} {R : Room} {y : Mt} {Zf : ZF} {kc ks pc : Nat} {lv : List (Option AV)} {st : List AV} {S : St}
theorem e_getf {i t : Nat} {lv' : List (Option AV)} {st' : List AV} {S' : St} (hd : cAt y.2.2.2.2.1 pc = some (.getfield i, 3, t)) (hs : gtF y.2.2.2.2.2 B i lv st S = some (lv', st', S'))
    (k : EE l B R y Zf kc ks (pc + 3) lv' st' S') : EE l B R y Zf kc ks pc lv st S := by
  obtain ⟨o, r, ci, j, kd, fl, z, rfl, hf, hB, hz, hq9, rfl, rfl, rfl⟩ := gtF_inv hs
  intro p e s m args below meth c sh ad D cA H locs ls C hP hS hl
  have h := k p e s m args below meth c sh ad D cA H locs ls C hP hS hl
  obtain ⟨hx, hb, hr, hml, hown, hts, hlk, hn, hK, hok, hsh, hi⟩ := id C
  obtain ⟨⟨Cn, T, N⟩, hc, hk, hlink, -⟩ := okM_f hok hf
  obtain ⟨hin, -⟩ := cls_all ci _ hc
  have hv : (fl.mapIdx (fldV ad (S'.1 o)))[j]? = some (fldV ad (S'.1 o) j z) := by
    rw [List.getElem?_mapIdx, hz]; rfl
  rw [List.map_cons, fldA_V _ _ _ _ _ hq9] at h
  rcases hlink with hw | hw
  · exact va_get (D := D) (cl := classes) (C := Cn) (T := T) (N := N) hx hb hts hin hown hK hP o (wd_at (sh_pre hsh hB)) hc j hk (hts _ hw) (fun _ h9 => h9) hv (okM_c hok hd).1 h
  · exact va_getN (D := D) (cl := classes) (C := Cn) (T := T) (N := N) hx hb hts hin hown hK hP o (wd_at (sh_pre hsh hB)) hc j hk (va_Nw.use rfl (hn _ hw)) (fun _ h9 => h9) hv (okM_c hok hd).1 h
theorem nar_bool {v : Int32} (h : v = 0 ∨ v = 1) : narrow .boolean (.int v) = .int v := by
  rcases h with rfl | rfl <;> decide
theorem fit_bool {v : Int32} (h : v = 0 ∨ v = 1) : fits .boolean (.int v) = true := by
  rcases h with rfl | rfl <;> decide
theorem e_putf {i t : Nat} {lv' : List (Option AV)} {st' : List AV} {S' : St} (hd : cAt y.2.2.2.2.1 pc = some (.putfield i, 3, t)) (hs : ptF y.2.2.2.2.2 B i lv st S = some (lv', st', S'))
    (k : EE l B R y Zf kc ks (pc + 3) lv' st' S') : EE l B R y Zf kc ks pc lv st S := by
  obtain ⟨v, o, r, ci, j, kd, fl, rfl, hf, hB, hz, hkd, rfl, rfl, rfl⟩ := ptF_inv hs
  intro p e s m args below meth c sh ad D cA H locs ls C hP hS hl
  obtain ⟨hx, hb, hr, hml, hown, hts, hlk, hn, hK, hok, hsh, hi⟩ := id C
  obtain ⟨⟨Cn, T, N⟩, hc, hk, hlink, h0, h1⟩ := okM_f hok hf
  obtain ⟨hin, hnm, ty0, hty⟩ := cls_all ci _ hc
  have hl2 : j < (fl.mapIdx (fldV ad (S.1 o))).length := by
    rw [List.length_mapIdx]; exact (List.getElem?_eq_some_iff.mp hz).1
  have hB' := sh_pre hsh hB
  obtain ⟨ty, hd9, hnr, hft, hfin⟩ : ∃ ty, parseFieldDescriptor (T j).2.2.1 = some ty ∧ narrow ty (.int v) = .int v ∧ fits ty (.int v) = true ∧ (T j).2.2.2 = false := by
    rcases hkd with e | ⟨e, hv⟩
    · exact ⟨.int, by rw [(h0 e).1]; decide +kernel, vp_nar_int v, rfl, (h0 e).2⟩
    · exact ⟨.boolean, by rw [(h1 e).1]; decide +kernel, nar_bool hv, fit_bool hv, (h1 e).2⟩
  have kk : ∀ (H1 : Heap) (locs1 : List Loc), va_P D classes ((wdA ad cA S sh).set o (ad o, .inr (ci, (fl.mapIdx (fldV ad (S.1 o))).set j (.int v)))) H1 → va_D (aA sh.length ad s.heap.size) ((wdA ad cA S sh).set o (ad o, .inr (ci, (fl.mapIdx (fldV ad (S.1 o))).set j (.int v)))) → va_S (aA sh.length ad s.heap.size) s.heap H1 locs1 → W p l e R s m args below meth c H1 locs1 kc ks (Zf below args s sh ad D cA) (F0 m (pc + 3) ls (st'.map (av_V ad))) := by
    intro H1 locs1 hP1 _ hS1
    rw [wd_puI hB' hz] at hP1
    exact k p e s m args below meth c sh ad D cA H1 locs1 ls C hP1 hS1 hl
  rcases hlink with hw | hw
  · exact va_put (D := D) (cl := classes) (C := Cn) (T := T) (N := N) hx hb hts hin ty0 hty hnm hown hK hP (wd_D hi) hS o (wd_at hB') hc j hk (hts _ hw) (fun _ h9 => h9) hfin hd9 hnr hft hl2 (okM_c hok hd).1 kk
  · exact va_putN (D := D) (cl := classes) (C := Cn) (T := T) (N := N) hx hb hts hin ty0 hty hnm hown hK hP (wd_D hi) hS o (wd_at hB') hc j hk (va_Nw.use rfl (hn _ hw)) (fun _ h9 => h9) hfin hd9 hnr hft hl2 (okM_c hok hd).1 kk
theorem e_sp {i : Instr} {n t : Nat} {lv' : List (Option AV)} {st' : List AV} {S' : St} (hd : cAt y.2.2.2.2.1 pc = some (i, n, t)) (hn : spN i = n) (hs : sp y B i lv st S = some (lv', st', S'))
    (k : EE l B R y Zf kc ks (pc + n) lv' st' S') : EE l B R y Zf kc ks pc lv st S := by
  subst hn
  cases i <;> first
    | exact e_getf hd hs k
    | exact e_putf hd hs k
    | (exfalso; simp [sp] at hs; done)
    | (intro p e s m args below meth c sh ad D cA H locs ls C hP hS hl
       have hx := C.1
       have hb := C.2.1
       have hdg := (okM_c C.2.2.2.2.2.2.2.2.2.1 hd).1
       dsimp only [sp] at hs
       first
        | (obtain ⟨x, z, r, rfl, rfl, rfl, rfl⟩ := bI_inv hs
           have h := k p e s m args below meth c sh ad D cA H locs ls C hP hS hl
           first
            | exact lv_iadd hx hb hdg h | exact lv_isub hx hb hdg h | exact lv_imul hx hb hdg h | exact lv_iand hx hb hdg h | exact lv_ior hx hb hdg h | exact lv_ixor hx hb hdg h
            | exact lv_ishl hx hb hdg h | exact lv_ishr hx hb hdg h | exact lv_iushr hx hb hdg rfl h)
        | (obtain ⟨x, z, r, rfl, rfl, rfl, rfl⟩ := bL_inv hs
           have h := k p e s m args below meth c sh ad D cA H locs ls C hP hS hl
           first
            | exact lv_ladd hx hb hdg h | exact lv_lsub hx hb hdg h | exact lv_land hx hb hdg h | exact lv_lor hx hb hdg h | exact lv_lxor hx hb hdg h)
        | (obtain ⟨x, z, r, rfl, rfl, rfl, rfl⟩ := bLI_inv hs
           have h := k p e s m args below meth c sh ad D cA H locs ls C hP hS hl
           first
            | exact lv_lshl hx hb hdg rfl h | exact lv_lushr hx hb hdg rfl h)
        | (obtain ⟨x, r, rfl, rfl, rfl, rfl⟩ := uI_inv hs
           have h := k p e s m args below meth c sh ad D cA H locs ls C hP hS hl
           first
            | exact lv_ineg hx hb hdg h | exact lv_i2l hx hb hdg rfl h | exact lv_i2b hx hb hdg rfl h)
        | (obtain ⟨x, r, rfl, rfl, rfl, rfl⟩ := uL_inv hs
           have h := k p e s m args below meth c sh ad D cA H locs ls C hP hS hl
           exact lv_l2i hx hb hdg rfl h)
        | (obtain ⟨x, hv, rfl, rfl, rfl⟩ := ldI_inv hs
           have h := k p e s m args below meth c sh ad D cA H locs ls C hP hS hl
           first
            | exact lv_iload hx hb hdg (hl.2.2 _ _ hv) h | exact lv_iload_n hx hb hdg rfl (hl.2.2 _ _ hv) h)
        | (obtain ⟨x, hv, rfl, rfl, rfl⟩ := ldL_inv hs
           have h := k p e s m args below meth c sh ad D cA H locs ls C hP hS hl
           first
            | exact lv_lload hx hb hdg (hl.2.2 _ _ hv) h | exact lv_lload_n hx hb hdg rfl (hl.2.2 _ _ hv) h)
        | (obtain ⟨x, hv, rfl, rfl, rfl⟩ := ldA_inv hs
           have h := k p e s m args below meth c sh ad D cA H locs ls C hP hS hl
           first
            | exact lv_aload hx hb hdg (hl.2.2 _ _ hv) h | exact lv_aload_n hx hb hdg rfl (hl.2.2 _ _ hv) h)
        | (obtain ⟨x, r, rfl, hp, hn, rfl, rfl, rfl⟩ := soI_inv hs
           first
            | exact lv_istore hx hb hdg (lh_has hl) hn rfl (fun ls' h' => k p e s m args below meth c sh ad D cA H locs ls' C hP hS (lh_set1 (v := aI x) rfl hp h'))
            | exact lv_istore_n hx hb hdg rfl (lh_has hl) hn rfl (fun ls' h' => k p e s m args below meth c sh ad D cA H locs ls' C hP hS (lh_set1 (v := aI x) rfl hp h')))
        | (obtain ⟨x, r, rfl, hp, hn, rfl, rfl, rfl⟩ := soA_inv hs
           first
            | exact lv_astore hx hb hdg (lh_has hl) hn rfl (fun ls' h' => k p e s m args below meth c sh ad D cA H locs ls' C hP hS (lh_set1 (v := aR x) rfl hp h'))
            | exact lv_astore_n hx hb hdg rfl (lh_has hl) hn rfl (fun ls' h' => k p e s m args below meth c sh ad D cA H locs ls' C hP hS (lh_set1 (v := aR x) rfl hp h')))
        | (obtain ⟨x, r, rfl, hp, hn, rfl, rfl, rfl⟩ := soL_inv hs
           first
            | exact lv_lstore hx hb hdg (lh_has hl) hn rfl (fun ls' h' => k p e s m args below meth c sh ad D cA H locs ls' C hP hS (lh_set2 (v := aL x) rfl hp h'))
            | exact lv_lstore_n hx hb hdg rfl (lh_has hl) hn rfl (fun ls' h' => k p e s m args below meth c sh ad D cA H locs ls' C hP hS (lh_set2 (v := aL x) rfl hp h')))
        | (obtain ⟨x, hv, hp, hn, rfl, rfl, rfl⟩ := incI_inv hs
           obtain ⟨j, hj⟩ := List.getElem?_of_mem (lhL_in (ad := ad) hv)
           exact lv_iinc hx hb hdg (lh_has hl) hj rfl hn rfl (fun ls' h' => k p e s m args below meth c sh ad D cA H locs ls' C hP hS (lh_set1 (v := aI (x + _)) rfl hp h')))
        | (cases hs
           have h := k p e s m args below meth c sh ad D cA H locs ls C hP hS hl
           first
            | exact lv_iconst hx hb hdg rfl h | exact lv_bipush hx hb hdg rfl h | exact lv_sipush hx hb hdg rfl h | exact lv_lconst hx hb hdg rfl h)
        | (split at hs
           next y1 x1 r1 =>
             cases hs
             have h := k p e s m args below meth c sh ad D cA H locs ls C hP hS hl
             first
              | exact W.lcmp hx hb hdg h
              | exact lv_dup2_11 hx hb hdg rfl rfl h
           next => cases hs)
        | (split at hs
           next x1 r1 =>
             cases hs
             have h := k p e s m args below meth c sh ad D cA H locs ls C hP hS hl
             first
              | exact lv_dup hx hb hdg rfl h
              | exact lv_pop (va := .int x1) hx hb hdg rfl h
           next x1 r1 =>
             cases hs
             have h := k p e s m args below meth c sh ad D cA H locs ls C hP hS hl
             first
              | exact lv_dup hx hb hdg rfl h
              | exact lv_pop (va := .ref (ad x1)) hx hb hdg rfl h
           next => cases hs))
theorem e_goto {o : Int} {t : Nat} (hd : cAt y.2.2.2.2.1 pc = some (.goto o, 3, t)) (k : EE l B R y Zf kc ks t lv st S) : EE l B R y Zf kc ks pc lv st S := by
  intro p e s m args below meth c sh ad D cA H locs ls C hP hS hl
  obtain ⟨hdg, hj⟩ := okM_c C.2.2.2.2.2.2.2.2.2.1 hd
  exact lv_goto C.1 C.2.1 hdg (of_decide_eq_true hj) (k p e s m args below meth c sh ad D cA H locs ls C hP hS hl)
def brC (cnd : ClassFile.Cond) (x y : Int32) : Prop := match cnd with
  | .eq => x = y
  | .ne => ¬ x = y
  | .lt => x < y
  | .ge => y ≤ x
  | .gt => y < x
  | .le => x ≤ y
theorem e_icmp {cnd : ClassFile.Cond} {o : Int} {t : Nat} {x z : Int32} (hd : cAt y.2.2.2.2.1 pc = some (.if_icmp cnd o, 3, t)) (kt : brC cnd x z → EE l B R y Zf kc ks t lv st S) (kf : ¬ brC cnd x z → EE l B R y Zf kc ks (pc + 3) lv st S) : EE l B R y Zf kc ks pc lv (aI z :: aI x :: st) S := by
  intro p e s m args below meth c sh ad D cA H locs ls C hP hS hl
  obtain ⟨hdg, hj⟩ := okM_c C.2.2.2.2.2.2.2.2.2.1 hd
  have kt' := fun h => kt h p e s m args below meth c sh ad D cA H locs ls C hP hS hl
  have kf' := fun h => kf h p e s m args below meth c sh ad D cA H locs ls C hP hS hl
  cases cnd
  · exact lv_icmp_eq C.1 C.2.1 hdg (of_decide_eq_true hj) kt' kf'
  · exact lv_icmp_ne C.1 C.2.1 hdg (of_decide_eq_true hj) kt' (fun h => kf' (fun h2 => h2 h))
  · exact lv_icmp_lt C.1 C.2.1 hdg (of_decide_eq_true hj) kt' kf'
  · exact lv_icmp_ge C.1 C.2.1 hdg (of_decide_eq_true hj) kt' kf'
  · exact lv_icmp_gt C.1 C.2.1 hdg (of_decide_eq_true hj) kt' kf'
  · exact lv_icmp_le C.1 C.2.1 hdg (of_decide_eq_true hj) kt' kf'
theorem e_if {cnd : ClassFile.Cond} {o : Int} {t : Nat} {x : Int32} (hd : cAt y.2.2.2.2.1 pc = some (.ifCond cnd o, 3, t)) (kt : brC cnd x 0 → EE l B R y Zf kc ks t lv st S) (kf : ¬ brC cnd x 0 → EE l B R y Zf kc ks (pc + 3) lv st S) : EE l B R y Zf kc ks pc lv (aI x :: st) S := by
  intro p e s m args below meth c sh ad D cA H locs ls C hP hS hl
  obtain ⟨hdg, hj⟩ := okM_c C.2.2.2.2.2.2.2.2.2.1 hd
  have kt' := fun h => kt h p e s m args below meth c sh ad D cA H locs ls C hP hS hl
  have kf' := fun h => kf h p e s m args below meth c sh ad D cA H locs ls C hP hS hl
  cases cnd
  · exact lv_if_eq C.1 C.2.1 hdg (of_decide_eq_true hj) kt' kf'
  · exact lv_if_ne C.1 C.2.1 hdg (of_decide_eq_true hj) kt' (fun h => kf' (fun h2 => h2 h))
  · exact lv_if_lt C.1 C.2.1 hdg (of_decide_eq_true hj) kt' kf'
  · exact lv_if_ge C.1 C.2.1 hdg (of_decide_eq_true hj) kt' kf'
  · exact lv_if_gt C.1 C.2.1 hdg (of_decide_eq_true hj) kt' kf'
  · exact lv_if_le C.1 C.2.1 hdg (of_decide_eq_true hj) kt' kf'
theorem e_div {t : Nat} {x z : Int32} (hd : cAt y.2.2.2.2.1 pc = some (.idiv, 1, t)) (hz : ¬ z = 0) (k : EE l B R y Zf kc ks (pc + 1) lv (aI (x / z) :: st) S) : EE l B R y Zf kc ks pc lv (aI z :: aI x :: st) S := by
  intro p e s m args below meth c sh ad D cA H locs ls C hP hS hl
  exact lv_idiv C.1 C.2.1 (okM_c C.2.2.2.2.2.2.2.2.2.1 hd).1 hz (k p e s m args below meth c sh ad D cA H locs ls C hP hS hl)
theorem e_rem {t : Nat} {x z : Int32} (hd : cAt y.2.2.2.2.1 pc = some (.irem, 1, t)) (hz : ¬ z = 0) (k : EE l B R y Zf kc ks (pc + 1) lv (aI (x - x / z * z) :: st) S) : EE l B R y Zf kc ks pc lv (aI z :: aI x :: st) S := by
  intro p e s m args below meth c sh ad D cA H locs ls C hP hS hl
  exact lv_irem C.1 C.2.1 (okM_c C.2.2.2.2.2.2.2.2.2.1 hd).1 hz (k p e s m args below meth c sh ad D cA H locs ls C hP hS hl)
/-! arrays -/
theorem e_iald {t o n : Nat} {i : Int32} (hd : cAt y.2.2.2.2.1 pc = some (.iaload, 1, t)) (hB : B[o]? = some (.inr (.int, n))) (hin : vp_in i n) (k : EE l B R y Zf kc ks (pc + 1) lv (aI (S.1 o i.toNatClampNeg) :: st) S) : EE l B R y Zf kc ks pc lv (aI i :: aR o :: st) S := by
  intro p e s m args below meth c sh ad D cA H locs ls C hP hS hl
  obtain ⟨hx, hb, hr, hml, hown, hts, hlk, hn, hK, hok, hsh, hi⟩ := id C
  exact va_iald hx hb hK hP o 0 (wd_at (sh_pre hsh hB)) rfl hin (okM_c hok hd).1 (k p e s m args below meth c sh ad D cA H locs ls C hP hS hl)
theorem e_bald {t o n : Nat} {i : Int32} (hd : cAt y.2.2.2.2.1 pc = some (.baload, 1, t)) (hB : B[o]? = some (.inr (.byte, n))) (hin : vp_in i n) (k : EE l B R y Zf kc ks (pc + 1) lv (aI (S.1 o i.toNatClampNeg) :: st) S) : EE l B R y Zf kc ks pc lv (aI i :: aR o :: st) S := by
  intro p e s m args below meth c sh ad D cA H locs ls C hP hS hl
  obtain ⟨hx, hb, hr, hml, hown, hts, hlk, hn, hK, hok, hsh, hi⟩ := id C
  exact va_bald hx hb hK hP o 2 (wd_at (sh_pre hsh hB)) rfl hin (okM_c hok hd).1 (k p e s m args below meth c sh ad D cA H locs ls C hP hS hl)
theorem e_zald {t o n : Nat} {i : Int32} (hd : cAt y.2.2.2.2.1 pc = some (.baload, 1, t)) (hB : B[o]? = some (.inr (.boolean, n))) (hin : vp_in i n) (k : EE l B R y Zf kc ks (pc + 1) lv (aI (S.1 o i.toNatClampNeg) :: st) S) : EE l B R y Zf kc ks pc lv (aI i :: aR o :: st) S := by
  intro p e s m args below meth c sh ad D cA H locs ls C hP hS hl
  obtain ⟨hx, hb, hr, hml, hown, hts, hlk, hn, hK, hok, hsh, hi⟩ := id C
  exact va_zald hx hb hK hP o 3 (wd_at (sh_pre hsh hB)) rfl hin (okM_c hok hd).1 (k p e s m args below meth c sh ad D cA H locs ls C hP hS hl)
theorem e_lald {t o n : Nat} {i : Int32} (hd : cAt y.2.2.2.2.1 pc = some (.laload, 1, t)) (hB : B[o]? = some (.inr (.long, n))) (hin : vp_in i n) (k : EE l B R y Zf kc ks (pc + 1) lv (aL (S.2 o i.toNatClampNeg) :: st) S) : EE l B R y Zf kc ks pc lv (aI i :: aR o :: st) S := by
  intro p e s m args below meth c sh ad D cA H locs ls C hP hS hl
  obtain ⟨hx, hb, hr, hml, hown, hts, hlk, hn, hK, hok, hsh, hi⟩ := id C
  exact va_lald hx hb hK hP o 1 (wd_at (sh_pre hsh hB)) rfl hin (okM_c hok hd).1 (k p e s m args below meth c sh ad D cA H locs ls C hP hS hl)
theorem e_iast {t o n : Nat} {i v : Int32} (hd : cAt y.2.2.2.2.1 pc = some (.iastore, 1, t)) (hB : B[o]? = some (.inr (.int, n))) (hin : vp_in i n) (k : EE l B R y Zf kc ks (pc + 1) lv st (puI S o i.toNatClampNeg v)) : EE l B R y Zf kc ks pc lv (aI v :: aI i :: aR o :: st) S := by
  intro p e s m args below meth c sh ad D cA H locs ls C hP hS hl
  obtain ⟨hx, hb, hr, hml, hown, hts, hlk, hn, hK, hok, hsh, hi⟩ := id C
  refine va_iast hx hb hK hP (wd_D hi) hS o 0 (wd_at (sh_pre hsh hB)) rfl hin (okM_c hok hd).1 (fun H1 locs1 hP1 _ hS1 => ?_)
  have e9 := wd_arI (ad := ad) (cA := cA) (S := S) (k := i.toNatClampNeg) (v := v) (sh_pre hsh hB) (fun h => by cases h)
  rw [e9] at hP1
  exact k p e s m args below meth c sh ad D cA H1 locs1 ls C hP1 hS1 hl
theorem e_bast {t o n : Nat} {i v : Int32} (hd : cAt y.2.2.2.2.1 pc = some (.bastore, 1, t)) (hB : B[o]? = some (.inr (.byte, n))) (hin : vp_in i n) (k : EE l B R y Zf kc ks (pc + 1) lv st (puI S o i.toNatClampNeg (vp_nar .byte v))) : EE l B R y Zf kc ks pc lv (aI v :: aI i :: aR o :: st) S := by
  intro p e s m args below meth c sh ad D cA H locs ls C hP hS hl
  obtain ⟨hx, hb, hr, hml, hown, hts, hlk, hn, hK, hok, hsh, hi⟩ := id C
  refine va_bast hx hb hK hP (wd_D hi) hS o 2 (wd_at (sh_pre hsh hB)) rfl hin (okM_c hok hd).1 (fun H1 locs1 hP1 _ hS1 => ?_)
  have e9 := wd_arI (ad := ad) (cA := cA) (S := S) (k := i.toNatClampNeg) (v := vp_nar .byte v) (sh_pre hsh hB) (fun h => by cases h)
  rw [e9] at hP1
  exact k p e s m args below meth c sh ad D cA H1 locs1 ls C hP1 hS1 hl
theorem e_zast {t o n : Nat} {i v : Int32} (hd : cAt y.2.2.2.2.1 pc = some (.bastore, 1, t)) (hB : B[o]? = some (.inr (.boolean, n))) (hin : vp_in i n) (k : EE l B R y Zf kc ks (pc + 1) lv st (puI S o i.toNatClampNeg (vp_nar .boolean v))) : EE l B R y Zf kc ks pc lv (aI v :: aI i :: aR o :: st) S := by
  intro p e s m args below meth c sh ad D cA H locs ls C hP hS hl
  obtain ⟨hx, hb, hr, hml, hown, hts, hlk, hn, hK, hok, hsh, hi⟩ := id C
  refine va_zast hx hb hK hP (wd_D hi) hS o 3 (wd_at (sh_pre hsh hB)) rfl hin (okM_c hok hd).1 (fun H1 locs1 hP1 _ hS1 => ?_)
  have e9 := wd_arI (ad := ad) (cA := cA) (S := S) (k := i.toNatClampNeg) (v := vp_nar .boolean v) (sh_pre hsh hB) (fun h => by cases h)
  rw [e9] at hP1
  exact k p e s m args below meth c sh ad D cA H1 locs1 ls C hP1 hS1 hl
theorem e_last {t o n : Nat} {i : Int32} {v : Int64} (hd : cAt y.2.2.2.2.1 pc = some (.lastore, 1, t)) (hB : B[o]? = some (.inr (.long, n))) (hin : vp_in i n) (k : EE l B R y Zf kc ks (pc + 1) lv st (puL S o i.toNatClampNeg v)) : EE l B R y Zf kc ks pc lv (aL v :: aI i :: aR o :: st) S := by
  intro p e s m args below meth c sh ad D cA H locs ls C hP hS hl
  obtain ⟨hx, hb, hr, hml, hown, hts, hlk, hn, hK, hok, hsh, hi⟩ := id C
  refine va_last hx hb hK hP (wd_D hi) hS o 1 (wd_at (sh_pre hsh hB)) rfl hin (okM_c hok hd).1 (fun H1 locs1 hP1 _ hS1 => ?_)
  have e9 := wd_arL (ad := ad) (cA := cA) (S := S) (k := i.toNatClampNeg) (v := v) (sh_pre hsh hB)
  rw [e9] at hP1
  exact k p e s m args below meth c sh ad D cA H1 locs1 ls C hP1 hS1 hl
theorem e_alen {t o n : Nat} {ty : FieldType} (hd : cAt y.2.2.2.2.1 pc = some (.arraylength, 1, t)) (hB : B[o]? = some (.inr (ty, n))) (hty : ty = .int ∨ ty = .long ∨ ty = .byte ∨ ty = .boolean) (k : EE l B R y Zf kc ks (pc + 1) lv (aI (nI n) :: st) S) : EE l B R y Zf kc ks pc lv (aR o :: st) S := by
  intro p e s m args below meth c sh ad D cA H locs ls C hP hS hl
  obtain ⟨hx, hb, hr, hml, hown, hts, hlk, hn, hK, hok, hsh, hi⟩ := id C
  have h := k p e s m args below meth c sh ad D cA H locs ls C hP hS hl
  rcases hty with rfl | rfl | rfl | rfl
  · exact va_alen hx hb hK hP o 0 (wd_at (sh_pre hsh hB)) rfl rfl (okM_c hok hd).1 h
  · exact va_alen hx hb hK hP o 1 (wd_at (sh_pre hsh hB)) rfl rfl (okM_c hok hd).1 h
  · exact va_alen hx hb hK hP o 2 (wd_at (sh_pre hsh hB)) rfl rfl (okM_c hok hd).1 h
  · exact va_alen hx hb hK hP o 3 (wd_at (sh_pre hsh hB)) rfl rfl (okM_c hok hd).1 h
end Sp
