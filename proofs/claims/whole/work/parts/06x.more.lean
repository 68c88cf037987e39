/-! constants, Math, switches -/
section More
variable {l : Launch} {B : List Sh} {R : Room} {y : Mt} {Zf : ZF} {kc ks pc i t : Nat} {lv : List (Option AV)} {st : List AV} {S : St}
theorem e_ldc {v : Int32} (hd : cAt y.2.2.2.2.1 pc = some (.ldc i, 2, t)) (hw : Jvm.Cond.constant y.1.cls i v ∈ lw_tbl) (k : EE l B R y Zf kc ks (pc + 2) lv (aI v :: st) S) : EE l B R y Zf kc ks pc lv st S := by
  intro p e s m args below meth c sh ad D cA H locs ls C hP hS hl
  obtain ⟨hx, hb, hr, hml, hown, hts, hlk, hn, hK, hok, hsh, hi⟩ := id C
  exact lv_ldc hx hb hown (hts _ (gw_in hw rfl)) (okM_c hok hd).1 (k p e s m args below meth c sh ad D cA H locs ls C hP hS hl)
theorem e_ldcw {v : Int32} (hd : cAt y.2.2.2.2.1 pc = some (.ldc_w i, 3, t)) (hw : Jvm.Cond.constant y.1.cls i v ∈ lw_tbl) (k : EE l B R y Zf kc ks (pc + 3) lv (aI v :: st) S) : EE l B R y Zf kc ks pc lv st S := by
  intro p e s m args below meth c sh ad D cA H locs ls C hP hS hl
  obtain ⟨hx, hb, hr, hml, hown, hts, hlk, hn, hK, hok, hsh, hi⟩ := id C
  exact lv_ldcw hx hb hown (hts _ (gw_in hw rfl)) (okM_c hok hd).1 (k p e s m args below meth c sh ad D cA H locs ls C hP hS hl)
theorem e_ldc2 {v : Int64} (hd : cAt y.2.2.2.2.1 pc = some (.ldc2_w i, 3, t)) (hw : Jvm.Cond.constantLong y.1.cls i v ∈ lw_tbl) (k : EE l B R y Zf kc ks (pc + 3) lv (aL v :: st) S) : EE l B R y Zf kc ks pc lv st S := by
  intro p e s m args below meth c sh ad D cA H locs ls C hP hS hl
  obtain ⟨hx, hb, hr, hml, hown, hts, hlk, hn, hK, hok, hsh, hi⟩ := id C
  exact lv_ldc2 hx hb hown (hts _ (gw_in hw rfl)) (okM_c hok hd).1 (k p e s m args below meth c sh ad D cA H locs ls C hP hS hl)
theorem w_mmaxS : Jvm.Cond.static Lib.Math.max.name ∈ lw_tbl := List.mem_of_getElem? (i := 85) (by decide +kernel)
theorem w_mminS : Jvm.Cond.static Lib.Math.min.name ∈ lw_tbl := List.mem_of_getElem? (i := 82) (by decide +kernel)
theorem w_mathI : Jvm.Cond.initialized "java/lang/Math" ∈ lw_tbl := List.mem_of_getElem? (i := 54) (by decide +kernel)
theorem w_mmaxC : Jvm.Cond.code Lib.Math.max.name Lib.Math.max.code 2 (some .int) ∈ lw_tbl := List.mem_of_getElem? (i := 86) (by decide +kernel)
theorem w_mminC : Jvm.Cond.code Lib.Math.min.name Lib.Math.min.code 2 (some .int) ∈ lw_tbl := List.mem_of_getElem? (i := 83) (by decide +kernel)
theorem e_mmax {x z : Int32} (hd : cAt y.2.2.2.2.1 pc = some (.invokestatic i, 3, t)) (hw : Jvm.Cond.methodLink y.1.cls i Lib.Math.max.name ∈ lw_tbl) (hR : 1 ≤ R.frames) (hL : (st.map av_c).sum + 13 ≤ R.locals) (hc : kc ≤ R.cells ∧ ks ≤ R.slots) (k : EE l B R y Zf kc ks (pc + 3) lv (aI (if x < z then z else x) :: st) S) : EE l B R y Zf kc ks pc lv (aI z :: aI x :: st) S := by
  intro p e s m args below meth c sh ad D cA H locs ls C hP hS hl
  obtain ⟨hx, hb, hr, hml, hown, hts, hlk, hn, hK, hok, hsh, hi⟩ := id C
  exact va_mmax hx hb (hml.trans hl.1.symm) hown (hts _ (gw_in hw rfl)) (hts _ (gw_in w_mmaxS rfl)) (hts _ (gw_in w_mathI rfl)) (hts _ (gw_in w_mmaxC rfl)) hR (by rw [av_cats]; exact hL) hc.1 hc.2 (okM_c hok hd).1 (k p e s m args below meth c sh ad D cA H locs ls C hP hS hl)
theorem e_mmin {x z : Int32} (hd : cAt y.2.2.2.2.1 pc = some (.invokestatic i, 3, t)) (hw : Jvm.Cond.methodLink y.1.cls i Lib.Math.min.name ∈ lw_tbl) (hR : 1 ≤ R.frames) (hL : (st.map av_c).sum + 13 ≤ R.locals) (hc : kc ≤ R.cells ∧ ks ≤ R.slots) (k : EE l B R y Zf kc ks (pc + 3) lv (aI (if z < x then z else x) :: st) S) : EE l B R y Zf kc ks pc lv (aI z :: aI x :: st) S := by
  intro p e s m args below meth c sh ad D cA H locs ls C hP hS hl
  obtain ⟨hx, hb, hr, hml, hown, hts, hlk, hn, hK, hok, hsh, hi⟩ := id C
  exact va_mmin hx hb (hml.trans hl.1.symm) hown (hts _ (gw_in hw rfl)) (hts _ (gw_in w_mminS rfl)) (hts _ (gw_in w_mathI rfl)) (hts _ (gw_in w_mminC rfl)) hR (by rw [av_cats]; exact hL) hc.1 hc.2 (okM_c hok hd).1 (k p e s m args below meth c sh ad D cA H locs ls C hP hS hl)
theorem e_tswI {dflt lo hi off : Int} {offs : Array Int} {len tgt : Nat} {x : Int32} (hd : cAt y.2.2.2.2.1 pc = some (.tableswitch dflt lo hi offs, len, t)) (h1 : ¬ x.toInt < lo) (h2 : ¬ hi < x.toInt) (ho : offs[(x.toInt - lo).toNat]? = some off) (ht : (pc : Int) + off = (tgt : Int)) (k : EE l B R y Zf kc ks tgt lv st S) : EE l B R y Zf kc ks pc lv (aI x :: st) S := by
  intro p e s m args below meth c sh ad D cA H locs ls C hP hS hl
  obtain ⟨hx, hb, hr, hml, hown, hts, hlk, hn, hK, hok, hsh, hi⟩ := id C
  exact lv_tableIn hx hb (okM_c hok hd).1 h1 h2 ho ht (k p e s m args below meth c sh ad D cA H locs ls C hP hS hl)
theorem e_tswO {dflt lo hi : Int} {offs : Array Int} {len tgt : Nat} {x : Int32} (hd : cAt y.2.2.2.2.1 pc = some (.tableswitch dflt lo hi offs, len, t)) (h : x.toInt < lo ∨ hi < x.toInt) (ht : (pc : Int) + dflt = (tgt : Int)) (k : EE l B R y Zf kc ks tgt lv st S) : EE l B R y Zf kc ks pc lv (aI x :: st) S := by
  intro p e s m args below meth c sh ad D cA H locs ls C hP hS hl
  obtain ⟨hx, hb, hr, hml, hown, hts, hlk, hn, hK, hok, hsh, hi⟩ := id C
  exact lv_tableOut hx hb (okM_c hok hd).1 h ht (k p e s m args below meth c sh ad D cA H locs ls C hP hS hl)
end More
