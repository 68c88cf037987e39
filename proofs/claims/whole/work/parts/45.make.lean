/-! making objects: the world grows -/
abbrev ZG : Type := List Frame → Array Value → State → (Nat → Nat) → va_G → (FieldType → ClassId) → State → Prop
/-- an end that asks for the world's shape just now: B; the cells from n0 on were made since the beginning -/
def zG (F9 : State → Prop) (n0 : Nat) (B : List Sh) (ZZ : ZG) : ZF := fun below args s sh ad D cA t => (sh = B ∧ F9 s ∧ ∀ i, n0 ≤ i → i < B.length → s.heap.size ≤ ad i) → ZZ below args s ad D cA t
def agr (n0 nf : Nat) (ad ad' : Nat → Nat) : Prop := ∀ i, (i < n0 ∨ nf ≤ i) → ad' i = ad i
/-- an end that does not look at the cells that are being made -/
def blindZ (n0 nf : Nat) (ZZ : ZG) : Prop := ∀ below args s ad ad' D cA t, agr n0 nf ad ad' → ZZ below args s ad' D cA t → ZZ below args s ad D cA t
def nz (S : St) (o : Nat) : St := (pt S.1 o (fun _ => 0), ptL S.2 o (fun _ => 0))
/-- no reference to place n -/
def avN (n : Nat) (v : AV) : Bool := match v with
  | .inl q => decide (q ≠ n)
  | _ => true
def lvN (n : Nat) (lv : List (Option AV)) : Bool := lv.all (fun v => match v with
  | some w => avN n w
  | none => true)
def shN9 (n : Nat) (B : List Sh) : Bool := B.all (fun z => match z with
  | .inl (_, fl) => fl.all (fun x => match x with
    | some q => decide (q ≠ n)
    | none => true)
  | _ => true)
def adU (ad : Nat → Nat) (n q : Nat) : Nat → Nat := fun i => if i = n then q else ad i
theorem adU_n {ad : Nat → Nat} {n q i : Nat} (h : i ≠ n) : adU ad n q i = ad i := if_neg h
theorem adU_s {ad : Nat → Nat} {n q : Nat} : adU ad n q n = q := if_pos rfl
/-- two layings of addresses that agree on what a value names -/
theorem av_agree {ad ad' : Nat → Nat} {v : AV} (h : ∀ q, v = .inl q → ad' q = ad q) : av_V ad' v = av_V ad v := by
  rcases v with q | x | x
  · show Value.ref (ad' q) = Value.ref (ad q)
    rw [h q rfl]
  · rfl
  · rfl
theorem lh_agree {ad ad' : Nat → Nat} {ls : Array Slot} {nL : Nat} {lv : List (Option AV)} (h : ∀ (i q : Nat), lv[i]? = some (some (.inl q)) → ad' q = ad q) (hl : lh ad ls nL lv) : lh ad' ls nL lv := by
  refine ⟨hl.1, hl.2.1, fun i v hv => ?_⟩
  rw [hl.2.2 i v hv, av_agree (ad := ad) (ad' := ad') (v := v) (fun q hq => h i q (by rw [hv, hq]))]
theorem st_agree {ad ad' : Nat → Nat} {st : List AV} (h : ∀ q, aR q ∈ st → ad' q = ad q) : st.map (av_V ad') = st.map (av_V ad) :=
  List.map_congr_left (fun v hv => av_agree (fun q hq => h q (by subst hq; exact hv)))
theorem cell_agree {ad ad' : Nat → Nat} {cA : FieldType → ClassId} {S S' : St} {o : Nat} {z : Sh} (h : ∀ ci fl, z = .inl (ci, fl) → ∀ q, some q ∈ fl → q < 1000 → ad' q = ad q) (h1 : S'.1 o = S.1 o) (h2 : S'.2 o = S.2 o) : cellA ad' cA S' o z = cellA ad cA S o z := by
  rw [cellA_n (ad := ad') (cA := cA) (z := z) h1 h2]
  rcases z with ⟨ci, fl⟩ | ⟨ty, n⟩
  · show Sum.inr (ci, fl.mapIdx (fldV ad' (S.1 o))) = Sum.inr (ci, fl.mapIdx (fldV ad (S.1 o)))
    congr 2
    apply List.ext_getElem?
    intro i
    rw [List.getElem?_mapIdx, List.getElem?_mapIdx]
    cases hx : fl[i]? with
    | none => rfl
    | some x =>
      cases x with
      | none => rfl
      | some q =>
        simp only [Option.map_some, fldV]
        split
        next hq => rw [h ci fl rfl q (List.mem_of_getElem? hx) hq]
        next => rfl
  · cases ty <;> rfl
theorem wd_agree {ad ad' : Nat → Nat} {cA : FieldType → ClassId} {S S' : St} {B : List Sh} (ha : ∀ i, i < B.length → ad' i = ad i) (h : ∀ (j ci : Nat) (fl : List (Option Nat)), B[j]? = some (.inl (ci, fl)) → ∀ q, some q ∈ fl → q < 1000 → ad' q = ad q) (hS : ∀ i, i < B.length → S'.1 i = S.1 i ∧ S'.2 i = S.2 i) : wdA ad' cA S' B = wdA ad cA S B := by
  unfold wdA
  apply List.ext_getElem?
  intro i
  rw [List.getElem?_mapIdx, List.getElem?_mapIdx]
  cases hx : B[i]? with
  | none => rfl
  | some z =>
    have hi : i < B.length := (List.getElem?_eq_some_iff.mp hx).1
    simp only [Option.map_some]
    rw [ha i hi, cell_agree (S := S) (fun ci fl e => h i ci fl (by rw [hx, e])) (hS i hi).1 (hS i hi).2]
theorem wd_push {ad : Nat → Nat} {cA : FieldType → ClassId} {S : St} {B : List Sh} {x : Sh} : wdA ad cA S (B ++ [x]) = wdA ad cA S B ++ [(ad B.length, cellA ad cA S B.length x)] := by
  unfold wdA
  rw [List.mapIdx_append]
  simp
theorem shN_of {n : Nat} {B : List Sh} (h : shN9 n B = true) : ∀ (j ci : Nat) (fl : List (Option Nat)), B[j]? = some (.inl (ci, fl)) → ∀ q, some q ∈ fl → q ≠ n := by
  intro j ci fl hj q hq
  have h1 := List.all_eq_true.mp h _ (List.mem_of_getElem? hj)
  have h2 := List.all_eq_true.mp h1 _ hq
  exact of_decide_eq_true h2
theorem lvN_of {n : Nat} {lv : List (Option AV)} (h : lvN n lv = true) : ∀ (i q : Nat), lv[i]? = some (some (.inl q)) → q ≠ n := by
  intro i q hi
  exact of_decide_eq_true (List.all_eq_true.mp h _ (List.mem_of_getElem? hi))
theorem stN_of {n : Nat} {st : List AV} (h : st.all (avN n) = true) : ∀ q, aR q ∈ st → q ≠ n := fun q hq => of_decide_eq_true (List.all_eq_true.mp h _ hq)
theorem va_S.mono {A A' : Nat → Prop} {H0 H : Heap} {locs : List Loc} (h : va_S A H0 H locs) (hA : ∀ q, A q → A' q) : va_S A' H0 H locs := ⟨h.1, fun q h1 h2 => h.2.1 q h1 (fun z => h2 (hA q z)), fun l hl => hA _ (h.2.2 l hl)⟩
/-- one cell more, at its end: the common part of 'new' and 'newarray' -/
theorem grow {l : Launch} {B : List Sh} {R : Room} {y : Mt} {F9 : State → Prop} {ZZ : ZG} {n0 nf kc ks pc : Nat} {lv : List (Option AV)} {st : List AV} {S : St} {x : Sh}
    (hn0 : n0 ≤ B.length) (hnf : B.length < nf) (hZ : blindZ n0 nf ZZ) (hB : shN9 B.length (B ++ [x]) = true) (hlv : lvN B.length lv = true) (hst : st.all (avN B.length) = true)
    (k : EE l (B ++ [x]) R y (zG F9 n0 (B ++ [x]) ZZ) kc ks pc lv (aR B.length :: st) (nz S B.length))
    {p : Program} {e : Env} {s : State} {m : MethodId} {args : Array Value} {below : List Frame} {meth : Method} {c : Code} {ad : Nat → Nat} {D : va_G} {cA : FieldType → ClassId} {locs : List Loc} {ls : Array Slot}
    (C : Cx B y p s m args meth c B ad D cA) (hl : lh ad ls y.2.2.1 lv) (hfr : ∀ i, n0 ≤ i → i < B.length → s.heap.size ≤ ad i) (hF : F9 s) {q : Nat} {H1 : Heap}
    (hP1 : va_P D classes (wdA ad cA S B ++ [(q, cellA (adU ad B.length q) cA (nz S B.length) B.length x)]) H1) (hD1 : va_D (aA B.length ad s.heap.size) (wdA ad cA S B ++ [(q, cellA (adU ad B.length q) cA (nz S B.length) B.length x)])) (hS1 : va_S (aA B.length ad s.heap.size) s.heap H1 locs) :
    W p l e R s m args below meth c H1 locs kc ks (ZZ below args s ad D cA) (F0 m pc ls (.ref q :: st.map (av_V ad))) := by
  obtain ⟨hx, hb, hr, hml, hown, hts, hlk, hn, hK, hok, hsh, hi⟩ := id C
  have hlen : (wdA ad cA S B).length = B.length := by unfold wdA; rw [List.length_mapIdx]
  have hlast : (wdA ad cA S B ++ [(q, cellA (adU ad B.length q) cA (nz S B.length) B.length x)])[B.length]? = some (q, cellA (adU ad B.length q) cA (nz S B.length) B.length x) := by
    rw [List.getElem?_append_right (by rw [hlen]; exact Nat.le_refl _), hlen, Nat.sub_self]; rfl
  have hold : ∀ i, i < B.length → ∃ e, (wdA ad cA S B ++ [(q, cellA (adU ad B.length q) cA (nz S B.length) B.length x)])[i]? = some (ad i, e) := fun i hi9 => by
    rw [List.getElem?_append_left (by rw [hlen]; exact hi9)]
    exact ⟨_, wd_at (List.getElem?_eq_getElem hi9)⟩
  have hne : ∀ i, i < B.length → ad i ≠ q := fun i hi9 h9 => by
    obtain ⟨e, he⟩ := hold i hi9
    have := hD1.1 i B.length _ _ he hlast h9
    omega
  have hq : s.heap.size ≤ q := by
    rcases hD1.2 B.length _ hlast with ⟨i, h1, h2⟩ | h
    · exact absurd h2.symm (hne i h1)
    · exact h
  have hw : wdA (adU ad B.length q) cA (nz S B.length) (B ++ [x]) = wdA ad cA S B ++ [(q, cellA (adU ad B.length q) cA (nz S B.length) B.length x)] := by
    rw [wd_push, adU_s, wd_agree (ad := ad) (S := S) (fun i h9 => adU_n (Nat.ne_of_lt h9)) (fun j ci fl hj z hz _ => adU_n (shN_of hB j ci fl (by rw [List.getElem?_append_left (List.getElem?_eq_some_iff.mp hj).1]; exact hj) z hz)) (fun i h9 => ⟨pt_n (Nat.ne_of_lt h9), ptL_n (Nat.ne_of_lt h9)⟩)]
  have hinj : ∀ i j, i < (B ++ [x]).length → j < (B ++ [x]).length → adU ad B.length q i = adU ad B.length q j → i = j := by
    intro i j h1 h2 h3
    rw [List.length_append, List.length_singleton] at h1 h2
    by_cases e1 : i = B.length
    · by_cases e2 : j = B.length
      · rw [e1, e2]
      · rw [e1, adU_s, adU_n e2] at h3
        exact absurd h3.symm (hne j (by omega))
    · by_cases e2 : j = B.length
      · rw [e2, adU_s, adU_n e1] at h3
        exact absurd h3 (hne i (by omega))
      · rw [adU_n e1, adU_n e2] at h3
        exact hi i j (by omega) (by omega) h3
  have hA : ∀ z, aA B.length ad s.heap.size z → aA (B ++ [x]).length (adU ad B.length q) s.heap.size z := fun z hz => by
    rcases hz with ⟨i, h1, h2⟩ | h
    · exact Or.inl ⟨i, by rw [List.length_append]; omega, by rw [adU_n (Nat.ne_of_lt h1)]; exact h2⟩
    · exact Or.inr h
  have hk := k p e s m args below meth c (B ++ [x]) (adU ad B.length q) D cA H1 locs ls ⟨hx, hb, hr, hml, hown, hts, hlk, hn, hK, hok, ⟨[], by simp⟩, hinj⟩ (by rw [hw]; exact hP1) (hS1.mono hA)
    (lh_agree (fun i z hz => adU_n (lvN_of hlv i z hz)) hl)
  rw [List.map_cons, show av_V (adU ad B.length q) (aR B.length) = .ref q by show Value.ref (adU ad B.length q B.length) = _; rw [adU_s], st_agree (ad := ad) (fun z hz => adU_n (stN_of hst z hz))] at hk
  intro T hT X
  obtain ⟨t, a, b⟩ := hk T hT X
  refine ⟨t, a, hZ below args s ad (adU ad B.length q) D cA t (fun i h9 => adU_n (by omega)) (b ⟨rfl, hF, fun i h1 h2 => ?_⟩)⟩
  rw [List.length_append, List.length_singleton] at h2
  by_cases e1 : i = B.length
  · rw [e1, adU_s]; exact hq
  · rw [adU_n e1]; exact hfr i h1 (by omega)
theorem zg_in {l : Launch} {B : List Sh} {R : Room} {y : Mt} {F9 : State → Prop} {ZZ : ZG} {n0 kc ks pc : Nat} {lv : List (Option AV)} {st : List AV} {S : St}
    (h : ∀ (p : Program) (e : Env) (s : State) (m : MethodId) (args : Array Value) (below : List Frame) (meth : Method) (c : Code) (ad : Nat → Nat) (D : va_G) (cA : FieldType → ClassId) (H : Heap) (locs : List Loc) (ls : Array Slot),
      Cx B y p s m args meth c B ad D cA → va_P D classes (wdA ad cA S B) H → va_S (aA B.length ad s.heap.size) s.heap H locs → lh ad ls y.2.2.1 lv → F9 s → (∀ i, n0 ≤ i → i < B.length → s.heap.size ≤ ad i) →
      W p l e R s m args below meth c H locs kc ks (ZZ below args s ad D cA) (F0 m pc ls (st.map (av_V ad)))) : EE l B R y (zG F9 n0 B ZZ) kc ks pc lv st S := by
  intro p e s m args below meth c sh ad D cA H locs ls C hP hS hl T hT X
  by_cases hF : sh = B ∧ F9 s ∧ ∀ i, n0 ≤ i → i < B.length → s.heap.size ≤ ad i
  case neg => exact ⟨_, Steps.refl _, fun h9 => absurd h9 hF⟩
  obtain ⟨rfl, h1, h2⟩ := id hF
  obtain ⟨t, a, b⟩ := h p e s m args below meth c ad D cA H locs ls C hP hS hl h1 h2 T hT X
  exact ⟨t, a, fun _ => b⟩
/-- the beginning of what a new object's fields are -/
def newF (fl : List (Option Nat)) : Bool := fl.all (fun x => match x with
  | some q => decide (q = 1000)
  | none => true)
theorem e_newO {l : Launch} {B : List Sh} {R : Room} {y : Mt} {F9 : State → Prop} {ZZ : ZG} {n0 nf kc ks pc idx t ci N : Nat} {lv : List (Option AV)} {st : List AV} {S : St} {C : String} {T : u_T} {ty : Nat → FieldType} {fl : List (Option Nat)}
    (hd : cAt y.2.2.2.2.1 pc = some (.new idx, 3, t)) (hcl : Jvm.Cond.classLink y.1.cls idx C ∈ gw) (hin : Jvm.Cond.instantiable C N ∈ gw) (hii : Jvm.Cond.initialized C ∈ gw) (hc : classes[ci]? = some (C, T, N)) (hty : ∀ k, k < N → parseFieldDescriptor (T k).2.2.1 = some (ty k))
    (hdf : ∀ (ad : Nat → Nat) (j : Nat), j < N → defaultValue (ty j) = vp_V (fl.mapIdx (fldV ad (fun _ => 0))) j)
    (hn0 : n0 ≤ B.length) (hnf : B.length < nf) (hZ : blindZ n0 nf ZZ) (hB : shN9 B.length (B ++ [.inl (ci, fl)]) = true) (hlv : lvN B.length lv = true) (hst : st.all (avN B.length) = true) (hR : kc + 1 ≤ R.cells ∧ ks + N ≤ R.slots)
    (k : EE l (B ++ [.inl (ci, fl)]) R y (zG F9 n0 (B ++ [.inl (ci, fl)]) ZZ) (kc + 1) (ks + N) (pc + 3) lv (aR B.length :: st) (nz S B.length)) : EE l B R y (zG F9 n0 B ZZ) kc ks pc lv st S := by
  refine zg_in (fun p e s m args below meth c ad D cA H locs ls Cc hP hS hl hF hfr => ?_)
  obtain ⟨hx, hb, hr, hml, hown, hts, hlk, hn, hK, hok, hsh, hi⟩ := id Cc
  have hin9 := (cls_all ci _ hc).1
  refine va_new (D := D) (cl := classes) (C := C) (T := T) (N := N) (ci := ci) hx hb hts hin9 ty hty hown (hts _ hcl) (hts _ hin) (hts _ hii) hK hP (wd_D hi) hS (fun q hq => Or.inr hq) hc (fs := fl.mapIdx (fldV ad (fun _ => 0))) (fun j hj => hdf _ j hj) hR.1 hR.2 (okM_c hok hd).1 (fun q H1 hP1 hD1 hS1 => ?_)
  have e9 : cellA (adU ad B.length q) cA (nz S B.length) B.length (.inl (ci, fl)) = .inr (ci, fl.mapIdx (fldV ad (fun _ => 0))) := by
    rw [cell_agree (ad := ad) (S := nz S B.length) (fun ci' fl' e z hz _ => adU_n (shN_of hB B.length ci' fl' (by rw [List.getElem?_append_right (Nat.le_refl _), Nat.sub_self, e]; rfl) z hz)) rfl rfl]
    show Sum.inr (ci, fl.mapIdx (fldV ad ((nz S B.length).1 B.length))) = _
    rw [show (nz S B.length).1 B.length = (fun _ => 0) from pt_s]
  rw [← e9] at hP1 hD1
  exact grow hn0 hnf hZ hB hlv hst k Cc hl hfr hF hP1 hD1 hS1

/-- the class of arrays of a kind -/
theorem cA_of {D : va_G} {cA : FieldType → ClassId} {s : State} {ty : FieldType} {cB : ClassId} (hty : ty = .int ∨ ty = .long ∨ ty = .byte ∨ ty = .boolean) (hK : va_K D classes (tysA cA) s) (hK1 : va_K D classes (tysA cA ++ [(cB, ty)]) s) : cB = cA ty := by
  have h1 := (hK1.2 4 (cB, ty) rfl).2
  rcases hty with rfl | rfl | rfl | rfl
  · exact Option.some.inj ((show s.vm.findClass _ = some cB from h1).symm.trans (show s.vm.findClass _ = some (cA .int) from (hK.2 0 _ rfl).2))
  · exact Option.some.inj ((show s.vm.findClass _ = some cB from h1).symm.trans (show s.vm.findClass _ = some (cA .long) from (hK.2 1 _ rfl).2))
  · exact Option.some.inj ((show s.vm.findClass _ = some cB from h1).symm.trans (show s.vm.findClass _ = some (cA .byte) from (hK.2 2 _ rfl).2))
  · exact Option.some.inj ((show s.vm.findClass _ = some cB from h1).symm.trans (show s.vm.findClass _ = some (cA .boolean) from (hK.2 3 _ rfl).2))
/-- an array of zeros -/
def zA (ty : FieldType) (n : Nat) : vp_A := match ty with
  | .long => (n, .inr (.inl (fun _ => 0)))
  | _ => (n, .inl (fun _ => 0))
theorem e_newA {l : Launch} {B : List Sh} {R : Room} {y : Mt} {F9 : State → Prop} {ZZ : ZG} {n0 nf kc ks pc t N : Nat} {lv : List (Option AV)} {st : List AV} {S : St} {aty : ArrayType} {ty : FieldType} {n : Int32}
    (hd : cAt y.2.2.2.2.1 pc = some (.newarray aty, 2, t)) (hty : newarray.typeOf aty = ty) (hk4 : ty = .int ∨ ty = .long ∨ ty = .byte ∨ ty = .boolean) (hw : Jvm.Cond.arrayClass ty ∈ gw) (hn : ¬ n < 0) (hN : n.toNatClampNeg = N) (hsz : N ≤ 60000)
    (hn0 : n0 ≤ B.length) (hnf : B.length < nf) (hZ : blindZ n0 nf ZZ) (hB : shN9 B.length (B ++ [.inr (ty, N)]) = true) (hlv : lvN B.length lv = true) (hst : st.all (avN B.length) = true) (hR : kc + 1 ≤ R.cells ∧ ks + N ≤ R.slots)
    (k : EE l (B ++ [.inr (ty, N)]) R y (zG F9 n0 (B ++ [.inr (ty, N)]) ZZ) (kc + 1) (ks + N) (pc + 2) lv (aR B.length :: st) (nz S B.length)) : EE l B R y (zG F9 n0 B ZZ) kc ks pc lv (aI n :: st) S := by
  refine zg_in (fun p e s m args below meth c ad D cA H locs ls Cc hP hS hl hF hfr => ?_)
  obtain ⟨hx, hb, hr, hml, hown, hts, hlk, hn9, hK, hok, hsh, hi⟩ := id Cc
  have hbytes : N * componentBytes ty ≤ 536870912 := by
    have hcb : componentBytes ty ≤ 8 := by rcases hk4 with rfl | rfl | rfl | rfl <;> decide
    exact Nat.le_trans (Nat.mul_le_mul hsz hcb) (by decide)
  have ha : ∀ cB : ClassId, vp_cell cB (zA ty N) = arrV cB N (fun _ => defaultValue ty) := by
    intro cB
    rcases hk4 with rfl | rfl | rfl | rfl <;> rfl
  refine va_newa (D := D) (cl := classes) hx hb (by rw [hty]; exact hts _ hw) hty hK hP (wd_D hi) hS (fun q hq => Or.inr hq) (a0 := zA ty N) ha hn hN hbytes hR.1 hR.2 (okM_c hok hd).1 (fun q cB H1 hK1 hP1 hD1 hS1 => ?_)
  have e9 : cellA (adU ad B.length q) cA (nz S B.length) B.length (.inr (ty, N)) = .inl (cB, zA ty N) := by
    rw [cA_of hk4 hK hK1]
    have h1 : (nz S B.length).1 B.length = (fun _ => 0) := pt_s
    have h2 : (nz S B.length).2 B.length = (fun _ => 0) := ptL_s
    rcases hk4 with rfl | rfl | rfl | rfl <;> simp only [cellA, zA, h1, h2]
  rw [← e9] at hP1 hD1
  exact grow hn0 hnf hZ hB hlv hst k Cc hl hfr hF hP1 hD1 hS1
/-- that a constructor runs: its frame, its name -/
def nC (y : Mt) (s : State) : Prop := ∃ (m : MethodId) (a : Array Value) (b : List Frame), s.frames = .invoking m a :: b ∧ s.methodNamed? y.1 = some m
/-- which final fields a constructor may write: the row of F, its class, the kind -/
def okP9 (y : Mt) (i ci k : Nat) (C : String) (T : u_T) (N : Nat) (ty : FieldType) : Prop := classes[ci]? = some (C, T, N) ∧ k < N ∧ (T k).2.2.2 = true ∧ (T k).1 = y.1.cls ∧ parseFieldDescriptor (T k).2.2.1 = some ty ∧ Jvm.Cond.fieldLink y.1.cls i (T k).1 (T k).2.1 (T k).2.2.1 ∈ gw ∧ y.1.name = "<init>"
theorem e_putA {l : Launch} {B : List Sh} {R : Room} {y : Mt} {F9 : State → Prop} {ZZ : ZG} {n0 kc ks pc i t ci k N o q : Nat} {lv : List (Option AV)} {st : List AV} {S : St} {C : String} {T : u_T} {ty : FieldType} {fl : List (Option Nat)}
    (hF9 : ∀ s, F9 s → nC y s) (hd : cAt y.2.2.2.2.1 pc = some (.putfield i, 3, t)) (hok9 : okP9 y i ci k C T N ty) (href : ty.isReference = true) (hB : B[o]? = some (.inl (ci, fl))) (hk : k < fl.length) (hq : q < 1000)
    (kk : EE l (B.set o (.inl (ci, fl.set k (some q)))) R y (zG F9 n0 (B.set o (.inl (ci, fl.set k (some q)))) ZZ) kc ks (pc + 3) lv st S) : EE l B R y (zG F9 n0 B ZZ) kc ks pc lv (aR q :: aR o :: st) S := by
  refine zg_in (fun p e s m args below meth c ad D cA H locs ls Cc hP hS hl hF hfr => ?_)
  obtain ⟨hx, hb, hr, hml, hown, hts, hlk, hn9, hK, hok, hsh, hi⟩ := id Cc
  obtain ⟨hc, hkN, hfin, hdecl, hpd, hlink, hname⟩ := hok9
  obtain ⟨hin, hnm, ty0, hty⟩ := cls_all ci _ hc
  intro T0 hT0 X0
  obtain ⟨m', a', b', hfrm, hnmd⟩ := hF9 s hF
  have hm : m' = m := by
    have h9 := X0.frames.symm.trans hfrm
    simp only [List.cons.injEq, Frame.invoking.injEq] at h9
    exact h9.1.1.symm
  subst hm
  have hmn : meth.name = "<init>" := by rw [(name_of_methodNamed hnmd X0.method).1]; exact hname
  have hlen : (B.set o (.inl (ci, fl.set k (some q)))).length = B.length := List.length_set
  have hol : o < B.length := (List.getElem?_eq_some_iff.mp hB).1
  refine va_putF (D := D) (cl := classes) (C := C) (T := T) (N := N) (ref := (T k).1) hx hb hts hin ty0 hty hnm hown hK hP (wd_D hi) hS o (wd_at hB) hc k hkN (hts _ hlink) (fun _ h9 => h9) hfin hmn hdecl (v := .ref (ad q)) hpd (by cases ty <;> first | rfl | (exact absurd href (by decide))) (by cases ty <;> first | rfl | (exact absurd href (by decide))) (by rw [List.length_mapIdx]; exact hk) (okM_c hok hd).1 (fun H1 locs1 hP1 _ hS1 => ?_) T0 hT0 X0
  have hw : (wdA ad cA S B).set o (ad o, .inr (ci, (fl.mapIdx (fldV ad (S.1 o))).set k (.ref (ad q)))) = wdA ad cA S (B.set o (.inl (ci, fl.set k (some q)))) := by
    apply List.ext_getElem?
    intro j
    have hl9 : o < (wdA ad cA S B).length := by unfold wdA; rw [List.length_mapIdx]; exact hol
    by_cases hj : j = o
    · subst hj
      rw [List.getElem?_set_self hl9, wd_at (List.getElem?_set_self hol)]
      show some (ad j, _) = some (ad j, Sum.inr (ci, (fl.set k (some q)).mapIdx (fldV ad (S.1 j))))
      congr 4
      apply List.ext_getElem?
      intro z
      by_cases hz : z = k
      · subst hz
        rw [List.getElem?_set_self (by rw [List.length_mapIdx]; exact hk), List.getElem?_mapIdx, List.getElem?_set_self hk]
        show some (Value.ref (ad q)) = some (if q < 1000 then .ref (ad q) else .null)
        rw [if_pos hq]
      · rw [List.getElem?_set_ne (fun e => hz e.symm), List.getElem?_mapIdx, List.getElem?_mapIdx, List.getElem?_set_ne (fun e => hz e.symm)]
    · rw [List.getElem?_set_ne (fun e => hj e.symm)]
      unfold wdA
      rw [List.getElem?_mapIdx, List.getElem?_mapIdx, List.getElem?_set_ne (fun e => hj e.symm)]
  rw [hw] at hP1
  have h := kk p e s m' args below meth c (B.set o (.inl (ci, fl.set k (some q)))) ad D cA H1 locs1 ls ⟨hx, hb, hr, hml, hown, hts, hlk, hn9, hK, hok, ⟨[], by simp⟩, by rw [hlen]; exact hi⟩ hP1 (by rw [hlen]; exact hS1) hl
  intro T1 hT1 X1
  obtain ⟨t9, a9, b9⟩ := h T1 hT1 X1
  exact ⟨t9, a9, b9 ⟨rfl, hF, by rw [hlen]; exact hfr⟩⟩
theorem e_putI {l : Launch} {B : List Sh} {R : Room} {y : Mt} {F9 : State → Prop} {ZZ : ZG} {n0 kc ks pc i t ci k N o : Nat} {lv : List (Option AV)} {st : List AV} {S : St} {C : String} {T : u_T} {fl : List (Option Nat)} {v : Int32}
    (hF9 : ∀ s, F9 s → nC y s) (hd : cAt y.2.2.2.2.1 pc = some (.putfield i, 3, t)) (hok9 : okP9 y i ci k C T N .int) (hB : B[o]? = some (.inl (ci, fl))) (hk : fl[k]? = some none)
    (kk : EE l B R y (zG F9 n0 B ZZ) kc ks (pc + 3) lv st (puI S o k v)) : EE l B R y (zG F9 n0 B ZZ) kc ks pc lv (aI v :: aR o :: st) S := by
  refine zg_in (fun p e s m args below meth c ad D cA H locs ls Cc hP hS hl hF hfr => ?_)
  obtain ⟨hx, hb, hr, hml, hown, hts, hlk, hn9, hK, hok, hsh, hi⟩ := id Cc
  obtain ⟨hc, hkN, hfin, hdecl, hpd, hlink, hname⟩ := hok9
  obtain ⟨hin, hnm, ty0, hty⟩ := cls_all ci _ hc
  intro T0 hT0 X0
  obtain ⟨m', a', b', hfrm, hnmd⟩ := hF9 s hF
  have hm : m' = m := by
    have h9 := X0.frames.symm.trans hfrm
    simp only [List.cons.injEq, Frame.invoking.injEq] at h9
    exact h9.1.1.symm
  subst hm
  have hmn : meth.name = "<init>" := by rw [(name_of_methodNamed hnmd X0.method).1]; exact hname
  refine va_putF (D := D) (cl := classes) (C := C) (T := T) (N := N) (ref := (T k).1) hx hb hts hin ty0 hty hnm hown hK hP (wd_D hi) hS o (wd_at hB) hc k hkN (hts _ hlink) (fun _ h9 => h9) hfin hmn hdecl (v := .int v) hpd (vp_nar_int v) rfl (by rw [List.length_mapIdx]; exact (List.getElem?_eq_some_iff.mp hk).1) (okM_c hok hd).1 (fun H1 locs1 hP1 _ hS1 => ?_) T0 hT0 X0
  rw [wd_puI hB hk] at hP1
  have h := kk p e s m' args below meth c B ad D cA H1 locs1 ls Cc hP1 hS1 hl
  intro T1 hT1 X1
  obtain ⟨t9, a9, b9⟩ := h T1 hT1 X1
  exact ⟨t9, a9, b9 ⟨rfl, hF, hfr⟩⟩
theorem e_obj {l : Launch} {B : List Sh} {R : Room} {y : Mt} {Zf : ZF} {kc ks pc i t o : Nat} {lv : List (Option AV)} {st : List AV} {S : St} (hd : cAt y.2.2.2.2.1 pc = some (.invokespecial i, 3, t)) (hl9 : Jvm.Cond.methodLink y.1.cls i Lib.objectInit ∈ gw) (him : Jvm.Cond.instanceMethod Lib.objectInit ∈ gw) (hcd : Jvm.Cond.code Lib.objectInit ⟨#[0xb1]⟩ 1 none ∈ gw)
    (hR : 1 ≤ R.frames ∧ 20 ≤ R.locals) (hst : (st.map av_c).sum ≤ 8) (k : EE l B R y Zf kc ks (pc + 3) lv st S) : EE l B R y Zf kc ks pc lv (aR o :: st) S := by
  intro p e s m args below meth c sh ad D cA H locs ls C hP hS hl
  obtain ⟨hx, hb, hr, hml, hown, hts, hlk, hn, hK, hok, hsh, hi⟩ := id C
  exact W.objInit hx hb hown (hts _ hl9) (hts _ him) (hts _ hcd) (g := F0 m pc ls _) rfl (by rw [hml]; exact hl.1) (a := ad o) (rest := st.map (av_V ad)) rfl (okM_c hok hd).1 hR.1 (by rw [av_cats]; show 2 * 0 + _ + 12 ≤ _; omega) (k p e s m args below meth c sh ad D cA H locs ls C hP hS hl)
