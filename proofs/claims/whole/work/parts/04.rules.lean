/-! methods as records, the judgement EE, a row for each instruction -/
def nestWord (w : Jvm.Cond) : Bool := match w with
  | .fieldLinkNest .. => true
  | .methodLinkNest .. => true
  | _ => false
def nw : List Jvm.Cond := lw_tbl.filter nestWord
theorem nw_in {w : Jvm.Cond} (h : w ∈ lw_tbl) (hg : nestWord w = true) : w ∈ nw := List.mem_filter.mpr ⟨h, hg⟩
theorem gw_good {w : Jvm.Cond} (h : w ∈ gw) : w ∈ gw ∧ ((w.onTables && w.keeps) = true ∨ ∃ ty, w = .arrayClass ty) := ⟨h, good_of_word (List.mem_filter.mp h).2⟩
def nOK (U : State) : Prop := ∀ w ∈ nw, va_Nw w U
theorem nOK.warm {s U : State} (hW : s.WarmedH U.vm) (h : nOK s) : nOK U := by
  intro w hw
  have h1 := h w hw
  have h2 : nestWord w = true := (List.mem_filter.mp hw).2
  unfold nestWord at h2
  split at h2
  · exact va_Nw.warmF hW h1
  · exact va_Nw.warmM hW h1
  · cases h2
theorem nOK.vm {s U : State} (hvm : s.vm = U.vm) (h : nOK s) : nOK U := by
  intro w hw
  have h1 := h w hw
  have h2 : nestWord w = true := (List.mem_filter.mp hw).2
  unfold nestWord at h2
  split at h2
  · exact va_Nw.same rfl hvm h1
  · exact va_Nw.same rfl hvm h1
  · cases h2
/-- name, code, locals, answer, instructions (place, instruction, length, goal of a jump), fields (pool place, class, number, kind: 0 an int, 1 a boolean, 2 not written) -/
abbrev Mt : Type := MethodName × ByteArray × Nat × Option FieldType × List (Nat × Instr × Nat × Nat) × List (Nat × Nat × Nat × Nat)
def cAt : List (Nat × Instr × Nat × Nat) → Nat → Option (Instr × Nat × Nat)
  | [], _ => none
  | (q, x) :: r, pc => if q = pc then some x else cAt r pc
def fAt : List (Nat × Nat × Nat × Nat) → Nat → Option (Nat × Nat × Nat)
  | [], _ => none
  | (q, x) :: r, i => if q = i then some x else fAt r i
theorem cAt_in : ∀ {t : List (Nat × Instr × Nat × Nat)} {pc : Nat} {x : Instr × Nat × Nat}, cAt t pc = some x → (pc, x) ∈ t
  | [], _, _, h => by cases h
  | (q, z) :: r, pc, x, h => by
    unfold cAt at h
    split at h
    next e => cases h; subst e; exact List.mem_cons_self
    next => exact List.mem_cons_of_mem _ (cAt_in h)
theorem fAt_in : ∀ {t : List (Nat × Nat × Nat × Nat)} {i : Nat} {x : Nat × Nat × Nat}, fAt t i = some x → (i, x) ∈ t
  | [], _, _, h => by cases h
  | (q, z) :: r, i, x, h => by
    unfold fAt at h
    split at h
    next e => cases h; subst e; exact List.mem_cons_self
    next => exact List.mem_cons_of_mem _ (fAt_in h)
/-- where a jump goes -/
def jTo (pc : Nat) (i : Instr) (t : Nat) : Bool := match i with
  | .goto o => decide ((pc : Int) + o = (t : Int))
  | .ifCond _ o => decide ((pc : Int) + o = (t : Int))
  | .if_icmp _ o => decide ((pc : Int) + o = (t : Int))
  | _ => true
def fldB (own : String) (x : Nat × Nat × Nat × Nat) : Bool := match classes[x.2.1]? with
  | some r => decide (x.2.2.1 < r.2.2) && (decide (Jvm.Cond.fieldLink own x.1 (r.2.1 x.2.2.1).1 (r.2.1 x.2.2.1).2.1 (r.2.1 x.2.2.1).2.2.1 ∈ lw_tbl) || decide (Jvm.Cond.fieldLinkNest own x.1 (r.2.1 x.2.2.1).1 (r.2.1 x.2.2.1).2.1 (r.2.1 x.2.2.1).2.2.1 nestHost ∈ lw_tbl)) &&
    (if x.2.2.2 = 0 then decide ((r.2.1 x.2.2.1).2.2.1 = "I" ∧ (r.2.1 x.2.2.1).2.2.2 = false) else if x.2.2.2 = 1 then decide ((r.2.1 x.2.2.1).2.2.1 = "Z" ∧ (r.2.1 x.2.2.1).2.2.2 = false) else true)
  | none => false
def cdB (b : ByteArray) (x : Nat × Instr × Nat × Nat) : Bool := decide (decode b x.1 = .ok (x.2.1, x.2.2.1)) && jTo x.1 x.2.1 x.2.2.2
def okM (y : Mt) : Prop := (y.2.2.2.2.1.all (cdB y.2.1) = true) ∧ (y.2.2.2.2.2.all (fldB y.1.cls) = true) ∧ Jvm.Cond.code y.1 y.2.1 y.2.2.1 y.2.2.2.1 ∈ gw ∧ plainFor y.1 = true
/-- decoded, and its fields known -/
def okD (y : Mt) : Prop := (y.2.2.2.2.1.all (cdB y.2.1) = true) ∧ (y.2.2.2.2.2.all (fldB y.1.cls) = true)
theorem okM.D {y : Mt} (h : okM y) : okD y := ⟨h.1, h.2.1⟩
theorem okM_c {y : Mt} (h : okD y) {pc : Nat} {i : Instr} {n t : Nat} (hc : cAt y.2.2.2.2.1 pc = some (i, n, t)) : decode y.2.1 pc = .ok (i, n) ∧ jTo pc i t = true := by
  have h1 := List.all_eq_true.mp h.1 _ (cAt_in hc)
  unfold cdB at h1
  rw [Bool.and_eq_true, decide_eq_true_eq] at h1
  exact h1
abbrev ZF : Type := List Frame → Array Value → State → List Sh → (Nat → Nat) → va_G → (FieldType → ClassId) → State → Prop
def Cx (B : List Sh) (y : Mt) (p : Program) (s : State) (m : MethodId) (args : Array Value) (meth : Method) (c : Code) (sh : List Sh) (ad : Nat → Nat) (D : va_G) (cA : FieldType → ClassId) : Prop :=
  p.tables.exec = Jvm.exec ∧ c.code = y.2.1 ∧ meth.sig.returnType = y.2.2.2.1 ∧ c.maxLocals = y.2.2.1 ∧ s.vm.findClass y.1.cls = some m.cls ∧ (∀ w ∈ gw, w.before args s = true) ∧ meth.locks = false ∧ nOK s ∧ va_K D classes (tysA cA) s ∧ okD y ∧ (∃ sh', sh = B ++ sh') ∧ (∀ i j, i < sh.length → j < sh.length → ad i = ad j → i = j)
def EE (l : Launch) (B : List Sh) (R : Room) (y : Mt) (Zf : ZF) (kc ks pc : Nat) (lv : List (Option AV)) (st : List AV) (S : St) : Prop :=
  ∀ (p : Program) (e : Env) (s : State) (m : MethodId) (args : Array Value) (below : List Frame) (meth : Method) (c : Code) (sh : List Sh) (ad : Nat → Nat) (D : va_G) (cA : FieldType → ClassId) (H : Heap) (locs : List Loc) (ls : Array Slot),
    Cx B y p s m args meth c sh ad D cA → va_P D classes (wdA ad cA S sh) H → va_S (aA sh.length ad s.heap.size) s.heap H locs → lh ad ls y.2.2.1 lv →
    W p l e R s m args below meth c H locs kc ks (Zf below args s sh ad D cA) (F0 m pc ls (st.map (av_V ad)))
theorem sh_pre {B sh : List Sh} (h : ∃ sh', sh = B ++ sh') {o : Nat} {x : Sh} (hx : B[o]? = some x) : sh[o]? = some x := by
  obtain ⟨sh', rfl⟩ := h
  rw [List.getElem?_append_left (List.getElem?_eq_some_iff.mp hx).1]
  exact hx
section Rows
variable {l : Launch} {B : List Sh} {R : Room} {y : Mt} {Zf : ZF} {kc ks pc : Nat} {lv : List (Option AV)} {st : List AV} {S : St}
/-! one-step rows, by what they do to locals and stack -/
theorem e_push {i : Instr} {n t : Nat} {v : AV} (hd : cAt y.2.2.2.2.1 pc = some (i, n, t))
    (row : ∀ {p : Program} {e : Env} {s : State} {m : MethodId} {args : Array Value} {below : List Frame} {meth : Method} {c : Code} {H : Heap} {locs : List Loc} {Q : State → Prop} {ls : Array Slot} {rest : List Value} {ad : Nat → Nat},
      p.tables.exec = Jvm.exec → c.code = y.2.1 → decode y.2.1 pc = .ok (i, n) → lh ad ls y.2.2.1 lv → W p l e R s m args below meth c H locs kc ks Q (F0 m (pc + n) ls (av_V ad v :: rest)) → W p l e R s m args below meth c H locs kc ks Q (F0 m pc ls rest))
    (k : EE l B R y Zf kc ks (pc + n) lv (v :: st) S) : EE l B R y Zf kc ks pc lv st S := by
  intro p e s m args below meth c sh ad D cA H locs ls C hP hS hl
  exact row C.1 C.2.1 (okM_c C.2.2.2.2.2.2.2.2.2.1 hd).1 hl (k p e s m args below meth c sh ad D cA H locs ls C hP hS hl)
theorem e_stk {i : Instr} {n t : Nat} {st1 st2 : List AV} (hd : cAt y.2.2.2.2.1 pc = some (i, n, t))
    (row : ∀ {p : Program} {e : Env} {s : State} {m : MethodId} {args : Array Value} {below : List Frame} {meth : Method} {c : Code} {H : Heap} {locs : List Loc} {Q : State → Prop} {ls : Array Slot} {rest : List Value} {ad : Nat → Nat},
      p.tables.exec = Jvm.exec → c.code = y.2.1 → decode y.2.1 pc = .ok (i, n) → W p l e R s m args below meth c H locs kc ks Q (F0 m (pc + n) ls (st2.map (av_V ad) ++ rest)) → W p l e R s m args below meth c H locs kc ks Q (F0 m pc ls (st1.map (av_V ad) ++ rest)))
    (k : EE l B R y Zf kc ks (pc + n) lv (st2 ++ st) S) : EE l B R y Zf kc ks pc lv (st1 ++ st) S := by
  intro p e s m args below meth c sh ad D cA H locs ls C hP hS hl
  have h := k p e s m args below meth c sh ad D cA H locs ls C hP hS hl
  rw [List.map_append] at h ⊢
  exact row C.1 C.2.1 (okM_c C.2.2.2.2.2.2.2.2.2.1 hd).1 h
end Rows
/-! the step of a simple instruction -/
def bI (f : Int32 → Int32 → Int32) (lv : List (Option AV)) (st : List AV) (S : St) : Option (List (Option AV) × List AV × St) := match st with
  | .inr (.inl y) :: .inr (.inl x) :: r => some (lv, aI (f x y) :: r, S)
  | _ => none
def bL (f : Int64 → Int64 → Int64) (lv : List (Option AV)) (st : List AV) (S : St) : Option (List (Option AV) × List AV × St) := match st with
  | .inr (.inr y) :: .inr (.inr x) :: r => some (lv, aL (f x y) :: r, S)
  | _ => none
def bLI (f : Int64 → Int32 → Int64) (lv : List (Option AV)) (st : List AV) (S : St) : Option (List (Option AV) × List AV × St) := match st with
  | .inr (.inl y) :: .inr (.inr x) :: r => some (lv, aL (f x y) :: r, S)
  | _ => none
def uI (f : Int32 → AV) (lv : List (Option AV)) (st : List AV) (S : St) : Option (List (Option AV) × List AV × St) := match st with
  | .inr (.inl x) :: r => some (lv, f x :: r, S)
  | _ => none
def uL (f : Int64 → AV) (lv : List (Option AV)) (st : List AV) (S : St) : Option (List (Option AV) × List AV × St) := match st with
  | .inr (.inr x) :: r => some (lv, f x :: r, S)
  | _ => none
def ldI (lv : List (Option AV)) (k : Nat) (st : List AV) (S : St) : Option (List (Option AV) × List AV × St) := match lv[k]? with
  | some (some (.inr (.inl x))) => some (lv, aI x :: st, S)
  | _ => none
def ldL (lv : List (Option AV)) (k : Nat) (st : List AV) (S : St) : Option (List (Option AV) × List AV × St) := match lv[k]? with
  | some (some (.inr (.inr x))) => some (lv, aL x :: st, S)
  | _ => none
def ldA (lv : List (Option AV)) (k : Nat) (st : List AV) (S : St) : Option (List (Option AV) × List AV × St) := match lv[k]? with
  | some (some (.inl o)) => some (lv, aR o :: st, S)
  | _ => none
def soI (nL : Nat) (lv : List (Option AV)) (k : Nat) (st : List AV) (S : St) : Option (List (Option AV) × List AV × St) := match st with
  | .inr (.inl x) :: r => if (lvP lv k && decide (k < nL)) = true then some (lv.set k (some (aI x)), r, S) else none
  | _ => none
def soA (nL : Nat) (lv : List (Option AV)) (k : Nat) (st : List AV) (S : St) : Option (List (Option AV) × List AV × St) := match st with
  | .inl x :: r => if (lvP lv k && decide (k < nL)) = true then some (lv.set k (some (aR x)), r, S) else none
  | _ => none
def soL (nL : Nat) (lv : List (Option AV)) (k : Nat) (st : List AV) (S : St) : Option (List (Option AV) × List AV × St) := match st with
  | .inr (.inr x) :: r => if (lvP lv k && decide (k + 1 < nL)) = true then some ((lv.set k (some (aL x))).set (k + 1) none, r, S) else none
  | _ => none
def incI (nL : Nat) (lv : List (Option AV)) (k : Nat) (n : Int) (st : List AV) (S : St) : Option (List (Option AV) × List AV × St) := match lv[k]? with
  | some (some (.inr (.inl x))) => if (lvP lv k && decide (k < nL)) = true then some (lv.set k (some (aI (x + Int32.ofInt n))), st, S) else none
  | _ => none
def gtF (F : List (Nat × Nat × Nat × Nat)) (B : List Sh) (i : Nat) (lv : List (Option AV)) (st : List AV) (S : St) : Option (List (Option AV) × List AV × St) := match st with
  | .inl o :: r => match fAt F i with
    | some (ci, k, _) => match B[o]? with
      | some (.inl (cj, fl)) => if ci = cj then (match fl[k]? with
        | some (some q) => if q < 1000 then some (lv, aR q :: r, S) else none
        | some none => some (lv, aI (S.1 o k) :: r, S)
        | none => none) else none
      | _ => none
    | none => none
  | _ => none
/-- a field of type int, or a boolean one that gets 0 or 1 -/
def ptF (F : List (Nat × Nat × Nat × Nat)) (B : List Sh) (i : Nat) (lv : List (Option AV)) (st : List AV) (S : St) : Option (List (Option AV) × List AV × St) := match st with
  | .inr (.inl v) :: .inl o :: r => match fAt F i with
    | some (ci, k, kd) => match B[o]? with
      | some (.inl (cj, fl)) => if ci = cj then (match fl[k]? with
        | some none => if (decide (kd = 0) || (decide (kd = 1) && (decide (v = 0) || decide (v = 1)))) = true then some (lv, r, puI S o k v) else none
        | _ => none) else none
      | _ => none
    | none => none
  | _ => none
def sp (y : Mt) (B : List Sh) (i : Instr) (lv : List (Option AV)) (st : List AV) (S : St) : Option (List (Option AV) × List AV × St) := match i with
  | .iconst n => some (lv, aI (Int32.ofInt n) :: st, S)
  | .bipush n => some (lv, aI (Int8.ofInt n).toInt32 :: st, S)
  | .sipush n => some (lv, aI (Int16.ofInt n).toInt32 :: st, S)
  | .lconst n => some (lv, aL (Int64.ofNat (n : Nat)) :: st, S)
  | .iload k => ldI lv k st S
  | .iload_n k => ldI lv (k : Nat) st S
  | .lload k => ldL lv k st S
  | .lload_n k => ldL lv (k : Nat) st S
  | .aload k => ldA lv k st S
  | .aload_n k => ldA lv (k : Nat) st S
  | .istore k => soI y.2.2.1 lv k st S
  | .istore_n k => soI y.2.2.1 lv (k : Nat) st S
  | .astore k => soA y.2.2.1 lv k st S
  | .astore_n k => soA y.2.2.1 lv (k : Nat) st S
  | .lstore k => soL y.2.2.1 lv k st S
  | .lstore_n k => soL y.2.2.1 lv (k : Nat) st S
  | .iinc k n => incI y.2.2.1 lv k n st S
  | .iadd => bI (fun x y => x + y) lv st S
  | .isub => bI (fun x y => x - y) lv st S
  | .imul => bI (fun x y => x * y) lv st S
  | .iand => bI (fun x y => x &&& y) lv st S
  | .ior => bI (fun x y => x ||| y) lv st S
  | .ixor => bI (fun x y => x ^^^ y) lv st S
  | .ishl => bI (fun x y => x <<< (y &&& 31)) lv st S
  | .ishr => bI (fun x y => x >>> (y &&& 31)) lv st S
  | .iushr => bI (fun x y => (x.toUInt32 >>> (y.toUInt32 &&& Int32.toUInt32 31)).toInt32) lv st S
  | .ineg => uI (fun x => aI (-x)) lv st S
  | .i2l => uI (fun x => aL x.toInt64) lv st S
  | .i2b => uI (fun x => aI x.toInt8.toInt32) lv st S
  | .l2i => uL (fun x => aI x.toInt32) lv st S
  | .ladd => bL (fun x y => x + y) lv st S
  | .lsub => bL (fun x y => x - y) lv st S
  | .land => bL (fun x y => x &&& y) lv st S
  | .lor => bL (fun x y => x ||| y) lv st S
  | .lxor => bL (fun x y => x ^^^ y) lv st S
  | .lshl => bLI (fun x y => x <<< (y.toInt64 &&& 63)) lv st S
  | .lushr => bLI (fun x y => (x.toUInt64 >>> (y.toInt64.toUInt64 &&& Int64.toUInt64 63)).toInt64) lv st S
  | .lcmp => (match st with
    | .inr (.inr y) :: .inr (.inr x) :: r => some (lv, aI (lg_cmp x y) :: r, S)
    | _ => none)
  | .dup => (match st with
    | .inr (.inl x) :: r => some (lv, aI x :: aI x :: r, S)
    | .inl x :: r => some (lv, aR x :: aR x :: r, S)
    | _ => none)
  | .dup2 => (match st with
    | .inr (.inl x) :: .inl o :: r => some (lv, aI x :: aR o :: aI x :: aR o :: r, S)
    | _ => none)
  | .pop => (match st with
    | .inr (.inl _) :: r => some (lv, r, S)
    | .inl _ :: r => some (lv, r, S)
    | _ => none)
  | .getfield i => gtF y.2.2.2.2.2 B i lv st S
  | .putfield i => ptF y.2.2.2.2.2 B i lv st S
  | _ => none
theorem bI_inv {f : Int32 → Int32 → Int32} {lv lv' : List (Option AV)} {st st' : List AV} {S S' : St} (h : bI f lv st S = some (lv', st', S')) : ∃ x y r, st = aI y :: aI x :: r ∧ lv' = lv ∧ st' = aI (f x y) :: r ∧ S' = S := by
  unfold bI at h
  split at h
  next y x r => cases h; exact ⟨x, y, r, rfl, rfl, rfl, rfl⟩
  next => cases h
theorem bL_inv {f : Int64 → Int64 → Int64} {lv lv' : List (Option AV)} {st st' : List AV} {S S' : St} (h : bL f lv st S = some (lv', st', S')) : ∃ x y r, st = aL y :: aL x :: r ∧ lv' = lv ∧ st' = aL (f x y) :: r ∧ S' = S := by
  unfold bL at h
  split at h
  next y x r => cases h; exact ⟨x, y, r, rfl, rfl, rfl, rfl⟩
  next => cases h
theorem bLI_inv {f : Int64 → Int32 → Int64} {lv lv' : List (Option AV)} {st st' : List AV} {S S' : St} (h : bLI f lv st S = some (lv', st', S')) : ∃ x y r, st = aI y :: aL x :: r ∧ lv' = lv ∧ st' = aL (f x y) :: r ∧ S' = S := by
  unfold bLI at h
  split at h
  next y x r => cases h; exact ⟨x, y, r, rfl, rfl, rfl, rfl⟩
  next => cases h
theorem uI_inv {f : Int32 → AV} {lv lv' : List (Option AV)} {st st' : List AV} {S S' : St} (h : uI f lv st S = some (lv', st', S')) : ∃ x r, st = aI x :: r ∧ lv' = lv ∧ st' = f x :: r ∧ S' = S := by
  unfold uI at h
  split at h
  next x r => cases h; exact ⟨x, r, rfl, rfl, rfl, rfl⟩
  next => cases h
theorem uL_inv {f : Int64 → AV} {lv lv' : List (Option AV)} {st st' : List AV} {S S' : St} (h : uL f lv st S = some (lv', st', S')) : ∃ x r, st = aL x :: r ∧ lv' = lv ∧ st' = f x :: r ∧ S' = S := by
  unfold uL at h
  split at h
  next x r => cases h; exact ⟨x, r, rfl, rfl, rfl, rfl⟩
  next => cases h
theorem ldI_inv {k : Nat} {lv lv' : List (Option AV)} {st st' : List AV} {S S' : St} (h : ldI lv k st S = some (lv', st', S')) : ∃ x, lv[k]? = some (some (aI x)) ∧ lv' = lv ∧ st' = aI x :: st ∧ S' = S := by
  unfold ldI at h
  split at h
  next x hx => cases h; exact ⟨x, hx, rfl, rfl, rfl⟩
  next => cases h
theorem ldL_inv {k : Nat} {lv lv' : List (Option AV)} {st st' : List AV} {S S' : St} (h : ldL lv k st S = some (lv', st', S')) : ∃ x, lv[k]? = some (some (aL x)) ∧ lv' = lv ∧ st' = aL x :: st ∧ S' = S := by
  unfold ldL at h
  split at h
  next x hx => cases h; exact ⟨x, hx, rfl, rfl, rfl⟩
  next => cases h
theorem ldA_inv {k : Nat} {lv lv' : List (Option AV)} {st st' : List AV} {S S' : St} (h : ldA lv k st S = some (lv', st', S')) : ∃ x, lv[k]? = some (some (aR x)) ∧ lv' = lv ∧ st' = aR x :: st ∧ S' = S := by
  unfold ldA at h
  split at h
  next x hx => cases h; exact ⟨x, hx, rfl, rfl, rfl⟩
  next => cases h
theorem soI_inv {nL k : Nat} {lv lv' : List (Option AV)} {st st' : List AV} {S S' : St} (h : soI nL lv k st S = some (lv', st', S')) : ∃ x r, st = aI x :: r ∧ lvP lv k = true ∧ k < nL ∧ lv' = lv.set k (some (aI x)) ∧ st' = r ∧ S' = S := by
  unfold soI at h
  split at h
  next x r =>
    split at h
    next hc =>
      cases h
      rw [Bool.and_eq_true, decide_eq_true_eq] at hc
      exact ⟨x, _, rfl, hc.1, hc.2, rfl, rfl, rfl⟩
    next => cases h
  next => cases h
theorem soA_inv {nL k : Nat} {lv lv' : List (Option AV)} {st st' : List AV} {S S' : St} (h : soA nL lv k st S = some (lv', st', S')) : ∃ x r, st = aR x :: r ∧ lvP lv k = true ∧ k < nL ∧ lv' = lv.set k (some (aR x)) ∧ st' = r ∧ S' = S := by
  unfold soA at h
  split at h
  next x r =>
    split at h
    next hc =>
      cases h
      rw [Bool.and_eq_true, decide_eq_true_eq] at hc
      exact ⟨x, _, rfl, hc.1, hc.2, rfl, rfl, rfl⟩
    next => cases h
  next => cases h
theorem soL_inv {nL k : Nat} {lv lv' : List (Option AV)} {st st' : List AV} {S S' : St} (h : soL nL lv k st S = some (lv', st', S')) : ∃ x r, st = aL x :: r ∧ lvP lv k = true ∧ k + 1 < nL ∧ lv' = (lv.set k (some (aL x))).set (k + 1) none ∧ st' = r ∧ S' = S := by
  unfold soL at h
  split at h
  next x r =>
    split at h
    next hc =>
      cases h
      rw [Bool.and_eq_true, decide_eq_true_eq] at hc
      exact ⟨x, _, rfl, hc.1, hc.2, rfl, rfl, rfl⟩
    next => cases h
  next => cases h
theorem incI_inv {nL k : Nat} {n : Int} {lv lv' : List (Option AV)} {st st' : List AV} {S S' : St} (h : incI nL lv k n st S = some (lv', st', S')) : ∃ x, lv[k]? = some (some (aI x)) ∧ lvP lv k = true ∧ k < nL ∧ lv' = lv.set k (some (aI (x + Int32.ofInt n))) ∧ st' = st ∧ S' = S := by
  unfold incI at h
  split at h
  next x hx =>
    split at h
    next hc =>
      cases h
      rw [Bool.and_eq_true, decide_eq_true_eq] at hc
      exact ⟨x, hx, hc.1, hc.2, rfl, rfl, rfl⟩
    next => cases h
  next => cases h
def fldA (S : St) (o k : Nat) (z : Option Nat) : AV := match z with
  | some q => aR q
  | none => aI (S.1 o k)
theorem fldA_V (ad : Nat → Nat) (S : St) (o k : Nat) (z : Option Nat) (h : ∀ q, z = some q → q < 1000) : av_V ad (fldA S o k z) = fldV ad (S.1 o) k z := by
  cases z with
  | none => rfl
  | some q => exact (if_pos (h q rfl)).symm
theorem gtF_inv {F : List (Nat × Nat × Nat × Nat)} {B : List Sh} {i : Nat} {lv lv' : List (Option AV)} {st st' : List AV} {S S' : St} (h : gtF F B i lv st S = some (lv', st', S')) :
    ∃ o r ci k kd fl z, st = aR o :: r ∧ fAt F i = some (ci, k, kd) ∧ B[o]? = some (.inl (ci, fl)) ∧ fl[k]? = some z ∧ (∀ q, z = some q → q < 1000) ∧ lv' = lv ∧ st' = fldA S o k z :: r ∧ S' = S := by
  unfold gtF at h
  split at h
  next o r =>
    split at h
    next ci k kd hf =>
      split at h
      next cj fl hB =>
        split at h
        next hc =>
          subst hc
          split at h
          next q hq =>
            split at h
            next hlt => cases h; exact ⟨o, r, ci, k, kd, fl, some q, rfl, hf, hB, hq, (fun x e => by cases e; exact hlt), rfl, rfl, rfl⟩
            next => cases h
          next hq => cases h; exact ⟨o, r, ci, k, kd, fl, none, rfl, hf, hB, hq, (fun x e => nomatch e), rfl, rfl, rfl⟩
          next => cases h
        next => cases h
      next => cases h
    next => cases h
  next => cases h
theorem ptF_inv {F : List (Nat × Nat × Nat × Nat)} {B : List Sh} {i : Nat} {lv lv' : List (Option AV)} {st st' : List AV} {S S' : St} (h : ptF F B i lv st S = some (lv', st', S')) :
    ∃ v o r ci k kd fl, st = aI v :: aR o :: r ∧ fAt F i = some (ci, k, kd) ∧ B[o]? = some (.inl (ci, fl)) ∧ fl[k]? = some none ∧ (kd = 0 ∨ (kd = 1 ∧ (v = 0 ∨ v = 1))) ∧ lv' = lv ∧ st' = r ∧ S' = puI S o k v := by
  unfold ptF at h
  split at h
  next v o r =>
    split at h
    next ci k kd hf =>
      split at h
      next cj fl hB =>
        split at h
        next hc =>
          subst hc
          split at h
          next hq =>
            split at h
            next hk =>
              cases h
              simp only [Bool.or_eq_true, Bool.and_eq_true, decide_eq_true_eq] at hk
              exact ⟨v, o, _, ci, k, kd, fl, rfl, hf, hB, hq, hk, rfl, rfl, rfl⟩
            next => cases h
          next => cases h
        next => cases h
      next => cases h
    next => cases h
  next => cases h
theorem okM_f {y : Mt} (h : okD y) {i ci k kd : Nat} (hf : fAt y.2.2.2.2.2 i = some (ci, k, kd)) : ∃ r : vw_C, classes[ci]? = some r ∧ k < r.2.2 ∧
    ((Jvm.Cond.fieldLink y.1.cls i (r.2.1 k).1 (r.2.1 k).2.1 (r.2.1 k).2.2.1 ∈ gw) ∨ (Jvm.Cond.fieldLinkNest y.1.cls i (r.2.1 k).1 (r.2.1 k).2.1 (r.2.1 k).2.2.1 nestHost ∈ nw)) ∧
    (kd = 0 → (r.2.1 k).2.2.1 = "I" ∧ (r.2.1 k).2.2.2 = false) ∧ (kd = 1 → (r.2.1 k).2.2.1 = "Z" ∧ (r.2.1 k).2.2.2 = false) := by
  have h1 := List.all_eq_true.mp h.2 _ (fAt_in hf)
  unfold fldB at h1
  split at h1
  next r hr =>
    simp only [Bool.and_eq_true, Bool.or_eq_true, decide_eq_true_eq] at h1
    obtain ⟨⟨h2, h3⟩, h4⟩ := h1
    refine ⟨r, hr, h2, ?_, fun e => ?_, fun e => ?_⟩
    · rcases h3 with h3 | h3
      · exact Or.inl (gw_in h3 rfl)
      · exact Or.inr (nw_in h3 rfl)
    · rw [if_pos e] at h4
      exact of_decide_eq_true h4
    · subst e
      rw [if_neg (by decide), if_pos rfl] at h4
      exact of_decide_eq_true h4
  next => cases h1
/-- the length of a simple instruction -/
def spN (i : Instr) : Nat := match i with
  | .bipush _ => 2
  | .sipush _ => 3
  | .iload _ => 2
  | .lload _ => 2
  | .aload _ => 2
  | .istore _ => 2
  | .lstore _ => 2
  | .astore _ => 2
  | .iinc _ _ => 3
  | .getfield _ => 3
  | .putfield _ => 3
  | _ => 1
