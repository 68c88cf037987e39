/-! THE LAYER: cells by number, values by kind, stores as functions; each instruction once -/
abbrev AV : Type := Nat ⊕ (Int32 ⊕ Int64)
abbrev aR (o : Nat) : AV := Sum.inl o
abbrev aI (x : Int32) : AV := Sum.inr (Sum.inl x)
abbrev aL (x : Int64) : AV := Sum.inr (Sum.inr x)
def av_V (ad : Nat → Nat) (v : AV) : Value := match v with
  | .inl o => .ref (ad o)
  | .inr (.inl x) => .int x
  | .inr (.inr x) => .long x
def av_c (v : AV) : Nat := match v with
  | .inr (.inr _) => 2
  | _ => 1
theorem av_cat (ad : Nat → Nat) (v : AV) : (av_V ad v).category = av_c v := by
  rcases v with o | x | x <;> rfl
theorem av_cats (ad : Nat → Nat) (st : List AV) : ((st.map (av_V ad)).map fun v => v.category).sum = (st.map av_c).sum := by
  rw [List.map_map]
  congr 1
  exact List.map_congr_left (fun v _ => av_cat ad v)
/-- int data by cell and place, long data by cell and place -/
abbrev St : Type := (Nat → Nat → Int32) × (Nat → Nat → Int64)
def pt (f : Nat → Nat → Int32) (o : Nat) (r : Nat → Int32) : Nat → Nat → Int32 := fun q => if q = o then r else f q
def ptL (f : Nat → Nat → Int64) (o : Nat) (r : Nat → Int64) : Nat → Nat → Int64 := fun q => if q = o then r else f q
theorem pt_s {f : Nat → Nat → Int32} {o : Nat} {r : Nat → Int32} : pt f o r o = r := if_pos rfl
theorem pt_n {f : Nat → Nat → Int32} {o q : Nat} {r : Nat → Int32} (h : q ≠ o) : pt f o r q = f q := if_neg h
theorem ptL_s {f : Nat → Nat → Int64} {o : Nat} {r : Nat → Int64} : ptL f o r o = r := if_pos rfl
theorem ptL_n {f : Nat → Nat → Int64} {o q : Nat} {r : Nat → Int64} (h : q ≠ o) : ptL f o r q = f q := if_neg h
def puI (S : St) (o k : Nat) (v : Int32) : St := (pt S.1 o (upd (S.1 o) k v), S.2)
def puL (S : St) (o k : Nat) (v : Int64) : St := (S.1, ptL S.2 o (vp_updL (S.2 o) k v))
/-- a cell's shape: an object of a class, its fields references to cells or ints; or an array -/
abbrev Sh : Type := (Nat × List (Option Nat)) ⊕ (FieldType × Nat)
def fldV (ad : Nat → Nat) (r : Nat → Int32) (k : Nat) (x : Option Nat) : Value := match x with
  | some q => if q < 1000 then .ref (ad q) else .null
  | none => .int (r k)
def cellA (ad : Nat → Nat) (cA : FieldType → ClassId) (S : St) (o : Nat) (x : Sh) : va_E := match x with
  | .inl (ci, fl) => .inr (ci, fl.mapIdx (fldV ad (S.1 o)))
  | .inr (.long, n) => .inl (cA .long, n, .inr (.inl (S.2 o)))
  | .inr (ty, n) => .inl (cA ty, n, .inl (S.1 o))
def wdA (ad : Nat → Nat) (cA : FieldType → ClassId) (S : St) (sh : List Sh) : va_W := sh.mapIdx (fun o x => (ad o, cellA ad cA S o x))
def tysA (cA : FieldType → ClassId) : List (ClassId × FieldType) := [(cA .int, .int), (cA .long, .long), (cA .byte, .byte), (cA .boolean, .boolean)]
def aA (n : Nat) (ad : Nat → Nat) (sz : Nat) : Nat → Prop := fun q => (∃ i, i < n ∧ q = ad i) ∨ sz ≤ q
theorem wd_at {ad : Nat → Nat} {cA : FieldType → ClassId} {S : St} {sh : List Sh} {o : Nat} {x : Sh} (h : sh[o]? = some x) : (wdA ad cA S sh)[o]? = some (ad o, cellA ad cA S o x) := by
  unfold wdA
  rw [List.getElem?_mapIdx, h]
  rfl
theorem wd_of {ad : Nat → Nat} {cA : FieldType → ClassId} {S : St} {sh : List Sh} {o : Nat} {q : Nat × va_E} (h : (wdA ad cA S sh)[o]? = some q) : ∃ x, sh[o]? = some x ∧ q = (ad o, cellA ad cA S o x) := by
  unfold wdA at h
  rw [List.getElem?_mapIdx] at h
  cases hx : sh[o]? with
  | none => rw [hx] at h; cases h
  | some x => rw [hx] at h; exact ⟨x, rfl, (Option.some.inj h).symm⟩
theorem wd_lt {sh : List Sh} {o : Nat} {x : Sh} (h : sh[o]? = some x) : o < sh.length := (List.getElem?_eq_some_iff.mp h).1
theorem wd_D {ad : Nat → Nat} {cA : FieldType → ClassId} {S : St} {sh : List Sh} {sz : Nat} (hi : ∀ i j, i < sh.length → j < sh.length → ad i = ad j → i = j) : va_D (aA sh.length ad sz) (wdA ad cA S sh) := by
  refine ⟨fun i j p q h1 h2 h3 => ?_, fun k q h => ?_⟩
  · obtain ⟨x, hx, rfl⟩ := wd_of h1
    obtain ⟨z, hz, rfl⟩ := wd_of h2
    exact hi i j (wd_lt hx) (wd_lt hz) h3
  · obtain ⟨x, hx, rfl⟩ := wd_of h
    exact Or.inl ⟨k, wd_lt hx, rfl⟩
theorem wd_set {ad : Nat → Nat} {cA : FieldType → ClassId} {S S' : St} {sh : List Sh} {o : Nat} {x : Sh} {e : va_E} (h : sh[o]? = some x) (he : cellA ad cA S' o x = e) (hn : ∀ q z, q ≠ o → cellA ad cA S' q z = cellA ad cA S q z) : (wdA ad cA S sh).set o (ad o, e) = wdA ad cA S' sh := by
  apply List.ext_getElem?
  intro i
  by_cases hi : i = o
  · subst hi
    have hl : i < (wdA ad cA S sh).length := by
      unfold wdA; rw [List.length_mapIdx]; exact wd_lt h
    rw [List.getElem?_set_self hl, wd_at h, he]
  · rw [List.getElem?_set_ne (fun z => hi z.symm)]
    unfold wdA
    rw [List.getElem?_mapIdx, List.getElem?_mapIdx]
    cases sh[i]? with
    | none => rfl
    | some z => simp only [Option.map_some]; rw [hn i z hi]
theorem cellA_n {ad : Nat → Nat} {cA : FieldType → ClassId} {S S' : St} {q : Nat} {z : Sh} (h1 : S'.1 q = S.1 q) (h2 : S'.2 q = S.2 q) : cellA ad cA S' q z = cellA ad cA S q z := by
  rcases z with ⟨ci, fl⟩ | ⟨ty, n⟩
  · show Sum.inr (ci, fl.mapIdx (fldV ad (S'.1 q))) = Sum.inr (ci, fl.mapIdx (fldV ad (S.1 q)))
    rw [h1]
  · cases ty <;> simp only [cellA, h1, h2]
theorem wd_puI {ad : Nat → Nat} {cA : FieldType → ClassId} {S : St} {sh : List Sh} {o k ci : Nat} {fl : List (Option Nat)} {v : Int32} (h : sh[o]? = some (.inl (ci, fl))) (hk : fl[k]? = some none) :
    (wdA ad cA S sh).set o (ad o, .inr (ci, (fl.mapIdx (fldV ad (S.1 o))).set k (.int v))) = wdA ad cA (puI S o k v) sh := by
  refine wd_set h ?_ (fun q z hq => cellA_n (pt_n hq) rfl)
  show Sum.inr (ci, fl.mapIdx (fldV ad ((puI S o k v).1 o))) = _
  congr 2
  apply List.ext_getElem?
  intro i
  by_cases hi : i = k
  · subst hi
    have hl : i < (fl.mapIdx (fldV ad (S.1 o))).length := by
      rw [List.length_mapIdx]; exact (List.getElem?_eq_some_iff.mp hk).1
    rw [List.getElem?_set_self hl, List.getElem?_mapIdx, hk]
    show some (Value.int ((pt S.1 o (upd (S.1 o) i v)) o i)) = _
    rw [pt_s]
    simp [upd]
  · rw [List.getElem?_set_ne (fun z => hi z.symm), List.getElem?_mapIdx, List.getElem?_mapIdx]
    cases fl[i]? with
    | none => rfl
    | some z =>
      cases z with
      | some q => rfl
      | none =>
        show some (Value.int ((pt S.1 o (upd (S.1 o) k v)) o i)) = some (Value.int (S.1 o i))
        rw [pt_s]
        simp [upd, hi]
theorem wd_arI {ad : Nat → Nat} {cA : FieldType → ClassId} {S : St} {sh : List Sh} {o k n : Nat} {ty : FieldType} {v : Int32} (h : sh[o]? = some (.inr (ty, n))) (ht : ty ≠ .long) :
    (wdA ad cA S sh).set o (ad o, .inl (cA ty, n, .inl (upd (S.1 o) k v))) = wdA ad cA (puI S o k v) sh := by
  refine wd_set h ?_ (fun q z hq => cellA_n (pt_n hq) rfl)
  have h1 : (puI S o k v).1 o = upd (S.1 o) k v := pt_s
  cases ty <;> first | exact absurd rfl ht | (simp only [cellA, h1])
theorem wd_arL {ad : Nat → Nat} {cA : FieldType → ClassId} {S : St} {sh : List Sh} {o k n : Nat} {v : Int64} (h : sh[o]? = some (.inr (.long, n))) :
    (wdA ad cA S sh).set o (ad o, .inl (cA .long, n, .inr (.inl (vp_updL (S.2 o) k v)))) = wdA ad cA (puL S o k v) sh := by
  refine wd_set h ?_ (fun q z hq => cellA_n rfl (ptL_n hq))
  have h1 : (puL S o k v).2 o = vp_updL (S.2 o) k v := ptL_s
  simp only [cellA, h1]
/-! the locals, by place -/
def lh (ad : Nat → Nat) (ls : Array Slot) (nL : Nat) (lv : List (Option AV)) : Prop := ls.size = nL ∧ lv_wf ls ∧ ∀ (i : Nat) (v : AV), lv[i]? = some (some v) → ls[i]? = some (.val (av_V ad v))
def lhL (ad : Nat → Nat) (lv : List (Option AV)) : List (Nat × Value) := (List.range lv.length).filterMap (fun i => match lv[i]? with | some (some v) => some (i, av_V ad v) | _ => none)
theorem lhL_in {ad : Nat → Nat} {lv : List (Option AV)} {i : Nat} {v : AV} (h : lv[i]? = some (some v)) : (i, av_V ad v) ∈ lhL ad lv := by
  refine List.mem_filterMap.mpr ⟨i, List.mem_range.mpr (List.getElem?_eq_some_iff.mp h).1, ?_⟩
  rw [h]
theorem lhL_of {ad : Nat → Nat} {lv : List (Option AV)} {q : Nat × Value} (h : q ∈ lhL ad lv) : ∃ v, lv[q.1]? = some (some v) ∧ q.2 = av_V ad v := by
  obtain ⟨i, -, hi⟩ := List.mem_filterMap.mp h
  split at hi
  next v hv =>
    cases hi
    exact ⟨v, hv, rfl⟩
  next => cases hi
theorem lh_has {ad : Nat → Nat} {ls : Array Slot} {nL : Nat} {lv : List (Option AV)} (h : lh ad ls nL lv) : lv_has ls nL (lhL ad lv) := by
  refine ⟨h.1, h.2.1, fun q hq => ?_⟩
  obtain ⟨v, h1, h2⟩ := lhL_of hq
  rw [h2]
  exact h.2.2 _ _ h1
/-- no long begins just ahead of place i -/
def lvP (lv : List (Option AV)) (i : Nat) : Bool := match i with
  | 0 => true
  | j + 1 => match lv[j]? with
    | some (some (.inr (.inr _))) => false
    | _ => true
theorem lvP_c {ad : Nat → Nat} {lv : List (Option AV)} {i j : Nat} {v : AV} (h : lvP lv i = true) (hj : lv[j]? = some (some v)) (hji : j + 1 = i) : (av_V ad v).category ≠ 2 := by
  subst hji
  unfold lvP at h
  rcases v with o | x | x
  · intro q; cases q
  · intro q; cases q
  · simp only [hj] at h; cases h
theorem lh_set1 {ad : Nat → Nat} {ls : Array Slot} {nL : Nat} {lv : List (Option AV)} {i : Nat} {v : AV} {w : Value} (hw : av_V ad v = w) (hp : lvP lv i = true) (h : lv_has ls nL ((i, w) :: (lhL ad lv).filter (fun q => !(q.1 == i) && !(q.1 + 1 == i && q.2.category == 2)))) : lh ad ls nL (lv.set i (some v)) := by
  refine ⟨h.1, h.2.1, fun j u hj => ?_⟩
  by_cases hji : j = i
  · subst hji
    have hl : j < lv.length := by
      have := (List.getElem?_eq_some_iff.mp hj).1
      rwa [List.length_set] at this
    rw [List.getElem?_set_self hl] at hj
    cases hj
    rw [hw]
    exact h.2.2 (j, w) List.mem_cons_self
  · rw [List.getElem?_set_ne (fun z => hji z.symm)] at hj
    refine h.2.2 (j, av_V ad u) (List.mem_cons_of_mem _ (List.mem_filter.mpr ⟨lhL_in hj, ?_⟩))
    have h2 : ¬ (j + 1 = i ∧ (av_V ad u).category = 2) := fun z => lvP_c (ad := ad) hp hj z.1 z.2
    simp [hji]
    rcases Decidable.em (j + 1 = i) with z | z
    · exact Or.inr (fun z2 => h2 ⟨z, z2⟩)
    · exact Or.inl z
theorem lh_set2 {ad : Nat → Nat} {ls : Array Slot} {nL : Nat} {lv : List (Option AV)} {i : Nat} {v : AV} {w : Value} (hw : av_V ad v = w) (hp : lvP lv i = true) (h : lv_has ls nL ((i, w) :: (lhL ad lv).filter (fun q => !(q.1 == i) && (!(q.1 == i + 1) && !(q.1 + 1 == i && q.2.category == 2))))) : lh ad ls nL ((lv.set i (some v)).set (i + 1) none) := by
  refine ⟨h.1, h.2.1, fun j u hj => ?_⟩
  by_cases hj2 : j = i + 1
  · subst hj2
    have hl : i + 1 < (lv.set i (some v)).length := by
      have := (List.getElem?_eq_some_iff.mp hj).1
      rwa [List.length_set] at this
    rw [List.getElem?_set_self hl] at hj
    cases hj
  · rw [List.getElem?_set_ne (fun z => hj2 z.symm)] at hj
    by_cases hji : j = i
    · subst hji
      have hl : j < lv.length := by
        have := (List.getElem?_eq_some_iff.mp hj).1
        rwa [List.length_set] at this
      rw [List.getElem?_set_self hl] at hj
      cases hj
      rw [hw]
      exact h.2.2 (j, w) List.mem_cons_self
    · rw [List.getElem?_set_ne (fun z => hji z.symm)] at hj
      refine h.2.2 (j, av_V ad u) (List.mem_cons_of_mem _ (List.mem_filter.mpr ⟨lhL_in hj, ?_⟩))
      have h2 : ¬ (j + 1 = i ∧ (av_V ad u).category = 2) := fun z => lvP_c (ad := ad) hp hj z.1 z.2
      simp [hji, hj2]
      rcases Decidable.em (j + 1 = i) with z | z
      · exact Or.inr (fun z2 => h2 ⟨z, z2⟩)
      · exact Or.inl z
def lvArgs : List AV → List (Option AV)
  | [] => []
  | .inr (.inr x) :: vs => some (.inr (.inr x)) :: none :: lvArgs vs
  | .inr (.inl x) :: vs => some (.inr (.inl x)) :: lvArgs vs
  | .inl o :: vs => some (.inl o) :: lvArgs vs
def lvIn (av : List AV) (n : Nat) : List (Option AV) := lvArgs av ++ List.replicate (n - (lvArgs av).length) none
theorem sl_len (ad : Nat → Nat) : ∀ av : List AV, (lg_sl (av.map (av_V ad))).length = (lvArgs av).length
  | [] => rfl
  | .inr (.inr x) :: vs => by
    have h := sl_len ad vs
    simp only [lg_sl, List.map_cons, List.flatMap_cons, lvArgs, List.length_append, List.length_cons] at h ⊢
    rw [h]
    simp [av_V, Value.category]
    omega
  | .inr (.inl x) :: vs => by
    have h := sl_len ad vs
    simp only [lg_sl, List.map_cons, List.flatMap_cons, lvArgs, List.length_append, List.length_cons] at h ⊢
    rw [h]
    simp [av_V, Value.category]
    omega
  | .inl o :: vs => by
    have h := sl_len ad vs
    simp only [lg_sl, List.map_cons, List.flatMap_cons, lvArgs, List.length_append, List.length_cons] at h ⊢
    rw [h]
    simp [av_V, Value.category]
    omega
theorem sl_at (ad : Nat → Nat) : ∀ (av : List AV) (i : Nat) (v : AV), (lvArgs av)[i]? = some (some v) → (lg_sl (av.map (av_V ad)))[i]? = some (.val (av_V ad v))
  | [], i, v, h => by simp [lvArgs] at h
  | .inr (.inr x) :: vs, i, v, h => by
    have e : lg_sl ((.inr (.inr x) :: vs : List AV).map (av_V ad)) = Slot.val (.long x) :: Slot.second :: lg_sl (vs.map (av_V ad)) := by
      simp [lg_sl, av_V, Value.category]
    rw [e]
    match i, h with
    | 0, h => simp [lvArgs] at h; subst h; rfl
    | 1, h => simp [lvArgs] at h
    | i + 2, h => exact sl_at ad vs i v (by simpa [lvArgs] using h)
  | .inr (.inl x) :: vs, i, v, h => by
    have e : lg_sl ((.inr (.inl x) :: vs : List AV).map (av_V ad)) = Slot.val (.int x) :: lg_sl (vs.map (av_V ad)) := by
      simp [lg_sl, av_V, Value.category]
    rw [e]
    match i, h with
    | 0, h => simp [lvArgs] at h; subst h; rfl
    | i + 1, h => exact sl_at ad vs i v (by simpa [lvArgs] using h)
  | .inl o :: vs, i, v, h => by
    have e : lg_sl ((.inl o :: vs : List AV).map (av_V ad)) = Slot.val (.ref (ad o)) :: lg_sl (vs.map (av_V ad)) := by
      simp [lg_sl, av_V, Value.category]
    rw [e]
    match i, h with
    | 0, h => simp [lvArgs] at h; subst h; rfl
    | i + 1, h => exact sl_at ad vs i v (by simpa [lvArgs] using h)
theorem lh_entry (ad : Nat → Nat) (av : List AV) {n : Nat} (h : (lvArgs av).length ≤ n) : lh ad ((lg_sl (av.map (av_V ad)) ++ List.replicate (n - (lg_sl (av.map (av_V ad))).length) Slot.unset).toArray) n (lvIn av n) := by
  obtain ⟨h1, h2, -⟩ := lv_entry (av.map (av_V ad)) (n := n) (by rw [sl_len]; exact h)
  refine ⟨h1, h2, fun i v hi => ?_⟩
  unfold lvIn at hi
  rw [List.getElem?_toArray]
  by_cases hl : i < (lvArgs av).length
  · rw [List.getElem?_append_left hl] at hi
    rw [List.getElem?_append_left (by rw [sl_len]; exact hl)]
    exact sl_at ad av i v hi
  · rw [List.getElem?_append_right (by omega)] at hi
    have := List.mem_of_getElem? hi
    have := List.eq_of_mem_replicate this
    cases this
