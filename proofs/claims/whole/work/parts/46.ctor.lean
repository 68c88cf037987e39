/-! constructors: their contract, their beginning and end, the calls of them -/
def rmN (d : Nat × Nat) (mc ms : Nat) : Room := { frames := d.1, cells := mc, slots := ms, locals := d.2 }
def QcN (n0 : Nat) (Bf : List Sh) (Q : St → Prop) (ad : Nat → Nat) (D : va_G) (cA : FieldType → ClassId) : Array Value → State → Outcome → State → Prop := fun _ st oc t =>
  oc = .returned none ∧ (∃ (ad' : Nat → Nat) (S' : St), agr n0 Bf.length ad ad' ∧ (∀ i, n0 ≤ i → i < Bf.length → st.heap.size ≤ ad' i) ∧ (∀ i j, i < Bf.length → j < Bf.length → ad' i = ad' j → i = j) ∧ Q S' ∧ va_P D classes (wdA ad' cA S' Bf) t.heap) ∧ va_K D classes (tysA cA) t ∧ va_F (aA n0 ad st.heap.size) st t
def zzN (n0 : Nat) (Bf : List Sh) (Q : St → Prop) (mc ms : Nat) : ZG := fun below args s ad D cA t => MQ below (QcN n0 Bf Q ad D cA) args s mc ms (aA n0 ad s.heap.size) t
theorem aA_agr {n0 nf sz : Nat} {ad ad' : Nat → Nat} (h : agr n0 nf ad ad') : ∀ q, aA n0 ad' sz q → aA n0 ad sz q := fun q hq => by
  rcases hq with ⟨i, h1, h2⟩ | h1
  · exact Or.inl ⟨i, h1, by rw [h2, h i (Or.inl h1)]⟩
  · exact Or.inr h1
theorem zzN_blind {n0 mc ms : Nat} {Bf : List Sh} {Q : St → Prop} : blindZ n0 Bf.length (zzN n0 Bf Q mc ms) := by
  intro below args s ad ad' D cA t h hz
  obtain ⟨o, h1, h2, ⟨h3, ⟨ad2, S', g1, g2, g3, g4, g5⟩, h5, h6⟩, L, h7, h8⟩ := hz
  refine ⟨o, h1, h2, ⟨h3, ⟨ad2, S', fun i hi => (g1 i hi).trans (h i hi), g2, g3, g4, g5⟩, h5, h6.1, fun q hq hn => h6.2 q hq (fun z => hn (aA_agr h q z))⟩, L, h7, fun q hq => aA_agr h _ (h8 q hq)⟩
def KN (l : Launch) (B : List Sh) (d : Nat × Nat) (z : Mt) (av : List AV) (S : St) (Bf : List Sh) (Q : St → Prop) (mc ms : Nat) : Prop :=
  ∀ (ad : Nat → Nat) (D : va_G) (cA : FieldType → ClassId) (sz : Nat), (∀ i j, i < B.length → j < B.length → ad i = ad j → i = j) →
    Met l z.1 (wsM z) (rmN d mc ms) (PcA av S B ad D cA sz) (QcN B.length Bf Q ad D cA) mc ms (aA B.length ad sz)
theorem k_startN {l : Launch} {B : List Sh} {d : Nat × Nat} {z : Mt} {av : List AV} {S : St} {Bf : List Sh} {Q : St → Prop} {mc ms : Nat} (hz : okM z) (hn : (lvArgs av).length ≤ z.2.2.1)
    (he : EE l B (rmN d mc ms) z (zG (nC z) B.length B (zzN B.length Bf Q mc ms)) 0 0 0 (lvIn av z.2.2.1) [] S) : KN l B d z av S Bf Q mc ms := by
  intro ad D cA sz hi
  refine va_MetF (cc := z.2.1) (maxL := z.2.2.1) (ret := z.2.2.2.1) hz.2.2.2 rfl ?_
  intro p e s m args below meth c s₁ Bd hml hv
  obtain ⟨rfl, hsz, hP, hK, hno⟩ := hv
  subst hsz
  rw [lg_entry_eq]
  have hts0 := atoms_spec (ws := wsM z) Bd.pre
  have h := he p e s m _ below meth c B ad D cA s.heap [] _ ⟨Bd.exec, Bd.bytes, Bd.returns, hml, findClass_of_methodNamed Bd.named, fun w hw => hts0 w (List.mem_cons_of_mem _ hw), Bd.notSynchronized, hno, hK, hz.D, ⟨[], by simp⟩, hi⟩ hP va_S.rf (lh_entry ad av hn)
  intro T hT X
  obtain ⟨t, a, b⟩ := h T hT X
  exact ⟨t, a, b ⟨rfl, ⟨m, _, below, Bd.frames, Bd.named⟩, fun i h1 h2 => absurd h1 (Nat.not_le.mpr h2)⟩⟩
theorem aA_fresh {n0 n sz : Nat} {ad : Nat → Nat} (hfr : ∀ i, n0 ≤ i → i < n → sz ≤ ad i) : ∀ q, aA n ad sz q → aA n0 ad sz q := fun q hq => by
  rcases hq with ⟨i, h1, h2⟩ | h1
  · rcases Nat.lt_or_ge i n0 with g | g
    · exact Or.inl ⟨i, g, h2⟩
    · exact Or.inr (by rw [h2]; exact hfr i g h1)
  · exact Or.inr h1
theorem e_vretN {l : Launch} {R : Room} {y : Mt} {F9 : State → Prop} {n0 kc ks pc mc ms t : Nat} {Bf : List Sh} {Q : St → Prop} {lv : List (Option AV)} {S : St} (hd : cAt y.2.2.2.2.1 pc = some (.return_, 1, t)) (hrt : y.2.2.2.1 = none) (h1 : kc ≤ mc) (h2 : ks ≤ ms) (hq : Q S) : EE l Bf R y (zG F9 n0 Bf (zzN n0 Bf Q mc ms)) kc ks pc lv [] S := by
  refine zg_in (fun p e s m args below meth c ad D cA H locs ls Cc hP hS hl hF hfr => ?_)
  obtain ⟨hx, hb, hr, hml, hown, hts, hlk, hn9, hK, hok, hsh, hi⟩ := id Cc
  have hS' := hS.mono (aA_fresh hfr)
  refine W.widen h1 h2 ?_
  exact W.vret hx hb (hr.trans hrt) (fun t ht hW => ⟨rfl, ⟨ad, S, fun _ _ => rfl, hfr, hi, hq, by rw [ht]; exact hP⟩, va_K.moved hW.alike hK, hS'.F ht⟩) hS'.2.2 (okM_c hok hd).1
/-- no reference to a place from a up to b -/
def avR (a b : Nat) (v : AV) : Bool := match v with
  | .inl q => decide (q < a) || decide (b ≤ q)
  | _ => true
def lvR (a b : Nat) (lv : List (Option AV)) : Bool := lv.all (fun v => match v with
  | some w => avR a b w
  | none => true)
theorem lvR_of {a b : Nat} {lv : List (Option AV)} (h : lvR a b lv = true) : ∀ (i q : Nat), lv[i]? = some (some (.inl q)) → q < a ∨ b ≤ q := by
  intro i q hi
  have h1 : (decide (q < a) || decide (b ≤ q)) = true := List.all_eq_true.mp h _ (List.mem_of_getElem? hi)
  simpa [Bool.or_eq_true, decide_eq_true_eq] using h1
theorem stR_of {a b : Nat} {st : List AV} (h : st.all (avR a b) = true) : ∀ q, aR q ∈ st → q < a ∨ b ≤ q := by
  intro q hq
  have h1 : (decide (q < a) || decide (b ≤ q)) = true := List.all_eq_true.mp h _ hq
  simpa [Bool.or_eq_true, decide_eq_true_eq] using h1
section CallN
variable {l : Launch} {B Bf' : List Sh} {R : Room} {y z : Mt} {F9 : State → Prop} {ZZ : ZG} {n0 nf kc ks pc i t n o mc' ms' : Nat} {d' : Nat × Nat} {lv : List (Option AV)} {st as rest : List AV} {S : St} {Q' : St → Prop}
theorem a_callN {p : Program} {e : Env} {s : State} {m : MethodId} {args a : Array Value} {below : List Frame} {meth : Method} {c : Code} {H : Heap} {locs : List Loc} {ls : Array Slot} {st0 : List Value} {ad : Nat → Nat} {D : va_G} {cA : FieldType → ClassId}
    (hr : va_Run p l e R s m args below meth c H locs kc ks mc' ms' (F0 m pc ls st0) (rest.map (av_V ad)) (QcN B.length Bf' Q' ad D cA a) (aA B.length ad H.size)) (Cc : Cx B y p s m args meth c B ad D cA) (hS : va_S (aA B.length ad s.heap.size) s.heap H locs) (hl : lh ad ls y.2.2.1 lv) (hF : F9 s) (hfr : ∀ i, n0 ≤ i → i < B.length → s.heap.size ≤ ad i)
    (hg : B.length ≤ Bf'.length) (hnf : Bf'.length ≤ nf) (hn0 : n0 ≤ B.length) (hZ : blindZ n0 nf ZZ) (hlv : lvR B.length Bf'.length lv = true) (hst : rest.all (avR B.length Bf'.length) = true)
    (kk : ∀ S', Q' S' → EE l Bf' R y (zG F9 n0 Bf' ZZ) (kc + mc') (ks + ms') (pc + 3) lv rest S') : W p l e R s m args below meth c H locs kc ks (ZZ below args s ad D cA) (F0 m pc ls st0) := by
  intro T hT X
  obtain ⟨hx, hb, hr9, hml, hown, hts, hlk, hn9, hK, hok, hsh, hi⟩ := id Cc
  obtain ⟨v, st₀, t, T', L, h0, X', hL, e1, e2, ⟨hv, ⟨ad', S', g1, g2, g3, g4, g5⟩, hK', hFr⟩, stp⟩ := hr T hT X
  cases hv
  rw [h0] at g2 hFr
  have hS2 : va_S (aA Bf'.length ad' s.heap.size) s.heap T'.heap (locs ++ L) := by
    have hA : ∀ q, aA B.length ad s.heap.size q → aA Bf'.length ad' s.heap.size q := fun q hq => by
      rcases hq with ⟨i, h1, h2⟩ | h1
      · exact Or.inl ⟨i, by omega, by rw [g1 i (Or.inl h1)]; exact h2⟩
      · exact Or.inr h1
    refine ⟨Nat.le_trans hS.1 (by rw [e1]; rw [← h0]; exact hFr.1), fun q h1 h2 => ?_, fun q hq => ?_⟩
    · rw [e1, hFr.2 q (by rw [h0]; exact Nat.lt_of_lt_of_le h1 hS.1) (fun z => h2 (hA q (aA_mono hS.1 q z)))]
      rw [h0]
      exact hS.2.1 q h1 (fun z => h2 (hA q z))
    · rcases List.mem_append.mp hq with h | h
      · exact hA _ (hS.2.2 q h)
      · exact hA _ (aA_mono hS.1 _ (hL q h))
  have hk := kk S' g4 p e s m args below meth c Bf' ad' D cA T'.heap (locs ++ L) ls ⟨hx, hb, hr9, hml, hown, hts, hlk, hn9, hK, hok, ⟨[], by simp⟩, g3⟩ (by rw [e1]; exact g5) hS2 (lh_agree (fun i q hq => g1 q (lvR_of hlv i q hq)) hl)
  rw [st_agree (ad := ad) (fun q hq => g1 q (stR_of hst q hq))] at hk
  obtain ⟨t2, a1, b1⟩ := hk T' rfl X'
  refine ⟨t2, stp t2 a1, hZ below args s ad ad' D cA t2 (fun i h9 => g1 i (by omega)) (b1 ⟨rfl, hF, fun i h1 h2 => ?_⟩)⟩
  rcases Nat.lt_or_ge i B.length with g | g
  · rw [g1 i (Or.inl g)]; exact hfr i h1 g
  · exact Nat.le_trans hS.1 (g2 i g h2)
theorem e_callI (hz : okM z) (hd : cAt y.2.2.2.2.1 pc = some (.invokespecial i, 3, t)) (hl : lkI y.1.cls i z n) (hK : KN l B d' z (aR o :: as) S Bf' Q' mc' ms') (hlen : as.length = n) (hst0 : st = as.reverse ++ aR o :: rest) (hrt : z.2.2.2.1 = none)
    (hR : d'.1 + 1 ≤ R.frames ∧ 8 + (z.2.2.1 + 11) + d'.2 ≤ R.locals) (hc : kc + mc' ≤ R.cells ∧ ks + ms' ≤ R.slots) (hrest : (rest.map av_c).sum ≤ 8)
    (hg : B.length ≤ Bf'.length) (hnf : Bf'.length ≤ nf) (hn0 : n0 ≤ B.length) (hZ : blindZ n0 nf ZZ) (hlv : lvR B.length Bf'.length lv = true) (hst : rest.all (avR B.length Bf'.length) = true)
    (kk : ∀ S', Q' S' → EE l Bf' R y (zG F9 n0 Bf' ZZ) (kc + mc') (ks + ms') (pc + 3) lv rest S') : EE l B R y (zG F9 n0 B ZZ) kc ks pc lv st S := by
  subst hst0
  refine zg_in (fun p e s m args below meth c ad D cA H locs ls Cc hP hS hlh hF hfr => ?_)
  obtain ⟨hx, hb, hr, hml, hown, hts, hlk, hn9, hKw, hok, hsh, hi⟩ := id Cc
  obtain ⟨w1, w2, w4, w6, w5⟩ := hl
  have hM := hK ad D cA H.size hi
  rw [map_rev, List.map_cons]
  refine a_callN (va_runI (As := as.map (av_V ad)) (rest := rest.map (av_V ad)) ⟨hx, hb, hml, hown, hts⟩ hM (cwI n hts (gw_wsM hz) (by unfold wsM; rw [hrt]) rfl rfl (hts _ (gw_in w4 rfl)) (hts _ (gw_in w1 rfl)) (hts _ (gw_in w2 rfl)) w6 w5 hR) ⟨pcA_blind, pcA_pre Cc hP (aR o :: as)⟩ rfl (by rw [List.length_map]; exact hlen) hlh.1 rfl (lv_room (by rw [av_cats]; exact hrest)) (okM_c hok hd).1 ⟨hc.1, hc.2⟩) Cc hS hlh hF hfr hg hnf hn0 hZ hlv hst kk
theorem e_callJ (hz : okM z) (hd : cAt y.2.2.2.2.1 pc = some (.invokespecial i, 3, t)) (hl : lkJ y.1.cls i z n) (hK : KN l B d' z (aR o :: as) S Bf' Q' mc' ms') (hlen : as.length = n) (hst0 : st = as.reverse ++ aR o :: rest) (hrt : z.2.2.2.1 = none)
    (hR : d'.1 + 1 ≤ R.frames ∧ 8 + (z.2.2.1 + 11) + d'.2 ≤ R.locals) (hc : kc + mc' ≤ R.cells ∧ ks + ms' ≤ R.slots) (hrest : (rest.map av_c).sum ≤ 8)
    (hg : B.length ≤ Bf'.length) (hnf : Bf'.length ≤ nf) (hn0 : n0 ≤ B.length) (hZ : blindZ n0 nf ZZ) (hlv : lvR B.length Bf'.length lv = true) (hst : rest.all (avR B.length Bf'.length) = true)
    (kk : ∀ S', Q' S' → EE l Bf' R y (zG F9 n0 Bf' ZZ) (kc + mc') (ks + ms') (pc + 3) lv rest S') : EE l B R y (zG F9 n0 B ZZ) kc ks pc lv st S := by
  subst hst0
  refine zg_in (fun p e s m args below meth c ad D cA H locs ls Cc hP hS hlh hF hfr => ?_)
  obtain ⟨hx, hb, hr, hml, hown, hts, hlk, hn9, hKw, hok, hsh, hi⟩ := id Cc
  obtain ⟨w1, w2, w4, w6, w5⟩ := hl
  have hM := hK ad D cA H.size hi
  rw [map_rev, List.map_cons]
  refine a_callN (va_runIN (As := as.map (av_V ad)) (rest := rest.map (av_V ad)) ⟨hx, hb, hml, hown, hts⟩ hM ⟨va_cnB n hts (gw_wsM hz) (by unfold wsM; rw [hrt]) rfl rfl (hn9 _ (nw_in w1 rfl)) (hts _ (gw_in w4 rfl)) w5 hR, w6, hts _ (gw_in w2 rfl)⟩ ⟨pcA_blind, pcA_pre Cc hP (aR o :: as)⟩ rfl (by rw [List.length_map]; exact hlen) hlh.1 rfl (lv_room (by rw [av_cats]; exact hrest)) (okM_c hok hd).1 ⟨hc.1, hc.2⟩) Cc hS hlh hF hfr hg hnf hn0 hZ hlv hst kk
end CallN
