/-! the law, case by case -/
theorem ee_sub {l : Launch} {B : List Sh} {R : Room} {y y' : Mt} {Zf : ZF} {kc ks pc : Nat} {lv : List (Option AV)} {st : List AV} {S : St} (hok' : okD y') (e : y'.1 = y.1 ∧ y'.2.1 = y.2.1 ∧ y'.2.2.1 = y.2.2.1 ∧ y'.2.2.2.1 = y.2.2.2.1) (k : EE l B R y' Zf kc ks pc lv st S) : EE l B R y Zf kc ks pc lv st S := by
  intro p e9 s m args below meth c sh ad D cA H locs ls C hP hS hl
  obtain ⟨hx, hb, hr, hml, hown, hts, hlk, hn, hK, hok, hsh, hi⟩ := id C
  exact k p e9 s m args below meth c sh ad D cA H locs ls ⟨hx, by rw [e.2.1]; exact hb, by rw [e.2.2.2]; exact hr, by rw [e.2.2.1]; exact hml, by rw [e.1]; exact hown, hts, hlk, hn, hK, hok', hsh, hi⟩ hP hS (by rw [e.2.2.1]; exact hl)
theorem vin9 {i k L : Nat} (h : i + k < L) (hL : L < 2 ^ 31) : vp_in (nI i + nI k) L := by
  rw [nI_add]
  exact vp_in_nI h hL
theorem cmp_0 {x y : Int64} (h : x = y) : lg_cmp x y = 0 := by
  subst h
  unfold lg_cmp
  simp
theorem b2L_0 {x : Int32} (h : x = 0) : b2L x = Int64.ofNat 0 := by rw [h]; rfl
theorem b2L_1 {x : Int32} (h : ¬ x = 0) : b2L x = Int64.ofNat 1 := by unfold b2L; rw [if_neg h]; rfl
theorem pp_21 {S : St} (n k : Nat) : (ppS S n).1 21 k = S.1 21 k := by
  induction n with
  | zero => rfl
  | succ n ih =>
    rw [← ih]
    show (tkR (ppS S n) _).1 21 k = _
    unfold tkR
    split
    · rfl
    · rw [puI_at, if_neg (by omega), puI_at, if_neg (by omega)]
theorem fld2 {h w : Nat} {S : St} (H : Rl h w S S) : ∃ q dd cm, S.1 21 20 = nI q ∧ q ≤ 60000 ∧ S.1 21 21 = nI dd ∧ dd ≤ 384 ∧ szW S = nI dd ∧ S.1 21 23 = nI cm ∧ cm ≤ 3000 ∧ S.1 17 2 = nI cm := by
  obtain ⟨pw, ph, m, c, r, h1, h2, h3, h4, h5, h6, h7, h8, h9, h10, h11, h12⟩ := H
  obtain ⟨cm, hcm, a1, b1⟩ := rea_cm h12
  obtain ⟨e1, n, hn, e2⟩ := sz_w h11
  obtain ⟨nb, q, -, hq, -, hq2, -⟩ := h11
  exact ⟨q, n, cm, hq2, hq, e2, hn, e1.trans e2, b1, hcm, a1⟩
