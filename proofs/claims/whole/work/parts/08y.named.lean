section Named
variable {l : Launch} {B : List Sh} {R : Room} {y : Mt} {Zf : ZF} {kc ks pc i t : Nat} {lv : List (Option AV)} {st : List AV} {S : St}
/-- constants, by their values -/
theorem e_ci {n : Int} (v : Int32) (hd : cAt y.2.2.2.2.1 pc = some (.iconst n, 1, t)) (hv : Int32.ofInt n = v) (k : EE l B R y Zf kc ks (pc + 1) lv (aI v :: st) S) : EE l B R y Zf kc ks pc lv st S := e_sp hd rfl rfl (by rw [hv]; exact k)
theorem e_cb {n : Int} (v : Int32) (hd : cAt y.2.2.2.2.1 pc = some (.bipush n, 2, t)) (hv : (Int8.ofInt n).toInt32 = v) (k : EE l B R y Zf kc ks (pc + 2) lv (aI v :: st) S) : EE l B R y Zf kc ks pc lv st S := e_sp hd rfl rfl (by rw [hv]; exact k)
theorem e_cs {n : Int} (v : Int32) (hd : cAt y.2.2.2.2.1 pc = some (.sipush n, 3, t)) (hv : (Int16.ofInt n).toInt32 = v) (k : EE l B R y Zf kc ks (pc + 3) lv (aI v :: st) S) : EE l B R y Zf kc ks pc lv st S := e_sp hd rfl rfl (by rw [hv]; exact k)
theorem e_cl {n : Fin 2} (v : Int64) (hd : cAt y.2.2.2.2.1 pc = some (.lconst n, 1, t)) (hv : Int64.ofNat (n : Nat) = v) (k : EE l B R y Zf kc ks (pc + 1) lv (aL v :: st) S) : EE l B R y Zf kc ks pc lv st S := e_sp hd rfl rfl (by rw [hv]; exact k)
theorem e_inc {j : Nat} {n : Int} {x : Int32} (v : Int32) (hd : cAt y.2.2.2.2.1 pc = some (.iinc j n, 3, t)) (hx : lv[j]? = some (some (aI x))) (hp : (lvP lv j && decide (j < y.2.2.1)) = true) (hv : Int32.ofInt n = v) (k : EE l B R y Zf kc ks (pc + 3) (lv.set j (some (aI (x + v)))) st S) : EE l B R y Zf kc ks pc lv st S := by
  subst hv
  refine e_sp hd rfl ?_ k
  show incI y.2.2.1 lv j n st S = _
  unfold incI
  rw [hx]
  simp only [hp, if_true]
theorem e_iceq {o : Int} {t : Nat} {x z : Int32} (hd : cAt y.2.2.2.2.1 pc = some (.if_icmp .eq o, 3, t)) (kt : x = z → EE l B R y Zf kc ks t lv st S) (kf : ¬ x = z → EE l B R y Zf kc ks (pc + 3) lv st S) : EE l B R y Zf kc ks pc lv (aI z :: aI x :: st) S := e_icmp hd kt kf
theorem e_ifeq {o : Int} {t : Nat} {x : Int32} (hd : cAt y.2.2.2.2.1 pc = some (.ifCond .eq o, 3, t)) (kt : x = 0 → EE l B R y Zf kc ks t lv st S) (kf : ¬ x = 0 → EE l B R y Zf kc ks (pc + 3) lv st S) : EE l B R y Zf kc ks pc lv (aI x :: st) S := e_if hd kt kf
theorem e_icne {o : Int} {t : Nat} {x z : Int32} (hd : cAt y.2.2.2.2.1 pc = some (.if_icmp .ne o, 3, t)) (kt : ¬ x = z → EE l B R y Zf kc ks t lv st S) (kf : x = z → EE l B R y Zf kc ks (pc + 3) lv st S) : EE l B R y Zf kc ks pc lv (aI z :: aI x :: st) S := e_icmp hd kt (fun h => kf (Decidable.not_not.mp h))
theorem e_ifne {o : Int} {t : Nat} {x : Int32} (hd : cAt y.2.2.2.2.1 pc = some (.ifCond .ne o, 3, t)) (kt : ¬ x = 0 → EE l B R y Zf kc ks t lv st S) (kf : x = 0 → EE l B R y Zf kc ks (pc + 3) lv st S) : EE l B R y Zf kc ks pc lv (aI x :: st) S := e_if hd kt (fun h => kf (Decidable.not_not.mp h))
theorem e_iclt {o : Int} {t : Nat} {x z : Int32} (hd : cAt y.2.2.2.2.1 pc = some (.if_icmp .lt o, 3, t)) (kt : x < z → EE l B R y Zf kc ks t lv st S) (kf : ¬ x < z → EE l B R y Zf kc ks (pc + 3) lv st S) : EE l B R y Zf kc ks pc lv (aI z :: aI x :: st) S := e_icmp hd kt kf
theorem e_iflt {o : Int} {t : Nat} {x : Int32} (hd : cAt y.2.2.2.2.1 pc = some (.ifCond .lt o, 3, t)) (kt : x < 0 → EE l B R y Zf kc ks t lv st S) (kf : ¬ x < 0 → EE l B R y Zf kc ks (pc + 3) lv st S) : EE l B R y Zf kc ks pc lv (aI x :: st) S := e_if hd kt kf
theorem e_icge {o : Int} {t : Nat} {x z : Int32} (hd : cAt y.2.2.2.2.1 pc = some (.if_icmp .ge o, 3, t)) (kt : z ≤ x → EE l B R y Zf kc ks t lv st S) (kf : ¬ z ≤ x → EE l B R y Zf kc ks (pc + 3) lv st S) : EE l B R y Zf kc ks pc lv (aI z :: aI x :: st) S := e_icmp hd kt kf
theorem e_ifge {o : Int} {t : Nat} {x : Int32} (hd : cAt y.2.2.2.2.1 pc = some (.ifCond .ge o, 3, t)) (kt : 0 ≤ x → EE l B R y Zf kc ks t lv st S) (kf : ¬ 0 ≤ x → EE l B R y Zf kc ks (pc + 3) lv st S) : EE l B R y Zf kc ks pc lv (aI x :: st) S := e_if hd kt kf
theorem e_icgt {o : Int} {t : Nat} {x z : Int32} (hd : cAt y.2.2.2.2.1 pc = some (.if_icmp .gt o, 3, t)) (kt : z < x → EE l B R y Zf kc ks t lv st S) (kf : ¬ z < x → EE l B R y Zf kc ks (pc + 3) lv st S) : EE l B R y Zf kc ks pc lv (aI z :: aI x :: st) S := e_icmp hd kt kf
theorem e_ifgt {o : Int} {t : Nat} {x : Int32} (hd : cAt y.2.2.2.2.1 pc = some (.ifCond .gt o, 3, t)) (kt : 0 < x → EE l B R y Zf kc ks t lv st S) (kf : ¬ 0 < x → EE l B R y Zf kc ks (pc + 3) lv st S) : EE l B R y Zf kc ks pc lv (aI x :: st) S := e_if hd kt kf
theorem e_icle {o : Int} {t : Nat} {x z : Int32} (hd : cAt y.2.2.2.2.1 pc = some (.if_icmp .le o, 3, t)) (kt : x ≤ z → EE l B R y Zf kc ks t lv st S) (kf : ¬ x ≤ z → EE l B R y Zf kc ks (pc + 3) lv st S) : EE l B R y Zf kc ks pc lv (aI z :: aI x :: st) S := e_icmp hd kt kf
theorem e_ifle {o : Int} {t : Nat} {x : Int32} (hd : cAt y.2.2.2.2.1 pc = some (.ifCond .le o, 3, t)) (kt : x ≤ 0 → EE l B R y Zf kc ks t lv st S) (kf : ¬ x ≤ 0 → EE l B R y Zf kc ks (pc + 3) lv st S) : EE l B R y Zf kc ks pc lv (aI x :: st) S := e_if hd kt kf
/-- downward induction: a loop whose state behind i rounds is known -/
theorem e_for {P : Nat → Prop} (n : Nat) (hn : P n) (hs : ∀ i, i < n → P (i + 1) → P i) : P 0 := by
  have h : ∀ k, k ≤ n → P (n - k) := by
    intro k
    induction k with
    | zero => intro _; exact hn
    | succ k ih =>
      intro hk
      have h1 := hs (n - (k + 1)) (by omega)
      rw [show n - (k + 1) + 1 = n - k by omega] at h1
      exact h1 (ih (by omega))
  have := h n (Nat.le_refl n)
  rwa [Nat.sub_self] at this
end Named
