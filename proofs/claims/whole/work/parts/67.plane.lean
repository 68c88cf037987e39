/-! codes and contexts -/
theorem bt_n {A : St} {a b p : Nat} (ha : a < 16) (hb : b < 16) (hp : p < 32) : btC A (nI a) (nI b) (nI p) = b2I (bI9 (A.1 10 (16 * b + a)) p) := by
  unfold btC
  rw [if_neg (plc_of ha hb).2, (plc_of ha hb).1, nI_clamp (by omega), bit1 hp]
theorem wi_neg {z b : Int32} (h : z < 0) : wi z 0 b = 0 := by unfold wi; rw [if_pos h]
theorem plc_x {i j : Int32} (h : wi i 0 15 = 0 ∨ wi j 0 15 = 0) : plc i j = -1 := by
  unfold plc
  rcases h with h | h
  · rw [if_pos h]
  · rw [if_pos h]
    split <;> rfl
/-- nothing is told at a place that no grid has -/
theorem no_place {A B : St} {i j p : Int32} (h : i < 0 ∨ j < 0) : btC A i j p = 0 ∧ tdM B i j = 0 := by
  constructor
  · unfold btC
    rw [if_pos (plc_x (h.imp wi_neg wi_neg))]
  · unfold tdM hpM
    rcases h with h | h
    · rw [if_pos (wi_neg h), if_pos rfl]
    · rw [wi_neg h]
      simp
/-- what the codes and the places already told say alike -/
def Told (p k c r : Nat) (A B : St) : Prop := (B.1 21 9 = nI c ∧ B.1 21 10 = nI r ∧ c ≤ 16 ∧ r ≤ 16) ∧ (∀ n, n < 256 → B.1 30 n = if n < k then b2I (bI9 (A.1 10 n) p) else 0) ∧ (∀ n, n < 256 → (c ≤ n % 16 ∨ r ≤ n / 16) → A.1 10 n = 0) ∧ ∀ n, n < 256 → B.1 31 n = b2I (bI9 (A.1 10 n) (p + 1))
theorem td_n {p k c r : Nat} {A B : St} (H : Told p k c r A B) (hp : p < 31) {a b : Nat} (ha : a < 16) (hb : b < 16) (hk : 16 * b + a < k) : tdM B (nI a) (nI b) = btC A (nI a) (nI b) (nI p) := by
  obtain ⟨⟨e1, e2, e3, e4⟩, h1, h2, h3⟩ := H
  rw [bt_n ha hb (by omega)]
  unfold tdM
  rw [hp_of e1 e2 e3 e4 (by omega) (by omega)]
  by_cases z : a < c ∧ b < r
  · rw [if_pos z, if_neg (by decide), at_16 ha hb, h1 _ (by omega), if_pos hk]
    cases bI9 (A.1 10 (16 * b + a)) p <;> decide
  · rw [if_neg z, if_pos rfl, h2 (16 * b + a) (by omega) (by omega), bI_0]
    rfl
theorem sub_nn {a n : Nat} (h : n ≤ a) : nI a - nI n = nI (a - n) := by
  obtain ⟨d, rfl⟩ := Nat.exists_eq_add_of_le h
  rw [← nI_add, Int32.add_comm, Int32.add_sub_cancel]
  congr 1
  omega
theorem neg_12 : (nI 0 - 1 : Int32) < 0 ∧ (nI 0 - 2 : Int32) < 0 ∧ (nI 1 - 2 : Int32) < 0 := by decide
theorem nb_1 {p k c r : Nat} {A B : St} (H : Told p k c r A B) (hp : p < 31) {a b : Nat} (ha : a < 16) (hb : b < 16) (hk : k = 16 * b + a) :
    tdM B (nI a - 1) (nI b) = btC A (nI a - 1) (nI b) (nI p) ∧ tdM B (nI a - 2) (nI b) = btC A (nI a - 2) (nI b) (nI p) ∧ tdM B (nI a - 1) (nI b - 1) = btC A (nI a - 1) (nI b - 1) (nI p) ∧ tdM B (nI a) (nI b - 1) = btC A (nI a) (nI b - 1) (nI p) ∧ tdM B (nI a + 1) (nI b - 1) = btC A (nI a + 1) (nI b - 1) (nI p) := by
  have none : ∀ {i j : Int32}, (i < 0 ∨ j < 0) → tdM B i j = btC A i j (nI p) := fun h => by
    obtain ⟨e1, e2⟩ := no_place (A := A) (B := B) (p := nI p) h
    rw [e1, e2]
  have s1 : ∀ x : Nat, 1 ≤ x → nI x - 1 = nI (x - 1) := fun x hx => sub_nn (n := 1) hx
  refine ⟨?_, ?_, ?_, ?_, ?_⟩
  · by_cases z : 1 ≤ a
    · rw [s1 a z]; exact td_n H hp (by omega) hb (by omega)
    · have : a = 0 := by omega
      subst this
      exact none (Or.inl neg_12.1)
  · by_cases z : 2 ≤ a
    · rw [show nI a - 2 = nI (a - 2) from sub_nn (n := 2) z]; exact td_n H hp (by omega) hb (by omega)
    · have : a = 0 ∨ a = 1 := by omega
      rcases this with rfl | rfl
      · exact none (Or.inl neg_12.2.1)
      · exact none (Or.inl neg_12.2.2)
  · by_cases y : 1 ≤ b
    · by_cases z : 1 ≤ a
      · rw [s1 a z, s1 b y]; exact td_n H hp (by omega) (by omega) (by omega)
      · have : a = 0 := by omega
        subst this
        exact none (Or.inl neg_12.1)
    · have : b = 0 := by omega
      subst this
      exact none (Or.inr neg_12.1)
  · by_cases y : 1 ≤ b
    · rw [s1 b y]; exact td_n H hp (by omega) (by omega) (by omega)
    · have : b = 0 := by omega
      subst this
      exact none (Or.inr neg_12.1)
  · by_cases y : 1 ≤ b
    · rw [s1 b y, nI_1]
      by_cases z : a + 1 < 16
      · exact td_n H hp z (by omega) (by omega)
      · have : a = 15 := by omega
        subst this
        obtain ⟨⟨e1, e2, e3, e4⟩, -⟩ := H
        have t0 : tdM B (nI (15 + 1)) (nI (b - 1)) = 0 := by
          unfold tdM
          rw [hp_of e1 e2 e3 e4 (by omega) (by omega), if_neg (show ¬ (15 + 1 < c ∧ b - 1 < r) by omega), if_pos rfl]
        have b0 : btC A (nI (15 + 1)) (nI (b - 1)) (nI p) = 0 := by
          unfold btC
          rw [if_pos (plc_x (Or.inl (by decide)))]
        rw [t0, b0]
    · have : b = 0 := by omega
      subst this
      exact none (Or.inr neg_12.1)
theorem six_or : ∀ a b c d e f : Bool, (b2I a <<< (5 &&& 31) ||| b2I b <<< (4 &&& 31)) ||| (b2I c <<< (3 &&& 31) ||| b2I d <<< (2 &&& 31) ||| b2I e <<< (1 &&& 31)) ||| b2I f = 32 * b2I a + 16 * b2I b + 8 * b2I c + 4 * b2I d + 2 * b2I e + b2I f := by decide +kernel
theorem bt_b {A : St} {i j p : Int32} : ∃ b : Bool, btC A i j p = b2I b := by
  unfold btC
  split
  · exact ⟨false, rfl⟩
  · exact ⟨_, and1⟩
theorem ct_ct {p k c r : Nat} {A B : St} (H : Told p k c r A B) (hp : p < 31) {a b : Nat} (ha : a < 16) (hb : b < 16) (hk : k = 16 * b + a) : ctC A (nI a) (nI b) (nI p) = ctM B (nI a) (nI b) := by
  obtain ⟨n1, n2, n3, n4, n5⟩ := nb_1 H hp ha hb hk
  unfold ctC ctM
  rw [n1, n2, n3, n4, n5, show nI p + 1 = nI (p + 1) from nI_1 p, bt_n ha hb (by omega), at_16 ha hb, H.2.2.2 _ (by omega)]
  obtain ⟨b1, e1⟩ := bt_b (A := A) (i := nI a - 1) (j := nI b) (p := nI p)
  obtain ⟨b2, e2⟩ := bt_b (A := A) (i := nI a - 2) (j := nI b) (p := nI p)
  obtain ⟨b3, e3⟩ := bt_b (A := A) (i := nI a - 1) (j := nI b - 1) (p := nI p)
  obtain ⟨b4, e4⟩ := bt_b (A := A) (i := nI a) (j := nI b - 1) (p := nI p)
  obtain ⟨b5, e5⟩ := bt_b (A := A) (i := nI a + 1) (j := nI b - 1) (p := nI p)
  rw [e1, e2, e3, e4, e5, six_or]
  congr 1
  cases bI9 (A.1 10 (16 * b + a)) (p + 1) <;> decide
/-! what a context learns -/
theorem nx_all : ∀ t, t < 16 → ∀ b : Bool, nxF (nI t - 8) (b2I b) = ncM (nsM (nI t - 8) (b2I b)) ∧ -8 ≤ ncM (nsM (nI t - 8) (b2I b)) ∧ ncM (nsM (nI t - 8) (b2I b)) ≤ 7 := by decide +kernel
theorem st_t {s : Int32} (h1 : -8 ≤ s) (h2 : s ≤ 7) : ∃ t, t < 16 ∧ s = nI t - 8 := by
  rw [Int32.le_iff_toInt_le] at h1 h2
  have z1 : (-8 : Int32).toInt = -8 := rfl
  have z2 : (7 : Int32).toInt = 7 := rfl
  refine ⟨(s.toInt + 8).toNat, by omega, ?_⟩
  apply Int32.toInt_inj.mp
  rw [Int32.toInt_sub, nI_toInt (by omega), show (8 : Int32).toInt = 8 from rfl, Int.bmod_eq_of_le (by omega) (by omega)]
  omega
theorem learn_eq {A B : St} (H : Rctx A B) {cx : Nat} (hc : cx < 64) (b : Bool) : Rctx (leF A (nI cx) (b2I b)) (leM B (nI cx) (b2I b)) := by
  unfold leF leM
  rw [if_neg (show ¬ wi (nI cx) 0 63 = 0 from wi_ok (n := 64) hc (by decide)), nI_clamp (by omega)]
  obtain ⟨g1, g2, g3, g4⟩ := H cx hc
  obtain ⟨t, ht, e⟩ := st_t g2 g3
  obtain ⟨f1, f2, f3⟩ := nx_all t ht b
  intro n hn
  obtain ⟨k1, k2, k3, k4⟩ := H n hn
  have v1 : ∀ (X Y : Int32), (puI (puI A 12 cx X) 13 cx Y).1 12 n = if n = cx then X else A.1 12 n := fun X Y => by simp [puI_at]
  have v2 : ∀ (X Y : Int32), (puI (puI A 12 cx X) 13 cx Y).1 13 n = if n = cx then Y else A.1 13 n := fun X Y => by simp [puI_at]
  have v3 : ∀ (X Y : Int32), (puI (puI B 29 cx X) 28 cx Y).1 29 n = if n = cx then X else B.1 29 n := fun X Y => by simp [puI_at]
  have v4 : ∀ (X Y : Int32), (puI (puI B 29 cx X) 28 cx Y).1 28 n = if n = cx then Y else B.1 28 n := fun X Y => by simp [puI_at]
  rw [v1, v2, v3, v4]
  by_cases z : n = cx
  · rw [if_pos z, if_pos z, if_pos z, if_pos z, g1, e, f1, g4]
    exact ⟨rfl, f2, f3, rfl⟩
  · rw [if_neg z, if_neg z, if_neg z, if_neg z]
    exact ⟨k1, k2, k3, k4⟩
theorem ft_ft {A B : St} (H : Rctx A B) {cx : Nat} (hc : cx < 64) : ftF A (nI cx) = if B.1 28 cx < 0 then 0 else 1 := by
  unfold ftF
  rw [if_neg (show ¬ wi (nI cx) 0 63 = 0 from wi_ok (n := 64) hc (by decide)), nI_clamp (by omega), (H cx hc).1]
theorem le_f {A : St} {c b : Int32} : (∀ o k, ¬ (o = 12 ∨ o = 13) → (leF A c b).1 o k = A.1 o k) ∧ (leF A c b).2 = A.2 := by
  unfold leF
  split
  · exact ⟨fun _ _ _ => rfl, rfl⟩
  · exact ⟨fun o k hn => by rw [puI_at, if_neg (by omega), puI_at, if_neg (by omega)], rfl⟩
theorem lm_f {B : St} {c b : Int32} : (∀ o k, ¬ (o = 28 ∨ o = 29) → (leM B c b).1 o k = B.1 o k) ∧ (leM B c b).2 = B.2 := by
  unfold leM
  exact ⟨fun o k hn => by rw [puI_at, if_neg (by omega), puI_at, if_neg (by omega)], rfl⟩
/-! the gray code of a grey -/
theorem gray_bit {g : Int32} {p : Nat} (hp : p < 31) : bI9 (g ^^^ g >>> (1 &&& 31)) p = (bI9 g p ^^ bI9 g (p + 1)) := by
  rw [bI_xor]
  congr 1
  show bI9 (g >>> (nI 1 &&& 31)) p = _
  rw [bI_shr (by omega), Nat.add_comm]
theorem emB_v {B : St} {p k : Nat} (hp : p < 30) : emB B (nI p) k = b2I (bI9 (B.1 25 k) p ^^ bI9 (B.1 25 k) (p + 1)) := by
  unfold emB
  rw [bit1 (by omega), nI_1, bit1 (by omega)]
  cases bI9 (B.1 25 k) p <;> cases bI9 (B.1 25 k) (p + 1) <;> decide
theorem bl_lt : ∀ m, m < 64 → m < 2 ^ bl 6 m ∧ bl 6 m ≤ 6 := by decide +kernel
theorem gray_hi {m g p : Nat} (hm : m < 64) (hg : g ≤ m) (hp : bl 6 m ≤ p) (hp2 : p < 31) : bI9 (nI g ^^^ nI g >>> (1 &&& 31)) p = false := by
  obtain ⟨h1, h2⟩ := bl_lt m hm
  have hz : ∀ q, bl 6 m ≤ q → bI9 (nI g) q = false := by
    intro q hq
    rw [bI_nI, Nat.testBit_lt_two_pow (Nat.lt_of_lt_of_le (show g < 2 ^ bl 6 m by omega) (Nat.pow_le_pow_right (by decide) hq))]
    simp
  rw [gray_bit hp2, hz p hp, hz (p + 1) (by omega)]
  rfl
