/-! the reference: row -/
def rwF (b : Nat) (word : Int32) (i : Nat) (x : St × Int32) : St × Int32 :=
  if word >>> (nI i &&& 31) &&& 1 = 1 then (puI x.1 22 (32 * b + i) (vp_nar .boolean 1), x.2 + (if x.1.1 22 (32 * b + i) = 1 then 0 else 1)) else (puI x.1 22 (32 * b + i) (vp_nar .boolean 0), x.2 + (if x.1.1 22 (32 * b + i) = 0 then 0 else 1))
def rwG (S : St) (b : Nat) (word : Int32) (w : Nat) : St × Int32 := nF (rwF b word) w (puI S 21 0 0, 0)
def rwM (S : St) (y word : Int32) (w : Nat) : St × Int32 := if wi y 0 (S.1 21 2 - 1) = 0 then (puI S 21 0 1, 0) else rwG S y.toNatClampNeg word w
theorem rwF_o {b i : Nat} {word : Int32} {x : St × Int32} {o : Nat} (h : o ≠ 22) : (rwF b word i x).1.1 o = x.1.1 o ∧ (rwF b word i x).1.2 = x.1.2 := by
  unfold rwF
  split
  · exact ⟨puI_o h, rfl⟩
  · exact ⟨puI_o h, rfl⟩
theorem rwN_o {b : Nat} {word : Int32} {x : St × Int32} {o : Nat} (h : o ≠ 22) (i : Nat) : (nF (rwF b word) i x).1.1 o = x.1.1 o ∧ (nF (rwF b word) i x).1.2 = x.1.2 :=
  nF_inv (fun T => T.1.1 o = x.1.1 o ∧ T.1.2 = x.1.2) (fun i T hT => ⟨(rwF_o h).1.trans hT.1, (rwF_o h).2.trans hT.2⟩) i x ⟨rfl, rfl⟩
set_option maxHeartbeats 4000000 in
set_option maxRecDepth 40000 in
theorem k_M_rowL {l : Launch} {h : Nat} {S : St} {b w : Nat} {word : Int32} (hw : S.1 21 1 = nI w) (hw2 : w ≤ 32) (hb : b < 32) : E0 l (SHm h) (1, 22) m_M_row 28 [some (aR 21), some (aI (nI b)), some (aI word), some (aI 0), some (aI 0), none] [] (puI S 21 0 0) (ans (some (aI (rwG S b word w).2)) (rwG S b word w).1) := by
  have hwn : ∀ n, (nF (rwF b word) n (puI S 21 0 0, 0)).1.1 21 1 = nI w := fun n => by rw [(rwN_o (by decide) n).1]; simpa [puI, pt, upd] using hw
  have hco : ∀ n, (nF (rwF b word) n (puI S 21 0 0, 0)).1.1 21 0 = 0 := fun n => by rw [(rwN_o (by decide) n).1]; simp [puI, pt, upd]
  have L1 := e_for (P := fun n => ∀ z5, E0 l (SHm h) (1, 22) m_M_row 28 [some (aR 21), some (aI (nI b)), some (aI word), some (aI (nF (rwF b word) n (puI S 21 0 0, 0)).2), some (aI (nI n)), z5] [] ((nF (rwF b word) n (puI S 21 0 0, 0)).1) (ans (some (aI (rwG S b word w).2)) (rwG S b word w).1)) (w) (by
      intro z5
      iterate 3 refine e_sp rfl rfl rfl ?_
      refine e_icge rfl (fun h1 => ?_) (fun h1 => ?_)
      · iterate 1 refine e_sp rfl rfl rfl ?_
        refine e_iret rfl rfl (Nat.le_refl _) (Nat.le_refl _) ?_
        exact ⟨rfl, rfl⟩
      · try dsimp only
        rw [hwn] at h1
        exact absurd (nI_le (Nat.le_refl _) (by omega)) h1) (fun n hn ihn => by
      intro z5
      iterate 3 refine e_sp rfl rfl rfl ?_
      refine e_icge rfl (fun h1 => ?_) (fun h1 => ?_)
      · try dsimp only
        rw [hwn] at h1
        exact absurd h1 (nI_ge hn (by omega))
      · iterate 2 refine e_sp rfl rfl rfl ?_
        rw [hco]
        refine e_ifne rfl (fun h2 => absurd h2 (by decide)) (fun _ => ?_)
        iterate 3 refine e_sp rfl rfl rfl ?_
        refine e_ci 1 rfl rfl ?_
        iterate 1 refine e_sp rfl rfl rfl ?_
        refine e_ci 1 rfl rfl ?_
        refine e_icne rfl (fun h3 => ?_) (fun h3 => ?_)
        · refine e_ci 0 rfl rfl ?_
          iterate 4 refine e_sp rfl rfl rfl ?_
          refine e_cb 32 rfl rfl ?_
          iterate 4 refine e_sp rfl rfl rfl ?_
          try dsimp only
          rw [ix32]
          refine e_zald rfl (by first | rfl | assumption) (by exact vp_in_nI (show 32 * b + n < 1024 by omega) (by decide)) ?_
          rw [nI_clamp (by omega)]
          iterate 1 refine e_sp rfl rfl rfl ?_
          refine e_iceq rfl (fun h4 => ?_) (fun h4 => ?_)
          · refine e_ci 0 rfl rfl ?_
            iterate 4 refine e_sp rfl rfl rfl ?_
            refine e_cb 32 rfl rfl ?_
            iterate 5 refine e_sp rfl rfl rfl ?_
            try dsimp only
            rw [ix32]
            refine e_zast rfl (by first | rfl | assumption) (by exact vp_in_nI (show 32 * b + n < 1024 by omega) (by decide)) ?_
            rw [nI_clamp (by omega)]
            refine e_inc 1 rfl rfl rfl rfl ?_
            refine e_goto rfl ?_
            try dsimp only
            rw [nI_1]
            simp only [nF] at ihn
            rw [rwF] at ihn
            (first | rw [if_pos h3] at ihn | rw [if_neg h3] at ihn)
            (first | rw [if_pos h4] at ihn | rw [if_neg h4] at ihn)
            exact ihn _
          · refine e_ci 1 rfl rfl ?_
            refine e_goto rfl ?_
            iterate 4 refine e_sp rfl rfl rfl ?_
            refine e_cb 32 rfl rfl ?_
            iterate 5 refine e_sp rfl rfl rfl ?_
            try dsimp only
            rw [ix32]
            refine e_zast rfl (by first | rfl | assumption) (by exact vp_in_nI (show 32 * b + n < 1024 by omega) (by decide)) ?_
            rw [nI_clamp (by omega)]
            refine e_inc 1 rfl rfl rfl rfl ?_
            refine e_goto rfl ?_
            try dsimp only
            rw [nI_1]
            simp only [nF] at ihn
            rw [rwF] at ihn
            (first | rw [if_pos h3] at ihn | rw [if_neg h3] at ihn)
            (first | rw [if_pos h4] at ihn | rw [if_neg h4] at ihn)
            exact ihn _
        · refine e_ci 1 rfl rfl ?_
          refine e_goto rfl ?_
          iterate 4 refine e_sp rfl rfl rfl ?_
          refine e_cb 32 rfl rfl ?_
          iterate 4 refine e_sp rfl rfl rfl ?_
          try dsimp only
          rw [ix32]
          refine e_zald rfl (by first | rfl | assumption) (by exact vp_in_nI (show 32 * b + n < 1024 by omega) (by decide)) ?_
          rw [nI_clamp (by omega)]
          iterate 1 refine e_sp rfl rfl rfl ?_
          refine e_iceq rfl (fun h5 => ?_) (fun h5 => ?_)
          · refine e_ci 0 rfl rfl ?_
            iterate 4 refine e_sp rfl rfl rfl ?_
            refine e_cb 32 rfl rfl ?_
            iterate 5 refine e_sp rfl rfl rfl ?_
            try dsimp only
            rw [ix32]
            refine e_zast rfl (by first | rfl | assumption) (by exact vp_in_nI (show 32 * b + n < 1024 by omega) (by decide)) ?_
            rw [nI_clamp (by omega)]
            refine e_inc 1 rfl rfl rfl rfl ?_
            refine e_goto rfl ?_
            try dsimp only
            rw [nI_1]
            simp only [nF] at ihn
            rw [rwF] at ihn
            (first | rw [if_pos h3] at ihn | rw [if_neg h3] at ihn)
            (first | rw [if_pos h5] at ihn | rw [if_neg h5] at ihn)
            exact ihn _
          · refine e_ci 1 rfl rfl ?_
            refine e_goto rfl ?_
            iterate 4 refine e_sp rfl rfl rfl ?_
            refine e_cb 32 rfl rfl ?_
            iterate 5 refine e_sp rfl rfl rfl ?_
            try dsimp only
            rw [ix32]
            refine e_zast rfl (by first | rfl | assumption) (by exact vp_in_nI (show 32 * b + n < 1024 by omega) (by decide)) ?_
            rw [nI_clamp (by omega)]
            refine e_inc 1 rfl rfl rfl rfl ?_
            refine e_goto rfl ?_
            try dsimp only
            rw [nI_1]
            simp only [nF] at ihn
            rw [rwF] at ihn
            (first | rw [if_pos h3] at ihn | rw [if_neg h3] at ihn)
            (first | rw [if_pos h5] at ihn | rw [if_neg h5] at ihn)
            exact ihn _)
  exact L1 none
set_option maxHeartbeats 4000000 in
set_option maxRecDepth 40000 in
theorem k_M_rowX {l : Launch} {h : Nat} {S : St} {y word : Int32} {w : Nat} (hw : S.1 21 1 = nI w) (hw2 : w ≤ 32) : E0 l (SHm h) (1, 22) m_M_row 28 [some (aR 21), some (aI y), some (aI word), some (aI 0), some (aI 0), none] [] (puI S 21 0 1) (ans (some (aI 0)) (puI S 21 0 1)) := by
  iterate 3 refine e_sp rfl rfl rfl ?_
  refine e_icge rfl (fun h1 => ?_) (fun h1 => ?_)
  · iterate 1 refine e_sp rfl rfl rfl ?_
    refine e_iret rfl rfl (Nat.le_refl _) (Nat.le_refl _) ?_
    exact ⟨rfl, rfl⟩
  · iterate 2 refine e_sp rfl rfl rfl ?_
    refine e_ifne rfl (fun h2 => ?_) (fun h2 => ?_)
    · iterate 1 refine e_sp rfl rfl rfl ?_
      refine e_iret rfl rfl (Nat.le_refl _) (Nat.le_refl _) ?_
      exact ⟨rfl, rfl⟩
    · try dsimp only
      exact absurd h2 (by simp [puI, pt, upd])
set_option maxHeartbeats 4000000 in
set_option maxRecDepth 40000 in
theorem k_M_row {l : Launch} {h : Nat} {S : St} {y word : Int32} {w g : Nat} (hw : S.1 21 1 = nI w) (hg : S.1 21 2 = nI g) (hw2 : w ≤ 32) (hg2 : g ≤ 32) : KK l (SHm h) (1, 22) m_M_row [aR 21, aI y, aI word] S (ans (some (aI (rwM S y word w).2)) (rwM S y word w).1) := by
  refine k_start ok_M_row (Nat.le_of_ble_eq_true rfl) ?_
  iterate 2 refine e_sp rfl rfl rfl ?_
  refine e_ci 0 rfl rfl ?_
  iterate 2 refine e_sp rfl rfl rfl ?_
  refine e_ci 1 rfl rfl ?_
  iterate 1 refine e_sp rfl rfl rfl ?_
  refine e_callS1 ok_M_in rfl lk_M_110 k_M_in rfl rfl ⟨Nat.le_of_ble_eq_true rfl, Nat.le_of_ble_eq_true rfl⟩ ⟨Nat.zero_le _, Nat.zero_le _⟩ (Nat.le_of_ble_eq_true rfl) ?_
  refine e_ifeq rfl (fun h1 => ?_) (fun h1 => ?_)
  · refine e_ci 1 rfl rfl ?_
    iterate 1 refine e_sp rfl rfl rfl ?_
    refine e_ci 0 rfl rfl ?_
    iterate 1 refine e_sp rfl rfl rfl ?_
    refine e_ci 0 rfl rfl ?_
    iterate 1 refine e_sp rfl rfl rfl ?_
    try dsimp only
    rw [rwM]
    first | (rw [if_pos h1]; exact k_M_rowX hw hw2) | (rw [if_neg h1]; obtain ⟨b, hb, rfl⟩ := wi_nat (by omega) (show ¬ wi y 0 (nI g - 1) = 0 from hg ▸ h1); rw [nI_clamp (by omega)]; exact k_M_rowL hw hw2 (by omega))
  · refine e_ci 0 rfl rfl ?_
    refine e_goto rfl ?_
    iterate 1 refine e_sp rfl rfl rfl ?_
    refine e_ci 0 rfl rfl ?_
    iterate 1 refine e_sp rfl rfl rfl ?_
    refine e_ci 0 rfl rfl ?_
    iterate 1 refine e_sp rfl rfl rfl ?_
    try dsimp only
    rw [rwM]
    first | (rw [if_pos h1]; exact k_M_rowX hw hw2) | (rw [if_neg h1]; obtain ⟨b, hb, rfl⟩ := wi_nat (by omega) (show ¬ wi y 0 (nI g - 1) = 0 from hg ▸ h1); rw [nI_clamp (by omega)]; exact k_M_rowL hw hw2 (by omega))
/-! nearest, shade -/
def awM (e c : Int32) : Int32 := if c ≤ e then e - c else c - e
def nrF (S : St) (c : Int32) (i b : Nat) : Nat :=
  if awM (dkM S (i + 1)) c < awM (dkM S b) c then i + 1 else if awM (dkM S (i + 1)) c = awM (dkM S b) c then (if dkM S b ≤ dkM S (i + 1) then b else i + 1) else b
def nrM (S : St) (c : Int32) (m : Nat) : Nat := nF (nrF S c) m 0
theorem nrN_le (S : St) (c : Int32) : ∀ i, nF (nrF S c) i 0 ≤ i
  | 0 => Nat.le_refl _
  | i + 1 => by
    have h := nrN_le S c i
    show nrF S c i (nF (nrF S c) i 0) ≤ i + 1
    generalize nF (nrF S c) i 0 = b at h ⊢
    unfold nrF
    split
    · exact Nat.le_refl _
    · split
      · split
        · omega
        · exact Nat.le_refl _
      · omega
set_option maxHeartbeats 4000000 in
set_option maxRecDepth 40000 in
theorem k_M_nearest {l : Launch} {h : Nat} {S : St} {c : Int32} {m : Nat} (hm : S.1 21 7 = nI (m + 1)) (hm2 : m < 64) : KK l (SHm h) (1, 23) m_M_nearest [aR 21, aI c] S (ans (some (aI (nI (nrM S c m)))) S) := by
  refine k_start ok_M_nearest (Nat.le_of_ble_eq_true rfl) ?_
  have L1 := e_for (P := fun n => ∀ z4 z5, E0 l (SHm h) (1, 23) m_M_nearest 4 [some (aR 21), some (aI c), some (aI (nI (nF (nrF S c) n 0))), some (aI (nI (n + 1))), z4, z5] [] (S) (ans (some (aI (nI (nrM S c m)))) S)) (m) (by
      intro z4 z5
      iterate 3 refine e_sp rfl rfl rfl ?_
      refine e_icge rfl (fun h1 => ?_) (fun h1 => ?_)
      · iterate 1 refine e_sp rfl rfl rfl ?_
        refine e_iret rfl rfl (Nat.le_refl _) (Nat.le_refl _) ?_
        exact ⟨rfl, rfl⟩
      · try dsimp only
        rw [hm] at h1
        exact absurd (nI_le (Nat.le_refl _) (by omega)) h1) (fun n hn ihn => by
      intro z4 z5
      iterate 3 refine e_sp rfl rfl rfl ?_
      refine e_icge rfl (fun h1 => ?_) (fun h1 => ?_)
      · try dsimp only
        rw [hm] at h1
        exact absurd h1 (nI_ge (show n + 1 < m + 1 by omega) (by omega))
      · iterate 2 refine e_sp rfl rfl rfl ?_
        refine e_callV1 ok_M_darkIn rfl lk_M_150 (by rfl) (by rfl) (k_M_darkIn (k := (nF (nrF S c) n 0)) (Nat.lt_of_le_of_lt (nrN_le S c n) (by omega))) rfl rfl ⟨Nat.le_of_ble_eq_true rfl, Nat.le_of_ble_eq_true rfl⟩ ⟨Nat.zero_le _, Nat.zero_le _⟩ (Nat.le_of_ble_eq_true rfl) ?_
        iterate 1 refine e_sp rfl rfl rfl ?_
        refine e_icge rfl (fun h2 => ?_) (fun h2 => ?_)
        · iterate 2 refine e_sp rfl rfl rfl ?_
          refine e_callV1 ok_M_darkIn rfl lk_M_150 (by rfl) (by rfl) (k_M_darkIn (k := (nF (nrF S c) n 0)) (Nat.lt_of_le_of_lt (nrN_le S c n) (by omega))) rfl rfl ⟨Nat.le_of_ble_eq_true rfl, Nat.le_of_ble_eq_true rfl⟩ ⟨Nat.zero_le _, Nat.zero_le _⟩ (Nat.le_of_ble_eq_true rfl) ?_
          iterate 5 refine e_sp rfl rfl rfl ?_
          refine e_callV1 ok_M_darkIn rfl lk_M_150 (by rfl) (by rfl) (k_M_darkIn (k := n + 1) (by omega)) rfl rfl ⟨Nat.le_of_ble_eq_true rfl, Nat.le_of_ble_eq_true rfl⟩ ⟨Nat.zero_le _, Nat.zero_le _⟩ (Nat.le_of_ble_eq_true rfl) ?_
          iterate 1 refine e_sp rfl rfl rfl ?_
          refine e_icge rfl (fun h3 => ?_) (fun h3 => ?_)
          · iterate 2 refine e_sp rfl rfl rfl ?_
            refine e_callV1 ok_M_darkIn rfl lk_M_150 (by rfl) (by rfl) (k_M_darkIn (k := n + 1) (by omega)) rfl rfl ⟨Nat.le_of_ble_eq_true rfl, Nat.le_of_ble_eq_true rfl⟩ ⟨Nat.zero_le _, Nat.zero_le _⟩ (Nat.le_of_ble_eq_true rfl) ?_
            iterate 5 refine e_sp rfl rfl rfl ?_
            refine e_iclt rfl (fun h4 => ?_) (fun h4 => ?_)
            · iterate 1 refine e_sp rfl rfl rfl ?_
              refine e_goto rfl ?_
              iterate 1 refine e_sp rfl rfl rfl ?_
              refine e_inc 1 rfl rfl rfl rfl ?_
              refine e_goto rfl ?_
              try dsimp only
              rw [nI_1]
              simp only [nF] at ihn
              rw [nrF] at ihn
              have eA : awM (dkM S (nF (nrF S c) n 0)) c = if c ≤ dkM S (nF (nrF S c) n 0) then dkM S (nF (nrF S c) n 0) - c else c - dkM S (nF (nrF S c) n 0) := rfl
              first | rw [if_pos h2] at eA | rw [if_neg h2] at eA
              have eB : awM (dkM S (n + 1)) c = if c ≤ dkM S (n + 1) then dkM S (n + 1) - c else c - dkM S (n + 1) := rfl
              first | rw [if_pos h3] at eB | rw [if_neg h3] at eB
              rw [eA, eB] at ihn
              (first | rw [if_pos h4] at ihn | rw [if_neg h4] at ihn)
              exact ihn _ _
            · iterate 2 refine e_sp rfl rfl rfl ?_
              refine e_icne rfl (fun h5 => ?_) (fun h5 => ?_)
              · iterate 2 refine e_sp rfl rfl rfl ?_
                refine e_inc 1 rfl rfl rfl rfl ?_
                refine e_goto rfl ?_
                try dsimp only
                rw [nI_1]
                simp only [nF] at ihn
                rw [nrF] at ihn
                have eA : awM (dkM S (nF (nrF S c) n 0)) c = if c ≤ dkM S (nF (nrF S c) n 0) then dkM S (nF (nrF S c) n 0) - c else c - dkM S (nF (nrF S c) n 0) := rfl
                first | rw [if_pos h2] at eA | rw [if_neg h2] at eA
                have eB : awM (dkM S (n + 1)) c = if c ≤ dkM S (n + 1) then dkM S (n + 1) - c else c - dkM S (n + 1) := rfl
                first | rw [if_pos h3] at eB | rw [if_neg h3] at eB
                rw [eA, eB] at ihn
                (first | rw [if_pos h4] at ihn | rw [if_neg h4] at ihn)
                (first | rw [if_pos h5] at ihn | rw [if_neg h5] at ihn)
                exact ihn _ _
              · iterate 2 refine e_sp rfl rfl rfl ?_
                refine e_callV1 ok_M_darkIn rfl lk_M_150 (by rfl) (by rfl) (k_M_darkIn (k := n + 1) (by omega)) rfl rfl ⟨Nat.le_of_ble_eq_true rfl, Nat.le_of_ble_eq_true rfl⟩ ⟨Nat.zero_le _, Nat.zero_le _⟩ (Nat.le_of_ble_eq_true rfl) ?_
                iterate 2 refine e_sp rfl rfl rfl ?_
                refine e_callV1 ok_M_darkIn rfl lk_M_150 (by rfl) (by rfl) (k_M_darkIn (k := (nF (nrF S c) n 0)) (Nat.lt_of_le_of_lt (nrN_le S c n) (by omega))) rfl rfl ⟨Nat.le_of_ble_eq_true rfl, Nat.le_of_ble_eq_true rfl⟩ ⟨Nat.zero_le _, Nat.zero_le _⟩ (Nat.le_of_ble_eq_true rfl) ?_
                refine e_icge rfl (fun h6 => ?_) (fun h6 => ?_)
                · iterate 2 refine e_sp rfl rfl rfl ?_
                  refine e_inc 1 rfl rfl rfl rfl ?_
                  refine e_goto rfl ?_
                  try dsimp only
                  rw [nI_1]
                  simp only [nF] at ihn
                  rw [nrF] at ihn
                  have eA : awM (dkM S (nF (nrF S c) n 0)) c = if c ≤ dkM S (nF (nrF S c) n 0) then dkM S (nF (nrF S c) n 0) - c else c - dkM S (nF (nrF S c) n 0) := rfl
                  first | rw [if_pos h2] at eA | rw [if_neg h2] at eA
                  have eB : awM (dkM S (n + 1)) c = if c ≤ dkM S (n + 1) then dkM S (n + 1) - c else c - dkM S (n + 1) := rfl
                  first | rw [if_pos h3] at eB | rw [if_neg h3] at eB
                  rw [eA, eB] at ihn
                  (first | rw [if_pos h4] at ihn | rw [if_neg h4] at ihn)
                  (first | rw [if_pos h5] at ihn | rw [if_neg h5] at ihn)
                  (first | rw [if_pos h6] at ihn | rw [if_neg h6] at ihn)
                  exact ihn _ _
                · iterate 1 refine e_sp rfl rfl rfl ?_
                  refine e_goto rfl ?_
                  iterate 1 refine e_sp rfl rfl rfl ?_
                  refine e_inc 1 rfl rfl rfl rfl ?_
                  refine e_goto rfl ?_
                  try dsimp only
                  rw [nI_1]
                  simp only [nF] at ihn
                  rw [nrF] at ihn
                  have eA : awM (dkM S (nF (nrF S c) n 0)) c = if c ≤ dkM S (nF (nrF S c) n 0) then dkM S (nF (nrF S c) n 0) - c else c - dkM S (nF (nrF S c) n 0) := rfl
                  first | rw [if_pos h2] at eA | rw [if_neg h2] at eA
                  have eB : awM (dkM S (n + 1)) c = if c ≤ dkM S (n + 1) then dkM S (n + 1) - c else c - dkM S (n + 1) := rfl
                  first | rw [if_pos h3] at eB | rw [if_neg h3] at eB
                  rw [eA, eB] at ihn
                  (first | rw [if_pos h4] at ihn | rw [if_neg h4] at ihn)
                  (first | rw [if_pos h5] at ihn | rw [if_neg h5] at ihn)
                  (first | rw [if_pos h6] at ihn | rw [if_neg h6] at ihn)
                  exact ihn _ _
          · iterate 3 refine e_sp rfl rfl rfl ?_
            refine e_callV1 ok_M_darkIn rfl lk_M_150 (by rfl) (by rfl) (k_M_darkIn (k := n + 1) (by omega)) rfl rfl ⟨Nat.le_of_ble_eq_true rfl, Nat.le_of_ble_eq_true rfl⟩ ⟨Nat.zero_le _, Nat.zero_le _⟩ (Nat.le_of_ble_eq_true rfl) ?_
            iterate 1 refine e_sp rfl rfl rfl ?_
            refine e_goto rfl ?_
            iterate 3 refine e_sp rfl rfl rfl ?_
            refine e_iclt rfl (fun h7 => ?_) (fun h7 => ?_)
            · iterate 1 refine e_sp rfl rfl rfl ?_
              refine e_goto rfl ?_
              iterate 1 refine e_sp rfl rfl rfl ?_
              refine e_inc 1 rfl rfl rfl rfl ?_
              refine e_goto rfl ?_
              try dsimp only
              rw [nI_1]
              simp only [nF] at ihn
              rw [nrF] at ihn
              have eA : awM (dkM S (nF (nrF S c) n 0)) c = if c ≤ dkM S (nF (nrF S c) n 0) then dkM S (nF (nrF S c) n 0) - c else c - dkM S (nF (nrF S c) n 0) := rfl
              first | rw [if_pos h2] at eA | rw [if_neg h2] at eA
              have eB : awM (dkM S (n + 1)) c = if c ≤ dkM S (n + 1) then dkM S (n + 1) - c else c - dkM S (n + 1) := rfl
              first | rw [if_pos h3] at eB | rw [if_neg h3] at eB
              rw [eA, eB] at ihn
              (first | rw [if_pos h7] at ihn | rw [if_neg h7] at ihn)
              exact ihn _ _
            · iterate 2 refine e_sp rfl rfl rfl ?_
              refine e_icne rfl (fun h8 => ?_) (fun h8 => ?_)
              · iterate 2 refine e_sp rfl rfl rfl ?_
                refine e_inc 1 rfl rfl rfl rfl ?_
                refine e_goto rfl ?_
                try dsimp only
                rw [nI_1]
                simp only [nF] at ihn
                rw [nrF] at ihn
                have eA : awM (dkM S (nF (nrF S c) n 0)) c = if c ≤ dkM S (nF (nrF S c) n 0) then dkM S (nF (nrF S c) n 0) - c else c - dkM S (nF (nrF S c) n 0) := rfl
                first | rw [if_pos h2] at eA | rw [if_neg h2] at eA
                have eB : awM (dkM S (n + 1)) c = if c ≤ dkM S (n + 1) then dkM S (n + 1) - c else c - dkM S (n + 1) := rfl
                first | rw [if_pos h3] at eB | rw [if_neg h3] at eB
                rw [eA, eB] at ihn
                (first | rw [if_pos h7] at ihn | rw [if_neg h7] at ihn)
                (first | rw [if_pos h8] at ihn | rw [if_neg h8] at ihn)
                exact ihn _ _
              · iterate 2 refine e_sp rfl rfl rfl ?_
                refine e_callV1 ok_M_darkIn rfl lk_M_150 (by rfl) (by rfl) (k_M_darkIn (k := n + 1) (by omega)) rfl rfl ⟨Nat.le_of_ble_eq_true rfl, Nat.le_of_ble_eq_true rfl⟩ ⟨Nat.zero_le _, Nat.zero_le _⟩ (Nat.le_of_ble_eq_true rfl) ?_
                iterate 2 refine e_sp rfl rfl rfl ?_
                refine e_callV1 ok_M_darkIn rfl lk_M_150 (by rfl) (by rfl) (k_M_darkIn (k := (nF (nrF S c) n 0)) (Nat.lt_of_le_of_lt (nrN_le S c n) (by omega))) rfl rfl ⟨Nat.le_of_ble_eq_true rfl, Nat.le_of_ble_eq_true rfl⟩ ⟨Nat.zero_le _, Nat.zero_le _⟩ (Nat.le_of_ble_eq_true rfl) ?_
                refine e_icge rfl (fun h9 => ?_) (fun h9 => ?_)
                · iterate 2 refine e_sp rfl rfl rfl ?_
                  refine e_inc 1 rfl rfl rfl rfl ?_
                  refine e_goto rfl ?_
                  try dsimp only
                  rw [nI_1]
                  simp only [nF] at ihn
                  rw [nrF] at ihn
                  have eA : awM (dkM S (nF (nrF S c) n 0)) c = if c ≤ dkM S (nF (nrF S c) n 0) then dkM S (nF (nrF S c) n 0) - c else c - dkM S (nF (nrF S c) n 0) := rfl
                  first | rw [if_pos h2] at eA | rw [if_neg h2] at eA
                  have eB : awM (dkM S (n + 1)) c = if c ≤ dkM S (n + 1) then dkM S (n + 1) - c else c - dkM S (n + 1) := rfl
                  first | rw [if_pos h3] at eB | rw [if_neg h3] at eB
                  rw [eA, eB] at ihn
                  (first | rw [if_pos h7] at ihn | rw [if_neg h7] at ihn)
                  (first | rw [if_pos h8] at ihn | rw [if_neg h8] at ihn)
                  (first | rw [if_pos h9] at ihn | rw [if_neg h9] at ihn)
                  exact ihn _ _
                · iterate 1 refine e_sp rfl rfl rfl ?_
                  refine e_goto rfl ?_
                  iterate 1 refine e_sp rfl rfl rfl ?_
                  refine e_inc 1 rfl rfl rfl rfl ?_
                  refine e_goto rfl ?_
                  try dsimp only
                  rw [nI_1]
                  simp only [nF] at ihn
                  rw [nrF] at ihn
                  have eA : awM (dkM S (nF (nrF S c) n 0)) c = if c ≤ dkM S (nF (nrF S c) n 0) then dkM S (nF (nrF S c) n 0) - c else c - dkM S (nF (nrF S c) n 0) := rfl
                  first | rw [if_pos h2] at eA | rw [if_neg h2] at eA
                  have eB : awM (dkM S (n + 1)) c = if c ≤ dkM S (n + 1) then dkM S (n + 1) - c else c - dkM S (n + 1) := rfl
                  first | rw [if_pos h3] at eB | rw [if_neg h3] at eB
                  rw [eA, eB] at ihn
                  (first | rw [if_pos h7] at ihn | rw [if_neg h7] at ihn)
                  (first | rw [if_pos h8] at ihn | rw [if_neg h8] at ihn)
                  (first | rw [if_pos h9] at ihn | rw [if_neg h9] at ihn)
                  exact ihn _ _
        · iterate 3 refine e_sp rfl rfl rfl ?_
          refine e_callV1 ok_M_darkIn rfl lk_M_150 (by rfl) (by rfl) (k_M_darkIn (k := (nF (nrF S c) n 0)) (Nat.lt_of_le_of_lt (nrN_le S c n) (by omega))) rfl rfl ⟨Nat.le_of_ble_eq_true rfl, Nat.le_of_ble_eq_true rfl⟩ ⟨Nat.zero_le _, Nat.zero_le _⟩ (Nat.le_of_ble_eq_true rfl) ?_
          iterate 1 refine e_sp rfl rfl rfl ?_
          refine e_goto rfl ?_
          iterate 3 refine e_sp rfl rfl rfl ?_
          refine e_callV1 ok_M_darkIn rfl lk_M_150 (by rfl) (by rfl) (k_M_darkIn (k := n + 1) (by omega)) rfl rfl ⟨Nat.le_of_ble_eq_true rfl, Nat.le_of_ble_eq_true rfl⟩ ⟨Nat.zero_le _, Nat.zero_le _⟩ (Nat.le_of_ble_eq_true rfl) ?_
          iterate 1 refine e_sp rfl rfl rfl ?_
          refine e_icge rfl (fun h10 => ?_) (fun h10 => ?_)
          · iterate 2 refine e_sp rfl rfl rfl ?_
            refine e_callV1 ok_M_darkIn rfl lk_M_150 (by rfl) (by rfl) (k_M_darkIn (k := n + 1) (by omega)) rfl rfl ⟨Nat.le_of_ble_eq_true rfl, Nat.le_of_ble_eq_true rfl⟩ ⟨Nat.zero_le _, Nat.zero_le _⟩ (Nat.le_of_ble_eq_true rfl) ?_
            iterate 5 refine e_sp rfl rfl rfl ?_
            refine e_iclt rfl (fun h11 => ?_) (fun h11 => ?_)
            · iterate 1 refine e_sp rfl rfl rfl ?_
              refine e_goto rfl ?_
              iterate 1 refine e_sp rfl rfl rfl ?_
              refine e_inc 1 rfl rfl rfl rfl ?_
              refine e_goto rfl ?_
              try dsimp only
              rw [nI_1]
              simp only [nF] at ihn
              rw [nrF] at ihn
              have eA : awM (dkM S (nF (nrF S c) n 0)) c = if c ≤ dkM S (nF (nrF S c) n 0) then dkM S (nF (nrF S c) n 0) - c else c - dkM S (nF (nrF S c) n 0) := rfl
              first | rw [if_pos h2] at eA | rw [if_neg h2] at eA
              have eB : awM (dkM S (n + 1)) c = if c ≤ dkM S (n + 1) then dkM S (n + 1) - c else c - dkM S (n + 1) := rfl
              first | rw [if_pos h10] at eB | rw [if_neg h10] at eB
              rw [eA, eB] at ihn
              (first | rw [if_pos h11] at ihn | rw [if_neg h11] at ihn)
              exact ihn _ _
            · iterate 2 refine e_sp rfl rfl rfl ?_
              refine e_icne rfl (fun h12 => ?_) (fun h12 => ?_)
              · iterate 2 refine e_sp rfl rfl rfl ?_
                refine e_inc 1 rfl rfl rfl rfl ?_
                refine e_goto rfl ?_
                try dsimp only
                rw [nI_1]
                simp only [nF] at ihn
                rw [nrF] at ihn
                have eA : awM (dkM S (nF (nrF S c) n 0)) c = if c ≤ dkM S (nF (nrF S c) n 0) then dkM S (nF (nrF S c) n 0) - c else c - dkM S (nF (nrF S c) n 0) := rfl
                first | rw [if_pos h2] at eA | rw [if_neg h2] at eA
                have eB : awM (dkM S (n + 1)) c = if c ≤ dkM S (n + 1) then dkM S (n + 1) - c else c - dkM S (n + 1) := rfl
                first | rw [if_pos h10] at eB | rw [if_neg h10] at eB
                rw [eA, eB] at ihn
                (first | rw [if_pos h11] at ihn | rw [if_neg h11] at ihn)
                (first | rw [if_pos h12] at ihn | rw [if_neg h12] at ihn)
                exact ihn _ _
              · iterate 2 refine e_sp rfl rfl rfl ?_
                refine e_callV1 ok_M_darkIn rfl lk_M_150 (by rfl) (by rfl) (k_M_darkIn (k := n + 1) (by omega)) rfl rfl ⟨Nat.le_of_ble_eq_true rfl, Nat.le_of_ble_eq_true rfl⟩ ⟨Nat.zero_le _, Nat.zero_le _⟩ (Nat.le_of_ble_eq_true rfl) ?_
                iterate 2 refine e_sp rfl rfl rfl ?_
                refine e_callV1 ok_M_darkIn rfl lk_M_150 (by rfl) (by rfl) (k_M_darkIn (k := (nF (nrF S c) n 0)) (Nat.lt_of_le_of_lt (nrN_le S c n) (by omega))) rfl rfl ⟨Nat.le_of_ble_eq_true rfl, Nat.le_of_ble_eq_true rfl⟩ ⟨Nat.zero_le _, Nat.zero_le _⟩ (Nat.le_of_ble_eq_true rfl) ?_
                refine e_icge rfl (fun h13 => ?_) (fun h13 => ?_)
                · iterate 2 refine e_sp rfl rfl rfl ?_
                  refine e_inc 1 rfl rfl rfl rfl ?_
                  refine e_goto rfl ?_
                  try dsimp only
                  rw [nI_1]
                  simp only [nF] at ihn
                  rw [nrF] at ihn
                  have eA : awM (dkM S (nF (nrF S c) n 0)) c = if c ≤ dkM S (nF (nrF S c) n 0) then dkM S (nF (nrF S c) n 0) - c else c - dkM S (nF (nrF S c) n 0) := rfl
                  first | rw [if_pos h2] at eA | rw [if_neg h2] at eA
                  have eB : awM (dkM S (n + 1)) c = if c ≤ dkM S (n + 1) then dkM S (n + 1) - c else c - dkM S (n + 1) := rfl
                  first | rw [if_pos h10] at eB | rw [if_neg h10] at eB
                  rw [eA, eB] at ihn
                  (first | rw [if_pos h11] at ihn | rw [if_neg h11] at ihn)
                  (first | rw [if_pos h12] at ihn | rw [if_neg h12] at ihn)
                  (first | rw [if_pos h13] at ihn | rw [if_neg h13] at ihn)
                  exact ihn _ _
                · iterate 1 refine e_sp rfl rfl rfl ?_
                  refine e_goto rfl ?_
                  iterate 1 refine e_sp rfl rfl rfl ?_
                  refine e_inc 1 rfl rfl rfl rfl ?_
                  refine e_goto rfl ?_
                  try dsimp only
                  rw [nI_1]
                  simp only [nF] at ihn
                  rw [nrF] at ihn
                  have eA : awM (dkM S (nF (nrF S c) n 0)) c = if c ≤ dkM S (nF (nrF S c) n 0) then dkM S (nF (nrF S c) n 0) - c else c - dkM S (nF (nrF S c) n 0) := rfl
                  first | rw [if_pos h2] at eA | rw [if_neg h2] at eA
                  have eB : awM (dkM S (n + 1)) c = if c ≤ dkM S (n + 1) then dkM S (n + 1) - c else c - dkM S (n + 1) := rfl
                  first | rw [if_pos h10] at eB | rw [if_neg h10] at eB
                  rw [eA, eB] at ihn
                  (first | rw [if_pos h11] at ihn | rw [if_neg h11] at ihn)
                  (first | rw [if_pos h12] at ihn | rw [if_neg h12] at ihn)
                  (first | rw [if_pos h13] at ihn | rw [if_neg h13] at ihn)
                  exact ihn _ _
          · iterate 3 refine e_sp rfl rfl rfl ?_
            refine e_callV1 ok_M_darkIn rfl lk_M_150 (by rfl) (by rfl) (k_M_darkIn (k := n + 1) (by omega)) rfl rfl ⟨Nat.le_of_ble_eq_true rfl, Nat.le_of_ble_eq_true rfl⟩ ⟨Nat.zero_le _, Nat.zero_le _⟩ (Nat.le_of_ble_eq_true rfl) ?_
            iterate 1 refine e_sp rfl rfl rfl ?_
            refine e_goto rfl ?_
            iterate 3 refine e_sp rfl rfl rfl ?_
            refine e_iclt rfl (fun h14 => ?_) (fun h14 => ?_)
            · iterate 1 refine e_sp rfl rfl rfl ?_
              refine e_goto rfl ?_
              iterate 1 refine e_sp rfl rfl rfl ?_
              refine e_inc 1 rfl rfl rfl rfl ?_
              refine e_goto rfl ?_
              try dsimp only
              rw [nI_1]
              simp only [nF] at ihn
              rw [nrF] at ihn
              have eA : awM (dkM S (nF (nrF S c) n 0)) c = if c ≤ dkM S (nF (nrF S c) n 0) then dkM S (nF (nrF S c) n 0) - c else c - dkM S (nF (nrF S c) n 0) := rfl
              first | rw [if_pos h2] at eA | rw [if_neg h2] at eA
              have eB : awM (dkM S (n + 1)) c = if c ≤ dkM S (n + 1) then dkM S (n + 1) - c else c - dkM S (n + 1) := rfl
              first | rw [if_pos h10] at eB | rw [if_neg h10] at eB
              rw [eA, eB] at ihn
              (first | rw [if_pos h14] at ihn | rw [if_neg h14] at ihn)
              exact ihn _ _
            · iterate 2 refine e_sp rfl rfl rfl ?_
              refine e_icne rfl (fun h15 => ?_) (fun h15 => ?_)
              · iterate 2 refine e_sp rfl rfl rfl ?_
                refine e_inc 1 rfl rfl rfl rfl ?_
                refine e_goto rfl ?_
                try dsimp only
                rw [nI_1]
                simp only [nF] at ihn
                rw [nrF] at ihn
                have eA : awM (dkM S (nF (nrF S c) n 0)) c = if c ≤ dkM S (nF (nrF S c) n 0) then dkM S (nF (nrF S c) n 0) - c else c - dkM S (nF (nrF S c) n 0) := rfl
                first | rw [if_pos h2] at eA | rw [if_neg h2] at eA
                have eB : awM (dkM S (n + 1)) c = if c ≤ dkM S (n + 1) then dkM S (n + 1) - c else c - dkM S (n + 1) := rfl
                first | rw [if_pos h10] at eB | rw [if_neg h10] at eB
                rw [eA, eB] at ihn
                (first | rw [if_pos h14] at ihn | rw [if_neg h14] at ihn)
                (first | rw [if_pos h15] at ihn | rw [if_neg h15] at ihn)
                exact ihn _ _
              · iterate 2 refine e_sp rfl rfl rfl ?_
                refine e_callV1 ok_M_darkIn rfl lk_M_150 (by rfl) (by rfl) (k_M_darkIn (k := n + 1) (by omega)) rfl rfl ⟨Nat.le_of_ble_eq_true rfl, Nat.le_of_ble_eq_true rfl⟩ ⟨Nat.zero_le _, Nat.zero_le _⟩ (Nat.le_of_ble_eq_true rfl) ?_
                iterate 2 refine e_sp rfl rfl rfl ?_
                refine e_callV1 ok_M_darkIn rfl lk_M_150 (by rfl) (by rfl) (k_M_darkIn (k := (nF (nrF S c) n 0)) (Nat.lt_of_le_of_lt (nrN_le S c n) (by omega))) rfl rfl ⟨Nat.le_of_ble_eq_true rfl, Nat.le_of_ble_eq_true rfl⟩ ⟨Nat.zero_le _, Nat.zero_le _⟩ (Nat.le_of_ble_eq_true rfl) ?_
                refine e_icge rfl (fun h16 => ?_) (fun h16 => ?_)
                · iterate 2 refine e_sp rfl rfl rfl ?_
                  refine e_inc 1 rfl rfl rfl rfl ?_
                  refine e_goto rfl ?_
                  try dsimp only
                  rw [nI_1]
                  simp only [nF] at ihn
                  rw [nrF] at ihn
                  have eA : awM (dkM S (nF (nrF S c) n 0)) c = if c ≤ dkM S (nF (nrF S c) n 0) then dkM S (nF (nrF S c) n 0) - c else c - dkM S (nF (nrF S c) n 0) := rfl
                  first | rw [if_pos h2] at eA | rw [if_neg h2] at eA
                  have eB : awM (dkM S (n + 1)) c = if c ≤ dkM S (n + 1) then dkM S (n + 1) - c else c - dkM S (n + 1) := rfl
                  first | rw [if_pos h10] at eB | rw [if_neg h10] at eB
                  rw [eA, eB] at ihn
                  (first | rw [if_pos h14] at ihn | rw [if_neg h14] at ihn)
                  (first | rw [if_pos h15] at ihn | rw [if_neg h15] at ihn)
                  (first | rw [if_pos h16] at ihn | rw [if_neg h16] at ihn)
                  exact ihn _ _
                · iterate 1 refine e_sp rfl rfl rfl ?_
                  refine e_goto rfl ?_
                  iterate 1 refine e_sp rfl rfl rfl ?_
                  refine e_inc 1 rfl rfl rfl rfl ?_
                  refine e_goto rfl ?_
                  try dsimp only
                  rw [nI_1]
                  simp only [nF] at ihn
                  rw [nrF] at ihn
                  have eA : awM (dkM S (nF (nrF S c) n 0)) c = if c ≤ dkM S (nF (nrF S c) n 0) then dkM S (nF (nrF S c) n 0) - c else c - dkM S (nF (nrF S c) n 0) := rfl
                  first | rw [if_pos h2] at eA | rw [if_neg h2] at eA
                  have eB : awM (dkM S (n + 1)) c = if c ≤ dkM S (n + 1) then dkM S (n + 1) - c else c - dkM S (n + 1) := rfl
                  first | rw [if_pos h10] at eB | rw [if_neg h10] at eB
                  rw [eA, eB] at ihn
                  (first | rw [if_pos h14] at ihn | rw [if_neg h14] at ihn)
                  (first | rw [if_pos h15] at ihn | rw [if_neg h15] at ihn)
                  (first | rw [if_pos h16] at ihn | rw [if_neg h16] at ihn)
                  exact ihn _ _)
  refine e_ci 0 rfl rfl ?_
  iterate 1 refine e_sp rfl rfl rfl ?_
  refine e_ci 1 rfl rfl ?_
  iterate 1 refine e_sp rfl rfl rfl ?_
  try dsimp only
  exact L1 _ _
def smF (m i j : Nat) (x : St × Int32) : St × Int32 := (puI x.1 25 (16 * j + i) (nI (nrM x.1 (cnM x.1 (nI i) (nI j)) m)), x.2 + (if x.1.1 25 (16 * j + i) = nI (nrM x.1 (cnM x.1 (nI i) (nI j)) m) then 0 else 1))
def smM (S : St) (c r m : Nat) : St × Int32 := pO (smF m) c r (puI S 21 0 0, 0)
theorem smF_o {m i j : Nat} {x : St × Int32} {o : Nat} (h : o ≠ 25) : (smF m i j x).1.1 o = x.1.1 o ∧ (smF m i j x).1.2 = x.1.2 := ⟨puI_o h, rfl⟩
theorem smO_o {m c j : Nat} {S : St × Int32} {o : Nat} (ho : o ≠ 25) : (pO (smF m) c j S).1.1 o = S.1.1 o ∧ (pO (smF m) c j S).1.2 = S.1.2 :=
  pO_inv (fun T => T.1.1 o = S.1.1 o ∧ T.1.2 = S.1.2) (fun i j T hT => ⟨(smF_o ho).1.trans hT.1, (smF_o ho).2.trans hT.2⟩) j S ⟨rfl, rfl⟩
theorem smI_o {m i j : Nat} {S : St × Int32} {o : Nat} (ho : o ≠ 25) : (pI (smF m) j i S).1.1 o = S.1.1 o ∧ (pI (smF m) j i S).1.2 = S.1.2 :=
  pI_inv (fun T => T.1.1 o = S.1.1 o ∧ T.1.2 = S.1.2) (fun i T hT => ⟨(smF_o ho).1.trans hT.1, (smF_o ho).2.trans hT.2⟩) i S ⟨rfl, rfl⟩
set_option maxHeartbeats 4000000 in
set_option maxRecDepth 40000 in
theorem k_M_shade {l : Launch} {h : Nat} {S : St} {c r m w g : Nat} (hc : S.1 21 9 = nI c) (hr : S.1 21 10 = nI r) (hc2 : c ≤ 16) (hr2 : r ≤ 16) (hw : S.1 21 1 = nI w) (hg : S.1 21 2 = nI g) (hw2 : w ≤ 32) (hg2 : g ≤ 32) (hm : S.1 21 7 = nI (m + 1)) (hm2 : m < 64) : KK l (SHm h) (3, 71) m_M_shade [aR 21] S (ans (some (aI (smM S c r m).2)) (smM S c r m).1) := by
  refine k_start ok_M_shade (Nat.le_of_ble_eq_true rfl) ?_
  have h0 : ∀ k, k ≠ 0 → (puI S 21 0 0).1 21 k = S.1 21 k := fun k hk => by simp [puI, pt, upd, hk]
  have hrow : ∀ j, (pO (smF m) c j (puI S 21 0 0, 0)).1.1 21 10 = nI r := fun j => by rw [(smO_o (by decide)).1]; exact (h0 10 (by decide)).trans hr
  have hcol : ∀ j i, (pI (smF m) j i (pO (smF m) c j (puI S 21 0 0, 0))).1.1 21 9 = nI c := fun j i => by rw [(smI_o (by decide)).1, (smO_o (by decide)).1]; exact (h0 9 (by decide)).trans hc
  have hf : ∀ j i k, k ≠ 0 → (pI (smF m) j i (pO (smF m) c j (puI S 21 0 0, 0))).1.1 21 k = S.1 21 k := fun j i k hk => by rw [(smI_o (by decide)).1, (smO_o (by decide)).1]; exact h0 k hk
  have L1 := e_for (P := fun j => ∀ z3 z4, E0 l (SHm h) (3, 71) m_M_shade 9 [some (aR 21), some (aI (pO (smF m) c j (puI S 21 0 0, 0)).2), some (aI (nI j)), z3, z4] [] ((pO (smF m) c j (puI S 21 0 0, 0)).1) (ans (some (aI (smM S c r m).2)) (smM S c r m).1)) (r) (by
      intro z3 z4
      iterate 3 refine e_sp rfl rfl rfl ?_
      refine e_icge rfl (fun h1 => ?_) (fun h1 => ?_)
      · iterate 1 refine e_sp rfl rfl rfl ?_
        refine e_iret rfl rfl (Nat.le_refl _) (Nat.le_refl _) ?_
        exact ⟨rfl, rfl⟩
      · try dsimp only
        rw [hrow] at h1
        exact absurd (nI_le (Nat.le_refl _) (by omega)) h1) (fun j hj ihj => by
      intro z3 z4
      iterate 3 refine e_sp rfl rfl rfl ?_
      refine e_icge rfl (fun h1 => ?_) (fun h1 => ?_)
      · try dsimp only
        rw [hrow] at h1
        exact absurd h1 (nI_ge hj (by omega))
      · refine e_ci 0 rfl rfl ?_
        iterate 1 refine e_sp rfl rfl rfl ?_
        try dsimp only
        have L2 := e_for (P := fun i => ∀ z4, E0 l (SHm h) (3, 71) m_M_shade 19 [some (aR 21), some (aI (pI (smF m) j i (pO (smF m) c j (puI S 21 0 0, 0))).2), some (aI (nI j)), some (aI (nI i)), z4] [] ((pI (smF m) j i (pO (smF m) c j (puI S 21 0 0, 0))).1) (ans (some (aI (smM S c r m).2)) (smM S c r m).1)) (c) (by
            intro z4
            iterate 3 refine e_sp rfl rfl rfl ?_
            refine e_icge rfl (fun h1 => ?_) (fun h1 => ?_)
            · refine e_inc 1 rfl rfl rfl rfl ?_
              refine e_goto rfl ?_
              try dsimp only
              rw [nI_1]
              exact ihj _ _
            · try dsimp only
              rw [hcol] at h1
              exact absurd (nI_le (Nat.le_refl _) (by omega)) h1) (fun i hi ihi => by
            intro z4
            iterate 3 refine e_sp rfl rfl rfl ?_
            refine e_icge rfl (fun h1 => ?_) (fun h1 => ?_)
            · try dsimp only
              rw [hcol] at h1
              exact absurd h1 (nI_ge hi (by omega))
            · iterate 4 refine e_sp rfl rfl rfl ?_
              refine e_callV1 ok_M_countAt rfl lk_M_147 (by rfl) (by rfl) (k_M_countAt ((hf j i 1 (by decide)).trans hw) ((hf j i 2 (by decide)).trans hg) hw2 hg2) rfl rfl ⟨Nat.le_of_ble_eq_true rfl, Nat.le_of_ble_eq_true rfl⟩ ⟨Nat.zero_le _, Nat.zero_le _⟩ (Nat.le_of_ble_eq_true rfl) ?_
              refine e_callV1 ok_M_nearest rfl lk_M_153 (by rfl) (by rfl) (k_M_nearest ((hf j i 7 (by decide)).trans hm) hm2) rfl rfl ⟨Nat.le_of_ble_eq_true rfl, Nat.le_of_ble_eq_true rfl⟩ ⟨Nat.zero_le _, Nat.zero_le _⟩ (Nat.le_of_ble_eq_true rfl) ?_
              iterate 4 refine e_sp rfl rfl rfl ?_
              refine e_cb 16 rfl rfl ?_
              iterate 4 refine e_sp rfl rfl rfl ?_
              try dsimp only
              rw [ix16]
              refine e_iald rfl (by first | rfl | assumption) (by exact vp_in_nI (show 16 * j + i < 256 by omega) (by decide)) ?_
              rw [nI_clamp (by omega)]
              iterate 1 refine e_sp rfl rfl rfl ?_
              refine e_iceq rfl (fun h2 => ?_) (fun h2 => ?_)
              · refine e_ci 0 rfl rfl ?_
                iterate 4 refine e_sp rfl rfl rfl ?_
                refine e_cb 16 rfl rfl ?_
                iterate 5 refine e_sp rfl rfl rfl ?_
                try dsimp only
                rw [ix16]
                refine e_iast rfl (by first | rfl | assumption) (by exact vp_in_nI (show 16 * j + i < 256 by omega) (by decide)) ?_
                rw [nI_clamp (by omega)]
                refine e_inc 1 rfl rfl rfl rfl ?_
                refine e_goto rfl ?_
                try dsimp only
                rw [nI_1]
                simp only [pI] at ihi
                rw [smF] at ihi
                (first | rw [if_pos h2] at ihi | rw [if_neg h2] at ihi)
                exact ihi _
              · refine e_ci 1 rfl rfl ?_
                refine e_goto rfl ?_
                iterate 4 refine e_sp rfl rfl rfl ?_
                refine e_cb 16 rfl rfl ?_
                iterate 5 refine e_sp rfl rfl rfl ?_
                try dsimp only
                rw [ix16]
                refine e_iast rfl (by first | rfl | assumption) (by exact vp_in_nI (show 16 * j + i < 256 by omega) (by decide)) ?_
                rw [nI_clamp (by omega)]
                refine e_inc 1 rfl rfl rfl rfl ?_
                refine e_goto rfl ?_
                try dsimp only
                rw [nI_1]
                simp only [pI] at ihi
                rw [smF] at ihi
                (first | rw [if_pos h2] at ihi | rw [if_neg h2] at ihi)
                exact ihi _)
        exact L2 _)
  iterate 1 refine e_sp rfl rfl rfl ?_
  refine e_ci 0 rfl rfl ?_
  iterate 1 refine e_sp rfl rfl rfl ?_
  refine e_ci 0 rfl rfl ?_
  iterate 1 refine e_sp rfl rfl rfl ?_
  refine e_ci 0 rfl rfl ?_
  iterate 1 refine e_sp rfl rfl rfl ?_
  try dsimp only
  exact L1 _ _
/-! both, layPattern, compose -/
def boM (o a b : Int32) : Int32 := if o = 0 then (if a = 0 then (if b = 0 then 0 else 1) else 1) else if o = 1 then (if a = 0 then 0 else if b = 0 then 0 else 1) else if o = 2 then (if a = b then 0 else 1) else if o = 3 then (if a = b then 1 else 0) else b
set_option maxHeartbeats 4000000 in
set_option maxRecDepth 40000 in
theorem k_M_both {l : Launch} {h : Nat} {S : St} {a b : Int32} (hb : b = 0 ∨ b = 1) : KK l (SHm h) (0, 0) m_M_both [aR 21, aI a, aI b] S (ans (some (aI (boM (S.1 21 16) a b))) S) := by
  refine k_start ok_M_both (Nat.le_of_ble_eq_true rfl) ?_
  iterate 2 refine e_sp rfl rfl rfl ?_
  by_cases h0 : S.1 21 16 = 0
  · rw [h0]
    refine e_tswI (off := 32) (tgt := 36) rfl (by decide) (by decide) (by decide) (by decide) ?_
    iterate 1 refine e_sp rfl rfl rfl ?_
    refine e_ifne rfl (fun h5 => ?_) (fun h5 => ?_)
    · refine e_ci 1 rfl rfl ?_
      refine e_goto rfl ?_
      refine e_zret rfl rfl (Nat.le_refl _) (Nat.le_refl _) (by decide) ?_
      exact ⟨by simp [boM, h5], rfl⟩
    · iterate 1 refine e_sp rfl rfl rfl ?_
      refine e_ifeq rfl (fun h6 => ?_) (fun h6 => ?_)
      · refine e_ci 0 rfl rfl ?_
        refine e_zret rfl rfl (Nat.le_refl _) (Nat.le_refl _) (by decide) ?_
        exact ⟨by simp [boM, h5, h6], rfl⟩
      · refine e_ci 1 rfl rfl ?_
        refine e_goto rfl ?_
        refine e_zret rfl rfl (Nat.le_refl _) (Nat.le_refl _) (by decide) ?_
        exact ⟨by simp [boM, h5, h6], rfl⟩
  by_cases h1 : S.1 21 16 = 1
  · rw [h1]
    refine e_tswI (off := 46) (tgt := 50) rfl (by decide) (by decide) (by decide) (by decide) ?_
    iterate 1 refine e_sp rfl rfl rfl ?_
    refine e_ifeq rfl (fun h5 => ?_) (fun h5 => ?_)
    · refine e_ci 0 rfl rfl ?_
      refine e_zret rfl rfl (Nat.le_refl _) (Nat.le_refl _) (by decide) ?_
      exact ⟨by simp [boM, h5], rfl⟩
    · iterate 1 refine e_sp rfl rfl rfl ?_
      refine e_ifeq rfl (fun h6 => ?_) (fun h6 => ?_)
      · refine e_ci 0 rfl rfl ?_
        refine e_zret rfl rfl (Nat.le_refl _) (Nat.le_refl _) (by decide) ?_
        exact ⟨by simp [boM, h5, h6], rfl⟩
      · refine e_ci 1 rfl rfl ?_
        refine e_goto rfl ?_
        refine e_zret rfl rfl (Nat.le_refl _) (Nat.le_refl _) (by decide) ?_
        exact ⟨by simp [boM, h5, h6], rfl⟩
  by_cases h2 : S.1 21 16 = 2
  · rw [h2]
    refine e_tswI (off := 60) (tgt := 64) rfl (by decide) (by decide) (by decide) (by decide) ?_
    iterate 2 refine e_sp rfl rfl rfl ?_
    refine e_iceq rfl (fun h5 => ?_) (fun h5 => ?_)
    · refine e_ci 0 rfl rfl ?_
      refine e_zret rfl rfl (Nat.le_refl _) (Nat.le_refl _) (by decide) ?_
      exact ⟨by simp [boM, h5], rfl⟩
    · refine e_ci 1 rfl rfl ?_
      refine e_goto rfl ?_
      refine e_zret rfl rfl (Nat.le_refl _) (Nat.le_refl _) (by decide) ?_
      exact ⟨by simp [boM, h5], rfl⟩
  by_cases h3 : S.1 21 16 = 3
  · rw [h3]
    refine e_tswI (off := 71) (tgt := 75) rfl (by decide) (by decide) (by decide) (by decide) ?_
    iterate 2 refine e_sp rfl rfl rfl ?_
    refine e_icne rfl (fun h5 => ?_) (fun h5 => ?_)
    · refine e_ci 0 rfl rfl ?_
      refine e_zret rfl rfl (Nat.le_refl _) (Nat.le_refl _) (by decide) ?_
      exact ⟨by simp [boM, h5], rfl⟩
    · refine e_ci 1 rfl rfl ?_
      refine e_goto rfl ?_
      refine e_zret rfl rfl (Nat.le_refl _) (Nat.le_refl _) (by decide) ?_
      exact ⟨by simp [boM, h5], rfl⟩
  have hn : ∀ k : Int32, ¬ S.1 21 16 = k → (S.1 21 16).toInt ≠ k.toInt := fun k hk e => hk (Int32.toInt_inj.mp e)
  have g0 := hn 0 h0
  rw [show (0 : Int32).toInt = 0 from rfl] at g0
  have g1 := hn 1 h1
  rw [show (1 : Int32).toInt = 1 from rfl] at g1
  have g2 := hn 2 h2
  rw [show (2 : Int32).toInt = 2 from rfl] at g2
  have g3 := hn 3 h3
  rw [show (3 : Int32).toInt = 3 from rfl] at g3
  refine e_tswO (tgt := 86) rfl (by omega) (by decide) ?_
  iterate 1 refine e_sp rfl rfl rfl ?_
  refine e_zret rfl rfl (Nat.le_refl _) (Nat.le_refl _) (by exact hb) ?_
  exact ⟨by rw [boM, if_neg h0, if_neg h1, if_neg h2, if_neg h3], rfl⟩
def lmI (T : St) (i j : Int32) (u v : Nat) : Nat := (32 * (yM T i j + nI v) + (xM T i j + nI u)).toNatClampNeg
def lmF (i j : Int32) (k u v : Nat) (T : St) : St := if hsM T (xM T i j + nI u) (yM T i j + nI v) = 0 then T else puI T 23 (lmI T i j u v) (vp_nar .boolean (boM (T.1 21 16) (T.1 23 (lmI T i j u v)) (T.1 24 (64 * k + 8 * v + u))))
def lmM (S : St) (i j : Int32) (k w g : Nat) : St := pO (lmF i j k) w g S
theorem lmF_o {i j : Int32} {k u v : Nat} {T : St} {o : Nat} (h : o ≠ 23) : (lmF i j k u v T).1 o = T.1 o ∧ (lmF i j k u v T).2 = T.2 := by
  unfold lmF
  split
  · exact ⟨rfl, rfl⟩
  · exact ⟨puI_o h, rfl⟩
theorem lmO_o {i j : Int32} {k w v : Nat} {S : St} {o : Nat} (ho : o ≠ 23) : (pO (lmF i j k) w v S).1 o = S.1 o ∧ (pO (lmF i j k) w v S).2 = S.2 :=
  pO_inv (fun T => T.1 o = S.1 o ∧ T.2 = S.2) (fun u v T hT => ⟨(lmF_o ho).1.trans hT.1, (lmF_o ho).2.trans hT.2⟩) v S ⟨rfl, rfl⟩
theorem lmI_o {i j : Int32} {k u v : Nat} {S : St} {o : Nat} (ho : o ≠ 23) : (pI (lmF i j k) v u S).1 o = S.1 o ∧ (pI (lmF i j k) v u S).2 = S.2 :=
  pI_inv (fun T => T.1 o = S.1 o ∧ T.2 = S.2) (fun u T hT => ⟨(lmF_o ho).1.trans hT.1, (lmF_o ho).2.trans hT.2⟩) u S ⟨rfl, rfl⟩
theorem hsM_01 (S : St) (x y : Int32) : hsM S x y = 0 ∨ hsM S x y = 1 := by
  unfold hsM
  split
  · exact Or.inl rfl
  · split
    · exact Or.inl rfl
    · exact Or.inr rfl
set_option maxHeartbeats 4000000 in
set_option maxRecDepth 40000 in
theorem k_M_layPattern {l : Launch} {h : Nat} {S : St} {a b k w g pw ph : Nat} (hw : S.1 21 1 = nI w) (hg : S.1 21 2 = nI g) (hw2 : w ≤ 32) (hg2 : g ≤ 32) (hpw : S.1 21 5 = nI pw) (hph : S.1 21 6 = nI ph) (hpw2 : pw ≤ 8) (hph2 : ph ≤ 8) (ha : a < 16) (hb : b < 16) (hk : S.1 25 (16 * b + a) = nI k) (hk2 : k < 64) (hcell : ∀ n, S.1 24 n = 0 ∨ S.1 24 n = 1) : KK l (SHm h) (2, 44) m_M_layPattern [aR 21, aI (nI a), aI (nI b)] S (ans none (lmM S (nI a) (nI b) k pw ph)) := by
  refine k_start ok_M_layPattern (Nat.le_of_ble_eq_true rfl) ?_
  generalize hi : nI a = i
  generalize hj : nI b = j
  have hrow : ∀ v, (pO (lmF i j k) pw v S).1 21 6 = nI ph := fun v => by rw [(lmO_o (by decide)).1]; exact hph
  have hcol : ∀ v u, (pI (lmF i j k) v u (pO (lmF i j k) pw v S)).1 21 5 = nI pw := fun v u => by rw [(lmI_o (by decide)).1, (lmO_o (by decide)).1]; exact hpw
  have hf : ∀ v u n, (pI (lmF i j k) v u (pO (lmF i j k) pw v S)).1 21 n = S.1 21 n := fun v u n => by rw [(lmI_o (by decide)).1, (lmO_o (by decide)).1]
  have L1 := e_for (P := fun v => ∀ z5 z6 z7, E0 l (SHm h) (2, 44) m_M_layPattern 15 [some (aR 21), some (aI i), some (aI j), some (aI (nI k)), some (aI (nI v)), z5, z6, z7] [] (pO (lmF i j k) pw v S) (ans none (lmM S i j k pw ph))) (ph) (by
      intro z5 z6 z7
      iterate 3 refine e_sp rfl rfl rfl ?_
      refine e_icge rfl (fun h1 => ?_) (fun h1 => ?_)
      · refine e_vret rfl rfl (Nat.le_refl _) (Nat.le_refl _) ?_
        exact ⟨rfl, rfl⟩
      · try dsimp only
        rw [hrow] at h1
        exact absurd (nI_le (Nat.le_refl _) (by omega)) h1) (fun v hv ihv => by
      intro z5 z6 z7
      iterate 3 refine e_sp rfl rfl rfl ?_
      refine e_icge rfl (fun h1 => ?_) (fun h1 => ?_)
      · try dsimp only
        rw [hrow] at h1
        exact absurd h1 (nI_ge hv (by omega))
      · refine e_ci 0 rfl rfl ?_
        iterate 1 refine e_sp rfl rfl rfl ?_
        try dsimp only
        have L2 := e_for (P := fun u => ∀ z6 z7, E0 l (SHm h) (2, 44) m_M_layPattern 27 [some (aR 21), some (aI i), some (aI j), some (aI (nI k)), some (aI (nI v)), some (aI (nI u)), z6, z7] [] (pI (lmF i j k) v u (pO (lmF i j k) pw v S)) (ans none (lmM S i j k pw ph))) (pw) (by
            intro z6 z7
            iterate 3 refine e_sp rfl rfl rfl ?_
            refine e_icge rfl (fun h1 => ?_) (fun h1 => ?_)
            · refine e_inc 1 rfl rfl rfl rfl ?_
              refine e_goto rfl ?_
              try dsimp only
              rw [nI_1]
              exact ihv _ _ _
            · try dsimp only
              rw [hcol] at h1
              exact absurd (nI_le (Nat.le_refl _) (by omega)) h1) (fun u hu ihu => by
            intro z6 z7
            iterate 3 refine e_sp rfl rfl rfl ?_
            refine e_icge rfl (fun h1 => ?_) (fun h1 => ?_)
            · try dsimp only
              rw [hcol] at h1
              exact absurd h1 (nI_ge hu (by omega))
            · iterate 3 refine e_sp rfl rfl rfl ?_
              refine e_callV1 ok_M_xOf rfl lk_M_129 (by rfl) (by rfl) k_M_xOf rfl rfl ⟨Nat.le_of_ble_eq_true rfl, Nat.le_of_ble_eq_true rfl⟩ ⟨Nat.zero_le _, Nat.zero_le _⟩ (Nat.le_of_ble_eq_true rfl) ?_
              iterate 6 refine e_sp rfl rfl rfl ?_
              refine e_callV1 ok_M_yOf rfl lk_M_132 (by rfl) (by rfl) k_M_yOf rfl rfl ⟨Nat.le_of_ble_eq_true rfl, Nat.le_of_ble_eq_true rfl⟩ ⟨Nat.zero_le _, Nat.zero_le _⟩ (Nat.le_of_ble_eq_true rfl) ?_
              iterate 6 refine e_sp rfl rfl rfl ?_
              refine e_callV1 ok_M_hasSample rfl lk_M_144 (by rfl) (by rfl) k_M_hasSample rfl rfl ⟨Nat.le_of_ble_eq_true rfl, Nat.le_of_ble_eq_true rfl⟩ ⟨Nat.zero_le _, Nat.zero_le _⟩ (Nat.le_of_ble_eq_true rfl) ?_
              refine e_ifeq rfl (fun h2 => ?_) (fun h2 => ?_)
              · refine e_inc 1 rfl rfl rfl rfl ?_
                refine e_goto rfl ?_
                try dsimp only
                rw [nI_1]
                simp only [pI] at ihu
                rw [lmF] at ihu
                (first | rw [if_pos h2] at ihu | rw [if_neg h2] at ihu)
                exact ihu _ _
              · iterate 2 refine e_sp rfl rfl rfl ?_
                refine e_cb 32 rfl rfl ?_
                iterate 7 refine e_sp rfl rfl rfl ?_
                refine e_cb 32 rfl rfl ?_
                iterate 4 refine e_sp rfl rfl rfl ?_
                refine e_zald rfl (by first | rfl | assumption) (by exact hsM_in ((hf v u 1).trans hw) ((hf v u 2).trans hg) hw2 hg2 (by assumption)) ?_
                iterate 2 refine e_sp rfl rfl rfl ?_
                refine e_cb 64 rfl rfl ?_
                iterate 2 refine e_sp rfl rfl rfl ?_
                refine e_cb 8 rfl rfl ?_
                iterate 5 refine e_sp rfl rfl rfl ?_
                try dsimp only
                rw [ix64]
                refine e_zald rfl (by first | rfl | assumption) (by exact vp_in_nI (show 64 * k + 8 * v + u < 4096 by omega) (by decide)) ?_
                rw [nI_clamp (show 64 * k + 8 * v + u < 2 ^ 31 by omega)]
                refine e_callV1 ok_M_both rfl lk_M_156 (by rfl) (by rfl) (k_M_both (by rw [(lmI_o (by decide)).1, (lmO_o (by decide)).1]; exact hcell _)) rfl rfl ⟨Nat.le_of_ble_eq_true rfl, Nat.le_of_ble_eq_true rfl⟩ ⟨Nat.zero_le _, Nat.zero_le _⟩ (Nat.le_of_ble_eq_true rfl) ?_
                refine e_zast rfl (by first | rfl | assumption) (by exact hsM_in ((hf v u 1).trans hw) ((hf v u 2).trans hg) hw2 hg2 (by assumption)) ?_
                refine e_inc 1 rfl rfl rfl rfl ?_
                refine e_goto rfl ?_
                try dsimp only
                rw [nI_1]
                simp only [pI] at ihu
                rw [lmF] at ihu
                (first | rw [if_pos h2] at ihu | rw [if_neg h2] at ihu)
                exact ihu _ _)
        exact L2 _ _)
  subst hi
  subst hj
  iterate 2 refine e_sp rfl rfl rfl ?_
  refine e_cb 16 rfl rfl ?_
  iterate 4 refine e_sp rfl rfl rfl ?_
  try dsimp only
  rw [ix16]
  refine e_iald rfl (by first | rfl | assumption) (by exact vp_in_nI (show 16 * b + a < 256 by omega) (by decide)) ?_
  rw [nI_clamp (by omega), hk]
  iterate 1 refine e_sp rfl rfl rfl ?_
  refine e_ci 0 rfl rfl ?_
  iterate 1 refine e_sp rfl rfl rfl ?_
  try dsimp only
  exact L1 _ _ _
def c0F (i : Nat) (T : St) : St := puI T 23 i (vp_nar .boolean (if T.1 21 17 = 1 then (if T.1 21 1 ≤ nI (i % 32) then 0 else if T.1 21 2 ≤ nI (i / 32) then 0 else 1) else 0))
def c0M (S : St) : St := nF c0F 1024 (puI S 21 0 0)
theorem c0N_o {S : St} {o : Nat} (h : o ≠ 23) (i : Nat) : (nF c0F i S).1 o = S.1 o ∧ (nF c0F i S).2 = S.2 :=
  nF_inv (f := c0F) (fun T => T.1 o = S.1 o ∧ T.2 = S.2) (fun i T hT => ⟨(puI_o h).trans hT.1, hT.2⟩) i S ⟨rfl, rfl⟩
def cpF (pw ph i j : Nat) (T : St) : St := lmM T (nI i) (nI j) (T.1 25 (16 * j + i)).toNatClampNeg pw ph
def cpM (T : St) (pw ph c r : Nat) : St := pO (cpF pw ph) c r T
theorem cpF_o {pw ph i j : Nat} {T : St} {o : Nat} (h : o ≠ 23) : (cpF pw ph i j T).1 o = T.1 o ∧ (cpF pw ph i j T).2 = T.2 := lmO_o h
theorem cpO_o {pw ph c j : Nat} {S : St} {o : Nat} (ho : o ≠ 23) : (pO (cpF pw ph) c j S).1 o = S.1 o ∧ (pO (cpF pw ph) c j S).2 = S.2 :=
  pO_inv (fun T => T.1 o = S.1 o ∧ T.2 = S.2) (fun i j T hT => ⟨(cpF_o ho).1.trans hT.1, (cpF_o ho).2.trans hT.2⟩) j S ⟨rfl, rfl⟩
theorem cpI_o {pw ph i j : Nat} {S : St} {o : Nat} (ho : o ≠ 23) : (pI (cpF pw ph) j i S).1 o = S.1 o ∧ (pI (cpF pw ph) j i S).2 = S.2 :=
  pI_inv (fun T => T.1 o = S.1 o ∧ T.2 = S.2) (fun i T hT => ⟨(cpF_o ho).1.trans hT.1, (cpF_o ho).2.trans hT.2⟩) i S ⟨rfl, rfl⟩
set_option maxHeartbeats 4000000 in
set_option maxRecDepth 40000 in
theorem k_M_compose {l : Launch} {h : Nat} {S : St} {c r w g pw ph : Nat} (hc : S.1 21 9 = nI c) (hr : S.1 21 10 = nI r) (hc2 : c ≤ 16) (hr2 : r ≤ 16) (hw : S.1 21 1 = nI w) (hg : S.1 21 2 = nI g) (hw2 : w ≤ 32) (hg2 : g ≤ 32) (hpw : S.1 21 5 = nI pw) (hph : S.1 21 6 = nI ph) (hpw2 : pw ≤ 8) (hph2 : ph ≤ 8) (hgr : ∀ n, n < 256 → ∃ k, k < 64 ∧ S.1 25 n = nI k) (hcell : ∀ n, S.1 24 n = 0 ∨ S.1 24 n = 1) : KK l (SHm h) (3, 71) m_M_compose [aR 21] S (ans (some (aI (daM (cpM (c0M S) pw ph c r) 23))) (cpM (c0M S) pw ph c r)) := by
  refine k_start ok_M_compose (Nat.le_of_ble_eq_true rfl) ?_
  have h0 : ∀ k, k ≠ 0 → (c0M S).1 21 k = S.1 21 k := fun k hk => by rw [c0M, (c0N_o (by decide) _).1]; simp [puI, pt, upd, hk]
  have h1 : ∀ o, o ≠ 21 → o ≠ 23 → (c0M S).1 o = S.1 o := fun o ho ho2 => by rw [c0M, (c0N_o ho2 _).1, puI_o ho]
  have hrow : ∀ j, (pO (cpF pw ph) c j (c0M S)).1 21 10 = nI r := fun j => by rw [(cpO_o (by decide)).1]; exact (h0 10 (by decide)).trans hr
  have hcol : ∀ j i, (pI (cpF pw ph) j i (pO (cpF pw ph) c j (c0M S))).1 21 9 = nI c := fun j i => by rw [(cpI_o (by decide)).1, (cpO_o (by decide)).1]; exact (h0 9 (by decide)).trans hc
  have hf : ∀ j i k, k ≠ 0 → (pI (cpF pw ph) j i (pO (cpF pw ph) c j (c0M S))).1 21 k = S.1 21 k := fun j i k hk => by rw [(cpI_o (by decide)).1, (cpO_o (by decide)).1]; exact h0 k hk
  have hcl : ∀ j i n, (pI (cpF pw ph) j i (pO (cpF pw ph) c j (c0M S))).1 24 n = 0 ∨ (pI (cpF pw ph) j i (pO (cpF pw ph) c j (c0M S))).1 24 n = 1 := fun j i n => by rw [(cpI_o (by decide)).1, (cpO_o (by decide)).1, h1 24 (by decide) (by decide)]; exact hcell n
  have hgq : ∀ j i n, n < 256 → (pI (cpF pw ph) j i (pO (cpF pw ph) c j (c0M S))).1 25 n = nI ((pI (cpF pw ph) j i (pO (cpF pw ph) c j (c0M S))).1 25 n).toNatClampNeg ∧ ((pI (cpF pw ph) j i (pO (cpF pw ph) c j (c0M S))).1 25 n).toNatClampNeg < 64 := fun j i n hn => by
    rw [(cpI_o (by decide)).1, (cpO_o (by decide)).1, h1 25 (by decide) (by decide)]
    obtain ⟨k, hk, e⟩ := hgr n hn
    rw [e, nI_clamp (by omega)]
    exact ⟨rfl, hk⟩
  have L1 := e_for (P := fun j => ∀ z2, E0 l (SHm h) (3, 71) m_M_compose 63 [some (aR 21), some (aI (nI j)), z2] [] (pO (cpF pw ph) c j (c0M S)) (ans (some (aI (daM (cpM (c0M S) pw ph c r) 23))) (cpM (c0M S) pw ph c r))) (r) (by
      intro z2
      iterate 3 refine e_sp rfl rfl rfl ?_
      refine e_icge rfl (fun h1 => ?_) (fun h1 => ?_)
      · iterate 2 refine e_sp rfl rfl rfl ?_
        refine e_callS1 ok_M_dark rfl lk_M_164 (k_M_dark (by rfl)) rfl rfl ⟨Nat.le_of_ble_eq_true rfl, Nat.le_of_ble_eq_true rfl⟩ ⟨Nat.zero_le _, Nat.zero_le _⟩ (Nat.le_of_ble_eq_true rfl) ?_
        refine e_iret rfl rfl (Nat.le_refl _) (Nat.le_refl _) ?_
        exact ⟨rfl, rfl⟩
      · try dsimp only
        rw [hrow] at h1
        exact absurd (nI_le (Nat.le_refl _) (by omega)) h1) (fun j hj ihj => by
      intro z2
      iterate 3 refine e_sp rfl rfl rfl ?_
      refine e_icge rfl (fun h1 => ?_) (fun h1 => ?_)
      · try dsimp only
        rw [hrow] at h1
        exact absurd h1 (nI_ge hj (by omega))
      · refine e_ci 0 rfl rfl ?_
        iterate 1 refine e_sp rfl rfl rfl ?_
        try dsimp only
        have L2 := e_for (P := fun i => E0 l (SHm h) (3, 71) m_M_compose 73 [some (aR 21), some (aI (nI j)), some (aI (nI i))] [] (pI (cpF pw ph) j i (pO (cpF pw ph) c j (c0M S))) (ans (some (aI (daM (cpM (c0M S) pw ph c r) 23))) (cpM (c0M S) pw ph c r))) (c) (by
            iterate 3 refine e_sp rfl rfl rfl ?_
            refine e_icge rfl (fun h1 => ?_) (fun h1 => ?_)
            · refine e_inc 1 rfl rfl rfl rfl ?_
              refine e_goto rfl ?_
              try dsimp only
              rw [nI_1]
              exact ihj _
            · try dsimp only
              rw [hcol] at h1
              exact absurd (nI_le (Nat.le_refl _) (by omega)) h1) (fun i hi ihi => by
            iterate 3 refine e_sp rfl rfl rfl ?_
            refine e_icge rfl (fun h1 => ?_) (fun h1 => ?_)
            · try dsimp only
              rw [hcol] at h1
              exact absurd h1 (nI_ge hi (by omega))
            · iterate 3 refine e_sp rfl rfl rfl ?_
              refine e_callV0 ok_M_layPattern rfl lk_M_160 (by rfl) (by rfl) (k_M_layPattern (k := ((pI (cpF pw ph) j i (pO (cpF pw ph) c j (c0M S))).1 25 (16 * j + i)).toNatClampNeg) ((hf j i 1 (by decide)).trans hw) ((hf j i 2 (by decide)).trans hg) hw2 hg2 ((hf j i 5 (by decide)).trans hpw) ((hf j i 6 (by decide)).trans hph) hpw2 hph2 (by omega) (by omega) (hgq j i (16 * j + i) (by omega)).1 (hgq j i (16 * j + i) (by omega)).2 (hcl j i)) rfl rfl ⟨Nat.le_of_ble_eq_true rfl, Nat.le_of_ble_eq_true rfl⟩ ⟨Nat.zero_le _, Nat.zero_le _⟩ (Nat.le_of_ble_eq_true rfl) ?_
              refine e_inc 1 rfl rfl rfl rfl ?_
              refine e_goto rfl ?_
              try dsimp only
              rw [nI_1]
              exact ihi)
        exact L2)
  have L0 := e_for (P := fun k => E0 l (SHm h) (3, 71) m_M_compose 7 [some (aR 21), some (aI (nI k)), none] [] (nF c0F k (puI S 21 0 0)) (ans (some (aI (daM (cpM (c0M S) pw ph c r) 23))) (cpM (c0M S) pw ph c r))) (1024) (by
      iterate 1 refine e_sp rfl rfl rfl ?_
      refine e_cs 1024 rfl rfl ?_
      refine e_icge rfl (fun h1 => ?_) (fun h1 => ?_)
      · refine e_ci 0 rfl rfl ?_
        iterate 1 refine e_sp rfl rfl rfl ?_
        try dsimp only
        exact L1 none
      · try dsimp only
        exact absurd (nI_le (Nat.le_refl _) (by decide)) h1) (fun k hk ihk => by
      iterate 1 refine e_sp rfl rfl rfl ?_
      refine e_cs 1024 rfl rfl ?_
      refine e_icge rfl (fun h1 => ?_) (fun h1 => ?_)
      · try dsimp only
        exact absurd h1 (nI_ge hk (by decide))
      · iterate 5 refine e_sp rfl rfl rfl ?_
        refine e_ci 1 rfl rfl ?_
        refine e_icne rfl (fun h2 => ?_) (fun h2 => ?_)
        · refine e_ci 0 rfl rfl ?_
          refine e_zast rfl (by first | rfl | assumption) (by exact vp_in_nI hk (by decide)) ?_
          rw [nI_clamp (by omega)]
          refine e_inc 1 rfl rfl rfl rfl ?_
          refine e_goto rfl ?_
          try dsimp only
          rw [nI_1]
          simp only [nF] at ihk
          rw [c0F] at ihk
          (first | rw [if_pos h2] at ihk | rw [if_neg h2] at ihk)
          exact ihk
        · iterate 1 refine e_sp rfl rfl rfl ?_
          refine e_cb 32 rfl rfl ?_
          refine e_rem rfl (by decide) ?_
          rw [show (32 : Int32) = nI 32 from rfl, rmd 32 (by omega) (by decide) (by decide)]
          iterate 2 refine e_sp rfl rfl rfl ?_
          refine e_icge rfl (fun h3 => ?_) (fun h3 => ?_)
          · refine e_ci 0 rfl rfl ?_
            refine e_zast rfl (by first | rfl | assumption) (by exact vp_in_nI hk (by decide)) ?_
            rw [nI_clamp (by omega)]
            refine e_inc 1 rfl rfl rfl rfl ?_
            refine e_goto rfl ?_
            try dsimp only
            rw [nI_1]
            simp only [nF] at ihk
            rw [c0F] at ihk
            (first | rw [if_pos h2] at ihk | rw [if_neg h2] at ihk)
            (first | rw [if_pos h3] at ihk | rw [if_neg h3] at ihk)
            exact ihk
          · iterate 1 refine e_sp rfl rfl rfl ?_
            refine e_cb 32 rfl rfl ?_
            refine e_div rfl (by decide) ?_
            rw [show (32 : Int32) = nI 32 from rfl, dvd9 32 (by omega) (by decide) (by decide)]
            iterate 2 refine e_sp rfl rfl rfl ?_
            refine e_icge rfl (fun h4 => ?_) (fun h4 => ?_)
            · refine e_ci 0 rfl rfl ?_
              refine e_zast rfl (by first | rfl | assumption) (by exact vp_in_nI hk (by decide)) ?_
              rw [nI_clamp (by omega)]
              refine e_inc 1 rfl rfl rfl rfl ?_
              refine e_goto rfl ?_
              try dsimp only
              rw [nI_1]
              simp only [nF] at ihk
              rw [c0F] at ihk
              (first | rw [if_pos h2] at ihk | rw [if_neg h2] at ihk)
              (first | rw [if_pos h3] at ihk | rw [if_neg h3] at ihk)
              (first | rw [if_pos h4] at ihk | rw [if_neg h4] at ihk)
              exact ihk
            · refine e_ci 1 rfl rfl ?_
              refine e_goto rfl ?_
              refine e_zast rfl (by first | rfl | assumption) (by exact vp_in_nI hk (by decide)) ?_
              rw [nI_clamp (by omega)]
              refine e_inc 1 rfl rfl rfl rfl ?_
              refine e_goto rfl ?_
              try dsimp only
              rw [nI_1]
              simp only [nF] at ihk
              rw [c0F] at ihk
              (first | rw [if_pos h2] at ihk | rw [if_neg h2] at ihk)
              (first | rw [if_pos h3] at ihk | rw [if_neg h3] at ihk)
              (first | rw [if_pos h4] at ihk | rw [if_neg h4] at ihk)
              exact ihk)
  iterate 1 refine e_sp rfl rfl rfl ?_
  refine e_ci 0 rfl rfl ?_
  iterate 1 refine e_sp rfl rfl rfl ?_
  refine e_ci 0 rfl rfl ?_
  iterate 1 refine e_sp rfl rfl rfl ?_
  try dsimp only
  exact L0
/-! ordered -/
def rkF (n c e r : Nat) : Nat := if keM (nI (c % n)) (nI (c / n)) ≤ keM (nI (e % n)) (nI (e / n)) then r else r + 1
def rkM (n c : Nat) : Nat := nF (rkF n c) (n * n) 0
theorem rkQ_le (n c : Nat) : ∀ i, nF (rkF n c) i 0 ≤ i
  | 0 => Nat.le_refl _
  | i + 1 => by
    have h := rkQ_le n c i
    show rkF n c i (nF (rkF n c) i 0) ≤ i + 1
    generalize nF (rkF n c) i 0 = b at h ⊢
    unfold rkF
    split
    · omega
    · omega
def o1F (n c r i : Nat) (T : St) : St := puI T 24 (64 * (r + 1 + i) + 8 * (c / n) + c % n) (vp_nar .boolean 1)
def orF (n c : Nat) (T : St) : St := nF (o1F n c (rkM n c)) (n * n - rkM n c) T
def orM (S : St) (n : Nat) : St := nF (orF n) (n * n) (blM (puI S 21 0 0) (nI n) (nI n) (nI (n * n + 1)))
theorem o1N_o {n c r : Nat} {S : St} {o : Nat} (h : o ≠ 24) (i : Nat) : (nF (o1F n c r) i S).1 o = S.1 o ∧ (nF (o1F n c r) i S).2 = S.2 :=
  nF_inv (f := o1F n c r) (fun T => T.1 o = S.1 o ∧ T.2 = S.2) (fun i T hT => ⟨(puI_o h).trans hT.1, hT.2⟩) i S ⟨rfl, rfl⟩
theorem orN_o {n : Nat} {S : St} {o : Nat} (h : o ≠ 24) (i : Nat) : (nF (orF n) i S).1 o = S.1 o ∧ (nF (orF n) i S).2 = S.2 :=
  nF_inv (f := orF n) (fun T => T.1 o = S.1 o ∧ T.2 = S.2) (fun i T hT => ⟨(o1N_o h _).1.trans hT.1, (o1N_o h _).2.trans hT.2⟩) i S ⟨rfl, rfl⟩
theorem nn_le {n : Nat} (h : n ≤ 7) : n * n ≤ 49 := Nat.mul_le_mul h h
theorem dm_lt {n c : Nat} (h : c < n * n) (h7 : n ≤ 7) : c / n < 7 ∧ c % n < 7 ∧ 0 < n := by
  have h0 : 0 < n := by rcases Nat.eq_zero_or_pos n with e | e; (subst e; omega); exact e
  exact ⟨Nat.lt_of_lt_of_le (Nat.div_lt_of_lt_mul h) h7, Nat.lt_of_lt_of_le (Nat.mod_lt _ h0) h7, h0⟩
def okO (q : Int32) : Int32 := if wi q 1 7 = 0 then 1 else 0
def odR (S : St) (q : Int32) : Int32 := if wi q 1 7 = 0 then 0 else nI (q.toNatClampNeg * q.toNatClampNeg + 1)
def odS (S : St) (q : Int32) : St := if wi q 1 7 = 0 then puI S 21 0 1 else orM S q.toNatClampNeg
set_option maxHeartbeats 4000000 in
set_option maxRecDepth 40000 in
theorem k_M_orderedL {l : Launch} {h : Nat} {S : St} {n : Nat} (hn0 : 0 < n) (hn7 : n ≤ 7) : E0 l (SHm h) (1, 24) m_M_ordered 41 [some (aR 21), some (aI (nI n)), some (aI 0), none, none] [] (blM (puI S 21 0 0) (nI n) (nI n) (nI (n * n + 1))) (ans (some (aI (nI (n * n + 1)))) (orM S n)) := by
  have hnn := nn_le hn7
  have hn0n : ¬ nI n = 0 := nI_ne0 hn0 (by omega)
  have hmB : (blM (puI S 21 0 0) (nI n) (nI n) (nI (n * n + 1))).1 21 7 = nI (n * n + 1) := by rw [blM, flI_o (by decide), flI_o (by decide)]; simp [puI, pt, upd]
  have hmR : (nF (orF n) (n * n) (blM (puI S 21 0 0) (nI n) (nI n) (nI (n * n + 1)))).1 21 7 = nI (n * n + 1) := by rw [(orN_o (by decide) _).1]; exact hmB
  have L1 := e_for (P := fun c => ∀ z3 z4, E0 l (SHm h) (1, 24) m_M_ordered 41 [some (aR 21), some (aI (nI n)), some (aI (nI c)), z3, z4] [] ((nF (orF n) c (blM (puI S 21 0 0) (nI n) (nI n) (nI (n * n + 1))))) (ans (some (aI (nI (n * n + 1)))) (orM S n))) (n * n) (by
      intro z3 z4
      iterate 4 refine e_sp rfl rfl rfl ?_
      refine e_icge rfl (fun h1 => ?_) (fun h1 => ?_)
      · iterate 2 refine e_sp rfl rfl rfl ?_
        refine e_iret rfl rfl (Nat.le_refl _) (Nat.le_refl _) ?_
        exact ⟨by rw [hmR], rfl⟩
      · try dsimp only
        dsimp only at h1
        rw [pk_mul] at h1
        exact absurd (nI_le (Nat.le_refl _) (by omega)) h1) (fun c hc ihc => by
      intro z3 z4
      iterate 4 refine e_sp rfl rfl rfl ?_
      refine e_icge rfl (fun h1 => ?_) (fun h1 => ?_)
      · try dsimp only
        dsimp only at h1
        rw [pk_mul] at h1
        exact absurd h1 (nI_ge hc (by omega))
      · refine e_ci 0 rfl rfl ?_
        iterate 1 refine e_sp rfl rfl rfl ?_
        refine e_ci 0 rfl rfl ?_
        iterate 1 refine e_sp rfl rfl rfl ?_
        try dsimp only
        have hrk : rkM n c ≤ n * n := rkQ_le n c _
        obtain ⟨hd1, hd2, -⟩ := dm_lt hc hn7
        have hmk : ∀ i, (nF (o1F n c (rkM n c)) i (nF (orF n) c (blM (puI S 21 0 0) (nI n) (nI n) (nI (n * n + 1))))).1 21 7 = nI (n * n + 1) := fun i => by rw [(o1N_o (by decide) i).1, (orN_o (by decide) c).1]; exact hmB
        have L3 := e_for (P := fun i => E0 l (SHm h) (1, 24) m_M_ordered 103 [some (aR 21), some (aI (nI n)), some (aI (nI c)), some (aI (nI (rkM n c))), some (aI (nI (rkM n c + 1 + i)))] [] (nF (o1F n c (rkM n c)) i (nF (orF n) c (blM (puI S 21 0 0) (nI n) (nI n) (nI (n * n + 1))))) (ans (some (aI (nI (n * n + 1)))) (orM S n))) (n * n - rkM n c) (by
            iterate 3 refine e_sp rfl rfl rfl ?_
            refine e_icge rfl (fun h1 => ?_) (fun h1 => ?_)
            · refine e_inc 1 rfl rfl rfl rfl ?_
              refine e_goto rfl ?_
              try dsimp only
              rw [nI_1]
              exact ihc _ _
            · try dsimp only
              rw [hmk] at h1
              exact absurd (nI_le (by omega) (by omega)) h1) (fun i hi ihi => by
            iterate 3 refine e_sp rfl rfl rfl ?_
            refine e_icge rfl (fun h1 => ?_) (fun h1 => ?_)
            · try dsimp only
              rw [hmk] at h1
              exact absurd h1 (nI_ge (show rkM n c + 1 + i < n * n + 1 by omega) (by omega))
            · iterate 2 refine e_sp rfl rfl rfl ?_
              refine e_cb 64 rfl rfl ?_
              iterate 2 refine e_sp rfl rfl rfl ?_
              refine e_cb 8 rfl rfl ?_
              iterate 2 refine e_sp rfl rfl rfl ?_
              refine e_div rfl (by exact hn0n) ?_
              try dsimp only
              rw [dvd9 n (by omega) hn0 (by omega)]
              iterate 4 refine e_sp rfl rfl rfl ?_
              refine e_rem rfl (by exact hn0n) ?_
              try dsimp only
              rw [rmd n (by omega) hn0 (by omega)]
              iterate 1 refine e_sp rfl rfl rfl ?_
              try dsimp only
              rw [ix64]
              refine e_ci 1 rfl rfl ?_
              refine e_zast rfl (by first | rfl | assumption) (by exact vp_in_nI (show 64 * (rkM n c + 1 + i) + 8 * (c / n) + c % n < 4096 by omega) (by decide)) ?_
              rw [nI_clamp (by omega)]
              refine e_inc 1 rfl rfl rfl rfl ?_
              refine e_goto rfl ?_
              try dsimp only
              rw [nI_1]
              exact ihi)
        have L2 := e_for (P := fun e => E0 l (SHm h) (1, 24) m_M_ordered 53 [some (aR 21), some (aI (nI n)), some (aI (nI c)), some (aI (nI (nF (rkF n c) e 0))), some (aI (nI e))] [] ((nF (orF n) c (blM (puI S 21 0 0) (nI n) (nI n) (nI (n * n + 1))))) (ans (some (aI (nI (n * n + 1)))) (orM S n))) (n * n) (by
            iterate 4 refine e_sp rfl rfl rfl ?_
            refine e_icge rfl (fun h1 => ?_) (fun h1 => ?_)
            · iterate 1 refine e_sp rfl rfl rfl ?_
              refine e_ci 1 rfl rfl ?_
              iterate 2 refine e_sp rfl rfl rfl ?_
              try dsimp only
              rw [nI_1]
              exact L3
            · try dsimp only
              dsimp only at h1
              rw [pk_mul] at h1
              exact absurd (nI_le (Nat.le_refl _) (by omega)) h1) (fun e he ihe => by
            iterate 4 refine e_sp rfl rfl rfl ?_
            refine e_icge rfl (fun h1 => ?_) (fun h1 => ?_)
            · try dsimp only
              dsimp only at h1
              rw [pk_mul] at h1
              exact absurd h1 (nI_ge he (by omega))
            · iterate 3 refine e_sp rfl rfl rfl ?_
              refine e_rem rfl (by exact hn0n) ?_
              try dsimp only
              rw [rmd n (by omega) hn0 (by omega)]
              iterate 2 refine e_sp rfl rfl rfl ?_
              refine e_div rfl (by exact hn0n) ?_
              try dsimp only
              rw [dvd9 n (by omega) hn0 (by omega)]
              refine e_callS1 ok_M_keyOf rfl lk_M_118 k_M_keyOf rfl rfl ⟨Nat.le_of_ble_eq_true rfl, Nat.le_of_ble_eq_true rfl⟩ ⟨Nat.zero_le _, Nat.zero_le _⟩ (Nat.le_of_ble_eq_true rfl) ?_
              iterate 2 refine e_sp rfl rfl rfl ?_
              refine e_rem rfl (by exact hn0n) ?_
              try dsimp only
              rw [rmd n (by omega) hn0 (by omega)]
              iterate 2 refine e_sp rfl rfl rfl ?_
              refine e_div rfl (by exact hn0n) ?_
              try dsimp only
              rw [dvd9 n (by omega) hn0 (by omega)]
              refine e_callS1 ok_M_keyOf rfl lk_M_118 k_M_keyOf rfl rfl ⟨Nat.le_of_ble_eq_true rfl, Nat.le_of_ble_eq_true rfl⟩ ⟨Nat.zero_le _, Nat.zero_le _⟩ (Nat.le_of_ble_eq_true rfl) ?_
              refine e_icge rfl (fun h2 => ?_) (fun h2 => ?_)
              · refine e_ci 0 rfl rfl ?_
                iterate 2 refine e_sp rfl rfl rfl ?_
                refine e_inc 1 rfl rfl rfl rfl ?_
                refine e_goto rfl ?_
                try dsimp only
                simp only [nI_1, Int32.add_zero]
                simp only [nF] at ihe
                rw [rkF] at ihe
                (first | rw [if_pos h2] at ihe | rw [if_neg h2] at ihe)
                exact ihe
              · refine e_ci 1 rfl rfl ?_
                refine e_goto rfl ?_
                iterate 2 refine e_sp rfl rfl rfl ?_
                refine e_inc 1 rfl rfl rfl rfl ?_
                refine e_goto rfl ?_
                try dsimp only
                simp only [nI_1, Int32.add_zero]
                simp only [nF] at ihe
                rw [rkF] at ihe
                (first | rw [if_pos h2] at ihe | rw [if_neg h2] at ihe)
                exact ihe)
        exact L2)
  exact L1 none none
set_option maxHeartbeats 4000000 in
set_option maxRecDepth 40000 in
theorem k_M_ordered {l : Launch} {h : Nat} {S : St} {q : Int32} : KK l (SHm h) (1, 24) m_M_ordered [aR 21, aI q] S (ans (some (aI (odR S q))) (odS S q)) := by
  refine k_start ok_M_ordered (Nat.le_of_ble_eq_true rfl) ?_
  iterate 2 refine e_sp rfl rfl rfl ?_
  refine e_ci 1 rfl rfl ?_
  refine e_cb 7 rfl rfl ?_
  refine e_callS1 ok_M_in rfl lk_M_110 k_M_in rfl rfl ⟨Nat.le_of_ble_eq_true rfl, Nat.le_of_ble_eq_true rfl⟩ ⟨Nat.zero_le _, Nat.zero_le _⟩ (Nat.le_of_ble_eq_true rfl) ?_
  refine e_ifeq rfl (fun h1 => ?_) (fun h1 => ?_)
  · refine e_ci 1 rfl rfl ?_
    iterate 3 refine e_sp rfl rfl rfl ?_
    refine e_ifle rfl (fun h2 => absurd h2 (by first | decide | simp [puI, pt, upd])) (fun _ => ?_)
    refine e_ci 0 rfl rfl ?_
    refine e_iret rfl rfl (Nat.le_refl _) (Nat.le_refl _) ?_
    exact ⟨by rw [odR, if_pos h1], by rw [odS, if_pos h1]⟩
  · refine e_ci 0 rfl rfl ?_
    refine e_goto rfl ?_
    iterate 3 refine e_sp rfl rfl rfl ?_
    refine e_ifle rfl (fun _ => ?_) (fun h3 => absurd h3 (by first | decide | simp [puI, pt, upd]))
    iterate 6 refine e_sp rfl rfl rfl ?_
    refine e_ci 1 rfl rfl ?_
    iterate 1 refine e_sp rfl rfl rfl ?_
    refine e_callV0 ok_M_blank rfl lk_M_58 (by rfl) (by rfl) k_M_blank rfl rfl ⟨Nat.le_of_ble_eq_true rfl, Nat.le_of_ble_eq_true rfl⟩ ⟨Nat.zero_le _, Nat.zero_le _⟩ (Nat.le_of_ble_eq_true rfl) ?_
    refine e_ci 0 rfl rfl ?_
    iterate 1 refine e_sp rfl rfl rfl ?_
    try dsimp only
    obtain ⟨n, hn, rfl⟩ := wi_1n (n := 7) (by decide) (show ¬ wi q 1 (nI 7) = 0 from h1)
    have hq : wi (nI (n + 1)) 1 7 ≠ 0 := h1
    rw [odR, odS, if_neg hq, if_neg hq, nI_clamp (by omega)]
    rw [pk_mul, nI_1]
    exact k_M_orderedL (by omega) (by omega)
