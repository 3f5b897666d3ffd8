def LGf (M : Nat → Nat) : Nat → Nat
  | 0 => 0
  | i + 1 => if LGf M i < M i then M i else LGf M i
def WTf (wy od : Nat → Nat) (k : Nat) : Nat := wy (6 * od (k - 1) + od k)
def STf (L : Nat) (Wf : Nat → Nat) : Nat → Nat
  | 0 => 0
  | k + 1 => STf L Wf k + L + Wf (k + 1)
/-- the minute at which the house is free for reel j -/
def frow (st : Nat) (cmr M : Nat → Nat) : Nat → Nat
  | 0 => st
  | j + 1 => (if frow st cmr M j < cmr j then cmr j else frow st cmr M j) + M j
def bgf (st : Nat) (cmr M : Nat → Nat) (j : Nat) : Nat := if frow st cmr M j < cmr j then cmr j else frow st cmr M j
/-- the minute at which reel j comes to the k-th house -/
def cmf (S M Wf la : Nat → Nat) (r : Nat) : Nat → Nat → Nat
  | 0 => fun _ => 0
  | k + 1 => fun j => bgf (S k) (cmf S M Wf la r k) M j + M j + Wf (k + 1) + la (k * r + j)
theorem frow_s (st : Nat) (cmr M : Nat → Nat) (j : Nat) : frow st cmr M (j + 1) = bgf st cmr M j + M j := rfl
def NB (r k : Nat) (fr wy od la : Nat → Nat) : Prop := r ≤ 8 ∧ k ≤ 6 ∧ (∀ j, j < r → 1 ≤ fr j ∧ fr j ≤ 20000) ∧ (∀ j, j < 36 → wy j ≤ 99) ∧ (∀ j, j < k → od j < 6) ∧ ∀ j, j < 40 → la j ≤ 200
def NC (σ : St) (r k : Nat) (fr wy od la : Nat → Nat) : Prop := σ 2 2 = nI r ∧ σ 3 5 = nI k ∧ (∀ j, j < r → σ 17 j = nI (fr j)) ∧ (∀ j, j < 36 → σ 16 j = nI (wy j)) ∧ (∀ j, j < k → σ 19 j = nI (od j)) ∧ ∀ j, j < 40 → σ 20 j = nI (la j)
def NM (μ : St) (r k : Nat) (fr wy od la : Nat → Nat) : Prop := μ 0 7 = nI r ∧ μ 0 10 = nI k ∧ (∀ j, j < r → μ 7 j = nI (fr j)) ∧ (∀ j, j < 36 → μ 5 j = nI (wy j)) ∧ (∀ j, j < k → μ 9 j = nI (od j)) ∧ ∀ j, j < 40 → μ 10 j = nI (la j)
theorem LG_le {M : Nat → Nat} {r : Nat} (h : ∀ j, j < r → M j ≤ 20) : ∀ i, i ≤ r → LGf M i ≤ 20 := by
  intro i
  induction i with
  | zero => intro _; show 0 ≤ 20; omega
  | succ i ih =>
    intro hi
    have h1 := h i (by omega)
    have h2 := ih (by omega)
    unfold LGf
    split <;> omega
theorem ST_le {L : Nat} {Wf : Nat → Nat} {k : Nat} (hL : L ≤ 20) (hW : ∀ j, 1 ≤ j → j < k → Wf j ≤ 99) : ∀ i, i < k → STf L Wf i ≤ 119 * i := by
  intro i
  induction i with
  | zero => intro _; exact Nat.le_refl 0
  | succ i ih =>
    intro hi
    have h1 := ih (by omega)
    have h2 := hW (i + 1) (by omega) (by omega)
    unfold STf
    omega
theorem WT_le {r k : Nat} {fr wy od la : Nat → Nat} (h : NB r k fr wy od la) : ∀ j, 1 ≤ j → j < k → WTf wy od j ≤ 99 := by
  obtain ⟨-, -, -, h4, h5, -⟩ := h
  intro j h1 h2
  have a := h5 (j - 1) (by omega)
  have b := h5 j (by omega)
  exact h4 _ (by omega)
theorem rowb {st b : Nat} {cmr M : Nat → Nat} {r : Nat} (hr : r ≤ 8) (hs : st ≤ b) (hc : ∀ j, j < r → cmr j ≤ b) (hM : ∀ j, j < r → M j ≤ 20) : ∀ j, j ≤ r → frow st cmr M j ≤ b + 20 * j := by
  intro j
  induction j with
  | zero => intro _; show st ≤ _; omega
  | succ j ih =>
    intro hj
    have h1 := ih (by omega)
    have h2 := hc j (by omega)
    have h3 := hM j (by omega)
    rw [frow_s]
    unfold bgf
    split <;> omega
theorem mulb {a b c d : Nat} (h1 : a ≤ c) (h2 : b ≤ d) : a * b ≤ c * d := Nat.mul_le_mul h1 h2
theorem ride_lt {k r j : Nat} (hk : k < 5) (hr : r ≤ 8) (hj : j < r) : k * r + j < 40 := by
  have h1 : k * r ≤ 4 * r := Nat.mul_le_mul (by omega) (Nat.le_refl r)
  omega
theorem cm_le {S M Wf la : Nat → Nat} {r k : Nat} (hr : r ≤ 8) (hk : k ≤ 6) (hS : ∀ i, i < k → S i ≤ 119 * i) (hM : ∀ j, j < r → M j ≤ 20) (hW : ∀ j, 1 ≤ j → j < k → Wf j ≤ 99) (hl : ∀ j, j < 40 → la j ≤ 200) : ∀ i, i < k → ∀ j, j < r → cmf S M Wf la r i j ≤ 500 * i := by
  intro i
  induction i with
  | zero => intro _ j _; show 0 ≤ _; omega
  | succ i ih =>
    intro hi j hj
    have h1 := rowb hr (show S i ≤ 500 * i from by have := hS i (by omega); omega) (ih (by omega)) hM j (by omega)
    have h2 := ih (by omega) j hj
    have h3 := hM j hj
    have h4 := hW (i + 1) (by omega) (by omega)
    have h5 := hl (i * r + j) (ride_lt (by omega) hr hj)
    show bgf (S i) (cmf S M Wf la r i) M j + M j + Wf (i + 1) + la (i * r + j) ≤ _
    unfold bgf
    split <;> omega
theorem c_min {σ : St} {r k : Nat} {fr wy od la : Nat → Nat} (hB : NB r k fr wy od la) (hC : NC σ r k fr wy od la) (j : Nat) (hj : j < r) : fX5_minutes σ (nI j) = some (σ, nI (mn (fr j))) := by
  obtain ⟨b1, b2, b3, -⟩ := hB
  exact e_minC (by omega) (hC.2.2.1 j hj) (b3 j hj).2
theorem m_min {σ : St} {r k : Nat} {fr wy od la : Nat → Nat} (hB : NB r k fr wy od la) (hC : NM σ r k fr wy od la) (j : Nat) (hj : j < r) : fX10_minutes σ (nI j) = some (σ, nI (mn (fr j))) := by
  obtain ⟨b1, b2, b3, -⟩ := hB
  exact e_minM (by omega) (hC.2.2.1 j hj) (b3 j hj).2
theorem c_longL {σ : St} {r k : Nat} {fr wy od la : Nat → Nat} (hB : NB r k fr wy od la) (hC : NC σ r k fr wy od la) : ∀ (d i n : Nat), i + d = r → d < n → fX5_longest_L4 n σ (nI (LGf (fun j => mn (fr j)) i)) (nI i) = some (σ, nI (LGf (fun j => mn (fr j)) r)) := by
  have hr := hB.1
  have r1 := hC.1
  have lg := LG_le (M := fun j => mn (fr j)) (r := r) (fun j hj => mn_le (hB.2.2.1 j hj).2)
  intro d
  induction d with
  | zero =>
    intro i n hi hn
    obtain ⟨n, rfl⟩ : ∃ m, n = m + 1 := ⟨n - 1, by omega⟩
    have : i = r := by omega
    subst this
    simp (disch := omega) only [fX5_longest_L4, r1, eq_self, obn_some, stp, itp, up_at, upd_at, cu_at, up_ne, upd_ne, cu_ne, nI_clamp, nI_lt0, nI_ltP, nI_leP, nI_eqP, nI_add, pk_mul, pk_sub, sub1_lt, pred_lt, if_pos, if_neg, if_true, if_false, false_or, or_false, true_or, or_true, not_true, not_false_iff, li_0, li_1, li_2, li_3, li_4, li_5, li_6, li_7, li_8, li_9, li_10, li_11, li_12, li_13, li_14, li_15, li_16, li_17, li_18, li_19, li_20, li_21, li_22, li_23, li_24, li_25, li_26, li_27, li_28, li_29, li_30, li_31, li_32, li_33, li_34, li_35, li_36, li_37, li_38, li_39, li_40, li_42, li_43, li_48, li_50, li_99, li_100, li_200, li_960, li_999, li_1600, li_9999, li_20000]
  | succ d ih =>
    intro i n hi hn
    obtain ⟨n, rfl⟩ : ∃ m, n = m + 1 := ⟨n - 1, by omega⟩
    have l1 := lg i (by omega)
    have l2 : mn (fr i) ≤ 20 := mn_le (hB.2.2.1 i (by omega)).2
    have s1 : LGf (fun j => mn (fr j)) (i + 1) = if LGf (fun j => mn (fr j)) i < mn (fr i) then mn (fr i) else LGf (fun j => mn (fr j)) i := rfl
    have nx := ih (i + 1) n (by omega) (by omega)
    rw [s1] at nx
    by_cases c : LGf (fun j => mn (fr j)) i < mn (fr i)
    · rw [if_pos c] at nx
      simp (disch := omega) only [fX5_longest_L4, r1, c_min hB hC i (by omega), eq_self, obn_some, stp, itp, up_at, upd_at, cu_at, up_ne, upd_ne, cu_ne, nI_clamp, nI_lt0, nI_ltP, nI_leP, nI_eqP, nI_add, pk_mul, pk_sub, sub1_lt, pred_lt, if_pos, if_neg, if_true, if_false, false_or, or_false, true_or, or_true, not_true, not_false_iff, li_0, li_1, li_2, li_3, li_4, li_5, li_6, li_7, li_8, li_9, li_10, li_11, li_12, li_13, li_14, li_15, li_16, li_17, li_18, li_19, li_20, li_21, li_22, li_23, li_24, li_25, li_26, li_27, li_28, li_29, li_30, li_31, li_32, li_33, li_34, li_35, li_36, li_37, li_38, li_39, li_40, li_42, li_43, li_48, li_50, li_99, li_100, li_200, li_960, li_999, li_1600, li_9999, li_20000]
      exact nx
    · rw [if_neg c] at nx
      simp (disch := omega) only [fX5_longest_L4, r1, c_min hB hC i (by omega), eq_self, obn_some, stp, itp, up_at, upd_at, cu_at, up_ne, upd_ne, cu_ne, nI_clamp, nI_lt0, nI_ltP, nI_leP, nI_eqP, nI_add, pk_mul, pk_sub, sub1_lt, pred_lt, if_pos, if_neg, if_true, if_false, false_or, or_false, true_or, or_true, not_true, not_false_iff, li_0, li_1, li_2, li_3, li_4, li_5, li_6, li_7, li_8, li_9, li_10, li_11, li_12, li_13, li_14, li_15, li_16, li_17, li_18, li_19, li_20, li_21, li_22, li_23, li_24, li_25, li_26, li_27, li_28, li_29, li_30, li_31, li_32, li_33, li_34, li_35, li_36, li_37, li_38, li_39, li_40, li_42, li_43, li_48, li_50, li_99, li_100, li_200, li_960, li_999, li_1600, li_9999, li_20000]
      exact nx
theorem m_longL {σ : St} {r k : Nat} {fr wy od la : Nat → Nat} (hB : NB r k fr wy od la) (hC : NM σ r k fr wy od la) : ∀ (d i n : Nat), i + d = r → d < n → fX10_longest_L4 n σ (nI (LGf (fun j => mn (fr j)) i)) (nI i) = some (σ, nI (LGf (fun j => mn (fr j)) r)) := by
  have hr := hB.1
  have r1 := hC.1
  have lg := LG_le (M := fun j => mn (fr j)) (r := r) (fun j hj => mn_le (hB.2.2.1 j hj).2)
  intro d
  induction d with
  | zero =>
    intro i n hi hn
    obtain ⟨n, rfl⟩ : ∃ m, n = m + 1 := ⟨n - 1, by omega⟩
    have : i = r := by omega
    subst this
    simp (disch := omega) only [fX10_longest_L4, r1, eq_self, obn_some, stp, itp, up_at, upd_at, cu_at, up_ne, upd_ne, cu_ne, nI_clamp, nI_lt0, nI_ltP, nI_leP, nI_eqP, nI_add, pk_mul, pk_sub, sub1_lt, pred_lt, if_pos, if_neg, if_true, if_false, false_or, or_false, true_or, or_true, not_true, not_false_iff, li_0, li_1, li_2, li_3, li_4, li_5, li_6, li_7, li_8, li_9, li_10, li_11, li_12, li_13, li_14, li_15, li_16, li_17, li_18, li_19, li_20, li_21, li_22, li_23, li_24, li_25, li_26, li_27, li_28, li_29, li_30, li_31, li_32, li_33, li_34, li_35, li_36, li_37, li_38, li_39, li_40, li_42, li_43, li_48, li_50, li_99, li_100, li_200, li_960, li_999, li_1600, li_9999, li_20000]
  | succ d ih =>
    intro i n hi hn
    obtain ⟨n, rfl⟩ : ∃ m, n = m + 1 := ⟨n - 1, by omega⟩
    have l1 := lg i (by omega)
    have l2 : mn (fr i) ≤ 20 := mn_le (hB.2.2.1 i (by omega)).2
    have s1 : LGf (fun j => mn (fr j)) (i + 1) = if LGf (fun j => mn (fr j)) i < mn (fr i) then mn (fr i) else LGf (fun j => mn (fr j)) i := rfl
    have nx := ih (i + 1) n (by omega) (by omega)
    rw [s1] at nx
    by_cases c : LGf (fun j => mn (fr j)) i < mn (fr i)
    · rw [if_pos c] at nx
      simp (disch := omega) only [fX10_longest_L4, r1, m_min hB hC i (by omega), eq_self, obn_some, stp, itp, up_at, upd_at, cu_at, up_ne, upd_ne, cu_ne, nI_clamp, nI_lt0, nI_ltP, nI_leP, nI_eqP, nI_add, pk_mul, pk_sub, sub1_lt, pred_lt, if_pos, if_neg, if_true, if_false, false_or, or_false, true_or, or_true, not_true, not_false_iff, li_0, li_1, li_2, li_3, li_4, li_5, li_6, li_7, li_8, li_9, li_10, li_11, li_12, li_13, li_14, li_15, li_16, li_17, li_18, li_19, li_20, li_21, li_22, li_23, li_24, li_25, li_26, li_27, li_28, li_29, li_30, li_31, li_32, li_33, li_34, li_35, li_36, li_37, li_38, li_39, li_40, li_42, li_43, li_48, li_50, li_99, li_100, li_200, li_960, li_999, li_1600, li_9999, li_20000]
      exact nx
    · rw [if_neg c] at nx
      simp (disch := omega) only [fX10_longest_L4, r1, m_min hB hC i (by omega), eq_self, obn_some, stp, itp, up_at, upd_at, cu_at, up_ne, upd_ne, cu_ne, nI_clamp, nI_lt0, nI_ltP, nI_leP, nI_eqP, nI_add, pk_mul, pk_sub, sub1_lt, pred_lt, if_pos, if_neg, if_true, if_false, false_or, or_false, true_or, or_true, not_true, not_false_iff, li_0, li_1, li_2, li_3, li_4, li_5, li_6, li_7, li_8, li_9, li_10, li_11, li_12, li_13, li_14, li_15, li_16, li_17, li_18, li_19, li_20, li_21, li_22, li_23, li_24, li_25, li_26, li_27, li_28, li_29, li_30, li_31, li_32, li_33, li_34, li_35, li_36, li_37, li_38, li_39, li_40, li_42, li_43, li_48, li_50, li_99, li_100, li_200, li_960, li_999, li_1600, li_9999, li_20000]
      exact nx
theorem c_way {σ : St} {r k : Nat} {fr wy od la : Nat → Nat} (hB : NB r k fr wy od la) (hC : NC σ r k fr wy od la) (j : Nat) (h1 : 1 ≤ j) (hj : j < k) : fX2_wayTo σ (nI j) = some (σ, nI (WTf wy od j)) := by
  obtain ⟨-, b2, -, -, b5, -⟩ := hB
  obtain ⟨-, -, -, c4, c5, -⟩ := hC
  have a1 := b5 (j - 1) (by omega)
  have a2 := b5 j hj
  have x1 := c5 (j - 1) (by omega)
  have x2 := c5 j hj
  have x3 := c4 (6 * od (j - 1) + od j) (by omega)
  have e : od (j - 1) * 6 + od j = 6 * od (j - 1) + od j := by omega
  simp (disch := omega) only [fX2_wayTo, fX3_between_10, x1, x2, e, x3, eq_self, obn_some, stp, itp, up_at, upd_at, cu_at, up_ne, upd_ne, cu_ne, nI_clamp, nI_lt0, nI_ltP, nI_leP, nI_eqP, nI_add, pk_mul, pk_sub, sub1_lt, pred_lt, if_pos, if_neg, if_true, if_false, false_or, or_false, true_or, or_true, not_true, not_false_iff, li_0, li_1, li_2, li_3, li_4, li_5, li_6, li_7, li_8, li_9, li_10, li_11, li_12, li_13, li_14, li_15, li_16, li_17, li_18, li_19, li_20, li_21, li_22, li_23, li_24, li_25, li_26, li_27, li_28, li_29, li_30, li_31, li_32, li_33, li_34, li_35, li_36, li_37, li_38, li_39, li_40, li_42, li_43, li_48, li_50, li_99, li_100, li_200, li_960, li_999, li_1600, li_9999, li_20000]
  rfl
theorem m_way {σ : St} {r k : Nat} {fr wy od la : Nat → Nat} (hB : NB r k fr wy od la) (hC : NM σ r k fr wy od la) (j : Nat) (h1 : 1 ≤ j) (hj : j < k) : fX10_wayTo σ (nI j) = some (σ, nI (WTf wy od j)) := by
  obtain ⟨-, b2, -, -, b5, -⟩ := hB
  obtain ⟨-, -, -, c4, c5, -⟩ := hC
  have a1 := b5 (j - 1) (by omega)
  have a2 := b5 j hj
  have x1 := c5 (j - 1) (by omega)
  have x2 := c5 j hj
  have x3 := c4 (6 * od (j - 1) + od j) (by omega)
  simp (disch := omega) only [fX10_wayTo, x1, x2, x3, eq_self, obn_some, stp, itp, up_at, upd_at, cu_at, up_ne, upd_ne, cu_ne, nI_clamp, nI_lt0, nI_ltP, nI_leP, nI_eqP, nI_add, pk_mul, pk_sub, sub1_lt, pred_lt, if_pos, if_neg, if_true, if_false, false_or, or_false, true_or, or_true, not_true, not_false_iff, li_0, li_1, li_2, li_3, li_4, li_5, li_6, li_7, li_8, li_9, li_10, li_11, li_12, li_13, li_14, li_15, li_16, li_17, li_18, li_19, li_20, li_21, li_22, li_23, li_24, li_25, li_26, li_27, li_28, li_29, li_30, li_31, li_32, li_33, li_34, li_35, li_36, li_37, li_38, li_39, li_40, li_42, li_43, li_48, li_50, li_99, li_100, li_200, li_960, li_999, li_1600, li_9999, li_20000]
  rfl
abbrev Lr (r : Nat) (fr : Nat → Nat) : Nat := LGf (fun j => mn (fr j)) r
abbrev Sr (r : Nat) (fr wy od : Nat → Nat) (j : Nat) : Nat := STf (Lr r fr) (WTf wy od) j
theorem Lr_le {r k : Nat} {fr wy od la : Nat → Nat} (hB : NB r k fr wy od la) : Lr r fr ≤ 20 := LG_le (fun j hj => mn_le (hB.2.2.1 j hj).2) r (Nat.le_refl r)
theorem Sr_le {r k : Nat} {fr wy od la : Nat → Nat} (hB : NB r k fr wy od la) : ∀ i, i < k → Sr r fr wy od i ≤ 119 * i := ST_le (Lr_le hB) (WT_le hB)
theorem c_startsL {r k : Nat} {fr wy od la : Nat → Nat} (hB : NB r k fr wy od la) : ∀ (d i n : Nat) (σ : St), NC σ r k fr wy od la → 1 ≤ i → i + d = k → d < n → (∀ j, j < i → σ 21 j = nI (Sr r fr wy od j)) → ∃ σ', fX2_reckonStarts_L17 n σ (nI (Lr r fr)) (nI i) = some (σ', nI 0) ∧ (∀ c, ¬ c = 21 → σ' c = σ c) ∧ ∀ j, j < k → σ' 21 j = nI (Sr r fr wy od j) := by
  have hk := hB.2.1
  have lr := Lr_le hB
  intro d
  induction d with
  | zero =>
    intro i n σ hC h1 hi hn hs
    obtain ⟨n, rfl⟩ : ∃ m, n = m + 1 := ⟨n - 1, by omega⟩
    have k1 := hC.2.1
    simp (disch := omega) only [fX2_reckonStarts_L17, k1, eq_self, obn_some, stp, itp, up_at, upd_at, cu_at, up_ne, upd_ne, cu_ne, nI_clamp, nI_lt0, nI_ltP, nI_leP, nI_eqP, nI_add, pk_mul, pk_sub, sub1_lt, pred_lt, if_pos, if_neg, if_true, if_false, false_or, or_false, true_or, or_true, not_true, not_false_iff, li_0, li_1, li_2, li_3, li_4, li_5, li_6, li_7, li_8, li_9, li_10, li_11, li_12, li_13, li_14, li_15, li_16, li_17, li_18, li_19, li_20, li_21, li_22, li_23, li_24, li_25, li_26, li_27, li_28, li_29, li_30, li_31, li_32, li_33, li_34, li_35, li_36, li_37, li_38, li_39, li_40, li_42, li_43, li_48, li_50, li_99, li_100, li_200, li_960, li_999, li_1600, li_9999, li_20000]
    exact ⟨σ, rfl, fun _ _ => rfl, fun j hj => hs j (by omega)⟩
  | succ d ih =>
    intro i n σ hC h1 hi hn hs
    obtain ⟨n, rfl⟩ : ∃ m, n = m + 1 := ⟨n - 1, by omega⟩
    have k1 := hC.2.1
    have s1 := hs (i - 1) (by omega)
    have s2 := Sr_le hB (i - 1) (by omega)
    have w1 := WT_le hB i h1 (by omega)
    have w2 := c_way hB hC i h1 (by omega)
    have e : Sr r fr wy od i = Sr r fr wy od (i - 1) + Lr r fr + WTf wy od i := by
      obtain ⟨q, rfl⟩ : ∃ q, i = q + 1 := ⟨i - 1, by omega⟩
      rfl
    simp (disch := omega) only [fX2_reckonStarts_L17, k1, s1, w2, eq_self, obn_some, stp, itp, up_at, upd_at, cu_at, up_ne, upd_ne, cu_ne, nI_clamp, nI_lt0, nI_ltP, nI_leP, nI_eqP, nI_add, pk_mul, pk_sub, sub1_lt, pred_lt, if_pos, if_neg, if_true, if_false, false_or, or_false, true_or, or_true, not_true, not_false_iff, li_0, li_1, li_2, li_3, li_4, li_5, li_6, li_7, li_8, li_9, li_10, li_11, li_12, li_13, li_14, li_15, li_16, li_17, li_18, li_19, li_20, li_21, li_22, li_23, li_24, li_25, li_26, li_27, li_28, li_29, li_30, li_31, li_32, li_33, li_34, li_35, li_36, li_37, li_38, li_39, li_40, li_42, li_43, li_48, li_50, li_99, li_100, li_200, li_960, li_999, li_1600, li_9999, li_20000]
    rw [← e]
    obtain ⟨σ', y1, y2, y3⟩ := ih (i + 1) n (up σ 21 i (nI (Sr r fr wy od i))) hC (by omega) (by omega) (by omega) (by
      intro j hj
      rw [up_at]
      by_cases ej : j = i
      · subst ej; rw [upd_at]
      · rw [upd_ne _ _ ej]; exact hs j (by omega))
    exact ⟨σ', y1, fun c hc => by rw [y2 c hc, up_ne _ _ _ hc], y3⟩
theorem c_starts {σ : St} {r k : Nat} {fr wy od la : Nat → Nat} (hB : NB r k fr wy od la) (hC : NC σ r k fr wy od la) : ∃ σ', fX2_reckonStarts σ = some (σ', nI 0) ∧ (∀ c, ¬ c = 21 → σ' c = σ c) ∧ ∀ j, j < k → σ' 21 j = nI (Sr r fr wy od j) := by
  have hk := hB.2.1
  have hr := hB.1
  have k1 := hC.2.1
  have l1 : fX5_longest_L4 50 σ (nI 0) (nI 0) = some (σ, nI (Lr r fr)) := c_longL hB hC r 0 50 (by omega) (by omega)
  by_cases hk0 : k = 0
  · subst hk0
    have l0 : fX2_reckonStarts_L17 50 (up σ 21 0 (nI 0)) (nI (Lr r fr)) (nI 1) = some (up σ 21 0 (nI 0), nI 0) := by
      show fX2_reckonStarts_L17 (49 + 1) (up σ 21 0 (nI 0)) (nI (Lr r fr)) (nI 1) = _
      rw [fX2_reckonStarts_L17]
      simp (disch := omega) only [k1, eq_self, obn_some, stp, itp, up_at, upd_at, cu_at, up_ne, upd_ne, cu_ne, nI_clamp, nI_lt0, nI_ltP, nI_leP, nI_eqP, nI_add, pk_mul, pk_sub, sub1_lt, pred_lt, if_pos, if_neg, if_true, if_false, false_or, or_false, true_or, or_true, not_true, not_false_iff, li_0, li_1, li_2, li_3, li_4, li_5, li_6, li_7, li_8, li_9, li_10, li_11, li_12, li_13, li_14, li_15, li_16, li_17, li_18, li_19, li_20, li_21, li_22, li_23, li_24, li_25, li_26, li_27, li_28, li_29, li_30, li_31, li_32, li_33, li_34, li_35, li_36, li_37, li_38, li_39, li_40, li_42, li_43, li_48, li_50, li_99, li_100, li_200, li_960, li_999, li_1600, li_9999, li_20000]
    simp (disch := omega) only [fX2_reckonStarts, fX5_longest, l1, l0, eq_self, obn_some, stp, itp, up_at, upd_at, cu_at, up_ne, upd_ne, cu_ne, nI_clamp, nI_lt0, nI_ltP, nI_leP, nI_eqP, nI_add, pk_mul, pk_sub, sub1_lt, pred_lt, if_pos, if_neg, if_true, if_false, false_or, or_false, true_or, or_true, not_true, not_false_iff, li_0, li_1, li_2, li_3, li_4, li_5, li_6, li_7, li_8, li_9, li_10, li_11, li_12, li_13, li_14, li_15, li_16, li_17, li_18, li_19, li_20, li_21, li_22, li_23, li_24, li_25, li_26, li_27, li_28, li_29, li_30, li_31, li_32, li_33, li_34, li_35, li_36, li_37, li_38, li_39, li_40, li_42, li_43, li_48, li_50, li_99, li_100, li_200, li_960, li_999, li_1600, li_9999, li_20000]
    exact ⟨_, rfl, fun c hc => up_ne _ _ _ hc, fun j hj => absurd hj (by omega)⟩
  obtain ⟨σ', y1, y2, y3⟩ := c_startsL hB (k - 1) 1 50 (up σ 21 0 (nI 0)) hC (by omega) (by omega) (by omega) (by
    intro j hj
    have : j = 0 := by omega
    subst this
    rfl)
  simp (disch := omega) only [fX2_reckonStarts, fX5_longest, l1, y1, eq_self, obn_some, stp, itp, up_at, upd_at, cu_at, up_ne, upd_ne, cu_ne, nI_clamp, nI_lt0, nI_ltP, nI_leP, nI_eqP, nI_add, pk_mul, pk_sub, sub1_lt, pred_lt, if_pos, if_neg, if_true, if_false, false_or, or_false, true_or, or_true, not_true, not_false_iff, li_0, li_1, li_2, li_3, li_4, li_5, li_6, li_7, li_8, li_9, li_10, li_11, li_12, li_13, li_14, li_15, li_16, li_17, li_18, li_19, li_20, li_21, li_22, li_23, li_24, li_25, li_26, li_27, li_28, li_29, li_30, li_31, li_32, li_33, li_34, li_35, li_36, li_37, li_38, li_39, li_40, li_42, li_43, li_48, li_50, li_99, li_100, li_200, li_960, li_999, li_1600, li_9999, li_20000]
  exact ⟨σ', rfl, fun c hc => by rw [y2 c hc, up_ne _ _ _ hc], y3⟩
theorem m_startL {μ : St} {r k : Nat} {fr wy od la : Nat → Nat} (hB : NB r k fr wy od la) (hC : NM μ r k fr wy od la) (q : Nat) (hq : q < k) : ∀ (d i n : Nat), 1 ≤ i → i + d = q + 1 → d < n → fX10_startOf_L4 n μ (nI q) (nI (Sr r fr wy od (i - 1))) (nI i) = some (μ, nI (Sr r fr wy od q)) := by
  have hk := hB.2.1
  have hr := hB.1
  have lr := Lr_le hB
  have l1 : fX10_longest_L4 50 μ (nI 0) (nI 0) = some (μ, nI (Lr r fr)) := m_longL hB hC r 0 50 (by omega) (by omega)
  intro d
  induction d with
  | zero =>
    intro i n h1 hi hn
    obtain ⟨n, rfl⟩ : ∃ m, n = m + 1 := ⟨n - 1, by omega⟩
    have e : i = q + 1 := by omega
    subst e
    simp (disch := omega) only [fX10_startOf_L4, eq_self, obn_some, stp, itp, up_at, upd_at, cu_at, up_ne, upd_ne, cu_ne, nI_clamp, nI_lt0, nI_ltP, nI_leP, nI_eqP, nI_add, pk_mul, pk_sub, sub1_lt, pred_lt, if_pos, if_neg, if_true, if_false, false_or, or_false, true_or, or_true, not_true, not_false_iff, li_0, li_1, li_2, li_3, li_4, li_5, li_6, li_7, li_8, li_9, li_10, li_11, li_12, li_13, li_14, li_15, li_16, li_17, li_18, li_19, li_20, li_21, li_22, li_23, li_24, li_25, li_26, li_27, li_28, li_29, li_30, li_31, li_32, li_33, li_34, li_35, li_36, li_37, li_38, li_39, li_40, li_42, li_43, li_48, li_50, li_99, li_100, li_200, li_960, li_999, li_1600, li_9999, li_20000]
    rfl
  | succ d ih =>
    intro i n h1 hi hn
    obtain ⟨n, rfl⟩ : ∃ m, n = m + 1 := ⟨n - 1, by omega⟩
    have s2 := Sr_le hB (i - 1) (by omega)
    have w1 := WT_le hB i h1 (by omega)
    have w2 := m_way hB hC i h1 (by omega)
    have e : Sr r fr wy od (i - 1) + (Lr r fr + WTf wy od i) = Sr r fr wy od i := by
      obtain ⟨q, rfl⟩ : ∃ q, i = q + 1 := ⟨i - 1, by omega⟩
      show STf _ _ q + _ = STf _ _ q + _ + _
      omega
    simp (disch := omega) only [fX10_startOf_L4, fX10_longest, l1, w2, e, eq_self, obn_some, stp, itp, up_at, upd_at, cu_at, up_ne, upd_ne, cu_ne, nI_clamp, nI_lt0, nI_ltP, nI_leP, nI_eqP, nI_add, pk_mul, pk_sub, sub1_lt, pred_lt, if_pos, if_neg, if_true, if_false, false_or, or_false, true_or, or_true, not_true, not_false_iff, li_0, li_1, li_2, li_3, li_4, li_5, li_6, li_7, li_8, li_9, li_10, li_11, li_12, li_13, li_14, li_15, li_16, li_17, li_18, li_19, li_20, li_21, li_22, li_23, li_24, li_25, li_26, li_27, li_28, li_29, li_30, li_31, li_32, li_33, li_34, li_35, li_36, li_37, li_38, li_39, li_40, li_42, li_43, li_48, li_50, li_99, li_100, li_200, li_960, li_999, li_1600, li_9999, li_20000]
    exact ih (i + 1) n (by omega) (by omega) (by omega)
theorem m_start {μ : St} {r k : Nat} {fr wy od la : Nat → Nat} (hB : NB r k fr wy od la) (hC : NM μ r k fr wy od la) (q : Nat) (hq : q < k) : fX10_startOf μ (nI q) = some (μ, nI (Sr r fr wy od q)) := by
  have hk := hB.2.1
  unfold fX10_startOf
  exact m_startL hB hC q hq q 1 50 (by omega) (by omega) (by omega)
