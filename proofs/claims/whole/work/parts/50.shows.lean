abbrev Mf (fr : Nat → Nat) : Nat → Nat := fun j => mn (fr j)
abbrev Cm (r : Nat) (fr wy od la : Nat → Nat) : Nat → Nat → Nat := cmf (Sr r fr wy od) (Mf fr) (WTf wy od) la r
abbrev Fe (r : Nat) (fr wy od la : Nat → Nat) (q j : Nat) : Nat := frow (Sr r fr wy od q) (Cm r fr wy od la q) (Mf fr) j
abbrev Bg (r : Nat) (fr wy od la : Nat → Nat) (q j : Nat) : Nat := bgf (Sr r fr wy od q) (Cm r fr wy od la q) (Mf fr) j
theorem Mf_le {r k : Nat} {fr wy od la : Nat → Nat} (hB : NB r k fr wy od la) : ∀ j, j < r → Mf fr j ≤ 20 := fun j hj => mn_le (hB.2.2.1 j hj).2
theorem Cm_le {r k : Nat} {fr wy od la : Nat → Nat} (hB : NB r k fr wy od la) : ∀ i, i < k → ∀ j, j < r → Cm r fr wy od la i j ≤ 500 * i := cm_le hB.1 hB.2.1 (Sr_le hB) (Mf_le hB) (WT_le hB) hB.2.2.2.2.2
theorem Fe_le {r k : Nat} {fr wy od la : Nat → Nat} (hB : NB r k fr wy od la) (q : Nat) (hq : q < k) : ∀ j, j ≤ r → Fe r fr wy od la q j ≤ 500 * q + 20 * j := rowb hB.1 (by have := Sr_le hB q hq; omega) (Cm_le hB q hq) (Mf_le hB)
theorem Bg_le {r k : Nat} {fr wy od la : Nat → Nat} (hB : NB r k fr wy od la) (q : Nat) (hq : q < k) (j : Nat) (hj : j < r) : Bg r fr wy od la q j ≤ 500 * q + 20 * j := by
  have h1 := Fe_le hB q hq j (by omega)
  have h2 := Cm_le hB q hq j hj
  show bgf _ _ _ j ≤ _
  unfold bgf
  split
  · omega
  · exact h1
theorem Bg_ge (r : Nat) (fr wy od la : Nat → Nat) (q j : Nat) : Fe r fr wy od la q j ≤ Bg r fr wy od la q j := by
  show _ ≤ bgf _ _ _ j
  unfold bgf
  split
  · rename_i h
    exact Nat.le_of_lt h
  · exact Nat.le_refl _
theorem Fe_s (r : Nat) (fr wy od la : Nat → Nat) (q j : Nat) : Fe r fr wy od la q (j + 1) = Bg r fr wy od la q j + Mf fr j := rfl
theorem Cm_s (r : Nat) (fr wy od la : Nat → Nat) (q j : Nat) : Cm r fr wy od la (q + 1) j = Bg r fr wy od la q j + Mf fr j + WTf wy od (q + 1) + la (q * r + j) := rfl
/-- by whose fault: the ride, or NONE -/
def srch (c : Nat → Int32) : Nat → Int32
  | 0 => c 0
  | j + 1 => if c (j + 1) = -1000000005 then srch c j else c (j + 1)
def czf (r : Nat) (G la : Nat → Nat → Nat) (lf : Nat → Nat) : Nat → Nat → Int32
  | 0 => fun _ => -1000000005
  | q + 1 => fun j => if G (q + 1) j = 0 then -1000000005 else if 0 < lf (q * r + j) then nI (q * r + j) else srch (czf r G la lf q) j
abbrev Gp (r : Nat) (fr wy od la : Nat → Nat) (q j : Nat) : Nat := Bg r fr wy od la q j - Fe r fr wy od la q j
abbrev Cz (r : Nat) (fr wy od la : Nat → Nat) : Nat → Nat → Int32 := czf r (Gp r fr wy od la) (fun _ _ => 0) la
/-- the class's rows up to house q, reel j -/
def shC (σ : St) (r : Nat) (fr wy od la : Nat → Nat) (q i : Nat) : Prop := ∀ a j, j < r → (a < q ∨ (a = q ∧ j < i)) → σ 22 (8 * a + j) = nI (Cm r fr wy od la a j) ∧ σ 23 (8 * a + j) = nI (Bg r fr wy od la a j) ∧ σ 24 (8 * a + j) = nI (Gp r fr wy od la a j) ∧ σ 25 (8 * a + j) = Cz r fr wy od la a j
theorem nI_m1 (j : Nat) : nI (j + 1) + -nI 1 = nI j := pk_m1 j
theorem nI_00 : nI 0 + -nI 1 = -nI 1 := by decide
theorem c_ended {σ : St} {r k : Nat} {fr wy od la : Nat → Nat} (hB : NB r k fr wy od la) (hC : NC σ r k fr wy od la) {q j : Nat} (hq : q < k) (hj : j < r) (e : σ 23 (8 * q + j) = nI (Bg r fr wy od la q j)) : fX2_endedAt σ (nI q) (nI j) = some (σ, nI (Bg r fr wy od la q j + Mf fr j)) := by
  have hr := hB.1
  have hk := hB.2.1
  have e1 : q * 8 + j = 8 * q + j := by omega
  unfold fX2_endedAt
  simp (disch := omega) only [fX2_cell, e1, e, c_min hB hC j hj, eq_self, obn_some, stp, itp, up_at, upd_at, cu_at, up_ne, upd_ne, cu_ne, nI_clamp, nI_lt0, nI_ltP, nI_leP, nI_eqP, nI_add, pk_mul, pk_sub, sub1_lt, pred_lt, if_pos, if_neg, if_true, if_false, false_or, or_false, true_or, or_true, not_true, not_false_iff, li_0, li_1, li_2, li_3, li_4, li_5, li_6, li_7, li_8, li_9, li_10, li_11, li_12, li_13, li_14, li_15, li_16, li_17, li_18, li_19, li_20, li_21, li_22, li_23, li_24, li_25, li_26, li_27, li_28, li_29, li_30, li_31, li_32, li_33, li_34, li_35, li_36, li_37, li_38, li_39, li_40, li_42, li_43, li_48, li_50, li_99, li_100, li_200, li_960, li_999, li_1600, li_9999, li_20000]
theorem c_comes {σ : St} {r k : Nat} {fr wy od la : Nat → Nat} (hB : NB r k fr wy od la) (hC : NC σ r k fr wy od la) {q j : Nat} (hq : q < k) (hj : j < r) (e : ∀ a, q = a + 1 → σ 23 (8 * a + j) = nI (Bg r fr wy od la a j)) : fX2_comesTo σ (nI q) (nI j) = some (σ, nI (Cm r fr wy od la q j)) := by
  have hr := hB.1
  have hk := hB.2.1
  have r1 := hC.1
  by_cases h0 : q = 0
  · subst h0
    unfold fX2_comesTo
    rw [if_pos (show nI 0 = (0 : Int32) from rfl)]
    rfl
  obtain ⟨a, rfl⟩ : ∃ a, q = a + 1 := ⟨q - 1, by omega⟩
  have rl := ride_lt (k := a) (r := r) (j := j) (by omega) hr hj
  have x1 := c_ended hB hC (q := a) (by omega) hj (e a rfl)
  have x2 := c_way hB hC (a + 1) (by omega) hq
  have x3 := hC.2.2.2.2.2 (a * r + j) rl
  have e3 : a + 1 - 1 = a := by omega
  rw [Cm_s]
  unfold fX2_comesTo
  simp (disch := omega) only [fX2_rideOf, e3, x1, x2, r1, x3, eq_self, obn_some, stp, itp, up_at, upd_at, cu_at, up_ne, upd_ne, cu_ne, nI_clamp, nI_lt0, nI_ltP, nI_leP, nI_eqP, nI_add, pk_mul, pk_sub, sub1_lt, pred_lt, if_pos, if_neg, if_true, if_false, false_or, or_false, true_or, or_true, not_true, not_false_iff, li_0, li_1, li_2, li_3, li_4, li_5, li_6, li_7, li_8, li_9, li_10, li_11, li_12, li_13, li_14, li_15, li_16, li_17, li_18, li_19, li_20, li_21, li_22, li_23, li_24, li_25, li_26, li_27, li_28, li_29, li_30, li_31, li_32, li_33, li_34, li_35, li_36, li_37, li_38, li_39, li_40, li_42, li_43, li_48, li_50, li_99, li_100, li_200, li_960, li_999, li_1600, li_9999, li_20000]
theorem c_srch {σ : St} {r k : Nat} (hr : r ≤ 8) (hk : k ≤ 6) {a : Nat} (ha : a + 1 < k) (Z : Nat → Int32) : ∀ (j n : Nat), j < r → j + 1 < n → (∀ i, i ≤ j → σ 25 (8 * a + i) = Z i) → fX2_causeOf_L41 n σ (nI (a + 1)) (nI j) = some (σ, srch Z j) := by
  have hcl : ∀ i, fX2_cell σ (nI (a + 1) - 1) (nI i) = some (σ, nI (8 * a + i)) := by
    intro i
    unfold fX2_cell
    rw [show nI (a + 1) - 1 = nI a from nI_pred a, show nI a * 8 + nI i = nI (8 * a + i) by rw [show (8 : Int32) = nI 8 from rfl, pk_mul, nI_add]; congr 1; omega]
  intro j
  induction j with
  | zero =>
    intro n hj hn hz
    obtain ⟨n, rfl⟩ : ∃ m, n = m + 1 + 1 := ⟨n - 2, by omega⟩
    have z0 := hz 0 (by omega)
    have l0 : fX2_causeOf_L41 (n + 1) σ (nI (a + 1)) (-1) = some (σ, -1000000005) := by
      rw [fX2_causeOf_L41, if_pos (by decide)]
    rw [fX2_causeOf_L41, if_neg (show ¬ nI 0 < (0 : Int32) from by decide), stq (hcl 0), if_neg (nI_in (show 8 * a + 0 < 48 by omega) (by decide)), nI_clamp (show 8 * a + 0 < 2 ^ 31 by omega), itp, z0]
    show _ = some (σ, Z 0)
    by_cases hc : Z 0 = -1000000005
    · rw [if_pos hc, show nI 0 + (-1) = -1 from by decide, l0, hc]
    · rw [if_neg hc]
  | succ j ih =>
    intro n hj hn hz
    obtain ⟨n, rfl⟩ : ∃ m, n = m + 1 := ⟨n - 1, by omega⟩
    have z0 := hz (j + 1) (by omega)
    have nx := ih n (by omega) (by omega) (fun i hi => hz i (by omega))
    rw [fX2_causeOf_L41, srch, if_neg (show ¬ nI (j + 1) < (0 : Int32) from nI_pos (by omega)), stq (hcl (j + 1)), if_neg (nI_in (show 8 * a + (j + 1) < 48 by omega) (by decide)), nI_clamp (show 8 * a + (j + 1) < 2 ^ 31 by omega), itp, z0]
    by_cases hc : Z (j + 1) = -1000000005
    · rw [if_pos hc, if_pos hc, pk_m1]
      exact nx
    · rw [if_neg hc, if_neg hc]
theorem c_cause {σ : St} {r k : Nat} {fr wy od la : Nat → Nat} (hB : NB r k fr wy od la) (hC : NC σ r k fr wy od la) {q j : Nat} (hq : q < k) (hj : j < r) (e : σ 24 (8 * q + j) = nI (Gp r fr wy od la q j)) (ez : ∀ a, q = a + 1 → ∀ i, i ≤ j → σ 25 (8 * a + i) = Cz r fr wy od la a i) : fX2_causeOf σ (nI q) (nI j) = some (σ, Cz r fr wy od la q j) := by
  have hr := hB.1
  have hk := hB.2.1
  have r1 := hC.1
  have bb := Bg_le hB q hq j hj
  by_cases h0 : q = 0
  · subst h0
    unfold fX2_causeOf
    rw [if_pos (show nI 0 = (0 : Int32) from rfl)]
    rfl
  obtain ⟨a, rfl⟩ : ∃ a, q = a + 1 := ⟨q - 1, by omega⟩
  have rl := ride_lt (k := a) (r := r) (j := j) (by omega) hr hj
  have x3 := hC.2.2.2.2.2 (a * r + j) rl
  have lb := hB.2.2.2.2.2 (a * r + j) rl
  have e3 : a + 1 - 1 = a := by omega
  have e4 : (a + 1) * 8 + j = 8 * (a + 1) + j := by omega
  have zz : Cz r fr wy od la (a + 1) j = if Gp r fr wy od la (a + 1) j = 0 then -1000000005 else if 0 < la (a * r + j) then nI (a * r + j) else srch (Cz r fr wy od la a) j := rfl
  rw [zz]
  unfold fX2_causeOf
  have gl : Gp r fr wy od la (a + 1) j < 2 ^ 31 := by
    show Bg r fr wy od la (a + 1) j - Fe r fr wy od la (a + 1) j < 2 ^ 31
    omega
  generalize Gp r fr wy od la (a + 1) j = G at e gl ⊢
  by_cases hg : G = 0
  · rw [if_pos hg]
    simp (disch := omega) only [fX2_cell, e4, e, eq_self, obn_some, stp, itp, up_at, upd_at, cu_at, up_ne, upd_ne, cu_ne, nI_clamp, nI_lt0, nI_ltP, nI_leP, nI_eqP, nI_add, pk_mul, pk_sub, sub1_lt, pred_lt, if_pos, if_neg, if_true, if_false, false_or, or_false, true_or, or_true, not_true, not_false_iff, li_0, li_1, li_2, li_3, li_4, li_5, li_6, li_7, li_8, li_9, li_10, li_11, li_12, li_13, li_14, li_15, li_16, li_17, li_18, li_19, li_20, li_21, li_22, li_23, li_24, li_25, li_26, li_27, li_28, li_29, li_30, li_31, li_32, li_33, li_34, li_35, li_36, li_37, li_38, li_39, li_40, li_42, li_43, li_48, li_50, li_99, li_100, li_200, li_960, li_999, li_1600, li_9999, li_20000]
  rw [if_neg hg]
  by_cases hl : 0 < la (a * r + j)
  · rw [if_pos hl]
    simp (disch := omega) only [fX2_cell, fX2_rideOf, e3, e4, e, r1, x3, eq_self, obn_some, stp, itp, up_at, upd_at, cu_at, up_ne, upd_ne, cu_ne, nI_clamp, nI_lt0, nI_ltP, nI_leP, nI_eqP, nI_add, pk_mul, pk_sub, sub1_lt, pred_lt, if_pos, if_neg, if_true, if_false, false_or, or_false, true_or, or_true, not_true, not_false_iff, li_0, li_1, li_2, li_3, li_4, li_5, li_6, li_7, li_8, li_9, li_10, li_11, li_12, li_13, li_14, li_15, li_16, li_17, li_18, li_19, li_20, li_21, li_22, li_23, li_24, li_25, li_26, li_27, li_28, li_29, li_30, li_31, li_32, li_33, li_34, li_35, li_36, li_37, li_38, li_39, li_40, li_42, li_43, li_48, li_50, li_99, li_100, li_200, li_960, li_999, li_1600, li_9999, li_20000]
  · rw [if_neg hl]
    have ls := c_srch (σ := σ) hr hk (a := a) hq (Cz r fr wy od la a) j 50 hj (by omega) (ez a rfl)
    simp (disch := omega) only [fX2_cell, fX2_rideOf, e3, e4, e, r1, x3, ls, eq_self, obn_some, stp, itp, up_at, upd_at, cu_at, up_ne, upd_ne, cu_ne, nI_clamp, nI_lt0, nI_ltP, nI_leP, nI_eqP, nI_add, pk_mul, pk_sub, sub1_lt, pred_lt, if_pos, if_neg, if_true, if_false, false_or, or_false, true_or, or_true, not_true, not_false_iff, li_0, li_1, li_2, li_3, li_4, li_5, li_6, li_7, li_8, li_9, li_10, li_11, li_12, li_13, li_14, li_15, li_16, li_17, li_18, li_19, li_20, li_21, li_22, li_23, li_24, li_25, li_26, li_27, li_28, li_29, li_30, li_31, li_32, li_33, li_34, li_35, li_36, li_37, li_38, li_39, li_40, li_42, li_43, li_48, li_50, li_99, li_100, li_200, li_960, li_999, li_1600, li_9999, li_20000]
theorem at8 {a b i j r : Nat} (hr : r ≤ 8) (hi : i < r) (hj : j < r) (h : 8 * a + i = 8 * b + j) : a = b ∧ i = j := by omega
set_option maxRecDepth 100000 in
set_option maxHeartbeats 8000000 in
theorem c_showL {r k : Nat} {fr wy od la : Nat → Nat} (hB : NB r k fr wy od la) {q : Nat} (hq : q < k) : ∀ (d i n : Nat) (σ : St), NC σ r k fr wy od la → i + d = r → d < n → shC σ r fr wy od la q i → ∃ σ', fX2_reckonShow_L9 n σ (nI q) (nI (Fe r fr wy od la q i)) (nI i) = some (σ', nI 0) ∧ (∀ c, c < 22 ∨ 25 < c → σ' c = σ c) ∧ shC σ' r fr wy od la (q + 1) 0 := by
  have hr := hB.1
  have hk := hB.2.1
  intro d
  induction d with
  | zero =>
    intro i n σ hC hi hn hs
    obtain ⟨n, rfl⟩ : ∃ m, n = m + 1 := ⟨n - 1, by omega⟩
    have r1 := hC.1
    have e : i = r := by omega
    subst e
    rw [fX2_reckonShow_L9, r1, if_pos (nI_le (Nat.le_refl _) (by omega))]
    exact ⟨σ, rfl, fun _ _ => rfl, fun a j hj h => hs a j hj (by omega)⟩
  | succ d ih =>
    intro i n σ hC hi hn hs
    obtain ⟨n, rfl⟩ : ∃ m, n = m + 1 := ⟨n - 1, by omega⟩
    have r1 := hC.1
    have hir : i < r := by omega
    have e8 : q * 8 + i = 8 * q + i := by omega
    have fb := Fe_le hB q hq i (by omega)
    have cb := Cm_le hB q hq i hir
    have bb := Bg_le hB q hq i hir
    have bg := Bg_ge r fr wy od la q i
    have mb := Mf_le hB i hir
    have x1 := c_comes hB hC hq hir (fun a ha => (hs a i hir (by omega)).2.1)
    have bd : Bg r fr wy od la q i = if Fe r fr wy od la q i < Cm r fr wy od la q i then Cm r fr wy od la q i else Fe r fr wy od la q i := rfl
    -- the rows written so far in this round
    have hcl : fX2_cell σ (nI q) (nI i) = some (σ, nI (8 * q + i)) := by simp (disch := omega) only [fX2_cell, e8, eq_self, obn_some, stp, itp, up_at, upd_at, cu_at, up_ne, upd_ne, cu_ne, nI_clamp, nI_lt0, nI_ltP, nI_leP, nI_eqP, nI_add, pk_mul, pk_sub, sub1_lt, pred_lt, if_pos, if_neg, if_true, if_false, false_or, or_false, true_or, or_true, not_true, not_false_iff, li_0, li_1, li_2, li_3, li_4, li_5, li_6, li_7, li_8, li_9, li_10, li_11, li_12, li_13, li_14, li_15, li_16, li_17, li_18, li_19, li_20, li_21, li_22, li_23, li_24, li_25, li_26, li_27, li_28, li_29, li_30, li_31, li_32, li_33, li_34, li_35, li_36, li_37, li_38, li_39, li_40, li_42, li_43, li_48, li_50, li_99, li_100, li_200, li_960, li_999, li_1600, li_9999, li_20000]
    rw [fX2_reckonShow_L9, r1, if_neg (nI_ge hir (by omega)), stq hcl, stq x1]
    have g1 : ¬ (nI (8 * q + i) < 0 ∨ 48 ≤ (nI (8 * q + i)).toNatClampNeg) := nI_in (by omega) (by decide)
    have cl : (nI (8 * q + i)).toNatClampNeg = 8 * q + i := nI_clamp (by omega)
    have g2 : ¬ (nI (8 * q + i) < 0 ∨ 48 ≤ 8 * q + i) := by rw [cl] at g1; exact g1
    rw [if_neg g1, cl, stp, if_neg g2]
    rw [if_neg g2, up_at, upd_at]
    have eb : (if nI (Fe r fr wy od la q i) < nI (Cm r fr wy od la q i) then nI (Cm r fr wy od la q i) else nI (Fe r fr wy od la q i)) = nI (Bg r fr wy od la q i) := by
      rw [bd]
      by_cases hc : Fe r fr wy od la q i < Cm r fr wy od la q i
      · rw [if_pos hc, if_pos (nI_lt hc (by omega))]
      · rw [if_neg hc, if_neg (nI_nlt (by omega) (by omega))]
    rw [eb, stp, if_neg g2, if_neg g2, up_at, upd_at, pk_sub bg, stp]
    generalize hσ3 : up (up (up σ 22 (8 * q + i) (nI (Cm r fr wy od la q i))) 23 (8 * q + i) (nI (Bg r fr wy od la q i))) 24 (8 * q + i) (nI (Bg r fr wy od la q i - Fe r fr wy od la q i)) = σ3
    have k3 : ∀ c, c < 22 ∨ 24 < c → σ3 c = σ c := fun c hc => by rw [← hσ3, up_ne _ _ _ (by omega), up_ne _ _ _ (by omega), up_ne _ _ _ (by omega)]
    have v22 : σ3 22 = upd (σ 22) (8 * q + i) (nI (Cm r fr wy od la q i)) := by rw [← hσ3, up_ne _ _ _ (by decide), up_ne _ _ _ (by decide), up_at]
    have v23 : σ3 23 = upd (σ 23) (8 * q + i) (nI (Bg r fr wy od la q i)) := by rw [← hσ3, up_ne _ _ _ (by decide), up_at, up_ne _ _ _ (by decide)]
    have v24 : σ3 24 = upd (σ 24) (8 * q + i) (nI (Gp r fr wy od la q i)) := by rw [← hσ3, up_at, up_ne _ _ _ (by decide), up_ne _ _ _ (by decide)]
    have hC3 : NC σ3 r k fr wy od la := hC.scr (fun c hc => k3 c (by omega))
    have x2 := c_cause hB hC3 hq hir (by rw [v24, upd_at]) (fun a ha j hj => by rw [k3 25 (by omega)]; exact (hs a j (by omega) (by omega)).2.2.2)
    rw [stq x2, if_neg g2, stp, if_neg g2]
    generalize hσ4 : up σ3 25 (8 * q + i) (Cz r fr wy od la q i) = σ4
    have k4 : ∀ c, c < 22 ∨ 25 < c → σ4 c = σ c := fun c hc => by rw [← hσ4, up_ne _ _ _ (by omega), k3 c (by omega)]
    have hC4 : NC σ4 r k fr wy od la := hC.scr (fun c hc => k4 c (by omega))
    have w22 : σ4 22 = upd (σ 22) (8 * q + i) (nI (Cm r fr wy od la q i)) := by rw [← hσ4, up_ne _ _ _ (by decide), v22]
    have w23 : σ4 23 = upd (σ 23) (8 * q + i) (nI (Bg r fr wy od la q i)) := by rw [← hσ4, up_ne _ _ _ (by decide), v23]
    have w24 : σ4 24 = upd (σ 24) (8 * q + i) (nI (Gp r fr wy od la q i)) := by rw [← hσ4, up_ne _ _ _ (by decide), v24]
    have w25 : σ4 25 = upd (σ 25) (8 * q + i) (Cz r fr wy od la q i) := by rw [← hσ4, up_at, k3 25 (by omega)]
    rw [stq (c_min hB hC4 i hir), itp, w23, upd_at, nI_add, show nI i + 1 = nI (i + 1) from nI_1 i]
    obtain ⟨σ', y1, y2, y3⟩ := ih (i + 1) n σ4 hC4 (by omega) (by omega) (by
      intro a j hj h
      by_cases e : 8 * a + j = 8 * q + i
      · obtain ⟨rfl, rfl⟩ := at8 hr hj hir e
        rw [w22, w23, w24, w25, upd_at, upd_at, upd_at, upd_at]
        exact ⟨rfl, rfl, rfl, rfl⟩
      · rw [w22, w23, w24, w25, upd_ne _ _ e, upd_ne _ _ e, upd_ne _ _ e, upd_ne _ _ e]
        refine hs a j hj ?_
        rcases h with h | ⟨rfl, h⟩
        · exact Or.inl h
        · exact Or.inr ⟨rfl, by omega⟩)
    exact ⟨σ', y1, fun c hc => by rw [y2 c hc, k4 c hc], y3⟩
theorem c_showsL {r k : Nat} {fr wy od la : Nat → Nat} (hB : NB r k fr wy od la) : ∀ (d q n : Nat) (σ : St), NC σ r k fr wy od la → (∀ j, j < k → σ 21 j = nI (Sr r fr wy od j)) → q + d = k → d < n → shC σ r fr wy od la q 0 → ∃ σ', fX2_reckonShows_L6 n σ (nI q) = some (σ', nI 0) ∧ (∀ c, c < 22 ∨ 25 < c → σ' c = σ c) ∧ shC σ' r fr wy od la k 0 := by
  have hr := hB.1
  have hk := hB.2.1
  intro d
  induction d with
  | zero =>
    intro q n σ hC h21 hq hn hs
    obtain ⟨n, rfl⟩ : ∃ m, n = m + 1 := ⟨n - 1, by omega⟩
    have k1 := hC.2.1
    have e : q = k := by omega
    subst e
    rw [fX2_reckonShows_L6, k1, if_pos (nI_le (Nat.le_refl _) (by omega))]
    exact ⟨σ, rfl, fun _ _ => rfl, hs⟩
  | succ d ih =>
    intro q n σ hC h21 hq hn hs
    obtain ⟨n, rfl⟩ : ∃ m, n = m + 1 := ⟨n - 1, by omega⟩
    have k1 := hC.2.1
    obtain ⟨σ1, y1, y2, y3⟩ := c_showL hB (q := q) (by omega) r 0 50 σ hC (by omega) (by omega) hs
    have x1 : fX2_reckonShow σ (nI q) = some (σ1, nI 0) := by
      unfold fX2_reckonShow
      rw [if_neg (nI_in (show q < 6 by omega) (by decide)), nI_clamp (show q < 2 ^ 31 by omega), itp, h21 q (by omega)]
      exact y1
    rw [fX2_reckonShows_L6, k1, if_neg (nI_ge (show q < k by omega) (by omega)), stq x1, show nI q + 1 = nI (q + 1) from nI_1 q]
    obtain ⟨σ', z1, z2, z3⟩ := ih (q + 1) n σ1 (hC.scr (fun c hc => y2 c (by omega))) (fun j hj => by rw [y2 21 (by omega)]; exact h21 j hj) (by omega) (by omega) y3
    exact ⟨σ', z1, fun c hc => by rw [z2 c hc, y2 c hc], z3⟩
theorem c_shows {σ : St} {r k : Nat} {fr wy od la : Nat → Nat} (hB : NB r k fr wy od la) (hC : NC σ r k fr wy od la) : ∃ σ', fX2_reckonShows σ = some (σ', nI 0) ∧ scrC σ σ' ∧ shC σ' r fr wy od la k 0 := by
  obtain ⟨σ1, y1, y2, y3⟩ := c_starts hB hC
  have hk := hB.2.1
  obtain ⟨σ', z1, z2, z3⟩ := c_showsL hB k 0 50 σ1 (hC.scr (scr21 y2)) y3 (by omega) (by omega) (fun a j hj h => by omega)
  refine ⟨σ', ?_, fun c hc => by rw [z2 c (by omega), y2 c (by omega)], z3⟩
  unfold fX2_reckonShows
  rw [stq y1]
  exact z1
/-- the model's rows -/
def shM (μ : St) (r : Nat) (fr wy od la : Nat → Nat) (q i : Nat) : Prop := ∀ a j, j < r → (a < q ∨ (a = q ∧ j < i)) → μ 20 (8 * a + j) = nI (Cm r fr wy od la a j) ∧ μ 21 (8 * a + j) = nI (Bg r fr wy od la a j) ∧ μ 22 (8 * a + j) = nI (Gp r fr wy od la a j)
set_option maxRecDepth 100000 in
set_option maxHeartbeats 8000000 in
theorem m_goL {r k : Nat} {fr wy od la : Nat → Nat} (hB : NB r k fr wy od la) {q : Nat} (hq : q < k) : ∀ (d i n : Nat) (μ : St), NM μ r k fr wy od la → i + d = r → d < n → shM μ r fr wy od la q i → ∃ μ', (∀ K, fX10_goOn_L18 K n μ (nI q) (nI (Fe r fr wy od la q i)) (nI i) = K μ' (nI q)) ∧ (∀ c, c < 20 ∨ 22 < c → μ' c = μ c) ∧ shM μ' r fr wy od la (q + 1) 0 := by
  have hr := hB.1
  have hk := hB.2.1
  intro d
  induction d with
  | zero =>
    intro i n μ hM hi hn hs
    obtain ⟨n, rfl⟩ : ∃ m, n = m + 1 := ⟨n - 1, by omega⟩
    have r1 := hM.1
    have e : i = r := by omega
    subst e
    refine ⟨μ, fun K => ?_, fun _ _ => rfl, fun a j hj h => hs a j hj (by omega)⟩
    rw [fX10_goOn_L18, r1, if_pos (nI_le (Nat.le_refl _) (by omega))]
  | succ d ih =>
    intro i n μ hM hi hn hs
    obtain ⟨n, rfl⟩ : ∃ m, n = m + 1 := ⟨n - 1, by omega⟩
    have r1 := hM.1
    have hir : i < r := by omega
    have fb := Fe_le hB q hq i (by omega)
    have cb := Cm_le hB q hq i hir
    have bb := Bg_le hB q hq i hir
    have bg := Bg_ge r fr wy od la q i
    have mb := Mf_le hB i hir
    have bd : Bg r fr wy od la q i = if Fe r fr wy od la q i < Cm r fr wy od la q i then Cm r fr wy od la q i else Fe r fr wy od la q i := rfl
    have e6 : (8 : Int32) * nI q + nI i = nI (8 * q + i) := by rw [show (8 : Int32) = nI 8 from rfl, pk_mul, nI_add]
    have g1 : ¬ (nI (8 * q + i) < 0 ∨ 48 ≤ (nI (8 * q + i)).toNatClampNeg) := nI_in (by omega) (by decide)
    have cl : (nI (8 * q + i)).toNatClampNeg = 8 * q + i := nI_clamp (by omega)
    have g2 : ¬ (nI (8 * q + i) < 0 ∨ 48 ≤ 8 * q + i) := by rw [cl] at g1; exact g1
    obtain ⟨μ', z1, z2, z3⟩ := ih (i + 1) n (up (up (up μ 20 (8 * q + i) (nI (Cm r fr wy od la q i))) 21 (8 * q + i) (nI (Bg r fr wy od la q i))) 22 (8 * q + i) (nI (Gp r fr wy od la q i))) hM (by omega) (by omega) (by
      intro a j hj h
      have w20 : (up (up (up μ 20 (8 * q + i) (nI (Cm r fr wy od la q i))) 21 (8 * q + i) (nI (Bg r fr wy od la q i))) 22 (8 * q + i) (nI (Gp r fr wy od la q i))) 20 = upd (μ 20) (8 * q + i) (nI (Cm r fr wy od la q i)) := rfl
      have w21 : (up (up (up μ 20 (8 * q + i) (nI (Cm r fr wy od la q i))) 21 (8 * q + i) (nI (Bg r fr wy od la q i))) 22 (8 * q + i) (nI (Gp r fr wy od la q i))) 21 = upd (μ 21) (8 * q + i) (nI (Bg r fr wy od la q i)) := rfl
      have w22 : (up (up (up μ 20 (8 * q + i) (nI (Cm r fr wy od la q i))) 21 (8 * q + i) (nI (Bg r fr wy od la q i))) 22 (8 * q + i) (nI (Gp r fr wy od la q i))) 22 = upd (μ 22) (8 * q + i) (nI (Gp r fr wy od la q i)) := rfl
      rw [w20, w21, w22]
      by_cases e : 8 * a + j = 8 * q + i
      · obtain ⟨rfl, rfl⟩ := at8 hr hj hir e
        rw [upd_at, upd_at, upd_at]
        exact ⟨rfl, rfl, rfl⟩
      · rw [upd_ne _ _ e, upd_ne _ _ e, upd_ne _ _ e]
        refine hs a j hj ?_
        rcases h with h | ⟨rfl, h⟩
        · exact Or.inl h
        · exact Or.inr ⟨rfl, by omega⟩)
    refine ⟨μ', fun K => ?_, fun c hc => by rw [z2 c hc, up_ne _ _ _ (by omega), up_ne _ _ _ (by omega), up_ne _ _ _ (by omega)], z3⟩
    rw [← z1 K, Fe_s]
    have x5 : ∀ x y z : Int32, fX10_minutes (up (up (up μ 20 (8 * q + i) x) 21 (8 * q + i) y) 22 (8 * q + i) z) (nI i) = some (up (up (up μ 20 (8 * q + i) x) 21 (8 * q + i) y) 22 (8 * q + i) z, nI (Mf fr i)) := fun x y z => m_min hB (σ := up (up (up μ 20 (8 * q + i) x) 21 (8 * q + i) y) 22 (8 * q + i) z) (hM.scr ⟨fun c h1 h2 => by rw [up_ne _ _ _ (by omega), up_ne _ _ _ (by omega), up_ne _ _ _ (by omega)], fun j hj => by rw [up_ne _ _ _ (by omega), up_ne _ _ _ (by omega), up_ne _ _ _ (by omega)]⟩) i hir
    by_cases h0 : q = 0
    · subst h0
      have cm0 : Cm r fr wy od la 0 i = 0 := rfl
      have be : Bg r fr wy od la 0 i = Fe r fr wy od la 0 i := by rw [bd, cm0, if_neg (by omega)]
      have ge : Gp r fr wy od la 0 i = 0 := by show Bg r fr wy od la 0 i - _ = 0; rw [be]; omega
      rw [cm0, ge, be]
      rw [fX10_goOn_L18, r1, if_neg (nI_ge hir (by omega)), itp, e6, if_neg g1, cl, stp, if_pos (show nI 0 ≤ (0 : Int32) from by decide)]
      rw [if_neg g2, up_at, upd_at, if_pos (show (0 : Int32) ≤ nI (Fe r fr wy od la 0 i) from nI_le (a := 0) (by omega) (by omega)), if_neg g2, stp, if_neg g2, if_neg g2, up_at, upd_at, pk_sub (Nat.le_refl _), stp, if_neg g2]
      rw [show Fe r fr wy od la 0 i - Fe r fr wy od la 0 i = 0 by omega]
      rw [stq (x5 _ _ _), itp, up_ne _ _ _ (by decide), up_at, upd_at, nI_add, show nI i + 1 = nI (i + 1) from nI_1 i]
      rfl
    · obtain ⟨a, rfl⟩ : ∃ a, q = a + 1 := ⟨q - 1, by omega⟩
      have rl := ride_lt (k := a) (r := r) (j := i) (by omega) hr hir
      have e7 : nI (8 * (a + 1) + i) - 8 = nI (8 * a + i) := by
        rw [show (8 : Int32) = nI 8 from rfl, pk_sub (by omega)]
        congr 1
        omega
      have g7 : ¬ (nI (8 * a + i) < 0 ∨ 48 ≤ (nI (8 * a + i)).toNatClampNeg) := nI_in (by omega) (by decide)
      have c7 : (nI (8 * a + i)).toNatClampNeg = 8 * a + i := nI_clamp (by omega)
      have b7 := (hs a i hir (by omega)).2.1
      have hM8 : NM (up μ 20 (8 * (a + 1) + i) 0) r k fr wy od la := hM
      have x1 := m_min hB hM8 i hir
      have x2 := m_way hB hM8 (a + 1) (by omega) hq
      have x3 := hM.2.2.2.2.2 (a * r + i) rl
      have e9 : (nI (a + 1) - 1) * nI r + nI i = nI (a * r + i) := by
        rw [show (1 : Int32) = nI 1 from rfl, pk_sub (by omega), pk_mul, nI_add, show a + 1 - 1 = a by omega]
      have g9 : ¬ (nI (a * r + i) < 0 ∨ 40 ≤ (nI (a * r + i)).toNatClampNeg) := nI_in rl (by decide)
      have c9 : (nI (a * r + i)).toNatClampNeg = a * r + i := nI_clamp (by omega)
      have r8 : (up μ 20 (8 * (a + 1) + i) 0) 0 7 = nI r := r1
      have l8 : (up μ 20 (8 * (a + 1) + i) 0) 10 (a * r + i) = nI (la (a * r + i)) := x3
      have b8 : (up μ 20 (8 * (a + 1) + i) 0) 21 (8 * a + i) = nI (Bg r fr wy od la a i) := b7
      have uu : ∀ x : Int32, up (up μ 20 (8 * (a + 1) + i) 0) 20 (8 * (a + 1) + i) x = up μ 20 (8 * (a + 1) + i) x := by
        intro x
        unfold up
        funext c j
        by_cases hc : c = 20
        · subst hc
          simp only [cu, if_true, upd]
          split <;> rfl
        · simp only [cu, if_neg hc]
      by_cases hc : Fe r fr wy od la (a + 1) i < Cm r fr wy od la (a + 1) i
      · have be : Bg r fr wy od la (a + 1) i = Cm r fr wy od la (a + 1) i := by rw [bd, if_pos hc]
        have ge : Gp r fr wy od la (a + 1) i = Cm r fr wy od la (a + 1) i - Fe r fr wy od la (a + 1) i := by show Bg r fr wy od la (a + 1) i - _ = _; rw [be]
        rw [ge, be]
        rw [fX10_goOn_L18, r1, if_neg (nI_ge hir (by omega)), itp, e6, if_neg g1, cl, stp, if_neg (show ¬ nI (a + 1) ≤ (0 : Int32) from nI_nle (by omega) (by omega))]
        rw [e7, if_neg g7, c7, stq x1, stq x2, r8, e9, if_neg g9, c9, if_neg g2, stp, l8, b8, nI_add, nI_add, nI_add, ← Cm_s, uu, if_neg g2, up_at, upd_at]
        rw [if_neg (nI_ge hc (by omega)), if_neg g2, if_neg g2, stp, if_neg g2, if_neg g2, up_at, upd_at, pk_sub (by omega), stp, if_neg g2]
        rw [stq (x5 _ _ _), itp, up_ne _ _ _ (by decide), up_at, upd_at, nI_add, show nI i + 1 = nI (i + 1) from nI_1 i]
      · have be : Bg r fr wy od la (a + 1) i = Fe r fr wy od la (a + 1) i := by rw [bd, if_neg hc]
        have ge : Gp r fr wy od la (a + 1) i = Fe r fr wy od la (a + 1) i - Fe r fr wy od la (a + 1) i := by show Bg r fr wy od la (a + 1) i - _ = _; rw [be]
        rw [ge, be]
        rw [fX10_goOn_L18, r1, if_neg (nI_ge hir (by omega)), itp, e6, if_neg g1, cl, stp, if_neg (show ¬ nI (a + 1) ≤ (0 : Int32) from nI_nle (by omega) (by omega))]
        rw [e7, if_neg g7, c7, stq x1, stq x2, r8, e9, if_neg g9, c9, if_neg g2, stp, l8, b8, nI_add, nI_add, nI_add, ← Cm_s, uu, if_neg g2, up_at, upd_at]
        rw [if_pos (nI_le (by omega) (by omega)), if_neg g2, stp, if_neg g2, if_neg g2, up_at, upd_at, pk_sub (Nat.le_refl _), stp, if_neg g2]
        rw [stq (x5 _ _ _), itp, up_ne _ _ _ (by decide), up_at, upd_at, nI_add, show nI i + 1 = nI (i + 1) from nI_1 i]
theorem m_goOnL {r k : Nat} {fr wy od la : Nat → Nat} (hB : NB r k fr wy od la) : ∀ (d q n : Nat) (μ : St), NM μ r k fr wy od la → q + d = k → d < n → shM μ r fr wy od la q 0 → ∃ μ', fX10_goOn_L2 n μ (nI q) = some (μ', nI 0) ∧ (∀ c, c < 20 ∨ 22 < c → μ' c = μ c) ∧ shM μ' r fr wy od la k 0 := by
  have hr := hB.1
  have hk := hB.2.1
  intro d
  induction d with
  | zero =>
    intro q n μ hM hq hn hs
    obtain ⟨n, rfl⟩ : ∃ m, n = m + 1 := ⟨n - 1, by omega⟩
    have k1 := hM.2.1
    have e : q = k := by omega
    subst e
    rw [fX10_goOn_L2, k1, if_pos (nI_le (Nat.le_refl _) (by omega))]
    exact ⟨μ, rfl, fun _ _ => rfl, hs⟩
  | succ d ih =>
    intro q n μ hM hq hn hs
    obtain ⟨n, rfl⟩ : ∃ m, n = m + 1 := ⟨n - 1, by omega⟩
    have k1 := hM.2.1
    obtain ⟨μ1, y1, y2, y3⟩ := m_goL hB (q := q) (by omega) r 0 50 μ hM (by omega) (by omega) hs
    have hM1 : NM μ1 r k fr wy od la := hM.scr ⟨fun c h1 h2 => y2 c (by omega), fun j hj => by rw [y2 0 (by omega)]⟩
    obtain ⟨μ', z1, z2, z3⟩ := ih (q + 1) n μ1 hM1 (by omega) (by omega) y3
    refine ⟨μ', ?_, fun c hc => by rw [z2 c hc, y2 c hc], z3⟩
    rw [fX10_goOn_L2, k1, if_neg (nI_ge (show q < k by omega) (by omega)), stq (m_start hB hM q (by omega))]
    refine (y1 _).trans ?_
    show fX10_goOn_L2 n μ1 (nI q + 1) = _
    rw [show nI q + 1 = nI (q + 1) from nI_1 q]
    exact z1
theorem m_goOn {μ : St} {r k : Nat} {fr wy od la : Nat → Nat} (hB : NB r k fr wy od la) (hM : NM μ r k fr wy od la) : ∃ μ', fX10_goOn μ = some (μ', nI 0) ∧ (∀ c, c < 20 ∨ 22 < c → μ' c = μ c) ∧ shM μ' r fr wy od la k 0 := by
  have hk := hB.2.1
  obtain ⟨μ', z1, z2, z3⟩ := m_goOnL hB k 0 50 μ hM (by omega) (by omega) (fun a j hj h => by omega)
  exact ⟨μ', z1, z2, z3⟩
theorem scrM20 {μ μ' : St} (h : ∀ c, c < 20 ∨ 22 < c → μ' c = μ c) : scrM μ μ' := ⟨fun c _ h2 => h c (by omega), fun j _ => by rw [h 0 (by omega)]⟩
set_option maxRecDepth 100000 in
set_option maxHeartbeats 4000000 in
theorem s_begins {σ μ : St} (hR : Rg σ μ) (p0 p1 : Int32) : Sm (fX9_begins σ p0 p1) (fX10_begins μ p0 p1) := by
  obtain ⟨h, r, k, f, hRR⟩ := id hR
  obtain ⟨fr, wy, od, la, hB, hC, hM⟩ := RR_night hRR
  have hr := hB.1
  have k3 := hB.2.1
  unfold fX9_begins fX10_begins
  rcases cs3' p0 k (by omega) with c | ⟨a, ha, rfl⟩
  · rw [st0 (c_plc0 hC.2.1 c), st0 (m_plc0 hM.2.1 k3 c)]
    exact Sm.mk rfl hR
  rw [st1 (c_plc1 hC.2.1 k3 ha), st1 (m_plc1 hM.2.1 k3 ha)]
  rcases cs3' p1 r (by omega) with c | ⟨j, hj, rfl⟩
  · rw [st0 (c_reel0 hC.1 c), st0 (m_reel0 hM.1 hr c)]
    exact Sm.mk rfl hR
  rw [st1 (c_reel1 hC.1 hr hj), st1 (m_reel1 hM.1 hr hj)]
  obtain ⟨σ', y1, y2, y3⟩ := c_shows hB hC
  obtain ⟨μ', z1, z2, z3⟩ := m_goOn hB hM
  rw [stq y1, stq z1]
  have e1 := (y3 a j hj (Or.inl ha)).2.1
  have e2 := (z3 a j hj (Or.inl ha)).2.1
  have e8 : a * 8 + j = 8 * a + j := by omega
  simp (disch := omega) only [fX2_cell, e8, e1, e2, eq_self, obn_some, stp, itp, up_at, upd_at, cu_at, up_ne, upd_ne, cu_ne, nI_clamp, nI_lt0, nI_ltP, nI_leP, nI_eqP, nI_add, pk_mul, pk_sub, sub1_lt, pred_lt, if_pos, if_neg, if_true, if_false, false_or, or_false, true_or, or_true, not_true, not_false_iff, li_0, li_1, li_2, li_3, li_4, li_5, li_6, li_7, li_8, li_9, li_10, li_11, li_12, li_13, li_14, li_15, li_16, li_17, li_18, li_19, li_20, li_21, li_22, li_23, li_24, li_25, li_26, li_27, li_28, li_29, li_30, li_31, li_32, li_33, li_34, li_35, li_36, li_37, li_38, li_39, li_40, li_42, li_43, li_48, li_50, li_99, li_100, li_200, li_960, li_999, li_1600, li_9999, li_20000]
  exact Sm.mk rfl ⟨h, r, k, f, hRR.scr y2 (scrM20 z2)⟩
