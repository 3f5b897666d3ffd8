def nv (x : Int32) : Nat := x.toInt.toNat
theorem nv_nI {q : Nat} (h : q < 2 ^ 31) : nv (nI q) = q := by
  unfold nv
  rw [nI_toInt h]
  rfl
theorem qR.val {n lo hi : Nat} {a b : Nat → Int32} (h : qR n lo hi a b) (hh : hi ≤ 2 ^ 31) (j : Nat) (hj : j < n) : a j = nI (nv (b j)) ∧ b j = nI (nv (b j)) ∧ lo ≤ nv (b j) ∧ nv (b j) < hi := by
  obtain ⟨e, q, h1, h2, e2⟩ := h j hj
  have e3 : nv (b j) = q := by rw [e2]; exact nv_nI (by omega)
  rw [e3, e, e2]
  exact ⟨rfl, rfl, h1, h2⟩
theorem RR_night {σ μ : St} {h r k f : Nat} (hRR : RR σ μ h r k f) : ∃ fr wy od la : Nat → Nat, NB r k fr wy od la ∧ NC σ r k fr wy od la ∧ NM μ r k fr wy od la := by
  obtain ⟨⟨h1, h2, h3⟩, ⟨r1, r2, r3⟩, ⟨k1, k2, k3⟩, ⟨f1, f2, f3⟩, A1, A2, A3, A4, A5, A6, A7, A8, A9, A10, A11, A12, A13, A14, A15, A16⟩ := hRR
  have q7 := A7.val (by decide)
  have q5 := A5.val (by decide)
  have q9 := A9.val (by omega)
  have q10 := A10.val (by decide)
  refine ⟨fun j => nv (μ 7 j), fun j => nv (μ 5 j), fun j => nv (μ 9 j), fun j => nv (μ 10 j), ⟨r3, k3, fun j hj => ?_, fun j hj => ?_, fun j hj => ?_, fun j hj => ?_⟩, ⟨r1, k1, fun j hj => (q7 j hj).1, fun j hj => (q5 j hj).1, fun j hj => (q9 j hj).1, fun j hj => (q10 j hj).1⟩, ⟨r2, k2, fun j hj => (q7 j hj).2.1, fun j hj => (q5 j hj).2.1, fun j hj => (q9 j hj).2.1, fun j hj => (q10 j hj).2.1⟩⟩
  · have := (q7 j hj).2.2
    show 1 ≤ nv (μ 7 j) ∧ nv (μ 7 j) ≤ 20000
    omega
  · have := (q5 j hj).2.2.2
    show nv (μ 5 j) ≤ 99
    omega
  · have := (q9 j hj).2.2.2
    show nv (μ 9 j) < 6
    omega
  · have := (q10 j hj).2.2.2
    show nv (μ 10 j) ≤ 200
    omega
def scrC (σ σ' : St) : Prop := ∀ c, (c ≤ 3 ∨ c = 5 ∨ (8 ≤ c ∧ c ≤ 20) ∨ (33 ≤ c ∧ c ≤ 36) ∨ 40 ≤ c) → σ' c = σ c
def scrM (μ μ' : St) : Prop := (∀ c, 1 ≤ c → c ≤ 15 → μ' c = μ c) ∧ ∀ j, j < 32 → μ' 0 j = μ 0 j
theorem scrC.rf (σ : St) : scrC σ σ := fun _ _ => rfl
theorem scrM.rf (μ : St) : scrM μ μ := ⟨fun _ _ _ => rfl, fun _ _ => rfl⟩
theorem scrC.tr {a b c : St} (h1 : scrC a b) (h2 : scrC b c) : scrC a c := fun k hk => (h2 k hk).trans (h1 k hk)
theorem scrM.tr {a b c : St} (h1 : scrM a b) (h2 : scrM b c) : scrM a c := ⟨fun k h3 h4 => (h2.1 k h3 h4).trans (h1.1 k h3 h4), fun j hj => (h2.2 j hj).trans (h1.2 j hj)⟩
theorem RR.scr {σ μ σ' μ' : St} {h r k f : Nat} (hRR : RR σ μ h r k f) (hc : scrC σ σ') (hm : scrM μ μ') : RR σ' μ' h r k f := by
  unfold RR at hRR ⊢
  rw [hc 1 (by omega), hc 2 (by omega), hc 3 (by omega), hc 5 (by omega), hc 8 (by omega), hc 9 (by omega), hc 12 (by omega), hc 13 (by omega), hc 14 (by omega), hc 15 (by omega), hc 16 (by omega), hc 17 (by omega), hc 18 (by omega), hc 19 (by omega), hc 20 (by omega), hc 33 (by omega), hc 34 (by omega), hc 35 (by omega), hc 36 (by omega), hc 40 (by omega), hc 42 (by omega), hc 43 (by omega)]
  rw [hm.1 1 (by omega) (by omega), hm.1 2 (by omega) (by omega), hm.1 3 (by omega) (by omega), hm.1 4 (by omega) (by omega), hm.1 5 (by omega) (by omega), hm.1 6 (by omega) (by omega), hm.1 7 (by omega) (by omega), hm.1 8 (by omega) (by omega), hm.1 9 (by omega) (by omega), hm.1 10 (by omega) (by omega), hm.1 11 (by omega) (by omega), hm.1 12 (by omega) (by omega), hm.1 13 (by omega) (by omega), hm.1 14 (by omega) (by omega), hm.1 15 (by omega) (by omega), hm.2 0 (by omega), hm.2 7 (by omega), hm.2 10 (by omega), hm.2 13 (by omega), hm.2 17 (by omega), hm.2 18 (by omega), hm.2 19 (by omega)]
  exact hRR
theorem NC.scr {σ σ' : St} {r k : Nat} {fr wy od la : Nat → Nat} (h : NC σ r k fr wy od la) (hc : scrC σ σ') : NC σ' r k fr wy od la := by
  unfold NC at h ⊢
  rw [hc 2 (by omega), hc 3 (by omega), hc 16 (by omega), hc 17 (by omega), hc 19 (by omega), hc 20 (by omega)]
  exact h
theorem NM.scr {μ μ' : St} {r k : Nat} {fr wy od la : Nat → Nat} (h : NM μ r k fr wy od la) (hm : scrM μ μ') : NM μ' r k fr wy od la := by
  unfold NM at h ⊢
  rw [hm.1 5 (by omega) (by omega), hm.1 7 (by omega) (by omega), hm.1 9 (by omega) (by omega), hm.1 10 (by omega) (by omega), hm.2 7 (by omega), hm.2 10 (by omega)]
  exact h
def nR (k r : Nat) : Nat := if k = 0 then 0 else (k - 1) * r
theorem nR_le {k r : Nat} (hk : k ≤ 6) (hr : r ≤ 8) : nR k r ≤ 40 := by
  unfold nR
  split
  · omega
  · have h1 : (k - 1) * r ≤ 5 * r := Nat.mul_le_mul (by omega) (Nat.le_refl r)
    omega
theorem c_nR {σ : St} {k r : Nat} (k1 : σ 3 5 = nI k) (k3 : k ≤ 6) (r1 : σ 2 2 = nI r) : fX2_manyRides σ = some (σ, nI (nR k r)) := by
  unfold nR
  by_cases hk : k = 0
  · simp (disch := omega) only [fX2_manyRides, k1, r1, eq_self, obn_some, stp, itp, up_at, upd_at, cu_at, up_ne, upd_ne, cu_ne, nI_clamp, nI_lt0, nI_ltP, nI_leP, nI_eqP, nI_add, pk_mul, pk_sub, sub1_lt, pred_lt, if_pos, if_neg, if_true, if_false, false_or, or_false, true_or, or_true, not_true, not_false_iff, li_0, li_1, li_2, li_3, li_4, li_5, li_6, li_7, li_8, li_9, li_10, li_11, li_12, li_13, li_14, li_15, li_16, li_17, li_18, li_19, li_20, li_21, li_22, li_23, li_24, li_25, li_26, li_27, li_28, li_29, li_30, li_31, li_32, li_33, li_34, li_35, li_36, li_37, li_38, li_39, li_40, li_42, li_43, li_48, li_50, li_99, li_100, li_200, li_960, li_999, li_1600, li_9999, li_20000]
  · simp (disch := omega) only [fX2_manyRides, k1, r1, eq_self, obn_some, stp, itp, up_at, upd_at, cu_at, up_ne, upd_ne, cu_ne, nI_clamp, nI_lt0, nI_ltP, nI_leP, nI_eqP, nI_add, pk_mul, pk_sub, sub1_lt, pred_lt, if_pos, if_neg, if_true, if_false, false_or, or_false, true_or, or_true, not_true, not_false_iff, li_0, li_1, li_2, li_3, li_4, li_5, li_6, li_7, li_8, li_9, li_10, li_11, li_12, li_13, li_14, li_15, li_16, li_17, li_18, li_19, li_20, li_21, li_22, li_23, li_24, li_25, li_26, li_27, li_28, li_29, li_30, li_31, li_32, li_33, li_34, li_35, li_36, li_37, li_38, li_39, li_40, li_42, li_43, li_48, li_50, li_99, li_100, li_200, li_960, li_999, li_1600, li_9999, li_20000]
theorem m_nR {σ : St} {k r : Nat} (k1 : σ 0 10 = nI k) (k3 : k ≤ 6) (r1 : σ 0 7 = nI r) : fX10_rides σ = some (σ, nI (nR k r)) := by
  unfold nR
  by_cases hk : k = 0
  · simp (disch := omega) only [fX10_rides, k1, r1, eq_self, obn_some, stp, itp, up_at, upd_at, cu_at, up_ne, upd_ne, cu_ne, nI_clamp, nI_lt0, nI_ltP, nI_leP, nI_eqP, nI_add, pk_mul, pk_sub, sub1_lt, pred_lt, if_pos, if_neg, if_true, if_false, false_or, or_false, true_or, or_true, not_true, not_false_iff, li_0, li_1, li_2, li_3, li_4, li_5, li_6, li_7, li_8, li_9, li_10, li_11, li_12, li_13, li_14, li_15, li_16, li_17, li_18, li_19, li_20, li_21, li_22, li_23, li_24, li_25, li_26, li_27, li_28, li_29, li_30, li_31, li_32, li_33, li_34, li_35, li_36, li_37, li_38, li_39, li_40, li_42, li_43, li_48, li_50, li_99, li_100, li_200, li_960, li_999, li_1600, li_9999, li_20000]
  · simp (disch := omega) only [fX10_rides, k1, r1, eq_self, obn_some, stp, itp, up_at, upd_at, cu_at, up_ne, upd_ne, cu_ne, nI_clamp, nI_lt0, nI_ltP, nI_leP, nI_eqP, nI_add, pk_mul, pk_sub, sub1_lt, pred_lt, if_pos, if_neg, if_true, if_false, false_or, or_false, true_or, or_true, not_true, not_false_iff, li_0, li_1, li_2, li_3, li_4, li_5, li_6, li_7, li_8, li_9, li_10, li_11, li_12, li_13, li_14, li_15, li_16, li_17, li_18, li_19, li_20, li_21, li_22, li_23, li_24, li_25, li_26, li_27, li_28, li_29, li_30, li_31, li_32, li_33, li_34, li_35, li_36, li_37, li_38, li_39, li_40, li_42, li_43, li_48, li_50, li_99, li_100, li_200, li_960, li_999, li_1600, li_9999, li_20000]
theorem c_rid1 {σ : St} {k r j : Nat} (k1 : σ 3 5 = nI k) (k3 : k ≤ 6) (r1 : σ 2 2 = nI r) (r3 : r ≤ 8) (hj : j < nR k r) : fX2_hasRide σ (nI j) = some (σ, nI 1) := by
  have h := nR_le k3 r3
  simp (disch := omega) only [fX2_hasRide, c_nR k1 k3 r1, eq_self, obn_some, stp, itp, up_at, upd_at, cu_at, up_ne, upd_ne, cu_ne, nI_clamp, nI_lt0, nI_ltP, nI_leP, nI_eqP, nI_add, pk_mul, pk_sub, sub1_lt, pred_lt, if_pos, if_neg, if_true, if_false, false_or, or_false, true_or, or_true, not_true, not_false_iff, li_0, li_1, li_2, li_3, li_4, li_5, li_6, li_7, li_8, li_9, li_10, li_11, li_12, li_13, li_14, li_15, li_16, li_17, li_18, li_19, li_20, li_21, li_22, li_23, li_24, li_25, li_26, li_27, li_28, li_29, li_30, li_31, li_32, li_33, li_34, li_35, li_36, li_37, li_38, li_39, li_40, li_42, li_43, li_48, li_50, li_99, li_100, li_200, li_960, li_999, li_1600, li_9999, li_20000]
theorem c_rid0 {σ : St} {k r : Nat} {x : Int32} (k1 : σ 3 5 = nI k) (k3 : k ≤ 6) (r1 : σ 2 2 = nI r) (c : x < nI 0 ∨ (¬ x < nI 0 ∧ nI (nR k r) ≤ x)) : fX2_hasRide σ x = some (σ, nI 0) := by
  rcases c with c | ⟨c, c'⟩
  · simp (disch := omega) only [fX2_hasRide, c, eq_self, obn_some, stp, itp, up_at, upd_at, cu_at, up_ne, upd_ne, cu_ne, nI_clamp, nI_lt0, nI_ltP, nI_leP, nI_eqP, nI_add, pk_mul, pk_sub, sub1_lt, pred_lt, if_pos, if_neg, if_true, if_false, false_or, or_false, true_or, or_true, not_true, not_false_iff, li_0, li_1, li_2, li_3, li_4, li_5, li_6, li_7, li_8, li_9, li_10, li_11, li_12, li_13, li_14, li_15, li_16, li_17, li_18, li_19, li_20, li_21, li_22, li_23, li_24, li_25, li_26, li_27, li_28, li_29, li_30, li_31, li_32, li_33, li_34, li_35, li_36, li_37, li_38, li_39, li_40, li_42, li_43, li_48, li_50, li_99, li_100, li_200, li_960, li_999, li_1600, li_9999, li_20000]
  · simp (disch := omega) only [fX2_hasRide, c_nR k1 k3 r1, c, c', eq_self, obn_some, stp, itp, up_at, upd_at, cu_at, up_ne, upd_ne, cu_ne, nI_clamp, nI_lt0, nI_ltP, nI_leP, nI_eqP, nI_add, pk_mul, pk_sub, sub1_lt, pred_lt, if_pos, if_neg, if_true, if_false, false_or, or_false, true_or, or_true, not_true, not_false_iff, li_0, li_1, li_2, li_3, li_4, li_5, li_6, li_7, li_8, li_9, li_10, li_11, li_12, li_13, li_14, li_15, li_16, li_17, li_18, li_19, li_20, li_21, li_22, li_23, li_24, li_25, li_26, li_27, li_28, li_29, li_30, li_31, li_32, li_33, li_34, li_35, li_36, li_37, li_38, li_39, li_40, li_42, li_43, li_48, li_50, li_99, li_100, li_200, li_960, li_999, li_1600, li_9999, li_20000]
theorem m_rid1 {σ : St} {k r j : Nat} (k1 : σ 0 10 = nI k) (k3 : k ≤ 6) (r1 : σ 0 7 = nI r) (r3 : r ≤ 8) (hj : j < nR k r) : fX10_isRide σ (nI j) = some (σ, nI 1) := by
  have h := nR_le k3 r3
  simp (disch := omega) only [fX10_isRide, fX10_isIn, m_nR k1 k3 r1, eq_self, obn_some, stp, itp, up_at, upd_at, cu_at, up_ne, upd_ne, cu_ne, nI_clamp, nI_lt0, nI_ltP, nI_leP, nI_eqP, nI_add, pk_mul, pk_sub, sub1_lt, pred_lt, if_pos, if_neg, if_true, if_false, false_or, or_false, true_or, or_true, not_true, not_false_iff, li_0, li_1, li_2, li_3, li_4, li_5, li_6, li_7, li_8, li_9, li_10, li_11, li_12, li_13, li_14, li_15, li_16, li_17, li_18, li_19, li_20, li_21, li_22, li_23, li_24, li_25, li_26, li_27, li_28, li_29, li_30, li_31, li_32, li_33, li_34, li_35, li_36, li_37, li_38, li_39, li_40, li_42, li_43, li_48, li_50, li_99, li_100, li_200, li_960, li_999, li_1600, li_9999, li_20000]
theorem m_rid0 {σ : St} {k r : Nat} {x : Int32} (k1 : σ 0 10 = nI k) (k3 : k ≤ 6) (r1 : σ 0 7 = nI r) (r3 : r ≤ 8) (c : x < nI 0 ∨ (¬ x < nI 0 ∧ nI (nR k r) ≤ x)) : fX10_isRide σ x = some (σ, nI 0) := by
  have h := nR_le k3 r3
  rcases c with c | ⟨c, c'⟩
  · simp (disch := omega) only [fX10_isRide, fX10_isIn, m_nR k1 k3 r1, c, eq_self, obn_some, stp, itp, up_at, upd_at, cu_at, up_ne, upd_ne, cu_ne, nI_clamp, nI_lt0, nI_ltP, nI_leP, nI_eqP, nI_add, pk_mul, pk_sub, sub1_lt, pred_lt, if_pos, if_neg, if_true, if_false, false_or, or_false, true_or, or_true, not_true, not_false_iff, li_0, li_1, li_2, li_3, li_4, li_5, li_6, li_7, li_8, li_9, li_10, li_11, li_12, li_13, li_14, li_15, li_16, li_17, li_18, li_19, li_20, li_21, li_22, li_23, li_24, li_25, li_26, li_27, li_28, li_29, li_30, li_31, li_32, li_33, li_34, li_35, li_36, li_37, li_38, li_39, li_40, li_42, li_43, li_48, li_50, li_99, li_100, li_200, li_960, li_999, li_1600, li_9999, li_20000]
  · simp (disch := omega) only [fX10_isRide, fX10_isIn, m_nR k1 k3 r1, c, c', eq_self, obn_some, stp, itp, up_at, upd_at, cu_at, up_ne, upd_ne, cu_ne, nI_clamp, nI_lt0, nI_ltP, nI_leP, nI_eqP, nI_add, pk_mul, pk_sub, sub1_lt, pred_lt, if_pos, if_neg, if_true, if_false, false_or, or_false, true_or, or_true, not_true, not_false_iff, li_0, li_1, li_2, li_3, li_4, li_5, li_6, li_7, li_8, li_9, li_10, li_11, li_12, li_13, li_14, li_15, li_16, li_17, li_18, li_19, li_20, li_21, li_22, li_23, li_24, li_25, li_26, li_27, li_28, li_29, li_30, li_31, li_32, li_33, li_34, li_35, li_36, li_37, li_38, li_39, li_40, li_42, li_43, li_48, li_50, li_99, li_100, li_200, li_960, li_999, li_1600, li_9999, li_20000]
set_option maxRecDepth 100000 in
set_option maxHeartbeats 4000000 in
theorem s_late {σ μ : St} (hR : Rg σ μ) (p0 p1 : Int32) : Sm (fX9_late σ p0 p1) (fX10_late μ p0 p1) := by
  obtain ⟨h, r, k, f, ⟨h1, h2, h3⟩, ⟨r1, r2, r3⟩, ⟨k1, k2, k3⟩, ⟨f1, f2, f3⟩, A1, A2, A3, A4, A5, A6, A7, A8, A9, A10, A11, A12, A13, A14, A15, A16⟩ := id hR
  have hn := nR_le k3 r3
  unfold fX9_late fX10_late
  rcases cs3' p0 (nR k r) (by omega) with c | ⟨a, ha, rfl⟩
  · rw [st0 (c_rid0 k1 k3 r1 c), st0 (m_rid0 k2 k3 r2 r3 c)]
    exact Sm.mk rfl hR
  rw [st1 (c_rid1 k1 k3 r1 r3 ha), st1 (m_rid1 k2 k3 r2 r3 ha)]
  rcases cs4' p1 0 200 (by decide) (by decide) with c | ⟨v, hv0, hv, rfl⟩
  · rw [st0 (show fX9_within σ p1 0 200 = some (σ, nI 0) from c_in0 σ (lo := 0) (hi := 200) c), st0 (show fX10_isIn μ p1 0 200 = some (μ, nI 0) from m_in0 μ (lo := 0) (hi := 200) c)]
    exact Sm.mk rfl hR
  rw [st1 (show fX9_within σ (nI v) 0 200 = some (σ, nI 1) from c_in1 σ (lo := 0) (hi := 200) hv0 hv (by decide)), st1 (show fX10_isIn μ (nI v) 0 200 = some (μ, nI 1) from m_in1 μ (lo := 0) (hi := 200) hv0 hv (by decide))]
  simp (disch := omega) only [eq_self, obn_some, stp, itp, up_at, upd_at, cu_at, up_ne, upd_ne, cu_ne, nI_clamp, nI_lt0, nI_ltP, nI_leP, nI_eqP, nI_add, pk_mul, pk_sub, sub1_lt, pred_lt, if_pos, if_neg, if_true, if_false, false_or, or_false, true_or, or_true, not_true, not_false_iff, li_0, li_1, li_2, li_3, li_4, li_5, li_6, li_7, li_8, li_9, li_10, li_11, li_12, li_13, li_14, li_15, li_16, li_17, li_18, li_19, li_20, li_21, li_22, li_23, li_24, li_25, li_26, li_27, li_28, li_29, li_30, li_31, li_32, li_33, li_34, li_35, li_36, li_37, li_38, li_39, li_40, li_42, li_43, li_48, li_50, li_99, li_100, li_200, li_960, li_999, li_1600, li_9999, li_20000]
  exact Sm.mk (A10 a (by omega)).1 ⟨h, r, k, f, ⟨h1, h2, h3⟩, ⟨r1, r2, r3⟩, ⟨k1, k2, k3⟩, ⟨f1, f2, f3⟩, A1, A2, A3, A4, A5, A6, A7, A8, A9, A10.put a (by omega) (by omega), A11, A12, A13, A14, A15, A16⟩
theorem scr21 {σ σ' : St} (h : ∀ c, ¬ c = 21 → σ' c = σ c) : scrC σ σ' := fun c hc => h c (by omega)
set_option maxRecDepth 100000 in
set_option maxHeartbeats 4000000 in
theorem s_start {σ μ : St} (hR : Rg σ μ) (p0 : Int32) : Sm (fX9_start σ p0) (fX10_start μ p0) := by
  obtain ⟨h, r, k, f, hRR⟩ := id hR
  obtain ⟨fr, wy, od, la, hB, hC, hM⟩ := RR_night hRR
  have k1 := hC.2.1
  have k2 := hM.2.1
  have k3 := hB.2.1
  unfold fX9_start fX10_start
  rcases cs3' p0 k (by omega) with c | ⟨a, ha, rfl⟩
  · rw [st0 (c_plc0 k1 c), st0 (m_plc0 k2 k3 c)]
    exact Sm.mk rfl hR
  rw [st1 (c_plc1 k1 k3 ha), st1 (m_plc1 k2 k3 ha)]
  obtain ⟨σ', y1, y2, y3⟩ := c_starts hB hC
  rw [stq y1, stq (m_start hB hM a ha)]
  have e := y3 a ha
  simp (disch := omega) only [eq_self, obn_some, stp, itp, up_at, upd_at, cu_at, up_ne, upd_ne, cu_ne, nI_clamp, nI_lt0, nI_ltP, nI_leP, nI_eqP, nI_add, pk_mul, pk_sub, sub1_lt, pred_lt, if_pos, if_neg, if_true, if_false, false_or, or_false, true_or, or_true, not_true, not_false_iff, li_0, li_1, li_2, li_3, li_4, li_5, li_6, li_7, li_8, li_9, li_10, li_11, li_12, li_13, li_14, li_15, li_16, li_17, li_18, li_19, li_20, li_21, li_22, li_23, li_24, li_25, li_26, li_27, li_28, li_29, li_30, li_31, li_32, li_33, li_34, li_35, li_36, li_37, li_38, li_39, li_40, li_42, li_43, li_48, li_50, li_99, li_100, li_200, li_960, li_999, li_1600, li_9999, li_20000]
  exact Sm.mk e ⟨h, r, k, f, hRR.scr (scr21 y2) (scrM.rf μ)⟩
