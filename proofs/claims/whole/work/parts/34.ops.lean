/-- a house's share, both sides -/
theorem e_share {σ μ : St} {h a q : Nat} (ha : a < 6) (e1 : σ 12 a = nI q) (e2 : μ 1 a = nI q) (hq : q < 4) (e3 : σ 15 a = μ 4 a) (e4 : σ 40 0 = μ 0 17) (p1 : Int32) : ∃ x, fX4_shareOf σ (nI a) p1 = some (σ, x) ∧ fX10_shareOf μ (nI a) p1 = some (μ, x) := by
  have pr : prc q = (if q = 0 then nI 3 else if q = 1 then nI 5 else if q = 2 then nI 2 else nI 8) := rfl
  obtain rfl | rfl | rfl | rfl : q = 0 ∨ q = 1 ∨ q = 2 ∨ q = 3 := by omega
  all_goals
    simp (disch := omega) only [fX4_shareOf, fX10_shareOf, e1, e2, e3, e4, pr, max_eq, eq_self, obn_some, stp, itp, up_at, upd_at, cu_at, up_ne, upd_ne, cu_ne, nI_clamp, nI_lt0, nI_ltP, nI_leP, nI_eqP, nI_add, pk_mul, pk_sub, sub1_lt, pred_lt, if_pos, if_neg, if_true, if_false, false_or, or_false, true_or, or_true, not_true, not_false_iff, li_0, li_1, li_2, li_3, li_4, li_5, li_6, li_7, li_8, li_9, li_10, li_11, li_12, li_13, li_14, li_15, li_16, li_17, li_18, li_19, li_20, li_21, li_22, li_23, li_24, li_25, li_26, li_27, li_28, li_29, li_30, li_31, li_32, li_33, li_34, li_35, li_36, li_37, li_38, li_39, li_40, li_42, li_43, li_48, li_50, li_99, li_100, li_200, li_960, li_999, li_1600, li_9999, li_20000]
    refine ⟨_, rfl, ?_⟩
    split <;> rfl
set_option maxRecDepth 100000 in
set_option maxHeartbeats 8000000 in
theorem s_share {σ μ : St} (hR : Rg σ μ) (p0 p1 : Int32) : Sm (fX9_share σ p0 p1) (fX10_share μ p0 p1) := by
  obtain ⟨h, r, k, f, ⟨h1, h2, h3⟩, ⟨r1, r2, r3⟩, ⟨k1, k2, k3⟩, ⟨f1, f2, f3⟩, A1, A2, A3, A4, A5, A6, A7, A8, A9, A10, A11, A12, A13, A14, A15, A16⟩ := id hR
  rcases cs3 p0 h (by omega) with c | ⟨c, c'⟩ | ⟨a, ha, rfl⟩
  · simp (disch := omega) only [fX9_share, fX1_has, fX10_share, fX10_isHouse, fX10_isIn, h1, h2, c, eq_self, obn_some, stp, itp, up_at, upd_at, cu_at, up_ne, upd_ne, cu_ne, nI_clamp, nI_lt0, nI_ltP, nI_leP, nI_eqP, nI_add, pk_mul, pk_sub, sub1_lt, pred_lt, if_pos, if_neg, if_true, if_false, false_or, or_false, true_or, or_true, not_true, not_false_iff, li_0, li_1, li_2, li_3, li_4, li_5, li_6, li_7, li_8, li_9, li_10, li_11, li_12, li_13, li_14, li_15, li_16, li_17, li_18, li_19, li_20, li_21, li_22, li_23, li_24, li_25, li_26, li_27, li_28, li_29, li_30, li_31, li_32, li_33, li_34, li_35, li_36, li_37, li_38, li_39, li_40, li_42, li_43, li_48, li_50, li_99, li_100, li_200, li_960, li_999, li_1600, li_9999, li_20000]
    exact Sm.mk rfl hR
  · simp (disch := omega) only [fX9_share, fX1_has, fX10_share, fX10_isHouse, fX10_isIn, h1, h2, c, c', eq_self, obn_some, stp, itp, up_at, upd_at, cu_at, up_ne, upd_ne, cu_ne, nI_clamp, nI_lt0, nI_ltP, nI_leP, nI_eqP, nI_add, pk_mul, pk_sub, sub1_lt, pred_lt, if_pos, if_neg, if_true, if_false, false_or, or_false, true_or, or_true, not_true, not_false_iff, li_0, li_1, li_2, li_3, li_4, li_5, li_6, li_7, li_8, li_9, li_10, li_11, li_12, li_13, li_14, li_15, li_16, li_17, li_18, li_19, li_20, li_21, li_22, li_23, li_24, li_25, li_26, li_27, li_28, li_29, li_30, li_31, li_32, li_33, li_34, li_35, li_36, li_37, li_38, li_39, li_40, li_42, li_43, li_48, li_50, li_99, li_100, li_200, li_960, li_999, li_1600, li_9999, li_20000]
    exact Sm.mk rfl hR
  obtain ⟨e, q, -, hq, e2⟩ := A1 a ha
  rw [e2] at e
  obtain ⟨u, s, s0, hs, u2⟩ := A2 a ha
  rw [u2] at u
  rcases cs4 p1 0 s (by omega) (by omega) with c | ⟨c, c'⟩ | ⟨b, hb0, hb, rfl⟩
  · simp (disch := omega) only [fX9_share, fX1_has, fX9_within, fX10_share, fX10_isHouse, fX10_isIn, h1, h2, u, u2, c, eq_self, obn_some, stp, itp, up_at, upd_at, cu_at, up_ne, upd_ne, cu_ne, nI_clamp, nI_lt0, nI_ltP, nI_leP, nI_eqP, nI_add, pk_mul, pk_sub, sub1_lt, pred_lt, if_pos, if_neg, if_true, if_false, false_or, or_false, true_or, or_true, not_true, not_false_iff, li_0, li_1, li_2, li_3, li_4, li_5, li_6, li_7, li_8, li_9, li_10, li_11, li_12, li_13, li_14, li_15, li_16, li_17, li_18, li_19, li_20, li_21, li_22, li_23, li_24, li_25, li_26, li_27, li_28, li_29, li_30, li_31, li_32, li_33, li_34, li_35, li_36, li_37, li_38, li_39, li_40, li_42, li_43, li_48, li_50, li_99, li_100, li_200, li_960, li_999, li_1600, li_9999, li_20000]
    exact Sm.mk rfl hR
  · simp (disch := omega) only [fX9_share, fX1_has, fX9_within, fX10_share, fX10_isHouse, fX10_isIn, h1, h2, u, u2, c, c', eq_self, obn_some, stp, itp, up_at, upd_at, cu_at, up_ne, upd_ne, cu_ne, nI_clamp, nI_lt0, nI_ltP, nI_leP, nI_eqP, nI_add, pk_mul, pk_sub, sub1_lt, pred_lt, if_pos, if_neg, if_true, if_false, false_or, or_false, true_or, or_true, not_true, not_false_iff, li_0, li_1, li_2, li_3, li_4, li_5, li_6, li_7, li_8, li_9, li_10, li_11, li_12, li_13, li_14, li_15, li_16, li_17, li_18, li_19, li_20, li_21, li_22, li_23, li_24, li_25, li_26, li_27, li_28, li_29, li_30, li_31, li_32, li_33, li_34, li_35, li_36, li_37, li_38, li_39, li_40, li_42, li_43, li_48, li_50, li_99, li_100, li_200, li_960, li_999, li_1600, li_9999, li_20000]
    exact Sm.mk rfl hR
  obtain ⟨x, x1, x2⟩ := e_share (h := h) (by omega) e e2 hq (A4 a (by omega)).1 A14.1 (nI b)
  simp (disch := omega) only [fX9_share, fX1_has, fX9_within, fX10_share, fX10_isHouse, fX10_isIn, h1, h2, u, u2, x1, x2, eq_self, obn_some, stp, itp, up_at, upd_at, cu_at, up_ne, upd_ne, cu_ne, nI_clamp, nI_lt0, nI_ltP, nI_leP, nI_eqP, nI_add, pk_mul, pk_sub, sub1_lt, pred_lt, if_pos, if_neg, if_true, if_false, false_or, or_false, true_or, or_true, not_true, not_false_iff, li_0, li_1, li_2, li_3, li_4, li_5, li_6, li_7, li_8, li_9, li_10, li_11, li_12, li_13, li_14, li_15, li_16, li_17, li_18, li_19, li_20, li_21, li_22, li_23, li_24, li_25, li_26, li_27, li_28, li_29, li_30, li_31, li_32, li_33, li_34, li_35, li_36, li_37, li_38, li_39, li_40, li_42, li_43, li_48, li_50, li_99, li_100, li_200, li_960, li_999, li_1600, li_9999, li_20000]
  exact Sm.mk rfl hR
theorem e_frames {σ μ : St} {r : Nat} (r1 : σ 2 2 = nI r) (r2 : μ 0 7 = nI r) (r3 : r ≤ 8) (A7 : qR r 1 20001 (σ 17) (μ 7)) : ∀ (d i n n' : Nat) (acc : Int32), i + d = r → d < n → d < n' → ∃ x, fX5_allFrames_L4 n σ acc (nI i) = some (σ, x) ∧ fX10_count_L71 n' μ acc (nI i) = some (μ, x) := by
  intro d
  induction d with
  | zero =>
    intro i n n' acc hi hn hn'
    obtain ⟨n, rfl⟩ : ∃ m, n = m + 1 := ⟨n - 1, by omega⟩
    obtain ⟨n', rfl⟩ : ∃ m, n' = m + 1 := ⟨n' - 1, by omega⟩
    simp (disch := omega) only [fX5_allFrames_L4, fX10_count_L71, r1, r2, eq_self, obn_some, stp, itp, up_at, upd_at, cu_at, up_ne, upd_ne, cu_ne, nI_clamp, nI_lt0, nI_ltP, nI_leP, nI_eqP, nI_add, pk_mul, pk_sub, sub1_lt, pred_lt, if_pos, if_neg, if_true, if_false, false_or, or_false, true_or, or_true, not_true, not_false_iff, li_0, li_1, li_2, li_3, li_4, li_5, li_6, li_7, li_8, li_9, li_10, li_11, li_12, li_13, li_14, li_15, li_16, li_17, li_18, li_19, li_20, li_21, li_22, li_23, li_24, li_25, li_26, li_27, li_28, li_29, li_30, li_31, li_32, li_33, li_34, li_35, li_36, li_37, li_38, li_39, li_40, li_42, li_43, li_48, li_50, li_99, li_100, li_200, li_960, li_999, li_1600, li_9999, li_20000]
    exact ⟨acc, rfl, rfl⟩
  | succ d ih =>
    intro i n n' acc hi hn hn'
    obtain ⟨n, rfl⟩ : ∃ m, n = m + 1 := ⟨n - 1, by omega⟩
    obtain ⟨n', rfl⟩ : ∃ m, n' = m + 1 := ⟨n' - 1, by omega⟩
    have e := (A7 i (by omega)).1
    simp (disch := omega) only [fX5_allFrames_L4, fX10_count_L71, r1, r2, e, eq_self, obn_some, stp, itp, up_at, upd_at, cu_at, up_ne, upd_ne, cu_ne, nI_clamp, nI_lt0, nI_ltP, nI_leP, nI_eqP, nI_add, pk_mul, pk_sub, sub1_lt, pred_lt, if_pos, if_neg, if_true, if_false, false_or, or_false, true_or, or_true, not_true, not_false_iff, li_0, li_1, li_2, li_3, li_4, li_5, li_6, li_7, li_8, li_9, li_10, li_11, li_12, li_13, li_14, li_15, li_16, li_17, li_18, li_19, li_20, li_21, li_22, li_23, li_24, li_25, li_26, li_27, li_28, li_29, li_30, li_31, li_32, li_33, li_34, li_35, li_36, li_37, li_38, li_39, li_40, li_42, li_43, li_48, li_50, li_99, li_100, li_200, li_960, li_999, li_1600, li_9999, li_20000]
    exact ih (i + 1) n n' _ (by omega) (by omega) (by omega)
theorem e_miss8 {σ : St} (h : σ 8 1 = -1) : fX8_isMissing_8 σ = some (σ, nI 1) := by
  simp (disch := omega) only [fX8_isMissing_8, h, eq_self, obn_some, stp, itp, up_at, upd_at, cu_at, up_ne, upd_ne, cu_ne, nI_clamp, nI_lt0, nI_ltP, nI_leP, nI_eqP, nI_add, pk_mul, pk_sub, sub1_lt, pred_lt, if_pos, if_neg, if_true, if_false, false_or, or_false, true_or, or_true, not_true, not_false_iff, li_0, li_1, li_2, li_3, li_4, li_5, li_6, li_7, li_8, li_9, li_10, li_11, li_12, li_13, li_14, li_15, li_16, li_17, li_18, li_19, li_20, li_21, li_22, li_23, li_24, li_25, li_26, li_27, li_28, li_29, li_30, li_31, li_32, li_33, li_34, li_35, li_36, li_37, li_38, li_39, li_40, li_42, li_43, li_48, li_50, li_99, li_100, li_200, li_960, li_999, li_1600, li_9999, li_20000]
theorem e_miss8n {σ : St} {n : Nat} (h : σ 8 1 = nI n) (hn : n ≤ 24) : fX8_isMissing_8 σ = some (σ, nI 0) := by
  simp (disch := omega) only [fX8_isMissing_8, h, nI_neg n (show n < 2 ^ 31 by omega) (-nI 1) (by decide), eq_self, obn_some, stp, itp, up_at, upd_at, cu_at, up_ne, upd_ne, cu_ne, nI_clamp, nI_lt0, nI_ltP, nI_leP, nI_eqP, nI_add, pk_mul, pk_sub, sub1_lt, pred_lt, if_pos, if_neg, if_true, if_false, false_or, or_false, true_or, or_true, not_true, not_false_iff, li_0, li_1, li_2, li_3, li_4, li_5, li_6, li_7, li_8, li_9, li_10, li_11, li_12, li_13, li_14, li_15, li_16, li_17, li_18, li_19, li_20, li_21, li_22, li_23, li_24, li_25, li_26, li_27, li_28, li_29, li_30, li_31, li_32, li_33, li_34, li_35, li_36, li_37, li_38, li_39, li_40, li_42, li_43, li_48, li_50, li_99, li_100, li_200, li_960, li_999, li_1600, li_9999, li_20000]
theorem e_miss9 {σ : St} (h : σ 9 1 = -1) : fX8_isMissing_9 σ = some (σ, nI 1) := by
  simp (disch := omega) only [fX8_isMissing_9, h, eq_self, obn_some, stp, itp, up_at, upd_at, cu_at, up_ne, upd_ne, cu_ne, nI_clamp, nI_lt0, nI_ltP, nI_leP, nI_eqP, nI_add, pk_mul, pk_sub, sub1_lt, pred_lt, if_pos, if_neg, if_true, if_false, false_or, or_false, true_or, or_true, not_true, not_false_iff, li_0, li_1, li_2, li_3, li_4, li_5, li_6, li_7, li_8, li_9, li_10, li_11, li_12, li_13, li_14, li_15, li_16, li_17, li_18, li_19, li_20, li_21, li_22, li_23, li_24, li_25, li_26, li_27, li_28, li_29, li_30, li_31, li_32, li_33, li_34, li_35, li_36, li_37, li_38, li_39, li_40, li_42, li_43, li_48, li_50, li_99, li_100, li_200, li_960, li_999, li_1600, li_9999, li_20000]
theorem e_miss9n {σ : St} {n : Nat} (h : σ 9 1 = nI n) (hn : n ≤ 24) : fX8_isMissing_9 σ = some (σ, nI 0) := by
  simp (disch := omega) only [fX8_isMissing_9, h, nI_neg n (show n < 2 ^ 31 by omega) (-nI 1) (by decide), eq_self, obn_some, stp, itp, up_at, upd_at, cu_at, up_ne, upd_ne, cu_ne, nI_clamp, nI_lt0, nI_ltP, nI_leP, nI_eqP, nI_add, pk_mul, pk_sub, sub1_lt, pred_lt, if_pos, if_neg, if_true, if_false, false_or, or_false, true_or, or_true, not_true, not_false_iff, li_0, li_1, li_2, li_3, li_4, li_5, li_6, li_7, li_8, li_9, li_10, li_11, li_12, li_13, li_14, li_15, li_16, li_17, li_18, li_19, li_20, li_21, li_22, li_23, li_24, li_25, li_26, li_27, li_28, li_29, li_30, li_31, li_32, li_33, li_34, li_35, li_36, li_37, li_38, li_39, li_40, li_42, li_43, li_48, li_50, li_99, li_100, li_200, li_960, li_999, li_1600, li_9999, li_20000]

theorem lt0_neg1 : (-nI 1 < nI 0) = True := eq_true (by decide)
theorem e_there {σ : St} {a b : Nat} (ha : a ≤ 1) (hb : b ≤ 1) (x8 : fX8_isMissing_8 σ = some (σ, nI a)) (x9 : fX8_isMissing_9 σ = some (σ, nI b)) : fX4_sheetsThere σ = some (σ, nI ((1 - a) + (1 - b))) := by
  have s3 : ∀ z, fX4_sheetsThere_L4 48 σ z (nI 2) = some (σ, z) := by
    intro z
    show fX4_sheetsThere_L4 (47 + 1) σ z (nI 2) = some (σ, z)
    rw [fX4_sheetsThere_L4, if_pos (by decide)]
  have s2 : ∀ z : Nat, z ≤ 1 → fX4_sheetsThere_L4 49 σ (nI z) (nI 1) = some (σ, nI (z + (1 - b))) := by
    intro z hz
    show fX4_sheetsThere_L4 (48 + 1) σ (nI z) (nI 1) = _
    rw [fX4_sheetsThere_L4, if_neg (by decide), if_neg (by decide), if_neg (by decide), stq x9]
    obtain rfl | rfl : b = 0 ∨ b = 1 := by omega
    · rw [if_pos (by decide)]
      have e1 : nI z + 1 = nI (z + 1) := nI_1 z
      have e2 : nI 1 + 1 = nI 2 := rfl
      rw [e1, e2, s3]
    · rw [if_neg (by decide)]
      have e2 : nI 1 + 1 = nI 2 := rfl
      rw [e2, s3]
      rfl
  unfold fX4_sheetsThere
  show fX4_sheetsThere_L4 (49 + 1) σ 0 0 = _
  rw [fX4_sheetsThere_L4, if_neg (by decide), if_neg (by decide), if_pos rfl, stq x8]
  obtain rfl | rfl : a = 0 ∨ a = 1 := by omega
  · rw [if_pos (by decide)]
    exact s2 1 (by omega)
  · rw [if_neg (by decide)]
    exact s2 0 (by omega)
set_option maxRecDepth 100000 in
set_option maxHeartbeats 8000000 in
theorem s_count {σ μ : St} (hR : Rg σ μ) (p0 : Int32) : Sm (fX9_count σ p0) (fX10_count μ p0) := by
  obtain ⟨h, r, k, f, ⟨h1, h2, h3⟩, ⟨r1, r2, r3⟩, ⟨k1, k2, k3⟩, ⟨f1, f2, f3⟩, A1, A2, A3, A4, A5, A6, A7, A8, A9, A10, A11, A12, A13, A14, A15, A16⟩ := id hR
  rcases cs4 p0 0 6 (by decide) (by decide) with c | ⟨c, c'⟩ | ⟨a, ha0, ha, rfl⟩
  · simp (disch := omega) only [fX9_count, fX10_count, ne_lt0 c 0 (by decide), ne_lt0 c 1 (by decide), ne_lt0 c 2 (by decide), ne_lt0 c 3 (by decide), ne_lt0 c 4 (by decide), ne_lt0 c 5 (by decide), ne_lt0 c 6 (by decide), eq_self, obn_some, stp, itp, up_at, upd_at, cu_at, up_ne, upd_ne, cu_ne, nI_clamp, nI_lt0, nI_ltP, nI_leP, nI_eqP, nI_add, pk_mul, pk_sub, sub1_lt, pred_lt, if_pos, if_neg, if_true, if_false, false_or, or_false, true_or, or_true, not_true, not_false_iff, li_0, li_1, li_2, li_3, li_4, li_5, li_6, li_7, li_8, li_9, li_10, li_11, li_12, li_13, li_14, li_15, li_16, li_17, li_18, li_19, li_20, li_21, li_22, li_23, li_24, li_25, li_26, li_27, li_28, li_29, li_30, li_31, li_32, li_33, li_34, li_35, li_36, li_37, li_38, li_39, li_40, li_42, li_43, li_48, li_50, li_99, li_100, li_200, li_960, li_999, li_1600, li_9999, li_20000]
    exact Sm.mk rfl hR
  · simp (disch := omega) only [fX9_count, fX10_count, ne_gt c' 0 (by decide) (by decide), ne_gt c' 1 (by decide) (by decide), ne_gt c' 2 (by decide) (by decide), ne_gt c' 3 (by decide) (by decide), ne_gt c' 4 (by decide) (by decide), ne_gt c' 5 (by decide) (by decide), ne_gt c' 6 (by decide) (by decide), eq_self, obn_some, stp, itp, up_at, upd_at, cu_at, up_ne, upd_ne, cu_ne, nI_clamp, nI_lt0, nI_ltP, nI_leP, nI_eqP, nI_add, pk_mul, pk_sub, sub1_lt, pred_lt, if_pos, if_neg, if_true, if_false, false_or, or_false, true_or, or_true, not_true, not_false_iff, li_0, li_1, li_2, li_3, li_4, li_5, li_6, li_7, li_8, li_9, li_10, li_11, li_12, li_13, li_14, li_15, li_16, li_17, li_18, li_19, li_20, li_21, li_22, li_23, li_24, li_25, li_26, li_27, li_28, li_29, li_30, li_31, li_32, li_33, li_34, li_35, li_36, li_37, li_38, li_39, li_40, li_42, li_43, li_48, li_50, li_99, li_100, li_200, li_960, li_999, li_1600, li_9999, li_20000]
    exact Sm.mk rfl hR
  obtain rfl | rfl | rfl | rfl | rfl | rfl | rfl : a = 0 ∨ a = 1 ∨ a = 2 ∨ a = 3 ∨ a = 4 ∨ a = 5 ∨ a = 6 := by omega
  · simp (disch := omega) only [fX9_count, fX10_count, h1, h2, eq_self, obn_some, stp, itp, up_at, upd_at, cu_at, up_ne, upd_ne, cu_ne, nI_clamp, nI_lt0, nI_ltP, nI_leP, nI_eqP, nI_add, pk_mul, pk_sub, sub1_lt, pred_lt, if_pos, if_neg, if_true, if_false, false_or, or_false, true_or, or_true, not_true, not_false_iff, li_0, li_1, li_2, li_3, li_4, li_5, li_6, li_7, li_8, li_9, li_10, li_11, li_12, li_13, li_14, li_15, li_16, li_17, li_18, li_19, li_20, li_21, li_22, li_23, li_24, li_25, li_26, li_27, li_28, li_29, li_30, li_31, li_32, li_33, li_34, li_35, li_36, li_37, li_38, li_39, li_40, li_42, li_43, li_48, li_50, li_99, li_100, li_200, li_960, li_999, li_1600, li_9999, li_20000]
    exact Sm.mk rfl hR
  · simp (disch := omega) only [fX9_count, fX10_count, r1, r2, eq_self, obn_some, stp, itp, up_at, upd_at, cu_at, up_ne, upd_ne, cu_ne, nI_clamp, nI_lt0, nI_ltP, nI_leP, nI_eqP, nI_add, pk_mul, pk_sub, sub1_lt, pred_lt, if_pos, if_neg, if_true, if_false, false_or, or_false, true_or, or_true, not_true, not_false_iff, li_0, li_1, li_2, li_3, li_4, li_5, li_6, li_7, li_8, li_9, li_10, li_11, li_12, li_13, li_14, li_15, li_16, li_17, li_18, li_19, li_20, li_21, li_22, li_23, li_24, li_25, li_26, li_27, li_28, li_29, li_30, li_31, li_32, li_33, li_34, li_35, li_36, li_37, li_38, li_39, li_40, li_42, li_43, li_48, li_50, li_99, li_100, li_200, li_960, li_999, li_1600, li_9999, li_20000]
    exact Sm.mk rfl hR
  · simp (disch := omega) only [fX9_count, fX10_count, k1, k2, eq_self, obn_some, stp, itp, up_at, upd_at, cu_at, up_ne, upd_ne, cu_ne, nI_clamp, nI_lt0, nI_ltP, nI_leP, nI_eqP, nI_add, pk_mul, pk_sub, sub1_lt, pred_lt, if_pos, if_neg, if_true, if_false, false_or, or_false, true_or, or_true, not_true, not_false_iff, li_0, li_1, li_2, li_3, li_4, li_5, li_6, li_7, li_8, li_9, li_10, li_11, li_12, li_13, li_14, li_15, li_16, li_17, li_18, li_19, li_20, li_21, li_22, li_23, li_24, li_25, li_26, li_27, li_28, li_29, li_30, li_31, li_32, li_33, li_34, li_35, li_36, li_37, li_38, li_39, li_40, li_42, li_43, li_48, li_50, li_99, li_100, li_200, li_960, li_999, li_1600, li_9999, li_20000]
    exact Sm.mk rfl hR
  · by_cases hk : k = 0
    · simp (disch := omega) only [fX9_count, fX10_count, fX2_manyRides, fX10_rides, k1, k2, r1, r2, eq_self, obn_some, stp, itp, up_at, upd_at, cu_at, up_ne, upd_ne, cu_ne, nI_clamp, nI_lt0, nI_ltP, nI_leP, nI_eqP, nI_add, pk_mul, pk_sub, sub1_lt, pred_lt, if_pos, if_neg, if_true, if_false, false_or, or_false, true_or, or_true, not_true, not_false_iff, li_0, li_1, li_2, li_3, li_4, li_5, li_6, li_7, li_8, li_9, li_10, li_11, li_12, li_13, li_14, li_15, li_16, li_17, li_18, li_19, li_20, li_21, li_22, li_23, li_24, li_25, li_26, li_27, li_28, li_29, li_30, li_31, li_32, li_33, li_34, li_35, li_36, li_37, li_38, li_39, li_40, li_42, li_43, li_48, li_50, li_99, li_100, li_200, li_960, li_999, li_1600, li_9999, li_20000]
      exact Sm.mk rfl hR
    · simp (disch := omega) only [fX9_count, fX10_count, fX2_manyRides, fX10_rides, k1, k2, r1, r2, eq_self, obn_some, stp, itp, up_at, upd_at, cu_at, up_ne, upd_ne, cu_ne, nI_clamp, nI_lt0, nI_ltP, nI_leP, nI_eqP, nI_add, pk_mul, pk_sub, sub1_lt, pred_lt, if_pos, if_neg, if_true, if_false, false_or, or_false, true_or, or_true, not_true, not_false_iff, li_0, li_1, li_2, li_3, li_4, li_5, li_6, li_7, li_8, li_9, li_10, li_11, li_12, li_13, li_14, li_15, li_16, li_17, li_18, li_19, li_20, li_21, li_22, li_23, li_24, li_25, li_26, li_27, li_28, li_29, li_30, li_31, li_32, li_33, li_34, li_35, li_36, li_37, li_38, li_39, li_40, li_42, li_43, li_48, li_50, li_99, li_100, li_200, li_960, li_999, li_1600, li_9999, li_20000]
      exact Sm.mk rfl hR
  · simp (disch := omega) only [fX9_count, fX10_count, f1, f2, eq_self, obn_some, stp, itp, up_at, upd_at, cu_at, up_ne, upd_ne, cu_ne, nI_clamp, nI_lt0, nI_ltP, nI_leP, nI_eqP, nI_add, pk_mul, pk_sub, sub1_lt, pred_lt, if_pos, if_neg, if_true, if_false, false_or, or_false, true_or, or_true, not_true, not_false_iff, li_0, li_1, li_2, li_3, li_4, li_5, li_6, li_7, li_8, li_9, li_10, li_11, li_12, li_13, li_14, li_15, li_16, li_17, li_18, li_19, li_20, li_21, li_22, li_23, li_24, li_25, li_26, li_27, li_28, li_29, li_30, li_31, li_32, li_33, li_34, li_35, li_36, li_37, li_38, li_39, li_40, li_42, li_43, li_48, li_50, li_99, li_100, li_200, li_960, li_999, li_1600, li_9999, li_20000]
    exact Sm.mk rfl hR
  · obtain ⟨x, x1, x2⟩ := e_frames r1 r2 r3 A7 r 0 50 50 (nI 0) (by omega) (by omega) (by omega)
    simp (disch := omega) only [fX9_count, fX10_count, fX5_allFrames, x1, x2, eq_self, obn_some, stp, itp, up_at, upd_at, cu_at, up_ne, upd_ne, cu_ne, nI_clamp, nI_lt0, nI_ltP, nI_leP, nI_eqP, nI_add, pk_mul, pk_sub, sub1_lt, pred_lt, if_pos, if_neg, if_true, if_false, false_or, or_false, true_or, or_true, not_true, not_false_iff, li_0, li_1, li_2, li_3, li_4, li_5, li_6, li_7, li_8, li_9, li_10, li_11, li_12, li_13, li_14, li_15, li_16, li_17, li_18, li_19, li_20, li_21, li_22, li_23, li_24, li_25, li_26, li_27, li_28, li_29, li_30, li_31, li_32, li_33, li_34, li_35, li_36, li_37, li_38, li_39, li_40, li_42, li_43, li_48, li_50, li_99, li_100, li_200, li_960, li_999, li_1600, li_9999, li_20000]
    exact Sm.mk rfl hR
  · rcases A15.1 with ⟨y1, y2⟩ | ⟨n, hn, y1, y2, -⟩
    · rcases A16.1 with ⟨z1, z2⟩ | ⟨n', hn', z1, z2, -⟩
      · simp (disch := omega) only [fX9_count, fX10_count, e_there (show 1 ≤ 1 by omega) (show 1 ≤ 1 by omega) (e_miss8 y1) (e_miss9 z1), y2, z2, le0_neg1, eq_self, obn_some, stp, itp, up_at, upd_at, cu_at, up_ne, upd_ne, cu_ne, nI_clamp, nI_lt0, nI_ltP, nI_leP, nI_eqP, nI_add, pk_mul, pk_sub, sub1_lt, pred_lt, if_pos, if_neg, if_true, if_false, false_or, or_false, true_or, or_true, not_true, not_false_iff, li_0, li_1, li_2, li_3, li_4, li_5, li_6, li_7, li_8, li_9, li_10, li_11, li_12, li_13, li_14, li_15, li_16, li_17, li_18, li_19, li_20, li_21, li_22, li_23, li_24, li_25, li_26, li_27, li_28, li_29, li_30, li_31, li_32, li_33, li_34, li_35, li_36, li_37, li_38, li_39, li_40, li_42, li_43, li_48, li_50, li_99, li_100, li_200, li_960, li_999, li_1600, li_9999, li_20000]
        exact Sm.mk rfl hR
      · simp (disch := omega) only [fX9_count, fX10_count, e_there (show 1 ≤ 1 by omega) (show 0 ≤ 1 by omega) (e_miss8 y1) (e_miss9n z1 hn'), y2, z2, le0_neg1, eq_self, obn_some, stp, itp, up_at, upd_at, cu_at, up_ne, upd_ne, cu_ne, nI_clamp, nI_lt0, nI_ltP, nI_leP, nI_eqP, nI_add, pk_mul, pk_sub, sub1_lt, pred_lt, if_pos, if_neg, if_true, if_false, false_or, or_false, true_or, or_true, not_true, not_false_iff, li_0, li_1, li_2, li_3, li_4, li_5, li_6, li_7, li_8, li_9, li_10, li_11, li_12, li_13, li_14, li_15, li_16, li_17, li_18, li_19, li_20, li_21, li_22, li_23, li_24, li_25, li_26, li_27, li_28, li_29, li_30, li_31, li_32, li_33, li_34, li_35, li_36, li_37, li_38, li_39, li_40, li_42, li_43, li_48, li_50, li_99, li_100, li_200, li_960, li_999, li_1600, li_9999, li_20000]
        exact Sm.mk rfl hR
    · rcases A16.1 with ⟨z1, z2⟩ | ⟨n', hn', z1, z2, -⟩
      · simp (disch := omega) only [fX9_count, fX10_count, e_there (show 0 ≤ 1 by omega) (show 1 ≤ 1 by omega) (e_miss8n y1 hn) (e_miss9 z1), y2, z2, le0_neg1, eq_self, obn_some, stp, itp, up_at, upd_at, cu_at, up_ne, upd_ne, cu_ne, nI_clamp, nI_lt0, nI_ltP, nI_leP, nI_eqP, nI_add, pk_mul, pk_sub, sub1_lt, pred_lt, if_pos, if_neg, if_true, if_false, false_or, or_false, true_or, or_true, not_true, not_false_iff, li_0, li_1, li_2, li_3, li_4, li_5, li_6, li_7, li_8, li_9, li_10, li_11, li_12, li_13, li_14, li_15, li_16, li_17, li_18, li_19, li_20, li_21, li_22, li_23, li_24, li_25, li_26, li_27, li_28, li_29, li_30, li_31, li_32, li_33, li_34, li_35, li_36, li_37, li_38, li_39, li_40, li_42, li_43, li_48, li_50, li_99, li_100, li_200, li_960, li_999, li_1600, li_9999, li_20000]
        exact Sm.mk rfl hR
      · simp (disch := omega) only [fX9_count, fX10_count, e_there (show 0 ≤ 1 by omega) (show 0 ≤ 1 by omega) (e_miss8n y1 hn) (e_miss9n z1 hn'), y2, z2, le0_neg1, eq_self, obn_some, stp, itp, up_at, upd_at, cu_at, up_ne, upd_ne, cu_ne, nI_clamp, nI_lt0, nI_ltP, nI_leP, nI_eqP, nI_add, pk_mul, pk_sub, sub1_lt, pred_lt, if_pos, if_neg, if_true, if_false, false_or, or_false, true_or, or_true, not_true, not_false_iff, li_0, li_1, li_2, li_3, li_4, li_5, li_6, li_7, li_8, li_9, li_10, li_11, li_12, li_13, li_14, li_15, li_16, li_17, li_18, li_19, li_20, li_21, li_22, li_23, li_24, li_25, li_26, li_27, li_28, li_29, li_30, li_31, li_32, li_33, li_34, li_35, li_36, li_37, li_38, li_39, li_40, li_42, li_43, li_48, li_50, li_99, li_100, li_200, li_960, li_999, li_1600, li_9999, li_20000]
        exact Sm.mk rfl hR
theorem e_sheetL {s n : Nat} (hs : s < 2) (hn : n ≤ 24) : ∀ (d i m : Nat) (μ : St), i + d = n → d < m → ∃ μ', fX10_sheet_L32 m μ (nI s) (nI n) (nI i) = some (μ', nI n) ∧ (∀ c, ¬ c = 15 → μ' c = μ c) ∧ ∀ j, μ' 15 j = if 24 * s + i ≤ j ∧ j < 24 * s + n then nI 0 else μ 15 j := by
  intro d
  induction d with
  | zero =>
    intro i m μ hi hm
    obtain ⟨m, rfl⟩ : ∃ x, m = x + 1 := ⟨m - 1, by omega⟩
    simp (disch := omega) only [fX10_sheet_L32, eq_self, obn_some, stp, itp, up_at, upd_at, cu_at, up_ne, upd_ne, cu_ne, nI_clamp, nI_lt0, nI_ltP, nI_leP, nI_eqP, nI_add, pk_mul, pk_sub, sub1_lt, pred_lt, if_pos, if_neg, if_true, if_false, false_or, or_false, true_or, or_true, not_true, not_false_iff, li_0, li_1, li_2, li_3, li_4, li_5, li_6, li_7, li_8, li_9, li_10, li_11, li_12, li_13, li_14, li_15, li_16, li_17, li_18, li_19, li_20, li_21, li_22, li_23, li_24, li_25, li_26, li_27, li_28, li_29, li_30, li_31, li_32, li_33, li_34, li_35, li_36, li_37, li_38, li_39, li_40, li_42, li_43, li_48, li_50, li_99, li_100, li_200, li_960, li_999, li_1600, li_9999, li_20000]
    exact ⟨μ, rfl, fun _ _ => rfl, fun j => by first | rfl | (rw [if_neg (by omega)])⟩
  | succ d ih =>
    intro i m μ hi hm
    obtain ⟨m, rfl⟩ : ∃ x, m = x + 1 := ⟨m - 1, by omega⟩
    simp (disch := omega) only [fX10_sheet_L32, eq_self, obn_some, stp, itp, up_at, upd_at, cu_at, up_ne, upd_ne, cu_ne, nI_clamp, nI_lt0, nI_ltP, nI_leP, nI_eqP, nI_add, pk_mul, pk_sub, sub1_lt, pred_lt, if_pos, if_neg, if_true, if_false, false_or, or_false, true_or, or_true, not_true, not_false_iff, li_0, li_1, li_2, li_3, li_4, li_5, li_6, li_7, li_8, li_9, li_10, li_11, li_12, li_13, li_14, li_15, li_16, li_17, li_18, li_19, li_20, li_21, li_22, li_23, li_24, li_25, li_26, li_27, li_28, li_29, li_30, li_31, li_32, li_33, li_34, li_35, li_36, li_37, li_38, li_39, li_40, li_42, li_43, li_48, li_50, li_99, li_100, li_200, li_960, li_999, li_1600, li_9999, li_20000]
    obtain ⟨μ', y1, y2, y3⟩ := ih (i + 1) m (up μ 15 (24 * s + i) (nI 0)) (by omega) (by omega)
    refine ⟨μ', y1, fun c hc => by rw [y2 c hc, up_ne _ _ _ hc], fun j => ?_⟩
    rw [y3 j, up_at]
    by_cases ej : j = 24 * s + i
    · subst ej
      rw [upd_at]
      by_cases c1 : 24 * s + (i + 1) ≤ 24 * s + i ∧ 24 * s + i < 24 * s + n
      · omega
      · rw [if_neg c1, if_pos (by omega)]
    · rw [upd_ne _ _ ej]
      by_cases c1 : 24 * s + (i + 1) ≤ j ∧ j < 24 * s + n
      · rw [if_pos c1, if_pos (by omega)]
      · rw [if_neg c1, if_neg (by omega)]
theorem nar0 : vp_nar .short 0 = nI 0 := by decide +kernel
set_option maxRecDepth 100000 in
set_option maxHeartbeats 8000000 in
theorem s_sheet {σ μ : St} (hR : Rg σ μ) (p0 p1 : Int32) : Sm (fX9_sheet σ p0 p1) (fX10_sheet μ p0 p1) := by
  obtain ⟨h, r, k, f, ⟨h1, h2, h3⟩, ⟨r1, r2, r3⟩, ⟨k1, k2, k3⟩, ⟨f1, f2, f3⟩, A1, A2, A3, A4, A5, A6, A7, A8, A9, A10, A11, A12, A13, A14, A15, A16⟩ := id hR
  rcases cs4 p0 0 1 (by decide) (by decide) with c | ⟨c, c'⟩ | ⟨s, hs0, hs, rfl⟩
  · simp (disch := omega) only [fX9_sheet, fX9_isSheet, fX9_within, fX10_sheet, fX10_isSheet, fX10_isIn, c, eq_self, obn_some, stp, itp, up_at, upd_at, cu_at, up_ne, upd_ne, cu_ne, nI_clamp, nI_lt0, nI_ltP, nI_leP, nI_eqP, nI_add, pk_mul, pk_sub, sub1_lt, pred_lt, if_pos, if_neg, if_true, if_false, false_or, or_false, true_or, or_true, not_true, not_false_iff, li_0, li_1, li_2, li_3, li_4, li_5, li_6, li_7, li_8, li_9, li_10, li_11, li_12, li_13, li_14, li_15, li_16, li_17, li_18, li_19, li_20, li_21, li_22, li_23, li_24, li_25, li_26, li_27, li_28, li_29, li_30, li_31, li_32, li_33, li_34, li_35, li_36, li_37, li_38, li_39, li_40, li_42, li_43, li_48, li_50, li_99, li_100, li_200, li_960, li_999, li_1600, li_9999, li_20000]
    exact Sm.mk rfl hR
  · simp (disch := omega) only [fX9_sheet, fX9_isSheet, fX9_within, fX10_sheet, fX10_isSheet, fX10_isIn, c, c', eq_self, obn_some, stp, itp, up_at, upd_at, cu_at, up_ne, upd_ne, cu_ne, nI_clamp, nI_lt0, nI_ltP, nI_leP, nI_eqP, nI_add, pk_mul, pk_sub, sub1_lt, pred_lt, if_pos, if_neg, if_true, if_false, false_or, or_false, true_or, or_true, not_true, not_false_iff, li_0, li_1, li_2, li_3, li_4, li_5, li_6, li_7, li_8, li_9, li_10, li_11, li_12, li_13, li_14, li_15, li_16, li_17, li_18, li_19, li_20, li_21, li_22, li_23, li_24, li_25, li_26, li_27, li_28, li_29, li_30, li_31, li_32, li_33, li_34, li_35, li_36, li_37, li_38, li_39, li_40, li_42, li_43, li_48, li_50, li_99, li_100, li_200, li_960, li_999, li_1600, li_9999, li_20000]
    exact Sm.mk rfl hR
  rcases cs4 p1 0 24 (by decide) (by decide) with c | ⟨c, c'⟩ | ⟨n, hn0, hn, rfl⟩
  · have c2 : (nI 0 ≤ p1) = False := by
      apply eq_false
      intro c3
      rw [lt_toInt] at c
      rw [le_toInt] at c3
      omega
    have c4 : (p1 ≤ nI 24) = True := by
      apply eq_true
      rw [lt_toInt] at c
      rw [le_toInt]
      have : (nI 0).toInt = 0 := by decide
      have : (nI 24).toInt = 24 := by decide
      omega
    simp (disch := omega) only [fX9_sheet, fX9_isSheet, fX9_within, fX10_sheet, fX10_isSheet, fX10_isIn, c2, c4, eq_self, obn_some, stp, itp, up_at, upd_at, cu_at, up_ne, upd_ne, cu_ne, nI_clamp, nI_lt0, nI_ltP, nI_leP, nI_eqP, nI_add, pk_mul, pk_sub, sub1_lt, pred_lt, if_pos, if_neg, if_true, if_false, false_or, or_false, true_or, or_true, not_true, not_false_iff, li_0, li_1, li_2, li_3, li_4, li_5, li_6, li_7, li_8, li_9, li_10, li_11, li_12, li_13, li_14, li_15, li_16, li_17, li_18, li_19, li_20, li_21, li_22, li_23, li_24, li_25, li_26, li_27, li_28, li_29, li_30, li_31, li_32, li_33, li_34, li_35, li_36, li_37, li_38, li_39, li_40, li_42, li_43, li_48, li_50, li_99, li_100, li_200, li_960, li_999, li_1600, li_9999, li_20000]
    exact Sm.mk rfl hR
  · have c4 : (p1 ≤ nI 24) = False := by
      apply eq_false
      intro c3
      rw [lt_toInt] at c'
      rw [le_toInt] at c3
      omega
    simp (disch := omega) only [fX9_sheet, fX9_isSheet, fX9_within, fX10_sheet, fX10_isSheet, fX10_isIn, c4, eq_self, obn_some, stp, itp, up_at, upd_at, cu_at, up_ne, upd_ne, cu_ne, nI_clamp, nI_lt0, nI_ltP, nI_leP, nI_eqP, nI_add, pk_mul, pk_sub, sub1_lt, pred_lt, if_pos, if_neg, if_true, if_false, false_or, or_false, true_or, or_true, not_true, not_false_iff, li_0, li_1, li_2, li_3, li_4, li_5, li_6, li_7, li_8, li_9, li_10, li_11, li_12, li_13, li_14, li_15, li_16, li_17, li_18, li_19, li_20, li_21, li_22, li_23, li_24, li_25, li_26, li_27, li_28, li_29, li_30, li_31, li_32, li_33, li_34, li_35, li_36, li_37, li_38, li_39, li_40, li_42, li_43, li_48, li_50, li_99, li_100, li_200, li_960, li_999, li_1600, li_9999, li_20000]
    exact Sm.mk rfl hR
  have fz : fits .short (.int (nI 0)) = true := by decide +kernel
  obtain rfl | rfl : s = 0 ∨ s = 1 := by omega
  · obtain ⟨μ', y1, y2, y3⟩ := e_sheetL (s := 0) (n := n) (by omega) hn n 0 50 (up μ 14 0 (nI n)) (by omega) (by omega)
    simp (disch := omega) only [fX9_sheet, fX9_isSheet, fX9_within, fX8_renew_8, fX10_sheet, fX10_isSheet, fX10_isIn, y1, eq_self, obn_some, stp, itp, up_at, upd_at, cu_at, up_ne, upd_ne, cu_ne, nI_clamp, nI_lt0, nI_ltP, nI_leP, nI_eqP, nI_add, pk_mul, pk_sub, sub1_lt, pred_lt, if_pos, if_neg, if_true, if_false, false_or, or_false, true_or, or_true, not_true, not_false_iff, li_0, li_1, li_2, li_3, li_4, li_5, li_6, li_7, li_8, li_9, li_10, li_11, li_12, li_13, li_14, li_15, li_16, li_17, li_18, li_19, li_20, li_21, li_22, li_23, li_24, li_25, li_26, li_27, li_28, li_29, li_30, li_31, li_32, li_33, li_34, li_35, li_36, li_37, li_38, li_39, li_40, li_42, li_43, li_48, li_50, li_99, li_100, li_200, li_960, li_999, li_1600, li_9999, li_20000]
    refine Sm.mk rfl ⟨h, r, k, f, ⟨h1, by rw [y2 0 (by decide)]; exact h2, h3⟩, ⟨r1, by rw [y2 0 (by decide)]; exact r2, r3⟩, ⟨k1, by rw [y2 0 (by decide)]; exact k2, k3⟩, ⟨f1, by rw [y2 0 (by decide)]; exact f2, f3⟩, by rw [y2 1 (by decide)]; exact A1, by rw [y2 2 (by decide)]; exact A2, by rw [y2 3 (by decide)]; exact A3, by rw [y2 4 (by decide)]; exact A4, by rw [y2 5 (by decide)]; exact A5, by rw [y2 6 (by decide)]; exact A6, by rw [y2 7 (by decide)]; exact A7, by rw [y2 8 (by decide)]; exact A8, by rw [y2 9 (by decide)]; exact A9, by rw [y2 10 (by decide)]; exact A10, by rw [y2 11 (by decide)]; exact A11, by rw [y2 12 (by decide)]; exact A12, by rw [y2 13 (by decide)]; exact A13, by rw [y2 0 (by decide)]; exact A14, ⟨?_, ?_⟩, ⟨?_, A16.2⟩⟩
    · refine Or.inr ⟨n, hn, rfl, by rw [y2 14 (by decide)]; rfl, fun j hj => ?_⟩
      rw [y3 j, if_pos (by omega)]
      show fl (σ 42) 24 _ j = nI 0
      unfold fl
      rw [if_pos (by omega)]
      exact nar0
    · intro j hj
      show fits .short (.int (fl (σ 42) 24 _ j)) = true
      unfold fl
      rw [if_pos hj]
      show fits .short (.int (vp_nar .short 0)) = true
      rw [nar0]
      exact fz
    · rw [y2 14 (by decide)]
      rcases A16.1 with ⟨z1, z2⟩ | ⟨n', hn', z1, z2, z3⟩
      · exact Or.inl ⟨z1, z2⟩
      · refine Or.inr ⟨n', hn', z1, z2, fun j hj => ?_⟩
        show σ 43 j = μ' 15 (24 + j)
        rw [y3, if_neg (by omega), up_ne _ _ _ (by decide)]
        exact z3 j hj
  · obtain ⟨μ', y1, y2, y3⟩ := e_sheetL (s := 1) (n := n) (by omega) hn n 0 50 (up μ 14 1 (nI n)) (by omega) (by omega)
    simp (disch := omega) only [fX9_sheet, fX9_isSheet, fX9_within, fX8_renew_9, fX10_sheet, fX10_isSheet, fX10_isIn, y1, eq_self, obn_some, stp, itp, up_at, upd_at, cu_at, up_ne, upd_ne, cu_ne, nI_clamp, nI_lt0, nI_ltP, nI_leP, nI_eqP, nI_add, pk_mul, pk_sub, sub1_lt, pred_lt, if_pos, if_neg, if_true, if_false, false_or, or_false, true_or, or_true, not_true, not_false_iff, li_0, li_1, li_2, li_3, li_4, li_5, li_6, li_7, li_8, li_9, li_10, li_11, li_12, li_13, li_14, li_15, li_16, li_17, li_18, li_19, li_20, li_21, li_22, li_23, li_24, li_25, li_26, li_27, li_28, li_29, li_30, li_31, li_32, li_33, li_34, li_35, li_36, li_37, li_38, li_39, li_40, li_42, li_43, li_48, li_50, li_99, li_100, li_200, li_960, li_999, li_1600, li_9999, li_20000]
    refine Sm.mk rfl ⟨h, r, k, f, ⟨h1, by rw [y2 0 (by decide)]; exact h2, h3⟩, ⟨r1, by rw [y2 0 (by decide)]; exact r2, r3⟩, ⟨k1, by rw [y2 0 (by decide)]; exact k2, k3⟩, ⟨f1, by rw [y2 0 (by decide)]; exact f2, f3⟩, by rw [y2 1 (by decide)]; exact A1, by rw [y2 2 (by decide)]; exact A2, by rw [y2 3 (by decide)]; exact A3, by rw [y2 4 (by decide)]; exact A4, by rw [y2 5 (by decide)]; exact A5, by rw [y2 6 (by decide)]; exact A6, by rw [y2 7 (by decide)]; exact A7, by rw [y2 8 (by decide)]; exact A8, by rw [y2 9 (by decide)]; exact A9, by rw [y2 10 (by decide)]; exact A10, by rw [y2 11 (by decide)]; exact A11, by rw [y2 12 (by decide)]; exact A12, by rw [y2 13 (by decide)]; exact A13, by rw [y2 0 (by decide)]; exact A14, ⟨?_, A15.2⟩, ⟨?_, ?_⟩⟩
    · rw [y2 14 (by decide)]
      rcases A15.1 with ⟨z1, z2⟩ | ⟨n', hn', z1, z2, z3⟩
      · exact Or.inl ⟨z1, z2⟩
      · refine Or.inr ⟨n', hn', z1, z2, fun j hj => ?_⟩
        rw [y3, if_neg (by omega), up_ne _ _ _ (by decide)]
        exact z3 j hj
    · refine Or.inr ⟨n, hn, rfl, by rw [y2 14 (by decide)]; rfl, fun j hj => ?_⟩
      show fl (σ 43) 24 _ j = μ' 15 (24 + j)
      rw [y3 (24 + j), if_pos (by omega)]
      unfold fl
      rw [if_pos (by omega)]
      exact nar0
    · intro j hj
      show fits .short (.int (fl (σ 43) 24 _ j)) = true
      unfold fl
      rw [if_pos hj]
      show fits .short (.int (vp_nar .short 0)) = true
      rw [nar0]
      exact fz
