set_option maxRecDepth 100000 in
set_option maxHeartbeats 8000000 in
theorem e_shares {σ μ : St} {h n0 w : Nat} (hw : w < 4) (h1 : σ 1 5 = nI h) (h2 : μ 0 0 = nI h) (h3 : h ≤ 6) (A1 : qR h 0 4 (σ 12) (μ 1)) (A2 : qR h 1 1000 (σ 13) (μ 2)) (A4 : qR 6 0 10000 (σ 15) (μ 4)) (B1 : σ 40 0 = μ 0 17) (hn : n0 ≤ 24) (y1 : σ 8 1 = nI n0) (y2 : μ 14 0 = nI n0) (y3 : ∀ j, j < n0 → σ 42 j = μ 15 j) : ∀ (d i n n' : Nat) (acc : Int32), i + d = h → d < n → d < n' → ∃ x, fX4_allShares_L4 n σ (nI w) acc (nI i) = some (σ, x) ∧ fX10_shares_L26 n' μ (nI w) acc (nI i) = some (μ, x) := by
  intro d
  induction d with
  | zero =>
    intro i n n' acc hi hn hn'
    obtain ⟨n, rfl⟩ : ∃ m, n = m + 1 := ⟨n - 1, by omega⟩
    obtain ⟨n', rfl⟩ : ∃ m, n' = m + 1 := ⟨n' - 1, by omega⟩
    simp (disch := omega) only [fX4_allShares_L4, fX10_shares_L26, h1, h2, eq_self, obn_some, stp, itp, up_at, upd_at, cu_at, up_ne, upd_ne, cu_ne, nI_clamp, nI_lt0, nI_ltP, nI_leP, nI_eqP, nI_add, pk_mul, pk_sub, sub1_lt, pred_lt, if_pos, if_neg, if_true, if_false, false_or, or_false, true_or, or_true, not_true, not_false_iff, li_0, li_1, li_2, li_3, li_4, li_5, li_6, li_7, li_8, li_9, li_10, li_11, li_12, li_13, li_14, li_15, li_16, li_17, li_18, li_19, li_20, li_21, li_22, li_23, li_24, li_25, li_26, li_27, li_28, li_29, li_30, li_31, li_32, li_33, li_34, li_35, li_36, li_37, li_38, li_39, li_40, li_42, li_43, li_48, li_50, li_99, li_100, li_200, li_960, li_999, li_1600, li_9999, li_20000]
    exact ⟨acc, rfl, rfl⟩
  | succ d ih =>
    intro i n n' acc hi hn hn'
    obtain ⟨n, rfl⟩ : ∃ m, n = m + 1 := ⟨n - 1, by omega⟩
    obtain ⟨n', rfl⟩ : ∃ m, n' = m + 1 := ⟨n' - 1, by omega⟩
    obtain ⟨e, q, -, hq, e2⟩ := A1 i (by omega)
    rw [e2] at e
    obtain ⟨u, s, s0, hs, u2⟩ := A2 i (by omega)
    rw [u2] at u
    have sh := e_share (h := h) (by omega) e e2 hq (A4 i (by omega)).1 B1
    by_cases hp : n0 ≤ 6 * w + i
    · obtain ⟨x, x1, x2⟩ := sh (nI 0)
      simp (disch := omega) only [fX4_allShares_L4, fX4_headsToldOf, fX9_place, fX8_has_8, fX10_shares_L26, h1, h2, y1, y2, x1, x2, eq_self, obn_some, stp, itp, up_at, upd_at, cu_at, up_ne, upd_ne, cu_ne, nI_clamp, nI_lt0, nI_ltP, nI_leP, nI_eqP, nI_add, pk_mul, pk_sub, sub1_lt, pred_lt, if_pos, if_neg, if_true, if_false, false_or, or_false, true_or, or_true, not_true, not_false_iff, li_0, li_1, li_2, li_3, li_4, li_5, li_6, li_7, li_8, li_9, li_10, li_11, li_12, li_13, li_14, li_15, li_16, li_17, li_18, li_19, li_20, li_21, li_22, li_23, li_24, li_25, li_26, li_27, li_28, li_29, li_30, li_31, li_32, li_33, li_34, li_35, li_36, li_37, li_38, li_39, li_40, li_42, li_43, li_48, li_50, li_99, li_100, li_200, li_960, li_999, li_1600, li_9999, li_20000]
      exact ih (i + 1) n n' _ (by omega) (by omega) (by omega)
    · have e42 := y3 (6 * w + i) (by omega)
      rcases cs4 (μ 15 (6 * w + i)) 0 s (by omega) (by omega) with c | ⟨c, c'⟩ | ⟨b, hb0, hb, eb⟩
      · obtain ⟨x, x1, x2⟩ := sh (nI 0)
        simp (disch := omega) only [fX4_allShares_L4, fX4_headsToldOf, fX9_place, fX9_within, fX8_has_8, fX10_shares_L26, fX10_isIn, h1, h2, y1, y2, u, u2, e42, c, x1, x2, eq_self, obn_some, stp, itp, up_at, upd_at, cu_at, up_ne, upd_ne, cu_ne, nI_clamp, nI_lt0, nI_ltP, nI_leP, nI_eqP, nI_add, pk_mul, pk_sub, sub1_lt, pred_lt, if_pos, if_neg, if_true, if_false, false_or, or_false, true_or, or_true, not_true, not_false_iff, li_0, li_1, li_2, li_3, li_4, li_5, li_6, li_7, li_8, li_9, li_10, li_11, li_12, li_13, li_14, li_15, li_16, li_17, li_18, li_19, li_20, li_21, li_22, li_23, li_24, li_25, li_26, li_27, li_28, li_29, li_30, li_31, li_32, li_33, li_34, li_35, li_36, li_37, li_38, li_39, li_40, li_42, li_43, li_48, li_50, li_99, li_100, li_200, li_960, li_999, li_1600, li_9999, li_20000]
        exact ih (i + 1) n n' _ (by omega) (by omega) (by omega)
      · obtain ⟨x, x1, x2⟩ := sh (nI 0)
        simp (disch := omega) only [fX4_allShares_L4, fX4_headsToldOf, fX9_place, fX9_within, fX8_has_8, fX10_shares_L26, fX10_isIn, h1, h2, y1, y2, u, u2, e42, c, c', x1, x2, eq_self, obn_some, stp, itp, up_at, upd_at, cu_at, up_ne, upd_ne, cu_ne, nI_clamp, nI_lt0, nI_ltP, nI_leP, nI_eqP, nI_add, pk_mul, pk_sub, sub1_lt, pred_lt, if_pos, if_neg, if_true, if_false, false_or, or_false, true_or, or_true, not_true, not_false_iff, li_0, li_1, li_2, li_3, li_4, li_5, li_6, li_7, li_8, li_9, li_10, li_11, li_12, li_13, li_14, li_15, li_16, li_17, li_18, li_19, li_20, li_21, li_22, li_23, li_24, li_25, li_26, li_27, li_28, li_29, li_30, li_31, li_32, li_33, li_34, li_35, li_36, li_37, li_38, li_39, li_40, li_42, li_43, li_48, li_50, li_99, li_100, li_200, li_960, li_999, li_1600, li_9999, li_20000]
        exact ih (i + 1) n n' _ (by omega) (by omega) (by omega)
      · obtain ⟨x, x1, x2⟩ := sh (nI b)
        rw [eb] at e42
        simp (disch := omega) only [fX4_allShares_L4, fX4_headsToldOf, fX9_place, fX9_within, fX8_has_8, fX10_shares_L26, fX10_isIn, h1, h2, y1, y2, u, u2, e42, eb, x1, x2, eq_self, obn_some, stp, itp, up_at, upd_at, cu_at, up_ne, upd_ne, cu_ne, nI_clamp, nI_lt0, nI_ltP, nI_leP, nI_eqP, nI_add, pk_mul, pk_sub, sub1_lt, pred_lt, if_pos, if_neg, if_true, if_false, false_or, or_false, true_or, or_true, not_true, not_false_iff, li_0, li_1, li_2, li_3, li_4, li_5, li_6, li_7, li_8, li_9, li_10, li_11, li_12, li_13, li_14, li_15, li_16, li_17, li_18, li_19, li_20, li_21, li_22, li_23, li_24, li_25, li_26, li_27, li_28, li_29, li_30, li_31, li_32, li_33, li_34, li_35, li_36, li_37, li_38, li_39, li_40, li_42, li_43, li_48, li_50, li_99, li_100, li_200, li_960, li_999, li_1600, li_9999, li_20000]
        exact ih (i + 1) n n' _ (by omega) (by omega) (by omega)
set_option maxRecDepth 100000 in
set_option maxHeartbeats 8000000 in
theorem s_shares {σ μ : St} (hR : Rg σ μ) (p0 : Int32) : Sm (fX9_shares σ p0) (fX10_shares μ p0) := by
  obtain ⟨h, r, k, f, ⟨h1, h2, h3⟩, ⟨r1, r2, r3⟩, ⟨k1, k2, k3⟩, ⟨f1, f2, f3⟩, A1, A2, A3, A4, A5, A6, A7, A8, A9, A10, A11, A12, A13, A14, A15, A16⟩ := id hR
  rcases cs4 p0 0 3 (by decide) (by decide) with c | ⟨c, c'⟩ | ⟨w, hw0, hw, rfl⟩
  · simp (disch := omega) only [fX9_shares, fX9_isWeek, fX9_within, fX10_shares, fX10_isWeek, fX10_isIn, c, eq_self, obn_some, stp, itp, up_at, upd_at, cu_at, up_ne, upd_ne, cu_ne, nI_clamp, nI_lt0, nI_ltP, nI_leP, nI_eqP, nI_add, pk_mul, pk_sub, sub1_lt, pred_lt, if_pos, if_neg, if_true, if_false, false_or, or_false, true_or, or_true, not_true, not_false_iff, li_0, li_1, li_2, li_3, li_4, li_5, li_6, li_7, li_8, li_9, li_10, li_11, li_12, li_13, li_14, li_15, li_16, li_17, li_18, li_19, li_20, li_21, li_22, li_23, li_24, li_25, li_26, li_27, li_28, li_29, li_30, li_31, li_32, li_33, li_34, li_35, li_36, li_37, li_38, li_39, li_40, li_42, li_43, li_48, li_50, li_99, li_100, li_200, li_960, li_999, li_1600, li_9999, li_20000]
    exact Sm.mk rfl hR
  · simp (disch := omega) only [fX9_shares, fX9_isWeek, fX9_within, fX10_shares, fX10_isWeek, fX10_isIn, c, c', eq_self, obn_some, stp, itp, up_at, upd_at, cu_at, up_ne, upd_ne, cu_ne, nI_clamp, nI_lt0, nI_ltP, nI_leP, nI_eqP, nI_add, pk_mul, pk_sub, sub1_lt, pred_lt, if_pos, if_neg, if_true, if_false, false_or, or_false, true_or, or_true, not_true, not_false_iff, li_0, li_1, li_2, li_3, li_4, li_5, li_6, li_7, li_8, li_9, li_10, li_11, li_12, li_13, li_14, li_15, li_16, li_17, li_18, li_19, li_20, li_21, li_22, li_23, li_24, li_25, li_26, li_27, li_28, li_29, li_30, li_31, li_32, li_33, li_34, li_35, li_36, li_37, li_38, li_39, li_40, li_42, li_43, li_48, li_50, li_99, li_100, li_200, li_960, li_999, li_1600, li_9999, li_20000]
    exact Sm.mk rfl hR
  rcases A15.1 with ⟨y1, y2⟩ | ⟨n, hn, y1, y2, y3⟩
  · simp (disch := omega) only [fX9_shares, fX9_isWeek, fX9_within, fX10_shares, fX10_isWeek, fX10_isIn, e_miss8 y1, y2, le0_neg1, eq_self, obn_some, stp, itp, up_at, upd_at, cu_at, up_ne, upd_ne, cu_ne, nI_clamp, nI_lt0, nI_ltP, nI_leP, nI_eqP, nI_add, pk_mul, pk_sub, sub1_lt, pred_lt, if_pos, if_neg, if_true, if_false, false_or, or_false, true_or, or_true, not_true, not_false_iff, li_0, li_1, li_2, li_3, li_4, li_5, li_6, li_7, li_8, li_9, li_10, li_11, li_12, li_13, li_14, li_15, li_16, li_17, li_18, li_19, li_20, li_21, li_22, li_23, li_24, li_25, li_26, li_27, li_28, li_29, li_30, li_31, li_32, li_33, li_34, li_35, li_36, li_37, li_38, li_39, li_40, li_42, li_43, li_48, li_50, li_99, li_100, li_200, li_960, li_999, li_1600, li_9999, li_20000]
    exact Sm.mk rfl hR
  · obtain ⟨x, x1, x2⟩ := e_shares (w := w) (by omega) h1 h2 h3 A1 A2 A4 A14.1 hn y1 y2 y3 h 0 50 50 (nI 0) (by omega) (by omega) (by omega)
    simp (disch := omega) only [fX9_shares, fX9_isWeek, fX9_within, fX4_allShares, fX10_shares, fX10_isWeek, fX10_isIn, e_miss8n y1 hn, y2, x1, x2, eq_self, obn_some, stp, itp, up_at, upd_at, cu_at, up_ne, upd_ne, cu_ne, nI_clamp, nI_lt0, nI_ltP, nI_leP, nI_eqP, nI_add, pk_mul, pk_sub, sub1_lt, pred_lt, if_pos, if_neg, if_true, if_false, false_or, or_false, true_or, or_true, not_true, not_false_iff, li_0, li_1, li_2, li_3, li_4, li_5, li_6, li_7, li_8, li_9, li_10, li_11, li_12, li_13, li_14, li_15, li_16, li_17, li_18, li_19, li_20, li_21, li_22, li_23, li_24, li_25, li_26, li_27, li_28, li_29, li_30, li_31, li_32, li_33, li_34, li_35, li_36, li_37, li_38, li_39, li_40, li_42, li_43, li_48, li_50, li_99, li_100, li_200, li_960, li_999, li_1600, li_9999, li_20000]
    exact Sm.mk rfl hR
def lcg (x : Int32) : Int32 := x * 1664525 + 1013904223
theorem lcg_def (v : Int32) : v * 1664525 + 1013904223 = lcg v := rfl
def itF (F : Int32 → Int32) : Nat → Int32 → Int32
  | 0, x => x
  | n + 1, x => itF F n (F x)
theorem itF_s (F : Int32 → Int32) (n : Nat) (x : Int32) : itF F (n + 1) x = F (itF F n x) := by
  induction n generalizing x with
  | zero => rfl
  | succ n ih =>
    rw [itF, ih (F x)]
    rw [itF]
def itl (n : Nat) (x : Int32) : Int32 := itF lcg n x
theorem itl_0 (x : Int32) : itl 0 x = x := by
  unfold itl
  rw [itF]
theorem itl_t (n : Nat) (x : Int32) : itl (n + 1) x = itl n (lcg x) := by
  unfold itl
  rw [itF]
theorem itl_s (n : Nat) (x : Int32) : itl (n + 1) x = lcg (itl n x) := itF_s lcg n x
theorem or0 (x : Int32) : x ||| nI 0 = x := by
  show x ||| 0 = x
  first | exact Int32.or_zero | simp
theorem e_skip {σ : St} {h F : Nat} (h1 : σ 1 5 = nI h) (h3 : h ≤ 6) (hF : F ≤ 18) : ∀ (d i n : Nat) (b v : Int32), i + d = F → fX4_checkedBits_L19 (n + d) σ b v (nI F) (nI i) = fX4_checkedBits_L19 n σ b (itl d v) (nI F) (nI F) := by
  intro d
  induction d with
  | zero =>
    intro i n b v hi
    have : i = F := by omega
    subst this
    rw [itl_0, Nat.add_zero]
  | succ d ih =>
    intro i n b v hi
    rw [show n + (d + 1) = (n + d) + 1 by omega, fX4_checkedBits_L19, itl_t]
    simp (disch := omega) only [h1, lcg_def, eq_self, obn_some, stp, itp, up_at, upd_at, cu_at, up_ne, upd_ne, cu_ne, nI_clamp, nI_lt0, nI_ltP, nI_leP, nI_eqP, nI_add, pk_mul, pk_sub, sub1_lt, pred_lt, if_pos, if_neg, if_true, if_false, false_or, or_false, true_or, or_true, not_true, not_false_iff, li_0, li_1, li_2, li_3, li_4, li_5, li_6, li_7, li_8, li_9, li_10, li_11, li_12, li_13, li_14, li_15, li_16, li_17, li_18, li_19, li_20, li_21, li_22, li_23, li_24, li_25, li_26, li_27, li_28, li_29, li_30, li_31, li_32, li_33, li_34, li_35, li_36, li_37, li_38, li_39, li_40, li_42, li_43, li_48, li_50, li_99, li_100, li_200, li_960, li_999, li_1600, li_9999, li_20000]
    exact ih (i + 1) n b (lcg v) (by omega)
theorem e_draw {μ : St} {w i : Nat} (hw : w < 4) (hi : i < 6) (K : St → Int32 → Int32 → Int32 → Int32 → Option (St × Int32)) (a2 : Int32) : ∀ (d j n : Nat) (v : Int32), j + d = 6 * w + i + 1 → d < n → fX10_checked_L31 K n μ (nI w) a2 (nI i) v (nI j) = K μ (nI w) a2 (nI i) (itl d v) := by
  intro d
  induction d with
  | zero =>
    intro j n v hj hn
    obtain ⟨n, rfl⟩ : ∃ m, n = m + 1 := ⟨n - 1, by omega⟩
    rw [fX10_checked_L31, itl_0]
    simp (disch := omega) only [lcg_def, eq_self, obn_some, stp, itp, up_at, upd_at, cu_at, up_ne, upd_ne, cu_ne, nI_clamp, nI_lt0, nI_ltP, nI_leP, nI_eqP, nI_add, pk_mul, pk_sub, sub1_lt, pred_lt, if_pos, if_neg, if_true, if_false, false_or, or_false, true_or, or_true, not_true, not_false_iff, li_0, li_1, li_2, li_3, li_4, li_5, li_6, li_7, li_8, li_9, li_10, li_11, li_12, li_13, li_14, li_15, li_16, li_17, li_18, li_19, li_20, li_21, li_22, li_23, li_24, li_25, li_26, li_27, li_28, li_29, li_30, li_31, li_32, li_33, li_34, li_35, li_36, li_37, li_38, li_39, li_40, li_42, li_43, li_48, li_50, li_99, li_100, li_200, li_960, li_999, li_1600, li_9999, li_20000]
  | succ d ih =>
    intro j n v hj hn
    obtain ⟨n, rfl⟩ : ∃ m, n = m + 1 := ⟨n - 1, by omega⟩
    rw [fX10_checked_L31, itl_t]
    simp (disch := omega) only [lcg_def, eq_self, obn_some, stp, itp, up_at, upd_at, cu_at, up_ne, upd_ne, cu_ne, nI_clamp, nI_lt0, nI_ltP, nI_leP, nI_eqP, nI_add, pk_mul, pk_sub, sub1_lt, pred_lt, if_pos, if_neg, if_true, if_false, false_or, or_false, true_or, or_true, not_true, not_false_iff, li_0, li_1, li_2, li_3, li_4, li_5, li_6, li_7, li_8, li_9, li_10, li_11, li_12, li_13, li_14, li_15, li_16, li_17, li_18, li_19, li_20, li_21, li_22, li_23, li_24, li_25, li_26, li_27, li_28, li_29, li_30, li_31, li_32, li_33, li_34, li_35, li_36, li_37, li_38, li_39, li_40, li_42, li_43, li_48, li_50, li_99, li_100, li_200, li_960, li_999, li_1600, li_9999, li_20000]
    exact ih (j + 1) n (lcg v) (by omega) (by omega)
def ckv (v : Int32) : Int32 := (v.toUInt32 >>> (Int32.toUInt32 (nI 8) &&& Int32.toUInt32 (nI 31))).toInt32 - (v.toUInt32 >>> (Int32.toUInt32 (nI 8) &&& Int32.toUInt32 (nI 31))).toInt32 / nI 100 * nI 100
theorem c_ck {σ : St} {h F i n : Nat} {b v : Int32} (h1 : σ 1 5 = nI h) (h3 : h ≤ 6) (hF : F ≤ 18) (hi : i < h) : fX4_checkedBits_L19 (n + 1) σ b v (nI F) (nI (F + i)) = fX4_checkedBits_L19 n σ (if σ 40 1 ≤ ckv (lcg v) then b else b ||| (nI 1 <<< (nI i &&& nI 31))) (lcg v) (nI F) (nI (F + (i + 1))) := by
  have hs : F + i - F = i := by omega
  rw [fX4_checkedBits_L19]
  by_cases hc : σ 40 1 ≤ ckv (lcg v)
  · rw [if_pos hc]
    unfold ckv at hc
    simp (disch := omega) only [h1, hs, hc, lcg_def, Nat.add_assoc, eq_self, obn_some, stp, itp, up_at, upd_at, cu_at, up_ne, upd_ne, cu_ne, nI_clamp, nI_lt0, nI_ltP, nI_leP, nI_eqP, nI_add, pk_mul, pk_sub, sub1_lt, pred_lt, if_pos, if_neg, if_true, if_false, false_or, or_false, true_or, or_true, not_true, not_false_iff, li_0, li_1, li_2, li_3, li_4, li_5, li_6, li_7, li_8, li_9, li_10, li_11, li_12, li_13, li_14, li_15, li_16, li_17, li_18, li_19, li_20, li_21, li_22, li_23, li_24, li_25, li_26, li_27, li_28, li_29, li_30, li_31, li_32, li_33, li_34, li_35, li_36, li_37, li_38, li_39, li_40, li_42, li_43, li_48, li_50, li_99, li_100, li_200, li_960, li_999, li_1600, li_9999, li_20000]
  · rw [if_neg hc]
    unfold ckv at hc
    simp (disch := omega) only [h1, hs, hc, lcg_def, Nat.add_assoc, eq_self, obn_some, stp, itp, up_at, upd_at, cu_at, up_ne, upd_ne, cu_ne, nI_clamp, nI_lt0, nI_ltP, nI_leP, nI_eqP, nI_add, pk_mul, pk_sub, sub1_lt, pred_lt, if_pos, if_neg, if_true, if_false, false_or, or_false, true_or, or_true, not_true, not_false_iff, li_0, li_1, li_2, li_3, li_4, li_5, li_6, li_7, li_8, li_9, li_10, li_11, li_12, li_13, li_14, li_15, li_16, li_17, li_18, li_19, li_20, li_21, li_22, li_23, li_24, li_25, li_26, li_27, li_28, li_29, li_30, li_31, li_32, li_33, li_34, li_35, li_36, li_37, li_38, li_39, li_40, li_42, li_43, li_48, li_50, li_99, li_100, li_200, li_960, li_999, li_1600, li_9999, li_20000]
theorem m_ck {μ : St} {h w i n : Nat} {b : Int32} (hw : w < 4) (h2 : μ 0 0 = nI h) (h3 : h ≤ 6) (hi : i < h) : fX10_checked_L14 (n + 1) μ (nI w) b (nI i) = fX10_checked_L14 n μ (nI w) (if μ 0 18 ≤ ckv (itl (6 * w + i + 1) (μ 0 19)) then b else b ||| (nI 1 <<< (nI i &&& nI 31))) (nI (i + 1)) := by
  have dr := fun K a2 => e_draw (μ := μ) (w := w) (i := i) hw (by omega) K a2 (6 * w + i + 1) 0 50 (μ 0 19) (by omega) (by omega)
  rw [fX10_checked_L14]
  by_cases hc : μ 0 18 ≤ ckv (itl (6 * w + i + 1) (μ 0 19))
  · rw [if_pos hc]
    unfold ckv at hc
    simp (disch := omega) only [h2, dr, hc, or0, eq_self, obn_some, stp, itp, up_at, upd_at, cu_at, up_ne, upd_ne, cu_ne, nI_clamp, nI_lt0, nI_ltP, nI_leP, nI_eqP, nI_add, pk_mul, pk_sub, sub1_lt, pred_lt, if_pos, if_neg, if_true, if_false, false_or, or_false, true_or, or_true, not_true, not_false_iff, li_0, li_1, li_2, li_3, li_4, li_5, li_6, li_7, li_8, li_9, li_10, li_11, li_12, li_13, li_14, li_15, li_16, li_17, li_18, li_19, li_20, li_21, li_22, li_23, li_24, li_25, li_26, li_27, li_28, li_29, li_30, li_31, li_32, li_33, li_34, li_35, li_36, li_37, li_38, li_39, li_40, li_42, li_43, li_48, li_50, li_99, li_100, li_200, li_960, li_999, li_1600, li_9999, li_20000]
  · rw [if_neg hc]
    unfold ckv at hc
    simp (disch := omega) only [h2, dr, hc, or0, eq_self, obn_some, stp, itp, up_at, upd_at, cu_at, up_ne, upd_ne, cu_ne, nI_clamp, nI_lt0, nI_ltP, nI_leP, nI_eqP, nI_add, pk_mul, pk_sub, sub1_lt, pred_lt, if_pos, if_neg, if_true, if_false, false_or, or_false, true_or, or_true, not_true, not_false_iff, li_0, li_1, li_2, li_3, li_4, li_5, li_6, li_7, li_8, li_9, li_10, li_11, li_12, li_13, li_14, li_15, li_16, li_17, li_18, li_19, li_20, li_21, li_22, li_23, li_24, li_25, li_26, li_27, li_28, li_29, li_30, li_31, li_32, li_33, li_34, li_35, li_36, li_37, li_38, li_39, li_40, li_42, li_43, li_48, li_50, li_99, li_100, li_200, li_960, li_999, li_1600, li_9999, li_20000]
theorem e_bits {σ μ : St} {h w : Nat} (hw : w < 4) (h1 : σ 1 5 = nI h) (h2 : μ 0 0 = nI h) (h3 : h ≤ 6) (B2 : σ 40 1 = μ 0 18) : ∀ (d i n n' : Nat) (b : Int32), i + d = h → d < n → d < n' → ∃ x, fX4_checkedBits_L19 n σ b (itl (6 * w + i) (μ 0 19)) (nI (6 * w)) (nI (6 * w + i)) = some (σ, x) ∧ fX10_checked_L14 n' μ (nI w) b (nI i) = some (μ, x) := by
  intro d
  induction d with
  | zero =>
    intro i n n' b hi hn hn'
    obtain ⟨n, rfl⟩ : ∃ m, n = m + 1 := ⟨n - 1, by omega⟩
    obtain ⟨n', rfl⟩ : ∃ m, n' = m + 1 := ⟨n' - 1, by omega⟩
    have e : i = h := by omega
    subst e
    refine ⟨b, ?_, ?_⟩
    · rw [fX4_checkedBits_L19, h1, nI_add, if_pos (nI_le (Nat.le_refl _) (by omega))]
    · rw [fX10_checked_L14, h2, if_pos (nI_le (Nat.le_refl _) (by omega))]
  | succ d ih =>
    intro i n n' b hi hn hn'
    obtain ⟨n, rfl⟩ : ∃ m, n = m + 1 := ⟨n - 1, by omega⟩
    obtain ⟨n', rfl⟩ : ∃ m, n' = m + 1 := ⟨n' - 1, by omega⟩
    rw [c_ck h1 h3 (by omega) (by omega), m_ck hw h2 h3 (by omega), ← itl_s, B2]
    exact ih (i + 1) n n' _ (by omega) (by omega) (by omega)
set_option maxRecDepth 100000 in
set_option maxHeartbeats 8000000 in
theorem s_checked {σ μ : St} (hR : Rg σ μ) (p0 : Int32) : Sm (fX9_checked σ p0) (fX10_checked μ p0) := by
  obtain ⟨h, r, k, f, ⟨h1, h2, h3⟩, ⟨r1, r2, r3⟩, ⟨k1, k2, k3⟩, ⟨f1, f2, f3⟩, A1, A2, A3, A4, A5, A6, A7, A8, A9, A10, A11, A12, A13, A14, A15, A16⟩ := id hR
  unfold fX9_checked fX10_checked
  rcases cs4' p0 0 3 (by decide) (by decide) with c | ⟨w, hw0, hw, rfl⟩
  · rw [st0 (c_wk0 σ c), st0 (m_wk0 μ c)]
    exact Sm.mk rfl hR
  rw [st1 (c_wk1 σ hw), st1 (m_wk1 μ hw)]
  obtain ⟨x, x1, x2⟩ := e_bits (σ := σ) (μ := μ) (w := w) (by omega) h1 h2 h3 A14.2.1 h 0 (50 - 6 * w) 50 (nI 0) (by omega) (by omega) (by omega)
  have sk := e_skip (σ := σ) (F := 6 * w) h1 h3 (by omega) (6 * w) 0 (50 - 6 * w) (nI 0) (μ 0 19) (by omega)
  rw [show 50 - 6 * w + 6 * w = 50 by omega] at sk
  have cb : fX4_checkedBits σ (nI w) = some (σ, x) := by
    unfold fX4_checkedBits
    have e1 : fX9_place σ (nI w) 0 = some (σ, nI (6 * w)) := by simp (disch := omega) only [fX9_place, Nat.add_zero, eq_self, obn_some, stp, itp, up_at, upd_at, cu_at, up_ne, upd_ne, cu_ne, nI_clamp, nI_lt0, nI_ltP, nI_leP, nI_eqP, nI_add, pk_mul, pk_sub, sub1_lt, pred_lt, if_pos, if_neg, if_true, if_false, false_or, or_false, true_or, or_true, not_true, not_false_iff, li_0, li_1, li_2, li_3, li_4, li_5, li_6, li_7, li_8, li_9, li_10, li_11, li_12, li_13, li_14, li_15, li_16, li_17, li_18, li_19, li_20, li_21, li_22, li_23, li_24, li_25, li_26, li_27, li_28, li_29, li_30, li_31, li_32, li_33, li_34, li_35, li_36, li_37, li_38, li_39, li_40, li_42, li_43, li_48, li_50, li_99, li_100, li_200, li_960, li_999, li_1600, li_9999, li_20000]
    have e2 : σ 40 (Int32.toNatClampNeg 2) = μ 0 19 := A14.2.2.1
    show itp (σ 40 (Int32.toNatClampNeg 2)) _ = _
    rw [itp, stq e1, e2]
    exact sk.trans x1
  rw [stq cb]
  exact ⟨σ, μ, x, rfl, x2, hR⟩
set_option maxRecDepth 100000 in
set_option maxHeartbeats 8000000 in
theorem s_mark {σ μ : St} (hR : Rg σ μ) (p0 p1 p2 : Int32) : Sm (fX9_mark σ p0 p1 p2) (fX10_mark μ p0 p1 p2) := by
  obtain ⟨h, r, k, f, ⟨h1, h2, h3⟩, ⟨r1, r2, r3⟩, ⟨k1, k2, k3⟩, ⟨f1, f2, f3⟩, A1, A2, A3, A4, A5, A6, A7, A8, A9, A10, A11, A12, A13, A14, A15, A16⟩ := id hR
  rcases cs4 p0 0 1 (by decide) (by decide) with c | ⟨c, c'⟩ | ⟨s, hs0, hs, rfl⟩
  · simp (disch := omega) only [fX9_mark, fX9_isSheet, fX9_within, fX10_mark, fX10_isSheet, fX10_isIn, c, eq_self, obn_some, stp, itp, up_at, upd_at, cu_at, up_ne, upd_ne, cu_ne, nI_clamp, nI_lt0, nI_ltP, nI_leP, nI_eqP, nI_add, pk_mul, pk_sub, sub1_lt, pred_lt, if_pos, if_neg, if_true, if_false, false_or, or_false, true_or, or_true, not_true, not_false_iff, li_0, li_1, li_2, li_3, li_4, li_5, li_6, li_7, li_8, li_9, li_10, li_11, li_12, li_13, li_14, li_15, li_16, li_17, li_18, li_19, li_20, li_21, li_22, li_23, li_24, li_25, li_26, li_27, li_28, li_29, li_30, li_31, li_32, li_33, li_34, li_35, li_36, li_37, li_38, li_39, li_40, li_42, li_43, li_48, li_50, li_99, li_100, li_200, li_960, li_999, li_1600, li_9999, li_20000]
    exact Sm.mk rfl hR
  · simp (disch := omega) only [fX9_mark, fX9_isSheet, fX9_within, fX10_mark, fX10_isSheet, fX10_isIn, c, c', eq_self, obn_some, stp, itp, up_at, upd_at, cu_at, up_ne, upd_ne, cu_ne, nI_clamp, nI_lt0, nI_ltP, nI_leP, nI_eqP, nI_add, pk_mul, pk_sub, sub1_lt, pred_lt, if_pos, if_neg, if_true, if_false, false_or, or_false, true_or, or_true, not_true, not_false_iff, li_0, li_1, li_2, li_3, li_4, li_5, li_6, li_7, li_8, li_9, li_10, li_11, li_12, li_13, li_14, li_15, li_16, li_17, li_18, li_19, li_20, li_21, li_22, li_23, li_24, li_25, li_26, li_27, li_28, li_29, li_30, li_31, li_32, li_33, li_34, li_35, li_36, li_37, li_38, li_39, li_40, li_42, li_43, li_48, li_50, li_99, li_100, li_200, li_960, li_999, li_1600, li_9999, li_20000]
    exact Sm.mk rfl hR
  have fz : ∀ x : Int32, fits .short (.int x.toInt16.toInt32) = true := pk_fs
  obtain rfl | rfl : s = 0 ∨ s = 1 := by omega
  · rcases A15.1 with ⟨y1, y2⟩ | ⟨n, hn, y1, y2, y3⟩
    · simp (disch := omega) only [fX9_mark, fX9_isSheet, fX9_within, fX10_mark, fX10_isSheet, fX10_isIn, e_miss8 y1, y2, le0_neg1, eq_self, obn_some, stp, itp, up_at, upd_at, cu_at, up_ne, upd_ne, cu_ne, nI_clamp, nI_lt0, nI_ltP, nI_leP, nI_eqP, nI_add, pk_mul, pk_sub, sub1_lt, pred_lt, if_pos, if_neg, if_true, if_false, false_or, or_false, true_or, or_true, not_true, not_false_iff, li_0, li_1, li_2, li_3, li_4, li_5, li_6, li_7, li_8, li_9, li_10, li_11, li_12, li_13, li_14, li_15, li_16, li_17, li_18, li_19, li_20, li_21, li_22, li_23, li_24, li_25, li_26, li_27, li_28, li_29, li_30, li_31, li_32, li_33, li_34, li_35, li_36, li_37, li_38, li_39, li_40, li_42, li_43, li_48, li_50, li_99, li_100, li_200, li_960, li_999, li_1600, li_9999, li_20000]
      exact Sm.mk rfl hR
    rcases cs3 p1 n (by omega) with c | ⟨c, c'⟩ | ⟨j, hj, rfl⟩
    · simp (disch := omega) only [fX9_mark, fX9_isSheet, fX9_within, fX8_has_8, fX10_mark, fX10_isSheet, fX10_isIn, e_miss8n y1 hn, y1, y2, c, eq_self, obn_some, stp, itp, up_at, upd_at, cu_at, up_ne, upd_ne, cu_ne, nI_clamp, nI_lt0, nI_ltP, nI_leP, nI_eqP, nI_add, pk_mul, pk_sub, sub1_lt, pred_lt, if_pos, if_neg, if_true, if_false, false_or, or_false, true_or, or_true, not_true, not_false_iff, li_0, li_1, li_2, li_3, li_4, li_5, li_6, li_7, li_8, li_9, li_10, li_11, li_12, li_13, li_14, li_15, li_16, li_17, li_18, li_19, li_20, li_21, li_22, li_23, li_24, li_25, li_26, li_27, li_28, li_29, li_30, li_31, li_32, li_33, li_34, li_35, li_36, li_37, li_38, li_39, li_40, li_42, li_43, li_48, li_50, li_99, li_100, li_200, li_960, li_999, li_1600, li_9999, li_20000]
      exact Sm.mk rfl hR
    · simp (disch := omega) only [fX9_mark, fX9_isSheet, fX9_within, fX8_has_8, fX10_mark, fX10_isSheet, fX10_isIn, e_miss8n y1 hn, y1, y2, c, c', eq_self, obn_some, stp, itp, up_at, upd_at, cu_at, up_ne, upd_ne, cu_ne, nI_clamp, nI_lt0, nI_ltP, nI_leP, nI_eqP, nI_add, pk_mul, pk_sub, sub1_lt, pred_lt, if_pos, if_neg, if_true, if_false, false_or, or_false, true_or, or_true, not_true, not_false_iff, li_0, li_1, li_2, li_3, li_4, li_5, li_6, li_7, li_8, li_9, li_10, li_11, li_12, li_13, li_14, li_15, li_16, li_17, li_18, li_19, li_20, li_21, li_22, li_23, li_24, li_25, li_26, li_27, li_28, li_29, li_30, li_31, li_32, li_33, li_34, li_35, li_36, li_37, li_38, li_39, li_40, li_42, li_43, li_48, li_50, li_99, li_100, li_200, li_960, li_999, li_1600, li_9999, li_20000]
      exact Sm.mk rfl hR
    have e := y3 j hj
    simp (disch := omega) only [fX9_mark, fX9_isSheet, fX9_within, fX8_has_8, fX8_become_8, fX10_mark, fX10_isSheet, fX10_isIn, e_miss8n y1 hn, y1, y2, pk_vs, eq_self, obn_some, stp, itp, up_at, upd_at, cu_at, up_ne, upd_ne, cu_ne, nI_clamp, nI_lt0, nI_ltP, nI_leP, nI_eqP, nI_add, pk_mul, pk_sub, sub1_lt, pred_lt, if_pos, if_neg, if_true, if_false, false_or, or_false, true_or, or_true, not_true, not_false_iff, li_0, li_1, li_2, li_3, li_4, li_5, li_6, li_7, li_8, li_9, li_10, li_11, li_12, li_13, li_14, li_15, li_16, li_17, li_18, li_19, li_20, li_21, li_22, li_23, li_24, li_25, li_26, li_27, li_28, li_29, li_30, li_31, li_32, li_33, li_34, li_35, li_36, li_37, li_38, li_39, li_40, li_42, li_43, li_48, li_50, li_99, li_100, li_200, li_960, li_999, li_1600, li_9999, li_20000]
    rw [show 24 * 0 + j = j by omega]
    refine Sm.mk e ⟨h, r, k, f, ⟨h1, h2, h3⟩, ⟨r1, r2, r3⟩, ⟨k1, k2, k3⟩, ⟨f1, f2, f3⟩, A1, A2, A3, A4, A5, A6, A7, A8, A9, A10, A11, A12, A13, A14, ⟨Or.inr ⟨n, hn, y1, y2, fun i hi => ?_⟩, fun i hi => ?_⟩, ⟨?_, A16.2⟩⟩
    · show upd (σ 42) j _ i = upd (μ 15) j _ i
      by_cases ei : i = j
      · subst ei; rw [upd_at, upd_at]
      · rw [upd_ne _ _ ei, upd_ne _ _ ei]; exact y3 i hi
    · show fits .short (.int (upd (σ 42) j _ i)) = true
      by_cases ei : i = j
      · subst ei; rw [upd_at]; exact fz _
      · rw [upd_ne _ _ ei]; exact A15.2 i hi
    · rcases A16.1 with z | ⟨n', hn', z1, z2, z3⟩
      · exact Or.inl z
      · refine Or.inr ⟨n', hn', z1, z2, fun i hi => ?_⟩
        show σ 43 i = upd (μ 15) j _ (24 + i)
        rw [upd_ne _ _ (by omega)]; exact z3 i hi
  · rcases A16.1 with ⟨y1, y2⟩ | ⟨n, hn, y1, y2, y3⟩
    · simp (disch := omega) only [fX9_mark, fX9_isSheet, fX9_within, fX10_mark, fX10_isSheet, fX10_isIn, e_miss9 y1, y2, le0_neg1, eq_self, obn_some, stp, itp, up_at, upd_at, cu_at, up_ne, upd_ne, cu_ne, nI_clamp, nI_lt0, nI_ltP, nI_leP, nI_eqP, nI_add, pk_mul, pk_sub, sub1_lt, pred_lt, if_pos, if_neg, if_true, if_false, false_or, or_false, true_or, or_true, not_true, not_false_iff, li_0, li_1, li_2, li_3, li_4, li_5, li_6, li_7, li_8, li_9, li_10, li_11, li_12, li_13, li_14, li_15, li_16, li_17, li_18, li_19, li_20, li_21, li_22, li_23, li_24, li_25, li_26, li_27, li_28, li_29, li_30, li_31, li_32, li_33, li_34, li_35, li_36, li_37, li_38, li_39, li_40, li_42, li_43, li_48, li_50, li_99, li_100, li_200, li_960, li_999, li_1600, li_9999, li_20000]
      exact Sm.mk rfl hR
    rcases cs3 p1 n (by omega) with c | ⟨c, c'⟩ | ⟨j, hj, rfl⟩
    · simp (disch := omega) only [fX9_mark, fX9_isSheet, fX9_within, fX8_has_9, fX10_mark, fX10_isSheet, fX10_isIn, e_miss9n y1 hn, y1, y2, c, eq_self, obn_some, stp, itp, up_at, upd_at, cu_at, up_ne, upd_ne, cu_ne, nI_clamp, nI_lt0, nI_ltP, nI_leP, nI_eqP, nI_add, pk_mul, pk_sub, sub1_lt, pred_lt, if_pos, if_neg, if_true, if_false, false_or, or_false, true_or, or_true, not_true, not_false_iff, li_0, li_1, li_2, li_3, li_4, li_5, li_6, li_7, li_8, li_9, li_10, li_11, li_12, li_13, li_14, li_15, li_16, li_17, li_18, li_19, li_20, li_21, li_22, li_23, li_24, li_25, li_26, li_27, li_28, li_29, li_30, li_31, li_32, li_33, li_34, li_35, li_36, li_37, li_38, li_39, li_40, li_42, li_43, li_48, li_50, li_99, li_100, li_200, li_960, li_999, li_1600, li_9999, li_20000]
      exact Sm.mk rfl hR
    · simp (disch := omega) only [fX9_mark, fX9_isSheet, fX9_within, fX8_has_9, fX10_mark, fX10_isSheet, fX10_isIn, e_miss9n y1 hn, y1, y2, c, c', eq_self, obn_some, stp, itp, up_at, upd_at, cu_at, up_ne, upd_ne, cu_ne, nI_clamp, nI_lt0, nI_ltP, nI_leP, nI_eqP, nI_add, pk_mul, pk_sub, sub1_lt, pred_lt, if_pos, if_neg, if_true, if_false, false_or, or_false, true_or, or_true, not_true, not_false_iff, li_0, li_1, li_2, li_3, li_4, li_5, li_6, li_7, li_8, li_9, li_10, li_11, li_12, li_13, li_14, li_15, li_16, li_17, li_18, li_19, li_20, li_21, li_22, li_23, li_24, li_25, li_26, li_27, li_28, li_29, li_30, li_31, li_32, li_33, li_34, li_35, li_36, li_37, li_38, li_39, li_40, li_42, li_43, li_48, li_50, li_99, li_100, li_200, li_960, li_999, li_1600, li_9999, li_20000]
      exact Sm.mk rfl hR
    have e := y3 j hj
    simp (disch := omega) only [fX9_mark, fX9_isSheet, fX9_within, fX8_has_9, fX8_become_9, fX10_mark, fX10_isSheet, fX10_isIn, e_miss9n y1 hn, y1, y2, pk_vs, eq_self, obn_some, stp, itp, up_at, upd_at, cu_at, up_ne, upd_ne, cu_ne, nI_clamp, nI_lt0, nI_ltP, nI_leP, nI_eqP, nI_add, pk_mul, pk_sub, sub1_lt, pred_lt, if_pos, if_neg, if_true, if_false, false_or, or_false, true_or, or_true, not_true, not_false_iff, li_0, li_1, li_2, li_3, li_4, li_5, li_6, li_7, li_8, li_9, li_10, li_11, li_12, li_13, li_14, li_15, li_16, li_17, li_18, li_19, li_20, li_21, li_22, li_23, li_24, li_25, li_26, li_27, li_28, li_29, li_30, li_31, li_32, li_33, li_34, li_35, li_36, li_37, li_38, li_39, li_40, li_42, li_43, li_48, li_50, li_99, li_100, li_200, li_960, li_999, li_1600, li_9999, li_20000]
    rw [show 24 * 1 + j = 24 + j by omega]
    refine Sm.mk e ⟨h, r, k, f, ⟨h1, h2, h3⟩, ⟨r1, r2, r3⟩, ⟨k1, k2, k3⟩, ⟨f1, f2, f3⟩, A1, A2, A3, A4, A5, A6, A7, A8, A9, A10, A11, A12, A13, A14, ⟨?_, A15.2⟩, ⟨Or.inr ⟨n, hn, y1, y2, fun i hi => ?_⟩, fun i hi => ?_⟩⟩
    · rcases A15.1 with z | ⟨n', hn', z1, z2, z3⟩
      · exact Or.inl z
      · refine Or.inr ⟨n', hn', z1, z2, fun i hi => ?_⟩
        show σ 42 i = upd (μ 15) (24 + j) _ i
        rw [upd_ne _ _ (by omega)]; exact z3 i hi
    · show upd (σ 43) j _ i = upd (μ 15) (24 + j) _ (24 + i)
      by_cases ei : i = j
      · subst ei; rw [upd_at, upd_at]
      · rw [upd_ne _ _ ei, upd_ne _ _ (by omega)]; exact y3 i hi
    · show fits .short (.int (upd (σ 43) j _ i)) = true
      by_cases ei : i = j
      · subst ei; rw [upd_at]; exact fz _
      · rw [upd_ne _ _ ei]; exact A16.2 i hi
