def bv (v : Int32) (P : Prop) : Prop := (v = nI 1 ∧ P) ∨ (v = nI 0 ∧ ¬ P)
def RBd (N : Nat) (tb te fh th wy : Nat → Nat) : Prop := N ≤ 40 ∧ (∀ x, x < N → tb x < 2 ^ 20 ∧ te x < 2 ^ 20 ∧ fh x < 6 ∧ th x < 6) ∧ ∀ j, j < 36 → wy j ≤ 99
def RC (σ : St) (N : Nat) (tb te fh th wy : Nat → Nat) : Prop := σ 4 8 = nI N ∧ (∀ x, x < N → σ 27 x = nI (fh x) ∧ σ 28 x = nI (th x) ∧ σ 29 x = nI (tb x) ∧ σ 30 x = nI (te x)) ∧ ∀ j, j < 36 → σ 16 j = nI (wy j)
def cF (tb te fh th wy : Nat → Nat) (x y : Nat) : Prop := (tb x < tb y ∨ (tb x = tb y ∧ x < y)) ∧ te x + wy (6 * th x + fh y) ≤ tb y
set_option maxRecDepth 100000 in
set_option maxHeartbeats 4000000 in
theorem c_follow {σ : St} {N : Nat} {tb te fh th wy : Nat → Nat} (hb : RBd N tb te fh th wy) (hC : RC σ N tb te fh th wy) {x y : Nat} (hx : x < N) (hy : y < N) : ∃ v, fX6_canFollow σ (nI x) (nI y) = some (σ, v) ∧ bv v (cF tb te fh th wy x y) := by
  obtain ⟨n40, hbx, hbw⟩ := hb
  obtain ⟨b1, b2, b3, b4⟩ := hbx x hx
  obtain ⟨d1, d2, d3, d4⟩ := hbx y hy
  obtain ⟨x1, x2, x3, x4⟩ := hC.2.1 x hx
  obtain ⟨y1, y2, y3, y4⟩ := hC.2.1 y hy
  have ww := hbw (6 * th x + fh y) (by omega)
  have hw := hC.2.2 (6 * th x + fh y) (by omega)
  have e : th x * 6 + fh y = 6 * th x + fh y := by omega
  by_cases c1 : tb x < tb y
  · by_cases c2 : tb y < te x + wy (6 * th x + fh y)
    · refine ⟨nI 0, ?_, Or.inr ⟨rfl, fun g => ?_⟩⟩
      · simp (disch := omega) only [fX6_canFollow, fX3_between_10, x2, x3, x4, y1, y3, e, hw, eq_self, obn_some, stp, itp, up_at, upd_at, cu_at, up_ne, upd_ne, cu_ne, nI_clamp, nI_lt0, nI_ltP, nI_leP, nI_eqP, nI_add, pk_mul, pk_sub, sub1_lt, pred_lt, if_pos, if_neg, if_true, if_false, false_or, or_false, true_or, or_true, not_true, not_false_iff, li_0, li_1, li_2, li_3, li_4, li_5, li_6, li_7, li_8, li_9, li_10, li_11, li_12, li_13, li_14, li_15, li_16, li_17, li_18, li_19, li_20, li_21, li_22, li_23, li_24, li_25, li_26, li_27, li_28, li_29, li_30, li_31, li_32, li_33, li_34, li_35, li_36, li_37, li_38, li_39, li_40, li_42, li_43, li_48, li_50, li_99, li_100, li_200, li_960, li_999, li_1600, li_9999, li_20000]
      · have := g.2
        omega
    · refine ⟨nI 1, ?_, Or.inl ⟨rfl, Or.inl c1, by omega⟩⟩
      simp (disch := omega) only [fX6_canFollow, fX3_between_10, x2, x3, x4, y1, y3, e, hw, eq_self, obn_some, stp, itp, up_at, upd_at, cu_at, up_ne, upd_ne, cu_ne, nI_clamp, nI_lt0, nI_ltP, nI_leP, nI_eqP, nI_add, pk_mul, pk_sub, sub1_lt, pred_lt, if_pos, if_neg, if_true, if_false, false_or, or_false, true_or, or_true, not_true, not_false_iff, li_0, li_1, li_2, li_3, li_4, li_5, li_6, li_7, li_8, li_9, li_10, li_11, li_12, li_13, li_14, li_15, li_16, li_17, li_18, li_19, li_20, li_21, li_22, li_23, li_24, li_25, li_26, li_27, li_28, li_29, li_30, li_31, li_32, li_33, li_34, li_35, li_36, li_37, li_38, li_39, li_40, li_42, li_43, li_48, li_50, li_99, li_100, li_200, li_960, li_999, li_1600, li_9999, li_20000]
  · by_cases c3 : tb x = tb y
    · by_cases c4 : y ≤ x
      · refine ⟨nI 0, ?_, Or.inr ⟨rfl, fun g => ?_⟩⟩
        · simp (disch := omega) only [fX6_canFollow, fX3_between_10, x2, x3, x4, y1, y3, e, hw, eq_self, obn_some, stp, itp, up_at, upd_at, cu_at, up_ne, upd_ne, cu_ne, nI_clamp, nI_lt0, nI_ltP, nI_leP, nI_eqP, nI_add, pk_mul, pk_sub, sub1_lt, pred_lt, if_pos, if_neg, if_true, if_false, false_or, or_false, true_or, or_true, not_true, not_false_iff, li_0, li_1, li_2, li_3, li_4, li_5, li_6, li_7, li_8, li_9, li_10, li_11, li_12, li_13, li_14, li_15, li_16, li_17, li_18, li_19, li_20, li_21, li_22, li_23, li_24, li_25, li_26, li_27, li_28, li_29, li_30, li_31, li_32, li_33, li_34, li_35, li_36, li_37, li_38, li_39, li_40, li_42, li_43, li_48, li_50, li_99, li_100, li_200, li_960, li_999, li_1600, li_9999, li_20000]
        · have := g.1
          omega
      · by_cases c2 : tb y < te x + wy (6 * th x + fh y)
        · refine ⟨nI 0, ?_, Or.inr ⟨rfl, fun g => ?_⟩⟩
          · simp (disch := omega) only [fX6_canFollow, fX3_between_10, x2, x3, x4, y1, y3, e, hw, eq_self, obn_some, stp, itp, up_at, upd_at, cu_at, up_ne, upd_ne, cu_ne, nI_clamp, nI_lt0, nI_ltP, nI_leP, nI_eqP, nI_add, pk_mul, pk_sub, sub1_lt, pred_lt, if_pos, if_neg, if_true, if_false, false_or, or_false, true_or, or_true, not_true, not_false_iff, li_0, li_1, li_2, li_3, li_4, li_5, li_6, li_7, li_8, li_9, li_10, li_11, li_12, li_13, li_14, li_15, li_16, li_17, li_18, li_19, li_20, li_21, li_22, li_23, li_24, li_25, li_26, li_27, li_28, li_29, li_30, li_31, li_32, li_33, li_34, li_35, li_36, li_37, li_38, li_39, li_40, li_42, li_43, li_48, li_50, li_99, li_100, li_200, li_960, li_999, li_1600, li_9999, li_20000]
          · have := g.2
            omega
        · refine ⟨nI 1, ?_, Or.inl ⟨rfl, Or.inr ⟨c3, by omega⟩, by omega⟩⟩
          simp (disch := omega) only [fX6_canFollow, fX3_between_10, x2, x3, x4, y1, y3, e, hw, eq_self, obn_some, stp, itp, up_at, upd_at, cu_at, up_ne, upd_ne, cu_ne, nI_clamp, nI_lt0, nI_ltP, nI_leP, nI_eqP, nI_add, pk_mul, pk_sub, sub1_lt, pred_lt, if_pos, if_neg, if_true, if_false, false_or, or_false, true_or, or_true, not_true, not_false_iff, li_0, li_1, li_2, li_3, li_4, li_5, li_6, li_7, li_8, li_9, li_10, li_11, li_12, li_13, li_14, li_15, li_16, li_17, li_18, li_19, li_20, li_21, li_22, li_23, li_24, li_25, li_26, li_27, li_28, li_29, li_30, li_31, li_32, li_33, li_34, li_35, li_36, li_37, li_38, li_39, li_40, li_42, li_43, li_48, li_50, li_99, li_100, li_200, li_960, li_999, li_1600, li_9999, li_20000]
    · refine ⟨nI 0, ?_, Or.inr ⟨rfl, fun g => ?_⟩⟩
      · simp (disch := omega) only [fX6_canFollow, fX3_between_10, x2, x3, x4, y1, y3, e, hw, eq_self, obn_some, stp, itp, up_at, upd_at, cu_at, up_ne, upd_ne, cu_ne, nI_clamp, nI_lt0, nI_ltP, nI_leP, nI_eqP, nI_add, pk_mul, pk_sub, sub1_lt, pred_lt, if_pos, if_neg, if_true, if_false, false_or, or_false, true_or, or_true, not_true, not_false_iff, li_0, li_1, li_2, li_3, li_4, li_5, li_6, li_7, li_8, li_9, li_10, li_11, li_12, li_13, li_14, li_15, li_16, li_17, li_18, li_19, li_20, li_21, li_22, li_23, li_24, li_25, li_26, li_27, li_28, li_29, li_30, li_31, li_32, li_33, li_34, li_35, li_36, li_37, li_38, li_39, li_40, li_42, li_43, li_48, li_50, li_99, li_100, li_200, li_960, li_999, li_1600, li_9999, li_20000]
      · have := g.1
        omega
abbrev tB (r : Nat) (fr wy od : Nat → Nat) (x : Nat) : Nat := Rb r fr wy od (x / r) (x % r)
abbrev tE (r : Nat) (fr wy od : Nat → Nat) (x : Nat) : Nat := Rb r fr wy od (x / r) (x % r) + WTf wy od (x / r + 1)
abbrev fH (r : Nat) (od : Nat → Nat) (x : Nat) : Nat := od (x / r)
abbrev tH (r : Nat) (od : Nat → Nat) (x : Nat) : Nat := od (x / r + 1)
theorem r_bd {r k : Nat} {fr wy od la : Nat → Nat} (hB : NB r k fr wy od la) : RBd (nR k r) (tB r fr wy od) (tE r fr wy od) (fH r od) (tH r od) wy := by
  refine ⟨nR_le hB.2.1 hB.1, fun x hx => ?_, hB.2.2.2.1⟩
  obtain ⟨a, j, ha, hj, rfl⟩ := ride_of hx
  have h1 := Rb_le hB (a := a) (j := j) (by omega) hj
  have h2 := WT_le hB (a + 1) (by omega) ha
  have h3 := hB.2.1
  have o1 := hB.2.2.2.2.1 a (by omega)
  have o2 := hB.2.2.2.2.1 (a + 1) ha
  show Rb r fr wy od ((a * r + j) / r) ((a * r + j) % r) < _ ∧ Rb r fr wy od ((a * r + j) / r) ((a * r + j) % r) + WTf wy od ((a * r + j) / r + 1) < _ ∧ od ((a * r + j) / r) < 6 ∧ od ((a * r + j) / r + 1) < 6
  rw [rd_div hj, rd_mod hj]
  exact ⟨by omega, by omega, o1, o2⟩
theorem m_rbx {μ : St} {r k : Nat} {fr wy od la : Nat → Nat} (hB : NB r k fr wy od la) (hM : NM μ r k fr wy od la) {x : Nat} (hx : x < nR k r) : fX10_rideBegins μ (nI x) = some (μ, nI (tB r fr wy od x)) := by
  obtain ⟨a, j, ha, hj, rfl⟩ := ride_of hx
  show _ = some (μ, nI (Rb r fr wy od ((a * r + j) / r) ((a * r + j) % r)))
  rw [rd_div hj, rd_mod hj]
  exact m_rb hB hM ha hj
theorem m_rex {μ : St} {r k : Nat} {fr wy od la : Nat → Nat} (hB : NB r k fr wy od la) (hM : NM μ r k fr wy od la) {x : Nat} (hx : x < nR k r) : fX10_rideEnds μ (nI x) = some (μ, nI (tE r fr wy od x)) := by
  obtain ⟨a, j, ha, hj, rfl⟩ := ride_of hx
  show _ = some (μ, nI (Rb r fr wy od ((a * r + j) / r) ((a * r + j) % r) + WTf wy od ((a * r + j) / r + 1)))
  rw [rd_div hj, rd_mod hj]
  exact m_re hB hM ha hj
theorem m_tpx {μ : St} {r k : Nat} {fr wy od la : Nat → Nat} (hB : NB r k fr wy od la) (hM : NM μ r k fr wy od la) {x : Nat} (hx : x < nR k r) : fX10_toPlace μ (nI x) = some (μ, nI (x / r + 1)) ∧ x / r + 1 < 6 ∧ μ 9 (x / r + 1) = nI (tH r od x) ∧ μ 9 (x / r) = nI (fH r od x) := by
  obtain ⟨a, j, ha, hj, rfl⟩ := ride_of hx
  have h3 := hB.2.1
  show fX10_toPlace μ (nI (a * r + j)) = some (μ, nI ((a * r + j) / r + 1)) ∧ (a * r + j) / r + 1 < 6 ∧ μ 9 ((a * r + j) / r + 1) = nI (od ((a * r + j) / r + 1)) ∧ μ 9 ((a * r + j) / r) = nI (od ((a * r + j) / r))
  rw [rd_div hj]
  exact ⟨m_toP hB hM ha hj, by omega, hM.2.2.2.2.1 (a + 1) ha, hM.2.2.2.2.1 a (by omega)⟩
def ffM (μ : St) (N : Nat) (P : Nat → Nat → Prop) (x y : Nat) : Prop := ∀ a b, b < N → (a < x ∨ (a = x ∧ b < y)) → bv (μ 19 (40 * a + b)) (P a b)
theorem nb0 : vp_nar .boolean 0 = nI 0 := by decide +kernel
theorem nb1 : vp_nar .boolean 1 = nI 1 := by decide +kernel
theorem ffM.put {μ : St} {N x y : Nat} {P : Nat → Nat → Prop} {v : Int32} (h : ffM μ N P x y) (n40 : N ≤ 40) (hy : y < N) (hv : bv v (P x y)) : ffM (up μ 19 (40 * x + y) v) N P x (y + 1) := by
  intro a b hb g
  rw [up_at]
  by_cases e : 40 * a + b = 40 * x + y
  · have e1 : a = x := by omega
    have e2 : b = y := by omega
    subst e1 e2
    rw [upd_at]
    exact hv
  · rw [upd_ne _ _ e]
    exact h a b hb (by omega)
abbrev cFr (r : Nat) (fr wy od : Nat → Nat) : Nat → Nat → Prop := cF (tB r fr wy od) (tE r fr wy od) (fH r od) (tH r od) wy
set_option maxRecDepth 100000 in
set_option maxHeartbeats 8000000 in
theorem m_ff26 {r k : Nat} {fr wy od la : Nat → Nat} (hB : NB r k fr wy od la) {x : Nat} (hx : x < nR k r) : ∀ (d y n : Nat) (μ : St), NM μ r k fr wy od la → y + d = nR k r → d < n → ffM μ (nR k r) (cFr r fr wy od) x y → ∃ μ', (∀ K, fX10_findFollowers_L26 K n μ (nI (nR k r)) (nI x) (nI (tH r od x)) (nI y) = K μ' (nI (nR k r)) (nI x)) ∧ (∀ c, ¬ c = 19 → μ' c = μ c) ∧ ffM μ' (nR k r) (cFr r fr wy od) (x + 1) 0 := by
  have bd := r_bd hB
  obtain ⟨n40, hbx, hbw⟩ := bd
  obtain ⟨b1, b2, b3, b4⟩ := hbx x hx
  intro d
  induction d with
  | zero =>
    intro y n μ hM hy hn hf
    obtain ⟨n, rfl⟩ : ∃ m, n = m + 1 := ⟨n - 1, by omega⟩
    refine ⟨μ, fun K => ?_, fun _ _ => rfl, fun a b hb g => hf a b hb (by omega)⟩
    rw [fX10_findFollowers_L26, if_pos (nI_le (by omega) (by omega))]
  | succ d ih =>
    intro y n μ hM hy hn hf
    obtain ⟨n, rfl⟩ : ∃ m, n = m + 1 := ⟨n - 1, by omega⟩
    have hyN : y < nR k r := by omega
    obtain ⟨d1, d2, d3, d4⟩ := hbx y hyN
    obtain ⟨p1, p2, p3, p4⟩ := m_tpx hB hM hyN
    have ww := hbw (6 * tH r od x + fH r od y) (by omega)
    have hw := hM.2.2.2.1 (6 * tH r od x + fH r od y) (by omega)
    have nx : ∀ v, bv v (cFr r fr wy od x y) → ∃ μ', (∀ K, fX10_findFollowers_L26 K n (up μ 19 (40 * x + y) v) (nI (nR k r)) (nI x) (nI (tH r od x)) (nI y + 1) = K μ' (nI (nR k r)) (nI x)) ∧ (∀ c, ¬ c = 19 → μ' c = μ c) ∧ ffM μ' (nR k r) (cFr r fr wy od) (x + 1) 0 := by
      intro v hv
      obtain ⟨μ', z1, z2, z3⟩ := ih (y + 1) n (up μ 19 (40 * x + y) v) hM (by omega) (by omega) (hf.put n40 hyN hv)
      exact ⟨μ', fun K => by rw [show nI y + 1 = nI (y + 1) from nI_1 y]; exact z1 K, fun c hc => by rw [z2 c hc, up_ne _ _ _ hc], z3⟩
    have ix : (40 : Int32) * nI x + nI y = nI (40 * x + y) := by
      rw [show (40 : Int32) = nI 40 from rfl, pk_mul, nI_add]
    have iw : (6 : Int32) * nI (tH r od x) + nI (fH r od y) = nI (6 * tH r od x + fH r od y) := by
      rw [show (6 : Int32) = nI 6 from rfl, pk_mul, nI_add]
    have g1 : ¬ (nI (40 * x + y) < 0 ∨ 1600 ≤ (nI (40 * x + y)).toNatClampNeg) := nI_in (by omega) (by decide)
    have g2 : ¬ (nI (6 * tH r od x + fH r od y) < 0 ∨ 36 ≤ (nI (6 * tH r od x + fH r od y)).toNatClampNeg) := nI_in (by omega) (by decide)
    have g3 : ¬ (nI (y / r) < 0 ∨ 6 ≤ (nI (y / r)).toNatClampNeg) := nI_in (by omega) (by decide)
    have q1 : (nI (40 * x + y)).toNatClampNeg = 40 * x + y := nI_clamp (by omega)
    have q2 : (nI (6 * tH r od x + fH r od y)).toNatClampNeg = 6 * tH r od x + fH r od y := nI_clamp (by omega)
    have q3 : (nI (y / r)).toNatClampNeg = y / r := nI_clamp (by omega)
    have pm : nI (y / r + 1) - 1 = nI (y / r) := nI_pred _
    have hd : ¬ nI (nR k r) ≤ nI y := nI_ge hyN (by omega)
    have m1 := m_rbx hB hM hx
    have m2 := m_rbx hB hM hyN
    have m3 := m_rex hB hM hx
    by_cases c1 : tB r fr wy od x < tB r fr wy od y
    · by_cases c2 : tB r fr wy od y < tE r fr wy od x + wy (6 * tH r od x + fH r od y)
      · obtain ⟨μ', z1, z2, z3⟩ := nx (nI 0) (Or.inr ⟨rfl, fun g => absurd g.2 (by omega)⟩)
        refine ⟨μ', fun K => ?_, z2, z3⟩
        rw [fX10_findFollowers_L26, if_neg hd, stq m1, stq m2, if_pos (nI_lt c1 (by omega)), stq p1, pm, if_neg g3, itp, q3, p4, stq m3, iw, if_neg g2, stq m2, q2, hw, nI_add, if_pos (nI_lt c2 (by omega)), ix, if_neg g1, q1, nb0, stp]
        exact z1 K
      · obtain ⟨μ', z1, z2, z3⟩ := nx (nI 1) (Or.inl ⟨rfl, Or.inl c1, by omega⟩)
        refine ⟨μ', fun K => ?_, z2, z3⟩
        rw [fX10_findFollowers_L26, if_neg hd, stq m1, stq m2, if_pos (nI_lt c1 (by omega)), stq p1, pm, if_neg g3, itp, q3, p4, stq m3, iw, if_neg g2, stq m2, q2, hw, nI_add, if_neg (nI_nlt (by omega) (by omega)), ix, if_neg g1, q1, nb1, stp]
        exact z1 K
    · by_cases c3 : tB r fr wy od x = tB r fr wy od y
      · by_cases c4 : y ≤ x
        · obtain ⟨μ', z1, z2, z3⟩ := nx (nI 0) (Or.inr ⟨rfl, fun g => by have := g.1; omega⟩)
          refine ⟨μ', fun K => ?_, z2, z3⟩
          rw [fX10_findFollowers_L26, if_neg hd, stq m1, stq m2, if_neg (nI_nlt (by omega) (by omega)), stq m1, stq m2, if_pos (show nI (tB r fr wy od x) = nI (tB r fr wy od y) by rw [c3]), if_pos (nI_le c4 (by omega)), stq p1, pm, if_neg g3, itp, ix, if_neg g1, q1, nb0, stp]
          exact z1 K
        · by_cases c2 : tB r fr wy od y < tE r fr wy od x + wy (6 * tH r od x + fH r od y)
          · obtain ⟨μ', z1, z2, z3⟩ := nx (nI 0) (Or.inr ⟨rfl, fun g => absurd g.2 (by omega)⟩)
            refine ⟨μ', fun K => ?_, z2, z3⟩
            rw [fX10_findFollowers_L26, if_neg hd, stq m1, stq m2, if_neg (nI_nlt (by omega) (by omega)), stq m1, stq m2, if_pos (show nI (tB r fr wy od x) = nI (tB r fr wy od y) by rw [c3]), if_neg (nI_ge (by omega) (by omega)), stq p1, pm, if_neg g3, itp, q3, p4, stq m3, iw, if_neg g2, stq m2, q2, hw, nI_add, if_pos (nI_lt c2 (by omega)), ix, if_neg g1, q1, nb0, stp]
            exact z1 K
          · obtain ⟨μ', z1, z2, z3⟩ := nx (nI 1) (Or.inl ⟨rfl, Or.inr ⟨c3, by omega⟩, by omega⟩)
            refine ⟨μ', fun K => ?_, z2, z3⟩
            rw [fX10_findFollowers_L26, if_neg hd, stq m1, stq m2, if_neg (nI_nlt (by omega) (by omega)), stq m1, stq m2, if_pos (show nI (tB r fr wy od x) = nI (tB r fr wy od y) by rw [c3]), if_neg (nI_ge (by omega) (by omega)), stq p1, pm, if_neg g3, itp, q3, p4, stq m3, iw, if_neg g2, stq m2, q2, hw, nI_add, if_neg (nI_nlt (by omega) (by omega)), ix, if_neg g1, q1, nb1, stp]
            exact z1 K
      · obtain ⟨μ', z1, z2, z3⟩ := nx (nI 0) (Or.inr ⟨rfl, fun g => by have := g.1; omega⟩)
        refine ⟨μ', fun K => ?_, z2, z3⟩
        rw [fX10_findFollowers_L26, if_neg hd, stq m1, stq m2, if_neg (nI_nlt (by omega) (by omega)), stq m1, stq m2, if_neg (fun g => c3 ((nI_eq (by omega) (by omega)).mp g)), stq p1, pm, if_neg g3, itp, ix, if_neg g1, q1, nb0, stp]
        exact z1 K
theorem NM.w19 {μ μ' : St} {r k : Nat} {fr wy od la : Nat → Nat} (h : NM μ r k fr wy od la) (hm : ∀ c, ¬ c = 19 → μ' c = μ c) : NM μ' r k fr wy od la := by
  unfold NM
  rw [hm 0 (by decide), hm 5 (by decide), hm 7 (by decide), hm 9 (by decide), hm 10 (by decide)]
  exact h
theorem m_ff7 {r k : Nat} {fr wy od la : Nat → Nat} (hB : NB r k fr wy od la) : ∀ (d x n : Nat) (μ : St), NM μ r k fr wy od la → x + d = nR k r → d < n → ffM μ (nR k r) (cFr r fr wy od) x 0 → ∃ μ', fX10_findFollowers_L7 n μ (nI (nR k r)) (nI x) = some (μ', nI 0) ∧ (∀ c, ¬ c = 19 → μ' c = μ c) ∧ ffM μ' (nR k r) (cFr r fr wy od) (nR k r) 0 := by
  have n40 := nR_le hB.2.1 hB.1
  intro d
  induction d with
  | zero =>
    intro x n μ hM hx hn hf
    obtain ⟨n, rfl⟩ : ∃ m, n = m + 1 := ⟨n - 1, by omega⟩
    have e : x = nR k r := by omega
    rw [fX10_findFollowers_L7, if_pos (nI_le (by omega) (by omega))]
    exact ⟨μ, rfl, fun _ _ => rfl, e ▸ hf⟩
  | succ d ih =>
    intro x n μ hM hx hn hf
    obtain ⟨n, rfl⟩ : ∃ m, n = m + 1 := ⟨n - 1, by omega⟩
    obtain ⟨p1, p2, p3, p4⟩ := m_tpx hB hM (show x < nR k r by omega)
    obtain ⟨μ1, y1, y2, y3⟩ := m_ff26 hB (show x < nR k r by omega) (nR k r) 0 50 μ hM (by omega) (by omega) hf
    obtain ⟨μ', z1, z2, z3⟩ := ih (x + 1) n μ1 (hM.w19 y2) (by omega) (by omega) y3
    refine ⟨μ', ?_, fun c hc => by rw [z2 c hc, y2 c hc], z3⟩
    rw [fX10_findFollowers_L7, if_neg (nI_ge (by omega) (by omega)), stq p1, if_neg (nI_in p2 (by decide)), itp, nI_clamp (show x / r + 1 < 2 ^ 31 by omega), p3]
    refine (y1 _).trans ?_
    show fX10_findFollowers_L7 n μ1 (nI (nR k r)) (nI x + 1) = _
    rw [show nI x + 1 = nI (x + 1) from nI_1 x]
    exact z1
theorem m_ff {μ : St} {r k : Nat} {fr wy od la : Nat → Nat} (hB : NB r k fr wy od la) (hM : NM μ r k fr wy od la) : ∃ μ', fX10_findFollowers μ = some (μ', nI 0) ∧ (∀ c, ¬ c = 19 → μ' c = μ c) ∧ ffM μ' (nR k r) (cFr r fr wy od) (nR k r) 0 := by
  have n40 := nR_le hB.2.1 hB.1
  obtain ⟨μ', z1, z2, z3⟩ := m_ff7 hB (nR k r) 0 50 μ hM (by omega) (by omega) (fun a b hb g => absurd g (by omega))
  refine ⟨μ', ?_, z2, z3⟩
  unfold fX10_findFollowers
  rw [stq (m_nR hM.2.1 hB.2.1 hM.1)]
  exact z1
