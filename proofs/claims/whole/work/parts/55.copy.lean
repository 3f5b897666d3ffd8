theorem c_sh1 (σ : St) {j : Nat} (h2 : j ≤ 1) : fX9_isSheet σ (nI j) = some (σ, nI 1) := by simp (disch := omega) only [fX9_isSheet, fX9_within, eq_self, obn_some, stp, itp, up_at, upd_at, cu_at, up_ne, upd_ne, cu_ne, nI_clamp, nI_lt0, nI_ltP, nI_leP, nI_eqP, nI_add, pk_mul, pk_sub, sub1_lt, pred_lt, if_pos, if_neg, if_true, if_false, false_or, or_false, true_or, or_true, not_true, not_false_iff, li_0, li_1, li_2, li_3, li_4, li_5, li_6, li_7, li_8, li_9, li_10, li_11, li_12, li_13, li_14, li_15, li_16, li_17, li_18, li_19, li_20, li_21, li_22, li_23, li_24, li_25, li_26, li_27, li_28, li_29, li_30, li_31, li_32, li_33, li_34, li_35, li_36, li_37, li_38, li_39, li_40, li_42, li_43, li_48, li_50, li_99, li_100, li_200, li_960, li_999, li_1600, li_9999, li_20000]
theorem c_sh0 (σ : St) {x : Int32} (c : x < nI 0 ∨ (¬ x < nI 0 ∧ nI 1 < x)) : fX9_isSheet σ x = some (σ, nI 0) := by
  rcases c with c | ⟨c, c'⟩
  · simp (disch := omega) only [fX9_isSheet, fX9_within, c, eq_self, obn_some, stp, itp, up_at, upd_at, cu_at, up_ne, upd_ne, cu_ne, nI_clamp, nI_lt0, nI_ltP, nI_leP, nI_eqP, nI_add, pk_mul, pk_sub, sub1_lt, pred_lt, if_pos, if_neg, if_true, if_false, false_or, or_false, true_or, or_true, not_true, not_false_iff, li_0, li_1, li_2, li_3, li_4, li_5, li_6, li_7, li_8, li_9, li_10, li_11, li_12, li_13, li_14, li_15, li_16, li_17, li_18, li_19, li_20, li_21, li_22, li_23, li_24, li_25, li_26, li_27, li_28, li_29, li_30, li_31, li_32, li_33, li_34, li_35, li_36, li_37, li_38, li_39, li_40, li_42, li_43, li_48, li_50, li_99, li_100, li_200, li_960, li_999, li_1600, li_9999, li_20000]
  · simp (disch := omega) only [fX9_isSheet, fX9_within, c, c', eq_self, obn_some, stp, itp, up_at, upd_at, cu_at, up_ne, upd_ne, cu_ne, nI_clamp, nI_lt0, nI_ltP, nI_leP, nI_eqP, nI_add, pk_mul, pk_sub, sub1_lt, pred_lt, if_pos, if_neg, if_true, if_false, false_or, or_false, true_or, or_true, not_true, not_false_iff, li_0, li_1, li_2, li_3, li_4, li_5, li_6, li_7, li_8, li_9, li_10, li_11, li_12, li_13, li_14, li_15, li_16, li_17, li_18, li_19, li_20, li_21, li_22, li_23, li_24, li_25, li_26, li_27, li_28, li_29, li_30, li_31, li_32, li_33, li_34, li_35, li_36, li_37, li_38, li_39, li_40, li_42, li_43, li_48, li_50, li_99, li_100, li_200, li_960, li_999, li_1600, li_9999, li_20000]
theorem m_sh1 (σ : St) {j : Nat} (h2 : j ≤ 1) : fX10_isSheet σ (nI j) = some (σ, nI 1) := by simp (disch := omega) only [fX10_isSheet, fX10_isIn, eq_self, obn_some, stp, itp, up_at, upd_at, cu_at, up_ne, upd_ne, cu_ne, nI_clamp, nI_lt0, nI_ltP, nI_leP, nI_eqP, nI_add, pk_mul, pk_sub, sub1_lt, pred_lt, if_pos, if_neg, if_true, if_false, false_or, or_false, true_or, or_true, not_true, not_false_iff, li_0, li_1, li_2, li_3, li_4, li_5, li_6, li_7, li_8, li_9, li_10, li_11, li_12, li_13, li_14, li_15, li_16, li_17, li_18, li_19, li_20, li_21, li_22, li_23, li_24, li_25, li_26, li_27, li_28, li_29, li_30, li_31, li_32, li_33, li_34, li_35, li_36, li_37, li_38, li_39, li_40, li_42, li_43, li_48, li_50, li_99, li_100, li_200, li_960, li_999, li_1600, li_9999, li_20000]
theorem m_sh0 (σ : St) {x : Int32} (c : x < nI 0 ∨ (¬ x < nI 0 ∧ nI 1 < x)) : fX10_isSheet σ x = some (σ, nI 0) := by
  rcases c with c | ⟨c, c'⟩
  · simp (disch := omega) only [fX10_isSheet, fX10_isIn, c, eq_self, obn_some, stp, itp, up_at, upd_at, cu_at, up_ne, upd_ne, cu_ne, nI_clamp, nI_lt0, nI_ltP, nI_leP, nI_eqP, nI_add, pk_mul, pk_sub, sub1_lt, pred_lt, if_pos, if_neg, if_true, if_false, false_or, or_false, true_or, or_true, not_true, not_false_iff, li_0, li_1, li_2, li_3, li_4, li_5, li_6, li_7, li_8, li_9, li_10, li_11, li_12, li_13, li_14, li_15, li_16, li_17, li_18, li_19, li_20, li_21, li_22, li_23, li_24, li_25, li_26, li_27, li_28, li_29, li_30, li_31, li_32, li_33, li_34, li_35, li_36, li_37, li_38, li_39, li_40, li_42, li_43, li_48, li_50, li_99, li_100, li_200, li_960, li_999, li_1600, li_9999, li_20000]
  · simp (disch := omega) only [fX10_isSheet, fX10_isIn, c, c', eq_self, obn_some, stp, itp, up_at, upd_at, cu_at, up_ne, upd_ne, cu_ne, nI_clamp, nI_lt0, nI_ltP, nI_leP, nI_eqP, nI_add, pk_mul, pk_sub, sub1_lt, pred_lt, if_pos, if_neg, if_true, if_false, false_or, or_false, true_or, or_true, not_true, not_false_iff, li_0, li_1, li_2, li_3, li_4, li_5, li_6, li_7, li_8, li_9, li_10, li_11, li_12, li_13, li_14, li_15, li_16, li_17, li_18, li_19, li_20, li_21, li_22, li_23, li_24, li_25, li_26, li_27, li_28, li_29, li_30, li_31, li_32, li_33, li_34, li_35, li_36, li_37, li_38, li_39, li_40, li_42, li_43, li_48, li_50, li_99, li_100, li_200, li_960, li_999, li_1600, li_9999, li_20000]
def fitW (n : Nat) (p q : Int32) : Prop := ∃ a l, a + l ≤ n ∧ p = nI a ∧ q = nI l
theorem out_nI {x : Int32} {lo hi : Nat} (c : x < nI lo ∨ (¬ x < nI lo ∧ nI hi < x)) (hl : lo ≤ hi) (hh : hi < 2 ^ 31) : ∀ j, lo ≤ j → j ≤ hi → ¬ x = nI j := by
  intro j j1 j2 e
  subst e
  rcases c with c | ⟨_, c⟩
  · rw [nI_ltI (by omega) (by omega)] at c
    omega
  · rw [nI_ltI hh (by omega)] at c
    omega
theorem c_sp8 {σ : St} {n : Nat} (h : σ 8 1 = nI n) (hn : n ≤ 24) (p q : Int32) : (fitW n p q ∧ fX8_spans_8 σ p q = some (σ, nI 1)) ∨ (¬ fitW n p q ∧ fX8_spans_8 σ p q = some (σ, nI 0)) := by
  unfold fX8_spans_8
  rw [h]
  rcases cs4' p 0 n (by omega) (by omega) with c | ⟨a, _, ha, rfl⟩
  · right
    rw [st0 (show fX9_within σ p 0 (nI n) = some (σ, nI 0) from c_in0 σ (lo := 0) (hi := n) c)]
    refine ⟨?_, rfl⟩
    rintro ⟨a, l, h1, rfl, rfl⟩
    exact out_nI c (by omega) (by omega) a (by omega) (by omega) rfl
  rw [st1 (show fX9_within σ (nI a) 0 (nI n) = some (σ, nI 1) from c_in1 σ (lo := 0) (hi := n) (by omega) ha (by omega)), h, pk_sub ha]
  rcases cs4' q 0 (n - a) (by omega) (by omega) with c | ⟨l, _, hl, rfl⟩
  · right
    rw [st0 (show fX9_within σ q 0 (nI (n - a)) = some (σ, nI 0) from c_in0 σ (lo := 0) (hi := n - a) c)]
    refine ⟨?_, rfl⟩
    rintro ⟨a', l, h1, e, rfl⟩
    rw [nI_eq (by omega) (by omega)] at e
    exact out_nI c (by omega) (by omega) l (by omega) (by omega) rfl
  · left
    rw [st1 (show fX9_within σ (nI l) 0 (nI (n - a)) = some (σ, nI 1) from c_in1 σ (lo := 0) (hi := n - a) (by omega) hl (by omega))]
    exact ⟨⟨a, l, by omega, rfl, rfl⟩, rfl⟩
theorem c_sp9 {σ : St} {n : Nat} (h : σ 9 1 = nI n) (hn : n ≤ 24) (p q : Int32) : (fitW n p q ∧ fX8_spans_9 σ p q = some (σ, nI 1)) ∨ (¬ fitW n p q ∧ fX8_spans_9 σ p q = some (σ, nI 0)) := by
  unfold fX8_spans_9
  rw [h]
  rcases cs4' p 0 n (by omega) (by omega) with c | ⟨a, _, ha, rfl⟩
  · right
    rw [st0 (show fX9_within σ p 0 (nI n) = some (σ, nI 0) from c_in0 σ (lo := 0) (hi := n) c)]
    refine ⟨?_, rfl⟩
    rintro ⟨a, l, h1, rfl, rfl⟩
    exact out_nI c (by omega) (by omega) a (by omega) (by omega) rfl
  rw [st1 (show fX9_within σ (nI a) 0 (nI n) = some (σ, nI 1) from c_in1 σ (lo := 0) (hi := n) (by omega) ha (by omega)), h, pk_sub ha]
  rcases cs4' q 0 (n - a) (by omega) (by omega) with c | ⟨l, _, hl, rfl⟩
  · right
    rw [st0 (show fX9_within σ q 0 (nI (n - a)) = some (σ, nI 0) from c_in0 σ (lo := 0) (hi := n - a) c)]
    refine ⟨?_, rfl⟩
    rintro ⟨a', l, h1, e, rfl⟩
    rw [nI_eq (by omega) (by omega)] at e
    exact out_nI c (by omega) (by omega) l (by omega) (by omega) rfl
  · left
    rw [st1 (show fX9_within σ (nI l) 0 (nI (n - a)) = some (σ, nI 1) from c_in1 σ (lo := 0) (hi := n - a) (by omega) hl (by omega))]
    exact ⟨⟨a, l, by omega, rfl, rfl⟩, rfl⟩
theorem m_gt {a l n : Nat} (ha : a < 2 ^ 31) (hl : l < 2 ^ 31) (hn : n ≤ 24) : (0 < lg_cmp ((Int32.toInt64 (nI a)) + (Int32.toInt64 (nI l))) (Int32.toInt64 (nI n))) ↔ n < a + l := by
  rw [lg_cmp_gt, nI_l ha, nI_l hl, nI_l (by omega), lN_add, pk_lLT (by omega) (by omega)]
theorem m_le {a l n : Nat} (ha : a < 2 ^ 31) (hl : l < 2 ^ 31) (hn : n ≤ 24) : ((lg_cmp ((Int32.toInt64 (nI a)) + (Int32.toInt64 (nI l))) (Int32.toInt64 (nI n))) ≤ 0) ↔ a + l ≤ n := by
  rw [lg_cmp_le, nI_l ha, nI_l hl, nI_l (by omega), lN_add, pk_lLE (by omega) (by omega)]
theorem ix24 (s a i : Nat) : 24 * nI s + nI a + nI i = nI (24 * s + a + i) := by
  rw [show (24 : Int32) = nI 24 from rfl, pk_mul, nI_add, nI_add]
theorem m_c93 {s a l : Nat} (hs : s < 2) (hal : a + l ≤ 24) (p2 p3 : Int32) : ∀ (d i m : Nat) (μ : St), i + d = l → d < m → (∀ j, j < i → μ 26 j = μ 15 (24 * s + a + j)) → ∃ μ', (∀ K, fX10_copy_L93 K m μ (nI s) (nI a) p2 p3 (nI l) (nI i) = K μ' p2 p3 (nI l)) ∧ (∀ c, ¬ c = 26 → μ' c = μ c) ∧ ∀ j, j < l → μ' 26 j = μ 15 (24 * s + a + j) := by
  intro d
  induction d with
  | zero =>
    intro i m μ hi hm hs
    obtain ⟨m, rfl⟩ : ∃ q, m = q + 1 := ⟨m - 1, by omega⟩
    have e : i = l := by omega
    subst e
    refine ⟨μ, fun K => ?_, fun _ _ => rfl, hs⟩
    rw [fX10_copy_L93, if_pos (nI_le (Nat.le_refl _) (by omega))]
  | succ d ih =>
    intro i m μ hi hm hd
    obtain ⟨m, rfl⟩ : ∃ q, m = q + 1 := ⟨m - 1, by omega⟩
    obtain ⟨μ', y1, y2, y3⟩ := ih (i + 1) m (up μ 26 i (μ 15 (24 * s + a + i))) (by omega) (by omega) (by
      intro j hj
      rw [up_at, up_ne _ _ _ (by decide)]
      by_cases ej : j = i
      · subst ej; rw [upd_at]
      · rw [upd_ne _ _ ej]; exact hd j (by omega))
    refine ⟨μ', fun K => ?_, fun c hc => by rw [y2 c hc, up_ne _ _ _ hc], fun j hj => by rw [y3 j hj, up_ne _ _ _ (by decide)]⟩
    rw [fX10_copy_L93, if_neg (nI_ge (by omega) (by omega)), ix24, if_neg (nI_in (show 24 * s + a + i < 48 by omega) (by decide)), if_neg (nI_in (show i < 24 by omega) (by decide)), nI_clamp (show i < 2 ^ 31 by omega), nI_clamp (show 24 * s + a + i < 2 ^ 31 by omega), stp, show nI i + 1 = nI (i + 1) from nI_1 i]
    exact y1 K
theorem m_c130 {t b l : Nat} (ht : t < 2) (hbl : b + l ≤ 24) : ∀ (d i m : Nat) (μ : St), i + d = l → d < m → ∃ μ', fX10_copy_L130 m μ (nI t) (nI b) (nI l) (nI i) = some (μ', nI l) ∧ (∀ c, ¬ c = 15 → μ' c = μ c) ∧ ∀ j, μ' 15 j = if 24 * t + b + i ≤ j ∧ j < 24 * t + b + l then μ 26 (j - (24 * t + b)) else μ 15 j := by
  intro d
  induction d with
  | zero =>
    intro i m μ hi hm
    obtain ⟨m, rfl⟩ : ∃ q, m = q + 1 := ⟨m - 1, by omega⟩
    have e : i = l := by omega
    subst e
    rw [fX10_copy_L130, if_pos (nI_le (Nat.le_refl _) (by omega))]
    refine ⟨μ, rfl, fun _ _ => rfl, fun j => ?_⟩
    rw [if_neg (by omega)]
  | succ d ih =>
    intro i m μ hi hm
    obtain ⟨m, rfl⟩ : ∃ q, m = q + 1 := ⟨m - 1, by omega⟩
    obtain ⟨μ', y1, y2, y3⟩ := ih (i + 1) m (up μ 15 (24 * t + b + i) (μ 26 i)) (by omega) (by omega)
    refine ⟨μ', ?_, fun c hc => by rw [y2 c hc, up_ne _ _ _ hc], fun j => ?_⟩
    · rw [fX10_copy_L130, if_neg (nI_ge (by omega) (by omega)), ix24, if_neg (nI_in (show i < 24 by omega) (by decide)), if_neg (nI_in (show 24 * t + b + i < 48 by omega) (by decide)), nI_clamp (show i < 2 ^ 31 by omega), nI_clamp (show 24 * t + b + i < 2 ^ 31 by omega), stp, show nI i + 1 = nI (i + 1) from nI_1 i]
      exact y1
    · rw [y3 j, up_ne _ _ _ (by decide), up_at]
      by_cases c1 : 24 * t + b + (i + 1) ≤ j ∧ j < 24 * t + b + l
      · rw [if_pos c1, if_pos (by omega)]
      · rw [if_neg c1]
        by_cases c2 : j = 24 * t + b + i
        · rw [if_pos (by omega), c2, upd_at, show 24 * t + b + i - (24 * t + b) = i by omega]
        · rw [if_neg (by omega), upd_ne _ _ c2]
set_option maxRecDepth 100000 in
set_option maxHeartbeats 2000000 in
theorem m_cpy {μ : St} {s t n0 n2 : Nat} (hs : s ≤ 1) (ht : t ≤ 1) (y : μ 14 s = nI n0) (z : μ 14 t = nI n2) (hn0 : n0 ≤ 24) (hn2 : n2 ≤ 24) (p1 p3 p4 : Int32) : (¬ (fitW n0 p1 p4 ∧ fitW n2 p3 p4) ∧ fX10_copy μ (nI s) p1 (nI t) p3 p4 = some (μ, -1000000013)) ∨ ∃ a b l μ', a + l ≤ n0 ∧ b + l ≤ n2 ∧ p1 = nI a ∧ p3 = nI b ∧ p4 = nI l ∧ fX10_copy μ (nI s) p1 (nI t) p3 p4 = some (μ', nI l) ∧ (∀ c, ¬ c = 15 → ¬ c = 26 → μ' c = μ c) ∧ ∀ j, μ' 15 j = if 24 * t + b ≤ j ∧ j < 24 * t + b + l then μ 15 (24 * s + a + (j - (24 * t + b))) else μ 15 j := by
  have f0 : ∀ {n : Nat} {p q : Int32}, n ≤ 24 → fitW n p q → ¬ p < 0 ∧ ¬ q < 0 := by
    rintro n p q hn ⟨a, l, h1, rfl, rfl⟩
    exact ⟨nI_pos (by omega), nI_pos (by omega)⟩
  have f1 : ∀ {n a l : Nat}, n ≤ 24 → a < 2 ^ 31 → l < 2 ^ 31 → fitW n (nI a) (nI l) → a + l ≤ n := by
    rintro n a l hn ha hl ⟨a', l', h1, e1, e2⟩
    rw [nI_eq (by omega) (by omega)] at e1 e2
    omega
  unfold fX10_copy
  rw [st1 (m_sh1 μ hs), st1 (m_sh1 μ ht), if_neg (nI_in (show s < 2 by omega) (by decide)), nI_clamp (show s < 2 ^ 31 by omega), y, if_neg (nI_pos (show n0 < 2 ^ 31 by omega)), if_neg (nI_in (show t < 2 by omega) (by decide)), nI_clamp (show t < 2 ^ 31 by omega), z, if_pos (nI_pos' (show n2 < 2 ^ 31 by omega))]
  by_cases c1 : p1 < 0
  · rw [if_pos c1]
    exact Or.inl ⟨fun g => (f0 hn0 g.1).1 c1, rfl⟩
  rw [if_neg c1]
  by_cases c3 : p3 < 0
  · rw [if_pos c3]
    exact Or.inl ⟨fun g => (f0 hn2 g.2).1 c3, rfl⟩
  rw [if_neg c3]
  by_cases c4 : p4 < 0
  · rw [if_pos c4]
    exact Or.inl ⟨fun g => (f0 hn2 g.2).2 c4, rfl⟩
  rw [if_neg c4, if_neg (show ¬ (nI s < 0 ∨ 2 ≤ s) from fun g => g.elim (nI_pos (by omega)) (by omega))]
  obtain ⟨a, ha, rfl⟩ := nI_of c1
  obtain ⟨b, hb, rfl⟩ := nI_of c3
  obtain ⟨l, hl, rfl⟩ := nI_of c4
  by_cases d1 : n0 < a + l
  · rw [if_pos ((m_gt ha hl hn0).mpr d1)]
    exact Or.inl ⟨fun g => by have := f1 hn0 ha hl g.1; omega, rfl⟩
  rw [if_neg (fun g => d1 ((m_gt ha hl hn0).mp g)), if_neg (show ¬ (nI t < 0 ∨ 2 ≤ t) from fun g => g.elim (nI_pos (by omega)) (by omega))]
  by_cases d2 : b + l ≤ n2
  · rw [if_pos ((m_le hb hl hn2).mpr d2)]
    right
    obtain ⟨μ1, y1, y2, y3⟩ := m_c93 (s := s) (a := a) (l := l) (by omega) (by omega) (nI t) (nI b) l 0 50 μ (by omega) (by omega) (fun j hj => absurd hj (by omega))
    obtain ⟨μ2, z1, z2, z3⟩ := m_c130 (t := t) (b := b) (l := l) (by omega) (by omega) l 0 50 μ1 (by omega) (by omega)
    refine ⟨a, b, l, μ2, by omega, d2, rfl, rfl, rfl, (y1 _).trans z1, fun c e1 e2 => by rw [z2 c e1, y2 c e2], fun j => ?_⟩
    rw [z3 j, Nat.add_zero, y2 15 (by decide)]
    by_cases g : 24 * t + b ≤ j ∧ j < 24 * t + b + l
    · rw [if_pos g, if_pos g, y3 _ (by omega)]
    · rw [if_neg g, if_neg g]
  · rw [if_neg (fun g => d2 ((m_le hb hl hn2).mp g))]
    exact Or.inl ⟨fun g => by have := f1 hn2 hb hl g.2; omega, rfl⟩
set_option maxRecDepth 100000 in
set_option maxHeartbeats 2000000 in
theorem c_cp00 {σ : St} {n0 n2 : Nat} (y : σ 8 1 = nI n0) (z : σ 8 1 = nI n2) (hn0 : n0 ≤ 24) (hn2 : n2 ≤ 24) (hq : qF (σ 42)) (p1 p3 p4 : Int32) : (¬ (fitW n0 p1 p4 ∧ fitW n2 p3 p4) ∧ fX9_copy σ (nI 0) p1 (nI 0) p3 p4 = some (σ, -1000000013)) ∨ ((fitW n0 p1 p4 ∧ fitW n2 p3 p4) ∧ ∀ a b l, a + l ≤ n0 → b + l ≤ n2 → p1 = nI a → p3 = nI b → p4 = nI l → fX9_copy σ (nI 0) p1 (nI 0) p3 p4 = some (cu σ 42 (va_cpy (σ 42) (σ 42) a b l), nI l)) := by
  unfold fX9_copy
  rw [st1 (c_sh1 σ (show 0 ≤ 1 by decide)), st1 (c_sh1 σ (show 0 ≤ 1 by decide)), if_neg (nI_in (show 0 < 2 by decide) (by decide)), if_pos (show nI 0 = (0 : Int32) from rfl), if_neg (nI_in (show 0 < 2 by decide) (by decide)), if_pos (show nI 0 = (0 : Int32) from rfl), st0 (e_miss8n y hn0), st0 (e_miss8n z hn2)]
  rcases c_sp8 y hn0 p1 p4 with ⟨g1, e1⟩ | ⟨g1, e1⟩
  · rw [st1 e1]
    rcases c_sp8 z hn2 p3 p4 with ⟨g2, e2⟩ | ⟨g2, e2⟩
    · rw [st1 e2]
      right
      refine ⟨⟨g1, g2⟩, ?_⟩
      rintro a b l h1 h2 rfl rfl rfl
      rw [nI_clamp (show a < 2 ^ 31 by omega), nI_clamp (show b < 2 ^ 31 by omega), nI_clamp (show l < 2 ^ 31 by omega), if_neg (show ¬ (nI a < 0 ∨ nI b < 0 ∨ nI l < 0 ∨ 24 < a + l ∨ 24 < b + l) from fun g => by
        rcases g with g | g | g | g | g
        · exact nI_pos (by omega) g
        · exact nI_pos (by omega) g
        · exact nI_pos (by omega) g
        · omega
        · omega), if_pos (fun i hi => hq (a + i) (by omega)), stp]
    · rw [st0 e2]
      exact Or.inl ⟨fun g => g2 g.2, rfl⟩
  · rw [st0 e1]
    exact Or.inl ⟨fun g => g1 g.1, rfl⟩
theorem c_ms00 {σ : St} (y : σ 8 1 = -1 ∨ ((∃ n0, n0 ≤ 24 ∧ σ 8 1 = nI n0) ∧ σ 8 1 = -1)) (p1 p3 p4 : Int32) : fX9_copy σ (nI 0) p1 (nI 0) p3 p4 = some (σ, -1000000011) := by
  unfold fX9_copy
  rw [st1 (c_sh1 σ (show 0 ≤ 1 by decide)), st1 (c_sh1 σ (show 0 ≤ 1 by decide)), if_neg (nI_in (show 0 < 2 by decide) (by decide)), if_pos (show nI 0 = (0 : Int32) from rfl), if_neg (nI_in (show 0 < 2 by decide) (by decide)), if_pos (show nI 0 = (0 : Int32) from rfl)]
  rcases y with y | ⟨⟨n0, hn0, y⟩, z⟩
  · rw [st1 (e_miss8 y)]
  · rw [st0 (e_miss8n y hn0), st1 (e_miss8 z)]
set_option maxRecDepth 100000 in
set_option maxHeartbeats 2000000 in
theorem c_cp01 {σ : St} {n0 n2 : Nat} (y : σ 8 1 = nI n0) (z : σ 9 1 = nI n2) (hn0 : n0 ≤ 24) (hn2 : n2 ≤ 24) (hq : qF (σ 42)) (p1 p3 p4 : Int32) : (¬ (fitW n0 p1 p4 ∧ fitW n2 p3 p4) ∧ fX9_copy σ (nI 0) p1 (nI 1) p3 p4 = some (σ, -1000000013)) ∨ ((fitW n0 p1 p4 ∧ fitW n2 p3 p4) ∧ ∀ a b l, a + l ≤ n0 → b + l ≤ n2 → p1 = nI a → p3 = nI b → p4 = nI l → fX9_copy σ (nI 0) p1 (nI 1) p3 p4 = some (cu σ 43 (va_cpy (σ 42) (σ 43) a b l), nI l)) := by
  unfold fX9_copy
  rw [st1 (c_sh1 σ (show 0 ≤ 1 by decide)), st1 (c_sh1 σ (show 1 ≤ 1 by decide)), if_neg (nI_in (show 0 < 2 by decide) (by decide)), if_pos (show nI 0 = (0 : Int32) from rfl), if_neg (nI_in (show 1 < 2 by decide) (by decide)), if_neg (show ¬ nI 1 = (0 : Int32) from by decide), st0 (e_miss8n y hn0), st0 (e_miss9n z hn2)]
  rcases c_sp8 y hn0 p1 p4 with ⟨g1, e1⟩ | ⟨g1, e1⟩
  · rw [st1 e1]
    rcases c_sp9 z hn2 p3 p4 with ⟨g2, e2⟩ | ⟨g2, e2⟩
    · rw [st1 e2]
      right
      refine ⟨⟨g1, g2⟩, ?_⟩
      rintro a b l h1 h2 rfl rfl rfl
      rw [nI_clamp (show a < 2 ^ 31 by omega), nI_clamp (show b < 2 ^ 31 by omega), nI_clamp (show l < 2 ^ 31 by omega), if_neg (show ¬ (nI a < 0 ∨ nI b < 0 ∨ nI l < 0 ∨ 24 < a + l ∨ 24 < b + l) from fun g => by
        rcases g with g | g | g | g | g
        · exact nI_pos (by omega) g
        · exact nI_pos (by omega) g
        · exact nI_pos (by omega) g
        · omega
        · omega), if_pos (fun i hi => hq (a + i) (by omega)), stp]
    · rw [st0 e2]
      exact Or.inl ⟨fun g => g2 g.2, rfl⟩
  · rw [st0 e1]
    exact Or.inl ⟨fun g => g1 g.1, rfl⟩
theorem c_ms01 {σ : St} (y : σ 8 1 = -1 ∨ ((∃ n0, n0 ≤ 24 ∧ σ 8 1 = nI n0) ∧ σ 9 1 = -1)) (p1 p3 p4 : Int32) : fX9_copy σ (nI 0) p1 (nI 1) p3 p4 = some (σ, -1000000011) := by
  unfold fX9_copy
  rw [st1 (c_sh1 σ (show 0 ≤ 1 by decide)), st1 (c_sh1 σ (show 1 ≤ 1 by decide)), if_neg (nI_in (show 0 < 2 by decide) (by decide)), if_pos (show nI 0 = (0 : Int32) from rfl), if_neg (nI_in (show 1 < 2 by decide) (by decide)), if_neg (show ¬ nI 1 = (0 : Int32) from by decide)]
  rcases y with y | ⟨⟨n0, hn0, y⟩, z⟩
  · rw [st1 (e_miss8 y)]
  · rw [st0 (e_miss8n y hn0), st1 (e_miss9 z)]
set_option maxRecDepth 100000 in
set_option maxHeartbeats 2000000 in
theorem c_cp10 {σ : St} {n0 n2 : Nat} (y : σ 9 1 = nI n0) (z : σ 8 1 = nI n2) (hn0 : n0 ≤ 24) (hn2 : n2 ≤ 24) (hq : qF (σ 43)) (p1 p3 p4 : Int32) : (¬ (fitW n0 p1 p4 ∧ fitW n2 p3 p4) ∧ fX9_copy σ (nI 1) p1 (nI 0) p3 p4 = some (σ, -1000000013)) ∨ ((fitW n0 p1 p4 ∧ fitW n2 p3 p4) ∧ ∀ a b l, a + l ≤ n0 → b + l ≤ n2 → p1 = nI a → p3 = nI b → p4 = nI l → fX9_copy σ (nI 1) p1 (nI 0) p3 p4 = some (cu σ 42 (va_cpy (σ 43) (σ 42) a b l), nI l)) := by
  unfold fX9_copy
  rw [st1 (c_sh1 σ (show 1 ≤ 1 by decide)), st1 (c_sh1 σ (show 0 ≤ 1 by decide)), if_neg (nI_in (show 1 < 2 by decide) (by decide)), if_neg (show ¬ nI 1 = (0 : Int32) from by decide), if_neg (nI_in (show 0 < 2 by decide) (by decide)), if_pos (show nI 0 = (0 : Int32) from rfl), st0 (e_miss9n y hn0), st0 (e_miss8n z hn2)]
  rcases c_sp9 y hn0 p1 p4 with ⟨g1, e1⟩ | ⟨g1, e1⟩
  · rw [st1 e1]
    rcases c_sp8 z hn2 p3 p4 with ⟨g2, e2⟩ | ⟨g2, e2⟩
    · rw [st1 e2]
      right
      refine ⟨⟨g1, g2⟩, ?_⟩
      rintro a b l h1 h2 rfl rfl rfl
      rw [nI_clamp (show a < 2 ^ 31 by omega), nI_clamp (show b < 2 ^ 31 by omega), nI_clamp (show l < 2 ^ 31 by omega), if_neg (show ¬ (nI a < 0 ∨ nI b < 0 ∨ nI l < 0 ∨ 24 < a + l ∨ 24 < b + l) from fun g => by
        rcases g with g | g | g | g | g
        · exact nI_pos (by omega) g
        · exact nI_pos (by omega) g
        · exact nI_pos (by omega) g
        · omega
        · omega), if_pos (fun i hi => hq (a + i) (by omega)), stp]
    · rw [st0 e2]
      exact Or.inl ⟨fun g => g2 g.2, rfl⟩
  · rw [st0 e1]
    exact Or.inl ⟨fun g => g1 g.1, rfl⟩
theorem c_ms10 {σ : St} (y : σ 9 1 = -1 ∨ ((∃ n0, n0 ≤ 24 ∧ σ 9 1 = nI n0) ∧ σ 8 1 = -1)) (p1 p3 p4 : Int32) : fX9_copy σ (nI 1) p1 (nI 0) p3 p4 = some (σ, -1000000011) := by
  unfold fX9_copy
  rw [st1 (c_sh1 σ (show 1 ≤ 1 by decide)), st1 (c_sh1 σ (show 0 ≤ 1 by decide)), if_neg (nI_in (show 1 < 2 by decide) (by decide)), if_neg (show ¬ nI 1 = (0 : Int32) from by decide), if_neg (nI_in (show 0 < 2 by decide) (by decide)), if_pos (show nI 0 = (0 : Int32) from rfl)]
  rcases y with y | ⟨⟨n0, hn0, y⟩, z⟩
  · rw [st1 (e_miss9 y)]
  · rw [st0 (e_miss9n y hn0), st1 (e_miss8 z)]
set_option maxRecDepth 100000 in
set_option maxHeartbeats 2000000 in
theorem c_cp11 {σ : St} {n0 n2 : Nat} (y : σ 9 1 = nI n0) (z : σ 9 1 = nI n2) (hn0 : n0 ≤ 24) (hn2 : n2 ≤ 24) (hq : qF (σ 43)) (p1 p3 p4 : Int32) : (¬ (fitW n0 p1 p4 ∧ fitW n2 p3 p4) ∧ fX9_copy σ (nI 1) p1 (nI 1) p3 p4 = some (σ, -1000000013)) ∨ ((fitW n0 p1 p4 ∧ fitW n2 p3 p4) ∧ ∀ a b l, a + l ≤ n0 → b + l ≤ n2 → p1 = nI a → p3 = nI b → p4 = nI l → fX9_copy σ (nI 1) p1 (nI 1) p3 p4 = some (cu σ 43 (va_cpy (σ 43) (σ 43) a b l), nI l)) := by
  unfold fX9_copy
  rw [st1 (c_sh1 σ (show 1 ≤ 1 by decide)), st1 (c_sh1 σ (show 1 ≤ 1 by decide)), if_neg (nI_in (show 1 < 2 by decide) (by decide)), if_neg (show ¬ nI 1 = (0 : Int32) from by decide), if_neg (nI_in (show 1 < 2 by decide) (by decide)), if_neg (show ¬ nI 1 = (0 : Int32) from by decide), st0 (e_miss9n y hn0), st0 (e_miss9n z hn2)]
  rcases c_sp9 y hn0 p1 p4 with ⟨g1, e1⟩ | ⟨g1, e1⟩
  · rw [st1 e1]
    rcases c_sp9 z hn2 p3 p4 with ⟨g2, e2⟩ | ⟨g2, e2⟩
    · rw [st1 e2]
      right
      refine ⟨⟨g1, g2⟩, ?_⟩
      rintro a b l h1 h2 rfl rfl rfl
      rw [nI_clamp (show a < 2 ^ 31 by omega), nI_clamp (show b < 2 ^ 31 by omega), nI_clamp (show l < 2 ^ 31 by omega), if_neg (show ¬ (nI a < 0 ∨ nI b < 0 ∨ nI l < 0 ∨ 24 < a + l ∨ 24 < b + l) from fun g => by
        rcases g with g | g | g | g | g
        · exact nI_pos (by omega) g
        · exact nI_pos (by omega) g
        · exact nI_pos (by omega) g
        · omega
        · omega), if_pos (fun i hi => hq (a + i) (by omega)), stp]
    · rw [st0 e2]
      exact Or.inl ⟨fun g => g2 g.2, rfl⟩
  · rw [st0 e1]
    exact Or.inl ⟨fun g => g1 g.1, rfl⟩
theorem c_ms11 {σ : St} (y : σ 9 1 = -1 ∨ ((∃ n0, n0 ≤ 24 ∧ σ 9 1 = nI n0) ∧ σ 9 1 = -1)) (p1 p3 p4 : Int32) : fX9_copy σ (nI 1) p1 (nI 1) p3 p4 = some (σ, -1000000011) := by
  unfold fX9_copy
  rw [st1 (c_sh1 σ (show 1 ≤ 1 by decide)), st1 (c_sh1 σ (show 1 ≤ 1 by decide)), if_neg (nI_in (show 1 < 2 by decide) (by decide)), if_neg (show ¬ nI 1 = (0 : Int32) from by decide), if_neg (nI_in (show 1 < 2 by decide) (by decide)), if_neg (show ¬ nI 1 = (0 : Int32) from by decide)]
  rcases y with y | ⟨⟨n0, hn0, y⟩, z⟩
  · rw [st1 (e_miss9 y)]
  · rw [st0 (e_miss9n y hn0), st1 (e_miss9 z)]
theorem m_ms {μ : St} {s t : Nat} (hs : s ≤ 1) (ht : t ≤ 1) (y : μ 14 s = -1 ∨ ((∃ n0, n0 ≤ 24 ∧ μ 14 s = nI n0) ∧ μ 14 t = -1)) (p1 p3 p4 : Int32) : fX10_copy μ (nI s) p1 (nI t) p3 p4 = some (μ, -1000000011) := by
  unfold fX10_copy
  rw [st1 (m_sh1 μ hs), st1 (m_sh1 μ ht), if_neg (nI_in (show s < 2 by omega) (by decide)), nI_clamp (show s < 2 ^ 31 by omega)]
  rcases y with y | ⟨⟨n0, hn0, y⟩, z⟩
  · rw [y, if_pos (show (-1 : Int32) < 0 from by decide)]
  · rw [y, if_neg (nI_pos (show n0 < 2 ^ 31 by omega)), if_neg (nI_in (show t < 2 by omega) (by decide)), nI_clamp (show t < 2 ^ 31 by omega), z, if_neg (show ¬ (0 : Int32) ≤ -1 from by decide)]
theorem qF_cpy {u w : Nat → Int32} {a b l : Nat} (hu : qF u) (hw : qF w) (h1 : a + l ≤ 24) : qF (va_cpy u w a b l) := by
  intro j hj
  unfold va_cpy
  by_cases c : b ≤ j ∧ j < b + l
  · rw [if_pos c]; exact hu _ (by omega)
  · rw [if_neg c]; exact hw j hj
theorem RR_15 {σ μ : St} {h r k f : Nat} (hRR : RR σ μ h r k f) {σ' μ' : St} (hc : ∀ c, c < 42 → σ' c = σ c) (hm : ∀ c, ¬ c = 15 → ¬ c = 26 → μ' c = μ c) (q1 : qS (σ 8 1) (μ 14 0) (σ' 42) (μ' 15) ∧ qF (σ' 42)) (q2 : qS (σ 9 1) (μ 14 1) (σ' 43) (fun j => μ' 15 (24 + j)) ∧ qF (σ' 43)) : Rg σ' μ' := by
  obtain ⟨⟨h1, h2, h3⟩, ⟨r1, r2, r3⟩, ⟨k1, k2, k3⟩, ⟨f1, f2, f3⟩, A1, A2, A3, A4, A5, A6, A7, A8, A9, A10, A11, A12, A13, A14, A15, A16⟩ := hRR
  refine ⟨h, r, k, f, ?_⟩
  unfold RR
  rw [hc 1 (by decide), hc 2 (by decide), hc 3 (by decide), hc 5 (by decide), hc 8 (by decide), hc 9 (by decide), hc 12 (by decide), hc 13 (by decide), hc 14 (by decide), hc 15 (by decide), hc 16 (by decide), hc 17 (by decide), hc 18 (by decide), hc 19 (by decide), hc 20 (by decide), hc 33 (by decide), hc 34 (by decide), hc 35 (by decide), hc 36 (by decide), hc 40 (by decide)]
  rw [hm 0 (by decide) (by decide), hm 1 (by decide) (by decide), hm 2 (by decide) (by decide), hm 3 (by decide) (by decide), hm 4 (by decide) (by decide), hm 5 (by decide) (by decide), hm 6 (by decide) (by decide), hm 7 (by decide) (by decide), hm 8 (by decide) (by decide), hm 9 (by decide) (by decide), hm 10 (by decide) (by decide), hm 11 (by decide) (by decide), hm 12 (by decide) (by decide), hm 13 (by decide) (by decide), hm 14 (by decide) (by decide)]
  exact ⟨⟨h1, h2, h3⟩, ⟨r1, r2, r3⟩, ⟨k1, k2, k3⟩, ⟨f1, f2, f3⟩, A1, A2, A3, A4, A5, A6, A7, A8, A9, A10, A11, A12, A13, A14, q1, q2⟩
set_option maxRecDepth 100000 in
set_option maxHeartbeats 2000000 in
theorem s_cp00 {σ μ : St} (hR : Rg σ μ) (p1 p3 p4 : Int32) : Sm (fX9_copy σ (nI 0) p1 (nI 0) p3 p4) (fX10_copy μ (nI 0) p1 (nI 0) p3 p4) := by
  obtain ⟨h, r, k, f, hRR⟩ := id hR
  have A15 := hRR.2.2.2.2.2.2.2.2.2.2.2.2.2.2.2.2.2.2.1
  have A16 := hRR.2.2.2.2.2.2.2.2.2.2.2.2.2.2.2.2.2.2.2
  rcases id A15.1 with ⟨y1, y2⟩ | ⟨n0, hn0, y1, y2, y3⟩
  · rw [c_ms00 (Or.inl y1), m_ms (s := 0) (t := 0) (by decide) (by decide) (Or.inl y2)]
    exact Sm.mk rfl hR
  rcases id A15.1 with ⟨z1, z2⟩ | ⟨n2, hn2, z1, z2, z3⟩
  · rw [c_ms00 (Or.inr ⟨⟨n0, hn0, y1⟩, z1⟩), m_ms (s := 0) (t := 0) (by decide) (by decide) (Or.inr ⟨⟨n0, hn0, y2⟩, z2⟩)]
    exact Sm.mk rfl hR
  rcases m_cpy (s := 0) (t := 0) (by decide) (by decide) y2 z2 hn0 hn2 p1 p3 p4 with ⟨g, e⟩ | ⟨a, b, l, μ', g1, g2, rfl, rfl, rfl, e, m1, m2⟩
  · rw [e]
    rcases c_cp00 y1 z1 hn0 hn2 A15.2 p1 p3 p4 with ⟨g', e'⟩ | ⟨g', _⟩
    · rw [e']
      exact Sm.mk rfl hR
    · exact absurd g' g
  · rw [e]
    rcases c_cp00 y1 z1 hn0 hn2 A15.2 (nI a) (nI b) (nI l) with ⟨g', _⟩ | ⟨_, e'⟩
    · exact absurd (show fitW n0 (nI a) (nI l) ∧ fitW n2 (nI b) (nI l) from ⟨⟨_, _, g1, rfl, rfl⟩, ⟨_, _, g2, rfl, rfl⟩⟩) g'
    rw [e' a b l g1 g2 rfl rfl rfl]
    refine Sm.mk rfl (RR_15 hRR (fun c hc => cu_ne _ _ (by omega)) m1 ⟨Or.inr ⟨n2, hn2, z1, z2, fun j hj => by
      show cu σ 42 _ 42 j = μ' 15 (j)
      rw [cu_at, m2]
      unfold va_cpy
      by_cases c : b ≤ j ∧ j < b + l
      · rw [if_pos c, if_pos (by omega), y3 (a + (j - b)) (by omega)]
        show μ 15 _ = _
        congr 1
        omega
      · rw [if_neg c, if_neg (by omega)]
        exact z3 j hj⟩, by
      show qF (cu σ 42 _ 42)
      rw [cu_at]
      exact qF_cpy A15.2 A15.2 (by omega)⟩ ⟨by
      rcases A16.1 with w | ⟨n', hn', w1, w2, w3⟩
      · exact Or.inl w
      · refine Or.inr ⟨n', hn', w1, w2, fun j hj => ?_⟩
        show cu σ 42 _ 43 j = μ' 15 (24 + j)
        rw [cu_ne _ _ (by decide), m2, if_neg (by omega)]
        exact w3 j hj, A16.2⟩)
set_option maxRecDepth 100000 in
set_option maxHeartbeats 2000000 in
theorem s_cp01 {σ μ : St} (hR : Rg σ μ) (p1 p3 p4 : Int32) : Sm (fX9_copy σ (nI 0) p1 (nI 1) p3 p4) (fX10_copy μ (nI 0) p1 (nI 1) p3 p4) := by
  obtain ⟨h, r, k, f, hRR⟩ := id hR
  have A15 := hRR.2.2.2.2.2.2.2.2.2.2.2.2.2.2.2.2.2.2.1
  have A16 := hRR.2.2.2.2.2.2.2.2.2.2.2.2.2.2.2.2.2.2.2
  rcases id A15.1 with ⟨y1, y2⟩ | ⟨n0, hn0, y1, y2, y3⟩
  · rw [c_ms01 (Or.inl y1), m_ms (s := 0) (t := 1) (by decide) (by decide) (Or.inl y2)]
    exact Sm.mk rfl hR
  rcases id A16.1 with ⟨z1, z2⟩ | ⟨n2, hn2, z1, z2, z3⟩
  · rw [c_ms01 (Or.inr ⟨⟨n0, hn0, y1⟩, z1⟩), m_ms (s := 0) (t := 1) (by decide) (by decide) (Or.inr ⟨⟨n0, hn0, y2⟩, z2⟩)]
    exact Sm.mk rfl hR
  rcases m_cpy (s := 0) (t := 1) (by decide) (by decide) y2 z2 hn0 hn2 p1 p3 p4 with ⟨g, e⟩ | ⟨a, b, l, μ', g1, g2, rfl, rfl, rfl, e, m1, m2⟩
  · rw [e]
    rcases c_cp01 y1 z1 hn0 hn2 A15.2 p1 p3 p4 with ⟨g', e'⟩ | ⟨g', _⟩
    · rw [e']
      exact Sm.mk rfl hR
    · exact absurd g' g
  · rw [e]
    rcases c_cp01 y1 z1 hn0 hn2 A15.2 (nI a) (nI b) (nI l) with ⟨g', _⟩ | ⟨_, e'⟩
    · exact absurd (show fitW n0 (nI a) (nI l) ∧ fitW n2 (nI b) (nI l) from ⟨⟨_, _, g1, rfl, rfl⟩, ⟨_, _, g2, rfl, rfl⟩⟩) g'
    rw [e' a b l g1 g2 rfl rfl rfl]
    refine Sm.mk rfl (RR_15 hRR (fun c hc => cu_ne _ _ (by omega)) m1 ⟨by
      rcases A15.1 with w | ⟨n', hn', w1, w2, w3⟩
      · exact Or.inl w
      · refine Or.inr ⟨n', hn', w1, w2, fun j hj => ?_⟩
        show cu σ 43 _ 42 j = μ' 15 j
        rw [cu_ne _ _ (by decide), m2, if_neg (by omega)]
        exact w3 j hj, A15.2⟩ ⟨Or.inr ⟨n2, hn2, z1, z2, fun j hj => by
      show cu σ 43 _ 43 j = μ' 15 (24 + j)
      rw [cu_at, m2]
      unfold va_cpy
      by_cases c : b ≤ j ∧ j < b + l
      · rw [if_pos c, if_pos (by omega), y3 (a + (j - b)) (by omega)]
        show μ 15 _ = _
        congr 1
        omega
      · rw [if_neg c, if_neg (by omega)]
        exact z3 j hj⟩, by
      show qF (cu σ 43 _ 43)
      rw [cu_at]
      exact qF_cpy A15.2 A16.2 (by omega)⟩)
set_option maxRecDepth 100000 in
set_option maxHeartbeats 2000000 in
theorem s_cp10 {σ μ : St} (hR : Rg σ μ) (p1 p3 p4 : Int32) : Sm (fX9_copy σ (nI 1) p1 (nI 0) p3 p4) (fX10_copy μ (nI 1) p1 (nI 0) p3 p4) := by
  obtain ⟨h, r, k, f, hRR⟩ := id hR
  have A15 := hRR.2.2.2.2.2.2.2.2.2.2.2.2.2.2.2.2.2.2.1
  have A16 := hRR.2.2.2.2.2.2.2.2.2.2.2.2.2.2.2.2.2.2.2
  rcases id A16.1 with ⟨y1, y2⟩ | ⟨n0, hn0, y1, y2, y3⟩
  · rw [c_ms10 (Or.inl y1), m_ms (s := 1) (t := 0) (by decide) (by decide) (Or.inl y2)]
    exact Sm.mk rfl hR
  rcases id A15.1 with ⟨z1, z2⟩ | ⟨n2, hn2, z1, z2, z3⟩
  · rw [c_ms10 (Or.inr ⟨⟨n0, hn0, y1⟩, z1⟩), m_ms (s := 1) (t := 0) (by decide) (by decide) (Or.inr ⟨⟨n0, hn0, y2⟩, z2⟩)]
    exact Sm.mk rfl hR
  rcases m_cpy (s := 1) (t := 0) (by decide) (by decide) y2 z2 hn0 hn2 p1 p3 p4 with ⟨g, e⟩ | ⟨a, b, l, μ', g1, g2, rfl, rfl, rfl, e, m1, m2⟩
  · rw [e]
    rcases c_cp10 y1 z1 hn0 hn2 A16.2 p1 p3 p4 with ⟨g', e'⟩ | ⟨g', _⟩
    · rw [e']
      exact Sm.mk rfl hR
    · exact absurd g' g
  · rw [e]
    rcases c_cp10 y1 z1 hn0 hn2 A16.2 (nI a) (nI b) (nI l) with ⟨g', _⟩ | ⟨_, e'⟩
    · exact absurd (show fitW n0 (nI a) (nI l) ∧ fitW n2 (nI b) (nI l) from ⟨⟨_, _, g1, rfl, rfl⟩, ⟨_, _, g2, rfl, rfl⟩⟩) g'
    rw [e' a b l g1 g2 rfl rfl rfl]
    refine Sm.mk rfl (RR_15 hRR (fun c hc => cu_ne _ _ (by omega)) m1 ⟨Or.inr ⟨n2, hn2, z1, z2, fun j hj => by
      show cu σ 42 _ 42 j = μ' 15 (j)
      rw [cu_at, m2]
      unfold va_cpy
      by_cases c : b ≤ j ∧ j < b + l
      · rw [if_pos c, if_pos (by omega), y3 (a + (j - b)) (by omega)]
        show μ 15 (24 + _) = _
        congr 1
        omega
      · rw [if_neg c, if_neg (by omega)]
        exact z3 j hj⟩, by
      show qF (cu σ 42 _ 42)
      rw [cu_at]
      exact qF_cpy A16.2 A15.2 (by omega)⟩ ⟨by
      rcases A16.1 with w | ⟨n', hn', w1, w2, w3⟩
      · exact Or.inl w
      · refine Or.inr ⟨n', hn', w1, w2, fun j hj => ?_⟩
        show cu σ 42 _ 43 j = μ' 15 (24 + j)
        rw [cu_ne _ _ (by decide), m2, if_neg (by omega)]
        exact w3 j hj, A16.2⟩)
set_option maxRecDepth 100000 in
set_option maxHeartbeats 2000000 in
theorem s_cp11 {σ μ : St} (hR : Rg σ μ) (p1 p3 p4 : Int32) : Sm (fX9_copy σ (nI 1) p1 (nI 1) p3 p4) (fX10_copy μ (nI 1) p1 (nI 1) p3 p4) := by
  obtain ⟨h, r, k, f, hRR⟩ := id hR
  have A15 := hRR.2.2.2.2.2.2.2.2.2.2.2.2.2.2.2.2.2.2.1
  have A16 := hRR.2.2.2.2.2.2.2.2.2.2.2.2.2.2.2.2.2.2.2
  rcases id A16.1 with ⟨y1, y2⟩ | ⟨n0, hn0, y1, y2, y3⟩
  · rw [c_ms11 (Or.inl y1), m_ms (s := 1) (t := 1) (by decide) (by decide) (Or.inl y2)]
    exact Sm.mk rfl hR
  rcases id A16.1 with ⟨z1, z2⟩ | ⟨n2, hn2, z1, z2, z3⟩
  · rw [c_ms11 (Or.inr ⟨⟨n0, hn0, y1⟩, z1⟩), m_ms (s := 1) (t := 1) (by decide) (by decide) (Or.inr ⟨⟨n0, hn0, y2⟩, z2⟩)]
    exact Sm.mk rfl hR
  rcases m_cpy (s := 1) (t := 1) (by decide) (by decide) y2 z2 hn0 hn2 p1 p3 p4 with ⟨g, e⟩ | ⟨a, b, l, μ', g1, g2, rfl, rfl, rfl, e, m1, m2⟩
  · rw [e]
    rcases c_cp11 y1 z1 hn0 hn2 A16.2 p1 p3 p4 with ⟨g', e'⟩ | ⟨g', _⟩
    · rw [e']
      exact Sm.mk rfl hR
    · exact absurd g' g
  · rw [e]
    rcases c_cp11 y1 z1 hn0 hn2 A16.2 (nI a) (nI b) (nI l) with ⟨g', _⟩ | ⟨_, e'⟩
    · exact absurd (show fitW n0 (nI a) (nI l) ∧ fitW n2 (nI b) (nI l) from ⟨⟨_, _, g1, rfl, rfl⟩, ⟨_, _, g2, rfl, rfl⟩⟩) g'
    rw [e' a b l g1 g2 rfl rfl rfl]
    refine Sm.mk rfl (RR_15 hRR (fun c hc => cu_ne _ _ (by omega)) m1 ⟨by
      rcases A15.1 with w | ⟨n', hn', w1, w2, w3⟩
      · exact Or.inl w
      · refine Or.inr ⟨n', hn', w1, w2, fun j hj => ?_⟩
        show cu σ 43 _ 42 j = μ' 15 j
        rw [cu_ne _ _ (by decide), m2, if_neg (by omega)]
        exact w3 j hj, A15.2⟩ ⟨Or.inr ⟨n2, hn2, z1, z2, fun j hj => by
      show cu σ 43 _ 43 j = μ' 15 (24 + j)
      rw [cu_at, m2]
      unfold va_cpy
      by_cases c : b ≤ j ∧ j < b + l
      · rw [if_pos c, if_pos (by omega), y3 (a + (j - b)) (by omega)]
        show μ 15 (24 + _) = _
        congr 1
        omega
      · rw [if_neg c, if_neg (by omega)]
        exact z3 j hj⟩, by
      show qF (cu σ 43 _ 43)
      rw [cu_at]
      exact qF_cpy A16.2 A16.2 (by omega)⟩)
theorem s_copy {σ μ : St} (hR : Rg σ μ) (p0 p1 p2 p3 p4 : Int32) : Sm (fX9_copy σ p0 p1 p2 p3 p4) (fX10_copy μ p0 p1 p2 p3 p4) := by
  rcases cs4' p0 0 1 (by decide) (by decide) with c | ⟨s, _, hs, rfl⟩
  · unfold fX9_copy fX10_copy
    rw [st0 (c_sh0 σ c), st0 (m_sh0 μ c)]
    exact Sm.mk rfl hR
  rcases cs4' p2 0 1 (by decide) (by decide) with c | ⟨t, _, ht, rfl⟩
  · unfold fX9_copy fX10_copy
    rw [st1 (c_sh1 σ hs), st1 (m_sh1 μ hs), st0 (c_sh0 σ c), st0 (m_sh0 μ c)]
    exact Sm.mk rfl hR
  obtain rfl | rfl : s = 0 ∨ s = 1 := by omega
  · obtain rfl | rfl : t = 0 ∨ t = 1 := by omega
    · exact s_cp00 hR p1 p3 p4
    · exact s_cp01 hR p1 p3 p4
  · obtain rfl | rfl : t = 0 ∨ t = 1 := by omega
    · exact s_cp10 hR p1 p3 p4
    · exact s_cp11 hR p1 p3 p4
