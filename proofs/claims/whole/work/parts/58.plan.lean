def xb (T : Nat → Int32) (v q : Nat) : Nat := if T q = nI v then 1 else 0
theorem xb_le (T : Nat → Int32) (v q : Nat) : xb T v q ≤ 1 := by
  unfold xb
  split <;> omega
theorem xb_0 (T : Nat → Int32) (v q : Nat) : xb T v q = 0 ↔ ¬ T q = nI v := by
  unfold xb
  split
  · rename_i h
    exact ⟨fun g => absurd g (by omega), fun g => absurd h g⟩
  · rename_i h
    exact ⟨fun _ => h, fun _ => rfl⟩
theorem xb_1 (T : Nat → Int32) (v q : Nat) : xb T v q = 1 ↔ T q = nI v := by
  unfold xb
  split
  · rename_i h
    exact ⟨fun _ => h, fun _ => rfl⟩
  · rename_i h
    exact ⟨fun g => absurd g (by omega), fun g => absurd g h⟩
def wb (T : Nat → Int32) (v j : Nat) : Nat := xb T v (6 * 0 + j) + 2 * xb T v (6 * 1 + j) + 4 * xb T v (6 * 2 + j) + 8 * xb T v (6 * 3 + j)
theorem wb_lt (T : Nat → Int32) (v j : Nat) : wb T v j < 16 := by
  have h0 := xb_le T v (6 * 0 + j)
  have h1 := xb_le T v (6 * 1 + j)
  have h2 := xb_le T v (6 * 2 + j)
  have h3 := xb_le T v (6 * 3 + j)
  unfold wb
  omega
theorem u4 {u : Nat} (h : u < 4) : u = 0 ∨ u = 1 ∨ u = 2 ∨ u = 3 := by omega
theorem wb_div (T : Nat → Int32) (v j : Nat) {t : Nat} (ht : t ≤ 4) : (wb T v j / 2 ^ t = 0) ↔ ∀ u, u < 4 → t ≤ u → ¬ T (6 * u + j) = nI v := by
  have h0 := xb_le T v (6 * 0 + j)
  have h1 := xb_le T v (6 * 1 + j)
  have h2 := xb_le T v (6 * 2 + j)
  have h3 := xb_le T v (6 * 3 + j)
  unfold wb
  constructor
  · intro g u hu htu
    rw [← xb_0]
    obtain rfl | rfl | rfl | rfl := u4 hu
    · obtain rfl : t = 0 := by omega
      omega
    · obtain rfl | rfl : t = 0 ∨ t = 1 := by omega
      · omega
      · omega
    · obtain rfl | rfl | rfl : t = 0 ∨ t = 1 ∨ t = 2 := by omega
      · omega
      · omega
      · omega
    · obtain rfl | rfl | rfl | rfl : t = 0 ∨ t = 1 ∨ t = 2 ∨ t = 3 := by omega
      · omega
      · omega
      · omega
      · omega
  · intro g
    have e0 : t ≤ 0 → xb T v (6 * 0 + j) = 0 := fun h => (xb_0 T v _).mpr (g 0 (by omega) h)
    have e1 : t ≤ 1 → xb T v (6 * 1 + j) = 0 := fun h => (xb_0 T v _).mpr (g 1 (by omega) h)
    have e2 : t ≤ 2 → xb T v (6 * 2 + j) = 0 := fun h => (xb_0 T v _).mpr (g 2 (by omega) h)
    have e3 : t ≤ 3 → xb T v (6 * 3 + j) = 0 := fun h => (xb_0 T v _).mpr (g 3 (by omega) h)
    obtain rfl | rfl | rfl | rfl | rfl : t = 0 ∨ t = 1 ∨ t = 2 ∨ t = 3 ∨ t = 4 := by omega
    · have := e0 (by omega); have := e1 (by omega); have := e2 (by omega); have := e3 (by omega); omega
    · have := e1 (by omega); have := e2 (by omega); have := e3 (by omega); omega
    · have := e2 (by omega); have := e3 (by omega); omega
    · have := e3 (by omega); omega
    · omega
def S1 (T : Nat → Int32) (v j w : Nat) : Prop := wb T v j = 0 ∨ 2 * wb T v j = 2 ^ w
def S2 (T : Nat → Int32) (br : Nat → Nat) (h v j w : Nat) : Prop := ∀ a, a < h → ∀ u, u < 4 → T (6 * u + a) = nI v → u + br (6 * j + a) ≤ w
def ct6 (T : Nat → Int32) (v j : Nat) : Nat → Nat
  | 0 => 0
  | u + 1 => ct6 T v j u + xb T v (6 * u + j)
theorem ct6_le (T : Nat → Int32) (v j : Nat) : ∀ u, ct6 T v j u ≤ u := by
  intro u
  induction u with
  | zero => exact Nat.le_refl 0
  | succ u ih =>
    have := xb_le T v (6 * u + j)
    show ct6 T v j u + xb T v (6 * u + j) ≤ u + 1
    omega
theorem S1_ct {T : Nat → Int32} {v j w : Nat} (hw : w < 4) (hz : ∀ u, u < 4 → w ≤ u → xb T v (6 * u + j) = 0) : S1 T v j w ↔ (ct6 T v j w ≤ 1 ∧ (ct6 T v j w = 1 → xb T v (6 * (w - 1) + j) = 1)) := by
  have h0 := xb_le T v (6 * 0 + j)
  have h1 := xb_le T v (6 * 1 + j)
  have h2 := xb_le T v (6 * 2 + j)
  have h3 := xb_le T v (6 * 3 + j)
  have z0 := hz 0 (by omega)
  have z1 := hz 1 (by omega)
  have z2 := hz 2 (by omega)
  have z3 := hz 3 (by omega)
  unfold S1 wb
  obtain rfl | rfl | rfl | rfl := u4 hw
  · show _ ↔ (0 ≤ 1 ∧ (0 = 1 → xb T v (6 * (0 - 1) + j) = 1))
    omega
  · show _ ↔ (0 + xb T v (6 * 0 + j) ≤ 1 ∧ (0 + xb T v (6 * 0 + j) = 1 → xb T v (6 * 0 + j) = 1))
    omega
  · show _ ↔ (0 + xb T v (6 * 0 + j) + xb T v (6 * 1 + j) ≤ 1 ∧ (0 + xb T v (6 * 0 + j) + xb T v (6 * 1 + j) = 1 → xb T v (6 * 1 + j) = 1))
    omega
  · show _ ↔ (0 + xb T v (6 * 0 + j) + xb T v (6 * 1 + j) + xb T v (6 * 2 + j) ≤ 1 ∧ (0 + xb T v (6 * 0 + j) + xb T v (6 * 1 + j) + xb T v (6 * 2 + j) = 1 → xb T v (6 * 2 + j) = 1))
    omega
theorem S1_half {T : Nat → Int32} {v j w : Nat} (hw : w < 4) (h : S1 T v j w) : (¬ wb T v j = 0) ↔ (1 ≤ w ∧ T (6 * (w - 1) + j) = nI v) := by
  have h0 := xb_le T v (6 * 0 + j)
  have h1 := xb_le T v (6 * 1 + j)
  have h2 := xb_le T v (6 * 2 + j)
  have h3 := xb_le T v (6 * 3 + j)
  rw [← xb_1]
  unfold S1 at h
  unfold wb at h ⊢
  obtain rfl | rfl | rfl | rfl := u4 hw
  · omega
  · show _ ↔ (1 ≤ 1 ∧ xb T v (6 * 0 + j) = 1)
    omega
  · show _ ↔ (1 ≤ 2 ∧ xb T v (6 * 1 + j) = 1)
    omega
  · show _ ↔ (1 ≤ 3 ∧ xb T v (6 * 2 + j) = 1)
    omega
theorem sh1 : ∀ n, n < 16 → ∀ w, w < 4 → (((nI n <<< (1 &&& 31)) = (1 <<< (nI w &&& 31))) ↔ 2 * n = 2 ^ w) := by decide +kernel
theorem sh2 : ∀ w, w < 4 → ∀ b, b < 4 → ∀ n, n < 16 → (nI n >>> ((if 0 < ((nI w - nI b) + 1) then ((nI w - nI b) + 1) else 0) &&& 31)) = nI (n / 2 ^ (w + 1 - b)) := by decide +kernel
theorem sh3 : ∀ w, w < 4 → ∀ n, n < 16 → n / 2 ^ w = 0 → (nI n ||| (1 <<< (nI w &&& 31))) = nI (n + 2 ^ w) := by decide +kernel
def PS (σ μ : St) (h f W : Nat) (br : Nat → Nat) : Prop := (σ 1 5 = nI h ∧ μ 0 0 = nI h ∧ h ≤ 6) ∧ (σ 5 6 = nI f ∧ μ 0 13 = nI f ∧ f ≤ 5) ∧ (σ 6 3 = nI W ∧ μ 0 33 = nI W ∧ W ≤ 3) ∧ ((∀ j, j < 36 → σ 33 j = nI (br j) ∧ μ 6 j = nI (br j) ∧ br j < 4) ∧ ∀ j, j < 6 → br (7 * j) = 0) ∧ qR 30 0 1000 (σ 34) (μ 11) ∧ qN f (σ 35) (μ 12)
def PD (σ μ : St) (p : Nat) : Prop := (σ 6 4 = μ 0 34 ∧ σ 6 5 = μ 0 35 ∧ σ 6 7 = μ 0 32) ∧ (σ 6 7 = -1 ∨ qN 5 (σ 38) (μ 25)) ∧ qN 5 (σ 37) (μ 24) ∧ (∀ v, v < 5 → ∀ j, j < 6 → σ 39 (6 * v + j) = nI (wb (μ 24) v j)) ∧ ∀ q, p ≤ q → q < 24 → μ 24 q = -1
def fP (σ σ' : St) : Prop := (∀ c, ¬ c = 6 → ¬ c = 37 → ¬ c = 38 → ¬ c = 39 → σ' c = σ c) ∧ σ' 6 3 = σ 6 3
def gP (μ μ' : St) : Prop := (∀ c, ¬ c = 0 → ¬ c = 24 → ¬ c = 25 → μ' c = μ c) ∧ ∀ j, ¬ j = 32 → ¬ j = 34 → ¬ j = 35 → μ' 0 j = μ 0 j
theorem PS.fr {σ μ σ' μ' : St} {h f W : Nat} {br : Nat → Nat} (hs : PS σ μ h f W br) (hf : fP σ σ') (hg : gP μ μ') : PS σ' μ' h f W br := by
  unfold PS
  rw [hf.1 1 (by decide) (by decide) (by decide) (by decide), hf.1 5 (by decide) (by decide) (by decide) (by decide), hf.1 33 (by decide) (by decide) (by decide) (by decide), hf.1 34 (by decide) (by decide) (by decide) (by decide), hf.1 35 (by decide) (by decide) (by decide) (by decide), hf.2, hg.1 6 (by decide) (by decide) (by decide), hg.1 11 (by decide) (by decide) (by decide), hg.1 12 (by decide) (by decide) (by decide), hg.2 0 (by decide) (by decide) (by decide), hg.2 13 (by decide) (by decide) (by decide), hg.2 33 (by decide) (by decide) (by decide)]
  exact hs
theorem fP.rf (σ : St) : fP σ σ := ⟨fun _ _ _ _ _ => rfl, rfl⟩
theorem gP.rf (σ : St) : gP σ σ := ⟨fun _ _ _ _ => rfl, fun _ _ _ _ => rfl⟩
theorem fP.tr {a b c : St} (h1 : fP a b) (h2 : fP b c) : fP a c := ⟨fun k k1 k2 k3 k4 => (h2.1 k k1 k2 k3 k4).trans (h1.1 k k1 k2 k3 k4), h2.2.trans h1.2⟩
theorem gP.tr {a b c : St} (h1 : gP a b) (h2 : gP b c) : gP a c := ⟨fun k k1 k2 k3 => (h2.1 k k1 k2 k3).trans (h1.1 k k1 k2 k3), fun j k1 k2 k3 => (h2.2 j k1 k2 k3).trans (h1.2 j k1 k2 k3)⟩
theorem ne_m1 {v : Nat} (hv : v < 2 ^ 31) : ¬ (-1 : Int32) = nI v := fun g => nI_neg v hv (-1) (by decide) g.symm
theorem pd_emp {σ μ : St} {p v q : Nat} (hd : PD σ μ p) (hv : v < 2 ^ 31) (h1 : p ≤ q) (h2 : q < 24) : ¬ μ 24 q = nI v := by
  rw [hd.2.2.2.2 q h1 h2]
  exact ne_m1 hv
set_option maxRecDepth 100000 in
set_option maxHeartbeats 2000000 in
theorem c_mayL {σ μ : St} {h f W v j w : Nat} {br : Nat → Nat} (hs : PS σ μ h f W br) (hd : PD σ μ (6 * w + j)) (hv : v < 5) (hj : j < h) (hw : w < 4) : ∀ (d a n : Nat), a + d = h → d < n → ∃ x, fX0_mayBe_L30 n σ (nI v) (nI j) (nI w) (nI a) = some (σ, x) ∧ bv x (∀ a', a ≤ a' → a' < h → ∀ u, u < 4 → μ 24 (6 * u + a') = nI v → u + br (6 * j + a') ≤ w) := by
  obtain ⟨⟨h1, h2, h3⟩, -, -, ⟨hbr, hb0⟩, -, -⟩ := id hs
  intro d
  induction d with
  | zero =>
    intro a n ha hn
    obtain ⟨n, rfl⟩ : ∃ m, n = m + 1 := ⟨n - 1, by omega⟩
    rw [fX0_mayBe_L30, h1, if_pos (nI_le (by omega) (by omega))]
    exact ⟨nI 1, rfl, Or.inl ⟨rfl, fun a' g1 g2 => absurd g1 (by omega)⟩⟩
  | succ d ih =>
    intro a n ha hn
    obtain ⟨n, rfl⟩ : ∃ m, n = m + 1 := ⟨n - 1, by omega⟩
    obtain ⟨r1, -, r3⟩ := hbr (6 * j + a) (by omega)
    have bt : fX3_between_11 σ (nI j) (nI a) = some (σ, nI (br (6 * j + a))) := by
      have e : j * 6 + a = 6 * j + a := by omega
      simp (disch := omega) only [fX3_between_11, e, r1, eq_self, obn_some, stp, itp, up_at, upd_at, cu_at, up_ne, upd_ne, cu_ne, nI_clamp, nI_lt0, nI_ltP, nI_leP, nI_eqP, nI_add, pk_mul, pk_sub, sub1_lt, pred_lt, if_pos, if_neg, if_true, if_false, false_or, or_false, true_or, or_true, not_true, not_false_iff, li_0, li_1, li_2, li_3, li_4, li_5, li_6, li_7, li_8, li_9, li_10, li_11, li_12, li_13, li_14, li_15, li_16, li_17, li_18, li_19, li_20, li_21, li_22, li_23, li_24, li_25, li_26, li_27, li_28, li_29, li_30, li_31, li_32, li_33, li_34, li_35, li_36, li_37, li_38, li_39, li_40, li_42, li_43, li_48, li_50, li_99, li_100, li_200, li_960, li_999, li_1600, li_9999, li_20000]
    have ce : fX0_cell σ (nI v) (nI a) = some (σ, nI (6 * v + a)) := by
      have e : v * 6 + a = 6 * v + a := by omega
      simp (disch := omega) only [fX0_cell, e, eq_self, obn_some, stp, itp, up_at, upd_at, cu_at, up_ne, upd_ne, cu_ne, nI_clamp, nI_lt0, nI_ltP, nI_leP, nI_eqP, nI_add, pk_mul, pk_sub, sub1_lt, pred_lt, if_pos, if_neg, if_true, if_false, false_or, or_false, true_or, or_true, not_true, not_false_iff, li_0, li_1, li_2, li_3, li_4, li_5, li_6, li_7, li_8, li_9, li_10, li_11, li_12, li_13, li_14, li_15, li_16, li_17, li_18, li_19, li_20, li_21, li_22, li_23, li_24, li_25, li_26, li_27, li_28, li_29, li_30, li_31, li_32, li_33, li_34, li_35, li_36, li_37, li_38, li_39, li_40, li_42, li_43, li_48, li_50, li_99, li_100, li_200, li_960, li_999, li_1600, li_9999, li_20000]
    have wl := wb_lt (μ 24) v a
    have key : (∀ u, u < 4 → μ 24 (6 * u + a) = nI v → u + br (6 * j + a) ≤ w) → ∃ x, fX0_mayBe_L30 n σ (nI v) (nI j) (nI w) (nI a + 1) = some (σ, x) ∧ bv x (∀ a', a ≤ a' → a' < h → ∀ u, u < 4 → μ 24 (6 * u + a') = nI v → u + br (6 * j + a') ≤ w) := by
      intro g
      obtain ⟨x, z1, z2⟩ := ih (a + 1) n (by omega) (by omega)
      refine ⟨x, by rw [show nI a + 1 = nI (a + 1) from nI_1 a]; exact z1, ?_⟩
      rcases z2 with ⟨z2, z3⟩ | ⟨z2, z3⟩
      · refine Or.inl ⟨z2, fun a' g1 g2 u g3 g4 => ?_⟩
        by_cases e : a' = a
        · subst e; exact g u g3 g4
        · exact z3 a' (by omega) g2 u g3 g4
      · exact Or.inr ⟨z2, fun q => z3 (fun a' g1 g2 => q a' (by omega) g2)⟩
    rw [fX0_mayBe_L30, h1, if_neg (nI_ge (by omega) (by omega)), stq bt, stq ce, if_neg (nI_in (show 6 * v + a < 30 by omega) (by decide)), nI_clamp (show 6 * v + a < 2 ^ 31 by omega), hd.2.2.2.1 v hv a (by omega), itp, sh2 w hw _ r3 _ wl]
    by_cases c1 : br (6 * j + a) = 0
    · rw [if_pos (show nI (br (6 * j + a)) ≤ 0 from by rw [c1]; decide)]
      refine key (fun u hu g => ?_)
      rw [c1]
      rcases Nat.lt_or_ge w u with q | q
      · exact absurd g (pd_emp hd (by omega) (by omega) (by omega))
      · omega
    · rw [if_neg (nI_nle (by omega) (by omega))]
      have dv := wb_div (μ 24) v a (t := w + 1 - br (6 * j + a)) (by omega)
      by_cases c2 : wb (μ 24) v a / 2 ^ (w + 1 - br (6 * j + a)) = 0
      · rw [c2, if_pos (show nI 0 = 0 from rfl)]
        refine key (fun u hu g => ?_)
        rcases Nat.lt_or_ge u (w + 1 - br (6 * j + a)) with q | q
        · omega
        · exact absurd g (dv.mp c2 u hu q)
      · have l16 : wb (μ 24) v a / 2 ^ (w + 1 - br (6 * j + a)) < 2 ^ 31 := Nat.lt_of_le_of_lt (Nat.div_le_self _ _) (by omega)
        rw [if_neg (nI_ne0 (Nat.pos_of_ne_zero c2) l16)]
        refine ⟨nI 0, rfl, Or.inr ⟨rfl, fun g => c2 (dv.mpr (fun u hu hu2 e => ?_))⟩⟩
        have := g a (Nat.le_refl a) (by omega) u hu e
        omega
set_option maxRecDepth 100000 in
set_option maxHeartbeats 2000000 in
theorem c_may {σ μ : St} {h f W v j w : Nat} {br : Nat → Nat} (hs : PS σ μ h f W br) (hd : PD σ μ (6 * w + j)) (hv : v < 5) (hj : j < h) (hw : w < 4) : ∃ x, fX0_mayBe σ (nI v) (nI j) (nI w) = some (σ, x) ∧ bv x (S1 (μ 24) v j w ∧ S2 (μ 24) br h v j w) := by
  have h3 := hs.1.2.2
  have ce : fX0_cell σ (nI v) (nI j) = some (σ, nI (6 * v + j)) := by
    have e : v * 6 + j = 6 * v + j := by omega
    simp (disch := omega) only [fX0_cell, e, eq_self, obn_some, stp, itp, up_at, upd_at, cu_at, up_ne, upd_ne, cu_ne, nI_clamp, nI_lt0, nI_ltP, nI_leP, nI_eqP, nI_add, pk_mul, pk_sub, sub1_lt, pred_lt, if_pos, if_neg, if_true, if_false, false_or, or_false, true_or, or_true, not_true, not_false_iff, li_0, li_1, li_2, li_3, li_4, li_5, li_6, li_7, li_8, li_9, li_10, li_11, li_12, li_13, li_14, li_15, li_16, li_17, li_18, li_19, li_20, li_21, li_22, li_23, li_24, li_25, li_26, li_27, li_28, li_29, li_30, li_31, li_32, li_33, li_34, li_35, li_36, li_37, li_38, li_39, li_40, li_42, li_43, li_48, li_50, li_99, li_100, li_200, li_960, li_999, li_1600, li_9999, li_20000]
  have wl := wb_lt (μ 24) v j
  have s1 := sh1 (wb (μ 24) v j) wl w hw
  obtain ⟨x, z1, z2⟩ := c_mayL hs hd hv hj hw h 0 50 (by omega) (by omega)
  have z1' : fX0_mayBe_L30 50 σ (nI v) (nI j) (nI w) 0 = some (σ, x) := z1
  have key : S1 (μ 24) v j w → bv x (S1 (μ 24) v j w ∧ S2 (μ 24) br h v j w) := by
    intro g
    rcases z2 with ⟨z2, z3⟩ | ⟨z2, z3⟩
    · exact Or.inl ⟨z2, g, fun a ha => z3 a (by omega) ha⟩
    · exact Or.inr ⟨z2, fun q => z3 (fun a _ ha => q.2 a ha)⟩
  unfold fX0_mayBe
  rw [stq ce, if_neg (nI_in (show 6 * v + j < 30 by omega) (by decide)), nI_clamp (show 6 * v + j < 2 ^ 31 by omega), hd.2.2.2.1 v hv j (by omega), itp]
  by_cases c0 : wb (μ 24) v j = 0
  · rw [if_pos (show nI (wb (μ 24) v j) = 0 from by rw [c0]; rfl)]
    exact ⟨x, z1', key (Or.inl c0)⟩
  · rw [if_neg (nI_ne0 (by omega) (by omega))]
    by_cases c1 : 2 * wb (μ 24) v j = 2 ^ w
    · rw [if_pos (s1.mpr c1)]
      exact ⟨x, z1', key (Or.inr c1)⟩
    · rw [if_neg (fun g => c1 (s1.mp g))]
      exact ⟨nI 0, rfl, Or.inr ⟨rfl, fun g => g.1.elim c0 c1⟩⟩
theorem m_may6 {μ : St} {v j w : Nat} (hj : j < 6) (hw : w < 4) (K : St → Int32 → Int32 → Int32 → Int32 → Option (St × Int32)) : ∀ (d u n : Nat), u + d = w → d < n → fX10_mayBe_L6 K n μ (nI v) (nI j) (nI w) (nI (ct6 (μ 24) v j u)) (nI u) = K μ (nI v) (nI j) (nI w) (nI (ct6 (μ 24) v j w)) := by
  intro d
  induction d with
  | zero =>
    intro u n hu hn
    obtain ⟨n, rfl⟩ : ∃ m, n = m + 1 := ⟨n - 1, by omega⟩
    have e : u = w := by omega
    subst e
    rw [fX10_mayBe_L6, if_pos (nI_le (by omega) (by omega))]
  | succ d ih =>
    intro u n hu hn
    obtain ⟨n, rfl⟩ : ∃ m, n = m + 1 := ⟨n - 1, by omega⟩
    have ix : (6 : Int32) * nI u + nI j = nI (6 * u + j) := by
      rw [show (6 : Int32) = nI 6 from rfl, pk_mul, nI_add]
    have nx := ih (u + 1) n (by omega) (by omega)
    rw [show ct6 (μ 24) v j (u + 1) = ct6 (μ 24) v j u + xb (μ 24) v (6 * u + j) from rfl] at nx
    rw [fX10_mayBe_L6, if_neg (nI_ge (by omega) (by omega)), ix, if_neg (nI_in (show 6 * u + j < 24 by omega) (by decide)), nI_clamp (show 6 * u + j < 2 ^ 31 by omega), show nI u + 1 = nI (u + 1) from nI_1 u]
    by_cases c : μ 24 (6 * u + j) = nI v
    · rw [(xb_1 _ _ _).mpr c] at nx
      rw [if_pos c, itp, show nI (ct6 (μ 24) v j u) + 1 = nI (ct6 (μ 24) v j u + 1) from nI_1 _]
      exact nx
    · rw [(xb_0 _ _ _).mpr c] at nx
      rw [if_neg c, itp, show nI (ct6 (μ 24) v j u) + 0 = nI (ct6 (μ 24) v j u) from add0 _]
      exact nx
set_option maxRecDepth 100000 in
set_option maxHeartbeats 2000000 in
theorem m_may87 {σ μ : St} {h f W v j w u : Nat} {br : Nat → Nat} (hs : PS σ μ h f W br) (hd : PD σ μ (6 * w + j)) (hv : v < 5) (hj : j < h) (hw : w < 4) (hu : u ≤ w) : ∀ (d a n : Nat), a + d = h → d < n → ((∀ K, fX10_mayBe_L87 K n μ (nI v) (nI j) (nI w) (nI u) (nI a) = K μ (nI v) (nI j) (nI w) (nI u)) ∧ ∀ a', a ≤ a' → a' < h → μ 24 (6 * u + a') = nI v → u + br (6 * j + a') ≤ w) ∨ ((∀ K, fX10_mayBe_L87 K n μ (nI v) (nI j) (nI w) (nI u) (nI a) = some (μ, nI 0)) ∧ ¬ ∀ a', a ≤ a' → a' < h → μ 24 (6 * u + a') = nI v → u + br (6 * j + a') ≤ w) := by
  obtain ⟨⟨h1, h2, h3⟩, -, -, ⟨hbr, hb0⟩, -, -⟩ := id hs
  intro d
  induction d with
  | zero =>
    intro a n ha hn
    obtain ⟨n, rfl⟩ : ∃ m, n = m + 1 := ⟨n - 1, by omega⟩
    left
    refine ⟨fun K => ?_, fun a' g1 g2 => absurd g1 (by omega)⟩
    rw [fX10_mayBe_L87, h2, if_pos (nI_le (by omega) (by omega))]
  | succ d ih =>
    intro a n ha hn
    obtain ⟨n, rfl⟩ : ∃ m, n = m + 1 := ⟨n - 1, by omega⟩
    obtain ⟨-, r2, r3⟩ := hbr (6 * j + a) (by omega)
    have s1 : nI a + 1 = nI (a + 1) := nI_1 a
    have hd1 : ¬ nI h ≤ nI a := nI_ge (by omega) (by omega)
    have ix : (6 : Int32) * nI u + nI a = nI (6 * u + a) := by
      rw [show (6 : Int32) = nI 6 from rfl, pk_mul, nI_add]
    have iy : (6 : Int32) * nI j + nI a = nI (6 * j + a) := by
      rw [show (6 : Int32) = nI 6 from rfl, pk_mul, nI_add]
    have wu : nI w - nI u = nI (w - u) := pk_sub hu
    have cont : (μ 24 (6 * u + a) = nI v → u + br (6 * j + a) ≤ w) → (∀ K, fX10_mayBe_L87 K (n + 1) μ (nI v) (nI j) (nI w) (nI u) (nI a) = fX10_mayBe_L87 K n μ (nI v) (nI j) (nI w) (nI u) (nI (a + 1))) → ((∀ K, fX10_mayBe_L87 K (n + 1) μ (nI v) (nI j) (nI w) (nI u) (nI a) = K μ (nI v) (nI j) (nI w) (nI u)) ∧ ∀ a', a ≤ a' → a' < h → μ 24 (6 * u + a') = nI v → u + br (6 * j + a') ≤ w) ∨ ((∀ K, fX10_mayBe_L87 K (n + 1) μ (nI v) (nI j) (nI w) (nI u) (nI a) = some (μ, nI 0)) ∧ ¬ ∀ a', a ≤ a' → a' < h → μ 24 (6 * u + a') = nI v → u + br (6 * j + a') ≤ w) := by
      intro g e
      rcases ih (a + 1) n (by omega) (by omega) with ⟨z1, z2⟩ | ⟨z1, z2⟩
      · refine Or.inl ⟨fun K => (e K).trans (z1 K), fun a' g1 g2 g3 => ?_⟩
        by_cases ea : a' = a
        · subst ea; exact g g3
        · exact z2 a' (by omega) g2 g3
      · exact Or.inr ⟨fun K => (e K).trans (z1 K), fun q => z2 (fun a' g1 g2 => q a' (by omega) g2)⟩
    have g24 : ¬ (nI (6 * u + a) < 0 ∨ 24 ≤ (nI (6 * u + a)).toNatClampNeg) := nI_in (by omega) (by decide)
    have g36 : ¬ (nI (6 * j + a) < 0 ∨ 36 ≤ (nI (6 * j + a)).toNatClampNeg) := nI_in (by omega) (by decide)
    have q24 : (nI (6 * u + a)).toNatClampNeg = 6 * u + a := nI_clamp (by omega)
    have q36 : (nI (6 * j + a)).toNatClampNeg = 6 * j + a := nI_clamp (by omega)
    by_cases c1 : u < w
    · by_cases c2 : a = j
      · refine cont (fun g => ?_) (fun K => ?_)
        · have := hb0 j (by omega)
          rw [c2, show 6 * j + j = 7 * j by omega, this]
          omega
        · rw [fX10_mayBe_L87, h2, if_neg hd1, if_pos (nI_lt c1 (by omega)), if_pos (show nI a = nI j by rw [c2]), s1]
      · have na : ¬ nI a = nI j := fun g => c2 ((nI_eq (by omega) (by omega)).mp g)
        by_cases c3 : μ 24 (6 * u + a) = nI v
        · by_cases c4 : br (6 * j + a) ≤ w - u
          · refine cont (fun g => by omega) (fun K => ?_)
            rw [fX10_mayBe_L87, h2, if_neg hd1, if_pos (nI_lt c1 (by omega)), if_neg na, ix, if_neg g24, q24, if_pos c3, iy, if_neg g36, q36, r2, wu, if_pos (nI_le c4 (by omega)), s1]
          · refine Or.inr ⟨fun K => ?_, fun g => c4 ?_⟩
            · rw [fX10_mayBe_L87, h2, if_neg hd1, if_pos (nI_lt c1 (by omega)), if_neg na, ix, if_neg g24, q24, if_pos c3, iy, if_neg g36, q36, r2, wu, if_neg (nI_ge (by omega) (by omega))]
              rfl
            · have := g a (Nat.le_refl a) (by omega) c3
              omega
        · refine cont (fun g => absurd g c3) (fun K => ?_)
          rw [fX10_mayBe_L87, h2, if_neg hd1, if_pos (nI_lt c1 (by omega)), if_neg na, ix, if_neg g24, q24, if_neg c3, s1]
    · have eu : u = w := by omega
      have nl : ¬ nI u < nI w := nI_nlt (by omega) (by omega)
      by_cases c5 : j ≤ a
      · refine cont (fun g => absurd g (pd_emp hd (by omega) (by omega) (by omega))) (fun K => ?_)
        rw [fX10_mayBe_L87, h2, if_neg hd1, if_neg nl, if_pos (nI_le c5 (by omega)), s1]
        split <;> rfl
      · have na : ¬ nI a = nI j := fun g => c5 (by have := (nI_eq (by omega) (by omega)).mp g; omega)
        have nj : ¬ nI j ≤ nI a := nI_ge (by omega) (by omega)
        by_cases c3 : μ 24 (6 * u + a) = nI v
        · by_cases c4 : br (6 * j + a) ≤ w - u
          · refine cont (fun g => by omega) (fun K => ?_)
            rw [fX10_mayBe_L87, h2, if_neg hd1, if_neg nl, if_neg nj, if_neg na, ix, if_neg g24, q24, if_pos c3, iy, if_neg g36, q36, r2, wu, if_pos (nI_le c4 (by omega)), s1]
          · refine Or.inr ⟨fun K => ?_, fun g => c4 ?_⟩
            · rw [fX10_mayBe_L87, h2, if_neg hd1, if_neg nl, if_neg nj, if_neg na, ix, if_neg g24, q24, if_pos c3, iy, if_neg g36, q36, r2, wu, if_neg (nI_ge (by omega) (by omega))]
              rfl
            · have := g a (Nat.le_refl a) (by omega) c3
              omega
        · refine cont (fun g => absurd g c3) (fun K => ?_)
          rw [fX10_mayBe_L87, h2, if_neg hd1, if_neg nl, if_neg nj, if_neg na, ix, if_neg g24, q24, if_neg c3, s1]
theorem m_may78 {σ μ : St} {h f W v j w : Nat} {br : Nat → Nat} (hs : PS σ μ h f W br) (hd : PD σ μ (6 * w + j)) (hv : v < 5) (hj : j < h) (hw : w < 4) : ∀ (d u n : Nat), u + d = w + 1 → d < n → ∃ x, fX10_mayBe_L78 n μ (nI v) (nI j) (nI w) (nI u) = some (μ, x) ∧ bv x (∀ u', u ≤ u' → u' ≤ w → ∀ a, a < h → μ 24 (6 * u' + a) = nI v → u' + br (6 * j + a) ≤ w) := by
  have h3 := hs.1.2.2
  intro d
  induction d with
  | zero =>
    intro u n hu hn
    obtain ⟨n, rfl⟩ : ∃ m, n = m + 1 := ⟨n - 1, by omega⟩
    rw [fX10_mayBe_L78, if_pos (nI_lt (by omega) (by omega))]
    exact ⟨nI 1, rfl, Or.inl ⟨rfl, fun u' g1 g2 => absurd g1 (by omega)⟩⟩
  | succ d ih =>
    intro u n hu hn
    obtain ⟨n, rfl⟩ : ∃ m, n = m + 1 := ⟨n - 1, by omega⟩
    rw [fX10_mayBe_L78, if_neg (nI_nlt (by omega) (by omega))]
    rcases m_may87 hs hd hv hj hw (show u ≤ w by omega) h 0 50 (by omega) (by omega) with ⟨y1, y2⟩ | ⟨y1, y2⟩
    · obtain ⟨x, z1, z2⟩ := ih (u + 1) n (by omega) (by omega)
      refine ⟨x, (y1 _).trans ?_, ?_⟩
      · show fX10_mayBe_L78 n μ (nI v) (nI j) (nI w) (nI u + 1) = _
        rw [show nI u + 1 = nI (u + 1) from nI_1 u]
        exact z1
      · rcases z2 with ⟨z2, z3⟩ | ⟨z2, z3⟩
        · refine Or.inl ⟨z2, fun u' g1 g2 a ha g => ?_⟩
          by_cases e : u' = u
          · subst e; exact y2 a (by omega) ha g
          · exact z3 u' (by omega) g2 a ha g
        · exact Or.inr ⟨z2, fun q => z3 (fun u' g1 g2 => q u' (by omega) g2)⟩
    · exact ⟨nI 0, y1 _, Or.inr ⟨rfl, fun q => y2 (fun a _ ha => q u (Nat.le_refl u) (by omega) a ha)⟩⟩
set_option maxRecDepth 100000 in
set_option maxHeartbeats 2000000 in
theorem m_may {σ μ : St} {h f W v j w : Nat} {br : Nat → Nat} (hs : PS σ μ h f W br) (hd : PD σ μ (6 * w + j)) (hv : v < 5) (hj : j < h) (hw : w < 4) : ∃ x, fX10_mayBe μ (nI v) (nI j) (nI w) = some (μ, x) ∧ bv x (S1 (μ 24) v j w ∧ S2 (μ 24) br h v j w) := by
  have h3 := hs.1.2.2
  have cl := ct6_le (μ 24) v j w
  have ss := S1_ct (T := μ 24) (v := v) (j := j) hw (fun u hu hwu => (xb_0 _ _ _).mpr (pd_emp hd (by omega) (by omega) (by omega)))
  obtain ⟨x, z1, z2⟩ := m_may78 hs hd hv hj hw (w + 1) 0 50 (by omega) (by omega)
  have z1' : fX10_mayBe_L78 50 μ (nI v) (nI j) (nI w) 0 = some (μ, x) := z1
  have key : S1 (μ 24) v j w → bv x (S1 (μ 24) v j w ∧ S2 (μ 24) br h v j w) := by
    intro g
    rcases z2 with ⟨z2, z3⟩ | ⟨z2, z3⟩
    · refine Or.inl ⟨z2, g, fun a ha u hu e => ?_⟩
      rcases Nat.lt_or_ge w u with q | q
      · exact absurd e (pd_emp hd (by omega) (by omega) (by omega))
      · exact z3 u (by omega) q a ha e
    · exact Or.inr ⟨z2, fun q => z3 (fun u _ hu a ha => q.2 a ha u (by omega))⟩
  unfold fX10_mayBe
  have e6 := m_may6 (μ := μ) (v := v) (j := j) (w := w) (by omega) hw (fun (σ6 : St) (a7 : Int32) (a8 : Int32) (a9 : Int32) (a10 : Int32) =>
      if 1 < a10 then
        some (σ6, 0)
      else
        if a10 = 1 then
          if ((6 * (a9 - 1)) + a8) < 0 ∨ 24 ≤ ((6 * (a9 - 1)) + a8).toNatClampNeg then none else
          if (σ6 24 ((6 * (a9 - 1)) + a8).toNatClampNeg) = a7 then
            fX10_mayBe_L78
              50 σ6 a7 a8 a9 0
          else
            some (σ6, 0)
        else
          fX10_mayBe_L78
            50 σ6 a7 a8 a9 0) w 0 50 (by omega) (by omega)
  refine (show ∀ {X Y : Option (St × Int32)}, X = Y → (∃ x, Y = some (μ, x) ∧ bv x (S1 (μ 24) v j w ∧ S2 (μ 24) br h v j w)) → ∃ x, X = some (μ, x) ∧ bv x (S1 (μ 24) v j w ∧ S2 (μ 24) br h v j w) from fun e g => e ▸ g) e6 ?_
  show ∃ x, (if 1 < nI (ct6 (μ 24) v j w) then _ else _) = some (μ, x) ∧ _
  by_cases c1 : 1 < ct6 (μ 24) v j w
  · rw [if_pos (show (1 : Int32) < nI (ct6 (μ 24) v j w) from nI_lt (a := 1) c1 (by omega))]
    exact ⟨nI 0, rfl, Or.inr ⟨rfl, fun g => by have := (ss.mp g.1).1; omega⟩⟩
  rw [if_neg (show ¬ (1 : Int32) < nI (ct6 (μ 24) v j w) from nI_nlt (a := 1) (by omega) (by decide))]
  by_cases c2 : ct6 (μ 24) v j w = 1
  · have w1 : 1 ≤ w := by omega
    have iw : (6 : Int32) * (nI w - 1) + nI j = nI (6 * (w - 1) + j) := by
      rw [dg_m1 w1, show (6 : Int32) = nI 6 from rfl, pk_mul, nI_add]
    rw [if_pos (show nI (ct6 (μ 24) v j w) = 1 from by rw [c2]; rfl), iw, if_neg (nI_in (show 6 * (w - 1) + j < 24 by omega) (by decide)), nI_clamp (show 6 * (w - 1) + j < 2 ^ 31 by omega)]
    by_cases c3 : μ 24 (6 * (w - 1) + j) = nI v
    · rw [if_pos c3]
      exact ⟨x, z1', key (ss.mpr ⟨by omega, fun _ => (xb_1 _ _ _).mpr c3⟩)⟩
    · rw [if_neg c3]
      exact ⟨nI 0, rfl, Or.inr ⟨rfl, fun g => c3 ((xb_1 _ _ _).mp ((ss.mp g.1).2 c2))⟩⟩
  · rw [if_neg (show ¬ nI (ct6 (μ 24) v j w) = 1 from fun g => c2 ((nI_eq (b := 1) (by omega) (by decide)).mp g))]
    exact ⟨x, z1', key (ss.mpr ⟨by omega, fun g => absurd g c2⟩)⟩
