theorem mx0 (x : Int32) : (if 0 < x then x else 0) = if x ≤ 0 then 0 else x := by
  by_cases h : 0 < x
  · rw [if_pos h, if_neg (by rw [lt_toInt] at h; rw [le_toInt]; omega)]
  · rw [if_neg h, if_pos (by rw [lt_toInt] at h; rw [le_toInt]; omega)]
theorem add0 (x : Int32) : x + nI 0 = x := by
  show x + 0 = x
  exact Int32.add_zero x
theorem sub0 (x : Int32) : x - nI 0 = x := by
  show x - 0 = x
  exact Int32.sub_zero x
theorem e_waitL {σ μ : St} {r k : Nat} {fr wy od la : Nat → Nat} (hB : NB r k fr wy od la) (hC : NC σ r k fr wy od la) (hM : NM μ r k fr wy od la) {q s : Nat} (hq : q < k) (hs : s < 10) (sm : μ 3 (od q) = nI s) (y3 : shC σ r fr wy od la k 0) (z3 : shM μ r fr wy od la k 0) : ∀ (d i n n' : Nat) (acc : Int32), i + d = r → d < n → d < n' → ∃ x, fX2_waitedAt_L20 n σ (nI q) (nI s) acc (nI i) = some (σ, x) ∧ fX10_waited_L19 n' μ (nI q) acc (nI i) = some (μ, x) := by
  have hr := hB.1
  have hk := hB.2.1
  have r1 := hC.1
  have r2 := hM.1
  have oq := hB.2.2.2.2.1 q hq
  have o2 := hM.2.2.2.2.1 q hq
  intro d
  induction d with
  | zero =>
    intro i n n' acc hi hn hn'
    obtain ⟨n, rfl⟩ : ∃ m, n = m + 1 := ⟨n - 1, by omega⟩
    obtain ⟨n', rfl⟩ : ∃ m, n' = m + 1 := ⟨n' - 1, by omega⟩
    have e : i = r := by omega
    subst e
    rw [fX2_waitedAt_L20, fX10_waited_L19, r1, r2, if_pos (nI_le (Nat.le_refl _) (by omega)), if_pos (nI_le (Nat.le_refl _) (by omega))]
    exact ⟨acc, rfl, rfl⟩
  | succ d ih =>
    intro i n n' acc hi hn hn'
    obtain ⟨n, rfl⟩ : ∃ m, n = m + 1 := ⟨n - 1, by omega⟩
    obtain ⟨n', rfl⟩ : ∃ m, n' = m + 1 := ⟨n' - 1, by omega⟩
    have e1 := (y3 q i (by omega) (Or.inl hq)).2.2.1
    have e2 := (z3 q i (by omega) (Or.inl hq)).2.2
    have bb := Bg_le hB q hq i (by omega)
    have gl : Gp r fr wy od la q i < 2 ^ 31 := by
      show Bg r fr wy od la q i - Fe r fr wy od la q i < 2 ^ 31
      omega
    generalize Gp r fr wy od la q i = G at e1 e2 gl
    have e6 : (8 : Int32) * nI q + nI i = nI (8 * q + i) := by rw [show (8 : Int32) = nI 8 from rfl, pk_mul, nI_add]
    have hcl : fX2_cell σ (nI q) (nI i) = some (σ, nI (8 * q + i)) := by
      unfold fX2_cell
      rw [show nI q * 8 + nI i = nI (8 * q + i) by rw [show (8 : Int32) = nI 8 from rfl, pk_mul, nI_add]; congr 1; omega]
    have g1 : ¬ (nI (8 * q + i) < 0 ∨ 48 ≤ (nI (8 * q + i)).toNatClampNeg) := nI_in (by omega) (by decide)
    have cl : (nI (8 * q + i)).toNatClampNeg = 8 * q + i := nI_clamp (by omega)
    rw [fX2_waitedAt_L20, fX10_waited_L19, r1, r2, if_neg (nI_ge (show i < r by omega) (by omega)), if_neg (nI_ge (show i < r by omega) (by omega)), stq hcl, if_neg g1, cl, itp, e1, e6, if_neg g1, cl, e2]
    rw [show nI i + 1 = nI (i + 1) from nI_1 i]
    by_cases h0 : i = 0
    · subst h0
      rw [if_pos (show nI 0 = (0 : Int32) from rfl), if_pos (show nI 0 = (0 : Int32) from rfl), itp, itp, show nI G - 0 = nI G from sub0 _]
      by_cases hg : nI G ≤ 0
      · have g0 : G = 0 := by
          have := (nI_leI (a := G) (b := 0) gl (by decide)).mp hg
          omega
        subst g0
        rw [if_pos hg, itp]
        exact ih (0 + 1) n n' _ (by omega) (by omega) (by omega)
      · rw [if_neg hg, itp]
        exact ih (0 + 1) n n' _ (by omega) (by omega) (by omega)
    · have hi0 : ¬ nI i = 0 := nI_ne0 (by omega) (by omega)
      rw [if_neg hi0, if_neg hi0, if_neg (nI_in (show q < 6 by omega) (by decide)), nI_clamp (show q < 2 ^ 31 by omega), o2, if_neg (nI_in oq (by decide)), nI_clamp (show od q < 2 ^ 31 by omega), sm, itp, itp, mx0]
      by_cases hg : nI G - nI s ≤ 0
      · rw [if_pos hg, if_pos hg, itp]
        exact ih (i + 1) n n' _ (by omega) (by omega) (by omega)
      · rw [if_neg hg, if_neg hg, itp]
        exact ih (i + 1) n n' _ (by omega) (by omega) (by omega)
set_option maxRecDepth 100000 in
set_option maxHeartbeats 4000000 in
theorem s_waited {σ μ : St} (hR : Rg σ μ) (p0 : Int32) : Sm (fX9_waited σ p0) (fX10_waited μ p0) := by
  obtain ⟨h, r, k, f, hRR⟩ := id hR
  obtain ⟨fr, wy, od, la, hB, hC, hM⟩ := RR_night hRR
  have hr := hB.1
  have k3 := hB.2.1
  unfold fX9_waited fX10_waited
  rcases cs3' p0 k (by omega) with c | ⟨a, ha, rfl⟩
  · rw [st0 (c_plc0 hC.2.1 c), st0 (m_plc0 hM.2.1 k3 c)]
    exact Sm.mk rfl hR
  rw [st1 (c_plc1 hC.2.1 k3 ha), st1 (m_plc1 hM.2.1 k3 ha)]
  obtain ⟨σ', y1, y2, y3⟩ := c_shows hB hC
  obtain ⟨μ', z1, z2, z3⟩ := m_goOn hB hM
  have hRR' := hRR.scr y2 (scrM20 z2)
  have hC' := hC.scr y2
  have hM' := hM.scr (scrM20 z2)
  have oq := hB.2.2.2.2.1 a ha
  have A3 := hRR'.2.2.2.2.2.2.1
  obtain ⟨s1, s, -, hs, s2⟩ := A3 (od a) oq
  rw [s2] at s1
  obtain ⟨x, x1, x2⟩ := e_waitL hB hC' hM' ha hs s2 y3 z3 r 0 50 50 (nI 0) (by omega) (by omega) (by omega)
  have wa : fX2_waitedAt σ' (nI a) = some (σ', x) := by
    unfold fX2_waitedAt
    rw [if_neg (nI_in (show a < 6 by omega) (by decide)), nI_clamp (show a < 2 ^ 31 by omega), hC'.2.2.2.2.1 a ha, if_neg (nI_in oq (by decide)), nI_clamp (show od a < 2 ^ 31 by omega), s1, itp]
    exact x1
  rw [stq y1, stq z1, stq wa]
  exact ⟨σ', μ', x, rfl, x2, h, r, k, f, hRR'⟩
theorem asc (a b c : Nat) : nI (a + (b + c)) = nI (a + b + c) := by rw [Nat.add_assoc]
theorem e_whereL {σ μ : St} {r k : Nat} {fr wy od la : Nat → Nat} (hB : NB r k fr wy od la) (hC : NC σ r k fr wy od la) (hM : NM μ r k fr wy od la) {j t : Nat} (hj : j < r) (ht : t ≤ 9999) (y3 : shC σ r fr wy od la k 0) (z3 : shM μ r fr wy od la k 0) (K22 : St → Int32 → Option (St × Int32)) (K45 : St → Int32 → Int32 → Option (St × Int32)) (K61 : St → Option (St × Int32)) (K86 : St → Int32 → Int32 → Option (St × Int32)) (K104 : St → Int32 → Option (St × Int32)) (h61 : ∃ x, K61 σ = some (σ, x) ∧ K104 μ (nI (k - 1)) = some (μ, x)) (h22 : ∀ q, q + 1 < k → ∃ x, K22 σ (nI (q + 1)) = some (σ, x) ∧ K104 μ (nI q) = some (μ, x)) (h45 : ∀ q, q + 1 < k → ∃ x, K45 σ (nI j) (nI (q + 1)) = some (σ, x) ∧ K86 μ (nI j) (nI q) = some (μ, x)) : ∀ (d q n n' : Nat), q + 1 + d = k → d < n → d < n' → ∃ x, fX2_whereIs_L2 K22 K45 K61 n σ (nI j) (nI t) (nI (q + 1)) = some (σ, x) ∧ fX10_where_L38 K86 K104 n' μ (nI j) (nI t) (nI q) = some (μ, x) := by
  have hr := hB.1
  have hk := hB.2.1
  have k1 := hC.2.1
  have k2 := hM.2.1
  intro d
  induction d with
  | zero =>
    intro q n n' hi hn hn'
    obtain ⟨n, rfl⟩ : ∃ m, n = m + 1 := ⟨n - 1, by omega⟩
    obtain ⟨n', rfl⟩ : ∃ m, n' = m + 1 := ⟨n' - 1, by omega⟩
    have e : k - 1 = q := by omega
    rw [e] at h61
    have ek : nI k - 1 = nI (k - 1) := pk_sub (a := k) (b := 1) (by omega)
    rw [fX2_whereIs_L2, fX10_where_L38, k1, k2, ek, if_pos (show nI k ≤ nI (q + 1) from nI_le (by omega) (by omega)), if_pos (show nI (k - 1) ≤ nI q from nI_le (by omega) (by omega))]
    exact h61
  | succ d ih =>
    intro q n n' hi hn hn'
    obtain ⟨n, rfl⟩ : ∃ m, n = m + 1 := ⟨n - 1, by omega⟩
    obtain ⟨n', rfl⟩ : ∃ m, n' = m + 1 := ⟨n' - 1, by omega⟩
    have b1 := (y3 q j hj (Or.inl (by omega))).2.1
    have b2 := (z3 q j hj (Or.inl (by omega))).2.1
    have c1 := (y3 (q + 1) j hj (Or.inl (by omega))).1
    have c2 := (z3 (q + 1) j hj (Or.inl (by omega))).1
    have bb := Bg_le hB q (by omega) j hj
    have cb := Cm_le hB (q + 1) (by omega) j hj
    have mb := Mf_le hB j hj
    have x1 := c_ended hB hC (q := q) (by omega) hj b1
    have x2 : fX10_minutes μ (nI j) = some (μ, nI (Mf fr j)) := m_min hB hM j hj
    have e6 : (8 : Int32) * nI q + nI j = nI (8 * q + j) := by rw [show (8 : Int32) = nI 8 from rfl, pk_mul, nI_add]
    have e7 : (8 : Int32) * (nI q + 1) + nI j = nI (8 * (q + 1) + j) := by rw [show nI q + 1 = nI (q + 1) from nI_1 q, show (8 : Int32) = nI 8 from rfl, pk_mul, nI_add]
    have hcl : fX2_cell σ (nI (q + 1)) (nI j) = some (σ, nI (8 * (q + 1) + j)) := by
      unfold fX2_cell
      rw [show nI (q + 1) * 8 + nI j = nI (8 * (q + 1) + j) by rw [show (8 : Int32) = nI 8 from rfl, pk_mul, nI_add]; congr 1; omega]
    have g1 : ¬ (nI (8 * q + j) < 0 ∨ 48 ≤ (nI (8 * q + j)).toNatClampNeg) := nI_in (by omega) (by decide)
    have cl : (nI (8 * q + j)).toNatClampNeg = 8 * q + j := nI_clamp (by omega)
    have g2 : ¬ (nI (8 * (q + 1) + j) < 0 ∨ 48 ≤ (nI (8 * (q + 1) + j)).toNatClampNeg) := nI_in (by omega) (by decide)
    have cl2 : (nI (8 * (q + 1) + j)).toNatClampNeg = 8 * (q + 1) + j := nI_clamp (by omega)
    rw [fX2_whereIs_L2, fX10_where_L38, k1, k2, if_neg (nI_ge (show q + 1 < k by omega) (by omega)), if_neg (show ¬ nI k - 1 ≤ nI q from by rw [show (1 : Int32) = nI 1 from rfl, pk_sub (by omega)]; exact nI_ge (by omega) (by omega))]
    rw [show nI (q + 1) - 1 = nI q from nI_pred q, stq x1, e6, if_neg g1, stq x2, cl, b2, nI_add, e7]
    by_cases hc : t < Bg r fr wy od la q j + Mf fr j
    · rw [if_neg (nI_ge hc (by omega)), if_pos (nI_lt hc (by omega))]
      exact h22 q (by omega)
    · rw [if_pos (nI_le (by omega) (by omega)), if_neg (nI_nlt (by omega) (by omega)), stq hcl, if_neg g2, if_neg g2, cl2, c1, c2]
      by_cases hd : t < Cm r fr wy od la (q + 1) j
      · rw [if_neg (nI_ge hd (by omega)), if_neg (nI_ge hd (by omega))]
        exact h45 q (by omega)
      · rw [if_pos (nI_le (by omega) (by omega)), if_pos (nI_le (by omega) (by omega)), show nI (q + 1) + 1 = nI (q + 1 + 1) from nI_1 (q + 1), show nI q + 1 = nI (q + 1) from nI_1 q]
        exact ih (q + 1) n n' (by omega) (by omega) (by omega)
set_option maxRecDepth 100000 in
set_option maxHeartbeats 4000000 in
theorem s_where {σ μ : St} (hR : Rg σ μ) (p0 p1 : Int32) : Sm (fX9_where σ p0 p1) (fX10_where μ p0 p1) := by
  obtain ⟨h, r, k, f, hRR⟩ := id hR
  obtain ⟨fr, wy, od, la, hB, hC, hM⟩ := RR_night hRR
  have hr := hB.1
  have k3 := hB.2.1
  unfold fX9_where fX10_where
  rcases cs3' p0 r (by omega) with c | ⟨j, hj, rfl⟩
  · rw [st0 (c_reel0 hC.1 c), st0 (m_reel0 hM.1 hr c)]
    exact Sm.mk rfl hR
  rw [st1 (c_reel1 hC.1 hr hj), st1 (m_reel1 hM.1 hr hj)]
  rcases cs4' p1 0 9999 (by decide) (by decide) with c | ⟨t, ht0, ht, rfl⟩
  · rw [st0 (show fX9_within σ p1 0 9999 = some (σ, nI 0) from c_in0 σ (lo := 0) (hi := 9999) c), st0 (show fX10_isIn μ p1 0 9999 = some (μ, nI 0) from m_in0 μ (lo := 0) (hi := 9999) c)]
    exact Sm.mk rfl hR
  rw [st1 (show fX9_within σ (nI t) 0 9999 = some (σ, nI 1) from c_in1 σ (lo := 0) (hi := 9999) ht0 ht (by decide)), st1 (show fX10_isIn μ (nI t) 0 9999 = some (μ, nI 1) from m_in1 μ (lo := 0) (hi := 9999) ht0 ht (by decide)), hC.2.1, hM.2.1]
  by_cases hk0 : k = 0
  · subst hk0
    rw [if_pos (show nI 0 = (0 : Int32) from rfl), if_pos (show nI 0 = (0 : Int32) from rfl)]
    exact Sm.mk rfl hR
  have hkn : ¬ nI k = 0 := nI_ne0 (by omega) (by omega)
  rw [if_neg hkn, if_neg hkn]
  obtain ⟨σ', y1, y2, y3⟩ := c_shows hB hC
  obtain ⟨μ', z1, z2, z3⟩ := m_goOn hB hM
  have hRR' := hRR.scr y2 (scrM20 z2)
  have hC' := hC.scr y2
  have hM' := hM.scr (scrM20 z2)
  have oc := hC'.2.2.2.2.1
  have om := hM'.2.2.2.2.1
  rw [stq y1, stq z1]
  have key := e_whereL hB hC' hM' hj ht y3 z3
    (fun (σ11 : St) (a12 : Int32) =>
      if (a12 - 1) < 0 ∨ 6 ≤ (a12 - 1).toNatClampNeg then none else
      some (σ11, (σ11 19 (a12 - 1).toNatClampNeg)))
    (fun (σ14 : St) (a15 : Int32) (a16 : Int32) =>
      obn (fX2_rideOf σ14 a16 a15) fun σ17 r18 =>
      some (σ17, (100 + r18)))
    (fun (σ20 : St) =>
      if ((σ20 3 5) - 1) < 0 ∨ 6 ≤ ((σ20 3 5) - 1).toNatClampNeg then none else
      some (σ20, (σ20 19 ((σ20 3 5) - 1).toNatClampNeg)))
    (fun (σ21 : St) (a22 : Int32) (a23 : Int32) =>
      some (σ21, ((100 + (a23 * (σ21 0 7))) + a22)))
    (fun (σ24 : St) (a25 : Int32) =>
      if a25 < 0 ∨ 6 ≤ a25.toNatClampNeg then none else
      some (σ24, (σ24 9 a25.toNatClampNeg)))
    (by
      refine ⟨nI (od (k - 1)), ?_, ?_⟩
      · show (if ((σ' 3 5) - 1) < 0 ∨ 6 ≤ ((σ' 3 5) - 1).toNatClampNeg then none else some (σ', (σ' 19 ((σ' 3 5) - 1).toNatClampNeg))) = _
        rw [hC'.2.1, show (1 : Int32) = nI 1 from rfl, pk_sub (by omega), if_neg (nI_in (by omega) (by decide)), nI_clamp (by omega), oc (k - 1) (by omega)]
      · show (if nI (k - 1) < 0 ∨ 6 ≤ (nI (k - 1)).toNatClampNeg then none else some (μ', (μ' 9 (nI (k - 1)).toNatClampNeg))) = _
        rw [if_neg (nI_in (by omega) (by decide)), nI_clamp (by omega), om (k - 1) (by omega)])
    (by
      intro q hq
      refine ⟨nI (od q), ?_, ?_⟩
      · show (if (nI (q + 1) - 1) < 0 ∨ 6 ≤ (nI (q + 1) - 1).toNatClampNeg then none else some (σ', (σ' 19 (nI (q + 1) - 1).toNatClampNeg))) = _
        rw [show nI (q + 1) - 1 = nI q from nI_pred q, if_neg (nI_in (by omega) (by decide)), nI_clamp (by omega), oc q (by omega)]
      · show (if nI q < 0 ∨ 6 ≤ (nI q).toNatClampNeg then none else some (μ', (μ' 9 (nI q).toNatClampNeg))) = _
        rw [if_neg (nI_in (by omega) (by decide)), nI_clamp (by omega), om q (by omega)])
    (by
      intro q hq
      refine ⟨nI (100 + (q * r + j)), ?_, ?_⟩
      · show obn (fX2_rideOf σ' (nI (q + 1)) (nI j)) _ = _
        unfold fX2_rideOf
        rw [obn_some, hC'.1, show nI (q + 1) - 1 = nI q from nI_pred q, pk_mul, nI_add, show (100 : Int32) = nI 100 from rfl, nI_add]
      · show some (μ', ((100 + (nI q * (μ' 0 7))) + nI j)) = _
        rw [hM'.1, pk_mul, show (100 : Int32) = nI 100 from rfl, nI_add, nI_add, asc])
    (k - 1) 0 50 50 (by omega) (by omega) (by omega)
  obtain ⟨x, x1, x2⟩ := key
  have wi : fX2_whereIs σ' (nI j) (nI t) = some (σ', x) := x1
  rw [stq wi]
  exact ⟨σ', μ', x, rfl, x2, h, r, k, f, hRR'⟩

/-- the model's row of causes: -1 for none -/
def cM (z : Int32) : Int32 := if z = -1000000005 then -1 else z
def okz (z : Int32) : Prop := z = -1000000005 ∨ ∃ q, q < 40 ∧ z = nI q
theorem okz_srch {c : Nat → Int32} : ∀ j, (∀ i, i ≤ j → okz (c i)) → okz (srch c j) := by
  intro j
  induction j with
  | zero => intro h; exact h 0 (by omega)
  | succ j ih =>
    intro h
    unfold srch
    split
    · exact ih (fun i hi => h i (by omega))
    · exact h (j + 1) (by omega)
theorem Cz_ok {r k : Nat} {fr wy od la : Nat → Nat} (hB : NB r k fr wy od la) : ∀ q, q < k → ∀ j, j < r → okz (Cz r fr wy od la q j) := by
  have hr := hB.1
  have hk := hB.2.1
  intro q
  induction q with
  | zero => intro _ j _; exact Or.inl rfl
  | succ q ih =>
    intro hq j hj
    have rl := ride_lt (k := q) (r := r) (j := j) (by omega) hr hj
    show okz (if _ then _ else if _ then _ else _)
    split
    · exact Or.inl rfl
    · split
      · exact Or.inr ⟨_, rl, rfl⟩
      · exact okz_srch j (fun i hi => ih (by omega) i (by omega))
theorem cM_N : cM (-1000000005) = -1 := by decide
theorem cM_q {q : Nat} (hq : q < 40) : cM (nI q) = nI q := by
  unfold cM
  rw [if_neg (nI_neg q (by omega) _ (by decide))]
theorem cM_ge {z : Int32} (h : okz z) : (0 ≤ cM z) ↔ ¬ z = -1000000005 := by
  rcases h with rfl | ⟨q, hq, rfl⟩
  · rw [cM_N]
    exact ⟨fun h => absurd h (by decide), fun h => absurd rfl h⟩
  · rw [cM_q hq]
    exact ⟨fun _ => nI_neg q (by omega) _ (by decide), fun _ => nI_le (a := 0) (by omega) (by omega)⟩
set_option maxRecDepth 100000 in
set_option maxHeartbeats 4000000 in
theorem m_srch {r k : Nat} (hr : r ≤ 8) (hk : k ≤ 6) {a i0 : Nat} (ha : a + 1 < k) (hi0 : i0 < r) (Z : Nat → Int32) : ∀ (j n : Nat) (μ : St), j < r → j + 2 < n → μ 23 (8 * (a + 1) + i0) = -1 → (∀ i, i ≤ j → okz (Z i) ∧ μ 23 (8 * a + i) = cM (Z i)) → ∃ μ', (∀ K, fX10_findCauses_L84 K n μ (nI (a + 1)) (nI i0) (nI (8 * (a + 1) + i0)) (nI j) = K μ' (nI (a + 1)) (nI i0)) ∧ (∀ c, ¬ c = 23 → μ' c = μ c) ∧ (∀ x, ¬ x = 8 * (a + 1) + i0 → μ' 23 x = μ 23 x) ∧ μ' 23 (8 * (a + 1) + i0) = cM (srch Z j) := by
  have g1 : ¬ (nI (8 * (a + 1) + i0) < 0 ∨ 48 ≤ (nI (8 * (a + 1) + i0)).toNatClampNeg) := nI_in (by omega) (by decide)
  have cl : (nI (8 * (a + 1) + i0)).toNatClampNeg = 8 * (a + 1) + i0 := nI_clamp (by omega)
  have g2 : ¬ (nI (8 * (a + 1) + i0) < 0 ∨ 48 ≤ 8 * (a + 1) + i0) := by rw [cl] at g1; exact g1
  have e6 : ∀ i : Nat, (8 : Int32) * (nI (a + 1) - 1) + nI i = nI (8 * a + i) := by
    intro i
    rw [show nI (a + 1) - 1 = nI a from nI_pred a, show (8 : Int32) = nI 8 from rfl, pk_mul, nI_add]
  -- a step that finds nothing yet
  have stop : ∀ (n : Nat) (μ : St) (j : Int32) (K : St → Int32 → Int32 → Option (St × Int32)), 0 ≤ μ 23 (8 * (a + 1) + i0) → fX10_findCauses_L84 K (n + 1) μ (nI (a + 1)) (nI i0) (nI (8 * (a + 1) + i0)) j = K μ (nI (a + 1)) (nI i0) := by
    intro n μ j K h
    rw [fX10_findCauses_L84]
    by_cases hj : j < 0
    · rw [if_pos hj]
    · rw [if_neg hj, if_neg g1, cl, if_pos h]
  have ended : ∀ (n : Nat) (μ : St) (K : St → Int32 → Int32 → Option (St × Int32)), fX10_findCauses_L84 K (n + 1) μ (nI (a + 1)) (nI i0) (nI (8 * (a + 1) + i0)) (-1) = K μ (nI (a + 1)) (nI i0) := by
    intro n μ K
    rw [fX10_findCauses_L84, if_pos (by decide)]
  have one : ∀ (j n : Nat) (μ : St) (K : St → Int32 → Int32 → Option (St × Int32)), j < r → μ 23 (8 * (a + 1) + i0) = -1 → fX10_findCauses_L84 K (n + 1) μ (nI (a + 1)) (nI i0) (nI (8 * (a + 1) + i0)) (nI j) = fX10_findCauses_L84 K n (up μ 23 (8 * (a + 1) + i0) (μ 23 (8 * a + j))) (nI (a + 1)) (nI i0) (nI (8 * (a + 1) + i0)) (nI j + (-1)) := by
    intro j n μ K hj hm
    rw [fX10_findCauses_L84, if_neg (show ¬ nI j < (0 : Int32) from nI_pos (by omega)), if_neg g1, cl, hm, if_neg (show ¬ (0 : Int32) ≤ -1 from by decide), e6, if_neg (nI_in (show 8 * a + j < 48 by omega) (by decide)), if_neg g2, nI_clamp (show 8 * a + j < 2 ^ 31 by omega), stp]
  intro j
  induction j with
  | zero =>
    intro n μ hj hn hm hz
    obtain ⟨n, rfl⟩ : ∃ m, n = m + 1 + 1 := ⟨n - 2, by omega⟩
    obtain ⟨oz, ez⟩ := hz 0 (by omega)
    refine ⟨up μ 23 (8 * (a + 1) + i0) (cM (Z 0)), fun K => ?_, fun c hc => up_ne _ _ _ hc, fun x hx => by rw [up_at, upd_ne _ _ hx], by rw [up_at, upd_at]; rfl⟩
    rw [one 0 (n + 1) μ K hj hm, show nI 0 + (-1) = -1 from by decide, ended, ez]
  | succ j ih =>
    intro n μ hj hn hm hz
    obtain ⟨n, rfl⟩ : ∃ m, n = m + 1 + 1 := ⟨n - 2, by omega⟩
    obtain ⟨oz, ez⟩ := hz (j + 1) (by omega)
    by_cases hc : Z (j + 1) = -1000000005
    · have e1 : cM (Z (j + 1)) = -1 := by rw [hc]; exact cM_N
      obtain ⟨μ', y1, y2, y3, y4⟩ := ih (n + 1) (up μ 23 (8 * (a + 1) + i0) (cM (Z (j + 1)))) (by omega) (by omega) (by rw [up_at, upd_at]; exact e1) (fun i hi => by
        rw [up_at, upd_ne _ _ (by omega)]
        exact hz i (by omega))
      refine ⟨μ', fun K => ?_, fun c hc => by rw [y2 c hc, up_ne _ _ _ hc], fun x hx => by rw [y3 x hx, up_at, upd_ne _ _ hx], ?_⟩
      · rw [one (j + 1) (n + 1) μ K hj hm, ez, pk_m1]
        exact y1 K
      · rw [y4, srch, if_pos hc]
    · refine ⟨up μ 23 (8 * (a + 1) + i0) (cM (Z (j + 1))), fun K => ?_, fun c hc => up_ne _ _ _ hc, fun x hx => by rw [up_at, upd_ne _ _ hx], by rw [up_at, upd_at, srch, if_neg hc]⟩
      rw [one (j + 1) (n + 1) μ K hj hm, ez, stop n _ _ K (by rw [up_at, upd_at]; exact (cM_ge oz).mpr hc)]
