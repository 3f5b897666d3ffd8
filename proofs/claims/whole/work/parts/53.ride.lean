def pref (M : Nat → Nat) : Nat → Nat
  | 0 => 0
  | j + 1 => pref M j + M j
theorem pref_le {M : Nat → Nat} {r : Nat} (h : ∀ j, j < r → M j ≤ 20) : ∀ j, j ≤ r → pref M j ≤ 20 * j := by
  intro j
  induction j with
  | zero => intro _; show 0 ≤ _; omega
  | succ j ih =>
    intro hj
    have h1 := ih (by omega)
    have h2 := h j (by omega)
    unfold pref
    omega
abbrev Rb (r : Nat) (fr wy od : Nat → Nat) (a j : Nat) : Nat := Sr r fr wy od a + pref (Mf fr) (j + 1)
theorem Rb_le {r k : Nat} {fr wy od la : Nat → Nat} (hB : NB r k fr wy od la) {a j : Nat} (ha : a < k) (hj : j < r) : Rb r fr wy od a j ≤ 119 * a + 160 := by
  have h1 := Sr_le hB a ha
  have h2 := pref_le (Mf_le hB) (j + 1) (by omega)
  have h3 := hB.1
  show Sr r fr wy od a + pref (Mf fr) (j + 1) ≤ _
  omega
theorem rd_div {a j r : Nat} (hj : j < r) : (a * r + j) / r = a := by
  rw [Nat.mul_comm, Nat.mul_add_div (by omega), Nat.div_eq_of_lt hj, Nat.add_zero]
theorem rd_mod {a j r : Nat} (hj : j < r) : (a * r + j) % r = j := by
  rw [Nat.mul_comm, Nat.mul_add_mod, Nat.mod_eq_of_lt hj]
theorem rd_inj {a b i j r : Nat} (hi : i < r) (hj : j < r) (h : a * r + i = b * r + j) : a = b ∧ i = j := by
  have h1 := rd_div (a := a) hi
  have h2 := rd_mod (a := a) hi
  rw [h, rd_div hj] at h1
  rw [h, rd_mod hj] at h2
  exact ⟨h1.symm, h2.symm⟩
def adC (σ : St) (x j A B t w : Nat) : St := up (up (up (up (up (up σ 26 x (nI j)) 27 x (nI A)) 28 x (nI B)) 29 x (nI t)) 30 x (nI (t + w))) 4 8 (nI (x + 1))
set_option maxRecDepth 100000 in
set_option maxHeartbeats 4000000 in
theorem c_add {σ : St} {x j A B t w : Nat} (hx : σ 4 8 = nI x) (hx40 : x < 40) (hA : A < 6) (hB : B < 6) (ht : t < 2 ^ 20) (hw : σ 16 (6 * A + B) = nI w) : fX6_add σ (nI j) (nI A) (nI B) (nI t) = some (adC σ x j A B t w, nI 0) := by
  have e : A * 6 + B = 6 * A + B := by omega
  unfold adC
  simp (disch := omega) only [fX6_add, fX3_between_10, hx, e, hw, eq_self, obn_some, stp, itp, up_at, upd_at, cu_at, up_ne, upd_ne, cu_ne, nI_clamp, nI_lt0, nI_ltP, nI_leP, nI_eqP, nI_add, pk_mul, pk_sub, sub1_lt, pred_lt, if_pos, if_neg, if_true, if_false, false_or, or_false, true_or, or_true, not_true, not_false_iff, li_0, li_1, li_2, li_3, li_4, li_5, li_6, li_7, li_8, li_9, li_10, li_11, li_12, li_13, li_14, li_15, li_16, li_17, li_18, li_19, li_20, li_21, li_22, li_23, li_24, li_25, li_26, li_27, li_28, li_29, li_30, li_31, li_32, li_33, li_34, li_35, li_36, li_37, li_38, li_39, li_40, li_42, li_43, li_48, li_50, li_99, li_100, li_200, li_960, li_999, li_1600, li_9999, li_20000]
/-- the class's list of rides, up to ride (q, i) -/
def lsC (σ : St) (r : Nat) (fr wy od : Nat → Nat) (q i : Nat) : Prop := σ 4 8 = nI (q * r + i) ∧ ∀ a j, j < r → (a < q ∨ (a = q ∧ j < i)) → σ 26 (a * r + j) = nI j ∧ σ 27 (a * r + j) = nI (od a) ∧ σ 28 (a * r + j) = nI (od (a + 1)) ∧ σ 29 (a * r + j) = nI (Rb r fr wy od a j) ∧ σ 30 (a * r + j) = nI (Rb r fr wy od a j + WTf wy od (a + 1))
def scrR (σ σ' : St) : Prop := ∀ c, ¬ c = 4 → (c < 26 ∨ 30 < c) → σ' c = σ c
set_option maxRecDepth 100000 in
set_option maxHeartbeats 8000000 in
theorem c_listL {r k : Nat} {fr wy od la : Nat → Nat} (hB : NB r k fr wy od la) {q : Nat} (hq : q + 1 < k) : ∀ (d i n : Nat) (σ : St), NC σ r k fr wy od la → i + d = r → d < n → lsC σ r fr wy od q i → ∃ σ', (∀ K, fX2_listRides_L32 K n σ (nI (q + 1)) (nI (Sr r fr wy od q + pref (Mf fr) i)) (nI i) = K σ' (nI (q + 1))) ∧ scrR σ σ' ∧ lsC σ' r fr wy od (q + 1) 0 := by
  have hr := hB.1
  have hk := hB.2.1
  intro d
  induction d with
  | zero =>
    intro i n σ hC hi hn hs
    obtain ⟨n, rfl⟩ : ∃ m, n = m + 1 := ⟨n - 1, by omega⟩
    have r1 := hC.1
    have e : i = r := by omega
    subst e
    refine ⟨σ, fun K => ?_, fun _ _ _ => rfl, ?_, fun a j hj h => hs.2 a j hj (by omega)⟩
    · rw [fX2_listRides_L32, r1, if_pos (nI_le (Nat.le_refl _) (by omega))]
    · rw [hs.1, Nat.succ_mul, Nat.add_zero]
  | succ d ih =>
    intro i n σ hC hi hn hs
    obtain ⟨n, rfl⟩ : ∃ m, n = m + 1 := ⟨n - 1, by omega⟩
    have r1 := hC.1
    have hir : i < r := by omega
    have rl := ride_lt (k := q) (r := r) (j := i) (by omega) hr hir
    have o1 := hB.2.2.2.2.1 q (by omega)
    have o2 := hB.2.2.2.2.1 (q + 1) hq
    have c1 := hC.2.2.2.2.1 q (by omega)
    have c2 := hC.2.2.2.2.1 (q + 1) hq
    have rb := Rb_le hB (a := q) (j := i) (by omega) hir
    have ww := hC.2.2.2.1 (6 * od q + od (q + 1)) (by omega)
    have wt : WTf wy od (q + 1) = wy (6 * od q + od (q + 1)) := rfl
    have ad := c_add (σ := σ) (x := q * r + i) (j := i) (A := od q) (B := od (q + 1)) (t := Rb r fr wy od q i) (w := WTf wy od (q + 1)) hs.1 rl o1 o2 (by omega) (by rw [wt]; exact ww)
    have hC1 : NC (adC σ (q * r + i) i (od q) (od (q + 1)) (Rb r fr wy od q i) (WTf wy od (q + 1))) r k fr wy od la := hC
    obtain ⟨σ', y1, y2, y3⟩ := ih (i + 1) n (adC σ (q * r + i) i (od q) (od (q + 1)) (Rb r fr wy od q i) (WTf wy od (q + 1))) hC1 (by omega) (by omega) (by
      refine ⟨rfl, fun a j hj h => ?_⟩
      show upd (σ 26) _ _ _ = _ ∧ upd (σ 27) _ _ _ = _ ∧ upd (σ 28) _ _ _ = _ ∧ upd (σ 29) _ _ _ = _ ∧ upd (σ 30) _ _ _ = _
      by_cases e : a * r + j = q * r + i
      · obtain ⟨rfl, rfl⟩ := rd_inj hj hir e
        rw [upd_at, upd_at, upd_at, upd_at, upd_at]
        exact ⟨rfl, rfl, rfl, rfl, rfl⟩
      · rw [upd_ne _ _ e, upd_ne _ _ e, upd_ne _ _ e, upd_ne _ _ e, upd_ne _ _ e]
        refine hs.2 a j hj ?_
        rcases h with h | ⟨rfl, h⟩
        · exact Or.inl h
        · refine Or.inr ⟨rfl, ?_⟩
          rcases Nat.lt_or_ge j i with g | g
          · exact g
          · exact absurd (by rw [show j = i by omega]) e)
    refine ⟨σ', fun K => ?_, fun c h1 h2 => ?_, y3⟩
    · rw [fX2_listRides_L32, r1, if_neg (nI_ge hir (by omega)), stq (c_min hB hC i hir), itp, nI_add, show nI (q + 1) - 1 = nI q from nI_pred q, if_neg (nI_in (show q < 6 by omega) (by decide)), if_neg (nI_in (show q + 1 < 6 by omega) (by decide)), nI_clamp (show q < 2 ^ 31 by omega), nI_clamp (show q + 1 < 2 ^ 31 by omega), c1, c2]
      rw [show Sr r fr wy od q + pref (Mf fr) i + mn (fr i) = Rb r fr wy od q i from Nat.add_assoc _ _ _]
      rw [stq ad, show nI i + 1 = nI (i + 1) from nI_1 i]
      exact y1 K
    · rw [y2 c h1 h2]
      unfold adC
      rw [up_ne _ _ _ (by omega), up_ne _ _ _ (by omega), up_ne _ _ _ (by omega), up_ne _ _ _ (by omega), up_ne _ _ _ (by omega), up_ne _ _ _ (by omega)]
theorem scrR.C {σ σ' : St} (h : scrR σ σ') : scrC σ σ' := fun c hc => h c (by omega) (by omega)
theorem c_listR {r k : Nat} {fr wy od la : Nat → Nat} (hB : NB r k fr wy od la) : ∀ (d q n : Nat) (σ : St), NC σ r k fr wy od la → (∀ j, j < k → σ 21 j = nI (Sr r fr wy od j)) → q + 1 + d = k → d < n → lsC σ r fr wy od q 0 → ∃ σ', fX2_listRides_L13 n σ (nI (q + 1)) = some (σ', nI 0) ∧ scrR σ σ' ∧ lsC σ' r fr wy od (k - 1) 0 := by
  have hr := hB.1
  have hk := hB.2.1
  intro d
  induction d with
  | zero =>
    intro q n σ hC h21 hq hn hs
    obtain ⟨n, rfl⟩ : ∃ m, n = m + 1 := ⟨n - 1, by omega⟩
    have k1 := hC.2.1
    have e : k - 1 = q := by omega
    rw [e, fX2_listRides_L13, k1, if_pos (nI_le (by omega) (by omega))]
    exact ⟨σ, rfl, fun _ _ _ => rfl, hs⟩
  | succ d ih =>
    intro q n σ hC h21 hq hn hs
    obtain ⟨n, rfl⟩ : ∃ m, n = m + 1 := ⟨n - 1, by omega⟩
    have k1 := hC.2.1
    obtain ⟨σ1, y1, y2, y3⟩ := c_listL hB (q := q) (by omega) r 0 50 σ hC (by omega) (by omega) hs
    obtain ⟨σ', z1, z2, z3⟩ := ih (q + 1) n σ1 (hC.scr y2.C) (fun j hj => by rw [y2 21 (by decide) (by decide)]; exact h21 j hj) (by omega) (by omega) y3
    refine ⟨σ', ?_, fun c h1 h2 => by rw [z2 c h1 h2, y2 c h1 h2], z3⟩
    rw [fX2_listRides_L13, k1, if_neg (nI_ge (show q + 1 < k by omega) (by omega)), show nI (q + 1) - 1 = nI q from nI_pred q, if_neg (nI_in (show q < 6 by omega) (by decide)), nI_clamp (show q < 2 ^ 31 by omega), itp, h21 q (by omega)]
    refine (y1 _).trans ?_
    show fX2_listRides_L13 n σ1 (nI (q + 1) + 1) = _
    rw [show nI (q + 1) + 1 = nI (q + 1 + 1) from nI_1 (q + 1)]
    exact z1
theorem c_list {σ : St} {r k : Nat} {fr wy od la : Nat → Nat} (hB : NB r k fr wy od la) (hC : NC σ r k fr wy od la) (hk0 : 0 < k) : ∃ σ', fX2_listRides σ = some (σ', nI 0) ∧ scrC σ σ' ∧ lsC σ' r fr wy od (k - 1) 0 := by
  have hk := hB.2.1
  obtain ⟨σ1, y1, y2, y3⟩ := c_starts hB hC
  have hC1 := hC.scr (scr21 y2)
  have x1 : fX6_clear σ1 = some (up σ1 4 8 (nI 0), nI 0) := rfl
  obtain ⟨σ', z1, z2, z3⟩ := c_listR hB (k - 1) 0 50 (up σ1 4 8 (nI 0)) hC1 y3 (by omega) (by omega) ⟨by rw [Nat.zero_mul]; rfl, fun a j hj h => by omega⟩
  refine ⟨σ', ?_, fun c hc => ?_, z3⟩
  · unfold fX2_listRides
    rw [stq y1, stq x1]
    exact z1
  · rw [z2.C c hc, up_ne _ _ _ (by omega), scr21 y2 c hc]
theorem m_toP {μ : St} {r k : Nat} {fr wy od la : Nat → Nat} (hB : NB r k fr wy od la) (hM : NM μ r k fr wy od la) {a j : Nat} (ha : a + 1 < k) (hj : j < r) : fX10_toPlace μ (nI (a * r + j)) = some (μ, nI (a + 1)) := by
  have hr := hB.1
  have hk := hB.2.1
  have rl := ride_lt (k := a) (r := r) (j := j) (by omega) hr hj
  unfold fX10_toPlace
  rw [hM.1, if_neg (nI_ne0 (by omega) (by omega)), pk_div (by omega) (by omega) (by omega), rd_div hj, show nI a + 1 = nI (a + 1) from nI_1 a]
theorem m_rbL {μ : St} {r k : Nat} {fr wy od la : Nat → Nat} (hB : NB r k fr wy od la) (hM : NM μ r k fr wy od la) {a j S : Nat} (ha : a + 1 < k) (hj : j < r) : ∀ (d i n : Nat), i + d = j + 1 → d < n → fX10_rideBegins_L14 n μ (nI (a * r + j)) (nI (S + pref (Mf fr) i)) (nI i) = some (μ, nI (S + pref (Mf fr) (j + 1))) := by
  have hr := hB.1
  have hk := hB.2.1
  have rl := ride_lt (k := a) (r := r) (j := j) (by omega) hr hj
  have md : nI (a * r + j) - nI (a * r + j) / nI r * nI r = nI j := by rw [pk_rem (by omega) (by omega) (by omega), rd_mod hj]
  intro d
  induction d with
  | zero =>
    intro i n hi hn
    obtain ⟨n, rfl⟩ : ∃ m, n = m + 1 := ⟨n - 1, by omega⟩
    have e : i = j + 1 := by omega
    subst e
    rw [fX10_rideBegins_L14, hM.1, if_neg (nI_ne0 (by omega) (by omega)), md, if_pos (nI_lt (by omega) (by omega))]
  | succ d ih =>
    intro i n hi hn
    obtain ⟨n, rfl⟩ : ∃ m, n = m + 1 := ⟨n - 1, by omega⟩
    rw [fX10_rideBegins_L14, hM.1, if_neg (nI_ne0 (by omega) (by omega)), md, if_neg (nI_nlt (by omega) (by omega)), stq (m_min hB hM i (by omega)), itp, nI_add, show nI i + 1 = nI (i + 1) from nI_1 i, show S + pref (Mf fr) i + mn (fr i) = S + pref (Mf fr) (i + 1) from Nat.add_assoc _ _ _]
    exact ih (i + 1) n (by omega) (by omega)
theorem m_rb {μ : St} {r k : Nat} {fr wy od la : Nat → Nat} (hB : NB r k fr wy od la) (hM : NM μ r k fr wy od la) {a j : Nat} (ha : a + 1 < k) (hj : j < r) : fX10_rideBegins μ (nI (a * r + j)) = some (μ, nI (Rb r fr wy od a j)) := by
  have hr := hB.1
  unfold fX10_rideBegins
  rw [stq (m_toP hB hM ha hj), show nI (a + 1) - 1 = nI a from nI_pred a, stq (m_start hB hM a (by omega))]
  exact m_rbL hB hM (S := Sr r fr wy od a) ha hj (j + 1) 0 50 (by omega) (by omega)
theorem m_re {μ : St} {r k : Nat} {fr wy od la : Nat → Nat} (hB : NB r k fr wy od la) (hM : NM μ r k fr wy od la) {a j : Nat} (ha : a + 1 < k) (hj : j < r) : fX10_rideEnds μ (nI (a * r + j)) = some (μ, nI (Rb r fr wy od a j + WTf wy od (a + 1))) := by
  unfold fX10_rideEnds
  rw [stq (m_rb hB hM ha hj), stq (m_toP hB hM ha hj), stq (m_way hB hM (a + 1) (by omega) ha), nI_add]
theorem ride_of {k r x : Nat} (h : x < nR k r) : ∃ a j, a + 1 < k ∧ j < r ∧ x = a * r + j := by
  unfold nR at h
  by_cases hk : k = 0
  · rw [if_pos hk] at h; omega
  rw [if_neg hk] at h
  have hr : 0 < r := by
    rcases Nat.eq_zero_or_pos r with g | g
    · rw [g, Nat.mul_zero] at h; omega
    · exact g
  refine ⟨x / r, x % r, ?_, Nat.mod_lt x hr, by rw [Nat.mul_comm]; exact (Nat.div_add_mod x r).symm⟩
  have : x / r < k - 1 := (Nat.div_lt_iff_lt_mul hr).mpr h
  omega
set_option maxRecDepth 100000 in
set_option maxHeartbeats 4000000 in
theorem s_ride {σ μ : St} (hR : Rg σ μ) (p0 p1 : Int32) : Sm (fX9_ride σ p0 p1) (fX10_ride μ p0 p1) := by
  obtain ⟨h, r, k, f, hRR⟩ := id hR
  obtain ⟨fr, wy, od, la, hB, hC, hM⟩ := RR_night hRR
  have hr := hB.1
  have k3 := hB.2.1
  have hn := nR_le k3 hr
  unfold fX9_ride fX10_ride
  rcases cs3' p0 (nR k r) (by omega) with c | ⟨x, hx, rfl⟩
  · rw [st0 (c_rid0 hC.2.1 k3 hC.1 c), st0 (m_rid0 hM.2.1 k3 hM.1 hr c)]
    exact Sm.mk rfl hR
  rw [st1 (c_rid1 hC.2.1 k3 hC.1 hr hx), st1 (m_rid1 hM.2.1 k3 hM.1 hr hx)]
  obtain ⟨a, j, ha, hj, rfl⟩ := ride_of hx
  have rl := ride_lt (k := a) (r := r) (j := j) (by omega) hr hj
  obtain ⟨σ', y1, y2, y3⟩ := c_list hB hC (by omega)
  have hS : Rg σ' μ := ⟨h, r, k, f, hRR.scr y2 (scrM.rf μ)⟩
  obtain ⟨v1, v2, v3, v4, v5⟩ := y3.2 a j hj (Or.inl (by omega))
  have g1 : ¬ (nI (a * r + j) < 0 ∨ 40 ≤ (nI (a * r + j)).toNatClampNeg) := nI_in rl (by decide)
  have cl : (nI (a * r + j)).toNatClampNeg = a * r + j := nI_clamp (by omega)
  rw [stq y1]
  rcases cs4' p1 0 4 (by decide) (by decide) with c | ⟨t, ht0, ht, rfl⟩
  · rw [st0 (show fX10_isIn μ p1 0 4 = some (μ, nI 0) from m_in0 μ (lo := 0) (hi := 4) c)]
    have nn : ∀ q : Nat, q ≤ 4 → ¬ p1 = nI q := by
      intro q hq
      rcases c with c | ⟨c, c'⟩
      · exact ne_lt0 c q (by omega)
      · exact ne_gt c' q hq (by decide)
    rw [if_neg (show ¬ p1 = 0 from nn 0 (by omega)), if_neg (show ¬ p1 = 1 from nn 1 (by omega)), if_neg (show ¬ p1 = 2 from nn 2 (by omega)), if_neg (show ¬ p1 = 3 from nn 3 (by omega)), if_neg (show ¬ p1 = 4 from nn 4 (by omega))]
    exact Sm.mk rfl hS
  rw [st1 (show fX10_isIn μ (nI t) 0 4 = some (μ, nI 1) from m_in1 μ (lo := 0) (hi := 4) ht0 ht (by decide))]
  have rn : ¬ nI r = 0 := nI_ne0 (by omega) (by omega)
  obtain rfl | rfl | rfl | rfl | rfl : t = 0 ∨ t = 1 ∨ t = 2 ∨ t = 3 ∨ t = 4 := by omega
  · rw [if_pos (show nI 0 = (0 : Int32) from rfl), if_pos (show nI 0 = (0 : Int32) from rfl), if_neg g1, cl, v1, hM.1, if_neg rn, pk_rem (by omega) (by omega) (by omega), rd_mod hj]
    exact Sm.mk rfl hS
  · rw [if_neg (show ¬ nI 1 = (0 : Int32) from by decide), if_neg (show ¬ nI 1 = (0 : Int32) from by decide), if_pos (show nI 1 = (1 : Int32) from rfl), if_pos (show nI 1 = (1 : Int32) from rfl), if_neg g1, cl, v2, stq (m_toP hB hM ha hj), show nI (a + 1) - 1 = nI a from nI_pred a, if_neg (nI_in (show a < 6 by omega) (by decide)), nI_clamp (show a < 2 ^ 31 by omega), hM.2.2.2.2.1 a (by omega)]
    exact Sm.mk rfl hS
  · rw [if_neg (show ¬ nI 2 = (0 : Int32) from by decide), if_neg (show ¬ nI 2 = (0 : Int32) from by decide), if_neg (show ¬ nI 2 = (1 : Int32) from by decide), if_neg (show ¬ nI 2 = (1 : Int32) from by decide), if_pos (show nI 2 = (2 : Int32) from rfl), if_pos (show nI 2 = (2 : Int32) from rfl), if_neg g1, cl, v3, stq (m_toP hB hM ha hj), if_neg (nI_in (show a + 1 < 6 by omega) (by decide)), nI_clamp (show a + 1 < 2 ^ 31 by omega), hM.2.2.2.2.1 (a + 1) ha]
    exact Sm.mk rfl hS
  · rw [if_neg (show ¬ nI 3 = (0 : Int32) from by decide), if_neg (show ¬ nI 3 = (0 : Int32) from by decide), if_neg (show ¬ nI 3 = (1 : Int32) from by decide), if_neg (show ¬ nI 3 = (1 : Int32) from by decide), if_neg (show ¬ nI 3 = (2 : Int32) from by decide), if_neg (show ¬ nI 3 = (2 : Int32) from by decide), if_pos (show nI 3 = (3 : Int32) from rfl), if_pos (show nI 3 = (3 : Int32) from rfl), if_neg g1, cl, v4, stq (m_rb hB hM ha hj)]
    exact Sm.mk rfl hS
  · rw [if_neg (show ¬ nI 4 = (0 : Int32) from by decide), if_neg (show ¬ nI 4 = (0 : Int32) from by decide), if_neg (show ¬ nI 4 = (1 : Int32) from by decide), if_neg (show ¬ nI 4 = (1 : Int32) from by decide), if_neg (show ¬ nI 4 = (2 : Int32) from by decide), if_neg (show ¬ nI 4 = (2 : Int32) from by decide), if_neg (show ¬ nI 4 = (3 : Int32) from by decide), if_neg (show ¬ nI 4 = (3 : Int32) from by decide), if_pos (show nI 4 = (4 : Int32) from rfl), if_neg g1, cl, v5, stq (m_re hB hM ha hj)]
    exact Sm.mk rfl hS
