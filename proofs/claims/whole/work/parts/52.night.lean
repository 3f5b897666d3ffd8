theorem m_stop {x : Nat} (hx : x < 48) (n : Nat) (μ : St) (a i j : Int32) (K : St → Int32 → Int32 → Option (St × Int32)) (h : 0 ≤ μ 23 x) : fX10_findCauses_L84 K (n + 1) μ a i (nI x) j = K μ a i := by
  rw [fX10_findCauses_L84]
  by_cases hj : j < 0
  · rw [if_pos hj]
  · rw [if_neg hj, if_neg (nI_in hx (by decide)), nI_clamp (show x < 2 ^ 31 by omega), if_pos h]
def shZ (μ : St) (r : Nat) (fr wy od la : Nat → Nat) (q i : Nat) : Prop := ∀ a j, j < r → (a < q ∨ (a = q ∧ j < i)) → μ 23 (8 * a + j) = cM (Cz r fr wy od la a j)
set_option maxRecDepth 100000 in
set_option maxHeartbeats 8000000 in
theorem m_czL {r k : Nat} {fr wy od la : Nat → Nat} (hB : NB r k fr wy od la) {q : Nat} (hq : q < k) : ∀ (d i n : Nat) (μ : St), NM μ r k fr wy od la → shM μ r fr wy od la k 0 → i + d = r → d < n → shZ μ r fr wy od la q i → ∃ μ', (∀ K, fX10_findCauses_L12 K n μ (nI q) (nI i) = K μ' (nI q)) ∧ (∀ c, ¬ c = 23 → μ' c = μ c) ∧ shZ μ' r fr wy od la (q + 1) 0 := by
  have hr := hB.1
  have hk := hB.2.1
  intro d
  induction d with
  | zero =>
    intro i n μ hM hg hi hn hs
    obtain ⟨n, rfl⟩ : ∃ m, n = m + 1 := ⟨n - 1, by omega⟩
    have r1 := hM.1
    have e : i = r := by omega
    subst e
    refine ⟨μ, fun K => ?_, fun _ _ => rfl, fun a j hj h => hs a j hj (by omega)⟩
    rw [fX10_findCauses_L12, r1, if_pos (nI_le (Nat.le_refl _) (by omega))]
  | succ d ih =>
    intro i n μ hM hg hi hn hs
    obtain ⟨n, rfl⟩ : ∃ m, n = m + 1 := ⟨n - 1, by omega⟩
    have r1 := hM.1
    have hir : i < r := by omega
    have bb := Bg_le hB q hq i hir
    have gv := (hg q i hir (Or.inl hq)).2.2
    have gl : Gp r fr wy od la q i < 2 ^ 31 := by
      show Bg r fr wy od la q i - Fe r fr wy od la q i < 2 ^ 31
      omega
    have e6 : (8 : Int32) * nI q + nI i = nI (8 * q + i) := by rw [show (8 : Int32) = nI 8 from rfl, pk_mul, nI_add]
    have g1 : ¬ (nI (8 * q + i) < 0 ∨ 48 ≤ (nI (8 * q + i)).toNatClampNeg) := nI_in (by omega) (by decide)
    have cl : (nI (8 * q + i)).toNatClampNeg = 8 * q + i := nI_clamp (by omega)
    have g2 : ¬ (nI (8 * q + i) < 0 ∨ 48 ≤ 8 * q + i) := by rw [cl] at g1; exact g1
    -- what is left once the row at this place is right
    have next : ∀ μ1 : St, (∀ c, ¬ c = 23 → μ1 c = μ c) → (∀ x, ¬ x = 8 * q + i → μ1 23 x = μ 23 x) → μ1 23 (8 * q + i) = cM (Cz r fr wy od la q i) → ∃ μ', (∀ K, fX10_findCauses_L12 K n μ1 (nI q) (nI (i + 1)) = K μ' (nI q)) ∧ (∀ c, ¬ c = 23 → μ' c = μ c) ∧ shZ μ' r fr wy od la (q + 1) 0 := by
      intro μ1 h1 h2 h3
      have hM1 : NM μ1 r k fr wy od la := hM.scr ⟨fun c _ h => h1 c (by omega), fun j _ => by rw [h1 0 (by decide)]⟩
      obtain ⟨μ', y1, y2, y3⟩ := ih (i + 1) n μ1 hM1 (fun a j hj h => by rw [h1 20 (by decide), h1 21 (by decide), h1 22 (by decide)]; exact hg a j hj h) (by omega) (by omega) (by
        intro a j hj h
        by_cases e : 8 * a + j = 8 * q + i
        · obtain ⟨rfl, rfl⟩ := at8 hr hj hir e
          exact h3
        · rw [h2 _ e]
          refine hs a j hj ?_
          rcases h with h | ⟨rfl, h⟩
          · exact Or.inl h
          · exact Or.inr ⟨rfl, by omega⟩)
      exact ⟨μ', y1, fun c hc => by rw [y2 c hc, h1 c hc], y3⟩
    have head : ∀ K, fX10_findCauses_L12 K (n + 1) μ (nI q) (nI i) = (if nI (Gp r fr wy od la q i) ≤ 0 then fX10_findCauses_L12 K n (up μ 23 (8 * q + i) (-1)) (nI q) (nI (i + 1)) else if nI q ≤ 0 then fX10_findCauses_L12 K n (up μ 23 (8 * q + i) (-1)) (nI q) (nI (i + 1)) else
          itp (((nI q - 1) * nI r) + nI i) fun v9 =>
          if v9 < 0 ∨ 40 ≤ v9.toNatClampNeg then none else
          if (μ 10 v9.toNatClampNeg) ≤ 0 then
            stp (up (up μ 23 (8 * q + i) (-1)) 23 (8 * q + i) (-1)) fun σ13 =>
            fX10_findCauses_L84 (fun (σ20 : St) (a21 : Int32) (a22 : Int32) => fX10_findCauses_L12 K n σ20 a21 (a22 + 1)) 50 σ13 (nI q) (nI i) (nI (8 * q + i)) (nI i)
          else
            stp (up (up μ 23 (8 * q + i) (-1)) 23 (8 * q + i) v9) fun σ24 =>
            fX10_findCauses_L84 (fun (σ25 : St) (a26 : Int32) (a27 : Int32) => fX10_findCauses_L12 K n σ25 a26 (a27 + 1)) 50 σ24 (nI q) (nI i) (nI (8 * q + i)) (nI i)) := by
      intro K
      rw [fX10_findCauses_L12, r1, if_neg (nI_ge hir (by omega)), itp, e6, if_neg g1, cl, stp, if_neg g2, up_ne _ _ _ (show ¬ 22 = 23 by decide), gv, show nI i + 1 = nI (i + 1) from nI_1 i]
      rw [up_ne _ _ _ (show ¬ 0 = 23 by decide), r1, up_ne _ _ _ (show ¬ 10 = 23 by decide)]
      simp only [g2, if_false]
    have cz0 : ∀ μ1 : St, μ1 = up μ 23 (8 * q + i) (-1) → Cz r fr wy od la q i = -1000000005 → ∃ μ', (∀ K, fX10_findCauses_L12 K n μ1 (nI q) (nI (i + 1)) = K μ' (nI q)) ∧ (∀ c, ¬ c = 23 → μ' c = μ c) ∧ shZ μ' r fr wy od la (q + 1) 0 := by
      intro μ1 e hz
      subst e
      exact next _ (fun c hc => up_ne _ _ _ hc) (fun x hx => by rw [up_at, upd_ne _ _ hx]) (by rw [up_at, upd_at, hz, cM_N])
    by_cases h0 : q = 0
    · obtain ⟨μ', y1, y2, y3⟩ := cz0 _ rfl (by subst h0; rfl)
      refine ⟨μ', fun K => ?_, y2, y3⟩
      rw [head]
      by_cases hG : nI (Gp r fr wy od la q i) ≤ 0
      · rw [if_pos hG]; exact y1 K
      · rw [if_neg hG, if_pos (by subst h0; decide)]; exact y1 K
    obtain ⟨a, rfl⟩ : ∃ a, q = a + 1 := ⟨q - 1, by omega⟩
    have zz : Cz r fr wy od la (a + 1) i = if Gp r fr wy od la (a + 1) i = 0 then -1000000005 else if 0 < la (a * r + i) then nI (a * r + i) else srch (Cz r fr wy od la a) i := rfl
    have rl := ride_lt (k := a) (r := r) (j := i) (by omega) hr hir
    have x3 := hM.2.2.2.2.2 (a * r + i) rl
    have lb := hB.2.2.2.2.2 (a * r + i) rl
    have e9 : (nI (a + 1) - 1) * nI r + nI i = nI (a * r + i) := by
      rw [show nI (a + 1) - 1 = nI a from nI_pred a, pk_mul, nI_add]
    by_cases hG : Gp r fr wy od la (a + 1) i = 0
    · rw [if_pos hG] at zz
      obtain ⟨μ', y1, y2, y3⟩ := cz0 _ rfl zz
      refine ⟨μ', fun K => ?_, y2, y3⟩
      rw [head, if_pos (by rw [hG]; decide)]
      exact y1 K
    rw [if_neg hG] at zz
    have hGn : ¬ nI (Gp r fr wy od la (a + 1) i) ≤ 0 := nI_nle (by omega) gl
    have hqn : ¬ nI (a + 1) ≤ 0 := nI_nle (by omega) (by omega)
    by_cases hl : 0 < la (a * r + i)
    · rw [if_pos hl] at zz
      obtain ⟨μ', y1, y2, y3⟩ := next (up (up μ 23 (8 * (a + 1) + i) (-1)) 23 (8 * (a + 1) + i) (nI (a * r + i))) (fun c hc => by rw [up_ne _ _ _ hc, up_ne _ _ _ hc]) (fun x hx => by rw [up_at, upd_ne _ _ hx, up_at, upd_ne _ _ hx]) (by rw [up_at, upd_at, zz, cM_q rl])
      refine ⟨μ', fun K => ?_, y2, y3⟩
      rw [head, if_neg hGn, if_neg hqn, itp, e9, if_neg (nI_in rl (by decide)), nI_clamp (show a * r + i < 2 ^ 31 by omega), x3, if_neg (show ¬ nI (la (a * r + i)) ≤ 0 from nI_nle hl (by omega)), stp, m_stop (by omega) 49 _ _ _ _ _ (by rw [up_at, upd_at]; exact nI_le (a := 0) (by omega) (by omega))]
      rw [show nI i + 1 = nI (i + 1) from nI_1 i]
      exact y1 K
    · rw [if_neg hl] at zz
      obtain ⟨μ1, w1, w2, w3, w4⟩ := m_srch hr hk hq hir (Cz r fr wy od la a) i 50 (up (up μ 23 (8 * (a + 1) + i) (-1)) 23 (8 * (a + 1) + i) (-1)) hir (by omega) (by rw [up_at, upd_at]) (fun j hj => by
        refine ⟨Cz_ok hB a (by omega) j (by omega), ?_⟩
        rw [up_at, upd_ne _ _ (by omega), up_at, upd_ne _ _ (by omega)]
        exact hs a j (by omega) (Or.inl (by omega)))
      obtain ⟨μ', y1, y2, y3⟩ := next μ1 (fun c hc => by rw [w2 c hc, up_ne _ _ _ hc, up_ne _ _ _ hc]) (fun x hx => by rw [w3 x hx, up_at, upd_ne _ _ hx, up_at, upd_ne _ _ hx]) (by rw [w4, zz])
      refine ⟨μ', fun K => ?_, y2, y3⟩
      rw [head, if_neg hGn, if_neg hqn, itp, e9, if_neg (nI_in rl (by decide)), nI_clamp (show a * r + i < 2 ^ 31 by omega), x3, if_pos (show nI (la (a * r + i)) ≤ 0 from nI_le (b := 0) (by omega) (by decide)), stp, w1]
      rw [show nI i + 1 = nI (i + 1) from nI_1 i]
      exact y1 K
theorem m_causesL {r k : Nat} {fr wy od la : Nat → Nat} (hB : NB r k fr wy od la) : ∀ (d q n : Nat) (μ : St), NM μ r k fr wy od la → shM μ r fr wy od la k 0 → q + d = k → d < n → shZ μ r fr wy od la q 0 → ∃ μ', fX10_findCauses_L2 n μ (nI q) = some (μ', nI 0) ∧ (∀ c, ¬ c = 23 → μ' c = μ c) ∧ shZ μ' r fr wy od la k 0 := by
  have hr := hB.1
  have hk := hB.2.1
  intro d
  induction d with
  | zero =>
    intro q n μ hM hg hq hn hs
    obtain ⟨n, rfl⟩ : ∃ m, n = m + 1 := ⟨n - 1, by omega⟩
    have k1 := hM.2.1
    have e : q = k := by omega
    subst e
    rw [fX10_findCauses_L2, k1, if_pos (nI_le (Nat.le_refl _) (by omega))]
    exact ⟨μ, rfl, fun _ _ => rfl, hs⟩
  | succ d ih =>
    intro q n μ hM hg hq hn hs
    obtain ⟨n, rfl⟩ : ∃ m, n = m + 1 := ⟨n - 1, by omega⟩
    have k1 := hM.2.1
    obtain ⟨μ1, y1, y2, y3⟩ := m_czL hB (q := q) (by omega) r 0 50 μ hM hg (by omega) (by omega) hs
    have hM1 : NM μ1 r k fr wy od la := hM.scr ⟨fun c _ h => y2 c (by omega), fun j _ => by rw [y2 0 (by decide)]⟩
    obtain ⟨μ', z1, z2, z3⟩ := ih (q + 1) n μ1 hM1 (fun a j hj h => by rw [y2 20 (by decide), y2 21 (by decide), y2 22 (by decide)]; exact hg a j hj h) (by omega) (by omega) y3
    refine ⟨μ', ?_, fun c hc => by rw [z2 c hc, y2 c hc], z3⟩
    rw [fX10_findCauses_L2, k1, if_neg (nI_ge (show q < k by omega) (by omega))]
    refine (y1 _).trans ?_
    show fX10_findCauses_L2 n μ1 (nI q + 1) = _
    rw [show nI q + 1 = nI (q + 1) from nI_1 q]
    exact z1
set_option maxRecDepth 100000 in
set_option maxHeartbeats 4000000 in
theorem s_cause {σ μ : St} (hR : Rg σ μ) (p0 p1 : Int32) : Sm (fX9_cause σ p0 p1) (fX10_cause μ p0 p1) := by
  obtain ⟨h, r, k, f, hRR⟩ := id hR
  obtain ⟨fr, wy, od, la, hB, hC, hM⟩ := RR_night hRR
  have hr := hB.1
  have k3 := hB.2.1
  unfold fX9_cause fX10_cause
  rcases cs3' p0 k (by omega) with c | ⟨a, ha, rfl⟩
  · rw [st0 (c_plc0 hC.2.1 c), st0 (m_plc0 hM.2.1 k3 c)]
    exact Sm.mk rfl hR
  rw [st1 (c_plc1 hC.2.1 k3 ha), st1 (m_plc1 hM.2.1 k3 ha)]
  rcases cs3' p1 r (by omega) with c | ⟨j, hj, rfl⟩
  · rw [st0 (c_reel0 hC.1 c), st0 (m_reel0 hM.1 hr c)]
    exact Sm.mk rfl hR
  rw [st1 (c_reel1 hC.1 hr hj), st1 (m_reel1 hM.1 hr hj)]
  obtain ⟨σ', y1, y2, y3⟩ := c_shows hB hC
  obtain ⟨μ1, z1, z2, z3⟩ := m_goOn hB hM
  obtain ⟨μ', w1, w2, w3⟩ := m_causesL hB k 0 50 μ1 (hM.scr (scrM20 z2)) z3 (by omega) (by omega) (fun a j hj h => by omega)
  have w0 : fX10_findCauses μ1 = some (μ', nI 0) := w1
  rw [stq y1, stq z1, stq w0]
  have e1 := (y3 a j hj (Or.inl ha)).2.2.2
  have e2 := w3 a j hj (Or.inl ha)
  have oz := Cz_ok hB a ha j hj
  have hcl : fX2_cell σ' (nI a) (nI j) = some (σ', nI (8 * a + j)) := by
    unfold fX2_cell
    rw [show nI a * 8 + nI j = nI (8 * a + j) by rw [show (8 : Int32) = nI 8 from rfl, pk_mul, nI_add]; congr 1; omega]
  have e6 : (8 : Int32) * nI a + nI j = nI (8 * a + j) := by rw [show (8 : Int32) = nI 8 from rfl, pk_mul, nI_add]
  have g1 : ¬ (nI (8 * a + j) < 0 ∨ 48 ≤ (nI (8 * a + j)).toNatClampNeg) := nI_in (by omega) (by decide)
  rw [stq hcl, if_neg g1, e6, if_neg g1, nI_clamp (show 8 * a + j < 2 ^ 31 by omega), itp, e1, e2]
  have hS : Rg σ' μ' := ⟨h, r, k, f, hRR.scr y2 ((scrM20 z2).tr ⟨fun c _ h2 => w2 c (by omega), fun j _ => by rw [w2 0 (by decide)]⟩)⟩
  rcases oz with oz | ⟨q, hq, oz⟩
  · rw [oz, cM_N, if_neg (by decide)]
    exact Sm.mk rfl hS
  · rw [oz, cM_q hq, if_pos (show (0 : Int32) ≤ nI q from nI_le (a := 0) (by omega) (by omega))]
    exact Sm.mk rfl hS
