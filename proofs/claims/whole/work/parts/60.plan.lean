def cKs (G : St → Int32 → Option (St × Int32)) : St → Int32 → Option (St × Int32) := fun (σ13 : St) (a14 : Int32) =>
          if (σ13 6 5) = 0 then
            obn (G σ13 (a14 + 1)) fun σ16 r17 =>
            some (σ16, 0)
          else
            some (σ13, 0)
def mKs (G : St → Int32 → Int32 → Int32 → Option (St × Int32)) : St → Int32 → Int32 → Int32 → Int32 → Option (St × Int32) := fun (σ43 : St) (a44 : Int32) (a45 : Int32) (a46 : Int32) (a47 : Int32) =>
        if a47 < 0 ∨ 24 ≤ a47.toNatClampNeg then none else
        if 0 ≤ (σ43 12 a47.toNatClampNeg) then
          some (σ43, 0)
        else
          if (σ43 0 35) = 0 then
            if a47 < 0 ∨ 24 ≤ a47.toNatClampNeg then none else
            stp (up σ43 24 a47.toNatClampNeg (-1)) fun σ52 =>
            obn (G σ52 a44 (a45 + 1) a46) fun σ53 r54 =>
            some (σ53, 0)
          else
            some (σ43, 0)
def GOK (h f W w j : Nat) (br : Nat → Nat) (Gc : St → Int32 → Option (St × Int32)) (Gm : St → Int32 → Int32 → Int32 → Option (St × Int32)) : Prop := ∀ (σ μ : St) (s : Int32), PS σ μ h f W br → PD σ μ (6 * w + j + 1) → σ 6 5 = 0 → σ 6 6 = s → ∃ σ' μ', Gc σ (nI (6 * w + j + 1)) = some (σ', nI 0) ∧ Gm μ (nI w) (nI (j + 1)) s = some (μ', nI 0) ∧ Po2 σ μ σ' μ' (6 * w + j + 1)
theorem c_stop {G : St → Int32 → Option (St × Int32)} {σ : St} (p v : Int32) (n : Nat) (h : ¬ σ 6 5 = 0) : fX7_seek_L45 G (cKs G) (n + 1) σ p v = some (σ, nI 0) := by
  have e : cKs G σ p = some (σ, nI 0) := by
    unfold cKs
    rw [if_neg h]
    rfl
  rw [fX7_seek_L45, if_neg h, e]
  split <;> rfl
theorem k_end {h f W w j : Nat} {br : Nat → Nat} {Gc : St → Int32 → Option (St × Int32)} {Gm : St → Int32 → Int32 → Int32 → Option (St × Int32)} (hj : j < h) (hw : w ≤ W) (hG : GOK h f W w j br Gc Gm) {σ μ : St} (hs : PS σ μ h f W br) (hd : PD σ μ (6 * w + j)) (hp : μ 12 (6 * w + j) = -1) : ∃ σ' μ', cKs Gc σ (nI (6 * w + j)) = some (σ', nI 0) ∧ mKs Gm μ (nI w) (nI j) (σ 6 6) (nI (6 * w + j)) = some (μ', nI 0) ∧ Po2 σ μ σ' μ' (6 * w + j) := by
  have h3 := hs.1.2.2
  have W3 := hs.2.2.1.2.2
  have g24 : ¬ (nI (6 * w + j) < 0 ∨ 24 ≤ 6 * w + j) := fun g => g.elim (nI_pos (by omega)) (by omega)
  have ep : μ 24 (6 * w + j) = -1 := hd.2.2.2.2 _ (Nat.le_refl _) (by omega)
  unfold cKs mKs
  rw [nI_clamp (show 6 * w + j < 2 ^ 31 by omega), if_neg g24, hp, if_neg (show ¬ (0 : Int32) ≤ -1 from by decide), ← hd.1.2.1]
  by_cases c : σ 6 5 = 0
  · rw [if_pos c, if_pos c, if_neg g24, stp, up_same ep, show nI (6 * w + j) + 1 = nI (6 * w + j + 1) from nI_1 _, show nI j + 1 = nI (j + 1) from nI_1 j]
    obtain ⟨σ', μ', z1, z2, z3⟩ := hG σ μ (σ 6 6) hs hd.next c rfl
    rw [stq z1, stq z2]
    exact ⟨σ', μ', rfl, rfl, z3.back (by omega) ep⟩
  · rw [if_neg c, if_neg c]
    exact ⟨σ, μ, rfl, rfl, Po2.rf hd⟩
set_option maxRecDepth 100000 in
set_option maxHeartbeats 2000000 in
theorem t_free {h f W w j : Nat} {br : Nat → Nat} {Gc : St → Int32 → Option (St × Int32)} {Gm : St → Int32 → Int32 → Int32 → Option (St × Int32)} (hj : j < h) (hw : w ≤ W) (hG : GOK h f W w j br Gc Gm) (s : Int32) : ∀ (d v n : Nat) (σ μ : St), v + d = f → d < n → PS σ μ h f W br → PD σ μ (6 * w + j) → μ 12 (6 * w + j) = -1 → σ 6 6 = s → ∃ σ' μ', fX7_seek_L45 Gc (cKs Gc) n σ (nI (6 * w + j)) (nI v) = some (σ', nI 0) ∧ fX10_tryFrom_L83 Gm (mKs Gm) n μ (nI w) (nI j) s (nI (6 * w + j)) (nI v) = some (μ', nI 0) ∧ Po2 σ μ σ' μ' (6 * w + j) := by
  intro d
  induction d with
  | zero =>
    intro v n σ μ hv hn hs hd hp hsum
    obtain ⟨n, rfl⟩ : ∃ m, n = m + 1 := ⟨n - 1, by omega⟩
    obtain ⟨f1, f2, f3⟩ := hs.2.1
    have l1 : nI f ≤ nI v := nI_le (by omega) (by omega)
    rw [fX7_seek_L45, f1, if_pos l1, l83_e, f2, if_pos l1, ← hsum]
    exact k_end hj hw hG hs hd hp
  | succ d ih =>
    intro v n σ μ hv hn hs hd hp hsum
    obtain ⟨n, rfl⟩ : ∃ m, n = m + 1 := ⟨n - 1, by omega⟩
    obtain ⟨f1, f2, f3⟩ := hs.2.1
    have h3 := hs.1.2.2
    have W3 := hs.2.2.1.2.2
    have l1 : ¬ nI f ≤ nI v := nI_ge (by omega) (by omega)
    have g24 : ¬ (nI (6 * w + j) < 0 ∨ 24 ≤ 6 * w + j) := fun g => g.elim (nI_pos (by omega)) (by omega)
    have s1 : nI v + 1 = nI (v + 1) := nI_1 v
    rw [l83_e, f2, if_neg l1, nI_clamp (show 6 * w + j < 2 ^ 31 by omega), if_neg g24, hp, if_pos (show (-1 : Int32) < 0 from by decide), ← hd.1.2.1]
    by_cases c : σ 6 5 = 0
    · rw [if_pos c, fX7_seek_L45, f1, if_neg l1, if_pos c, s1, ← hsum]
      obtain ⟨σ1, μ1, z1, z2, z3⟩ := t_try (v := v) (by omega) hj hw hG hs hd c
      rw [stq z1]
      rcases z2 with z2 | ⟨z2, z4⟩
      · obtain ⟨σ', μ', y1, y2, y3⟩ := ih (v + 1) n σ1 μ1 (by omega) (by omega) (hs.fr z3.2.2.2.1 z3.2.2.2.2) z3.1 (by rw [z3.2.2.2.2.1 12 (by decide) (by decide) (by decide)]; exact hp) (z3.2.1.trans hsum)
        refine ⟨σ', μ', y1, (z2 _ _).trans ?_, z3.tr y3⟩
        rw [hsum]
        exact y2
      · obtain ⟨n, rfl⟩ : ∃ m, n = m + 1 := ⟨n - 1, by omega⟩
        exact ⟨σ1, μ1, c_stop _ _ _ (by rw [z3.1.1.2.1]; exact z4), z2 _ _, z3⟩
    · rw [if_neg c, c_stop _ _ _ c]
      refine ⟨σ, μ, rfl, ?_, Po2.rf hd⟩
      unfold mKs
      rw [nI_clamp (show 6 * w + j < 2 ^ 31 by omega), if_neg g24, hp, if_neg (show ¬ (0 : Int32) ≤ -1 from by decide), ← hd.1.2.1, if_neg c]
      rfl
theorem m_pre {Gm : St → Int32 → Int32 → Int32 → Option (St × Int32)} {μ : St} {f q p : Nat} (f2 : μ 0 13 = nI f) (f3 : f ≤ 5) (hq : q < f) (hp24 : p < 24) (hp : μ 12 p = nI q) (h0 : μ 0 35 = 0) (a1 a2 a3 : Int32) : ∀ (d v n : Nat), v + d = q → fX10_tryFrom_L83 Gm (mKs Gm) (n + d) μ a1 a2 a3 (nI p) (nI v) = fX10_tryFrom_L83 Gm (mKs Gm) n μ a1 a2 a3 (nI p) (nI q) := by
  intro d
  induction d with
  | zero =>
    intro v n hv
    have e : v = q := by omega
    rw [e]
    rfl
  | succ d ih =>
    intro v n hv
    have g24 : ¬ (nI p < 0 ∨ 24 ≤ p) := fun g => g.elim (nI_pos (by omega)) (by omega)
    rw [show n + (d + 1) = (n + d) + 1 by omega, l83_e, f2, if_neg (nI_ge (by omega) (by omega)), if_pos h0, nI_clamp (show p < 2 ^ 31 by omega), if_neg g24, hp, if_neg (nI_pos (by omega)), if_neg g24, if_neg (fun g => by have := (nI_eq (by omega) (by omega)).mp g; omega), show nI v + 1 = nI (v + 1) from nI_1 v]
    exact ih (v + 1) n (by omega)
theorem m_post {Gm : St → Int32 → Int32 → Int32 → Option (St × Int32)} {μ : St} {f q p : Nat} (f2 : μ 0 13 = nI f) (f3 : f ≤ 5) (hp24 : p < 24) (hp : μ 12 p = nI q) (hq : q < f) (a1 a2 a3 : Int32) : ∀ (d v n : Nat), v + d = f → q < v → d < n → fX10_tryFrom_L83 Gm (mKs Gm) n μ a1 a2 a3 (nI p) (nI v) = some (μ, nI 0) := by
  have g24 : ¬ (nI p < 0 ∨ 24 ≤ p) := fun g => g.elim (nI_pos (by omega)) (by omega)
  have ke : mKs Gm μ a1 a2 a3 (nI p) = some (μ, nI 0) := by
    unfold mKs
    rw [nI_clamp (show p < 2 ^ 31 by omega), if_neg g24, hp, if_pos (nI_pos' (by omega))]
    rfl
  intro d
  induction d with
  | zero =>
    intro v n hv hqv hn
    obtain ⟨n, rfl⟩ : ∃ m, n = m + 1 := ⟨n - 1, by omega⟩
    rw [l83_e, f2, if_pos (nI_le (by omega) (by omega)), ke]
  | succ d ih =>
    intro v n hv hqv hn
    obtain ⟨n, rfl⟩ : ∃ m, n = m + 1 := ⟨n - 1, by omega⟩
    rw [l83_e, f2, if_neg (nI_ge (by omega) (by omega))]
    by_cases c : μ 0 35 = 0
    · rw [if_pos c, nI_clamp (show p < 2 ^ 31 by omega), if_neg g24, hp, if_neg (nI_pos (by omega)), if_neg g24, if_neg (fun g => by have := (nI_eq (by omega) (by omega)).mp g; omega), show nI v + 1 = nI (v + 1) from nI_1 v]
      exact ih (v + 1) n (by omega) (by omega) (by omega)
    · rw [if_neg c, ke]
set_option maxRecDepth 100000 in
set_option maxHeartbeats 2000000 in
theorem t_pin {h f W w j q : Nat} {br : Nat → Nat} {Gc : St → Int32 → Option (St × Int32)} {Gm : St → Int32 → Int32 → Int32 → Option (St × Int32)} (hj : j < h) (hw : w ≤ W) (hG : GOK h f W w j br Gc Gm) {σ μ : St} (hs : PS σ μ h f W br) (hd : PD σ μ (6 * w + j)) (h0 : σ 6 5 = 0) (hq : q < f) (hp : μ 12 (6 * w + j) = nI q) : ∃ σ' μ', fX7_tryFilm Gc σ (nI (6 * w + j)) (nI q) = some (σ', nI 0) ∧ fX10_tryFrom_L83 Gm (mKs Gm) 50 μ (nI w) (nI j) (σ 6 6) (nI (6 * w + j)) (nI 0) = some (μ', nI 0) ∧ Po2 σ μ σ' μ' (6 * w + j) := by
  obtain ⟨f1, f2, f3⟩ := hs.2.1
  have h3 := hs.1.2.2
  have W3 := hs.2.2.1.2.2
  have g24 : ¬ (nI (6 * w + j) < 0 ∨ 24 ≤ 6 * w + j) := fun g => g.elim (nI_pos (by omega)) (by omega)
  have h0m : μ 0 35 = 0 := by rw [← hd.1.2.1]; exact h0
  have pre := m_pre (Gm := Gm) f2 f3 hq (show 6 * w + j < 24 by omega) hp h0m (nI w) (nI j) (σ 6 6) q 0 (50 - q) (by omega)
  rw [show 50 - q + q = 50 by omega] at pre
  rw [pre, show 50 - q = (49 - q) + 1 by omega, l83_e, f2, if_neg (nI_ge hq (by omega)), if_pos h0m, nI_clamp (show 6 * w + j < 2 ^ 31 by omega), if_neg g24, hp, if_neg (nI_pos (by omega)), if_neg g24, if_pos (show nI q = nI q from rfl)]
  obtain ⟨σ1, μ1, z1, z2, z3⟩ := t_try (v := q) (by omega) hj hw hG hs hd h0
  rcases z2 with z2 | ⟨z2, z4⟩
  · refine ⟨σ1, μ1, z1, (z2 _ _).trans ?_, z3⟩
    show fX10_tryFrom_L83 Gm (mKs Gm) (49 - q) μ1 (nI w) (nI j) (σ 6 6) (nI (6 * w + j)) (nI q + 1) = _
    rw [show nI q + 1 = nI (q + 1) from nI_1 q]
    refine m_post (f := f) (q := q) ?_ f3 (by omega) ?_ hq _ _ _ (f - (q + 1)) (q + 1) (49 - q) (by omega) (by omega) (by omega)
    · rw [z3.2.2.2.2.2 13 (by decide) (by decide) (by decide)]
      exact f2
    · rw [z3.2.2.2.2.1 12 (by decide) (by decide) (by decide)]
      exact hp
  · exact ⟨σ1, μ1, z1, z2 _ _, z3⟩
def nxq (h : Nat) : Nat → Nat → Nat
  | 0, _ => 24
  | d + 1, q => if q % 6 < h then q else nxq h d (q + 1)
theorem nxq_s (h d q : Nat) : nxq h (d + 1) q = if q % 6 < h then q else nxq h d (q + 1) := rfl
theorem c_nx {σ : St} {h W : Nat} (h1 : σ 1 5 = nI h) (h3 : h ≤ 6) (hW : W ≤ 3) : ∀ (d q n : Nat), q + d = 6 * (W + 1) → d < n → fX7_nextPlace_L14 n σ (nI (6 * (W + 1))) (nI q) = some (σ, nI (nxq h d q)) := by
  intro d
  induction d with
  | zero =>
    intro q n hq hn
    obtain ⟨n, rfl⟩ : ∃ m, n = m + 1 := ⟨n - 1, by omega⟩
    rw [fX7_nextPlace_L14, if_pos (nI_le (by omega) (by omega))]
    rfl
  | succ d ih =>
    intro q n hq hn
    obtain ⟨n, rfl⟩ : ∃ m, n = m + 1 := ⟨n - 1, by omega⟩
    have md : nI q - nI q / 6 * 6 = nI (q % 6) := by
      rw [show (6 : Int32) = nI 6 from rfl, pk_rem (by omega) (by decide) (by decide)]
    rw [fX7_nextPlace_L14, if_neg (nI_ge (by omega) (by omega)), md, nxq_s]
    by_cases c : q % 6 < h
    · rw [st1 (c_has1 h1 h3 c), if_pos c]
    · rw [st0 (c_has0 h1 (Or.inr ⟨nI_pos (by omega), nI_le (by omega) (by omega)⟩)), if_neg c, show nI q + 1 = nI (q + 1) from nI_1 q]
      exact ih (q + 1) n (by omega) (by omega)
theorem c_next {σ : St} {h W : Nat} (h1 : σ 1 5 = nI h) (h3 : h ≤ 6) (hw : σ 6 3 = nI W) (hW : W ≤ 3) {q : Nat} (hq : q ≤ 6 * (W + 1)) : fX7_nextPlace σ (nI q) = some (σ, nI (nxq h (6 * (W + 1) - q) q)) := by
  have pl : fX9_place σ ((σ 6 3) + 1) 0 = some (σ, nI (6 * (W + 1))) := by
    unfold fX9_place
    rw [hw, show nI W + 1 = nI (W + 1) from nI_1 W, show (6 : Int32) = nI 6 from rfl, pk_mul, show nI (6 * (W + 1)) + 0 = nI (6 * (W + 1)) from add0 _]
  unfold fX7_nextPlace
  rw [stq pl]
  exact c_nx h1 h3 hW _ q 50 (by omega) (by omega)
theorem nx_in {h W w j : Nat} (hw : w ≤ W) (hj : j < h) (h6 : h ≤ 6) : nxq h (6 * (W + 1) - (6 * w + j)) (6 * w + j) = 6 * w + j := by
  obtain ⟨d, e⟩ : ∃ d, 6 * (W + 1) - (6 * w + j) = d + 1 := ⟨6 * (W + 1) - (6 * w + j) - 1, by omega⟩
  rw [e, nxq_s, if_pos (by omega)]
theorem nx_sk {h W w : Nat} (hw : w ≤ W) : ∀ (e j : Nat), j + e = 6 → h ≤ j → nxq h (6 * (W + 1) - (6 * w + j)) (6 * w + j) = nxq h (6 * (W + 1) - 6 * (w + 1)) (6 * (w + 1)) := by
  intro e
  induction e with
  | zero =>
    intro j hj hh
    rw [show 6 * w + j = 6 * (w + 1) by omega]
  | succ e ih =>
    intro j hj hh
    have nx := ih (j + 1) (by omega) (by omega)
    rw [← nx, show 6 * (W + 1) - (6 * w + j) = 6 * (W + 1) - (6 * w + (j + 1)) + 1 by omega, nxq_s, if_neg (by omega)]
    rfl
theorem m_44 (G : St → Int32 → Int32 → Int32 → Option (St × Int32)) : ∀ (d i n : Nat) (μ : St), i + d = 24 → d < n → (∀ t, t < i → μ 25 t = μ 24 t) → ∃ μ', fX10_tryFrom_L44 G n μ (nI i) = some (μ', nI 0) ∧ (∀ c, ¬ c = 25 → μ' c = μ c) ∧ ∀ t, t < 24 → μ' 25 t = μ 24 t := by
  intro d
  induction d with
  | zero =>
    intro i n μ hi hn hs
    obtain ⟨n, rfl⟩ : ∃ m, n = m + 1 := ⟨n - 1, by omega⟩
    have e : i = 24 := by omega
    subst e
    rw [fX10_tryFrom_L44, if_pos (show (24 : Int32) ≤ nI 24 from by decide)]
    exact ⟨μ, rfl, fun _ _ => rfl, hs⟩
  | succ d ih =>
    intro i n μ hi hn hs
    obtain ⟨n, rfl⟩ : ∃ m, n = m + 1 := ⟨n - 1, by omega⟩
    have g24 : ¬ (nI i < 0 ∨ 24 ≤ i) := fun g => g.elim (nI_pos (by omega)) (by omega)
    obtain ⟨μ', y1, y2, y3⟩ := ih (i + 1) n (up μ 25 i (μ 24 i)) (by omega) (by omega) (by
      intro t ht
      rw [up_at, up_ne _ _ _ (by decide)]
      by_cases e : t = i
      · subst e; rw [upd_at]
      · rw [upd_ne _ _ e]; exact hs t (by omega))
    refine ⟨μ', ?_, fun c hc => by rw [y2 c hc, up_ne _ _ _ hc], fun t ht => by rw [y3 t ht, up_ne _ _ _ (by decide)]⟩
    rw [fX10_tryFrom_L44, if_neg (show ¬ (24 : Int32) ≤ nI i from nI_ge (b := 24) (by omega) (by decide)), nI_clamp (show i < 2 ^ 31 by omega), if_neg g24, if_neg g24, stp, show nI i + 1 = nI (i + 1) from nI_1 i]
    exact y1
theorem cp24 {u w : Nat → Int32} {t : Nat} (ht : t < 24) : va_cpy u w (Int32.toNatClampNeg 0) (Int32.toNatClampNeg 0) (Int32.toNatClampNeg 24) t = u t := by
  have e : va_cpy u w 0 0 24 t = u (0 + (t - 0)) := if_pos ⟨by omega, by omega⟩
  rw [show 0 + (t - 0) = t by omega] at e
  exact e
set_option maxRecDepth 100000 in
set_option maxHeartbeats 2000000 in
theorem t_sk {h f W : Nat} {br : Nat → Nat} : ∀ (Fm Fc w j : Nat), 26 ≤ Fc + (6 * w + j) → 32 ≤ Fm + (7 * w + j) → w ≤ W → j ≤ h → ∀ (σ μ : St) (s : Int32), PS σ μ h f W br → PD σ μ (6 * w + j) → σ 6 5 = 0 → σ 6 6 = s → ∃ σ' μ', fX7_seekR Fc σ (nI (6 * w + j)) = some (σ', nI 0) ∧ fX10_tryFromR Fm μ (nI w) (nI j) s = some (μ', nI 0) ∧ Po2 σ μ σ' μ' (6 * w + j) := by
  intro Fm
  induction Fm with
  | zero =>
    intro Fc w j h1 h2 hw hj σ μ s hs
    have h3 := hs.1.2.2
    have W3 := hs.2.2.1.2.2
    omega
  | succ Fm ih =>
    intro Fc w j hc hm hw hj σ μ s hs hd h0 hsum
    obtain ⟨⟨h1, h2, h3⟩, ⟨f1, f2, f3⟩, ⟨w1, w2, W3⟩, -, -, pins⟩ := id hs
    obtain ⟨F, rfl⟩ : ∃ F, Fc = F + 1 := ⟨Fc - 1, by omega⟩
    have nx := c_next h1 h3 w1 W3 (q := 6 * w + j) (by omega)
    have eC : ∀ q : Int32, fX7_seekR (F + 1) σ q = fX7_seek (fX7_seekR F) σ q := fun _ => rfl
    have eM : fX10_tryFromR (Fm + 1) μ (nI w) (nI j) s = fX10_tryFrom (fX10_tryFromR Fm) μ (nI w) (nI j) s := rfl
    by_cases cj : j < h
    · have hG : GOK h f W w j br (fX7_seekR F) (fX10_tryFromR Fm) := fun σ μ s a b c d => by
        have := ih F w (j + 1) (by omega) (by omega) hw (by omega) σ μ s a b c d
        exact this
      rw [nx_in hw cj h3] at nx
      have ix : (6 : Int32) * nI w + nI j = nI (6 * w + j) := by
        rw [show (6 : Int32) = nI 6 from rfl, pk_mul, nI_add]
      have g24 : ¬ (nI (6 * w + j) < 0 ∨ 24 ≤ 6 * w + j) := fun g => g.elim (nI_pos (by omega)) (by omega)
      rw [eC, eM]
      unfold fX7_seek fX10_tryFrom
      rw [stq nx, if_pos (show nI (6 * w + j) < 24 from nI_lt (b := 24) (by omega) (by decide)), nI_clamp (show 6 * w + j < 2 ^ 31 by omega), if_neg g24, itp, h2, if_neg (show ¬ nI j = nI h from fun g => by have := (nI_eq (by omega) (by omega)).mp g; omega), itp, ix]
      rcases pins (6 * w + j) (by omega) with ⟨p1, p2⟩ | ⟨q, hq, p1, p2⟩
      · rw [p1, if_pos (show (-1000000005 : Int32) = -1000000005 from rfl)]
        exact t_free cj hw hG s f 0 50 σ μ (by omega) (by omega) hs hd p2 hsum
      · rw [p1, if_neg (nI_neg q (by omega) (-1000000005) (by decide)), ← hsum]
        obtain ⟨σ', μ', z1, z2, z3⟩ := t_pin cj hw hG hs hd h0 hq p2
        rw [stq z1]
        exact ⟨σ', μ', rfl, z2, z3⟩
    · have ej : j = h := by omega
      rw [nx_sk hw (6 - j) j (by omega) (by omega)] at nx
      rw [eM]
      unfold fX10_tryFrom
      rw [h2, if_pos (show nI j = nI h by rw [ej]), w2]
      by_cases cw : W ≤ w
      · have ew : w = W := by omega
        rw [ew, Nat.sub_self] at nx
        rw [eC]
        unfold fX7_seek
        rw [ew, stq nx, if_neg (show ¬ nI (nxq h 0 (6 * (W + 1))) < 24 from by show ¬ nI 24 < 24; decide), if_pos (nI_le (Nat.le_refl W) (by omega))]
        unfold fX7_keepIfBetter
        rw [hsum, hd.1.2.2]
        rw [ew] at hd
        by_cases cb : s ≤ μ 0 32
        · rw [if_pos cb, if_pos cb]
          exact ⟨σ, μ, rfl, rfl, Po2.rf hd⟩
        · rw [if_neg cb, if_neg cb, stp, stp, stp]
          obtain ⟨μ', y1, y2, y3⟩ := m_44 (fX10_tryFromR Fm) 24 0 50 (up μ 0 32 s) (by omega) (by omega) (fun t ht => absurd ht (by omega))
          refine ⟨_, μ', rfl, y1, ⟨⟨?_, ?_, ?_⟩, Or.inr ?_, ?_, ?_, ?_⟩, rfl, ?_, ⟨fun c k1 k2 k3 k4 => ?_, rfl⟩, fun c k1 k2 k3 => ?_, fun t t1 t2 t3 => ?_⟩
          · rw [y2 0 (by decide), up_at, upd_ne _ _ (by decide)]
            exact hd.1.1
          · rw [y2 0 (by decide), up_at, upd_ne _ _ (by decide)]
            exact hd.1.2.1
          · rw [y2 0 (by decide), up_at, upd_at]
            rfl
          · intro t ht
            have e1 : va_cpy (σ 37) (σ 38) (Int32.toNatClampNeg 0) (Int32.toNatClampNeg 0) (Int32.toNatClampNeg 24) t = σ 37 t := cp24 ht
            have e2 : μ' 25 t = μ 24 t := by
              rw [y3 t ht, up_ne _ _ _ (by decide)]
            rw [e2]
            have := hd.2.2.1 t ht
            rw [← e1] at this
            exact this
          · rw [y2 24 (by decide), up_ne _ _ _ (by decide)]
            exact hd.2.2.1
          · rw [y2 24 (by decide), up_ne _ _ _ (by decide)]
            exact hd.2.2.2.1
          · rw [y2 24 (by decide), up_ne _ _ _ (by decide)]
            exact hd.2.2.2.2
          · intro q hq
            rw [y2 24 (by decide), up_ne _ _ _ (by decide)]
          · show (cu (up σ 6 7 s) 38 _) c = σ c
            rw [cu_ne _ _ k3, up_ne _ _ _ k1]
          · rw [y2 c k3, up_ne _ _ _ k1]
          · rw [y2 0 (by decide), up_at, upd_ne _ _ t1]
      · rw [if_neg (nI_ge (by omega) (by omega)), show nI w + 1 = nI (w + 1) from nI_1 w]
        have nx2 : fX7_nextPlace σ (nI (6 * (w + 1) + 0)) = some (σ, nI (nxq h (6 * (W + 1) - 6 * (w + 1)) (6 * (w + 1)))) := c_next h1 h3 w1 W3 (q := 6 * (w + 1)) (by omega)
        have same : fX7_seekR (F + 1) σ (nI (6 * w + j)) = fX7_seekR (F + 1) σ (nI (6 * (w + 1) + 0)) := by
          rw [eC, eC]
          unfold fX7_seek
          rw [stq nx, stq nx2]
        have front : ∀ {τ ρ : St}, PD τ ρ (6 * w + j) → PD τ ρ (6 * (w + 1) + 0) := fun g => ⟨g.1, g.2.1, g.2.2.1, g.2.2.2.1, fun q q1 q2 => g.2.2.2.2 q (by omega) q2⟩
        obtain ⟨σ', μ', z1, z2, z3⟩ := ih (F + 1) (w + 1) 0 (by omega) (by omega) (by omega) (by omega) σ μ s hs (front hd) h0 hsum
        have z2' : fX10_tryFromR Fm μ (nI (w + 1)) 0 s = some (μ', nI 0) := z2
        rw [same, stq z2']
        refine ⟨σ', μ', z1, rfl, ⟨z3.1.1, z3.1.2.1, z3.1.2.2.1, z3.1.2.2.2.1, fun q q1 q2 => ?_⟩, z3.2⟩
        rw [z3.2.2.1 q q2]
        exact hd.2.2.2.2 q q1 q2
theorem m_23 (p0 p1 : Int32) : ∀ (d i n : Nat) (μ : St), i + d = 24 → d < n → (∀ t, t < i → μ 24 t = -1) → ∃ μ', (∀ K, fX10_plan_L23 K n μ p0 p1 (nI i) = K μ' p0 p1) ∧ (∀ c, ¬ c = 24 → μ' c = μ c) ∧ ∀ t, t < 24 → μ' 24 t = -1 := by
  intro d
  induction d with
  | zero =>
    intro i n μ hi hn hs
    obtain ⟨n, rfl⟩ : ∃ m, n = m + 1 := ⟨n - 1, by omega⟩
    have e : i = 24 := by omega
    subst e
    refine ⟨μ, fun K => ?_, fun _ _ => rfl, hs⟩
    rw [fX10_plan_L23, if_pos (show (24 : Int32) ≤ nI 24 from by decide)]
  | succ d ih =>
    intro i n μ hi hn hs
    obtain ⟨n, rfl⟩ : ∃ m, n = m + 1 := ⟨n - 1, by omega⟩
    have g24 : ¬ (nI i < 0 ∨ 24 ≤ i) := fun g => g.elim (nI_pos (by omega)) (by omega)
    obtain ⟨μ', y1, y2, y3⟩ := ih (i + 1) n (up μ 24 i (-1)) (by omega) (by omega) (by
      intro t ht
      rw [up_at]
      by_cases e : t = i
      · subst e; rw [upd_at]
      · rw [upd_ne _ _ e]; exact hs t (by omega))
    refine ⟨μ', fun K => ?_, fun c hc => by rw [y2 c hc, up_ne _ _ _ hc], y3⟩
    rw [fX10_plan_L23, if_neg (show ¬ (24 : Int32) ≤ nI i from nI_ge (b := 24) (by omega) (by decide)), nI_clamp (show i < 2 ^ 31 by omega), if_neg g24, stp, show nI i + 1 = nI (i + 1) from nI_1 i]
    exact y1 K
theorem m_91 : ∀ (d i n : Nat) (μ : St), i + d = 24 → d < n → (∀ t, t < i → μ 13 t = μ 25 t) → ∃ μ', fX10_plan_L91 n μ (nI i) = some (μ', μ 0 32) ∧ (∀ c, ¬ c = 13 → μ' c = μ c) ∧ ∀ t, t < 24 → μ' 13 t = μ 25 t := by
  intro d
  induction d with
  | zero =>
    intro i n μ hi hn hs
    obtain ⟨n, rfl⟩ : ∃ m, n = m + 1 := ⟨n - 1, by omega⟩
    have e : i = 24 := by omega
    subst e
    rw [fX10_plan_L91, if_pos (show (24 : Int32) ≤ nI 24 from by decide)]
    exact ⟨μ, rfl, fun _ _ => rfl, hs⟩
  | succ d ih =>
    intro i n μ hi hn hs
    obtain ⟨n, rfl⟩ : ∃ m, n = m + 1 := ⟨n - 1, by omega⟩
    have g24 : ¬ (nI i < 0 ∨ 24 ≤ i) := fun g => g.elim (nI_pos (by omega)) (by omega)
    obtain ⟨μ', y1, y2, y3⟩ := ih (i + 1) n (up μ 13 i (μ 25 i)) (by omega) (by omega) (by
      intro t ht
      rw [up_at, up_ne _ _ _ (by decide)]
      by_cases e : t = i
      · subst e; rw [upd_at]
      · rw [upd_ne _ _ e]; exact hs t (by omega))
    refine ⟨μ', ?_, fun c hc => by rw [y2 c hc, up_ne _ _ _ hc], fun t ht => by rw [y3 t ht, up_ne _ _ _ (by decide)]⟩
    rw [fX10_plan_L91, if_neg (show ¬ (24 : Int32) ≤ nI i from nI_ge (b := 24) (by omega) (by decide)), nI_clamp (show i < 2 ^ 31 by omega), if_neg g24, if_neg g24, stp, show nI i + 1 = nI (i + 1) from nI_1 i]
    exact y1
def clC (σ : St) (p0 p1 : Int32) : St := up (up (up (up (up (cu (cu σ 37 (fl (σ 37) 24 (-1000000005))) 39 (fl ((cu σ 37 (fl (σ 37) 24 (-1000000005))) 39) 30 0)) 6 3 p0) 6 4 p1) 6 5 0) 6 6 0) 6 7 (-1)
def clM (μ : St) (p0 p1 : Int32) : St := up (up (up (up μ 0 32 (-1)) 0 33 p0) 0 34 p1) 0 35 0
theorem RR_36 {σ μ : St} {h r k f : Nat} (hRR : RR σ μ h r k f) {τ : Nat → Int32} {μ' : St} (hm : ∀ c, ¬ c = 13 → μ' c = μ c) (q : qN 5 τ (μ' 13)) : RR (cu σ 36 τ) μ' h r k f := by
  obtain ⟨⟨h1, h2, h3⟩, ⟨r1, r2, r3⟩, ⟨k1, k2, k3⟩, ⟨f1, f2, f3⟩, A1, A2, A3, A4, A5, A6, A7, A8, A9, A10, A11, A12, A13, A14, A15, A16⟩ := hRR
  unfold RR
  rw [hm 0 (by decide), hm 1 (by decide), hm 2 (by decide), hm 3 (by decide), hm 4 (by decide), hm 5 (by decide), hm 6 (by decide), hm 7 (by decide), hm 8 (by decide), hm 9 (by decide), hm 10 (by decide), hm 11 (by decide), hm 12 (by decide), hm 14 (by decide), hm 15 (by decide)]
  exact ⟨⟨h1, h2, h3⟩, ⟨r1, r2, r3⟩, ⟨k1, k2, k3⟩, ⟨f1, f2, f3⟩, A1, A2, A3, A4, A5, A6, A7, A8, A9, A10, A11, A12, q, A14, A15, A16⟩
set_option maxRecDepth 100000 in
set_option maxHeartbeats 4000000 in
theorem s_plan {σ μ : St} (hR : Rg σ μ) (p0 p1 : Int32) : Sm (fX9_plan σ p0 p1) (fX10_plan μ p0 p1) := by
  obtain ⟨h, r, k, f, hRR⟩ := id hR
  unfold fX9_plan fX10_plan
  rcases cs4' p0 0 3 (by decide) (by decide) with c | ⟨W, _, hW, rfl⟩
  · rw [st0 (c_wk0 σ c), st0 (m_wk0 μ c)]
    exact Sm.mk rfl hR
  rw [st1 (c_wk1 σ hW), st1 (m_wk1 μ hW)]
  rcases cs4' p1 1 20000 (by decide) (by decide) with c | ⟨t, t1, t2, rfl⟩
  · rw [st0 (show fX9_within σ p1 1 20000 = some (σ, nI 0) from c_in0 σ (lo := 1) (hi := 20000) c), st0 (show fX10_isIn μ p1 1 20000 = some (μ, nI 0) from m_in0 μ (lo := 1) (hi := 20000) c)]
    exact Sm.mk rfl hR
  rw [st1 (show fX9_within σ (nI t) 1 20000 = some (σ, nI 1) from c_in1 σ (lo := 1) (hi := 20000) t1 t2 (by decide)), st1 (show fX10_isIn μ (nI t) 1 20000 = some (μ, nI 1) from m_in1 μ (lo := 1) (hi := 20000) t1 t2 (by decide))]
  have hRR0 := hRR
  obtain ⟨⟨h1, h2, h3⟩, -, -, ⟨f1, f2, f3⟩, -, -, -, -, -, ⟨A6, A6b⟩, -, -, -, -, A11, A12, -⟩ := hRR0
  obtain ⟨μ1, y1, y2, y3⟩ := m_23 (nI W) (nI t) 24 0 50 μ (by omega) (by omega) (fun t ht => absurd ht (by omega))
  have hs : PS (clC σ (nI W) (nI t)) (clM μ1 (nI W) (nI t)) h f W (fun i => nv (μ 6 i)) := by
    have m0 : ∀ i, i < 32 → (clM μ1 (nI W) (nI t)) 0 i = μ 0 i := by
      intro i hi
      unfold clM
      rw [up_at, upd_ne _ _ (by omega), up_at, upd_ne _ _ (by omega), up_at, upd_ne _ _ (by omega), up_at, upd_ne _ _ (by omega), y2 0 (by decide)]
    have mc : ∀ c, ¬ c = 0 → ¬ c = 24 → (clM μ1 (nI W) (nI t)) c = μ c := by
      intro c k1 k2
      unfold clM
      rw [up_ne _ _ _ k1, up_ne _ _ _ k1, up_ne _ _ _ k1, up_ne _ _ _ k1, y2 c k2]
    have w33 : (clM μ1 (nI W) (nI t)) 0 33 = nI W := rfl
    unfold PS
    rw [m0 0 (by decide), m0 13 (by decide), w33, mc 6 (by decide) (by decide), mc 11 (by decide) (by decide), mc 12 (by decide) (by decide)]
    refine ⟨⟨h1, h2, h3⟩, ⟨f1, f2, f3⟩, ⟨rfl, rfl, hW⟩, ⟨fun j hj => ?_, fun j hj => ?_⟩, A11, A12⟩
    · obtain ⟨b1, b2, _, b4⟩ := A6.val (by decide) j hj
      exact ⟨b1, b2, b4⟩
    · obtain ⟨b1, b2, _, b4⟩ := A6.val (by decide) (7 * j) (by omega)
      have e := A6b j hj
      rw [b1] at e
      show nv (μ 6 (7 * j)) = 0
      exact (nI_eq (by omega) (by decide)).mp e
  have hd : PD (clC σ (nI W) (nI t)) (clM μ1 (nI W) (nI t)) (6 * 0 + 0) := by
    refine ⟨⟨rfl, rfl, rfl⟩, Or.inl rfl, fun i hi => Or.inl ⟨?_, y3 i hi⟩, fun v hv j hj => ?_, fun q _ hq => y3 q hq⟩
    · show (if i < 24 then _ else _) = _
      rw [if_pos hi]
    · have e : wb (μ1 24) v j = 0 := by
        have := (wb_div (μ1 24) v j (t := 0) (by omega)).mpr (fun u hu _ => by rw [y3 _ (by omega)]; exact ne_m1 (by omega))
        omega
      show (if 6 * v + j < 30 then _ else _) = nI (wb (μ1 24) v j)
      rw [if_pos (by omega), e]
      rfl
  obtain ⟨σ', μ', z1, z2, z3⟩ := t_sk 32 26 0 0 (by omega) (by omega) (by omega) (by omega) (clC σ (nI W) (nI t)) (clM μ1 (nI W) (nI t)) 0 hs hd rfl rfl
  have z1' : fX7_seekR 26 (clC σ (nI W) (nI t)) 0 = some (σ', nI 0) := z1
  have z2' : fX10_tryFromR 32 (clM μ1 (nI W) (nI t)) 0 0 0 = some (μ', nI 0) := z2
  have sc : scrC σ σ' := fun c hc => by
    rw [z3.2.2.2.1.1 c (by omega) (by omega) (by omega) (by omega)]
    unfold clC
    rw [up_ne _ _ _ (by omega), up_ne _ _ _ (by omega), up_ne _ _ _ (by omega), up_ne _ _ _ (by omega), up_ne _ _ _ (by omega), cu_ne _ _ (by omega), cu_ne _ _ (by omega)]
  have sm : scrM μ μ' := by
    refine ⟨fun c c1 c2 => ?_, fun i hi => ?_⟩
    · rw [z3.2.2.2.2.1 c (by omega) (by omega) (by omega)]
      unfold clM
      rw [up_ne _ _ _ (by omega), up_ne _ _ _ (by omega), up_ne _ _ _ (by omega), up_ne _ _ _ (by omega), y2 c (by omega)]
    · rw [z3.2.2.2.2.2 i (by omega) (by omega) (by omega)]
      unfold clM
      rw [up_at, upd_ne _ _ (by omega), up_at, upd_ne _ _ (by omega), up_at, upd_ne _ _ (by omega), up_at, upd_ne _ _ (by omega), y2 0 (by decide)]
  have hRR' := hRR.scr sc sm
  have hR' : Rg σ' μ' := ⟨h, r, k, f, hRR'⟩
  have mp : fX0_makePlan σ (nI W) (nI t) = (if (σ' 6 5) = 0 then (if 0 ≤ (σ' 6 7) then stp (cu σ' 36 (va_cpy (σ' 38) (σ' 36) (Int32.toNatClampNeg 0) (Int32.toNatClampNeg 0) (Int32.toNatClampNeg 24))) fun σ9 => some (σ9, (σ9 6 7)) else some (σ', (-1000000002))) else some (σ', (-1000000004))) := by
    unfold fX0_makePlan
    rw [stq (show fX7_clear σ (nI W) (nI t) = some (clC σ (nI W) (nI t), nI 0) from rfl), stq z1']
  have mm : ∀ K, fX10_plan_L23 K 50 μ (nI W) (nI t) 0 = K μ1 (nI W) (nI t) := y1
  rw [mm]
  rw [stp, stp, stp, stp, show up (up (up (up μ1 0 32 (-1)) 0 33 (nI W)) 0 34 (nI t)) 0 35 0 = clM μ1 (nI W) (nI t) from rfl]
  rw [mp, stq z2', ← z3.1.1.2.1, ← z3.1.1.2.2]
  by_cases c5 : σ' 6 5 = 0
  · rw [if_pos c5, if_pos c5]
    by_cases c7 : 0 ≤ σ' 6 7
    · rw [if_pos c7, if_pos c7, stp, obn_some]
      obtain ⟨μ2, w1, w2, w3⟩ := m_91 24 0 50 μ' (by omega) (by omega) (fun t ht => absurd ht (by omega))
      have w1' : fX10_plan_L91 50 μ' 0 = some (μ2, μ' 0 32) := w1
      rw [w1']
      refine Sm.mk z3.1.1.2.2 ⟨h, r, k, f, RR_36 hRR' w2 ?_⟩
      intro i hi
      rw [cp24 hi, w3 i hi]
      rcases z3.1.2.1 with e | e
      · rw [e] at c7
        exact absurd c7 (by decide)
      · exact e i hi
    · rw [if_neg c7, if_neg c7, obn_some]
      exact Sm.mk rfl hR'
  · rw [if_neg c5, if_neg c5, obn_some]
    exact Sm.mk rfl hR'
