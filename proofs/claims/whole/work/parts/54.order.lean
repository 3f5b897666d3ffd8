def rs (v : Nat) : Nat → Nat
  | 0 => v
  | i + 1 => rs v i / 7
abbrev Dg (v i : Nat) : Nat := rs v i % 7
theorem rs_lt {v : Nat} (hv : v < 2 ^ 31) : ∀ i, rs v i < 2 ^ 31 := by
  intro i
  induction i with
  | zero => exact hv
  | succ i ih =>
    show rs v i / 7 < 2 ^ 31
    omega
theorem rs_12 {v : Nat} (hv : v < 2 ^ 31) : rs v 12 = 0 := by
  show v / 7 / 7 / 7 / 7 / 7 / 7 / 7 / 7 / 7 / 7 / 7 / 7 = 0
  omega
theorem rs_0 {v n : Nat} (h : rs v n = 0) : ∀ d, rs v (n + d) = 0 := by
  intro d
  induction d with
  | zero => exact h
  | succ d ih =>
    show rs v (n + d) / 7 = 0
    rw [ih]
def okD (v h i : Nat) : Prop := 1 ≤ Dg v i ∧ Dg v i ≤ h ∧ ∀ j, j < i → ¬ Dg v j = Dg v i
def ACo (v h n : Nat) : Prop := n ≤ 6 ∧ ∀ i, i < n → okD v h i
def isN (v n : Nat) : Prop := rs v n = 0 ∧ ∀ j, j < n → ¬ rs v j = 0
theorem isN_12 {v n : Nat} (hv : v < 2 ^ 31) (h : isN v n) : n ≤ 12 := by
  rcases Nat.lt_or_ge 12 n with g | g
  · exact absurd (rs_12 hv) (h.2 12 g)
  · exact g
theorem isN_le {v n i : Nat} (h : isN v n) (e : rs v i = 0) : n ≤ i := by
  rcases Nat.lt_or_ge i n with g | g
  · exact absurd e (h.2 i g)
  · exact g
theorem bm1 : ∀ s, s < 64 → ∀ b, b < 6 → ((((nI s >>> (nI b &&& 31)) &&& 1) = 1) ↔ Nat.testBit s b = true) := by decide +kernel
theorem bm2 : ∀ s, s < 64 → ∀ b, b < 6 → (nI s ||| (1 <<< (nI b &&& 31))) = nI (s ||| 2 ^ b) ∧ s ||| 2 ^ b < 64 := by decide +kernel
theorem bm3 : ∀ s, s < 64 → ∀ b, b < 6 → ∀ c, c < 6 → (Nat.testBit (s ||| 2 ^ b) c = true ↔ (Nat.testBit s c = true ∨ c = b)) := by decide +kernel
theorem dg_m1 {D : Nat} (h : 1 ≤ D) : nI D - 1 = nI (D - 1) := by
  obtain ⟨q, rfl⟩ : ∃ q, D = q + 1 := ⟨D - 1, by omega⟩
  exact nI_pred q
theorem d7 {a : Nat} (h : a < 2 ^ 31) : nI a / 7 = nI (a / 7) := pk_div (d := 7) h (by decide) (by decide)
theorem m7 {a : Nat} (h : a < 2 ^ 31) : nI a - nI a / 7 * 7 = nI (a % 7) := pk_rem (d := 7) h (by decide) (by decide)
def cKo : St → Int32 → Option (St × Int32) := fun (σ12 : St) (a13 : Int32) =>
        if a13 = 0 then
          some (σ12, 1)
        else
          some (σ12, 0)
set_option maxRecDepth 100000 in
set_option maxHeartbeats 4000000 in
theorem c_canL {σ : St} {v n h : Nat} (hv : v < 2 ^ 31) (hn : isN v n) (h1 : σ 1 5 = nI h) (h3 : h ≤ 6) : ∀ (d i m s : Nat), i + d = 6 → d < m → i ≤ n → s < 64 → (∀ j, j < i → okD v h j) → (∀ b, b < 6 → (Nat.testBit s b = true ↔ ∃ j, j < i ∧ Dg v j = b + 1)) → ∃ x, fX2_canBeOrder_L13 cKo m σ (nI s) (nI (rs v i)) (nI i) = some (σ, x) ∧ ((x = nI 1 ∧ ACo v h n) ∨ (x = nI 0 ∧ ¬ ACo v h n)) := by
  have rl := rs_lt hv
  intro d
  induction d with
  | zero =>
    intro i m s hi hm hin hs hok hbit
    obtain ⟨m, rfl⟩ : ∃ q, m = q + 1 := ⟨m - 1, by omega⟩
    have e : i = 6 := by omega
    subst e
    rw [fX2_canBeOrder_L13, if_pos (show (6 : Int32) ≤ nI 6 from by decide)]
    by_cases c : rs v 6 = 0
    · refine ⟨nI 1, ?_, Or.inl ⟨rfl, isN_le hn c, fun i hi => hok i (by have := isN_le hn c; omega)⟩⟩
      rw [c]
      rfl
    · refine ⟨nI 0, ?_, Or.inr ⟨rfl, fun g => c ?_⟩⟩
      · show (if nI (rs v 6) = 0 then _ else _) = _
        rw [if_neg (nI_ne0 (by omega) (rl 6))]
        rfl
      · have : n = 6 := by have := g.1; omega
        rw [← this]; exact hn.1
  | succ d ih =>
    intro i m s hi hm hin hs hok hbit
    obtain ⟨m, rfl⟩ : ∃ q, m = q + 1 := ⟨m - 1, by omega⟩
    rw [fX2_canBeOrder_L13, if_neg (show ¬ (6 : Int32) ≤ nI i from nI_ge (b := 6) (by omega) (by decide))]
    by_cases c : rs v i = 0
    · rw [if_pos (show nI (rs v i) ≤ 0 from by rw [c]; decide)]
      have e := isN_le hn c
      refine ⟨nI 1, ?_, Or.inl ⟨rfl, by omega, fun i hi => hok i (by omega)⟩⟩
      rw [c]
      rfl
    have hin' : i < n := by
      rcases Nat.lt_or_ge i n with g | g
      · exact g
      · exact absurd (by have : i = n := by omega
                         rw [this]; exact hn.1) c
    rw [if_neg (nI_nle (by omega) (rl i)), itp, m7 (rl i)]
    have dl : Dg v i < 7 := Nat.mod_lt _ (by decide)
    by_cases c1 : 1 ≤ Dg v i ∧ Dg v i ≤ h
    · rw [dg_m1 c1.1, st1 (c_has1 (j := Dg v i - 1) h1 h3 (by omega))]
      have b1 := bm1 s hs (Dg v i - 1) (by omega)
      have b2 := bm2 s hs (Dg v i - 1) (by omega)
      by_cases c2 : Nat.testBit s (Dg v i - 1) = true
      · rw [if_pos (b1.mpr c2)]
        obtain ⟨j, j1, j2⟩ := (hbit _ (by omega)).mp c2
        exact ⟨nI 0, rfl, Or.inr ⟨rfl, fun g => (g.2 i hin').2.2 j j1 (by omega)⟩⟩
      · rw [if_neg (fun g => c2 (b1.mp g)), itp, itp, b2.1, d7 (rl i), show nI i + 1 = nI (i + 1) from nI_1 i]
        refine ih (i + 1) m (s ||| 2 ^ (Dg v i - 1)) (by omega) (by omega) (by omega) b2.2 (fun j hj => ?_) (fun b hb => ?_)
        · by_cases ej : j = i
          · subst ej
            refine ⟨c1.1, c1.2, fun t ht et => c2 ((hbit _ (by omega)).mpr ⟨t, ht, by omega⟩)⟩
          · exact hok j (by omega)
        · rw [bm3 s hs _ (by omega) b hb, hbit b hb]
          constructor
          · rintro (⟨j, j1, j2⟩ | rfl)
            · exact ⟨j, by omega, j2⟩
            · exact ⟨i, by omega, by omega⟩
          · rintro ⟨j, j1, j2⟩
            by_cases ej : j = i
            · subst ej
              exact Or.inr (by omega)
            · exact Or.inl ⟨j, by omega, j2⟩
    · have c0 : (nI (Dg v i) - 1) < nI 0 ∨ (¬ (nI (Dg v i) - 1) < nI 0 ∧ nI h ≤ (nI (Dg v i) - 1)) := by
        by_cases g : Dg v i = 0
        · left
          rw [g]
          decide
        · right
          rw [dg_m1 (by omega)]
          exact ⟨nI_pos (by omega), nI_le (by omega) (by omega)⟩
      rw [st0 (c_has0 h1 c0)]
      exact ⟨nI 0, rfl, Or.inr ⟨rfl, fun g => c1 ⟨(g.2 i hin').1, (g.2 i hin').2.1⟩⟩⟩
theorem c_can {σ : St} {v n h : Nat} (hv : v < 2 ^ 31) (hn : isN v n) (h1 : σ 1 5 = nI h) (h3 : h ≤ 6) : ∃ x, fX2_canBeOrder σ (nI v) = some (σ, x) ∧ ((x = nI 1 ∧ ACo v h n) ∨ (x = nI 0 ∧ ¬ ACo v h n)) := by
  obtain ⟨x, y1, y2⟩ := c_canL hv hn h1 h3 6 0 50 0 (by omega) (by omega) (by omega) (by omega) (fun j hj => absurd hj (by omega)) (fun b hb => by
    rw [Nat.zero_testBit]
    exact ⟨fun g => absurd g (by decide), fun ⟨j, hj, _⟩ => absurd hj (by omega)⟩)
  refine ⟨x, ?_, y2⟩
  unfold fX2_canBeOrder
  rw [if_pos (nI_pos' hv)]
  exact y1
theorem c_takeC {v n : Nat} (hv : v < 2 ^ 31) (hn : isN v n) (h6 : n ≤ 6) (a1 : Int32) : ∀ (d i m : Nat) (σ : St), i + d = n → d < m → σ 3 5 = nI i → ∃ σ', (∀ K, fX2_takeOrder_L7 K m σ a1 (nI (rs v i)) = K σ' a1) ∧ (∀ c, ¬ c = 3 → σ' c = σ c) ∧ σ' 3 5 = nI n := by
  have rl := rs_lt hv
  intro d
  induction d with
  | zero =>
    intro i m σ hi hm hs
    obtain ⟨m, rfl⟩ : ∃ q, m = q + 1 := ⟨m - 1, by omega⟩
    have e : i = n := by omega
    subst e
    refine ⟨σ, fun K => ?_, fun _ _ => rfl, hs⟩
    rw [fX2_takeOrder_L7, hn.1, if_pos (show nI 0 ≤ 0 from by decide)]
  | succ d ih =>
    intro i m σ hi hm hs
    obtain ⟨m, rfl⟩ : ∃ q, m = q + 1 := ⟨m - 1, by omega⟩
    have ne := hn.2 i (by omega)
    obtain ⟨σ', y1, y2, y3⟩ := ih (i + 1) m (up σ 3 5 (nI (i + 1))) (by omega) (by omega) (by rw [up_at, upd_at])
    refine ⟨σ', fun K => ?_, fun c hc => by rw [y2 c hc, up_ne _ _ _ hc], y3⟩
    rw [fX2_takeOrder_L7, if_neg (nI_nle (by omega) (rl i)), hs, if_neg (show ¬ (6 : Int32) ≤ nI i from nI_ge (b := 6) (by omega) (by decide)), stp, itp, d7 (rl i), show nI i + 1 = nI (i + 1) from nI_1 i]
    exact y1 K
theorem c_takeF {v n : Nat} (hv : v < 2 ^ 31) (h6 : n ≤ 6) : ∀ (b m : Nat) (σ : St), b ≤ n → b < m → ∃ σ', (∀ K, fX2_takeOrder_L47 K m σ (nI (rs v (n - b))) (nI b + (-1)) = K σ') ∧ (∀ c, ¬ c = 19 → σ' c = σ c) ∧ (∀ j, j < b → σ' 19 j = nI (Dg v (n - 1 - j)) - 1) ∧ ∀ j, b ≤ j → σ' 19 j = σ 19 j := by
  have rl := rs_lt hv
  intro b
  induction b with
  | zero =>
    intro m σ hb hm
    obtain ⟨m, rfl⟩ : ∃ q, m = q + 1 := ⟨m - 1, by omega⟩
    refine ⟨σ, fun K => ?_, fun _ _ => rfl, fun j hj => absurd hj (by omega), fun _ _ => rfl⟩
    rw [fX2_takeOrder_L47, if_pos (show nI 0 + (-1) < 0 from by decide)]
  | succ b ih =>
    intro m σ hb hm
    obtain ⟨m, rfl⟩ : ∃ q, m = q + 1 := ⟨m - 1, by omega⟩
    obtain ⟨σ', y1, y2, y3, y4⟩ := ih m (up σ 19 b (nI (Dg v (n - 1 - b)) - 1)) (by omega) (by omega)
    refine ⟨σ', fun K => ?_, fun c hc => by rw [y2 c hc, up_ne _ _ _ hc], fun j hj => ?_, fun j hj => ?_⟩
    · rw [fX2_takeOrder_L47, show nI (b + 1) + (-1) = nI b from pk_m1 b, if_neg (nI_pos (by omega)), if_neg (nI_in (show b < 6 by omega) (by decide)), nI_clamp (show b < 2 ^ 31 by omega), stp, itp, m7 (rl _), d7 (rl _)]
      have e1 : n - (b + 1) = n - 1 - b := by omega
      have e2 : rs v (n - 1 - b) / 7 = rs v (n - b) := by
        have : n - b = n - 1 - b + 1 := by omega
        rw [this]; rfl
      rw [e1, e2]
      exact y1 K
    · by_cases ej : j = b
      · subst ej
        rw [y4 j (Nat.le_refl j), up_at, upd_at]
      · exact y3 j (by omega)
    · rw [y4 j (by omega), up_at, upd_ne _ _ (by omega)]
theorem n_m1 (n : Nat) : nI n - 1 = nI n + (-1) := by
  cases n with
  | zero => decide
  | succ q => rw [show nI (q + 1) - 1 = nI q from nI_pred q, show nI (q + 1) + (-1) = nI q from pk_m1 q]
theorem c_take {σ : St} {v n : Nat} (hv : v < 2 ^ 31) (hn : isN v n) (h6 : n ≤ 6) : ∃ σ', fX2_takeOrder σ (nI v) = some (σ', nI n) ∧ (∀ c, ¬ c = 3 → ¬ c = 19 → ¬ c = 20 → σ' c = σ c) ∧ σ' 3 5 = nI n ∧ (∀ j, j < n → σ' 19 j = nI (Dg v (n - 1 - j)) - 1) ∧ ∀ j, j < 40 → σ' 20 j = nI 0 := by
  obtain ⟨σ1, y1, y2, y3⟩ := c_takeC hv hn h6 (nI v) n 0 50 (up σ 3 5 (nI 0)) (by omega) (by omega) (by rw [up_at, upd_at])
  obtain ⟨σ2, z1, z2, z3, z4⟩ := c_takeF hv h6 n 50 σ1 (Nat.le_refl n) (by omega)
  rw [Nat.sub_self] at z1
  have e35 : (cu σ2 20 (fl (σ2 20) 40 0)) 3 5 = nI n := by
    rw [cu_ne _ _ (by decide), z2 3 (by decide), y3]
  refine ⟨cu σ2 20 (fl (σ2 20) 40 0), ?_, fun c c1 c2 c3 => ?_, e35, fun j hj => ?_, fun j hj => ?_⟩
  · unfold fX2_takeOrder
    rw [stp]
    refine (y1 _).trans ?_
    show itp _ _ = _
    rw [itp, y3, n_m1]
    refine (z1 _).trans ?_
    show stp _ _ = _
    rw [stp, e35]
  · rw [cu_ne _ _ c3, z2 c c2, y2 c c1, up_ne _ _ _ c1]
  · rw [cu_ne _ _ (by decide)]
    exact z3 j hj
  · rw [cu_at]
    show (if j < 40 then _ else _) = _
    rw [if_pos hj]
    rfl
theorem m_digL {v n : Nat} (hv : v < 2 ^ 31) (hn : isN v n) : ∀ (d i m : Nat) (μ : St), i + d = n → d < m → (∀ j, j < i → μ 16 j = nI (Dg v j) - 1) → ∃ μ', (∀ K, fX10_order_L11 K m μ (nI i) (nI (rs v i)) = K μ' (nI n)) ∧ (∀ c, ¬ c = 16 → μ' c = μ c) ∧ ∀ j, j < n → μ' 16 j = nI (Dg v j) - 1 := by
  have rl := rs_lt hv
  have n12 := isN_12 hv hn
  intro d
  induction d with
  | zero =>
    intro i m μ hi hm hs
    obtain ⟨m, rfl⟩ : ∃ q, m = q + 1 := ⟨m - 1, by omega⟩
    have e : i = n := by omega
    subst e
    refine ⟨μ, fun K => ?_, fun _ _ => rfl, hs⟩
    rw [fX10_order_L11, hn.1, if_pos (show nI 0 ≤ 0 from by decide)]
  | succ d ih =>
    intro i m μ hi hm hs
    obtain ⟨m, rfl⟩ : ∃ q, m = q + 1 := ⟨m - 1, by omega⟩
    have ne := hn.2 i (by omega)
    obtain ⟨μ', y1, y2, y3⟩ := ih (i + 1) m (up μ 16 i (nI (Dg v i) - 1)) (by omega) (by omega) (by
      intro j hj
      rw [up_at]
      by_cases ej : j = i
      · subst ej; rw [upd_at]
      · rw [upd_ne _ _ ej]; exact hs j (by omega))
    refine ⟨μ', fun K => ?_, fun c hc => by rw [y2 c hc, up_ne _ _ _ hc], y3⟩
    rw [fX10_order_L11, if_neg (nI_nle (by omega) (rl i)), if_neg (nI_in (show i < 12 by omega) (by decide)), nI_clamp (show i < 2 ^ 31 by omega), stp, itp, m7 (rl i), d7 (rl i), show nI i + 1 = nI (i + 1) from nI_1 i]
    exact y1 K
theorem sub1_inj {a b : Nat} (ha : a < 7) (hb : b < 7) : (nI a - 1 = nI b - 1) ↔ a = b := by
  have : ∀ a, a < 7 → ∀ b, b < 7 → ((nI a - 1 = nI b - 1) ↔ a = b) := by decide +kernel
  exact this a ha b hb
theorem m_o78 {μ : St} {v n : Nat} (n12 : n ≤ 12) (hd : ∀ j, j < n → μ 16 j = nI (Dg v j) - 1) {i : Nat} (hi : i < n) (a2 : Int32) (K : St → Int32 → Int32 → Int32 → Option (St × Int32)) : ∀ (d j m : Nat) (fl : Int32), j + d = i → d < m → (fl = 1 ∨ fl = 0) → ∃ fl', (fl' = 1 ∨ fl' = 0) ∧ (fl' = 1 ↔ (fl = 1 ∧ ∀ t, j ≤ t → t < i → ¬ Dg v t = Dg v i)) ∧ fX10_order_L78 K m μ a2 fl (nI i) (nI j) = K μ a2 fl' (nI i) := by
  intro d
  induction d with
  | zero =>
    intro j m fl hj hm hf
    obtain ⟨m, rfl⟩ : ∃ q, m = q + 1 := ⟨m - 1, by omega⟩
    refine ⟨fl, hf, ⟨fun g => ⟨g, fun t h1 h2 => absurd h1 (by omega)⟩, fun g => g.1⟩, ?_⟩
    rw [fX10_order_L78, if_pos (nI_le (by omega) (by omega))]
  | succ d ih =>
    intro j m fl hj hm hf
    obtain ⟨m, rfl⟩ : ∃ q, m = q + 1 := ⟨m - 1, by omega⟩
    rw [fX10_order_L78, if_neg (nI_ge (by omega) (by omega)), show nI j + 1 = nI (j + 1) from nI_1 j]
    rcases hf with rfl | rfl
    · rw [if_neg (show ¬ (1 : Int32) = 0 from by decide), if_neg (nI_in (show j < 12 by omega) (by decide)), if_neg (nI_in (show i < 12 by omega) (by decide)), nI_clamp (show j < 2 ^ 31 by omega), nI_clamp (show i < 2 ^ 31 by omega), hd j (by omega), hd i hi]
      have dl : Dg v i < 7 := Nat.mod_lt _ (by decide)
      have dl' : Dg v j < 7 := Nat.mod_lt _ (by decide)
      by_cases c : Dg v j = Dg v i
      · rw [if_pos ((sub1_inj dl' dl).mpr c)]
        obtain ⟨fl', y1, y2, y3⟩ := ih (j + 1) m 0 (by omega) (by omega) (Or.inr rfl)
        refine ⟨fl', y1, ⟨fun g => ?_, fun g => ?_⟩, y3⟩
        · exact absurd (y2.mp g).1 (by decide)
        · exact absurd c (g.2 j (Nat.le_refl j) (by omega))
      · rw [if_neg (fun g => c ((sub1_inj dl' dl).mp g))]
        obtain ⟨fl', y1, y2, y3⟩ := ih (j + 1) m 1 (by omega) (by omega) (Or.inl rfl)
        refine ⟨fl', y1, ⟨fun g => ?_, fun g => ?_⟩, y3⟩
        · refine ⟨rfl, fun t h1 h2 => ?_⟩
          by_cases et : t = j
          · subst et; exact c
          · exact (y2.mp g).2 t (by omega) h2
        · exact y2.mpr ⟨rfl, fun t h1 h2 => g.2 t (by omega) h2⟩
    · rw [if_pos (show (0 : Int32) = 0 from rfl)]
      obtain ⟨fl', y1, y2, y3⟩ := ih (j + 1) m 0 (by omega) (by omega) (Or.inr rfl)
      refine ⟨fl', y1, ⟨fun g => ?_, fun g => ?_⟩, y3⟩
      · exact absurd (y2.mp g).1 (by decide)
      · exact absurd g.1 (by decide)
theorem m_o53 {μ : St} {v n h : Nat} (n12 : n ≤ 12) (hd : ∀ j, j < n → μ 16 j = nI (Dg v j) - 1) (h2 : μ 0 0 = nI h) (h3 : h ≤ 6) (K : St → Int32 → Int32 → Option (St × Int32)) : ∀ (d i m : Nat) (fl : Int32), i + d = n → d < m → (fl = 1 ∨ fl = 0) → ∃ fl', (fl' = 1 ∨ fl' = 0) ∧ (fl' = 1 ↔ (fl = 1 ∧ ∀ t, i ≤ t → t < n → okD v h t)) ∧ fX10_order_L53 K m μ (nI n) fl (nI i) = K μ (nI n) fl' := by
  intro d
  induction d with
  | zero =>
    intro i m fl hi hm hf
    obtain ⟨m, rfl⟩ : ∃ q, m = q + 1 := ⟨m - 1, by omega⟩
    refine ⟨fl, hf, ⟨fun g => ⟨g, fun t h1 h2 => absurd h1 (by omega)⟩, fun g => g.1⟩, ?_⟩
    rw [fX10_order_L53, if_pos (nI_le (by omega) (by omega))]
  | succ d ih =>
    intro i m fl hi hm hf
    obtain ⟨m, rfl⟩ : ∃ q, m = q + 1 := ⟨m - 1, by omega⟩
    have dl : Dg v i < 7 := Nat.mod_lt _ (by decide)
    rw [fX10_order_L53, if_neg (nI_ge (by omega) (by omega))]
    rcases hf with rfl | rfl
    · rw [if_neg (show ¬ (1 : Int32) = 0 from by decide), if_neg (nI_in (show i < 12 by omega) (by decide)), nI_clamp (show i < 2 ^ 31 by omega), hd i (by omega)]
      have key : ∃ fl0 : Int32, (fl0 = 1 ∨ fl0 = 0) ∧ (fl0 = 1 ↔ (1 ≤ Dg v i ∧ Dg v i ≤ h)) ∧ fX10_isHouse μ (nI (Dg v i) - 1) = some (μ, fl0) := by
        by_cases c1 : 1 ≤ Dg v i ∧ Dg v i ≤ h
        · refine ⟨nI 1, Or.inl rfl, ⟨fun _ => c1, fun _ => rfl⟩, ?_⟩
          rw [dg_m1 c1.1]
          exact m_hou1 h2 h3 (by omega)
        · refine ⟨nI 0, Or.inr rfl, ⟨fun g => absurd g (by decide), fun g => absurd g c1⟩, m_hou0 h2 h3 ?_⟩
          by_cases g : Dg v i = 0
          · left
            rw [g]
            decide
          · right
            rw [dg_m1 (by omega)]
            exact ⟨nI_pos (by omega), nI_le (by omega) (by omega)⟩
      obtain ⟨fl0, k1, k2, k3⟩ := key
      rw [stq k3]
      obtain ⟨fl1, y1, y2, y3⟩ := m_o78 n12 hd (show i < n by omega) (nI n) (fun (σ20 : St) (a21 : Int32) (a22 : Int32) (a23 : Int32) =>
            fX10_order_L53 K m σ20 a21 a22 (a23 + 1)) i 0 50 fl0 (by omega) (by omega) k1
      obtain ⟨fl', z1, z2, z3⟩ := ih (i + 1) m fl1 (by omega) (by omega) y1
      refine ⟨fl', z1, ⟨fun g => ?_, fun g => ?_⟩, ?_⟩
      · refine ⟨rfl, fun t h1 h2 => ?_⟩
        obtain ⟨g1, g2⟩ := z2.mp g
        by_cases et : t = i
        · subst et
          obtain ⟨g3, g4⟩ := y2.mp g1
          have g5 := k2.mp g3
          exact ⟨g5.1, g5.2, fun j hj => g4 j (by omega) hj⟩
        · exact g2 t (by omega) h2
      · have o := g.2 i (Nat.le_refl i) (by omega)
        exact z2.mpr ⟨y2.mpr ⟨k2.mpr ⟨o.1, o.2.1⟩, fun t _ ht => o.2.2 t ht⟩, fun t h1 h2 => g.2 t (by omega) h2⟩
      · refine y3.trans ?_
        show fX10_order_L53 K m μ (nI n) fl1 (nI i + 1) = _
        rw [show nI i + 1 = nI (i + 1) from nI_1 i]
        exact z3
    · rw [if_pos (show (0 : Int32) = 0 from rfl)]
      exact ⟨0, Or.inr rfl, ⟨fun g => absurd g (by decide), fun g => absurd g.1 (by decide)⟩, rfl⟩
theorem m_o149 {v n : Nat} (n6 : n ≤ 6) : ∀ (d i m : Nat) (μ : St), i + d = n → d < m → (∀ j, j < n → μ 16 j = nI (Dg v j) - 1) → (∀ j, j < i → μ 9 j = nI (Dg v (n - 1 - j)) - 1) → ∃ μ', (∀ K, fX10_order_L149 K m μ (nI n) (nI i) = K μ' (nI n)) ∧ (∀ c, ¬ c = 9 → μ' c = μ c) ∧ ∀ j, j < n → μ' 9 j = nI (Dg v (n - 1 - j)) - 1 := by
  intro d
  induction d with
  | zero =>
    intro i m μ hi hm hd hs
    obtain ⟨m, rfl⟩ : ∃ q, m = q + 1 := ⟨m - 1, by omega⟩
    have e : i = n := by omega
    subst e
    refine ⟨μ, fun K => ?_, fun _ _ => rfl, hs⟩
    rw [fX10_order_L149, if_pos (nI_le (by omega) (by omega))]
  | succ d ih =>
    intro i m μ hi hm hd hs
    obtain ⟨m, rfl⟩ : ∃ q, m = q + 1 := ⟨m - 1, by omega⟩
    obtain ⟨μ', y1, y2, y3⟩ := ih (i + 1) m (up μ 9 i (nI (Dg v (n - 1 - i)) - 1)) (by omega) (by omega) hd (by
      intro j hj
      rw [up_at]
      by_cases ej : j = i
      · subst ej; rw [upd_at]
      · rw [upd_ne _ _ ej]; exact hs j (by omega))
    refine ⟨μ', fun K => ?_, fun c hc => by rw [y2 c hc, up_ne _ _ _ hc], y3⟩
    have e1 : nI n - 1 - nI i = nI (n - 1 - i) := by
      rw [dg_m1 (by omega), pk_sub (by omega)]
    rw [fX10_order_L149, if_neg (nI_ge (by omega) (by omega)), e1, if_neg (nI_in (show n - 1 - i < 12 by omega) (by decide)), if_neg (nI_in (show i < 6 by omega) (by decide)), nI_clamp (show i < 2 ^ 31 by omega), nI_clamp (show n - 1 - i < 2 ^ 31 by omega), stp, hd (n - 1 - i) (by omega), show nI i + 1 = nI (i + 1) from nI_1 i]
    exact y1 K
theorem m_o182 (x : Int32) : ∀ (d i m : Nat) (μ : St), i + d = 40 → d < m → (∀ j, j < i → μ 10 j = nI 0) → ∃ μ', fX10_order_L182 m μ x (nI i) = some (μ', x) ∧ (∀ c, ¬ c = 10 → μ' c = μ c) ∧ ∀ j, j < 40 → μ' 10 j = nI 0 := by
  intro d
  induction d with
  | zero =>
    intro i m μ hi hm hs
    obtain ⟨m, rfl⟩ : ∃ q, m = q + 1 := ⟨m - 1, by omega⟩
    have e : i = 40 := by omega
    subst e
    rw [fX10_order_L182, if_pos (show (40 : Int32) ≤ nI 40 from by decide)]
    exact ⟨μ, rfl, fun _ _ => rfl, hs⟩
  | succ d ih =>
    intro i m μ hi hm hs
    obtain ⟨m, rfl⟩ : ∃ q, m = q + 1 := ⟨m - 1, by omega⟩
    obtain ⟨μ', y1, y2, y3⟩ := ih (i + 1) m (up μ 10 i (nI 0)) (by omega) (by omega) (by
      intro j hj
      rw [up_at]
      by_cases ej : j = i
      · subst ej; rw [upd_at]
      · rw [upd_ne _ _ ej]; exact hs j (by omega))
    refine ⟨μ', ?_, fun c hc => by rw [y2 c hc, up_ne _ _ _ hc], y3⟩
    rw [fX10_order_L182, if_neg (show ¬ (40 : Int32) ≤ nI i from nI_ge (b := 40) (by omega) (by decide)), if_neg (nI_in (show i < 40 by omega) (by decide)), nI_clamp (show i < 2 ^ 31 by omega), stp, show nI i + 1 = nI (i + 1) from nI_1 i]
    exact y1
def mKo : St → Int32 → Int32 → Option (St × Int32) := fun (σ24 : St) (a25 : Int32) (a26 : Int32) =>
              if a26 = 0 then
                some (σ24, (-1000000001))
              else
                if (σ24 0 7) = 0 then
                  some (σ24, (-1000000002))
                else
                  stp (up σ24 0 10 a25) fun σ29 =>
                  fX10_order_L149
                    (fun (σ34 : St) (a35 : Int32) =>
                      fX10_order_L182
                        50 σ34 a35 0)
                    50 σ29 a25 0
theorem m_ord {μ : St} {v n h : Nat} (hv : v < 2 ^ 31) (hn : isN v n) (h2 : μ 0 0 = nI h) (h3 : h ≤ 6) : ∃ (μ' : St) (fl : Int32), fX10_order μ (nI v) = mKo μ' (nI n) fl ∧ (∀ c, ¬ c = 16 → μ' c = μ c) ∧ (∀ j, j < n → μ' 16 j = nI (Dg v j) - 1) ∧ (fl = 1 ∨ fl = 0) ∧ (fl = 1 ↔ ACo v h n) := by
  have n12 := isN_12 hv hn
  obtain ⟨μ1, y1, y2, y3⟩ := m_digL hv hn n 0 50 μ (by omega) (by omega) (fun j hj => absurd hj (by omega))
  have h2' : μ1 0 0 = nI h := by rw [y2 0 (by decide)]; exact h2
  by_cases c : 6 < n
  · obtain ⟨fl', z1, z2, z3⟩ := m_o53 n12 y3 h2' h3 mKo n 0 50 0 (by omega) (by omega) (Or.inr rfl)
    refine ⟨μ1, fl', ?_, y2, y3, z1, ⟨fun g => absurd (z2.mp g).1 (by decide), fun g => absurd g.1 (by omega)⟩⟩
    unfold fX10_order
    rw [if_pos (nI_pos' hv)]
    refine (y1 _).trans ?_
    show (if 6 < nI n then _ else _) = _
    rw [if_pos (show (6 : Int32) < nI n from nI_lt (a := 6) c (by omega))]
    exact z3
  · obtain ⟨fl', z1, z2, z3⟩ := m_o53 n12 y3 h2' h3 mKo n 0 50 1 (by omega) (by omega) (Or.inl rfl)
    refine ⟨μ1, fl', ?_, y2, y3, z1, ⟨fun g => ⟨by omega, fun i hi => (z2.mp g).2 i (by omega) hi⟩, fun g => z2.mpr ⟨rfl, fun t _ ht => g.2 t ht⟩⟩⟩
    unfold fX10_order
    rw [if_pos (nI_pos' hv)]
    refine (y1 _).trans ?_
    show (if 6 < nI n then _ else _) = _
    rw [if_neg (show ¬ (6 : Int32) < nI n from nI_nlt (a := 6) (b := n) (by omega) (by decide))]
    exact z3
set_option maxRecDepth 100000 in
set_option maxHeartbeats 4000000 in
theorem s_order {σ μ : St} (hR : Rg σ μ) (p0 : Int32) : Sm (fX9_order σ p0) (fX10_order μ p0) := by
  obtain ⟨h, r, k, f, ⟨h1, h2, h3⟩, ⟨r1, r2, r3⟩, ⟨k1, k2, k3⟩, ⟨f1, f2, f3⟩, A1, A2, A3, A4, A5, A6, A7, A8, A9, A10, A11, A12, A13, A14, A15, A16⟩ := id hR
  by_cases c0 : p0 < 0
  · have g : ¬ (0 ≤ p0) := by
      rw [le_toInt]
      rw [lt_toInt] at c0
      omega
    have x1 : fX2_canBeOrder σ p0 = some (σ, nI 0) := by
      unfold fX2_canBeOrder
      rw [if_neg g]
      rfl
    unfold fX9_order fX10_order
    rw [st0 x1, if_neg g]
    exact Sm.mk rfl hR
  obtain ⟨v, hv, rfl⟩ := nI_of c0
  obtain ⟨n, hn1, hn2⟩ := pk_least (fun i => rs v i = 0) ⟨12, rs_12 hv⟩
  have hn : isN v n := ⟨hn1, hn2⟩
  obtain ⟨x, y1, y2⟩ := c_can hv hn h1 h3
  obtain ⟨μ1, fl, z1, z2, z3, z4, z5⟩ := m_ord hv hn h2 h3
  have hRm : Rg σ μ1 := by
    refine ⟨h, r, k, f, ?_⟩
    unfold RR
    rw [z2 0 (by decide), z2 1 (by decide), z2 2 (by decide), z2 3 (by decide), z2 4 (by decide), z2 5 (by decide), z2 6 (by decide), z2 7 (by decide), z2 8 (by decide), z2 9 (by decide), z2 10 (by decide), z2 11 (by decide), z2 12 (by decide), z2 13 (by decide), z2 14 (by decide), z2 15 (by decide)]
    exact ⟨⟨h1, h2, h3⟩, ⟨r1, r2, r3⟩, ⟨k1, k2, k3⟩, ⟨f1, f2, f3⟩, A1, A2, A3, A4, A5, A6, A7, A8, A9, A10, A11, A12, A13, A14, A15, A16⟩
  rw [z1]
  unfold fX9_order mKo
  rcases y2 with ⟨rfl, ac⟩ | ⟨rfl, ac⟩
  · have ef : fl = 1 := z5.mpr ac
    rw [st1 y1, ef, if_neg (show ¬ (1 : Int32) = 0 from by decide), z2 0 (by decide), r1, r2]
    by_cases cr : r = 0
    · rw [if_pos (show nI r = 0 from by rw [cr]; rfl), if_pos (show nI r = 0 from by rw [cr]; rfl)]
      exact Sm.mk rfl hRm
    rw [if_neg (nI_ne0 (by omega) (by omega)), if_neg (nI_ne0 (by omega) (by omega)), stp]
    obtain ⟨σ', t1, t2, t3, t4, t5⟩ := c_take (σ := σ) hv hn ac.1
    obtain ⟨μ2, u1, u2, u3⟩ := m_o149 (v := v) ac.1 n 0 50 (up μ1 0 10 (nI n)) (by omega) (by have := ac.1; omega) z3 (fun j hj => absurd hj (by omega))
    obtain ⟨μ3, w1, w2, w3⟩ := m_o182 (nI n) 40 0 50 μ2 (by omega) (by omega) (fun j hj => absurd hj (by omega))
    rw [stq t1]
    refine ⟨σ', μ3, nI n, rfl, (u1 _).trans w1, h, r, n, f, ?_⟩
    have m0 : ∀ j, ¬ j = 10 → μ3 0 j = μ 0 j := fun j hj => by
      rw [w2 0 (by decide), u2 0 (by decide), up_at, upd_ne _ _ hj, z2 0 (by decide)]
    have m10 : μ3 0 10 = nI n := by
      rw [w2 0 (by decide), u2 0 (by decide), up_at, upd_at]
    have mc : ∀ c, ¬ c = 0 → ¬ c = 9 → ¬ c = 10 → ¬ c = 16 → μ3 c = μ c := fun c a b d e => by
      rw [w2 c d, u2 c b, up_ne _ _ _ a, z2 c e]
    have q9 : qR n 0 h (σ' 19) (μ3 9) := by
      intro j hj
      have o := ac.2 (n - 1 - j) (by omega)
      rw [t4 j hj, w2 9 (by decide), u3 j hj, dg_m1 o.1]
      exact ⟨rfl, Dg v (n - 1 - j) - 1, by omega, by have := o.1; have := o.2.1; omega, rfl⟩
    have q10 : qR 40 0 201 (σ' 20) (μ3 10) := by
      intro j hj
      rw [t5 j hj, w3 j hj]
      exact ⟨rfl, 0, by omega, by omega, rfl⟩
    unfold RR
    rw [t3, m10, m0 0 (by decide), m0 7 (by decide), m0 13 (by decide), m0 17 (by decide), m0 18 (by decide), m0 19 (by decide), t2 1 (by decide) (by decide) (by decide), t2 2 (by decide) (by decide) (by decide), t2 5 (by decide) (by decide) (by decide), t2 8 (by decide) (by decide) (by decide), t2 9 (by decide) (by decide) (by decide), t2 12 (by decide) (by decide) (by decide), t2 13 (by decide) (by decide) (by decide), t2 14 (by decide) (by decide) (by decide), t2 15 (by decide) (by decide) (by decide), t2 16 (by decide) (by decide) (by decide), t2 17 (by decide) (by decide) (by decide), t2 18 (by decide) (by decide) (by decide), t2 33 (by decide) (by decide) (by decide), t2 34 (by decide) (by decide) (by decide), t2 35 (by decide) (by decide) (by decide), t2 36 (by decide) (by decide) (by decide), t2 40 (by decide) (by decide) (by decide), t2 42 (by decide) (by decide) (by decide), t2 43 (by decide) (by decide) (by decide)]
    rw [mc 1 (by decide) (by decide) (by decide) (by decide), mc 2 (by decide) (by decide) (by decide) (by decide), mc 3 (by decide) (by decide) (by decide) (by decide), mc 4 (by decide) (by decide) (by decide) (by decide), mc 5 (by decide) (by decide) (by decide) (by decide), mc 6 (by decide) (by decide) (by decide) (by decide), mc 7 (by decide) (by decide) (by decide) (by decide), mc 8 (by decide) (by decide) (by decide) (by decide), mc 11 (by decide) (by decide) (by decide) (by decide), mc 12 (by decide) (by decide) (by decide) (by decide), mc 13 (by decide) (by decide) (by decide) (by decide), mc 14 (by decide) (by decide) (by decide) (by decide), mc 15 (by decide) (by decide) (by decide) (by decide)]
    exact ⟨⟨h1, h2, h3⟩, ⟨r1, r2, r3⟩, ⟨rfl, rfl, ac.1⟩, ⟨f1, f2, f3⟩, A1, A2, A3, A4, A5, A6, A7, A8, q9, q10, A11, A12, A13, A14, A15, A16⟩
  · have ef : fl = 0 := z4.resolve_left (fun g => ac (z5.mp g))
    rw [st0 y1, ef, if_pos (show (0 : Int32) = 0 from rfl)]
    exact Sm.mk rfl hRm
