def ctL (f : Nat → Int32) : Nat → Nat
  | 0 => 0
  | n + 1 => ctL f n + (if f n = 0 then 0 else 1)
theorem ctL_s (f : Nat → Int32) (n : Nat) : ctL f (n + 1) = ctL f n + (if f n = 0 then 0 else 1) := rfl
theorem ctL_le (f : Nat → Int32) : ∀ n, ctL f n ≤ n := by
  intro n
  induction n with
  | zero => exact Nat.le_refl 0
  | succ n ih =>
    rw [ctL_s]
    split <;> omega
theorem ctL_mono {f g : Nat → Int32} : ∀ n, (∀ y, y < n → ¬ f y = 0 → ¬ g y = 0) → ctL f n ≤ ctL g n := by
  intro n
  induction n with
  | zero => intro _; exact Nat.le_refl 0
  | succ n ih =>
    intro h
    have h1 := ih (fun y hy => h y (by omega))
    have h2 := h n (by omega)
    rw [ctL_s, ctL_s]
    by_cases c : f n = 0
    · rw [if_pos c]; omega
    · rw [if_neg c, if_neg (h2 c)]; omega
theorem ctL_put {f : Nat → Int32} {y : Nat} (hf : f y = 0) : ∀ n, y < n → ctL f n + 1 ≤ ctL (upd f y (nI 1)) n := by
  intro n
  induction n with
  | zero => intro h; omega
  | succ n ih =>
    intro h
    rw [ctL_s, ctL_s]
    by_cases c : y = n
    · subst c
      rw [upd_at, if_pos hf, if_neg (show ¬ nI 1 = 0 from by decide)]
      have := ctL_mono (f := f) (g := upd f y (nI 1)) y (fun z hz hz0 => by rw [upd_ne _ _ (by omega)]; exact hz0)
      omega
    · rw [upd_ne _ _ (by omega)]
      have := ih (by omega)
      omega
def Qm (σ μ : St) (N st : Nat) : Prop := ∀ y, y < N → ((σ 32 y = nI st ∧ μ 18 y = nI 1) ∨ (¬ σ 32 y = nI st ∧ μ 18 y = nI 0)) ∧ ((σ 31 y = -1000000005 ∧ μ 17 y = -1) ∨ ∃ q, q < N ∧ σ 31 y = nI q ∧ μ 17 y = nI q)
def frC (σ σ' : St) : Prop := ∀ c, ¬ c = 31 → ¬ c = 32 → σ' c = σ c
def frM (μ μ' : St) : Prop := ∀ c, ¬ c = 17 → ¬ c = 18 → μ' c = μ c
def SMr (μ : St) (k r : Nat) (P : Nat → Nat → Prop) : Prop := (μ 0 10 = nI k ∧ μ 0 7 = nI r) ∧ ffM μ (nR k r) P (nR k r) 0
theorem RC.fr {σ σ' : St} {N : Nat} {tb te fh th wy : Nat → Nat} (h : RC σ N tb te fh th wy) (hf : frC σ σ') : RC σ' N tb te fh th wy := by
  unfold RC
  rw [hf 4 (by decide) (by decide), hf 16 (by decide) (by decide), hf 27 (by decide) (by decide), hf 28 (by decide) (by decide), hf 29 (by decide) (by decide), hf 30 (by decide) (by decide)]
  exact h
theorem SMr.fr {μ μ' : St} {k r : Nat} {P : Nat → Nat → Prop} (h : SMr μ k r P) (hf : frM μ μ') : SMr μ' k r P := by
  unfold SMr ffM
  rw [hf 0 (by decide) (by decide), hf 19 (by decide) (by decide)]
  exact h
def Po (σ μ σ' μ' : St) (N st : Nat) : Prop := Qm σ' μ' N st ∧ frC σ σ' ∧ frM μ μ' ∧ (∀ y, y < N → ¬ μ 18 y = 0 → ¬ μ' 18 y = 0) ∧ ∀ y, y < N → σ' 32 y = σ 32 y ∨ σ' 32 y = nI st
theorem Po.tr {σ μ σ1 μ1 σ2 μ2 : St} {N st : Nat} (h1 : Po σ μ σ1 μ1 N st) (h2 : Po σ1 μ1 σ2 μ2 N st) : Po σ μ σ2 μ2 N st := by
  obtain ⟨a1, a2, a3, a4, a5⟩ := h1
  obtain ⟨b1, b2, b3, b4, b5⟩ := h2
  refine ⟨b1, fun c c1 c2 => (b2 c c1 c2).trans (a2 c c1 c2), fun c c1 c2 => (b3 c c1 c2).trans (a3 c c1 c2), fun y hy h => b4 y hy (a4 y hy h), fun y hy => ?_⟩
  rcases b5 y hy with e | e
  · rw [e]; exact a5 y hy
  · exact Or.inr e
theorem Po.rf {σ μ : St} {N st : Nat} (h : Qm σ μ N st) : Po σ μ σ μ N st := ⟨h, fun _ _ _ => rfl, fun _ _ _ => rfl, fun _ _ h => h, fun _ _ => Or.inl rfl⟩
/-- a ride is looked at -/
theorem Po.mark {σ μ : St} {N st y : Nat} (h : Qm σ μ N st) (hy : y < N) : Po σ μ (up σ 32 y (nI st)) (up μ 18 y (nI 1)) N st := by
  refine ⟨fun z hz => ?_, fun c c1 c2 => up_ne _ _ _ c2, fun c c1 c2 => up_ne _ _ _ c2, fun z hz g => ?_, fun z hz => ?_⟩
  · rw [up_at, up_at, up_ne σ (k := 32) (k' := 31) _ _ (by decide), up_ne μ (k := 18) (k' := 17) _ _ (by decide)]
    by_cases e : z = y
    · subst e
      rw [upd_at, upd_at]
      exact ⟨Or.inl ⟨rfl, rfl⟩, (h z hz).2⟩
    · rw [upd_ne _ _ e, upd_ne _ _ e]
      exact h z hz
  · rw [up_at]
    by_cases e : z = y
    · subst e
      rw [upd_at]
      decide
    · rw [upd_ne _ _ e]; exact g
  · rw [up_at]
    by_cases e : z = y
    · subst e
      rw [upd_at]
      exact Or.inr rfl
    · rw [upd_ne _ _ e]; exact Or.inl rfl
/-- a ride goes behind another -/
theorem Po.set {σ μ : St} {N st y x : Nat} (h : Qm σ μ N st) (hx : x < N) (hy : y < N) : Po σ μ (up σ 31 y (nI x)) (up μ 17 y (nI x)) N st := by
  refine ⟨fun z hz => ?_, fun c c1 c2 => up_ne _ _ _ c1, fun c c1 c2 => up_ne _ _ _ c1, fun z hz g => ?_, fun z hz => ?_⟩
  · rw [up_at, up_at, up_ne σ (k := 31) (k' := 32) _ _ (by decide), up_ne μ (k := 17) (k' := 18) _ _ (by decide)]
    by_cases e : z = y
    · subst e
      rw [upd_at, upd_at]
      exact ⟨(h z hz).1, Or.inr ⟨x, hx, rfl, rfl⟩⟩
    · rw [upd_ne _ _ e, upd_ne _ _ e]
      exact h z hz
  · rw [up_ne μ (k := 17) (k' := 18) _ _ (by decide)]; exact g
  · rw [up_ne σ (k := 31) (k' := 32) _ _ (by decide)]; exact Or.inl rfl
def cKn : St → Int32 → Int32 → Option (St × Int32) := fun (σ18 : St) (a19 : Int32) (a20 : Int32) =>
        if a20 < 0 ∨ 40 ≤ a20.toNatClampNeg then none else
        stp (up σ18 31 a20.toNatClampNeg a19) fun σ22 =>
        some (σ22, 1)
def mKn : St → Int32 → Int32 → Option (St × Int32) := fun (σ18 : St) (a19 : Int32) (a20 : Int32) =>
      if a20 < 0 ∨ 40 ≤ a20.toNatClampNeg then none else
      stp (up σ18 17 a20.toNatClampNeg a19) fun σ22 =>
      some (σ22, 1)
theorem cKn_e (σ : St) (x : Int32) {y : Nat} (hy : y < 40) : cKn σ x (nI y) = some (up σ 31 y x, nI 1) := by
  unfold cKn
  rw [if_neg (nI_in hy (by decide)), nI_clamp (by omega), stp]
  rfl
theorem mKn_e (σ : St) (x : Int32) {y : Nat} (hy : y < 40) : mKn σ x (nI y) = some (up σ 17 y x, nI 1) := by
  unfold mKn
  rw [if_neg (nI_in hy (by decide)), nI_clamp (by omega), stp]
  rfl
def Rec (k r st : Nat) (tb te fh th wy : Nat → Nat) (F : Nat) : Prop := ∀ (σ μ : St) (x δ : Nat), RC σ (nR k r) tb te fh th wy → SMr μ k r (cF tb te fh th wy) → Qm σ μ (nR k r) st → x < nR k r → δ ≤ ctL (μ 18) (nR k r) → nR k r + 1 ≤ F + δ → ∃ σ' μ' v, fX6_findNextR F σ (nI x) (nI st) (nI δ) = some (σ', v) ∧ fX10_giveR F μ (nI x) = some (μ', v) ∧ (v = nI 0 ∨ v = nI 1) ∧ Po σ μ σ' μ' (nR k r) st
set_option maxRecDepth 100000 in
set_option maxHeartbeats 4000000 in
theorem r_loop {k r st : Nat} {tb te fh th wy : Nat → Nat} (k3 : k ≤ 6) (bd : RBd (nR k r) tb te fh th wy) (hst : st < 40) {F : Nat} (hF : Rec k r st tb te fh th wy F) {x δ : Nat} (hx : x < nR k r) (hδ : nR k r + 1 ≤ F + 1 + δ) : ∀ (d y n : Nat) (σ μ : St), y + d = nR k r → d < n → RC σ (nR k r) tb te fh th wy → SMr μ k r (cF tb te fh th wy) → Qm σ μ (nR k r) st → δ ≤ ctL (μ 18) (nR k r) → ∃ σ' μ' v, fX6_findNext_L11 (fX6_findNextR F) cKn n σ (nI x) (nI st) (nI δ) (nI y) = some (σ', v) ∧ fX10_give_L2 (fX10_giveR F) mKn n μ (nI x) (nI y) = some (μ', v) ∧ (v = nI 0 ∨ v = nI 1) ∧ Po σ μ σ' μ' (nR k r) st := by
  have n40 := bd.1
  intro d
  induction d with
  | zero =>
    intro y n σ μ hy hn hC hM hQ hc
    obtain ⟨n, rfl⟩ : ∃ m, n = m + 1 := ⟨n - 1, by omega⟩
    have l1 : nI (nR k r) ≤ nI y := nI_le (by omega) (by omega)
    rw [fX6_findNext_L11, hC.1, if_pos l1, fX10_give_L2, stq (m_nR hM.1.1 k3 hM.1.2), if_pos l1]
    exact ⟨σ, μ, nI 0, rfl, rfl, Or.inl rfl, Po.rf hQ⟩
  | succ d ih =>
    intro y n σ μ hy hn hC hM hQ hc
    obtain ⟨n, rfl⟩ : ∃ m, n = m + 1 := ⟨n - 1, by omega⟩
    have hyN : y < nR k r := by omega
    have l1 : ¬ nI (nR k r) ≤ nI y := nI_ge hyN (by omega)
    have ix : (40 : Int32) * nI x + nI y = nI (40 * x + y) := by
      rw [show (40 : Int32) = nI 40 from rfl, pk_mul, nI_add]
    have g1 : ¬ (nI (40 * x + y) < 0 ∨ 1600 ≤ (nI (40 * x + y)).toNatClampNeg) := nI_in (by omega) (by decide)
    have g2 : ¬ (nI y < 0 ∨ 40 ≤ (nI y).toNatClampNeg) := nI_in (by omega) (by decide)
    have q1 : (nI (40 * x + y)).toNatClampNeg = 40 * x + y := nI_clamp (by omega)
    have q2 : (nI y).toNatClampNeg = y := nI_clamp (by omega)
    have s1 : nI y + 1 = nI (y + 1) := nI_1 y
    have fm := hM.2 x y hyN (Or.inl hx)
    have mr := m_nR hM.1.1 k3 hM.1.2
    have nx : ∀ (σ1 μ1 : St), Po σ μ σ1 μ1 (nR k r) st → ∃ σ' μ' v, fX6_findNext_L11 (fX6_findNextR F) cKn n σ1 (nI x) (nI st) (nI δ) (nI (y + 1)) = some (σ', v) ∧ fX10_give_L2 (fX10_giveR F) mKn n μ1 (nI x) (nI (y + 1)) = some (μ', v) ∧ (v = nI 0 ∨ v = nI 1) ∧ Po σ μ σ' μ' (nR k r) st := by
      intro σ1 μ1 hp
      obtain ⟨σ', μ', v, z1, z2, z3, z4⟩ := ih (y + 1) n σ1 μ1 (by omega) (by omega) (hC.fr hp.2.1) (hM.fr hp.2.2.1) hp.1 (Nat.le_trans hc (ctL_mono _ hp.2.2.2.1))
      exact ⟨σ', μ', v, z1, z2, z3, hp.tr z4⟩
    obtain ⟨hq1, hq2⟩ := hQ y hyN
    rw [fX6_findNext_L11, hC.1, if_neg l1, if_neg g2, q2, s1, fX10_give_L2, stq mr, if_neg l1, ix, if_neg g1, q1, q2, s1]
    rcases hq1 with ⟨e1, e2⟩ | ⟨e1, e2⟩
    · rw [if_pos e1, e2, if_neg (show ¬ nI 1 = 0 from by decide)]
      have key := nx σ μ (Po.rf hQ)
      rcases fm with ⟨f1, f2⟩ | ⟨f1, f2⟩
      · rw [f1, if_neg (show ¬ nI 1 = 0 from by decide), if_neg (show ¬ (nI y < 0 ∨ 40 ≤ y) from fun g => g.elim (nI_pos (by omega)) (by omega))]
        exact key
      · rw [f1, if_pos (show nI 0 = 0 from rfl)]
        exact key
    · rw [if_neg e1]
      obtain ⟨v, w1, w2⟩ := c_follow bd hC hx hyN
      rw [stq w1]
      rcases w2 with ⟨rfl, w2⟩ | ⟨rfl, w2⟩
      · rcases fm with ⟨f1, f2⟩ | ⟨f1, f2⟩
        · have g4 : ¬ (nI y < 0 ∨ 40 ≤ y) := fun g => g.elim (nI_pos (by omega)) (by omega)
          rw [f1, if_neg (show ¬ nI 1 = 0 from by decide), if_neg (show ¬ nI 1 = 0 from by decide), if_neg g4, if_neg g4, e2, if_pos (show nI 0 = 0 from rfl), if_neg g4, nb1, stp, stp]
          have hp1 := Po.mark hQ hyN
          have c1 : δ + 1 ≤ ctL ((up μ 18 y (nI 1)) 18) (nR k r) := by
            rw [up_at]
            have := ctL_put (f := μ 18) (y := y) e2 (nR k r) hyN
            omega
          have cl : ∀ z : Int32, (up σ 32 y z) 31 y = σ 31 y := fun z => by rw [up_ne _ _ _ (by decide)]
          have ml : ∀ z : Int32, (up μ 18 y z) 17 y = μ 17 y := fun z => by rw [up_ne _ _ _ (by decide)]
          rw [if_neg g4, if_neg g4, itp, cl, ml]
          rcases hq2 with ⟨t1, t2⟩ | ⟨q, hq, t1, t2⟩
          · rw [t1, t2, if_pos (show (-1000000005 : Int32) = -1000000005 from rfl), if_pos (show (-1 : Int32) < 0 from by decide), cKn_e _ _ (by omega), mKn_e _ _ (by omega)]
            exact ⟨_, _, _, rfl, rfl, Or.inr rfl, hp1.tr (Po.set hp1.1 hx hyN)⟩
          · rw [t1, t2, if_neg (nI_neg q (by omega) (-1000000005) (by decide)), if_neg (nI_pos (by omega)), if_neg g4, show nI δ + 1 = nI (δ + 1) from nI_1 δ]
            obtain ⟨σ2, μ2, v2, z1, z2, z3, z4⟩ := hF (up σ 32 y (nI st)) (up μ 18 y (nI 1)) q (δ + 1) (hC.fr hp1.2.1) (hM.fr hp1.2.2.1) hp1.1 hq c1 (by omega)
            rw [stq z1, stq z2]
            have hp2 := hp1.tr z4
            rcases z3 with rfl | rfl
            · rw [if_pos (show nI 0 = 0 from rfl), if_pos (show nI 0 = 0 from rfl)]
              exact nx σ2 μ2 hp2
            · rw [if_neg (show ¬ nI 1 = 0 from by decide), if_neg (show ¬ nI 1 = 0 from by decide), cKn_e _ _ (by omega), mKn_e _ _ (by omega)]
              exact ⟨_, _, _, rfl, rfl, Or.inr rfl, hp2.tr (Po.set hp2.1 hx hyN)⟩
        · exact absurd w2 f2
      · rcases fm with ⟨f1, f2⟩ | ⟨f1, f2⟩
        · exact absurd f2 w2
        · rw [f1, if_pos (show nI 0 = 0 from rfl), if_pos (show nI 0 = 0 from rfl)]
          exact nx σ μ (Po.rf hQ)
theorem r_rec {k r st : Nat} {tb te fh th wy : Nat → Nat} (k3 : k ≤ 6) (bd : RBd (nR k r) tb te fh th wy) (hst : st < 40) : ∀ F, Rec k r st tb te fh th wy F := by
  have n40 := bd.1
  intro F
  induction F with
  | zero =>
    intro σ μ x δ hC hM hQ hx hδ hF
    have := ctL_le (μ 18) (nR k r)
    omega
  | succ F ih =>
    intro σ μ x δ hC hM hQ hx hδ hF
    have := ctL_le (μ 18) (nR k r)
    obtain ⟨σ', μ', v, z1, z2, z3, z4⟩ := r_loop k3 bd hst ih hx hF (nR k r) 0 50 σ μ (by omega) (by omega) hC hM hQ hδ
    refine ⟨σ', μ', v, ?_, z2, z3, z4⟩
    show (if nI δ ≤ 40 then _ else _) = _
    rw [if_pos (show nI δ ≤ 40 from nI_le (b := 40) (by omega) (by decide))]
    exact z1
theorem m_41 (N : Nat) (hN : N ≤ 40) (a2 a3 : Int32) : ∀ (d i n : Nat) (μ : St), i + d = N → d < n → (∀ j, j < i → μ 18 j = nI 0) → ∃ μ', (∀ K, fX10_riders_L41 K n μ (nI N) a2 a3 (nI i) = K μ' (nI N) a2 a3) ∧ (∀ c, ¬ c = 18 → μ' c = μ c) ∧ ∀ j, j < N → μ' 18 j = nI 0 := by
  intro d
  induction d with
  | zero =>
    intro i n μ hi hn hs
    obtain ⟨n, rfl⟩ : ∃ m, n = m + 1 := ⟨n - 1, by omega⟩
    have e : i = N := by omega
    refine ⟨μ, fun K => ?_, fun _ _ => rfl, e ▸ hs⟩
    rw [fX10_riders_L41, if_pos (nI_le (by omega) (by omega))]
  | succ d ih =>
    intro i n μ hi hn hs
    obtain ⟨n, rfl⟩ : ∃ m, n = m + 1 := ⟨n - 1, by omega⟩
    obtain ⟨μ', y1, y2, y3⟩ := ih (i + 1) n (up μ 18 i (nI 0)) (by omega) (by omega) (by
      intro j hj
      rw [up_at]
      by_cases ej : j = i
      · subst ej; rw [upd_at]
      · rw [upd_ne _ _ ej]; exact hs j (by omega))
    refine ⟨μ', fun K => ?_, fun c hc => by rw [y2 c hc, up_ne _ _ _ hc], y3⟩
    rw [fX10_riders_L41, if_neg (nI_ge (by omega) (by omega)), if_neg (nI_in (show i < 40 by omega) (by decide)), nI_clamp (show i < 2 ^ 31 by omega), nb0, stp, show nI i + 1 = nI (i + 1) from nI_1 i]
    exact y1 K
theorem m_11 (N : Nat) (hN : N ≤ 40) : ∀ (d i n : Nat) (μ : St), i + d = N → d < n → (∀ j, j < i → μ 17 j = -1) → ∃ μ', (∀ K, fX10_riders_L11 K n μ (nI N) (nI i) = K μ' (nI N)) ∧ (∀ c, ¬ c = 17 → μ' c = μ c) ∧ ∀ j, j < N → μ' 17 j = -1 := by
  intro d
  induction d with
  | zero =>
    intro i n μ hi hn hs
    obtain ⟨n, rfl⟩ : ∃ m, n = m + 1 := ⟨n - 1, by omega⟩
    have e : i = N := by omega
    refine ⟨μ, fun K => ?_, fun _ _ => rfl, e ▸ hs⟩
    rw [fX10_riders_L11, if_pos (nI_le (by omega) (by omega))]
  | succ d ih =>
    intro i n μ hi hn hs
    obtain ⟨n, rfl⟩ : ∃ m, n = m + 1 := ⟨n - 1, by omega⟩
    obtain ⟨μ', y1, y2, y3⟩ := ih (i + 1) n (up μ 17 i (-1)) (by omega) (by omega) (by
      intro j hj
      rw [up_at]
      by_cases ej : j = i
      · subst ej; rw [upd_at]
      · rw [upd_ne _ _ ej]; exact hs j (by omega))
    refine ⟨μ', fun K => ?_, fun c hc => by rw [y2 c hc, up_ne _ _ _ hc], y3⟩
    rw [fX10_riders_L11, if_neg (nI_ge (by omega) (by omega)), if_neg (nI_in (show i < 40 by omega) (by decide)), nI_clamp (show i < 2 ^ 31 by omega), stp, show nI i + 1 = nI (i + 1) from nI_1 i]
    exact y1 K
/-- between two searches: who is behind whom -/
def Qa (σ μ : St) (N i : Nat) : Prop := (∀ y, y < N → (σ 31 y = -1000000005 ∧ μ 17 y = -1) ∨ ∃ q, q < N ∧ σ 31 y = nI q ∧ μ 17 y = nI q) ∧ ∀ y, y < N → σ 32 y = -1000000005 ∨ ∃ q, q < i ∧ σ 32 y = nI q
set_option maxRecDepth 100000 in
set_option maxHeartbeats 4000000 in
theorem r_all {k r : Nat} {tb te fh th wy : Nat → Nat} (k3 : k ≤ 6) (bd : RBd (nR k r) tb te fh th wy) : ∀ (d i n q : Nat) (σ μ : St), i + d = nR k r → d < n → q ≤ i → RC σ (nR k r) tb te fh th wy → SMr μ k r (cF tb te fh th wy) → Qa σ μ (nR k r) i → ∃ σ' μ' v, fX6_fewestRiders_L25 n σ (nI (nR k r - q)) (nI i) = some (σ', v) ∧ fX10_riders_L33 n μ (nI (nR k r)) (nI q) (nI i) = some (μ', v) ∧ frC σ σ' ∧ frM μ μ' := by
  have n40 := bd.1
  intro d
  induction d with
  | zero =>
    intro i n q σ μ hi hn hq hC hM hQ
    obtain ⟨n, rfl⟩ : ∃ m, n = m + 1 := ⟨n - 1, by omega⟩
    have l1 : nI (nR k r) ≤ nI i := nI_le (by omega) (by omega)
    rw [fX6_fewestRiders_L25, hC.1, if_pos l1, fX10_riders_L33, if_pos l1, pk_sub (by omega)]
    exact ⟨σ, μ, _, rfl, rfl, fun _ _ _ => rfl, fun _ _ _ => rfl⟩
  | succ d ih =>
    intro i n q σ μ hi hn hq hC hM hQ
    obtain ⟨n, rfl⟩ : ∃ m, n = m + 1 := ⟨n - 1, by omega⟩
    have l1 : ¬ nI (nR k r) ≤ nI i := nI_ge (by omega) (by omega)
    obtain ⟨μ1, y1, y2, y3⟩ := m_41 (nR k r) n40 (nI q) (nI i) (nR k r) 0 50 μ (by omega) (by omega) (fun j hj => absurd hj (by omega))
    have fm1 : frM μ μ1 := fun c c1 c2 => y2 c c2
    have hQ1 : Qm σ μ1 (nR k r) i := by
      intro y hy
      refine ⟨Or.inr ⟨?_, y3 y hy⟩, ?_⟩
      · rcases hQ.2 y hy with e | ⟨t, ht, e⟩
        · rw [e]
          exact fun g => nI_neg i (by omega) (-1000000005) (by decide) g.symm
        · rw [e, nI_eq (by omega) (by omega)]
          omega
      · rw [y2 17 (by decide)]
        exact hQ.1 y hy
    obtain ⟨σ2, μ2, v, z1, z2, z3, z4⟩ := r_rec k3 bd (show i < 40 by omega) 42 σ μ1 i 0 hC (hM.fr fm1) hQ1 (by omega) (by omega) (by omega)
    have fc2 : frC σ σ2 := z4.2.1
    have fm2 : frM μ μ2 := fun c c1 c2 => (z4.2.2.1 c c1 c2).trans (fm1 c c1 c2)
    have hQ2 : Qa σ2 μ2 (nR k r) (i + 1) := by
      refine ⟨fun y hy => (z4.1 y hy).2, fun y hy => ?_⟩
      rcases z4.2.2.2.2 y hy with e | e
      · rw [e]
        rcases hQ.2 y hy with e | ⟨t, ht, e⟩
        · exact Or.inl e
        · exact Or.inr ⟨t, by omega, e⟩
      · exact Or.inr ⟨i, by omega, e⟩
    have key : ∀ q', q' ≤ i + 1 → ∃ σ' μ' v, fX6_fewestRiders_L25 n σ2 (nI (nR k r - q')) (nI (i + 1)) = some (σ', v) ∧ fX10_riders_L33 n μ2 (nI (nR k r)) (nI q') (nI (i + 1)) = some (μ', v) ∧ frC σ σ' ∧ frM μ μ' := by
      intro q' hq'
      obtain ⟨σ', μ', v, w1, w2, w3, w4⟩ := ih (i + 1) n q' σ2 μ2 (by omega) (by omega) hq' (hC.fr fc2) (hM.fr fm2) hQ2
      exact ⟨σ', μ', v, w1, w2, fun c c1 c2 => (w3 c c1 c2).trans (fc2 c c1 c2), fun c c1 c2 => (w4 c c1 c2).trans (fm2 c c1 c2)⟩
    have s1 : nI i + 1 = nI (i + 1) := nI_1 i
    have z1' : fX6_findNextR 42 σ (nI i) (nI i) 0 = some (σ2, v) := z1
    rw [fX6_fewestRiders_L25, hC.1, if_neg l1, stq z1', s1, fX10_riders_L33, if_neg l1]
    rcases z3 with rfl | rfl
    · rw [if_pos (show nI 0 = 0 from rfl)]
      obtain ⟨σ', μ', v, w1, w2, w3, w4⟩ := key q (by omega)
      refine ⟨σ', μ', v, w1, (y1 _).trans ?_, w3, w4⟩
      show obn (fX10_giveR 42 μ1 (nI i)) _ = _
      rw [stq z2, if_pos (show nI 0 = 0 from rfl), itp, s1, show nI q + 0 = nI q from add0 _]
      exact w2
    · rw [if_neg (show ¬ nI 1 = 0 from by decide)]
      obtain ⟨σ', μ', v, w1, w2, w3, w4⟩ := key (q + 1) (by omega)
      refine ⟨σ', μ', v, ?_, (y1 _).trans ?_, w3, w4⟩
      · have e : nI (nR k r - q) + (-1) = nI (nR k r - (q + 1)) := by
          have e1 : nR k r - q = nR k r - (q + 1) + 1 := by omega
          rw [e1]
          exact pk_m1 _
        rw [e]
        exact w1
      · show obn (fX10_giveR 42 μ1 (nI i)) _ = _
        rw [stq z2, if_neg (show ¬ nI 1 = 0 from by decide), itp, s1, show nI q + 1 = nI (q + 1) from nI_1 q]
        exact w2
theorem c_list0 {σ : St} {r k : Nat} {fr wy od la : Nat → Nat} (hB : NB r k fr wy od la) (hC : NC σ r k fr wy od la) : ∃ σ', fX2_listRides σ = some (σ', nI 0) ∧ scrC σ σ' ∧ RC σ' (nR k r) (tB r fr wy od) (tE r fr wy od) (fH r od) (tH r od) wy := by
  by_cases hk : 0 < k
  · obtain ⟨σ', y1, y2, y3⟩ := c_list hB hC hk
    refine ⟨σ', y1, y2, ?_, fun x hx => ?_, (hC.scr y2).2.2.2.1⟩
    · rw [y3.1, Nat.add_zero]
      unfold nR
      rw [if_neg (by omega)]
    · obtain ⟨a, j, ha, hj, rfl⟩ := ride_of hx
      obtain ⟨v1, v2, v3, v4, v5⟩ := y3.2 a j hj (Or.inl (by omega))
      show _ = nI (od ((a * r + j) / r)) ∧ _ = nI (od ((a * r + j) / r + 1)) ∧ _ = nI (Rb r fr wy od ((a * r + j) / r) ((a * r + j) % r)) ∧ _ = nI (Rb r fr wy od ((a * r + j) / r) ((a * r + j) % r) + WTf wy od ((a * r + j) / r + 1))
      rw [rd_div hj, rd_mod hj]
      exact ⟨v2, v3, v4, v5⟩
  · have e : k = 0 := by omega
    subst e
    obtain ⟨σ1, y1, y2, y3⟩ := c_starts hB hC
    have s1 : scrC σ (up σ1 4 8 (nI 0)) := fun c hc => by rw [up_ne _ _ _ (by omega), scr21 y2 c hc]
    refine ⟨up σ1 4 8 (nI 0), ?_, s1, ?_, fun x hx => absurd hx (by unfold nR; rw [if_pos rfl]; omega), (hC.scr s1).2.2.2.1⟩
    · unfold fX2_listRides
      rw [stq y1, stq (show fX6_clear σ1 = some (up σ1 4 8 (nI 0), nI 0) from rfl)]
      show fX2_listRides_L13 (49 + 1) _ _ = _
      rw [fX2_listRides_L13, (hC.scr s1).2.1, if_pos (show nI 0 ≤ 1 from by decide)]
      rfl
    · rw [up_at, upd_at]
      unfold nR
      rw [if_pos rfl]
set_option maxRecDepth 100000 in
set_option maxHeartbeats 4000000 in
theorem s_riders {σ μ : St} (hR : Rg σ μ) : Sm (fX9_riders σ) (fX10_riders μ) := by
  obtain ⟨h, r, k, f, hRR⟩ := id hR
  obtain ⟨fr, wy, od, la, hB, hC, hM⟩ := RR_night hRR
  have n40 := nR_le hB.2.1 hB.1
  obtain ⟨σ1, y1, y2, y3⟩ := c_list0 hB hC
  obtain ⟨μ1, z1, z2, z3⟩ := m_ff hB hM
  obtain ⟨μ2, w1, w2, w3⟩ := m_11 (nR k r) n40 (nR k r) 0 50 μ1 (by omega) (by omega) (fun j hj => absurd hj (by omega))
  have fcl : frC σ1 (cu (cu σ1 31 (fl (σ1 31) 40 (-1000000005))) 32 (fl (cu σ1 31 (fl (σ1 31) 40 (-1000000005)) 32) 40 (-1000000005))) := fun c c1 c2 => by rw [cu_ne _ _ c2, cu_ne _ _ c1]
  have hM2 : SMr μ2 k r (cFr r fr wy od) := by
    have hM1 := hM.w19 z2
    refine ⟨⟨?_, ?_⟩, ?_⟩
    · rw [w2 0 (by decide)]; exact hM1.2.1
    · rw [w2 0 (by decide)]; exact hM1.1
    · unfold ffM
      rw [w2 19 (by decide)]
      exact z3
  obtain ⟨σ3, μ3, v, t1, t2, t3, t4⟩ := r_all hB.2.1 (r_bd hB) (nR k r) 0 50 0 (cu (cu σ1 31 (fl (σ1 31) 40 (-1000000005))) 32 (fl (cu σ1 31 (fl (σ1 31) 40 (-1000000005)) 32) 40 (-1000000005))) μ2 (by omega) (by omega) (by omega) (y3.fr fcl) hM2 (by
    refine ⟨fun y hy => Or.inl ⟨?_, w3 y hy⟩, fun y hy => Or.inl ?_⟩
    · rw [cu_ne _ _ (by decide), cu_at]
      show (if y < 40 then _ else _) = _
      rw [if_pos (by omega)]
    · rw [cu_at]
      show (if y < 40 then _ else _) = _
      rw [if_pos (by omega)])
  have sc : scrC σ σ3 := fun c hc => by
    rw [t3 c (by omega) (by omega), fcl c (by omega) (by omega), y2 c hc]
  have sm : scrM μ μ3 := by
    refine ⟨fun c c1 c2 => by rw [t4 c (by omega) (by omega), w2 c (by omega), z2 c (by omega)], fun j hj => by rw [t4 0 (by decide) (by decide), w2 0 (by decide), z2 0 (by decide)]⟩
  refine ⟨σ3, μ3, v, ?_, ?_, h, r, k, f, hRR.scr sc sm⟩
  · unfold fX9_riders fX6_fewestRiders
    rw [stq y1, stp, stp, itp, (y3.fr fcl).1]
    rw [Nat.sub_zero] at t1
    exact stq (k := fun σ4 r5 => some (σ4, r5)) t1
  · unfold fX10_riders
    rw [stq (m_nR hM.2.1 hB.2.1 hM.1), stq z1]
    exact (w1 _).trans t2
