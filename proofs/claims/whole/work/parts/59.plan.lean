def Po2 (σ μ σ' μ' : St) (p : Nat) : Prop := PD σ' μ' p ∧ σ' 6 6 = σ 6 6 ∧ (∀ q, q < 24 → μ' 24 q = μ 24 q) ∧ fP σ σ' ∧ gP μ μ'
theorem Po2.rf {σ μ : St} {p : Nat} (h : PD σ μ p) : Po2 σ μ σ μ p := ⟨h, rfl, fun _ _ => rfl, fP.rf σ, gP.rf μ⟩
theorem Po2.tr {σ μ σ1 μ1 σ2 μ2 : St} {p : Nat} (h1 : Po2 σ μ σ1 μ1 p) (h2 : Po2 σ1 μ1 σ2 μ2 p) : Po2 σ μ σ2 μ2 p := ⟨h2.1, h2.2.1.trans h1.2.1, fun q hq => (h2.2.2.1 q hq).trans (h1.2.2.1 q hq), h1.2.2.2.1.tr h2.2.2.2.1, h1.2.2.2.2.tr h2.2.2.2.2⟩
theorem PD.next {σ μ : St} {p : Nat} (h : PD σ μ p) : PD σ μ (p + 1) := ⟨h.1, h.2.1, h.2.2.1, h.2.2.2.1, fun q h1 h2 => h.2.2.2.2 q (by omega) h2⟩
theorem Po2.back {σ μ σ' μ' : St} {p : Nat} (h : Po2 σ μ σ' μ' (p + 1)) (hp : p < 24) (e : μ 24 p = -1) : Po2 σ μ σ' μ' p := by
  obtain ⟨⟨a1, a2, a3, a4, a5⟩, b, c, d1, d2⟩ := h
  refine ⟨⟨a1, a2, a3, a4, fun q h1 h2 => ?_⟩, b, c, d1, d2⟩
  by_cases eq : q = p
  · subst eq
    rw [c q h2, e]
  · exact a5 q (by omega) h2
theorem up_same {σ : St} {k i : Nat} {x : Int32} (h : σ k i = x) : up σ k i x = σ := by
  funext c q
  unfold up cu upd
  split
  · rename_i e
    subst e
    show (if q = i then x else σ c q) = σ c q
    split
    · rename_i e
      subst e
      exact h.symm
    · rfl
  · rfl
theorem xb_upd (T : Nat → Int32) (k : Nat) {v v' : Nat} (hv : v < 2 ^ 31) (hv' : v' < 2 ^ 31) (q : Nat) : xb (upd T k (nI v)) v' q = if q = k then (if v' = v then 1 else 0) else xb T v' q := by
  unfold xb
  by_cases e : q = k
  · subst e
    rw [upd_at, if_pos rfl]
    by_cases e2 : v' = v
    · subst e2
      rw [if_pos rfl, if_pos rfl]
    · rw [if_neg e2, if_neg (fun g => e2 ((nI_eq hv hv').mp g).symm)]
  · rw [upd_ne _ _ e, if_neg e]
theorem wb_same {T : Nat → Int32} {v j w : Nat} (hv : v < 5) (hw : w < 4) (he : T (6 * w + j) = -1) : wb (upd T (6 * w + j) (nI v)) v j = wb T v j + 2 ^ w := by
  have z : xb T v (6 * w + j) = 0 := (xb_0 _ _ _).mpr (by rw [he]; exact ne_m1 (by omega))
  unfold wb
  rw [xb_upd T (6 * w + j) (by omega) (by omega), xb_upd T (6 * w + j) (by omega) (by omega), xb_upd T (6 * w + j) (by omega) (by omega), xb_upd T (6 * w + j) (by omega) (by omega), if_pos (show v = v from rfl)]
  obtain rfl | rfl | rfl | rfl := u4 hw
  · rw [if_pos (show 6 * 0 + j = 6 * 0 + j from rfl), if_neg (show ¬ 6 * 1 + j = 6 * 0 + j by omega), if_neg (show ¬ 6 * 2 + j = 6 * 0 + j by omega), if_neg (show ¬ 6 * 3 + j = 6 * 0 + j by omega)]
    omega
  · rw [if_neg (show ¬ 6 * 0 + j = 6 * 1 + j by omega), if_pos (show 6 * 1 + j = 6 * 1 + j from rfl), if_neg (show ¬ 6 * 2 + j = 6 * 1 + j by omega), if_neg (show ¬ 6 * 3 + j = 6 * 1 + j by omega)]
    omega
  · rw [if_neg (show ¬ 6 * 0 + j = 6 * 2 + j by omega), if_neg (show ¬ 6 * 1 + j = 6 * 2 + j by omega), if_pos (show 6 * 2 + j = 6 * 2 + j from rfl), if_neg (show ¬ 6 * 3 + j = 6 * 2 + j by omega)]
    omega
  · rw [if_neg (show ¬ 6 * 0 + j = 6 * 3 + j by omega), if_neg (show ¬ 6 * 1 + j = 6 * 3 + j by omega), if_neg (show ¬ 6 * 2 + j = 6 * 3 + j by omega), if_pos (show 6 * 3 + j = 6 * 3 + j from rfl)]
    omega
theorem wb_cg {T T' : Nat → Int32} {v j : Nat} (h : ∀ u, u < 4 → xb T' v (6 * u + j) = xb T v (6 * u + j)) : wb T' v j = wb T v j := by
  unfold wb
  rw [h 0 (by omega), h 1 (by omega), h 2 (by omega), h 3 (by omega)]
theorem wb_eq {T T' : Nat → Int32} {v j : Nat} (hj : j < 6) (h : ∀ q, q < 24 → T' q = T q) : wb T' v j = wb T v j := wb_cg (fun u hu => by
  unfold xb
  rw [h _ (by omega)])
theorem wb_oth {T : Nat → Int32} {v j w v' j' : Nat} (hv : v < 5) (hv' : v' < 5) (hj : j < 6) (hj' : j' < 6) (he : T (6 * w + j) = -1) (hn : ¬ (v' = v ∧ j' = j)) : wb (upd T (6 * w + j) (nI v)) v' j' = wb T v' j' := by
  refine wb_cg (fun u hu => ?_)
  rw [xb_upd T (6 * w + j) (by omega) (by omega)]
  by_cases e : 6 * u + j' = 6 * w + j
  · rw [if_pos e, if_neg (fun g => hn ⟨g, by omega⟩), e]
    exact ((xb_0 _ _ _).mpr (by rw [he]; exact ne_m1 (by omega))).symm
  · rw [if_neg e]
def wvf (n om : Nat) : Int32 := if n = 0 then nI om else nI om / 2
def cg3 (σ : St) (v w j n : Nat) : St := up (up (up σ 6 4 (σ 6 4 - 1)) 37 (6 * w + j) (nI v)) 39 (6 * v + j) (nI n ||| (1 <<< (nI w &&& 31)))
def cg4 (σ : St) (v w j n om : Nat) : St := up (cg3 σ v w j n) 6 6 (cg3 σ v w j n 6 6 + wvf n om)
def cg5 (σ2 : St) (v w j n om : Nat) : St := up (up (up σ2 6 6 (σ2 6 6 - wvf n om)) 39 (6 * v + j) (nI n)) 37 (6 * w + j) (-1000000005)
theorem d6 {w j : Nat} (hw : w < 4) (hj : j < 6) : nI (6 * w + j) / 6 = nI w := by
  rw [show (6 : Int32) = nI 6 from rfl, pk_div (by omega) (by decide) (by decide), show (6 * w + j) / 6 = w by omega]
theorem m6 {w j : Nat} (hw : w < 4) (hj : j < 6) : nI (6 * w + j) - nI (6 * w + j) / 6 * 6 = nI j := by
  rw [show (6 : Int32) = nI 6 from rfl, pk_rem (by omega) (by decide) (by decide), show (6 * w + j) % 6 = j by omega]
set_option maxRecDepth 100000 in
set_option maxHeartbeats 4000000 in
theorem c_tryGo {G : St → Int32 → Option (St × Int32)} {σ σ2 : St} {v w j n om : Nat} {x : Int32} (hv : v < 5) (hw : w < 4) (hj : j < 6) (hn : n < 16) (hm : fX0_mayBe σ (nI v) (nI j) (nI w) = some (σ, nI 1)) (ht : ¬ σ 6 4 = 0) (e39 : σ 39 (6 * v + j) = nI n) (e34 : σ 34 (6 * v + j) = nI om) (hG : G (cg4 σ v w j n om) (nI (6 * w + j + 1)) = some (σ2, x)) : fX7_tryFilm G σ (nI (6 * w + j)) (nI v) = some (cg5 σ2 v w j n om, nI 0) := by
  have ce : ∀ τ : St, fX0_cell τ (nI v) (nI j) = some (τ, nI (6 * v + j)) := by
    intro τ
    have e : v * 6 + j = 6 * v + j := by omega
    simp (disch := omega) only [fX0_cell, e, eq_self, obn_some, stp, itp, up_at, upd_at, cu_at, up_ne, upd_ne, cu_ne, nI_clamp, nI_lt0, nI_ltP, nI_leP, nI_eqP, nI_add, pk_mul, pk_sub, sub1_lt, pred_lt, if_pos, if_neg, if_true, if_false, false_or, or_false, true_or, or_true, not_true, not_false_iff, li_0, li_1, li_2, li_3, li_4, li_5, li_6, li_7, li_8, li_9, li_10, li_11, li_12, li_13, li_14, li_15, li_16, li_17, li_18, li_19, li_20, li_21, li_22, li_23, li_24, li_25, li_26, li_27, li_28, li_29, li_30, li_31, li_32, li_33, li_34, li_35, li_36, li_37, li_38, li_39, li_40, li_42, li_43, li_48, li_50, li_99, li_100, li_200, li_960, li_999, li_1600, li_9999, li_20000]
  have g30 : ¬ (nI (6 * v + j) < 0 ∨ 30 ≤ 6 * v + j) := fun g => g.elim (nI_pos (by omega)) (by omega)
  have g24 : ¬ (nI (6 * w + j) < 0 ∨ 24 ≤ 6 * w + j) := fun g => g.elim (nI_pos (by omega)) (by omega)
  have e39' : (up σ 6 4 (σ 6 4 - 1)) 39 (6 * v + j) = nI n := by rw [up_ne _ _ _ (by decide)]; exact e39
  have e34' : (up σ 6 4 (σ 6 4 - 1)) 34 (6 * v + j) = nI om := by rw [up_ne _ _ _ (by decide)]; exact e34
  unfold cg4 cg3 wvf at hG
  unfold fX7_tryFilm cg5 wvf
  rw [itp, itp, m6 hw hj, d6 hw hj, st1 hm, if_neg ht, stp, stq (ce _), nI_clamp (show 6 * v + j < 2 ^ 31 by omega), nI_clamp (show 6 * w + j < 2 ^ 31 by omega), if_neg g30, itp, e39', e34', show nI (6 * w + j) + 1 = nI (6 * w + j + 1) from nI_1 _]
  by_cases c : n = 0
  · rw [if_pos c] at hG ⊢
    rw [if_pos (show nI n = 0 from by rw [c]; rfl), if_neg g30, itp, if_neg g24, stp, if_neg g30, stp, stp, stq hG, stp, if_neg g30, stp, if_neg g24, stp]
    rfl
  · rw [if_neg c] at hG ⊢
    rw [if_neg (nI_ne0 (by omega) (by omega)), if_neg g30, itp, if_neg g24, stp, if_neg g30, stp, stp, stq hG, stp, if_neg g30, stp, if_neg g24, stp]
    rfl
def mTry (G : St → Int32 → Int32 → Int32 → Option (St × Int32)) (σ : St) (a1 a2 a3 a4 a5 : Int32) (Kc Ke : St → Option (St × Int32)) : Option (St × Int32) :=
  obn (fX10_mayBe σ a5 a2 a1) fun σ7 r8 =>
  if r8 = 0 then
    Kc σ7
  else
    if (σ7 0 34) = 0 then
      stp (up σ7 0 35 1) fun σ23 =>
      Ke σ23
    else
      stp (up σ7 0 34 ((σ7 0 34) - 1)) fun σ12 =>
      if a4 < 0 ∨ 24 ≤ a4.toNatClampNeg then none else
      stp (up σ12 24 a4.toNatClampNeg a5) fun σ14 =>
      obn (fX10_worthOf σ14 a5 a2 a1) fun σ15 r16 =>
      obn (G σ15 a1 (a2 + 1) (a3 + r16)) fun σ18 r19 =>
      if a4 < 0 ∨ 24 ≤ a4.toNatClampNeg then none else
      stp (up σ18 24 a4.toNatClampNeg (-1)) fun σ22 =>
      Kc σ22
theorem l83_e (G : St → Int32 → Int32 → Int32 → Option (St × Int32)) (K : St → Int32 → Int32 → Int32 → Int32 → Option (St × Int32)) (n : Nat) (σ : St) (a1 a2 a3 a4 a5 : Int32) : fX10_tryFrom_L83 G K (n + 1) σ a1 a2 a3 a4 a5 = (if (σ 0 13) ≤ a5 then K σ a1 a2 a3 a4 else if (σ 0 35) = 0 then (if a4 < 0 ∨ 24 ≤ a4.toNatClampNeg then none else if (σ 12 a4.toNatClampNeg) < 0 then mTry G σ a1 a2 a3 a4 a5 (fun τ => fX10_tryFrom_L83 G K n τ a1 a2 a3 a4 (a5 + 1)) (fun τ => some (τ, 0)) else if a4 < 0 ∨ 24 ≤ a4.toNatClampNeg then none else if (σ 12 a4.toNatClampNeg) = a5 then mTry G σ a1 a2 a3 a4 a5 (fun τ => fX10_tryFrom_L83 G K n τ a1 a2 a3 a4 (a5 + 1)) (fun τ => some (τ, 0)) else fX10_tryFrom_L83 G K n σ a1 a2 a3 a4 (a5 + 1)) else K σ a1 a2 a3 a4) := by
  rw [fX10_tryFrom_L83]
  rfl
def mg2 (μ : St) (v w j : Nat) : St := up (up μ 0 34 (μ 0 34 - 1)) 24 (6 * w + j) (nI v)
theorem m_worth {μ : St} {v w j om : Nat} (hv : v < 5) (hw : w < 4) (hj : j < 6) (e11 : μ 11 (6 * v + j) = nI om) {n : Nat} (hh : (¬ n = 0) ↔ (1 ≤ w ∧ μ 24 (6 * (w - 1) + j) = nI v)) : fX10_worthOf μ (nI v) (nI j) (nI w) = some (μ, wvf n om) := by
  have ix : (6 : Int32) * nI v + nI j = nI (6 * v + j) := by
    rw [show (6 : Int32) = nI 6 from rfl, pk_mul, nI_add]
  unfold fX10_worthOf wvf
  rw [ix, if_neg (nI_in (show 6 * v + j < 30 by omega) (by decide)), nI_clamp (show 6 * v + j < 2 ^ 31 by omega), e11, itp]
  by_cases c : w = 0
  · rw [if_pos (show nI w ≤ 0 from by rw [c]; decide), if_pos (Classical.byContradiction (fun g => by have := hh.mp g; omega))]
  · have iw : (6 : Int32) * (nI w - 1) + nI j = nI (6 * (w - 1) + j) := by
      rw [dg_m1 (by omega), show (6 : Int32) = nI 6 from rfl, pk_mul, nI_add]
    rw [if_neg (nI_nle (by omega) (by omega)), iw, if_neg (nI_in (show 6 * (w - 1) + j < 24 by omega) (by decide)), nI_clamp (show 6 * (w - 1) + j < 2 ^ 31 by omega)]
    by_cases c2 : μ 24 (6 * (w - 1) + j) = nI v
    · rw [if_pos c2, if_neg (hh.mpr ⟨by omega, c2⟩)]
    · rw [if_neg c2, if_pos (Classical.byContradiction (fun g => c2 (hh.mp g).2))]
theorem m_tryGo {G : St → Int32 → Int32 → Int32 → Option (St × Int32)} {μ μ2 : St} {v w j : Nat} {s wv x : Int32} (hw : w < 4) (hj : j < 6) (hm : fX10_mayBe μ (nI v) (nI j) (nI w) = some (μ, nI 1)) (ht : ¬ μ 0 34 = 0) (hwo : fX10_worthOf (mg2 μ v w j) (nI v) (nI j) (nI w) = some (mg2 μ v w j, wv)) (hG : G (mg2 μ v w j) (nI w) (nI (j + 1)) (s + wv) = some (μ2, x)) (Kc Ke : St → Option (St × Int32)) : mTry G μ (nI w) (nI j) s (nI (6 * w + j)) (nI v) Kc Ke = Kc (up μ2 24 (6 * w + j) (-1)) := by
  have g24 : ¬ (nI (6 * w + j) < 0 ∨ 24 ≤ 6 * w + j) := fun g => g.elim (nI_pos (by omega)) (by omega)
  unfold mg2 at hwo hG
  unfold mTry
  rw [st1 hm, if_neg ht, stp, nI_clamp (show 6 * w + j < 2 ^ 31 by omega), if_neg g24, stp, stq hwo, show nI j + 1 = nI (j + 1) from nI_1 j, stq hG, if_neg g24, stp]
set_option maxRecDepth 100000 in
set_option maxHeartbeats 4000000 in
theorem t_try {h f W v w j : Nat} {br : Nat → Nat} {Gc : St → Int32 → Option (St × Int32)} {Gm : St → Int32 → Int32 → Int32 → Option (St × Int32)} (hv : v < 5) (hj : j < h) (hw : w ≤ W) (hG : ∀ (σ μ : St) (s : Int32), PS σ μ h f W br → PD σ μ (6 * w + j + 1) → σ 6 5 = 0 → σ 6 6 = s → ∃ σ' μ', Gc σ (nI (6 * w + j + 1)) = some (σ', nI 0) ∧ Gm μ (nI w) (nI (j + 1)) s = some (μ', nI 0) ∧ Po2 σ μ σ' μ' (6 * w + j + 1)) {σ μ : St} (hs : PS σ μ h f W br) (hd : PD σ μ (6 * w + j)) (h0 : σ 6 5 = 0) : ∃ σ' μ', fX7_tryFilm Gc σ (nI (6 * w + j)) (nI v) = some (σ', nI 0) ∧ ((∀ Kc Ke, mTry Gm μ (nI w) (nI j) (σ 6 6) (nI (6 * w + j)) (nI v) Kc Ke = Kc μ') ∨ ((∀ Kc Ke, mTry Gm μ (nI w) (nI j) (σ 6 6) (nI (6 * w + j)) (nI v) Kc Ke = Ke μ') ∧ ¬ μ' 0 35 = 0)) ∧ Po2 σ μ σ' μ' (6 * w + j) := by
  have h3 := hs.1.2.2
  have W3 := hs.2.2.1.2.2
  have w4 : w < 4 := by omega
  obtain ⟨x, a1, a2⟩ := c_may hs hd hv hj w4
  obtain ⟨y, b1, b2⟩ := m_may hs hd hv hj w4
  rcases a2 with ⟨rfl, a2⟩ | ⟨rfl, a2⟩
  · rcases b2 with ⟨rfl, b2⟩ | ⟨rfl, b2⟩
    · by_cases ht : σ 6 4 = 0
      · have htm : μ 0 34 = 0 := by rw [← hd.1.1]; exact ht
        refine ⟨up σ 6 5 1, up μ 0 35 1, ?_, Or.inr ⟨fun Kc Ke => ?_, ?_⟩, ?_⟩
        · unfold fX7_tryFilm
          rw [itp, itp, m6 w4 (by omega), d6 w4 (by omega), st1 a1, if_pos ht, stp]
          rfl
        · unfold mTry
          rw [st1 b1, if_pos htm, stp]
        · rw [up_at, upd_at]
          decide
        · exact ⟨⟨⟨hd.1.1, rfl, hd.1.2.2⟩, hd.2⟩, rfl, fun _ _ => rfl, ⟨fun c c1 _ _ _ => up_ne _ _ _ c1, rfl⟩, ⟨fun c c1 _ _ => up_ne _ _ _ c1, fun t _ _ t3 => by rw [up_at, upd_ne _ _ t3]⟩⟩
      · have htm : ¬ μ 0 34 = 0 := by rw [← hd.1.1]; exact ht
        have ep : μ 24 (6 * w + j) = -1 := hd.2.2.2.2 _ (Nat.le_refl _) (by omega)
        have wl := wb_lt (μ 24) v j
        have e39 := hd.2.2.2.1 v hv j (by omega)
        obtain ⟨q1, om, q2, q3, q4⟩ := hs.2.2.2.2.1 (6 * v + j) (by omega)
        have half := S1_half w4 b2.1
        have dz : wb (μ 24) v j / 2 ^ w = 0 := (wb_div (μ 24) v j (t := w) (by omega)).mpr (fun u hu hwu => pd_emp hd (by omega) (by omega) (by omega))
        have or := sh3 w w4 _ wl dz
        have hwo : fX10_worthOf (mg2 μ v w j) (nI v) (nI j) (nI w) = some (mg2 μ v w j, wvf (wb (μ 24) v j) om) := by
          refine m_worth hv w4 (by omega) (by show μ 11 _ = _; exact q4) ?_
          rw [half]
          constructor
          · rintro ⟨g1, g2⟩
            refine ⟨g1, ?_⟩
            show upd (μ 24) (6 * w + j) (nI v) (6 * (w - 1) + j) = nI v
            rw [upd_ne _ _ (by omega)]
            exact g2
          · rintro ⟨g1, g2⟩
            refine ⟨g1, ?_⟩
            have g3 : upd (μ 24) (6 * w + j) (nI v) (6 * (w - 1) + j) = nI v := g2
            rw [upd_ne _ _ (by omega)] at g3
            exact g3
        have hs' : PS (cg4 σ v w j (wb (μ 24) v j) om) (mg2 μ v w j) h f W br := hs
        have hd' : PD (cg4 σ v w j (wb (μ 24) v j) om) (mg2 μ v w j) (6 * w + j + 1) := by
          refine ⟨⟨?_, hd.1.2.1, hd.1.2.2⟩, hd.2.1, ?_, fun v' hv' j' hj' => ?_, fun q h1 h2 => ?_⟩
          · show σ 6 4 - 1 = μ 0 34 - 1
            rw [hd.1.1]
          · exact qN.put hd.2.2.1 (6 * w + j) hv
          · show upd (σ 39) (6 * v + j) _ (6 * v' + j') = nI (wb (upd (μ 24) (6 * w + j) (nI v)) v' j')
            by_cases e : v' = v ∧ j' = j
            · obtain ⟨rfl, rfl⟩ := e
              rw [upd_at, or, wb_same hv w4 ep]
            · rw [upd_ne _ _ (show ¬ 6 * v' + j' = 6 * v + j by omega), wb_oth hv hv' (by omega) hj' ep e]
              exact hd.2.2.2.1 v' hv' j' hj'
          · show upd (μ 24) (6 * w + j) (nI v) q = -1
            rw [upd_ne _ _ (by omega)]
            exact hd.2.2.2.2 q (by omega) h2
        have e66 : (cg4 σ v w j (wb (μ 24) v j) om) 6 6 = σ 6 6 + wvf (wb (μ 24) v j) om := rfl
        obtain ⟨σ2, μ2, c1, c2, c3, c4, c5, c6, c7⟩ := hG _ _ _ hs' hd' h0 e66
        refine ⟨cg5 σ2 v w j (wb (μ 24) v j) om, up μ2 24 (6 * w + j) (-1), c_tryGo hv w4 (by omega) wl a1 ht e39 (q1.trans q4) c1, Or.inl (fun Kc Ke => m_tryGo w4 (by omega) b1 htm hwo c2 Kc Ke), ?_⟩
        have tr : ∀ q, q < 24 → (up μ2 24 (6 * w + j) (-1)) 24 q = μ 24 q := by
          intro q hq
          rw [up_at]
          by_cases e : q = 6 * w + j
          · subst e
            rw [upd_at, ep]
          · rw [upd_ne _ _ e, c5 q hq]
            show upd (μ 24) (6 * w + j) (nI v) q = _
            rw [upd_ne _ _ e]
        refine ⟨⟨c3.1, c3.2.1, qN.none c3.2.2.1 (6 * w + j), fun v' hv' j' hj' => ?_, fun q h1 h2 => ?_⟩, ?_, tr, ?_, ?_⟩
        · rw [wb_eq hj' tr]
          show upd (σ2 39) (6 * v + j) (nI (wb (μ 24) v j)) (6 * v' + j') = _
          by_cases e : v' = v ∧ j' = j
          · obtain ⟨rfl, rfl⟩ := e
            rw [upd_at]
          · rw [upd_ne _ _ (show ¬ 6 * v' + j' = 6 * v + j by omega), c3.2.2.2.1 v' hv' j' hj', wb_eq hj' c5]
            show nI (wb (upd (μ 24) (6 * w + j) (nI v)) v' j') = _
            rw [wb_oth hv hv' (by omega) hj' ep e]
        · rw [tr q h2]
          exact hd.2.2.2.2 q h1 h2
        · show σ2 6 6 - wvf (wb (μ 24) v j) om = σ 6 6
          rw [c4, e66]
          exact Int32.add_sub_cancel _ _
        · refine ⟨fun c k1 k2 k3 k4 => ?_, ?_⟩
          · show (cg5 σ2 v w j (wb (μ 24) v j) om) c = σ c
            unfold cg5
            rw [up_ne _ _ _ k2, up_ne _ _ _ k4, up_ne _ _ _ k1, c6.1 c k1 k2 k3 k4]
            unfold cg4 cg3
            rw [up_ne _ _ _ k1, up_ne _ _ _ k4, up_ne _ _ _ k2, up_ne _ _ _ k1]
          · show σ2 6 3 = σ 6 3
            exact c6.2
        · refine ⟨fun c k1 k2 k3 => ?_, fun t t1 t2 t3 => ?_⟩
          · rw [up_ne _ _ _ k2, c7.1 c k1 k2 k3]
            unfold mg2
            rw [up_ne _ _ _ k2, up_ne _ _ _ k1]
          · rw [up_ne _ _ _ (by decide), c7.2 t t1 t2 t3]
            show upd (μ 0) 34 _ t = _
            rw [upd_ne _ _ t2]
    · exact absurd a2 b2
  · rcases b2 with ⟨rfl, b2⟩ | ⟨rfl, b2⟩
    · exact absurd b2 a2
    · refine ⟨σ, μ, ?_, Or.inl (fun Kc Ke => ?_), Po2.rf hd⟩
      · unfold fX7_tryFilm
        rw [itp, itp, m6 w4 (by omega), d6 w4 (by omega), st0 a1]
        rfl
      · unfold mTry
        rw [st0 b1]
