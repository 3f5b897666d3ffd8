theorem nI_lt0 {n : Nat} (h : n < 2 ^ 31) : (nI n < nI 0) = False := eq_false (fun c => absurd ((nI_ltI h (by decide)).mp c) (Nat.not_lt_zero n))
theorem nI_ltP {a b : Nat} (ha : a < 2 ^ 31) (hb : b < 2 ^ 31) : (nI a < nI b) = (a < b) := propext (nI_ltI ha hb)
theorem nI_leP {a b : Nat} (ha : a < 2 ^ 31) (hb : b < 2 ^ 31) : (nI a ≤ nI b) = (a ≤ b) := propext (nI_leI ha hb)
theorem nI_eqP {a b : Nat} (ha : a < 2 ^ 31) (hb : b < 2 ^ 31) : (nI a = nI b) = (a = b) := propext (nI_eq ha hb)
theorem cs3 (x : Int32) (n : Nat) (hn : n < 2 ^ 31) : x < nI 0 ∨ (¬ x < nI 0 ∧ nI n ≤ x) ∨ ∃ j, j < n ∧ x = nI j := by
  rcases pk_ix x hn with h | h | h
  · exact Or.inl h
  · by_cases h0 : x < nI 0
    · exact Or.inl h0
    · exact Or.inr (Or.inl ⟨h0, h⟩)
  · exact Or.inr (Or.inr h)
theorem lt_toInt {x y : Int32} : x < y ↔ x.toInt < y.toInt := Int32.lt_iff_toInt_lt
theorem le_toInt {x y : Int32} : x ≤ y ↔ x.toInt ≤ y.toInt := Int32.le_iff_toInt_le
theorem cs4 (x : Int32) (lo hi : Nat) (hl : lo ≤ hi) (hh : hi < 2 ^ 31) : x < nI lo ∨ (¬ x < nI lo ∧ nI hi < x) ∨ ∃ j, lo ≤ j ∧ j ≤ hi ∧ x = nI j := by
  by_cases h1 : x < nI lo
  · exact Or.inl h1
  by_cases h2 : nI hi < x
  · exact Or.inr (Or.inl ⟨h1, h2⟩)
  right; right
  have h0 : ¬ x < 0 := by
    intro h
    rw [lt_toInt] at h h1
    rw [nI_toInt (by omega)] at h1
    have : (0 : Int32).toInt = 0 := by decide
    omega
  obtain ⟨j, hj, rfl⟩ := nI_of h0
  rw [nI_ltI hj (by omega)] at h1
  rw [nI_ltI hh hj] at h2
  exact ⟨j, by omega, by omega, rfl⟩
theorem sub1_lt {n : Nat} {x : Int32} (hn : n < 2 ^ 30) : (nI n - nI 1 < x) = (nI n ≤ x) := by
  rw [lt_toInt, le_toInt, pk_sub_toInt hn (by decide), nI_toInt (by omega)]
  apply propext
  omega
theorem obn_some {α : Type} (σ : St) (r : Int32) (k : St → Int32 → Option α) : obn (some (σ, r)) k = k σ r := rfl
theorem up_at (σ : St) (k i : Nat) (x : Int32) : up σ k i x k = upd (σ k) i x := by simp [up, cu]
theorem up_ne (σ : St) {k k' : Nat} (i : Nat) (x : Int32) (h : ¬ k' = k) : up σ k i x k' = σ k' := by simp [up, cu, h]
theorem cu_at (σ : St) (k : Nat) (τ : Nat → Int32) : cu σ k τ k = τ := by simp [cu]
theorem cu_ne (σ : St) {k k' : Nat} (τ : Nat → Int32) (h : ¬ k' = k) : cu σ k τ k' = σ k' := by simp [cu, h]
theorem upd_at (f : Nat → Int32) (i : Nat) (x : Int32) : upd f i x i = x := by simp [upd]
theorem upd_ne (f : Nat → Int32) {i j : Nat} (x : Int32) (h : ¬ j = i) : upd f i x j = f j := by simp [upd, h]
def qR (n lo hi : Nat) (a b : Nat → Int32) : Prop := ∀ j, j < n → a j = b j ∧ ∃ q, lo ≤ q ∧ q < hi ∧ b j = nI q
def qN (f : Nat) (a b : Nat → Int32) : Prop := ∀ j, j < 24 → (a j = -1000000005 ∧ b j = -1) ∨ ∃ q, q < f ∧ a j = nI q ∧ b j = nI q
def qS (a b : Int32) (u v : Nat → Int32) : Prop := (a = -1 ∧ b = -1) ∨ ∃ n, n ≤ 24 ∧ a = nI n ∧ b = nI n ∧ ∀ j, j < n → u j = v j
def qF (u : Nat → Int32) : Prop := ∀ j, j < 24 → fits .short (.int (u j)) = true
def RR (σ μ : St) (h r k f : Nat) : Prop :=
  (σ 1 5 = nI h ∧ μ 0 0 = nI h ∧ h ≤ 6) ∧ (σ 2 2 = nI r ∧ μ 0 7 = nI r ∧ r ≤ 8) ∧ (σ 3 5 = nI k ∧ μ 0 10 = nI k ∧ k ≤ 6) ∧ (σ 5 6 = nI f ∧ μ 0 13 = nI f ∧ f ≤ 5) ∧
  qR h 0 4 (σ 12) (μ 1) ∧ qR h 1 1000 (σ 13) (μ 2) ∧ qR 6 0 10 (σ 14) (μ 3) ∧ qR 6 0 10000 (σ 15) (μ 4) ∧ qR 36 0 100 (σ 16) (μ 5) ∧ (qR 36 0 4 (σ 33) (μ 6) ∧ ∀ j, j < 6 → σ 33 (7 * j) = nI 0) ∧
  qR r 1 20001 (σ 17) (μ 7) ∧ ((∀ j, j < 8 → σ 18 j = μ 8 j) ∧ ∀ j, r ≤ j → j < 8 → σ 18 j = nI 0) ∧ qR k 0 h (σ 19) (μ 9) ∧ qR 40 0 201 (σ 20) (μ 10) ∧ qR 30 0 1000 (σ 34) (μ 11) ∧
  qN f (σ 35) (μ 12) ∧ qN 5 (σ 36) (μ 13) ∧ (σ 40 0 = μ 0 17 ∧ σ 40 1 = μ 0 18 ∧ σ 40 2 = μ 0 19 ∧ (∃ q, q ≤ 100 ∧ μ 0 17 = nI q) ∧ ∃ q, q ≤ 100 ∧ μ 0 18 = nI q) ∧
  (qS (σ 8 1) (μ 14 0) (σ 42) (μ 15) ∧ qF (σ 42)) ∧ (qS (σ 9 1) (μ 14 1) (σ 43) (fun j => μ 15 (24 + j)) ∧ qF (σ 43))
def Rg (σ μ : St) : Prop := ∃ h r k f : Nat, RR σ μ h r k f
def Sm (X Y : Option (St × Int32)) : Prop := ∃ (σ μ : St) (x : Int32), X = some (σ, x) ∧ Y = some (μ, x) ∧ Rg σ μ
theorem Sm.mk {σ μ : St} {x y : Int32} (h : x = y) (hR : Rg σ μ) : Sm (some (σ, x)) (some (μ, y)) := ⟨σ, μ, x, rfl, by rw [h], hR⟩
theorem qR.put {n lo hi : Nat} {a b : Nat → Int32} (h : qR n lo hi a b) (i : Nat) {q : Nat} (h1 : lo ≤ q) (h2 : q < hi) : qR n lo hi (upd a i (nI q)) (upd b i (nI q)) := by
  intro j hj
  by_cases e : j = i
  · subst e
    rw [upd_at, upd_at]
    exact ⟨rfl, q, h1, h2, rfl⟩
  · rw [upd_ne _ _ e, upd_ne _ _ e]
    exact h j hj
theorem qR.snoc {n lo hi : Nat} {a b : Nat → Int32} (h : qR n lo hi a b) {q : Nat} (h1 : lo ≤ q) (h2 : q < hi) : qR (n + 1) lo hi (upd a n (nI q)) (upd b n (nI q)) := by
  intro j hj
  by_cases e : j = n
  · subst e
    rw [upd_at, upd_at]
    exact ⟨rfl, q, h1, h2, rfl⟩
  · rw [upd_ne _ _ e, upd_ne _ _ e]
    exact h j (by omega)
theorem qR.wider {n lo hi hi' : Nat} {a b : Nat → Int32} (h : qR n lo hi a b) (hh : hi ≤ hi') : qR n lo hi' a b := fun j hj => by
  obtain ⟨e, q, h1, h2, h3⟩ := h j hj
  exact ⟨e, q, h1, by omega, h3⟩
theorem qR.less {n n' lo hi : Nat} {a b : Nat → Int32} (h : qR n lo hi a b) (hn : n' ≤ n) : qR n' lo hi a b := fun j hj => h j (by omega)
theorem qN.wider {f f' : Nat} {a b : Nat → Int32} (h : qN f a b) (hf : f ≤ f') : qN f' a b := fun j hj => by
  rcases h j hj with h | ⟨q, h1, h2, h3⟩
  · exact Or.inl h
  · exact Or.inr ⟨q, by omega, h2, h3⟩
theorem pred_lt {n : Nat} {x : Int32} (h1 : 1 ≤ n) (hn : n < 2 ^ 30) : (nI (n - 1) < x) = (nI n ≤ x) := by
  rw [lt_toInt, le_toInt, nI_toInt (by omega), nI_toInt (by omega)]
  apply propext
  omega
theorem li_0 : (0 : Int32) = nI 0 := rfl
theorem li_1 : (1 : Int32) = nI 1 := rfl
theorem li_2 : (2 : Int32) = nI 2 := rfl
theorem li_3 : (3 : Int32) = nI 3 := rfl
theorem li_4 : (4 : Int32) = nI 4 := rfl
theorem li_5 : (5 : Int32) = nI 5 := rfl
theorem li_6 : (6 : Int32) = nI 6 := rfl
theorem li_7 : (7 : Int32) = nI 7 := rfl
theorem li_8 : (8 : Int32) = nI 8 := rfl
theorem li_9 : (9 : Int32) = nI 9 := rfl
theorem li_10 : (10 : Int32) = nI 10 := rfl
theorem li_11 : (11 : Int32) = nI 11 := rfl
theorem li_12 : (12 : Int32) = nI 12 := rfl
theorem li_13 : (13 : Int32) = nI 13 := rfl
theorem li_14 : (14 : Int32) = nI 14 := rfl
theorem li_15 : (15 : Int32) = nI 15 := rfl
theorem li_16 : (16 : Int32) = nI 16 := rfl
theorem li_17 : (17 : Int32) = nI 17 := rfl
theorem li_18 : (18 : Int32) = nI 18 := rfl
theorem li_19 : (19 : Int32) = nI 19 := rfl
theorem li_20 : (20 : Int32) = nI 20 := rfl
theorem li_21 : (21 : Int32) = nI 21 := rfl
theorem li_22 : (22 : Int32) = nI 22 := rfl
theorem li_23 : (23 : Int32) = nI 23 := rfl
theorem li_24 : (24 : Int32) = nI 24 := rfl
theorem li_25 : (25 : Int32) = nI 25 := rfl
theorem li_26 : (26 : Int32) = nI 26 := rfl
theorem li_27 : (27 : Int32) = nI 27 := rfl
theorem li_28 : (28 : Int32) = nI 28 := rfl
theorem li_29 : (29 : Int32) = nI 29 := rfl
theorem li_30 : (30 : Int32) = nI 30 := rfl
theorem li_31 : (31 : Int32) = nI 31 := rfl
theorem li_32 : (32 : Int32) = nI 32 := rfl
theorem li_33 : (33 : Int32) = nI 33 := rfl
theorem li_34 : (34 : Int32) = nI 34 := rfl
theorem li_35 : (35 : Int32) = nI 35 := rfl
theorem li_36 : (36 : Int32) = nI 36 := rfl
theorem li_37 : (37 : Int32) = nI 37 := rfl
theorem li_38 : (38 : Int32) = nI 38 := rfl
theorem li_39 : (39 : Int32) = nI 39 := rfl
theorem li_40 : (40 : Int32) = nI 40 := rfl
theorem li_42 : (42 : Int32) = nI 42 := rfl
theorem li_43 : (43 : Int32) = nI 43 := rfl
theorem li_48 : (48 : Int32) = nI 48 := rfl
theorem li_50 : (50 : Int32) = nI 50 := rfl
theorem li_99 : (99 : Int32) = nI 99 := rfl
theorem li_100 : (100 : Int32) = nI 100 := rfl
theorem li_200 : (200 : Int32) = nI 200 := rfl
theorem li_960 : (960 : Int32) = nI 960 := rfl
theorem li_999 : (999 : Int32) = nI 999 := rfl
theorem li_1600 : (1600 : Int32) = nI 1600 := rfl
theorem li_9999 : (9999 : Int32) = nI 9999 := rfl
theorem li_20000 : (20000 : Int32) = nI 20000 := rfl
