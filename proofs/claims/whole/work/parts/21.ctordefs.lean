def KP (g : Nat → Nat) (Y : YT) (k : Nat) (τ : Nat → Int32) : va_E := match k with
  | 0 => .inr (3, [.ref (g 1)])
  | _ => .inl (Y.1, 36, .inl τ)
theorem kp0 (g : Nat → Nat) (Y : YT) (τ : Nat → Int32) : KP g Y 0 τ = .inr (3, [.ref (g 1)]) := rfl
theorem kp1 (g : Nat → Nat) (Y : YT) (τ : Nat → Int32) : KP g Y 1 τ = .inl (Y.1, 36, .inl τ) := rfl

theorem arrV_ext {cA : ClassId} {N : Nat} {z z' : Nat → Value} (h : ∀ j, j < N → z j = z' j) : arrV cA N z = arrV cA N z' := by
  have e : (Array.ofFn (n := N) fun j => z j.val) = (Array.ofFn (n := N) fun j => z' j.val) := congrArg _ (funext fun j => h j.val j.isLt)
  unfold arrV
  rw [e]
theorem n_extq {D : va_G} {Y : YT} {bP : Nat} {A : Nat → Prop} {s : State} {ws : va_W} {H : Heap} {locs : List Loc} {a N : Nat} {cA : ClassId} {f f' : Nat → Option Nat} (I : LW D Y bP A s ws H locs) (k : Nat) (h : ws[k]? = some (a, .inl (cA, N, .inr (.inr (.inr (.inr f)))))) (hf : ∀ j, j < N → f j = f' j) : LW D Y bP A s (ws.set k (a, .inl (cA, N, .inr (.inr (.inr (.inr f')))))) H locs := by
  refine ⟨I.1, I.2.1.set I.2.2.1 h ?_ (fun _ _ => rfl), I.2.2.1.set h, I.2.2.2⟩
  have h1 : H[a]? = some (vp_cell cA (N, .inr (.inr (.inr (.inr f))))) := I.2.1 k _ h
  show H[a]? = some (vp_cell cA (N, .inr (.inr (.inr (.inr f')))))
  rw [h1, vp_cell_q, vp_cell_q]
  exact congrArg some (arrV_ext (fun j hj => by rw [hf j hj]))
theorem n_toWd {D : va_G} {Y : YT} {bP : Nat} {A : Nat → Prop} {s : State} {ws : va_W} {H : Heap} {locs : List Loc} {n : Nat} {g : Nat → Nat} {K : Nat → (Nat → Int32) → va_E} {σ : St} (I : LW D Y bP A s ws H locs) (is : List Nat) (hn : va_nd is = true) (hl : is.length = n) (h : ∀ k, k < n → ws[is.getD k 0]? = some (g k, K k (σ k))) : LW D Y bP A s (wd n g K σ) H locs := by
  refine n_perm I is hn ?_
  apply List.ext_getElem?
  intro i
  rw [List.getElem?_map, List.getElem?_map, wd_get]
  by_cases hi : i < n
  · have h1 : is[i]? = some (is.getD i 0) := by
      rw [List.getD_eq_getElem?_getD, List.getElem?_eq_getElem (by omega)]
      rfl
    rw [h1, if_pos hi]
    exact congrArg some (h i hi)
  · rw [List.getElem?_eq_none (by omega), if_neg hi]
    rfl
def σM00 : St := fun k j => if k = 0 then (if j = 17 then 40 else if j = 18 then 20 else if j = 19 then 1 else 0) else 0
def fX3_init_L22 (K55 : St → Int32 → Int32 → Option (St × Int32)) : Nat → St → Int32 → Int32 → Int32 → Option (St × Int32)
  | 0, _, _, _, _ => none
  | n + 1, σ, a1, a2, a3 =>
    if 6 ≤ a3 then
      K55 σ a1 a2
    else
      if a2 = a3 then
        if ((a2 * 6) + a3) < 0 ∨ 36 ≤ ((a2 * 6) + a3).toNatClampNeg then none else
        stp (up σ 1 ((a2 * 6) + a3).toNatClampNeg 0) fun σ7 =>
        fX3_init_L22 K55 n σ7 a1 a2 (a3 + 1)
      else
        if ((a2 * 6) + a3) < 0 ∨ 36 ≤ ((a2 * 6) + a3).toNatClampNeg then none else
        stp (up σ 1 ((a2 * 6) + a3).toNatClampNeg a1) fun σ5 =>
        fX3_init_L22 K55 n σ5 a1 a2 (a3 + 1)
def fX3_init_L14 (K61 : St → Option (St × Int32)) : Nat → St → Int32 → Int32 → Option (St × Int32)
  | 0, _, _, _ => none
  | n + 1, σ, a1, a2 =>
    if 6 ≤ a2 then
      K61 σ
    else
      fX3_init_L22
        (fun (σ8 : St) (a9 : Int32) (a10 : Int32) =>
          fX3_init_L14 K61 n σ8 a9 (a10 + 1))
        50 σ a1 a2 0
def fX3_init (σ : St) (p0 : Int32) : Option (St × Int32) :=
  fX3_init_L14
    (fun (σ11 : St) =>
      some (σ11, 0))
    50 σ p0 0

def fX10_init_L231 (K266 : St → Option (St × Int32)) : Nat → St → Int32 → Option (St × Int32)
  | 0, _, _ => none
  | n + 1, σ, a1 =>
    if 36 ≤ a1 then
      K266 σ
    else
      if (a1 / 6) = (a1 - a1 / 6 * 6) then
        if a1 < 0 ∨ 36 ≤ a1.toNatClampNeg then none else
        stp (up σ 5 a1.toNatClampNeg 0) fun σ6 =>
        fX10_init_L231 K266 n σ6 (a1 + 1)
      else
        if a1 < 0 ∨ 36 ≤ a1.toNatClampNeg then none else
        stp (up σ 5 a1.toNatClampNeg 10) fun σ4 =>
        fX10_init_L231 K266 n σ4 (a1 + 1)
def fX10_init_L268 (K294 : St → Option (St × Int32)) : Nat → St → Int32 → Option (St × Int32)
  | 0, _, _ => none
  | n + 1, σ, a1 =>
    if 24 ≤ a1 then
      K294 σ
    else
      if a1 < 0 ∨ 24 ≤ a1.toNatClampNeg then none else
      stp (up σ 12 a1.toNatClampNeg (-1)) fun σ10 =>
      if a1 < 0 ∨ 24 ≤ a1.toNatClampNeg then none else
      stp (up σ10 13 a1.toNatClampNeg (-1)) fun σ12 =>
      fX10_init_L268 K294 n σ12 (a1 + 1)
def fX10_init (σ : St) : Option (St × Int32) :=
  fX10_init_L231
    (fun (σ7 : St) =>
      fX10_init_L268
        (fun (σ13 : St) =>
          stp (up σ13 14 (Int32.toNatClampNeg 0) (-1)) fun σ14 =>
          stp (up σ14 14 (Int32.toNatClampNeg 1) (-1)) fun σ15 =>
          some (σ15, 0))
        50 σ7 0)
    50 σ 0
theorem pr_some (x : Int32) (h : (fX3_init (fun _ _ => 0) x).isSome = true) : fX3_init (fun _ _ => 0) x = some ((fX3_init (fun _ _ => 0) x).get h) := (Option.some_get h).symm
theorem pr10_is : (fX3_init (fun _ _ => 0) 10).isSome = true := by decide +kernel
theorem pr0_is : (fX3_init (fun _ _ => 0) 0).isSome = true := by decide +kernel
theorem prM_is : (fX10_init σM00).isSome = true := by decide +kernel
def pr10 : St × Int32 := (fX3_init (fun _ _ => 0) 10).get pr10_is
def pr0 : St × Int32 := (fX3_init (fun _ _ => 0) 0).get pr0_is
def prM : St × Int32 := (fX10_init σM00).get prM_is
theorem pr10_ok : fX3_init (fun _ _ => 0) 10 = some pr10 := pr_some 10 pr10_is
theorem pr0_ok : fX3_init (fun _ _ => 0) 0 = some pr0 := pr_some 0 pr0_is
theorem prM_ok : fX10_init σM00 = some prM := (Option.some_get prM_is).symm
def σC0 : St := fun k => match k with
  | 6 => fun j => if j = 7 then -1 else 0
  | 8 => fun j => if j = 1 then -1 else 0
  | 9 => fun j => if j = 1 then -1 else 0
  | 16 => pr10.1 1
  | 33 => pr0.1 1
  | 35 => fl (fun _ => 0) 24 (-1000000005)
  | 36 => fl (fun _ => 0) 24 (-1000000005)
  | 40 => upd (upd (upd (fun _ => 0) (Int32.toNatClampNeg 0) 40) (Int32.toNatClampNeg 1) 20) (Int32.toNatClampNeg 2) 1
  | _ => fun _ => 0
