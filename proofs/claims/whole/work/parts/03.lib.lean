abbrev clL : List vw_C := [(RX0, TX0, 7), (RX1, TX1, 6), (RX2, TX2, 11), (RX3, TX3, 1), (RX4, TX4, 3), (RX5, TX5, 3), (RX6, TX6, 9), (RX7, TX7, 8), (RX8, TX8, 2), (RX9, TX9, 5), (RX10, TX10, 37)]
abbrev YT : Type := ClassId × ClassId × ClassId × ClassId
abbrev tyL (Y : YT) : List (ClassId × FieldType) := [(Y.1, .int), (Y.2.1, .short), (Y.2.2.1, .boolean), (Y.2.2.2, .object "ReelNight$Sheet")]
def fws : List (String × Nat × String × String × String × String) := [("ReelNight$Receipts", 33, "ReelNight$Houses", "kinds", "[I", "ReelNight"), ("ReelNight$Receipts", 68, "ReelNight$Houses", "seats", "[I", "ReelNight"), ("ReelNight", 209, "ReelNight$Houses", "seats", "[I", "ReelNight"), ("ReelNight", 83, "ReelNight$Houses", "slacks", "[I", "ReelNight"), ("ReelNight$Night", 128, "ReelNight$Houses", "slacks", "[I", "ReelNight"), ("ReelNight$Receipts", 38, "ReelNight$Houses", "leasts", "[I", "ReelNight"), ("ReelNight", 206, "ReelNight$Houses", "leasts", "[I", "ReelNight"), ("ReelNight$Night", 47, "ReelNight$Houses", "ways", "LReelNight$Pairs;", "ReelNight"), ("ReelNight", 73, "ReelNight$Houses", "ways", "LReelNight$Pairs;", "ReelNight"), ("ReelNight", 53, "ReelNight$Houses", "many", "I", "ReelNight"), ("ReelNight$Receipts", 47, "ReelNight$Houses", "many", "I", "ReelNight"), ("ReelNight$Bookings", 82, "ReelNight$Houses", "many", "I", "ReelNight"), ("ReelNight", 98, "ReelNight$Reels", "frames", "[I", "ReelNight"), ("ReelNight", 104, "ReelNight$Reels", "mends", "[I", "ReelNight"), ("ReelNight$Night", 60, "ReelNight$Reels", "many", "I", "ReelNight"), ("ReelNight", 87, "ReelNight$Reels", "many", "I", "ReelNight"), ("ReelNight", 128, "ReelNight$Rides", "reels", "[I", "ReelNight"), ("ReelNight", 132, "ReelNight$Rides", "froms", "[I", "ReelNight"), ("ReelNight", 135, "ReelNight$Rides", "tos", "[I", "ReelNight"), ("ReelNight", 138, "ReelNight$Rides", "begins", "[I", "ReelNight"), ("ReelNight", 141, "ReelNight$Rides", "ends", "[I", "ReelNight"), ("ReelNight", 148, "ReelNight$Night", "lates", "[I", "ReelNight"), ("ReelNight", 164, "ReelNight$Night", "many", "I", "ReelNight"), ("ReelNight", 118, "ReelNight$Night", "starts", "[I", "ReelNight"), ("ReelNight", 154, "ReelNight$Night", "begins", "[I", "ReelNight"), ("ReelNight", 161, "ReelNight$Night", "causes", "[I", "ReelNight"), ("ReelNight$Bookings", 69, "ReelNight$Search", "best", "[I", "ReelNight"), ("ReelNight$Bookings", 60, "ReelNight$Search", "spent", "Z", "ReelNight"), ("ReelNight$Bookings", 65, "ReelNight$Search", "bestSum", "I", "ReelNight"), ("ReelNight$Search", 82, "ReelNight$Bookings", "houses", "LReelNight$Houses;", "ReelNight"), ("ReelNight", 182, "ReelNight$Bookings", "bars", "LReelNight$Pairs;", "ReelNight"), ("ReelNight$Search", 76, "ReelNight$Bookings", "worths", "[I", "ReelNight"), ("ReelNight", 179, "ReelNight$Bookings", "worths", "[I", "ReelNight"), ("ReelNight$Search", 52, "ReelNight$Bookings", "pins", "[I", "ReelNight"), ("ReelNight", 191, "ReelNight$Bookings", "pins", "[I", "ReelNight"), ("ReelNight", 197, "ReelNight$Bookings", "latest", "[I", "ReelNight"), ("ReelNight$Search", 61, "ReelNight$Bookings", "films", "I", "ReelNight"), ("ReelNight", 169, "ReelNight$Bookings", "films", "I", "ReelNight"), ("ReelNight$Receipts", 64, "ReelNight$Sheet", "heads", "[S", "ReelNight"), ("ReelNight", 247, "ReelNight$Sheet", "heads", "[S", "ReelNight"), ("ReelNight", 203, "ReelNight$Receipts", "rules", "[I", "ReelNight"), ("ReelNight", 215, "ReelNight$Receipts", "sheets", "[LReelNight$Sheet;", "ReelNight"), ("ReelNight$Receipts", 30, "ReelNight", "PRICES", "[I", "ReelNight")]
def mws : List (String × Nat × MethodName × String) := [("ReelNight", 11, ⟨"ReelNight$Houses", "<init>", "()V"⟩, "ReelNight"), ("ReelNight", 18, ⟨"ReelNight$Reels", "<init>", "()V"⟩, "ReelNight"), ("ReelNight$Bookings", 47, ⟨"ReelNight$Search", "<init>", "()V"⟩, "ReelNight"), ("ReelNight$Receipts", 17, ⟨"ReelNight$Sheet", "<init>", "()V"⟩, "ReelNight"), ("ReelNight$Bookings", 56, ⟨"ReelNight$Search", "seek", "(LReelNight$Bookings;LReelNight$Search;I)V"⟩, "ReelNight"), ("ReelNight$Search", 79, ⟨"ReelNight", "place", "(II)I"⟩, "ReelNight"), ("ReelNight$Receipts", 26, ⟨"ReelNight", "within", "(III)Z"⟩, "ReelNight"), ("ReelNight$Receipts", 57, ⟨"ReelNight", "place", "(II)I"⟩, "ReelNight"), ("ReelNight$Sheet", 19, ⟨"ReelNight", "within", "(III)Z"⟩, "ReelNight")]
def mkF (q : String × Nat × String × String × String × String) : Cond := .fieldLinkNest q.1 q.2.1 q.2.2.1 q.2.2.2.1 q.2.2.2.2.1 q.2.2.2.2.2
def mkM (q : String × Nat × MethodName × String) : Cond := .methodLinkNest q.1 q.2.1 q.2.2.1 q.2.2.2
def NW (U : State) : Prop := (∀ q ∈ fws, va_Nw (mkF q) U) ∧ ∀ q ∈ mws, va_Nw (mkM q) U
theorem NW.same {u U : State} (h : u.vm = U.vm) (hN : NW u) : NW U := ⟨fun q hq => va_Nw.same rfl h (hN.1 q hq), fun q hq => va_Nw.same rfl h (hN.2 q hq)⟩
theorem NW.warm {s U : State} (hW : s.WarmedH U.vm) (hN : NW s) : NW U := ⟨fun q hq => va_Nw.warmF hW (hN.1 q hq), fun q hq => va_Nw.warmM hW (hN.2 q hq)⟩
abbrev St : Type := Nat → Nat → Int32
def cu (σ : St) (k : Nat) (τ : Nat → Int32) : St := fun j => if j = k then τ else σ j
def up (σ : St) (k i : Nat) (x : Int32) : St := cu σ k (upd (σ k) i x)
def fl (τ : Nat → Int32) (N : Nat) (x : Int32) : Nat → Int32 := fun j => if j < N then x else τ j
def stp {α : Type} (σ : St) (k : St → Option α) : Option α := k σ
def itp {α : Type} (x : Int32) (k : Int32 → Option α) : Option α := k x
def obn {α : Type} (x : Option (St × Int32)) (k : St → Int32 → Option α) : Option α := match x with
  | none => none
  | some q => k q.1 q.2
theorem o_stp {α : Type} {σ : St} {k : St → Option α} {y : α} (h : stp σ k = some y) : ∃ z, z = σ ∧ k z = some y := ⟨σ, rfl, h⟩
theorem o_itp {α : Type} {x : Int32} {k : Int32 → Option α} {y : α} (h : itp x k = some y) : ∃ z, z = x ∧ k z = some y := ⟨x, rfl, h⟩
theorem o_obn {α : Type} {x : Option (St × Int32)} {k : St → Int32 → Option α} {y : α} (h : obn x k = some y) : ∃ σ r, x = some (σ, r) ∧ k σ r = some y := by
  cases x with
  | none => cases h
  | some q => exact ⟨q.1, q.2, rfl, h⟩
theorem i_t {α : Type} {P : Prop} [Decidable P] {x y : Option α} {z : Option α} (c : P) (h : (if P then x else y) = z) : x = z := by rw [if_pos c] at h; exact h
theorem i_f {α : Type} {P : Prop} [Decidable P] {x y : Option α} {z : Option α} (c : ¬ P) (h : (if P then x else y) = z) : y = z := by rw [if_neg c] at h; exact h
theorem q_ne0 {i : Int32} {N : Nat} (h : ¬ i = 0) (hb : ¬ (i < 0 ∨ N ≤ i.toNatClampNeg)) : ¬ i.toNatClampNeg = 0 := by
  intro h0
  obtain ⟨j, hj, rfl⟩ := nI_of (fun h => hb (Or.inl h))
  rw [nI_clamp hj] at h0
  subst h0
  exact h rfl
theorem nM {s : State} (h : NW s) {own : String} {index : Nat} {y : MethodName} {host : String} (hm : (own, index, y, host) ∈ mws) : va_Nw (.methodLinkNest own index y host) s := h.2 _ hm
def wd (n : Nat) (g : Nat → Nat) (K : Nat → (Nat → Int32) → va_E) (σ : St) : va_W := (List.range n).map (fun k => (g k, K k (σ k)))
theorem wd_get {n : Nat} {g : Nat → Nat} {K : Nat → (Nat → Int32) → va_E} {σ : St} (i : Nat) : (wd n g K σ)[i]? = if i < n then some (g i, K i (σ i)) else none := by
  by_cases h : i < n
  · simp [wd, h]
  · simp [wd, h]
theorem wd_at {n : Nat} {g : Nat → Nat} {K : Nat → (Nat → Int32) → va_E} {σ : St} (k : Nat) (h : k < n) {ev : va_E} (he : K k (σ k) = ev) : (wd n g K σ)[k]? = some (g k, ev) := by
  rw [wd_get, if_pos h, he]
theorem wd_set {n : Nat} {g : Nat → Nat} {K : Nat → (Nat → Int32) → va_E} {σ : St} (k : Nat) {τ : Nat → Int32} {ev : va_E} (he : K k τ = ev) : (wd n g K σ).set k (g k, ev) = wd n g K (cu σ k τ) := by
  subst he
  apply List.ext_getElem?
  intro i
  rw [List.getElem?_set, wd_get, wd_get]
  have hl : (wd n g K σ).length = n := by simp [wd]
  rw [hl]
  by_cases hi : k = i
  · subst hi
    simp [cu]
  · have hi2 : ¬ i = k := fun h => hi h.symm
    simp [cu, hi, hi2]
def prc : Nat → Int32 := fun j => if j = 0 then 3 else if j = 1 then 5 else if j = 2 then 2 else 8
def PX (bP : Nat) (A : Nat → Prop) (s : State) : Prop := va_Z "ReelNight" "PRICES" "[I" (.ref bP) A s s.heap ∧ va_T .int bP 4 (fun j => .int (prc j)) A s s.heap
def JW (D : va_G) (n : Nat) (g : Nat → Nat) (K : Nat → (Nat → Int32) → va_E) (Y : YT) (bP : Nat) (A : Nat → Prop) (s : State) (σ : St) (H : Heap) (locs : List Loc) : Prop :=
  va_K D clL (tyL Y) s ∧ va_P D clL (wd n g K σ) H ∧ va_D A (wd n g K σ) ∧ va_S A s.heap H locs ∧ (∀ q : Nat, s.heap.size ≤ q → A q) ∧ NW s ∧ PX bP A s
def PJ (D : va_G) (n : Nat) (g : Nat → Nat) (K : Nat → (Nat → Int32) → va_E) (Y : YT) (bP : Nat) (σ : St) (sz : Nat) (U : State) : Prop :=
  U.heap.size = sz ∧ va_P D clL (wd n g K σ) U.heap ∧ va_K D clL (tyL Y) U ∧ va_D (fun _ => True) (wd n g K σ) ∧ NW U ∧ PX bP (va_A (wd n g K σ) sz) U
def BJ (D : va_G) (n : Nat) (g : Nat → Nat) (K : Nat → (Nat → Int32) → va_E) (Y : YT) (σ : St) (sz : Nat) (u : St) (t : State) : Prop :=
  va_P D clL (wd n g K u) t.heap ∧ va_K D clL (tyL Y) t ∧ va_D (va_A (wd n g K σ) sz) (wd n g K u)
def Qi (D : va_G) (n : Nat) (g : Nat → Nat) (K : Nat → (Nat → Int32) → va_E) (Y : YT) (σ : St) (res : St × Int32) (sz : Nat) : Array Value → State → Outcome → State → Prop := va_Qi (fun (r : Int32) (u : St) => r = res.2 ∧ u = res.1) (BJ D n g K Y σ sz) (va_A (wd n g K σ) sz)
def Qv (D : va_G) (n : Nat) (g : Nat → Nat) (K : Nat → (Nat → Int32) → va_E) (Y : YT) (σ : St) (res : St × Int32) (sz : Nat) : Array Value → State → Outcome → State → Prop := va_Qv (fun (u : St) => u = res.1) (BJ D n g K Y σ sz) (va_A (wd n g K σ) sz)
def Qr (D : va_G) (n : Nat) (g : Nat → Nat) (K : Nat → (Nat → Int32) → va_E) (Y : YT) (a : Nat) (σ : St) (res : St × Int32) (sz : Nat) : Array Value → State → Outcome → State → Prop := va_Qr (fun (u : St) => u = res.1) (fun u b t => b = a ∧ BJ D n g K Y σ sz u t) (va_A (wd n g K σ) sz)
def Ci (l : Launch) (y : MethodName) (ws : List Cond) (rm : Room) (D : va_G) (n : Nat) (g : Nat → Nat) (K : Nat → (Nat → Int32) → va_E) (Y : YT) (bP : Nat) (av : List Value) (σ : St) (res : St × Int32) : Prop :=
  ∀ sz : Nat, Met l y ws rm (va_Pc av (PJ D n g K Y bP σ sz)) (Qi D n g K Y σ res sz) 0 0 (va_A (wd n g K σ) sz)
def Cv (l : Launch) (y : MethodName) (ws : List Cond) (rm : Room) (D : va_G) (n : Nat) (g : Nat → Nat) (K : Nat → (Nat → Int32) → va_E) (Y : YT) (bP : Nat) (av : List Value) (σ : St) (res : St × Int32) : Prop :=
  ∀ sz : Nat, Met l y ws rm (va_Pc av (PJ D n g K Y bP σ sz)) (Qv D n g K Y σ res sz) 0 0 (va_A (wd n g K σ) sz)
def Cr (l : Launch) (y : MethodName) (ws : List Cond) (rm : Room) (D : va_G) (n : Nat) (g : Nat → Nat) (K : Nat → (Nat → Int32) → va_E) (Y : YT) (bP : Nat) (a : Nat) (av : List Value) (σ : St) (res : St × Int32) : Prop :=
  ∀ sz : Nat, Met l y ws rm (va_Pc av (PJ D n g K Y bP σ sz)) (Qr D n g K Y a σ res sz) 0 0 (va_A (wd n g K σ) sz)
section JRULES
variable {p : Program} {l : Launch} {e : Env} {R : Room} {s : State} {m : MethodId} {args : Array Value} {below : List Frame} {meth : Method} {c : Code} {H : Heap} {locs : List Loc} {cells slots : Nat} {Q : State → Prop}
variable {cc : ByteArray} {pc : Nat} {ls : Array Slot} {rest : List Value} {D : va_G} {n : Nat} {g : Nat → Nat} {K : Nat → (Nat → Int32) → va_E} {Y : YT} {bP : Nat} {A : Nat → Prop} {σ : St} {sz : Nat}
theorem j_start {av : List Value} (hv : va_Pc av (PJ D n g K Y bP σ sz) args s) : args = av.toArray ∧ sz = s.heap.size ∧ JW D n g K Y bP (va_A (wd n g K σ) s.heap.size) s σ s.heap [] := by
  obtain ⟨h1, h2, h3, h4, h5, h6, h7⟩ := hv
  subst h2
  exact ⟨h1, rfl, h4, h3, h5.self, va_S.rf, fun _ h => Or.inr h, h6, h7⟩
theorem j_blind {av : List Value} : FrameBlind (va_Pc av (PJ D n g K Y bP σ sz)) := by
  intro a U g' mk h
  obtain ⟨h1, h2, h3, h4, h5, h6, h7, h8⟩ := h
  exact ⟨h1, h2, h3, va_K.moved (u := U) (U := U.calling g' mk a) (Vm.Alike.refl U.vm) h4, h5, NW.same (u := U) (U := U.calling g' mk a) rfl h6, va_Z.moved (u := U) (U := U.calling g' mk a) (Vm.Alike.refl U.vm) h7, va_T.moved (u := U) (U := U.calling g' mk a) (Vm.Alike.refl U.vm) h8⟩
theorem j_free (I : JW D n g K Y bP A s σ H locs) : ∀ q, va_A (wd n g K σ) H.size q → A q := by
  obtain ⟨-, -, hD, hS, hA, -, -⟩ := I
  intro q h
  rcases h with ⟨k, ev, h⟩ | h
  · exact hD.2 k (q, ev) h
  · exact hA q (Nat.le_trans hS.1 h)
theorem j_pre (I : JW D n g K Y bP A s σ H locs) : ∀ U : State, U.heap = H → s.WarmedH U.vm → PJ D n g K Y bP σ H.size U := by
  intro U hU hW
  have hF := j_free I
  obtain ⟨hK, hP, hD, hS, hA, hN, h7, h8⟩ := I
  refine ⟨by rw [hU], by rw [hU]; exact hP, va_K.moved hW.alike hK, hD.weaken (fun _ _ _ _ => trivial), NW.warm hW hN, ?_, ?_⟩
  · rw [hU]; exact va_Z.narrow (va_Z.moved hW.alike (va_Z.kept h7 (fun a h1 h2 => hS.2.1 a h1 h2))) hF
  · rw [hU]; exact va_T.narrow (va_T.moved hW.alike (va_T.kept h8 (fun a h1 h2 => hS.2.1 a h1 h2))) hF
theorem j_back {u : St} {t : State} {H1 : Heap} {locs1 : List Loc} (I : JW D n g K Y bP A s σ H locs) (ht : t.heap = H1) (hvm : s.vm.Alike t.vm) (hB : BJ D n g K Y σ H.size u t) (hS : va_S A s.heap H1 locs1) : JW D n g K Y bP A s u H1 locs1 := by
  have hF := j_free I
  obtain ⟨hK, -, -, -, hA, hN, hX⟩ := I
  obtain ⟨b1, -, b3⟩ := hB
  exact ⟨hK, by rw [← ht]; exact b1, b3.weaken (fun _ q _ h => hF _ h), hS, hA, hN, hX⟩
theorem j_iV {Ts ws : List Cond} {own C : String} {index maxL nL k b ci N : Nat} {T : u_T} {fs As st : List Value} {y : MethodName} {bytes : ByteArray} {ret : Option FieldType} {rm : Room} {σ1 : St} {r1 : Int32} (I : JW D n g K Y bP A s σ H locs) (F : CallFix p m c cc nL s args Ts own) (hM : Ci l y ws rm D n g K Y bP (.ref (g b) :: As) σ (σ1, r1)) (cw : CallW R s args own C index y bytes maxL ret ws rm 0 0 k) (hb : b < n) (he : K b (σ b) = .inr (ci, fs)) (hci : clL[ci]? = some (C, T, N)) (hn : As.length = k) (hsz : ls.size = nL) (hst : st = As.reverse ++ .ref (g b) :: rest) (hW : (rest.map fun v => v.category).sum ≤ 8) (hdg : decode cc pc = .ok (.invokevirtual index, 3)) (hf : cells ≤ R.cells ∧ slots ≤ R.slots)
    (kk : ∀ (H1 : Heap) (locs1 : List Loc), JW D n g K Y bP A s σ1 H1 locs1 → W p l e R s m args below meth c H1 locs1 cells slots Q (F0 m (pc + 3) ls (.int r1 :: rest))) : W p l e R s m args below meth c H locs cells slots Q (F0 m pc ls st) := by
  subst hst
  exact va_calli (va_runV (As := As) (rest := rest) F (hM H.size) cw ⟨j_blind, va_recv I.1 I.2.1 hci (wd_at b hb he), fun U hU hW => ⟨rfl, j_pre I U hU hW⟩⟩ rfl hn hsz rfl (lv_room hW) hdg hf) I.2.2.2.1 (fun q _ h => j_free I q h) (j_free I) (fun r u t H1 locs1 ht hvm hw hB hz hk hS => by
    obtain ⟨rfl, rfl⟩ := hw
    exact kk H1 locs1 (j_back I ht hvm hB hS))
theorem j_vV {Ts ws : List Cond} {own C : String} {index maxL nL k b ci N : Nat} {T : u_T} {fs As st : List Value} {y : MethodName} {bytes : ByteArray} {ret : Option FieldType} {rm : Room} {σ1 : St} {r1 : Int32} (I : JW D n g K Y bP A s σ H locs) (F : CallFix p m c cc nL s args Ts own) (hM : Cv l y ws rm D n g K Y bP (.ref (g b) :: As) σ (σ1, r1)) (cw : CallW R s args own C index y bytes maxL ret ws rm 0 0 k) (hb : b < n) (he : K b (σ b) = .inr (ci, fs)) (hci : clL[ci]? = some (C, T, N)) (hn : As.length = k) (hsz : ls.size = nL) (hst : st = As.reverse ++ .ref (g b) :: rest) (hW : (rest.map fun v => v.category).sum ≤ 8) (hdg : decode cc pc = .ok (.invokevirtual index, 3)) (hf : cells ≤ R.cells ∧ slots ≤ R.slots)
    (kk : ∀ (H1 : Heap) (locs1 : List Loc), JW D n g K Y bP A s σ1 H1 locs1 → W p l e R s m args below meth c H1 locs1 cells slots Q (F0 m (pc + 3) ls rest)) : W p l e R s m args below meth c H locs cells slots Q (F0 m pc ls st) := by
  subst hst
  exact va_callv (va_runV (As := As) (rest := rest) F (hM H.size) cw ⟨j_blind, va_recv I.1 I.2.1 hci (wd_at b hb he), fun U hU hW => ⟨rfl, j_pre I U hU hW⟩⟩ rfl hn hsz rfl (lv_room hW) hdg hf) I.2.2.2.1 (fun q _ h => j_free I q h) (j_free I) (fun u t H1 locs1 ht hvm hw hB hz hk hS => by
    subst hw
    exact kk H1 locs1 (j_back I ht hvm hB hS))
theorem j_rV {Ts ws : List Cond} {own C : String} {index maxL nL k b ci N x : Nat} {T : u_T} {fs As st : List Value} {y : MethodName} {bytes : ByteArray} {ret : Option FieldType} {rm : Room} {σ1 : St} {r1 : Int32} (I : JW D n g K Y bP A s σ H locs) (F : CallFix p m c cc nL s args Ts own) (hM : Cr l y ws rm D n g K Y bP x (.ref (g b) :: As) σ (σ1, r1)) (cw : CallW R s args own C index y bytes maxL ret ws rm 0 0 k) (hb : b < n) (he : K b (σ b) = .inr (ci, fs)) (hci : clL[ci]? = some (C, T, N)) (hn : As.length = k) (hsz : ls.size = nL) (hst : st = As.reverse ++ .ref (g b) :: rest) (hW : (rest.map fun v => v.category).sum ≤ 8) (hdg : decode cc pc = .ok (.invokevirtual index, 3)) (hf : cells ≤ R.cells ∧ slots ≤ R.slots)
    (kk : ∀ (H1 : Heap) (locs1 : List Loc), JW D n g K Y bP A s σ1 H1 locs1 → W p l e R s m args below meth c H1 locs1 cells slots Q (F0 m (pc + 3) ls (.ref x :: rest))) : W p l e R s m args below meth c H locs cells slots Q (F0 m pc ls st) := by
  subst hst
  exact va_callr (va_runV (As := As) (rest := rest) F (hM H.size) cw ⟨j_blind, va_recv I.1 I.2.1 hci (wd_at b hb he), fun U hU hW => ⟨rfl, j_pre I U hU hW⟩⟩ rfl hn hsz rfl (lv_room hW) hdg hf) I.2.2.2.1 (fun q _ h => j_free I q h) (j_free I) (fun u a1 t H1 locs1 ht hvm hw hB hz hk hS => by
    subst hw
    obtain ⟨rfl, hB⟩ := hB
    exact kk H1 locs1 (j_back I ht hvm hB hS))
theorem j_iS {Ts ws : List Cond} {own : String} {index maxL nL k : Nat} {As st : List Value} {y : MethodName} {bytes : ByteArray} {ret : Option FieldType} {rm : Room} {σ1 : St} {r1 : Int32} (I : JW D n g K Y bP A s σ H locs) (F : CallFix p m c cc nL s args Ts own) (hM : Ci l y ws rm D n g K Y bP As σ (σ1, r1)) (cw : CallB R s args own index y bytes maxL ret ws rm 0 0 k ∧ (Cond.static y).before args s = true) (hn : As.length = k) (hsz : ls.size = nL) (hst : st = As.reverse ++ rest) (hW : (rest.map fun v => v.category).sum ≤ 8) (hdg : decode cc pc = .ok (.invokestatic index, 3)) (hf : cells ≤ R.cells ∧ slots ≤ R.slots)
    (kk : ∀ (H1 : Heap) (locs1 : List Loc), JW D n g K Y bP A s σ1 H1 locs1 → W p l e R s m args below meth c H1 locs1 cells slots Q (F0 m (pc + 3) ls (.int r1 :: rest))) : W p l e R s m args below meth c H locs cells slots Q (F0 m pc ls st) := by
  subst hst
  exact va_calli (va_runS (As := As) (rest := rest) F (hM H.size) cw ⟨j_blind, fun U hU hW => ⟨rfl, j_pre I U hU hW⟩⟩ rfl hn hsz rfl (lv_room hW) hdg hf) I.2.2.2.1 (fun q _ h => j_free I q h) (j_free I) (fun r u t H1 locs1 ht hvm hw hB hz hk hS => by
    obtain ⟨rfl, rfl⟩ := hw
    exact kk H1 locs1 (j_back I ht hvm hB hS))
theorem j_vS {Ts ws : List Cond} {own : String} {index maxL nL k : Nat} {As st : List Value} {y : MethodName} {bytes : ByteArray} {ret : Option FieldType} {rm : Room} {σ1 : St} {r1 : Int32} (I : JW D n g K Y bP A s σ H locs) (F : CallFix p m c cc nL s args Ts own) (hM : Cv l y ws rm D n g K Y bP As σ (σ1, r1)) (cw : CallB R s args own index y bytes maxL ret ws rm 0 0 k ∧ (Cond.static y).before args s = true) (hn : As.length = k) (hsz : ls.size = nL) (hst : st = As.reverse ++ rest) (hW : (rest.map fun v => v.category).sum ≤ 8) (hdg : decode cc pc = .ok (.invokestatic index, 3)) (hf : cells ≤ R.cells ∧ slots ≤ R.slots)
    (kk : ∀ (H1 : Heap) (locs1 : List Loc), JW D n g K Y bP A s σ1 H1 locs1 → W p l e R s m args below meth c H1 locs1 cells slots Q (F0 m (pc + 3) ls rest)) : W p l e R s m args below meth c H locs cells slots Q (F0 m pc ls st) := by
  subst hst
  exact va_callv (va_runS (As := As) (rest := rest) F (hM H.size) cw ⟨j_blind, fun U hU hW => ⟨rfl, j_pre I U hU hW⟩⟩ rfl hn hsz rfl (lv_room hW) hdg hf) I.2.2.2.1 (fun q _ h => j_free I q h) (j_free I) (fun u t H1 locs1 ht hvm hw hB hz hk hS => by
    subst hw
    exact kk H1 locs1 (j_back I ht hvm hB hS))
theorem j_iSN {Ts ws : List Cond} {own host : String} {index maxL nL k : Nat} {As st : List Value} {y : MethodName} {bytes : ByteArray} {ret : Option FieldType} {rm : Room} {σ1 : St} {r1 : Int32} (I : JW D n g K Y bP A s σ H locs) (F : CallFix p m c cc nL s args Ts own) (hM : Ci l y ws rm D n g K Y bP As σ (σ1, r1)) (cw : va_CN R s args own index y host bytes maxL ret ws rm 0 0 k ∧ (Cond.static y).before args s = true ∧ True) (hn : As.length = k) (hsz : ls.size = nL) (hst : st = As.reverse ++ rest) (hW : (rest.map fun v => v.category).sum ≤ 8) (hdg : decode cc pc = .ok (.invokestatic index, 3)) (hf : cells ≤ R.cells ∧ slots ≤ R.slots)
    (kk : ∀ (H1 : Heap) (locs1 : List Loc), JW D n g K Y bP A s σ1 H1 locs1 → W p l e R s m args below meth c H1 locs1 cells slots Q (F0 m (pc + 3) ls (.int r1 :: rest))) : W p l e R s m args below meth c H locs cells slots Q (F0 m pc ls st) := by
  subst hst
  exact va_calli (va_runSN (As := As) (rest := rest) F (hM H.size) cw ⟨j_blind, fun U hU hW => ⟨rfl, j_pre I U hU hW⟩⟩ rfl hn hsz rfl (lv_room hW) hdg hf) I.2.2.2.1 (fun q _ h => j_free I q h) (j_free I) (fun r u t H1 locs1 ht hvm hw hB hz hk hS => by
    obtain ⟨rfl, rfl⟩ := hw
    exact kk H1 locs1 (j_back I ht hvm hB hS))
theorem j_vSN {Ts ws : List Cond} {own host : String} {index maxL nL k : Nat} {As st : List Value} {y : MethodName} {bytes : ByteArray} {ret : Option FieldType} {rm : Room} {σ1 : St} {r1 : Int32} (I : JW D n g K Y bP A s σ H locs) (F : CallFix p m c cc nL s args Ts own) (hM : Cv l y ws rm D n g K Y bP As σ (σ1, r1)) (cw : va_CN R s args own index y host bytes maxL ret ws rm 0 0 k ∧ (Cond.static y).before args s = true ∧ True) (hn : As.length = k) (hsz : ls.size = nL) (hst : st = As.reverse ++ rest) (hW : (rest.map fun v => v.category).sum ≤ 8) (hdg : decode cc pc = .ok (.invokestatic index, 3)) (hf : cells ≤ R.cells ∧ slots ≤ R.slots)
    (kk : ∀ (H1 : Heap) (locs1 : List Loc), JW D n g K Y bP A s σ1 H1 locs1 → W p l e R s m args below meth c H1 locs1 cells slots Q (F0 m (pc + 3) ls rest)) : W p l e R s m args below meth c H locs cells slots Q (F0 m pc ls st) := by
  subst hst
  exact va_callv (va_runSN (As := As) (rest := rest) F (hM H.size) cw ⟨j_blind, fun U hU hW => ⟨rfl, j_pre I U hU hW⟩⟩ rfl hn hsz rfl (lv_room hW) hdg hf) I.2.2.2.1 (fun q _ h => j_free I q h) (j_free I) (fun u t H1 locs1 ht hvm hw hB hz hk hS => by
    subst hw
    exact kk H1 locs1 (j_back I ht hvm hB hS))
theorem j_get (I : JW D n g K Y bP A s σ H locs) (hx : p.tables.exec = Jvm.exec) (hb : c.code = cc) {own C : String} {T : u_T} {N ci index : Nat} {Ts : List Cond} (hts : ∀ w ∈ Ts, w.before args s = true) (hin : ∀ w ∈ u_ws C T N, w ∈ Ts) (hown : s.vm.findClass own = some m.cls) (b : Nat) (hbn : b < n) {fs : List Value} (he : K b (σ b) = .inr (ci, fs)) (hc : clL[ci]? = some (C, T, N)) (k : Nat) (hk : k < N) (hlink : (Cond.fieldLink own index (T k).1 (T k).2.1 (T k).2.2.1).before args s = true) {v : Value} (hv : fs[k]? = some v) (hdg : decode cc pc = .ok (.getfield index, 3))
    (kk : W p l e R s m args below meth c H locs cells slots Q (F0 m (pc + 3) ls (v :: rest))) : W p l e R s m args below meth c H locs cells slots Q (F0 m pc ls (.ref (g b) :: rest)) :=
  va_get hx hb hts hin hown I.1 I.2.1 b (wd_at b hbn he) hc k hk hlink (fun _ h => h) hv hdg kk
theorem j_getN (I : JW D n g K Y bP A s σ H locs) (hx : p.tables.exec = Jvm.exec) (hb : c.code = cc) {own C : String} {T : u_T} {N ci index : Nat} {Ts : List Cond} (hts : ∀ w ∈ Ts, w.before args s = true) (hin : ∀ w ∈ u_ws C T N, w ∈ Ts) (hown : s.vm.findClass own = some m.cls) (b : Nat) (hbn : b < n) {fs : List Value} (he : K b (σ b) = .inr (ci, fs)) (hc : clL[ci]? = some (C, T, N)) (k : Nat) (hk : k < N) (hlink : (own, index, (T k).1, (T k).2.1, (T k).2.2.1, "ReelNight") ∈ fws) {v : Value} (hv : fs[k]? = some v) (hdg : decode cc pc = .ok (.getfield index, 3))
    (kk : W p l e R s m args below meth c H locs cells slots Q (F0 m (pc + 3) ls (v :: rest))) : W p l e R s m args below meth c H locs cells slots Q (F0 m pc ls (.ref (g b) :: rest)) :=
  va_getN hx hb hts hin hown I.1 I.2.1 b (wd_at b hbn he) hc k hk (va_Nw.use rfl (I.2.2.2.2.2.1.1 _ hlink)) (fun _ h => h) hv hdg kk
theorem j_put (I : JW D n g K Y bP A s σ H locs) (hx : p.tables.exec = Jvm.exec) (hb : c.code = cc) {own C : String} {T : u_T} {N ci index : Nat} {Ts : List Cond} (hts : ∀ w ∈ Ts, w.before args s = true) (hin : ∀ w ∈ u_ws C T N, w ∈ Ts) (ty0 : Nat → FieldType) (hty : ∀ k, k < N → parseFieldDescriptor (T k).2.2.1 = some (ty0 k)) (hnm : ∀ a, a < N → ∀ b, b < N → a ≠ b → (T a).2.1 ≠ (T b).2.1) (hown : s.vm.findClass own = some m.cls) (b : Nat) (hbn : b < n) {fs : List Value} (he : K b (σ b) = .inr (ci, fs)) (hc : clL[ci]? = some (C, T, N)) (k : Nat) (hk : k < N) (hlink : (Cond.fieldLink own index (T k).1 (T k).2.1 (T k).2.2.1).before args s = true) (hfin : (T k).2.2.2 = false) {v : Int32} (hn : narrow (ty0 k) (.int v) = .int v) (hfit : fits (ty0 k) (.int v) = true) (hl : k < fs.length) (hs : K b (upd (σ b) k v) = .inr (ci, fs.set k (.int v))) {σ1 : St} (e1 : σ1 = up σ b k v) (hdg : decode cc pc = .ok (.putfield index, 3))
    (kk : ∀ (H1 : Heap) (locs1 : List Loc), JW D n g K Y bP A s σ1 H1 locs1 → W p l e R s m args below meth c H1 locs1 cells slots Q (F0 m (pc + 3) ls rest)) : W p l e R s m args below meth c H locs cells slots Q (F0 m pc ls (.int v :: .ref (g b) :: rest)) := by
  subst e1
  exact va_put hx hb hts hin ty0 hty hnm hown I.1 I.2.1 I.2.2.1 I.2.2.2.1 b (wd_at b hbn he) hc k hk hlink (fun _ h => h) hfin (hty k hk) hn hfit hl hdg (fun H1 locs1 hP hD hS => kk H1 locs1 ⟨I.1, by rw [wd_set b hs] at hP; exact hP, by rw [wd_set b hs] at hD; exact hD, hS, I.2.2.2.2⟩)
theorem j_ald (I : JW D n g K Y bP A s σ H locs) (hx : p.tables.exec = Jvm.exec) (hb : c.code = cc) (b : Nat) (hbn : b < n) {N : Nat} (he : K b (σ b) = .inl (Y.1, N, .inl (σ b))) {i : Int32} (hin : vp_in i N) (hdg : decode cc pc = .ok (.iaload, 1))
    (kk : W p l e R s m args below meth c H locs cells slots Q (F0 m (pc + 1) ls (.int (σ b i.toNatClampNeg) :: rest))) : W p l e R s m args below meth c H locs cells slots Q (F0 m pc ls (.int i :: .ref (g b) :: rest)) :=
  va_iald hx hb I.1 I.2.1 b 0 (wd_at b hbn he) rfl hin hdg kk
theorem j_sald (I : JW D n g K Y bP A s σ H locs) (hx : p.tables.exec = Jvm.exec) (hb : c.code = cc) (b : Nat) (hbn : b < n) {N : Nat} (he : K b (σ b) = .inl (Y.2.1, N, .inl (σ b))) {i : Int32} (hin : vp_in i N) (hdg : decode cc pc = .ok (.saload, 1))
    (kk : W p l e R s m args below meth c H locs cells slots Q (F0 m (pc + 1) ls (.int (σ b i.toNatClampNeg) :: rest))) : W p l e R s m args below meth c H locs cells slots Q (F0 m pc ls (.int i :: .ref (g b) :: rest)) :=
  va_sald hx hb I.1 I.2.1 b 1 (wd_at b hbn he) rfl hin hdg kk
theorem j_zald (I : JW D n g K Y bP A s σ H locs) (hx : p.tables.exec = Jvm.exec) (hb : c.code = cc) (b : Nat) (hbn : b < n) {N : Nat} (he : K b (σ b) = .inl (Y.2.2.1, N, .inl (σ b))) {i : Int32} (hin : vp_in i N) (hdg : decode cc pc = .ok (.baload, 1))
    (kk : W p l e R s m args below meth c H locs cells slots Q (F0 m (pc + 1) ls (.int (σ b i.toNatClampNeg) :: rest))) : W p l e R s m args below meth c H locs cells slots Q (F0 m pc ls (.int i :: .ref (g b) :: rest)) :=
  va_zald hx hb I.1 I.2.1 b 2 (wd_at b hbn he) rfl hin hdg kk
theorem j_qald (I : JW D n g K Y bP A s σ H locs) (hx : p.tables.exec = Jvm.exec) (hb : c.code = cc) (b : Nat) (hbn : b < n) {N : Nat} {f : Nat → Option Nat} (he : K b (σ b) = .inl (Y.2.2.2, N, .inr (.inr (.inr (.inr f))))) {i : Int32} (hin : vp_in i N) (hdg : decode cc pc = .ok (.aaload, 1)) {a : Nat} (hf : f i.toNatClampNeg = some a)
    (kk : W p l e R s m args below meth c H locs cells slots Q (F0 m (pc + 1) ls (.ref a :: rest))) : W p l e R s m args below meth c H locs cells slots Q (F0 m pc ls (.int i :: .ref (g b) :: rest)) :=
  va_aldq hx hb I.1 I.2.1 b 3 (wd_at b hbn he) rfl hin hdg (by rw [hf]; exact kk)
theorem j_ast (I : JW D n g K Y bP A s σ H locs) (hx : p.tables.exec = Jvm.exec) (hb : c.code = cc) (b : Nat) (hbn : b < n) {N : Nat} (he : ∀ τ, K b τ = .inl (Y.1, N, .inl τ)) {i x : Int32} (hin : vp_in i N) {σ1 : St} (e1 : σ1 = up σ b i.toNatClampNeg x) (hdg : decode cc pc = .ok (.iastore, 1))
    (kk : ∀ (H1 : Heap) (locs1 : List Loc), JW D n g K Y bP A s σ1 H1 locs1 → W p l e R s m args below meth c H1 locs1 cells slots Q (F0 m (pc + 1) ls rest)) : W p l e R s m args below meth c H locs cells slots Q (F0 m pc ls (.int x :: .int i :: .ref (g b) :: rest)) := by
  subst e1
  exact va_iast hx hb I.1 I.2.1 I.2.2.1 I.2.2.2.1 b 0 (wd_at b hbn (he _)) rfl hin hdg (fun H1 locs1 hP hD hS => kk H1 locs1 ⟨I.1, by rw [wd_set b (he _)] at hP; exact hP, by rw [wd_set b (he _)] at hD; exact hD, hS, I.2.2.2.2⟩)
theorem j_sast (I : JW D n g K Y bP A s σ H locs) (hx : p.tables.exec = Jvm.exec) (hb : c.code = cc) (b : Nat) (hbn : b < n) {N : Nat} (he : ∀ τ, K b τ = .inl (Y.2.1, N, .inl τ)) {i x : Int32} (hin : vp_in i N) {σ1 : St} (e1 : σ1 = up σ b i.toNatClampNeg (vp_nar .short x)) (hdg : decode cc pc = .ok (.sastore, 1))
    (kk : ∀ (H1 : Heap) (locs1 : List Loc), JW D n g K Y bP A s σ1 H1 locs1 → W p l e R s m args below meth c H1 locs1 cells slots Q (F0 m (pc + 1) ls rest)) : W p l e R s m args below meth c H locs cells slots Q (F0 m pc ls (.int x :: .int i :: .ref (g b) :: rest)) := by
  subst e1
  exact va_sast hx hb I.1 I.2.1 I.2.2.1 I.2.2.2.1 b 1 (wd_at b hbn (he _)) rfl hin hdg (fun H1 locs1 hP hD hS => kk H1 locs1 ⟨I.1, by rw [wd_set b (he _)] at hP; exact hP, by rw [wd_set b (he _)] at hD; exact hD, hS, I.2.2.2.2⟩)
theorem j_zast (I : JW D n g K Y bP A s σ H locs) (hx : p.tables.exec = Jvm.exec) (hb : c.code = cc) (b : Nat) (hbn : b < n) {N : Nat} (he : ∀ τ, K b τ = .inl (Y.2.2.1, N, .inl τ)) {i x : Int32} (hin : vp_in i N) {σ1 : St} (e1 : σ1 = up σ b i.toNatClampNeg (vp_nar .boolean x)) (hdg : decode cc pc = .ok (.bastore, 1))
    (kk : ∀ (H1 : Heap) (locs1 : List Loc), JW D n g K Y bP A s σ1 H1 locs1 → W p l e R s m args below meth c H1 locs1 cells slots Q (F0 m (pc + 1) ls rest)) : W p l e R s m args below meth c H locs cells slots Q (F0 m pc ls (.int x :: .int i :: .ref (g b) :: rest)) := by
  subst e1
  exact va_zast hx hb I.1 I.2.1 I.2.2.1 I.2.2.2.1 b 2 (wd_at b hbn (he _)) rfl hin hdg (fun H1 locs1 hP hD hS => kk H1 locs1 ⟨I.1, by rw [wd_set b (he _)] at hP; exact hP, by rw [wd_set b (he _)] at hD; exact hD, hS, I.2.2.2.2⟩)
theorem j_alen (I : JW D n g K Y bP A s σ H locs) (hx : p.tables.exec = Jvm.exec) (hb : c.code = cc) (b : Nat) (hbn : b < n) {cA : ClassId} {x : vp_A} (he : K b (σ b) = .inl (cA, x)) (t0 : Nat) {ty : FieldType} (ht : (tyL Y)[t0]? = some (cA, ty)) {v : Int32} (hv : Int32.ofNat x.1 = v) (hdg : decode cc pc = .ok (.arraylength, 1))
    (kk : W p l e R s m args below meth c H locs cells slots Q (F0 m (pc + 1) ls (.int v :: rest))) : W p l e R s m args below meth c H locs cells slots Q (F0 m pc ls (.ref (g b) :: rest)) :=
  va_alen hx hb I.1 I.2.1 b t0 (wd_at b hbn he) ht hv hdg kk
theorem j_prices (I : JW D n g K Y bP A s σ H locs) (hx : p.tables.exec = Jvm.exec) (hb : c.code = cc) {own : String} {index : Nat} (hown : s.vm.findClass own = some m.cls) (hlink : (own, index, "ReelNight", "PRICES", "[I", "ReelNight") ∈ fws) (hdg : decode cc pc = .ok (.getstatic index, 3))
    (kk : W p l e R s m args below meth c H locs cells slots Q (F0 m (pc + 3) ls (.ref bP :: rest))) : W p l e R s m args below meth c H locs cells slots Q (F0 m pc ls rest) :=
  va_getsN hx hb I.2.2.2.2.2.2.1 I.2.2.2.1 hown (va_Nw.use rfl (I.2.2.2.2.2.1.1 _ hlink)) (fun _ h => h) hdg kk
theorem j_price (I : JW D n g K Y bP A s σ H locs) (hx : p.tables.exec = Jvm.exec) (hb : c.code = cc) {i : Int32} (hin : vp_in i 4) (hdg : decode cc pc = .ok (.iaload, 1))
    (kk : W p l e R s m args below meth c H locs cells slots Q (F0 m (pc + 1) ls (.int (prc i.toNatClampNeg) :: rest))) : W p l e R s m args below meth c H locs cells slots Q (F0 m pc ls (.int i :: .ref bP :: rest)) :=
  va_ti hx hb I.2.2.2.2.2.2.2 I.2.2.2.1 hin rfl hdg kk
theorem j_copy {ty : FieldType} {cA : ClassId} (I : JW D n g K Y bP A s σ H locs) (hx : p.tables.exec = Jvm.exec) (hb : c.code = cc) (hml : c.maxLocals = ls.size) {own : String} {index : Nat} (hown : s.vm.findClass own = some m.cls) (hlink : (Cond.methodLink own index arraycopyName).before args s = true) (hnat : (Cond.native arraycopyName).before args s = true) (hstat : (Cond.static arraycopyName).before args s = true) (hini : (Cond.initialized "java/lang/System").before args s = true)
    (b0 b1 t0 : Nat) (hb0 : b0 < n) (hb1 : b1 < n) {n0 n1 : Nat} (he0 : ∀ τ, K b0 τ = .inl (cA, n0, .inl τ)) (he1 : ∀ τ, K b1 τ = .inl (cA, n1, .inl τ)) (ht : (tyL Y)[t0]? = some (cA, ty)) (hprim : refKind ty = false) {sp dp k : Int32} (h1 : ¬ sp < 0) (h2 : ¬ dp < 0) (h3 : ¬ k < 0) (h4 : sp.toNatClampNeg + k.toNatClampNeg ≤ n0) (h5 : dp.toNatClampNeg + k.toNatClampNeg ≤ n1) (hfit : ∀ i, i < k.toNatClampNeg → fits ty (.int (σ b0 (sp.toNatClampNeg + i))) = true)
    (hframes : 1 ≤ R.frames) (hlocals : (rest.map fun v => v.category).sum + (nativeFrameWords "java/lang/System" "arraycopy" 5 + 11) ≤ R.locals) (hdg : decode cc pc = .ok (.invokestatic index, 3)) {σ1 : St} (e1 : σ1 = cu σ b1 (va_cpy (σ b0) (σ b1) sp.toNatClampNeg dp.toNatClampNeg k.toNatClampNeg))
    (kk : ∀ (H1 : Heap) (locs1 : List Loc), JW D n g K Y bP A s σ1 H1 locs1 → W p l e R s m args below meth c H1 locs1 cells slots Q (F0 m (pc + 3) ls rest)) : W p l e R s m args below meth c H locs cells slots Q (F0 m pc ls (.int k :: .int dp :: .ref (g b1) :: .int sp :: .ref (g b0) :: rest)) := by
  subst e1
  exact va_copyi hx hb hml hown hlink hnat hstat hini I.1 I.2.1 I.2.2.1 I.2.2.2.1 b0 b1 t0 t0 (wd_at b0 hb0 (he0 _)) (wd_at b1 hb1 (he1 _)) ht ht hprim h1 h2 h3 h4 h5 hfit hframes hlocals hdg (fun H1 locs1 hP hD hS => kk H1 locs1 ⟨I.1, by rw [wd_set b1 (he1 _)] at hP; exact hP, by rw [wd_set b1 (he1 _)] at hD; exact hD, hS, I.2.2.2.2⟩)
theorem j_iret {σ0 : St} {res : St × Int32} {v : Int32} (I : JW D n g K Y bP (va_A (wd n g K σ0) s.heap.size) s σ H locs) (hx : p.tables.exec = Jvm.exec) (hb : c.code = cc) {ty : FieldType} (hr : meth.sig.returnType = some ty) (hnr : narrow ty (.int v) = .int v) (hk : meth.locks = false) (hf : some (σ, v) = some res) (hdg : decode cc pc = .ok (.ireturn, 1)) : W p l e R s m args below meth c H locs cells slots (MQ below (Qi D n g K Y σ0 res s.heap.size) args s cells slots (va_A (wd n g K σ0) s.heap.size)) (F0 m pc ls [.int v]) := by
  cases hf
  exact W.zret hx hb hr hnr (fun t ht hW => ⟨⟨v, σ, rfl, ⟨rfl, rfl⟩, by rw [ht]; exact I.2.1, va_K.moved hW.alike I.1, I.2.2.1⟩, I.2.2.2.1.F ht⟩) I.2.2.2.1.2.2 hdg hk
theorem j_vret {σ0 : St} {res : St × Int32} {v : Int32} (I : JW D n g K Y bP (va_A (wd n g K σ0) s.heap.size) s σ H locs) (hx : p.tables.exec = Jvm.exec) (hb : c.code = cc) (hr : meth.sig.returnType = none) (hk : meth.locks = false) (hf : some (σ, v) = some res) (hdg : decode cc pc = .ok (.return_, 1)) : W p l e R s m args below meth c H locs cells slots (MQ below (Qv D n g K Y σ0 res s.heap.size) args s cells slots (va_A (wd n g K σ0) s.heap.size)) (F0 m pc ls []) := by
  cases hf
  exact W.vret hx hb hr (fun t ht hW => ⟨⟨σ, rfl, rfl, by rw [ht]; exact I.2.1, va_K.moved hW.alike I.1, I.2.2.1⟩, I.2.2.2.1.F ht⟩) I.2.2.2.1.2.2 hdg hk
theorem j_aret {σ0 : St} {res : St × Int32} {v : Int32} {a : Nat} (I : JW D n g K Y bP (va_A (wd n g K σ0) s.heap.size) s σ H locs) (hx : p.tables.exec = Jvm.exec) (hb : c.code = cc) {C : String} (hr : meth.sig.returnType = some (.object C)) (hk : meth.locks = false) (hf : some (σ, v) = some res) (hdg : decode cc pc = .ok (.areturn, 1)) : W p l e R s m args below meth c H locs cells slots (MQ below (Qr D n g K Y a σ0 res s.heap.size) args s cells slots (va_A (wd n g K σ0) s.heap.size)) (F0 m pc ls [.ref a]) := by
  cases hf
  exact W.aret hx hb hr (Or.inl ⟨C, rfl⟩) (Or.inr ⟨a, rfl⟩) (fun t ht hW => ⟨⟨σ, a, rfl, rfl, rfl, by rw [ht]; exact I.2.1, va_K.moved hW.alike I.1, I.2.2.1⟩, I.2.2.2.1.F ht⟩) I.2.2.2.1.2.2 hdg hk
theorem top_eq {x y : Int32} (h : y = x) (k : W p l e R s m args below meth c H locs cells slots Q (F0 m pc ls (.int y :: rest))) : W p l e R s m args below meth c H locs cells slots Q (F0 m pc ls (.int x :: rest)) := by
  subst h
  exact k
end JRULES
def MC (p : Program) (s : State) (m : MethodId) (args : Array Value) (meth : Method) (c : Code) (cc : ByteArray) (nL : Nat) (ret : Option FieldType) (own : String) (ws : List Cond) : Prop :=
  p.tables.exec = Jvm.exec ∧ c.code = cc ∧ meth.sig.returnType = ret ∧ c.maxLocals = nL ∧ s.vm.findClass own = some m.cls ∧ (∀ w ∈ ws, w.before args s = true) ∧ meth.locks = false
theorem o_nb {α : Type} {P : Prop} [Decidable P] {x : Option α} {y : α} (h : (if P then none else x) = some y) : ¬ P ∧ x = some y := by
  by_cases hP : P
  · rw [if_pos hP] at h; cases h
  · rw [if_neg hP] at h; exact ⟨hP, h⟩
theorem o_yb {α : Type} {P : Prop} [Decidable P] {x : Option α} {y : α} (h : (if P then x else none) = some y) : P ∧ x = some y := by
  by_cases hP : P
  · rw [if_pos hP] at h; exact ⟨hP, h⟩
  · rw [if_neg hP] at h; cases h
theorem o_bind {α β : Type} {x : Option α} {f : α → Option β} {y : β} (h : x.bind f = some y) : ∃ z, x = some z ∧ f z = some y := by
  cases x with
  | none => cases h
  | some z => exact ⟨z, rfl, h⟩
theorem fl_0 (σ : St) (b : Nat) (x : Int32) : cu σ b (fl (σ b) 0 x) = σ := by
  funext k j
  by_cases h : k = b
  · subst h; simp [cu, fl]
  · simp [cu, h]
theorem fl_s (σ : St) (b i : Nat) (x : Int32) : up (cu σ b (fl (σ b) i x)) b i x = cu σ b (fl (σ b) (i + 1) x) := by
  funext k j
  by_cases h : k = b
  · subst h
    simp only [up, cu, if_true, upd, fl]
    by_cases hj : j = i
    · subst hj; simp
    · rw [if_neg hj]
      by_cases h2 : j < i
      · rw [if_pos h2, if_pos (by omega)]
      · rw [if_neg h2, if_neg (by omega)]
  · simp [up, cu, h]
theorem o_bool {r : Int32} (h : r = 0 ∨ r = 1) : narrow .boolean (.int r) = .int r := by
  rcases h with rfl | rfl <;> rfl

set_option maxHeartbeats 4000000 in
set_option maxRecDepth 100000 in
theorem ct_J7_fill_53178 (l : Launch) {D : va_G} {n : Nat} {g : Nat → Nat} {K : Nat → (Nat → Int32) → va_E} {Y : YT} {bP : Nat} {σ σ1 : St} (b : Nat) (hbn : b < n) {N : Nat} (he : ∀ τ, K b τ = .inl (Y.1, N, .inl τ)) (hN : N < 2 ^ 31) (v : Int32) (e1 : σ1 = cu σ b (fl (σ b) N v)) : Cv l yJ7_fill_53178 wsJ7_fill_53178 ⟨0, 0, 0, 0⟩ D n g K Y bP [.ref (g b), .int v] σ (σ1, 0) := by
  intro sz
  refine Met.ofW (cc := cJ7_fill_53178) (maxL := 4) (ret := none) (by decide) rfl ?_
  intro p e s m args below meth c s₁ B hml hv
  obtain ⟨rfl, rfl, I⟩ := j_start hv
  have hx := B.exec
  have hb := B.bytes
  have hr := B.returns
  have hlk := B.notSynchronized
  have hl := lv_entry ([.ref (g b), .int v]) (n := 4) (Nat.le_of_ble_eq_true rfl)
  rw [lg_entry_eq]
  generalize (lg_sl ([.ref (g b), .int v]) ++ List.replicate (4 - (lg_sl ([.ref (g b), .int v])).length) Slot.unset).toArray = ls at hl ⊢
  have hl : lv_has ls 4 [(0, .ref (g b)), (1, .int v)] := hl
  refine lv_iconst (v := 0) hx hb dJ7_fill_53178_0 (by decide) ?_
  refine lv_istore_n (lv' := [(2, .int 0), (0, .ref (g b)), (1, .int v)]) hx hb dJ7_fill_53178_1 rfl hl (by decide) rfl (fun ls hl => ?_)
  refine lv_aload_n hx hb dJ7_fill_53178_2 rfl (lv_at hl 1 rfl) ?_
  refine j_alen I hx hb b hbn (he _) 0 rfl (v := nI N) rfl dJ7_fill_53178_3 ?_
  refine lv_istore_n (lv' := [(3, .int (nI N)), (2, .int 0), (0, .ref (g b)), (1, .int v)]) hx hb dJ7_fill_53178_4 rfl hl (by decide) rfl (fun ls hl => ?_)
  have key : ∀ (k i : Nat) (H : Heap) (locs : List Loc) (ls : Array Slot), i + k = N → JW D n g K Y bP (va_A (wd n g K σ) s.heap.size) s (cu σ b (fl (σ b) i v)) H locs → lv_has ls 4 [(0, .ref (g b)), (1, .int v), (2, .int (nI i)), (3, .int (nI N))] → W p l e (headSpec wsJ7_fill_53178 ⟨0, 0, 0, 0⟩).room s m #[.ref (g b), .int v] below meth c H locs 0 0 (MQ below (Qv D n g K Y σ (σ1, 0) s.heap.size) #[.ref (g b), .int v] s 0 0 (va_A (wd n g K σ) s.heap.size)) (F0 m 5 ls []) := by
    intro k
    induction k with
    | zero =>
      intro i H locs ls hi I hl
      have hi : i = N := by omega
      subst hi
      refine lv_iload_n hx hb dJ7_fill_53178_5 rfl (lv_at hl 2 rfl) ?_
      refine lv_iload_n hx hb dJ7_fill_53178_6 rfl (lv_at hl 3 rfl) ?_
      refine lv_icmp_ge (tgt := 20) hx hb dJ7_fill_53178_7 (by decide) (fun c1 => ?_) (fun c1 => absurd (Int32.le_refl _) c1)
      exact j_vret I hx hb hr hlk (congrArg some (Prod.ext e1.symm rfl)) dJ7_fill_53178_20
    | succ k ih =>
      intro i H locs ls hi I hl
      refine lv_iload_n hx hb dJ7_fill_53178_5 rfl (lv_at hl 2 rfl) ?_
      refine lv_iload_n hx hb dJ7_fill_53178_6 rfl (lv_at hl 3 rfl) ?_
      refine lv_icmp_ge (tgt := 20) hx hb dJ7_fill_53178_7 (by decide) (fun c1 => absurd c1 (nI_ge (by omega) hN)) (fun c1 => ?_)
      refine lv_aload_n hx hb dJ7_fill_53178_10 rfl (lv_at hl 0 rfl) ?_
      refine lv_iload_n hx hb dJ7_fill_53178_11 rfl (lv_at hl 2 rfl) ?_
      refine lv_iload_n hx hb dJ7_fill_53178_12 rfl (lv_at hl 1 rfl) ?_
      refine j_ast I hx hb b hbn he (vp_in_nI (show i < N by omega) hN) rfl dJ7_fill_53178_13 (fun H locs I => ?_)
      rw [nI_clamp (show i < 2 ^ 31 by omega), fl_s] at I
      refine lv_iinc (v := nI (i + 1)) (lv' := [(2, .int (nI (i + 1))), (0, .ref (g b)), (1, .int v), (3, .int (nI N))]) hx hb dJ7_fill_53178_14 hl (k := 2) rfl (nI_1 i) (by decide) rfl (fun ls hl => ?_)
      refine lv_goto (tgt := 5) hx hb dJ7_fill_53178_17 (by decide) ?_
      exact ih (i + 1) H locs ls (by omega) I (lv_sub hl [1, 2, 0, 3] rfl)
  exact key N 0 _ _ ls (by omega) (by rw [fl_0]; exact I) (lv_sub hl [2, 3, 1, 0] rfl)
set_option maxHeartbeats 4000000 in
set_option maxRecDepth 100000 in
theorem ct_J7_fill_fb410 (l : Launch) {D : va_G} {n : Nat} {g : Nat → Nat} {K : Nat → (Nat → Int32) → va_E} {Y : YT} {bP : Nat} {σ σ1 : St} (b : Nat) (hbn : b < n) {N : Nat} (he : ∀ τ, K b τ = .inl (Y.2.1, N, .inl τ)) (hN : N < 2 ^ 31) (v : Int32) (e1 : σ1 = cu σ b (fl (σ b) N (vp_nar .short v))) : Cv l yJ7_fill_fb410 wsJ7_fill_fb410 ⟨0, 0, 0, 0⟩ D n g K Y bP [.ref (g b), .int v] σ (σ1, 0) := by
  intro sz
  refine Met.ofW (cc := cJ7_fill_fb410) (maxL := 4) (ret := none) (by decide) rfl ?_
  intro p e s m args below meth c s₁ B hml hv
  obtain ⟨rfl, rfl, I⟩ := j_start hv
  have hx := B.exec
  have hb := B.bytes
  have hr := B.returns
  have hlk := B.notSynchronized
  have hl := lv_entry ([.ref (g b), .int v]) (n := 4) (Nat.le_of_ble_eq_true rfl)
  rw [lg_entry_eq]
  generalize (lg_sl ([.ref (g b), .int v]) ++ List.replicate (4 - (lg_sl ([.ref (g b), .int v])).length) Slot.unset).toArray = ls at hl ⊢
  have hl : lv_has ls 4 [(0, .ref (g b)), (1, .int v)] := hl
  refine lv_iconst (v := 0) hx hb dJ7_fill_fb410_0 (by decide) ?_
  refine lv_istore_n (lv' := [(2, .int 0), (0, .ref (g b)), (1, .int v)]) hx hb dJ7_fill_fb410_1 rfl hl (by decide) rfl (fun ls hl => ?_)
  refine lv_aload_n hx hb dJ7_fill_fb410_2 rfl (lv_at hl 1 rfl) ?_
  refine j_alen I hx hb b hbn (he _) 1 rfl (v := nI N) rfl dJ7_fill_fb410_3 ?_
  refine lv_istore_n (lv' := [(3, .int (nI N)), (2, .int 0), (0, .ref (g b)), (1, .int v)]) hx hb dJ7_fill_fb410_4 rfl hl (by decide) rfl (fun ls hl => ?_)
  have key : ∀ (k i : Nat) (H : Heap) (locs : List Loc) (ls : Array Slot), i + k = N → JW D n g K Y bP (va_A (wd n g K σ) s.heap.size) s (cu σ b (fl (σ b) i (vp_nar .short v))) H locs → lv_has ls 4 [(0, .ref (g b)), (1, .int v), (2, .int (nI i)), (3, .int (nI N))] → W p l e (headSpec wsJ7_fill_fb410 ⟨0, 0, 0, 0⟩).room s m #[.ref (g b), .int v] below meth c H locs 0 0 (MQ below (Qv D n g K Y σ (σ1, 0) s.heap.size) #[.ref (g b), .int v] s 0 0 (va_A (wd n g K σ) s.heap.size)) (F0 m 5 ls []) := by
    intro k
    induction k with
    | zero =>
      intro i H locs ls hi I hl
      have hi : i = N := by omega
      subst hi
      refine lv_iload_n hx hb dJ7_fill_fb410_5 rfl (lv_at hl 2 rfl) ?_
      refine lv_iload_n hx hb dJ7_fill_fb410_6 rfl (lv_at hl 3 rfl) ?_
      refine lv_icmp_ge (tgt := 20) hx hb dJ7_fill_fb410_7 (by decide) (fun c1 => ?_) (fun c1 => absurd (Int32.le_refl _) c1)
      exact j_vret I hx hb hr hlk (congrArg some (Prod.ext e1.symm rfl)) dJ7_fill_fb410_20
    | succ k ih =>
      intro i H locs ls hi I hl
      refine lv_iload_n hx hb dJ7_fill_fb410_5 rfl (lv_at hl 2 rfl) ?_
      refine lv_iload_n hx hb dJ7_fill_fb410_6 rfl (lv_at hl 3 rfl) ?_
      refine lv_icmp_ge (tgt := 20) hx hb dJ7_fill_fb410_7 (by decide) (fun c1 => absurd c1 (nI_ge (by omega) hN)) (fun c1 => ?_)
      refine lv_aload_n hx hb dJ7_fill_fb410_10 rfl (lv_at hl 0 rfl) ?_
      refine lv_iload_n hx hb dJ7_fill_fb410_11 rfl (lv_at hl 2 rfl) ?_
      refine lv_iload_n hx hb dJ7_fill_fb410_12 rfl (lv_at hl 1 rfl) ?_
      refine j_sast I hx hb b hbn he (vp_in_nI (show i < N by omega) hN) rfl dJ7_fill_fb410_13 (fun H locs I => ?_)
      rw [nI_clamp (show i < 2 ^ 31 by omega), fl_s] at I
      refine lv_iinc (v := nI (i + 1)) (lv' := [(2, .int (nI (i + 1))), (0, .ref (g b)), (1, .int v), (3, .int (nI N))]) hx hb dJ7_fill_fb410_14 hl (k := 2) rfl (nI_1 i) (by decide) rfl (fun ls hl => ?_)
      refine lv_goto (tgt := 5) hx hb dJ7_fill_fb410_17 (by decide) ?_
      exact ih (i + 1) H locs ls (by omega) I (lv_sub hl [1, 2, 0, 3] rfl)
  exact key N 0 _ _ ls (by omega) (by rw [fl_0]; exact I) (lv_sub hl [2, 3, 1, 0] rfl)
