def LW (D : va_G) (Y : YT) (bP : Nat) (A : Nat → Prop) (s : State) (ws : va_W) (H : Heap) (locs : List Loc) : Prop :=
  va_K D clL (tyL Y) s ∧ va_P D clL ws H ∧ va_D A ws ∧ va_S A s.heap H locs ∧ (∀ q : Nat, s.heap.size ≤ q → A q) ∧ NW s ∧ PX bP A s ∧ va_AO "ReelNight$Sheet" s
def PN (D : va_G) (Y : YT) (bP : Nat) (ws : va_W) (sz : Nat) (U : State) : Prop :=
  U.heap.size = sz ∧ va_P D clL ws U.heap ∧ va_K D clL (tyL Y) U ∧ va_D (fun _ => True) ws ∧ NW U ∧ PX bP (va_A ws sz) U ∧ va_AO "ReelNight$Sheet" U
def BN (D : va_G) (Y : YT) (ws : va_W) (sz : Nat) (w1 : va_W) (t : State) : Prop :=
  va_P D clL w1 t.heap ∧ va_K D clL (tyL Y) t ∧ va_D (va_A ws sz) w1
def CN (l : Launch) (y : MethodName) (wsd : List Cond) (rm : Room) (mc ms : Nat) (D : va_G) (Y : YT) (bP : Nat) (av : List Value) (ws : va_W) (pst : (Nat → Nat) → Prop) (post : (Nat → Nat) → va_W) : Prop :=
  ∀ sz : Nat, Met l y wsd rm (va_Pc av (PN D Y bP ws sz)) (va_Qv pst (fun u t => BN D Y ws sz (post u) t) (va_A ws sz)) mc ms (va_A ws sz)
def gl (l : List Nat) : Nat → Nat := fun k => l.getD k 0
section LRULES
variable {p : Program} {l : Launch} {e : Env} {R : Room} {s : State} {m : MethodId} {args : Array Value} {below : List Frame} {meth : Method} {c : Code} {H : Heap} {locs : List Loc} {cells slots : Nat} {Q : State → Prop}
variable {cc : ByteArray} {pc : Nat} {ls : Array Slot} {rest : List Value} {D : va_G} {Y : YT} {bP : Nat} {A : Nat → Prop} {ws : va_W} {sz : Nat} {a : Nat}
theorem n_start {av : List Value} (hv : va_Pc av (PN D Y bP ws sz) args s) : args = av.toArray ∧ sz = s.heap.size ∧ LW D Y bP (va_A ws s.heap.size) s ws s.heap [] := by
  obtain ⟨h1, h2, h3, h4, h5, h6, h7⟩ := hv
  subst h2
  exact ⟨h1, rfl, h4, h3, h5.self, va_S.rf, fun _ h => Or.inr h, h6, h7⟩
theorem n_blind {av : List Value} : FrameBlind (va_Pc av (PN D Y bP ws sz)) := by
  intro a U g' mk h
  obtain ⟨h1, h2, h3, h4, h5, h6, ⟨h7, h8⟩, h10⟩ := h
  exact ⟨h1, h2, h3, va_K.moved (u := U) (U := U.calling g' mk a) (Vm.Alike.refl U.vm) h4, h5, NW.same (u := U) (U := U.calling g' mk a) rfl h6, ⟨va_Z.moved (u := U) (U := U.calling g' mk a) (Vm.Alike.refl U.vm) h7, va_T.moved (u := U) (U := U.calling g' mk a) (Vm.Alike.refl U.vm) h8⟩, va_AO.moved (u := U) (U := U.calling g' mk a) (Vm.Alike.refl U.vm) h10⟩
/-- what a callee that has the cells wc of the caller's finds -/
theorem n_pre {wc : va_W} (I : LW D Y bP A s ws H locs) (hP : va_P D clL wc H) (hD : va_D A wc) (hF : ∀ q, va_A wc H.size q → A q) : ∀ U : State, U.heap = H → s.WarmedH U.vm → PN D Y bP wc H.size U := by
  intro U hU hW
  obtain ⟨hK, -, -, hS, hA, hN, ⟨h7, h8⟩, h11⟩ := I
  refine ⟨by rw [hU], by rw [hU]; exact hP, va_K.moved hW.alike hK, hD.weaken (fun _ _ _ _ => trivial), NW.warm hW hN, ⟨?_, ?_⟩, va_AO.moved hW.alike h11⟩
  · rw [hU]; exact va_Z.narrow (va_Z.moved hW.alike (va_Z.kept h7 (fun a h1 h2 => hS.2.1 a h1 h2))) hF
  · rw [hU]; exact va_T.narrow (va_T.moved hW.alike (va_T.kept h8 (fun a h1 h2 => hS.2.1 a h1 h2))) hF
theorem n_free {wc : va_W} (I : LW D Y bP A s ws H locs) (isC : List Nat) (hC : isC.map (fun i => ws[i]?) = wc.map some) : ∀ q, va_A wc H.size q → A q :=
  va_free I.2.2.1 I.2.2.2.1 I.2.2.2.2.1 isC hC
theorem n_cut {wc : va_W} (I : LW D Y bP A s ws H locs) (isC : List Nat) (hC : isC.map (fun i => ws[i]?) = wc.map some) (hn : va_nd isC = true) : va_P D clL wc H ∧ va_D A wc := by
  refine ⟨?_, I.2.2.1.sub isC hn hC⟩
  intro k q hq
  have h1 : (isC.map (fun i => ws[i]?))[k]? = some (some q) := by rw [hC, List.getElem?_map, hq]; rfl
  rw [List.getElem?_map] at h1
  cases hi : isC[k]? with
  | none => rw [hi] at h1; cases h1
  | some i => rw [hi] at h1; exact I.2.1 i q (Option.some.inj h1)
theorem n_callI {Ts wsd : List Cond} {own : String} {index maxL nL k mc ms b : Nat} {wc wr : va_W} {As st : List Value} {y : MethodName} {bytes : ByteArray} {rm : Room} {pst : (Nat → Nat) → Prop} {post : (Nat → Nat) → va_W} (I : LW D Y bP A s ws H locs) (F : CallFix p m c cc nL s args Ts own) (hM : CN l y wsd rm mc ms D Y bP (.ref b :: As) wc pst post) (cw : CallB R s args own index y bytes maxL none wsd rm mc ms k ∧ y.name = "<init>" ∧ (Cond.instanceMethod y).before args s = true) (isC isR : List Nat) (hC : isC.map (fun i => ws[i]?) = wc.map some) (hR : isR.map (fun i => ws[i]?) = wr.map some) (hnC : va_nd isC = true) (hnR : va_nd isR = true) (hdis : ∀ i ∈ isR, i ∉ isC) (hn : As.length = k) (hsz : ls.size = nL) (hst : st = As.reverse ++ .ref b :: rest) (hW : (rest.map fun v => v.category).sum ≤ 8) (hdg : decode cc pc = .ok (.invokespecial index, 3)) (hf : cells + mc ≤ R.cells ∧ slots + ms ≤ R.slots)
    (kk : ∀ (u : Nat → Nat) (H1 : Heap) (locs1 : List Loc), pst u → LW D Y bP A s (wr ++ post u) H1 locs1 → W p l e R s m args below meth c H1 locs1 (cells + mc) (slots + ms) Q (F0 m (pc + 3) ls rest)) : W p l e R s m args below meth c H locs cells slots Q (F0 m pc ls st) := by
  subst hst
  obtain ⟨hPc, hDc⟩ := n_cut I isC hC hnC
  have hFc := n_free I isC hC
  exact va_callv (va_runI (As := As) (rest := rest) F (hM H.size) cw ⟨n_blind, fun U hU hW => ⟨rfl, n_pre I hPc hDc hFc U hU hW⟩⟩ rfl hn hsz rfl (lv_room hW) hdg hf) I.2.2.2.1 (fun q _ h => hFc q h) hFc (fun u t H1 locs1 ht hvm hw hB hz hk hS => by
    obtain ⟨b1, b2, b3⟩ := hB
    rw [ht] at b1
    obtain ⟨j1, j2⟩ := va_join I.2.1 I.2.2.1 isC isR hC hR hnR hdis hk hFc b1 b3
    exact kk u H1 locs1 hw ⟨I.1, j1, j2, hS, I.2.2.2.2⟩)
theorem n_callIN {Ts wsd : List Cond} {own host : String} {index maxL nL k mc ms b : Nat} {wc wr : va_W} {As st : List Value} {y : MethodName} {bytes : ByteArray} {rm : Room} {pst : (Nat → Nat) → Prop} {post : (Nat → Nat) → va_W} (I : LW D Y bP A s ws H locs) (F : CallFix p m c cc nL s args Ts own) (hM : CN l y wsd rm mc ms D Y bP (.ref b :: As) wc pst post) (cw : va_CN R s args own index y host bytes maxL none wsd rm mc ms k ∧ y.name = "<init>" ∧ (Cond.instanceMethod y).before args s = true) (isC isR : List Nat) (hC : isC.map (fun i => ws[i]?) = wc.map some) (hR : isR.map (fun i => ws[i]?) = wr.map some) (hnC : va_nd isC = true) (hnR : va_nd isR = true) (hdis : ∀ i ∈ isR, i ∉ isC) (hn : As.length = k) (hsz : ls.size = nL) (hst : st = As.reverse ++ .ref b :: rest) (hW : (rest.map fun v => v.category).sum ≤ 8) (hdg : decode cc pc = .ok (.invokespecial index, 3)) (hf : cells + mc ≤ R.cells ∧ slots + ms ≤ R.slots)
    (kk : ∀ (u : Nat → Nat) (H1 : Heap) (locs1 : List Loc), pst u → LW D Y bP A s (wr ++ post u) H1 locs1 → W p l e R s m args below meth c H1 locs1 (cells + mc) (slots + ms) Q (F0 m (pc + 3) ls rest)) : W p l e R s m args below meth c H locs cells slots Q (F0 m pc ls st) := by
  subst hst
  obtain ⟨hPc, hDc⟩ := n_cut I isC hC hnC
  have hFc := n_free I isC hC
  exact va_callv (va_runIN (As := As) (rest := rest) F (hM H.size) cw ⟨n_blind, fun U hU hW => ⟨rfl, n_pre I hPc hDc hFc U hU hW⟩⟩ rfl hn hsz rfl (lv_room hW) hdg hf) I.2.2.2.1 (fun q _ h => hFc q h) hFc (fun u t H1 locs1 ht hvm hw hB hz hk hS => by
    obtain ⟨b1, b2, b3⟩ := hB
    rw [ht] at b1
    obtain ⟨j1, j2⟩ := va_join I.2.1 I.2.2.1 isC isR hC hR hnR hdis hk hFc b1 b3
    exact kk u H1 locs1 hw ⟨I.1, j1, j2, hS, I.2.2.2.2⟩)
/-- a static callee that has a world of cells by their numbers (Arrays.fill) -/
theorem n_vS {Ts wsd : List Cond} {own : String} {index maxL nL k : Nat} {wr : va_W} {As st : List Value} {y : MethodName} {bytes : ByteArray} {ret : Option FieldType} {rm : Room} {n : Nat} {g : Nat → Nat} {K : Nat → (Nat → Int32) → va_E} {σ σ1 : St} {r1 : Int32} (I : LW D Y bP A s ws H locs) (F : CallFix p m c cc nL s args Ts own) (hM : Cv l y wsd rm D n g K Y bP As σ (σ1, r1)) (cw : CallB R s args own index y bytes maxL ret wsd rm 0 0 k ∧ (Cond.static y).before args s = true) (isC isR : List Nat) (hC : isC.map (fun i => ws[i]?) = (wd n g K σ).map some) (hR : isR.map (fun i => ws[i]?) = wr.map some) (hnC : va_nd isC = true) (hnR : va_nd isR = true) (hdis : ∀ i ∈ isR, i ∉ isC) (hn : As.length = k) (hsz : ls.size = nL) (hst : st = As.reverse ++ rest) (hW : (rest.map fun v => v.category).sum ≤ 8) (hdg : decode cc pc = .ok (.invokestatic index, 3)) (hf : cells ≤ R.cells ∧ slots ≤ R.slots)
    (kk : ∀ (H1 : Heap) (locs1 : List Loc), LW D Y bP A s (wr ++ wd n g K σ1) H1 locs1 → W p l e R s m args below meth c H1 locs1 cells slots Q (F0 m (pc + 3) ls rest)) : W p l e R s m args below meth c H locs cells slots Q (F0 m pc ls st) := by
  subst hst
  obtain ⟨hPc, hDc⟩ := n_cut I isC hC hnC
  have hFc := n_free I isC hC
  exact va_callv (va_runS (As := As) (rest := rest) F (hM H.size) cw ⟨j_blind, fun U hU hW => ⟨rfl, by
    obtain ⟨a1, a2, a3, a4, a5, a6, -⟩ := n_pre I hPc hDc hFc U hU hW
    exact ⟨a1, a2, a3, a4, a5, a6⟩⟩⟩ rfl hn hsz rfl (lv_room hW) hdg hf) I.2.2.2.1 (fun q _ h => hFc q h) hFc (fun u t H1 locs1 ht hvm hw hB hz hk hS => by
    subst hw
    obtain ⟨b1, b2, b3⟩ := hB
    rw [ht] at b1
    obtain ⟨j1, j2⟩ := va_join I.2.1 I.2.2.1 isC isR hC hR hnR hdis hk hFc b1 b3
    exact kk H1 locs1 ⟨I.1, j1, j2, hS, I.2.2.2.2⟩)
theorem n_get (I : LW D Y bP A s ws H locs) (hx : p.tables.exec = Jvm.exec) (hb : c.code = cc) {own C : String} {T : u_T} {N ci index : Nat} {Ts : List Cond} (hts : ∀ w ∈ Ts, w.before args s = true) (hin : ∀ w ∈ u_ws C T N, w ∈ Ts) (hown : s.vm.findClass own = some m.cls) (b : Nat) {fs : List Value} (he : ws[b]? = some (a, .inr (ci, fs))) (hc : clL[ci]? = some (C, T, N)) (k : Nat) (hk : k < N) (hlink : (Cond.fieldLink own index (T k).1 (T k).2.1 (T k).2.2.1).before args s = true) {v : Value} (hv : fs[k]? = some v) (hdg : decode cc pc = .ok (.getfield index, 3))
    (kk : W p l e R s m args below meth c H locs cells slots Q (F0 m (pc + 3) ls (v :: rest))) : W p l e R s m args below meth c H locs cells slots Q (F0 m pc ls (.ref a :: rest)) :=
  va_get hx hb hts hin hown I.1 I.2.1 b he hc k hk hlink (fun _ h => h) hv hdg kk
theorem n_getN (I : LW D Y bP A s ws H locs) (hx : p.tables.exec = Jvm.exec) (hb : c.code = cc) {own C : String} {T : u_T} {N ci index : Nat} {Ts : List Cond} (hts : ∀ w ∈ Ts, w.before args s = true) (hin : ∀ w ∈ u_ws C T N, w ∈ Ts) (hown : s.vm.findClass own = some m.cls) (b : Nat) {fs : List Value} (he : ws[b]? = some (a, .inr (ci, fs))) (hc : clL[ci]? = some (C, T, N)) (k : Nat) (hk : k < N) (hlink : (own, index, (T k).1, (T k).2.1, (T k).2.2.1, "ReelNight") ∈ fws) {v : Value} (hv : fs[k]? = some v) (hdg : decode cc pc = .ok (.getfield index, 3))
    (kk : W p l e R s m args below meth c H locs cells slots Q (F0 m (pc + 3) ls (v :: rest))) : W p l e R s m args below meth c H locs cells slots Q (F0 m pc ls (.ref a :: rest)) :=
  va_getN hx hb hts hin hown I.1 I.2.1 b he hc k hk (va_Nw.use rfl (I.2.2.2.2.2.1.1 _ hlink)) (fun _ h => h) hv hdg kk
theorem n_putF (I : LW D Y bP A s ws H locs) (hx : p.tables.exec = Jvm.exec) (hb : c.code = cc) {own C : String} {T : u_T} {N ci index : Nat} {Ts : List Cond} (hts : ∀ w ∈ Ts, w.before args s = true) (hin : ∀ w ∈ u_ws C T N, w ∈ Ts) (ty0 : Nat → FieldType) (hty : ∀ k, k < N → parseFieldDescriptor (T k).2.2.1 = some (ty0 k)) (hnm : ∀ a, a < N → ∀ b, b < N → a ≠ b → (T a).2.1 ≠ (T b).2.1) (hown : s.vm.findClass own = some m.cls) (hi : meth.name = "<init>") (b : Nat) {fs : List Value} (he : ws[b]? = some (a, .inr (ci, fs))) (hc : clL[ci]? = some (C, T, N)) (k : Nat) (hk : k < N) (hlink : (Cond.fieldLink own index (T k).1 (T k).2.1 (T k).2.2.1).before args s = true) (hfin : (T k).2.2.2 = true) (hdecl : (T k).1 = own) {v : Value} (hn : narrow (ty0 k) v = v) (hfit : fits (ty0 k) v = true) (hl : k < fs.length) (hdg : decode cc pc = .ok (.putfield index, 3))
    (kk : ∀ (H1 : Heap) (locs1 : List Loc), LW D Y bP A s (ws.set b (a, .inr (ci, fs.set k v))) H1 locs1 → W p l e R s m args below meth c H1 locs1 cells slots Q (F0 m (pc + 3) ls rest)) : W p l e R s m args below meth c H locs cells slots Q (F0 m pc ls (v :: .ref a :: rest)) :=
  va_putF hx hb hts hin ty0 hty hnm hown I.1 I.2.1 I.2.2.1 I.2.2.2.1 b he hc k hk hlink (fun _ h => h) hfin hi hdecl (hty k hk) hn hfit hl hdg (fun H1 locs1 hP hD hS => kk H1 locs1 ⟨I.1, hP, hD, hS, I.2.2.2.2⟩)
theorem n_put (I : LW D Y bP A s ws H locs) (hx : p.tables.exec = Jvm.exec) (hb : c.code = cc) {own C : String} {T : u_T} {N ci index : Nat} {Ts : List Cond} (hts : ∀ w ∈ Ts, w.before args s = true) (hin : ∀ w ∈ u_ws C T N, w ∈ Ts) (ty0 : Nat → FieldType) (hty : ∀ k, k < N → parseFieldDescriptor (T k).2.2.1 = some (ty0 k)) (hnm : ∀ a, a < N → ∀ b, b < N → a ≠ b → (T a).2.1 ≠ (T b).2.1) (hown : s.vm.findClass own = some m.cls) (b : Nat) {fs : List Value} (he : ws[b]? = some (a, .inr (ci, fs))) (hc : clL[ci]? = some (C, T, N)) (k : Nat) (hk : k < N) (hlink : (Cond.fieldLink own index (T k).1 (T k).2.1 (T k).2.2.1).before args s = true) (hfin : (T k).2.2.2 = false) {v : Value} (hn : narrow (ty0 k) v = v) (hfit : fits (ty0 k) v = true) (hl : k < fs.length) (hdg : decode cc pc = .ok (.putfield index, 3))
    (kk : ∀ (H1 : Heap) (locs1 : List Loc), LW D Y bP A s (ws.set b (a, .inr (ci, fs.set k v))) H1 locs1 → W p l e R s m args below meth c H1 locs1 cells slots Q (F0 m (pc + 3) ls rest)) : W p l e R s m args below meth c H locs cells slots Q (F0 m pc ls (v :: .ref a :: rest)) :=
  va_put hx hb hts hin ty0 hty hnm hown I.1 I.2.1 I.2.2.1 I.2.2.2.1 b he hc k hk hlink (fun _ h => h) hfin (hty k hk) hn hfit hl hdg (fun H1 locs1 hP hD hS => kk H1 locs1 ⟨I.1, hP, hD, hS, I.2.2.2.2⟩)
theorem n_arr (I : LW D Y bP A s ws H locs) (hx : p.tables.exec = Jvm.exec) (hb : c.code = cc) {atype : ArrayType} {ty : FieldType} (hty : newarray.typeOf atype = ty) (harr : (Cond.arrayClass ty).before args s = true) (cY : ClassId) (t0 : Nat) (ht : (tyL Y)[t0]? = some (cY, ty)) (hns : ∀ (U : State) (cA : ClassId), va_RA U cA ty = (U.vm.findClass ("[" ++ ty.toString) = some cA)) (hdv : defaultValue ty = .int 0) {n : Int32} {N : Nat} (hn : ¬ n < 0) (hN : n.toNatClampNeg = N) (hbytes : N * componentBytes ty ≤ 536870912) (hcells : cells + 1 ≤ R.cells) (hslots : slots + N ≤ R.slots) (hdg : decode cc pc = .ok (.newarray atype, 2))
    (kk : ∀ (q : Nat) (H1 : Heap), LW D Y bP A s (ws ++ [(q, .inl (cY, N, .inl (fun _ => 0)))]) H1 locs → W p l e R s m args below meth c H1 locs (cells + 1) (slots + N) Q (F0 m (pc + 2) ls (.ref q :: rest))) : W p l e R s m args below meth c H locs cells slots Q (F0 m pc ls (.int n :: rest)) := by
  subst hty
  refine va_newa hx hb harr rfl I.1 I.2.1 I.2.2.1 I.2.2.2.1 I.2.2.2.2.1 (a0 := (N, .inl (fun _ => 0))) (fun cA => by rw [hdv]; rfl) hn hN hbytes hcells hslots hdg (fun q cA H1 hK hP hD hS => ?_)
  have h1 := (hK.2 4 (cA, newarray.typeOf atype) rfl).2
  have h2 := (I.1.2 t0 _ ht).2
  rw [hns] at h1 h2
  have h3 : cA = cY := Option.some.inj (h1.symm.trans h2)
  subst h3
  exact kk q H1 ⟨I.1, hP, hD, hS, I.2.2.2.2⟩
theorem n_newq (I : LW D Y bP A s ws H locs) (hx : p.tables.exec = Jvm.exec) (hb : c.code = cc) {own : String} {index : Nat} (hown : s.vm.findClass own = some m.cls) (hclink : (Cond.classLink own index "ReelNight$Sheet").before args s = true) {n : Int32} {N : Nat} (hn : ¬ n < 0) (hN : n.toNatClampNeg = N) (hbytes : N * 4 ≤ 536870912) (hcells : cells + 1 ≤ R.cells) (hslots : slots + N ≤ R.slots) (hdg : decode cc pc = .ok (.anewarray index, 3))
    (kk : ∀ (q : Nat) (H1 : Heap), LW D Y bP A s (ws ++ [(q, .inl (Y.2.2.2, N, .inr (.inr (.inr (.inr (fun _ => none))))))]) H1 locs → W p l e R s m args below meth c H1 locs (cells + 1) (slots + N) Q (F0 m (pc + 3) ls (.ref q :: rest))) : W p l e R s m args below meth c H locs cells slots Q (F0 m pc ls (.int n :: rest)) := by
  refine va_newq hx hb hown hclink I.2.2.2.2.2.2.2 I.1 I.2.1 I.2.2.1 I.2.2.2.1 I.2.2.2.2.1 hn hN hbytes hcells hslots hdg (fun q cA H1 hK hP hD hS => ?_)
  obtain ⟨_, _, _, _, _, h1⟩ := (hK.2 4 (cA, .object "ReelNight$Sheet") rfl).2
  obtain ⟨_, _, _, _, _, h2⟩ := (I.1.2 3 (Y.2.2.2, .object "ReelNight$Sheet") rfl).2
  have h3 : cA = Y.2.2.2 := Option.some.inj (h1.symm.trans h2)
  subst h3
  exact kk q H1 ⟨I.1, hP, hD, hS, I.2.2.2.2⟩
theorem n_astq (I : LW D Y bP A s ws H locs) (hx : p.tables.exec = Jvm.exec) (hb : c.code = cc) (q0 qk : Nat) {n v : Nat} {vs : List Value} {f : Nat → Option Nat} (ha : ws[q0]? = some (a, .inl (Y.2.2.2, n, .inr (.inr (.inr (.inr f)))))) (hv : ws[qk]? = some (v, .inr (8, vs))) {i : Int32} (hin : vp_in i n) (hdg : decode cc pc = .ok (.aastore, 1))
    (kk : ∀ (H1 : Heap) (locs1 : List Loc), LW D Y bP A s (ws.set q0 (a, .inl (Y.2.2.2, n, .inr (.inr (.inr (.inr (va_up f i.toNatClampNeg (some v)))))))) H1 locs1 → W p l e R s m args below meth c H1 locs1 cells slots Q (F0 m (pc + 1) ls rest)) : W p l e R s m args below meth c H locs cells slots Q (F0 m pc ls (.ref v :: .int i :: .ref a :: rest)) :=
  va_astq hx hb I.1 I.2.1 I.2.2.1 I.2.2.2.1 q0 3 qk 8 ha rfl hv rfl hin hdg (fun H1 locs1 hP hD hS => kk H1 locs1 ⟨I.1, hP, hD, hS, I.2.2.2.2⟩)
theorem n_ast (I : LW D Y bP A s ws H locs) (hx : p.tables.exec = Jvm.exec) (hb : c.code = cc) (q0 : Nat) {n : Nat} {f : Nat → Int32} (ha : ws[q0]? = some (a, .inl (Y.1, n, .inl f))) {i x : Int32} (hin : vp_in i n) (hdg : decode cc pc = .ok (.iastore, 1))
    (kk : ∀ (H1 : Heap) (locs1 : List Loc), LW D Y bP A s (ws.set q0 (a, .inl (Y.1, n, .inl (upd f i.toNatClampNeg x)))) H1 locs1 → W p l e R s m args below meth c H1 locs1 cells slots Q (F0 m (pc + 1) ls rest)) : W p l e R s m args below meth c H locs cells slots Q (F0 m pc ls (.int x :: .int i :: .ref a :: rest)) :=
  va_iast hx hb I.1 I.2.1 I.2.2.1 I.2.2.2.1 q0 0 ha rfl hin hdg (fun H1 locs1 hP hD hS => kk H1 locs1 ⟨I.1, hP, hD, hS, I.2.2.2.2⟩)
theorem n_new (I : LW D Y bP A s ws H locs) (hx : p.tables.exec = Jvm.exec) (hb : c.code = cc) {own C : String} {T : u_T} {N ci index : Nat} {Ts : List Cond} (hts : ∀ w ∈ Ts, w.before args s = true) (hin : ∀ w ∈ u_ws C T N, w ∈ Ts) (ty : Nat → FieldType) (hty : ∀ k, k < N → parseFieldDescriptor (T k).2.2.1 = some (ty k)) (hown : s.vm.findClass own = some m.cls) (hcl : (Cond.classLink own index C).before args s = true) (hinst : (Cond.instantiable C N).before args s = true) (hini : (Cond.initialized C).before args s = true) (hc : clL[ci]? = some (C, T, N)) {fs : List Value} (hfs : ∀ j, j < N → defaultValue (ty j) = vp_V fs j) (hcells : cells + 1 ≤ R.cells) (hslots : slots + N ≤ R.slots) (hdg : decode cc pc = .ok (.new index, 3))
    (kk : ∀ (q : Nat) (H1 : Heap), LW D Y bP A s (ws ++ [(q, .inr (ci, fs))]) H1 locs → W p l e R s m args below meth c H1 locs (cells + 1) (slots + N) Q (F0 m (pc + 3) ls (.ref q :: rest))) : W p l e R s m args below meth c H locs cells slots Q (F0 m pc ls rest) :=
  va_new hx hb hts hin ty hty hown hcl hinst hini I.1 I.2.1 I.2.2.1 I.2.2.2.1 I.2.2.2.2.1 hc hfs hcells hslots hdg (fun q H1 hP hD hS => kk q H1 ⟨I.1, hP, hD, hS, I.2.2.2.2⟩)
theorem n_vret {ws0 : va_W} {pst : (Nat → Nat) → Prop} {post : (Nat → Nat) → va_W} (u : Nat → Nat) (hu : pst u) (I : LW D Y bP (va_A ws0 s.heap.size) s (post u) H locs) (hx : p.tables.exec = Jvm.exec) (hb : c.code = cc) (hr : meth.sig.returnType = none) (hk : meth.locks = false) (hdg : decode cc pc = .ok (.return_, 1)) : W p l e R s m args below meth c H locs cells slots (MQ below (va_Qv pst (fun u t => BN D Y ws0 s.heap.size (post u) t) (va_A ws0 s.heap.size)) args s cells slots (va_A ws0 s.heap.size)) (F0 m pc ls []) :=
  W.vret hx hb hr (fun t ht hW => ⟨⟨u, rfl, hu, by rw [ht]; exact I.2.1, va_K.moved hW.alike I.1, I.2.2.1⟩, I.2.2.2.1.F ht⟩) I.2.2.2.1.2.2 hdg hk
theorem n_perm {ws' : va_W} (I : LW D Y bP A s ws H locs) (is : List Nat) (hn : va_nd is = true) (hs : is.map (fun i => ws[i]?) = ws'.map some) : LW D Y bP A s ws' H locs := by
  obtain ⟨h1, h2⟩ := n_cut I is hs hn
  exact ⟨I.1, h1, h2, I.2.2.2⟩
theorem n_jw {n : Nat} {g : Nat → Nat} {K : Nat → (Nat → Int32) → va_E} {σ : St} (I : LW D Y bP A s (wd n g K σ) H locs) : JW D n g K Y bP A s σ H locs := ⟨I.1, I.2.1, I.2.2.1, I.2.2.2.1, I.2.2.2.2.1, I.2.2.2.2.2.1, I.2.2.2.2.2.2.1⟩
theorem j_lw {n : Nat} {g : Nat → Nat} {K : Nat → (Nat → Int32) → va_E} {σ : St} (I : JW D n g K Y bP A s σ H locs) (h : va_AO "ReelNight$Sheet" s) : LW D Y bP A s (wd n g K σ) H locs := ⟨I.1, I.2.1, I.2.2.1, I.2.2.2.1, I.2.2.2.2.1, I.2.2.2.2.2.1, I.2.2.2.2.2.2, h⟩
end LRULES
