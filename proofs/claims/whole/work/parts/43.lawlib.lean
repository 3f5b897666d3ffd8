/-! THE CLAIM OUT OF ONE WALK OF THE LAW'S BODY. Your part is whole_start (and what it stands on); all else here is the same for every law, but numbers. -/
def R_law : String := "ReelNightLaw"
def lw_P (b : Addr) (xs : List Int32) (args : Array Value) (s : State) : Prop := args = #[.ref b] ∧ s.IntsAt b xs ∧ xs.length ≤ 3072 ∧ (Jvm.Cond.and given_1 narrow_1).before args s = true
def lw_Q (_ : Array Value) (s : State) (o : Outcome) (t : State) : Prop := o = .returned (some (.int 1)) ∧ Framed s o t [] 600000 7302250
def lw_Z (below : List Frame) (a : Array Value) (s : State) : State → Prop := fun t => ∃ o, t.status = .running ∧ Ended t below o ∧ lw_Q a s o t
/-- the law's own end, with 1 on the stack, nothing written that was there before, its room as the claim has it -/
theorem lw_ret {p : Program} {l : Launch} {e : Env} {s : State} {m : MethodId} {below : List Frame} {meth : Method} {c : Code} {b : Nat} (hx : p.tables.exec = Jvm.exec) (hb : c.code = code) (hr : meth.sig.returnType = ret) (hlocks : meth.locks = false) {pc : Nat} {H : Heap} {ls : Array Slot} (hdg : decode code pc = .ok (.ireturn, 1)) : W p l e room_1 s m #[Value.ref b] below meth c H [] 600000 7302250 (lw_Z below #[Value.ref b] s) (F0 m pc ls [.int 1]) := by
  intro T hT X
  obtain ⟨fs, hret, hrun, hended, hW, hframe⟩ := X.leave (v := some (.int 1)) (hlocks := hlocks) (fun h => by rw [hr] at h; cases h)
  have hmeth' : T.vm.method? m = some meth := X.method'
  refine ⟨T.setFrames fs, ?_, .returned (some (.int 1)), hrun, hended, rfl, ⟨_, rfl⟩, hW, hframe⟩
  jvm_step X.here [X.here.top, hx, hb, hdg, hmeth', hr, ret, narrow_b1]
  (try refine ⟨rfl, ?_⟩); (try refine ⟨rfl, ?_⟩)
  first | (intro acts; rw [hret _ acts rfl rfl rfl]) | rw [hret _ _ rfl rfl rfl]
  exact Steps.refl _
/-- what holds at the law's entry: the machine, the code, the tables' words (any of lw_tbl by 'hts w (by decide +kernel)'), the script of L ints xs at the cell b, what the Statement gives of the start (any of its parts by flat_of_before) -/
def lw_At (p : Program) (s : State) (m : MethodId) (meth : Method) (c : Code) (b L : Nat) (xs : Nat → Int32) : Prop :=
  p.tables.exec = Jvm.exec ∧ c.code = code ∧ meth.sig.returnType = ret ∧ c.maxLocals = 4 ∧ s.vm.findClass R_law = some m.cls ∧ (∀ w ∈ lw_tbl, w.before #[Value.ref b] s = true) ∧ va_X b L xs s s.heap ∧ b < s.heap.size ∧ meth.locks = false ∧ (Jvm.Cond.and given_1 narrow_1).before #[Value.ref b] s = true
theorem app_l {α : Type} (x y : List α) : (List.range x.length).map (fun i => (x ++ y)[i]?) = x.map some := by
  apply List.ext_getElem?
  intro i
  rw [List.getElem?_map, List.getElem?_map]
  by_cases h : i < x.length
  · rw [List.getElem?_range h]
    show some ((x ++ y)[i]?) = _
    rw [List.getElem?_append_left h, List.getElem?_eq_getElem h]
    rfl
  · rw [List.getElem?_eq_none (by simp; omega), List.getElem?_eq_none (by omega)]
    rfl
theorem app_r {α : Type} (x y : List α) : ((List.range y.length).map (fun j => x.length + j)).map (fun i => (x ++ y)[i]?) = y.map some := by
  apply List.ext_getElem?
  intro i
  rw [List.getElem?_map, List.getElem?_map, List.getElem?_map]
  by_cases h : i < y.length
  · rw [List.getElem?_range h]
    show some ((x ++ y)[x.length + i]?) = _
    rw [List.getElem?_append_right (by omega), show x.length + i - x.length = i by omega, List.getElem?_eq_getElem h]
    rfl
  · rw [List.getElem?_eq_none (by simp; omega), List.getElem?_eq_none (by omega)]
    rfl
theorem wd_len (n : Nat) (g : Nat → Nat) (K : Nat → (Nat → Int32) → va_E) (σ : St) : (wd n g K σ).length = n := by simp [wd]
section LAWR
variable {p : Program} {l : Launch} {e : Env} {R : Room} {s : State} {m : MethodId} {args : Array Value} {below : List Frame} {meth : Method} {c : Code} {H : Heap} {locs : List Loc} {cells slots : Nat} {Q : State → Prop}
variable {cc : ByteArray} {pc : Nat} {ls : Array Slot} {rest : List Value} {D : va_G} {Y : YT} {bP : Nat} {A : Nat → Prop}
theorem l_iV {Ts ws : List Cond} {own C : String} {index maxL nL k bb ci N n q : Nat} {T : u_T} {fs As st : List Value} {y : MethodName} {bytes : ByteArray} {ret : Option FieldType} {rm : Room} {g g2 : Nat → Nat} {K K2 : Nat → (Nat → Int32) → va_E} {σ σ1 σ2 : St} {r1 : Int32} (I : LW D Y bP A s (wd n g K σ ++ wd q g2 K2 σ2) H locs) (F : CallFix p m c cc nL s args Ts own) (hM : Ci l y ws rm D n g K Y bP (.ref (g bb) :: As) σ (σ1, r1)) (cw : CallW R s args own C index y bytes maxL ret ws rm 0 0 k) (hb : bb < n) (he : K bb (σ bb) = .inr (ci, fs)) (hci : clL[ci]? = some (C, T, N)) (hnC : va_nd (List.range n) = true) (hnR : va_nd ((List.range q).map (fun j => n + j)) = true) (hn : As.length = k) (hsz : ls.size = nL) (hst : st = As.reverse ++ .ref (g bb) :: rest) (hW : (rest.map fun v => v.category).sum ≤ 8) (hdg : decode cc pc = .ok (.invokevirtual index, 3)) (hf : cells ≤ R.cells ∧ slots ≤ R.slots)
    (kk : ∀ (H1 : Heap) (locs1 : List Loc), LW D Y bP A s (wd q g2 K2 σ2 ++ wd n g K σ1) H1 locs1 → W p l e R s m args below meth c H1 locs1 cells slots Q (F0 m (pc + 3) ls (.int r1 :: rest))) : W p l e R s m args below meth c H locs cells slots Q (F0 m pc ls st) := by
  subst hst
  have hC : (List.range n).map (fun i => (wd n g K σ ++ wd q g2 K2 σ2)[i]?) = (wd n g K σ).map some := by
    have h := app_l (wd n g K σ) (wd q g2 K2 σ2)
    rw [wd_len] at h
    exact h
  have hRr : ((List.range q).map (fun j => n + j)).map (fun i => (wd n g K σ ++ wd q g2 K2 σ2)[i]?) = (wd q g2 K2 σ2).map some := by
    have h := app_r (wd n g K σ) (wd q g2 K2 σ2)
    rw [wd_len, wd_len] at h
    exact h
  have hdis : ∀ i ∈ (List.range q).map (fun j => n + j), i ∉ List.range n := by
    intro i h1 h2
    obtain ⟨j, -, rfl⟩ := List.mem_map.mp h1
    have := List.mem_range.mp h2
    omega
  obtain ⟨hPc, hDc⟩ := n_cut I _ hC hnC
  have hFc := n_free I _ hC
  exact va_calli (va_runV (As := As) (rest := rest) F (hM H.size) cw ⟨j_blind, va_recv I.1 hPc hci (wd_at bb hb he), fun U hU hW => ⟨rfl, by
    obtain ⟨a1, a2, a3, a4, a5, a6, -⟩ := n_pre I hPc hDc hFc U hU hW
    exact ⟨a1, a2, a3, a4, a5, a6⟩⟩⟩ rfl hn hsz rfl (lv_room hW) hdg hf) I.2.2.2.1 (fun q _ h => hFc q h) hFc (fun r u t H1 locs1 ht hvm hw hB hz hk hS => by
    obtain ⟨rfl, rfl⟩ := hw
    obtain ⟨b1, b2, b3⟩ := hB
    rw [ht] at b1
    obtain ⟨j1, j2⟩ := va_join I.2.1 I.2.2.1 _ _ hC hRr hnR hdis hk hFc b1 b3
    exact kk H1 locs1 ⟨I.1, j1, j2, hS, I.2.2.2.2⟩)
end LAWR
theorem nd44 : va_nd (List.range 44) = true := by decide +kernel
theorem nd27 : va_nd (List.range 27) = true := by decide +kernel
theorem nd44r : va_nd ((List.range 27).map (fun j => 44 + j)) = true := by decide +kernel
theorem nd27r : va_nd ((List.range 44).map (fun j => 27 + j)) = true := by decide +kernel
