theorem iw_X3_init_X3 : ∀ w ∈ u_ws RX3 TX3 1, w ∈ wsX3_init := by decide +kernel
set_option maxHeartbeats 4000000 in
set_option maxRecDepth 100000 in
theorem bX3_init_L22 {p : Program} {l : Launch} {e : Env} {R : Room} {s : State} {m : MethodId} {args : Array Value} {below : List Frame} {meth : Method} {c : Code} {D : va_G} {g : Nat → Nat} {Y : YT} {bP : Nat} {A : Nat → Prop} {cells slots : Nat} {Q : State → Prop} {res : St × Int32} (C0 : MC p s m args meth c cX3_init 4 none RX3 wsX3_init) {K55 : St → Int32 → Int32 → Option (St × Int32)} (hK55 : ∀ (σ : St) (a1 : Int32) (a2 : Int32) (H : Heap) (locs : List Loc) (ls : Array Slot), K55 σ a1 a2 = some res → JW D 2 g (KP g Y) Y bP A s σ H locs → lv_has ls 4 [(0, .ref (g 0)), (1, .int a1), (2, .int a2)] → W p l e R s m args below meth c H locs cells slots Q (F0 m 55 ls [])) : ∀ (n : Nat) (σ : St) (a1 : Int32) (a2 : Int32) (a3 : Int32) (H : Heap) (locs : List Loc) (ls : Array Slot), fX3_init_L22 K55 n σ a1 a2 a3 = some res → JW D 2 g (KP g Y) Y bP A s σ H locs → lv_has ls 4 [(0, .ref (g 0)), (1, .int a1), (2, .int a2), (3, .int a3)] → W p l e R s m args below meth c H locs cells slots Q (F0 m 22 ls []) := by
  have C0 := C0
  obtain ⟨hx, hb, hr, hml, hown, hts, hlk⟩ := id C0
  intro n
  induction n with
  | zero =>
    intro σ a1 a2 a3 H locs ls hf
    cases hf
  | succ n ih =>
    intro σ a1 a2 a3 H locs ls hf I hl
    rw [fX3_init_L22] at hf
    refine lv_iload_n hx hb dX3_init_22 rfl (lv_at hl 3 rfl) ?_
    refine lv_bipush (v := 6) hx hb dX3_init_23 (by decide) ?_
    refine lv_icmp_ge (tgt := 55) hx hb dX3_init_25 (by decide) (fun c2 => ?_) (fun c2 => ?_)
    · have hf := i_t c2 hf
      exact hK55 σ a1 a2 _ _ _ hf I (lv_sub hl [0, 1, 2] rfl)
    · have hf := i_f c2 hf
      refine lv_aload_n hx hb dX3_init_28 rfl (lv_at hl 0 rfl) ?_
      refine j_get I hx hb hts iw_X3_init_X3 hown 0 (by decide) (kp0 g Y _) rfl 0 (by decide) (hts (.fieldLink RX3 9 "ReelNight$Pairs" "values" "[I") (by decide +kernel)) rfl dX3_init_29 ?_
      refine lv_iload_n hx hb dX3_init_32 rfl (lv_at hl 2 rfl) ?_
      refine lv_bipush (v := 6) hx hb dX3_init_33 (by decide) ?_
      refine lv_imul hx hb dX3_init_35 ?_
      refine lv_iload_n hx hb dX3_init_36 rfl (lv_at hl 3 rfl) ?_
      refine lv_iadd hx hb dX3_init_37 ?_
      refine lv_iload_n hx hb dX3_init_38 rfl (lv_at hl 2 rfl) ?_
      refine lv_iload_n hx hb dX3_init_39 rfl (lv_at hl 3 rfl) ?_
      refine lv_icmp_ne (tgt := 47) hx hb dX3_init_40 (by decide) (fun c3 => ?_) (fun c3 => ?_)
      · have hf := i_f c3 hf
        refine lv_iload_n hx hb dX3_init_47 rfl (lv_at hl 1 rfl) ?_
        obtain ⟨b4, hf⟩ := o_nb hf
        obtain ⟨σ5, eσ5, hf⟩ := o_stp hf
        refine j_ast I hx hb 1 (by decide) (kp1 g Y) b4 eσ5 dX3_init_48 (fun H locs I => ?_)
        refine lv_iinc (v := (a3 + 1)) (lv' := [(3, .int (a3 + 1)), (0, .ref (g 0)), (1, .int a1), (2, .int a2)]) hx hb dX3_init_49 hl (k := 3) rfl rfl (by decide) rfl (fun ls hl => ?_)
        refine lv_goto (tgt := 22) hx hb dX3_init_52 (by decide) ?_
        exact ih σ5 a1 a2 (a3 + 1) _ _ _ hf I (lv_sub hl [1, 2, 3, 0] rfl)
      · have hf := i_t c3 hf
        refine lv_iconst (v := 0) hx hb dX3_init_43 (by decide) ?_
        refine lv_goto (tgt := 48) hx hb dX3_init_44 (by decide) ?_
        obtain ⟨b6, hf⟩ := o_nb hf
        obtain ⟨σ7, eσ7, hf⟩ := o_stp hf
        refine j_ast I hx hb 1 (by decide) (kp1 g Y) b6 eσ7 dX3_init_48 (fun H locs I => ?_)
        refine lv_iinc (v := (a3 + 1)) (lv' := [(3, .int (a3 + 1)), (0, .ref (g 0)), (1, .int a1), (2, .int a2)]) hx hb dX3_init_49 hl (k := 3) rfl rfl (by decide) rfl (fun ls hl => ?_)
        refine lv_goto (tgt := 22) hx hb dX3_init_52 (by decide) ?_
        exact ih σ7 a1 a2 (a3 + 1) _ _ _ hf I (lv_sub hl [1, 2, 3, 0] rfl)
set_option maxHeartbeats 4000000 in
set_option maxRecDepth 100000 in
theorem bX3_init_L14 {p : Program} {l : Launch} {e : Env} {R : Room} {s : State} {m : MethodId} {args : Array Value} {below : List Frame} {meth : Method} {c : Code} {D : va_G} {g : Nat → Nat} {Y : YT} {bP : Nat} {A : Nat → Prop} {cells slots : Nat} {Q : State → Prop} {res : St × Int32} (C0 : MC p s m args meth c cX3_init 4 none RX3 wsX3_init) {K61 : St → Option (St × Int32)} (hK61 : ∀ (σ : St) (H : Heap) (locs : List Loc) (ls : Array Slot), K61 σ = some res → JW D 2 g (KP g Y) Y bP A s σ H locs → lv_has ls 4 [] → W p l e R s m args below meth c H locs cells slots Q (F0 m 61 ls [])) : ∀ (n : Nat) (σ : St) (a1 : Int32) (a2 : Int32) (H : Heap) (locs : List Loc) (ls : Array Slot), fX3_init_L14 K61 n σ a1 a2 = some res → JW D 2 g (KP g Y) Y bP A s σ H locs → lv_has ls 4 [(0, .ref (g 0)), (1, .int a1), (2, .int a2)] → W p l e R s m args below meth c H locs cells slots Q (F0 m 14 ls []) := by
  have C0 := C0
  obtain ⟨hx, hb, hr, hml, hown, hts, hlk⟩ := id C0
  intro n
  induction n with
  | zero =>
    intro σ a1 a2 H locs ls hf
    cases hf
  | succ n ih =>
    intro σ a1 a2 H locs ls hf I hl
    rw [fX3_init_L14] at hf
    refine lv_iload_n hx hb dX3_init_14 rfl (lv_at hl 2 rfl) ?_
    refine lv_bipush (v := 6) hx hb dX3_init_15 (by decide) ?_
    refine lv_icmp_ge (tgt := 61) hx hb dX3_init_17 (by decide) (fun c1 => ?_) (fun c1 => ?_)
    · have hf := i_t c1 hf
      exact hK61 σ _ _ _ hf I (lv_sub hl [] rfl)
    · have hf := i_f c1 hf
      refine lv_iconst (v := 0) hx hb dX3_init_20 (by decide) ?_
      refine lv_istore_n (lv' := [(3, .int 0), (0, .ref (g 0)), (1, .int a1), (2, .int a2)]) hx hb dX3_init_21 rfl hl (by decide) rfl (fun ls hl => ?_)
      refine bX3_init_L22 C0 ?_ 50 σ a1 a2 0 _ _ _ hf I (lv_sub hl [1, 2, 3, 0] rfl)
      · intro σ8 a9 a10 H locs ls hf I hl
        refine lv_iinc (v := (a10 + 1)) (lv' := [(2, .int (a10 + 1)), (0, .ref (g 0)), (1, .int a9)]) hx hb dX3_init_55 hl (k := 2) rfl rfl (by decide) rfl (fun ls hl => ?_)
        refine lv_goto (tgt := 14) hx hb dX3_init_58 (by decide) ?_
        exact ih σ8 a9 (a10 + 1) _ _ _ hf I (lv_sub hl [1, 2, 0] rfl)

set_option maxHeartbeats 8000000 in
set_option maxRecDepth 100000 in
theorem ct_X3_init {l : Launch} {D : va_G} {Y : YT} {bP : Nat} (h0 : Nat) (p0 : Int32) (res : St × Int32) (hf : fX3_init (fun _ _ => 0) p0 = some res) : CN l yX3_init wsX3_init ⟨1, 1, 36, 12⟩ 1 36 D Y bP [.ref h0, .int p0] [(h0, .inr (3, [.null]))] (fun u => u 0 = h0) (fun u => wd 2 u (KP u Y) res.1) := by
  intro sz
  refine Met.ofW (cc := cX3_init) (maxL := 4) (ret := none) (by decide) rfl ?_
  intro p e s m args below meth c s₁ B hml hv
  obtain ⟨rfl, rfl, I⟩ := n_start hv
  have C0 : MC p s m _ meth c cX3_init 4 none RX3 wsX3_init := ⟨B.exec, B.bytes, B.returns, hml, findClass_of_methodNamed B.named, atoms_spec (ws := wsX3_init) B.pre, B.notSynchronized⟩
  obtain ⟨hx, hb, hr, hml, hown, hts, hlk⟩ := id C0
  have hi : meth.name = "<init>" := (name_of_methodNamed B.named B.method).1
  have hl := lv_entry ([.ref h0, .int p0]) (n := 4) (Nat.le_of_ble_eq_true rfl)
  rw [lg_entry_eq]
  generalize (lg_sl ([.ref h0, .int p0]) ++ List.replicate (4 - (lg_sl ([.ref h0, .int p0])).length) Slot.unset).toArray = ls at hl ⊢
  have hl : lv_has ls 4 [(0, .ref h0), (1, .int p0)] := hl
  generalize hAe : va_A [(h0, .inr (3, [.null]))] s.heap.size = A at I ⊢
  refine lv_aload_n hx hb dX3_init_0 rfl (lv_at hl 0 rfl) ?_
  refine W.objInit hx hb hown (hts (.methodLink RX3 3 objectInit) (by decide +kernel)) (hts (.instanceMethod objectInit) (by decide +kernel)) (hts (.code objectInit ⟨#[0xb1]⟩ 1 none) (by decide +kernel)) rfl (by rw [hml]; exact hl.1) rfl dX3_init_1 (Nat.le_of_ble_eq_true rfl) (Nat.le_of_ble_eq_true rfl) ?_
  refine W.eq (g2 := F0 m 4 ls []) rfl ?_
  refine lv_aload_n hx hb dX3_init_4 rfl (lv_at hl 0 rfl) ?_
  refine lv_bipush (v := 36) hx hb dX3_init_5 (by decide) ?_
  refine n_arr I hx hb (atype := .int) rfl (hts (.arrayClass .int) (by decide +kernel)) Y.1 0 rfl (fun _ _ => rfl) rfl (by decide) (N := 36) (by decide) (by decide) (Nat.le_of_ble_eq_true rfl) (Nat.le_of_ble_eq_true rfl) dX3_init_7 (fun q1 H J => ?_)
  refine W.widen (k := 1) (n := 36) (by omega) (by omega) ?_
  clear I
  have I : LW D Y bP A s [(h0, .inr (3, [.null])), (q1, .inl (Y.1, 36, .inl (fun _ => 0)))] _ _ := J
  clear J
  refine n_putF I hx hb hts iw_X3_init_X3 tyX3 tyX3_ok nmX3 hown hi 0 rfl rfl 0 (by decide) (hts (.fieldLink RX3 9 "ReelNight$Pairs" "values" "[I") (by decide +kernel)) rfl rfl rfl rfl (Nat.le_of_ble_eq_true rfl) dX3_init_9 (fun H locs J => ?_)
  clear I
  have I : LW D Y bP A s [(h0, .inr (3, [.ref q1])), (q1, .inl (Y.1, 36, .inl (fun _ => 0)))] _ _ := J
  clear J
  refine lv_iconst (v := 0) hx hb dX3_init_12 (by decide) ?_
  refine lv_istore_n (lv' := [(2, .int 0), (0, .ref h0), (1, .int p0)]) hx hb dX3_init_13 rfl hl (by decide) rfl (fun ls hl => ?_)
  have hAO := I.2.2.2.2.2.2.2
  obtain ⟨g, hg⟩ : ∃ g, g = gl [h0, q1] := ⟨_, rfl⟩
  have e_0 : h0 = g 0 := by rw [hg]; rfl
  have e_1 : q1 = g 1 := by rw [hg]; rfl
  have I2 := n_toWd (n := 2) (g := g) (K := KP g Y) (σ := (fun _ _ => 0)) I [0, 1] rfl rfl (by
    intro k hk
    match k, hk with
    | 0, _ => rw [kp0, ← e_0, ← e_1]; rfl
    | 1, _ => rw [kp1, ← e_1]; rfl
    | k + 2, hk => exact absurd hk (by omega))
  have e0 : h0 = g 0 := by rw [hg]; rfl
  clear hg
  have hl9 := hl
  clear I
  subst e0
  have I := n_jw I2
  rw [fX3_init] at hf
  have hl : lv_has ls 4 [(2, .int 0), (0, .ref (g 0)), (1, .int p0)] := hl9
  refine bX3_init_L14 C0 ?_ 50 (fun _ _ => 0) p0 0 _ _ _ hf I (lv_sub hl [1, 2, 0] rfl)
  · intro σ11 H locs ls hf I hl
    cases hf
    subst hAe
    exact n_vret g rfl (j_lw I hAO) hx hb hr hlk dX3_init_61

theorem iw_X1_init_X1 : ∀ w ∈ u_ws RX1 TX1 6, w ∈ wsX1_init := by decide +kernel
theorem iw_X1_init_X3 : ∀ w ∈ u_ws RX3 TX3 1, w ∈ wsX1_init := by decide +kernel
set_option maxHeartbeats 8000000 in
set_option maxRecDepth 100000 in
theorem ct_X1_init {l : Launch} {D : va_G} {Y : YT} {bP : Nat} (h0 : Nat) : CN l yX1_init wsX1_init ⟨2, 6, 61, 35⟩ 6 61 D Y bP [.ref h0] [(h0, .inr (1, [.null, .null, .null, .null, .null, .int 0]))] (fun u => u 0 = h0) (fun u => [((u 0), .inr (1, [.ref (u 1), .ref (u 2), .ref (u 3), .ref (u 4), .ref (u 5), .int 0])), ((u 1), .inl (Y.1, 6, .inl (fun _ => 0))), ((u 2), .inl (Y.1, 6, .inl (fun _ => 0))), ((u 3), .inl (Y.1, 6, .inl (fun _ => 0))), ((u 4), .inl (Y.1, 6, .inl (fun _ => 0))), ((u 5), .inr (3, [.ref (u 6)])), ((u 6), .inl (Y.1, 36, .inl (pr10.1 1)))]) := by
  intro sz
  refine Met.ofW (cc := cX1_init) (maxL := 1) (ret := none) (by decide) rfl ?_
  intro p e s m args below meth c s₁ B hml hv
  obtain ⟨rfl, rfl, I⟩ := n_start hv
  have C0 : MC p s m _ meth c cX1_init 1 none RX1 wsX1_init := ⟨B.exec, B.bytes, B.returns, hml, findClass_of_methodNamed B.named, atoms_spec (ws := wsX1_init) B.pre, B.notSynchronized⟩
  obtain ⟨hx, hb, hr, hml, hown, hts, hlk⟩ := id C0
  have hi : meth.name = "<init>" := (name_of_methodNamed B.named B.method).1
  have hl := lv_entry ([.ref h0]) (n := 1) (Nat.le_of_ble_eq_true rfl)
  rw [lg_entry_eq]
  generalize (lg_sl ([.ref h0]) ++ List.replicate (1 - (lg_sl ([.ref h0])).length) Slot.unset).toArray = ls at hl ⊢
  have hl : lv_has ls 1 [(0, .ref h0)] := hl
  generalize hAe : va_A [(h0, .inr (1, [.null, .null, .null, .null, .null, .int 0]))] s.heap.size = A at I ⊢
  refine lv_aload_n hx hb dX1_init_0 rfl (lv_at hl 0 rfl) ?_
  refine W.objInit hx hb hown (hts (.methodLink RX1 3 objectInit) (by decide +kernel)) (hts (.instanceMethod objectInit) (by decide +kernel)) (hts (.code objectInit ⟨#[0xb1]⟩ 1 none) (by decide +kernel)) rfl (by rw [hml]; exact hl.1) rfl dX1_init_1 (Nat.le_of_ble_eq_true rfl) (Nat.le_of_ble_eq_true rfl) ?_
  refine W.eq (g2 := F0 m 4 ls []) rfl ?_
  refine lv_aload_n hx hb dX1_init_4 rfl (lv_at hl 0 rfl) ?_
  refine lv_bipush (v := 6) hx hb dX1_init_5 (by decide) ?_
  refine n_arr I hx hb (atype := .int) rfl (hts (.arrayClass .int) (by decide +kernel)) Y.1 0 rfl (fun _ _ => rfl) rfl (by decide) (N := 6) (by decide) (by decide) (Nat.le_of_ble_eq_true rfl) (Nat.le_of_ble_eq_true rfl) dX1_init_7 (fun q1 H J => ?_)
  refine W.widen (k := 1) (n := 6) (by omega) (by omega) ?_
  clear I
  have I : LW D Y bP A s [(h0, .inr (1, [.null, .null, .null, .null, .null, .int 0])), (q1, .inl (Y.1, 6, .inl (fun _ => 0)))] _ _ := J
  clear J
  refine n_putF I hx hb hts iw_X1_init_X1 tyX1 tyX1_ok nmX1 hown hi 0 rfl rfl 0 (by decide) (hts (.fieldLink RX1 9 "ReelNight$Houses" "kinds" "[I") (by decide +kernel)) rfl rfl rfl rfl (Nat.le_of_ble_eq_true rfl) dX1_init_9 (fun H locs J => ?_)
  clear I
  have I : LW D Y bP A s [(h0, .inr (1, [.ref q1, .null, .null, .null, .null, .int 0])), (q1, .inl (Y.1, 6, .inl (fun _ => 0)))] _ _ := J
  clear J
  refine lv_aload_n hx hb dX1_init_12 rfl (lv_at hl 0 rfl) ?_
  refine lv_bipush (v := 6) hx hb dX1_init_13 (by decide) ?_
  refine n_arr I hx hb (atype := .int) rfl (hts (.arrayClass .int) (by decide +kernel)) Y.1 0 rfl (fun _ _ => rfl) rfl (by decide) (N := 6) (by decide) (by decide) (Nat.le_of_ble_eq_true rfl) (Nat.le_of_ble_eq_true rfl) dX1_init_15 (fun q2 H J => ?_)
  refine W.widen (k := 2) (n := 12) (by omega) (by omega) ?_
  clear I
  have I : LW D Y bP A s [(h0, .inr (1, [.ref q1, .null, .null, .null, .null, .int 0])), (q1, .inl (Y.1, 6, .inl (fun _ => 0))), (q2, .inl (Y.1, 6, .inl (fun _ => 0)))] _ _ := J
  clear J
  refine n_putF I hx hb hts iw_X1_init_X1 tyX1 tyX1_ok nmX1 hown hi 0 rfl rfl 1 (by decide) (hts (.fieldLink RX1 15 "ReelNight$Houses" "seats" "[I") (by decide +kernel)) rfl rfl rfl rfl (Nat.le_of_ble_eq_true rfl) dX1_init_17 (fun H locs J => ?_)
  clear I
  have I : LW D Y bP A s [(h0, .inr (1, [.ref q1, .ref q2, .null, .null, .null, .int 0])), (q1, .inl (Y.1, 6, .inl (fun _ => 0))), (q2, .inl (Y.1, 6, .inl (fun _ => 0)))] _ _ := J
  clear J
  refine lv_aload_n hx hb dX1_init_20 rfl (lv_at hl 0 rfl) ?_
  refine lv_bipush (v := 6) hx hb dX1_init_21 (by decide) ?_
  refine n_arr I hx hb (atype := .int) rfl (hts (.arrayClass .int) (by decide +kernel)) Y.1 0 rfl (fun _ _ => rfl) rfl (by decide) (N := 6) (by decide) (by decide) (Nat.le_of_ble_eq_true rfl) (Nat.le_of_ble_eq_true rfl) dX1_init_23 (fun q3 H J => ?_)
  refine W.widen (k := 3) (n := 18) (by omega) (by omega) ?_
  clear I
  have I : LW D Y bP A s [(h0, .inr (1, [.ref q1, .ref q2, .null, .null, .null, .int 0])), (q1, .inl (Y.1, 6, .inl (fun _ => 0))), (q2, .inl (Y.1, 6, .inl (fun _ => 0))), (q3, .inl (Y.1, 6, .inl (fun _ => 0)))] _ _ := J
  clear J
  refine n_putF I hx hb hts iw_X1_init_X1 tyX1 tyX1_ok nmX1 hown hi 0 rfl rfl 2 (by decide) (hts (.fieldLink RX1 18 "ReelNight$Houses" "slacks" "[I") (by decide +kernel)) rfl rfl rfl rfl (Nat.le_of_ble_eq_true rfl) dX1_init_25 (fun H locs J => ?_)
  clear I
  have I : LW D Y bP A s [(h0, .inr (1, [.ref q1, .ref q2, .ref q3, .null, .null, .int 0])), (q1, .inl (Y.1, 6, .inl (fun _ => 0))), (q2, .inl (Y.1, 6, .inl (fun _ => 0))), (q3, .inl (Y.1, 6, .inl (fun _ => 0)))] _ _ := J
  clear J
  refine lv_aload_n hx hb dX1_init_28 rfl (lv_at hl 0 rfl) ?_
  refine lv_bipush (v := 6) hx hb dX1_init_29 (by decide) ?_
  refine n_arr I hx hb (atype := .int) rfl (hts (.arrayClass .int) (by decide +kernel)) Y.1 0 rfl (fun _ _ => rfl) rfl (by decide) (N := 6) (by decide) (by decide) (Nat.le_of_ble_eq_true rfl) (Nat.le_of_ble_eq_true rfl) dX1_init_31 (fun q4 H J => ?_)
  refine W.widen (k := 4) (n := 24) (by omega) (by omega) ?_
  clear I
  have I : LW D Y bP A s [(h0, .inr (1, [.ref q1, .ref q2, .ref q3, .null, .null, .int 0])), (q1, .inl (Y.1, 6, .inl (fun _ => 0))), (q2, .inl (Y.1, 6, .inl (fun _ => 0))), (q3, .inl (Y.1, 6, .inl (fun _ => 0))), (q4, .inl (Y.1, 6, .inl (fun _ => 0)))] _ _ := J
  clear J
  refine n_putF I hx hb hts iw_X1_init_X1 tyX1 tyX1_ok nmX1 hown hi 0 rfl rfl 3 (by decide) (hts (.fieldLink RX1 21 "ReelNight$Houses" "leasts" "[I") (by decide +kernel)) rfl rfl rfl rfl (Nat.le_of_ble_eq_true rfl) dX1_init_33 (fun H locs J => ?_)
  clear I
  have I : LW D Y bP A s [(h0, .inr (1, [.ref q1, .ref q2, .ref q3, .ref q4, .null, .int 0])), (q1, .inl (Y.1, 6, .inl (fun _ => 0))), (q2, .inl (Y.1, 6, .inl (fun _ => 0))), (q3, .inl (Y.1, 6, .inl (fun _ => 0))), (q4, .inl (Y.1, 6, .inl (fun _ => 0)))] _ _ := J
  clear J
  refine lv_aload_n hx hb dX1_init_36 rfl (lv_at hl 0 rfl) ?_
  refine n_new (ci := 3) (fs := [.null]) I hx hb hts iw_X1_init_X3 tyX3 tyX3_ok hown (hts (.classLink RX1 24 RX3) (by decide +kernel)) (hts (.instantiable RX3 1) (by decide +kernel)) (hts (.initialized RX3) (by decide +kernel)) rfl (fun j hj => by rcases (show j = 0 by omega) with rfl <;> rfl) (Nat.le_of_ble_eq_true rfl) (Nat.le_of_ble_eq_true rfl) dX1_init_37 (fun q5 H J => ?_)
  refine W.widen (k := 5) (n := 25) (by omega) (by omega) ?_
  clear I
  have I : LW D Y bP A s [(h0, .inr (1, [.ref q1, .ref q2, .ref q3, .ref q4, .null, .int 0])), (q1, .inl (Y.1, 6, .inl (fun _ => 0))), (q2, .inl (Y.1, 6, .inl (fun _ => 0))), (q3, .inl (Y.1, 6, .inl (fun _ => 0))), (q4, .inl (Y.1, 6, .inl (fun _ => 0))), (q5, .inr (3, [.null]))] _ _ := J
  clear J
  refine lv_dup hx hb dX1_init_40 rfl ?_
  refine lv_bipush (v := 10) hx hb dX1_init_41 (by decide) ?_
  refine n_callI (rest := [.ref q5, .ref h0]) (wr := [(h0, .inr (1, [.ref q1, .ref q2, .ref q3, .ref q4, .null, .int 0])), (q1, .inl (Y.1, 6, .inl (fun _ => 0))), (q2, .inl (Y.1, 6, .inl (fun _ => 0))), (q3, .inl (Y.1, 6, .inl (fun _ => 0))), (q4, .inl (Y.1, 6, .inl (fun _ => 0)))]) I ⟨hx, hb, hml, hown, hts⟩ (ct_X3_init q5 10 pr10 pr10_ok) (cwI 1 hts gX1_init_X3_init rfl rfl rfl (hts (.initialized RX3) (by decide +kernel)) (hts (.methodLink RX1 26 yX3_init) (by decide +kernel)) (hts (.instanceMethod yX3_init) (by decide +kernel)) rfl (by decide +kernel) ⟨Nat.le_of_ble_eq_true rfl, Nat.le_of_ble_eq_true rfl⟩) [5] [0, 1, 2, 3, 4] rfl rfl rfl rfl (by decide) rfl hl.1 rfl (Nat.le_of_ble_eq_true rfl) dX1_init_43 ⟨Nat.le_of_ble_eq_true rfl, Nat.le_of_ble_eq_true rfl⟩ (fun u6 H locs hu I2 => ?_)
  have hl9 := hl
  clear I
  subst hu
  have I := I2
  have J := I2
  clear I2
  refine W.widen (k := 6) (n := 61) (by omega) (by omega) ?_
  clear I
  have I : LW D Y bP A s [(h0, .inr (1, [.ref q1, .ref q2, .ref q3, .ref q4, .null, .int 0])), (q1, .inl (Y.1, 6, .inl (fun _ => 0))), (q2, .inl (Y.1, 6, .inl (fun _ => 0))), (q3, .inl (Y.1, 6, .inl (fun _ => 0))), (q4, .inl (Y.1, 6, .inl (fun _ => 0))), ((u6 0), .inr (3, [.ref (u6 1)])), ((u6 1), .inl (Y.1, 36, .inl (pr10.1 1)))] _ _ := J
  clear J
  have hl : lv_has ls 1 [(0, .ref h0)] := hl9
  refine n_putF I hx hb hts iw_X1_init_X1 tyX1 tyX1_ok nmX1 hown hi 0 rfl rfl 4 (by decide) (hts (.fieldLink RX1 29 "ReelNight$Houses" "ways" "LReelNight$Pairs;") (by decide +kernel)) rfl rfl rfl rfl (Nat.le_of_ble_eq_true rfl) dX1_init_46 (fun H locs J => ?_)
  clear I
  have I : LW D Y bP A s [(h0, .inr (1, [.ref q1, .ref q2, .ref q3, .ref q4, .ref (u6 0), .int 0])), (q1, .inl (Y.1, 6, .inl (fun _ => 0))), (q2, .inl (Y.1, 6, .inl (fun _ => 0))), (q3, .inl (Y.1, 6, .inl (fun _ => 0))), (q4, .inl (Y.1, 6, .inl (fun _ => 0))), ((u6 0), .inr (3, [.ref (u6 1)])), ((u6 1), .inl (Y.1, 36, .inl (pr10.1 1)))] _ _ := J
  clear J
  refine lv_aload_n hx hb dX1_init_49 rfl (lv_at hl 0 rfl) ?_
  refine lv_iconst (v := 0) hx hb dX1_init_50 (by decide) ?_
  refine n_put I hx hb hts iw_X1_init_X1 tyX1 tyX1_ok nmX1 hown 0 rfl rfl 5 (by decide) (hts (.fieldLink RX1 33 "ReelNight$Houses" "many" "I") (by decide +kernel)) rfl rfl rfl (Nat.le_of_ble_eq_true rfl) dX1_init_51 (fun H locs J => ?_)
  clear I
  have I : LW D Y bP A s [(h0, .inr (1, [.ref q1, .ref q2, .ref q3, .ref q4, .ref (u6 0), .int 0])), (q1, .inl (Y.1, 6, .inl (fun _ => 0))), (q2, .inl (Y.1, 6, .inl (fun _ => 0))), (q3, .inl (Y.1, 6, .inl (fun _ => 0))), (q4, .inl (Y.1, 6, .inl (fun _ => 0))), ((u6 0), .inr (3, [.ref (u6 1)])), ((u6 1), .inl (Y.1, 36, .inl (pr10.1 1)))] _ _ := J
  clear J
  subst hAe
  exact n_vret (gl [h0, q1, q2, q3, q4, (u6 0), (u6 1)]) rfl I hx hb hr hlk dX1_init_54

theorem iw_X5_init_X5 : ∀ w ∈ u_ws RX5 TX5 3, w ∈ wsX5_init := by decide +kernel
set_option maxHeartbeats 8000000 in
set_option maxRecDepth 100000 in
theorem ct_X5_init {l : Launch} {D : va_G} {Y : YT} {bP : Nat} (h0 : Nat) : CN l yX5_init wsX5_init ⟨1, 2, 16, 12⟩ 2 16 D Y bP [.ref h0] [(h0, .inr (5, [.null, .null, .int 0]))] (fun u => u 0 = h0) (fun u => [((u 0), .inr (5, [.ref (u 1), .ref (u 2), .int 0])), ((u 1), .inl (Y.1, 8, .inl (fun _ => 0))), ((u 2), .inl (Y.1, 8, .inl (fun _ => 0)))]) := by
  intro sz
  refine Met.ofW (cc := cX5_init) (maxL := 1) (ret := none) (by decide) rfl ?_
  intro p e s m args below meth c s₁ B hml hv
  obtain ⟨rfl, rfl, I⟩ := n_start hv
  have C0 : MC p s m _ meth c cX5_init 1 none RX5 wsX5_init := ⟨B.exec, B.bytes, B.returns, hml, findClass_of_methodNamed B.named, atoms_spec (ws := wsX5_init) B.pre, B.notSynchronized⟩
  obtain ⟨hx, hb, hr, hml, hown, hts, hlk⟩ := id C0
  have hi : meth.name = "<init>" := (name_of_methodNamed B.named B.method).1
  have hl := lv_entry ([.ref h0]) (n := 1) (Nat.le_of_ble_eq_true rfl)
  rw [lg_entry_eq]
  generalize (lg_sl ([.ref h0]) ++ List.replicate (1 - (lg_sl ([.ref h0])).length) Slot.unset).toArray = ls at hl ⊢
  have hl : lv_has ls 1 [(0, .ref h0)] := hl
  generalize hAe : va_A [(h0, .inr (5, [.null, .null, .int 0]))] s.heap.size = A at I ⊢
  refine lv_aload_n hx hb dX5_init_0 rfl (lv_at hl 0 rfl) ?_
  refine W.objInit hx hb hown (hts (.methodLink RX5 3 objectInit) (by decide +kernel)) (hts (.instanceMethod objectInit) (by decide +kernel)) (hts (.code objectInit ⟨#[0xb1]⟩ 1 none) (by decide +kernel)) rfl (by rw [hml]; exact hl.1) rfl dX5_init_1 (Nat.le_of_ble_eq_true rfl) (Nat.le_of_ble_eq_true rfl) ?_
  refine W.eq (g2 := F0 m 4 ls []) rfl ?_
  refine lv_aload_n hx hb dX5_init_4 rfl (lv_at hl 0 rfl) ?_
  refine lv_bipush (v := 8) hx hb dX5_init_5 (by decide) ?_
  refine n_arr I hx hb (atype := .int) rfl (hts (.arrayClass .int) (by decide +kernel)) Y.1 0 rfl (fun _ _ => rfl) rfl (by decide) (N := 8) (by decide) (by decide) (Nat.le_of_ble_eq_true rfl) (Nat.le_of_ble_eq_true rfl) dX5_init_7 (fun q1 H J => ?_)
  refine W.widen (k := 1) (n := 8) (by omega) (by omega) ?_
  clear I
  have I : LW D Y bP A s [(h0, .inr (5, [.null, .null, .int 0])), (q1, .inl (Y.1, 8, .inl (fun _ => 0)))] _ _ := J
  clear J
  refine n_putF I hx hb hts iw_X5_init_X5 tyX5 tyX5_ok nmX5 hown hi 0 rfl rfl 0 (by decide) (hts (.fieldLink RX5 9 "ReelNight$Reels" "frames" "[I") (by decide +kernel)) rfl rfl rfl rfl (Nat.le_of_ble_eq_true rfl) dX5_init_9 (fun H locs J => ?_)
  clear I
  have I : LW D Y bP A s [(h0, .inr (5, [.ref q1, .null, .int 0])), (q1, .inl (Y.1, 8, .inl (fun _ => 0)))] _ _ := J
  clear J
  refine lv_aload_n hx hb dX5_init_12 rfl (lv_at hl 0 rfl) ?_
  refine lv_bipush (v := 8) hx hb dX5_init_13 (by decide) ?_
  refine n_arr I hx hb (atype := .int) rfl (hts (.arrayClass .int) (by decide +kernel)) Y.1 0 rfl (fun _ _ => rfl) rfl (by decide) (N := 8) (by decide) (by decide) (Nat.le_of_ble_eq_true rfl) (Nat.le_of_ble_eq_true rfl) dX5_init_15 (fun q2 H J => ?_)
  refine W.widen (k := 2) (n := 16) (by omega) (by omega) ?_
  clear I
  have I : LW D Y bP A s [(h0, .inr (5, [.ref q1, .null, .int 0])), (q1, .inl (Y.1, 8, .inl (fun _ => 0))), (q2, .inl (Y.1, 8, .inl (fun _ => 0)))] _ _ := J
  clear J
  refine n_putF I hx hb hts iw_X5_init_X5 tyX5 tyX5_ok nmX5 hown hi 0 rfl rfl 1 (by decide) (hts (.fieldLink RX5 15 "ReelNight$Reels" "mends" "[I") (by decide +kernel)) rfl rfl rfl rfl (Nat.le_of_ble_eq_true rfl) dX5_init_17 (fun H locs J => ?_)
  clear I
  have I : LW D Y bP A s [(h0, .inr (5, [.ref q1, .ref q2, .int 0])), (q1, .inl (Y.1, 8, .inl (fun _ => 0))), (q2, .inl (Y.1, 8, .inl (fun _ => 0)))] _ _ := J
  clear J
  refine lv_aload_n hx hb dX5_init_20 rfl (lv_at hl 0 rfl) ?_
  refine lv_iconst (v := 0) hx hb dX5_init_21 (by decide) ?_
  refine n_put I hx hb hts iw_X5_init_X5 tyX5 tyX5_ok nmX5 hown 0 rfl rfl 2 (by decide) (hts (.fieldLink RX5 18 "ReelNight$Reels" "many" "I") (by decide +kernel)) rfl rfl rfl (Nat.le_of_ble_eq_true rfl) dX5_init_22 (fun H locs J => ?_)
  clear I
  have I : LW D Y bP A s [(h0, .inr (5, [.ref q1, .ref q2, .int 0])), (q1, .inl (Y.1, 8, .inl (fun _ => 0))), (q2, .inl (Y.1, 8, .inl (fun _ => 0)))] _ _ := J
  clear J
  subst hAe
  exact n_vret (gl [h0, q1, q2]) rfl I hx hb hr hlk dX5_init_25

theorem iw_X7_init_X7 : ∀ w ∈ u_ws RX7 TX7 8, w ∈ wsX7_init := by decide +kernel
set_option maxHeartbeats 8000000 in
set_option maxRecDepth 100000 in
theorem ct_X7_init {l : Launch} {D : va_G} {Y : YT} {bP : Nat} (h0 : Nat) : CN l yX7_init wsX7_init ⟨1, 3, 78, 12⟩ 3 78 D Y bP [.ref h0] [(h0, .inr (7, [.null, .null, .null, .int 0, .int 0, .int 0, .int 0, .int 0]))] (fun u => u 0 = h0) (fun u => [((u 0), .inr (7, [.ref (u 1), .ref (u 2), .ref (u 3), .int 0, .int 0, .int 0, .int 0, .int (-1)])), ((u 1), .inl (Y.1, 24, .inl (fun _ => 0))), ((u 2), .inl (Y.1, 24, .inl (fun _ => 0))), ((u 3), .inl (Y.1, 30, .inl (fun _ => 0)))]) := by
  intro sz
  refine Met.ofW (cc := cX7_init) (maxL := 1) (ret := none) (by decide) rfl ?_
  intro p e s m args below meth c s₁ B hml hv
  obtain ⟨rfl, rfl, I⟩ := n_start hv
  have C0 : MC p s m _ meth c cX7_init 1 none RX7 wsX7_init := ⟨B.exec, B.bytes, B.returns, hml, findClass_of_methodNamed B.named, atoms_spec (ws := wsX7_init) B.pre, B.notSynchronized⟩
  obtain ⟨hx, hb, hr, hml, hown, hts, hlk⟩ := id C0
  have hi : meth.name = "<init>" := (name_of_methodNamed B.named B.method).1
  have hl := lv_entry ([.ref h0]) (n := 1) (Nat.le_of_ble_eq_true rfl)
  rw [lg_entry_eq]
  generalize (lg_sl ([.ref h0]) ++ List.replicate (1 - (lg_sl ([.ref h0])).length) Slot.unset).toArray = ls at hl ⊢
  have hl : lv_has ls 1 [(0, .ref h0)] := hl
  generalize hAe : va_A [(h0, .inr (7, [.null, .null, .null, .int 0, .int 0, .int 0, .int 0, .int 0]))] s.heap.size = A at I ⊢
  refine lv_aload_n hx hb dX7_init_0 rfl (lv_at hl 0 rfl) ?_
  refine W.objInit hx hb hown (hts (.methodLink RX7 3 objectInit) (by decide +kernel)) (hts (.instanceMethod objectInit) (by decide +kernel)) (hts (.code objectInit ⟨#[0xb1]⟩ 1 none) (by decide +kernel)) rfl (by rw [hml]; exact hl.1) rfl dX7_init_1 (Nat.le_of_ble_eq_true rfl) (Nat.le_of_ble_eq_true rfl) ?_
  refine W.eq (g2 := F0 m 4 ls []) rfl ?_
  refine lv_aload_n hx hb dX7_init_4 rfl (lv_at hl 0 rfl) ?_
  refine lv_bipush (v := 24) hx hb dX7_init_5 (by decide) ?_
  refine n_arr I hx hb (atype := .int) rfl (hts (.arrayClass .int) (by decide +kernel)) Y.1 0 rfl (fun _ _ => rfl) rfl (by decide) (N := 24) (by decide) (by decide) (Nat.le_of_ble_eq_true rfl) (Nat.le_of_ble_eq_true rfl) dX7_init_7 (fun q1 H J => ?_)
  refine W.widen (k := 1) (n := 24) (by omega) (by omega) ?_
  clear I
  have I : LW D Y bP A s [(h0, .inr (7, [.null, .null, .null, .int 0, .int 0, .int 0, .int 0, .int 0])), (q1, .inl (Y.1, 24, .inl (fun _ => 0)))] _ _ := J
  clear J
  refine n_putF I hx hb hts iw_X7_init_X7 tyX7 tyX7_ok nmX7 hown hi 0 rfl rfl 0 (by decide) (hts (.fieldLink RX7 9 "ReelNight$Search" "trial" "[I") (by decide +kernel)) rfl rfl rfl rfl (Nat.le_of_ble_eq_true rfl) dX7_init_9 (fun H locs J => ?_)
  clear I
  have I : LW D Y bP A s [(h0, .inr (7, [.ref q1, .null, .null, .int 0, .int 0, .int 0, .int 0, .int 0])), (q1, .inl (Y.1, 24, .inl (fun _ => 0)))] _ _ := J
  clear J
  refine lv_aload_n hx hb dX7_init_12 rfl (lv_at hl 0 rfl) ?_
  refine lv_bipush (v := 24) hx hb dX7_init_13 (by decide) ?_
  refine n_arr I hx hb (atype := .int) rfl (hts (.arrayClass .int) (by decide +kernel)) Y.1 0 rfl (fun _ _ => rfl) rfl (by decide) (N := 24) (by decide) (by decide) (Nat.le_of_ble_eq_true rfl) (Nat.le_of_ble_eq_true rfl) dX7_init_15 (fun q2 H J => ?_)
  refine W.widen (k := 2) (n := 48) (by omega) (by omega) ?_
  clear I
  have I : LW D Y bP A s [(h0, .inr (7, [.ref q1, .null, .null, .int 0, .int 0, .int 0, .int 0, .int 0])), (q1, .inl (Y.1, 24, .inl (fun _ => 0))), (q2, .inl (Y.1, 24, .inl (fun _ => 0)))] _ _ := J
  clear J
  refine n_putF I hx hb hts iw_X7_init_X7 tyX7 tyX7_ok nmX7 hown hi 0 rfl rfl 1 (by decide) (hts (.fieldLink RX7 15 "ReelNight$Search" "best" "[I") (by decide +kernel)) rfl rfl rfl rfl (Nat.le_of_ble_eq_true rfl) dX7_init_17 (fun H locs J => ?_)
  clear I
  have I : LW D Y bP A s [(h0, .inr (7, [.ref q1, .ref q2, .null, .int 0, .int 0, .int 0, .int 0, .int 0])), (q1, .inl (Y.1, 24, .inl (fun _ => 0))), (q2, .inl (Y.1, 24, .inl (fun _ => 0)))] _ _ := J
  clear J
  refine lv_aload_n hx hb dX7_init_20 rfl (lv_at hl 0 rfl) ?_
  refine lv_bipush (v := 30) hx hb dX7_init_21 (by decide) ?_
  refine n_arr I hx hb (atype := .int) rfl (hts (.arrayClass .int) (by decide +kernel)) Y.1 0 rfl (fun _ _ => rfl) rfl (by decide) (N := 30) (by decide) (by decide) (Nat.le_of_ble_eq_true rfl) (Nat.le_of_ble_eq_true rfl) dX7_init_23 (fun q3 H J => ?_)
  refine W.widen (k := 3) (n := 78) (by omega) (by omega) ?_
  clear I
  have I : LW D Y bP A s [(h0, .inr (7, [.ref q1, .ref q2, .null, .int 0, .int 0, .int 0, .int 0, .int 0])), (q1, .inl (Y.1, 24, .inl (fun _ => 0))), (q2, .inl (Y.1, 24, .inl (fun _ => 0))), (q3, .inl (Y.1, 30, .inl (fun _ => 0)))] _ _ := J
  clear J
  refine n_putF I hx hb hts iw_X7_init_X7 tyX7 tyX7_ok nmX7 hown hi 0 rfl rfl 2 (by decide) (hts (.fieldLink RX7 18 "ReelNight$Search" "weeksAt" "[I") (by decide +kernel)) rfl rfl rfl rfl (Nat.le_of_ble_eq_true rfl) dX7_init_25 (fun H locs J => ?_)
  clear I
  have I : LW D Y bP A s [(h0, .inr (7, [.ref q1, .ref q2, .ref q3, .int 0, .int 0, .int 0, .int 0, .int 0])), (q1, .inl (Y.1, 24, .inl (fun _ => 0))), (q2, .inl (Y.1, 24, .inl (fun _ => 0))), (q3, .inl (Y.1, 30, .inl (fun _ => 0)))] _ _ := J
  clear J
  refine lv_aload_n hx hb dX7_init_28 rfl (lv_at hl 0 rfl) ?_
  refine lv_iconst (v := 0) hx hb dX7_init_29 (by decide) ?_
  refine n_put I hx hb hts iw_X7_init_X7 tyX7 tyX7_ok nmX7 hown 0 rfl rfl 3 (by decide) (hts (.fieldLink RX7 21 "ReelNight$Search" "lastWeek" "I") (by decide +kernel)) rfl rfl rfl (Nat.le_of_ble_eq_true rfl) dX7_init_30 (fun H locs J => ?_)
  clear I
  have I : LW D Y bP A s [(h0, .inr (7, [.ref q1, .ref q2, .ref q3, .int 0, .int 0, .int 0, .int 0, .int 0])), (q1, .inl (Y.1, 24, .inl (fun _ => 0))), (q2, .inl (Y.1, 24, .inl (fun _ => 0))), (q3, .inl (Y.1, 30, .inl (fun _ => 0)))] _ _ := J
  clear J
  refine lv_aload_n hx hb dX7_init_33 rfl (lv_at hl 0 rfl) ?_
  refine lv_iconst (v := 0) hx hb dX7_init_34 (by decide) ?_
  refine n_put I hx hb hts iw_X7_init_X7 tyX7 tyX7_ok nmX7 hown 0 rfl rfl 4 (by decide) (hts (.fieldLink RX7 25 "ReelNight$Search" "triesLeft" "I") (by decide +kernel)) rfl rfl rfl (Nat.le_of_ble_eq_true rfl) dX7_init_35 (fun H locs J => ?_)
  clear I
  have I : LW D Y bP A s [(h0, .inr (7, [.ref q1, .ref q2, .ref q3, .int 0, .int 0, .int 0, .int 0, .int 0])), (q1, .inl (Y.1, 24, .inl (fun _ => 0))), (q2, .inl (Y.1, 24, .inl (fun _ => 0))), (q3, .inl (Y.1, 30, .inl (fun _ => 0)))] _ _ := J
  clear J
  refine lv_aload_n hx hb dX7_init_38 rfl (lv_at hl 0 rfl) ?_
  refine lv_iconst (v := 0) hx hb dX7_init_39 (by decide) ?_
  refine n_put I hx hb hts iw_X7_init_X7 tyX7 tyX7_ok nmX7 hown 0 rfl rfl 5 (by decide) (hts (.fieldLink RX7 28 "ReelNight$Search" "spent" "Z") (by decide +kernel)) rfl rfl rfl (Nat.le_of_ble_eq_true rfl) dX7_init_40 (fun H locs J => ?_)
  clear I
  have I : LW D Y bP A s [(h0, .inr (7, [.ref q1, .ref q2, .ref q3, .int 0, .int 0, .int 0, .int 0, .int 0])), (q1, .inl (Y.1, 24, .inl (fun _ => 0))), (q2, .inl (Y.1, 24, .inl (fun _ => 0))), (q3, .inl (Y.1, 30, .inl (fun _ => 0)))] _ _ := J
  clear J
  refine lv_aload_n hx hb dX7_init_43 rfl (lv_at hl 0 rfl) ?_
  refine lv_iconst (v := 0) hx hb dX7_init_44 (by decide) ?_
  refine n_put I hx hb hts iw_X7_init_X7 tyX7 tyX7_ok nmX7 hown 0 rfl rfl 6 (by decide) (hts (.fieldLink RX7 32 "ReelNight$Search" "sum" "I") (by decide +kernel)) rfl rfl rfl (Nat.le_of_ble_eq_true rfl) dX7_init_45 (fun H locs J => ?_)
  clear I
  have I : LW D Y bP A s [(h0, .inr (7, [.ref q1, .ref q2, .ref q3, .int 0, .int 0, .int 0, .int 0, .int 0])), (q1, .inl (Y.1, 24, .inl (fun _ => 0))), (q2, .inl (Y.1, 24, .inl (fun _ => 0))), (q3, .inl (Y.1, 30, .inl (fun _ => 0)))] _ _ := J
  clear J
  refine lv_aload_n hx hb dX7_init_48 rfl (lv_at hl 0 rfl) ?_
  refine lv_iconst (v := (-1)) hx hb dX7_init_49 (by decide) ?_
  refine n_put I hx hb hts iw_X7_init_X7 tyX7 tyX7_ok nmX7 hown 0 rfl rfl 7 (by decide) (hts (.fieldLink RX7 35 "ReelNight$Search" "bestSum" "I") (by decide +kernel)) rfl rfl rfl (Nat.le_of_ble_eq_true rfl) dX7_init_50 (fun H locs J => ?_)
  clear I
  have I : LW D Y bP A s [(h0, .inr (7, [.ref q1, .ref q2, .ref q3, .int 0, .int 0, .int 0, .int 0, .int (-1)])), (q1, .inl (Y.1, 24, .inl (fun _ => 0))), (q2, .inl (Y.1, 24, .inl (fun _ => 0))), (q3, .inl (Y.1, 30, .inl (fun _ => 0)))] _ _ := J
  clear J
  subst hAe
  exact n_vret (gl [h0, q1, q2, q3]) rfl I hx hb hr hlk dX7_init_53

theorem iw_X8_init_X8 : ∀ w ∈ u_ws RX8 TX8 2, w ∈ wsX8_init := by decide +kernel
set_option maxHeartbeats 8000000 in
set_option maxRecDepth 100000 in
theorem ct_X8_init {l : Launch} {D : va_G} {Y : YT} {bP : Nat} (h0 : Nat) : CN l yX8_init wsX8_init ⟨1, 1, 24, 12⟩ 1 24 D Y bP [.ref h0] [(h0, .inr (8, [.null, .int 0]))] (fun u => u 0 = h0) (fun u => [((u 0), .inr (8, [.ref (u 1), .int (-1)])), ((u 1), .inl (Y.2.1, 24, .inl (fun _ => 0)))]) := by
  intro sz
  refine Met.ofW (cc := cX8_init) (maxL := 1) (ret := none) (by decide) rfl ?_
  intro p e s m args below meth c s₁ B hml hv
  obtain ⟨rfl, rfl, I⟩ := n_start hv
  have C0 : MC p s m _ meth c cX8_init 1 none RX8 wsX8_init := ⟨B.exec, B.bytes, B.returns, hml, findClass_of_methodNamed B.named, atoms_spec (ws := wsX8_init) B.pre, B.notSynchronized⟩
  obtain ⟨hx, hb, hr, hml, hown, hts, hlk⟩ := id C0
  have hi : meth.name = "<init>" := (name_of_methodNamed B.named B.method).1
  have hl := lv_entry ([.ref h0]) (n := 1) (Nat.le_of_ble_eq_true rfl)
  rw [lg_entry_eq]
  generalize (lg_sl ([.ref h0]) ++ List.replicate (1 - (lg_sl ([.ref h0])).length) Slot.unset).toArray = ls at hl ⊢
  have hl : lv_has ls 1 [(0, .ref h0)] := hl
  generalize hAe : va_A [(h0, .inr (8, [.null, .int 0]))] s.heap.size = A at I ⊢
  refine lv_aload_n hx hb dX8_init_0 rfl (lv_at hl 0 rfl) ?_
  refine W.objInit hx hb hown (hts (.methodLink RX8 3 objectInit) (by decide +kernel)) (hts (.instanceMethod objectInit) (by decide +kernel)) (hts (.code objectInit ⟨#[0xb1]⟩ 1 none) (by decide +kernel)) rfl (by rw [hml]; exact hl.1) rfl dX8_init_1 (Nat.le_of_ble_eq_true rfl) (Nat.le_of_ble_eq_true rfl) ?_
  refine W.eq (g2 := F0 m 4 ls []) rfl ?_
  refine lv_aload_n hx hb dX8_init_4 rfl (lv_at hl 0 rfl) ?_
  refine lv_bipush (v := 24) hx hb dX8_init_5 (by decide) ?_
  refine n_arr I hx hb (atype := .short) rfl (hts (.arrayClass .short) (by decide +kernel)) Y.2.1 1 rfl (fun _ _ => rfl) rfl (by decide) (N := 24) (by decide) (by decide) (Nat.le_of_ble_eq_true rfl) (Nat.le_of_ble_eq_true rfl) dX8_init_7 (fun q1 H J => ?_)
  refine W.widen (k := 1) (n := 24) (by omega) (by omega) ?_
  clear I
  have I : LW D Y bP A s [(h0, .inr (8, [.null, .int 0])), (q1, .inl (Y.2.1, 24, .inl (fun _ => 0)))] _ _ := J
  clear J
  refine n_putF I hx hb hts iw_X8_init_X8 tyX8 tyX8_ok nmX8 hown hi 0 rfl rfl 0 (by decide) (hts (.fieldLink RX8 9 "ReelNight$Sheet" "heads" "[S") (by decide +kernel)) rfl rfl rfl rfl (Nat.le_of_ble_eq_true rfl) dX8_init_9 (fun H locs J => ?_)
  clear I
  have I : LW D Y bP A s [(h0, .inr (8, [.ref q1, .int 0])), (q1, .inl (Y.2.1, 24, .inl (fun _ => 0)))] _ _ := J
  clear J
  refine lv_aload_n hx hb dX8_init_12 rfl (lv_at hl 0 rfl) ?_
  refine lv_iconst (v := (-1)) hx hb dX8_init_13 (by decide) ?_
  refine n_put I hx hb hts iw_X8_init_X8 tyX8 tyX8_ok nmX8 hown 0 rfl rfl 1 (by decide) (hts (.fieldLink RX8 15 "ReelNight$Sheet" "size" "I") (by decide +kernel)) rfl rfl rfl (Nat.le_of_ble_eq_true rfl) dX8_init_14 (fun H locs J => ?_)
  clear I
  have I : LW D Y bP A s [(h0, .inr (8, [.ref q1, .int (-1)])), (q1, .inl (Y.2.1, 24, .inl (fun _ => 0)))] _ _ := J
  clear J
  subst hAe
  exact n_vret (gl [h0, q1]) rfl I hx hb hr hlk dX8_init_17

theorem iw_X6_init_X6 : ∀ w ∈ u_ws RX6 TX6 9, w ∈ wsX6_init := by decide +kernel
set_option maxHeartbeats 8000000 in
set_option maxRecDepth 100000 in
theorem ct_X6_init {l : Launch} {D : va_G} {Y : YT} {bP : Nat} (h0 : Nat) (hw : Nat) : CN l yX6_init wsX6_init ⟨1, 7, 280, 12⟩ 7 280 D Y bP [.ref h0, .ref hw] [(h0, .inr (6, [.null, .null, .null, .null, .null, .null, .null, .null, .int 0]))] (fun u => u 0 = h0) (fun u => [((u 0), .inr (6, [.ref hw, .ref (u 1), .ref (u 2), .ref (u 3), .ref (u 4), .ref (u 5), .ref (u 6), .ref (u 7), .int 0])), ((u 1), .inl (Y.1, 40, .inl (fun _ => 0))), ((u 2), .inl (Y.1, 40, .inl (fun _ => 0))), ((u 3), .inl (Y.1, 40, .inl (fun _ => 0))), ((u 4), .inl (Y.1, 40, .inl (fun _ => 0))), ((u 5), .inl (Y.1, 40, .inl (fun _ => 0))), ((u 6), .inl (Y.1, 40, .inl (fun _ => 0))), ((u 7), .inl (Y.1, 40, .inl (fun _ => 0)))]) := by
  intro sz
  refine Met.ofW (cc := cX6_init) (maxL := 2) (ret := none) (by decide) rfl ?_
  intro p e s m args below meth c s₁ B hml hv
  obtain ⟨rfl, rfl, I⟩ := n_start hv
  have C0 : MC p s m _ meth c cX6_init 2 none RX6 wsX6_init := ⟨B.exec, B.bytes, B.returns, hml, findClass_of_methodNamed B.named, atoms_spec (ws := wsX6_init) B.pre, B.notSynchronized⟩
  obtain ⟨hx, hb, hr, hml, hown, hts, hlk⟩ := id C0
  have hi : meth.name = "<init>" := (name_of_methodNamed B.named B.method).1
  have hl := lv_entry ([.ref h0, .ref hw]) (n := 2) (Nat.le_of_ble_eq_true rfl)
  rw [lg_entry_eq]
  generalize (lg_sl ([.ref h0, .ref hw]) ++ List.replicate (2 - (lg_sl ([.ref h0, .ref hw])).length) Slot.unset).toArray = ls at hl ⊢
  have hl : lv_has ls 2 [(0, .ref h0), (1, .ref hw)] := hl
  generalize hAe : va_A [(h0, .inr (6, [.null, .null, .null, .null, .null, .null, .null, .null, .int 0]))] s.heap.size = A at I ⊢
  refine lv_aload_n hx hb dX6_init_0 rfl (lv_at hl 0 rfl) ?_
  refine W.objInit hx hb hown (hts (.methodLink RX6 3 objectInit) (by decide +kernel)) (hts (.instanceMethod objectInit) (by decide +kernel)) (hts (.code objectInit ⟨#[0xb1]⟩ 1 none) (by decide +kernel)) rfl (by rw [hml]; exact hl.1) rfl dX6_init_1 (Nat.le_of_ble_eq_true rfl) (Nat.le_of_ble_eq_true rfl) ?_
  refine W.eq (g2 := F0 m 4 ls []) rfl ?_
  refine lv_aload_n hx hb dX6_init_4 rfl (lv_at hl 0 rfl) ?_
  refine lv_bipush (v := 40) hx hb dX6_init_5 (by decide) ?_
  refine n_arr I hx hb (atype := .int) rfl (hts (.arrayClass .int) (by decide +kernel)) Y.1 0 rfl (fun _ _ => rfl) rfl (by decide) (N := 40) (by decide) (by decide) (Nat.le_of_ble_eq_true rfl) (Nat.le_of_ble_eq_true rfl) dX6_init_7 (fun q1 H J => ?_)
  refine W.widen (k := 1) (n := 40) (by omega) (by omega) ?_
  clear I
  have I : LW D Y bP A s [(h0, .inr (6, [.null, .null, .null, .null, .null, .null, .null, .null, .int 0])), (q1, .inl (Y.1, 40, .inl (fun _ => 0)))] _ _ := J
  clear J
  refine n_putF I hx hb hts iw_X6_init_X6 tyX6 tyX6_ok nmX6 hown hi 0 rfl rfl 1 (by decide) (hts (.fieldLink RX6 9 "ReelNight$Rides" "reels" "[I") (by decide +kernel)) rfl rfl rfl rfl (Nat.le_of_ble_eq_true rfl) dX6_init_9 (fun H locs J => ?_)
  clear I
  have I : LW D Y bP A s [(h0, .inr (6, [.null, .ref q1, .null, .null, .null, .null, .null, .null, .int 0])), (q1, .inl (Y.1, 40, .inl (fun _ => 0)))] _ _ := J
  clear J
  refine lv_aload_n hx hb dX6_init_12 rfl (lv_at hl 0 rfl) ?_
  refine lv_bipush (v := 40) hx hb dX6_init_13 (by decide) ?_
  refine n_arr I hx hb (atype := .int) rfl (hts (.arrayClass .int) (by decide +kernel)) Y.1 0 rfl (fun _ _ => rfl) rfl (by decide) (N := 40) (by decide) (by decide) (Nat.le_of_ble_eq_true rfl) (Nat.le_of_ble_eq_true rfl) dX6_init_15 (fun q2 H J => ?_)
  refine W.widen (k := 2) (n := 80) (by omega) (by omega) ?_
  clear I
  have I : LW D Y bP A s [(h0, .inr (6, [.null, .ref q1, .null, .null, .null, .null, .null, .null, .int 0])), (q1, .inl (Y.1, 40, .inl (fun _ => 0))), (q2, .inl (Y.1, 40, .inl (fun _ => 0)))] _ _ := J
  clear J
  refine n_putF I hx hb hts iw_X6_init_X6 tyX6 tyX6_ok nmX6 hown hi 0 rfl rfl 2 (by decide) (hts (.fieldLink RX6 15 "ReelNight$Rides" "froms" "[I") (by decide +kernel)) rfl rfl rfl rfl (Nat.le_of_ble_eq_true rfl) dX6_init_17 (fun H locs J => ?_)
  clear I
  have I : LW D Y bP A s [(h0, .inr (6, [.null, .ref q1, .ref q2, .null, .null, .null, .null, .null, .int 0])), (q1, .inl (Y.1, 40, .inl (fun _ => 0))), (q2, .inl (Y.1, 40, .inl (fun _ => 0)))] _ _ := J
  clear J
  refine lv_aload_n hx hb dX6_init_20 rfl (lv_at hl 0 rfl) ?_
  refine lv_bipush (v := 40) hx hb dX6_init_21 (by decide) ?_
  refine n_arr I hx hb (atype := .int) rfl (hts (.arrayClass .int) (by decide +kernel)) Y.1 0 rfl (fun _ _ => rfl) rfl (by decide) (N := 40) (by decide) (by decide) (Nat.le_of_ble_eq_true rfl) (Nat.le_of_ble_eq_true rfl) dX6_init_23 (fun q3 H J => ?_)
  refine W.widen (k := 3) (n := 120) (by omega) (by omega) ?_
  clear I
  have I : LW D Y bP A s [(h0, .inr (6, [.null, .ref q1, .ref q2, .null, .null, .null, .null, .null, .int 0])), (q1, .inl (Y.1, 40, .inl (fun _ => 0))), (q2, .inl (Y.1, 40, .inl (fun _ => 0))), (q3, .inl (Y.1, 40, .inl (fun _ => 0)))] _ _ := J
  clear J
  refine n_putF I hx hb hts iw_X6_init_X6 tyX6 tyX6_ok nmX6 hown hi 0 rfl rfl 3 (by decide) (hts (.fieldLink RX6 18 "ReelNight$Rides" "tos" "[I") (by decide +kernel)) rfl rfl rfl rfl (Nat.le_of_ble_eq_true rfl) dX6_init_25 (fun H locs J => ?_)
  clear I
  have I : LW D Y bP A s [(h0, .inr (6, [.null, .ref q1, .ref q2, .ref q3, .null, .null, .null, .null, .int 0])), (q1, .inl (Y.1, 40, .inl (fun _ => 0))), (q2, .inl (Y.1, 40, .inl (fun _ => 0))), (q3, .inl (Y.1, 40, .inl (fun _ => 0)))] _ _ := J
  clear J
  refine lv_aload_n hx hb dX6_init_28 rfl (lv_at hl 0 rfl) ?_
  refine lv_bipush (v := 40) hx hb dX6_init_29 (by decide) ?_
  refine n_arr I hx hb (atype := .int) rfl (hts (.arrayClass .int) (by decide +kernel)) Y.1 0 rfl (fun _ _ => rfl) rfl (by decide) (N := 40) (by decide) (by decide) (Nat.le_of_ble_eq_true rfl) (Nat.le_of_ble_eq_true rfl) dX6_init_31 (fun q4 H J => ?_)
  refine W.widen (k := 4) (n := 160) (by omega) (by omega) ?_
  clear I
  have I : LW D Y bP A s [(h0, .inr (6, [.null, .ref q1, .ref q2, .ref q3, .null, .null, .null, .null, .int 0])), (q1, .inl (Y.1, 40, .inl (fun _ => 0))), (q2, .inl (Y.1, 40, .inl (fun _ => 0))), (q3, .inl (Y.1, 40, .inl (fun _ => 0))), (q4, .inl (Y.1, 40, .inl (fun _ => 0)))] _ _ := J
  clear J
  refine n_putF I hx hb hts iw_X6_init_X6 tyX6 tyX6_ok nmX6 hown hi 0 rfl rfl 4 (by decide) (hts (.fieldLink RX6 21 "ReelNight$Rides" "begins" "[I") (by decide +kernel)) rfl rfl rfl rfl (Nat.le_of_ble_eq_true rfl) dX6_init_33 (fun H locs J => ?_)
  clear I
  have I : LW D Y bP A s [(h0, .inr (6, [.null, .ref q1, .ref q2, .ref q3, .ref q4, .null, .null, .null, .int 0])), (q1, .inl (Y.1, 40, .inl (fun _ => 0))), (q2, .inl (Y.1, 40, .inl (fun _ => 0))), (q3, .inl (Y.1, 40, .inl (fun _ => 0))), (q4, .inl (Y.1, 40, .inl (fun _ => 0)))] _ _ := J
  clear J
  refine lv_aload_n hx hb dX6_init_36 rfl (lv_at hl 0 rfl) ?_
  refine lv_bipush (v := 40) hx hb dX6_init_37 (by decide) ?_
  refine n_arr I hx hb (atype := .int) rfl (hts (.arrayClass .int) (by decide +kernel)) Y.1 0 rfl (fun _ _ => rfl) rfl (by decide) (N := 40) (by decide) (by decide) (Nat.le_of_ble_eq_true rfl) (Nat.le_of_ble_eq_true rfl) dX6_init_39 (fun q5 H J => ?_)
  refine W.widen (k := 5) (n := 200) (by omega) (by omega) ?_
  clear I
  have I : LW D Y bP A s [(h0, .inr (6, [.null, .ref q1, .ref q2, .ref q3, .ref q4, .null, .null, .null, .int 0])), (q1, .inl (Y.1, 40, .inl (fun _ => 0))), (q2, .inl (Y.1, 40, .inl (fun _ => 0))), (q3, .inl (Y.1, 40, .inl (fun _ => 0))), (q4, .inl (Y.1, 40, .inl (fun _ => 0))), (q5, .inl (Y.1, 40, .inl (fun _ => 0)))] _ _ := J
  clear J
  refine n_putF I hx hb hts iw_X6_init_X6 tyX6 tyX6_ok nmX6 hown hi 0 rfl rfl 5 (by decide) (hts (.fieldLink RX6 24 "ReelNight$Rides" "ends" "[I") (by decide +kernel)) rfl rfl rfl rfl (Nat.le_of_ble_eq_true rfl) dX6_init_41 (fun H locs J => ?_)
  clear I
  have I : LW D Y bP A s [(h0, .inr (6, [.null, .ref q1, .ref q2, .ref q3, .ref q4, .ref q5, .null, .null, .int 0])), (q1, .inl (Y.1, 40, .inl (fun _ => 0))), (q2, .inl (Y.1, 40, .inl (fun _ => 0))), (q3, .inl (Y.1, 40, .inl (fun _ => 0))), (q4, .inl (Y.1, 40, .inl (fun _ => 0))), (q5, .inl (Y.1, 40, .inl (fun _ => 0)))] _ _ := J
  clear J
  refine lv_aload_n hx hb dX6_init_44 rfl (lv_at hl 0 rfl) ?_
  refine lv_bipush (v := 40) hx hb dX6_init_45 (by decide) ?_
  refine n_arr I hx hb (atype := .int) rfl (hts (.arrayClass .int) (by decide +kernel)) Y.1 0 rfl (fun _ _ => rfl) rfl (by decide) (N := 40) (by decide) (by decide) (Nat.le_of_ble_eq_true rfl) (Nat.le_of_ble_eq_true rfl) dX6_init_47 (fun q6 H J => ?_)
  refine W.widen (k := 6) (n := 240) (by omega) (by omega) ?_
  clear I
  have I : LW D Y bP A s [(h0, .inr (6, [.null, .ref q1, .ref q2, .ref q3, .ref q4, .ref q5, .null, .null, .int 0])), (q1, .inl (Y.1, 40, .inl (fun _ => 0))), (q2, .inl (Y.1, 40, .inl (fun _ => 0))), (q3, .inl (Y.1, 40, .inl (fun _ => 0))), (q4, .inl (Y.1, 40, .inl (fun _ => 0))), (q5, .inl (Y.1, 40, .inl (fun _ => 0))), (q6, .inl (Y.1, 40, .inl (fun _ => 0)))] _ _ := J
  clear J
  refine n_putF I hx hb hts iw_X6_init_X6 tyX6 tyX6_ok nmX6 hown hi 0 rfl rfl 6 (by decide) (hts (.fieldLink RX6 27 "ReelNight$Rides" "aheads" "[I") (by decide +kernel)) rfl rfl rfl rfl (Nat.le_of_ble_eq_true rfl) dX6_init_49 (fun H locs J => ?_)
  clear I
  have I : LW D Y bP A s [(h0, .inr (6, [.null, .ref q1, .ref q2, .ref q3, .ref q4, .ref q5, .ref q6, .null, .int 0])), (q1, .inl (Y.1, 40, .inl (fun _ => 0))), (q2, .inl (Y.1, 40, .inl (fun _ => 0))), (q3, .inl (Y.1, 40, .inl (fun _ => 0))), (q4, .inl (Y.1, 40, .inl (fun _ => 0))), (q5, .inl (Y.1, 40, .inl (fun _ => 0))), (q6, .inl (Y.1, 40, .inl (fun _ => 0)))] _ _ := J
  clear J
  refine lv_aload_n hx hb dX6_init_52 rfl (lv_at hl 0 rfl) ?_
  refine lv_bipush (v := 40) hx hb dX6_init_53 (by decide) ?_
  refine n_arr I hx hb (atype := .int) rfl (hts (.arrayClass .int) (by decide +kernel)) Y.1 0 rfl (fun _ _ => rfl) rfl (by decide) (N := 40) (by decide) (by decide) (Nat.le_of_ble_eq_true rfl) (Nat.le_of_ble_eq_true rfl) dX6_init_55 (fun q7 H J => ?_)
  refine W.widen (k := 7) (n := 280) (by omega) (by omega) ?_
  clear I
  have I : LW D Y bP A s [(h0, .inr (6, [.null, .ref q1, .ref q2, .ref q3, .ref q4, .ref q5, .ref q6, .null, .int 0])), (q1, .inl (Y.1, 40, .inl (fun _ => 0))), (q2, .inl (Y.1, 40, .inl (fun _ => 0))), (q3, .inl (Y.1, 40, .inl (fun _ => 0))), (q4, .inl (Y.1, 40, .inl (fun _ => 0))), (q5, .inl (Y.1, 40, .inl (fun _ => 0))), (q6, .inl (Y.1, 40, .inl (fun _ => 0))), (q7, .inl (Y.1, 40, .inl (fun _ => 0)))] _ _ := J
  clear J
  refine n_putF I hx hb hts iw_X6_init_X6 tyX6 tyX6_ok nmX6 hown hi 0 rfl rfl 7 (by decide) (hts (.fieldLink RX6 30 "ReelNight$Rides" "lookedAt" "[I") (by decide +kernel)) rfl rfl rfl rfl (Nat.le_of_ble_eq_true rfl) dX6_init_57 (fun H locs J => ?_)
  clear I
  have I : LW D Y bP A s [(h0, .inr (6, [.null, .ref q1, .ref q2, .ref q3, .ref q4, .ref q5, .ref q6, .ref q7, .int 0])), (q1, .inl (Y.1, 40, .inl (fun _ => 0))), (q2, .inl (Y.1, 40, .inl (fun _ => 0))), (q3, .inl (Y.1, 40, .inl (fun _ => 0))), (q4, .inl (Y.1, 40, .inl (fun _ => 0))), (q5, .inl (Y.1, 40, .inl (fun _ => 0))), (q6, .inl (Y.1, 40, .inl (fun _ => 0))), (q7, .inl (Y.1, 40, .inl (fun _ => 0)))] _ _ := J
  clear J
  refine lv_aload_n hx hb dX6_init_60 rfl (lv_at hl 0 rfl) ?_
  refine lv_iconst (v := 0) hx hb dX6_init_61 (by decide) ?_
  refine n_put I hx hb hts iw_X6_init_X6 tyX6 tyX6_ok nmX6 hown 0 rfl rfl 8 (by decide) (hts (.fieldLink RX6 33 "ReelNight$Rides" "many" "I") (by decide +kernel)) rfl rfl rfl (Nat.le_of_ble_eq_true rfl) dX6_init_62 (fun H locs J => ?_)
  clear I
  have I : LW D Y bP A s [(h0, .inr (6, [.null, .ref q1, .ref q2, .ref q3, .ref q4, .ref q5, .ref q6, .ref q7, .int 0])), (q1, .inl (Y.1, 40, .inl (fun _ => 0))), (q2, .inl (Y.1, 40, .inl (fun _ => 0))), (q3, .inl (Y.1, 40, .inl (fun _ => 0))), (q4, .inl (Y.1, 40, .inl (fun _ => 0))), (q5, .inl (Y.1, 40, .inl (fun _ => 0))), (q6, .inl (Y.1, 40, .inl (fun _ => 0))), (q7, .inl (Y.1, 40, .inl (fun _ => 0)))] _ _ := J
  clear J
  refine lv_aload_n hx hb dX6_init_65 rfl (lv_at hl 0 rfl) ?_
  refine lv_aload_n hx hb dX6_init_66 rfl (lv_at hl 1 rfl) ?_
  refine n_putF I hx hb hts iw_X6_init_X6 tyX6 tyX6_ok nmX6 hown hi 0 rfl rfl 0 (by decide) (hts (.fieldLink RX6 37 "ReelNight$Rides" "ways" "LReelNight$Pairs;") (by decide +kernel)) rfl rfl rfl rfl (Nat.le_of_ble_eq_true rfl) dX6_init_67 (fun H locs J => ?_)
  clear I
  have I : LW D Y bP A s [(h0, .inr (6, [.ref hw, .ref q1, .ref q2, .ref q3, .ref q4, .ref q5, .ref q6, .ref q7, .int 0])), (q1, .inl (Y.1, 40, .inl (fun _ => 0))), (q2, .inl (Y.1, 40, .inl (fun _ => 0))), (q3, .inl (Y.1, 40, .inl (fun _ => 0))), (q4, .inl (Y.1, 40, .inl (fun _ => 0))), (q5, .inl (Y.1, 40, .inl (fun _ => 0))), (q6, .inl (Y.1, 40, .inl (fun _ => 0))), (q7, .inl (Y.1, 40, .inl (fun _ => 0)))] _ _ := J
  clear J
  subst hAe
  exact n_vret (gl [h0, q1, q2, q3, q4, q5, q6, q7]) rfl I hx hb hr hlk dX6_init_70

theorem iw_X2_init_X1 : ∀ w ∈ u_ws RX1 TX1 6, w ∈ wsX2_init := fun _ h => List.mem_cons_of_mem _ (List.mem_append_right _ h)
theorem iw_X2_init_X2 : ∀ w ∈ u_ws RX2 TX2 11, w ∈ wsX2_init := fun _ h => List.mem_cons_of_mem _ (List.mem_append_left _ (List.mem_append_left _ (List.mem_append_right _ h)))
theorem iw_X2_init_X6 : ∀ w ∈ u_ws RX6 TX6 9, w ∈ wsX2_init := fun _ h => List.mem_cons_of_mem _ (List.mem_append_left _ (List.mem_append_right _ h))
set_option maxHeartbeats 8000000 in
set_option maxRecDepth 100000 in
theorem ct_X2_init {l : Launch} {D : va_G} {Y : YT} {bP : Nat} (h0 : Nat) (hh hq a1 a2 a3 a4 hw : Nat) : CN l yX2_init wsX2_init ⟨2, 15, 533, 33⟩ 15 533 D Y bP [.ref h0, .ref hh, .ref hq] [(h0, .inr (2, [.null, .null, .null, .null, .null, .int 0, .null, .null, .null, .null, .null])), (hh, .inr (1, [.ref a1, .ref a2, .ref a3, .ref a4, .ref hw, .int 0]))] (fun u => u 0 = h0) (fun u => [((u 0), .inr (2, [.ref hh, .ref hq, .ref (u 8), .ref (u 1), .ref (u 2), .int 0, .ref (u 3), .ref (u 4), .ref (u 5), .ref (u 6), .ref (u 7)])), (hh, .inr (1, [.ref a1, .ref a2, .ref a3, .ref a4, .ref hw, .int 0])), ((u 1), .inl (Y.1, 6, .inl (fun _ => 0))), ((u 2), .inl (Y.1, 40, .inl (fun _ => 0))), ((u 3), .inl (Y.1, 6, .inl (fun _ => 0))), ((u 4), .inl (Y.1, 48, .inl (fun _ => 0))), ((u 5), .inl (Y.1, 48, .inl (fun _ => 0))), ((u 6), .inl (Y.1, 48, .inl (fun _ => 0))), ((u 7), .inl (Y.1, 48, .inl (fun _ => 0))), ((u 8), .inr (6, [.ref hw, .ref (u 9), .ref (u 10), .ref (u 11), .ref (u 12), .ref (u 13), .ref (u 14), .ref (u 15), .int 0])), ((u 9), .inl (Y.1, 40, .inl (fun _ => 0))), ((u 10), .inl (Y.1, 40, .inl (fun _ => 0))), ((u 11), .inl (Y.1, 40, .inl (fun _ => 0))), ((u 12), .inl (Y.1, 40, .inl (fun _ => 0))), ((u 13), .inl (Y.1, 40, .inl (fun _ => 0))), ((u 14), .inl (Y.1, 40, .inl (fun _ => 0))), ((u 15), .inl (Y.1, 40, .inl (fun _ => 0)))]) := by
  intro sz
  refine Met.ofW (cc := cX2_init) (maxL := 3) (ret := none) (by decide) rfl ?_
  intro p e s m args below meth c s₁ B hml hv
  obtain ⟨rfl, rfl, I⟩ := n_start hv
  have C0 : MC p s m _ meth c cX2_init 3 none RX2 wsX2_init := ⟨B.exec, B.bytes, B.returns, hml, findClass_of_methodNamed B.named, atoms_spec (ws := wsX2_init) B.pre, B.notSynchronized⟩
  obtain ⟨hx, hb, hr, hml, hown, hts, hlk⟩ := id C0
  have hi : meth.name = "<init>" := (name_of_methodNamed B.named B.method).1
  have hl := lv_entry ([.ref h0, .ref hh, .ref hq]) (n := 3) (Nat.le_of_ble_eq_true rfl)
  rw [lg_entry_eq]
  generalize (lg_sl ([.ref h0, .ref hh, .ref hq]) ++ List.replicate (3 - (lg_sl ([.ref h0, .ref hh, .ref hq])).length) Slot.unset).toArray = ls at hl ⊢
  have hl : lv_has ls 3 [(0, .ref h0), (1, .ref hh), (2, .ref hq)] := hl
  generalize hAe : va_A [(h0, .inr (2, [.null, .null, .null, .null, .null, .int 0, .null, .null, .null, .null, .null])), (hh, .inr (1, [.ref a1, .ref a2, .ref a3, .ref a4, .ref hw, .int 0]))] s.heap.size = A at I ⊢
  refine lv_aload_n hx hb dX2_init_0 rfl (lv_at hl 0 rfl) ?_
  refine W.objInit hx hb hown (hts (.methodLink RX2 3 objectInit) (by decide +kernel)) (hts (.instanceMethod objectInit) (by decide +kernel)) (hts (.code objectInit ⟨#[0xb1]⟩ 1 none) (by decide +kernel)) rfl (by rw [hml]; exact hl.1) rfl dX2_init_1 (Nat.le_of_ble_eq_true rfl) (Nat.le_of_ble_eq_true rfl) ?_
  refine W.eq (g2 := F0 m 4 ls []) rfl ?_
  refine lv_aload_n hx hb dX2_init_4 rfl (lv_at hl 0 rfl) ?_
  refine lv_bipush (v := 6) hx hb dX2_init_5 (by decide) ?_
  refine n_arr I hx hb (atype := .int) rfl (hts (.arrayClass .int) (by decide +kernel)) Y.1 0 rfl (fun _ _ => rfl) rfl (by decide) (N := 6) (by decide) (by decide) (Nat.le_of_ble_eq_true rfl) (Nat.le_of_ble_eq_true rfl) dX2_init_7 (fun q1 H J => ?_)
  refine W.widen (k := 1) (n := 6) (by omega) (by omega) ?_
  clear I
  have I : LW D Y bP A s [(h0, .inr (2, [.null, .null, .null, .null, .null, .int 0, .null, .null, .null, .null, .null])), (hh, .inr (1, [.ref a1, .ref a2, .ref a3, .ref a4, .ref hw, .int 0])), (q1, .inl (Y.1, 6, .inl (fun _ => 0)))] _ _ := J
  clear J
  refine n_putF I hx hb hts iw_X2_init_X2 tyX2 tyX2_ok nmX2 hown hi 0 rfl rfl 3 (by decide) (hts (.fieldLink RX2 9 "ReelNight$Night" "order" "[I") (by decide +kernel)) rfl rfl rfl rfl (Nat.le_of_ble_eq_true rfl) dX2_init_9 (fun H locs J => ?_)
  clear I
  have I : LW D Y bP A s [(h0, .inr (2, [.null, .null, .null, .ref q1, .null, .int 0, .null, .null, .null, .null, .null])), (hh, .inr (1, [.ref a1, .ref a2, .ref a3, .ref a4, .ref hw, .int 0])), (q1, .inl (Y.1, 6, .inl (fun _ => 0)))] _ _ := J
  clear J
  refine lv_aload_n hx hb dX2_init_12 rfl (lv_at hl 0 rfl) ?_
  refine lv_bipush (v := 40) hx hb dX2_init_13 (by decide) ?_
  refine n_arr I hx hb (atype := .int) rfl (hts (.arrayClass .int) (by decide +kernel)) Y.1 0 rfl (fun _ _ => rfl) rfl (by decide) (N := 40) (by decide) (by decide) (Nat.le_of_ble_eq_true rfl) (Nat.le_of_ble_eq_true rfl) dX2_init_15 (fun q2 H J => ?_)
  refine W.widen (k := 2) (n := 46) (by omega) (by omega) ?_
  clear I
  have I : LW D Y bP A s [(h0, .inr (2, [.null, .null, .null, .ref q1, .null, .int 0, .null, .null, .null, .null, .null])), (hh, .inr (1, [.ref a1, .ref a2, .ref a3, .ref a4, .ref hw, .int 0])), (q1, .inl (Y.1, 6, .inl (fun _ => 0))), (q2, .inl (Y.1, 40, .inl (fun _ => 0)))] _ _ := J
  clear J
  refine n_putF I hx hb hts iw_X2_init_X2 tyX2 tyX2_ok nmX2 hown hi 0 rfl rfl 4 (by decide) (hts (.fieldLink RX2 15 "ReelNight$Night" "lates" "[I") (by decide +kernel)) rfl rfl rfl rfl (Nat.le_of_ble_eq_true rfl) dX2_init_17 (fun H locs J => ?_)
  clear I
  have I : LW D Y bP A s [(h0, .inr (2, [.null, .null, .null, .ref q1, .ref q2, .int 0, .null, .null, .null, .null, .null])), (hh, .inr (1, [.ref a1, .ref a2, .ref a3, .ref a4, .ref hw, .int 0])), (q1, .inl (Y.1, 6, .inl (fun _ => 0))), (q2, .inl (Y.1, 40, .inl (fun _ => 0)))] _ _ := J
  clear J
  refine lv_aload_n hx hb dX2_init_20 rfl (lv_at hl 0 rfl) ?_
  refine lv_iconst (v := 0) hx hb dX2_init_21 (by decide) ?_
  refine n_put I hx hb hts iw_X2_init_X2 tyX2 tyX2_ok nmX2 hown 0 rfl rfl 5 (by decide) (hts (.fieldLink RX2 18 "ReelNight$Night" "many" "I") (by decide +kernel)) rfl rfl rfl (Nat.le_of_ble_eq_true rfl) dX2_init_22 (fun H locs J => ?_)
  clear I
  have I : LW D Y bP A s [(h0, .inr (2, [.null, .null, .null, .ref q1, .ref q2, .int 0, .null, .null, .null, .null, .null])), (hh, .inr (1, [.ref a1, .ref a2, .ref a3, .ref a4, .ref hw, .int 0])), (q1, .inl (Y.1, 6, .inl (fun _ => 0))), (q2, .inl (Y.1, 40, .inl (fun _ => 0)))] _ _ := J
  clear J
  refine lv_aload_n hx hb dX2_init_25 rfl (lv_at hl 0 rfl) ?_
  refine lv_bipush (v := 6) hx hb dX2_init_26 (by decide) ?_
  refine n_arr I hx hb (atype := .int) rfl (hts (.arrayClass .int) (by decide +kernel)) Y.1 0 rfl (fun _ _ => rfl) rfl (by decide) (N := 6) (by decide) (by decide) (Nat.le_of_ble_eq_true rfl) (Nat.le_of_ble_eq_true rfl) dX2_init_28 (fun q3 H J => ?_)
  refine W.widen (k := 3) (n := 52) (by omega) (by omega) ?_
  clear I
  have I : LW D Y bP A s [(h0, .inr (2, [.null, .null, .null, .ref q1, .ref q2, .int 0, .null, .null, .null, .null, .null])), (hh, .inr (1, [.ref a1, .ref a2, .ref a3, .ref a4, .ref hw, .int 0])), (q1, .inl (Y.1, 6, .inl (fun _ => 0))), (q2, .inl (Y.1, 40, .inl (fun _ => 0))), (q3, .inl (Y.1, 6, .inl (fun _ => 0)))] _ _ := J
  clear J
  refine n_putF I hx hb hts iw_X2_init_X2 tyX2 tyX2_ok nmX2 hown hi 0 rfl rfl 6 (by decide) (hts (.fieldLink RX2 22 "ReelNight$Night" "starts" "[I") (by decide +kernel)) rfl rfl rfl rfl (Nat.le_of_ble_eq_true rfl) dX2_init_30 (fun H locs J => ?_)
  clear I
  have I : LW D Y bP A s [(h0, .inr (2, [.null, .null, .null, .ref q1, .ref q2, .int 0, .ref q3, .null, .null, .null, .null])), (hh, .inr (1, [.ref a1, .ref a2, .ref a3, .ref a4, .ref hw, .int 0])), (q1, .inl (Y.1, 6, .inl (fun _ => 0))), (q2, .inl (Y.1, 40, .inl (fun _ => 0))), (q3, .inl (Y.1, 6, .inl (fun _ => 0)))] _ _ := J
  clear J
  refine lv_aload_n hx hb dX2_init_33 rfl (lv_at hl 0 rfl) ?_
  refine lv_bipush (v := 48) hx hb dX2_init_34 (by decide) ?_
  refine n_arr I hx hb (atype := .int) rfl (hts (.arrayClass .int) (by decide +kernel)) Y.1 0 rfl (fun _ _ => rfl) rfl (by decide) (N := 48) (by decide) (by decide) (Nat.le_of_ble_eq_true rfl) (Nat.le_of_ble_eq_true rfl) dX2_init_36 (fun q4 H J => ?_)
  refine W.widen (k := 4) (n := 100) (by omega) (by omega) ?_
  clear I
  have I : LW D Y bP A s [(h0, .inr (2, [.null, .null, .null, .ref q1, .ref q2, .int 0, .ref q3, .null, .null, .null, .null])), (hh, .inr (1, [.ref a1, .ref a2, .ref a3, .ref a4, .ref hw, .int 0])), (q1, .inl (Y.1, 6, .inl (fun _ => 0))), (q2, .inl (Y.1, 40, .inl (fun _ => 0))), (q3, .inl (Y.1, 6, .inl (fun _ => 0))), (q4, .inl (Y.1, 48, .inl (fun _ => 0)))] _ _ := J
  clear J
  refine n_putF I hx hb hts iw_X2_init_X2 tyX2 tyX2_ok nmX2 hown hi 0 rfl rfl 7 (by decide) (hts (.fieldLink RX2 25 "ReelNight$Night" "comes" "[I") (by decide +kernel)) rfl rfl rfl rfl (Nat.le_of_ble_eq_true rfl) dX2_init_38 (fun H locs J => ?_)
  clear I
  have I : LW D Y bP A s [(h0, .inr (2, [.null, .null, .null, .ref q1, .ref q2, .int 0, .ref q3, .ref q4, .null, .null, .null])), (hh, .inr (1, [.ref a1, .ref a2, .ref a3, .ref a4, .ref hw, .int 0])), (q1, .inl (Y.1, 6, .inl (fun _ => 0))), (q2, .inl (Y.1, 40, .inl (fun _ => 0))), (q3, .inl (Y.1, 6, .inl (fun _ => 0))), (q4, .inl (Y.1, 48, .inl (fun _ => 0)))] _ _ := J
  clear J
  refine lv_aload_n hx hb dX2_init_41 rfl (lv_at hl 0 rfl) ?_
  refine lv_bipush (v := 48) hx hb dX2_init_42 (by decide) ?_
  refine n_arr I hx hb (atype := .int) rfl (hts (.arrayClass .int) (by decide +kernel)) Y.1 0 rfl (fun _ _ => rfl) rfl (by decide) (N := 48) (by decide) (by decide) (Nat.le_of_ble_eq_true rfl) (Nat.le_of_ble_eq_true rfl) dX2_init_44 (fun q5 H J => ?_)
  refine W.widen (k := 5) (n := 148) (by omega) (by omega) ?_
  clear I
  have I : LW D Y bP A s [(h0, .inr (2, [.null, .null, .null, .ref q1, .ref q2, .int 0, .ref q3, .ref q4, .null, .null, .null])), (hh, .inr (1, [.ref a1, .ref a2, .ref a3, .ref a4, .ref hw, .int 0])), (q1, .inl (Y.1, 6, .inl (fun _ => 0))), (q2, .inl (Y.1, 40, .inl (fun _ => 0))), (q3, .inl (Y.1, 6, .inl (fun _ => 0))), (q4, .inl (Y.1, 48, .inl (fun _ => 0))), (q5, .inl (Y.1, 48, .inl (fun _ => 0)))] _ _ := J
  clear J
  refine n_putF I hx hb hts iw_X2_init_X2 tyX2 tyX2_ok nmX2 hown hi 0 rfl rfl 8 (by decide) (hts (.fieldLink RX2 28 "ReelNight$Night" "begins" "[I") (by decide +kernel)) rfl rfl rfl rfl (Nat.le_of_ble_eq_true rfl) dX2_init_46 (fun H locs J => ?_)
  clear I
  have I : LW D Y bP A s [(h0, .inr (2, [.null, .null, .null, .ref q1, .ref q2, .int 0, .ref q3, .ref q4, .ref q5, .null, .null])), (hh, .inr (1, [.ref a1, .ref a2, .ref a3, .ref a4, .ref hw, .int 0])), (q1, .inl (Y.1, 6, .inl (fun _ => 0))), (q2, .inl (Y.1, 40, .inl (fun _ => 0))), (q3, .inl (Y.1, 6, .inl (fun _ => 0))), (q4, .inl (Y.1, 48, .inl (fun _ => 0))), (q5, .inl (Y.1, 48, .inl (fun _ => 0)))] _ _ := J
  clear J
  refine lv_aload_n hx hb dX2_init_49 rfl (lv_at hl 0 rfl) ?_
  refine lv_bipush (v := 48) hx hb dX2_init_50 (by decide) ?_
  refine n_arr I hx hb (atype := .int) rfl (hts (.arrayClass .int) (by decide +kernel)) Y.1 0 rfl (fun _ _ => rfl) rfl (by decide) (N := 48) (by decide) (by decide) (Nat.le_of_ble_eq_true rfl) (Nat.le_of_ble_eq_true rfl) dX2_init_52 (fun q6 H J => ?_)
  refine W.widen (k := 6) (n := 196) (by omega) (by omega) ?_
  clear I
  have I : LW D Y bP A s [(h0, .inr (2, [.null, .null, .null, .ref q1, .ref q2, .int 0, .ref q3, .ref q4, .ref q5, .null, .null])), (hh, .inr (1, [.ref a1, .ref a2, .ref a3, .ref a4, .ref hw, .int 0])), (q1, .inl (Y.1, 6, .inl (fun _ => 0))), (q2, .inl (Y.1, 40, .inl (fun _ => 0))), (q3, .inl (Y.1, 6, .inl (fun _ => 0))), (q4, .inl (Y.1, 48, .inl (fun _ => 0))), (q5, .inl (Y.1, 48, .inl (fun _ => 0))), (q6, .inl (Y.1, 48, .inl (fun _ => 0)))] _ _ := J
  clear J
  refine n_putF I hx hb hts iw_X2_init_X2 tyX2 tyX2_ok nmX2 hown hi 0 rfl rfl 9 (by decide) (hts (.fieldLink RX2 31 "ReelNight$Night" "gaps" "[I") (by decide +kernel)) rfl rfl rfl rfl (Nat.le_of_ble_eq_true rfl) dX2_init_54 (fun H locs J => ?_)
  clear I
  have I : LW D Y bP A s [(h0, .inr (2, [.null, .null, .null, .ref q1, .ref q2, .int 0, .ref q3, .ref q4, .ref q5, .ref q6, .null])), (hh, .inr (1, [.ref a1, .ref a2, .ref a3, .ref a4, .ref hw, .int 0])), (q1, .inl (Y.1, 6, .inl (fun _ => 0))), (q2, .inl (Y.1, 40, .inl (fun _ => 0))), (q3, .inl (Y.1, 6, .inl (fun _ => 0))), (q4, .inl (Y.1, 48, .inl (fun _ => 0))), (q5, .inl (Y.1, 48, .inl (fun _ => 0))), (q6, .inl (Y.1, 48, .inl (fun _ => 0)))] _ _ := J
  clear J
  refine lv_aload_n hx hb dX2_init_57 rfl (lv_at hl 0 rfl) ?_
  refine lv_bipush (v := 48) hx hb dX2_init_58 (by decide) ?_
  refine n_arr I hx hb (atype := .int) rfl (hts (.arrayClass .int) (by decide +kernel)) Y.1 0 rfl (fun _ _ => rfl) rfl (by decide) (N := 48) (by decide) (by decide) (Nat.le_of_ble_eq_true rfl) (Nat.le_of_ble_eq_true rfl) dX2_init_60 (fun q7 H J => ?_)
  refine W.widen (k := 7) (n := 244) (by omega) (by omega) ?_
  clear I
  have I : LW D Y bP A s [(h0, .inr (2, [.null, .null, .null, .ref q1, .ref q2, .int 0, .ref q3, .ref q4, .ref q5, .ref q6, .null])), (hh, .inr (1, [.ref a1, .ref a2, .ref a3, .ref a4, .ref hw, .int 0])), (q1, .inl (Y.1, 6, .inl (fun _ => 0))), (q2, .inl (Y.1, 40, .inl (fun _ => 0))), (q3, .inl (Y.1, 6, .inl (fun _ => 0))), (q4, .inl (Y.1, 48, .inl (fun _ => 0))), (q5, .inl (Y.1, 48, .inl (fun _ => 0))), (q6, .inl (Y.1, 48, .inl (fun _ => 0))), (q7, .inl (Y.1, 48, .inl (fun _ => 0)))] _ _ := J
  clear J
  refine n_putF I hx hb hts iw_X2_init_X2 tyX2 tyX2_ok nmX2 hown hi 0 rfl rfl 10 (by decide) (hts (.fieldLink RX2 34 "ReelNight$Night" "causes" "[I") (by decide +kernel)) rfl rfl rfl rfl (Nat.le_of_ble_eq_true rfl) dX2_init_62 (fun H locs J => ?_)
  clear I
  have I : LW D Y bP A s [(h0, .inr (2, [.null, .null, .null, .ref q1, .ref q2, .int 0, .ref q3, .ref q4, .ref q5, .ref q6, .ref q7])), (hh, .inr (1, [.ref a1, .ref a2, .ref a3, .ref a4, .ref hw, .int 0])), (q1, .inl (Y.1, 6, .inl (fun _ => 0))), (q2, .inl (Y.1, 40, .inl (fun _ => 0))), (q3, .inl (Y.1, 6, .inl (fun _ => 0))), (q4, .inl (Y.1, 48, .inl (fun _ => 0))), (q5, .inl (Y.1, 48, .inl (fun _ => 0))), (q6, .inl (Y.1, 48, .inl (fun _ => 0))), (q7, .inl (Y.1, 48, .inl (fun _ => 0)))] _ _ := J
  clear J
  refine lv_aload_n hx hb dX2_init_65 rfl (lv_at hl 0 rfl) ?_
  refine lv_aload_n hx hb dX2_init_66 rfl (lv_at hl 1 rfl) ?_
  refine n_putF I hx hb hts iw_X2_init_X2 tyX2 tyX2_ok nmX2 hown hi 0 rfl rfl 0 (by decide) (hts (.fieldLink RX2 37 "ReelNight$Night" "houses" "LReelNight$Houses;") (by decide +kernel)) rfl rfl rfl rfl (Nat.le_of_ble_eq_true rfl) dX2_init_67 (fun H locs J => ?_)
  clear I
  have I : LW D Y bP A s [(h0, .inr (2, [.ref hh, .null, .null, .ref q1, .ref q2, .int 0, .ref q3, .ref q4, .ref q5, .ref q6, .ref q7])), (hh, .inr (1, [.ref a1, .ref a2, .ref a3, .ref a4, .ref hw, .int 0])), (q1, .inl (Y.1, 6, .inl (fun _ => 0))), (q2, .inl (Y.1, 40, .inl (fun _ => 0))), (q3, .inl (Y.1, 6, .inl (fun _ => 0))), (q4, .inl (Y.1, 48, .inl (fun _ => 0))), (q5, .inl (Y.1, 48, .inl (fun _ => 0))), (q6, .inl (Y.1, 48, .inl (fun _ => 0))), (q7, .inl (Y.1, 48, .inl (fun _ => 0)))] _ _ := J
  clear J
  refine lv_aload_n hx hb dX2_init_70 rfl (lv_at hl 0 rfl) ?_
  refine lv_aload_n hx hb dX2_init_71 rfl (lv_at hl 2 rfl) ?_
  refine n_putF I hx hb hts iw_X2_init_X2 tyX2 tyX2_ok nmX2 hown hi 0 rfl rfl 1 (by decide) (hts (.fieldLink RX2 41 "ReelNight$Night" "reels" "LReelNight$Reels;") (by decide +kernel)) rfl rfl rfl rfl (Nat.le_of_ble_eq_true rfl) dX2_init_72 (fun H locs J => ?_)
  clear I
  have I : LW D Y bP A s [(h0, .inr (2, [.ref hh, .ref hq, .null, .ref q1, .ref q2, .int 0, .ref q3, .ref q4, .ref q5, .ref q6, .ref q7])), (hh, .inr (1, [.ref a1, .ref a2, .ref a3, .ref a4, .ref hw, .int 0])), (q1, .inl (Y.1, 6, .inl (fun _ => 0))), (q2, .inl (Y.1, 40, .inl (fun _ => 0))), (q3, .inl (Y.1, 6, .inl (fun _ => 0))), (q4, .inl (Y.1, 48, .inl (fun _ => 0))), (q5, .inl (Y.1, 48, .inl (fun _ => 0))), (q6, .inl (Y.1, 48, .inl (fun _ => 0))), (q7, .inl (Y.1, 48, .inl (fun _ => 0)))] _ _ := J
  clear J
  refine lv_aload_n hx hb dX2_init_75 rfl (lv_at hl 0 rfl) ?_
  refine n_new (ci := 6) (fs := [.null, .null, .null, .null, .null, .null, .null, .null, .int 0]) I hx hb hts iw_X2_init_X6 tyX6 tyX6_ok hown (hts (.classLink RX2 45 RX6) (by decide +kernel)) (hts (.instantiable RX6 9) (by decide +kernel)) (hts (.initialized RX6) (by decide +kernel)) rfl (fun j hj => by rcases (show j = 0 ∨ j = 1 ∨ j = 2 ∨ j = 3 ∨ j = 4 ∨ j = 5 ∨ j = 6 ∨ j = 7 ∨ j = 8 by omega) with rfl | rfl | rfl | rfl | rfl | rfl | rfl | rfl | rfl <;> rfl) (Nat.le_of_ble_eq_true rfl) (Nat.le_of_ble_eq_true rfl) dX2_init_76 (fun q8 H J => ?_)
  refine W.widen (k := 8) (n := 253) (by omega) (by omega) ?_
  clear I
  have I : LW D Y bP A s [(h0, .inr (2, [.ref hh, .ref hq, .null, .ref q1, .ref q2, .int 0, .ref q3, .ref q4, .ref q5, .ref q6, .ref q7])), (hh, .inr (1, [.ref a1, .ref a2, .ref a3, .ref a4, .ref hw, .int 0])), (q1, .inl (Y.1, 6, .inl (fun _ => 0))), (q2, .inl (Y.1, 40, .inl (fun _ => 0))), (q3, .inl (Y.1, 6, .inl (fun _ => 0))), (q4, .inl (Y.1, 48, .inl (fun _ => 0))), (q5, .inl (Y.1, 48, .inl (fun _ => 0))), (q6, .inl (Y.1, 48, .inl (fun _ => 0))), (q7, .inl (Y.1, 48, .inl (fun _ => 0))), (q8, .inr (6, [.null, .null, .null, .null, .null, .null, .null, .null, .int 0]))] _ _ := J
  clear J
  refine lv_dup hx hb dX2_init_79 rfl ?_
  refine lv_aload_n hx hb dX2_init_80 rfl (lv_at hl 1 rfl) ?_
  refine n_getN I hx hb hts iw_X2_init_X1 hown 1 rfl rfl 4 (by decide) (by decide +kernel) rfl dX2_init_81 ?_
  refine n_callI (rest := [.ref q8, .ref h0]) (wr := [(h0, .inr (2, [.ref hh, .ref hq, .null, .ref q1, .ref q2, .int 0, .ref q3, .ref q4, .ref q5, .ref q6, .ref q7])), (hh, .inr (1, [.ref a1, .ref a2, .ref a3, .ref a4, .ref hw, .int 0])), (q1, .inl (Y.1, 6, .inl (fun _ => 0))), (q2, .inl (Y.1, 40, .inl (fun _ => 0))), (q3, .inl (Y.1, 6, .inl (fun _ => 0))), (q4, .inl (Y.1, 48, .inl (fun _ => 0))), (q5, .inl (Y.1, 48, .inl (fun _ => 0))), (q6, .inl (Y.1, 48, .inl (fun _ => 0))), (q7, .inl (Y.1, 48, .inl (fun _ => 0)))]) I ⟨hx, hb, hml, hown, hts⟩ (ct_X6_init q8 hw) (cwI 1 hts gX2_init_X6_init rfl rfl rfl (hts (.initialized RX6) (by decide +kernel)) (hts (.methodLink RX2 53 yX6_init) (by decide +kernel)) (hts (.instanceMethod yX6_init) (by decide +kernel)) rfl (by decide +kernel) ⟨Nat.le_of_ble_eq_true rfl, Nat.le_of_ble_eq_true rfl⟩) [9] [0, 1, 2, 3, 4, 5, 6, 7, 8] rfl rfl rfl rfl (by decide) rfl hl.1 rfl (Nat.le_of_ble_eq_true rfl) dX2_init_84 ⟨Nat.le_of_ble_eq_true rfl, Nat.le_of_ble_eq_true rfl⟩ (fun u9 H locs hu I2 => ?_)
  have hl9 := hl
  clear I
  subst hu
  have I := I2
  have J := I2
  clear I2
  refine W.widen (k := 15) (n := 533) (by omega) (by omega) ?_
  clear I
  have I : LW D Y bP A s [(h0, .inr (2, [.ref hh, .ref hq, .null, .ref q1, .ref q2, .int 0, .ref q3, .ref q4, .ref q5, .ref q6, .ref q7])), (hh, .inr (1, [.ref a1, .ref a2, .ref a3, .ref a4, .ref hw, .int 0])), (q1, .inl (Y.1, 6, .inl (fun _ => 0))), (q2, .inl (Y.1, 40, .inl (fun _ => 0))), (q3, .inl (Y.1, 6, .inl (fun _ => 0))), (q4, .inl (Y.1, 48, .inl (fun _ => 0))), (q5, .inl (Y.1, 48, .inl (fun _ => 0))), (q6, .inl (Y.1, 48, .inl (fun _ => 0))), (q7, .inl (Y.1, 48, .inl (fun _ => 0))), ((u9 0), .inr (6, [.ref hw, .ref (u9 1), .ref (u9 2), .ref (u9 3), .ref (u9 4), .ref (u9 5), .ref (u9 6), .ref (u9 7), .int 0])), ((u9 1), .inl (Y.1, 40, .inl (fun _ => 0))), ((u9 2), .inl (Y.1, 40, .inl (fun _ => 0))), ((u9 3), .inl (Y.1, 40, .inl (fun _ => 0))), ((u9 4), .inl (Y.1, 40, .inl (fun _ => 0))), ((u9 5), .inl (Y.1, 40, .inl (fun _ => 0))), ((u9 6), .inl (Y.1, 40, .inl (fun _ => 0))), ((u9 7), .inl (Y.1, 40, .inl (fun _ => 0)))] _ _ := J
  clear J
  have hl : lv_has ls 3 [(0, .ref h0), (1, .ref hh), (2, .ref hq)] := hl9
  refine n_putF I hx hb hts iw_X2_init_X2 tyX2 tyX2_ok nmX2 hown hi 0 rfl rfl 2 (by decide) (hts (.fieldLink RX2 56 "ReelNight$Night" "rides" "LReelNight$Rides;") (by decide +kernel)) rfl rfl rfl rfl (Nat.le_of_ble_eq_true rfl) dX2_init_87 (fun H locs J => ?_)
  clear I
  have I : LW D Y bP A s [(h0, .inr (2, [.ref hh, .ref hq, .ref (u9 0), .ref q1, .ref q2, .int 0, .ref q3, .ref q4, .ref q5, .ref q6, .ref q7])), (hh, .inr (1, [.ref a1, .ref a2, .ref a3, .ref a4, .ref hw, .int 0])), (q1, .inl (Y.1, 6, .inl (fun _ => 0))), (q2, .inl (Y.1, 40, .inl (fun _ => 0))), (q3, .inl (Y.1, 6, .inl (fun _ => 0))), (q4, .inl (Y.1, 48, .inl (fun _ => 0))), (q5, .inl (Y.1, 48, .inl (fun _ => 0))), (q6, .inl (Y.1, 48, .inl (fun _ => 0))), (q7, .inl (Y.1, 48, .inl (fun _ => 0))), ((u9 0), .inr (6, [.ref hw, .ref (u9 1), .ref (u9 2), .ref (u9 3), .ref (u9 4), .ref (u9 5), .ref (u9 6), .ref (u9 7), .int 0])), ((u9 1), .inl (Y.1, 40, .inl (fun _ => 0))), ((u9 2), .inl (Y.1, 40, .inl (fun _ => 0))), ((u9 3), .inl (Y.1, 40, .inl (fun _ => 0))), ((u9 4), .inl (Y.1, 40, .inl (fun _ => 0))), ((u9 5), .inl (Y.1, 40, .inl (fun _ => 0))), ((u9 6), .inl (Y.1, 40, .inl (fun _ => 0))), ((u9 7), .inl (Y.1, 40, .inl (fun _ => 0)))] _ _ := J
  clear J
  subst hAe
  exact n_vret (gl [h0, q1, q2, q3, q4, q5, q6, q7, (u9 0), (u9 1), (u9 2), (u9 3), (u9 4), (u9 5), (u9 6), (u9 7)]) rfl I hx hb hr hlk dX2_init_90

theorem iw_X0_init_X0 : ∀ w ∈ u_ws RX0 TX0 7, w ∈ wsX0_init := fun _ h => List.mem_cons_of_mem _ (List.mem_append_left _ (List.mem_append_right _ h))
theorem iw_X0_init_X3 : ∀ w ∈ u_ws RX3 TX3 1, w ∈ wsX0_init := fun _ h => List.mem_cons_of_mem _ (List.mem_append_left _ (List.mem_append_left _ (List.mem_append_right _ h)))
theorem iw_X0_init_X7 : ∀ w ∈ u_ws RX7 TX7 8, w ∈ wsX0_init := fun _ h => List.mem_cons_of_mem _ (List.mem_append_right _ h)
set_option maxHeartbeats 8000000 in
set_option maxRecDepth 100000 in
theorem ct_X0_init {l : Launch} {D : va_G} {Y : YT} {bP : Nat} (h0 : Nat) (hh : Nat) : CN l yX0_init wsX0_init ⟨2, 9, 201, 35⟩ 9 201 D Y bP [.ref h0, .ref hh] [(h0, .inr (0, [.null, .null, .null, .null, .null, .null, .int 0]))] (fun u => u 0 = h0) (fun u => [((u 0), .inr (0, [.ref hh, .ref (u 1), .ref (u 3), .ref (u 4), .ref (u 5), .ref (u 6), .int 0])), ((u 1), .inr (3, [.ref (u 2)])), ((u 2), .inl (Y.1, 36, .inl (pr0.1 1))), ((u 3), .inl (Y.1, 30, .inl (fun _ => 0))), ((u 4), .inl (Y.1, 24, .inl (fl (fun _ => 0) 24 (-1000000005)))), ((u 5), .inl (Y.1, 24, .inl (fl (fun _ => 0) 24 (-1000000005)))), ((u 6), .inr (7, [.ref (u 7), .ref (u 8), .ref (u 9), .int 0, .int 0, .int 0, .int 0, .int (-1)])), ((u 7), .inl (Y.1, 24, .inl (fun _ => 0))), ((u 8), .inl (Y.1, 24, .inl (fun _ => 0))), ((u 9), .inl (Y.1, 30, .inl (fun _ => 0)))]) := by
  intro sz
  refine Met.ofW (cc := cX0_init) (maxL := 2) (ret := none) (by decide) rfl ?_
  intro p e s m args below meth c s₁ B hml hv
  obtain ⟨rfl, rfl, I⟩ := n_start hv
  have C0 : MC p s m _ meth c cX0_init 2 none RX0 wsX0_init := ⟨B.exec, B.bytes, B.returns, hml, findClass_of_methodNamed B.named, atoms_spec (ws := wsX0_init) B.pre, B.notSynchronized⟩
  obtain ⟨hx, hb, hr, hml, hown, hts, hlk⟩ := id C0
  have hi : meth.name = "<init>" := (name_of_methodNamed B.named B.method).1
  have hl := lv_entry ([.ref h0, .ref hh]) (n := 2) (Nat.le_of_ble_eq_true rfl)
  rw [lg_entry_eq]
  generalize (lg_sl ([.ref h0, .ref hh]) ++ List.replicate (2 - (lg_sl ([.ref h0, .ref hh])).length) Slot.unset).toArray = ls at hl ⊢
  have hl : lv_has ls 2 [(0, .ref h0), (1, .ref hh)] := hl
  generalize hAe : va_A [(h0, .inr (0, [.null, .null, .null, .null, .null, .null, .int 0]))] s.heap.size = A at I ⊢
  refine lv_aload_n hx hb dX0_init_0 rfl (lv_at hl 0 rfl) ?_
  refine W.objInit hx hb hown (hts (.methodLink RX0 3 objectInit) (by decide +kernel)) (hts (.instanceMethod objectInit) (by decide +kernel)) (hts (.code objectInit ⟨#[0xb1]⟩ 1 none) (by decide +kernel)) rfl (by rw [hml]; exact hl.1) rfl dX0_init_1 (Nat.le_of_ble_eq_true rfl) (Nat.le_of_ble_eq_true rfl) ?_
  refine W.eq (g2 := F0 m 4 ls []) rfl ?_
  refine lv_aload_n hx hb dX0_init_4 rfl (lv_at hl 0 rfl) ?_
  refine n_new (ci := 3) (fs := [.null]) I hx hb hts iw_X0_init_X3 tyX3 tyX3_ok hown (hts (.classLink RX0 9 RX3) (by decide +kernel)) (hts (.instantiable RX3 1) (by decide +kernel)) (hts (.initialized RX3) (by decide +kernel)) rfl (fun j hj => by rcases (show j = 0 by omega) with rfl <;> rfl) (Nat.le_of_ble_eq_true rfl) (Nat.le_of_ble_eq_true rfl) dX0_init_5 (fun q1 H J => ?_)
  refine W.widen (k := 1) (n := 1) (by omega) (by omega) ?_
  clear I
  have I : LW D Y bP A s [(h0, .inr (0, [.null, .null, .null, .null, .null, .null, .int 0])), (q1, .inr (3, [.null]))] _ _ := J
  clear J
  refine lv_dup hx hb dX0_init_8 rfl ?_
  refine lv_iconst (v := 0) hx hb dX0_init_9 (by decide) ?_
  refine n_callI (rest := [.ref q1, .ref h0]) (wr := [(h0, .inr (0, [.null, .null, .null, .null, .null, .null, .int 0]))]) I ⟨hx, hb, hml, hown, hts⟩ (ct_X3_init q1 0 pr0 pr0_ok) (cwI 1 hts gX0_init_X3_init rfl rfl rfl (hts (.initialized RX3) (by decide +kernel)) (hts (.methodLink RX0 11 yX3_init) (by decide +kernel)) (hts (.instanceMethod yX3_init) (by decide +kernel)) rfl (by decide +kernel) ⟨Nat.le_of_ble_eq_true rfl, Nat.le_of_ble_eq_true rfl⟩) [1] [0] rfl rfl rfl rfl (by decide) rfl hl.1 rfl (Nat.le_of_ble_eq_true rfl) dX0_init_10 ⟨Nat.le_of_ble_eq_true rfl, Nat.le_of_ble_eq_true rfl⟩ (fun u2 H locs hu I2 => ?_)
  have hl9 := hl
  clear I
  subst hu
  have I := I2
  have J := I2
  clear I2
  refine W.widen (k := 2) (n := 37) (by omega) (by omega) ?_
  clear I
  have I : LW D Y bP A s [(h0, .inr (0, [.null, .null, .null, .null, .null, .null, .int 0])), ((u2 0), .inr (3, [.ref (u2 1)])), ((u2 1), .inl (Y.1, 36, .inl (pr0.1 1)))] _ _ := J
  clear J
  have hl : lv_has ls 2 [(0, .ref h0), (1, .ref hh)] := hl9
  refine n_putF I hx hb hts iw_X0_init_X0 tyX0 tyX0_ok nmX0 hown hi 0 rfl rfl 1 (by decide) (hts (.fieldLink RX0 14 "ReelNight$Bookings" "bars" "LReelNight$Pairs;") (by decide +kernel)) rfl rfl rfl rfl (Nat.le_of_ble_eq_true rfl) dX0_init_13 (fun H locs J => ?_)
  clear I
  have I : LW D Y bP A s [(h0, .inr (0, [.null, .ref (u2 0), .null, .null, .null, .null, .int 0])), ((u2 0), .inr (3, [.ref (u2 1)])), ((u2 1), .inl (Y.1, 36, .inl (pr0.1 1)))] _ _ := J
  clear J
  refine lv_aload_n hx hb dX0_init_16 rfl (lv_at hl 0 rfl) ?_
  refine lv_bipush (v := 30) hx hb dX0_init_17 (by decide) ?_
  refine n_arr I hx hb (atype := .int) rfl (hts (.arrayClass .int) (by decide +kernel)) Y.1 0 rfl (fun _ _ => rfl) rfl (by decide) (N := 30) (by decide) (by decide) (Nat.le_of_ble_eq_true rfl) (Nat.le_of_ble_eq_true rfl) dX0_init_19 (fun q3 H J => ?_)
  refine W.widen (k := 3) (n := 67) (by omega) (by omega) ?_
  clear I
  have I : LW D Y bP A s [(h0, .inr (0, [.null, .ref (u2 0), .null, .null, .null, .null, .int 0])), ((u2 0), .inr (3, [.ref (u2 1)])), ((u2 1), .inl (Y.1, 36, .inl (pr0.1 1))), (q3, .inl (Y.1, 30, .inl (fun _ => 0)))] _ _ := J
  clear J
  refine n_putF I hx hb hts iw_X0_init_X0 tyX0 tyX0_ok nmX0 hown hi 0 rfl rfl 2 (by decide) (hts (.fieldLink RX0 20 "ReelNight$Bookings" "worths" "[I") (by decide +kernel)) rfl rfl rfl rfl (Nat.le_of_ble_eq_true rfl) dX0_init_21 (fun H locs J => ?_)
  clear I
  have I : LW D Y bP A s [(h0, .inr (0, [.null, .ref (u2 0), .ref q3, .null, .null, .null, .int 0])), ((u2 0), .inr (3, [.ref (u2 1)])), ((u2 1), .inl (Y.1, 36, .inl (pr0.1 1))), (q3, .inl (Y.1, 30, .inl (fun _ => 0)))] _ _ := J
  clear J
  refine lv_aload_n hx hb dX0_init_24 rfl (lv_at hl 0 rfl) ?_
  refine lv_bipush (v := 24) hx hb dX0_init_25 (by decide) ?_
  refine n_arr I hx hb (atype := .int) rfl (hts (.arrayClass .int) (by decide +kernel)) Y.1 0 rfl (fun _ _ => rfl) rfl (by decide) (N := 24) (by decide) (by decide) (Nat.le_of_ble_eq_true rfl) (Nat.le_of_ble_eq_true rfl) dX0_init_27 (fun q4 H J => ?_)
  refine W.widen (k := 4) (n := 91) (by omega) (by omega) ?_
  clear I
  have I : LW D Y bP A s [(h0, .inr (0, [.null, .ref (u2 0), .ref q3, .null, .null, .null, .int 0])), ((u2 0), .inr (3, [.ref (u2 1)])), ((u2 1), .inl (Y.1, 36, .inl (pr0.1 1))), (q3, .inl (Y.1, 30, .inl (fun _ => 0))), (q4, .inl (Y.1, 24, .inl (fun _ => 0)))] _ _ := J
  clear J
  refine n_putF I hx hb hts iw_X0_init_X0 tyX0 tyX0_ok nmX0 hown hi 0 rfl rfl 3 (by decide) (hts (.fieldLink RX0 24 "ReelNight$Bookings" "pins" "[I") (by decide +kernel)) rfl rfl rfl rfl (Nat.le_of_ble_eq_true rfl) dX0_init_29 (fun H locs J => ?_)
  clear I
  have I : LW D Y bP A s [(h0, .inr (0, [.null, .ref (u2 0), .ref q3, .ref q4, .null, .null, .int 0])), ((u2 0), .inr (3, [.ref (u2 1)])), ((u2 1), .inl (Y.1, 36, .inl (pr0.1 1))), (q3, .inl (Y.1, 30, .inl (fun _ => 0))), (q4, .inl (Y.1, 24, .inl (fun _ => 0)))] _ _ := J
  clear J
  refine lv_aload_n hx hb dX0_init_32 rfl (lv_at hl 0 rfl) ?_
  refine lv_bipush (v := 24) hx hb dX0_init_33 (by decide) ?_
  refine n_arr I hx hb (atype := .int) rfl (hts (.arrayClass .int) (by decide +kernel)) Y.1 0 rfl (fun _ _ => rfl) rfl (by decide) (N := 24) (by decide) (by decide) (Nat.le_of_ble_eq_true rfl) (Nat.le_of_ble_eq_true rfl) dX0_init_35 (fun q5 H J => ?_)
  refine W.widen (k := 5) (n := 115) (by omega) (by omega) ?_
  clear I
  have I : LW D Y bP A s [(h0, .inr (0, [.null, .ref (u2 0), .ref q3, .ref q4, .null, .null, .int 0])), ((u2 0), .inr (3, [.ref (u2 1)])), ((u2 1), .inl (Y.1, 36, .inl (pr0.1 1))), (q3, .inl (Y.1, 30, .inl (fun _ => 0))), (q4, .inl (Y.1, 24, .inl (fun _ => 0))), (q5, .inl (Y.1, 24, .inl (fun _ => 0)))] _ _ := J
  clear J
  refine n_putF I hx hb hts iw_X0_init_X0 tyX0 tyX0_ok nmX0 hown hi 0 rfl rfl 4 (by decide) (hts (.fieldLink RX0 27 "ReelNight$Bookings" "latest" "[I") (by decide +kernel)) rfl rfl rfl rfl (Nat.le_of_ble_eq_true rfl) dX0_init_37 (fun H locs J => ?_)
  clear I
  have I : LW D Y bP A s [(h0, .inr (0, [.null, .ref (u2 0), .ref q3, .ref q4, .ref q5, .null, .int 0])), ((u2 0), .inr (3, [.ref (u2 1)])), ((u2 1), .inl (Y.1, 36, .inl (pr0.1 1))), (q3, .inl (Y.1, 30, .inl (fun _ => 0))), (q4, .inl (Y.1, 24, .inl (fun _ => 0))), (q5, .inl (Y.1, 24, .inl (fun _ => 0)))] _ _ := J
  clear J
  refine lv_aload_n hx hb dX0_init_40 rfl (lv_at hl 0 rfl) ?_
  refine lv_iconst (v := 0) hx hb dX0_init_41 (by decide) ?_
  refine n_put I hx hb hts iw_X0_init_X0 tyX0 tyX0_ok nmX0 hown 0 rfl rfl 6 (by decide) (hts (.fieldLink RX0 30 "ReelNight$Bookings" "films" "I") (by decide +kernel)) rfl rfl rfl (Nat.le_of_ble_eq_true rfl) dX0_init_42 (fun H locs J => ?_)
  clear I
  have I : LW D Y bP A s [(h0, .inr (0, [.null, .ref (u2 0), .ref q3, .ref q4, .ref q5, .null, .int 0])), ((u2 0), .inr (3, [.ref (u2 1)])), ((u2 1), .inl (Y.1, 36, .inl (pr0.1 1))), (q3, .inl (Y.1, 30, .inl (fun _ => 0))), (q4, .inl (Y.1, 24, .inl (fun _ => 0))), (q5, .inl (Y.1, 24, .inl (fun _ => 0)))] _ _ := J
  clear J
  refine lv_aload_n hx hb dX0_init_45 rfl (lv_at hl 0 rfl) ?_
  refine lv_aload_n hx hb dX0_init_46 rfl (lv_at hl 1 rfl) ?_
  refine n_putF I hx hb hts iw_X0_init_X0 tyX0 tyX0_ok nmX0 hown hi 0 rfl rfl 0 (by decide) (hts (.fieldLink RX0 34 "ReelNight$Bookings" "houses" "LReelNight$Houses;") (by decide +kernel)) rfl rfl rfl rfl (Nat.le_of_ble_eq_true rfl) dX0_init_47 (fun H locs J => ?_)
  clear I
  have I : LW D Y bP A s [(h0, .inr (0, [.ref hh, .ref (u2 0), .ref q3, .ref q4, .ref q5, .null, .int 0])), ((u2 0), .inr (3, [.ref (u2 1)])), ((u2 1), .inl (Y.1, 36, .inl (pr0.1 1))), (q3, .inl (Y.1, 30, .inl (fun _ => 0))), (q4, .inl (Y.1, 24, .inl (fun _ => 0))), (q5, .inl (Y.1, 24, .inl (fun _ => 0)))] _ _ := J
  clear J
  refine lv_aload_n hx hb dX0_init_50 rfl (lv_at hl 0 rfl) ?_
  refine n_get I hx hb hts iw_X0_init_X0 hown 0 rfl rfl 3 (by decide) (hts (.fieldLink RX0 24 "ReelNight$Bookings" "pins" "[I") (by decide +kernel)) rfl dX0_init_51 ?_
  refine lv_ldc hx hb hown (hts (.constant RX0 38 (-1000000005)) (by decide +kernel)) dX0_init_54 ?_
  refine n_vS (rest := []) (wr := [(h0, .inr (0, [.ref hh, .ref (u2 0), .ref q3, .ref q4, .ref q5, .null, .int 0])), ((u2 0), .inr (3, [.ref (u2 1)])), ((u2 1), .inl (Y.1, 36, .inl (pr0.1 1))), (q3, .inl (Y.1, 30, .inl (fun _ => 0))), (q5, .inl (Y.1, 24, .inl (fun _ => 0)))]) (n := 1) (g := fun _ => q4) (K := fun _ τ => .inl (Y.1, 24, .inl τ)) (σ := fun _ => (fun _ => 0)) I ⟨hx, hb, hml, hown, hts⟩ (ct_J7_fill_53178 l 0 (by decide) (fun _ => rfl) (by decide) (-1000000005) rfl) (va_cwS 2 hts gX0_init_J7_fill_53178 rfl rfl rfl (by decide +kernel) ⟨Nat.le_of_ble_eq_true rfl, Nat.le_of_ble_eq_true rfl⟩) [4] [0, 1, 2, 3, 5] rfl rfl rfl rfl (by decide) rfl hl.1 rfl (Nat.le_of_ble_eq_true rfl) dX0_init_56 ⟨Nat.le_of_ble_eq_true rfl, Nat.le_of_ble_eq_true rfl⟩ (fun H locs J => ?_)
  clear I
  have I : LW D Y bP A s [(h0, .inr (0, [.ref hh, .ref (u2 0), .ref q3, .ref q4, .ref q5, .null, .int 0])), ((u2 0), .inr (3, [.ref (u2 1)])), ((u2 1), .inl (Y.1, 36, .inl (pr0.1 1))), (q3, .inl (Y.1, 30, .inl (fun _ => 0))), (q5, .inl (Y.1, 24, .inl (fun _ => 0))), (q4, .inl (Y.1, 24, .inl (fl (fun _ => 0) 24 (-1000000005))))] _ _ := J
  clear J
  refine lv_aload_n hx hb dX0_init_59 rfl (lv_at hl 0 rfl) ?_
  refine n_get I hx hb hts iw_X0_init_X0 hown 0 rfl rfl 4 (by decide) (hts (.fieldLink RX0 27 "ReelNight$Bookings" "latest" "[I") (by decide +kernel)) rfl dX0_init_60 ?_
  refine lv_ldc hx hb hown (hts (.constant RX0 38 (-1000000005)) (by decide +kernel)) dX0_init_63 ?_
  refine n_vS (rest := []) (wr := [(h0, .inr (0, [.ref hh, .ref (u2 0), .ref q3, .ref q4, .ref q5, .null, .int 0])), ((u2 0), .inr (3, [.ref (u2 1)])), ((u2 1), .inl (Y.1, 36, .inl (pr0.1 1))), (q3, .inl (Y.1, 30, .inl (fun _ => 0))), (q4, .inl (Y.1, 24, .inl (fl (fun _ => 0) 24 (-1000000005))))]) (n := 1) (g := fun _ => q5) (K := fun _ τ => .inl (Y.1, 24, .inl τ)) (σ := fun _ => (fun _ => 0)) I ⟨hx, hb, hml, hown, hts⟩ (ct_J7_fill_53178 l 0 (by decide) (fun _ => rfl) (by decide) (-1000000005) rfl) (va_cwS 2 hts gX0_init_J7_fill_53178 rfl rfl rfl (by decide +kernel) ⟨Nat.le_of_ble_eq_true rfl, Nat.le_of_ble_eq_true rfl⟩) [4] [0, 1, 2, 3, 5] rfl rfl rfl rfl (by decide) rfl hl.1 rfl (Nat.le_of_ble_eq_true rfl) dX0_init_65 ⟨Nat.le_of_ble_eq_true rfl, Nat.le_of_ble_eq_true rfl⟩ (fun H locs J => ?_)
  clear I
  have I : LW D Y bP A s [(h0, .inr (0, [.ref hh, .ref (u2 0), .ref q3, .ref q4, .ref q5, .null, .int 0])), ((u2 0), .inr (3, [.ref (u2 1)])), ((u2 1), .inl (Y.1, 36, .inl (pr0.1 1))), (q3, .inl (Y.1, 30, .inl (fun _ => 0))), (q4, .inl (Y.1, 24, .inl (fl (fun _ => 0) 24 (-1000000005)))), (q5, .inl (Y.1, 24, .inl (fl (fun _ => 0) 24 (-1000000005))))] _ _ := J
  clear J
  refine lv_aload_n hx hb dX0_init_68 rfl (lv_at hl 0 rfl) ?_
  refine n_new (ci := 7) (fs := [.null, .null, .null, .int 0, .int 0, .int 0, .int 0, .int 0]) I hx hb hts iw_X0_init_X7 tyX7 tyX7_ok hown (hts (.classLink RX0 45 RX7) (by decide +kernel)) (hts (.instantiable RX7 8) (by decide +kernel)) (hts (.initialized RX7) (by decide +kernel)) rfl (fun j hj => by rcases (show j = 0 ∨ j = 1 ∨ j = 2 ∨ j = 3 ∨ j = 4 ∨ j = 5 ∨ j = 6 ∨ j = 7 by omega) with rfl | rfl | rfl | rfl | rfl | rfl | rfl | rfl <;> rfl) (Nat.le_of_ble_eq_true rfl) (Nat.le_of_ble_eq_true rfl) dX0_init_69 (fun q6 H J => ?_)
  refine W.widen (k := 6) (n := 123) (by omega) (by omega) ?_
  clear I
  have I : LW D Y bP A s [(h0, .inr (0, [.ref hh, .ref (u2 0), .ref q3, .ref q4, .ref q5, .null, .int 0])), ((u2 0), .inr (3, [.ref (u2 1)])), ((u2 1), .inl (Y.1, 36, .inl (pr0.1 1))), (q3, .inl (Y.1, 30, .inl (fun _ => 0))), (q4, .inl (Y.1, 24, .inl (fl (fun _ => 0) 24 (-1000000005)))), (q5, .inl (Y.1, 24, .inl (fl (fun _ => 0) 24 (-1000000005)))), (q6, .inr (7, [.null, .null, .null, .int 0, .int 0, .int 0, .int 0, .int 0]))] _ _ := J
  clear J
  refine lv_dup hx hb dX0_init_72 rfl ?_
  refine n_callIN (rest := [.ref q6, .ref h0]) (wr := [(h0, .inr (0, [.ref hh, .ref (u2 0), .ref q3, .ref q4, .ref q5, .null, .int 0])), ((u2 0), .inr (3, [.ref (u2 1)])), ((u2 1), .inl (Y.1, 36, .inl (pr0.1 1))), (q3, .inl (Y.1, 30, .inl (fun _ => 0))), (q4, .inl (Y.1, 24, .inl (fl (fun _ => 0) 24 (-1000000005)))), (q5, .inl (Y.1, 24, .inl (fl (fun _ => 0) 24 (-1000000005))))]) I ⟨hx, hb, hml, hown, hts⟩ (ct_X7_init q6) ⟨va_cnB 0 hts gX0_init_X7_init_n47 rfl rfl rfl (nM I.2.2.2.2.2.1 (own := RX0) (index := 47) (y := yX7_init) (host := "ReelNight") (by decide +kernel)) (hts (.initialized RX7) (by decide +kernel)) (by decide +kernel) ⟨Nat.le_of_ble_eq_true rfl, Nat.le_of_ble_eq_true rfl⟩, rfl, (hts (.instanceMethod yX7_init) (by decide +kernel))⟩ [6] [0, 1, 2, 3, 4, 5] rfl rfl rfl rfl (by decide) rfl hl.1 rfl (Nat.le_of_ble_eq_true rfl) dX0_init_73 ⟨Nat.le_of_ble_eq_true rfl, Nat.le_of_ble_eq_true rfl⟩ (fun u7 H locs hu I2 => ?_)
  have hl9 := hl
  clear I
  subst hu
  have I := I2
  have J := I2
  clear I2
  refine W.widen (k := 9) (n := 201) (by omega) (by omega) ?_
  clear I
  have I : LW D Y bP A s [(h0, .inr (0, [.ref hh, .ref (u2 0), .ref q3, .ref q4, .ref q5, .null, .int 0])), ((u2 0), .inr (3, [.ref (u2 1)])), ((u2 1), .inl (Y.1, 36, .inl (pr0.1 1))), (q3, .inl (Y.1, 30, .inl (fun _ => 0))), (q4, .inl (Y.1, 24, .inl (fl (fun _ => 0) 24 (-1000000005)))), (q5, .inl (Y.1, 24, .inl (fl (fun _ => 0) 24 (-1000000005)))), ((u7 0), .inr (7, [.ref (u7 1), .ref (u7 2), .ref (u7 3), .int 0, .int 0, .int 0, .int 0, .int (-1)])), ((u7 1), .inl (Y.1, 24, .inl (fun _ => 0))), ((u7 2), .inl (Y.1, 24, .inl (fun _ => 0))), ((u7 3), .inl (Y.1, 30, .inl (fun _ => 0)))] _ _ := J
  clear J
  have hl : lv_has ls 2 [(0, .ref h0), (1, .ref hh)] := hl9
  refine n_putF I hx hb hts iw_X0_init_X0 tyX0 tyX0_ok nmX0 hown hi 0 rfl rfl 5 (by decide) (hts (.fieldLink RX0 48 "ReelNight$Bookings" "search" "LReelNight$Search;") (by decide +kernel)) rfl rfl rfl rfl (Nat.le_of_ble_eq_true rfl) dX0_init_76 (fun H locs J => ?_)
  clear I
  have I : LW D Y bP A s [(h0, .inr (0, [.ref hh, .ref (u2 0), .ref q3, .ref q4, .ref q5, .ref (u7 0), .int 0])), ((u2 0), .inr (3, [.ref (u2 1)])), ((u2 1), .inl (Y.1, 36, .inl (pr0.1 1))), (q3, .inl (Y.1, 30, .inl (fun _ => 0))), (q4, .inl (Y.1, 24, .inl (fl (fun _ => 0) 24 (-1000000005)))), (q5, .inl (Y.1, 24, .inl (fl (fun _ => 0) 24 (-1000000005)))), ((u7 0), .inr (7, [.ref (u7 1), .ref (u7 2), .ref (u7 3), .int 0, .int 0, .int 0, .int 0, .int (-1)])), ((u7 1), .inl (Y.1, 24, .inl (fun _ => 0))), ((u7 2), .inl (Y.1, 24, .inl (fun _ => 0))), ((u7 3), .inl (Y.1, 30, .inl (fun _ => 0)))] _ _ := J
  clear J
  subst hAe
  exact n_vret (gl [h0, (u2 0), (u2 1), q3, q4, q5, (u7 0), (u7 1), (u7 2), (u7 3)]) rfl I hx hb hr hlk dX0_init_79

theorem iw_X4_init_X4 : ∀ w ∈ u_ws RX4 TX4 3, w ∈ wsX4_init := by decide +kernel
theorem iw_X4_init_X8 : ∀ w ∈ u_ws RX8 TX8 2, w ∈ wsX4_init := by decide +kernel
set_option maxHeartbeats 8000000 in
set_option maxRecDepth 100000 in
theorem ct_X4_init {l : Launch} {D : va_G} {Y : YT} {bP : Nat} (h0 : Nat) (hh : Nat) : CN l yX4_init wsX4_init ⟨2, 6, 57, 32⟩ 6 57 D Y bP [.ref h0, .ref hh] [(h0, .inr (4, [.null, .null, .null]))] (fun u => u 0 = h0) (fun u => [((u 0), .inr (4, [.ref hh, .ref (u 1), .ref (u 2)])), ((u 1), .inl (Y.1, 3, .inl (upd (upd (upd (fun _ => 0) (Int32.toNatClampNeg 0) 40) (Int32.toNatClampNeg 1) 20) (Int32.toNatClampNeg 2) 1))), ((u 2), .inl (Y.2.2.2, 2, .inr (.inr (.inr (.inr (fun j => if j = 0 then some (u 3) else some (u 5))))))), ((u 3), .inr (8, [.ref (u 4), .int (-1)])), ((u 4), .inl (Y.2.1, 24, .inl (fun _ => 0))), ((u 5), .inr (8, [.ref (u 6), .int (-1)])), ((u 6), .inl (Y.2.1, 24, .inl (fun _ => 0)))]) := by
  intro sz
  refine Met.ofW (cc := cX4_init) (maxL := 2) (ret := none) (by decide) rfl ?_
  intro p e s m args below meth c s₁ B hml hv
  obtain ⟨rfl, rfl, I⟩ := n_start hv
  have C0 : MC p s m _ meth c cX4_init 2 none RX4 wsX4_init := ⟨B.exec, B.bytes, B.returns, hml, findClass_of_methodNamed B.named, atoms_spec (ws := wsX4_init) B.pre, B.notSynchronized⟩
  obtain ⟨hx, hb, hr, hml, hown, hts, hlk⟩ := id C0
  have hi : meth.name = "<init>" := (name_of_methodNamed B.named B.method).1
  have hl := lv_entry ([.ref h0, .ref hh]) (n := 2) (Nat.le_of_ble_eq_true rfl)
  rw [lg_entry_eq]
  generalize (lg_sl ([.ref h0, .ref hh]) ++ List.replicate (2 - (lg_sl ([.ref h0, .ref hh])).length) Slot.unset).toArray = ls at hl ⊢
  have hl : lv_has ls 2 [(0, .ref h0), (1, .ref hh)] := hl
  generalize hAe : va_A [(h0, .inr (4, [.null, .null, .null]))] s.heap.size = A at I ⊢
  refine lv_aload_n hx hb dX4_init_0 rfl (lv_at hl 0 rfl) ?_
  refine W.objInit hx hb hown (hts (.methodLink RX4 3 objectInit) (by decide +kernel)) (hts (.instanceMethod objectInit) (by decide +kernel)) (hts (.code objectInit ⟨#[0xb1]⟩ 1 none) (by decide +kernel)) rfl (by rw [hml]; exact hl.1) rfl dX4_init_1 (Nat.le_of_ble_eq_true rfl) (Nat.le_of_ble_eq_true rfl) ?_
  refine W.eq (g2 := F0 m 4 ls []) rfl ?_
  refine lv_aload_n hx hb dX4_init_4 rfl (lv_at hl 0 rfl) ?_
  refine lv_iconst (v := 3) hx hb dX4_init_5 (by decide) ?_
  refine n_arr I hx hb (atype := .int) rfl (hts (.arrayClass .int) (by decide +kernel)) Y.1 0 rfl (fun _ _ => rfl) rfl (by decide) (N := 3) (by decide) (by decide) (Nat.le_of_ble_eq_true rfl) (Nat.le_of_ble_eq_true rfl) dX4_init_6 (fun q1 H J => ?_)
  refine W.widen (k := 1) (n := 3) (by omega) (by omega) ?_
  clear I
  have I : LW D Y bP A s [(h0, .inr (4, [.null, .null, .null])), (q1, .inl (Y.1, 3, .inl (fun _ => 0)))] _ _ := J
  clear J
  refine lv_dup hx hb dX4_init_8 rfl ?_
  refine lv_iconst (v := 0) hx hb dX4_init_9 (by decide) ?_
  refine lv_bipush (v := 40) hx hb dX4_init_10 (by decide) ?_
  refine n_ast I hx hb 1 rfl (show ¬ ((0 : Int32) < 0 ∨ 3 ≤ (0 : Int32).toNatClampNeg) from by decide) dX4_init_12 (fun H locs J => ?_)
  clear I
  have I : LW D Y bP A s [(h0, .inr (4, [.null, .null, .null])), (q1, .inl (Y.1, 3, .inl (upd (fun _ => 0) (Int32.toNatClampNeg 0) 40)))] _ _ := J
  clear J
  refine lv_dup hx hb dX4_init_13 rfl ?_
  refine lv_iconst (v := 1) hx hb dX4_init_14 (by decide) ?_
  refine lv_bipush (v := 20) hx hb dX4_init_15 (by decide) ?_
  refine n_ast I hx hb 1 rfl (show ¬ ((1 : Int32) < 0 ∨ 3 ≤ (1 : Int32).toNatClampNeg) from by decide) dX4_init_17 (fun H locs J => ?_)
  clear I
  have I : LW D Y bP A s [(h0, .inr (4, [.null, .null, .null])), (q1, .inl (Y.1, 3, .inl (upd (upd (fun _ => 0) (Int32.toNatClampNeg 0) 40) (Int32.toNatClampNeg 1) 20)))] _ _ := J
  clear J
  refine lv_dup hx hb dX4_init_18 rfl ?_
  refine lv_iconst (v := 2) hx hb dX4_init_19 (by decide) ?_
  refine lv_iconst (v := 1) hx hb dX4_init_20 (by decide) ?_
  refine n_ast I hx hb 1 rfl (show ¬ ((2 : Int32) < 0 ∨ 3 ≤ (2 : Int32).toNatClampNeg) from by decide) dX4_init_21 (fun H locs J => ?_)
  clear I
  have I : LW D Y bP A s [(h0, .inr (4, [.null, .null, .null])), (q1, .inl (Y.1, 3, .inl (upd (upd (upd (fun _ => 0) (Int32.toNatClampNeg 0) 40) (Int32.toNatClampNeg 1) 20) (Int32.toNatClampNeg 2) 1)))] _ _ := J
  clear J
  refine n_putF I hx hb hts iw_X4_init_X4 tyX4 tyX4_ok nmX4 hown hi 0 rfl rfl 1 (by decide) (hts (.fieldLink RX4 9 "ReelNight$Receipts" "rules" "[I") (by decide +kernel)) rfl rfl rfl rfl (Nat.le_of_ble_eq_true rfl) dX4_init_22 (fun H locs J => ?_)
  clear I
  have I : LW D Y bP A s [(h0, .inr (4, [.null, .ref q1, .null])), (q1, .inl (Y.1, 3, .inl (upd (upd (upd (fun _ => 0) (Int32.toNatClampNeg 0) 40) (Int32.toNatClampNeg 1) 20) (Int32.toNatClampNeg 2) 1)))] _ _ := J
  clear J
  refine lv_aload_n hx hb dX4_init_25 rfl (lv_at hl 0 rfl) ?_
  refine lv_iconst (v := 2) hx hb dX4_init_26 (by decide) ?_
  refine n_newq I hx hb hown (hts (.classLink RX4 15 RX8) (by decide +kernel)) (by decide) (N := 2) (by decide) (by decide) (Nat.le_of_ble_eq_true rfl) (Nat.le_of_ble_eq_true rfl) dX4_init_27 (fun q2 H J => ?_)
  refine W.widen (k := 2) (n := 5) (by omega) (by omega) ?_
  clear I
  have I : LW D Y bP A s [(h0, .inr (4, [.null, .ref q1, .null])), (q1, .inl (Y.1, 3, .inl (upd (upd (upd (fun _ => 0) (Int32.toNatClampNeg 0) 40) (Int32.toNatClampNeg 1) 20) (Int32.toNatClampNeg 2) 1))), (q2, .inl (Y.2.2.2, 2, .inr (.inr (.inr (.inr (fun _ => none))))))] _ _ := J
  clear J
  refine lv_dup hx hb dX4_init_30 rfl ?_
  refine lv_iconst (v := 0) hx hb dX4_init_31 (by decide) ?_
  refine n_new (ci := 8) (fs := [.null, .int 0]) I hx hb hts iw_X4_init_X8 tyX8 tyX8_ok hown (hts (.classLink RX4 15 RX8) (by decide +kernel)) (hts (.instantiable RX8 2) (by decide +kernel)) (hts (.initialized RX8) (by decide +kernel)) rfl (fun j hj => by rcases (show j = 0 ∨ j = 1 by omega) with rfl | rfl <;> rfl) (Nat.le_of_ble_eq_true rfl) (Nat.le_of_ble_eq_true rfl) dX4_init_32 (fun q3 H J => ?_)
  refine W.widen (k := 3) (n := 7) (by omega) (by omega) ?_
  clear I
  have I : LW D Y bP A s [(h0, .inr (4, [.null, .ref q1, .null])), (q1, .inl (Y.1, 3, .inl (upd (upd (upd (fun _ => 0) (Int32.toNatClampNeg 0) 40) (Int32.toNatClampNeg 1) 20) (Int32.toNatClampNeg 2) 1))), (q2, .inl (Y.2.2.2, 2, .inr (.inr (.inr (.inr (fun _ => none)))))), (q3, .inr (8, [.null, .int 0]))] _ _ := J
  clear J
  refine lv_dup hx hb dX4_init_35 rfl ?_
  refine n_callIN (rest := [.ref q3, .int 0, .ref q2, .ref q2, .ref h0]) (wr := [(h0, .inr (4, [.null, .ref q1, .null])), (q1, .inl (Y.1, 3, .inl (upd (upd (upd (fun _ => 0) (Int32.toNatClampNeg 0) 40) (Int32.toNatClampNeg 1) 20) (Int32.toNatClampNeg 2) 1))), (q2, .inl (Y.2.2.2, 2, .inr (.inr (.inr (.inr (fun _ => none))))))]) I ⟨hx, hb, hml, hown, hts⟩ (ct_X8_init q3) ⟨va_cnB 0 hts gX4_init_X8_init_n17 rfl rfl rfl (nM I.2.2.2.2.2.1 (own := RX4) (index := 17) (y := yX8_init) (host := "ReelNight") (by decide +kernel)) (hts (.initialized RX8) (by decide +kernel)) (by decide +kernel) ⟨Nat.le_of_ble_eq_true rfl, Nat.le_of_ble_eq_true rfl⟩, rfl, (hts (.instanceMethod yX8_init) (by decide +kernel))⟩ [3] [0, 1, 2] rfl rfl rfl rfl (by decide) rfl hl.1 rfl (Nat.le_of_ble_eq_true rfl) dX4_init_36 ⟨Nat.le_of_ble_eq_true rfl, Nat.le_of_ble_eq_true rfl⟩ (fun u4 H locs hu I2 => ?_)
  have hl9 := hl
  clear I
  subst hu
  have I := I2
  have J := I2
  clear I2
  refine W.widen (k := 4) (n := 31) (by omega) (by omega) ?_
  clear I
  have I : LW D Y bP A s [(h0, .inr (4, [.null, .ref q1, .null])), (q1, .inl (Y.1, 3, .inl (upd (upd (upd (fun _ => 0) (Int32.toNatClampNeg 0) 40) (Int32.toNatClampNeg 1) 20) (Int32.toNatClampNeg 2) 1))), (q2, .inl (Y.2.2.2, 2, .inr (.inr (.inr (.inr (fun _ => none)))))), ((u4 0), .inr (8, [.ref (u4 1), .int (-1)])), ((u4 1), .inl (Y.2.1, 24, .inl (fun _ => 0)))] _ _ := J
  clear J
  have hl : lv_has ls 2 [(0, .ref h0), (1, .ref hh)] := hl9
  refine n_astq I hx hb 2 3 rfl rfl (show ¬ ((0 : Int32) < 0 ∨ 2 ≤ (0 : Int32).toNatClampNeg) from by decide) dX4_init_39 (fun H locs J => ?_)
  clear I
  have I : LW D Y bP A s [(h0, .inr (4, [.null, .ref q1, .null])), (q1, .inl (Y.1, 3, .inl (upd (upd (upd (fun _ => 0) (Int32.toNatClampNeg 0) 40) (Int32.toNatClampNeg 1) 20) (Int32.toNatClampNeg 2) 1))), (q2, .inl (Y.2.2.2, 2, .inr (.inr (.inr (.inr (va_up (fun _ => none) (Int32.toNatClampNeg 0) (some (u4 0)))))))), ((u4 0), .inr (8, [.ref (u4 1), .int (-1)])), ((u4 1), .inl (Y.2.1, 24, .inl (fun _ => 0)))] _ _ := J
  clear J
  refine lv_dup hx hb dX4_init_40 rfl ?_
  refine lv_iconst (v := 1) hx hb dX4_init_41 (by decide) ?_
  refine n_new (ci := 8) (fs := [.null, .int 0]) I hx hb hts iw_X4_init_X8 tyX8 tyX8_ok hown (hts (.classLink RX4 15 RX8) (by decide +kernel)) (hts (.instantiable RX8 2) (by decide +kernel)) (hts (.initialized RX8) (by decide +kernel)) rfl (fun j hj => by rcases (show j = 0 ∨ j = 1 by omega) with rfl | rfl <;> rfl) (Nat.le_of_ble_eq_true rfl) (Nat.le_of_ble_eq_true rfl) dX4_init_42 (fun q5 H J => ?_)
  refine W.widen (k := 5) (n := 33) (by omega) (by omega) ?_
  clear I
  have I : LW D Y bP A s [(h0, .inr (4, [.null, .ref q1, .null])), (q1, .inl (Y.1, 3, .inl (upd (upd (upd (fun _ => 0) (Int32.toNatClampNeg 0) 40) (Int32.toNatClampNeg 1) 20) (Int32.toNatClampNeg 2) 1))), (q2, .inl (Y.2.2.2, 2, .inr (.inr (.inr (.inr (va_up (fun _ => none) (Int32.toNatClampNeg 0) (some (u4 0)))))))), ((u4 0), .inr (8, [.ref (u4 1), .int (-1)])), ((u4 1), .inl (Y.2.1, 24, .inl (fun _ => 0))), (q5, .inr (8, [.null, .int 0]))] _ _ := J
  clear J
  refine lv_dup hx hb dX4_init_45 rfl ?_
  refine n_callIN (rest := [.ref q5, .int 1, .ref q2, .ref q2, .ref h0]) (wr := [(h0, .inr (4, [.null, .ref q1, .null])), (q1, .inl (Y.1, 3, .inl (upd (upd (upd (fun _ => 0) (Int32.toNatClampNeg 0) 40) (Int32.toNatClampNeg 1) 20) (Int32.toNatClampNeg 2) 1))), (q2, .inl (Y.2.2.2, 2, .inr (.inr (.inr (.inr (va_up (fun _ => none) (Int32.toNatClampNeg 0) (some (u4 0)))))))), ((u4 0), .inr (8, [.ref (u4 1), .int (-1)])), ((u4 1), .inl (Y.2.1, 24, .inl (fun _ => 0)))]) I ⟨hx, hb, hml, hown, hts⟩ (ct_X8_init q5) ⟨va_cnB 0 hts gX4_init_X8_init_n17 rfl rfl rfl (nM I.2.2.2.2.2.1 (own := RX4) (index := 17) (y := yX8_init) (host := "ReelNight") (by decide +kernel)) (hts (.initialized RX8) (by decide +kernel)) (by decide +kernel) ⟨Nat.le_of_ble_eq_true rfl, Nat.le_of_ble_eq_true rfl⟩, rfl, (hts (.instanceMethod yX8_init) (by decide +kernel))⟩ [5] [0, 1, 2, 3, 4] rfl rfl rfl rfl (by decide) rfl hl.1 rfl (Nat.le_of_ble_eq_true rfl) dX4_init_46 ⟨Nat.le_of_ble_eq_true rfl, Nat.le_of_ble_eq_true rfl⟩ (fun u6 H locs hu I2 => ?_)
  have hl9 := hl
  clear I
  subst hu
  have I := I2
  have J := I2
  clear I2
  refine W.widen (k := 6) (n := 57) (by omega) (by omega) ?_
  clear I
  have I : LW D Y bP A s [(h0, .inr (4, [.null, .ref q1, .null])), (q1, .inl (Y.1, 3, .inl (upd (upd (upd (fun _ => 0) (Int32.toNatClampNeg 0) 40) (Int32.toNatClampNeg 1) 20) (Int32.toNatClampNeg 2) 1))), (q2, .inl (Y.2.2.2, 2, .inr (.inr (.inr (.inr (va_up (fun _ => none) (Int32.toNatClampNeg 0) (some (u4 0)))))))), ((u4 0), .inr (8, [.ref (u4 1), .int (-1)])), ((u4 1), .inl (Y.2.1, 24, .inl (fun _ => 0))), ((u6 0), .inr (8, [.ref (u6 1), .int (-1)])), ((u6 1), .inl (Y.2.1, 24, .inl (fun _ => 0)))] _ _ := J
  clear J
  have hl : lv_has ls 2 [(0, .ref h0), (1, .ref hh)] := hl9
  refine n_astq I hx hb 2 5 rfl rfl (show ¬ ((1 : Int32) < 0 ∨ 2 ≤ (1 : Int32).toNatClampNeg) from by decide) dX4_init_49 (fun H locs J => ?_)
  clear I
  have I : LW D Y bP A s [(h0, .inr (4, [.null, .ref q1, .null])), (q1, .inl (Y.1, 3, .inl (upd (upd (upd (fun _ => 0) (Int32.toNatClampNeg 0) 40) (Int32.toNatClampNeg 1) 20) (Int32.toNatClampNeg 2) 1))), (q2, .inl (Y.2.2.2, 2, .inr (.inr (.inr (.inr (va_up (va_up (fun _ => none) (Int32.toNatClampNeg 0) (some (u4 0))) (Int32.toNatClampNeg 1) (some (u6 0)))))))), ((u4 0), .inr (8, [.ref (u4 1), .int (-1)])), ((u4 1), .inl (Y.2.1, 24, .inl (fun _ => 0))), ((u6 0), .inr (8, [.ref (u6 1), .int (-1)])), ((u6 1), .inl (Y.2.1, 24, .inl (fun _ => 0)))] _ _ := J
  clear J
  refine n_putF I hx hb hts iw_X4_init_X4 tyX4 tyX4_ok nmX4 hown hi 0 rfl rfl 2 (by decide) (hts (.fieldLink RX4 18 "ReelNight$Receipts" "sheets" "[LReelNight$Sheet;") (by decide +kernel)) rfl rfl rfl rfl (Nat.le_of_ble_eq_true rfl) dX4_init_50 (fun H locs J => ?_)
  clear I
  have I : LW D Y bP A s [(h0, .inr (4, [.null, .ref q1, .ref q2])), (q1, .inl (Y.1, 3, .inl (upd (upd (upd (fun _ => 0) (Int32.toNatClampNeg 0) 40) (Int32.toNatClampNeg 1) 20) (Int32.toNatClampNeg 2) 1))), (q2, .inl (Y.2.2.2, 2, .inr (.inr (.inr (.inr (va_up (va_up (fun _ => none) (Int32.toNatClampNeg 0) (some (u4 0))) (Int32.toNatClampNeg 1) (some (u6 0)))))))), ((u4 0), .inr (8, [.ref (u4 1), .int (-1)])), ((u4 1), .inl (Y.2.1, 24, .inl (fun _ => 0))), ((u6 0), .inr (8, [.ref (u6 1), .int (-1)])), ((u6 1), .inl (Y.2.1, 24, .inl (fun _ => 0)))] _ _ := J
  clear J
  refine lv_aload_n hx hb dX4_init_53 rfl (lv_at hl 0 rfl) ?_
  refine lv_aload_n hx hb dX4_init_54 rfl (lv_at hl 1 rfl) ?_
  refine n_putF I hx hb hts iw_X4_init_X4 tyX4 tyX4_ok nmX4 hown hi 0 rfl rfl 0 (by decide) (hts (.fieldLink RX4 22 "ReelNight$Receipts" "houses" "LReelNight$Houses;") (by decide +kernel)) rfl rfl rfl rfl (Nat.le_of_ble_eq_true rfl) dX4_init_55 (fun H locs J => ?_)
  clear I
  have I : LW D Y bP A s [(h0, .inr (4, [.ref hh, .ref q1, .ref q2])), (q1, .inl (Y.1, 3, .inl (upd (upd (upd (fun _ => 0) (Int32.toNatClampNeg 0) 40) (Int32.toNatClampNeg 1) 20) (Int32.toNatClampNeg 2) 1))), (q2, .inl (Y.2.2.2, 2, .inr (.inr (.inr (.inr (va_up (va_up (fun _ => none) (Int32.toNatClampNeg 0) (some (u4 0))) (Int32.toNatClampNeg 1) (some (u6 0)))))))), ((u4 0), .inr (8, [.ref (u4 1), .int (-1)])), ((u4 1), .inl (Y.2.1, 24, .inl (fun _ => 0))), ((u6 0), .inr (8, [.ref (u6 1), .int (-1)])), ((u6 1), .inl (Y.2.1, 24, .inl (fun _ => 0)))] _ _ := J
  clear J
  have J := n_extq (f' := (fun j => if j = 0 then some (u4 0) else some (u6 0))) I 2 rfl (fun j hj => by rcases (show j = 0 ∨ j = 1 by omega) with rfl | rfl <;> rfl)
  clear I
  have I : LW D Y bP A s [(h0, .inr (4, [.ref hh, .ref q1, .ref q2])), (q1, .inl (Y.1, 3, .inl (upd (upd (upd (fun _ => 0) (Int32.toNatClampNeg 0) 40) (Int32.toNatClampNeg 1) 20) (Int32.toNatClampNeg 2) 1))), (q2, .inl (Y.2.2.2, 2, .inr (.inr (.inr (.inr (fun j => if j = 0 then some (u4 0) else some (u6 0))))))), ((u4 0), .inr (8, [.ref (u4 1), .int (-1)])), ((u4 1), .inl (Y.2.1, 24, .inl (fun _ => 0))), ((u6 0), .inr (8, [.ref (u6 1), .int (-1)])), ((u6 1), .inl (Y.2.1, 24, .inl (fun _ => 0)))] _ _ := J
  clear J
  subst hAe
  exact n_vret (gl [h0, q1, q2, (u4 0), (u4 1), (u6 0), (u6 1)]) rfl I hx hb hr hlk dX4_init_58
