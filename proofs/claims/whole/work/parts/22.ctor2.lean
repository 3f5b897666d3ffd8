theorem iw_X10_init_X10 : ∀ w ∈ u_ws RX10 TX10 37, w ∈ wsX10_init := fun _ h => List.mem_cons_of_mem _ (List.mem_append_right _ h)
set_option maxHeartbeats 4000000 in
set_option maxRecDepth 100000 in
theorem bX10_init_L231 {p : Program} {l : Launch} {e : Env} {R : Room} {s : State} {m : MethodId} {args : Array Value} {below : List Frame} {meth : Method} {c : Code} {D : va_G} {g : Nat → Nat} {Y : YT} {bP : Nat} {A : Nat → Prop} {cells slots : Nat} {Q : State → Prop} {res : St × Int32} (C0 : MC p s m args meth c cX10_init 2 none RX10 wsX10_init) {K266 : St → Option (St × Int32)} (hK266 : ∀ (σ : St) (H : Heap) (locs : List Loc) (ls : Array Slot), K266 σ = some res → JW D 27 g (KM g Y) Y bP A s σ H locs → lv_has ls 2 [(0, .ref (g 0))] → W p l e R s m args below meth c H locs cells slots Q (F0 m 266 ls [])) : ∀ (n : Nat) (σ : St) (a1 : Int32) (H : Heap) (locs : List Loc) (ls : Array Slot), fX10_init_L231 K266 n σ a1 = some res → JW D 27 g (KM g Y) Y bP A s σ H locs → lv_has ls 2 [(0, .ref (g 0)), (1, .int a1)] → W p l e R s m args below meth c H locs cells slots Q (F0 m 231 ls []) := by
  have C0 := C0
  obtain ⟨hx, hb, hr, hml, hown, hts, hlk⟩ := id C0
  intro n
  induction n with
  | zero =>
    intro σ a1 H locs ls hf
    cases hf
  | succ n ih =>
    intro σ a1 H locs ls hf I hl
    rw [fX10_init_L231] at hf
    refine lv_iload_n hx hb dX10_init_231 rfl (lv_at hl 1 rfl) ?_
    refine lv_bipush (v := 36) hx hb dX10_init_232 (by decide) ?_
    refine lv_icmp_ge (tgt := 266) hx hb dX10_init_234 (by decide) (fun c1 => ?_) (fun c1 => ?_)
    · have hf := i_t c1 hf
      exact hK266 σ _ _ _ hf I (lv_sub hl [0] rfl)
    · have hf := i_f c1 hf
      refine lv_aload_n hx hb dX10_init_237 rfl (lv_at hl 0 rfl) ?_
      refine j_get I hx hb hts iw_X10_init_X10 hown 0 (by decide) (km0 g Y _) rfl 5 (by decide) (hts (.fieldLink RX10 22 "ReelNightModel" "ways" "[I") (by decide +kernel)) rfl dX10_init_238 ?_
      refine lv_iload_n hx hb dX10_init_241 rfl (lv_at hl 1 rfl) ?_
      refine lv_iload_n hx hb dX10_init_242 rfl (lv_at hl 1 rfl) ?_
      refine lv_bipush (v := 6) hx hb dX10_init_243 (by decide) ?_
      refine lv_idiv hx hb dX10_init_245 (by decide) ?_
      refine lv_iload_n hx hb dX10_init_246 rfl (lv_at hl 1 rfl) ?_
      refine lv_bipush (v := 6) hx hb dX10_init_247 (by decide) ?_
      refine lv_irem hx hb dX10_init_249 (by decide) ?_
      refine lv_icmp_ne (tgt := 257) hx hb dX10_init_250 (by decide) (fun c2 => ?_) (fun c2 => ?_)
      · have hf := i_f c2 hf
        refine lv_bipush (v := 10) hx hb dX10_init_257 (by decide) ?_
        obtain ⟨b3, hf⟩ := o_nb hf
        obtain ⟨σ4, eσ4, hf⟩ := o_stp hf
        refine j_ast I hx hb 5 (by decide) (km5 g Y) b3 eσ4 dX10_init_259 (fun H locs I => ?_)
        refine lv_iinc (v := (a1 + 1)) (lv' := [(1, .int (a1 + 1)), (0, .ref (g 0))]) hx hb dX10_init_260 hl (k := 1) rfl rfl (by decide) rfl (fun ls hl => ?_)
        refine lv_goto (tgt := 231) hx hb dX10_init_263 (by decide) ?_
        exact ih σ4 (a1 + 1) _ _ _ hf I (lv_sub hl [1, 0] rfl)
      · have hf := i_t c2 hf
        refine lv_iconst (v := 0) hx hb dX10_init_253 (by decide) ?_
        refine lv_goto (tgt := 259) hx hb dX10_init_254 (by decide) ?_
        obtain ⟨b5, hf⟩ := o_nb hf
        obtain ⟨σ6, eσ6, hf⟩ := o_stp hf
        refine j_ast I hx hb 5 (by decide) (km5 g Y) b5 eσ6 dX10_init_259 (fun H locs I => ?_)
        refine lv_iinc (v := (a1 + 1)) (lv' := [(1, .int (a1 + 1)), (0, .ref (g 0))]) hx hb dX10_init_260 hl (k := 1) rfl rfl (by decide) rfl (fun ls hl => ?_)
        refine lv_goto (tgt := 231) hx hb dX10_init_263 (by decide) ?_
        exact ih σ6 (a1 + 1) _ _ _ hf I (lv_sub hl [1, 0] rfl)
set_option maxHeartbeats 4000000 in
set_option maxRecDepth 100000 in
theorem bX10_init_L268 {p : Program} {l : Launch} {e : Env} {R : Room} {s : State} {m : MethodId} {args : Array Value} {below : List Frame} {meth : Method} {c : Code} {D : va_G} {g : Nat → Nat} {Y : YT} {bP : Nat} {A : Nat → Prop} {cells slots : Nat} {Q : State → Prop} {res : St × Int32} (C0 : MC p s m args meth c cX10_init 2 none RX10 wsX10_init) {K294 : St → Option (St × Int32)} (hK294 : ∀ (σ : St) (H : Heap) (locs : List Loc) (ls : Array Slot), K294 σ = some res → JW D 27 g (KM g Y) Y bP A s σ H locs → lv_has ls 2 [(0, .ref (g 0))] → W p l e R s m args below meth c H locs cells slots Q (F0 m 294 ls [])) : ∀ (n : Nat) (σ : St) (a1 : Int32) (H : Heap) (locs : List Loc) (ls : Array Slot), fX10_init_L268 K294 n σ a1 = some res → JW D 27 g (KM g Y) Y bP A s σ H locs → lv_has ls 2 [(0, .ref (g 0)), (1, .int a1)] → W p l e R s m args below meth c H locs cells slots Q (F0 m 268 ls []) := by
  have C0 := C0
  obtain ⟨hx, hb, hr, hml, hown, hts, hlk⟩ := id C0
  intro n
  induction n with
  | zero =>
    intro σ a1 H locs ls hf
    cases hf
  | succ n ih =>
    intro σ a1 H locs ls hf I hl
    rw [fX10_init_L268] at hf
    refine lv_iload_n hx hb dX10_init_268 rfl (lv_at hl 1 rfl) ?_
    refine lv_bipush (v := 24) hx hb dX10_init_269 (by decide) ?_
    refine lv_icmp_ge (tgt := 294) hx hb dX10_init_271 (by decide) (fun c8 => ?_) (fun c8 => ?_)
    · have hf := i_t c8 hf
      exact hK294 σ _ _ _ hf I (lv_sub hl [0] rfl)
    · have hf := i_f c8 hf
      refine lv_aload_n hx hb dX10_init_274 rfl (lv_at hl 0 rfl) ?_
      refine j_get I hx hb hts iw_X10_init_X10 hown 0 (by decide) (km0 g Y _) rfl 15 (by decide) (hts (.fieldLink RX10 43 "ReelNightModel" "pins" "[I") (by decide +kernel)) rfl dX10_init_275 ?_
      refine lv_iload_n hx hb dX10_init_278 rfl (lv_at hl 1 rfl) ?_
      refine lv_iconst (v := (-1)) hx hb dX10_init_279 (by decide) ?_
      obtain ⟨b9, hf⟩ := o_nb hf
      obtain ⟨σ10, eσ10, hf⟩ := o_stp hf
      refine j_ast I hx hb 12 (by decide) (km12 g Y) b9 eσ10 dX10_init_280 (fun H locs I => ?_)
      refine lv_aload_n hx hb dX10_init_281 rfl (lv_at hl 0 rfl) ?_
      refine j_get I hx hb hts iw_X10_init_X10 hown 0 (by decide) (km0 g Y _) rfl 16 (by decide) (hts (.fieldLink RX10 46 "ReelNightModel" "planned" "[I") (by decide +kernel)) rfl dX10_init_282 ?_
      refine lv_iload_n hx hb dX10_init_285 rfl (lv_at hl 1 rfl) ?_
      refine lv_iconst (v := (-1)) hx hb dX10_init_286 (by decide) ?_
      obtain ⟨b11, hf⟩ := o_nb hf
      obtain ⟨σ12, eσ12, hf⟩ := o_stp hf
      refine j_ast I hx hb 13 (by decide) (km13 g Y) b11 eσ12 dX10_init_287 (fun H locs I => ?_)
      refine lv_iinc (v := (a1 + 1)) (lv' := [(1, .int (a1 + 1)), (0, .ref (g 0))]) hx hb dX10_init_288 hl (k := 1) rfl rfl (by decide) rfl (fun ls hl => ?_)
      refine lv_goto (tgt := 268) hx hb dX10_init_291 (by decide) ?_
      exact ih σ12 (a1 + 1) _ _ _ hf I (lv_sub hl [1, 0] rfl)

set_option maxHeartbeats 8000000 in
set_option maxRecDepth 100000 in
theorem ct_X10_init {l : Launch} {D : va_G} {Y : YT} {bP : Nat} (h0 : Nat) (res : St × Int32) (hf : fX10_init σM00 = some res) : CN l yX10_init wsX10_init ⟨1, 26, 2242, 12⟩ 26 2242 D Y bP [.ref h0] [(h0, .inr (10, [.int 0, .null, .null, .null, .null, .null, .null, .int 0, .null, .null, .int 0, .null, .null, .int 0, .null, .null, .null, .int 0, .int 0, .int 0, .null, .null, .null, .null, .null, .null, .null, .null, .null, .null, .null, .null, .int 0, .int 0, .int 0, .int 0, .null]))] (fun u => u 0 = h0) (fun u => wd 27 u (KM u Y) res.1) := by
  intro sz
  refine Met.ofW (cc := cX10_init) (maxL := 2) (ret := none) (by decide) rfl ?_
  intro p e s m args below meth c s₁ B hml hv
  obtain ⟨rfl, rfl, I⟩ := n_start hv
  have C0 : MC p s m _ meth c cX10_init 2 none RX10 wsX10_init := ⟨B.exec, B.bytes, B.returns, hml, findClass_of_methodNamed B.named, atoms_spec (ws := wsX10_init) B.pre, B.notSynchronized⟩
  obtain ⟨hx, hb, hr, hml, hown, hts, hlk⟩ := id C0
  have hi : meth.name = "<init>" := (name_of_methodNamed B.named B.method).1
  have hl := lv_entry ([.ref h0]) (n := 2) (Nat.le_of_ble_eq_true rfl)
  rw [lg_entry_eq]
  generalize (lg_sl ([.ref h0]) ++ List.replicate (2 - (lg_sl ([.ref h0])).length) Slot.unset).toArray = ls at hl ⊢
  have hl : lv_has ls 2 [(0, .ref h0)] := hl
  generalize hAe : va_A [(h0, .inr (10, [.int 0, .null, .null, .null, .null, .null, .null, .int 0, .null, .null, .int 0, .null, .null, .int 0, .null, .null, .null, .int 0, .int 0, .int 0, .null, .null, .null, .null, .null, .null, .null, .null, .null, .null, .null, .null, .int 0, .int 0, .int 0, .int 0, .null]))] s.heap.size = A at I ⊢
  refine lv_aload_n hx hb dX10_init_0 rfl (lv_at hl 0 rfl) ?_
  refine W.objInit hx hb hown (hts (.methodLink RX10 1 objectInit) (by decide +kernel)) (hts (.instanceMethod objectInit) (by decide +kernel)) (hts (.code objectInit ⟨#[0xb1]⟩ 1 none) (by decide +kernel)) rfl (by rw [hml]; exact hl.1) rfl dX10_init_1 (Nat.le_of_ble_eq_true rfl) (Nat.le_of_ble_eq_true rfl) ?_
  refine W.eq (g2 := F0 m 4 ls []) rfl ?_
  refine lv_aload_n hx hb dX10_init_4 rfl (lv_at hl 0 rfl) ?_
  refine lv_bipush (v := 6) hx hb dX10_init_5 (by decide) ?_
  refine n_arr I hx hb (atype := .int) rfl (hts (.arrayClass .int) (by decide +kernel)) Y.1 0 rfl (fun _ _ => rfl) rfl (by decide) (N := 6) (by decide) (by decide) (Nat.le_of_ble_eq_true rfl) (Nat.le_of_ble_eq_true rfl) dX10_init_7 (fun q1 H J => ?_)
  refine W.widen (k := 1) (n := 6) (by omega) (by omega) ?_
  clear I
  have I : LW D Y bP A s [(h0, .inr (10, [.int 0, .null, .null, .null, .null, .null, .null, .int 0, .null, .null, .int 0, .null, .null, .int 0, .null, .null, .null, .int 0, .int 0, .int 0, .null, .null, .null, .null, .null, .null, .null, .null, .null, .null, .null, .null, .int 0, .int 0, .int 0, .int 0, .null])), (q1, .inl (Y.1, 6, .inl (fun _ => 0)))] _ _ := J
  clear J
  refine n_putF I hx hb hts iw_X10_init_X10 tyX10 tyX10_ok nmX10 hown hi 0 rfl rfl 1 (by decide) (hts (.fieldLink RX10 7 "ReelNightModel" "kind" "[I") (by decide +kernel)) rfl rfl rfl rfl (Nat.le_of_ble_eq_true rfl) dX10_init_9 (fun H locs J => ?_)
  clear I
  have I : LW D Y bP A s [(h0, .inr (10, [.int 0, .ref q1, .null, .null, .null, .null, .null, .int 0, .null, .null, .int 0, .null, .null, .int 0, .null, .null, .null, .int 0, .int 0, .int 0, .null, .null, .null, .null, .null, .null, .null, .null, .null, .null, .null, .null, .int 0, .int 0, .int 0, .int 0, .null])), (q1, .inl (Y.1, 6, .inl (fun _ => 0)))] _ _ := J
  clear J
  refine lv_aload_n hx hb dX10_init_12 rfl (lv_at hl 0 rfl) ?_
  refine lv_bipush (v := 6) hx hb dX10_init_13 (by decide) ?_
  refine n_arr I hx hb (atype := .int) rfl (hts (.arrayClass .int) (by decide +kernel)) Y.1 0 rfl (fun _ _ => rfl) rfl (by decide) (N := 6) (by decide) (by decide) (Nat.le_of_ble_eq_true rfl) (Nat.le_of_ble_eq_true rfl) dX10_init_15 (fun q2 H J => ?_)
  refine W.widen (k := 2) (n := 12) (by omega) (by omega) ?_
  clear I
  have I : LW D Y bP A s [(h0, .inr (10, [.int 0, .ref q1, .null, .null, .null, .null, .null, .int 0, .null, .null, .int 0, .null, .null, .int 0, .null, .null, .null, .int 0, .int 0, .int 0, .null, .null, .null, .null, .null, .null, .null, .null, .null, .null, .null, .null, .int 0, .int 0, .int 0, .int 0, .null])), (q1, .inl (Y.1, 6, .inl (fun _ => 0))), (q2, .inl (Y.1, 6, .inl (fun _ => 0)))] _ _ := J
  clear J
  refine n_putF I hx hb hts iw_X10_init_X10 tyX10 tyX10_ok nmX10 hown hi 0 rfl rfl 2 (by decide) (hts (.fieldLink RX10 13 "ReelNightModel" "seats" "[I") (by decide +kernel)) rfl rfl rfl rfl (Nat.le_of_ble_eq_true rfl) dX10_init_17 (fun H locs J => ?_)
  clear I
  have I : LW D Y bP A s [(h0, .inr (10, [.int 0, .ref q1, .ref q2, .null, .null, .null, .null, .int 0, .null, .null, .int 0, .null, .null, .int 0, .null, .null, .null, .int 0, .int 0, .int 0, .null, .null, .null, .null, .null, .null, .null, .null, .null, .null, .null, .null, .int 0, .int 0, .int 0, .int 0, .null])), (q1, .inl (Y.1, 6, .inl (fun _ => 0))), (q2, .inl (Y.1, 6, .inl (fun _ => 0)))] _ _ := J
  clear J
  refine lv_aload_n hx hb dX10_init_20 rfl (lv_at hl 0 rfl) ?_
  refine lv_bipush (v := 6) hx hb dX10_init_21 (by decide) ?_
  refine n_arr I hx hb (atype := .int) rfl (hts (.arrayClass .int) (by decide +kernel)) Y.1 0 rfl (fun _ _ => rfl) rfl (by decide) (N := 6) (by decide) (by decide) (Nat.le_of_ble_eq_true rfl) (Nat.le_of_ble_eq_true rfl) dX10_init_23 (fun q3 H J => ?_)
  refine W.widen (k := 3) (n := 18) (by omega) (by omega) ?_
  clear I
  have I : LW D Y bP A s [(h0, .inr (10, [.int 0, .ref q1, .ref q2, .null, .null, .null, .null, .int 0, .null, .null, .int 0, .null, .null, .int 0, .null, .null, .null, .int 0, .int 0, .int 0, .null, .null, .null, .null, .null, .null, .null, .null, .null, .null, .null, .null, .int 0, .int 0, .int 0, .int 0, .null])), (q1, .inl (Y.1, 6, .inl (fun _ => 0))), (q2, .inl (Y.1, 6, .inl (fun _ => 0))), (q3, .inl (Y.1, 6, .inl (fun _ => 0)))] _ _ := J
  clear J
  refine n_putF I hx hb hts iw_X10_init_X10 tyX10 tyX10_ok nmX10 hown hi 0 rfl rfl 3 (by decide) (hts (.fieldLink RX10 16 "ReelNightModel" "slacks" "[I") (by decide +kernel)) rfl rfl rfl rfl (Nat.le_of_ble_eq_true rfl) dX10_init_25 (fun H locs J => ?_)
  clear I
  have I : LW D Y bP A s [(h0, .inr (10, [.int 0, .ref q1, .ref q2, .ref q3, .null, .null, .null, .int 0, .null, .null, .int 0, .null, .null, .int 0, .null, .null, .null, .int 0, .int 0, .int 0, .null, .null, .null, .null, .null, .null, .null, .null, .null, .null, .null, .null, .int 0, .int 0, .int 0, .int 0, .null])), (q1, .inl (Y.1, 6, .inl (fun _ => 0))), (q2, .inl (Y.1, 6, .inl (fun _ => 0))), (q3, .inl (Y.1, 6, .inl (fun _ => 0)))] _ _ := J
  clear J
  refine lv_aload_n hx hb dX10_init_28 rfl (lv_at hl 0 rfl) ?_
  refine lv_bipush (v := 6) hx hb dX10_init_29 (by decide) ?_
  refine n_arr I hx hb (atype := .int) rfl (hts (.arrayClass .int) (by decide +kernel)) Y.1 0 rfl (fun _ _ => rfl) rfl (by decide) (N := 6) (by decide) (by decide) (Nat.le_of_ble_eq_true rfl) (Nat.le_of_ble_eq_true rfl) dX10_init_31 (fun q4 H J => ?_)
  refine W.widen (k := 4) (n := 24) (by omega) (by omega) ?_
  clear I
  have I : LW D Y bP A s [(h0, .inr (10, [.int 0, .ref q1, .ref q2, .ref q3, .null, .null, .null, .int 0, .null, .null, .int 0, .null, .null, .int 0, .null, .null, .null, .int 0, .int 0, .int 0, .null, .null, .null, .null, .null, .null, .null, .null, .null, .null, .null, .null, .int 0, .int 0, .int 0, .int 0, .null])), (q1, .inl (Y.1, 6, .inl (fun _ => 0))), (q2, .inl (Y.1, 6, .inl (fun _ => 0))), (q3, .inl (Y.1, 6, .inl (fun _ => 0))), (q4, .inl (Y.1, 6, .inl (fun _ => 0)))] _ _ := J
  clear J
  refine n_putF I hx hb hts iw_X10_init_X10 tyX10 tyX10_ok nmX10 hown hi 0 rfl rfl 4 (by decide) (hts (.fieldLink RX10 19 "ReelNightModel" "leasts" "[I") (by decide +kernel)) rfl rfl rfl rfl (Nat.le_of_ble_eq_true rfl) dX10_init_33 (fun H locs J => ?_)
  clear I
  have I : LW D Y bP A s [(h0, .inr (10, [.int 0, .ref q1, .ref q2, .ref q3, .ref q4, .null, .null, .int 0, .null, .null, .int 0, .null, .null, .int 0, .null, .null, .null, .int 0, .int 0, .int 0, .null, .null, .null, .null, .null, .null, .null, .null, .null, .null, .null, .null, .int 0, .int 0, .int 0, .int 0, .null])), (q1, .inl (Y.1, 6, .inl (fun _ => 0))), (q2, .inl (Y.1, 6, .inl (fun _ => 0))), (q3, .inl (Y.1, 6, .inl (fun _ => 0))), (q4, .inl (Y.1, 6, .inl (fun _ => 0)))] _ _ := J
  clear J
  refine lv_aload_n hx hb dX10_init_36 rfl (lv_at hl 0 rfl) ?_
  refine lv_bipush (v := 36) hx hb dX10_init_37 (by decide) ?_
  refine n_arr I hx hb (atype := .int) rfl (hts (.arrayClass .int) (by decide +kernel)) Y.1 0 rfl (fun _ _ => rfl) rfl (by decide) (N := 36) (by decide) (by decide) (Nat.le_of_ble_eq_true rfl) (Nat.le_of_ble_eq_true rfl) dX10_init_39 (fun q5 H J => ?_)
  refine W.widen (k := 5) (n := 60) (by omega) (by omega) ?_
  clear I
  have I : LW D Y bP A s [(h0, .inr (10, [.int 0, .ref q1, .ref q2, .ref q3, .ref q4, .null, .null, .int 0, .null, .null, .int 0, .null, .null, .int 0, .null, .null, .null, .int 0, .int 0, .int 0, .null, .null, .null, .null, .null, .null, .null, .null, .null, .null, .null, .null, .int 0, .int 0, .int 0, .int 0, .null])), (q1, .inl (Y.1, 6, .inl (fun _ => 0))), (q2, .inl (Y.1, 6, .inl (fun _ => 0))), (q3, .inl (Y.1, 6, .inl (fun _ => 0))), (q4, .inl (Y.1, 6, .inl (fun _ => 0))), (q5, .inl (Y.1, 36, .inl (fun _ => 0)))] _ _ := J
  clear J
  refine n_putF I hx hb hts iw_X10_init_X10 tyX10 tyX10_ok nmX10 hown hi 0 rfl rfl 5 (by decide) (hts (.fieldLink RX10 22 "ReelNightModel" "ways" "[I") (by decide +kernel)) rfl rfl rfl rfl (Nat.le_of_ble_eq_true rfl) dX10_init_41 (fun H locs J => ?_)
  clear I
  have I : LW D Y bP A s [(h0, .inr (10, [.int 0, .ref q1, .ref q2, .ref q3, .ref q4, .ref q5, .null, .int 0, .null, .null, .int 0, .null, .null, .int 0, .null, .null, .null, .int 0, .int 0, .int 0, .null, .null, .null, .null, .null, .null, .null, .null, .null, .null, .null, .null, .int 0, .int 0, .int 0, .int 0, .null])), (q1, .inl (Y.1, 6, .inl (fun _ => 0))), (q2, .inl (Y.1, 6, .inl (fun _ => 0))), (q3, .inl (Y.1, 6, .inl (fun _ => 0))), (q4, .inl (Y.1, 6, .inl (fun _ => 0))), (q5, .inl (Y.1, 36, .inl (fun _ => 0)))] _ _ := J
  clear J
  refine lv_aload_n hx hb dX10_init_44 rfl (lv_at hl 0 rfl) ?_
  refine lv_bipush (v := 36) hx hb dX10_init_45 (by decide) ?_
  refine n_arr I hx hb (atype := .int) rfl (hts (.arrayClass .int) (by decide +kernel)) Y.1 0 rfl (fun _ _ => rfl) rfl (by decide) (N := 36) (by decide) (by decide) (Nat.le_of_ble_eq_true rfl) (Nat.le_of_ble_eq_true rfl) dX10_init_47 (fun q6 H J => ?_)
  refine W.widen (k := 6) (n := 96) (by omega) (by omega) ?_
  clear I
  have I : LW D Y bP A s [(h0, .inr (10, [.int 0, .ref q1, .ref q2, .ref q3, .ref q4, .ref q5, .null, .int 0, .null, .null, .int 0, .null, .null, .int 0, .null, .null, .null, .int 0, .int 0, .int 0, .null, .null, .null, .null, .null, .null, .null, .null, .null, .null, .null, .null, .int 0, .int 0, .int 0, .int 0, .null])), (q1, .inl (Y.1, 6, .inl (fun _ => 0))), (q2, .inl (Y.1, 6, .inl (fun _ => 0))), (q3, .inl (Y.1, 6, .inl (fun _ => 0))), (q4, .inl (Y.1, 6, .inl (fun _ => 0))), (q5, .inl (Y.1, 36, .inl (fun _ => 0))), (q6, .inl (Y.1, 36, .inl (fun _ => 0)))] _ _ := J
  clear J
  refine n_putF I hx hb hts iw_X10_init_X10 tyX10 tyX10_ok nmX10 hown hi 0 rfl rfl 6 (by decide) (hts (.fieldLink RX10 25 "ReelNightModel" "bars" "[I") (by decide +kernel)) rfl rfl rfl rfl (Nat.le_of_ble_eq_true rfl) dX10_init_49 (fun H locs J => ?_)
  clear I
  have I : LW D Y bP A s [(h0, .inr (10, [.int 0, .ref q1, .ref q2, .ref q3, .ref q4, .ref q5, .ref q6, .int 0, .null, .null, .int 0, .null, .null, .int 0, .null, .null, .null, .int 0, .int 0, .int 0, .null, .null, .null, .null, .null, .null, .null, .null, .null, .null, .null, .null, .int 0, .int 0, .int 0, .int 0, .null])), (q1, .inl (Y.1, 6, .inl (fun _ => 0))), (q2, .inl (Y.1, 6, .inl (fun _ => 0))), (q3, .inl (Y.1, 6, .inl (fun _ => 0))), (q4, .inl (Y.1, 6, .inl (fun _ => 0))), (q5, .inl (Y.1, 36, .inl (fun _ => 0))), (q6, .inl (Y.1, 36, .inl (fun _ => 0)))] _ _ := J
  clear J
  refine lv_aload_n hx hb dX10_init_52 rfl (lv_at hl 0 rfl) ?_
  refine lv_bipush (v := 8) hx hb dX10_init_53 (by decide) ?_
  refine n_arr I hx hb (atype := .int) rfl (hts (.arrayClass .int) (by decide +kernel)) Y.1 0 rfl (fun _ _ => rfl) rfl (by decide) (N := 8) (by decide) (by decide) (Nat.le_of_ble_eq_true rfl) (Nat.le_of_ble_eq_true rfl) dX10_init_55 (fun q7 H J => ?_)
  refine W.widen (k := 7) (n := 104) (by omega) (by omega) ?_
  clear I
  have I : LW D Y bP A s [(h0, .inr (10, [.int 0, .ref q1, .ref q2, .ref q3, .ref q4, .ref q5, .ref q6, .int 0, .null, .null, .int 0, .null, .null, .int 0, .null, .null, .null, .int 0, .int 0, .int 0, .null, .null, .null, .null, .null, .null, .null, .null, .null, .null, .null, .null, .int 0, .int 0, .int 0, .int 0, .null])), (q1, .inl (Y.1, 6, .inl (fun _ => 0))), (q2, .inl (Y.1, 6, .inl (fun _ => 0))), (q3, .inl (Y.1, 6, .inl (fun _ => 0))), (q4, .inl (Y.1, 6, .inl (fun _ => 0))), (q5, .inl (Y.1, 36, .inl (fun _ => 0))), (q6, .inl (Y.1, 36, .inl (fun _ => 0))), (q7, .inl (Y.1, 8, .inl (fun _ => 0)))] _ _ := J
  clear J
  refine n_putF I hx hb hts iw_X10_init_X10 tyX10 tyX10_ok nmX10 hown hi 0 rfl rfl 8 (by decide) (hts (.fieldLink RX10 28 "ReelNightModel" "frames" "[I") (by decide +kernel)) rfl rfl rfl rfl (Nat.le_of_ble_eq_true rfl) dX10_init_57 (fun H locs J => ?_)
  clear I
  have I : LW D Y bP A s [(h0, .inr (10, [.int 0, .ref q1, .ref q2, .ref q3, .ref q4, .ref q5, .ref q6, .int 0, .ref q7, .null, .int 0, .null, .null, .int 0, .null, .null, .null, .int 0, .int 0, .int 0, .null, .null, .null, .null, .null, .null, .null, .null, .null, .null, .null, .null, .int 0, .int 0, .int 0, .int 0, .null])), (q1, .inl (Y.1, 6, .inl (fun _ => 0))), (q2, .inl (Y.1, 6, .inl (fun _ => 0))), (q3, .inl (Y.1, 6, .inl (fun _ => 0))), (q4, .inl (Y.1, 6, .inl (fun _ => 0))), (q5, .inl (Y.1, 36, .inl (fun _ => 0))), (q6, .inl (Y.1, 36, .inl (fun _ => 0))), (q7, .inl (Y.1, 8, .inl (fun _ => 0)))] _ _ := J
  clear J
  refine lv_aload_n hx hb dX10_init_60 rfl (lv_at hl 0 rfl) ?_
  refine lv_bipush (v := 8) hx hb dX10_init_61 (by decide) ?_
  refine n_arr I hx hb (atype := .int) rfl (hts (.arrayClass .int) (by decide +kernel)) Y.1 0 rfl (fun _ _ => rfl) rfl (by decide) (N := 8) (by decide) (by decide) (Nat.le_of_ble_eq_true rfl) (Nat.le_of_ble_eq_true rfl) dX10_init_63 (fun q8 H J => ?_)
  refine W.widen (k := 8) (n := 112) (by omega) (by omega) ?_
  clear I
  have I : LW D Y bP A s [(h0, .inr (10, [.int 0, .ref q1, .ref q2, .ref q3, .ref q4, .ref q5, .ref q6, .int 0, .ref q7, .null, .int 0, .null, .null, .int 0, .null, .null, .null, .int 0, .int 0, .int 0, .null, .null, .null, .null, .null, .null, .null, .null, .null, .null, .null, .null, .int 0, .int 0, .int 0, .int 0, .null])), (q1, .inl (Y.1, 6, .inl (fun _ => 0))), (q2, .inl (Y.1, 6, .inl (fun _ => 0))), (q3, .inl (Y.1, 6, .inl (fun _ => 0))), (q4, .inl (Y.1, 6, .inl (fun _ => 0))), (q5, .inl (Y.1, 36, .inl (fun _ => 0))), (q6, .inl (Y.1, 36, .inl (fun _ => 0))), (q7, .inl (Y.1, 8, .inl (fun _ => 0))), (q8, .inl (Y.1, 8, .inl (fun _ => 0)))] _ _ := J
  clear J
  refine n_putF I hx hb hts iw_X10_init_X10 tyX10 tyX10_ok nmX10 hown hi 0 rfl rfl 9 (by decide) (hts (.fieldLink RX10 31 "ReelNightModel" "mends" "[I") (by decide +kernel)) rfl rfl rfl rfl (Nat.le_of_ble_eq_true rfl) dX10_init_65 (fun H locs J => ?_)
  clear I
  have I : LW D Y bP A s [(h0, .inr (10, [.int 0, .ref q1, .ref q2, .ref q3, .ref q4, .ref q5, .ref q6, .int 0, .ref q7, .ref q8, .int 0, .null, .null, .int 0, .null, .null, .null, .int 0, .int 0, .int 0, .null, .null, .null, .null, .null, .null, .null, .null, .null, .null, .null, .null, .int 0, .int 0, .int 0, .int 0, .null])), (q1, .inl (Y.1, 6, .inl (fun _ => 0))), (q2, .inl (Y.1, 6, .inl (fun _ => 0))), (q3, .inl (Y.1, 6, .inl (fun _ => 0))), (q4, .inl (Y.1, 6, .inl (fun _ => 0))), (q5, .inl (Y.1, 36, .inl (fun _ => 0))), (q6, .inl (Y.1, 36, .inl (fun _ => 0))), (q7, .inl (Y.1, 8, .inl (fun _ => 0))), (q8, .inl (Y.1, 8, .inl (fun _ => 0)))] _ _ := J
  clear J
  refine lv_aload_n hx hb dX10_init_68 rfl (lv_at hl 0 rfl) ?_
  refine lv_bipush (v := 6) hx hb dX10_init_69 (by decide) ?_
  refine n_arr I hx hb (atype := .int) rfl (hts (.arrayClass .int) (by decide +kernel)) Y.1 0 rfl (fun _ _ => rfl) rfl (by decide) (N := 6) (by decide) (by decide) (Nat.le_of_ble_eq_true rfl) (Nat.le_of_ble_eq_true rfl) dX10_init_71 (fun q9 H J => ?_)
  refine W.widen (k := 9) (n := 118) (by omega) (by omega) ?_
  clear I
  have I : LW D Y bP A s [(h0, .inr (10, [.int 0, .ref q1, .ref q2, .ref q3, .ref q4, .ref q5, .ref q6, .int 0, .ref q7, .ref q8, .int 0, .null, .null, .int 0, .null, .null, .null, .int 0, .int 0, .int 0, .null, .null, .null, .null, .null, .null, .null, .null, .null, .null, .null, .null, .int 0, .int 0, .int 0, .int 0, .null])), (q1, .inl (Y.1, 6, .inl (fun _ => 0))), (q2, .inl (Y.1, 6, .inl (fun _ => 0))), (q3, .inl (Y.1, 6, .inl (fun _ => 0))), (q4, .inl (Y.1, 6, .inl (fun _ => 0))), (q5, .inl (Y.1, 36, .inl (fun _ => 0))), (q6, .inl (Y.1, 36, .inl (fun _ => 0))), (q7, .inl (Y.1, 8, .inl (fun _ => 0))), (q8, .inl (Y.1, 8, .inl (fun _ => 0))), (q9, .inl (Y.1, 6, .inl (fun _ => 0)))] _ _ := J
  clear J
  refine n_putF I hx hb hts iw_X10_init_X10 tyX10 tyX10_ok nmX10 hown hi 0 rfl rfl 11 (by decide) (hts (.fieldLink RX10 34 "ReelNightModel" "order" "[I") (by decide +kernel)) rfl rfl rfl rfl (Nat.le_of_ble_eq_true rfl) dX10_init_73 (fun H locs J => ?_)
  clear I
  have I : LW D Y bP A s [(h0, .inr (10, [.int 0, .ref q1, .ref q2, .ref q3, .ref q4, .ref q5, .ref q6, .int 0, .ref q7, .ref q8, .int 0, .ref q9, .null, .int 0, .null, .null, .null, .int 0, .int 0, .int 0, .null, .null, .null, .null, .null, .null, .null, .null, .null, .null, .null, .null, .int 0, .int 0, .int 0, .int 0, .null])), (q1, .inl (Y.1, 6, .inl (fun _ => 0))), (q2, .inl (Y.1, 6, .inl (fun _ => 0))), (q3, .inl (Y.1, 6, .inl (fun _ => 0))), (q4, .inl (Y.1, 6, .inl (fun _ => 0))), (q5, .inl (Y.1, 36, .inl (fun _ => 0))), (q6, .inl (Y.1, 36, .inl (fun _ => 0))), (q7, .inl (Y.1, 8, .inl (fun _ => 0))), (q8, .inl (Y.1, 8, .inl (fun _ => 0))), (q9, .inl (Y.1, 6, .inl (fun _ => 0)))] _ _ := J
  clear J
  refine lv_aload_n hx hb dX10_init_76 rfl (lv_at hl 0 rfl) ?_
  refine lv_bipush (v := 40) hx hb dX10_init_77 (by decide) ?_
  refine n_arr I hx hb (atype := .int) rfl (hts (.arrayClass .int) (by decide +kernel)) Y.1 0 rfl (fun _ _ => rfl) rfl (by decide) (N := 40) (by decide) (by decide) (Nat.le_of_ble_eq_true rfl) (Nat.le_of_ble_eq_true rfl) dX10_init_79 (fun q10 H J => ?_)
  refine W.widen (k := 10) (n := 158) (by omega) (by omega) ?_
  clear I
  have I : LW D Y bP A s [(h0, .inr (10, [.int 0, .ref q1, .ref q2, .ref q3, .ref q4, .ref q5, .ref q6, .int 0, .ref q7, .ref q8, .int 0, .ref q9, .null, .int 0, .null, .null, .null, .int 0, .int 0, .int 0, .null, .null, .null, .null, .null, .null, .null, .null, .null, .null, .null, .null, .int 0, .int 0, .int 0, .int 0, .null])), (q1, .inl (Y.1, 6, .inl (fun _ => 0))), (q2, .inl (Y.1, 6, .inl (fun _ => 0))), (q3, .inl (Y.1, 6, .inl (fun _ => 0))), (q4, .inl (Y.1, 6, .inl (fun _ => 0))), (q5, .inl (Y.1, 36, .inl (fun _ => 0))), (q6, .inl (Y.1, 36, .inl (fun _ => 0))), (q7, .inl (Y.1, 8, .inl (fun _ => 0))), (q8, .inl (Y.1, 8, .inl (fun _ => 0))), (q9, .inl (Y.1, 6, .inl (fun _ => 0))), (q10, .inl (Y.1, 40, .inl (fun _ => 0)))] _ _ := J
  clear J
  refine n_putF I hx hb hts iw_X10_init_X10 tyX10 tyX10_ok nmX10 hown hi 0 rfl rfl 12 (by decide) (hts (.fieldLink RX10 37 "ReelNightModel" "lates" "[I") (by decide +kernel)) rfl rfl rfl rfl (Nat.le_of_ble_eq_true rfl) dX10_init_81 (fun H locs J => ?_)
  clear I
  have I : LW D Y bP A s [(h0, .inr (10, [.int 0, .ref q1, .ref q2, .ref q3, .ref q4, .ref q5, .ref q6, .int 0, .ref q7, .ref q8, .int 0, .ref q9, .ref q10, .int 0, .null, .null, .null, .int 0, .int 0, .int 0, .null, .null, .null, .null, .null, .null, .null, .null, .null, .null, .null, .null, .int 0, .int 0, .int 0, .int 0, .null])), (q1, .inl (Y.1, 6, .inl (fun _ => 0))), (q2, .inl (Y.1, 6, .inl (fun _ => 0))), (q3, .inl (Y.1, 6, .inl (fun _ => 0))), (q4, .inl (Y.1, 6, .inl (fun _ => 0))), (q5, .inl (Y.1, 36, .inl (fun _ => 0))), (q6, .inl (Y.1, 36, .inl (fun _ => 0))), (q7, .inl (Y.1, 8, .inl (fun _ => 0))), (q8, .inl (Y.1, 8, .inl (fun _ => 0))), (q9, .inl (Y.1, 6, .inl (fun _ => 0))), (q10, .inl (Y.1, 40, .inl (fun _ => 0)))] _ _ := J
  clear J
  refine lv_aload_n hx hb dX10_init_84 rfl (lv_at hl 0 rfl) ?_
  refine lv_bipush (v := 30) hx hb dX10_init_85 (by decide) ?_
  refine n_arr I hx hb (atype := .int) rfl (hts (.arrayClass .int) (by decide +kernel)) Y.1 0 rfl (fun _ _ => rfl) rfl (by decide) (N := 30) (by decide) (by decide) (Nat.le_of_ble_eq_true rfl) (Nat.le_of_ble_eq_true rfl) dX10_init_87 (fun q11 H J => ?_)
  refine W.widen (k := 11) (n := 188) (by omega) (by omega) ?_
  clear I
  have I : LW D Y bP A s [(h0, .inr (10, [.int 0, .ref q1, .ref q2, .ref q3, .ref q4, .ref q5, .ref q6, .int 0, .ref q7, .ref q8, .int 0, .ref q9, .ref q10, .int 0, .null, .null, .null, .int 0, .int 0, .int 0, .null, .null, .null, .null, .null, .null, .null, .null, .null, .null, .null, .null, .int 0, .int 0, .int 0, .int 0, .null])), (q1, .inl (Y.1, 6, .inl (fun _ => 0))), (q2, .inl (Y.1, 6, .inl (fun _ => 0))), (q3, .inl (Y.1, 6, .inl (fun _ => 0))), (q4, .inl (Y.1, 6, .inl (fun _ => 0))), (q5, .inl (Y.1, 36, .inl (fun _ => 0))), (q6, .inl (Y.1, 36, .inl (fun _ => 0))), (q7, .inl (Y.1, 8, .inl (fun _ => 0))), (q8, .inl (Y.1, 8, .inl (fun _ => 0))), (q9, .inl (Y.1, 6, .inl (fun _ => 0))), (q10, .inl (Y.1, 40, .inl (fun _ => 0))), (q11, .inl (Y.1, 30, .inl (fun _ => 0)))] _ _ := J
  clear J
  refine n_putF I hx hb hts iw_X10_init_X10 tyX10 tyX10_ok nmX10 hown hi 0 rfl rfl 14 (by decide) (hts (.fieldLink RX10 40 "ReelNightModel" "worths" "[I") (by decide +kernel)) rfl rfl rfl rfl (Nat.le_of_ble_eq_true rfl) dX10_init_89 (fun H locs J => ?_)
  clear I
  have I : LW D Y bP A s [(h0, .inr (10, [.int 0, .ref q1, .ref q2, .ref q3, .ref q4, .ref q5, .ref q6, .int 0, .ref q7, .ref q8, .int 0, .ref q9, .ref q10, .int 0, .ref q11, .null, .null, .int 0, .int 0, .int 0, .null, .null, .null, .null, .null, .null, .null, .null, .null, .null, .null, .null, .int 0, .int 0, .int 0, .int 0, .null])), (q1, .inl (Y.1, 6, .inl (fun _ => 0))), (q2, .inl (Y.1, 6, .inl (fun _ => 0))), (q3, .inl (Y.1, 6, .inl (fun _ => 0))), (q4, .inl (Y.1, 6, .inl (fun _ => 0))), (q5, .inl (Y.1, 36, .inl (fun _ => 0))), (q6, .inl (Y.1, 36, .inl (fun _ => 0))), (q7, .inl (Y.1, 8, .inl (fun _ => 0))), (q8, .inl (Y.1, 8, .inl (fun _ => 0))), (q9, .inl (Y.1, 6, .inl (fun _ => 0))), (q10, .inl (Y.1, 40, .inl (fun _ => 0))), (q11, .inl (Y.1, 30, .inl (fun _ => 0)))] _ _ := J
  clear J
  refine lv_aload_n hx hb dX10_init_92 rfl (lv_at hl 0 rfl) ?_
  refine lv_bipush (v := 24) hx hb dX10_init_93 (by decide) ?_
  refine n_arr I hx hb (atype := .int) rfl (hts (.arrayClass .int) (by decide +kernel)) Y.1 0 rfl (fun _ _ => rfl) rfl (by decide) (N := 24) (by decide) (by decide) (Nat.le_of_ble_eq_true rfl) (Nat.le_of_ble_eq_true rfl) dX10_init_95 (fun q12 H J => ?_)
  refine W.widen (k := 12) (n := 212) (by omega) (by omega) ?_
  clear I
  have I : LW D Y bP A s [(h0, .inr (10, [.int 0, .ref q1, .ref q2, .ref q3, .ref q4, .ref q5, .ref q6, .int 0, .ref q7, .ref q8, .int 0, .ref q9, .ref q10, .int 0, .ref q11, .null, .null, .int 0, .int 0, .int 0, .null, .null, .null, .null, .null, .null, .null, .null, .null, .null, .null, .null, .int 0, .int 0, .int 0, .int 0, .null])), (q1, .inl (Y.1, 6, .inl (fun _ => 0))), (q2, .inl (Y.1, 6, .inl (fun _ => 0))), (q3, .inl (Y.1, 6, .inl (fun _ => 0))), (q4, .inl (Y.1, 6, .inl (fun _ => 0))), (q5, .inl (Y.1, 36, .inl (fun _ => 0))), (q6, .inl (Y.1, 36, .inl (fun _ => 0))), (q7, .inl (Y.1, 8, .inl (fun _ => 0))), (q8, .inl (Y.1, 8, .inl (fun _ => 0))), (q9, .inl (Y.1, 6, .inl (fun _ => 0))), (q10, .inl (Y.1, 40, .inl (fun _ => 0))), (q11, .inl (Y.1, 30, .inl (fun _ => 0))), (q12, .inl (Y.1, 24, .inl (fun _ => 0)))] _ _ := J
  clear J
  refine n_putF I hx hb hts iw_X10_init_X10 tyX10 tyX10_ok nmX10 hown hi 0 rfl rfl 15 (by decide) (hts (.fieldLink RX10 43 "ReelNightModel" "pins" "[I") (by decide +kernel)) rfl rfl rfl rfl (Nat.le_of_ble_eq_true rfl) dX10_init_97 (fun H locs J => ?_)
  clear I
  have I : LW D Y bP A s [(h0, .inr (10, [.int 0, .ref q1, .ref q2, .ref q3, .ref q4, .ref q5, .ref q6, .int 0, .ref q7, .ref q8, .int 0, .ref q9, .ref q10, .int 0, .ref q11, .ref q12, .null, .int 0, .int 0, .int 0, .null, .null, .null, .null, .null, .null, .null, .null, .null, .null, .null, .null, .int 0, .int 0, .int 0, .int 0, .null])), (q1, .inl (Y.1, 6, .inl (fun _ => 0))), (q2, .inl (Y.1, 6, .inl (fun _ => 0))), (q3, .inl (Y.1, 6, .inl (fun _ => 0))), (q4, .inl (Y.1, 6, .inl (fun _ => 0))), (q5, .inl (Y.1, 36, .inl (fun _ => 0))), (q6, .inl (Y.1, 36, .inl (fun _ => 0))), (q7, .inl (Y.1, 8, .inl (fun _ => 0))), (q8, .inl (Y.1, 8, .inl (fun _ => 0))), (q9, .inl (Y.1, 6, .inl (fun _ => 0))), (q10, .inl (Y.1, 40, .inl (fun _ => 0))), (q11, .inl (Y.1, 30, .inl (fun _ => 0))), (q12, .inl (Y.1, 24, .inl (fun _ => 0)))] _ _ := J
  clear J
  refine lv_aload_n hx hb dX10_init_100 rfl (lv_at hl 0 rfl) ?_
  refine lv_bipush (v := 24) hx hb dX10_init_101 (by decide) ?_
  refine n_arr I hx hb (atype := .int) rfl (hts (.arrayClass .int) (by decide +kernel)) Y.1 0 rfl (fun _ _ => rfl) rfl (by decide) (N := 24) (by decide) (by decide) (Nat.le_of_ble_eq_true rfl) (Nat.le_of_ble_eq_true rfl) dX10_init_103 (fun q13 H J => ?_)
  refine W.widen (k := 13) (n := 236) (by omega) (by omega) ?_
  clear I
  have I : LW D Y bP A s [(h0, .inr (10, [.int 0, .ref q1, .ref q2, .ref q3, .ref q4, .ref q5, .ref q6, .int 0, .ref q7, .ref q8, .int 0, .ref q9, .ref q10, .int 0, .ref q11, .ref q12, .null, .int 0, .int 0, .int 0, .null, .null, .null, .null, .null, .null, .null, .null, .null, .null, .null, .null, .int 0, .int 0, .int 0, .int 0, .null])), (q1, .inl (Y.1, 6, .inl (fun _ => 0))), (q2, .inl (Y.1, 6, .inl (fun _ => 0))), (q3, .inl (Y.1, 6, .inl (fun _ => 0))), (q4, .inl (Y.1, 6, .inl (fun _ => 0))), (q5, .inl (Y.1, 36, .inl (fun _ => 0))), (q6, .inl (Y.1, 36, .inl (fun _ => 0))), (q7, .inl (Y.1, 8, .inl (fun _ => 0))), (q8, .inl (Y.1, 8, .inl (fun _ => 0))), (q9, .inl (Y.1, 6, .inl (fun _ => 0))), (q10, .inl (Y.1, 40, .inl (fun _ => 0))), (q11, .inl (Y.1, 30, .inl (fun _ => 0))), (q12, .inl (Y.1, 24, .inl (fun _ => 0))), (q13, .inl (Y.1, 24, .inl (fun _ => 0)))] _ _ := J
  clear J
  refine n_putF I hx hb hts iw_X10_init_X10 tyX10 tyX10_ok nmX10 hown hi 0 rfl rfl 16 (by decide) (hts (.fieldLink RX10 46 "ReelNightModel" "planned" "[I") (by decide +kernel)) rfl rfl rfl rfl (Nat.le_of_ble_eq_true rfl) dX10_init_105 (fun H locs J => ?_)
  clear I
  have I : LW D Y bP A s [(h0, .inr (10, [.int 0, .ref q1, .ref q2, .ref q3, .ref q4, .ref q5, .ref q6, .int 0, .ref q7, .ref q8, .int 0, .ref q9, .ref q10, .int 0, .ref q11, .ref q12, .ref q13, .int 0, .int 0, .int 0, .null, .null, .null, .null, .null, .null, .null, .null, .null, .null, .null, .null, .int 0, .int 0, .int 0, .int 0, .null])), (q1, .inl (Y.1, 6, .inl (fun _ => 0))), (q2, .inl (Y.1, 6, .inl (fun _ => 0))), (q3, .inl (Y.1, 6, .inl (fun _ => 0))), (q4, .inl (Y.1, 6, .inl (fun _ => 0))), (q5, .inl (Y.1, 36, .inl (fun _ => 0))), (q6, .inl (Y.1, 36, .inl (fun _ => 0))), (q7, .inl (Y.1, 8, .inl (fun _ => 0))), (q8, .inl (Y.1, 8, .inl (fun _ => 0))), (q9, .inl (Y.1, 6, .inl (fun _ => 0))), (q10, .inl (Y.1, 40, .inl (fun _ => 0))), (q11, .inl (Y.1, 30, .inl (fun _ => 0))), (q12, .inl (Y.1, 24, .inl (fun _ => 0))), (q13, .inl (Y.1, 24, .inl (fun _ => 0)))] _ _ := J
  clear J
  refine lv_aload_n hx hb dX10_init_108 rfl (lv_at hl 0 rfl) ?_
  refine lv_bipush (v := 40) hx hb dX10_init_109 (by decide) ?_
  refine n_put I hx hb hts iw_X10_init_X10 tyX10 tyX10_ok nmX10 hown 0 rfl rfl 17 (by decide) (hts (.fieldLink RX10 49 "ReelNightModel" "percent" "I") (by decide +kernel)) rfl rfl rfl (Nat.le_of_ble_eq_true rfl) dX10_init_111 (fun H locs J => ?_)
  clear I
  have I : LW D Y bP A s [(h0, .inr (10, [.int 0, .ref q1, .ref q2, .ref q3, .ref q4, .ref q5, .ref q6, .int 0, .ref q7, .ref q8, .int 0, .ref q9, .ref q10, .int 0, .ref q11, .ref q12, .ref q13, .int 40, .int 0, .int 0, .null, .null, .null, .null, .null, .null, .null, .null, .null, .null, .null, .null, .int 0, .int 0, .int 0, .int 0, .null])), (q1, .inl (Y.1, 6, .inl (fun _ => 0))), (q2, .inl (Y.1, 6, .inl (fun _ => 0))), (q3, .inl (Y.1, 6, .inl (fun _ => 0))), (q4, .inl (Y.1, 6, .inl (fun _ => 0))), (q5, .inl (Y.1, 36, .inl (fun _ => 0))), (q6, .inl (Y.1, 36, .inl (fun _ => 0))), (q7, .inl (Y.1, 8, .inl (fun _ => 0))), (q8, .inl (Y.1, 8, .inl (fun _ => 0))), (q9, .inl (Y.1, 6, .inl (fun _ => 0))), (q10, .inl (Y.1, 40, .inl (fun _ => 0))), (q11, .inl (Y.1, 30, .inl (fun _ => 0))), (q12, .inl (Y.1, 24, .inl (fun _ => 0))), (q13, .inl (Y.1, 24, .inl (fun _ => 0)))] _ _ := J
  clear J
  refine lv_aload_n hx hb dX10_init_114 rfl (lv_at hl 0 rfl) ?_
  refine lv_bipush (v := 20) hx hb dX10_init_115 (by decide) ?_
  refine n_put I hx hb hts iw_X10_init_X10 tyX10 tyX10_ok nmX10 hown 0 rfl rfl 18 (by decide) (hts (.fieldLink RX10 53 "ReelNightModel" "odds" "I") (by decide +kernel)) rfl rfl rfl (Nat.le_of_ble_eq_true rfl) dX10_init_117 (fun H locs J => ?_)
  clear I
  have I : LW D Y bP A s [(h0, .inr (10, [.int 0, .ref q1, .ref q2, .ref q3, .ref q4, .ref q5, .ref q6, .int 0, .ref q7, .ref q8, .int 0, .ref q9, .ref q10, .int 0, .ref q11, .ref q12, .ref q13, .int 40, .int 20, .int 0, .null, .null, .null, .null, .null, .null, .null, .null, .null, .null, .null, .null, .int 0, .int 0, .int 0, .int 0, .null])), (q1, .inl (Y.1, 6, .inl (fun _ => 0))), (q2, .inl (Y.1, 6, .inl (fun _ => 0))), (q3, .inl (Y.1, 6, .inl (fun _ => 0))), (q4, .inl (Y.1, 6, .inl (fun _ => 0))), (q5, .inl (Y.1, 36, .inl (fun _ => 0))), (q6, .inl (Y.1, 36, .inl (fun _ => 0))), (q7, .inl (Y.1, 8, .inl (fun _ => 0))), (q8, .inl (Y.1, 8, .inl (fun _ => 0))), (q9, .inl (Y.1, 6, .inl (fun _ => 0))), (q10, .inl (Y.1, 40, .inl (fun _ => 0))), (q11, .inl (Y.1, 30, .inl (fun _ => 0))), (q12, .inl (Y.1, 24, .inl (fun _ => 0))), (q13, .inl (Y.1, 24, .inl (fun _ => 0)))] _ _ := J
  clear J
  refine lv_aload_n hx hb dX10_init_120 rfl (lv_at hl 0 rfl) ?_
  refine lv_iconst (v := 1) hx hb dX10_init_121 (by decide) ?_
  refine n_put I hx hb hts iw_X10_init_X10 tyX10 tyX10_ok nmX10 hown 0 rfl rfl 19 (by decide) (hts (.fieldLink RX10 56 "ReelNightModel" "seed" "I") (by decide +kernel)) rfl rfl rfl (Nat.le_of_ble_eq_true rfl) dX10_init_122 (fun H locs J => ?_)
  clear I
  have I : LW D Y bP A s [(h0, .inr (10, [.int 0, .ref q1, .ref q2, .ref q3, .ref q4, .ref q5, .ref q6, .int 0, .ref q7, .ref q8, .int 0, .ref q9, .ref q10, .int 0, .ref q11, .ref q12, .ref q13, .int 40, .int 20, .int 1, .null, .null, .null, .null, .null, .null, .null, .null, .null, .null, .null, .null, .int 0, .int 0, .int 0, .int 0, .null])), (q1, .inl (Y.1, 6, .inl (fun _ => 0))), (q2, .inl (Y.1, 6, .inl (fun _ => 0))), (q3, .inl (Y.1, 6, .inl (fun _ => 0))), (q4, .inl (Y.1, 6, .inl (fun _ => 0))), (q5, .inl (Y.1, 36, .inl (fun _ => 0))), (q6, .inl (Y.1, 36, .inl (fun _ => 0))), (q7, .inl (Y.1, 8, .inl (fun _ => 0))), (q8, .inl (Y.1, 8, .inl (fun _ => 0))), (q9, .inl (Y.1, 6, .inl (fun _ => 0))), (q10, .inl (Y.1, 40, .inl (fun _ => 0))), (q11, .inl (Y.1, 30, .inl (fun _ => 0))), (q12, .inl (Y.1, 24, .inl (fun _ => 0))), (q13, .inl (Y.1, 24, .inl (fun _ => 0)))] _ _ := J
  clear J
  refine lv_aload_n hx hb dX10_init_125 rfl (lv_at hl 0 rfl) ?_
  refine lv_iconst (v := 2) hx hb dX10_init_126 (by decide) ?_
  refine n_arr I hx hb (atype := .int) rfl (hts (.arrayClass .int) (by decide +kernel)) Y.1 0 rfl (fun _ _ => rfl) rfl (by decide) (N := 2) (by decide) (by decide) (Nat.le_of_ble_eq_true rfl) (Nat.le_of_ble_eq_true rfl) dX10_init_127 (fun q14 H J => ?_)
  refine W.widen (k := 14) (n := 238) (by omega) (by omega) ?_
  clear I
  have I : LW D Y bP A s [(h0, .inr (10, [.int 0, .ref q1, .ref q2, .ref q3, .ref q4, .ref q5, .ref q6, .int 0, .ref q7, .ref q8, .int 0, .ref q9, .ref q10, .int 0, .ref q11, .ref q12, .ref q13, .int 40, .int 20, .int 1, .null, .null, .null, .null, .null, .null, .null, .null, .null, .null, .null, .null, .int 0, .int 0, .int 0, .int 0, .null])), (q1, .inl (Y.1, 6, .inl (fun _ => 0))), (q2, .inl (Y.1, 6, .inl (fun _ => 0))), (q3, .inl (Y.1, 6, .inl (fun _ => 0))), (q4, .inl (Y.1, 6, .inl (fun _ => 0))), (q5, .inl (Y.1, 36, .inl (fun _ => 0))), (q6, .inl (Y.1, 36, .inl (fun _ => 0))), (q7, .inl (Y.1, 8, .inl (fun _ => 0))), (q8, .inl (Y.1, 8, .inl (fun _ => 0))), (q9, .inl (Y.1, 6, .inl (fun _ => 0))), (q10, .inl (Y.1, 40, .inl (fun _ => 0))), (q11, .inl (Y.1, 30, .inl (fun _ => 0))), (q12, .inl (Y.1, 24, .inl (fun _ => 0))), (q13, .inl (Y.1, 24, .inl (fun _ => 0))), (q14, .inl (Y.1, 2, .inl (fun _ => 0)))] _ _ := J
  clear J
  refine n_putF I hx hb hts iw_X10_init_X10 tyX10 tyX10_ok nmX10 hown hi 0 rfl rfl 20 (by decide) (hts (.fieldLink RX10 59 "ReelNightModel" "places" "[I") (by decide +kernel)) rfl rfl rfl rfl (Nat.le_of_ble_eq_true rfl) dX10_init_129 (fun H locs J => ?_)
  clear I
  have I : LW D Y bP A s [(h0, .inr (10, [.int 0, .ref q1, .ref q2, .ref q3, .ref q4, .ref q5, .ref q6, .int 0, .ref q7, .ref q8, .int 0, .ref q9, .ref q10, .int 0, .ref q11, .ref q12, .ref q13, .int 40, .int 20, .int 1, .ref q14, .null, .null, .null, .null, .null, .null, .null, .null, .null, .null, .null, .int 0, .int 0, .int 0, .int 0, .null])), (q1, .inl (Y.1, 6, .inl (fun _ => 0))), (q2, .inl (Y.1, 6, .inl (fun _ => 0))), (q3, .inl (Y.1, 6, .inl (fun _ => 0))), (q4, .inl (Y.1, 6, .inl (fun _ => 0))), (q5, .inl (Y.1, 36, .inl (fun _ => 0))), (q6, .inl (Y.1, 36, .inl (fun _ => 0))), (q7, .inl (Y.1, 8, .inl (fun _ => 0))), (q8, .inl (Y.1, 8, .inl (fun _ => 0))), (q9, .inl (Y.1, 6, .inl (fun _ => 0))), (q10, .inl (Y.1, 40, .inl (fun _ => 0))), (q11, .inl (Y.1, 30, .inl (fun _ => 0))), (q12, .inl (Y.1, 24, .inl (fun _ => 0))), (q13, .inl (Y.1, 24, .inl (fun _ => 0))), (q14, .inl (Y.1, 2, .inl (fun _ => 0)))] _ _ := J
  clear J
  refine lv_aload_n hx hb dX10_init_132 rfl (lv_at hl 0 rfl) ?_
  refine lv_bipush (v := 48) hx hb dX10_init_133 (by decide) ?_
  refine n_arr I hx hb (atype := .int) rfl (hts (.arrayClass .int) (by decide +kernel)) Y.1 0 rfl (fun _ _ => rfl) rfl (by decide) (N := 48) (by decide) (by decide) (Nat.le_of_ble_eq_true rfl) (Nat.le_of_ble_eq_true rfl) dX10_init_135 (fun q15 H J => ?_)
  refine W.widen (k := 15) (n := 286) (by omega) (by omega) ?_
  clear I
  have I : LW D Y bP A s [(h0, .inr (10, [.int 0, .ref q1, .ref q2, .ref q3, .ref q4, .ref q5, .ref q6, .int 0, .ref q7, .ref q8, .int 0, .ref q9, .ref q10, .int 0, .ref q11, .ref q12, .ref q13, .int 40, .int 20, .int 1, .ref q14, .null, .null, .null, .null, .null, .null, .null, .null, .null, .null, .null, .int 0, .int 0, .int 0, .int 0, .null])), (q1, .inl (Y.1, 6, .inl (fun _ => 0))), (q2, .inl (Y.1, 6, .inl (fun _ => 0))), (q3, .inl (Y.1, 6, .inl (fun _ => 0))), (q4, .inl (Y.1, 6, .inl (fun _ => 0))), (q5, .inl (Y.1, 36, .inl (fun _ => 0))), (q6, .inl (Y.1, 36, .inl (fun _ => 0))), (q7, .inl (Y.1, 8, .inl (fun _ => 0))), (q8, .inl (Y.1, 8, .inl (fun _ => 0))), (q9, .inl (Y.1, 6, .inl (fun _ => 0))), (q10, .inl (Y.1, 40, .inl (fun _ => 0))), (q11, .inl (Y.1, 30, .inl (fun _ => 0))), (q12, .inl (Y.1, 24, .inl (fun _ => 0))), (q13, .inl (Y.1, 24, .inl (fun _ => 0))), (q14, .inl (Y.1, 2, .inl (fun _ => 0))), (q15, .inl (Y.1, 48, .inl (fun _ => 0)))] _ _ := J
  clear J
  refine n_putF I hx hb hts iw_X10_init_X10 tyX10 tyX10_ok nmX10 hown hi 0 rfl rfl 21 (by decide) (hts (.fieldLink RX10 62 "ReelNightModel" "numbers" "[I") (by decide +kernel)) rfl rfl rfl rfl (Nat.le_of_ble_eq_true rfl) dX10_init_137 (fun H locs J => ?_)
  clear I
  have I : LW D Y bP A s [(h0, .inr (10, [.int 0, .ref q1, .ref q2, .ref q3, .ref q4, .ref q5, .ref q6, .int 0, .ref q7, .ref q8, .int 0, .ref q9, .ref q10, .int 0, .ref q11, .ref q12, .ref q13, .int 40, .int 20, .int 1, .ref q14, .ref q15, .null, .null, .null, .null, .null, .null, .null, .null, .null, .null, .int 0, .int 0, .int 0, .int 0, .null])), (q1, .inl (Y.1, 6, .inl (fun _ => 0))), (q2, .inl (Y.1, 6, .inl (fun _ => 0))), (q3, .inl (Y.1, 6, .inl (fun _ => 0))), (q4, .inl (Y.1, 6, .inl (fun _ => 0))), (q5, .inl (Y.1, 36, .inl (fun _ => 0))), (q6, .inl (Y.1, 36, .inl (fun _ => 0))), (q7, .inl (Y.1, 8, .inl (fun _ => 0))), (q8, .inl (Y.1, 8, .inl (fun _ => 0))), (q9, .inl (Y.1, 6, .inl (fun _ => 0))), (q10, .inl (Y.1, 40, .inl (fun _ => 0))), (q11, .inl (Y.1, 30, .inl (fun _ => 0))), (q12, .inl (Y.1, 24, .inl (fun _ => 0))), (q13, .inl (Y.1, 24, .inl (fun _ => 0))), (q14, .inl (Y.1, 2, .inl (fun _ => 0))), (q15, .inl (Y.1, 48, .inl (fun _ => 0)))] _ _ := J
  clear J
  refine lv_aload_n hx hb dX10_init_140 rfl (lv_at hl 0 rfl) ?_
  refine lv_bipush (v := 12) hx hb dX10_init_141 (by decide) ?_
  refine n_arr I hx hb (atype := .int) rfl (hts (.arrayClass .int) (by decide +kernel)) Y.1 0 rfl (fun _ _ => rfl) rfl (by decide) (N := 12) (by decide) (by decide) (Nat.le_of_ble_eq_true rfl) (Nat.le_of_ble_eq_true rfl) dX10_init_143 (fun q16 H J => ?_)
  refine W.widen (k := 16) (n := 298) (by omega) (by omega) ?_
  clear I
  have I : LW D Y bP A s [(h0, .inr (10, [.int 0, .ref q1, .ref q2, .ref q3, .ref q4, .ref q5, .ref q6, .int 0, .ref q7, .ref q8, .int 0, .ref q9, .ref q10, .int 0, .ref q11, .ref q12, .ref q13, .int 40, .int 20, .int 1, .ref q14, .ref q15, .null, .null, .null, .null, .null, .null, .null, .null, .null, .null, .int 0, .int 0, .int 0, .int 0, .null])), (q1, .inl (Y.1, 6, .inl (fun _ => 0))), (q2, .inl (Y.1, 6, .inl (fun _ => 0))), (q3, .inl (Y.1, 6, .inl (fun _ => 0))), (q4, .inl (Y.1, 6, .inl (fun _ => 0))), (q5, .inl (Y.1, 36, .inl (fun _ => 0))), (q6, .inl (Y.1, 36, .inl (fun _ => 0))), (q7, .inl (Y.1, 8, .inl (fun _ => 0))), (q8, .inl (Y.1, 8, .inl (fun _ => 0))), (q9, .inl (Y.1, 6, .inl (fun _ => 0))), (q10, .inl (Y.1, 40, .inl (fun _ => 0))), (q11, .inl (Y.1, 30, .inl (fun _ => 0))), (q12, .inl (Y.1, 24, .inl (fun _ => 0))), (q13, .inl (Y.1, 24, .inl (fun _ => 0))), (q14, .inl (Y.1, 2, .inl (fun _ => 0))), (q15, .inl (Y.1, 48, .inl (fun _ => 0))), (q16, .inl (Y.1, 12, .inl (fun _ => 0)))] _ _ := J
  clear J
  refine n_putF I hx hb hts iw_X10_init_X10 tyX10 tyX10_ok nmX10 hown hi 0 rfl rfl 22 (by decide) (hts (.fieldLink RX10 65 "ReelNightModel" "digit" "[I") (by decide +kernel)) rfl rfl rfl rfl (Nat.le_of_ble_eq_true rfl) dX10_init_145 (fun H locs J => ?_)
  clear I
  have I : LW D Y bP A s [(h0, .inr (10, [.int 0, .ref q1, .ref q2, .ref q3, .ref q4, .ref q5, .ref q6, .int 0, .ref q7, .ref q8, .int 0, .ref q9, .ref q10, .int 0, .ref q11, .ref q12, .ref q13, .int 40, .int 20, .int 1, .ref q14, .ref q15, .ref q16, .null, .null, .null, .null, .null, .null, .null, .null, .null, .int 0, .int 0, .int 0, .int 0, .null])), (q1, .inl (Y.1, 6, .inl (fun _ => 0))), (q2, .inl (Y.1, 6, .inl (fun _ => 0))), (q3, .inl (Y.1, 6, .inl (fun _ => 0))), (q4, .inl (Y.1, 6, .inl (fun _ => 0))), (q5, .inl (Y.1, 36, .inl (fun _ => 0))), (q6, .inl (Y.1, 36, .inl (fun _ => 0))), (q7, .inl (Y.1, 8, .inl (fun _ => 0))), (q8, .inl (Y.1, 8, .inl (fun _ => 0))), (q9, .inl (Y.1, 6, .inl (fun _ => 0))), (q10, .inl (Y.1, 40, .inl (fun _ => 0))), (q11, .inl (Y.1, 30, .inl (fun _ => 0))), (q12, .inl (Y.1, 24, .inl (fun _ => 0))), (q13, .inl (Y.1, 24, .inl (fun _ => 0))), (q14, .inl (Y.1, 2, .inl (fun _ => 0))), (q15, .inl (Y.1, 48, .inl (fun _ => 0))), (q16, .inl (Y.1, 12, .inl (fun _ => 0)))] _ _ := J
  clear J
  refine lv_aload_n hx hb dX10_init_148 rfl (lv_at hl 0 rfl) ?_
  refine lv_bipush (v := 40) hx hb dX10_init_149 (by decide) ?_
  refine n_arr I hx hb (atype := .int) rfl (hts (.arrayClass .int) (by decide +kernel)) Y.1 0 rfl (fun _ _ => rfl) rfl (by decide) (N := 40) (by decide) (by decide) (Nat.le_of_ble_eq_true rfl) (Nat.le_of_ble_eq_true rfl) dX10_init_151 (fun q17 H J => ?_)
  refine W.widen (k := 17) (n := 338) (by omega) (by omega) ?_
  clear I
  have I : LW D Y bP A s [(h0, .inr (10, [.int 0, .ref q1, .ref q2, .ref q3, .ref q4, .ref q5, .ref q6, .int 0, .ref q7, .ref q8, .int 0, .ref q9, .ref q10, .int 0, .ref q11, .ref q12, .ref q13, .int 40, .int 20, .int 1, .ref q14, .ref q15, .ref q16, .null, .null, .null, .null, .null, .null, .null, .null, .null, .int 0, .int 0, .int 0, .int 0, .null])), (q1, .inl (Y.1, 6, .inl (fun _ => 0))), (q2, .inl (Y.1, 6, .inl (fun _ => 0))), (q3, .inl (Y.1, 6, .inl (fun _ => 0))), (q4, .inl (Y.1, 6, .inl (fun _ => 0))), (q5, .inl (Y.1, 36, .inl (fun _ => 0))), (q6, .inl (Y.1, 36, .inl (fun _ => 0))), (q7, .inl (Y.1, 8, .inl (fun _ => 0))), (q8, .inl (Y.1, 8, .inl (fun _ => 0))), (q9, .inl (Y.1, 6, .inl (fun _ => 0))), (q10, .inl (Y.1, 40, .inl (fun _ => 0))), (q11, .inl (Y.1, 30, .inl (fun _ => 0))), (q12, .inl (Y.1, 24, .inl (fun _ => 0))), (q13, .inl (Y.1, 24, .inl (fun _ => 0))), (q14, .inl (Y.1, 2, .inl (fun _ => 0))), (q15, .inl (Y.1, 48, .inl (fun _ => 0))), (q16, .inl (Y.1, 12, .inl (fun _ => 0))), (q17, .inl (Y.1, 40, .inl (fun _ => 0)))] _ _ := J
  clear J
  refine n_putF I hx hb hts iw_X10_init_X10 tyX10 tyX10_ok nmX10 hown hi 0 rfl rfl 23 (by decide) (hts (.fieldLink RX10 68 "ReelNightModel" "ahead" "[I") (by decide +kernel)) rfl rfl rfl rfl (Nat.le_of_ble_eq_true rfl) dX10_init_153 (fun H locs J => ?_)
  clear I
  have I : LW D Y bP A s [(h0, .inr (10, [.int 0, .ref q1, .ref q2, .ref q3, .ref q4, .ref q5, .ref q6, .int 0, .ref q7, .ref q8, .int 0, .ref q9, .ref q10, .int 0, .ref q11, .ref q12, .ref q13, .int 40, .int 20, .int 1, .ref q14, .ref q15, .ref q16, .ref q17, .null, .null, .null, .null, .null, .null, .null, .null, .int 0, .int 0, .int 0, .int 0, .null])), (q1, .inl (Y.1, 6, .inl (fun _ => 0))), (q2, .inl (Y.1, 6, .inl (fun _ => 0))), (q3, .inl (Y.1, 6, .inl (fun _ => 0))), (q4, .inl (Y.1, 6, .inl (fun _ => 0))), (q5, .inl (Y.1, 36, .inl (fun _ => 0))), (q6, .inl (Y.1, 36, .inl (fun _ => 0))), (q7, .inl (Y.1, 8, .inl (fun _ => 0))), (q8, .inl (Y.1, 8, .inl (fun _ => 0))), (q9, .inl (Y.1, 6, .inl (fun _ => 0))), (q10, .inl (Y.1, 40, .inl (fun _ => 0))), (q11, .inl (Y.1, 30, .inl (fun _ => 0))), (q12, .inl (Y.1, 24, .inl (fun _ => 0))), (q13, .inl (Y.1, 24, .inl (fun _ => 0))), (q14, .inl (Y.1, 2, .inl (fun _ => 0))), (q15, .inl (Y.1, 48, .inl (fun _ => 0))), (q16, .inl (Y.1, 12, .inl (fun _ => 0))), (q17, .inl (Y.1, 40, .inl (fun _ => 0)))] _ _ := J
  clear J
  refine lv_aload_n hx hb dX10_init_156 rfl (lv_at hl 0 rfl) ?_
  refine lv_bipush (v := 40) hx hb dX10_init_157 (by decide) ?_
  refine n_arr I hx hb (atype := .boolean) rfl (hts (.arrayClass .boolean) (by decide +kernel)) Y.2.2.1 2 rfl (fun _ _ => rfl) rfl (by decide) (N := 40) (by decide) (by decide) (Nat.le_of_ble_eq_true rfl) (Nat.le_of_ble_eq_true rfl) dX10_init_159 (fun q18 H J => ?_)
  refine W.widen (k := 18) (n := 378) (by omega) (by omega) ?_
  clear I
  have I : LW D Y bP A s [(h0, .inr (10, [.int 0, .ref q1, .ref q2, .ref q3, .ref q4, .ref q5, .ref q6, .int 0, .ref q7, .ref q8, .int 0, .ref q9, .ref q10, .int 0, .ref q11, .ref q12, .ref q13, .int 40, .int 20, .int 1, .ref q14, .ref q15, .ref q16, .ref q17, .null, .null, .null, .null, .null, .null, .null, .null, .int 0, .int 0, .int 0, .int 0, .null])), (q1, .inl (Y.1, 6, .inl (fun _ => 0))), (q2, .inl (Y.1, 6, .inl (fun _ => 0))), (q3, .inl (Y.1, 6, .inl (fun _ => 0))), (q4, .inl (Y.1, 6, .inl (fun _ => 0))), (q5, .inl (Y.1, 36, .inl (fun _ => 0))), (q6, .inl (Y.1, 36, .inl (fun _ => 0))), (q7, .inl (Y.1, 8, .inl (fun _ => 0))), (q8, .inl (Y.1, 8, .inl (fun _ => 0))), (q9, .inl (Y.1, 6, .inl (fun _ => 0))), (q10, .inl (Y.1, 40, .inl (fun _ => 0))), (q11, .inl (Y.1, 30, .inl (fun _ => 0))), (q12, .inl (Y.1, 24, .inl (fun _ => 0))), (q13, .inl (Y.1, 24, .inl (fun _ => 0))), (q14, .inl (Y.1, 2, .inl (fun _ => 0))), (q15, .inl (Y.1, 48, .inl (fun _ => 0))), (q16, .inl (Y.1, 12, .inl (fun _ => 0))), (q17, .inl (Y.1, 40, .inl (fun _ => 0))), (q18, .inl (Y.2.2.1, 40, .inl (fun _ => 0)))] _ _ := J
  clear J
  refine n_putF I hx hb hts iw_X10_init_X10 tyX10 tyX10_ok nmX10 hown hi 0 rfl rfl 24 (by decide) (hts (.fieldLink RX10 71 "ReelNightModel" "looked" "[Z") (by decide +kernel)) rfl rfl rfl rfl (Nat.le_of_ble_eq_true rfl) dX10_init_161 (fun H locs J => ?_)
  clear I
  have I : LW D Y bP A s [(h0, .inr (10, [.int 0, .ref q1, .ref q2, .ref q3, .ref q4, .ref q5, .ref q6, .int 0, .ref q7, .ref q8, .int 0, .ref q9, .ref q10, .int 0, .ref q11, .ref q12, .ref q13, .int 40, .int 20, .int 1, .ref q14, .ref q15, .ref q16, .ref q17, .ref q18, .null, .null, .null, .null, .null, .null, .null, .int 0, .int 0, .int 0, .int 0, .null])), (q1, .inl (Y.1, 6, .inl (fun _ => 0))), (q2, .inl (Y.1, 6, .inl (fun _ => 0))), (q3, .inl (Y.1, 6, .inl (fun _ => 0))), (q4, .inl (Y.1, 6, .inl (fun _ => 0))), (q5, .inl (Y.1, 36, .inl (fun _ => 0))), (q6, .inl (Y.1, 36, .inl (fun _ => 0))), (q7, .inl (Y.1, 8, .inl (fun _ => 0))), (q8, .inl (Y.1, 8, .inl (fun _ => 0))), (q9, .inl (Y.1, 6, .inl (fun _ => 0))), (q10, .inl (Y.1, 40, .inl (fun _ => 0))), (q11, .inl (Y.1, 30, .inl (fun _ => 0))), (q12, .inl (Y.1, 24, .inl (fun _ => 0))), (q13, .inl (Y.1, 24, .inl (fun _ => 0))), (q14, .inl (Y.1, 2, .inl (fun _ => 0))), (q15, .inl (Y.1, 48, .inl (fun _ => 0))), (q16, .inl (Y.1, 12, .inl (fun _ => 0))), (q17, .inl (Y.1, 40, .inl (fun _ => 0))), (q18, .inl (Y.2.2.1, 40, .inl (fun _ => 0)))] _ _ := J
  clear J
  refine lv_aload_n hx hb dX10_init_164 rfl (lv_at hl 0 rfl) ?_
  refine lv_sipush (v := 1600) hx hb dX10_init_165 (by decide) ?_
  refine n_arr I hx hb (atype := .boolean) rfl (hts (.arrayClass .boolean) (by decide +kernel)) Y.2.2.1 2 rfl (fun _ _ => rfl) rfl (by decide) (N := 1600) (by decide) (by decide) (Nat.le_of_ble_eq_true rfl) (Nat.le_of_ble_eq_true rfl) dX10_init_168 (fun q19 H J => ?_)
  refine W.widen (k := 19) (n := 1978) (by omega) (by omega) ?_
  clear I
  have I : LW D Y bP A s [(h0, .inr (10, [.int 0, .ref q1, .ref q2, .ref q3, .ref q4, .ref q5, .ref q6, .int 0, .ref q7, .ref q8, .int 0, .ref q9, .ref q10, .int 0, .ref q11, .ref q12, .ref q13, .int 40, .int 20, .int 1, .ref q14, .ref q15, .ref q16, .ref q17, .ref q18, .null, .null, .null, .null, .null, .null, .null, .int 0, .int 0, .int 0, .int 0, .null])), (q1, .inl (Y.1, 6, .inl (fun _ => 0))), (q2, .inl (Y.1, 6, .inl (fun _ => 0))), (q3, .inl (Y.1, 6, .inl (fun _ => 0))), (q4, .inl (Y.1, 6, .inl (fun _ => 0))), (q5, .inl (Y.1, 36, .inl (fun _ => 0))), (q6, .inl (Y.1, 36, .inl (fun _ => 0))), (q7, .inl (Y.1, 8, .inl (fun _ => 0))), (q8, .inl (Y.1, 8, .inl (fun _ => 0))), (q9, .inl (Y.1, 6, .inl (fun _ => 0))), (q10, .inl (Y.1, 40, .inl (fun _ => 0))), (q11, .inl (Y.1, 30, .inl (fun _ => 0))), (q12, .inl (Y.1, 24, .inl (fun _ => 0))), (q13, .inl (Y.1, 24, .inl (fun _ => 0))), (q14, .inl (Y.1, 2, .inl (fun _ => 0))), (q15, .inl (Y.1, 48, .inl (fun _ => 0))), (q16, .inl (Y.1, 12, .inl (fun _ => 0))), (q17, .inl (Y.1, 40, .inl (fun _ => 0))), (q18, .inl (Y.2.2.1, 40, .inl (fun _ => 0))), (q19, .inl (Y.2.2.1, 1600, .inl (fun _ => 0)))] _ _ := J
  clear J
  refine n_putF I hx hb hts iw_X10_init_X10 tyX10 tyX10_ok nmX10 hown hi 0 rfl rfl 25 (by decide) (hts (.fieldLink RX10 75 "ReelNightModel" "mayFollow" "[Z") (by decide +kernel)) rfl rfl rfl rfl (Nat.le_of_ble_eq_true rfl) dX10_init_170 (fun H locs J => ?_)
  clear I
  have I : LW D Y bP A s [(h0, .inr (10, [.int 0, .ref q1, .ref q2, .ref q3, .ref q4, .ref q5, .ref q6, .int 0, .ref q7, .ref q8, .int 0, .ref q9, .ref q10, .int 0, .ref q11, .ref q12, .ref q13, .int 40, .int 20, .int 1, .ref q14, .ref q15, .ref q16, .ref q17, .ref q18, .ref q19, .null, .null, .null, .null, .null, .null, .int 0, .int 0, .int 0, .int 0, .null])), (q1, .inl (Y.1, 6, .inl (fun _ => 0))), (q2, .inl (Y.1, 6, .inl (fun _ => 0))), (q3, .inl (Y.1, 6, .inl (fun _ => 0))), (q4, .inl (Y.1, 6, .inl (fun _ => 0))), (q5, .inl (Y.1, 36, .inl (fun _ => 0))), (q6, .inl (Y.1, 36, .inl (fun _ => 0))), (q7, .inl (Y.1, 8, .inl (fun _ => 0))), (q8, .inl (Y.1, 8, .inl (fun _ => 0))), (q9, .inl (Y.1, 6, .inl (fun _ => 0))), (q10, .inl (Y.1, 40, .inl (fun _ => 0))), (q11, .inl (Y.1, 30, .inl (fun _ => 0))), (q12, .inl (Y.1, 24, .inl (fun _ => 0))), (q13, .inl (Y.1, 24, .inl (fun _ => 0))), (q14, .inl (Y.1, 2, .inl (fun _ => 0))), (q15, .inl (Y.1, 48, .inl (fun _ => 0))), (q16, .inl (Y.1, 12, .inl (fun _ => 0))), (q17, .inl (Y.1, 40, .inl (fun _ => 0))), (q18, .inl (Y.2.2.1, 40, .inl (fun _ => 0))), (q19, .inl (Y.2.2.1, 1600, .inl (fun _ => 0)))] _ _ := J
  clear J
  refine lv_aload_n hx hb dX10_init_173 rfl (lv_at hl 0 rfl) ?_
  refine lv_bipush (v := 48) hx hb dX10_init_174 (by decide) ?_
  refine n_arr I hx hb (atype := .int) rfl (hts (.arrayClass .int) (by decide +kernel)) Y.1 0 rfl (fun _ _ => rfl) rfl (by decide) (N := 48) (by decide) (by decide) (Nat.le_of_ble_eq_true rfl) (Nat.le_of_ble_eq_true rfl) dX10_init_176 (fun q20 H J => ?_)
  refine W.widen (k := 20) (n := 2026) (by omega) (by omega) ?_
  clear I
  have I : LW D Y bP A s [(h0, .inr (10, [.int 0, .ref q1, .ref q2, .ref q3, .ref q4, .ref q5, .ref q6, .int 0, .ref q7, .ref q8, .int 0, .ref q9, .ref q10, .int 0, .ref q11, .ref q12, .ref q13, .int 40, .int 20, .int 1, .ref q14, .ref q15, .ref q16, .ref q17, .ref q18, .ref q19, .null, .null, .null, .null, .null, .null, .int 0, .int 0, .int 0, .int 0, .null])), (q1, .inl (Y.1, 6, .inl (fun _ => 0))), (q2, .inl (Y.1, 6, .inl (fun _ => 0))), (q3, .inl (Y.1, 6, .inl (fun _ => 0))), (q4, .inl (Y.1, 6, .inl (fun _ => 0))), (q5, .inl (Y.1, 36, .inl (fun _ => 0))), (q6, .inl (Y.1, 36, .inl (fun _ => 0))), (q7, .inl (Y.1, 8, .inl (fun _ => 0))), (q8, .inl (Y.1, 8, .inl (fun _ => 0))), (q9, .inl (Y.1, 6, .inl (fun _ => 0))), (q10, .inl (Y.1, 40, .inl (fun _ => 0))), (q11, .inl (Y.1, 30, .inl (fun _ => 0))), (q12, .inl (Y.1, 24, .inl (fun _ => 0))), (q13, .inl (Y.1, 24, .inl (fun _ => 0))), (q14, .inl (Y.1, 2, .inl (fun _ => 0))), (q15, .inl (Y.1, 48, .inl (fun _ => 0))), (q16, .inl (Y.1, 12, .inl (fun _ => 0))), (q17, .inl (Y.1, 40, .inl (fun _ => 0))), (q18, .inl (Y.2.2.1, 40, .inl (fun _ => 0))), (q19, .inl (Y.2.2.1, 1600, .inl (fun _ => 0))), (q20, .inl (Y.1, 48, .inl (fun _ => 0)))] _ _ := J
  clear J
  refine n_putF I hx hb hts iw_X10_init_X10 tyX10 tyX10_ok nmX10 hown hi 0 rfl rfl 26 (by decide) (hts (.fieldLink RX10 78 "ReelNightModel" "comes" "[I") (by decide +kernel)) rfl rfl rfl rfl (Nat.le_of_ble_eq_true rfl) dX10_init_178 (fun H locs J => ?_)
  clear I
  have I : LW D Y bP A s [(h0, .inr (10, [.int 0, .ref q1, .ref q2, .ref q3, .ref q4, .ref q5, .ref q6, .int 0, .ref q7, .ref q8, .int 0, .ref q9, .ref q10, .int 0, .ref q11, .ref q12, .ref q13, .int 40, .int 20, .int 1, .ref q14, .ref q15, .ref q16, .ref q17, .ref q18, .ref q19, .ref q20, .null, .null, .null, .null, .null, .int 0, .int 0, .int 0, .int 0, .null])), (q1, .inl (Y.1, 6, .inl (fun _ => 0))), (q2, .inl (Y.1, 6, .inl (fun _ => 0))), (q3, .inl (Y.1, 6, .inl (fun _ => 0))), (q4, .inl (Y.1, 6, .inl (fun _ => 0))), (q5, .inl (Y.1, 36, .inl (fun _ => 0))), (q6, .inl (Y.1, 36, .inl (fun _ => 0))), (q7, .inl (Y.1, 8, .inl (fun _ => 0))), (q8, .inl (Y.1, 8, .inl (fun _ => 0))), (q9, .inl (Y.1, 6, .inl (fun _ => 0))), (q10, .inl (Y.1, 40, .inl (fun _ => 0))), (q11, .inl (Y.1, 30, .inl (fun _ => 0))), (q12, .inl (Y.1, 24, .inl (fun _ => 0))), (q13, .inl (Y.1, 24, .inl (fun _ => 0))), (q14, .inl (Y.1, 2, .inl (fun _ => 0))), (q15, .inl (Y.1, 48, .inl (fun _ => 0))), (q16, .inl (Y.1, 12, .inl (fun _ => 0))), (q17, .inl (Y.1, 40, .inl (fun _ => 0))), (q18, .inl (Y.2.2.1, 40, .inl (fun _ => 0))), (q19, .inl (Y.2.2.1, 1600, .inl (fun _ => 0))), (q20, .inl (Y.1, 48, .inl (fun _ => 0)))] _ _ := J
  clear J
  refine lv_aload_n hx hb dX10_init_181 rfl (lv_at hl 0 rfl) ?_
  refine lv_bipush (v := 48) hx hb dX10_init_182 (by decide) ?_
  refine n_arr I hx hb (atype := .int) rfl (hts (.arrayClass .int) (by decide +kernel)) Y.1 0 rfl (fun _ _ => rfl) rfl (by decide) (N := 48) (by decide) (by decide) (Nat.le_of_ble_eq_true rfl) (Nat.le_of_ble_eq_true rfl) dX10_init_184 (fun q21 H J => ?_)
  refine W.widen (k := 21) (n := 2074) (by omega) (by omega) ?_
  clear I
  have I : LW D Y bP A s [(h0, .inr (10, [.int 0, .ref q1, .ref q2, .ref q3, .ref q4, .ref q5, .ref q6, .int 0, .ref q7, .ref q8, .int 0, .ref q9, .ref q10, .int 0, .ref q11, .ref q12, .ref q13, .int 40, .int 20, .int 1, .ref q14, .ref q15, .ref q16, .ref q17, .ref q18, .ref q19, .ref q20, .null, .null, .null, .null, .null, .int 0, .int 0, .int 0, .int 0, .null])), (q1, .inl (Y.1, 6, .inl (fun _ => 0))), (q2, .inl (Y.1, 6, .inl (fun _ => 0))), (q3, .inl (Y.1, 6, .inl (fun _ => 0))), (q4, .inl (Y.1, 6, .inl (fun _ => 0))), (q5, .inl (Y.1, 36, .inl (fun _ => 0))), (q6, .inl (Y.1, 36, .inl (fun _ => 0))), (q7, .inl (Y.1, 8, .inl (fun _ => 0))), (q8, .inl (Y.1, 8, .inl (fun _ => 0))), (q9, .inl (Y.1, 6, .inl (fun _ => 0))), (q10, .inl (Y.1, 40, .inl (fun _ => 0))), (q11, .inl (Y.1, 30, .inl (fun _ => 0))), (q12, .inl (Y.1, 24, .inl (fun _ => 0))), (q13, .inl (Y.1, 24, .inl (fun _ => 0))), (q14, .inl (Y.1, 2, .inl (fun _ => 0))), (q15, .inl (Y.1, 48, .inl (fun _ => 0))), (q16, .inl (Y.1, 12, .inl (fun _ => 0))), (q17, .inl (Y.1, 40, .inl (fun _ => 0))), (q18, .inl (Y.2.2.1, 40, .inl (fun _ => 0))), (q19, .inl (Y.2.2.1, 1600, .inl (fun _ => 0))), (q20, .inl (Y.1, 48, .inl (fun _ => 0))), (q21, .inl (Y.1, 48, .inl (fun _ => 0)))] _ _ := J
  clear J
  refine n_putF I hx hb hts iw_X10_init_X10 tyX10 tyX10_ok nmX10 hown hi 0 rfl rfl 27 (by decide) (hts (.fieldLink RX10 81 "ReelNightModel" "begin" "[I") (by decide +kernel)) rfl rfl rfl rfl (Nat.le_of_ble_eq_true rfl) dX10_init_186 (fun H locs J => ?_)
  clear I
  have I : LW D Y bP A s [(h0, .inr (10, [.int 0, .ref q1, .ref q2, .ref q3, .ref q4, .ref q5, .ref q6, .int 0, .ref q7, .ref q8, .int 0, .ref q9, .ref q10, .int 0, .ref q11, .ref q12, .ref q13, .int 40, .int 20, .int 1, .ref q14, .ref q15, .ref q16, .ref q17, .ref q18, .ref q19, .ref q20, .ref q21, .null, .null, .null, .null, .int 0, .int 0, .int 0, .int 0, .null])), (q1, .inl (Y.1, 6, .inl (fun _ => 0))), (q2, .inl (Y.1, 6, .inl (fun _ => 0))), (q3, .inl (Y.1, 6, .inl (fun _ => 0))), (q4, .inl (Y.1, 6, .inl (fun _ => 0))), (q5, .inl (Y.1, 36, .inl (fun _ => 0))), (q6, .inl (Y.1, 36, .inl (fun _ => 0))), (q7, .inl (Y.1, 8, .inl (fun _ => 0))), (q8, .inl (Y.1, 8, .inl (fun _ => 0))), (q9, .inl (Y.1, 6, .inl (fun _ => 0))), (q10, .inl (Y.1, 40, .inl (fun _ => 0))), (q11, .inl (Y.1, 30, .inl (fun _ => 0))), (q12, .inl (Y.1, 24, .inl (fun _ => 0))), (q13, .inl (Y.1, 24, .inl (fun _ => 0))), (q14, .inl (Y.1, 2, .inl (fun _ => 0))), (q15, .inl (Y.1, 48, .inl (fun _ => 0))), (q16, .inl (Y.1, 12, .inl (fun _ => 0))), (q17, .inl (Y.1, 40, .inl (fun _ => 0))), (q18, .inl (Y.2.2.1, 40, .inl (fun _ => 0))), (q19, .inl (Y.2.2.1, 1600, .inl (fun _ => 0))), (q20, .inl (Y.1, 48, .inl (fun _ => 0))), (q21, .inl (Y.1, 48, .inl (fun _ => 0)))] _ _ := J
  clear J
  refine lv_aload_n hx hb dX10_init_189 rfl (lv_at hl 0 rfl) ?_
  refine lv_bipush (v := 48) hx hb dX10_init_190 (by decide) ?_
  refine n_arr I hx hb (atype := .int) rfl (hts (.arrayClass .int) (by decide +kernel)) Y.1 0 rfl (fun _ _ => rfl) rfl (by decide) (N := 48) (by decide) (by decide) (Nat.le_of_ble_eq_true rfl) (Nat.le_of_ble_eq_true rfl) dX10_init_192 (fun q22 H J => ?_)
  refine W.widen (k := 22) (n := 2122) (by omega) (by omega) ?_
  clear I
  have I : LW D Y bP A s [(h0, .inr (10, [.int 0, .ref q1, .ref q2, .ref q3, .ref q4, .ref q5, .ref q6, .int 0, .ref q7, .ref q8, .int 0, .ref q9, .ref q10, .int 0, .ref q11, .ref q12, .ref q13, .int 40, .int 20, .int 1, .ref q14, .ref q15, .ref q16, .ref q17, .ref q18, .ref q19, .ref q20, .ref q21, .null, .null, .null, .null, .int 0, .int 0, .int 0, .int 0, .null])), (q1, .inl (Y.1, 6, .inl (fun _ => 0))), (q2, .inl (Y.1, 6, .inl (fun _ => 0))), (q3, .inl (Y.1, 6, .inl (fun _ => 0))), (q4, .inl (Y.1, 6, .inl (fun _ => 0))), (q5, .inl (Y.1, 36, .inl (fun _ => 0))), (q6, .inl (Y.1, 36, .inl (fun _ => 0))), (q7, .inl (Y.1, 8, .inl (fun _ => 0))), (q8, .inl (Y.1, 8, .inl (fun _ => 0))), (q9, .inl (Y.1, 6, .inl (fun _ => 0))), (q10, .inl (Y.1, 40, .inl (fun _ => 0))), (q11, .inl (Y.1, 30, .inl (fun _ => 0))), (q12, .inl (Y.1, 24, .inl (fun _ => 0))), (q13, .inl (Y.1, 24, .inl (fun _ => 0))), (q14, .inl (Y.1, 2, .inl (fun _ => 0))), (q15, .inl (Y.1, 48, .inl (fun _ => 0))), (q16, .inl (Y.1, 12, .inl (fun _ => 0))), (q17, .inl (Y.1, 40, .inl (fun _ => 0))), (q18, .inl (Y.2.2.1, 40, .inl (fun _ => 0))), (q19, .inl (Y.2.2.1, 1600, .inl (fun _ => 0))), (q20, .inl (Y.1, 48, .inl (fun _ => 0))), (q21, .inl (Y.1, 48, .inl (fun _ => 0))), (q22, .inl (Y.1, 48, .inl (fun _ => 0)))] _ _ := J
  clear J
  refine n_putF I hx hb hts iw_X10_init_X10 tyX10 tyX10_ok nmX10 hown hi 0 rfl rfl 28 (by decide) (hts (.fieldLink RX10 84 "ReelNightModel" "gaps" "[I") (by decide +kernel)) rfl rfl rfl rfl (Nat.le_of_ble_eq_true rfl) dX10_init_194 (fun H locs J => ?_)
  clear I
  have I : LW D Y bP A s [(h0, .inr (10, [.int 0, .ref q1, .ref q2, .ref q3, .ref q4, .ref q5, .ref q6, .int 0, .ref q7, .ref q8, .int 0, .ref q9, .ref q10, .int 0, .ref q11, .ref q12, .ref q13, .int 40, .int 20, .int 1, .ref q14, .ref q15, .ref q16, .ref q17, .ref q18, .ref q19, .ref q20, .ref q21, .ref q22, .null, .null, .null, .int 0, .int 0, .int 0, .int 0, .null])), (q1, .inl (Y.1, 6, .inl (fun _ => 0))), (q2, .inl (Y.1, 6, .inl (fun _ => 0))), (q3, .inl (Y.1, 6, .inl (fun _ => 0))), (q4, .inl (Y.1, 6, .inl (fun _ => 0))), (q5, .inl (Y.1, 36, .inl (fun _ => 0))), (q6, .inl (Y.1, 36, .inl (fun _ => 0))), (q7, .inl (Y.1, 8, .inl (fun _ => 0))), (q8, .inl (Y.1, 8, .inl (fun _ => 0))), (q9, .inl (Y.1, 6, .inl (fun _ => 0))), (q10, .inl (Y.1, 40, .inl (fun _ => 0))), (q11, .inl (Y.1, 30, .inl (fun _ => 0))), (q12, .inl (Y.1, 24, .inl (fun _ => 0))), (q13, .inl (Y.1, 24, .inl (fun _ => 0))), (q14, .inl (Y.1, 2, .inl (fun _ => 0))), (q15, .inl (Y.1, 48, .inl (fun _ => 0))), (q16, .inl (Y.1, 12, .inl (fun _ => 0))), (q17, .inl (Y.1, 40, .inl (fun _ => 0))), (q18, .inl (Y.2.2.1, 40, .inl (fun _ => 0))), (q19, .inl (Y.2.2.1, 1600, .inl (fun _ => 0))), (q20, .inl (Y.1, 48, .inl (fun _ => 0))), (q21, .inl (Y.1, 48, .inl (fun _ => 0))), (q22, .inl (Y.1, 48, .inl (fun _ => 0)))] _ _ := J
  clear J
  refine lv_aload_n hx hb dX10_init_197 rfl (lv_at hl 0 rfl) ?_
  refine lv_bipush (v := 48) hx hb dX10_init_198 (by decide) ?_
  refine n_arr I hx hb (atype := .int) rfl (hts (.arrayClass .int) (by decide +kernel)) Y.1 0 rfl (fun _ _ => rfl) rfl (by decide) (N := 48) (by decide) (by decide) (Nat.le_of_ble_eq_true rfl) (Nat.le_of_ble_eq_true rfl) dX10_init_200 (fun q23 H J => ?_)
  refine W.widen (k := 23) (n := 2170) (by omega) (by omega) ?_
  clear I
  have I : LW D Y bP A s [(h0, .inr (10, [.int 0, .ref q1, .ref q2, .ref q3, .ref q4, .ref q5, .ref q6, .int 0, .ref q7, .ref q8, .int 0, .ref q9, .ref q10, .int 0, .ref q11, .ref q12, .ref q13, .int 40, .int 20, .int 1, .ref q14, .ref q15, .ref q16, .ref q17, .ref q18, .ref q19, .ref q20, .ref q21, .ref q22, .null, .null, .null, .int 0, .int 0, .int 0, .int 0, .null])), (q1, .inl (Y.1, 6, .inl (fun _ => 0))), (q2, .inl (Y.1, 6, .inl (fun _ => 0))), (q3, .inl (Y.1, 6, .inl (fun _ => 0))), (q4, .inl (Y.1, 6, .inl (fun _ => 0))), (q5, .inl (Y.1, 36, .inl (fun _ => 0))), (q6, .inl (Y.1, 36, .inl (fun _ => 0))), (q7, .inl (Y.1, 8, .inl (fun _ => 0))), (q8, .inl (Y.1, 8, .inl (fun _ => 0))), (q9, .inl (Y.1, 6, .inl (fun _ => 0))), (q10, .inl (Y.1, 40, .inl (fun _ => 0))), (q11, .inl (Y.1, 30, .inl (fun _ => 0))), (q12, .inl (Y.1, 24, .inl (fun _ => 0))), (q13, .inl (Y.1, 24, .inl (fun _ => 0))), (q14, .inl (Y.1, 2, .inl (fun _ => 0))), (q15, .inl (Y.1, 48, .inl (fun _ => 0))), (q16, .inl (Y.1, 12, .inl (fun _ => 0))), (q17, .inl (Y.1, 40, .inl (fun _ => 0))), (q18, .inl (Y.2.2.1, 40, .inl (fun _ => 0))), (q19, .inl (Y.2.2.1, 1600, .inl (fun _ => 0))), (q20, .inl (Y.1, 48, .inl (fun _ => 0))), (q21, .inl (Y.1, 48, .inl (fun _ => 0))), (q22, .inl (Y.1, 48, .inl (fun _ => 0))), (q23, .inl (Y.1, 48, .inl (fun _ => 0)))] _ _ := J
  clear J
  refine n_putF I hx hb hts iw_X10_init_X10 tyX10 tyX10_ok nmX10 hown hi 0 rfl rfl 29 (by decide) (hts (.fieldLink RX10 87 "ReelNightModel" "causes" "[I") (by decide +kernel)) rfl rfl rfl rfl (Nat.le_of_ble_eq_true rfl) dX10_init_202 (fun H locs J => ?_)
  clear I
  have I : LW D Y bP A s [(h0, .inr (10, [.int 0, .ref q1, .ref q2, .ref q3, .ref q4, .ref q5, .ref q6, .int 0, .ref q7, .ref q8, .int 0, .ref q9, .ref q10, .int 0, .ref q11, .ref q12, .ref q13, .int 40, .int 20, .int 1, .ref q14, .ref q15, .ref q16, .ref q17, .ref q18, .ref q19, .ref q20, .ref q21, .ref q22, .ref q23, .null, .null, .int 0, .int 0, .int 0, .int 0, .null])), (q1, .inl (Y.1, 6, .inl (fun _ => 0))), (q2, .inl (Y.1, 6, .inl (fun _ => 0))), (q3, .inl (Y.1, 6, .inl (fun _ => 0))), (q4, .inl (Y.1, 6, .inl (fun _ => 0))), (q5, .inl (Y.1, 36, .inl (fun _ => 0))), (q6, .inl (Y.1, 36, .inl (fun _ => 0))), (q7, .inl (Y.1, 8, .inl (fun _ => 0))), (q8, .inl (Y.1, 8, .inl (fun _ => 0))), (q9, .inl (Y.1, 6, .inl (fun _ => 0))), (q10, .inl (Y.1, 40, .inl (fun _ => 0))), (q11, .inl (Y.1, 30, .inl (fun _ => 0))), (q12, .inl (Y.1, 24, .inl (fun _ => 0))), (q13, .inl (Y.1, 24, .inl (fun _ => 0))), (q14, .inl (Y.1, 2, .inl (fun _ => 0))), (q15, .inl (Y.1, 48, .inl (fun _ => 0))), (q16, .inl (Y.1, 12, .inl (fun _ => 0))), (q17, .inl (Y.1, 40, .inl (fun _ => 0))), (q18, .inl (Y.2.2.1, 40, .inl (fun _ => 0))), (q19, .inl (Y.2.2.1, 1600, .inl (fun _ => 0))), (q20, .inl (Y.1, 48, .inl (fun _ => 0))), (q21, .inl (Y.1, 48, .inl (fun _ => 0))), (q22, .inl (Y.1, 48, .inl (fun _ => 0))), (q23, .inl (Y.1, 48, .inl (fun _ => 0)))] _ _ := J
  clear J
  refine lv_aload_n hx hb dX10_init_205 rfl (lv_at hl 0 rfl) ?_
  refine lv_bipush (v := 24) hx hb dX10_init_206 (by decide) ?_
  refine n_arr I hx hb (atype := .int) rfl (hts (.arrayClass .int) (by decide +kernel)) Y.1 0 rfl (fun _ _ => rfl) rfl (by decide) (N := 24) (by decide) (by decide) (Nat.le_of_ble_eq_true rfl) (Nat.le_of_ble_eq_true rfl) dX10_init_208 (fun q24 H J => ?_)
  refine W.widen (k := 24) (n := 2194) (by omega) (by omega) ?_
  clear I
  have I : LW D Y bP A s [(h0, .inr (10, [.int 0, .ref q1, .ref q2, .ref q3, .ref q4, .ref q5, .ref q6, .int 0, .ref q7, .ref q8, .int 0, .ref q9, .ref q10, .int 0, .ref q11, .ref q12, .ref q13, .int 40, .int 20, .int 1, .ref q14, .ref q15, .ref q16, .ref q17, .ref q18, .ref q19, .ref q20, .ref q21, .ref q22, .ref q23, .null, .null, .int 0, .int 0, .int 0, .int 0, .null])), (q1, .inl (Y.1, 6, .inl (fun _ => 0))), (q2, .inl (Y.1, 6, .inl (fun _ => 0))), (q3, .inl (Y.1, 6, .inl (fun _ => 0))), (q4, .inl (Y.1, 6, .inl (fun _ => 0))), (q5, .inl (Y.1, 36, .inl (fun _ => 0))), (q6, .inl (Y.1, 36, .inl (fun _ => 0))), (q7, .inl (Y.1, 8, .inl (fun _ => 0))), (q8, .inl (Y.1, 8, .inl (fun _ => 0))), (q9, .inl (Y.1, 6, .inl (fun _ => 0))), (q10, .inl (Y.1, 40, .inl (fun _ => 0))), (q11, .inl (Y.1, 30, .inl (fun _ => 0))), (q12, .inl (Y.1, 24, .inl (fun _ => 0))), (q13, .inl (Y.1, 24, .inl (fun _ => 0))), (q14, .inl (Y.1, 2, .inl (fun _ => 0))), (q15, .inl (Y.1, 48, .inl (fun _ => 0))), (q16, .inl (Y.1, 12, .inl (fun _ => 0))), (q17, .inl (Y.1, 40, .inl (fun _ => 0))), (q18, .inl (Y.2.2.1, 40, .inl (fun _ => 0))), (q19, .inl (Y.2.2.1, 1600, .inl (fun _ => 0))), (q20, .inl (Y.1, 48, .inl (fun _ => 0))), (q21, .inl (Y.1, 48, .inl (fun _ => 0))), (q22, .inl (Y.1, 48, .inl (fun _ => 0))), (q23, .inl (Y.1, 48, .inl (fun _ => 0))), (q24, .inl (Y.1, 24, .inl (fun _ => 0)))] _ _ := J
  clear J
  refine n_putF I hx hb hts iw_X10_init_X10 tyX10 tyX10_ok nmX10 hown hi 0 rfl rfl 30 (by decide) (hts (.fieldLink RX10 90 "ReelNightModel" "trial" "[I") (by decide +kernel)) rfl rfl rfl rfl (Nat.le_of_ble_eq_true rfl) dX10_init_210 (fun H locs J => ?_)
  clear I
  have I : LW D Y bP A s [(h0, .inr (10, [.int 0, .ref q1, .ref q2, .ref q3, .ref q4, .ref q5, .ref q6, .int 0, .ref q7, .ref q8, .int 0, .ref q9, .ref q10, .int 0, .ref q11, .ref q12, .ref q13, .int 40, .int 20, .int 1, .ref q14, .ref q15, .ref q16, .ref q17, .ref q18, .ref q19, .ref q20, .ref q21, .ref q22, .ref q23, .ref q24, .null, .int 0, .int 0, .int 0, .int 0, .null])), (q1, .inl (Y.1, 6, .inl (fun _ => 0))), (q2, .inl (Y.1, 6, .inl (fun _ => 0))), (q3, .inl (Y.1, 6, .inl (fun _ => 0))), (q4, .inl (Y.1, 6, .inl (fun _ => 0))), (q5, .inl (Y.1, 36, .inl (fun _ => 0))), (q6, .inl (Y.1, 36, .inl (fun _ => 0))), (q7, .inl (Y.1, 8, .inl (fun _ => 0))), (q8, .inl (Y.1, 8, .inl (fun _ => 0))), (q9, .inl (Y.1, 6, .inl (fun _ => 0))), (q10, .inl (Y.1, 40, .inl (fun _ => 0))), (q11, .inl (Y.1, 30, .inl (fun _ => 0))), (q12, .inl (Y.1, 24, .inl (fun _ => 0))), (q13, .inl (Y.1, 24, .inl (fun _ => 0))), (q14, .inl (Y.1, 2, .inl (fun _ => 0))), (q15, .inl (Y.1, 48, .inl (fun _ => 0))), (q16, .inl (Y.1, 12, .inl (fun _ => 0))), (q17, .inl (Y.1, 40, .inl (fun _ => 0))), (q18, .inl (Y.2.2.1, 40, .inl (fun _ => 0))), (q19, .inl (Y.2.2.1, 1600, .inl (fun _ => 0))), (q20, .inl (Y.1, 48, .inl (fun _ => 0))), (q21, .inl (Y.1, 48, .inl (fun _ => 0))), (q22, .inl (Y.1, 48, .inl (fun _ => 0))), (q23, .inl (Y.1, 48, .inl (fun _ => 0))), (q24, .inl (Y.1, 24, .inl (fun _ => 0)))] _ _ := J
  clear J
  refine lv_aload_n hx hb dX10_init_213 rfl (lv_at hl 0 rfl) ?_
  refine lv_bipush (v := 24) hx hb dX10_init_214 (by decide) ?_
  refine n_arr I hx hb (atype := .int) rfl (hts (.arrayClass .int) (by decide +kernel)) Y.1 0 rfl (fun _ _ => rfl) rfl (by decide) (N := 24) (by decide) (by decide) (Nat.le_of_ble_eq_true rfl) (Nat.le_of_ble_eq_true rfl) dX10_init_216 (fun q25 H J => ?_)
  refine W.widen (k := 25) (n := 2218) (by omega) (by omega) ?_
  clear I
  have I : LW D Y bP A s [(h0, .inr (10, [.int 0, .ref q1, .ref q2, .ref q3, .ref q4, .ref q5, .ref q6, .int 0, .ref q7, .ref q8, .int 0, .ref q9, .ref q10, .int 0, .ref q11, .ref q12, .ref q13, .int 40, .int 20, .int 1, .ref q14, .ref q15, .ref q16, .ref q17, .ref q18, .ref q19, .ref q20, .ref q21, .ref q22, .ref q23, .ref q24, .null, .int 0, .int 0, .int 0, .int 0, .null])), (q1, .inl (Y.1, 6, .inl (fun _ => 0))), (q2, .inl (Y.1, 6, .inl (fun _ => 0))), (q3, .inl (Y.1, 6, .inl (fun _ => 0))), (q4, .inl (Y.1, 6, .inl (fun _ => 0))), (q5, .inl (Y.1, 36, .inl (fun _ => 0))), (q6, .inl (Y.1, 36, .inl (fun _ => 0))), (q7, .inl (Y.1, 8, .inl (fun _ => 0))), (q8, .inl (Y.1, 8, .inl (fun _ => 0))), (q9, .inl (Y.1, 6, .inl (fun _ => 0))), (q10, .inl (Y.1, 40, .inl (fun _ => 0))), (q11, .inl (Y.1, 30, .inl (fun _ => 0))), (q12, .inl (Y.1, 24, .inl (fun _ => 0))), (q13, .inl (Y.1, 24, .inl (fun _ => 0))), (q14, .inl (Y.1, 2, .inl (fun _ => 0))), (q15, .inl (Y.1, 48, .inl (fun _ => 0))), (q16, .inl (Y.1, 12, .inl (fun _ => 0))), (q17, .inl (Y.1, 40, .inl (fun _ => 0))), (q18, .inl (Y.2.2.1, 40, .inl (fun _ => 0))), (q19, .inl (Y.2.2.1, 1600, .inl (fun _ => 0))), (q20, .inl (Y.1, 48, .inl (fun _ => 0))), (q21, .inl (Y.1, 48, .inl (fun _ => 0))), (q22, .inl (Y.1, 48, .inl (fun _ => 0))), (q23, .inl (Y.1, 48, .inl (fun _ => 0))), (q24, .inl (Y.1, 24, .inl (fun _ => 0))), (q25, .inl (Y.1, 24, .inl (fun _ => 0)))] _ _ := J
  clear J
  refine n_putF I hx hb hts iw_X10_init_X10 tyX10 tyX10_ok nmX10 hown hi 0 rfl rfl 31 (by decide) (hts (.fieldLink RX10 93 "ReelNightModel" "best" "[I") (by decide +kernel)) rfl rfl rfl rfl (Nat.le_of_ble_eq_true rfl) dX10_init_218 (fun H locs J => ?_)
  clear I
  have I : LW D Y bP A s [(h0, .inr (10, [.int 0, .ref q1, .ref q2, .ref q3, .ref q4, .ref q5, .ref q6, .int 0, .ref q7, .ref q8, .int 0, .ref q9, .ref q10, .int 0, .ref q11, .ref q12, .ref q13, .int 40, .int 20, .int 1, .ref q14, .ref q15, .ref q16, .ref q17, .ref q18, .ref q19, .ref q20, .ref q21, .ref q22, .ref q23, .ref q24, .ref q25, .int 0, .int 0, .int 0, .int 0, .null])), (q1, .inl (Y.1, 6, .inl (fun _ => 0))), (q2, .inl (Y.1, 6, .inl (fun _ => 0))), (q3, .inl (Y.1, 6, .inl (fun _ => 0))), (q4, .inl (Y.1, 6, .inl (fun _ => 0))), (q5, .inl (Y.1, 36, .inl (fun _ => 0))), (q6, .inl (Y.1, 36, .inl (fun _ => 0))), (q7, .inl (Y.1, 8, .inl (fun _ => 0))), (q8, .inl (Y.1, 8, .inl (fun _ => 0))), (q9, .inl (Y.1, 6, .inl (fun _ => 0))), (q10, .inl (Y.1, 40, .inl (fun _ => 0))), (q11, .inl (Y.1, 30, .inl (fun _ => 0))), (q12, .inl (Y.1, 24, .inl (fun _ => 0))), (q13, .inl (Y.1, 24, .inl (fun _ => 0))), (q14, .inl (Y.1, 2, .inl (fun _ => 0))), (q15, .inl (Y.1, 48, .inl (fun _ => 0))), (q16, .inl (Y.1, 12, .inl (fun _ => 0))), (q17, .inl (Y.1, 40, .inl (fun _ => 0))), (q18, .inl (Y.2.2.1, 40, .inl (fun _ => 0))), (q19, .inl (Y.2.2.1, 1600, .inl (fun _ => 0))), (q20, .inl (Y.1, 48, .inl (fun _ => 0))), (q21, .inl (Y.1, 48, .inl (fun _ => 0))), (q22, .inl (Y.1, 48, .inl (fun _ => 0))), (q23, .inl (Y.1, 48, .inl (fun _ => 0))), (q24, .inl (Y.1, 24, .inl (fun _ => 0))), (q25, .inl (Y.1, 24, .inl (fun _ => 0)))] _ _ := J
  clear J
  refine lv_aload_n hx hb dX10_init_221 rfl (lv_at hl 0 rfl) ?_
  refine lv_bipush (v := 24) hx hb dX10_init_222 (by decide) ?_
  refine n_arr I hx hb (atype := .int) rfl (hts (.arrayClass .int) (by decide +kernel)) Y.1 0 rfl (fun _ _ => rfl) rfl (by decide) (N := 24) (by decide) (by decide) (Nat.le_of_ble_eq_true rfl) (Nat.le_of_ble_eq_true rfl) dX10_init_224 (fun q26 H J => ?_)
  refine W.widen (k := 26) (n := 2242) (by omega) (by omega) ?_
  clear I
  have I : LW D Y bP A s [(h0, .inr (10, [.int 0, .ref q1, .ref q2, .ref q3, .ref q4, .ref q5, .ref q6, .int 0, .ref q7, .ref q8, .int 0, .ref q9, .ref q10, .int 0, .ref q11, .ref q12, .ref q13, .int 40, .int 20, .int 1, .ref q14, .ref q15, .ref q16, .ref q17, .ref q18, .ref q19, .ref q20, .ref q21, .ref q22, .ref q23, .ref q24, .ref q25, .int 0, .int 0, .int 0, .int 0, .null])), (q1, .inl (Y.1, 6, .inl (fun _ => 0))), (q2, .inl (Y.1, 6, .inl (fun _ => 0))), (q3, .inl (Y.1, 6, .inl (fun _ => 0))), (q4, .inl (Y.1, 6, .inl (fun _ => 0))), (q5, .inl (Y.1, 36, .inl (fun _ => 0))), (q6, .inl (Y.1, 36, .inl (fun _ => 0))), (q7, .inl (Y.1, 8, .inl (fun _ => 0))), (q8, .inl (Y.1, 8, .inl (fun _ => 0))), (q9, .inl (Y.1, 6, .inl (fun _ => 0))), (q10, .inl (Y.1, 40, .inl (fun _ => 0))), (q11, .inl (Y.1, 30, .inl (fun _ => 0))), (q12, .inl (Y.1, 24, .inl (fun _ => 0))), (q13, .inl (Y.1, 24, .inl (fun _ => 0))), (q14, .inl (Y.1, 2, .inl (fun _ => 0))), (q15, .inl (Y.1, 48, .inl (fun _ => 0))), (q16, .inl (Y.1, 12, .inl (fun _ => 0))), (q17, .inl (Y.1, 40, .inl (fun _ => 0))), (q18, .inl (Y.2.2.1, 40, .inl (fun _ => 0))), (q19, .inl (Y.2.2.1, 1600, .inl (fun _ => 0))), (q20, .inl (Y.1, 48, .inl (fun _ => 0))), (q21, .inl (Y.1, 48, .inl (fun _ => 0))), (q22, .inl (Y.1, 48, .inl (fun _ => 0))), (q23, .inl (Y.1, 48, .inl (fun _ => 0))), (q24, .inl (Y.1, 24, .inl (fun _ => 0))), (q25, .inl (Y.1, 24, .inl (fun _ => 0))), (q26, .inl (Y.1, 24, .inl (fun _ => 0)))] _ _ := J
  clear J
  refine n_putF I hx hb hts iw_X10_init_X10 tyX10 tyX10_ok nmX10 hown hi 0 rfl rfl 36 (by decide) (hts (.fieldLink RX10 96 "ReelNightModel" "carried" "[I") (by decide +kernel)) rfl rfl rfl rfl (Nat.le_of_ble_eq_true rfl) dX10_init_226 (fun H locs J => ?_)
  clear I
  have I : LW D Y bP A s [(h0, .inr (10, [.int 0, .ref q1, .ref q2, .ref q3, .ref q4, .ref q5, .ref q6, .int 0, .ref q7, .ref q8, .int 0, .ref q9, .ref q10, .int 0, .ref q11, .ref q12, .ref q13, .int 40, .int 20, .int 1, .ref q14, .ref q15, .ref q16, .ref q17, .ref q18, .ref q19, .ref q20, .ref q21, .ref q22, .ref q23, .ref q24, .ref q25, .int 0, .int 0, .int 0, .int 0, .ref q26])), (q1, .inl (Y.1, 6, .inl (fun _ => 0))), (q2, .inl (Y.1, 6, .inl (fun _ => 0))), (q3, .inl (Y.1, 6, .inl (fun _ => 0))), (q4, .inl (Y.1, 6, .inl (fun _ => 0))), (q5, .inl (Y.1, 36, .inl (fun _ => 0))), (q6, .inl (Y.1, 36, .inl (fun _ => 0))), (q7, .inl (Y.1, 8, .inl (fun _ => 0))), (q8, .inl (Y.1, 8, .inl (fun _ => 0))), (q9, .inl (Y.1, 6, .inl (fun _ => 0))), (q10, .inl (Y.1, 40, .inl (fun _ => 0))), (q11, .inl (Y.1, 30, .inl (fun _ => 0))), (q12, .inl (Y.1, 24, .inl (fun _ => 0))), (q13, .inl (Y.1, 24, .inl (fun _ => 0))), (q14, .inl (Y.1, 2, .inl (fun _ => 0))), (q15, .inl (Y.1, 48, .inl (fun _ => 0))), (q16, .inl (Y.1, 12, .inl (fun _ => 0))), (q17, .inl (Y.1, 40, .inl (fun _ => 0))), (q18, .inl (Y.2.2.1, 40, .inl (fun _ => 0))), (q19, .inl (Y.2.2.1, 1600, .inl (fun _ => 0))), (q20, .inl (Y.1, 48, .inl (fun _ => 0))), (q21, .inl (Y.1, 48, .inl (fun _ => 0))), (q22, .inl (Y.1, 48, .inl (fun _ => 0))), (q23, .inl (Y.1, 48, .inl (fun _ => 0))), (q24, .inl (Y.1, 24, .inl (fun _ => 0))), (q25, .inl (Y.1, 24, .inl (fun _ => 0))), (q26, .inl (Y.1, 24, .inl (fun _ => 0)))] _ _ := J
  clear J
  refine lv_iconst (v := 0) hx hb dX10_init_229 (by decide) ?_
  refine lv_istore_n (lv' := [(1, .int 0), (0, .ref h0)]) hx hb dX10_init_230 rfl hl (by decide) rfl (fun ls hl => ?_)
  have hAO := I.2.2.2.2.2.2.2
  obtain ⟨g, hg⟩ : ∃ g, g = gl [h0, q1, q2, q3, q4, q5, q6, q7, q8, q9, q10, q11, q12, q13, q14, q15, q16, q17, q18, q19, q20, q21, q22, q23, q24, q25, q26] := ⟨_, rfl⟩
  have e_0 : h0 = g 0 := by rw [hg]; rfl
  have e_1 : q1 = g 1 := by rw [hg]; rfl
  have e_2 : q2 = g 2 := by rw [hg]; rfl
  have e_3 : q3 = g 3 := by rw [hg]; rfl
  have e_4 : q4 = g 4 := by rw [hg]; rfl
  have e_5 : q5 = g 5 := by rw [hg]; rfl
  have e_6 : q6 = g 6 := by rw [hg]; rfl
  have e_7 : q7 = g 7 := by rw [hg]; rfl
  have e_8 : q8 = g 8 := by rw [hg]; rfl
  have e_9 : q9 = g 9 := by rw [hg]; rfl
  have e_10 : q10 = g 10 := by rw [hg]; rfl
  have e_11 : q11 = g 11 := by rw [hg]; rfl
  have e_12 : q12 = g 12 := by rw [hg]; rfl
  have e_13 : q13 = g 13 := by rw [hg]; rfl
  have e_14 : q14 = g 14 := by rw [hg]; rfl
  have e_15 : q15 = g 15 := by rw [hg]; rfl
  have e_16 : q16 = g 16 := by rw [hg]; rfl
  have e_17 : q17 = g 17 := by rw [hg]; rfl
  have e_18 : q18 = g 18 := by rw [hg]; rfl
  have e_19 : q19 = g 19 := by rw [hg]; rfl
  have e_20 : q20 = g 20 := by rw [hg]; rfl
  have e_21 : q21 = g 21 := by rw [hg]; rfl
  have e_22 : q22 = g 22 := by rw [hg]; rfl
  have e_23 : q23 = g 23 := by rw [hg]; rfl
  have e_24 : q24 = g 24 := by rw [hg]; rfl
  have e_25 : q25 = g 25 := by rw [hg]; rfl
  have e_26 : q26 = g 26 := by rw [hg]; rfl
  have I2 := n_toWd (n := 27) (g := g) (K := KM g Y) (σ := σM00) I [0, 1, 2, 3, 4, 5, 6, 7, 8, 9, 10, 11, 12, 13, 14, 15, 16, 17, 18, 19, 20, 21, 22, 23, 24, 25, 26] rfl rfl (by
    intro k hk
    match k, hk with
    | 0, _ => rw [km0, ← e_0, ← e_1, ← e_2, ← e_3, ← e_4, ← e_5, ← e_6, ← e_7, ← e_8, ← e_9, ← e_10, ← e_11, ← e_12, ← e_13, ← e_14, ← e_15, ← e_16, ← e_17, ← e_18, ← e_19, ← e_20, ← e_21, ← e_22, ← e_23, ← e_24, ← e_25, ← e_26]; rfl
    | 1, _ => rw [km1, ← e_1]; rfl
    | 2, _ => rw [km2, ← e_2]; rfl
    | 3, _ => rw [km3, ← e_3]; rfl
    | 4, _ => rw [km4, ← e_4]; rfl
    | 5, _ => rw [km5, ← e_5]; rfl
    | 6, _ => rw [km6, ← e_6]; rfl
    | 7, _ => rw [km7, ← e_7]; rfl
    | 8, _ => rw [km8, ← e_8]; rfl
    | 9, _ => rw [km9, ← e_9]; rfl
    | 10, _ => rw [km10, ← e_10]; rfl
    | 11, _ => rw [km11, ← e_11]; rfl
    | 12, _ => rw [km12, ← e_12]; rfl
    | 13, _ => rw [km13, ← e_13]; rfl
    | 14, _ => rw [km14, ← e_14]; rfl
    | 15, _ => rw [km15, ← e_15]; rfl
    | 16, _ => rw [km16, ← e_16]; rfl
    | 17, _ => rw [km17, ← e_17]; rfl
    | 18, _ => rw [km18, ← e_18]; rfl
    | 19, _ => rw [km19, ← e_19]; rfl
    | 20, _ => rw [km20, ← e_20]; rfl
    | 21, _ => rw [km21, ← e_21]; rfl
    | 22, _ => rw [km22, ← e_22]; rfl
    | 23, _ => rw [km23, ← e_23]; rfl
    | 24, _ => rw [km24, ← e_24]; rfl
    | 25, _ => rw [km25, ← e_25]; rfl
    | 26, _ => rw [km26, ← e_26]; rfl
    | k + 27, hk => exact absurd hk (by omega))
  have e0 : h0 = g 0 := by rw [hg]; rfl
  clear hg
  have hl9 := hl
  clear I
  subst e0
  have I := n_jw I2
  rw [fX10_init] at hf
  have hl : lv_has ls 2 [(1, .int 0), (0, .ref (g 0))] := hl9
  refine bX10_init_L231 C0 ?_ 50 σM00 0 _ _ _ hf I (lv_sub hl [1, 0] rfl)
  · intro σ7 H locs ls hf I hl
    refine lv_iconst (v := 0) hx hb dX10_init_266 (by decide) ?_
    refine lv_istore_n (lv' := [(1, .int 0), (0, .ref (g 0))]) hx hb dX10_init_267 rfl hl (by decide) rfl (fun ls hl => ?_)
    refine bX10_init_L268 C0 ?_ 50 σ7 0 _ _ _ hf I (lv_sub hl [1, 0] rfl)
    · intro σ13 H locs ls hf I hl
      refine lv_aload_n hx hb dX10_init_294 rfl (lv_at hl 0 rfl) ?_
      refine j_get I hx hb hts iw_X10_init_X10 hown 0 (by decide) (km0 g Y _) rfl 20 (by decide) (hts (.fieldLink RX10 59 "ReelNightModel" "places" "[I") (by decide +kernel)) rfl dX10_init_295 ?_
      refine lv_iconst (v := 0) hx hb dX10_init_298 (by decide) ?_
      refine lv_iconst (v := (-1)) hx hb dX10_init_299 (by decide) ?_
      obtain ⟨σ14, eσ14, hf⟩ := o_stp hf
      refine j_ast I hx hb 14 (by decide) (km14 g Y) (show ¬ ((0 : Int32) < 0 ∨ 2 ≤ (0 : Int32).toNatClampNeg) from by decide) eσ14 dX10_init_300 (fun H locs I => ?_)
      refine lv_aload_n hx hb dX10_init_301 rfl (lv_at hl 0 rfl) ?_
      refine j_get I hx hb hts iw_X10_init_X10 hown 0 (by decide) (km0 g Y _) rfl 20 (by decide) (hts (.fieldLink RX10 59 "ReelNightModel" "places" "[I") (by decide +kernel)) rfl dX10_init_302 ?_
      refine lv_iconst (v := 1) hx hb dX10_init_305 (by decide) ?_
      refine lv_iconst (v := (-1)) hx hb dX10_init_306 (by decide) ?_
      obtain ⟨σ15, eσ15, hf⟩ := o_stp hf
      refine j_ast I hx hb 14 (by decide) (km14 g Y) (show ¬ ((1 : Int32) < 0 ∨ 2 ≤ (1 : Int32).toNatClampNeg) from by decide) eσ15 dX10_init_307 (fun H locs I => ?_)
      cases hf
      subst hAe
      exact n_vret g rfl (j_lw I hAO) hx hb hr hlk dX10_init_308
