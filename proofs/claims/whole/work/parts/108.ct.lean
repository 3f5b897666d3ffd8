theorem iw_X10_give_X10 : ∀ w ∈ u_ws RX10 TX10 37, w ∈ wsX10_give := by decide +kernel
set_option maxHeartbeats 4000000 in
set_option maxRecDepth 100000 in
theorem bX10_give_L2 {p : Program} {l : Launch} {e : Env} {s : State} {m : MethodId} {args : Array Value} {below : List Frame} {meth : Method} {c : Code} {D : va_G} {g : Nat → Nat} {Y : YT} {bP : Nat} {σ0 : St} {res : St × Int32} (C0 : MC p s m args meth c cX10_give 3 (some .boolean) RX10 wsX10_give) {GX10_give : St → Int32 → Option (St × Int32)} {ra rb : Nat} (hGX10_give : ∀ (σ : St) (x0 : Int32) (res : St × Int32), GX10_give σ x0 = some res → Ci l yX10_give wsX10_give ⟨ra, 0, 0, rb⟩ D 27 g (KM g Y) Y bP [.ref (g 0), .int x0] σ res) {K65 : St → Int32 → Int32 → Option (St × Int32)} (hK65 : ∀ (σ : St) (a1 : Int32) (a2 : Int32) (H : Heap) (locs : List Loc) (ls : Array Slot), K65 σ a1 a2 = some res → JW D 27 g (KM g Y) Y bP (va_A (wd 27 g (KM g Y) σ0) s.heap.size) s σ H locs → lv_has ls 3 [(0, .ref (g 0)), (1, .int a1), (2, .int a2)] → W p l e (⟨ra + 10, 0, 0, rb + 500⟩ : Room) s m args below meth c H locs 0 0 (MQ below (Qi D 27 g (KM g Y) Y σ0 res s.heap.size) args s 0 0 (va_A (wd 27 g (KM g Y) σ0) s.heap.size)) (F0 m 65 ls [])) : ∀ (n : Nat) (σ : St) (a1 : Int32) (a2 : Int32) (H : Heap) (locs : List Loc) (ls : Array Slot), fX10_give_L2 GX10_give K65 n σ a1 a2 = some res → JW D 27 g (KM g Y) Y bP (va_A (wd 27 g (KM g Y) σ0) s.heap.size) s σ H locs → lv_has ls 3 [(0, .ref (g 0)), (1, .int a1), (2, .int a2)] → W p l e (⟨ra + 10, 0, 0, rb + 500⟩ : Room) s m args below meth c H locs 0 0 (MQ below (Qi D 27 g (KM g Y) Y σ0 res s.heap.size) args s 0 0 (va_A (wd 27 g (KM g Y) σ0) s.heap.size)) (F0 m 2 ls []) := by
  have C0 := C0
  obtain ⟨hx, hb, hr, hml, hown, hts, hlk⟩ := id C0
  intro n
  induction n with
  | zero =>
    intro σ a1 a2 H locs ls hf
    cases hf
  | succ n ih =>
    intro σ a1 a2 H locs ls hf I hl
    rw [fX10_give_L2] at hf
    refine lv_iload_n hx hb dX10_give_2 rfl (lv_at hl 2 rfl) ?_
    refine lv_aload_n hx hb dX10_give_3 rfl (lv_at hl 0 rfl) ?_
    obtain ⟨σ1, r2, h3, hf⟩ := o_obn hf
    refine j_iV (rest := [.int a2]) I ⟨hx, hb, hml, hown, hts⟩ (ct_X10_rides σ _ h3) (cwV 0 hts gX10_give_X10_rides rfl rfl rfl (by decide +kernel) ⟨by dsimp only [headSpec]; omega, by dsimp only [headSpec]; omega⟩) (by decide) (km0 g Y _) rfl rfl hl.1 rfl (Nat.le_of_ble_eq_true rfl) dX10_give_4 ⟨Nat.zero_le _, Nat.zero_le _⟩ (fun H locs I => ?_)
    refine lv_icmp_ge (tgt := 80) hx hb dX10_give_7 (by decide) (fun c4 => ?_) (fun c4 => ?_)
    · have hf := i_t c4 hf
      refine lv_iconst (v := 0) hx hb dX10_give_80 (by decide) ?_
      exact j_iret I hx hb hr rfl hlk hf dX10_give_81
    · have hf := i_f c4 hf
      refine lv_aload_n hx hb dX10_give_10 rfl (lv_at hl 0 rfl) ?_
      refine j_get I hx hb hts iw_X10_give_X10 hown 0 (by decide) (km0 g Y _) rfl 25 (by decide) (hts (.fieldLink RX10 75 "ReelNightModel" "mayFollow" "[Z") (by decide +kernel)) rfl dX10_give_11 ?_
      refine lv_bipush (v := 40) hx hb dX10_give_14 (by decide) ?_
      refine lv_iload_n hx hb dX10_give_16 rfl (lv_at hl 1 rfl) ?_
      refine lv_imul hx hb dX10_give_17 ?_
      refine lv_iload_n hx hb dX10_give_18 rfl (lv_at hl 2 rfl) ?_
      refine lv_iadd hx hb dX10_give_19 ?_
      obtain ⟨b5, hf⟩ := o_nb hf
      refine j_zald I hx hb 19 (by decide) (km19 g Y _) b5 dX10_give_20 ?_
      refine lv_if_eq (tgt := 74) hx hb dX10_give_21 (by decide) (fun c6 => ?_) (fun c6 => ?_)
      · have hf := i_t c6 hf
        refine lv_iinc (v := (a2 + 1)) (lv' := [(2, .int (a2 + 1)), (0, .ref (g 0)), (1, .int a1)]) hx hb dX10_give_74 hl (k := 2) rfl rfl (by decide) rfl (fun ls hl => ?_)
        refine lv_goto (tgt := 2) hx hb dX10_give_77 (by decide) ?_
        exact ih σ1 a1 (a2 + 1) _ _ _ hf I (lv_sub hl [1, 2, 0] rfl)
      · have hf := i_f c6 hf
        refine lv_aload_n hx hb dX10_give_24 rfl (lv_at hl 0 rfl) ?_
        refine j_get I hx hb hts iw_X10_give_X10 hown 0 (by decide) (km0 g Y _) rfl 24 (by decide) (hts (.fieldLink RX10 71 "ReelNightModel" "looked" "[Z") (by decide +kernel)) rfl dX10_give_25 ?_
        refine lv_iload_n hx hb dX10_give_28 rfl (lv_at hl 2 rfl) ?_
        obtain ⟨b7, hf⟩ := o_nb hf
        refine j_zald I hx hb 18 (by decide) (km18 g Y _) b7 dX10_give_29 ?_
        refine lv_if_eq (tgt := 36) hx hb dX10_give_30 (by decide) (fun c8 => ?_) (fun c8 => ?_)
        · have hf := i_t c8 hf
          refine lv_aload_n hx hb dX10_give_36 rfl (lv_at hl 0 rfl) ?_
          refine j_get I hx hb hts iw_X10_give_X10 hown 0 (by decide) (km0 g Y _) rfl 24 (by decide) (hts (.fieldLink RX10 71 "ReelNightModel" "looked" "[Z") (by decide +kernel)) rfl dX10_give_37 ?_
          refine lv_iload_n hx hb dX10_give_40 rfl (lv_at hl 2 rfl) ?_
          refine lv_iconst (v := 1) hx hb dX10_give_41 (by decide) ?_
          obtain ⟨b9, hf⟩ := o_nb hf
          obtain ⟨σ10, eσ10, hf⟩ := o_stp hf
          refine j_zast I hx hb 18 (by decide) (km18 g Y) b9 eσ10 dX10_give_42 (fun H locs I => ?_)
          refine lv_aload_n hx hb dX10_give_43 rfl (lv_at hl 0 rfl) ?_
          refine j_get I hx hb hts iw_X10_give_X10 hown 0 (by decide) (km0 g Y _) rfl 23 (by decide) (hts (.fieldLink RX10 68 "ReelNightModel" "ahead" "[I") (by decide +kernel)) rfl dX10_give_44 ?_
          refine lv_iload_n hx hb dX10_give_47 rfl (lv_at hl 2 rfl) ?_
          obtain ⟨b11, hf⟩ := o_nb hf
          refine j_ald I hx hb 17 (by decide) (km17 g Y _) b11 dX10_give_48 ?_
          refine lv_if_lt (tgt := 65) hx hb dX10_give_49 (by decide) (fun c12 => ?_) (fun c12 => ?_)
          · have hf := i_t c12 hf
            exact hK65 σ10 a1 a2 _ _ _ hf I (lv_sub hl [0, 1, 2] rfl)
          · have hf := i_f c12 hf
            refine lv_aload_n hx hb dX10_give_52 rfl (lv_at hl 0 rfl) ?_
            refine lv_aload_n hx hb dX10_give_53 rfl (lv_at hl 0 rfl) ?_
            refine j_get I hx hb hts iw_X10_give_X10 hown 0 (by decide) (km0 g Y _) rfl 23 (by decide) (hts (.fieldLink RX10 68 "ReelNightModel" "ahead" "[I") (by decide +kernel)) rfl dX10_give_54 ?_
            refine lv_iload_n hx hb dX10_give_57 rfl (lv_at hl 2 rfl) ?_
            obtain ⟨b13, hf⟩ := o_nb hf
            refine j_ald I hx hb 17 (by decide) (km17 g Y _) b13 dX10_give_58 ?_
            obtain ⟨σ14, r15, h16, hf⟩ := o_obn hf
            refine j_iV (rest := []) I ⟨hx, hb, hml, hown, hts⟩ (hGX10_give σ10 (σ10 17 a2.toNatClampNeg) _ h16) (cwV 1 hts gX10_give_X10_give rfl rfl rfl (by decide +kernel) ⟨by dsimp only [headSpec]; omega, by dsimp only [headSpec]; omega⟩) (by decide) (km0 g Y _) rfl rfl hl.1 rfl (Nat.le_of_ble_eq_true rfl) dX10_give_59 ⟨Nat.zero_le _, Nat.zero_le _⟩ (fun H locs I => ?_)
            refine lv_if_eq (tgt := 74) hx hb dX10_give_62 (by decide) (fun c17 => ?_) (fun c17 => ?_)
            · have hf := i_t c17 hf
              refine lv_iinc (v := (a2 + 1)) (lv' := [(2, .int (a2 + 1)), (0, .ref (g 0)), (1, .int a1)]) hx hb dX10_give_74 hl (k := 2) rfl rfl (by decide) rfl (fun ls hl => ?_)
              refine lv_goto (tgt := 2) hx hb dX10_give_77 (by decide) ?_
              exact ih σ14 a1 (a2 + 1) _ _ _ hf I (lv_sub hl [1, 2, 0] rfl)
            · have hf := i_f c17 hf
              exact hK65 σ14 a1 a2 _ _ _ hf I (lv_sub hl [0, 1, 2] rfl)
        · have hf := i_f c8 hf
          refine lv_goto (tgt := 74) hx hb dX10_give_33 (by decide) ?_
          refine lv_iinc (v := (a2 + 1)) (lv' := [(2, .int (a2 + 1)), (0, .ref (g 0)), (1, .int a1)]) hx hb dX10_give_74 hl (k := 2) rfl rfl (by decide) rfl (fun ls hl => ?_)
          refine lv_goto (tgt := 2) hx hb dX10_give_77 (by decide) ?_
          exact ih σ1 a1 (a2 + 1) _ _ _ hf I (lv_sub hl [1, 2, 0] rfl)
set_option maxHeartbeats 4000000 in
set_option maxRecDepth 100000 in
theorem ct_X10_give {l : Launch} {D : va_G} {g : Nat → Nat} {Y : YT} {bP : Nat} {GX10_give : St → Int32 → Option (St × Int32)} {ra rb : Nat} (hGX10_give : ∀ (σ : St) (x0 : Int32) (res : St × Int32), GX10_give σ x0 = some res → Ci l yX10_give wsX10_give ⟨ra, 0, 0, rb⟩ D 27 g (KM g Y) Y bP [.ref (g 0), .int x0] σ res) (σ : St) (p0 : Int32) (res : St × Int32) (hf : fX10_give GX10_give σ p0 = some res) : Ci l yX10_give wsX10_give ⟨ra + 10, 0, 0, rb + 500⟩ D 27 g (KM g Y) Y bP [.ref (g 0), .int p0] σ res := by
  intro sz
  refine Met.ofW (cc := cX10_give) (maxL := 3) (ret := (some .boolean)) (by decide) rfl ?_
  intro p e s m args below meth c s₁ B hml hv
  obtain ⟨rfl, rfl, I⟩ := j_start hv
  have C0 : MC p s m _ meth c cX10_give 3 (some .boolean) RX10 wsX10_give := ⟨B.exec, B.bytes, B.returns, hml, findClass_of_methodNamed B.named, atoms_spec (ws := wsX10_give) B.pre, B.notSynchronized⟩
  obtain ⟨hx, hb, hr, hml, hown, hts, hlk⟩ := id C0
  have hl := lv_entry ([.ref (g 0), .int p0]) (n := 3) (Nat.le_of_ble_eq_true rfl)
  rw [lg_entry_eq]
  generalize (lg_sl ([.ref (g 0), .int p0]) ++ List.replicate (3 - (lg_sl ([.ref (g 0), .int p0])).length) Slot.unset).toArray = ls at hl ⊢
  have hl : lv_has ls 3 [(0, .ref (g 0)), (1, .int p0)] := hl
  rw [fX10_give] at hf
  refine lv_iconst (v := 0) hx hb dX10_give_0 (by decide) ?_
  refine lv_istore_n (lv' := [(2, .int 0), (0, .ref (g 0)), (1, .int p0)]) hx hb dX10_give_1 rfl hl (by decide) rfl (fun ls hl => ?_)
  refine bX10_give_L2 C0 hGX10_give ?_ 50 σ p0 0 _ _ _ hf I (lv_sub hl [1, 2, 0] rfl)
  · intro σ18 a19 a20 H locs ls hf I hl
    refine lv_aload_n hx hb dX10_give_65 rfl (lv_at hl 0 rfl) ?_
    refine j_get I hx hb hts iw_X10_give_X10 hown 0 (by decide) (km0 g Y _) rfl 23 (by decide) (hts (.fieldLink RX10 68 "ReelNightModel" "ahead" "[I") (by decide +kernel)) rfl dX10_give_66 ?_
    refine lv_iload_n hx hb dX10_give_69 rfl (lv_at hl 2 rfl) ?_
    refine lv_iload_n hx hb dX10_give_70 rfl (lv_at hl 1 rfl) ?_
    obtain ⟨b21, hf⟩ := o_nb hf
    obtain ⟨σ22, eσ22, hf⟩ := o_stp hf
    refine j_ast I hx hb 17 (by decide) (km17 g Y) b21 eσ22 dX10_give_71 (fun H locs I => ?_)
    refine lv_iconst (v := 1) hx hb dX10_give_72 (by decide) ?_
    exact j_iret I hx hb hr rfl hlk hf dX10_give_73
theorem ctR_X10_give {l : Launch} {D : va_G} {g : Nat → Nat} {Y : YT} {bP : Nat} : ∀ (d : Nat) (σ : St) (p0 : Int32) (res : St × Int32), fX10_giveR d σ p0 = some res → Ci l yX10_give wsX10_give ⟨10 * d, 0, 0, 500 * d⟩ D 27 g (KM g Y) Y bP [.ref (g 0), .int p0] σ res := by
  intro d
  induction d with
  | zero => intro σ p0 res hf; cases hf
  | succ d ih =>
    intro σ p0 res hf
    exact ct_X10_give (ra := 10 * d) (rb := 500 * d) (fun σ p0 res h => ih σ p0 res h) σ p0 res hf

theorem iw_X10_riders_X10 : ∀ w ∈ u_ws RX10 TX10 37, w ∈ wsX10_riders := fun _ h => List.mem_cons_of_mem _ (List.mem_append_right _ h)
set_option maxHeartbeats 4000000 in
set_option maxRecDepth 100000 in
theorem bX10_riders_L11 {p : Program} {l : Launch} {e : Env} {s : State} {m : MethodId} {args : Array Value} {below : List Frame} {meth : Method} {c : Code} {D : va_G} {g : Nat → Nat} {Y : YT} {bP : Nat} {σ0 : St} {res : St × Int32} (C0 : MC p s m args meth c cX10_riders 5 (some .int) RX10 wsX10_riders) {K29 : St → Int32 → Option (St × Int32)} (hK29 : ∀ (σ : St) (a1 : Int32) (H : Heap) (locs : List Loc) (ls : Array Slot), K29 σ a1 = some res → JW D 27 g (KM g Y) Y bP (va_A (wd 27 g (KM g Y) σ0) s.heap.size) s σ H locs → lv_has ls 5 [(0, .ref (g 0)), (1, .int a1)] → W p l e (⟨421, 0, 0, 21022⟩ : Room) s m args below meth c H locs 0 0 (MQ below (Qi D 27 g (KM g Y) Y σ0 res s.heap.size) args s 0 0 (va_A (wd 27 g (KM g Y) σ0) s.heap.size)) (F0 m 29 ls [])) : ∀ (n : Nat) (σ : St) (a1 : Int32) (a2 : Int32) (H : Heap) (locs : List Loc) (ls : Array Slot), fX10_riders_L11 K29 n σ a1 a2 = some res → JW D 27 g (KM g Y) Y bP (va_A (wd 27 g (KM g Y) σ0) s.heap.size) s σ H locs → lv_has ls 5 [(0, .ref (g 0)), (1, .int a1), (2, .int a2)] → W p l e (⟨421, 0, 0, 21022⟩ : Room) s m args below meth c H locs 0 0 (MQ below (Qi D 27 g (KM g Y) Y σ0 res s.heap.size) args s 0 0 (va_A (wd 27 g (KM g Y) σ0) s.heap.size)) (F0 m 11 ls []) := by
  have C0 := C0
  obtain ⟨hx, hb, hr, hml, hown, hts, hlk⟩ := id C0
  intro n
  induction n with
  | zero =>
    intro σ a1 a2 H locs ls hf
    cases hf
  | succ n ih =>
    intro σ a1 a2 H locs ls hf I hl
    rw [fX10_riders_L11] at hf
    refine lv_iload_n hx hb dX10_riders_11 rfl (lv_at hl 2 rfl) ?_
    refine lv_iload_n hx hb dX10_riders_12 rfl (lv_at hl 1 rfl) ?_
    refine lv_icmp_ge (tgt := 29) hx hb dX10_riders_13 (by decide) (fun c7 => ?_) (fun c7 => ?_)
    · have hf := i_t c7 hf
      exact hK29 σ a1 _ _ _ hf I (lv_sub hl [0, 1] rfl)
    · have hf := i_f c7 hf
      refine lv_aload_n hx hb dX10_riders_16 rfl (lv_at hl 0 rfl) ?_
      refine j_get I hx hb hts iw_X10_riders_X10 hown 0 (by decide) (km0 g Y _) rfl 23 (by decide) (hts (.fieldLink RX10 68 "ReelNightModel" "ahead" "[I") (by decide +kernel)) rfl dX10_riders_17 ?_
      refine lv_iload_n hx hb dX10_riders_20 rfl (lv_at hl 2 rfl) ?_
      refine lv_iconst (v := (-1)) hx hb dX10_riders_21 (by decide) ?_
      obtain ⟨b8, hf⟩ := o_nb hf
      obtain ⟨σ9, eσ9, hf⟩ := o_stp hf
      refine j_ast I hx hb 17 (by decide) (km17 g Y) b8 eσ9 dX10_riders_22 (fun H locs I => ?_)
      refine lv_iinc (v := (a2 + 1)) (lv' := [(2, .int (a2 + 1)), (0, .ref (g 0)), (1, .int a1)]) hx hb dX10_riders_23 hl (k := 2) rfl rfl (by decide) rfl (fun ls hl => ?_)
      refine lv_goto (tgt := 11) hx hb dX10_riders_26 (by decide) ?_
      exact ih σ9 a1 (a2 + 1) _ _ _ hf I (lv_sub hl [1, 2, 0] rfl)
set_option maxHeartbeats 4000000 in
set_option maxRecDepth 100000 in
theorem bX10_riders_L41 {p : Program} {l : Launch} {e : Env} {s : State} {m : MethodId} {args : Array Value} {below : List Frame} {meth : Method} {c : Code} {D : va_G} {g : Nat → Nat} {Y : YT} {bP : Nat} {σ0 : St} {res : St × Int32} (C0 : MC p s m args meth c cX10_riders 5 (some .int) RX10 wsX10_riders) {K61 : St → Int32 → Int32 → Int32 → Option (St × Int32)} (hK61 : ∀ (σ : St) (a1 : Int32) (a2 : Int32) (a3 : Int32) (H : Heap) (locs : List Loc) (ls : Array Slot), K61 σ a1 a2 a3 = some res → JW D 27 g (KM g Y) Y bP (va_A (wd 27 g (KM g Y) σ0) s.heap.size) s σ H locs → lv_has ls 5 [(0, .ref (g 0)), (1, .int a1), (2, .int a2), (3, .int a3)] → W p l e (⟨421, 0, 0, 21022⟩ : Room) s m args below meth c H locs 0 0 (MQ below (Qi D 27 g (KM g Y) Y σ0 res s.heap.size) args s 0 0 (va_A (wd 27 g (KM g Y) σ0) s.heap.size)) (F0 m 61 ls [])) : ∀ (n : Nat) (σ : St) (a1 : Int32) (a2 : Int32) (a3 : Int32) (a4 : Int32) (H : Heap) (locs : List Loc) (ls : Array Slot), fX10_riders_L41 K61 n σ a1 a2 a3 a4 = some res → JW D 27 g (KM g Y) Y bP (va_A (wd 27 g (KM g Y) σ0) s.heap.size) s σ H locs → lv_has ls 5 [(0, .ref (g 0)), (1, .int a1), (2, .int a2), (3, .int a3), (4, .int a4)] → W p l e (⟨421, 0, 0, 21022⟩ : Room) s m args below meth c H locs 0 0 (MQ below (Qi D 27 g (KM g Y) Y σ0 res s.heap.size) args s 0 0 (va_A (wd 27 g (KM g Y) σ0) s.heap.size)) (F0 m 41 ls []) := by
  have C0 := C0
  obtain ⟨hx, hb, hr, hml, hown, hts, hlk⟩ := id C0
  intro n
  induction n with
  | zero =>
    intro σ a1 a2 a3 a4 H locs ls hf
    cases hf
  | succ n ih =>
    intro σ a1 a2 a3 a4 H locs ls hf I hl
    rw [fX10_riders_L41] at hf
    refine lv_iload hx hb dX10_riders_41 (lv_at hl 4 rfl) ?_
    refine lv_iload_n hx hb dX10_riders_43 rfl (lv_at hl 1 rfl) ?_
    refine lv_icmp_ge (tgt := 61) hx hb dX10_riders_44 (by decide) (fun c13 => ?_) (fun c13 => ?_)
    · have hf := i_t c13 hf
      exact hK61 σ a1 a2 a3 _ _ _ hf I (lv_sub hl [0, 1, 2, 3] rfl)
    · have hf := i_f c13 hf
      refine lv_aload_n hx hb dX10_riders_47 rfl (lv_at hl 0 rfl) ?_
      refine j_get I hx hb hts iw_X10_riders_X10 hown 0 (by decide) (km0 g Y _) rfl 24 (by decide) (hts (.fieldLink RX10 71 "ReelNightModel" "looked" "[Z") (by decide +kernel)) rfl dX10_riders_48 ?_
      refine lv_iload hx hb dX10_riders_51 (lv_at hl 4 rfl) ?_
      refine lv_iconst (v := 0) hx hb dX10_riders_53 (by decide) ?_
      obtain ⟨b14, hf⟩ := o_nb hf
      obtain ⟨σ15, eσ15, hf⟩ := o_stp hf
      refine j_zast I hx hb 18 (by decide) (km18 g Y) b14 eσ15 dX10_riders_54 (fun H locs I => ?_)
      refine lv_iinc (v := (a4 + 1)) (lv' := [(4, .int (a4 + 1)), (0, .ref (g 0)), (1, .int a1), (2, .int a2), (3, .int a3)]) hx hb dX10_riders_55 hl (k := 4) rfl rfl (by decide) rfl (fun ls hl => ?_)
      refine lv_goto (tgt := 41) hx hb dX10_riders_58 (by decide) ?_
      exact ih σ15 a1 a2 a3 (a4 + 1) _ _ _ hf I (lv_sub hl [1, 2, 3, 4, 0] rfl)
set_option maxHeartbeats 4000000 in
set_option maxRecDepth 100000 in
theorem bX10_riders_L33 {p : Program} {l : Launch} {e : Env} {s : State} {m : MethodId} {args : Array Value} {below : List Frame} {meth : Method} {c : Code} {D : va_G} {g : Nat → Nat} {Y : YT} {bP : Nat} {σ0 : St} {res : St × Int32} (C0 : MC p s m args meth c cX10_riders 5 (some .int) RX10 wsX10_riders) : ∀ (n : Nat) (σ : St) (a1 : Int32) (a2 : Int32) (a3 : Int32) (H : Heap) (locs : List Loc) (ls : Array Slot), fX10_riders_L33 n σ a1 a2 a3 = some res → JW D 27 g (KM g Y) Y bP (va_A (wd 27 g (KM g Y) σ0) s.heap.size) s σ H locs → lv_has ls 5 [(0, .ref (g 0)), (1, .int a1), (2, .int a2), (3, .int a3)] → W p l e (⟨421, 0, 0, 21022⟩ : Room) s m args below meth c H locs 0 0 (MQ below (Qi D 27 g (KM g Y) Y σ0 res s.heap.size) args s 0 0 (va_A (wd 27 g (KM g Y) σ0) s.heap.size)) (F0 m 33 ls []) := by
  have C0 := C0
  obtain ⟨hx, hb, hr, hml, hown, hts, hlk⟩ := id C0
  intro n
  induction n with
  | zero =>
    intro σ a1 a2 a3 H locs ls hf
    cases hf
  | succ n ih =>
    intro σ a1 a2 a3 H locs ls hf I hl
    rw [fX10_riders_L33] at hf
    refine lv_iload_n hx hb dX10_riders_33 rfl (lv_at hl 3 rfl) ?_
    refine lv_iload_n hx hb dX10_riders_34 rfl (lv_at hl 1 rfl) ?_
    refine lv_icmp_ge (tgt := 83) hx hb dX10_riders_35 (by decide) (fun c12 => ?_) (fun c12 => ?_)
    · have hf := i_t c12 hf
      refine lv_iload_n hx hb dX10_riders_83 rfl (lv_at hl 1 rfl) ?_
      refine lv_iload_n hx hb dX10_riders_84 rfl (lv_at hl 2 rfl) ?_
      refine lv_isub hx hb dX10_riders_85 ?_
      exact j_iret I hx hb hr rfl hlk hf dX10_riders_86
    · have hf := i_f c12 hf
      refine lv_iconst (v := 0) hx hb dX10_riders_38 (by decide) ?_
      refine lv_istore (lv' := [(4, .int 0), (0, .ref (g 0)), (1, .int a1), (2, .int a2), (3, .int a3)]) hx hb dX10_riders_39 hl (by decide) rfl (fun ls hl => ?_)
      refine bX10_riders_L41 C0 ?_ 50 σ a1 a2 a3 0 _ _ _ hf I (lv_sub hl [1, 2, 3, 4, 0] rfl)
      · intro σ16 a17 a18 a19 H locs ls hf I hl
        refine lv_iload_n hx hb dX10_riders_61 rfl (lv_at hl 2 rfl) ?_
        refine lv_aload_n hx hb dX10_riders_62 rfl (lv_at hl 0 rfl) ?_
        refine lv_iload_n hx hb dX10_riders_63 rfl (lv_at hl 3 rfl) ?_
        obtain ⟨σ20, r21, h22, hf⟩ := o_obn hf
        refine j_iV (rest := [.int a18]) I ⟨hx, hb, hml, hown, hts⟩ (ctR_X10_give 42 σ16 a19 _ h22) (cwV 1 hts gX10_riders_X10_give rfl rfl rfl (by decide +kernel) ⟨Nat.le_of_ble_eq_true rfl, Nat.le_of_ble_eq_true rfl⟩) (by decide) (km0 g Y _) rfl rfl hl.1 rfl (Nat.le_of_ble_eq_true rfl) dX10_riders_64 ⟨Nat.zero_le _, Nat.zero_le _⟩ (fun H locs I => ?_)
        refine lv_if_eq (tgt := 74) hx hb dX10_riders_67 (by decide) (fun c23 => ?_) (fun c23 => ?_)
        · have hf := i_t c23 hf
          refine lv_iconst (v := 0) hx hb dX10_riders_74 (by decide) ?_
          refine lv_iadd hx hb dX10_riders_75 ?_
          obtain ⟨v24, ev24, hf⟩ := o_itp hf
          refine top_eq ev24 ?_
          refine lv_istore_n (lv' := [(2, .int v24), (0, .ref (g 0)), (1, .int a17), (3, .int a19)]) hx hb dX10_riders_76 rfl hl (by decide) rfl (fun ls hl => ?_)
          refine lv_iinc (v := (a19 + 1)) (lv' := [(3, .int (a19 + 1)), (2, .int v24), (0, .ref (g 0)), (1, .int a17)]) hx hb dX10_riders_77 hl (k := 3) rfl rfl (by decide) rfl (fun ls hl => ?_)
          refine lv_goto (tgt := 33) hx hb dX10_riders_80 (by decide) ?_
          exact ih σ20 a17 v24 (a19 + 1) _ _ _ hf I (lv_sub hl [2, 3, 1, 0] rfl)
        · have hf := i_f c23 hf
          refine lv_iconst (v := 1) hx hb dX10_riders_70 (by decide) ?_
          refine lv_goto (tgt := 75) hx hb dX10_riders_71 (by decide) ?_
          refine lv_iadd hx hb dX10_riders_75 ?_
          obtain ⟨v25, ev25, hf⟩ := o_itp hf
          refine top_eq ev25 ?_
          refine lv_istore_n (lv' := [(2, .int v25), (0, .ref (g 0)), (1, .int a17), (3, .int a19)]) hx hb dX10_riders_76 rfl hl (by decide) rfl (fun ls hl => ?_)
          refine lv_iinc (v := (a19 + 1)) (lv' := [(3, .int (a19 + 1)), (2, .int v25), (0, .ref (g 0)), (1, .int a17)]) hx hb dX10_riders_77 hl (k := 3) rfl rfl (by decide) rfl (fun ls hl => ?_)
          refine lv_goto (tgt := 33) hx hb dX10_riders_80 (by decide) ?_
          exact ih σ20 a17 v25 (a19 + 1) _ _ _ hf I (lv_sub hl [2, 3, 1, 0] rfl)
set_option maxHeartbeats 4000000 in
set_option maxRecDepth 100000 in
theorem ct_X10_riders {l : Launch} {D : va_G} {g : Nat → Nat} {Y : YT} {bP : Nat} (σ : St) (res : St × Int32) (hf : fX10_riders σ = some res) : Ci l yX10_riders wsX10_riders ⟨421, 0, 0, 21022⟩ D 27 g (KM g Y) Y bP [.ref (g 0)] σ res := by
  intro sz
  refine Met.ofW (cc := cX10_riders) (maxL := 5) (ret := (some .int)) (by decide) rfl ?_
  intro p e s m args below meth c s₁ B hml hv
  obtain ⟨rfl, rfl, I⟩ := j_start hv
  have C0 : MC p s m _ meth c cX10_riders 5 (some .int) RX10 wsX10_riders := ⟨B.exec, B.bytes, B.returns, hml, findClass_of_methodNamed B.named, atoms_spec (ws := wsX10_riders) B.pre, B.notSynchronized⟩
  obtain ⟨hx, hb, hr, hml, hown, hts, hlk⟩ := id C0
  have hl := lv_entry ([.ref (g 0)]) (n := 5) (Nat.le_of_ble_eq_true rfl)
  rw [lg_entry_eq]
  generalize (lg_sl ([.ref (g 0)]) ++ List.replicate (5 - (lg_sl ([.ref (g 0)])).length) Slot.unset).toArray = ls at hl ⊢
  have hl : lv_has ls 5 [(0, .ref (g 0))] := hl
  rw [fX10_riders] at hf
  refine lv_aload_n hx hb dX10_riders_0 rfl (lv_at hl 0 rfl) ?_
  obtain ⟨σ1, r2, h3, hf⟩ := o_obn hf
  refine j_iV (rest := []) I ⟨hx, hb, hml, hown, hts⟩ (ct_X10_rides σ _ h3) (cwV 0 hts gX10_riders_X10_rides rfl rfl rfl (by decide +kernel) ⟨Nat.le_of_ble_eq_true rfl, Nat.le_of_ble_eq_true rfl⟩) (by decide) (km0 g Y _) rfl rfl hl.1 rfl (Nat.le_of_ble_eq_true rfl) dX10_riders_1 ⟨Nat.zero_le _, Nat.zero_le _⟩ (fun H locs I => ?_)
  refine lv_istore_n (lv' := [(1, .int r2), (0, .ref (g 0))]) hx hb dX10_riders_4 rfl hl (by decide) rfl (fun ls hl => ?_)
  refine lv_aload_n hx hb dX10_riders_5 rfl (lv_at hl 1 rfl) ?_
  obtain ⟨σ4, r5, h6, hf⟩ := o_obn hf
  refine j_vV (rest := []) I ⟨hx, hb, hml, hown, hts⟩ (ct_X10_findFollowers σ1 _ h6) (cwV 0 hts gX10_riders_X10_findFollowers rfl rfl rfl (by decide +kernel) ⟨Nat.le_of_ble_eq_true rfl, Nat.le_of_ble_eq_true rfl⟩) (by decide) (km0 g Y _) rfl rfl hl.1 rfl (Nat.le_of_ble_eq_true rfl) dX10_riders_6 ⟨Nat.zero_le _, Nat.zero_le _⟩ (fun H locs I => ?_)
  refine lv_iconst (v := 0) hx hb dX10_riders_9 (by decide) ?_
  refine lv_istore_n (lv' := [(2, .int 0), (1, .int r2), (0, .ref (g 0))]) hx hb dX10_riders_10 rfl hl (by decide) rfl (fun ls hl => ?_)
  refine bX10_riders_L11 C0 ?_ 50 σ4 r2 0 _ _ _ hf I (lv_sub hl [2, 1, 0] rfl)
  · intro σ10 a11 H locs ls hf I hl
    refine lv_iconst (v := 0) hx hb dX10_riders_29 (by decide) ?_
    refine lv_istore_n (lv' := [(2, .int 0), (0, .ref (g 0)), (1, .int a11)]) hx hb dX10_riders_30 rfl hl (by decide) rfl (fun ls hl => ?_)
    refine lv_iconst (v := 0) hx hb dX10_riders_31 (by decide) ?_
    refine lv_istore_n (lv' := [(3, .int 0), (2, .int 0), (0, .ref (g 0)), (1, .int a11)]) hx hb dX10_riders_32 rfl hl (by decide) rfl (fun ls hl => ?_)
    refine bX10_riders_L33 C0 50 σ10 a11 0 0 _ _ _ hf I (lv_sub hl [2, 3, 1, 0] rfl)

theorem iw_X10_late_X10 : ∀ w ∈ u_ws RX10 TX10 37, w ∈ wsX10_late := by decide +kernel
set_option maxHeartbeats 4000000 in
set_option maxRecDepth 100000 in
theorem ct_X10_late {l : Launch} {D : va_G} {g : Nat → Nat} {Y : YT} {bP : Nat} (σ : St) (p0 : Int32) (p1 : Int32) (res : St × Int32) (hf : fX10_late σ p0 p1 = some res) : Ci l yX10_late wsX10_late ⟨2, 0, 0, 43⟩ D 27 g (KM g Y) Y bP [.ref (g 0), .int p0, .int p1] σ res := by
  intro sz
  refine Met.ofW (cc := cX10_late) (maxL := 4) (ret := (some .int)) (by decide) rfl ?_
  intro p e s m args below meth c s₁ B hml hv
  obtain ⟨rfl, rfl, I⟩ := j_start hv
  have C0 : MC p s m _ meth c cX10_late 4 (some .int) RX10 wsX10_late := ⟨B.exec, B.bytes, B.returns, hml, findClass_of_methodNamed B.named, atoms_spec (ws := wsX10_late) B.pre, B.notSynchronized⟩
  obtain ⟨hx, hb, hr, hml, hown, hts, hlk⟩ := id C0
  have hl := lv_entry ([.ref (g 0), .int p0, .int p1]) (n := 4) (Nat.le_of_ble_eq_true rfl)
  rw [lg_entry_eq]
  generalize (lg_sl ([.ref (g 0), .int p0, .int p1]) ++ List.replicate (4 - (lg_sl ([.ref (g 0), .int p0, .int p1])).length) Slot.unset).toArray = ls at hl ⊢
  have hl : lv_has ls 4 [(0, .ref (g 0)), (1, .int p0), (2, .int p1)] := hl
  rw [fX10_late] at hf
  refine lv_aload_n hx hb dX10_late_0 rfl (lv_at hl 0 rfl) ?_
  refine lv_iload_n hx hb dX10_late_1 rfl (lv_at hl 1 rfl) ?_
  obtain ⟨σ1, r2, h3, hf⟩ := o_obn hf
  refine j_iV (rest := []) I ⟨hx, hb, hml, hown, hts⟩ (ct_X10_isRide σ p0 _ h3) (cwV 1 hts gX10_late_X10_isRide rfl rfl rfl (by decide +kernel) ⟨Nat.le_of_ble_eq_true rfl, Nat.le_of_ble_eq_true rfl⟩) (by decide) (km0 g Y _) rfl rfl hl.1 rfl (Nat.le_of_ble_eq_true rfl) dX10_late_2 ⟨Nat.zero_le _, Nat.zero_le _⟩ (fun H locs I => ?_)
  refine lv_if_eq (tgt := 19) hx hb dX10_late_5 (by decide) (fun c4 => ?_) (fun c4 => ?_)
  · have hf := i_t c4 hf
    refine lv_ldc hx hb hown (hts (.constant RX10 109 (-1000000001)) (by decide +kernel)) dX10_late_19 ?_
    exact j_iret I hx hb hr rfl hlk hf dX10_late_21
  · have hf := i_f c4 hf
    refine lv_iload_n hx hb dX10_late_8 rfl (lv_at hl 2 rfl) ?_
    refine lv_iconst (v := 0) hx hb dX10_late_9 (by decide) ?_
    refine lv_sipush (v := 200) hx hb dX10_late_10 (by decide) ?_
    obtain ⟨σ5, r6, h7, hf⟩ := o_obn hf
    refine j_iS (rest := []) I ⟨hx, hb, hml, hown, hts⟩ (ct_X10_isIn σ1 p1 0 200 _ h7) (va_cwS 3 hts gX10_late_X10_isIn rfl rfl rfl (by decide +kernel) ⟨Nat.le_of_ble_eq_true rfl, Nat.le_of_ble_eq_true rfl⟩) rfl hl.1 rfl (Nat.le_of_ble_eq_true rfl) dX10_late_13 ⟨Nat.zero_le _, Nat.zero_le _⟩ (fun H locs I => ?_)
    refine lv_if_ne (tgt := 22) hx hb dX10_late_16 (by decide) (fun c8 => ?_) (fun c8 => ?_)
    · have hf := i_f c8 hf
      refine lv_aload_n hx hb dX10_late_22 rfl (lv_at hl 0 rfl) ?_
      refine j_get I hx hb hts iw_X10_late_X10 hown 0 (by decide) (km0 g Y _) rfl 12 (by decide) (hts (.fieldLink RX10 37 "ReelNightModel" "lates" "[I") (by decide +kernel)) rfl dX10_late_23 ?_
      refine lv_iload_n hx hb dX10_late_26 rfl (lv_at hl 1 rfl) ?_
      obtain ⟨b9, hf⟩ := o_nb hf
      refine j_ald I hx hb 10 (by decide) (km10 g Y _) b9 dX10_late_27 ?_
      obtain ⟨v10, ev10, hf⟩ := o_itp hf
      refine top_eq ev10 ?_
      refine lv_istore_n (lv' := [(3, .int v10), (0, .ref (g 0)), (1, .int p0), (2, .int p1)]) hx hb dX10_late_28 rfl hl (by decide) rfl (fun ls hl => ?_)
      refine lv_aload_n hx hb dX10_late_29 rfl (lv_at hl 1 rfl) ?_
      refine j_get I hx hb hts iw_X10_late_X10 hown 0 (by decide) (km0 g Y _) rfl 12 (by decide) (hts (.fieldLink RX10 37 "ReelNightModel" "lates" "[I") (by decide +kernel)) rfl dX10_late_30 ?_
      refine lv_iload_n hx hb dX10_late_33 rfl (lv_at hl 2 rfl) ?_
      refine lv_iload_n hx hb dX10_late_34 rfl (lv_at hl 3 rfl) ?_
      obtain ⟨b11, hf⟩ := o_nb hf
      obtain ⟨σ12, eσ12, hf⟩ := o_stp hf
      refine j_ast I hx hb 10 (by decide) (km10 g Y) b11 eσ12 dX10_late_35 (fun H locs I => ?_)
      refine lv_iload_n hx hb dX10_late_36 rfl (lv_at hl 0 rfl) ?_
      exact j_iret I hx hb hr rfl hlk hf dX10_late_37
    · have hf := i_t c8 hf
      refine lv_ldc hx hb hown (hts (.constant RX10 109 (-1000000001)) (by decide +kernel)) dX10_late_19 ?_
      exact j_iret I hx hb hr rfl hlk hf dX10_late_21

theorem iw_X10_goOn_X10 : ∀ w ∈ u_ws RX10 TX10 37, w ∈ wsX10_goOn := fun _ h => List.mem_cons_of_mem _ (List.mem_append_right _ h)
set_option maxHeartbeats 4000000 in
set_option maxRecDepth 100000 in
theorem bX10_goOn_L18 {p : Program} {l : Launch} {e : Env} {s : State} {m : MethodId} {args : Array Value} {below : List Frame} {meth : Method} {c : Code} {D : va_G} {g : Nat → Nat} {Y : YT} {bP : Nat} {σ0 : St} {res : St × Int32} (C0 : MC p s m args meth c cX10_goOn 5 none RX10 wsX10_goOn) {K156 : St → Int32 → Option (St × Int32)} (hK156 : ∀ (σ : St) (a1 : Int32) (H : Heap) (locs : List Loc) (ls : Array Slot), K156 σ a1 = some res → JW D 27 g (KM g Y) Y bP (va_A (wd 27 g (KM g Y) σ0) s.heap.size) s σ H locs → lv_has ls 5 [(0, .ref (g 0)), (1, .int a1)] → W p l e (⟨3, 0, 0, 67⟩ : Room) s m args below meth c H locs 0 0 (MQ below (Qv D 27 g (KM g Y) Y σ0 res s.heap.size) args s 0 0 (va_A (wd 27 g (KM g Y) σ0) s.heap.size)) (F0 m 156 ls [])) : ∀ (n : Nat) (σ : St) (a1 : Int32) (a2 : Int32) (a3 : Int32) (H : Heap) (locs : List Loc) (ls : Array Slot), fX10_goOn_L18 K156 n σ a1 a2 a3 = some res → JW D 27 g (KM g Y) Y bP (va_A (wd 27 g (KM g Y) σ0) s.heap.size) s σ H locs → lv_has ls 5 [(0, .ref (g 0)), (1, .int a1), (2, .int a2), (3, .int a3)] → W p l e (⟨3, 0, 0, 67⟩ : Room) s m args below meth c H locs 0 0 (MQ below (Qv D 27 g (KM g Y) Y σ0 res s.heap.size) args s 0 0 (va_A (wd 27 g (KM g Y) σ0) s.heap.size)) (F0 m 18 ls []) := by
  have C0 := C0
  obtain ⟨hx, hb, hr, hml, hown, hts, hlk⟩ := id C0
  intro n
  induction n with
  | zero =>
    intro σ a1 a2 a3 H locs ls hf
    cases hf
  | succ n ih =>
    intro σ a1 a2 a3 H locs ls hf I hl
    rw [fX10_goOn_L18] at hf
    refine lv_iload_n hx hb dX10_goOn_18 rfl (lv_at hl 3 rfl) ?_
    refine lv_aload_n hx hb dX10_goOn_19 rfl (lv_at hl 0 rfl) ?_
    refine j_get I hx hb hts iw_X10_goOn_X10 hown 0 (by decide) (km0 g Y _) rfl 7 (by decide) (hts (.fieldLink RX10 106 "ReelNightModel" "reels" "I") (by decide +kernel)) rfl dX10_goOn_20 ?_
    refine lv_icmp_ge (tgt := 156) hx hb dX10_goOn_23 (by decide) (fun c5 => ?_) (fun c5 => ?_)
    · have hf := i_t c5 hf
      exact hK156 σ a1 _ _ _ hf I (lv_sub hl [0, 1] rfl)
    · have hf := i_f c5 hf
      refine lv_bipush (v := 8) hx hb dX10_goOn_26 (by decide) ?_
      refine lv_iload_n hx hb dX10_goOn_28 rfl (lv_at hl 1 rfl) ?_
      refine lv_imul hx hb dX10_goOn_29 ?_
      refine lv_iload_n hx hb dX10_goOn_30 rfl (lv_at hl 3 rfl) ?_
      refine lv_iadd hx hb dX10_goOn_31 ?_
      obtain ⟨v6, ev6, hf⟩ := o_itp hf
      refine top_eq ev6 ?_
      refine lv_istore (lv' := [(4, .int v6), (0, .ref (g 0)), (1, .int a1), (2, .int a2), (3, .int a3)]) hx hb dX10_goOn_32 hl (by decide) rfl (fun ls hl => ?_)
      refine lv_aload_n hx hb dX10_goOn_34 rfl (lv_at hl 1 rfl) ?_
      refine j_get I hx hb hts iw_X10_goOn_X10 hown 0 (by decide) (km0 g Y _) rfl 26 (by decide) (hts (.fieldLink RX10 78 "ReelNightModel" "comes" "[I") (by decide +kernel)) rfl dX10_goOn_35 ?_
      refine lv_iload hx hb dX10_goOn_38 (lv_at hl 0 rfl) ?_
      refine lv_iconst (v := 0) hx hb dX10_goOn_40 (by decide) ?_
      obtain ⟨b7, hf⟩ := o_nb hf
      obtain ⟨σ8, eσ8, hf⟩ := o_stp hf
      refine j_ast I hx hb 20 (by decide) (km20 g Y) b7 eσ8 dX10_goOn_41 (fun H locs I => ?_)
      refine lv_iload_n hx hb dX10_goOn_42 rfl (lv_at hl 2 rfl) ?_
      refine lv_if_le (tgt := 91) hx hb dX10_goOn_43 (by decide) (fun c9 => ?_) (fun c9 => ?_)
      · have hf := i_t c9 hf
        refine lv_aload_n hx hb dX10_goOn_91 rfl (lv_at hl 1 rfl) ?_
        refine j_get I hx hb hts iw_X10_goOn_X10 hown 0 (by decide) (km0 g Y _) rfl 27 (by decide) (hts (.fieldLink RX10 81 "ReelNightModel" "begin" "[I") (by decide +kernel)) rfl dX10_goOn_92 ?_
        refine lv_iload hx hb dX10_goOn_95 (lv_at hl 0 rfl) ?_
        refine lv_aload_n hx hb dX10_goOn_97 rfl (lv_at hl 1 rfl) ?_
        refine j_get I hx hb hts iw_X10_goOn_X10 hown 0 (by decide) (km0 g Y _) rfl 26 (by decide) (hts (.fieldLink RX10 78 "ReelNightModel" "comes" "[I") (by decide +kernel)) rfl dX10_goOn_98 ?_
        refine lv_iload hx hb dX10_goOn_101 (lv_at hl 0 rfl) ?_
        obtain ⟨b10, hf⟩ := o_nb hf
        refine j_ald I hx hb 20 (by decide) (km20 g Y _) b10 dX10_goOn_103 ?_
        refine lv_iload_n hx hb dX10_goOn_104 rfl (lv_at hl 3 rfl) ?_
        refine lv_icmp_le (tgt := 118) hx hb dX10_goOn_105 (by decide) (fun c11 => ?_) (fun c11 => ?_)
        · have hf := i_t c11 hf
          refine lv_iload_n hx hb dX10_goOn_118 rfl (lv_at hl 3 rfl) ?_
          obtain ⟨b12, hf⟩ := o_nb hf
          obtain ⟨σ13, eσ13, hf⟩ := o_stp hf
          refine j_ast I hx hb 21 (by decide) (km21 g Y) b12 eσ13 dX10_goOn_119 (fun H locs I => ?_)
          refine lv_aload_n hx hb dX10_goOn_120 rfl (lv_at hl 1 rfl) ?_
          refine j_get I hx hb hts iw_X10_goOn_X10 hown 0 (by decide) (km0 g Y _) rfl 28 (by decide) (hts (.fieldLink RX10 84 "ReelNightModel" "gaps" "[I") (by decide +kernel)) rfl dX10_goOn_121 ?_
          refine lv_iload hx hb dX10_goOn_124 (lv_at hl 0 rfl) ?_
          refine lv_aload_n hx hb dX10_goOn_126 rfl (lv_at hl 1 rfl) ?_
          refine j_get I hx hb hts iw_X10_goOn_X10 hown 0 (by decide) (km0 g Y _) rfl 27 (by decide) (hts (.fieldLink RX10 81 "ReelNightModel" "begin" "[I") (by decide +kernel)) rfl dX10_goOn_127 ?_
          refine lv_iload hx hb dX10_goOn_130 (lv_at hl 0 rfl) ?_
          obtain ⟨b14, hf⟩ := o_nb hf
          refine j_ald I hx hb 21 (by decide) (km21 g Y _) b14 dX10_goOn_132 ?_
          refine lv_iload_n hx hb dX10_goOn_133 rfl (lv_at hl 3 rfl) ?_
          refine lv_isub hx hb dX10_goOn_134 ?_
          obtain ⟨b15, hf⟩ := o_nb hf
          obtain ⟨σ16, eσ16, hf⟩ := o_stp hf
          refine j_ast I hx hb 22 (by decide) (km22 g Y) b15 eσ16 dX10_goOn_135 (fun H locs I => ?_)
          refine lv_aload_n hx hb dX10_goOn_136 rfl (lv_at hl 1 rfl) ?_
          refine j_get I hx hb hts iw_X10_goOn_X10 hown 0 (by decide) (km0 g Y _) rfl 27 (by decide) (hts (.fieldLink RX10 81 "ReelNightModel" "begin" "[I") (by decide +kernel)) rfl dX10_goOn_137 ?_
          refine lv_iload hx hb dX10_goOn_140 (lv_at hl 0 rfl) ?_
          obtain ⟨b17, hf⟩ := o_nb hf
          refine j_ald I hx hb 21 (by decide) (km21 g Y _) b17 dX10_goOn_142 ?_
          refine lv_aload_n hx hb dX10_goOn_143 rfl (lv_at hl 1 rfl) ?_
          refine lv_iload_n hx hb dX10_goOn_144 rfl (lv_at hl 4 rfl) ?_
          obtain ⟨σ18, r19, h20, hf⟩ := o_obn hf
          refine j_iV (rest := [.int (σ16 21 v6.toNatClampNeg)]) I ⟨hx, hb, hml, hown, hts⟩ (ct_X10_minutes σ16 a3 _ h20) (cwV 1 hts gX10_goOn_X10_minutes rfl rfl rfl (by decide +kernel) ⟨Nat.le_of_ble_eq_true rfl, Nat.le_of_ble_eq_true rfl⟩) (by decide) (km0 g Y _) rfl rfl hl.1 rfl (Nat.le_of_ble_eq_true rfl) dX10_goOn_145 ⟨Nat.zero_le _, Nat.zero_le _⟩ (fun H locs I => ?_)
          refine lv_iadd hx hb dX10_goOn_148 ?_
          obtain ⟨v21, ev21, hf⟩ := o_itp hf
          refine top_eq ev21 ?_
          refine lv_istore_n (lv' := [(2, .int v21), (4, .int v6), (0, .ref (g 0)), (1, .int a1), (3, .int a3)]) hx hb dX10_goOn_149 rfl hl (by decide) rfl (fun ls hl => ?_)
          refine lv_iinc (v := (a3 + 1)) (lv' := [(3, .int (a3 + 1)), (2, .int v21), (4, .int v6), (0, .ref (g 0)), (1, .int a1)]) hx hb dX10_goOn_150 hl (k := 4) rfl rfl (by decide) rfl (fun ls hl => ?_)
          refine lv_goto (tgt := 18) hx hb dX10_goOn_153 (by decide) ?_
          exact ih σ18 a1 v21 (a3 + 1) _ _ _ hf I (lv_sub hl [3, 4, 1, 0] rfl)
        · have hf := i_f c11 hf
          refine lv_aload_n hx hb dX10_goOn_108 rfl (lv_at hl 1 rfl) ?_
          refine j_get I hx hb hts iw_X10_goOn_X10 hown 0 (by decide) (km0 g Y _) rfl 26 (by decide) (hts (.fieldLink RX10 78 "ReelNightModel" "comes" "[I") (by decide +kernel)) rfl dX10_goOn_109 ?_
          refine lv_iload hx hb dX10_goOn_112 (lv_at hl 0 rfl) ?_
          obtain ⟨b22, hf⟩ := o_nb hf
          refine j_ald I hx hb 20 (by decide) (km20 g Y _) b22 dX10_goOn_114 ?_
          refine lv_goto (tgt := 119) hx hb dX10_goOn_115 (by decide) ?_
          obtain ⟨b23, hf⟩ := o_nb hf
          obtain ⟨σ24, eσ24, hf⟩ := o_stp hf
          refine j_ast I hx hb 21 (by decide) (km21 g Y) b23 eσ24 dX10_goOn_119 (fun H locs I => ?_)
          refine lv_aload_n hx hb dX10_goOn_120 rfl (lv_at hl 1 rfl) ?_
          refine j_get I hx hb hts iw_X10_goOn_X10 hown 0 (by decide) (km0 g Y _) rfl 28 (by decide) (hts (.fieldLink RX10 84 "ReelNightModel" "gaps" "[I") (by decide +kernel)) rfl dX10_goOn_121 ?_
          refine lv_iload hx hb dX10_goOn_124 (lv_at hl 0 rfl) ?_
          refine lv_aload_n hx hb dX10_goOn_126 rfl (lv_at hl 1 rfl) ?_
          refine j_get I hx hb hts iw_X10_goOn_X10 hown 0 (by decide) (km0 g Y _) rfl 27 (by decide) (hts (.fieldLink RX10 81 "ReelNightModel" "begin" "[I") (by decide +kernel)) rfl dX10_goOn_127 ?_
          refine lv_iload hx hb dX10_goOn_130 (lv_at hl 0 rfl) ?_
          obtain ⟨b25, hf⟩ := o_nb hf
          refine j_ald I hx hb 21 (by decide) (km21 g Y _) b25 dX10_goOn_132 ?_
          refine lv_iload_n hx hb dX10_goOn_133 rfl (lv_at hl 3 rfl) ?_
          refine lv_isub hx hb dX10_goOn_134 ?_
          obtain ⟨b26, hf⟩ := o_nb hf
          obtain ⟨σ27, eσ27, hf⟩ := o_stp hf
          refine j_ast I hx hb 22 (by decide) (km22 g Y) b26 eσ27 dX10_goOn_135 (fun H locs I => ?_)
          refine lv_aload_n hx hb dX10_goOn_136 rfl (lv_at hl 1 rfl) ?_
          refine j_get I hx hb hts iw_X10_goOn_X10 hown 0 (by decide) (km0 g Y _) rfl 27 (by decide) (hts (.fieldLink RX10 81 "ReelNightModel" "begin" "[I") (by decide +kernel)) rfl dX10_goOn_137 ?_
          refine lv_iload hx hb dX10_goOn_140 (lv_at hl 0 rfl) ?_
          obtain ⟨b28, hf⟩ := o_nb hf
          refine j_ald I hx hb 21 (by decide) (km21 g Y _) b28 dX10_goOn_142 ?_
          refine lv_aload_n hx hb dX10_goOn_143 rfl (lv_at hl 1 rfl) ?_
          refine lv_iload_n hx hb dX10_goOn_144 rfl (lv_at hl 4 rfl) ?_
          obtain ⟨σ29, r30, h31, hf⟩ := o_obn hf
          refine j_iV (rest := [.int (σ27 21 v6.toNatClampNeg)]) I ⟨hx, hb, hml, hown, hts⟩ (ct_X10_minutes σ27 a3 _ h31) (cwV 1 hts gX10_goOn_X10_minutes rfl rfl rfl (by decide +kernel) ⟨Nat.le_of_ble_eq_true rfl, Nat.le_of_ble_eq_true rfl⟩) (by decide) (km0 g Y _) rfl rfl hl.1 rfl (Nat.le_of_ble_eq_true rfl) dX10_goOn_145 ⟨Nat.zero_le _, Nat.zero_le _⟩ (fun H locs I => ?_)
          refine lv_iadd hx hb dX10_goOn_148 ?_
          obtain ⟨v32, ev32, hf⟩ := o_itp hf
          refine top_eq ev32 ?_
          refine lv_istore_n (lv' := [(2, .int v32), (4, .int v6), (0, .ref (g 0)), (1, .int a1), (3, .int a3)]) hx hb dX10_goOn_149 rfl hl (by decide) rfl (fun ls hl => ?_)
          refine lv_iinc (v := (a3 + 1)) (lv' := [(3, .int (a3 + 1)), (2, .int v32), (4, .int v6), (0, .ref (g 0)), (1, .int a1)]) hx hb dX10_goOn_150 hl (k := 4) rfl rfl (by decide) rfl (fun ls hl => ?_)
          refine lv_goto (tgt := 18) hx hb dX10_goOn_153 (by decide) ?_
          exact ih σ29 a1 v32 (a3 + 1) _ _ _ hf I (lv_sub hl [3, 4, 1, 0] rfl)
      · have hf := i_f c9 hf
        refine lv_aload_n hx hb dX10_goOn_46 rfl (lv_at hl 1 rfl) ?_
        refine j_get I hx hb hts iw_X10_goOn_X10 hown 0 (by decide) (km0 g Y _) rfl 26 (by decide) (hts (.fieldLink RX10 78 "ReelNightModel" "comes" "[I") (by decide +kernel)) rfl dX10_goOn_47 ?_
        refine lv_iload hx hb dX10_goOn_50 (lv_at hl 0 rfl) ?_
        refine lv_aload_n hx hb dX10_goOn_52 rfl (lv_at hl 1 rfl) ?_
        refine j_get I hx hb hts iw_X10_goOn_X10 hown 0 (by decide) (km0 g Y _) rfl 27 (by decide) (hts (.fieldLink RX10 81 "ReelNightModel" "begin" "[I") (by decide +kernel)) rfl dX10_goOn_53 ?_
        refine lv_iload hx hb dX10_goOn_56 (lv_at hl 0 rfl) ?_
        refine lv_bipush (v := 8) hx hb dX10_goOn_58 (by decide) ?_
        refine lv_isub hx hb dX10_goOn_60 ?_
        obtain ⟨b33, hf⟩ := o_nb hf
        refine j_ald I hx hb 21 (by decide) (km21 g Y _) b33 dX10_goOn_61 ?_
        refine lv_aload_n hx hb dX10_goOn_62 rfl (lv_at hl 1 rfl) ?_
        refine lv_iload_n hx hb dX10_goOn_63 rfl (lv_at hl 4 rfl) ?_
        obtain ⟨σ34, r35, h36, hf⟩ := o_obn hf
        refine j_iV (rest := [.int (σ8 21 (v6 - 8).toNatClampNeg), .int v6, .ref (g 20)]) I ⟨hx, hb, hml, hown, hts⟩ (ct_X10_minutes σ8 a3 _ h36) (cwV 1 hts gX10_goOn_X10_minutes rfl rfl rfl (by decide +kernel) ⟨Nat.le_of_ble_eq_true rfl, Nat.le_of_ble_eq_true rfl⟩) (by decide) (km0 g Y _) rfl rfl hl.1 rfl (Nat.le_of_ble_eq_true rfl) dX10_goOn_64 ⟨Nat.zero_le _, Nat.zero_le _⟩ (fun H locs I => ?_)
        refine lv_iadd hx hb dX10_goOn_67 ?_
        refine lv_aload_n hx hb dX10_goOn_68 rfl (lv_at hl 1 rfl) ?_
        refine lv_iload_n hx hb dX10_goOn_69 rfl (lv_at hl 2 rfl) ?_
        obtain ⟨σ37, r38, h39, hf⟩ := o_obn hf
        refine j_iV (rest := [.int ((σ8 21 (v6 - 8).toNatClampNeg) + r35), .int v6, .ref (g 20)]) I ⟨hx, hb, hml, hown, hts⟩ (ct_X10_wayTo σ34 a1 _ h39) (cwV 1 hts gX10_goOn_X10_wayTo rfl rfl rfl (by decide +kernel) ⟨Nat.le_of_ble_eq_true rfl, Nat.le_of_ble_eq_true rfl⟩) (by decide) (km0 g Y _) rfl rfl hl.1 rfl (Nat.le_of_ble_eq_true rfl) dX10_goOn_70 ⟨Nat.zero_le _, Nat.zero_le _⟩ (fun H locs I => ?_)
        refine lv_iadd hx hb dX10_goOn_73 ?_
        refine lv_aload_n hx hb dX10_goOn_74 rfl (lv_at hl 1 rfl) ?_
        refine j_get I hx hb hts iw_X10_goOn_X10 hown 0 (by decide) (km0 g Y _) rfl 12 (by decide) (hts (.fieldLink RX10 37 "ReelNightModel" "lates" "[I") (by decide +kernel)) rfl dX10_goOn_75 ?_
        refine lv_iload_n hx hb dX10_goOn_78 rfl (lv_at hl 2 rfl) ?_
        refine lv_iconst (v := 1) hx hb dX10_goOn_79 (by decide) ?_
        refine lv_isub hx hb dX10_goOn_80 ?_
        refine lv_aload_n hx hb dX10_goOn_81 rfl (lv_at hl 1 rfl) ?_
        refine j_get I hx hb hts iw_X10_goOn_X10 hown 0 (by decide) (km0 g Y _) rfl 7 (by decide) (hts (.fieldLink RX10 106 "ReelNightModel" "reels" "I") (by decide +kernel)) rfl dX10_goOn_82 ?_
        refine lv_imul hx hb dX10_goOn_85 ?_
        refine lv_iload_n hx hb dX10_goOn_86 rfl (lv_at hl 4 rfl) ?_
        refine lv_iadd hx hb dX10_goOn_87 ?_
        obtain ⟨b40, hf⟩ := o_nb hf
        refine j_ald I hx hb 10 (by decide) (km10 g Y _) b40 dX10_goOn_88 ?_
        refine lv_iadd hx hb dX10_goOn_89 ?_
        obtain ⟨b41, hf⟩ := o_nb hf
        obtain ⟨σ42, eσ42, hf⟩ := o_stp hf
        refine j_ast I hx hb 20 (by decide) (km20 g Y) b41 eσ42 dX10_goOn_90 (fun H locs I => ?_)
        refine lv_aload_n hx hb dX10_goOn_91 rfl (lv_at hl 1 rfl) ?_
        refine j_get I hx hb hts iw_X10_goOn_X10 hown 0 (by decide) (km0 g Y _) rfl 27 (by decide) (hts (.fieldLink RX10 81 "ReelNightModel" "begin" "[I") (by decide +kernel)) rfl dX10_goOn_92 ?_
        refine lv_iload hx hb dX10_goOn_95 (lv_at hl 0 rfl) ?_
        refine lv_aload_n hx hb dX10_goOn_97 rfl (lv_at hl 1 rfl) ?_
        refine j_get I hx hb hts iw_X10_goOn_X10 hown 0 (by decide) (km0 g Y _) rfl 26 (by decide) (hts (.fieldLink RX10 78 "ReelNightModel" "comes" "[I") (by decide +kernel)) rfl dX10_goOn_98 ?_
        refine lv_iload hx hb dX10_goOn_101 (lv_at hl 0 rfl) ?_
        obtain ⟨b43, hf⟩ := o_nb hf
        refine j_ald I hx hb 20 (by decide) (km20 g Y _) b43 dX10_goOn_103 ?_
        refine lv_iload_n hx hb dX10_goOn_104 rfl (lv_at hl 3 rfl) ?_
        refine lv_icmp_le (tgt := 118) hx hb dX10_goOn_105 (by decide) (fun c44 => ?_) (fun c44 => ?_)
        · have hf := i_t c44 hf
          refine lv_iload_n hx hb dX10_goOn_118 rfl (lv_at hl 3 rfl) ?_
          obtain ⟨b45, hf⟩ := o_nb hf
          obtain ⟨σ46, eσ46, hf⟩ := o_stp hf
          refine j_ast I hx hb 21 (by decide) (km21 g Y) b45 eσ46 dX10_goOn_119 (fun H locs I => ?_)
          refine lv_aload_n hx hb dX10_goOn_120 rfl (lv_at hl 1 rfl) ?_
          refine j_get I hx hb hts iw_X10_goOn_X10 hown 0 (by decide) (km0 g Y _) rfl 28 (by decide) (hts (.fieldLink RX10 84 "ReelNightModel" "gaps" "[I") (by decide +kernel)) rfl dX10_goOn_121 ?_
          refine lv_iload hx hb dX10_goOn_124 (lv_at hl 0 rfl) ?_
          refine lv_aload_n hx hb dX10_goOn_126 rfl (lv_at hl 1 rfl) ?_
          refine j_get I hx hb hts iw_X10_goOn_X10 hown 0 (by decide) (km0 g Y _) rfl 27 (by decide) (hts (.fieldLink RX10 81 "ReelNightModel" "begin" "[I") (by decide +kernel)) rfl dX10_goOn_127 ?_
          refine lv_iload hx hb dX10_goOn_130 (lv_at hl 0 rfl) ?_
          obtain ⟨b47, hf⟩ := o_nb hf
          refine j_ald I hx hb 21 (by decide) (km21 g Y _) b47 dX10_goOn_132 ?_
          refine lv_iload_n hx hb dX10_goOn_133 rfl (lv_at hl 3 rfl) ?_
          refine lv_isub hx hb dX10_goOn_134 ?_
          obtain ⟨b48, hf⟩ := o_nb hf
          obtain ⟨σ49, eσ49, hf⟩ := o_stp hf
          refine j_ast I hx hb 22 (by decide) (km22 g Y) b48 eσ49 dX10_goOn_135 (fun H locs I => ?_)
          refine lv_aload_n hx hb dX10_goOn_136 rfl (lv_at hl 1 rfl) ?_
          refine j_get I hx hb hts iw_X10_goOn_X10 hown 0 (by decide) (km0 g Y _) rfl 27 (by decide) (hts (.fieldLink RX10 81 "ReelNightModel" "begin" "[I") (by decide +kernel)) rfl dX10_goOn_137 ?_
          refine lv_iload hx hb dX10_goOn_140 (lv_at hl 0 rfl) ?_
          obtain ⟨b50, hf⟩ := o_nb hf
          refine j_ald I hx hb 21 (by decide) (km21 g Y _) b50 dX10_goOn_142 ?_
          refine lv_aload_n hx hb dX10_goOn_143 rfl (lv_at hl 1 rfl) ?_
          refine lv_iload_n hx hb dX10_goOn_144 rfl (lv_at hl 4 rfl) ?_
          obtain ⟨σ51, r52, h53, hf⟩ := o_obn hf
          refine j_iV (rest := [.int (σ49 21 v6.toNatClampNeg)]) I ⟨hx, hb, hml, hown, hts⟩ (ct_X10_minutes σ49 a3 _ h53) (cwV 1 hts gX10_goOn_X10_minutes rfl rfl rfl (by decide +kernel) ⟨Nat.le_of_ble_eq_true rfl, Nat.le_of_ble_eq_true rfl⟩) (by decide) (km0 g Y _) rfl rfl hl.1 rfl (Nat.le_of_ble_eq_true rfl) dX10_goOn_145 ⟨Nat.zero_le _, Nat.zero_le _⟩ (fun H locs I => ?_)
          refine lv_iadd hx hb dX10_goOn_148 ?_
          obtain ⟨v54, ev54, hf⟩ := o_itp hf
          refine top_eq ev54 ?_
          refine lv_istore_n (lv' := [(2, .int v54), (4, .int v6), (0, .ref (g 0)), (1, .int a1), (3, .int a3)]) hx hb dX10_goOn_149 rfl hl (by decide) rfl (fun ls hl => ?_)
          refine lv_iinc (v := (a3 + 1)) (lv' := [(3, .int (a3 + 1)), (2, .int v54), (4, .int v6), (0, .ref (g 0)), (1, .int a1)]) hx hb dX10_goOn_150 hl (k := 4) rfl rfl (by decide) rfl (fun ls hl => ?_)
          refine lv_goto (tgt := 18) hx hb dX10_goOn_153 (by decide) ?_
          exact ih σ51 a1 v54 (a3 + 1) _ _ _ hf I (lv_sub hl [3, 4, 1, 0] rfl)
        · have hf := i_f c44 hf
          refine lv_aload_n hx hb dX10_goOn_108 rfl (lv_at hl 1 rfl) ?_
          refine j_get I hx hb hts iw_X10_goOn_X10 hown 0 (by decide) (km0 g Y _) rfl 26 (by decide) (hts (.fieldLink RX10 78 "ReelNightModel" "comes" "[I") (by decide +kernel)) rfl dX10_goOn_109 ?_
          refine lv_iload hx hb dX10_goOn_112 (lv_at hl 0 rfl) ?_
          obtain ⟨b55, hf⟩ := o_nb hf
          refine j_ald I hx hb 20 (by decide) (km20 g Y _) b55 dX10_goOn_114 ?_
          refine lv_goto (tgt := 119) hx hb dX10_goOn_115 (by decide) ?_
          obtain ⟨b56, hf⟩ := o_nb hf
          obtain ⟨σ57, eσ57, hf⟩ := o_stp hf
          refine j_ast I hx hb 21 (by decide) (km21 g Y) b56 eσ57 dX10_goOn_119 (fun H locs I => ?_)
          refine lv_aload_n hx hb dX10_goOn_120 rfl (lv_at hl 1 rfl) ?_
          refine j_get I hx hb hts iw_X10_goOn_X10 hown 0 (by decide) (km0 g Y _) rfl 28 (by decide) (hts (.fieldLink RX10 84 "ReelNightModel" "gaps" "[I") (by decide +kernel)) rfl dX10_goOn_121 ?_
          refine lv_iload hx hb dX10_goOn_124 (lv_at hl 0 rfl) ?_
          refine lv_aload_n hx hb dX10_goOn_126 rfl (lv_at hl 1 rfl) ?_
          refine j_get I hx hb hts iw_X10_goOn_X10 hown 0 (by decide) (km0 g Y _) rfl 27 (by decide) (hts (.fieldLink RX10 81 "ReelNightModel" "begin" "[I") (by decide +kernel)) rfl dX10_goOn_127 ?_
          refine lv_iload hx hb dX10_goOn_130 (lv_at hl 0 rfl) ?_
          obtain ⟨b58, hf⟩ := o_nb hf
          refine j_ald I hx hb 21 (by decide) (km21 g Y _) b58 dX10_goOn_132 ?_
          refine lv_iload_n hx hb dX10_goOn_133 rfl (lv_at hl 3 rfl) ?_
          refine lv_isub hx hb dX10_goOn_134 ?_
          obtain ⟨b59, hf⟩ := o_nb hf
          obtain ⟨σ60, eσ60, hf⟩ := o_stp hf
          refine j_ast I hx hb 22 (by decide) (km22 g Y) b59 eσ60 dX10_goOn_135 (fun H locs I => ?_)
          refine lv_aload_n hx hb dX10_goOn_136 rfl (lv_at hl 1 rfl) ?_
          refine j_get I hx hb hts iw_X10_goOn_X10 hown 0 (by decide) (km0 g Y _) rfl 27 (by decide) (hts (.fieldLink RX10 81 "ReelNightModel" "begin" "[I") (by decide +kernel)) rfl dX10_goOn_137 ?_
          refine lv_iload hx hb dX10_goOn_140 (lv_at hl 0 rfl) ?_
          obtain ⟨b61, hf⟩ := o_nb hf
          refine j_ald I hx hb 21 (by decide) (km21 g Y _) b61 dX10_goOn_142 ?_
          refine lv_aload_n hx hb dX10_goOn_143 rfl (lv_at hl 1 rfl) ?_
          refine lv_iload_n hx hb dX10_goOn_144 rfl (lv_at hl 4 rfl) ?_
          obtain ⟨σ62, r63, h64, hf⟩ := o_obn hf
          refine j_iV (rest := [.int (σ60 21 v6.toNatClampNeg)]) I ⟨hx, hb, hml, hown, hts⟩ (ct_X10_minutes σ60 a3 _ h64) (cwV 1 hts gX10_goOn_X10_minutes rfl rfl rfl (by decide +kernel) ⟨Nat.le_of_ble_eq_true rfl, Nat.le_of_ble_eq_true rfl⟩) (by decide) (km0 g Y _) rfl rfl hl.1 rfl (Nat.le_of_ble_eq_true rfl) dX10_goOn_145 ⟨Nat.zero_le _, Nat.zero_le _⟩ (fun H locs I => ?_)
          refine lv_iadd hx hb dX10_goOn_148 ?_
          obtain ⟨v65, ev65, hf⟩ := o_itp hf
          refine top_eq ev65 ?_
          refine lv_istore_n (lv' := [(2, .int v65), (4, .int v6), (0, .ref (g 0)), (1, .int a1), (3, .int a3)]) hx hb dX10_goOn_149 rfl hl (by decide) rfl (fun ls hl => ?_)
          refine lv_iinc (v := (a3 + 1)) (lv' := [(3, .int (a3 + 1)), (2, .int v65), (4, .int v6), (0, .ref (g 0)), (1, .int a1)]) hx hb dX10_goOn_150 hl (k := 4) rfl rfl (by decide) rfl (fun ls hl => ?_)
          refine lv_goto (tgt := 18) hx hb dX10_goOn_153 (by decide) ?_
          exact ih σ62 a1 v65 (a3 + 1) _ _ _ hf I (lv_sub hl [3, 4, 1, 0] rfl)
set_option maxHeartbeats 4000000 in
set_option maxRecDepth 100000 in
theorem bX10_goOn_L2 {p : Program} {l : Launch} {e : Env} {s : State} {m : MethodId} {args : Array Value} {below : List Frame} {meth : Method} {c : Code} {D : va_G} {g : Nat → Nat} {Y : YT} {bP : Nat} {σ0 : St} {res : St × Int32} (C0 : MC p s m args meth c cX10_goOn 5 none RX10 wsX10_goOn) : ∀ (n : Nat) (σ : St) (a1 : Int32) (H : Heap) (locs : List Loc) (ls : Array Slot), fX10_goOn_L2 n σ a1 = some res → JW D 27 g (KM g Y) Y bP (va_A (wd 27 g (KM g Y) σ0) s.heap.size) s σ H locs → lv_has ls 5 [(0, .ref (g 0)), (1, .int a1)] → W p l e (⟨3, 0, 0, 67⟩ : Room) s m args below meth c H locs 0 0 (MQ below (Qv D 27 g (KM g Y) Y σ0 res s.heap.size) args s 0 0 (va_A (wd 27 g (KM g Y) σ0) s.heap.size)) (F0 m 2 ls []) := by
  have C0 := C0
  obtain ⟨hx, hb, hr, hml, hown, hts, hlk⟩ := id C0
  intro n
  induction n with
  | zero =>
    intro σ a1 H locs ls hf
    cases hf
  | succ n ih =>
    intro σ a1 H locs ls hf I hl
    rw [fX10_goOn_L2] at hf
    refine lv_iload_n hx hb dX10_goOn_2 rfl (lv_at hl 1 rfl) ?_
    refine lv_aload_n hx hb dX10_goOn_3 rfl (lv_at hl 0 rfl) ?_
    refine j_get I hx hb hts iw_X10_goOn_X10 hown 0 (by decide) (km0 g Y _) rfl 10 (by decide) (hts (.fieldLink RX10 118 "ReelNightModel" "many" "I") (by decide +kernel)) rfl dX10_goOn_4 ?_
    refine lv_icmp_ge (tgt := 162) hx hb dX10_goOn_7 (by decide) (fun c1 => ?_) (fun c1 => ?_)
    · have hf := i_t c1 hf
      exact j_vret I hx hb hr hlk hf dX10_goOn_162
    · have hf := i_f c1 hf
      refine lv_aload_n hx hb dX10_goOn_10 rfl (lv_at hl 0 rfl) ?_
      refine lv_iload_n hx hb dX10_goOn_11 rfl (lv_at hl 1 rfl) ?_
      obtain ⟨σ2, r3, h4, hf⟩ := o_obn hf
      refine j_iV (rest := []) I ⟨hx, hb, hml, hown, hts⟩ (ct_X10_startOf σ a1 _ h4) (cwV 1 hts gX10_goOn_X10_startOf rfl rfl rfl (by decide +kernel) ⟨Nat.le_of_ble_eq_true rfl, Nat.le_of_ble_eq_true rfl⟩) (by decide) (km0 g Y _) rfl rfl hl.1 rfl (Nat.le_of_ble_eq_true rfl) dX10_goOn_12 ⟨Nat.zero_le _, Nat.zero_le _⟩ (fun H locs I => ?_)
      refine lv_istore_n (lv' := [(2, .int r3), (0, .ref (g 0)), (1, .int a1)]) hx hb dX10_goOn_15 rfl hl (by decide) rfl (fun ls hl => ?_)
      refine lv_iconst (v := 0) hx hb dX10_goOn_16 (by decide) ?_
      refine lv_istore_n (lv' := [(3, .int 0), (2, .int r3), (0, .ref (g 0)), (1, .int a1)]) hx hb dX10_goOn_17 rfl hl (by decide) rfl (fun ls hl => ?_)
      refine bX10_goOn_L18 C0 ?_ 50 σ2 a1 r3 0 _ _ _ hf I (lv_sub hl [2, 3, 1, 0] rfl)
      · intro σ66 a67 H locs ls hf I hl
        refine lv_iinc (v := (a67 + 1)) (lv' := [(1, .int (a67 + 1)), (0, .ref (g 0))]) hx hb dX10_goOn_156 hl (k := 1) rfl rfl (by decide) rfl (fun ls hl => ?_)
        refine lv_goto (tgt := 2) hx hb dX10_goOn_159 (by decide) ?_
        exact ih σ66 (a67 + 1) _ _ _ hf I (lv_sub hl [1, 0] rfl)
set_option maxHeartbeats 4000000 in
set_option maxRecDepth 100000 in
theorem ct_X10_goOn {l : Launch} {D : va_G} {g : Nat → Nat} {Y : YT} {bP : Nat} (σ : St) (res : St × Int32) (hf : fX10_goOn σ = some res) : Cv l yX10_goOn wsX10_goOn ⟨3, 0, 0, 67⟩ D 27 g (KM g Y) Y bP [.ref (g 0)] σ res := by
  intro sz
  refine Met.ofW (cc := cX10_goOn) (maxL := 5) (ret := none) (by decide) rfl ?_
  intro p e s m args below meth c s₁ B hml hv
  obtain ⟨rfl, rfl, I⟩ := j_start hv
  have C0 : MC p s m _ meth c cX10_goOn 5 none RX10 wsX10_goOn := ⟨B.exec, B.bytes, B.returns, hml, findClass_of_methodNamed B.named, atoms_spec (ws := wsX10_goOn) B.pre, B.notSynchronized⟩
  obtain ⟨hx, hb, hr, hml, hown, hts, hlk⟩ := id C0
  have hl := lv_entry ([.ref (g 0)]) (n := 5) (Nat.le_of_ble_eq_true rfl)
  rw [lg_entry_eq]
  generalize (lg_sl ([.ref (g 0)]) ++ List.replicate (5 - (lg_sl ([.ref (g 0)])).length) Slot.unset).toArray = ls at hl ⊢
  have hl : lv_has ls 5 [(0, .ref (g 0))] := hl
  rw [fX10_goOn] at hf
  refine lv_iconst (v := 0) hx hb dX10_goOn_0 (by decide) ?_
  refine lv_istore_n (lv' := [(1, .int 0), (0, .ref (g 0))]) hx hb dX10_goOn_1 rfl hl (by decide) rfl (fun ls hl => ?_)
  refine bX10_goOn_L2 C0 50 σ 0 _ _ _ hf I (lv_sub hl [1, 0] rfl)

theorem iw_X10_begins_X10 : ∀ w ∈ u_ws RX10 TX10 37, w ∈ wsX10_begins := fun _ h => List.mem_cons_of_mem _ (List.mem_append_right _ h)
set_option maxHeartbeats 4000000 in
set_option maxRecDepth 100000 in
theorem ct_X10_begins {l : Launch} {D : va_G} {g : Nat → Nat} {Y : YT} {bP : Nat} (σ : St) (p0 : Int32) (p1 : Int32) (res : St × Int32) (hf : fX10_begins σ p0 p1 = some res) : Ci l yX10_begins wsX10_begins ⟨4, 0, 0, 91⟩ D 27 g (KM g Y) Y bP [.ref (g 0), .int p0, .int p1] σ res := by
  intro sz
  refine Met.ofW (cc := cX10_begins) (maxL := 3) (ret := (some .int)) (by decide) rfl ?_
  intro p e s m args below meth c s₁ B hml hv
  obtain ⟨rfl, rfl, I⟩ := j_start hv
  have C0 : MC p s m _ meth c cX10_begins 3 (some .int) RX10 wsX10_begins := ⟨B.exec, B.bytes, B.returns, hml, findClass_of_methodNamed B.named, atoms_spec (ws := wsX10_begins) B.pre, B.notSynchronized⟩
  obtain ⟨hx, hb, hr, hml, hown, hts, hlk⟩ := id C0
  have hl := lv_entry ([.ref (g 0), .int p0, .int p1]) (n := 3) (Nat.le_of_ble_eq_true rfl)
  rw [lg_entry_eq]
  generalize (lg_sl ([.ref (g 0), .int p0, .int p1]) ++ List.replicate (3 - (lg_sl ([.ref (g 0), .int p0, .int p1])).length) Slot.unset).toArray = ls at hl ⊢
  have hl : lv_has ls 3 [(0, .ref (g 0)), (1, .int p0), (2, .int p1)] := hl
  rw [fX10_begins] at hf
  refine lv_aload_n hx hb dX10_begins_0 rfl (lv_at hl 0 rfl) ?_
  refine lv_iload_n hx hb dX10_begins_1 rfl (lv_at hl 1 rfl) ?_
  obtain ⟨σ1, r2, h3, hf⟩ := o_obn hf
  refine j_iV (rest := []) I ⟨hx, hb, hml, hown, hts⟩ (ct_X10_isPlace σ p0 _ h3) (cwV 1 hts gX10_begins_X10_isPlace rfl rfl rfl (by decide +kernel) ⟨Nat.le_of_ble_eq_true rfl, Nat.le_of_ble_eq_true rfl⟩) (by decide) (km0 g Y _) rfl rfl hl.1 rfl (Nat.le_of_ble_eq_true rfl) dX10_begins_2 ⟨Nat.zero_le _, Nat.zero_le _⟩ (fun H locs I => ?_)
  refine lv_if_eq (tgt := 16) hx hb dX10_begins_5 (by decide) (fun c4 => ?_) (fun c4 => ?_)
  · have hf := i_t c4 hf
    refine lv_ldc hx hb hown (hts (.constant RX10 109 (-1000000001)) (by decide +kernel)) dX10_begins_16 ?_
    exact j_iret I hx hb hr rfl hlk hf dX10_begins_18
  · have hf := i_f c4 hf
    refine lv_aload_n hx hb dX10_begins_8 rfl (lv_at hl 0 rfl) ?_
    refine lv_iload_n hx hb dX10_begins_9 rfl (lv_at hl 2 rfl) ?_
    obtain ⟨σ5, r6, h7, hf⟩ := o_obn hf
    refine j_iV (rest := []) I ⟨hx, hb, hml, hown, hts⟩ (ct_X10_isReel σ1 p1 _ h7) (cwV 1 hts gX10_begins_X10_isReel rfl rfl rfl (by decide +kernel) ⟨Nat.le_of_ble_eq_true rfl, Nat.le_of_ble_eq_true rfl⟩) (by decide) (km0 g Y _) rfl rfl hl.1 rfl (Nat.le_of_ble_eq_true rfl) dX10_begins_10 ⟨Nat.zero_le _, Nat.zero_le _⟩ (fun H locs I => ?_)
    refine lv_if_ne (tgt := 19) hx hb dX10_begins_13 (by decide) (fun c8 => ?_) (fun c8 => ?_)
    · have hf := i_f c8 hf
      refine lv_aload_n hx hb dX10_begins_19 rfl (lv_at hl 0 rfl) ?_
      obtain ⟨σ9, r10, h11, hf⟩ := o_obn hf
      refine j_vV (rest := []) I ⟨hx, hb, hml, hown, hts⟩ (ct_X10_goOn σ5 _ h11) (cwV 0 hts gX10_begins_X10_goOn rfl rfl rfl (by decide +kernel) ⟨Nat.le_of_ble_eq_true rfl, Nat.le_of_ble_eq_true rfl⟩) (by decide) (km0 g Y _) rfl rfl hl.1 rfl (Nat.le_of_ble_eq_true rfl) dX10_begins_20 ⟨Nat.zero_le _, Nat.zero_le _⟩ (fun H locs I => ?_)
      refine lv_aload_n hx hb dX10_begins_23 rfl (lv_at hl 0 rfl) ?_
      refine j_get I hx hb hts iw_X10_begins_X10 hown 0 (by decide) (km0 g Y _) rfl 27 (by decide) (hts (.fieldLink RX10 81 "ReelNightModel" "begin" "[I") (by decide +kernel)) rfl dX10_begins_24 ?_
      refine lv_bipush (v := 8) hx hb dX10_begins_27 (by decide) ?_
      refine lv_iload_n hx hb dX10_begins_29 rfl (lv_at hl 1 rfl) ?_
      refine lv_imul hx hb dX10_begins_30 ?_
      refine lv_iload_n hx hb dX10_begins_31 rfl (lv_at hl 2 rfl) ?_
      refine lv_iadd hx hb dX10_begins_32 ?_
      obtain ⟨b12, hf⟩ := o_nb hf
      refine j_ald I hx hb 21 (by decide) (km21 g Y _) b12 dX10_begins_33 ?_
      exact j_iret I hx hb hr rfl hlk hf dX10_begins_34
    · have hf := i_t c8 hf
      refine lv_ldc hx hb hown (hts (.constant RX10 109 (-1000000001)) (by decide +kernel)) dX10_begins_16 ?_
      exact j_iret I hx hb hr rfl hlk hf dX10_begins_18

theorem iw_X10_waited_X10 : ∀ w ∈ u_ws RX10 TX10 37, w ∈ wsX10_waited := fun _ h => List.mem_cons_of_mem _ (List.mem_append_right _ h)
set_option maxHeartbeats 4000000 in
set_option maxRecDepth 100000 in
theorem bX10_waited_L19 {p : Program} {l : Launch} {e : Env} {s : State} {m : MethodId} {args : Array Value} {below : List Frame} {meth : Method} {c : Code} {D : va_G} {g : Nat → Nat} {Y : YT} {bP : Nat} {σ0 : St} {res : St × Int32} (C0 : MC p s m args meth c cX10_waited 5 (some .int) RX10 wsX10_waited) : ∀ (n : Nat) (σ : St) (a1 : Int32) (a2 : Int32) (a3 : Int32) (H : Heap) (locs : List Loc) (ls : Array Slot), fX10_waited_L19 n σ a1 a2 a3 = some res → JW D 27 g (KM g Y) Y bP (va_A (wd 27 g (KM g Y) σ0) s.heap.size) s σ H locs → lv_has ls 5 [(0, .ref (g 0)), (1, .int a1), (2, .int a2), (3, .int a3)] → W p l e (⟨4, 0, 0, 91⟩ : Room) s m args below meth c H locs 0 0 (MQ below (Qi D 27 g (KM g Y) Y σ0 res s.heap.size) args s 0 0 (va_A (wd 27 g (KM g Y) σ0) s.heap.size)) (F0 m 19 ls []) := by
  have C0 := C0
  obtain ⟨hx, hb, hr, hml, hown, hts, hlk⟩ := id C0
  intro n
  induction n with
  | zero =>
    intro σ a1 a2 a3 H locs ls hf
    cases hf
  | succ n ih =>
    intro σ a1 a2 a3 H locs ls hf I hl
    rw [fX10_waited_L19] at hf
    refine lv_iload_n hx hb dX10_waited_19 rfl (lv_at hl 3 rfl) ?_
    refine lv_aload_n hx hb dX10_waited_20 rfl (lv_at hl 0 rfl) ?_
    refine j_get I hx hb hts iw_X10_waited_X10 hown 0 (by decide) (km0 g Y _) rfl 7 (by decide) (hts (.fieldLink RX10 106 "ReelNightModel" "reels" "I") (by decide +kernel)) rfl dX10_waited_21 ?_
    refine lv_icmp_ge (tgt := 80) hx hb dX10_waited_24 (by decide) (fun c8 => ?_) (fun c8 => ?_)
    · have hf := i_t c8 hf
      refine lv_iload_n hx hb dX10_waited_80 rfl (lv_at hl 2 rfl) ?_
      exact j_iret I hx hb hr rfl hlk hf dX10_waited_81
    · have hf := i_f c8 hf
      refine lv_aload_n hx hb dX10_waited_27 rfl (lv_at hl 0 rfl) ?_
      refine j_get I hx hb hts iw_X10_waited_X10 hown 0 (by decide) (km0 g Y _) rfl 28 (by decide) (hts (.fieldLink RX10 84 "ReelNightModel" "gaps" "[I") (by decide +kernel)) rfl dX10_waited_28 ?_
      refine lv_bipush (v := 8) hx hb dX10_waited_31 (by decide) ?_
      refine lv_iload_n hx hb dX10_waited_33 rfl (lv_at hl 1 rfl) ?_
      refine lv_imul hx hb dX10_waited_34 ?_
      refine lv_iload_n hx hb dX10_waited_35 rfl (lv_at hl 3 rfl) ?_
      refine lv_iadd hx hb dX10_waited_36 ?_
      obtain ⟨b9, hf⟩ := o_nb hf
      refine j_ald I hx hb 22 (by decide) (km22 g Y _) b9 dX10_waited_37 ?_
      refine lv_iload_n hx hb dX10_waited_38 rfl (lv_at hl 3 rfl) ?_
      refine lv_if_ne (tgt := 46) hx hb dX10_waited_39 (by decide) (fun c10 => ?_) (fun c10 => ?_)
      · have hf := i_f c10 hf
        refine lv_aload_n hx hb dX10_waited_46 rfl (lv_at hl 0 rfl) ?_
        refine j_get I hx hb hts iw_X10_waited_X10 hown 0 (by decide) (km0 g Y _) rfl 3 (by decide) (hts (.fieldLink RX10 16 "ReelNightModel" "slacks" "[I") (by decide +kernel)) rfl dX10_waited_47 ?_
        refine lv_aload_n hx hb dX10_waited_50 rfl (lv_at hl 0 rfl) ?_
        refine j_get I hx hb hts iw_X10_waited_X10 hown 0 (by decide) (km0 g Y _) rfl 11 (by decide) (hts (.fieldLink RX10 34 "ReelNightModel" "order" "[I") (by decide +kernel)) rfl dX10_waited_51 ?_
        refine lv_iload_n hx hb dX10_waited_54 rfl (lv_at hl 1 rfl) ?_
        obtain ⟨b11, hf⟩ := o_nb hf
        refine j_ald I hx hb 9 (by decide) (km9 g Y _) b11 dX10_waited_55 ?_
        obtain ⟨b12, hf⟩ := o_nb hf
        refine j_ald I hx hb 3 (by decide) (km3 g Y _) b12 dX10_waited_56 ?_
        refine lv_isub hx hb dX10_waited_57 ?_
        obtain ⟨v13, ev13, hf⟩ := o_itp hf
        refine top_eq ev13 ?_
        refine lv_istore (lv' := [(4, .int v13), (0, .ref (g 0)), (1, .int a1), (2, .int a2), (3, .int a3)]) hx hb dX10_waited_58 hl (by decide) rfl (fun ls hl => ?_)
        refine lv_iload_n hx hb dX10_waited_60 rfl (lv_at hl 3 rfl) ?_
        refine lv_iload hx hb dX10_waited_61 (lv_at hl 0 rfl) ?_
        refine lv_if_le (tgt := 71) hx hb dX10_waited_63 (by decide) (fun c14 => ?_) (fun c14 => ?_)
        · have hf := i_t c14 hf
          refine lv_iconst (v := 0) hx hb dX10_waited_71 (by decide) ?_
          refine lv_iadd hx hb dX10_waited_72 ?_
          obtain ⟨v15, ev15, hf⟩ := o_itp hf
          refine top_eq ev15 ?_
          refine lv_istore_n (lv' := [(2, .int v15), (4, .int v13), (0, .ref (g 0)), (1, .int a1), (3, .int a3)]) hx hb dX10_waited_73 rfl hl (by decide) rfl (fun ls hl => ?_)
          refine lv_iinc (v := (a3 + 1)) (lv' := [(3, .int (a3 + 1)), (2, .int v15), (4, .int v13), (0, .ref (g 0)), (1, .int a1)]) hx hb dX10_waited_74 hl (k := 4) rfl rfl (by decide) rfl (fun ls hl => ?_)
          refine lv_goto (tgt := 19) hx hb dX10_waited_77 (by decide) ?_
          exact ih σ a1 v15 (a3 + 1) _ _ _ hf I (lv_sub hl [3, 4, 1, 0] rfl)
        · have hf := i_f c14 hf
          refine lv_iload hx hb dX10_waited_66 (lv_at hl 0 rfl) ?_
          refine lv_goto (tgt := 72) hx hb dX10_waited_68 (by decide) ?_
          refine lv_iadd hx hb dX10_waited_72 ?_
          obtain ⟨v16, ev16, hf⟩ := o_itp hf
          refine top_eq ev16 ?_
          refine lv_istore_n (lv' := [(2, .int v16), (4, .int v13), (0, .ref (g 0)), (1, .int a1), (3, .int a3)]) hx hb dX10_waited_73 rfl hl (by decide) rfl (fun ls hl => ?_)
          refine lv_iinc (v := (a3 + 1)) (lv' := [(3, .int (a3 + 1)), (2, .int v16), (4, .int v13), (0, .ref (g 0)), (1, .int a1)]) hx hb dX10_waited_74 hl (k := 4) rfl rfl (by decide) rfl (fun ls hl => ?_)
          refine lv_goto (tgt := 19) hx hb dX10_waited_77 (by decide) ?_
          exact ih σ a1 v16 (a3 + 1) _ _ _ hf I (lv_sub hl [3, 4, 1, 0] rfl)
      · have hf := i_t c10 hf
        refine lv_iconst (v := 0) hx hb dX10_waited_42 (by decide) ?_
        refine lv_goto (tgt := 57) hx hb dX10_waited_43 (by decide) ?_
        refine lv_isub hx hb dX10_waited_57 ?_
        obtain ⟨v17, ev17, hf⟩ := o_itp hf
        refine top_eq ev17 ?_
        refine lv_istore (lv' := [(4, .int v17), (0, .ref (g 0)), (1, .int a1), (2, .int a2), (3, .int a3)]) hx hb dX10_waited_58 hl (by decide) rfl (fun ls hl => ?_)
        refine lv_iload_n hx hb dX10_waited_60 rfl (lv_at hl 3 rfl) ?_
        refine lv_iload hx hb dX10_waited_61 (lv_at hl 0 rfl) ?_
        refine lv_if_le (tgt := 71) hx hb dX10_waited_63 (by decide) (fun c18 => ?_) (fun c18 => ?_)
        · have hf := i_t c18 hf
          refine lv_iconst (v := 0) hx hb dX10_waited_71 (by decide) ?_
          refine lv_iadd hx hb dX10_waited_72 ?_
          obtain ⟨v19, ev19, hf⟩ := o_itp hf
          refine top_eq ev19 ?_
          refine lv_istore_n (lv' := [(2, .int v19), (4, .int v17), (0, .ref (g 0)), (1, .int a1), (3, .int a3)]) hx hb dX10_waited_73 rfl hl (by decide) rfl (fun ls hl => ?_)
          refine lv_iinc (v := (a3 + 1)) (lv' := [(3, .int (a3 + 1)), (2, .int v19), (4, .int v17), (0, .ref (g 0)), (1, .int a1)]) hx hb dX10_waited_74 hl (k := 4) rfl rfl (by decide) rfl (fun ls hl => ?_)
          refine lv_goto (tgt := 19) hx hb dX10_waited_77 (by decide) ?_
          exact ih σ a1 v19 (a3 + 1) _ _ _ hf I (lv_sub hl [3, 4, 1, 0] rfl)
        · have hf := i_f c18 hf
          refine lv_iload hx hb dX10_waited_66 (lv_at hl 0 rfl) ?_
          refine lv_goto (tgt := 72) hx hb dX10_waited_68 (by decide) ?_
          refine lv_iadd hx hb dX10_waited_72 ?_
          obtain ⟨v20, ev20, hf⟩ := o_itp hf
          refine top_eq ev20 ?_
          refine lv_istore_n (lv' := [(2, .int v20), (4, .int v17), (0, .ref (g 0)), (1, .int a1), (3, .int a3)]) hx hb dX10_waited_73 rfl hl (by decide) rfl (fun ls hl => ?_)
          refine lv_iinc (v := (a3 + 1)) (lv' := [(3, .int (a3 + 1)), (2, .int v20), (4, .int v17), (0, .ref (g 0)), (1, .int a1)]) hx hb dX10_waited_74 hl (k := 4) rfl rfl (by decide) rfl (fun ls hl => ?_)
          refine lv_goto (tgt := 19) hx hb dX10_waited_77 (by decide) ?_
          exact ih σ a1 v20 (a3 + 1) _ _ _ hf I (lv_sub hl [3, 4, 1, 0] rfl)
set_option maxHeartbeats 4000000 in
set_option maxRecDepth 100000 in
theorem ct_X10_waited {l : Launch} {D : va_G} {g : Nat → Nat} {Y : YT} {bP : Nat} (σ : St) (p0 : Int32) (res : St × Int32) (hf : fX10_waited σ p0 = some res) : Ci l yX10_waited wsX10_waited ⟨4, 0, 0, 91⟩ D 27 g (KM g Y) Y bP [.ref (g 0), .int p0] σ res := by
  intro sz
  refine Met.ofW (cc := cX10_waited) (maxL := 5) (ret := (some .int)) (by decide) rfl ?_
  intro p e s m args below meth c s₁ B hml hv
  obtain ⟨rfl, rfl, I⟩ := j_start hv
  have C0 : MC p s m _ meth c cX10_waited 5 (some .int) RX10 wsX10_waited := ⟨B.exec, B.bytes, B.returns, hml, findClass_of_methodNamed B.named, atoms_spec (ws := wsX10_waited) B.pre, B.notSynchronized⟩
  obtain ⟨hx, hb, hr, hml, hown, hts, hlk⟩ := id C0
  have hl := lv_entry ([.ref (g 0), .int p0]) (n := 5) (Nat.le_of_ble_eq_true rfl)
  rw [lg_entry_eq]
  generalize (lg_sl ([.ref (g 0), .int p0]) ++ List.replicate (5 - (lg_sl ([.ref (g 0), .int p0])).length) Slot.unset).toArray = ls at hl ⊢
  have hl : lv_has ls 5 [(0, .ref (g 0)), (1, .int p0)] := hl
  rw [fX10_waited] at hf
  refine lv_aload_n hx hb dX10_waited_0 rfl (lv_at hl 0 rfl) ?_
  refine lv_iload_n hx hb dX10_waited_1 rfl (lv_at hl 1 rfl) ?_
  obtain ⟨σ1, r2, h3, hf⟩ := o_obn hf
  refine j_iV (rest := []) I ⟨hx, hb, hml, hown, hts⟩ (ct_X10_isPlace σ p0 _ h3) (cwV 1 hts gX10_waited_X10_isPlace rfl rfl rfl (by decide +kernel) ⟨Nat.le_of_ble_eq_true rfl, Nat.le_of_ble_eq_true rfl⟩) (by decide) (km0 g Y _) rfl rfl hl.1 rfl (Nat.le_of_ble_eq_true rfl) dX10_waited_2 ⟨Nat.zero_le _, Nat.zero_le _⟩ (fun H locs I => ?_)
  refine lv_if_ne (tgt := 11) hx hb dX10_waited_5 (by decide) (fun c4 => ?_) (fun c4 => ?_)
  · have hf := i_f c4 hf
    refine lv_aload_n hx hb dX10_waited_11 rfl (lv_at hl 0 rfl) ?_
    obtain ⟨σ5, r6, h7, hf⟩ := o_obn hf
    refine j_vV (rest := []) I ⟨hx, hb, hml, hown, hts⟩ (ct_X10_goOn σ1 _ h7) (cwV 0 hts gX10_waited_X10_goOn rfl rfl rfl (by decide +kernel) ⟨Nat.le_of_ble_eq_true rfl, Nat.le_of_ble_eq_true rfl⟩) (by decide) (km0 g Y _) rfl rfl hl.1 rfl (Nat.le_of_ble_eq_true rfl) dX10_waited_12 ⟨Nat.zero_le _, Nat.zero_le _⟩ (fun H locs I => ?_)
    refine lv_iconst (v := 0) hx hb dX10_waited_15 (by decide) ?_
    refine lv_istore_n (lv' := [(2, .int 0), (0, .ref (g 0)), (1, .int p0)]) hx hb dX10_waited_16 rfl hl (by decide) rfl (fun ls hl => ?_)
    refine lv_iconst (v := 0) hx hb dX10_waited_17 (by decide) ?_
    refine lv_istore_n (lv' := [(3, .int 0), (2, .int 0), (0, .ref (g 0)), (1, .int p0)]) hx hb dX10_waited_18 rfl hl (by decide) rfl (fun ls hl => ?_)
    refine bX10_waited_L19 C0 50 σ5 p0 0 0 _ _ _ hf I (lv_sub hl [2, 3, 1, 0] rfl)
  · have hf := i_t c4 hf
    refine lv_ldc hx hb hown (hts (.constant RX10 109 (-1000000001)) (by decide +kernel)) dX10_waited_8 ?_
    exact j_iret I hx hb hr rfl hlk hf dX10_waited_10

theorem iw_X10_findCauses_X10 : ∀ w ∈ u_ws RX10 TX10 37, w ∈ wsX10_findCauses := by decide +kernel
set_option maxHeartbeats 4000000 in
set_option maxRecDepth 100000 in
theorem bX10_findCauses_L84 {p : Program} {l : Launch} {e : Env} {s : State} {m : MethodId} {args : Array Value} {below : List Frame} {meth : Method} {c : Code} {D : va_G} {g : Nat → Nat} {Y : YT} {bP : Nat} {σ0 : St} {res : St × Int32} (C0 : MC p s m args meth c cX10_findCauses 6 none RX10 wsX10_findCauses) {K124 : St → Int32 → Int32 → Option (St × Int32)} (hK124 : ∀ (σ : St) (a1 : Int32) (a2 : Int32) (H : Heap) (locs : List Loc) (ls : Array Slot), K124 σ a1 a2 = some res → JW D 27 g (KM g Y) Y bP (va_A (wd 27 g (KM g Y) σ0) s.heap.size) s σ H locs → lv_has ls 6 [(0, .ref (g 0)), (1, .int a1), (2, .int a2)] → W p l e (⟨0, 0, 0, 0⟩ : Room) s m args below meth c H locs 0 0 (MQ below (Qv D 27 g (KM g Y) Y σ0 res s.heap.size) args s 0 0 (va_A (wd 27 g (KM g Y) σ0) s.heap.size)) (F0 m 124 ls [])) : ∀ (n : Nat) (σ : St) (a1 : Int32) (a2 : Int32) (a3 : Int32) (a5 : Int32) (H : Heap) (locs : List Loc) (ls : Array Slot), fX10_findCauses_L84 K124 n σ a1 a2 a3 a5 = some res → JW D 27 g (KM g Y) Y bP (va_A (wd 27 g (KM g Y) σ0) s.heap.size) s σ H locs → lv_has ls 6 [(0, .ref (g 0)), (1, .int a1), (2, .int a2), (3, .int a3), (5, .int a5)] → W p l e (⟨0, 0, 0, 0⟩ : Room) s m args below meth c H locs 0 0 (MQ below (Qv D 27 g (KM g Y) Y σ0 res s.heap.size) args s 0 0 (va_A (wd 27 g (KM g Y) σ0) s.heap.size)) (F0 m 84 ls []) := by
  have C0 := C0
  obtain ⟨hx, hb, hr, hml, hown, hts, hlk⟩ := id C0
  intro n
  induction n with
  | zero =>
    intro σ a1 a2 a3 a5 H locs ls hf
    cases hf
  | succ n ih =>
    intro σ a1 a2 a3 a5 H locs ls hf I hl
    rw [fX10_findCauses_L84] at hf
    refine lv_iload hx hb dX10_findCauses_84 (lv_at hl 4 rfl) ?_
    refine lv_if_lt (tgt := 124) hx hb dX10_findCauses_86 (by decide) (fun c14 => ?_) (fun c14 => ?_)
    · have hf := i_t c14 hf
      exact hK124 σ a1 a2 _ _ _ hf I (lv_sub hl [0, 1, 2] rfl)
    · have hf := i_f c14 hf
      refine lv_aload_n hx hb dX10_findCauses_89 rfl (lv_at hl 0 rfl) ?_
      refine j_get I hx hb hts iw_X10_findCauses_X10 hown 0 (by decide) (km0 g Y _) rfl 29 (by decide) (hts (.fieldLink RX10 87 "ReelNightModel" "causes" "[I") (by decide +kernel)) rfl dX10_findCauses_90 ?_
      refine lv_iload_n hx hb dX10_findCauses_93 rfl (lv_at hl 3 rfl) ?_
      obtain ⟨b15, hf⟩ := o_nb hf
      refine j_ald I hx hb 23 (by decide) (km23 g Y _) b15 dX10_findCauses_94 ?_
      refine lv_if_ge (tgt := 124) hx hb dX10_findCauses_95 (by decide) (fun c16 => ?_) (fun c16 => ?_)
      · have hf := i_t c16 hf
        exact hK124 σ a1 a2 _ _ _ hf I (lv_sub hl [0, 1, 2] rfl)
      · have hf := i_f c16 hf
        refine lv_aload_n hx hb dX10_findCauses_98 rfl (lv_at hl 0 rfl) ?_
        refine j_get I hx hb hts iw_X10_findCauses_X10 hown 0 (by decide) (km0 g Y _) rfl 29 (by decide) (hts (.fieldLink RX10 87 "ReelNightModel" "causes" "[I") (by decide +kernel)) rfl dX10_findCauses_99 ?_
        refine lv_iload_n hx hb dX10_findCauses_102 rfl (lv_at hl 3 rfl) ?_
        refine lv_aload_n hx hb dX10_findCauses_103 rfl (lv_at hl 0 rfl) ?_
        refine j_get I hx hb hts iw_X10_findCauses_X10 hown 0 (by decide) (km0 g Y _) rfl 29 (by decide) (hts (.fieldLink RX10 87 "ReelNightModel" "causes" "[I") (by decide +kernel)) rfl dX10_findCauses_104 ?_
        refine lv_bipush (v := 8) hx hb dX10_findCauses_107 (by decide) ?_
        refine lv_iload_n hx hb dX10_findCauses_109 rfl (lv_at hl 1 rfl) ?_
        refine lv_iconst (v := 1) hx hb dX10_findCauses_110 (by decide) ?_
        refine lv_isub hx hb dX10_findCauses_111 ?_
        refine lv_imul hx hb dX10_findCauses_112 ?_
        refine lv_iload hx hb dX10_findCauses_113 (lv_at hl 4 rfl) ?_
        refine lv_iadd hx hb dX10_findCauses_115 ?_
        obtain ⟨b17, hf⟩ := o_nb hf
        refine j_ald I hx hb 23 (by decide) (km23 g Y _) b17 dX10_findCauses_116 ?_
        obtain ⟨b18, hf⟩ := o_nb hf
        obtain ⟨σ19, eσ19, hf⟩ := o_stp hf
        refine j_ast I hx hb 23 (by decide) (km23 g Y) b18 eσ19 dX10_findCauses_117 (fun H locs I => ?_)
        refine lv_iinc (v := (a5 + (-1))) (lv' := [(5, .int (a5 + (-1))), (0, .ref (g 0)), (1, .int a1), (2, .int a2), (3, .int a3)]) hx hb dX10_findCauses_118 hl (k := 4) rfl rfl (by decide) rfl (fun ls hl => ?_)
        refine lv_goto (tgt := 84) hx hb dX10_findCauses_121 (by decide) ?_
        exact ih σ19 a1 a2 a3 (a5 + (-1)) _ _ _ hf I (lv_sub hl [1, 2, 3, 4, 0] rfl)
set_option maxHeartbeats 4000000 in
set_option maxRecDepth 100000 in
theorem bX10_findCauses_L12 {p : Program} {l : Launch} {e : Env} {s : State} {m : MethodId} {args : Array Value} {below : List Frame} {meth : Method} {c : Code} {D : va_G} {g : Nat → Nat} {Y : YT} {bP : Nat} {σ0 : St} {res : St × Int32} (C0 : MC p s m args meth c cX10_findCauses 6 none RX10 wsX10_findCauses) {K130 : St → Int32 → Option (St × Int32)} (hK130 : ∀ (σ : St) (a1 : Int32) (H : Heap) (locs : List Loc) (ls : Array Slot), K130 σ a1 = some res → JW D 27 g (KM g Y) Y bP (va_A (wd 27 g (KM g Y) σ0) s.heap.size) s σ H locs → lv_has ls 6 [(0, .ref (g 0)), (1, .int a1)] → W p l e (⟨0, 0, 0, 0⟩ : Room) s m args below meth c H locs 0 0 (MQ below (Qv D 27 g (KM g Y) Y σ0 res s.heap.size) args s 0 0 (va_A (wd 27 g (KM g Y) σ0) s.heap.size)) (F0 m 130 ls [])) : ∀ (n : Nat) (σ : St) (a1 : Int32) (a2 : Int32) (H : Heap) (locs : List Loc) (ls : Array Slot), fX10_findCauses_L12 K130 n σ a1 a2 = some res → JW D 27 g (KM g Y) Y bP (va_A (wd 27 g (KM g Y) σ0) s.heap.size) s σ H locs → lv_has ls 6 [(0, .ref (g 0)), (1, .int a1), (2, .int a2)] → W p l e (⟨0, 0, 0, 0⟩ : Room) s m args below meth c H locs 0 0 (MQ below (Qv D 27 g (KM g Y) Y σ0 res s.heap.size) args s 0 0 (va_A (wd 27 g (KM g Y) σ0) s.heap.size)) (F0 m 12 ls []) := by
  have C0 := C0
  obtain ⟨hx, hb, hr, hml, hown, hts, hlk⟩ := id C0
  intro n
  induction n with
  | zero =>
    intro σ a1 a2 H locs ls hf
    cases hf
  | succ n ih =>
    intro σ a1 a2 H locs ls hf I hl
    rw [fX10_findCauses_L12] at hf
    refine lv_iload_n hx hb dX10_findCauses_12 rfl (lv_at hl 2 rfl) ?_
    refine lv_aload_n hx hb dX10_findCauses_13 rfl (lv_at hl 0 rfl) ?_
    refine j_get I hx hb hts iw_X10_findCauses_X10 hown 0 (by decide) (km0 g Y _) rfl 7 (by decide) (hts (.fieldLink RX10 106 "ReelNightModel" "reels" "I") (by decide +kernel)) rfl dX10_findCauses_14 ?_
    refine lv_icmp_ge (tgt := 130) hx hb dX10_findCauses_17 (by decide) (fun c2 => ?_) (fun c2 => ?_)
    · have hf := i_t c2 hf
      exact hK130 σ a1 _ _ _ hf I (lv_sub hl [0, 1] rfl)
    · have hf := i_f c2 hf
      refine lv_bipush (v := 8) hx hb dX10_findCauses_20 (by decide) ?_
      refine lv_iload_n hx hb dX10_findCauses_22 rfl (lv_at hl 1 rfl) ?_
      refine lv_imul hx hb dX10_findCauses_23 ?_
      refine lv_iload_n hx hb dX10_findCauses_24 rfl (lv_at hl 2 rfl) ?_
      refine lv_iadd hx hb dX10_findCauses_25 ?_
      obtain ⟨v3, ev3, hf⟩ := o_itp hf
      refine top_eq ev3 ?_
      refine lv_istore_n (lv' := [(3, .int v3), (0, .ref (g 0)), (1, .int a1), (2, .int a2)]) hx hb dX10_findCauses_26 rfl hl (by decide) rfl (fun ls hl => ?_)
      refine lv_aload_n hx hb dX10_findCauses_27 rfl (lv_at hl 1 rfl) ?_
      refine j_get I hx hb hts iw_X10_findCauses_X10 hown 0 (by decide) (km0 g Y _) rfl 29 (by decide) (hts (.fieldLink RX10 87 "ReelNightModel" "causes" "[I") (by decide +kernel)) rfl dX10_findCauses_28 ?_
      refine lv_iload_n hx hb dX10_findCauses_31 rfl (lv_at hl 0 rfl) ?_
      refine lv_iconst (v := (-1)) hx hb dX10_findCauses_32 (by decide) ?_
      obtain ⟨b4, hf⟩ := o_nb hf
      obtain ⟨σ5, eσ5, hf⟩ := o_stp hf
      refine j_ast I hx hb 23 (by decide) (km23 g Y) b4 eσ5 dX10_findCauses_33 (fun H locs I => ?_)
      refine lv_aload_n hx hb dX10_findCauses_34 rfl (lv_at hl 1 rfl) ?_
      refine j_get I hx hb hts iw_X10_findCauses_X10 hown 0 (by decide) (km0 g Y _) rfl 28 (by decide) (hts (.fieldLink RX10 84 "ReelNightModel" "gaps" "[I") (by decide +kernel)) rfl dX10_findCauses_35 ?_
      refine lv_iload_n hx hb dX10_findCauses_38 rfl (lv_at hl 0 rfl) ?_
      obtain ⟨b6, hf⟩ := o_nb hf
      refine j_ald I hx hb 22 (by decide) (km22 g Y _) b6 dX10_findCauses_39 ?_
      refine lv_if_le (tgt := 124) hx hb dX10_findCauses_40 (by decide) (fun c7 => ?_) (fun c7 => ?_)
      · have hf := i_t c7 hf
        refine lv_iinc (v := (a2 + 1)) (lv' := [(2, .int (a2 + 1)), (3, .int v3), (0, .ref (g 0)), (1, .int a1)]) hx hb dX10_findCauses_124 hl (k := 3) rfl rfl (by decide) rfl (fun ls hl => ?_)
        refine lv_goto (tgt := 12) hx hb dX10_findCauses_127 (by decide) ?_
        exact ih σ5 a1 (a2 + 1) _ _ _ hf I (lv_sub hl [2, 3, 0] rfl)
      · have hf := i_f c7 hf
        refine lv_iload_n hx hb dX10_findCauses_43 rfl (lv_at hl 2 rfl) ?_
        refine lv_if_le (tgt := 124) hx hb dX10_findCauses_44 (by decide) (fun c8 => ?_) (fun c8 => ?_)
        · have hf := i_t c8 hf
          refine lv_iinc (v := (a2 + 1)) (lv' := [(2, .int (a2 + 1)), (3, .int v3), (0, .ref (g 0)), (1, .int a1)]) hx hb dX10_findCauses_124 hl (k := 3) rfl rfl (by decide) rfl (fun ls hl => ?_)
          refine lv_goto (tgt := 12) hx hb dX10_findCauses_127 (by decide) ?_
          exact ih σ5 a1 (a2 + 1) _ _ _ hf I (lv_sub hl [2, 3, 0] rfl)
        · have hf := i_f c8 hf
          refine lv_iload_n hx hb dX10_findCauses_47 rfl (lv_at hl 2 rfl) ?_
          refine lv_iconst (v := 1) hx hb dX10_findCauses_48 (by decide) ?_
          refine lv_isub hx hb dX10_findCauses_49 ?_
          refine lv_aload_n hx hb dX10_findCauses_50 rfl (lv_at hl 1 rfl) ?_
          refine j_get I hx hb hts iw_X10_findCauses_X10 hown 0 (by decide) (km0 g Y _) rfl 7 (by decide) (hts (.fieldLink RX10 106 "ReelNightModel" "reels" "I") (by decide +kernel)) rfl dX10_findCauses_51 ?_
          refine lv_imul hx hb dX10_findCauses_54 ?_
          refine lv_iload_n hx hb dX10_findCauses_55 rfl (lv_at hl 3 rfl) ?_
          refine lv_iadd hx hb dX10_findCauses_56 ?_
          obtain ⟨v9, ev9, hf⟩ := o_itp hf
          refine top_eq ev9 ?_
          refine lv_istore (lv' := [(4, .int v9), (3, .int v3), (0, .ref (g 0)), (1, .int a1), (2, .int a2)]) hx hb dX10_findCauses_57 hl (by decide) rfl (fun ls hl => ?_)
          refine lv_aload_n hx hb dX10_findCauses_59 rfl (lv_at hl 2 rfl) ?_
          refine j_get I hx hb hts iw_X10_findCauses_X10 hown 0 (by decide) (km0 g Y _) rfl 29 (by decide) (hts (.fieldLink RX10 87 "ReelNightModel" "causes" "[I") (by decide +kernel)) rfl dX10_findCauses_60 ?_
          refine lv_iload_n hx hb dX10_findCauses_63 rfl (lv_at hl 1 rfl) ?_
          refine lv_aload_n hx hb dX10_findCauses_64 rfl (lv_at hl 2 rfl) ?_
          refine j_get I hx hb hts iw_X10_findCauses_X10 hown 0 (by decide) (km0 g Y _) rfl 12 (by decide) (hts (.fieldLink RX10 37 "ReelNightModel" "lates" "[I") (by decide +kernel)) rfl dX10_findCauses_65 ?_
          refine lv_iload hx hb dX10_findCauses_68 (lv_at hl 0 rfl) ?_
          obtain ⟨b10, hf⟩ := o_nb hf
          refine j_ald I hx hb 10 (by decide) (km10 g Y _) b10 dX10_findCauses_70 ?_
          refine lv_if_le (tgt := 79) hx hb dX10_findCauses_71 (by decide) (fun c11 => ?_) (fun c11 => ?_)
          · have hf := i_t c11 hf
            refine lv_iconst (v := (-1)) hx hb dX10_findCauses_79 (by decide) ?_
            obtain ⟨b12, hf⟩ := o_nb hf
            obtain ⟨σ13, eσ13, hf⟩ := o_stp hf
            refine j_ast I hx hb 23 (by decide) (km23 g Y) b12 eσ13 dX10_findCauses_80 (fun H locs I => ?_)
            refine lv_iload_n hx hb dX10_findCauses_81 rfl (lv_at hl 4 rfl) ?_
            refine lv_istore (lv' := [(5, .int a2), (4, .int v9), (3, .int v3), (0, .ref (g 0)), (1, .int a1), (2, .int a2)]) hx hb dX10_findCauses_82 hl (by decide) rfl (fun ls hl => ?_)
            refine bX10_findCauses_L84 C0 ?_ 50 σ13 a1 a2 v3 a2 _ _ _ hf I (lv_sub hl [3, 4, 5, 2, 0] rfl)
            · intro σ20 a21 a22 H locs ls hf I hl
              refine lv_iinc (v := (a22 + 1)) (lv' := [(2, .int (a22 + 1)), (0, .ref (g 0)), (1, .int a21)]) hx hb dX10_findCauses_124 hl (k := 2) rfl rfl (by decide) rfl (fun ls hl => ?_)
              refine lv_goto (tgt := 12) hx hb dX10_findCauses_127 (by decide) ?_
              exact ih σ20 a21 (a22 + 1) _ _ _ hf I (lv_sub hl [1, 2, 0] rfl)
          · have hf := i_f c11 hf
            refine lv_iload hx hb dX10_findCauses_74 (lv_at hl 0 rfl) ?_
            refine lv_goto (tgt := 80) hx hb dX10_findCauses_76 (by decide) ?_
            obtain ⟨b23, hf⟩ := o_nb hf
            obtain ⟨σ24, eσ24, hf⟩ := o_stp hf
            refine j_ast I hx hb 23 (by decide) (km23 g Y) b23 eσ24 dX10_findCauses_80 (fun H locs I => ?_)
            refine lv_iload_n hx hb dX10_findCauses_81 rfl (lv_at hl 4 rfl) ?_
            refine lv_istore (lv' := [(5, .int a2), (4, .int v9), (3, .int v3), (0, .ref (g 0)), (1, .int a1), (2, .int a2)]) hx hb dX10_findCauses_82 hl (by decide) rfl (fun ls hl => ?_)
            refine bX10_findCauses_L84 C0 ?_ 50 σ24 a1 a2 v3 a2 _ _ _ hf I (lv_sub hl [3, 4, 5, 2, 0] rfl)
            · intro σ25 a26 a27 H locs ls hf I hl
              refine lv_iinc (v := (a27 + 1)) (lv' := [(2, .int (a27 + 1)), (0, .ref (g 0)), (1, .int a26)]) hx hb dX10_findCauses_124 hl (k := 2) rfl rfl (by decide) rfl (fun ls hl => ?_)
              refine lv_goto (tgt := 12) hx hb dX10_findCauses_127 (by decide) ?_
              exact ih σ25 a26 (a27 + 1) _ _ _ hf I (lv_sub hl [1, 2, 0] rfl)
set_option maxHeartbeats 4000000 in
set_option maxRecDepth 100000 in
theorem bX10_findCauses_L2 {p : Program} {l : Launch} {e : Env} {s : State} {m : MethodId} {args : Array Value} {below : List Frame} {meth : Method} {c : Code} {D : va_G} {g : Nat → Nat} {Y : YT} {bP : Nat} {σ0 : St} {res : St × Int32} (C0 : MC p s m args meth c cX10_findCauses 6 none RX10 wsX10_findCauses) : ∀ (n : Nat) (σ : St) (a1 : Int32) (H : Heap) (locs : List Loc) (ls : Array Slot), fX10_findCauses_L2 n σ a1 = some res → JW D 27 g (KM g Y) Y bP (va_A (wd 27 g (KM g Y) σ0) s.heap.size) s σ H locs → lv_has ls 6 [(0, .ref (g 0)), (1, .int a1)] → W p l e (⟨0, 0, 0, 0⟩ : Room) s m args below meth c H locs 0 0 (MQ below (Qv D 27 g (KM g Y) Y σ0 res s.heap.size) args s 0 0 (va_A (wd 27 g (KM g Y) σ0) s.heap.size)) (F0 m 2 ls []) := by
  have C0 := C0
  obtain ⟨hx, hb, hr, hml, hown, hts, hlk⟩ := id C0
  intro n
  induction n with
  | zero =>
    intro σ a1 H locs ls hf
    cases hf
  | succ n ih =>
    intro σ a1 H locs ls hf I hl
    rw [fX10_findCauses_L2] at hf
    refine lv_iload_n hx hb dX10_findCauses_2 rfl (lv_at hl 1 rfl) ?_
    refine lv_aload_n hx hb dX10_findCauses_3 rfl (lv_at hl 0 rfl) ?_
    refine j_get I hx hb hts iw_X10_findCauses_X10 hown 0 (by decide) (km0 g Y _) rfl 10 (by decide) (hts (.fieldLink RX10 118 "ReelNightModel" "many" "I") (by decide +kernel)) rfl dX10_findCauses_4 ?_
    refine lv_icmp_ge (tgt := 136) hx hb dX10_findCauses_7 (by decide) (fun c1 => ?_) (fun c1 => ?_)
    · have hf := i_t c1 hf
      exact j_vret I hx hb hr hlk hf dX10_findCauses_136
    · have hf := i_f c1 hf
      refine lv_iconst (v := 0) hx hb dX10_findCauses_10 (by decide) ?_
      refine lv_istore_n (lv' := [(2, .int 0), (0, .ref (g 0)), (1, .int a1)]) hx hb dX10_findCauses_11 rfl hl (by decide) rfl (fun ls hl => ?_)
      refine bX10_findCauses_L12 C0 ?_ 50 σ a1 0 _ _ _ hf I (lv_sub hl [1, 2, 0] rfl)
      · intro σ28 a29 H locs ls hf I hl
        refine lv_iinc (v := (a29 + 1)) (lv' := [(1, .int (a29 + 1)), (0, .ref (g 0))]) hx hb dX10_findCauses_130 hl (k := 1) rfl rfl (by decide) rfl (fun ls hl => ?_)
        refine lv_goto (tgt := 2) hx hb dX10_findCauses_133 (by decide) ?_
        exact ih σ28 (a29 + 1) _ _ _ hf I (lv_sub hl [1, 0] rfl)
set_option maxHeartbeats 4000000 in
set_option maxRecDepth 100000 in
theorem ct_X10_findCauses {l : Launch} {D : va_G} {g : Nat → Nat} {Y : YT} {bP : Nat} (σ : St) (res : St × Int32) (hf : fX10_findCauses σ = some res) : Cv l yX10_findCauses wsX10_findCauses ⟨0, 0, 0, 0⟩ D 27 g (KM g Y) Y bP [.ref (g 0)] σ res := by
  intro sz
  refine Met.ofW (cc := cX10_findCauses) (maxL := 6) (ret := none) (by decide) rfl ?_
  intro p e s m args below meth c s₁ B hml hv
  obtain ⟨rfl, rfl, I⟩ := j_start hv
  have C0 : MC p s m _ meth c cX10_findCauses 6 none RX10 wsX10_findCauses := ⟨B.exec, B.bytes, B.returns, hml, findClass_of_methodNamed B.named, atoms_spec (ws := wsX10_findCauses) B.pre, B.notSynchronized⟩
  obtain ⟨hx, hb, hr, hml, hown, hts, hlk⟩ := id C0
  have hl := lv_entry ([.ref (g 0)]) (n := 6) (Nat.le_of_ble_eq_true rfl)
  rw [lg_entry_eq]
  generalize (lg_sl ([.ref (g 0)]) ++ List.replicate (6 - (lg_sl ([.ref (g 0)])).length) Slot.unset).toArray = ls at hl ⊢
  have hl : lv_has ls 6 [(0, .ref (g 0))] := hl
  rw [fX10_findCauses] at hf
  refine lv_iconst (v := 0) hx hb dX10_findCauses_0 (by decide) ?_
  refine lv_istore_n (lv' := [(1, .int 0), (0, .ref (g 0))]) hx hb dX10_findCauses_1 rfl hl (by decide) rfl (fun ls hl => ?_)
  refine bX10_findCauses_L2 C0 50 σ 0 _ _ _ hf I (lv_sub hl [1, 0] rfl)
