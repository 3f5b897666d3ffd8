theorem iw_X10_minutes_X10 : ∀ w ∈ u_ws RX10 TX10 37, w ∈ wsX10_minutes := by decide +kernel
set_option maxHeartbeats 4000000 in
set_option maxRecDepth 100000 in
theorem ct_X10_minutes {l : Launch} {D : va_G} {g : Nat → Nat} {Y : YT} {bP : Nat} (σ : St) (p0 : Int32) (res : St × Int32) (hf : fX10_minutes σ p0 = some res) : Ci l yX10_minutes wsX10_minutes ⟨0, 0, 0, 0⟩ D 27 g (KM g Y) Y bP [.ref (g 0), .int p0] σ res := by
  intro sz
  refine Met.ofW (cc := cX10_minutes) (maxL := 3) (ret := (some .int)) (by decide) rfl ?_
  intro p e s m args below meth c s₁ B hml hv
  obtain ⟨rfl, rfl, I⟩ := j_start hv
  have C0 : MC p s m _ meth c cX10_minutes 3 (some .int) RX10 wsX10_minutes := ⟨B.exec, B.bytes, B.returns, hml, findClass_of_methodNamed B.named, atoms_spec (ws := wsX10_minutes) B.pre, B.notSynchronized⟩
  obtain ⟨hx, hb, hr, hml, hown, hts, hlk⟩ := id C0
  have hl := lv_entry ([.ref (g 0), .int p0]) (n := 3) (Nat.le_of_ble_eq_true rfl)
  rw [lg_entry_eq]
  generalize (lg_sl ([.ref (g 0), .int p0]) ++ List.replicate (3 - (lg_sl ([.ref (g 0), .int p0])).length) Slot.unset).toArray = ls at hl ⊢
  have hl : lv_has ls 3 [(0, .ref (g 0)), (1, .int p0)] := hl
  rw [fX10_minutes] at hf
  refine lv_aload_n hx hb dX10_minutes_0 rfl (lv_at hl 0 rfl) ?_
  refine j_get I hx hb hts iw_X10_minutes_X10 hown 0 (by decide) (km0 g Y _) rfl 8 (by decide) (hts (.fieldLink RX10 28 "ReelNightModel" "frames" "[I") (by decide +kernel)) rfl dX10_minutes_1 ?_
  refine lv_iload_n hx hb dX10_minutes_4 rfl (lv_at hl 1 rfl) ?_
  obtain ⟨b1, hf⟩ := o_nb hf
  refine j_ald I hx hb 7 (by decide) (km7 g Y _) b1 dX10_minutes_5 ?_
  refine lv_sipush (v := 960) hx hb dX10_minutes_6 (by decide) ?_
  refine lv_idiv hx hb dX10_minutes_9 (by decide) ?_
  obtain ⟨v2, ev2, hf⟩ := o_itp hf
  refine top_eq ev2 ?_
  refine lv_istore_n (lv' := [(2, .int v2), (0, .ref (g 0)), (1, .int p0)]) hx hb dX10_minutes_10 rfl hl (by decide) rfl (fun ls hl => ?_)
  refine lv_iload_n hx hb dX10_minutes_11 rfl (lv_at hl 0 rfl) ?_
  refine lv_iconst (v := 1) hx hb dX10_minutes_12 (by decide) ?_
  refine lv_icmp_ge (tgt := 20) hx hb dX10_minutes_13 (by decide) (fun c3 => ?_) (fun c3 => ?_)
  · have hf := i_t c3 hf
    refine lv_iload_n hx hb dX10_minutes_20 rfl (lv_at hl 0 rfl) ?_
    exact j_iret I hx hb hr rfl hlk hf dX10_minutes_21
  · have hf := i_f c3 hf
    refine lv_iconst (v := 1) hx hb dX10_minutes_16 (by decide) ?_
    refine lv_goto (tgt := 21) hx hb dX10_minutes_17 (by decide) ?_
    exact j_iret I hx hb hr rfl hlk hf dX10_minutes_21

theorem iw_X10_told_X10 : ∀ w ∈ u_ws RX10 TX10 37, w ∈ wsX10_told := by decide +kernel
set_option maxHeartbeats 4000000 in
set_option maxRecDepth 100000 in
theorem ct_X10_told {l : Launch} {D : va_G} {g : Nat → Nat} {Y : YT} {bP : Nat} (σ : St) (p0 : Int32) (p1 : Int32) (res : St × Int32) (hf : fX10_told σ p0 p1 = some res) : Ci l yX10_told wsX10_told ⟨2, 0, 0, 43⟩ D 27 g (KM g Y) Y bP [.ref (g 0), .int p0, .int p1] σ res := by
  intro sz
  refine Met.ofW (cc := cX10_told) (maxL := 3) (ret := (some .int)) (by decide) rfl ?_
  intro p e s m args below meth c s₁ B hml hv
  obtain ⟨rfl, rfl, I⟩ := j_start hv
  have C0 : MC p s m _ meth c cX10_told 3 (some .int) RX10 wsX10_told := ⟨B.exec, B.bytes, B.returns, hml, findClass_of_methodNamed B.named, atoms_spec (ws := wsX10_told) B.pre, B.notSynchronized⟩
  obtain ⟨hx, hb, hr, hml, hown, hts, hlk⟩ := id C0
  have hl := lv_entry ([.ref (g 0), .int p0, .int p1]) (n := 3) (Nat.le_of_ble_eq_true rfl)
  rw [lg_entry_eq]
  generalize (lg_sl ([.ref (g 0), .int p0, .int p1]) ++ List.replicate (3 - (lg_sl ([.ref (g 0), .int p0, .int p1])).length) Slot.unset).toArray = ls at hl ⊢
  have hl : lv_has ls 3 [(0, .ref (g 0)), (1, .int p0), (2, .int p1)] := hl
  rw [fX10_told] at hf
  refine lv_aload_n hx hb dX10_told_0 rfl (lv_at hl 0 rfl) ?_
  refine lv_iload_n hx hb dX10_told_1 rfl (lv_at hl 1 rfl) ?_
  obtain ⟨σ1, r2, h3, hf⟩ := o_obn hf
  refine j_iV (rest := []) I ⟨hx, hb, hml, hown, hts⟩ (ct_X10_isReel σ p0 _ h3) (cwV 1 hts gX10_told_X10_isReel rfl rfl rfl (by decide +kernel) ⟨Nat.le_of_ble_eq_true rfl, Nat.le_of_ble_eq_true rfl⟩) (by decide) (km0 g Y _) rfl rfl hl.1 rfl (Nat.le_of_ble_eq_true rfl) dX10_told_2 ⟨Nat.zero_le _, Nat.zero_le _⟩ (fun H locs I => ?_)
  refine lv_if_eq (tgt := 17) hx hb dX10_told_5 (by decide) (fun c4 => ?_) (fun c4 => ?_)
  · have hf := i_t c4 hf
    refine lv_ldc hx hb hown (hts (.constant RX10 109 (-1000000001)) (by decide +kernel)) dX10_told_17 ?_
    exact j_iret I hx hb hr rfl hlk hf dX10_told_19
  · have hf := i_f c4 hf
    refine lv_iload_n hx hb dX10_told_8 rfl (lv_at hl 2 rfl) ?_
    refine lv_iconst (v := 0) hx hb dX10_told_9 (by decide) ?_
    refine lv_iconst (v := 2) hx hb dX10_told_10 (by decide) ?_
    obtain ⟨σ5, r6, h7, hf⟩ := o_obn hf
    refine j_iS (rest := []) I ⟨hx, hb, hml, hown, hts⟩ (ct_X10_isIn σ1 p1 0 2 _ h7) (va_cwS 3 hts gX10_told_X10_isIn rfl rfl rfl (by decide +kernel) ⟨Nat.le_of_ble_eq_true rfl, Nat.le_of_ble_eq_true rfl⟩) rfl hl.1 rfl (Nat.le_of_ble_eq_true rfl) dX10_told_11 ⟨Nat.zero_le _, Nat.zero_le _⟩ (fun H locs I => ?_)
    refine lv_if_ne (tgt := 20) hx hb dX10_told_14 (by decide) (fun c8 => ?_) (fun c8 => ?_)
    · have hf := i_f c8 hf
      refine lv_iload_n hx hb dX10_told_20 rfl (lv_at hl 2 rfl) ?_
      refine lv_if_ne (tgt := 33) hx hb dX10_told_21 (by decide) (fun c9 => ?_) (fun c9 => ?_)
      · have hf := i_f c9 hf
        refine lv_iload_n hx hb dX10_told_33 rfl (lv_at hl 2 rfl) ?_
        refine lv_iconst (v := 1) hx hb dX10_told_34 (by decide) ?_
        refine lv_icmp_ne (tgt := 46) hx hb dX10_told_35 (by decide) (fun c10 => ?_) (fun c10 => ?_)
        · have hf := i_f c10 hf
          refine lv_aload_n hx hb dX10_told_46 rfl (lv_at hl 0 rfl) ?_
          refine j_get I hx hb hts iw_X10_told_X10 hown 0 (by decide) (km0 g Y _) rfl 9 (by decide) (hts (.fieldLink RX10 31 "ReelNightModel" "mends" "[I") (by decide +kernel)) rfl dX10_told_47 ?_
          refine lv_iload_n hx hb dX10_told_50 rfl (lv_at hl 1 rfl) ?_
          obtain ⟨b11, hf⟩ := o_nb hf
          refine j_ald I hx hb 8 (by decide) (km8 g Y _) b11 dX10_told_51 ?_
          exact j_iret I hx hb hr rfl hlk hf dX10_told_52
        · have hf := i_t c10 hf
          refine lv_aload_n hx hb dX10_told_38 rfl (lv_at hl 0 rfl) ?_
          refine lv_iload_n hx hb dX10_told_39 rfl (lv_at hl 1 rfl) ?_
          obtain ⟨σ12, r13, h14, hf⟩ := o_obn hf
          refine j_iV (rest := []) I ⟨hx, hb, hml, hown, hts⟩ (ct_X10_minutes σ5 p0 _ h14) (cwV 1 hts gX10_told_X10_minutes rfl rfl rfl (by decide +kernel) ⟨Nat.le_of_ble_eq_true rfl, Nat.le_of_ble_eq_true rfl⟩) (by decide) (km0 g Y _) rfl rfl hl.1 rfl (Nat.le_of_ble_eq_true rfl) dX10_told_40 ⟨Nat.zero_le _, Nat.zero_le _⟩ (fun H locs I => ?_)
          refine lv_goto (tgt := 52) hx hb dX10_told_43 (by decide) ?_
          exact j_iret I hx hb hr rfl hlk hf dX10_told_52
      · have hf := i_t c9 hf
        refine lv_aload_n hx hb dX10_told_24 rfl (lv_at hl 0 rfl) ?_
        refine j_get I hx hb hts iw_X10_told_X10 hown 0 (by decide) (km0 g Y _) rfl 8 (by decide) (hts (.fieldLink RX10 28 "ReelNightModel" "frames" "[I") (by decide +kernel)) rfl dX10_told_25 ?_
        refine lv_iload_n hx hb dX10_told_28 rfl (lv_at hl 1 rfl) ?_
        obtain ⟨b15, hf⟩ := o_nb hf
        refine j_ald I hx hb 7 (by decide) (km7 g Y _) b15 dX10_told_29 ?_
        refine lv_goto (tgt := 52) hx hb dX10_told_30 (by decide) ?_
        exact j_iret I hx hb hr rfl hlk hf dX10_told_52
    · have hf := i_t c8 hf
      refine lv_ldc hx hb hown (hts (.constant RX10 109 (-1000000001)) (by decide +kernel)) dX10_told_17 ?_
      exact j_iret I hx hb hr rfl hlk hf dX10_told_19

theorem iw_X10_order_X10 : ∀ w ∈ u_ws RX10 TX10 37, w ∈ wsX10_order := by decide +kernel
set_option maxHeartbeats 4000000 in
set_option maxRecDepth 100000 in
theorem bX10_order_L11 {p : Program} {l : Launch} {e : Env} {s : State} {m : MethodId} {args : Array Value} {below : List Frame} {meth : Method} {c : Code} {D : va_G} {g : Nat → Nat} {Y : YT} {bP : Nat} {σ0 : St} {res : St × Int32} (C0 : MC p s m args meth c cX10_order 6 (some .int) RX10 wsX10_order) {K38 : St → Int32 → Option (St × Int32)} (hK38 : ∀ (σ : St) (a2 : Int32) (H : Heap) (locs : List Loc) (ls : Array Slot), K38 σ a2 = some res → JW D 27 g (KM g Y) Y bP (va_A (wd 27 g (KM g Y) σ0) s.heap.size) s σ H locs → lv_has ls 6 [(0, .ref (g 0)), (2, .int a2)] → W p l e (⟨2, 0, 0, 43⟩ : Room) s m args below meth c H locs 0 0 (MQ below (Qi D 27 g (KM g Y) Y σ0 res s.heap.size) args s 0 0 (va_A (wd 27 g (KM g Y) σ0) s.heap.size)) (F0 m 38 ls [])) : ∀ (n : Nat) (σ : St) (a2 : Int32) (a3 : Int32) (H : Heap) (locs : List Loc) (ls : Array Slot), fX10_order_L11 K38 n σ a2 a3 = some res → JW D 27 g (KM g Y) Y bP (va_A (wd 27 g (KM g Y) σ0) s.heap.size) s σ H locs → lv_has ls 6 [(0, .ref (g 0)), (2, .int a2), (3, .int a3)] → W p l e (⟨2, 0, 0, 43⟩ : Room) s m args below meth c H locs 0 0 (MQ below (Qi D 27 g (KM g Y) Y σ0 res s.heap.size) args s 0 0 (va_A (wd 27 g (KM g Y) σ0) s.heap.size)) (F0 m 11 ls []) := by
  have C0 := C0
  obtain ⟨hx, hb, hr, hml, hown, hts, hlk⟩ := id C0
  intro n
  induction n with
  | zero =>
    intro σ a2 a3 H locs ls hf
    cases hf
  | succ n ih =>
    intro σ a2 a3 H locs ls hf I hl
    rw [fX10_order_L11] at hf
    refine lv_iload_n hx hb dX10_order_11 rfl (lv_at hl 2 rfl) ?_
    refine lv_if_le (tgt := 38) hx hb dX10_order_12 (by decide) (fun c2 => ?_) (fun c2 => ?_)
    · have hf := i_t c2 hf
      exact hK38 σ a2 _ _ _ hf I (lv_sub hl [0, 1] rfl)
    · have hf := i_f c2 hf
      refine lv_aload_n hx hb dX10_order_15 rfl (lv_at hl 0 rfl) ?_
      refine j_get I hx hb hts iw_X10_order_X10 hown 0 (by decide) (km0 g Y _) rfl 22 (by decide) (hts (.fieldLink RX10 65 "ReelNightModel" "digit" "[I") (by decide +kernel)) rfl dX10_order_16 ?_
      refine lv_iload_n hx hb dX10_order_19 rfl (lv_at hl 1 rfl) ?_
      refine lv_iload_n hx hb dX10_order_20 rfl (lv_at hl 2 rfl) ?_
      refine lv_bipush (v := 7) hx hb dX10_order_21 (by decide) ?_
      refine lv_irem hx hb dX10_order_23 (by decide) ?_
      refine lv_iconst (v := 1) hx hb dX10_order_24 (by decide) ?_
      refine lv_isub hx hb dX10_order_25 ?_
      obtain ⟨b3, hf⟩ := o_nb hf
      obtain ⟨σ4, eσ4, hf⟩ := o_stp hf
      refine j_ast I hx hb 16 (by decide) (km16 g Y) b3 eσ4 dX10_order_26 (fun H locs I => ?_)
      refine lv_iinc (v := (a2 + 1)) (lv' := [(2, .int (a2 + 1)), (0, .ref (g 0)), (3, .int a3)]) hx hb dX10_order_27 hl (k := 1) rfl rfl (by decide) rfl (fun ls hl => ?_)
      refine lv_iload_n hx hb dX10_order_30 rfl (lv_at hl 2 rfl) ?_
      refine lv_bipush (v := 7) hx hb dX10_order_31 (by decide) ?_
      refine lv_idiv hx hb dX10_order_33 (by decide) ?_
      obtain ⟨v5, ev5, hf⟩ := o_itp hf
      refine top_eq ev5 ?_
      refine lv_istore_n (lv' := [(3, .int v5), (2, .int (a2 + 1)), (0, .ref (g 0))]) hx hb dX10_order_34 rfl hl (by decide) rfl (fun ls hl => ?_)
      refine lv_goto (tgt := 11) hx hb dX10_order_35 (by decide) ?_
      exact ih σ4 (a2 + 1) v5 _ _ _ hf I (lv_sub hl [2, 1, 0] rfl)
set_option maxHeartbeats 4000000 in
set_option maxRecDepth 100000 in
theorem bX10_order_L78 {p : Program} {l : Launch} {e : Env} {s : State} {m : MethodId} {args : Array Value} {below : List Frame} {meth : Method} {c : Code} {D : va_G} {g : Nat → Nat} {Y : YT} {bP : Nat} {σ0 : St} {res : St × Int32} (C0 : MC p s m args meth c cX10_order 6 (some .int) RX10 wsX10_order) {K118 : St → Int32 → Int32 → Int32 → Option (St × Int32)} (hK118 : ∀ (σ : St) (a2 : Int32) (a3 : Int32) (a4 : Int32) (H : Heap) (locs : List Loc) (ls : Array Slot), K118 σ a2 a3 a4 = some res → JW D 27 g (KM g Y) Y bP (va_A (wd 27 g (KM g Y) σ0) s.heap.size) s σ H locs → lv_has ls 6 [(0, .ref (g 0)), (2, .int a2), (3, .int a3), (4, .int a4)] → W p l e (⟨2, 0, 0, 43⟩ : Room) s m args below meth c H locs 0 0 (MQ below (Qi D 27 g (KM g Y) Y σ0 res s.heap.size) args s 0 0 (va_A (wd 27 g (KM g Y) σ0) s.heap.size)) (F0 m 118 ls [])) : ∀ (n : Nat) (σ : St) (a2 : Int32) (a3 : Int32) (a4 : Int32) (a5 : Int32) (H : Heap) (locs : List Loc) (ls : Array Slot), fX10_order_L78 K118 n σ a2 a3 a4 a5 = some res → JW D 27 g (KM g Y) Y bP (va_A (wd 27 g (KM g Y) σ0) s.heap.size) s σ H locs → lv_has ls 6 [(0, .ref (g 0)), (2, .int a2), (3, .int a3), (4, .int a4), (5, .int a5)] → W p l e (⟨2, 0, 0, 43⟩ : Room) s m args below meth c H locs 0 0 (MQ below (Qi D 27 g (KM g Y) Y σ0 res s.heap.size) args s 0 0 (va_A (wd 27 g (KM g Y) σ0) s.heap.size)) (F0 m 78 ls []) := by
  have C0 := C0
  obtain ⟨hx, hb, hr, hml, hown, hts, hlk⟩ := id C0
  intro n
  induction n with
  | zero =>
    intro σ a2 a3 a4 a5 H locs ls hf
    cases hf
  | succ n ih =>
    intro σ a2 a3 a4 a5 H locs ls hf I hl
    rw [fX10_order_L78] at hf
    refine lv_iload hx hb dX10_order_78 (lv_at hl 4 rfl) ?_
    refine lv_iload hx hb dX10_order_80 (lv_at hl 3 rfl) ?_
    refine lv_icmp_ge (tgt := 118) hx hb dX10_order_82 (by decide) (fun c15 => ?_) (fun c15 => ?_)
    · have hf := i_t c15 hf
      exact hK118 σ a2 a3 a4 _ _ _ hf I (lv_sub hl [0, 1, 2, 3] rfl)
    · have hf := i_f c15 hf
      refine lv_iload_n hx hb dX10_order_85 rfl (lv_at hl 2 rfl) ?_
      refine lv_if_eq (tgt := 110) hx hb dX10_order_86 (by decide) (fun c16 => ?_) (fun c16 => ?_)
      · have hf := i_t c16 hf
        refine lv_iconst (v := 0) hx hb dX10_order_110 (by decide) ?_
        refine lv_istore_n (lv' := [(3, .int 0), (0, .ref (g 0)), (2, .int a2), (4, .int a4), (5, .int a5)]) hx hb dX10_order_111 rfl hl (by decide) rfl (fun ls hl => ?_)
        refine lv_iinc (v := (a5 + 1)) (lv' := [(5, .int (a5 + 1)), (3, .int 0), (0, .ref (g 0)), (2, .int a2), (4, .int a4)]) hx hb dX10_order_112 hl (k := 4) rfl rfl (by decide) rfl (fun ls hl => ?_)
        refine lv_goto (tgt := 78) hx hb dX10_order_115 (by decide) ?_
        exact ih σ a2 0 a4 (a5 + 1) _ _ _ hf I (lv_sub hl [2, 3, 1, 4, 0] rfl)
      · have hf := i_f c16 hf
        refine lv_aload_n hx hb dX10_order_89 rfl (lv_at hl 0 rfl) ?_
        refine j_get I hx hb hts iw_X10_order_X10 hown 0 (by decide) (km0 g Y _) rfl 22 (by decide) (hts (.fieldLink RX10 65 "ReelNightModel" "digit" "[I") (by decide +kernel)) rfl dX10_order_90 ?_
        refine lv_iload hx hb dX10_order_93 (lv_at hl 4 rfl) ?_
        obtain ⟨b17, hf⟩ := o_nb hf
        refine j_ald I hx hb 16 (by decide) (km16 g Y _) b17 dX10_order_95 ?_
        refine lv_aload_n hx hb dX10_order_96 rfl (lv_at hl 0 rfl) ?_
        refine j_get I hx hb hts iw_X10_order_X10 hown 0 (by decide) (km0 g Y _) rfl 22 (by decide) (hts (.fieldLink RX10 65 "ReelNightModel" "digit" "[I") (by decide +kernel)) rfl dX10_order_97 ?_
        refine lv_iload hx hb dX10_order_100 (lv_at hl 3 rfl) ?_
        obtain ⟨b18, hf⟩ := o_nb hf
        refine j_ald I hx hb 16 (by decide) (km16 g Y _) b18 dX10_order_102 ?_
        refine lv_icmp_eq (tgt := 110) hx hb dX10_order_103 (by decide) (fun c19 => ?_) (fun c19 => ?_)
        · have hf := i_t c19 hf
          refine lv_iconst (v := 0) hx hb dX10_order_110 (by decide) ?_
          refine lv_istore_n (lv' := [(3, .int 0), (0, .ref (g 0)), (2, .int a2), (4, .int a4), (5, .int a5)]) hx hb dX10_order_111 rfl hl (by decide) rfl (fun ls hl => ?_)
          refine lv_iinc (v := (a5 + 1)) (lv' := [(5, .int (a5 + 1)), (3, .int 0), (0, .ref (g 0)), (2, .int a2), (4, .int a4)]) hx hb dX10_order_112 hl (k := 4) rfl rfl (by decide) rfl (fun ls hl => ?_)
          refine lv_goto (tgt := 78) hx hb dX10_order_115 (by decide) ?_
          exact ih σ a2 0 a4 (a5 + 1) _ _ _ hf I (lv_sub hl [2, 3, 1, 4, 0] rfl)
        · have hf := i_f c19 hf
          refine lv_iconst (v := 1) hx hb dX10_order_106 (by decide) ?_
          refine lv_goto (tgt := 111) hx hb dX10_order_107 (by decide) ?_
          refine lv_istore_n (lv' := [(3, .int 1), (0, .ref (g 0)), (2, .int a2), (4, .int a4), (5, .int a5)]) hx hb dX10_order_111 rfl hl (by decide) rfl (fun ls hl => ?_)
          refine lv_iinc (v := (a5 + 1)) (lv' := [(5, .int (a5 + 1)), (3, .int 1), (0, .ref (g 0)), (2, .int a2), (4, .int a4)]) hx hb dX10_order_112 hl (k := 4) rfl rfl (by decide) rfl (fun ls hl => ?_)
          refine lv_goto (tgt := 78) hx hb dX10_order_115 (by decide) ?_
          exact ih σ a2 1 a4 (a5 + 1) _ _ _ hf I (lv_sub hl [2, 3, 1, 4, 0] rfl)
set_option maxHeartbeats 4000000 in
set_option maxRecDepth 100000 in
theorem bX10_order_L53 {p : Program} {l : Launch} {e : Env} {s : State} {m : MethodId} {args : Array Value} {below : List Frame} {meth : Method} {c : Code} {D : va_G} {g : Nat → Nat} {Y : YT} {bP : Nat} {σ0 : St} {res : St × Int32} (C0 : MC p s m args meth c cX10_order 6 (some .int) RX10 wsX10_order) {K124 : St → Int32 → Int32 → Option (St × Int32)} (hK124 : ∀ (σ : St) (a2 : Int32) (a3 : Int32) (H : Heap) (locs : List Loc) (ls : Array Slot), K124 σ a2 a3 = some res → JW D 27 g (KM g Y) Y bP (va_A (wd 27 g (KM g Y) σ0) s.heap.size) s σ H locs → lv_has ls 6 [(0, .ref (g 0)), (2, .int a2), (3, .int a3)] → W p l e (⟨2, 0, 0, 43⟩ : Room) s m args below meth c H locs 0 0 (MQ below (Qi D 27 g (KM g Y) Y σ0 res s.heap.size) args s 0 0 (va_A (wd 27 g (KM g Y) σ0) s.heap.size)) (F0 m 124 ls [])) : ∀ (n : Nat) (σ : St) (a2 : Int32) (a3 : Int32) (a4 : Int32) (H : Heap) (locs : List Loc) (ls : Array Slot), fX10_order_L53 K124 n σ a2 a3 a4 = some res → JW D 27 g (KM g Y) Y bP (va_A (wd 27 g (KM g Y) σ0) s.heap.size) s σ H locs → lv_has ls 6 [(0, .ref (g 0)), (2, .int a2), (3, .int a3), (4, .int a4)] → W p l e (⟨2, 0, 0, 43⟩ : Room) s m args below meth c H locs 0 0 (MQ below (Qi D 27 g (KM g Y) Y σ0 res s.heap.size) args s 0 0 (va_A (wd 27 g (KM g Y) σ0) s.heap.size)) (F0 m 53 ls []) := by
  have C0 := C0
  obtain ⟨hx, hb, hr, hml, hown, hts, hlk⟩ := id C0
  intro n
  induction n with
  | zero =>
    intro σ a2 a3 a4 H locs ls hf
    cases hf
  | succ n ih =>
    intro σ a2 a3 a4 H locs ls hf I hl
    rw [fX10_order_L53] at hf
    refine lv_iload hx hb dX10_order_53 (lv_at hl 3 rfl) ?_
    refine lv_iload_n hx hb dX10_order_55 rfl (lv_at hl 1 rfl) ?_
    refine lv_icmp_ge (tgt := 124) hx hb dX10_order_56 (by decide) (fun c9 => ?_) (fun c9 => ?_)
    · have hf := i_t c9 hf
      exact hK124 σ a2 a3 _ _ _ hf I (lv_sub hl [0, 1, 2] rfl)
    · have hf := i_f c9 hf
      refine lv_iload_n hx hb dX10_order_59 rfl (lv_at hl 2 rfl) ?_
      refine lv_if_eq (tgt := 124) hx hb dX10_order_60 (by decide) (fun c10 => ?_) (fun c10 => ?_)
      · have hf := i_t c10 hf
        exact hK124 σ a2 a3 _ _ _ hf I (lv_sub hl [0, 1, 2] rfl)
      · have hf := i_f c10 hf
        refine lv_aload_n hx hb dX10_order_63 rfl (lv_at hl 0 rfl) ?_
        refine lv_aload_n hx hb dX10_order_64 rfl (lv_at hl 0 rfl) ?_
        refine j_get I hx hb hts iw_X10_order_X10 hown 0 (by decide) (km0 g Y _) rfl 22 (by decide) (hts (.fieldLink RX10 65 "ReelNightModel" "digit" "[I") (by decide +kernel)) rfl dX10_order_65 ?_
        refine lv_iload hx hb dX10_order_68 (lv_at hl 3 rfl) ?_
        obtain ⟨b11, hf⟩ := o_nb hf
        refine j_ald I hx hb 16 (by decide) (km16 g Y _) b11 dX10_order_70 ?_
        obtain ⟨σ12, r13, h14, hf⟩ := o_obn hf
        refine j_iV (rest := []) I ⟨hx, hb, hml, hown, hts⟩ (ct_X10_isHouse σ (σ 16 a4.toNatClampNeg) _ h14) (cwV 1 hts gX10_order_X10_isHouse rfl rfl rfl (by decide +kernel) ⟨Nat.le_of_ble_eq_true rfl, Nat.le_of_ble_eq_true rfl⟩) (by decide) (km0 g Y _) rfl rfl hl.1 rfl (Nat.le_of_ble_eq_true rfl) dX10_order_71 ⟨Nat.zero_le _, Nat.zero_le _⟩ (fun H locs I => ?_)
        refine lv_istore_n (lv' := [(3, .int r13), (0, .ref (g 0)), (2, .int a2), (4, .int a4)]) hx hb dX10_order_74 rfl hl (by decide) rfl (fun ls hl => ?_)
        refine lv_iconst (v := 0) hx hb dX10_order_75 (by decide) ?_
        refine lv_istore (lv' := [(5, .int 0), (3, .int r13), (0, .ref (g 0)), (2, .int a2), (4, .int a4)]) hx hb dX10_order_76 hl (by decide) rfl (fun ls hl => ?_)
        refine bX10_order_L78 C0 ?_ 50 σ12 a2 r13 a4 0 _ _ _ hf I (lv_sub hl [2, 3, 1, 4, 0] rfl)
        · intro σ20 a21 a22 a23 H locs ls hf I hl
          refine lv_iinc (v := (a23 + 1)) (lv' := [(4, .int (a23 + 1)), (0, .ref (g 0)), (2, .int a21), (3, .int a22)]) hx hb dX10_order_118 hl (k := 3) rfl rfl (by decide) rfl (fun ls hl => ?_)
          refine lv_goto (tgt := 53) hx hb dX10_order_121 (by decide) ?_
          exact ih σ20 a21 a22 (a23 + 1) _ _ _ hf I (lv_sub hl [1, 2, 3, 0] rfl)
set_option maxHeartbeats 4000000 in
set_option maxRecDepth 100000 in
theorem bX10_order_L149 {p : Program} {l : Launch} {e : Env} {s : State} {m : MethodId} {args : Array Value} {below : List Frame} {meth : Method} {c : Code} {D : va_G} {g : Nat → Nat} {Y : YT} {bP : Nat} {σ0 : St} {res : St × Int32} (C0 : MC p s m args meth c cX10_order 6 (some .int) RX10 wsX10_order) {K179 : St → Int32 → Option (St × Int32)} (hK179 : ∀ (σ : St) (a2 : Int32) (H : Heap) (locs : List Loc) (ls : Array Slot), K179 σ a2 = some res → JW D 27 g (KM g Y) Y bP (va_A (wd 27 g (KM g Y) σ0) s.heap.size) s σ H locs → lv_has ls 6 [(0, .ref (g 0)), (2, .int a2)] → W p l e (⟨2, 0, 0, 43⟩ : Room) s m args below meth c H locs 0 0 (MQ below (Qi D 27 g (KM g Y) Y σ0 res s.heap.size) args s 0 0 (va_A (wd 27 g (KM g Y) σ0) s.heap.size)) (F0 m 179 ls [])) : ∀ (n : Nat) (σ : St) (a2 : Int32) (a4 : Int32) (H : Heap) (locs : List Loc) (ls : Array Slot), fX10_order_L149 K179 n σ a2 a4 = some res → JW D 27 g (KM g Y) Y bP (va_A (wd 27 g (KM g Y) σ0) s.heap.size) s σ H locs → lv_has ls 6 [(0, .ref (g 0)), (2, .int a2), (4, .int a4)] → W p l e (⟨2, 0, 0, 43⟩ : Room) s m args below meth c H locs 0 0 (MQ below (Qi D 27 g (KM g Y) Y σ0 res s.heap.size) args s 0 0 (va_A (wd 27 g (KM g Y) σ0) s.heap.size)) (F0 m 149 ls []) := by
  have C0 := C0
  obtain ⟨hx, hb, hr, hml, hown, hts, hlk⟩ := id C0
  intro n
  induction n with
  | zero =>
    intro σ a2 a4 H locs ls hf
    cases hf
  | succ n ih =>
    intro σ a2 a4 H locs ls hf I hl
    rw [fX10_order_L149] at hf
    refine lv_iload hx hb dX10_order_149 (lv_at hl 2 rfl) ?_
    refine lv_iload_n hx hb dX10_order_151 rfl (lv_at hl 1 rfl) ?_
    refine lv_icmp_ge (tgt := 179) hx hb dX10_order_152 (by decide) (fun c30 => ?_) (fun c30 => ?_)
    · have hf := i_t c30 hf
      exact hK179 σ a2 _ _ _ hf I (lv_sub hl [0, 1] rfl)
    · have hf := i_f c30 hf
      refine lv_aload_n hx hb dX10_order_155 rfl (lv_at hl 0 rfl) ?_
      refine j_get I hx hb hts iw_X10_order_X10 hown 0 (by decide) (km0 g Y _) rfl 11 (by decide) (hts (.fieldLink RX10 34 "ReelNightModel" "order" "[I") (by decide +kernel)) rfl dX10_order_156 ?_
      refine lv_iload hx hb dX10_order_159 (lv_at hl 2 rfl) ?_
      refine lv_aload_n hx hb dX10_order_161 rfl (lv_at hl 0 rfl) ?_
      refine j_get I hx hb hts iw_X10_order_X10 hown 0 (by decide) (km0 g Y _) rfl 22 (by decide) (hts (.fieldLink RX10 65 "ReelNightModel" "digit" "[I") (by decide +kernel)) rfl dX10_order_162 ?_
      refine lv_iload_n hx hb dX10_order_165 rfl (lv_at hl 1 rfl) ?_
      refine lv_iconst (v := 1) hx hb dX10_order_166 (by decide) ?_
      refine lv_isub hx hb dX10_order_167 ?_
      refine lv_iload hx hb dX10_order_168 (lv_at hl 2 rfl) ?_
      refine lv_isub hx hb dX10_order_170 ?_
      obtain ⟨b31, hf⟩ := o_nb hf
      refine j_ald I hx hb 16 (by decide) (km16 g Y _) b31 dX10_order_171 ?_
      obtain ⟨b32, hf⟩ := o_nb hf
      obtain ⟨σ33, eσ33, hf⟩ := o_stp hf
      refine j_ast I hx hb 9 (by decide) (km9 g Y) b32 eσ33 dX10_order_172 (fun H locs I => ?_)
      refine lv_iinc (v := (a4 + 1)) (lv' := [(4, .int (a4 + 1)), (0, .ref (g 0)), (2, .int a2)]) hx hb dX10_order_173 hl (k := 2) rfl rfl (by decide) rfl (fun ls hl => ?_)
      refine lv_goto (tgt := 149) hx hb dX10_order_176 (by decide) ?_
      exact ih σ33 a2 (a4 + 1) _ _ _ hf I (lv_sub hl [1, 2, 0] rfl)
set_option maxHeartbeats 4000000 in
set_option maxRecDepth 100000 in
theorem bX10_order_L182 {p : Program} {l : Launch} {e : Env} {s : State} {m : MethodId} {args : Array Value} {below : List Frame} {meth : Method} {c : Code} {D : va_G} {g : Nat → Nat} {Y : YT} {bP : Nat} {σ0 : St} {res : St × Int32} (C0 : MC p s m args meth c cX10_order 6 (some .int) RX10 wsX10_order) : ∀ (n : Nat) (σ : St) (a2 : Int32) (a4 : Int32) (H : Heap) (locs : List Loc) (ls : Array Slot), fX10_order_L182 n σ a2 a4 = some res → JW D 27 g (KM g Y) Y bP (va_A (wd 27 g (KM g Y) σ0) s.heap.size) s σ H locs → lv_has ls 6 [(0, .ref (g 0)), (2, .int a2), (4, .int a4)] → W p l e (⟨2, 0, 0, 43⟩ : Room) s m args below meth c H locs 0 0 (MQ below (Qi D 27 g (KM g Y) Y σ0 res s.heap.size) args s 0 0 (va_A (wd 27 g (KM g Y) σ0) s.heap.size)) (F0 m 182 ls []) := by
  have C0 := C0
  obtain ⟨hx, hb, hr, hml, hown, hts, hlk⟩ := id C0
  intro n
  induction n with
  | zero =>
    intro σ a2 a4 H locs ls hf
    cases hf
  | succ n ih =>
    intro σ a2 a4 H locs ls hf I hl
    rw [fX10_order_L182] at hf
    refine lv_iload hx hb dX10_order_182 (lv_at hl 2 rfl) ?_
    refine lv_bipush (v := 40) hx hb dX10_order_184 (by decide) ?_
    refine lv_icmp_ge (tgt := 203) hx hb dX10_order_186 (by decide) (fun c36 => ?_) (fun c36 => ?_)
    · have hf := i_t c36 hf
      refine lv_iload_n hx hb dX10_order_203 rfl (lv_at hl 1 rfl) ?_
      exact j_iret I hx hb hr rfl hlk hf dX10_order_204
    · have hf := i_f c36 hf
      refine lv_aload_n hx hb dX10_order_189 rfl (lv_at hl 0 rfl) ?_
      refine j_get I hx hb hts iw_X10_order_X10 hown 0 (by decide) (km0 g Y _) rfl 12 (by decide) (hts (.fieldLink RX10 37 "ReelNightModel" "lates" "[I") (by decide +kernel)) rfl dX10_order_190 ?_
      refine lv_iload hx hb dX10_order_193 (lv_at hl 2 rfl) ?_
      refine lv_iconst (v := 0) hx hb dX10_order_195 (by decide) ?_
      obtain ⟨b37, hf⟩ := o_nb hf
      obtain ⟨σ38, eσ38, hf⟩ := o_stp hf
      refine j_ast I hx hb 10 (by decide) (km10 g Y) b37 eσ38 dX10_order_196 (fun H locs I => ?_)
      refine lv_iinc (v := (a4 + 1)) (lv' := [(4, .int (a4 + 1)), (0, .ref (g 0)), (2, .int a2)]) hx hb dX10_order_197 hl (k := 2) rfl rfl (by decide) rfl (fun ls hl => ?_)
      refine lv_goto (tgt := 182) hx hb dX10_order_200 (by decide) ?_
      exact ih σ38 a2 (a4 + 1) _ _ _ hf I (lv_sub hl [1, 2, 0] rfl)
set_option maxHeartbeats 4000000 in
set_option maxRecDepth 100000 in
theorem ct_X10_order {l : Launch} {D : va_G} {g : Nat → Nat} {Y : YT} {bP : Nat} (σ : St) (p0 : Int32) (res : St × Int32) (hf : fX10_order σ p0 = some res) : Ci l yX10_order wsX10_order ⟨2, 0, 0, 43⟩ D 27 g (KM g Y) Y bP [.ref (g 0), .int p0] σ res := by
  intro sz
  refine Met.ofW (cc := cX10_order) (maxL := 6) (ret := (some .int)) (by decide) rfl ?_
  intro p e s m args below meth c s₁ B hml hv
  obtain ⟨rfl, rfl, I⟩ := j_start hv
  have C0 : MC p s m _ meth c cX10_order 6 (some .int) RX10 wsX10_order := ⟨B.exec, B.bytes, B.returns, hml, findClass_of_methodNamed B.named, atoms_spec (ws := wsX10_order) B.pre, B.notSynchronized⟩
  obtain ⟨hx, hb, hr, hml, hown, hts, hlk⟩ := id C0
  have hl := lv_entry ([.ref (g 0), .int p0]) (n := 6) (Nat.le_of_ble_eq_true rfl)
  rw [lg_entry_eq]
  generalize (lg_sl ([.ref (g 0), .int p0]) ++ List.replicate (6 - (lg_sl ([.ref (g 0), .int p0])).length) Slot.unset).toArray = ls at hl ⊢
  have hl : lv_has ls 6 [(0, .ref (g 0)), (1, .int p0)] := hl
  rw [fX10_order] at hf
  refine lv_iload_n hx hb dX10_order_0 rfl (lv_at hl 1 rfl) ?_
  refine lv_if_ge (tgt := 7) hx hb dX10_order_1 (by decide) (fun c1 => ?_) (fun c1 => ?_)
  · have hf := i_t c1 hf
    refine lv_iconst (v := 0) hx hb dX10_order_7 (by decide) ?_
    refine lv_istore_n (lv' := [(2, .int 0), (0, .ref (g 0)), (1, .int p0)]) hx hb dX10_order_8 rfl hl (by decide) rfl (fun ls hl => ?_)
    refine lv_iload_n hx hb dX10_order_9 rfl (lv_at hl 2 rfl) ?_
    refine lv_istore_n (lv' := [(3, .int p0), (2, .int 0), (0, .ref (g 0)), (1, .int p0)]) hx hb dX10_order_10 rfl hl (by decide) rfl (fun ls hl => ?_)
    refine bX10_order_L11 C0 ?_ 50 σ 0 p0 _ _ _ hf I (lv_sub hl [2, 1, 0] rfl)
    · intro σ6 a7 H locs ls hf I hl
      refine lv_iload_n hx hb dX10_order_38 rfl (lv_at hl 1 rfl) ?_
      refine lv_bipush (v := 6) hx hb dX10_order_39 (by decide) ?_
      refine lv_icmp_gt (tgt := 48) hx hb dX10_order_41 (by decide) (fun c8 => ?_) (fun c8 => ?_)
      · have hf := i_t c8 hf
        refine lv_iconst (v := 0) hx hb dX10_order_48 (by decide) ?_
        refine lv_istore_n (lv' := [(3, .int 0), (0, .ref (g 0)), (2, .int a7)]) hx hb dX10_order_49 rfl hl (by decide) rfl (fun ls hl => ?_)
        refine lv_iconst (v := 0) hx hb dX10_order_50 (by decide) ?_
        refine lv_istore (lv' := [(4, .int 0), (3, .int 0), (0, .ref (g 0)), (2, .int a7)]) hx hb dX10_order_51 hl (by decide) rfl (fun ls hl => ?_)
        refine bX10_order_L53 C0 ?_ 50 σ6 a7 0 0 _ _ _ hf I (lv_sub hl [2, 3, 1, 0] rfl)
        · intro σ24 a25 a26 H locs ls hf I hl
          refine lv_iload_n hx hb dX10_order_124 rfl (lv_at hl 2 rfl) ?_
          refine lv_if_ne (tgt := 131) hx hb dX10_order_125 (by decide) (fun c27 => ?_) (fun c27 => ?_)
          · have hf := i_f c27 hf
            refine lv_aload_n hx hb dX10_order_131 rfl (lv_at hl 0 rfl) ?_
            refine j_get I hx hb hts iw_X10_order_X10 hown 0 (by decide) (km0 g Y _) rfl 7 (by decide) (hts (.fieldLink RX10 106 "ReelNightModel" "reels" "I") (by decide +kernel)) rfl dX10_order_132 ?_
            refine lv_if_ne (tgt := 141) hx hb dX10_order_135 (by decide) (fun c28 => ?_) (fun c28 => ?_)
            · have hf := i_f c28 hf
              refine lv_aload_n hx hb dX10_order_141 rfl (lv_at hl 0 rfl) ?_
              refine lv_iload_n hx hb dX10_order_142 rfl (lv_at hl 1 rfl) ?_
              obtain ⟨σ29, eσ29, hf⟩ := o_stp hf
              refine j_put I hx hb hts iw_X10_order_X10 tyX10 tyX10_ok nmX10 hown 0 (by decide) (km0 g Y _) rfl 10 (by decide) (hts (.fieldLink RX10 118 "ReelNightModel" "many" "I") (by decide +kernel)) rfl rfl rfl (Nat.le_of_ble_eq_true rfl) (kms0_10 g Y _ _) eσ29 dX10_order_143 (fun H locs I => ?_)
              refine lv_iconst (v := 0) hx hb dX10_order_146 (by decide) ?_
              refine lv_istore (lv' := [(4, .int 0), (0, .ref (g 0)), (2, .int a25), (3, .int a26)]) hx hb dX10_order_147 hl (by decide) rfl (fun ls hl => ?_)
              refine bX10_order_L149 C0 ?_ 50 σ29 a25 0 _ _ _ hf I (lv_sub hl [1, 2, 0] rfl)
              · intro σ34 a35 H locs ls hf I hl
                refine lv_iconst (v := 0) hx hb dX10_order_179 (by decide) ?_
                refine lv_istore (lv' := [(4, .int 0), (0, .ref (g 0)), (2, .int a35)]) hx hb dX10_order_180 hl (by decide) rfl (fun ls hl => ?_)
                refine bX10_order_L182 C0 50 σ34 a35 0 _ _ _ hf I (lv_sub hl [1, 2, 0] rfl)
            · have hf := i_t c28 hf
              refine lv_ldc hx hb hown (hts (.constant RX10 128 (-1000000002)) (by decide +kernel)) dX10_order_138 ?_
              exact j_iret I hx hb hr rfl hlk hf dX10_order_140
          · have hf := i_t c27 hf
            refine lv_ldc hx hb hown (hts (.constant RX10 109 (-1000000001)) (by decide +kernel)) dX10_order_128 ?_
            exact j_iret I hx hb hr rfl hlk hf dX10_order_130
      · have hf := i_f c8 hf
        refine lv_iconst (v := 1) hx hb dX10_order_44 (by decide) ?_
        refine lv_goto (tgt := 49) hx hb dX10_order_45 (by decide) ?_
        refine lv_istore_n (lv' := [(3, .int 1), (0, .ref (g 0)), (2, .int a7)]) hx hb dX10_order_49 rfl hl (by decide) rfl (fun ls hl => ?_)
        refine lv_iconst (v := 0) hx hb dX10_order_50 (by decide) ?_
        refine lv_istore (lv' := [(4, .int 0), (3, .int 1), (0, .ref (g 0)), (2, .int a7)]) hx hb dX10_order_51 hl (by decide) rfl (fun ls hl => ?_)
        refine bX10_order_L53 C0 ?_ 50 σ6 a7 1 0 _ _ _ hf I (lv_sub hl [2, 3, 1, 0] rfl)
        · intro σ39 a40 a41 H locs ls hf I hl
          refine lv_iload_n hx hb dX10_order_124 rfl (lv_at hl 2 rfl) ?_
          refine lv_if_ne (tgt := 131) hx hb dX10_order_125 (by decide) (fun c42 => ?_) (fun c42 => ?_)
          · have hf := i_f c42 hf
            refine lv_aload_n hx hb dX10_order_131 rfl (lv_at hl 0 rfl) ?_
            refine j_get I hx hb hts iw_X10_order_X10 hown 0 (by decide) (km0 g Y _) rfl 7 (by decide) (hts (.fieldLink RX10 106 "ReelNightModel" "reels" "I") (by decide +kernel)) rfl dX10_order_132 ?_
            refine lv_if_ne (tgt := 141) hx hb dX10_order_135 (by decide) (fun c43 => ?_) (fun c43 => ?_)
            · have hf := i_f c43 hf
              refine lv_aload_n hx hb dX10_order_141 rfl (lv_at hl 0 rfl) ?_
              refine lv_iload_n hx hb dX10_order_142 rfl (lv_at hl 1 rfl) ?_
              obtain ⟨σ44, eσ44, hf⟩ := o_stp hf
              refine j_put I hx hb hts iw_X10_order_X10 tyX10 tyX10_ok nmX10 hown 0 (by decide) (km0 g Y _) rfl 10 (by decide) (hts (.fieldLink RX10 118 "ReelNightModel" "many" "I") (by decide +kernel)) rfl rfl rfl (Nat.le_of_ble_eq_true rfl) (kms0_10 g Y _ _) eσ44 dX10_order_143 (fun H locs I => ?_)
              refine lv_iconst (v := 0) hx hb dX10_order_146 (by decide) ?_
              refine lv_istore (lv' := [(4, .int 0), (0, .ref (g 0)), (2, .int a40), (3, .int a41)]) hx hb dX10_order_147 hl (by decide) rfl (fun ls hl => ?_)
              refine bX10_order_L149 C0 ?_ 50 σ44 a40 0 _ _ _ hf I (lv_sub hl [1, 2, 0] rfl)
              · intro σ45 a46 H locs ls hf I hl
                refine lv_iconst (v := 0) hx hb dX10_order_179 (by decide) ?_
                refine lv_istore (lv' := [(4, .int 0), (0, .ref (g 0)), (2, .int a46)]) hx hb dX10_order_180 hl (by decide) rfl (fun ls hl => ?_)
                refine bX10_order_L182 C0 50 σ45 a46 0 _ _ _ hf I (lv_sub hl [1, 2, 0] rfl)
            · have hf := i_t c43 hf
              refine lv_ldc hx hb hown (hts (.constant RX10 128 (-1000000002)) (by decide +kernel)) dX10_order_138 ?_
              exact j_iret I hx hb hr rfl hlk hf dX10_order_140
          · have hf := i_t c42 hf
            refine lv_ldc hx hb hown (hts (.constant RX10 109 (-1000000001)) (by decide +kernel)) dX10_order_128 ?_
            exact j_iret I hx hb hr rfl hlk hf dX10_order_130
  · have hf := i_f c1 hf
    refine lv_ldc hx hb hown (hts (.constant RX10 109 (-1000000001)) (by decide +kernel)) dX10_order_4 ?_
    exact j_iret I hx hb hr rfl hlk hf dX10_order_6

theorem iw_X10_wayTo_X10 : ∀ w ∈ u_ws RX10 TX10 37, w ∈ wsX10_wayTo := by decide +kernel
set_option maxHeartbeats 4000000 in
set_option maxRecDepth 100000 in
theorem ct_X10_wayTo {l : Launch} {D : va_G} {g : Nat → Nat} {Y : YT} {bP : Nat} (σ : St) (p0 : Int32) (res : St × Int32) (hf : fX10_wayTo σ p0 = some res) : Ci l yX10_wayTo wsX10_wayTo ⟨0, 0, 0, 0⟩ D 27 g (KM g Y) Y bP [.ref (g 0), .int p0] σ res := by
  intro sz
  refine Met.ofW (cc := cX10_wayTo) (maxL := 2) (ret := (some .int)) (by decide) rfl ?_
  intro p e s m args below meth c s₁ B hml hv
  obtain ⟨rfl, rfl, I⟩ := j_start hv
  have C0 : MC p s m _ meth c cX10_wayTo 2 (some .int) RX10 wsX10_wayTo := ⟨B.exec, B.bytes, B.returns, hml, findClass_of_methodNamed B.named, atoms_spec (ws := wsX10_wayTo) B.pre, B.notSynchronized⟩
  obtain ⟨hx, hb, hr, hml, hown, hts, hlk⟩ := id C0
  have hl := lv_entry ([.ref (g 0), .int p0]) (n := 2) (Nat.le_of_ble_eq_true rfl)
  rw [lg_entry_eq]
  generalize (lg_sl ([.ref (g 0), .int p0]) ++ List.replicate (2 - (lg_sl ([.ref (g 0), .int p0])).length) Slot.unset).toArray = ls at hl ⊢
  have hl : lv_has ls 2 [(0, .ref (g 0)), (1, .int p0)] := hl
  rw [fX10_wayTo] at hf
  refine lv_aload_n hx hb dX10_wayTo_0 rfl (lv_at hl 0 rfl) ?_
  refine j_get I hx hb hts iw_X10_wayTo_X10 hown 0 (by decide) (km0 g Y _) rfl 5 (by decide) (hts (.fieldLink RX10 22 "ReelNightModel" "ways" "[I") (by decide +kernel)) rfl dX10_wayTo_1 ?_
  refine lv_bipush (v := 6) hx hb dX10_wayTo_4 (by decide) ?_
  refine lv_aload_n hx hb dX10_wayTo_6 rfl (lv_at hl 0 rfl) ?_
  refine j_get I hx hb hts iw_X10_wayTo_X10 hown 0 (by decide) (km0 g Y _) rfl 11 (by decide) (hts (.fieldLink RX10 34 "ReelNightModel" "order" "[I") (by decide +kernel)) rfl dX10_wayTo_7 ?_
  refine lv_iload_n hx hb dX10_wayTo_10 rfl (lv_at hl 1 rfl) ?_
  refine lv_iconst (v := 1) hx hb dX10_wayTo_11 (by decide) ?_
  refine lv_isub hx hb dX10_wayTo_12 ?_
  obtain ⟨b1, hf⟩ := o_nb hf
  refine j_ald I hx hb 9 (by decide) (km9 g Y _) b1 dX10_wayTo_13 ?_
  refine lv_imul hx hb dX10_wayTo_14 ?_
  refine lv_aload_n hx hb dX10_wayTo_15 rfl (lv_at hl 0 rfl) ?_
  refine j_get I hx hb hts iw_X10_wayTo_X10 hown 0 (by decide) (km0 g Y _) rfl 11 (by decide) (hts (.fieldLink RX10 34 "ReelNightModel" "order" "[I") (by decide +kernel)) rfl dX10_wayTo_16 ?_
  refine lv_iload_n hx hb dX10_wayTo_19 rfl (lv_at hl 1 rfl) ?_
  obtain ⟨b2, hf⟩ := o_nb hf
  refine j_ald I hx hb 9 (by decide) (km9 g Y _) b2 dX10_wayTo_20 ?_
  refine lv_iadd hx hb dX10_wayTo_21 ?_
  obtain ⟨b3, hf⟩ := o_nb hf
  refine j_ald I hx hb 5 (by decide) (km5 g Y _) b3 dX10_wayTo_22 ?_
  exact j_iret I hx hb hr rfl hlk hf dX10_wayTo_23

theorem iw_X10_longest_X10 : ∀ w ∈ u_ws RX10 TX10 37, w ∈ wsX10_longest := by decide +kernel
set_option maxHeartbeats 4000000 in
set_option maxRecDepth 100000 in
theorem bX10_longest_L4 {p : Program} {l : Launch} {e : Env} {s : State} {m : MethodId} {args : Array Value} {below : List Frame} {meth : Method} {c : Code} {D : va_G} {g : Nat → Nat} {Y : YT} {bP : Nat} {σ0 : St} {res : St × Int32} (C0 : MC p s m args meth c cX10_longest 3 (some .int) RX10 wsX10_longest) : ∀ (n : Nat) (σ : St) (a1 : Int32) (a2 : Int32) (H : Heap) (locs : List Loc) (ls : Array Slot), fX10_longest_L4 n σ a1 a2 = some res → JW D 27 g (KM g Y) Y bP (va_A (wd 27 g (KM g Y) σ0) s.heap.size) s σ H locs → lv_has ls 3 [(0, .ref (g 0)), (1, .int a1), (2, .int a2)] → W p l e (⟨1, 0, 0, 22⟩ : Room) s m args below meth c H locs 0 0 (MQ below (Qi D 27 g (KM g Y) Y σ0 res s.heap.size) args s 0 0 (va_A (wd 27 g (KM g Y) σ0) s.heap.size)) (F0 m 4 ls []) := by
  have C0 := C0
  obtain ⟨hx, hb, hr, hml, hown, hts, hlk⟩ := id C0
  intro n
  induction n with
  | zero =>
    intro σ a1 a2 H locs ls hf
    cases hf
  | succ n ih =>
    intro σ a1 a2 H locs ls hf I hl
    rw [fX10_longest_L4] at hf
    refine lv_iload_n hx hb dX10_longest_4 rfl (lv_at hl 2 rfl) ?_
    refine lv_aload_n hx hb dX10_longest_5 rfl (lv_at hl 0 rfl) ?_
    refine j_get I hx hb hts iw_X10_longest_X10 hown 0 (by decide) (km0 g Y _) rfl 7 (by decide) (hts (.fieldLink RX10 106 "ReelNightModel" "reels" "I") (by decide +kernel)) rfl dX10_longest_6 ?_
    refine lv_icmp_ge (tgt := 37) hx hb dX10_longest_9 (by decide) (fun c1 => ?_) (fun c1 => ?_)
    · have hf := i_t c1 hf
      refine lv_iload_n hx hb dX10_longest_37 rfl (lv_at hl 1 rfl) ?_
      exact j_iret I hx hb hr rfl hlk hf dX10_longest_38
    · have hf := i_f c1 hf
      refine lv_aload_n hx hb dX10_longest_12 rfl (lv_at hl 0 rfl) ?_
      refine lv_iload_n hx hb dX10_longest_13 rfl (lv_at hl 2 rfl) ?_
      obtain ⟨σ2, r3, h4, hf⟩ := o_obn hf
      refine j_iV (rest := []) I ⟨hx, hb, hml, hown, hts⟩ (ct_X10_minutes σ a2 _ h4) (cwV 1 hts gX10_longest_X10_minutes rfl rfl rfl (by decide +kernel) ⟨Nat.le_of_ble_eq_true rfl, Nat.le_of_ble_eq_true rfl⟩) (by decide) (km0 g Y _) rfl rfl hl.1 rfl (Nat.le_of_ble_eq_true rfl) dX10_longest_14 ⟨Nat.zero_le _, Nat.zero_le _⟩ (fun H locs I => ?_)
      refine lv_iload_n hx hb dX10_longest_17 rfl (lv_at hl 1 rfl) ?_
      refine lv_icmp_le (tgt := 29) hx hb dX10_longest_18 (by decide) (fun c5 => ?_) (fun c5 => ?_)
      · have hf := i_t c5 hf
        refine lv_iload_n hx hb dX10_longest_29 rfl (lv_at hl 1 rfl) ?_
        refine lv_istore_n (lv' := [(1, .int a1), (0, .ref (g 0)), (2, .int a2)]) hx hb dX10_longest_30 rfl hl (by decide) rfl (fun ls hl => ?_)
        refine lv_iinc (v := (a2 + 1)) (lv' := [(2, .int (a2 + 1)), (1, .int a1), (0, .ref (g 0))]) hx hb dX10_longest_31 hl (k := 2) rfl rfl (by decide) rfl (fun ls hl => ?_)
        refine lv_goto (tgt := 4) hx hb dX10_longest_34 (by decide) ?_
        exact ih σ2 a1 (a2 + 1) _ _ _ hf I (lv_sub hl [2, 1, 0] rfl)
      · have hf := i_f c5 hf
        refine lv_aload_n hx hb dX10_longest_21 rfl (lv_at hl 0 rfl) ?_
        refine lv_iload_n hx hb dX10_longest_22 rfl (lv_at hl 2 rfl) ?_
        obtain ⟨σ6, r7, h8, hf⟩ := o_obn hf
        refine j_iV (rest := []) I ⟨hx, hb, hml, hown, hts⟩ (ct_X10_minutes σ2 a2 _ h8) (cwV 1 hts gX10_longest_X10_minutes rfl rfl rfl (by decide +kernel) ⟨Nat.le_of_ble_eq_true rfl, Nat.le_of_ble_eq_true rfl⟩) (by decide) (km0 g Y _) rfl rfl hl.1 rfl (Nat.le_of_ble_eq_true rfl) dX10_longest_23 ⟨Nat.zero_le _, Nat.zero_le _⟩ (fun H locs I => ?_)
        refine lv_goto (tgt := 30) hx hb dX10_longest_26 (by decide) ?_
        refine lv_istore_n (lv' := [(1, .int r7), (0, .ref (g 0)), (2, .int a2)]) hx hb dX10_longest_30 rfl hl (by decide) rfl (fun ls hl => ?_)
        refine lv_iinc (v := (a2 + 1)) (lv' := [(2, .int (a2 + 1)), (1, .int r7), (0, .ref (g 0))]) hx hb dX10_longest_31 hl (k := 2) rfl rfl (by decide) rfl (fun ls hl => ?_)
        refine lv_goto (tgt := 4) hx hb dX10_longest_34 (by decide) ?_
        exact ih σ6 r7 (a2 + 1) _ _ _ hf I (lv_sub hl [2, 1, 0] rfl)
set_option maxHeartbeats 4000000 in
set_option maxRecDepth 100000 in
theorem ct_X10_longest {l : Launch} {D : va_G} {g : Nat → Nat} {Y : YT} {bP : Nat} (σ : St) (res : St × Int32) (hf : fX10_longest σ = some res) : Ci l yX10_longest wsX10_longest ⟨1, 0, 0, 22⟩ D 27 g (KM g Y) Y bP [.ref (g 0)] σ res := by
  intro sz
  refine Met.ofW (cc := cX10_longest) (maxL := 3) (ret := (some .int)) (by decide) rfl ?_
  intro p e s m args below meth c s₁ B hml hv
  obtain ⟨rfl, rfl, I⟩ := j_start hv
  have C0 : MC p s m _ meth c cX10_longest 3 (some .int) RX10 wsX10_longest := ⟨B.exec, B.bytes, B.returns, hml, findClass_of_methodNamed B.named, atoms_spec (ws := wsX10_longest) B.pre, B.notSynchronized⟩
  obtain ⟨hx, hb, hr, hml, hown, hts, hlk⟩ := id C0
  have hl := lv_entry ([.ref (g 0)]) (n := 3) (Nat.le_of_ble_eq_true rfl)
  rw [lg_entry_eq]
  generalize (lg_sl ([.ref (g 0)]) ++ List.replicate (3 - (lg_sl ([.ref (g 0)])).length) Slot.unset).toArray = ls at hl ⊢
  have hl : lv_has ls 3 [(0, .ref (g 0))] := hl
  rw [fX10_longest] at hf
  refine lv_iconst (v := 0) hx hb dX10_longest_0 (by decide) ?_
  refine lv_istore_n (lv' := [(1, .int 0), (0, .ref (g 0))]) hx hb dX10_longest_1 rfl hl (by decide) rfl (fun ls hl => ?_)
  refine lv_iconst (v := 0) hx hb dX10_longest_2 (by decide) ?_
  refine lv_istore_n (lv' := [(2, .int 0), (1, .int 0), (0, .ref (g 0))]) hx hb dX10_longest_3 rfl hl (by decide) rfl (fun ls hl => ?_)
  refine bX10_longest_L4 C0 50 σ 0 0 _ _ _ hf I (lv_sub hl [2, 1, 0] rfl)

set_option maxHeartbeats 4000000 in
set_option maxRecDepth 100000 in
theorem bX10_startOf_L4 {p : Program} {l : Launch} {e : Env} {s : State} {m : MethodId} {args : Array Value} {below : List Frame} {meth : Method} {c : Code} {D : va_G} {g : Nat → Nat} {Y : YT} {bP : Nat} {σ0 : St} {res : St × Int32} (C0 : MC p s m args meth c cX10_startOf 4 (some .int) RX10 wsX10_startOf) : ∀ (n : Nat) (σ : St) (a1 : Int32) (a2 : Int32) (a3 : Int32) (H : Heap) (locs : List Loc) (ls : Array Slot), fX10_startOf_L4 n σ a1 a2 a3 = some res → JW D 27 g (KM g Y) Y bP (va_A (wd 27 g (KM g Y) σ0) s.heap.size) s σ H locs → lv_has ls 4 [(0, .ref (g 0)), (1, .int a1), (2, .int a2), (3, .int a3)] → W p l e (⟨2, 0, 0, 44⟩ : Room) s m args below meth c H locs 0 0 (MQ below (Qi D 27 g (KM g Y) Y σ0 res s.heap.size) args s 0 0 (va_A (wd 27 g (KM g Y) σ0) s.heap.size)) (F0 m 4 ls []) := by
  have C0 := C0
  obtain ⟨hx, hb, hr, hml, hown, hts, hlk⟩ := id C0
  intro n
  induction n with
  | zero =>
    intro σ a1 a2 a3 H locs ls hf
    cases hf
  | succ n ih =>
    intro σ a1 a2 a3 H locs ls hf I hl
    rw [fX10_startOf_L4] at hf
    refine lv_iload_n hx hb dX10_startOf_4 rfl (lv_at hl 3 rfl) ?_
    refine lv_iload_n hx hb dX10_startOf_5 rfl (lv_at hl 1 rfl) ?_
    refine lv_icmp_gt (tgt := 28) hx hb dX10_startOf_6 (by decide) (fun c1 => ?_) (fun c1 => ?_)
    · have hf := i_t c1 hf
      refine lv_iload_n hx hb dX10_startOf_28 rfl (lv_at hl 2 rfl) ?_
      exact j_iret I hx hb hr rfl hlk hf dX10_startOf_29
    · have hf := i_f c1 hf
      refine lv_iload_n hx hb dX10_startOf_9 rfl (lv_at hl 2 rfl) ?_
      refine lv_aload_n hx hb dX10_startOf_10 rfl (lv_at hl 0 rfl) ?_
      obtain ⟨σ2, r3, h4, hf⟩ := o_obn hf
      refine j_iV (rest := [.int a2]) I ⟨hx, hb, hml, hown, hts⟩ (ct_X10_longest σ _ h4) (cwV 0 hts gX10_startOf_X10_longest rfl rfl rfl (by decide +kernel) ⟨Nat.le_of_ble_eq_true rfl, Nat.le_of_ble_eq_true rfl⟩) (by decide) (km0 g Y _) rfl rfl hl.1 rfl (Nat.le_of_ble_eq_true rfl) dX10_startOf_11 ⟨Nat.zero_le _, Nat.zero_le _⟩ (fun H locs I => ?_)
      refine lv_aload_n hx hb dX10_startOf_14 rfl (lv_at hl 0 rfl) ?_
      refine lv_iload_n hx hb dX10_startOf_15 rfl (lv_at hl 3 rfl) ?_
      obtain ⟨σ5, r6, h7, hf⟩ := o_obn hf
      refine j_iV (rest := [.int r3, .int a2]) I ⟨hx, hb, hml, hown, hts⟩ (ct_X10_wayTo σ2 a3 _ h7) (cwV 1 hts gX10_startOf_X10_wayTo rfl rfl rfl (by decide +kernel) ⟨Nat.le_of_ble_eq_true rfl, Nat.le_of_ble_eq_true rfl⟩) (by decide) (km0 g Y _) rfl rfl hl.1 rfl (Nat.le_of_ble_eq_true rfl) dX10_startOf_16 ⟨Nat.zero_le _, Nat.zero_le _⟩ (fun H locs I => ?_)
      refine lv_iadd hx hb dX10_startOf_19 ?_
      refine lv_iadd hx hb dX10_startOf_20 ?_
      obtain ⟨v8, ev8, hf⟩ := o_itp hf
      refine top_eq ev8 ?_
      refine lv_istore_n (lv' := [(2, .int v8), (0, .ref (g 0)), (1, .int a1), (3, .int a3)]) hx hb dX10_startOf_21 rfl hl (by decide) rfl (fun ls hl => ?_)
      refine lv_iinc (v := (a3 + 1)) (lv' := [(3, .int (a3 + 1)), (2, .int v8), (0, .ref (g 0)), (1, .int a1)]) hx hb dX10_startOf_22 hl (k := 3) rfl rfl (by decide) rfl (fun ls hl => ?_)
      refine lv_goto (tgt := 4) hx hb dX10_startOf_25 (by decide) ?_
      exact ih σ5 a1 v8 (a3 + 1) _ _ _ hf I (lv_sub hl [2, 3, 1, 0] rfl)
set_option maxHeartbeats 4000000 in
set_option maxRecDepth 100000 in
theorem ct_X10_startOf {l : Launch} {D : va_G} {g : Nat → Nat} {Y : YT} {bP : Nat} (σ : St) (p0 : Int32) (res : St × Int32) (hf : fX10_startOf σ p0 = some res) : Ci l yX10_startOf wsX10_startOf ⟨2, 0, 0, 44⟩ D 27 g (KM g Y) Y bP [.ref (g 0), .int p0] σ res := by
  intro sz
  refine Met.ofW (cc := cX10_startOf) (maxL := 4) (ret := (some .int)) (by decide) rfl ?_
  intro p e s m args below meth c s₁ B hml hv
  obtain ⟨rfl, rfl, I⟩ := j_start hv
  have C0 : MC p s m _ meth c cX10_startOf 4 (some .int) RX10 wsX10_startOf := ⟨B.exec, B.bytes, B.returns, hml, findClass_of_methodNamed B.named, atoms_spec (ws := wsX10_startOf) B.pre, B.notSynchronized⟩
  obtain ⟨hx, hb, hr, hml, hown, hts, hlk⟩ := id C0
  have hl := lv_entry ([.ref (g 0), .int p0]) (n := 4) (Nat.le_of_ble_eq_true rfl)
  rw [lg_entry_eq]
  generalize (lg_sl ([.ref (g 0), .int p0]) ++ List.replicate (4 - (lg_sl ([.ref (g 0), .int p0])).length) Slot.unset).toArray = ls at hl ⊢
  have hl : lv_has ls 4 [(0, .ref (g 0)), (1, .int p0)] := hl
  rw [fX10_startOf] at hf
  refine lv_iconst (v := 0) hx hb dX10_startOf_0 (by decide) ?_
  refine lv_istore_n (lv' := [(2, .int 0), (0, .ref (g 0)), (1, .int p0)]) hx hb dX10_startOf_1 rfl hl (by decide) rfl (fun ls hl => ?_)
  refine lv_iconst (v := 1) hx hb dX10_startOf_2 (by decide) ?_
  refine lv_istore_n (lv' := [(3, .int 1), (2, .int 0), (0, .ref (g 0)), (1, .int p0)]) hx hb dX10_startOf_3 rfl hl (by decide) rfl (fun ls hl => ?_)
  refine bX10_startOf_L4 C0 50 σ p0 0 1 _ _ _ hf I (lv_sub hl [2, 3, 1, 0] rfl)

theorem iw_X10_isPlace_X10 : ∀ w ∈ u_ws RX10 TX10 37, w ∈ wsX10_isPlace := fun _ h => List.mem_cons_of_mem _ (List.mem_append_right _ h)
set_option maxHeartbeats 4000000 in
set_option maxRecDepth 100000 in
theorem ct_X10_isPlace {l : Launch} {D : va_G} {g : Nat → Nat} {Y : YT} {bP : Nat} (σ : St) (p0 : Int32) (res : St × Int32) (hf : fX10_isPlace σ p0 = some res) : Ci l yX10_isPlace wsX10_isPlace ⟨1, 0, 0, 22⟩ D 27 g (KM g Y) Y bP [.ref (g 0), .int p0] σ res := by
  intro sz
  refine Met.ofW (cc := cX10_isPlace) (maxL := 2) (ret := (some .boolean)) (by decide) rfl ?_
  intro p e s m args below meth c s₁ B hml hv
  obtain ⟨rfl, rfl, I⟩ := j_start hv
  have C0 : MC p s m _ meth c cX10_isPlace 2 (some .boolean) RX10 wsX10_isPlace := ⟨B.exec, B.bytes, B.returns, hml, findClass_of_methodNamed B.named, atoms_spec (ws := wsX10_isPlace) B.pre, B.notSynchronized⟩
  obtain ⟨hx, hb, hr, hml, hown, hts, hlk⟩ := id C0
  have hl := lv_entry ([.ref (g 0), .int p0]) (n := 2) (Nat.le_of_ble_eq_true rfl)
  rw [lg_entry_eq]
  generalize (lg_sl ([.ref (g 0), .int p0]) ++ List.replicate (2 - (lg_sl ([.ref (g 0), .int p0])).length) Slot.unset).toArray = ls at hl ⊢
  have hl : lv_has ls 2 [(0, .ref (g 0)), (1, .int p0)] := hl
  rw [fX10_isPlace] at hf
  refine lv_iload_n hx hb dX10_isPlace_0 rfl (lv_at hl 1 rfl) ?_
  refine lv_iconst (v := 0) hx hb dX10_isPlace_1 (by decide) ?_
  refine lv_aload_n hx hb dX10_isPlace_2 rfl (lv_at hl 0 rfl) ?_
  refine j_get I hx hb hts iw_X10_isPlace_X10 hown 0 (by decide) (km0 g Y _) rfl 10 (by decide) (hts (.fieldLink RX10 118 "ReelNightModel" "many" "I") (by decide +kernel)) rfl dX10_isPlace_3 ?_
  refine lv_iconst (v := 1) hx hb dX10_isPlace_6 (by decide) ?_
  refine lv_isub hx hb dX10_isPlace_7 ?_
  obtain ⟨σ1, r2, h3, hf⟩ := o_obn hf
  refine j_iS (rest := []) I ⟨hx, hb, hml, hown, hts⟩ (ct_X10_isIn σ p0 0 ((σ 0 10) - 1) _ h3) (va_cwS 3 hts gX10_isPlace_X10_isIn rfl rfl rfl (by decide +kernel) ⟨Nat.le_of_ble_eq_true rfl, Nat.le_of_ble_eq_true rfl⟩) rfl hl.1 rfl (Nat.le_of_ble_eq_true rfl) dX10_isPlace_8 ⟨Nat.zero_le _, Nat.zero_le _⟩ (fun H locs I => ?_)
  obtain ⟨b4, hf⟩ := o_yb hf
  exact j_iret I hx hb hr (o_bool b4) hlk hf dX10_isPlace_11

set_option maxHeartbeats 4000000 in
set_option maxRecDepth 100000 in
theorem ct_X10_start {l : Launch} {D : va_G} {g : Nat → Nat} {Y : YT} {bP : Nat} (σ : St) (p0 : Int32) (res : St × Int32) (hf : fX10_start σ p0 = some res) : Ci l yX10_start wsX10_start ⟨3, 0, 0, 67⟩ D 27 g (KM g Y) Y bP [.ref (g 0), .int p0] σ res := by
  intro sz
  refine Met.ofW (cc := cX10_start) (maxL := 2) (ret := (some .int)) (by decide) rfl ?_
  intro p e s m args below meth c s₁ B hml hv
  obtain ⟨rfl, rfl, I⟩ := j_start hv
  have C0 : MC p s m _ meth c cX10_start 2 (some .int) RX10 wsX10_start := ⟨B.exec, B.bytes, B.returns, hml, findClass_of_methodNamed B.named, atoms_spec (ws := wsX10_start) B.pre, B.notSynchronized⟩
  obtain ⟨hx, hb, hr, hml, hown, hts, hlk⟩ := id C0
  have hl := lv_entry ([.ref (g 0), .int p0]) (n := 2) (Nat.le_of_ble_eq_true rfl)
  rw [lg_entry_eq]
  generalize (lg_sl ([.ref (g 0), .int p0]) ++ List.replicate (2 - (lg_sl ([.ref (g 0), .int p0])).length) Slot.unset).toArray = ls at hl ⊢
  have hl : lv_has ls 2 [(0, .ref (g 0)), (1, .int p0)] := hl
  rw [fX10_start] at hf
  refine lv_aload_n hx hb dX10_start_0 rfl (lv_at hl 0 rfl) ?_
  refine lv_iload_n hx hb dX10_start_1 rfl (lv_at hl 1 rfl) ?_
  obtain ⟨σ1, r2, h3, hf⟩ := o_obn hf
  refine j_iV (rest := []) I ⟨hx, hb, hml, hown, hts⟩ (ct_X10_isPlace σ p0 _ h3) (cwV 1 hts gX10_start_X10_isPlace rfl rfl rfl (by decide +kernel) ⟨Nat.le_of_ble_eq_true rfl, Nat.le_of_ble_eq_true rfl⟩) (by decide) (km0 g Y _) rfl rfl hl.1 rfl (Nat.le_of_ble_eq_true rfl) dX10_start_2 ⟨Nat.zero_le _, Nat.zero_le _⟩ (fun H locs I => ?_)
  refine lv_if_eq (tgt := 16) hx hb dX10_start_5 (by decide) (fun c4 => ?_) (fun c4 => ?_)
  · have hf := i_t c4 hf
    refine lv_ldc hx hb hown (hts (.constant RX10 109 (-1000000001)) (by decide +kernel)) dX10_start_16 ?_
    exact j_iret I hx hb hr rfl hlk hf dX10_start_18
  · have hf := i_f c4 hf
    refine lv_aload_n hx hb dX10_start_8 rfl (lv_at hl 0 rfl) ?_
    refine lv_iload_n hx hb dX10_start_9 rfl (lv_at hl 1 rfl) ?_
    obtain ⟨σ5, r6, h7, hf⟩ := o_obn hf
    refine j_iV (rest := []) I ⟨hx, hb, hml, hown, hts⟩ (ct_X10_startOf σ1 p0 _ h7) (cwV 1 hts gX10_start_X10_startOf rfl rfl rfl (by decide +kernel) ⟨Nat.le_of_ble_eq_true rfl, Nat.le_of_ble_eq_true rfl⟩) (by decide) (km0 g Y _) rfl rfl hl.1 rfl (Nat.le_of_ble_eq_true rfl) dX10_start_10 ⟨Nat.zero_le _, Nat.zero_le _⟩ (fun H locs I => ?_)
    refine lv_goto (tgt := 18) hx hb dX10_start_13 (by decide) ?_
    exact j_iret I hx hb hr rfl hlk hf dX10_start_18

theorem iw_X10_rides_X10 : ∀ w ∈ u_ws RX10 TX10 37, w ∈ wsX10_rides := fun _ h => List.mem_cons_of_mem _ (List.mem_append_right _ h)
set_option maxHeartbeats 4000000 in
set_option maxRecDepth 100000 in
theorem ct_X10_rides {l : Launch} {D : va_G} {g : Nat → Nat} {Y : YT} {bP : Nat} (σ : St) (res : St × Int32) (hf : fX10_rides σ = some res) : Ci l yX10_rides wsX10_rides ⟨0, 0, 0, 0⟩ D 27 g (KM g Y) Y bP [.ref (g 0)] σ res := by
  intro sz
  refine Met.ofW (cc := cX10_rides) (maxL := 1) (ret := (some .int)) (by decide) rfl ?_
  intro p e s m args below meth c s₁ B hml hv
  obtain ⟨rfl, rfl, I⟩ := j_start hv
  have C0 : MC p s m _ meth c cX10_rides 1 (some .int) RX10 wsX10_rides := ⟨B.exec, B.bytes, B.returns, hml, findClass_of_methodNamed B.named, atoms_spec (ws := wsX10_rides) B.pre, B.notSynchronized⟩
  obtain ⟨hx, hb, hr, hml, hown, hts, hlk⟩ := id C0
  have hl := lv_entry ([.ref (g 0)]) (n := 1) (Nat.le_of_ble_eq_true rfl)
  rw [lg_entry_eq]
  generalize (lg_sl ([.ref (g 0)]) ++ List.replicate (1 - (lg_sl ([.ref (g 0)])).length) Slot.unset).toArray = ls at hl ⊢
  have hl : lv_has ls 1 [(0, .ref (g 0))] := hl
  rw [fX10_rides] at hf
  refine lv_aload_n hx hb dX10_rides_0 rfl (lv_at hl 0 rfl) ?_
  refine j_get I hx hb hts iw_X10_rides_X10 hown 0 (by decide) (km0 g Y _) rfl 10 (by decide) (hts (.fieldLink RX10 118 "ReelNightModel" "many" "I") (by decide +kernel)) rfl dX10_rides_1 ?_
  refine lv_if_ne (tgt := 11) hx hb dX10_rides_4 (by decide) (fun c1 => ?_) (fun c1 => ?_)
  · have hf := i_f c1 hf
    refine lv_aload_n hx hb dX10_rides_11 rfl (lv_at hl 0 rfl) ?_
    refine j_get I hx hb hts iw_X10_rides_X10 hown 0 (by decide) (km0 g Y _) rfl 10 (by decide) (hts (.fieldLink RX10 118 "ReelNightModel" "many" "I") (by decide +kernel)) rfl dX10_rides_12 ?_
    refine lv_iconst (v := 1) hx hb dX10_rides_15 (by decide) ?_
    refine lv_isub hx hb dX10_rides_16 ?_
    refine lv_aload_n hx hb dX10_rides_17 rfl (lv_at hl 0 rfl) ?_
    refine j_get I hx hb hts iw_X10_rides_X10 hown 0 (by decide) (km0 g Y _) rfl 7 (by decide) (hts (.fieldLink RX10 106 "ReelNightModel" "reels" "I") (by decide +kernel)) rfl dX10_rides_18 ?_
    refine lv_imul hx hb dX10_rides_21 ?_
    exact j_iret I hx hb hr rfl hlk hf dX10_rides_22
  · have hf := i_t c1 hf
    refine lv_iconst (v := 0) hx hb dX10_rides_7 (by decide) ?_
    refine lv_goto (tgt := 22) hx hb dX10_rides_8 (by decide) ?_
    exact j_iret I hx hb hr rfl hlk hf dX10_rides_22

set_option maxHeartbeats 4000000 in
set_option maxRecDepth 100000 in
theorem ct_X10_isRide {l : Launch} {D : va_G} {g : Nat → Nat} {Y : YT} {bP : Nat} (σ : St) (p0 : Int32) (res : St × Int32) (hf : fX10_isRide σ p0 = some res) : Ci l yX10_isRide wsX10_isRide ⟨1, 0, 0, 22⟩ D 27 g (KM g Y) Y bP [.ref (g 0), .int p0] σ res := by
  intro sz
  refine Met.ofW (cc := cX10_isRide) (maxL := 2) (ret := (some .boolean)) (by decide) rfl ?_
  intro p e s m args below meth c s₁ B hml hv
  obtain ⟨rfl, rfl, I⟩ := j_start hv
  have C0 : MC p s m _ meth c cX10_isRide 2 (some .boolean) RX10 wsX10_isRide := ⟨B.exec, B.bytes, B.returns, hml, findClass_of_methodNamed B.named, atoms_spec (ws := wsX10_isRide) B.pre, B.notSynchronized⟩
  obtain ⟨hx, hb, hr, hml, hown, hts, hlk⟩ := id C0
  have hl := lv_entry ([.ref (g 0), .int p0]) (n := 2) (Nat.le_of_ble_eq_true rfl)
  rw [lg_entry_eq]
  generalize (lg_sl ([.ref (g 0), .int p0]) ++ List.replicate (2 - (lg_sl ([.ref (g 0), .int p0])).length) Slot.unset).toArray = ls at hl ⊢
  have hl : lv_has ls 2 [(0, .ref (g 0)), (1, .int p0)] := hl
  rw [fX10_isRide] at hf
  refine lv_iload_n hx hb dX10_isRide_0 rfl (lv_at hl 1 rfl) ?_
  refine lv_iconst (v := 0) hx hb dX10_isRide_1 (by decide) ?_
  refine lv_aload_n hx hb dX10_isRide_2 rfl (lv_at hl 0 rfl) ?_
  obtain ⟨σ1, r2, h3, hf⟩ := o_obn hf
  refine j_iV (rest := [.int 0, .int p0]) I ⟨hx, hb, hml, hown, hts⟩ (ct_X10_rides σ _ h3) (cwV 0 hts gX10_isRide_X10_rides rfl rfl rfl (by decide +kernel) ⟨Nat.le_of_ble_eq_true rfl, Nat.le_of_ble_eq_true rfl⟩) (by decide) (km0 g Y _) rfl rfl hl.1 rfl (Nat.le_of_ble_eq_true rfl) dX10_isRide_3 ⟨Nat.zero_le _, Nat.zero_le _⟩ (fun H locs I => ?_)
  refine lv_iconst (v := 1) hx hb dX10_isRide_6 (by decide) ?_
  refine lv_isub hx hb dX10_isRide_7 ?_
  obtain ⟨σ4, r5, h6, hf⟩ := o_obn hf
  refine j_iS (rest := []) I ⟨hx, hb, hml, hown, hts⟩ (ct_X10_isIn σ1 p0 0 (r2 - 1) _ h6) (va_cwS 3 hts gX10_isRide_X10_isIn rfl rfl rfl (by decide +kernel) ⟨Nat.le_of_ble_eq_true rfl, Nat.le_of_ble_eq_true rfl⟩) rfl hl.1 rfl (Nat.le_of_ble_eq_true rfl) dX10_isRide_8 ⟨Nat.zero_le _, Nat.zero_le _⟩ (fun H locs I => ?_)
  obtain ⟨b7, hf⟩ := o_yb hf
  exact j_iret I hx hb hr (o_bool b7) hlk hf dX10_isRide_11

theorem iw_X10_toPlace_X10 : ∀ w ∈ u_ws RX10 TX10 37, w ∈ wsX10_toPlace := fun _ h => List.mem_cons_of_mem _ (List.mem_append_right _ h)
set_option maxHeartbeats 4000000 in
set_option maxRecDepth 100000 in
theorem ct_X10_toPlace {l : Launch} {D : va_G} {g : Nat → Nat} {Y : YT} {bP : Nat} (σ : St) (p0 : Int32) (res : St × Int32) (hf : fX10_toPlace σ p0 = some res) : Ci l yX10_toPlace wsX10_toPlace ⟨0, 0, 0, 0⟩ D 27 g (KM g Y) Y bP [.ref (g 0), .int p0] σ res := by
  intro sz
  refine Met.ofW (cc := cX10_toPlace) (maxL := 2) (ret := (some .int)) (by decide) rfl ?_
  intro p e s m args below meth c s₁ B hml hv
  obtain ⟨rfl, rfl, I⟩ := j_start hv
  have C0 : MC p s m _ meth c cX10_toPlace 2 (some .int) RX10 wsX10_toPlace := ⟨B.exec, B.bytes, B.returns, hml, findClass_of_methodNamed B.named, atoms_spec (ws := wsX10_toPlace) B.pre, B.notSynchronized⟩
  obtain ⟨hx, hb, hr, hml, hown, hts, hlk⟩ := id C0
  have hl := lv_entry ([.ref (g 0), .int p0]) (n := 2) (Nat.le_of_ble_eq_true rfl)
  rw [lg_entry_eq]
  generalize (lg_sl ([.ref (g 0), .int p0]) ++ List.replicate (2 - (lg_sl ([.ref (g 0), .int p0])).length) Slot.unset).toArray = ls at hl ⊢
  have hl : lv_has ls 2 [(0, .ref (g 0)), (1, .int p0)] := hl
  rw [fX10_toPlace] at hf
  refine lv_iload_n hx hb dX10_toPlace_0 rfl (lv_at hl 1 rfl) ?_
  refine lv_aload_n hx hb dX10_toPlace_1 rfl (lv_at hl 0 rfl) ?_
  refine j_get I hx hb hts iw_X10_toPlace_X10 hown 0 (by decide) (km0 g Y _) rfl 7 (by decide) (hts (.fieldLink RX10 106 "ReelNightModel" "reels" "I") (by decide +kernel)) rfl dX10_toPlace_2 ?_
  obtain ⟨b1, hf⟩ := o_nb hf
  refine lv_idiv hx hb dX10_toPlace_5 b1 ?_
  refine lv_iconst (v := 1) hx hb dX10_toPlace_6 (by decide) ?_
  refine lv_iadd hx hb dX10_toPlace_7 ?_
  exact j_iret I hx hb hr rfl hlk hf dX10_toPlace_8

theorem iw_X10_rideBegins_X10 : ∀ w ∈ u_ws RX10 TX10 37, w ∈ wsX10_rideBegins := fun _ h => List.mem_cons_of_mem _ (List.mem_append_right _ h)
set_option maxHeartbeats 4000000 in
set_option maxRecDepth 100000 in
theorem bX10_rideBegins_L14 {p : Program} {l : Launch} {e : Env} {s : State} {m : MethodId} {args : Array Value} {below : List Frame} {meth : Method} {c : Code} {D : va_G} {g : Nat → Nat} {Y : YT} {bP : Nat} {σ0 : St} {res : St × Int32} (C0 : MC p s m args meth c cX10_rideBegins 4 (some .int) RX10 wsX10_rideBegins) : ∀ (n : Nat) (σ : St) (a1 : Int32) (a2 : Int32) (a3 : Int32) (H : Heap) (locs : List Loc) (ls : Array Slot), fX10_rideBegins_L14 n σ a1 a2 a3 = some res → JW D 27 g (KM g Y) Y bP (va_A (wd 27 g (KM g Y) σ0) s.heap.size) s σ H locs → lv_has ls 4 [(0, .ref (g 0)), (1, .int a1), (2, .int a2), (3, .int a3)] → W p l e (⟨3, 0, 0, 67⟩ : Room) s m args below meth c H locs 0 0 (MQ below (Qi D 27 g (KM g Y) Y σ0 res s.heap.size) args s 0 0 (va_A (wd 27 g (KM g Y) σ0) s.heap.size)) (F0 m 14 ls []) := by
  have C0 := C0
  obtain ⟨hx, hb, hr, hml, hown, hts, hlk⟩ := id C0
  intro n
  induction n with
  | zero =>
    intro σ a1 a2 a3 H locs ls hf
    cases hf
  | succ n ih =>
    intro σ a1 a2 a3 H locs ls hf I hl
    rw [fX10_rideBegins_L14] at hf
    refine lv_iload_n hx hb dX10_rideBegins_14 rfl (lv_at hl 3 rfl) ?_
    refine lv_iload_n hx hb dX10_rideBegins_15 rfl (lv_at hl 1 rfl) ?_
    refine lv_aload_n hx hb dX10_rideBegins_16 rfl (lv_at hl 0 rfl) ?_
    refine j_get I hx hb hts iw_X10_rideBegins_X10 hown 0 (by decide) (km0 g Y _) rfl 7 (by decide) (hts (.fieldLink RX10 106 "ReelNightModel" "reels" "I") (by decide +kernel)) rfl dX10_rideBegins_17 ?_
    obtain ⟨b7, hf⟩ := o_nb hf
    refine lv_irem hx hb dX10_rideBegins_20 b7 ?_
    refine lv_icmp_gt (tgt := 38) hx hb dX10_rideBegins_21 (by decide) (fun c8 => ?_) (fun c8 => ?_)
    · have hf := i_t c8 hf
      refine lv_iload_n hx hb dX10_rideBegins_38 rfl (lv_at hl 2 rfl) ?_
      exact j_iret I hx hb hr rfl hlk hf dX10_rideBegins_39
    · have hf := i_f c8 hf
      refine lv_iload_n hx hb dX10_rideBegins_24 rfl (lv_at hl 2 rfl) ?_
      refine lv_aload_n hx hb dX10_rideBegins_25 rfl (lv_at hl 0 rfl) ?_
      refine lv_iload_n hx hb dX10_rideBegins_26 rfl (lv_at hl 3 rfl) ?_
      obtain ⟨σ9, r10, h11, hf⟩ := o_obn hf
      refine j_iV (rest := [.int a2]) I ⟨hx, hb, hml, hown, hts⟩ (ct_X10_minutes σ a3 _ h11) (cwV 1 hts gX10_rideBegins_X10_minutes rfl rfl rfl (by decide +kernel) ⟨Nat.le_of_ble_eq_true rfl, Nat.le_of_ble_eq_true rfl⟩) (by decide) (km0 g Y _) rfl rfl hl.1 rfl (Nat.le_of_ble_eq_true rfl) dX10_rideBegins_27 ⟨Nat.zero_le _, Nat.zero_le _⟩ (fun H locs I => ?_)
      refine lv_iadd hx hb dX10_rideBegins_30 ?_
      obtain ⟨v12, ev12, hf⟩ := o_itp hf
      refine top_eq ev12 ?_
      refine lv_istore_n (lv' := [(2, .int v12), (0, .ref (g 0)), (1, .int a1), (3, .int a3)]) hx hb dX10_rideBegins_31 rfl hl (by decide) rfl (fun ls hl => ?_)
      refine lv_iinc (v := (a3 + 1)) (lv' := [(3, .int (a3 + 1)), (2, .int v12), (0, .ref (g 0)), (1, .int a1)]) hx hb dX10_rideBegins_32 hl (k := 3) rfl rfl (by decide) rfl (fun ls hl => ?_)
      refine lv_goto (tgt := 14) hx hb dX10_rideBegins_35 (by decide) ?_
      exact ih σ9 a1 v12 (a3 + 1) _ _ _ hf I (lv_sub hl [2, 3, 1, 0] rfl)
set_option maxHeartbeats 4000000 in
set_option maxRecDepth 100000 in
theorem ct_X10_rideBegins {l : Launch} {D : va_G} {g : Nat → Nat} {Y : YT} {bP : Nat} (σ : St) (p0 : Int32) (res : St × Int32) (hf : fX10_rideBegins σ p0 = some res) : Ci l yX10_rideBegins wsX10_rideBegins ⟨3, 0, 0, 67⟩ D 27 g (KM g Y) Y bP [.ref (g 0), .int p0] σ res := by
  intro sz
  refine Met.ofW (cc := cX10_rideBegins) (maxL := 4) (ret := (some .int)) (by decide) rfl ?_
  intro p e s m args below meth c s₁ B hml hv
  obtain ⟨rfl, rfl, I⟩ := j_start hv
  have C0 : MC p s m _ meth c cX10_rideBegins 4 (some .int) RX10 wsX10_rideBegins := ⟨B.exec, B.bytes, B.returns, hml, findClass_of_methodNamed B.named, atoms_spec (ws := wsX10_rideBegins) B.pre, B.notSynchronized⟩
  obtain ⟨hx, hb, hr, hml, hown, hts, hlk⟩ := id C0
  have hl := lv_entry ([.ref (g 0), .int p0]) (n := 4) (Nat.le_of_ble_eq_true rfl)
  rw [lg_entry_eq]
  generalize (lg_sl ([.ref (g 0), .int p0]) ++ List.replicate (4 - (lg_sl ([.ref (g 0), .int p0])).length) Slot.unset).toArray = ls at hl ⊢
  have hl : lv_has ls 4 [(0, .ref (g 0)), (1, .int p0)] := hl
  rw [fX10_rideBegins] at hf
  refine lv_aload_n hx hb dX10_rideBegins_0 rfl (lv_at hl 0 rfl) ?_
  refine lv_aload_n hx hb dX10_rideBegins_1 rfl (lv_at hl 0 rfl) ?_
  refine lv_iload_n hx hb dX10_rideBegins_2 rfl (lv_at hl 1 rfl) ?_
  obtain ⟨σ1, r2, h3, hf⟩ := o_obn hf
  refine j_iV (rest := [.ref (g 0)]) I ⟨hx, hb, hml, hown, hts⟩ (ct_X10_toPlace σ p0 _ h3) (cwV 1 hts gX10_rideBegins_X10_toPlace rfl rfl rfl (by decide +kernel) ⟨Nat.le_of_ble_eq_true rfl, Nat.le_of_ble_eq_true rfl⟩) (by decide) (km0 g Y _) rfl rfl hl.1 rfl (Nat.le_of_ble_eq_true rfl) dX10_rideBegins_3 ⟨Nat.zero_le _, Nat.zero_le _⟩ (fun H locs I => ?_)
  refine lv_iconst (v := 1) hx hb dX10_rideBegins_6 (by decide) ?_
  refine lv_isub hx hb dX10_rideBegins_7 ?_
  obtain ⟨σ4, r5, h6, hf⟩ := o_obn hf
  refine j_iV (rest := []) I ⟨hx, hb, hml, hown, hts⟩ (ct_X10_startOf σ1 (r2 - 1) _ h6) (cwV 1 hts gX10_rideBegins_X10_startOf rfl rfl rfl (by decide +kernel) ⟨Nat.le_of_ble_eq_true rfl, Nat.le_of_ble_eq_true rfl⟩) (by decide) (km0 g Y _) rfl rfl hl.1 rfl (Nat.le_of_ble_eq_true rfl) dX10_rideBegins_8 ⟨Nat.zero_le _, Nat.zero_le _⟩ (fun H locs I => ?_)
  refine lv_istore_n (lv' := [(2, .int r5), (0, .ref (g 0)), (1, .int p0)]) hx hb dX10_rideBegins_11 rfl hl (by decide) rfl (fun ls hl => ?_)
  refine lv_iconst (v := 0) hx hb dX10_rideBegins_12 (by decide) ?_
  refine lv_istore_n (lv' := [(3, .int 0), (2, .int r5), (0, .ref (g 0)), (1, .int p0)]) hx hb dX10_rideBegins_13 rfl hl (by decide) rfl (fun ls hl => ?_)
  refine bX10_rideBegins_L14 C0 50 σ4 p0 r5 0 _ _ _ hf I (lv_sub hl [2, 3, 1, 0] rfl)

set_option maxHeartbeats 4000000 in
set_option maxRecDepth 100000 in
theorem ct_X10_rideEnds {l : Launch} {D : va_G} {g : Nat → Nat} {Y : YT} {bP : Nat} (σ : St) (p0 : Int32) (res : St × Int32) (hf : fX10_rideEnds σ p0 = some res) : Ci l yX10_rideEnds wsX10_rideEnds ⟨4, 0, 0, 90⟩ D 27 g (KM g Y) Y bP [.ref (g 0), .int p0] σ res := by
  intro sz
  refine Met.ofW (cc := cX10_rideEnds) (maxL := 2) (ret := (some .int)) (by decide) rfl ?_
  intro p e s m args below meth c s₁ B hml hv
  obtain ⟨rfl, rfl, I⟩ := j_start hv
  have C0 : MC p s m _ meth c cX10_rideEnds 2 (some .int) RX10 wsX10_rideEnds := ⟨B.exec, B.bytes, B.returns, hml, findClass_of_methodNamed B.named, atoms_spec (ws := wsX10_rideEnds) B.pre, B.notSynchronized⟩
  obtain ⟨hx, hb, hr, hml, hown, hts, hlk⟩ := id C0
  have hl := lv_entry ([.ref (g 0), .int p0]) (n := 2) (Nat.le_of_ble_eq_true rfl)
  rw [lg_entry_eq]
  generalize (lg_sl ([.ref (g 0), .int p0]) ++ List.replicate (2 - (lg_sl ([.ref (g 0), .int p0])).length) Slot.unset).toArray = ls at hl ⊢
  have hl : lv_has ls 2 [(0, .ref (g 0)), (1, .int p0)] := hl
  rw [fX10_rideEnds] at hf
  refine lv_aload_n hx hb dX10_rideEnds_0 rfl (lv_at hl 0 rfl) ?_
  refine lv_iload_n hx hb dX10_rideEnds_1 rfl (lv_at hl 1 rfl) ?_
  obtain ⟨σ1, r2, h3, hf⟩ := o_obn hf
  refine j_iV (rest := []) I ⟨hx, hb, hml, hown, hts⟩ (ct_X10_rideBegins σ p0 _ h3) (cwV 1 hts gX10_rideEnds_X10_rideBegins rfl rfl rfl (by decide +kernel) ⟨Nat.le_of_ble_eq_true rfl, Nat.le_of_ble_eq_true rfl⟩) (by decide) (km0 g Y _) rfl rfl hl.1 rfl (Nat.le_of_ble_eq_true rfl) dX10_rideEnds_2 ⟨Nat.zero_le _, Nat.zero_le _⟩ (fun H locs I => ?_)
  refine lv_aload_n hx hb dX10_rideEnds_5 rfl (lv_at hl 0 rfl) ?_
  refine lv_aload_n hx hb dX10_rideEnds_6 rfl (lv_at hl 0 rfl) ?_
  refine lv_iload_n hx hb dX10_rideEnds_7 rfl (lv_at hl 1 rfl) ?_
  obtain ⟨σ4, r5, h6, hf⟩ := o_obn hf
  refine j_iV (rest := [.ref (g 0), .int r2]) I ⟨hx, hb, hml, hown, hts⟩ (ct_X10_toPlace σ1 p0 _ h6) (cwV 1 hts gX10_rideEnds_X10_toPlace rfl rfl rfl (by decide +kernel) ⟨Nat.le_of_ble_eq_true rfl, Nat.le_of_ble_eq_true rfl⟩) (by decide) (km0 g Y _) rfl rfl hl.1 rfl (Nat.le_of_ble_eq_true rfl) dX10_rideEnds_8 ⟨Nat.zero_le _, Nat.zero_le _⟩ (fun H locs I => ?_)
  obtain ⟨σ7, r8, h9, hf⟩ := o_obn hf
  refine j_iV (rest := [.int r2]) I ⟨hx, hb, hml, hown, hts⟩ (ct_X10_wayTo σ4 r5 _ h9) (cwV 1 hts gX10_rideEnds_X10_wayTo rfl rfl rfl (by decide +kernel) ⟨Nat.le_of_ble_eq_true rfl, Nat.le_of_ble_eq_true rfl⟩) (by decide) (km0 g Y _) rfl rfl hl.1 rfl (Nat.le_of_ble_eq_true rfl) dX10_rideEnds_11 ⟨Nat.zero_le _, Nat.zero_le _⟩ (fun H locs I => ?_)
  refine lv_iadd hx hb dX10_rideEnds_14 ?_
  exact j_iret I hx hb hr rfl hlk hf dX10_rideEnds_15

theorem iw_X10_ride_X10 : ∀ w ∈ u_ws RX10 TX10 37, w ∈ wsX10_ride := fun _ h => List.mem_cons_of_mem _ (List.mem_append_right _ h)
set_option maxHeartbeats 4000000 in
set_option maxRecDepth 100000 in
theorem ct_X10_ride {l : Launch} {D : va_G} {g : Nat → Nat} {Y : YT} {bP : Nat} (σ : St) (p0 : Int32) (p1 : Int32) (res : St × Int32) (hf : fX10_ride σ p0 p1 = some res) : Ci l yX10_ride wsX10_ride ⟨5, 0, 0, 111⟩ D 27 g (KM g Y) Y bP [.ref (g 0), .int p0, .int p1] σ res := by
  intro sz
  refine Met.ofW (cc := cX10_ride) (maxL := 3) (ret := (some .int)) (by decide) rfl ?_
  intro p e s m args below meth c s₁ B hml hv
  obtain ⟨rfl, rfl, I⟩ := j_start hv
  have C0 : MC p s m _ meth c cX10_ride 3 (some .int) RX10 wsX10_ride := ⟨B.exec, B.bytes, B.returns, hml, findClass_of_methodNamed B.named, atoms_spec (ws := wsX10_ride) B.pre, B.notSynchronized⟩
  obtain ⟨hx, hb, hr, hml, hown, hts, hlk⟩ := id C0
  have hl := lv_entry ([.ref (g 0), .int p0, .int p1]) (n := 3) (Nat.le_of_ble_eq_true rfl)
  rw [lg_entry_eq]
  generalize (lg_sl ([.ref (g 0), .int p0, .int p1]) ++ List.replicate (3 - (lg_sl ([.ref (g 0), .int p0, .int p1])).length) Slot.unset).toArray = ls at hl ⊢
  have hl : lv_has ls 3 [(0, .ref (g 0)), (1, .int p0), (2, .int p1)] := hl
  rw [fX10_ride] at hf
  refine lv_aload_n hx hb dX10_ride_0 rfl (lv_at hl 0 rfl) ?_
  refine lv_iload_n hx hb dX10_ride_1 rfl (lv_at hl 1 rfl) ?_
  obtain ⟨σ1, r2, h3, hf⟩ := o_obn hf
  refine j_iV (rest := []) I ⟨hx, hb, hml, hown, hts⟩ (ct_X10_isRide σ p0 _ h3) (cwV 1 hts gX10_ride_X10_isRide rfl rfl rfl (by decide +kernel) ⟨Nat.le_of_ble_eq_true rfl, Nat.le_of_ble_eq_true rfl⟩) (by decide) (km0 g Y _) rfl rfl hl.1 rfl (Nat.le_of_ble_eq_true rfl) dX10_ride_2 ⟨Nat.zero_le _, Nat.zero_le _⟩ (fun H locs I => ?_)
  refine lv_if_eq (tgt := 17) hx hb dX10_ride_5 (by decide) (fun c4 => ?_) (fun c4 => ?_)
  · have hf := i_t c4 hf
    refine lv_ldc hx hb hown (hts (.constant RX10 109 (-1000000001)) (by decide +kernel)) dX10_ride_17 ?_
    exact j_iret I hx hb hr rfl hlk hf dX10_ride_19
  · have hf := i_f c4 hf
    refine lv_iload_n hx hb dX10_ride_8 rfl (lv_at hl 2 rfl) ?_
    refine lv_iconst (v := 0) hx hb dX10_ride_9 (by decide) ?_
    refine lv_iconst (v := 4) hx hb dX10_ride_10 (by decide) ?_
    obtain ⟨σ5, r6, h7, hf⟩ := o_obn hf
    refine j_iS (rest := []) I ⟨hx, hb, hml, hown, hts⟩ (ct_X10_isIn σ1 p1 0 4 _ h7) (va_cwS 3 hts gX10_ride_X10_isIn rfl rfl rfl (by decide +kernel) ⟨Nat.le_of_ble_eq_true rfl, Nat.le_of_ble_eq_true rfl⟩) rfl hl.1 rfl (Nat.le_of_ble_eq_true rfl) dX10_ride_11 ⟨Nat.zero_le _, Nat.zero_le _⟩ (fun H locs I => ?_)
    refine lv_if_ne (tgt := 20) hx hb dX10_ride_14 (by decide) (fun c8 => ?_) (fun c8 => ?_)
    · have hf := i_f c8 hf
      refine lv_iload_n hx hb dX10_ride_20 rfl (lv_at hl 2 rfl) ?_
      by_cases c9 : p1 = 0
      · have hf := i_t c9 hf
        refine lv_tableIn (tgt := 52) hx hb dX10_ride_21 (by rw [c9]; decide) (by rw [c9]; decide) (off := 31) (by rw [c9]; rfl) (by decide) ?_
        refine lv_iload_n hx hb dX10_ride_52 rfl (lv_at hl 1 rfl) ?_
        refine lv_aload_n hx hb dX10_ride_53 rfl (lv_at hl 0 rfl) ?_
        refine j_get I hx hb hts iw_X10_ride_X10 hown 0 (by decide) (km0 g Y _) rfl 7 (by decide) (hts (.fieldLink RX10 106 "ReelNightModel" "reels" "I") (by decide +kernel)) rfl dX10_ride_54 ?_
        obtain ⟨b10, hf⟩ := o_nb hf
        refine lv_irem hx hb dX10_ride_57 b10 ?_
        exact j_iret I hx hb hr rfl hlk hf dX10_ride_58
      have hf := i_f c9 hf
      have tc9 : ¬ Int32.toInt p1 = 0 := lv_neT c9 rfl
      by_cases c11 : p1 = 1
      · have hf := i_t c11 hf
        refine lv_tableIn (tgt := 59) hx hb dX10_ride_21 (by rw [c11]; decide) (by rw [c11]; decide) (off := 38) (by rw [c11]; rfl) (by decide) ?_
        refine lv_aload_n hx hb dX10_ride_59 rfl (lv_at hl 0 rfl) ?_
        refine j_get I hx hb hts iw_X10_ride_X10 hown 0 (by decide) (km0 g Y _) rfl 11 (by decide) (hts (.fieldLink RX10 34 "ReelNightModel" "order" "[I") (by decide +kernel)) rfl dX10_ride_60 ?_
        refine lv_aload_n hx hb dX10_ride_63 rfl (lv_at hl 0 rfl) ?_
        refine lv_iload_n hx hb dX10_ride_64 rfl (lv_at hl 1 rfl) ?_
        obtain ⟨σ12, r13, h14, hf⟩ := o_obn hf
        refine j_iV (rest := [.ref (g 9)]) I ⟨hx, hb, hml, hown, hts⟩ (ct_X10_toPlace σ5 p0 _ h14) (cwV 1 hts gX10_ride_X10_toPlace rfl rfl rfl (by decide +kernel) ⟨Nat.le_of_ble_eq_true rfl, Nat.le_of_ble_eq_true rfl⟩) (by decide) (km0 g Y _) rfl rfl hl.1 rfl (Nat.le_of_ble_eq_true rfl) dX10_ride_65 ⟨Nat.zero_le _, Nat.zero_le _⟩ (fun H locs I => ?_)
        refine lv_iconst (v := 1) hx hb dX10_ride_68 (by decide) ?_
        refine lv_isub hx hb dX10_ride_69 ?_
        obtain ⟨b15, hf⟩ := o_nb hf
        refine j_ald I hx hb 9 (by decide) (km9 g Y _) b15 dX10_ride_70 ?_
        exact j_iret I hx hb hr rfl hlk hf dX10_ride_71
      have hf := i_f c11 hf
      have tc11 : ¬ Int32.toInt p1 = 1 := lv_neT c11 rfl
      by_cases c16 : p1 = 2
      · have hf := i_t c16 hf
        refine lv_tableIn (tgt := 72) hx hb dX10_ride_21 (by rw [c16]; decide) (by rw [c16]; decide) (off := 51) (by rw [c16]; rfl) (by decide) ?_
        refine lv_aload_n hx hb dX10_ride_72 rfl (lv_at hl 0 rfl) ?_
        refine j_get I hx hb hts iw_X10_ride_X10 hown 0 (by decide) (km0 g Y _) rfl 11 (by decide) (hts (.fieldLink RX10 34 "ReelNightModel" "order" "[I") (by decide +kernel)) rfl dX10_ride_73 ?_
        refine lv_aload_n hx hb dX10_ride_76 rfl (lv_at hl 0 rfl) ?_
        refine lv_iload_n hx hb dX10_ride_77 rfl (lv_at hl 1 rfl) ?_
        obtain ⟨σ17, r18, h19, hf⟩ := o_obn hf
        refine j_iV (rest := [.ref (g 9)]) I ⟨hx, hb, hml, hown, hts⟩ (ct_X10_toPlace σ5 p0 _ h19) (cwV 1 hts gX10_ride_X10_toPlace rfl rfl rfl (by decide +kernel) ⟨Nat.le_of_ble_eq_true rfl, Nat.le_of_ble_eq_true rfl⟩) (by decide) (km0 g Y _) rfl rfl hl.1 rfl (Nat.le_of_ble_eq_true rfl) dX10_ride_78 ⟨Nat.zero_le _, Nat.zero_le _⟩ (fun H locs I => ?_)
        obtain ⟨b20, hf⟩ := o_nb hf
        refine j_ald I hx hb 9 (by decide) (km9 g Y _) b20 dX10_ride_81 ?_
        exact j_iret I hx hb hr rfl hlk hf dX10_ride_82
      have hf := i_f c16 hf
      have tc16 : ¬ Int32.toInt p1 = 2 := lv_neT c16 rfl
      by_cases c21 : p1 = 3
      · have hf := i_t c21 hf
        refine lv_tableIn (tgt := 83) hx hb dX10_ride_21 (by rw [c21]; decide) (by rw [c21]; decide) (off := 62) (by rw [c21]; rfl) (by decide) ?_
        refine lv_aload_n hx hb dX10_ride_83 rfl (lv_at hl 0 rfl) ?_
        refine lv_iload_n hx hb dX10_ride_84 rfl (lv_at hl 1 rfl) ?_
        obtain ⟨σ22, r23, h24, hf⟩ := o_obn hf
        refine j_iV (rest := []) I ⟨hx, hb, hml, hown, hts⟩ (ct_X10_rideBegins σ5 p0 _ h24) (cwV 1 hts gX10_ride_X10_rideBegins rfl rfl rfl (by decide +kernel) ⟨Nat.le_of_ble_eq_true rfl, Nat.le_of_ble_eq_true rfl⟩) (by decide) (km0 g Y _) rfl rfl hl.1 rfl (Nat.le_of_ble_eq_true rfl) dX10_ride_85 ⟨Nat.zero_le _, Nat.zero_le _⟩ (fun H locs I => ?_)
        exact j_iret I hx hb hr rfl hlk hf dX10_ride_88
      have hf := i_f c21 hf
      have tc21 : ¬ Int32.toInt p1 = 3 := lv_neT c21 rfl
      refine lv_tableOut (tgt := 89) hx hb dX10_ride_21 (by omega) (by decide) ?_
      refine lv_aload_n hx hb dX10_ride_89 rfl (lv_at hl 0 rfl) ?_
      refine lv_iload_n hx hb dX10_ride_90 rfl (lv_at hl 1 rfl) ?_
      obtain ⟨σ25, r26, h27, hf⟩ := o_obn hf
      refine j_iV (rest := []) I ⟨hx, hb, hml, hown, hts⟩ (ct_X10_rideEnds σ5 p0 _ h27) (cwV 1 hts gX10_ride_X10_rideEnds rfl rfl rfl (by decide +kernel) ⟨Nat.le_of_ble_eq_true rfl, Nat.le_of_ble_eq_true rfl⟩) (by decide) (km0 g Y _) rfl rfl hl.1 rfl (Nat.le_of_ble_eq_true rfl) dX10_ride_91 ⟨Nat.zero_le _, Nat.zero_le _⟩ (fun H locs I => ?_)
      exact j_iret I hx hb hr rfl hlk hf dX10_ride_94
    · have hf := i_t c8 hf
      refine lv_ldc hx hb hown (hts (.constant RX10 109 (-1000000001)) (by decide +kernel)) dX10_ride_17 ?_
      exact j_iret I hx hb hr rfl hlk hf dX10_ride_19

theorem iw_X10_findFollowers_X10 : ∀ w ∈ u_ws RX10 TX10 37, w ∈ wsX10_findFollowers := fun _ h => List.mem_cons_of_mem _ (List.mem_append_right _ h)
set_option maxHeartbeats 4000000 in
set_option maxRecDepth 100000 in
theorem bX10_findFollowers_L26 {p : Program} {l : Launch} {e : Env} {s : State} {m : MethodId} {args : Array Value} {below : List Frame} {meth : Method} {c : Code} {D : va_G} {g : Nat → Nat} {Y : YT} {bP : Nat} {σ0 : St} {res : St × Int32} (C0 : MC p s m args meth c cX10_findFollowers 7 none RX10 wsX10_findFollowers) {K143 : St → Int32 → Int32 → Option (St × Int32)} (hK143 : ∀ (σ : St) (a1 : Int32) (a2 : Int32) (H : Heap) (locs : List Loc) (ls : Array Slot), K143 σ a1 a2 = some res → JW D 27 g (KM g Y) Y bP (va_A (wd 27 g (KM g Y) σ0) s.heap.size) s σ H locs → lv_has ls 7 [(0, .ref (g 0)), (1, .int a1), (2, .int a2)] → W p l e (⟨5, 0, 0, 111⟩ : Room) s m args below meth c H locs 0 0 (MQ below (Qv D 27 g (KM g Y) Y σ0 res s.heap.size) args s 0 0 (va_A (wd 27 g (KM g Y) σ0) s.heap.size)) (F0 m 143 ls [])) : ∀ (n : Nat) (σ : St) (a1 : Int32) (a2 : Int32) (a3 : Int32) (a4 : Int32) (H : Heap) (locs : List Loc) (ls : Array Slot), fX10_findFollowers_L26 K143 n σ a1 a2 a3 a4 = some res → JW D 27 g (KM g Y) Y bP (va_A (wd 27 g (KM g Y) σ0) s.heap.size) s σ H locs → lv_has ls 7 [(0, .ref (g 0)), (1, .int a1), (2, .int a2), (3, .int a3), (4, .int a4)] → W p l e (⟨5, 0, 0, 111⟩ : Room) s m args below meth c H locs 0 0 (MQ below (Qv D 27 g (KM g Y) Y σ0 res s.heap.size) args s 0 0 (va_A (wd 27 g (KM g Y) σ0) s.heap.size)) (F0 m 26 ls []) := by
  have C0 := C0
  obtain ⟨hx, hb, hr, hml, hown, hts, hlk⟩ := id C0
  intro n
  induction n with
  | zero =>
    intro σ a1 a2 a3 a4 H locs ls hf
    cases hf
  | succ n ih =>
    intro σ a1 a2 a3 a4 H locs ls hf I hl
    rw [fX10_findFollowers_L26] at hf
    refine lv_iload hx hb dX10_findFollowers_26 (lv_at hl 4 rfl) ?_
    refine lv_iload_n hx hb dX10_findFollowers_28 rfl (lv_at hl 1 rfl) ?_
    refine lv_icmp_ge (tgt := 143) hx hb dX10_findFollowers_29 (by decide) (fun c10 => ?_) (fun c10 => ?_)
    · have hf := i_t c10 hf
      exact hK143 σ a1 a2 _ _ _ hf I (lv_sub hl [0, 1, 2] rfl)
    · have hf := i_f c10 hf
      refine lv_aload_n hx hb dX10_findFollowers_32 rfl (lv_at hl 0 rfl) ?_
      refine lv_iload_n hx hb dX10_findFollowers_33 rfl (lv_at hl 2 rfl) ?_
      obtain ⟨σ11, r12, h13, hf⟩ := o_obn hf
      refine j_iV (rest := []) I ⟨hx, hb, hml, hown, hts⟩ (ct_X10_rideBegins σ a2 _ h13) (cwV 1 hts gX10_findFollowers_X10_rideBegins rfl rfl rfl (by decide +kernel) ⟨Nat.le_of_ble_eq_true rfl, Nat.le_of_ble_eq_true rfl⟩) (by decide) (km0 g Y _) rfl rfl hl.1 rfl (Nat.le_of_ble_eq_true rfl) dX10_findFollowers_34 ⟨Nat.zero_le _, Nat.zero_le _⟩ (fun H locs I => ?_)
      refine lv_aload_n hx hb dX10_findFollowers_37 rfl (lv_at hl 0 rfl) ?_
      refine lv_iload hx hb dX10_findFollowers_38 (lv_at hl 4 rfl) ?_
      obtain ⟨σ14, r15, h16, hf⟩ := o_obn hf
      refine j_iV (rest := [.int r12]) I ⟨hx, hb, hml, hown, hts⟩ (ct_X10_rideBegins σ11 a4 _ h16) (cwV 1 hts gX10_findFollowers_X10_rideBegins rfl rfl rfl (by decide +kernel) ⟨Nat.le_of_ble_eq_true rfl, Nat.le_of_ble_eq_true rfl⟩) (by decide) (km0 g Y _) rfl rfl hl.1 rfl (Nat.le_of_ble_eq_true rfl) dX10_findFollowers_40 ⟨Nat.zero_le _, Nat.zero_le _⟩ (fun H locs I => ?_)
      refine lv_icmp_lt (tgt := 66) hx hb dX10_findFollowers_43 (by decide) (fun c17 => ?_) (fun c17 => ?_)
      · have hf := i_t c17 hf
        refine lv_iconst (v := 1) hx hb dX10_findFollowers_66 (by decide) ?_
        refine lv_goto (tgt := 71) hx hb dX10_findFollowers_67 (by decide) ?_
        refine lv_istore (lv' := [(5, .int 1), (0, .ref (g 0)), (1, .int a1), (2, .int a2), (3, .int a3), (4, .int a4)]) hx hb dX10_findFollowers_71 hl (by decide) rfl (fun ls hl => ?_)
        refine lv_aload_n hx hb dX10_findFollowers_73 rfl (lv_at hl 1 rfl) ?_
        refine j_get I hx hb hts iw_X10_findFollowers_X10 hown 0 (by decide) (km0 g Y _) rfl 11 (by decide) (hts (.fieldLink RX10 34 "ReelNightModel" "order" "[I") (by decide +kernel)) rfl dX10_findFollowers_74 ?_
        refine lv_aload_n hx hb dX10_findFollowers_77 rfl (lv_at hl 1 rfl) ?_
        refine lv_iload hx hb dX10_findFollowers_78 (lv_at hl 5 rfl) ?_
        obtain ⟨σ18, r19, h20, hf⟩ := o_obn hf
        refine j_iV (rest := [.ref (g 9)]) I ⟨hx, hb, hml, hown, hts⟩ (ct_X10_toPlace σ14 a4 _ h20) (cwV 1 hts gX10_findFollowers_X10_toPlace rfl rfl rfl (by decide +kernel) ⟨Nat.le_of_ble_eq_true rfl, Nat.le_of_ble_eq_true rfl⟩) (by decide) (km0 g Y _) rfl rfl hl.1 rfl (Nat.le_of_ble_eq_true rfl) dX10_findFollowers_80 ⟨Nat.zero_le _, Nat.zero_le _⟩ (fun H locs I => ?_)
        refine lv_iconst (v := 1) hx hb dX10_findFollowers_83 (by decide) ?_
        refine lv_isub hx hb dX10_findFollowers_84 ?_
        obtain ⟨b21, hf⟩ := o_nb hf
        refine j_ald I hx hb 9 (by decide) (km9 g Y _) b21 dX10_findFollowers_85 ?_
        obtain ⟨v22, ev22, hf⟩ := o_itp hf
        refine top_eq ev22 ?_
        refine lv_istore (lv' := [(6, .int v22), (5, .int 1), (0, .ref (g 0)), (1, .int a1), (2, .int a2), (3, .int a3), (4, .int a4)]) hx hb dX10_findFollowers_86 hl (by decide) rfl (fun ls hl => ?_)
        refine lv_aload_n hx hb dX10_findFollowers_88 rfl (lv_at hl 2 rfl) ?_
        refine j_get I hx hb hts iw_X10_findFollowers_X10 hown 0 (by decide) (km0 g Y _) rfl 25 (by decide) (hts (.fieldLink RX10 75 "ReelNightModel" "mayFollow" "[Z") (by decide +kernel)) rfl dX10_findFollowers_89 ?_
        refine lv_bipush (v := 40) hx hb dX10_findFollowers_92 (by decide) ?_
        refine lv_iload_n hx hb dX10_findFollowers_94 rfl (lv_at hl 4 rfl) ?_
        refine lv_imul hx hb dX10_findFollowers_95 ?_
        refine lv_iload hx hb dX10_findFollowers_96 (lv_at hl 6 rfl) ?_
        refine lv_iadd hx hb dX10_findFollowers_98 ?_
        refine lv_iload hx hb dX10_findFollowers_99 (lv_at hl 1 rfl) ?_
        refine lv_if_eq (tgt := 135) hx hb dX10_findFollowers_101 (by decide) (fun c_ => absurd c_ (by decide)) (fun _ => ?_)
        refine lv_aload_n hx hb dX10_findFollowers_104 rfl (lv_at hl 2 rfl) ?_
        refine lv_iload_n hx hb dX10_findFollowers_105 rfl (lv_at hl 4 rfl) ?_
        obtain ⟨σ23, r24, h25, hf⟩ := o_obn hf
        refine j_iV (rest := [.int ((40 * a2) + a4), .ref (g 19)]) I ⟨hx, hb, hml, hown, hts⟩ (ct_X10_rideEnds σ18 a2 _ h25) (cwV 1 hts gX10_findFollowers_X10_rideEnds rfl rfl rfl (by decide +kernel) ⟨Nat.le_of_ble_eq_true rfl, Nat.le_of_ble_eq_true rfl⟩) (by decide) (km0 g Y _) rfl rfl hl.1 rfl (Nat.le_of_ble_eq_true rfl) dX10_findFollowers_106 ⟨Nat.zero_le _, Nat.zero_le _⟩ (fun H locs I => ?_)
        refine lv_aload_n hx hb dX10_findFollowers_109 rfl (lv_at hl 2 rfl) ?_
        refine j_get I hx hb hts iw_X10_findFollowers_X10 hown 0 (by decide) (km0 g Y _) rfl 5 (by decide) (hts (.fieldLink RX10 22 "ReelNightModel" "ways" "[I") (by decide +kernel)) rfl dX10_findFollowers_110 ?_
        refine lv_bipush (v := 6) hx hb dX10_findFollowers_113 (by decide) ?_
        refine lv_iload_n hx hb dX10_findFollowers_115 rfl (lv_at hl 5 rfl) ?_
        refine lv_imul hx hb dX10_findFollowers_116 ?_
        refine lv_iload hx hb dX10_findFollowers_117 (lv_at hl 0 rfl) ?_
        refine lv_iadd hx hb dX10_findFollowers_119 ?_
        obtain ⟨b26, hf⟩ := o_nb hf
        refine j_ald I hx hb 5 (by decide) (km5 g Y _) b26 dX10_findFollowers_120 ?_
        refine lv_iadd hx hb dX10_findFollowers_121 ?_
        refine lv_aload_n hx hb dX10_findFollowers_122 rfl (lv_at hl 2 rfl) ?_
        refine lv_iload hx hb dX10_findFollowers_123 (lv_at hl 6 rfl) ?_
        obtain ⟨σ27, r28, h29, hf⟩ := o_obn hf
        refine j_iV (rest := [.int (r24 + (σ23 5 ((6 * a3) + v22).toNatClampNeg)), .int ((40 * a2) + a4), .ref (g 19)]) I ⟨hx, hb, hml, hown, hts⟩ (ct_X10_rideBegins σ23 a4 _ h29) (cwV 1 hts gX10_findFollowers_X10_rideBegins rfl rfl rfl (by decide +kernel) ⟨Nat.le_of_ble_eq_true rfl, Nat.le_of_ble_eq_true rfl⟩) (by decide) (km0 g Y _) rfl rfl hl.1 rfl (Nat.le_of_ble_eq_true rfl) dX10_findFollowers_125 ⟨Nat.zero_le _, Nat.zero_le _⟩ (fun H locs I => ?_)
        refine lv_icmp_gt (tgt := 135) hx hb dX10_findFollowers_128 (by decide) (fun c30 => ?_) (fun c30 => ?_)
        · have hf := i_t c30 hf
          refine lv_iconst (v := 0) hx hb dX10_findFollowers_135 (by decide) ?_
          obtain ⟨b31, hf⟩ := o_nb hf
          obtain ⟨σ32, eσ32, hf⟩ := o_stp hf
          refine j_zast I hx hb 19 (by decide) (km19 g Y) b31 eσ32 dX10_findFollowers_136 (fun H locs I => ?_)
          refine lv_iinc (v := (a4 + 1)) (lv' := [(4, .int (a4 + 1)), (6, .int v22), (5, .int 1), (0, .ref (g 0)), (1, .int a1), (2, .int a2), (3, .int a3)]) hx hb dX10_findFollowers_137 hl (k := 6) rfl rfl (by decide) rfl (fun ls hl => ?_)
          refine lv_goto (tgt := 26) hx hb dX10_findFollowers_140 (by decide) ?_
          exact ih σ32 a1 a2 a3 (a4 + 1) _ _ _ hf I (lv_sub hl [3, 4, 5, 6, 0] rfl)
        · have hf := i_f c30 hf
          refine lv_iconst (v := 1) hx hb dX10_findFollowers_131 (by decide) ?_
          refine lv_goto (tgt := 136) hx hb dX10_findFollowers_132 (by decide) ?_
          obtain ⟨b33, hf⟩ := o_nb hf
          obtain ⟨σ34, eσ34, hf⟩ := o_stp hf
          refine j_zast I hx hb 19 (by decide) (km19 g Y) b33 eσ34 dX10_findFollowers_136 (fun H locs I => ?_)
          refine lv_iinc (v := (a4 + 1)) (lv' := [(4, .int (a4 + 1)), (6, .int v22), (5, .int 1), (0, .ref (g 0)), (1, .int a1), (2, .int a2), (3, .int a3)]) hx hb dX10_findFollowers_137 hl (k := 6) rfl rfl (by decide) rfl (fun ls hl => ?_)
          refine lv_goto (tgt := 26) hx hb dX10_findFollowers_140 (by decide) ?_
          exact ih σ34 a1 a2 a3 (a4 + 1) _ _ _ hf I (lv_sub hl [3, 4, 5, 6, 0] rfl)
      · have hf := i_f c17 hf
        refine lv_aload_n hx hb dX10_findFollowers_46 rfl (lv_at hl 0 rfl) ?_
        refine lv_iload_n hx hb dX10_findFollowers_47 rfl (lv_at hl 2 rfl) ?_
        obtain ⟨σ35, r36, h37, hf⟩ := o_obn hf
        refine j_iV (rest := []) I ⟨hx, hb, hml, hown, hts⟩ (ct_X10_rideBegins σ14 a2 _ h37) (cwV 1 hts gX10_findFollowers_X10_rideBegins rfl rfl rfl (by decide +kernel) ⟨Nat.le_of_ble_eq_true rfl, Nat.le_of_ble_eq_true rfl⟩) (by decide) (km0 g Y _) rfl rfl hl.1 rfl (Nat.le_of_ble_eq_true rfl) dX10_findFollowers_48 ⟨Nat.zero_le _, Nat.zero_le _⟩ (fun H locs I => ?_)
        refine lv_aload_n hx hb dX10_findFollowers_51 rfl (lv_at hl 0 rfl) ?_
        refine lv_iload hx hb dX10_findFollowers_52 (lv_at hl 4 rfl) ?_
        obtain ⟨σ38, r39, h40, hf⟩ := o_obn hf
        refine j_iV (rest := [.int r36]) I ⟨hx, hb, hml, hown, hts⟩ (ct_X10_rideBegins σ35 a4 _ h40) (cwV 1 hts gX10_findFollowers_X10_rideBegins rfl rfl rfl (by decide +kernel) ⟨Nat.le_of_ble_eq_true rfl, Nat.le_of_ble_eq_true rfl⟩) (by decide) (km0 g Y _) rfl rfl hl.1 rfl (Nat.le_of_ble_eq_true rfl) dX10_findFollowers_54 ⟨Nat.zero_le _, Nat.zero_le _⟩ (fun H locs I => ?_)
        refine lv_icmp_ne (tgt := 70) hx hb dX10_findFollowers_57 (by decide) (fun c41 => ?_) (fun c41 => ?_)
        · have hf := i_f c41 hf
          refine lv_iconst (v := 0) hx hb dX10_findFollowers_70 (by decide) ?_
          refine lv_istore (lv' := [(5, .int 0), (0, .ref (g 0)), (1, .int a1), (2, .int a2), (3, .int a3), (4, .int a4)]) hx hb dX10_findFollowers_71 hl (by decide) rfl (fun ls hl => ?_)
          refine lv_aload_n hx hb dX10_findFollowers_73 rfl (lv_at hl 1 rfl) ?_
          refine j_get I hx hb hts iw_X10_findFollowers_X10 hown 0 (by decide) (km0 g Y _) rfl 11 (by decide) (hts (.fieldLink RX10 34 "ReelNightModel" "order" "[I") (by decide +kernel)) rfl dX10_findFollowers_74 ?_
          refine lv_aload_n hx hb dX10_findFollowers_77 rfl (lv_at hl 1 rfl) ?_
          refine lv_iload hx hb dX10_findFollowers_78 (lv_at hl 5 rfl) ?_
          obtain ⟨σ42, r43, h44, hf⟩ := o_obn hf
          refine j_iV (rest := [.ref (g 9)]) I ⟨hx, hb, hml, hown, hts⟩ (ct_X10_toPlace σ38 a4 _ h44) (cwV 1 hts gX10_findFollowers_X10_toPlace rfl rfl rfl (by decide +kernel) ⟨Nat.le_of_ble_eq_true rfl, Nat.le_of_ble_eq_true rfl⟩) (by decide) (km0 g Y _) rfl rfl hl.1 rfl (Nat.le_of_ble_eq_true rfl) dX10_findFollowers_80 ⟨Nat.zero_le _, Nat.zero_le _⟩ (fun H locs I => ?_)
          refine lv_iconst (v := 1) hx hb dX10_findFollowers_83 (by decide) ?_
          refine lv_isub hx hb dX10_findFollowers_84 ?_
          obtain ⟨b45, hf⟩ := o_nb hf
          refine j_ald I hx hb 9 (by decide) (km9 g Y _) b45 dX10_findFollowers_85 ?_
          obtain ⟨v46, ev46, hf⟩ := o_itp hf
          refine top_eq ev46 ?_
          refine lv_istore (lv' := [(6, .int v46), (5, .int 0), (0, .ref (g 0)), (1, .int a1), (2, .int a2), (3, .int a3), (4, .int a4)]) hx hb dX10_findFollowers_86 hl (by decide) rfl (fun ls hl => ?_)
          refine lv_aload_n hx hb dX10_findFollowers_88 rfl (lv_at hl 2 rfl) ?_
          refine j_get I hx hb hts iw_X10_findFollowers_X10 hown 0 (by decide) (km0 g Y _) rfl 25 (by decide) (hts (.fieldLink RX10 75 "ReelNightModel" "mayFollow" "[Z") (by decide +kernel)) rfl dX10_findFollowers_89 ?_
          refine lv_bipush (v := 40) hx hb dX10_findFollowers_92 (by decide) ?_
          refine lv_iload_n hx hb dX10_findFollowers_94 rfl (lv_at hl 4 rfl) ?_
          refine lv_imul hx hb dX10_findFollowers_95 ?_
          refine lv_iload hx hb dX10_findFollowers_96 (lv_at hl 6 rfl) ?_
          refine lv_iadd hx hb dX10_findFollowers_98 ?_
          refine lv_iload hx hb dX10_findFollowers_99 (lv_at hl 1 rfl) ?_
          refine lv_if_eq (tgt := 135) hx hb dX10_findFollowers_101 (by decide) (fun _ => ?_) (fun c_ => absurd (by decide) c_)
          refine lv_iconst (v := 0) hx hb dX10_findFollowers_135 (by decide) ?_
          obtain ⟨b47, hf⟩ := o_nb hf
          obtain ⟨σ48, eσ48, hf⟩ := o_stp hf
          refine j_zast I hx hb 19 (by decide) (km19 g Y) b47 eσ48 dX10_findFollowers_136 (fun H locs I => ?_)
          refine lv_iinc (v := (a4 + 1)) (lv' := [(4, .int (a4 + 1)), (6, .int v46), (5, .int 0), (0, .ref (g 0)), (1, .int a1), (2, .int a2), (3, .int a3)]) hx hb dX10_findFollowers_137 hl (k := 6) rfl rfl (by decide) rfl (fun ls hl => ?_)
          refine lv_goto (tgt := 26) hx hb dX10_findFollowers_140 (by decide) ?_
          exact ih σ48 a1 a2 a3 (a4 + 1) _ _ _ hf I (lv_sub hl [3, 4, 5, 6, 0] rfl)
        · have hf := i_t c41 hf
          refine lv_iload_n hx hb dX10_findFollowers_60 rfl (lv_at hl 2 rfl) ?_
          refine lv_iload hx hb dX10_findFollowers_61 (lv_at hl 4 rfl) ?_
          refine lv_icmp_ge (tgt := 70) hx hb dX10_findFollowers_63 (by decide) (fun c49 => ?_) (fun c49 => ?_)
          · have hf := i_t c49 hf
            refine lv_iconst (v := 0) hx hb dX10_findFollowers_70 (by decide) ?_
            refine lv_istore (lv' := [(5, .int 0), (0, .ref (g 0)), (1, .int a1), (2, .int a2), (3, .int a3), (4, .int a4)]) hx hb dX10_findFollowers_71 hl (by decide) rfl (fun ls hl => ?_)
            refine lv_aload_n hx hb dX10_findFollowers_73 rfl (lv_at hl 1 rfl) ?_
            refine j_get I hx hb hts iw_X10_findFollowers_X10 hown 0 (by decide) (km0 g Y _) rfl 11 (by decide) (hts (.fieldLink RX10 34 "ReelNightModel" "order" "[I") (by decide +kernel)) rfl dX10_findFollowers_74 ?_
            refine lv_aload_n hx hb dX10_findFollowers_77 rfl (lv_at hl 1 rfl) ?_
            refine lv_iload hx hb dX10_findFollowers_78 (lv_at hl 5 rfl) ?_
            obtain ⟨σ50, r51, h52, hf⟩ := o_obn hf
            refine j_iV (rest := [.ref (g 9)]) I ⟨hx, hb, hml, hown, hts⟩ (ct_X10_toPlace σ38 a4 _ h52) (cwV 1 hts gX10_findFollowers_X10_toPlace rfl rfl rfl (by decide +kernel) ⟨Nat.le_of_ble_eq_true rfl, Nat.le_of_ble_eq_true rfl⟩) (by decide) (km0 g Y _) rfl rfl hl.1 rfl (Nat.le_of_ble_eq_true rfl) dX10_findFollowers_80 ⟨Nat.zero_le _, Nat.zero_le _⟩ (fun H locs I => ?_)
            refine lv_iconst (v := 1) hx hb dX10_findFollowers_83 (by decide) ?_
            refine lv_isub hx hb dX10_findFollowers_84 ?_
            obtain ⟨b53, hf⟩ := o_nb hf
            refine j_ald I hx hb 9 (by decide) (km9 g Y _) b53 dX10_findFollowers_85 ?_
            obtain ⟨v54, ev54, hf⟩ := o_itp hf
            refine top_eq ev54 ?_
            refine lv_istore (lv' := [(6, .int v54), (5, .int 0), (0, .ref (g 0)), (1, .int a1), (2, .int a2), (3, .int a3), (4, .int a4)]) hx hb dX10_findFollowers_86 hl (by decide) rfl (fun ls hl => ?_)
            refine lv_aload_n hx hb dX10_findFollowers_88 rfl (lv_at hl 2 rfl) ?_
            refine j_get I hx hb hts iw_X10_findFollowers_X10 hown 0 (by decide) (km0 g Y _) rfl 25 (by decide) (hts (.fieldLink RX10 75 "ReelNightModel" "mayFollow" "[Z") (by decide +kernel)) rfl dX10_findFollowers_89 ?_
            refine lv_bipush (v := 40) hx hb dX10_findFollowers_92 (by decide) ?_
            refine lv_iload_n hx hb dX10_findFollowers_94 rfl (lv_at hl 4 rfl) ?_
            refine lv_imul hx hb dX10_findFollowers_95 ?_
            refine lv_iload hx hb dX10_findFollowers_96 (lv_at hl 6 rfl) ?_
            refine lv_iadd hx hb dX10_findFollowers_98 ?_
            refine lv_iload hx hb dX10_findFollowers_99 (lv_at hl 1 rfl) ?_
            refine lv_if_eq (tgt := 135) hx hb dX10_findFollowers_101 (by decide) (fun _ => ?_) (fun c_ => absurd (by decide) c_)
            refine lv_iconst (v := 0) hx hb dX10_findFollowers_135 (by decide) ?_
            obtain ⟨b55, hf⟩ := o_nb hf
            obtain ⟨σ56, eσ56, hf⟩ := o_stp hf
            refine j_zast I hx hb 19 (by decide) (km19 g Y) b55 eσ56 dX10_findFollowers_136 (fun H locs I => ?_)
            refine lv_iinc (v := (a4 + 1)) (lv' := [(4, .int (a4 + 1)), (6, .int v54), (5, .int 0), (0, .ref (g 0)), (1, .int a1), (2, .int a2), (3, .int a3)]) hx hb dX10_findFollowers_137 hl (k := 6) rfl rfl (by decide) rfl (fun ls hl => ?_)
            refine lv_goto (tgt := 26) hx hb dX10_findFollowers_140 (by decide) ?_
            exact ih σ56 a1 a2 a3 (a4 + 1) _ _ _ hf I (lv_sub hl [3, 4, 5, 6, 0] rfl)
          · have hf := i_f c49 hf
            refine lv_iconst (v := 1) hx hb dX10_findFollowers_66 (by decide) ?_
            refine lv_goto (tgt := 71) hx hb dX10_findFollowers_67 (by decide) ?_
            refine lv_istore (lv' := [(5, .int 1), (0, .ref (g 0)), (1, .int a1), (2, .int a2), (3, .int a3), (4, .int a4)]) hx hb dX10_findFollowers_71 hl (by decide) rfl (fun ls hl => ?_)
            refine lv_aload_n hx hb dX10_findFollowers_73 rfl (lv_at hl 1 rfl) ?_
            refine j_get I hx hb hts iw_X10_findFollowers_X10 hown 0 (by decide) (km0 g Y _) rfl 11 (by decide) (hts (.fieldLink RX10 34 "ReelNightModel" "order" "[I") (by decide +kernel)) rfl dX10_findFollowers_74 ?_
            refine lv_aload_n hx hb dX10_findFollowers_77 rfl (lv_at hl 1 rfl) ?_
            refine lv_iload hx hb dX10_findFollowers_78 (lv_at hl 5 rfl) ?_
            obtain ⟨σ57, r58, h59, hf⟩ := o_obn hf
            refine j_iV (rest := [.ref (g 9)]) I ⟨hx, hb, hml, hown, hts⟩ (ct_X10_toPlace σ38 a4 _ h59) (cwV 1 hts gX10_findFollowers_X10_toPlace rfl rfl rfl (by decide +kernel) ⟨Nat.le_of_ble_eq_true rfl, Nat.le_of_ble_eq_true rfl⟩) (by decide) (km0 g Y _) rfl rfl hl.1 rfl (Nat.le_of_ble_eq_true rfl) dX10_findFollowers_80 ⟨Nat.zero_le _, Nat.zero_le _⟩ (fun H locs I => ?_)
            refine lv_iconst (v := 1) hx hb dX10_findFollowers_83 (by decide) ?_
            refine lv_isub hx hb dX10_findFollowers_84 ?_
            obtain ⟨b60, hf⟩ := o_nb hf
            refine j_ald I hx hb 9 (by decide) (km9 g Y _) b60 dX10_findFollowers_85 ?_
            obtain ⟨v61, ev61, hf⟩ := o_itp hf
            refine top_eq ev61 ?_
            refine lv_istore (lv' := [(6, .int v61), (5, .int 1), (0, .ref (g 0)), (1, .int a1), (2, .int a2), (3, .int a3), (4, .int a4)]) hx hb dX10_findFollowers_86 hl (by decide) rfl (fun ls hl => ?_)
            refine lv_aload_n hx hb dX10_findFollowers_88 rfl (lv_at hl 2 rfl) ?_
            refine j_get I hx hb hts iw_X10_findFollowers_X10 hown 0 (by decide) (km0 g Y _) rfl 25 (by decide) (hts (.fieldLink RX10 75 "ReelNightModel" "mayFollow" "[Z") (by decide +kernel)) rfl dX10_findFollowers_89 ?_
            refine lv_bipush (v := 40) hx hb dX10_findFollowers_92 (by decide) ?_
            refine lv_iload_n hx hb dX10_findFollowers_94 rfl (lv_at hl 4 rfl) ?_
            refine lv_imul hx hb dX10_findFollowers_95 ?_
            refine lv_iload hx hb dX10_findFollowers_96 (lv_at hl 6 rfl) ?_
            refine lv_iadd hx hb dX10_findFollowers_98 ?_
            refine lv_iload hx hb dX10_findFollowers_99 (lv_at hl 1 rfl) ?_
            refine lv_if_eq (tgt := 135) hx hb dX10_findFollowers_101 (by decide) (fun c_ => absurd c_ (by decide)) (fun _ => ?_)
            refine lv_aload_n hx hb dX10_findFollowers_104 rfl (lv_at hl 2 rfl) ?_
            refine lv_iload_n hx hb dX10_findFollowers_105 rfl (lv_at hl 4 rfl) ?_
            obtain ⟨σ62, r63, h64, hf⟩ := o_obn hf
            refine j_iV (rest := [.int ((40 * a2) + a4), .ref (g 19)]) I ⟨hx, hb, hml, hown, hts⟩ (ct_X10_rideEnds σ57 a2 _ h64) (cwV 1 hts gX10_findFollowers_X10_rideEnds rfl rfl rfl (by decide +kernel) ⟨Nat.le_of_ble_eq_true rfl, Nat.le_of_ble_eq_true rfl⟩) (by decide) (km0 g Y _) rfl rfl hl.1 rfl (Nat.le_of_ble_eq_true rfl) dX10_findFollowers_106 ⟨Nat.zero_le _, Nat.zero_le _⟩ (fun H locs I => ?_)
            refine lv_aload_n hx hb dX10_findFollowers_109 rfl (lv_at hl 2 rfl) ?_
            refine j_get I hx hb hts iw_X10_findFollowers_X10 hown 0 (by decide) (km0 g Y _) rfl 5 (by decide) (hts (.fieldLink RX10 22 "ReelNightModel" "ways" "[I") (by decide +kernel)) rfl dX10_findFollowers_110 ?_
            refine lv_bipush (v := 6) hx hb dX10_findFollowers_113 (by decide) ?_
            refine lv_iload_n hx hb dX10_findFollowers_115 rfl (lv_at hl 5 rfl) ?_
            refine lv_imul hx hb dX10_findFollowers_116 ?_
            refine lv_iload hx hb dX10_findFollowers_117 (lv_at hl 0 rfl) ?_
            refine lv_iadd hx hb dX10_findFollowers_119 ?_
            obtain ⟨b65, hf⟩ := o_nb hf
            refine j_ald I hx hb 5 (by decide) (km5 g Y _) b65 dX10_findFollowers_120 ?_
            refine lv_iadd hx hb dX10_findFollowers_121 ?_
            refine lv_aload_n hx hb dX10_findFollowers_122 rfl (lv_at hl 2 rfl) ?_
            refine lv_iload hx hb dX10_findFollowers_123 (lv_at hl 6 rfl) ?_
            obtain ⟨σ66, r67, h68, hf⟩ := o_obn hf
            refine j_iV (rest := [.int (r63 + (σ62 5 ((6 * a3) + v61).toNatClampNeg)), .int ((40 * a2) + a4), .ref (g 19)]) I ⟨hx, hb, hml, hown, hts⟩ (ct_X10_rideBegins σ62 a4 _ h68) (cwV 1 hts gX10_findFollowers_X10_rideBegins rfl rfl rfl (by decide +kernel) ⟨Nat.le_of_ble_eq_true rfl, Nat.le_of_ble_eq_true rfl⟩) (by decide) (km0 g Y _) rfl rfl hl.1 rfl (Nat.le_of_ble_eq_true rfl) dX10_findFollowers_125 ⟨Nat.zero_le _, Nat.zero_le _⟩ (fun H locs I => ?_)
            refine lv_icmp_gt (tgt := 135) hx hb dX10_findFollowers_128 (by decide) (fun c69 => ?_) (fun c69 => ?_)
            · have hf := i_t c69 hf
              refine lv_iconst (v := 0) hx hb dX10_findFollowers_135 (by decide) ?_
              obtain ⟨b70, hf⟩ := o_nb hf
              obtain ⟨σ71, eσ71, hf⟩ := o_stp hf
              refine j_zast I hx hb 19 (by decide) (km19 g Y) b70 eσ71 dX10_findFollowers_136 (fun H locs I => ?_)
              refine lv_iinc (v := (a4 + 1)) (lv' := [(4, .int (a4 + 1)), (6, .int v61), (5, .int 1), (0, .ref (g 0)), (1, .int a1), (2, .int a2), (3, .int a3)]) hx hb dX10_findFollowers_137 hl (k := 6) rfl rfl (by decide) rfl (fun ls hl => ?_)
              refine lv_goto (tgt := 26) hx hb dX10_findFollowers_140 (by decide) ?_
              exact ih σ71 a1 a2 a3 (a4 + 1) _ _ _ hf I (lv_sub hl [3, 4, 5, 6, 0] rfl)
            · have hf := i_f c69 hf
              refine lv_iconst (v := 1) hx hb dX10_findFollowers_131 (by decide) ?_
              refine lv_goto (tgt := 136) hx hb dX10_findFollowers_132 (by decide) ?_
              obtain ⟨b72, hf⟩ := o_nb hf
              obtain ⟨σ73, eσ73, hf⟩ := o_stp hf
              refine j_zast I hx hb 19 (by decide) (km19 g Y) b72 eσ73 dX10_findFollowers_136 (fun H locs I => ?_)
              refine lv_iinc (v := (a4 + 1)) (lv' := [(4, .int (a4 + 1)), (6, .int v61), (5, .int 1), (0, .ref (g 0)), (1, .int a1), (2, .int a2), (3, .int a3)]) hx hb dX10_findFollowers_137 hl (k := 6) rfl rfl (by decide) rfl (fun ls hl => ?_)
              refine lv_goto (tgt := 26) hx hb dX10_findFollowers_140 (by decide) ?_
              exact ih σ73 a1 a2 a3 (a4 + 1) _ _ _ hf I (lv_sub hl [3, 4, 5, 6, 0] rfl)
set_option maxHeartbeats 4000000 in
set_option maxRecDepth 100000 in
theorem bX10_findFollowers_L7 {p : Program} {l : Launch} {e : Env} {s : State} {m : MethodId} {args : Array Value} {below : List Frame} {meth : Method} {c : Code} {D : va_G} {g : Nat → Nat} {Y : YT} {bP : Nat} {σ0 : St} {res : St × Int32} (C0 : MC p s m args meth c cX10_findFollowers 7 none RX10 wsX10_findFollowers) : ∀ (n : Nat) (σ : St) (a1 : Int32) (a2 : Int32) (H : Heap) (locs : List Loc) (ls : Array Slot), fX10_findFollowers_L7 n σ a1 a2 = some res → JW D 27 g (KM g Y) Y bP (va_A (wd 27 g (KM g Y) σ0) s.heap.size) s σ H locs → lv_has ls 7 [(0, .ref (g 0)), (1, .int a1), (2, .int a2)] → W p l e (⟨5, 0, 0, 111⟩ : Room) s m args below meth c H locs 0 0 (MQ below (Qv D 27 g (KM g Y) Y σ0 res s.heap.size) args s 0 0 (va_A (wd 27 g (KM g Y) σ0) s.heap.size)) (F0 m 7 ls []) := by
  have C0 := C0
  obtain ⟨hx, hb, hr, hml, hown, hts, hlk⟩ := id C0
  intro n
  induction n with
  | zero =>
    intro σ a1 a2 H locs ls hf
    cases hf
  | succ n ih =>
    intro σ a1 a2 H locs ls hf I hl
    rw [fX10_findFollowers_L7] at hf
    refine lv_iload_n hx hb dX10_findFollowers_7 rfl (lv_at hl 2 rfl) ?_
    refine lv_iload_n hx hb dX10_findFollowers_8 rfl (lv_at hl 1 rfl) ?_
    refine lv_icmp_ge (tgt := 149) hx hb dX10_findFollowers_9 (by decide) (fun c4 => ?_) (fun c4 => ?_)
    · have hf := i_t c4 hf
      exact j_vret I hx hb hr hlk hf dX10_findFollowers_149
    · have hf := i_f c4 hf
      refine lv_aload_n hx hb dX10_findFollowers_12 rfl (lv_at hl 0 rfl) ?_
      refine j_get I hx hb hts iw_X10_findFollowers_X10 hown 0 (by decide) (km0 g Y _) rfl 11 (by decide) (hts (.fieldLink RX10 34 "ReelNightModel" "order" "[I") (by decide +kernel)) rfl dX10_findFollowers_13 ?_
      refine lv_aload_n hx hb dX10_findFollowers_16 rfl (lv_at hl 0 rfl) ?_
      refine lv_iload_n hx hb dX10_findFollowers_17 rfl (lv_at hl 2 rfl) ?_
      obtain ⟨σ5, r6, h7, hf⟩ := o_obn hf
      refine j_iV (rest := [.ref (g 9)]) I ⟨hx, hb, hml, hown, hts⟩ (ct_X10_toPlace σ a2 _ h7) (cwV 1 hts gX10_findFollowers_X10_toPlace rfl rfl rfl (by decide +kernel) ⟨Nat.le_of_ble_eq_true rfl, Nat.le_of_ble_eq_true rfl⟩) (by decide) (km0 g Y _) rfl rfl hl.1 rfl (Nat.le_of_ble_eq_true rfl) dX10_findFollowers_18 ⟨Nat.zero_le _, Nat.zero_le _⟩ (fun H locs I => ?_)
      obtain ⟨b8, hf⟩ := o_nb hf
      refine j_ald I hx hb 9 (by decide) (km9 g Y _) b8 dX10_findFollowers_21 ?_
      obtain ⟨v9, ev9, hf⟩ := o_itp hf
      refine top_eq ev9 ?_
      refine lv_istore_n (lv' := [(3, .int v9), (0, .ref (g 0)), (1, .int a1), (2, .int a2)]) hx hb dX10_findFollowers_22 rfl hl (by decide) rfl (fun ls hl => ?_)
      refine lv_iconst (v := 0) hx hb dX10_findFollowers_23 (by decide) ?_
      refine lv_istore (lv' := [(4, .int 0), (3, .int v9), (0, .ref (g 0)), (1, .int a1), (2, .int a2)]) hx hb dX10_findFollowers_24 hl (by decide) rfl (fun ls hl => ?_)
      refine bX10_findFollowers_L26 C0 ?_ 50 σ5 a1 a2 v9 0 _ _ _ hf I (lv_sub hl [2, 3, 4, 1, 0] rfl)
      · intro σ74 a75 a76 H locs ls hf I hl
        refine lv_iinc (v := (a76 + 1)) (lv' := [(2, .int (a76 + 1)), (0, .ref (g 0)), (1, .int a75)]) hx hb dX10_findFollowers_143 hl (k := 2) rfl rfl (by decide) rfl (fun ls hl => ?_)
        refine lv_goto (tgt := 7) hx hb dX10_findFollowers_146 (by decide) ?_
        exact ih σ74 a75 (a76 + 1) _ _ _ hf I (lv_sub hl [1, 2, 0] rfl)
set_option maxHeartbeats 4000000 in
set_option maxRecDepth 100000 in
theorem ct_X10_findFollowers {l : Launch} {D : va_G} {g : Nat → Nat} {Y : YT} {bP : Nat} (σ : St) (res : St × Int32) (hf : fX10_findFollowers σ = some res) : Cv l yX10_findFollowers wsX10_findFollowers ⟨5, 0, 0, 111⟩ D 27 g (KM g Y) Y bP [.ref (g 0)] σ res := by
  intro sz
  refine Met.ofW (cc := cX10_findFollowers) (maxL := 7) (ret := none) (by decide) rfl ?_
  intro p e s m args below meth c s₁ B hml hv
  obtain ⟨rfl, rfl, I⟩ := j_start hv
  have C0 : MC p s m _ meth c cX10_findFollowers 7 none RX10 wsX10_findFollowers := ⟨B.exec, B.bytes, B.returns, hml, findClass_of_methodNamed B.named, atoms_spec (ws := wsX10_findFollowers) B.pre, B.notSynchronized⟩
  obtain ⟨hx, hb, hr, hml, hown, hts, hlk⟩ := id C0
  have hl := lv_entry ([.ref (g 0)]) (n := 7) (Nat.le_of_ble_eq_true rfl)
  rw [lg_entry_eq]
  generalize (lg_sl ([.ref (g 0)]) ++ List.replicate (7 - (lg_sl ([.ref (g 0)])).length) Slot.unset).toArray = ls at hl ⊢
  have hl : lv_has ls 7 [(0, .ref (g 0))] := hl
  rw [fX10_findFollowers] at hf
  refine lv_aload_n hx hb dX10_findFollowers_0 rfl (lv_at hl 0 rfl) ?_
  obtain ⟨σ1, r2, h3, hf⟩ := o_obn hf
  refine j_iV (rest := []) I ⟨hx, hb, hml, hown, hts⟩ (ct_X10_rides σ _ h3) (cwV 0 hts gX10_findFollowers_X10_rides rfl rfl rfl (by decide +kernel) ⟨Nat.le_of_ble_eq_true rfl, Nat.le_of_ble_eq_true rfl⟩) (by decide) (km0 g Y _) rfl rfl hl.1 rfl (Nat.le_of_ble_eq_true rfl) dX10_findFollowers_1 ⟨Nat.zero_le _, Nat.zero_le _⟩ (fun H locs I => ?_)
  refine lv_istore_n (lv' := [(1, .int r2), (0, .ref (g 0))]) hx hb dX10_findFollowers_4 rfl hl (by decide) rfl (fun ls hl => ?_)
  refine lv_iconst (v := 0) hx hb dX10_findFollowers_5 (by decide) ?_
  refine lv_istore_n (lv' := [(2, .int 0), (1, .int r2), (0, .ref (g 0))]) hx hb dX10_findFollowers_6 rfl hl (by decide) rfl (fun ls hl => ?_)
  refine bX10_findFollowers_L7 C0 50 σ1 r2 0 _ _ _ hf I (lv_sub hl [2, 1, 0] rfl)
