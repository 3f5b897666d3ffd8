theorem iw_X10_cause_X10 : ∀ w ∈ u_ws RX10 TX10 37, w ∈ wsX10_cause := fun _ h => List.mem_cons_of_mem _ (List.mem_append_right _ h)
set_option maxHeartbeats 4000000 in
set_option maxRecDepth 100000 in
theorem ct_X10_cause {l : Launch} {D : va_G} {g : Nat → Nat} {Y : YT} {bP : Nat} (σ : St) (p0 : Int32) (p1 : Int32) (res : St × Int32) (hf : fX10_cause σ p0 p1 = some res) : Ci l yX10_cause wsX10_cause ⟨4, 0, 0, 91⟩ D 27 g (KM g Y) Y bP [.ref (g 0), .int p0, .int p1] σ res := by
  intro sz
  refine Met.ofW (cc := cX10_cause) (maxL := 4) (ret := (some .int)) (by decide) rfl ?_
  intro p e s m args below meth c s₁ B hml hv
  obtain ⟨rfl, rfl, I⟩ := j_start hv
  have C0 : MC p s m _ meth c cX10_cause 4 (some .int) RX10 wsX10_cause := ⟨B.exec, B.bytes, B.returns, hml, findClass_of_methodNamed B.named, atoms_spec (ws := wsX10_cause) B.pre, B.notSynchronized⟩
  obtain ⟨hx, hb, hr, hml, hown, hts, hlk⟩ := id C0
  have hl := lv_entry ([.ref (g 0), .int p0, .int p1]) (n := 4) (Nat.le_of_ble_eq_true rfl)
  rw [lg_entry_eq]
  generalize (lg_sl ([.ref (g 0), .int p0, .int p1]) ++ List.replicate (4 - (lg_sl ([.ref (g 0), .int p0, .int p1])).length) Slot.unset).toArray = ls at hl ⊢
  have hl : lv_has ls 4 [(0, .ref (g 0)), (1, .int p0), (2, .int p1)] := hl
  rw [fX10_cause] at hf
  refine lv_aload_n hx hb dX10_cause_0 rfl (lv_at hl 0 rfl) ?_
  refine lv_iload_n hx hb dX10_cause_1 rfl (lv_at hl 1 rfl) ?_
  obtain ⟨σ1, r2, h3, hf⟩ := o_obn hf
  refine j_iV (rest := []) I ⟨hx, hb, hml, hown, hts⟩ (ct_X10_isPlace σ p0 _ h3) (cwV 1 hts gX10_cause_X10_isPlace rfl rfl rfl (by decide +kernel) ⟨Nat.le_of_ble_eq_true rfl, Nat.le_of_ble_eq_true rfl⟩) (by decide) (km0 g Y _) rfl rfl hl.1 rfl (Nat.le_of_ble_eq_true rfl) dX10_cause_2 ⟨Nat.zero_le _, Nat.zero_le _⟩ (fun H locs I => ?_)
  refine lv_if_eq (tgt := 16) hx hb dX10_cause_5 (by decide) (fun c4 => ?_) (fun c4 => ?_)
  · have hf := i_t c4 hf
    refine lv_ldc hx hb hown (hts (.constant RX10 109 (-1000000001)) (by decide +kernel)) dX10_cause_16 ?_
    exact j_iret I hx hb hr rfl hlk hf dX10_cause_18
  · have hf := i_f c4 hf
    refine lv_aload_n hx hb dX10_cause_8 rfl (lv_at hl 0 rfl) ?_
    refine lv_iload_n hx hb dX10_cause_9 rfl (lv_at hl 2 rfl) ?_
    obtain ⟨σ5, r6, h7, hf⟩ := o_obn hf
    refine j_iV (rest := []) I ⟨hx, hb, hml, hown, hts⟩ (ct_X10_isReel σ1 p1 _ h7) (cwV 1 hts gX10_cause_X10_isReel rfl rfl rfl (by decide +kernel) ⟨Nat.le_of_ble_eq_true rfl, Nat.le_of_ble_eq_true rfl⟩) (by decide) (km0 g Y _) rfl rfl hl.1 rfl (Nat.le_of_ble_eq_true rfl) dX10_cause_10 ⟨Nat.zero_le _, Nat.zero_le _⟩ (fun H locs I => ?_)
    refine lv_if_ne (tgt := 19) hx hb dX10_cause_13 (by decide) (fun c8 => ?_) (fun c8 => ?_)
    · have hf := i_f c8 hf
      refine lv_aload_n hx hb dX10_cause_19 rfl (lv_at hl 0 rfl) ?_
      obtain ⟨σ9, r10, h11, hf⟩ := o_obn hf
      refine j_vV (rest := []) I ⟨hx, hb, hml, hown, hts⟩ (ct_X10_goOn σ5 _ h11) (cwV 0 hts gX10_cause_X10_goOn rfl rfl rfl (by decide +kernel) ⟨Nat.le_of_ble_eq_true rfl, Nat.le_of_ble_eq_true rfl⟩) (by decide) (km0 g Y _) rfl rfl hl.1 rfl (Nat.le_of_ble_eq_true rfl) dX10_cause_20 ⟨Nat.zero_le _, Nat.zero_le _⟩ (fun H locs I => ?_)
      refine lv_aload_n hx hb dX10_cause_23 rfl (lv_at hl 0 rfl) ?_
      obtain ⟨σ12, r13, h14, hf⟩ := o_obn hf
      refine j_vV (rest := []) I ⟨hx, hb, hml, hown, hts⟩ (ct_X10_findCauses σ9 _ h14) (cwV 0 hts gX10_cause_X10_findCauses rfl rfl rfl (by decide +kernel) ⟨Nat.le_of_ble_eq_true rfl, Nat.le_of_ble_eq_true rfl⟩) (by decide) (km0 g Y _) rfl rfl hl.1 rfl (Nat.le_of_ble_eq_true rfl) dX10_cause_24 ⟨Nat.zero_le _, Nat.zero_le _⟩ (fun H locs I => ?_)
      refine lv_aload_n hx hb dX10_cause_27 rfl (lv_at hl 0 rfl) ?_
      refine j_get I hx hb hts iw_X10_cause_X10 hown 0 (by decide) (km0 g Y _) rfl 29 (by decide) (hts (.fieldLink RX10 87 "ReelNightModel" "causes" "[I") (by decide +kernel)) rfl dX10_cause_28 ?_
      refine lv_bipush (v := 8) hx hb dX10_cause_31 (by decide) ?_
      refine lv_iload_n hx hb dX10_cause_33 rfl (lv_at hl 1 rfl) ?_
      refine lv_imul hx hb dX10_cause_34 ?_
      refine lv_iload_n hx hb dX10_cause_35 rfl (lv_at hl 2 rfl) ?_
      refine lv_iadd hx hb dX10_cause_36 ?_
      obtain ⟨b15, hf⟩ := o_nb hf
      refine j_ald I hx hb 23 (by decide) (km23 g Y _) b15 dX10_cause_37 ?_
      obtain ⟨v16, ev16, hf⟩ := o_itp hf
      refine top_eq ev16 ?_
      refine lv_istore_n (lv' := [(3, .int v16), (0, .ref (g 0)), (1, .int p0), (2, .int p1)]) hx hb dX10_cause_38 rfl hl (by decide) rfl (fun ls hl => ?_)
      refine lv_iload_n hx hb dX10_cause_39 rfl (lv_at hl 0 rfl) ?_
      refine lv_if_ge (tgt := 48) hx hb dX10_cause_40 (by decide) (fun c17 => ?_) (fun c17 => ?_)
      · have hf := i_t c17 hf
        refine lv_iload_n hx hb dX10_cause_48 rfl (lv_at hl 0 rfl) ?_
        exact j_iret I hx hb hr rfl hlk hf dX10_cause_49
      · have hf := i_f c17 hf
        refine lv_ldc hx hb hown (hts (.constant RX10 169 (-1000000005)) (by decide +kernel)) dX10_cause_43 ?_
        refine lv_goto (tgt := 49) hx hb dX10_cause_45 (by decide) ?_
        exact j_iret I hx hb hr rfl hlk hf dX10_cause_49
    · have hf := i_t c8 hf
      refine lv_ldc hx hb hown (hts (.constant RX10 109 (-1000000001)) (by decide +kernel)) dX10_cause_16 ?_
      exact j_iret I hx hb hr rfl hlk hf dX10_cause_18

theorem iw_X10_where_X10 : ∀ w ∈ u_ws RX10 TX10 37, w ∈ wsX10_where := fun _ h => List.mem_cons_of_mem _ (List.mem_append_right _ h)
set_option maxHeartbeats 4000000 in
set_option maxRecDepth 100000 in
theorem bX10_where_L38 {p : Program} {l : Launch} {e : Env} {s : State} {m : MethodId} {args : Array Value} {below : List Frame} {meth : Method} {c : Code} {D : va_G} {g : Nat → Nat} {Y : YT} {bP : Nat} {σ0 : St} {res : St × Int32} (C0 : MC p s m args meth c cX10_where 4 (some .int) RX10 wsX10_where) {K86 : St → Int32 → Int32 → Option (St × Int32)} {K104 : St → Int32 → Option (St × Int32)} (hK86 : ∀ (σ : St) (a1 : Int32) (a3 : Int32) (H : Heap) (locs : List Loc) (ls : Array Slot), K86 σ a1 a3 = some res → JW D 27 g (KM g Y) Y bP (va_A (wd 27 g (KM g Y) σ0) s.heap.size) s σ H locs → lv_has ls 4 [(0, .ref (g 0)), (1, .int a1), (3, .int a3)] → W p l e (⟨4, 0, 0, 91⟩ : Room) s m args below meth c H locs 0 0 (MQ below (Qi D 27 g (KM g Y) Y σ0 res s.heap.size) args s 0 0 (va_A (wd 27 g (KM g Y) σ0) s.heap.size)) (F0 m 86 ls [])) (hK104 : ∀ (σ : St) (a3 : Int32) (H : Heap) (locs : List Loc) (ls : Array Slot), K104 σ a3 = some res → JW D 27 g (KM g Y) Y bP (va_A (wd 27 g (KM g Y) σ0) s.heap.size) s σ H locs → lv_has ls 4 [(0, .ref (g 0)), (3, .int a3)] → W p l e (⟨4, 0, 0, 91⟩ : Room) s m args below meth c H locs 0 0 (MQ below (Qi D 27 g (KM g Y) Y σ0 res s.heap.size) args s 0 0 (va_A (wd 27 g (KM g Y) σ0) s.heap.size)) (F0 m 104 ls [])) : ∀ (n : Nat) (σ : St) (a1 : Int32) (a2 : Int32) (a3 : Int32) (H : Heap) (locs : List Loc) (ls : Array Slot), fX10_where_L38 K86 K104 n σ a1 a2 a3 = some res → JW D 27 g (KM g Y) Y bP (va_A (wd 27 g (KM g Y) σ0) s.heap.size) s σ H locs → lv_has ls 4 [(0, .ref (g 0)), (1, .int a1), (2, .int a2), (3, .int a3)] → W p l e (⟨4, 0, 0, 91⟩ : Room) s m args below meth c H locs 0 0 (MQ below (Qi D 27 g (KM g Y) Y σ0 res s.heap.size) args s 0 0 (va_A (wd 27 g (KM g Y) σ0) s.heap.size)) (F0 m 38 ls []) := by
  have C0 := C0
  obtain ⟨hx, hb, hr, hml, hown, hts, hlk⟩ := id C0
  intro n
  induction n with
  | zero =>
    intro σ a1 a2 a3 H locs ls hf
    cases hf
  | succ n ih =>
    intro σ a1 a2 a3 H locs ls hf I hl
    rw [fX10_where_L38] at hf
    refine lv_iload_n hx hb dX10_where_38 rfl (lv_at hl 3 rfl) ?_
    refine lv_aload_n hx hb dX10_where_39 rfl (lv_at hl 0 rfl) ?_
    refine j_get I hx hb hts iw_X10_where_X10 hown 0 (by decide) (km0 g Y _) rfl 10 (by decide) (hts (.fieldLink RX10 118 "ReelNightModel" "many" "I") (by decide +kernel)) rfl dX10_where_40 ?_
    refine lv_iconst (v := 1) hx hb dX10_where_43 (by decide) ?_
    refine lv_isub hx hb dX10_where_44 ?_
    refine lv_icmp_ge (tgt := 104) hx hb dX10_where_45 (by decide) (fun c13 => ?_) (fun c13 => ?_)
    · have hf := i_t c13 hf
      exact hK104 σ a3 _ _ _ hf I (lv_sub hl [0, 3] rfl)
    · have hf := i_f c13 hf
      refine lv_iload_n hx hb dX10_where_48 rfl (lv_at hl 2 rfl) ?_
      refine lv_aload_n hx hb dX10_where_49 rfl (lv_at hl 0 rfl) ?_
      refine j_get I hx hb hts iw_X10_where_X10 hown 0 (by decide) (km0 g Y _) rfl 27 (by decide) (hts (.fieldLink RX10 81 "ReelNightModel" "begin" "[I") (by decide +kernel)) rfl dX10_where_50 ?_
      refine lv_bipush (v := 8) hx hb dX10_where_53 (by decide) ?_
      refine lv_iload_n hx hb dX10_where_55 rfl (lv_at hl 3 rfl) ?_
      refine lv_imul hx hb dX10_where_56 ?_
      refine lv_iload_n hx hb dX10_where_57 rfl (lv_at hl 1 rfl) ?_
      refine lv_iadd hx hb dX10_where_58 ?_
      obtain ⟨b14, hf⟩ := o_nb hf
      refine j_ald I hx hb 21 (by decide) (km21 g Y _) b14 dX10_where_59 ?_
      refine lv_aload_n hx hb dX10_where_60 rfl (lv_at hl 0 rfl) ?_
      refine lv_iload_n hx hb dX10_where_61 rfl (lv_at hl 1 rfl) ?_
      obtain ⟨σ15, r16, h17, hf⟩ := o_obn hf
      refine j_iV (rest := [.int (σ 21 ((8 * a3) + a1).toNatClampNeg), .int a2]) I ⟨hx, hb, hml, hown, hts⟩ (ct_X10_minutes σ a1 _ h17) (cwV 1 hts gX10_where_X10_minutes rfl rfl rfl (by decide +kernel) ⟨Nat.le_of_ble_eq_true rfl, Nat.le_of_ble_eq_true rfl⟩) (by decide) (km0 g Y _) rfl rfl hl.1 rfl (Nat.le_of_ble_eq_true rfl) dX10_where_62 ⟨Nat.zero_le _, Nat.zero_le _⟩ (fun H locs I => ?_)
      refine lv_iadd hx hb dX10_where_65 ?_
      refine lv_icmp_lt (tgt := 104) hx hb dX10_where_66 (by decide) (fun c18 => ?_) (fun c18 => ?_)
      · have hf := i_t c18 hf
        exact hK104 σ15 a3 _ _ _ hf I (lv_sub hl [0, 3] rfl)
      · have hf := i_f c18 hf
        refine lv_iload_n hx hb dX10_where_69 rfl (lv_at hl 2 rfl) ?_
        refine lv_aload_n hx hb dX10_where_70 rfl (lv_at hl 0 rfl) ?_
        refine j_get I hx hb hts iw_X10_where_X10 hown 0 (by decide) (km0 g Y _) rfl 26 (by decide) (hts (.fieldLink RX10 78 "ReelNightModel" "comes" "[I") (by decide +kernel)) rfl dX10_where_71 ?_
        refine lv_bipush (v := 8) hx hb dX10_where_74 (by decide) ?_
        refine lv_iload_n hx hb dX10_where_76 rfl (lv_at hl 3 rfl) ?_
        refine lv_iconst (v := 1) hx hb dX10_where_77 (by decide) ?_
        refine lv_iadd hx hb dX10_where_78 ?_
        refine lv_imul hx hb dX10_where_79 ?_
        refine lv_iload_n hx hb dX10_where_80 rfl (lv_at hl 1 rfl) ?_
        refine lv_iadd hx hb dX10_where_81 ?_
        obtain ⟨b19, hf⟩ := o_nb hf
        refine j_ald I hx hb 20 (by decide) (km20 g Y _) b19 dX10_where_82 ?_
        refine lv_icmp_ge (tgt := 98) hx hb dX10_where_83 (by decide) (fun c20 => ?_) (fun c20 => ?_)
        · have hf := i_t c20 hf
          refine lv_iinc (v := (a3 + 1)) (lv' := [(3, .int (a3 + 1)), (0, .ref (g 0)), (1, .int a1), (2, .int a2)]) hx hb dX10_where_98 hl (k := 3) rfl rfl (by decide) rfl (fun ls hl => ?_)
          refine lv_goto (tgt := 38) hx hb dX10_where_101 (by decide) ?_
          exact ih σ15 a1 a2 (a3 + 1) _ _ _ hf I (lv_sub hl [1, 2, 3, 0] rfl)
        · have hf := i_f c20 hf
          exact hK86 σ15 a1 a3 _ _ _ hf I (lv_sub hl [0, 1, 3] rfl)
set_option maxHeartbeats 4000000 in
set_option maxRecDepth 100000 in
theorem ct_X10_where {l : Launch} {D : va_G} {g : Nat → Nat} {Y : YT} {bP : Nat} (σ : St) (p0 : Int32) (p1 : Int32) (res : St × Int32) (hf : fX10_where σ p0 p1 = some res) : Ci l yX10_where wsX10_where ⟨4, 0, 0, 91⟩ D 27 g (KM g Y) Y bP [.ref (g 0), .int p0, .int p1] σ res := by
  intro sz
  refine Met.ofW (cc := cX10_where) (maxL := 4) (ret := (some .int)) (by decide) rfl ?_
  intro p e s m args below meth c s₁ B hml hv
  obtain ⟨rfl, rfl, I⟩ := j_start hv
  have C0 : MC p s m _ meth c cX10_where 4 (some .int) RX10 wsX10_where := ⟨B.exec, B.bytes, B.returns, hml, findClass_of_methodNamed B.named, atoms_spec (ws := wsX10_where) B.pre, B.notSynchronized⟩
  obtain ⟨hx, hb, hr, hml, hown, hts, hlk⟩ := id C0
  have hl := lv_entry ([.ref (g 0), .int p0, .int p1]) (n := 4) (Nat.le_of_ble_eq_true rfl)
  rw [lg_entry_eq]
  generalize (lg_sl ([.ref (g 0), .int p0, .int p1]) ++ List.replicate (4 - (lg_sl ([.ref (g 0), .int p0, .int p1])).length) Slot.unset).toArray = ls at hl ⊢
  have hl : lv_has ls 4 [(0, .ref (g 0)), (1, .int p0), (2, .int p1)] := hl
  rw [fX10_where] at hf
  refine lv_aload_n hx hb dX10_where_0 rfl (lv_at hl 0 rfl) ?_
  refine lv_iload_n hx hb dX10_where_1 rfl (lv_at hl 1 rfl) ?_
  obtain ⟨σ1, r2, h3, hf⟩ := o_obn hf
  refine j_iV (rest := []) I ⟨hx, hb, hml, hown, hts⟩ (ct_X10_isReel σ p0 _ h3) (cwV 1 hts gX10_where_X10_isReel rfl rfl rfl (by decide +kernel) ⟨Nat.le_of_ble_eq_true rfl, Nat.le_of_ble_eq_true rfl⟩) (by decide) (km0 g Y _) rfl rfl hl.1 rfl (Nat.le_of_ble_eq_true rfl) dX10_where_2 ⟨Nat.zero_le _, Nat.zero_le _⟩ (fun H locs I => ?_)
  refine lv_if_eq (tgt := 19) hx hb dX10_where_5 (by decide) (fun c4 => ?_) (fun c4 => ?_)
  · have hf := i_t c4 hf
    refine lv_ldc hx hb hown (hts (.constant RX10 109 (-1000000001)) (by decide +kernel)) dX10_where_19 ?_
    exact j_iret I hx hb hr rfl hlk hf dX10_where_21
  · have hf := i_f c4 hf
    refine lv_iload_n hx hb dX10_where_8 rfl (lv_at hl 2 rfl) ?_
    refine lv_iconst (v := 0) hx hb dX10_where_9 (by decide) ?_
    refine lv_sipush (v := 9999) hx hb dX10_where_10 (by decide) ?_
    obtain ⟨σ5, r6, h7, hf⟩ := o_obn hf
    refine j_iS (rest := []) I ⟨hx, hb, hml, hown, hts⟩ (ct_X10_isIn σ1 p1 0 9999 _ h7) (va_cwS 3 hts gX10_where_X10_isIn rfl rfl rfl (by decide +kernel) ⟨Nat.le_of_ble_eq_true rfl, Nat.le_of_ble_eq_true rfl⟩) rfl hl.1 rfl (Nat.le_of_ble_eq_true rfl) dX10_where_13 ⟨Nat.zero_le _, Nat.zero_le _⟩ (fun H locs I => ?_)
    refine lv_if_ne (tgt := 22) hx hb dX10_where_16 (by decide) (fun c8 => ?_) (fun c8 => ?_)
    · have hf := i_f c8 hf
      refine lv_aload_n hx hb dX10_where_22 rfl (lv_at hl 0 rfl) ?_
      refine j_get I hx hb hts iw_X10_where_X10 hown 0 (by decide) (km0 g Y _) rfl 10 (by decide) (hts (.fieldLink RX10 118 "ReelNightModel" "many" "I") (by decide +kernel)) rfl dX10_where_23 ?_
      refine lv_if_ne (tgt := 32) hx hb dX10_where_26 (by decide) (fun c9 => ?_) (fun c9 => ?_)
      · have hf := i_f c9 hf
        refine lv_aload_n hx hb dX10_where_32 rfl (lv_at hl 0 rfl) ?_
        obtain ⟨σ10, r11, h12, hf⟩ := o_obn hf
        refine j_vV (rest := []) I ⟨hx, hb, hml, hown, hts⟩ (ct_X10_goOn σ5 _ h12) (cwV 0 hts gX10_where_X10_goOn rfl rfl rfl (by decide +kernel) ⟨Nat.le_of_ble_eq_true rfl, Nat.le_of_ble_eq_true rfl⟩) (by decide) (km0 g Y _) rfl rfl hl.1 rfl (Nat.le_of_ble_eq_true rfl) dX10_where_33 ⟨Nat.zero_le _, Nat.zero_le _⟩ (fun H locs I => ?_)
        refine lv_iconst (v := 0) hx hb dX10_where_36 (by decide) ?_
        refine lv_istore_n (lv' := [(3, .int 0), (0, .ref (g 0)), (1, .int p0), (2, .int p1)]) hx hb dX10_where_37 rfl hl (by decide) rfl (fun ls hl => ?_)
        refine bX10_where_L38 C0 ?_ ?_ 50 σ10 p0 p1 0 _ _ _ hf I (lv_sub hl [1, 2, 3, 0] rfl)
        · intro σ21 a22 a23 H locs ls hf I hl
          refine lv_bipush (v := 100) hx hb dX10_where_86 (by decide) ?_
          refine lv_iload_n hx hb dX10_where_88 rfl (lv_at hl 2 rfl) ?_
          refine lv_aload_n hx hb dX10_where_89 rfl (lv_at hl 0 rfl) ?_
          refine j_get I hx hb hts iw_X10_where_X10 hown 0 (by decide) (km0 g Y _) rfl 7 (by decide) (hts (.fieldLink RX10 106 "ReelNightModel" "reels" "I") (by decide +kernel)) rfl dX10_where_90 ?_
          refine lv_imul hx hb dX10_where_93 ?_
          refine lv_iadd hx hb dX10_where_94 ?_
          refine lv_iload_n hx hb dX10_where_95 rfl (lv_at hl 1 rfl) ?_
          refine lv_iadd hx hb dX10_where_96 ?_
          exact j_iret I hx hb hr rfl hlk hf dX10_where_97
        · intro σ24 a25 H locs ls hf I hl
          refine lv_aload_n hx hb dX10_where_104 rfl (lv_at hl 0 rfl) ?_
          refine j_get I hx hb hts iw_X10_where_X10 hown 0 (by decide) (km0 g Y _) rfl 11 (by decide) (hts (.fieldLink RX10 34 "ReelNightModel" "order" "[I") (by decide +kernel)) rfl dX10_where_105 ?_
          refine lv_iload_n hx hb dX10_where_108 rfl (lv_at hl 1 rfl) ?_
          obtain ⟨b26, hf⟩ := o_nb hf
          refine j_ald I hx hb 9 (by decide) (km9 g Y _) b26 dX10_where_109 ?_
          exact j_iret I hx hb hr rfl hlk hf dX10_where_110
      · have hf := i_t c9 hf
        refine lv_ldc hx hb hown (hts (.constant RX10 169 (-1000000005)) (by decide +kernel)) dX10_where_29 ?_
        exact j_iret I hx hb hr rfl hlk hf dX10_where_31
    · have hf := i_t c8 hf
      refine lv_ldc hx hb hown (hts (.constant RX10 109 (-1000000001)) (by decide +kernel)) dX10_where_19 ?_
      exact j_iret I hx hb hr rfl hlk hf dX10_where_21

theorem iw_X10_film_X10 : ∀ w ∈ u_ws RX10 TX10 37, w ∈ wsX10_film := fun _ h => List.mem_cons_of_mem _ (List.mem_append_right _ h)
set_option maxHeartbeats 4000000 in
set_option maxRecDepth 100000 in
theorem ct_X10_film {l : Launch} {D : va_G} {g : Nat → Nat} {Y : YT} {bP : Nat} (σ : St) (res : St × Int32) (hf : fX10_film σ = some res) : Ci l yX10_film wsX10_film ⟨0, 0, 0, 0⟩ D 27 g (KM g Y) Y bP [.ref (g 0)] σ res := by
  intro sz
  refine Met.ofW (cc := cX10_film) (maxL := 1) (ret := (some .int)) (by decide) rfl ?_
  intro p e s m args below meth c s₁ B hml hv
  obtain ⟨rfl, rfl, I⟩ := j_start hv
  have C0 : MC p s m _ meth c cX10_film 1 (some .int) RX10 wsX10_film := ⟨B.exec, B.bytes, B.returns, hml, findClass_of_methodNamed B.named, atoms_spec (ws := wsX10_film) B.pre, B.notSynchronized⟩
  obtain ⟨hx, hb, hr, hml, hown, hts, hlk⟩ := id C0
  have hl := lv_entry ([.ref (g 0)]) (n := 1) (Nat.le_of_ble_eq_true rfl)
  rw [lg_entry_eq]
  generalize (lg_sl ([.ref (g 0)]) ++ List.replicate (1 - (lg_sl ([.ref (g 0)])).length) Slot.unset).toArray = ls at hl ⊢
  have hl : lv_has ls 1 [(0, .ref (g 0))] := hl
  rw [fX10_film] at hf
  refine lv_aload_n hx hb dX10_film_0 rfl (lv_at hl 0 rfl) ?_
  refine j_get I hx hb hts iw_X10_film_X10 hown 0 (by decide) (km0 g Y _) rfl 13 (by decide) (hts (.fieldLink RX10 170 "ReelNightModel" "films" "I") (by decide +kernel)) rfl dX10_film_1 ?_
  refine lv_iconst (v := 5) hx hb dX10_film_4 (by decide) ?_
  refine lv_icmp_ne (tgt := 11) hx hb dX10_film_5 (by decide) (fun c1 => ?_) (fun c1 => ?_)
  · have hf := i_f c1 hf
    refine lv_aload_n hx hb dX10_film_11 rfl (lv_at hl 0 rfl) ?_
    refine lv_dup hx hb dX10_film_12 rfl ?_
    refine j_get I hx hb hts iw_X10_film_X10 hown 0 (by decide) (km0 g Y _) rfl 13 (by decide) (hts (.fieldLink RX10 170 "ReelNightModel" "films" "I") (by decide +kernel)) rfl dX10_film_13 ?_
    refine lv_iconst (v := 1) hx hb dX10_film_16 (by decide) ?_
    refine lv_iadd hx hb dX10_film_17 ?_
    obtain ⟨σ2, eσ2, hf⟩ := o_stp hf
    refine j_put I hx hb hts iw_X10_film_X10 tyX10 tyX10_ok nmX10 hown 0 (by decide) (km0 g Y _) rfl 13 (by decide) (hts (.fieldLink RX10 170 "ReelNightModel" "films" "I") (by decide +kernel)) rfl rfl rfl (Nat.le_of_ble_eq_true rfl) (kms0_13 g Y _ _) eσ2 dX10_film_18 (fun H locs I => ?_)
    refine lv_aload_n hx hb dX10_film_21 rfl (lv_at hl 0 rfl) ?_
    refine j_get I hx hb hts iw_X10_film_X10 hown 0 (by decide) (km0 g Y _) rfl 13 (by decide) (hts (.fieldLink RX10 170 "ReelNightModel" "films" "I") (by decide +kernel)) rfl dX10_film_22 ?_
    refine lv_iconst (v := 1) hx hb dX10_film_25 (by decide) ?_
    refine lv_isub hx hb dX10_film_26 ?_
    exact j_iret I hx hb hr rfl hlk hf dX10_film_27
  · have hf := i_t c1 hf
    refine lv_ldc hx hb hown (hts (.constant RX10 110 (-1000000003)) (by decide +kernel)) dX10_film_8 ?_
    exact j_iret I hx hb hr rfl hlk hf dX10_film_10

theorem iw_X10_isFilm_X10 : ∀ w ∈ u_ws RX10 TX10 37, w ∈ wsX10_isFilm := fun _ h => List.mem_cons_of_mem _ (List.mem_append_right _ h)
set_option maxHeartbeats 4000000 in
set_option maxRecDepth 100000 in
theorem ct_X10_isFilm {l : Launch} {D : va_G} {g : Nat → Nat} {Y : YT} {bP : Nat} (σ : St) (p0 : Int32) (res : St × Int32) (hf : fX10_isFilm σ p0 = some res) : Ci l yX10_isFilm wsX10_isFilm ⟨1, 0, 0, 22⟩ D 27 g (KM g Y) Y bP [.ref (g 0), .int p0] σ res := by
  intro sz
  refine Met.ofW (cc := cX10_isFilm) (maxL := 2) (ret := (some .boolean)) (by decide) rfl ?_
  intro p e s m args below meth c s₁ B hml hv
  obtain ⟨rfl, rfl, I⟩ := j_start hv
  have C0 : MC p s m _ meth c cX10_isFilm 2 (some .boolean) RX10 wsX10_isFilm := ⟨B.exec, B.bytes, B.returns, hml, findClass_of_methodNamed B.named, atoms_spec (ws := wsX10_isFilm) B.pre, B.notSynchronized⟩
  obtain ⟨hx, hb, hr, hml, hown, hts, hlk⟩ := id C0
  have hl := lv_entry ([.ref (g 0), .int p0]) (n := 2) (Nat.le_of_ble_eq_true rfl)
  rw [lg_entry_eq]
  generalize (lg_sl ([.ref (g 0), .int p0]) ++ List.replicate (2 - (lg_sl ([.ref (g 0), .int p0])).length) Slot.unset).toArray = ls at hl ⊢
  have hl : lv_has ls 2 [(0, .ref (g 0)), (1, .int p0)] := hl
  rw [fX10_isFilm] at hf
  refine lv_iload_n hx hb dX10_isFilm_0 rfl (lv_at hl 1 rfl) ?_
  refine lv_iconst (v := 0) hx hb dX10_isFilm_1 (by decide) ?_
  refine lv_aload_n hx hb dX10_isFilm_2 rfl (lv_at hl 0 rfl) ?_
  refine j_get I hx hb hts iw_X10_isFilm_X10 hown 0 (by decide) (km0 g Y _) rfl 13 (by decide) (hts (.fieldLink RX10 170 "ReelNightModel" "films" "I") (by decide +kernel)) rfl dX10_isFilm_3 ?_
  refine lv_iconst (v := 1) hx hb dX10_isFilm_6 (by decide) ?_
  refine lv_isub hx hb dX10_isFilm_7 ?_
  obtain ⟨σ1, r2, h3, hf⟩ := o_obn hf
  refine j_iS (rest := []) I ⟨hx, hb, hml, hown, hts⟩ (ct_X10_isIn σ p0 0 ((σ 0 13) - 1) _ h3) (va_cwS 3 hts gX10_isFilm_X10_isIn rfl rfl rfl (by decide +kernel) ⟨Nat.le_of_ble_eq_true rfl, Nat.le_of_ble_eq_true rfl⟩) rfl hl.1 rfl (Nat.le_of_ble_eq_true rfl) dX10_isFilm_8 ⟨Nat.zero_le _, Nat.zero_le _⟩ (fun H locs I => ?_)
  obtain ⟨b4, hf⟩ := o_yb hf
  exact j_iret I hx hb hr (o_bool b4) hlk hf dX10_isFilm_11

theorem iw_X10_worth_X10 : ∀ w ∈ u_ws RX10 TX10 37, w ∈ wsX10_worth := by decide +kernel
set_option maxHeartbeats 4000000 in
set_option maxRecDepth 100000 in
theorem ct_X10_worth {l : Launch} {D : va_G} {g : Nat → Nat} {Y : YT} {bP : Nat} (σ : St) (p0 : Int32) (p1 : Int32) (p2 : Int32) (res : St × Int32) (hf : fX10_worth σ p0 p1 p2 = some res) : Ci l yX10_worth wsX10_worth ⟨2, 0, 0, 43⟩ D 27 g (KM g Y) Y bP [.ref (g 0), .int p0, .int p1, .int p2] σ res := by
  intro sz
  refine Met.ofW (cc := cX10_worth) (maxL := 5) (ret := (some .int)) (by decide) rfl ?_
  intro p e s m args below meth c s₁ B hml hv
  obtain ⟨rfl, rfl, I⟩ := j_start hv
  have C0 : MC p s m _ meth c cX10_worth 5 (some .int) RX10 wsX10_worth := ⟨B.exec, B.bytes, B.returns, hml, findClass_of_methodNamed B.named, atoms_spec (ws := wsX10_worth) B.pre, B.notSynchronized⟩
  obtain ⟨hx, hb, hr, hml, hown, hts, hlk⟩ := id C0
  have hl := lv_entry ([.ref (g 0), .int p0, .int p1, .int p2]) (n := 5) (Nat.le_of_ble_eq_true rfl)
  rw [lg_entry_eq]
  generalize (lg_sl ([.ref (g 0), .int p0, .int p1, .int p2]) ++ List.replicate (5 - (lg_sl ([.ref (g 0), .int p0, .int p1, .int p2])).length) Slot.unset).toArray = ls at hl ⊢
  have hl : lv_has ls 5 [(0, .ref (g 0)), (1, .int p0), (2, .int p1), (3, .int p2)] := hl
  rw [fX10_worth] at hf
  refine lv_aload_n hx hb dX10_worth_0 rfl (lv_at hl 0 rfl) ?_
  refine lv_iload_n hx hb dX10_worth_1 rfl (lv_at hl 1 rfl) ?_
  obtain ⟨σ1, r2, h3, hf⟩ := o_obn hf
  refine j_iV (rest := []) I ⟨hx, hb, hml, hown, hts⟩ (ct_X10_isFilm σ p0 _ h3) (cwV 1 hts gX10_worth_X10_isFilm rfl rfl rfl (by decide +kernel) ⟨Nat.le_of_ble_eq_true rfl, Nat.le_of_ble_eq_true rfl⟩) (by decide) (km0 g Y _) rfl rfl hl.1 rfl (Nat.le_of_ble_eq_true rfl) dX10_worth_2 ⟨Nat.zero_le _, Nat.zero_le _⟩ (fun H locs I => ?_)
  refine lv_if_eq (tgt := 27) hx hb dX10_worth_5 (by decide) (fun c4 => ?_) (fun c4 => ?_)
  · have hf := i_t c4 hf
    refine lv_ldc hx hb hown (hts (.constant RX10 109 (-1000000001)) (by decide +kernel)) dX10_worth_27 ?_
    exact j_iret I hx hb hr rfl hlk hf dX10_worth_29
  · have hf := i_f c4 hf
    refine lv_aload_n hx hb dX10_worth_8 rfl (lv_at hl 0 rfl) ?_
    refine lv_iload_n hx hb dX10_worth_9 rfl (lv_at hl 2 rfl) ?_
    obtain ⟨σ5, r6, h7, hf⟩ := o_obn hf
    refine j_iV (rest := []) I ⟨hx, hb, hml, hown, hts⟩ (ct_X10_isHouse σ1 p1 _ h7) (cwV 1 hts gX10_worth_X10_isHouse rfl rfl rfl (by decide +kernel) ⟨Nat.le_of_ble_eq_true rfl, Nat.le_of_ble_eq_true rfl⟩) (by decide) (km0 g Y _) rfl rfl hl.1 rfl (Nat.le_of_ble_eq_true rfl) dX10_worth_10 ⟨Nat.zero_le _, Nat.zero_le _⟩ (fun H locs I => ?_)
    refine lv_if_eq (tgt := 27) hx hb dX10_worth_13 (by decide) (fun c8 => ?_) (fun c8 => ?_)
    · have hf := i_t c8 hf
      refine lv_ldc hx hb hown (hts (.constant RX10 109 (-1000000001)) (by decide +kernel)) dX10_worth_27 ?_
      exact j_iret I hx hb hr rfl hlk hf dX10_worth_29
    · have hf := i_f c8 hf
      refine lv_iload_n hx hb dX10_worth_16 rfl (lv_at hl 3 rfl) ?_
      refine lv_iconst (v := 0) hx hb dX10_worth_17 (by decide) ?_
      refine lv_sipush (v := 999) hx hb dX10_worth_18 (by decide) ?_
      obtain ⟨σ9, r10, h11, hf⟩ := o_obn hf
      refine j_iS (rest := []) I ⟨hx, hb, hml, hown, hts⟩ (ct_X10_isIn σ5 p2 0 999 _ h11) (va_cwS 3 hts gX10_worth_X10_isIn rfl rfl rfl (by decide +kernel) ⟨Nat.le_of_ble_eq_true rfl, Nat.le_of_ble_eq_true rfl⟩) rfl hl.1 rfl (Nat.le_of_ble_eq_true rfl) dX10_worth_21 ⟨Nat.zero_le _, Nat.zero_le _⟩ (fun H locs I => ?_)
      refine lv_if_ne (tgt := 30) hx hb dX10_worth_24 (by decide) (fun c12 => ?_) (fun c12 => ?_)
      · have hf := i_f c12 hf
        refine lv_aload_n hx hb dX10_worth_30 rfl (lv_at hl 0 rfl) ?_
        refine j_get I hx hb hts iw_X10_worth_X10 hown 0 (by decide) (km0 g Y _) rfl 14 (by decide) (hts (.fieldLink RX10 40 "ReelNightModel" "worths" "[I") (by decide +kernel)) rfl dX10_worth_31 ?_
        refine lv_bipush (v := 6) hx hb dX10_worth_34 (by decide) ?_
        refine lv_iload_n hx hb dX10_worth_36 rfl (lv_at hl 1 rfl) ?_
        refine lv_imul hx hb dX10_worth_37 ?_
        refine lv_iload_n hx hb dX10_worth_38 rfl (lv_at hl 2 rfl) ?_
        refine lv_iadd hx hb dX10_worth_39 ?_
        obtain ⟨b13, hf⟩ := o_nb hf
        refine j_ald I hx hb 11 (by decide) (km11 g Y _) b13 dX10_worth_40 ?_
        obtain ⟨v14, ev14, hf⟩ := o_itp hf
        refine top_eq ev14 ?_
        refine lv_istore (lv' := [(4, .int v14), (0, .ref (g 0)), (1, .int p0), (2, .int p1), (3, .int p2)]) hx hb dX10_worth_41 hl (by decide) rfl (fun ls hl => ?_)
        refine lv_aload_n hx hb dX10_worth_43 rfl (lv_at hl 1 rfl) ?_
        refine j_get I hx hb hts iw_X10_worth_X10 hown 0 (by decide) (km0 g Y _) rfl 14 (by decide) (hts (.fieldLink RX10 40 "ReelNightModel" "worths" "[I") (by decide +kernel)) rfl dX10_worth_44 ?_
        refine lv_bipush (v := 6) hx hb dX10_worth_47 (by decide) ?_
        refine lv_iload_n hx hb dX10_worth_49 rfl (lv_at hl 2 rfl) ?_
        refine lv_imul hx hb dX10_worth_50 ?_
        refine lv_iload_n hx hb dX10_worth_51 rfl (lv_at hl 3 rfl) ?_
        refine lv_iadd hx hb dX10_worth_52 ?_
        refine lv_iload_n hx hb dX10_worth_53 rfl (lv_at hl 4 rfl) ?_
        obtain ⟨b15, hf⟩ := o_nb hf
        obtain ⟨σ16, eσ16, hf⟩ := o_stp hf
        refine j_ast I hx hb 11 (by decide) (km11 g Y) b15 eσ16 dX10_worth_54 (fun H locs I => ?_)
        refine lv_iload hx hb dX10_worth_55 (lv_at hl 0 rfl) ?_
        exact j_iret I hx hb hr rfl hlk hf dX10_worth_57
      · have hf := i_t c12 hf
        refine lv_ldc hx hb hown (hts (.constant RX10 109 (-1000000001)) (by decide +kernel)) dX10_worth_27 ?_
        exact j_iret I hx hb hr rfl hlk hf dX10_worth_29

theorem iw_X10_bar_X10 : ∀ w ∈ u_ws RX10 TX10 37, w ∈ wsX10_bar := by decide +kernel
set_option maxHeartbeats 4000000 in
set_option maxRecDepth 100000 in
theorem ct_X10_bar {l : Launch} {D : va_G} {g : Nat → Nat} {Y : YT} {bP : Nat} (σ : St) (p0 : Int32) (p1 : Int32) (p2 : Int32) (res : St × Int32) (hf : fX10_bar σ p0 p1 p2 = some res) : Ci l yX10_bar wsX10_bar ⟨2, 0, 0, 43⟩ D 27 g (KM g Y) Y bP [.ref (g 0), .int p0, .int p1, .int p2] σ res := by
  intro sz
  refine Met.ofW (cc := cX10_bar) (maxL := 5) (ret := (some .int)) (by decide) rfl ?_
  intro p e s m args below meth c s₁ B hml hv
  obtain ⟨rfl, rfl, I⟩ := j_start hv
  have C0 : MC p s m _ meth c cX10_bar 5 (some .int) RX10 wsX10_bar := ⟨B.exec, B.bytes, B.returns, hml, findClass_of_methodNamed B.named, atoms_spec (ws := wsX10_bar) B.pre, B.notSynchronized⟩
  obtain ⟨hx, hb, hr, hml, hown, hts, hlk⟩ := id C0
  have hl := lv_entry ([.ref (g 0), .int p0, .int p1, .int p2]) (n := 5) (Nat.le_of_ble_eq_true rfl)
  rw [lg_entry_eq]
  generalize (lg_sl ([.ref (g 0), .int p0, .int p1, .int p2]) ++ List.replicate (5 - (lg_sl ([.ref (g 0), .int p0, .int p1, .int p2])).length) Slot.unset).toArray = ls at hl ⊢
  have hl : lv_has ls 5 [(0, .ref (g 0)), (1, .int p0), (2, .int p1), (3, .int p2)] := hl
  rw [fX10_bar] at hf
  refine lv_aload_n hx hb dX10_bar_0 rfl (lv_at hl 0 rfl) ?_
  refine lv_iload_n hx hb dX10_bar_1 rfl (lv_at hl 1 rfl) ?_
  obtain ⟨σ1, r2, h3, hf⟩ := o_obn hf
  refine j_iV (rest := []) I ⟨hx, hb, hml, hown, hts⟩ (ct_X10_isHouse σ p0 _ h3) (cwV 1 hts gX10_bar_X10_isHouse rfl rfl rfl (by decide +kernel) ⟨Nat.le_of_ble_eq_true rfl, Nat.le_of_ble_eq_true rfl⟩) (by decide) (km0 g Y _) rfl rfl hl.1 rfl (Nat.le_of_ble_eq_true rfl) dX10_bar_2 ⟨Nat.zero_le _, Nat.zero_le _⟩ (fun H locs I => ?_)
  refine lv_if_eq (tgt := 30) hx hb dX10_bar_5 (by decide) (fun c4 => ?_) (fun c4 => ?_)
  · have hf := i_t c4 hf
    refine lv_ldc hx hb hown (hts (.constant RX10 109 (-1000000001)) (by decide +kernel)) dX10_bar_30 ?_
    exact j_iret I hx hb hr rfl hlk hf dX10_bar_32
  · have hf := i_f c4 hf
    refine lv_aload_n hx hb dX10_bar_8 rfl (lv_at hl 0 rfl) ?_
    refine lv_iload_n hx hb dX10_bar_9 rfl (lv_at hl 2 rfl) ?_
    obtain ⟨σ5, r6, h7, hf⟩ := o_obn hf
    refine j_iV (rest := []) I ⟨hx, hb, hml, hown, hts⟩ (ct_X10_isHouse σ1 p1 _ h7) (cwV 1 hts gX10_bar_X10_isHouse rfl rfl rfl (by decide +kernel) ⟨Nat.le_of_ble_eq_true rfl, Nat.le_of_ble_eq_true rfl⟩) (by decide) (km0 g Y _) rfl rfl hl.1 rfl (Nat.le_of_ble_eq_true rfl) dX10_bar_10 ⟨Nat.zero_le _, Nat.zero_le _⟩ (fun H locs I => ?_)
    refine lv_if_eq (tgt := 30) hx hb dX10_bar_13 (by decide) (fun c8 => ?_) (fun c8 => ?_)
    · have hf := i_t c8 hf
      refine lv_ldc hx hb hown (hts (.constant RX10 109 (-1000000001)) (by decide +kernel)) dX10_bar_30 ?_
      exact j_iret I hx hb hr rfl hlk hf dX10_bar_32
    · have hf := i_f c8 hf
      refine lv_iload_n hx hb dX10_bar_16 rfl (lv_at hl 1 rfl) ?_
      refine lv_iload_n hx hb dX10_bar_17 rfl (lv_at hl 2 rfl) ?_
      refine lv_icmp_eq (tgt := 30) hx hb dX10_bar_18 (by decide) (fun c9 => ?_) (fun c9 => ?_)
      · have hf := i_t c9 hf
        refine lv_ldc hx hb hown (hts (.constant RX10 109 (-1000000001)) (by decide +kernel)) dX10_bar_30 ?_
        exact j_iret I hx hb hr rfl hlk hf dX10_bar_32
      · have hf := i_f c9 hf
        refine lv_iload_n hx hb dX10_bar_21 rfl (lv_at hl 3 rfl) ?_
        refine lv_iconst (v := 0) hx hb dX10_bar_22 (by decide) ?_
        refine lv_iconst (v := 3) hx hb dX10_bar_23 (by decide) ?_
        obtain ⟨σ10, r11, h12, hf⟩ := o_obn hf
        refine j_iS (rest := []) I ⟨hx, hb, hml, hown, hts⟩ (ct_X10_isIn σ5 p2 0 3 _ h12) (va_cwS 3 hts gX10_bar_X10_isIn rfl rfl rfl (by decide +kernel) ⟨Nat.le_of_ble_eq_true rfl, Nat.le_of_ble_eq_true rfl⟩) rfl hl.1 rfl (Nat.le_of_ble_eq_true rfl) dX10_bar_24 ⟨Nat.zero_le _, Nat.zero_le _⟩ (fun H locs I => ?_)
        refine lv_if_ne (tgt := 33) hx hb dX10_bar_27 (by decide) (fun c13 => ?_) (fun c13 => ?_)
        · have hf := i_f c13 hf
          refine lv_aload_n hx hb dX10_bar_33 rfl (lv_at hl 0 rfl) ?_
          refine j_get I hx hb hts iw_X10_bar_X10 hown 0 (by decide) (km0 g Y _) rfl 6 (by decide) (hts (.fieldLink RX10 25 "ReelNightModel" "bars" "[I") (by decide +kernel)) rfl dX10_bar_34 ?_
          refine lv_bipush (v := 6) hx hb dX10_bar_37 (by decide) ?_
          refine lv_iload_n hx hb dX10_bar_39 rfl (lv_at hl 1 rfl) ?_
          refine lv_imul hx hb dX10_bar_40 ?_
          refine lv_iload_n hx hb dX10_bar_41 rfl (lv_at hl 2 rfl) ?_
          refine lv_iadd hx hb dX10_bar_42 ?_
          obtain ⟨b14, hf⟩ := o_nb hf
          refine j_ald I hx hb 6 (by decide) (km6 g Y _) b14 dX10_bar_43 ?_
          obtain ⟨v15, ev15, hf⟩ := o_itp hf
          refine top_eq ev15 ?_
          refine lv_istore (lv' := [(4, .int v15), (0, .ref (g 0)), (1, .int p0), (2, .int p1), (3, .int p2)]) hx hb dX10_bar_44 hl (by decide) rfl (fun ls hl => ?_)
          refine lv_aload_n hx hb dX10_bar_46 rfl (lv_at hl 1 rfl) ?_
          refine j_get I hx hb hts iw_X10_bar_X10 hown 0 (by decide) (km0 g Y _) rfl 6 (by decide) (hts (.fieldLink RX10 25 "ReelNightModel" "bars" "[I") (by decide +kernel)) rfl dX10_bar_47 ?_
          refine lv_bipush (v := 6) hx hb dX10_bar_50 (by decide) ?_
          refine lv_iload_n hx hb dX10_bar_52 rfl (lv_at hl 2 rfl) ?_
          refine lv_imul hx hb dX10_bar_53 ?_
          refine lv_iload_n hx hb dX10_bar_54 rfl (lv_at hl 3 rfl) ?_
          refine lv_iadd hx hb dX10_bar_55 ?_
          refine lv_iload_n hx hb dX10_bar_56 rfl (lv_at hl 4 rfl) ?_
          obtain ⟨b16, hf⟩ := o_nb hf
          obtain ⟨σ17, eσ17, hf⟩ := o_stp hf
          refine j_ast I hx hb 6 (by decide) (km6 g Y) b16 eσ17 dX10_bar_57 (fun H locs I => ?_)
          refine lv_aload_n hx hb dX10_bar_58 rfl (lv_at hl 1 rfl) ?_
          refine j_get I hx hb hts iw_X10_bar_X10 hown 0 (by decide) (km0 g Y _) rfl 6 (by decide) (hts (.fieldLink RX10 25 "ReelNightModel" "bars" "[I") (by decide +kernel)) rfl dX10_bar_59 ?_
          refine lv_bipush (v := 6) hx hb dX10_bar_62 (by decide) ?_
          refine lv_iload_n hx hb dX10_bar_64 rfl (lv_at hl 3 rfl) ?_
          refine lv_imul hx hb dX10_bar_65 ?_
          refine lv_iload_n hx hb dX10_bar_66 rfl (lv_at hl 2 rfl) ?_
          refine lv_iadd hx hb dX10_bar_67 ?_
          refine lv_iload_n hx hb dX10_bar_68 rfl (lv_at hl 4 rfl) ?_
          obtain ⟨b18, hf⟩ := o_nb hf
          obtain ⟨σ19, eσ19, hf⟩ := o_stp hf
          refine j_ast I hx hb 6 (by decide) (km6 g Y) b18 eσ19 dX10_bar_69 (fun H locs I => ?_)
          refine lv_iload hx hb dX10_bar_70 (lv_at hl 0 rfl) ?_
          exact j_iret I hx hb hr rfl hlk hf dX10_bar_72
        · have hf := i_t c13 hf
          refine lv_ldc hx hb hown (hts (.constant RX10 109 (-1000000001)) (by decide +kernel)) dX10_bar_30 ?_
          exact j_iret I hx hb hr rfl hlk hf dX10_bar_32

set_option maxHeartbeats 4000000 in
set_option maxRecDepth 100000 in
theorem ct_X10_isWeek {l : Launch} {D : va_G} {g : Nat → Nat} {Y : YT} {bP : Nat} (σ : St) (p0 : Int32) (res : St × Int32) (hf : fX10_isWeek σ p0 = some res) : Ci l yX10_isWeek wsX10_isWeek ⟨1, 0, 0, 22⟩ D 27 g (KM g Y) Y bP [.int p0] σ res := by
  intro sz
  refine Met.ofW (cc := cX10_isWeek) (maxL := 1) (ret := (some .boolean)) (by decide) rfl ?_
  intro p e s m args below meth c s₁ B hml hv
  obtain ⟨rfl, rfl, I⟩ := j_start hv
  have C0 : MC p s m _ meth c cX10_isWeek 1 (some .boolean) RX10 wsX10_isWeek := ⟨B.exec, B.bytes, B.returns, hml, findClass_of_methodNamed B.named, atoms_spec (ws := wsX10_isWeek) B.pre, B.notSynchronized⟩
  obtain ⟨hx, hb, hr, hml, hown, hts, hlk⟩ := id C0
  have hl := lv_entry ([.int p0]) (n := 1) (Nat.le_of_ble_eq_true rfl)
  rw [lg_entry_eq]
  generalize (lg_sl ([.int p0]) ++ List.replicate (1 - (lg_sl ([.int p0])).length) Slot.unset).toArray = ls at hl ⊢
  have hl : lv_has ls 1 [(0, .int p0)] := hl
  rw [fX10_isWeek] at hf
  refine lv_iload_n hx hb dX10_isWeek_0 rfl (lv_at hl 0 rfl) ?_
  refine lv_iconst (v := 0) hx hb dX10_isWeek_1 (by decide) ?_
  refine lv_iconst (v := 3) hx hb dX10_isWeek_2 (by decide) ?_
  obtain ⟨σ1, r2, h3, hf⟩ := o_obn hf
  refine j_iS (rest := []) I ⟨hx, hb, hml, hown, hts⟩ (ct_X10_isIn σ p0 0 3 _ h3) (va_cwS 3 hts gX10_isWeek_X10_isIn rfl rfl rfl (by decide +kernel) ⟨Nat.le_of_ble_eq_true rfl, Nat.le_of_ble_eq_true rfl⟩) rfl hl.1 rfl (Nat.le_of_ble_eq_true rfl) dX10_isWeek_3 ⟨Nat.zero_le _, Nat.zero_le _⟩ (fun H locs I => ?_)
  obtain ⟨b4, hf⟩ := o_yb hf
  exact j_iret I hx hb hr (o_bool b4) hlk hf dX10_isWeek_6

theorem iw_X10_pin_X10 : ∀ w ∈ u_ws RX10 TX10 37, w ∈ wsX10_pin := by decide +kernel
set_option maxHeartbeats 4000000 in
set_option maxRecDepth 100000 in
theorem ct_X10_pin {l : Launch} {D : va_G} {g : Nat → Nat} {Y : YT} {bP : Nat} (σ : St) (p0 : Int32) (p1 : Int32) (p2 : Int32) (res : St × Int32) (hf : fX10_pin σ p0 p1 p2 = some res) : Ci l yX10_pin wsX10_pin ⟨2, 0, 0, 43⟩ D 27 g (KM g Y) Y bP [.ref (g 0), .int p0, .int p1, .int p2] σ res := by
  intro sz
  refine Met.ofW (cc := cX10_pin) (maxL := 5) (ret := (some .int)) (by decide) rfl ?_
  intro p e s m args below meth c s₁ B hml hv
  obtain ⟨rfl, rfl, I⟩ := j_start hv
  have C0 : MC p s m _ meth c cX10_pin 5 (some .int) RX10 wsX10_pin := ⟨B.exec, B.bytes, B.returns, hml, findClass_of_methodNamed B.named, atoms_spec (ws := wsX10_pin) B.pre, B.notSynchronized⟩
  obtain ⟨hx, hb, hr, hml, hown, hts, hlk⟩ := id C0
  have hl := lv_entry ([.ref (g 0), .int p0, .int p1, .int p2]) (n := 5) (Nat.le_of_ble_eq_true rfl)
  rw [lg_entry_eq]
  generalize (lg_sl ([.ref (g 0), .int p0, .int p1, .int p2]) ++ List.replicate (5 - (lg_sl ([.ref (g 0), .int p0, .int p1, .int p2])).length) Slot.unset).toArray = ls at hl ⊢
  have hl : lv_has ls 5 [(0, .ref (g 0)), (1, .int p0), (2, .int p1), (3, .int p2)] := hl
  rw [fX10_pin] at hf
  refine lv_iload_n hx hb dX10_pin_0 rfl (lv_at hl 1 rfl) ?_
  refine lv_ldc hx hb hown (hts (.constant RX10 169 (-1000000005)) (by decide +kernel)) dX10_pin_1 ?_
  refine lv_icmp_eq (tgt := 14) hx hb dX10_pin_3 (by decide) (fun c1 => ?_) (fun c1 => ?_)
  · have hf := i_t c1 hf
    refine lv_aload_n hx hb dX10_pin_14 rfl (lv_at hl 0 rfl) ?_
    refine lv_iload_n hx hb dX10_pin_15 rfl (lv_at hl 2 rfl) ?_
    obtain ⟨σ2, r3, h4, hf⟩ := o_obn hf
    refine j_iV (rest := []) I ⟨hx, hb, hml, hown, hts⟩ (ct_X10_isHouse σ p1 _ h4) (cwV 1 hts gX10_pin_X10_isHouse rfl rfl rfl (by decide +kernel) ⟨Nat.le_of_ble_eq_true rfl, Nat.le_of_ble_eq_true rfl⟩) (by decide) (km0 g Y _) rfl rfl hl.1 rfl (Nat.le_of_ble_eq_true rfl) dX10_pin_16 ⟨Nat.zero_le _, Nat.zero_le _⟩ (fun H locs I => ?_)
    refine lv_if_eq (tgt := 29) hx hb dX10_pin_19 (by decide) (fun c5 => ?_) (fun c5 => ?_)
    · have hf := i_t c5 hf
      refine lv_ldc hx hb hown (hts (.constant RX10 109 (-1000000001)) (by decide +kernel)) dX10_pin_29 ?_
      exact j_iret I hx hb hr rfl hlk hf dX10_pin_31
    · have hf := i_f c5 hf
      refine lv_iload_n hx hb dX10_pin_22 rfl (lv_at hl 3 rfl) ?_
      obtain ⟨σ6, r7, h8, hf⟩ := o_obn hf
      refine j_iS (rest := []) I ⟨hx, hb, hml, hown, hts⟩ (ct_X10_isWeek σ2 p2 _ h8) (va_cwS 1 hts gX10_pin_X10_isWeek rfl rfl rfl (by decide +kernel) ⟨Nat.le_of_ble_eq_true rfl, Nat.le_of_ble_eq_true rfl⟩) rfl hl.1 rfl (Nat.le_of_ble_eq_true rfl) dX10_pin_23 ⟨Nat.zero_le _, Nat.zero_le _⟩ (fun H locs I => ?_)
      refine lv_if_ne (tgt := 32) hx hb dX10_pin_26 (by decide) (fun c9 => ?_) (fun c9 => ?_)
      · have hf := i_f c9 hf
        refine lv_aload_n hx hb dX10_pin_32 rfl (lv_at hl 0 rfl) ?_
        refine j_get I hx hb hts iw_X10_pin_X10 hown 0 (by decide) (km0 g Y _) rfl 15 (by decide) (hts (.fieldLink RX10 43 "ReelNightModel" "pins" "[I") (by decide +kernel)) rfl dX10_pin_33 ?_
        refine lv_bipush (v := 6) hx hb dX10_pin_36 (by decide) ?_
        refine lv_iload_n hx hb dX10_pin_38 rfl (lv_at hl 3 rfl) ?_
        refine lv_imul hx hb dX10_pin_39 ?_
        refine lv_iload_n hx hb dX10_pin_40 rfl (lv_at hl 2 rfl) ?_
        refine lv_iadd hx hb dX10_pin_41 ?_
        obtain ⟨b10, hf⟩ := o_nb hf
        refine j_ald I hx hb 12 (by decide) (km12 g Y _) b10 dX10_pin_42 ?_
        obtain ⟨v11, ev11, hf⟩ := o_itp hf
        refine top_eq ev11 ?_
        refine lv_istore (lv' := [(4, .int v11), (0, .ref (g 0)), (1, .int p0), (2, .int p1), (3, .int p2)]) hx hb dX10_pin_43 hl (by decide) rfl (fun ls hl => ?_)
        refine lv_aload_n hx hb dX10_pin_45 rfl (lv_at hl 1 rfl) ?_
        refine j_get I hx hb hts iw_X10_pin_X10 hown 0 (by decide) (km0 g Y _) rfl 15 (by decide) (hts (.fieldLink RX10 43 "ReelNightModel" "pins" "[I") (by decide +kernel)) rfl dX10_pin_46 ?_
        refine lv_bipush (v := 6) hx hb dX10_pin_49 (by decide) ?_
        refine lv_iload_n hx hb dX10_pin_51 rfl (lv_at hl 4 rfl) ?_
        refine lv_imul hx hb dX10_pin_52 ?_
        refine lv_iload_n hx hb dX10_pin_53 rfl (lv_at hl 3 rfl) ?_
        refine lv_iadd hx hb dX10_pin_54 ?_
        refine lv_iload_n hx hb dX10_pin_55 rfl (lv_at hl 2 rfl) ?_
        refine lv_ldc hx hb hown (hts (.constant RX10 169 (-1000000005)) (by decide +kernel)) dX10_pin_56 ?_
        refine lv_icmp_ne (tgt := 65) hx hb dX10_pin_58 (by decide) (fun c12 => ?_) (fun c12 => ?_)
        · have hf := i_f c12 hf
          refine lv_iload_n hx hb dX10_pin_65 rfl (lv_at hl 2 rfl) ?_
          obtain ⟨b13, hf⟩ := o_nb hf
          obtain ⟨σ14, eσ14, hf⟩ := o_stp hf
          refine j_ast I hx hb 12 (by decide) (km12 g Y) b13 eσ14 dX10_pin_66 (fun H locs I => ?_)
          refine lv_iload hx hb dX10_pin_67 (lv_at hl 0 rfl) ?_
          refine lv_if_ge (tgt := 77) hx hb dX10_pin_69 (by decide) (fun c15 => ?_) (fun c15 => ?_)
          · have hf := i_t c15 hf
            refine lv_iload hx hb dX10_pin_77 (lv_at hl 0 rfl) ?_
            exact j_iret I hx hb hr rfl hlk hf dX10_pin_79
          · have hf := i_f c15 hf
            refine lv_ldc hx hb hown (hts (.constant RX10 169 (-1000000005)) (by decide +kernel)) dX10_pin_72 ?_
            refine lv_goto (tgt := 79) hx hb dX10_pin_74 (by decide) ?_
            exact j_iret I hx hb hr rfl hlk hf dX10_pin_79
        · have hf := i_t c12 hf
          refine lv_iconst (v := (-1)) hx hb dX10_pin_61 (by decide) ?_
          refine lv_goto (tgt := 66) hx hb dX10_pin_62 (by decide) ?_
          obtain ⟨b16, hf⟩ := o_nb hf
          obtain ⟨σ17, eσ17, hf⟩ := o_stp hf
          refine j_ast I hx hb 12 (by decide) (km12 g Y) b16 eσ17 dX10_pin_66 (fun H locs I => ?_)
          refine lv_iload hx hb dX10_pin_67 (lv_at hl 0 rfl) ?_
          refine lv_if_ge (tgt := 77) hx hb dX10_pin_69 (by decide) (fun c18 => ?_) (fun c18 => ?_)
          · have hf := i_t c18 hf
            refine lv_iload hx hb dX10_pin_77 (lv_at hl 0 rfl) ?_
            exact j_iret I hx hb hr rfl hlk hf dX10_pin_79
          · have hf := i_f c18 hf
            refine lv_ldc hx hb hown (hts (.constant RX10 169 (-1000000005)) (by decide +kernel)) dX10_pin_72 ?_
            refine lv_goto (tgt := 79) hx hb dX10_pin_74 (by decide) ?_
            exact j_iret I hx hb hr rfl hlk hf dX10_pin_79
      · have hf := i_t c9 hf
        refine lv_ldc hx hb hown (hts (.constant RX10 109 (-1000000001)) (by decide +kernel)) dX10_pin_29 ?_
        exact j_iret I hx hb hr rfl hlk hf dX10_pin_31
  · have hf := i_f c1 hf
    refine lv_aload_n hx hb dX10_pin_6 rfl (lv_at hl 0 rfl) ?_
    refine lv_iload_n hx hb dX10_pin_7 rfl (lv_at hl 1 rfl) ?_
    obtain ⟨σ19, r20, h21, hf⟩ := o_obn hf
    refine j_iV (rest := []) I ⟨hx, hb, hml, hown, hts⟩ (ct_X10_isFilm σ p0 _ h21) (cwV 1 hts gX10_pin_X10_isFilm rfl rfl rfl (by decide +kernel) ⟨Nat.le_of_ble_eq_true rfl, Nat.le_of_ble_eq_true rfl⟩) (by decide) (km0 g Y _) rfl rfl hl.1 rfl (Nat.le_of_ble_eq_true rfl) dX10_pin_8 ⟨Nat.zero_le _, Nat.zero_le _⟩ (fun H locs I => ?_)
    refine lv_if_eq (tgt := 29) hx hb dX10_pin_11 (by decide) (fun c22 => ?_) (fun c22 => ?_)
    · have hf := i_t c22 hf
      refine lv_ldc hx hb hown (hts (.constant RX10 109 (-1000000001)) (by decide +kernel)) dX10_pin_29 ?_
      exact j_iret I hx hb hr rfl hlk hf dX10_pin_31
    · have hf := i_f c22 hf
      refine lv_aload_n hx hb dX10_pin_14 rfl (lv_at hl 0 rfl) ?_
      refine lv_iload_n hx hb dX10_pin_15 rfl (lv_at hl 2 rfl) ?_
      obtain ⟨σ23, r24, h25, hf⟩ := o_obn hf
      refine j_iV (rest := []) I ⟨hx, hb, hml, hown, hts⟩ (ct_X10_isHouse σ19 p1 _ h25) (cwV 1 hts gX10_pin_X10_isHouse rfl rfl rfl (by decide +kernel) ⟨Nat.le_of_ble_eq_true rfl, Nat.le_of_ble_eq_true rfl⟩) (by decide) (km0 g Y _) rfl rfl hl.1 rfl (Nat.le_of_ble_eq_true rfl) dX10_pin_16 ⟨Nat.zero_le _, Nat.zero_le _⟩ (fun H locs I => ?_)
      refine lv_if_eq (tgt := 29) hx hb dX10_pin_19 (by decide) (fun c26 => ?_) (fun c26 => ?_)
      · have hf := i_t c26 hf
        refine lv_ldc hx hb hown (hts (.constant RX10 109 (-1000000001)) (by decide +kernel)) dX10_pin_29 ?_
        exact j_iret I hx hb hr rfl hlk hf dX10_pin_31
      · have hf := i_f c26 hf
        refine lv_iload_n hx hb dX10_pin_22 rfl (lv_at hl 3 rfl) ?_
        obtain ⟨σ27, r28, h29, hf⟩ := o_obn hf
        refine j_iS (rest := []) I ⟨hx, hb, hml, hown, hts⟩ (ct_X10_isWeek σ23 p2 _ h29) (va_cwS 1 hts gX10_pin_X10_isWeek rfl rfl rfl (by decide +kernel) ⟨Nat.le_of_ble_eq_true rfl, Nat.le_of_ble_eq_true rfl⟩) rfl hl.1 rfl (Nat.le_of_ble_eq_true rfl) dX10_pin_23 ⟨Nat.zero_le _, Nat.zero_le _⟩ (fun H locs I => ?_)
        refine lv_if_ne (tgt := 32) hx hb dX10_pin_26 (by decide) (fun c30 => ?_) (fun c30 => ?_)
        · have hf := i_f c30 hf
          refine lv_aload_n hx hb dX10_pin_32 rfl (lv_at hl 0 rfl) ?_
          refine j_get I hx hb hts iw_X10_pin_X10 hown 0 (by decide) (km0 g Y _) rfl 15 (by decide) (hts (.fieldLink RX10 43 "ReelNightModel" "pins" "[I") (by decide +kernel)) rfl dX10_pin_33 ?_
          refine lv_bipush (v := 6) hx hb dX10_pin_36 (by decide) ?_
          refine lv_iload_n hx hb dX10_pin_38 rfl (lv_at hl 3 rfl) ?_
          refine lv_imul hx hb dX10_pin_39 ?_
          refine lv_iload_n hx hb dX10_pin_40 rfl (lv_at hl 2 rfl) ?_
          refine lv_iadd hx hb dX10_pin_41 ?_
          obtain ⟨b31, hf⟩ := o_nb hf
          refine j_ald I hx hb 12 (by decide) (km12 g Y _) b31 dX10_pin_42 ?_
          obtain ⟨v32, ev32, hf⟩ := o_itp hf
          refine top_eq ev32 ?_
          refine lv_istore (lv' := [(4, .int v32), (0, .ref (g 0)), (1, .int p0), (2, .int p1), (3, .int p2)]) hx hb dX10_pin_43 hl (by decide) rfl (fun ls hl => ?_)
          refine lv_aload_n hx hb dX10_pin_45 rfl (lv_at hl 1 rfl) ?_
          refine j_get I hx hb hts iw_X10_pin_X10 hown 0 (by decide) (km0 g Y _) rfl 15 (by decide) (hts (.fieldLink RX10 43 "ReelNightModel" "pins" "[I") (by decide +kernel)) rfl dX10_pin_46 ?_
          refine lv_bipush (v := 6) hx hb dX10_pin_49 (by decide) ?_
          refine lv_iload_n hx hb dX10_pin_51 rfl (lv_at hl 4 rfl) ?_
          refine lv_imul hx hb dX10_pin_52 ?_
          refine lv_iload_n hx hb dX10_pin_53 rfl (lv_at hl 3 rfl) ?_
          refine lv_iadd hx hb dX10_pin_54 ?_
          refine lv_iload_n hx hb dX10_pin_55 rfl (lv_at hl 2 rfl) ?_
          refine lv_ldc hx hb hown (hts (.constant RX10 169 (-1000000005)) (by decide +kernel)) dX10_pin_56 ?_
          refine lv_icmp_ne (tgt := 65) hx hb dX10_pin_58 (by decide) (fun c33 => ?_) (fun c33 => ?_)
          · have hf := i_f c33 hf
            refine lv_iload_n hx hb dX10_pin_65 rfl (lv_at hl 2 rfl) ?_
            obtain ⟨b34, hf⟩ := o_nb hf
            obtain ⟨σ35, eσ35, hf⟩ := o_stp hf
            refine j_ast I hx hb 12 (by decide) (km12 g Y) b34 eσ35 dX10_pin_66 (fun H locs I => ?_)
            refine lv_iload hx hb dX10_pin_67 (lv_at hl 0 rfl) ?_
            refine lv_if_ge (tgt := 77) hx hb dX10_pin_69 (by decide) (fun c36 => ?_) (fun c36 => ?_)
            · have hf := i_t c36 hf
              refine lv_iload hx hb dX10_pin_77 (lv_at hl 0 rfl) ?_
              exact j_iret I hx hb hr rfl hlk hf dX10_pin_79
            · have hf := i_f c36 hf
              refine lv_ldc hx hb hown (hts (.constant RX10 169 (-1000000005)) (by decide +kernel)) dX10_pin_72 ?_
              refine lv_goto (tgt := 79) hx hb dX10_pin_74 (by decide) ?_
              exact j_iret I hx hb hr rfl hlk hf dX10_pin_79
          · have hf := i_t c33 hf
            refine lv_iconst (v := (-1)) hx hb dX10_pin_61 (by decide) ?_
            refine lv_goto (tgt := 66) hx hb dX10_pin_62 (by decide) ?_
            obtain ⟨b37, hf⟩ := o_nb hf
            obtain ⟨σ38, eσ38, hf⟩ := o_stp hf
            refine j_ast I hx hb 12 (by decide) (km12 g Y) b37 eσ38 dX10_pin_66 (fun H locs I => ?_)
            refine lv_iload hx hb dX10_pin_67 (lv_at hl 0 rfl) ?_
            refine lv_if_ge (tgt := 77) hx hb dX10_pin_69 (by decide) (fun c39 => ?_) (fun c39 => ?_)
            · have hf := i_t c39 hf
              refine lv_iload hx hb dX10_pin_77 (lv_at hl 0 rfl) ?_
              exact j_iret I hx hb hr rfl hlk hf dX10_pin_79
            · have hf := i_f c39 hf
              refine lv_ldc hx hb hown (hts (.constant RX10 169 (-1000000005)) (by decide +kernel)) dX10_pin_72 ?_
              refine lv_goto (tgt := 79) hx hb dX10_pin_74 (by decide) ?_
              exact j_iret I hx hb hr rfl hlk hf dX10_pin_79
        · have hf := i_t c30 hf
          refine lv_ldc hx hb hown (hts (.constant RX10 109 (-1000000001)) (by decide +kernel)) dX10_pin_29 ?_
          exact j_iret I hx hb hr rfl hlk hf dX10_pin_31

theorem iw_X10_mayBe_X10 : ∀ w ∈ u_ws RX10 TX10 37, w ∈ wsX10_mayBe := by decide +kernel
set_option maxHeartbeats 4000000 in
set_option maxRecDepth 100000 in
theorem bX10_mayBe_L6 {p : Program} {l : Launch} {e : Env} {s : State} {m : MethodId} {args : Array Value} {below : List Frame} {meth : Method} {c : Code} {D : va_G} {g : Nat → Nat} {Y : YT} {bP : Nat} {σ0 : St} {res : St × Int32} (C0 : MC p s m args meth c cX10_mayBe 8 (some .boolean) RX10 wsX10_mayBe) {K44 : St → Int32 → Int32 → Int32 → Int32 → Option (St × Int32)} (hK44 : ∀ (σ : St) (a1 : Int32) (a2 : Int32) (a3 : Int32) (a4 : Int32) (H : Heap) (locs : List Loc) (ls : Array Slot), K44 σ a1 a2 a3 a4 = some res → JW D 27 g (KM g Y) Y bP (va_A (wd 27 g (KM g Y) σ0) s.heap.size) s σ H locs → lv_has ls 8 [(0, .ref (g 0)), (1, .int a1), (2, .int a2), (3, .int a3), (4, .int a4)] → W p l e (⟨0, 0, 0, 0⟩ : Room) s m args below meth c H locs 0 0 (MQ below (Qi D 27 g (KM g Y) Y σ0 res s.heap.size) args s 0 0 (va_A (wd 27 g (KM g Y) σ0) s.heap.size)) (F0 m 44 ls [])) : ∀ (n : Nat) (σ : St) (a1 : Int32) (a2 : Int32) (a3 : Int32) (a4 : Int32) (a5 : Int32) (H : Heap) (locs : List Loc) (ls : Array Slot), fX10_mayBe_L6 K44 n σ a1 a2 a3 a4 a5 = some res → JW D 27 g (KM g Y) Y bP (va_A (wd 27 g (KM g Y) σ0) s.heap.size) s σ H locs → lv_has ls 8 [(0, .ref (g 0)), (1, .int a1), (2, .int a2), (3, .int a3), (4, .int a4), (5, .int a5)] → W p l e (⟨0, 0, 0, 0⟩ : Room) s m args below meth c H locs 0 0 (MQ below (Qi D 27 g (KM g Y) Y σ0 res s.heap.size) args s 0 0 (va_A (wd 27 g (KM g Y) σ0) s.heap.size)) (F0 m 6 ls []) := by
  have C0 := C0
  obtain ⟨hx, hb, hr, hml, hown, hts, hlk⟩ := id C0
  intro n
  induction n with
  | zero =>
    intro σ a1 a2 a3 a4 a5 H locs ls hf
    cases hf
  | succ n ih =>
    intro σ a1 a2 a3 a4 a5 H locs ls hf I hl
    rw [fX10_mayBe_L6] at hf
    refine lv_iload hx hb dX10_mayBe_6 (lv_at hl 5 rfl) ?_
    refine lv_iload_n hx hb dX10_mayBe_8 rfl (lv_at hl 3 rfl) ?_
    refine lv_icmp_ge (tgt := 44) hx hb dX10_mayBe_9 (by decide) (fun c1 => ?_) (fun c1 => ?_)
    · have hf := i_t c1 hf
      exact hK44 σ a1 a2 a3 a4 _ _ _ hf I (lv_sub hl [0, 1, 2, 3, 4] rfl)
    · have hf := i_f c1 hf
      refine lv_iload hx hb dX10_mayBe_12 (lv_at hl 4 rfl) ?_
      refine lv_aload_n hx hb dX10_mayBe_14 rfl (lv_at hl 0 rfl) ?_
      refine j_get I hx hb hts iw_X10_mayBe_X10 hown 0 (by decide) (km0 g Y _) rfl 30 (by decide) (hts (.fieldLink RX10 90 "ReelNightModel" "trial" "[I") (by decide +kernel)) rfl dX10_mayBe_15 ?_
      refine lv_bipush (v := 6) hx hb dX10_mayBe_18 (by decide) ?_
      refine lv_iload hx hb dX10_mayBe_20 (lv_at hl 5 rfl) ?_
      refine lv_imul hx hb dX10_mayBe_22 ?_
      refine lv_iload_n hx hb dX10_mayBe_23 rfl (lv_at hl 2 rfl) ?_
      refine lv_iadd hx hb dX10_mayBe_24 ?_
      obtain ⟨b2, hf⟩ := o_nb hf
      refine j_ald I hx hb 24 (by decide) (km24 g Y _) b2 dX10_mayBe_25 ?_
      refine lv_iload_n hx hb dX10_mayBe_26 rfl (lv_at hl 1 rfl) ?_
      refine lv_icmp_ne (tgt := 34) hx hb dX10_mayBe_27 (by decide) (fun c3 => ?_) (fun c3 => ?_)
      · have hf := i_f c3 hf
        refine lv_iconst (v := 0) hx hb dX10_mayBe_34 (by decide) ?_
        refine lv_iadd hx hb dX10_mayBe_35 ?_
        obtain ⟨v4, ev4, hf⟩ := o_itp hf
        refine top_eq ev4 ?_
        refine lv_istore (lv' := [(4, .int v4), (0, .ref (g 0)), (1, .int a1), (2, .int a2), (3, .int a3), (5, .int a5)]) hx hb dX10_mayBe_36 hl (by decide) rfl (fun ls hl => ?_)
        refine lv_iinc (v := (a5 + 1)) (lv' := [(5, .int (a5 + 1)), (4, .int v4), (0, .ref (g 0)), (1, .int a1), (2, .int a2), (3, .int a3)]) hx hb dX10_mayBe_38 hl (k := 5) rfl rfl (by decide) rfl (fun ls hl => ?_)
        refine lv_goto (tgt := 6) hx hb dX10_mayBe_41 (by decide) ?_
        exact ih σ a1 a2 a3 v4 (a5 + 1) _ _ _ hf I (lv_sub hl [2, 3, 4, 5, 1, 0] rfl)
      · have hf := i_t c3 hf
        refine lv_iconst (v := 1) hx hb dX10_mayBe_30 (by decide) ?_
        refine lv_goto (tgt := 35) hx hb dX10_mayBe_31 (by decide) ?_
        refine lv_iadd hx hb dX10_mayBe_35 ?_
        obtain ⟨v5, ev5, hf⟩ := o_itp hf
        refine top_eq ev5 ?_
        refine lv_istore (lv' := [(4, .int v5), (0, .ref (g 0)), (1, .int a1), (2, .int a2), (3, .int a3), (5, .int a5)]) hx hb dX10_mayBe_36 hl (by decide) rfl (fun ls hl => ?_)
        refine lv_iinc (v := (a5 + 1)) (lv' := [(5, .int (a5 + 1)), (4, .int v5), (0, .ref (g 0)), (1, .int a1), (2, .int a2), (3, .int a3)]) hx hb dX10_mayBe_38 hl (k := 5) rfl rfl (by decide) rfl (fun ls hl => ?_)
        refine lv_goto (tgt := 6) hx hb dX10_mayBe_41 (by decide) ?_
        exact ih σ a1 a2 a3 v5 (a5 + 1) _ _ _ hf I (lv_sub hl [2, 3, 4, 5, 1, 0] rfl)
set_option maxHeartbeats 4000000 in
set_option maxRecDepth 100000 in
theorem bX10_mayBe_L87 {p : Program} {l : Launch} {e : Env} {s : State} {m : MethodId} {args : Array Value} {below : List Frame} {meth : Method} {c : Code} {D : va_G} {g : Nat → Nat} {Y : YT} {bP : Nat} {σ0 : St} {res : St × Int32} (C0 : MC p s m args meth c cX10_mayBe 8 (some .boolean) RX10 wsX10_mayBe) {K170 : St → Int32 → Int32 → Int32 → Int32 → Option (St × Int32)} (hK170 : ∀ (σ : St) (a1 : Int32) (a2 : Int32) (a3 : Int32) (a5 : Int32) (H : Heap) (locs : List Loc) (ls : Array Slot), K170 σ a1 a2 a3 a5 = some res → JW D 27 g (KM g Y) Y bP (va_A (wd 27 g (KM g Y) σ0) s.heap.size) s σ H locs → lv_has ls 8 [(0, .ref (g 0)), (1, .int a1), (2, .int a2), (3, .int a3), (5, .int a5)] → W p l e (⟨0, 0, 0, 0⟩ : Room) s m args below meth c H locs 0 0 (MQ below (Qi D 27 g (KM g Y) Y σ0 res s.heap.size) args s 0 0 (va_A (wd 27 g (KM g Y) σ0) s.heap.size)) (F0 m 170 ls [])) : ∀ (n : Nat) (σ : St) (a1 : Int32) (a2 : Int32) (a3 : Int32) (a5 : Int32) (a6 : Int32) (H : Heap) (locs : List Loc) (ls : Array Slot), fX10_mayBe_L87 K170 n σ a1 a2 a3 a5 a6 = some res → JW D 27 g (KM g Y) Y bP (va_A (wd 27 g (KM g Y) σ0) s.heap.size) s σ H locs → lv_has ls 8 [(0, .ref (g 0)), (1, .int a1), (2, .int a2), (3, .int a3), (5, .int a5), (6, .int a6)] → W p l e (⟨0, 0, 0, 0⟩ : Room) s m args below meth c H locs 0 0 (MQ below (Qi D 27 g (KM g Y) Y σ0 res s.heap.size) args s 0 0 (va_A (wd 27 g (KM g Y) σ0) s.heap.size)) (F0 m 87 ls []) := by
  have C0 := C0
  obtain ⟨hx, hb, hr, hml, hown, hts, hlk⟩ := id C0
  intro n
  induction n with
  | zero =>
    intro σ a1 a2 a3 a5 a6 H locs ls hf
    cases hf
  | succ n ih =>
    intro σ a1 a2 a3 a5 a6 H locs ls hf I hl
    rw [fX10_mayBe_L87] at hf
    refine lv_iload hx hb dX10_mayBe_87 (lv_at hl 5 rfl) ?_
    refine lv_aload_n hx hb dX10_mayBe_89 rfl (lv_at hl 0 rfl) ?_
    refine j_get I hx hb hts iw_X10_mayBe_X10 hown 0 (by decide) (km0 g Y _) rfl 0 (by decide) (hts (.fieldLink RX10 99 "ReelNightModel" "houses" "I") (by decide +kernel)) rfl dX10_mayBe_90 ?_
    refine lv_icmp_ge (tgt := 170) hx hb dX10_mayBe_93 (by decide) (fun c14 => ?_) (fun c14 => ?_)
    · have hf := i_t c14 hf
      exact hK170 σ a1 a2 a3 a5 _ _ _ hf I (lv_sub hl [0, 1, 2, 3, 4] rfl)
    · have hf := i_f c14 hf
      refine lv_iload hx hb dX10_mayBe_96 (lv_at hl 4 rfl) ?_
      refine lv_iload_n hx hb dX10_mayBe_98 rfl (lv_at hl 3 rfl) ?_
      refine lv_icmp_lt (tgt := 108) hx hb dX10_mayBe_99 (by decide) (fun c15 => ?_) (fun c15 => ?_)
      · have hf := i_t c15 hf
        refine lv_iconst (v := 1) hx hb dX10_mayBe_108 (by decide) ?_
        refine lv_goto (tgt := 113) hx hb dX10_mayBe_109 (by decide) ?_
        refine lv_istore (lv' := [(7, .int 1), (0, .ref (g 0)), (1, .int a1), (2, .int a2), (3, .int a3), (5, .int a5), (6, .int a6)]) hx hb dX10_mayBe_113 hl (by decide) rfl (fun ls hl => ?_)
        refine lv_iload hx hb dX10_mayBe_115 (lv_at hl 6 rfl) ?_
        refine lv_iload_n hx hb dX10_mayBe_117 rfl (lv_at hl 3 rfl) ?_
        refine lv_icmp_eq (tgt := 164) hx hb dX10_mayBe_118 (by decide) (fun c16 => ?_) (fun c16 => ?_)
        · have hf := i_t c16 hf
          refine lv_iinc (v := (a6 + 1)) (lv' := [(6, .int (a6 + 1)), (7, .int 1), (0, .ref (g 0)), (1, .int a1), (2, .int a2), (3, .int a3), (5, .int a5)]) hx hb dX10_mayBe_164 hl (k := 6) rfl rfl (by decide) rfl (fun ls hl => ?_)
          refine lv_goto (tgt := 87) hx hb dX10_mayBe_167 (by decide) ?_
          exact ih σ a1 a2 a3 a5 (a6 + 1) _ _ _ hf I (lv_sub hl [2, 3, 4, 5, 6, 0] rfl)
        · have hf := i_f c16 hf
          refine lv_iload hx hb dX10_mayBe_121 (lv_at hl 0 rfl) ?_
          refine lv_if_eq (tgt := 164) hx hb dX10_mayBe_123 (by decide) (fun c_ => absurd c_ (by decide)) (fun _ => ?_)
          refine lv_aload_n hx hb dX10_mayBe_126 rfl (lv_at hl 1 rfl) ?_
          refine j_get I hx hb hts iw_X10_mayBe_X10 hown 0 (by decide) (km0 g Y _) rfl 30 (by decide) (hts (.fieldLink RX10 90 "ReelNightModel" "trial" "[I") (by decide +kernel)) rfl dX10_mayBe_127 ?_
          refine lv_bipush (v := 6) hx hb dX10_mayBe_130 (by decide) ?_
          refine lv_iload hx hb dX10_mayBe_132 (lv_at hl 5 rfl) ?_
          refine lv_imul hx hb dX10_mayBe_134 ?_
          refine lv_iload hx hb dX10_mayBe_135 (lv_at hl 6 rfl) ?_
          refine lv_iadd hx hb dX10_mayBe_137 ?_
          obtain ⟨b17, hf⟩ := o_nb hf
          refine j_ald I hx hb 24 (by decide) (km24 g Y _) b17 dX10_mayBe_138 ?_
          refine lv_iload_n hx hb dX10_mayBe_139 rfl (lv_at hl 2 rfl) ?_
          refine lv_icmp_ne (tgt := 164) hx hb dX10_mayBe_140 (by decide) (fun c18 => ?_) (fun c18 => ?_)
          · have hf := i_f c18 hf
            refine lv_iinc (v := (a6 + 1)) (lv' := [(6, .int (a6 + 1)), (7, .int 1), (0, .ref (g 0)), (1, .int a1), (2, .int a2), (3, .int a3), (5, .int a5)]) hx hb dX10_mayBe_164 hl (k := 6) rfl rfl (by decide) rfl (fun ls hl => ?_)
            refine lv_goto (tgt := 87) hx hb dX10_mayBe_167 (by decide) ?_
            exact ih σ a1 a2 a3 a5 (a6 + 1) _ _ _ hf I (lv_sub hl [2, 3, 4, 5, 6, 0] rfl)
          · have hf := i_t c18 hf
            refine lv_iload_n hx hb dX10_mayBe_143 rfl (lv_at hl 4 rfl) ?_
            refine lv_iload hx hb dX10_mayBe_144 (lv_at hl 5 rfl) ?_
            refine lv_isub hx hb dX10_mayBe_146 ?_
            refine lv_aload_n hx hb dX10_mayBe_147 rfl (lv_at hl 1 rfl) ?_
            refine j_get I hx hb hts iw_X10_mayBe_X10 hown 0 (by decide) (km0 g Y _) rfl 6 (by decide) (hts (.fieldLink RX10 25 "ReelNightModel" "bars" "[I") (by decide +kernel)) rfl dX10_mayBe_148 ?_
            refine lv_bipush (v := 6) hx hb dX10_mayBe_151 (by decide) ?_
            refine lv_iload_n hx hb dX10_mayBe_153 rfl (lv_at hl 3 rfl) ?_
            refine lv_imul hx hb dX10_mayBe_154 ?_
            refine lv_iload hx hb dX10_mayBe_155 (lv_at hl 6 rfl) ?_
            refine lv_iadd hx hb dX10_mayBe_157 ?_
            obtain ⟨b19, hf⟩ := o_nb hf
            refine j_ald I hx hb 6 (by decide) (km6 g Y _) b19 dX10_mayBe_158 ?_
            refine lv_icmp_ge (tgt := 164) hx hb dX10_mayBe_159 (by decide) (fun c20 => ?_) (fun c20 => ?_)
            · have hf := i_t c20 hf
              refine lv_iinc (v := (a6 + 1)) (lv' := [(6, .int (a6 + 1)), (7, .int 1), (0, .ref (g 0)), (1, .int a1), (2, .int a2), (3, .int a3), (5, .int a5)]) hx hb dX10_mayBe_164 hl (k := 6) rfl rfl (by decide) rfl (fun ls hl => ?_)
              refine lv_goto (tgt := 87) hx hb dX10_mayBe_167 (by decide) ?_
              exact ih σ a1 a2 a3 a5 (a6 + 1) _ _ _ hf I (lv_sub hl [2, 3, 4, 5, 6, 0] rfl)
            · have hf := i_f c20 hf
              refine lv_iconst (v := 0) hx hb dX10_mayBe_162 (by decide) ?_
              exact j_iret I hx hb hr rfl hlk hf dX10_mayBe_163
      · have hf := i_f c15 hf
        refine lv_iload hx hb dX10_mayBe_102 (lv_at hl 5 rfl) ?_
        refine lv_iload_n hx hb dX10_mayBe_104 rfl (lv_at hl 2 rfl) ?_
        refine lv_icmp_ge (tgt := 112) hx hb dX10_mayBe_105 (by decide) (fun c21 => ?_) (fun c21 => ?_)
        · have hf := i_t c21 hf
          refine lv_iconst (v := 0) hx hb dX10_mayBe_112 (by decide) ?_
          refine lv_istore (lv' := [(7, .int 0), (0, .ref (g 0)), (1, .int a1), (2, .int a2), (3, .int a3), (5, .int a5), (6, .int a6)]) hx hb dX10_mayBe_113 hl (by decide) rfl (fun ls hl => ?_)
          refine lv_iload hx hb dX10_mayBe_115 (lv_at hl 6 rfl) ?_
          refine lv_iload_n hx hb dX10_mayBe_117 rfl (lv_at hl 3 rfl) ?_
          refine lv_icmp_eq (tgt := 164) hx hb dX10_mayBe_118 (by decide) (fun c22 => ?_) (fun c22 => ?_)
          · have hf := i_t c22 hf
            refine lv_iinc (v := (a6 + 1)) (lv' := [(6, .int (a6 + 1)), (7, .int 0), (0, .ref (g 0)), (1, .int a1), (2, .int a2), (3, .int a3), (5, .int a5)]) hx hb dX10_mayBe_164 hl (k := 6) rfl rfl (by decide) rfl (fun ls hl => ?_)
            refine lv_goto (tgt := 87) hx hb dX10_mayBe_167 (by decide) ?_
            exact ih σ a1 a2 a3 a5 (a6 + 1) _ _ _ hf I (lv_sub hl [2, 3, 4, 5, 6, 0] rfl)
          · have hf := i_f c22 hf
            refine lv_iload hx hb dX10_mayBe_121 (lv_at hl 0 rfl) ?_
            refine lv_if_eq (tgt := 164) hx hb dX10_mayBe_123 (by decide) (fun _ => ?_) (fun c_ => absurd (by decide) c_)
            refine lv_iinc (v := (a6 + 1)) (lv' := [(6, .int (a6 + 1)), (7, .int 0), (0, .ref (g 0)), (1, .int a1), (2, .int a2), (3, .int a3), (5, .int a5)]) hx hb dX10_mayBe_164 hl (k := 6) rfl rfl (by decide) rfl (fun ls hl => ?_)
            refine lv_goto (tgt := 87) hx hb dX10_mayBe_167 (by decide) ?_
            exact ih σ a1 a2 a3 a5 (a6 + 1) _ _ _ hf I (lv_sub hl [2, 3, 4, 5, 6, 0] rfl)
        · have hf := i_f c21 hf
          refine lv_iconst (v := 1) hx hb dX10_mayBe_108 (by decide) ?_
          refine lv_goto (tgt := 113) hx hb dX10_mayBe_109 (by decide) ?_
          refine lv_istore (lv' := [(7, .int 1), (0, .ref (g 0)), (1, .int a1), (2, .int a2), (3, .int a3), (5, .int a5), (6, .int a6)]) hx hb dX10_mayBe_113 hl (by decide) rfl (fun ls hl => ?_)
          refine lv_iload hx hb dX10_mayBe_115 (lv_at hl 6 rfl) ?_
          refine lv_iload_n hx hb dX10_mayBe_117 rfl (lv_at hl 3 rfl) ?_
          refine lv_icmp_eq (tgt := 164) hx hb dX10_mayBe_118 (by decide) (fun c23 => ?_) (fun c23 => ?_)
          · have hf := i_t c23 hf
            refine lv_iinc (v := (a6 + 1)) (lv' := [(6, .int (a6 + 1)), (7, .int 1), (0, .ref (g 0)), (1, .int a1), (2, .int a2), (3, .int a3), (5, .int a5)]) hx hb dX10_mayBe_164 hl (k := 6) rfl rfl (by decide) rfl (fun ls hl => ?_)
            refine lv_goto (tgt := 87) hx hb dX10_mayBe_167 (by decide) ?_
            exact ih σ a1 a2 a3 a5 (a6 + 1) _ _ _ hf I (lv_sub hl [2, 3, 4, 5, 6, 0] rfl)
          · have hf := i_f c23 hf
            refine lv_iload hx hb dX10_mayBe_121 (lv_at hl 0 rfl) ?_
            refine lv_if_eq (tgt := 164) hx hb dX10_mayBe_123 (by decide) (fun c_ => absurd c_ (by decide)) (fun _ => ?_)
            refine lv_aload_n hx hb dX10_mayBe_126 rfl (lv_at hl 1 rfl) ?_
            refine j_get I hx hb hts iw_X10_mayBe_X10 hown 0 (by decide) (km0 g Y _) rfl 30 (by decide) (hts (.fieldLink RX10 90 "ReelNightModel" "trial" "[I") (by decide +kernel)) rfl dX10_mayBe_127 ?_
            refine lv_bipush (v := 6) hx hb dX10_mayBe_130 (by decide) ?_
            refine lv_iload hx hb dX10_mayBe_132 (lv_at hl 5 rfl) ?_
            refine lv_imul hx hb dX10_mayBe_134 ?_
            refine lv_iload hx hb dX10_mayBe_135 (lv_at hl 6 rfl) ?_
            refine lv_iadd hx hb dX10_mayBe_137 ?_
            obtain ⟨b24, hf⟩ := o_nb hf
            refine j_ald I hx hb 24 (by decide) (km24 g Y _) b24 dX10_mayBe_138 ?_
            refine lv_iload_n hx hb dX10_mayBe_139 rfl (lv_at hl 2 rfl) ?_
            refine lv_icmp_ne (tgt := 164) hx hb dX10_mayBe_140 (by decide) (fun c25 => ?_) (fun c25 => ?_)
            · have hf := i_f c25 hf
              refine lv_iinc (v := (a6 + 1)) (lv' := [(6, .int (a6 + 1)), (7, .int 1), (0, .ref (g 0)), (1, .int a1), (2, .int a2), (3, .int a3), (5, .int a5)]) hx hb dX10_mayBe_164 hl (k := 6) rfl rfl (by decide) rfl (fun ls hl => ?_)
              refine lv_goto (tgt := 87) hx hb dX10_mayBe_167 (by decide) ?_
              exact ih σ a1 a2 a3 a5 (a6 + 1) _ _ _ hf I (lv_sub hl [2, 3, 4, 5, 6, 0] rfl)
            · have hf := i_t c25 hf
              refine lv_iload_n hx hb dX10_mayBe_143 rfl (lv_at hl 4 rfl) ?_
              refine lv_iload hx hb dX10_mayBe_144 (lv_at hl 5 rfl) ?_
              refine lv_isub hx hb dX10_mayBe_146 ?_
              refine lv_aload_n hx hb dX10_mayBe_147 rfl (lv_at hl 1 rfl) ?_
              refine j_get I hx hb hts iw_X10_mayBe_X10 hown 0 (by decide) (km0 g Y _) rfl 6 (by decide) (hts (.fieldLink RX10 25 "ReelNightModel" "bars" "[I") (by decide +kernel)) rfl dX10_mayBe_148 ?_
              refine lv_bipush (v := 6) hx hb dX10_mayBe_151 (by decide) ?_
              refine lv_iload_n hx hb dX10_mayBe_153 rfl (lv_at hl 3 rfl) ?_
              refine lv_imul hx hb dX10_mayBe_154 ?_
              refine lv_iload hx hb dX10_mayBe_155 (lv_at hl 6 rfl) ?_
              refine lv_iadd hx hb dX10_mayBe_157 ?_
              obtain ⟨b26, hf⟩ := o_nb hf
              refine j_ald I hx hb 6 (by decide) (km6 g Y _) b26 dX10_mayBe_158 ?_
              refine lv_icmp_ge (tgt := 164) hx hb dX10_mayBe_159 (by decide) (fun c27 => ?_) (fun c27 => ?_)
              · have hf := i_t c27 hf
                refine lv_iinc (v := (a6 + 1)) (lv' := [(6, .int (a6 + 1)), (7, .int 1), (0, .ref (g 0)), (1, .int a1), (2, .int a2), (3, .int a3), (5, .int a5)]) hx hb dX10_mayBe_164 hl (k := 6) rfl rfl (by decide) rfl (fun ls hl => ?_)
                refine lv_goto (tgt := 87) hx hb dX10_mayBe_167 (by decide) ?_
                exact ih σ a1 a2 a3 a5 (a6 + 1) _ _ _ hf I (lv_sub hl [2, 3, 4, 5, 6, 0] rfl)
              · have hf := i_f c27 hf
                refine lv_iconst (v := 0) hx hb dX10_mayBe_162 (by decide) ?_
                exact j_iret I hx hb hr rfl hlk hf dX10_mayBe_163
set_option maxHeartbeats 4000000 in
set_option maxRecDepth 100000 in
theorem bX10_mayBe_L78 {p : Program} {l : Launch} {e : Env} {s : State} {m : MethodId} {args : Array Value} {below : List Frame} {meth : Method} {c : Code} {D : va_G} {g : Nat → Nat} {Y : YT} {bP : Nat} {σ0 : St} {res : St × Int32} (C0 : MC p s m args meth c cX10_mayBe 8 (some .boolean) RX10 wsX10_mayBe) : ∀ (n : Nat) (σ : St) (a1 : Int32) (a2 : Int32) (a3 : Int32) (a5 : Int32) (H : Heap) (locs : List Loc) (ls : Array Slot), fX10_mayBe_L78 n σ a1 a2 a3 a5 = some res → JW D 27 g (KM g Y) Y bP (va_A (wd 27 g (KM g Y) σ0) s.heap.size) s σ H locs → lv_has ls 8 [(0, .ref (g 0)), (1, .int a1), (2, .int a2), (3, .int a3), (5, .int a5)] → W p l e (⟨0, 0, 0, 0⟩ : Room) s m args below meth c H locs 0 0 (MQ below (Qi D 27 g (KM g Y) Y σ0 res s.heap.size) args s 0 0 (va_A (wd 27 g (KM g Y) σ0) s.heap.size)) (F0 m 78 ls []) := by
  have C0 := C0
  obtain ⟨hx, hb, hr, hml, hown, hts, hlk⟩ := id C0
  intro n
  induction n with
  | zero =>
    intro σ a1 a2 a3 a5 H locs ls hf
    cases hf
  | succ n ih =>
    intro σ a1 a2 a3 a5 H locs ls hf I hl
    rw [fX10_mayBe_L78] at hf
    refine lv_iload hx hb dX10_mayBe_78 (lv_at hl 4 rfl) ?_
    refine lv_iload_n hx hb dX10_mayBe_80 rfl (lv_at hl 3 rfl) ?_
    refine lv_icmp_gt (tgt := 176) hx hb dX10_mayBe_81 (by decide) (fun c13 => ?_) (fun c13 => ?_)
    · have hf := i_t c13 hf
      refine lv_iconst (v := 1) hx hb dX10_mayBe_176 (by decide) ?_
      exact j_iret I hx hb hr rfl hlk hf dX10_mayBe_177
    · have hf := i_f c13 hf
      refine lv_iconst (v := 0) hx hb dX10_mayBe_84 (by decide) ?_
      refine lv_istore (lv' := [(6, .int 0), (0, .ref (g 0)), (1, .int a1), (2, .int a2), (3, .int a3), (5, .int a5)]) hx hb dX10_mayBe_85 hl (by decide) rfl (fun ls hl => ?_)
      refine bX10_mayBe_L87 C0 ?_ 50 σ a1 a2 a3 a5 0 _ _ _ hf I (lv_sub hl [1, 2, 3, 4, 5, 0] rfl)
      · intro σ28 a29 a30 a31 a32 H locs ls hf I hl
        refine lv_iinc (v := (a32 + 1)) (lv' := [(5, .int (a32 + 1)), (0, .ref (g 0)), (1, .int a29), (2, .int a30), (3, .int a31)]) hx hb dX10_mayBe_170 hl (k := 4) rfl rfl (by decide) rfl (fun ls hl => ?_)
        refine lv_goto (tgt := 78) hx hb dX10_mayBe_173 (by decide) ?_
        exact ih σ28 a29 a30 a31 (a32 + 1) _ _ _ hf I (lv_sub hl [1, 2, 3, 4, 0] rfl)
set_option maxHeartbeats 4000000 in
set_option maxRecDepth 100000 in
theorem ct_X10_mayBe {l : Launch} {D : va_G} {g : Nat → Nat} {Y : YT} {bP : Nat} (σ : St) (p0 : Int32) (p1 : Int32) (p2 : Int32) (res : St × Int32) (hf : fX10_mayBe σ p0 p1 p2 = some res) : Ci l yX10_mayBe wsX10_mayBe ⟨0, 0, 0, 0⟩ D 27 g (KM g Y) Y bP [.ref (g 0), .int p0, .int p1, .int p2] σ res := by
  intro sz
  refine Met.ofW (cc := cX10_mayBe) (maxL := 8) (ret := (some .boolean)) (by decide) rfl ?_
  intro p e s m args below meth c s₁ B hml hv
  obtain ⟨rfl, rfl, I⟩ := j_start hv
  have C0 : MC p s m _ meth c cX10_mayBe 8 (some .boolean) RX10 wsX10_mayBe := ⟨B.exec, B.bytes, B.returns, hml, findClass_of_methodNamed B.named, atoms_spec (ws := wsX10_mayBe) B.pre, B.notSynchronized⟩
  obtain ⟨hx, hb, hr, hml, hown, hts, hlk⟩ := id C0
  have hl := lv_entry ([.ref (g 0), .int p0, .int p1, .int p2]) (n := 8) (Nat.le_of_ble_eq_true rfl)
  rw [lg_entry_eq]
  generalize (lg_sl ([.ref (g 0), .int p0, .int p1, .int p2]) ++ List.replicate (8 - (lg_sl ([.ref (g 0), .int p0, .int p1, .int p2])).length) Slot.unset).toArray = ls at hl ⊢
  have hl : lv_has ls 8 [(0, .ref (g 0)), (1, .int p0), (2, .int p1), (3, .int p2)] := hl
  rw [fX10_mayBe] at hf
  refine lv_iconst (v := 0) hx hb dX10_mayBe_0 (by decide) ?_
  refine lv_istore (lv' := [(4, .int 0), (0, .ref (g 0)), (1, .int p0), (2, .int p1), (3, .int p2)]) hx hb dX10_mayBe_1 hl (by decide) rfl (fun ls hl => ?_)
  refine lv_iconst (v := 0) hx hb dX10_mayBe_3 (by decide) ?_
  refine lv_istore (lv' := [(5, .int 0), (4, .int 0), (0, .ref (g 0)), (1, .int p0), (2, .int p1), (3, .int p2)]) hx hb dX10_mayBe_4 hl (by decide) rfl (fun ls hl => ?_)
  refine bX10_mayBe_L6 C0 ?_ 50 σ p0 p1 p2 0 0 _ _ _ hf I (lv_sub hl [2, 3, 4, 5, 1, 0] rfl)
  · intro σ6 a7 a8 a9 a10 H locs ls hf I hl
    refine lv_iload hx hb dX10_mayBe_44 (lv_at hl 4 rfl) ?_
    refine lv_iconst (v := 1) hx hb dX10_mayBe_46 (by decide) ?_
    refine lv_icmp_gt (tgt := 73) hx hb dX10_mayBe_47 (by decide) (fun c11 => ?_) (fun c11 => ?_)
    · have hf := i_t c11 hf
      refine lv_iconst (v := 0) hx hb dX10_mayBe_73 (by decide) ?_
      exact j_iret I hx hb hr rfl hlk hf dX10_mayBe_74
    · have hf := i_f c11 hf
      refine lv_iload hx hb dX10_mayBe_50 (lv_at hl 4 rfl) ?_
      refine lv_iconst (v := 1) hx hb dX10_mayBe_52 (by decide) ?_
      refine lv_icmp_ne (tgt := 75) hx hb dX10_mayBe_53 (by decide) (fun c12 => ?_) (fun c12 => ?_)
      · have hf := i_f c12 hf
        refine lv_iconst (v := 0) hx hb dX10_mayBe_75 (by decide) ?_
        refine lv_istore (lv' := [(5, .int 0), (0, .ref (g 0)), (1, .int a7), (2, .int a8), (3, .int a9), (4, .int a10)]) hx hb dX10_mayBe_76 hl (by decide) rfl (fun ls hl => ?_)
        refine bX10_mayBe_L78 C0 50 σ6 a7 a8 a9 0 _ _ _ hf I (lv_sub hl [1, 2, 3, 4, 0] rfl)
      · have hf := i_t c12 hf
        refine lv_aload_n hx hb dX10_mayBe_56 rfl (lv_at hl 0 rfl) ?_
        refine j_get I hx hb hts iw_X10_mayBe_X10 hown 0 (by decide) (km0 g Y _) rfl 30 (by decide) (hts (.fieldLink RX10 90 "ReelNightModel" "trial" "[I") (by decide +kernel)) rfl dX10_mayBe_57 ?_
        refine lv_bipush (v := 6) hx hb dX10_mayBe_60 (by decide) ?_
        refine lv_iload_n hx hb dX10_mayBe_62 rfl (lv_at hl 3 rfl) ?_
        refine lv_iconst (v := 1) hx hb dX10_mayBe_63 (by decide) ?_
        refine lv_isub hx hb dX10_mayBe_64 ?_
        refine lv_imul hx hb dX10_mayBe_65 ?_
        refine lv_iload_n hx hb dX10_mayBe_66 rfl (lv_at hl 2 rfl) ?_
        refine lv_iadd hx hb dX10_mayBe_67 ?_
        obtain ⟨b33, hf⟩ := o_nb hf
        refine j_ald I hx hb 24 (by decide) (km24 g Y _) b33 dX10_mayBe_68 ?_
        refine lv_iload_n hx hb dX10_mayBe_69 rfl (lv_at hl 1 rfl) ?_
        refine lv_icmp_eq (tgt := 75) hx hb dX10_mayBe_70 (by decide) (fun c34 => ?_) (fun c34 => ?_)
        · have hf := i_t c34 hf
          refine lv_iconst (v := 0) hx hb dX10_mayBe_75 (by decide) ?_
          refine lv_istore (lv' := [(5, .int 0), (0, .ref (g 0)), (1, .int a7), (2, .int a8), (3, .int a9), (4, .int a10)]) hx hb dX10_mayBe_76 hl (by decide) rfl (fun ls hl => ?_)
          refine bX10_mayBe_L78 C0 50 σ6 a7 a8 a9 0 _ _ _ hf I (lv_sub hl [1, 2, 3, 4, 0] rfl)
        · have hf := i_f c34 hf
          refine lv_iconst (v := 0) hx hb dX10_mayBe_73 (by decide) ?_
          exact j_iret I hx hb hr rfl hlk hf dX10_mayBe_74

theorem iw_X10_worthOf_X10 : ∀ w ∈ u_ws RX10 TX10 37, w ∈ wsX10_worthOf := by decide +kernel
set_option maxHeartbeats 4000000 in
set_option maxRecDepth 100000 in
theorem ct_X10_worthOf {l : Launch} {D : va_G} {g : Nat → Nat} {Y : YT} {bP : Nat} (σ : St) (p0 : Int32) (p1 : Int32) (p2 : Int32) (res : St × Int32) (hf : fX10_worthOf σ p0 p1 p2 = some res) : Ci l yX10_worthOf wsX10_worthOf ⟨0, 0, 0, 0⟩ D 27 g (KM g Y) Y bP [.ref (g 0), .int p0, .int p1, .int p2] σ res := by
  intro sz
  refine Met.ofW (cc := cX10_worthOf) (maxL := 5) (ret := (some .int)) (by decide) rfl ?_
  intro p e s m args below meth c s₁ B hml hv
  obtain ⟨rfl, rfl, I⟩ := j_start hv
  have C0 : MC p s m _ meth c cX10_worthOf 5 (some .int) RX10 wsX10_worthOf := ⟨B.exec, B.bytes, B.returns, hml, findClass_of_methodNamed B.named, atoms_spec (ws := wsX10_worthOf) B.pre, B.notSynchronized⟩
  obtain ⟨hx, hb, hr, hml, hown, hts, hlk⟩ := id C0
  have hl := lv_entry ([.ref (g 0), .int p0, .int p1, .int p2]) (n := 5) (Nat.le_of_ble_eq_true rfl)
  rw [lg_entry_eq]
  generalize (lg_sl ([.ref (g 0), .int p0, .int p1, .int p2]) ++ List.replicate (5 - (lg_sl ([.ref (g 0), .int p0, .int p1, .int p2])).length) Slot.unset).toArray = ls at hl ⊢
  have hl : lv_has ls 5 [(0, .ref (g 0)), (1, .int p0), (2, .int p1), (3, .int p2)] := hl
  rw [fX10_worthOf] at hf
  refine lv_aload_n hx hb dX10_worthOf_0 rfl (lv_at hl 0 rfl) ?_
  refine j_get I hx hb hts iw_X10_worthOf_X10 hown 0 (by decide) (km0 g Y _) rfl 14 (by decide) (hts (.fieldLink RX10 40 "ReelNightModel" "worths" "[I") (by decide +kernel)) rfl dX10_worthOf_1 ?_
  refine lv_bipush (v := 6) hx hb dX10_worthOf_4 (by decide) ?_
  refine lv_iload_n hx hb dX10_worthOf_6 rfl (lv_at hl 1 rfl) ?_
  refine lv_imul hx hb dX10_worthOf_7 ?_
  refine lv_iload_n hx hb dX10_worthOf_8 rfl (lv_at hl 2 rfl) ?_
  refine lv_iadd hx hb dX10_worthOf_9 ?_
  obtain ⟨b1, hf⟩ := o_nb hf
  refine j_ald I hx hb 11 (by decide) (km11 g Y _) b1 dX10_worthOf_10 ?_
  obtain ⟨v2, ev2, hf⟩ := o_itp hf
  refine top_eq ev2 ?_
  refine lv_istore (lv' := [(4, .int v2), (0, .ref (g 0)), (1, .int p0), (2, .int p1), (3, .int p2)]) hx hb dX10_worthOf_11 hl (by decide) rfl (fun ls hl => ?_)
  refine lv_iload_n hx hb dX10_worthOf_13 rfl (lv_at hl 4 rfl) ?_
  refine lv_if_le (tgt := 41) hx hb dX10_worthOf_14 (by decide) (fun c3 => ?_) (fun c3 => ?_)
  · have hf := i_t c3 hf
    refine lv_iload hx hb dX10_worthOf_41 (lv_at hl 0 rfl) ?_
    exact j_iret I hx hb hr rfl hlk hf dX10_worthOf_43
  · have hf := i_f c3 hf
    refine lv_aload_n hx hb dX10_worthOf_17 rfl (lv_at hl 1 rfl) ?_
    refine j_get I hx hb hts iw_X10_worthOf_X10 hown 0 (by decide) (km0 g Y _) rfl 30 (by decide) (hts (.fieldLink RX10 90 "ReelNightModel" "trial" "[I") (by decide +kernel)) rfl dX10_worthOf_18 ?_
    refine lv_bipush (v := 6) hx hb dX10_worthOf_21 (by decide) ?_
    refine lv_iload_n hx hb dX10_worthOf_23 rfl (lv_at hl 4 rfl) ?_
    refine lv_iconst (v := 1) hx hb dX10_worthOf_24 (by decide) ?_
    refine lv_isub hx hb dX10_worthOf_25 ?_
    refine lv_imul hx hb dX10_worthOf_26 ?_
    refine lv_iload_n hx hb dX10_worthOf_27 rfl (lv_at hl 3 rfl) ?_
    refine lv_iadd hx hb dX10_worthOf_28 ?_
    obtain ⟨b4, hf⟩ := o_nb hf
    refine j_ald I hx hb 24 (by decide) (km24 g Y _) b4 dX10_worthOf_29 ?_
    refine lv_iload_n hx hb dX10_worthOf_30 rfl (lv_at hl 2 rfl) ?_
    refine lv_icmp_ne (tgt := 41) hx hb dX10_worthOf_31 (by decide) (fun c5 => ?_) (fun c5 => ?_)
    · have hf := i_f c5 hf
      refine lv_iload hx hb dX10_worthOf_41 (lv_at hl 0 rfl) ?_
      exact j_iret I hx hb hr rfl hlk hf dX10_worthOf_43
    · have hf := i_t c5 hf
      refine lv_iload hx hb dX10_worthOf_34 (lv_at hl 0 rfl) ?_
      refine lv_iconst (v := 2) hx hb dX10_worthOf_36 (by decide) ?_
      refine lv_idiv hx hb dX10_worthOf_37 (by decide) ?_
      refine lv_goto (tgt := 43) hx hb dX10_worthOf_38 (by decide) ?_
      exact j_iret I hx hb hr rfl hlk hf dX10_worthOf_43
