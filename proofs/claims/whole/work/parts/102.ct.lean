theorem iw_X2_endedAt_X2 : ∀ w ∈ u_ws RX2 TX2 11, w ∈ wsX2_endedAt := by decide +kernel
set_option maxHeartbeats 4000000 in
set_option maxRecDepth 100000 in
theorem ct_X2_endedAt {l : Launch} {D : va_G} {g : Nat → Nat} {Y : YT} {bP : Nat} (σ : St) (p0 : Int32) (p1 : Int32) (res : St × Int32) (hf : fX2_endedAt σ p0 p1 = some res) : Ci l yX2_endedAt wsX2_endedAt ⟨2, 0, 0, 34⟩ D 44 g (KC g Y) Y bP [.ref (g 3), .int p0, .int p1] σ res := by
  intro sz
  refine Met.ofW (cc := cX2_endedAt) (maxL := 3) (ret := (some .int)) (by decide) rfl ?_
  intro p e s m args below meth c s₁ B hml hv
  obtain ⟨rfl, rfl, I⟩ := j_start hv
  have C0 : MC p s m _ meth c cX2_endedAt 3 (some .int) RX2 wsX2_endedAt := ⟨B.exec, B.bytes, B.returns, hml, findClass_of_methodNamed B.named, atoms_spec (ws := wsX2_endedAt) B.pre, B.notSynchronized⟩
  obtain ⟨hx, hb, hr, hml, hown, hts, hlk⟩ := id C0
  have hl := lv_entry ([.ref (g 3), .int p0, .int p1]) (n := 3) (Nat.le_of_ble_eq_true rfl)
  rw [lg_entry_eq]
  generalize (lg_sl ([.ref (g 3), .int p0, .int p1]) ++ List.replicate (3 - (lg_sl ([.ref (g 3), .int p0, .int p1])).length) Slot.unset).toArray = ls at hl ⊢
  have hl : lv_has ls 3 [(0, .ref (g 3)), (1, .int p0), (2, .int p1)] := hl
  rw [fX2_endedAt] at hf
  refine lv_aload_n hx hb dX2_endedAt_0 rfl (lv_at hl 0 rfl) ?_
  refine j_get I hx hb hts iw_X2_endedAt_X2 hown 3 (by decide) (kc3 g Y _) rfl 8 (by decide) (hts (.fieldLink RX2 28 "ReelNight$Night" "begins" "[I") (by decide +kernel)) rfl dX2_endedAt_1 ?_
  refine lv_iload_n hx hb dX2_endedAt_4 rfl (lv_at hl 1 rfl) ?_
  refine lv_iload_n hx hb dX2_endedAt_5 rfl (lv_at hl 2 rfl) ?_
  obtain ⟨σ1, r2, h3, hf⟩ := o_obn hf
  refine j_iS (rest := [.ref (g 23)]) I ⟨hx, hb, hml, hown, hts⟩ (ct_X2_cell σ p0 p1 _ h3) (va_cwS 2 hts gX2_endedAt_X2_cell rfl rfl rfl (by decide +kernel) ⟨Nat.le_of_ble_eq_true rfl, Nat.le_of_ble_eq_true rfl⟩) rfl hl.1 rfl (Nat.le_of_ble_eq_true rfl) dX2_endedAt_6 ⟨Nat.zero_le _, Nat.zero_le _⟩ (fun H locs I => ?_)
  obtain ⟨b4, hf⟩ := o_nb hf
  refine j_ald I hx hb 23 (by decide) (kc23 g Y _) b4 dX2_endedAt_9 ?_
  refine lv_aload_n hx hb dX2_endedAt_10 rfl (lv_at hl 0 rfl) ?_
  refine j_get I hx hb hts iw_X2_endedAt_X2 hown 3 (by decide) (kc3 g Y _) rfl 1 (by decide) (hts (.fieldLink RX2 41 "ReelNight$Night" "reels" "LReelNight$Reels;") (by decide +kernel)) rfl dX2_endedAt_11 ?_
  refine lv_iload_n hx hb dX2_endedAt_14 rfl (lv_at hl 2 rfl) ?_
  obtain ⟨σ5, r6, h7, hf⟩ := o_obn hf
  refine j_iV (rest := [.int (σ1 23 r2.toNatClampNeg)]) I ⟨hx, hb, hml, hown, hts⟩ (ct_X5_minutes σ1 p1 _ h7) (cwV 1 hts gX2_endedAt_X5_minutes rfl rfl rfl (by decide +kernel) ⟨Nat.le_of_ble_eq_true rfl, Nat.le_of_ble_eq_true rfl⟩) (by decide) (kc2 g Y _) rfl rfl hl.1 rfl (Nat.le_of_ble_eq_true rfl) dX2_endedAt_15 ⟨Nat.zero_le _, Nat.zero_le _⟩ (fun H locs I => ?_)
  refine lv_iadd hx hb dX2_endedAt_18 ?_
  exact j_iret I hx hb hr rfl hlk hf dX2_endedAt_19

theorem iw_X2_comesTo_X2 : ∀ w ∈ u_ws RX2 TX2 11, w ∈ wsX2_comesTo := fun _ h => List.mem_cons_of_mem _ (List.mem_append_left _ (List.mem_append_left _ (List.mem_append_left _ (List.mem_append_right _ h))))
set_option maxHeartbeats 4000000 in
set_option maxRecDepth 100000 in
theorem ct_X2_comesTo {l : Launch} {D : va_G} {g : Nat → Nat} {Y : YT} {bP : Nat} (σ : St) (p0 : Int32) (p1 : Int32) (res : St × Int32) (hf : fX2_comesTo σ p0 p1 = some res) : Ci l yX2_comesTo wsX2_comesTo ⟨3, 0, 0, 56⟩ D 44 g (KC g Y) Y bP [.ref (g 3), .int p0, .int p1] σ res := by
  intro sz
  refine Met.ofW (cc := cX2_comesTo) (maxL := 3) (ret := (some .int)) (by decide) rfl ?_
  intro p e s m args below meth c s₁ B hml hv
  obtain ⟨rfl, rfl, I⟩ := j_start hv
  have C0 : MC p s m _ meth c cX2_comesTo 3 (some .int) RX2 wsX2_comesTo := ⟨B.exec, B.bytes, B.returns, hml, findClass_of_methodNamed B.named, atoms_spec (ws := wsX2_comesTo) B.pre, B.notSynchronized⟩
  obtain ⟨hx, hb, hr, hml, hown, hts, hlk⟩ := id C0
  have hl := lv_entry ([.ref (g 3), .int p0, .int p1]) (n := 3) (Nat.le_of_ble_eq_true rfl)
  rw [lg_entry_eq]
  generalize (lg_sl ([.ref (g 3), .int p0, .int p1]) ++ List.replicate (3 - (lg_sl ([.ref (g 3), .int p0, .int p1])).length) Slot.unset).toArray = ls at hl ⊢
  have hl : lv_has ls 3 [(0, .ref (g 3)), (1, .int p0), (2, .int p1)] := hl
  rw [fX2_comesTo] at hf
  refine lv_iload_n hx hb dX2_comesTo_0 rfl (lv_at hl 1 rfl) ?_
  refine lv_if_ne (tgt := 8) hx hb dX2_comesTo_1 (by decide) (fun c1 => ?_) (fun c1 => ?_)
  · have hf := i_f c1 hf
    refine lv_aload_n hx hb dX2_comesTo_8 rfl (lv_at hl 0 rfl) ?_
    refine lv_iload_n hx hb dX2_comesTo_9 rfl (lv_at hl 1 rfl) ?_
    refine lv_iconst (v := 1) hx hb dX2_comesTo_10 (by decide) ?_
    refine lv_isub hx hb dX2_comesTo_11 ?_
    refine lv_iload_n hx hb dX2_comesTo_12 rfl (lv_at hl 2 rfl) ?_
    obtain ⟨σ2, r3, h4, hf⟩ := o_obn hf
    refine j_iV (rest := []) I ⟨hx, hb, hml, hown, hts⟩ (ct_X2_endedAt σ (p0 - 1) p1 _ h4) (cwV 2 hts gX2_comesTo_X2_endedAt rfl rfl rfl (by decide +kernel) ⟨Nat.le_of_ble_eq_true rfl, Nat.le_of_ble_eq_true rfl⟩) (by decide) (kc3 g Y _) rfl rfl hl.1 rfl (Nat.le_of_ble_eq_true rfl) dX2_comesTo_13 ⟨Nat.zero_le _, Nat.zero_le _⟩ (fun H locs I => ?_)
    refine lv_aload_n hx hb dX2_comesTo_16 rfl (lv_at hl 0 rfl) ?_
    refine lv_iload_n hx hb dX2_comesTo_17 rfl (lv_at hl 1 rfl) ?_
    obtain ⟨σ5, r6, h7, hf⟩ := o_obn hf
    refine j_iV (rest := [.int r3]) I ⟨hx, hb, hml, hown, hts⟩ (ct_X2_wayTo σ2 p0 _ h7) (cwV 1 hts gX2_comesTo_X2_wayTo rfl rfl rfl (by decide +kernel) ⟨Nat.le_of_ble_eq_true rfl, Nat.le_of_ble_eq_true rfl⟩) (by decide) (kc3 g Y _) rfl rfl hl.1 rfl (Nat.le_of_ble_eq_true rfl) dX2_comesTo_18 ⟨Nat.zero_le _, Nat.zero_le _⟩ (fun H locs I => ?_)
    refine lv_iadd hx hb dX2_comesTo_21 ?_
    refine lv_aload_n hx hb dX2_comesTo_22 rfl (lv_at hl 0 rfl) ?_
    refine j_get I hx hb hts iw_X2_comesTo_X2 hown 3 (by decide) (kc3 g Y _) rfl 4 (by decide) (hts (.fieldLink RX2 15 "ReelNight$Night" "lates" "[I") (by decide +kernel)) rfl dX2_comesTo_23 ?_
    refine lv_aload_n hx hb dX2_comesTo_26 rfl (lv_at hl 0 rfl) ?_
    refine lv_iload_n hx hb dX2_comesTo_27 rfl (lv_at hl 1 rfl) ?_
    refine lv_iload_n hx hb dX2_comesTo_28 rfl (lv_at hl 2 rfl) ?_
    obtain ⟨σ8, r9, h10, hf⟩ := o_obn hf
    refine j_iV (rest := [.ref (g 20), .int (r3 + r6)]) I ⟨hx, hb, hml, hown, hts⟩ (ct_X2_rideOf σ5 p0 p1 _ h10) (cwV 2 hts gX2_comesTo_X2_rideOf rfl rfl rfl (by decide +kernel) ⟨Nat.le_of_ble_eq_true rfl, Nat.le_of_ble_eq_true rfl⟩) (by decide) (kc3 g Y _) rfl rfl hl.1 rfl (Nat.le_of_ble_eq_true rfl) dX2_comesTo_29 ⟨Nat.zero_le _, Nat.zero_le _⟩ (fun H locs I => ?_)
    obtain ⟨b11, hf⟩ := o_nb hf
    refine j_ald I hx hb 20 (by decide) (kc20 g Y _) b11 dX2_comesTo_32 ?_
    refine lv_iadd hx hb dX2_comesTo_33 ?_
    exact j_iret I hx hb hr rfl hlk hf dX2_comesTo_34
  · have hf := i_t c1 hf
    refine lv_iconst (v := 0) hx hb dX2_comesTo_4 (by decide) ?_
    refine lv_goto (tgt := 34) hx hb dX2_comesTo_5 (by decide) ?_
    exact j_iret I hx hb hr rfl hlk hf dX2_comesTo_34

theorem iw_X2_causeOf_X2 : ∀ w ∈ u_ws RX2 TX2 11, w ∈ wsX2_causeOf := by decide +kernel
set_option maxHeartbeats 4000000 in
set_option maxRecDepth 100000 in
theorem bX2_causeOf_L41 {p : Program} {l : Launch} {e : Env} {s : State} {m : MethodId} {args : Array Value} {below : List Frame} {meth : Method} {c : Code} {D : va_G} {g : Nat → Nat} {Y : YT} {bP : Nat} {σ0 : St} {res : St × Int32} (C0 : MC p s m args meth c cX2_causeOf 6 (some .int) RX2 wsX2_causeOf) : ∀ (n : Nat) (σ : St) (a1 : Int32) (a4 : Int32) (H : Heap) (locs : List Loc) (ls : Array Slot), fX2_causeOf_L41 n σ a1 a4 = some res → JW D 44 g (KC g Y) Y bP (va_A (wd 44 g (KC g Y) σ0) s.heap.size) s σ H locs → lv_has ls 6 [(0, .ref (g 3)), (1, .int a1), (4, .int a4)] → W p l e (⟨1, 0, 0, 22⟩ : Room) s m args below meth c H locs 0 0 (MQ below (Qi D 44 g (KC g Y) Y σ0 res s.heap.size) args s 0 0 (va_A (wd 44 g (KC g Y) σ0) s.heap.size)) (F0 m 41 ls []) := by
  have C0 := C0
  obtain ⟨hx, hb, hr, hml, hown, hts, hlk⟩ := id C0
  intro n
  induction n with
  | zero =>
    intro σ a1 a4 H locs ls hf
    cases hf
  | succ n ih =>
    intro σ a1 a4 H locs ls hf I hl
    rw [fX2_causeOf_L41] at hf
    refine lv_iload hx hb dX2_causeOf_41 (lv_at hl 2 rfl) ?_
    refine lv_if_lt (tgt := 77) hx hb dX2_causeOf_43 (by decide) (fun c12 => ?_) (fun c12 => ?_)
    · have hf := i_t c12 hf
      refine lv_ldc hx hb hown (hts (.constant RX2 127 (-1000000005)) (by decide +kernel)) dX2_causeOf_77 ?_
      exact j_iret I hx hb hr rfl hlk hf dX2_causeOf_79
    · have hf := i_f c12 hf
      refine lv_aload_n hx hb dX2_causeOf_46 rfl (lv_at hl 0 rfl) ?_
      refine j_get I hx hb hts iw_X2_causeOf_X2 hown 3 (by decide) (kc3 g Y _) rfl 10 (by decide) (hts (.fieldLink RX2 34 "ReelNight$Night" "causes" "[I") (by decide +kernel)) rfl dX2_causeOf_47 ?_
      refine lv_iload_n hx hb dX2_causeOf_50 rfl (lv_at hl 1 rfl) ?_
      refine lv_iconst (v := 1) hx hb dX2_causeOf_51 (by decide) ?_
      refine lv_isub hx hb dX2_causeOf_52 ?_
      refine lv_iload hx hb dX2_causeOf_53 (lv_at hl 2 rfl) ?_
      obtain ⟨σ13, r14, h15, hf⟩ := o_obn hf
      refine j_iS (rest := [.ref (g 25)]) I ⟨hx, hb, hml, hown, hts⟩ (ct_X2_cell σ (a1 - 1) a4 _ h15) (va_cwS 2 hts gX2_causeOf_X2_cell rfl rfl rfl (by decide +kernel) ⟨Nat.le_of_ble_eq_true rfl, Nat.le_of_ble_eq_true rfl⟩) rfl hl.1 rfl (Nat.le_of_ble_eq_true rfl) dX2_causeOf_55 ⟨Nat.zero_le _, Nat.zero_le _⟩ (fun H locs I => ?_)
      obtain ⟨b16, hf⟩ := o_nb hf
      refine j_ald I hx hb 25 (by decide) (kc25 g Y _) b16 dX2_causeOf_58 ?_
      obtain ⟨v17, ev17, hf⟩ := o_itp hf
      refine top_eq ev17 ?_
      refine lv_istore (lv' := [(5, .int v17), (0, .ref (g 3)), (1, .int a1), (4, .int a4)]) hx hb dX2_causeOf_59 hl (by decide) rfl (fun ls hl => ?_)
      refine lv_iload hx hb dX2_causeOf_61 (lv_at hl 0 rfl) ?_
      refine lv_ldc hx hb hown (hts (.constant RX2 127 (-1000000005)) (by decide +kernel)) dX2_causeOf_63 ?_
      refine lv_icmp_eq (tgt := 71) hx hb dX2_causeOf_65 (by decide) (fun c18 => ?_) (fun c18 => ?_)
      · have hf := i_t c18 hf
        refine lv_iinc (v := (a4 + (-1))) (lv' := [(4, .int (a4 + (-1))), (5, .int v17), (0, .ref (g 3)), (1, .int a1)]) hx hb dX2_causeOf_71 hl (k := 3) rfl rfl (by decide) rfl (fun ls hl => ?_)
        refine lv_goto (tgt := 41) hx hb dX2_causeOf_74 (by decide) ?_
        exact ih σ13 a1 (a4 + (-1)) _ _ _ hf I (lv_sub hl [2, 3, 0] rfl)
      · have hf := i_f c18 hf
        refine lv_iload hx hb dX2_causeOf_68 (lv_at hl 0 rfl) ?_
        exact j_iret I hx hb hr rfl hlk hf dX2_causeOf_70
set_option maxHeartbeats 4000000 in
set_option maxRecDepth 100000 in
theorem ct_X2_causeOf {l : Launch} {D : va_G} {g : Nat → Nat} {Y : YT} {bP : Nat} (σ : St) (p0 : Int32) (p1 : Int32) (res : St × Int32) (hf : fX2_causeOf σ p0 p1 = some res) : Ci l yX2_causeOf wsX2_causeOf ⟨1, 0, 0, 22⟩ D 44 g (KC g Y) Y bP [.ref (g 3), .int p0, .int p1] σ res := by
  intro sz
  refine Met.ofW (cc := cX2_causeOf) (maxL := 6) (ret := (some .int)) (by decide) rfl ?_
  intro p e s m args below meth c s₁ B hml hv
  obtain ⟨rfl, rfl, I⟩ := j_start hv
  have C0 : MC p s m _ meth c cX2_causeOf 6 (some .int) RX2 wsX2_causeOf := ⟨B.exec, B.bytes, B.returns, hml, findClass_of_methodNamed B.named, atoms_spec (ws := wsX2_causeOf) B.pre, B.notSynchronized⟩
  obtain ⟨hx, hb, hr, hml, hown, hts, hlk⟩ := id C0
  have hl := lv_entry ([.ref (g 3), .int p0, .int p1]) (n := 6) (Nat.le_of_ble_eq_true rfl)
  rw [lg_entry_eq]
  generalize (lg_sl ([.ref (g 3), .int p0, .int p1]) ++ List.replicate (6 - (lg_sl ([.ref (g 3), .int p0, .int p1])).length) Slot.unset).toArray = ls at hl ⊢
  have hl : lv_has ls 6 [(0, .ref (g 3)), (1, .int p0), (2, .int p1)] := hl
  rw [fX2_causeOf] at hf
  refine lv_iload_n hx hb dX2_causeOf_0 rfl (lv_at hl 1 rfl) ?_
  refine lv_if_eq (tgt := 17) hx hb dX2_causeOf_1 (by decide) (fun c1 => ?_) (fun c1 => ?_)
  · have hf := i_t c1 hf
    refine lv_ldc hx hb hown (hts (.constant RX2 127 (-1000000005)) (by decide +kernel)) dX2_causeOf_17 ?_
    exact j_iret I hx hb hr rfl hlk hf dX2_causeOf_19
  · have hf := i_f c1 hf
    refine lv_aload_n hx hb dX2_causeOf_4 rfl (lv_at hl 0 rfl) ?_
    refine j_get I hx hb hts iw_X2_causeOf_X2 hown 3 (by decide) (kc3 g Y _) rfl 9 (by decide) (hts (.fieldLink RX2 31 "ReelNight$Night" "gaps" "[I") (by decide +kernel)) rfl dX2_causeOf_5 ?_
    refine lv_iload_n hx hb dX2_causeOf_8 rfl (lv_at hl 1 rfl) ?_
    refine lv_iload_n hx hb dX2_causeOf_9 rfl (lv_at hl 2 rfl) ?_
    obtain ⟨σ2, r3, h4, hf⟩ := o_obn hf
    refine j_iS (rest := [.ref (g 24)]) I ⟨hx, hb, hml, hown, hts⟩ (ct_X2_cell σ p0 p1 _ h4) (va_cwS 2 hts gX2_causeOf_X2_cell rfl rfl rfl (by decide +kernel) ⟨Nat.le_of_ble_eq_true rfl, Nat.le_of_ble_eq_true rfl⟩) rfl hl.1 rfl (Nat.le_of_ble_eq_true rfl) dX2_causeOf_10 ⟨Nat.zero_le _, Nat.zero_le _⟩ (fun H locs I => ?_)
    obtain ⟨b5, hf⟩ := o_nb hf
    refine j_ald I hx hb 24 (by decide) (kc24 g Y _) b5 dX2_causeOf_13 ?_
    refine lv_if_ne (tgt := 20) hx hb dX2_causeOf_14 (by decide) (fun c6 => ?_) (fun c6 => ?_)
    · have hf := i_f c6 hf
      refine lv_aload_n hx hb dX2_causeOf_20 rfl (lv_at hl 0 rfl) ?_
      refine lv_iload_n hx hb dX2_causeOf_21 rfl (lv_at hl 1 rfl) ?_
      refine lv_iload_n hx hb dX2_causeOf_22 rfl (lv_at hl 2 rfl) ?_
      obtain ⟨σ7, r8, h9, hf⟩ := o_obn hf
      refine j_iV (rest := []) I ⟨hx, hb, hml, hown, hts⟩ (ct_X2_rideOf σ2 p0 p1 _ h9) (cwV 2 hts gX2_causeOf_X2_rideOf rfl rfl rfl (by decide +kernel) ⟨Nat.le_of_ble_eq_true rfl, Nat.le_of_ble_eq_true rfl⟩) (by decide) (kc3 g Y _) rfl rfl hl.1 rfl (Nat.le_of_ble_eq_true rfl) dX2_causeOf_23 ⟨Nat.zero_le _, Nat.zero_le _⟩ (fun H locs I => ?_)
      refine lv_istore_n (lv' := [(3, .int r8), (0, .ref (g 3)), (1, .int p0), (2, .int p1)]) hx hb dX2_causeOf_26 rfl hl (by decide) rfl (fun ls hl => ?_)
      refine lv_aload_n hx hb dX2_causeOf_27 rfl (lv_at hl 1 rfl) ?_
      refine j_get I hx hb hts iw_X2_causeOf_X2 hown 3 (by decide) (kc3 g Y _) rfl 4 (by decide) (hts (.fieldLink RX2 15 "ReelNight$Night" "lates" "[I") (by decide +kernel)) rfl dX2_causeOf_28 ?_
      refine lv_iload_n hx hb dX2_causeOf_31 rfl (lv_at hl 0 rfl) ?_
      obtain ⟨b10, hf⟩ := o_nb hf
      refine j_ald I hx hb 20 (by decide) (kc20 g Y _) b10 dX2_causeOf_32 ?_
      refine lv_if_le (tgt := 38) hx hb dX2_causeOf_33 (by decide) (fun c11 => ?_) (fun c11 => ?_)
      · have hf := i_t c11 hf
        refine lv_iload_n hx hb dX2_causeOf_38 rfl (lv_at hl 3 rfl) ?_
        refine lv_istore (lv' := [(4, .int p1), (3, .int r8), (0, .ref (g 3)), (1, .int p0), (2, .int p1)]) hx hb dX2_causeOf_39 hl (by decide) rfl (fun ls hl => ?_)
        refine bX2_causeOf_L41 C0 50 σ7 p0 p1 _ _ _ hf I (lv_sub hl [2, 3, 0] rfl)
      · have hf := i_f c11 hf
        refine lv_iload_n hx hb dX2_causeOf_36 rfl (lv_at hl 0 rfl) ?_
        exact j_iret I hx hb hr rfl hlk hf dX2_causeOf_37
    · have hf := i_t c6 hf
      refine lv_ldc hx hb hown (hts (.constant RX2 127 (-1000000005)) (by decide +kernel)) dX2_causeOf_17 ?_
      exact j_iret I hx hb hr rfl hlk hf dX2_causeOf_19

theorem iw_X2_reckonShow_X2 : ∀ w ∈ u_ws RX2 TX2 11, w ∈ wsX2_reckonShow := fun _ h => List.mem_cons_of_mem _ (List.mem_append_left _ (List.mem_append_left _ (List.mem_append_left _ (List.mem_append_right _ h))))
theorem iw_X2_reckonShow_X5 : ∀ w ∈ u_ws RX5 TX5 3, w ∈ wsX2_reckonShow := fun _ h => List.mem_cons_of_mem _ (List.mem_append_left _ (List.mem_append_left _ (List.mem_append_right _ h)))
set_option maxHeartbeats 4000000 in
set_option maxRecDepth 100000 in
theorem bX2_reckonShow_L9 {p : Program} {l : Launch} {e : Env} {s : State} {m : MethodId} {args : Array Value} {below : List Frame} {meth : Method} {c : Code} {D : va_G} {g : Nat → Nat} {Y : YT} {bP : Nat} {σ0 : St} {res : St × Int32} (C0 : MC p s m args meth c cX2_reckonShow 5 none RX2 wsX2_reckonShow) : ∀ (n : Nat) (σ : St) (a1 : Int32) (a2 : Int32) (a3 : Int32) (H : Heap) (locs : List Loc) (ls : Array Slot), fX2_reckonShow_L9 n σ a1 a2 a3 = some res → JW D 44 g (KC g Y) Y bP (va_A (wd 44 g (KC g Y) σ0) s.heap.size) s σ H locs → lv_has ls 5 [(0, .ref (g 3)), (1, .int a1), (2, .int a2), (3, .int a3)] → W p l e (⟨4, 0, 0, 78⟩ : Room) s m args below meth c H locs 0 0 (MQ below (Qv D 44 g (KC g Y) Y σ0 res s.heap.size) args s 0 0 (va_A (wd 44 g (KC g Y) σ0) s.heap.size)) (F0 m 9 ls []) := by
  have C0 := C0
  obtain ⟨hx, hb, hr, hml, hown, hts, hlk⟩ := id C0
  intro n
  induction n with
  | zero =>
    intro σ a1 a2 a3 H locs ls hf
    cases hf
  | succ n ih =>
    intro σ a1 a2 a3 H locs ls hf I hl
    rw [fX2_reckonShow_L9] at hf
    refine lv_iload_n hx hb dX2_reckonShow_9 rfl (lv_at hl 3 rfl) ?_
    refine lv_aload_n hx hb dX2_reckonShow_10 rfl (lv_at hl 0 rfl) ?_
    refine j_get I hx hb hts iw_X2_reckonShow_X2 hown 3 (by decide) (kc3 g Y _) rfl 1 (by decide) (hts (.fieldLink RX2 41 "ReelNight$Night" "reels" "LReelNight$Reels;") (by decide +kernel)) rfl dX2_reckonShow_11 ?_
    refine j_getN I hx hb hts iw_X2_reckonShow_X5 hown 2 (by decide) (kc2 g Y _) rfl 2 (by decide) (by decide +kernel) rfl dX2_reckonShow_14 ?_
    refine lv_icmp_ge (tgt := 110) hx hb dX2_reckonShow_17 (by decide) (fun c3 => ?_) (fun c3 => ?_)
    · have hf := i_t c3 hf
      exact j_vret I hx hb hr hlk hf dX2_reckonShow_110
    · have hf := i_f c3 hf
      refine lv_iload_n hx hb dX2_reckonShow_20 rfl (lv_at hl 1 rfl) ?_
      refine lv_iload_n hx hb dX2_reckonShow_21 rfl (lv_at hl 3 rfl) ?_
      obtain ⟨σ4, r5, h6, hf⟩ := o_obn hf
      refine j_iS (rest := []) I ⟨hx, hb, hml, hown, hts⟩ (ct_X2_cell σ a1 a3 _ h6) (va_cwS 2 hts gX2_reckonShow_X2_cell rfl rfl rfl (by decide +kernel) ⟨Nat.le_of_ble_eq_true rfl, Nat.le_of_ble_eq_true rfl⟩) rfl hl.1 rfl (Nat.le_of_ble_eq_true rfl) dX2_reckonShow_22 ⟨Nat.zero_le _, Nat.zero_le _⟩ (fun H locs I => ?_)
      refine lv_istore (lv' := [(4, .int r5), (0, .ref (g 3)), (1, .int a1), (2, .int a2), (3, .int a3)]) hx hb dX2_reckonShow_25 hl (by decide) rfl (fun ls hl => ?_)
      refine lv_aload_n hx hb dX2_reckonShow_27 rfl (lv_at hl 1 rfl) ?_
      refine j_get I hx hb hts iw_X2_reckonShow_X2 hown 3 (by decide) (kc3 g Y _) rfl 7 (by decide) (hts (.fieldLink RX2 25 "ReelNight$Night" "comes" "[I") (by decide +kernel)) rfl dX2_reckonShow_28 ?_
      refine lv_iload hx hb dX2_reckonShow_31 (lv_at hl 0 rfl) ?_
      refine lv_aload_n hx hb dX2_reckonShow_33 rfl (lv_at hl 1 rfl) ?_
      refine lv_iload_n hx hb dX2_reckonShow_34 rfl (lv_at hl 2 rfl) ?_
      refine lv_iload_n hx hb dX2_reckonShow_35 rfl (lv_at hl 4 rfl) ?_
      obtain ⟨σ7, r8, h9, hf⟩ := o_obn hf
      refine j_iV (rest := [.int r5, .ref (g 22)]) I ⟨hx, hb, hml, hown, hts⟩ (ct_X2_comesTo σ4 a1 a3 _ h9) (cwV 2 hts gX2_reckonShow_X2_comesTo rfl rfl rfl (by decide +kernel) ⟨Nat.le_of_ble_eq_true rfl, Nat.le_of_ble_eq_true rfl⟩) (by decide) (kc3 g Y _) rfl rfl hl.1 rfl (Nat.le_of_ble_eq_true rfl) dX2_reckonShow_36 ⟨Nat.zero_le _, Nat.zero_le _⟩ (fun H locs I => ?_)
      obtain ⟨b10, hf⟩ := o_nb hf
      obtain ⟨σ11, eσ11, hf⟩ := o_stp hf
      refine j_ast I hx hb 22 (by decide) (kc22 g Y) b10 eσ11 dX2_reckonShow_39 (fun H locs I => ?_)
      refine lv_aload_n hx hb dX2_reckonShow_40 rfl (lv_at hl 1 rfl) ?_
      refine j_get I hx hb hts iw_X2_reckonShow_X2 hown 3 (by decide) (kc3 g Y _) rfl 8 (by decide) (hts (.fieldLink RX2 28 "ReelNight$Night" "begins" "[I") (by decide +kernel)) rfl dX2_reckonShow_41 ?_
      refine lv_iload hx hb dX2_reckonShow_44 (lv_at hl 0 rfl) ?_
      refine lv_iload_n hx hb dX2_reckonShow_46 rfl (lv_at hl 3 rfl) ?_
      refine lv_aload_n hx hb dX2_reckonShow_47 rfl (lv_at hl 1 rfl) ?_
      refine j_get I hx hb hts iw_X2_reckonShow_X2 hown 3 (by decide) (kc3 g Y _) rfl 7 (by decide) (hts (.fieldLink RX2 25 "ReelNight$Night" "comes" "[I") (by decide +kernel)) rfl dX2_reckonShow_48 ?_
      refine lv_iload hx hb dX2_reckonShow_51 (lv_at hl 0 rfl) ?_
      obtain ⟨b12, hf⟩ := o_nb hf
      refine j_ald I hx hb 22 (by decide) (kc22 g Y _) b12 dX2_reckonShow_53 ?_
      refine va_mmax hx hb (hml.trans hl.1.symm) hown (hts (.methodLink RX2 113 Lib.Math.max.name) (by decide +kernel)) (hts (.static Lib.Math.max.name) (by decide +kernel)) (hts (.initialized "java/lang/Math") (by decide +kernel)) (hts (.code Lib.Math.max.name Lib.Math.max.code 2 (some .int)) (by decide +kernel)) (Nat.le_of_ble_eq_true rfl) (Nat.le_of_ble_eq_true rfl) (Nat.zero_le _) (Nat.zero_le _) dX2_reckonShow_54 ?_
      obtain ⟨b13, hf⟩ := o_nb hf
      obtain ⟨σ14, eσ14, hf⟩ := o_stp hf
      refine j_ast I hx hb 23 (by decide) (kc23 g Y) b13 eσ14 dX2_reckonShow_57 (fun H locs I => ?_)
      refine lv_aload_n hx hb dX2_reckonShow_58 rfl (lv_at hl 1 rfl) ?_
      refine j_get I hx hb hts iw_X2_reckonShow_X2 hown 3 (by decide) (kc3 g Y _) rfl 9 (by decide) (hts (.fieldLink RX2 31 "ReelNight$Night" "gaps" "[I") (by decide +kernel)) rfl dX2_reckonShow_59 ?_
      refine lv_iload hx hb dX2_reckonShow_62 (lv_at hl 0 rfl) ?_
      refine lv_aload_n hx hb dX2_reckonShow_64 rfl (lv_at hl 1 rfl) ?_
      refine j_get I hx hb hts iw_X2_reckonShow_X2 hown 3 (by decide) (kc3 g Y _) rfl 8 (by decide) (hts (.fieldLink RX2 28 "ReelNight$Night" "begins" "[I") (by decide +kernel)) rfl dX2_reckonShow_65 ?_
      refine lv_iload hx hb dX2_reckonShow_68 (lv_at hl 0 rfl) ?_
      obtain ⟨b15, hf⟩ := o_nb hf
      refine j_ald I hx hb 23 (by decide) (kc23 g Y _) b15 dX2_reckonShow_70 ?_
      refine lv_iload_n hx hb dX2_reckonShow_71 rfl (lv_at hl 3 rfl) ?_
      refine lv_isub hx hb dX2_reckonShow_72 ?_
      obtain ⟨b16, hf⟩ := o_nb hf
      obtain ⟨σ17, eσ17, hf⟩ := o_stp hf
      refine j_ast I hx hb 24 (by decide) (kc24 g Y) b16 eσ17 dX2_reckonShow_73 (fun H locs I => ?_)
      refine lv_aload_n hx hb dX2_reckonShow_74 rfl (lv_at hl 1 rfl) ?_
      refine j_get I hx hb hts iw_X2_reckonShow_X2 hown 3 (by decide) (kc3 g Y _) rfl 10 (by decide) (hts (.fieldLink RX2 34 "ReelNight$Night" "causes" "[I") (by decide +kernel)) rfl dX2_reckonShow_75 ?_
      refine lv_iload hx hb dX2_reckonShow_78 (lv_at hl 0 rfl) ?_
      refine lv_aload_n hx hb dX2_reckonShow_80 rfl (lv_at hl 1 rfl) ?_
      refine lv_iload_n hx hb dX2_reckonShow_81 rfl (lv_at hl 2 rfl) ?_
      refine lv_iload_n hx hb dX2_reckonShow_82 rfl (lv_at hl 4 rfl) ?_
      obtain ⟨σ18, r19, h20, hf⟩ := o_obn hf
      refine j_iV (rest := [.int r5, .ref (g 25)]) I ⟨hx, hb, hml, hown, hts⟩ (ct_X2_causeOf σ17 a1 a3 _ h20) (cwV 2 hts gX2_reckonShow_X2_causeOf rfl rfl rfl (by decide +kernel) ⟨Nat.le_of_ble_eq_true rfl, Nat.le_of_ble_eq_true rfl⟩) (by decide) (kc3 g Y _) rfl rfl hl.1 rfl (Nat.le_of_ble_eq_true rfl) dX2_reckonShow_83 ⟨Nat.zero_le _, Nat.zero_le _⟩ (fun H locs I => ?_)
      obtain ⟨b21, hf⟩ := o_nb hf
      obtain ⟨σ22, eσ22, hf⟩ := o_stp hf
      refine j_ast I hx hb 25 (by decide) (kc25 g Y) b21 eσ22 dX2_reckonShow_86 (fun H locs I => ?_)
      refine lv_aload_n hx hb dX2_reckonShow_87 rfl (lv_at hl 1 rfl) ?_
      refine j_get I hx hb hts iw_X2_reckonShow_X2 hown 3 (by decide) (kc3 g Y _) rfl 8 (by decide) (hts (.fieldLink RX2 28 "ReelNight$Night" "begins" "[I") (by decide +kernel)) rfl dX2_reckonShow_88 ?_
      refine lv_iload hx hb dX2_reckonShow_91 (lv_at hl 0 rfl) ?_
      obtain ⟨b23, hf⟩ := o_nb hf
      refine j_ald I hx hb 23 (by decide) (kc23 g Y _) b23 dX2_reckonShow_93 ?_
      refine lv_aload_n hx hb dX2_reckonShow_94 rfl (lv_at hl 1 rfl) ?_
      refine j_get I hx hb hts iw_X2_reckonShow_X2 hown 3 (by decide) (kc3 g Y _) rfl 1 (by decide) (hts (.fieldLink RX2 41 "ReelNight$Night" "reels" "LReelNight$Reels;") (by decide +kernel)) rfl dX2_reckonShow_95 ?_
      refine lv_iload_n hx hb dX2_reckonShow_98 rfl (lv_at hl 4 rfl) ?_
      obtain ⟨σ24, r25, h26, hf⟩ := o_obn hf
      refine j_iV (rest := [.int (σ22 23 r5.toNatClampNeg)]) I ⟨hx, hb, hml, hown, hts⟩ (ct_X5_minutes σ22 a3 _ h26) (cwV 1 hts gX2_reckonShow_X5_minutes rfl rfl rfl (by decide +kernel) ⟨Nat.le_of_ble_eq_true rfl, Nat.le_of_ble_eq_true rfl⟩) (by decide) (kc2 g Y _) rfl rfl hl.1 rfl (Nat.le_of_ble_eq_true rfl) dX2_reckonShow_99 ⟨Nat.zero_le _, Nat.zero_le _⟩ (fun H locs I => ?_)
      refine lv_iadd hx hb dX2_reckonShow_102 ?_
      obtain ⟨v27, ev27, hf⟩ := o_itp hf
      refine top_eq ev27 ?_
      refine lv_istore_n (lv' := [(2, .int v27), (4, .int r5), (0, .ref (g 3)), (1, .int a1), (3, .int a3)]) hx hb dX2_reckonShow_103 rfl hl (by decide) rfl (fun ls hl => ?_)
      refine lv_iinc (v := (a3 + 1)) (lv' := [(3, .int (a3 + 1)), (2, .int v27), (4, .int r5), (0, .ref (g 3)), (1, .int a1)]) hx hb dX2_reckonShow_104 hl (k := 4) rfl rfl (by decide) rfl (fun ls hl => ?_)
      refine lv_goto (tgt := 9) hx hb dX2_reckonShow_107 (by decide) ?_
      exact ih σ24 a1 v27 (a3 + 1) _ _ _ hf I (lv_sub hl [3, 4, 1, 0] rfl)
set_option maxHeartbeats 4000000 in
set_option maxRecDepth 100000 in
theorem ct_X2_reckonShow {l : Launch} {D : va_G} {g : Nat → Nat} {Y : YT} {bP : Nat} (σ : St) (p0 : Int32) (res : St × Int32) (hf : fX2_reckonShow σ p0 = some res) : Cv l yX2_reckonShow wsX2_reckonShow ⟨4, 0, 0, 78⟩ D 44 g (KC g Y) Y bP [.ref (g 3), .int p0] σ res := by
  intro sz
  refine Met.ofW (cc := cX2_reckonShow) (maxL := 5) (ret := none) (by decide) rfl ?_
  intro p e s m args below meth c s₁ B hml hv
  obtain ⟨rfl, rfl, I⟩ := j_start hv
  have C0 : MC p s m _ meth c cX2_reckonShow 5 none RX2 wsX2_reckonShow := ⟨B.exec, B.bytes, B.returns, hml, findClass_of_methodNamed B.named, atoms_spec (ws := wsX2_reckonShow) B.pre, B.notSynchronized⟩
  obtain ⟨hx, hb, hr, hml, hown, hts, hlk⟩ := id C0
  have hl := lv_entry ([.ref (g 3), .int p0]) (n := 5) (Nat.le_of_ble_eq_true rfl)
  rw [lg_entry_eq]
  generalize (lg_sl ([.ref (g 3), .int p0]) ++ List.replicate (5 - (lg_sl ([.ref (g 3), .int p0])).length) Slot.unset).toArray = ls at hl ⊢
  have hl : lv_has ls 5 [(0, .ref (g 3)), (1, .int p0)] := hl
  rw [fX2_reckonShow] at hf
  refine lv_aload_n hx hb dX2_reckonShow_0 rfl (lv_at hl 0 rfl) ?_
  refine j_get I hx hb hts iw_X2_reckonShow_X2 hown 3 (by decide) (kc3 g Y _) rfl 6 (by decide) (hts (.fieldLink RX2 22 "ReelNight$Night" "starts" "[I") (by decide +kernel)) rfl dX2_reckonShow_1 ?_
  refine lv_iload_n hx hb dX2_reckonShow_4 rfl (lv_at hl 1 rfl) ?_
  obtain ⟨b1, hf⟩ := o_nb hf
  refine j_ald I hx hb 21 (by decide) (kc21 g Y _) b1 dX2_reckonShow_5 ?_
  obtain ⟨v2, ev2, hf⟩ := o_itp hf
  refine top_eq ev2 ?_
  refine lv_istore_n (lv' := [(2, .int v2), (0, .ref (g 3)), (1, .int p0)]) hx hb dX2_reckonShow_6 rfl hl (by decide) rfl (fun ls hl => ?_)
  refine lv_iconst (v := 0) hx hb dX2_reckonShow_7 (by decide) ?_
  refine lv_istore_n (lv' := [(3, .int 0), (2, .int v2), (0, .ref (g 3)), (1, .int p0)]) hx hb dX2_reckonShow_8 rfl hl (by decide) rfl (fun ls hl => ?_)
  refine bX2_reckonShow_L9 C0 50 σ p0 v2 0 _ _ _ hf I (lv_sub hl [2, 3, 1, 0] rfl)

theorem iw_X2_reckonShows_X2 : ∀ w ∈ u_ws RX2 TX2 11, w ∈ wsX2_reckonShows := fun _ h => List.mem_cons_of_mem _ (List.mem_append_left _ (List.mem_append_left _ (List.mem_append_left _ (List.mem_append_right _ h))))
set_option maxHeartbeats 4000000 in
set_option maxRecDepth 100000 in
theorem bX2_reckonShows_L6 {p : Program} {l : Launch} {e : Env} {s : State} {m : MethodId} {args : Array Value} {below : List Frame} {meth : Method} {c : Code} {D : va_G} {g : Nat → Nat} {Y : YT} {bP : Nat} {σ0 : St} {res : St × Int32} (C0 : MC p s m args meth c cX2_reckonShows 2 none RX2 wsX2_reckonShows) : ∀ (n : Nat) (σ : St) (a1 : Int32) (H : Heap) (locs : List Loc) (ls : Array Slot), fX2_reckonShows_L6 n σ a1 = some res → JW D 44 g (KC g Y) Y bP (va_A (wd 44 g (KC g Y) σ0) s.heap.size) s σ H locs → lv_has ls 2 [(0, .ref (g 3)), (1, .int a1)] → W p l e (⟨5, 0, 0, 102⟩ : Room) s m args below meth c H locs 0 0 (MQ below (Qv D 44 g (KC g Y) Y σ0 res s.heap.size) args s 0 0 (va_A (wd 44 g (KC g Y) σ0) s.heap.size)) (F0 m 6 ls []) := by
  have C0 := C0
  obtain ⟨hx, hb, hr, hml, hown, hts, hlk⟩ := id C0
  intro n
  induction n with
  | zero =>
    intro σ a1 H locs ls hf
    cases hf
  | succ n ih =>
    intro σ a1 H locs ls hf I hl
    rw [fX2_reckonShows_L6] at hf
    refine lv_iload_n hx hb dX2_reckonShows_6 rfl (lv_at hl 1 rfl) ?_
    refine lv_aload_n hx hb dX2_reckonShows_7 rfl (lv_at hl 0 rfl) ?_
    refine j_get I hx hb hts iw_X2_reckonShows_X2 hown 3 (by decide) (kc3 g Y _) rfl 5 (by decide) (hts (.fieldLink RX2 18 "ReelNight$Night" "many" "I") (by decide +kernel)) rfl dX2_reckonShows_8 ?_
    refine lv_icmp_ge (tgt := 25) hx hb dX2_reckonShows_11 (by decide) (fun c4 => ?_) (fun c4 => ?_)
    · have hf := i_t c4 hf
      exact j_vret I hx hb hr hlk hf dX2_reckonShows_25
    · have hf := i_f c4 hf
      refine lv_aload_n hx hb dX2_reckonShows_14 rfl (lv_at hl 0 rfl) ?_
      refine lv_iload_n hx hb dX2_reckonShows_15 rfl (lv_at hl 1 rfl) ?_
      obtain ⟨σ5, r6, h7, hf⟩ := o_obn hf
      refine j_vV (rest := []) I ⟨hx, hb, hml, hown, hts⟩ (ct_X2_reckonShow σ a1 _ h7) (cwV 1 hts gX2_reckonShows_X2_reckonShow rfl rfl rfl (by decide +kernel) ⟨Nat.le_of_ble_eq_true rfl, Nat.le_of_ble_eq_true rfl⟩) (by decide) (kc3 g Y _) rfl rfl hl.1 rfl (Nat.le_of_ble_eq_true rfl) dX2_reckonShows_16 ⟨Nat.zero_le _, Nat.zero_le _⟩ (fun H locs I => ?_)
      refine lv_iinc (v := (a1 + 1)) (lv' := [(1, .int (a1 + 1)), (0, .ref (g 3))]) hx hb dX2_reckonShows_19 hl (k := 1) rfl rfl (by decide) rfl (fun ls hl => ?_)
      refine lv_goto (tgt := 6) hx hb dX2_reckonShows_22 (by decide) ?_
      exact ih σ5 (a1 + 1) _ _ _ hf I (lv_sub hl [1, 0] rfl)
set_option maxHeartbeats 4000000 in
set_option maxRecDepth 100000 in
theorem ct_X2_reckonShows {l : Launch} {D : va_G} {g : Nat → Nat} {Y : YT} {bP : Nat} (σ : St) (res : St × Int32) (hf : fX2_reckonShows σ = some res) : Cv l yX2_reckonShows wsX2_reckonShows ⟨5, 0, 0, 102⟩ D 44 g (KC g Y) Y bP [.ref (g 3)] σ res := by
  intro sz
  refine Met.ofW (cc := cX2_reckonShows) (maxL := 2) (ret := none) (by decide) rfl ?_
  intro p e s m args below meth c s₁ B hml hv
  obtain ⟨rfl, rfl, I⟩ := j_start hv
  have C0 : MC p s m _ meth c cX2_reckonShows 2 none RX2 wsX2_reckonShows := ⟨B.exec, B.bytes, B.returns, hml, findClass_of_methodNamed B.named, atoms_spec (ws := wsX2_reckonShows) B.pre, B.notSynchronized⟩
  obtain ⟨hx, hb, hr, hml, hown, hts, hlk⟩ := id C0
  have hl := lv_entry ([.ref (g 3)]) (n := 2) (Nat.le_of_ble_eq_true rfl)
  rw [lg_entry_eq]
  generalize (lg_sl ([.ref (g 3)]) ++ List.replicate (2 - (lg_sl ([.ref (g 3)])).length) Slot.unset).toArray = ls at hl ⊢
  have hl : lv_has ls 2 [(0, .ref (g 3))] := hl
  rw [fX2_reckonShows] at hf
  refine lv_aload_n hx hb dX2_reckonShows_0 rfl (lv_at hl 0 rfl) ?_
  obtain ⟨σ1, r2, h3, hf⟩ := o_obn hf
  refine j_vV (rest := []) I ⟨hx, hb, hml, hown, hts⟩ (ct_X2_reckonStarts σ _ h3) (cwV 0 hts gX2_reckonShows_X2_reckonStarts rfl rfl rfl (by decide +kernel) ⟨Nat.le_of_ble_eq_true rfl, Nat.le_of_ble_eq_true rfl⟩) (by decide) (kc3 g Y _) rfl rfl hl.1 rfl (Nat.le_of_ble_eq_true rfl) dX2_reckonShows_1 ⟨Nat.zero_le _, Nat.zero_le _⟩ (fun H locs I => ?_)
  refine lv_iconst (v := 0) hx hb dX2_reckonShows_4 (by decide) ?_
  refine lv_istore_n (lv' := [(1, .int 0), (0, .ref (g 3))]) hx hb dX2_reckonShows_5 rfl hl (by decide) rfl (fun ls hl => ?_)
  refine bX2_reckonShows_L6 C0 50 σ1 0 _ _ _ hf I (lv_sub hl [1, 0] rfl)

theorem iw_X2_waitedAt_X1 : ∀ w ∈ u_ws RX1 TX1 6, w ∈ wsX2_waitedAt := by decide +kernel
theorem iw_X2_waitedAt_X2 : ∀ w ∈ u_ws RX2 TX2 11, w ∈ wsX2_waitedAt := by decide +kernel
theorem iw_X2_waitedAt_X5 : ∀ w ∈ u_ws RX5 TX5 3, w ∈ wsX2_waitedAt := by decide +kernel
set_option maxHeartbeats 4000000 in
set_option maxRecDepth 100000 in
theorem bX2_waitedAt_L20 {p : Program} {l : Launch} {e : Env} {s : State} {m : MethodId} {args : Array Value} {below : List Frame} {meth : Method} {c : Code} {D : va_G} {g : Nat → Nat} {Y : YT} {bP : Nat} {σ0 : St} {res : St × Int32} (C0 : MC p s m args meth c cX2_waitedAt 6 (some .int) RX2 wsX2_waitedAt) : ∀ (n : Nat) (σ : St) (a1 : Int32) (a2 : Int32) (a3 : Int32) (a4 : Int32) (H : Heap) (locs : List Loc) (ls : Array Slot), fX2_waitedAt_L20 n σ a1 a2 a3 a4 = some res → JW D 44 g (KC g Y) Y bP (va_A (wd 44 g (KC g Y) σ0) s.heap.size) s σ H locs → lv_has ls 6 [(0, .ref (g 3)), (1, .int a1), (2, .int a2), (3, .int a3), (4, .int a4)] → W p l e (⟨1, 0, 0, 21⟩ : Room) s m args below meth c H locs 0 0 (MQ below (Qi D 44 g (KC g Y) Y σ0 res s.heap.size) args s 0 0 (va_A (wd 44 g (KC g Y) σ0) s.heap.size)) (F0 m 20 ls []) := by
  have C0 := C0
  obtain ⟨hx, hb, hr, hml, hown, hts, hlk⟩ := id C0
  intro n
  induction n with
  | zero =>
    intro σ a1 a2 a3 a4 H locs ls hf
    cases hf
  | succ n ih =>
    intro σ a1 a2 a3 a4 H locs ls hf I hl
    rw [fX2_waitedAt_L20] at hf
    refine lv_iload hx hb dX2_waitedAt_20 (lv_at hl 4 rfl) ?_
    refine lv_aload_n hx hb dX2_waitedAt_22 rfl (lv_at hl 0 rfl) ?_
    refine j_get I hx hb hts iw_X2_waitedAt_X2 hown 3 (by decide) (kc3 g Y _) rfl 1 (by decide) (hts (.fieldLink RX2 41 "ReelNight$Night" "reels" "LReelNight$Reels;") (by decide +kernel)) rfl dX2_waitedAt_23 ?_
    refine j_getN I hx hb hts iw_X2_waitedAt_X5 hown 2 (by decide) (kc2 g Y _) rfl 2 (by decide) (by decide +kernel) rfl dX2_waitedAt_26 ?_
    refine lv_icmp_ge (tgt := 72) hx hb dX2_waitedAt_29 (by decide) (fun c4 => ?_) (fun c4 => ?_)
    · have hf := i_t c4 hf
      refine lv_iload_n hx hb dX2_waitedAt_72 rfl (lv_at hl 3 rfl) ?_
      exact j_iret I hx hb hr rfl hlk hf dX2_waitedAt_73
    · have hf := i_f c4 hf
      refine lv_aload_n hx hb dX2_waitedAt_32 rfl (lv_at hl 0 rfl) ?_
      refine j_get I hx hb hts iw_X2_waitedAt_X2 hown 3 (by decide) (kc3 g Y _) rfl 9 (by decide) (hts (.fieldLink RX2 31 "ReelNight$Night" "gaps" "[I") (by decide +kernel)) rfl dX2_waitedAt_33 ?_
      refine lv_iload_n hx hb dX2_waitedAt_36 rfl (lv_at hl 1 rfl) ?_
      refine lv_iload hx hb dX2_waitedAt_37 (lv_at hl 4 rfl) ?_
      obtain ⟨σ5, r6, h7, hf⟩ := o_obn hf
      refine j_iS (rest := [.ref (g 24)]) I ⟨hx, hb, hml, hown, hts⟩ (ct_X2_cell σ a1 a4 _ h7) (va_cwS 2 hts gX2_waitedAt_X2_cell rfl rfl rfl (by decide +kernel) ⟨Nat.le_of_ble_eq_true rfl, Nat.le_of_ble_eq_true rfl⟩) rfl hl.1 rfl (Nat.le_of_ble_eq_true rfl) dX2_waitedAt_39 ⟨Nat.zero_le _, Nat.zero_le _⟩ (fun H locs I => ?_)
      obtain ⟨b8, hf⟩ := o_nb hf
      refine j_ald I hx hb 24 (by decide) (kc24 g Y _) b8 dX2_waitedAt_42 ?_
      obtain ⟨v9, ev9, hf⟩ := o_itp hf
      refine top_eq ev9 ?_
      refine lv_istore (lv' := [(5, .int v9), (0, .ref (g 3)), (1, .int a1), (2, .int a2), (3, .int a3), (4, .int a4)]) hx hb dX2_waitedAt_43 hl (by decide) rfl (fun ls hl => ?_)
      refine lv_iload_n hx hb dX2_waitedAt_45 rfl (lv_at hl 4 rfl) ?_
      refine lv_iload hx hb dX2_waitedAt_46 (lv_at hl 5 rfl) ?_
      refine lv_if_ne (tgt := 56) hx hb dX2_waitedAt_48 (by decide) (fun c10 => ?_) (fun c10 => ?_)
      · have hf := i_f c10 hf
        refine lv_iconst (v := 0) hx hb dX2_waitedAt_56 (by decide) ?_
        refine lv_iload hx hb dX2_waitedAt_57 (lv_at hl 0 rfl) ?_
        refine lv_iload_n hx hb dX2_waitedAt_59 rfl (lv_at hl 3 rfl) ?_
        refine lv_isub hx hb dX2_waitedAt_60 ?_
        refine va_mmax hx hb (hml.trans hl.1.symm) hown (hts (.methodLink RX2 113 Lib.Math.max.name) (by decide +kernel)) (hts (.static Lib.Math.max.name) (by decide +kernel)) (hts (.initialized "java/lang/Math") (by decide +kernel)) (hts (.code Lib.Math.max.name Lib.Math.max.code 2 (some .int)) (by decide +kernel)) (Nat.le_of_ble_eq_true rfl) (Nat.le_of_ble_eq_true rfl) (Nat.zero_le _) (Nat.zero_le _) dX2_waitedAt_61 ?_
        refine lv_iadd hx hb dX2_waitedAt_64 ?_
        obtain ⟨v11, ev11, hf⟩ := o_itp hf
        refine top_eq ev11 ?_
        refine lv_istore_n (lv' := [(3, .int v11), (5, .int v9), (0, .ref (g 3)), (1, .int a1), (2, .int a2), (4, .int a4)]) hx hb dX2_waitedAt_65 rfl hl (by decide) rfl (fun ls hl => ?_)
        refine lv_iinc (v := (a4 + 1)) (lv' := [(4, .int (a4 + 1)), (3, .int v11), (5, .int v9), (0, .ref (g 3)), (1, .int a1), (2, .int a2)]) hx hb dX2_waitedAt_66 hl (k := 5) rfl rfl (by decide) rfl (fun ls hl => ?_)
        refine lv_goto (tgt := 20) hx hb dX2_waitedAt_69 (by decide) ?_
        exact ih σ5 a1 a2 v11 (a4 + 1) _ _ _ hf I (lv_sub hl [3, 4, 5, 1, 0] rfl)
      · have hf := i_t c10 hf
        refine lv_iload hx hb dX2_waitedAt_51 (lv_at hl 0 rfl) ?_
        refine lv_goto (tgt := 64) hx hb dX2_waitedAt_53 (by decide) ?_
        refine lv_iadd hx hb dX2_waitedAt_64 ?_
        obtain ⟨v12, ev12, hf⟩ := o_itp hf
        refine top_eq ev12 ?_
        refine lv_istore_n (lv' := [(3, .int v12), (5, .int v9), (0, .ref (g 3)), (1, .int a1), (2, .int a2), (4, .int a4)]) hx hb dX2_waitedAt_65 rfl hl (by decide) rfl (fun ls hl => ?_)
        refine lv_iinc (v := (a4 + 1)) (lv' := [(4, .int (a4 + 1)), (3, .int v12), (5, .int v9), (0, .ref (g 3)), (1, .int a1), (2, .int a2)]) hx hb dX2_waitedAt_66 hl (k := 5) rfl rfl (by decide) rfl (fun ls hl => ?_)
        refine lv_goto (tgt := 20) hx hb dX2_waitedAt_69 (by decide) ?_
        exact ih σ5 a1 a2 v12 (a4 + 1) _ _ _ hf I (lv_sub hl [3, 4, 5, 1, 0] rfl)
set_option maxHeartbeats 4000000 in
set_option maxRecDepth 100000 in
theorem ct_X2_waitedAt {l : Launch} {D : va_G} {g : Nat → Nat} {Y : YT} {bP : Nat} (σ : St) (p0 : Int32) (res : St × Int32) (hf : fX2_waitedAt σ p0 = some res) : Ci l yX2_waitedAt wsX2_waitedAt ⟨1, 0, 0, 21⟩ D 44 g (KC g Y) Y bP [.ref (g 3), .int p0] σ res := by
  intro sz
  refine Met.ofW (cc := cX2_waitedAt) (maxL := 6) (ret := (some .int)) (by decide) rfl ?_
  intro p e s m args below meth c s₁ B hml hv
  obtain ⟨rfl, rfl, I⟩ := j_start hv
  have C0 : MC p s m _ meth c cX2_waitedAt 6 (some .int) RX2 wsX2_waitedAt := ⟨B.exec, B.bytes, B.returns, hml, findClass_of_methodNamed B.named, atoms_spec (ws := wsX2_waitedAt) B.pre, B.notSynchronized⟩
  obtain ⟨hx, hb, hr, hml, hown, hts, hlk⟩ := id C0
  have hl := lv_entry ([.ref (g 3), .int p0]) (n := 6) (Nat.le_of_ble_eq_true rfl)
  rw [lg_entry_eq]
  generalize (lg_sl ([.ref (g 3), .int p0]) ++ List.replicate (6 - (lg_sl ([.ref (g 3), .int p0])).length) Slot.unset).toArray = ls at hl ⊢
  have hl : lv_has ls 6 [(0, .ref (g 3)), (1, .int p0)] := hl
  rw [fX2_waitedAt] at hf
  refine lv_aload_n hx hb dX2_waitedAt_0 rfl (lv_at hl 0 rfl) ?_
  refine j_get I hx hb hts iw_X2_waitedAt_X2 hown 3 (by decide) (kc3 g Y _) rfl 0 (by decide) (hts (.fieldLink RX2 37 "ReelNight$Night" "houses" "LReelNight$Houses;") (by decide +kernel)) rfl dX2_waitedAt_1 ?_
  refine j_getN I hx hb hts iw_X2_waitedAt_X1 hown 1 (by decide) (kc1 g Y _) rfl 2 (by decide) (by decide +kernel) rfl dX2_waitedAt_4 ?_
  refine lv_aload_n hx hb dX2_waitedAt_7 rfl (lv_at hl 0 rfl) ?_
  refine j_get I hx hb hts iw_X2_waitedAt_X2 hown 3 (by decide) (kc3 g Y _) rfl 3 (by decide) (hts (.fieldLink RX2 9 "ReelNight$Night" "order" "[I") (by decide +kernel)) rfl dX2_waitedAt_8 ?_
  refine lv_iload_n hx hb dX2_waitedAt_11 rfl (lv_at hl 1 rfl) ?_
  obtain ⟨b1, hf⟩ := o_nb hf
  refine j_ald I hx hb 19 (by decide) (kc19 g Y _) b1 dX2_waitedAt_12 ?_
  obtain ⟨b2, hf⟩ := o_nb hf
  refine j_ald I hx hb 14 (by decide) (kc14 g Y _) b2 dX2_waitedAt_13 ?_
  obtain ⟨v3, ev3, hf⟩ := o_itp hf
  refine top_eq ev3 ?_
  refine lv_istore_n (lv' := [(2, .int v3), (0, .ref (g 3)), (1, .int p0)]) hx hb dX2_waitedAt_14 rfl hl (by decide) rfl (fun ls hl => ?_)
  refine lv_iconst (v := 0) hx hb dX2_waitedAt_15 (by decide) ?_
  refine lv_istore_n (lv' := [(3, .int 0), (2, .int v3), (0, .ref (g 3)), (1, .int p0)]) hx hb dX2_waitedAt_16 rfl hl (by decide) rfl (fun ls hl => ?_)
  refine lv_iconst (v := 0) hx hb dX2_waitedAt_17 (by decide) ?_
  refine lv_istore (lv' := [(4, .int 0), (3, .int 0), (2, .int v3), (0, .ref (g 3)), (1, .int p0)]) hx hb dX2_waitedAt_18 hl (by decide) rfl (fun ls hl => ?_)
  refine bX2_waitedAt_L20 C0 50 σ p0 v3 0 0 _ _ _ hf I (lv_sub hl [3, 4, 2, 1, 0] rfl)

theorem iw_X2_whereIs_X2 : ∀ w ∈ u_ws RX2 TX2 11, w ∈ wsX2_whereIs := fun _ h => List.mem_cons_of_mem _ (List.mem_append_left _ (List.mem_append_right _ h))
set_option maxHeartbeats 4000000 in
set_option maxRecDepth 100000 in
theorem bX2_whereIs_L2 {p : Program} {l : Launch} {e : Env} {s : State} {m : MethodId} {args : Array Value} {below : List Frame} {meth : Method} {c : Code} {D : va_G} {g : Nat → Nat} {Y : YT} {bP : Nat} {σ0 : St} {res : St × Int32} (C0 : MC p s m args meth c cX2_whereIs 4 (some .int) RX2 wsX2_whereIs) {K22 : St → Int32 → Option (St × Int32)} {K45 : St → Int32 → Int32 → Option (St × Int32)} {K61 : St → Option (St × Int32)} (hK22 : ∀ (σ : St) (a3 : Int32) (H : Heap) (locs : List Loc) (ls : Array Slot), K22 σ a3 = some res → JW D 44 g (KC g Y) Y bP (va_A (wd 44 g (KC g Y) σ0) s.heap.size) s σ H locs → lv_has ls 4 [(0, .ref (g 3)), (3, .int a3)] → W p l e (⟨3, 0, 0, 56⟩ : Room) s m args below meth c H locs 0 0 (MQ below (Qi D 44 g (KC g Y) Y σ0 res s.heap.size) args s 0 0 (va_A (wd 44 g (KC g Y) σ0) s.heap.size)) (F0 m 22 ls [])) (hK45 : ∀ (σ : St) (a1 : Int32) (a3 : Int32) (H : Heap) (locs : List Loc) (ls : Array Slot), K45 σ a1 a3 = some res → JW D 44 g (KC g Y) Y bP (va_A (wd 44 g (KC g Y) σ0) s.heap.size) s σ H locs → lv_has ls 4 [(0, .ref (g 3)), (1, .int a1), (3, .int a3)] → W p l e (⟨3, 0, 0, 56⟩ : Room) s m args below meth c H locs 0 0 (MQ below (Qi D 44 g (KC g Y) Y σ0 res s.heap.size) args s 0 0 (va_A (wd 44 g (KC g Y) σ0) s.heap.size)) (F0 m 45 ls [])) (hK61 : ∀ (σ : St) (H : Heap) (locs : List Loc) (ls : Array Slot), K61 σ = some res → JW D 44 g (KC g Y) Y bP (va_A (wd 44 g (KC g Y) σ0) s.heap.size) s σ H locs → lv_has ls 4 [(0, .ref (g 3))] → W p l e (⟨3, 0, 0, 56⟩ : Room) s m args below meth c H locs 0 0 (MQ below (Qi D 44 g (KC g Y) Y σ0 res s.heap.size) args s 0 0 (va_A (wd 44 g (KC g Y) σ0) s.heap.size)) (F0 m 61 ls [])) : ∀ (n : Nat) (σ : St) (a1 : Int32) (a2 : Int32) (a3 : Int32) (H : Heap) (locs : List Loc) (ls : Array Slot), fX2_whereIs_L2 K22 K45 K61 n σ a1 a2 a3 = some res → JW D 44 g (KC g Y) Y bP (va_A (wd 44 g (KC g Y) σ0) s.heap.size) s σ H locs → lv_has ls 4 [(0, .ref (g 3)), (1, .int a1), (2, .int a2), (3, .int a3)] → W p l e (⟨3, 0, 0, 56⟩ : Room) s m args below meth c H locs 0 0 (MQ below (Qi D 44 g (KC g Y) Y σ0 res s.heap.size) args s 0 0 (va_A (wd 44 g (KC g Y) σ0) s.heap.size)) (F0 m 2 ls []) := by
  have C0 := C0
  obtain ⟨hx, hb, hr, hml, hown, hts, hlk⟩ := id C0
  intro n
  induction n with
  | zero =>
    intro σ a1 a2 a3 H locs ls hf
    cases hf
  | succ n ih =>
    intro σ a1 a2 a3 H locs ls hf I hl
    rw [fX2_whereIs_L2] at hf
    refine lv_iload_n hx hb dX2_whereIs_2 rfl (lv_at hl 3 rfl) ?_
    refine lv_aload_n hx hb dX2_whereIs_3 rfl (lv_at hl 0 rfl) ?_
    refine j_get I hx hb hts iw_X2_whereIs_X2 hown 3 (by decide) (kc3 g Y _) rfl 5 (by decide) (hts (.fieldLink RX2 18 "ReelNight$Night" "many" "I") (by decide +kernel)) rfl dX2_whereIs_4 ?_
    refine lv_icmp_ge (tgt := 61) hx hb dX2_whereIs_7 (by decide) (fun c1 => ?_) (fun c1 => ?_)
    · have hf := i_t c1 hf
      exact hK61 σ _ _ _ hf I (lv_sub hl [0] rfl)
    · have hf := i_f c1 hf
      refine lv_iload_n hx hb dX2_whereIs_10 rfl (lv_at hl 2 rfl) ?_
      refine lv_aload_n hx hb dX2_whereIs_11 rfl (lv_at hl 0 rfl) ?_
      refine lv_iload_n hx hb dX2_whereIs_12 rfl (lv_at hl 3 rfl) ?_
      refine lv_iconst (v := 1) hx hb dX2_whereIs_13 (by decide) ?_
      refine lv_isub hx hb dX2_whereIs_14 ?_
      refine lv_iload_n hx hb dX2_whereIs_15 rfl (lv_at hl 1 rfl) ?_
      obtain ⟨σ2, r3, h4, hf⟩ := o_obn hf
      refine j_iV (rest := [.int a2]) I ⟨hx, hb, hml, hown, hts⟩ (ct_X2_endedAt σ (a3 - 1) a1 _ h4) (cwV 2 hts gX2_whereIs_X2_endedAt rfl rfl rfl (by decide +kernel) ⟨Nat.le_of_ble_eq_true rfl, Nat.le_of_ble_eq_true rfl⟩) (by decide) (kc3 g Y _) rfl rfl hl.1 rfl (Nat.le_of_ble_eq_true rfl) dX2_whereIs_16 ⟨Nat.zero_le _, Nat.zero_le _⟩ (fun H locs I => ?_)
      refine lv_icmp_ge (tgt := 31) hx hb dX2_whereIs_19 (by decide) (fun c5 => ?_) (fun c5 => ?_)
      · have hf := i_t c5 hf
        refine lv_iload_n hx hb dX2_whereIs_31 rfl (lv_at hl 2 rfl) ?_
        refine lv_aload_n hx hb dX2_whereIs_32 rfl (lv_at hl 0 rfl) ?_
        refine j_get I hx hb hts iw_X2_whereIs_X2 hown 3 (by decide) (kc3 g Y _) rfl 7 (by decide) (hts (.fieldLink RX2 25 "ReelNight$Night" "comes" "[I") (by decide +kernel)) rfl dX2_whereIs_33 ?_
        refine lv_iload_n hx hb dX2_whereIs_36 rfl (lv_at hl 3 rfl) ?_
        refine lv_iload_n hx hb dX2_whereIs_37 rfl (lv_at hl 1 rfl) ?_
        obtain ⟨σ6, r7, h8, hf⟩ := o_obn hf
        refine j_iS (rest := [.ref (g 22), .int a2]) I ⟨hx, hb, hml, hown, hts⟩ (ct_X2_cell σ2 a3 a1 _ h8) (va_cwS 2 hts gX2_whereIs_X2_cell rfl rfl rfl (by decide +kernel) ⟨Nat.le_of_ble_eq_true rfl, Nat.le_of_ble_eq_true rfl⟩) rfl hl.1 rfl (Nat.le_of_ble_eq_true rfl) dX2_whereIs_38 ⟨Nat.zero_le _, Nat.zero_le _⟩ (fun H locs I => ?_)
        obtain ⟨b9, hf⟩ := o_nb hf
        refine j_ald I hx hb 22 (by decide) (kc22 g Y _) b9 dX2_whereIs_41 ?_
        refine lv_icmp_ge (tgt := 55) hx hb dX2_whereIs_42 (by decide) (fun c10 => ?_) (fun c10 => ?_)
        · have hf := i_t c10 hf
          refine lv_iinc (v := (a3 + 1)) (lv' := [(3, .int (a3 + 1)), (0, .ref (g 3)), (1, .int a1), (2, .int a2)]) hx hb dX2_whereIs_55 hl (k := 3) rfl rfl (by decide) rfl (fun ls hl => ?_)
          refine lv_goto (tgt := 2) hx hb dX2_whereIs_58 (by decide) ?_
          exact ih σ6 a1 a2 (a3 + 1) _ _ _ hf I (lv_sub hl [1, 2, 3, 0] rfl)
        · have hf := i_f c10 hf
          exact hK45 σ6 a1 a3 _ _ _ hf I (lv_sub hl [0, 1, 3] rfl)
      · have hf := i_f c5 hf
        exact hK22 σ2 a3 _ _ _ hf I (lv_sub hl [0, 3] rfl)
set_option maxHeartbeats 4000000 in
set_option maxRecDepth 100000 in
theorem ct_X2_whereIs {l : Launch} {D : va_G} {g : Nat → Nat} {Y : YT} {bP : Nat} (σ : St) (p0 : Int32) (p1 : Int32) (res : St × Int32) (hf : fX2_whereIs σ p0 p1 = some res) : Ci l yX2_whereIs wsX2_whereIs ⟨3, 0, 0, 56⟩ D 44 g (KC g Y) Y bP [.ref (g 3), .int p0, .int p1] σ res := by
  intro sz
  refine Met.ofW (cc := cX2_whereIs) (maxL := 4) (ret := (some .int)) (by decide) rfl ?_
  intro p e s m args below meth c s₁ B hml hv
  obtain ⟨rfl, rfl, I⟩ := j_start hv
  have C0 : MC p s m _ meth c cX2_whereIs 4 (some .int) RX2 wsX2_whereIs := ⟨B.exec, B.bytes, B.returns, hml, findClass_of_methodNamed B.named, atoms_spec (ws := wsX2_whereIs) B.pre, B.notSynchronized⟩
  obtain ⟨hx, hb, hr, hml, hown, hts, hlk⟩ := id C0
  have hl := lv_entry ([.ref (g 3), .int p0, .int p1]) (n := 4) (Nat.le_of_ble_eq_true rfl)
  rw [lg_entry_eq]
  generalize (lg_sl ([.ref (g 3), .int p0, .int p1]) ++ List.replicate (4 - (lg_sl ([.ref (g 3), .int p0, .int p1])).length) Slot.unset).toArray = ls at hl ⊢
  have hl : lv_has ls 4 [(0, .ref (g 3)), (1, .int p0), (2, .int p1)] := hl
  rw [fX2_whereIs] at hf
  refine lv_iconst (v := 1) hx hb dX2_whereIs_0 (by decide) ?_
  refine lv_istore_n (lv' := [(3, .int 1), (0, .ref (g 3)), (1, .int p0), (2, .int p1)]) hx hb dX2_whereIs_1 rfl hl (by decide) rfl (fun ls hl => ?_)
  refine bX2_whereIs_L2 C0 ?_ ?_ ?_ 50 σ p0 p1 1 _ _ _ hf I (lv_sub hl [1, 2, 3, 0] rfl)
  · intro σ11 a12 H locs ls hf I hl
    refine lv_aload_n hx hb dX2_whereIs_22 rfl (lv_at hl 0 rfl) ?_
    refine j_get I hx hb hts iw_X2_whereIs_X2 hown 3 (by decide) (kc3 g Y _) rfl 3 (by decide) (hts (.fieldLink RX2 9 "ReelNight$Night" "order" "[I") (by decide +kernel)) rfl dX2_whereIs_23 ?_
    refine lv_iload_n hx hb dX2_whereIs_26 rfl (lv_at hl 1 rfl) ?_
    refine lv_iconst (v := 1) hx hb dX2_whereIs_27 (by decide) ?_
    refine lv_isub hx hb dX2_whereIs_28 ?_
    obtain ⟨b13, hf⟩ := o_nb hf
    refine j_ald I hx hb 19 (by decide) (kc19 g Y _) b13 dX2_whereIs_29 ?_
    exact j_iret I hx hb hr rfl hlk hf dX2_whereIs_30
  · intro σ14 a15 a16 H locs ls hf I hl
    refine lv_bipush (v := 100) hx hb dX2_whereIs_45 (by decide) ?_
    refine lv_aload_n hx hb dX2_whereIs_47 rfl (lv_at hl 0 rfl) ?_
    refine lv_iload_n hx hb dX2_whereIs_48 rfl (lv_at hl 2 rfl) ?_
    refine lv_iload_n hx hb dX2_whereIs_49 rfl (lv_at hl 1 rfl) ?_
    obtain ⟨σ17, r18, h19, hf⟩ := o_obn hf
    refine j_iV (rest := [.int 100]) I ⟨hx, hb, hml, hown, hts⟩ (ct_X2_rideOf σ14 a16 a15 _ h19) (cwV 2 hts gX2_whereIs_X2_rideOf rfl rfl rfl (by decide +kernel) ⟨Nat.le_of_ble_eq_true rfl, Nat.le_of_ble_eq_true rfl⟩) (by decide) (kc3 g Y _) rfl rfl hl.1 rfl (Nat.le_of_ble_eq_true rfl) dX2_whereIs_50 ⟨Nat.zero_le _, Nat.zero_le _⟩ (fun H locs I => ?_)
    refine lv_iadd hx hb dX2_whereIs_53 ?_
    exact j_iret I hx hb hr rfl hlk hf dX2_whereIs_54
  · intro σ20 H locs ls hf I hl
    refine lv_aload_n hx hb dX2_whereIs_61 rfl (lv_at hl 0 rfl) ?_
    refine j_get I hx hb hts iw_X2_whereIs_X2 hown 3 (by decide) (kc3 g Y _) rfl 3 (by decide) (hts (.fieldLink RX2 9 "ReelNight$Night" "order" "[I") (by decide +kernel)) rfl dX2_whereIs_62 ?_
    refine lv_aload_n hx hb dX2_whereIs_65 rfl (lv_at hl 0 rfl) ?_
    refine j_get I hx hb hts iw_X2_whereIs_X2 hown 3 (by decide) (kc3 g Y _) rfl 5 (by decide) (hts (.fieldLink RX2 18 "ReelNight$Night" "many" "I") (by decide +kernel)) rfl dX2_whereIs_66 ?_
    refine lv_iconst (v := 1) hx hb dX2_whereIs_69 (by decide) ?_
    refine lv_isub hx hb dX2_whereIs_70 ?_
    obtain ⟨b21, hf⟩ := o_nb hf
    refine j_ald I hx hb 19 (by decide) (kc19 g Y _) b21 dX2_whereIs_71 ?_
    exact j_iret I hx hb hr rfl hlk hf dX2_whereIs_72

theorem iw_X3_become_X3 : ∀ w ∈ u_ws RX3 TX3 1, w ∈ wsX3_become := by decide +kernel
set_option maxHeartbeats 4000000 in
set_option maxRecDepth 100000 in
theorem ct_X3_become_10 {l : Launch} {D : va_G} {g : Nat → Nat} {Y : YT} {bP : Nat} (σ : St) (p0 : Int32) (p1 : Int32) (p2 : Int32) (res : St × Int32) (hf : fX3_become_10 σ p0 p1 p2 = some res) : Ci l yX3_become wsX3_become ⟨1, 0, 0, 22⟩ D 44 g (KC g Y) Y bP [.ref (g 10), .int p0, .int p1, .int p2] σ res := by
  intro sz
  refine Met.ofW (cc := cX3_become) (maxL := 5) (ret := (some .int)) (by decide) rfl ?_
  intro p e s m args below meth c s₁ B hml hv
  obtain ⟨rfl, rfl, I⟩ := j_start hv
  have C0 : MC p s m _ meth c cX3_become 5 (some .int) RX3 wsX3_become := ⟨B.exec, B.bytes, B.returns, hml, findClass_of_methodNamed B.named, atoms_spec (ws := wsX3_become) B.pre, B.notSynchronized⟩
  obtain ⟨hx, hb, hr, hml, hown, hts, hlk⟩ := id C0
  have hl := lv_entry ([.ref (g 10), .int p0, .int p1, .int p2]) (n := 5) (Nat.le_of_ble_eq_true rfl)
  rw [lg_entry_eq]
  generalize (lg_sl ([.ref (g 10), .int p0, .int p1, .int p2]) ++ List.replicate (5 - (lg_sl ([.ref (g 10), .int p0, .int p1, .int p2])).length) Slot.unset).toArray = ls at hl ⊢
  have hl : lv_has ls 5 [(0, .ref (g 10)), (1, .int p0), (2, .int p1), (3, .int p2)] := hl
  rw [fX3_become_10] at hf
  refine lv_aload_n hx hb dX3_become_0 rfl (lv_at hl 0 rfl) ?_
  refine lv_iload_n hx hb dX3_become_1 rfl (lv_at hl 1 rfl) ?_
  refine lv_iload_n hx hb dX3_become_2 rfl (lv_at hl 2 rfl) ?_
  obtain ⟨σ1, r2, h3, hf⟩ := o_obn hf
  refine j_iV (rest := []) I ⟨hx, hb, hml, hown, hts⟩ (ct_X3_between_10 σ p0 p1 _ h3) (cwV 2 hts gX3_become_X3_between rfl rfl rfl (by decide +kernel) ⟨Nat.le_of_ble_eq_true rfl, Nat.le_of_ble_eq_true rfl⟩) (by decide) (kc10 g Y _) rfl rfl hl.1 rfl (Nat.le_of_ble_eq_true rfl) dX3_become_3 ⟨Nat.zero_le _, Nat.zero_le _⟩ (fun H locs I => ?_)
  refine lv_istore (lv' := [(4, .int r2), (0, .ref (g 10)), (1, .int p0), (2, .int p1), (3, .int p2)]) hx hb dX3_become_6 hl (by decide) rfl (fun ls hl => ?_)
  refine lv_aload_n hx hb dX3_become_8 rfl (lv_at hl 1 rfl) ?_
  refine j_get I hx hb hts iw_X3_become_X3 hown 10 (by decide) (kc10 g Y _) rfl 0 (by decide) (hts (.fieldLink RX3 9 "ReelNight$Pairs" "values" "[I") (by decide +kernel)) rfl dX3_become_9 ?_
  refine lv_iload_n hx hb dX3_become_12 rfl (lv_at hl 2 rfl) ?_
  refine lv_bipush (v := 6) hx hb dX3_become_13 (by decide) ?_
  refine lv_imul hx hb dX3_become_15 ?_
  refine lv_iload_n hx hb dX3_become_16 rfl (lv_at hl 3 rfl) ?_
  refine lv_iadd hx hb dX3_become_17 ?_
  refine lv_iload_n hx hb dX3_become_18 rfl (lv_at hl 4 rfl) ?_
  obtain ⟨b4, hf⟩ := o_nb hf
  obtain ⟨σ5, eσ5, hf⟩ := o_stp hf
  refine j_ast I hx hb 16 (by decide) (kc16 g Y) b4 eσ5 dX3_become_19 (fun H locs I => ?_)
  refine lv_aload_n hx hb dX3_become_20 rfl (lv_at hl 1 rfl) ?_
  refine j_get I hx hb hts iw_X3_become_X3 hown 10 (by decide) (kc10 g Y _) rfl 0 (by decide) (hts (.fieldLink RX3 9 "ReelNight$Pairs" "values" "[I") (by decide +kernel)) rfl dX3_become_21 ?_
  refine lv_iload_n hx hb dX3_become_24 rfl (lv_at hl 3 rfl) ?_
  refine lv_bipush (v := 6) hx hb dX3_become_25 (by decide) ?_
  refine lv_imul hx hb dX3_become_27 ?_
  refine lv_iload_n hx hb dX3_become_28 rfl (lv_at hl 2 rfl) ?_
  refine lv_iadd hx hb dX3_become_29 ?_
  refine lv_iload_n hx hb dX3_become_30 rfl (lv_at hl 4 rfl) ?_
  obtain ⟨b6, hf⟩ := o_nb hf
  obtain ⟨σ7, eσ7, hf⟩ := o_stp hf
  refine j_ast I hx hb 16 (by decide) (kc16 g Y) b6 eσ7 dX3_become_31 (fun H locs I => ?_)
  refine lv_iload hx hb dX3_become_32 (lv_at hl 0 rfl) ?_
  exact j_iret I hx hb hr rfl hlk hf dX3_become_34

set_option maxHeartbeats 4000000 in
set_option maxRecDepth 100000 in
theorem ct_X3_become_11 {l : Launch} {D : va_G} {g : Nat → Nat} {Y : YT} {bP : Nat} (σ : St) (p0 : Int32) (p1 : Int32) (p2 : Int32) (res : St × Int32) (hf : fX3_become_11 σ p0 p1 p2 = some res) : Ci l yX3_become wsX3_become ⟨1, 0, 0, 22⟩ D 44 g (KC g Y) Y bP [.ref (g 11), .int p0, .int p1, .int p2] σ res := by
  intro sz
  refine Met.ofW (cc := cX3_become) (maxL := 5) (ret := (some .int)) (by decide) rfl ?_
  intro p e s m args below meth c s₁ B hml hv
  obtain ⟨rfl, rfl, I⟩ := j_start hv
  have C0 : MC p s m _ meth c cX3_become 5 (some .int) RX3 wsX3_become := ⟨B.exec, B.bytes, B.returns, hml, findClass_of_methodNamed B.named, atoms_spec (ws := wsX3_become) B.pre, B.notSynchronized⟩
  obtain ⟨hx, hb, hr, hml, hown, hts, hlk⟩ := id C0
  have hl := lv_entry ([.ref (g 11), .int p0, .int p1, .int p2]) (n := 5) (Nat.le_of_ble_eq_true rfl)
  rw [lg_entry_eq]
  generalize (lg_sl ([.ref (g 11), .int p0, .int p1, .int p2]) ++ List.replicate (5 - (lg_sl ([.ref (g 11), .int p0, .int p1, .int p2])).length) Slot.unset).toArray = ls at hl ⊢
  have hl : lv_has ls 5 [(0, .ref (g 11)), (1, .int p0), (2, .int p1), (3, .int p2)] := hl
  rw [fX3_become_11] at hf
  refine lv_aload_n hx hb dX3_become_0 rfl (lv_at hl 0 rfl) ?_
  refine lv_iload_n hx hb dX3_become_1 rfl (lv_at hl 1 rfl) ?_
  refine lv_iload_n hx hb dX3_become_2 rfl (lv_at hl 2 rfl) ?_
  obtain ⟨σ1, r2, h3, hf⟩ := o_obn hf
  refine j_iV (rest := []) I ⟨hx, hb, hml, hown, hts⟩ (ct_X3_between_11 σ p0 p1 _ h3) (cwV 2 hts gX3_become_X3_between rfl rfl rfl (by decide +kernel) ⟨Nat.le_of_ble_eq_true rfl, Nat.le_of_ble_eq_true rfl⟩) (by decide) (kc11 g Y _) rfl rfl hl.1 rfl (Nat.le_of_ble_eq_true rfl) dX3_become_3 ⟨Nat.zero_le _, Nat.zero_le _⟩ (fun H locs I => ?_)
  refine lv_istore (lv' := [(4, .int r2), (0, .ref (g 11)), (1, .int p0), (2, .int p1), (3, .int p2)]) hx hb dX3_become_6 hl (by decide) rfl (fun ls hl => ?_)
  refine lv_aload_n hx hb dX3_become_8 rfl (lv_at hl 1 rfl) ?_
  refine j_get I hx hb hts iw_X3_become_X3 hown 11 (by decide) (kc11 g Y _) rfl 0 (by decide) (hts (.fieldLink RX3 9 "ReelNight$Pairs" "values" "[I") (by decide +kernel)) rfl dX3_become_9 ?_
  refine lv_iload_n hx hb dX3_become_12 rfl (lv_at hl 2 rfl) ?_
  refine lv_bipush (v := 6) hx hb dX3_become_13 (by decide) ?_
  refine lv_imul hx hb dX3_become_15 ?_
  refine lv_iload_n hx hb dX3_become_16 rfl (lv_at hl 3 rfl) ?_
  refine lv_iadd hx hb dX3_become_17 ?_
  refine lv_iload_n hx hb dX3_become_18 rfl (lv_at hl 4 rfl) ?_
  obtain ⟨b4, hf⟩ := o_nb hf
  obtain ⟨σ5, eσ5, hf⟩ := o_stp hf
  refine j_ast I hx hb 33 (by decide) (kc33 g Y) b4 eσ5 dX3_become_19 (fun H locs I => ?_)
  refine lv_aload_n hx hb dX3_become_20 rfl (lv_at hl 1 rfl) ?_
  refine j_get I hx hb hts iw_X3_become_X3 hown 11 (by decide) (kc11 g Y _) rfl 0 (by decide) (hts (.fieldLink RX3 9 "ReelNight$Pairs" "values" "[I") (by decide +kernel)) rfl dX3_become_21 ?_
  refine lv_iload_n hx hb dX3_become_24 rfl (lv_at hl 3 rfl) ?_
  refine lv_bipush (v := 6) hx hb dX3_become_25 (by decide) ?_
  refine lv_imul hx hb dX3_become_27 ?_
  refine lv_iload_n hx hb dX3_become_28 rfl (lv_at hl 2 rfl) ?_
  refine lv_iadd hx hb dX3_become_29 ?_
  refine lv_iload_n hx hb dX3_become_30 rfl (lv_at hl 4 rfl) ?_
  obtain ⟨b6, hf⟩ := o_nb hf
  obtain ⟨σ7, eσ7, hf⟩ := o_stp hf
  refine j_ast I hx hb 33 (by decide) (kc33 g Y) b6 eσ7 dX3_become_31 (fun H locs I => ?_)
  refine lv_iload hx hb dX3_become_32 (lv_at hl 0 rfl) ?_
  exact j_iret I hx hb hr rfl hlk hf dX3_become_34

set_option maxHeartbeats 4000000 in
set_option maxRecDepth 100000 in
theorem ct_X9_within {l : Launch} {D : va_G} {g : Nat → Nat} {Y : YT} {bP : Nat} (σ : St) (p0 : Int32) (p1 : Int32) (p2 : Int32) (res : St × Int32) (hf : fX9_within σ p0 p1 p2 = some res) : Ci l yX9_within wsX9_within ⟨0, 0, 0, 0⟩ D 44 g (KC g Y) Y bP [.int p0, .int p1, .int p2] σ res := by
  intro sz
  refine Met.ofW (cc := cX9_within) (maxL := 3) (ret := (some .boolean)) (by decide) rfl ?_
  intro p e s m args below meth c s₁ B hml hv
  obtain ⟨rfl, rfl, I⟩ := j_start hv
  have C0 : MC p s m _ meth c cX9_within 3 (some .boolean) RX9 wsX9_within := ⟨B.exec, B.bytes, B.returns, hml, findClass_of_methodNamed B.named, atoms_spec (ws := wsX9_within) B.pre, B.notSynchronized⟩
  obtain ⟨hx, hb, hr, hml, hown, hts, hlk⟩ := id C0
  have hl := lv_entry ([.int p0, .int p1, .int p2]) (n := 3) (Nat.le_of_ble_eq_true rfl)
  rw [lg_entry_eq]
  generalize (lg_sl ([.int p0, .int p1, .int p2]) ++ List.replicate (3 - (lg_sl ([.int p0, .int p1, .int p2])).length) Slot.unset).toArray = ls at hl ⊢
  have hl : lv_has ls 3 [(0, .int p0), (1, .int p1), (2, .int p2)] := hl
  rw [fX9_within] at hf
  refine lv_iload_n hx hb dX9_within_0 rfl (lv_at hl 0 rfl) ?_
  refine lv_iload_n hx hb dX9_within_1 rfl (lv_at hl 1 rfl) ?_
  refine lv_icmp_lt (tgt := 14) hx hb dX9_within_2 (by decide) (fun c1 => ?_) (fun c1 => ?_)
  · have hf := i_t c1 hf
    refine lv_iconst (v := 0) hx hb dX9_within_14 (by decide) ?_
    exact j_iret I hx hb hr rfl hlk hf dX9_within_15
  · have hf := i_f c1 hf
    refine lv_iload_n hx hb dX9_within_5 rfl (lv_at hl 0 rfl) ?_
    refine lv_iload_n hx hb dX9_within_6 rfl (lv_at hl 2 rfl) ?_
    refine lv_icmp_gt (tgt := 14) hx hb dX9_within_7 (by decide) (fun c2 => ?_) (fun c2 => ?_)
    · have hf := i_t c2 hf
      refine lv_iconst (v := 0) hx hb dX9_within_14 (by decide) ?_
      exact j_iret I hx hb hr rfl hlk hf dX9_within_15
    · have hf := i_f c2 hf
      refine lv_iconst (v := 1) hx hb dX9_within_10 (by decide) ?_
      refine lv_goto (tgt := 15) hx hb dX9_within_11 (by decide) ?_
      exact j_iret I hx hb hr rfl hlk hf dX9_within_15

set_option maxHeartbeats 4000000 in
set_option maxRecDepth 100000 in
theorem ct_X4_mayRule {l : Launch} {D : va_G} {g : Nat → Nat} {Y : YT} {bP : Nat} (σ : St) (p0 : Int32) (p1 : Int32) (res : St × Int32) (hf : fX4_mayRule σ p0 p1 = some res) : Ci l yX4_mayRule wsX4_mayRule ⟨1, 0, 0, 22⟩ D 44 g (KC g Y) Y bP [.ref (g 7), .int p0, .int p1] σ res := by
  intro sz
  refine Met.ofW (cc := cX4_mayRule) (maxL := 3) (ret := (some .boolean)) (by decide) rfl ?_
  intro p e s m args below meth c s₁ B hml hv
  obtain ⟨rfl, rfl, I⟩ := j_start hv
  have C0 : MC p s m _ meth c cX4_mayRule 3 (some .boolean) RX4 wsX4_mayRule := ⟨B.exec, B.bytes, B.returns, hml, findClass_of_methodNamed B.named, atoms_spec (ws := wsX4_mayRule) B.pre, B.notSynchronized⟩
  obtain ⟨hx, hb, hr, hml, hown, hts, hlk⟩ := id C0
  have hl := lv_entry ([.ref (g 7), .int p0, .int p1]) (n := 3) (Nat.le_of_ble_eq_true rfl)
  rw [lg_entry_eq]
  generalize (lg_sl ([.ref (g 7), .int p0, .int p1]) ++ List.replicate (3 - (lg_sl ([.ref (g 7), .int p0, .int p1])).length) Slot.unset).toArray = ls at hl ⊢
  have hl : lv_has ls 3 [(0, .ref (g 7)), (1, .int p0), (2, .int p1)] := hl
  rw [fX4_mayRule] at hf
  refine lv_iload_n hx hb dX4_mayRule_0 rfl (lv_at hl 1 rfl) ?_
  refine lv_iconst (v := 2) hx hb dX4_mayRule_1 (by decide) ?_
  refine lv_icmp_eq (tgt := 24) hx hb dX4_mayRule_2 (by decide) (fun c1 => ?_) (fun c1 => ?_)
  · have hf := i_t c1 hf
    refine lv_iconst (v := 1) hx hb dX4_mayRule_24 (by decide) ?_
    refine lv_goto (tgt := 29) hx hb dX4_mayRule_25 (by decide) ?_
    exact j_iret I hx hb hr rfl hlk hf dX4_mayRule_29
  · have hf := i_f c1 hf
    refine lv_iload_n hx hb dX4_mayRule_5 rfl (lv_at hl 1 rfl) ?_
    refine lv_if_eq (tgt := 14) hx hb dX4_mayRule_6 (by decide) (fun c2 => ?_) (fun c2 => ?_)
    · have hf := i_t c2 hf
      refine lv_iload_n hx hb dX4_mayRule_14 rfl (lv_at hl 2 rfl) ?_
      refine lv_iconst (v := 0) hx hb dX4_mayRule_15 (by decide) ?_
      refine lv_bipush (v := 100) hx hb dX4_mayRule_16 (by decide) ?_
      obtain ⟨σ3, r4, h5, hf⟩ := o_obn hf
      refine j_iSN (rest := []) I ⟨hx, hb, hml, hown, hts⟩ (ct_X9_within σ p1 0 100 _ h5) ⟨va_cnB 3 hts gX4_mayRule_X9_within_n26 rfl rfl rfl (nM I.2.2.2.2.2.1 (own := RX4) (index := 26) (y := yX9_within) (host := "ReelNight") (by decide +kernel)) (hts (.initialized RX9) (by decide +kernel)) (by decide +kernel) ⟨Nat.le_of_ble_eq_true rfl, Nat.le_of_ble_eq_true rfl⟩, hts (.static yX9_within) (by decide +kernel), trivial⟩ rfl hl.1 rfl (Nat.le_of_ble_eq_true rfl) dX4_mayRule_18 ⟨Nat.zero_le _, Nat.zero_le _⟩ (fun H locs I => ?_)
      refine lv_if_eq (tgt := 28) hx hb dX4_mayRule_21 (by decide) (fun c6 => ?_) (fun c6 => ?_)
      · have hf := i_t c6 hf
        refine lv_iconst (v := 0) hx hb dX4_mayRule_28 (by decide) ?_
        exact j_iret I hx hb hr rfl hlk hf dX4_mayRule_29
      · have hf := i_f c6 hf
        refine lv_iconst (v := 1) hx hb dX4_mayRule_24 (by decide) ?_
        refine lv_goto (tgt := 29) hx hb dX4_mayRule_25 (by decide) ?_
        exact j_iret I hx hb hr rfl hlk hf dX4_mayRule_29
    · have hf := i_f c2 hf
      refine lv_iload_n hx hb dX4_mayRule_9 rfl (lv_at hl 1 rfl) ?_
      refine lv_iconst (v := 1) hx hb dX4_mayRule_10 (by decide) ?_
      refine lv_icmp_ne (tgt := 28) hx hb dX4_mayRule_11 (by decide) (fun c7 => ?_) (fun c7 => ?_)
      · have hf := i_f c7 hf
        refine lv_iconst (v := 0) hx hb dX4_mayRule_28 (by decide) ?_
        exact j_iret I hx hb hr rfl hlk hf dX4_mayRule_29
      · have hf := i_t c7 hf
        refine lv_iload_n hx hb dX4_mayRule_14 rfl (lv_at hl 2 rfl) ?_
        refine lv_iconst (v := 0) hx hb dX4_mayRule_15 (by decide) ?_
        refine lv_bipush (v := 100) hx hb dX4_mayRule_16 (by decide) ?_
        obtain ⟨σ8, r9, h10, hf⟩ := o_obn hf
        refine j_iSN (rest := []) I ⟨hx, hb, hml, hown, hts⟩ (ct_X9_within σ p1 0 100 _ h10) ⟨va_cnB 3 hts gX4_mayRule_X9_within_n26 rfl rfl rfl (nM I.2.2.2.2.2.1 (own := RX4) (index := 26) (y := yX9_within) (host := "ReelNight") (by decide +kernel)) (hts (.initialized RX9) (by decide +kernel)) (by decide +kernel) ⟨Nat.le_of_ble_eq_true rfl, Nat.le_of_ble_eq_true rfl⟩, hts (.static yX9_within) (by decide +kernel), trivial⟩ rfl hl.1 rfl (Nat.le_of_ble_eq_true rfl) dX4_mayRule_18 ⟨Nat.zero_le _, Nat.zero_le _⟩ (fun H locs I => ?_)
        refine lv_if_eq (tgt := 28) hx hb dX4_mayRule_21 (by decide) (fun c11 => ?_) (fun c11 => ?_)
        · have hf := i_t c11 hf
          refine lv_iconst (v := 0) hx hb dX4_mayRule_28 (by decide) ?_
          exact j_iret I hx hb hr rfl hlk hf dX4_mayRule_29
        · have hf := i_f c11 hf
          refine lv_iconst (v := 1) hx hb dX4_mayRule_24 (by decide) ?_
          refine lv_goto (tgt := 29) hx hb dX4_mayRule_25 (by decide) ?_
          exact j_iret I hx hb hr rfl hlk hf dX4_mayRule_29

theorem iw_X4_shareOf_X1 : ∀ w ∈ u_ws RX1 TX1 6, w ∈ wsX4_shareOf := by decide +kernel
theorem iw_X4_shareOf_X4 : ∀ w ∈ u_ws RX4 TX4 3, w ∈ wsX4_shareOf := by decide +kernel
set_option maxHeartbeats 4000000 in
set_option maxRecDepth 100000 in
theorem ct_X4_shareOf {l : Launch} {D : va_G} {g : Nat → Nat} {Y : YT} {bP : Nat} (σ : St) (p0 : Int32) (p1 : Int32) (res : St × Int32) (hf : fX4_shareOf σ p0 p1 = some res) : Ci l yX4_shareOf wsX4_shareOf ⟨1, 0, 0, 13⟩ D 44 g (KC g Y) Y bP [.ref (g 7), .int p0, .int p1] σ res := by
  intro sz
  refine Met.ofW (cc := cX4_shareOf) (maxL := 4) (ret := (some .int)) (by decide) rfl ?_
  intro p e s m args below meth c s₁ B hml hv
  obtain ⟨rfl, rfl, I⟩ := j_start hv
  have C0 : MC p s m _ meth c cX4_shareOf 4 (some .int) RX4 wsX4_shareOf := ⟨B.exec, B.bytes, B.returns, hml, findClass_of_methodNamed B.named, atoms_spec (ws := wsX4_shareOf) B.pre, B.notSynchronized⟩
  obtain ⟨hx, hb, hr, hml, hown, hts, hlk⟩ := id C0
  have hl := lv_entry ([.ref (g 7), .int p0, .int p1]) (n := 4) (Nat.le_of_ble_eq_true rfl)
  rw [lg_entry_eq]
  generalize (lg_sl ([.ref (g 7), .int p0, .int p1]) ++ List.replicate (4 - (lg_sl ([.ref (g 7), .int p0, .int p1])).length) Slot.unset).toArray = ls at hl ⊢
  have hl : lv_has ls 4 [(0, .ref (g 7)), (1, .int p0), (2, .int p1)] := hl
  rw [fX4_shareOf] at hf
  refine lv_iload_n hx hb dX4_shareOf_0 rfl (lv_at hl 2 rfl) ?_
  refine j_prices I hx hb hown (by decide +kernel) dX4_shareOf_1 ?_
  refine lv_aload_n hx hb dX4_shareOf_4 rfl (lv_at hl 0 rfl) ?_
  refine j_get I hx hb hts iw_X4_shareOf_X4 hown 7 (by decide) (kc7 g Y _) rfl 0 (by decide) (hts (.fieldLink RX4 22 "ReelNight$Receipts" "houses" "LReelNight$Houses;") (by decide +kernel)) rfl dX4_shareOf_5 ?_
  refine j_getN I hx hb hts iw_X4_shareOf_X1 hown 1 (by decide) (kc1 g Y _) rfl 0 (by decide) (by decide +kernel) rfl dX4_shareOf_8 ?_
  refine lv_iload_n hx hb dX4_shareOf_11 rfl (lv_at hl 1 rfl) ?_
  obtain ⟨b1, hf⟩ := o_nb hf
  refine j_ald I hx hb 12 (by decide) (kc12 g Y _) b1 dX4_shareOf_12 ?_
  obtain ⟨b2, hf⟩ := o_nb hf
  refine j_price I hx hb b2 dX4_shareOf_13 ?_
  refine lv_imul hx hb dX4_shareOf_14 ?_
  obtain ⟨v3, ev3, hf⟩ := o_itp hf
  refine top_eq ev3 ?_
  refine lv_istore_n (lv' := [(3, .int v3), (0, .ref (g 7)), (1, .int p0), (2, .int p1)]) hx hb dX4_shareOf_15 rfl hl (by decide) rfl (fun ls hl => ?_)
  refine lv_aload_n hx hb dX4_shareOf_16 rfl (lv_at hl 1 rfl) ?_
  refine j_get I hx hb hts iw_X4_shareOf_X4 hown 7 (by decide) (kc7 g Y _) rfl 0 (by decide) (hts (.fieldLink RX4 22 "ReelNight$Receipts" "houses" "LReelNight$Houses;") (by decide +kernel)) rfl dX4_shareOf_17 ?_
  refine j_getN I hx hb hts iw_X4_shareOf_X1 hown 1 (by decide) (kc1 g Y _) rfl 3 (by decide) (by decide +kernel) rfl dX4_shareOf_20 ?_
  refine lv_iload_n hx hb dX4_shareOf_23 rfl (lv_at hl 2 rfl) ?_
  obtain ⟨b4, hf⟩ := o_nb hf
  refine j_ald I hx hb 15 (by decide) (kc15 g Y _) b4 dX4_shareOf_24 ?_
  refine lv_iload_n hx hb dX4_shareOf_25 rfl (lv_at hl 0 rfl) ?_
  refine lv_aload_n hx hb dX4_shareOf_26 rfl (lv_at hl 1 rfl) ?_
  refine j_get I hx hb hts iw_X4_shareOf_X4 hown 7 (by decide) (kc7 g Y _) rfl 1 (by decide) (hts (.fieldLink RX4 9 "ReelNight$Receipts" "rules" "[I") (by decide +kernel)) rfl dX4_shareOf_27 ?_
  refine lv_iconst (v := 0) hx hb dX4_shareOf_30 (by decide) ?_
  refine j_ald I hx hb 40 (by decide) (kc40 g Y _) (show ¬ ((0 : Int32) < 0 ∨ 3 ≤ (0 : Int32).toNatClampNeg) from by decide) dX4_shareOf_31 ?_
  refine lv_imul hx hb dX4_shareOf_32 ?_
  refine lv_bipush (v := 100) hx hb dX4_shareOf_33 (by decide) ?_
  refine lv_idiv hx hb dX4_shareOf_35 (by decide) ?_
  refine va_mmax hx hb (hml.trans hl.1.symm) hown (hts (.methodLink RX4 41 Lib.Math.max.name) (by decide +kernel)) (hts (.static Lib.Math.max.name) (by decide +kernel)) (hts (.initialized "java/lang/Math") (by decide +kernel)) (hts (.code Lib.Math.max.name Lib.Math.max.code 2 (some .int)) (by decide +kernel)) (Nat.le_of_ble_eq_true rfl) (Nat.le_of_ble_eq_true rfl) (Nat.zero_le _) (Nat.zero_le _) dX4_shareOf_36 ?_
  exact j_iret I hx hb hr rfl hlk hf dX4_shareOf_39

theorem iw_X8_has_X8 : ∀ w ∈ u_ws RX8 TX8 2, w ∈ wsX8_has := fun _ h => List.mem_cons_of_mem _ (List.mem_append_right _ h)
set_option maxHeartbeats 4000000 in
set_option maxRecDepth 100000 in
theorem ct_X8_has_8 {l : Launch} {D : va_G} {g : Nat → Nat} {Y : YT} {bP : Nat} (σ : St) (p0 : Int32) (res : St × Int32) (hf : fX8_has_8 σ p0 = some res) : Ci l yX8_has wsX8_has ⟨0, 0, 0, 0⟩ D 44 g (KC g Y) Y bP [.ref (g 8), .int p0] σ res := by
  intro sz
  refine Met.ofW (cc := cX8_has) (maxL := 2) (ret := (some .boolean)) (by decide) rfl ?_
  intro p e s m args below meth c s₁ B hml hv
  obtain ⟨rfl, rfl, I⟩ := j_start hv
  have C0 : MC p s m _ meth c cX8_has 2 (some .boolean) RX8 wsX8_has := ⟨B.exec, B.bytes, B.returns, hml, findClass_of_methodNamed B.named, atoms_spec (ws := wsX8_has) B.pre, B.notSynchronized⟩
  obtain ⟨hx, hb, hr, hml, hown, hts, hlk⟩ := id C0
  have hl := lv_entry ([.ref (g 8), .int p0]) (n := 2) (Nat.le_of_ble_eq_true rfl)
  rw [lg_entry_eq]
  generalize (lg_sl ([.ref (g 8), .int p0]) ++ List.replicate (2 - (lg_sl ([.ref (g 8), .int p0])).length) Slot.unset).toArray = ls at hl ⊢
  have hl : lv_has ls 2 [(0, .ref (g 8)), (1, .int p0)] := hl
  rw [fX8_has_8] at hf
  refine lv_iload_n hx hb dX8_has_0 rfl (lv_at hl 1 rfl) ?_
  refine lv_if_lt (tgt := 16) hx hb dX8_has_1 (by decide) (fun c1 => ?_) (fun c1 => ?_)
  · have hf := i_t c1 hf
    refine lv_iconst (v := 0) hx hb dX8_has_16 (by decide) ?_
    exact j_iret I hx hb hr rfl hlk hf dX8_has_17
  · have hf := i_f c1 hf
    refine lv_iload_n hx hb dX8_has_4 rfl (lv_at hl 1 rfl) ?_
    refine lv_aload_n hx hb dX8_has_5 rfl (lv_at hl 0 rfl) ?_
    refine j_get I hx hb hts iw_X8_has_X8 hown 8 (by decide) (kc8 g Y _) rfl 1 (by decide) (hts (.fieldLink RX8 15 "ReelNight$Sheet" "size" "I") (by decide +kernel)) rfl dX8_has_6 ?_
    refine lv_icmp_ge (tgt := 16) hx hb dX8_has_9 (by decide) (fun c2 => ?_) (fun c2 => ?_)
    · have hf := i_t c2 hf
      refine lv_iconst (v := 0) hx hb dX8_has_16 (by decide) ?_
      exact j_iret I hx hb hr rfl hlk hf dX8_has_17
    · have hf := i_f c2 hf
      refine lv_iconst (v := 1) hx hb dX8_has_12 (by decide) ?_
      refine lv_goto (tgt := 17) hx hb dX8_has_13 (by decide) ?_
      exact j_iret I hx hb hr rfl hlk hf dX8_has_17

set_option maxHeartbeats 4000000 in
set_option maxRecDepth 100000 in
theorem ct_X8_has_9 {l : Launch} {D : va_G} {g : Nat → Nat} {Y : YT} {bP : Nat} (σ : St) (p0 : Int32) (res : St × Int32) (hf : fX8_has_9 σ p0 = some res) : Ci l yX8_has wsX8_has ⟨0, 0, 0, 0⟩ D 44 g (KC g Y) Y bP [.ref (g 9), .int p0] σ res := by
  intro sz
  refine Met.ofW (cc := cX8_has) (maxL := 2) (ret := (some .boolean)) (by decide) rfl ?_
  intro p e s m args below meth c s₁ B hml hv
  obtain ⟨rfl, rfl, I⟩ := j_start hv
  have C0 : MC p s m _ meth c cX8_has 2 (some .boolean) RX8 wsX8_has := ⟨B.exec, B.bytes, B.returns, hml, findClass_of_methodNamed B.named, atoms_spec (ws := wsX8_has) B.pre, B.notSynchronized⟩
  obtain ⟨hx, hb, hr, hml, hown, hts, hlk⟩ := id C0
  have hl := lv_entry ([.ref (g 9), .int p0]) (n := 2) (Nat.le_of_ble_eq_true rfl)
  rw [lg_entry_eq]
  generalize (lg_sl ([.ref (g 9), .int p0]) ++ List.replicate (2 - (lg_sl ([.ref (g 9), .int p0])).length) Slot.unset).toArray = ls at hl ⊢
  have hl : lv_has ls 2 [(0, .ref (g 9)), (1, .int p0)] := hl
  rw [fX8_has_9] at hf
  refine lv_iload_n hx hb dX8_has_0 rfl (lv_at hl 1 rfl) ?_
  refine lv_if_lt (tgt := 16) hx hb dX8_has_1 (by decide) (fun c1 => ?_) (fun c1 => ?_)
  · have hf := i_t c1 hf
    refine lv_iconst (v := 0) hx hb dX8_has_16 (by decide) ?_
    exact j_iret I hx hb hr rfl hlk hf dX8_has_17
  · have hf := i_f c1 hf
    refine lv_iload_n hx hb dX8_has_4 rfl (lv_at hl 1 rfl) ?_
    refine lv_aload_n hx hb dX8_has_5 rfl (lv_at hl 0 rfl) ?_
    refine j_get I hx hb hts iw_X8_has_X8 hown 9 (by decide) (kc9 g Y _) rfl 1 (by decide) (hts (.fieldLink RX8 15 "ReelNight$Sheet" "size" "I") (by decide +kernel)) rfl dX8_has_6 ?_
    refine lv_icmp_ge (tgt := 16) hx hb dX8_has_9 (by decide) (fun c2 => ?_) (fun c2 => ?_)
    · have hf := i_t c2 hf
      refine lv_iconst (v := 0) hx hb dX8_has_16 (by decide) ?_
      exact j_iret I hx hb hr rfl hlk hf dX8_has_17
    · have hf := i_f c2 hf
      refine lv_iconst (v := 1) hx hb dX8_has_12 (by decide) ?_
      refine lv_goto (tgt := 17) hx hb dX8_has_13 (by decide) ?_
      exact j_iret I hx hb hr rfl hlk hf dX8_has_17

theorem iw_X4_headsToldOf_X1 : ∀ w ∈ u_ws RX1 TX1 6, w ∈ wsX4_headsToldOf := by decide +kernel
theorem iw_X4_headsToldOf_X4 : ∀ w ∈ u_ws RX4 TX4 3, w ∈ wsX4_headsToldOf := by decide +kernel
theorem iw_X4_headsToldOf_X8 : ∀ w ∈ u_ws RX8 TX8 2, w ∈ wsX4_headsToldOf := by decide +kernel
set_option maxHeartbeats 4000000 in
set_option maxRecDepth 100000 in
theorem ct_X4_headsToldOf {l : Launch} {D : va_G} {g : Nat → Nat} {Y : YT} {bP : Nat} (σ : St) (p0 : Int32) (p1 : Int32) (res : St × Int32) (hf : fX4_headsToldOf σ p0 p1 = some res) : Ci l yX4_headsToldOf wsX4_headsToldOf ⟨1, 0, 0, 22⟩ D 44 g (KC g Y) Y bP [.ref (g 7), .int p0, .int p1] σ res := by
  intro sz
  refine Met.ofW (cc := cX4_headsToldOf) (maxL := 5) (ret := (some .int)) (by decide) rfl ?_
  intro p e s m args below meth c s₁ B hml hv
  obtain ⟨rfl, rfl, I⟩ := j_start hv
  have C0 : MC p s m _ meth c cX4_headsToldOf 5 (some .int) RX4 wsX4_headsToldOf := ⟨B.exec, B.bytes, B.returns, hml, findClass_of_methodNamed B.named, atoms_spec (ws := wsX4_headsToldOf) B.pre, B.notSynchronized⟩
  obtain ⟨hx, hb, hr, hml, hown, hts, hlk⟩ := id C0
  have hl := lv_entry ([.ref (g 7), .int p0, .int p1]) (n := 5) (Nat.le_of_ble_eq_true rfl)
  rw [lg_entry_eq]
  generalize (lg_sl ([.ref (g 7), .int p0, .int p1]) ++ List.replicate (5 - (lg_sl ([.ref (g 7), .int p0, .int p1])).length) Slot.unset).toArray = ls at hl ⊢
  have hl : lv_has ls 5 [(0, .ref (g 7)), (1, .int p0), (2, .int p1)] := hl
  rw [fX4_headsToldOf] at hf
  refine lv_iload_n hx hb dX4_headsToldOf_0 rfl (lv_at hl 1 rfl) ?_
  refine lv_iload_n hx hb dX4_headsToldOf_1 rfl (lv_at hl 2 rfl) ?_
  obtain ⟨σ1, r2, h3, hf⟩ := o_obn hf
  refine j_iSN (rest := []) I ⟨hx, hb, hml, hown, hts⟩ (ct_X9_place σ p0 p1 _ h3) ⟨va_cnB 2 hts gX4_headsToldOf_X9_place_n57 rfl rfl rfl (nM I.2.2.2.2.2.1 (own := RX4) (index := 57) (y := yX9_place) (host := "ReelNight") (by decide +kernel)) (hts (.initialized RX9) (by decide +kernel)) (by decide +kernel) ⟨Nat.le_of_ble_eq_true rfl, Nat.le_of_ble_eq_true rfl⟩, hts (.static yX9_place) (by decide +kernel), trivial⟩ rfl hl.1 rfl (Nat.le_of_ble_eq_true rfl) dX4_headsToldOf_2 ⟨Nat.zero_le _, Nat.zero_le _⟩ (fun H locs I => ?_)
  refine lv_istore_n (lv' := [(3, .int r2), (0, .ref (g 7)), (1, .int p0), (2, .int p1)]) hx hb dX4_headsToldOf_5 rfl hl (by decide) rfl (fun ls hl => ?_)
  refine lv_aload_n hx hb dX4_headsToldOf_6 rfl (lv_at hl 1 rfl) ?_
  refine j_get I hx hb hts iw_X4_headsToldOf_X4 hown 7 (by decide) (kc7 g Y _) rfl 2 (by decide) (hts (.fieldLink RX4 18 "ReelNight$Receipts" "sheets" "[LReelNight$Sheet;") (by decide +kernel)) rfl dX4_headsToldOf_7 ?_
  refine lv_iconst (v := 0) hx hb dX4_headsToldOf_10 (by decide) ?_
  refine j_qald I hx hb 41 (by decide) (kc41 g Y _) (show ¬ ((0 : Int32) < 0 ∨ 2 ≤ (0 : Int32).toNatClampNeg) from by decide) dX4_headsToldOf_11 (a := g 8) rfl ?_
  refine lv_iload_n hx hb dX4_headsToldOf_12 rfl (lv_at hl 0 rfl) ?_
  obtain ⟨σ4, r5, h6, hf⟩ := o_obn hf
  refine j_iV (rest := []) I ⟨hx, hb, hml, hown, hts⟩ (ct_X8_has_8 σ1 r2 _ h6) (cwV 1 hts gX4_headsToldOf_X8_has rfl rfl rfl (by decide +kernel) ⟨Nat.le_of_ble_eq_true rfl, Nat.le_of_ble_eq_true rfl⟩) (by decide) (kc8 g Y _) rfl rfl hl.1 rfl (Nat.le_of_ble_eq_true rfl) dX4_headsToldOf_13 ⟨Nat.zero_le _, Nat.zero_le _⟩ (fun H locs I => ?_)
  refine lv_if_ne (tgt := 21) hx hb dX4_headsToldOf_16 (by decide) (fun c7 => ?_) (fun c7 => ?_)
  · have hf := i_f c7 hf
    refine lv_aload_n hx hb dX4_headsToldOf_21 rfl (lv_at hl 1 rfl) ?_
    refine j_get I hx hb hts iw_X4_headsToldOf_X4 hown 7 (by decide) (kc7 g Y _) rfl 2 (by decide) (hts (.fieldLink RX4 18 "ReelNight$Receipts" "sheets" "[LReelNight$Sheet;") (by decide +kernel)) rfl dX4_headsToldOf_22 ?_
    refine lv_iconst (v := 0) hx hb dX4_headsToldOf_25 (by decide) ?_
    refine j_qald I hx hb 41 (by decide) (kc41 g Y _) (show ¬ ((0 : Int32) < 0 ∨ 2 ≤ (0 : Int32).toNatClampNeg) from by decide) dX4_headsToldOf_26 (a := g 8) rfl ?_
    refine j_getN I hx hb hts iw_X4_headsToldOf_X8 hown 8 (by decide) (kc8 g Y _) rfl 0 (by decide) (by decide +kernel) rfl dX4_headsToldOf_27 ?_
    refine lv_iload_n hx hb dX4_headsToldOf_30 rfl (lv_at hl 0 rfl) ?_
    obtain ⟨b8, hf⟩ := o_nb hf
    refine j_sald I hx hb 42 (by decide) (kc42 g Y _) b8 dX4_headsToldOf_31 ?_
    obtain ⟨v9, ev9, hf⟩ := o_itp hf
    refine top_eq ev9 ?_
    refine lv_istore (lv' := [(4, .int v9), (3, .int r2), (0, .ref (g 7)), (1, .int p0), (2, .int p1)]) hx hb dX4_headsToldOf_32 hl (by decide) rfl (fun ls hl => ?_)
    refine lv_iload hx hb dX4_headsToldOf_34 (lv_at hl 0 rfl) ?_
    refine lv_iconst (v := 0) hx hb dX4_headsToldOf_36 (by decide) ?_
    refine lv_aload_n hx hb dX4_headsToldOf_37 rfl (lv_at hl 2 rfl) ?_
    refine j_get I hx hb hts iw_X4_headsToldOf_X4 hown 7 (by decide) (kc7 g Y _) rfl 0 (by decide) (hts (.fieldLink RX4 22 "ReelNight$Receipts" "houses" "LReelNight$Houses;") (by decide +kernel)) rfl dX4_headsToldOf_38 ?_
    refine j_getN I hx hb hts iw_X4_headsToldOf_X1 hown 1 (by decide) (kc1 g Y _) rfl 1 (by decide) (by decide +kernel) rfl dX4_headsToldOf_41 ?_
    refine lv_iload_n hx hb dX4_headsToldOf_44 rfl (lv_at hl 4 rfl) ?_
    obtain ⟨b10, hf⟩ := o_nb hf
    refine j_ald I hx hb 13 (by decide) (kc13 g Y _) b10 dX4_headsToldOf_45 ?_
    obtain ⟨σ11, r12, h13, hf⟩ := o_obn hf
    refine j_iSN (rest := []) I ⟨hx, hb, hml, hown, hts⟩ (ct_X9_within σ4 v9 0 (σ4 13 p1.toNatClampNeg) _ h13) ⟨va_cnB 3 hts gX4_headsToldOf_X9_within_n26 rfl rfl rfl (nM I.2.2.2.2.2.1 (own := RX4) (index := 26) (y := yX9_within) (host := "ReelNight") (by decide +kernel)) (hts (.initialized RX9) (by decide +kernel)) (by decide +kernel) ⟨Nat.le_of_ble_eq_true rfl, Nat.le_of_ble_eq_true rfl⟩, hts (.static yX9_within) (by decide +kernel), trivial⟩ rfl hl.1 rfl (Nat.le_of_ble_eq_true rfl) dX4_headsToldOf_46 ⟨Nat.zero_le _, Nat.zero_le _⟩ (fun H locs I => ?_)
    refine lv_if_eq (tgt := 57) hx hb dX4_headsToldOf_49 (by decide) (fun c14 => ?_) (fun c14 => ?_)
    · have hf := i_t c14 hf
      refine lv_iconst (v := 0) hx hb dX4_headsToldOf_57 (by decide) ?_
      exact j_iret I hx hb hr rfl hlk hf dX4_headsToldOf_58
    · have hf := i_f c14 hf
      refine lv_iload hx hb dX4_headsToldOf_52 (lv_at hl 0 rfl) ?_
      refine lv_goto (tgt := 58) hx hb dX4_headsToldOf_54 (by decide) ?_
      exact j_iret I hx hb hr rfl hlk hf dX4_headsToldOf_58
  · have hf := i_t c7 hf
    refine lv_iconst (v := 0) hx hb dX4_headsToldOf_19 (by decide) ?_
    exact j_iret I hx hb hr rfl hlk hf dX4_headsToldOf_20
