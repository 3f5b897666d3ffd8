theorem iw_X4_allShares_X1 : ∀ w ∈ u_ws RX1 TX1 6, w ∈ wsX4_allShares := fun _ h => List.mem_cons_of_mem _ (List.mem_append_left _ (List.mem_append_right _ h))
theorem iw_X4_allShares_X4 : ∀ w ∈ u_ws RX4 TX4 3, w ∈ wsX4_allShares := fun _ h => List.mem_cons_of_mem _ (List.mem_append_left _ (List.mem_append_left _ (List.mem_append_right _ h)))
set_option maxHeartbeats 4000000 in
set_option maxRecDepth 100000 in
theorem bX4_allShares_L4 {p : Program} {l : Launch} {e : Env} {s : State} {m : MethodId} {args : Array Value} {below : List Frame} {meth : Method} {c : Code} {D : va_G} {g : Nat → Nat} {Y : YT} {bP : Nat} {σ0 : St} {res : St × Int32} (C0 : MC p s m args meth c cX4_allShares 4 (some .int) RX4 wsX4_allShares) : ∀ (n : Nat) (σ : St) (a1 : Int32) (a2 : Int32) (a3 : Int32) (H : Heap) (locs : List Loc) (ls : Array Slot), fX4_allShares_L4 n σ a1 a2 a3 = some res → JW D 44 g (KC g Y) Y bP (va_A (wd 44 g (KC g Y) σ0) s.heap.size) s σ H locs → lv_has ls 4 [(0, .ref (g 7)), (1, .int a1), (2, .int a2), (3, .int a3)] → W p l e (⟨2, 0, 0, 46⟩ : Room) s m args below meth c H locs 0 0 (MQ below (Qi D 44 g (KC g Y) Y σ0 res s.heap.size) args s 0 0 (va_A (wd 44 g (KC g Y) σ0) s.heap.size)) (F0 m 4 ls []) := by
  have C0 := C0
  obtain ⟨hx, hb, hr, hml, hown, hts, hlk⟩ := id C0
  intro n
  induction n with
  | zero =>
    intro σ a1 a2 a3 H locs ls hf
    cases hf
  | succ n ih =>
    intro σ a1 a2 a3 H locs ls hf I hl
    rw [fX4_allShares_L4] at hf
    refine lv_iload_n hx hb dX4_allShares_4 rfl (lv_at hl 3 rfl) ?_
    refine lv_aload_n hx hb dX4_allShares_5 rfl (lv_at hl 0 rfl) ?_
    refine j_get I hx hb hts iw_X4_allShares_X4 hown 7 (by decide) (kc7 g Y _) rfl 0 (by decide) (hts (.fieldLink RX4 22 "ReelNight$Receipts" "houses" "LReelNight$Houses;") (by decide +kernel)) rfl dX4_allShares_6 ?_
    refine j_getN I hx hb hts iw_X4_allShares_X1 hown 1 (by decide) (kc1 g Y _) rfl 5 (by decide) (by decide +kernel) rfl dX4_allShares_9 ?_
    refine lv_icmp_ge (tgt := 35) hx hb dX4_allShares_12 (by decide) (fun c1 => ?_) (fun c1 => ?_)
    · have hf := i_t c1 hf
      refine lv_iload_n hx hb dX4_allShares_35 rfl (lv_at hl 2 rfl) ?_
      exact j_iret I hx hb hr rfl hlk hf dX4_allShares_36
    · have hf := i_f c1 hf
      refine lv_iload_n hx hb dX4_allShares_15 rfl (lv_at hl 2 rfl) ?_
      refine lv_aload_n hx hb dX4_allShares_16 rfl (lv_at hl 0 rfl) ?_
      refine lv_iload_n hx hb dX4_allShares_17 rfl (lv_at hl 3 rfl) ?_
      refine lv_aload_n hx hb dX4_allShares_18 rfl (lv_at hl 0 rfl) ?_
      refine lv_iload_n hx hb dX4_allShares_19 rfl (lv_at hl 1 rfl) ?_
      refine lv_iload_n hx hb dX4_allShares_20 rfl (lv_at hl 3 rfl) ?_
      obtain ⟨σ2, r3, h4, hf⟩ := o_obn hf
      refine j_iV (rest := [.int a3, .ref (g 7), .int a2]) I ⟨hx, hb, hml, hown, hts⟩ (ct_X4_headsToldOf σ a1 a3 _ h4) (cwV 2 hts gX4_allShares_X4_headsToldOf rfl rfl rfl (by decide +kernel) ⟨Nat.le_of_ble_eq_true rfl, Nat.le_of_ble_eq_true rfl⟩) (by decide) (kc7 g Y _) rfl rfl hl.1 rfl (Nat.le_of_ble_eq_true rfl) dX4_allShares_21 ⟨Nat.zero_le _, Nat.zero_le _⟩ (fun H locs I => ?_)
      obtain ⟨σ5, r6, h7, hf⟩ := o_obn hf
      refine j_iV (rest := [.int a2]) I ⟨hx, hb, hml, hown, hts⟩ (ct_X4_shareOf σ2 a3 r3 _ h7) (cwV 2 hts gX4_allShares_X4_shareOf rfl rfl rfl (by decide +kernel) ⟨Nat.le_of_ble_eq_true rfl, Nat.le_of_ble_eq_true rfl⟩) (by decide) (kc7 g Y _) rfl rfl hl.1 rfl (Nat.le_of_ble_eq_true rfl) dX4_allShares_24 ⟨Nat.zero_le _, Nat.zero_le _⟩ (fun H locs I => ?_)
      refine lv_iadd hx hb dX4_allShares_27 ?_
      obtain ⟨v8, ev8, hf⟩ := o_itp hf
      refine top_eq ev8 ?_
      refine lv_istore_n (lv' := [(2, .int v8), (0, .ref (g 7)), (1, .int a1), (3, .int a3)]) hx hb dX4_allShares_28 rfl hl (by decide) rfl (fun ls hl => ?_)
      refine lv_iinc (v := (a3 + 1)) (lv' := [(3, .int (a3 + 1)), (2, .int v8), (0, .ref (g 7)), (1, .int a1)]) hx hb dX4_allShares_29 hl (k := 3) rfl rfl (by decide) rfl (fun ls hl => ?_)
      refine lv_goto (tgt := 4) hx hb dX4_allShares_32 (by decide) ?_
      exact ih σ5 a1 v8 (a3 + 1) _ _ _ hf I (lv_sub hl [2, 3, 1, 0] rfl)
set_option maxHeartbeats 4000000 in
set_option maxRecDepth 100000 in
theorem ct_X4_allShares {l : Launch} {D : va_G} {g : Nat → Nat} {Y : YT} {bP : Nat} (σ : St) (p0 : Int32) (res : St × Int32) (hf : fX4_allShares σ p0 = some res) : Ci l yX4_allShares wsX4_allShares ⟨2, 0, 0, 46⟩ D 44 g (KC g Y) Y bP [.ref (g 7), .int p0] σ res := by
  intro sz
  refine Met.ofW (cc := cX4_allShares) (maxL := 4) (ret := (some .int)) (by decide) rfl ?_
  intro p e s m args below meth c s₁ B hml hv
  obtain ⟨rfl, rfl, I⟩ := j_start hv
  have C0 : MC p s m _ meth c cX4_allShares 4 (some .int) RX4 wsX4_allShares := ⟨B.exec, B.bytes, B.returns, hml, findClass_of_methodNamed B.named, atoms_spec (ws := wsX4_allShares) B.pre, B.notSynchronized⟩
  obtain ⟨hx, hb, hr, hml, hown, hts, hlk⟩ := id C0
  have hl := lv_entry ([.ref (g 7), .int p0]) (n := 4) (Nat.le_of_ble_eq_true rfl)
  rw [lg_entry_eq]
  generalize (lg_sl ([.ref (g 7), .int p0]) ++ List.replicate (4 - (lg_sl ([.ref (g 7), .int p0])).length) Slot.unset).toArray = ls at hl ⊢
  have hl : lv_has ls 4 [(0, .ref (g 7)), (1, .int p0)] := hl
  rw [fX4_allShares] at hf
  refine lv_iconst (v := 0) hx hb dX4_allShares_0 (by decide) ?_
  refine lv_istore_n (lv' := [(2, .int 0), (0, .ref (g 7)), (1, .int p0)]) hx hb dX4_allShares_1 rfl hl (by decide) rfl (fun ls hl => ?_)
  refine lv_iconst (v := 0) hx hb dX4_allShares_2 (by decide) ?_
  refine lv_istore_n (lv' := [(3, .int 0), (2, .int 0), (0, .ref (g 7)), (1, .int p0)]) hx hb dX4_allShares_3 rfl hl (by decide) rfl (fun ls hl => ?_)
  refine bX4_allShares_L4 C0 50 σ p0 0 0 _ _ _ hf I (lv_sub hl [2, 3, 1, 0] rfl)

theorem iw_X4_checkedBits_X1 : ∀ w ∈ u_ws RX1 TX1 6, w ∈ wsX4_checkedBits := by decide +kernel
theorem iw_X4_checkedBits_X4 : ∀ w ∈ u_ws RX4 TX4 3, w ∈ wsX4_checkedBits := by decide +kernel
set_option maxHeartbeats 4000000 in
set_option maxRecDepth 100000 in
theorem bX4_checkedBits_L19 {p : Program} {l : Launch} {e : Env} {s : State} {m : MethodId} {args : Array Value} {below : List Frame} {meth : Method} {c : Code} {D : va_G} {g : Nat → Nat} {Y : YT} {bP : Nat} {σ0 : St} {res : St × Int32} (C0 : MC p s m args meth c cX4_checkedBits 6 (some .int) RX4 wsX4_checkedBits) : ∀ (n : Nat) (σ : St) (a2 : Int32) (a3 : Int32) (a4 : Int32) (a5 : Int32) (H : Heap) (locs : List Loc) (ls : Array Slot), fX4_checkedBits_L19 n σ a2 a3 a4 a5 = some res → JW D 44 g (KC g Y) Y bP (va_A (wd 44 g (KC g Y) σ0) s.heap.size) s σ H locs → lv_has ls 6 [(0, .ref (g 7)), (2, .int a2), (3, .int a3), (4, .int a4), (5, .int a5)] → W p l e (⟨1, 0, 0, 21⟩ : Room) s m args below meth c H locs 0 0 (MQ below (Qi D 44 g (KC g Y) Y σ0 res s.heap.size) args s 0 0 (va_A (wd 44 g (KC g Y) σ0) s.heap.size)) (F0 m 19 ls []) := by
  have C0 := C0
  obtain ⟨hx, hb, hr, hml, hown, hts, hlk⟩ := id C0
  intro n
  induction n with
  | zero =>
    intro σ a2 a3 a4 a5 H locs ls hf
    cases hf
  | succ n ih =>
    intro σ a2 a3 a4 a5 H locs ls hf I hl
    rw [fX4_checkedBits_L19] at hf
    refine lv_iload hx hb dX4_checkedBits_19 (lv_at hl 4 rfl) ?_
    refine lv_iload hx hb dX4_checkedBits_21 (lv_at hl 3 rfl) ?_
    refine lv_aload_n hx hb dX4_checkedBits_23 rfl (lv_at hl 0 rfl) ?_
    refine j_get I hx hb hts iw_X4_checkedBits_X4 hown 7 (by decide) (kc7 g Y _) rfl 0 (by decide) (hts (.fieldLink RX4 22 "ReelNight$Receipts" "houses" "LReelNight$Houses;") (by decide +kernel)) rfl dX4_checkedBits_24 ?_
    refine j_getN I hx hb hts iw_X4_checkedBits_X1 hown 1 (by decide) (kc1 g Y _) rfl 5 (by decide) (by decide +kernel) rfl dX4_checkedBits_27 ?_
    refine lv_iadd hx hb dX4_checkedBits_30 ?_
    refine lv_icmp_ge (tgt := 81) hx hb dX4_checkedBits_31 (by decide) (fun c5 => ?_) (fun c5 => ?_)
    · have hf := i_t c5 hf
      refine lv_iload_n hx hb dX4_checkedBits_81 rfl (lv_at hl 1 rfl) ?_
      exact j_iret I hx hb hr rfl hlk hf dX4_checkedBits_82
    · have hf := i_f c5 hf
      refine lv_iload_n hx hb dX4_checkedBits_34 rfl (lv_at hl 2 rfl) ?_
      refine lv_ldc hx hb hown (hts (.constant RX4 71 1664525) (by decide +kernel)) dX4_checkedBits_35 ?_
      refine lv_imul hx hb dX4_checkedBits_37 ?_
      refine lv_ldc hx hb hown (hts (.constant RX4 72 1013904223) (by decide +kernel)) dX4_checkedBits_38 ?_
      refine lv_iadd hx hb dX4_checkedBits_40 ?_
      obtain ⟨v6, ev6, hf⟩ := o_itp hf
      refine top_eq ev6 ?_
      refine lv_istore_n (lv' := [(3, .int v6), (0, .ref (g 7)), (2, .int a2), (4, .int a4), (5, .int a5)]) hx hb dX4_checkedBits_41 rfl hl (by decide) rfl (fun ls hl => ?_)
      refine lv_iload hx hb dX4_checkedBits_42 (lv_at hl 4 rfl) ?_
      refine lv_iload hx hb dX4_checkedBits_44 (lv_at hl 3 rfl) ?_
      refine lv_icmp_lt (tgt := 75) hx hb dX4_checkedBits_46 (by decide) (fun c7 => ?_) (fun c7 => ?_)
      · have hf := i_t c7 hf
        refine lv_iinc (v := (a5 + 1)) (lv' := [(5, .int (a5 + 1)), (3, .int v6), (0, .ref (g 7)), (2, .int a2), (4, .int a4)]) hx hb dX4_checkedBits_75 hl (k := 4) rfl rfl (by decide) rfl (fun ls hl => ?_)
        refine lv_goto (tgt := 19) hx hb dX4_checkedBits_78 (by decide) ?_
        exact ih σ a2 v6 a4 (a5 + 1) _ _ _ hf I (lv_sub hl [2, 3, 1, 4, 0] rfl)
      · have hf := i_f c7 hf
        refine lv_iload_n hx hb dX4_checkedBits_49 rfl (lv_at hl 0 rfl) ?_
        refine lv_bipush (v := 8) hx hb dX4_checkedBits_50 (by decide) ?_
        refine lv_iushr hx hb dX4_checkedBits_52 rfl ?_
        refine lv_bipush (v := 100) hx hb dX4_checkedBits_53 (by decide) ?_
        refine lv_irem hx hb dX4_checkedBits_55 (by decide) ?_
        refine lv_aload_n hx hb dX4_checkedBits_56 rfl (lv_at hl 1 rfl) ?_
        refine j_get I hx hb hts iw_X4_checkedBits_X4 hown 7 (by decide) (kc7 g Y _) rfl 1 (by decide) (hts (.fieldLink RX4 9 "ReelNight$Receipts" "rules" "[I") (by decide +kernel)) rfl dX4_checkedBits_57 ?_
        refine lv_iconst (v := 1) hx hb dX4_checkedBits_60 (by decide) ?_
        refine j_ald I hx hb 40 (by decide) (kc40 g Y _) (show ¬ ((1 : Int32) < 0 ∨ 3 ≤ (1 : Int32).toNatClampNeg) from by decide) dX4_checkedBits_61 ?_
        refine lv_icmp_ge (tgt := 75) hx hb dX4_checkedBits_62 (by decide) (fun c8 => ?_) (fun c8 => ?_)
        · have hf := i_t c8 hf
          refine lv_iinc (v := (a5 + 1)) (lv' := [(5, .int (a5 + 1)), (3, .int v6), (0, .ref (g 7)), (2, .int a2), (4, .int a4)]) hx hb dX4_checkedBits_75 hl (k := 4) rfl rfl (by decide) rfl (fun ls hl => ?_)
          refine lv_goto (tgt := 19) hx hb dX4_checkedBits_78 (by decide) ?_
          exact ih σ a2 v6 a4 (a5 + 1) _ _ _ hf I (lv_sub hl [2, 3, 1, 4, 0] rfl)
        · have hf := i_f c8 hf
          refine lv_iload_n hx hb dX4_checkedBits_65 rfl (lv_at hl 2 rfl) ?_
          refine lv_iconst (v := 1) hx hb dX4_checkedBits_66 (by decide) ?_
          refine lv_iload hx hb dX4_checkedBits_67 (lv_at hl 4 rfl) ?_
          refine lv_iload hx hb dX4_checkedBits_69 (lv_at hl 3 rfl) ?_
          refine lv_isub hx hb dX4_checkedBits_71 ?_
          refine lv_ishl hx hb dX4_checkedBits_72 ?_
          refine lv_ior hx hb dX4_checkedBits_73 ?_
          obtain ⟨v9, ev9, hf⟩ := o_itp hf
          refine top_eq ev9 ?_
          refine lv_istore_n (lv' := [(2, .int v9), (3, .int v6), (0, .ref (g 7)), (4, .int a4), (5, .int a5)]) hx hb dX4_checkedBits_74 rfl hl (by decide) rfl (fun ls hl => ?_)
          refine lv_iinc (v := (a5 + 1)) (lv' := [(5, .int (a5 + 1)), (2, .int v9), (3, .int v6), (0, .ref (g 7)), (4, .int a4)]) hx hb dX4_checkedBits_75 hl (k := 4) rfl rfl (by decide) rfl (fun ls hl => ?_)
          refine lv_goto (tgt := 19) hx hb dX4_checkedBits_78 (by decide) ?_
          exact ih σ v9 v6 a4 (a5 + 1) _ _ _ hf I (lv_sub hl [3, 1, 2, 4, 0] rfl)
set_option maxHeartbeats 4000000 in
set_option maxRecDepth 100000 in
theorem ct_X4_checkedBits {l : Launch} {D : va_G} {g : Nat → Nat} {Y : YT} {bP : Nat} (σ : St) (p0 : Int32) (res : St × Int32) (hf : fX4_checkedBits σ p0 = some res) : Ci l yX4_checkedBits wsX4_checkedBits ⟨1, 0, 0, 21⟩ D 44 g (KC g Y) Y bP [.ref (g 7), .int p0] σ res := by
  intro sz
  refine Met.ofW (cc := cX4_checkedBits) (maxL := 6) (ret := (some .int)) (by decide) rfl ?_
  intro p e s m args below meth c s₁ B hml hv
  obtain ⟨rfl, rfl, I⟩ := j_start hv
  have C0 : MC p s m _ meth c cX4_checkedBits 6 (some .int) RX4 wsX4_checkedBits := ⟨B.exec, B.bytes, B.returns, hml, findClass_of_methodNamed B.named, atoms_spec (ws := wsX4_checkedBits) B.pre, B.notSynchronized⟩
  obtain ⟨hx, hb, hr, hml, hown, hts, hlk⟩ := id C0
  have hl := lv_entry ([.ref (g 7), .int p0]) (n := 6) (Nat.le_of_ble_eq_true rfl)
  rw [lg_entry_eq]
  generalize (lg_sl ([.ref (g 7), .int p0]) ++ List.replicate (6 - (lg_sl ([.ref (g 7), .int p0])).length) Slot.unset).toArray = ls at hl ⊢
  have hl : lv_has ls 6 [(0, .ref (g 7)), (1, .int p0)] := hl
  rw [fX4_checkedBits] at hf
  refine lv_iconst (v := 0) hx hb dX4_checkedBits_0 (by decide) ?_
  refine lv_istore_n (lv' := [(2, .int 0), (0, .ref (g 7)), (1, .int p0)]) hx hb dX4_checkedBits_1 rfl hl (by decide) rfl (fun ls hl => ?_)
  refine lv_aload_n hx hb dX4_checkedBits_2 rfl (lv_at hl 1 rfl) ?_
  refine j_get I hx hb hts iw_X4_checkedBits_X4 hown 7 (by decide) (kc7 g Y _) rfl 1 (by decide) (hts (.fieldLink RX4 9 "ReelNight$Receipts" "rules" "[I") (by decide +kernel)) rfl dX4_checkedBits_3 ?_
  refine lv_iconst (v := 2) hx hb dX4_checkedBits_6 (by decide) ?_
  refine j_ald I hx hb 40 (by decide) (kc40 g Y _) (show ¬ ((2 : Int32) < 0 ∨ 3 ≤ (2 : Int32).toNatClampNeg) from by decide) dX4_checkedBits_7 ?_
  obtain ⟨v1, ev1, hf⟩ := o_itp hf
  refine top_eq ev1 ?_
  refine lv_istore_n (lv' := [(3, .int v1), (2, .int 0), (0, .ref (g 7)), (1, .int p0)]) hx hb dX4_checkedBits_8 rfl hl (by decide) rfl (fun ls hl => ?_)
  refine lv_iload_n hx hb dX4_checkedBits_9 rfl (lv_at hl 3 rfl) ?_
  refine lv_iconst (v := 0) hx hb dX4_checkedBits_10 (by decide) ?_
  obtain ⟨σ2, r3, h4, hf⟩ := o_obn hf
  refine j_iSN (rest := []) I ⟨hx, hb, hml, hown, hts⟩ (ct_X9_place σ p0 0 _ h4) ⟨va_cnB 2 hts gX4_checkedBits_X9_place_n57 rfl rfl rfl (nM I.2.2.2.2.2.1 (own := RX4) (index := 57) (y := yX9_place) (host := "ReelNight") (by decide +kernel)) (hts (.initialized RX9) (by decide +kernel)) (by decide +kernel) ⟨Nat.le_of_ble_eq_true rfl, Nat.le_of_ble_eq_true rfl⟩, hts (.static yX9_place) (by decide +kernel), trivial⟩ rfl hl.1 rfl (Nat.le_of_ble_eq_true rfl) dX4_checkedBits_11 ⟨Nat.zero_le _, Nat.zero_le _⟩ (fun H locs I => ?_)
  refine lv_istore (lv' := [(4, .int r3), (3, .int v1), (2, .int 0), (0, .ref (g 7)), (1, .int p0)]) hx hb dX4_checkedBits_14 hl (by decide) rfl (fun ls hl => ?_)
  refine lv_iconst (v := 0) hx hb dX4_checkedBits_16 (by decide) ?_
  refine lv_istore (lv' := [(5, .int 0), (4, .int r3), (3, .int v1), (2, .int 0), (0, .ref (g 7)), (1, .int p0)]) hx hb dX4_checkedBits_17 hl (by decide) rfl (fun ls hl => ?_)
  refine bX4_checkedBits_L19 C0 50 σ2 0 v1 r3 0 _ _ _ hf I (lv_sub hl [4, 3, 2, 1, 0] rfl)

theorem iw_X8_isMissing_X8 : ∀ w ∈ u_ws RX8 TX8 2, w ∈ wsX8_isMissing := fun _ h => List.mem_cons_of_mem _ (List.mem_append_right _ h)
set_option maxHeartbeats 4000000 in
set_option maxRecDepth 100000 in
theorem ct_X8_isMissing_8 {l : Launch} {D : va_G} {g : Nat → Nat} {Y : YT} {bP : Nat} (σ : St) (res : St × Int32) (hf : fX8_isMissing_8 σ = some res) : Ci l yX8_isMissing wsX8_isMissing ⟨0, 0, 0, 0⟩ D 44 g (KC g Y) Y bP [.ref (g 8)] σ res := by
  intro sz
  refine Met.ofW (cc := cX8_isMissing) (maxL := 1) (ret := (some .boolean)) (by decide) rfl ?_
  intro p e s m args below meth c s₁ B hml hv
  obtain ⟨rfl, rfl, I⟩ := j_start hv
  have C0 : MC p s m _ meth c cX8_isMissing 1 (some .boolean) RX8 wsX8_isMissing := ⟨B.exec, B.bytes, B.returns, hml, findClass_of_methodNamed B.named, atoms_spec (ws := wsX8_isMissing) B.pre, B.notSynchronized⟩
  obtain ⟨hx, hb, hr, hml, hown, hts, hlk⟩ := id C0
  have hl := lv_entry ([.ref (g 8)]) (n := 1) (Nat.le_of_ble_eq_true rfl)
  rw [lg_entry_eq]
  generalize (lg_sl ([.ref (g 8)]) ++ List.replicate (1 - (lg_sl ([.ref (g 8)])).length) Slot.unset).toArray = ls at hl ⊢
  have hl : lv_has ls 1 [(0, .ref (g 8))] := hl
  rw [fX8_isMissing_8] at hf
  refine lv_aload_n hx hb dX8_isMissing_0 rfl (lv_at hl 0 rfl) ?_
  refine j_get I hx hb hts iw_X8_isMissing_X8 hown 8 (by decide) (kc8 g Y _) rfl 1 (by decide) (hts (.fieldLink RX8 15 "ReelNight$Sheet" "size" "I") (by decide +kernel)) rfl dX8_isMissing_1 ?_
  refine lv_iconst (v := (-1)) hx hb dX8_isMissing_4 (by decide) ?_
  refine lv_icmp_ne (tgt := 12) hx hb dX8_isMissing_5 (by decide) (fun c1 => ?_) (fun c1 => ?_)
  · have hf := i_f c1 hf
    refine lv_iconst (v := 0) hx hb dX8_isMissing_12 (by decide) ?_
    exact j_iret I hx hb hr rfl hlk hf dX8_isMissing_13
  · have hf := i_t c1 hf
    refine lv_iconst (v := 1) hx hb dX8_isMissing_8 (by decide) ?_
    refine lv_goto (tgt := 13) hx hb dX8_isMissing_9 (by decide) ?_
    exact j_iret I hx hb hr rfl hlk hf dX8_isMissing_13

set_option maxHeartbeats 4000000 in
set_option maxRecDepth 100000 in
theorem ct_X8_isMissing_9 {l : Launch} {D : va_G} {g : Nat → Nat} {Y : YT} {bP : Nat} (σ : St) (res : St × Int32) (hf : fX8_isMissing_9 σ = some res) : Ci l yX8_isMissing wsX8_isMissing ⟨0, 0, 0, 0⟩ D 44 g (KC g Y) Y bP [.ref (g 9)] σ res := by
  intro sz
  refine Met.ofW (cc := cX8_isMissing) (maxL := 1) (ret := (some .boolean)) (by decide) rfl ?_
  intro p e s m args below meth c s₁ B hml hv
  obtain ⟨rfl, rfl, I⟩ := j_start hv
  have C0 : MC p s m _ meth c cX8_isMissing 1 (some .boolean) RX8 wsX8_isMissing := ⟨B.exec, B.bytes, B.returns, hml, findClass_of_methodNamed B.named, atoms_spec (ws := wsX8_isMissing) B.pre, B.notSynchronized⟩
  obtain ⟨hx, hb, hr, hml, hown, hts, hlk⟩ := id C0
  have hl := lv_entry ([.ref (g 9)]) (n := 1) (Nat.le_of_ble_eq_true rfl)
  rw [lg_entry_eq]
  generalize (lg_sl ([.ref (g 9)]) ++ List.replicate (1 - (lg_sl ([.ref (g 9)])).length) Slot.unset).toArray = ls at hl ⊢
  have hl : lv_has ls 1 [(0, .ref (g 9))] := hl
  rw [fX8_isMissing_9] at hf
  refine lv_aload_n hx hb dX8_isMissing_0 rfl (lv_at hl 0 rfl) ?_
  refine j_get I hx hb hts iw_X8_isMissing_X8 hown 9 (by decide) (kc9 g Y _) rfl 1 (by decide) (hts (.fieldLink RX8 15 "ReelNight$Sheet" "size" "I") (by decide +kernel)) rfl dX8_isMissing_1 ?_
  refine lv_iconst (v := (-1)) hx hb dX8_isMissing_4 (by decide) ?_
  refine lv_icmp_ne (tgt := 12) hx hb dX8_isMissing_5 (by decide) (fun c1 => ?_) (fun c1 => ?_)
  · have hf := i_f c1 hf
    refine lv_iconst (v := 0) hx hb dX8_isMissing_12 (by decide) ?_
    exact j_iret I hx hb hr rfl hlk hf dX8_isMissing_13
  · have hf := i_t c1 hf
    refine lv_iconst (v := 1) hx hb dX8_isMissing_8 (by decide) ?_
    refine lv_goto (tgt := 13) hx hb dX8_isMissing_9 (by decide) ?_
    exact j_iret I hx hb hr rfl hlk hf dX8_isMissing_13

theorem iw_X4_sheetsThere_X4 : ∀ w ∈ u_ws RX4 TX4 3, w ∈ wsX4_sheetsThere := by decide +kernel
set_option maxHeartbeats 4000000 in
set_option maxRecDepth 100000 in
theorem bX4_sheetsThere_L4 {p : Program} {l : Launch} {e : Env} {s : State} {m : MethodId} {args : Array Value} {below : List Frame} {meth : Method} {c : Code} {D : va_G} {g : Nat → Nat} {Y : YT} {bP : Nat} {σ0 : St} {res : St × Int32} (C0 : MC p s m args meth c cX4_sheetsThere 3 (some .int) RX4 wsX4_sheetsThere) : ∀ (n : Nat) (σ : St) (a1 : Int32) (a2 : Int32) (H : Heap) (locs : List Loc) (ls : Array Slot), fX4_sheetsThere_L4 n σ a1 a2 = some res → JW D 44 g (KC g Y) Y bP (va_A (wd 44 g (KC g Y) σ0) s.heap.size) s σ H locs → lv_has ls 3 [(0, .ref (g 7)), (1, .int a1), (2, .int a2)] → W p l e (⟨1, 0, 0, 20⟩ : Room) s m args below meth c H locs 0 0 (MQ below (Qi D 44 g (KC g Y) Y σ0 res s.heap.size) args s 0 0 (va_A (wd 44 g (KC g Y) σ0) s.heap.size)) (F0 m 4 ls []) := by
  have C0 := C0
  obtain ⟨hx, hb, hr, hml, hown, hts, hlk⟩ := id C0
  intro n
  induction n with
  | zero =>
    intro σ a1 a2 H locs ls hf
    cases hf
  | succ n ih =>
    intro σ a1 a2 H locs ls hf I hl
    rw [fX4_sheetsThere_L4] at hf
    refine lv_iload_n hx hb dX4_sheetsThere_4 rfl (lv_at hl 2 rfl) ?_
    refine lv_iconst (v := 2) hx hb dX4_sheetsThere_5 (by decide) ?_
    refine lv_icmp_ge (tgt := 30) hx hb dX4_sheetsThere_6 (by decide) (fun c1 => ?_) (fun c1 => ?_)
    · have hf := i_t c1 hf
      refine lv_iload_n hx hb dX4_sheetsThere_30 rfl (lv_at hl 1 rfl) ?_
      exact j_iret I hx hb hr rfl hlk hf dX4_sheetsThere_31
    · have hf := i_f c1 hf
      refine lv_aload_n hx hb dX4_sheetsThere_9 rfl (lv_at hl 0 rfl) ?_
      refine j_get I hx hb hts iw_X4_sheetsThere_X4 hown 7 (by decide) (kc7 g Y _) rfl 2 (by decide) (hts (.fieldLink RX4 18 "ReelNight$Receipts" "sheets" "[LReelNight$Sheet;") (by decide +kernel)) rfl dX4_sheetsThere_10 ?_
      refine lv_iload_n hx hb dX4_sheetsThere_13 rfl (lv_at hl 2 rfl) ?_
      obtain ⟨b2, hf⟩ := o_nb hf
      by_cases c3 : a2 = 0
      · have hf := i_t c3 hf
        refine j_qald I hx hb 41 (by decide) (kc41 g Y _) b2 dX4_sheetsThere_14 (a := g 8) (by rw [c3]; rfl) ?_
        obtain ⟨σ4, r5, h6, hf⟩ := o_obn hf
        refine j_iV (rest := []) I ⟨hx, hb, hml, hown, hts⟩ (ct_X8_isMissing_8 σ _ h6) (cwV 0 hts gX4_sheetsThere_X8_isMissing rfl rfl rfl (by decide +kernel) ⟨Nat.le_of_ble_eq_true rfl, Nat.le_of_ble_eq_true rfl⟩) (by decide) (kc8 g Y _) rfl rfl hl.1 rfl (Nat.le_of_ble_eq_true rfl) dX4_sheetsThere_15 ⟨Nat.zero_le _, Nat.zero_le _⟩ (fun H locs I => ?_)
        refine lv_if_ne (tgt := 24) hx hb dX4_sheetsThere_18 (by decide) (fun c7 => ?_) (fun c7 => ?_)
        · have hf := i_f c7 hf
          refine lv_iinc (v := (a2 + 1)) (lv' := [(2, .int (a2 + 1)), (0, .ref (g 7)), (1, .int a1)]) hx hb dX4_sheetsThere_24 hl (k := 2) rfl rfl (by decide) rfl (fun ls hl => ?_)
          refine lv_goto (tgt := 4) hx hb dX4_sheetsThere_27 (by decide) ?_
          exact ih σ4 a1 (a2 + 1) _ _ _ hf I (lv_sub hl [1, 2, 0] rfl)
        · have hf := i_t c7 hf
          refine lv_iinc (v := (a1 + 1)) (lv' := [(1, .int (a1 + 1)), (0, .ref (g 7)), (2, .int a2)]) hx hb dX4_sheetsThere_21 hl (k := 1) rfl rfl (by decide) rfl (fun ls hl => ?_)
          refine lv_iinc (v := (a2 + 1)) (lv' := [(2, .int (a2 + 1)), (1, .int (a1 + 1)), (0, .ref (g 7))]) hx hb dX4_sheetsThere_24 hl (k := 2) rfl rfl (by decide) rfl (fun ls hl => ?_)
          refine lv_goto (tgt := 4) hx hb dX4_sheetsThere_27 (by decide) ?_
          exact ih σ4 (a1 + 1) (a2 + 1) _ _ _ hf I (lv_sub hl [2, 1, 0] rfl)
      · have hf := i_f c3 hf
        refine j_qald I hx hb 41 (by decide) (kc41 g Y _) b2 dX4_sheetsThere_14 (a := g 9) (if_neg (q_ne0 c3 b2)) ?_
        obtain ⟨σ8, r9, h10, hf⟩ := o_obn hf
        refine j_iV (rest := []) I ⟨hx, hb, hml, hown, hts⟩ (ct_X8_isMissing_9 σ _ h10) (cwV 0 hts gX4_sheetsThere_X8_isMissing rfl rfl rfl (by decide +kernel) ⟨Nat.le_of_ble_eq_true rfl, Nat.le_of_ble_eq_true rfl⟩) (by decide) (kc9 g Y _) rfl rfl hl.1 rfl (Nat.le_of_ble_eq_true rfl) dX4_sheetsThere_15 ⟨Nat.zero_le _, Nat.zero_le _⟩ (fun H locs I => ?_)
        refine lv_if_ne (tgt := 24) hx hb dX4_sheetsThere_18 (by decide) (fun c11 => ?_) (fun c11 => ?_)
        · have hf := i_f c11 hf
          refine lv_iinc (v := (a2 + 1)) (lv' := [(2, .int (a2 + 1)), (0, .ref (g 7)), (1, .int a1)]) hx hb dX4_sheetsThere_24 hl (k := 2) rfl rfl (by decide) rfl (fun ls hl => ?_)
          refine lv_goto (tgt := 4) hx hb dX4_sheetsThere_27 (by decide) ?_
          exact ih σ8 a1 (a2 + 1) _ _ _ hf I (lv_sub hl [1, 2, 0] rfl)
        · have hf := i_t c11 hf
          refine lv_iinc (v := (a1 + 1)) (lv' := [(1, .int (a1 + 1)), (0, .ref (g 7)), (2, .int a2)]) hx hb dX4_sheetsThere_21 hl (k := 1) rfl rfl (by decide) rfl (fun ls hl => ?_)
          refine lv_iinc (v := (a2 + 1)) (lv' := [(2, .int (a2 + 1)), (1, .int (a1 + 1)), (0, .ref (g 7))]) hx hb dX4_sheetsThere_24 hl (k := 2) rfl rfl (by decide) rfl (fun ls hl => ?_)
          refine lv_goto (tgt := 4) hx hb dX4_sheetsThere_27 (by decide) ?_
          exact ih σ8 (a1 + 1) (a2 + 1) _ _ _ hf I (lv_sub hl [2, 1, 0] rfl)
set_option maxHeartbeats 4000000 in
set_option maxRecDepth 100000 in
theorem ct_X4_sheetsThere {l : Launch} {D : va_G} {g : Nat → Nat} {Y : YT} {bP : Nat} (σ : St) (res : St × Int32) (hf : fX4_sheetsThere σ = some res) : Ci l yX4_sheetsThere wsX4_sheetsThere ⟨1, 0, 0, 20⟩ D 44 g (KC g Y) Y bP [.ref (g 7)] σ res := by
  intro sz
  refine Met.ofW (cc := cX4_sheetsThere) (maxL := 3) (ret := (some .int)) (by decide) rfl ?_
  intro p e s m args below meth c s₁ B hml hv
  obtain ⟨rfl, rfl, I⟩ := j_start hv
  have C0 : MC p s m _ meth c cX4_sheetsThere 3 (some .int) RX4 wsX4_sheetsThere := ⟨B.exec, B.bytes, B.returns, hml, findClass_of_methodNamed B.named, atoms_spec (ws := wsX4_sheetsThere) B.pre, B.notSynchronized⟩
  obtain ⟨hx, hb, hr, hml, hown, hts, hlk⟩ := id C0
  have hl := lv_entry ([.ref (g 7)]) (n := 3) (Nat.le_of_ble_eq_true rfl)
  rw [lg_entry_eq]
  generalize (lg_sl ([.ref (g 7)]) ++ List.replicate (3 - (lg_sl ([.ref (g 7)])).length) Slot.unset).toArray = ls at hl ⊢
  have hl : lv_has ls 3 [(0, .ref (g 7))] := hl
  rw [fX4_sheetsThere] at hf
  refine lv_iconst (v := 0) hx hb dX4_sheetsThere_0 (by decide) ?_
  refine lv_istore_n (lv' := [(1, .int 0), (0, .ref (g 7))]) hx hb dX4_sheetsThere_1 rfl hl (by decide) rfl (fun ls hl => ?_)
  refine lv_iconst (v := 0) hx hb dX4_sheetsThere_2 (by decide) ?_
  refine lv_istore_n (lv' := [(2, .int 0), (1, .int 0), (0, .ref (g 7))]) hx hb dX4_sheetsThere_3 rfl hl (by decide) rfl (fun ls hl => ?_)
  refine bX4_sheetsThere_L4 C0 50 σ 0 0 _ _ _ hf I (lv_sub hl [2, 1, 0] rfl)

theorem iw_X5_has_X5 : ∀ w ∈ u_ws RX5 TX5 3, w ∈ wsX5_has := fun _ h => List.mem_cons_of_mem _ (List.mem_append_right _ h)
set_option maxHeartbeats 4000000 in
set_option maxRecDepth 100000 in
theorem ct_X5_has {l : Launch} {D : va_G} {g : Nat → Nat} {Y : YT} {bP : Nat} (σ : St) (p0 : Int32) (res : St × Int32) (hf : fX5_has σ p0 = some res) : Ci l yX5_has wsX5_has ⟨0, 0, 0, 0⟩ D 44 g (KC g Y) Y bP [.ref (g 2), .int p0] σ res := by
  intro sz
  refine Met.ofW (cc := cX5_has) (maxL := 2) (ret := (some .boolean)) (by decide) rfl ?_
  intro p e s m args below meth c s₁ B hml hv
  obtain ⟨rfl, rfl, I⟩ := j_start hv
  have C0 : MC p s m _ meth c cX5_has 2 (some .boolean) RX5 wsX5_has := ⟨B.exec, B.bytes, B.returns, hml, findClass_of_methodNamed B.named, atoms_spec (ws := wsX5_has) B.pre, B.notSynchronized⟩
  obtain ⟨hx, hb, hr, hml, hown, hts, hlk⟩ := id C0
  have hl := lv_entry ([.ref (g 2), .int p0]) (n := 2) (Nat.le_of_ble_eq_true rfl)
  rw [lg_entry_eq]
  generalize (lg_sl ([.ref (g 2), .int p0]) ++ List.replicate (2 - (lg_sl ([.ref (g 2), .int p0])).length) Slot.unset).toArray = ls at hl ⊢
  have hl : lv_has ls 2 [(0, .ref (g 2)), (1, .int p0)] := hl
  rw [fX5_has] at hf
  refine lv_iload_n hx hb dX5_has_0 rfl (lv_at hl 1 rfl) ?_
  refine lv_if_lt (tgt := 16) hx hb dX5_has_1 (by decide) (fun c1 => ?_) (fun c1 => ?_)
  · have hf := i_t c1 hf
    refine lv_iconst (v := 0) hx hb dX5_has_16 (by decide) ?_
    exact j_iret I hx hb hr rfl hlk hf dX5_has_17
  · have hf := i_f c1 hf
    refine lv_iload_n hx hb dX5_has_4 rfl (lv_at hl 1 rfl) ?_
    refine lv_aload_n hx hb dX5_has_5 rfl (lv_at hl 0 rfl) ?_
    refine j_get I hx hb hts iw_X5_has_X5 hown 2 (by decide) (kc2 g Y _) rfl 2 (by decide) (hts (.fieldLink RX5 18 "ReelNight$Reels" "many" "I") (by decide +kernel)) rfl dX5_has_6 ?_
    refine lv_icmp_ge (tgt := 16) hx hb dX5_has_9 (by decide) (fun c2 => ?_) (fun c2 => ?_)
    · have hf := i_t c2 hf
      refine lv_iconst (v := 0) hx hb dX5_has_16 (by decide) ?_
      exact j_iret I hx hb hr rfl hlk hf dX5_has_17
    · have hf := i_f c2 hf
      refine lv_iconst (v := 1) hx hb dX5_has_12 (by decide) ?_
      refine lv_goto (tgt := 17) hx hb dX5_has_13 (by decide) ?_
      exact j_iret I hx hb hr rfl hlk hf dX5_has_17

theorem iw_X5_add_X5 : ∀ w ∈ u_ws RX5 TX5 3, w ∈ wsX5_add := by decide +kernel
set_option maxHeartbeats 4000000 in
set_option maxRecDepth 100000 in
theorem ct_X5_add {l : Launch} {D : va_G} {g : Nat → Nat} {Y : YT} {bP : Nat} (σ : St) (p0 : Int32) (res : St × Int32) (hf : fX5_add σ p0 = some res) : Ci l yX5_add wsX5_add ⟨0, 0, 0, 0⟩ D 44 g (KC g Y) Y bP [.ref (g 2), .int p0] σ res := by
  intro sz
  refine Met.ofW (cc := cX5_add) (maxL := 2) (ret := (some .int)) (by decide) rfl ?_
  intro p e s m args below meth c s₁ B hml hv
  obtain ⟨rfl, rfl, I⟩ := j_start hv
  have C0 : MC p s m _ meth c cX5_add 2 (some .int) RX5 wsX5_add := ⟨B.exec, B.bytes, B.returns, hml, findClass_of_methodNamed B.named, atoms_spec (ws := wsX5_add) B.pre, B.notSynchronized⟩
  obtain ⟨hx, hb, hr, hml, hown, hts, hlk⟩ := id C0
  have hl := lv_entry ([.ref (g 2), .int p0]) (n := 2) (Nat.le_of_ble_eq_true rfl)
  rw [lg_entry_eq]
  generalize (lg_sl ([.ref (g 2), .int p0]) ++ List.replicate (2 - (lg_sl ([.ref (g 2), .int p0])).length) Slot.unset).toArray = ls at hl ⊢
  have hl : lv_has ls 2 [(0, .ref (g 2)), (1, .int p0)] := hl
  rw [fX5_add] at hf
  refine lv_aload_n hx hb dX5_add_0 rfl (lv_at hl 0 rfl) ?_
  refine j_get I hx hb hts iw_X5_add_X5 hown 2 (by decide) (kc2 g Y _) rfl 0 (by decide) (hts (.fieldLink RX5 9 "ReelNight$Reels" "frames" "[I") (by decide +kernel)) rfl dX5_add_1 ?_
  refine lv_aload_n hx hb dX5_add_4 rfl (lv_at hl 0 rfl) ?_
  refine j_get I hx hb hts iw_X5_add_X5 hown 2 (by decide) (kc2 g Y _) rfl 2 (by decide) (hts (.fieldLink RX5 18 "ReelNight$Reels" "many" "I") (by decide +kernel)) rfl dX5_add_5 ?_
  refine lv_iload_n hx hb dX5_add_8 rfl (lv_at hl 1 rfl) ?_
  obtain ⟨b1, hf⟩ := o_nb hf
  obtain ⟨σ2, eσ2, hf⟩ := o_stp hf
  refine j_ast I hx hb 17 (by decide) (kc17 g Y) b1 eσ2 dX5_add_9 (fun H locs I => ?_)
  refine lv_aload_n hx hb dX5_add_10 rfl (lv_at hl 0 rfl) ?_
  refine lv_dup hx hb dX5_add_11 rfl ?_
  refine j_get I hx hb hts iw_X5_add_X5 hown 2 (by decide) (kc2 g Y _) rfl 2 (by decide) (hts (.fieldLink RX5 18 "ReelNight$Reels" "many" "I") (by decide +kernel)) rfl dX5_add_12 ?_
  refine lv_iconst (v := 1) hx hb dX5_add_15 (by decide) ?_
  refine lv_iadd hx hb dX5_add_16 ?_
  obtain ⟨σ3, eσ3, hf⟩ := o_stp hf
  refine j_put I hx hb hts iw_X5_add_X5 tyX5 tyX5_ok nmX5 hown 2 (by decide) (kc2 g Y _) rfl 2 (by decide) (hts (.fieldLink RX5 18 "ReelNight$Reels" "many" "I") (by decide +kernel)) rfl rfl rfl (Nat.le_of_ble_eq_true rfl) (kcs2_2 g Y _ _) eσ3 dX5_add_17 (fun H locs I => ?_)
  refine lv_aload_n hx hb dX5_add_20 rfl (lv_at hl 0 rfl) ?_
  refine j_get I hx hb hts iw_X5_add_X5 hown 2 (by decide) (kc2 g Y _) rfl 2 (by decide) (hts (.fieldLink RX5 18 "ReelNight$Reels" "many" "I") (by decide +kernel)) rfl dX5_add_21 ?_
  refine lv_iconst (v := 1) hx hb dX5_add_24 (by decide) ?_
  refine lv_isub hx hb dX5_add_25 ?_
  exact j_iret I hx hb hr rfl hlk hf dX5_add_26

theorem iw_X5_shorten_X5 : ∀ w ∈ u_ws RX5 TX5 3, w ∈ wsX5_shorten := by decide +kernel
set_option maxHeartbeats 4000000 in
set_option maxRecDepth 100000 in
theorem ct_X5_shorten {l : Launch} {D : va_G} {g : Nat → Nat} {Y : YT} {bP : Nat} (σ : St) (p0 : Int32) (p1 : Int32) (res : St × Int32) (hf : fX5_shorten σ p0 p1 = some res) : Ci l yX5_shorten wsX5_shorten ⟨1, 0, 0, 15⟩ D 44 g (KC g Y) Y bP [.ref (g 2), .int p0, .int p1] σ res := by
  intro sz
  refine Met.ofW (cc := cX5_shorten) (maxL := 3) (ret := (some .int)) (by decide) rfl ?_
  intro p e s m args below meth c s₁ B hml hv
  obtain ⟨rfl, rfl, I⟩ := j_start hv
  have C0 : MC p s m _ meth c cX5_shorten 3 (some .int) RX5 wsX5_shorten := ⟨B.exec, B.bytes, B.returns, hml, findClass_of_methodNamed B.named, atoms_spec (ws := wsX5_shorten) B.pre, B.notSynchronized⟩
  obtain ⟨hx, hb, hr, hml, hown, hts, hlk⟩ := id C0
  have hl := lv_entry ([.ref (g 2), .int p0, .int p1]) (n := 3) (Nat.le_of_ble_eq_true rfl)
  rw [lg_entry_eq]
  generalize (lg_sl ([.ref (g 2), .int p0, .int p1]) ++ List.replicate (3 - (lg_sl ([.ref (g 2), .int p0, .int p1])).length) Slot.unset).toArray = ls at hl ⊢
  have hl : lv_has ls 3 [(0, .ref (g 2)), (1, .int p0), (2, .int p1)] := hl
  rw [fX5_shorten] at hf
  refine lv_aload_n hx hb dX5_shorten_0 rfl (lv_at hl 0 rfl) ?_
  refine j_get I hx hb hts iw_X5_shorten_X5 hown 2 (by decide) (kc2 g Y _) rfl 0 (by decide) (hts (.fieldLink RX5 9 "ReelNight$Reels" "frames" "[I") (by decide +kernel)) rfl dX5_shorten_1 ?_
  refine lv_iload_n hx hb dX5_shorten_4 rfl (lv_at hl 1 rfl) ?_
  refine lv_iconst (v := 1) hx hb dX5_shorten_5 (by decide) ?_
  refine lv_aload_n hx hb dX5_shorten_6 rfl (lv_at hl 0 rfl) ?_
  refine j_get I hx hb hts iw_X5_shorten_X5 hown 2 (by decide) (kc2 g Y _) rfl 0 (by decide) (hts (.fieldLink RX5 9 "ReelNight$Reels" "frames" "[I") (by decide +kernel)) rfl dX5_shorten_7 ?_
  refine lv_iload_n hx hb dX5_shorten_10 rfl (lv_at hl 1 rfl) ?_
  obtain ⟨b1, hf⟩ := o_nb hf
  refine j_ald I hx hb 17 (by decide) (kc17 g Y _) b1 dX5_shorten_11 ?_
  refine lv_iload_n hx hb dX5_shorten_12 rfl (lv_at hl 2 rfl) ?_
  refine lv_isub hx hb dX5_shorten_13 ?_
  refine va_mmax hx hb (hml.trans hl.1.symm) hown (hts (.methodLink RX5 22 Lib.Math.max.name) (by decide +kernel)) (hts (.static Lib.Math.max.name) (by decide +kernel)) (hts (.initialized "java/lang/Math") (by decide +kernel)) (hts (.code Lib.Math.max.name Lib.Math.max.code 2 (some .int)) (by decide +kernel)) (Nat.le_of_ble_eq_true rfl) (Nat.le_of_ble_eq_true rfl) (Nat.zero_le _) (Nat.zero_le _) dX5_shorten_14 ?_
  obtain ⟨b2, hf⟩ := o_nb hf
  obtain ⟨σ3, eσ3, hf⟩ := o_stp hf
  refine j_ast I hx hb 17 (by decide) (kc17 g Y) b2 eσ3 dX5_shorten_17 (fun H locs I => ?_)
  refine lv_aload_n hx hb dX5_shorten_18 rfl (lv_at hl 0 rfl) ?_
  refine j_get I hx hb hts iw_X5_shorten_X5 hown 2 (by decide) (kc2 g Y _) rfl 1 (by decide) (hts (.fieldLink RX5 15 "ReelNight$Reels" "mends" "[I") (by decide +kernel)) rfl dX5_shorten_19 ?_
  refine lv_iload_n hx hb dX5_shorten_22 rfl (lv_at hl 1 rfl) ?_
  refine lv_dup2_11 hx hb dX5_shorten_23 rfl rfl ?_
  obtain ⟨b4, hf⟩ := o_nb hf
  refine j_ald I hx hb 18 (by decide) (kc18 g Y _) b4 dX5_shorten_24 ?_
  refine lv_iconst (v := 1) hx hb dX5_shorten_25 (by decide) ?_
  refine lv_iadd hx hb dX5_shorten_26 ?_
  obtain ⟨b5, hf⟩ := o_nb hf
  obtain ⟨σ6, eσ6, hf⟩ := o_stp hf
  refine j_ast I hx hb 18 (by decide) (kc18 g Y) b5 eσ6 dX5_shorten_27 (fun H locs I => ?_)
  refine lv_aload_n hx hb dX5_shorten_28 rfl (lv_at hl 0 rfl) ?_
  refine j_get I hx hb hts iw_X5_shorten_X5 hown 2 (by decide) (kc2 g Y _) rfl 0 (by decide) (hts (.fieldLink RX5 9 "ReelNight$Reels" "frames" "[I") (by decide +kernel)) rfl dX5_shorten_29 ?_
  refine lv_iload_n hx hb dX5_shorten_32 rfl (lv_at hl 1 rfl) ?_
  obtain ⟨b7, hf⟩ := o_nb hf
  refine j_ald I hx hb 17 (by decide) (kc17 g Y _) b7 dX5_shorten_33 ?_
  exact j_iret I hx hb hr rfl hlk hf dX5_shorten_34

theorem iw_X5_allFrames_X5 : ∀ w ∈ u_ws RX5 TX5 3, w ∈ wsX5_allFrames := by decide +kernel
set_option maxHeartbeats 4000000 in
set_option maxRecDepth 100000 in
theorem bX5_allFrames_L4 {p : Program} {l : Launch} {e : Env} {s : State} {m : MethodId} {args : Array Value} {below : List Frame} {meth : Method} {c : Code} {D : va_G} {g : Nat → Nat} {Y : YT} {bP : Nat} {σ0 : St} {res : St × Int32} (C0 : MC p s m args meth c cX5_allFrames 3 (some .int) RX5 wsX5_allFrames) : ∀ (n : Nat) (σ : St) (a1 : Int32) (a2 : Int32) (H : Heap) (locs : List Loc) (ls : Array Slot), fX5_allFrames_L4 n σ a1 a2 = some res → JW D 44 g (KC g Y) Y bP (va_A (wd 44 g (KC g Y) σ0) s.heap.size) s σ H locs → lv_has ls 3 [(0, .ref (g 2)), (1, .int a1), (2, .int a2)] → W p l e (⟨0, 0, 0, 0⟩ : Room) s m args below meth c H locs 0 0 (MQ below (Qi D 44 g (KC g Y) Y σ0 res s.heap.size) args s 0 0 (va_A (wd 44 g (KC g Y) σ0) s.heap.size)) (F0 m 4 ls []) := by
  have C0 := C0
  obtain ⟨hx, hb, hr, hml, hown, hts, hlk⟩ := id C0
  intro n
  induction n with
  | zero =>
    intro σ a1 a2 H locs ls hf
    cases hf
  | succ n ih =>
    intro σ a1 a2 H locs ls hf I hl
    rw [fX5_allFrames_L4] at hf
    refine lv_iload_n hx hb dX5_allFrames_4 rfl (lv_at hl 2 rfl) ?_
    refine lv_aload_n hx hb dX5_allFrames_5 rfl (lv_at hl 0 rfl) ?_
    refine j_get I hx hb hts iw_X5_allFrames_X5 hown 2 (by decide) (kc2 g Y _) rfl 2 (by decide) (hts (.fieldLink RX5 18 "ReelNight$Reels" "many" "I") (by decide +kernel)) rfl dX5_allFrames_6 ?_
    refine lv_icmp_ge (tgt := 27) hx hb dX5_allFrames_9 (by decide) (fun c1 => ?_) (fun c1 => ?_)
    · have hf := i_t c1 hf
      refine lv_iload_n hx hb dX5_allFrames_27 rfl (lv_at hl 1 rfl) ?_
      exact j_iret I hx hb hr rfl hlk hf dX5_allFrames_28
    · have hf := i_f c1 hf
      refine lv_iload_n hx hb dX5_allFrames_12 rfl (lv_at hl 1 rfl) ?_
      refine lv_aload_n hx hb dX5_allFrames_13 rfl (lv_at hl 0 rfl) ?_
      refine j_get I hx hb hts iw_X5_allFrames_X5 hown 2 (by decide) (kc2 g Y _) rfl 0 (by decide) (hts (.fieldLink RX5 9 "ReelNight$Reels" "frames" "[I") (by decide +kernel)) rfl dX5_allFrames_14 ?_
      refine lv_iload_n hx hb dX5_allFrames_17 rfl (lv_at hl 2 rfl) ?_
      obtain ⟨b2, hf⟩ := o_nb hf
      refine j_ald I hx hb 17 (by decide) (kc17 g Y _) b2 dX5_allFrames_18 ?_
      refine lv_iadd hx hb dX5_allFrames_19 ?_
      obtain ⟨v3, ev3, hf⟩ := o_itp hf
      refine top_eq ev3 ?_
      refine lv_istore_n (lv' := [(1, .int v3), (0, .ref (g 2)), (2, .int a2)]) hx hb dX5_allFrames_20 rfl hl (by decide) rfl (fun ls hl => ?_)
      refine lv_iinc (v := (a2 + 1)) (lv' := [(2, .int (a2 + 1)), (1, .int v3), (0, .ref (g 2))]) hx hb dX5_allFrames_21 hl (k := 2) rfl rfl (by decide) rfl (fun ls hl => ?_)
      refine lv_goto (tgt := 4) hx hb dX5_allFrames_24 (by decide) ?_
      exact ih σ v3 (a2 + 1) _ _ _ hf I (lv_sub hl [2, 1, 0] rfl)
set_option maxHeartbeats 4000000 in
set_option maxRecDepth 100000 in
theorem ct_X5_allFrames {l : Launch} {D : va_G} {g : Nat → Nat} {Y : YT} {bP : Nat} (σ : St) (res : St × Int32) (hf : fX5_allFrames σ = some res) : Ci l yX5_allFrames wsX5_allFrames ⟨0, 0, 0, 0⟩ D 44 g (KC g Y) Y bP [.ref (g 2)] σ res := by
  intro sz
  refine Met.ofW (cc := cX5_allFrames) (maxL := 3) (ret := (some .int)) (by decide) rfl ?_
  intro p e s m args below meth c s₁ B hml hv
  obtain ⟨rfl, rfl, I⟩ := j_start hv
  have C0 : MC p s m _ meth c cX5_allFrames 3 (some .int) RX5 wsX5_allFrames := ⟨B.exec, B.bytes, B.returns, hml, findClass_of_methodNamed B.named, atoms_spec (ws := wsX5_allFrames) B.pre, B.notSynchronized⟩
  obtain ⟨hx, hb, hr, hml, hown, hts, hlk⟩ := id C0
  have hl := lv_entry ([.ref (g 2)]) (n := 3) (Nat.le_of_ble_eq_true rfl)
  rw [lg_entry_eq]
  generalize (lg_sl ([.ref (g 2)]) ++ List.replicate (3 - (lg_sl ([.ref (g 2)])).length) Slot.unset).toArray = ls at hl ⊢
  have hl : lv_has ls 3 [(0, .ref (g 2))] := hl
  rw [fX5_allFrames] at hf
  refine lv_iconst (v := 0) hx hb dX5_allFrames_0 (by decide) ?_
  refine lv_istore_n (lv' := [(1, .int 0), (0, .ref (g 2))]) hx hb dX5_allFrames_1 rfl hl (by decide) rfl (fun ls hl => ?_)
  refine lv_iconst (v := 0) hx hb dX5_allFrames_2 (by decide) ?_
  refine lv_istore_n (lv' := [(2, .int 0), (1, .int 0), (0, .ref (g 2))]) hx hb dX5_allFrames_3 rfl hl (by decide) rfl (fun ls hl => ?_)
  refine bX5_allFrames_L4 C0 50 σ 0 0 _ _ _ hf I (lv_sub hl [2, 1, 0] rfl)

theorem iw_X6_canFollow_X6 : ∀ w ∈ u_ws RX6 TX6 9, w ∈ wsX6_canFollow := by decide +kernel
set_option maxHeartbeats 4000000 in
set_option maxRecDepth 100000 in
theorem ct_X6_canFollow {l : Launch} {D : va_G} {g : Nat → Nat} {Y : YT} {bP : Nat} (σ : St) (p0 : Int32) (p1 : Int32) (res : St × Int32) (hf : fX6_canFollow σ p0 p1 = some res) : Ci l yX6_canFollow wsX6_canFollow ⟨1, 0, 0, 22⟩ D 44 g (KC g Y) Y bP [.ref (g 4), .int p0, .int p1] σ res := by
  intro sz
  refine Met.ofW (cc := cX6_canFollow) (maxL := 4) (ret := (some .boolean)) (by decide) rfl ?_
  intro p e s m args below meth c s₁ B hml hv
  obtain ⟨rfl, rfl, I⟩ := j_start hv
  have C0 : MC p s m _ meth c cX6_canFollow 4 (some .boolean) RX6 wsX6_canFollow := ⟨B.exec, B.bytes, B.returns, hml, findClass_of_methodNamed B.named, atoms_spec (ws := wsX6_canFollow) B.pre, B.notSynchronized⟩
  obtain ⟨hx, hb, hr, hml, hown, hts, hlk⟩ := id C0
  have hl := lv_entry ([.ref (g 4), .int p0, .int p1]) (n := 4) (Nat.le_of_ble_eq_true rfl)
  rw [lg_entry_eq]
  generalize (lg_sl ([.ref (g 4), .int p0, .int p1]) ++ List.replicate (4 - (lg_sl ([.ref (g 4), .int p0, .int p1])).length) Slot.unset).toArray = ls at hl ⊢
  have hl : lv_has ls 4 [(0, .ref (g 4)), (1, .int p0), (2, .int p1)] := hl
  rw [fX6_canFollow] at hf
  refine lv_aload_n hx hb dX6_canFollow_0 rfl (lv_at hl 0 rfl) ?_
  refine j_get I hx hb hts iw_X6_canFollow_X6 hown 4 (by decide) (kc4 g Y _) rfl 4 (by decide) (hts (.fieldLink RX6 21 "ReelNight$Rides" "begins" "[I") (by decide +kernel)) rfl dX6_canFollow_1 ?_
  refine lv_iload_n hx hb dX6_canFollow_4 rfl (lv_at hl 1 rfl) ?_
  obtain ⟨b1, hf⟩ := o_nb hf
  refine j_ald I hx hb 29 (by decide) (kc29 g Y _) b1 dX6_canFollow_5 ?_
  refine lv_aload_n hx hb dX6_canFollow_6 rfl (lv_at hl 0 rfl) ?_
  refine j_get I hx hb hts iw_X6_canFollow_X6 hown 4 (by decide) (kc4 g Y _) rfl 4 (by decide) (hts (.fieldLink RX6 21 "ReelNight$Rides" "begins" "[I") (by decide +kernel)) rfl dX6_canFollow_7 ?_
  refine lv_iload_n hx hb dX6_canFollow_10 rfl (lv_at hl 2 rfl) ?_
  obtain ⟨b2, hf⟩ := o_nb hf
  refine j_ald I hx hb 29 (by decide) (kc29 g Y _) b2 dX6_canFollow_11 ?_
  refine lv_icmp_lt (tgt := 35) hx hb dX6_canFollow_12 (by decide) (fun c3 => ?_) (fun c3 => ?_)
  · have hf := i_t c3 hf
    refine lv_iconst (v := 1) hx hb dX6_canFollow_35 (by decide) ?_
    refine lv_goto (tgt := 40) hx hb dX6_canFollow_36 (by decide) ?_
    refine lv_istore_n (lv' := [(3, .int 1), (0, .ref (g 4)), (1, .int p0), (2, .int p1)]) hx hb dX6_canFollow_40 rfl hl (by decide) rfl (fun ls hl => ?_)
    refine lv_iload_n hx hb dX6_canFollow_41 rfl (lv_at hl 0 rfl) ?_
    refine lv_if_eq (tgt := 84) hx hb dX6_canFollow_42 (by decide) (fun c_ => absurd c_ (by decide)) (fun _ => ?_)
    refine lv_aload_n hx hb dX6_canFollow_45 rfl (lv_at hl 1 rfl) ?_
    refine j_get I hx hb hts iw_X6_canFollow_X6 hown 4 (by decide) (kc4 g Y _) rfl 5 (by decide) (hts (.fieldLink RX6 24 "ReelNight$Rides" "ends" "[I") (by decide +kernel)) rfl dX6_canFollow_46 ?_
    refine lv_iload_n hx hb dX6_canFollow_49 rfl (lv_at hl 2 rfl) ?_
    obtain ⟨b4, hf⟩ := o_nb hf
    refine j_ald I hx hb 30 (by decide) (kc30 g Y _) b4 dX6_canFollow_50 ?_
    refine lv_aload_n hx hb dX6_canFollow_51 rfl (lv_at hl 1 rfl) ?_
    refine j_get I hx hb hts iw_X6_canFollow_X6 hown 4 (by decide) (kc4 g Y _) rfl 0 (by decide) (hts (.fieldLink RX6 37 "ReelNight$Rides" "ways" "LReelNight$Pairs;") (by decide +kernel)) rfl dX6_canFollow_52 ?_
    refine lv_aload_n hx hb dX6_canFollow_55 rfl (lv_at hl 1 rfl) ?_
    refine j_get I hx hb hts iw_X6_canFollow_X6 hown 4 (by decide) (kc4 g Y _) rfl 3 (by decide) (hts (.fieldLink RX6 18 "ReelNight$Rides" "tos" "[I") (by decide +kernel)) rfl dX6_canFollow_56 ?_
    refine lv_iload_n hx hb dX6_canFollow_59 rfl (lv_at hl 2 rfl) ?_
    obtain ⟨b5, hf⟩ := o_nb hf
    refine j_ald I hx hb 28 (by decide) (kc28 g Y _) b5 dX6_canFollow_60 ?_
    refine lv_aload_n hx hb dX6_canFollow_61 rfl (lv_at hl 1 rfl) ?_
    refine j_get I hx hb hts iw_X6_canFollow_X6 hown 4 (by decide) (kc4 g Y _) rfl 2 (by decide) (hts (.fieldLink RX6 15 "ReelNight$Rides" "froms" "[I") (by decide +kernel)) rfl dX6_canFollow_62 ?_
    refine lv_iload_n hx hb dX6_canFollow_65 rfl (lv_at hl 3 rfl) ?_
    obtain ⟨b6, hf⟩ := o_nb hf
    refine j_ald I hx hb 27 (by decide) (kc27 g Y _) b6 dX6_canFollow_66 ?_
    obtain ⟨σ7, r8, h9, hf⟩ := o_obn hf
    refine j_iV (rest := [.int (σ 30 p0.toNatClampNeg)]) I ⟨hx, hb, hml, hown, hts⟩ (ct_X3_between_10 σ (σ 28 p0.toNatClampNeg) (σ 27 p1.toNatClampNeg) _ h9) (cwV 2 hts gX6_canFollow_X3_between rfl rfl rfl (by decide +kernel) ⟨Nat.le_of_ble_eq_true rfl, Nat.le_of_ble_eq_true rfl⟩) (by decide) (kc10 g Y _) rfl rfl hl.1 rfl (Nat.le_of_ble_eq_true rfl) dX6_canFollow_67 ⟨Nat.zero_le _, Nat.zero_le _⟩ (fun H locs I => ?_)
    refine lv_iadd hx hb dX6_canFollow_70 ?_
    refine lv_aload_n hx hb dX6_canFollow_71 rfl (lv_at hl 1 rfl) ?_
    refine j_get I hx hb hts iw_X6_canFollow_X6 hown 4 (by decide) (kc4 g Y _) rfl 4 (by decide) (hts (.fieldLink RX6 21 "ReelNight$Rides" "begins" "[I") (by decide +kernel)) rfl dX6_canFollow_72 ?_
    refine lv_iload_n hx hb dX6_canFollow_75 rfl (lv_at hl 3 rfl) ?_
    obtain ⟨b10, hf⟩ := o_nb hf
    refine j_ald I hx hb 29 (by decide) (kc29 g Y _) b10 dX6_canFollow_76 ?_
    refine lv_icmp_gt (tgt := 84) hx hb dX6_canFollow_77 (by decide) (fun c11 => ?_) (fun c11 => ?_)
    · have hf := i_t c11 hf
      refine lv_iconst (v := 0) hx hb dX6_canFollow_84 (by decide) ?_
      exact j_iret I hx hb hr rfl hlk hf dX6_canFollow_85
    · have hf := i_f c11 hf
      refine lv_iconst (v := 1) hx hb dX6_canFollow_80 (by decide) ?_
      refine lv_goto (tgt := 85) hx hb dX6_canFollow_81 (by decide) ?_
      exact j_iret I hx hb hr rfl hlk hf dX6_canFollow_85
  · have hf := i_f c3 hf
    refine lv_aload_n hx hb dX6_canFollow_15 rfl (lv_at hl 0 rfl) ?_
    refine j_get I hx hb hts iw_X6_canFollow_X6 hown 4 (by decide) (kc4 g Y _) rfl 4 (by decide) (hts (.fieldLink RX6 21 "ReelNight$Rides" "begins" "[I") (by decide +kernel)) rfl dX6_canFollow_16 ?_
    refine lv_iload_n hx hb dX6_canFollow_19 rfl (lv_at hl 1 rfl) ?_
    obtain ⟨b12, hf⟩ := o_nb hf
    refine j_ald I hx hb 29 (by decide) (kc29 g Y _) b12 dX6_canFollow_20 ?_
    refine lv_aload_n hx hb dX6_canFollow_21 rfl (lv_at hl 0 rfl) ?_
    refine j_get I hx hb hts iw_X6_canFollow_X6 hown 4 (by decide) (kc4 g Y _) rfl 4 (by decide) (hts (.fieldLink RX6 21 "ReelNight$Rides" "begins" "[I") (by decide +kernel)) rfl dX6_canFollow_22 ?_
    refine lv_iload_n hx hb dX6_canFollow_25 rfl (lv_at hl 2 rfl) ?_
    obtain ⟨b13, hf⟩ := o_nb hf
    refine j_ald I hx hb 29 (by decide) (kc29 g Y _) b13 dX6_canFollow_26 ?_
    refine lv_icmp_ne (tgt := 39) hx hb dX6_canFollow_27 (by decide) (fun c14 => ?_) (fun c14 => ?_)
    · have hf := i_f c14 hf
      refine lv_iconst (v := 0) hx hb dX6_canFollow_39 (by decide) ?_
      refine lv_istore_n (lv' := [(3, .int 0), (0, .ref (g 4)), (1, .int p0), (2, .int p1)]) hx hb dX6_canFollow_40 rfl hl (by decide) rfl (fun ls hl => ?_)
      refine lv_iload_n hx hb dX6_canFollow_41 rfl (lv_at hl 0 rfl) ?_
      refine lv_if_eq (tgt := 84) hx hb dX6_canFollow_42 (by decide) (fun _ => ?_) (fun c_ => absurd (by decide) c_)
      refine lv_iconst (v := 0) hx hb dX6_canFollow_84 (by decide) ?_
      exact j_iret I hx hb hr rfl hlk hf dX6_canFollow_85
    · have hf := i_t c14 hf
      refine lv_iload_n hx hb dX6_canFollow_30 rfl (lv_at hl 1 rfl) ?_
      refine lv_iload_n hx hb dX6_canFollow_31 rfl (lv_at hl 2 rfl) ?_
      refine lv_icmp_ge (tgt := 39) hx hb dX6_canFollow_32 (by decide) (fun c15 => ?_) (fun c15 => ?_)
      · have hf := i_t c15 hf
        refine lv_iconst (v := 0) hx hb dX6_canFollow_39 (by decide) ?_
        refine lv_istore_n (lv' := [(3, .int 0), (0, .ref (g 4)), (1, .int p0), (2, .int p1)]) hx hb dX6_canFollow_40 rfl hl (by decide) rfl (fun ls hl => ?_)
        refine lv_iload_n hx hb dX6_canFollow_41 rfl (lv_at hl 0 rfl) ?_
        refine lv_if_eq (tgt := 84) hx hb dX6_canFollow_42 (by decide) (fun _ => ?_) (fun c_ => absurd (by decide) c_)
        refine lv_iconst (v := 0) hx hb dX6_canFollow_84 (by decide) ?_
        exact j_iret I hx hb hr rfl hlk hf dX6_canFollow_85
      · have hf := i_f c15 hf
        refine lv_iconst (v := 1) hx hb dX6_canFollow_35 (by decide) ?_
        refine lv_goto (tgt := 40) hx hb dX6_canFollow_36 (by decide) ?_
        refine lv_istore_n (lv' := [(3, .int 1), (0, .ref (g 4)), (1, .int p0), (2, .int p1)]) hx hb dX6_canFollow_40 rfl hl (by decide) rfl (fun ls hl => ?_)
        refine lv_iload_n hx hb dX6_canFollow_41 rfl (lv_at hl 0 rfl) ?_
        refine lv_if_eq (tgt := 84) hx hb dX6_canFollow_42 (by decide) (fun c_ => absurd c_ (by decide)) (fun _ => ?_)
        refine lv_aload_n hx hb dX6_canFollow_45 rfl (lv_at hl 1 rfl) ?_
        refine j_get I hx hb hts iw_X6_canFollow_X6 hown 4 (by decide) (kc4 g Y _) rfl 5 (by decide) (hts (.fieldLink RX6 24 "ReelNight$Rides" "ends" "[I") (by decide +kernel)) rfl dX6_canFollow_46 ?_
        refine lv_iload_n hx hb dX6_canFollow_49 rfl (lv_at hl 2 rfl) ?_
        obtain ⟨b16, hf⟩ := o_nb hf
        refine j_ald I hx hb 30 (by decide) (kc30 g Y _) b16 dX6_canFollow_50 ?_
        refine lv_aload_n hx hb dX6_canFollow_51 rfl (lv_at hl 1 rfl) ?_
        refine j_get I hx hb hts iw_X6_canFollow_X6 hown 4 (by decide) (kc4 g Y _) rfl 0 (by decide) (hts (.fieldLink RX6 37 "ReelNight$Rides" "ways" "LReelNight$Pairs;") (by decide +kernel)) rfl dX6_canFollow_52 ?_
        refine lv_aload_n hx hb dX6_canFollow_55 rfl (lv_at hl 1 rfl) ?_
        refine j_get I hx hb hts iw_X6_canFollow_X6 hown 4 (by decide) (kc4 g Y _) rfl 3 (by decide) (hts (.fieldLink RX6 18 "ReelNight$Rides" "tos" "[I") (by decide +kernel)) rfl dX6_canFollow_56 ?_
        refine lv_iload_n hx hb dX6_canFollow_59 rfl (lv_at hl 2 rfl) ?_
        obtain ⟨b17, hf⟩ := o_nb hf
        refine j_ald I hx hb 28 (by decide) (kc28 g Y _) b17 dX6_canFollow_60 ?_
        refine lv_aload_n hx hb dX6_canFollow_61 rfl (lv_at hl 1 rfl) ?_
        refine j_get I hx hb hts iw_X6_canFollow_X6 hown 4 (by decide) (kc4 g Y _) rfl 2 (by decide) (hts (.fieldLink RX6 15 "ReelNight$Rides" "froms" "[I") (by decide +kernel)) rfl dX6_canFollow_62 ?_
        refine lv_iload_n hx hb dX6_canFollow_65 rfl (lv_at hl 3 rfl) ?_
        obtain ⟨b18, hf⟩ := o_nb hf
        refine j_ald I hx hb 27 (by decide) (kc27 g Y _) b18 dX6_canFollow_66 ?_
        obtain ⟨σ19, r20, h21, hf⟩ := o_obn hf
        refine j_iV (rest := [.int (σ 30 p0.toNatClampNeg)]) I ⟨hx, hb, hml, hown, hts⟩ (ct_X3_between_10 σ (σ 28 p0.toNatClampNeg) (σ 27 p1.toNatClampNeg) _ h21) (cwV 2 hts gX6_canFollow_X3_between rfl rfl rfl (by decide +kernel) ⟨Nat.le_of_ble_eq_true rfl, Nat.le_of_ble_eq_true rfl⟩) (by decide) (kc10 g Y _) rfl rfl hl.1 rfl (Nat.le_of_ble_eq_true rfl) dX6_canFollow_67 ⟨Nat.zero_le _, Nat.zero_le _⟩ (fun H locs I => ?_)
        refine lv_iadd hx hb dX6_canFollow_70 ?_
        refine lv_aload_n hx hb dX6_canFollow_71 rfl (lv_at hl 1 rfl) ?_
        refine j_get I hx hb hts iw_X6_canFollow_X6 hown 4 (by decide) (kc4 g Y _) rfl 4 (by decide) (hts (.fieldLink RX6 21 "ReelNight$Rides" "begins" "[I") (by decide +kernel)) rfl dX6_canFollow_72 ?_
        refine lv_iload_n hx hb dX6_canFollow_75 rfl (lv_at hl 3 rfl) ?_
        obtain ⟨b22, hf⟩ := o_nb hf
        refine j_ald I hx hb 29 (by decide) (kc29 g Y _) b22 dX6_canFollow_76 ?_
        refine lv_icmp_gt (tgt := 84) hx hb dX6_canFollow_77 (by decide) (fun c23 => ?_) (fun c23 => ?_)
        · have hf := i_t c23 hf
          refine lv_iconst (v := 0) hx hb dX6_canFollow_84 (by decide) ?_
          exact j_iret I hx hb hr rfl hlk hf dX6_canFollow_85
        · have hf := i_f c23 hf
          refine lv_iconst (v := 1) hx hb dX6_canFollow_80 (by decide) ?_
          refine lv_goto (tgt := 85) hx hb dX6_canFollow_81 (by decide) ?_
          exact j_iret I hx hb hr rfl hlk hf dX6_canFollow_85

theorem iw_X6_findNext_X6 : ∀ w ∈ u_ws RX6 TX6 9, w ∈ wsX6_findNext := by decide +kernel
set_option maxHeartbeats 4000000 in
set_option maxRecDepth 100000 in
theorem bX6_findNext_L11 {p : Program} {l : Launch} {e : Env} {s : State} {m : MethodId} {args : Array Value} {below : List Frame} {meth : Method} {c : Code} {D : va_G} {g : Nat → Nat} {Y : YT} {bP : Nat} {σ0 : St} {res : St × Int32} (C0 : MC p s m args meth c cX6_findNext 6 (some .boolean) RX6 wsX6_findNext) {GX6_findNext : St → Int32 → Int32 → Int32 → Option (St × Int32)} {ra rb : Nat} (hGX6_findNext : ∀ (σ : St) (x1 : Int32) (x2 : Int32) (x3 : Int32) (res : St × Int32), GX6_findNext σ x1 x2 x3 = some res → Ci l yX6_findNext wsX6_findNext ⟨ra, 0, 0, rb⟩ D 44 g (KC g Y) Y bP [.ref (g 4), .int x1, .int x2, .int x3] σ res) {K81 : St → Int32 → Int32 → Option (St × Int32)} (hK81 : ∀ (σ : St) (a1 : Int32) (a4 : Int32) (H : Heap) (locs : List Loc) (ls : Array Slot), K81 σ a1 a4 = some res → JW D 44 g (KC g Y) Y bP (va_A (wd 44 g (KC g Y) σ0) s.heap.size) s σ H locs → lv_has ls 6 [(0, .ref (g 4)), (1, .int a1), (4, .int a4)] → W p l e (⟨ra + 10, 0, 0, rb + 500⟩ : Room) s m args below meth c H locs 0 0 (MQ below (Qi D 44 g (KC g Y) Y σ0 res s.heap.size) args s 0 0 (va_A (wd 44 g (KC g Y) σ0) s.heap.size)) (F0 m 81 ls [])) : ∀ (n : Nat) (σ : St) (a1 : Int32) (a2 : Int32) (a3 : Int32) (a4 : Int32) (H : Heap) (locs : List Loc) (ls : Array Slot), fX6_findNext_L11 GX6_findNext K81 n σ a1 a2 a3 a4 = some res → JW D 44 g (KC g Y) Y bP (va_A (wd 44 g (KC g Y) σ0) s.heap.size) s σ H locs → lv_has ls 6 [(0, .ref (g 4)), (1, .int a1), (2, .int a2), (3, .int a3), (4, .int a4)] → W p l e (⟨ra + 10, 0, 0, rb + 500⟩ : Room) s m args below meth c H locs 0 0 (MQ below (Qi D 44 g (KC g Y) Y σ0 res s.heap.size) args s 0 0 (va_A (wd 44 g (KC g Y) σ0) s.heap.size)) (F0 m 11 ls []) := by
  have C0 := C0
  obtain ⟨hx, hb, hr, hml, hown, hts, hlk⟩ := id C0
  intro n
  induction n with
  | zero =>
    intro σ a1 a2 a3 a4 H locs ls hf
    cases hf
  | succ n ih =>
    intro σ a1 a2 a3 a4 H locs ls hf I hl
    rw [fX6_findNext_L11] at hf
    refine lv_iload hx hb dX6_findNext_11 (lv_at hl 4 rfl) ?_
    refine lv_aload_n hx hb dX6_findNext_13 rfl (lv_at hl 0 rfl) ?_
    refine j_get I hx hb hts iw_X6_findNext_X6 hown 4 (by decide) (kc4 g Y _) rfl 8 (by decide) (hts (.fieldLink RX6 33 "ReelNight$Rides" "many" "I") (by decide +kernel)) rfl dX6_findNext_14 ?_
    refine lv_icmp_ge (tgt := 97) hx hb dX6_findNext_17 (by decide) (fun c2 => ?_) (fun c2 => ?_)
    · have hf := i_t c2 hf
      refine lv_iconst (v := 0) hx hb dX6_findNext_97 (by decide) ?_
      exact j_iret I hx hb hr rfl hlk hf dX6_findNext_98
    · have hf := i_f c2 hf
      refine lv_aload_n hx hb dX6_findNext_20 rfl (lv_at hl 0 rfl) ?_
      refine j_get I hx hb hts iw_X6_findNext_X6 hown 4 (by decide) (kc4 g Y _) rfl 7 (by decide) (hts (.fieldLink RX6 30 "ReelNight$Rides" "lookedAt" "[I") (by decide +kernel)) rfl dX6_findNext_21 ?_
      refine lv_iload hx hb dX6_findNext_24 (lv_at hl 4 rfl) ?_
      obtain ⟨b3, hf⟩ := o_nb hf
      refine j_ald I hx hb 32 (by decide) (kc32 g Y _) b3 dX6_findNext_26 ?_
      refine lv_iload_n hx hb dX6_findNext_27 rfl (lv_at hl 2 rfl) ?_
      refine lv_icmp_eq (tgt := 91) hx hb dX6_findNext_28 (by decide) (fun c4 => ?_) (fun c4 => ?_)
      · have hf := i_t c4 hf
        refine lv_iinc (v := (a4 + 1)) (lv' := [(4, .int (a4 + 1)), (0, .ref (g 4)), (1, .int a1), (2, .int a2), (3, .int a3)]) hx hb dX6_findNext_91 hl (k := 4) rfl rfl (by decide) rfl (fun ls hl => ?_)
        refine lv_goto (tgt := 11) hx hb dX6_findNext_94 (by decide) ?_
        exact ih σ a1 a2 a3 (a4 + 1) _ _ _ hf I (lv_sub hl [1, 2, 3, 4, 0] rfl)
      · have hf := i_f c4 hf
        refine lv_aload_n hx hb dX6_findNext_31 rfl (lv_at hl 0 rfl) ?_
        refine lv_iload_n hx hb dX6_findNext_32 rfl (lv_at hl 1 rfl) ?_
        refine lv_iload hx hb dX6_findNext_33 (lv_at hl 4 rfl) ?_
        obtain ⟨σ5, r6, h7, hf⟩ := o_obn hf
        refine j_iV (rest := []) I ⟨hx, hb, hml, hown, hts⟩ (ct_X6_canFollow σ a1 a4 _ h7) (cwV 2 hts gX6_findNext_X6_canFollow rfl rfl rfl (by decide +kernel) ⟨by dsimp only [headSpec]; omega, by dsimp only [headSpec]; omega⟩) (by decide) (kc4 g Y _) rfl rfl hl.1 rfl (Nat.le_of_ble_eq_true rfl) dX6_findNext_35 ⟨Nat.zero_le _, Nat.zero_le _⟩ (fun H locs I => ?_)
        refine lv_if_ne (tgt := 44) hx hb dX6_findNext_38 (by decide) (fun c8 => ?_) (fun c8 => ?_)
        · have hf := i_f c8 hf
          refine lv_aload_n hx hb dX6_findNext_44 rfl (lv_at hl 0 rfl) ?_
          refine j_get I hx hb hts iw_X6_findNext_X6 hown 4 (by decide) (kc4 g Y _) rfl 7 (by decide) (hts (.fieldLink RX6 30 "ReelNight$Rides" "lookedAt" "[I") (by decide +kernel)) rfl dX6_findNext_45 ?_
          refine lv_iload hx hb dX6_findNext_48 (lv_at hl 4 rfl) ?_
          refine lv_iload_n hx hb dX6_findNext_50 rfl (lv_at hl 2 rfl) ?_
          obtain ⟨b9, hf⟩ := o_nb hf
          obtain ⟨σ10, eσ10, hf⟩ := o_stp hf
          refine j_ast I hx hb 32 (by decide) (kc32 g Y) b9 eσ10 dX6_findNext_51 (fun H locs I => ?_)
          refine lv_aload_n hx hb dX6_findNext_52 rfl (lv_at hl 0 rfl) ?_
          refine j_get I hx hb hts iw_X6_findNext_X6 hown 4 (by decide) (kc4 g Y _) rfl 6 (by decide) (hts (.fieldLink RX6 27 "ReelNight$Rides" "aheads" "[I") (by decide +kernel)) rfl dX6_findNext_53 ?_
          refine lv_iload hx hb dX6_findNext_56 (lv_at hl 4 rfl) ?_
          obtain ⟨b11, hf⟩ := o_nb hf
          refine j_ald I hx hb 31 (by decide) (kc31 g Y _) b11 dX6_findNext_58 ?_
          obtain ⟨v12, ev12, hf⟩ := o_itp hf
          refine top_eq ev12 ?_
          refine lv_istore (lv' := [(5, .int v12), (0, .ref (g 4)), (1, .int a1), (2, .int a2), (3, .int a3), (4, .int a4)]) hx hb dX6_findNext_59 hl (by decide) rfl (fun ls hl => ?_)
          refine lv_iload hx hb dX6_findNext_61 (lv_at hl 0 rfl) ?_
          refine lv_ldc hx hb hown (hts (.constant RX6 47 (-1000000005)) (by decide +kernel)) dX6_findNext_63 ?_
          refine lv_icmp_eq (tgt := 81) hx hb dX6_findNext_65 (by decide) (fun c13 => ?_) (fun c13 => ?_)
          · have hf := i_t c13 hf
            exact hK81 σ10 a1 a4 _ _ _ hf I (lv_sub hl [1, 2, 5] rfl)
          · have hf := i_f c13 hf
            refine lv_aload_n hx hb dX6_findNext_68 rfl (lv_at hl 1 rfl) ?_
            refine lv_iload hx hb dX6_findNext_69 (lv_at hl 0 rfl) ?_
            refine lv_iload_n hx hb dX6_findNext_71 rfl (lv_at hl 3 rfl) ?_
            refine lv_iload_n hx hb dX6_findNext_72 rfl (lv_at hl 4 rfl) ?_
            refine lv_iconst (v := 1) hx hb dX6_findNext_73 (by decide) ?_
            refine lv_iadd hx hb dX6_findNext_74 ?_
            obtain ⟨σ14, r15, h16, hf⟩ := o_obn hf
            refine j_iS (rest := []) I ⟨hx, hb, hml, hown, hts⟩ (hGX6_findNext σ10 v12 a2 (a3 + 1) _ h16) (va_cwS 4 hts gX6_findNext_X6_findNext rfl rfl rfl (by decide +kernel) ⟨by dsimp only [headSpec]; omega, by dsimp only [headSpec]; omega⟩) rfl hl.1 rfl (Nat.le_of_ble_eq_true rfl) dX6_findNext_75 ⟨Nat.zero_le _, Nat.zero_le _⟩ (fun H locs I => ?_)
            refine lv_if_eq (tgt := 91) hx hb dX6_findNext_78 (by decide) (fun c17 => ?_) (fun c17 => ?_)
            · have hf := i_t c17 hf
              refine lv_iinc (v := (a4 + 1)) (lv' := [(4, .int (a4 + 1)), (5, .int v12), (0, .ref (g 4)), (1, .int a1), (2, .int a2), (3, .int a3)]) hx hb dX6_findNext_91 hl (k := 5) rfl rfl (by decide) rfl (fun ls hl => ?_)
              refine lv_goto (tgt := 11) hx hb dX6_findNext_94 (by decide) ?_
              exact ih σ14 a1 a2 a3 (a4 + 1) _ _ _ hf I (lv_sub hl [2, 3, 4, 5, 0] rfl)
            · have hf := i_f c17 hf
              exact hK81 σ14 a1 a4 _ _ _ hf I (lv_sub hl [1, 2, 5] rfl)
        · have hf := i_t c8 hf
          refine lv_goto (tgt := 91) hx hb dX6_findNext_41 (by decide) ?_
          refine lv_iinc (v := (a4 + 1)) (lv' := [(4, .int (a4 + 1)), (0, .ref (g 4)), (1, .int a1), (2, .int a2), (3, .int a3)]) hx hb dX6_findNext_91 hl (k := 4) rfl rfl (by decide) rfl (fun ls hl => ?_)
          refine lv_goto (tgt := 11) hx hb dX6_findNext_94 (by decide) ?_
          exact ih σ5 a1 a2 a3 (a4 + 1) _ _ _ hf I (lv_sub hl [1, 2, 3, 4, 0] rfl)
set_option maxHeartbeats 4000000 in
set_option maxRecDepth 100000 in
theorem ct_X6_findNext {l : Launch} {D : va_G} {g : Nat → Nat} {Y : YT} {bP : Nat} {GX6_findNext : St → Int32 → Int32 → Int32 → Option (St × Int32)} {ra rb : Nat} (hGX6_findNext : ∀ (σ : St) (x1 : Int32) (x2 : Int32) (x3 : Int32) (res : St × Int32), GX6_findNext σ x1 x2 x3 = some res → Ci l yX6_findNext wsX6_findNext ⟨ra, 0, 0, rb⟩ D 44 g (KC g Y) Y bP [.ref (g 4), .int x1, .int x2, .int x3] σ res) (σ : St) (p1 : Int32) (p2 : Int32) (p3 : Int32) (res : St × Int32) (hf : fX6_findNext GX6_findNext σ p1 p2 p3 = some res) : Ci l yX6_findNext wsX6_findNext ⟨ra + 10, 0, 0, rb + 500⟩ D 44 g (KC g Y) Y bP [.ref (g 4), .int p1, .int p2, .int p3] σ res := by
  intro sz
  refine Met.ofW (cc := cX6_findNext) (maxL := 6) (ret := (some .boolean)) (by decide) rfl ?_
  intro p e s m args below meth c s₁ B hml hv
  obtain ⟨rfl, rfl, I⟩ := j_start hv
  have C0 : MC p s m _ meth c cX6_findNext 6 (some .boolean) RX6 wsX6_findNext := ⟨B.exec, B.bytes, B.returns, hml, findClass_of_methodNamed B.named, atoms_spec (ws := wsX6_findNext) B.pre, B.notSynchronized⟩
  obtain ⟨hx, hb, hr, hml, hown, hts, hlk⟩ := id C0
  have hl := lv_entry ([.ref (g 4), .int p1, .int p2, .int p3]) (n := 6) (Nat.le_of_ble_eq_true rfl)
  rw [lg_entry_eq]
  generalize (lg_sl ([.ref (g 4), .int p1, .int p2, .int p3]) ++ List.replicate (6 - (lg_sl ([.ref (g 4), .int p1, .int p2, .int p3])).length) Slot.unset).toArray = ls at hl ⊢
  have hl : lv_has ls 6 [(0, .ref (g 4)), (1, .int p1), (2, .int p2), (3, .int p3)] := hl
  rw [fX6_findNext] at hf
  refine lv_iload_n hx hb dX6_findNext_0 rfl (lv_at hl 3 rfl) ?_
  refine lv_bipush (v := 40) hx hb dX6_findNext_1 (by decide) ?_
  refine lv_icmp_le (tgt := 8) hx hb dX6_findNext_3 (by decide) (fun c1 => ?_) (fun c1 => ?_)
  · have hf := i_t c1 hf
    refine lv_iconst (v := 0) hx hb dX6_findNext_8 (by decide) ?_
    refine lv_istore (lv' := [(4, .int 0), (0, .ref (g 4)), (1, .int p1), (2, .int p2), (3, .int p3)]) hx hb dX6_findNext_9 hl (by decide) rfl (fun ls hl => ?_)
    refine bX6_findNext_L11 C0 hGX6_findNext ?_ 50 σ p1 p2 p3 0 _ _ _ hf I (lv_sub hl [1, 2, 3, 4, 0] rfl)
    · intro σ18 a19 a20 H locs ls hf I hl
      refine lv_aload_n hx hb dX6_findNext_81 rfl (lv_at hl 0 rfl) ?_
      refine j_get I hx hb hts iw_X6_findNext_X6 hown 4 (by decide) (kc4 g Y _) rfl 6 (by decide) (hts (.fieldLink RX6 27 "ReelNight$Rides" "aheads" "[I") (by decide +kernel)) rfl dX6_findNext_82 ?_
      refine lv_iload hx hb dX6_findNext_85 (lv_at hl 2 rfl) ?_
      refine lv_iload_n hx hb dX6_findNext_87 rfl (lv_at hl 1 rfl) ?_
      obtain ⟨b21, hf⟩ := o_nb hf
      obtain ⟨σ22, eσ22, hf⟩ := o_stp hf
      refine j_ast I hx hb 31 (by decide) (kc31 g Y) b21 eσ22 dX6_findNext_88 (fun H locs I => ?_)
      refine lv_iconst (v := 1) hx hb dX6_findNext_89 (by decide) ?_
      exact j_iret I hx hb hr rfl hlk hf dX6_findNext_90
  · have hf := i_f c1 hf
    refine lv_iconst (v := 0) hx hb dX6_findNext_6 (by decide) ?_
    exact j_iret I hx hb hr rfl hlk hf dX6_findNext_7
theorem ctR_X6_findNext {l : Launch} {D : va_G} {g : Nat → Nat} {Y : YT} {bP : Nat} : ∀ (d : Nat) (σ : St) (p1 : Int32) (p2 : Int32) (p3 : Int32) (res : St × Int32), fX6_findNextR d σ p1 p2 p3 = some res → Ci l yX6_findNext wsX6_findNext ⟨10 * d, 0, 0, 500 * d⟩ D 44 g (KC g Y) Y bP [.ref (g 4), .int p1, .int p2, .int p3] σ res := by
  intro d
  induction d with
  | zero => intro σ p1 p2 p3 res hf; cases hf
  | succ d ih =>
    intro σ p1 p2 p3 res hf
    exact ct_X6_findNext (ra := 10 * d) (rb := 500 * d) (fun σ p1 p2 p3 res h => ih σ p1 p2 p3 res h) σ p1 p2 p3 res hf

theorem iw_X6_fewestRiders_X6 : ∀ w ∈ u_ws RX6 TX6 9, w ∈ wsX6_fewestRiders := fun _ h => List.mem_cons_of_mem _ (List.mem_append_left _ (List.mem_append_right _ h))
set_option maxHeartbeats 4000000 in
set_option maxRecDepth 100000 in
theorem bX6_fewestRiders_L25 {p : Program} {l : Launch} {e : Env} {s : State} {m : MethodId} {args : Array Value} {below : List Frame} {meth : Method} {c : Code} {D : va_G} {g : Nat → Nat} {Y : YT} {bP : Nat} {σ0 : St} {res : St × Int32} (C0 : MC p s m args meth c cX6_fewestRiders 3 (some .int) RX6 wsX6_fewestRiders) : ∀ (n : Nat) (σ : St) (a1 : Int32) (a2 : Int32) (H : Heap) (locs : List Loc) (ls : Array Slot), fX6_fewestRiders_L25 n σ a1 a2 = some res → JW D 44 g (KC g Y) Y bP (va_A (wd 44 g (KC g Y) σ0) s.heap.size) s σ H locs → lv_has ls 3 [(0, .ref (g 4)), (1, .int a1), (2, .int a2)] → W p l e (⟨421, 0, 0, 21025⟩ : Room) s m args below meth c H locs 0 0 (MQ below (Qi D 44 g (KC g Y) Y σ0 res s.heap.size) args s 0 0 (va_A (wd 44 g (KC g Y) σ0) s.heap.size)) (F0 m 25 ls []) := by
  have C0 := C0
  obtain ⟨hx, hb, hr, hml, hown, hts, hlk⟩ := id C0
  intro n
  induction n with
  | zero =>
    intro σ a1 a2 H locs ls hf
    cases hf
  | succ n ih =>
    intro σ a1 a2 H locs ls hf I hl
    rw [fX6_fewestRiders_L25] at hf
    refine lv_iload_n hx hb dX6_fewestRiders_25 rfl (lv_at hl 2 rfl) ?_
    refine lv_aload_n hx hb dX6_fewestRiders_26 rfl (lv_at hl 0 rfl) ?_
    refine j_get I hx hb hts iw_X6_fewestRiders_X6 hown 4 (by decide) (kc4 g Y _) rfl 8 (by decide) (hts (.fieldLink RX6 33 "ReelNight$Rides" "many" "I") (by decide +kernel)) rfl dX6_fewestRiders_27 ?_
    refine lv_icmp_ge (tgt := 52) hx hb dX6_fewestRiders_30 (by decide) (fun c4 => ?_) (fun c4 => ?_)
    · have hf := i_t c4 hf
      refine lv_iload_n hx hb dX6_fewestRiders_52 rfl (lv_at hl 1 rfl) ?_
      exact j_iret I hx hb hr rfl hlk hf dX6_fewestRiders_53
    · have hf := i_f c4 hf
      refine lv_aload_n hx hb dX6_fewestRiders_33 rfl (lv_at hl 0 rfl) ?_
      refine lv_iload_n hx hb dX6_fewestRiders_34 rfl (lv_at hl 2 rfl) ?_
      refine lv_iload_n hx hb dX6_fewestRiders_35 rfl (lv_at hl 2 rfl) ?_
      refine lv_iconst (v := 0) hx hb dX6_fewestRiders_36 (by decide) ?_
      obtain ⟨σ5, r6, h7, hf⟩ := o_obn hf
      refine j_iS (rest := []) I ⟨hx, hb, hml, hown, hts⟩ (ctR_X6_findNext 42 σ a2 a2 0 _ h7) (va_cwS 4 hts gX6_fewestRiders_X6_findNext rfl rfl rfl (by decide +kernel) ⟨Nat.le_of_ble_eq_true rfl, Nat.le_of_ble_eq_true rfl⟩) rfl hl.1 rfl (Nat.le_of_ble_eq_true rfl) dX6_fewestRiders_37 ⟨Nat.zero_le _, Nat.zero_le _⟩ (fun H locs I => ?_)
      refine lv_if_eq (tgt := 46) hx hb dX6_fewestRiders_40 (by decide) (fun c8 => ?_) (fun c8 => ?_)
      · have hf := i_t c8 hf
        refine lv_iinc (v := (a2 + 1)) (lv' := [(2, .int (a2 + 1)), (0, .ref (g 4)), (1, .int a1)]) hx hb dX6_fewestRiders_46 hl (k := 2) rfl rfl (by decide) rfl (fun ls hl => ?_)
        refine lv_goto (tgt := 25) hx hb dX6_fewestRiders_49 (by decide) ?_
        exact ih σ5 a1 (a2 + 1) _ _ _ hf I (lv_sub hl [1, 2, 0] rfl)
      · have hf := i_f c8 hf
        refine lv_iinc (v := (a1 + (-1))) (lv' := [(1, .int (a1 + (-1))), (0, .ref (g 4)), (2, .int a2)]) hx hb dX6_fewestRiders_43 hl (k := 1) rfl rfl (by decide) rfl (fun ls hl => ?_)
        refine lv_iinc (v := (a2 + 1)) (lv' := [(2, .int (a2 + 1)), (1, .int (a1 + (-1))), (0, .ref (g 4))]) hx hb dX6_fewestRiders_46 hl (k := 2) rfl rfl (by decide) rfl (fun ls hl => ?_)
        refine lv_goto (tgt := 25) hx hb dX6_fewestRiders_49 (by decide) ?_
        exact ih σ5 (a1 + (-1)) (a2 + 1) _ _ _ hf I (lv_sub hl [2, 1, 0] rfl)
set_option maxHeartbeats 4000000 in
set_option maxRecDepth 100000 in
theorem ct_X6_fewestRiders {l : Launch} {D : va_G} {g : Nat → Nat} {Y : YT} {bP : Nat} (σ : St) (res : St × Int32) (hf : fX6_fewestRiders σ = some res) : Ci l yX6_fewestRiders wsX6_fewestRiders ⟨421, 0, 0, 21025⟩ D 44 g (KC g Y) Y bP [.ref (g 4)] σ res := by
  intro sz
  refine Met.ofW (cc := cX6_fewestRiders) (maxL := 3) (ret := (some .int)) (by decide) rfl ?_
  intro p e s m args below meth c s₁ B hml hv
  obtain ⟨rfl, rfl, I⟩ := j_start hv
  have C0 : MC p s m _ meth c cX6_fewestRiders 3 (some .int) RX6 wsX6_fewestRiders := ⟨B.exec, B.bytes, B.returns, hml, findClass_of_methodNamed B.named, atoms_spec (ws := wsX6_fewestRiders) B.pre, B.notSynchronized⟩
  obtain ⟨hx, hb, hr, hml, hown, hts, hlk⟩ := id C0
  have hl := lv_entry ([.ref (g 4)]) (n := 3) (Nat.le_of_ble_eq_true rfl)
  rw [lg_entry_eq]
  generalize (lg_sl ([.ref (g 4)]) ++ List.replicate (3 - (lg_sl ([.ref (g 4)])).length) Slot.unset).toArray = ls at hl ⊢
  have hl : lv_has ls 3 [(0, .ref (g 4))] := hl
  rw [fX6_fewestRiders] at hf
  refine lv_aload_n hx hb dX6_fewestRiders_0 rfl (lv_at hl 0 rfl) ?_
  refine j_get I hx hb hts iw_X6_fewestRiders_X6 hown 4 (by decide) (kc4 g Y _) rfl 6 (by decide) (hts (.fieldLink RX6 27 "ReelNight$Rides" "aheads" "[I") (by decide +kernel)) rfl dX6_fewestRiders_1 ?_
  refine lv_ldc hx hb hown (hts (.constant RX6 47 (-1000000005)) (by decide +kernel)) dX6_fewestRiders_4 ?_
  obtain ⟨σ1, eσ1, hf⟩ := o_stp hf
  refine j_vS (rest := []) I ⟨hx, hb, hml, hown, hts⟩ (ct_J7_fill_53178 l 31 (by decide) (kc31 g Y) (by decide) (-1000000005) eσ1) (va_cwS 2 hts gX6_fewestRiders_J7_fill_53178 rfl rfl rfl (by decide +kernel) ⟨Nat.le_of_ble_eq_true rfl, Nat.le_of_ble_eq_true rfl⟩) rfl hl.1 rfl (Nat.le_of_ble_eq_true rfl) dX6_fewestRiders_6 ⟨Nat.zero_le _, Nat.zero_le _⟩ (fun H locs I => ?_)
  refine lv_aload_n hx hb dX6_fewestRiders_9 rfl (lv_at hl 0 rfl) ?_
  refine j_get I hx hb hts iw_X6_fewestRiders_X6 hown 4 (by decide) (kc4 g Y _) rfl 7 (by decide) (hts (.fieldLink RX6 30 "ReelNight$Rides" "lookedAt" "[I") (by decide +kernel)) rfl dX6_fewestRiders_10 ?_
  refine lv_ldc hx hb hown (hts (.constant RX6 47 (-1000000005)) (by decide +kernel)) dX6_fewestRiders_13 ?_
  obtain ⟨σ2, eσ2, hf⟩ := o_stp hf
  refine j_vS (rest := []) I ⟨hx, hb, hml, hown, hts⟩ (ct_J7_fill_53178 l 32 (by decide) (kc32 g Y) (by decide) (-1000000005) eσ2) (va_cwS 2 hts gX6_fewestRiders_J7_fill_53178 rfl rfl rfl (by decide +kernel) ⟨Nat.le_of_ble_eq_true rfl, Nat.le_of_ble_eq_true rfl⟩) rfl hl.1 rfl (Nat.le_of_ble_eq_true rfl) dX6_fewestRiders_15 ⟨Nat.zero_le _, Nat.zero_le _⟩ (fun H locs I => ?_)
  refine lv_aload_n hx hb dX6_fewestRiders_18 rfl (lv_at hl 0 rfl) ?_
  refine j_get I hx hb hts iw_X6_fewestRiders_X6 hown 4 (by decide) (kc4 g Y _) rfl 8 (by decide) (hts (.fieldLink RX6 33 "ReelNight$Rides" "many" "I") (by decide +kernel)) rfl dX6_fewestRiders_19 ?_
  obtain ⟨v3, ev3, hf⟩ := o_itp hf
  refine top_eq ev3 ?_
  refine lv_istore_n (lv' := [(1, .int v3), (0, .ref (g 4))]) hx hb dX6_fewestRiders_22 rfl hl (by decide) rfl (fun ls hl => ?_)
  refine lv_iconst (v := 0) hx hb dX6_fewestRiders_23 (by decide) ?_
  refine lv_istore_n (lv' := [(2, .int 0), (1, .int v3), (0, .ref (g 4))]) hx hb dX6_fewestRiders_24 rfl hl (by decide) rfl (fun ls hl => ?_)
  refine bX6_fewestRiders_L25 C0 50 σ2 v3 0 _ _ _ hf I (lv_sub hl [2, 1, 0] rfl)

theorem iw_X8_spans_X8 : ∀ w ∈ u_ws RX8 TX8 2, w ∈ wsX8_spans := fun _ h => List.mem_cons_of_mem _ (List.mem_append_right _ h)
set_option maxHeartbeats 4000000 in
set_option maxRecDepth 100000 in
theorem ct_X8_spans_8 {l : Launch} {D : va_G} {g : Nat → Nat} {Y : YT} {bP : Nat} (σ : St) (p0 : Int32) (p1 : Int32) (res : St × Int32) (hf : fX8_spans_8 σ p0 p1 = some res) : Ci l yX8_spans wsX8_spans ⟨1, 0, 0, 22⟩ D 44 g (KC g Y) Y bP [.ref (g 8), .int p0, .int p1] σ res := by
  intro sz
  refine Met.ofW (cc := cX8_spans) (maxL := 3) (ret := (some .boolean)) (by decide) rfl ?_
  intro p e s m args below meth c s₁ B hml hv
  obtain ⟨rfl, rfl, I⟩ := j_start hv
  have C0 : MC p s m _ meth c cX8_spans 3 (some .boolean) RX8 wsX8_spans := ⟨B.exec, B.bytes, B.returns, hml, findClass_of_methodNamed B.named, atoms_spec (ws := wsX8_spans) B.pre, B.notSynchronized⟩
  obtain ⟨hx, hb, hr, hml, hown, hts, hlk⟩ := id C0
  have hl := lv_entry ([.ref (g 8), .int p0, .int p1]) (n := 3) (Nat.le_of_ble_eq_true rfl)
  rw [lg_entry_eq]
  generalize (lg_sl ([.ref (g 8), .int p0, .int p1]) ++ List.replicate (3 - (lg_sl ([.ref (g 8), .int p0, .int p1])).length) Slot.unset).toArray = ls at hl ⊢
  have hl : lv_has ls 3 [(0, .ref (g 8)), (1, .int p0), (2, .int p1)] := hl
  rw [fX8_spans_8] at hf
  refine lv_iload_n hx hb dX8_spans_0 rfl (lv_at hl 1 rfl) ?_
  refine lv_iconst (v := 0) hx hb dX8_spans_1 (by decide) ?_
  refine lv_aload_n hx hb dX8_spans_2 rfl (lv_at hl 0 rfl) ?_
  refine j_get I hx hb hts iw_X8_spans_X8 hown 8 (by decide) (kc8 g Y _) rfl 1 (by decide) (hts (.fieldLink RX8 15 "ReelNight$Sheet" "size" "I") (by decide +kernel)) rfl dX8_spans_3 ?_
  obtain ⟨σ1, r2, h3, hf⟩ := o_obn hf
  refine j_iSN (rest := []) I ⟨hx, hb, hml, hown, hts⟩ (ct_X9_within σ p0 0 (σ 8 1) _ h3) ⟨va_cnB 3 hts gX8_spans_X9_within_n19 rfl rfl rfl (nM I.2.2.2.2.2.1 (own := RX8) (index := 19) (y := yX9_within) (host := "ReelNight") (by decide +kernel)) (hts (.initialized RX9) (by decide +kernel)) (by decide +kernel) ⟨Nat.le_of_ble_eq_true rfl, Nat.le_of_ble_eq_true rfl⟩, hts (.static yX9_within) (by decide +kernel), trivial⟩ rfl hl.1 rfl (Nat.le_of_ble_eq_true rfl) dX8_spans_6 ⟨Nat.zero_le _, Nat.zero_le _⟩ (fun H locs I => ?_)
  refine lv_if_eq (tgt := 30) hx hb dX8_spans_9 (by decide) (fun c4 => ?_) (fun c4 => ?_)
  · have hf := i_t c4 hf
    refine lv_iconst (v := 0) hx hb dX8_spans_30 (by decide) ?_
    exact j_iret I hx hb hr rfl hlk hf dX8_spans_31
  · have hf := i_f c4 hf
    refine lv_iload_n hx hb dX8_spans_12 rfl (lv_at hl 2 rfl) ?_
    refine lv_iconst (v := 0) hx hb dX8_spans_13 (by decide) ?_
    refine lv_aload_n hx hb dX8_spans_14 rfl (lv_at hl 0 rfl) ?_
    refine j_get I hx hb hts iw_X8_spans_X8 hown 8 (by decide) (kc8 g Y _) rfl 1 (by decide) (hts (.fieldLink RX8 15 "ReelNight$Sheet" "size" "I") (by decide +kernel)) rfl dX8_spans_15 ?_
    refine lv_iload_n hx hb dX8_spans_18 rfl (lv_at hl 1 rfl) ?_
    refine lv_isub hx hb dX8_spans_19 ?_
    obtain ⟨σ5, r6, h7, hf⟩ := o_obn hf
    refine j_iSN (rest := []) I ⟨hx, hb, hml, hown, hts⟩ (ct_X9_within σ1 p1 0 ((σ1 8 1) - p0) _ h7) ⟨va_cnB 3 hts gX8_spans_X9_within_n19 rfl rfl rfl (nM I.2.2.2.2.2.1 (own := RX8) (index := 19) (y := yX9_within) (host := "ReelNight") (by decide +kernel)) (hts (.initialized RX9) (by decide +kernel)) (by decide +kernel) ⟨Nat.le_of_ble_eq_true rfl, Nat.le_of_ble_eq_true rfl⟩, hts (.static yX9_within) (by decide +kernel), trivial⟩ rfl hl.1 rfl (Nat.le_of_ble_eq_true rfl) dX8_spans_20 ⟨Nat.zero_le _, Nat.zero_le _⟩ (fun H locs I => ?_)
    refine lv_if_eq (tgt := 30) hx hb dX8_spans_23 (by decide) (fun c8 => ?_) (fun c8 => ?_)
    · have hf := i_t c8 hf
      refine lv_iconst (v := 0) hx hb dX8_spans_30 (by decide) ?_
      exact j_iret I hx hb hr rfl hlk hf dX8_spans_31
    · have hf := i_f c8 hf
      refine lv_iconst (v := 1) hx hb dX8_spans_26 (by decide) ?_
      refine lv_goto (tgt := 31) hx hb dX8_spans_27 (by decide) ?_
      exact j_iret I hx hb hr rfl hlk hf dX8_spans_31

set_option maxHeartbeats 4000000 in
set_option maxRecDepth 100000 in
theorem ct_X8_spans_9 {l : Launch} {D : va_G} {g : Nat → Nat} {Y : YT} {bP : Nat} (σ : St) (p0 : Int32) (p1 : Int32) (res : St × Int32) (hf : fX8_spans_9 σ p0 p1 = some res) : Ci l yX8_spans wsX8_spans ⟨1, 0, 0, 22⟩ D 44 g (KC g Y) Y bP [.ref (g 9), .int p0, .int p1] σ res := by
  intro sz
  refine Met.ofW (cc := cX8_spans) (maxL := 3) (ret := (some .boolean)) (by decide) rfl ?_
  intro p e s m args below meth c s₁ B hml hv
  obtain ⟨rfl, rfl, I⟩ := j_start hv
  have C0 : MC p s m _ meth c cX8_spans 3 (some .boolean) RX8 wsX8_spans := ⟨B.exec, B.bytes, B.returns, hml, findClass_of_methodNamed B.named, atoms_spec (ws := wsX8_spans) B.pre, B.notSynchronized⟩
  obtain ⟨hx, hb, hr, hml, hown, hts, hlk⟩ := id C0
  have hl := lv_entry ([.ref (g 9), .int p0, .int p1]) (n := 3) (Nat.le_of_ble_eq_true rfl)
  rw [lg_entry_eq]
  generalize (lg_sl ([.ref (g 9), .int p0, .int p1]) ++ List.replicate (3 - (lg_sl ([.ref (g 9), .int p0, .int p1])).length) Slot.unset).toArray = ls at hl ⊢
  have hl : lv_has ls 3 [(0, .ref (g 9)), (1, .int p0), (2, .int p1)] := hl
  rw [fX8_spans_9] at hf
  refine lv_iload_n hx hb dX8_spans_0 rfl (lv_at hl 1 rfl) ?_
  refine lv_iconst (v := 0) hx hb dX8_spans_1 (by decide) ?_
  refine lv_aload_n hx hb dX8_spans_2 rfl (lv_at hl 0 rfl) ?_
  refine j_get I hx hb hts iw_X8_spans_X8 hown 9 (by decide) (kc9 g Y _) rfl 1 (by decide) (hts (.fieldLink RX8 15 "ReelNight$Sheet" "size" "I") (by decide +kernel)) rfl dX8_spans_3 ?_
  obtain ⟨σ1, r2, h3, hf⟩ := o_obn hf
  refine j_iSN (rest := []) I ⟨hx, hb, hml, hown, hts⟩ (ct_X9_within σ p0 0 (σ 9 1) _ h3) ⟨va_cnB 3 hts gX8_spans_X9_within_n19 rfl rfl rfl (nM I.2.2.2.2.2.1 (own := RX8) (index := 19) (y := yX9_within) (host := "ReelNight") (by decide +kernel)) (hts (.initialized RX9) (by decide +kernel)) (by decide +kernel) ⟨Nat.le_of_ble_eq_true rfl, Nat.le_of_ble_eq_true rfl⟩, hts (.static yX9_within) (by decide +kernel), trivial⟩ rfl hl.1 rfl (Nat.le_of_ble_eq_true rfl) dX8_spans_6 ⟨Nat.zero_le _, Nat.zero_le _⟩ (fun H locs I => ?_)
  refine lv_if_eq (tgt := 30) hx hb dX8_spans_9 (by decide) (fun c4 => ?_) (fun c4 => ?_)
  · have hf := i_t c4 hf
    refine lv_iconst (v := 0) hx hb dX8_spans_30 (by decide) ?_
    exact j_iret I hx hb hr rfl hlk hf dX8_spans_31
  · have hf := i_f c4 hf
    refine lv_iload_n hx hb dX8_spans_12 rfl (lv_at hl 2 rfl) ?_
    refine lv_iconst (v := 0) hx hb dX8_spans_13 (by decide) ?_
    refine lv_aload_n hx hb dX8_spans_14 rfl (lv_at hl 0 rfl) ?_
    refine j_get I hx hb hts iw_X8_spans_X8 hown 9 (by decide) (kc9 g Y _) rfl 1 (by decide) (hts (.fieldLink RX8 15 "ReelNight$Sheet" "size" "I") (by decide +kernel)) rfl dX8_spans_15 ?_
    refine lv_iload_n hx hb dX8_spans_18 rfl (lv_at hl 1 rfl) ?_
    refine lv_isub hx hb dX8_spans_19 ?_
    obtain ⟨σ5, r6, h7, hf⟩ := o_obn hf
    refine j_iSN (rest := []) I ⟨hx, hb, hml, hown, hts⟩ (ct_X9_within σ1 p1 0 ((σ1 9 1) - p0) _ h7) ⟨va_cnB 3 hts gX8_spans_X9_within_n19 rfl rfl rfl (nM I.2.2.2.2.2.1 (own := RX8) (index := 19) (y := yX9_within) (host := "ReelNight") (by decide +kernel)) (hts (.initialized RX9) (by decide +kernel)) (by decide +kernel) ⟨Nat.le_of_ble_eq_true rfl, Nat.le_of_ble_eq_true rfl⟩, hts (.static yX9_within) (by decide +kernel), trivial⟩ rfl hl.1 rfl (Nat.le_of_ble_eq_true rfl) dX8_spans_20 ⟨Nat.zero_le _, Nat.zero_le _⟩ (fun H locs I => ?_)
    refine lv_if_eq (tgt := 30) hx hb dX8_spans_23 (by decide) (fun c8 => ?_) (fun c8 => ?_)
    · have hf := i_t c8 hf
      refine lv_iconst (v := 0) hx hb dX8_spans_30 (by decide) ?_
      exact j_iret I hx hb hr rfl hlk hf dX8_spans_31
    · have hf := i_f c8 hf
      refine lv_iconst (v := 1) hx hb dX8_spans_26 (by decide) ?_
      refine lv_goto (tgt := 31) hx hb dX8_spans_27 (by decide) ?_
      exact j_iret I hx hb hr rfl hlk hf dX8_spans_31
