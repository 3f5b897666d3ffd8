theorem iw_X1_add_X1 : ∀ w ∈ u_ws RX1 TX1 6, w ∈ wsX1_add := by decide +kernel
set_option maxHeartbeats 4000000 in
set_option maxRecDepth 100000 in
theorem ct_X1_add {l : Launch} {D : va_G} {g : Nat → Nat} {Y : YT} {bP : Nat} (σ : St) (p0 : Int32) (p1 : Int32) (res : St × Int32) (hf : fX1_add σ p0 p1 = some res) : Ci l yX1_add wsX1_add ⟨0, 0, 0, 0⟩ D 44 g (KC g Y) Y bP [.ref (g 1), .int p0, .int p1] σ res := by
  intro sz
  refine Met.ofW (cc := cX1_add) (maxL := 3) (ret := (some .int)) (by decide) rfl ?_
  intro p e s m args below meth c s₁ B hml hv
  obtain ⟨rfl, rfl, I⟩ := j_start hv
  have C0 : MC p s m _ meth c cX1_add 3 (some .int) RX1 wsX1_add := ⟨B.exec, B.bytes, B.returns, hml, findClass_of_methodNamed B.named, atoms_spec (ws := wsX1_add) B.pre, B.notSynchronized⟩
  obtain ⟨hx, hb, hr, hml, hown, hts, hlk⟩ := id C0
  have hl := lv_entry ([.ref (g 1), .int p0, .int p1]) (n := 3) (Nat.le_of_ble_eq_true rfl)
  rw [lg_entry_eq]
  generalize (lg_sl ([.ref (g 1), .int p0, .int p1]) ++ List.replicate (3 - (lg_sl ([.ref (g 1), .int p0, .int p1])).length) Slot.unset).toArray = ls at hl ⊢
  have hl : lv_has ls 3 [(0, .ref (g 1)), (1, .int p0), (2, .int p1)] := hl
  rw [fX1_add] at hf
  refine lv_aload_n hx hb dX1_add_0 rfl (lv_at hl 0 rfl) ?_
  refine j_get I hx hb hts iw_X1_add_X1 hown 1 (by decide) (kc1 g Y _) rfl 0 (by decide) (hts (.fieldLink RX1 9 "ReelNight$Houses" "kinds" "[I") (by decide +kernel)) rfl dX1_add_1 ?_
  refine lv_aload_n hx hb dX1_add_4 rfl (lv_at hl 0 rfl) ?_
  refine j_get I hx hb hts iw_X1_add_X1 hown 1 (by decide) (kc1 g Y _) rfl 5 (by decide) (hts (.fieldLink RX1 33 "ReelNight$Houses" "many" "I") (by decide +kernel)) rfl dX1_add_5 ?_
  refine lv_iload_n hx hb dX1_add_8 rfl (lv_at hl 1 rfl) ?_
  obtain ⟨b1, hf⟩ := o_nb hf
  obtain ⟨σ2, eσ2, hf⟩ := o_stp hf
  refine j_ast I hx hb 12 (by decide) (kc12 g Y) b1 eσ2 dX1_add_9 (fun H locs I => ?_)
  refine lv_aload_n hx hb dX1_add_10 rfl (lv_at hl 0 rfl) ?_
  refine j_get I hx hb hts iw_X1_add_X1 hown 1 (by decide) (kc1 g Y _) rfl 1 (by decide) (hts (.fieldLink RX1 15 "ReelNight$Houses" "seats" "[I") (by decide +kernel)) rfl dX1_add_11 ?_
  refine lv_aload_n hx hb dX1_add_14 rfl (lv_at hl 0 rfl) ?_
  refine j_get I hx hb hts iw_X1_add_X1 hown 1 (by decide) (kc1 g Y _) rfl 5 (by decide) (hts (.fieldLink RX1 33 "ReelNight$Houses" "many" "I") (by decide +kernel)) rfl dX1_add_15 ?_
  refine lv_iload_n hx hb dX1_add_18 rfl (lv_at hl 2 rfl) ?_
  obtain ⟨b3, hf⟩ := o_nb hf
  obtain ⟨σ4, eσ4, hf⟩ := o_stp hf
  refine j_ast I hx hb 13 (by decide) (kc13 g Y) b3 eσ4 dX1_add_19 (fun H locs I => ?_)
  refine lv_aload_n hx hb dX1_add_20 rfl (lv_at hl 0 rfl) ?_
  refine lv_dup hx hb dX1_add_21 rfl ?_
  refine j_get I hx hb hts iw_X1_add_X1 hown 1 (by decide) (kc1 g Y _) rfl 5 (by decide) (hts (.fieldLink RX1 33 "ReelNight$Houses" "many" "I") (by decide +kernel)) rfl dX1_add_22 ?_
  refine lv_iconst (v := 1) hx hb dX1_add_25 (by decide) ?_
  refine lv_iadd hx hb dX1_add_26 ?_
  obtain ⟨σ5, eσ5, hf⟩ := o_stp hf
  refine j_put I hx hb hts iw_X1_add_X1 tyX1 tyX1_ok nmX1 hown 1 (by decide) (kc1 g Y _) rfl 5 (by decide) (hts (.fieldLink RX1 33 "ReelNight$Houses" "many" "I") (by decide +kernel)) rfl rfl rfl (Nat.le_of_ble_eq_true rfl) (kcs1_5 g Y _ _) eσ5 dX1_add_27 (fun H locs I => ?_)
  refine lv_aload_n hx hb dX1_add_30 rfl (lv_at hl 0 rfl) ?_
  refine j_get I hx hb hts iw_X1_add_X1 hown 1 (by decide) (kc1 g Y _) rfl 5 (by decide) (hts (.fieldLink RX1 33 "ReelNight$Houses" "many" "I") (by decide +kernel)) rfl dX1_add_31 ?_
  refine lv_iconst (v := 1) hx hb dX1_add_34 (by decide) ?_
  refine lv_isub hx hb dX1_add_35 ?_
  exact j_iret I hx hb hr rfl hlk hf dX1_add_36

theorem iw_X1_areOf_X1 : ∀ w ∈ u_ws RX1 TX1 6, w ∈ wsX1_areOf := by decide +kernel
set_option maxHeartbeats 4000000 in
set_option maxRecDepth 100000 in
theorem ct_X1_areOf {l : Launch} {D : va_G} {g : Nat → Nat} {Y : YT} {bP : Nat} (σ : St) (p0 : Int32) (p1 : Int32) (res : St × Int32) (hf : fX1_areOf σ p0 p1 = some res) : Ci l yX1_areOf wsX1_areOf ⟨0, 0, 0, 0⟩ D 44 g (KC g Y) Y bP [.ref (g 1), .int p0, .int p1] σ res := by
  intro sz
  refine Met.ofW (cc := cX1_areOf) (maxL := 4) (ret := (some .boolean)) (by decide) rfl ?_
  intro p e s m args below meth c s₁ B hml hv
  obtain ⟨rfl, rfl, I⟩ := j_start hv
  have C0 : MC p s m _ meth c cX1_areOf 4 (some .boolean) RX1 wsX1_areOf := ⟨B.exec, B.bytes, B.returns, hml, findClass_of_methodNamed B.named, atoms_spec (ws := wsX1_areOf) B.pre, B.notSynchronized⟩
  obtain ⟨hx, hb, hr, hml, hown, hts, hlk⟩ := id C0
  have hl := lv_entry ([.ref (g 1), .int p0, .int p1]) (n := 4) (Nat.le_of_ble_eq_true rfl)
  rw [lg_entry_eq]
  generalize (lg_sl ([.ref (g 1), .int p0, .int p1]) ++ List.replicate (4 - (lg_sl ([.ref (g 1), .int p0, .int p1])).length) Slot.unset).toArray = ls at hl ⊢
  have hl : lv_has ls 4 [(0, .ref (g 1)), (1, .int p0), (2, .int p1)] := hl
  rw [fX1_areOf] at hf
  refine lv_aload_n hx hb dX1_areOf_0 rfl (lv_at hl 0 rfl) ?_
  refine j_get I hx hb hts iw_X1_areOf_X1 hown 1 (by decide) (kc1 g Y _) rfl 0 (by decide) (hts (.fieldLink RX1 9 "ReelNight$Houses" "kinds" "[I") (by decide +kernel)) rfl dX1_areOf_1 ?_
  refine lv_iload_n hx hb dX1_areOf_4 rfl (lv_at hl 1 rfl) ?_
  obtain ⟨b1, hf⟩ := o_nb hf
  refine j_ald I hx hb 12 (by decide) (kc12 g Y _) b1 dX1_areOf_5 ?_
  obtain ⟨v2, ev2, hf⟩ := o_itp hf
  refine top_eq ev2 ?_
  refine lv_istore_n (lv' := [(3, .int v2), (0, .ref (g 1)), (1, .int p0), (2, .int p1)]) hx hb dX1_areOf_6 rfl hl (by decide) rfl (fun ls hl => ?_)
  refine lv_iload_n hx hb dX1_areOf_7 rfl (lv_at hl 3 rfl) ?_
  refine lv_if_eq (tgt := 26) hx hb dX1_areOf_8 (by decide) (fun c3 => ?_) (fun c3 => ?_)
  · have hf := i_t c3 hf
    refine lv_iconst (v := 1) hx hb dX1_areOf_26 (by decide) ?_
    refine lv_goto (tgt := 31) hx hb dX1_areOf_27 (by decide) ?_
    exact j_iret I hx hb hr rfl hlk hf dX1_areOf_31
  · have hf := i_f c3 hf
    refine lv_iload_n hx hb dX1_areOf_11 rfl (lv_at hl 0 rfl) ?_
    refine lv_iload_n hx hb dX1_areOf_12 rfl (lv_at hl 3 rfl) ?_
    refine lv_icmp_eq (tgt := 26) hx hb dX1_areOf_13 (by decide) (fun c4 => ?_) (fun c4 => ?_)
    · have hf := i_t c4 hf
      refine lv_iconst (v := 1) hx hb dX1_areOf_26 (by decide) ?_
      refine lv_goto (tgt := 31) hx hb dX1_areOf_27 (by decide) ?_
      exact j_iret I hx hb hr rfl hlk hf dX1_areOf_31
    · have hf := i_f c4 hf
      refine lv_iload_n hx hb dX1_areOf_16 rfl (lv_at hl 3 rfl) ?_
      refine lv_iconst (v := 1) hx hb dX1_areOf_17 (by decide) ?_
      refine lv_icmp_ne (tgt := 30) hx hb dX1_areOf_18 (by decide) (fun c5 => ?_) (fun c5 => ?_)
      · have hf := i_f c5 hf
        refine lv_iconst (v := 0) hx hb dX1_areOf_30 (by decide) ?_
        exact j_iret I hx hb hr rfl hlk hf dX1_areOf_31
      · have hf := i_t c5 hf
        refine lv_iload_n hx hb dX1_areOf_21 rfl (lv_at hl 0 rfl) ?_
        refine lv_iconst (v := 3) hx hb dX1_areOf_22 (by decide) ?_
        refine lv_icmp_ne (tgt := 30) hx hb dX1_areOf_23 (by decide) (fun c6 => ?_) (fun c6 => ?_)
        · have hf := i_f c6 hf
          refine lv_iconst (v := 0) hx hb dX1_areOf_30 (by decide) ?_
          exact j_iret I hx hb hr rfl hlk hf dX1_areOf_31
        · have hf := i_t c6 hf
          refine lv_iconst (v := 1) hx hb dX1_areOf_26 (by decide) ?_
          refine lv_goto (tgt := 31) hx hb dX1_areOf_27 (by decide) ?_
          exact j_iret I hx hb hr rfl hlk hf dX1_areOf_31

set_option maxHeartbeats 4000000 in
set_option maxRecDepth 100000 in
theorem ct_X2_cell {l : Launch} {D : va_G} {g : Nat → Nat} {Y : YT} {bP : Nat} (σ : St) (p0 : Int32) (p1 : Int32) (res : St × Int32) (hf : fX2_cell σ p0 p1 = some res) : Ci l yX2_cell wsX2_cell ⟨0, 0, 0, 0⟩ D 44 g (KC g Y) Y bP [.int p0, .int p1] σ res := by
  intro sz
  refine Met.ofW (cc := cX2_cell) (maxL := 2) (ret := (some .int)) (by decide) rfl ?_
  intro p e s m args below meth c s₁ B hml hv
  obtain ⟨rfl, rfl, I⟩ := j_start hv
  have C0 : MC p s m _ meth c cX2_cell 2 (some .int) RX2 wsX2_cell := ⟨B.exec, B.bytes, B.returns, hml, findClass_of_methodNamed B.named, atoms_spec (ws := wsX2_cell) B.pre, B.notSynchronized⟩
  obtain ⟨hx, hb, hr, hml, hown, hts, hlk⟩ := id C0
  have hl := lv_entry ([.int p0, .int p1]) (n := 2) (Nat.le_of_ble_eq_true rfl)
  rw [lg_entry_eq]
  generalize (lg_sl ([.int p0, .int p1]) ++ List.replicate (2 - (lg_sl ([.int p0, .int p1])).length) Slot.unset).toArray = ls at hl ⊢
  have hl : lv_has ls 2 [(0, .int p0), (1, .int p1)] := hl
  rw [fX2_cell] at hf
  refine lv_iload_n hx hb dX2_cell_0 rfl (lv_at hl 0 rfl) ?_
  refine lv_bipush (v := 8) hx hb dX2_cell_1 (by decide) ?_
  refine lv_imul hx hb dX2_cell_3 ?_
  refine lv_iload_n hx hb dX2_cell_4 rfl (lv_at hl 1 rfl) ?_
  refine lv_iadd hx hb dX2_cell_5 ?_
  exact j_iret I hx hb hr rfl hlk hf dX2_cell_6

theorem iw_X2_has_X2 : ∀ w ∈ u_ws RX2 TX2 11, w ∈ wsX2_has := fun _ h => List.mem_cons_of_mem _ (List.mem_append_right _ h)
set_option maxHeartbeats 4000000 in
set_option maxRecDepth 100000 in
theorem ct_X2_has {l : Launch} {D : va_G} {g : Nat → Nat} {Y : YT} {bP : Nat} (σ : St) (p0 : Int32) (res : St × Int32) (hf : fX2_has σ p0 = some res) : Ci l yX2_has wsX2_has ⟨0, 0, 0, 0⟩ D 44 g (KC g Y) Y bP [.ref (g 3), .int p0] σ res := by
  intro sz
  refine Met.ofW (cc := cX2_has) (maxL := 2) (ret := (some .boolean)) (by decide) rfl ?_
  intro p e s m args below meth c s₁ B hml hv
  obtain ⟨rfl, rfl, I⟩ := j_start hv
  have C0 : MC p s m _ meth c cX2_has 2 (some .boolean) RX2 wsX2_has := ⟨B.exec, B.bytes, B.returns, hml, findClass_of_methodNamed B.named, atoms_spec (ws := wsX2_has) B.pre, B.notSynchronized⟩
  obtain ⟨hx, hb, hr, hml, hown, hts, hlk⟩ := id C0
  have hl := lv_entry ([.ref (g 3), .int p0]) (n := 2) (Nat.le_of_ble_eq_true rfl)
  rw [lg_entry_eq]
  generalize (lg_sl ([.ref (g 3), .int p0]) ++ List.replicate (2 - (lg_sl ([.ref (g 3), .int p0])).length) Slot.unset).toArray = ls at hl ⊢
  have hl : lv_has ls 2 [(0, .ref (g 3)), (1, .int p0)] := hl
  rw [fX2_has] at hf
  refine lv_iload_n hx hb dX2_has_0 rfl (lv_at hl 1 rfl) ?_
  refine lv_if_lt (tgt := 16) hx hb dX2_has_1 (by decide) (fun c1 => ?_) (fun c1 => ?_)
  · have hf := i_t c1 hf
    refine lv_iconst (v := 0) hx hb dX2_has_16 (by decide) ?_
    exact j_iret I hx hb hr rfl hlk hf dX2_has_17
  · have hf := i_f c1 hf
    refine lv_iload_n hx hb dX2_has_4 rfl (lv_at hl 1 rfl) ?_
    refine lv_aload_n hx hb dX2_has_5 rfl (lv_at hl 0 rfl) ?_
    refine j_get I hx hb hts iw_X2_has_X2 hown 3 (by decide) (kc3 g Y _) rfl 5 (by decide) (hts (.fieldLink RX2 18 "ReelNight$Night" "many" "I") (by decide +kernel)) rfl dX2_has_6 ?_
    refine lv_icmp_ge (tgt := 16) hx hb dX2_has_9 (by decide) (fun c2 => ?_) (fun c2 => ?_)
    · have hf := i_t c2 hf
      refine lv_iconst (v := 0) hx hb dX2_has_16 (by decide) ?_
      exact j_iret I hx hb hr rfl hlk hf dX2_has_17
    · have hf := i_f c2 hf
      refine lv_iconst (v := 1) hx hb dX2_has_12 (by decide) ?_
      refine lv_goto (tgt := 17) hx hb dX2_has_13 (by decide) ?_
      exact j_iret I hx hb hr rfl hlk hf dX2_has_17

theorem iw_X2_manyRides_X2 : ∀ w ∈ u_ws RX2 TX2 11, w ∈ wsX2_manyRides := fun _ h => List.mem_cons_of_mem _ (List.mem_append_left _ (List.mem_append_right _ h))
theorem iw_X2_manyRides_X5 : ∀ w ∈ u_ws RX5 TX5 3, w ∈ wsX2_manyRides := fun _ h => List.mem_cons_of_mem _ (List.mem_append_right _ h)
set_option maxHeartbeats 4000000 in
set_option maxRecDepth 100000 in
theorem ct_X2_manyRides {l : Launch} {D : va_G} {g : Nat → Nat} {Y : YT} {bP : Nat} (σ : St) (res : St × Int32) (hf : fX2_manyRides σ = some res) : Ci l yX2_manyRides wsX2_manyRides ⟨0, 0, 0, 0⟩ D 44 g (KC g Y) Y bP [.ref (g 3)] σ res := by
  intro sz
  refine Met.ofW (cc := cX2_manyRides) (maxL := 1) (ret := (some .int)) (by decide) rfl ?_
  intro p e s m args below meth c s₁ B hml hv
  obtain ⟨rfl, rfl, I⟩ := j_start hv
  have C0 : MC p s m _ meth c cX2_manyRides 1 (some .int) RX2 wsX2_manyRides := ⟨B.exec, B.bytes, B.returns, hml, findClass_of_methodNamed B.named, atoms_spec (ws := wsX2_manyRides) B.pre, B.notSynchronized⟩
  obtain ⟨hx, hb, hr, hml, hown, hts, hlk⟩ := id C0
  have hl := lv_entry ([.ref (g 3)]) (n := 1) (Nat.le_of_ble_eq_true rfl)
  rw [lg_entry_eq]
  generalize (lg_sl ([.ref (g 3)]) ++ List.replicate (1 - (lg_sl ([.ref (g 3)])).length) Slot.unset).toArray = ls at hl ⊢
  have hl : lv_has ls 1 [(0, .ref (g 3))] := hl
  rw [fX2_manyRides] at hf
  refine lv_aload_n hx hb dX2_manyRides_0 rfl (lv_at hl 0 rfl) ?_
  refine j_get I hx hb hts iw_X2_manyRides_X2 hown 3 (by decide) (kc3 g Y _) rfl 5 (by decide) (hts (.fieldLink RX2 18 "ReelNight$Night" "many" "I") (by decide +kernel)) rfl dX2_manyRides_1 ?_
  refine lv_if_ne (tgt := 11) hx hb dX2_manyRides_4 (by decide) (fun c1 => ?_) (fun c1 => ?_)
  · have hf := i_f c1 hf
    refine lv_aload_n hx hb dX2_manyRides_11 rfl (lv_at hl 0 rfl) ?_
    refine j_get I hx hb hts iw_X2_manyRides_X2 hown 3 (by decide) (kc3 g Y _) rfl 5 (by decide) (hts (.fieldLink RX2 18 "ReelNight$Night" "many" "I") (by decide +kernel)) rfl dX2_manyRides_12 ?_
    refine lv_iconst (v := 1) hx hb dX2_manyRides_15 (by decide) ?_
    refine lv_isub hx hb dX2_manyRides_16 ?_
    refine lv_aload_n hx hb dX2_manyRides_17 rfl (lv_at hl 0 rfl) ?_
    refine j_get I hx hb hts iw_X2_manyRides_X2 hown 3 (by decide) (kc3 g Y _) rfl 1 (by decide) (hts (.fieldLink RX2 41 "ReelNight$Night" "reels" "LReelNight$Reels;") (by decide +kernel)) rfl dX2_manyRides_18 ?_
    refine j_getN I hx hb hts iw_X2_manyRides_X5 hown 2 (by decide) (kc2 g Y _) rfl 2 (by decide) (by decide +kernel) rfl dX2_manyRides_21 ?_
    refine lv_imul hx hb dX2_manyRides_24 ?_
    exact j_iret I hx hb hr rfl hlk hf dX2_manyRides_25
  · have hf := i_t c1 hf
    refine lv_iconst (v := 0) hx hb dX2_manyRides_7 (by decide) ?_
    refine lv_goto (tgt := 25) hx hb dX2_manyRides_8 (by decide) ?_
    exact j_iret I hx hb hr rfl hlk hf dX2_manyRides_25

set_option maxHeartbeats 4000000 in
set_option maxRecDepth 100000 in
theorem ct_X2_hasRide {l : Launch} {D : va_G} {g : Nat → Nat} {Y : YT} {bP : Nat} (σ : St) (p0 : Int32) (res : St × Int32) (hf : fX2_hasRide σ p0 = some res) : Ci l yX2_hasRide wsX2_hasRide ⟨1, 0, 0, 20⟩ D 44 g (KC g Y) Y bP [.ref (g 3), .int p0] σ res := by
  intro sz
  refine Met.ofW (cc := cX2_hasRide) (maxL := 2) (ret := (some .boolean)) (by decide) rfl ?_
  intro p e s m args below meth c s₁ B hml hv
  obtain ⟨rfl, rfl, I⟩ := j_start hv
  have C0 : MC p s m _ meth c cX2_hasRide 2 (some .boolean) RX2 wsX2_hasRide := ⟨B.exec, B.bytes, B.returns, hml, findClass_of_methodNamed B.named, atoms_spec (ws := wsX2_hasRide) B.pre, B.notSynchronized⟩
  obtain ⟨hx, hb, hr, hml, hown, hts, hlk⟩ := id C0
  have hl := lv_entry ([.ref (g 3), .int p0]) (n := 2) (Nat.le_of_ble_eq_true rfl)
  rw [lg_entry_eq]
  generalize (lg_sl ([.ref (g 3), .int p0]) ++ List.replicate (2 - (lg_sl ([.ref (g 3), .int p0])).length) Slot.unset).toArray = ls at hl ⊢
  have hl : lv_has ls 2 [(0, .ref (g 3)), (1, .int p0)] := hl
  rw [fX2_hasRide] at hf
  refine lv_iload_n hx hb dX2_hasRide_0 rfl (lv_at hl 1 rfl) ?_
  refine lv_if_lt (tgt := 16) hx hb dX2_hasRide_1 (by decide) (fun c1 => ?_) (fun c1 => ?_)
  · have hf := i_t c1 hf
    refine lv_iconst (v := 0) hx hb dX2_hasRide_16 (by decide) ?_
    exact j_iret I hx hb hr rfl hlk hf dX2_hasRide_17
  · have hf := i_f c1 hf
    refine lv_iload_n hx hb dX2_hasRide_4 rfl (lv_at hl 1 rfl) ?_
    refine lv_aload_n hx hb dX2_hasRide_5 rfl (lv_at hl 0 rfl) ?_
    obtain ⟨σ2, r3, h4, hf⟩ := o_obn hf
    refine j_iV (rest := [.int p0]) I ⟨hx, hb, hml, hown, hts⟩ (ct_X2_manyRides σ _ h4) (cwV 0 hts gX2_hasRide_X2_manyRides rfl rfl rfl (by decide +kernel) ⟨Nat.le_of_ble_eq_true rfl, Nat.le_of_ble_eq_true rfl⟩) (by decide) (kc3 g Y _) rfl rfl hl.1 rfl (Nat.le_of_ble_eq_true rfl) dX2_hasRide_6 ⟨Nat.zero_le _, Nat.zero_le _⟩ (fun H locs I => ?_)
    refine lv_icmp_ge (tgt := 16) hx hb dX2_hasRide_9 (by decide) (fun c5 => ?_) (fun c5 => ?_)
    · have hf := i_t c5 hf
      refine lv_iconst (v := 0) hx hb dX2_hasRide_16 (by decide) ?_
      exact j_iret I hx hb hr rfl hlk hf dX2_hasRide_17
    · have hf := i_f c5 hf
      refine lv_iconst (v := 1) hx hb dX2_hasRide_12 (by decide) ?_
      refine lv_goto (tgt := 17) hx hb dX2_hasRide_13 (by decide) ?_
      exact j_iret I hx hb hr rfl hlk hf dX2_hasRide_17

theorem iw_X2_forget_X2 : ∀ w ∈ u_ws RX2 TX2 11, w ∈ wsX2_forget := fun _ h => List.mem_cons_of_mem _ (List.mem_append_right _ h)
set_option maxHeartbeats 4000000 in
set_option maxRecDepth 100000 in
theorem ct_X2_forget {l : Launch} {D : va_G} {g : Nat → Nat} {Y : YT} {bP : Nat} (σ : St) (res : St × Int32) (hf : fX2_forget σ = some res) : Cv l yX2_forget wsX2_forget ⟨0, 0, 0, 0⟩ D 44 g (KC g Y) Y bP [.ref (g 3)] σ res := by
  intro sz
  refine Met.ofW (cc := cX2_forget) (maxL := 1) (ret := none) (by decide) rfl ?_
  intro p e s m args below meth c s₁ B hml hv
  obtain ⟨rfl, rfl, I⟩ := j_start hv
  have C0 : MC p s m _ meth c cX2_forget 1 none RX2 wsX2_forget := ⟨B.exec, B.bytes, B.returns, hml, findClass_of_methodNamed B.named, atoms_spec (ws := wsX2_forget) B.pre, B.notSynchronized⟩
  obtain ⟨hx, hb, hr, hml, hown, hts, hlk⟩ := id C0
  have hl := lv_entry ([.ref (g 3)]) (n := 1) (Nat.le_of_ble_eq_true rfl)
  rw [lg_entry_eq]
  generalize (lg_sl ([.ref (g 3)]) ++ List.replicate (1 - (lg_sl ([.ref (g 3)])).length) Slot.unset).toArray = ls at hl ⊢
  have hl : lv_has ls 1 [(0, .ref (g 3))] := hl
  rw [fX2_forget] at hf
  refine lv_aload_n hx hb dX2_forget_0 rfl (lv_at hl 0 rfl) ?_
  refine lv_iconst (v := 0) hx hb dX2_forget_1 (by decide) ?_
  obtain ⟨σ1, eσ1, hf⟩ := o_stp hf
  refine j_put I hx hb hts iw_X2_forget_X2 tyX2 tyX2_ok nmX2 hown 3 (by decide) (kc3 g Y _) rfl 5 (by decide) (hts (.fieldLink RX2 18 "ReelNight$Night" "many" "I") (by decide +kernel)) rfl rfl rfl (Nat.le_of_ble_eq_true rfl) (kcs3_5 g Y _ _) eσ1 dX2_forget_2 (fun H locs I => ?_)
  exact j_vret I hx hb hr hlk hf dX2_forget_5

theorem iw_X2_canBeOrder_X2 : ∀ w ∈ u_ws RX2 TX2 11, w ∈ wsX2_canBeOrder := fun _ h => List.mem_cons_of_mem _ (List.mem_append_left _ (List.mem_append_right _ h))
set_option maxHeartbeats 4000000 in
set_option maxRecDepth 100000 in
theorem bX2_canBeOrder_L13 {p : Program} {l : Launch} {e : Env} {s : State} {m : MethodId} {args : Array Value} {below : List Frame} {meth : Method} {c : Code} {D : va_G} {g : Nat → Nat} {Y : YT} {bP : Nat} {σ0 : St} {res : St × Int32} (C0 : MC p s m args meth c cX2_canBeOrder 6 (some .boolean) RX2 wsX2_canBeOrder) {K74 : St → Int32 → Option (St × Int32)} (hK74 : ∀ (σ : St) (a3 : Int32) (H : Heap) (locs : List Loc) (ls : Array Slot), K74 σ a3 = some res → JW D 44 g (KC g Y) Y bP (va_A (wd 44 g (KC g Y) σ0) s.heap.size) s σ H locs → lv_has ls 6 [(3, .int a3)] → W p l e (⟨1, 0, 0, 21⟩ : Room) s m args below meth c H locs 0 0 (MQ below (Qi D 44 g (KC g Y) Y σ0 res s.heap.size) args s 0 0 (va_A (wd 44 g (KC g Y) σ0) s.heap.size)) (F0 m 74 ls [])) : ∀ (n : Nat) (σ : St) (a2 : Int32) (a3 : Int32) (a4 : Int32) (H : Heap) (locs : List Loc) (ls : Array Slot), fX2_canBeOrder_L13 K74 n σ a2 a3 a4 = some res → JW D 44 g (KC g Y) Y bP (va_A (wd 44 g (KC g Y) σ0) s.heap.size) s σ H locs → lv_has ls 6 [(0, .ref (g 3)), (2, .int a2), (3, .int a3), (4, .int a4)] → W p l e (⟨1, 0, 0, 21⟩ : Room) s m args below meth c H locs 0 0 (MQ below (Qi D 44 g (KC g Y) Y σ0 res s.heap.size) args s 0 0 (va_A (wd 44 g (KC g Y) σ0) s.heap.size)) (F0 m 13 ls []) := by
  have C0 := C0
  obtain ⟨hx, hb, hr, hml, hown, hts, hlk⟩ := id C0
  intro n
  induction n with
  | zero =>
    intro σ a2 a3 a4 H locs ls hf
    cases hf
  | succ n ih =>
    intro σ a2 a3 a4 H locs ls hf I hl
    rw [fX2_canBeOrder_L13] at hf
    refine lv_iload hx hb dX2_canBeOrder_13 (lv_at hl 3 rfl) ?_
    refine lv_bipush (v := 6) hx hb dX2_canBeOrder_15 (by decide) ?_
    refine lv_icmp_ge (tgt := 74) hx hb dX2_canBeOrder_17 (by decide) (fun c2 => ?_) (fun c2 => ?_)
    · have hf := i_t c2 hf
      exact hK74 σ a3 _ _ _ hf I (lv_sub hl [2] rfl)
    · have hf := i_f c2 hf
      refine lv_iload_n hx hb dX2_canBeOrder_20 rfl (lv_at hl 2 rfl) ?_
      refine lv_if_le (tgt := 74) hx hb dX2_canBeOrder_21 (by decide) (fun c3 => ?_) (fun c3 => ?_)
      · have hf := i_t c3 hf
        exact hK74 σ a3 _ _ _ hf I (lv_sub hl [2] rfl)
      · have hf := i_f c3 hf
        refine lv_iload_n hx hb dX2_canBeOrder_24 rfl (lv_at hl 2 rfl) ?_
        refine lv_bipush (v := 7) hx hb dX2_canBeOrder_25 (by decide) ?_
        refine lv_irem hx hb dX2_canBeOrder_27 (by decide) ?_
        refine lv_iconst (v := 1) hx hb dX2_canBeOrder_28 (by decide) ?_
        refine lv_isub hx hb dX2_canBeOrder_29 ?_
        obtain ⟨v4, ev4, hf⟩ := o_itp hf
        refine top_eq ev4 ?_
        refine lv_istore (lv' := [(5, .int v4), (0, .ref (g 3)), (2, .int a2), (3, .int a3), (4, .int a4)]) hx hb dX2_canBeOrder_30 hl (by decide) rfl (fun ls hl => ?_)
        refine lv_aload_n hx hb dX2_canBeOrder_32 rfl (lv_at hl 1 rfl) ?_
        refine j_get I hx hb hts iw_X2_canBeOrder_X2 hown 3 (by decide) (kc3 g Y _) rfl 0 (by decide) (hts (.fieldLink RX2 37 "ReelNight$Night" "houses" "LReelNight$Houses;") (by decide +kernel)) rfl dX2_canBeOrder_33 ?_
        refine lv_iload hx hb dX2_canBeOrder_36 (lv_at hl 0 rfl) ?_
        obtain ⟨σ5, r6, h7, hf⟩ := o_obn hf
        refine j_iV (rest := []) I ⟨hx, hb, hml, hown, hts⟩ (ct_X1_has σ v4 _ h7) (cwV 1 hts gX2_canBeOrder_X1_has rfl rfl rfl (by decide +kernel) ⟨Nat.le_of_ble_eq_true rfl, Nat.le_of_ble_eq_true rfl⟩) (by decide) (kc1 g Y _) rfl rfl hl.1 rfl (Nat.le_of_ble_eq_true rfl) dX2_canBeOrder_38 ⟨Nat.zero_le _, Nat.zero_le _⟩ (fun H locs I => ?_)
        refine lv_if_eq (tgt := 54) hx hb dX2_canBeOrder_41 (by decide) (fun c8 => ?_) (fun c8 => ?_)
        · have hf := i_t c8 hf
          refine lv_iconst (v := 0) hx hb dX2_canBeOrder_54 (by decide) ?_
          exact j_iret I hx hb hr rfl hlk hf dX2_canBeOrder_55
        · have hf := i_f c8 hf
          refine lv_iload_n hx hb dX2_canBeOrder_44 rfl (lv_at hl 2 rfl) ?_
          refine lv_iload hx hb dX2_canBeOrder_45 (lv_at hl 0 rfl) ?_
          refine lv_ishr hx hb dX2_canBeOrder_47 ?_
          refine lv_iconst (v := 1) hx hb dX2_canBeOrder_48 (by decide) ?_
          refine lv_iand hx hb dX2_canBeOrder_49 ?_
          refine lv_iconst (v := 1) hx hb dX2_canBeOrder_50 (by decide) ?_
          refine lv_icmp_ne (tgt := 56) hx hb dX2_canBeOrder_51 (by decide) (fun c9 => ?_) (fun c9 => ?_)
          · have hf := i_f c9 hf
            refine lv_iload_n hx hb dX2_canBeOrder_56 rfl (lv_at hl 2 rfl) ?_
            refine lv_iconst (v := 1) hx hb dX2_canBeOrder_57 (by decide) ?_
            refine lv_iload hx hb dX2_canBeOrder_58 (lv_at hl 0 rfl) ?_
            refine lv_ishl hx hb dX2_canBeOrder_60 ?_
            refine lv_ior hx hb dX2_canBeOrder_61 ?_
            obtain ⟨v10, ev10, hf⟩ := o_itp hf
            refine top_eq ev10 ?_
            refine lv_istore_n (lv' := [(2, .int v10), (5, .int v4), (0, .ref (g 3)), (3, .int a3), (4, .int a4)]) hx hb dX2_canBeOrder_62 rfl hl (by decide) rfl (fun ls hl => ?_)
            refine lv_iload_n hx hb dX2_canBeOrder_63 rfl (lv_at hl 3 rfl) ?_
            refine lv_bipush (v := 7) hx hb dX2_canBeOrder_64 (by decide) ?_
            refine lv_idiv hx hb dX2_canBeOrder_66 (by decide) ?_
            obtain ⟨v11, ev11, hf⟩ := o_itp hf
            refine top_eq ev11 ?_
            refine lv_istore_n (lv' := [(3, .int v11), (2, .int v10), (5, .int v4), (0, .ref (g 3)), (4, .int a4)]) hx hb dX2_canBeOrder_67 rfl hl (by decide) rfl (fun ls hl => ?_)
            refine lv_iinc (v := (a4 + 1)) (lv' := [(4, .int (a4 + 1)), (3, .int v11), (2, .int v10), (5, .int v4), (0, .ref (g 3))]) hx hb dX2_canBeOrder_68 hl (k := 4) rfl rfl (by decide) rfl (fun ls hl => ?_)
            refine lv_goto (tgt := 13) hx hb dX2_canBeOrder_71 (by decide) ?_
            exact ih σ5 v10 v11 (a4 + 1) _ _ _ hf I (lv_sub hl [4, 2, 1, 0] rfl)
          · have hf := i_t c9 hf
            refine lv_iconst (v := 0) hx hb dX2_canBeOrder_54 (by decide) ?_
            exact j_iret I hx hb hr rfl hlk hf dX2_canBeOrder_55
set_option maxHeartbeats 4000000 in
set_option maxRecDepth 100000 in
theorem ct_X2_canBeOrder {l : Launch} {D : va_G} {g : Nat → Nat} {Y : YT} {bP : Nat} (σ : St) (p0 : Int32) (res : St × Int32) (hf : fX2_canBeOrder σ p0 = some res) : Ci l yX2_canBeOrder wsX2_canBeOrder ⟨1, 0, 0, 21⟩ D 44 g (KC g Y) Y bP [.ref (g 3), .int p0] σ res := by
  intro sz
  refine Met.ofW (cc := cX2_canBeOrder) (maxL := 6) (ret := (some .boolean)) (by decide) rfl ?_
  intro p e s m args below meth c s₁ B hml hv
  obtain ⟨rfl, rfl, I⟩ := j_start hv
  have C0 : MC p s m _ meth c cX2_canBeOrder 6 (some .boolean) RX2 wsX2_canBeOrder := ⟨B.exec, B.bytes, B.returns, hml, findClass_of_methodNamed B.named, atoms_spec (ws := wsX2_canBeOrder) B.pre, B.notSynchronized⟩
  obtain ⟨hx, hb, hr, hml, hown, hts, hlk⟩ := id C0
  have hl := lv_entry ([.ref (g 3), .int p0]) (n := 6) (Nat.le_of_ble_eq_true rfl)
  rw [lg_entry_eq]
  generalize (lg_sl ([.ref (g 3), .int p0]) ++ List.replicate (6 - (lg_sl ([.ref (g 3), .int p0])).length) Slot.unset).toArray = ls at hl ⊢
  have hl : lv_has ls 6 [(0, .ref (g 3)), (1, .int p0)] := hl
  rw [fX2_canBeOrder] at hf
  refine lv_iload_n hx hb dX2_canBeOrder_0 rfl (lv_at hl 1 rfl) ?_
  refine lv_if_ge (tgt := 6) hx hb dX2_canBeOrder_1 (by decide) (fun c1 => ?_) (fun c1 => ?_)
  · have hf := i_t c1 hf
    refine lv_iconst (v := 0) hx hb dX2_canBeOrder_6 (by decide) ?_
    refine lv_istore_n (lv' := [(2, .int 0), (0, .ref (g 3)), (1, .int p0)]) hx hb dX2_canBeOrder_7 rfl hl (by decide) rfl (fun ls hl => ?_)
    refine lv_iload_n hx hb dX2_canBeOrder_8 rfl (lv_at hl 2 rfl) ?_
    refine lv_istore_n (lv' := [(3, .int p0), (2, .int 0), (0, .ref (g 3)), (1, .int p0)]) hx hb dX2_canBeOrder_9 rfl hl (by decide) rfl (fun ls hl => ?_)
    refine lv_iconst (v := 0) hx hb dX2_canBeOrder_10 (by decide) ?_
    refine lv_istore (lv' := [(4, .int 0), (3, .int p0), (2, .int 0), (0, .ref (g 3)), (1, .int p0)]) hx hb dX2_canBeOrder_11 hl (by decide) rfl (fun ls hl => ?_)
    refine bX2_canBeOrder_L13 C0 ?_ 50 σ 0 p0 0 _ _ _ hf I (lv_sub hl [3, 2, 1, 0] rfl)
    · intro σ12 a13 H locs ls hf I hl
      refine lv_iload_n hx hb dX2_canBeOrder_74 rfl (lv_at hl 0 rfl) ?_
      refine lv_if_ne (tgt := 82) hx hb dX2_canBeOrder_75 (by decide) (fun c14 => ?_) (fun c14 => ?_)
      · have hf := i_f c14 hf
        refine lv_iconst (v := 0) hx hb dX2_canBeOrder_82 (by decide) ?_
        exact j_iret I hx hb hr rfl hlk hf dX2_canBeOrder_83
      · have hf := i_t c14 hf
        refine lv_iconst (v := 1) hx hb dX2_canBeOrder_78 (by decide) ?_
        refine lv_goto (tgt := 83) hx hb dX2_canBeOrder_79 (by decide) ?_
        exact j_iret I hx hb hr rfl hlk hf dX2_canBeOrder_83
  · have hf := i_f c1 hf
    refine lv_iconst (v := 0) hx hb dX2_canBeOrder_4 (by decide) ?_
    exact j_iret I hx hb hr rfl hlk hf dX2_canBeOrder_5

theorem iw_X2_takeOrder_X2 : ∀ w ∈ u_ws RX2 TX2 11, w ∈ wsX2_takeOrder := by decide +kernel
set_option maxHeartbeats 4000000 in
set_option maxRecDepth 100000 in
theorem bX2_takeOrder_L7 {p : Program} {l : Launch} {e : Env} {s : State} {m : MethodId} {args : Array Value} {below : List Frame} {meth : Method} {c : Code} {D : va_G} {g : Nat → Nat} {Y : YT} {bP : Nat} {σ0 : St} {res : St × Int32} (C0 : MC p s m args meth c cX2_takeOrder 4 (some .int) RX2 wsX2_takeOrder) {K38 : St → Int32 → Option (St × Int32)} (hK38 : ∀ (σ : St) (a1 : Int32) (H : Heap) (locs : List Loc) (ls : Array Slot), K38 σ a1 = some res → JW D 44 g (KC g Y) Y bP (va_A (wd 44 g (KC g Y) σ0) s.heap.size) s σ H locs → lv_has ls 4 [(0, .ref (g 3)), (1, .int a1)] → W p l e (⟨1, 0, 0, 23⟩ : Room) s m args below meth c H locs 0 0 (MQ below (Qi D 44 g (KC g Y) Y σ0 res s.heap.size) args s 0 0 (va_A (wd 44 g (KC g Y) σ0) s.heap.size)) (F0 m 38 ls [])) : ∀ (n : Nat) (σ : St) (a1 : Int32) (a2 : Int32) (H : Heap) (locs : List Loc) (ls : Array Slot), fX2_takeOrder_L7 K38 n σ a1 a2 = some res → JW D 44 g (KC g Y) Y bP (va_A (wd 44 g (KC g Y) σ0) s.heap.size) s σ H locs → lv_has ls 4 [(0, .ref (g 3)), (1, .int a1), (2, .int a2)] → W p l e (⟨1, 0, 0, 23⟩ : Room) s m args below meth c H locs 0 0 (MQ below (Qi D 44 g (KC g Y) Y σ0 res s.heap.size) args s 0 0 (va_A (wd 44 g (KC g Y) σ0) s.heap.size)) (F0 m 7 ls []) := by
  have C0 := C0
  obtain ⟨hx, hb, hr, hml, hown, hts, hlk⟩ := id C0
  intro n
  induction n with
  | zero =>
    intro σ a1 a2 H locs ls hf
    cases hf
  | succ n ih =>
    intro σ a1 a2 H locs ls hf I hl
    rw [fX2_takeOrder_L7] at hf
    refine lv_iload_n hx hb dX2_takeOrder_7 rfl (lv_at hl 2 rfl) ?_
    refine lv_if_le (tgt := 38) hx hb dX2_takeOrder_8 (by decide) (fun c2 => ?_) (fun c2 => ?_)
    · have hf := i_t c2 hf
      exact hK38 σ a1 _ _ _ hf I (lv_sub hl [0, 1] rfl)
    · have hf := i_f c2 hf
      refine lv_aload_n hx hb dX2_takeOrder_11 rfl (lv_at hl 0 rfl) ?_
      refine j_get I hx hb hts iw_X2_takeOrder_X2 hown 3 (by decide) (kc3 g Y _) rfl 5 (by decide) (hts (.fieldLink RX2 18 "ReelNight$Night" "many" "I") (by decide +kernel)) rfl dX2_takeOrder_12 ?_
      refine lv_bipush (v := 6) hx hb dX2_takeOrder_15 (by decide) ?_
      refine lv_icmp_ge (tgt := 38) hx hb dX2_takeOrder_17 (by decide) (fun c3 => ?_) (fun c3 => ?_)
      · have hf := i_t c3 hf
        exact hK38 σ a1 _ _ _ hf I (lv_sub hl [0, 1] rfl)
      · have hf := i_f c3 hf
        refine lv_aload_n hx hb dX2_takeOrder_20 rfl (lv_at hl 0 rfl) ?_
        refine lv_dup hx hb dX2_takeOrder_21 rfl ?_
        refine j_get I hx hb hts iw_X2_takeOrder_X2 hown 3 (by decide) (kc3 g Y _) rfl 5 (by decide) (hts (.fieldLink RX2 18 "ReelNight$Night" "many" "I") (by decide +kernel)) rfl dX2_takeOrder_22 ?_
        refine lv_iconst (v := 1) hx hb dX2_takeOrder_25 (by decide) ?_
        refine lv_iadd hx hb dX2_takeOrder_26 ?_
        obtain ⟨σ4, eσ4, hf⟩ := o_stp hf
        refine j_put I hx hb hts iw_X2_takeOrder_X2 tyX2 tyX2_ok nmX2 hown 3 (by decide) (kc3 g Y _) rfl 5 (by decide) (hts (.fieldLink RX2 18 "ReelNight$Night" "many" "I") (by decide +kernel)) rfl rfl rfl (Nat.le_of_ble_eq_true rfl) (kcs3_5 g Y _ _) eσ4 dX2_takeOrder_27 (fun H locs I => ?_)
        refine lv_iload_n hx hb dX2_takeOrder_30 rfl (lv_at hl 2 rfl) ?_
        refine lv_bipush (v := 7) hx hb dX2_takeOrder_31 (by decide) ?_
        refine lv_idiv hx hb dX2_takeOrder_33 (by decide) ?_
        obtain ⟨v5, ev5, hf⟩ := o_itp hf
        refine top_eq ev5 ?_
        refine lv_istore_n (lv' := [(2, .int v5), (0, .ref (g 3)), (1, .int a1)]) hx hb dX2_takeOrder_34 rfl hl (by decide) rfl (fun ls hl => ?_)
        refine lv_goto (tgt := 7) hx hb dX2_takeOrder_35 (by decide) ?_
        exact ih σ4 a1 v5 _ _ _ hf I (lv_sub hl [1, 2, 0] rfl)
set_option maxHeartbeats 4000000 in
set_option maxRecDepth 100000 in
theorem bX2_takeOrder_L47 {p : Program} {l : Launch} {e : Env} {s : State} {m : MethodId} {args : Array Value} {below : List Frame} {meth : Method} {c : Code} {D : va_G} {g : Nat → Nat} {Y : YT} {bP : Nat} {σ0 : St} {res : St × Int32} (C0 : MC p s m args meth c cX2_takeOrder 4 (some .int) RX2 wsX2_takeOrder) {K74 : St → Option (St × Int32)} (hK74 : ∀ (σ : St) (H : Heap) (locs : List Loc) (ls : Array Slot), K74 σ = some res → JW D 44 g (KC g Y) Y bP (va_A (wd 44 g (KC g Y) σ0) s.heap.size) s σ H locs → lv_has ls 4 [(0, .ref (g 3))] → W p l e (⟨1, 0, 0, 23⟩ : Room) s m args below meth c H locs 0 0 (MQ below (Qi D 44 g (KC g Y) Y σ0 res s.heap.size) args s 0 0 (va_A (wd 44 g (KC g Y) σ0) s.heap.size)) (F0 m 74 ls [])) : ∀ (n : Nat) (σ : St) (a2 : Int32) (a3 : Int32) (H : Heap) (locs : List Loc) (ls : Array Slot), fX2_takeOrder_L47 K74 n σ a2 a3 = some res → JW D 44 g (KC g Y) Y bP (va_A (wd 44 g (KC g Y) σ0) s.heap.size) s σ H locs → lv_has ls 4 [(0, .ref (g 3)), (2, .int a2), (3, .int a3)] → W p l e (⟨1, 0, 0, 23⟩ : Room) s m args below meth c H locs 0 0 (MQ below (Qi D 44 g (KC g Y) Y σ0 res s.heap.size) args s 0 0 (va_A (wd 44 g (KC g Y) σ0) s.heap.size)) (F0 m 47 ls []) := by
  have C0 := C0
  obtain ⟨hx, hb, hr, hml, hown, hts, hlk⟩ := id C0
  intro n
  induction n with
  | zero =>
    intro σ a2 a3 H locs ls hf
    cases hf
  | succ n ih =>
    intro σ a2 a3 H locs ls hf I hl
    rw [fX2_takeOrder_L47] at hf
    refine lv_iload_n hx hb dX2_takeOrder_47 rfl (lv_at hl 2 rfl) ?_
    refine lv_if_lt (tgt := 74) hx hb dX2_takeOrder_48 (by decide) (fun c9 => ?_) (fun c9 => ?_)
    · have hf := i_t c9 hf
      exact hK74 σ _ _ _ hf I (lv_sub hl [0] rfl)
    · have hf := i_f c9 hf
      refine lv_aload_n hx hb dX2_takeOrder_51 rfl (lv_at hl 0 rfl) ?_
      refine j_get I hx hb hts iw_X2_takeOrder_X2 hown 3 (by decide) (kc3 g Y _) rfl 3 (by decide) (hts (.fieldLink RX2 9 "ReelNight$Night" "order" "[I") (by decide +kernel)) rfl dX2_takeOrder_52 ?_
      refine lv_iload_n hx hb dX2_takeOrder_55 rfl (lv_at hl 2 rfl) ?_
      refine lv_iload_n hx hb dX2_takeOrder_56 rfl (lv_at hl 1 rfl) ?_
      refine lv_bipush (v := 7) hx hb dX2_takeOrder_57 (by decide) ?_
      refine lv_irem hx hb dX2_takeOrder_59 (by decide) ?_
      refine lv_iconst (v := 1) hx hb dX2_takeOrder_60 (by decide) ?_
      refine lv_isub hx hb dX2_takeOrder_61 ?_
      obtain ⟨b10, hf⟩ := o_nb hf
      obtain ⟨σ11, eσ11, hf⟩ := o_stp hf
      refine j_ast I hx hb 19 (by decide) (kc19 g Y) b10 eσ11 dX2_takeOrder_62 (fun H locs I => ?_)
      refine lv_iload_n hx hb dX2_takeOrder_63 rfl (lv_at hl 1 rfl) ?_
      refine lv_bipush (v := 7) hx hb dX2_takeOrder_64 (by decide) ?_
      refine lv_idiv hx hb dX2_takeOrder_66 (by decide) ?_
      obtain ⟨v12, ev12, hf⟩ := o_itp hf
      refine top_eq ev12 ?_
      refine lv_istore_n (lv' := [(2, .int v12), (0, .ref (g 3)), (3, .int a3)]) hx hb dX2_takeOrder_67 rfl hl (by decide) rfl (fun ls hl => ?_)
      refine lv_iinc (v := (a3 + (-1))) (lv' := [(3, .int (a3 + (-1))), (2, .int v12), (0, .ref (g 3))]) hx hb dX2_takeOrder_68 hl (k := 2) rfl rfl (by decide) rfl (fun ls hl => ?_)
      refine lv_goto (tgt := 47) hx hb dX2_takeOrder_71 (by decide) ?_
      exact ih σ11 v12 (a3 + (-1)) _ _ _ hf I (lv_sub hl [2, 1, 0] rfl)
set_option maxHeartbeats 4000000 in
set_option maxRecDepth 100000 in
theorem ct_X2_takeOrder {l : Launch} {D : va_G} {g : Nat → Nat} {Y : YT} {bP : Nat} (σ : St) (p0 : Int32) (res : St × Int32) (hf : fX2_takeOrder σ p0 = some res) : Ci l yX2_takeOrder wsX2_takeOrder ⟨1, 0, 0, 23⟩ D 44 g (KC g Y) Y bP [.ref (g 3), .int p0] σ res := by
  intro sz
  refine Met.ofW (cc := cX2_takeOrder) (maxL := 4) (ret := (some .int)) (by decide) rfl ?_
  intro p e s m args below meth c s₁ B hml hv
  obtain ⟨rfl, rfl, I⟩ := j_start hv
  have C0 : MC p s m _ meth c cX2_takeOrder 4 (some .int) RX2 wsX2_takeOrder := ⟨B.exec, B.bytes, B.returns, hml, findClass_of_methodNamed B.named, atoms_spec (ws := wsX2_takeOrder) B.pre, B.notSynchronized⟩
  obtain ⟨hx, hb, hr, hml, hown, hts, hlk⟩ := id C0
  have hl := lv_entry ([.ref (g 3), .int p0]) (n := 4) (Nat.le_of_ble_eq_true rfl)
  rw [lg_entry_eq]
  generalize (lg_sl ([.ref (g 3), .int p0]) ++ List.replicate (4 - (lg_sl ([.ref (g 3), .int p0])).length) Slot.unset).toArray = ls at hl ⊢
  have hl : lv_has ls 4 [(0, .ref (g 3)), (1, .int p0)] := hl
  rw [fX2_takeOrder] at hf
  refine lv_aload_n hx hb dX2_takeOrder_0 rfl (lv_at hl 0 rfl) ?_
  refine lv_iconst (v := 0) hx hb dX2_takeOrder_1 (by decide) ?_
  obtain ⟨σ1, eσ1, hf⟩ := o_stp hf
  refine j_put I hx hb hts iw_X2_takeOrder_X2 tyX2 tyX2_ok nmX2 hown 3 (by decide) (kc3 g Y _) rfl 5 (by decide) (hts (.fieldLink RX2 18 "ReelNight$Night" "many" "I") (by decide +kernel)) rfl rfl rfl (Nat.le_of_ble_eq_true rfl) (kcs3_5 g Y _ _) eσ1 dX2_takeOrder_2 (fun H locs I => ?_)
  refine lv_iload_n hx hb dX2_takeOrder_5 rfl (lv_at hl 1 rfl) ?_
  refine lv_istore_n (lv' := [(2, .int p0), (0, .ref (g 3)), (1, .int p0)]) hx hb dX2_takeOrder_6 rfl hl (by decide) rfl (fun ls hl => ?_)
  refine bX2_takeOrder_L7 C0 ?_ 50 σ1 p0 p0 _ _ _ hf I (lv_sub hl [1, 2, 0] rfl)
  · intro σ6 a7 H locs ls hf I hl
    refine lv_iload_n hx hb dX2_takeOrder_38 rfl (lv_at hl 1 rfl) ?_
    refine lv_istore_n (lv' := [(2, .int a7), (0, .ref (g 3)), (1, .int a7)]) hx hb dX2_takeOrder_39 rfl hl (by decide) rfl (fun ls hl => ?_)
    refine lv_aload_n hx hb dX2_takeOrder_40 rfl (lv_at hl 1 rfl) ?_
    refine j_get I hx hb hts iw_X2_takeOrder_X2 hown 3 (by decide) (kc3 g Y _) rfl 5 (by decide) (hts (.fieldLink RX2 18 "ReelNight$Night" "many" "I") (by decide +kernel)) rfl dX2_takeOrder_41 ?_
    refine lv_iconst (v := 1) hx hb dX2_takeOrder_44 (by decide) ?_
    refine lv_isub hx hb dX2_takeOrder_45 ?_
    obtain ⟨v8, ev8, hf⟩ := o_itp hf
    refine top_eq ev8 ?_
    refine lv_istore_n (lv' := [(3, .int v8), (2, .int a7), (0, .ref (g 3)), (1, .int a7)]) hx hb dX2_takeOrder_46 rfl hl (by decide) rfl (fun ls hl => ?_)
    refine bX2_takeOrder_L47 C0 ?_ 50 σ6 a7 v8 _ _ _ hf I (lv_sub hl [2, 1, 0] rfl)
    · intro σ13 H locs ls hf I hl
      refine lv_aload_n hx hb dX2_takeOrder_74 rfl (lv_at hl 0 rfl) ?_
      refine j_get I hx hb hts iw_X2_takeOrder_X2 hown 3 (by decide) (kc3 g Y _) rfl 4 (by decide) (hts (.fieldLink RX2 15 "ReelNight$Night" "lates" "[I") (by decide +kernel)) rfl dX2_takeOrder_75 ?_
      refine lv_iconst (v := 0) hx hb dX2_takeOrder_78 (by decide) ?_
      obtain ⟨σ14, eσ14, hf⟩ := o_stp hf
      refine j_vS (rest := []) I ⟨hx, hb, hml, hown, hts⟩ (ct_J7_fill_53178 l 20 (by decide) (kc20 g Y) (by decide) 0 eσ14) (va_cwS 2 hts gX2_takeOrder_J7_fill_53178 rfl rfl rfl (by decide +kernel) ⟨Nat.le_of_ble_eq_true rfl, Nat.le_of_ble_eq_true rfl⟩) rfl hl.1 rfl (Nat.le_of_ble_eq_true rfl) dX2_takeOrder_79 ⟨Nat.zero_le _, Nat.zero_le _⟩ (fun H locs I => ?_)
      refine lv_aload_n hx hb dX2_takeOrder_82 rfl (lv_at hl 0 rfl) ?_
      refine j_get I hx hb hts iw_X2_takeOrder_X2 hown 3 (by decide) (kc3 g Y _) rfl 5 (by decide) (hts (.fieldLink RX2 18 "ReelNight$Night" "many" "I") (by decide +kernel)) rfl dX2_takeOrder_83 ?_
      exact j_iret I hx hb hr rfl hlk hf dX2_takeOrder_86

theorem iw_X2_wayTo_X1 : ∀ w ∈ u_ws RX1 TX1 6, w ∈ wsX2_wayTo := by decide +kernel
theorem iw_X2_wayTo_X2 : ∀ w ∈ u_ws RX2 TX2 11, w ∈ wsX2_wayTo := by decide +kernel
set_option maxHeartbeats 4000000 in
set_option maxRecDepth 100000 in
theorem ct_X2_wayTo {l : Launch} {D : va_G} {g : Nat → Nat} {Y : YT} {bP : Nat} (σ : St) (p0 : Int32) (res : St × Int32) (hf : fX2_wayTo σ p0 = some res) : Ci l yX2_wayTo wsX2_wayTo ⟨1, 0, 0, 22⟩ D 44 g (KC g Y) Y bP [.ref (g 3), .int p0] σ res := by
  intro sz
  refine Met.ofW (cc := cX2_wayTo) (maxL := 2) (ret := (some .int)) (by decide) rfl ?_
  intro p e s m args below meth c s₁ B hml hv
  obtain ⟨rfl, rfl, I⟩ := j_start hv
  have C0 : MC p s m _ meth c cX2_wayTo 2 (some .int) RX2 wsX2_wayTo := ⟨B.exec, B.bytes, B.returns, hml, findClass_of_methodNamed B.named, atoms_spec (ws := wsX2_wayTo) B.pre, B.notSynchronized⟩
  obtain ⟨hx, hb, hr, hml, hown, hts, hlk⟩ := id C0
  have hl := lv_entry ([.ref (g 3), .int p0]) (n := 2) (Nat.le_of_ble_eq_true rfl)
  rw [lg_entry_eq]
  generalize (lg_sl ([.ref (g 3), .int p0]) ++ List.replicate (2 - (lg_sl ([.ref (g 3), .int p0])).length) Slot.unset).toArray = ls at hl ⊢
  have hl : lv_has ls 2 [(0, .ref (g 3)), (1, .int p0)] := hl
  rw [fX2_wayTo] at hf
  refine lv_aload_n hx hb dX2_wayTo_0 rfl (lv_at hl 0 rfl) ?_
  refine j_get I hx hb hts iw_X2_wayTo_X2 hown 3 (by decide) (kc3 g Y _) rfl 0 (by decide) (hts (.fieldLink RX2 37 "ReelNight$Night" "houses" "LReelNight$Houses;") (by decide +kernel)) rfl dX2_wayTo_1 ?_
  refine j_getN I hx hb hts iw_X2_wayTo_X1 hown 1 (by decide) (kc1 g Y _) rfl 4 (by decide) (by decide +kernel) rfl dX2_wayTo_4 ?_
  refine lv_aload_n hx hb dX2_wayTo_7 rfl (lv_at hl 0 rfl) ?_
  refine j_get I hx hb hts iw_X2_wayTo_X2 hown 3 (by decide) (kc3 g Y _) rfl 3 (by decide) (hts (.fieldLink RX2 9 "ReelNight$Night" "order" "[I") (by decide +kernel)) rfl dX2_wayTo_8 ?_
  refine lv_iload_n hx hb dX2_wayTo_11 rfl (lv_at hl 1 rfl) ?_
  refine lv_iconst (v := 1) hx hb dX2_wayTo_12 (by decide) ?_
  refine lv_isub hx hb dX2_wayTo_13 ?_
  obtain ⟨b1, hf⟩ := o_nb hf
  refine j_ald I hx hb 19 (by decide) (kc19 g Y _) b1 dX2_wayTo_14 ?_
  refine lv_aload_n hx hb dX2_wayTo_15 rfl (lv_at hl 0 rfl) ?_
  refine j_get I hx hb hts iw_X2_wayTo_X2 hown 3 (by decide) (kc3 g Y _) rfl 3 (by decide) (hts (.fieldLink RX2 9 "ReelNight$Night" "order" "[I") (by decide +kernel)) rfl dX2_wayTo_16 ?_
  refine lv_iload_n hx hb dX2_wayTo_19 rfl (lv_at hl 1 rfl) ?_
  obtain ⟨b2, hf⟩ := o_nb hf
  refine j_ald I hx hb 19 (by decide) (kc19 g Y _) b2 dX2_wayTo_20 ?_
  obtain ⟨σ3, r4, h5, hf⟩ := o_obn hf
  refine j_iV (rest := []) I ⟨hx, hb, hml, hown, hts⟩ (ct_X3_between_10 σ (σ 19 (p0 - 1).toNatClampNeg) (σ 19 p0.toNatClampNeg) _ h5) (cwV 2 hts gX2_wayTo_X3_between rfl rfl rfl (by decide +kernel) ⟨Nat.le_of_ble_eq_true rfl, Nat.le_of_ble_eq_true rfl⟩) (by decide) (kc10 g Y _) rfl rfl hl.1 rfl (Nat.le_of_ble_eq_true rfl) dX2_wayTo_21 ⟨Nat.zero_le _, Nat.zero_le _⟩ (fun H locs I => ?_)
  exact j_iret I hx hb hr rfl hlk hf dX2_wayTo_24

theorem iw_X2_rideOf_X2 : ∀ w ∈ u_ws RX2 TX2 11, w ∈ wsX2_rideOf := fun _ h => List.mem_cons_of_mem _ (List.mem_append_left _ (List.mem_append_right _ h))
theorem iw_X2_rideOf_X5 : ∀ w ∈ u_ws RX5 TX5 3, w ∈ wsX2_rideOf := fun _ h => List.mem_cons_of_mem _ (List.mem_append_right _ h)
set_option maxHeartbeats 4000000 in
set_option maxRecDepth 100000 in
theorem ct_X2_rideOf {l : Launch} {D : va_G} {g : Nat → Nat} {Y : YT} {bP : Nat} (σ : St) (p0 : Int32) (p1 : Int32) (res : St × Int32) (hf : fX2_rideOf σ p0 p1 = some res) : Ci l yX2_rideOf wsX2_rideOf ⟨0, 0, 0, 0⟩ D 44 g (KC g Y) Y bP [.ref (g 3), .int p0, .int p1] σ res := by
  intro sz
  refine Met.ofW (cc := cX2_rideOf) (maxL := 3) (ret := (some .int)) (by decide) rfl ?_
  intro p e s m args below meth c s₁ B hml hv
  obtain ⟨rfl, rfl, I⟩ := j_start hv
  have C0 : MC p s m _ meth c cX2_rideOf 3 (some .int) RX2 wsX2_rideOf := ⟨B.exec, B.bytes, B.returns, hml, findClass_of_methodNamed B.named, atoms_spec (ws := wsX2_rideOf) B.pre, B.notSynchronized⟩
  obtain ⟨hx, hb, hr, hml, hown, hts, hlk⟩ := id C0
  have hl := lv_entry ([.ref (g 3), .int p0, .int p1]) (n := 3) (Nat.le_of_ble_eq_true rfl)
  rw [lg_entry_eq]
  generalize (lg_sl ([.ref (g 3), .int p0, .int p1]) ++ List.replicate (3 - (lg_sl ([.ref (g 3), .int p0, .int p1])).length) Slot.unset).toArray = ls at hl ⊢
  have hl : lv_has ls 3 [(0, .ref (g 3)), (1, .int p0), (2, .int p1)] := hl
  rw [fX2_rideOf] at hf
  refine lv_iload_n hx hb dX2_rideOf_0 rfl (lv_at hl 1 rfl) ?_
  refine lv_iconst (v := 1) hx hb dX2_rideOf_1 (by decide) ?_
  refine lv_isub hx hb dX2_rideOf_2 ?_
  refine lv_aload_n hx hb dX2_rideOf_3 rfl (lv_at hl 0 rfl) ?_
  refine j_get I hx hb hts iw_X2_rideOf_X2 hown 3 (by decide) (kc3 g Y _) rfl 1 (by decide) (hts (.fieldLink RX2 41 "ReelNight$Night" "reels" "LReelNight$Reels;") (by decide +kernel)) rfl dX2_rideOf_4 ?_
  refine j_getN I hx hb hts iw_X2_rideOf_X5 hown 2 (by decide) (kc2 g Y _) rfl 2 (by decide) (by decide +kernel) rfl dX2_rideOf_7 ?_
  refine lv_imul hx hb dX2_rideOf_10 ?_
  refine lv_iload_n hx hb dX2_rideOf_11 rfl (lv_at hl 2 rfl) ?_
  refine lv_iadd hx hb dX2_rideOf_12 ?_
  exact j_iret I hx hb hr rfl hlk hf dX2_rideOf_13

theorem iw_X5_minutes_X5 : ∀ w ∈ u_ws RX5 TX5 3, w ∈ wsX5_minutes := by decide +kernel
set_option maxHeartbeats 4000000 in
set_option maxRecDepth 100000 in
theorem ct_X5_minutes {l : Launch} {D : va_G} {g : Nat → Nat} {Y : YT} {bP : Nat} (σ : St) (p0 : Int32) (res : St × Int32) (hf : fX5_minutes σ p0 = some res) : Ci l yX5_minutes wsX5_minutes ⟨1, 0, 0, 13⟩ D 44 g (KC g Y) Y bP [.ref (g 2), .int p0] σ res := by
  intro sz
  refine Met.ofW (cc := cX5_minutes) (maxL := 2) (ret := (some .int)) (by decide) rfl ?_
  intro p e s m args below meth c s₁ B hml hv
  obtain ⟨rfl, rfl, I⟩ := j_start hv
  have C0 : MC p s m _ meth c cX5_minutes 2 (some .int) RX5 wsX5_minutes := ⟨B.exec, B.bytes, B.returns, hml, findClass_of_methodNamed B.named, atoms_spec (ws := wsX5_minutes) B.pre, B.notSynchronized⟩
  obtain ⟨hx, hb, hr, hml, hown, hts, hlk⟩ := id C0
  have hl := lv_entry ([.ref (g 2), .int p0]) (n := 2) (Nat.le_of_ble_eq_true rfl)
  rw [lg_entry_eq]
  generalize (lg_sl ([.ref (g 2), .int p0]) ++ List.replicate (2 - (lg_sl ([.ref (g 2), .int p0])).length) Slot.unset).toArray = ls at hl ⊢
  have hl : lv_has ls 2 [(0, .ref (g 2)), (1, .int p0)] := hl
  rw [fX5_minutes] at hf
  refine lv_iconst (v := 1) hx hb dX5_minutes_0 (by decide) ?_
  refine lv_aload_n hx hb dX5_minutes_1 rfl (lv_at hl 0 rfl) ?_
  refine j_get I hx hb hts iw_X5_minutes_X5 hown 2 (by decide) (kc2 g Y _) rfl 0 (by decide) (hts (.fieldLink RX5 9 "ReelNight$Reels" "frames" "[I") (by decide +kernel)) rfl dX5_minutes_2 ?_
  refine lv_iload_n hx hb dX5_minutes_5 rfl (lv_at hl 1 rfl) ?_
  obtain ⟨b1, hf⟩ := o_nb hf
  refine j_ald I hx hb 17 (by decide) (kc17 g Y _) b1 dX5_minutes_6 ?_
  refine lv_sipush (v := 960) hx hb dX5_minutes_7 (by decide) ?_
  refine lv_idiv hx hb dX5_minutes_10 (by decide) ?_
  refine va_mmax hx hb (hml.trans hl.1.symm) hown (hts (.methodLink RX5 22 Lib.Math.max.name) (by decide +kernel)) (hts (.static Lib.Math.max.name) (by decide +kernel)) (hts (.initialized "java/lang/Math") (by decide +kernel)) (hts (.code Lib.Math.max.name Lib.Math.max.code 2 (some .int)) (by decide +kernel)) (Nat.le_of_ble_eq_true rfl) (Nat.le_of_ble_eq_true rfl) (Nat.zero_le _) (Nat.zero_le _) dX5_minutes_11 ?_
  exact j_iret I hx hb hr rfl hlk hf dX5_minutes_14

theorem iw_X5_longest_X5 : ∀ w ∈ u_ws RX5 TX5 3, w ∈ wsX5_longest := by decide +kernel
set_option maxHeartbeats 4000000 in
set_option maxRecDepth 100000 in
theorem bX5_longest_L4 {p : Program} {l : Launch} {e : Env} {s : State} {m : MethodId} {args : Array Value} {below : List Frame} {meth : Method} {c : Code} {D : va_G} {g : Nat → Nat} {Y : YT} {bP : Nat} {σ0 : St} {res : St × Int32} (C0 : MC p s m args meth c cX5_longest 3 (some .int) RX5 wsX5_longest) : ∀ (n : Nat) (σ : St) (a1 : Int32) (a2 : Int32) (H : Heap) (locs : List Loc) (ls : Array Slot), fX5_longest_L4 n σ a1 a2 = some res → JW D 44 g (KC g Y) Y bP (va_A (wd 44 g (KC g Y) σ0) s.heap.size) s σ H locs → lv_has ls 3 [(0, .ref (g 2)), (1, .int a1), (2, .int a2)] → W p l e (⟨2, 0, 0, 34⟩ : Room) s m args below meth c H locs 0 0 (MQ below (Qi D 44 g (KC g Y) Y σ0 res s.heap.size) args s 0 0 (va_A (wd 44 g (KC g Y) σ0) s.heap.size)) (F0 m 4 ls []) := by
  have C0 := C0
  obtain ⟨hx, hb, hr, hml, hown, hts, hlk⟩ := id C0
  intro n
  induction n with
  | zero =>
    intro σ a1 a2 H locs ls hf
    cases hf
  | succ n ih =>
    intro σ a1 a2 H locs ls hf I hl
    rw [fX5_longest_L4] at hf
    refine lv_iload_n hx hb dX5_longest_4 rfl (lv_at hl 2 rfl) ?_
    refine lv_aload_n hx hb dX5_longest_5 rfl (lv_at hl 0 rfl) ?_
    refine j_get I hx hb hts iw_X5_longest_X5 hown 2 (by decide) (kc2 g Y _) rfl 2 (by decide) (hts (.fieldLink RX5 18 "ReelNight$Reels" "many" "I") (by decide +kernel)) rfl dX5_longest_6 ?_
    refine lv_icmp_ge (tgt := 28) hx hb dX5_longest_9 (by decide) (fun c1 => ?_) (fun c1 => ?_)
    · have hf := i_t c1 hf
      refine lv_iload_n hx hb dX5_longest_28 rfl (lv_at hl 1 rfl) ?_
      exact j_iret I hx hb hr rfl hlk hf dX5_longest_29
    · have hf := i_f c1 hf
      refine lv_iload_n hx hb dX5_longest_12 rfl (lv_at hl 1 rfl) ?_
      refine lv_aload_n hx hb dX5_longest_13 rfl (lv_at hl 0 rfl) ?_
      refine lv_iload_n hx hb dX5_longest_14 rfl (lv_at hl 2 rfl) ?_
      obtain ⟨σ2, r3, h4, hf⟩ := o_obn hf
      refine j_iV (rest := [.int a1]) I ⟨hx, hb, hml, hown, hts⟩ (ct_X5_minutes σ a2 _ h4) (cwV 1 hts gX5_longest_X5_minutes rfl rfl rfl (by decide +kernel) ⟨Nat.le_of_ble_eq_true rfl, Nat.le_of_ble_eq_true rfl⟩) (by decide) (kc2 g Y _) rfl rfl hl.1 rfl (Nat.le_of_ble_eq_true rfl) dX5_longest_15 ⟨Nat.zero_le _, Nat.zero_le _⟩ (fun H locs I => ?_)
      refine va_mmax hx hb (hml.trans hl.1.symm) hown (hts (.methodLink RX5 22 Lib.Math.max.name) (by decide +kernel)) (hts (.static Lib.Math.max.name) (by decide +kernel)) (hts (.initialized "java/lang/Math") (by decide +kernel)) (hts (.code Lib.Math.max.name Lib.Math.max.code 2 (some .int)) (by decide +kernel)) (Nat.le_of_ble_eq_true rfl) (Nat.le_of_ble_eq_true rfl) (Nat.zero_le _) (Nat.zero_le _) dX5_longest_18 ?_
      obtain ⟨v5, ev5, hf⟩ := o_itp hf
      refine top_eq ev5 ?_
      refine lv_istore_n (lv' := [(1, .int v5), (0, .ref (g 2)), (2, .int a2)]) hx hb dX5_longest_21 rfl hl (by decide) rfl (fun ls hl => ?_)
      refine lv_iinc (v := (a2 + 1)) (lv' := [(2, .int (a2 + 1)), (1, .int v5), (0, .ref (g 2))]) hx hb dX5_longest_22 hl (k := 2) rfl rfl (by decide) rfl (fun ls hl => ?_)
      refine lv_goto (tgt := 4) hx hb dX5_longest_25 (by decide) ?_
      exact ih σ2 v5 (a2 + 1) _ _ _ hf I (lv_sub hl [2, 1, 0] rfl)
set_option maxHeartbeats 4000000 in
set_option maxRecDepth 100000 in
theorem ct_X5_longest {l : Launch} {D : va_G} {g : Nat → Nat} {Y : YT} {bP : Nat} (σ : St) (res : St × Int32) (hf : fX5_longest σ = some res) : Ci l yX5_longest wsX5_longest ⟨2, 0, 0, 34⟩ D 44 g (KC g Y) Y bP [.ref (g 2)] σ res := by
  intro sz
  refine Met.ofW (cc := cX5_longest) (maxL := 3) (ret := (some .int)) (by decide) rfl ?_
  intro p e s m args below meth c s₁ B hml hv
  obtain ⟨rfl, rfl, I⟩ := j_start hv
  have C0 : MC p s m _ meth c cX5_longest 3 (some .int) RX5 wsX5_longest := ⟨B.exec, B.bytes, B.returns, hml, findClass_of_methodNamed B.named, atoms_spec (ws := wsX5_longest) B.pre, B.notSynchronized⟩
  obtain ⟨hx, hb, hr, hml, hown, hts, hlk⟩ := id C0
  have hl := lv_entry ([.ref (g 2)]) (n := 3) (Nat.le_of_ble_eq_true rfl)
  rw [lg_entry_eq]
  generalize (lg_sl ([.ref (g 2)]) ++ List.replicate (3 - (lg_sl ([.ref (g 2)])).length) Slot.unset).toArray = ls at hl ⊢
  have hl : lv_has ls 3 [(0, .ref (g 2))] := hl
  rw [fX5_longest] at hf
  refine lv_iconst (v := 0) hx hb dX5_longest_0 (by decide) ?_
  refine lv_istore_n (lv' := [(1, .int 0), (0, .ref (g 2))]) hx hb dX5_longest_1 rfl hl (by decide) rfl (fun ls hl => ?_)
  refine lv_iconst (v := 0) hx hb dX5_longest_2 (by decide) ?_
  refine lv_istore_n (lv' := [(2, .int 0), (1, .int 0), (0, .ref (g 2))]) hx hb dX5_longest_3 rfl hl (by decide) rfl (fun ls hl => ?_)
  refine bX5_longest_L4 C0 50 σ 0 0 _ _ _ hf I (lv_sub hl [2, 1, 0] rfl)

theorem iw_X2_reckonStarts_X2 : ∀ w ∈ u_ws RX2 TX2 11, w ∈ wsX2_reckonStarts := fun _ h => List.mem_cons_of_mem _ (List.mem_append_left _ (List.mem_append_left _ (List.mem_append_left _ (List.mem_append_right _ h))))
set_option maxHeartbeats 4000000 in
set_option maxRecDepth 100000 in
theorem bX2_reckonStarts_L17 {p : Program} {l : Launch} {e : Env} {s : State} {m : MethodId} {args : Array Value} {below : List Frame} {meth : Method} {c : Code} {D : va_G} {g : Nat → Nat} {Y : YT} {bP : Nat} {σ0 : St} {res : St × Int32} (C0 : MC p s m args meth c cX2_reckonStarts 3 none RX2 wsX2_reckonStarts) : ∀ (n : Nat) (σ : St) (a1 : Int32) (a2 : Int32) (H : Heap) (locs : List Loc) (ls : Array Slot), fX2_reckonStarts_L17 n σ a1 a2 = some res → JW D 44 g (KC g Y) Y bP (va_A (wd 44 g (KC g Y) σ0) s.heap.size) s σ H locs → lv_has ls 3 [(0, .ref (g 3)), (1, .int a1), (2, .int a2)] → W p l e (⟨3, 0, 0, 56⟩ : Room) s m args below meth c H locs 0 0 (MQ below (Qv D 44 g (KC g Y) Y σ0 res s.heap.size) args s 0 0 (va_A (wd 44 g (KC g Y) σ0) s.heap.size)) (F0 m 17 ls []) := by
  have C0 := C0
  obtain ⟨hx, hb, hr, hml, hown, hts, hlk⟩ := id C0
  intro n
  induction n with
  | zero =>
    intro σ a1 a2 H locs ls hf
    cases hf
  | succ n ih =>
    intro σ a1 a2 H locs ls hf I hl
    rw [fX2_reckonStarts_L17] at hf
    refine lv_iload_n hx hb dX2_reckonStarts_17 rfl (lv_at hl 2 rfl) ?_
    refine lv_aload_n hx hb dX2_reckonStarts_18 rfl (lv_at hl 0 rfl) ?_
    refine j_get I hx hb hts iw_X2_reckonStarts_X2 hown 3 (by decide) (kc3 g Y _) rfl 5 (by decide) (hts (.fieldLink RX2 18 "ReelNight$Night" "many" "I") (by decide +kernel)) rfl dX2_reckonStarts_19 ?_
    refine lv_icmp_ge (tgt := 53) hx hb dX2_reckonStarts_22 (by decide) (fun c5 => ?_) (fun c5 => ?_)
    · have hf := i_t c5 hf
      exact j_vret I hx hb hr hlk hf dX2_reckonStarts_53
    · have hf := i_f c5 hf
      refine lv_aload_n hx hb dX2_reckonStarts_25 rfl (lv_at hl 0 rfl) ?_
      refine j_get I hx hb hts iw_X2_reckonStarts_X2 hown 3 (by decide) (kc3 g Y _) rfl 6 (by decide) (hts (.fieldLink RX2 22 "ReelNight$Night" "starts" "[I") (by decide +kernel)) rfl dX2_reckonStarts_26 ?_
      refine lv_iload_n hx hb dX2_reckonStarts_29 rfl (lv_at hl 2 rfl) ?_
      refine lv_aload_n hx hb dX2_reckonStarts_30 rfl (lv_at hl 0 rfl) ?_
      refine j_get I hx hb hts iw_X2_reckonStarts_X2 hown 3 (by decide) (kc3 g Y _) rfl 6 (by decide) (hts (.fieldLink RX2 22 "ReelNight$Night" "starts" "[I") (by decide +kernel)) rfl dX2_reckonStarts_31 ?_
      refine lv_iload_n hx hb dX2_reckonStarts_34 rfl (lv_at hl 2 rfl) ?_
      refine lv_iconst (v := 1) hx hb dX2_reckonStarts_35 (by decide) ?_
      refine lv_isub hx hb dX2_reckonStarts_36 ?_
      obtain ⟨b6, hf⟩ := o_nb hf
      refine j_ald I hx hb 21 (by decide) (kc21 g Y _) b6 dX2_reckonStarts_37 ?_
      refine lv_iload_n hx hb dX2_reckonStarts_38 rfl (lv_at hl 1 rfl) ?_
      refine lv_iadd hx hb dX2_reckonStarts_39 ?_
      refine lv_aload_n hx hb dX2_reckonStarts_40 rfl (lv_at hl 0 rfl) ?_
      refine lv_iload_n hx hb dX2_reckonStarts_41 rfl (lv_at hl 2 rfl) ?_
      obtain ⟨σ7, r8, h9, hf⟩ := o_obn hf
      refine j_iV (rest := [.int ((σ 21 (a2 - 1).toNatClampNeg) + a1), .int a2, .ref (g 21)]) I ⟨hx, hb, hml, hown, hts⟩ (ct_X2_wayTo σ a2 _ h9) (cwV 1 hts gX2_reckonStarts_X2_wayTo rfl rfl rfl (by decide +kernel) ⟨Nat.le_of_ble_eq_true rfl, Nat.le_of_ble_eq_true rfl⟩) (by decide) (kc3 g Y _) rfl rfl hl.1 rfl (Nat.le_of_ble_eq_true rfl) dX2_reckonStarts_42 ⟨Nat.zero_le _, Nat.zero_le _⟩ (fun H locs I => ?_)
      refine lv_iadd hx hb dX2_reckonStarts_45 ?_
      obtain ⟨b10, hf⟩ := o_nb hf
      obtain ⟨σ11, eσ11, hf⟩ := o_stp hf
      refine j_ast I hx hb 21 (by decide) (kc21 g Y) b10 eσ11 dX2_reckonStarts_46 (fun H locs I => ?_)
      refine lv_iinc (v := (a2 + 1)) (lv' := [(2, .int (a2 + 1)), (0, .ref (g 3)), (1, .int a1)]) hx hb dX2_reckonStarts_47 hl (k := 2) rfl rfl (by decide) rfl (fun ls hl => ?_)
      refine lv_goto (tgt := 17) hx hb dX2_reckonStarts_50 (by decide) ?_
      exact ih σ11 a1 (a2 + 1) _ _ _ hf I (lv_sub hl [1, 2, 0] rfl)
set_option maxHeartbeats 4000000 in
set_option maxRecDepth 100000 in
theorem ct_X2_reckonStarts {l : Launch} {D : va_G} {g : Nat → Nat} {Y : YT} {bP : Nat} (σ : St) (res : St × Int32) (hf : fX2_reckonStarts σ = some res) : Cv l yX2_reckonStarts wsX2_reckonStarts ⟨3, 0, 0, 56⟩ D 44 g (KC g Y) Y bP [.ref (g 3)] σ res := by
  intro sz
  refine Met.ofW (cc := cX2_reckonStarts) (maxL := 3) (ret := none) (by decide) rfl ?_
  intro p e s m args below meth c s₁ B hml hv
  obtain ⟨rfl, rfl, I⟩ := j_start hv
  have C0 : MC p s m _ meth c cX2_reckonStarts 3 none RX2 wsX2_reckonStarts := ⟨B.exec, B.bytes, B.returns, hml, findClass_of_methodNamed B.named, atoms_spec (ws := wsX2_reckonStarts) B.pre, B.notSynchronized⟩
  obtain ⟨hx, hb, hr, hml, hown, hts, hlk⟩ := id C0
  have hl := lv_entry ([.ref (g 3)]) (n := 3) (Nat.le_of_ble_eq_true rfl)
  rw [lg_entry_eq]
  generalize (lg_sl ([.ref (g 3)]) ++ List.replicate (3 - (lg_sl ([.ref (g 3)])).length) Slot.unset).toArray = ls at hl ⊢
  have hl : lv_has ls 3 [(0, .ref (g 3))] := hl
  rw [fX2_reckonStarts] at hf
  refine lv_aload_n hx hb dX2_reckonStarts_0 rfl (lv_at hl 0 rfl) ?_
  refine j_get I hx hb hts iw_X2_reckonStarts_X2 hown 3 (by decide) (kc3 g Y _) rfl 1 (by decide) (hts (.fieldLink RX2 41 "ReelNight$Night" "reels" "LReelNight$Reels;") (by decide +kernel)) rfl dX2_reckonStarts_1 ?_
  obtain ⟨σ1, r2, h3, hf⟩ := o_obn hf
  refine j_iV (rest := []) I ⟨hx, hb, hml, hown, hts⟩ (ct_X5_longest σ _ h3) (cwV 0 hts gX2_reckonStarts_X5_longest rfl rfl rfl (by decide +kernel) ⟨Nat.le_of_ble_eq_true rfl, Nat.le_of_ble_eq_true rfl⟩) (by decide) (kc2 g Y _) rfl rfl hl.1 rfl (Nat.le_of_ble_eq_true rfl) dX2_reckonStarts_4 ⟨Nat.zero_le _, Nat.zero_le _⟩ (fun H locs I => ?_)
  refine lv_istore_n (lv' := [(1, .int r2), (0, .ref (g 3))]) hx hb dX2_reckonStarts_7 rfl hl (by decide) rfl (fun ls hl => ?_)
  refine lv_aload_n hx hb dX2_reckonStarts_8 rfl (lv_at hl 1 rfl) ?_
  refine j_get I hx hb hts iw_X2_reckonStarts_X2 hown 3 (by decide) (kc3 g Y _) rfl 6 (by decide) (hts (.fieldLink RX2 22 "ReelNight$Night" "starts" "[I") (by decide +kernel)) rfl dX2_reckonStarts_9 ?_
  refine lv_iconst (v := 0) hx hb dX2_reckonStarts_12 (by decide) ?_
  refine lv_iconst (v := 0) hx hb dX2_reckonStarts_13 (by decide) ?_
  obtain ⟨σ4, eσ4, hf⟩ := o_stp hf
  refine j_ast I hx hb 21 (by decide) (kc21 g Y) (show ¬ ((0 : Int32) < 0 ∨ 6 ≤ (0 : Int32).toNatClampNeg) from by decide) eσ4 dX2_reckonStarts_14 (fun H locs I => ?_)
  refine lv_iconst (v := 1) hx hb dX2_reckonStarts_15 (by decide) ?_
  refine lv_istore_n (lv' := [(2, .int 1), (1, .int r2), (0, .ref (g 3))]) hx hb dX2_reckonStarts_16 rfl hl (by decide) rfl (fun ls hl => ?_)
  refine bX2_reckonStarts_L17 C0 50 σ4 r2 1 _ _ _ hf I (lv_sub hl [2, 1, 0] rfl)

theorem iw_X6_clear_X6 : ∀ w ∈ u_ws RX6 TX6 9, w ∈ wsX6_clear := fun _ h => List.mem_cons_of_mem _ (List.mem_append_right _ h)
set_option maxHeartbeats 4000000 in
set_option maxRecDepth 100000 in
theorem ct_X6_clear {l : Launch} {D : va_G} {g : Nat → Nat} {Y : YT} {bP : Nat} (σ : St) (res : St × Int32) (hf : fX6_clear σ = some res) : Cv l yX6_clear wsX6_clear ⟨0, 0, 0, 0⟩ D 44 g (KC g Y) Y bP [.ref (g 4)] σ res := by
  intro sz
  refine Met.ofW (cc := cX6_clear) (maxL := 1) (ret := none) (by decide) rfl ?_
  intro p e s m args below meth c s₁ B hml hv
  obtain ⟨rfl, rfl, I⟩ := j_start hv
  have C0 : MC p s m _ meth c cX6_clear 1 none RX6 wsX6_clear := ⟨B.exec, B.bytes, B.returns, hml, findClass_of_methodNamed B.named, atoms_spec (ws := wsX6_clear) B.pre, B.notSynchronized⟩
  obtain ⟨hx, hb, hr, hml, hown, hts, hlk⟩ := id C0
  have hl := lv_entry ([.ref (g 4)]) (n := 1) (Nat.le_of_ble_eq_true rfl)
  rw [lg_entry_eq]
  generalize (lg_sl ([.ref (g 4)]) ++ List.replicate (1 - (lg_sl ([.ref (g 4)])).length) Slot.unset).toArray = ls at hl ⊢
  have hl : lv_has ls 1 [(0, .ref (g 4))] := hl
  rw [fX6_clear] at hf
  refine lv_aload_n hx hb dX6_clear_0 rfl (lv_at hl 0 rfl) ?_
  refine lv_iconst (v := 0) hx hb dX6_clear_1 (by decide) ?_
  obtain ⟨σ1, eσ1, hf⟩ := o_stp hf
  refine j_put I hx hb hts iw_X6_clear_X6 tyX6 tyX6_ok nmX6 hown 4 (by decide) (kc4 g Y _) rfl 8 (by decide) (hts (.fieldLink RX6 33 "ReelNight$Rides" "many" "I") (by decide +kernel)) rfl rfl rfl (Nat.le_of_ble_eq_true rfl) (kcs4_8 g Y _ _) eσ1 dX6_clear_2 (fun H locs I => ?_)
  exact j_vret I hx hb hr hlk hf dX6_clear_5

theorem iw_X6_add_X6 : ∀ w ∈ u_ws RX6 TX6 9, w ∈ wsX6_add := by decide +kernel
set_option maxHeartbeats 4000000 in
set_option maxRecDepth 100000 in
theorem ct_X6_add {l : Launch} {D : va_G} {g : Nat → Nat} {Y : YT} {bP : Nat} (σ : St) (p0 : Int32) (p1 : Int32) (p2 : Int32) (p3 : Int32) (res : St × Int32) (hf : fX6_add σ p0 p1 p2 p3 = some res) : Cv l yX6_add wsX6_add ⟨1, 0, 0, 22⟩ D 44 g (KC g Y) Y bP [.ref (g 4), .int p0, .int p1, .int p2, .int p3] σ res := by
  intro sz
  refine Met.ofW (cc := cX6_add) (maxL := 5) (ret := none) (by decide) rfl ?_
  intro p e s m args below meth c s₁ B hml hv
  obtain ⟨rfl, rfl, I⟩ := j_start hv
  have C0 : MC p s m _ meth c cX6_add 5 none RX6 wsX6_add := ⟨B.exec, B.bytes, B.returns, hml, findClass_of_methodNamed B.named, atoms_spec (ws := wsX6_add) B.pre, B.notSynchronized⟩
  obtain ⟨hx, hb, hr, hml, hown, hts, hlk⟩ := id C0
  have hl := lv_entry ([.ref (g 4), .int p0, .int p1, .int p2, .int p3]) (n := 5) (Nat.le_of_ble_eq_true rfl)
  rw [lg_entry_eq]
  generalize (lg_sl ([.ref (g 4), .int p0, .int p1, .int p2, .int p3]) ++ List.replicate (5 - (lg_sl ([.ref (g 4), .int p0, .int p1, .int p2, .int p3])).length) Slot.unset).toArray = ls at hl ⊢
  have hl : lv_has ls 5 [(0, .ref (g 4)), (1, .int p0), (2, .int p1), (3, .int p2), (4, .int p3)] := hl
  rw [fX6_add] at hf
  refine lv_aload_n hx hb dX6_add_0 rfl (lv_at hl 0 rfl) ?_
  refine j_get I hx hb hts iw_X6_add_X6 hown 4 (by decide) (kc4 g Y _) rfl 8 (by decide) (hts (.fieldLink RX6 33 "ReelNight$Rides" "many" "I") (by decide +kernel)) rfl dX6_add_1 ?_
  refine lv_bipush (v := 40) hx hb dX6_add_4 (by decide) ?_
  refine lv_icmp_lt (tgt := 10) hx hb dX6_add_6 (by decide) (fun c1 => ?_) (fun c1 => ?_)
  · have hf := i_t c1 hf
    refine lv_aload_n hx hb dX6_add_10 rfl (lv_at hl 0 rfl) ?_
    refine j_get I hx hb hts iw_X6_add_X6 hown 4 (by decide) (kc4 g Y _) rfl 1 (by decide) (hts (.fieldLink RX6 9 "ReelNight$Rides" "reels" "[I") (by decide +kernel)) rfl dX6_add_11 ?_
    refine lv_aload_n hx hb dX6_add_14 rfl (lv_at hl 0 rfl) ?_
    refine j_get I hx hb hts iw_X6_add_X6 hown 4 (by decide) (kc4 g Y _) rfl 8 (by decide) (hts (.fieldLink RX6 33 "ReelNight$Rides" "many" "I") (by decide +kernel)) rfl dX6_add_15 ?_
    refine lv_iload_n hx hb dX6_add_18 rfl (lv_at hl 1 rfl) ?_
    obtain ⟨b2, hf⟩ := o_nb hf
    obtain ⟨σ3, eσ3, hf⟩ := o_stp hf
    refine j_ast I hx hb 26 (by decide) (kc26 g Y) b2 eσ3 dX6_add_19 (fun H locs I => ?_)
    refine lv_aload_n hx hb dX6_add_20 rfl (lv_at hl 0 rfl) ?_
    refine j_get I hx hb hts iw_X6_add_X6 hown 4 (by decide) (kc4 g Y _) rfl 2 (by decide) (hts (.fieldLink RX6 15 "ReelNight$Rides" "froms" "[I") (by decide +kernel)) rfl dX6_add_21 ?_
    refine lv_aload_n hx hb dX6_add_24 rfl (lv_at hl 0 rfl) ?_
    refine j_get I hx hb hts iw_X6_add_X6 hown 4 (by decide) (kc4 g Y _) rfl 8 (by decide) (hts (.fieldLink RX6 33 "ReelNight$Rides" "many" "I") (by decide +kernel)) rfl dX6_add_25 ?_
    refine lv_iload_n hx hb dX6_add_28 rfl (lv_at hl 2 rfl) ?_
    obtain ⟨b4, hf⟩ := o_nb hf
    obtain ⟨σ5, eσ5, hf⟩ := o_stp hf
    refine j_ast I hx hb 27 (by decide) (kc27 g Y) b4 eσ5 dX6_add_29 (fun H locs I => ?_)
    refine lv_aload_n hx hb dX6_add_30 rfl (lv_at hl 0 rfl) ?_
    refine j_get I hx hb hts iw_X6_add_X6 hown 4 (by decide) (kc4 g Y _) rfl 3 (by decide) (hts (.fieldLink RX6 18 "ReelNight$Rides" "tos" "[I") (by decide +kernel)) rfl dX6_add_31 ?_
    refine lv_aload_n hx hb dX6_add_34 rfl (lv_at hl 0 rfl) ?_
    refine j_get I hx hb hts iw_X6_add_X6 hown 4 (by decide) (kc4 g Y _) rfl 8 (by decide) (hts (.fieldLink RX6 33 "ReelNight$Rides" "many" "I") (by decide +kernel)) rfl dX6_add_35 ?_
    refine lv_iload_n hx hb dX6_add_38 rfl (lv_at hl 3 rfl) ?_
    obtain ⟨b6, hf⟩ := o_nb hf
    obtain ⟨σ7, eσ7, hf⟩ := o_stp hf
    refine j_ast I hx hb 28 (by decide) (kc28 g Y) b6 eσ7 dX6_add_39 (fun H locs I => ?_)
    refine lv_aload_n hx hb dX6_add_40 rfl (lv_at hl 0 rfl) ?_
    refine j_get I hx hb hts iw_X6_add_X6 hown 4 (by decide) (kc4 g Y _) rfl 4 (by decide) (hts (.fieldLink RX6 21 "ReelNight$Rides" "begins" "[I") (by decide +kernel)) rfl dX6_add_41 ?_
    refine lv_aload_n hx hb dX6_add_44 rfl (lv_at hl 0 rfl) ?_
    refine j_get I hx hb hts iw_X6_add_X6 hown 4 (by decide) (kc4 g Y _) rfl 8 (by decide) (hts (.fieldLink RX6 33 "ReelNight$Rides" "many" "I") (by decide +kernel)) rfl dX6_add_45 ?_
    refine lv_iload hx hb dX6_add_48 (lv_at hl 4 rfl) ?_
    obtain ⟨b8, hf⟩ := o_nb hf
    obtain ⟨σ9, eσ9, hf⟩ := o_stp hf
    refine j_ast I hx hb 29 (by decide) (kc29 g Y) b8 eσ9 dX6_add_50 (fun H locs I => ?_)
    refine lv_aload_n hx hb dX6_add_51 rfl (lv_at hl 0 rfl) ?_
    refine j_get I hx hb hts iw_X6_add_X6 hown 4 (by decide) (kc4 g Y _) rfl 5 (by decide) (hts (.fieldLink RX6 24 "ReelNight$Rides" "ends" "[I") (by decide +kernel)) rfl dX6_add_52 ?_
    refine lv_aload_n hx hb dX6_add_55 rfl (lv_at hl 0 rfl) ?_
    refine j_get I hx hb hts iw_X6_add_X6 hown 4 (by decide) (kc4 g Y _) rfl 8 (by decide) (hts (.fieldLink RX6 33 "ReelNight$Rides" "many" "I") (by decide +kernel)) rfl dX6_add_56 ?_
    refine lv_iload hx hb dX6_add_59 (lv_at hl 4 rfl) ?_
    refine lv_aload_n hx hb dX6_add_61 rfl (lv_at hl 0 rfl) ?_
    refine j_get I hx hb hts iw_X6_add_X6 hown 4 (by decide) (kc4 g Y _) rfl 0 (by decide) (hts (.fieldLink RX6 37 "ReelNight$Rides" "ways" "LReelNight$Pairs;") (by decide +kernel)) rfl dX6_add_62 ?_
    refine lv_iload_n hx hb dX6_add_65 rfl (lv_at hl 2 rfl) ?_
    refine lv_iload_n hx hb dX6_add_66 rfl (lv_at hl 3 rfl) ?_
    obtain ⟨σ10, r11, h12, hf⟩ := o_obn hf
    refine j_iV (rest := [.int p3, .int (σ9 4 8), .ref (g 30)]) I ⟨hx, hb, hml, hown, hts⟩ (ct_X3_between_10 σ9 p1 p2 _ h12) (cwV 2 hts gX6_add_X3_between rfl rfl rfl (by decide +kernel) ⟨Nat.le_of_ble_eq_true rfl, Nat.le_of_ble_eq_true rfl⟩) (by decide) (kc10 g Y _) rfl rfl hl.1 rfl (Nat.le_of_ble_eq_true rfl) dX6_add_67 ⟨Nat.zero_le _, Nat.zero_le _⟩ (fun H locs I => ?_)
    refine lv_iadd hx hb dX6_add_70 ?_
    obtain ⟨b13, hf⟩ := o_nb hf
    obtain ⟨σ14, eσ14, hf⟩ := o_stp hf
    refine j_ast I hx hb 30 (by decide) (kc30 g Y) b13 eσ14 dX6_add_71 (fun H locs I => ?_)
    refine lv_aload_n hx hb dX6_add_72 rfl (lv_at hl 0 rfl) ?_
    refine lv_dup hx hb dX6_add_73 rfl ?_
    refine j_get I hx hb hts iw_X6_add_X6 hown 4 (by decide) (kc4 g Y _) rfl 8 (by decide) (hts (.fieldLink RX6 33 "ReelNight$Rides" "many" "I") (by decide +kernel)) rfl dX6_add_74 ?_
    refine lv_iconst (v := 1) hx hb dX6_add_77 (by decide) ?_
    refine lv_iadd hx hb dX6_add_78 ?_
    obtain ⟨σ15, eσ15, hf⟩ := o_stp hf
    refine j_put I hx hb hts iw_X6_add_X6 tyX6 tyX6_ok nmX6 hown 4 (by decide) (kc4 g Y _) rfl 8 (by decide) (hts (.fieldLink RX6 33 "ReelNight$Rides" "many" "I") (by decide +kernel)) rfl rfl rfl (Nat.le_of_ble_eq_true rfl) (kcs4_8 g Y _ _) eσ15 dX6_add_79 (fun H locs I => ?_)
    exact j_vret I hx hb hr hlk hf dX6_add_82
  · have hf := i_f c1 hf
    exact j_vret I hx hb hr hlk hf dX6_add_9

theorem iw_X2_listRides_X2 : ∀ w ∈ u_ws RX2 TX2 11, w ∈ wsX2_listRides := fun _ h => List.mem_cons_of_mem _ (List.mem_append_left _ (List.mem_append_left _ (List.mem_append_left _ (List.mem_append_left _ (List.mem_append_right _ h)))))
theorem iw_X2_listRides_X5 : ∀ w ∈ u_ws RX5 TX5 3, w ∈ wsX2_listRides := fun _ h => List.mem_cons_of_mem _ (List.mem_append_left _ (List.mem_append_left _ (List.mem_append_left _ (List.mem_append_right _ h))))
set_option maxHeartbeats 4000000 in
set_option maxRecDepth 100000 in
theorem bX2_listRides_L32 {p : Program} {l : Launch} {e : Env} {s : State} {m : MethodId} {args : Array Value} {below : List Frame} {meth : Method} {c : Code} {D : va_G} {g : Nat → Nat} {Y : YT} {bP : Nat} {σ0 : St} {res : St × Int32} (C0 : MC p s m args meth c cX2_listRides 4 (some (.object "ReelNight$Rides")) RX2 wsX2_listRides) {K83 : St → Int32 → Option (St × Int32)} (hK83 : ∀ (σ : St) (a1 : Int32) (H : Heap) (locs : List Loc) (ls : Array Slot), K83 σ a1 = some res → JW D 44 g (KC g Y) Y bP (va_A (wd 44 g (KC g Y) σ0) s.heap.size) s σ H locs → lv_has ls 4 [(0, .ref (g 3)), (1, .int a1)] → W p l e (⟨4, 0, 0, 78⟩ : Room) s m args below meth c H locs 0 0 (MQ below (Qr D 44 g (KC g Y) Y (g 4) σ0 res s.heap.size) args s 0 0 (va_A (wd 44 g (KC g Y) σ0) s.heap.size)) (F0 m 83 ls [])) : ∀ (n : Nat) (σ : St) (a1 : Int32) (a2 : Int32) (a3 : Int32) (H : Heap) (locs : List Loc) (ls : Array Slot), fX2_listRides_L32 K83 n σ a1 a2 a3 = some res → JW D 44 g (KC g Y) Y bP (va_A (wd 44 g (KC g Y) σ0) s.heap.size) s σ H locs → lv_has ls 4 [(0, .ref (g 3)), (1, .int a1), (2, .int a2), (3, .int a3)] → W p l e (⟨4, 0, 0, 78⟩ : Room) s m args below meth c H locs 0 0 (MQ below (Qr D 44 g (KC g Y) Y (g 4) σ0 res s.heap.size) args s 0 0 (va_A (wd 44 g (KC g Y) σ0) s.heap.size)) (F0 m 32 ls []) := by
  have C0 := C0
  obtain ⟨hx, hb, hr, hml, hown, hts, hlk⟩ := id C0
  intro n
  induction n with
  | zero =>
    intro σ a1 a2 a3 H locs ls hf
    cases hf
  | succ n ih =>
    intro σ a1 a2 a3 H locs ls hf I hl
    rw [fX2_listRides_L32] at hf
    refine lv_iload_n hx hb dX2_listRides_32 rfl (lv_at hl 3 rfl) ?_
    refine lv_aload_n hx hb dX2_listRides_33 rfl (lv_at hl 0 rfl) ?_
    refine j_get I hx hb hts iw_X2_listRides_X2 hown 3 (by decide) (kc3 g Y _) rfl 1 (by decide) (hts (.fieldLink RX2 41 "ReelNight$Night" "reels" "LReelNight$Reels;") (by decide +kernel)) rfl dX2_listRides_34 ?_
    refine j_getN I hx hb hts iw_X2_listRides_X5 hown 2 (by decide) (kc2 g Y _) rfl 2 (by decide) (by decide +kernel) rfl dX2_listRides_37 ?_
    refine lv_icmp_ge (tgt := 83) hx hb dX2_listRides_40 (by decide) (fun c10 => ?_) (fun c10 => ?_)
    · have hf := i_t c10 hf
      exact hK83 σ a1 _ _ _ hf I (lv_sub hl [0, 1] rfl)
    · have hf := i_f c10 hf
      refine lv_iload_n hx hb dX2_listRides_43 rfl (lv_at hl 2 rfl) ?_
      refine lv_aload_n hx hb dX2_listRides_44 rfl (lv_at hl 0 rfl) ?_
      refine j_get I hx hb hts iw_X2_listRides_X2 hown 3 (by decide) (kc3 g Y _) rfl 1 (by decide) (hts (.fieldLink RX2 41 "ReelNight$Night" "reels" "LReelNight$Reels;") (by decide +kernel)) rfl dX2_listRides_45 ?_
      refine lv_iload_n hx hb dX2_listRides_48 rfl (lv_at hl 3 rfl) ?_
      obtain ⟨σ11, r12, h13, hf⟩ := o_obn hf
      refine j_iV (rest := [.int a2]) I ⟨hx, hb, hml, hown, hts⟩ (ct_X5_minutes σ a3 _ h13) (cwV 1 hts gX2_listRides_X5_minutes rfl rfl rfl (by decide +kernel) ⟨Nat.le_of_ble_eq_true rfl, Nat.le_of_ble_eq_true rfl⟩) (by decide) (kc2 g Y _) rfl rfl hl.1 rfl (Nat.le_of_ble_eq_true rfl) dX2_listRides_49 ⟨Nat.zero_le _, Nat.zero_le _⟩ (fun H locs I => ?_)
      refine lv_iadd hx hb dX2_listRides_52 ?_
      obtain ⟨v14, ev14, hf⟩ := o_itp hf
      refine top_eq ev14 ?_
      refine lv_istore_n (lv' := [(2, .int v14), (0, .ref (g 3)), (1, .int a1), (3, .int a3)]) hx hb dX2_listRides_53 rfl hl (by decide) rfl (fun ls hl => ?_)
      refine lv_aload_n hx hb dX2_listRides_54 rfl (lv_at hl 1 rfl) ?_
      refine j_get I hx hb hts iw_X2_listRides_X2 hown 3 (by decide) (kc3 g Y _) rfl 2 (by decide) (hts (.fieldLink RX2 56 "ReelNight$Night" "rides" "LReelNight$Rides;") (by decide +kernel)) rfl dX2_listRides_55 ?_
      refine lv_iload_n hx hb dX2_listRides_58 rfl (lv_at hl 3 rfl) ?_
      refine lv_aload_n hx hb dX2_listRides_59 rfl (lv_at hl 1 rfl) ?_
      refine j_get I hx hb hts iw_X2_listRides_X2 hown 3 (by decide) (kc3 g Y _) rfl 3 (by decide) (hts (.fieldLink RX2 9 "ReelNight$Night" "order" "[I") (by decide +kernel)) rfl dX2_listRides_60 ?_
      refine lv_iload_n hx hb dX2_listRides_63 rfl (lv_at hl 2 rfl) ?_
      refine lv_iconst (v := 1) hx hb dX2_listRides_64 (by decide) ?_
      refine lv_isub hx hb dX2_listRides_65 ?_
      obtain ⟨b15, hf⟩ := o_nb hf
      refine j_ald I hx hb 19 (by decide) (kc19 g Y _) b15 dX2_listRides_66 ?_
      refine lv_aload_n hx hb dX2_listRides_67 rfl (lv_at hl 1 rfl) ?_
      refine j_get I hx hb hts iw_X2_listRides_X2 hown 3 (by decide) (kc3 g Y _) rfl 3 (by decide) (hts (.fieldLink RX2 9 "ReelNight$Night" "order" "[I") (by decide +kernel)) rfl dX2_listRides_68 ?_
      refine lv_iload_n hx hb dX2_listRides_71 rfl (lv_at hl 2 rfl) ?_
      obtain ⟨b16, hf⟩ := o_nb hf
      refine j_ald I hx hb 19 (by decide) (kc19 g Y _) b16 dX2_listRides_72 ?_
      refine lv_iload_n hx hb dX2_listRides_73 rfl (lv_at hl 0 rfl) ?_
      obtain ⟨σ17, r18, h19, hf⟩ := o_obn hf
      refine j_vV (rest := []) I ⟨hx, hb, hml, hown, hts⟩ (ct_X6_add σ11 a3 (σ11 19 (a1 - 1).toNatClampNeg) (σ11 19 a1.toNatClampNeg) v14 _ h19) (cwV 4 hts gX2_listRides_X6_add rfl rfl rfl (by decide +kernel) ⟨Nat.le_of_ble_eq_true rfl, Nat.le_of_ble_eq_true rfl⟩) (by decide) (kc4 g Y _) rfl rfl hl.1 rfl (Nat.le_of_ble_eq_true rfl) dX2_listRides_74 ⟨Nat.zero_le _, Nat.zero_le _⟩ (fun H locs I => ?_)
      refine lv_iinc (v := (a3 + 1)) (lv' := [(3, .int (a3 + 1)), (2, .int v14), (0, .ref (g 3)), (1, .int a1)]) hx hb dX2_listRides_77 hl (k := 3) rfl rfl (by decide) rfl (fun ls hl => ?_)
      refine lv_goto (tgt := 32) hx hb dX2_listRides_80 (by decide) ?_
      exact ih σ17 a1 v14 (a3 + 1) _ _ _ hf I (lv_sub hl [2, 3, 1, 0] rfl)
set_option maxHeartbeats 4000000 in
set_option maxRecDepth 100000 in
theorem bX2_listRides_L13 {p : Program} {l : Launch} {e : Env} {s : State} {m : MethodId} {args : Array Value} {below : List Frame} {meth : Method} {c : Code} {D : va_G} {g : Nat → Nat} {Y : YT} {bP : Nat} {σ0 : St} {res : St × Int32} (C0 : MC p s m args meth c cX2_listRides 4 (some (.object "ReelNight$Rides")) RX2 wsX2_listRides) : ∀ (n : Nat) (σ : St) (a1 : Int32) (H : Heap) (locs : List Loc) (ls : Array Slot), fX2_listRides_L13 n σ a1 = some res → JW D 44 g (KC g Y) Y bP (va_A (wd 44 g (KC g Y) σ0) s.heap.size) s σ H locs → lv_has ls 4 [(0, .ref (g 3)), (1, .int a1)] → W p l e (⟨4, 0, 0, 78⟩ : Room) s m args below meth c H locs 0 0 (MQ below (Qr D 44 g (KC g Y) Y (g 4) σ0 res s.heap.size) args s 0 0 (va_A (wd 44 g (KC g Y) σ0) s.heap.size)) (F0 m 13 ls []) := by
  have C0 := C0
  obtain ⟨hx, hb, hr, hml, hown, hts, hlk⟩ := id C0
  intro n
  induction n with
  | zero =>
    intro σ a1 H locs ls hf
    cases hf
  | succ n ih =>
    intro σ a1 H locs ls hf I hl
    rw [fX2_listRides_L13] at hf
    refine lv_iload_n hx hb dX2_listRides_13 rfl (lv_at hl 1 rfl) ?_
    refine lv_aload_n hx hb dX2_listRides_14 rfl (lv_at hl 0 rfl) ?_
    refine j_get I hx hb hts iw_X2_listRides_X2 hown 3 (by decide) (kc3 g Y _) rfl 5 (by decide) (hts (.fieldLink RX2 18 "ReelNight$Night" "many" "I") (by decide +kernel)) rfl dX2_listRides_15 ?_
    refine lv_icmp_ge (tgt := 89) hx hb dX2_listRides_18 (by decide) (fun c7 => ?_) (fun c7 => ?_)
    · have hf := i_t c7 hf
      refine lv_aload_n hx hb dX2_listRides_89 rfl (lv_at hl 0 rfl) ?_
      refine j_get I hx hb hts iw_X2_listRides_X2 hown 3 (by decide) (kc3 g Y _) rfl 2 (by decide) (hts (.fieldLink RX2 56 "ReelNight$Night" "rides" "LReelNight$Rides;") (by decide +kernel)) rfl dX2_listRides_90 ?_
      exact j_aret (a := g 4) I hx hb hr hlk hf dX2_listRides_93
    · have hf := i_f c7 hf
      refine lv_aload_n hx hb dX2_listRides_21 rfl (lv_at hl 0 rfl) ?_
      refine j_get I hx hb hts iw_X2_listRides_X2 hown 3 (by decide) (kc3 g Y _) rfl 6 (by decide) (hts (.fieldLink RX2 22 "ReelNight$Night" "starts" "[I") (by decide +kernel)) rfl dX2_listRides_22 ?_
      refine lv_iload_n hx hb dX2_listRides_25 rfl (lv_at hl 1 rfl) ?_
      refine lv_iconst (v := 1) hx hb dX2_listRides_26 (by decide) ?_
      refine lv_isub hx hb dX2_listRides_27 ?_
      obtain ⟨b8, hf⟩ := o_nb hf
      refine j_ald I hx hb 21 (by decide) (kc21 g Y _) b8 dX2_listRides_28 ?_
      obtain ⟨v9, ev9, hf⟩ := o_itp hf
      refine top_eq ev9 ?_
      refine lv_istore_n (lv' := [(2, .int v9), (0, .ref (g 3)), (1, .int a1)]) hx hb dX2_listRides_29 rfl hl (by decide) rfl (fun ls hl => ?_)
      refine lv_iconst (v := 0) hx hb dX2_listRides_30 (by decide) ?_
      refine lv_istore_n (lv' := [(3, .int 0), (2, .int v9), (0, .ref (g 3)), (1, .int a1)]) hx hb dX2_listRides_31 rfl hl (by decide) rfl (fun ls hl => ?_)
      refine bX2_listRides_L32 C0 ?_ 50 σ a1 v9 0 _ _ _ hf I (lv_sub hl [2, 3, 1, 0] rfl)
      · intro σ20 a21 H locs ls hf I hl
        refine lv_iinc (v := (a21 + 1)) (lv' := [(1, .int (a21 + 1)), (0, .ref (g 3))]) hx hb dX2_listRides_83 hl (k := 1) rfl rfl (by decide) rfl (fun ls hl => ?_)
        refine lv_goto (tgt := 13) hx hb dX2_listRides_86 (by decide) ?_
        exact ih σ20 (a21 + 1) _ _ _ hf I (lv_sub hl [1, 0] rfl)
set_option maxHeartbeats 4000000 in
set_option maxRecDepth 100000 in
theorem ct_X2_listRides {l : Launch} {D : va_G} {g : Nat → Nat} {Y : YT} {bP : Nat} (σ : St) (res : St × Int32) (hf : fX2_listRides σ = some res) : Cr l yX2_listRides wsX2_listRides ⟨4, 0, 0, 78⟩ D 44 g (KC g Y) Y bP (g 4) [.ref (g 3)] σ res := by
  intro sz
  refine Met.ofW (cc := cX2_listRides) (maxL := 4) (ret := (some (.object "ReelNight$Rides"))) (by decide) rfl ?_
  intro p e s m args below meth c s₁ B hml hv
  obtain ⟨rfl, rfl, I⟩ := j_start hv
  have C0 : MC p s m _ meth c cX2_listRides 4 (some (.object "ReelNight$Rides")) RX2 wsX2_listRides := ⟨B.exec, B.bytes, B.returns, hml, findClass_of_methodNamed B.named, atoms_spec (ws := wsX2_listRides) B.pre, B.notSynchronized⟩
  obtain ⟨hx, hb, hr, hml, hown, hts, hlk⟩ := id C0
  have hl := lv_entry ([.ref (g 3)]) (n := 4) (Nat.le_of_ble_eq_true rfl)
  rw [lg_entry_eq]
  generalize (lg_sl ([.ref (g 3)]) ++ List.replicate (4 - (lg_sl ([.ref (g 3)])).length) Slot.unset).toArray = ls at hl ⊢
  have hl : lv_has ls 4 [(0, .ref (g 3))] := hl
  rw [fX2_listRides] at hf
  refine lv_aload_n hx hb dX2_listRides_0 rfl (lv_at hl 0 rfl) ?_
  obtain ⟨σ1, r2, h3, hf⟩ := o_obn hf
  refine j_vV (rest := []) I ⟨hx, hb, hml, hown, hts⟩ (ct_X2_reckonStarts σ _ h3) (cwV 0 hts gX2_listRides_X2_reckonStarts rfl rfl rfl (by decide +kernel) ⟨Nat.le_of_ble_eq_true rfl, Nat.le_of_ble_eq_true rfl⟩) (by decide) (kc3 g Y _) rfl rfl hl.1 rfl (Nat.le_of_ble_eq_true rfl) dX2_listRides_1 ⟨Nat.zero_le _, Nat.zero_le _⟩ (fun H locs I => ?_)
  refine lv_aload_n hx hb dX2_listRides_4 rfl (lv_at hl 0 rfl) ?_
  refine j_get I hx hb hts iw_X2_listRides_X2 hown 3 (by decide) (kc3 g Y _) rfl 2 (by decide) (hts (.fieldLink RX2 56 "ReelNight$Night" "rides" "LReelNight$Rides;") (by decide +kernel)) rfl dX2_listRides_5 ?_
  obtain ⟨σ4, r5, h6, hf⟩ := o_obn hf
  refine j_vV (rest := []) I ⟨hx, hb, hml, hown, hts⟩ (ct_X6_clear σ1 _ h6) (cwV 0 hts gX2_listRides_X6_clear rfl rfl rfl (by decide +kernel) ⟨Nat.le_of_ble_eq_true rfl, Nat.le_of_ble_eq_true rfl⟩) (by decide) (kc4 g Y _) rfl rfl hl.1 rfl (Nat.le_of_ble_eq_true rfl) dX2_listRides_8 ⟨Nat.zero_le _, Nat.zero_le _⟩ (fun H locs I => ?_)
  refine lv_iconst (v := 1) hx hb dX2_listRides_11 (by decide) ?_
  refine lv_istore_n (lv' := [(1, .int 1), (0, .ref (g 3))]) hx hb dX2_listRides_12 rfl hl (by decide) rfl (fun ls hl => ?_)
  refine bX2_listRides_L13 C0 50 σ4 1 _ _ _ hf I (lv_sub hl [1, 0] rfl)
