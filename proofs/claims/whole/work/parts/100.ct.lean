set_option maxHeartbeats 4000000 in
set_option maxRecDepth 100000 in
theorem ct_X0_cell {l : Launch} {D : va_G} {g : Nat → Nat} {Y : YT} {bP : Nat} (σ : St) (p0 : Int32) (p1 : Int32) (res : St × Int32) (hf : fX0_cell σ p0 p1 = some res) : Ci l yX0_cell wsX0_cell ⟨0, 0, 0, 0⟩ D 44 g (KC g Y) Y bP [.int p0, .int p1] σ res := by
  intro sz
  refine Met.ofW (cc := cX0_cell) (maxL := 2) (ret := (some .int)) (by decide) rfl ?_
  intro p e s m args below meth c s₁ B hml hv
  obtain ⟨rfl, rfl, I⟩ := j_start hv
  have C0 : MC p s m _ meth c cX0_cell 2 (some .int) RX0 wsX0_cell := ⟨B.exec, B.bytes, B.returns, hml, findClass_of_methodNamed B.named, atoms_spec (ws := wsX0_cell) B.pre, B.notSynchronized⟩
  obtain ⟨hx, hb, hr, hml, hown, hts, hlk⟩ := id C0
  have hl := lv_entry ([.int p0, .int p1]) (n := 2) (Nat.le_of_ble_eq_true rfl)
  rw [lg_entry_eq]
  generalize (lg_sl ([.int p0, .int p1]) ++ List.replicate (2 - (lg_sl ([.int p0, .int p1])).length) Slot.unset).toArray = ls at hl ⊢
  have hl : lv_has ls 2 [(0, .int p0), (1, .int p1)] := hl
  rw [fX0_cell] at hf
  refine lv_iload_n hx hb dX0_cell_0 rfl (lv_at hl 0 rfl) ?_
  refine lv_bipush (v := 6) hx hb dX0_cell_1 (by decide) ?_
  refine lv_imul hx hb dX0_cell_3 ?_
  refine lv_iload_n hx hb dX0_cell_4 rfl (lv_at hl 1 rfl) ?_
  refine lv_iadd hx hb dX0_cell_5 ?_
  exact j_iret I hx hb hr rfl hlk hf dX0_cell_6

theorem iw_X0_hasFilm_X0 : ∀ w ∈ u_ws RX0 TX0 7, w ∈ wsX0_hasFilm := fun _ h => List.mem_cons_of_mem _ (List.mem_append_right _ h)
set_option maxHeartbeats 4000000 in
set_option maxRecDepth 100000 in
theorem ct_X0_hasFilm {l : Launch} {D : va_G} {g : Nat → Nat} {Y : YT} {bP : Nat} (σ : St) (p0 : Int32) (res : St × Int32) (hf : fX0_hasFilm σ p0 = some res) : Ci l yX0_hasFilm wsX0_hasFilm ⟨0, 0, 0, 0⟩ D 44 g (KC g Y) Y bP [.ref (g 5), .int p0] σ res := by
  intro sz
  refine Met.ofW (cc := cX0_hasFilm) (maxL := 2) (ret := (some .boolean)) (by decide) rfl ?_
  intro p e s m args below meth c s₁ B hml hv
  obtain ⟨rfl, rfl, I⟩ := j_start hv
  have C0 : MC p s m _ meth c cX0_hasFilm 2 (some .boolean) RX0 wsX0_hasFilm := ⟨B.exec, B.bytes, B.returns, hml, findClass_of_methodNamed B.named, atoms_spec (ws := wsX0_hasFilm) B.pre, B.notSynchronized⟩
  obtain ⟨hx, hb, hr, hml, hown, hts, hlk⟩ := id C0
  have hl := lv_entry ([.ref (g 5), .int p0]) (n := 2) (Nat.le_of_ble_eq_true rfl)
  rw [lg_entry_eq]
  generalize (lg_sl ([.ref (g 5), .int p0]) ++ List.replicate (2 - (lg_sl ([.ref (g 5), .int p0])).length) Slot.unset).toArray = ls at hl ⊢
  have hl : lv_has ls 2 [(0, .ref (g 5)), (1, .int p0)] := hl
  rw [fX0_hasFilm] at hf
  refine lv_iload_n hx hb dX0_hasFilm_0 rfl (lv_at hl 1 rfl) ?_
  refine lv_if_lt (tgt := 16) hx hb dX0_hasFilm_1 (by decide) (fun c1 => ?_) (fun c1 => ?_)
  · have hf := i_t c1 hf
    refine lv_iconst (v := 0) hx hb dX0_hasFilm_16 (by decide) ?_
    exact j_iret I hx hb hr rfl hlk hf dX0_hasFilm_17
  · have hf := i_f c1 hf
    refine lv_iload_n hx hb dX0_hasFilm_4 rfl (lv_at hl 1 rfl) ?_
    refine lv_aload_n hx hb dX0_hasFilm_5 rfl (lv_at hl 0 rfl) ?_
    refine j_get I hx hb hts iw_X0_hasFilm_X0 hown 5 (by decide) (kc5 g Y _) rfl 6 (by decide) (hts (.fieldLink RX0 30 "ReelNight$Bookings" "films" "I") (by decide +kernel)) rfl dX0_hasFilm_6 ?_
    refine lv_icmp_ge (tgt := 16) hx hb dX0_hasFilm_9 (by decide) (fun c2 => ?_) (fun c2 => ?_)
    · have hf := i_t c2 hf
      refine lv_iconst (v := 0) hx hb dX0_hasFilm_16 (by decide) ?_
      exact j_iret I hx hb hr rfl hlk hf dX0_hasFilm_17
    · have hf := i_f c2 hf
      refine lv_iconst (v := 1) hx hb dX0_hasFilm_12 (by decide) ?_
      refine lv_goto (tgt := 17) hx hb dX0_hasFilm_13 (by decide) ?_
      exact j_iret I hx hb hr rfl hlk hf dX0_hasFilm_17

theorem iw_X0_addFilm_X0 : ∀ w ∈ u_ws RX0 TX0 7, w ∈ wsX0_addFilm := fun _ h => List.mem_cons_of_mem _ (List.mem_append_right _ h)
set_option maxHeartbeats 4000000 in
set_option maxRecDepth 100000 in
theorem ct_X0_addFilm {l : Launch} {D : va_G} {g : Nat → Nat} {Y : YT} {bP : Nat} (σ : St) (res : St × Int32) (hf : fX0_addFilm σ = some res) : Ci l yX0_addFilm wsX0_addFilm ⟨0, 0, 0, 0⟩ D 44 g (KC g Y) Y bP [.ref (g 5)] σ res := by
  intro sz
  refine Met.ofW (cc := cX0_addFilm) (maxL := 1) (ret := (some .int)) (by decide) rfl ?_
  intro p e s m args below meth c s₁ B hml hv
  obtain ⟨rfl, rfl, I⟩ := j_start hv
  have C0 : MC p s m _ meth c cX0_addFilm 1 (some .int) RX0 wsX0_addFilm := ⟨B.exec, B.bytes, B.returns, hml, findClass_of_methodNamed B.named, atoms_spec (ws := wsX0_addFilm) B.pre, B.notSynchronized⟩
  obtain ⟨hx, hb, hr, hml, hown, hts, hlk⟩ := id C0
  have hl := lv_entry ([.ref (g 5)]) (n := 1) (Nat.le_of_ble_eq_true rfl)
  rw [lg_entry_eq]
  generalize (lg_sl ([.ref (g 5)]) ++ List.replicate (1 - (lg_sl ([.ref (g 5)])).length) Slot.unset).toArray = ls at hl ⊢
  have hl : lv_has ls 1 [(0, .ref (g 5))] := hl
  rw [fX0_addFilm] at hf
  refine lv_aload_n hx hb dX0_addFilm_0 rfl (lv_at hl 0 rfl) ?_
  refine lv_dup hx hb dX0_addFilm_1 rfl ?_
  refine j_get I hx hb hts iw_X0_addFilm_X0 hown 5 (by decide) (kc5 g Y _) rfl 6 (by decide) (hts (.fieldLink RX0 30 "ReelNight$Bookings" "films" "I") (by decide +kernel)) rfl dX0_addFilm_2 ?_
  refine lv_iconst (v := 1) hx hb dX0_addFilm_5 (by decide) ?_
  refine lv_iadd hx hb dX0_addFilm_6 ?_
  obtain ⟨σ1, eσ1, hf⟩ := o_stp hf
  refine j_put I hx hb hts iw_X0_addFilm_X0 tyX0 tyX0_ok nmX0 hown 5 (by decide) (kc5 g Y _) rfl 6 (by decide) (hts (.fieldLink RX0 30 "ReelNight$Bookings" "films" "I") (by decide +kernel)) rfl rfl rfl (Nat.le_of_ble_eq_true rfl) (kcs5_6 g Y _ _) eσ1 dX0_addFilm_7 (fun H locs I => ?_)
  refine lv_aload_n hx hb dX0_addFilm_10 rfl (lv_at hl 0 rfl) ?_
  refine j_get I hx hb hts iw_X0_addFilm_X0 hown 5 (by decide) (kc5 g Y _) rfl 6 (by decide) (hts (.fieldLink RX0 30 "ReelNight$Bookings" "films" "I") (by decide +kernel)) rfl dX0_addFilm_11 ?_
  refine lv_iconst (v := 1) hx hb dX0_addFilm_14 (by decide) ?_
  refine lv_isub hx hb dX0_addFilm_15 ?_
  exact j_iret I hx hb hr rfl hlk hf dX0_addFilm_16

theorem iw_X7_clear_X7 : ∀ w ∈ u_ws RX7 TX7 8, w ∈ wsX7_clear := by decide +kernel
set_option maxHeartbeats 4000000 in
set_option maxRecDepth 100000 in
theorem ct_X7_clear {l : Launch} {D : va_G} {g : Nat → Nat} {Y : YT} {bP : Nat} (σ : St) (p0 : Int32) (p1 : Int32) (res : St × Int32) (hf : fX7_clear σ p0 p1 = some res) : Cv l yX7_clear wsX7_clear ⟨1, 0, 0, 23⟩ D 44 g (KC g Y) Y bP [.ref (g 6), .int p0, .int p1] σ res := by
  intro sz
  refine Met.ofW (cc := cX7_clear) (maxL := 3) (ret := none) (by decide) rfl ?_
  intro p e s m args below meth c s₁ B hml hv
  obtain ⟨rfl, rfl, I⟩ := j_start hv
  have C0 : MC p s m _ meth c cX7_clear 3 none RX7 wsX7_clear := ⟨B.exec, B.bytes, B.returns, hml, findClass_of_methodNamed B.named, atoms_spec (ws := wsX7_clear) B.pre, B.notSynchronized⟩
  obtain ⟨hx, hb, hr, hml, hown, hts, hlk⟩ := id C0
  have hl := lv_entry ([.ref (g 6), .int p0, .int p1]) (n := 3) (Nat.le_of_ble_eq_true rfl)
  rw [lg_entry_eq]
  generalize (lg_sl ([.ref (g 6), .int p0, .int p1]) ++ List.replicate (3 - (lg_sl ([.ref (g 6), .int p0, .int p1])).length) Slot.unset).toArray = ls at hl ⊢
  have hl : lv_has ls 3 [(0, .ref (g 6)), (1, .int p0), (2, .int p1)] := hl
  rw [fX7_clear] at hf
  refine lv_aload_n hx hb dX7_clear_0 rfl (lv_at hl 0 rfl) ?_
  refine j_get I hx hb hts iw_X7_clear_X7 hown 6 (by decide) (kc6 g Y _) rfl 0 (by decide) (hts (.fieldLink RX7 9 "ReelNight$Search" "trial" "[I") (by decide +kernel)) rfl dX7_clear_1 ?_
  refine lv_ldc hx hb hown (hts (.constant RX7 38 (-1000000005)) (by decide +kernel)) dX7_clear_4 ?_
  obtain ⟨σ1, eσ1, hf⟩ := o_stp hf
  refine j_vS (rest := []) I ⟨hx, hb, hml, hown, hts⟩ (ct_J7_fill_53178 l 37 (by decide) (kc37 g Y) (by decide) (-1000000005) eσ1) (va_cwS 2 hts gX7_clear_J7_fill_53178 rfl rfl rfl (by decide +kernel) ⟨Nat.le_of_ble_eq_true rfl, Nat.le_of_ble_eq_true rfl⟩) rfl hl.1 rfl (Nat.le_of_ble_eq_true rfl) dX7_clear_6 ⟨Nat.zero_le _, Nat.zero_le _⟩ (fun H locs I => ?_)
  refine lv_aload_n hx hb dX7_clear_9 rfl (lv_at hl 0 rfl) ?_
  refine j_get I hx hb hts iw_X7_clear_X7 hown 6 (by decide) (kc6 g Y _) rfl 2 (by decide) (hts (.fieldLink RX7 18 "ReelNight$Search" "weeksAt" "[I") (by decide +kernel)) rfl dX7_clear_10 ?_
  refine lv_iconst (v := 0) hx hb dX7_clear_13 (by decide) ?_
  obtain ⟨σ2, eσ2, hf⟩ := o_stp hf
  refine j_vS (rest := []) I ⟨hx, hb, hml, hown, hts⟩ (ct_J7_fill_53178 l 39 (by decide) (kc39 g Y) (by decide) 0 eσ2) (va_cwS 2 hts gX7_clear_J7_fill_53178 rfl rfl rfl (by decide +kernel) ⟨Nat.le_of_ble_eq_true rfl, Nat.le_of_ble_eq_true rfl⟩) rfl hl.1 rfl (Nat.le_of_ble_eq_true rfl) dX7_clear_14 ⟨Nat.zero_le _, Nat.zero_le _⟩ (fun H locs I => ?_)
  refine lv_aload_n hx hb dX7_clear_17 rfl (lv_at hl 0 rfl) ?_
  refine lv_iload_n hx hb dX7_clear_18 rfl (lv_at hl 1 rfl) ?_
  obtain ⟨σ3, eσ3, hf⟩ := o_stp hf
  refine j_put I hx hb hts iw_X7_clear_X7 tyX7 tyX7_ok nmX7 hown 6 (by decide) (kc6 g Y _) rfl 3 (by decide) (hts (.fieldLink RX7 21 "ReelNight$Search" "lastWeek" "I") (by decide +kernel)) rfl rfl rfl (Nat.le_of_ble_eq_true rfl) (kcs6_3 g Y _ _) eσ3 dX7_clear_19 (fun H locs I => ?_)
  refine lv_aload_n hx hb dX7_clear_22 rfl (lv_at hl 0 rfl) ?_
  refine lv_iload_n hx hb dX7_clear_23 rfl (lv_at hl 2 rfl) ?_
  obtain ⟨σ4, eσ4, hf⟩ := o_stp hf
  refine j_put I hx hb hts iw_X7_clear_X7 tyX7 tyX7_ok nmX7 hown 6 (by decide) (kc6 g Y _) rfl 4 (by decide) (hts (.fieldLink RX7 25 "ReelNight$Search" "triesLeft" "I") (by decide +kernel)) rfl rfl rfl (Nat.le_of_ble_eq_true rfl) (kcs6_4 g Y _ _) eσ4 dX7_clear_24 (fun H locs I => ?_)
  refine lv_aload_n hx hb dX7_clear_27 rfl (lv_at hl 0 rfl) ?_
  refine lv_iconst (v := 0) hx hb dX7_clear_28 (by decide) ?_
  obtain ⟨σ5, eσ5, hf⟩ := o_stp hf
  refine j_put I hx hb hts iw_X7_clear_X7 tyX7 tyX7_ok nmX7 hown 6 (by decide) (kc6 g Y _) rfl 5 (by decide) (hts (.fieldLink RX7 28 "ReelNight$Search" "spent" "Z") (by decide +kernel)) rfl rfl rfl (Nat.le_of_ble_eq_true rfl) (kcs6_5 g Y _ _) eσ5 dX7_clear_29 (fun H locs I => ?_)
  refine lv_aload_n hx hb dX7_clear_32 rfl (lv_at hl 0 rfl) ?_
  refine lv_iconst (v := 0) hx hb dX7_clear_33 (by decide) ?_
  obtain ⟨σ6, eσ6, hf⟩ := o_stp hf
  refine j_put I hx hb hts iw_X7_clear_X7 tyX7 tyX7_ok nmX7 hown 6 (by decide) (kc6 g Y _) rfl 6 (by decide) (hts (.fieldLink RX7 32 "ReelNight$Search" "sum" "I") (by decide +kernel)) rfl rfl rfl (Nat.le_of_ble_eq_true rfl) (kcs6_6 g Y _ _) eσ6 dX7_clear_34 (fun H locs I => ?_)
  refine lv_aload_n hx hb dX7_clear_37 rfl (lv_at hl 0 rfl) ?_
  refine lv_iconst (v := (-1)) hx hb dX7_clear_38 (by decide) ?_
  obtain ⟨σ7, eσ7, hf⟩ := o_stp hf
  refine j_put I hx hb hts iw_X7_clear_X7 tyX7 tyX7_ok nmX7 hown 6 (by decide) (kc6 g Y _) rfl 7 (by decide) (hts (.fieldLink RX7 35 "ReelNight$Search" "bestSum" "I") (by decide +kernel)) rfl rfl rfl (Nat.le_of_ble_eq_true rfl) (kcs6_7 g Y _ _) eσ7 dX7_clear_39 (fun H locs I => ?_)
  exact j_vret I hx hb hr hlk hf dX7_clear_42

set_option maxHeartbeats 4000000 in
set_option maxRecDepth 100000 in
theorem ct_X9_place {l : Launch} {D : va_G} {g : Nat → Nat} {Y : YT} {bP : Nat} (σ : St) (p0 : Int32) (p1 : Int32) (res : St × Int32) (hf : fX9_place σ p0 p1 = some res) : Ci l yX9_place wsX9_place ⟨0, 0, 0, 0⟩ D 44 g (KC g Y) Y bP [.int p0, .int p1] σ res := by
  intro sz
  refine Met.ofW (cc := cX9_place) (maxL := 2) (ret := (some .int)) (by decide) rfl ?_
  intro p e s m args below meth c s₁ B hml hv
  obtain ⟨rfl, rfl, I⟩ := j_start hv
  have C0 : MC p s m _ meth c cX9_place 2 (some .int) RX9 wsX9_place := ⟨B.exec, B.bytes, B.returns, hml, findClass_of_methodNamed B.named, atoms_spec (ws := wsX9_place) B.pre, B.notSynchronized⟩
  obtain ⟨hx, hb, hr, hml, hown, hts, hlk⟩ := id C0
  have hl := lv_entry ([.int p0, .int p1]) (n := 2) (Nat.le_of_ble_eq_true rfl)
  rw [lg_entry_eq]
  generalize (lg_sl ([.int p0, .int p1]) ++ List.replicate (2 - (lg_sl ([.int p0, .int p1])).length) Slot.unset).toArray = ls at hl ⊢
  have hl : lv_has ls 2 [(0, .int p0), (1, .int p1)] := hl
  rw [fX9_place] at hf
  refine lv_bipush (v := 6) hx hb dX9_place_0 (by decide) ?_
  refine lv_iload_n hx hb dX9_place_2 rfl (lv_at hl 0 rfl) ?_
  refine lv_imul hx hb dX9_place_3 ?_
  refine lv_iload_n hx hb dX9_place_4 rfl (lv_at hl 1 rfl) ?_
  refine lv_iadd hx hb dX9_place_5 ?_
  exact j_iret I hx hb hr rfl hlk hf dX9_place_6

theorem iw_X1_has_X1 : ∀ w ∈ u_ws RX1 TX1 6, w ∈ wsX1_has := fun _ h => List.mem_cons_of_mem _ (List.mem_append_right _ h)
set_option maxHeartbeats 4000000 in
set_option maxRecDepth 100000 in
theorem ct_X1_has {l : Launch} {D : va_G} {g : Nat → Nat} {Y : YT} {bP : Nat} (σ : St) (p0 : Int32) (res : St × Int32) (hf : fX1_has σ p0 = some res) : Ci l yX1_has wsX1_has ⟨0, 0, 0, 0⟩ D 44 g (KC g Y) Y bP [.ref (g 1), .int p0] σ res := by
  intro sz
  refine Met.ofW (cc := cX1_has) (maxL := 2) (ret := (some .boolean)) (by decide) rfl ?_
  intro p e s m args below meth c s₁ B hml hv
  obtain ⟨rfl, rfl, I⟩ := j_start hv
  have C0 : MC p s m _ meth c cX1_has 2 (some .boolean) RX1 wsX1_has := ⟨B.exec, B.bytes, B.returns, hml, findClass_of_methodNamed B.named, atoms_spec (ws := wsX1_has) B.pre, B.notSynchronized⟩
  obtain ⟨hx, hb, hr, hml, hown, hts, hlk⟩ := id C0
  have hl := lv_entry ([.ref (g 1), .int p0]) (n := 2) (Nat.le_of_ble_eq_true rfl)
  rw [lg_entry_eq]
  generalize (lg_sl ([.ref (g 1), .int p0]) ++ List.replicate (2 - (lg_sl ([.ref (g 1), .int p0])).length) Slot.unset).toArray = ls at hl ⊢
  have hl : lv_has ls 2 [(0, .ref (g 1)), (1, .int p0)] := hl
  rw [fX1_has] at hf
  refine lv_iload_n hx hb dX1_has_0 rfl (lv_at hl 1 rfl) ?_
  refine lv_if_lt (tgt := 16) hx hb dX1_has_1 (by decide) (fun c1 => ?_) (fun c1 => ?_)
  · have hf := i_t c1 hf
    refine lv_iconst (v := 0) hx hb dX1_has_16 (by decide) ?_
    exact j_iret I hx hb hr rfl hlk hf dX1_has_17
  · have hf := i_f c1 hf
    refine lv_iload_n hx hb dX1_has_4 rfl (lv_at hl 1 rfl) ?_
    refine lv_aload_n hx hb dX1_has_5 rfl (lv_at hl 0 rfl) ?_
    refine j_get I hx hb hts iw_X1_has_X1 hown 1 (by decide) (kc1 g Y _) rfl 5 (by decide) (hts (.fieldLink RX1 33 "ReelNight$Houses" "many" "I") (by decide +kernel)) rfl dX1_has_6 ?_
    refine lv_icmp_ge (tgt := 16) hx hb dX1_has_9 (by decide) (fun c2 => ?_) (fun c2 => ?_)
    · have hf := i_t c2 hf
      refine lv_iconst (v := 0) hx hb dX1_has_16 (by decide) ?_
      exact j_iret I hx hb hr rfl hlk hf dX1_has_17
    · have hf := i_f c2 hf
      refine lv_iconst (v := 1) hx hb dX1_has_12 (by decide) ?_
      refine lv_goto (tgt := 17) hx hb dX1_has_13 (by decide) ?_
      exact j_iret I hx hb hr rfl hlk hf dX1_has_17

theorem iw_X7_nextPlace_X0 : ∀ w ∈ u_ws RX0 TX0 7, w ∈ wsX7_nextPlace := fun _ h => List.mem_cons_of_mem _ (List.mem_append_left _ (List.mem_append_right _ h))
theorem iw_X7_nextPlace_X7 : ∀ w ∈ u_ws RX7 TX7 8, w ∈ wsX7_nextPlace := fun _ h => List.mem_cons_of_mem _ (List.mem_append_left _ (List.mem_append_left _ (List.mem_append_right _ h)))
set_option maxHeartbeats 4000000 in
set_option maxRecDepth 100000 in
theorem bX7_nextPlace_L14 {p : Program} {l : Launch} {e : Env} {s : State} {m : MethodId} {args : Array Value} {below : List Frame} {meth : Method} {c : Code} {D : va_G} {g : Nat → Nat} {Y : YT} {bP : Nat} {σ0 : St} {res : St × Int32} (C0 : MC p s m args meth c cX7_nextPlace 5 (some .int) RX7 wsX7_nextPlace) : ∀ (n : Nat) (σ : St) (a3 : Int32) (a4 : Int32) (H : Heap) (locs : List Loc) (ls : Array Slot), fX7_nextPlace_L14 n σ a3 a4 = some res → JW D 44 g (KC g Y) Y bP (va_A (wd 44 g (KC g Y) σ0) s.heap.size) s σ H locs → lv_has ls 5 [(1, .ref (g 5)), (3, .int a3), (4, .int a4)] → W p l e (⟨1, 0, 0, 21⟩ : Room) s m args below meth c H locs 0 0 (MQ below (Qi D 44 g (KC g Y) Y σ0 res s.heap.size) args s 0 0 (va_A (wd 44 g (KC g Y) σ0) s.heap.size)) (F0 m 14 ls []) := by
  have C0 := C0
  obtain ⟨hx, hb, hr, hml, hown, hts, hlk⟩ := id C0
  intro n
  induction n with
  | zero =>
    intro σ a3 a4 H locs ls hf
    cases hf
  | succ n ih =>
    intro σ a3 a4 H locs ls hf I hl
    rw [fX7_nextPlace_L14] at hf
    refine lv_iload hx hb dX7_nextPlace_14 (lv_at hl 2 rfl) ?_
    refine lv_iload_n hx hb dX7_nextPlace_16 rfl (lv_at hl 1 rfl) ?_
    refine lv_icmp_ge (tgt := 44) hx hb dX7_nextPlace_17 (by decide) (fun c4 => ?_) (fun c4 => ?_)
    · have hf := i_t c4 hf
      refine lv_bipush (v := 24) hx hb dX7_nextPlace_44 (by decide) ?_
      exact j_iret I hx hb hr rfl hlk hf dX7_nextPlace_46
    · have hf := i_f c4 hf
      refine lv_aload_n hx hb dX7_nextPlace_20 rfl (lv_at hl 0 rfl) ?_
      refine j_getN I hx hb hts iw_X7_nextPlace_X0 hown 5 (by decide) (kc5 g Y _) rfl 0 (by decide) (by decide +kernel) rfl dX7_nextPlace_21 ?_
      refine lv_iload hx hb dX7_nextPlace_24 (lv_at hl 2 rfl) ?_
      refine lv_bipush (v := 6) hx hb dX7_nextPlace_26 (by decide) ?_
      refine lv_irem hx hb dX7_nextPlace_28 (by decide) ?_
      obtain ⟨σ5, r6, h7, hf⟩ := o_obn hf
      refine j_iV (rest := []) I ⟨hx, hb, hml, hown, hts⟩ (ct_X1_has σ (a4 - a4 / 6 * 6) _ h7) (cwV 1 hts gX7_nextPlace_X1_has rfl rfl rfl (by decide +kernel) ⟨Nat.le_of_ble_eq_true rfl, Nat.le_of_ble_eq_true rfl⟩) (by decide) (kc1 g Y _) rfl rfl hl.1 rfl (Nat.le_of_ble_eq_true rfl) dX7_nextPlace_29 ⟨Nat.zero_le _, Nat.zero_le _⟩ (fun H locs I => ?_)
      refine lv_if_eq (tgt := 38) hx hb dX7_nextPlace_32 (by decide) (fun c8 => ?_) (fun c8 => ?_)
      · have hf := i_t c8 hf
        refine lv_iinc (v := (a4 + 1)) (lv' := [(4, .int (a4 + 1)), (1, .ref (g 5)), (3, .int a3)]) hx hb dX7_nextPlace_38 hl (k := 2) rfl rfl (by decide) rfl (fun ls hl => ?_)
        refine lv_goto (tgt := 14) hx hb dX7_nextPlace_41 (by decide) ?_
        exact ih σ5 a3 (a4 + 1) _ _ _ hf I (lv_sub hl [1, 2, 0] rfl)
      · have hf := i_f c8 hf
        refine lv_iload hx hb dX7_nextPlace_35 (lv_at hl 2 rfl) ?_
        exact j_iret I hx hb hr rfl hlk hf dX7_nextPlace_37
set_option maxHeartbeats 4000000 in
set_option maxRecDepth 100000 in
theorem ct_X7_nextPlace {l : Launch} {D : va_G} {g : Nat → Nat} {Y : YT} {bP : Nat} (σ : St) (p1 : Int32) (res : St × Int32) (hf : fX7_nextPlace σ p1 = some res) : Ci l yX7_nextPlace wsX7_nextPlace ⟨1, 0, 0, 21⟩ D 44 g (KC g Y) Y bP [.ref (g 6), .ref (g 5), .int p1] σ res := by
  intro sz
  refine Met.ofW (cc := cX7_nextPlace) (maxL := 5) (ret := (some .int)) (by decide) rfl ?_
  intro p e s m args below meth c s₁ B hml hv
  obtain ⟨rfl, rfl, I⟩ := j_start hv
  have C0 : MC p s m _ meth c cX7_nextPlace 5 (some .int) RX7 wsX7_nextPlace := ⟨B.exec, B.bytes, B.returns, hml, findClass_of_methodNamed B.named, atoms_spec (ws := wsX7_nextPlace) B.pre, B.notSynchronized⟩
  obtain ⟨hx, hb, hr, hml, hown, hts, hlk⟩ := id C0
  have hl := lv_entry ([.ref (g 6), .ref (g 5), .int p1]) (n := 5) (Nat.le_of_ble_eq_true rfl)
  rw [lg_entry_eq]
  generalize (lg_sl ([.ref (g 6), .ref (g 5), .int p1]) ++ List.replicate (5 - (lg_sl ([.ref (g 6), .ref (g 5), .int p1])).length) Slot.unset).toArray = ls at hl ⊢
  have hl : lv_has ls 5 [(0, .ref (g 6)), (1, .ref (g 5)), (2, .int p1)] := hl
  rw [fX7_nextPlace] at hf
  refine lv_aload_n hx hb dX7_nextPlace_0 rfl (lv_at hl 0 rfl) ?_
  refine j_get I hx hb hts iw_X7_nextPlace_X7 hown 6 (by decide) (kc6 g Y _) rfl 3 (by decide) (hts (.fieldLink RX7 21 "ReelNight$Search" "lastWeek" "I") (by decide +kernel)) rfl dX7_nextPlace_1 ?_
  refine lv_iconst (v := 1) hx hb dX7_nextPlace_4 (by decide) ?_
  refine lv_iadd hx hb dX7_nextPlace_5 ?_
  refine lv_iconst (v := 0) hx hb dX7_nextPlace_6 (by decide) ?_
  obtain ⟨σ1, r2, h3, hf⟩ := o_obn hf
  refine j_iSN (rest := []) I ⟨hx, hb, hml, hown, hts⟩ (ct_X9_place σ ((σ 6 3) + 1) 0 _ h3) ⟨va_cnB 2 hts gX7_nextPlace_X9_place_n79 rfl rfl rfl (nM I.2.2.2.2.2.1 (own := RX7) (index := 79) (y := yX9_place) (host := "ReelNight") (by decide +kernel)) (hts (.initialized RX9) (by decide +kernel)) (by decide +kernel) ⟨Nat.le_of_ble_eq_true rfl, Nat.le_of_ble_eq_true rfl⟩, hts (.static yX9_place) (by decide +kernel), trivial⟩ rfl hl.1 rfl (Nat.le_of_ble_eq_true rfl) dX7_nextPlace_7 ⟨Nat.zero_le _, Nat.zero_le _⟩ (fun H locs I => ?_)
  refine lv_istore_n (lv' := [(3, .int r2), (0, .ref (g 6)), (1, .ref (g 5)), (2, .int p1)]) hx hb dX7_nextPlace_10 rfl hl (by decide) rfl (fun ls hl => ?_)
  refine lv_iload_n hx hb dX7_nextPlace_11 rfl (lv_at hl 3 rfl) ?_
  refine lv_istore (lv' := [(4, .int p1), (3, .int r2), (0, .ref (g 6)), (1, .ref (g 5)), (2, .int p1)]) hx hb dX7_nextPlace_12 hl (by decide) rfl (fun ls hl => ?_)
  refine bX7_nextPlace_L14 C0 50 σ1 r2 p1 _ _ _ hf I (lv_sub hl [3, 1, 0] rfl)

theorem iw_X7_keepIfBetter_X7 : ∀ w ∈ u_ws RX7 TX7 8, w ∈ wsX7_keepIfBetter := by decide +kernel
set_option maxHeartbeats 4000000 in
set_option maxRecDepth 100000 in
theorem ct_X7_keepIfBetter {l : Launch} {D : va_G} {g : Nat → Nat} {Y : YT} {bP : Nat} (σ : St) (res : St × Int32) (hf : fX7_keepIfBetter σ = some res) : Cv l yX7_keepIfBetter wsX7_keepIfBetter ⟨1, 0, 0, 60⟩ D 44 g (KC g Y) Y bP [.ref (g 6)] σ res := by
  intro sz
  refine Met.ofW (cc := cX7_keepIfBetter) (maxL := 1) (ret := none) (by decide) rfl ?_
  intro p e s m args below meth c s₁ B hml hv
  obtain ⟨rfl, rfl, I⟩ := j_start hv
  have C0 : MC p s m _ meth c cX7_keepIfBetter 1 none RX7 wsX7_keepIfBetter := ⟨B.exec, B.bytes, B.returns, hml, findClass_of_methodNamed B.named, atoms_spec (ws := wsX7_keepIfBetter) B.pre, B.notSynchronized⟩
  obtain ⟨hx, hb, hr, hml, hown, hts, hlk⟩ := id C0
  have hl := lv_entry ([.ref (g 6)]) (n := 1) (Nat.le_of_ble_eq_true rfl)
  rw [lg_entry_eq]
  generalize (lg_sl ([.ref (g 6)]) ++ List.replicate (1 - (lg_sl ([.ref (g 6)])).length) Slot.unset).toArray = ls at hl ⊢
  have hl : lv_has ls 1 [(0, .ref (g 6))] := hl
  rw [fX7_keepIfBetter] at hf
  refine lv_aload_n hx hb dX7_keepIfBetter_0 rfl (lv_at hl 0 rfl) ?_
  refine j_get I hx hb hts iw_X7_keepIfBetter_X7 hown 6 (by decide) (kc6 g Y _) rfl 6 (by decide) (hts (.fieldLink RX7 32 "ReelNight$Search" "sum" "I") (by decide +kernel)) rfl dX7_keepIfBetter_1 ?_
  refine lv_aload_n hx hb dX7_keepIfBetter_4 rfl (lv_at hl 0 rfl) ?_
  refine j_get I hx hb hts iw_X7_keepIfBetter_X7 hown 6 (by decide) (kc6 g Y _) rfl 7 (by decide) (hts (.fieldLink RX7 35 "ReelNight$Search" "bestSum" "I") (by decide +kernel)) rfl dX7_keepIfBetter_5 ?_
  refine lv_icmp_le (tgt := 34) hx hb dX7_keepIfBetter_8 (by decide) (fun c1 => ?_) (fun c1 => ?_)
  · have hf := i_t c1 hf
    exact j_vret I hx hb hr hlk hf dX7_keepIfBetter_34
  · have hf := i_f c1 hf
    refine lv_aload_n hx hb dX7_keepIfBetter_11 rfl (lv_at hl 0 rfl) ?_
    refine lv_aload_n hx hb dX7_keepIfBetter_12 rfl (lv_at hl 0 rfl) ?_
    refine j_get I hx hb hts iw_X7_keepIfBetter_X7 hown 6 (by decide) (kc6 g Y _) rfl 6 (by decide) (hts (.fieldLink RX7 32 "ReelNight$Search" "sum" "I") (by decide +kernel)) rfl dX7_keepIfBetter_13 ?_
    obtain ⟨σ2, eσ2, hf⟩ := o_stp hf
    refine j_put I hx hb hts iw_X7_keepIfBetter_X7 tyX7 tyX7_ok nmX7 hown 6 (by decide) (kc6 g Y _) rfl 7 (by decide) (hts (.fieldLink RX7 35 "ReelNight$Search" "bestSum" "I") (by decide +kernel)) rfl rfl rfl (Nat.le_of_ble_eq_true rfl) (kcs6_7 g Y _ _) eσ2 dX7_keepIfBetter_16 (fun H locs I => ?_)
    refine lv_aload_n hx hb dX7_keepIfBetter_19 rfl (lv_at hl 0 rfl) ?_
    refine j_get I hx hb hts iw_X7_keepIfBetter_X7 hown 6 (by decide) (kc6 g Y _) rfl 0 (by decide) (hts (.fieldLink RX7 9 "ReelNight$Search" "trial" "[I") (by decide +kernel)) rfl dX7_keepIfBetter_20 ?_
    refine lv_iconst (v := 0) hx hb dX7_keepIfBetter_23 (by decide) ?_
    refine lv_aload_n hx hb dX7_keepIfBetter_24 rfl (lv_at hl 0 rfl) ?_
    refine j_get I hx hb hts iw_X7_keepIfBetter_X7 hown 6 (by decide) (kc6 g Y _) rfl 1 (by decide) (hts (.fieldLink RX7 15 "ReelNight$Search" "best" "[I") (by decide +kernel)) rfl dX7_keepIfBetter_25 ?_
    refine lv_iconst (v := 0) hx hb dX7_keepIfBetter_28 (by decide) ?_
    refine lv_bipush (v := 24) hx hb dX7_keepIfBetter_29 (by decide) ?_
    obtain ⟨σ3, eσ3, hf⟩ := o_stp hf
    refine j_copy I hx hb (hml.trans hl.1.symm) hown (hts (.methodLink RX7 92 arraycopyName) (by decide +kernel)) (hts (.native arraycopyName) (by decide +kernel)) (hts (.static arraycopyName) (by decide +kernel)) (hts (.initialized "java/lang/System") (by decide +kernel)) 37 38 0 (by decide) (by decide) (kc37 g Y) (kc38 g Y) rfl rfl (by decide) (by decide) (by decide) (by decide) (by decide) (fun _ _ => rfl) (Nat.le_of_ble_eq_true rfl) (Nat.le_of_ble_eq_true rfl) dX7_keepIfBetter_31 eσ3 (fun H locs I => ?_)
    exact j_vret I hx hb hr hlk hf dX7_keepIfBetter_34

theorem iw_X3_between_X3 : ∀ w ∈ u_ws RX3 TX3 1, w ∈ wsX3_between := by decide +kernel
set_option maxHeartbeats 4000000 in
set_option maxRecDepth 100000 in
theorem ct_X3_between_10 {l : Launch} {D : va_G} {g : Nat → Nat} {Y : YT} {bP : Nat} (σ : St) (p0 : Int32) (p1 : Int32) (res : St × Int32) (hf : fX3_between_10 σ p0 p1 = some res) : Ci l yX3_between wsX3_between ⟨0, 0, 0, 0⟩ D 44 g (KC g Y) Y bP [.ref (g 10), .int p0, .int p1] σ res := by
  intro sz
  refine Met.ofW (cc := cX3_between) (maxL := 3) (ret := (some .int)) (by decide) rfl ?_
  intro p e s m args below meth c s₁ B hml hv
  obtain ⟨rfl, rfl, I⟩ := j_start hv
  have C0 : MC p s m _ meth c cX3_between 3 (some .int) RX3 wsX3_between := ⟨B.exec, B.bytes, B.returns, hml, findClass_of_methodNamed B.named, atoms_spec (ws := wsX3_between) B.pre, B.notSynchronized⟩
  obtain ⟨hx, hb, hr, hml, hown, hts, hlk⟩ := id C0
  have hl := lv_entry ([.ref (g 10), .int p0, .int p1]) (n := 3) (Nat.le_of_ble_eq_true rfl)
  rw [lg_entry_eq]
  generalize (lg_sl ([.ref (g 10), .int p0, .int p1]) ++ List.replicate (3 - (lg_sl ([.ref (g 10), .int p0, .int p1])).length) Slot.unset).toArray = ls at hl ⊢
  have hl : lv_has ls 3 [(0, .ref (g 10)), (1, .int p0), (2, .int p1)] := hl
  rw [fX3_between_10] at hf
  refine lv_aload_n hx hb dX3_between_0 rfl (lv_at hl 0 rfl) ?_
  refine j_get I hx hb hts iw_X3_between_X3 hown 10 (by decide) (kc10 g Y _) rfl 0 (by decide) (hts (.fieldLink RX3 9 "ReelNight$Pairs" "values" "[I") (by decide +kernel)) rfl dX3_between_1 ?_
  refine lv_iload_n hx hb dX3_between_4 rfl (lv_at hl 1 rfl) ?_
  refine lv_bipush (v := 6) hx hb dX3_between_5 (by decide) ?_
  refine lv_imul hx hb dX3_between_7 ?_
  refine lv_iload_n hx hb dX3_between_8 rfl (lv_at hl 2 rfl) ?_
  refine lv_iadd hx hb dX3_between_9 ?_
  obtain ⟨b1, hf⟩ := o_nb hf
  refine j_ald I hx hb 16 (by decide) (kc16 g Y _) b1 dX3_between_10 ?_
  exact j_iret I hx hb hr rfl hlk hf dX3_between_11

set_option maxHeartbeats 4000000 in
set_option maxRecDepth 100000 in
theorem ct_X3_between_11 {l : Launch} {D : va_G} {g : Nat → Nat} {Y : YT} {bP : Nat} (σ : St) (p0 : Int32) (p1 : Int32) (res : St × Int32) (hf : fX3_between_11 σ p0 p1 = some res) : Ci l yX3_between wsX3_between ⟨0, 0, 0, 0⟩ D 44 g (KC g Y) Y bP [.ref (g 11), .int p0, .int p1] σ res := by
  intro sz
  refine Met.ofW (cc := cX3_between) (maxL := 3) (ret := (some .int)) (by decide) rfl ?_
  intro p e s m args below meth c s₁ B hml hv
  obtain ⟨rfl, rfl, I⟩ := j_start hv
  have C0 : MC p s m _ meth c cX3_between 3 (some .int) RX3 wsX3_between := ⟨B.exec, B.bytes, B.returns, hml, findClass_of_methodNamed B.named, atoms_spec (ws := wsX3_between) B.pre, B.notSynchronized⟩
  obtain ⟨hx, hb, hr, hml, hown, hts, hlk⟩ := id C0
  have hl := lv_entry ([.ref (g 11), .int p0, .int p1]) (n := 3) (Nat.le_of_ble_eq_true rfl)
  rw [lg_entry_eq]
  generalize (lg_sl ([.ref (g 11), .int p0, .int p1]) ++ List.replicate (3 - (lg_sl ([.ref (g 11), .int p0, .int p1])).length) Slot.unset).toArray = ls at hl ⊢
  have hl : lv_has ls 3 [(0, .ref (g 11)), (1, .int p0), (2, .int p1)] := hl
  rw [fX3_between_11] at hf
  refine lv_aload_n hx hb dX3_between_0 rfl (lv_at hl 0 rfl) ?_
  refine j_get I hx hb hts iw_X3_between_X3 hown 11 (by decide) (kc11 g Y _) rfl 0 (by decide) (hts (.fieldLink RX3 9 "ReelNight$Pairs" "values" "[I") (by decide +kernel)) rfl dX3_between_1 ?_
  refine lv_iload_n hx hb dX3_between_4 rfl (lv_at hl 1 rfl) ?_
  refine lv_bipush (v := 6) hx hb dX3_between_5 (by decide) ?_
  refine lv_imul hx hb dX3_between_7 ?_
  refine lv_iload_n hx hb dX3_between_8 rfl (lv_at hl 2 rfl) ?_
  refine lv_iadd hx hb dX3_between_9 ?_
  obtain ⟨b1, hf⟩ := o_nb hf
  refine j_ald I hx hb 33 (by decide) (kc33 g Y _) b1 dX3_between_10 ?_
  exact j_iret I hx hb hr rfl hlk hf dX3_between_11

theorem iw_X0_mayBe_X0 : ∀ w ∈ u_ws RX0 TX0 7, w ∈ wsX0_mayBe := by decide +kernel
theorem iw_X0_mayBe_X1 : ∀ w ∈ u_ws RX1 TX1 6, w ∈ wsX0_mayBe := by decide +kernel
set_option maxHeartbeats 4000000 in
set_option maxRecDepth 100000 in
theorem bX0_mayBe_L30 {p : Program} {l : Launch} {e : Env} {s : State} {m : MethodId} {args : Array Value} {below : List Frame} {meth : Method} {c : Code} {D : va_G} {g : Nat → Nat} {Y : YT} {bP : Nat} {σ0 : St} {res : St × Int32} (C0 : MC p s m args meth c cX0_mayBe 9 (some .boolean) RX0 wsX0_mayBe) : ∀ (n : Nat) (σ : St) (a1 : Int32) (a2 : Int32) (a3 : Int32) (a6 : Int32) (H : Heap) (locs : List Loc) (ls : Array Slot), fX0_mayBe_L30 n σ a1 a2 a3 a6 = some res → JW D 44 g (KC g Y) Y bP (va_A (wd 44 g (KC g Y) σ0) s.heap.size) s σ H locs → lv_has ls 9 [(0, .ref (g 5)), (1, .int a1), (2, .int a2), (3, .int a3), (4, .ref (g 39)), (6, .int a6)] → W p l e (⟨1, 0, 0, 22⟩ : Room) s m args below meth c H locs 0 0 (MQ below (Qi D 44 g (KC g Y) Y σ0 res s.heap.size) args s 0 0 (va_A (wd 44 g (KC g Y) σ0) s.heap.size)) (F0 m 30 ls []) := by
  have C0 := C0
  obtain ⟨hx, hb, hr, hml, hown, hts, hlk⟩ := id C0
  intro n
  induction n with
  | zero =>
    intro σ a1 a2 a3 a6 H locs ls hf
    cases hf
  | succ n ih =>
    intro σ a1 a2 a3 a6 H locs ls hf I hl
    rw [fX0_mayBe_L30] at hf
    refine lv_iload hx hb dX0_mayBe_30 (lv_at hl 5 rfl) ?_
    refine lv_aload_n hx hb dX0_mayBe_32 rfl (lv_at hl 0 rfl) ?_
    refine j_get I hx hb hts iw_X0_mayBe_X0 hown 5 (by decide) (kc5 g Y _) rfl 0 (by decide) (hts (.fieldLink RX0 34 "ReelNight$Bookings" "houses" "LReelNight$Houses;") (by decide +kernel)) rfl dX0_mayBe_33 ?_
    refine j_getN I hx hb hts iw_X0_mayBe_X1 hown 1 (by decide) (kc1 g Y _) rfl 5 (by decide) (by decide +kernel) rfl dX0_mayBe_36 ?_
    refine lv_icmp_ge (tgt := 94) hx hb dX0_mayBe_39 (by decide) (fun c7 => ?_) (fun c7 => ?_)
    · have hf := i_t c7 hf
      refine lv_iconst (v := 1) hx hb dX0_mayBe_94 (by decide) ?_
      exact j_iret I hx hb hr rfl hlk hf dX0_mayBe_95
    · have hf := i_f c7 hf
      refine lv_aload_n hx hb dX0_mayBe_42 rfl (lv_at hl 0 rfl) ?_
      refine j_get I hx hb hts iw_X0_mayBe_X0 hown 5 (by decide) (kc5 g Y _) rfl 1 (by decide) (hts (.fieldLink RX0 14 "ReelNight$Bookings" "bars" "LReelNight$Pairs;") (by decide +kernel)) rfl dX0_mayBe_43 ?_
      refine lv_iload_n hx hb dX0_mayBe_46 rfl (lv_at hl 2 rfl) ?_
      refine lv_iload hx hb dX0_mayBe_47 (lv_at hl 5 rfl) ?_
      obtain ⟨σ8, r9, h10, hf⟩ := o_obn hf
      refine j_iV (rest := []) I ⟨hx, hb, hml, hown, hts⟩ (ct_X3_between_11 σ a2 a6 _ h10) (cwV 2 hts gX0_mayBe_X3_between rfl rfl rfl (by decide +kernel) ⟨Nat.le_of_ble_eq_true rfl, Nat.le_of_ble_eq_true rfl⟩) (by decide) (kc11 g Y _) rfl rfl hl.1 rfl (Nat.le_of_ble_eq_true rfl) dX0_mayBe_49 ⟨Nat.zero_le _, Nat.zero_le _⟩ (fun H locs I => ?_)
      refine lv_istore (lv' := [(7, .int r9), (0, .ref (g 5)), (1, .int a1), (2, .int a2), (3, .int a3), (4, .ref (g 39)), (6, .int a6)]) hx hb dX0_mayBe_52 hl (by decide) rfl (fun ls hl => ?_)
      refine lv_aload hx hb dX0_mayBe_54 (lv_at hl 5 rfl) ?_
      refine lv_iload_n hx hb dX0_mayBe_56 rfl (lv_at hl 2 rfl) ?_
      refine lv_iload hx hb dX0_mayBe_57 (lv_at hl 6 rfl) ?_
      obtain ⟨σ11, r12, h13, hf⟩ := o_obn hf
      refine j_iS (rest := [.ref (g 39)]) I ⟨hx, hb, hml, hown, hts⟩ (ct_X0_cell σ8 a1 a6 _ h13) (va_cwS 2 hts gX0_mayBe_X0_cell rfl rfl rfl (by decide +kernel) ⟨Nat.le_of_ble_eq_true rfl, Nat.le_of_ble_eq_true rfl⟩) rfl hl.1 rfl (Nat.le_of_ble_eq_true rfl) dX0_mayBe_59 ⟨Nat.zero_le _, Nat.zero_le _⟩ (fun H locs I => ?_)
      obtain ⟨b14, hf⟩ := o_nb hf
      refine j_ald I hx hb 39 (by decide) (kc39 g Y _) b14 dX0_mayBe_62 ?_
      refine lv_iconst (v := 0) hx hb dX0_mayBe_63 (by decide) ?_
      refine lv_iload_n hx hb dX0_mayBe_64 rfl (lv_at hl 4 rfl) ?_
      refine lv_iload hx hb dX0_mayBe_65 (lv_at hl 0 rfl) ?_
      refine lv_isub hx hb dX0_mayBe_67 ?_
      refine lv_iconst (v := 1) hx hb dX0_mayBe_68 (by decide) ?_
      refine lv_iadd hx hb dX0_mayBe_69 ?_
      refine va_mmax hx hb (hml.trans hl.1.symm) hown (hts (.methodLink RX0 90 Lib.Math.max.name) (by decide +kernel)) (hts (.static Lib.Math.max.name) (by decide +kernel)) (hts (.initialized "java/lang/Math") (by decide +kernel)) (hts (.code Lib.Math.max.name Lib.Math.max.code 2 (some .int)) (by decide +kernel)) (Nat.le_of_ble_eq_true rfl) (Nat.le_of_ble_eq_true rfl) (Nat.zero_le _) (Nat.zero_le _) dX0_mayBe_70 ?_
      refine lv_ishr hx hb dX0_mayBe_73 ?_
      obtain ⟨v15, ev15, hf⟩ := o_itp hf
      refine top_eq ev15 ?_
      refine lv_istore (lv' := [(8, .int v15), (7, .int r9), (0, .ref (g 5)), (1, .int a1), (2, .int a2), (3, .int a3), (4, .ref (g 39)), (6, .int a6)]) hx hb dX0_mayBe_74 hl (by decide) rfl (fun ls hl => ?_)
      refine lv_iload hx hb dX0_mayBe_76 (lv_at hl 1 rfl) ?_
      refine lv_if_le (tgt := 88) hx hb dX0_mayBe_78 (by decide) (fun c16 => ?_) (fun c16 => ?_)
      · have hf := i_t c16 hf
        refine lv_iinc (v := (a6 + 1)) (lv' := [(6, .int (a6 + 1)), (8, .int v15), (7, .int r9), (0, .ref (g 5)), (1, .int a1), (2, .int a2), (3, .int a3), (4, .ref (g 39))]) hx hb dX0_mayBe_88 hl (k := 7) rfl rfl (by decide) rfl (fun ls hl => ?_)
        refine lv_goto (tgt := 30) hx hb dX0_mayBe_91 (by decide) ?_
        exact ih σ11 a1 a2 a3 (a6 + 1) _ _ _ hf I (lv_sub hl [3, 4, 5, 6, 7, 0] rfl)
      · have hf := i_f c16 hf
        refine lv_iload hx hb dX0_mayBe_81 (lv_at hl 0 rfl) ?_
        refine lv_if_eq (tgt := 88) hx hb dX0_mayBe_83 (by decide) (fun c17 => ?_) (fun c17 => ?_)
        · have hf := i_t c17 hf
          refine lv_iinc (v := (a6 + 1)) (lv' := [(6, .int (a6 + 1)), (8, .int v15), (7, .int r9), (0, .ref (g 5)), (1, .int a1), (2, .int a2), (3, .int a3), (4, .ref (g 39))]) hx hb dX0_mayBe_88 hl (k := 7) rfl rfl (by decide) rfl (fun ls hl => ?_)
          refine lv_goto (tgt := 30) hx hb dX0_mayBe_91 (by decide) ?_
          exact ih σ11 a1 a2 a3 (a6 + 1) _ _ _ hf I (lv_sub hl [3, 4, 5, 6, 7, 0] rfl)
        · have hf := i_f c17 hf
          refine lv_iconst (v := 0) hx hb dX0_mayBe_86 (by decide) ?_
          exact j_iret I hx hb hr rfl hlk hf dX0_mayBe_87
set_option maxHeartbeats 4000000 in
set_option maxRecDepth 100000 in
theorem ct_X0_mayBe {l : Launch} {D : va_G} {g : Nat → Nat} {Y : YT} {bP : Nat} (σ : St) (p0 : Int32) (p1 : Int32) (p2 : Int32) (res : St × Int32) (hf : fX0_mayBe σ p0 p1 p2 = some res) : Ci l yX0_mayBe wsX0_mayBe ⟨1, 0, 0, 22⟩ D 44 g (KC g Y) Y bP [.ref (g 5), .int p0, .int p1, .int p2, .ref (g 39)] σ res := by
  intro sz
  refine Met.ofW (cc := cX0_mayBe) (maxL := 9) (ret := (some .boolean)) (by decide) rfl ?_
  intro p e s m args below meth c s₁ B hml hv
  obtain ⟨rfl, rfl, I⟩ := j_start hv
  have C0 : MC p s m _ meth c cX0_mayBe 9 (some .boolean) RX0 wsX0_mayBe := ⟨B.exec, B.bytes, B.returns, hml, findClass_of_methodNamed B.named, atoms_spec (ws := wsX0_mayBe) B.pre, B.notSynchronized⟩
  obtain ⟨hx, hb, hr, hml, hown, hts, hlk⟩ := id C0
  have hl := lv_entry ([.ref (g 5), .int p0, .int p1, .int p2, .ref (g 39)]) (n := 9) (Nat.le_of_ble_eq_true rfl)
  rw [lg_entry_eq]
  generalize (lg_sl ([.ref (g 5), .int p0, .int p1, .int p2, .ref (g 39)]) ++ List.replicate (9 - (lg_sl ([.ref (g 5), .int p0, .int p1, .int p2, .ref (g 39)])).length) Slot.unset).toArray = ls at hl ⊢
  have hl : lv_has ls 9 [(0, .ref (g 5)), (1, .int p0), (2, .int p1), (3, .int p2), (4, .ref (g 39))] := hl
  rw [fX0_mayBe] at hf
  refine lv_aload hx hb dX0_mayBe_0 (lv_at hl 4 rfl) ?_
  refine lv_iload_n hx hb dX0_mayBe_2 rfl (lv_at hl 1 rfl) ?_
  refine lv_iload_n hx hb dX0_mayBe_3 rfl (lv_at hl 2 rfl) ?_
  obtain ⟨σ1, r2, h3, hf⟩ := o_obn hf
  refine j_iS (rest := [.ref (g 39)]) I ⟨hx, hb, hml, hown, hts⟩ (ct_X0_cell σ p0 p1 _ h3) (va_cwS 2 hts gX0_mayBe_X0_cell rfl rfl rfl (by decide +kernel) ⟨Nat.le_of_ble_eq_true rfl, Nat.le_of_ble_eq_true rfl⟩) rfl hl.1 rfl (Nat.le_of_ble_eq_true rfl) dX0_mayBe_4 ⟨Nat.zero_le _, Nat.zero_le _⟩ (fun H locs I => ?_)
  obtain ⟨b4, hf⟩ := o_nb hf
  refine j_ald I hx hb 39 (by decide) (kc39 g Y _) b4 dX0_mayBe_7 ?_
  obtain ⟨v5, ev5, hf⟩ := o_itp hf
  refine top_eq ev5 ?_
  refine lv_istore (lv' := [(5, .int v5), (0, .ref (g 5)), (1, .int p0), (2, .int p1), (3, .int p2), (4, .ref (g 39))]) hx hb dX0_mayBe_8 hl (by decide) rfl (fun ls hl => ?_)
  refine lv_iload hx hb dX0_mayBe_10 (lv_at hl 0 rfl) ?_
  refine lv_if_eq (tgt := 27) hx hb dX0_mayBe_12 (by decide) (fun c6 => ?_) (fun c6 => ?_)
  · have hf := i_t c6 hf
    refine lv_iconst (v := 0) hx hb dX0_mayBe_27 (by decide) ?_
    refine lv_istore (lv' := [(6, .int 0), (5, .int v5), (0, .ref (g 5)), (1, .int p0), (2, .int p1), (3, .int p2), (4, .ref (g 39))]) hx hb dX0_mayBe_28 hl (by decide) rfl (fun ls hl => ?_)
    refine bX0_mayBe_L30 C0 50 σ1 p0 p1 p2 0 _ _ _ hf I (lv_sub hl [2, 3, 4, 5, 6, 0] rfl)
  · have hf := i_f c6 hf
    refine lv_iload hx hb dX0_mayBe_15 (lv_at hl 0 rfl) ?_
    refine lv_iconst (v := 1) hx hb dX0_mayBe_17 (by decide) ?_
    refine lv_ishl hx hb dX0_mayBe_18 ?_
    refine lv_iconst (v := 1) hx hb dX0_mayBe_19 (by decide) ?_
    refine lv_iload_n hx hb dX0_mayBe_20 rfl (lv_at hl 4 rfl) ?_
    refine lv_ishl hx hb dX0_mayBe_21 ?_
    refine lv_icmp_eq (tgt := 27) hx hb dX0_mayBe_22 (by decide) (fun c18 => ?_) (fun c18 => ?_)
    · have hf := i_t c18 hf
      refine lv_iconst (v := 0) hx hb dX0_mayBe_27 (by decide) ?_
      refine lv_istore (lv' := [(6, .int 0), (5, .int v5), (0, .ref (g 5)), (1, .int p0), (2, .int p1), (3, .int p2), (4, .ref (g 39))]) hx hb dX0_mayBe_28 hl (by decide) rfl (fun ls hl => ?_)
      refine bX0_mayBe_L30 C0 50 σ1 p0 p1 p2 0 _ _ _ hf I (lv_sub hl [2, 3, 4, 5, 6, 0] rfl)
    · have hf := i_f c18 hf
      refine lv_iconst (v := 0) hx hb dX0_mayBe_25 (by decide) ?_
      exact j_iret I hx hb hr rfl hlk hf dX0_mayBe_26

theorem iw_X7_tryFilm_X0 : ∀ w ∈ u_ws RX0 TX0 7, w ∈ wsX7_tryFilm := fun _ h => List.mem_cons_of_mem _ (List.mem_append_left _ (List.mem_append_left _ (List.mem_append_left _ (List.mem_append_right _ h))))
theorem iw_X7_tryFilm_X7 : ∀ w ∈ u_ws RX7 TX7 8, w ∈ wsX7_tryFilm := fun _ h => List.mem_cons_of_mem _ (List.mem_append_left _ (List.mem_append_left _ (List.mem_append_right _ h)))
set_option maxHeartbeats 4000000 in
set_option maxRecDepth 100000 in
theorem ct_X7_tryFilm {l : Launch} {D : va_G} {g : Nat → Nat} {Y : YT} {bP : Nat} {GX7_seek : St → Int32 → Option (St × Int32)} {ra rb : Nat} (hGX7_seek : ∀ (σ : St) (x2 : Int32) (res : St × Int32), GX7_seek σ x2 = some res → Cv l yX7_seek wsX7_seek ⟨ra, 0, 0, rb⟩ D 44 g (KC g Y) Y bP [.ref (g 5), .ref (g 6), .int x2] σ res) (σ : St) (p2 : Int32) (p3 : Int32) (res : St × Int32) (hf : fX7_tryFilm GX7_seek σ p2 p3 = some res) : Cv l yX7_tryFilm wsX7_tryFilm ⟨ra + 10, 0, 0, rb + 500⟩ D 44 g (KC g Y) Y bP [.ref (g 5), .ref (g 6), .int p2, .int p3] σ res := by
  intro sz
  refine Met.ofW (cc := cX7_tryFilm) (maxL := 9) (ret := none) (by decide) rfl ?_
  intro p e s m args below meth c s₁ B hml hv
  obtain ⟨rfl, rfl, I⟩ := j_start hv
  have C0 : MC p s m _ meth c cX7_tryFilm 9 none RX7 wsX7_tryFilm := ⟨B.exec, B.bytes, B.returns, hml, findClass_of_methodNamed B.named, atoms_spec (ws := wsX7_tryFilm) B.pre, B.notSynchronized⟩
  obtain ⟨hx, hb, hr, hml, hown, hts, hlk⟩ := id C0
  have hl := lv_entry ([.ref (g 5), .ref (g 6), .int p2, .int p3]) (n := 9) (Nat.le_of_ble_eq_true rfl)
  rw [lg_entry_eq]
  generalize (lg_sl ([.ref (g 5), .ref (g 6), .int p2, .int p3]) ++ List.replicate (9 - (lg_sl ([.ref (g 5), .ref (g 6), .int p2, .int p3])).length) Slot.unset).toArray = ls at hl ⊢
  have hl : lv_has ls 9 [(0, .ref (g 5)), (1, .ref (g 6)), (2, .int p2), (3, .int p3)] := hl
  rw [fX7_tryFilm] at hf
  refine lv_iload_n hx hb dX7_tryFilm_0 rfl (lv_at hl 2 rfl) ?_
  refine lv_bipush (v := 6) hx hb dX7_tryFilm_1 (by decide) ?_
  refine lv_idiv hx hb dX7_tryFilm_3 (by decide) ?_
  obtain ⟨v1, ev1, hf⟩ := o_itp hf
  refine top_eq ev1 ?_
  refine lv_istore (lv' := [(4, .int v1), (0, .ref (g 5)), (1, .ref (g 6)), (2, .int p2), (3, .int p3)]) hx hb dX7_tryFilm_4 hl (by decide) rfl (fun ls hl => ?_)
  refine lv_iload_n hx hb dX7_tryFilm_6 rfl (lv_at hl 3 rfl) ?_
  refine lv_bipush (v := 6) hx hb dX7_tryFilm_7 (by decide) ?_
  refine lv_irem hx hb dX7_tryFilm_9 (by decide) ?_
  obtain ⟨v2, ev2, hf⟩ := o_itp hf
  refine top_eq ev2 ?_
  refine lv_istore (lv' := [(5, .int v2), (4, .int v1), (0, .ref (g 5)), (1, .ref (g 6)), (2, .int p2), (3, .int p3)]) hx hb dX7_tryFilm_10 hl (by decide) rfl (fun ls hl => ?_)
  refine lv_aload_n hx hb dX7_tryFilm_12 rfl (lv_at hl 2 rfl) ?_
  refine lv_iload_n hx hb dX7_tryFilm_13 rfl (lv_at hl 5 rfl) ?_
  refine lv_iload hx hb dX7_tryFilm_14 (lv_at hl 0 rfl) ?_
  refine lv_iload hx hb dX7_tryFilm_16 (lv_at hl 1 rfl) ?_
  refine lv_aload_n hx hb dX7_tryFilm_18 rfl (lv_at hl 3 rfl) ?_
  refine j_get I hx hb hts iw_X7_tryFilm_X7 hown 6 (by decide) (kc6 g Y _) rfl 2 (by decide) (hts (.fieldLink RX7 18 "ReelNight$Search" "weeksAt" "[I") (by decide +kernel)) rfl dX7_tryFilm_19 ?_
  obtain ⟨σ3, r4, h5, hf⟩ := o_obn hf
  refine j_iV (rest := []) I ⟨hx, hb, hml, hown, hts⟩ (ct_X0_mayBe σ p3 v2 v1 _ h5) (cwV 4 hts gX7_tryFilm_X0_mayBe rfl rfl rfl (by decide +kernel) ⟨by dsimp only [headSpec]; omega, by dsimp only [headSpec]; omega⟩) (by decide) (kc5 g Y _) rfl rfl hl.1 rfl (Nat.le_of_ble_eq_true rfl) dX7_tryFilm_22 ⟨Nat.zero_le _, Nat.zero_le _⟩ (fun H locs I => ?_)
  refine lv_if_ne (tgt := 29) hx hb dX7_tryFilm_25 (by decide) (fun c6 => ?_) (fun c6 => ?_)
  · have hf := i_f c6 hf
    refine lv_aload_n hx hb dX7_tryFilm_29 rfl (lv_at hl 3 rfl) ?_
    refine j_get I hx hb hts iw_X7_tryFilm_X7 hown 6 (by decide) (kc6 g Y _) rfl 4 (by decide) (hts (.fieldLink RX7 25 "ReelNight$Search" "triesLeft" "I") (by decide +kernel)) rfl dX7_tryFilm_30 ?_
    refine lv_if_ne (tgt := 42) hx hb dX7_tryFilm_33 (by decide) (fun c7 => ?_) (fun c7 => ?_)
    · have hf := i_f c7 hf
      refine lv_aload_n hx hb dX7_tryFilm_42 rfl (lv_at hl 3 rfl) ?_
      refine lv_dup hx hb dX7_tryFilm_43 rfl ?_
      refine j_get I hx hb hts iw_X7_tryFilm_X7 hown 6 (by decide) (kc6 g Y _) rfl 4 (by decide) (hts (.fieldLink RX7 25 "ReelNight$Search" "triesLeft" "I") (by decide +kernel)) rfl dX7_tryFilm_44 ?_
      refine lv_iconst (v := 1) hx hb dX7_tryFilm_47 (by decide) ?_
      refine lv_isub hx hb dX7_tryFilm_48 ?_
      obtain ⟨σ8, eσ8, hf⟩ := o_stp hf
      refine j_put I hx hb hts iw_X7_tryFilm_X7 tyX7 tyX7_ok nmX7 hown 6 (by decide) (kc6 g Y _) rfl 4 (by decide) (hts (.fieldLink RX7 25 "ReelNight$Search" "triesLeft" "I") (by decide +kernel)) rfl rfl rfl (Nat.le_of_ble_eq_true rfl) (kcs6_4 g Y _ _) eσ8 dX7_tryFilm_49 (fun H locs I => ?_)
      refine lv_iload_n hx hb dX7_tryFilm_52 rfl (lv_at hl 5 rfl) ?_
      refine lv_iload hx hb dX7_tryFilm_53 (lv_at hl 0 rfl) ?_
      obtain ⟨σ9, r10, h11, hf⟩ := o_obn hf
      refine j_iS (rest := []) I ⟨hx, hb, hml, hown, hts⟩ (ct_X0_cell σ8 p3 v2 _ h11) (va_cwS 2 hts gX7_tryFilm_X0_cell rfl rfl rfl (by decide +kernel) ⟨by dsimp only [headSpec]; omega, by dsimp only [headSpec]; omega⟩) rfl hl.1 rfl (Nat.le_of_ble_eq_true rfl) dX7_tryFilm_55 ⟨Nat.zero_le _, Nat.zero_le _⟩ (fun H locs I => ?_)
      refine lv_istore (lv' := [(6, .int r10), (5, .int v2), (4, .int v1), (0, .ref (g 5)), (1, .ref (g 6)), (2, .int p2), (3, .int p3)]) hx hb dX7_tryFilm_58 hl (by decide) rfl (fun ls hl => ?_)
      refine lv_aload_n hx hb dX7_tryFilm_60 rfl (lv_at hl 4 rfl) ?_
      refine j_get I hx hb hts iw_X7_tryFilm_X7 hown 6 (by decide) (kc6 g Y _) rfl 2 (by decide) (hts (.fieldLink RX7 18 "ReelNight$Search" "weeksAt" "[I") (by decide +kernel)) rfl dX7_tryFilm_61 ?_
      refine lv_iload hx hb dX7_tryFilm_64 (lv_at hl 0 rfl) ?_
      obtain ⟨b12, hf⟩ := o_nb hf
      refine j_ald I hx hb 39 (by decide) (kc39 g Y _) b12 dX7_tryFilm_66 ?_
      obtain ⟨v13, ev13, hf⟩ := o_itp hf
      refine top_eq ev13 ?_
      refine lv_istore (lv' := [(7, .int v13), (6, .int r10), (5, .int v2), (4, .int v1), (0, .ref (g 5)), (1, .ref (g 6)), (2, .int p2), (3, .int p3)]) hx hb dX7_tryFilm_67 hl (by decide) rfl (fun ls hl => ?_)
      refine lv_iload hx hb dX7_tryFilm_69 (lv_at hl 0 rfl) ?_
      refine lv_if_ne (tgt := 84) hx hb dX7_tryFilm_71 (by decide) (fun c14 => ?_) (fun c14 => ?_)
      · have hf := i_f c14 hf
        refine lv_aload_n hx hb dX7_tryFilm_84 rfl (lv_at hl 4 rfl) ?_
        refine j_getN I hx hb hts iw_X7_tryFilm_X0 hown 5 (by decide) (kc5 g Y _) rfl 2 (by decide) (by decide +kernel) rfl dX7_tryFilm_85 ?_
        refine lv_iload hx hb dX7_tryFilm_88 (lv_at hl 1 rfl) ?_
        obtain ⟨b15, hf⟩ := o_nb hf
        refine j_ald I hx hb 34 (by decide) (kc34 g Y _) b15 dX7_tryFilm_90 ?_
        refine lv_iconst (v := 2) hx hb dX7_tryFilm_91 (by decide) ?_
        refine lv_idiv hx hb dX7_tryFilm_92 (by decide) ?_
        obtain ⟨v16, ev16, hf⟩ := o_itp hf
        refine top_eq ev16 ?_
        refine lv_istore (lv' := [(8, .int v16), (7, .int v13), (6, .int r10), (5, .int v2), (4, .int v1), (0, .ref (g 5)), (1, .ref (g 6)), (2, .int p2), (3, .int p3)]) hx hb dX7_tryFilm_93 hl (by decide) rfl (fun ls hl => ?_)
        refine lv_aload_n hx hb dX7_tryFilm_95 rfl (lv_at hl 6 rfl) ?_
        refine j_get I hx hb hts iw_X7_tryFilm_X7 hown 6 (by decide) (kc6 g Y _) rfl 0 (by decide) (hts (.fieldLink RX7 9 "ReelNight$Search" "trial" "[I") (by decide +kernel)) rfl dX7_tryFilm_96 ?_
        refine lv_iload_n hx hb dX7_tryFilm_99 rfl (lv_at hl 7 rfl) ?_
        refine lv_iload_n hx hb dX7_tryFilm_100 rfl (lv_at hl 8 rfl) ?_
        obtain ⟨b17, hf⟩ := o_nb hf
        obtain ⟨σ18, eσ18, hf⟩ := o_stp hf
        refine j_ast I hx hb 37 (by decide) (kc37 g Y) b17 eσ18 dX7_tryFilm_101 (fun H locs I => ?_)
        refine lv_aload_n hx hb dX7_tryFilm_102 rfl (lv_at hl 6 rfl) ?_
        refine j_get I hx hb hts iw_X7_tryFilm_X7 hown 6 (by decide) (kc6 g Y _) rfl 2 (by decide) (hts (.fieldLink RX7 18 "ReelNight$Search" "weeksAt" "[I") (by decide +kernel)) rfl dX7_tryFilm_103 ?_
        refine lv_iload hx hb dX7_tryFilm_106 (lv_at hl 2 rfl) ?_
        refine lv_iload hx hb dX7_tryFilm_108 (lv_at hl 1 rfl) ?_
        refine lv_iconst (v := 1) hx hb dX7_tryFilm_110 (by decide) ?_
        refine lv_iload hx hb dX7_tryFilm_111 (lv_at hl 4 rfl) ?_
        refine lv_ishl hx hb dX7_tryFilm_113 ?_
        refine lv_ior hx hb dX7_tryFilm_114 ?_
        obtain ⟨b19, hf⟩ := o_nb hf
        obtain ⟨σ20, eσ20, hf⟩ := o_stp hf
        refine j_ast I hx hb 39 (by decide) (kc39 g Y) b19 eσ20 dX7_tryFilm_115 (fun H locs I => ?_)
        refine lv_aload_n hx hb dX7_tryFilm_116 rfl (lv_at hl 6 rfl) ?_
        refine lv_dup hx hb dX7_tryFilm_117 rfl ?_
        refine j_get I hx hb hts iw_X7_tryFilm_X7 hown 6 (by decide) (kc6 g Y _) rfl 6 (by decide) (hts (.fieldLink RX7 32 "ReelNight$Search" "sum" "I") (by decide +kernel)) rfl dX7_tryFilm_118 ?_
        refine lv_iload hx hb dX7_tryFilm_121 (lv_at hl 0 rfl) ?_
        refine lv_iadd hx hb dX7_tryFilm_123 ?_
        obtain ⟨σ21, eσ21, hf⟩ := o_stp hf
        refine j_put I hx hb hts iw_X7_tryFilm_X7 tyX7 tyX7_ok nmX7 hown 6 (by decide) (kc6 g Y _) rfl 6 (by decide) (hts (.fieldLink RX7 32 "ReelNight$Search" "sum" "I") (by decide +kernel)) rfl rfl rfl (Nat.le_of_ble_eq_true rfl) (kcs6_6 g Y _ _) eσ21 dX7_tryFilm_124 (fun H locs I => ?_)
        refine lv_aload_n hx hb dX7_tryFilm_127 rfl (lv_at hl 5 rfl) ?_
        refine lv_aload_n hx hb dX7_tryFilm_128 rfl (lv_at hl 6 rfl) ?_
        refine lv_iload_n hx hb dX7_tryFilm_129 rfl (lv_at hl 7 rfl) ?_
        refine lv_iconst (v := 1) hx hb dX7_tryFilm_130 (by decide) ?_
        refine lv_iadd hx hb dX7_tryFilm_131 ?_
        obtain ⟨σ22, r23, h24, hf⟩ := o_obn hf
        refine j_vS (rest := []) I ⟨hx, hb, hml, hown, hts⟩ (hGX7_seek σ21 (p2 + 1) _ h24) (va_cwS 3 hts gX7_tryFilm_X7_seek rfl rfl rfl (by decide +kernel) ⟨by dsimp only [headSpec]; omega, by dsimp only [headSpec]; omega⟩) rfl hl.1 rfl (Nat.le_of_ble_eq_true rfl) dX7_tryFilm_132 ⟨Nat.zero_le _, Nat.zero_le _⟩ (fun H locs I => ?_)
        refine lv_aload_n hx hb dX7_tryFilm_135 rfl (lv_at hl 6 rfl) ?_
        refine lv_dup hx hb dX7_tryFilm_136 rfl ?_
        refine j_get I hx hb hts iw_X7_tryFilm_X7 hown 6 (by decide) (kc6 g Y _) rfl 6 (by decide) (hts (.fieldLink RX7 32 "ReelNight$Search" "sum" "I") (by decide +kernel)) rfl dX7_tryFilm_137 ?_
        refine lv_iload hx hb dX7_tryFilm_140 (lv_at hl 0 rfl) ?_
        refine lv_isub hx hb dX7_tryFilm_142 ?_
        obtain ⟨σ25, eσ25, hf⟩ := o_stp hf
        refine j_put I hx hb hts iw_X7_tryFilm_X7 tyX7 tyX7_ok nmX7 hown 6 (by decide) (kc6 g Y _) rfl 6 (by decide) (hts (.fieldLink RX7 32 "ReelNight$Search" "sum" "I") (by decide +kernel)) rfl rfl rfl (Nat.le_of_ble_eq_true rfl) (kcs6_6 g Y _ _) eσ25 dX7_tryFilm_143 (fun H locs I => ?_)
        refine lv_aload_n hx hb dX7_tryFilm_146 rfl (lv_at hl 6 rfl) ?_
        refine j_get I hx hb hts iw_X7_tryFilm_X7 hown 6 (by decide) (kc6 g Y _) rfl 2 (by decide) (hts (.fieldLink RX7 18 "ReelNight$Search" "weeksAt" "[I") (by decide +kernel)) rfl dX7_tryFilm_147 ?_
        refine lv_iload hx hb dX7_tryFilm_150 (lv_at hl 2 rfl) ?_
        refine lv_iload hx hb dX7_tryFilm_152 (lv_at hl 1 rfl) ?_
        obtain ⟨b26, hf⟩ := o_nb hf
        obtain ⟨σ27, eσ27, hf⟩ := o_stp hf
        refine j_ast I hx hb 39 (by decide) (kc39 g Y) b26 eσ27 dX7_tryFilm_154 (fun H locs I => ?_)
        refine lv_aload_n hx hb dX7_tryFilm_155 rfl (lv_at hl 6 rfl) ?_
        refine j_get I hx hb hts iw_X7_tryFilm_X7 hown 6 (by decide) (kc6 g Y _) rfl 0 (by decide) (hts (.fieldLink RX7 9 "ReelNight$Search" "trial" "[I") (by decide +kernel)) rfl dX7_tryFilm_156 ?_
        refine lv_iload_n hx hb dX7_tryFilm_159 rfl (lv_at hl 7 rfl) ?_
        refine lv_ldc hx hb hown (hts (.constant RX7 38 (-1000000005)) (by decide +kernel)) dX7_tryFilm_160 ?_
        obtain ⟨b28, hf⟩ := o_nb hf
        obtain ⟨σ29, eσ29, hf⟩ := o_stp hf
        refine j_ast I hx hb 37 (by decide) (kc37 g Y) b28 eσ29 dX7_tryFilm_162 (fun H locs I => ?_)
        exact j_vret I hx hb hr hlk hf dX7_tryFilm_163
      · have hf := i_t c14 hf
        refine lv_aload_n hx hb dX7_tryFilm_74 rfl (lv_at hl 4 rfl) ?_
        refine j_getN I hx hb hts iw_X7_tryFilm_X0 hown 5 (by decide) (kc5 g Y _) rfl 2 (by decide) (by decide +kernel) rfl dX7_tryFilm_75 ?_
        refine lv_iload hx hb dX7_tryFilm_78 (lv_at hl 1 rfl) ?_
        obtain ⟨b30, hf⟩ := o_nb hf
        refine j_ald I hx hb 34 (by decide) (kc34 g Y _) b30 dX7_tryFilm_80 ?_
        refine lv_goto (tgt := 93) hx hb dX7_tryFilm_81 (by decide) ?_
        obtain ⟨v31, ev31, hf⟩ := o_itp hf
        refine top_eq ev31 ?_
        refine lv_istore (lv' := [(8, .int v31), (7, .int v13), (6, .int r10), (5, .int v2), (4, .int v1), (0, .ref (g 5)), (1, .ref (g 6)), (2, .int p2), (3, .int p3)]) hx hb dX7_tryFilm_93 hl (by decide) rfl (fun ls hl => ?_)
        refine lv_aload_n hx hb dX7_tryFilm_95 rfl (lv_at hl 6 rfl) ?_
        refine j_get I hx hb hts iw_X7_tryFilm_X7 hown 6 (by decide) (kc6 g Y _) rfl 0 (by decide) (hts (.fieldLink RX7 9 "ReelNight$Search" "trial" "[I") (by decide +kernel)) rfl dX7_tryFilm_96 ?_
        refine lv_iload_n hx hb dX7_tryFilm_99 rfl (lv_at hl 7 rfl) ?_
        refine lv_iload_n hx hb dX7_tryFilm_100 rfl (lv_at hl 8 rfl) ?_
        obtain ⟨b32, hf⟩ := o_nb hf
        obtain ⟨σ33, eσ33, hf⟩ := o_stp hf
        refine j_ast I hx hb 37 (by decide) (kc37 g Y) b32 eσ33 dX7_tryFilm_101 (fun H locs I => ?_)
        refine lv_aload_n hx hb dX7_tryFilm_102 rfl (lv_at hl 6 rfl) ?_
        refine j_get I hx hb hts iw_X7_tryFilm_X7 hown 6 (by decide) (kc6 g Y _) rfl 2 (by decide) (hts (.fieldLink RX7 18 "ReelNight$Search" "weeksAt" "[I") (by decide +kernel)) rfl dX7_tryFilm_103 ?_
        refine lv_iload hx hb dX7_tryFilm_106 (lv_at hl 2 rfl) ?_
        refine lv_iload hx hb dX7_tryFilm_108 (lv_at hl 1 rfl) ?_
        refine lv_iconst (v := 1) hx hb dX7_tryFilm_110 (by decide) ?_
        refine lv_iload hx hb dX7_tryFilm_111 (lv_at hl 4 rfl) ?_
        refine lv_ishl hx hb dX7_tryFilm_113 ?_
        refine lv_ior hx hb dX7_tryFilm_114 ?_
        obtain ⟨b34, hf⟩ := o_nb hf
        obtain ⟨σ35, eσ35, hf⟩ := o_stp hf
        refine j_ast I hx hb 39 (by decide) (kc39 g Y) b34 eσ35 dX7_tryFilm_115 (fun H locs I => ?_)
        refine lv_aload_n hx hb dX7_tryFilm_116 rfl (lv_at hl 6 rfl) ?_
        refine lv_dup hx hb dX7_tryFilm_117 rfl ?_
        refine j_get I hx hb hts iw_X7_tryFilm_X7 hown 6 (by decide) (kc6 g Y _) rfl 6 (by decide) (hts (.fieldLink RX7 32 "ReelNight$Search" "sum" "I") (by decide +kernel)) rfl dX7_tryFilm_118 ?_
        refine lv_iload hx hb dX7_tryFilm_121 (lv_at hl 0 rfl) ?_
        refine lv_iadd hx hb dX7_tryFilm_123 ?_
        obtain ⟨σ36, eσ36, hf⟩ := o_stp hf
        refine j_put I hx hb hts iw_X7_tryFilm_X7 tyX7 tyX7_ok nmX7 hown 6 (by decide) (kc6 g Y _) rfl 6 (by decide) (hts (.fieldLink RX7 32 "ReelNight$Search" "sum" "I") (by decide +kernel)) rfl rfl rfl (Nat.le_of_ble_eq_true rfl) (kcs6_6 g Y _ _) eσ36 dX7_tryFilm_124 (fun H locs I => ?_)
        refine lv_aload_n hx hb dX7_tryFilm_127 rfl (lv_at hl 5 rfl) ?_
        refine lv_aload_n hx hb dX7_tryFilm_128 rfl (lv_at hl 6 rfl) ?_
        refine lv_iload_n hx hb dX7_tryFilm_129 rfl (lv_at hl 7 rfl) ?_
        refine lv_iconst (v := 1) hx hb dX7_tryFilm_130 (by decide) ?_
        refine lv_iadd hx hb dX7_tryFilm_131 ?_
        obtain ⟨σ37, r38, h39, hf⟩ := o_obn hf
        refine j_vS (rest := []) I ⟨hx, hb, hml, hown, hts⟩ (hGX7_seek σ36 (p2 + 1) _ h39) (va_cwS 3 hts gX7_tryFilm_X7_seek rfl rfl rfl (by decide +kernel) ⟨by dsimp only [headSpec]; omega, by dsimp only [headSpec]; omega⟩) rfl hl.1 rfl (Nat.le_of_ble_eq_true rfl) dX7_tryFilm_132 ⟨Nat.zero_le _, Nat.zero_le _⟩ (fun H locs I => ?_)
        refine lv_aload_n hx hb dX7_tryFilm_135 rfl (lv_at hl 6 rfl) ?_
        refine lv_dup hx hb dX7_tryFilm_136 rfl ?_
        refine j_get I hx hb hts iw_X7_tryFilm_X7 hown 6 (by decide) (kc6 g Y _) rfl 6 (by decide) (hts (.fieldLink RX7 32 "ReelNight$Search" "sum" "I") (by decide +kernel)) rfl dX7_tryFilm_137 ?_
        refine lv_iload hx hb dX7_tryFilm_140 (lv_at hl 0 rfl) ?_
        refine lv_isub hx hb dX7_tryFilm_142 ?_
        obtain ⟨σ40, eσ40, hf⟩ := o_stp hf
        refine j_put I hx hb hts iw_X7_tryFilm_X7 tyX7 tyX7_ok nmX7 hown 6 (by decide) (kc6 g Y _) rfl 6 (by decide) (hts (.fieldLink RX7 32 "ReelNight$Search" "sum" "I") (by decide +kernel)) rfl rfl rfl (Nat.le_of_ble_eq_true rfl) (kcs6_6 g Y _ _) eσ40 dX7_tryFilm_143 (fun H locs I => ?_)
        refine lv_aload_n hx hb dX7_tryFilm_146 rfl (lv_at hl 6 rfl) ?_
        refine j_get I hx hb hts iw_X7_tryFilm_X7 hown 6 (by decide) (kc6 g Y _) rfl 2 (by decide) (hts (.fieldLink RX7 18 "ReelNight$Search" "weeksAt" "[I") (by decide +kernel)) rfl dX7_tryFilm_147 ?_
        refine lv_iload hx hb dX7_tryFilm_150 (lv_at hl 2 rfl) ?_
        refine lv_iload hx hb dX7_tryFilm_152 (lv_at hl 1 rfl) ?_
        obtain ⟨b41, hf⟩ := o_nb hf
        obtain ⟨σ42, eσ42, hf⟩ := o_stp hf
        refine j_ast I hx hb 39 (by decide) (kc39 g Y) b41 eσ42 dX7_tryFilm_154 (fun H locs I => ?_)
        refine lv_aload_n hx hb dX7_tryFilm_155 rfl (lv_at hl 6 rfl) ?_
        refine j_get I hx hb hts iw_X7_tryFilm_X7 hown 6 (by decide) (kc6 g Y _) rfl 0 (by decide) (hts (.fieldLink RX7 9 "ReelNight$Search" "trial" "[I") (by decide +kernel)) rfl dX7_tryFilm_156 ?_
        refine lv_iload_n hx hb dX7_tryFilm_159 rfl (lv_at hl 7 rfl) ?_
        refine lv_ldc hx hb hown (hts (.constant RX7 38 (-1000000005)) (by decide +kernel)) dX7_tryFilm_160 ?_
        obtain ⟨b43, hf⟩ := o_nb hf
        obtain ⟨σ44, eσ44, hf⟩ := o_stp hf
        refine j_ast I hx hb 37 (by decide) (kc37 g Y) b43 eσ44 dX7_tryFilm_162 (fun H locs I => ?_)
        exact j_vret I hx hb hr hlk hf dX7_tryFilm_163
    · have hf := i_t c7 hf
      refine lv_aload_n hx hb dX7_tryFilm_36 rfl (lv_at hl 3 rfl) ?_
      refine lv_iconst (v := 1) hx hb dX7_tryFilm_37 (by decide) ?_
      obtain ⟨σ45, eσ45, hf⟩ := o_stp hf
      refine j_put I hx hb hts iw_X7_tryFilm_X7 tyX7 tyX7_ok nmX7 hown 6 (by decide) (kc6 g Y _) rfl 5 (by decide) (hts (.fieldLink RX7 28 "ReelNight$Search" "spent" "Z") (by decide +kernel)) rfl rfl rfl (Nat.le_of_ble_eq_true rfl) (kcs6_5 g Y _ _) eσ45 dX7_tryFilm_38 (fun H locs I => ?_)
      exact j_vret I hx hb hr hlk hf dX7_tryFilm_41
  · have hf := i_t c6 hf
    exact j_vret I hx hb hr hlk hf dX7_tryFilm_28

theorem iw_X7_seek_X0 : ∀ w ∈ u_ws RX0 TX0 7, w ∈ wsX7_seek := fun _ h => List.mem_cons_of_mem _ (List.mem_append_left _ (List.mem_append_left _ (List.mem_append_left _ (List.mem_append_right _ h))))
theorem iw_X7_seek_X7 : ∀ w ∈ u_ws RX7 TX7 8, w ∈ wsX7_seek := fun _ h => List.mem_cons_of_mem _ (List.mem_append_left _ (List.mem_append_left _ (List.mem_append_right _ h)))
set_option maxHeartbeats 4000000 in
set_option maxRecDepth 100000 in
theorem bX7_seek_L45 {p : Program} {l : Launch} {e : Env} {s : State} {m : MethodId} {args : Array Value} {below : List Frame} {meth : Method} {c : Code} {D : va_G} {g : Nat → Nat} {Y : YT} {bP : Nat} {σ0 : St} {res : St × Int32} (C0 : MC p s m args meth c cX7_seek 6 none RX7 wsX7_seek) {GX7_seek : St → Int32 → Option (St × Int32)} {ra rb : Nat} (hGX7_seek : ∀ (σ : St) (x2 : Int32) (res : St × Int32), GX7_seek σ x2 = some res → Cv l yX7_seek wsX7_seek ⟨ra, 0, 0, rb⟩ D 44 g (KC g Y) Y bP [.ref (g 5), .ref (g 6), .int x2] σ res) {K75 : St → Int32 → Option (St × Int32)} (hK75 : ∀ (σ : St) (a3 : Int32) (H : Heap) (locs : List Loc) (ls : Array Slot), K75 σ a3 = some res → JW D 44 g (KC g Y) Y bP (va_A (wd 44 g (KC g Y) σ0) s.heap.size) s σ H locs → lv_has ls 6 [(0, .ref (g 5)), (1, .ref (g 6)), (3, .int a3)] → W p l e (⟨ra + 20, 0, 0, rb + 1000⟩ : Room) s m args below meth c H locs 0 0 (MQ below (Qv D 44 g (KC g Y) Y σ0 res s.heap.size) args s 0 0 (va_A (wd 44 g (KC g Y) σ0) s.heap.size)) (F0 m 75 ls [])) : ∀ (n : Nat) (σ : St) (a3 : Int32) (a5 : Int32) (H : Heap) (locs : List Loc) (ls : Array Slot), fX7_seek_L45 GX7_seek K75 n σ a3 a5 = some res → JW D 44 g (KC g Y) Y bP (va_A (wd 44 g (KC g Y) σ0) s.heap.size) s σ H locs → lv_has ls 6 [(0, .ref (g 5)), (1, .ref (g 6)), (3, .int a3), (5, .int a5)] → W p l e (⟨ra + 20, 0, 0, rb + 1000⟩ : Room) s m args below meth c H locs 0 0 (MQ below (Qv D 44 g (KC g Y) Y σ0 res s.heap.size) args s 0 0 (va_A (wd 44 g (KC g Y) σ0) s.heap.size)) (F0 m 45 ls []) := by
  have C0 := C0
  obtain ⟨hx, hb, hr, hml, hown, hts, hlk⟩ := id C0
  intro n
  induction n with
  | zero =>
    intro σ a3 a5 H locs ls hf
    cases hf
  | succ n ih =>
    intro σ a3 a5 H locs ls hf I hl
    rw [fX7_seek_L45] at hf
    refine lv_iload hx hb dX7_seek_45 (lv_at hl 3 rfl) ?_
    refine lv_aload_n hx hb dX7_seek_47 rfl (lv_at hl 0 rfl) ?_
    refine j_getN I hx hb hts iw_X7_seek_X0 hown 5 (by decide) (kc5 g Y _) rfl 6 (by decide) (by decide +kernel) rfl dX7_seek_48 ?_
    refine lv_icmp_ge (tgt := 75) hx hb dX7_seek_51 (by decide) (fun c8 => ?_) (fun c8 => ?_)
    · have hf := i_t c8 hf
      exact hK75 σ a3 _ _ _ hf I (lv_sub hl [0, 1, 2] rfl)
    · have hf := i_f c8 hf
      refine lv_aload_n hx hb dX7_seek_54 rfl (lv_at hl 1 rfl) ?_
      refine j_get I hx hb hts iw_X7_seek_X7 hown 6 (by decide) (kc6 g Y _) rfl 5 (by decide) (hts (.fieldLink RX7 28 "ReelNight$Search" "spent" "Z") (by decide +kernel)) rfl dX7_seek_55 ?_
      refine lv_if_ne (tgt := 75) hx hb dX7_seek_58 (by decide) (fun c9 => ?_) (fun c9 => ?_)
      · have hf := i_f c9 hf
        exact hK75 σ a3 _ _ _ hf I (lv_sub hl [0, 1, 2] rfl)
      · have hf := i_t c9 hf
        refine lv_aload_n hx hb dX7_seek_61 rfl (lv_at hl 0 rfl) ?_
        refine lv_aload_n hx hb dX7_seek_62 rfl (lv_at hl 1 rfl) ?_
        refine lv_iload_n hx hb dX7_seek_63 rfl (lv_at hl 2 rfl) ?_
        refine lv_iload hx hb dX7_seek_64 (lv_at hl 3 rfl) ?_
        obtain ⟨σ10, r11, h12, hf⟩ := o_obn hf
        refine j_vS (rest := []) I ⟨hx, hb, hml, hown, hts⟩ (ct_X7_tryFilm hGX7_seek σ a3 a5 _ h12) (va_cwS 4 hts gX7_seek_X7_tryFilm rfl rfl rfl (by decide +kernel) ⟨by dsimp only [headSpec]; omega, by dsimp only [headSpec]; omega⟩) rfl hl.1 rfl (Nat.le_of_ble_eq_true rfl) dX7_seek_66 ⟨Nat.zero_le _, Nat.zero_le _⟩ (fun H locs I => ?_)
        refine lv_iinc (v := (a5 + 1)) (lv' := [(5, .int (a5 + 1)), (0, .ref (g 5)), (1, .ref (g 6)), (3, .int a3)]) hx hb dX7_seek_69 hl (k := 3) rfl rfl (by decide) rfl (fun ls hl => ?_)
        refine lv_goto (tgt := 45) hx hb dX7_seek_72 (by decide) ?_
        exact ih σ10 a3 (a5 + 1) _ _ _ hf I (lv_sub hl [1, 2, 3, 0] rfl)
set_option maxHeartbeats 4000000 in
set_option maxRecDepth 100000 in
theorem ct_X7_seek {l : Launch} {D : va_G} {g : Nat → Nat} {Y : YT} {bP : Nat} {GX7_seek : St → Int32 → Option (St × Int32)} {ra rb : Nat} (hGX7_seek : ∀ (σ : St) (x2 : Int32) (res : St × Int32), GX7_seek σ x2 = some res → Cv l yX7_seek wsX7_seek ⟨ra, 0, 0, rb⟩ D 44 g (KC g Y) Y bP [.ref (g 5), .ref (g 6), .int x2] σ res) (σ : St) (p2 : Int32) (res : St × Int32) (hf : fX7_seek GX7_seek σ p2 = some res) : Cv l yX7_seek wsX7_seek ⟨ra + 20, 0, 0, rb + 1000⟩ D 44 g (KC g Y) Y bP [.ref (g 5), .ref (g 6), .int p2] σ res := by
  intro sz
  refine Met.ofW (cc := cX7_seek) (maxL := 6) (ret := none) (by decide) rfl ?_
  intro p e s m args below meth c s₁ B hml hv
  obtain ⟨rfl, rfl, I⟩ := j_start hv
  have C0 : MC p s m _ meth c cX7_seek 6 none RX7 wsX7_seek := ⟨B.exec, B.bytes, B.returns, hml, findClass_of_methodNamed B.named, atoms_spec (ws := wsX7_seek) B.pre, B.notSynchronized⟩
  obtain ⟨hx, hb, hr, hml, hown, hts, hlk⟩ := id C0
  have hl := lv_entry ([.ref (g 5), .ref (g 6), .int p2]) (n := 6) (Nat.le_of_ble_eq_true rfl)
  rw [lg_entry_eq]
  generalize (lg_sl ([.ref (g 5), .ref (g 6), .int p2]) ++ List.replicate (6 - (lg_sl ([.ref (g 5), .ref (g 6), .int p2])).length) Slot.unset).toArray = ls at hl ⊢
  have hl : lv_has ls 6 [(0, .ref (g 5)), (1, .ref (g 6)), (2, .int p2)] := hl
  rw [fX7_seek] at hf
  refine lv_aload_n hx hb dX7_seek_0 rfl (lv_at hl 1 rfl) ?_
  refine lv_aload_n hx hb dX7_seek_1 rfl (lv_at hl 0 rfl) ?_
  refine lv_iload_n hx hb dX7_seek_2 rfl (lv_at hl 2 rfl) ?_
  obtain ⟨σ1, r2, h3, hf⟩ := o_obn hf
  refine j_iV (rest := []) I ⟨hx, hb, hml, hown, hts⟩ (ct_X7_nextPlace σ p2 _ h3) (cwV 2 hts gX7_seek_X7_nextPlace rfl rfl rfl (by decide +kernel) ⟨by dsimp only [headSpec]; omega, by dsimp only [headSpec]; omega⟩) (by decide) (kc6 g Y _) rfl rfl hl.1 rfl (Nat.le_of_ble_eq_true rfl) dX7_seek_3 ⟨Nat.zero_le _, Nat.zero_le _⟩ (fun H locs I => ?_)
  refine lv_istore_n (lv' := [(3, .int r2), (0, .ref (g 5)), (1, .ref (g 6)), (2, .int p2)]) hx hb dX7_seek_6 rfl hl (by decide) rfl (fun ls hl => ?_)
  refine lv_iload_n hx hb dX7_seek_7 rfl (lv_at hl 0 rfl) ?_
  refine lv_bipush (v := 24) hx hb dX7_seek_8 (by decide) ?_
  refine lv_icmp_lt (tgt := 18) hx hb dX7_seek_10 (by decide) (fun c4 => ?_) (fun c4 => ?_)
  · have hf := i_t c4 hf
    refine lv_aload_n hx hb dX7_seek_18 rfl (lv_at hl 1 rfl) ?_
    refine j_getN I hx hb hts iw_X7_seek_X0 hown 5 (by decide) (kc5 g Y _) rfl 3 (by decide) (by decide +kernel) rfl dX7_seek_19 ?_
    refine lv_iload_n hx hb dX7_seek_22 rfl (lv_at hl 0 rfl) ?_
    obtain ⟨b5, hf⟩ := o_nb hf
    refine j_ald I hx hb 35 (by decide) (kc35 g Y _) b5 dX7_seek_23 ?_
    obtain ⟨v6, ev6, hf⟩ := o_itp hf
    refine top_eq ev6 ?_
    refine lv_istore (lv' := [(4, .int v6), (3, .int r2), (0, .ref (g 5)), (1, .ref (g 6)), (2, .int p2)]) hx hb dX7_seek_24 hl (by decide) rfl (fun ls hl => ?_)
    refine lv_iload hx hb dX7_seek_26 (lv_at hl 0 rfl) ?_
    refine lv_ldc hx hb hown (hts (.constant RX7 38 (-1000000005)) (by decide +kernel)) dX7_seek_28 ?_
    refine lv_icmp_eq (tgt := 42) hx hb dX7_seek_30 (by decide) (fun c7 => ?_) (fun c7 => ?_)
    · have hf := i_t c7 hf
      refine lv_iconst (v := 0) hx hb dX7_seek_42 (by decide) ?_
      refine lv_istore (lv' := [(5, .int 0), (4, .int v6), (3, .int r2), (0, .ref (g 5)), (1, .ref (g 6)), (2, .int p2)]) hx hb dX7_seek_43 hl (by decide) rfl (fun ls hl => ?_)
      refine bX7_seek_L45 C0 hGX7_seek ?_ 50 σ1 r2 0 _ _ _ hf I (lv_sub hl [3, 4, 2, 0] rfl)
      · intro σ13 a14 H locs ls hf I hl
        refine lv_aload_n hx hb dX7_seek_75 rfl (lv_at hl 1 rfl) ?_
        refine j_get I hx hb hts iw_X7_seek_X7 hown 6 (by decide) (kc6 g Y _) rfl 5 (by decide) (hts (.fieldLink RX7 28 "ReelNight$Search" "spent" "Z") (by decide +kernel)) rfl dX7_seek_76 ?_
        refine lv_if_ne (tgt := 90) hx hb dX7_seek_79 (by decide) (fun c15 => ?_) (fun c15 => ?_)
        · have hf := i_f c15 hf
          exact j_vret I hx hb hr hlk hf dX7_seek_90
        · have hf := i_t c15 hf
          refine lv_aload_n hx hb dX7_seek_82 rfl (lv_at hl 0 rfl) ?_
          refine lv_aload_n hx hb dX7_seek_83 rfl (lv_at hl 1 rfl) ?_
          refine lv_iload_n hx hb dX7_seek_84 rfl (lv_at hl 2 rfl) ?_
          refine lv_iconst (v := 1) hx hb dX7_seek_85 (by decide) ?_
          refine lv_iadd hx hb dX7_seek_86 ?_
          obtain ⟨σ16, r17, h18, hf⟩ := o_obn hf
          refine j_vS (rest := []) I ⟨hx, hb, hml, hown, hts⟩ (hGX7_seek σ13 (a14 + 1) _ h18) (va_cwS 3 hts gX7_seek_X7_seek rfl rfl rfl (by decide +kernel) ⟨by dsimp only [headSpec]; omega, by dsimp only [headSpec]; omega⟩) rfl hl.1 rfl (Nat.le_of_ble_eq_true rfl) dX7_seek_87 ⟨Nat.zero_le _, Nat.zero_le _⟩ (fun H locs I => ?_)
          exact j_vret I hx hb hr hlk hf dX7_seek_90
    · have hf := i_f c7 hf
      refine lv_aload_n hx hb dX7_seek_33 rfl (lv_at hl 2 rfl) ?_
      refine lv_aload_n hx hb dX7_seek_34 rfl (lv_at hl 3 rfl) ?_
      refine lv_iload_n hx hb dX7_seek_35 rfl (lv_at hl 1 rfl) ?_
      refine lv_iload hx hb dX7_seek_36 (lv_at hl 0 rfl) ?_
      obtain ⟨σ19, r20, h21, hf⟩ := o_obn hf
      refine j_vS (rest := []) I ⟨hx, hb, hml, hown, hts⟩ (ct_X7_tryFilm hGX7_seek σ1 r2 v6 _ h21) (va_cwS 4 hts gX7_seek_X7_tryFilm rfl rfl rfl (by decide +kernel) ⟨by dsimp only [headSpec]; omega, by dsimp only [headSpec]; omega⟩) rfl hl.1 rfl (Nat.le_of_ble_eq_true rfl) dX7_seek_38 ⟨Nat.zero_le _, Nat.zero_le _⟩ (fun H locs I => ?_)
      exact j_vret I hx hb hr hlk hf dX7_seek_41
  · have hf := i_f c4 hf
    refine lv_aload_n hx hb dX7_seek_13 rfl (lv_at hl 2 rfl) ?_
    obtain ⟨σ22, r23, h24, hf⟩ := o_obn hf
    refine j_vV (rest := []) I ⟨hx, hb, hml, hown, hts⟩ (ct_X7_keepIfBetter σ1 _ h24) (cwV 0 hts gX7_seek_X7_keepIfBetter rfl rfl rfl (by decide +kernel) ⟨by dsimp only [headSpec]; omega, by dsimp only [headSpec]; omega⟩) (by decide) (kc6 g Y _) rfl rfl hl.1 rfl (Nat.le_of_ble_eq_true rfl) dX7_seek_14 ⟨Nat.zero_le _, Nat.zero_le _⟩ (fun H locs I => ?_)
    exact j_vret I hx hb hr hlk hf dX7_seek_17
theorem ctR_X7_seek {l : Launch} {D : va_G} {g : Nat → Nat} {Y : YT} {bP : Nat} : ∀ (d : Nat) (σ : St) (p2 : Int32) (res : St × Int32), fX7_seekR d σ p2 = some res → Cv l yX7_seek wsX7_seek ⟨20 * d, 0, 0, 1000 * d⟩ D 44 g (KC g Y) Y bP [.ref (g 5), .ref (g 6), .int p2] σ res := by
  intro d
  induction d with
  | zero => intro σ p2 res hf; cases hf
  | succ d ih =>
    intro σ p2 res hf
    exact ct_X7_seek (ra := 20 * d) (rb := 1000 * d) (fun σ p2 res h => ih σ p2 res h) σ p2 res hf

theorem iw_X0_makePlan_X0 : ∀ w ∈ u_ws RX0 TX0 7, w ∈ wsX0_makePlan := fun _ h => List.mem_cons_of_mem _ (List.mem_append_left _ (List.mem_append_left _ (List.mem_append_left _ (List.mem_append_right _ h))))
theorem iw_X0_makePlan_X7 : ∀ w ∈ u_ws RX7 TX7 8, w ∈ wsX0_makePlan := fun _ h => List.mem_cons_of_mem _ (List.mem_append_left _ (List.mem_append_left _ (List.mem_append_right _ h)))
set_option maxHeartbeats 4000000 in
set_option maxRecDepth 100000 in
theorem ct_X0_makePlan {l : Launch} {D : va_G} {g : Nat → Nat} {Y : YT} {bP : Nat} (σ : St) (p0 : Int32) (p1 : Int32) (res : St × Int32) (hf : fX0_makePlan σ p0 p1 = some res) : Ci l yX0_makePlan wsX0_makePlan ⟨521, 0, 0, 26025⟩ D 44 g (KC g Y) Y bP [.ref (g 5), .int p0, .int p1] σ res := by
  intro sz
  refine Met.ofW (cc := cX0_makePlan) (maxL := 3) (ret := (some .int)) (by decide) rfl ?_
  intro p e s m args below meth c s₁ B hml hv
  obtain ⟨rfl, rfl, I⟩ := j_start hv
  have C0 : MC p s m _ meth c cX0_makePlan 3 (some .int) RX0 wsX0_makePlan := ⟨B.exec, B.bytes, B.returns, hml, findClass_of_methodNamed B.named, atoms_spec (ws := wsX0_makePlan) B.pre, B.notSynchronized⟩
  obtain ⟨hx, hb, hr, hml, hown, hts, hlk⟩ := id C0
  have hl := lv_entry ([.ref (g 5), .int p0, .int p1]) (n := 3) (Nat.le_of_ble_eq_true rfl)
  rw [lg_entry_eq]
  generalize (lg_sl ([.ref (g 5), .int p0, .int p1]) ++ List.replicate (3 - (lg_sl ([.ref (g 5), .int p0, .int p1])).length) Slot.unset).toArray = ls at hl ⊢
  have hl : lv_has ls 3 [(0, .ref (g 5)), (1, .int p0), (2, .int p1)] := hl
  rw [fX0_makePlan] at hf
  refine lv_aload_n hx hb dX0_makePlan_0 rfl (lv_at hl 0 rfl) ?_
  refine j_get I hx hb hts iw_X0_makePlan_X0 hown 5 (by decide) (kc5 g Y _) rfl 5 (by decide) (hts (.fieldLink RX0 48 "ReelNight$Bookings" "search" "LReelNight$Search;") (by decide +kernel)) rfl dX0_makePlan_1 ?_
  refine lv_iload_n hx hb dX0_makePlan_4 rfl (lv_at hl 1 rfl) ?_
  refine lv_iload_n hx hb dX0_makePlan_5 rfl (lv_at hl 2 rfl) ?_
  obtain ⟨σ1, r2, h3, hf⟩ := o_obn hf
  refine j_vV (rest := []) I ⟨hx, hb, hml, hown, hts⟩ (ct_X7_clear σ p0 p1 _ h3) (cwV 2 hts gX0_makePlan_X7_clear rfl rfl rfl (by decide +kernel) ⟨Nat.le_of_ble_eq_true rfl, Nat.le_of_ble_eq_true rfl⟩) (by decide) (kc6 g Y _) rfl rfl hl.1 rfl (Nat.le_of_ble_eq_true rfl) dX0_makePlan_6 ⟨Nat.zero_le _, Nat.zero_le _⟩ (fun H locs I => ?_)
  refine lv_aload_n hx hb dX0_makePlan_9 rfl (lv_at hl 0 rfl) ?_
  refine lv_aload_n hx hb dX0_makePlan_10 rfl (lv_at hl 0 rfl) ?_
  refine j_get I hx hb hts iw_X0_makePlan_X0 hown 5 (by decide) (kc5 g Y _) rfl 5 (by decide) (hts (.fieldLink RX0 48 "ReelNight$Bookings" "search" "LReelNight$Search;") (by decide +kernel)) rfl dX0_makePlan_11 ?_
  refine lv_iconst (v := 0) hx hb dX0_makePlan_14 (by decide) ?_
  obtain ⟨σ4, r5, h6, hf⟩ := o_obn hf
  refine j_vSN (rest := []) I ⟨hx, hb, hml, hown, hts⟩ (ctR_X7_seek 26 σ1 0 _ h6) ⟨va_cnB 3 hts gX0_makePlan_X7_seek_n56 rfl rfl rfl (nM I.2.2.2.2.2.1 (own := RX0) (index := 56) (y := yX7_seek) (host := "ReelNight") (by decide +kernel)) (hts (.initialized RX7) (by decide +kernel)) (by decide +kernel) ⟨Nat.le_of_ble_eq_true rfl, Nat.le_of_ble_eq_true rfl⟩, hts (.static yX7_seek) (by decide +kernel), trivial⟩ rfl hl.1 rfl (Nat.le_of_ble_eq_true rfl) dX0_makePlan_15 ⟨Nat.zero_le _, Nat.zero_le _⟩ (fun H locs I => ?_)
  refine lv_aload_n hx hb dX0_makePlan_18 rfl (lv_at hl 0 rfl) ?_
  refine j_get I hx hb hts iw_X0_makePlan_X0 hown 5 (by decide) (kc5 g Y _) rfl 5 (by decide) (hts (.fieldLink RX0 48 "ReelNight$Bookings" "search" "LReelNight$Search;") (by decide +kernel)) rfl dX0_makePlan_19 ?_
  refine j_getN I hx hb hts iw_X0_makePlan_X7 hown 6 (by decide) (kc6 g Y _) rfl 5 (by decide) (by decide +kernel) rfl dX0_makePlan_22 ?_
  refine lv_if_eq (tgt := 31) hx hb dX0_makePlan_25 (by decide) (fun c7 => ?_) (fun c7 => ?_)
  · have hf := i_t c7 hf
    refine lv_aload_n hx hb dX0_makePlan_31 rfl (lv_at hl 0 rfl) ?_
    refine j_get I hx hb hts iw_X0_makePlan_X0 hown 5 (by decide) (kc5 g Y _) rfl 5 (by decide) (hts (.fieldLink RX0 48 "ReelNight$Bookings" "search" "LReelNight$Search;") (by decide +kernel)) rfl dX0_makePlan_32 ?_
    refine j_getN I hx hb hts iw_X0_makePlan_X7 hown 6 (by decide) (kc6 g Y _) rfl 7 (by decide) (by decide +kernel) rfl dX0_makePlan_35 ?_
    refine lv_if_ge (tgt := 44) hx hb dX0_makePlan_38 (by decide) (fun c8 => ?_) (fun c8 => ?_)
    · have hf := i_t c8 hf
      refine lv_aload_n hx hb dX0_makePlan_44 rfl (lv_at hl 0 rfl) ?_
      refine j_get I hx hb hts iw_X0_makePlan_X0 hown 5 (by decide) (kc5 g Y _) rfl 5 (by decide) (hts (.fieldLink RX0 48 "ReelNight$Bookings" "search" "LReelNight$Search;") (by decide +kernel)) rfl dX0_makePlan_45 ?_
      refine j_getN I hx hb hts iw_X0_makePlan_X7 hown 6 (by decide) (kc6 g Y _) rfl 1 (by decide) (by decide +kernel) rfl dX0_makePlan_48 ?_
      refine lv_iconst (v := 0) hx hb dX0_makePlan_51 (by decide) ?_
      refine lv_aload_n hx hb dX0_makePlan_52 rfl (lv_at hl 0 rfl) ?_
      refine j_get I hx hb hts iw_X0_makePlan_X0 hown 5 (by decide) (kc5 g Y _) rfl 4 (by decide) (hts (.fieldLink RX0 27 "ReelNight$Bookings" "latest" "[I") (by decide +kernel)) rfl dX0_makePlan_53 ?_
      refine lv_iconst (v := 0) hx hb dX0_makePlan_56 (by decide) ?_
      refine lv_bipush (v := 24) hx hb dX0_makePlan_57 (by decide) ?_
      obtain ⟨σ9, eσ9, hf⟩ := o_stp hf
      refine j_copy I hx hb (hml.trans hl.1.symm) hown (hts (.methodLink RX0 72 arraycopyName) (by decide +kernel)) (hts (.native arraycopyName) (by decide +kernel)) (hts (.static arraycopyName) (by decide +kernel)) (hts (.initialized "java/lang/System") (by decide +kernel)) 38 36 0 (by decide) (by decide) (kc38 g Y) (kc36 g Y) rfl rfl (by decide) (by decide) (by decide) (by decide) (by decide) (fun _ _ => rfl) (Nat.le_of_ble_eq_true rfl) (Nat.le_of_ble_eq_true rfl) dX0_makePlan_59 eσ9 (fun H locs I => ?_)
      refine lv_aload_n hx hb dX0_makePlan_62 rfl (lv_at hl 0 rfl) ?_
      refine j_get I hx hb hts iw_X0_makePlan_X0 hown 5 (by decide) (kc5 g Y _) rfl 5 (by decide) (hts (.fieldLink RX0 48 "ReelNight$Bookings" "search" "LReelNight$Search;") (by decide +kernel)) rfl dX0_makePlan_63 ?_
      refine j_getN I hx hb hts iw_X0_makePlan_X7 hown 6 (by decide) (kc6 g Y _) rfl 7 (by decide) (by decide +kernel) rfl dX0_makePlan_66 ?_
      exact j_iret I hx hb hr rfl hlk hf dX0_makePlan_69
    · have hf := i_f c8 hf
      refine lv_ldc hx hb hown (hts (.constant RX0 68 (-1000000002)) (by decide +kernel)) dX0_makePlan_41 ?_
      exact j_iret I hx hb hr rfl hlk hf dX0_makePlan_43
  · have hf := i_f c7 hf
    refine lv_ldc hx hb hown (hts (.constant RX0 64 (-1000000004)) (by decide +kernel)) dX0_makePlan_28 ?_
    exact j_iret I hx hb hr rfl hlk hf dX0_makePlan_30

set_option maxHeartbeats 4000000 in
set_option maxRecDepth 100000 in
theorem ct_X1_hasTwo {l : Launch} {D : va_G} {g : Nat → Nat} {Y : YT} {bP : Nat} (σ : St) (p0 : Int32) (p1 : Int32) (res : St × Int32) (hf : fX1_hasTwo σ p0 p1 = some res) : Ci l yX1_hasTwo wsX1_hasTwo ⟨1, 0, 0, 21⟩ D 44 g (KC g Y) Y bP [.ref (g 1), .int p0, .int p1] σ res := by
  intro sz
  refine Met.ofW (cc := cX1_hasTwo) (maxL := 3) (ret := (some .boolean)) (by decide) rfl ?_
  intro p e s m args below meth c s₁ B hml hv
  obtain ⟨rfl, rfl, I⟩ := j_start hv
  have C0 : MC p s m _ meth c cX1_hasTwo 3 (some .boolean) RX1 wsX1_hasTwo := ⟨B.exec, B.bytes, B.returns, hml, findClass_of_methodNamed B.named, atoms_spec (ws := wsX1_hasTwo) B.pre, B.notSynchronized⟩
  obtain ⟨hx, hb, hr, hml, hown, hts, hlk⟩ := id C0
  have hl := lv_entry ([.ref (g 1), .int p0, .int p1]) (n := 3) (Nat.le_of_ble_eq_true rfl)
  rw [lg_entry_eq]
  generalize (lg_sl ([.ref (g 1), .int p0, .int p1]) ++ List.replicate (3 - (lg_sl ([.ref (g 1), .int p0, .int p1])).length) Slot.unset).toArray = ls at hl ⊢
  have hl : lv_has ls 3 [(0, .ref (g 1)), (1, .int p0), (2, .int p1)] := hl
  rw [fX1_hasTwo] at hf
  refine lv_aload_n hx hb dX1_hasTwo_0 rfl (lv_at hl 0 rfl) ?_
  refine lv_iload_n hx hb dX1_hasTwo_1 rfl (lv_at hl 1 rfl) ?_
  obtain ⟨σ1, r2, h3, hf⟩ := o_obn hf
  refine j_iV (rest := []) I ⟨hx, hb, hml, hown, hts⟩ (ct_X1_has σ p0 _ h3) (cwV 1 hts gX1_hasTwo_X1_has rfl rfl rfl (by decide +kernel) ⟨Nat.le_of_ble_eq_true rfl, Nat.le_of_ble_eq_true rfl⟩) (by decide) (kc1 g Y _) rfl rfl hl.1 rfl (Nat.le_of_ble_eq_true rfl) dX1_hasTwo_2 ⟨Nat.zero_le _, Nat.zero_le _⟩ (fun H locs I => ?_)
  refine lv_if_eq (tgt := 25) hx hb dX1_hasTwo_5 (by decide) (fun c4 => ?_) (fun c4 => ?_)
  · have hf := i_t c4 hf
    refine lv_iconst (v := 0) hx hb dX1_hasTwo_25 (by decide) ?_
    exact j_iret I hx hb hr rfl hlk hf dX1_hasTwo_26
  · have hf := i_f c4 hf
    refine lv_aload_n hx hb dX1_hasTwo_8 rfl (lv_at hl 0 rfl) ?_
    refine lv_iload_n hx hb dX1_hasTwo_9 rfl (lv_at hl 2 rfl) ?_
    obtain ⟨σ5, r6, h7, hf⟩ := o_obn hf
    refine j_iV (rest := []) I ⟨hx, hb, hml, hown, hts⟩ (ct_X1_has σ1 p1 _ h7) (cwV 1 hts gX1_hasTwo_X1_has rfl rfl rfl (by decide +kernel) ⟨Nat.le_of_ble_eq_true rfl, Nat.le_of_ble_eq_true rfl⟩) (by decide) (kc1 g Y _) rfl rfl hl.1 rfl (Nat.le_of_ble_eq_true rfl) dX1_hasTwo_10 ⟨Nat.zero_le _, Nat.zero_le _⟩ (fun H locs I => ?_)
    refine lv_if_eq (tgt := 25) hx hb dX1_hasTwo_13 (by decide) (fun c8 => ?_) (fun c8 => ?_)
    · have hf := i_t c8 hf
      refine lv_iconst (v := 0) hx hb dX1_hasTwo_25 (by decide) ?_
      exact j_iret I hx hb hr rfl hlk hf dX1_hasTwo_26
    · have hf := i_f c8 hf
      refine lv_iload_n hx hb dX1_hasTwo_16 rfl (lv_at hl 1 rfl) ?_
      refine lv_iload_n hx hb dX1_hasTwo_17 rfl (lv_at hl 2 rfl) ?_
      refine lv_icmp_eq (tgt := 25) hx hb dX1_hasTwo_18 (by decide) (fun c9 => ?_) (fun c9 => ?_)
      · have hf := i_t c9 hf
        refine lv_iconst (v := 0) hx hb dX1_hasTwo_25 (by decide) ?_
        exact j_iret I hx hb hr rfl hlk hf dX1_hasTwo_26
      · have hf := i_f c9 hf
        refine lv_iconst (v := 1) hx hb dX1_hasTwo_21 (by decide) ?_
        refine lv_goto (tgt := 26) hx hb dX1_hasTwo_22 (by decide) ?_
        exact j_iret I hx hb hr rfl hlk hf dX1_hasTwo_26
