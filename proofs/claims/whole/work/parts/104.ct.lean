theorem iw_X8_renew_X8 : ∀ w ∈ u_ws RX8 TX8 2, w ∈ wsX8_renew := by decide +kernel
set_option maxHeartbeats 4000000 in
set_option maxRecDepth 100000 in
theorem ct_X8_renew_8 {l : Launch} {D : va_G} {g : Nat → Nat} {Y : YT} {bP : Nat} (σ : St) (p0 : Int32) (res : St × Int32) (hf : fX8_renew_8 σ p0 = some res) : Ci l yX8_renew wsX8_renew ⟨1, 0, 0, 23⟩ D 44 g (KC g Y) Y bP [.ref (g 8), .int p0] σ res := by
  intro sz
  refine Met.ofW (cc := cX8_renew) (maxL := 2) (ret := (some .int)) (by decide) rfl ?_
  intro p e s m args below meth c s₁ B hml hv
  obtain ⟨rfl, rfl, I⟩ := j_start hv
  have C0 : MC p s m _ meth c cX8_renew 2 (some .int) RX8 wsX8_renew := ⟨B.exec, B.bytes, B.returns, hml, findClass_of_methodNamed B.named, atoms_spec (ws := wsX8_renew) B.pre, B.notSynchronized⟩
  obtain ⟨hx, hb, hr, hml, hown, hts, hlk⟩ := id C0
  have hl := lv_entry ([.ref (g 8), .int p0]) (n := 2) (Nat.le_of_ble_eq_true rfl)
  rw [lg_entry_eq]
  generalize (lg_sl ([.ref (g 8), .int p0]) ++ List.replicate (2 - (lg_sl ([.ref (g 8), .int p0])).length) Slot.unset).toArray = ls at hl ⊢
  have hl : lv_has ls 2 [(0, .ref (g 8)), (1, .int p0)] := hl
  rw [fX8_renew_8] at hf
  refine lv_aload_n hx hb dX8_renew_0 rfl (lv_at hl 0 rfl) ?_
  refine j_get I hx hb hts iw_X8_renew_X8 hown 8 (by decide) (kc8 g Y _) rfl 0 (by decide) (hts (.fieldLink RX8 9 "ReelNight$Sheet" "heads" "[S") (by decide +kernel)) rfl dX8_renew_1 ?_
  refine lv_iconst (v := 0) hx hb dX8_renew_4 (by decide) ?_
  obtain ⟨σ1, eσ1, hf⟩ := o_stp hf
  refine j_vS (rest := []) I ⟨hx, hb, hml, hown, hts⟩ (ct_J7_fill_fb410 l 42 (by decide) (kc42 g Y) (by decide) 0 eσ1) (va_cwS 2 hts gX8_renew_J7_fill_fb410 rfl rfl rfl (by decide +kernel) ⟨Nat.le_of_ble_eq_true rfl, Nat.le_of_ble_eq_true rfl⟩) rfl hl.1 rfl (Nat.le_of_ble_eq_true rfl) dX8_renew_5 ⟨Nat.zero_le _, Nat.zero_le _⟩ (fun H locs I => ?_)
  refine lv_aload_n hx hb dX8_renew_8 rfl (lv_at hl 0 rfl) ?_
  refine lv_iload_n hx hb dX8_renew_9 rfl (lv_at hl 1 rfl) ?_
  obtain ⟨σ2, eσ2, hf⟩ := o_stp hf
  refine j_put I hx hb hts iw_X8_renew_X8 tyX8 tyX8_ok nmX8 hown 8 (by decide) (kc8 g Y _) rfl 1 (by decide) (hts (.fieldLink RX8 15 "ReelNight$Sheet" "size" "I") (by decide +kernel)) rfl rfl rfl (Nat.le_of_ble_eq_true rfl) (kcs8_1 g Y _ _) eσ2 dX8_renew_10 (fun H locs I => ?_)
  refine lv_iload_n hx hb dX8_renew_13 rfl (lv_at hl 1 rfl) ?_
  exact j_iret I hx hb hr rfl hlk hf dX8_renew_14

set_option maxHeartbeats 4000000 in
set_option maxRecDepth 100000 in
theorem ct_X8_renew_9 {l : Launch} {D : va_G} {g : Nat → Nat} {Y : YT} {bP : Nat} (σ : St) (p0 : Int32) (res : St × Int32) (hf : fX8_renew_9 σ p0 = some res) : Ci l yX8_renew wsX8_renew ⟨1, 0, 0, 23⟩ D 44 g (KC g Y) Y bP [.ref (g 9), .int p0] σ res := by
  intro sz
  refine Met.ofW (cc := cX8_renew) (maxL := 2) (ret := (some .int)) (by decide) rfl ?_
  intro p e s m args below meth c s₁ B hml hv
  obtain ⟨rfl, rfl, I⟩ := j_start hv
  have C0 : MC p s m _ meth c cX8_renew 2 (some .int) RX8 wsX8_renew := ⟨B.exec, B.bytes, B.returns, hml, findClass_of_methodNamed B.named, atoms_spec (ws := wsX8_renew) B.pre, B.notSynchronized⟩
  obtain ⟨hx, hb, hr, hml, hown, hts, hlk⟩ := id C0
  have hl := lv_entry ([.ref (g 9), .int p0]) (n := 2) (Nat.le_of_ble_eq_true rfl)
  rw [lg_entry_eq]
  generalize (lg_sl ([.ref (g 9), .int p0]) ++ List.replicate (2 - (lg_sl ([.ref (g 9), .int p0])).length) Slot.unset).toArray = ls at hl ⊢
  have hl : lv_has ls 2 [(0, .ref (g 9)), (1, .int p0)] := hl
  rw [fX8_renew_9] at hf
  refine lv_aload_n hx hb dX8_renew_0 rfl (lv_at hl 0 rfl) ?_
  refine j_get I hx hb hts iw_X8_renew_X8 hown 9 (by decide) (kc9 g Y _) rfl 0 (by decide) (hts (.fieldLink RX8 9 "ReelNight$Sheet" "heads" "[S") (by decide +kernel)) rfl dX8_renew_1 ?_
  refine lv_iconst (v := 0) hx hb dX8_renew_4 (by decide) ?_
  obtain ⟨σ1, eσ1, hf⟩ := o_stp hf
  refine j_vS (rest := []) I ⟨hx, hb, hml, hown, hts⟩ (ct_J7_fill_fb410 l 43 (by decide) (kc43 g Y) (by decide) 0 eσ1) (va_cwS 2 hts gX8_renew_J7_fill_fb410 rfl rfl rfl (by decide +kernel) ⟨Nat.le_of_ble_eq_true rfl, Nat.le_of_ble_eq_true rfl⟩) rfl hl.1 rfl (Nat.le_of_ble_eq_true rfl) dX8_renew_5 ⟨Nat.zero_le _, Nat.zero_le _⟩ (fun H locs I => ?_)
  refine lv_aload_n hx hb dX8_renew_8 rfl (lv_at hl 0 rfl) ?_
  refine lv_iload_n hx hb dX8_renew_9 rfl (lv_at hl 1 rfl) ?_
  obtain ⟨σ2, eσ2, hf⟩ := o_stp hf
  refine j_put I hx hb hts iw_X8_renew_X8 tyX8 tyX8_ok nmX8 hown 9 (by decide) (kc9 g Y _) rfl 1 (by decide) (hts (.fieldLink RX8 15 "ReelNight$Sheet" "size" "I") (by decide +kernel)) rfl rfl rfl (Nat.le_of_ble_eq_true rfl) (kcs9_1 g Y _ _) eσ2 dX8_renew_10 (fun H locs I => ?_)
  refine lv_iload_n hx hb dX8_renew_13 rfl (lv_at hl 1 rfl) ?_
  exact j_iret I hx hb hr rfl hlk hf dX8_renew_14

theorem iw_X8_become_X8 : ∀ w ∈ u_ws RX8 TX8 2, w ∈ wsX8_become := by decide +kernel
set_option maxHeartbeats 4000000 in
set_option maxRecDepth 100000 in
theorem ct_X8_become_8 {l : Launch} {D : va_G} {g : Nat → Nat} {Y : YT} {bP : Nat} (σ : St) (p0 : Int32) (p1 : Int32) (res : St × Int32) (hf : fX8_become_8 σ p0 p1 = some res) : Ci l yX8_become wsX8_become ⟨0, 0, 0, 0⟩ D 44 g (KC g Y) Y bP [.ref (g 8), .int p0, .int p1] σ res := by
  intro sz
  refine Met.ofW (cc := cX8_become) (maxL := 4) (ret := (some .int)) (by decide) rfl ?_
  intro p e s m args below meth c s₁ B hml hv
  obtain ⟨rfl, rfl, I⟩ := j_start hv
  have C0 : MC p s m _ meth c cX8_become 4 (some .int) RX8 wsX8_become := ⟨B.exec, B.bytes, B.returns, hml, findClass_of_methodNamed B.named, atoms_spec (ws := wsX8_become) B.pre, B.notSynchronized⟩
  obtain ⟨hx, hb, hr, hml, hown, hts, hlk⟩ := id C0
  have hl := lv_entry ([.ref (g 8), .int p0, .int p1]) (n := 4) (Nat.le_of_ble_eq_true rfl)
  rw [lg_entry_eq]
  generalize (lg_sl ([.ref (g 8), .int p0, .int p1]) ++ List.replicate (4 - (lg_sl ([.ref (g 8), .int p0, .int p1])).length) Slot.unset).toArray = ls at hl ⊢
  have hl : lv_has ls 4 [(0, .ref (g 8)), (1, .int p0), (2, .int p1)] := hl
  rw [fX8_become_8] at hf
  refine lv_aload_n hx hb dX8_become_0 rfl (lv_at hl 0 rfl) ?_
  refine j_get I hx hb hts iw_X8_become_X8 hown 8 (by decide) (kc8 g Y _) rfl 0 (by decide) (hts (.fieldLink RX8 9 "ReelNight$Sheet" "heads" "[S") (by decide +kernel)) rfl dX8_become_1 ?_
  refine lv_iload_n hx hb dX8_become_4 rfl (lv_at hl 1 rfl) ?_
  obtain ⟨b1, hf⟩ := o_nb hf
  refine j_sald I hx hb 42 (by decide) (kc42 g Y _) b1 dX8_become_5 ?_
  obtain ⟨v2, ev2, hf⟩ := o_itp hf
  refine top_eq ev2 ?_
  refine lv_istore_n (lv' := [(3, .int v2), (0, .ref (g 8)), (1, .int p0), (2, .int p1)]) hx hb dX8_become_6 rfl hl (by decide) rfl (fun ls hl => ?_)
  refine lv_aload_n hx hb dX8_become_7 rfl (lv_at hl 1 rfl) ?_
  refine j_get I hx hb hts iw_X8_become_X8 hown 8 (by decide) (kc8 g Y _) rfl 0 (by decide) (hts (.fieldLink RX8 9 "ReelNight$Sheet" "heads" "[S") (by decide +kernel)) rfl dX8_become_8 ?_
  refine lv_iload_n hx hb dX8_become_11 rfl (lv_at hl 2 rfl) ?_
  refine lv_iload_n hx hb dX8_become_12 rfl (lv_at hl 3 rfl) ?_
  obtain ⟨b3, hf⟩ := o_nb hf
  obtain ⟨σ4, eσ4, hf⟩ := o_stp hf
  refine j_sast I hx hb 42 (by decide) (kc42 g Y) b3 eσ4 dX8_become_13 (fun H locs I => ?_)
  refine lv_iload_n hx hb dX8_become_14 rfl (lv_at hl 0 rfl) ?_
  exact j_iret I hx hb hr rfl hlk hf dX8_become_15

set_option maxHeartbeats 4000000 in
set_option maxRecDepth 100000 in
theorem ct_X8_become_9 {l : Launch} {D : va_G} {g : Nat → Nat} {Y : YT} {bP : Nat} (σ : St) (p0 : Int32) (p1 : Int32) (res : St × Int32) (hf : fX8_become_9 σ p0 p1 = some res) : Ci l yX8_become wsX8_become ⟨0, 0, 0, 0⟩ D 44 g (KC g Y) Y bP [.ref (g 9), .int p0, .int p1] σ res := by
  intro sz
  refine Met.ofW (cc := cX8_become) (maxL := 4) (ret := (some .int)) (by decide) rfl ?_
  intro p e s m args below meth c s₁ B hml hv
  obtain ⟨rfl, rfl, I⟩ := j_start hv
  have C0 : MC p s m _ meth c cX8_become 4 (some .int) RX8 wsX8_become := ⟨B.exec, B.bytes, B.returns, hml, findClass_of_methodNamed B.named, atoms_spec (ws := wsX8_become) B.pre, B.notSynchronized⟩
  obtain ⟨hx, hb, hr, hml, hown, hts, hlk⟩ := id C0
  have hl := lv_entry ([.ref (g 9), .int p0, .int p1]) (n := 4) (Nat.le_of_ble_eq_true rfl)
  rw [lg_entry_eq]
  generalize (lg_sl ([.ref (g 9), .int p0, .int p1]) ++ List.replicate (4 - (lg_sl ([.ref (g 9), .int p0, .int p1])).length) Slot.unset).toArray = ls at hl ⊢
  have hl : lv_has ls 4 [(0, .ref (g 9)), (1, .int p0), (2, .int p1)] := hl
  rw [fX8_become_9] at hf
  refine lv_aload_n hx hb dX8_become_0 rfl (lv_at hl 0 rfl) ?_
  refine j_get I hx hb hts iw_X8_become_X8 hown 9 (by decide) (kc9 g Y _) rfl 0 (by decide) (hts (.fieldLink RX8 9 "ReelNight$Sheet" "heads" "[S") (by decide +kernel)) rfl dX8_become_1 ?_
  refine lv_iload_n hx hb dX8_become_4 rfl (lv_at hl 1 rfl) ?_
  obtain ⟨b1, hf⟩ := o_nb hf
  refine j_sald I hx hb 43 (by decide) (kc43 g Y _) b1 dX8_become_5 ?_
  obtain ⟨v2, ev2, hf⟩ := o_itp hf
  refine top_eq ev2 ?_
  refine lv_istore_n (lv' := [(3, .int v2), (0, .ref (g 9)), (1, .int p0), (2, .int p1)]) hx hb dX8_become_6 rfl hl (by decide) rfl (fun ls hl => ?_)
  refine lv_aload_n hx hb dX8_become_7 rfl (lv_at hl 1 rfl) ?_
  refine j_get I hx hb hts iw_X8_become_X8 hown 9 (by decide) (kc9 g Y _) rfl 0 (by decide) (hts (.fieldLink RX8 9 "ReelNight$Sheet" "heads" "[S") (by decide +kernel)) rfl dX8_become_8 ?_
  refine lv_iload_n hx hb dX8_become_11 rfl (lv_at hl 2 rfl) ?_
  refine lv_iload_n hx hb dX8_become_12 rfl (lv_at hl 3 rfl) ?_
  obtain ⟨b3, hf⟩ := o_nb hf
  obtain ⟨σ4, eσ4, hf⟩ := o_stp hf
  refine j_sast I hx hb 43 (by decide) (kc43 g Y) b3 eσ4 dX8_become_13 (fun H locs I => ?_)
  refine lv_iload_n hx hb dX8_become_14 rfl (lv_at hl 0 rfl) ?_
  exact j_iret I hx hb hr rfl hlk hf dX8_become_15

theorem iw_X9_house_X1 : ∀ w ∈ u_ws RX1 TX1 6, w ∈ wsX9_house := by decide +kernel
theorem iw_X9_house_X9 : ∀ w ∈ u_ws RX9 TX9 5, w ∈ wsX9_house := by decide +kernel
set_option maxHeartbeats 4000000 in
set_option maxRecDepth 100000 in
theorem ct_X9_house {l : Launch} {D : va_G} {g : Nat → Nat} {Y : YT} {bP : Nat} (σ : St) (p0 : Int32) (p1 : Int32) (res : St × Int32) (hf : fX9_house σ p0 p1 = some res) : Ci l yX9_house wsX9_house ⟨1, 0, 0, 22⟩ D 44 g (KC g Y) Y bP [.ref (g 0), .int p0, .int p1] σ res := by
  intro sz
  refine Met.ofW (cc := cX9_house) (maxL := 3) (ret := (some .int)) (by decide) rfl ?_
  intro p e s m args below meth c s₁ B hml hv
  obtain ⟨rfl, rfl, I⟩ := j_start hv
  have C0 : MC p s m _ meth c cX9_house 3 (some .int) RX9 wsX9_house := ⟨B.exec, B.bytes, B.returns, hml, findClass_of_methodNamed B.named, atoms_spec (ws := wsX9_house) B.pre, B.notSynchronized⟩
  obtain ⟨hx, hb, hr, hml, hown, hts, hlk⟩ := id C0
  have hl := lv_entry ([.ref (g 0), .int p0, .int p1]) (n := 3) (Nat.le_of_ble_eq_true rfl)
  rw [lg_entry_eq]
  generalize (lg_sl ([.ref (g 0), .int p0, .int p1]) ++ List.replicate (3 - (lg_sl ([.ref (g 0), .int p0, .int p1])).length) Slot.unset).toArray = ls at hl ⊢
  have hl : lv_has ls 3 [(0, .ref (g 0)), (1, .int p0), (2, .int p1)] := hl
  rw [fX9_house] at hf
  refine lv_iload_n hx hb dX9_house_0 rfl (lv_at hl 1 rfl) ?_
  refine lv_iconst (v := 0) hx hb dX9_house_1 (by decide) ?_
  refine lv_iconst (v := 3) hx hb dX9_house_2 (by decide) ?_
  obtain ⟨σ1, r2, h3, hf⟩ := o_obn hf
  refine j_iS (rest := []) I ⟨hx, hb, hml, hown, hts⟩ (ct_X9_within σ p0 0 3 _ h3) (va_cwS 3 hts gX9_house_X9_within rfl rfl rfl (by decide +kernel) ⟨Nat.le_of_ble_eq_true rfl, Nat.le_of_ble_eq_true rfl⟩) rfl hl.1 rfl (Nat.le_of_ble_eq_true rfl) dX9_house_3 ⟨Nat.zero_le _, Nat.zero_le _⟩ (fun H locs I => ?_)
  refine lv_if_eq (tgt := 20) hx hb dX9_house_6 (by decide) (fun c4 => ?_) (fun c4 => ?_)
  · have hf := i_t c4 hf
    refine lv_ldc hx hb hown (hts (.constant RX9 52 (-1000000001)) (by decide +kernel)) dX9_house_20 ?_
    exact j_iret I hx hb hr rfl hlk hf dX9_house_22
  · have hf := i_f c4 hf
    refine lv_iload_n hx hb dX9_house_9 rfl (lv_at hl 2 rfl) ?_
    refine lv_iconst (v := 1) hx hb dX9_house_10 (by decide) ?_
    refine lv_sipush (v := 999) hx hb dX9_house_11 (by decide) ?_
    obtain ⟨σ5, r6, h7, hf⟩ := o_obn hf
    refine j_iS (rest := []) I ⟨hx, hb, hml, hown, hts⟩ (ct_X9_within σ1 p1 1 999 _ h7) (va_cwS 3 hts gX9_house_X9_within rfl rfl rfl (by decide +kernel) ⟨Nat.le_of_ble_eq_true rfl, Nat.le_of_ble_eq_true rfl⟩) rfl hl.1 rfl (Nat.le_of_ble_eq_true rfl) dX9_house_14 ⟨Nat.zero_le _, Nat.zero_le _⟩ (fun H locs I => ?_)
    refine lv_if_ne (tgt := 23) hx hb dX9_house_17 (by decide) (fun c8 => ?_) (fun c8 => ?_)
    · have hf := i_f c8 hf
      refine lv_aload_n hx hb dX9_house_23 rfl (lv_at hl 0 rfl) ?_
      refine j_get I hx hb hts iw_X9_house_X9 hown 0 (by decide) (kc0 g Y _) rfl 0 (by decide) (hts (.fieldLink RX9 12 "ReelNight" "houses" "LReelNight$Houses;") (by decide +kernel)) rfl dX9_house_24 ?_
      refine j_getN I hx hb hts iw_X9_house_X1 hown 1 (by decide) (kc1 g Y _) rfl 5 (by decide) (by decide +kernel) rfl dX9_house_27 ?_
      refine lv_bipush (v := 6) hx hb dX9_house_30 (by decide) ?_
      refine lv_icmp_lt (tgt := 40) hx hb dX9_house_32 (by decide) (fun c9 => ?_) (fun c9 => ?_)
      · have hf := i_t c9 hf
        refine lv_aload_n hx hb dX9_house_40 rfl (lv_at hl 0 rfl) ?_
        refine j_get I hx hb hts iw_X9_house_X9 hown 0 (by decide) (kc0 g Y _) rfl 0 (by decide) (hts (.fieldLink RX9 12 "ReelNight" "houses" "LReelNight$Houses;") (by decide +kernel)) rfl dX9_house_41 ?_
        refine lv_iload_n hx hb dX9_house_44 rfl (lv_at hl 1 rfl) ?_
        refine lv_iload_n hx hb dX9_house_45 rfl (lv_at hl 2 rfl) ?_
        obtain ⟨σ10, r11, h12, hf⟩ := o_obn hf
        refine j_iV (rest := []) I ⟨hx, hb, hml, hown, hts⟩ (ct_X1_add σ5 p0 p1 _ h12) (cwV 2 hts gX9_house_X1_add rfl rfl rfl (by decide +kernel) ⟨Nat.le_of_ble_eq_true rfl, Nat.le_of_ble_eq_true rfl⟩) (by decide) (kc1 g Y _) rfl rfl hl.1 rfl (Nat.le_of_ble_eq_true rfl) dX9_house_46 ⟨Nat.zero_le _, Nat.zero_le _⟩ (fun H locs I => ?_)
        exact j_iret I hx hb hr rfl hlk hf dX9_house_49
      · have hf := i_f c9 hf
        refine lv_ldc hx hb hown (hts (.constant RX9 57 (-1000000003)) (by decide +kernel)) dX9_house_35 ?_
        refine lv_goto (tgt := 49) hx hb dX9_house_37 (by decide) ?_
        exact j_iret I hx hb hr rfl hlk hf dX9_house_49
    · have hf := i_t c8 hf
      refine lv_ldc hx hb hown (hts (.constant RX9 52 (-1000000001)) (by decide +kernel)) dX9_house_20 ?_
      exact j_iret I hx hb hr rfl hlk hf dX9_house_22

theorem iw_X9_isOf_X9 : ∀ w ∈ u_ws RX9 TX9 5, w ∈ wsX9_isOf := by decide +kernel
set_option maxHeartbeats 4000000 in
set_option maxRecDepth 100000 in
theorem ct_X9_isOf {l : Launch} {D : va_G} {g : Nat → Nat} {Y : YT} {bP : Nat} (σ : St) (p0 : Int32) (p1 : Int32) (res : St × Int32) (hf : fX9_isOf σ p0 p1 = some res) : Ci l yX9_isOf wsX9_isOf ⟨1, 0, 0, 23⟩ D 44 g (KC g Y) Y bP [.ref (g 0), .int p0, .int p1] σ res := by
  intro sz
  refine Met.ofW (cc := cX9_isOf) (maxL := 3) (ret := (some .int)) (by decide) rfl ?_
  intro p e s m args below meth c s₁ B hml hv
  obtain ⟨rfl, rfl, I⟩ := j_start hv
  have C0 : MC p s m _ meth c cX9_isOf 3 (some .int) RX9 wsX9_isOf := ⟨B.exec, B.bytes, B.returns, hml, findClass_of_methodNamed B.named, atoms_spec (ws := wsX9_isOf) B.pre, B.notSynchronized⟩
  obtain ⟨hx, hb, hr, hml, hown, hts, hlk⟩ := id C0
  have hl := lv_entry ([.ref (g 0), .int p0, .int p1]) (n := 3) (Nat.le_of_ble_eq_true rfl)
  rw [lg_entry_eq]
  generalize (lg_sl ([.ref (g 0), .int p0, .int p1]) ++ List.replicate (3 - (lg_sl ([.ref (g 0), .int p0, .int p1])).length) Slot.unset).toArray = ls at hl ⊢
  have hl : lv_has ls 3 [(0, .ref (g 0)), (1, .int p0), (2, .int p1)] := hl
  rw [fX9_isOf] at hf
  refine lv_aload_n hx hb dX9_isOf_0 rfl (lv_at hl 0 rfl) ?_
  refine j_get I hx hb hts iw_X9_isOf_X9 hown 0 (by decide) (kc0 g Y _) rfl 0 (by decide) (hts (.fieldLink RX9 12 "ReelNight" "houses" "LReelNight$Houses;") (by decide +kernel)) rfl dX9_isOf_1 ?_
  refine lv_iload_n hx hb dX9_isOf_4 rfl (lv_at hl 1 rfl) ?_
  obtain ⟨σ1, r2, h3, hf⟩ := o_obn hf
  refine j_iV (rest := []) I ⟨hx, hb, hml, hown, hts⟩ (ct_X1_has σ p0 _ h3) (cwV 1 hts gX9_isOf_X1_has rfl rfl rfl (by decide +kernel) ⟨Nat.le_of_ble_eq_true rfl, Nat.le_of_ble_eq_true rfl⟩) (by decide) (kc1 g Y _) rfl rfl hl.1 rfl (Nat.le_of_ble_eq_true rfl) dX9_isOf_5 ⟨Nat.zero_le _, Nat.zero_le _⟩ (fun H locs I => ?_)
  refine lv_if_eq (tgt := 20) hx hb dX9_isOf_8 (by decide) (fun c4 => ?_) (fun c4 => ?_)
  · have hf := i_t c4 hf
    refine lv_ldc hx hb hown (hts (.constant RX9 52 (-1000000001)) (by decide +kernel)) dX9_isOf_20 ?_
    exact j_iret I hx hb hr rfl hlk hf dX9_isOf_22
  · have hf := i_f c4 hf
    refine lv_iload_n hx hb dX9_isOf_11 rfl (lv_at hl 2 rfl) ?_
    refine lv_iconst (v := 0) hx hb dX9_isOf_12 (by decide) ?_
    refine lv_iconst (v := 3) hx hb dX9_isOf_13 (by decide) ?_
    obtain ⟨σ5, r6, h7, hf⟩ := o_obn hf
    refine j_iS (rest := []) I ⟨hx, hb, hml, hown, hts⟩ (ct_X9_within σ1 p1 0 3 _ h7) (va_cwS 3 hts gX9_isOf_X9_within rfl rfl rfl (by decide +kernel) ⟨Nat.le_of_ble_eq_true rfl, Nat.le_of_ble_eq_true rfl⟩) rfl hl.1 rfl (Nat.le_of_ble_eq_true rfl) dX9_isOf_14 ⟨Nat.zero_le _, Nat.zero_le _⟩ (fun H locs I => ?_)
    refine lv_if_ne (tgt := 23) hx hb dX9_isOf_17 (by decide) (fun c8 => ?_) (fun c8 => ?_)
    · have hf := i_f c8 hf
      refine lv_aload_n hx hb dX9_isOf_23 rfl (lv_at hl 0 rfl) ?_
      refine j_get I hx hb hts iw_X9_isOf_X9 hown 0 (by decide) (kc0 g Y _) rfl 0 (by decide) (hts (.fieldLink RX9 12 "ReelNight" "houses" "LReelNight$Houses;") (by decide +kernel)) rfl dX9_isOf_24 ?_
      refine lv_iload_n hx hb dX9_isOf_27 rfl (lv_at hl 1 rfl) ?_
      refine lv_iload_n hx hb dX9_isOf_28 rfl (lv_at hl 2 rfl) ?_
      obtain ⟨σ9, r10, h11, hf⟩ := o_obn hf
      refine j_iV (rest := []) I ⟨hx, hb, hml, hown, hts⟩ (ct_X1_areOf σ5 p0 p1 _ h11) (cwV 2 hts gX9_isOf_X1_areOf rfl rfl rfl (by decide +kernel) ⟨Nat.le_of_ble_eq_true rfl, Nat.le_of_ble_eq_true rfl⟩) (by decide) (kc1 g Y _) rfl rfl hl.1 rfl (Nat.le_of_ble_eq_true rfl) dX9_isOf_29 ⟨Nat.zero_le _, Nat.zero_le _⟩ (fun H locs I => ?_)
      refine lv_if_eq (tgt := 39) hx hb dX9_isOf_32 (by decide) (fun c12 => ?_) (fun c12 => ?_)
      · have hf := i_t c12 hf
        refine lv_iconst (v := 0) hx hb dX9_isOf_39 (by decide) ?_
        exact j_iret I hx hb hr rfl hlk hf dX9_isOf_40
      · have hf := i_f c12 hf
        refine lv_iconst (v := 1) hx hb dX9_isOf_35 (by decide) ?_
        refine lv_goto (tgt := 40) hx hb dX9_isOf_36 (by decide) ?_
        exact j_iret I hx hb hr rfl hlk hf dX9_isOf_40
    · have hf := i_t c8 hf
      refine lv_ldc hx hb hown (hts (.constant RX9 52 (-1000000001)) (by decide +kernel)) dX9_isOf_20 ?_
      exact j_iret I hx hb hr rfl hlk hf dX9_isOf_22

theorem iw_X9_way_X1 : ∀ w ∈ u_ws RX1 TX1 6, w ∈ wsX9_way := fun _ h => List.mem_cons_of_mem _ (List.mem_append_left _ (List.mem_append_right _ h))
theorem iw_X9_way_X9 : ∀ w ∈ u_ws RX9 TX9 5, w ∈ wsX9_way := fun _ h => List.mem_cons_of_mem _ (List.mem_append_left _ (List.mem_append_left _ (List.mem_append_right _ h)))
set_option maxHeartbeats 4000000 in
set_option maxRecDepth 100000 in
theorem ct_X9_way {l : Launch} {D : va_G} {g : Nat → Nat} {Y : YT} {bP : Nat} (σ : St) (p0 : Int32) (p1 : Int32) (p2 : Int32) (res : St × Int32) (hf : fX9_way σ p0 p1 p2 = some res) : Ci l yX9_way wsX9_way ⟨2, 0, 0, 46⟩ D 44 g (KC g Y) Y bP [.ref (g 0), .int p0, .int p1, .int p2] σ res := by
  intro sz
  refine Met.ofW (cc := cX9_way) (maxL := 4) (ret := (some .int)) (by decide) rfl ?_
  intro p e s m args below meth c s₁ B hml hv
  obtain ⟨rfl, rfl, I⟩ := j_start hv
  have C0 : MC p s m _ meth c cX9_way 4 (some .int) RX9 wsX9_way := ⟨B.exec, B.bytes, B.returns, hml, findClass_of_methodNamed B.named, atoms_spec (ws := wsX9_way) B.pre, B.notSynchronized⟩
  obtain ⟨hx, hb, hr, hml, hown, hts, hlk⟩ := id C0
  have hl := lv_entry ([.ref (g 0), .int p0, .int p1, .int p2]) (n := 4) (Nat.le_of_ble_eq_true rfl)
  rw [lg_entry_eq]
  generalize (lg_sl ([.ref (g 0), .int p0, .int p1, .int p2]) ++ List.replicate (4 - (lg_sl ([.ref (g 0), .int p0, .int p1, .int p2])).length) Slot.unset).toArray = ls at hl ⊢
  have hl : lv_has ls 4 [(0, .ref (g 0)), (1, .int p0), (2, .int p1), (3, .int p2)] := hl
  rw [fX9_way] at hf
  refine lv_aload_n hx hb dX9_way_0 rfl (lv_at hl 0 rfl) ?_
  refine j_get I hx hb hts iw_X9_way_X9 hown 0 (by decide) (kc0 g Y _) rfl 0 (by decide) (hts (.fieldLink RX9 12 "ReelNight" "houses" "LReelNight$Houses;") (by decide +kernel)) rfl dX9_way_1 ?_
  refine lv_iload_n hx hb dX9_way_4 rfl (lv_at hl 1 rfl) ?_
  refine lv_iload_n hx hb dX9_way_5 rfl (lv_at hl 2 rfl) ?_
  obtain ⟨σ1, r2, h3, hf⟩ := o_obn hf
  refine j_iV (rest := []) I ⟨hx, hb, hml, hown, hts⟩ (ct_X1_hasTwo σ p0 p1 _ h3) (cwV 2 hts gX9_way_X1_hasTwo rfl rfl rfl (by decide +kernel) ⟨Nat.le_of_ble_eq_true rfl, Nat.le_of_ble_eq_true rfl⟩) (by decide) (kc1 g Y _) rfl rfl hl.1 rfl (Nat.le_of_ble_eq_true rfl) dX9_way_6 ⟨Nat.zero_le _, Nat.zero_le _⟩ (fun H locs I => ?_)
  refine lv_if_eq (tgt := 22) hx hb dX9_way_9 (by decide) (fun c4 => ?_) (fun c4 => ?_)
  · have hf := i_t c4 hf
    refine lv_ldc hx hb hown (hts (.constant RX9 52 (-1000000001)) (by decide +kernel)) dX9_way_22 ?_
    exact j_iret I hx hb hr rfl hlk hf dX9_way_24
  · have hf := i_f c4 hf
    refine lv_iload_n hx hb dX9_way_12 rfl (lv_at hl 3 rfl) ?_
    refine lv_iconst (v := 0) hx hb dX9_way_13 (by decide) ?_
    refine lv_bipush (v := 99) hx hb dX9_way_14 (by decide) ?_
    obtain ⟨σ5, r6, h7, hf⟩ := o_obn hf
    refine j_iS (rest := []) I ⟨hx, hb, hml, hown, hts⟩ (ct_X9_within σ1 p2 0 99 _ h7) (va_cwS 3 hts gX9_way_X9_within rfl rfl rfl (by decide +kernel) ⟨Nat.le_of_ble_eq_true rfl, Nat.le_of_ble_eq_true rfl⟩) rfl hl.1 rfl (Nat.le_of_ble_eq_true rfl) dX9_way_16 ⟨Nat.zero_le _, Nat.zero_le _⟩ (fun H locs I => ?_)
    refine lv_if_ne (tgt := 25) hx hb dX9_way_19 (by decide) (fun c8 => ?_) (fun c8 => ?_)
    · have hf := i_f c8 hf
      refine lv_aload_n hx hb dX9_way_25 rfl (lv_at hl 0 rfl) ?_
      refine j_get I hx hb hts iw_X9_way_X9 hown 0 (by decide) (kc0 g Y _) rfl 0 (by decide) (hts (.fieldLink RX9 12 "ReelNight" "houses" "LReelNight$Houses;") (by decide +kernel)) rfl dX9_way_26 ?_
      refine j_getN I hx hb hts iw_X9_way_X1 hown 1 (by decide) (kc1 g Y _) rfl 4 (by decide) (by decide +kernel) rfl dX9_way_29 ?_
      refine lv_iload_n hx hb dX9_way_32 rfl (lv_at hl 1 rfl) ?_
      refine lv_iload_n hx hb dX9_way_33 rfl (lv_at hl 2 rfl) ?_
      refine lv_iload_n hx hb dX9_way_34 rfl (lv_at hl 3 rfl) ?_
      obtain ⟨σ9, r10, h11, hf⟩ := o_obn hf
      refine j_iV (rest := []) I ⟨hx, hb, hml, hown, hts⟩ (ct_X3_become_10 σ5 p0 p1 p2 _ h11) (cwV 3 hts gX9_way_X3_become rfl rfl rfl (by decide +kernel) ⟨Nat.le_of_ble_eq_true rfl, Nat.le_of_ble_eq_true rfl⟩) (by decide) (kc10 g Y _) rfl rfl hl.1 rfl (Nat.le_of_ble_eq_true rfl) dX9_way_35 ⟨Nat.zero_le _, Nat.zero_le _⟩ (fun H locs I => ?_)
      exact j_iret I hx hb hr rfl hlk hf dX9_way_38
    · have hf := i_t c8 hf
      refine lv_ldc hx hb hown (hts (.constant RX9 52 (-1000000001)) (by decide +kernel)) dX9_way_22 ?_
      exact j_iret I hx hb hr rfl hlk hf dX9_way_24

theorem iw_X9_slack_X1 : ∀ w ∈ u_ws RX1 TX1 6, w ∈ wsX9_slack := fun _ h => List.mem_cons_of_mem _ (List.mem_append_right _ h)
theorem iw_X9_slack_X9 : ∀ w ∈ u_ws RX9 TX9 5, w ∈ wsX9_slack := fun _ h => List.mem_cons_of_mem _ (List.mem_append_left _ (List.mem_append_right _ h))
set_option maxHeartbeats 4000000 in
set_option maxRecDepth 100000 in
theorem ct_X9_slack {l : Launch} {D : va_G} {g : Nat → Nat} {Y : YT} {bP : Nat} (σ : St) (p0 : Int32) (p1 : Int32) (res : St × Int32) (hf : fX9_slack σ p0 p1 = some res) : Ci l yX9_slack wsX9_slack ⟨1, 0, 0, 22⟩ D 44 g (KC g Y) Y bP [.ref (g 0), .int p0, .int p1] σ res := by
  intro sz
  refine Met.ofW (cc := cX9_slack) (maxL := 4) (ret := (some .int)) (by decide) rfl ?_
  intro p e s m args below meth c s₁ B hml hv
  obtain ⟨rfl, rfl, I⟩ := j_start hv
  have C0 : MC p s m _ meth c cX9_slack 4 (some .int) RX9 wsX9_slack := ⟨B.exec, B.bytes, B.returns, hml, findClass_of_methodNamed B.named, atoms_spec (ws := wsX9_slack) B.pre, B.notSynchronized⟩
  obtain ⟨hx, hb, hr, hml, hown, hts, hlk⟩ := id C0
  have hl := lv_entry ([.ref (g 0), .int p0, .int p1]) (n := 4) (Nat.le_of_ble_eq_true rfl)
  rw [lg_entry_eq]
  generalize (lg_sl ([.ref (g 0), .int p0, .int p1]) ++ List.replicate (4 - (lg_sl ([.ref (g 0), .int p0, .int p1])).length) Slot.unset).toArray = ls at hl ⊢
  have hl : lv_has ls 4 [(0, .ref (g 0)), (1, .int p0), (2, .int p1)] := hl
  rw [fX9_slack] at hf
  refine lv_aload_n hx hb dX9_slack_0 rfl (lv_at hl 0 rfl) ?_
  refine j_get I hx hb hts iw_X9_slack_X9 hown 0 (by decide) (kc0 g Y _) rfl 0 (by decide) (hts (.fieldLink RX9 12 "ReelNight" "houses" "LReelNight$Houses;") (by decide +kernel)) rfl dX9_slack_1 ?_
  refine lv_iload_n hx hb dX9_slack_4 rfl (lv_at hl 1 rfl) ?_
  obtain ⟨σ1, r2, h3, hf⟩ := o_obn hf
  refine j_iV (rest := []) I ⟨hx, hb, hml, hown, hts⟩ (ct_X1_has σ p0 _ h3) (cwV 1 hts gX9_slack_X1_has rfl rfl rfl (by decide +kernel) ⟨Nat.le_of_ble_eq_true rfl, Nat.le_of_ble_eq_true rfl⟩) (by decide) (kc1 g Y _) rfl rfl hl.1 rfl (Nat.le_of_ble_eq_true rfl) dX9_slack_5 ⟨Nat.zero_le _, Nat.zero_le _⟩ (fun H locs I => ?_)
  refine lv_if_eq (tgt := 21) hx hb dX9_slack_8 (by decide) (fun c4 => ?_) (fun c4 => ?_)
  · have hf := i_t c4 hf
    refine lv_ldc hx hb hown (hts (.constant RX9 52 (-1000000001)) (by decide +kernel)) dX9_slack_21 ?_
    exact j_iret I hx hb hr rfl hlk hf dX9_slack_23
  · have hf := i_f c4 hf
    refine lv_iload_n hx hb dX9_slack_11 rfl (lv_at hl 2 rfl) ?_
    refine lv_iconst (v := 0) hx hb dX9_slack_12 (by decide) ?_
    refine lv_bipush (v := 9) hx hb dX9_slack_13 (by decide) ?_
    obtain ⟨σ5, r6, h7, hf⟩ := o_obn hf
    refine j_iS (rest := []) I ⟨hx, hb, hml, hown, hts⟩ (ct_X9_within σ1 p1 0 9 _ h7) (va_cwS 3 hts gX9_slack_X9_within rfl rfl rfl (by decide +kernel) ⟨Nat.le_of_ble_eq_true rfl, Nat.le_of_ble_eq_true rfl⟩) rfl hl.1 rfl (Nat.le_of_ble_eq_true rfl) dX9_slack_15 ⟨Nat.zero_le _, Nat.zero_le _⟩ (fun H locs I => ?_)
    refine lv_if_ne (tgt := 24) hx hb dX9_slack_18 (by decide) (fun c8 => ?_) (fun c8 => ?_)
    · have hf := i_f c8 hf
      refine lv_aload_n hx hb dX9_slack_24 rfl (lv_at hl 0 rfl) ?_
      refine j_get I hx hb hts iw_X9_slack_X9 hown 0 (by decide) (kc0 g Y _) rfl 0 (by decide) (hts (.fieldLink RX9 12 "ReelNight" "houses" "LReelNight$Houses;") (by decide +kernel)) rfl dX9_slack_25 ?_
      refine j_getN I hx hb hts iw_X9_slack_X1 hown 1 (by decide) (kc1 g Y _) rfl 2 (by decide) (by decide +kernel) rfl dX9_slack_28 ?_
      refine lv_iload_n hx hb dX9_slack_31 rfl (lv_at hl 1 rfl) ?_
      obtain ⟨b9, hf⟩ := o_nb hf
      refine j_ald I hx hb 14 (by decide) (kc14 g Y _) b9 dX9_slack_32 ?_
      obtain ⟨v10, ev10, hf⟩ := o_itp hf
      refine top_eq ev10 ?_
      refine lv_istore_n (lv' := [(3, .int v10), (0, .ref (g 0)), (1, .int p0), (2, .int p1)]) hx hb dX9_slack_33 rfl hl (by decide) rfl (fun ls hl => ?_)
      refine lv_aload_n hx hb dX9_slack_34 rfl (lv_at hl 1 rfl) ?_
      refine j_get I hx hb hts iw_X9_slack_X9 hown 0 (by decide) (kc0 g Y _) rfl 0 (by decide) (hts (.fieldLink RX9 12 "ReelNight" "houses" "LReelNight$Houses;") (by decide +kernel)) rfl dX9_slack_35 ?_
      refine j_getN I hx hb hts iw_X9_slack_X1 hown 1 (by decide) (kc1 g Y _) rfl 2 (by decide) (by decide +kernel) rfl dX9_slack_38 ?_
      refine lv_iload_n hx hb dX9_slack_41 rfl (lv_at hl 2 rfl) ?_
      refine lv_iload_n hx hb dX9_slack_42 rfl (lv_at hl 3 rfl) ?_
      obtain ⟨b11, hf⟩ := o_nb hf
      obtain ⟨σ12, eσ12, hf⟩ := o_stp hf
      refine j_ast I hx hb 14 (by decide) (kc14 g Y) b11 eσ12 dX9_slack_43 (fun H locs I => ?_)
      refine lv_iload_n hx hb dX9_slack_44 rfl (lv_at hl 0 rfl) ?_
      exact j_iret I hx hb hr rfl hlk hf dX9_slack_45
    · have hf := i_t c8 hf
      refine lv_ldc hx hb hown (hts (.constant RX9 52 (-1000000001)) (by decide +kernel)) dX9_slack_21 ?_
      exact j_iret I hx hb hr rfl hlk hf dX9_slack_23

theorem iw_X9_reel_X5 : ∀ w ∈ u_ws RX5 TX5 3, w ∈ wsX9_reel := by decide +kernel
theorem iw_X9_reel_X9 : ∀ w ∈ u_ws RX9 TX9 5, w ∈ wsX9_reel := by decide +kernel
set_option maxHeartbeats 4000000 in
set_option maxRecDepth 100000 in
theorem ct_X9_reel {l : Launch} {D : va_G} {g : Nat → Nat} {Y : YT} {bP : Nat} (σ : St) (p0 : Int32) (res : St × Int32) (hf : fX9_reel σ p0 = some res) : Ci l yX9_reel wsX9_reel ⟨1, 0, 0, 22⟩ D 44 g (KC g Y) Y bP [.ref (g 0), .int p0] σ res := by
  intro sz
  refine Met.ofW (cc := cX9_reel) (maxL := 2) (ret := (some .int)) (by decide) rfl ?_
  intro p e s m args below meth c s₁ B hml hv
  obtain ⟨rfl, rfl, I⟩ := j_start hv
  have C0 : MC p s m _ meth c cX9_reel 2 (some .int) RX9 wsX9_reel := ⟨B.exec, B.bytes, B.returns, hml, findClass_of_methodNamed B.named, atoms_spec (ws := wsX9_reel) B.pre, B.notSynchronized⟩
  obtain ⟨hx, hb, hr, hml, hown, hts, hlk⟩ := id C0
  have hl := lv_entry ([.ref (g 0), .int p0]) (n := 2) (Nat.le_of_ble_eq_true rfl)
  rw [lg_entry_eq]
  generalize (lg_sl ([.ref (g 0), .int p0]) ++ List.replicate (2 - (lg_sl ([.ref (g 0), .int p0])).length) Slot.unset).toArray = ls at hl ⊢
  have hl : lv_has ls 2 [(0, .ref (g 0)), (1, .int p0)] := hl
  rw [fX9_reel] at hf
  refine lv_iload_n hx hb dX9_reel_0 rfl (lv_at hl 1 rfl) ?_
  refine lv_iconst (v := 1) hx hb dX9_reel_1 (by decide) ?_
  refine lv_sipush (v := 20000) hx hb dX9_reel_2 (by decide) ?_
  obtain ⟨σ1, r2, h3, hf⟩ := o_obn hf
  refine j_iS (rest := []) I ⟨hx, hb, hml, hown, hts⟩ (ct_X9_within σ p0 1 20000 _ h3) (va_cwS 3 hts gX9_reel_X9_within rfl rfl rfl (by decide +kernel) ⟨Nat.le_of_ble_eq_true rfl, Nat.le_of_ble_eq_true rfl⟩) rfl hl.1 rfl (Nat.le_of_ble_eq_true rfl) dX9_reel_5 ⟨Nat.zero_le _, Nat.zero_le _⟩ (fun H locs I => ?_)
  refine lv_if_ne (tgt := 14) hx hb dX9_reel_8 (by decide) (fun c4 => ?_) (fun c4 => ?_)
  · have hf := i_f c4 hf
    refine lv_aload_n hx hb dX9_reel_14 rfl (lv_at hl 0 rfl) ?_
    refine j_get I hx hb hts iw_X9_reel_X9 hown 0 (by decide) (kc0 g Y _) rfl 1 (by decide) (hts (.fieldLink RX9 19 "ReelNight" "reels" "LReelNight$Reels;") (by decide +kernel)) rfl dX9_reel_15 ?_
    refine j_getN I hx hb hts iw_X9_reel_X5 hown 2 (by decide) (kc2 g Y _) rfl 2 (by decide) (by decide +kernel) rfl dX9_reel_18 ?_
    refine lv_bipush (v := 8) hx hb dX9_reel_21 (by decide) ?_
    refine lv_icmp_lt (tgt := 29) hx hb dX9_reel_23 (by decide) (fun c5 => ?_) (fun c5 => ?_)
    · have hf := i_t c5 hf
      refine lv_aload_n hx hb dX9_reel_29 rfl (lv_at hl 0 rfl) ?_
      refine j_get I hx hb hts iw_X9_reel_X9 hown 0 (by decide) (kc0 g Y _) rfl 2 (by decide) (hts (.fieldLink RX9 28 "ReelNight" "night" "LReelNight$Night;") (by decide +kernel)) rfl dX9_reel_30 ?_
      obtain ⟨σ6, r7, h8, hf⟩ := o_obn hf
      refine j_vV (rest := []) I ⟨hx, hb, hml, hown, hts⟩ (ct_X2_forget σ1 _ h8) (cwV 0 hts gX9_reel_X2_forget rfl rfl rfl (by decide +kernel) ⟨Nat.le_of_ble_eq_true rfl, Nat.le_of_ble_eq_true rfl⟩) (by decide) (kc3 g Y _) rfl rfl hl.1 rfl (Nat.le_of_ble_eq_true rfl) dX9_reel_33 ⟨Nat.zero_le _, Nat.zero_le _⟩ (fun H locs I => ?_)
      refine lv_aload_n hx hb dX9_reel_36 rfl (lv_at hl 0 rfl) ?_
      refine j_get I hx hb hts iw_X9_reel_X9 hown 0 (by decide) (kc0 g Y _) rfl 1 (by decide) (hts (.fieldLink RX9 19 "ReelNight" "reels" "LReelNight$Reels;") (by decide +kernel)) rfl dX9_reel_37 ?_
      refine lv_iload_n hx hb dX9_reel_40 rfl (lv_at hl 1 rfl) ?_
      obtain ⟨σ9, r10, h11, hf⟩ := o_obn hf
      refine j_iV (rest := []) I ⟨hx, hb, hml, hown, hts⟩ (ct_X5_add σ6 p0 _ h11) (cwV 1 hts gX9_reel_X5_add rfl rfl rfl (by decide +kernel) ⟨Nat.le_of_ble_eq_true rfl, Nat.le_of_ble_eq_true rfl⟩) (by decide) (kc2 g Y _) rfl rfl hl.1 rfl (Nat.le_of_ble_eq_true rfl) dX9_reel_41 ⟨Nat.zero_le _, Nat.zero_le _⟩ (fun H locs I => ?_)
      exact j_iret I hx hb hr rfl hlk hf dX9_reel_44
    · have hf := i_f c5 hf
      refine lv_ldc hx hb hown (hts (.constant RX9 57 (-1000000003)) (by decide +kernel)) dX9_reel_26 ?_
      exact j_iret I hx hb hr rfl hlk hf dX9_reel_28
  · have hf := i_t c4 hf
    refine lv_ldc hx hb hown (hts (.constant RX9 52 (-1000000001)) (by decide +kernel)) dX9_reel_11 ?_
    exact j_iret I hx hb hr rfl hlk hf dX9_reel_13

theorem iw_X9_mend_X9 : ∀ w ∈ u_ws RX9 TX9 5, w ∈ wsX9_mend := by decide +kernel
set_option maxHeartbeats 4000000 in
set_option maxRecDepth 100000 in
theorem ct_X9_mend {l : Launch} {D : va_G} {g : Nat → Nat} {Y : YT} {bP : Nat} (σ : St) (p0 : Int32) (p1 : Int32) (res : St × Int32) (hf : fX9_mend σ p0 p1 = some res) : Ci l yX9_mend wsX9_mend ⟨2, 0, 0, 37⟩ D 44 g (KC g Y) Y bP [.ref (g 0), .int p0, .int p1] σ res := by
  intro sz
  refine Met.ofW (cc := cX9_mend) (maxL := 3) (ret := (some .int)) (by decide) rfl ?_
  intro p e s m args below meth c s₁ B hml hv
  obtain ⟨rfl, rfl, I⟩ := j_start hv
  have C0 : MC p s m _ meth c cX9_mend 3 (some .int) RX9 wsX9_mend := ⟨B.exec, B.bytes, B.returns, hml, findClass_of_methodNamed B.named, atoms_spec (ws := wsX9_mend) B.pre, B.notSynchronized⟩
  obtain ⟨hx, hb, hr, hml, hown, hts, hlk⟩ := id C0
  have hl := lv_entry ([.ref (g 0), .int p0, .int p1]) (n := 3) (Nat.le_of_ble_eq_true rfl)
  rw [lg_entry_eq]
  generalize (lg_sl ([.ref (g 0), .int p0, .int p1]) ++ List.replicate (3 - (lg_sl ([.ref (g 0), .int p0, .int p1])).length) Slot.unset).toArray = ls at hl ⊢
  have hl : lv_has ls 3 [(0, .ref (g 0)), (1, .int p0), (2, .int p1)] := hl
  rw [fX9_mend] at hf
  refine lv_aload_n hx hb dX9_mend_0 rfl (lv_at hl 0 rfl) ?_
  refine j_get I hx hb hts iw_X9_mend_X9 hown 0 (by decide) (kc0 g Y _) rfl 1 (by decide) (hts (.fieldLink RX9 19 "ReelNight" "reels" "LReelNight$Reels;") (by decide +kernel)) rfl dX9_mend_1 ?_
  refine lv_iload_n hx hb dX9_mend_4 rfl (lv_at hl 1 rfl) ?_
  obtain ⟨σ1, r2, h3, hf⟩ := o_obn hf
  refine j_iV (rest := []) I ⟨hx, hb, hml, hown, hts⟩ (ct_X5_has σ p0 _ h3) (cwV 1 hts gX9_mend_X5_has rfl rfl rfl (by decide +kernel) ⟨Nat.le_of_ble_eq_true rfl, Nat.le_of_ble_eq_true rfl⟩) (by decide) (kc2 g Y _) rfl rfl hl.1 rfl (Nat.le_of_ble_eq_true rfl) dX9_mend_5 ⟨Nat.zero_le _, Nat.zero_le _⟩ (fun H locs I => ?_)
  refine lv_if_eq (tgt := 22) hx hb dX9_mend_8 (by decide) (fun c4 => ?_) (fun c4 => ?_)
  · have hf := i_t c4 hf
    refine lv_ldc hx hb hown (hts (.constant RX9 52 (-1000000001)) (by decide +kernel)) dX9_mend_22 ?_
    exact j_iret I hx hb hr rfl hlk hf dX9_mend_24
  · have hf := i_f c4 hf
    refine lv_iload_n hx hb dX9_mend_11 rfl (lv_at hl 2 rfl) ?_
    refine lv_iconst (v := 1) hx hb dX9_mend_12 (by decide) ?_
    refine lv_sipush (v := 20000) hx hb dX9_mend_13 (by decide) ?_
    obtain ⟨σ5, r6, h7, hf⟩ := o_obn hf
    refine j_iS (rest := []) I ⟨hx, hb, hml, hown, hts⟩ (ct_X9_within σ1 p1 1 20000 _ h7) (va_cwS 3 hts gX9_mend_X9_within rfl rfl rfl (by decide +kernel) ⟨Nat.le_of_ble_eq_true rfl, Nat.le_of_ble_eq_true rfl⟩) rfl hl.1 rfl (Nat.le_of_ble_eq_true rfl) dX9_mend_16 ⟨Nat.zero_le _, Nat.zero_le _⟩ (fun H locs I => ?_)
    refine lv_if_ne (tgt := 25) hx hb dX9_mend_19 (by decide) (fun c8 => ?_) (fun c8 => ?_)
    · have hf := i_f c8 hf
      refine lv_aload_n hx hb dX9_mend_25 rfl (lv_at hl 0 rfl) ?_
      refine j_get I hx hb hts iw_X9_mend_X9 hown 0 (by decide) (kc0 g Y _) rfl 1 (by decide) (hts (.fieldLink RX9 19 "ReelNight" "reels" "LReelNight$Reels;") (by decide +kernel)) rfl dX9_mend_26 ?_
      refine lv_iload_n hx hb dX9_mend_29 rfl (lv_at hl 1 rfl) ?_
      refine lv_iload_n hx hb dX9_mend_30 rfl (lv_at hl 2 rfl) ?_
      obtain ⟨σ9, r10, h11, hf⟩ := o_obn hf
      refine j_iV (rest := []) I ⟨hx, hb, hml, hown, hts⟩ (ct_X5_shorten σ5 p0 p1 _ h11) (cwV 2 hts gX9_mend_X5_shorten rfl rfl rfl (by decide +kernel) ⟨Nat.le_of_ble_eq_true rfl, Nat.le_of_ble_eq_true rfl⟩) (by decide) (kc2 g Y _) rfl rfl hl.1 rfl (Nat.le_of_ble_eq_true rfl) dX9_mend_31 ⟨Nat.zero_le _, Nat.zero_le _⟩ (fun H locs I => ?_)
      exact j_iret I hx hb hr rfl hlk hf dX9_mend_34
    · have hf := i_t c8 hf
      refine lv_ldc hx hb hown (hts (.constant RX9 52 (-1000000001)) (by decide +kernel)) dX9_mend_22 ?_
      exact j_iret I hx hb hr rfl hlk hf dX9_mend_24

theorem iw_X9_told_X5 : ∀ w ∈ u_ws RX5 TX5 3, w ∈ wsX9_told := by decide +kernel
theorem iw_X9_told_X9 : ∀ w ∈ u_ws RX9 TX9 5, w ∈ wsX9_told := by decide +kernel
set_option maxHeartbeats 4000000 in
set_option maxRecDepth 100000 in
theorem ct_X9_told {l : Launch} {D : va_G} {g : Nat → Nat} {Y : YT} {bP : Nat} (σ : St) (p0 : Int32) (p1 : Int32) (res : St × Int32) (hf : fX9_told σ p0 p1 = some res) : Ci l yX9_told wsX9_told ⟨2, 0, 0, 34⟩ D 44 g (KC g Y) Y bP [.ref (g 0), .int p0, .int p1] σ res := by
  intro sz
  refine Met.ofW (cc := cX9_told) (maxL := 3) (ret := (some .int)) (by decide) rfl ?_
  intro p e s m args below meth c s₁ B hml hv
  obtain ⟨rfl, rfl, I⟩ := j_start hv
  have C0 : MC p s m _ meth c cX9_told 3 (some .int) RX9 wsX9_told := ⟨B.exec, B.bytes, B.returns, hml, findClass_of_methodNamed B.named, atoms_spec (ws := wsX9_told) B.pre, B.notSynchronized⟩
  obtain ⟨hx, hb, hr, hml, hown, hts, hlk⟩ := id C0
  have hl := lv_entry ([.ref (g 0), .int p0, .int p1]) (n := 3) (Nat.le_of_ble_eq_true rfl)
  rw [lg_entry_eq]
  generalize (lg_sl ([.ref (g 0), .int p0, .int p1]) ++ List.replicate (3 - (lg_sl ([.ref (g 0), .int p0, .int p1])).length) Slot.unset).toArray = ls at hl ⊢
  have hl : lv_has ls 3 [(0, .ref (g 0)), (1, .int p0), (2, .int p1)] := hl
  rw [fX9_told] at hf
  refine lv_aload_n hx hb dX9_told_0 rfl (lv_at hl 0 rfl) ?_
  refine j_get I hx hb hts iw_X9_told_X9 hown 0 (by decide) (kc0 g Y _) rfl 1 (by decide) (hts (.fieldLink RX9 19 "ReelNight" "reels" "LReelNight$Reels;") (by decide +kernel)) rfl dX9_told_1 ?_
  refine lv_iload_n hx hb dX9_told_4 rfl (lv_at hl 1 rfl) ?_
  obtain ⟨σ1, r2, h3, hf⟩ := o_obn hf
  refine j_iV (rest := []) I ⟨hx, hb, hml, hown, hts⟩ (ct_X5_has σ p0 _ h3) (cwV 1 hts gX9_told_X5_has rfl rfl rfl (by decide +kernel) ⟨Nat.le_of_ble_eq_true rfl, Nat.le_of_ble_eq_true rfl⟩) (by decide) (kc2 g Y _) rfl rfl hl.1 rfl (Nat.le_of_ble_eq_true rfl) dX9_told_5 ⟨Nat.zero_le _, Nat.zero_le _⟩ (fun H locs I => ?_)
  refine lv_if_ne (tgt := 14) hx hb dX9_told_8 (by decide) (fun c4 => ?_) (fun c4 => ?_)
  · have hf := i_f c4 hf
    refine lv_iload_n hx hb dX9_told_14 rfl (lv_at hl 2 rfl) ?_
    by_cases c5 : p1 = 0
    · have hf := i_t c5 hf
      refine lv_tableIn (tgt := 40) hx hb dX9_told_15 (by rw [c5]; decide) (by rw [c5]; decide) (off := 25) (by rw [c5]; rfl) (by decide) ?_
      refine lv_aload_n hx hb dX9_told_40 rfl (lv_at hl 0 rfl) ?_
      refine j_get I hx hb hts iw_X9_told_X9 hown 0 (by decide) (kc0 g Y _) rfl 1 (by decide) (hts (.fieldLink RX9 19 "ReelNight" "reels" "LReelNight$Reels;") (by decide +kernel)) rfl dX9_told_41 ?_
      refine j_getN I hx hb hts iw_X9_told_X5 hown 2 (by decide) (kc2 g Y _) rfl 0 (by decide) (by decide +kernel) rfl dX9_told_44 ?_
      refine lv_iload_n hx hb dX9_told_47 rfl (lv_at hl 1 rfl) ?_
      obtain ⟨b6, hf⟩ := o_nb hf
      refine j_ald I hx hb 17 (by decide) (kc17 g Y _) b6 dX9_told_48 ?_
      exact j_iret I hx hb hr rfl hlk hf dX9_told_49
    have hf := i_f c5 hf
    have tc5 : ¬ Int32.toInt p1 = 0 := lv_neT c5 rfl
    by_cases c7 : p1 = 1
    · have hf := i_t c7 hf
      refine lv_tableIn (tgt := 50) hx hb dX9_told_15 (by rw [c7]; decide) (by rw [c7]; decide) (off := 35) (by rw [c7]; rfl) (by decide) ?_
      refine lv_aload_n hx hb dX9_told_50 rfl (lv_at hl 0 rfl) ?_
      refine j_get I hx hb hts iw_X9_told_X9 hown 0 (by decide) (kc0 g Y _) rfl 1 (by decide) (hts (.fieldLink RX9 19 "ReelNight" "reels" "LReelNight$Reels;") (by decide +kernel)) rfl dX9_told_51 ?_
      refine lv_iload_n hx hb dX9_told_54 rfl (lv_at hl 1 rfl) ?_
      obtain ⟨σ8, r9, h10, hf⟩ := o_obn hf
      refine j_iV (rest := []) I ⟨hx, hb, hml, hown, hts⟩ (ct_X5_minutes σ1 p0 _ h10) (cwV 1 hts gX9_told_X5_minutes rfl rfl rfl (by decide +kernel) ⟨Nat.le_of_ble_eq_true rfl, Nat.le_of_ble_eq_true rfl⟩) (by decide) (kc2 g Y _) rfl rfl hl.1 rfl (Nat.le_of_ble_eq_true rfl) dX9_told_55 ⟨Nat.zero_le _, Nat.zero_le _⟩ (fun H locs I => ?_)
      exact j_iret I hx hb hr rfl hlk hf dX9_told_58
    have hf := i_f c7 hf
    have tc7 : ¬ Int32.toInt p1 = 1 := lv_neT c7 rfl
    by_cases c11 : p1 = 2
    · have hf := i_t c11 hf
      refine lv_tableIn (tgt := 59) hx hb dX9_told_15 (by rw [c11]; decide) (by rw [c11]; decide) (off := 44) (by rw [c11]; rfl) (by decide) ?_
      refine lv_aload_n hx hb dX9_told_59 rfl (lv_at hl 0 rfl) ?_
      refine j_get I hx hb hts iw_X9_told_X9 hown 0 (by decide) (kc0 g Y _) rfl 1 (by decide) (hts (.fieldLink RX9 19 "ReelNight" "reels" "LReelNight$Reels;") (by decide +kernel)) rfl dX9_told_60 ?_
      refine j_getN I hx hb hts iw_X9_told_X5 hown 2 (by decide) (kc2 g Y _) rfl 1 (by decide) (by decide +kernel) rfl dX9_told_63 ?_
      refine lv_iload_n hx hb dX9_told_66 rfl (lv_at hl 1 rfl) ?_
      obtain ⟨b12, hf⟩ := o_nb hf
      refine j_ald I hx hb 18 (by decide) (kc18 g Y _) b12 dX9_told_67 ?_
      exact j_iret I hx hb hr rfl hlk hf dX9_told_68
    have hf := i_f c11 hf
    have tc11 : ¬ Int32.toInt p1 = 2 := lv_neT c11 rfl
    refine lv_tableOut (tgt := 69) hx hb dX9_told_15 (by omega) (by decide) ?_
    refine lv_ldc hx hb hown (hts (.constant RX9 52 (-1000000001)) (by decide +kernel)) dX9_told_69 ?_
    exact j_iret I hx hb hr rfl hlk hf dX9_told_71
  · have hf := i_t c4 hf
    refine lv_ldc hx hb hown (hts (.constant RX9 52 (-1000000001)) (by decide +kernel)) dX9_told_11 ?_
    exact j_iret I hx hb hr rfl hlk hf dX9_told_13

theorem iw_X9_order_X5 : ∀ w ∈ u_ws RX5 TX5 3, w ∈ wsX9_order := fun _ h => List.mem_cons_of_mem _ (List.mem_append_left _ (List.mem_append_left _ (List.mem_append_right _ h)))
theorem iw_X9_order_X9 : ∀ w ∈ u_ws RX9 TX9 5, w ∈ wsX9_order := fun _ h => List.mem_cons_of_mem _ (List.mem_append_left _ (List.mem_append_left _ (List.mem_append_left _ (List.mem_append_right _ h))))
set_option maxHeartbeats 4000000 in
set_option maxRecDepth 100000 in
theorem ct_X9_order {l : Launch} {D : va_G} {g : Nat → Nat} {Y : YT} {bP : Nat} (σ : St) (p0 : Int32) (res : St × Int32) (hf : fX9_order σ p0 = some res) : Ci l yX9_order wsX9_order ⟨2, 0, 0, 46⟩ D 44 g (KC g Y) Y bP [.ref (g 0), .int p0] σ res := by
  intro sz
  refine Met.ofW (cc := cX9_order) (maxL := 2) (ret := (some .int)) (by decide) rfl ?_
  intro p e s m args below meth c s₁ B hml hv
  obtain ⟨rfl, rfl, I⟩ := j_start hv
  have C0 : MC p s m _ meth c cX9_order 2 (some .int) RX9 wsX9_order := ⟨B.exec, B.bytes, B.returns, hml, findClass_of_methodNamed B.named, atoms_spec (ws := wsX9_order) B.pre, B.notSynchronized⟩
  obtain ⟨hx, hb, hr, hml, hown, hts, hlk⟩ := id C0
  have hl := lv_entry ([.ref (g 0), .int p0]) (n := 2) (Nat.le_of_ble_eq_true rfl)
  rw [lg_entry_eq]
  generalize (lg_sl ([.ref (g 0), .int p0]) ++ List.replicate (2 - (lg_sl ([.ref (g 0), .int p0])).length) Slot.unset).toArray = ls at hl ⊢
  have hl : lv_has ls 2 [(0, .ref (g 0)), (1, .int p0)] := hl
  rw [fX9_order] at hf
  refine lv_aload_n hx hb dX9_order_0 rfl (lv_at hl 0 rfl) ?_
  refine j_get I hx hb hts iw_X9_order_X9 hown 0 (by decide) (kc0 g Y _) rfl 2 (by decide) (hts (.fieldLink RX9 28 "ReelNight" "night" "LReelNight$Night;") (by decide +kernel)) rfl dX9_order_1 ?_
  refine lv_iload_n hx hb dX9_order_4 rfl (lv_at hl 1 rfl) ?_
  obtain ⟨σ1, r2, h3, hf⟩ := o_obn hf
  refine j_iV (rest := []) I ⟨hx, hb, hml, hown, hts⟩ (ct_X2_canBeOrder σ p0 _ h3) (cwV 1 hts gX9_order_X2_canBeOrder rfl rfl rfl (by decide +kernel) ⟨Nat.le_of_ble_eq_true rfl, Nat.le_of_ble_eq_true rfl⟩) (by decide) (kc3 g Y _) rfl rfl hl.1 rfl (Nat.le_of_ble_eq_true rfl) dX9_order_5 ⟨Nat.zero_le _, Nat.zero_le _⟩ (fun H locs I => ?_)
  refine lv_if_ne (tgt := 14) hx hb dX9_order_8 (by decide) (fun c4 => ?_) (fun c4 => ?_)
  · have hf := i_f c4 hf
    refine lv_aload_n hx hb dX9_order_14 rfl (lv_at hl 0 rfl) ?_
    refine j_get I hx hb hts iw_X9_order_X9 hown 0 (by decide) (kc0 g Y _) rfl 1 (by decide) (hts (.fieldLink RX9 19 "ReelNight" "reels" "LReelNight$Reels;") (by decide +kernel)) rfl dX9_order_15 ?_
    refine j_getN I hx hb hts iw_X9_order_X5 hown 2 (by decide) (kc2 g Y _) rfl 2 (by decide) (by decide +kernel) rfl dX9_order_18 ?_
    refine lv_if_ne (tgt := 29) hx hb dX9_order_21 (by decide) (fun c5 => ?_) (fun c5 => ?_)
    · have hf := i_f c5 hf
      refine lv_aload_n hx hb dX9_order_29 rfl (lv_at hl 0 rfl) ?_
      refine j_get I hx hb hts iw_X9_order_X9 hown 0 (by decide) (kc0 g Y _) rfl 2 (by decide) (hts (.fieldLink RX9 28 "ReelNight" "night" "LReelNight$Night;") (by decide +kernel)) rfl dX9_order_30 ?_
      refine lv_iload_n hx hb dX9_order_33 rfl (lv_at hl 1 rfl) ?_
      obtain ⟨σ6, r7, h8, hf⟩ := o_obn hf
      refine j_iV (rest := []) I ⟨hx, hb, hml, hown, hts⟩ (ct_X2_takeOrder σ1 p0 _ h8) (cwV 1 hts gX9_order_X2_takeOrder rfl rfl rfl (by decide +kernel) ⟨Nat.le_of_ble_eq_true rfl, Nat.le_of_ble_eq_true rfl⟩) (by decide) (kc3 g Y _) rfl rfl hl.1 rfl (Nat.le_of_ble_eq_true rfl) dX9_order_34 ⟨Nat.zero_le _, Nat.zero_le _⟩ (fun H locs I => ?_)
      exact j_iret I hx hb hr rfl hlk hf dX9_order_37
    · have hf := i_t c5 hf
      refine lv_ldc hx hb hown (hts (.constant RX9 110 (-1000000002)) (by decide +kernel)) dX9_order_24 ?_
      refine lv_goto (tgt := 37) hx hb dX9_order_26 (by decide) ?_
      exact j_iret I hx hb hr rfl hlk hf dX9_order_37
  · have hf := i_t c4 hf
    refine lv_ldc hx hb hown (hts (.constant RX9 52 (-1000000001)) (by decide +kernel)) dX9_order_11 ?_
    exact j_iret I hx hb hr rfl hlk hf dX9_order_13

theorem iw_X9_start_X2 : ∀ w ∈ u_ws RX2 TX2 11, w ∈ wsX9_start := fun _ h => List.mem_cons_of_mem _ (List.mem_append_left _ (List.mem_append_left _ (List.mem_append_left _ (List.mem_append_right _ h))))
theorem iw_X9_start_X9 : ∀ w ∈ u_ws RX9 TX9 5, w ∈ wsX9_start := fun _ h => List.mem_cons_of_mem _ (List.mem_append_left _ (List.mem_append_left _ (List.mem_append_left _ (List.mem_append_left _ (List.mem_append_right _ h)))))
set_option maxHeartbeats 4000000 in
set_option maxRecDepth 100000 in
theorem ct_X9_start {l : Launch} {D : va_G} {g : Nat → Nat} {Y : YT} {bP : Nat} (σ : St) (p0 : Int32) (res : St × Int32) (hf : fX9_start σ p0 = some res) : Ci l yX9_start wsX9_start ⟨4, 0, 0, 78⟩ D 44 g (KC g Y) Y bP [.ref (g 0), .int p0] σ res := by
  intro sz
  refine Met.ofW (cc := cX9_start) (maxL := 2) (ret := (some .int)) (by decide) rfl ?_
  intro p e s m args below meth c s₁ B hml hv
  obtain ⟨rfl, rfl, I⟩ := j_start hv
  have C0 : MC p s m _ meth c cX9_start 2 (some .int) RX9 wsX9_start := ⟨B.exec, B.bytes, B.returns, hml, findClass_of_methodNamed B.named, atoms_spec (ws := wsX9_start) B.pre, B.notSynchronized⟩
  obtain ⟨hx, hb, hr, hml, hown, hts, hlk⟩ := id C0
  have hl := lv_entry ([.ref (g 0), .int p0]) (n := 2) (Nat.le_of_ble_eq_true rfl)
  rw [lg_entry_eq]
  generalize (lg_sl ([.ref (g 0), .int p0]) ++ List.replicate (2 - (lg_sl ([.ref (g 0), .int p0])).length) Slot.unset).toArray = ls at hl ⊢
  have hl : lv_has ls 2 [(0, .ref (g 0)), (1, .int p0)] := hl
  rw [fX9_start] at hf
  refine lv_aload_n hx hb dX9_start_0 rfl (lv_at hl 0 rfl) ?_
  refine j_get I hx hb hts iw_X9_start_X9 hown 0 (by decide) (kc0 g Y _) rfl 2 (by decide) (hts (.fieldLink RX9 28 "ReelNight" "night" "LReelNight$Night;") (by decide +kernel)) rfl dX9_start_1 ?_
  refine lv_iload_n hx hb dX9_start_4 rfl (lv_at hl 1 rfl) ?_
  obtain ⟨σ1, r2, h3, hf⟩ := o_obn hf
  refine j_iV (rest := []) I ⟨hx, hb, hml, hown, hts⟩ (ct_X2_has σ p0 _ h3) (cwV 1 hts gX9_start_X2_has rfl rfl rfl (by decide +kernel) ⟨Nat.le_of_ble_eq_true rfl, Nat.le_of_ble_eq_true rfl⟩) (by decide) (kc3 g Y _) rfl rfl hl.1 rfl (Nat.le_of_ble_eq_true rfl) dX9_start_5 ⟨Nat.zero_le _, Nat.zero_le _⟩ (fun H locs I => ?_)
  refine lv_if_ne (tgt := 14) hx hb dX9_start_8 (by decide) (fun c4 => ?_) (fun c4 => ?_)
  · have hf := i_f c4 hf
    refine lv_aload_n hx hb dX9_start_14 rfl (lv_at hl 0 rfl) ?_
    refine j_get I hx hb hts iw_X9_start_X9 hown 0 (by decide) (kc0 g Y _) rfl 2 (by decide) (hts (.fieldLink RX9 28 "ReelNight" "night" "LReelNight$Night;") (by decide +kernel)) rfl dX9_start_15 ?_
    obtain ⟨σ5, r6, h7, hf⟩ := o_obn hf
    refine j_vV (rest := []) I ⟨hx, hb, hml, hown, hts⟩ (ct_X2_reckonStarts σ1 _ h7) (cwV 0 hts gX9_start_X2_reckonStarts rfl rfl rfl (by decide +kernel) ⟨Nat.le_of_ble_eq_true rfl, Nat.le_of_ble_eq_true rfl⟩) (by decide) (kc3 g Y _) rfl rfl hl.1 rfl (Nat.le_of_ble_eq_true rfl) dX9_start_18 ⟨Nat.zero_le _, Nat.zero_le _⟩ (fun H locs I => ?_)
    refine lv_aload_n hx hb dX9_start_21 rfl (lv_at hl 0 rfl) ?_
    refine j_get I hx hb hts iw_X9_start_X9 hown 0 (by decide) (kc0 g Y _) rfl 2 (by decide) (hts (.fieldLink RX9 28 "ReelNight" "night" "LReelNight$Night;") (by decide +kernel)) rfl dX9_start_22 ?_
    refine j_getN I hx hb hts iw_X9_start_X2 hown 3 (by decide) (kc3 g Y _) rfl 6 (by decide) (by decide +kernel) rfl dX9_start_25 ?_
    refine lv_iload_n hx hb dX9_start_28 rfl (lv_at hl 1 rfl) ?_
    obtain ⟨b8, hf⟩ := o_nb hf
    refine j_ald I hx hb 21 (by decide) (kc21 g Y _) b8 dX9_start_29 ?_
    exact j_iret I hx hb hr rfl hlk hf dX9_start_30
  · have hf := i_t c4 hf
    refine lv_ldc hx hb hown (hts (.constant RX9 52 (-1000000001)) (by decide +kernel)) dX9_start_11 ?_
    exact j_iret I hx hb hr rfl hlk hf dX9_start_13

theorem iw_X9_ride_X6 : ∀ w ∈ u_ws RX6 TX6 9, w ∈ wsX9_ride := fun _ h => List.mem_cons_of_mem _ (List.mem_append_left _ (List.mem_append_left _ (List.mem_append_left _ (List.mem_append_left _ (List.mem_append_right _ h)))))
theorem iw_X9_ride_X9 : ∀ w ∈ u_ws RX9 TX9 5, w ∈ wsX9_ride := fun _ h => List.mem_cons_of_mem _ (List.mem_append_left _ (List.mem_append_left _ (List.mem_append_left _ (List.mem_append_left _ (List.mem_append_left _ (List.mem_append_right _ h))))))
set_option maxHeartbeats 4000000 in
set_option maxRecDepth 100000 in
theorem ct_X9_ride {l : Launch} {D : va_G} {g : Nat → Nat} {Y : YT} {bP : Nat} (σ : St) (p0 : Int32) (p1 : Int32) (res : St × Int32) (hf : fX9_ride σ p0 p1 = some res) : Ci l yX9_ride wsX9_ride ⟨5, 0, 0, 101⟩ D 44 g (KC g Y) Y bP [.ref (g 0), .int p0, .int p1] σ res := by
  intro sz
  refine Met.ofW (cc := cX9_ride) (maxL := 4) (ret := (some .int)) (by decide) rfl ?_
  intro p e s m args below meth c s₁ B hml hv
  obtain ⟨rfl, rfl, I⟩ := j_start hv
  have C0 : MC p s m _ meth c cX9_ride 4 (some .int) RX9 wsX9_ride := ⟨B.exec, B.bytes, B.returns, hml, findClass_of_methodNamed B.named, atoms_spec (ws := wsX9_ride) B.pre, B.notSynchronized⟩
  obtain ⟨hx, hb, hr, hml, hown, hts, hlk⟩ := id C0
  have hl := lv_entry ([.ref (g 0), .int p0, .int p1]) (n := 4) (Nat.le_of_ble_eq_true rfl)
  rw [lg_entry_eq]
  generalize (lg_sl ([.ref (g 0), .int p0, .int p1]) ++ List.replicate (4 - (lg_sl ([.ref (g 0), .int p0, .int p1])).length) Slot.unset).toArray = ls at hl ⊢
  have hl : lv_has ls 4 [(0, .ref (g 0)), (1, .int p0), (2, .int p1)] := hl
  rw [fX9_ride] at hf
  refine lv_aload_n hx hb dX9_ride_0 rfl (lv_at hl 0 rfl) ?_
  refine j_get I hx hb hts iw_X9_ride_X9 hown 0 (by decide) (kc0 g Y _) rfl 2 (by decide) (hts (.fieldLink RX9 28 "ReelNight" "night" "LReelNight$Night;") (by decide +kernel)) rfl dX9_ride_1 ?_
  refine lv_iload_n hx hb dX9_ride_4 rfl (lv_at hl 1 rfl) ?_
  obtain ⟨σ1, r2, h3, hf⟩ := o_obn hf
  refine j_iV (rest := []) I ⟨hx, hb, hml, hown, hts⟩ (ct_X2_hasRide σ p0 _ h3) (cwV 1 hts gX9_ride_X2_hasRide rfl rfl rfl (by decide +kernel) ⟨Nat.le_of_ble_eq_true rfl, Nat.le_of_ble_eq_true rfl⟩) (by decide) (kc3 g Y _) rfl rfl hl.1 rfl (Nat.le_of_ble_eq_true rfl) dX9_ride_5 ⟨Nat.zero_le _, Nat.zero_le _⟩ (fun H locs I => ?_)
  refine lv_if_ne (tgt := 14) hx hb dX9_ride_8 (by decide) (fun c4 => ?_) (fun c4 => ?_)
  · have hf := i_f c4 hf
    refine lv_aload_n hx hb dX9_ride_14 rfl (lv_at hl 0 rfl) ?_
    refine j_get I hx hb hts iw_X9_ride_X9 hown 0 (by decide) (kc0 g Y _) rfl 2 (by decide) (hts (.fieldLink RX9 28 "ReelNight" "night" "LReelNight$Night;") (by decide +kernel)) rfl dX9_ride_15 ?_
    obtain ⟨σ5, r6, h7, hf⟩ := o_obn hf
    refine j_rV (rest := []) I ⟨hx, hb, hml, hown, hts⟩ (ct_X2_listRides σ1 _ h7) (cwV 0 hts gX9_ride_X2_listRides rfl rfl rfl (by decide +kernel) ⟨Nat.le_of_ble_eq_true rfl, Nat.le_of_ble_eq_true rfl⟩) (by decide) (kc3 g Y _) rfl rfl hl.1 rfl (Nat.le_of_ble_eq_true rfl) dX9_ride_18 ⟨Nat.zero_le _, Nat.zero_le _⟩ (fun H locs I => ?_)
    refine lv_astore_n (lv' := [(3, .ref (g 4)), (0, .ref (g 0)), (1, .int p0), (2, .int p1)]) hx hb dX9_ride_21 rfl hl (by decide) rfl (fun ls hl => ?_)
    refine lv_iload_n hx hb dX9_ride_22 rfl (lv_at hl 3 rfl) ?_
    by_cases c8 : p1 = 0
    · have hf := i_t c8 hf
      refine lv_tableIn (tgt := 56) hx hb dX9_ride_23 (by rw [c8]; decide) (by rw [c8]; decide) (off := 33) (by rw [c8]; rfl) (by decide) ?_
      refine lv_aload_n hx hb dX9_ride_56 rfl (lv_at hl 0 rfl) ?_
      refine j_getN I hx hb hts iw_X9_ride_X6 hown 4 (by decide) (kc4 g Y _) rfl 1 (by decide) (by decide +kernel) rfl dX9_ride_57 ?_
      refine lv_iload_n hx hb dX9_ride_60 rfl (lv_at hl 2 rfl) ?_
      obtain ⟨b9, hf⟩ := o_nb hf
      refine j_ald I hx hb 26 (by decide) (kc26 g Y _) b9 dX9_ride_61 ?_
      exact j_iret I hx hb hr rfl hlk hf dX9_ride_62
    have hf := i_f c8 hf
    have tc8 : ¬ Int32.toInt p1 = 0 := lv_neT c8 rfl
    by_cases c10 : p1 = 1
    · have hf := i_t c10 hf
      refine lv_tableIn (tgt := 63) hx hb dX9_ride_23 (by rw [c10]; decide) (by rw [c10]; decide) (off := 40) (by rw [c10]; rfl) (by decide) ?_
      refine lv_aload_n hx hb dX9_ride_63 rfl (lv_at hl 0 rfl) ?_
      refine j_getN I hx hb hts iw_X9_ride_X6 hown 4 (by decide) (kc4 g Y _) rfl 2 (by decide) (by decide +kernel) rfl dX9_ride_64 ?_
      refine lv_iload_n hx hb dX9_ride_67 rfl (lv_at hl 2 rfl) ?_
      obtain ⟨b11, hf⟩ := o_nb hf
      refine j_ald I hx hb 27 (by decide) (kc27 g Y _) b11 dX9_ride_68 ?_
      exact j_iret I hx hb hr rfl hlk hf dX9_ride_69
    have hf := i_f c10 hf
    have tc10 : ¬ Int32.toInt p1 = 1 := lv_neT c10 rfl
    by_cases c12 : p1 = 2
    · have hf := i_t c12 hf
      refine lv_tableIn (tgt := 70) hx hb dX9_ride_23 (by rw [c12]; decide) (by rw [c12]; decide) (off := 47) (by rw [c12]; rfl) (by decide) ?_
      refine lv_aload_n hx hb dX9_ride_70 rfl (lv_at hl 0 rfl) ?_
      refine j_getN I hx hb hts iw_X9_ride_X6 hown 4 (by decide) (kc4 g Y _) rfl 3 (by decide) (by decide +kernel) rfl dX9_ride_71 ?_
      refine lv_iload_n hx hb dX9_ride_74 rfl (lv_at hl 2 rfl) ?_
      obtain ⟨b13, hf⟩ := o_nb hf
      refine j_ald I hx hb 28 (by decide) (kc28 g Y _) b13 dX9_ride_75 ?_
      exact j_iret I hx hb hr rfl hlk hf dX9_ride_76
    have hf := i_f c12 hf
    have tc12 : ¬ Int32.toInt p1 = 2 := lv_neT c12 rfl
    by_cases c14 : p1 = 3
    · have hf := i_t c14 hf
      refine lv_tableIn (tgt := 77) hx hb dX9_ride_23 (by rw [c14]; decide) (by rw [c14]; decide) (off := 54) (by rw [c14]; rfl) (by decide) ?_
      refine lv_aload_n hx hb dX9_ride_77 rfl (lv_at hl 0 rfl) ?_
      refine j_getN I hx hb hts iw_X9_ride_X6 hown 4 (by decide) (kc4 g Y _) rfl 4 (by decide) (by decide +kernel) rfl dX9_ride_78 ?_
      refine lv_iload_n hx hb dX9_ride_81 rfl (lv_at hl 2 rfl) ?_
      obtain ⟨b15, hf⟩ := o_nb hf
      refine j_ald I hx hb 29 (by decide) (kc29 g Y _) b15 dX9_ride_82 ?_
      exact j_iret I hx hb hr rfl hlk hf dX9_ride_83
    have hf := i_f c14 hf
    have tc14 : ¬ Int32.toInt p1 = 3 := lv_neT c14 rfl
    by_cases c16 : p1 = 4
    · have hf := i_t c16 hf
      refine lv_tableIn (tgt := 84) hx hb dX9_ride_23 (by rw [c16]; decide) (by rw [c16]; decide) (off := 61) (by rw [c16]; rfl) (by decide) ?_
      refine lv_aload_n hx hb dX9_ride_84 rfl (lv_at hl 0 rfl) ?_
      refine j_getN I hx hb hts iw_X9_ride_X6 hown 4 (by decide) (kc4 g Y _) rfl 5 (by decide) (by decide +kernel) rfl dX9_ride_85 ?_
      refine lv_iload_n hx hb dX9_ride_88 rfl (lv_at hl 2 rfl) ?_
      obtain ⟨b17, hf⟩ := o_nb hf
      refine j_ald I hx hb 30 (by decide) (kc30 g Y _) b17 dX9_ride_89 ?_
      exact j_iret I hx hb hr rfl hlk hf dX9_ride_90
    have hf := i_f c16 hf
    have tc16 : ¬ Int32.toInt p1 = 4 := lv_neT c16 rfl
    refine lv_tableOut (tgt := 91) hx hb dX9_ride_23 (by omega) (by decide) ?_
    refine lv_ldc hx hb hown (hts (.constant RX9 52 (-1000000001)) (by decide +kernel)) dX9_ride_91 ?_
    exact j_iret I hx hb hr rfl hlk hf dX9_ride_93
  · have hf := i_t c4 hf
    refine lv_ldc hx hb hown (hts (.constant RX9 52 (-1000000001)) (by decide +kernel)) dX9_ride_11 ?_
    exact j_iret I hx hb hr rfl hlk hf dX9_ride_13

theorem iw_X9_riders_X9 : ∀ w ∈ u_ws RX9 TX9 5, w ∈ wsX9_riders := fun _ h => List.mem_cons_of_mem _ (List.mem_append_left _ (List.mem_append_left _ (List.mem_append_left _ (List.mem_append_left _ (List.mem_append_left _ (List.mem_append_right _ h))))))
set_option maxHeartbeats 4000000 in
set_option maxRecDepth 100000 in
theorem ct_X9_riders {l : Launch} {D : va_G} {g : Nat → Nat} {Y : YT} {bP : Nat} (σ : St) (res : St × Int32) (hf : fX9_riders σ = some res) : Ci l yX9_riders wsX9_riders ⟨422, 0, 0, 21047⟩ D 44 g (KC g Y) Y bP [.ref (g 0)] σ res := by
  intro sz
  refine Met.ofW (cc := cX9_riders) (maxL := 1) (ret := (some .int)) (by decide) rfl ?_
  intro p e s m args below meth c s₁ B hml hv
  obtain ⟨rfl, rfl, I⟩ := j_start hv
  have C0 : MC p s m _ meth c cX9_riders 1 (some .int) RX9 wsX9_riders := ⟨B.exec, B.bytes, B.returns, hml, findClass_of_methodNamed B.named, atoms_spec (ws := wsX9_riders) B.pre, B.notSynchronized⟩
  obtain ⟨hx, hb, hr, hml, hown, hts, hlk⟩ := id C0
  have hl := lv_entry ([.ref (g 0)]) (n := 1) (Nat.le_of_ble_eq_true rfl)
  rw [lg_entry_eq]
  generalize (lg_sl ([.ref (g 0)]) ++ List.replicate (1 - (lg_sl ([.ref (g 0)])).length) Slot.unset).toArray = ls at hl ⊢
  have hl : lv_has ls 1 [(0, .ref (g 0))] := hl
  rw [fX9_riders] at hf
  refine lv_aload_n hx hb dX9_riders_0 rfl (lv_at hl 0 rfl) ?_
  refine j_get I hx hb hts iw_X9_riders_X9 hown 0 (by decide) (kc0 g Y _) rfl 2 (by decide) (hts (.fieldLink RX9 28 "ReelNight" "night" "LReelNight$Night;") (by decide +kernel)) rfl dX9_riders_1 ?_
  obtain ⟨σ1, r2, h3, hf⟩ := o_obn hf
  refine j_rV (rest := []) I ⟨hx, hb, hml, hown, hts⟩ (ct_X2_listRides σ _ h3) (cwV 0 hts gX9_riders_X2_listRides rfl rfl rfl (by decide +kernel) ⟨Nat.le_of_ble_eq_true rfl, Nat.le_of_ble_eq_true rfl⟩) (by decide) (kc3 g Y _) rfl rfl hl.1 rfl (Nat.le_of_ble_eq_true rfl) dX9_riders_4 ⟨Nat.zero_le _, Nat.zero_le _⟩ (fun H locs I => ?_)
  obtain ⟨σ4, r5, h6, hf⟩ := o_obn hf
  refine j_iV (rest := []) I ⟨hx, hb, hml, hown, hts⟩ (ct_X6_fewestRiders σ1 _ h6) (cwV 0 hts gX9_riders_X6_fewestRiders rfl rfl rfl (by decide +kernel) ⟨Nat.le_of_ble_eq_true rfl, Nat.le_of_ble_eq_true rfl⟩) (by decide) (kc4 g Y _) rfl rfl hl.1 rfl (Nat.le_of_ble_eq_true rfl) dX9_riders_7 ⟨Nat.zero_le _, Nat.zero_le _⟩ (fun H locs I => ?_)
  exact j_iret I hx hb hr rfl hlk hf dX9_riders_10

theorem iw_X9_late_X2 : ∀ w ∈ u_ws RX2 TX2 11, w ∈ wsX9_late := fun _ h => List.mem_cons_of_mem _ (List.mem_append_left _ (List.mem_append_right _ h))
theorem iw_X9_late_X9 : ∀ w ∈ u_ws RX9 TX9 5, w ∈ wsX9_late := fun _ h => List.mem_cons_of_mem _ (List.mem_append_left _ (List.mem_append_left _ (List.mem_append_right _ h)))
set_option maxHeartbeats 4000000 in
set_option maxRecDepth 100000 in
theorem ct_X9_late {l : Launch} {D : va_G} {g : Nat → Nat} {Y : YT} {bP : Nat} (σ : St) (p0 : Int32) (p1 : Int32) (res : St × Int32) (hf : fX9_late σ p0 p1 = some res) : Ci l yX9_late wsX9_late ⟨2, 0, 0, 41⟩ D 44 g (KC g Y) Y bP [.ref (g 0), .int p0, .int p1] σ res := by
  intro sz
  refine Met.ofW (cc := cX9_late) (maxL := 4) (ret := (some .int)) (by decide) rfl ?_
  intro p e s m args below meth c s₁ B hml hv
  obtain ⟨rfl, rfl, I⟩ := j_start hv
  have C0 : MC p s m _ meth c cX9_late 4 (some .int) RX9 wsX9_late := ⟨B.exec, B.bytes, B.returns, hml, findClass_of_methodNamed B.named, atoms_spec (ws := wsX9_late) B.pre, B.notSynchronized⟩
  obtain ⟨hx, hb, hr, hml, hown, hts, hlk⟩ := id C0
  have hl := lv_entry ([.ref (g 0), .int p0, .int p1]) (n := 4) (Nat.le_of_ble_eq_true rfl)
  rw [lg_entry_eq]
  generalize (lg_sl ([.ref (g 0), .int p0, .int p1]) ++ List.replicate (4 - (lg_sl ([.ref (g 0), .int p0, .int p1])).length) Slot.unset).toArray = ls at hl ⊢
  have hl : lv_has ls 4 [(0, .ref (g 0)), (1, .int p0), (2, .int p1)] := hl
  rw [fX9_late] at hf
  refine lv_aload_n hx hb dX9_late_0 rfl (lv_at hl 0 rfl) ?_
  refine j_get I hx hb hts iw_X9_late_X9 hown 0 (by decide) (kc0 g Y _) rfl 2 (by decide) (hts (.fieldLink RX9 28 "ReelNight" "night" "LReelNight$Night;") (by decide +kernel)) rfl dX9_late_1 ?_
  refine lv_iload_n hx hb dX9_late_4 rfl (lv_at hl 1 rfl) ?_
  obtain ⟨σ1, r2, h3, hf⟩ := o_obn hf
  refine j_iV (rest := []) I ⟨hx, hb, hml, hown, hts⟩ (ct_X2_hasRide σ p0 _ h3) (cwV 1 hts gX9_late_X2_hasRide rfl rfl rfl (by decide +kernel) ⟨Nat.le_of_ble_eq_true rfl, Nat.le_of_ble_eq_true rfl⟩) (by decide) (kc3 g Y _) rfl rfl hl.1 rfl (Nat.le_of_ble_eq_true rfl) dX9_late_5 ⟨Nat.zero_le _, Nat.zero_le _⟩ (fun H locs I => ?_)
  refine lv_if_eq (tgt := 22) hx hb dX9_late_8 (by decide) (fun c4 => ?_) (fun c4 => ?_)
  · have hf := i_t c4 hf
    refine lv_ldc hx hb hown (hts (.constant RX9 52 (-1000000001)) (by decide +kernel)) dX9_late_22 ?_
    exact j_iret I hx hb hr rfl hlk hf dX9_late_24
  · have hf := i_f c4 hf
    refine lv_iload_n hx hb dX9_late_11 rfl (lv_at hl 2 rfl) ?_
    refine lv_iconst (v := 0) hx hb dX9_late_12 (by decide) ?_
    refine lv_sipush (v := 200) hx hb dX9_late_13 (by decide) ?_
    obtain ⟨σ5, r6, h7, hf⟩ := o_obn hf
    refine j_iS (rest := []) I ⟨hx, hb, hml, hown, hts⟩ (ct_X9_within σ1 p1 0 200 _ h7) (va_cwS 3 hts gX9_late_X9_within rfl rfl rfl (by decide +kernel) ⟨Nat.le_of_ble_eq_true rfl, Nat.le_of_ble_eq_true rfl⟩) rfl hl.1 rfl (Nat.le_of_ble_eq_true rfl) dX9_late_16 ⟨Nat.zero_le _, Nat.zero_le _⟩ (fun H locs I => ?_)
    refine lv_if_ne (tgt := 25) hx hb dX9_late_19 (by decide) (fun c8 => ?_) (fun c8 => ?_)
    · have hf := i_f c8 hf
      refine lv_aload_n hx hb dX9_late_25 rfl (lv_at hl 0 rfl) ?_
      refine j_get I hx hb hts iw_X9_late_X9 hown 0 (by decide) (kc0 g Y _) rfl 2 (by decide) (hts (.fieldLink RX9 28 "ReelNight" "night" "LReelNight$Night;") (by decide +kernel)) rfl dX9_late_26 ?_
      refine j_getN I hx hb hts iw_X9_late_X2 hown 3 (by decide) (kc3 g Y _) rfl 4 (by decide) (by decide +kernel) rfl dX9_late_29 ?_
      refine lv_iload_n hx hb dX9_late_32 rfl (lv_at hl 1 rfl) ?_
      obtain ⟨b9, hf⟩ := o_nb hf
      refine j_ald I hx hb 20 (by decide) (kc20 g Y _) b9 dX9_late_33 ?_
      obtain ⟨v10, ev10, hf⟩ := o_itp hf
      refine top_eq ev10 ?_
      refine lv_istore_n (lv' := [(3, .int v10), (0, .ref (g 0)), (1, .int p0), (2, .int p1)]) hx hb dX9_late_34 rfl hl (by decide) rfl (fun ls hl => ?_)
      refine lv_aload_n hx hb dX9_late_35 rfl (lv_at hl 1 rfl) ?_
      refine j_get I hx hb hts iw_X9_late_X9 hown 0 (by decide) (kc0 g Y _) rfl 2 (by decide) (hts (.fieldLink RX9 28 "ReelNight" "night" "LReelNight$Night;") (by decide +kernel)) rfl dX9_late_36 ?_
      refine j_getN I hx hb hts iw_X9_late_X2 hown 3 (by decide) (kc3 g Y _) rfl 4 (by decide) (by decide +kernel) rfl dX9_late_39 ?_
      refine lv_iload_n hx hb dX9_late_42 rfl (lv_at hl 2 rfl) ?_
      refine lv_iload_n hx hb dX9_late_43 rfl (lv_at hl 3 rfl) ?_
      obtain ⟨b11, hf⟩ := o_nb hf
      obtain ⟨σ12, eσ12, hf⟩ := o_stp hf
      refine j_ast I hx hb 20 (by decide) (kc20 g Y) b11 eσ12 dX9_late_44 (fun H locs I => ?_)
      refine lv_iload_n hx hb dX9_late_45 rfl (lv_at hl 0 rfl) ?_
      exact j_iret I hx hb hr rfl hlk hf dX9_late_46
    · have hf := i_t c8 hf
      refine lv_ldc hx hb hown (hts (.constant RX9 52 (-1000000001)) (by decide +kernel)) dX9_late_22 ?_
      exact j_iret I hx hb hr rfl hlk hf dX9_late_24

theorem iw_X9_begins_X2 : ∀ w ∈ u_ws RX2 TX2 11, w ∈ wsX9_begins := fun _ h => List.mem_cons_of_mem _ (List.mem_append_left _ (List.mem_append_left _ (List.mem_append_left _ (List.mem_append_right _ h))))
theorem iw_X9_begins_X9 : ∀ w ∈ u_ws RX9 TX9 5, w ∈ wsX9_begins := fun _ h => List.mem_cons_of_mem _ (List.mem_append_left _ (List.mem_append_left _ (List.mem_append_left _ (List.mem_append_left _ (List.mem_append_right _ h)))))
set_option maxHeartbeats 4000000 in
set_option maxRecDepth 100000 in
theorem ct_X9_begins {l : Launch} {D : va_G} {g : Nat → Nat} {Y : YT} {bP : Nat} (σ : St) (p0 : Int32) (p1 : Int32) (res : St × Int32) (hf : fX9_begins σ p0 p1 = some res) : Ci l yX9_begins wsX9_begins ⟨6, 0, 0, 123⟩ D 44 g (KC g Y) Y bP [.ref (g 0), .int p0, .int p1] σ res := by
  intro sz
  refine Met.ofW (cc := cX9_begins) (maxL := 3) (ret := (some .int)) (by decide) rfl ?_
  intro p e s m args below meth c s₁ B hml hv
  obtain ⟨rfl, rfl, I⟩ := j_start hv
  have C0 : MC p s m _ meth c cX9_begins 3 (some .int) RX9 wsX9_begins := ⟨B.exec, B.bytes, B.returns, hml, findClass_of_methodNamed B.named, atoms_spec (ws := wsX9_begins) B.pre, B.notSynchronized⟩
  obtain ⟨hx, hb, hr, hml, hown, hts, hlk⟩ := id C0
  have hl := lv_entry ([.ref (g 0), .int p0, .int p1]) (n := 3) (Nat.le_of_ble_eq_true rfl)
  rw [lg_entry_eq]
  generalize (lg_sl ([.ref (g 0), .int p0, .int p1]) ++ List.replicate (3 - (lg_sl ([.ref (g 0), .int p0, .int p1])).length) Slot.unset).toArray = ls at hl ⊢
  have hl : lv_has ls 3 [(0, .ref (g 0)), (1, .int p0), (2, .int p1)] := hl
  rw [fX9_begins] at hf
  refine lv_aload_n hx hb dX9_begins_0 rfl (lv_at hl 0 rfl) ?_
  refine j_get I hx hb hts iw_X9_begins_X9 hown 0 (by decide) (kc0 g Y _) rfl 2 (by decide) (hts (.fieldLink RX9 28 "ReelNight" "night" "LReelNight$Night;") (by decide +kernel)) rfl dX9_begins_1 ?_
  refine lv_iload_n hx hb dX9_begins_4 rfl (lv_at hl 1 rfl) ?_
  obtain ⟨σ1, r2, h3, hf⟩ := o_obn hf
  refine j_iV (rest := []) I ⟨hx, hb, hml, hown, hts⟩ (ct_X2_has σ p0 _ h3) (cwV 1 hts gX9_begins_X2_has rfl rfl rfl (by decide +kernel) ⟨Nat.le_of_ble_eq_true rfl, Nat.le_of_ble_eq_true rfl⟩) (by decide) (kc3 g Y _) rfl rfl hl.1 rfl (Nat.le_of_ble_eq_true rfl) dX9_begins_5 ⟨Nat.zero_le _, Nat.zero_le _⟩ (fun H locs I => ?_)
  refine lv_if_eq (tgt := 22) hx hb dX9_begins_8 (by decide) (fun c4 => ?_) (fun c4 => ?_)
  · have hf := i_t c4 hf
    refine lv_ldc hx hb hown (hts (.constant RX9 52 (-1000000001)) (by decide +kernel)) dX9_begins_22 ?_
    exact j_iret I hx hb hr rfl hlk hf dX9_begins_24
  · have hf := i_f c4 hf
    refine lv_aload_n hx hb dX9_begins_11 rfl (lv_at hl 0 rfl) ?_
    refine j_get I hx hb hts iw_X9_begins_X9 hown 0 (by decide) (kc0 g Y _) rfl 1 (by decide) (hts (.fieldLink RX9 19 "ReelNight" "reels" "LReelNight$Reels;") (by decide +kernel)) rfl dX9_begins_12 ?_
    refine lv_iload_n hx hb dX9_begins_15 rfl (lv_at hl 2 rfl) ?_
    obtain ⟨σ5, r6, h7, hf⟩ := o_obn hf
    refine j_iV (rest := []) I ⟨hx, hb, hml, hown, hts⟩ (ct_X5_has σ1 p1 _ h7) (cwV 1 hts gX9_begins_X5_has rfl rfl rfl (by decide +kernel) ⟨Nat.le_of_ble_eq_true rfl, Nat.le_of_ble_eq_true rfl⟩) (by decide) (kc2 g Y _) rfl rfl hl.1 rfl (Nat.le_of_ble_eq_true rfl) dX9_begins_16 ⟨Nat.zero_le _, Nat.zero_le _⟩ (fun H locs I => ?_)
    refine lv_if_ne (tgt := 25) hx hb dX9_begins_19 (by decide) (fun c8 => ?_) (fun c8 => ?_)
    · have hf := i_f c8 hf
      refine lv_aload_n hx hb dX9_begins_25 rfl (lv_at hl 0 rfl) ?_
      refine j_get I hx hb hts iw_X9_begins_X9 hown 0 (by decide) (kc0 g Y _) rfl 2 (by decide) (hts (.fieldLink RX9 28 "ReelNight" "night" "LReelNight$Night;") (by decide +kernel)) rfl dX9_begins_26 ?_
      obtain ⟨σ9, r10, h11, hf⟩ := o_obn hf
      refine j_vV (rest := []) I ⟨hx, hb, hml, hown, hts⟩ (ct_X2_reckonShows σ5 _ h11) (cwV 0 hts gX9_begins_X2_reckonShows rfl rfl rfl (by decide +kernel) ⟨Nat.le_of_ble_eq_true rfl, Nat.le_of_ble_eq_true rfl⟩) (by decide) (kc3 g Y _) rfl rfl hl.1 rfl (Nat.le_of_ble_eq_true rfl) dX9_begins_29 ⟨Nat.zero_le _, Nat.zero_le _⟩ (fun H locs I => ?_)
      refine lv_aload_n hx hb dX9_begins_32 rfl (lv_at hl 0 rfl) ?_
      refine j_get I hx hb hts iw_X9_begins_X9 hown 0 (by decide) (kc0 g Y _) rfl 2 (by decide) (hts (.fieldLink RX9 28 "ReelNight" "night" "LReelNight$Night;") (by decide +kernel)) rfl dX9_begins_33 ?_
      refine j_getN I hx hb hts iw_X9_begins_X2 hown 3 (by decide) (kc3 g Y _) rfl 8 (by decide) (by decide +kernel) rfl dX9_begins_36 ?_
      refine lv_iload_n hx hb dX9_begins_39 rfl (lv_at hl 1 rfl) ?_
      refine lv_iload_n hx hb dX9_begins_40 rfl (lv_at hl 2 rfl) ?_
      obtain ⟨σ12, r13, h14, hf⟩ := o_obn hf
      refine j_iS (rest := [.ref (g 23)]) I ⟨hx, hb, hml, hown, hts⟩ (ct_X2_cell σ9 p0 p1 _ h14) (va_cwS 2 hts gX9_begins_X2_cell rfl rfl rfl (by decide +kernel) ⟨Nat.le_of_ble_eq_true rfl, Nat.le_of_ble_eq_true rfl⟩) rfl hl.1 rfl (Nat.le_of_ble_eq_true rfl) dX9_begins_41 ⟨Nat.zero_le _, Nat.zero_le _⟩ (fun H locs I => ?_)
      obtain ⟨b15, hf⟩ := o_nb hf
      refine j_ald I hx hb 23 (by decide) (kc23 g Y _) b15 dX9_begins_44 ?_
      exact j_iret I hx hb hr rfl hlk hf dX9_begins_45
    · have hf := i_t c8 hf
      refine lv_ldc hx hb hown (hts (.constant RX9 52 (-1000000001)) (by decide +kernel)) dX9_begins_22 ?_
      exact j_iret I hx hb hr rfl hlk hf dX9_begins_24

theorem iw_X9_waited_X9 : ∀ w ∈ u_ws RX9 TX9 5, w ∈ wsX9_waited := fun _ h => List.mem_cons_of_mem _ (List.mem_append_left _ (List.mem_append_left _ (List.mem_append_left _ (List.mem_append_left _ (List.mem_append_right _ h)))))
set_option maxHeartbeats 4000000 in
set_option maxRecDepth 100000 in
theorem ct_X9_waited {l : Launch} {D : va_G} {g : Nat → Nat} {Y : YT} {bP : Nat} (σ : St) (p0 : Int32) (res : St × Int32) (hf : fX9_waited σ p0 = some res) : Ci l yX9_waited wsX9_waited ⟨6, 0, 0, 123⟩ D 44 g (KC g Y) Y bP [.ref (g 0), .int p0] σ res := by
  intro sz
  refine Met.ofW (cc := cX9_waited) (maxL := 2) (ret := (some .int)) (by decide) rfl ?_
  intro p e s m args below meth c s₁ B hml hv
  obtain ⟨rfl, rfl, I⟩ := j_start hv
  have C0 : MC p s m _ meth c cX9_waited 2 (some .int) RX9 wsX9_waited := ⟨B.exec, B.bytes, B.returns, hml, findClass_of_methodNamed B.named, atoms_spec (ws := wsX9_waited) B.pre, B.notSynchronized⟩
  obtain ⟨hx, hb, hr, hml, hown, hts, hlk⟩ := id C0
  have hl := lv_entry ([.ref (g 0), .int p0]) (n := 2) (Nat.le_of_ble_eq_true rfl)
  rw [lg_entry_eq]
  generalize (lg_sl ([.ref (g 0), .int p0]) ++ List.replicate (2 - (lg_sl ([.ref (g 0), .int p0])).length) Slot.unset).toArray = ls at hl ⊢
  have hl : lv_has ls 2 [(0, .ref (g 0)), (1, .int p0)] := hl
  rw [fX9_waited] at hf
  refine lv_aload_n hx hb dX9_waited_0 rfl (lv_at hl 0 rfl) ?_
  refine j_get I hx hb hts iw_X9_waited_X9 hown 0 (by decide) (kc0 g Y _) rfl 2 (by decide) (hts (.fieldLink RX9 28 "ReelNight" "night" "LReelNight$Night;") (by decide +kernel)) rfl dX9_waited_1 ?_
  refine lv_iload_n hx hb dX9_waited_4 rfl (lv_at hl 1 rfl) ?_
  obtain ⟨σ1, r2, h3, hf⟩ := o_obn hf
  refine j_iV (rest := []) I ⟨hx, hb, hml, hown, hts⟩ (ct_X2_has σ p0 _ h3) (cwV 1 hts gX9_waited_X2_has rfl rfl rfl (by decide +kernel) ⟨Nat.le_of_ble_eq_true rfl, Nat.le_of_ble_eq_true rfl⟩) (by decide) (kc3 g Y _) rfl rfl hl.1 rfl (Nat.le_of_ble_eq_true rfl) dX9_waited_5 ⟨Nat.zero_le _, Nat.zero_le _⟩ (fun H locs I => ?_)
  refine lv_if_ne (tgt := 14) hx hb dX9_waited_8 (by decide) (fun c4 => ?_) (fun c4 => ?_)
  · have hf := i_f c4 hf
    refine lv_aload_n hx hb dX9_waited_14 rfl (lv_at hl 0 rfl) ?_
    refine j_get I hx hb hts iw_X9_waited_X9 hown 0 (by decide) (kc0 g Y _) rfl 2 (by decide) (hts (.fieldLink RX9 28 "ReelNight" "night" "LReelNight$Night;") (by decide +kernel)) rfl dX9_waited_15 ?_
    obtain ⟨σ5, r6, h7, hf⟩ := o_obn hf
    refine j_vV (rest := []) I ⟨hx, hb, hml, hown, hts⟩ (ct_X2_reckonShows σ1 _ h7) (cwV 0 hts gX9_waited_X2_reckonShows rfl rfl rfl (by decide +kernel) ⟨Nat.le_of_ble_eq_true rfl, Nat.le_of_ble_eq_true rfl⟩) (by decide) (kc3 g Y _) rfl rfl hl.1 rfl (Nat.le_of_ble_eq_true rfl) dX9_waited_18 ⟨Nat.zero_le _, Nat.zero_le _⟩ (fun H locs I => ?_)
    refine lv_aload_n hx hb dX9_waited_21 rfl (lv_at hl 0 rfl) ?_
    refine j_get I hx hb hts iw_X9_waited_X9 hown 0 (by decide) (kc0 g Y _) rfl 2 (by decide) (hts (.fieldLink RX9 28 "ReelNight" "night" "LReelNight$Night;") (by decide +kernel)) rfl dX9_waited_22 ?_
    refine lv_iload_n hx hb dX9_waited_25 rfl (lv_at hl 1 rfl) ?_
    obtain ⟨σ8, r9, h10, hf⟩ := o_obn hf
    refine j_iV (rest := []) I ⟨hx, hb, hml, hown, hts⟩ (ct_X2_waitedAt σ5 p0 _ h10) (cwV 1 hts gX9_waited_X2_waitedAt rfl rfl rfl (by decide +kernel) ⟨Nat.le_of_ble_eq_true rfl, Nat.le_of_ble_eq_true rfl⟩) (by decide) (kc3 g Y _) rfl rfl hl.1 rfl (Nat.le_of_ble_eq_true rfl) dX9_waited_26 ⟨Nat.zero_le _, Nat.zero_le _⟩ (fun H locs I => ?_)
    exact j_iret I hx hb hr rfl hlk hf dX9_waited_29
  · have hf := i_t c4 hf
    refine lv_ldc hx hb hown (hts (.constant RX9 52 (-1000000001)) (by decide +kernel)) dX9_waited_11 ?_
    exact j_iret I hx hb hr rfl hlk hf dX9_waited_13

theorem iw_X9_cause_X2 : ∀ w ∈ u_ws RX2 TX2 11, w ∈ wsX9_cause := fun _ h => List.mem_cons_of_mem _ (List.mem_append_left _ (List.mem_append_left _ (List.mem_append_left _ (List.mem_append_right _ h))))
theorem iw_X9_cause_X9 : ∀ w ∈ u_ws RX9 TX9 5, w ∈ wsX9_cause := fun _ h => List.mem_cons_of_mem _ (List.mem_append_left _ (List.mem_append_left _ (List.mem_append_left _ (List.mem_append_left _ (List.mem_append_right _ h)))))
set_option maxHeartbeats 4000000 in
set_option maxRecDepth 100000 in
theorem ct_X9_cause {l : Launch} {D : va_G} {g : Nat → Nat} {Y : YT} {bP : Nat} (σ : St) (p0 : Int32) (p1 : Int32) (res : St × Int32) (hf : fX9_cause σ p0 p1 = some res) : Ci l yX9_cause wsX9_cause ⟨6, 0, 0, 123⟩ D 44 g (KC g Y) Y bP [.ref (g 0), .int p0, .int p1] σ res := by
  intro sz
  refine Met.ofW (cc := cX9_cause) (maxL := 3) (ret := (some .int)) (by decide) rfl ?_
  intro p e s m args below meth c s₁ B hml hv
  obtain ⟨rfl, rfl, I⟩ := j_start hv
  have C0 : MC p s m _ meth c cX9_cause 3 (some .int) RX9 wsX9_cause := ⟨B.exec, B.bytes, B.returns, hml, findClass_of_methodNamed B.named, atoms_spec (ws := wsX9_cause) B.pre, B.notSynchronized⟩
  obtain ⟨hx, hb, hr, hml, hown, hts, hlk⟩ := id C0
  have hl := lv_entry ([.ref (g 0), .int p0, .int p1]) (n := 3) (Nat.le_of_ble_eq_true rfl)
  rw [lg_entry_eq]
  generalize (lg_sl ([.ref (g 0), .int p0, .int p1]) ++ List.replicate (3 - (lg_sl ([.ref (g 0), .int p0, .int p1])).length) Slot.unset).toArray = ls at hl ⊢
  have hl : lv_has ls 3 [(0, .ref (g 0)), (1, .int p0), (2, .int p1)] := hl
  rw [fX9_cause] at hf
  refine lv_aload_n hx hb dX9_cause_0 rfl (lv_at hl 0 rfl) ?_
  refine j_get I hx hb hts iw_X9_cause_X9 hown 0 (by decide) (kc0 g Y _) rfl 2 (by decide) (hts (.fieldLink RX9 28 "ReelNight" "night" "LReelNight$Night;") (by decide +kernel)) rfl dX9_cause_1 ?_
  refine lv_iload_n hx hb dX9_cause_4 rfl (lv_at hl 1 rfl) ?_
  obtain ⟨σ1, r2, h3, hf⟩ := o_obn hf
  refine j_iV (rest := []) I ⟨hx, hb, hml, hown, hts⟩ (ct_X2_has σ p0 _ h3) (cwV 1 hts gX9_cause_X2_has rfl rfl rfl (by decide +kernel) ⟨Nat.le_of_ble_eq_true rfl, Nat.le_of_ble_eq_true rfl⟩) (by decide) (kc3 g Y _) rfl rfl hl.1 rfl (Nat.le_of_ble_eq_true rfl) dX9_cause_5 ⟨Nat.zero_le _, Nat.zero_le _⟩ (fun H locs I => ?_)
  refine lv_if_eq (tgt := 22) hx hb dX9_cause_8 (by decide) (fun c4 => ?_) (fun c4 => ?_)
  · have hf := i_t c4 hf
    refine lv_ldc hx hb hown (hts (.constant RX9 52 (-1000000001)) (by decide +kernel)) dX9_cause_22 ?_
    exact j_iret I hx hb hr rfl hlk hf dX9_cause_24
  · have hf := i_f c4 hf
    refine lv_aload_n hx hb dX9_cause_11 rfl (lv_at hl 0 rfl) ?_
    refine j_get I hx hb hts iw_X9_cause_X9 hown 0 (by decide) (kc0 g Y _) rfl 1 (by decide) (hts (.fieldLink RX9 19 "ReelNight" "reels" "LReelNight$Reels;") (by decide +kernel)) rfl dX9_cause_12 ?_
    refine lv_iload_n hx hb dX9_cause_15 rfl (lv_at hl 2 rfl) ?_
    obtain ⟨σ5, r6, h7, hf⟩ := o_obn hf
    refine j_iV (rest := []) I ⟨hx, hb, hml, hown, hts⟩ (ct_X5_has σ1 p1 _ h7) (cwV 1 hts gX9_cause_X5_has rfl rfl rfl (by decide +kernel) ⟨Nat.le_of_ble_eq_true rfl, Nat.le_of_ble_eq_true rfl⟩) (by decide) (kc2 g Y _) rfl rfl hl.1 rfl (Nat.le_of_ble_eq_true rfl) dX9_cause_16 ⟨Nat.zero_le _, Nat.zero_le _⟩ (fun H locs I => ?_)
    refine lv_if_ne (tgt := 25) hx hb dX9_cause_19 (by decide) (fun c8 => ?_) (fun c8 => ?_)
    · have hf := i_f c8 hf
      refine lv_aload_n hx hb dX9_cause_25 rfl (lv_at hl 0 rfl) ?_
      refine j_get I hx hb hts iw_X9_cause_X9 hown 0 (by decide) (kc0 g Y _) rfl 2 (by decide) (hts (.fieldLink RX9 28 "ReelNight" "night" "LReelNight$Night;") (by decide +kernel)) rfl dX9_cause_26 ?_
      obtain ⟨σ9, r10, h11, hf⟩ := o_obn hf
      refine j_vV (rest := []) I ⟨hx, hb, hml, hown, hts⟩ (ct_X2_reckonShows σ5 _ h11) (cwV 0 hts gX9_cause_X2_reckonShows rfl rfl rfl (by decide +kernel) ⟨Nat.le_of_ble_eq_true rfl, Nat.le_of_ble_eq_true rfl⟩) (by decide) (kc3 g Y _) rfl rfl hl.1 rfl (Nat.le_of_ble_eq_true rfl) dX9_cause_29 ⟨Nat.zero_le _, Nat.zero_le _⟩ (fun H locs I => ?_)
      refine lv_aload_n hx hb dX9_cause_32 rfl (lv_at hl 0 rfl) ?_
      refine j_get I hx hb hts iw_X9_cause_X9 hown 0 (by decide) (kc0 g Y _) rfl 2 (by decide) (hts (.fieldLink RX9 28 "ReelNight" "night" "LReelNight$Night;") (by decide +kernel)) rfl dX9_cause_33 ?_
      refine j_getN I hx hb hts iw_X9_cause_X2 hown 3 (by decide) (kc3 g Y _) rfl 10 (by decide) (by decide +kernel) rfl dX9_cause_36 ?_
      refine lv_iload_n hx hb dX9_cause_39 rfl (lv_at hl 1 rfl) ?_
      refine lv_iload_n hx hb dX9_cause_40 rfl (lv_at hl 2 rfl) ?_
      obtain ⟨σ12, r13, h14, hf⟩ := o_obn hf
      refine j_iS (rest := [.ref (g 25)]) I ⟨hx, hb, hml, hown, hts⟩ (ct_X2_cell σ9 p0 p1 _ h14) (va_cwS 2 hts gX9_cause_X2_cell rfl rfl rfl (by decide +kernel) ⟨Nat.le_of_ble_eq_true rfl, Nat.le_of_ble_eq_true rfl⟩) rfl hl.1 rfl (Nat.le_of_ble_eq_true rfl) dX9_cause_41 ⟨Nat.zero_le _, Nat.zero_le _⟩ (fun H locs I => ?_)
      obtain ⟨b15, hf⟩ := o_nb hf
      refine j_ald I hx hb 25 (by decide) (kc25 g Y _) b15 dX9_cause_44 ?_
      exact j_iret I hx hb hr rfl hlk hf dX9_cause_45
    · have hf := i_t c8 hf
      refine lv_ldc hx hb hown (hts (.constant RX9 52 (-1000000001)) (by decide +kernel)) dX9_cause_22 ?_
      exact j_iret I hx hb hr rfl hlk hf dX9_cause_24
