theorem iw_X9_where_X2 : ∀ w ∈ u_ws RX2 TX2 11, w ∈ wsX9_where := fun _ h => List.mem_cons_of_mem _ (List.mem_append_left _ (List.mem_append_left _ (List.mem_append_left _ (List.mem_append_right _ h))))
theorem iw_X9_where_X9 : ∀ w ∈ u_ws RX9 TX9 5, w ∈ wsX9_where := fun _ h => List.mem_cons_of_mem _ (List.mem_append_left _ (List.mem_append_left _ (List.mem_append_left _ (List.mem_append_left _ (List.mem_append_right _ h)))))
set_option maxHeartbeats 4000000 in
set_option maxRecDepth 100000 in
theorem ct_X9_where {l : Launch} {D : va_G} {g : Nat → Nat} {Y : YT} {bP : Nat} (σ : St) (p0 : Int32) (p1 : Int32) (res : St × Int32) (hf : fX9_where σ p0 p1 = some res) : Ci l yX9_where wsX9_where ⟨6, 0, 0, 123⟩ D 44 g (KC g Y) Y bP [.ref (g 0), .int p0, .int p1] σ res := by
  intro sz
  refine Met.ofW (cc := cX9_where) (maxL := 3) (ret := (some .int)) (by decide) rfl ?_
  intro p e s m args below meth c s₁ B hml hv
  obtain ⟨rfl, rfl, I⟩ := j_start hv
  have C0 : MC p s m _ meth c cX9_where 3 (some .int) RX9 wsX9_where := ⟨B.exec, B.bytes, B.returns, hml, findClass_of_methodNamed B.named, atoms_spec (ws := wsX9_where) B.pre, B.notSynchronized⟩
  obtain ⟨hx, hb, hr, hml, hown, hts, hlk⟩ := id C0
  have hl := lv_entry ([.ref (g 0), .int p0, .int p1]) (n := 3) (Nat.le_of_ble_eq_true rfl)
  rw [lg_entry_eq]
  generalize (lg_sl ([.ref (g 0), .int p0, .int p1]) ++ List.replicate (3 - (lg_sl ([.ref (g 0), .int p0, .int p1])).length) Slot.unset).toArray = ls at hl ⊢
  have hl : lv_has ls 3 [(0, .ref (g 0)), (1, .int p0), (2, .int p1)] := hl
  rw [fX9_where] at hf
  refine lv_aload_n hx hb dX9_where_0 rfl (lv_at hl 0 rfl) ?_
  refine j_get I hx hb hts iw_X9_where_X9 hown 0 (by decide) (kc0 g Y _) rfl 1 (by decide) (hts (.fieldLink RX9 19 "ReelNight" "reels" "LReelNight$Reels;") (by decide +kernel)) rfl dX9_where_1 ?_
  refine lv_iload_n hx hb dX9_where_4 rfl (lv_at hl 1 rfl) ?_
  obtain ⟨σ1, r2, h3, hf⟩ := o_obn hf
  refine j_iV (rest := []) I ⟨hx, hb, hml, hown, hts⟩ (ct_X5_has σ p0 _ h3) (cwV 1 hts gX9_where_X5_has rfl rfl rfl (by decide +kernel) ⟨Nat.le_of_ble_eq_true rfl, Nat.le_of_ble_eq_true rfl⟩) (by decide) (kc2 g Y _) rfl rfl hl.1 rfl (Nat.le_of_ble_eq_true rfl) dX9_where_5 ⟨Nat.zero_le _, Nat.zero_le _⟩ (fun H locs I => ?_)
  refine lv_if_eq (tgt := 22) hx hb dX9_where_8 (by decide) (fun c4 => ?_) (fun c4 => ?_)
  · have hf := i_t c4 hf
    refine lv_ldc hx hb hown (hts (.constant RX9 52 (-1000000001)) (by decide +kernel)) dX9_where_22 ?_
    exact j_iret I hx hb hr rfl hlk hf dX9_where_24
  · have hf := i_f c4 hf
    refine lv_iload_n hx hb dX9_where_11 rfl (lv_at hl 2 rfl) ?_
    refine lv_iconst (v := 0) hx hb dX9_where_12 (by decide) ?_
    refine lv_sipush (v := 9999) hx hb dX9_where_13 (by decide) ?_
    obtain ⟨σ5, r6, h7, hf⟩ := o_obn hf
    refine j_iS (rest := []) I ⟨hx, hb, hml, hown, hts⟩ (ct_X9_within σ1 p1 0 9999 _ h7) (va_cwS 3 hts gX9_where_X9_within rfl rfl rfl (by decide +kernel) ⟨Nat.le_of_ble_eq_true rfl, Nat.le_of_ble_eq_true rfl⟩) rfl hl.1 rfl (Nat.le_of_ble_eq_true rfl) dX9_where_16 ⟨Nat.zero_le _, Nat.zero_le _⟩ (fun H locs I => ?_)
    refine lv_if_ne (tgt := 25) hx hb dX9_where_19 (by decide) (fun c8 => ?_) (fun c8 => ?_)
    · have hf := i_f c8 hf
      refine lv_aload_n hx hb dX9_where_25 rfl (lv_at hl 0 rfl) ?_
      refine j_get I hx hb hts iw_X9_where_X9 hown 0 (by decide) (kc0 g Y _) rfl 2 (by decide) (hts (.fieldLink RX9 28 "ReelNight" "night" "LReelNight$Night;") (by decide +kernel)) rfl dX9_where_26 ?_
      refine j_getN I hx hb hts iw_X9_where_X2 hown 3 (by decide) (kc3 g Y _) rfl 5 (by decide) (by decide +kernel) rfl dX9_where_29 ?_
      refine lv_if_ne (tgt := 38) hx hb dX9_where_32 (by decide) (fun c9 => ?_) (fun c9 => ?_)
      · have hf := i_f c9 hf
        refine lv_aload_n hx hb dX9_where_38 rfl (lv_at hl 0 rfl) ?_
        refine j_get I hx hb hts iw_X9_where_X9 hown 0 (by decide) (kc0 g Y _) rfl 2 (by decide) (hts (.fieldLink RX9 28 "ReelNight" "night" "LReelNight$Night;") (by decide +kernel)) rfl dX9_where_39 ?_
        obtain ⟨σ10, r11, h12, hf⟩ := o_obn hf
        refine j_vV (rest := []) I ⟨hx, hb, hml, hown, hts⟩ (ct_X2_reckonShows σ5 _ h12) (cwV 0 hts gX9_where_X2_reckonShows rfl rfl rfl (by decide +kernel) ⟨Nat.le_of_ble_eq_true rfl, Nat.le_of_ble_eq_true rfl⟩) (by decide) (kc3 g Y _) rfl rfl hl.1 rfl (Nat.le_of_ble_eq_true rfl) dX9_where_42 ⟨Nat.zero_le _, Nat.zero_le _⟩ (fun H locs I => ?_)
        refine lv_aload_n hx hb dX9_where_45 rfl (lv_at hl 0 rfl) ?_
        refine j_get I hx hb hts iw_X9_where_X9 hown 0 (by decide) (kc0 g Y _) rfl 2 (by decide) (hts (.fieldLink RX9 28 "ReelNight" "night" "LReelNight$Night;") (by decide +kernel)) rfl dX9_where_46 ?_
        refine lv_iload_n hx hb dX9_where_49 rfl (lv_at hl 1 rfl) ?_
        refine lv_iload_n hx hb dX9_where_50 rfl (lv_at hl 2 rfl) ?_
        obtain ⟨σ13, r14, h15, hf⟩ := o_obn hf
        refine j_iV (rest := []) I ⟨hx, hb, hml, hown, hts⟩ (ct_X2_whereIs σ10 p0 p1 _ h15) (cwV 2 hts gX9_where_X2_whereIs rfl rfl rfl (by decide +kernel) ⟨Nat.le_of_ble_eq_true rfl, Nat.le_of_ble_eq_true rfl⟩) (by decide) (kc3 g Y _) rfl rfl hl.1 rfl (Nat.le_of_ble_eq_true rfl) dX9_where_51 ⟨Nat.zero_le _, Nat.zero_le _⟩ (fun H locs I => ?_)
        exact j_iret I hx hb hr rfl hlk hf dX9_where_54
      · have hf := i_t c9 hf
        refine lv_ldc hx hb hown (hts (.constant RX9 165 (-1000000005)) (by decide +kernel)) dX9_where_35 ?_
        exact j_iret I hx hb hr rfl hlk hf dX9_where_37
    · have hf := i_t c8 hf
      refine lv_ldc hx hb hown (hts (.constant RX9 52 (-1000000001)) (by decide +kernel)) dX9_where_22 ?_
      exact j_iret I hx hb hr rfl hlk hf dX9_where_24

theorem iw_X9_film_X0 : ∀ w ∈ u_ws RX0 TX0 7, w ∈ wsX9_film := fun _ h => List.mem_cons_of_mem _ (List.mem_append_right _ h)
theorem iw_X9_film_X9 : ∀ w ∈ u_ws RX9 TX9 5, w ∈ wsX9_film := fun _ h => List.mem_cons_of_mem _ (List.mem_append_left _ (List.mem_append_right _ h))
set_option maxHeartbeats 4000000 in
set_option maxRecDepth 100000 in
theorem ct_X9_film {l : Launch} {D : va_G} {g : Nat → Nat} {Y : YT} {bP : Nat} (σ : St) (res : St × Int32) (hf : fX9_film σ = some res) : Ci l yX9_film wsX9_film ⟨1, 0, 0, 20⟩ D 44 g (KC g Y) Y bP [.ref (g 0)] σ res := by
  intro sz
  refine Met.ofW (cc := cX9_film) (maxL := 1) (ret := (some .int)) (by decide) rfl ?_
  intro p e s m args below meth c s₁ B hml hv
  obtain ⟨rfl, rfl, I⟩ := j_start hv
  have C0 : MC p s m _ meth c cX9_film 1 (some .int) RX9 wsX9_film := ⟨B.exec, B.bytes, B.returns, hml, findClass_of_methodNamed B.named, atoms_spec (ws := wsX9_film) B.pre, B.notSynchronized⟩
  obtain ⟨hx, hb, hr, hml, hown, hts, hlk⟩ := id C0
  have hl := lv_entry ([.ref (g 0)]) (n := 1) (Nat.le_of_ble_eq_true rfl)
  rw [lg_entry_eq]
  generalize (lg_sl ([.ref (g 0)]) ++ List.replicate (1 - (lg_sl ([.ref (g 0)])).length) Slot.unset).toArray = ls at hl ⊢
  have hl : lv_has ls 1 [(0, .ref (g 0))] := hl
  rw [fX9_film] at hf
  refine lv_aload_n hx hb dX9_film_0 rfl (lv_at hl 0 rfl) ?_
  refine j_get I hx hb hts iw_X9_film_X9 hown 0 (by decide) (kc0 g Y _) rfl 3 (by decide) (hts (.fieldLink RX9 37 "ReelNight" "bookings" "LReelNight$Bookings;") (by decide +kernel)) rfl dX9_film_1 ?_
  refine j_getN I hx hb hts iw_X9_film_X0 hown 5 (by decide) (kc5 g Y _) rfl 6 (by decide) (by decide +kernel) rfl dX9_film_4 ?_
  refine lv_iconst (v := 5) hx hb dX9_film_7 (by decide) ?_
  refine lv_icmp_lt (tgt := 16) hx hb dX9_film_8 (by decide) (fun c1 => ?_) (fun c1 => ?_)
  · have hf := i_t c1 hf
    refine lv_aload_n hx hb dX9_film_16 rfl (lv_at hl 0 rfl) ?_
    refine j_get I hx hb hts iw_X9_film_X9 hown 0 (by decide) (kc0 g Y _) rfl 3 (by decide) (hts (.fieldLink RX9 37 "ReelNight" "bookings" "LReelNight$Bookings;") (by decide +kernel)) rfl dX9_film_17 ?_
    obtain ⟨σ2, r3, h4, hf⟩ := o_obn hf
    refine j_iV (rest := []) I ⟨hx, hb, hml, hown, hts⟩ (ct_X0_addFilm σ _ h4) (cwV 0 hts gX9_film_X0_addFilm rfl rfl rfl (by decide +kernel) ⟨Nat.le_of_ble_eq_true rfl, Nat.le_of_ble_eq_true rfl⟩) (by decide) (kc5 g Y _) rfl rfl hl.1 rfl (Nat.le_of_ble_eq_true rfl) dX9_film_20 ⟨Nat.zero_le _, Nat.zero_le _⟩ (fun H locs I => ?_)
    exact j_iret I hx hb hr rfl hlk hf dX9_film_23
  · have hf := i_f c1 hf
    refine lv_ldc hx hb hown (hts (.constant RX9 57 (-1000000003)) (by decide +kernel)) dX9_film_11 ?_
    refine lv_goto (tgt := 23) hx hb dX9_film_13 (by decide) ?_
    exact j_iret I hx hb hr rfl hlk hf dX9_film_23

theorem iw_X9_worth_X0 : ∀ w ∈ u_ws RX0 TX0 7, w ∈ wsX9_worth := fun _ h => List.mem_cons_of_mem _ (List.mem_append_left _ (List.mem_append_right _ h))
theorem iw_X9_worth_X9 : ∀ w ∈ u_ws RX9 TX9 5, w ∈ wsX9_worth := fun _ h => List.mem_cons_of_mem _ (List.mem_append_left _ (List.mem_append_left _ (List.mem_append_right _ h)))
set_option maxHeartbeats 4000000 in
set_option maxRecDepth 100000 in
theorem ct_X9_worth {l : Launch} {D : va_G} {g : Nat → Nat} {Y : YT} {bP : Nat} (σ : St) (p0 : Int32) (p1 : Int32) (p2 : Int32) (res : St × Int32) (hf : fX9_worth σ p0 p1 p2 = some res) : Ci l yX9_worth wsX9_worth ⟨1, 0, 0, 22⟩ D 44 g (KC g Y) Y bP [.ref (g 0), .int p0, .int p1, .int p2] σ res := by
  intro sz
  refine Met.ofW (cc := cX9_worth) (maxL := 6) (ret := (some .int)) (by decide) rfl ?_
  intro p e s m args below meth c s₁ B hml hv
  obtain ⟨rfl, rfl, I⟩ := j_start hv
  have C0 : MC p s m _ meth c cX9_worth 6 (some .int) RX9 wsX9_worth := ⟨B.exec, B.bytes, B.returns, hml, findClass_of_methodNamed B.named, atoms_spec (ws := wsX9_worth) B.pre, B.notSynchronized⟩
  obtain ⟨hx, hb, hr, hml, hown, hts, hlk⟩ := id C0
  have hl := lv_entry ([.ref (g 0), .int p0, .int p1, .int p2]) (n := 6) (Nat.le_of_ble_eq_true rfl)
  rw [lg_entry_eq]
  generalize (lg_sl ([.ref (g 0), .int p0, .int p1, .int p2]) ++ List.replicate (6 - (lg_sl ([.ref (g 0), .int p0, .int p1, .int p2])).length) Slot.unset).toArray = ls at hl ⊢
  have hl : lv_has ls 6 [(0, .ref (g 0)), (1, .int p0), (2, .int p1), (3, .int p2)] := hl
  rw [fX9_worth] at hf
  refine lv_aload_n hx hb dX9_worth_0 rfl (lv_at hl 0 rfl) ?_
  refine j_get I hx hb hts iw_X9_worth_X9 hown 0 (by decide) (kc0 g Y _) rfl 3 (by decide) (hts (.fieldLink RX9 37 "ReelNight" "bookings" "LReelNight$Bookings;") (by decide +kernel)) rfl dX9_worth_1 ?_
  refine lv_iload_n hx hb dX9_worth_4 rfl (lv_at hl 1 rfl) ?_
  obtain ⟨σ1, r2, h3, hf⟩ := o_obn hf
  refine j_iV (rest := []) I ⟨hx, hb, hml, hown, hts⟩ (ct_X0_hasFilm σ p0 _ h3) (cwV 1 hts gX9_worth_X0_hasFilm rfl rfl rfl (by decide +kernel) ⟨Nat.le_of_ble_eq_true rfl, Nat.le_of_ble_eq_true rfl⟩) (by decide) (kc5 g Y _) rfl rfl hl.1 rfl (Nat.le_of_ble_eq_true rfl) dX9_worth_5 ⟨Nat.zero_le _, Nat.zero_le _⟩ (fun H locs I => ?_)
  refine lv_if_eq (tgt := 33) hx hb dX9_worth_8 (by decide) (fun c4 => ?_) (fun c4 => ?_)
  · have hf := i_t c4 hf
    refine lv_ldc hx hb hown (hts (.constant RX9 52 (-1000000001)) (by decide +kernel)) dX9_worth_33 ?_
    exact j_iret I hx hb hr rfl hlk hf dX9_worth_35
  · have hf := i_f c4 hf
    refine lv_aload_n hx hb dX9_worth_11 rfl (lv_at hl 0 rfl) ?_
    refine j_get I hx hb hts iw_X9_worth_X9 hown 0 (by decide) (kc0 g Y _) rfl 0 (by decide) (hts (.fieldLink RX9 12 "ReelNight" "houses" "LReelNight$Houses;") (by decide +kernel)) rfl dX9_worth_12 ?_
    refine lv_iload_n hx hb dX9_worth_15 rfl (lv_at hl 2 rfl) ?_
    obtain ⟨σ5, r6, h7, hf⟩ := o_obn hf
    refine j_iV (rest := []) I ⟨hx, hb, hml, hown, hts⟩ (ct_X1_has σ1 p1 _ h7) (cwV 1 hts gX9_worth_X1_has rfl rfl rfl (by decide +kernel) ⟨Nat.le_of_ble_eq_true rfl, Nat.le_of_ble_eq_true rfl⟩) (by decide) (kc1 g Y _) rfl rfl hl.1 rfl (Nat.le_of_ble_eq_true rfl) dX9_worth_16 ⟨Nat.zero_le _, Nat.zero_le _⟩ (fun H locs I => ?_)
    refine lv_if_eq (tgt := 33) hx hb dX9_worth_19 (by decide) (fun c8 => ?_) (fun c8 => ?_)
    · have hf := i_t c8 hf
      refine lv_ldc hx hb hown (hts (.constant RX9 52 (-1000000001)) (by decide +kernel)) dX9_worth_33 ?_
      exact j_iret I hx hb hr rfl hlk hf dX9_worth_35
    · have hf := i_f c8 hf
      refine lv_iload_n hx hb dX9_worth_22 rfl (lv_at hl 3 rfl) ?_
      refine lv_iconst (v := 0) hx hb dX9_worth_23 (by decide) ?_
      refine lv_sipush (v := 999) hx hb dX9_worth_24 (by decide) ?_
      obtain ⟨σ9, r10, h11, hf⟩ := o_obn hf
      refine j_iS (rest := []) I ⟨hx, hb, hml, hown, hts⟩ (ct_X9_within σ5 p2 0 999 _ h11) (va_cwS 3 hts gX9_worth_X9_within rfl rfl rfl (by decide +kernel) ⟨Nat.le_of_ble_eq_true rfl, Nat.le_of_ble_eq_true rfl⟩) rfl hl.1 rfl (Nat.le_of_ble_eq_true rfl) dX9_worth_27 ⟨Nat.zero_le _, Nat.zero_le _⟩ (fun H locs I => ?_)
      refine lv_if_ne (tgt := 36) hx hb dX9_worth_30 (by decide) (fun c12 => ?_) (fun c12 => ?_)
      · have hf := i_f c12 hf
        refine lv_iload_n hx hb dX9_worth_36 rfl (lv_at hl 1 rfl) ?_
        refine lv_iload_n hx hb dX9_worth_37 rfl (lv_at hl 2 rfl) ?_
        obtain ⟨σ13, r14, h15, hf⟩ := o_obn hf
        refine j_iS (rest := []) I ⟨hx, hb, hml, hown, hts⟩ (ct_X0_cell σ9 p0 p1 _ h15) (va_cwS 2 hts gX9_worth_X0_cell rfl rfl rfl (by decide +kernel) ⟨Nat.le_of_ble_eq_true rfl, Nat.le_of_ble_eq_true rfl⟩) rfl hl.1 rfl (Nat.le_of_ble_eq_true rfl) dX9_worth_38 ⟨Nat.zero_le _, Nat.zero_le _⟩ (fun H locs I => ?_)
        refine lv_istore (lv' := [(4, .int r14), (0, .ref (g 0)), (1, .int p0), (2, .int p1), (3, .int p2)]) hx hb dX9_worth_41 hl (by decide) rfl (fun ls hl => ?_)
        refine lv_aload_n hx hb dX9_worth_43 rfl (lv_at hl 1 rfl) ?_
        refine j_get I hx hb hts iw_X9_worth_X9 hown 0 (by decide) (kc0 g Y _) rfl 3 (by decide) (hts (.fieldLink RX9 37 "ReelNight" "bookings" "LReelNight$Bookings;") (by decide +kernel)) rfl dX9_worth_44 ?_
        refine j_getN I hx hb hts iw_X9_worth_X0 hown 5 (by decide) (kc5 g Y _) rfl 2 (by decide) (by decide +kernel) rfl dX9_worth_47 ?_
        refine lv_iload hx hb dX9_worth_50 (lv_at hl 0 rfl) ?_
        obtain ⟨b16, hf⟩ := o_nb hf
        refine j_ald I hx hb 34 (by decide) (kc34 g Y _) b16 dX9_worth_52 ?_
        obtain ⟨v17, ev17, hf⟩ := o_itp hf
        refine top_eq ev17 ?_
        refine lv_istore (lv' := [(5, .int v17), (4, .int r14), (0, .ref (g 0)), (1, .int p0), (2, .int p1), (3, .int p2)]) hx hb dX9_worth_53 hl (by decide) rfl (fun ls hl => ?_)
        refine lv_aload_n hx hb dX9_worth_55 rfl (lv_at hl 2 rfl) ?_
        refine j_get I hx hb hts iw_X9_worth_X9 hown 0 (by decide) (kc0 g Y _) rfl 3 (by decide) (hts (.fieldLink RX9 37 "ReelNight" "bookings" "LReelNight$Bookings;") (by decide +kernel)) rfl dX9_worth_56 ?_
        refine j_getN I hx hb hts iw_X9_worth_X0 hown 5 (by decide) (kc5 g Y _) rfl 2 (by decide) (by decide +kernel) rfl dX9_worth_59 ?_
        refine lv_iload hx hb dX9_worth_62 (lv_at hl 1 rfl) ?_
        refine lv_iload_n hx hb dX9_worth_64 rfl (lv_at hl 5 rfl) ?_
        obtain ⟨b18, hf⟩ := o_nb hf
        obtain ⟨σ19, eσ19, hf⟩ := o_stp hf
        refine j_ast I hx hb 34 (by decide) (kc34 g Y) b18 eσ19 dX9_worth_65 (fun H locs I => ?_)
        refine lv_iload hx hb dX9_worth_66 (lv_at hl 0 rfl) ?_
        exact j_iret I hx hb hr rfl hlk hf dX9_worth_68
      · have hf := i_t c12 hf
        refine lv_ldc hx hb hown (hts (.constant RX9 52 (-1000000001)) (by decide +kernel)) dX9_worth_33 ?_
        exact j_iret I hx hb hr rfl hlk hf dX9_worth_35

theorem iw_X9_bar_X0 : ∀ w ∈ u_ws RX0 TX0 7, w ∈ wsX9_bar := fun _ h => List.mem_cons_of_mem _ (List.mem_append_left _ (List.mem_append_left _ (List.mem_append_right _ h)))
theorem iw_X9_bar_X9 : ∀ w ∈ u_ws RX9 TX9 5, w ∈ wsX9_bar := fun _ h => List.mem_cons_of_mem _ (List.mem_append_left _ (List.mem_append_left _ (List.mem_append_left _ (List.mem_append_right _ h))))
set_option maxHeartbeats 4000000 in
set_option maxRecDepth 100000 in
theorem ct_X9_bar {l : Launch} {D : va_G} {g : Nat → Nat} {Y : YT} {bP : Nat} (σ : St) (p0 : Int32) (p1 : Int32) (p2 : Int32) (res : St × Int32) (hf : fX9_bar σ p0 p1 p2 = some res) : Ci l yX9_bar wsX9_bar ⟨2, 0, 0, 46⟩ D 44 g (KC g Y) Y bP [.ref (g 0), .int p0, .int p1, .int p2] σ res := by
  intro sz
  refine Met.ofW (cc := cX9_bar) (maxL := 4) (ret := (some .int)) (by decide) rfl ?_
  intro p e s m args below meth c s₁ B hml hv
  obtain ⟨rfl, rfl, I⟩ := j_start hv
  have C0 : MC p s m _ meth c cX9_bar 4 (some .int) RX9 wsX9_bar := ⟨B.exec, B.bytes, B.returns, hml, findClass_of_methodNamed B.named, atoms_spec (ws := wsX9_bar) B.pre, B.notSynchronized⟩
  obtain ⟨hx, hb, hr, hml, hown, hts, hlk⟩ := id C0
  have hl := lv_entry ([.ref (g 0), .int p0, .int p1, .int p2]) (n := 4) (Nat.le_of_ble_eq_true rfl)
  rw [lg_entry_eq]
  generalize (lg_sl ([.ref (g 0), .int p0, .int p1, .int p2]) ++ List.replicate (4 - (lg_sl ([.ref (g 0), .int p0, .int p1, .int p2])).length) Slot.unset).toArray = ls at hl ⊢
  have hl : lv_has ls 4 [(0, .ref (g 0)), (1, .int p0), (2, .int p1), (3, .int p2)] := hl
  rw [fX9_bar] at hf
  refine lv_aload_n hx hb dX9_bar_0 rfl (lv_at hl 0 rfl) ?_
  refine j_get I hx hb hts iw_X9_bar_X9 hown 0 (by decide) (kc0 g Y _) rfl 0 (by decide) (hts (.fieldLink RX9 12 "ReelNight" "houses" "LReelNight$Houses;") (by decide +kernel)) rfl dX9_bar_1 ?_
  refine lv_iload_n hx hb dX9_bar_4 rfl (lv_at hl 1 rfl) ?_
  refine lv_iload_n hx hb dX9_bar_5 rfl (lv_at hl 2 rfl) ?_
  obtain ⟨σ1, r2, h3, hf⟩ := o_obn hf
  refine j_iV (rest := []) I ⟨hx, hb, hml, hown, hts⟩ (ct_X1_hasTwo σ p0 p1 _ h3) (cwV 2 hts gX9_bar_X1_hasTwo rfl rfl rfl (by decide +kernel) ⟨Nat.le_of_ble_eq_true rfl, Nat.le_of_ble_eq_true rfl⟩) (by decide) (kc1 g Y _) rfl rfl hl.1 rfl (Nat.le_of_ble_eq_true rfl) dX9_bar_6 ⟨Nat.zero_le _, Nat.zero_le _⟩ (fun H locs I => ?_)
  refine lv_if_eq (tgt := 21) hx hb dX9_bar_9 (by decide) (fun c4 => ?_) (fun c4 => ?_)
  · have hf := i_t c4 hf
    refine lv_ldc hx hb hown (hts (.constant RX9 52 (-1000000001)) (by decide +kernel)) dX9_bar_21 ?_
    exact j_iret I hx hb hr rfl hlk hf dX9_bar_23
  · have hf := i_f c4 hf
    refine lv_iload_n hx hb dX9_bar_12 rfl (lv_at hl 3 rfl) ?_
    refine lv_iconst (v := 0) hx hb dX9_bar_13 (by decide) ?_
    refine lv_iconst (v := 3) hx hb dX9_bar_14 (by decide) ?_
    obtain ⟨σ5, r6, h7, hf⟩ := o_obn hf
    refine j_iS (rest := []) I ⟨hx, hb, hml, hown, hts⟩ (ct_X9_within σ1 p2 0 3 _ h7) (va_cwS 3 hts gX9_bar_X9_within rfl rfl rfl (by decide +kernel) ⟨Nat.le_of_ble_eq_true rfl, Nat.le_of_ble_eq_true rfl⟩) rfl hl.1 rfl (Nat.le_of_ble_eq_true rfl) dX9_bar_15 ⟨Nat.zero_le _, Nat.zero_le _⟩ (fun H locs I => ?_)
    refine lv_if_ne (tgt := 24) hx hb dX9_bar_18 (by decide) (fun c8 => ?_) (fun c8 => ?_)
    · have hf := i_f c8 hf
      refine lv_aload_n hx hb dX9_bar_24 rfl (lv_at hl 0 rfl) ?_
      refine j_get I hx hb hts iw_X9_bar_X9 hown 0 (by decide) (kc0 g Y _) rfl 3 (by decide) (hts (.fieldLink RX9 37 "ReelNight" "bookings" "LReelNight$Bookings;") (by decide +kernel)) rfl dX9_bar_25 ?_
      refine j_getN I hx hb hts iw_X9_bar_X0 hown 5 (by decide) (kc5 g Y _) rfl 1 (by decide) (by decide +kernel) rfl dX9_bar_28 ?_
      refine lv_iload_n hx hb dX9_bar_31 rfl (lv_at hl 1 rfl) ?_
      refine lv_iload_n hx hb dX9_bar_32 rfl (lv_at hl 2 rfl) ?_
      refine lv_iload_n hx hb dX9_bar_33 rfl (lv_at hl 3 rfl) ?_
      obtain ⟨σ9, r10, h11, hf⟩ := o_obn hf
      refine j_iV (rest := []) I ⟨hx, hb, hml, hown, hts⟩ (ct_X3_become_11 σ5 p0 p1 p2 _ h11) (cwV 3 hts gX9_bar_X3_become rfl rfl rfl (by decide +kernel) ⟨Nat.le_of_ble_eq_true rfl, Nat.le_of_ble_eq_true rfl⟩) (by decide) (kc11 g Y _) rfl rfl hl.1 rfl (Nat.le_of_ble_eq_true rfl) dX9_bar_34 ⟨Nat.zero_le _, Nat.zero_le _⟩ (fun H locs I => ?_)
      exact j_iret I hx hb hr rfl hlk hf dX9_bar_37
    · have hf := i_t c8 hf
      refine lv_ldc hx hb hown (hts (.constant RX9 52 (-1000000001)) (by decide +kernel)) dX9_bar_21 ?_
      exact j_iret I hx hb hr rfl hlk hf dX9_bar_23

set_option maxHeartbeats 4000000 in
set_option maxRecDepth 100000 in
theorem ct_X9_isWeek {l : Launch} {D : va_G} {g : Nat → Nat} {Y : YT} {bP : Nat} (σ : St) (p0 : Int32) (res : St × Int32) (hf : fX9_isWeek σ p0 = some res) : Ci l yX9_isWeek wsX9_isWeek ⟨1, 0, 0, 22⟩ D 44 g (KC g Y) Y bP [.int p0] σ res := by
  intro sz
  refine Met.ofW (cc := cX9_isWeek) (maxL := 1) (ret := (some .boolean)) (by decide) rfl ?_
  intro p e s m args below meth c s₁ B hml hv
  obtain ⟨rfl, rfl, I⟩ := j_start hv
  have C0 : MC p s m _ meth c cX9_isWeek 1 (some .boolean) RX9 wsX9_isWeek := ⟨B.exec, B.bytes, B.returns, hml, findClass_of_methodNamed B.named, atoms_spec (ws := wsX9_isWeek) B.pre, B.notSynchronized⟩
  obtain ⟨hx, hb, hr, hml, hown, hts, hlk⟩ := id C0
  have hl := lv_entry ([.int p0]) (n := 1) (Nat.le_of_ble_eq_true rfl)
  rw [lg_entry_eq]
  generalize (lg_sl ([.int p0]) ++ List.replicate (1 - (lg_sl ([.int p0])).length) Slot.unset).toArray = ls at hl ⊢
  have hl : lv_has ls 1 [(0, .int p0)] := hl
  rw [fX9_isWeek] at hf
  refine lv_iload_n hx hb dX9_isWeek_0 rfl (lv_at hl 0 rfl) ?_
  refine lv_iconst (v := 0) hx hb dX9_isWeek_1 (by decide) ?_
  refine lv_iconst (v := 3) hx hb dX9_isWeek_2 (by decide) ?_
  obtain ⟨σ1, r2, h3, hf⟩ := o_obn hf
  refine j_iS (rest := []) I ⟨hx, hb, hml, hown, hts⟩ (ct_X9_within σ p0 0 3 _ h3) (va_cwS 3 hts gX9_isWeek_X9_within rfl rfl rfl (by decide +kernel) ⟨Nat.le_of_ble_eq_true rfl, Nat.le_of_ble_eq_true rfl⟩) rfl hl.1 rfl (Nat.le_of_ble_eq_true rfl) dX9_isWeek_3 ⟨Nat.zero_le _, Nat.zero_le _⟩ (fun H locs I => ?_)
  obtain ⟨b4, hf⟩ := o_yb hf
  exact j_iret I hx hb hr (o_bool b4) hlk hf dX9_isWeek_6

theorem iw_X9_pin_X0 : ∀ w ∈ u_ws RX0 TX0 7, w ∈ wsX9_pin := fun _ h => List.mem_cons_of_mem _ (List.mem_append_left _ (List.mem_append_right _ h))
theorem iw_X9_pin_X9 : ∀ w ∈ u_ws RX9 TX9 5, w ∈ wsX9_pin := fun _ h => List.mem_cons_of_mem _ (List.mem_append_left _ (List.mem_append_left _ (List.mem_append_right _ h)))
set_option maxHeartbeats 4000000 in
set_option maxRecDepth 100000 in
theorem ct_X9_pin {l : Launch} {D : va_G} {g : Nat → Nat} {Y : YT} {bP : Nat} (σ : St) (p0 : Int32) (p1 : Int32) (p2 : Int32) (res : St × Int32) (hf : fX9_pin σ p0 p1 p2 = some res) : Ci l yX9_pin wsX9_pin ⟨2, 0, 0, 42⟩ D 44 g (KC g Y) Y bP [.ref (g 0), .int p0, .int p1, .int p2] σ res := by
  intro sz
  refine Met.ofW (cc := cX9_pin) (maxL := 6) (ret := (some .int)) (by decide) rfl ?_
  intro p e s m args below meth c s₁ B hml hv
  obtain ⟨rfl, rfl, I⟩ := j_start hv
  have C0 : MC p s m _ meth c cX9_pin 6 (some .int) RX9 wsX9_pin := ⟨B.exec, B.bytes, B.returns, hml, findClass_of_methodNamed B.named, atoms_spec (ws := wsX9_pin) B.pre, B.notSynchronized⟩
  obtain ⟨hx, hb, hr, hml, hown, hts, hlk⟩ := id C0
  have hl := lv_entry ([.ref (g 0), .int p0, .int p1, .int p2]) (n := 6) (Nat.le_of_ble_eq_true rfl)
  rw [lg_entry_eq]
  generalize (lg_sl ([.ref (g 0), .int p0, .int p1, .int p2]) ++ List.replicate (6 - (lg_sl ([.ref (g 0), .int p0, .int p1, .int p2])).length) Slot.unset).toArray = ls at hl ⊢
  have hl : lv_has ls 6 [(0, .ref (g 0)), (1, .int p0), (2, .int p1), (3, .int p2)] := hl
  rw [fX9_pin] at hf
  refine lv_iload_n hx hb dX9_pin_0 rfl (lv_at hl 1 rfl) ?_
  refine lv_ldc hx hb hown (hts (.constant RX9 165 (-1000000005)) (by decide +kernel)) dX9_pin_1 ?_
  refine lv_icmp_eq (tgt := 17) hx hb dX9_pin_3 (by decide) (fun c1 => ?_) (fun c1 => ?_)
  · have hf := i_t c1 hf
    refine lv_aload_n hx hb dX9_pin_17 rfl (lv_at hl 0 rfl) ?_
    refine j_get I hx hb hts iw_X9_pin_X9 hown 0 (by decide) (kc0 g Y _) rfl 0 (by decide) (hts (.fieldLink RX9 12 "ReelNight" "houses" "LReelNight$Houses;") (by decide +kernel)) rfl dX9_pin_18 ?_
    refine lv_iload_n hx hb dX9_pin_21 rfl (lv_at hl 2 rfl) ?_
    obtain ⟨σ2, r3, h4, hf⟩ := o_obn hf
    refine j_iV (rest := []) I ⟨hx, hb, hml, hown, hts⟩ (ct_X1_has σ p1 _ h4) (cwV 1 hts gX9_pin_X1_has rfl rfl rfl (by decide +kernel) ⟨Nat.le_of_ble_eq_true rfl, Nat.le_of_ble_eq_true rfl⟩) (by decide) (kc1 g Y _) rfl rfl hl.1 rfl (Nat.le_of_ble_eq_true rfl) dX9_pin_22 ⟨Nat.zero_le _, Nat.zero_le _⟩ (fun H locs I => ?_)
    refine lv_if_eq (tgt := 35) hx hb dX9_pin_25 (by decide) (fun c5 => ?_) (fun c5 => ?_)
    · have hf := i_t c5 hf
      refine lv_ldc hx hb hown (hts (.constant RX9 52 (-1000000001)) (by decide +kernel)) dX9_pin_35 ?_
      exact j_iret I hx hb hr rfl hlk hf dX9_pin_37
    · have hf := i_f c5 hf
      refine lv_iload_n hx hb dX9_pin_28 rfl (lv_at hl 3 rfl) ?_
      obtain ⟨σ6, r7, h8, hf⟩ := o_obn hf
      refine j_iS (rest := []) I ⟨hx, hb, hml, hown, hts⟩ (ct_X9_isWeek σ2 p2 _ h8) (va_cwS 1 hts gX9_pin_X9_isWeek rfl rfl rfl (by decide +kernel) ⟨Nat.le_of_ble_eq_true rfl, Nat.le_of_ble_eq_true rfl⟩) rfl hl.1 rfl (Nat.le_of_ble_eq_true rfl) dX9_pin_29 ⟨Nat.zero_le _, Nat.zero_le _⟩ (fun H locs I => ?_)
      refine lv_if_ne (tgt := 38) hx hb dX9_pin_32 (by decide) (fun c9 => ?_) (fun c9 => ?_)
      · have hf := i_f c9 hf
        refine lv_iload_n hx hb dX9_pin_38 rfl (lv_at hl 3 rfl) ?_
        refine lv_iload_n hx hb dX9_pin_39 rfl (lv_at hl 2 rfl) ?_
        obtain ⟨σ10, r11, h12, hf⟩ := o_obn hf
        refine j_iS (rest := []) I ⟨hx, hb, hml, hown, hts⟩ (ct_X9_place σ6 p2 p1 _ h12) (va_cwS 2 hts gX9_pin_X9_place rfl rfl rfl (by decide +kernel) ⟨Nat.le_of_ble_eq_true rfl, Nat.le_of_ble_eq_true rfl⟩) rfl hl.1 rfl (Nat.le_of_ble_eq_true rfl) dX9_pin_40 ⟨Nat.zero_le _, Nat.zero_le _⟩ (fun H locs I => ?_)
        refine lv_istore (lv' := [(4, .int r11), (0, .ref (g 0)), (1, .int p0), (2, .int p1), (3, .int p2)]) hx hb dX9_pin_43 hl (by decide) rfl (fun ls hl => ?_)
        refine lv_aload_n hx hb dX9_pin_45 rfl (lv_at hl 1 rfl) ?_
        refine j_get I hx hb hts iw_X9_pin_X9 hown 0 (by decide) (kc0 g Y _) rfl 3 (by decide) (hts (.fieldLink RX9 37 "ReelNight" "bookings" "LReelNight$Bookings;") (by decide +kernel)) rfl dX9_pin_46 ?_
        refine j_getN I hx hb hts iw_X9_pin_X0 hown 5 (by decide) (kc5 g Y _) rfl 3 (by decide) (by decide +kernel) rfl dX9_pin_49 ?_
        refine lv_iload hx hb dX9_pin_52 (lv_at hl 0 rfl) ?_
        obtain ⟨b13, hf⟩ := o_nb hf
        refine j_ald I hx hb 35 (by decide) (kc35 g Y _) b13 dX9_pin_54 ?_
        obtain ⟨v14, ev14, hf⟩ := o_itp hf
        refine top_eq ev14 ?_
        refine lv_istore (lv' := [(5, .int v14), (4, .int r11), (0, .ref (g 0)), (1, .int p0), (2, .int p1), (3, .int p2)]) hx hb dX9_pin_55 hl (by decide) rfl (fun ls hl => ?_)
        refine lv_aload_n hx hb dX9_pin_57 rfl (lv_at hl 2 rfl) ?_
        refine j_get I hx hb hts iw_X9_pin_X9 hown 0 (by decide) (kc0 g Y _) rfl 3 (by decide) (hts (.fieldLink RX9 37 "ReelNight" "bookings" "LReelNight$Bookings;") (by decide +kernel)) rfl dX9_pin_58 ?_
        refine j_getN I hx hb hts iw_X9_pin_X0 hown 5 (by decide) (kc5 g Y _) rfl 3 (by decide) (by decide +kernel) rfl dX9_pin_61 ?_
        refine lv_iload hx hb dX9_pin_64 (lv_at hl 1 rfl) ?_
        refine lv_iload_n hx hb dX9_pin_66 rfl (lv_at hl 3 rfl) ?_
        obtain ⟨b15, hf⟩ := o_nb hf
        obtain ⟨σ16, eσ16, hf⟩ := o_stp hf
        refine j_ast I hx hb 35 (by decide) (kc35 g Y) b15 eσ16 dX9_pin_67 (fun H locs I => ?_)
        refine lv_iload hx hb dX9_pin_68 (lv_at hl 0 rfl) ?_
        exact j_iret I hx hb hr rfl hlk hf dX9_pin_70
      · have hf := i_t c9 hf
        refine lv_ldc hx hb hown (hts (.constant RX9 52 (-1000000001)) (by decide +kernel)) dX9_pin_35 ?_
        exact j_iret I hx hb hr rfl hlk hf dX9_pin_37
  · have hf := i_f c1 hf
    refine lv_aload_n hx hb dX9_pin_6 rfl (lv_at hl 0 rfl) ?_
    refine j_get I hx hb hts iw_X9_pin_X9 hown 0 (by decide) (kc0 g Y _) rfl 3 (by decide) (hts (.fieldLink RX9 37 "ReelNight" "bookings" "LReelNight$Bookings;") (by decide +kernel)) rfl dX9_pin_7 ?_
    refine lv_iload_n hx hb dX9_pin_10 rfl (lv_at hl 1 rfl) ?_
    obtain ⟨σ17, r18, h19, hf⟩ := o_obn hf
    refine j_iV (rest := []) I ⟨hx, hb, hml, hown, hts⟩ (ct_X0_hasFilm σ p0 _ h19) (cwV 1 hts gX9_pin_X0_hasFilm rfl rfl rfl (by decide +kernel) ⟨Nat.le_of_ble_eq_true rfl, Nat.le_of_ble_eq_true rfl⟩) (by decide) (kc5 g Y _) rfl rfl hl.1 rfl (Nat.le_of_ble_eq_true rfl) dX9_pin_11 ⟨Nat.zero_le _, Nat.zero_le _⟩ (fun H locs I => ?_)
    refine lv_if_eq (tgt := 35) hx hb dX9_pin_14 (by decide) (fun c20 => ?_) (fun c20 => ?_)
    · have hf := i_t c20 hf
      refine lv_ldc hx hb hown (hts (.constant RX9 52 (-1000000001)) (by decide +kernel)) dX9_pin_35 ?_
      exact j_iret I hx hb hr rfl hlk hf dX9_pin_37
    · have hf := i_f c20 hf
      refine lv_aload_n hx hb dX9_pin_17 rfl (lv_at hl 0 rfl) ?_
      refine j_get I hx hb hts iw_X9_pin_X9 hown 0 (by decide) (kc0 g Y _) rfl 0 (by decide) (hts (.fieldLink RX9 12 "ReelNight" "houses" "LReelNight$Houses;") (by decide +kernel)) rfl dX9_pin_18 ?_
      refine lv_iload_n hx hb dX9_pin_21 rfl (lv_at hl 2 rfl) ?_
      obtain ⟨σ21, r22, h23, hf⟩ := o_obn hf
      refine j_iV (rest := []) I ⟨hx, hb, hml, hown, hts⟩ (ct_X1_has σ17 p1 _ h23) (cwV 1 hts gX9_pin_X1_has rfl rfl rfl (by decide +kernel) ⟨Nat.le_of_ble_eq_true rfl, Nat.le_of_ble_eq_true rfl⟩) (by decide) (kc1 g Y _) rfl rfl hl.1 rfl (Nat.le_of_ble_eq_true rfl) dX9_pin_22 ⟨Nat.zero_le _, Nat.zero_le _⟩ (fun H locs I => ?_)
      refine lv_if_eq (tgt := 35) hx hb dX9_pin_25 (by decide) (fun c24 => ?_) (fun c24 => ?_)
      · have hf := i_t c24 hf
        refine lv_ldc hx hb hown (hts (.constant RX9 52 (-1000000001)) (by decide +kernel)) dX9_pin_35 ?_
        exact j_iret I hx hb hr rfl hlk hf dX9_pin_37
      · have hf := i_f c24 hf
        refine lv_iload_n hx hb dX9_pin_28 rfl (lv_at hl 3 rfl) ?_
        obtain ⟨σ25, r26, h27, hf⟩ := o_obn hf
        refine j_iS (rest := []) I ⟨hx, hb, hml, hown, hts⟩ (ct_X9_isWeek σ21 p2 _ h27) (va_cwS 1 hts gX9_pin_X9_isWeek rfl rfl rfl (by decide +kernel) ⟨Nat.le_of_ble_eq_true rfl, Nat.le_of_ble_eq_true rfl⟩) rfl hl.1 rfl (Nat.le_of_ble_eq_true rfl) dX9_pin_29 ⟨Nat.zero_le _, Nat.zero_le _⟩ (fun H locs I => ?_)
        refine lv_if_ne (tgt := 38) hx hb dX9_pin_32 (by decide) (fun c28 => ?_) (fun c28 => ?_)
        · have hf := i_f c28 hf
          refine lv_iload_n hx hb dX9_pin_38 rfl (lv_at hl 3 rfl) ?_
          refine lv_iload_n hx hb dX9_pin_39 rfl (lv_at hl 2 rfl) ?_
          obtain ⟨σ29, r30, h31, hf⟩ := o_obn hf
          refine j_iS (rest := []) I ⟨hx, hb, hml, hown, hts⟩ (ct_X9_place σ25 p2 p1 _ h31) (va_cwS 2 hts gX9_pin_X9_place rfl rfl rfl (by decide +kernel) ⟨Nat.le_of_ble_eq_true rfl, Nat.le_of_ble_eq_true rfl⟩) rfl hl.1 rfl (Nat.le_of_ble_eq_true rfl) dX9_pin_40 ⟨Nat.zero_le _, Nat.zero_le _⟩ (fun H locs I => ?_)
          refine lv_istore (lv' := [(4, .int r30), (0, .ref (g 0)), (1, .int p0), (2, .int p1), (3, .int p2)]) hx hb dX9_pin_43 hl (by decide) rfl (fun ls hl => ?_)
          refine lv_aload_n hx hb dX9_pin_45 rfl (lv_at hl 1 rfl) ?_
          refine j_get I hx hb hts iw_X9_pin_X9 hown 0 (by decide) (kc0 g Y _) rfl 3 (by decide) (hts (.fieldLink RX9 37 "ReelNight" "bookings" "LReelNight$Bookings;") (by decide +kernel)) rfl dX9_pin_46 ?_
          refine j_getN I hx hb hts iw_X9_pin_X0 hown 5 (by decide) (kc5 g Y _) rfl 3 (by decide) (by decide +kernel) rfl dX9_pin_49 ?_
          refine lv_iload hx hb dX9_pin_52 (lv_at hl 0 rfl) ?_
          obtain ⟨b32, hf⟩ := o_nb hf
          refine j_ald I hx hb 35 (by decide) (kc35 g Y _) b32 dX9_pin_54 ?_
          obtain ⟨v33, ev33, hf⟩ := o_itp hf
          refine top_eq ev33 ?_
          refine lv_istore (lv' := [(5, .int v33), (4, .int r30), (0, .ref (g 0)), (1, .int p0), (2, .int p1), (3, .int p2)]) hx hb dX9_pin_55 hl (by decide) rfl (fun ls hl => ?_)
          refine lv_aload_n hx hb dX9_pin_57 rfl (lv_at hl 2 rfl) ?_
          refine j_get I hx hb hts iw_X9_pin_X9 hown 0 (by decide) (kc0 g Y _) rfl 3 (by decide) (hts (.fieldLink RX9 37 "ReelNight" "bookings" "LReelNight$Bookings;") (by decide +kernel)) rfl dX9_pin_58 ?_
          refine j_getN I hx hb hts iw_X9_pin_X0 hown 5 (by decide) (kc5 g Y _) rfl 3 (by decide) (by decide +kernel) rfl dX9_pin_61 ?_
          refine lv_iload hx hb dX9_pin_64 (lv_at hl 1 rfl) ?_
          refine lv_iload_n hx hb dX9_pin_66 rfl (lv_at hl 3 rfl) ?_
          obtain ⟨b34, hf⟩ := o_nb hf
          obtain ⟨σ35, eσ35, hf⟩ := o_stp hf
          refine j_ast I hx hb 35 (by decide) (kc35 g Y) b34 eσ35 dX9_pin_67 (fun H locs I => ?_)
          refine lv_iload hx hb dX9_pin_68 (lv_at hl 0 rfl) ?_
          exact j_iret I hx hb hr rfl hlk hf dX9_pin_70
        · have hf := i_t c28 hf
          refine lv_ldc hx hb hown (hts (.constant RX9 52 (-1000000001)) (by decide +kernel)) dX9_pin_35 ?_
          exact j_iret I hx hb hr rfl hlk hf dX9_pin_37

theorem iw_X9_plan_X9 : ∀ w ∈ u_ws RX9 TX9 5, w ∈ wsX9_plan := fun _ h => List.mem_cons_of_mem _ (List.mem_append_left _ (List.mem_append_left _ (List.mem_append_left _ (List.mem_append_left _ (List.mem_append_right _ h)))))
set_option maxHeartbeats 4000000 in
set_option maxRecDepth 100000 in
theorem ct_X9_plan {l : Launch} {D : va_G} {g : Nat → Nat} {Y : YT} {bP : Nat} (σ : St) (p0 : Int32) (p1 : Int32) (res : St × Int32) (hf : fX9_plan σ p0 p1 = some res) : Ci l yX9_plan wsX9_plan ⟨522, 0, 0, 26047⟩ D 44 g (KC g Y) Y bP [.ref (g 0), .int p0, .int p1] σ res := by
  intro sz
  refine Met.ofW (cc := cX9_plan) (maxL := 3) (ret := (some .int)) (by decide) rfl ?_
  intro p e s m args below meth c s₁ B hml hv
  obtain ⟨rfl, rfl, I⟩ := j_start hv
  have C0 : MC p s m _ meth c cX9_plan 3 (some .int) RX9 wsX9_plan := ⟨B.exec, B.bytes, B.returns, hml, findClass_of_methodNamed B.named, atoms_spec (ws := wsX9_plan) B.pre, B.notSynchronized⟩
  obtain ⟨hx, hb, hr, hml, hown, hts, hlk⟩ := id C0
  have hl := lv_entry ([.ref (g 0), .int p0, .int p1]) (n := 3) (Nat.le_of_ble_eq_true rfl)
  rw [lg_entry_eq]
  generalize (lg_sl ([.ref (g 0), .int p0, .int p1]) ++ List.replicate (3 - (lg_sl ([.ref (g 0), .int p0, .int p1])).length) Slot.unset).toArray = ls at hl ⊢
  have hl : lv_has ls 3 [(0, .ref (g 0)), (1, .int p0), (2, .int p1)] := hl
  rw [fX9_plan] at hf
  refine lv_iload_n hx hb dX9_plan_0 rfl (lv_at hl 1 rfl) ?_
  obtain ⟨σ1, r2, h3, hf⟩ := o_obn hf
  refine j_iS (rest := []) I ⟨hx, hb, hml, hown, hts⟩ (ct_X9_isWeek σ p0 _ h3) (va_cwS 1 hts gX9_plan_X9_isWeek rfl rfl rfl (by decide +kernel) ⟨Nat.le_of_ble_eq_true rfl, Nat.le_of_ble_eq_true rfl⟩) rfl hl.1 rfl (Nat.le_of_ble_eq_true rfl) dX9_plan_1 ⟨Nat.zero_le _, Nat.zero_le _⟩ (fun H locs I => ?_)
  refine lv_if_eq (tgt := 18) hx hb dX9_plan_4 (by decide) (fun c4 => ?_) (fun c4 => ?_)
  · have hf := i_t c4 hf
    refine lv_ldc hx hb hown (hts (.constant RX9 52 (-1000000001)) (by decide +kernel)) dX9_plan_18 ?_
    exact j_iret I hx hb hr rfl hlk hf dX9_plan_20
  · have hf := i_f c4 hf
    refine lv_iload_n hx hb dX9_plan_7 rfl (lv_at hl 2 rfl) ?_
    refine lv_iconst (v := 1) hx hb dX9_plan_8 (by decide) ?_
    refine lv_sipush (v := 20000) hx hb dX9_plan_9 (by decide) ?_
    obtain ⟨σ5, r6, h7, hf⟩ := o_obn hf
    refine j_iS (rest := []) I ⟨hx, hb, hml, hown, hts⟩ (ct_X9_within σ1 p1 1 20000 _ h7) (va_cwS 3 hts gX9_plan_X9_within rfl rfl rfl (by decide +kernel) ⟨Nat.le_of_ble_eq_true rfl, Nat.le_of_ble_eq_true rfl⟩) rfl hl.1 rfl (Nat.le_of_ble_eq_true rfl) dX9_plan_12 ⟨Nat.zero_le _, Nat.zero_le _⟩ (fun H locs I => ?_)
    refine lv_if_ne (tgt := 21) hx hb dX9_plan_15 (by decide) (fun c8 => ?_) (fun c8 => ?_)
    · have hf := i_f c8 hf
      refine lv_aload_n hx hb dX9_plan_21 rfl (lv_at hl 0 rfl) ?_
      refine j_get I hx hb hts iw_X9_plan_X9 hown 0 (by decide) (kc0 g Y _) rfl 3 (by decide) (hts (.fieldLink RX9 37 "ReelNight" "bookings" "LReelNight$Bookings;") (by decide +kernel)) rfl dX9_plan_22 ?_
      refine lv_iload_n hx hb dX9_plan_25 rfl (lv_at hl 1 rfl) ?_
      refine lv_iload_n hx hb dX9_plan_26 rfl (lv_at hl 2 rfl) ?_
      obtain ⟨σ9, r10, h11, hf⟩ := o_obn hf
      refine j_iV (rest := []) I ⟨hx, hb, hml, hown, hts⟩ (ct_X0_makePlan σ5 p0 p1 _ h11) (cwV 2 hts gX9_plan_X0_makePlan rfl rfl rfl (by decide +kernel) ⟨Nat.le_of_ble_eq_true rfl, Nat.le_of_ble_eq_true rfl⟩) (by decide) (kc5 g Y _) rfl rfl hl.1 rfl (Nat.le_of_ble_eq_true rfl) dX9_plan_27 ⟨Nat.zero_le _, Nat.zero_le _⟩ (fun H locs I => ?_)
      exact j_iret I hx hb hr rfl hlk hf dX9_plan_30
    · have hf := i_t c8 hf
      refine lv_ldc hx hb hown (hts (.constant RX9 52 (-1000000001)) (by decide +kernel)) dX9_plan_18 ?_
      exact j_iret I hx hb hr rfl hlk hf dX9_plan_20

theorem iw_X9_planned_X0 : ∀ w ∈ u_ws RX0 TX0 7, w ∈ wsX9_planned := fun _ h => List.mem_cons_of_mem _ (List.mem_append_left _ (List.mem_append_right _ h))
theorem iw_X9_planned_X9 : ∀ w ∈ u_ws RX9 TX9 5, w ∈ wsX9_planned := fun _ h => List.mem_cons_of_mem _ (List.mem_append_left _ (List.mem_append_left _ (List.mem_append_right _ h)))
set_option maxHeartbeats 4000000 in
set_option maxRecDepth 100000 in
theorem ct_X9_planned {l : Launch} {D : va_G} {g : Nat → Nat} {Y : YT} {bP : Nat} (σ : St) (p0 : Int32) (p1 : Int32) (res : St × Int32) (hf : fX9_planned σ p0 p1 = some res) : Ci l yX9_planned wsX9_planned ⟨2, 0, 0, 42⟩ D 44 g (KC g Y) Y bP [.ref (g 0), .int p0, .int p1] σ res := by
  intro sz
  refine Met.ofW (cc := cX9_planned) (maxL := 3) (ret := (some .int)) (by decide) rfl ?_
  intro p e s m args below meth c s₁ B hml hv
  obtain ⟨rfl, rfl, I⟩ := j_start hv
  have C0 : MC p s m _ meth c cX9_planned 3 (some .int) RX9 wsX9_planned := ⟨B.exec, B.bytes, B.returns, hml, findClass_of_methodNamed B.named, atoms_spec (ws := wsX9_planned) B.pre, B.notSynchronized⟩
  obtain ⟨hx, hb, hr, hml, hown, hts, hlk⟩ := id C0
  have hl := lv_entry ([.ref (g 0), .int p0, .int p1]) (n := 3) (Nat.le_of_ble_eq_true rfl)
  rw [lg_entry_eq]
  generalize (lg_sl ([.ref (g 0), .int p0, .int p1]) ++ List.replicate (3 - (lg_sl ([.ref (g 0), .int p0, .int p1])).length) Slot.unset).toArray = ls at hl ⊢
  have hl : lv_has ls 3 [(0, .ref (g 0)), (1, .int p0), (2, .int p1)] := hl
  rw [fX9_planned] at hf
  refine lv_aload_n hx hb dX9_planned_0 rfl (lv_at hl 0 rfl) ?_
  refine j_get I hx hb hts iw_X9_planned_X9 hown 0 (by decide) (kc0 g Y _) rfl 0 (by decide) (hts (.fieldLink RX9 12 "ReelNight" "houses" "LReelNight$Houses;") (by decide +kernel)) rfl dX9_planned_1 ?_
  refine lv_iload_n hx hb dX9_planned_4 rfl (lv_at hl 1 rfl) ?_
  obtain ⟨σ1, r2, h3, hf⟩ := o_obn hf
  refine j_iV (rest := []) I ⟨hx, hb, hml, hown, hts⟩ (ct_X1_has σ p0 _ h3) (cwV 1 hts gX9_planned_X1_has rfl rfl rfl (by decide +kernel) ⟨Nat.le_of_ble_eq_true rfl, Nat.le_of_ble_eq_true rfl⟩) (by decide) (kc1 g Y _) rfl rfl hl.1 rfl (Nat.le_of_ble_eq_true rfl) dX9_planned_5 ⟨Nat.zero_le _, Nat.zero_le _⟩ (fun H locs I => ?_)
  refine lv_if_eq (tgt := 18) hx hb dX9_planned_8 (by decide) (fun c4 => ?_) (fun c4 => ?_)
  · have hf := i_t c4 hf
    refine lv_ldc hx hb hown (hts (.constant RX9 52 (-1000000001)) (by decide +kernel)) dX9_planned_18 ?_
    exact j_iret I hx hb hr rfl hlk hf dX9_planned_20
  · have hf := i_f c4 hf
    refine lv_iload_n hx hb dX9_planned_11 rfl (lv_at hl 2 rfl) ?_
    obtain ⟨σ5, r6, h7, hf⟩ := o_obn hf
    refine j_iS (rest := []) I ⟨hx, hb, hml, hown, hts⟩ (ct_X9_isWeek σ1 p1 _ h7) (va_cwS 1 hts gX9_planned_X9_isWeek rfl rfl rfl (by decide +kernel) ⟨Nat.le_of_ble_eq_true rfl, Nat.le_of_ble_eq_true rfl⟩) rfl hl.1 rfl (Nat.le_of_ble_eq_true rfl) dX9_planned_12 ⟨Nat.zero_le _, Nat.zero_le _⟩ (fun H locs I => ?_)
    refine lv_if_ne (tgt := 21) hx hb dX9_planned_15 (by decide) (fun c8 => ?_) (fun c8 => ?_)
    · have hf := i_f c8 hf
      refine lv_aload_n hx hb dX9_planned_21 rfl (lv_at hl 0 rfl) ?_
      refine j_get I hx hb hts iw_X9_planned_X9 hown 0 (by decide) (kc0 g Y _) rfl 3 (by decide) (hts (.fieldLink RX9 37 "ReelNight" "bookings" "LReelNight$Bookings;") (by decide +kernel)) rfl dX9_planned_22 ?_
      refine j_getN I hx hb hts iw_X9_planned_X0 hown 5 (by decide) (kc5 g Y _) rfl 4 (by decide) (by decide +kernel) rfl dX9_planned_25 ?_
      refine lv_iload_n hx hb dX9_planned_28 rfl (lv_at hl 2 rfl) ?_
      refine lv_iload_n hx hb dX9_planned_29 rfl (lv_at hl 1 rfl) ?_
      obtain ⟨σ9, r10, h11, hf⟩ := o_obn hf
      refine j_iS (rest := [.ref (g 36)]) I ⟨hx, hb, hml, hown, hts⟩ (ct_X9_place σ5 p1 p0 _ h11) (va_cwS 2 hts gX9_planned_X9_place rfl rfl rfl (by decide +kernel) ⟨Nat.le_of_ble_eq_true rfl, Nat.le_of_ble_eq_true rfl⟩) rfl hl.1 rfl (Nat.le_of_ble_eq_true rfl) dX9_planned_30 ⟨Nat.zero_le _, Nat.zero_le _⟩ (fun H locs I => ?_)
      obtain ⟨b12, hf⟩ := o_nb hf
      refine j_ald I hx hb 36 (by decide) (kc36 g Y _) b12 dX9_planned_33 ?_
      exact j_iret I hx hb hr rfl hlk hf dX9_planned_34
    · have hf := i_t c8 hf
      refine lv_ldc hx hb hown (hts (.constant RX9 52 (-1000000001)) (by decide +kernel)) dX9_planned_18 ?_
      exact j_iret I hx hb hr rfl hlk hf dX9_planned_20

theorem iw_X9_rule_X4 : ∀ w ∈ u_ws RX4 TX4 3, w ∈ wsX9_rule := fun _ h => List.mem_cons_of_mem _ (List.mem_append_right _ h)
theorem iw_X9_rule_X9 : ∀ w ∈ u_ws RX9 TX9 5, w ∈ wsX9_rule := fun _ h => List.mem_cons_of_mem _ (List.mem_append_left _ (List.mem_append_right _ h))
set_option maxHeartbeats 4000000 in
set_option maxRecDepth 100000 in
theorem ct_X9_rule {l : Launch} {D : va_G} {g : Nat → Nat} {Y : YT} {bP : Nat} (σ : St) (p0 : Int32) (p1 : Int32) (res : St × Int32) (hf : fX9_rule σ p0 p1 = some res) : Ci l yX9_rule wsX9_rule ⟨2, 0, 0, 44⟩ D 44 g (KC g Y) Y bP [.ref (g 0), .int p0, .int p1] σ res := by
  intro sz
  refine Met.ofW (cc := cX9_rule) (maxL := 4) (ret := (some .int)) (by decide) rfl ?_
  intro p e s m args below meth c s₁ B hml hv
  obtain ⟨rfl, rfl, I⟩ := j_start hv
  have C0 : MC p s m _ meth c cX9_rule 4 (some .int) RX9 wsX9_rule := ⟨B.exec, B.bytes, B.returns, hml, findClass_of_methodNamed B.named, atoms_spec (ws := wsX9_rule) B.pre, B.notSynchronized⟩
  obtain ⟨hx, hb, hr, hml, hown, hts, hlk⟩ := id C0
  have hl := lv_entry ([.ref (g 0), .int p0, .int p1]) (n := 4) (Nat.le_of_ble_eq_true rfl)
  rw [lg_entry_eq]
  generalize (lg_sl ([.ref (g 0), .int p0, .int p1]) ++ List.replicate (4 - (lg_sl ([.ref (g 0), .int p0, .int p1])).length) Slot.unset).toArray = ls at hl ⊢
  have hl : lv_has ls 4 [(0, .ref (g 0)), (1, .int p0), (2, .int p1)] := hl
  rw [fX9_rule] at hf
  refine lv_aload_n hx hb dX9_rule_0 rfl (lv_at hl 0 rfl) ?_
  refine j_get I hx hb hts iw_X9_rule_X9 hown 0 (by decide) (kc0 g Y _) rfl 4 (by decide) (hts (.fieldLink RX9 44 "ReelNight" "receipts" "LReelNight$Receipts;") (by decide +kernel)) rfl dX9_rule_1 ?_
  refine lv_iload_n hx hb dX9_rule_4 rfl (lv_at hl 1 rfl) ?_
  refine lv_iload_n hx hb dX9_rule_5 rfl (lv_at hl 2 rfl) ?_
  obtain ⟨σ1, r2, h3, hf⟩ := o_obn hf
  refine j_iV (rest := []) I ⟨hx, hb, hml, hown, hts⟩ (ct_X4_mayRule σ p0 p1 _ h3) (cwV 2 hts gX9_rule_X4_mayRule rfl rfl rfl (by decide +kernel) ⟨Nat.le_of_ble_eq_true rfl, Nat.le_of_ble_eq_true rfl⟩) (by decide) (kc7 g Y _) rfl rfl hl.1 rfl (Nat.le_of_ble_eq_true rfl) dX9_rule_6 ⟨Nat.zero_le _, Nat.zero_le _⟩ (fun H locs I => ?_)
  refine lv_if_ne (tgt := 15) hx hb dX9_rule_9 (by decide) (fun c4 => ?_) (fun c4 => ?_)
  · have hf := i_f c4 hf
    refine lv_aload_n hx hb dX9_rule_15 rfl (lv_at hl 0 rfl) ?_
    refine j_get I hx hb hts iw_X9_rule_X9 hown 0 (by decide) (kc0 g Y _) rfl 4 (by decide) (hts (.fieldLink RX9 44 "ReelNight" "receipts" "LReelNight$Receipts;") (by decide +kernel)) rfl dX9_rule_16 ?_
    refine j_getN I hx hb hts iw_X9_rule_X4 hown 7 (by decide) (kc7 g Y _) rfl 1 (by decide) (by decide +kernel) rfl dX9_rule_19 ?_
    refine lv_iload_n hx hb dX9_rule_22 rfl (lv_at hl 1 rfl) ?_
    obtain ⟨b5, hf⟩ := o_nb hf
    refine j_ald I hx hb 40 (by decide) (kc40 g Y _) b5 dX9_rule_23 ?_
    obtain ⟨v6, ev6, hf⟩ := o_itp hf
    refine top_eq ev6 ?_
    refine lv_istore_n (lv' := [(3, .int v6), (0, .ref (g 0)), (1, .int p0), (2, .int p1)]) hx hb dX9_rule_24 rfl hl (by decide) rfl (fun ls hl => ?_)
    refine lv_aload_n hx hb dX9_rule_25 rfl (lv_at hl 1 rfl) ?_
    refine j_get I hx hb hts iw_X9_rule_X9 hown 0 (by decide) (kc0 g Y _) rfl 4 (by decide) (hts (.fieldLink RX9 44 "ReelNight" "receipts" "LReelNight$Receipts;") (by decide +kernel)) rfl dX9_rule_26 ?_
    refine j_getN I hx hb hts iw_X9_rule_X4 hown 7 (by decide) (kc7 g Y _) rfl 1 (by decide) (by decide +kernel) rfl dX9_rule_29 ?_
    refine lv_iload_n hx hb dX9_rule_32 rfl (lv_at hl 2 rfl) ?_
    refine lv_iload_n hx hb dX9_rule_33 rfl (lv_at hl 3 rfl) ?_
    obtain ⟨b7, hf⟩ := o_nb hf
    obtain ⟨σ8, eσ8, hf⟩ := o_stp hf
    refine j_ast I hx hb 40 (by decide) (kc40 g Y) b7 eσ8 dX9_rule_34 (fun H locs I => ?_)
    refine lv_iload_n hx hb dX9_rule_35 rfl (lv_at hl 0 rfl) ?_
    exact j_iret I hx hb hr rfl hlk hf dX9_rule_36
  · have hf := i_t c4 hf
    refine lv_ldc hx hb hown (hts (.constant RX9 52 (-1000000001)) (by decide +kernel)) dX9_rule_12 ?_
    exact j_iret I hx hb hr rfl hlk hf dX9_rule_14

theorem iw_X9_least_X1 : ∀ w ∈ u_ws RX1 TX1 6, w ∈ wsX9_least := by decide +kernel
theorem iw_X9_least_X9 : ∀ w ∈ u_ws RX9 TX9 5, w ∈ wsX9_least := by decide +kernel
set_option maxHeartbeats 4000000 in
set_option maxRecDepth 100000 in
theorem ct_X9_least {l : Launch} {D : va_G} {g : Nat → Nat} {Y : YT} {bP : Nat} (σ : St) (p0 : Int32) (p1 : Int32) (res : St × Int32) (hf : fX9_least σ p0 p1 = some res) : Ci l yX9_least wsX9_least ⟨1, 0, 0, 23⟩ D 44 g (KC g Y) Y bP [.ref (g 0), .int p0, .int p1] σ res := by
  intro sz
  refine Met.ofW (cc := cX9_least) (maxL := 4) (ret := (some .int)) (by decide) rfl ?_
  intro p e s m args below meth c s₁ B hml hv
  obtain ⟨rfl, rfl, I⟩ := j_start hv
  have C0 : MC p s m _ meth c cX9_least 4 (some .int) RX9 wsX9_least := ⟨B.exec, B.bytes, B.returns, hml, findClass_of_methodNamed B.named, atoms_spec (ws := wsX9_least) B.pre, B.notSynchronized⟩
  obtain ⟨hx, hb, hr, hml, hown, hts, hlk⟩ := id C0
  have hl := lv_entry ([.ref (g 0), .int p0, .int p1]) (n := 4) (Nat.le_of_ble_eq_true rfl)
  rw [lg_entry_eq]
  generalize (lg_sl ([.ref (g 0), .int p0, .int p1]) ++ List.replicate (4 - (lg_sl ([.ref (g 0), .int p0, .int p1])).length) Slot.unset).toArray = ls at hl ⊢
  have hl : lv_has ls 4 [(0, .ref (g 0)), (1, .int p0), (2, .int p1)] := hl
  rw [fX9_least] at hf
  refine lv_aload_n hx hb dX9_least_0 rfl (lv_at hl 0 rfl) ?_
  refine j_get I hx hb hts iw_X9_least_X9 hown 0 (by decide) (kc0 g Y _) rfl 0 (by decide) (hts (.fieldLink RX9 12 "ReelNight" "houses" "LReelNight$Houses;") (by decide +kernel)) rfl dX9_least_1 ?_
  refine lv_iload_n hx hb dX9_least_4 rfl (lv_at hl 1 rfl) ?_
  obtain ⟨σ1, r2, h3, hf⟩ := o_obn hf
  refine j_iV (rest := []) I ⟨hx, hb, hml, hown, hts⟩ (ct_X1_has σ p0 _ h3) (cwV 1 hts gX9_least_X1_has rfl rfl rfl (by decide +kernel) ⟨Nat.le_of_ble_eq_true rfl, Nat.le_of_ble_eq_true rfl⟩) (by decide) (kc1 g Y _) rfl rfl hl.1 rfl (Nat.le_of_ble_eq_true rfl) dX9_least_5 ⟨Nat.zero_le _, Nat.zero_le _⟩ (fun H locs I => ?_)
  refine lv_if_eq (tgt := 22) hx hb dX9_least_8 (by decide) (fun c4 => ?_) (fun c4 => ?_)
  · have hf := i_t c4 hf
    refine lv_ldc hx hb hown (hts (.constant RX9 52 (-1000000001)) (by decide +kernel)) dX9_least_22 ?_
    exact j_iret I hx hb hr rfl hlk hf dX9_least_24
  · have hf := i_f c4 hf
    refine lv_iload_n hx hb dX9_least_11 rfl (lv_at hl 2 rfl) ?_
    refine lv_iconst (v := 0) hx hb dX9_least_12 (by decide) ?_
    refine lv_sipush (v := 9999) hx hb dX9_least_13 (by decide) ?_
    obtain ⟨σ5, r6, h7, hf⟩ := o_obn hf
    refine j_iS (rest := []) I ⟨hx, hb, hml, hown, hts⟩ (ct_X9_within σ1 p1 0 9999 _ h7) (va_cwS 3 hts gX9_least_X9_within rfl rfl rfl (by decide +kernel) ⟨Nat.le_of_ble_eq_true rfl, Nat.le_of_ble_eq_true rfl⟩) rfl hl.1 rfl (Nat.le_of_ble_eq_true rfl) dX9_least_16 ⟨Nat.zero_le _, Nat.zero_le _⟩ (fun H locs I => ?_)
    refine lv_if_ne (tgt := 25) hx hb dX9_least_19 (by decide) (fun c8 => ?_) (fun c8 => ?_)
    · have hf := i_f c8 hf
      refine lv_aload_n hx hb dX9_least_25 rfl (lv_at hl 0 rfl) ?_
      refine j_get I hx hb hts iw_X9_least_X9 hown 0 (by decide) (kc0 g Y _) rfl 0 (by decide) (hts (.fieldLink RX9 12 "ReelNight" "houses" "LReelNight$Houses;") (by decide +kernel)) rfl dX9_least_26 ?_
      refine lv_iload_n hx hb dX9_least_29 rfl (lv_at hl 1 rfl) ?_
      refine lv_iconst (v := 1) hx hb dX9_least_30 (by decide) ?_
      obtain ⟨σ9, r10, h11, hf⟩ := o_obn hf
      refine j_iV (rest := []) I ⟨hx, hb, hml, hown, hts⟩ (ct_X1_areOf σ5 p0 1 _ h11) (cwV 2 hts gX9_least_X1_areOf rfl rfl rfl (by decide +kernel) ⟨Nat.le_of_ble_eq_true rfl, Nat.le_of_ble_eq_true rfl⟩) (by decide) (kc1 g Y _) rfl rfl hl.1 rfl (Nat.le_of_ble_eq_true rfl) dX9_least_31 ⟨Nat.zero_le _, Nat.zero_le _⟩ (fun H locs I => ?_)
      refine lv_if_ne (tgt := 40) hx hb dX9_least_34 (by decide) (fun c12 => ?_) (fun c12 => ?_)
      · have hf := i_f c12 hf
        refine lv_aload_n hx hb dX9_least_40 rfl (lv_at hl 0 rfl) ?_
        refine j_get I hx hb hts iw_X9_least_X9 hown 0 (by decide) (kc0 g Y _) rfl 0 (by decide) (hts (.fieldLink RX9 12 "ReelNight" "houses" "LReelNight$Houses;") (by decide +kernel)) rfl dX9_least_41 ?_
        refine j_getN I hx hb hts iw_X9_least_X1 hown 1 (by decide) (kc1 g Y _) rfl 3 (by decide) (by decide +kernel) rfl dX9_least_44 ?_
        refine lv_iload_n hx hb dX9_least_47 rfl (lv_at hl 1 rfl) ?_
        obtain ⟨b13, hf⟩ := o_nb hf
        refine j_ald I hx hb 15 (by decide) (kc15 g Y _) b13 dX9_least_48 ?_
        obtain ⟨v14, ev14, hf⟩ := o_itp hf
        refine top_eq ev14 ?_
        refine lv_istore_n (lv' := [(3, .int v14), (0, .ref (g 0)), (1, .int p0), (2, .int p1)]) hx hb dX9_least_49 rfl hl (by decide) rfl (fun ls hl => ?_)
        refine lv_aload_n hx hb dX9_least_50 rfl (lv_at hl 1 rfl) ?_
        refine j_get I hx hb hts iw_X9_least_X9 hown 0 (by decide) (kc0 g Y _) rfl 0 (by decide) (hts (.fieldLink RX9 12 "ReelNight" "houses" "LReelNight$Houses;") (by decide +kernel)) rfl dX9_least_51 ?_
        refine j_getN I hx hb hts iw_X9_least_X1 hown 1 (by decide) (kc1 g Y _) rfl 3 (by decide) (by decide +kernel) rfl dX9_least_54 ?_
        refine lv_iload_n hx hb dX9_least_57 rfl (lv_at hl 2 rfl) ?_
        refine lv_iload_n hx hb dX9_least_58 rfl (lv_at hl 3 rfl) ?_
        obtain ⟨b15, hf⟩ := o_nb hf
        obtain ⟨σ16, eσ16, hf⟩ := o_stp hf
        refine j_ast I hx hb 15 (by decide) (kc15 g Y) b15 eσ16 dX9_least_59 (fun H locs I => ?_)
        refine lv_iload_n hx hb dX9_least_60 rfl (lv_at hl 0 rfl) ?_
        exact j_iret I hx hb hr rfl hlk hf dX9_least_61
      · have hf := i_t c12 hf
        refine lv_ldc hx hb hown (hts (.constant RX9 110 (-1000000002)) (by decide +kernel)) dX9_least_37 ?_
        exact j_iret I hx hb hr rfl hlk hf dX9_least_39
    · have hf := i_t c8 hf
      refine lv_ldc hx hb hown (hts (.constant RX9 52 (-1000000001)) (by decide +kernel)) dX9_least_22 ?_
      exact j_iret I hx hb hr rfl hlk hf dX9_least_24

theorem iw_X9_share_X1 : ∀ w ∈ u_ws RX1 TX1 6, w ∈ wsX9_share := by decide +kernel
theorem iw_X9_share_X9 : ∀ w ∈ u_ws RX9 TX9 5, w ∈ wsX9_share := by decide +kernel
set_option maxHeartbeats 4000000 in
set_option maxRecDepth 100000 in
theorem ct_X9_share {l : Launch} {D : va_G} {g : Nat → Nat} {Y : YT} {bP : Nat} (σ : St) (p0 : Int32) (p1 : Int32) (res : St × Int32) (hf : fX9_share σ p0 p1 = some res) : Ci l yX9_share wsX9_share ⟨2, 0, 0, 36⟩ D 44 g (KC g Y) Y bP [.ref (g 0), .int p0, .int p1] σ res := by
  intro sz
  refine Met.ofW (cc := cX9_share) (maxL := 3) (ret := (some .int)) (by decide) rfl ?_
  intro p e s m args below meth c s₁ B hml hv
  obtain ⟨rfl, rfl, I⟩ := j_start hv
  have C0 : MC p s m _ meth c cX9_share 3 (some .int) RX9 wsX9_share := ⟨B.exec, B.bytes, B.returns, hml, findClass_of_methodNamed B.named, atoms_spec (ws := wsX9_share) B.pre, B.notSynchronized⟩
  obtain ⟨hx, hb, hr, hml, hown, hts, hlk⟩ := id C0
  have hl := lv_entry ([.ref (g 0), .int p0, .int p1]) (n := 3) (Nat.le_of_ble_eq_true rfl)
  rw [lg_entry_eq]
  generalize (lg_sl ([.ref (g 0), .int p0, .int p1]) ++ List.replicate (3 - (lg_sl ([.ref (g 0), .int p0, .int p1])).length) Slot.unset).toArray = ls at hl ⊢
  have hl : lv_has ls 3 [(0, .ref (g 0)), (1, .int p0), (2, .int p1)] := hl
  rw [fX9_share] at hf
  refine lv_aload_n hx hb dX9_share_0 rfl (lv_at hl 0 rfl) ?_
  refine j_get I hx hb hts iw_X9_share_X9 hown 0 (by decide) (kc0 g Y _) rfl 0 (by decide) (hts (.fieldLink RX9 12 "ReelNight" "houses" "LReelNight$Houses;") (by decide +kernel)) rfl dX9_share_1 ?_
  refine lv_iload_n hx hb dX9_share_4 rfl (lv_at hl 1 rfl) ?_
  obtain ⟨σ1, r2, h3, hf⟩ := o_obn hf
  refine j_iV (rest := []) I ⟨hx, hb, hml, hown, hts⟩ (ct_X1_has σ p0 _ h3) (cwV 1 hts gX9_share_X1_has rfl rfl rfl (by decide +kernel) ⟨Nat.le_of_ble_eq_true rfl, Nat.le_of_ble_eq_true rfl⟩) (by decide) (kc1 g Y _) rfl rfl hl.1 rfl (Nat.le_of_ble_eq_true rfl) dX9_share_5 ⟨Nat.zero_le _, Nat.zero_le _⟩ (fun H locs I => ?_)
  refine lv_if_eq (tgt := 28) hx hb dX9_share_8 (by decide) (fun c4 => ?_) (fun c4 => ?_)
  · have hf := i_t c4 hf
    refine lv_ldc hx hb hown (hts (.constant RX9 52 (-1000000001)) (by decide +kernel)) dX9_share_28 ?_
    exact j_iret I hx hb hr rfl hlk hf dX9_share_30
  · have hf := i_f c4 hf
    refine lv_iload_n hx hb dX9_share_11 rfl (lv_at hl 2 rfl) ?_
    refine lv_iconst (v := 0) hx hb dX9_share_12 (by decide) ?_
    refine lv_aload_n hx hb dX9_share_13 rfl (lv_at hl 0 rfl) ?_
    refine j_get I hx hb hts iw_X9_share_X9 hown 0 (by decide) (kc0 g Y _) rfl 0 (by decide) (hts (.fieldLink RX9 12 "ReelNight" "houses" "LReelNight$Houses;") (by decide +kernel)) rfl dX9_share_14 ?_
    refine j_getN I hx hb hts iw_X9_share_X1 hown 1 (by decide) (kc1 g Y _) rfl 1 (by decide) (by decide +kernel) rfl dX9_share_17 ?_
    refine lv_iload_n hx hb dX9_share_20 rfl (lv_at hl 1 rfl) ?_
    obtain ⟨b5, hf⟩ := o_nb hf
    refine j_ald I hx hb 13 (by decide) (kc13 g Y _) b5 dX9_share_21 ?_
    obtain ⟨σ6, r7, h8, hf⟩ := o_obn hf
    refine j_iS (rest := []) I ⟨hx, hb, hml, hown, hts⟩ (ct_X9_within σ1 p1 0 (σ1 13 p0.toNatClampNeg) _ h8) (va_cwS 3 hts gX9_share_X9_within rfl rfl rfl (by decide +kernel) ⟨Nat.le_of_ble_eq_true rfl, Nat.le_of_ble_eq_true rfl⟩) rfl hl.1 rfl (Nat.le_of_ble_eq_true rfl) dX9_share_22 ⟨Nat.zero_le _, Nat.zero_le _⟩ (fun H locs I => ?_)
    refine lv_if_ne (tgt := 31) hx hb dX9_share_25 (by decide) (fun c9 => ?_) (fun c9 => ?_)
    · have hf := i_f c9 hf
      refine lv_aload_n hx hb dX9_share_31 rfl (lv_at hl 0 rfl) ?_
      refine j_get I hx hb hts iw_X9_share_X9 hown 0 (by decide) (kc0 g Y _) rfl 4 (by decide) (hts (.fieldLink RX9 44 "ReelNight" "receipts" "LReelNight$Receipts;") (by decide +kernel)) rfl dX9_share_32 ?_
      refine lv_iload_n hx hb dX9_share_35 rfl (lv_at hl 1 rfl) ?_
      refine lv_iload_n hx hb dX9_share_36 rfl (lv_at hl 2 rfl) ?_
      obtain ⟨σ10, r11, h12, hf⟩ := o_obn hf
      refine j_iV (rest := []) I ⟨hx, hb, hml, hown, hts⟩ (ct_X4_shareOf σ6 p0 p1 _ h12) (cwV 2 hts gX9_share_X4_shareOf rfl rfl rfl (by decide +kernel) ⟨Nat.le_of_ble_eq_true rfl, Nat.le_of_ble_eq_true rfl⟩) (by decide) (kc7 g Y _) rfl rfl hl.1 rfl (Nat.le_of_ble_eq_true rfl) dX9_share_37 ⟨Nat.zero_le _, Nat.zero_le _⟩ (fun H locs I => ?_)
      exact j_iret I hx hb hr rfl hlk hf dX9_share_40
    · have hf := i_t c9 hf
      refine lv_ldc hx hb hown (hts (.constant RX9 52 (-1000000001)) (by decide +kernel)) dX9_share_28 ?_
      exact j_iret I hx hb hr rfl hlk hf dX9_share_30

theorem iw_X9_shares_X4 : ∀ w ∈ u_ws RX4 TX4 3, w ∈ wsX9_shares := fun _ h => List.mem_cons_of_mem _ (List.mem_append_left _ (List.mem_append_left _ (List.mem_append_right _ h)))
theorem iw_X9_shares_X9 : ∀ w ∈ u_ws RX9 TX9 5, w ∈ wsX9_shares := fun _ h => List.mem_cons_of_mem _ (List.mem_append_left _ (List.mem_append_left _ (List.mem_append_left _ (List.mem_append_right _ h))))
set_option maxHeartbeats 4000000 in
set_option maxRecDepth 100000 in
theorem ct_X9_shares {l : Launch} {D : va_G} {g : Nat → Nat} {Y : YT} {bP : Nat} (σ : St) (p0 : Int32) (res : St × Int32) (hf : fX9_shares σ p0 = some res) : Ci l yX9_shares wsX9_shares ⟨3, 0, 0, 69⟩ D 44 g (KC g Y) Y bP [.ref (g 0), .int p0] σ res := by
  intro sz
  refine Met.ofW (cc := cX9_shares) (maxL := 2) (ret := (some .int)) (by decide) rfl ?_
  intro p e s m args below meth c s₁ B hml hv
  obtain ⟨rfl, rfl, I⟩ := j_start hv
  have C0 : MC p s m _ meth c cX9_shares 2 (some .int) RX9 wsX9_shares := ⟨B.exec, B.bytes, B.returns, hml, findClass_of_methodNamed B.named, atoms_spec (ws := wsX9_shares) B.pre, B.notSynchronized⟩
  obtain ⟨hx, hb, hr, hml, hown, hts, hlk⟩ := id C0
  have hl := lv_entry ([.ref (g 0), .int p0]) (n := 2) (Nat.le_of_ble_eq_true rfl)
  rw [lg_entry_eq]
  generalize (lg_sl ([.ref (g 0), .int p0]) ++ List.replicate (2 - (lg_sl ([.ref (g 0), .int p0])).length) Slot.unset).toArray = ls at hl ⊢
  have hl : lv_has ls 2 [(0, .ref (g 0)), (1, .int p0)] := hl
  rw [fX9_shares] at hf
  refine lv_iload_n hx hb dX9_shares_0 rfl (lv_at hl 1 rfl) ?_
  obtain ⟨σ1, r2, h3, hf⟩ := o_obn hf
  refine j_iS (rest := []) I ⟨hx, hb, hml, hown, hts⟩ (ct_X9_isWeek σ p0 _ h3) (va_cwS 1 hts gX9_shares_X9_isWeek rfl rfl rfl (by decide +kernel) ⟨Nat.le_of_ble_eq_true rfl, Nat.le_of_ble_eq_true rfl⟩) rfl hl.1 rfl (Nat.le_of_ble_eq_true rfl) dX9_shares_1 ⟨Nat.zero_le _, Nat.zero_le _⟩ (fun H locs I => ?_)
  refine lv_if_ne (tgt := 10) hx hb dX9_shares_4 (by decide) (fun c4 => ?_) (fun c4 => ?_)
  · have hf := i_f c4 hf
    refine lv_aload_n hx hb dX9_shares_10 rfl (lv_at hl 0 rfl) ?_
    refine j_get I hx hb hts iw_X9_shares_X9 hown 0 (by decide) (kc0 g Y _) rfl 4 (by decide) (hts (.fieldLink RX9 44 "ReelNight" "receipts" "LReelNight$Receipts;") (by decide +kernel)) rfl dX9_shares_11 ?_
    refine j_getN I hx hb hts iw_X9_shares_X4 hown 7 (by decide) (kc7 g Y _) rfl 2 (by decide) (by decide +kernel) rfl dX9_shares_14 ?_
    refine lv_iconst (v := 0) hx hb dX9_shares_17 (by decide) ?_
    refine j_qald I hx hb 41 (by decide) (kc41 g Y _) (show ¬ ((0 : Int32) < 0 ∨ 2 ≤ (0 : Int32).toNatClampNeg) from by decide) dX9_shares_18 (a := g 8) rfl ?_
    obtain ⟨σ5, r6, h7, hf⟩ := o_obn hf
    refine j_iV (rest := []) I ⟨hx, hb, hml, hown, hts⟩ (ct_X8_isMissing_8 σ1 _ h7) (cwV 0 hts gX9_shares_X8_isMissing rfl rfl rfl (by decide +kernel) ⟨Nat.le_of_ble_eq_true rfl, Nat.le_of_ble_eq_true rfl⟩) (by decide) (kc8 g Y _) rfl rfl hl.1 rfl (Nat.le_of_ble_eq_true rfl) dX9_shares_19 ⟨Nat.zero_le _, Nat.zero_le _⟩ (fun H locs I => ?_)
    refine lv_if_eq (tgt := 30) hx hb dX9_shares_22 (by decide) (fun c8 => ?_) (fun c8 => ?_)
    · have hf := i_t c8 hf
      refine lv_aload_n hx hb dX9_shares_30 rfl (lv_at hl 0 rfl) ?_
      refine j_get I hx hb hts iw_X9_shares_X9 hown 0 (by decide) (kc0 g Y _) rfl 4 (by decide) (hts (.fieldLink RX9 44 "ReelNight" "receipts" "LReelNight$Receipts;") (by decide +kernel)) rfl dX9_shares_31 ?_
      refine lv_iload_n hx hb dX9_shares_34 rfl (lv_at hl 1 rfl) ?_
      obtain ⟨σ9, r10, h11, hf⟩ := o_obn hf
      refine j_iV (rest := []) I ⟨hx, hb, hml, hown, hts⟩ (ct_X4_allShares σ5 p0 _ h11) (cwV 1 hts gX9_shares_X4_allShares rfl rfl rfl (by decide +kernel) ⟨Nat.le_of_ble_eq_true rfl, Nat.le_of_ble_eq_true rfl⟩) (by decide) (kc7 g Y _) rfl rfl hl.1 rfl (Nat.le_of_ble_eq_true rfl) dX9_shares_35 ⟨Nat.zero_le _, Nat.zero_le _⟩ (fun H locs I => ?_)
      exact j_iret I hx hb hr rfl hlk hf dX9_shares_38
    · have hf := i_f c8 hf
      refine lv_ldc hx hb hown (hts (.constant RX9 225 (-1000000011)) (by decide +kernel)) dX9_shares_25 ?_
      refine lv_goto (tgt := 38) hx hb dX9_shares_27 (by decide) ?_
      exact j_iret I hx hb hr rfl hlk hf dX9_shares_38
  · have hf := i_t c4 hf
    refine lv_ldc hx hb hown (hts (.constant RX9 52 (-1000000001)) (by decide +kernel)) dX9_shares_7 ?_
    exact j_iret I hx hb hr rfl hlk hf dX9_shares_9

theorem iw_X9_checked_X9 : ∀ w ∈ u_ws RX9 TX9 5, w ∈ wsX9_checked := by decide +kernel
set_option maxHeartbeats 4000000 in
set_option maxRecDepth 100000 in
theorem ct_X9_checked {l : Launch} {D : va_G} {g : Nat → Nat} {Y : YT} {bP : Nat} (σ : St) (p0 : Int32) (res : St × Int32) (hf : fX9_checked σ p0 = some res) : Ci l yX9_checked wsX9_checked ⟨2, 0, 0, 46⟩ D 44 g (KC g Y) Y bP [.ref (g 0), .int p0] σ res := by
  intro sz
  refine Met.ofW (cc := cX9_checked) (maxL := 2) (ret := (some .int)) (by decide) rfl ?_
  intro p e s m args below meth c s₁ B hml hv
  obtain ⟨rfl, rfl, I⟩ := j_start hv
  have C0 : MC p s m _ meth c cX9_checked 2 (some .int) RX9 wsX9_checked := ⟨B.exec, B.bytes, B.returns, hml, findClass_of_methodNamed B.named, atoms_spec (ws := wsX9_checked) B.pre, B.notSynchronized⟩
  obtain ⟨hx, hb, hr, hml, hown, hts, hlk⟩ := id C0
  have hl := lv_entry ([.ref (g 0), .int p0]) (n := 2) (Nat.le_of_ble_eq_true rfl)
  rw [lg_entry_eq]
  generalize (lg_sl ([.ref (g 0), .int p0]) ++ List.replicate (2 - (lg_sl ([.ref (g 0), .int p0])).length) Slot.unset).toArray = ls at hl ⊢
  have hl : lv_has ls 2 [(0, .ref (g 0)), (1, .int p0)] := hl
  rw [fX9_checked] at hf
  refine lv_iload_n hx hb dX9_checked_0 rfl (lv_at hl 1 rfl) ?_
  obtain ⟨σ1, r2, h3, hf⟩ := o_obn hf
  refine j_iS (rest := []) I ⟨hx, hb, hml, hown, hts⟩ (ct_X9_isWeek σ p0 _ h3) (va_cwS 1 hts gX9_checked_X9_isWeek rfl rfl rfl (by decide +kernel) ⟨Nat.le_of_ble_eq_true rfl, Nat.le_of_ble_eq_true rfl⟩) rfl hl.1 rfl (Nat.le_of_ble_eq_true rfl) dX9_checked_1 ⟨Nat.zero_le _, Nat.zero_le _⟩ (fun H locs I => ?_)
  refine lv_if_eq (tgt := 18) hx hb dX9_checked_4 (by decide) (fun c4 => ?_) (fun c4 => ?_)
  · have hf := i_t c4 hf
    refine lv_ldc hx hb hown (hts (.constant RX9 52 (-1000000001)) (by decide +kernel)) dX9_checked_18 ?_
    exact j_iret I hx hb hr rfl hlk hf dX9_checked_20
  · have hf := i_f c4 hf
    refine lv_aload_n hx hb dX9_checked_7 rfl (lv_at hl 0 rfl) ?_
    refine j_get I hx hb hts iw_X9_checked_X9 hown 0 (by decide) (kc0 g Y _) rfl 4 (by decide) (hts (.fieldLink RX9 44 "ReelNight" "receipts" "LReelNight$Receipts;") (by decide +kernel)) rfl dX9_checked_8 ?_
    refine lv_iload_n hx hb dX9_checked_11 rfl (lv_at hl 1 rfl) ?_
    obtain ⟨σ5, r6, h7, hf⟩ := o_obn hf
    refine j_iV (rest := []) I ⟨hx, hb, hml, hown, hts⟩ (ct_X4_checkedBits σ1 p0 _ h7) (cwV 1 hts gX9_checked_X4_checkedBits rfl rfl rfl (by decide +kernel) ⟨Nat.le_of_ble_eq_true rfl, Nat.le_of_ble_eq_true rfl⟩) (by decide) (kc7 g Y _) rfl rfl hl.1 rfl (Nat.le_of_ble_eq_true rfl) dX9_checked_12 ⟨Nat.zero_le _, Nat.zero_le _⟩ (fun H locs I => ?_)
    refine lv_goto (tgt := 20) hx hb dX9_checked_15 (by decide) ?_
    exact j_iret I hx hb hr rfl hlk hf dX9_checked_20

set_option maxHeartbeats 4000000 in
set_option maxRecDepth 100000 in
theorem ct_X9_isSheet {l : Launch} {D : va_G} {g : Nat → Nat} {Y : YT} {bP : Nat} (σ : St) (p0 : Int32) (res : St × Int32) (hf : fX9_isSheet σ p0 = some res) : Ci l yX9_isSheet wsX9_isSheet ⟨1, 0, 0, 22⟩ D 44 g (KC g Y) Y bP [.int p0] σ res := by
  intro sz
  refine Met.ofW (cc := cX9_isSheet) (maxL := 1) (ret := (some .boolean)) (by decide) rfl ?_
  intro p e s m args below meth c s₁ B hml hv
  obtain ⟨rfl, rfl, I⟩ := j_start hv
  have C0 : MC p s m _ meth c cX9_isSheet 1 (some .boolean) RX9 wsX9_isSheet := ⟨B.exec, B.bytes, B.returns, hml, findClass_of_methodNamed B.named, atoms_spec (ws := wsX9_isSheet) B.pre, B.notSynchronized⟩
  obtain ⟨hx, hb, hr, hml, hown, hts, hlk⟩ := id C0
  have hl := lv_entry ([.int p0]) (n := 1) (Nat.le_of_ble_eq_true rfl)
  rw [lg_entry_eq]
  generalize (lg_sl ([.int p0]) ++ List.replicate (1 - (lg_sl ([.int p0])).length) Slot.unset).toArray = ls at hl ⊢
  have hl : lv_has ls 1 [(0, .int p0)] := hl
  rw [fX9_isSheet] at hf
  refine lv_iload_n hx hb dX9_isSheet_0 rfl (lv_at hl 0 rfl) ?_
  refine lv_iconst (v := 0) hx hb dX9_isSheet_1 (by decide) ?_
  refine lv_iconst (v := 1) hx hb dX9_isSheet_2 (by decide) ?_
  obtain ⟨σ1, r2, h3, hf⟩ := o_obn hf
  refine j_iS (rest := []) I ⟨hx, hb, hml, hown, hts⟩ (ct_X9_within σ p0 0 1 _ h3) (va_cwS 3 hts gX9_isSheet_X9_within rfl rfl rfl (by decide +kernel) ⟨Nat.le_of_ble_eq_true rfl, Nat.le_of_ble_eq_true rfl⟩) rfl hl.1 rfl (Nat.le_of_ble_eq_true rfl) dX9_isSheet_3 ⟨Nat.zero_le _, Nat.zero_le _⟩ (fun H locs I => ?_)
  obtain ⟨b4, hf⟩ := o_yb hf
  exact j_iret I hx hb hr (o_bool b4) hlk hf dX9_isSheet_6

theorem iw_X9_sheet_X4 : ∀ w ∈ u_ws RX4 TX4 3, w ∈ wsX9_sheet := by decide +kernel
theorem iw_X9_sheet_X9 : ∀ w ∈ u_ws RX9 TX9 5, w ∈ wsX9_sheet := by decide +kernel
set_option maxHeartbeats 4000000 in
set_option maxRecDepth 100000 in
theorem ct_X9_sheet {l : Launch} {D : va_G} {g : Nat → Nat} {Y : YT} {bP : Nat} (σ : St) (p0 : Int32) (p1 : Int32) (res : St × Int32) (hf : fX9_sheet σ p0 p1 = some res) : Ci l yX9_sheet wsX9_sheet ⟨2, 0, 0, 44⟩ D 44 g (KC g Y) Y bP [.ref (g 0), .int p0, .int p1] σ res := by
  intro sz
  refine Met.ofW (cc := cX9_sheet) (maxL := 3) (ret := (some .int)) (by decide) rfl ?_
  intro p e s m args below meth c s₁ B hml hv
  obtain ⟨rfl, rfl, I⟩ := j_start hv
  have C0 : MC p s m _ meth c cX9_sheet 3 (some .int) RX9 wsX9_sheet := ⟨B.exec, B.bytes, B.returns, hml, findClass_of_methodNamed B.named, atoms_spec (ws := wsX9_sheet) B.pre, B.notSynchronized⟩
  obtain ⟨hx, hb, hr, hml, hown, hts, hlk⟩ := id C0
  have hl := lv_entry ([.ref (g 0), .int p0, .int p1]) (n := 3) (Nat.le_of_ble_eq_true rfl)
  rw [lg_entry_eq]
  generalize (lg_sl ([.ref (g 0), .int p0, .int p1]) ++ List.replicate (3 - (lg_sl ([.ref (g 0), .int p0, .int p1])).length) Slot.unset).toArray = ls at hl ⊢
  have hl : lv_has ls 3 [(0, .ref (g 0)), (1, .int p0), (2, .int p1)] := hl
  rw [fX9_sheet] at hf
  refine lv_iload_n hx hb dX9_sheet_0 rfl (lv_at hl 1 rfl) ?_
  obtain ⟨σ1, r2, h3, hf⟩ := o_obn hf
  refine j_iS (rest := []) I ⟨hx, hb, hml, hown, hts⟩ (ct_X9_isSheet σ p0 _ h3) (va_cwS 1 hts gX9_sheet_X9_isSheet rfl rfl rfl (by decide +kernel) ⟨Nat.le_of_ble_eq_true rfl, Nat.le_of_ble_eq_true rfl⟩) rfl hl.1 rfl (Nat.le_of_ble_eq_true rfl) dX9_sheet_1 ⟨Nat.zero_le _, Nat.zero_le _⟩ (fun H locs I => ?_)
  refine lv_if_eq (tgt := 13) hx hb dX9_sheet_4 (by decide) (fun c4 => ?_) (fun c4 => ?_)
  · have hf := i_t c4 hf
    refine lv_ldc hx hb hown (hts (.constant RX9 52 (-1000000001)) (by decide +kernel)) dX9_sheet_13 ?_
    exact j_iret I hx hb hr rfl hlk hf dX9_sheet_15
  · have hf := i_f c4 hf
    refine lv_iload_n hx hb dX9_sheet_7 rfl (lv_at hl 2 rfl) ?_
    refine lv_bipush (v := 24) hx hb dX9_sheet_8 (by decide) ?_
    refine lv_icmp_le (tgt := 16) hx hb dX9_sheet_10 (by decide) (fun c5 => ?_) (fun c5 => ?_)
    · have hf := i_t c5 hf
      refine lv_iload_n hx hb dX9_sheet_16 rfl (lv_at hl 2 rfl) ?_
      refine lv_if_ge (tgt := 25) hx hb dX9_sheet_17 (by decide) (fun c6 => ?_) (fun c6 => ?_)
      · have hf := i_t c6 hf
        refine lv_aload_n hx hb dX9_sheet_25 rfl (lv_at hl 0 rfl) ?_
        refine j_get I hx hb hts iw_X9_sheet_X9 hown 0 (by decide) (kc0 g Y _) rfl 4 (by decide) (hts (.fieldLink RX9 44 "ReelNight" "receipts" "LReelNight$Receipts;") (by decide +kernel)) rfl dX9_sheet_26 ?_
        refine j_getN I hx hb hts iw_X9_sheet_X4 hown 7 (by decide) (kc7 g Y _) rfl 2 (by decide) (by decide +kernel) rfl dX9_sheet_29 ?_
        refine lv_iload_n hx hb dX9_sheet_32 rfl (lv_at hl 1 rfl) ?_
        obtain ⟨b7, hf⟩ := o_nb hf
        by_cases c8 : p0 = 0
        · have hf := i_t c8 hf
          refine j_qald I hx hb 41 (by decide) (kc41 g Y _) b7 dX9_sheet_33 (a := g 8) (by rw [c8]; rfl) ?_
          refine lv_iload_n hx hb dX9_sheet_34 rfl (lv_at hl 2 rfl) ?_
          obtain ⟨σ9, r10, h11, hf⟩ := o_obn hf
          refine j_iV (rest := []) I ⟨hx, hb, hml, hown, hts⟩ (ct_X8_renew_8 σ1 p1 _ h11) (cwV 1 hts gX9_sheet_X8_renew rfl rfl rfl (by decide +kernel) ⟨Nat.le_of_ble_eq_true rfl, Nat.le_of_ble_eq_true rfl⟩) (by decide) (kc8 g Y _) rfl rfl hl.1 rfl (Nat.le_of_ble_eq_true rfl) dX9_sheet_35 ⟨Nat.zero_le _, Nat.zero_le _⟩ (fun H locs I => ?_)
          exact j_iret I hx hb hr rfl hlk hf dX9_sheet_38
        · have hf := i_f c8 hf
          refine j_qald I hx hb 41 (by decide) (kc41 g Y _) b7 dX9_sheet_33 (a := g 9) (if_neg (q_ne0 c8 b7)) ?_
          refine lv_iload_n hx hb dX9_sheet_34 rfl (lv_at hl 2 rfl) ?_
          obtain ⟨σ12, r13, h14, hf⟩ := o_obn hf
          refine j_iV (rest := []) I ⟨hx, hb, hml, hown, hts⟩ (ct_X8_renew_9 σ1 p1 _ h14) (cwV 1 hts gX9_sheet_X8_renew rfl rfl rfl (by decide +kernel) ⟨Nat.le_of_ble_eq_true rfl, Nat.le_of_ble_eq_true rfl⟩) (by decide) (kc9 g Y _) rfl rfl hl.1 rfl (Nat.le_of_ble_eq_true rfl) dX9_sheet_35 ⟨Nat.zero_le _, Nat.zero_le _⟩ (fun H locs I => ?_)
          exact j_iret I hx hb hr rfl hlk hf dX9_sheet_38
      · have hf := i_f c6 hf
        refine lv_ldc hx hb hown (hts (.constant RX9 235 (-1000000014)) (by decide +kernel)) dX9_sheet_20 ?_
        refine lv_goto (tgt := 38) hx hb dX9_sheet_22 (by decide) ?_
        exact j_iret I hx hb hr rfl hlk hf dX9_sheet_38
    · have hf := i_f c5 hf
      refine lv_ldc hx hb hown (hts (.constant RX9 52 (-1000000001)) (by decide +kernel)) dX9_sheet_13 ?_
      exact j_iret I hx hb hr rfl hlk hf dX9_sheet_15

theorem iw_X9_mark_X4 : ∀ w ∈ u_ws RX4 TX4 3, w ∈ wsX9_mark := fun _ h => List.mem_cons_of_mem _ (List.mem_append_left _ (List.mem_append_right _ h))
theorem iw_X9_mark_X9 : ∀ w ∈ u_ws RX9 TX9 5, w ∈ wsX9_mark := fun _ h => List.mem_cons_of_mem _ (List.mem_append_left _ (List.mem_append_left _ (List.mem_append_right _ h)))
set_option maxHeartbeats 4000000 in
set_option maxRecDepth 100000 in
theorem ct_X9_mark {l : Launch} {D : va_G} {g : Nat → Nat} {Y : YT} {bP : Nat} (σ : St) (p0 : Int32) (p1 : Int32) (p2 : Int32) (res : St × Int32) (hf : fX9_mark σ p0 p1 p2 = some res) : Ci l yX9_mark wsX9_mark ⟨2, 0, 0, 42⟩ D 44 g (KC g Y) Y bP [.ref (g 0), .int p0, .int p1, .int p2] σ res := by
  intro sz
  refine Met.ofW (cc := cX9_mark) (maxL := 5) (ret := (some .int)) (by decide) rfl ?_
  intro p e s m args below meth c s₁ B hml hv
  obtain ⟨rfl, rfl, I⟩ := j_start hv
  have C0 : MC p s m _ meth c cX9_mark 5 (some .int) RX9 wsX9_mark := ⟨B.exec, B.bytes, B.returns, hml, findClass_of_methodNamed B.named, atoms_spec (ws := wsX9_mark) B.pre, B.notSynchronized⟩
  obtain ⟨hx, hb, hr, hml, hown, hts, hlk⟩ := id C0
  have hl := lv_entry ([.ref (g 0), .int p0, .int p1, .int p2]) (n := 5) (Nat.le_of_ble_eq_true rfl)
  rw [lg_entry_eq]
  generalize (lg_sl ([.ref (g 0), .int p0, .int p1, .int p2]) ++ List.replicate (5 - (lg_sl ([.ref (g 0), .int p0, .int p1, .int p2])).length) Slot.unset).toArray = ls at hl ⊢
  have hl : lv_has ls 5 [(0, .ref (g 0)), (1, .int p0), (2, .int p1), (3, .int p2)] := hl
  rw [fX9_mark] at hf
  refine lv_iload_n hx hb dX9_mark_0 rfl (lv_at hl 1 rfl) ?_
  obtain ⟨σ1, r2, h3, hf⟩ := o_obn hf
  refine j_iS (rest := []) I ⟨hx, hb, hml, hown, hts⟩ (ct_X9_isSheet σ p0 _ h3) (va_cwS 1 hts gX9_mark_X9_isSheet rfl rfl rfl (by decide +kernel) ⟨Nat.le_of_ble_eq_true rfl, Nat.le_of_ble_eq_true rfl⟩) rfl hl.1 rfl (Nat.le_of_ble_eq_true rfl) dX9_mark_1 ⟨Nat.zero_le _, Nat.zero_le _⟩ (fun H locs I => ?_)
  refine lv_if_ne (tgt := 10) hx hb dX9_mark_4 (by decide) (fun c4 => ?_) (fun c4 => ?_)
  · have hf := i_f c4 hf
    refine lv_aload_n hx hb dX9_mark_10 rfl (lv_at hl 0 rfl) ?_
    refine j_get I hx hb hts iw_X9_mark_X9 hown 0 (by decide) (kc0 g Y _) rfl 4 (by decide) (hts (.fieldLink RX9 44 "ReelNight" "receipts" "LReelNight$Receipts;") (by decide +kernel)) rfl dX9_mark_11 ?_
    refine j_getN I hx hb hts iw_X9_mark_X4 hown 7 (by decide) (kc7 g Y _) rfl 2 (by decide) (by decide +kernel) rfl dX9_mark_14 ?_
    refine lv_iload_n hx hb dX9_mark_17 rfl (lv_at hl 1 rfl) ?_
    obtain ⟨b5, hf⟩ := o_nb hf
    by_cases c6 : p0 = 0
    · have hf := i_t c6 hf
      refine j_qald I hx hb 41 (by decide) (kc41 g Y _) b5 dX9_mark_18 (a := g 8) (by rw [c6]; rfl) ?_
      refine lv_astore (lv' := [(4, .ref (g 8)), (0, .ref (g 0)), (1, .int p0), (2, .int p1), (3, .int p2)]) hx hb dX9_mark_19 hl (by decide) rfl (fun ls hl => ?_)
      refine lv_aload hx hb dX9_mark_21 (lv_at hl 0 rfl) ?_
      obtain ⟨σ7, r8, h9, hf⟩ := o_obn hf
      refine j_iV (rest := []) I ⟨hx, hb, hml, hown, hts⟩ (ct_X8_isMissing_8 σ1 _ h9) (cwV 0 hts gX9_mark_X8_isMissing rfl rfl rfl (by decide +kernel) ⟨Nat.le_of_ble_eq_true rfl, Nat.le_of_ble_eq_true rfl⟩) (by decide) (kc8 g Y _) rfl rfl hl.1 rfl (Nat.le_of_ble_eq_true rfl) dX9_mark_23 ⟨Nat.zero_le _, Nat.zero_le _⟩ (fun H locs I => ?_)
      refine lv_if_eq (tgt := 32) hx hb dX9_mark_26 (by decide) (fun c10 => ?_) (fun c10 => ?_)
      · have hf := i_t c10 hf
        refine lv_aload hx hb dX9_mark_32 (lv_at hl 0 rfl) ?_
        refine lv_iload_n hx hb dX9_mark_34 rfl (lv_at hl 3 rfl) ?_
        obtain ⟨σ11, r12, h13, hf⟩ := o_obn hf
        refine j_iV (rest := []) I ⟨hx, hb, hml, hown, hts⟩ (ct_X8_has_8 σ7 p1 _ h13) (cwV 1 hts gX9_mark_X8_has rfl rfl rfl (by decide +kernel) ⟨Nat.le_of_ble_eq_true rfl, Nat.le_of_ble_eq_true rfl⟩) (by decide) (kc8 g Y _) rfl rfl hl.1 rfl (Nat.le_of_ble_eq_true rfl) dX9_mark_35 ⟨Nat.zero_le _, Nat.zero_le _⟩ (fun H locs I => ?_)
        refine lv_if_eq (tgt := 52) hx hb dX9_mark_38 (by decide) (fun c14 => ?_) (fun c14 => ?_)
        · have hf := i_t c14 hf
          refine lv_ldc hx hb hown (hts (.constant RX9 243 (-1000000013)) (by decide +kernel)) dX9_mark_52 ?_
          exact j_iret I hx hb hr rfl hlk hf dX9_mark_54
        · have hf := i_f c14 hf
          refine lv_aload hx hb dX9_mark_41 (lv_at hl 0 rfl) ?_
          refine lv_iload_n hx hb dX9_mark_43 rfl (lv_at hl 3 rfl) ?_
          refine lv_iload_n hx hb dX9_mark_44 rfl (lv_at hl 4 rfl) ?_
          refine lv_i2s hx hb dX9_mark_45 rfl ?_
          obtain ⟨σ15, r16, h17, hf⟩ := o_obn hf
          refine j_iV (rest := []) I ⟨hx, hb, hml, hown, hts⟩ (ct_X8_become_8 σ11 p1 (p2.toInt16.toInt32) _ h17) (cwV 2 hts gX9_mark_X8_become rfl rfl rfl (by decide +kernel) ⟨Nat.le_of_ble_eq_true rfl, Nat.le_of_ble_eq_true rfl⟩) (by decide) (kc8 g Y _) rfl rfl hl.1 rfl (Nat.le_of_ble_eq_true rfl) dX9_mark_46 ⟨Nat.zero_le _, Nat.zero_le _⟩ (fun H locs I => ?_)
          refine lv_goto (tgt := 54) hx hb dX9_mark_49 (by decide) ?_
          exact j_iret I hx hb hr rfl hlk hf dX9_mark_54
      · have hf := i_f c10 hf
        refine lv_ldc hx hb hown (hts (.constant RX9 225 (-1000000011)) (by decide +kernel)) dX9_mark_29 ?_
        exact j_iret I hx hb hr rfl hlk hf dX9_mark_31
    · have hf := i_f c6 hf
      refine j_qald I hx hb 41 (by decide) (kc41 g Y _) b5 dX9_mark_18 (a := g 9) (if_neg (q_ne0 c6 b5)) ?_
      refine lv_astore (lv' := [(4, .ref (g 9)), (0, .ref (g 0)), (1, .int p0), (2, .int p1), (3, .int p2)]) hx hb dX9_mark_19 hl (by decide) rfl (fun ls hl => ?_)
      refine lv_aload hx hb dX9_mark_21 (lv_at hl 0 rfl) ?_
      obtain ⟨σ18, r19, h20, hf⟩ := o_obn hf
      refine j_iV (rest := []) I ⟨hx, hb, hml, hown, hts⟩ (ct_X8_isMissing_9 σ1 _ h20) (cwV 0 hts gX9_mark_X8_isMissing rfl rfl rfl (by decide +kernel) ⟨Nat.le_of_ble_eq_true rfl, Nat.le_of_ble_eq_true rfl⟩) (by decide) (kc9 g Y _) rfl rfl hl.1 rfl (Nat.le_of_ble_eq_true rfl) dX9_mark_23 ⟨Nat.zero_le _, Nat.zero_le _⟩ (fun H locs I => ?_)
      refine lv_if_eq (tgt := 32) hx hb dX9_mark_26 (by decide) (fun c21 => ?_) (fun c21 => ?_)
      · have hf := i_t c21 hf
        refine lv_aload hx hb dX9_mark_32 (lv_at hl 0 rfl) ?_
        refine lv_iload_n hx hb dX9_mark_34 rfl (lv_at hl 3 rfl) ?_
        obtain ⟨σ22, r23, h24, hf⟩ := o_obn hf
        refine j_iV (rest := []) I ⟨hx, hb, hml, hown, hts⟩ (ct_X8_has_9 σ18 p1 _ h24) (cwV 1 hts gX9_mark_X8_has rfl rfl rfl (by decide +kernel) ⟨Nat.le_of_ble_eq_true rfl, Nat.le_of_ble_eq_true rfl⟩) (by decide) (kc9 g Y _) rfl rfl hl.1 rfl (Nat.le_of_ble_eq_true rfl) dX9_mark_35 ⟨Nat.zero_le _, Nat.zero_le _⟩ (fun H locs I => ?_)
        refine lv_if_eq (tgt := 52) hx hb dX9_mark_38 (by decide) (fun c25 => ?_) (fun c25 => ?_)
        · have hf := i_t c25 hf
          refine lv_ldc hx hb hown (hts (.constant RX9 243 (-1000000013)) (by decide +kernel)) dX9_mark_52 ?_
          exact j_iret I hx hb hr rfl hlk hf dX9_mark_54
        · have hf := i_f c25 hf
          refine lv_aload hx hb dX9_mark_41 (lv_at hl 0 rfl) ?_
          refine lv_iload_n hx hb dX9_mark_43 rfl (lv_at hl 3 rfl) ?_
          refine lv_iload_n hx hb dX9_mark_44 rfl (lv_at hl 4 rfl) ?_
          refine lv_i2s hx hb dX9_mark_45 rfl ?_
          obtain ⟨σ26, r27, h28, hf⟩ := o_obn hf
          refine j_iV (rest := []) I ⟨hx, hb, hml, hown, hts⟩ (ct_X8_become_9 σ22 p1 (p2.toInt16.toInt32) _ h28) (cwV 2 hts gX9_mark_X8_become rfl rfl rfl (by decide +kernel) ⟨Nat.le_of_ble_eq_true rfl, Nat.le_of_ble_eq_true rfl⟩) (by decide) (kc9 g Y _) rfl rfl hl.1 rfl (Nat.le_of_ble_eq_true rfl) dX9_mark_46 ⟨Nat.zero_le _, Nat.zero_le _⟩ (fun H locs I => ?_)
          refine lv_goto (tgt := 54) hx hb dX9_mark_49 (by decide) ?_
          exact j_iret I hx hb hr rfl hlk hf dX9_mark_54
      · have hf := i_f c21 hf
        refine lv_ldc hx hb hown (hts (.constant RX9 225 (-1000000011)) (by decide +kernel)) dX9_mark_29 ?_
        exact j_iret I hx hb hr rfl hlk hf dX9_mark_31
  · have hf := i_t c4 hf
    refine lv_ldc hx hb hown (hts (.constant RX9 52 (-1000000001)) (by decide +kernel)) dX9_mark_7 ?_
    exact j_iret I hx hb hr rfl hlk hf dX9_mark_9
