theorem iw_X9_init_X0 : ∀ w ∈ u_ws RX0 TX0 7, w ∈ wsX9_init := fun _ h => List.mem_cons_of_mem _ (List.mem_append_left _ (List.mem_append_left _ (List.mem_append_left _ (List.mem_append_left _ (List.mem_append_left _ (List.mem_append_right _ h))))))
theorem iw_X9_init_X1 : ∀ w ∈ u_ws RX1 TX1 6, w ∈ wsX9_init := fun _ h => List.mem_cons_of_mem _ (List.mem_append_left _ (List.mem_append_left _ (List.mem_append_left _ (List.mem_append_left _ (List.mem_append_left _ (List.mem_append_left _ (List.mem_append_left _ (List.mem_append_left _ (List.mem_append_left _ (List.mem_append_right _ h))))))))))
theorem iw_X9_init_X2 : ∀ w ∈ u_ws RX2 TX2 11, w ∈ wsX9_init := fun _ h => List.mem_cons_of_mem _ (List.mem_append_left _ (List.mem_append_left _ (List.mem_append_left _ (List.mem_append_left _ (List.mem_append_left _ (List.mem_append_left _ (List.mem_append_right _ h)))))))
theorem iw_X9_init_X4 : ∀ w ∈ u_ws RX4 TX4 3, w ∈ wsX9_init := fun _ h => List.mem_cons_of_mem _ (List.mem_append_left _ (List.mem_append_left _ (List.mem_append_left _ (List.mem_append_left _ (List.mem_append_right _ h)))))
theorem iw_X9_init_X5 : ∀ w ∈ u_ws RX5 TX5 3, w ∈ wsX9_init := fun _ h => List.mem_cons_of_mem _ (List.mem_append_left _ (List.mem_append_left _ (List.mem_append_left _ (List.mem_append_left _ (List.mem_append_left _ (List.mem_append_left _ (List.mem_append_left _ (List.mem_append_right _ h))))))))
theorem iw_X9_init_X9 : ∀ w ∈ u_ws RX9 TX9 5, w ∈ wsX9_init := fun _ h => List.mem_cons_of_mem _ (List.mem_append_left _ (List.mem_append_left _ (List.mem_append_left _ (List.mem_append_left _ (List.mem_append_left _ (List.mem_append_left _ (List.mem_append_left _ (List.mem_append_left _ (List.mem_append_right _ h)))))))))
set_option maxHeartbeats 8000000 in
set_option maxRecDepth 100000 in
theorem ct_X9_init {l : Launch} {D : va_G} {Y : YT} {bP : Nat} (h0 : Nat) : CN l yX9_init wsX9_init ⟨3, 43, 898, 56⟩ 43 898 D Y bP [.ref h0] [(h0, .inr (9, [.null, .null, .null, .null, .null]))] (fun u => u 0 = h0) (fun u => wd 44 u (KC u Y) σC0) := by
  intro sz
  refine Met.ofW (cc := cX9_init) (maxL := 1) (ret := none) (by decide) rfl ?_
  intro p e s m args below meth c s₁ B hml hv
  obtain ⟨rfl, rfl, I⟩ := n_start hv
  have C0 : MC p s m _ meth c cX9_init 1 none RX9 wsX9_init := ⟨B.exec, B.bytes, B.returns, hml, findClass_of_methodNamed B.named, atoms_spec (ws := wsX9_init) B.pre, B.notSynchronized⟩
  obtain ⟨hx, hb, hr, hml, hown, hts, hlk⟩ := id C0
  have hi : meth.name = "<init>" := (name_of_methodNamed B.named B.method).1
  have hl := lv_entry ([.ref h0]) (n := 1) (Nat.le_of_ble_eq_true rfl)
  rw [lg_entry_eq]
  generalize (lg_sl ([.ref h0]) ++ List.replicate (1 - (lg_sl ([.ref h0])).length) Slot.unset).toArray = ls at hl ⊢
  have hl : lv_has ls 1 [(0, .ref h0)] := hl
  generalize hAe : va_A [(h0, .inr (9, [.null, .null, .null, .null, .null]))] s.heap.size = A at I ⊢
  refine lv_aload_n hx hb dX9_init_0 rfl (lv_at hl 0 rfl) ?_
  refine W.objInit hx hb hown (hts (.methodLink RX9 3 objectInit) (by decide +kernel)) (hts (.instanceMethod objectInit) (by decide +kernel)) (hts (.code objectInit ⟨#[0xb1]⟩ 1 none) (by decide +kernel)) rfl (by rw [hml]; exact hl.1) rfl dX9_init_1 (Nat.le_of_ble_eq_true rfl) (Nat.le_of_ble_eq_true rfl) ?_
  refine W.eq (g2 := F0 m 4 ls []) rfl ?_
  refine lv_aload_n hx hb dX9_init_4 rfl (lv_at hl 0 rfl) ?_
  refine n_new (ci := 1) (fs := [.null, .null, .null, .null, .null, .int 0]) I hx hb hts iw_X9_init_X1 tyX1 tyX1_ok hown (hts (.classLink RX9 9 RX1) (by decide +kernel)) (hts (.instantiable RX1 6) (by decide +kernel)) (hts (.initialized RX1) (by decide +kernel)) rfl (fun j hj => by rcases (show j = 0 ∨ j = 1 ∨ j = 2 ∨ j = 3 ∨ j = 4 ∨ j = 5 by omega) with rfl | rfl | rfl | rfl | rfl | rfl <;> rfl) (Nat.le_of_ble_eq_true rfl) (Nat.le_of_ble_eq_true rfl) dX9_init_5 (fun q1 H J => ?_)
  refine W.widen (k := 1) (n := 6) (by omega) (by omega) ?_
  clear I
  have I : LW D Y bP A s [(h0, .inr (9, [.null, .null, .null, .null, .null])), (q1, .inr (1, [.null, .null, .null, .null, .null, .int 0]))] _ _ := J
  clear J
  refine lv_dup hx hb dX9_init_8 rfl ?_
  refine n_callIN (rest := [.ref q1, .ref h0]) (wr := [(h0, .inr (9, [.null, .null, .null, .null, .null]))]) I ⟨hx, hb, hml, hown, hts⟩ (ct_X1_init q1) ⟨va_cnB 0 hts gX9_init_X1_init_n11 rfl rfl rfl (nM I.2.2.2.2.2.1 (own := RX9) (index := 11) (y := yX1_init) (host := "ReelNight") (by decide +kernel)) (hts (.initialized RX1) (by decide +kernel)) (by decide +kernel) ⟨Nat.le_of_ble_eq_true rfl, Nat.le_of_ble_eq_true rfl⟩, rfl, (hts (.instanceMethod yX1_init) (by decide +kernel))⟩ [1] [0] rfl rfl rfl rfl (by decide) rfl hl.1 rfl (Nat.le_of_ble_eq_true rfl) dX9_init_9 ⟨Nat.le_of_ble_eq_true rfl, Nat.le_of_ble_eq_true rfl⟩ (fun u2 H locs hu I2 => ?_)
  have hl9 := hl
  clear I
  subst hu
  have I := I2
  have J := I2
  clear I2
  refine W.widen (k := 7) (n := 67) (by omega) (by omega) ?_
  clear I
  have I : LW D Y bP A s [(h0, .inr (9, [.null, .null, .null, .null, .null])), ((u2 0), .inr (1, [.ref (u2 1), .ref (u2 2), .ref (u2 3), .ref (u2 4), .ref (u2 5), .int 0])), ((u2 1), .inl (Y.1, 6, .inl (fun _ => 0))), ((u2 2), .inl (Y.1, 6, .inl (fun _ => 0))), ((u2 3), .inl (Y.1, 6, .inl (fun _ => 0))), ((u2 4), .inl (Y.1, 6, .inl (fun _ => 0))), ((u2 5), .inr (3, [.ref (u2 6)])), ((u2 6), .inl (Y.1, 36, .inl (pr10.1 1)))] _ _ := J
  clear J
  have hl : lv_has ls 1 [(0, .ref h0)] := hl9
  refine n_putF I hx hb hts iw_X9_init_X9 tyX9 tyX9_ok nmX9 hown hi 0 rfl rfl 0 (by decide) (hts (.fieldLink RX9 12 "ReelNight" "houses" "LReelNight$Houses;") (by decide +kernel)) rfl rfl rfl rfl (Nat.le_of_ble_eq_true rfl) dX9_init_12 (fun H locs J => ?_)
  clear I
  have I : LW D Y bP A s [(h0, .inr (9, [.ref (u2 0), .null, .null, .null, .null])), ((u2 0), .inr (1, [.ref (u2 1), .ref (u2 2), .ref (u2 3), .ref (u2 4), .ref (u2 5), .int 0])), ((u2 1), .inl (Y.1, 6, .inl (fun _ => 0))), ((u2 2), .inl (Y.1, 6, .inl (fun _ => 0))), ((u2 3), .inl (Y.1, 6, .inl (fun _ => 0))), ((u2 4), .inl (Y.1, 6, .inl (fun _ => 0))), ((u2 5), .inr (3, [.ref (u2 6)])), ((u2 6), .inl (Y.1, 36, .inl (pr10.1 1)))] _ _ := J
  clear J
  refine lv_aload_n hx hb dX9_init_15 rfl (lv_at hl 0 rfl) ?_
  refine n_new (ci := 5) (fs := [.null, .null, .int 0]) I hx hb hts iw_X9_init_X5 tyX5 tyX5_ok hown (hts (.classLink RX9 16 RX5) (by decide +kernel)) (hts (.instantiable RX5 3) (by decide +kernel)) (hts (.initialized RX5) (by decide +kernel)) rfl (fun j hj => by rcases (show j = 0 ∨ j = 1 ∨ j = 2 by omega) with rfl | rfl | rfl <;> rfl) (Nat.le_of_ble_eq_true rfl) (Nat.le_of_ble_eq_true rfl) dX9_init_16 (fun q3 H J => ?_)
  refine W.widen (k := 8) (n := 70) (by omega) (by omega) ?_
  clear I
  have I : LW D Y bP A s [(h0, .inr (9, [.ref (u2 0), .null, .null, .null, .null])), ((u2 0), .inr (1, [.ref (u2 1), .ref (u2 2), .ref (u2 3), .ref (u2 4), .ref (u2 5), .int 0])), ((u2 1), .inl (Y.1, 6, .inl (fun _ => 0))), ((u2 2), .inl (Y.1, 6, .inl (fun _ => 0))), ((u2 3), .inl (Y.1, 6, .inl (fun _ => 0))), ((u2 4), .inl (Y.1, 6, .inl (fun _ => 0))), ((u2 5), .inr (3, [.ref (u2 6)])), ((u2 6), .inl (Y.1, 36, .inl (pr10.1 1))), (q3, .inr (5, [.null, .null, .int 0]))] _ _ := J
  clear J
  refine lv_dup hx hb dX9_init_19 rfl ?_
  refine n_callIN (rest := [.ref q3, .ref h0]) (wr := [(h0, .inr (9, [.ref (u2 0), .null, .null, .null, .null])), ((u2 0), .inr (1, [.ref (u2 1), .ref (u2 2), .ref (u2 3), .ref (u2 4), .ref (u2 5), .int 0])), ((u2 1), .inl (Y.1, 6, .inl (fun _ => 0))), ((u2 2), .inl (Y.1, 6, .inl (fun _ => 0))), ((u2 3), .inl (Y.1, 6, .inl (fun _ => 0))), ((u2 4), .inl (Y.1, 6, .inl (fun _ => 0))), ((u2 5), .inr (3, [.ref (u2 6)])), ((u2 6), .inl (Y.1, 36, .inl (pr10.1 1)))]) I ⟨hx, hb, hml, hown, hts⟩ (ct_X5_init q3) ⟨va_cnB 0 hts gX9_init_X5_init_n18 rfl rfl rfl (nM I.2.2.2.2.2.1 (own := RX9) (index := 18) (y := yX5_init) (host := "ReelNight") (by decide +kernel)) (hts (.initialized RX5) (by decide +kernel)) (by decide +kernel) ⟨Nat.le_of_ble_eq_true rfl, Nat.le_of_ble_eq_true rfl⟩, rfl, (hts (.instanceMethod yX5_init) (by decide +kernel))⟩ [8] [0, 1, 2, 3, 4, 5, 6, 7] rfl rfl rfl rfl (by decide) rfl hl.1 rfl (Nat.le_of_ble_eq_true rfl) dX9_init_20 ⟨Nat.le_of_ble_eq_true rfl, Nat.le_of_ble_eq_true rfl⟩ (fun u4 H locs hu I2 => ?_)
  have hl9 := hl
  clear I
  subst hu
  have I := I2
  have J := I2
  clear I2
  refine W.widen (k := 10) (n := 86) (by omega) (by omega) ?_
  clear I
  have I : LW D Y bP A s [(h0, .inr (9, [.ref (u2 0), .null, .null, .null, .null])), ((u2 0), .inr (1, [.ref (u2 1), .ref (u2 2), .ref (u2 3), .ref (u2 4), .ref (u2 5), .int 0])), ((u2 1), .inl (Y.1, 6, .inl (fun _ => 0))), ((u2 2), .inl (Y.1, 6, .inl (fun _ => 0))), ((u2 3), .inl (Y.1, 6, .inl (fun _ => 0))), ((u2 4), .inl (Y.1, 6, .inl (fun _ => 0))), ((u2 5), .inr (3, [.ref (u2 6)])), ((u2 6), .inl (Y.1, 36, .inl (pr10.1 1))), ((u4 0), .inr (5, [.ref (u4 1), .ref (u4 2), .int 0])), ((u4 1), .inl (Y.1, 8, .inl (fun _ => 0))), ((u4 2), .inl (Y.1, 8, .inl (fun _ => 0)))] _ _ := J
  clear J
  have hl : lv_has ls 1 [(0, .ref h0)] := hl9
  refine n_putF I hx hb hts iw_X9_init_X9 tyX9 tyX9_ok nmX9 hown hi 0 rfl rfl 1 (by decide) (hts (.fieldLink RX9 19 "ReelNight" "reels" "LReelNight$Reels;") (by decide +kernel)) rfl rfl rfl rfl (Nat.le_of_ble_eq_true rfl) dX9_init_23 (fun H locs J => ?_)
  clear I
  have I : LW D Y bP A s [(h0, .inr (9, [.ref (u2 0), .ref (u4 0), .null, .null, .null])), ((u2 0), .inr (1, [.ref (u2 1), .ref (u2 2), .ref (u2 3), .ref (u2 4), .ref (u2 5), .int 0])), ((u2 1), .inl (Y.1, 6, .inl (fun _ => 0))), ((u2 2), .inl (Y.1, 6, .inl (fun _ => 0))), ((u2 3), .inl (Y.1, 6, .inl (fun _ => 0))), ((u2 4), .inl (Y.1, 6, .inl (fun _ => 0))), ((u2 5), .inr (3, [.ref (u2 6)])), ((u2 6), .inl (Y.1, 36, .inl (pr10.1 1))), ((u4 0), .inr (5, [.ref (u4 1), .ref (u4 2), .int 0])), ((u4 1), .inl (Y.1, 8, .inl (fun _ => 0))), ((u4 2), .inl (Y.1, 8, .inl (fun _ => 0)))] _ _ := J
  clear J
  refine lv_aload_n hx hb dX9_init_26 rfl (lv_at hl 0 rfl) ?_
  refine n_new (ci := 2) (fs := [.null, .null, .null, .null, .null, .int 0, .null, .null, .null, .null, .null]) I hx hb hts iw_X9_init_X2 tyX2 tyX2_ok hown (hts (.classLink RX9 23 RX2) (by decide +kernel)) (hts (.instantiable RX2 11) (by decide +kernel)) (hts (.initialized RX2) (by decide +kernel)) rfl (fun j hj => by rcases (show j = 0 ∨ j = 1 ∨ j = 2 ∨ j = 3 ∨ j = 4 ∨ j = 5 ∨ j = 6 ∨ j = 7 ∨ j = 8 ∨ j = 9 ∨ j = 10 by omega) with rfl | rfl | rfl | rfl | rfl | rfl | rfl | rfl | rfl | rfl | rfl <;> rfl) (Nat.le_of_ble_eq_true rfl) (Nat.le_of_ble_eq_true rfl) dX9_init_27 (fun q5 H J => ?_)
  refine W.widen (k := 11) (n := 97) (by omega) (by omega) ?_
  clear I
  have I : LW D Y bP A s [(h0, .inr (9, [.ref (u2 0), .ref (u4 0), .null, .null, .null])), ((u2 0), .inr (1, [.ref (u2 1), .ref (u2 2), .ref (u2 3), .ref (u2 4), .ref (u2 5), .int 0])), ((u2 1), .inl (Y.1, 6, .inl (fun _ => 0))), ((u2 2), .inl (Y.1, 6, .inl (fun _ => 0))), ((u2 3), .inl (Y.1, 6, .inl (fun _ => 0))), ((u2 4), .inl (Y.1, 6, .inl (fun _ => 0))), ((u2 5), .inr (3, [.ref (u2 6)])), ((u2 6), .inl (Y.1, 36, .inl (pr10.1 1))), ((u4 0), .inr (5, [.ref (u4 1), .ref (u4 2), .int 0])), ((u4 1), .inl (Y.1, 8, .inl (fun _ => 0))), ((u4 2), .inl (Y.1, 8, .inl (fun _ => 0))), (q5, .inr (2, [.null, .null, .null, .null, .null, .int 0, .null, .null, .null, .null, .null]))] _ _ := J
  clear J
  refine lv_dup hx hb dX9_init_30 rfl ?_
  refine lv_aload_n hx hb dX9_init_31 rfl (lv_at hl 0 rfl) ?_
  refine n_get I hx hb hts iw_X9_init_X9 hown 0 rfl rfl 0 (by decide) (hts (.fieldLink RX9 12 "ReelNight" "houses" "LReelNight$Houses;") (by decide +kernel)) rfl dX9_init_32 ?_
  refine lv_aload_n hx hb dX9_init_35 rfl (lv_at hl 0 rfl) ?_
  refine n_get I hx hb hts iw_X9_init_X9 hown 0 rfl rfl 1 (by decide) (hts (.fieldLink RX9 19 "ReelNight" "reels" "LReelNight$Reels;") (by decide +kernel)) rfl dX9_init_36 ?_
  refine n_callI (rest := [.ref q5, .ref h0]) (wr := [(h0, .inr (9, [.ref (u2 0), .ref (u4 0), .null, .null, .null])), ((u2 1), .inl (Y.1, 6, .inl (fun _ => 0))), ((u2 2), .inl (Y.1, 6, .inl (fun _ => 0))), ((u2 3), .inl (Y.1, 6, .inl (fun _ => 0))), ((u2 4), .inl (Y.1, 6, .inl (fun _ => 0))), ((u2 5), .inr (3, [.ref (u2 6)])), ((u2 6), .inl (Y.1, 36, .inl (pr10.1 1))), ((u4 0), .inr (5, [.ref (u4 1), .ref (u4 2), .int 0])), ((u4 1), .inl (Y.1, 8, .inl (fun _ => 0))), ((u4 2), .inl (Y.1, 8, .inl (fun _ => 0)))]) I ⟨hx, hb, hml, hown, hts⟩ (ct_X2_init q5 (u2 0) (u4 0) (u2 1) (u2 2) (u2 3) (u2 4) (u2 5)) (cwI 2 hts gX9_init_X2_init rfl rfl rfl (hts (.initialized RX2) (by decide +kernel)) (hts (.methodLink RX9 25 yX2_init) (by decide +kernel)) (hts (.instanceMethod yX2_init) (by decide +kernel)) rfl (by decide +kernel) ⟨Nat.le_of_ble_eq_true rfl, Nat.le_of_ble_eq_true rfl⟩) [11, 1] [0, 2, 3, 4, 5, 6, 7, 8, 9, 10] rfl rfl rfl rfl (by decide) rfl hl.1 rfl (Nat.le_of_ble_eq_true rfl) dX9_init_39 ⟨Nat.le_of_ble_eq_true rfl, Nat.le_of_ble_eq_true rfl⟩ (fun u6 H locs hu I2 => ?_)
  have hl9 := hl
  clear I
  subst hu
  have I := I2
  have J := I2
  clear I2
  refine W.widen (k := 26) (n := 630) (by omega) (by omega) ?_
  clear I
  have I : LW D Y bP A s [(h0, .inr (9, [.ref (u2 0), .ref (u4 0), .null, .null, .null])), ((u2 1), .inl (Y.1, 6, .inl (fun _ => 0))), ((u2 2), .inl (Y.1, 6, .inl (fun _ => 0))), ((u2 3), .inl (Y.1, 6, .inl (fun _ => 0))), ((u2 4), .inl (Y.1, 6, .inl (fun _ => 0))), ((u2 5), .inr (3, [.ref (u2 6)])), ((u2 6), .inl (Y.1, 36, .inl (pr10.1 1))), ((u4 0), .inr (5, [.ref (u4 1), .ref (u4 2), .int 0])), ((u4 1), .inl (Y.1, 8, .inl (fun _ => 0))), ((u4 2), .inl (Y.1, 8, .inl (fun _ => 0))), ((u6 0), .inr (2, [.ref (u2 0), .ref (u4 0), .ref (u6 8), .ref (u6 1), .ref (u6 2), .int 0, .ref (u6 3), .ref (u6 4), .ref (u6 5), .ref (u6 6), .ref (u6 7)])), ((u2 0), .inr (1, [.ref (u2 1), .ref (u2 2), .ref (u2 3), .ref (u2 4), .ref (u2 5), .int 0])), ((u6 1), .inl (Y.1, 6, .inl (fun _ => 0))), ((u6 2), .inl (Y.1, 40, .inl (fun _ => 0))), ((u6 3), .inl (Y.1, 6, .inl (fun _ => 0))), ((u6 4), .inl (Y.1, 48, .inl (fun _ => 0))), ((u6 5), .inl (Y.1, 48, .inl (fun _ => 0))), ((u6 6), .inl (Y.1, 48, .inl (fun _ => 0))), ((u6 7), .inl (Y.1, 48, .inl (fun _ => 0))), ((u6 8), .inr (6, [.ref (u2 5), .ref (u6 9), .ref (u6 10), .ref (u6 11), .ref (u6 12), .ref (u6 13), .ref (u6 14), .ref (u6 15), .int 0])), ((u6 9), .inl (Y.1, 40, .inl (fun _ => 0))), ((u6 10), .inl (Y.1, 40, .inl (fun _ => 0))), ((u6 11), .inl (Y.1, 40, .inl (fun _ => 0))), ((u6 12), .inl (Y.1, 40, .inl (fun _ => 0))), ((u6 13), .inl (Y.1, 40, .inl (fun _ => 0))), ((u6 14), .inl (Y.1, 40, .inl (fun _ => 0))), ((u6 15), .inl (Y.1, 40, .inl (fun _ => 0)))] _ _ := J
  clear J
  have hl : lv_has ls 1 [(0, .ref h0)] := hl9
  refine n_putF I hx hb hts iw_X9_init_X9 tyX9 tyX9_ok nmX9 hown hi 0 rfl rfl 2 (by decide) (hts (.fieldLink RX9 28 "ReelNight" "night" "LReelNight$Night;") (by decide +kernel)) rfl rfl rfl rfl (Nat.le_of_ble_eq_true rfl) dX9_init_42 (fun H locs J => ?_)
  clear I
  have I : LW D Y bP A s [(h0, .inr (9, [.ref (u2 0), .ref (u4 0), .ref (u6 0), .null, .null])), ((u2 1), .inl (Y.1, 6, .inl (fun _ => 0))), ((u2 2), .inl (Y.1, 6, .inl (fun _ => 0))), ((u2 3), .inl (Y.1, 6, .inl (fun _ => 0))), ((u2 4), .inl (Y.1, 6, .inl (fun _ => 0))), ((u2 5), .inr (3, [.ref (u2 6)])), ((u2 6), .inl (Y.1, 36, .inl (pr10.1 1))), ((u4 0), .inr (5, [.ref (u4 1), .ref (u4 2), .int 0])), ((u4 1), .inl (Y.1, 8, .inl (fun _ => 0))), ((u4 2), .inl (Y.1, 8, .inl (fun _ => 0))), ((u6 0), .inr (2, [.ref (u2 0), .ref (u4 0), .ref (u6 8), .ref (u6 1), .ref (u6 2), .int 0, .ref (u6 3), .ref (u6 4), .ref (u6 5), .ref (u6 6), .ref (u6 7)])), ((u2 0), .inr (1, [.ref (u2 1), .ref (u2 2), .ref (u2 3), .ref (u2 4), .ref (u2 5), .int 0])), ((u6 1), .inl (Y.1, 6, .inl (fun _ => 0))), ((u6 2), .inl (Y.1, 40, .inl (fun _ => 0))), ((u6 3), .inl (Y.1, 6, .inl (fun _ => 0))), ((u6 4), .inl (Y.1, 48, .inl (fun _ => 0))), ((u6 5), .inl (Y.1, 48, .inl (fun _ => 0))), ((u6 6), .inl (Y.1, 48, .inl (fun _ => 0))), ((u6 7), .inl (Y.1, 48, .inl (fun _ => 0))), ((u6 8), .inr (6, [.ref (u2 5), .ref (u6 9), .ref (u6 10), .ref (u6 11), .ref (u6 12), .ref (u6 13), .ref (u6 14), .ref (u6 15), .int 0])), ((u6 9), .inl (Y.1, 40, .inl (fun _ => 0))), ((u6 10), .inl (Y.1, 40, .inl (fun _ => 0))), ((u6 11), .inl (Y.1, 40, .inl (fun _ => 0))), ((u6 12), .inl (Y.1, 40, .inl (fun _ => 0))), ((u6 13), .inl (Y.1, 40, .inl (fun _ => 0))), ((u6 14), .inl (Y.1, 40, .inl (fun _ => 0))), ((u6 15), .inl (Y.1, 40, .inl (fun _ => 0)))] _ _ := J
  clear J
  refine lv_aload_n hx hb dX9_init_45 rfl (lv_at hl 0 rfl) ?_
  refine n_new (ci := 0) (fs := [.null, .null, .null, .null, .null, .null, .int 0]) I hx hb hts iw_X9_init_X0 tyX0 tyX0_ok hown (hts (.classLink RX9 32 RX0) (by decide +kernel)) (hts (.instantiable RX0 7) (by decide +kernel)) (hts (.initialized RX0) (by decide +kernel)) rfl (fun j hj => by rcases (show j = 0 ∨ j = 1 ∨ j = 2 ∨ j = 3 ∨ j = 4 ∨ j = 5 ∨ j = 6 by omega) with rfl | rfl | rfl | rfl | rfl | rfl | rfl <;> rfl) (Nat.le_of_ble_eq_true rfl) (Nat.le_of_ble_eq_true rfl) dX9_init_46 (fun q7 H J => ?_)
  refine W.widen (k := 27) (n := 637) (by omega) (by omega) ?_
  clear I
  have I : LW D Y bP A s [(h0, .inr (9, [.ref (u2 0), .ref (u4 0), .ref (u6 0), .null, .null])), ((u2 1), .inl (Y.1, 6, .inl (fun _ => 0))), ((u2 2), .inl (Y.1, 6, .inl (fun _ => 0))), ((u2 3), .inl (Y.1, 6, .inl (fun _ => 0))), ((u2 4), .inl (Y.1, 6, .inl (fun _ => 0))), ((u2 5), .inr (3, [.ref (u2 6)])), ((u2 6), .inl (Y.1, 36, .inl (pr10.1 1))), ((u4 0), .inr (5, [.ref (u4 1), .ref (u4 2), .int 0])), ((u4 1), .inl (Y.1, 8, .inl (fun _ => 0))), ((u4 2), .inl (Y.1, 8, .inl (fun _ => 0))), ((u6 0), .inr (2, [.ref (u2 0), .ref (u4 0), .ref (u6 8), .ref (u6 1), .ref (u6 2), .int 0, .ref (u6 3), .ref (u6 4), .ref (u6 5), .ref (u6 6), .ref (u6 7)])), ((u2 0), .inr (1, [.ref (u2 1), .ref (u2 2), .ref (u2 3), .ref (u2 4), .ref (u2 5), .int 0])), ((u6 1), .inl (Y.1, 6, .inl (fun _ => 0))), ((u6 2), .inl (Y.1, 40, .inl (fun _ => 0))), ((u6 3), .inl (Y.1, 6, .inl (fun _ => 0))), ((u6 4), .inl (Y.1, 48, .inl (fun _ => 0))), ((u6 5), .inl (Y.1, 48, .inl (fun _ => 0))), ((u6 6), .inl (Y.1, 48, .inl (fun _ => 0))), ((u6 7), .inl (Y.1, 48, .inl (fun _ => 0))), ((u6 8), .inr (6, [.ref (u2 5), .ref (u6 9), .ref (u6 10), .ref (u6 11), .ref (u6 12), .ref (u6 13), .ref (u6 14), .ref (u6 15), .int 0])), ((u6 9), .inl (Y.1, 40, .inl (fun _ => 0))), ((u6 10), .inl (Y.1, 40, .inl (fun _ => 0))), ((u6 11), .inl (Y.1, 40, .inl (fun _ => 0))), ((u6 12), .inl (Y.1, 40, .inl (fun _ => 0))), ((u6 13), .inl (Y.1, 40, .inl (fun _ => 0))), ((u6 14), .inl (Y.1, 40, .inl (fun _ => 0))), ((u6 15), .inl (Y.1, 40, .inl (fun _ => 0))), (q7, .inr (0, [.null, .null, .null, .null, .null, .null, .int 0]))] _ _ := J
  clear J
  refine lv_dup hx hb dX9_init_49 rfl ?_
  refine lv_aload_n hx hb dX9_init_50 rfl (lv_at hl 0 rfl) ?_
  refine n_get I hx hb hts iw_X9_init_X9 hown 0 rfl rfl 0 (by decide) (hts (.fieldLink RX9 12 "ReelNight" "houses" "LReelNight$Houses;") (by decide +kernel)) rfl dX9_init_51 ?_
  refine n_callI (rest := [.ref q7, .ref h0]) (wr := [(h0, .inr (9, [.ref (u2 0), .ref (u4 0), .ref (u6 0), .null, .null])), ((u2 1), .inl (Y.1, 6, .inl (fun _ => 0))), ((u2 2), .inl (Y.1, 6, .inl (fun _ => 0))), ((u2 3), .inl (Y.1, 6, .inl (fun _ => 0))), ((u2 4), .inl (Y.1, 6, .inl (fun _ => 0))), ((u2 5), .inr (3, [.ref (u2 6)])), ((u2 6), .inl (Y.1, 36, .inl (pr10.1 1))), ((u4 0), .inr (5, [.ref (u4 1), .ref (u4 2), .int 0])), ((u4 1), .inl (Y.1, 8, .inl (fun _ => 0))), ((u4 2), .inl (Y.1, 8, .inl (fun _ => 0))), ((u6 0), .inr (2, [.ref (u2 0), .ref (u4 0), .ref (u6 8), .ref (u6 1), .ref (u6 2), .int 0, .ref (u6 3), .ref (u6 4), .ref (u6 5), .ref (u6 6), .ref (u6 7)])), ((u2 0), .inr (1, [.ref (u2 1), .ref (u2 2), .ref (u2 3), .ref (u2 4), .ref (u2 5), .int 0])), ((u6 1), .inl (Y.1, 6, .inl (fun _ => 0))), ((u6 2), .inl (Y.1, 40, .inl (fun _ => 0))), ((u6 3), .inl (Y.1, 6, .inl (fun _ => 0))), ((u6 4), .inl (Y.1, 48, .inl (fun _ => 0))), ((u6 5), .inl (Y.1, 48, .inl (fun _ => 0))), ((u6 6), .inl (Y.1, 48, .inl (fun _ => 0))), ((u6 7), .inl (Y.1, 48, .inl (fun _ => 0))), ((u6 8), .inr (6, [.ref (u2 5), .ref (u6 9), .ref (u6 10), .ref (u6 11), .ref (u6 12), .ref (u6 13), .ref (u6 14), .ref (u6 15), .int 0])), ((u6 9), .inl (Y.1, 40, .inl (fun _ => 0))), ((u6 10), .inl (Y.1, 40, .inl (fun _ => 0))), ((u6 11), .inl (Y.1, 40, .inl (fun _ => 0))), ((u6 12), .inl (Y.1, 40, .inl (fun _ => 0))), ((u6 13), .inl (Y.1, 40, .inl (fun _ => 0))), ((u6 14), .inl (Y.1, 40, .inl (fun _ => 0))), ((u6 15), .inl (Y.1, 40, .inl (fun _ => 0)))]) I ⟨hx, hb, hml, hown, hts⟩ (ct_X0_init q7 (u2 0)) (cwI 1 hts gX9_init_X0_init rfl rfl rfl (hts (.initialized RX0) (by decide +kernel)) (hts (.methodLink RX9 34 yX0_init) (by decide +kernel)) (hts (.instanceMethod yX0_init) (by decide +kernel)) rfl (by decide +kernel) ⟨Nat.le_of_ble_eq_true rfl, Nat.le_of_ble_eq_true rfl⟩) [27] [0, 1, 2, 3, 4, 5, 6, 7, 8, 9, 10, 11, 12, 13, 14, 15, 16, 17, 18, 19, 20, 21, 22, 23, 24, 25, 26] rfl rfl rfl rfl (by decide) rfl hl.1 rfl (Nat.le_of_ble_eq_true rfl) dX9_init_54 ⟨Nat.le_of_ble_eq_true rfl, Nat.le_of_ble_eq_true rfl⟩ (fun u8 H locs hu I2 => ?_)
  have hl9 := hl
  clear I
  subst hu
  have I := I2
  have J := I2
  clear I2
  refine W.widen (k := 36) (n := 838) (by omega) (by omega) ?_
  clear I
  have I : LW D Y bP A s [(h0, .inr (9, [.ref (u2 0), .ref (u4 0), .ref (u6 0), .null, .null])), ((u2 1), .inl (Y.1, 6, .inl (fun _ => 0))), ((u2 2), .inl (Y.1, 6, .inl (fun _ => 0))), ((u2 3), .inl (Y.1, 6, .inl (fun _ => 0))), ((u2 4), .inl (Y.1, 6, .inl (fun _ => 0))), ((u2 5), .inr (3, [.ref (u2 6)])), ((u2 6), .inl (Y.1, 36, .inl (pr10.1 1))), ((u4 0), .inr (5, [.ref (u4 1), .ref (u4 2), .int 0])), ((u4 1), .inl (Y.1, 8, .inl (fun _ => 0))), ((u4 2), .inl (Y.1, 8, .inl (fun _ => 0))), ((u6 0), .inr (2, [.ref (u2 0), .ref (u4 0), .ref (u6 8), .ref (u6 1), .ref (u6 2), .int 0, .ref (u6 3), .ref (u6 4), .ref (u6 5), .ref (u6 6), .ref (u6 7)])), ((u2 0), .inr (1, [.ref (u2 1), .ref (u2 2), .ref (u2 3), .ref (u2 4), .ref (u2 5), .int 0])), ((u6 1), .inl (Y.1, 6, .inl (fun _ => 0))), ((u6 2), .inl (Y.1, 40, .inl (fun _ => 0))), ((u6 3), .inl (Y.1, 6, .inl (fun _ => 0))), ((u6 4), .inl (Y.1, 48, .inl (fun _ => 0))), ((u6 5), .inl (Y.1, 48, .inl (fun _ => 0))), ((u6 6), .inl (Y.1, 48, .inl (fun _ => 0))), ((u6 7), .inl (Y.1, 48, .inl (fun _ => 0))), ((u6 8), .inr (6, [.ref (u2 5), .ref (u6 9), .ref (u6 10), .ref (u6 11), .ref (u6 12), .ref (u6 13), .ref (u6 14), .ref (u6 15), .int 0])), ((u6 9), .inl (Y.1, 40, .inl (fun _ => 0))), ((u6 10), .inl (Y.1, 40, .inl (fun _ => 0))), ((u6 11), .inl (Y.1, 40, .inl (fun _ => 0))), ((u6 12), .inl (Y.1, 40, .inl (fun _ => 0))), ((u6 13), .inl (Y.1, 40, .inl (fun _ => 0))), ((u6 14), .inl (Y.1, 40, .inl (fun _ => 0))), ((u6 15), .inl (Y.1, 40, .inl (fun _ => 0))), ((u8 0), .inr (0, [.ref (u2 0), .ref (u8 1), .ref (u8 3), .ref (u8 4), .ref (u8 5), .ref (u8 6), .int 0])), ((u8 1), .inr (3, [.ref (u8 2)])), ((u8 2), .inl (Y.1, 36, .inl (pr0.1 1))), ((u8 3), .inl (Y.1, 30, .inl (fun _ => 0))), ((u8 4), .inl (Y.1, 24, .inl (fl (fun _ => 0) 24 (-1000000005)))), ((u8 5), .inl (Y.1, 24, .inl (fl (fun _ => 0) 24 (-1000000005)))), ((u8 6), .inr (7, [.ref (u8 7), .ref (u8 8), .ref (u8 9), .int 0, .int 0, .int 0, .int 0, .int (-1)])), ((u8 7), .inl (Y.1, 24, .inl (fun _ => 0))), ((u8 8), .inl (Y.1, 24, .inl (fun _ => 0))), ((u8 9), .inl (Y.1, 30, .inl (fun _ => 0)))] _ _ := J
  clear J
  have hl : lv_has ls 1 [(0, .ref h0)] := hl9
  refine n_putF I hx hb hts iw_X9_init_X9 tyX9 tyX9_ok nmX9 hown hi 0 rfl rfl 3 (by decide) (hts (.fieldLink RX9 37 "ReelNight" "bookings" "LReelNight$Bookings;") (by decide +kernel)) rfl rfl rfl rfl (Nat.le_of_ble_eq_true rfl) dX9_init_57 (fun H locs J => ?_)
  clear I
  have I : LW D Y bP A s [(h0, .inr (9, [.ref (u2 0), .ref (u4 0), .ref (u6 0), .ref (u8 0), .null])), ((u2 1), .inl (Y.1, 6, .inl (fun _ => 0))), ((u2 2), .inl (Y.1, 6, .inl (fun _ => 0))), ((u2 3), .inl (Y.1, 6, .inl (fun _ => 0))), ((u2 4), .inl (Y.1, 6, .inl (fun _ => 0))), ((u2 5), .inr (3, [.ref (u2 6)])), ((u2 6), .inl (Y.1, 36, .inl (pr10.1 1))), ((u4 0), .inr (5, [.ref (u4 1), .ref (u4 2), .int 0])), ((u4 1), .inl (Y.1, 8, .inl (fun _ => 0))), ((u4 2), .inl (Y.1, 8, .inl (fun _ => 0))), ((u6 0), .inr (2, [.ref (u2 0), .ref (u4 0), .ref (u6 8), .ref (u6 1), .ref (u6 2), .int 0, .ref (u6 3), .ref (u6 4), .ref (u6 5), .ref (u6 6), .ref (u6 7)])), ((u2 0), .inr (1, [.ref (u2 1), .ref (u2 2), .ref (u2 3), .ref (u2 4), .ref (u2 5), .int 0])), ((u6 1), .inl (Y.1, 6, .inl (fun _ => 0))), ((u6 2), .inl (Y.1, 40, .inl (fun _ => 0))), ((u6 3), .inl (Y.1, 6, .inl (fun _ => 0))), ((u6 4), .inl (Y.1, 48, .inl (fun _ => 0))), ((u6 5), .inl (Y.1, 48, .inl (fun _ => 0))), ((u6 6), .inl (Y.1, 48, .inl (fun _ => 0))), ((u6 7), .inl (Y.1, 48, .inl (fun _ => 0))), ((u6 8), .inr (6, [.ref (u2 5), .ref (u6 9), .ref (u6 10), .ref (u6 11), .ref (u6 12), .ref (u6 13), .ref (u6 14), .ref (u6 15), .int 0])), ((u6 9), .inl (Y.1, 40, .inl (fun _ => 0))), ((u6 10), .inl (Y.1, 40, .inl (fun _ => 0))), ((u6 11), .inl (Y.1, 40, .inl (fun _ => 0))), ((u6 12), .inl (Y.1, 40, .inl (fun _ => 0))), ((u6 13), .inl (Y.1, 40, .inl (fun _ => 0))), ((u6 14), .inl (Y.1, 40, .inl (fun _ => 0))), ((u6 15), .inl (Y.1, 40, .inl (fun _ => 0))), ((u8 0), .inr (0, [.ref (u2 0), .ref (u8 1), .ref (u8 3), .ref (u8 4), .ref (u8 5), .ref (u8 6), .int 0])), ((u8 1), .inr (3, [.ref (u8 2)])), ((u8 2), .inl (Y.1, 36, .inl (pr0.1 1))), ((u8 3), .inl (Y.1, 30, .inl (fun _ => 0))), ((u8 4), .inl (Y.1, 24, .inl (fl (fun _ => 0) 24 (-1000000005)))), ((u8 5), .inl (Y.1, 24, .inl (fl (fun _ => 0) 24 (-1000000005)))), ((u8 6), .inr (7, [.ref (u8 7), .ref (u8 8), .ref (u8 9), .int 0, .int 0, .int 0, .int 0, .int (-1)])), ((u8 7), .inl (Y.1, 24, .inl (fun _ => 0))), ((u8 8), .inl (Y.1, 24, .inl (fun _ => 0))), ((u8 9), .inl (Y.1, 30, .inl (fun _ => 0)))] _ _ := J
  clear J
  refine lv_aload_n hx hb dX9_init_60 rfl (lv_at hl 0 rfl) ?_
  refine n_new (ci := 4) (fs := [.null, .null, .null]) I hx hb hts iw_X9_init_X4 tyX4 tyX4_ok hown (hts (.classLink RX9 41 RX4) (by decide +kernel)) (hts (.instantiable RX4 3) (by decide +kernel)) (hts (.initialized RX4) (by decide +kernel)) rfl (fun j hj => by rcases (show j = 0 ∨ j = 1 ∨ j = 2 by omega) with rfl | rfl | rfl <;> rfl) (Nat.le_of_ble_eq_true rfl) (Nat.le_of_ble_eq_true rfl) dX9_init_61 (fun q9 H J => ?_)
  refine W.widen (k := 37) (n := 841) (by omega) (by omega) ?_
  clear I
  have I : LW D Y bP A s [(h0, .inr (9, [.ref (u2 0), .ref (u4 0), .ref (u6 0), .ref (u8 0), .null])), ((u2 1), .inl (Y.1, 6, .inl (fun _ => 0))), ((u2 2), .inl (Y.1, 6, .inl (fun _ => 0))), ((u2 3), .inl (Y.1, 6, .inl (fun _ => 0))), ((u2 4), .inl (Y.1, 6, .inl (fun _ => 0))), ((u2 5), .inr (3, [.ref (u2 6)])), ((u2 6), .inl (Y.1, 36, .inl (pr10.1 1))), ((u4 0), .inr (5, [.ref (u4 1), .ref (u4 2), .int 0])), ((u4 1), .inl (Y.1, 8, .inl (fun _ => 0))), ((u4 2), .inl (Y.1, 8, .inl (fun _ => 0))), ((u6 0), .inr (2, [.ref (u2 0), .ref (u4 0), .ref (u6 8), .ref (u6 1), .ref (u6 2), .int 0, .ref (u6 3), .ref (u6 4), .ref (u6 5), .ref (u6 6), .ref (u6 7)])), ((u2 0), .inr (1, [.ref (u2 1), .ref (u2 2), .ref (u2 3), .ref (u2 4), .ref (u2 5), .int 0])), ((u6 1), .inl (Y.1, 6, .inl (fun _ => 0))), ((u6 2), .inl (Y.1, 40, .inl (fun _ => 0))), ((u6 3), .inl (Y.1, 6, .inl (fun _ => 0))), ((u6 4), .inl (Y.1, 48, .inl (fun _ => 0))), ((u6 5), .inl (Y.1, 48, .inl (fun _ => 0))), ((u6 6), .inl (Y.1, 48, .inl (fun _ => 0))), ((u6 7), .inl (Y.1, 48, .inl (fun _ => 0))), ((u6 8), .inr (6, [.ref (u2 5), .ref (u6 9), .ref (u6 10), .ref (u6 11), .ref (u6 12), .ref (u6 13), .ref (u6 14), .ref (u6 15), .int 0])), ((u6 9), .inl (Y.1, 40, .inl (fun _ => 0))), ((u6 10), .inl (Y.1, 40, .inl (fun _ => 0))), ((u6 11), .inl (Y.1, 40, .inl (fun _ => 0))), ((u6 12), .inl (Y.1, 40, .inl (fun _ => 0))), ((u6 13), .inl (Y.1, 40, .inl (fun _ => 0))), ((u6 14), .inl (Y.1, 40, .inl (fun _ => 0))), ((u6 15), .inl (Y.1, 40, .inl (fun _ => 0))), ((u8 0), .inr (0, [.ref (u2 0), .ref (u8 1), .ref (u8 3), .ref (u8 4), .ref (u8 5), .ref (u8 6), .int 0])), ((u8 1), .inr (3, [.ref (u8 2)])), ((u8 2), .inl (Y.1, 36, .inl (pr0.1 1))), ((u8 3), .inl (Y.1, 30, .inl (fun _ => 0))), ((u8 4), .inl (Y.1, 24, .inl (fl (fun _ => 0) 24 (-1000000005)))), ((u8 5), .inl (Y.1, 24, .inl (fl (fun _ => 0) 24 (-1000000005)))), ((u8 6), .inr (7, [.ref (u8 7), .ref (u8 8), .ref (u8 9), .int 0, .int 0, .int 0, .int 0, .int (-1)])), ((u8 7), .inl (Y.1, 24, .inl (fun _ => 0))), ((u8 8), .inl (Y.1, 24, .inl (fun _ => 0))), ((u8 9), .inl (Y.1, 30, .inl (fun _ => 0))), (q9, .inr (4, [.null, .null, .null]))] _ _ := J
  clear J
  refine lv_dup hx hb dX9_init_64 rfl ?_
  refine lv_aload_n hx hb dX9_init_65 rfl (lv_at hl 0 rfl) ?_
  refine n_get I hx hb hts iw_X9_init_X9 hown 0 rfl rfl 0 (by decide) (hts (.fieldLink RX9 12 "ReelNight" "houses" "LReelNight$Houses;") (by decide +kernel)) rfl dX9_init_66 ?_
  refine n_callI (rest := [.ref q9, .ref h0]) (wr := [(h0, .inr (9, [.ref (u2 0), .ref (u4 0), .ref (u6 0), .ref (u8 0), .null])), ((u2 1), .inl (Y.1, 6, .inl (fun _ => 0))), ((u2 2), .inl (Y.1, 6, .inl (fun _ => 0))), ((u2 3), .inl (Y.1, 6, .inl (fun _ => 0))), ((u2 4), .inl (Y.1, 6, .inl (fun _ => 0))), ((u2 5), .inr (3, [.ref (u2 6)])), ((u2 6), .inl (Y.1, 36, .inl (pr10.1 1))), ((u4 0), .inr (5, [.ref (u4 1), .ref (u4 2), .int 0])), ((u4 1), .inl (Y.1, 8, .inl (fun _ => 0))), ((u4 2), .inl (Y.1, 8, .inl (fun _ => 0))), ((u6 0), .inr (2, [.ref (u2 0), .ref (u4 0), .ref (u6 8), .ref (u6 1), .ref (u6 2), .int 0, .ref (u6 3), .ref (u6 4), .ref (u6 5), .ref (u6 6), .ref (u6 7)])), ((u2 0), .inr (1, [.ref (u2 1), .ref (u2 2), .ref (u2 3), .ref (u2 4), .ref (u2 5), .int 0])), ((u6 1), .inl (Y.1, 6, .inl (fun _ => 0))), ((u6 2), .inl (Y.1, 40, .inl (fun _ => 0))), ((u6 3), .inl (Y.1, 6, .inl (fun _ => 0))), ((u6 4), .inl (Y.1, 48, .inl (fun _ => 0))), ((u6 5), .inl (Y.1, 48, .inl (fun _ => 0))), ((u6 6), .inl (Y.1, 48, .inl (fun _ => 0))), ((u6 7), .inl (Y.1, 48, .inl (fun _ => 0))), ((u6 8), .inr (6, [.ref (u2 5), .ref (u6 9), .ref (u6 10), .ref (u6 11), .ref (u6 12), .ref (u6 13), .ref (u6 14), .ref (u6 15), .int 0])), ((u6 9), .inl (Y.1, 40, .inl (fun _ => 0))), ((u6 10), .inl (Y.1, 40, .inl (fun _ => 0))), ((u6 11), .inl (Y.1, 40, .inl (fun _ => 0))), ((u6 12), .inl (Y.1, 40, .inl (fun _ => 0))), ((u6 13), .inl (Y.1, 40, .inl (fun _ => 0))), ((u6 14), .inl (Y.1, 40, .inl (fun _ => 0))), ((u6 15), .inl (Y.1, 40, .inl (fun _ => 0))), ((u8 0), .inr (0, [.ref (u2 0), .ref (u8 1), .ref (u8 3), .ref (u8 4), .ref (u8 5), .ref (u8 6), .int 0])), ((u8 1), .inr (3, [.ref (u8 2)])), ((u8 2), .inl (Y.1, 36, .inl (pr0.1 1))), ((u8 3), .inl (Y.1, 30, .inl (fun _ => 0))), ((u8 4), .inl (Y.1, 24, .inl (fl (fun _ => 0) 24 (-1000000005)))), ((u8 5), .inl (Y.1, 24, .inl (fl (fun _ => 0) 24 (-1000000005)))), ((u8 6), .inr (7, [.ref (u8 7), .ref (u8 8), .ref (u8 9), .int 0, .int 0, .int 0, .int 0, .int (-1)])), ((u8 7), .inl (Y.1, 24, .inl (fun _ => 0))), ((u8 8), .inl (Y.1, 24, .inl (fun _ => 0))), ((u8 9), .inl (Y.1, 30, .inl (fun _ => 0)))]) I ⟨hx, hb, hml, hown, hts⟩ (ct_X4_init q9 (u2 0)) (cwI 1 hts gX9_init_X4_init rfl rfl rfl (hts (.initialized RX4) (by decide +kernel)) (hts (.methodLink RX9 43 yX4_init) (by decide +kernel)) (hts (.instanceMethod yX4_init) (by decide +kernel)) rfl (by decide +kernel) ⟨Nat.le_of_ble_eq_true rfl, Nat.le_of_ble_eq_true rfl⟩) [37] [0, 1, 2, 3, 4, 5, 6, 7, 8, 9, 10, 11, 12, 13, 14, 15, 16, 17, 18, 19, 20, 21, 22, 23, 24, 25, 26, 27, 28, 29, 30, 31, 32, 33, 34, 35, 36] rfl rfl rfl rfl (by decide) rfl hl.1 rfl (Nat.le_of_ble_eq_true rfl) dX9_init_69 ⟨Nat.le_of_ble_eq_true rfl, Nat.le_of_ble_eq_true rfl⟩ (fun u10 H locs hu I2 => ?_)
  have hl9 := hl
  clear I
  subst hu
  have I := I2
  have J := I2
  clear I2
  refine W.widen (k := 43) (n := 898) (by omega) (by omega) ?_
  clear I
  have I : LW D Y bP A s [(h0, .inr (9, [.ref (u2 0), .ref (u4 0), .ref (u6 0), .ref (u8 0), .null])), ((u2 1), .inl (Y.1, 6, .inl (fun _ => 0))), ((u2 2), .inl (Y.1, 6, .inl (fun _ => 0))), ((u2 3), .inl (Y.1, 6, .inl (fun _ => 0))), ((u2 4), .inl (Y.1, 6, .inl (fun _ => 0))), ((u2 5), .inr (3, [.ref (u2 6)])), ((u2 6), .inl (Y.1, 36, .inl (pr10.1 1))), ((u4 0), .inr (5, [.ref (u4 1), .ref (u4 2), .int 0])), ((u4 1), .inl (Y.1, 8, .inl (fun _ => 0))), ((u4 2), .inl (Y.1, 8, .inl (fun _ => 0))), ((u6 0), .inr (2, [.ref (u2 0), .ref (u4 0), .ref (u6 8), .ref (u6 1), .ref (u6 2), .int 0, .ref (u6 3), .ref (u6 4), .ref (u6 5), .ref (u6 6), .ref (u6 7)])), ((u2 0), .inr (1, [.ref (u2 1), .ref (u2 2), .ref (u2 3), .ref (u2 4), .ref (u2 5), .int 0])), ((u6 1), .inl (Y.1, 6, .inl (fun _ => 0))), ((u6 2), .inl (Y.1, 40, .inl (fun _ => 0))), ((u6 3), .inl (Y.1, 6, .inl (fun _ => 0))), ((u6 4), .inl (Y.1, 48, .inl (fun _ => 0))), ((u6 5), .inl (Y.1, 48, .inl (fun _ => 0))), ((u6 6), .inl (Y.1, 48, .inl (fun _ => 0))), ((u6 7), .inl (Y.1, 48, .inl (fun _ => 0))), ((u6 8), .inr (6, [.ref (u2 5), .ref (u6 9), .ref (u6 10), .ref (u6 11), .ref (u6 12), .ref (u6 13), .ref (u6 14), .ref (u6 15), .int 0])), ((u6 9), .inl (Y.1, 40, .inl (fun _ => 0))), ((u6 10), .inl (Y.1, 40, .inl (fun _ => 0))), ((u6 11), .inl (Y.1, 40, .inl (fun _ => 0))), ((u6 12), .inl (Y.1, 40, .inl (fun _ => 0))), ((u6 13), .inl (Y.1, 40, .inl (fun _ => 0))), ((u6 14), .inl (Y.1, 40, .inl (fun _ => 0))), ((u6 15), .inl (Y.1, 40, .inl (fun _ => 0))), ((u8 0), .inr (0, [.ref (u2 0), .ref (u8 1), .ref (u8 3), .ref (u8 4), .ref (u8 5), .ref (u8 6), .int 0])), ((u8 1), .inr (3, [.ref (u8 2)])), ((u8 2), .inl (Y.1, 36, .inl (pr0.1 1))), ((u8 3), .inl (Y.1, 30, .inl (fun _ => 0))), ((u8 4), .inl (Y.1, 24, .inl (fl (fun _ => 0) 24 (-1000000005)))), ((u8 5), .inl (Y.1, 24, .inl (fl (fun _ => 0) 24 (-1000000005)))), ((u8 6), .inr (7, [.ref (u8 7), .ref (u8 8), .ref (u8 9), .int 0, .int 0, .int 0, .int 0, .int (-1)])), ((u8 7), .inl (Y.1, 24, .inl (fun _ => 0))), ((u8 8), .inl (Y.1, 24, .inl (fun _ => 0))), ((u8 9), .inl (Y.1, 30, .inl (fun _ => 0))), ((u10 0), .inr (4, [.ref (u2 0), .ref (u10 1), .ref (u10 2)])), ((u10 1), .inl (Y.1, 3, .inl (upd (upd (upd (fun _ => 0) (Int32.toNatClampNeg 0) 40) (Int32.toNatClampNeg 1) 20) (Int32.toNatClampNeg 2) 1))), ((u10 2), .inl (Y.2.2.2, 2, .inr (.inr (.inr (.inr (fun j => if j = 0 then some (u10 3) else some (u10 5))))))), ((u10 3), .inr (8, [.ref (u10 4), .int (-1)])), ((u10 4), .inl (Y.2.1, 24, .inl (fun _ => 0))), ((u10 5), .inr (8, [.ref (u10 6), .int (-1)])), ((u10 6), .inl (Y.2.1, 24, .inl (fun _ => 0)))] _ _ := J
  clear J
  have hl : lv_has ls 1 [(0, .ref h0)] := hl9
  refine n_putF I hx hb hts iw_X9_init_X9 tyX9 tyX9_ok nmX9 hown hi 0 rfl rfl 4 (by decide) (hts (.fieldLink RX9 44 "ReelNight" "receipts" "LReelNight$Receipts;") (by decide +kernel)) rfl rfl rfl rfl (Nat.le_of_ble_eq_true rfl) dX9_init_72 (fun H locs J => ?_)
  clear I
  have I : LW D Y bP A s [(h0, .inr (9, [.ref (u2 0), .ref (u4 0), .ref (u6 0), .ref (u8 0), .ref (u10 0)])), ((u2 1), .inl (Y.1, 6, .inl (fun _ => 0))), ((u2 2), .inl (Y.1, 6, .inl (fun _ => 0))), ((u2 3), .inl (Y.1, 6, .inl (fun _ => 0))), ((u2 4), .inl (Y.1, 6, .inl (fun _ => 0))), ((u2 5), .inr (3, [.ref (u2 6)])), ((u2 6), .inl (Y.1, 36, .inl (pr10.1 1))), ((u4 0), .inr (5, [.ref (u4 1), .ref (u4 2), .int 0])), ((u4 1), .inl (Y.1, 8, .inl (fun _ => 0))), ((u4 2), .inl (Y.1, 8, .inl (fun _ => 0))), ((u6 0), .inr (2, [.ref (u2 0), .ref (u4 0), .ref (u6 8), .ref (u6 1), .ref (u6 2), .int 0, .ref (u6 3), .ref (u6 4), .ref (u6 5), .ref (u6 6), .ref (u6 7)])), ((u2 0), .inr (1, [.ref (u2 1), .ref (u2 2), .ref (u2 3), .ref (u2 4), .ref (u2 5), .int 0])), ((u6 1), .inl (Y.1, 6, .inl (fun _ => 0))), ((u6 2), .inl (Y.1, 40, .inl (fun _ => 0))), ((u6 3), .inl (Y.1, 6, .inl (fun _ => 0))), ((u6 4), .inl (Y.1, 48, .inl (fun _ => 0))), ((u6 5), .inl (Y.1, 48, .inl (fun _ => 0))), ((u6 6), .inl (Y.1, 48, .inl (fun _ => 0))), ((u6 7), .inl (Y.1, 48, .inl (fun _ => 0))), ((u6 8), .inr (6, [.ref (u2 5), .ref (u6 9), .ref (u6 10), .ref (u6 11), .ref (u6 12), .ref (u6 13), .ref (u6 14), .ref (u6 15), .int 0])), ((u6 9), .inl (Y.1, 40, .inl (fun _ => 0))), ((u6 10), .inl (Y.1, 40, .inl (fun _ => 0))), ((u6 11), .inl (Y.1, 40, .inl (fun _ => 0))), ((u6 12), .inl (Y.1, 40, .inl (fun _ => 0))), ((u6 13), .inl (Y.1, 40, .inl (fun _ => 0))), ((u6 14), .inl (Y.1, 40, .inl (fun _ => 0))), ((u6 15), .inl (Y.1, 40, .inl (fun _ => 0))), ((u8 0), .inr (0, [.ref (u2 0), .ref (u8 1), .ref (u8 3), .ref (u8 4), .ref (u8 5), .ref (u8 6), .int 0])), ((u8 1), .inr (3, [.ref (u8 2)])), ((u8 2), .inl (Y.1, 36, .inl (pr0.1 1))), ((u8 3), .inl (Y.1, 30, .inl (fun _ => 0))), ((u8 4), .inl (Y.1, 24, .inl (fl (fun _ => 0) 24 (-1000000005)))), ((u8 5), .inl (Y.1, 24, .inl (fl (fun _ => 0) 24 (-1000000005)))), ((u8 6), .inr (7, [.ref (u8 7), .ref (u8 8), .ref (u8 9), .int 0, .int 0, .int 0, .int 0, .int (-1)])), ((u8 7), .inl (Y.1, 24, .inl (fun _ => 0))), ((u8 8), .inl (Y.1, 24, .inl (fun _ => 0))), ((u8 9), .inl (Y.1, 30, .inl (fun _ => 0))), ((u10 0), .inr (4, [.ref (u2 0), .ref (u10 1), .ref (u10 2)])), ((u10 1), .inl (Y.1, 3, .inl (upd (upd (upd (fun _ => 0) (Int32.toNatClampNeg 0) 40) (Int32.toNatClampNeg 1) 20) (Int32.toNatClampNeg 2) 1))), ((u10 2), .inl (Y.2.2.2, 2, .inr (.inr (.inr (.inr (fun j => if j = 0 then some (u10 3) else some (u10 5))))))), ((u10 3), .inr (8, [.ref (u10 4), .int (-1)])), ((u10 4), .inl (Y.2.1, 24, .inl (fun _ => 0))), ((u10 5), .inr (8, [.ref (u10 6), .int (-1)])), ((u10 6), .inl (Y.2.1, 24, .inl (fun _ => 0)))] _ _ := J
  clear J
  subst hAe
  obtain ⟨g, hg⟩ : ∃ g, g = gl [h0, (u2 0), (u4 0), (u6 0), (u6 8), (u8 0), (u8 6), (u10 0), (u10 3), (u10 5), (u2 5), (u8 1), (u2 1), (u2 2), (u2 3), (u2 4), (u2 6), (u4 1), (u4 2), (u6 1), (u6 2), (u6 3), (u6 4), (u6 5), (u6 6), (u6 7), (u6 9), (u6 10), (u6 11), (u6 12), (u6 13), (u6 14), (u6 15), (u8 2), (u8 3), (u8 4), (u8 5), (u8 7), (u8 8), (u8 9), (u10 1), (u10 2), (u10 4), (u10 6)] := ⟨_, rfl⟩
  have e_0 : h0 = g 0 := by rw [hg]; rfl
  have e_1 : (u2 0) = g 1 := by rw [hg]; rfl
  have e_2 : (u4 0) = g 2 := by rw [hg]; rfl
  have e_3 : (u6 0) = g 3 := by rw [hg]; rfl
  have e_4 : (u6 8) = g 4 := by rw [hg]; rfl
  have e_5 : (u8 0) = g 5 := by rw [hg]; rfl
  have e_6 : (u8 6) = g 6 := by rw [hg]; rfl
  have e_7 : (u10 0) = g 7 := by rw [hg]; rfl
  have e_8 : (u10 3) = g 8 := by rw [hg]; rfl
  have e_9 : (u10 5) = g 9 := by rw [hg]; rfl
  have e_10 : (u2 5) = g 10 := by rw [hg]; rfl
  have e_11 : (u8 1) = g 11 := by rw [hg]; rfl
  have e_12 : (u2 1) = g 12 := by rw [hg]; rfl
  have e_13 : (u2 2) = g 13 := by rw [hg]; rfl
  have e_14 : (u2 3) = g 14 := by rw [hg]; rfl
  have e_15 : (u2 4) = g 15 := by rw [hg]; rfl
  have e_16 : (u2 6) = g 16 := by rw [hg]; rfl
  have e_17 : (u4 1) = g 17 := by rw [hg]; rfl
  have e_18 : (u4 2) = g 18 := by rw [hg]; rfl
  have e_19 : (u6 1) = g 19 := by rw [hg]; rfl
  have e_20 : (u6 2) = g 20 := by rw [hg]; rfl
  have e_21 : (u6 3) = g 21 := by rw [hg]; rfl
  have e_22 : (u6 4) = g 22 := by rw [hg]; rfl
  have e_23 : (u6 5) = g 23 := by rw [hg]; rfl
  have e_24 : (u6 6) = g 24 := by rw [hg]; rfl
  have e_25 : (u6 7) = g 25 := by rw [hg]; rfl
  have e_26 : (u6 9) = g 26 := by rw [hg]; rfl
  have e_27 : (u6 10) = g 27 := by rw [hg]; rfl
  have e_28 : (u6 11) = g 28 := by rw [hg]; rfl
  have e_29 : (u6 12) = g 29 := by rw [hg]; rfl
  have e_30 : (u6 13) = g 30 := by rw [hg]; rfl
  have e_31 : (u6 14) = g 31 := by rw [hg]; rfl
  have e_32 : (u6 15) = g 32 := by rw [hg]; rfl
  have e_33 : (u8 2) = g 33 := by rw [hg]; rfl
  have e_34 : (u8 3) = g 34 := by rw [hg]; rfl
  have e_35 : (u8 4) = g 35 := by rw [hg]; rfl
  have e_36 : (u8 5) = g 36 := by rw [hg]; rfl
  have e_37 : (u8 7) = g 37 := by rw [hg]; rfl
  have e_38 : (u8 8) = g 38 := by rw [hg]; rfl
  have e_39 : (u8 9) = g 39 := by rw [hg]; rfl
  have e_40 : (u10 1) = g 40 := by rw [hg]; rfl
  have e_41 : (u10 2) = g 41 := by rw [hg]; rfl
  have e_42 : (u10 4) = g 42 := by rw [hg]; rfl
  have e_43 : (u10 6) = g 43 := by rw [hg]; rfl
  have I2 := n_toWd (n := 44) (g := g) (K := KC g Y) (σ := σC0) I [0, 11, 7, 10, 19, 27, 33, 37, 40, 42, 5, 28, 1, 2, 3, 4, 6, 8, 9, 12, 13, 14, 15, 16, 17, 18, 20, 21, 22, 23, 24, 25, 26, 29, 30, 31, 32, 34, 35, 36, 38, 39, 41, 43] rfl rfl (by
    intro k hk
    match k, hk with
    | 0, _ => rw [kc0, ← e_0, ← e_1, ← e_2, ← e_3, ← e_5, ← e_7]; rfl
    | 1, _ => rw [kc1, ← e_1, ← e_10, ← e_12, ← e_13, ← e_14, ← e_15]; rfl
    | 2, _ => rw [kc2, ← e_2, ← e_17, ← e_18]; rfl
    | 3, _ => rw [kc3, ← e_1, ← e_2, ← e_3, ← e_4, ← e_19, ← e_20, ← e_21, ← e_22, ← e_23, ← e_24, ← e_25]; rfl
    | 4, _ => rw [kc4, ← e_4, ← e_10, ← e_26, ← e_27, ← e_28, ← e_29, ← e_30, ← e_31, ← e_32]; rfl
    | 5, _ => rw [kc5, ← e_1, ← e_5, ← e_6, ← e_11, ← e_34, ← e_35, ← e_36]; rfl
    | 6, _ => rw [kc6, ← e_6, ← e_37, ← e_38, ← e_39]; rfl
    | 7, _ => rw [kc7, ← e_1, ← e_7, ← e_40, ← e_41]; rfl
    | 8, _ => rw [kc8, ← e_8, ← e_42]; rfl
    | 9, _ => rw [kc9, ← e_9, ← e_43]; rfl
    | 10, _ => rw [kc10, ← e_10, ← e_16]; rfl
    | 11, _ => rw [kc11, ← e_11, ← e_33]; rfl
    | 12, _ => rw [kc12, ← e_12]; rfl
    | 13, _ => rw [kc13, ← e_13]; rfl
    | 14, _ => rw [kc14, ← e_14]; rfl
    | 15, _ => rw [kc15, ← e_15]; rfl
    | 16, _ => rw [kc16, ← e_16]; rfl
    | 17, _ => rw [kc17, ← e_17]; rfl
    | 18, _ => rw [kc18, ← e_18]; rfl
    | 19, _ => rw [kc19, ← e_19]; rfl
    | 20, _ => rw [kc20, ← e_20]; rfl
    | 21, _ => rw [kc21, ← e_21]; rfl
    | 22, _ => rw [kc22, ← e_22]; rfl
    | 23, _ => rw [kc23, ← e_23]; rfl
    | 24, _ => rw [kc24, ← e_24]; rfl
    | 25, _ => rw [kc25, ← e_25]; rfl
    | 26, _ => rw [kc26, ← e_26]; rfl
    | 27, _ => rw [kc27, ← e_27]; rfl
    | 28, _ => rw [kc28, ← e_28]; rfl
    | 29, _ => rw [kc29, ← e_29]; rfl
    | 30, _ => rw [kc30, ← e_30]; rfl
    | 31, _ => rw [kc31, ← e_31]; rfl
    | 32, _ => rw [kc32, ← e_32]; rfl
    | 33, _ => rw [kc33, ← e_33]; rfl
    | 34, _ => rw [kc34, ← e_34]; rfl
    | 35, _ => rw [kc35, ← e_35]; rfl
    | 36, _ => rw [kc36, ← e_36]; rfl
    | 37, _ => rw [kc37, ← e_37]; rfl
    | 38, _ => rw [kc38, ← e_38]; rfl
    | 39, _ => rw [kc39, ← e_39]; rfl
    | 40, _ => rw [kc40, ← e_40]; rfl
    | 41, _ => rw [kc41, ← e_8, ← e_9, ← e_41]; rfl
    | 42, _ => rw [kc42, ← e_42]; rfl
    | 43, _ => rw [kc43, ← e_43]; rfl
    | k + 44, hk => exact absurd hk (by omega))
  exact n_vret g e_0.symm I2 hx hb hr hlk dX9_init_75
