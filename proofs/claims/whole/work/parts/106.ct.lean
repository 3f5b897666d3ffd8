theorem iw_X9_copy_X4 : ∀ w ∈ u_ws RX4 TX4 3, w ∈ wsX9_copy := fun _ h => List.mem_cons_of_mem _ (List.mem_append_left _ (List.mem_append_right _ h))
theorem iw_X9_copy_X8 : ∀ w ∈ u_ws RX8 TX8 2, w ∈ wsX9_copy := fun _ h => List.mem_cons_of_mem _ (List.mem_append_right _ h)
theorem iw_X9_copy_X9 : ∀ w ∈ u_ws RX9 TX9 5, w ∈ wsX9_copy := fun _ h => List.mem_cons_of_mem _ (List.mem_append_left _ (List.mem_append_left _ (List.mem_append_right _ h)))
set_option maxHeartbeats 4000000 in
set_option maxRecDepth 100000 in
theorem ct_X9_copy {l : Launch} {D : va_G} {g : Nat → Nat} {Y : YT} {bP : Nat} (σ : St) (p0 : Int32) (p1 : Int32) (p2 : Int32) (p3 : Int32) (p4 : Int32) (res : St × Int32) (hf : fX9_copy σ p0 p1 p2 p3 p4 = some res) : Ci l yX9_copy wsX9_copy ⟨2, 0, 0, 60⟩ D 44 g (KC g Y) Y bP [.ref (g 0), .int p0, .int p1, .int p2, .int p3, .int p4] σ res := by
  intro sz
  refine Met.ofW (cc := cX9_copy) (maxL := 8) (ret := (some .int)) (by decide) rfl ?_
  intro p e s m args below meth c s₁ B hml hv
  obtain ⟨rfl, rfl, I⟩ := j_start hv
  have C0 : MC p s m _ meth c cX9_copy 8 (some .int) RX9 wsX9_copy := ⟨B.exec, B.bytes, B.returns, hml, findClass_of_methodNamed B.named, atoms_spec (ws := wsX9_copy) B.pre, B.notSynchronized⟩
  obtain ⟨hx, hb, hr, hml, hown, hts, hlk⟩ := id C0
  have hl := lv_entry ([.ref (g 0), .int p0, .int p1, .int p2, .int p3, .int p4]) (n := 8) (Nat.le_of_ble_eq_true rfl)
  rw [lg_entry_eq]
  generalize (lg_sl ([.ref (g 0), .int p0, .int p1, .int p2, .int p3, .int p4]) ++ List.replicate (8 - (lg_sl ([.ref (g 0), .int p0, .int p1, .int p2, .int p3, .int p4])).length) Slot.unset).toArray = ls at hl ⊢
  have hl : lv_has ls 8 [(0, .ref (g 0)), (1, .int p0), (2, .int p1), (3, .int p2), (4, .int p3), (5, .int p4)] := hl
  rw [fX9_copy] at hf
  refine lv_iload_n hx hb dX9_copy_0 rfl (lv_at hl 1 rfl) ?_
  obtain ⟨σ1, r2, h3, hf⟩ := o_obn hf
  refine j_iS (rest := []) I ⟨hx, hb, hml, hown, hts⟩ (ct_X9_isSheet σ p0 _ h3) (va_cwS 1 hts gX9_copy_X9_isSheet rfl rfl rfl (by decide +kernel) ⟨Nat.le_of_ble_eq_true rfl, Nat.le_of_ble_eq_true rfl⟩) rfl hl.1 rfl (Nat.le_of_ble_eq_true rfl) dX9_copy_1 ⟨Nat.zero_le _, Nat.zero_le _⟩ (fun H locs I => ?_)
  refine lv_if_eq (tgt := 14) hx hb dX9_copy_4 (by decide) (fun c4 => ?_) (fun c4 => ?_)
  · have hf := i_t c4 hf
    refine lv_ldc hx hb hown (hts (.constant RX9 52 (-1000000001)) (by decide +kernel)) dX9_copy_14 ?_
    exact j_iret I hx hb hr rfl hlk hf dX9_copy_16
  · have hf := i_f c4 hf
    refine lv_iload_n hx hb dX9_copy_7 rfl (lv_at hl 3 rfl) ?_
    obtain ⟨σ5, r6, h7, hf⟩ := o_obn hf
    refine j_iS (rest := []) I ⟨hx, hb, hml, hown, hts⟩ (ct_X9_isSheet σ1 p2 _ h7) (va_cwS 1 hts gX9_copy_X9_isSheet rfl rfl rfl (by decide +kernel) ⟨Nat.le_of_ble_eq_true rfl, Nat.le_of_ble_eq_true rfl⟩) rfl hl.1 rfl (Nat.le_of_ble_eq_true rfl) dX9_copy_8 ⟨Nat.zero_le _, Nat.zero_le _⟩ (fun H locs I => ?_)
    refine lv_if_ne (tgt := 17) hx hb dX9_copy_11 (by decide) (fun c8 => ?_) (fun c8 => ?_)
    · have hf := i_f c8 hf
      refine lv_aload_n hx hb dX9_copy_17 rfl (lv_at hl 0 rfl) ?_
      refine j_get I hx hb hts iw_X9_copy_X9 hown 0 (by decide) (kc0 g Y _) rfl 4 (by decide) (hts (.fieldLink RX9 44 "ReelNight" "receipts" "LReelNight$Receipts;") (by decide +kernel)) rfl dX9_copy_18 ?_
      refine j_getN I hx hb hts iw_X9_copy_X4 hown 7 (by decide) (kc7 g Y _) rfl 2 (by decide) (by decide +kernel) rfl dX9_copy_21 ?_
      refine lv_iload_n hx hb dX9_copy_24 rfl (lv_at hl 1 rfl) ?_
      obtain ⟨b9, hf⟩ := o_nb hf
      by_cases c10 : p0 = 0
      · have hf := i_t c10 hf
        refine j_qald I hx hb 41 (by decide) (kc41 g Y _) b9 dX9_copy_25 (a := g 8) (by rw [c10]; rfl) ?_
        refine lv_astore (lv' := [(6, .ref (g 8)), (0, .ref (g 0)), (1, .int p0), (2, .int p1), (3, .int p2), (4, .int p3), (5, .int p4)]) hx hb dX9_copy_26 hl (by decide) rfl (fun ls hl => ?_)
        refine lv_aload_n hx hb dX9_copy_28 rfl (lv_at hl 1 rfl) ?_
        refine j_get I hx hb hts iw_X9_copy_X9 hown 0 (by decide) (kc0 g Y _) rfl 4 (by decide) (hts (.fieldLink RX9 44 "ReelNight" "receipts" "LReelNight$Receipts;") (by decide +kernel)) rfl dX9_copy_29 ?_
        refine j_getN I hx hb hts iw_X9_copy_X4 hown 7 (by decide) (kc7 g Y _) rfl 2 (by decide) (by decide +kernel) rfl dX9_copy_32 ?_
        refine lv_iload_n hx hb dX9_copy_35 rfl (lv_at hl 4 rfl) ?_
        obtain ⟨b11, hf⟩ := o_nb hf
        by_cases c12 : p2 = 0
        · have hf := i_t c12 hf
          refine j_qald I hx hb 41 (by decide) (kc41 g Y _) b11 dX9_copy_36 (a := g 8) (by rw [c12]; rfl) ?_
          refine lv_astore (lv' := [(7, .ref (g 8)), (6, .ref (g 8)), (0, .ref (g 0)), (1, .int p0), (2, .int p1), (3, .int p2), (4, .int p3), (5, .int p4)]) hx hb dX9_copy_37 hl (by decide) rfl (fun ls hl => ?_)
          refine lv_aload hx hb dX9_copy_39 (lv_at hl 1 rfl) ?_
          obtain ⟨σ13, r14, h15, hf⟩ := o_obn hf
          refine j_iV (rest := []) I ⟨hx, hb, hml, hown, hts⟩ (ct_X8_isMissing_8 σ5 _ h15) (cwV 0 hts gX9_copy_X8_isMissing rfl rfl rfl (by decide +kernel) ⟨Nat.le_of_ble_eq_true rfl, Nat.le_of_ble_eq_true rfl⟩) (by decide) (kc8 g Y _) rfl rfl hl.1 rfl (Nat.le_of_ble_eq_true rfl) dX9_copy_41 ⟨Nat.zero_le _, Nat.zero_le _⟩ (fun H locs I => ?_)
          refine lv_if_ne (tgt := 55) hx hb dX9_copy_44 (by decide) (fun c16 => ?_) (fun c16 => ?_)
          · have hf := i_f c16 hf
            refine lv_ldc hx hb hown (hts (.constant RX9 225 (-1000000011)) (by decide +kernel)) dX9_copy_55 ?_
            exact j_iret I hx hb hr rfl hlk hf dX9_copy_57
          · have hf := i_t c16 hf
            refine lv_aload hx hb dX9_copy_47 (lv_at hl 0 rfl) ?_
            obtain ⟨σ17, r18, h19, hf⟩ := o_obn hf
            refine j_iV (rest := []) I ⟨hx, hb, hml, hown, hts⟩ (ct_X8_isMissing_8 σ13 _ h19) (cwV 0 hts gX9_copy_X8_isMissing rfl rfl rfl (by decide +kernel) ⟨Nat.le_of_ble_eq_true rfl, Nat.le_of_ble_eq_true rfl⟩) (by decide) (kc8 g Y _) rfl rfl hl.1 rfl (Nat.le_of_ble_eq_true rfl) dX9_copy_49 ⟨Nat.zero_le _, Nat.zero_le _⟩ (fun H locs I => ?_)
            refine lv_if_eq (tgt := 58) hx hb dX9_copy_52 (by decide) (fun c20 => ?_) (fun c20 => ?_)
            · have hf := i_t c20 hf
              refine lv_aload hx hb dX9_copy_58 (lv_at hl 1 rfl) ?_
              refine lv_iload_n hx hb dX9_copy_60 rfl (lv_at hl 4 rfl) ?_
              refine lv_iload hx hb dX9_copy_61 (lv_at hl 7 rfl) ?_
              obtain ⟨σ21, r22, h23, hf⟩ := o_obn hf
              refine j_iV (rest := []) I ⟨hx, hb, hml, hown, hts⟩ (ct_X8_spans_8 σ17 p1 p4 _ h23) (cwV 2 hts gX9_copy_X8_spans rfl rfl rfl (by decide +kernel) ⟨Nat.le_of_ble_eq_true rfl, Nat.le_of_ble_eq_true rfl⟩) (by decide) (kc8 g Y _) rfl rfl hl.1 rfl (Nat.le_of_ble_eq_true rfl) dX9_copy_63 ⟨Nat.zero_le _, Nat.zero_le _⟩ (fun H locs I => ?_)
              refine lv_if_eq (tgt := 81) hx hb dX9_copy_66 (by decide) (fun c24 => ?_) (fun c24 => ?_)
              · have hf := i_t c24 hf
                refine lv_ldc hx hb hown (hts (.constant RX9 243 (-1000000013)) (by decide +kernel)) dX9_copy_81 ?_
                exact j_iret I hx hb hr rfl hlk hf dX9_copy_83
              · have hf := i_f c24 hf
                refine lv_aload hx hb dX9_copy_69 (lv_at hl 0 rfl) ?_
                refine lv_iload hx hb dX9_copy_71 (lv_at hl 6 rfl) ?_
                refine lv_iload hx hb dX9_copy_73 (lv_at hl 7 rfl) ?_
                obtain ⟨σ25, r26, h27, hf⟩ := o_obn hf
                refine j_iV (rest := []) I ⟨hx, hb, hml, hown, hts⟩ (ct_X8_spans_8 σ21 p3 p4 _ h27) (cwV 2 hts gX9_copy_X8_spans rfl rfl rfl (by decide +kernel) ⟨Nat.le_of_ble_eq_true rfl, Nat.le_of_ble_eq_true rfl⟩) (by decide) (kc8 g Y _) rfl rfl hl.1 rfl (Nat.le_of_ble_eq_true rfl) dX9_copy_75 ⟨Nat.zero_le _, Nat.zero_le _⟩ (fun H locs I => ?_)
                refine lv_if_ne (tgt := 84) hx hb dX9_copy_78 (by decide) (fun c28 => ?_) (fun c28 => ?_)
                · have hf := i_f c28 hf
                  refine lv_aload hx hb dX9_copy_84 (lv_at hl 1 rfl) ?_
                  refine j_getN I hx hb hts iw_X9_copy_X8 hown 8 (by decide) (kc8 g Y _) rfl 0 (by decide) (by decide +kernel) rfl dX9_copy_86 ?_
                  refine lv_iload_n hx hb dX9_copy_89 rfl (lv_at hl 4 rfl) ?_
                  refine lv_aload hx hb dX9_copy_90 (lv_at hl 0 rfl) ?_
                  refine j_getN I hx hb hts iw_X9_copy_X8 hown 8 (by decide) (kc8 g Y _) rfl 0 (by decide) (by decide +kernel) rfl dX9_copy_92 ?_
                  refine lv_iload hx hb dX9_copy_95 (lv_at hl 6 rfl) ?_
                  refine lv_iload hx hb dX9_copy_97 (lv_at hl 7 rfl) ?_
                  obtain ⟨b30, hf⟩ := o_nb hf
                  obtain ⟨b31, hf⟩ := o_yb hf
                  obtain ⟨σ29, eσ29, hf⟩ := o_stp hf
                  refine j_copy I hx hb (hml.trans hl.1.symm) hown (hts (.methodLink RX9 251 arraycopyName) (by decide +kernel)) (hts (.native arraycopyName) (by decide +kernel)) (hts (.static arraycopyName) (by decide +kernel)) (hts (.initialized "java/lang/System") (by decide +kernel)) 42 42 1 (by decide) (by decide) (kc42 g Y) (kc42 g Y) rfl rfl (fun h => b30 (Or.inl h)) (fun h => b30 (Or.inr (Or.inl h))) (fun h => b30 (Or.inr (Or.inr (Or.inl h)))) (Nat.not_lt.mp fun h => b30 (Or.inr (Or.inr (Or.inr (Or.inl h))))) (Nat.not_lt.mp fun h => b30 (Or.inr (Or.inr (Or.inr (Or.inr h))))) b31 (Nat.le_of_ble_eq_true rfl) (Nat.le_of_ble_eq_true rfl) dX9_copy_99 eσ29 (fun H locs I => ?_)
                  refine lv_iload hx hb dX9_copy_102 (lv_at hl 7 rfl) ?_
                  exact j_iret I hx hb hr rfl hlk hf dX9_copy_104
                · have hf := i_t c28 hf
                  refine lv_ldc hx hb hown (hts (.constant RX9 243 (-1000000013)) (by decide +kernel)) dX9_copy_81 ?_
                  exact j_iret I hx hb hr rfl hlk hf dX9_copy_83
            · have hf := i_f c20 hf
              refine lv_ldc hx hb hown (hts (.constant RX9 225 (-1000000011)) (by decide +kernel)) dX9_copy_55 ?_
              exact j_iret I hx hb hr rfl hlk hf dX9_copy_57
        · have hf := i_f c12 hf
          refine j_qald I hx hb 41 (by decide) (kc41 g Y _) b11 dX9_copy_36 (a := g 9) (if_neg (q_ne0 c12 b11)) ?_
          refine lv_astore (lv' := [(7, .ref (g 9)), (6, .ref (g 8)), (0, .ref (g 0)), (1, .int p0), (2, .int p1), (3, .int p2), (4, .int p3), (5, .int p4)]) hx hb dX9_copy_37 hl (by decide) rfl (fun ls hl => ?_)
          refine lv_aload hx hb dX9_copy_39 (lv_at hl 1 rfl) ?_
          obtain ⟨σ32, r33, h34, hf⟩ := o_obn hf
          refine j_iV (rest := []) I ⟨hx, hb, hml, hown, hts⟩ (ct_X8_isMissing_8 σ5 _ h34) (cwV 0 hts gX9_copy_X8_isMissing rfl rfl rfl (by decide +kernel) ⟨Nat.le_of_ble_eq_true rfl, Nat.le_of_ble_eq_true rfl⟩) (by decide) (kc8 g Y _) rfl rfl hl.1 rfl (Nat.le_of_ble_eq_true rfl) dX9_copy_41 ⟨Nat.zero_le _, Nat.zero_le _⟩ (fun H locs I => ?_)
          refine lv_if_ne (tgt := 55) hx hb dX9_copy_44 (by decide) (fun c35 => ?_) (fun c35 => ?_)
          · have hf := i_f c35 hf
            refine lv_ldc hx hb hown (hts (.constant RX9 225 (-1000000011)) (by decide +kernel)) dX9_copy_55 ?_
            exact j_iret I hx hb hr rfl hlk hf dX9_copy_57
          · have hf := i_t c35 hf
            refine lv_aload hx hb dX9_copy_47 (lv_at hl 0 rfl) ?_
            obtain ⟨σ36, r37, h38, hf⟩ := o_obn hf
            refine j_iV (rest := []) I ⟨hx, hb, hml, hown, hts⟩ (ct_X8_isMissing_9 σ32 _ h38) (cwV 0 hts gX9_copy_X8_isMissing rfl rfl rfl (by decide +kernel) ⟨Nat.le_of_ble_eq_true rfl, Nat.le_of_ble_eq_true rfl⟩) (by decide) (kc9 g Y _) rfl rfl hl.1 rfl (Nat.le_of_ble_eq_true rfl) dX9_copy_49 ⟨Nat.zero_le _, Nat.zero_le _⟩ (fun H locs I => ?_)
            refine lv_if_eq (tgt := 58) hx hb dX9_copy_52 (by decide) (fun c39 => ?_) (fun c39 => ?_)
            · have hf := i_t c39 hf
              refine lv_aload hx hb dX9_copy_58 (lv_at hl 1 rfl) ?_
              refine lv_iload_n hx hb dX9_copy_60 rfl (lv_at hl 4 rfl) ?_
              refine lv_iload hx hb dX9_copy_61 (lv_at hl 7 rfl) ?_
              obtain ⟨σ40, r41, h42, hf⟩ := o_obn hf
              refine j_iV (rest := []) I ⟨hx, hb, hml, hown, hts⟩ (ct_X8_spans_8 σ36 p1 p4 _ h42) (cwV 2 hts gX9_copy_X8_spans rfl rfl rfl (by decide +kernel) ⟨Nat.le_of_ble_eq_true rfl, Nat.le_of_ble_eq_true rfl⟩) (by decide) (kc8 g Y _) rfl rfl hl.1 rfl (Nat.le_of_ble_eq_true rfl) dX9_copy_63 ⟨Nat.zero_le _, Nat.zero_le _⟩ (fun H locs I => ?_)
              refine lv_if_eq (tgt := 81) hx hb dX9_copy_66 (by decide) (fun c43 => ?_) (fun c43 => ?_)
              · have hf := i_t c43 hf
                refine lv_ldc hx hb hown (hts (.constant RX9 243 (-1000000013)) (by decide +kernel)) dX9_copy_81 ?_
                exact j_iret I hx hb hr rfl hlk hf dX9_copy_83
              · have hf := i_f c43 hf
                refine lv_aload hx hb dX9_copy_69 (lv_at hl 0 rfl) ?_
                refine lv_iload hx hb dX9_copy_71 (lv_at hl 6 rfl) ?_
                refine lv_iload hx hb dX9_copy_73 (lv_at hl 7 rfl) ?_
                obtain ⟨σ44, r45, h46, hf⟩ := o_obn hf
                refine j_iV (rest := []) I ⟨hx, hb, hml, hown, hts⟩ (ct_X8_spans_9 σ40 p3 p4 _ h46) (cwV 2 hts gX9_copy_X8_spans rfl rfl rfl (by decide +kernel) ⟨Nat.le_of_ble_eq_true rfl, Nat.le_of_ble_eq_true rfl⟩) (by decide) (kc9 g Y _) rfl rfl hl.1 rfl (Nat.le_of_ble_eq_true rfl) dX9_copy_75 ⟨Nat.zero_le _, Nat.zero_le _⟩ (fun H locs I => ?_)
                refine lv_if_ne (tgt := 84) hx hb dX9_copy_78 (by decide) (fun c47 => ?_) (fun c47 => ?_)
                · have hf := i_f c47 hf
                  refine lv_aload hx hb dX9_copy_84 (lv_at hl 1 rfl) ?_
                  refine j_getN I hx hb hts iw_X9_copy_X8 hown 8 (by decide) (kc8 g Y _) rfl 0 (by decide) (by decide +kernel) rfl dX9_copy_86 ?_
                  refine lv_iload_n hx hb dX9_copy_89 rfl (lv_at hl 4 rfl) ?_
                  refine lv_aload hx hb dX9_copy_90 (lv_at hl 0 rfl) ?_
                  refine j_getN I hx hb hts iw_X9_copy_X8 hown 9 (by decide) (kc9 g Y _) rfl 0 (by decide) (by decide +kernel) rfl dX9_copy_92 ?_
                  refine lv_iload hx hb dX9_copy_95 (lv_at hl 6 rfl) ?_
                  refine lv_iload hx hb dX9_copy_97 (lv_at hl 7 rfl) ?_
                  obtain ⟨b49, hf⟩ := o_nb hf
                  obtain ⟨b50, hf⟩ := o_yb hf
                  obtain ⟨σ48, eσ48, hf⟩ := o_stp hf
                  refine j_copy I hx hb (hml.trans hl.1.symm) hown (hts (.methodLink RX9 251 arraycopyName) (by decide +kernel)) (hts (.native arraycopyName) (by decide +kernel)) (hts (.static arraycopyName) (by decide +kernel)) (hts (.initialized "java/lang/System") (by decide +kernel)) 42 43 1 (by decide) (by decide) (kc42 g Y) (kc43 g Y) rfl rfl (fun h => b49 (Or.inl h)) (fun h => b49 (Or.inr (Or.inl h))) (fun h => b49 (Or.inr (Or.inr (Or.inl h)))) (Nat.not_lt.mp fun h => b49 (Or.inr (Or.inr (Or.inr (Or.inl h))))) (Nat.not_lt.mp fun h => b49 (Or.inr (Or.inr (Or.inr (Or.inr h))))) b50 (Nat.le_of_ble_eq_true rfl) (Nat.le_of_ble_eq_true rfl) dX9_copy_99 eσ48 (fun H locs I => ?_)
                  refine lv_iload hx hb dX9_copy_102 (lv_at hl 7 rfl) ?_
                  exact j_iret I hx hb hr rfl hlk hf dX9_copy_104
                · have hf := i_t c47 hf
                  refine lv_ldc hx hb hown (hts (.constant RX9 243 (-1000000013)) (by decide +kernel)) dX9_copy_81 ?_
                  exact j_iret I hx hb hr rfl hlk hf dX9_copy_83
            · have hf := i_f c39 hf
              refine lv_ldc hx hb hown (hts (.constant RX9 225 (-1000000011)) (by decide +kernel)) dX9_copy_55 ?_
              exact j_iret I hx hb hr rfl hlk hf dX9_copy_57
      · have hf := i_f c10 hf
        refine j_qald I hx hb 41 (by decide) (kc41 g Y _) b9 dX9_copy_25 (a := g 9) (if_neg (q_ne0 c10 b9)) ?_
        refine lv_astore (lv' := [(6, .ref (g 9)), (0, .ref (g 0)), (1, .int p0), (2, .int p1), (3, .int p2), (4, .int p3), (5, .int p4)]) hx hb dX9_copy_26 hl (by decide) rfl (fun ls hl => ?_)
        refine lv_aload_n hx hb dX9_copy_28 rfl (lv_at hl 1 rfl) ?_
        refine j_get I hx hb hts iw_X9_copy_X9 hown 0 (by decide) (kc0 g Y _) rfl 4 (by decide) (hts (.fieldLink RX9 44 "ReelNight" "receipts" "LReelNight$Receipts;") (by decide +kernel)) rfl dX9_copy_29 ?_
        refine j_getN I hx hb hts iw_X9_copy_X4 hown 7 (by decide) (kc7 g Y _) rfl 2 (by decide) (by decide +kernel) rfl dX9_copy_32 ?_
        refine lv_iload_n hx hb dX9_copy_35 rfl (lv_at hl 4 rfl) ?_
        obtain ⟨b51, hf⟩ := o_nb hf
        by_cases c52 : p2 = 0
        · have hf := i_t c52 hf
          refine j_qald I hx hb 41 (by decide) (kc41 g Y _) b51 dX9_copy_36 (a := g 8) (by rw [c52]; rfl) ?_
          refine lv_astore (lv' := [(7, .ref (g 8)), (6, .ref (g 9)), (0, .ref (g 0)), (1, .int p0), (2, .int p1), (3, .int p2), (4, .int p3), (5, .int p4)]) hx hb dX9_copy_37 hl (by decide) rfl (fun ls hl => ?_)
          refine lv_aload hx hb dX9_copy_39 (lv_at hl 1 rfl) ?_
          obtain ⟨σ53, r54, h55, hf⟩ := o_obn hf
          refine j_iV (rest := []) I ⟨hx, hb, hml, hown, hts⟩ (ct_X8_isMissing_9 σ5 _ h55) (cwV 0 hts gX9_copy_X8_isMissing rfl rfl rfl (by decide +kernel) ⟨Nat.le_of_ble_eq_true rfl, Nat.le_of_ble_eq_true rfl⟩) (by decide) (kc9 g Y _) rfl rfl hl.1 rfl (Nat.le_of_ble_eq_true rfl) dX9_copy_41 ⟨Nat.zero_le _, Nat.zero_le _⟩ (fun H locs I => ?_)
          refine lv_if_ne (tgt := 55) hx hb dX9_copy_44 (by decide) (fun c56 => ?_) (fun c56 => ?_)
          · have hf := i_f c56 hf
            refine lv_ldc hx hb hown (hts (.constant RX9 225 (-1000000011)) (by decide +kernel)) dX9_copy_55 ?_
            exact j_iret I hx hb hr rfl hlk hf dX9_copy_57
          · have hf := i_t c56 hf
            refine lv_aload hx hb dX9_copy_47 (lv_at hl 0 rfl) ?_
            obtain ⟨σ57, r58, h59, hf⟩ := o_obn hf
            refine j_iV (rest := []) I ⟨hx, hb, hml, hown, hts⟩ (ct_X8_isMissing_8 σ53 _ h59) (cwV 0 hts gX9_copy_X8_isMissing rfl rfl rfl (by decide +kernel) ⟨Nat.le_of_ble_eq_true rfl, Nat.le_of_ble_eq_true rfl⟩) (by decide) (kc8 g Y _) rfl rfl hl.1 rfl (Nat.le_of_ble_eq_true rfl) dX9_copy_49 ⟨Nat.zero_le _, Nat.zero_le _⟩ (fun H locs I => ?_)
            refine lv_if_eq (tgt := 58) hx hb dX9_copy_52 (by decide) (fun c60 => ?_) (fun c60 => ?_)
            · have hf := i_t c60 hf
              refine lv_aload hx hb dX9_copy_58 (lv_at hl 1 rfl) ?_
              refine lv_iload_n hx hb dX9_copy_60 rfl (lv_at hl 4 rfl) ?_
              refine lv_iload hx hb dX9_copy_61 (lv_at hl 7 rfl) ?_
              obtain ⟨σ61, r62, h63, hf⟩ := o_obn hf
              refine j_iV (rest := []) I ⟨hx, hb, hml, hown, hts⟩ (ct_X8_spans_9 σ57 p1 p4 _ h63) (cwV 2 hts gX9_copy_X8_spans rfl rfl rfl (by decide +kernel) ⟨Nat.le_of_ble_eq_true rfl, Nat.le_of_ble_eq_true rfl⟩) (by decide) (kc9 g Y _) rfl rfl hl.1 rfl (Nat.le_of_ble_eq_true rfl) dX9_copy_63 ⟨Nat.zero_le _, Nat.zero_le _⟩ (fun H locs I => ?_)
              refine lv_if_eq (tgt := 81) hx hb dX9_copy_66 (by decide) (fun c64 => ?_) (fun c64 => ?_)
              · have hf := i_t c64 hf
                refine lv_ldc hx hb hown (hts (.constant RX9 243 (-1000000013)) (by decide +kernel)) dX9_copy_81 ?_
                exact j_iret I hx hb hr rfl hlk hf dX9_copy_83
              · have hf := i_f c64 hf
                refine lv_aload hx hb dX9_copy_69 (lv_at hl 0 rfl) ?_
                refine lv_iload hx hb dX9_copy_71 (lv_at hl 6 rfl) ?_
                refine lv_iload hx hb dX9_copy_73 (lv_at hl 7 rfl) ?_
                obtain ⟨σ65, r66, h67, hf⟩ := o_obn hf
                refine j_iV (rest := []) I ⟨hx, hb, hml, hown, hts⟩ (ct_X8_spans_8 σ61 p3 p4 _ h67) (cwV 2 hts gX9_copy_X8_spans rfl rfl rfl (by decide +kernel) ⟨Nat.le_of_ble_eq_true rfl, Nat.le_of_ble_eq_true rfl⟩) (by decide) (kc8 g Y _) rfl rfl hl.1 rfl (Nat.le_of_ble_eq_true rfl) dX9_copy_75 ⟨Nat.zero_le _, Nat.zero_le _⟩ (fun H locs I => ?_)
                refine lv_if_ne (tgt := 84) hx hb dX9_copy_78 (by decide) (fun c68 => ?_) (fun c68 => ?_)
                · have hf := i_f c68 hf
                  refine lv_aload hx hb dX9_copy_84 (lv_at hl 1 rfl) ?_
                  refine j_getN I hx hb hts iw_X9_copy_X8 hown 9 (by decide) (kc9 g Y _) rfl 0 (by decide) (by decide +kernel) rfl dX9_copy_86 ?_
                  refine lv_iload_n hx hb dX9_copy_89 rfl (lv_at hl 4 rfl) ?_
                  refine lv_aload hx hb dX9_copy_90 (lv_at hl 0 rfl) ?_
                  refine j_getN I hx hb hts iw_X9_copy_X8 hown 8 (by decide) (kc8 g Y _) rfl 0 (by decide) (by decide +kernel) rfl dX9_copy_92 ?_
                  refine lv_iload hx hb dX9_copy_95 (lv_at hl 6 rfl) ?_
                  refine lv_iload hx hb dX9_copy_97 (lv_at hl 7 rfl) ?_
                  obtain ⟨b70, hf⟩ := o_nb hf
                  obtain ⟨b71, hf⟩ := o_yb hf
                  obtain ⟨σ69, eσ69, hf⟩ := o_stp hf
                  refine j_copy I hx hb (hml.trans hl.1.symm) hown (hts (.methodLink RX9 251 arraycopyName) (by decide +kernel)) (hts (.native arraycopyName) (by decide +kernel)) (hts (.static arraycopyName) (by decide +kernel)) (hts (.initialized "java/lang/System") (by decide +kernel)) 43 42 1 (by decide) (by decide) (kc43 g Y) (kc42 g Y) rfl rfl (fun h => b70 (Or.inl h)) (fun h => b70 (Or.inr (Or.inl h))) (fun h => b70 (Or.inr (Or.inr (Or.inl h)))) (Nat.not_lt.mp fun h => b70 (Or.inr (Or.inr (Or.inr (Or.inl h))))) (Nat.not_lt.mp fun h => b70 (Or.inr (Or.inr (Or.inr (Or.inr h))))) b71 (Nat.le_of_ble_eq_true rfl) (Nat.le_of_ble_eq_true rfl) dX9_copy_99 eσ69 (fun H locs I => ?_)
                  refine lv_iload hx hb dX9_copy_102 (lv_at hl 7 rfl) ?_
                  exact j_iret I hx hb hr rfl hlk hf dX9_copy_104
                · have hf := i_t c68 hf
                  refine lv_ldc hx hb hown (hts (.constant RX9 243 (-1000000013)) (by decide +kernel)) dX9_copy_81 ?_
                  exact j_iret I hx hb hr rfl hlk hf dX9_copy_83
            · have hf := i_f c60 hf
              refine lv_ldc hx hb hown (hts (.constant RX9 225 (-1000000011)) (by decide +kernel)) dX9_copy_55 ?_
              exact j_iret I hx hb hr rfl hlk hf dX9_copy_57
        · have hf := i_f c52 hf
          refine j_qald I hx hb 41 (by decide) (kc41 g Y _) b51 dX9_copy_36 (a := g 9) (if_neg (q_ne0 c52 b51)) ?_
          refine lv_astore (lv' := [(7, .ref (g 9)), (6, .ref (g 9)), (0, .ref (g 0)), (1, .int p0), (2, .int p1), (3, .int p2), (4, .int p3), (5, .int p4)]) hx hb dX9_copy_37 hl (by decide) rfl (fun ls hl => ?_)
          refine lv_aload hx hb dX9_copy_39 (lv_at hl 1 rfl) ?_
          obtain ⟨σ72, r73, h74, hf⟩ := o_obn hf
          refine j_iV (rest := []) I ⟨hx, hb, hml, hown, hts⟩ (ct_X8_isMissing_9 σ5 _ h74) (cwV 0 hts gX9_copy_X8_isMissing rfl rfl rfl (by decide +kernel) ⟨Nat.le_of_ble_eq_true rfl, Nat.le_of_ble_eq_true rfl⟩) (by decide) (kc9 g Y _) rfl rfl hl.1 rfl (Nat.le_of_ble_eq_true rfl) dX9_copy_41 ⟨Nat.zero_le _, Nat.zero_le _⟩ (fun H locs I => ?_)
          refine lv_if_ne (tgt := 55) hx hb dX9_copy_44 (by decide) (fun c75 => ?_) (fun c75 => ?_)
          · have hf := i_f c75 hf
            refine lv_ldc hx hb hown (hts (.constant RX9 225 (-1000000011)) (by decide +kernel)) dX9_copy_55 ?_
            exact j_iret I hx hb hr rfl hlk hf dX9_copy_57
          · have hf := i_t c75 hf
            refine lv_aload hx hb dX9_copy_47 (lv_at hl 0 rfl) ?_
            obtain ⟨σ76, r77, h78, hf⟩ := o_obn hf
            refine j_iV (rest := []) I ⟨hx, hb, hml, hown, hts⟩ (ct_X8_isMissing_9 σ72 _ h78) (cwV 0 hts gX9_copy_X8_isMissing rfl rfl rfl (by decide +kernel) ⟨Nat.le_of_ble_eq_true rfl, Nat.le_of_ble_eq_true rfl⟩) (by decide) (kc9 g Y _) rfl rfl hl.1 rfl (Nat.le_of_ble_eq_true rfl) dX9_copy_49 ⟨Nat.zero_le _, Nat.zero_le _⟩ (fun H locs I => ?_)
            refine lv_if_eq (tgt := 58) hx hb dX9_copy_52 (by decide) (fun c79 => ?_) (fun c79 => ?_)
            · have hf := i_t c79 hf
              refine lv_aload hx hb dX9_copy_58 (lv_at hl 1 rfl) ?_
              refine lv_iload_n hx hb dX9_copy_60 rfl (lv_at hl 4 rfl) ?_
              refine lv_iload hx hb dX9_copy_61 (lv_at hl 7 rfl) ?_
              obtain ⟨σ80, r81, h82, hf⟩ := o_obn hf
              refine j_iV (rest := []) I ⟨hx, hb, hml, hown, hts⟩ (ct_X8_spans_9 σ76 p1 p4 _ h82) (cwV 2 hts gX9_copy_X8_spans rfl rfl rfl (by decide +kernel) ⟨Nat.le_of_ble_eq_true rfl, Nat.le_of_ble_eq_true rfl⟩) (by decide) (kc9 g Y _) rfl rfl hl.1 rfl (Nat.le_of_ble_eq_true rfl) dX9_copy_63 ⟨Nat.zero_le _, Nat.zero_le _⟩ (fun H locs I => ?_)
              refine lv_if_eq (tgt := 81) hx hb dX9_copy_66 (by decide) (fun c83 => ?_) (fun c83 => ?_)
              · have hf := i_t c83 hf
                refine lv_ldc hx hb hown (hts (.constant RX9 243 (-1000000013)) (by decide +kernel)) dX9_copy_81 ?_
                exact j_iret I hx hb hr rfl hlk hf dX9_copy_83
              · have hf := i_f c83 hf
                refine lv_aload hx hb dX9_copy_69 (lv_at hl 0 rfl) ?_
                refine lv_iload hx hb dX9_copy_71 (lv_at hl 6 rfl) ?_
                refine lv_iload hx hb dX9_copy_73 (lv_at hl 7 rfl) ?_
                obtain ⟨σ84, r85, h86, hf⟩ := o_obn hf
                refine j_iV (rest := []) I ⟨hx, hb, hml, hown, hts⟩ (ct_X8_spans_9 σ80 p3 p4 _ h86) (cwV 2 hts gX9_copy_X8_spans rfl rfl rfl (by decide +kernel) ⟨Nat.le_of_ble_eq_true rfl, Nat.le_of_ble_eq_true rfl⟩) (by decide) (kc9 g Y _) rfl rfl hl.1 rfl (Nat.le_of_ble_eq_true rfl) dX9_copy_75 ⟨Nat.zero_le _, Nat.zero_le _⟩ (fun H locs I => ?_)
                refine lv_if_ne (tgt := 84) hx hb dX9_copy_78 (by decide) (fun c87 => ?_) (fun c87 => ?_)
                · have hf := i_f c87 hf
                  refine lv_aload hx hb dX9_copy_84 (lv_at hl 1 rfl) ?_
                  refine j_getN I hx hb hts iw_X9_copy_X8 hown 9 (by decide) (kc9 g Y _) rfl 0 (by decide) (by decide +kernel) rfl dX9_copy_86 ?_
                  refine lv_iload_n hx hb dX9_copy_89 rfl (lv_at hl 4 rfl) ?_
                  refine lv_aload hx hb dX9_copy_90 (lv_at hl 0 rfl) ?_
                  refine j_getN I hx hb hts iw_X9_copy_X8 hown 9 (by decide) (kc9 g Y _) rfl 0 (by decide) (by decide +kernel) rfl dX9_copy_92 ?_
                  refine lv_iload hx hb dX9_copy_95 (lv_at hl 6 rfl) ?_
                  refine lv_iload hx hb dX9_copy_97 (lv_at hl 7 rfl) ?_
                  obtain ⟨b89, hf⟩ := o_nb hf
                  obtain ⟨b90, hf⟩ := o_yb hf
                  obtain ⟨σ88, eσ88, hf⟩ := o_stp hf
                  refine j_copy I hx hb (hml.trans hl.1.symm) hown (hts (.methodLink RX9 251 arraycopyName) (by decide +kernel)) (hts (.native arraycopyName) (by decide +kernel)) (hts (.static arraycopyName) (by decide +kernel)) (hts (.initialized "java/lang/System") (by decide +kernel)) 43 43 1 (by decide) (by decide) (kc43 g Y) (kc43 g Y) rfl rfl (fun h => b89 (Or.inl h)) (fun h => b89 (Or.inr (Or.inl h))) (fun h => b89 (Or.inr (Or.inr (Or.inl h)))) (Nat.not_lt.mp fun h => b89 (Or.inr (Or.inr (Or.inr (Or.inl h))))) (Nat.not_lt.mp fun h => b89 (Or.inr (Or.inr (Or.inr (Or.inr h))))) b90 (Nat.le_of_ble_eq_true rfl) (Nat.le_of_ble_eq_true rfl) dX9_copy_99 eσ88 (fun H locs I => ?_)
                  refine lv_iload hx hb dX9_copy_102 (lv_at hl 7 rfl) ?_
                  exact j_iret I hx hb hr rfl hlk hf dX9_copy_104
                · have hf := i_t c87 hf
                  refine lv_ldc hx hb hown (hts (.constant RX9 243 (-1000000013)) (by decide +kernel)) dX9_copy_81 ?_
                  exact j_iret I hx hb hr rfl hlk hf dX9_copy_83
            · have hf := i_f c79 hf
              refine lv_ldc hx hb hown (hts (.constant RX9 225 (-1000000011)) (by decide +kernel)) dX9_copy_55 ?_
              exact j_iret I hx hb hr rfl hlk hf dX9_copy_57
    · have hf := i_t c8 hf
      refine lv_ldc hx hb hown (hts (.constant RX9 52 (-1000000001)) (by decide +kernel)) dX9_copy_14 ?_
      exact j_iret I hx hb hr rfl hlk hf dX9_copy_16

theorem iw_X9_count_X0 : ∀ w ∈ u_ws RX0 TX0 7, w ∈ wsX9_count := fun _ h => List.mem_cons_of_mem _ (List.mem_append_left _ (List.mem_append_left _ (List.mem_append_right _ h)))
theorem iw_X9_count_X1 : ∀ w ∈ u_ws RX1 TX1 6, w ∈ wsX9_count := fun _ h => List.mem_cons_of_mem _ (List.mem_append_left _ (List.mem_append_left _ (List.mem_append_left _ (List.mem_append_left _ (List.mem_append_left _ (List.mem_append_right _ h))))))
theorem iw_X9_count_X2 : ∀ w ∈ u_ws RX2 TX2 11, w ∈ wsX9_count := fun _ h => List.mem_cons_of_mem _ (List.mem_append_left _ (List.mem_append_left _ (List.mem_append_left _ (List.mem_append_right _ h))))
theorem iw_X9_count_X5 : ∀ w ∈ u_ws RX5 TX5 3, w ∈ wsX9_count := fun _ h => List.mem_cons_of_mem _ (List.mem_append_left _ (List.mem_append_left _ (List.mem_append_left _ (List.mem_append_left _ (List.mem_append_right _ h)))))
theorem iw_X9_count_X9 : ∀ w ∈ u_ws RX9 TX9 5, w ∈ wsX9_count := fun _ h => List.mem_cons_of_mem _ (List.mem_append_left _ (List.mem_append_left _ (List.mem_append_left _ (List.mem_append_left _ (List.mem_append_left _ (List.mem_append_left _ (List.mem_append_right _ h)))))))
set_option maxHeartbeats 4000000 in
set_option maxRecDepth 100000 in
theorem ct_X9_count {l : Launch} {D : va_G} {g : Nat → Nat} {Y : YT} {bP : Nat} (σ : St) (p0 : Int32) (res : St × Int32) (hf : fX9_count σ p0 = some res) : Ci l yX9_count wsX9_count ⟨2, 0, 0, 42⟩ D 44 g (KC g Y) Y bP [.ref (g 0), .int p0] σ res := by
  intro sz
  refine Met.ofW (cc := cX9_count) (maxL := 2) (ret := (some .int)) (by decide) rfl ?_
  intro p e s m args below meth c s₁ B hml hv
  obtain ⟨rfl, rfl, I⟩ := j_start hv
  have C0 : MC p s m _ meth c cX9_count 2 (some .int) RX9 wsX9_count := ⟨B.exec, B.bytes, B.returns, hml, findClass_of_methodNamed B.named, atoms_spec (ws := wsX9_count) B.pre, B.notSynchronized⟩
  obtain ⟨hx, hb, hr, hml, hown, hts, hlk⟩ := id C0
  have hl := lv_entry ([.ref (g 0), .int p0]) (n := 2) (Nat.le_of_ble_eq_true rfl)
  rw [lg_entry_eq]
  generalize (lg_sl ([.ref (g 0), .int p0]) ++ List.replicate (2 - (lg_sl ([.ref (g 0), .int p0])).length) Slot.unset).toArray = ls at hl ⊢
  have hl : lv_has ls 2 [(0, .ref (g 0)), (1, .int p0)] := hl
  rw [fX9_count] at hf
  refine lv_iload_n hx hb dX9_count_0 rfl (lv_at hl 1 rfl) ?_
  by_cases c1 : p0 = 0
  · have hf := i_t c1 hf
    refine lv_tableIn (tgt := 44) hx hb dX9_count_1 (by rw [c1]; decide) (by rw [c1]; decide) (off := 43) (by rw [c1]; rfl) (by decide) ?_
    refine lv_aload_n hx hb dX9_count_44 rfl (lv_at hl 0 rfl) ?_
    refine j_get I hx hb hts iw_X9_count_X9 hown 0 (by decide) (kc0 g Y _) rfl 0 (by decide) (hts (.fieldLink RX9 12 "ReelNight" "houses" "LReelNight$Houses;") (by decide +kernel)) rfl dX9_count_45 ?_
    refine j_getN I hx hb hts iw_X9_count_X1 hown 1 (by decide) (kc1 g Y _) rfl 5 (by decide) (by decide +kernel) rfl dX9_count_48 ?_
    exact j_iret I hx hb hr rfl hlk hf dX9_count_51
  have hf := i_f c1 hf
  have tc1 : ¬ Int32.toInt p0 = 0 := lv_neT c1 rfl
  by_cases c2 : p0 = 1
  · have hf := i_t c2 hf
    refine lv_tableIn (tgt := 52) hx hb dX9_count_1 (by rw [c2]; decide) (by rw [c2]; decide) (off := 51) (by rw [c2]; rfl) (by decide) ?_
    refine lv_aload_n hx hb dX9_count_52 rfl (lv_at hl 0 rfl) ?_
    refine j_get I hx hb hts iw_X9_count_X9 hown 0 (by decide) (kc0 g Y _) rfl 1 (by decide) (hts (.fieldLink RX9 19 "ReelNight" "reels" "LReelNight$Reels;") (by decide +kernel)) rfl dX9_count_53 ?_
    refine j_getN I hx hb hts iw_X9_count_X5 hown 2 (by decide) (kc2 g Y _) rfl 2 (by decide) (by decide +kernel) rfl dX9_count_56 ?_
    exact j_iret I hx hb hr rfl hlk hf dX9_count_59
  have hf := i_f c2 hf
  have tc2 : ¬ Int32.toInt p0 = 1 := lv_neT c2 rfl
  by_cases c3 : p0 = 2
  · have hf := i_t c3 hf
    refine lv_tableIn (tgt := 60) hx hb dX9_count_1 (by rw [c3]; decide) (by rw [c3]; decide) (off := 59) (by rw [c3]; rfl) (by decide) ?_
    refine lv_aload_n hx hb dX9_count_60 rfl (lv_at hl 0 rfl) ?_
    refine j_get I hx hb hts iw_X9_count_X9 hown 0 (by decide) (kc0 g Y _) rfl 2 (by decide) (hts (.fieldLink RX9 28 "ReelNight" "night" "LReelNight$Night;") (by decide +kernel)) rfl dX9_count_61 ?_
    refine j_getN I hx hb hts iw_X9_count_X2 hown 3 (by decide) (kc3 g Y _) rfl 5 (by decide) (by decide +kernel) rfl dX9_count_64 ?_
    exact j_iret I hx hb hr rfl hlk hf dX9_count_67
  have hf := i_f c3 hf
  have tc3 : ¬ Int32.toInt p0 = 2 := lv_neT c3 rfl
  by_cases c4 : p0 = 3
  · have hf := i_t c4 hf
    refine lv_tableIn (tgt := 68) hx hb dX9_count_1 (by rw [c4]; decide) (by rw [c4]; decide) (off := 67) (by rw [c4]; rfl) (by decide) ?_
    refine lv_aload_n hx hb dX9_count_68 rfl (lv_at hl 0 rfl) ?_
    refine j_get I hx hb hts iw_X9_count_X9 hown 0 (by decide) (kc0 g Y _) rfl 2 (by decide) (hts (.fieldLink RX9 28 "ReelNight" "night" "LReelNight$Night;") (by decide +kernel)) rfl dX9_count_69 ?_
    obtain ⟨σ5, r6, h7, hf⟩ := o_obn hf
    refine j_iV (rest := []) I ⟨hx, hb, hml, hown, hts⟩ (ct_X2_manyRides σ _ h7) (cwV 0 hts gX9_count_X2_manyRides rfl rfl rfl (by decide +kernel) ⟨Nat.le_of_ble_eq_true rfl, Nat.le_of_ble_eq_true rfl⟩) (by decide) (kc3 g Y _) rfl rfl hl.1 rfl (Nat.le_of_ble_eq_true rfl) dX9_count_72 ⟨Nat.zero_le _, Nat.zero_le _⟩ (fun H locs I => ?_)
    exact j_iret I hx hb hr rfl hlk hf dX9_count_75
  have hf := i_f c4 hf
  have tc4 : ¬ Int32.toInt p0 = 3 := lv_neT c4 rfl
  by_cases c8 : p0 = 4
  · have hf := i_t c8 hf
    refine lv_tableIn (tgt := 76) hx hb dX9_count_1 (by rw [c8]; decide) (by rw [c8]; decide) (off := 75) (by rw [c8]; rfl) (by decide) ?_
    refine lv_aload_n hx hb dX9_count_76 rfl (lv_at hl 0 rfl) ?_
    refine j_get I hx hb hts iw_X9_count_X9 hown 0 (by decide) (kc0 g Y _) rfl 3 (by decide) (hts (.fieldLink RX9 37 "ReelNight" "bookings" "LReelNight$Bookings;") (by decide +kernel)) rfl dX9_count_77 ?_
    refine j_getN I hx hb hts iw_X9_count_X0 hown 5 (by decide) (kc5 g Y _) rfl 6 (by decide) (by decide +kernel) rfl dX9_count_80 ?_
    exact j_iret I hx hb hr rfl hlk hf dX9_count_83
  have hf := i_f c8 hf
  have tc8 : ¬ Int32.toInt p0 = 4 := lv_neT c8 rfl
  by_cases c9 : p0 = 5
  · have hf := i_t c9 hf
    refine lv_tableIn (tgt := 84) hx hb dX9_count_1 (by rw [c9]; decide) (by rw [c9]; decide) (off := 83) (by rw [c9]; rfl) (by decide) ?_
    refine lv_aload_n hx hb dX9_count_84 rfl (lv_at hl 0 rfl) ?_
    refine j_get I hx hb hts iw_X9_count_X9 hown 0 (by decide) (kc0 g Y _) rfl 1 (by decide) (hts (.fieldLink RX9 19 "ReelNight" "reels" "LReelNight$Reels;") (by decide +kernel)) rfl dX9_count_85 ?_
    obtain ⟨σ10, r11, h12, hf⟩ := o_obn hf
    refine j_iV (rest := []) I ⟨hx, hb, hml, hown, hts⟩ (ct_X5_allFrames σ _ h12) (cwV 0 hts gX9_count_X5_allFrames rfl rfl rfl (by decide +kernel) ⟨Nat.le_of_ble_eq_true rfl, Nat.le_of_ble_eq_true rfl⟩) (by decide) (kc2 g Y _) rfl rfl hl.1 rfl (Nat.le_of_ble_eq_true rfl) dX9_count_88 ⟨Nat.zero_le _, Nat.zero_le _⟩ (fun H locs I => ?_)
    exact j_iret I hx hb hr rfl hlk hf dX9_count_91
  have hf := i_f c9 hf
  have tc9 : ¬ Int32.toInt p0 = 5 := lv_neT c9 rfl
  by_cases c13 : p0 = 6
  · have hf := i_t c13 hf
    refine lv_tableIn (tgt := 92) hx hb dX9_count_1 (by rw [c13]; decide) (by rw [c13]; decide) (off := 91) (by rw [c13]; rfl) (by decide) ?_
    refine lv_aload_n hx hb dX9_count_92 rfl (lv_at hl 0 rfl) ?_
    refine j_get I hx hb hts iw_X9_count_X9 hown 0 (by decide) (kc0 g Y _) rfl 4 (by decide) (hts (.fieldLink RX9 44 "ReelNight" "receipts" "LReelNight$Receipts;") (by decide +kernel)) rfl dX9_count_93 ?_
    obtain ⟨σ14, r15, h16, hf⟩ := o_obn hf
    refine j_iV (rest := []) I ⟨hx, hb, hml, hown, hts⟩ (ct_X4_sheetsThere σ _ h16) (cwV 0 hts gX9_count_X4_sheetsThere rfl rfl rfl (by decide +kernel) ⟨Nat.le_of_ble_eq_true rfl, Nat.le_of_ble_eq_true rfl⟩) (by decide) (kc7 g Y _) rfl rfl hl.1 rfl (Nat.le_of_ble_eq_true rfl) dX9_count_96 ⟨Nat.zero_le _, Nat.zero_le _⟩ (fun H locs I => ?_)
    exact j_iret I hx hb hr rfl hlk hf dX9_count_99
  have hf := i_f c13 hf
  have tc13 : ¬ Int32.toInt p0 = 6 := lv_neT c13 rfl
  refine lv_tableOut (tgt := 100) hx hb dX9_count_1 (by omega) (by decide) ?_
  refine lv_ldc hx hb hown (hts (.constant RX9 52 (-1000000001)) (by decide +kernel)) dX9_count_100 ?_
  exact j_iret I hx hb hr rfl hlk hf dX9_count_102

set_option maxHeartbeats 4000000 in
set_option maxRecDepth 100000 in
theorem ct_X10_isIn {l : Launch} {D : va_G} {g : Nat → Nat} {Y : YT} {bP : Nat} (σ : St) (p0 : Int32) (p1 : Int32) (p2 : Int32) (res : St × Int32) (hf : fX10_isIn σ p0 p1 p2 = some res) : Ci l yX10_isIn wsX10_isIn ⟨0, 0, 0, 0⟩ D 27 g (KM g Y) Y bP [.int p0, .int p1, .int p2] σ res := by
  intro sz
  refine Met.ofW (cc := cX10_isIn) (maxL := 3) (ret := (some .boolean)) (by decide) rfl ?_
  intro p e s m args below meth c s₁ B hml hv
  obtain ⟨rfl, rfl, I⟩ := j_start hv
  have C0 : MC p s m _ meth c cX10_isIn 3 (some .boolean) RX10 wsX10_isIn := ⟨B.exec, B.bytes, B.returns, hml, findClass_of_methodNamed B.named, atoms_spec (ws := wsX10_isIn) B.pre, B.notSynchronized⟩
  obtain ⟨hx, hb, hr, hml, hown, hts, hlk⟩ := id C0
  have hl := lv_entry ([.int p0, .int p1, .int p2]) (n := 3) (Nat.le_of_ble_eq_true rfl)
  rw [lg_entry_eq]
  generalize (lg_sl ([.int p0, .int p1, .int p2]) ++ List.replicate (3 - (lg_sl ([.int p0, .int p1, .int p2])).length) Slot.unset).toArray = ls at hl ⊢
  have hl : lv_has ls 3 [(0, .int p0), (1, .int p1), (2, .int p2)] := hl
  rw [fX10_isIn] at hf
  refine lv_iload_n hx hb dX10_isIn_0 rfl (lv_at hl 0 rfl) ?_
  refine lv_iload_n hx hb dX10_isIn_1 rfl (lv_at hl 1 rfl) ?_
  refine lv_icmp_lt (tgt := 14) hx hb dX10_isIn_2 (by decide) (fun c1 => ?_) (fun c1 => ?_)
  · have hf := i_t c1 hf
    refine lv_iconst (v := 0) hx hb dX10_isIn_14 (by decide) ?_
    exact j_iret I hx hb hr rfl hlk hf dX10_isIn_15
  · have hf := i_f c1 hf
    refine lv_iload_n hx hb dX10_isIn_5 rfl (lv_at hl 0 rfl) ?_
    refine lv_iload_n hx hb dX10_isIn_6 rfl (lv_at hl 2 rfl) ?_
    refine lv_icmp_gt (tgt := 14) hx hb dX10_isIn_7 (by decide) (fun c2 => ?_) (fun c2 => ?_)
    · have hf := i_t c2 hf
      refine lv_iconst (v := 0) hx hb dX10_isIn_14 (by decide) ?_
      exact j_iret I hx hb hr rfl hlk hf dX10_isIn_15
    · have hf := i_f c2 hf
      refine lv_iconst (v := 1) hx hb dX10_isIn_10 (by decide) ?_
      refine lv_goto (tgt := 15) hx hb dX10_isIn_11 (by decide) ?_
      exact j_iret I hx hb hr rfl hlk hf dX10_isIn_15

theorem iw_X10_isHouse_X10 : ∀ w ∈ u_ws RX10 TX10 37, w ∈ wsX10_isHouse := fun _ h => List.mem_cons_of_mem _ (List.mem_append_right _ h)
set_option maxHeartbeats 4000000 in
set_option maxRecDepth 100000 in
theorem ct_X10_isHouse {l : Launch} {D : va_G} {g : Nat → Nat} {Y : YT} {bP : Nat} (σ : St) (p0 : Int32) (res : St × Int32) (hf : fX10_isHouse σ p0 = some res) : Ci l yX10_isHouse wsX10_isHouse ⟨1, 0, 0, 22⟩ D 27 g (KM g Y) Y bP [.ref (g 0), .int p0] σ res := by
  intro sz
  refine Met.ofW (cc := cX10_isHouse) (maxL := 2) (ret := (some .boolean)) (by decide) rfl ?_
  intro p e s m args below meth c s₁ B hml hv
  obtain ⟨rfl, rfl, I⟩ := j_start hv
  have C0 : MC p s m _ meth c cX10_isHouse 2 (some .boolean) RX10 wsX10_isHouse := ⟨B.exec, B.bytes, B.returns, hml, findClass_of_methodNamed B.named, atoms_spec (ws := wsX10_isHouse) B.pre, B.notSynchronized⟩
  obtain ⟨hx, hb, hr, hml, hown, hts, hlk⟩ := id C0
  have hl := lv_entry ([.ref (g 0), .int p0]) (n := 2) (Nat.le_of_ble_eq_true rfl)
  rw [lg_entry_eq]
  generalize (lg_sl ([.ref (g 0), .int p0]) ++ List.replicate (2 - (lg_sl ([.ref (g 0), .int p0])).length) Slot.unset).toArray = ls at hl ⊢
  have hl : lv_has ls 2 [(0, .ref (g 0)), (1, .int p0)] := hl
  rw [fX10_isHouse] at hf
  refine lv_iload_n hx hb dX10_isHouse_0 rfl (lv_at hl 1 rfl) ?_
  refine lv_iconst (v := 0) hx hb dX10_isHouse_1 (by decide) ?_
  refine lv_aload_n hx hb dX10_isHouse_2 rfl (lv_at hl 0 rfl) ?_
  refine j_get I hx hb hts iw_X10_isHouse_X10 hown 0 (by decide) (km0 g Y _) rfl 0 (by decide) (hts (.fieldLink RX10 99 "ReelNightModel" "houses" "I") (by decide +kernel)) rfl dX10_isHouse_3 ?_
  refine lv_iconst (v := 1) hx hb dX10_isHouse_6 (by decide) ?_
  refine lv_isub hx hb dX10_isHouse_7 ?_
  obtain ⟨σ1, r2, h3, hf⟩ := o_obn hf
  refine j_iS (rest := []) I ⟨hx, hb, hml, hown, hts⟩ (ct_X10_isIn σ p0 0 ((σ 0 0) - 1) _ h3) (va_cwS 3 hts gX10_isHouse_X10_isIn rfl rfl rfl (by decide +kernel) ⟨Nat.le_of_ble_eq_true rfl, Nat.le_of_ble_eq_true rfl⟩) rfl hl.1 rfl (Nat.le_of_ble_eq_true rfl) dX10_isHouse_8 ⟨Nat.zero_le _, Nat.zero_le _⟩ (fun H locs I => ?_)
  obtain ⟨b4, hf⟩ := o_yb hf
  exact j_iret I hx hb hr (o_bool b4) hlk hf dX10_isHouse_11

theorem iw_X10_isReel_X10 : ∀ w ∈ u_ws RX10 TX10 37, w ∈ wsX10_isReel := fun _ h => List.mem_cons_of_mem _ (List.mem_append_right _ h)
set_option maxHeartbeats 4000000 in
set_option maxRecDepth 100000 in
theorem ct_X10_isReel {l : Launch} {D : va_G} {g : Nat → Nat} {Y : YT} {bP : Nat} (σ : St) (p0 : Int32) (res : St × Int32) (hf : fX10_isReel σ p0 = some res) : Ci l yX10_isReel wsX10_isReel ⟨1, 0, 0, 22⟩ D 27 g (KM g Y) Y bP [.ref (g 0), .int p0] σ res := by
  intro sz
  refine Met.ofW (cc := cX10_isReel) (maxL := 2) (ret := (some .boolean)) (by decide) rfl ?_
  intro p e s m args below meth c s₁ B hml hv
  obtain ⟨rfl, rfl, I⟩ := j_start hv
  have C0 : MC p s m _ meth c cX10_isReel 2 (some .boolean) RX10 wsX10_isReel := ⟨B.exec, B.bytes, B.returns, hml, findClass_of_methodNamed B.named, atoms_spec (ws := wsX10_isReel) B.pre, B.notSynchronized⟩
  obtain ⟨hx, hb, hr, hml, hown, hts, hlk⟩ := id C0
  have hl := lv_entry ([.ref (g 0), .int p0]) (n := 2) (Nat.le_of_ble_eq_true rfl)
  rw [lg_entry_eq]
  generalize (lg_sl ([.ref (g 0), .int p0]) ++ List.replicate (2 - (lg_sl ([.ref (g 0), .int p0])).length) Slot.unset).toArray = ls at hl ⊢
  have hl : lv_has ls 2 [(0, .ref (g 0)), (1, .int p0)] := hl
  rw [fX10_isReel] at hf
  refine lv_iload_n hx hb dX10_isReel_0 rfl (lv_at hl 1 rfl) ?_
  refine lv_iconst (v := 0) hx hb dX10_isReel_1 (by decide) ?_
  refine lv_aload_n hx hb dX10_isReel_2 rfl (lv_at hl 0 rfl) ?_
  refine j_get I hx hb hts iw_X10_isReel_X10 hown 0 (by decide) (km0 g Y _) rfl 7 (by decide) (hts (.fieldLink RX10 106 "ReelNightModel" "reels" "I") (by decide +kernel)) rfl dX10_isReel_3 ?_
  refine lv_iconst (v := 1) hx hb dX10_isReel_6 (by decide) ?_
  refine lv_isub hx hb dX10_isReel_7 ?_
  obtain ⟨σ1, r2, h3, hf⟩ := o_obn hf
  refine j_iS (rest := []) I ⟨hx, hb, hml, hown, hts⟩ (ct_X10_isIn σ p0 0 ((σ 0 7) - 1) _ h3) (va_cwS 3 hts gX10_isReel_X10_isIn rfl rfl rfl (by decide +kernel) ⟨Nat.le_of_ble_eq_true rfl, Nat.le_of_ble_eq_true rfl⟩) rfl hl.1 rfl (Nat.le_of_ble_eq_true rfl) dX10_isReel_8 ⟨Nat.zero_le _, Nat.zero_le _⟩ (fun H locs I => ?_)
  obtain ⟨b4, hf⟩ := o_yb hf
  exact j_iret I hx hb hr (o_bool b4) hlk hf dX10_isReel_11

theorem iw_X10_house_X10 : ∀ w ∈ u_ws RX10 TX10 37, w ∈ wsX10_house := by decide +kernel
set_option maxHeartbeats 4000000 in
set_option maxRecDepth 100000 in
theorem ct_X10_house {l : Launch} {D : va_G} {g : Nat → Nat} {Y : YT} {bP : Nat} (σ : St) (p0 : Int32) (p1 : Int32) (res : St × Int32) (hf : fX10_house σ p0 p1 = some res) : Ci l yX10_house wsX10_house ⟨1, 0, 0, 22⟩ D 27 g (KM g Y) Y bP [.ref (g 0), .int p0, .int p1] σ res := by
  intro sz
  refine Met.ofW (cc := cX10_house) (maxL := 3) (ret := (some .int)) (by decide) rfl ?_
  intro p e s m args below meth c s₁ B hml hv
  obtain ⟨rfl, rfl, I⟩ := j_start hv
  have C0 : MC p s m _ meth c cX10_house 3 (some .int) RX10 wsX10_house := ⟨B.exec, B.bytes, B.returns, hml, findClass_of_methodNamed B.named, atoms_spec (ws := wsX10_house) B.pre, B.notSynchronized⟩
  obtain ⟨hx, hb, hr, hml, hown, hts, hlk⟩ := id C0
  have hl := lv_entry ([.ref (g 0), .int p0, .int p1]) (n := 3) (Nat.le_of_ble_eq_true rfl)
  rw [lg_entry_eq]
  generalize (lg_sl ([.ref (g 0), .int p0, .int p1]) ++ List.replicate (3 - (lg_sl ([.ref (g 0), .int p0, .int p1])).length) Slot.unset).toArray = ls at hl ⊢
  have hl : lv_has ls 3 [(0, .ref (g 0)), (1, .int p0), (2, .int p1)] := hl
  rw [fX10_house] at hf
  refine lv_iload_n hx hb dX10_house_0 rfl (lv_at hl 1 rfl) ?_
  refine lv_iconst (v := 0) hx hb dX10_house_1 (by decide) ?_
  refine lv_iconst (v := 3) hx hb dX10_house_2 (by decide) ?_
  obtain ⟨σ1, r2, h3, hf⟩ := o_obn hf
  refine j_iS (rest := []) I ⟨hx, hb, hml, hown, hts⟩ (ct_X10_isIn σ p0 0 3 _ h3) (va_cwS 3 hts gX10_house_X10_isIn rfl rfl rfl (by decide +kernel) ⟨Nat.le_of_ble_eq_true rfl, Nat.le_of_ble_eq_true rfl⟩) rfl hl.1 rfl (Nat.le_of_ble_eq_true rfl) dX10_house_3 ⟨Nat.zero_le _, Nat.zero_le _⟩ (fun H locs I => ?_)
  refine lv_if_eq (tgt := 20) hx hb dX10_house_6 (by decide) (fun c4 => ?_) (fun c4 => ?_)
  · have hf := i_t c4 hf
    refine lv_ldc hx hb hown (hts (.constant RX10 109 (-1000000001)) (by decide +kernel)) dX10_house_20 ?_
    exact j_iret I hx hb hr rfl hlk hf dX10_house_22
  · have hf := i_f c4 hf
    refine lv_iload_n hx hb dX10_house_9 rfl (lv_at hl 2 rfl) ?_
    refine lv_iconst (v := 1) hx hb dX10_house_10 (by decide) ?_
    refine lv_sipush (v := 999) hx hb dX10_house_11 (by decide) ?_
    obtain ⟨σ5, r6, h7, hf⟩ := o_obn hf
    refine j_iS (rest := []) I ⟨hx, hb, hml, hown, hts⟩ (ct_X10_isIn σ1 p1 1 999 _ h7) (va_cwS 3 hts gX10_house_X10_isIn rfl rfl rfl (by decide +kernel) ⟨Nat.le_of_ble_eq_true rfl, Nat.le_of_ble_eq_true rfl⟩) rfl hl.1 rfl (Nat.le_of_ble_eq_true rfl) dX10_house_14 ⟨Nat.zero_le _, Nat.zero_le _⟩ (fun H locs I => ?_)
    refine lv_if_ne (tgt := 23) hx hb dX10_house_17 (by decide) (fun c8 => ?_) (fun c8 => ?_)
    · have hf := i_f c8 hf
      refine lv_aload_n hx hb dX10_house_23 rfl (lv_at hl 0 rfl) ?_
      refine j_get I hx hb hts iw_X10_house_X10 hown 0 (by decide) (km0 g Y _) rfl 0 (by decide) (hts (.fieldLink RX10 99 "ReelNightModel" "houses" "I") (by decide +kernel)) rfl dX10_house_24 ?_
      refine lv_bipush (v := 6) hx hb dX10_house_27 (by decide) ?_
      refine lv_icmp_ne (tgt := 35) hx hb dX10_house_29 (by decide) (fun c9 => ?_) (fun c9 => ?_)
      · have hf := i_f c9 hf
        refine lv_aload_n hx hb dX10_house_35 rfl (lv_at hl 0 rfl) ?_
        refine j_get I hx hb hts iw_X10_house_X10 hown 0 (by decide) (km0 g Y _) rfl 1 (by decide) (hts (.fieldLink RX10 7 "ReelNightModel" "kind" "[I") (by decide +kernel)) rfl dX10_house_36 ?_
        refine lv_aload_n hx hb dX10_house_39 rfl (lv_at hl 0 rfl) ?_
        refine j_get I hx hb hts iw_X10_house_X10 hown 0 (by decide) (km0 g Y _) rfl 0 (by decide) (hts (.fieldLink RX10 99 "ReelNightModel" "houses" "I") (by decide +kernel)) rfl dX10_house_40 ?_
        refine lv_iload_n hx hb dX10_house_43 rfl (lv_at hl 1 rfl) ?_
        obtain ⟨b10, hf⟩ := o_nb hf
        obtain ⟨σ11, eσ11, hf⟩ := o_stp hf
        refine j_ast I hx hb 1 (by decide) (km1 g Y) b10 eσ11 dX10_house_44 (fun H locs I => ?_)
        refine lv_aload_n hx hb dX10_house_45 rfl (lv_at hl 0 rfl) ?_
        refine j_get I hx hb hts iw_X10_house_X10 hown 0 (by decide) (km0 g Y _) rfl 2 (by decide) (hts (.fieldLink RX10 13 "ReelNightModel" "seats" "[I") (by decide +kernel)) rfl dX10_house_46 ?_
        refine lv_aload_n hx hb dX10_house_49 rfl (lv_at hl 0 rfl) ?_
        refine j_get I hx hb hts iw_X10_house_X10 hown 0 (by decide) (km0 g Y _) rfl 0 (by decide) (hts (.fieldLink RX10 99 "ReelNightModel" "houses" "I") (by decide +kernel)) rfl dX10_house_50 ?_
        refine lv_iload_n hx hb dX10_house_53 rfl (lv_at hl 2 rfl) ?_
        obtain ⟨b12, hf⟩ := o_nb hf
        obtain ⟨σ13, eσ13, hf⟩ := o_stp hf
        refine j_ast I hx hb 2 (by decide) (km2 g Y) b12 eσ13 dX10_house_54 (fun H locs I => ?_)
        refine lv_aload_n hx hb dX10_house_55 rfl (lv_at hl 0 rfl) ?_
        refine lv_dup hx hb dX10_house_56 rfl ?_
        refine j_get I hx hb hts iw_X10_house_X10 hown 0 (by decide) (km0 g Y _) rfl 0 (by decide) (hts (.fieldLink RX10 99 "ReelNightModel" "houses" "I") (by decide +kernel)) rfl dX10_house_57 ?_
        refine lv_iconst (v := 1) hx hb dX10_house_60 (by decide) ?_
        refine lv_iadd hx hb dX10_house_61 ?_
        obtain ⟨σ14, eσ14, hf⟩ := o_stp hf
        refine j_put I hx hb hts iw_X10_house_X10 tyX10 tyX10_ok nmX10 hown 0 (by decide) (km0 g Y _) rfl 0 (by decide) (hts (.fieldLink RX10 99 "ReelNightModel" "houses" "I") (by decide +kernel)) rfl rfl rfl (Nat.le_of_ble_eq_true rfl) (kms0_0 g Y _ _) eσ14 dX10_house_62 (fun H locs I => ?_)
        refine lv_aload_n hx hb dX10_house_65 rfl (lv_at hl 0 rfl) ?_
        refine j_get I hx hb hts iw_X10_house_X10 hown 0 (by decide) (km0 g Y _) rfl 0 (by decide) (hts (.fieldLink RX10 99 "ReelNightModel" "houses" "I") (by decide +kernel)) rfl dX10_house_66 ?_
        refine lv_iconst (v := 1) hx hb dX10_house_69 (by decide) ?_
        refine lv_isub hx hb dX10_house_70 ?_
        exact j_iret I hx hb hr rfl hlk hf dX10_house_71
      · have hf := i_t c9 hf
        refine lv_ldc hx hb hown (hts (.constant RX10 110 (-1000000003)) (by decide +kernel)) dX10_house_32 ?_
        exact j_iret I hx hb hr rfl hlk hf dX10_house_34
    · have hf := i_t c8 hf
      refine lv_ldc hx hb hown (hts (.constant RX10 109 (-1000000001)) (by decide +kernel)) dX10_house_20 ?_
      exact j_iret I hx hb hr rfl hlk hf dX10_house_22

theorem iw_X10_isPalace_X10 : ∀ w ∈ u_ws RX10 TX10 37, w ∈ wsX10_isPalace := by decide +kernel
set_option maxHeartbeats 4000000 in
set_option maxRecDepth 100000 in
theorem ct_X10_isPalace {l : Launch} {D : va_G} {g : Nat → Nat} {Y : YT} {bP : Nat} (σ : St) (p0 : Int32) (res : St × Int32) (hf : fX10_isPalace σ p0 = some res) : Ci l yX10_isPalace wsX10_isPalace ⟨0, 0, 0, 0⟩ D 27 g (KM g Y) Y bP [.ref (g 0), .int p0] σ res := by
  intro sz
  refine Met.ofW (cc := cX10_isPalace) (maxL := 2) (ret := (some .boolean)) (by decide) rfl ?_
  intro p e s m args below meth c s₁ B hml hv
  obtain ⟨rfl, rfl, I⟩ := j_start hv
  have C0 : MC p s m _ meth c cX10_isPalace 2 (some .boolean) RX10 wsX10_isPalace := ⟨B.exec, B.bytes, B.returns, hml, findClass_of_methodNamed B.named, atoms_spec (ws := wsX10_isPalace) B.pre, B.notSynchronized⟩
  obtain ⟨hx, hb, hr, hml, hown, hts, hlk⟩ := id C0
  have hl := lv_entry ([.ref (g 0), .int p0]) (n := 2) (Nat.le_of_ble_eq_true rfl)
  rw [lg_entry_eq]
  generalize (lg_sl ([.ref (g 0), .int p0]) ++ List.replicate (2 - (lg_sl ([.ref (g 0), .int p0])).length) Slot.unset).toArray = ls at hl ⊢
  have hl : lv_has ls 2 [(0, .ref (g 0)), (1, .int p0)] := hl
  rw [fX10_isPalace] at hf
  refine lv_aload_n hx hb dX10_isPalace_0 rfl (lv_at hl 0 rfl) ?_
  refine j_get I hx hb hts iw_X10_isPalace_X10 hown 0 (by decide) (km0 g Y _) rfl 1 (by decide) (hts (.fieldLink RX10 7 "ReelNightModel" "kind" "[I") (by decide +kernel)) rfl dX10_isPalace_1 ?_
  refine lv_iload_n hx hb dX10_isPalace_4 rfl (lv_at hl 1 rfl) ?_
  obtain ⟨b1, hf⟩ := o_nb hf
  refine j_ald I hx hb 1 (by decide) (km1 g Y _) b1 dX10_isPalace_5 ?_
  refine lv_iconst (v := 1) hx hb dX10_isPalace_6 (by decide) ?_
  refine lv_icmp_eq (tgt := 20) hx hb dX10_isPalace_7 (by decide) (fun c2 => ?_) (fun c2 => ?_)
  · have hf := i_t c2 hf
    refine lv_iconst (v := 1) hx hb dX10_isPalace_20 (by decide) ?_
    refine lv_goto (tgt := 25) hx hb dX10_isPalace_21 (by decide) ?_
    exact j_iret I hx hb hr rfl hlk hf dX10_isPalace_25
  · have hf := i_f c2 hf
    refine lv_aload_n hx hb dX10_isPalace_10 rfl (lv_at hl 0 rfl) ?_
    refine j_get I hx hb hts iw_X10_isPalace_X10 hown 0 (by decide) (km0 g Y _) rfl 1 (by decide) (hts (.fieldLink RX10 7 "ReelNightModel" "kind" "[I") (by decide +kernel)) rfl dX10_isPalace_11 ?_
    refine lv_iload_n hx hb dX10_isPalace_14 rfl (lv_at hl 1 rfl) ?_
    obtain ⟨b3, hf⟩ := o_nb hf
    refine j_ald I hx hb 1 (by decide) (km1 g Y _) b3 dX10_isPalace_15 ?_
    refine lv_iconst (v := 3) hx hb dX10_isPalace_16 (by decide) ?_
    refine lv_icmp_ne (tgt := 24) hx hb dX10_isPalace_17 (by decide) (fun c4 => ?_) (fun c4 => ?_)
    · have hf := i_f c4 hf
      refine lv_iconst (v := 0) hx hb dX10_isPalace_24 (by decide) ?_
      exact j_iret I hx hb hr rfl hlk hf dX10_isPalace_25
    · have hf := i_t c4 hf
      refine lv_iconst (v := 1) hx hb dX10_isPalace_20 (by decide) ?_
      refine lv_goto (tgt := 25) hx hb dX10_isPalace_21 (by decide) ?_
      exact j_iret I hx hb hr rfl hlk hf dX10_isPalace_25

theorem iw_X10_isOf_X10 : ∀ w ∈ u_ws RX10 TX10 37, w ∈ wsX10_isOf := by decide +kernel
set_option maxHeartbeats 4000000 in
set_option maxRecDepth 100000 in
theorem ct_X10_isOf {l : Launch} {D : va_G} {g : Nat → Nat} {Y : YT} {bP : Nat} (σ : St) (p0 : Int32) (p1 : Int32) (res : St × Int32) (hf : fX10_isOf σ p0 p1 = some res) : Ci l yX10_isOf wsX10_isOf ⟨2, 0, 0, 43⟩ D 27 g (KM g Y) Y bP [.ref (g 0), .int p0, .int p1] σ res := by
  intro sz
  refine Met.ofW (cc := cX10_isOf) (maxL := 3) (ret := (some .int)) (by decide) rfl ?_
  intro p e s m args below meth c s₁ B hml hv
  obtain ⟨rfl, rfl, I⟩ := j_start hv
  have C0 : MC p s m _ meth c cX10_isOf 3 (some .int) RX10 wsX10_isOf := ⟨B.exec, B.bytes, B.returns, hml, findClass_of_methodNamed B.named, atoms_spec (ws := wsX10_isOf) B.pre, B.notSynchronized⟩
  obtain ⟨hx, hb, hr, hml, hown, hts, hlk⟩ := id C0
  have hl := lv_entry ([.ref (g 0), .int p0, .int p1]) (n := 3) (Nat.le_of_ble_eq_true rfl)
  rw [lg_entry_eq]
  generalize (lg_sl ([.ref (g 0), .int p0, .int p1]) ++ List.replicate (3 - (lg_sl ([.ref (g 0), .int p0, .int p1])).length) Slot.unset).toArray = ls at hl ⊢
  have hl : lv_has ls 3 [(0, .ref (g 0)), (1, .int p0), (2, .int p1)] := hl
  rw [fX10_isOf] at hf
  refine lv_aload_n hx hb dX10_isOf_0 rfl (lv_at hl 0 rfl) ?_
  refine lv_iload_n hx hb dX10_isOf_1 rfl (lv_at hl 1 rfl) ?_
  obtain ⟨σ1, r2, h3, hf⟩ := o_obn hf
  refine j_iV (rest := []) I ⟨hx, hb, hml, hown, hts⟩ (ct_X10_isHouse σ p0 _ h3) (cwV 1 hts gX10_isOf_X10_isHouse rfl rfl rfl (by decide +kernel) ⟨Nat.le_of_ble_eq_true rfl, Nat.le_of_ble_eq_true rfl⟩) (by decide) (km0 g Y _) rfl rfl hl.1 rfl (Nat.le_of_ble_eq_true rfl) dX10_isOf_2 ⟨Nat.zero_le _, Nat.zero_le _⟩ (fun H locs I => ?_)
  refine lv_if_eq (tgt := 17) hx hb dX10_isOf_5 (by decide) (fun c4 => ?_) (fun c4 => ?_)
  · have hf := i_t c4 hf
    refine lv_ldc hx hb hown (hts (.constant RX10 109 (-1000000001)) (by decide +kernel)) dX10_isOf_17 ?_
    exact j_iret I hx hb hr rfl hlk hf dX10_isOf_19
  · have hf := i_f c4 hf
    refine lv_iload_n hx hb dX10_isOf_8 rfl (lv_at hl 2 rfl) ?_
    refine lv_iconst (v := 0) hx hb dX10_isOf_9 (by decide) ?_
    refine lv_iconst (v := 3) hx hb dX10_isOf_10 (by decide) ?_
    obtain ⟨σ5, r6, h7, hf⟩ := o_obn hf
    refine j_iS (rest := []) I ⟨hx, hb, hml, hown, hts⟩ (ct_X10_isIn σ1 p1 0 3 _ h7) (va_cwS 3 hts gX10_isOf_X10_isIn rfl rfl rfl (by decide +kernel) ⟨Nat.le_of_ble_eq_true rfl, Nat.le_of_ble_eq_true rfl⟩) rfl hl.1 rfl (Nat.le_of_ble_eq_true rfl) dX10_isOf_11 ⟨Nat.zero_le _, Nat.zero_le _⟩ (fun H locs I => ?_)
    refine lv_if_ne (tgt := 20) hx hb dX10_isOf_14 (by decide) (fun c8 => ?_) (fun c8 => ?_)
    · have hf := i_f c8 hf
      refine lv_iload_n hx hb dX10_isOf_20 rfl (lv_at hl 2 rfl) ?_
      refine lv_if_eq (tgt := 47) hx hb dX10_isOf_21 (by decide) (fun c9 => ?_) (fun c9 => ?_)
      · have hf := i_t c9 hf
        refine lv_iconst (v := 1) hx hb dX10_isOf_47 (by decide) ?_
        refine lv_goto (tgt := 52) hx hb dX10_isOf_48 (by decide) ?_
        exact j_iret I hx hb hr rfl hlk hf dX10_isOf_52
      · have hf := i_f c9 hf
        refine lv_aload_n hx hb dX10_isOf_24 rfl (lv_at hl 0 rfl) ?_
        refine j_get I hx hb hts iw_X10_isOf_X10 hown 0 (by decide) (km0 g Y _) rfl 1 (by decide) (hts (.fieldLink RX10 7 "ReelNightModel" "kind" "[I") (by decide +kernel)) rfl dX10_isOf_25 ?_
        refine lv_iload_n hx hb dX10_isOf_28 rfl (lv_at hl 1 rfl) ?_
        obtain ⟨b10, hf⟩ := o_nb hf
        refine j_ald I hx hb 1 (by decide) (km1 g Y _) b10 dX10_isOf_29 ?_
        refine lv_iload_n hx hb dX10_isOf_30 rfl (lv_at hl 2 rfl) ?_
        refine lv_icmp_eq (tgt := 47) hx hb dX10_isOf_31 (by decide) (fun c11 => ?_) (fun c11 => ?_)
        · have hf := i_t c11 hf
          refine lv_iconst (v := 1) hx hb dX10_isOf_47 (by decide) ?_
          refine lv_goto (tgt := 52) hx hb dX10_isOf_48 (by decide) ?_
          exact j_iret I hx hb hr rfl hlk hf dX10_isOf_52
        · have hf := i_f c11 hf
          refine lv_iload_n hx hb dX10_isOf_34 rfl (lv_at hl 2 rfl) ?_
          refine lv_iconst (v := 1) hx hb dX10_isOf_35 (by decide) ?_
          refine lv_icmp_ne (tgt := 51) hx hb dX10_isOf_36 (by decide) (fun c12 => ?_) (fun c12 => ?_)
          · have hf := i_f c12 hf
            refine lv_iconst (v := 0) hx hb dX10_isOf_51 (by decide) ?_
            exact j_iret I hx hb hr rfl hlk hf dX10_isOf_52
          · have hf := i_t c12 hf
            refine lv_aload_n hx hb dX10_isOf_39 rfl (lv_at hl 0 rfl) ?_
            refine lv_iload_n hx hb dX10_isOf_40 rfl (lv_at hl 1 rfl) ?_
            obtain ⟨σ13, r14, h15, hf⟩ := o_obn hf
            refine j_iV (rest := []) I ⟨hx, hb, hml, hown, hts⟩ (ct_X10_isPalace σ5 p0 _ h15) (cwV 1 hts gX10_isOf_X10_isPalace rfl rfl rfl (by decide +kernel) ⟨Nat.le_of_ble_eq_true rfl, Nat.le_of_ble_eq_true rfl⟩) (by decide) (km0 g Y _) rfl rfl hl.1 rfl (Nat.le_of_ble_eq_true rfl) dX10_isOf_41 ⟨Nat.zero_le _, Nat.zero_le _⟩ (fun H locs I => ?_)
            refine lv_if_eq (tgt := 51) hx hb dX10_isOf_44 (by decide) (fun c16 => ?_) (fun c16 => ?_)
            · have hf := i_t c16 hf
              refine lv_iconst (v := 0) hx hb dX10_isOf_51 (by decide) ?_
              exact j_iret I hx hb hr rfl hlk hf dX10_isOf_52
            · have hf := i_f c16 hf
              refine lv_iconst (v := 1) hx hb dX10_isOf_47 (by decide) ?_
              refine lv_goto (tgt := 52) hx hb dX10_isOf_48 (by decide) ?_
              exact j_iret I hx hb hr rfl hlk hf dX10_isOf_52
    · have hf := i_t c8 hf
      refine lv_ldc hx hb hown (hts (.constant RX10 109 (-1000000001)) (by decide +kernel)) dX10_isOf_17 ?_
      exact j_iret I hx hb hr rfl hlk hf dX10_isOf_19

theorem iw_X10_way_X10 : ∀ w ∈ u_ws RX10 TX10 37, w ∈ wsX10_way := by decide +kernel
set_option maxHeartbeats 4000000 in
set_option maxRecDepth 100000 in
theorem ct_X10_way {l : Launch} {D : va_G} {g : Nat → Nat} {Y : YT} {bP : Nat} (σ : St) (p0 : Int32) (p1 : Int32) (p2 : Int32) (res : St × Int32) (hf : fX10_way σ p0 p1 p2 = some res) : Ci l yX10_way wsX10_way ⟨2, 0, 0, 43⟩ D 27 g (KM g Y) Y bP [.ref (g 0), .int p0, .int p1, .int p2] σ res := by
  intro sz
  refine Met.ofW (cc := cX10_way) (maxL := 5) (ret := (some .int)) (by decide) rfl ?_
  intro p e s m args below meth c s₁ B hml hv
  obtain ⟨rfl, rfl, I⟩ := j_start hv
  have C0 : MC p s m _ meth c cX10_way 5 (some .int) RX10 wsX10_way := ⟨B.exec, B.bytes, B.returns, hml, findClass_of_methodNamed B.named, atoms_spec (ws := wsX10_way) B.pre, B.notSynchronized⟩
  obtain ⟨hx, hb, hr, hml, hown, hts, hlk⟩ := id C0
  have hl := lv_entry ([.ref (g 0), .int p0, .int p1, .int p2]) (n := 5) (Nat.le_of_ble_eq_true rfl)
  rw [lg_entry_eq]
  generalize (lg_sl ([.ref (g 0), .int p0, .int p1, .int p2]) ++ List.replicate (5 - (lg_sl ([.ref (g 0), .int p0, .int p1, .int p2])).length) Slot.unset).toArray = ls at hl ⊢
  have hl : lv_has ls 5 [(0, .ref (g 0)), (1, .int p0), (2, .int p1), (3, .int p2)] := hl
  rw [fX10_way] at hf
  refine lv_aload_n hx hb dX10_way_0 rfl (lv_at hl 0 rfl) ?_
  refine lv_iload_n hx hb dX10_way_1 rfl (lv_at hl 1 rfl) ?_
  obtain ⟨σ1, r2, h3, hf⟩ := o_obn hf
  refine j_iV (rest := []) I ⟨hx, hb, hml, hown, hts⟩ (ct_X10_isHouse σ p0 _ h3) (cwV 1 hts gX10_way_X10_isHouse rfl rfl rfl (by decide +kernel) ⟨Nat.le_of_ble_eq_true rfl, Nat.le_of_ble_eq_true rfl⟩) (by decide) (km0 g Y _) rfl rfl hl.1 rfl (Nat.le_of_ble_eq_true rfl) dX10_way_2 ⟨Nat.zero_le _, Nat.zero_le _⟩ (fun H locs I => ?_)
  refine lv_if_eq (tgt := 31) hx hb dX10_way_5 (by decide) (fun c4 => ?_) (fun c4 => ?_)
  · have hf := i_t c4 hf
    refine lv_ldc hx hb hown (hts (.constant RX10 109 (-1000000001)) (by decide +kernel)) dX10_way_31 ?_
    exact j_iret I hx hb hr rfl hlk hf dX10_way_33
  · have hf := i_f c4 hf
    refine lv_aload_n hx hb dX10_way_8 rfl (lv_at hl 0 rfl) ?_
    refine lv_iload_n hx hb dX10_way_9 rfl (lv_at hl 2 rfl) ?_
    obtain ⟨σ5, r6, h7, hf⟩ := o_obn hf
    refine j_iV (rest := []) I ⟨hx, hb, hml, hown, hts⟩ (ct_X10_isHouse σ1 p1 _ h7) (cwV 1 hts gX10_way_X10_isHouse rfl rfl rfl (by decide +kernel) ⟨Nat.le_of_ble_eq_true rfl, Nat.le_of_ble_eq_true rfl⟩) (by decide) (km0 g Y _) rfl rfl hl.1 rfl (Nat.le_of_ble_eq_true rfl) dX10_way_10 ⟨Nat.zero_le _, Nat.zero_le _⟩ (fun H locs I => ?_)
    refine lv_if_eq (tgt := 31) hx hb dX10_way_13 (by decide) (fun c8 => ?_) (fun c8 => ?_)
    · have hf := i_t c8 hf
      refine lv_ldc hx hb hown (hts (.constant RX10 109 (-1000000001)) (by decide +kernel)) dX10_way_31 ?_
      exact j_iret I hx hb hr rfl hlk hf dX10_way_33
    · have hf := i_f c8 hf
      refine lv_iload_n hx hb dX10_way_16 rfl (lv_at hl 1 rfl) ?_
      refine lv_iload_n hx hb dX10_way_17 rfl (lv_at hl 2 rfl) ?_
      refine lv_icmp_eq (tgt := 31) hx hb dX10_way_18 (by decide) (fun c9 => ?_) (fun c9 => ?_)
      · have hf := i_t c9 hf
        refine lv_ldc hx hb hown (hts (.constant RX10 109 (-1000000001)) (by decide +kernel)) dX10_way_31 ?_
        exact j_iret I hx hb hr rfl hlk hf dX10_way_33
      · have hf := i_f c9 hf
        refine lv_iload_n hx hb dX10_way_21 rfl (lv_at hl 3 rfl) ?_
        refine lv_iconst (v := 0) hx hb dX10_way_22 (by decide) ?_
        refine lv_bipush (v := 99) hx hb dX10_way_23 (by decide) ?_
        obtain ⟨σ10, r11, h12, hf⟩ := o_obn hf
        refine j_iS (rest := []) I ⟨hx, hb, hml, hown, hts⟩ (ct_X10_isIn σ5 p2 0 99 _ h12) (va_cwS 3 hts gX10_way_X10_isIn rfl rfl rfl (by decide +kernel) ⟨Nat.le_of_ble_eq_true rfl, Nat.le_of_ble_eq_true rfl⟩) rfl hl.1 rfl (Nat.le_of_ble_eq_true rfl) dX10_way_25 ⟨Nat.zero_le _, Nat.zero_le _⟩ (fun H locs I => ?_)
        refine lv_if_ne (tgt := 34) hx hb dX10_way_28 (by decide) (fun c13 => ?_) (fun c13 => ?_)
        · have hf := i_f c13 hf
          refine lv_aload_n hx hb dX10_way_34 rfl (lv_at hl 0 rfl) ?_
          refine j_get I hx hb hts iw_X10_way_X10 hown 0 (by decide) (km0 g Y _) rfl 5 (by decide) (hts (.fieldLink RX10 22 "ReelNightModel" "ways" "[I") (by decide +kernel)) rfl dX10_way_35 ?_
          refine lv_bipush (v := 6) hx hb dX10_way_38 (by decide) ?_
          refine lv_iload_n hx hb dX10_way_40 rfl (lv_at hl 1 rfl) ?_
          refine lv_imul hx hb dX10_way_41 ?_
          refine lv_iload_n hx hb dX10_way_42 rfl (lv_at hl 2 rfl) ?_
          refine lv_iadd hx hb dX10_way_43 ?_
          obtain ⟨b14, hf⟩ := o_nb hf
          refine j_ald I hx hb 5 (by decide) (km5 g Y _) b14 dX10_way_44 ?_
          obtain ⟨v15, ev15, hf⟩ := o_itp hf
          refine top_eq ev15 ?_
          refine lv_istore (lv' := [(4, .int v15), (0, .ref (g 0)), (1, .int p0), (2, .int p1), (3, .int p2)]) hx hb dX10_way_45 hl (by decide) rfl (fun ls hl => ?_)
          refine lv_aload_n hx hb dX10_way_47 rfl (lv_at hl 1 rfl) ?_
          refine j_get I hx hb hts iw_X10_way_X10 hown 0 (by decide) (km0 g Y _) rfl 5 (by decide) (hts (.fieldLink RX10 22 "ReelNightModel" "ways" "[I") (by decide +kernel)) rfl dX10_way_48 ?_
          refine lv_bipush (v := 6) hx hb dX10_way_51 (by decide) ?_
          refine lv_iload_n hx hb dX10_way_53 rfl (lv_at hl 2 rfl) ?_
          refine lv_imul hx hb dX10_way_54 ?_
          refine lv_iload_n hx hb dX10_way_55 rfl (lv_at hl 3 rfl) ?_
          refine lv_iadd hx hb dX10_way_56 ?_
          refine lv_iload_n hx hb dX10_way_57 rfl (lv_at hl 4 rfl) ?_
          obtain ⟨b16, hf⟩ := o_nb hf
          obtain ⟨σ17, eσ17, hf⟩ := o_stp hf
          refine j_ast I hx hb 5 (by decide) (km5 g Y) b16 eσ17 dX10_way_58 (fun H locs I => ?_)
          refine lv_aload_n hx hb dX10_way_59 rfl (lv_at hl 1 rfl) ?_
          refine j_get I hx hb hts iw_X10_way_X10 hown 0 (by decide) (km0 g Y _) rfl 5 (by decide) (hts (.fieldLink RX10 22 "ReelNightModel" "ways" "[I") (by decide +kernel)) rfl dX10_way_60 ?_
          refine lv_bipush (v := 6) hx hb dX10_way_63 (by decide) ?_
          refine lv_iload_n hx hb dX10_way_65 rfl (lv_at hl 3 rfl) ?_
          refine lv_imul hx hb dX10_way_66 ?_
          refine lv_iload_n hx hb dX10_way_67 rfl (lv_at hl 2 rfl) ?_
          refine lv_iadd hx hb dX10_way_68 ?_
          refine lv_iload_n hx hb dX10_way_69 rfl (lv_at hl 4 rfl) ?_
          obtain ⟨b18, hf⟩ := o_nb hf
          obtain ⟨σ19, eσ19, hf⟩ := o_stp hf
          refine j_ast I hx hb 5 (by decide) (km5 g Y) b18 eσ19 dX10_way_70 (fun H locs I => ?_)
          refine lv_iload hx hb dX10_way_71 (lv_at hl 0 rfl) ?_
          exact j_iret I hx hb hr rfl hlk hf dX10_way_73
        · have hf := i_t c13 hf
          refine lv_ldc hx hb hown (hts (.constant RX10 109 (-1000000001)) (by decide +kernel)) dX10_way_31 ?_
          exact j_iret I hx hb hr rfl hlk hf dX10_way_33

theorem iw_X10_slack_X10 : ∀ w ∈ u_ws RX10 TX10 37, w ∈ wsX10_slack := by decide +kernel
set_option maxHeartbeats 4000000 in
set_option maxRecDepth 100000 in
theorem ct_X10_slack {l : Launch} {D : va_G} {g : Nat → Nat} {Y : YT} {bP : Nat} (σ : St) (p0 : Int32) (p1 : Int32) (res : St × Int32) (hf : fX10_slack σ p0 p1 = some res) : Ci l yX10_slack wsX10_slack ⟨2, 0, 0, 43⟩ D 27 g (KM g Y) Y bP [.ref (g 0), .int p0, .int p1] σ res := by
  intro sz
  refine Met.ofW (cc := cX10_slack) (maxL := 4) (ret := (some .int)) (by decide) rfl ?_
  intro p e s m args below meth c s₁ B hml hv
  obtain ⟨rfl, rfl, I⟩ := j_start hv
  have C0 : MC p s m _ meth c cX10_slack 4 (some .int) RX10 wsX10_slack := ⟨B.exec, B.bytes, B.returns, hml, findClass_of_methodNamed B.named, atoms_spec (ws := wsX10_slack) B.pre, B.notSynchronized⟩
  obtain ⟨hx, hb, hr, hml, hown, hts, hlk⟩ := id C0
  have hl := lv_entry ([.ref (g 0), .int p0, .int p1]) (n := 4) (Nat.le_of_ble_eq_true rfl)
  rw [lg_entry_eq]
  generalize (lg_sl ([.ref (g 0), .int p0, .int p1]) ++ List.replicate (4 - (lg_sl ([.ref (g 0), .int p0, .int p1])).length) Slot.unset).toArray = ls at hl ⊢
  have hl : lv_has ls 4 [(0, .ref (g 0)), (1, .int p0), (2, .int p1)] := hl
  rw [fX10_slack] at hf
  refine lv_aload_n hx hb dX10_slack_0 rfl (lv_at hl 0 rfl) ?_
  refine lv_iload_n hx hb dX10_slack_1 rfl (lv_at hl 1 rfl) ?_
  obtain ⟨σ1, r2, h3, hf⟩ := o_obn hf
  refine j_iV (rest := []) I ⟨hx, hb, hml, hown, hts⟩ (ct_X10_isHouse σ p0 _ h3) (cwV 1 hts gX10_slack_X10_isHouse rfl rfl rfl (by decide +kernel) ⟨Nat.le_of_ble_eq_true rfl, Nat.le_of_ble_eq_true rfl⟩) (by decide) (km0 g Y _) rfl rfl hl.1 rfl (Nat.le_of_ble_eq_true rfl) dX10_slack_2 ⟨Nat.zero_le _, Nat.zero_le _⟩ (fun H locs I => ?_)
  refine lv_if_eq (tgt := 18) hx hb dX10_slack_5 (by decide) (fun c4 => ?_) (fun c4 => ?_)
  · have hf := i_t c4 hf
    refine lv_ldc hx hb hown (hts (.constant RX10 109 (-1000000001)) (by decide +kernel)) dX10_slack_18 ?_
    exact j_iret I hx hb hr rfl hlk hf dX10_slack_20
  · have hf := i_f c4 hf
    refine lv_iload_n hx hb dX10_slack_8 rfl (lv_at hl 2 rfl) ?_
    refine lv_iconst (v := 0) hx hb dX10_slack_9 (by decide) ?_
    refine lv_bipush (v := 9) hx hb dX10_slack_10 (by decide) ?_
    obtain ⟨σ5, r6, h7, hf⟩ := o_obn hf
    refine j_iS (rest := []) I ⟨hx, hb, hml, hown, hts⟩ (ct_X10_isIn σ1 p1 0 9 _ h7) (va_cwS 3 hts gX10_slack_X10_isIn rfl rfl rfl (by decide +kernel) ⟨Nat.le_of_ble_eq_true rfl, Nat.le_of_ble_eq_true rfl⟩) rfl hl.1 rfl (Nat.le_of_ble_eq_true rfl) dX10_slack_12 ⟨Nat.zero_le _, Nat.zero_le _⟩ (fun H locs I => ?_)
    refine lv_if_ne (tgt := 21) hx hb dX10_slack_15 (by decide) (fun c8 => ?_) (fun c8 => ?_)
    · have hf := i_f c8 hf
      refine lv_aload_n hx hb dX10_slack_21 rfl (lv_at hl 0 rfl) ?_
      refine j_get I hx hb hts iw_X10_slack_X10 hown 0 (by decide) (km0 g Y _) rfl 3 (by decide) (hts (.fieldLink RX10 16 "ReelNightModel" "slacks" "[I") (by decide +kernel)) rfl dX10_slack_22 ?_
      refine lv_iload_n hx hb dX10_slack_25 rfl (lv_at hl 1 rfl) ?_
      obtain ⟨b9, hf⟩ := o_nb hf
      refine j_ald I hx hb 3 (by decide) (km3 g Y _) b9 dX10_slack_26 ?_
      obtain ⟨v10, ev10, hf⟩ := o_itp hf
      refine top_eq ev10 ?_
      refine lv_istore_n (lv' := [(3, .int v10), (0, .ref (g 0)), (1, .int p0), (2, .int p1)]) hx hb dX10_slack_27 rfl hl (by decide) rfl (fun ls hl => ?_)
      refine lv_aload_n hx hb dX10_slack_28 rfl (lv_at hl 1 rfl) ?_
      refine j_get I hx hb hts iw_X10_slack_X10 hown 0 (by decide) (km0 g Y _) rfl 3 (by decide) (hts (.fieldLink RX10 16 "ReelNightModel" "slacks" "[I") (by decide +kernel)) rfl dX10_slack_29 ?_
      refine lv_iload_n hx hb dX10_slack_32 rfl (lv_at hl 2 rfl) ?_
      refine lv_iload_n hx hb dX10_slack_33 rfl (lv_at hl 3 rfl) ?_
      obtain ⟨b11, hf⟩ := o_nb hf
      obtain ⟨σ12, eσ12, hf⟩ := o_stp hf
      refine j_ast I hx hb 3 (by decide) (km3 g Y) b11 eσ12 dX10_slack_34 (fun H locs I => ?_)
      refine lv_iload_n hx hb dX10_slack_35 rfl (lv_at hl 0 rfl) ?_
      exact j_iret I hx hb hr rfl hlk hf dX10_slack_36
    · have hf := i_t c8 hf
      refine lv_ldc hx hb hown (hts (.constant RX10 109 (-1000000001)) (by decide +kernel)) dX10_slack_18 ?_
      exact j_iret I hx hb hr rfl hlk hf dX10_slack_20

theorem iw_X10_reel_X10 : ∀ w ∈ u_ws RX10 TX10 37, w ∈ wsX10_reel := by decide +kernel
set_option maxHeartbeats 4000000 in
set_option maxRecDepth 100000 in
theorem ct_X10_reel {l : Launch} {D : va_G} {g : Nat → Nat} {Y : YT} {bP : Nat} (σ : St) (p0 : Int32) (res : St × Int32) (hf : fX10_reel σ p0 = some res) : Ci l yX10_reel wsX10_reel ⟨1, 0, 0, 22⟩ D 27 g (KM g Y) Y bP [.ref (g 0), .int p0] σ res := by
  intro sz
  refine Met.ofW (cc := cX10_reel) (maxL := 2) (ret := (some .int)) (by decide) rfl ?_
  intro p e s m args below meth c s₁ B hml hv
  obtain ⟨rfl, rfl, I⟩ := j_start hv
  have C0 : MC p s m _ meth c cX10_reel 2 (some .int) RX10 wsX10_reel := ⟨B.exec, B.bytes, B.returns, hml, findClass_of_methodNamed B.named, atoms_spec (ws := wsX10_reel) B.pre, B.notSynchronized⟩
  obtain ⟨hx, hb, hr, hml, hown, hts, hlk⟩ := id C0
  have hl := lv_entry ([.ref (g 0), .int p0]) (n := 2) (Nat.le_of_ble_eq_true rfl)
  rw [lg_entry_eq]
  generalize (lg_sl ([.ref (g 0), .int p0]) ++ List.replicate (2 - (lg_sl ([.ref (g 0), .int p0])).length) Slot.unset).toArray = ls at hl ⊢
  have hl : lv_has ls 2 [(0, .ref (g 0)), (1, .int p0)] := hl
  rw [fX10_reel] at hf
  refine lv_iload_n hx hb dX10_reel_0 rfl (lv_at hl 1 rfl) ?_
  refine lv_iconst (v := 1) hx hb dX10_reel_1 (by decide) ?_
  refine lv_sipush (v := 20000) hx hb dX10_reel_2 (by decide) ?_
  obtain ⟨σ1, r2, h3, hf⟩ := o_obn hf
  refine j_iS (rest := []) I ⟨hx, hb, hml, hown, hts⟩ (ct_X10_isIn σ p0 1 20000 _ h3) (va_cwS 3 hts gX10_reel_X10_isIn rfl rfl rfl (by decide +kernel) ⟨Nat.le_of_ble_eq_true rfl, Nat.le_of_ble_eq_true rfl⟩) rfl hl.1 rfl (Nat.le_of_ble_eq_true rfl) dX10_reel_5 ⟨Nat.zero_le _, Nat.zero_le _⟩ (fun H locs I => ?_)
  refine lv_if_ne (tgt := 14) hx hb dX10_reel_8 (by decide) (fun c4 => ?_) (fun c4 => ?_)
  · have hf := i_f c4 hf
    refine lv_aload_n hx hb dX10_reel_14 rfl (lv_at hl 0 rfl) ?_
    refine j_get I hx hb hts iw_X10_reel_X10 hown 0 (by decide) (km0 g Y _) rfl 7 (by decide) (hts (.fieldLink RX10 106 "ReelNightModel" "reels" "I") (by decide +kernel)) rfl dX10_reel_15 ?_
    refine lv_bipush (v := 8) hx hb dX10_reel_18 (by decide) ?_
    refine lv_icmp_ne (tgt := 26) hx hb dX10_reel_20 (by decide) (fun c5 => ?_) (fun c5 => ?_)
    · have hf := i_f c5 hf
      refine lv_aload_n hx hb dX10_reel_26 rfl (lv_at hl 0 rfl) ?_
      refine j_get I hx hb hts iw_X10_reel_X10 hown 0 (by decide) (km0 g Y _) rfl 8 (by decide) (hts (.fieldLink RX10 28 "ReelNightModel" "frames" "[I") (by decide +kernel)) rfl dX10_reel_27 ?_
      refine lv_aload_n hx hb dX10_reel_30 rfl (lv_at hl 0 rfl) ?_
      refine j_get I hx hb hts iw_X10_reel_X10 hown 0 (by decide) (km0 g Y _) rfl 7 (by decide) (hts (.fieldLink RX10 106 "ReelNightModel" "reels" "I") (by decide +kernel)) rfl dX10_reel_31 ?_
      refine lv_iload_n hx hb dX10_reel_34 rfl (lv_at hl 1 rfl) ?_
      obtain ⟨b6, hf⟩ := o_nb hf
      obtain ⟨σ7, eσ7, hf⟩ := o_stp hf
      refine j_ast I hx hb 7 (by decide) (km7 g Y) b6 eσ7 dX10_reel_35 (fun H locs I => ?_)
      refine lv_aload_n hx hb dX10_reel_36 rfl (lv_at hl 0 rfl) ?_
      refine j_get I hx hb hts iw_X10_reel_X10 hown 0 (by decide) (km0 g Y _) rfl 9 (by decide) (hts (.fieldLink RX10 31 "ReelNightModel" "mends" "[I") (by decide +kernel)) rfl dX10_reel_37 ?_
      refine lv_aload_n hx hb dX10_reel_40 rfl (lv_at hl 0 rfl) ?_
      refine j_get I hx hb hts iw_X10_reel_X10 hown 0 (by decide) (km0 g Y _) rfl 7 (by decide) (hts (.fieldLink RX10 106 "ReelNightModel" "reels" "I") (by decide +kernel)) rfl dX10_reel_41 ?_
      refine lv_iconst (v := 0) hx hb dX10_reel_44 (by decide) ?_
      obtain ⟨b8, hf⟩ := o_nb hf
      obtain ⟨σ9, eσ9, hf⟩ := o_stp hf
      refine j_ast I hx hb 8 (by decide) (km8 g Y) b8 eσ9 dX10_reel_45 (fun H locs I => ?_)
      refine lv_aload_n hx hb dX10_reel_46 rfl (lv_at hl 0 rfl) ?_
      refine lv_dup hx hb dX10_reel_47 rfl ?_
      refine j_get I hx hb hts iw_X10_reel_X10 hown 0 (by decide) (km0 g Y _) rfl 7 (by decide) (hts (.fieldLink RX10 106 "ReelNightModel" "reels" "I") (by decide +kernel)) rfl dX10_reel_48 ?_
      refine lv_iconst (v := 1) hx hb dX10_reel_51 (by decide) ?_
      refine lv_iadd hx hb dX10_reel_52 ?_
      obtain ⟨σ10, eσ10, hf⟩ := o_stp hf
      refine j_put I hx hb hts iw_X10_reel_X10 tyX10 tyX10_ok nmX10 hown 0 (by decide) (km0 g Y _) rfl 7 (by decide) (hts (.fieldLink RX10 106 "ReelNightModel" "reels" "I") (by decide +kernel)) rfl rfl rfl (Nat.le_of_ble_eq_true rfl) (kms0_7 g Y _ _) eσ10 dX10_reel_53 (fun H locs I => ?_)
      refine lv_aload_n hx hb dX10_reel_56 rfl (lv_at hl 0 rfl) ?_
      refine lv_iconst (v := 0) hx hb dX10_reel_57 (by decide) ?_
      obtain ⟨σ11, eσ11, hf⟩ := o_stp hf
      refine j_put I hx hb hts iw_X10_reel_X10 tyX10 tyX10_ok nmX10 hown 0 (by decide) (km0 g Y _) rfl 10 (by decide) (hts (.fieldLink RX10 118 "ReelNightModel" "many" "I") (by decide +kernel)) rfl rfl rfl (Nat.le_of_ble_eq_true rfl) (kms0_10 g Y _ _) eσ11 dX10_reel_58 (fun H locs I => ?_)
      refine lv_aload_n hx hb dX10_reel_61 rfl (lv_at hl 0 rfl) ?_
      refine j_get I hx hb hts iw_X10_reel_X10 hown 0 (by decide) (km0 g Y _) rfl 7 (by decide) (hts (.fieldLink RX10 106 "ReelNightModel" "reels" "I") (by decide +kernel)) rfl dX10_reel_62 ?_
      refine lv_iconst (v := 1) hx hb dX10_reel_65 (by decide) ?_
      refine lv_isub hx hb dX10_reel_66 ?_
      exact j_iret I hx hb hr rfl hlk hf dX10_reel_67
    · have hf := i_t c5 hf
      refine lv_ldc hx hb hown (hts (.constant RX10 110 (-1000000003)) (by decide +kernel)) dX10_reel_23 ?_
      exact j_iret I hx hb hr rfl hlk hf dX10_reel_25
  · have hf := i_t c4 hf
    refine lv_ldc hx hb hown (hts (.constant RX10 109 (-1000000001)) (by decide +kernel)) dX10_reel_11 ?_
    exact j_iret I hx hb hr rfl hlk hf dX10_reel_13

theorem iw_X10_mend_X10 : ∀ w ∈ u_ws RX10 TX10 37, w ∈ wsX10_mend := by decide +kernel
set_option maxHeartbeats 4000000 in
set_option maxRecDepth 100000 in
theorem ct_X10_mend {l : Launch} {D : va_G} {g : Nat → Nat} {Y : YT} {bP : Nat} (σ : St) (p0 : Int32) (p1 : Int32) (res : St × Int32) (hf : fX10_mend σ p0 p1 = some res) : Ci l yX10_mend wsX10_mend ⟨2, 0, 0, 43⟩ D 27 g (KM g Y) Y bP [.ref (g 0), .int p0, .int p1] σ res := by
  intro sz
  refine Met.ofW (cc := cX10_mend) (maxL := 3) (ret := (some .int)) (by decide) rfl ?_
  intro p e s m args below meth c s₁ B hml hv
  obtain ⟨rfl, rfl, I⟩ := j_start hv
  have C0 : MC p s m _ meth c cX10_mend 3 (some .int) RX10 wsX10_mend := ⟨B.exec, B.bytes, B.returns, hml, findClass_of_methodNamed B.named, atoms_spec (ws := wsX10_mend) B.pre, B.notSynchronized⟩
  obtain ⟨hx, hb, hr, hml, hown, hts, hlk⟩ := id C0
  have hl := lv_entry ([.ref (g 0), .int p0, .int p1]) (n := 3) (Nat.le_of_ble_eq_true rfl)
  rw [lg_entry_eq]
  generalize (lg_sl ([.ref (g 0), .int p0, .int p1]) ++ List.replicate (3 - (lg_sl ([.ref (g 0), .int p0, .int p1])).length) Slot.unset).toArray = ls at hl ⊢
  have hl : lv_has ls 3 [(0, .ref (g 0)), (1, .int p0), (2, .int p1)] := hl
  rw [fX10_mend] at hf
  refine lv_aload_n hx hb dX10_mend_0 rfl (lv_at hl 0 rfl) ?_
  refine lv_iload_n hx hb dX10_mend_1 rfl (lv_at hl 1 rfl) ?_
  obtain ⟨σ1, r2, h3, hf⟩ := o_obn hf
  refine j_iV (rest := []) I ⟨hx, hb, hml, hown, hts⟩ (ct_X10_isReel σ p0 _ h3) (cwV 1 hts gX10_mend_X10_isReel rfl rfl rfl (by decide +kernel) ⟨Nat.le_of_ble_eq_true rfl, Nat.le_of_ble_eq_true rfl⟩) (by decide) (km0 g Y _) rfl rfl hl.1 rfl (Nat.le_of_ble_eq_true rfl) dX10_mend_2 ⟨Nat.zero_le _, Nat.zero_le _⟩ (fun H locs I => ?_)
  refine lv_if_eq (tgt := 19) hx hb dX10_mend_5 (by decide) (fun c4 => ?_) (fun c4 => ?_)
  · have hf := i_t c4 hf
    refine lv_ldc hx hb hown (hts (.constant RX10 109 (-1000000001)) (by decide +kernel)) dX10_mend_19 ?_
    exact j_iret I hx hb hr rfl hlk hf dX10_mend_21
  · have hf := i_f c4 hf
    refine lv_iload_n hx hb dX10_mend_8 rfl (lv_at hl 2 rfl) ?_
    refine lv_iconst (v := 1) hx hb dX10_mend_9 (by decide) ?_
    refine lv_sipush (v := 20000) hx hb dX10_mend_10 (by decide) ?_
    obtain ⟨σ5, r6, h7, hf⟩ := o_obn hf
    refine j_iS (rest := []) I ⟨hx, hb, hml, hown, hts⟩ (ct_X10_isIn σ1 p1 1 20000 _ h7) (va_cwS 3 hts gX10_mend_X10_isIn rfl rfl rfl (by decide +kernel) ⟨Nat.le_of_ble_eq_true rfl, Nat.le_of_ble_eq_true rfl⟩) rfl hl.1 rfl (Nat.le_of_ble_eq_true rfl) dX10_mend_13 ⟨Nat.zero_le _, Nat.zero_le _⟩ (fun H locs I => ?_)
    refine lv_if_ne (tgt := 22) hx hb dX10_mend_16 (by decide) (fun c8 => ?_) (fun c8 => ?_)
    · have hf := i_f c8 hf
      refine lv_aload_n hx hb dX10_mend_22 rfl (lv_at hl 0 rfl) ?_
      refine j_get I hx hb hts iw_X10_mend_X10 hown 0 (by decide) (km0 g Y _) rfl 8 (by decide) (hts (.fieldLink RX10 28 "ReelNightModel" "frames" "[I") (by decide +kernel)) rfl dX10_mend_23 ?_
      refine lv_iload_n hx hb dX10_mend_26 rfl (lv_at hl 1 rfl) ?_
      refine lv_aload_n hx hb dX10_mend_27 rfl (lv_at hl 0 rfl) ?_
      refine j_get I hx hb hts iw_X10_mend_X10 hown 0 (by decide) (km0 g Y _) rfl 8 (by decide) (hts (.fieldLink RX10 28 "ReelNightModel" "frames" "[I") (by decide +kernel)) rfl dX10_mend_28 ?_
      refine lv_iload_n hx hb dX10_mend_31 rfl (lv_at hl 1 rfl) ?_
      obtain ⟨b9, hf⟩ := o_nb hf
      refine j_ald I hx hb 7 (by decide) (km7 g Y _) b9 dX10_mend_32 ?_
      refine lv_iload_n hx hb dX10_mend_33 rfl (lv_at hl 2 rfl) ?_
      refine lv_icmp_le (tgt := 48) hx hb dX10_mend_34 (by decide) (fun c10 => ?_) (fun c10 => ?_)
      · have hf := i_t c10 hf
        refine lv_iconst (v := 1) hx hb dX10_mend_48 (by decide) ?_
        obtain ⟨b11, hf⟩ := o_nb hf
        obtain ⟨σ12, eσ12, hf⟩ := o_stp hf
        refine j_ast I hx hb 7 (by decide) (km7 g Y) b11 eσ12 dX10_mend_49 (fun H locs I => ?_)
        refine lv_aload_n hx hb dX10_mend_50 rfl (lv_at hl 0 rfl) ?_
        refine j_get I hx hb hts iw_X10_mend_X10 hown 0 (by decide) (km0 g Y _) rfl 9 (by decide) (hts (.fieldLink RX10 31 "ReelNightModel" "mends" "[I") (by decide +kernel)) rfl dX10_mend_51 ?_
        refine lv_iload_n hx hb dX10_mend_54 rfl (lv_at hl 1 rfl) ?_
        refine lv_dup2_11 hx hb dX10_mend_55 rfl rfl ?_
        obtain ⟨b13, hf⟩ := o_nb hf
        refine j_ald I hx hb 8 (by decide) (km8 g Y _) b13 dX10_mend_56 ?_
        refine lv_iconst (v := 1) hx hb dX10_mend_57 (by decide) ?_
        refine lv_iadd hx hb dX10_mend_58 ?_
        obtain ⟨b14, hf⟩ := o_nb hf
        obtain ⟨σ15, eσ15, hf⟩ := o_stp hf
        refine j_ast I hx hb 8 (by decide) (km8 g Y) b14 eσ15 dX10_mend_59 (fun H locs I => ?_)
        refine lv_aload_n hx hb dX10_mend_60 rfl (lv_at hl 0 rfl) ?_
        refine j_get I hx hb hts iw_X10_mend_X10 hown 0 (by decide) (km0 g Y _) rfl 8 (by decide) (hts (.fieldLink RX10 28 "ReelNightModel" "frames" "[I") (by decide +kernel)) rfl dX10_mend_61 ?_
        refine lv_iload_n hx hb dX10_mend_64 rfl (lv_at hl 1 rfl) ?_
        obtain ⟨b16, hf⟩ := o_nb hf
        refine j_ald I hx hb 7 (by decide) (km7 g Y _) b16 dX10_mend_65 ?_
        exact j_iret I hx hb hr rfl hlk hf dX10_mend_66
      · have hf := i_f c10 hf
        refine lv_aload_n hx hb dX10_mend_37 rfl (lv_at hl 0 rfl) ?_
        refine j_get I hx hb hts iw_X10_mend_X10 hown 0 (by decide) (km0 g Y _) rfl 8 (by decide) (hts (.fieldLink RX10 28 "ReelNightModel" "frames" "[I") (by decide +kernel)) rfl dX10_mend_38 ?_
        refine lv_iload_n hx hb dX10_mend_41 rfl (lv_at hl 1 rfl) ?_
        obtain ⟨b17, hf⟩ := o_nb hf
        refine j_ald I hx hb 7 (by decide) (km7 g Y _) b17 dX10_mend_42 ?_
        refine lv_iload_n hx hb dX10_mend_43 rfl (lv_at hl 2 rfl) ?_
        refine lv_isub hx hb dX10_mend_44 ?_
        refine lv_goto (tgt := 49) hx hb dX10_mend_45 (by decide) ?_
        obtain ⟨b18, hf⟩ := o_nb hf
        obtain ⟨σ19, eσ19, hf⟩ := o_stp hf
        refine j_ast I hx hb 7 (by decide) (km7 g Y) b18 eσ19 dX10_mend_49 (fun H locs I => ?_)
        refine lv_aload_n hx hb dX10_mend_50 rfl (lv_at hl 0 rfl) ?_
        refine j_get I hx hb hts iw_X10_mend_X10 hown 0 (by decide) (km0 g Y _) rfl 9 (by decide) (hts (.fieldLink RX10 31 "ReelNightModel" "mends" "[I") (by decide +kernel)) rfl dX10_mend_51 ?_
        refine lv_iload_n hx hb dX10_mend_54 rfl (lv_at hl 1 rfl) ?_
        refine lv_dup2_11 hx hb dX10_mend_55 rfl rfl ?_
        obtain ⟨b20, hf⟩ := o_nb hf
        refine j_ald I hx hb 8 (by decide) (km8 g Y _) b20 dX10_mend_56 ?_
        refine lv_iconst (v := 1) hx hb dX10_mend_57 (by decide) ?_
        refine lv_iadd hx hb dX10_mend_58 ?_
        obtain ⟨b21, hf⟩ := o_nb hf
        obtain ⟨σ22, eσ22, hf⟩ := o_stp hf
        refine j_ast I hx hb 8 (by decide) (km8 g Y) b21 eσ22 dX10_mend_59 (fun H locs I => ?_)
        refine lv_aload_n hx hb dX10_mend_60 rfl (lv_at hl 0 rfl) ?_
        refine j_get I hx hb hts iw_X10_mend_X10 hown 0 (by decide) (km0 g Y _) rfl 8 (by decide) (hts (.fieldLink RX10 28 "ReelNightModel" "frames" "[I") (by decide +kernel)) rfl dX10_mend_61 ?_
        refine lv_iload_n hx hb dX10_mend_64 rfl (lv_at hl 1 rfl) ?_
        obtain ⟨b23, hf⟩ := o_nb hf
        refine j_ald I hx hb 7 (by decide) (km7 g Y _) b23 dX10_mend_65 ?_
        exact j_iret I hx hb hr rfl hlk hf dX10_mend_66
    · have hf := i_t c8 hf
      refine lv_ldc hx hb hown (hts (.constant RX10 109 (-1000000001)) (by decide +kernel)) dX10_mend_19 ?_
      exact j_iret I hx hb hr rfl hlk hf dX10_mend_21
