theorem iw_X10_shareOf_X10 : ∀ w ∈ u_ws RX10 TX10 37, w ∈ wsX10_shareOf := by decide +kernel
set_option maxHeartbeats 4000000 in
set_option maxRecDepth 100000 in
theorem ct_X10_shareOf {l : Launch} {D : va_G} {g : Nat → Nat} {Y : YT} {bP : Nat} (σ : St) (p0 : Int32) (p1 : Int32) (res : St × Int32) (hf : fX10_shareOf σ p0 p1 = some res) : Ci l yX10_shareOf wsX10_shareOf ⟨0, 0, 0, 0⟩ D 27 g (KM g Y) Y bP [.ref (g 0), .int p0, .int p1] σ res := by
  intro sz
  refine Met.ofW (cc := cX10_shareOf) (maxL := 5) (ret := (some .int)) (by decide) rfl ?_
  intro p e s m args below meth c s₁ B hml hv
  obtain ⟨rfl, rfl, I⟩ := j_start hv
  have C0 : MC p s m _ meth c cX10_shareOf 5 (some .int) RX10 wsX10_shareOf := ⟨B.exec, B.bytes, B.returns, hml, findClass_of_methodNamed B.named, atoms_spec (ws := wsX10_shareOf) B.pre, B.notSynchronized⟩
  obtain ⟨hx, hb, hr, hml, hown, hts, hlk⟩ := id C0
  have hl := lv_entry ([.ref (g 0), .int p0, .int p1]) (n := 5) (Nat.le_of_ble_eq_true rfl)
  rw [lg_entry_eq]
  generalize (lg_sl ([.ref (g 0), .int p0, .int p1]) ++ List.replicate (5 - (lg_sl ([.ref (g 0), .int p0, .int p1])).length) Slot.unset).toArray = ls at hl ⊢
  have hl : lv_has ls 5 [(0, .ref (g 0)), (1, .int p0), (2, .int p1)] := hl
  rw [fX10_shareOf] at hf
  refine lv_aload_n hx hb dX10_shareOf_0 rfl (lv_at hl 0 rfl) ?_
  refine j_get I hx hb hts iw_X10_shareOf_X10 hown 0 (by decide) (km0 g Y _) rfl 1 (by decide) (hts (.fieldLink RX10 7 "ReelNightModel" "kind" "[I") (by decide +kernel)) rfl dX10_shareOf_1 ?_
  refine lv_iload_n hx hb dX10_shareOf_4 rfl (lv_at hl 1 rfl) ?_
  obtain ⟨b1, hf⟩ := o_nb hf
  refine j_ald I hx hb 1 (by decide) (km1 g Y _) b1 dX10_shareOf_5 ?_
  refine lv_if_ne (tgt := 13) hx hb dX10_shareOf_6 (by decide) (fun c2 => ?_) (fun c2 => ?_)
  · have hf := i_f c2 hf
    refine lv_aload_n hx hb dX10_shareOf_13 rfl (lv_at hl 0 rfl) ?_
    refine j_get I hx hb hts iw_X10_shareOf_X10 hown 0 (by decide) (km0 g Y _) rfl 1 (by decide) (hts (.fieldLink RX10 7 "ReelNightModel" "kind" "[I") (by decide +kernel)) rfl dX10_shareOf_14 ?_
    refine lv_iload_n hx hb dX10_shareOf_17 rfl (lv_at hl 1 rfl) ?_
    obtain ⟨b3, hf⟩ := o_nb hf
    refine j_ald I hx hb 1 (by decide) (km1 g Y _) b3 dX10_shareOf_18 ?_
    refine lv_iconst (v := 1) hx hb dX10_shareOf_19 (by decide) ?_
    refine lv_icmp_ne (tgt := 27) hx hb dX10_shareOf_20 (by decide) (fun c4 => ?_) (fun c4 => ?_)
    · have hf := i_f c4 hf
      refine lv_aload_n hx hb dX10_shareOf_27 rfl (lv_at hl 0 rfl) ?_
      refine j_get I hx hb hts iw_X10_shareOf_X10 hown 0 (by decide) (km0 g Y _) rfl 1 (by decide) (hts (.fieldLink RX10 7 "ReelNightModel" "kind" "[I") (by decide +kernel)) rfl dX10_shareOf_28 ?_
      refine lv_iload_n hx hb dX10_shareOf_31 rfl (lv_at hl 1 rfl) ?_
      obtain ⟨b5, hf⟩ := o_nb hf
      refine j_ald I hx hb 1 (by decide) (km1 g Y _) b5 dX10_shareOf_32 ?_
      refine lv_iconst (v := 2) hx hb dX10_shareOf_33 (by decide) ?_
      refine lv_icmp_ne (tgt := 41) hx hb dX10_shareOf_34 (by decide) (fun c6 => ?_) (fun c6 => ?_)
      · have hf := i_f c6 hf
        refine lv_bipush (v := 8) hx hb dX10_shareOf_41 (by decide) ?_
        refine lv_istore_n (lv' := [(3, .int 8), (0, .ref (g 0)), (1, .int p0), (2, .int p1)]) hx hb dX10_shareOf_43 rfl hl (by decide) rfl (fun ls hl => ?_)
        refine lv_iload_n hx hb dX10_shareOf_44 rfl (lv_at hl 3 rfl) ?_
        refine lv_iload_n hx hb dX10_shareOf_45 rfl (lv_at hl 0 rfl) ?_
        refine lv_imul hx hb dX10_shareOf_46 ?_
        refine lv_aload_n hx hb dX10_shareOf_47 rfl (lv_at hl 1 rfl) ?_
        refine j_get I hx hb hts iw_X10_shareOf_X10 hown 0 (by decide) (km0 g Y _) rfl 17 (by decide) (hts (.fieldLink RX10 49 "ReelNightModel" "percent" "I") (by decide +kernel)) rfl dX10_shareOf_48 ?_
        refine lv_imul hx hb dX10_shareOf_51 ?_
        refine lv_bipush (v := 100) hx hb dX10_shareOf_52 (by decide) ?_
        refine lv_idiv hx hb dX10_shareOf_54 (by decide) ?_
        obtain ⟨v7, ev7, hf⟩ := o_itp hf
        refine top_eq ev7 ?_
        refine lv_istore (lv' := [(4, .int v7), (3, .int 8), (0, .ref (g 0)), (1, .int p0), (2, .int p1)]) hx hb dX10_shareOf_55 hl (by decide) rfl (fun ls hl => ?_)
        refine lv_iload hx hb dX10_shareOf_57 (lv_at hl 0 rfl) ?_
        refine lv_aload_n hx hb dX10_shareOf_59 rfl (lv_at hl 2 rfl) ?_
        refine j_get I hx hb hts iw_X10_shareOf_X10 hown 0 (by decide) (km0 g Y _) rfl 4 (by decide) (hts (.fieldLink RX10 19 "ReelNightModel" "leasts" "[I") (by decide +kernel)) rfl dX10_shareOf_60 ?_
        refine lv_iload_n hx hb dX10_shareOf_63 rfl (lv_at hl 3 rfl) ?_
        obtain ⟨b8, hf⟩ := o_nb hf
        refine j_ald I hx hb 4 (by decide) (km4 g Y _) b8 dX10_shareOf_64 ?_
        refine lv_icmp_ge (tgt := 77) hx hb dX10_shareOf_65 (by decide) (fun c9 => ?_) (fun c9 => ?_)
        · have hf := i_t c9 hf
          refine lv_iload hx hb dX10_shareOf_77 (lv_at hl 0 rfl) ?_
          exact j_iret I hx hb hr rfl hlk hf dX10_shareOf_79
        · have hf := i_f c9 hf
          refine lv_aload_n hx hb dX10_shareOf_68 rfl (lv_at hl 2 rfl) ?_
          refine j_get I hx hb hts iw_X10_shareOf_X10 hown 0 (by decide) (km0 g Y _) rfl 4 (by decide) (hts (.fieldLink RX10 19 "ReelNightModel" "leasts" "[I") (by decide +kernel)) rfl dX10_shareOf_69 ?_
          refine lv_iload_n hx hb dX10_shareOf_72 rfl (lv_at hl 3 rfl) ?_
          obtain ⟨b10, hf⟩ := o_nb hf
          refine j_ald I hx hb 4 (by decide) (km4 g Y _) b10 dX10_shareOf_73 ?_
          refine lv_goto (tgt := 79) hx hb dX10_shareOf_74 (by decide) ?_
          exact j_iret I hx hb hr rfl hlk hf dX10_shareOf_79
      · have hf := i_t c6 hf
        refine lv_iconst (v := 2) hx hb dX10_shareOf_37 (by decide) ?_
        refine lv_goto (tgt := 43) hx hb dX10_shareOf_38 (by decide) ?_
        refine lv_istore_n (lv' := [(3, .int 2), (0, .ref (g 0)), (1, .int p0), (2, .int p1)]) hx hb dX10_shareOf_43 rfl hl (by decide) rfl (fun ls hl => ?_)
        refine lv_iload_n hx hb dX10_shareOf_44 rfl (lv_at hl 3 rfl) ?_
        refine lv_iload_n hx hb dX10_shareOf_45 rfl (lv_at hl 0 rfl) ?_
        refine lv_imul hx hb dX10_shareOf_46 ?_
        refine lv_aload_n hx hb dX10_shareOf_47 rfl (lv_at hl 1 rfl) ?_
        refine j_get I hx hb hts iw_X10_shareOf_X10 hown 0 (by decide) (km0 g Y _) rfl 17 (by decide) (hts (.fieldLink RX10 49 "ReelNightModel" "percent" "I") (by decide +kernel)) rfl dX10_shareOf_48 ?_
        refine lv_imul hx hb dX10_shareOf_51 ?_
        refine lv_bipush (v := 100) hx hb dX10_shareOf_52 (by decide) ?_
        refine lv_idiv hx hb dX10_shareOf_54 (by decide) ?_
        obtain ⟨v11, ev11, hf⟩ := o_itp hf
        refine top_eq ev11 ?_
        refine lv_istore (lv' := [(4, .int v11), (3, .int 2), (0, .ref (g 0)), (1, .int p0), (2, .int p1)]) hx hb dX10_shareOf_55 hl (by decide) rfl (fun ls hl => ?_)
        refine lv_iload hx hb dX10_shareOf_57 (lv_at hl 0 rfl) ?_
        refine lv_aload_n hx hb dX10_shareOf_59 rfl (lv_at hl 2 rfl) ?_
        refine j_get I hx hb hts iw_X10_shareOf_X10 hown 0 (by decide) (km0 g Y _) rfl 4 (by decide) (hts (.fieldLink RX10 19 "ReelNightModel" "leasts" "[I") (by decide +kernel)) rfl dX10_shareOf_60 ?_
        refine lv_iload_n hx hb dX10_shareOf_63 rfl (lv_at hl 3 rfl) ?_
        obtain ⟨b12, hf⟩ := o_nb hf
        refine j_ald I hx hb 4 (by decide) (km4 g Y _) b12 dX10_shareOf_64 ?_
        refine lv_icmp_ge (tgt := 77) hx hb dX10_shareOf_65 (by decide) (fun c13 => ?_) (fun c13 => ?_)
        · have hf := i_t c13 hf
          refine lv_iload hx hb dX10_shareOf_77 (lv_at hl 0 rfl) ?_
          exact j_iret I hx hb hr rfl hlk hf dX10_shareOf_79
        · have hf := i_f c13 hf
          refine lv_aload_n hx hb dX10_shareOf_68 rfl (lv_at hl 2 rfl) ?_
          refine j_get I hx hb hts iw_X10_shareOf_X10 hown 0 (by decide) (km0 g Y _) rfl 4 (by decide) (hts (.fieldLink RX10 19 "ReelNightModel" "leasts" "[I") (by decide +kernel)) rfl dX10_shareOf_69 ?_
          refine lv_iload_n hx hb dX10_shareOf_72 rfl (lv_at hl 3 rfl) ?_
          obtain ⟨b14, hf⟩ := o_nb hf
          refine j_ald I hx hb 4 (by decide) (km4 g Y _) b14 dX10_shareOf_73 ?_
          refine lv_goto (tgt := 79) hx hb dX10_shareOf_74 (by decide) ?_
          exact j_iret I hx hb hr rfl hlk hf dX10_shareOf_79
    · have hf := i_t c4 hf
      refine lv_iconst (v := 5) hx hb dX10_shareOf_23 (by decide) ?_
      refine lv_goto (tgt := 43) hx hb dX10_shareOf_24 (by decide) ?_
      refine lv_istore_n (lv' := [(3, .int 5), (0, .ref (g 0)), (1, .int p0), (2, .int p1)]) hx hb dX10_shareOf_43 rfl hl (by decide) rfl (fun ls hl => ?_)
      refine lv_iload_n hx hb dX10_shareOf_44 rfl (lv_at hl 3 rfl) ?_
      refine lv_iload_n hx hb dX10_shareOf_45 rfl (lv_at hl 0 rfl) ?_
      refine lv_imul hx hb dX10_shareOf_46 ?_
      refine lv_aload_n hx hb dX10_shareOf_47 rfl (lv_at hl 1 rfl) ?_
      refine j_get I hx hb hts iw_X10_shareOf_X10 hown 0 (by decide) (km0 g Y _) rfl 17 (by decide) (hts (.fieldLink RX10 49 "ReelNightModel" "percent" "I") (by decide +kernel)) rfl dX10_shareOf_48 ?_
      refine lv_imul hx hb dX10_shareOf_51 ?_
      refine lv_bipush (v := 100) hx hb dX10_shareOf_52 (by decide) ?_
      refine lv_idiv hx hb dX10_shareOf_54 (by decide) ?_
      obtain ⟨v15, ev15, hf⟩ := o_itp hf
      refine top_eq ev15 ?_
      refine lv_istore (lv' := [(4, .int v15), (3, .int 5), (0, .ref (g 0)), (1, .int p0), (2, .int p1)]) hx hb dX10_shareOf_55 hl (by decide) rfl (fun ls hl => ?_)
      refine lv_iload hx hb dX10_shareOf_57 (lv_at hl 0 rfl) ?_
      refine lv_aload_n hx hb dX10_shareOf_59 rfl (lv_at hl 2 rfl) ?_
      refine j_get I hx hb hts iw_X10_shareOf_X10 hown 0 (by decide) (km0 g Y _) rfl 4 (by decide) (hts (.fieldLink RX10 19 "ReelNightModel" "leasts" "[I") (by decide +kernel)) rfl dX10_shareOf_60 ?_
      refine lv_iload_n hx hb dX10_shareOf_63 rfl (lv_at hl 3 rfl) ?_
      obtain ⟨b16, hf⟩ := o_nb hf
      refine j_ald I hx hb 4 (by decide) (km4 g Y _) b16 dX10_shareOf_64 ?_
      refine lv_icmp_ge (tgt := 77) hx hb dX10_shareOf_65 (by decide) (fun c17 => ?_) (fun c17 => ?_)
      · have hf := i_t c17 hf
        refine lv_iload hx hb dX10_shareOf_77 (lv_at hl 0 rfl) ?_
        exact j_iret I hx hb hr rfl hlk hf dX10_shareOf_79
      · have hf := i_f c17 hf
        refine lv_aload_n hx hb dX10_shareOf_68 rfl (lv_at hl 2 rfl) ?_
        refine j_get I hx hb hts iw_X10_shareOf_X10 hown 0 (by decide) (km0 g Y _) rfl 4 (by decide) (hts (.fieldLink RX10 19 "ReelNightModel" "leasts" "[I") (by decide +kernel)) rfl dX10_shareOf_69 ?_
        refine lv_iload_n hx hb dX10_shareOf_72 rfl (lv_at hl 3 rfl) ?_
        obtain ⟨b18, hf⟩ := o_nb hf
        refine j_ald I hx hb 4 (by decide) (km4 g Y _) b18 dX10_shareOf_73 ?_
        refine lv_goto (tgt := 79) hx hb dX10_shareOf_74 (by decide) ?_
        exact j_iret I hx hb hr rfl hlk hf dX10_shareOf_79
  · have hf := i_t c2 hf
    refine lv_iconst (v := 3) hx hb dX10_shareOf_9 (by decide) ?_
    refine lv_goto (tgt := 43) hx hb dX10_shareOf_10 (by decide) ?_
    refine lv_istore_n (lv' := [(3, .int 3), (0, .ref (g 0)), (1, .int p0), (2, .int p1)]) hx hb dX10_shareOf_43 rfl hl (by decide) rfl (fun ls hl => ?_)
    refine lv_iload_n hx hb dX10_shareOf_44 rfl (lv_at hl 3 rfl) ?_
    refine lv_iload_n hx hb dX10_shareOf_45 rfl (lv_at hl 0 rfl) ?_
    refine lv_imul hx hb dX10_shareOf_46 ?_
    refine lv_aload_n hx hb dX10_shareOf_47 rfl (lv_at hl 1 rfl) ?_
    refine j_get I hx hb hts iw_X10_shareOf_X10 hown 0 (by decide) (km0 g Y _) rfl 17 (by decide) (hts (.fieldLink RX10 49 "ReelNightModel" "percent" "I") (by decide +kernel)) rfl dX10_shareOf_48 ?_
    refine lv_imul hx hb dX10_shareOf_51 ?_
    refine lv_bipush (v := 100) hx hb dX10_shareOf_52 (by decide) ?_
    refine lv_idiv hx hb dX10_shareOf_54 (by decide) ?_
    obtain ⟨v19, ev19, hf⟩ := o_itp hf
    refine top_eq ev19 ?_
    refine lv_istore (lv' := [(4, .int v19), (3, .int 3), (0, .ref (g 0)), (1, .int p0), (2, .int p1)]) hx hb dX10_shareOf_55 hl (by decide) rfl (fun ls hl => ?_)
    refine lv_iload hx hb dX10_shareOf_57 (lv_at hl 0 rfl) ?_
    refine lv_aload_n hx hb dX10_shareOf_59 rfl (lv_at hl 2 rfl) ?_
    refine j_get I hx hb hts iw_X10_shareOf_X10 hown 0 (by decide) (km0 g Y _) rfl 4 (by decide) (hts (.fieldLink RX10 19 "ReelNightModel" "leasts" "[I") (by decide +kernel)) rfl dX10_shareOf_60 ?_
    refine lv_iload_n hx hb dX10_shareOf_63 rfl (lv_at hl 3 rfl) ?_
    obtain ⟨b20, hf⟩ := o_nb hf
    refine j_ald I hx hb 4 (by decide) (km4 g Y _) b20 dX10_shareOf_64 ?_
    refine lv_icmp_ge (tgt := 77) hx hb dX10_shareOf_65 (by decide) (fun c21 => ?_) (fun c21 => ?_)
    · have hf := i_t c21 hf
      refine lv_iload hx hb dX10_shareOf_77 (lv_at hl 0 rfl) ?_
      exact j_iret I hx hb hr rfl hlk hf dX10_shareOf_79
    · have hf := i_f c21 hf
      refine lv_aload_n hx hb dX10_shareOf_68 rfl (lv_at hl 2 rfl) ?_
      refine j_get I hx hb hts iw_X10_shareOf_X10 hown 0 (by decide) (km0 g Y _) rfl 4 (by decide) (hts (.fieldLink RX10 19 "ReelNightModel" "leasts" "[I") (by decide +kernel)) rfl dX10_shareOf_69 ?_
      refine lv_iload_n hx hb dX10_shareOf_72 rfl (lv_at hl 3 rfl) ?_
      obtain ⟨b22, hf⟩ := o_nb hf
      refine j_ald I hx hb 4 (by decide) (km4 g Y _) b22 dX10_shareOf_73 ?_
      refine lv_goto (tgt := 79) hx hb dX10_shareOf_74 (by decide) ?_
      exact j_iret I hx hb hr rfl hlk hf dX10_shareOf_79

theorem iw_X10_share_X10 : ∀ w ∈ u_ws RX10 TX10 37, w ∈ wsX10_share := by decide +kernel
set_option maxHeartbeats 4000000 in
set_option maxRecDepth 100000 in
theorem ct_X10_share {l : Launch} {D : va_G} {g : Nat → Nat} {Y : YT} {bP : Nat} (σ : St) (p0 : Int32) (p1 : Int32) (res : St × Int32) (hf : fX10_share σ p0 p1 = some res) : Ci l yX10_share wsX10_share ⟨2, 0, 0, 43⟩ D 27 g (KM g Y) Y bP [.ref (g 0), .int p0, .int p1] σ res := by
  intro sz
  refine Met.ofW (cc := cX10_share) (maxL := 3) (ret := (some .int)) (by decide) rfl ?_
  intro p e s m args below meth c s₁ B hml hv
  obtain ⟨rfl, rfl, I⟩ := j_start hv
  have C0 : MC p s m _ meth c cX10_share 3 (some .int) RX10 wsX10_share := ⟨B.exec, B.bytes, B.returns, hml, findClass_of_methodNamed B.named, atoms_spec (ws := wsX10_share) B.pre, B.notSynchronized⟩
  obtain ⟨hx, hb, hr, hml, hown, hts, hlk⟩ := id C0
  have hl := lv_entry ([.ref (g 0), .int p0, .int p1]) (n := 3) (Nat.le_of_ble_eq_true rfl)
  rw [lg_entry_eq]
  generalize (lg_sl ([.ref (g 0), .int p0, .int p1]) ++ List.replicate (3 - (lg_sl ([.ref (g 0), .int p0, .int p1])).length) Slot.unset).toArray = ls at hl ⊢
  have hl : lv_has ls 3 [(0, .ref (g 0)), (1, .int p0), (2, .int p1)] := hl
  rw [fX10_share] at hf
  refine lv_aload_n hx hb dX10_share_0 rfl (lv_at hl 0 rfl) ?_
  refine lv_iload_n hx hb dX10_share_1 rfl (lv_at hl 1 rfl) ?_
  obtain ⟨σ1, r2, h3, hf⟩ := o_obn hf
  refine j_iV (rest := []) I ⟨hx, hb, hml, hown, hts⟩ (ct_X10_isHouse σ p0 _ h3) (cwV 1 hts gX10_share_X10_isHouse rfl rfl rfl (by decide +kernel) ⟨Nat.le_of_ble_eq_true rfl, Nat.le_of_ble_eq_true rfl⟩) (by decide) (km0 g Y _) rfl rfl hl.1 rfl (Nat.le_of_ble_eq_true rfl) dX10_share_2 ⟨Nat.zero_le _, Nat.zero_le _⟩ (fun H locs I => ?_)
  refine lv_if_eq (tgt := 31) hx hb dX10_share_5 (by decide) (fun c4 => ?_) (fun c4 => ?_)
  · have hf := i_t c4 hf
    refine lv_ldc hx hb hown (hts (.constant RX10 109 (-1000000001)) (by decide +kernel)) dX10_share_31 ?_
    exact j_iret I hx hb hr rfl hlk hf dX10_share_33
  · have hf := i_f c4 hf
    refine lv_iload_n hx hb dX10_share_8 rfl (lv_at hl 2 rfl) ?_
    refine lv_iconst (v := 0) hx hb dX10_share_9 (by decide) ?_
    refine lv_aload_n hx hb dX10_share_10 rfl (lv_at hl 0 rfl) ?_
    refine j_get I hx hb hts iw_X10_share_X10 hown 0 (by decide) (km0 g Y _) rfl 2 (by decide) (hts (.fieldLink RX10 13 "ReelNightModel" "seats" "[I") (by decide +kernel)) rfl dX10_share_11 ?_
    refine lv_iload_n hx hb dX10_share_14 rfl (lv_at hl 1 rfl) ?_
    obtain ⟨b5, hf⟩ := o_nb hf
    refine j_ald I hx hb 2 (by decide) (km2 g Y _) b5 dX10_share_15 ?_
    obtain ⟨σ6, r7, h8, hf⟩ := o_obn hf
    refine j_iS (rest := []) I ⟨hx, hb, hml, hown, hts⟩ (ct_X10_isIn σ1 p1 0 (σ1 2 p0.toNatClampNeg) _ h8) (va_cwS 3 hts gX10_share_X10_isIn rfl rfl rfl (by decide +kernel) ⟨Nat.le_of_ble_eq_true rfl, Nat.le_of_ble_eq_true rfl⟩) rfl hl.1 rfl (Nat.le_of_ble_eq_true rfl) dX10_share_16 ⟨Nat.zero_le _, Nat.zero_le _⟩ (fun H locs I => ?_)
    refine lv_if_eq (tgt := 31) hx hb dX10_share_19 (by decide) (fun c9 => ?_) (fun c9 => ?_)
    · have hf := i_t c9 hf
      refine lv_ldc hx hb hown (hts (.constant RX10 109 (-1000000001)) (by decide +kernel)) dX10_share_31 ?_
      exact j_iret I hx hb hr rfl hlk hf dX10_share_33
    · have hf := i_f c9 hf
      refine lv_aload_n hx hb dX10_share_22 rfl (lv_at hl 0 rfl) ?_
      refine lv_iload_n hx hb dX10_share_23 rfl (lv_at hl 1 rfl) ?_
      refine lv_iload_n hx hb dX10_share_24 rfl (lv_at hl 2 rfl) ?_
      obtain ⟨σ10, r11, h12, hf⟩ := o_obn hf
      refine j_iV (rest := []) I ⟨hx, hb, hml, hown, hts⟩ (ct_X10_shareOf σ6 p0 p1 _ h12) (cwV 2 hts gX10_share_X10_shareOf rfl rfl rfl (by decide +kernel) ⟨Nat.le_of_ble_eq_true rfl, Nat.le_of_ble_eq_true rfl⟩) (by decide) (km0 g Y _) rfl rfl hl.1 rfl (Nat.le_of_ble_eq_true rfl) dX10_share_25 ⟨Nat.zero_le _, Nat.zero_le _⟩ (fun H locs I => ?_)
      refine lv_goto (tgt := 33) hx hb dX10_share_28 (by decide) ?_
      exact j_iret I hx hb hr rfl hlk hf dX10_share_33

theorem iw_X10_shares_X10 : ∀ w ∈ u_ws RX10 TX10 37, w ∈ wsX10_shares := by decide +kernel
set_option maxHeartbeats 4000000 in
set_option maxRecDepth 100000 in
theorem bX10_shares_L26 {p : Program} {l : Launch} {e : Env} {s : State} {m : MethodId} {args : Array Value} {below : List Frame} {meth : Method} {c : Code} {D : va_G} {g : Nat → Nat} {Y : YT} {bP : Nat} {σ0 : St} {res : St × Int32} (C0 : MC p s m args meth c cX10_shares 6 (some .int) RX10 wsX10_shares) : ∀ (n : Nat) (σ : St) (a1 : Int32) (a2 : Int32) (a3 : Int32) (H : Heap) (locs : List Loc) (ls : Array Slot), fX10_shares_L26 n σ a1 a2 a3 = some res → JW D 27 g (KM g Y) Y bP (va_A (wd 27 g (KM g Y) σ0) s.heap.size) s σ H locs → lv_has ls 6 [(0, .ref (g 0)), (1, .int a1), (2, .int a2), (3, .int a3)] → W p l e (⟨2, 0, 0, 42⟩ : Room) s m args below meth c H locs 0 0 (MQ below (Qi D 27 g (KM g Y) Y σ0 res s.heap.size) args s 0 0 (va_A (wd 27 g (KM g Y) σ0) s.heap.size)) (F0 m 26 ls []) := by
  have C0 := C0
  obtain ⟨hx, hb, hr, hml, hown, hts, hlk⟩ := id C0
  intro n
  induction n with
  | zero =>
    intro σ a1 a2 a3 H locs ls hf
    cases hf
  | succ n ih =>
    intro σ a1 a2 a3 H locs ls hf I hl
    rw [fX10_shares_L26] at hf
    refine lv_iload_n hx hb dX10_shares_26 rfl (lv_at hl 3 rfl) ?_
    refine lv_aload_n hx hb dX10_shares_27 rfl (lv_at hl 0 rfl) ?_
    refine j_get I hx hb hts iw_X10_shares_X10 hown 0 (by decide) (km0 g Y _) rfl 0 (by decide) (hts (.fieldLink RX10 99 "ReelNightModel" "houses" "I") (by decide +kernel)) rfl dX10_shares_28 ?_
    refine lv_icmp_ge (tgt := 110) hx hb dX10_shares_31 (by decide) (fun c6 => ?_) (fun c6 => ?_)
    · have hf := i_t c6 hf
      refine lv_iload_n hx hb dX10_shares_110 rfl (lv_at hl 2 rfl) ?_
      exact j_iret I hx hb hr rfl hlk hf dX10_shares_111
    · have hf := i_f c6 hf
      refine lv_bipush (v := 6) hx hb dX10_shares_34 (by decide) ?_
      refine lv_iload_n hx hb dX10_shares_36 rfl (lv_at hl 1 rfl) ?_
      refine lv_imul hx hb dX10_shares_37 ?_
      refine lv_iload_n hx hb dX10_shares_38 rfl (lv_at hl 3 rfl) ?_
      refine lv_iadd hx hb dX10_shares_39 ?_
      obtain ⟨v7, ev7, hf⟩ := o_itp hf
      refine top_eq ev7 ?_
      refine lv_istore (lv' := [(4, .int v7), (0, .ref (g 0)), (1, .int a1), (2, .int a2), (3, .int a3)]) hx hb dX10_shares_40 hl (by decide) rfl (fun ls hl => ?_)
      refine lv_iload hx hb dX10_shares_42 (lv_at hl 0 rfl) ?_
      refine lv_aload_n hx hb dX10_shares_44 rfl (lv_at hl 1 rfl) ?_
      refine j_get I hx hb hts iw_X10_shares_X10 hown 0 (by decide) (km0 g Y _) rfl 20 (by decide) (hts (.fieldLink RX10 59 "ReelNightModel" "places" "[I") (by decide +kernel)) rfl dX10_shares_45 ?_
      refine lv_iconst (v := 0) hx hb dX10_shares_48 (by decide) ?_
      refine j_ald I hx hb 14 (by decide) (km14 g Y _) (show ¬ ((0 : Int32) < 0 ∨ 2 ≤ (0 : Int32).toNatClampNeg) from by decide) dX10_shares_49 ?_
      refine lv_icmp_ge (tgt := 77) hx hb dX10_shares_50 (by decide) (fun c8 => ?_) (fun c8 => ?_)
      · have hf := i_t c8 hf
        refine lv_iconst (v := 0) hx hb dX10_shares_77 (by decide) ?_
        refine lv_istore (lv' := [(5, .int 0), (4, .int v7), (0, .ref (g 0)), (1, .int a1), (2, .int a2), (3, .int a3)]) hx hb dX10_shares_78 hl (by decide) rfl (fun ls hl => ?_)
        refine lv_iload_n hx hb dX10_shares_80 rfl (lv_at hl 4 rfl) ?_
        refine lv_aload_n hx hb dX10_shares_81 rfl (lv_at hl 2 rfl) ?_
        refine lv_iload_n hx hb dX10_shares_82 rfl (lv_at hl 5 rfl) ?_
        refine lv_iload hx hb dX10_shares_83 (lv_at hl 0 rfl) ?_
        refine lv_if_eq (tgt := 98) hx hb dX10_shares_85 (by decide) (fun _ => ?_) (fun c_ => absurd (by decide) c_)
        refine lv_iconst (v := 0) hx hb dX10_shares_98 (by decide) ?_
        obtain ⟨σ9, r10, h11, hf⟩ := o_obn hf
        refine j_iV (rest := [.int a2]) I ⟨hx, hb, hml, hown, hts⟩ (ct_X10_shareOf σ a3 0 _ h11) (cwV 2 hts gX10_shares_X10_shareOf rfl rfl rfl (by decide +kernel) ⟨Nat.le_of_ble_eq_true rfl, Nat.le_of_ble_eq_true rfl⟩) (by decide) (km0 g Y _) rfl rfl hl.1 rfl (Nat.le_of_ble_eq_true rfl) dX10_shares_99 ⟨Nat.zero_le _, Nat.zero_le _⟩ (fun H locs I => ?_)
        refine lv_iadd hx hb dX10_shares_102 ?_
        obtain ⟨v12, ev12, hf⟩ := o_itp hf
        refine top_eq ev12 ?_
        refine lv_istore_n (lv' := [(2, .int v12), (5, .int 0), (4, .int v7), (0, .ref (g 0)), (1, .int a1), (3, .int a3)]) hx hb dX10_shares_103 rfl hl (by decide) rfl (fun ls hl => ?_)
        refine lv_iinc (v := (a3 + 1)) (lv' := [(3, .int (a3 + 1)), (2, .int v12), (5, .int 0), (4, .int v7), (0, .ref (g 0)), (1, .int a1)]) hx hb dX10_shares_104 hl (k := 5) rfl rfl (by decide) rfl (fun ls hl => ?_)
        refine lv_goto (tgt := 26) hx hb dX10_shares_107 (by decide) ?_
        exact ih σ9 a1 v12 (a3 + 1) _ _ _ hf I (lv_sub hl [4, 5, 1, 0] rfl)
      · have hf := i_f c8 hf
        refine lv_aload_n hx hb dX10_shares_53 rfl (lv_at hl 1 rfl) ?_
        refine j_get I hx hb hts iw_X10_shares_X10 hown 0 (by decide) (km0 g Y _) rfl 21 (by decide) (hts (.fieldLink RX10 62 "ReelNightModel" "numbers" "[I") (by decide +kernel)) rfl dX10_shares_54 ?_
        refine lv_iload hx hb dX10_shares_57 (lv_at hl 0 rfl) ?_
        obtain ⟨b13, hf⟩ := o_nb hf
        refine j_ald I hx hb 15 (by decide) (km15 g Y _) b13 dX10_shares_59 ?_
        refine lv_iconst (v := 0) hx hb dX10_shares_60 (by decide) ?_
        refine lv_aload_n hx hb dX10_shares_61 rfl (lv_at hl 1 rfl) ?_
        refine j_get I hx hb hts iw_X10_shares_X10 hown 0 (by decide) (km0 g Y _) rfl 2 (by decide) (hts (.fieldLink RX10 13 "ReelNightModel" "seats" "[I") (by decide +kernel)) rfl dX10_shares_62 ?_
        refine lv_iload_n hx hb dX10_shares_65 rfl (lv_at hl 4 rfl) ?_
        obtain ⟨b14, hf⟩ := o_nb hf
        refine j_ald I hx hb 2 (by decide) (km2 g Y _) b14 dX10_shares_66 ?_
        obtain ⟨σ15, r16, h17, hf⟩ := o_obn hf
        refine j_iS (rest := []) I ⟨hx, hb, hml, hown, hts⟩ (ct_X10_isIn σ (σ 15 v7.toNatClampNeg) 0 (σ 2 a3.toNatClampNeg) _ h17) (va_cwS 3 hts gX10_shares_X10_isIn rfl rfl rfl (by decide +kernel) ⟨Nat.le_of_ble_eq_true rfl, Nat.le_of_ble_eq_true rfl⟩) rfl hl.1 rfl (Nat.le_of_ble_eq_true rfl) dX10_shares_67 ⟨Nat.zero_le _, Nat.zero_le _⟩ (fun H locs I => ?_)
        refine lv_if_eq (tgt := 77) hx hb dX10_shares_70 (by decide) (fun c18 => ?_) (fun c18 => ?_)
        · have hf := i_t c18 hf
          refine lv_iconst (v := 0) hx hb dX10_shares_77 (by decide) ?_
          refine lv_istore (lv' := [(5, .int 0), (4, .int v7), (0, .ref (g 0)), (1, .int a1), (2, .int a2), (3, .int a3)]) hx hb dX10_shares_78 hl (by decide) rfl (fun ls hl => ?_)
          refine lv_iload_n hx hb dX10_shares_80 rfl (lv_at hl 4 rfl) ?_
          refine lv_aload_n hx hb dX10_shares_81 rfl (lv_at hl 2 rfl) ?_
          refine lv_iload_n hx hb dX10_shares_82 rfl (lv_at hl 5 rfl) ?_
          refine lv_iload hx hb dX10_shares_83 (lv_at hl 0 rfl) ?_
          refine lv_if_eq (tgt := 98) hx hb dX10_shares_85 (by decide) (fun _ => ?_) (fun c_ => absurd (by decide) c_)
          refine lv_iconst (v := 0) hx hb dX10_shares_98 (by decide) ?_
          obtain ⟨σ19, r20, h21, hf⟩ := o_obn hf
          refine j_iV (rest := [.int a2]) I ⟨hx, hb, hml, hown, hts⟩ (ct_X10_shareOf σ15 a3 0 _ h21) (cwV 2 hts gX10_shares_X10_shareOf rfl rfl rfl (by decide +kernel) ⟨Nat.le_of_ble_eq_true rfl, Nat.le_of_ble_eq_true rfl⟩) (by decide) (km0 g Y _) rfl rfl hl.1 rfl (Nat.le_of_ble_eq_true rfl) dX10_shares_99 ⟨Nat.zero_le _, Nat.zero_le _⟩ (fun H locs I => ?_)
          refine lv_iadd hx hb dX10_shares_102 ?_
          obtain ⟨v22, ev22, hf⟩ := o_itp hf
          refine top_eq ev22 ?_
          refine lv_istore_n (lv' := [(2, .int v22), (5, .int 0), (4, .int v7), (0, .ref (g 0)), (1, .int a1), (3, .int a3)]) hx hb dX10_shares_103 rfl hl (by decide) rfl (fun ls hl => ?_)
          refine lv_iinc (v := (a3 + 1)) (lv' := [(3, .int (a3 + 1)), (2, .int v22), (5, .int 0), (4, .int v7), (0, .ref (g 0)), (1, .int a1)]) hx hb dX10_shares_104 hl (k := 5) rfl rfl (by decide) rfl (fun ls hl => ?_)
          refine lv_goto (tgt := 26) hx hb dX10_shares_107 (by decide) ?_
          exact ih σ19 a1 v22 (a3 + 1) _ _ _ hf I (lv_sub hl [4, 5, 1, 0] rfl)
        · have hf := i_f c18 hf
          refine lv_iconst (v := 1) hx hb dX10_shares_73 (by decide) ?_
          refine lv_goto (tgt := 78) hx hb dX10_shares_74 (by decide) ?_
          refine lv_istore (lv' := [(5, .int 1), (4, .int v7), (0, .ref (g 0)), (1, .int a1), (2, .int a2), (3, .int a3)]) hx hb dX10_shares_78 hl (by decide) rfl (fun ls hl => ?_)
          refine lv_iload_n hx hb dX10_shares_80 rfl (lv_at hl 4 rfl) ?_
          refine lv_aload_n hx hb dX10_shares_81 rfl (lv_at hl 2 rfl) ?_
          refine lv_iload_n hx hb dX10_shares_82 rfl (lv_at hl 5 rfl) ?_
          refine lv_iload hx hb dX10_shares_83 (lv_at hl 0 rfl) ?_
          refine lv_if_eq (tgt := 98) hx hb dX10_shares_85 (by decide) (fun c_ => absurd c_ (by decide)) (fun _ => ?_)
          refine lv_aload_n hx hb dX10_shares_88 rfl (lv_at hl 2 rfl) ?_
          refine j_get I hx hb hts iw_X10_shares_X10 hown 0 (by decide) (km0 g Y _) rfl 21 (by decide) (hts (.fieldLink RX10 62 "ReelNightModel" "numbers" "[I") (by decide +kernel)) rfl dX10_shares_89 ?_
          refine lv_iload hx hb dX10_shares_92 (lv_at hl 1 rfl) ?_
          obtain ⟨b23, hf⟩ := o_nb hf
          refine j_ald I hx hb 15 (by decide) (km15 g Y _) b23 dX10_shares_94 ?_
          refine lv_goto (tgt := 99) hx hb dX10_shares_95 (by decide) ?_
          obtain ⟨σ24, r25, h26, hf⟩ := o_obn hf
          refine j_iV (rest := [.int a2]) I ⟨hx, hb, hml, hown, hts⟩ (ct_X10_shareOf σ15 a3 (σ15 15 v7.toNatClampNeg) _ h26) (cwV 2 hts gX10_shares_X10_shareOf rfl rfl rfl (by decide +kernel) ⟨Nat.le_of_ble_eq_true rfl, Nat.le_of_ble_eq_true rfl⟩) (by decide) (km0 g Y _) rfl rfl hl.1 rfl (Nat.le_of_ble_eq_true rfl) dX10_shares_99 ⟨Nat.zero_le _, Nat.zero_le _⟩ (fun H locs I => ?_)
          refine lv_iadd hx hb dX10_shares_102 ?_
          obtain ⟨v27, ev27, hf⟩ := o_itp hf
          refine top_eq ev27 ?_
          refine lv_istore_n (lv' := [(2, .int v27), (5, .int 1), (4, .int v7), (0, .ref (g 0)), (1, .int a1), (3, .int a3)]) hx hb dX10_shares_103 rfl hl (by decide) rfl (fun ls hl => ?_)
          refine lv_iinc (v := (a3 + 1)) (lv' := [(3, .int (a3 + 1)), (2, .int v27), (5, .int 1), (4, .int v7), (0, .ref (g 0)), (1, .int a1)]) hx hb dX10_shares_104 hl (k := 5) rfl rfl (by decide) rfl (fun ls hl => ?_)
          refine lv_goto (tgt := 26) hx hb dX10_shares_107 (by decide) ?_
          exact ih σ24 a1 v27 (a3 + 1) _ _ _ hf I (lv_sub hl [4, 5, 1, 0] rfl)
set_option maxHeartbeats 4000000 in
set_option maxRecDepth 100000 in
theorem ct_X10_shares {l : Launch} {D : va_G} {g : Nat → Nat} {Y : YT} {bP : Nat} (σ : St) (p0 : Int32) (res : St × Int32) (hf : fX10_shares σ p0 = some res) : Ci l yX10_shares wsX10_shares ⟨2, 0, 0, 42⟩ D 27 g (KM g Y) Y bP [.ref (g 0), .int p0] σ res := by
  intro sz
  refine Met.ofW (cc := cX10_shares) (maxL := 6) (ret := (some .int)) (by decide) rfl ?_
  intro p e s m args below meth c s₁ B hml hv
  obtain ⟨rfl, rfl, I⟩ := j_start hv
  have C0 : MC p s m _ meth c cX10_shares 6 (some .int) RX10 wsX10_shares := ⟨B.exec, B.bytes, B.returns, hml, findClass_of_methodNamed B.named, atoms_spec (ws := wsX10_shares) B.pre, B.notSynchronized⟩
  obtain ⟨hx, hb, hr, hml, hown, hts, hlk⟩ := id C0
  have hl := lv_entry ([.ref (g 0), .int p0]) (n := 6) (Nat.le_of_ble_eq_true rfl)
  rw [lg_entry_eq]
  generalize (lg_sl ([.ref (g 0), .int p0]) ++ List.replicate (6 - (lg_sl ([.ref (g 0), .int p0])).length) Slot.unset).toArray = ls at hl ⊢
  have hl : lv_has ls 6 [(0, .ref (g 0)), (1, .int p0)] := hl
  rw [fX10_shares] at hf
  refine lv_iload_n hx hb dX10_shares_0 rfl (lv_at hl 1 rfl) ?_
  obtain ⟨σ1, r2, h3, hf⟩ := o_obn hf
  refine j_iS (rest := []) I ⟨hx, hb, hml, hown, hts⟩ (ct_X10_isWeek σ p0 _ h3) (va_cwS 1 hts gX10_shares_X10_isWeek rfl rfl rfl (by decide +kernel) ⟨Nat.le_of_ble_eq_true rfl, Nat.le_of_ble_eq_true rfl⟩) rfl hl.1 rfl (Nat.le_of_ble_eq_true rfl) dX10_shares_1 ⟨Nat.zero_le _, Nat.zero_le _⟩ (fun H locs I => ?_)
  refine lv_if_ne (tgt := 10) hx hb dX10_shares_4 (by decide) (fun c4 => ?_) (fun c4 => ?_)
  · have hf := i_f c4 hf
    refine lv_aload_n hx hb dX10_shares_10 rfl (lv_at hl 0 rfl) ?_
    refine j_get I hx hb hts iw_X10_shares_X10 hown 0 (by decide) (km0 g Y _) rfl 20 (by decide) (hts (.fieldLink RX10 59 "ReelNightModel" "places" "[I") (by decide +kernel)) rfl dX10_shares_11 ?_
    refine lv_iconst (v := 0) hx hb dX10_shares_14 (by decide) ?_
    refine j_ald I hx hb 14 (by decide) (km14 g Y _) (show ¬ ((0 : Int32) < 0 ∨ 2 ≤ (0 : Int32).toNatClampNeg) from by decide) dX10_shares_15 ?_
    refine lv_if_ge (tgt := 22) hx hb dX10_shares_16 (by decide) (fun c5 => ?_) (fun c5 => ?_)
    · have hf := i_t c5 hf
      refine lv_iconst (v := 0) hx hb dX10_shares_22 (by decide) ?_
      refine lv_istore_n (lv' := [(2, .int 0), (0, .ref (g 0)), (1, .int p0)]) hx hb dX10_shares_23 rfl hl (by decide) rfl (fun ls hl => ?_)
      refine lv_iconst (v := 0) hx hb dX10_shares_24 (by decide) ?_
      refine lv_istore_n (lv' := [(3, .int 0), (2, .int 0), (0, .ref (g 0)), (1, .int p0)]) hx hb dX10_shares_25 rfl hl (by decide) rfl (fun ls hl => ?_)
      refine bX10_shares_L26 C0 50 σ1 p0 0 0 _ _ _ hf I (lv_sub hl [2, 3, 1, 0] rfl)
    · have hf := i_f c5 hf
      refine lv_ldc hx hb hown (hts (.constant RX10 208 (-1000000011)) (by decide +kernel)) dX10_shares_19 ?_
      exact j_iret I hx hb hr rfl hlk hf dX10_shares_21
  · have hf := i_t c4 hf
    refine lv_ldc hx hb hown (hts (.constant RX10 109 (-1000000001)) (by decide +kernel)) dX10_shares_7 ?_
    exact j_iret I hx hb hr rfl hlk hf dX10_shares_9

theorem iw_X10_checked_X10 : ∀ w ∈ u_ws RX10 TX10 37, w ∈ wsX10_checked := fun _ h => List.mem_cons_of_mem _ (List.mem_append_right _ h)
set_option maxHeartbeats 4000000 in
set_option maxRecDepth 100000 in
theorem bX10_checked_L31 {p : Program} {l : Launch} {e : Env} {s : State} {m : MethodId} {args : Array Value} {below : List Frame} {meth : Method} {c : Code} {D : va_G} {g : Nat → Nat} {Y : YT} {bP : Nat} {σ0 : St} {res : St × Int32} (C0 : MC p s m args meth c cX10_checked 6 (some .int) RX10 wsX10_checked) {K58 : St → Int32 → Int32 → Int32 → Int32 → Option (St × Int32)} (hK58 : ∀ (σ : St) (a1 : Int32) (a2 : Int32) (a3 : Int32) (a4 : Int32) (H : Heap) (locs : List Loc) (ls : Array Slot), K58 σ a1 a2 a3 a4 = some res → JW D 27 g (KM g Y) Y bP (va_A (wd 27 g (KM g Y) σ0) s.heap.size) s σ H locs → lv_has ls 6 [(0, .ref (g 0)), (1, .int a1), (2, .int a2), (3, .int a3), (4, .int a4)] → W p l e (⟨2, 0, 0, 42⟩ : Room) s m args below meth c H locs 0 0 (MQ below (Qi D 27 g (KM g Y) Y σ0 res s.heap.size) args s 0 0 (va_A (wd 27 g (KM g Y) σ0) s.heap.size)) (F0 m 58 ls [])) : ∀ (n : Nat) (σ : St) (a1 : Int32) (a2 : Int32) (a3 : Int32) (a4 : Int32) (a5 : Int32) (H : Heap) (locs : List Loc) (ls : Array Slot), fX10_checked_L31 K58 n σ a1 a2 a3 a4 a5 = some res → JW D 27 g (KM g Y) Y bP (va_A (wd 27 g (KM g Y) σ0) s.heap.size) s σ H locs → lv_has ls 6 [(0, .ref (g 0)), (1, .int a1), (2, .int a2), (3, .int a3), (4, .int a4), (5, .int a5)] → W p l e (⟨2, 0, 0, 42⟩ : Room) s m args below meth c H locs 0 0 (MQ below (Qi D 27 g (KM g Y) Y σ0 res s.heap.size) args s 0 0 (va_A (wd 27 g (KM g Y) σ0) s.heap.size)) (F0 m 31 ls []) := by
  have C0 := C0
  obtain ⟨hx, hb, hr, hml, hown, hts, hlk⟩ := id C0
  intro n
  induction n with
  | zero =>
    intro σ a1 a2 a3 a4 a5 H locs ls hf
    cases hf
  | succ n ih =>
    intro σ a1 a2 a3 a4 a5 H locs ls hf I hl
    rw [fX10_checked_L31] at hf
    refine lv_iload hx hb dX10_checked_31 (lv_at hl 5 rfl) ?_
    refine lv_bipush (v := 6) hx hb dX10_checked_33 (by decide) ?_
    refine lv_iload_n hx hb dX10_checked_35 rfl (lv_at hl 1 rfl) ?_
    refine lv_imul hx hb dX10_checked_36 ?_
    refine lv_iload_n hx hb dX10_checked_37 rfl (lv_at hl 3 rfl) ?_
    refine lv_iadd hx hb dX10_checked_38 ?_
    refine lv_icmp_gt (tgt := 58) hx hb dX10_checked_39 (by decide) (fun c7 => ?_) (fun c7 => ?_)
    · have hf := i_t c7 hf
      exact hK58 σ a1 a2 a3 a4 _ _ _ hf I (lv_sub hl [0, 1, 2, 3, 4] rfl)
    · have hf := i_f c7 hf
      refine lv_iload hx hb dX10_checked_42 (lv_at hl 4 rfl) ?_
      refine lv_ldc hx hb hown (hts (.constant RX10 209 1664525) (by decide +kernel)) dX10_checked_44 ?_
      refine lv_imul hx hb dX10_checked_46 ?_
      refine lv_ldc hx hb hown (hts (.constant RX10 210 1013904223) (by decide +kernel)) dX10_checked_47 ?_
      refine lv_iadd hx hb dX10_checked_49 ?_
      obtain ⟨v8, ev8, hf⟩ := o_itp hf
      refine top_eq ev8 ?_
      refine lv_istore (lv' := [(4, .int v8), (0, .ref (g 0)), (1, .int a1), (2, .int a2), (3, .int a3), (5, .int a5)]) hx hb dX10_checked_50 hl (by decide) rfl (fun ls hl => ?_)
      refine lv_iinc (v := (a5 + 1)) (lv' := [(5, .int (a5 + 1)), (4, .int v8), (0, .ref (g 0)), (1, .int a1), (2, .int a2), (3, .int a3)]) hx hb dX10_checked_52 hl (k := 5) rfl rfl (by decide) rfl (fun ls hl => ?_)
      refine lv_goto (tgt := 31) hx hb dX10_checked_55 (by decide) ?_
      exact ih σ a1 a2 a3 v8 (a5 + 1) _ _ _ hf I (lv_sub hl [2, 3, 4, 5, 1, 0] rfl)
set_option maxHeartbeats 4000000 in
set_option maxRecDepth 100000 in
theorem bX10_checked_L14 {p : Program} {l : Launch} {e : Env} {s : State} {m : MethodId} {args : Array Value} {below : List Frame} {meth : Method} {c : Code} {D : va_G} {g : Nat → Nat} {Y : YT} {bP : Nat} {σ0 : St} {res : St × Int32} (C0 : MC p s m args meth c cX10_checked 6 (some .int) RX10 wsX10_checked) : ∀ (n : Nat) (σ : St) (a1 : Int32) (a2 : Int32) (a3 : Int32) (H : Heap) (locs : List Loc) (ls : Array Slot), fX10_checked_L14 n σ a1 a2 a3 = some res → JW D 27 g (KM g Y) Y bP (va_A (wd 27 g (KM g Y) σ0) s.heap.size) s σ H locs → lv_has ls 6 [(0, .ref (g 0)), (1, .int a1), (2, .int a2), (3, .int a3)] → W p l e (⟨2, 0, 0, 42⟩ : Room) s m args below meth c H locs 0 0 (MQ below (Qi D 27 g (KM g Y) Y σ0 res s.heap.size) args s 0 0 (va_A (wd 27 g (KM g Y) σ0) s.heap.size)) (F0 m 14 ls []) := by
  have C0 := C0
  obtain ⟨hx, hb, hr, hml, hown, hts, hlk⟩ := id C0
  intro n
  induction n with
  | zero =>
    intro σ a1 a2 a3 H locs ls hf
    cases hf
  | succ n ih =>
    intro σ a1 a2 a3 H locs ls hf I hl
    rw [fX10_checked_L14] at hf
    refine lv_iload_n hx hb dX10_checked_14 rfl (lv_at hl 3 rfl) ?_
    refine lv_aload_n hx hb dX10_checked_15 rfl (lv_at hl 0 rfl) ?_
    refine j_get I hx hb hts iw_X10_checked_X10 hown 0 (by decide) (km0 g Y _) rfl 0 (by decide) (hts (.fieldLink RX10 99 "ReelNightModel" "houses" "I") (by decide +kernel)) rfl dX10_checked_16 ?_
    refine lv_icmp_ge (tgt := 89) hx hb dX10_checked_19 (by decide) (fun c5 => ?_) (fun c5 => ?_)
    · have hf := i_t c5 hf
      refine lv_iload_n hx hb dX10_checked_89 rfl (lv_at hl 2 rfl) ?_
      exact j_iret I hx hb hr rfl hlk hf dX10_checked_90
    · have hf := i_f c5 hf
      refine lv_aload_n hx hb dX10_checked_22 rfl (lv_at hl 0 rfl) ?_
      refine j_get I hx hb hts iw_X10_checked_X10 hown 0 (by decide) (km0 g Y _) rfl 19 (by decide) (hts (.fieldLink RX10 56 "ReelNightModel" "seed" "I") (by decide +kernel)) rfl dX10_checked_23 ?_
      obtain ⟨v6, ev6, hf⟩ := o_itp hf
      refine top_eq ev6 ?_
      refine lv_istore (lv' := [(4, .int v6), (0, .ref (g 0)), (1, .int a1), (2, .int a2), (3, .int a3)]) hx hb dX10_checked_26 hl (by decide) rfl (fun ls hl => ?_)
      refine lv_iconst (v := 0) hx hb dX10_checked_28 (by decide) ?_
      refine lv_istore (lv' := [(5, .int 0), (4, .int v6), (0, .ref (g 0)), (1, .int a1), (2, .int a2), (3, .int a3)]) hx hb dX10_checked_29 hl (by decide) rfl (fun ls hl => ?_)
      refine bX10_checked_L31 C0 ?_ 50 σ a1 a2 a3 v6 0 _ _ _ hf I (lv_sub hl [2, 3, 4, 5, 1, 0] rfl)
      · intro σ9 a10 a11 a12 a13 H locs ls hf I hl
        refine lv_iload_n hx hb dX10_checked_58 rfl (lv_at hl 2 rfl) ?_
        refine lv_iload hx hb dX10_checked_59 (lv_at hl 4 rfl) ?_
        refine lv_bipush (v := 8) hx hb dX10_checked_61 (by decide) ?_
        refine lv_iushr hx hb dX10_checked_63 rfl ?_
        refine lv_bipush (v := 100) hx hb dX10_checked_64 (by decide) ?_
        refine lv_irem hx hb dX10_checked_66 (by decide) ?_
        refine lv_aload_n hx hb dX10_checked_67 rfl (lv_at hl 0 rfl) ?_
        refine j_get I hx hb hts iw_X10_checked_X10 hown 0 (by decide) (km0 g Y _) rfl 18 (by decide) (hts (.fieldLink RX10 53 "ReelNightModel" "odds" "I") (by decide +kernel)) rfl dX10_checked_68 ?_
        refine lv_icmp_ge (tgt := 80) hx hb dX10_checked_71 (by decide) (fun c14 => ?_) (fun c14 => ?_)
        · have hf := i_t c14 hf
          refine lv_iconst (v := 0) hx hb dX10_checked_80 (by decide) ?_
          refine lv_ior hx hb dX10_checked_81 ?_
          obtain ⟨v15, ev15, hf⟩ := o_itp hf
          refine top_eq ev15 ?_
          refine lv_istore_n (lv' := [(2, .int v15), (0, .ref (g 0)), (1, .int a10), (3, .int a12), (4, .int a13)]) hx hb dX10_checked_82 rfl hl (by decide) rfl (fun ls hl => ?_)
          refine lv_iinc (v := (a12 + 1)) (lv' := [(3, .int (a12 + 1)), (2, .int v15), (0, .ref (g 0)), (1, .int a10), (4, .int a13)]) hx hb dX10_checked_83 hl (k := 3) rfl rfl (by decide) rfl (fun ls hl => ?_)
          refine lv_goto (tgt := 14) hx hb dX10_checked_86 (by decide) ?_
          exact ih σ9 a10 v15 (a12 + 1) _ _ _ hf I (lv_sub hl [2, 3, 1, 0] rfl)
        · have hf := i_f c14 hf
          refine lv_iconst (v := 1) hx hb dX10_checked_74 (by decide) ?_
          refine lv_iload_n hx hb dX10_checked_75 rfl (lv_at hl 3 rfl) ?_
          refine lv_ishl hx hb dX10_checked_76 ?_
          refine lv_goto (tgt := 81) hx hb dX10_checked_77 (by decide) ?_
          refine lv_ior hx hb dX10_checked_81 ?_
          obtain ⟨v16, ev16, hf⟩ := o_itp hf
          refine top_eq ev16 ?_
          refine lv_istore_n (lv' := [(2, .int v16), (0, .ref (g 0)), (1, .int a10), (3, .int a12), (4, .int a13)]) hx hb dX10_checked_82 rfl hl (by decide) rfl (fun ls hl => ?_)
          refine lv_iinc (v := (a12 + 1)) (lv' := [(3, .int (a12 + 1)), (2, .int v16), (0, .ref (g 0)), (1, .int a10), (4, .int a13)]) hx hb dX10_checked_83 hl (k := 3) rfl rfl (by decide) rfl (fun ls hl => ?_)
          refine lv_goto (tgt := 14) hx hb dX10_checked_86 (by decide) ?_
          exact ih σ9 a10 v16 (a12 + 1) _ _ _ hf I (lv_sub hl [2, 3, 1, 0] rfl)
set_option maxHeartbeats 4000000 in
set_option maxRecDepth 100000 in
theorem ct_X10_checked {l : Launch} {D : va_G} {g : Nat → Nat} {Y : YT} {bP : Nat} (σ : St) (p0 : Int32) (res : St × Int32) (hf : fX10_checked σ p0 = some res) : Ci l yX10_checked wsX10_checked ⟨2, 0, 0, 42⟩ D 27 g (KM g Y) Y bP [.ref (g 0), .int p0] σ res := by
  intro sz
  refine Met.ofW (cc := cX10_checked) (maxL := 6) (ret := (some .int)) (by decide) rfl ?_
  intro p e s m args below meth c s₁ B hml hv
  obtain ⟨rfl, rfl, I⟩ := j_start hv
  have C0 : MC p s m _ meth c cX10_checked 6 (some .int) RX10 wsX10_checked := ⟨B.exec, B.bytes, B.returns, hml, findClass_of_methodNamed B.named, atoms_spec (ws := wsX10_checked) B.pre, B.notSynchronized⟩
  obtain ⟨hx, hb, hr, hml, hown, hts, hlk⟩ := id C0
  have hl := lv_entry ([.ref (g 0), .int p0]) (n := 6) (Nat.le_of_ble_eq_true rfl)
  rw [lg_entry_eq]
  generalize (lg_sl ([.ref (g 0), .int p0]) ++ List.replicate (6 - (lg_sl ([.ref (g 0), .int p0])).length) Slot.unset).toArray = ls at hl ⊢
  have hl : lv_has ls 6 [(0, .ref (g 0)), (1, .int p0)] := hl
  rw [fX10_checked] at hf
  refine lv_iload_n hx hb dX10_checked_0 rfl (lv_at hl 1 rfl) ?_
  obtain ⟨σ1, r2, h3, hf⟩ := o_obn hf
  refine j_iS (rest := []) I ⟨hx, hb, hml, hown, hts⟩ (ct_X10_isWeek σ p0 _ h3) (va_cwS 1 hts gX10_checked_X10_isWeek rfl rfl rfl (by decide +kernel) ⟨Nat.le_of_ble_eq_true rfl, Nat.le_of_ble_eq_true rfl⟩) rfl hl.1 rfl (Nat.le_of_ble_eq_true rfl) dX10_checked_1 ⟨Nat.zero_le _, Nat.zero_le _⟩ (fun H locs I => ?_)
  refine lv_if_ne (tgt := 10) hx hb dX10_checked_4 (by decide) (fun c4 => ?_) (fun c4 => ?_)
  · have hf := i_f c4 hf
    refine lv_iconst (v := 0) hx hb dX10_checked_10 (by decide) ?_
    refine lv_istore_n (lv' := [(2, .int 0), (0, .ref (g 0)), (1, .int p0)]) hx hb dX10_checked_11 rfl hl (by decide) rfl (fun ls hl => ?_)
    refine lv_iconst (v := 0) hx hb dX10_checked_12 (by decide) ?_
    refine lv_istore_n (lv' := [(3, .int 0), (2, .int 0), (0, .ref (g 0)), (1, .int p0)]) hx hb dX10_checked_13 rfl hl (by decide) rfl (fun ls hl => ?_)
    refine bX10_checked_L14 C0 50 σ1 p0 0 0 _ _ _ hf I (lv_sub hl [2, 3, 1, 0] rfl)
  · have hf := i_t c4 hf
    refine lv_ldc hx hb hown (hts (.constant RX10 109 (-1000000001)) (by decide +kernel)) dX10_checked_7 ?_
    exact j_iret I hx hb hr rfl hlk hf dX10_checked_9

set_option maxHeartbeats 4000000 in
set_option maxRecDepth 100000 in
theorem ct_X10_isSheet {l : Launch} {D : va_G} {g : Nat → Nat} {Y : YT} {bP : Nat} (σ : St) (p0 : Int32) (res : St × Int32) (hf : fX10_isSheet σ p0 = some res) : Ci l yX10_isSheet wsX10_isSheet ⟨1, 0, 0, 22⟩ D 27 g (KM g Y) Y bP [.int p0] σ res := by
  intro sz
  refine Met.ofW (cc := cX10_isSheet) (maxL := 1) (ret := (some .boolean)) (by decide) rfl ?_
  intro p e s m args below meth c s₁ B hml hv
  obtain ⟨rfl, rfl, I⟩ := j_start hv
  have C0 : MC p s m _ meth c cX10_isSheet 1 (some .boolean) RX10 wsX10_isSheet := ⟨B.exec, B.bytes, B.returns, hml, findClass_of_methodNamed B.named, atoms_spec (ws := wsX10_isSheet) B.pre, B.notSynchronized⟩
  obtain ⟨hx, hb, hr, hml, hown, hts, hlk⟩ := id C0
  have hl := lv_entry ([.int p0]) (n := 1) (Nat.le_of_ble_eq_true rfl)
  rw [lg_entry_eq]
  generalize (lg_sl ([.int p0]) ++ List.replicate (1 - (lg_sl ([.int p0])).length) Slot.unset).toArray = ls at hl ⊢
  have hl : lv_has ls 1 [(0, .int p0)] := hl
  rw [fX10_isSheet] at hf
  refine lv_iload_n hx hb dX10_isSheet_0 rfl (lv_at hl 0 rfl) ?_
  refine lv_iconst (v := 0) hx hb dX10_isSheet_1 (by decide) ?_
  refine lv_iconst (v := 1) hx hb dX10_isSheet_2 (by decide) ?_
  obtain ⟨σ1, r2, h3, hf⟩ := o_obn hf
  refine j_iS (rest := []) I ⟨hx, hb, hml, hown, hts⟩ (ct_X10_isIn σ p0 0 1 _ h3) (va_cwS 3 hts gX10_isSheet_X10_isIn rfl rfl rfl (by decide +kernel) ⟨Nat.le_of_ble_eq_true rfl, Nat.le_of_ble_eq_true rfl⟩) rfl hl.1 rfl (Nat.le_of_ble_eq_true rfl) dX10_isSheet_3 ⟨Nat.zero_le _, Nat.zero_le _⟩ (fun H locs I => ?_)
  obtain ⟨b4, hf⟩ := o_yb hf
  exact j_iret I hx hb hr (o_bool b4) hlk hf dX10_isSheet_6

theorem iw_X10_sheet_X10 : ∀ w ∈ u_ws RX10 TX10 37, w ∈ wsX10_sheet := by decide +kernel
set_option maxHeartbeats 4000000 in
set_option maxRecDepth 100000 in
theorem bX10_sheet_L32 {p : Program} {l : Launch} {e : Env} {s : State} {m : MethodId} {args : Array Value} {below : List Frame} {meth : Method} {c : Code} {D : va_G} {g : Nat → Nat} {Y : YT} {bP : Nat} {σ0 : St} {res : St × Int32} (C0 : MC p s m args meth c cX10_sheet 4 (some .int) RX10 wsX10_sheet) : ∀ (n : Nat) (σ : St) (a1 : Int32) (a2 : Int32) (a3 : Int32) (H : Heap) (locs : List Loc) (ls : Array Slot), fX10_sheet_L32 n σ a1 a2 a3 = some res → JW D 27 g (KM g Y) Y bP (va_A (wd 27 g (KM g Y) σ0) s.heap.size) s σ H locs → lv_has ls 4 [(0, .ref (g 0)), (1, .int a1), (2, .int a2), (3, .int a3)] → W p l e (⟨2, 0, 0, 42⟩ : Room) s m args below meth c H locs 0 0 (MQ below (Qi D 27 g (KM g Y) Y σ0 res s.heap.size) args s 0 0 (va_A (wd 27 g (KM g Y) σ0) s.heap.size)) (F0 m 32 ls []) := by
  have C0 := C0
  obtain ⟨hx, hb, hr, hml, hown, hts, hlk⟩ := id C0
  intro n
  induction n with
  | zero =>
    intro σ a1 a2 a3 H locs ls hf
    cases hf
  | succ n ih =>
    intro σ a1 a2 a3 H locs ls hf I hl
    rw [fX10_sheet_L32] at hf
    refine lv_iload_n hx hb dX10_sheet_32 rfl (lv_at hl 3 rfl) ?_
    refine lv_iload_n hx hb dX10_sheet_33 rfl (lv_at hl 2 rfl) ?_
    refine lv_icmp_ge (tgt := 55) hx hb dX10_sheet_34 (by decide) (fun c9 => ?_) (fun c9 => ?_)
    · have hf := i_t c9 hf
      refine lv_iload_n hx hb dX10_sheet_55 rfl (lv_at hl 2 rfl) ?_
      exact j_iret I hx hb hr rfl hlk hf dX10_sheet_56
    · have hf := i_f c9 hf
      refine lv_aload_n hx hb dX10_sheet_37 rfl (lv_at hl 0 rfl) ?_
      refine j_get I hx hb hts iw_X10_sheet_X10 hown 0 (by decide) (km0 g Y _) rfl 21 (by decide) (hts (.fieldLink RX10 62 "ReelNightModel" "numbers" "[I") (by decide +kernel)) rfl dX10_sheet_38 ?_
      refine lv_bipush (v := 24) hx hb dX10_sheet_41 (by decide) ?_
      refine lv_iload_n hx hb dX10_sheet_43 rfl (lv_at hl 1 rfl) ?_
      refine lv_imul hx hb dX10_sheet_44 ?_
      refine lv_iload_n hx hb dX10_sheet_45 rfl (lv_at hl 3 rfl) ?_
      refine lv_iadd hx hb dX10_sheet_46 ?_
      refine lv_iconst (v := 0) hx hb dX10_sheet_47 (by decide) ?_
      obtain ⟨b10, hf⟩ := o_nb hf
      obtain ⟨σ11, eσ11, hf⟩ := o_stp hf
      refine j_ast I hx hb 15 (by decide) (km15 g Y) b10 eσ11 dX10_sheet_48 (fun H locs I => ?_)
      refine lv_iinc (v := (a3 + 1)) (lv' := [(3, .int (a3 + 1)), (0, .ref (g 0)), (1, .int a1), (2, .int a2)]) hx hb dX10_sheet_49 hl (k := 3) rfl rfl (by decide) rfl (fun ls hl => ?_)
      refine lv_goto (tgt := 32) hx hb dX10_sheet_52 (by decide) ?_
      exact ih σ11 a1 a2 (a3 + 1) _ _ _ hf I (lv_sub hl [1, 2, 3, 0] rfl)
set_option maxHeartbeats 4000000 in
set_option maxRecDepth 100000 in
theorem ct_X10_sheet {l : Launch} {D : va_G} {g : Nat → Nat} {Y : YT} {bP : Nat} (σ : St) (p0 : Int32) (p1 : Int32) (res : St × Int32) (hf : fX10_sheet σ p0 p1 = some res) : Ci l yX10_sheet wsX10_sheet ⟨2, 0, 0, 42⟩ D 27 g (KM g Y) Y bP [.ref (g 0), .int p0, .int p1] σ res := by
  intro sz
  refine Met.ofW (cc := cX10_sheet) (maxL := 4) (ret := (some .int)) (by decide) rfl ?_
  intro p e s m args below meth c s₁ B hml hv
  obtain ⟨rfl, rfl, I⟩ := j_start hv
  have C0 : MC p s m _ meth c cX10_sheet 4 (some .int) RX10 wsX10_sheet := ⟨B.exec, B.bytes, B.returns, hml, findClass_of_methodNamed B.named, atoms_spec (ws := wsX10_sheet) B.pre, B.notSynchronized⟩
  obtain ⟨hx, hb, hr, hml, hown, hts, hlk⟩ := id C0
  have hl := lv_entry ([.ref (g 0), .int p0, .int p1]) (n := 4) (Nat.le_of_ble_eq_true rfl)
  rw [lg_entry_eq]
  generalize (lg_sl ([.ref (g 0), .int p0, .int p1]) ++ List.replicate (4 - (lg_sl ([.ref (g 0), .int p0, .int p1])).length) Slot.unset).toArray = ls at hl ⊢
  have hl : lv_has ls 4 [(0, .ref (g 0)), (1, .int p0), (2, .int p1)] := hl
  rw [fX10_sheet] at hf
  refine lv_iload_n hx hb dX10_sheet_0 rfl (lv_at hl 1 rfl) ?_
  obtain ⟨σ1, r2, h3, hf⟩ := o_obn hf
  refine j_iS (rest := []) I ⟨hx, hb, hml, hown, hts⟩ (ct_X10_isSheet σ p0 _ h3) (va_cwS 1 hts gX10_sheet_X10_isSheet rfl rfl rfl (by decide +kernel) ⟨Nat.le_of_ble_eq_true rfl, Nat.le_of_ble_eq_true rfl⟩) rfl hl.1 rfl (Nat.le_of_ble_eq_true rfl) dX10_sheet_1 ⟨Nat.zero_le _, Nat.zero_le _⟩ (fun H locs I => ?_)
  refine lv_if_eq (tgt := 13) hx hb dX10_sheet_4 (by decide) (fun c4 => ?_) (fun c4 => ?_)
  · have hf := i_t c4 hf
    refine lv_ldc hx hb hown (hts (.constant RX10 109 (-1000000001)) (by decide +kernel)) dX10_sheet_13 ?_
    exact j_iret I hx hb hr rfl hlk hf dX10_sheet_15
  · have hf := i_f c4 hf
    refine lv_iload_n hx hb dX10_sheet_7 rfl (lv_at hl 2 rfl) ?_
    refine lv_bipush (v := 24) hx hb dX10_sheet_8 (by decide) ?_
    refine lv_icmp_le (tgt := 16) hx hb dX10_sheet_10 (by decide) (fun c5 => ?_) (fun c5 => ?_)
    · have hf := i_t c5 hf
      refine lv_iload_n hx hb dX10_sheet_16 rfl (lv_at hl 2 rfl) ?_
      refine lv_if_ge (tgt := 23) hx hb dX10_sheet_17 (by decide) (fun c6 => ?_) (fun c6 => ?_)
      · have hf := i_t c6 hf
        refine lv_aload_n hx hb dX10_sheet_23 rfl (lv_at hl 0 rfl) ?_
        refine j_get I hx hb hts iw_X10_sheet_X10 hown 0 (by decide) (km0 g Y _) rfl 20 (by decide) (hts (.fieldLink RX10 59 "ReelNightModel" "places" "[I") (by decide +kernel)) rfl dX10_sheet_24 ?_
        refine lv_iload_n hx hb dX10_sheet_27 rfl (lv_at hl 1 rfl) ?_
        refine lv_iload_n hx hb dX10_sheet_28 rfl (lv_at hl 2 rfl) ?_
        obtain ⟨b7, hf⟩ := o_nb hf
        obtain ⟨σ8, eσ8, hf⟩ := o_stp hf
        refine j_ast I hx hb 14 (by decide) (km14 g Y) b7 eσ8 dX10_sheet_29 (fun H locs I => ?_)
        refine lv_iconst (v := 0) hx hb dX10_sheet_30 (by decide) ?_
        refine lv_istore_n (lv' := [(3, .int 0), (0, .ref (g 0)), (1, .int p0), (2, .int p1)]) hx hb dX10_sheet_31 rfl hl (by decide) rfl (fun ls hl => ?_)
        refine bX10_sheet_L32 C0 50 σ8 p0 p1 0 _ _ _ hf I (lv_sub hl [1, 2, 3, 0] rfl)
      · have hf := i_f c6 hf
        refine lv_ldc hx hb hown (hts (.constant RX10 214 (-1000000014)) (by decide +kernel)) dX10_sheet_20 ?_
        exact j_iret I hx hb hr rfl hlk hf dX10_sheet_22
    · have hf := i_f c5 hf
      refine lv_ldc hx hb hown (hts (.constant RX10 109 (-1000000001)) (by decide +kernel)) dX10_sheet_13 ?_
      exact j_iret I hx hb hr rfl hlk hf dX10_sheet_15

theorem iw_X10_mark_X10 : ∀ w ∈ u_ws RX10 TX10 37, w ∈ wsX10_mark := by decide +kernel
set_option maxHeartbeats 4000000 in
set_option maxRecDepth 100000 in
theorem ct_X10_mark {l : Launch} {D : va_G} {g : Nat → Nat} {Y : YT} {bP : Nat} (σ : St) (p0 : Int32) (p1 : Int32) (p2 : Int32) (res : St × Int32) (hf : fX10_mark σ p0 p1 p2 = some res) : Ci l yX10_mark wsX10_mark ⟨2, 0, 0, 42⟩ D 27 g (KM g Y) Y bP [.ref (g 0), .int p0, .int p1, .int p2] σ res := by
  intro sz
  refine Met.ofW (cc := cX10_mark) (maxL := 5) (ret := (some .int)) (by decide) rfl ?_
  intro p e s m args below meth c s₁ B hml hv
  obtain ⟨rfl, rfl, I⟩ := j_start hv
  have C0 : MC p s m _ meth c cX10_mark 5 (some .int) RX10 wsX10_mark := ⟨B.exec, B.bytes, B.returns, hml, findClass_of_methodNamed B.named, atoms_spec (ws := wsX10_mark) B.pre, B.notSynchronized⟩
  obtain ⟨hx, hb, hr, hml, hown, hts, hlk⟩ := id C0
  have hl := lv_entry ([.ref (g 0), .int p0, .int p1, .int p2]) (n := 5) (Nat.le_of_ble_eq_true rfl)
  rw [lg_entry_eq]
  generalize (lg_sl ([.ref (g 0), .int p0, .int p1, .int p2]) ++ List.replicate (5 - (lg_sl ([.ref (g 0), .int p0, .int p1, .int p2])).length) Slot.unset).toArray = ls at hl ⊢
  have hl : lv_has ls 5 [(0, .ref (g 0)), (1, .int p0), (2, .int p1), (3, .int p2)] := hl
  rw [fX10_mark] at hf
  refine lv_iload_n hx hb dX10_mark_0 rfl (lv_at hl 1 rfl) ?_
  obtain ⟨σ1, r2, h3, hf⟩ := o_obn hf
  refine j_iS (rest := []) I ⟨hx, hb, hml, hown, hts⟩ (ct_X10_isSheet σ p0 _ h3) (va_cwS 1 hts gX10_mark_X10_isSheet rfl rfl rfl (by decide +kernel) ⟨Nat.le_of_ble_eq_true rfl, Nat.le_of_ble_eq_true rfl⟩) rfl hl.1 rfl (Nat.le_of_ble_eq_true rfl) dX10_mark_1 ⟨Nat.zero_le _, Nat.zero_le _⟩ (fun H locs I => ?_)
  refine lv_if_ne (tgt := 10) hx hb dX10_mark_4 (by decide) (fun c4 => ?_) (fun c4 => ?_)
  · have hf := i_f c4 hf
    refine lv_aload_n hx hb dX10_mark_10 rfl (lv_at hl 0 rfl) ?_
    refine j_get I hx hb hts iw_X10_mark_X10 hown 0 (by decide) (km0 g Y _) rfl 20 (by decide) (hts (.fieldLink RX10 59 "ReelNightModel" "places" "[I") (by decide +kernel)) rfl dX10_mark_11 ?_
    refine lv_iload_n hx hb dX10_mark_14 rfl (lv_at hl 1 rfl) ?_
    obtain ⟨b5, hf⟩ := o_nb hf
    refine j_ald I hx hb 14 (by decide) (km14 g Y _) b5 dX10_mark_15 ?_
    refine lv_if_ge (tgt := 22) hx hb dX10_mark_16 (by decide) (fun c6 => ?_) (fun c6 => ?_)
    · have hf := i_t c6 hf
      refine lv_iload_n hx hb dX10_mark_22 rfl (lv_at hl 2 rfl) ?_
      refine lv_iconst (v := 0) hx hb dX10_mark_23 (by decide) ?_
      refine lv_aload_n hx hb dX10_mark_24 rfl (lv_at hl 0 rfl) ?_
      refine j_get I hx hb hts iw_X10_mark_X10 hown 0 (by decide) (km0 g Y _) rfl 20 (by decide) (hts (.fieldLink RX10 59 "ReelNightModel" "places" "[I") (by decide +kernel)) rfl dX10_mark_25 ?_
      refine lv_iload_n hx hb dX10_mark_28 rfl (lv_at hl 1 rfl) ?_
      obtain ⟨b7, hf⟩ := o_nb hf
      refine j_ald I hx hb 14 (by decide) (km14 g Y _) b7 dX10_mark_29 ?_
      refine lv_iconst (v := 1) hx hb dX10_mark_30 (by decide) ?_
      refine lv_isub hx hb dX10_mark_31 ?_
      obtain ⟨σ8, r9, h10, hf⟩ := o_obn hf
      refine j_iS (rest := []) I ⟨hx, hb, hml, hown, hts⟩ (ct_X10_isIn σ1 p1 0 ((σ1 14 p0.toNatClampNeg) - 1) _ h10) (va_cwS 3 hts gX10_mark_X10_isIn rfl rfl rfl (by decide +kernel) ⟨Nat.le_of_ble_eq_true rfl, Nat.le_of_ble_eq_true rfl⟩) rfl hl.1 rfl (Nat.le_of_ble_eq_true rfl) dX10_mark_32 ⟨Nat.zero_le _, Nat.zero_le _⟩ (fun H locs I => ?_)
      refine lv_if_ne (tgt := 41) hx hb dX10_mark_35 (by decide) (fun c11 => ?_) (fun c11 => ?_)
      · have hf := i_f c11 hf
        refine lv_aload_n hx hb dX10_mark_41 rfl (lv_at hl 0 rfl) ?_
        refine j_get I hx hb hts iw_X10_mark_X10 hown 0 (by decide) (km0 g Y _) rfl 21 (by decide) (hts (.fieldLink RX10 62 "ReelNightModel" "numbers" "[I") (by decide +kernel)) rfl dX10_mark_42 ?_
        refine lv_bipush (v := 24) hx hb dX10_mark_45 (by decide) ?_
        refine lv_iload_n hx hb dX10_mark_47 rfl (lv_at hl 1 rfl) ?_
        refine lv_imul hx hb dX10_mark_48 ?_
        refine lv_iload_n hx hb dX10_mark_49 rfl (lv_at hl 2 rfl) ?_
        refine lv_iadd hx hb dX10_mark_50 ?_
        obtain ⟨b12, hf⟩ := o_nb hf
        refine j_ald I hx hb 15 (by decide) (km15 g Y _) b12 dX10_mark_51 ?_
        obtain ⟨v13, ev13, hf⟩ := o_itp hf
        refine top_eq ev13 ?_
        refine lv_istore (lv' := [(4, .int v13), (0, .ref (g 0)), (1, .int p0), (2, .int p1), (3, .int p2)]) hx hb dX10_mark_52 hl (by decide) rfl (fun ls hl => ?_)
        refine lv_aload_n hx hb dX10_mark_54 rfl (lv_at hl 1 rfl) ?_
        refine j_get I hx hb hts iw_X10_mark_X10 hown 0 (by decide) (km0 g Y _) rfl 21 (by decide) (hts (.fieldLink RX10 62 "ReelNightModel" "numbers" "[I") (by decide +kernel)) rfl dX10_mark_55 ?_
        refine lv_bipush (v := 24) hx hb dX10_mark_58 (by decide) ?_
        refine lv_iload_n hx hb dX10_mark_60 rfl (lv_at hl 2 rfl) ?_
        refine lv_imul hx hb dX10_mark_61 ?_
        refine lv_iload_n hx hb dX10_mark_62 rfl (lv_at hl 3 rfl) ?_
        refine lv_iadd hx hb dX10_mark_63 ?_
        refine lv_iload_n hx hb dX10_mark_64 rfl (lv_at hl 4 rfl) ?_
        refine lv_i2s hx hb dX10_mark_65 rfl ?_
        obtain ⟨b14, hf⟩ := o_nb hf
        obtain ⟨σ15, eσ15, hf⟩ := o_stp hf
        refine j_ast I hx hb 15 (by decide) (km15 g Y) b14 eσ15 dX10_mark_66 (fun H locs I => ?_)
        refine lv_iload hx hb dX10_mark_67 (lv_at hl 0 rfl) ?_
        exact j_iret I hx hb hr rfl hlk hf dX10_mark_69
      · have hf := i_t c11 hf
        refine lv_ldc hx hb hown (hts (.constant RX10 215 (-1000000013)) (by decide +kernel)) dX10_mark_38 ?_
        exact j_iret I hx hb hr rfl hlk hf dX10_mark_40
    · have hf := i_f c6 hf
      refine lv_ldc hx hb hown (hts (.constant RX10 208 (-1000000011)) (by decide +kernel)) dX10_mark_19 ?_
      exact j_iret I hx hb hr rfl hlk hf dX10_mark_21
  · have hf := i_t c4 hf
    refine lv_ldc hx hb hown (hts (.constant RX10 109 (-1000000001)) (by decide +kernel)) dX10_mark_7 ?_
    exact j_iret I hx hb hr rfl hlk hf dX10_mark_9

theorem iw_X10_copy_X10 : ∀ w ∈ u_ws RX10 TX10 37, w ∈ wsX10_copy := by decide +kernel
set_option maxHeartbeats 4000000 in
set_option maxRecDepth 100000 in
theorem bX10_copy_L93 {p : Program} {l : Launch} {e : Env} {s : State} {m : MethodId} {args : Array Value} {below : List Frame} {meth : Method} {c : Code} {D : va_G} {g : Nat → Nat} {Y : YT} {bP : Nat} {σ0 : St} {res : St × Int32} (C0 : MC p s m args meth c cX10_copy 7 (some .int) RX10 wsX10_copy) {K127 : St → Int32 → Int32 → Int32 → Option (St × Int32)} (hK127 : ∀ (σ : St) (a3 : Int32) (a4 : Int32) (a5 : Int32) (H : Heap) (locs : List Loc) (ls : Array Slot), K127 σ a3 a4 a5 = some res → JW D 27 g (KM g Y) Y bP (va_A (wd 27 g (KM g Y) σ0) s.heap.size) s σ H locs → lv_has ls 7 [(0, .ref (g 0)), (3, .int a3), (4, .int a4), (5, .int a5)] → W p l e (⟨2, 0, 0, 42⟩ : Room) s m args below meth c H locs 0 0 (MQ below (Qi D 27 g (KM g Y) Y σ0 res s.heap.size) args s 0 0 (va_A (wd 27 g (KM g Y) σ0) s.heap.size)) (F0 m 127 ls [])) : ∀ (n : Nat) (σ : St) (a1 : Int32) (a2 : Int32) (a3 : Int32) (a4 : Int32) (a5 : Int32) (a6 : Int32) (H : Heap) (locs : List Loc) (ls : Array Slot), fX10_copy_L93 K127 n σ a1 a2 a3 a4 a5 a6 = some res → JW D 27 g (KM g Y) Y bP (va_A (wd 27 g (KM g Y) σ0) s.heap.size) s σ H locs → lv_has ls 7 [(0, .ref (g 0)), (1, .int a1), (2, .int a2), (3, .int a3), (4, .int a4), (5, .int a5), (6, .int a6)] → W p l e (⟨2, 0, 0, 42⟩ : Room) s m args below meth c H locs 0 0 (MQ below (Qi D 27 g (KM g Y) Y σ0 res s.heap.size) args s 0 0 (va_A (wd 27 g (KM g Y) σ0) s.heap.size)) (F0 m 93 ls []) := by
  have C0 := C0
  obtain ⟨hx, hb, hr, hml, hown, hts, hlk⟩ := id C0
  intro n
  induction n with
  | zero =>
    intro σ a1 a2 a3 a4 a5 a6 H locs ls hf
    cases hf
  | succ n ih =>
    intro σ a1 a2 a3 a4 a5 a6 H locs ls hf I hl
    rw [fX10_copy_L93] at hf
    refine lv_iload hx hb dX10_copy_93 (lv_at hl 6 rfl) ?_
    refine lv_iload hx hb dX10_copy_95 (lv_at hl 5 rfl) ?_
    refine lv_icmp_ge (tgt := 127) hx hb dX10_copy_97 (by decide) (fun c20 => ?_) (fun c20 => ?_)
    · have hf := i_t c20 hf
      exact hK127 σ a3 a4 a5 _ _ _ hf I (lv_sub hl [0, 3, 4, 5] rfl)
    · have hf := i_f c20 hf
      refine lv_aload_n hx hb dX10_copy_100 rfl (lv_at hl 0 rfl) ?_
      refine j_get I hx hb hts iw_X10_copy_X10 hown 0 (by decide) (km0 g Y _) rfl 36 (by decide) (hts (.fieldLink RX10 96 "ReelNightModel" "carried" "[I") (by decide +kernel)) rfl dX10_copy_101 ?_
      refine lv_iload hx hb dX10_copy_104 (lv_at hl 6 rfl) ?_
      refine lv_aload_n hx hb dX10_copy_106 rfl (lv_at hl 0 rfl) ?_
      refine j_get I hx hb hts iw_X10_copy_X10 hown 0 (by decide) (km0 g Y _) rfl 21 (by decide) (hts (.fieldLink RX10 62 "ReelNightModel" "numbers" "[I") (by decide +kernel)) rfl dX10_copy_107 ?_
      refine lv_bipush (v := 24) hx hb dX10_copy_110 (by decide) ?_
      refine lv_iload_n hx hb dX10_copy_112 rfl (lv_at hl 1 rfl) ?_
      refine lv_imul hx hb dX10_copy_113 ?_
      refine lv_iload_n hx hb dX10_copy_114 rfl (lv_at hl 2 rfl) ?_
      refine lv_iadd hx hb dX10_copy_115 ?_
      refine lv_iload hx hb dX10_copy_116 (lv_at hl 6 rfl) ?_
      refine lv_iadd hx hb dX10_copy_118 ?_
      obtain ⟨b21, hf⟩ := o_nb hf
      refine j_ald I hx hb 15 (by decide) (km15 g Y _) b21 dX10_copy_119 ?_
      obtain ⟨b22, hf⟩ := o_nb hf
      obtain ⟨σ23, eσ23, hf⟩ := o_stp hf
      refine j_ast I hx hb 26 (by decide) (km26 g Y) b22 eσ23 dX10_copy_120 (fun H locs I => ?_)
      refine lv_iinc (v := (a6 + 1)) (lv' := [(6, .int (a6 + 1)), (0, .ref (g 0)), (1, .int a1), (2, .int a2), (3, .int a3), (4, .int a4), (5, .int a5)]) hx hb dX10_copy_121 hl (k := 6) rfl rfl (by decide) rfl (fun ls hl => ?_)
      refine lv_goto (tgt := 93) hx hb dX10_copy_124 (by decide) ?_
      exact ih σ23 a1 a2 a3 a4 a5 (a6 + 1) _ _ _ hf I (lv_sub hl [1, 2, 3, 4, 5, 6, 0] rfl)
set_option maxHeartbeats 4000000 in
set_option maxRecDepth 100000 in
theorem bX10_copy_L130 {p : Program} {l : Launch} {e : Env} {s : State} {m : MethodId} {args : Array Value} {below : List Frame} {meth : Method} {c : Code} {D : va_G} {g : Nat → Nat} {Y : YT} {bP : Nat} {σ0 : St} {res : St × Int32} (C0 : MC p s m args meth c cX10_copy 7 (some .int) RX10 wsX10_copy) : ∀ (n : Nat) (σ : St) (a3 : Int32) (a4 : Int32) (a5 : Int32) (a6 : Int32) (H : Heap) (locs : List Loc) (ls : Array Slot), fX10_copy_L130 n σ a3 a4 a5 a6 = some res → JW D 27 g (KM g Y) Y bP (va_A (wd 27 g (KM g Y) σ0) s.heap.size) s σ H locs → lv_has ls 7 [(0, .ref (g 0)), (3, .int a3), (4, .int a4), (5, .int a5), (6, .int a6)] → W p l e (⟨2, 0, 0, 42⟩ : Room) s m args below meth c H locs 0 0 (MQ below (Qi D 27 g (KM g Y) Y σ0 res s.heap.size) args s 0 0 (va_A (wd 27 g (KM g Y) σ0) s.heap.size)) (F0 m 130 ls []) := by
  have C0 := C0
  obtain ⟨hx, hb, hr, hml, hown, hts, hlk⟩ := id C0
  intro n
  induction n with
  | zero =>
    intro σ a3 a4 a5 a6 H locs ls hf
    cases hf
  | succ n ih =>
    intro σ a3 a4 a5 a6 H locs ls hf I hl
    rw [fX10_copy_L130] at hf
    refine lv_iload hx hb dX10_copy_130 (lv_at hl 4 rfl) ?_
    refine lv_iload hx hb dX10_copy_132 (lv_at hl 3 rfl) ?_
    refine lv_icmp_ge (tgt := 165) hx hb dX10_copy_134 (by decide) (fun c28 => ?_) (fun c28 => ?_)
    · have hf := i_t c28 hf
      refine lv_iload hx hb dX10_copy_165 (lv_at hl 3 rfl) ?_
      exact j_iret I hx hb hr rfl hlk hf dX10_copy_167
    · have hf := i_f c28 hf
      refine lv_aload_n hx hb dX10_copy_137 rfl (lv_at hl 0 rfl) ?_
      refine j_get I hx hb hts iw_X10_copy_X10 hown 0 (by decide) (km0 g Y _) rfl 21 (by decide) (hts (.fieldLink RX10 62 "ReelNightModel" "numbers" "[I") (by decide +kernel)) rfl dX10_copy_138 ?_
      refine lv_bipush (v := 24) hx hb dX10_copy_141 (by decide) ?_
      refine lv_iload_n hx hb dX10_copy_143 rfl (lv_at hl 1 rfl) ?_
      refine lv_imul hx hb dX10_copy_144 ?_
      refine lv_iload hx hb dX10_copy_145 (lv_at hl 2 rfl) ?_
      refine lv_iadd hx hb dX10_copy_147 ?_
      refine lv_iload hx hb dX10_copy_148 (lv_at hl 4 rfl) ?_
      refine lv_iadd hx hb dX10_copy_150 ?_
      refine lv_aload_n hx hb dX10_copy_151 rfl (lv_at hl 0 rfl) ?_
      refine j_get I hx hb hts iw_X10_copy_X10 hown 0 (by decide) (km0 g Y _) rfl 36 (by decide) (hts (.fieldLink RX10 96 "ReelNightModel" "carried" "[I") (by decide +kernel)) rfl dX10_copy_152 ?_
      refine lv_iload hx hb dX10_copy_155 (lv_at hl 4 rfl) ?_
      obtain ⟨b29, hf⟩ := o_nb hf
      refine j_ald I hx hb 26 (by decide) (km26 g Y _) b29 dX10_copy_157 ?_
      obtain ⟨b30, hf⟩ := o_nb hf
      obtain ⟨σ31, eσ31, hf⟩ := o_stp hf
      refine j_ast I hx hb 15 (by decide) (km15 g Y) b30 eσ31 dX10_copy_158 (fun H locs I => ?_)
      refine lv_iinc (v := (a6 + 1)) (lv' := [(6, .int (a6 + 1)), (0, .ref (g 0)), (3, .int a3), (4, .int a4), (5, .int a5)]) hx hb dX10_copy_159 hl (k := 4) rfl rfl (by decide) rfl (fun ls hl => ?_)
      refine lv_goto (tgt := 130) hx hb dX10_copy_162 (by decide) ?_
      exact ih σ31 a3 a4 a5 (a6 + 1) _ _ _ hf I (lv_sub hl [1, 2, 3, 4, 0] rfl)
set_option maxHeartbeats 4000000 in
set_option maxRecDepth 100000 in
theorem ct_X10_copy {l : Launch} {D : va_G} {g : Nat → Nat} {Y : YT} {bP : Nat} (σ : St) (p0 : Int32) (p1 : Int32) (p2 : Int32) (p3 : Int32) (p4 : Int32) (res : St × Int32) (hf : fX10_copy σ p0 p1 p2 p3 p4 = some res) : Ci l yX10_copy wsX10_copy ⟨2, 0, 0, 42⟩ D 27 g (KM g Y) Y bP [.ref (g 0), .int p0, .int p1, .int p2, .int p3, .int p4] σ res := by
  intro sz
  refine Met.ofW (cc := cX10_copy) (maxL := 7) (ret := (some .int)) (by decide) rfl ?_
  intro p e s m args below meth c s₁ B hml hv
  obtain ⟨rfl, rfl, I⟩ := j_start hv
  have C0 : MC p s m _ meth c cX10_copy 7 (some .int) RX10 wsX10_copy := ⟨B.exec, B.bytes, B.returns, hml, findClass_of_methodNamed B.named, atoms_spec (ws := wsX10_copy) B.pre, B.notSynchronized⟩
  obtain ⟨hx, hb, hr, hml, hown, hts, hlk⟩ := id C0
  have hl := lv_entry ([.ref (g 0), .int p0, .int p1, .int p2, .int p3, .int p4]) (n := 7) (Nat.le_of_ble_eq_true rfl)
  rw [lg_entry_eq]
  generalize (lg_sl ([.ref (g 0), .int p0, .int p1, .int p2, .int p3, .int p4]) ++ List.replicate (7 - (lg_sl ([.ref (g 0), .int p0, .int p1, .int p2, .int p3, .int p4])).length) Slot.unset).toArray = ls at hl ⊢
  have hl : lv_has ls 7 [(0, .ref (g 0)), (1, .int p0), (2, .int p1), (3, .int p2), (4, .int p3), (5, .int p4)] := hl
  rw [fX10_copy] at hf
  refine lv_iload_n hx hb dX10_copy_0 rfl (lv_at hl 1 rfl) ?_
  obtain ⟨σ1, r2, h3, hf⟩ := o_obn hf
  refine j_iS (rest := []) I ⟨hx, hb, hml, hown, hts⟩ (ct_X10_isSheet σ p0 _ h3) (va_cwS 1 hts gX10_copy_X10_isSheet rfl rfl rfl (by decide +kernel) ⟨Nat.le_of_ble_eq_true rfl, Nat.le_of_ble_eq_true rfl⟩) rfl hl.1 rfl (Nat.le_of_ble_eq_true rfl) dX10_copy_1 ⟨Nat.zero_le _, Nat.zero_le _⟩ (fun H locs I => ?_)
  refine lv_if_eq (tgt := 14) hx hb dX10_copy_4 (by decide) (fun c4 => ?_) (fun c4 => ?_)
  · have hf := i_t c4 hf
    refine lv_ldc hx hb hown (hts (.constant RX10 109 (-1000000001)) (by decide +kernel)) dX10_copy_14 ?_
    exact j_iret I hx hb hr rfl hlk hf dX10_copy_16
  · have hf := i_f c4 hf
    refine lv_iload_n hx hb dX10_copy_7 rfl (lv_at hl 3 rfl) ?_
    obtain ⟨σ5, r6, h7, hf⟩ := o_obn hf
    refine j_iS (rest := []) I ⟨hx, hb, hml, hown, hts⟩ (ct_X10_isSheet σ1 p2 _ h7) (va_cwS 1 hts gX10_copy_X10_isSheet rfl rfl rfl (by decide +kernel) ⟨Nat.le_of_ble_eq_true rfl, Nat.le_of_ble_eq_true rfl⟩) rfl hl.1 rfl (Nat.le_of_ble_eq_true rfl) dX10_copy_8 ⟨Nat.zero_le _, Nat.zero_le _⟩ (fun H locs I => ?_)
    refine lv_if_ne (tgt := 17) hx hb dX10_copy_11 (by decide) (fun c8 => ?_) (fun c8 => ?_)
    · have hf := i_f c8 hf
      refine lv_aload_n hx hb dX10_copy_17 rfl (lv_at hl 0 rfl) ?_
      refine j_get I hx hb hts iw_X10_copy_X10 hown 0 (by decide) (km0 g Y _) rfl 20 (by decide) (hts (.fieldLink RX10 59 "ReelNightModel" "places" "[I") (by decide +kernel)) rfl dX10_copy_18 ?_
      refine lv_iload_n hx hb dX10_copy_21 rfl (lv_at hl 1 rfl) ?_
      obtain ⟨b9, hf⟩ := o_nb hf
      refine j_ald I hx hb 14 (by decide) (km14 g Y _) b9 dX10_copy_22 ?_
      refine lv_if_lt (tgt := 35) hx hb dX10_copy_23 (by decide) (fun c10 => ?_) (fun c10 => ?_)
      · have hf := i_t c10 hf
        refine lv_ldc hx hb hown (hts (.constant RX10 208 (-1000000011)) (by decide +kernel)) dX10_copy_35 ?_
        exact j_iret I hx hb hr rfl hlk hf dX10_copy_37
      · have hf := i_f c10 hf
        refine lv_aload_n hx hb dX10_copy_26 rfl (lv_at hl 0 rfl) ?_
        refine j_get I hx hb hts iw_X10_copy_X10 hown 0 (by decide) (km0 g Y _) rfl 20 (by decide) (hts (.fieldLink RX10 59 "ReelNightModel" "places" "[I") (by decide +kernel)) rfl dX10_copy_27 ?_
        refine lv_iload_n hx hb dX10_copy_30 rfl (lv_at hl 3 rfl) ?_
        obtain ⟨b11, hf⟩ := o_nb hf
        refine j_ald I hx hb 14 (by decide) (km14 g Y _) b11 dX10_copy_31 ?_
        refine lv_if_ge (tgt := 38) hx hb dX10_copy_32 (by decide) (fun c12 => ?_) (fun c12 => ?_)
        · have hf := i_t c12 hf
          refine lv_iload_n hx hb dX10_copy_38 rfl (lv_at hl 2 rfl) ?_
          refine lv_if_lt (tgt := 87) hx hb dX10_copy_39 (by decide) (fun c13 => ?_) (fun c13 => ?_)
          · have hf := i_t c13 hf
            refine lv_ldc hx hb hown (hts (.constant RX10 215 (-1000000013)) (by decide +kernel)) dX10_copy_87 ?_
            exact j_iret I hx hb hr rfl hlk hf dX10_copy_89
          · have hf := i_f c13 hf
            refine lv_iload hx hb dX10_copy_42 (lv_at hl 4 rfl) ?_
            refine lv_if_lt (tgt := 87) hx hb dX10_copy_44 (by decide) (fun c14 => ?_) (fun c14 => ?_)
            · have hf := i_t c14 hf
              refine lv_ldc hx hb hown (hts (.constant RX10 215 (-1000000013)) (by decide +kernel)) dX10_copy_87 ?_
              exact j_iret I hx hb hr rfl hlk hf dX10_copy_89
            · have hf := i_f c14 hf
              refine lv_iload hx hb dX10_copy_47 (lv_at hl 5 rfl) ?_
              refine lv_if_lt (tgt := 87) hx hb dX10_copy_49 (by decide) (fun c15 => ?_) (fun c15 => ?_)
              · have hf := i_t c15 hf
                refine lv_ldc hx hb hown (hts (.constant RX10 215 (-1000000013)) (by decide +kernel)) dX10_copy_87 ?_
                exact j_iret I hx hb hr rfl hlk hf dX10_copy_89
              · have hf := i_f c15 hf
                refine lv_iload_n hx hb dX10_copy_52 rfl (lv_at hl 2 rfl) ?_
                refine lv_i2l hx hb dX10_copy_53 rfl ?_
                refine lv_iload hx hb dX10_copy_54 (lv_at hl 5 rfl) ?_
                refine lv_i2l hx hb dX10_copy_56 rfl ?_
                refine lv_ladd hx hb dX10_copy_57 ?_
                refine lv_aload_n hx hb dX10_copy_58 rfl (lv_at hl 0 rfl) ?_
                refine j_get I hx hb hts iw_X10_copy_X10 hown 0 (by decide) (km0 g Y _) rfl 20 (by decide) (hts (.fieldLink RX10 59 "ReelNightModel" "places" "[I") (by decide +kernel)) rfl dX10_copy_59 ?_
                refine lv_iload_n hx hb dX10_copy_62 rfl (lv_at hl 1 rfl) ?_
                obtain ⟨b16, hf⟩ := o_nb hf
                refine j_ald I hx hb 14 (by decide) (km14 g Y _) b16 dX10_copy_63 ?_
                refine lv_i2l hx hb dX10_copy_64 rfl ?_
                refine W.lcmp hx hb dX10_copy_65 ?_
                refine lv_if_gt (tgt := 87) hx hb dX10_copy_66 (by decide) (fun c17 => ?_) (fun c17 => ?_)
                · have hf := i_t c17 hf
                  refine lv_ldc hx hb hown (hts (.constant RX10 215 (-1000000013)) (by decide +kernel)) dX10_copy_87 ?_
                  exact j_iret I hx hb hr rfl hlk hf dX10_copy_89
                · have hf := i_f c17 hf
                  refine lv_iload hx hb dX10_copy_69 (lv_at hl 4 rfl) ?_
                  refine lv_i2l hx hb dX10_copy_71 rfl ?_
                  refine lv_iload hx hb dX10_copy_72 (lv_at hl 5 rfl) ?_
                  refine lv_i2l hx hb dX10_copy_74 rfl ?_
                  refine lv_ladd hx hb dX10_copy_75 ?_
                  refine lv_aload_n hx hb dX10_copy_76 rfl (lv_at hl 0 rfl) ?_
                  refine j_get I hx hb hts iw_X10_copy_X10 hown 0 (by decide) (km0 g Y _) rfl 20 (by decide) (hts (.fieldLink RX10 59 "ReelNightModel" "places" "[I") (by decide +kernel)) rfl dX10_copy_77 ?_
                  refine lv_iload_n hx hb dX10_copy_80 rfl (lv_at hl 3 rfl) ?_
                  obtain ⟨b18, hf⟩ := o_nb hf
                  refine j_ald I hx hb 14 (by decide) (km14 g Y _) b18 dX10_copy_81 ?_
                  refine lv_i2l hx hb dX10_copy_82 rfl ?_
                  refine W.lcmp hx hb dX10_copy_83 ?_
                  refine lv_if_le (tgt := 90) hx hb dX10_copy_84 (by decide) (fun c19 => ?_) (fun c19 => ?_)
                  · have hf := i_t c19 hf
                    refine lv_iconst (v := 0) hx hb dX10_copy_90 (by decide) ?_
                    refine lv_istore (lv' := [(6, .int 0), (0, .ref (g 0)), (1, .int p0), (2, .int p1), (3, .int p2), (4, .int p3), (5, .int p4)]) hx hb dX10_copy_91 hl (by decide) rfl (fun ls hl => ?_)
                    refine bX10_copy_L93 C0 ?_ 50 σ5 p0 p1 p2 p3 p4 0 _ _ _ hf I (lv_sub hl [1, 2, 3, 4, 5, 6, 0] rfl)
                    · intro σ24 a25 a26 a27 H locs ls hf I hl
                      refine lv_iconst (v := 0) hx hb dX10_copy_127 (by decide) ?_
                      refine lv_istore (lv' := [(6, .int 0), (0, .ref (g 0)), (3, .int a25), (4, .int a26), (5, .int a27)]) hx hb dX10_copy_128 hl (by decide) rfl (fun ls hl => ?_)
                      refine bX10_copy_L130 C0 50 σ24 a25 a26 a27 0 _ _ _ hf I (lv_sub hl [1, 2, 3, 4, 0] rfl)
                  · have hf := i_f c19 hf
                    refine lv_ldc hx hb hown (hts (.constant RX10 215 (-1000000013)) (by decide +kernel)) dX10_copy_87 ?_
                    exact j_iret I hx hb hr rfl hlk hf dX10_copy_89
        · have hf := i_f c12 hf
          refine lv_ldc hx hb hown (hts (.constant RX10 208 (-1000000011)) (by decide +kernel)) dX10_copy_35 ?_
          exact j_iret I hx hb hr rfl hlk hf dX10_copy_37
    · have hf := i_t c8 hf
      refine lv_ldc hx hb hown (hts (.constant RX10 109 (-1000000001)) (by decide +kernel)) dX10_copy_14 ?_
      exact j_iret I hx hb hr rfl hlk hf dX10_copy_16

theorem iw_X10_count_X10 : ∀ w ∈ u_ws RX10 TX10 37, w ∈ wsX10_count := by decide +kernel
set_option maxHeartbeats 4000000 in
set_option maxRecDepth 100000 in
theorem bX10_count_L71 {p : Program} {l : Launch} {e : Env} {s : State} {m : MethodId} {args : Array Value} {below : List Frame} {meth : Method} {c : Code} {D : va_G} {g : Nat → Nat} {Y : YT} {bP : Nat} {σ0 : St} {res : St × Int32} (C0 : MC p s m args meth c cX10_count 4 (some .int) RX10 wsX10_count) : ∀ (n : Nat) (σ : St) (a2 : Int32) (a3 : Int32) (H : Heap) (locs : List Loc) (ls : Array Slot), fX10_count_L71 n σ a2 a3 = some res → JW D 27 g (KM g Y) Y bP (va_A (wd 27 g (KM g Y) σ0) s.heap.size) s σ H locs → lv_has ls 4 [(0, .ref (g 0)), (2, .int a2), (3, .int a3)] → W p l e (⟨1, 0, 0, 20⟩ : Room) s m args below meth c H locs 0 0 (MQ below (Qi D 27 g (KM g Y) Y σ0 res s.heap.size) args s 0 0 (va_A (wd 27 g (KM g Y) σ0) s.heap.size)) (F0 m 71 ls []) := by
  have C0 := C0
  obtain ⟨hx, hb, hr, hml, hown, hts, hlk⟩ := id C0
  intro n
  induction n with
  | zero =>
    intro σ a2 a3 H locs ls hf
    cases hf
  | succ n ih =>
    intro σ a2 a3 H locs ls hf I hl
    rw [fX10_count_L71] at hf
    refine lv_iload_n hx hb dX10_count_71 rfl (lv_at hl 2 rfl) ?_
    refine lv_aload_n hx hb dX10_count_72 rfl (lv_at hl 0 rfl) ?_
    refine j_get I hx hb hts iw_X10_count_X10 hown 0 (by decide) (km0 g Y _) rfl 7 (by decide) (hts (.fieldLink RX10 106 "ReelNightModel" "reels" "I") (by decide +kernel)) rfl dX10_count_73 ?_
    refine lv_icmp_ge (tgt := 94) hx hb dX10_count_76 (by decide) (fun c10 => ?_) (fun c10 => ?_)
    · have hf := i_t c10 hf
      refine lv_iload_n hx hb dX10_count_94 rfl (lv_at hl 1 rfl) ?_
      exact j_iret I hx hb hr rfl hlk hf dX10_count_95
    · have hf := i_f c10 hf
      refine lv_iload_n hx hb dX10_count_79 rfl (lv_at hl 1 rfl) ?_
      refine lv_aload_n hx hb dX10_count_80 rfl (lv_at hl 0 rfl) ?_
      refine j_get I hx hb hts iw_X10_count_X10 hown 0 (by decide) (km0 g Y _) rfl 8 (by decide) (hts (.fieldLink RX10 28 "ReelNightModel" "frames" "[I") (by decide +kernel)) rfl dX10_count_81 ?_
      refine lv_iload_n hx hb dX10_count_84 rfl (lv_at hl 2 rfl) ?_
      obtain ⟨b11, hf⟩ := o_nb hf
      refine j_ald I hx hb 7 (by decide) (km7 g Y _) b11 dX10_count_85 ?_
      refine lv_iadd hx hb dX10_count_86 ?_
      obtain ⟨v12, ev12, hf⟩ := o_itp hf
      refine top_eq ev12 ?_
      refine lv_istore_n (lv' := [(2, .int v12), (0, .ref (g 0)), (3, .int a3)]) hx hb dX10_count_87 rfl hl (by decide) rfl (fun ls hl => ?_)
      refine lv_iinc (v := (a3 + 1)) (lv' := [(3, .int (a3 + 1)), (2, .int v12), (0, .ref (g 0))]) hx hb dX10_count_88 hl (k := 2) rfl rfl (by decide) rfl (fun ls hl => ?_)
      refine lv_goto (tgt := 71) hx hb dX10_count_91 (by decide) ?_
      exact ih σ v12 (a3 + 1) _ _ _ hf I (lv_sub hl [2, 1, 0] rfl)
set_option maxHeartbeats 4000000 in
set_option maxRecDepth 100000 in
theorem ct_X10_count {l : Launch} {D : va_G} {g : Nat → Nat} {Y : YT} {bP : Nat} (σ : St) (p0 : Int32) (res : St × Int32) (hf : fX10_count σ p0 = some res) : Ci l yX10_count wsX10_count ⟨1, 0, 0, 20⟩ D 27 g (KM g Y) Y bP [.ref (g 0), .int p0] σ res := by
  intro sz
  refine Met.ofW (cc := cX10_count) (maxL := 4) (ret := (some .int)) (by decide) rfl ?_
  intro p e s m args below meth c s₁ B hml hv
  obtain ⟨rfl, rfl, I⟩ := j_start hv
  have C0 : MC p s m _ meth c cX10_count 4 (some .int) RX10 wsX10_count := ⟨B.exec, B.bytes, B.returns, hml, findClass_of_methodNamed B.named, atoms_spec (ws := wsX10_count) B.pre, B.notSynchronized⟩
  obtain ⟨hx, hb, hr, hml, hown, hts, hlk⟩ := id C0
  have hl := lv_entry ([.ref (g 0), .int p0]) (n := 4) (Nat.le_of_ble_eq_true rfl)
  rw [lg_entry_eq]
  generalize (lg_sl ([.ref (g 0), .int p0]) ++ List.replicate (4 - (lg_sl ([.ref (g 0), .int p0])).length) Slot.unset).toArray = ls at hl ⊢
  have hl : lv_has ls 4 [(0, .ref (g 0)), (1, .int p0)] := hl
  rw [fX10_count] at hf
  refine lv_iconst (v := 0) hx hb dX10_count_0 (by decide) ?_
  refine lv_istore_n (lv' := [(2, .int 0), (0, .ref (g 0)), (1, .int p0)]) hx hb dX10_count_1 rfl hl (by decide) rfl (fun ls hl => ?_)
  refine lv_iload_n hx hb dX10_count_2 rfl (lv_at hl 2 rfl) ?_
  by_cases c1 : p0 = 0
  · have hf := i_t c1 hf
    refine lv_tableIn (tgt := 44) hx hb dX10_count_3 (by rw [c1]; decide) (by rw [c1]; decide) (off := 41) (by rw [c1]; rfl) (by decide) ?_
    refine lv_aload_n hx hb dX10_count_44 rfl (lv_at hl 1 rfl) ?_
    refine j_get I hx hb hts iw_X10_count_X10 hown 0 (by decide) (km0 g Y _) rfl 0 (by decide) (hts (.fieldLink RX10 99 "ReelNightModel" "houses" "I") (by decide +kernel)) rfl dX10_count_45 ?_
    exact j_iret I hx hb hr rfl hlk hf dX10_count_48
  have hf := i_f c1 hf
  have tc1 : ¬ Int32.toInt p0 = 0 := lv_neT c1 rfl
  by_cases c2 : p0 = 1
  · have hf := i_t c2 hf
    refine lv_tableIn (tgt := 49) hx hb dX10_count_3 (by rw [c2]; decide) (by rw [c2]; decide) (off := 46) (by rw [c2]; rfl) (by decide) ?_
    refine lv_aload_n hx hb dX10_count_49 rfl (lv_at hl 1 rfl) ?_
    refine j_get I hx hb hts iw_X10_count_X10 hown 0 (by decide) (km0 g Y _) rfl 7 (by decide) (hts (.fieldLink RX10 106 "ReelNightModel" "reels" "I") (by decide +kernel)) rfl dX10_count_50 ?_
    exact j_iret I hx hb hr rfl hlk hf dX10_count_53
  have hf := i_f c2 hf
  have tc2 : ¬ Int32.toInt p0 = 1 := lv_neT c2 rfl
  by_cases c3 : p0 = 2
  · have hf := i_t c3 hf
    refine lv_tableIn (tgt := 54) hx hb dX10_count_3 (by rw [c3]; decide) (by rw [c3]; decide) (off := 51) (by rw [c3]; rfl) (by decide) ?_
    refine lv_aload_n hx hb dX10_count_54 rfl (lv_at hl 1 rfl) ?_
    refine j_get I hx hb hts iw_X10_count_X10 hown 0 (by decide) (km0 g Y _) rfl 10 (by decide) (hts (.fieldLink RX10 118 "ReelNightModel" "many" "I") (by decide +kernel)) rfl dX10_count_55 ?_
    exact j_iret I hx hb hr rfl hlk hf dX10_count_58
  have hf := i_f c3 hf
  have tc3 : ¬ Int32.toInt p0 = 2 := lv_neT c3 rfl
  by_cases c4 : p0 = 3
  · have hf := i_t c4 hf
    refine lv_tableIn (tgt := 59) hx hb dX10_count_3 (by rw [c4]; decide) (by rw [c4]; decide) (off := 56) (by rw [c4]; rfl) (by decide) ?_
    refine lv_aload_n hx hb dX10_count_59 rfl (lv_at hl 1 rfl) ?_
    obtain ⟨σ5, r6, h7, hf⟩ := o_obn hf
    refine j_iV (rest := []) I ⟨hx, hb, hml, hown, hts⟩ (ct_X10_rides σ _ h7) (cwV 0 hts gX10_count_X10_rides rfl rfl rfl (by decide +kernel) ⟨Nat.le_of_ble_eq_true rfl, Nat.le_of_ble_eq_true rfl⟩) (by decide) (km0 g Y _) rfl rfl hl.1 rfl (Nat.le_of_ble_eq_true rfl) dX10_count_60 ⟨Nat.zero_le _, Nat.zero_le _⟩ (fun H locs I => ?_)
    exact j_iret I hx hb hr rfl hlk hf dX10_count_63
  have hf := i_f c4 hf
  have tc4 : ¬ Int32.toInt p0 = 3 := lv_neT c4 rfl
  by_cases c8 : p0 = 4
  · have hf := i_t c8 hf
    refine lv_tableIn (tgt := 64) hx hb dX10_count_3 (by rw [c8]; decide) (by rw [c8]; decide) (off := 61) (by rw [c8]; rfl) (by decide) ?_
    refine lv_aload_n hx hb dX10_count_64 rfl (lv_at hl 1 rfl) ?_
    refine j_get I hx hb hts iw_X10_count_X10 hown 0 (by decide) (km0 g Y _) rfl 13 (by decide) (hts (.fieldLink RX10 170 "ReelNightModel" "films" "I") (by decide +kernel)) rfl dX10_count_65 ?_
    exact j_iret I hx hb hr rfl hlk hf dX10_count_68
  have hf := i_f c8 hf
  have tc8 : ¬ Int32.toInt p0 = 4 := lv_neT c8 rfl
  by_cases c9 : p0 = 5
  · have hf := i_t c9 hf
    refine lv_tableIn (tgt := 69) hx hb dX10_count_3 (by rw [c9]; decide) (by rw [c9]; decide) (off := 66) (by rw [c9]; rfl) (by decide) ?_
    refine lv_iconst (v := 0) hx hb dX10_count_69 (by decide) ?_
    refine lv_istore_n (lv' := [(3, .int 0), (2, .int 0), (0, .ref (g 0)), (1, .int p0)]) hx hb dX10_count_70 rfl hl (by decide) rfl (fun ls hl => ?_)
    refine bX10_count_L71 C0 50 σ 0 0 _ _ _ hf I (lv_sub hl [2, 1, 0] rfl)
  have hf := i_f c9 hf
  have tc9 : ¬ Int32.toInt p0 = 5 := lv_neT c9 rfl
  by_cases c13 : p0 = 6
  · have hf := i_t c13 hf
    refine lv_tableIn (tgt := 96) hx hb dX10_count_3 (by rw [c13]; decide) (by rw [c13]; decide) (off := 93) (by rw [c13]; rfl) (by decide) ?_
    refine lv_aload_n hx hb dX10_count_96 rfl (lv_at hl 1 rfl) ?_
    refine j_get I hx hb hts iw_X10_count_X10 hown 0 (by decide) (km0 g Y _) rfl 20 (by decide) (hts (.fieldLink RX10 59 "ReelNightModel" "places" "[I") (by decide +kernel)) rfl dX10_count_97 ?_
    refine lv_iconst (v := 0) hx hb dX10_count_100 (by decide) ?_
    refine j_ald I hx hb 14 (by decide) (km14 g Y _) (show ¬ ((0 : Int32) < 0 ∨ 2 ≤ (0 : Int32).toNatClampNeg) from by decide) dX10_count_101 ?_
    refine lv_if_ge (tgt := 109) hx hb dX10_count_102 (by decide) (fun c14 => ?_) (fun c14 => ?_)
    · have hf := i_t c14 hf
      refine lv_iconst (v := 1) hx hb dX10_count_109 (by decide) ?_
      refine lv_aload_n hx hb dX10_count_110 rfl (lv_at hl 1 rfl) ?_
      refine j_get I hx hb hts iw_X10_count_X10 hown 0 (by decide) (km0 g Y _) rfl 20 (by decide) (hts (.fieldLink RX10 59 "ReelNightModel" "places" "[I") (by decide +kernel)) rfl dX10_count_111 ?_
      refine lv_iconst (v := 1) hx hb dX10_count_114 (by decide) ?_
      refine j_ald I hx hb 14 (by decide) (km14 g Y _) (show ¬ ((1 : Int32) < 0 ∨ 2 ≤ (1 : Int32).toNatClampNeg) from by decide) dX10_count_115 ?_
      refine lv_if_ge (tgt := 123) hx hb dX10_count_116 (by decide) (fun c15 => ?_) (fun c15 => ?_)
      · have hf := i_t c15 hf
        refine lv_iconst (v := 1) hx hb dX10_count_123 (by decide) ?_
        refine lv_iadd hx hb dX10_count_124 ?_
        exact j_iret I hx hb hr rfl hlk hf dX10_count_125
      · have hf := i_f c15 hf
        refine lv_iconst (v := 0) hx hb dX10_count_119 (by decide) ?_
        refine lv_goto (tgt := 124) hx hb dX10_count_120 (by decide) ?_
        refine lv_iadd hx hb dX10_count_124 ?_
        exact j_iret I hx hb hr rfl hlk hf dX10_count_125
    · have hf := i_f c14 hf
      refine lv_iconst (v := 0) hx hb dX10_count_105 (by decide) ?_
      refine lv_goto (tgt := 110) hx hb dX10_count_106 (by decide) ?_
      refine lv_aload_n hx hb dX10_count_110 rfl (lv_at hl 1 rfl) ?_
      refine j_get I hx hb hts iw_X10_count_X10 hown 0 (by decide) (km0 g Y _) rfl 20 (by decide) (hts (.fieldLink RX10 59 "ReelNightModel" "places" "[I") (by decide +kernel)) rfl dX10_count_111 ?_
      refine lv_iconst (v := 1) hx hb dX10_count_114 (by decide) ?_
      refine j_ald I hx hb 14 (by decide) (km14 g Y _) (show ¬ ((1 : Int32) < 0 ∨ 2 ≤ (1 : Int32).toNatClampNeg) from by decide) dX10_count_115 ?_
      refine lv_if_ge (tgt := 123) hx hb dX10_count_116 (by decide) (fun c16 => ?_) (fun c16 => ?_)
      · have hf := i_t c16 hf
        refine lv_iconst (v := 1) hx hb dX10_count_123 (by decide) ?_
        refine lv_iadd hx hb dX10_count_124 ?_
        exact j_iret I hx hb hr rfl hlk hf dX10_count_125
      · have hf := i_f c16 hf
        refine lv_iconst (v := 0) hx hb dX10_count_119 (by decide) ?_
        refine lv_goto (tgt := 124) hx hb dX10_count_120 (by decide) ?_
        refine lv_iadd hx hb dX10_count_124 ?_
        exact j_iret I hx hb hr rfl hlk hf dX10_count_125
  have hf := i_f c13 hf
  have tc13 : ¬ Int32.toInt p0 = 6 := lv_neT c13 rfl
  refine lv_tableOut (tgt := 126) hx hb dX10_count_3 (by omega) (by decide) ?_
  refine lv_ldc hx hb hown (hts (.constant RX10 109 (-1000000001)) (by decide +kernel)) dX10_count_126 ?_
  exact j_iret I hx hb hr rfl hlk hf dX10_count_128
