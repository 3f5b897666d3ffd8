theorem iw_X10_tryFrom_X10 : ∀ w ∈ u_ws RX10 TX10 37, w ∈ wsX10_tryFrom := by decide +kernel
set_option maxHeartbeats 4000000 in
set_option maxRecDepth 100000 in
theorem bX10_tryFrom_L83 {p : Program} {l : Launch} {e : Env} {s : State} {m : MethodId} {args : Array Value} {below : List Frame} {meth : Method} {c : Code} {D : va_G} {g : Nat → Nat} {Y : YT} {bP : Nat} {σ0 : St} {res : St × Int32} (C0 : MC p s m args meth c cX10_tryFrom 6 none RX10 wsX10_tryFrom) {GX10_tryFrom : St → Int32 → Int32 → Int32 → Option (St × Int32)} {ra rb : Nat} (hGX10_tryFrom : ∀ (σ : St) (x0 : Int32) (x1 : Int32) (x2 : Int32) (res : St × Int32), GX10_tryFrom σ x0 x1 x2 = some res → Cv l yX10_tryFrom wsX10_tryFrom ⟨ra, 0, 0, rb⟩ D 27 g (KM g Y) Y bP [.ref (g 0), .int x0, .int x1, .int x2] σ res) {K199 : St → Int32 → Int32 → Int32 → Int32 → Option (St × Int32)} (hK199 : ∀ (σ : St) (a1 : Int32) (a2 : Int32) (a3 : Int32) (a4 : Int32) (H : Heap) (locs : List Loc) (ls : Array Slot), K199 σ a1 a2 a3 a4 = some res → JW D 27 g (KM g Y) Y bP (va_A (wd 27 g (KM g Y) σ0) s.heap.size) s σ H locs → lv_has ls 6 [(0, .ref (g 0)), (1, .int a1), (2, .int a2), (3, .int a3), (4, .int a4)] → W p l e (⟨ra + 10, 0, 0, rb + 500⟩ : Room) s m args below meth c H locs 0 0 (MQ below (Qv D 27 g (KM g Y) Y σ0 res s.heap.size) args s 0 0 (va_A (wd 27 g (KM g Y) σ0) s.heap.size)) (F0 m 199 ls [])) : ∀ (n : Nat) (σ : St) (a1 : Int32) (a2 : Int32) (a3 : Int32) (a4 : Int32) (a5 : Int32) (H : Heap) (locs : List Loc) (ls : Array Slot), fX10_tryFrom_L83 GX10_tryFrom K199 n σ a1 a2 a3 a4 a5 = some res → JW D 27 g (KM g Y) Y bP (va_A (wd 27 g (KM g Y) σ0) s.heap.size) s σ H locs → lv_has ls 6 [(0, .ref (g 0)), (1, .int a1), (2, .int a2), (3, .int a3), (4, .int a4), (5, .int a5)] → W p l e (⟨ra + 10, 0, 0, rb + 500⟩ : Room) s m args below meth c H locs 0 0 (MQ below (Qv D 27 g (KM g Y) Y σ0 res s.heap.size) args s 0 0 (va_A (wd 27 g (KM g Y) σ0) s.heap.size)) (F0 m 83 ls []) := by
  have C0 := C0
  obtain ⟨hx, hb, hr, hml, hown, hts, hlk⟩ := id C0
  intro n
  induction n with
  | zero =>
    intro σ a1 a2 a3 a4 a5 H locs ls hf
    cases hf
  | succ n ih =>
    intro σ a1 a2 a3 a4 a5 H locs ls hf I hl
    rw [fX10_tryFrom_L83] at hf
    refine lv_iload hx hb dX10_tryFrom_83 (lv_at hl 5 rfl) ?_
    refine lv_aload_n hx hb dX10_tryFrom_85 rfl (lv_at hl 0 rfl) ?_
    refine j_get I hx hb hts iw_X10_tryFrom_X10 hown 0 (by decide) (km0 g Y _) rfl 13 (by decide) (hts (.fieldLink RX10 170 "ReelNightModel" "films" "I") (by decide +kernel)) rfl dX10_tryFrom_86 ?_
    refine lv_icmp_ge (tgt := 199) hx hb dX10_tryFrom_89 (by decide) (fun c3 => ?_) (fun c3 => ?_)
    · have hf := i_t c3 hf
      exact hK199 σ a1 a2 a3 a4 _ _ _ hf I (lv_sub hl [0, 1, 2, 3, 4] rfl)
    · have hf := i_f c3 hf
      refine lv_aload_n hx hb dX10_tryFrom_92 rfl (lv_at hl 0 rfl) ?_
      refine j_get I hx hb hts iw_X10_tryFrom_X10 hown 0 (by decide) (km0 g Y _) rfl 35 (by decide) (hts (.fieldLink RX10 189 "ReelNightModel" "isSpent" "Z") (by decide +kernel)) rfl dX10_tryFrom_93 ?_
      refine lv_if_ne (tgt := 199) hx hb dX10_tryFrom_96 (by decide) (fun c4 => ?_) (fun c4 => ?_)
      · have hf := i_f c4 hf
        exact hK199 σ a1 a2 a3 a4 _ _ _ hf I (lv_sub hl [0, 1, 2, 3, 4] rfl)
      · have hf := i_t c4 hf
        refine lv_aload_n hx hb dX10_tryFrom_99 rfl (lv_at hl 0 rfl) ?_
        refine j_get I hx hb hts iw_X10_tryFrom_X10 hown 0 (by decide) (km0 g Y _) rfl 15 (by decide) (hts (.fieldLink RX10 43 "ReelNightModel" "pins" "[I") (by decide +kernel)) rfl dX10_tryFrom_100 ?_
        refine lv_iload hx hb dX10_tryFrom_103 (lv_at hl 4 rfl) ?_
        obtain ⟨b5, hf⟩ := o_nb hf
        refine j_ald I hx hb 12 (by decide) (km12 g Y _) b5 dX10_tryFrom_105 ?_
        refine lv_if_lt (tgt := 121) hx hb dX10_tryFrom_106 (by decide) (fun c6 => ?_) (fun c6 => ?_)
        · have hf := i_t c6 hf
          refine lv_aload_n hx hb dX10_tryFrom_121 rfl (lv_at hl 0 rfl) ?_
          refine lv_iload hx hb dX10_tryFrom_122 (lv_at hl 5 rfl) ?_
          refine lv_iload_n hx hb dX10_tryFrom_124 rfl (lv_at hl 2 rfl) ?_
          refine lv_iload_n hx hb dX10_tryFrom_125 rfl (lv_at hl 1 rfl) ?_
          obtain ⟨σ7, r8, h9, hf⟩ := o_obn hf
          refine j_iV (rest := []) I ⟨hx, hb, hml, hown, hts⟩ (ct_X10_mayBe σ a5 a2 a1 _ h9) (cwV 3 hts gX10_tryFrom_X10_mayBe rfl rfl rfl (by decide +kernel) ⟨by dsimp only [headSpec]; omega, by dsimp only [headSpec]; omega⟩) (by decide) (km0 g Y _) rfl rfl hl.1 rfl (Nat.le_of_ble_eq_true rfl) dX10_tryFrom_126 ⟨Nat.zero_le _, Nat.zero_le _⟩ (fun H locs I => ?_)
          refine lv_if_ne (tgt := 135) hx hb dX10_tryFrom_129 (by decide) (fun c10 => ?_) (fun c10 => ?_)
          · have hf := i_f c10 hf
            refine lv_aload_n hx hb dX10_tryFrom_135 rfl (lv_at hl 0 rfl) ?_
            refine j_get I hx hb hts iw_X10_tryFrom_X10 hown 0 (by decide) (km0 g Y _) rfl 34 (by decide) (hts (.fieldLink RX10 196 "ReelNightModel" "triesLeft" "I") (by decide +kernel)) rfl dX10_tryFrom_136 ?_
            refine lv_if_ne (tgt := 148) hx hb dX10_tryFrom_139 (by decide) (fun c11 => ?_) (fun c11 => ?_)
            · have hf := i_f c11 hf
              refine lv_aload_n hx hb dX10_tryFrom_148 rfl (lv_at hl 0 rfl) ?_
              refine lv_dup hx hb dX10_tryFrom_149 rfl ?_
              refine j_get I hx hb hts iw_X10_tryFrom_X10 hown 0 (by decide) (km0 g Y _) rfl 34 (by decide) (hts (.fieldLink RX10 196 "ReelNightModel" "triesLeft" "I") (by decide +kernel)) rfl dX10_tryFrom_150 ?_
              refine lv_iconst (v := 1) hx hb dX10_tryFrom_153 (by decide) ?_
              refine lv_isub hx hb dX10_tryFrom_154 ?_
              obtain ⟨σ12, eσ12, hf⟩ := o_stp hf
              refine j_put I hx hb hts iw_X10_tryFrom_X10 tyX10 tyX10_ok nmX10 hown 0 (by decide) (km0 g Y _) rfl 34 (by decide) (hts (.fieldLink RX10 196 "ReelNightModel" "triesLeft" "I") (by decide +kernel)) rfl rfl rfl (Nat.le_of_ble_eq_true rfl) (kms0_34 g Y _ _) eσ12 dX10_tryFrom_155 (fun H locs I => ?_)
              refine lv_aload_n hx hb dX10_tryFrom_158 rfl (lv_at hl 0 rfl) ?_
              refine j_get I hx hb hts iw_X10_tryFrom_X10 hown 0 (by decide) (km0 g Y _) rfl 30 (by decide) (hts (.fieldLink RX10 90 "ReelNightModel" "trial" "[I") (by decide +kernel)) rfl dX10_tryFrom_159 ?_
              refine lv_iload hx hb dX10_tryFrom_162 (lv_at hl 4 rfl) ?_
              refine lv_iload hx hb dX10_tryFrom_164 (lv_at hl 5 rfl) ?_
              obtain ⟨b13, hf⟩ := o_nb hf
              obtain ⟨σ14, eσ14, hf⟩ := o_stp hf
              refine j_ast I hx hb 24 (by decide) (km24 g Y) b13 eσ14 dX10_tryFrom_166 (fun H locs I => ?_)
              refine lv_aload_n hx hb dX10_tryFrom_167 rfl (lv_at hl 0 rfl) ?_
              refine lv_iload_n hx hb dX10_tryFrom_168 rfl (lv_at hl 1 rfl) ?_
              refine lv_iload_n hx hb dX10_tryFrom_169 rfl (lv_at hl 2 rfl) ?_
              refine lv_iconst (v := 1) hx hb dX10_tryFrom_170 (by decide) ?_
              refine lv_iadd hx hb dX10_tryFrom_171 ?_
              refine lv_iload_n hx hb dX10_tryFrom_172 rfl (lv_at hl 3 rfl) ?_
              refine lv_aload_n hx hb dX10_tryFrom_173 rfl (lv_at hl 0 rfl) ?_
              refine lv_iload hx hb dX10_tryFrom_174 (lv_at hl 5 rfl) ?_
              refine lv_iload_n hx hb dX10_tryFrom_176 rfl (lv_at hl 2 rfl) ?_
              refine lv_iload_n hx hb dX10_tryFrom_177 rfl (lv_at hl 1 rfl) ?_
              obtain ⟨σ15, r16, h17, hf⟩ := o_obn hf
              refine j_iV (rest := [.int a3, .int (a2 + 1), .int a1, .ref (g 0)]) I ⟨hx, hb, hml, hown, hts⟩ (ct_X10_worthOf σ14 a5 a2 a1 _ h17) (cwV 3 hts gX10_tryFrom_X10_worthOf rfl rfl rfl (by decide +kernel) ⟨by dsimp only [headSpec]; omega, by dsimp only [headSpec]; omega⟩) (by decide) (km0 g Y _) rfl rfl hl.1 rfl (Nat.le_of_ble_eq_true rfl) dX10_tryFrom_178 ⟨Nat.zero_le _, Nat.zero_le _⟩ (fun H locs I => ?_)
              refine lv_iadd hx hb dX10_tryFrom_181 ?_
              obtain ⟨σ18, r19, h20, hf⟩ := o_obn hf
              refine j_vV (rest := []) I ⟨hx, hb, hml, hown, hts⟩ (hGX10_tryFrom σ15 a1 (a2 + 1) (a3 + r16) _ h20) (cwV 3 hts gX10_tryFrom_X10_tryFrom rfl rfl rfl (by decide +kernel) ⟨by dsimp only [headSpec]; omega, by dsimp only [headSpec]; omega⟩) (by decide) (km0 g Y _) rfl rfl hl.1 rfl (Nat.le_of_ble_eq_true rfl) dX10_tryFrom_182 ⟨Nat.zero_le _, Nat.zero_le _⟩ (fun H locs I => ?_)
              refine lv_aload_n hx hb dX10_tryFrom_185 rfl (lv_at hl 0 rfl) ?_
              refine j_get I hx hb hts iw_X10_tryFrom_X10 hown 0 (by decide) (km0 g Y _) rfl 30 (by decide) (hts (.fieldLink RX10 90 "ReelNightModel" "trial" "[I") (by decide +kernel)) rfl dX10_tryFrom_186 ?_
              refine lv_iload hx hb dX10_tryFrom_189 (lv_at hl 4 rfl) ?_
              refine lv_iconst (v := (-1)) hx hb dX10_tryFrom_191 (by decide) ?_
              obtain ⟨b21, hf⟩ := o_nb hf
              obtain ⟨σ22, eσ22, hf⟩ := o_stp hf
              refine j_ast I hx hb 24 (by decide) (km24 g Y) b21 eσ22 dX10_tryFrom_192 (fun H locs I => ?_)
              refine lv_iinc (v := (a5 + 1)) (lv' := [(5, .int (a5 + 1)), (0, .ref (g 0)), (1, .int a1), (2, .int a2), (3, .int a3), (4, .int a4)]) hx hb dX10_tryFrom_193 hl (k := 5) rfl rfl (by decide) rfl (fun ls hl => ?_)
              refine lv_goto (tgt := 83) hx hb dX10_tryFrom_196 (by decide) ?_
              exact ih σ22 a1 a2 a3 a4 (a5 + 1) _ _ _ hf I (lv_sub hl [1, 2, 3, 4, 5, 0] rfl)
            · have hf := i_t c11 hf
              refine lv_aload_n hx hb dX10_tryFrom_142 rfl (lv_at hl 0 rfl) ?_
              refine lv_iconst (v := 1) hx hb dX10_tryFrom_143 (by decide) ?_
              obtain ⟨σ23, eσ23, hf⟩ := o_stp hf
              refine j_put I hx hb hts iw_X10_tryFrom_X10 tyX10 tyX10_ok nmX10 hown 0 (by decide) (km0 g Y _) rfl 35 (by decide) (hts (.fieldLink RX10 189 "ReelNightModel" "isSpent" "Z") (by decide +kernel)) rfl rfl rfl (Nat.le_of_ble_eq_true rfl) (kms0_35 g Y _ _) eσ23 dX10_tryFrom_144 (fun H locs I => ?_)
              exact j_vret I hx hb hr hlk hf dX10_tryFrom_147
          · have hf := i_t c10 hf
            refine lv_goto (tgt := 193) hx hb dX10_tryFrom_132 (by decide) ?_
            refine lv_iinc (v := (a5 + 1)) (lv' := [(5, .int (a5 + 1)), (0, .ref (g 0)), (1, .int a1), (2, .int a2), (3, .int a3), (4, .int a4)]) hx hb dX10_tryFrom_193 hl (k := 5) rfl rfl (by decide) rfl (fun ls hl => ?_)
            refine lv_goto (tgt := 83) hx hb dX10_tryFrom_196 (by decide) ?_
            exact ih σ7 a1 a2 a3 a4 (a5 + 1) _ _ _ hf I (lv_sub hl [1, 2, 3, 4, 5, 0] rfl)
        · have hf := i_f c6 hf
          refine lv_aload_n hx hb dX10_tryFrom_109 rfl (lv_at hl 0 rfl) ?_
          refine j_get I hx hb hts iw_X10_tryFrom_X10 hown 0 (by decide) (km0 g Y _) rfl 15 (by decide) (hts (.fieldLink RX10 43 "ReelNightModel" "pins" "[I") (by decide +kernel)) rfl dX10_tryFrom_110 ?_
          refine lv_iload hx hb dX10_tryFrom_113 (lv_at hl 4 rfl) ?_
          obtain ⟨b24, hf⟩ := o_nb hf
          refine j_ald I hx hb 12 (by decide) (km12 g Y _) b24 dX10_tryFrom_115 ?_
          refine lv_iload hx hb dX10_tryFrom_116 (lv_at hl 5 rfl) ?_
          refine lv_icmp_ne (tgt := 193) hx hb dX10_tryFrom_118 (by decide) (fun c25 => ?_) (fun c25 => ?_)
          · have hf := i_f c25 hf
            refine lv_iinc (v := (a5 + 1)) (lv' := [(5, .int (a5 + 1)), (0, .ref (g 0)), (1, .int a1), (2, .int a2), (3, .int a3), (4, .int a4)]) hx hb dX10_tryFrom_193 hl (k := 5) rfl rfl (by decide) rfl (fun ls hl => ?_)
            refine lv_goto (tgt := 83) hx hb dX10_tryFrom_196 (by decide) ?_
            exact ih σ a1 a2 a3 a4 (a5 + 1) _ _ _ hf I (lv_sub hl [1, 2, 3, 4, 5, 0] rfl)
          · have hf := i_t c25 hf
            refine lv_aload_n hx hb dX10_tryFrom_121 rfl (lv_at hl 0 rfl) ?_
            refine lv_iload hx hb dX10_tryFrom_122 (lv_at hl 5 rfl) ?_
            refine lv_iload_n hx hb dX10_tryFrom_124 rfl (lv_at hl 2 rfl) ?_
            refine lv_iload_n hx hb dX10_tryFrom_125 rfl (lv_at hl 1 rfl) ?_
            obtain ⟨σ26, r27, h28, hf⟩ := o_obn hf
            refine j_iV (rest := []) I ⟨hx, hb, hml, hown, hts⟩ (ct_X10_mayBe σ a5 a2 a1 _ h28) (cwV 3 hts gX10_tryFrom_X10_mayBe rfl rfl rfl (by decide +kernel) ⟨by dsimp only [headSpec]; omega, by dsimp only [headSpec]; omega⟩) (by decide) (km0 g Y _) rfl rfl hl.1 rfl (Nat.le_of_ble_eq_true rfl) dX10_tryFrom_126 ⟨Nat.zero_le _, Nat.zero_le _⟩ (fun H locs I => ?_)
            refine lv_if_ne (tgt := 135) hx hb dX10_tryFrom_129 (by decide) (fun c29 => ?_) (fun c29 => ?_)
            · have hf := i_f c29 hf
              refine lv_aload_n hx hb dX10_tryFrom_135 rfl (lv_at hl 0 rfl) ?_
              refine j_get I hx hb hts iw_X10_tryFrom_X10 hown 0 (by decide) (km0 g Y _) rfl 34 (by decide) (hts (.fieldLink RX10 196 "ReelNightModel" "triesLeft" "I") (by decide +kernel)) rfl dX10_tryFrom_136 ?_
              refine lv_if_ne (tgt := 148) hx hb dX10_tryFrom_139 (by decide) (fun c30 => ?_) (fun c30 => ?_)
              · have hf := i_f c30 hf
                refine lv_aload_n hx hb dX10_tryFrom_148 rfl (lv_at hl 0 rfl) ?_
                refine lv_dup hx hb dX10_tryFrom_149 rfl ?_
                refine j_get I hx hb hts iw_X10_tryFrom_X10 hown 0 (by decide) (km0 g Y _) rfl 34 (by decide) (hts (.fieldLink RX10 196 "ReelNightModel" "triesLeft" "I") (by decide +kernel)) rfl dX10_tryFrom_150 ?_
                refine lv_iconst (v := 1) hx hb dX10_tryFrom_153 (by decide) ?_
                refine lv_isub hx hb dX10_tryFrom_154 ?_
                obtain ⟨σ31, eσ31, hf⟩ := o_stp hf
                refine j_put I hx hb hts iw_X10_tryFrom_X10 tyX10 tyX10_ok nmX10 hown 0 (by decide) (km0 g Y _) rfl 34 (by decide) (hts (.fieldLink RX10 196 "ReelNightModel" "triesLeft" "I") (by decide +kernel)) rfl rfl rfl (Nat.le_of_ble_eq_true rfl) (kms0_34 g Y _ _) eσ31 dX10_tryFrom_155 (fun H locs I => ?_)
                refine lv_aload_n hx hb dX10_tryFrom_158 rfl (lv_at hl 0 rfl) ?_
                refine j_get I hx hb hts iw_X10_tryFrom_X10 hown 0 (by decide) (km0 g Y _) rfl 30 (by decide) (hts (.fieldLink RX10 90 "ReelNightModel" "trial" "[I") (by decide +kernel)) rfl dX10_tryFrom_159 ?_
                refine lv_iload hx hb dX10_tryFrom_162 (lv_at hl 4 rfl) ?_
                refine lv_iload hx hb dX10_tryFrom_164 (lv_at hl 5 rfl) ?_
                obtain ⟨b32, hf⟩ := o_nb hf
                obtain ⟨σ33, eσ33, hf⟩ := o_stp hf
                refine j_ast I hx hb 24 (by decide) (km24 g Y) b32 eσ33 dX10_tryFrom_166 (fun H locs I => ?_)
                refine lv_aload_n hx hb dX10_tryFrom_167 rfl (lv_at hl 0 rfl) ?_
                refine lv_iload_n hx hb dX10_tryFrom_168 rfl (lv_at hl 1 rfl) ?_
                refine lv_iload_n hx hb dX10_tryFrom_169 rfl (lv_at hl 2 rfl) ?_
                refine lv_iconst (v := 1) hx hb dX10_tryFrom_170 (by decide) ?_
                refine lv_iadd hx hb dX10_tryFrom_171 ?_
                refine lv_iload_n hx hb dX10_tryFrom_172 rfl (lv_at hl 3 rfl) ?_
                refine lv_aload_n hx hb dX10_tryFrom_173 rfl (lv_at hl 0 rfl) ?_
                refine lv_iload hx hb dX10_tryFrom_174 (lv_at hl 5 rfl) ?_
                refine lv_iload_n hx hb dX10_tryFrom_176 rfl (lv_at hl 2 rfl) ?_
                refine lv_iload_n hx hb dX10_tryFrom_177 rfl (lv_at hl 1 rfl) ?_
                obtain ⟨σ34, r35, h36, hf⟩ := o_obn hf
                refine j_iV (rest := [.int a3, .int (a2 + 1), .int a1, .ref (g 0)]) I ⟨hx, hb, hml, hown, hts⟩ (ct_X10_worthOf σ33 a5 a2 a1 _ h36) (cwV 3 hts gX10_tryFrom_X10_worthOf rfl rfl rfl (by decide +kernel) ⟨by dsimp only [headSpec]; omega, by dsimp only [headSpec]; omega⟩) (by decide) (km0 g Y _) rfl rfl hl.1 rfl (Nat.le_of_ble_eq_true rfl) dX10_tryFrom_178 ⟨Nat.zero_le _, Nat.zero_le _⟩ (fun H locs I => ?_)
                refine lv_iadd hx hb dX10_tryFrom_181 ?_
                obtain ⟨σ37, r38, h39, hf⟩ := o_obn hf
                refine j_vV (rest := []) I ⟨hx, hb, hml, hown, hts⟩ (hGX10_tryFrom σ34 a1 (a2 + 1) (a3 + r35) _ h39) (cwV 3 hts gX10_tryFrom_X10_tryFrom rfl rfl rfl (by decide +kernel) ⟨by dsimp only [headSpec]; omega, by dsimp only [headSpec]; omega⟩) (by decide) (km0 g Y _) rfl rfl hl.1 rfl (Nat.le_of_ble_eq_true rfl) dX10_tryFrom_182 ⟨Nat.zero_le _, Nat.zero_le _⟩ (fun H locs I => ?_)
                refine lv_aload_n hx hb dX10_tryFrom_185 rfl (lv_at hl 0 rfl) ?_
                refine j_get I hx hb hts iw_X10_tryFrom_X10 hown 0 (by decide) (km0 g Y _) rfl 30 (by decide) (hts (.fieldLink RX10 90 "ReelNightModel" "trial" "[I") (by decide +kernel)) rfl dX10_tryFrom_186 ?_
                refine lv_iload hx hb dX10_tryFrom_189 (lv_at hl 4 rfl) ?_
                refine lv_iconst (v := (-1)) hx hb dX10_tryFrom_191 (by decide) ?_
                obtain ⟨b40, hf⟩ := o_nb hf
                obtain ⟨σ41, eσ41, hf⟩ := o_stp hf
                refine j_ast I hx hb 24 (by decide) (km24 g Y) b40 eσ41 dX10_tryFrom_192 (fun H locs I => ?_)
                refine lv_iinc (v := (a5 + 1)) (lv' := [(5, .int (a5 + 1)), (0, .ref (g 0)), (1, .int a1), (2, .int a2), (3, .int a3), (4, .int a4)]) hx hb dX10_tryFrom_193 hl (k := 5) rfl rfl (by decide) rfl (fun ls hl => ?_)
                refine lv_goto (tgt := 83) hx hb dX10_tryFrom_196 (by decide) ?_
                exact ih σ41 a1 a2 a3 a4 (a5 + 1) _ _ _ hf I (lv_sub hl [1, 2, 3, 4, 5, 0] rfl)
              · have hf := i_t c30 hf
                refine lv_aload_n hx hb dX10_tryFrom_142 rfl (lv_at hl 0 rfl) ?_
                refine lv_iconst (v := 1) hx hb dX10_tryFrom_143 (by decide) ?_
                obtain ⟨σ42, eσ42, hf⟩ := o_stp hf
                refine j_put I hx hb hts iw_X10_tryFrom_X10 tyX10 tyX10_ok nmX10 hown 0 (by decide) (km0 g Y _) rfl 35 (by decide) (hts (.fieldLink RX10 189 "ReelNightModel" "isSpent" "Z") (by decide +kernel)) rfl rfl rfl (Nat.le_of_ble_eq_true rfl) (kms0_35 g Y _ _) eσ42 dX10_tryFrom_144 (fun H locs I => ?_)
                exact j_vret I hx hb hr hlk hf dX10_tryFrom_147
            · have hf := i_t c29 hf
              refine lv_goto (tgt := 193) hx hb dX10_tryFrom_132 (by decide) ?_
              refine lv_iinc (v := (a5 + 1)) (lv' := [(5, .int (a5 + 1)), (0, .ref (g 0)), (1, .int a1), (2, .int a2), (3, .int a3), (4, .int a4)]) hx hb dX10_tryFrom_193 hl (k := 5) rfl rfl (by decide) rfl (fun ls hl => ?_)
              refine lv_goto (tgt := 83) hx hb dX10_tryFrom_196 (by decide) ?_
              exact ih σ26 a1 a2 a3 a4 (a5 + 1) _ _ _ hf I (lv_sub hl [1, 2, 3, 4, 5, 0] rfl)
set_option maxHeartbeats 4000000 in
set_option maxRecDepth 100000 in
theorem bX10_tryFrom_L44 {p : Program} {l : Launch} {e : Env} {s : State} {m : MethodId} {args : Array Value} {below : List Frame} {meth : Method} {c : Code} {D : va_G} {g : Nat → Nat} {Y : YT} {bP : Nat} {σ0 : St} {res : St × Int32} (C0 : MC p s m args meth c cX10_tryFrom 6 none RX10 wsX10_tryFrom) {GX10_tryFrom : St → Int32 → Int32 → Int32 → Option (St × Int32)} {ra rb : Nat} (hGX10_tryFrom : ∀ (σ : St) (x0 : Int32) (x1 : Int32) (x2 : Int32) (res : St × Int32), GX10_tryFrom σ x0 x1 x2 = some res → Cv l yX10_tryFrom wsX10_tryFrom ⟨ra, 0, 0, rb⟩ D 27 g (KM g Y) Y bP [.ref (g 0), .int x0, .int x1, .int x2] σ res) : ∀ (n : Nat) (σ : St) (a4 : Int32) (H : Heap) (locs : List Loc) (ls : Array Slot), fX10_tryFrom_L44 GX10_tryFrom n σ a4 = some res → JW D 27 g (KM g Y) Y bP (va_A (wd 27 g (KM g Y) σ0) s.heap.size) s σ H locs → lv_has ls 6 [(0, .ref (g 0)), (4, .int a4)] → W p l e (⟨ra + 10, 0, 0, rb + 500⟩ : Room) s m args below meth c H locs 0 0 (MQ below (Qv D 27 g (KM g Y) Y σ0 res s.heap.size) args s 0 0 (va_A (wd 27 g (KM g Y) σ0) s.heap.size)) (F0 m 44 ls []) := by
  have C0 := C0
  obtain ⟨hx, hb, hr, hml, hown, hts, hlk⟩ := id C0
  intro n
  induction n with
  | zero =>
    intro σ a4 H locs ls hf
    cases hf
  | succ n ih =>
    intro σ a4 H locs ls hf I hl
    rw [fX10_tryFrom_L44] at hf
    refine lv_iload hx hb dX10_tryFrom_44 (lv_at hl 1 rfl) ?_
    refine lv_bipush (v := 24) hx hb dX10_tryFrom_46 (by decide) ?_
    refine lv_icmp_ge (tgt := 71) hx hb dX10_tryFrom_48 (by decide) (fun c59 => ?_) (fun c59 => ?_)
    · have hf := i_t c59 hf
      exact j_vret I hx hb hr hlk hf dX10_tryFrom_71
    · have hf := i_f c59 hf
      refine lv_aload_n hx hb dX10_tryFrom_51 rfl (lv_at hl 0 rfl) ?_
      refine j_get I hx hb hts iw_X10_tryFrom_X10 hown 0 (by decide) (km0 g Y _) rfl 31 (by decide) (hts (.fieldLink RX10 93 "ReelNightModel" "best" "[I") (by decide +kernel)) rfl dX10_tryFrom_52 ?_
      refine lv_iload hx hb dX10_tryFrom_55 (lv_at hl 1 rfl) ?_
      refine lv_aload_n hx hb dX10_tryFrom_57 rfl (lv_at hl 0 rfl) ?_
      refine j_get I hx hb hts iw_X10_tryFrom_X10 hown 0 (by decide) (km0 g Y _) rfl 30 (by decide) (hts (.fieldLink RX10 90 "ReelNightModel" "trial" "[I") (by decide +kernel)) rfl dX10_tryFrom_58 ?_
      refine lv_iload hx hb dX10_tryFrom_61 (lv_at hl 1 rfl) ?_
      obtain ⟨b60, hf⟩ := o_nb hf
      refine j_ald I hx hb 24 (by decide) (km24 g Y _) b60 dX10_tryFrom_63 ?_
      obtain ⟨b61, hf⟩ := o_nb hf
      obtain ⟨σ62, eσ62, hf⟩ := o_stp hf
      refine j_ast I hx hb 25 (by decide) (km25 g Y) b61 eσ62 dX10_tryFrom_64 (fun H locs I => ?_)
      refine lv_iinc (v := (a4 + 1)) (lv' := [(4, .int (a4 + 1)), (0, .ref (g 0))]) hx hb dX10_tryFrom_65 hl (k := 1) rfl rfl (by decide) rfl (fun ls hl => ?_)
      refine lv_goto (tgt := 44) hx hb dX10_tryFrom_68 (by decide) ?_
      exact ih σ62 (a4 + 1) _ _ _ hf I (lv_sub hl [1, 0] rfl)
set_option maxHeartbeats 4000000 in
set_option maxRecDepth 100000 in
theorem ct_X10_tryFrom {l : Launch} {D : va_G} {g : Nat → Nat} {Y : YT} {bP : Nat} {GX10_tryFrom : St → Int32 → Int32 → Int32 → Option (St × Int32)} {ra rb : Nat} (hGX10_tryFrom : ∀ (σ : St) (x0 : Int32) (x1 : Int32) (x2 : Int32) (res : St × Int32), GX10_tryFrom σ x0 x1 x2 = some res → Cv l yX10_tryFrom wsX10_tryFrom ⟨ra, 0, 0, rb⟩ D 27 g (KM g Y) Y bP [.ref (g 0), .int x0, .int x1, .int x2] σ res) (σ : St) (p0 : Int32) (p1 : Int32) (p2 : Int32) (res : St × Int32) (hf : fX10_tryFrom GX10_tryFrom σ p0 p1 p2 = some res) : Cv l yX10_tryFrom wsX10_tryFrom ⟨ra + 10, 0, 0, rb + 500⟩ D 27 g (KM g Y) Y bP [.ref (g 0), .int p0, .int p1, .int p2] σ res := by
  intro sz
  refine Met.ofW (cc := cX10_tryFrom) (maxL := 6) (ret := none) (by decide) rfl ?_
  intro p e s m args below meth c s₁ B hml hv
  obtain ⟨rfl, rfl, I⟩ := j_start hv
  have C0 : MC p s m _ meth c cX10_tryFrom 6 none RX10 wsX10_tryFrom := ⟨B.exec, B.bytes, B.returns, hml, findClass_of_methodNamed B.named, atoms_spec (ws := wsX10_tryFrom) B.pre, B.notSynchronized⟩
  obtain ⟨hx, hb, hr, hml, hown, hts, hlk⟩ := id C0
  have hl := lv_entry ([.ref (g 0), .int p0, .int p1, .int p2]) (n := 6) (Nat.le_of_ble_eq_true rfl)
  rw [lg_entry_eq]
  generalize (lg_sl ([.ref (g 0), .int p0, .int p1, .int p2]) ++ List.replicate (6 - (lg_sl ([.ref (g 0), .int p0, .int p1, .int p2])).length) Slot.unset).toArray = ls at hl ⊢
  have hl : lv_has ls 6 [(0, .ref (g 0)), (1, .int p0), (2, .int p1), (3, .int p2)] := hl
  rw [fX10_tryFrom] at hf
  refine lv_iload_n hx hb dX10_tryFrom_0 rfl (lv_at hl 2 rfl) ?_
  refine lv_aload_n hx hb dX10_tryFrom_1 rfl (lv_at hl 0 rfl) ?_
  refine j_get I hx hb hts iw_X10_tryFrom_X10 hown 0 (by decide) (km0 g Y _) rfl 0 (by decide) (hts (.fieldLink RX10 99 "ReelNightModel" "houses" "I") (by decide +kernel)) rfl dX10_tryFrom_2 ?_
  refine lv_icmp_ne (tgt := 72) hx hb dX10_tryFrom_5 (by decide) (fun c1 => ?_) (fun c1 => ?_)
  · have hf := i_f c1 hf
    refine lv_bipush (v := 6) hx hb dX10_tryFrom_72 (by decide) ?_
    refine lv_iload_n hx hb dX10_tryFrom_74 rfl (lv_at hl 1 rfl) ?_
    refine lv_imul hx hb dX10_tryFrom_75 ?_
    refine lv_iload_n hx hb dX10_tryFrom_76 rfl (lv_at hl 2 rfl) ?_
    refine lv_iadd hx hb dX10_tryFrom_77 ?_
    obtain ⟨v2, ev2, hf⟩ := o_itp hf
    refine top_eq ev2 ?_
    refine lv_istore (lv' := [(4, .int v2), (0, .ref (g 0)), (1, .int p0), (2, .int p1), (3, .int p2)]) hx hb dX10_tryFrom_78 hl (by decide) rfl (fun ls hl => ?_)
    refine lv_iconst (v := 0) hx hb dX10_tryFrom_80 (by decide) ?_
    refine lv_istore (lv' := [(5, .int 0), (4, .int v2), (0, .ref (g 0)), (1, .int p0), (2, .int p1), (3, .int p2)]) hx hb dX10_tryFrom_81 hl (by decide) rfl (fun ls hl => ?_)
    refine bX10_tryFrom_L83 C0 hGX10_tryFrom ?_ 50 σ p0 p1 p2 v2 0 _ _ _ hf I (lv_sub hl [2, 3, 4, 5, 1, 0] rfl)
    · intro σ43 a44 a45 a46 a47 H locs ls hf I hl
      refine lv_aload_n hx hb dX10_tryFrom_199 rfl (lv_at hl 0 rfl) ?_
      refine j_get I hx hb hts iw_X10_tryFrom_X10 hown 0 (by decide) (km0 g Y _) rfl 15 (by decide) (hts (.fieldLink RX10 43 "ReelNightModel" "pins" "[I") (by decide +kernel)) rfl dX10_tryFrom_200 ?_
      refine lv_iload hx hb dX10_tryFrom_203 (lv_at hl 4 rfl) ?_
      obtain ⟨b48, hf⟩ := o_nb hf
      refine j_ald I hx hb 12 (by decide) (km12 g Y _) b48 dX10_tryFrom_205 ?_
      refine lv_if_ge (tgt := 233) hx hb dX10_tryFrom_206 (by decide) (fun c49 => ?_) (fun c49 => ?_)
      · have hf := i_t c49 hf
        exact j_vret I hx hb hr hlk hf dX10_tryFrom_233
      · have hf := i_f c49 hf
        refine lv_aload_n hx hb dX10_tryFrom_209 rfl (lv_at hl 0 rfl) ?_
        refine j_get I hx hb hts iw_X10_tryFrom_X10 hown 0 (by decide) (km0 g Y _) rfl 35 (by decide) (hts (.fieldLink RX10 189 "ReelNightModel" "isSpent" "Z") (by decide +kernel)) rfl dX10_tryFrom_210 ?_
        refine lv_if_ne (tgt := 233) hx hb dX10_tryFrom_213 (by decide) (fun c50 => ?_) (fun c50 => ?_)
        · have hf := i_f c50 hf
          exact j_vret I hx hb hr hlk hf dX10_tryFrom_233
        · have hf := i_t c50 hf
          refine lv_aload_n hx hb dX10_tryFrom_216 rfl (lv_at hl 0 rfl) ?_
          refine j_get I hx hb hts iw_X10_tryFrom_X10 hown 0 (by decide) (km0 g Y _) rfl 30 (by decide) (hts (.fieldLink RX10 90 "ReelNightModel" "trial" "[I") (by decide +kernel)) rfl dX10_tryFrom_217 ?_
          refine lv_iload hx hb dX10_tryFrom_220 (lv_at hl 4 rfl) ?_
          refine lv_iconst (v := (-1)) hx hb dX10_tryFrom_222 (by decide) ?_
          obtain ⟨b51, hf⟩ := o_nb hf
          obtain ⟨σ52, eσ52, hf⟩ := o_stp hf
          refine j_ast I hx hb 24 (by decide) (km24 g Y) b51 eσ52 dX10_tryFrom_223 (fun H locs I => ?_)
          refine lv_aload_n hx hb dX10_tryFrom_224 rfl (lv_at hl 0 rfl) ?_
          refine lv_iload_n hx hb dX10_tryFrom_225 rfl (lv_at hl 1 rfl) ?_
          refine lv_iload_n hx hb dX10_tryFrom_226 rfl (lv_at hl 2 rfl) ?_
          refine lv_iconst (v := 1) hx hb dX10_tryFrom_227 (by decide) ?_
          refine lv_iadd hx hb dX10_tryFrom_228 ?_
          refine lv_iload_n hx hb dX10_tryFrom_229 rfl (lv_at hl 3 rfl) ?_
          obtain ⟨σ53, r54, h55, hf⟩ := o_obn hf
          refine j_vV (rest := []) I ⟨hx, hb, hml, hown, hts⟩ (hGX10_tryFrom σ52 a44 (a45 + 1) a46 _ h55) (cwV 3 hts gX10_tryFrom_X10_tryFrom rfl rfl rfl (by decide +kernel) ⟨by dsimp only [headSpec]; omega, by dsimp only [headSpec]; omega⟩) (by decide) (km0 g Y _) rfl rfl hl.1 rfl (Nat.le_of_ble_eq_true rfl) dX10_tryFrom_230 ⟨Nat.zero_le _, Nat.zero_le _⟩ (fun H locs I => ?_)
          exact j_vret I hx hb hr hlk hf dX10_tryFrom_233
  · have hf := i_t c1 hf
    refine lv_iload_n hx hb dX10_tryFrom_8 rfl (lv_at hl 1 rfl) ?_
    refine lv_aload_n hx hb dX10_tryFrom_9 rfl (lv_at hl 0 rfl) ?_
    refine j_get I hx hb hts iw_X10_tryFrom_X10 hown 0 (by decide) (km0 g Y _) rfl 33 (by decide) (hts (.fieldLink RX10 179 "ReelNightModel" "lastWeek" "I") (by decide +kernel)) rfl dX10_tryFrom_10 ?_
    refine lv_icmp_ge (tgt := 28) hx hb dX10_tryFrom_13 (by decide) (fun c56 => ?_) (fun c56 => ?_)
    · have hf := i_t c56 hf
      refine lv_iload_n hx hb dX10_tryFrom_28 rfl (lv_at hl 3 rfl) ?_
      refine lv_aload_n hx hb dX10_tryFrom_29 rfl (lv_at hl 0 rfl) ?_
      refine j_get I hx hb hts iw_X10_tryFrom_X10 hown 0 (by decide) (km0 g Y _) rfl 32 (by decide) (hts (.fieldLink RX10 186 "ReelNightModel" "bestWorth" "I") (by decide +kernel)) rfl dX10_tryFrom_30 ?_
      refine lv_icmp_le (tgt := 71) hx hb dX10_tryFrom_33 (by decide) (fun c57 => ?_) (fun c57 => ?_)
      · have hf := i_t c57 hf
        exact j_vret I hx hb hr hlk hf dX10_tryFrom_71
      · have hf := i_f c57 hf
        refine lv_aload_n hx hb dX10_tryFrom_36 rfl (lv_at hl 0 rfl) ?_
        refine lv_iload_n hx hb dX10_tryFrom_37 rfl (lv_at hl 3 rfl) ?_
        obtain ⟨σ58, eσ58, hf⟩ := o_stp hf
        refine j_put I hx hb hts iw_X10_tryFrom_X10 tyX10 tyX10_ok nmX10 hown 0 (by decide) (km0 g Y _) rfl 32 (by decide) (hts (.fieldLink RX10 186 "ReelNightModel" "bestWorth" "I") (by decide +kernel)) rfl rfl rfl (Nat.le_of_ble_eq_true rfl) (kms0_32 g Y _ _) eσ58 dX10_tryFrom_38 (fun H locs I => ?_)
        refine lv_iconst (v := 0) hx hb dX10_tryFrom_41 (by decide) ?_
        refine lv_istore (lv' := [(4, .int 0), (0, .ref (g 0)), (1, .int p0), (2, .int p1), (3, .int p2)]) hx hb dX10_tryFrom_42 hl (by decide) rfl (fun ls hl => ?_)
        refine bX10_tryFrom_L44 C0 hGX10_tryFrom 50 σ58 0 _ _ _ hf I (lv_sub hl [1, 0] rfl)
    · have hf := i_f c56 hf
      refine lv_aload_n hx hb dX10_tryFrom_16 rfl (lv_at hl 0 rfl) ?_
      refine lv_iload_n hx hb dX10_tryFrom_17 rfl (lv_at hl 1 rfl) ?_
      refine lv_iconst (v := 1) hx hb dX10_tryFrom_18 (by decide) ?_
      refine lv_iadd hx hb dX10_tryFrom_19 ?_
      refine lv_iconst (v := 0) hx hb dX10_tryFrom_20 (by decide) ?_
      refine lv_iload_n hx hb dX10_tryFrom_21 rfl (lv_at hl 3 rfl) ?_
      obtain ⟨σ63, r64, h65, hf⟩ := o_obn hf
      refine j_vV (rest := []) I ⟨hx, hb, hml, hown, hts⟩ (hGX10_tryFrom σ (p0 + 1) 0 p2 _ h65) (cwV 3 hts gX10_tryFrom_X10_tryFrom rfl rfl rfl (by decide +kernel) ⟨by dsimp only [headSpec]; omega, by dsimp only [headSpec]; omega⟩) (by decide) (km0 g Y _) rfl rfl hl.1 rfl (Nat.le_of_ble_eq_true rfl) dX10_tryFrom_22 ⟨Nat.zero_le _, Nat.zero_le _⟩ (fun H locs I => ?_)
      refine lv_goto (tgt := 71) hx hb dX10_tryFrom_25 (by decide) ?_
      exact j_vret I hx hb hr hlk hf dX10_tryFrom_71
theorem ctR_X10_tryFrom {l : Launch} {D : va_G} {g : Nat → Nat} {Y : YT} {bP : Nat} : ∀ (d : Nat) (σ : St) (p0 : Int32) (p1 : Int32) (p2 : Int32) (res : St × Int32), fX10_tryFromR d σ p0 p1 p2 = some res → Cv l yX10_tryFrom wsX10_tryFrom ⟨10 * d, 0, 0, 500 * d⟩ D 27 g (KM g Y) Y bP [.ref (g 0), .int p0, .int p1, .int p2] σ res := by
  intro d
  induction d with
  | zero => intro σ p0 p1 p2 res hf; cases hf
  | succ d ih =>
    intro σ p0 p1 p2 res hf
    exact ct_X10_tryFrom (ra := 10 * d) (rb := 500 * d) (fun σ p0 p1 p2 res h => ih σ p0 p1 p2 res h) σ p0 p1 p2 res hf

theorem iw_X10_plan_X10 : ∀ w ∈ u_ws RX10 TX10 37, w ∈ wsX10_plan := fun _ h => List.mem_cons_of_mem _ (List.mem_append_right _ h)
set_option maxHeartbeats 4000000 in
set_option maxRecDepth 100000 in
theorem bX10_plan_L23 {p : Program} {l : Launch} {e : Env} {s : State} {m : MethodId} {args : Array Value} {below : List Frame} {meth : Method} {c : Code} {D : va_G} {g : Nat → Nat} {Y : YT} {bP : Nat} {σ0 : St} {res : St × Int32} (C0 : MC p s m args meth c cX10_plan 4 (some .int) RX10 wsX10_plan) {K42 : St → Int32 → Int32 → Option (St × Int32)} (hK42 : ∀ (σ : St) (a1 : Int32) (a2 : Int32) (H : Heap) (locs : List Loc) (ls : Array Slot), K42 σ a1 a2 = some res → JW D 27 g (KM g Y) Y bP (va_A (wd 27 g (KM g Y) σ0) s.heap.size) s σ H locs → lv_has ls 4 [(0, .ref (g 0)), (1, .int a1), (2, .int a2)] → W p l e (⟨321, 0, 0, 16025⟩ : Room) s m args below meth c H locs 0 0 (MQ below (Qi D 27 g (KM g Y) Y σ0 res s.heap.size) args s 0 0 (va_A (wd 27 g (KM g Y) σ0) s.heap.size)) (F0 m 42 ls [])) : ∀ (n : Nat) (σ : St) (a1 : Int32) (a2 : Int32) (a3 : Int32) (H : Heap) (locs : List Loc) (ls : Array Slot), fX10_plan_L23 K42 n σ a1 a2 a3 = some res → JW D 27 g (KM g Y) Y bP (va_A (wd 27 g (KM g Y) σ0) s.heap.size) s σ H locs → lv_has ls 4 [(0, .ref (g 0)), (1, .int a1), (2, .int a2), (3, .int a3)] → W p l e (⟨321, 0, 0, 16025⟩ : Room) s m args below meth c H locs 0 0 (MQ below (Qi D 27 g (KM g Y) Y σ0 res s.heap.size) args s 0 0 (va_A (wd 27 g (KM g Y) σ0) s.heap.size)) (F0 m 23 ls []) := by
  have C0 := C0
  obtain ⟨hx, hb, hr, hml, hown, hts, hlk⟩ := id C0
  intro n
  induction n with
  | zero =>
    intro σ a1 a2 a3 H locs ls hf
    cases hf
  | succ n ih =>
    intro σ a1 a2 a3 H locs ls hf I hl
    rw [fX10_plan_L23] at hf
    refine lv_iload_n hx hb dX10_plan_23 rfl (lv_at hl 3 rfl) ?_
    refine lv_bipush (v := 24) hx hb dX10_plan_24 (by decide) ?_
    refine lv_icmp_ge (tgt := 42) hx hb dX10_plan_26 (by decide) (fun c9 => ?_) (fun c9 => ?_)
    · have hf := i_t c9 hf
      exact hK42 σ a1 a2 _ _ _ hf I (lv_sub hl [0, 1, 2] rfl)
    · have hf := i_f c9 hf
      refine lv_aload_n hx hb dX10_plan_29 rfl (lv_at hl 0 rfl) ?_
      refine j_get I hx hb hts iw_X10_plan_X10 hown 0 (by decide) (km0 g Y _) rfl 30 (by decide) (hts (.fieldLink RX10 90 "ReelNightModel" "trial" "[I") (by decide +kernel)) rfl dX10_plan_30 ?_
      refine lv_iload_n hx hb dX10_plan_33 rfl (lv_at hl 3 rfl) ?_
      refine lv_iconst (v := (-1)) hx hb dX10_plan_34 (by decide) ?_
      obtain ⟨b10, hf⟩ := o_nb hf
      obtain ⟨σ11, eσ11, hf⟩ := o_stp hf
      refine j_ast I hx hb 24 (by decide) (km24 g Y) b10 eσ11 dX10_plan_35 (fun H locs I => ?_)
      refine lv_iinc (v := (a3 + 1)) (lv' := [(3, .int (a3 + 1)), (0, .ref (g 0)), (1, .int a1), (2, .int a2)]) hx hb dX10_plan_36 hl (k := 3) rfl rfl (by decide) rfl (fun ls hl => ?_)
      refine lv_goto (tgt := 23) hx hb dX10_plan_39 (by decide) ?_
      exact ih σ11 a1 a2 (a3 + 1) _ _ _ hf I (lv_sub hl [1, 2, 3, 0] rfl)
set_option maxHeartbeats 4000000 in
set_option maxRecDepth 100000 in
theorem bX10_plan_L91 {p : Program} {l : Launch} {e : Env} {s : State} {m : MethodId} {args : Array Value} {below : List Frame} {meth : Method} {c : Code} {D : va_G} {g : Nat → Nat} {Y : YT} {bP : Nat} {σ0 : St} {res : St × Int32} (C0 : MC p s m args meth c cX10_plan 4 (some .int) RX10 wsX10_plan) : ∀ (n : Nat) (σ : St) (a3 : Int32) (H : Heap) (locs : List Loc) (ls : Array Slot), fX10_plan_L91 n σ a3 = some res → JW D 27 g (KM g Y) Y bP (va_A (wd 27 g (KM g Y) σ0) s.heap.size) s σ H locs → lv_has ls 4 [(0, .ref (g 0)), (3, .int a3)] → W p l e (⟨321, 0, 0, 16025⟩ : Room) s m args below meth c H locs 0 0 (MQ below (Qi D 27 g (KM g Y) Y σ0 res s.heap.size) args s 0 0 (va_A (wd 27 g (KM g Y) σ0) s.heap.size)) (F0 m 91 ls []) := by
  have C0 := C0
  obtain ⟨hx, hb, hr, hml, hown, hts, hlk⟩ := id C0
  intro n
  induction n with
  | zero =>
    intro σ a3 H locs ls hf
    cases hf
  | succ n ih =>
    intro σ a3 H locs ls hf I hl
    rw [fX10_plan_L91] at hf
    refine lv_iload_n hx hb dX10_plan_91 rfl (lv_at hl 1 rfl) ?_
    refine lv_bipush (v := 24) hx hb dX10_plan_92 (by decide) ?_
    refine lv_icmp_ge (tgt := 115) hx hb dX10_plan_94 (by decide) (fun c24 => ?_) (fun c24 => ?_)
    · have hf := i_t c24 hf
      refine lv_aload_n hx hb dX10_plan_115 rfl (lv_at hl 0 rfl) ?_
      refine j_get I hx hb hts iw_X10_plan_X10 hown 0 (by decide) (km0 g Y _) rfl 32 (by decide) (hts (.fieldLink RX10 186 "ReelNightModel" "bestWorth" "I") (by decide +kernel)) rfl dX10_plan_116 ?_
      exact j_iret I hx hb hr rfl hlk hf dX10_plan_119
    · have hf := i_f c24 hf
      refine lv_aload_n hx hb dX10_plan_97 rfl (lv_at hl 0 rfl) ?_
      refine j_get I hx hb hts iw_X10_plan_X10 hown 0 (by decide) (km0 g Y _) rfl 16 (by decide) (hts (.fieldLink RX10 46 "ReelNightModel" "planned" "[I") (by decide +kernel)) rfl dX10_plan_98 ?_
      refine lv_iload_n hx hb dX10_plan_101 rfl (lv_at hl 1 rfl) ?_
      refine lv_aload_n hx hb dX10_plan_102 rfl (lv_at hl 0 rfl) ?_
      refine j_get I hx hb hts iw_X10_plan_X10 hown 0 (by decide) (km0 g Y _) rfl 31 (by decide) (hts (.fieldLink RX10 93 "ReelNightModel" "best" "[I") (by decide +kernel)) rfl dX10_plan_103 ?_
      refine lv_iload_n hx hb dX10_plan_106 rfl (lv_at hl 1 rfl) ?_
      obtain ⟨b25, hf⟩ := o_nb hf
      refine j_ald I hx hb 25 (by decide) (km25 g Y _) b25 dX10_plan_107 ?_
      obtain ⟨b26, hf⟩ := o_nb hf
      obtain ⟨σ27, eσ27, hf⟩ := o_stp hf
      refine j_ast I hx hb 13 (by decide) (km13 g Y) b26 eσ27 dX10_plan_108 (fun H locs I => ?_)
      refine lv_iinc (v := (a3 + 1)) (lv' := [(3, .int (a3 + 1)), (0, .ref (g 0))]) hx hb dX10_plan_109 hl (k := 1) rfl rfl (by decide) rfl (fun ls hl => ?_)
      refine lv_goto (tgt := 91) hx hb dX10_plan_112 (by decide) ?_
      exact ih σ27 (a3 + 1) _ _ _ hf I (lv_sub hl [1, 0] rfl)
set_option maxHeartbeats 4000000 in
set_option maxRecDepth 100000 in
theorem ct_X10_plan {l : Launch} {D : va_G} {g : Nat → Nat} {Y : YT} {bP : Nat} (σ : St) (p0 : Int32) (p1 : Int32) (res : St × Int32) (hf : fX10_plan σ p0 p1 = some res) : Ci l yX10_plan wsX10_plan ⟨321, 0, 0, 16025⟩ D 27 g (KM g Y) Y bP [.ref (g 0), .int p0, .int p1] σ res := by
  intro sz
  refine Met.ofW (cc := cX10_plan) (maxL := 4) (ret := (some .int)) (by decide) rfl ?_
  intro p e s m args below meth c s₁ B hml hv
  obtain ⟨rfl, rfl, I⟩ := j_start hv
  have C0 : MC p s m _ meth c cX10_plan 4 (some .int) RX10 wsX10_plan := ⟨B.exec, B.bytes, B.returns, hml, findClass_of_methodNamed B.named, atoms_spec (ws := wsX10_plan) B.pre, B.notSynchronized⟩
  obtain ⟨hx, hb, hr, hml, hown, hts, hlk⟩ := id C0
  have hl := lv_entry ([.ref (g 0), .int p0, .int p1]) (n := 4) (Nat.le_of_ble_eq_true rfl)
  rw [lg_entry_eq]
  generalize (lg_sl ([.ref (g 0), .int p0, .int p1]) ++ List.replicate (4 - (lg_sl ([.ref (g 0), .int p0, .int p1])).length) Slot.unset).toArray = ls at hl ⊢
  have hl : lv_has ls 4 [(0, .ref (g 0)), (1, .int p0), (2, .int p1)] := hl
  rw [fX10_plan] at hf
  refine lv_iload_n hx hb dX10_plan_0 rfl (lv_at hl 1 rfl) ?_
  obtain ⟨σ1, r2, h3, hf⟩ := o_obn hf
  refine j_iS (rest := []) I ⟨hx, hb, hml, hown, hts⟩ (ct_X10_isWeek σ p0 _ h3) (va_cwS 1 hts gX10_plan_X10_isWeek rfl rfl rfl (by decide +kernel) ⟨Nat.le_of_ble_eq_true rfl, Nat.le_of_ble_eq_true rfl⟩) rfl hl.1 rfl (Nat.le_of_ble_eq_true rfl) dX10_plan_1 ⟨Nat.zero_le _, Nat.zero_le _⟩ (fun H locs I => ?_)
  refine lv_if_eq (tgt := 18) hx hb dX10_plan_4 (by decide) (fun c4 => ?_) (fun c4 => ?_)
  · have hf := i_t c4 hf
    refine lv_ldc hx hb hown (hts (.constant RX10 109 (-1000000001)) (by decide +kernel)) dX10_plan_18 ?_
    exact j_iret I hx hb hr rfl hlk hf dX10_plan_20
  · have hf := i_f c4 hf
    refine lv_iload_n hx hb dX10_plan_7 rfl (lv_at hl 2 rfl) ?_
    refine lv_iconst (v := 1) hx hb dX10_plan_8 (by decide) ?_
    refine lv_sipush (v := 20000) hx hb dX10_plan_9 (by decide) ?_
    obtain ⟨σ5, r6, h7, hf⟩ := o_obn hf
    refine j_iS (rest := []) I ⟨hx, hb, hml, hown, hts⟩ (ct_X10_isIn σ1 p1 1 20000 _ h7) (va_cwS 3 hts gX10_plan_X10_isIn rfl rfl rfl (by decide +kernel) ⟨Nat.le_of_ble_eq_true rfl, Nat.le_of_ble_eq_true rfl⟩) rfl hl.1 rfl (Nat.le_of_ble_eq_true rfl) dX10_plan_12 ⟨Nat.zero_le _, Nat.zero_le _⟩ (fun H locs I => ?_)
    refine lv_if_ne (tgt := 21) hx hb dX10_plan_15 (by decide) (fun c8 => ?_) (fun c8 => ?_)
    · have hf := i_f c8 hf
      refine lv_iconst (v := 0) hx hb dX10_plan_21 (by decide) ?_
      refine lv_istore_n (lv' := [(3, .int 0), (0, .ref (g 0)), (1, .int p0), (2, .int p1)]) hx hb dX10_plan_22 rfl hl (by decide) rfl (fun ls hl => ?_)
      refine bX10_plan_L23 C0 ?_ 50 σ5 p0 p1 0 _ _ _ hf I (lv_sub hl [1, 2, 3, 0] rfl)
      · intro σ12 a13 a14 H locs ls hf I hl
        refine lv_aload_n hx hb dX10_plan_42 rfl (lv_at hl 0 rfl) ?_
        refine lv_iconst (v := (-1)) hx hb dX10_plan_43 (by decide) ?_
        obtain ⟨σ15, eσ15, hf⟩ := o_stp hf
        refine j_put I hx hb hts iw_X10_plan_X10 tyX10 tyX10_ok nmX10 hown 0 (by decide) (km0 g Y _) rfl 32 (by decide) (hts (.fieldLink RX10 186 "ReelNightModel" "bestWorth" "I") (by decide +kernel)) rfl rfl rfl (Nat.le_of_ble_eq_true rfl) (kms0_32 g Y _ _) eσ15 dX10_plan_44 (fun H locs I => ?_)
        refine lv_aload_n hx hb dX10_plan_47 rfl (lv_at hl 0 rfl) ?_
        refine lv_iload_n hx hb dX10_plan_48 rfl (lv_at hl 1 rfl) ?_
        obtain ⟨σ16, eσ16, hf⟩ := o_stp hf
        refine j_put I hx hb hts iw_X10_plan_X10 tyX10 tyX10_ok nmX10 hown 0 (by decide) (km0 g Y _) rfl 33 (by decide) (hts (.fieldLink RX10 179 "ReelNightModel" "lastWeek" "I") (by decide +kernel)) rfl rfl rfl (Nat.le_of_ble_eq_true rfl) (kms0_33 g Y _ _) eσ16 dX10_plan_49 (fun H locs I => ?_)
        refine lv_aload_n hx hb dX10_plan_52 rfl (lv_at hl 0 rfl) ?_
        refine lv_iload_n hx hb dX10_plan_53 rfl (lv_at hl 2 rfl) ?_
        obtain ⟨σ17, eσ17, hf⟩ := o_stp hf
        refine j_put I hx hb hts iw_X10_plan_X10 tyX10 tyX10_ok nmX10 hown 0 (by decide) (km0 g Y _) rfl 34 (by decide) (hts (.fieldLink RX10 196 "ReelNightModel" "triesLeft" "I") (by decide +kernel)) rfl rfl rfl (Nat.le_of_ble_eq_true rfl) (kms0_34 g Y _ _) eσ17 dX10_plan_54 (fun H locs I => ?_)
        refine lv_aload_n hx hb dX10_plan_57 rfl (lv_at hl 0 rfl) ?_
        refine lv_iconst (v := 0) hx hb dX10_plan_58 (by decide) ?_
        obtain ⟨σ18, eσ18, hf⟩ := o_stp hf
        refine j_put I hx hb hts iw_X10_plan_X10 tyX10 tyX10_ok nmX10 hown 0 (by decide) (km0 g Y _) rfl 35 (by decide) (hts (.fieldLink RX10 189 "ReelNightModel" "isSpent" "Z") (by decide +kernel)) rfl rfl rfl (Nat.le_of_ble_eq_true rfl) (kms0_35 g Y _ _) eσ18 dX10_plan_59 (fun H locs I => ?_)
        refine lv_aload_n hx hb dX10_plan_62 rfl (lv_at hl 0 rfl) ?_
        refine lv_iconst (v := 0) hx hb dX10_plan_63 (by decide) ?_
        refine lv_iconst (v := 0) hx hb dX10_plan_64 (by decide) ?_
        refine lv_iconst (v := 0) hx hb dX10_plan_65 (by decide) ?_
        obtain ⟨σ19, r20, h21, hf⟩ := o_obn hf
        refine j_vV (rest := []) I ⟨hx, hb, hml, hown, hts⟩ (ctR_X10_tryFrom 32 σ18 0 0 0 _ h21) (cwV 3 hts gX10_plan_X10_tryFrom rfl rfl rfl (by decide +kernel) ⟨Nat.le_of_ble_eq_true rfl, Nat.le_of_ble_eq_true rfl⟩) (by decide) (km0 g Y _) rfl rfl hl.1 rfl (Nat.le_of_ble_eq_true rfl) dX10_plan_66 ⟨Nat.zero_le _, Nat.zero_le _⟩ (fun H locs I => ?_)
        refine lv_aload_n hx hb dX10_plan_69 rfl (lv_at hl 0 rfl) ?_
        refine j_get I hx hb hts iw_X10_plan_X10 hown 0 (by decide) (km0 g Y _) rfl 35 (by decide) (hts (.fieldLink RX10 189 "ReelNightModel" "isSpent" "Z") (by decide +kernel)) rfl dX10_plan_70 ?_
        refine lv_if_eq (tgt := 79) hx hb dX10_plan_73 (by decide) (fun c22 => ?_) (fun c22 => ?_)
        · have hf := i_t c22 hf
          refine lv_aload_n hx hb dX10_plan_79 rfl (lv_at hl 0 rfl) ?_
          refine j_get I hx hb hts iw_X10_plan_X10 hown 0 (by decide) (km0 g Y _) rfl 32 (by decide) (hts (.fieldLink RX10 186 "ReelNightModel" "bestWorth" "I") (by decide +kernel)) rfl dX10_plan_80 ?_
          refine lv_if_ge (tgt := 89) hx hb dX10_plan_83 (by decide) (fun c23 => ?_) (fun c23 => ?_)
          · have hf := i_t c23 hf
            refine lv_iconst (v := 0) hx hb dX10_plan_89 (by decide) ?_
            refine lv_istore_n (lv' := [(3, .int 0), (0, .ref (g 0)), (1, .int a13), (2, .int a14)]) hx hb dX10_plan_90 rfl hl (by decide) rfl (fun ls hl => ?_)
            refine bX10_plan_L91 C0 50 σ19 0 _ _ _ hf I (lv_sub hl [1, 0] rfl)
          · have hf := i_f c23 hf
            refine lv_ldc hx hb hown (hts (.constant RX10 128 (-1000000002)) (by decide +kernel)) dX10_plan_86 ?_
            exact j_iret I hx hb hr rfl hlk hf dX10_plan_88
        · have hf := i_f c22 hf
          refine lv_ldc hx hb hown (hts (.constant RX10 203 (-1000000004)) (by decide +kernel)) dX10_plan_76 ?_
          exact j_iret I hx hb hr rfl hlk hf dX10_plan_78
    · have hf := i_t c8 hf
      refine lv_ldc hx hb hown (hts (.constant RX10 109 (-1000000001)) (by decide +kernel)) dX10_plan_18 ?_
      exact j_iret I hx hb hr rfl hlk hf dX10_plan_20

theorem iw_X10_planned_X10 : ∀ w ∈ u_ws RX10 TX10 37, w ∈ wsX10_planned := by decide +kernel
set_option maxHeartbeats 4000000 in
set_option maxRecDepth 100000 in
theorem ct_X10_planned {l : Launch} {D : va_G} {g : Nat → Nat} {Y : YT} {bP : Nat} (σ : St) (p0 : Int32) (p1 : Int32) (res : St × Int32) (hf : fX10_planned σ p0 p1 = some res) : Ci l yX10_planned wsX10_planned ⟨2, 0, 0, 43⟩ D 27 g (KM g Y) Y bP [.ref (g 0), .int p0, .int p1] σ res := by
  intro sz
  refine Met.ofW (cc := cX10_planned) (maxL := 4) (ret := (some .int)) (by decide) rfl ?_
  intro p e s m args below meth c s₁ B hml hv
  obtain ⟨rfl, rfl, I⟩ := j_start hv
  have C0 : MC p s m _ meth c cX10_planned 4 (some .int) RX10 wsX10_planned := ⟨B.exec, B.bytes, B.returns, hml, findClass_of_methodNamed B.named, atoms_spec (ws := wsX10_planned) B.pre, B.notSynchronized⟩
  obtain ⟨hx, hb, hr, hml, hown, hts, hlk⟩ := id C0
  have hl := lv_entry ([.ref (g 0), .int p0, .int p1]) (n := 4) (Nat.le_of_ble_eq_true rfl)
  rw [lg_entry_eq]
  generalize (lg_sl ([.ref (g 0), .int p0, .int p1]) ++ List.replicate (4 - (lg_sl ([.ref (g 0), .int p0, .int p1])).length) Slot.unset).toArray = ls at hl ⊢
  have hl : lv_has ls 4 [(0, .ref (g 0)), (1, .int p0), (2, .int p1)] := hl
  rw [fX10_planned] at hf
  refine lv_aload_n hx hb dX10_planned_0 rfl (lv_at hl 0 rfl) ?_
  refine lv_iload_n hx hb dX10_planned_1 rfl (lv_at hl 1 rfl) ?_
  obtain ⟨σ1, r2, h3, hf⟩ := o_obn hf
  refine j_iV (rest := []) I ⟨hx, hb, hml, hown, hts⟩ (ct_X10_isHouse σ p0 _ h3) (cwV 1 hts gX10_planned_X10_isHouse rfl rfl rfl (by decide +kernel) ⟨Nat.le_of_ble_eq_true rfl, Nat.le_of_ble_eq_true rfl⟩) (by decide) (km0 g Y _) rfl rfl hl.1 rfl (Nat.le_of_ble_eq_true rfl) dX10_planned_2 ⟨Nat.zero_le _, Nat.zero_le _⟩ (fun H locs I => ?_)
  refine lv_if_eq (tgt := 15) hx hb dX10_planned_5 (by decide) (fun c4 => ?_) (fun c4 => ?_)
  · have hf := i_t c4 hf
    refine lv_ldc hx hb hown (hts (.constant RX10 109 (-1000000001)) (by decide +kernel)) dX10_planned_15 ?_
    exact j_iret I hx hb hr rfl hlk hf dX10_planned_17
  · have hf := i_f c4 hf
    refine lv_iload_n hx hb dX10_planned_8 rfl (lv_at hl 2 rfl) ?_
    obtain ⟨σ5, r6, h7, hf⟩ := o_obn hf
    refine j_iS (rest := []) I ⟨hx, hb, hml, hown, hts⟩ (ct_X10_isWeek σ1 p1 _ h7) (va_cwS 1 hts gX10_planned_X10_isWeek rfl rfl rfl (by decide +kernel) ⟨Nat.le_of_ble_eq_true rfl, Nat.le_of_ble_eq_true rfl⟩) rfl hl.1 rfl (Nat.le_of_ble_eq_true rfl) dX10_planned_9 ⟨Nat.zero_le _, Nat.zero_le _⟩ (fun H locs I => ?_)
    refine lv_if_ne (tgt := 18) hx hb dX10_planned_12 (by decide) (fun c8 => ?_) (fun c8 => ?_)
    · have hf := i_f c8 hf
      refine lv_aload_n hx hb dX10_planned_18 rfl (lv_at hl 0 rfl) ?_
      refine j_get I hx hb hts iw_X10_planned_X10 hown 0 (by decide) (km0 g Y _) rfl 16 (by decide) (hts (.fieldLink RX10 46 "ReelNightModel" "planned" "[I") (by decide +kernel)) rfl dX10_planned_19 ?_
      refine lv_bipush (v := 6) hx hb dX10_planned_22 (by decide) ?_
      refine lv_iload_n hx hb dX10_planned_24 rfl (lv_at hl 2 rfl) ?_
      refine lv_imul hx hb dX10_planned_25 ?_
      refine lv_iload_n hx hb dX10_planned_26 rfl (lv_at hl 1 rfl) ?_
      refine lv_iadd hx hb dX10_planned_27 ?_
      obtain ⟨b9, hf⟩ := o_nb hf
      refine j_ald I hx hb 13 (by decide) (km13 g Y _) b9 dX10_planned_28 ?_
      obtain ⟨v10, ev10, hf⟩ := o_itp hf
      refine top_eq ev10 ?_
      refine lv_istore_n (lv' := [(3, .int v10), (0, .ref (g 0)), (1, .int p0), (2, .int p1)]) hx hb dX10_planned_29 rfl hl (by decide) rfl (fun ls hl => ?_)
      refine lv_iload_n hx hb dX10_planned_30 rfl (lv_at hl 0 rfl) ?_
      refine lv_if_ge (tgt := 39) hx hb dX10_planned_31 (by decide) (fun c11 => ?_) (fun c11 => ?_)
      · have hf := i_t c11 hf
        refine lv_iload_n hx hb dX10_planned_39 rfl (lv_at hl 0 rfl) ?_
        exact j_iret I hx hb hr rfl hlk hf dX10_planned_40
      · have hf := i_f c11 hf
        refine lv_ldc hx hb hown (hts (.constant RX10 169 (-1000000005)) (by decide +kernel)) dX10_planned_34 ?_
        refine lv_goto (tgt := 40) hx hb dX10_planned_36 (by decide) ?_
        exact j_iret I hx hb hr rfl hlk hf dX10_planned_40
    · have hf := i_t c8 hf
      refine lv_ldc hx hb hown (hts (.constant RX10 109 (-1000000001)) (by decide +kernel)) dX10_planned_15 ?_
      exact j_iret I hx hb hr rfl hlk hf dX10_planned_17

theorem iw_X10_rule_X10 : ∀ w ∈ u_ws RX10 TX10 37, w ∈ wsX10_rule := fun _ h => List.mem_cons_of_mem _ (List.mem_append_right _ h)
set_option maxHeartbeats 4000000 in
set_option maxRecDepth 100000 in
theorem ct_X10_rule {l : Launch} {D : va_G} {g : Nat → Nat} {Y : YT} {bP : Nat} (σ : St) (p0 : Int32) (p1 : Int32) (res : St × Int32) (hf : fX10_rule σ p0 p1 = some res) : Ci l yX10_rule wsX10_rule ⟨1, 0, 0, 22⟩ D 27 g (KM g Y) Y bP [.ref (g 0), .int p0, .int p1] σ res := by
  intro sz
  refine Met.ofW (cc := cX10_rule) (maxL := 4) (ret := (some .int)) (by decide) rfl ?_
  intro p e s m args below meth c s₁ B hml hv
  obtain ⟨rfl, rfl, I⟩ := j_start hv
  have C0 : MC p s m _ meth c cX10_rule 4 (some .int) RX10 wsX10_rule := ⟨B.exec, B.bytes, B.returns, hml, findClass_of_methodNamed B.named, atoms_spec (ws := wsX10_rule) B.pre, B.notSynchronized⟩
  obtain ⟨hx, hb, hr, hml, hown, hts, hlk⟩ := id C0
  have hl := lv_entry ([.ref (g 0), .int p0, .int p1]) (n := 4) (Nat.le_of_ble_eq_true rfl)
  rw [lg_entry_eq]
  generalize (lg_sl ([.ref (g 0), .int p0, .int p1]) ++ List.replicate (4 - (lg_sl ([.ref (g 0), .int p0, .int p1])).length) Slot.unset).toArray = ls at hl ⊢
  have hl : lv_has ls 4 [(0, .ref (g 0)), (1, .int p0), (2, .int p1)] := hl
  rw [fX10_rule] at hf
  refine lv_iload_n hx hb dX10_rule_0 rfl (lv_at hl 1 rfl) ?_
  refine lv_iconst (v := 0) hx hb dX10_rule_1 (by decide) ?_
  refine lv_iconst (v := 2) hx hb dX10_rule_2 (by decide) ?_
  obtain ⟨σ1, r2, h3, hf⟩ := o_obn hf
  refine j_iS (rest := []) I ⟨hx, hb, hml, hown, hts⟩ (ct_X10_isIn σ p0 0 2 _ h3) (va_cwS 3 hts gX10_rule_X10_isIn rfl rfl rfl (by decide +kernel) ⟨Nat.le_of_ble_eq_true rfl, Nat.le_of_ble_eq_true rfl⟩) rfl hl.1 rfl (Nat.le_of_ble_eq_true rfl) dX10_rule_3 ⟨Nat.zero_le _, Nat.zero_le _⟩ (fun H locs I => ?_)
  refine lv_if_eq (tgt := 24) hx hb dX10_rule_6 (by decide) (fun c4 => ?_) (fun c4 => ?_)
  · have hf := i_t c4 hf
    refine lv_ldc hx hb hown (hts (.constant RX10 109 (-1000000001)) (by decide +kernel)) dX10_rule_24 ?_
    exact j_iret I hx hb hr rfl hlk hf dX10_rule_26
  · have hf := i_f c4 hf
    refine lv_iload_n hx hb dX10_rule_9 rfl (lv_at hl 1 rfl) ?_
    refine lv_iconst (v := 2) hx hb dX10_rule_10 (by decide) ?_
    refine lv_icmp_ge (tgt := 27) hx hb dX10_rule_11 (by decide) (fun c5 => ?_) (fun c5 => ?_)
    · have hf := i_t c5 hf
      refine lv_iload_n hx hb dX10_rule_27 rfl (lv_at hl 1 rfl) ?_
      refine lv_if_ne (tgt := 38) hx hb dX10_rule_28 (by decide) (fun c6 => ?_) (fun c6 => ?_)
      · have hf := i_f c6 hf
        refine lv_iload_n hx hb dX10_rule_38 rfl (lv_at hl 1 rfl) ?_
        refine lv_iconst (v := 1) hx hb dX10_rule_39 (by decide) ?_
        refine lv_icmp_ne (tgt := 50) hx hb dX10_rule_40 (by decide) (fun c7 => ?_) (fun c7 => ?_)
        · have hf := i_f c7 hf
          refine lv_aload_n hx hb dX10_rule_50 rfl (lv_at hl 0 rfl) ?_
          refine j_get I hx hb hts iw_X10_rule_X10 hown 0 (by decide) (km0 g Y _) rfl 19 (by decide) (hts (.fieldLink RX10 56 "ReelNightModel" "seed" "I") (by decide +kernel)) rfl dX10_rule_51 ?_
          obtain ⟨v8, ev8, hf⟩ := o_itp hf
          refine top_eq ev8 ?_
          refine lv_istore_n (lv' := [(3, .int v8), (0, .ref (g 0)), (1, .int p0), (2, .int p1)]) hx hb dX10_rule_54 rfl hl (by decide) rfl (fun ls hl => ?_)
          refine lv_iload_n hx hb dX10_rule_55 rfl (lv_at hl 2 rfl) ?_
          refine lv_if_ne (tgt := 67) hx hb dX10_rule_56 (by decide) (fun c9 => ?_) (fun c9 => ?_)
          · have hf := i_f c9 hf
            refine lv_iload_n hx hb dX10_rule_67 rfl (lv_at hl 2 rfl) ?_
            refine lv_iconst (v := 1) hx hb dX10_rule_68 (by decide) ?_
            refine lv_icmp_ne (tgt := 80) hx hb dX10_rule_69 (by decide) (fun c10 => ?_) (fun c10 => ?_)
            · have hf := i_f c10 hf
              refine lv_aload_n hx hb dX10_rule_80 rfl (lv_at hl 1 rfl) ?_
              refine lv_iload_n hx hb dX10_rule_81 rfl (lv_at hl 3 rfl) ?_
              obtain ⟨σ11, eσ11, hf⟩ := o_stp hf
              refine j_put I hx hb hts iw_X10_rule_X10 tyX10 tyX10_ok nmX10 hown 0 (by decide) (km0 g Y _) rfl 19 (by decide) (hts (.fieldLink RX10 56 "ReelNightModel" "seed" "I") (by decide +kernel)) rfl rfl rfl (Nat.le_of_ble_eq_true rfl) (kms0_19 g Y _ _) eσ11 dX10_rule_82 (fun H locs I => ?_)
              refine lv_iload_n hx hb dX10_rule_85 rfl (lv_at hl 0 rfl) ?_
              exact j_iret I hx hb hr rfl hlk hf dX10_rule_86
            · have hf := i_t c10 hf
              refine lv_aload_n hx hb dX10_rule_72 rfl (lv_at hl 1 rfl) ?_
              refine lv_iload_n hx hb dX10_rule_73 rfl (lv_at hl 3 rfl) ?_
              obtain ⟨σ12, eσ12, hf⟩ := o_stp hf
              refine j_put I hx hb hts iw_X10_rule_X10 tyX10 tyX10_ok nmX10 hown 0 (by decide) (km0 g Y _) rfl 18 (by decide) (hts (.fieldLink RX10 53 "ReelNightModel" "odds" "I") (by decide +kernel)) rfl rfl rfl (Nat.le_of_ble_eq_true rfl) (kms0_18 g Y _ _) eσ12 dX10_rule_74 (fun H locs I => ?_)
              refine lv_goto (tgt := 85) hx hb dX10_rule_77 (by decide) ?_
              refine lv_iload_n hx hb dX10_rule_85 rfl (lv_at hl 0 rfl) ?_
              exact j_iret I hx hb hr rfl hlk hf dX10_rule_86
          · have hf := i_t c9 hf
            refine lv_aload_n hx hb dX10_rule_59 rfl (lv_at hl 1 rfl) ?_
            refine lv_iload_n hx hb dX10_rule_60 rfl (lv_at hl 3 rfl) ?_
            obtain ⟨σ13, eσ13, hf⟩ := o_stp hf
            refine j_put I hx hb hts iw_X10_rule_X10 tyX10 tyX10_ok nmX10 hown 0 (by decide) (km0 g Y _) rfl 17 (by decide) (hts (.fieldLink RX10 49 "ReelNightModel" "percent" "I") (by decide +kernel)) rfl rfl rfl (Nat.le_of_ble_eq_true rfl) (kms0_17 g Y _ _) eσ13 dX10_rule_61 (fun H locs I => ?_)
            refine lv_goto (tgt := 85) hx hb dX10_rule_64 (by decide) ?_
            refine lv_iload_n hx hb dX10_rule_85 rfl (lv_at hl 0 rfl) ?_
            exact j_iret I hx hb hr rfl hlk hf dX10_rule_86
        · have hf := i_t c7 hf
          refine lv_aload_n hx hb dX10_rule_43 rfl (lv_at hl 0 rfl) ?_
          refine j_get I hx hb hts iw_X10_rule_X10 hown 0 (by decide) (km0 g Y _) rfl 18 (by decide) (hts (.fieldLink RX10 53 "ReelNightModel" "odds" "I") (by decide +kernel)) rfl dX10_rule_44 ?_
          refine lv_goto (tgt := 54) hx hb dX10_rule_47 (by decide) ?_
          obtain ⟨v14, ev14, hf⟩ := o_itp hf
          refine top_eq ev14 ?_
          refine lv_istore_n (lv' := [(3, .int v14), (0, .ref (g 0)), (1, .int p0), (2, .int p1)]) hx hb dX10_rule_54 rfl hl (by decide) rfl (fun ls hl => ?_)
          refine lv_iload_n hx hb dX10_rule_55 rfl (lv_at hl 2 rfl) ?_
          refine lv_if_ne (tgt := 67) hx hb dX10_rule_56 (by decide) (fun c15 => ?_) (fun c15 => ?_)
          · have hf := i_f c15 hf
            refine lv_iload_n hx hb dX10_rule_67 rfl (lv_at hl 2 rfl) ?_
            refine lv_iconst (v := 1) hx hb dX10_rule_68 (by decide) ?_
            refine lv_icmp_ne (tgt := 80) hx hb dX10_rule_69 (by decide) (fun c16 => ?_) (fun c16 => ?_)
            · have hf := i_f c16 hf
              refine lv_aload_n hx hb dX10_rule_80 rfl (lv_at hl 1 rfl) ?_
              refine lv_iload_n hx hb dX10_rule_81 rfl (lv_at hl 3 rfl) ?_
              obtain ⟨σ17, eσ17, hf⟩ := o_stp hf
              refine j_put I hx hb hts iw_X10_rule_X10 tyX10 tyX10_ok nmX10 hown 0 (by decide) (km0 g Y _) rfl 19 (by decide) (hts (.fieldLink RX10 56 "ReelNightModel" "seed" "I") (by decide +kernel)) rfl rfl rfl (Nat.le_of_ble_eq_true rfl) (kms0_19 g Y _ _) eσ17 dX10_rule_82 (fun H locs I => ?_)
              refine lv_iload_n hx hb dX10_rule_85 rfl (lv_at hl 0 rfl) ?_
              exact j_iret I hx hb hr rfl hlk hf dX10_rule_86
            · have hf := i_t c16 hf
              refine lv_aload_n hx hb dX10_rule_72 rfl (lv_at hl 1 rfl) ?_
              refine lv_iload_n hx hb dX10_rule_73 rfl (lv_at hl 3 rfl) ?_
              obtain ⟨σ18, eσ18, hf⟩ := o_stp hf
              refine j_put I hx hb hts iw_X10_rule_X10 tyX10 tyX10_ok nmX10 hown 0 (by decide) (km0 g Y _) rfl 18 (by decide) (hts (.fieldLink RX10 53 "ReelNightModel" "odds" "I") (by decide +kernel)) rfl rfl rfl (Nat.le_of_ble_eq_true rfl) (kms0_18 g Y _ _) eσ18 dX10_rule_74 (fun H locs I => ?_)
              refine lv_goto (tgt := 85) hx hb dX10_rule_77 (by decide) ?_
              refine lv_iload_n hx hb dX10_rule_85 rfl (lv_at hl 0 rfl) ?_
              exact j_iret I hx hb hr rfl hlk hf dX10_rule_86
          · have hf := i_t c15 hf
            refine lv_aload_n hx hb dX10_rule_59 rfl (lv_at hl 1 rfl) ?_
            refine lv_iload_n hx hb dX10_rule_60 rfl (lv_at hl 3 rfl) ?_
            obtain ⟨σ19, eσ19, hf⟩ := o_stp hf
            refine j_put I hx hb hts iw_X10_rule_X10 tyX10 tyX10_ok nmX10 hown 0 (by decide) (km0 g Y _) rfl 17 (by decide) (hts (.fieldLink RX10 49 "ReelNightModel" "percent" "I") (by decide +kernel)) rfl rfl rfl (Nat.le_of_ble_eq_true rfl) (kms0_17 g Y _ _) eσ19 dX10_rule_61 (fun H locs I => ?_)
            refine lv_goto (tgt := 85) hx hb dX10_rule_64 (by decide) ?_
            refine lv_iload_n hx hb dX10_rule_85 rfl (lv_at hl 0 rfl) ?_
            exact j_iret I hx hb hr rfl hlk hf dX10_rule_86
      · have hf := i_t c6 hf
        refine lv_aload_n hx hb dX10_rule_31 rfl (lv_at hl 0 rfl) ?_
        refine j_get I hx hb hts iw_X10_rule_X10 hown 0 (by decide) (km0 g Y _) rfl 17 (by decide) (hts (.fieldLink RX10 49 "ReelNightModel" "percent" "I") (by decide +kernel)) rfl dX10_rule_32 ?_
        refine lv_goto (tgt := 54) hx hb dX10_rule_35 (by decide) ?_
        obtain ⟨v20, ev20, hf⟩ := o_itp hf
        refine top_eq ev20 ?_
        refine lv_istore_n (lv' := [(3, .int v20), (0, .ref (g 0)), (1, .int p0), (2, .int p1)]) hx hb dX10_rule_54 rfl hl (by decide) rfl (fun ls hl => ?_)
        refine lv_iload_n hx hb dX10_rule_55 rfl (lv_at hl 2 rfl) ?_
        refine lv_if_ne (tgt := 67) hx hb dX10_rule_56 (by decide) (fun c21 => ?_) (fun c21 => ?_)
        · have hf := i_f c21 hf
          refine lv_iload_n hx hb dX10_rule_67 rfl (lv_at hl 2 rfl) ?_
          refine lv_iconst (v := 1) hx hb dX10_rule_68 (by decide) ?_
          refine lv_icmp_ne (tgt := 80) hx hb dX10_rule_69 (by decide) (fun c22 => ?_) (fun c22 => ?_)
          · have hf := i_f c22 hf
            refine lv_aload_n hx hb dX10_rule_80 rfl (lv_at hl 1 rfl) ?_
            refine lv_iload_n hx hb dX10_rule_81 rfl (lv_at hl 3 rfl) ?_
            obtain ⟨σ23, eσ23, hf⟩ := o_stp hf
            refine j_put I hx hb hts iw_X10_rule_X10 tyX10 tyX10_ok nmX10 hown 0 (by decide) (km0 g Y _) rfl 19 (by decide) (hts (.fieldLink RX10 56 "ReelNightModel" "seed" "I") (by decide +kernel)) rfl rfl rfl (Nat.le_of_ble_eq_true rfl) (kms0_19 g Y _ _) eσ23 dX10_rule_82 (fun H locs I => ?_)
            refine lv_iload_n hx hb dX10_rule_85 rfl (lv_at hl 0 rfl) ?_
            exact j_iret I hx hb hr rfl hlk hf dX10_rule_86
          · have hf := i_t c22 hf
            refine lv_aload_n hx hb dX10_rule_72 rfl (lv_at hl 1 rfl) ?_
            refine lv_iload_n hx hb dX10_rule_73 rfl (lv_at hl 3 rfl) ?_
            obtain ⟨σ24, eσ24, hf⟩ := o_stp hf
            refine j_put I hx hb hts iw_X10_rule_X10 tyX10 tyX10_ok nmX10 hown 0 (by decide) (km0 g Y _) rfl 18 (by decide) (hts (.fieldLink RX10 53 "ReelNightModel" "odds" "I") (by decide +kernel)) rfl rfl rfl (Nat.le_of_ble_eq_true rfl) (kms0_18 g Y _ _) eσ24 dX10_rule_74 (fun H locs I => ?_)
            refine lv_goto (tgt := 85) hx hb dX10_rule_77 (by decide) ?_
            refine lv_iload_n hx hb dX10_rule_85 rfl (lv_at hl 0 rfl) ?_
            exact j_iret I hx hb hr rfl hlk hf dX10_rule_86
        · have hf := i_t c21 hf
          refine lv_aload_n hx hb dX10_rule_59 rfl (lv_at hl 1 rfl) ?_
          refine lv_iload_n hx hb dX10_rule_60 rfl (lv_at hl 3 rfl) ?_
          obtain ⟨σ25, eσ25, hf⟩ := o_stp hf
          refine j_put I hx hb hts iw_X10_rule_X10 tyX10 tyX10_ok nmX10 hown 0 (by decide) (km0 g Y _) rfl 17 (by decide) (hts (.fieldLink RX10 49 "ReelNightModel" "percent" "I") (by decide +kernel)) rfl rfl rfl (Nat.le_of_ble_eq_true rfl) (kms0_17 g Y _ _) eσ25 dX10_rule_61 (fun H locs I => ?_)
          refine lv_goto (tgt := 85) hx hb dX10_rule_64 (by decide) ?_
          refine lv_iload_n hx hb dX10_rule_85 rfl (lv_at hl 0 rfl) ?_
          exact j_iret I hx hb hr rfl hlk hf dX10_rule_86
    · have hf := i_f c5 hf
      refine lv_iload_n hx hb dX10_rule_14 rfl (lv_at hl 2 rfl) ?_
      refine lv_iconst (v := 0) hx hb dX10_rule_15 (by decide) ?_
      refine lv_bipush (v := 100) hx hb dX10_rule_16 (by decide) ?_
      obtain ⟨σ26, r27, h28, hf⟩ := o_obn hf
      refine j_iS (rest := []) I ⟨hx, hb, hml, hown, hts⟩ (ct_X10_isIn σ1 p1 0 100 _ h28) (va_cwS 3 hts gX10_rule_X10_isIn rfl rfl rfl (by decide +kernel) ⟨Nat.le_of_ble_eq_true rfl, Nat.le_of_ble_eq_true rfl⟩) rfl hl.1 rfl (Nat.le_of_ble_eq_true rfl) dX10_rule_18 ⟨Nat.zero_le _, Nat.zero_le _⟩ (fun H locs I => ?_)
      refine lv_if_ne (tgt := 27) hx hb dX10_rule_21 (by decide) (fun c29 => ?_) (fun c29 => ?_)
      · have hf := i_f c29 hf
        refine lv_iload_n hx hb dX10_rule_27 rfl (lv_at hl 1 rfl) ?_
        refine lv_if_ne (tgt := 38) hx hb dX10_rule_28 (by decide) (fun c30 => ?_) (fun c30 => ?_)
        · have hf := i_f c30 hf
          refine lv_iload_n hx hb dX10_rule_38 rfl (lv_at hl 1 rfl) ?_
          refine lv_iconst (v := 1) hx hb dX10_rule_39 (by decide) ?_
          refine lv_icmp_ne (tgt := 50) hx hb dX10_rule_40 (by decide) (fun c31 => ?_) (fun c31 => ?_)
          · have hf := i_f c31 hf
            refine lv_aload_n hx hb dX10_rule_50 rfl (lv_at hl 0 rfl) ?_
            refine j_get I hx hb hts iw_X10_rule_X10 hown 0 (by decide) (km0 g Y _) rfl 19 (by decide) (hts (.fieldLink RX10 56 "ReelNightModel" "seed" "I") (by decide +kernel)) rfl dX10_rule_51 ?_
            obtain ⟨v32, ev32, hf⟩ := o_itp hf
            refine top_eq ev32 ?_
            refine lv_istore_n (lv' := [(3, .int v32), (0, .ref (g 0)), (1, .int p0), (2, .int p1)]) hx hb dX10_rule_54 rfl hl (by decide) rfl (fun ls hl => ?_)
            refine lv_iload_n hx hb dX10_rule_55 rfl (lv_at hl 2 rfl) ?_
            refine lv_if_ne (tgt := 67) hx hb dX10_rule_56 (by decide) (fun c33 => ?_) (fun c33 => ?_)
            · have hf := i_f c33 hf
              refine lv_iload_n hx hb dX10_rule_67 rfl (lv_at hl 2 rfl) ?_
              refine lv_iconst (v := 1) hx hb dX10_rule_68 (by decide) ?_
              refine lv_icmp_ne (tgt := 80) hx hb dX10_rule_69 (by decide) (fun c34 => ?_) (fun c34 => ?_)
              · have hf := i_f c34 hf
                refine lv_aload_n hx hb dX10_rule_80 rfl (lv_at hl 1 rfl) ?_
                refine lv_iload_n hx hb dX10_rule_81 rfl (lv_at hl 3 rfl) ?_
                obtain ⟨σ35, eσ35, hf⟩ := o_stp hf
                refine j_put I hx hb hts iw_X10_rule_X10 tyX10 tyX10_ok nmX10 hown 0 (by decide) (km0 g Y _) rfl 19 (by decide) (hts (.fieldLink RX10 56 "ReelNightModel" "seed" "I") (by decide +kernel)) rfl rfl rfl (Nat.le_of_ble_eq_true rfl) (kms0_19 g Y _ _) eσ35 dX10_rule_82 (fun H locs I => ?_)
                refine lv_iload_n hx hb dX10_rule_85 rfl (lv_at hl 0 rfl) ?_
                exact j_iret I hx hb hr rfl hlk hf dX10_rule_86
              · have hf := i_t c34 hf
                refine lv_aload_n hx hb dX10_rule_72 rfl (lv_at hl 1 rfl) ?_
                refine lv_iload_n hx hb dX10_rule_73 rfl (lv_at hl 3 rfl) ?_
                obtain ⟨σ36, eσ36, hf⟩ := o_stp hf
                refine j_put I hx hb hts iw_X10_rule_X10 tyX10 tyX10_ok nmX10 hown 0 (by decide) (km0 g Y _) rfl 18 (by decide) (hts (.fieldLink RX10 53 "ReelNightModel" "odds" "I") (by decide +kernel)) rfl rfl rfl (Nat.le_of_ble_eq_true rfl) (kms0_18 g Y _ _) eσ36 dX10_rule_74 (fun H locs I => ?_)
                refine lv_goto (tgt := 85) hx hb dX10_rule_77 (by decide) ?_
                refine lv_iload_n hx hb dX10_rule_85 rfl (lv_at hl 0 rfl) ?_
                exact j_iret I hx hb hr rfl hlk hf dX10_rule_86
            · have hf := i_t c33 hf
              refine lv_aload_n hx hb dX10_rule_59 rfl (lv_at hl 1 rfl) ?_
              refine lv_iload_n hx hb dX10_rule_60 rfl (lv_at hl 3 rfl) ?_
              obtain ⟨σ37, eσ37, hf⟩ := o_stp hf
              refine j_put I hx hb hts iw_X10_rule_X10 tyX10 tyX10_ok nmX10 hown 0 (by decide) (km0 g Y _) rfl 17 (by decide) (hts (.fieldLink RX10 49 "ReelNightModel" "percent" "I") (by decide +kernel)) rfl rfl rfl (Nat.le_of_ble_eq_true rfl) (kms0_17 g Y _ _) eσ37 dX10_rule_61 (fun H locs I => ?_)
              refine lv_goto (tgt := 85) hx hb dX10_rule_64 (by decide) ?_
              refine lv_iload_n hx hb dX10_rule_85 rfl (lv_at hl 0 rfl) ?_
              exact j_iret I hx hb hr rfl hlk hf dX10_rule_86
          · have hf := i_t c31 hf
            refine lv_aload_n hx hb dX10_rule_43 rfl (lv_at hl 0 rfl) ?_
            refine j_get I hx hb hts iw_X10_rule_X10 hown 0 (by decide) (km0 g Y _) rfl 18 (by decide) (hts (.fieldLink RX10 53 "ReelNightModel" "odds" "I") (by decide +kernel)) rfl dX10_rule_44 ?_
            refine lv_goto (tgt := 54) hx hb dX10_rule_47 (by decide) ?_
            obtain ⟨v38, ev38, hf⟩ := o_itp hf
            refine top_eq ev38 ?_
            refine lv_istore_n (lv' := [(3, .int v38), (0, .ref (g 0)), (1, .int p0), (2, .int p1)]) hx hb dX10_rule_54 rfl hl (by decide) rfl (fun ls hl => ?_)
            refine lv_iload_n hx hb dX10_rule_55 rfl (lv_at hl 2 rfl) ?_
            refine lv_if_ne (tgt := 67) hx hb dX10_rule_56 (by decide) (fun c39 => ?_) (fun c39 => ?_)
            · have hf := i_f c39 hf
              refine lv_iload_n hx hb dX10_rule_67 rfl (lv_at hl 2 rfl) ?_
              refine lv_iconst (v := 1) hx hb dX10_rule_68 (by decide) ?_
              refine lv_icmp_ne (tgt := 80) hx hb dX10_rule_69 (by decide) (fun c40 => ?_) (fun c40 => ?_)
              · have hf := i_f c40 hf
                refine lv_aload_n hx hb dX10_rule_80 rfl (lv_at hl 1 rfl) ?_
                refine lv_iload_n hx hb dX10_rule_81 rfl (lv_at hl 3 rfl) ?_
                obtain ⟨σ41, eσ41, hf⟩ := o_stp hf
                refine j_put I hx hb hts iw_X10_rule_X10 tyX10 tyX10_ok nmX10 hown 0 (by decide) (km0 g Y _) rfl 19 (by decide) (hts (.fieldLink RX10 56 "ReelNightModel" "seed" "I") (by decide +kernel)) rfl rfl rfl (Nat.le_of_ble_eq_true rfl) (kms0_19 g Y _ _) eσ41 dX10_rule_82 (fun H locs I => ?_)
                refine lv_iload_n hx hb dX10_rule_85 rfl (lv_at hl 0 rfl) ?_
                exact j_iret I hx hb hr rfl hlk hf dX10_rule_86
              · have hf := i_t c40 hf
                refine lv_aload_n hx hb dX10_rule_72 rfl (lv_at hl 1 rfl) ?_
                refine lv_iload_n hx hb dX10_rule_73 rfl (lv_at hl 3 rfl) ?_
                obtain ⟨σ42, eσ42, hf⟩ := o_stp hf
                refine j_put I hx hb hts iw_X10_rule_X10 tyX10 tyX10_ok nmX10 hown 0 (by decide) (km0 g Y _) rfl 18 (by decide) (hts (.fieldLink RX10 53 "ReelNightModel" "odds" "I") (by decide +kernel)) rfl rfl rfl (Nat.le_of_ble_eq_true rfl) (kms0_18 g Y _ _) eσ42 dX10_rule_74 (fun H locs I => ?_)
                refine lv_goto (tgt := 85) hx hb dX10_rule_77 (by decide) ?_
                refine lv_iload_n hx hb dX10_rule_85 rfl (lv_at hl 0 rfl) ?_
                exact j_iret I hx hb hr rfl hlk hf dX10_rule_86
            · have hf := i_t c39 hf
              refine lv_aload_n hx hb dX10_rule_59 rfl (lv_at hl 1 rfl) ?_
              refine lv_iload_n hx hb dX10_rule_60 rfl (lv_at hl 3 rfl) ?_
              obtain ⟨σ43, eσ43, hf⟩ := o_stp hf
              refine j_put I hx hb hts iw_X10_rule_X10 tyX10 tyX10_ok nmX10 hown 0 (by decide) (km0 g Y _) rfl 17 (by decide) (hts (.fieldLink RX10 49 "ReelNightModel" "percent" "I") (by decide +kernel)) rfl rfl rfl (Nat.le_of_ble_eq_true rfl) (kms0_17 g Y _ _) eσ43 dX10_rule_61 (fun H locs I => ?_)
              refine lv_goto (tgt := 85) hx hb dX10_rule_64 (by decide) ?_
              refine lv_iload_n hx hb dX10_rule_85 rfl (lv_at hl 0 rfl) ?_
              exact j_iret I hx hb hr rfl hlk hf dX10_rule_86
        · have hf := i_t c30 hf
          refine lv_aload_n hx hb dX10_rule_31 rfl (lv_at hl 0 rfl) ?_
          refine j_get I hx hb hts iw_X10_rule_X10 hown 0 (by decide) (km0 g Y _) rfl 17 (by decide) (hts (.fieldLink RX10 49 "ReelNightModel" "percent" "I") (by decide +kernel)) rfl dX10_rule_32 ?_
          refine lv_goto (tgt := 54) hx hb dX10_rule_35 (by decide) ?_
          obtain ⟨v44, ev44, hf⟩ := o_itp hf
          refine top_eq ev44 ?_
          refine lv_istore_n (lv' := [(3, .int v44), (0, .ref (g 0)), (1, .int p0), (2, .int p1)]) hx hb dX10_rule_54 rfl hl (by decide) rfl (fun ls hl => ?_)
          refine lv_iload_n hx hb dX10_rule_55 rfl (lv_at hl 2 rfl) ?_
          refine lv_if_ne (tgt := 67) hx hb dX10_rule_56 (by decide) (fun c45 => ?_) (fun c45 => ?_)
          · have hf := i_f c45 hf
            refine lv_iload_n hx hb dX10_rule_67 rfl (lv_at hl 2 rfl) ?_
            refine lv_iconst (v := 1) hx hb dX10_rule_68 (by decide) ?_
            refine lv_icmp_ne (tgt := 80) hx hb dX10_rule_69 (by decide) (fun c46 => ?_) (fun c46 => ?_)
            · have hf := i_f c46 hf
              refine lv_aload_n hx hb dX10_rule_80 rfl (lv_at hl 1 rfl) ?_
              refine lv_iload_n hx hb dX10_rule_81 rfl (lv_at hl 3 rfl) ?_
              obtain ⟨σ47, eσ47, hf⟩ := o_stp hf
              refine j_put I hx hb hts iw_X10_rule_X10 tyX10 tyX10_ok nmX10 hown 0 (by decide) (km0 g Y _) rfl 19 (by decide) (hts (.fieldLink RX10 56 "ReelNightModel" "seed" "I") (by decide +kernel)) rfl rfl rfl (Nat.le_of_ble_eq_true rfl) (kms0_19 g Y _ _) eσ47 dX10_rule_82 (fun H locs I => ?_)
              refine lv_iload_n hx hb dX10_rule_85 rfl (lv_at hl 0 rfl) ?_
              exact j_iret I hx hb hr rfl hlk hf dX10_rule_86
            · have hf := i_t c46 hf
              refine lv_aload_n hx hb dX10_rule_72 rfl (lv_at hl 1 rfl) ?_
              refine lv_iload_n hx hb dX10_rule_73 rfl (lv_at hl 3 rfl) ?_
              obtain ⟨σ48, eσ48, hf⟩ := o_stp hf
              refine j_put I hx hb hts iw_X10_rule_X10 tyX10 tyX10_ok nmX10 hown 0 (by decide) (km0 g Y _) rfl 18 (by decide) (hts (.fieldLink RX10 53 "ReelNightModel" "odds" "I") (by decide +kernel)) rfl rfl rfl (Nat.le_of_ble_eq_true rfl) (kms0_18 g Y _ _) eσ48 dX10_rule_74 (fun H locs I => ?_)
              refine lv_goto (tgt := 85) hx hb dX10_rule_77 (by decide) ?_
              refine lv_iload_n hx hb dX10_rule_85 rfl (lv_at hl 0 rfl) ?_
              exact j_iret I hx hb hr rfl hlk hf dX10_rule_86
          · have hf := i_t c45 hf
            refine lv_aload_n hx hb dX10_rule_59 rfl (lv_at hl 1 rfl) ?_
            refine lv_iload_n hx hb dX10_rule_60 rfl (lv_at hl 3 rfl) ?_
            obtain ⟨σ49, eσ49, hf⟩ := o_stp hf
            refine j_put I hx hb hts iw_X10_rule_X10 tyX10 tyX10_ok nmX10 hown 0 (by decide) (km0 g Y _) rfl 17 (by decide) (hts (.fieldLink RX10 49 "ReelNightModel" "percent" "I") (by decide +kernel)) rfl rfl rfl (Nat.le_of_ble_eq_true rfl) (kms0_17 g Y _ _) eσ49 dX10_rule_61 (fun H locs I => ?_)
            refine lv_goto (tgt := 85) hx hb dX10_rule_64 (by decide) ?_
            refine lv_iload_n hx hb dX10_rule_85 rfl (lv_at hl 0 rfl) ?_
            exact j_iret I hx hb hr rfl hlk hf dX10_rule_86
      · have hf := i_t c29 hf
        refine lv_ldc hx hb hown (hts (.constant RX10 109 (-1000000001)) (by decide +kernel)) dX10_rule_24 ?_
        exact j_iret I hx hb hr rfl hlk hf dX10_rule_26

theorem iw_X10_least_X10 : ∀ w ∈ u_ws RX10 TX10 37, w ∈ wsX10_least := by decide +kernel
set_option maxHeartbeats 4000000 in
set_option maxRecDepth 100000 in
theorem ct_X10_least {l : Launch} {D : va_G} {g : Nat → Nat} {Y : YT} {bP : Nat} (σ : St) (p0 : Int32) (p1 : Int32) (res : St × Int32) (hf : fX10_least σ p0 p1 = some res) : Ci l yX10_least wsX10_least ⟨2, 0, 0, 43⟩ D 27 g (KM g Y) Y bP [.ref (g 0), .int p0, .int p1] σ res := by
  intro sz
  refine Met.ofW (cc := cX10_least) (maxL := 4) (ret := (some .int)) (by decide) rfl ?_
  intro p e s m args below meth c s₁ B hml hv
  obtain ⟨rfl, rfl, I⟩ := j_start hv
  have C0 : MC p s m _ meth c cX10_least 4 (some .int) RX10 wsX10_least := ⟨B.exec, B.bytes, B.returns, hml, findClass_of_methodNamed B.named, atoms_spec (ws := wsX10_least) B.pre, B.notSynchronized⟩
  obtain ⟨hx, hb, hr, hml, hown, hts, hlk⟩ := id C0
  have hl := lv_entry ([.ref (g 0), .int p0, .int p1]) (n := 4) (Nat.le_of_ble_eq_true rfl)
  rw [lg_entry_eq]
  generalize (lg_sl ([.ref (g 0), .int p0, .int p1]) ++ List.replicate (4 - (lg_sl ([.ref (g 0), .int p0, .int p1])).length) Slot.unset).toArray = ls at hl ⊢
  have hl : lv_has ls 4 [(0, .ref (g 0)), (1, .int p0), (2, .int p1)] := hl
  rw [fX10_least] at hf
  refine lv_aload_n hx hb dX10_least_0 rfl (lv_at hl 0 rfl) ?_
  refine lv_iload_n hx hb dX10_least_1 rfl (lv_at hl 1 rfl) ?_
  obtain ⟨σ1, r2, h3, hf⟩ := o_obn hf
  refine j_iV (rest := []) I ⟨hx, hb, hml, hown, hts⟩ (ct_X10_isHouse σ p0 _ h3) (cwV 1 hts gX10_least_X10_isHouse rfl rfl rfl (by decide +kernel) ⟨Nat.le_of_ble_eq_true rfl, Nat.le_of_ble_eq_true rfl⟩) (by decide) (km0 g Y _) rfl rfl hl.1 rfl (Nat.le_of_ble_eq_true rfl) dX10_least_2 ⟨Nat.zero_le _, Nat.zero_le _⟩ (fun H locs I => ?_)
  refine lv_if_eq (tgt := 19) hx hb dX10_least_5 (by decide) (fun c4 => ?_) (fun c4 => ?_)
  · have hf := i_t c4 hf
    refine lv_ldc hx hb hown (hts (.constant RX10 109 (-1000000001)) (by decide +kernel)) dX10_least_19 ?_
    exact j_iret I hx hb hr rfl hlk hf dX10_least_21
  · have hf := i_f c4 hf
    refine lv_iload_n hx hb dX10_least_8 rfl (lv_at hl 2 rfl) ?_
    refine lv_iconst (v := 0) hx hb dX10_least_9 (by decide) ?_
    refine lv_sipush (v := 9999) hx hb dX10_least_10 (by decide) ?_
    obtain ⟨σ5, r6, h7, hf⟩ := o_obn hf
    refine j_iS (rest := []) I ⟨hx, hb, hml, hown, hts⟩ (ct_X10_isIn σ1 p1 0 9999 _ h7) (va_cwS 3 hts gX10_least_X10_isIn rfl rfl rfl (by decide +kernel) ⟨Nat.le_of_ble_eq_true rfl, Nat.le_of_ble_eq_true rfl⟩) rfl hl.1 rfl (Nat.le_of_ble_eq_true rfl) dX10_least_13 ⟨Nat.zero_le _, Nat.zero_le _⟩ (fun H locs I => ?_)
    refine lv_if_ne (tgt := 22) hx hb dX10_least_16 (by decide) (fun c8 => ?_) (fun c8 => ?_)
    · have hf := i_f c8 hf
      refine lv_aload_n hx hb dX10_least_22 rfl (lv_at hl 0 rfl) ?_
      refine lv_iload_n hx hb dX10_least_23 rfl (lv_at hl 1 rfl) ?_
      obtain ⟨σ9, r10, h11, hf⟩ := o_obn hf
      refine j_iV (rest := []) I ⟨hx, hb, hml, hown, hts⟩ (ct_X10_isPalace σ5 p0 _ h11) (cwV 1 hts gX10_least_X10_isPalace rfl rfl rfl (by decide +kernel) ⟨Nat.le_of_ble_eq_true rfl, Nat.le_of_ble_eq_true rfl⟩) (by decide) (km0 g Y _) rfl rfl hl.1 rfl (Nat.le_of_ble_eq_true rfl) dX10_least_24 ⟨Nat.zero_le _, Nat.zero_le _⟩ (fun H locs I => ?_)
      refine lv_if_ne (tgt := 33) hx hb dX10_least_27 (by decide) (fun c12 => ?_) (fun c12 => ?_)
      · have hf := i_f c12 hf
        refine lv_aload_n hx hb dX10_least_33 rfl (lv_at hl 0 rfl) ?_
        refine j_get I hx hb hts iw_X10_least_X10 hown 0 (by decide) (km0 g Y _) rfl 4 (by decide) (hts (.fieldLink RX10 19 "ReelNightModel" "leasts" "[I") (by decide +kernel)) rfl dX10_least_34 ?_
        refine lv_iload_n hx hb dX10_least_37 rfl (lv_at hl 1 rfl) ?_
        obtain ⟨b13, hf⟩ := o_nb hf
        refine j_ald I hx hb 4 (by decide) (km4 g Y _) b13 dX10_least_38 ?_
        obtain ⟨v14, ev14, hf⟩ := o_itp hf
        refine top_eq ev14 ?_
        refine lv_istore_n (lv' := [(3, .int v14), (0, .ref (g 0)), (1, .int p0), (2, .int p1)]) hx hb dX10_least_39 rfl hl (by decide) rfl (fun ls hl => ?_)
        refine lv_aload_n hx hb dX10_least_40 rfl (lv_at hl 1 rfl) ?_
        refine j_get I hx hb hts iw_X10_least_X10 hown 0 (by decide) (km0 g Y _) rfl 4 (by decide) (hts (.fieldLink RX10 19 "ReelNightModel" "leasts" "[I") (by decide +kernel)) rfl dX10_least_41 ?_
        refine lv_iload_n hx hb dX10_least_44 rfl (lv_at hl 2 rfl) ?_
        refine lv_iload_n hx hb dX10_least_45 rfl (lv_at hl 3 rfl) ?_
        obtain ⟨b15, hf⟩ := o_nb hf
        obtain ⟨σ16, eσ16, hf⟩ := o_stp hf
        refine j_ast I hx hb 4 (by decide) (km4 g Y) b15 eσ16 dX10_least_46 (fun H locs I => ?_)
        refine lv_iload_n hx hb dX10_least_47 rfl (lv_at hl 0 rfl) ?_
        exact j_iret I hx hb hr rfl hlk hf dX10_least_48
      · have hf := i_t c12 hf
        refine lv_ldc hx hb hown (hts (.constant RX10 128 (-1000000002)) (by decide +kernel)) dX10_least_30 ?_
        exact j_iret I hx hb hr rfl hlk hf dX10_least_32
    · have hf := i_t c8 hf
      refine lv_ldc hx hb hown (hts (.constant RX10 109 (-1000000001)) (by decide +kernel)) dX10_least_19 ?_
      exact j_iret I hx hb hr rfl hlk hf dX10_least_21
