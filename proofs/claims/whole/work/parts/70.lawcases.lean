set_option maxHeartbeats 4000000 in
set_option maxRecDepth 100000 in
theorem lc_house {p : Program} {l : Launch} {e : Env} {s : State} {m : MethodId} {below : List Frame} {meth : Method} {c : Code} {b L : Nat} {xs : Nat → Int32} {D : va_G} {Y : YT} {bP : Nat} {g g2 : Nat → Nat} (hL : L ≤ 3072) (C0 : lw_At p s m meth c b L xs) {σ μ : St} (hR : Rg σ μ) {H : Heap} {locs : List Loc} (I : LW D Y bP (fun q : Nat => s.heap.size ≤ q) s (wd 44 g (KC g Y) σ ++ wd 27 g2 (KM g2 Y) μ) H locs) {ls : Array Slot} {i : Nat} (hi : i + 6 ≤ L) (hl : lv_has ls 4 [(0, .ref b), (1, .ref (g 0)), (2, .ref (g2 0)), (3, .int (nI i))]) (nx : ∀ (σ μ : St) (H : Heap) (locs : List Loc) (ls : Array Slot), Rg σ μ → LW D Y bP (fun q : Nat => s.heap.size ≤ q) s (wd 44 g (KC g Y) σ ++ wd 27 g2 (KM g2 Y) μ) H locs → lv_has ls 4 [(0, .ref b), (1, .ref (g 0)), (2, .ref (g2 0)), (3, .int (nI i))] → W p l e room_1 s m #[Value.ref b] below meth c H locs 71 3182 (lw_Z below #[Value.ref b] s) (F0 m 1165 ls [])) : W p l e room_1 s m #[Value.ref b] below meth c H locs 71 3182 (lw_Z below #[Value.ref b] s) (F0 m 172 ls []) := by
  obtain ⟨hx, hb, hr, hml, hown0, hts, hX, hbl, hlocks, hgv⟩ := id C0
  have hown : s.vm.findClass RL = some m.cls := hown0
  have hbA : ¬ (fun q : Nat => s.heap.size ≤ q) b := Nat.not_le.mpr hbl
  obtain ⟨σ', μ', x, e1, e2, hR'⟩ := s_house hR (xs (nI (i + 1)).toNatClampNeg) (xs (nI (i + 2)).toNatClampNeg)
  refine lv_aload_n hx hb dL_law_172 rfl (lv_at hl 1 rfl) ?_
  refine lv_aload_n hx hb dL_law_173 rfl (lv_at hl 0 rfl) ?_
  refine lv_iload_n hx hb dL_law_174 rfl (lv_at hl 3 rfl) ?_
  refine lv_iconst (v := 1) hx hb dL_law_175 (by decide) ?_
  refine lv_iadd hx hb dL_law_176 ?_
  refine top_eq (show nI (i + 1) = nI i + 1 from (nI_add i 1).symm) ?_
  refine va_sld hx hb hX hbl hbA I.2.2.2.1 (vp_in_nI (show i + 1 < L by omega) (by omega)) dL_law_177 ?_
  refine lv_aload_n hx hb dL_law_178 rfl (lv_at hl 0 rfl) ?_
  refine lv_iload_n hx hb dL_law_179 rfl (lv_at hl 3 rfl) ?_
  refine lv_iconst (v := 2) hx hb dL_law_180 (by decide) ?_
  refine lv_iadd hx hb dL_law_181 ?_
  refine top_eq (show nI (i + 2) = nI i + 2 from (nI_add i 2).symm) ?_
  refine va_sld hx hb hX hbl hbA I.2.2.2.1 (vp_in_nI (show i + 2 < L by omega) (by omega)) dL_law_182 ?_
  refine l_iV (rest := []) I ⟨hx, hb, hml, hown, hts⟩ (ct_X9_house σ (xs (nI (i + 1)).toNatClampNeg) (xs (nI (i + 2)).toNatClampNeg) _ e1) (cwV 2 hts gM_X9_house rfl rfl rfl (by decide +kernel) ⟨Nat.le_of_ble_eq_true rfl, Nat.le_of_ble_eq_true rfl⟩) (by decide) (kc0 g Y _) rfl nd44 nd44r rfl hl.1 rfl (Nat.le_of_ble_eq_true rfl) dL_law_183 ⟨Nat.le_of_ble_eq_true rfl, Nat.le_of_ble_eq_true rfl⟩ (fun H locs I => ?_)
  refine lv_aload_n hx hb dL_law_186 rfl (lv_at hl 2 rfl) ?_
  refine lv_aload_n hx hb dL_law_187 rfl (lv_at hl 0 rfl) ?_
  refine lv_iload_n hx hb dL_law_188 rfl (lv_at hl 3 rfl) ?_
  refine lv_iconst (v := 1) hx hb dL_law_189 (by decide) ?_
  refine lv_iadd hx hb dL_law_190 ?_
  refine top_eq (show nI (i + 1) = nI i + 1 from (nI_add i 1).symm) ?_
  refine va_sld hx hb hX hbl hbA I.2.2.2.1 (vp_in_nI (show i + 1 < L by omega) (by omega)) dL_law_191 ?_
  refine lv_aload_n hx hb dL_law_192 rfl (lv_at hl 0 rfl) ?_
  refine lv_iload_n hx hb dL_law_193 rfl (lv_at hl 3 rfl) ?_
  refine lv_iconst (v := 2) hx hb dL_law_194 (by decide) ?_
  refine lv_iadd hx hb dL_law_195 ?_
  refine top_eq (show nI (i + 2) = nI i + 2 from (nI_add i 2).symm) ?_
  refine va_sld hx hb hX hbl hbA I.2.2.2.1 (vp_in_nI (show i + 2 < L by omega) (by omega)) dL_law_196 ?_
  refine l_iV (rest := [.int x]) I ⟨hx, hb, hml, hown, hts⟩ (ct_X10_house μ (xs (nI (i + 1)).toNatClampNeg) (xs (nI (i + 2)).toNatClampNeg) _ e2) (cwV 2 hts gM_X10_house rfl rfl rfl (by decide +kernel) ⟨Nat.le_of_ble_eq_true rfl, Nat.le_of_ble_eq_true rfl⟩) (by decide) (km0 g2 Y _) rfl nd27 nd27r rfl hl.1 rfl (Nat.le_of_ble_eq_true rfl) dL_law_197 ⟨Nat.le_of_ble_eq_true rfl, Nat.le_of_ble_eq_true rfl⟩ (fun H locs I => ?_)
  refine lv_icmp_eq (tgt := 1165) hx hb dL_law_200 (by decide) (fun _ => ?_) (fun c_ => absurd rfl c_)
  exact nx σ' μ' _ _ _ hR' I hl
set_option maxHeartbeats 4000000 in
set_option maxRecDepth 100000 in
theorem lc_isOf {p : Program} {l : Launch} {e : Env} {s : State} {m : MethodId} {below : List Frame} {meth : Method} {c : Code} {b L : Nat} {xs : Nat → Int32} {D : va_G} {Y : YT} {bP : Nat} {g g2 : Nat → Nat} (hL : L ≤ 3072) (C0 : lw_At p s m meth c b L xs) {σ μ : St} (hR : Rg σ μ) {H : Heap} {locs : List Loc} (I : LW D Y bP (fun q : Nat => s.heap.size ≤ q) s (wd 44 g (KC g Y) σ ++ wd 27 g2 (KM g2 Y) μ) H locs) {ls : Array Slot} {i : Nat} (hi : i + 6 ≤ L) (hl : lv_has ls 4 [(0, .ref b), (1, .ref (g 0)), (2, .ref (g2 0)), (3, .int (nI i))]) (nx : ∀ (σ μ : St) (H : Heap) (locs : List Loc) (ls : Array Slot), Rg σ μ → LW D Y bP (fun q : Nat => s.heap.size ≤ q) s (wd 44 g (KC g Y) σ ++ wd 27 g2 (KM g2 Y) μ) H locs → lv_has ls 4 [(0, .ref b), (1, .ref (g 0)), (2, .ref (g2 0)), (3, .int (nI i))] → W p l e room_1 s m #[Value.ref b] below meth c H locs 71 3182 (lw_Z below #[Value.ref b] s) (F0 m 1165 ls [])) : W p l e room_1 s m #[Value.ref b] below meth c H locs 71 3182 (lw_Z below #[Value.ref b] s) (F0 m 205 ls []) := by
  obtain ⟨hx, hb, hr, hml, hown0, hts, hX, hbl, hlocks, hgv⟩ := id C0
  have hown : s.vm.findClass RL = some m.cls := hown0
  have hbA : ¬ (fun q : Nat => s.heap.size ≤ q) b := Nat.not_le.mpr hbl
  obtain ⟨σ', μ', x, e1, e2, hR'⟩ := s_isOf hR (xs (nI (i + 1)).toNatClampNeg) (xs (nI (i + 2)).toNatClampNeg)
  refine lv_aload_n hx hb dL_law_205 rfl (lv_at hl 1 rfl) ?_
  refine lv_aload_n hx hb dL_law_206 rfl (lv_at hl 0 rfl) ?_
  refine lv_iload_n hx hb dL_law_207 rfl (lv_at hl 3 rfl) ?_
  refine lv_iconst (v := 1) hx hb dL_law_208 (by decide) ?_
  refine lv_iadd hx hb dL_law_209 ?_
  refine top_eq (show nI (i + 1) = nI i + 1 from (nI_add i 1).symm) ?_
  refine va_sld hx hb hX hbl hbA I.2.2.2.1 (vp_in_nI (show i + 1 < L by omega) (by omega)) dL_law_210 ?_
  refine lv_aload_n hx hb dL_law_211 rfl (lv_at hl 0 rfl) ?_
  refine lv_iload_n hx hb dL_law_212 rfl (lv_at hl 3 rfl) ?_
  refine lv_iconst (v := 2) hx hb dL_law_213 (by decide) ?_
  refine lv_iadd hx hb dL_law_214 ?_
  refine top_eq (show nI (i + 2) = nI i + 2 from (nI_add i 2).symm) ?_
  refine va_sld hx hb hX hbl hbA I.2.2.2.1 (vp_in_nI (show i + 2 < L by omega) (by omega)) dL_law_215 ?_
  refine l_iV (rest := []) I ⟨hx, hb, hml, hown, hts⟩ (ct_X9_isOf σ (xs (nI (i + 1)).toNatClampNeg) (xs (nI (i + 2)).toNatClampNeg) _ e1) (cwV 2 hts gM_X9_isOf rfl rfl rfl (by decide +kernel) ⟨Nat.le_of_ble_eq_true rfl, Nat.le_of_ble_eq_true rfl⟩) (by decide) (kc0 g Y _) rfl nd44 nd44r rfl hl.1 rfl (Nat.le_of_ble_eq_true rfl) dL_law_216 ⟨Nat.le_of_ble_eq_true rfl, Nat.le_of_ble_eq_true rfl⟩ (fun H locs I => ?_)
  refine lv_aload_n hx hb dL_law_219 rfl (lv_at hl 2 rfl) ?_
  refine lv_aload_n hx hb dL_law_220 rfl (lv_at hl 0 rfl) ?_
  refine lv_iload_n hx hb dL_law_221 rfl (lv_at hl 3 rfl) ?_
  refine lv_iconst (v := 1) hx hb dL_law_222 (by decide) ?_
  refine lv_iadd hx hb dL_law_223 ?_
  refine top_eq (show nI (i + 1) = nI i + 1 from (nI_add i 1).symm) ?_
  refine va_sld hx hb hX hbl hbA I.2.2.2.1 (vp_in_nI (show i + 1 < L by omega) (by omega)) dL_law_224 ?_
  refine lv_aload_n hx hb dL_law_225 rfl (lv_at hl 0 rfl) ?_
  refine lv_iload_n hx hb dL_law_226 rfl (lv_at hl 3 rfl) ?_
  refine lv_iconst (v := 2) hx hb dL_law_227 (by decide) ?_
  refine lv_iadd hx hb dL_law_228 ?_
  refine top_eq (show nI (i + 2) = nI i + 2 from (nI_add i 2).symm) ?_
  refine va_sld hx hb hX hbl hbA I.2.2.2.1 (vp_in_nI (show i + 2 < L by omega) (by omega)) dL_law_229 ?_
  refine l_iV (rest := [.int x]) I ⟨hx, hb, hml, hown, hts⟩ (ct_X10_isOf μ (xs (nI (i + 1)).toNatClampNeg) (xs (nI (i + 2)).toNatClampNeg) _ e2) (cwV 2 hts gM_X10_isOf rfl rfl rfl (by decide +kernel) ⟨Nat.le_of_ble_eq_true rfl, Nat.le_of_ble_eq_true rfl⟩) (by decide) (km0 g2 Y _) rfl nd27 nd27r rfl hl.1 rfl (Nat.le_of_ble_eq_true rfl) dL_law_230 ⟨Nat.le_of_ble_eq_true rfl, Nat.le_of_ble_eq_true rfl⟩ (fun H locs I => ?_)
  refine lv_icmp_eq (tgt := 1165) hx hb dL_law_233 (by decide) (fun _ => ?_) (fun c_ => absurd rfl c_)
  exact nx σ' μ' _ _ _ hR' I hl
set_option maxHeartbeats 4000000 in
set_option maxRecDepth 100000 in
theorem lc_way {p : Program} {l : Launch} {e : Env} {s : State} {m : MethodId} {below : List Frame} {meth : Method} {c : Code} {b L : Nat} {xs : Nat → Int32} {D : va_G} {Y : YT} {bP : Nat} {g g2 : Nat → Nat} (hL : L ≤ 3072) (C0 : lw_At p s m meth c b L xs) {σ μ : St} (hR : Rg σ μ) {H : Heap} {locs : List Loc} (I : LW D Y bP (fun q : Nat => s.heap.size ≤ q) s (wd 44 g (KC g Y) σ ++ wd 27 g2 (KM g2 Y) μ) H locs) {ls : Array Slot} {i : Nat} (hi : i + 6 ≤ L) (hl : lv_has ls 4 [(0, .ref b), (1, .ref (g 0)), (2, .ref (g2 0)), (3, .int (nI i))]) (nx : ∀ (σ μ : St) (H : Heap) (locs : List Loc) (ls : Array Slot), Rg σ μ → LW D Y bP (fun q : Nat => s.heap.size ≤ q) s (wd 44 g (KC g Y) σ ++ wd 27 g2 (KM g2 Y) μ) H locs → lv_has ls 4 [(0, .ref b), (1, .ref (g 0)), (2, .ref (g2 0)), (3, .int (nI i))] → W p l e room_1 s m #[Value.ref b] below meth c H locs 71 3182 (lw_Z below #[Value.ref b] s) (F0 m 1165 ls [])) : W p l e room_1 s m #[Value.ref b] below meth c H locs 71 3182 (lw_Z below #[Value.ref b] s) (F0 m 238 ls []) := by
  obtain ⟨hx, hb, hr, hml, hown0, hts, hX, hbl, hlocks, hgv⟩ := id C0
  have hown : s.vm.findClass RL = some m.cls := hown0
  have hbA : ¬ (fun q : Nat => s.heap.size ≤ q) b := Nat.not_le.mpr hbl
  obtain ⟨σ', μ', x, e1, e2, hR'⟩ := s_way hR (xs (nI (i + 1)).toNatClampNeg) (xs (nI (i + 2)).toNatClampNeg) (xs (nI (i + 3)).toNatClampNeg)
  refine lv_aload_n hx hb dL_law_238 rfl (lv_at hl 1 rfl) ?_
  refine lv_aload_n hx hb dL_law_239 rfl (lv_at hl 0 rfl) ?_
  refine lv_iload_n hx hb dL_law_240 rfl (lv_at hl 3 rfl) ?_
  refine lv_iconst (v := 1) hx hb dL_law_241 (by decide) ?_
  refine lv_iadd hx hb dL_law_242 ?_
  refine top_eq (show nI (i + 1) = nI i + 1 from (nI_add i 1).symm) ?_
  refine va_sld hx hb hX hbl hbA I.2.2.2.1 (vp_in_nI (show i + 1 < L by omega) (by omega)) dL_law_243 ?_
  refine lv_aload_n hx hb dL_law_244 rfl (lv_at hl 0 rfl) ?_
  refine lv_iload_n hx hb dL_law_245 rfl (lv_at hl 3 rfl) ?_
  refine lv_iconst (v := 2) hx hb dL_law_246 (by decide) ?_
  refine lv_iadd hx hb dL_law_247 ?_
  refine top_eq (show nI (i + 2) = nI i + 2 from (nI_add i 2).symm) ?_
  refine va_sld hx hb hX hbl hbA I.2.2.2.1 (vp_in_nI (show i + 2 < L by omega) (by omega)) dL_law_248 ?_
  refine lv_aload_n hx hb dL_law_249 rfl (lv_at hl 0 rfl) ?_
  refine lv_iload_n hx hb dL_law_250 rfl (lv_at hl 3 rfl) ?_
  refine lv_iconst (v := 3) hx hb dL_law_251 (by decide) ?_
  refine lv_iadd hx hb dL_law_252 ?_
  refine top_eq (show nI (i + 3) = nI i + 3 from (nI_add i 3).symm) ?_
  refine va_sld hx hb hX hbl hbA I.2.2.2.1 (vp_in_nI (show i + 3 < L by omega) (by omega)) dL_law_253 ?_
  refine l_iV (rest := []) I ⟨hx, hb, hml, hown, hts⟩ (ct_X9_way σ (xs (nI (i + 1)).toNatClampNeg) (xs (nI (i + 2)).toNatClampNeg) (xs (nI (i + 3)).toNatClampNeg) _ e1) (cwV 3 hts gM_X9_way rfl rfl rfl (by decide +kernel) ⟨Nat.le_of_ble_eq_true rfl, Nat.le_of_ble_eq_true rfl⟩) (by decide) (kc0 g Y _) rfl nd44 nd44r rfl hl.1 rfl (Nat.le_of_ble_eq_true rfl) dL_law_254 ⟨Nat.le_of_ble_eq_true rfl, Nat.le_of_ble_eq_true rfl⟩ (fun H locs I => ?_)
  refine lv_aload_n hx hb dL_law_257 rfl (lv_at hl 2 rfl) ?_
  refine lv_aload_n hx hb dL_law_258 rfl (lv_at hl 0 rfl) ?_
  refine lv_iload_n hx hb dL_law_259 rfl (lv_at hl 3 rfl) ?_
  refine lv_iconst (v := 1) hx hb dL_law_260 (by decide) ?_
  refine lv_iadd hx hb dL_law_261 ?_
  refine top_eq (show nI (i + 1) = nI i + 1 from (nI_add i 1).symm) ?_
  refine va_sld hx hb hX hbl hbA I.2.2.2.1 (vp_in_nI (show i + 1 < L by omega) (by omega)) dL_law_262 ?_
  refine lv_aload_n hx hb dL_law_263 rfl (lv_at hl 0 rfl) ?_
  refine lv_iload_n hx hb dL_law_264 rfl (lv_at hl 3 rfl) ?_
  refine lv_iconst (v := 2) hx hb dL_law_265 (by decide) ?_
  refine lv_iadd hx hb dL_law_266 ?_
  refine top_eq (show nI (i + 2) = nI i + 2 from (nI_add i 2).symm) ?_
  refine va_sld hx hb hX hbl hbA I.2.2.2.1 (vp_in_nI (show i + 2 < L by omega) (by omega)) dL_law_267 ?_
  refine lv_aload_n hx hb dL_law_268 rfl (lv_at hl 0 rfl) ?_
  refine lv_iload_n hx hb dL_law_269 rfl (lv_at hl 3 rfl) ?_
  refine lv_iconst (v := 3) hx hb dL_law_270 (by decide) ?_
  refine lv_iadd hx hb dL_law_271 ?_
  refine top_eq (show nI (i + 3) = nI i + 3 from (nI_add i 3).symm) ?_
  refine va_sld hx hb hX hbl hbA I.2.2.2.1 (vp_in_nI (show i + 3 < L by omega) (by omega)) dL_law_272 ?_
  refine l_iV (rest := [.int x]) I ⟨hx, hb, hml, hown, hts⟩ (ct_X10_way μ (xs (nI (i + 1)).toNatClampNeg) (xs (nI (i + 2)).toNatClampNeg) (xs (nI (i + 3)).toNatClampNeg) _ e2) (cwV 3 hts gM_X10_way rfl rfl rfl (by decide +kernel) ⟨Nat.le_of_ble_eq_true rfl, Nat.le_of_ble_eq_true rfl⟩) (by decide) (km0 g2 Y _) rfl nd27 nd27r rfl hl.1 rfl (Nat.le_of_ble_eq_true rfl) dL_law_273 ⟨Nat.le_of_ble_eq_true rfl, Nat.le_of_ble_eq_true rfl⟩ (fun H locs I => ?_)
  refine lv_icmp_eq (tgt := 1165) hx hb dL_law_276 (by decide) (fun _ => ?_) (fun c_ => absurd rfl c_)
  exact nx σ' μ' _ _ _ hR' I hl
set_option maxHeartbeats 4000000 in
set_option maxRecDepth 100000 in
theorem lc_slack {p : Program} {l : Launch} {e : Env} {s : State} {m : MethodId} {below : List Frame} {meth : Method} {c : Code} {b L : Nat} {xs : Nat → Int32} {D : va_G} {Y : YT} {bP : Nat} {g g2 : Nat → Nat} (hL : L ≤ 3072) (C0 : lw_At p s m meth c b L xs) {σ μ : St} (hR : Rg σ μ) {H : Heap} {locs : List Loc} (I : LW D Y bP (fun q : Nat => s.heap.size ≤ q) s (wd 44 g (KC g Y) σ ++ wd 27 g2 (KM g2 Y) μ) H locs) {ls : Array Slot} {i : Nat} (hi : i + 6 ≤ L) (hl : lv_has ls 4 [(0, .ref b), (1, .ref (g 0)), (2, .ref (g2 0)), (3, .int (nI i))]) (nx : ∀ (σ μ : St) (H : Heap) (locs : List Loc) (ls : Array Slot), Rg σ μ → LW D Y bP (fun q : Nat => s.heap.size ≤ q) s (wd 44 g (KC g Y) σ ++ wd 27 g2 (KM g2 Y) μ) H locs → lv_has ls 4 [(0, .ref b), (1, .ref (g 0)), (2, .ref (g2 0)), (3, .int (nI i))] → W p l e room_1 s m #[Value.ref b] below meth c H locs 71 3182 (lw_Z below #[Value.ref b] s) (F0 m 1165 ls [])) : W p l e room_1 s m #[Value.ref b] below meth c H locs 71 3182 (lw_Z below #[Value.ref b] s) (F0 m 281 ls []) := by
  obtain ⟨hx, hb, hr, hml, hown0, hts, hX, hbl, hlocks, hgv⟩ := id C0
  have hown : s.vm.findClass RL = some m.cls := hown0
  have hbA : ¬ (fun q : Nat => s.heap.size ≤ q) b := Nat.not_le.mpr hbl
  obtain ⟨σ', μ', x, e1, e2, hR'⟩ := s_slack hR (xs (nI (i + 1)).toNatClampNeg) (xs (nI (i + 2)).toNatClampNeg)
  refine lv_aload_n hx hb dL_law_281 rfl (lv_at hl 1 rfl) ?_
  refine lv_aload_n hx hb dL_law_282 rfl (lv_at hl 0 rfl) ?_
  refine lv_iload_n hx hb dL_law_283 rfl (lv_at hl 3 rfl) ?_
  refine lv_iconst (v := 1) hx hb dL_law_284 (by decide) ?_
  refine lv_iadd hx hb dL_law_285 ?_
  refine top_eq (show nI (i + 1) = nI i + 1 from (nI_add i 1).symm) ?_
  refine va_sld hx hb hX hbl hbA I.2.2.2.1 (vp_in_nI (show i + 1 < L by omega) (by omega)) dL_law_286 ?_
  refine lv_aload_n hx hb dL_law_287 rfl (lv_at hl 0 rfl) ?_
  refine lv_iload_n hx hb dL_law_288 rfl (lv_at hl 3 rfl) ?_
  refine lv_iconst (v := 2) hx hb dL_law_289 (by decide) ?_
  refine lv_iadd hx hb dL_law_290 ?_
  refine top_eq (show nI (i + 2) = nI i + 2 from (nI_add i 2).symm) ?_
  refine va_sld hx hb hX hbl hbA I.2.2.2.1 (vp_in_nI (show i + 2 < L by omega) (by omega)) dL_law_291 ?_
  refine l_iV (rest := []) I ⟨hx, hb, hml, hown, hts⟩ (ct_X9_slack σ (xs (nI (i + 1)).toNatClampNeg) (xs (nI (i + 2)).toNatClampNeg) _ e1) (cwV 2 hts gM_X9_slack rfl rfl rfl (by decide +kernel) ⟨Nat.le_of_ble_eq_true rfl, Nat.le_of_ble_eq_true rfl⟩) (by decide) (kc0 g Y _) rfl nd44 nd44r rfl hl.1 rfl (Nat.le_of_ble_eq_true rfl) dL_law_292 ⟨Nat.le_of_ble_eq_true rfl, Nat.le_of_ble_eq_true rfl⟩ (fun H locs I => ?_)
  refine lv_aload_n hx hb dL_law_295 rfl (lv_at hl 2 rfl) ?_
  refine lv_aload_n hx hb dL_law_296 rfl (lv_at hl 0 rfl) ?_
  refine lv_iload_n hx hb dL_law_297 rfl (lv_at hl 3 rfl) ?_
  refine lv_iconst (v := 1) hx hb dL_law_298 (by decide) ?_
  refine lv_iadd hx hb dL_law_299 ?_
  refine top_eq (show nI (i + 1) = nI i + 1 from (nI_add i 1).symm) ?_
  refine va_sld hx hb hX hbl hbA I.2.2.2.1 (vp_in_nI (show i + 1 < L by omega) (by omega)) dL_law_300 ?_
  refine lv_aload_n hx hb dL_law_301 rfl (lv_at hl 0 rfl) ?_
  refine lv_iload_n hx hb dL_law_302 rfl (lv_at hl 3 rfl) ?_
  refine lv_iconst (v := 2) hx hb dL_law_303 (by decide) ?_
  refine lv_iadd hx hb dL_law_304 ?_
  refine top_eq (show nI (i + 2) = nI i + 2 from (nI_add i 2).symm) ?_
  refine va_sld hx hb hX hbl hbA I.2.2.2.1 (vp_in_nI (show i + 2 < L by omega) (by omega)) dL_law_305 ?_
  refine l_iV (rest := [.int x]) I ⟨hx, hb, hml, hown, hts⟩ (ct_X10_slack μ (xs (nI (i + 1)).toNatClampNeg) (xs (nI (i + 2)).toNatClampNeg) _ e2) (cwV 2 hts gM_X10_slack rfl rfl rfl (by decide +kernel) ⟨Nat.le_of_ble_eq_true rfl, Nat.le_of_ble_eq_true rfl⟩) (by decide) (km0 g2 Y _) rfl nd27 nd27r rfl hl.1 rfl (Nat.le_of_ble_eq_true rfl) dL_law_306 ⟨Nat.le_of_ble_eq_true rfl, Nat.le_of_ble_eq_true rfl⟩ (fun H locs I => ?_)
  refine lv_icmp_eq (tgt := 1165) hx hb dL_law_309 (by decide) (fun _ => ?_) (fun c_ => absurd rfl c_)
  exact nx σ' μ' _ _ _ hR' I hl
set_option maxHeartbeats 4000000 in
set_option maxRecDepth 100000 in
theorem lc_reel {p : Program} {l : Launch} {e : Env} {s : State} {m : MethodId} {below : List Frame} {meth : Method} {c : Code} {b L : Nat} {xs : Nat → Int32} {D : va_G} {Y : YT} {bP : Nat} {g g2 : Nat → Nat} (hL : L ≤ 3072) (C0 : lw_At p s m meth c b L xs) {σ μ : St} (hR : Rg σ μ) {H : Heap} {locs : List Loc} (I : LW D Y bP (fun q : Nat => s.heap.size ≤ q) s (wd 44 g (KC g Y) σ ++ wd 27 g2 (KM g2 Y) μ) H locs) {ls : Array Slot} {i : Nat} (hi : i + 6 ≤ L) (hl : lv_has ls 4 [(0, .ref b), (1, .ref (g 0)), (2, .ref (g2 0)), (3, .int (nI i))]) (nx : ∀ (σ μ : St) (H : Heap) (locs : List Loc) (ls : Array Slot), Rg σ μ → LW D Y bP (fun q : Nat => s.heap.size ≤ q) s (wd 44 g (KC g Y) σ ++ wd 27 g2 (KM g2 Y) μ) H locs → lv_has ls 4 [(0, .ref b), (1, .ref (g 0)), (2, .ref (g2 0)), (3, .int (nI i))] → W p l e room_1 s m #[Value.ref b] below meth c H locs 71 3182 (lw_Z below #[Value.ref b] s) (F0 m 1165 ls [])) : W p l e room_1 s m #[Value.ref b] below meth c H locs 71 3182 (lw_Z below #[Value.ref b] s) (F0 m 314 ls []) := by
  obtain ⟨hx, hb, hr, hml, hown0, hts, hX, hbl, hlocks, hgv⟩ := id C0
  have hown : s.vm.findClass RL = some m.cls := hown0
  have hbA : ¬ (fun q : Nat => s.heap.size ≤ q) b := Nat.not_le.mpr hbl
  obtain ⟨σ', μ', x, e1, e2, hR'⟩ := s_reel hR (xs (nI (i + 1)).toNatClampNeg)
  refine lv_aload_n hx hb dL_law_314 rfl (lv_at hl 1 rfl) ?_
  refine lv_aload_n hx hb dL_law_315 rfl (lv_at hl 0 rfl) ?_
  refine lv_iload_n hx hb dL_law_316 rfl (lv_at hl 3 rfl) ?_
  refine lv_iconst (v := 1) hx hb dL_law_317 (by decide) ?_
  refine lv_iadd hx hb dL_law_318 ?_
  refine top_eq (show nI (i + 1) = nI i + 1 from (nI_add i 1).symm) ?_
  refine va_sld hx hb hX hbl hbA I.2.2.2.1 (vp_in_nI (show i + 1 < L by omega) (by omega)) dL_law_319 ?_
  refine l_iV (rest := []) I ⟨hx, hb, hml, hown, hts⟩ (ct_X9_reel σ (xs (nI (i + 1)).toNatClampNeg) _ e1) (cwV 1 hts gM_X9_reel rfl rfl rfl (by decide +kernel) ⟨Nat.le_of_ble_eq_true rfl, Nat.le_of_ble_eq_true rfl⟩) (by decide) (kc0 g Y _) rfl nd44 nd44r rfl hl.1 rfl (Nat.le_of_ble_eq_true rfl) dL_law_320 ⟨Nat.le_of_ble_eq_true rfl, Nat.le_of_ble_eq_true rfl⟩ (fun H locs I => ?_)
  refine lv_aload_n hx hb dL_law_323 rfl (lv_at hl 2 rfl) ?_
  refine lv_aload_n hx hb dL_law_324 rfl (lv_at hl 0 rfl) ?_
  refine lv_iload_n hx hb dL_law_325 rfl (lv_at hl 3 rfl) ?_
  refine lv_iconst (v := 1) hx hb dL_law_326 (by decide) ?_
  refine lv_iadd hx hb dL_law_327 ?_
  refine top_eq (show nI (i + 1) = nI i + 1 from (nI_add i 1).symm) ?_
  refine va_sld hx hb hX hbl hbA I.2.2.2.1 (vp_in_nI (show i + 1 < L by omega) (by omega)) dL_law_328 ?_
  refine l_iV (rest := [.int x]) I ⟨hx, hb, hml, hown, hts⟩ (ct_X10_reel μ (xs (nI (i + 1)).toNatClampNeg) _ e2) (cwV 1 hts gM_X10_reel rfl rfl rfl (by decide +kernel) ⟨Nat.le_of_ble_eq_true rfl, Nat.le_of_ble_eq_true rfl⟩) (by decide) (km0 g2 Y _) rfl nd27 nd27r rfl hl.1 rfl (Nat.le_of_ble_eq_true rfl) dL_law_329 ⟨Nat.le_of_ble_eq_true rfl, Nat.le_of_ble_eq_true rfl⟩ (fun H locs I => ?_)
  refine lv_icmp_eq (tgt := 1165) hx hb dL_law_332 (by decide) (fun _ => ?_) (fun c_ => absurd rfl c_)
  exact nx σ' μ' _ _ _ hR' I hl
set_option maxHeartbeats 4000000 in
set_option maxRecDepth 100000 in
theorem lc_mend {p : Program} {l : Launch} {e : Env} {s : State} {m : MethodId} {below : List Frame} {meth : Method} {c : Code} {b L : Nat} {xs : Nat → Int32} {D : va_G} {Y : YT} {bP : Nat} {g g2 : Nat → Nat} (hL : L ≤ 3072) (C0 : lw_At p s m meth c b L xs) {σ μ : St} (hR : Rg σ μ) {H : Heap} {locs : List Loc} (I : LW D Y bP (fun q : Nat => s.heap.size ≤ q) s (wd 44 g (KC g Y) σ ++ wd 27 g2 (KM g2 Y) μ) H locs) {ls : Array Slot} {i : Nat} (hi : i + 6 ≤ L) (hl : lv_has ls 4 [(0, .ref b), (1, .ref (g 0)), (2, .ref (g2 0)), (3, .int (nI i))]) (nx : ∀ (σ μ : St) (H : Heap) (locs : List Loc) (ls : Array Slot), Rg σ μ → LW D Y bP (fun q : Nat => s.heap.size ≤ q) s (wd 44 g (KC g Y) σ ++ wd 27 g2 (KM g2 Y) μ) H locs → lv_has ls 4 [(0, .ref b), (1, .ref (g 0)), (2, .ref (g2 0)), (3, .int (nI i))] → W p l e room_1 s m #[Value.ref b] below meth c H locs 71 3182 (lw_Z below #[Value.ref b] s) (F0 m 1165 ls [])) : W p l e room_1 s m #[Value.ref b] below meth c H locs 71 3182 (lw_Z below #[Value.ref b] s) (F0 m 337 ls []) := by
  obtain ⟨hx, hb, hr, hml, hown0, hts, hX, hbl, hlocks, hgv⟩ := id C0
  have hown : s.vm.findClass RL = some m.cls := hown0
  have hbA : ¬ (fun q : Nat => s.heap.size ≤ q) b := Nat.not_le.mpr hbl
  obtain ⟨σ', μ', x, e1, e2, hR'⟩ := s_mend hR (xs (nI (i + 1)).toNatClampNeg) (xs (nI (i + 2)).toNatClampNeg)
  refine lv_aload_n hx hb dL_law_337 rfl (lv_at hl 1 rfl) ?_
  refine lv_aload_n hx hb dL_law_338 rfl (lv_at hl 0 rfl) ?_
  refine lv_iload_n hx hb dL_law_339 rfl (lv_at hl 3 rfl) ?_
  refine lv_iconst (v := 1) hx hb dL_law_340 (by decide) ?_
  refine lv_iadd hx hb dL_law_341 ?_
  refine top_eq (show nI (i + 1) = nI i + 1 from (nI_add i 1).symm) ?_
  refine va_sld hx hb hX hbl hbA I.2.2.2.1 (vp_in_nI (show i + 1 < L by omega) (by omega)) dL_law_342 ?_
  refine lv_aload_n hx hb dL_law_343 rfl (lv_at hl 0 rfl) ?_
  refine lv_iload_n hx hb dL_law_344 rfl (lv_at hl 3 rfl) ?_
  refine lv_iconst (v := 2) hx hb dL_law_345 (by decide) ?_
  refine lv_iadd hx hb dL_law_346 ?_
  refine top_eq (show nI (i + 2) = nI i + 2 from (nI_add i 2).symm) ?_
  refine va_sld hx hb hX hbl hbA I.2.2.2.1 (vp_in_nI (show i + 2 < L by omega) (by omega)) dL_law_347 ?_
  refine l_iV (rest := []) I ⟨hx, hb, hml, hown, hts⟩ (ct_X9_mend σ (xs (nI (i + 1)).toNatClampNeg) (xs (nI (i + 2)).toNatClampNeg) _ e1) (cwV 2 hts gM_X9_mend rfl rfl rfl (by decide +kernel) ⟨Nat.le_of_ble_eq_true rfl, Nat.le_of_ble_eq_true rfl⟩) (by decide) (kc0 g Y _) rfl nd44 nd44r rfl hl.1 rfl (Nat.le_of_ble_eq_true rfl) dL_law_348 ⟨Nat.le_of_ble_eq_true rfl, Nat.le_of_ble_eq_true rfl⟩ (fun H locs I => ?_)
  refine lv_aload_n hx hb dL_law_351 rfl (lv_at hl 2 rfl) ?_
  refine lv_aload_n hx hb dL_law_352 rfl (lv_at hl 0 rfl) ?_
  refine lv_iload_n hx hb dL_law_353 rfl (lv_at hl 3 rfl) ?_
  refine lv_iconst (v := 1) hx hb dL_law_354 (by decide) ?_
  refine lv_iadd hx hb dL_law_355 ?_
  refine top_eq (show nI (i + 1) = nI i + 1 from (nI_add i 1).symm) ?_
  refine va_sld hx hb hX hbl hbA I.2.2.2.1 (vp_in_nI (show i + 1 < L by omega) (by omega)) dL_law_356 ?_
  refine lv_aload_n hx hb dL_law_357 rfl (lv_at hl 0 rfl) ?_
  refine lv_iload_n hx hb dL_law_358 rfl (lv_at hl 3 rfl) ?_
  refine lv_iconst (v := 2) hx hb dL_law_359 (by decide) ?_
  refine lv_iadd hx hb dL_law_360 ?_
  refine top_eq (show nI (i + 2) = nI i + 2 from (nI_add i 2).symm) ?_
  refine va_sld hx hb hX hbl hbA I.2.2.2.1 (vp_in_nI (show i + 2 < L by omega) (by omega)) dL_law_361 ?_
  refine l_iV (rest := [.int x]) I ⟨hx, hb, hml, hown, hts⟩ (ct_X10_mend μ (xs (nI (i + 1)).toNatClampNeg) (xs (nI (i + 2)).toNatClampNeg) _ e2) (cwV 2 hts gM_X10_mend rfl rfl rfl (by decide +kernel) ⟨Nat.le_of_ble_eq_true rfl, Nat.le_of_ble_eq_true rfl⟩) (by decide) (km0 g2 Y _) rfl nd27 nd27r rfl hl.1 rfl (Nat.le_of_ble_eq_true rfl) dL_law_362 ⟨Nat.le_of_ble_eq_true rfl, Nat.le_of_ble_eq_true rfl⟩ (fun H locs I => ?_)
  refine lv_icmp_eq (tgt := 1165) hx hb dL_law_365 (by decide) (fun _ => ?_) (fun c_ => absurd rfl c_)
  exact nx σ' μ' _ _ _ hR' I hl
set_option maxHeartbeats 4000000 in
set_option maxRecDepth 100000 in
theorem lc_told {p : Program} {l : Launch} {e : Env} {s : State} {m : MethodId} {below : List Frame} {meth : Method} {c : Code} {b L : Nat} {xs : Nat → Int32} {D : va_G} {Y : YT} {bP : Nat} {g g2 : Nat → Nat} (hL : L ≤ 3072) (C0 : lw_At p s m meth c b L xs) {σ μ : St} (hR : Rg σ μ) {H : Heap} {locs : List Loc} (I : LW D Y bP (fun q : Nat => s.heap.size ≤ q) s (wd 44 g (KC g Y) σ ++ wd 27 g2 (KM g2 Y) μ) H locs) {ls : Array Slot} {i : Nat} (hi : i + 6 ≤ L) (hl : lv_has ls 4 [(0, .ref b), (1, .ref (g 0)), (2, .ref (g2 0)), (3, .int (nI i))]) (nx : ∀ (σ μ : St) (H : Heap) (locs : List Loc) (ls : Array Slot), Rg σ μ → LW D Y bP (fun q : Nat => s.heap.size ≤ q) s (wd 44 g (KC g Y) σ ++ wd 27 g2 (KM g2 Y) μ) H locs → lv_has ls 4 [(0, .ref b), (1, .ref (g 0)), (2, .ref (g2 0)), (3, .int (nI i))] → W p l e room_1 s m #[Value.ref b] below meth c H locs 71 3182 (lw_Z below #[Value.ref b] s) (F0 m 1165 ls [])) : W p l e room_1 s m #[Value.ref b] below meth c H locs 71 3182 (lw_Z below #[Value.ref b] s) (F0 m 370 ls []) := by
  obtain ⟨hx, hb, hr, hml, hown0, hts, hX, hbl, hlocks, hgv⟩ := id C0
  have hown : s.vm.findClass RL = some m.cls := hown0
  have hbA : ¬ (fun q : Nat => s.heap.size ≤ q) b := Nat.not_le.mpr hbl
  obtain ⟨σ', μ', x, e1, e2, hR'⟩ := s_told hR (xs (nI (i + 1)).toNatClampNeg) (xs (nI (i + 2)).toNatClampNeg)
  refine lv_aload_n hx hb dL_law_370 rfl (lv_at hl 1 rfl) ?_
  refine lv_aload_n hx hb dL_law_371 rfl (lv_at hl 0 rfl) ?_
  refine lv_iload_n hx hb dL_law_372 rfl (lv_at hl 3 rfl) ?_
  refine lv_iconst (v := 1) hx hb dL_law_373 (by decide) ?_
  refine lv_iadd hx hb dL_law_374 ?_
  refine top_eq (show nI (i + 1) = nI i + 1 from (nI_add i 1).symm) ?_
  refine va_sld hx hb hX hbl hbA I.2.2.2.1 (vp_in_nI (show i + 1 < L by omega) (by omega)) dL_law_375 ?_
  refine lv_aload_n hx hb dL_law_376 rfl (lv_at hl 0 rfl) ?_
  refine lv_iload_n hx hb dL_law_377 rfl (lv_at hl 3 rfl) ?_
  refine lv_iconst (v := 2) hx hb dL_law_378 (by decide) ?_
  refine lv_iadd hx hb dL_law_379 ?_
  refine top_eq (show nI (i + 2) = nI i + 2 from (nI_add i 2).symm) ?_
  refine va_sld hx hb hX hbl hbA I.2.2.2.1 (vp_in_nI (show i + 2 < L by omega) (by omega)) dL_law_380 ?_
  refine l_iV (rest := []) I ⟨hx, hb, hml, hown, hts⟩ (ct_X9_told σ (xs (nI (i + 1)).toNatClampNeg) (xs (nI (i + 2)).toNatClampNeg) _ e1) (cwV 2 hts gM_X9_told rfl rfl rfl (by decide +kernel) ⟨Nat.le_of_ble_eq_true rfl, Nat.le_of_ble_eq_true rfl⟩) (by decide) (kc0 g Y _) rfl nd44 nd44r rfl hl.1 rfl (Nat.le_of_ble_eq_true rfl) dL_law_381 ⟨Nat.le_of_ble_eq_true rfl, Nat.le_of_ble_eq_true rfl⟩ (fun H locs I => ?_)
  refine lv_aload_n hx hb dL_law_384 rfl (lv_at hl 2 rfl) ?_
  refine lv_aload_n hx hb dL_law_385 rfl (lv_at hl 0 rfl) ?_
  refine lv_iload_n hx hb dL_law_386 rfl (lv_at hl 3 rfl) ?_
  refine lv_iconst (v := 1) hx hb dL_law_387 (by decide) ?_
  refine lv_iadd hx hb dL_law_388 ?_
  refine top_eq (show nI (i + 1) = nI i + 1 from (nI_add i 1).symm) ?_
  refine va_sld hx hb hX hbl hbA I.2.2.2.1 (vp_in_nI (show i + 1 < L by omega) (by omega)) dL_law_389 ?_
  refine lv_aload_n hx hb dL_law_390 rfl (lv_at hl 0 rfl) ?_
  refine lv_iload_n hx hb dL_law_391 rfl (lv_at hl 3 rfl) ?_
  refine lv_iconst (v := 2) hx hb dL_law_392 (by decide) ?_
  refine lv_iadd hx hb dL_law_393 ?_
  refine top_eq (show nI (i + 2) = nI i + 2 from (nI_add i 2).symm) ?_
  refine va_sld hx hb hX hbl hbA I.2.2.2.1 (vp_in_nI (show i + 2 < L by omega) (by omega)) dL_law_394 ?_
  refine l_iV (rest := [.int x]) I ⟨hx, hb, hml, hown, hts⟩ (ct_X10_told μ (xs (nI (i + 1)).toNatClampNeg) (xs (nI (i + 2)).toNatClampNeg) _ e2) (cwV 2 hts gM_X10_told rfl rfl rfl (by decide +kernel) ⟨Nat.le_of_ble_eq_true rfl, Nat.le_of_ble_eq_true rfl⟩) (by decide) (km0 g2 Y _) rfl nd27 nd27r rfl hl.1 rfl (Nat.le_of_ble_eq_true rfl) dL_law_395 ⟨Nat.le_of_ble_eq_true rfl, Nat.le_of_ble_eq_true rfl⟩ (fun H locs I => ?_)
  refine lv_icmp_eq (tgt := 1165) hx hb dL_law_398 (by decide) (fun _ => ?_) (fun c_ => absurd rfl c_)
  exact nx σ' μ' _ _ _ hR' I hl
set_option maxHeartbeats 4000000 in
set_option maxRecDepth 100000 in
theorem lc_order {p : Program} {l : Launch} {e : Env} {s : State} {m : MethodId} {below : List Frame} {meth : Method} {c : Code} {b L : Nat} {xs : Nat → Int32} {D : va_G} {Y : YT} {bP : Nat} {g g2 : Nat → Nat} (hL : L ≤ 3072) (C0 : lw_At p s m meth c b L xs) {σ μ : St} (hR : Rg σ μ) {H : Heap} {locs : List Loc} (I : LW D Y bP (fun q : Nat => s.heap.size ≤ q) s (wd 44 g (KC g Y) σ ++ wd 27 g2 (KM g2 Y) μ) H locs) {ls : Array Slot} {i : Nat} (hi : i + 6 ≤ L) (hl : lv_has ls 4 [(0, .ref b), (1, .ref (g 0)), (2, .ref (g2 0)), (3, .int (nI i))]) (nx : ∀ (σ μ : St) (H : Heap) (locs : List Loc) (ls : Array Slot), Rg σ μ → LW D Y bP (fun q : Nat => s.heap.size ≤ q) s (wd 44 g (KC g Y) σ ++ wd 27 g2 (KM g2 Y) μ) H locs → lv_has ls 4 [(0, .ref b), (1, .ref (g 0)), (2, .ref (g2 0)), (3, .int (nI i))] → W p l e room_1 s m #[Value.ref b] below meth c H locs 71 3182 (lw_Z below #[Value.ref b] s) (F0 m 1165 ls [])) : W p l e room_1 s m #[Value.ref b] below meth c H locs 71 3182 (lw_Z below #[Value.ref b] s) (F0 m 403 ls []) := by
  obtain ⟨hx, hb, hr, hml, hown0, hts, hX, hbl, hlocks, hgv⟩ := id C0
  have hown : s.vm.findClass RL = some m.cls := hown0
  have hbA : ¬ (fun q : Nat => s.heap.size ≤ q) b := Nat.not_le.mpr hbl
  obtain ⟨σ', μ', x, e1, e2, hR'⟩ := s_order hR (xs (nI (i + 1)).toNatClampNeg)
  refine lv_aload_n hx hb dL_law_403 rfl (lv_at hl 1 rfl) ?_
  refine lv_aload_n hx hb dL_law_404 rfl (lv_at hl 0 rfl) ?_
  refine lv_iload_n hx hb dL_law_405 rfl (lv_at hl 3 rfl) ?_
  refine lv_iconst (v := 1) hx hb dL_law_406 (by decide) ?_
  refine lv_iadd hx hb dL_law_407 ?_
  refine top_eq (show nI (i + 1) = nI i + 1 from (nI_add i 1).symm) ?_
  refine va_sld hx hb hX hbl hbA I.2.2.2.1 (vp_in_nI (show i + 1 < L by omega) (by omega)) dL_law_408 ?_
  refine l_iV (rest := []) I ⟨hx, hb, hml, hown, hts⟩ (ct_X9_order σ (xs (nI (i + 1)).toNatClampNeg) _ e1) (cwV 1 hts gM_X9_order rfl rfl rfl (by decide +kernel) ⟨Nat.le_of_ble_eq_true rfl, Nat.le_of_ble_eq_true rfl⟩) (by decide) (kc0 g Y _) rfl nd44 nd44r rfl hl.1 rfl (Nat.le_of_ble_eq_true rfl) dL_law_409 ⟨Nat.le_of_ble_eq_true rfl, Nat.le_of_ble_eq_true rfl⟩ (fun H locs I => ?_)
  refine lv_aload_n hx hb dL_law_412 rfl (lv_at hl 2 rfl) ?_
  refine lv_aload_n hx hb dL_law_413 rfl (lv_at hl 0 rfl) ?_
  refine lv_iload_n hx hb dL_law_414 rfl (lv_at hl 3 rfl) ?_
  refine lv_iconst (v := 1) hx hb dL_law_415 (by decide) ?_
  refine lv_iadd hx hb dL_law_416 ?_
  refine top_eq (show nI (i + 1) = nI i + 1 from (nI_add i 1).symm) ?_
  refine va_sld hx hb hX hbl hbA I.2.2.2.1 (vp_in_nI (show i + 1 < L by omega) (by omega)) dL_law_417 ?_
  refine l_iV (rest := [.int x]) I ⟨hx, hb, hml, hown, hts⟩ (ct_X10_order μ (xs (nI (i + 1)).toNatClampNeg) _ e2) (cwV 1 hts gM_X10_order rfl rfl rfl (by decide +kernel) ⟨Nat.le_of_ble_eq_true rfl, Nat.le_of_ble_eq_true rfl⟩) (by decide) (km0 g2 Y _) rfl nd27 nd27r rfl hl.1 rfl (Nat.le_of_ble_eq_true rfl) dL_law_418 ⟨Nat.le_of_ble_eq_true rfl, Nat.le_of_ble_eq_true rfl⟩ (fun H locs I => ?_)
  refine lv_icmp_eq (tgt := 1165) hx hb dL_law_421 (by decide) (fun _ => ?_) (fun c_ => absurd rfl c_)
  exact nx σ' μ' _ _ _ hR' I hl
set_option maxHeartbeats 4000000 in
set_option maxRecDepth 100000 in
theorem lc_start {p : Program} {l : Launch} {e : Env} {s : State} {m : MethodId} {below : List Frame} {meth : Method} {c : Code} {b L : Nat} {xs : Nat → Int32} {D : va_G} {Y : YT} {bP : Nat} {g g2 : Nat → Nat} (hL : L ≤ 3072) (C0 : lw_At p s m meth c b L xs) {σ μ : St} (hR : Rg σ μ) {H : Heap} {locs : List Loc} (I : LW D Y bP (fun q : Nat => s.heap.size ≤ q) s (wd 44 g (KC g Y) σ ++ wd 27 g2 (KM g2 Y) μ) H locs) {ls : Array Slot} {i : Nat} (hi : i + 6 ≤ L) (hl : lv_has ls 4 [(0, .ref b), (1, .ref (g 0)), (2, .ref (g2 0)), (3, .int (nI i))]) (nx : ∀ (σ μ : St) (H : Heap) (locs : List Loc) (ls : Array Slot), Rg σ μ → LW D Y bP (fun q : Nat => s.heap.size ≤ q) s (wd 44 g (KC g Y) σ ++ wd 27 g2 (KM g2 Y) μ) H locs → lv_has ls 4 [(0, .ref b), (1, .ref (g 0)), (2, .ref (g2 0)), (3, .int (nI i))] → W p l e room_1 s m #[Value.ref b] below meth c H locs 71 3182 (lw_Z below #[Value.ref b] s) (F0 m 1165 ls [])) : W p l e room_1 s m #[Value.ref b] below meth c H locs 71 3182 (lw_Z below #[Value.ref b] s) (F0 m 426 ls []) := by
  obtain ⟨hx, hb, hr, hml, hown0, hts, hX, hbl, hlocks, hgv⟩ := id C0
  have hown : s.vm.findClass RL = some m.cls := hown0
  have hbA : ¬ (fun q : Nat => s.heap.size ≤ q) b := Nat.not_le.mpr hbl
  obtain ⟨σ', μ', x, e1, e2, hR'⟩ := s_start hR (xs (nI (i + 1)).toNatClampNeg)
  refine lv_aload_n hx hb dL_law_426 rfl (lv_at hl 1 rfl) ?_
  refine lv_aload_n hx hb dL_law_427 rfl (lv_at hl 0 rfl) ?_
  refine lv_iload_n hx hb dL_law_428 rfl (lv_at hl 3 rfl) ?_
  refine lv_iconst (v := 1) hx hb dL_law_429 (by decide) ?_
  refine lv_iadd hx hb dL_law_430 ?_
  refine top_eq (show nI (i + 1) = nI i + 1 from (nI_add i 1).symm) ?_
  refine va_sld hx hb hX hbl hbA I.2.2.2.1 (vp_in_nI (show i + 1 < L by omega) (by omega)) dL_law_431 ?_
  refine l_iV (rest := []) I ⟨hx, hb, hml, hown, hts⟩ (ct_X9_start σ (xs (nI (i + 1)).toNatClampNeg) _ e1) (cwV 1 hts gM_X9_start rfl rfl rfl (by decide +kernel) ⟨Nat.le_of_ble_eq_true rfl, Nat.le_of_ble_eq_true rfl⟩) (by decide) (kc0 g Y _) rfl nd44 nd44r rfl hl.1 rfl (Nat.le_of_ble_eq_true rfl) dL_law_432 ⟨Nat.le_of_ble_eq_true rfl, Nat.le_of_ble_eq_true rfl⟩ (fun H locs I => ?_)
  refine lv_aload_n hx hb dL_law_435 rfl (lv_at hl 2 rfl) ?_
  refine lv_aload_n hx hb dL_law_436 rfl (lv_at hl 0 rfl) ?_
  refine lv_iload_n hx hb dL_law_437 rfl (lv_at hl 3 rfl) ?_
  refine lv_iconst (v := 1) hx hb dL_law_438 (by decide) ?_
  refine lv_iadd hx hb dL_law_439 ?_
  refine top_eq (show nI (i + 1) = nI i + 1 from (nI_add i 1).symm) ?_
  refine va_sld hx hb hX hbl hbA I.2.2.2.1 (vp_in_nI (show i + 1 < L by omega) (by omega)) dL_law_440 ?_
  refine l_iV (rest := [.int x]) I ⟨hx, hb, hml, hown, hts⟩ (ct_X10_start μ (xs (nI (i + 1)).toNatClampNeg) _ e2) (cwV 1 hts gM_X10_start rfl rfl rfl (by decide +kernel) ⟨Nat.le_of_ble_eq_true rfl, Nat.le_of_ble_eq_true rfl⟩) (by decide) (km0 g2 Y _) rfl nd27 nd27r rfl hl.1 rfl (Nat.le_of_ble_eq_true rfl) dL_law_441 ⟨Nat.le_of_ble_eq_true rfl, Nat.le_of_ble_eq_true rfl⟩ (fun H locs I => ?_)
  refine lv_icmp_eq (tgt := 1165) hx hb dL_law_444 (by decide) (fun _ => ?_) (fun c_ => absurd rfl c_)
  exact nx σ' μ' _ _ _ hR' I hl
set_option maxHeartbeats 4000000 in
set_option maxRecDepth 100000 in
theorem lc_ride {p : Program} {l : Launch} {e : Env} {s : State} {m : MethodId} {below : List Frame} {meth : Method} {c : Code} {b L : Nat} {xs : Nat → Int32} {D : va_G} {Y : YT} {bP : Nat} {g g2 : Nat → Nat} (hL : L ≤ 3072) (C0 : lw_At p s m meth c b L xs) {σ μ : St} (hR : Rg σ μ) {H : Heap} {locs : List Loc} (I : LW D Y bP (fun q : Nat => s.heap.size ≤ q) s (wd 44 g (KC g Y) σ ++ wd 27 g2 (KM g2 Y) μ) H locs) {ls : Array Slot} {i : Nat} (hi : i + 6 ≤ L) (hl : lv_has ls 4 [(0, .ref b), (1, .ref (g 0)), (2, .ref (g2 0)), (3, .int (nI i))]) (nx : ∀ (σ μ : St) (H : Heap) (locs : List Loc) (ls : Array Slot), Rg σ μ → LW D Y bP (fun q : Nat => s.heap.size ≤ q) s (wd 44 g (KC g Y) σ ++ wd 27 g2 (KM g2 Y) μ) H locs → lv_has ls 4 [(0, .ref b), (1, .ref (g 0)), (2, .ref (g2 0)), (3, .int (nI i))] → W p l e room_1 s m #[Value.ref b] below meth c H locs 71 3182 (lw_Z below #[Value.ref b] s) (F0 m 1165 ls [])) : W p l e room_1 s m #[Value.ref b] below meth c H locs 71 3182 (lw_Z below #[Value.ref b] s) (F0 m 449 ls []) := by
  obtain ⟨hx, hb, hr, hml, hown0, hts, hX, hbl, hlocks, hgv⟩ := id C0
  have hown : s.vm.findClass RL = some m.cls := hown0
  have hbA : ¬ (fun q : Nat => s.heap.size ≤ q) b := Nat.not_le.mpr hbl
  obtain ⟨σ', μ', x, e1, e2, hR'⟩ := s_ride hR (xs (nI (i + 1)).toNatClampNeg) (xs (nI (i + 2)).toNatClampNeg)
  refine lv_aload_n hx hb dL_law_449 rfl (lv_at hl 1 rfl) ?_
  refine lv_aload_n hx hb dL_law_450 rfl (lv_at hl 0 rfl) ?_
  refine lv_iload_n hx hb dL_law_451 rfl (lv_at hl 3 rfl) ?_
  refine lv_iconst (v := 1) hx hb dL_law_452 (by decide) ?_
  refine lv_iadd hx hb dL_law_453 ?_
  refine top_eq (show nI (i + 1) = nI i + 1 from (nI_add i 1).symm) ?_
  refine va_sld hx hb hX hbl hbA I.2.2.2.1 (vp_in_nI (show i + 1 < L by omega) (by omega)) dL_law_454 ?_
  refine lv_aload_n hx hb dL_law_455 rfl (lv_at hl 0 rfl) ?_
  refine lv_iload_n hx hb dL_law_456 rfl (lv_at hl 3 rfl) ?_
  refine lv_iconst (v := 2) hx hb dL_law_457 (by decide) ?_
  refine lv_iadd hx hb dL_law_458 ?_
  refine top_eq (show nI (i + 2) = nI i + 2 from (nI_add i 2).symm) ?_
  refine va_sld hx hb hX hbl hbA I.2.2.2.1 (vp_in_nI (show i + 2 < L by omega) (by omega)) dL_law_459 ?_
  refine l_iV (rest := []) I ⟨hx, hb, hml, hown, hts⟩ (ct_X9_ride σ (xs (nI (i + 1)).toNatClampNeg) (xs (nI (i + 2)).toNatClampNeg) _ e1) (cwV 2 hts gM_X9_ride rfl rfl rfl (by decide +kernel) ⟨Nat.le_of_ble_eq_true rfl, Nat.le_of_ble_eq_true rfl⟩) (by decide) (kc0 g Y _) rfl nd44 nd44r rfl hl.1 rfl (Nat.le_of_ble_eq_true rfl) dL_law_460 ⟨Nat.le_of_ble_eq_true rfl, Nat.le_of_ble_eq_true rfl⟩ (fun H locs I => ?_)
  refine lv_aload_n hx hb dL_law_463 rfl (lv_at hl 2 rfl) ?_
  refine lv_aload_n hx hb dL_law_464 rfl (lv_at hl 0 rfl) ?_
  refine lv_iload_n hx hb dL_law_465 rfl (lv_at hl 3 rfl) ?_
  refine lv_iconst (v := 1) hx hb dL_law_466 (by decide) ?_
  refine lv_iadd hx hb dL_law_467 ?_
  refine top_eq (show nI (i + 1) = nI i + 1 from (nI_add i 1).symm) ?_
  refine va_sld hx hb hX hbl hbA I.2.2.2.1 (vp_in_nI (show i + 1 < L by omega) (by omega)) dL_law_468 ?_
  refine lv_aload_n hx hb dL_law_469 rfl (lv_at hl 0 rfl) ?_
  refine lv_iload_n hx hb dL_law_470 rfl (lv_at hl 3 rfl) ?_
  refine lv_iconst (v := 2) hx hb dL_law_471 (by decide) ?_
  refine lv_iadd hx hb dL_law_472 ?_
  refine top_eq (show nI (i + 2) = nI i + 2 from (nI_add i 2).symm) ?_
  refine va_sld hx hb hX hbl hbA I.2.2.2.1 (vp_in_nI (show i + 2 < L by omega) (by omega)) dL_law_473 ?_
  refine l_iV (rest := [.int x]) I ⟨hx, hb, hml, hown, hts⟩ (ct_X10_ride μ (xs (nI (i + 1)).toNatClampNeg) (xs (nI (i + 2)).toNatClampNeg) _ e2) (cwV 2 hts gM_X10_ride rfl rfl rfl (by decide +kernel) ⟨Nat.le_of_ble_eq_true rfl, Nat.le_of_ble_eq_true rfl⟩) (by decide) (km0 g2 Y _) rfl nd27 nd27r rfl hl.1 rfl (Nat.le_of_ble_eq_true rfl) dL_law_474 ⟨Nat.le_of_ble_eq_true rfl, Nat.le_of_ble_eq_true rfl⟩ (fun H locs I => ?_)
  refine lv_icmp_eq (tgt := 1165) hx hb dL_law_477 (by decide) (fun _ => ?_) (fun c_ => absurd rfl c_)
  exact nx σ' μ' _ _ _ hR' I hl
set_option maxHeartbeats 4000000 in
set_option maxRecDepth 100000 in
theorem lc_riders {p : Program} {l : Launch} {e : Env} {s : State} {m : MethodId} {below : List Frame} {meth : Method} {c : Code} {b L : Nat} {xs : Nat → Int32} {D : va_G} {Y : YT} {bP : Nat} {g g2 : Nat → Nat} (hL : L ≤ 3072) (C0 : lw_At p s m meth c b L xs) {σ μ : St} (hR : Rg σ μ) {H : Heap} {locs : List Loc} (I : LW D Y bP (fun q : Nat => s.heap.size ≤ q) s (wd 44 g (KC g Y) σ ++ wd 27 g2 (KM g2 Y) μ) H locs) {ls : Array Slot} {i : Nat} (hi : i + 6 ≤ L) (hl : lv_has ls 4 [(0, .ref b), (1, .ref (g 0)), (2, .ref (g2 0)), (3, .int (nI i))]) (nx : ∀ (σ μ : St) (H : Heap) (locs : List Loc) (ls : Array Slot), Rg σ μ → LW D Y bP (fun q : Nat => s.heap.size ≤ q) s (wd 44 g (KC g Y) σ ++ wd 27 g2 (KM g2 Y) μ) H locs → lv_has ls 4 [(0, .ref b), (1, .ref (g 0)), (2, .ref (g2 0)), (3, .int (nI i))] → W p l e room_1 s m #[Value.ref b] below meth c H locs 71 3182 (lw_Z below #[Value.ref b] s) (F0 m 1165 ls [])) : W p l e room_1 s m #[Value.ref b] below meth c H locs 71 3182 (lw_Z below #[Value.ref b] s) (F0 m 482 ls []) := by
  obtain ⟨hx, hb, hr, hml, hown0, hts, hX, hbl, hlocks, hgv⟩ := id C0
  have hown : s.vm.findClass RL = some m.cls := hown0
  have hbA : ¬ (fun q : Nat => s.heap.size ≤ q) b := Nat.not_le.mpr hbl
  obtain ⟨σ', μ', x, e1, e2, hR'⟩ := s_riders hR
  refine lv_aload_n hx hb dL_law_482 rfl (lv_at hl 1 rfl) ?_
  refine l_iV (rest := []) I ⟨hx, hb, hml, hown, hts⟩ (ct_X9_riders σ _ e1) (cwV 0 hts gM_X9_riders rfl rfl rfl (by decide +kernel) ⟨Nat.le_of_ble_eq_true rfl, Nat.le_of_ble_eq_true rfl⟩) (by decide) (kc0 g Y _) rfl nd44 nd44r rfl hl.1 rfl (Nat.le_of_ble_eq_true rfl) dL_law_483 ⟨Nat.le_of_ble_eq_true rfl, Nat.le_of_ble_eq_true rfl⟩ (fun H locs I => ?_)
  refine lv_aload_n hx hb dL_law_486 rfl (lv_at hl 2 rfl) ?_
  refine l_iV (rest := [.int x]) I ⟨hx, hb, hml, hown, hts⟩ (ct_X10_riders μ _ e2) (cwV 0 hts gM_X10_riders rfl rfl rfl (by decide +kernel) ⟨Nat.le_of_ble_eq_true rfl, Nat.le_of_ble_eq_true rfl⟩) (by decide) (km0 g2 Y _) rfl nd27 nd27r rfl hl.1 rfl (Nat.le_of_ble_eq_true rfl) dL_law_487 ⟨Nat.le_of_ble_eq_true rfl, Nat.le_of_ble_eq_true rfl⟩ (fun H locs I => ?_)
  refine lv_icmp_eq (tgt := 1165) hx hb dL_law_490 (by decide) (fun _ => ?_) (fun c_ => absurd rfl c_)
  exact nx σ' μ' _ _ _ hR' I hl
set_option maxHeartbeats 4000000 in
set_option maxRecDepth 100000 in
theorem lc_late {p : Program} {l : Launch} {e : Env} {s : State} {m : MethodId} {below : List Frame} {meth : Method} {c : Code} {b L : Nat} {xs : Nat → Int32} {D : va_G} {Y : YT} {bP : Nat} {g g2 : Nat → Nat} (hL : L ≤ 3072) (C0 : lw_At p s m meth c b L xs) {σ μ : St} (hR : Rg σ μ) {H : Heap} {locs : List Loc} (I : LW D Y bP (fun q : Nat => s.heap.size ≤ q) s (wd 44 g (KC g Y) σ ++ wd 27 g2 (KM g2 Y) μ) H locs) {ls : Array Slot} {i : Nat} (hi : i + 6 ≤ L) (hl : lv_has ls 4 [(0, .ref b), (1, .ref (g 0)), (2, .ref (g2 0)), (3, .int (nI i))]) (nx : ∀ (σ μ : St) (H : Heap) (locs : List Loc) (ls : Array Slot), Rg σ μ → LW D Y bP (fun q : Nat => s.heap.size ≤ q) s (wd 44 g (KC g Y) σ ++ wd 27 g2 (KM g2 Y) μ) H locs → lv_has ls 4 [(0, .ref b), (1, .ref (g 0)), (2, .ref (g2 0)), (3, .int (nI i))] → W p l e room_1 s m #[Value.ref b] below meth c H locs 71 3182 (lw_Z below #[Value.ref b] s) (F0 m 1165 ls [])) : W p l e room_1 s m #[Value.ref b] below meth c H locs 71 3182 (lw_Z below #[Value.ref b] s) (F0 m 495 ls []) := by
  obtain ⟨hx, hb, hr, hml, hown0, hts, hX, hbl, hlocks, hgv⟩ := id C0
  have hown : s.vm.findClass RL = some m.cls := hown0
  have hbA : ¬ (fun q : Nat => s.heap.size ≤ q) b := Nat.not_le.mpr hbl
  obtain ⟨σ', μ', x, e1, e2, hR'⟩ := s_late hR (xs (nI (i + 1)).toNatClampNeg) (xs (nI (i + 2)).toNatClampNeg)
  refine lv_aload_n hx hb dL_law_495 rfl (lv_at hl 1 rfl) ?_
  refine lv_aload_n hx hb dL_law_496 rfl (lv_at hl 0 rfl) ?_
  refine lv_iload_n hx hb dL_law_497 rfl (lv_at hl 3 rfl) ?_
  refine lv_iconst (v := 1) hx hb dL_law_498 (by decide) ?_
  refine lv_iadd hx hb dL_law_499 ?_
  refine top_eq (show nI (i + 1) = nI i + 1 from (nI_add i 1).symm) ?_
  refine va_sld hx hb hX hbl hbA I.2.2.2.1 (vp_in_nI (show i + 1 < L by omega) (by omega)) dL_law_500 ?_
  refine lv_aload_n hx hb dL_law_501 rfl (lv_at hl 0 rfl) ?_
  refine lv_iload_n hx hb dL_law_502 rfl (lv_at hl 3 rfl) ?_
  refine lv_iconst (v := 2) hx hb dL_law_503 (by decide) ?_
  refine lv_iadd hx hb dL_law_504 ?_
  refine top_eq (show nI (i + 2) = nI i + 2 from (nI_add i 2).symm) ?_
  refine va_sld hx hb hX hbl hbA I.2.2.2.1 (vp_in_nI (show i + 2 < L by omega) (by omega)) dL_law_505 ?_
  refine l_iV (rest := []) I ⟨hx, hb, hml, hown, hts⟩ (ct_X9_late σ (xs (nI (i + 1)).toNatClampNeg) (xs (nI (i + 2)).toNatClampNeg) _ e1) (cwV 2 hts gM_X9_late rfl rfl rfl (by decide +kernel) ⟨Nat.le_of_ble_eq_true rfl, Nat.le_of_ble_eq_true rfl⟩) (by decide) (kc0 g Y _) rfl nd44 nd44r rfl hl.1 rfl (Nat.le_of_ble_eq_true rfl) dL_law_506 ⟨Nat.le_of_ble_eq_true rfl, Nat.le_of_ble_eq_true rfl⟩ (fun H locs I => ?_)
  refine lv_aload_n hx hb dL_law_509 rfl (lv_at hl 2 rfl) ?_
  refine lv_aload_n hx hb dL_law_510 rfl (lv_at hl 0 rfl) ?_
  refine lv_iload_n hx hb dL_law_511 rfl (lv_at hl 3 rfl) ?_
  refine lv_iconst (v := 1) hx hb dL_law_512 (by decide) ?_
  refine lv_iadd hx hb dL_law_513 ?_
  refine top_eq (show nI (i + 1) = nI i + 1 from (nI_add i 1).symm) ?_
  refine va_sld hx hb hX hbl hbA I.2.2.2.1 (vp_in_nI (show i + 1 < L by omega) (by omega)) dL_law_514 ?_
  refine lv_aload_n hx hb dL_law_515 rfl (lv_at hl 0 rfl) ?_
  refine lv_iload_n hx hb dL_law_516 rfl (lv_at hl 3 rfl) ?_
  refine lv_iconst (v := 2) hx hb dL_law_517 (by decide) ?_
  refine lv_iadd hx hb dL_law_518 ?_
  refine top_eq (show nI (i + 2) = nI i + 2 from (nI_add i 2).symm) ?_
  refine va_sld hx hb hX hbl hbA I.2.2.2.1 (vp_in_nI (show i + 2 < L by omega) (by omega)) dL_law_519 ?_
  refine l_iV (rest := [.int x]) I ⟨hx, hb, hml, hown, hts⟩ (ct_X10_late μ (xs (nI (i + 1)).toNatClampNeg) (xs (nI (i + 2)).toNatClampNeg) _ e2) (cwV 2 hts gM_X10_late rfl rfl rfl (by decide +kernel) ⟨Nat.le_of_ble_eq_true rfl, Nat.le_of_ble_eq_true rfl⟩) (by decide) (km0 g2 Y _) rfl nd27 nd27r rfl hl.1 rfl (Nat.le_of_ble_eq_true rfl) dL_law_520 ⟨Nat.le_of_ble_eq_true rfl, Nat.le_of_ble_eq_true rfl⟩ (fun H locs I => ?_)
  refine lv_icmp_eq (tgt := 1165) hx hb dL_law_523 (by decide) (fun _ => ?_) (fun c_ => absurd rfl c_)
  exact nx σ' μ' _ _ _ hR' I hl
set_option maxHeartbeats 4000000 in
set_option maxRecDepth 100000 in
theorem lc_begins {p : Program} {l : Launch} {e : Env} {s : State} {m : MethodId} {below : List Frame} {meth : Method} {c : Code} {b L : Nat} {xs : Nat → Int32} {D : va_G} {Y : YT} {bP : Nat} {g g2 : Nat → Nat} (hL : L ≤ 3072) (C0 : lw_At p s m meth c b L xs) {σ μ : St} (hR : Rg σ μ) {H : Heap} {locs : List Loc} (I : LW D Y bP (fun q : Nat => s.heap.size ≤ q) s (wd 44 g (KC g Y) σ ++ wd 27 g2 (KM g2 Y) μ) H locs) {ls : Array Slot} {i : Nat} (hi : i + 6 ≤ L) (hl : lv_has ls 4 [(0, .ref b), (1, .ref (g 0)), (2, .ref (g2 0)), (3, .int (nI i))]) (nx : ∀ (σ μ : St) (H : Heap) (locs : List Loc) (ls : Array Slot), Rg σ μ → LW D Y bP (fun q : Nat => s.heap.size ≤ q) s (wd 44 g (KC g Y) σ ++ wd 27 g2 (KM g2 Y) μ) H locs → lv_has ls 4 [(0, .ref b), (1, .ref (g 0)), (2, .ref (g2 0)), (3, .int (nI i))] → W p l e room_1 s m #[Value.ref b] below meth c H locs 71 3182 (lw_Z below #[Value.ref b] s) (F0 m 1165 ls [])) : W p l e room_1 s m #[Value.ref b] below meth c H locs 71 3182 (lw_Z below #[Value.ref b] s) (F0 m 528 ls []) := by
  obtain ⟨hx, hb, hr, hml, hown0, hts, hX, hbl, hlocks, hgv⟩ := id C0
  have hown : s.vm.findClass RL = some m.cls := hown0
  have hbA : ¬ (fun q : Nat => s.heap.size ≤ q) b := Nat.not_le.mpr hbl
  obtain ⟨σ', μ', x, e1, e2, hR'⟩ := s_begins hR (xs (nI (i + 1)).toNatClampNeg) (xs (nI (i + 2)).toNatClampNeg)
  refine lv_aload_n hx hb dL_law_528 rfl (lv_at hl 1 rfl) ?_
  refine lv_aload_n hx hb dL_law_529 rfl (lv_at hl 0 rfl) ?_
  refine lv_iload_n hx hb dL_law_530 rfl (lv_at hl 3 rfl) ?_
  refine lv_iconst (v := 1) hx hb dL_law_531 (by decide) ?_
  refine lv_iadd hx hb dL_law_532 ?_
  refine top_eq (show nI (i + 1) = nI i + 1 from (nI_add i 1).symm) ?_
  refine va_sld hx hb hX hbl hbA I.2.2.2.1 (vp_in_nI (show i + 1 < L by omega) (by omega)) dL_law_533 ?_
  refine lv_aload_n hx hb dL_law_534 rfl (lv_at hl 0 rfl) ?_
  refine lv_iload_n hx hb dL_law_535 rfl (lv_at hl 3 rfl) ?_
  refine lv_iconst (v := 2) hx hb dL_law_536 (by decide) ?_
  refine lv_iadd hx hb dL_law_537 ?_
  refine top_eq (show nI (i + 2) = nI i + 2 from (nI_add i 2).symm) ?_
  refine va_sld hx hb hX hbl hbA I.2.2.2.1 (vp_in_nI (show i + 2 < L by omega) (by omega)) dL_law_538 ?_
  refine l_iV (rest := []) I ⟨hx, hb, hml, hown, hts⟩ (ct_X9_begins σ (xs (nI (i + 1)).toNatClampNeg) (xs (nI (i + 2)).toNatClampNeg) _ e1) (cwV 2 hts gM_X9_begins rfl rfl rfl (by decide +kernel) ⟨Nat.le_of_ble_eq_true rfl, Nat.le_of_ble_eq_true rfl⟩) (by decide) (kc0 g Y _) rfl nd44 nd44r rfl hl.1 rfl (Nat.le_of_ble_eq_true rfl) dL_law_539 ⟨Nat.le_of_ble_eq_true rfl, Nat.le_of_ble_eq_true rfl⟩ (fun H locs I => ?_)
  refine lv_aload_n hx hb dL_law_542 rfl (lv_at hl 2 rfl) ?_
  refine lv_aload_n hx hb dL_law_543 rfl (lv_at hl 0 rfl) ?_
  refine lv_iload_n hx hb dL_law_544 rfl (lv_at hl 3 rfl) ?_
  refine lv_iconst (v := 1) hx hb dL_law_545 (by decide) ?_
  refine lv_iadd hx hb dL_law_546 ?_
  refine top_eq (show nI (i + 1) = nI i + 1 from (nI_add i 1).symm) ?_
  refine va_sld hx hb hX hbl hbA I.2.2.2.1 (vp_in_nI (show i + 1 < L by omega) (by omega)) dL_law_547 ?_
  refine lv_aload_n hx hb dL_law_548 rfl (lv_at hl 0 rfl) ?_
  refine lv_iload_n hx hb dL_law_549 rfl (lv_at hl 3 rfl) ?_
  refine lv_iconst (v := 2) hx hb dL_law_550 (by decide) ?_
  refine lv_iadd hx hb dL_law_551 ?_
  refine top_eq (show nI (i + 2) = nI i + 2 from (nI_add i 2).symm) ?_
  refine va_sld hx hb hX hbl hbA I.2.2.2.1 (vp_in_nI (show i + 2 < L by omega) (by omega)) dL_law_552 ?_
  refine l_iV (rest := [.int x]) I ⟨hx, hb, hml, hown, hts⟩ (ct_X10_begins μ (xs (nI (i + 1)).toNatClampNeg) (xs (nI (i + 2)).toNatClampNeg) _ e2) (cwV 2 hts gM_X10_begins rfl rfl rfl (by decide +kernel) ⟨Nat.le_of_ble_eq_true rfl, Nat.le_of_ble_eq_true rfl⟩) (by decide) (km0 g2 Y _) rfl nd27 nd27r rfl hl.1 rfl (Nat.le_of_ble_eq_true rfl) dL_law_553 ⟨Nat.le_of_ble_eq_true rfl, Nat.le_of_ble_eq_true rfl⟩ (fun H locs I => ?_)
  refine lv_icmp_eq (tgt := 1165) hx hb dL_law_556 (by decide) (fun _ => ?_) (fun c_ => absurd rfl c_)
  exact nx σ' μ' _ _ _ hR' I hl
set_option maxHeartbeats 4000000 in
set_option maxRecDepth 100000 in
theorem lc_waited {p : Program} {l : Launch} {e : Env} {s : State} {m : MethodId} {below : List Frame} {meth : Method} {c : Code} {b L : Nat} {xs : Nat → Int32} {D : va_G} {Y : YT} {bP : Nat} {g g2 : Nat → Nat} (hL : L ≤ 3072) (C0 : lw_At p s m meth c b L xs) {σ μ : St} (hR : Rg σ μ) {H : Heap} {locs : List Loc} (I : LW D Y bP (fun q : Nat => s.heap.size ≤ q) s (wd 44 g (KC g Y) σ ++ wd 27 g2 (KM g2 Y) μ) H locs) {ls : Array Slot} {i : Nat} (hi : i + 6 ≤ L) (hl : lv_has ls 4 [(0, .ref b), (1, .ref (g 0)), (2, .ref (g2 0)), (3, .int (nI i))]) (nx : ∀ (σ μ : St) (H : Heap) (locs : List Loc) (ls : Array Slot), Rg σ μ → LW D Y bP (fun q : Nat => s.heap.size ≤ q) s (wd 44 g (KC g Y) σ ++ wd 27 g2 (KM g2 Y) μ) H locs → lv_has ls 4 [(0, .ref b), (1, .ref (g 0)), (2, .ref (g2 0)), (3, .int (nI i))] → W p l e room_1 s m #[Value.ref b] below meth c H locs 71 3182 (lw_Z below #[Value.ref b] s) (F0 m 1165 ls [])) : W p l e room_1 s m #[Value.ref b] below meth c H locs 71 3182 (lw_Z below #[Value.ref b] s) (F0 m 561 ls []) := by
  obtain ⟨hx, hb, hr, hml, hown0, hts, hX, hbl, hlocks, hgv⟩ := id C0
  have hown : s.vm.findClass RL = some m.cls := hown0
  have hbA : ¬ (fun q : Nat => s.heap.size ≤ q) b := Nat.not_le.mpr hbl
  obtain ⟨σ', μ', x, e1, e2, hR'⟩ := s_waited hR (xs (nI (i + 1)).toNatClampNeg)
  refine lv_aload_n hx hb dL_law_561 rfl (lv_at hl 1 rfl) ?_
  refine lv_aload_n hx hb dL_law_562 rfl (lv_at hl 0 rfl) ?_
  refine lv_iload_n hx hb dL_law_563 rfl (lv_at hl 3 rfl) ?_
  refine lv_iconst (v := 1) hx hb dL_law_564 (by decide) ?_
  refine lv_iadd hx hb dL_law_565 ?_
  refine top_eq (show nI (i + 1) = nI i + 1 from (nI_add i 1).symm) ?_
  refine va_sld hx hb hX hbl hbA I.2.2.2.1 (vp_in_nI (show i + 1 < L by omega) (by omega)) dL_law_566 ?_
  refine l_iV (rest := []) I ⟨hx, hb, hml, hown, hts⟩ (ct_X9_waited σ (xs (nI (i + 1)).toNatClampNeg) _ e1) (cwV 1 hts gM_X9_waited rfl rfl rfl (by decide +kernel) ⟨Nat.le_of_ble_eq_true rfl, Nat.le_of_ble_eq_true rfl⟩) (by decide) (kc0 g Y _) rfl nd44 nd44r rfl hl.1 rfl (Nat.le_of_ble_eq_true rfl) dL_law_567 ⟨Nat.le_of_ble_eq_true rfl, Nat.le_of_ble_eq_true rfl⟩ (fun H locs I => ?_)
  refine lv_aload_n hx hb dL_law_570 rfl (lv_at hl 2 rfl) ?_
  refine lv_aload_n hx hb dL_law_571 rfl (lv_at hl 0 rfl) ?_
  refine lv_iload_n hx hb dL_law_572 rfl (lv_at hl 3 rfl) ?_
  refine lv_iconst (v := 1) hx hb dL_law_573 (by decide) ?_
  refine lv_iadd hx hb dL_law_574 ?_
  refine top_eq (show nI (i + 1) = nI i + 1 from (nI_add i 1).symm) ?_
  refine va_sld hx hb hX hbl hbA I.2.2.2.1 (vp_in_nI (show i + 1 < L by omega) (by omega)) dL_law_575 ?_
  refine l_iV (rest := [.int x]) I ⟨hx, hb, hml, hown, hts⟩ (ct_X10_waited μ (xs (nI (i + 1)).toNatClampNeg) _ e2) (cwV 1 hts gM_X10_waited rfl rfl rfl (by decide +kernel) ⟨Nat.le_of_ble_eq_true rfl, Nat.le_of_ble_eq_true rfl⟩) (by decide) (km0 g2 Y _) rfl nd27 nd27r rfl hl.1 rfl (Nat.le_of_ble_eq_true rfl) dL_law_576 ⟨Nat.le_of_ble_eq_true rfl, Nat.le_of_ble_eq_true rfl⟩ (fun H locs I => ?_)
  refine lv_icmp_eq (tgt := 1165) hx hb dL_law_579 (by decide) (fun _ => ?_) (fun c_ => absurd rfl c_)
  exact nx σ' μ' _ _ _ hR' I hl
set_option maxHeartbeats 4000000 in
set_option maxRecDepth 100000 in
theorem lc_cause {p : Program} {l : Launch} {e : Env} {s : State} {m : MethodId} {below : List Frame} {meth : Method} {c : Code} {b L : Nat} {xs : Nat → Int32} {D : va_G} {Y : YT} {bP : Nat} {g g2 : Nat → Nat} (hL : L ≤ 3072) (C0 : lw_At p s m meth c b L xs) {σ μ : St} (hR : Rg σ μ) {H : Heap} {locs : List Loc} (I : LW D Y bP (fun q : Nat => s.heap.size ≤ q) s (wd 44 g (KC g Y) σ ++ wd 27 g2 (KM g2 Y) μ) H locs) {ls : Array Slot} {i : Nat} (hi : i + 6 ≤ L) (hl : lv_has ls 4 [(0, .ref b), (1, .ref (g 0)), (2, .ref (g2 0)), (3, .int (nI i))]) (nx : ∀ (σ μ : St) (H : Heap) (locs : List Loc) (ls : Array Slot), Rg σ μ → LW D Y bP (fun q : Nat => s.heap.size ≤ q) s (wd 44 g (KC g Y) σ ++ wd 27 g2 (KM g2 Y) μ) H locs → lv_has ls 4 [(0, .ref b), (1, .ref (g 0)), (2, .ref (g2 0)), (3, .int (nI i))] → W p l e room_1 s m #[Value.ref b] below meth c H locs 71 3182 (lw_Z below #[Value.ref b] s) (F0 m 1165 ls [])) : W p l e room_1 s m #[Value.ref b] below meth c H locs 71 3182 (lw_Z below #[Value.ref b] s) (F0 m 584 ls []) := by
  obtain ⟨hx, hb, hr, hml, hown0, hts, hX, hbl, hlocks, hgv⟩ := id C0
  have hown : s.vm.findClass RL = some m.cls := hown0
  have hbA : ¬ (fun q : Nat => s.heap.size ≤ q) b := Nat.not_le.mpr hbl
  obtain ⟨σ', μ', x, e1, e2, hR'⟩ := s_cause hR (xs (nI (i + 1)).toNatClampNeg) (xs (nI (i + 2)).toNatClampNeg)
  refine lv_aload_n hx hb dL_law_584 rfl (lv_at hl 1 rfl) ?_
  refine lv_aload_n hx hb dL_law_585 rfl (lv_at hl 0 rfl) ?_
  refine lv_iload_n hx hb dL_law_586 rfl (lv_at hl 3 rfl) ?_
  refine lv_iconst (v := 1) hx hb dL_law_587 (by decide) ?_
  refine lv_iadd hx hb dL_law_588 ?_
  refine top_eq (show nI (i + 1) = nI i + 1 from (nI_add i 1).symm) ?_
  refine va_sld hx hb hX hbl hbA I.2.2.2.1 (vp_in_nI (show i + 1 < L by omega) (by omega)) dL_law_589 ?_
  refine lv_aload_n hx hb dL_law_590 rfl (lv_at hl 0 rfl) ?_
  refine lv_iload_n hx hb dL_law_591 rfl (lv_at hl 3 rfl) ?_
  refine lv_iconst (v := 2) hx hb dL_law_592 (by decide) ?_
  refine lv_iadd hx hb dL_law_593 ?_
  refine top_eq (show nI (i + 2) = nI i + 2 from (nI_add i 2).symm) ?_
  refine va_sld hx hb hX hbl hbA I.2.2.2.1 (vp_in_nI (show i + 2 < L by omega) (by omega)) dL_law_594 ?_
  refine l_iV (rest := []) I ⟨hx, hb, hml, hown, hts⟩ (ct_X9_cause σ (xs (nI (i + 1)).toNatClampNeg) (xs (nI (i + 2)).toNatClampNeg) _ e1) (cwV 2 hts gM_X9_cause rfl rfl rfl (by decide +kernel) ⟨Nat.le_of_ble_eq_true rfl, Nat.le_of_ble_eq_true rfl⟩) (by decide) (kc0 g Y _) rfl nd44 nd44r rfl hl.1 rfl (Nat.le_of_ble_eq_true rfl) dL_law_595 ⟨Nat.le_of_ble_eq_true rfl, Nat.le_of_ble_eq_true rfl⟩ (fun H locs I => ?_)
  refine lv_aload_n hx hb dL_law_598 rfl (lv_at hl 2 rfl) ?_
  refine lv_aload_n hx hb dL_law_599 rfl (lv_at hl 0 rfl) ?_
  refine lv_iload_n hx hb dL_law_600 rfl (lv_at hl 3 rfl) ?_
  refine lv_iconst (v := 1) hx hb dL_law_601 (by decide) ?_
  refine lv_iadd hx hb dL_law_602 ?_
  refine top_eq (show nI (i + 1) = nI i + 1 from (nI_add i 1).symm) ?_
  refine va_sld hx hb hX hbl hbA I.2.2.2.1 (vp_in_nI (show i + 1 < L by omega) (by omega)) dL_law_603 ?_
  refine lv_aload_n hx hb dL_law_604 rfl (lv_at hl 0 rfl) ?_
  refine lv_iload_n hx hb dL_law_605 rfl (lv_at hl 3 rfl) ?_
  refine lv_iconst (v := 2) hx hb dL_law_606 (by decide) ?_
  refine lv_iadd hx hb dL_law_607 ?_
  refine top_eq (show nI (i + 2) = nI i + 2 from (nI_add i 2).symm) ?_
  refine va_sld hx hb hX hbl hbA I.2.2.2.1 (vp_in_nI (show i + 2 < L by omega) (by omega)) dL_law_608 ?_
  refine l_iV (rest := [.int x]) I ⟨hx, hb, hml, hown, hts⟩ (ct_X10_cause μ (xs (nI (i + 1)).toNatClampNeg) (xs (nI (i + 2)).toNatClampNeg) _ e2) (cwV 2 hts gM_X10_cause rfl rfl rfl (by decide +kernel) ⟨Nat.le_of_ble_eq_true rfl, Nat.le_of_ble_eq_true rfl⟩) (by decide) (km0 g2 Y _) rfl nd27 nd27r rfl hl.1 rfl (Nat.le_of_ble_eq_true rfl) dL_law_609 ⟨Nat.le_of_ble_eq_true rfl, Nat.le_of_ble_eq_true rfl⟩ (fun H locs I => ?_)
  refine lv_icmp_eq (tgt := 1165) hx hb dL_law_612 (by decide) (fun _ => ?_) (fun c_ => absurd rfl c_)
  exact nx σ' μ' _ _ _ hR' I hl
set_option maxHeartbeats 4000000 in
set_option maxRecDepth 100000 in
theorem lc_where {p : Program} {l : Launch} {e : Env} {s : State} {m : MethodId} {below : List Frame} {meth : Method} {c : Code} {b L : Nat} {xs : Nat → Int32} {D : va_G} {Y : YT} {bP : Nat} {g g2 : Nat → Nat} (hL : L ≤ 3072) (C0 : lw_At p s m meth c b L xs) {σ μ : St} (hR : Rg σ μ) {H : Heap} {locs : List Loc} (I : LW D Y bP (fun q : Nat => s.heap.size ≤ q) s (wd 44 g (KC g Y) σ ++ wd 27 g2 (KM g2 Y) μ) H locs) {ls : Array Slot} {i : Nat} (hi : i + 6 ≤ L) (hl : lv_has ls 4 [(0, .ref b), (1, .ref (g 0)), (2, .ref (g2 0)), (3, .int (nI i))]) (nx : ∀ (σ μ : St) (H : Heap) (locs : List Loc) (ls : Array Slot), Rg σ μ → LW D Y bP (fun q : Nat => s.heap.size ≤ q) s (wd 44 g (KC g Y) σ ++ wd 27 g2 (KM g2 Y) μ) H locs → lv_has ls 4 [(0, .ref b), (1, .ref (g 0)), (2, .ref (g2 0)), (3, .int (nI i))] → W p l e room_1 s m #[Value.ref b] below meth c H locs 71 3182 (lw_Z below #[Value.ref b] s) (F0 m 1165 ls [])) : W p l e room_1 s m #[Value.ref b] below meth c H locs 71 3182 (lw_Z below #[Value.ref b] s) (F0 m 617 ls []) := by
  obtain ⟨hx, hb, hr, hml, hown0, hts, hX, hbl, hlocks, hgv⟩ := id C0
  have hown : s.vm.findClass RL = some m.cls := hown0
  have hbA : ¬ (fun q : Nat => s.heap.size ≤ q) b := Nat.not_le.mpr hbl
  obtain ⟨σ', μ', x, e1, e2, hR'⟩ := s_where hR (xs (nI (i + 1)).toNatClampNeg) (xs (nI (i + 2)).toNatClampNeg)
  refine lv_aload_n hx hb dL_law_617 rfl (lv_at hl 1 rfl) ?_
  refine lv_aload_n hx hb dL_law_618 rfl (lv_at hl 0 rfl) ?_
  refine lv_iload_n hx hb dL_law_619 rfl (lv_at hl 3 rfl) ?_
  refine lv_iconst (v := 1) hx hb dL_law_620 (by decide) ?_
  refine lv_iadd hx hb dL_law_621 ?_
  refine top_eq (show nI (i + 1) = nI i + 1 from (nI_add i 1).symm) ?_
  refine va_sld hx hb hX hbl hbA I.2.2.2.1 (vp_in_nI (show i + 1 < L by omega) (by omega)) dL_law_622 ?_
  refine lv_aload_n hx hb dL_law_623 rfl (lv_at hl 0 rfl) ?_
  refine lv_iload_n hx hb dL_law_624 rfl (lv_at hl 3 rfl) ?_
  refine lv_iconst (v := 2) hx hb dL_law_625 (by decide) ?_
  refine lv_iadd hx hb dL_law_626 ?_
  refine top_eq (show nI (i + 2) = nI i + 2 from (nI_add i 2).symm) ?_
  refine va_sld hx hb hX hbl hbA I.2.2.2.1 (vp_in_nI (show i + 2 < L by omega) (by omega)) dL_law_627 ?_
  refine l_iV (rest := []) I ⟨hx, hb, hml, hown, hts⟩ (ct_X9_where σ (xs (nI (i + 1)).toNatClampNeg) (xs (nI (i + 2)).toNatClampNeg) _ e1) (cwV 2 hts gM_X9_where rfl rfl rfl (by decide +kernel) ⟨Nat.le_of_ble_eq_true rfl, Nat.le_of_ble_eq_true rfl⟩) (by decide) (kc0 g Y _) rfl nd44 nd44r rfl hl.1 rfl (Nat.le_of_ble_eq_true rfl) dL_law_628 ⟨Nat.le_of_ble_eq_true rfl, Nat.le_of_ble_eq_true rfl⟩ (fun H locs I => ?_)
  refine lv_aload_n hx hb dL_law_631 rfl (lv_at hl 2 rfl) ?_
  refine lv_aload_n hx hb dL_law_632 rfl (lv_at hl 0 rfl) ?_
  refine lv_iload_n hx hb dL_law_633 rfl (lv_at hl 3 rfl) ?_
  refine lv_iconst (v := 1) hx hb dL_law_634 (by decide) ?_
  refine lv_iadd hx hb dL_law_635 ?_
  refine top_eq (show nI (i + 1) = nI i + 1 from (nI_add i 1).symm) ?_
  refine va_sld hx hb hX hbl hbA I.2.2.2.1 (vp_in_nI (show i + 1 < L by omega) (by omega)) dL_law_636 ?_
  refine lv_aload_n hx hb dL_law_637 rfl (lv_at hl 0 rfl) ?_
  refine lv_iload_n hx hb dL_law_638 rfl (lv_at hl 3 rfl) ?_
  refine lv_iconst (v := 2) hx hb dL_law_639 (by decide) ?_
  refine lv_iadd hx hb dL_law_640 ?_
  refine top_eq (show nI (i + 2) = nI i + 2 from (nI_add i 2).symm) ?_
  refine va_sld hx hb hX hbl hbA I.2.2.2.1 (vp_in_nI (show i + 2 < L by omega) (by omega)) dL_law_641 ?_
  refine l_iV (rest := [.int x]) I ⟨hx, hb, hml, hown, hts⟩ (ct_X10_where μ (xs (nI (i + 1)).toNatClampNeg) (xs (nI (i + 2)).toNatClampNeg) _ e2) (cwV 2 hts gM_X10_where rfl rfl rfl (by decide +kernel) ⟨Nat.le_of_ble_eq_true rfl, Nat.le_of_ble_eq_true rfl⟩) (by decide) (km0 g2 Y _) rfl nd27 nd27r rfl hl.1 rfl (Nat.le_of_ble_eq_true rfl) dL_law_642 ⟨Nat.le_of_ble_eq_true rfl, Nat.le_of_ble_eq_true rfl⟩ (fun H locs I => ?_)
  refine lv_icmp_eq (tgt := 1165) hx hb dL_law_645 (by decide) (fun _ => ?_) (fun c_ => absurd rfl c_)
  exact nx σ' μ' _ _ _ hR' I hl
set_option maxHeartbeats 4000000 in
set_option maxRecDepth 100000 in
theorem lc_film {p : Program} {l : Launch} {e : Env} {s : State} {m : MethodId} {below : List Frame} {meth : Method} {c : Code} {b L : Nat} {xs : Nat → Int32} {D : va_G} {Y : YT} {bP : Nat} {g g2 : Nat → Nat} (hL : L ≤ 3072) (C0 : lw_At p s m meth c b L xs) {σ μ : St} (hR : Rg σ μ) {H : Heap} {locs : List Loc} (I : LW D Y bP (fun q : Nat => s.heap.size ≤ q) s (wd 44 g (KC g Y) σ ++ wd 27 g2 (KM g2 Y) μ) H locs) {ls : Array Slot} {i : Nat} (hi : i + 6 ≤ L) (hl : lv_has ls 4 [(0, .ref b), (1, .ref (g 0)), (2, .ref (g2 0)), (3, .int (nI i))]) (nx : ∀ (σ μ : St) (H : Heap) (locs : List Loc) (ls : Array Slot), Rg σ μ → LW D Y bP (fun q : Nat => s.heap.size ≤ q) s (wd 44 g (KC g Y) σ ++ wd 27 g2 (KM g2 Y) μ) H locs → lv_has ls 4 [(0, .ref b), (1, .ref (g 0)), (2, .ref (g2 0)), (3, .int (nI i))] → W p l e room_1 s m #[Value.ref b] below meth c H locs 71 3182 (lw_Z below #[Value.ref b] s) (F0 m 1165 ls [])) : W p l e room_1 s m #[Value.ref b] below meth c H locs 71 3182 (lw_Z below #[Value.ref b] s) (F0 m 650 ls []) := by
  obtain ⟨hx, hb, hr, hml, hown0, hts, hX, hbl, hlocks, hgv⟩ := id C0
  have hown : s.vm.findClass RL = some m.cls := hown0
  have hbA : ¬ (fun q : Nat => s.heap.size ≤ q) b := Nat.not_le.mpr hbl
  obtain ⟨σ', μ', x, e1, e2, hR'⟩ := s_film hR
  refine lv_aload_n hx hb dL_law_650 rfl (lv_at hl 1 rfl) ?_
  refine l_iV (rest := []) I ⟨hx, hb, hml, hown, hts⟩ (ct_X9_film σ _ e1) (cwV 0 hts gM_X9_film rfl rfl rfl (by decide +kernel) ⟨Nat.le_of_ble_eq_true rfl, Nat.le_of_ble_eq_true rfl⟩) (by decide) (kc0 g Y _) rfl nd44 nd44r rfl hl.1 rfl (Nat.le_of_ble_eq_true rfl) dL_law_651 ⟨Nat.le_of_ble_eq_true rfl, Nat.le_of_ble_eq_true rfl⟩ (fun H locs I => ?_)
  refine lv_aload_n hx hb dL_law_654 rfl (lv_at hl 2 rfl) ?_
  refine l_iV (rest := [.int x]) I ⟨hx, hb, hml, hown, hts⟩ (ct_X10_film μ _ e2) (cwV 0 hts gM_X10_film rfl rfl rfl (by decide +kernel) ⟨Nat.le_of_ble_eq_true rfl, Nat.le_of_ble_eq_true rfl⟩) (by decide) (km0 g2 Y _) rfl nd27 nd27r rfl hl.1 rfl (Nat.le_of_ble_eq_true rfl) dL_law_655 ⟨Nat.le_of_ble_eq_true rfl, Nat.le_of_ble_eq_true rfl⟩ (fun H locs I => ?_)
  refine lv_icmp_eq (tgt := 1165) hx hb dL_law_658 (by decide) (fun _ => ?_) (fun c_ => absurd rfl c_)
  exact nx σ' μ' _ _ _ hR' I hl
set_option maxHeartbeats 4000000 in
set_option maxRecDepth 100000 in
theorem lc_worth {p : Program} {l : Launch} {e : Env} {s : State} {m : MethodId} {below : List Frame} {meth : Method} {c : Code} {b L : Nat} {xs : Nat → Int32} {D : va_G} {Y : YT} {bP : Nat} {g g2 : Nat → Nat} (hL : L ≤ 3072) (C0 : lw_At p s m meth c b L xs) {σ μ : St} (hR : Rg σ μ) {H : Heap} {locs : List Loc} (I : LW D Y bP (fun q : Nat => s.heap.size ≤ q) s (wd 44 g (KC g Y) σ ++ wd 27 g2 (KM g2 Y) μ) H locs) {ls : Array Slot} {i : Nat} (hi : i + 6 ≤ L) (hl : lv_has ls 4 [(0, .ref b), (1, .ref (g 0)), (2, .ref (g2 0)), (3, .int (nI i))]) (nx : ∀ (σ μ : St) (H : Heap) (locs : List Loc) (ls : Array Slot), Rg σ μ → LW D Y bP (fun q : Nat => s.heap.size ≤ q) s (wd 44 g (KC g Y) σ ++ wd 27 g2 (KM g2 Y) μ) H locs → lv_has ls 4 [(0, .ref b), (1, .ref (g 0)), (2, .ref (g2 0)), (3, .int (nI i))] → W p l e room_1 s m #[Value.ref b] below meth c H locs 71 3182 (lw_Z below #[Value.ref b] s) (F0 m 1165 ls [])) : W p l e room_1 s m #[Value.ref b] below meth c H locs 71 3182 (lw_Z below #[Value.ref b] s) (F0 m 663 ls []) := by
  obtain ⟨hx, hb, hr, hml, hown0, hts, hX, hbl, hlocks, hgv⟩ := id C0
  have hown : s.vm.findClass RL = some m.cls := hown0
  have hbA : ¬ (fun q : Nat => s.heap.size ≤ q) b := Nat.not_le.mpr hbl
  obtain ⟨σ', μ', x, e1, e2, hR'⟩ := s_worth hR (xs (nI (i + 1)).toNatClampNeg) (xs (nI (i + 2)).toNatClampNeg) (xs (nI (i + 3)).toNatClampNeg)
  refine lv_aload_n hx hb dL_law_663 rfl (lv_at hl 1 rfl) ?_
  refine lv_aload_n hx hb dL_law_664 rfl (lv_at hl 0 rfl) ?_
  refine lv_iload_n hx hb dL_law_665 rfl (lv_at hl 3 rfl) ?_
  refine lv_iconst (v := 1) hx hb dL_law_666 (by decide) ?_
  refine lv_iadd hx hb dL_law_667 ?_
  refine top_eq (show nI (i + 1) = nI i + 1 from (nI_add i 1).symm) ?_
  refine va_sld hx hb hX hbl hbA I.2.2.2.1 (vp_in_nI (show i + 1 < L by omega) (by omega)) dL_law_668 ?_
  refine lv_aload_n hx hb dL_law_669 rfl (lv_at hl 0 rfl) ?_
  refine lv_iload_n hx hb dL_law_670 rfl (lv_at hl 3 rfl) ?_
  refine lv_iconst (v := 2) hx hb dL_law_671 (by decide) ?_
  refine lv_iadd hx hb dL_law_672 ?_
  refine top_eq (show nI (i + 2) = nI i + 2 from (nI_add i 2).symm) ?_
  refine va_sld hx hb hX hbl hbA I.2.2.2.1 (vp_in_nI (show i + 2 < L by omega) (by omega)) dL_law_673 ?_
  refine lv_aload_n hx hb dL_law_674 rfl (lv_at hl 0 rfl) ?_
  refine lv_iload_n hx hb dL_law_675 rfl (lv_at hl 3 rfl) ?_
  refine lv_iconst (v := 3) hx hb dL_law_676 (by decide) ?_
  refine lv_iadd hx hb dL_law_677 ?_
  refine top_eq (show nI (i + 3) = nI i + 3 from (nI_add i 3).symm) ?_
  refine va_sld hx hb hX hbl hbA I.2.2.2.1 (vp_in_nI (show i + 3 < L by omega) (by omega)) dL_law_678 ?_
  refine l_iV (rest := []) I ⟨hx, hb, hml, hown, hts⟩ (ct_X9_worth σ (xs (nI (i + 1)).toNatClampNeg) (xs (nI (i + 2)).toNatClampNeg) (xs (nI (i + 3)).toNatClampNeg) _ e1) (cwV 3 hts gM_X9_worth rfl rfl rfl (by decide +kernel) ⟨Nat.le_of_ble_eq_true rfl, Nat.le_of_ble_eq_true rfl⟩) (by decide) (kc0 g Y _) rfl nd44 nd44r rfl hl.1 rfl (Nat.le_of_ble_eq_true rfl) dL_law_679 ⟨Nat.le_of_ble_eq_true rfl, Nat.le_of_ble_eq_true rfl⟩ (fun H locs I => ?_)
  refine lv_aload_n hx hb dL_law_682 rfl (lv_at hl 2 rfl) ?_
  refine lv_aload_n hx hb dL_law_683 rfl (lv_at hl 0 rfl) ?_
  refine lv_iload_n hx hb dL_law_684 rfl (lv_at hl 3 rfl) ?_
  refine lv_iconst (v := 1) hx hb dL_law_685 (by decide) ?_
  refine lv_iadd hx hb dL_law_686 ?_
  refine top_eq (show nI (i + 1) = nI i + 1 from (nI_add i 1).symm) ?_
  refine va_sld hx hb hX hbl hbA I.2.2.2.1 (vp_in_nI (show i + 1 < L by omega) (by omega)) dL_law_687 ?_
  refine lv_aload_n hx hb dL_law_688 rfl (lv_at hl 0 rfl) ?_
  refine lv_iload_n hx hb dL_law_689 rfl (lv_at hl 3 rfl) ?_
  refine lv_iconst (v := 2) hx hb dL_law_690 (by decide) ?_
  refine lv_iadd hx hb dL_law_691 ?_
  refine top_eq (show nI (i + 2) = nI i + 2 from (nI_add i 2).symm) ?_
  refine va_sld hx hb hX hbl hbA I.2.2.2.1 (vp_in_nI (show i + 2 < L by omega) (by omega)) dL_law_692 ?_
  refine lv_aload_n hx hb dL_law_693 rfl (lv_at hl 0 rfl) ?_
  refine lv_iload_n hx hb dL_law_694 rfl (lv_at hl 3 rfl) ?_
  refine lv_iconst (v := 3) hx hb dL_law_695 (by decide) ?_
  refine lv_iadd hx hb dL_law_696 ?_
  refine top_eq (show nI (i + 3) = nI i + 3 from (nI_add i 3).symm) ?_
  refine va_sld hx hb hX hbl hbA I.2.2.2.1 (vp_in_nI (show i + 3 < L by omega) (by omega)) dL_law_697 ?_
  refine l_iV (rest := [.int x]) I ⟨hx, hb, hml, hown, hts⟩ (ct_X10_worth μ (xs (nI (i + 1)).toNatClampNeg) (xs (nI (i + 2)).toNatClampNeg) (xs (nI (i + 3)).toNatClampNeg) _ e2) (cwV 3 hts gM_X10_worth rfl rfl rfl (by decide +kernel) ⟨Nat.le_of_ble_eq_true rfl, Nat.le_of_ble_eq_true rfl⟩) (by decide) (km0 g2 Y _) rfl nd27 nd27r rfl hl.1 rfl (Nat.le_of_ble_eq_true rfl) dL_law_698 ⟨Nat.le_of_ble_eq_true rfl, Nat.le_of_ble_eq_true rfl⟩ (fun H locs I => ?_)
  refine lv_icmp_eq (tgt := 1165) hx hb dL_law_701 (by decide) (fun _ => ?_) (fun c_ => absurd rfl c_)
  exact nx σ' μ' _ _ _ hR' I hl
set_option maxHeartbeats 4000000 in
set_option maxRecDepth 100000 in
theorem lc_bar {p : Program} {l : Launch} {e : Env} {s : State} {m : MethodId} {below : List Frame} {meth : Method} {c : Code} {b L : Nat} {xs : Nat → Int32} {D : va_G} {Y : YT} {bP : Nat} {g g2 : Nat → Nat} (hL : L ≤ 3072) (C0 : lw_At p s m meth c b L xs) {σ μ : St} (hR : Rg σ μ) {H : Heap} {locs : List Loc} (I : LW D Y bP (fun q : Nat => s.heap.size ≤ q) s (wd 44 g (KC g Y) σ ++ wd 27 g2 (KM g2 Y) μ) H locs) {ls : Array Slot} {i : Nat} (hi : i + 6 ≤ L) (hl : lv_has ls 4 [(0, .ref b), (1, .ref (g 0)), (2, .ref (g2 0)), (3, .int (nI i))]) (nx : ∀ (σ μ : St) (H : Heap) (locs : List Loc) (ls : Array Slot), Rg σ μ → LW D Y bP (fun q : Nat => s.heap.size ≤ q) s (wd 44 g (KC g Y) σ ++ wd 27 g2 (KM g2 Y) μ) H locs → lv_has ls 4 [(0, .ref b), (1, .ref (g 0)), (2, .ref (g2 0)), (3, .int (nI i))] → W p l e room_1 s m #[Value.ref b] below meth c H locs 71 3182 (lw_Z below #[Value.ref b] s) (F0 m 1165 ls [])) : W p l e room_1 s m #[Value.ref b] below meth c H locs 71 3182 (lw_Z below #[Value.ref b] s) (F0 m 706 ls []) := by
  obtain ⟨hx, hb, hr, hml, hown0, hts, hX, hbl, hlocks, hgv⟩ := id C0
  have hown : s.vm.findClass RL = some m.cls := hown0
  have hbA : ¬ (fun q : Nat => s.heap.size ≤ q) b := Nat.not_le.mpr hbl
  obtain ⟨σ', μ', x, e1, e2, hR'⟩ := s_bar hR (xs (nI (i + 1)).toNatClampNeg) (xs (nI (i + 2)).toNatClampNeg) (xs (nI (i + 3)).toNatClampNeg)
  refine lv_aload_n hx hb dL_law_706 rfl (lv_at hl 1 rfl) ?_
  refine lv_aload_n hx hb dL_law_707 rfl (lv_at hl 0 rfl) ?_
  refine lv_iload_n hx hb dL_law_708 rfl (lv_at hl 3 rfl) ?_
  refine lv_iconst (v := 1) hx hb dL_law_709 (by decide) ?_
  refine lv_iadd hx hb dL_law_710 ?_
  refine top_eq (show nI (i + 1) = nI i + 1 from (nI_add i 1).symm) ?_
  refine va_sld hx hb hX hbl hbA I.2.2.2.1 (vp_in_nI (show i + 1 < L by omega) (by omega)) dL_law_711 ?_
  refine lv_aload_n hx hb dL_law_712 rfl (lv_at hl 0 rfl) ?_
  refine lv_iload_n hx hb dL_law_713 rfl (lv_at hl 3 rfl) ?_
  refine lv_iconst (v := 2) hx hb dL_law_714 (by decide) ?_
  refine lv_iadd hx hb dL_law_715 ?_
  refine top_eq (show nI (i + 2) = nI i + 2 from (nI_add i 2).symm) ?_
  refine va_sld hx hb hX hbl hbA I.2.2.2.1 (vp_in_nI (show i + 2 < L by omega) (by omega)) dL_law_716 ?_
  refine lv_aload_n hx hb dL_law_717 rfl (lv_at hl 0 rfl) ?_
  refine lv_iload_n hx hb dL_law_718 rfl (lv_at hl 3 rfl) ?_
  refine lv_iconst (v := 3) hx hb dL_law_719 (by decide) ?_
  refine lv_iadd hx hb dL_law_720 ?_
  refine top_eq (show nI (i + 3) = nI i + 3 from (nI_add i 3).symm) ?_
  refine va_sld hx hb hX hbl hbA I.2.2.2.1 (vp_in_nI (show i + 3 < L by omega) (by omega)) dL_law_721 ?_
  refine l_iV (rest := []) I ⟨hx, hb, hml, hown, hts⟩ (ct_X9_bar σ (xs (nI (i + 1)).toNatClampNeg) (xs (nI (i + 2)).toNatClampNeg) (xs (nI (i + 3)).toNatClampNeg) _ e1) (cwV 3 hts gM_X9_bar rfl rfl rfl (by decide +kernel) ⟨Nat.le_of_ble_eq_true rfl, Nat.le_of_ble_eq_true rfl⟩) (by decide) (kc0 g Y _) rfl nd44 nd44r rfl hl.1 rfl (Nat.le_of_ble_eq_true rfl) dL_law_722 ⟨Nat.le_of_ble_eq_true rfl, Nat.le_of_ble_eq_true rfl⟩ (fun H locs I => ?_)
  refine lv_aload_n hx hb dL_law_725 rfl (lv_at hl 2 rfl) ?_
  refine lv_aload_n hx hb dL_law_726 rfl (lv_at hl 0 rfl) ?_
  refine lv_iload_n hx hb dL_law_727 rfl (lv_at hl 3 rfl) ?_
  refine lv_iconst (v := 1) hx hb dL_law_728 (by decide) ?_
  refine lv_iadd hx hb dL_law_729 ?_
  refine top_eq (show nI (i + 1) = nI i + 1 from (nI_add i 1).symm) ?_
  refine va_sld hx hb hX hbl hbA I.2.2.2.1 (vp_in_nI (show i + 1 < L by omega) (by omega)) dL_law_730 ?_
  refine lv_aload_n hx hb dL_law_731 rfl (lv_at hl 0 rfl) ?_
  refine lv_iload_n hx hb dL_law_732 rfl (lv_at hl 3 rfl) ?_
  refine lv_iconst (v := 2) hx hb dL_law_733 (by decide) ?_
  refine lv_iadd hx hb dL_law_734 ?_
  refine top_eq (show nI (i + 2) = nI i + 2 from (nI_add i 2).symm) ?_
  refine va_sld hx hb hX hbl hbA I.2.2.2.1 (vp_in_nI (show i + 2 < L by omega) (by omega)) dL_law_735 ?_
  refine lv_aload_n hx hb dL_law_736 rfl (lv_at hl 0 rfl) ?_
  refine lv_iload_n hx hb dL_law_737 rfl (lv_at hl 3 rfl) ?_
  refine lv_iconst (v := 3) hx hb dL_law_738 (by decide) ?_
  refine lv_iadd hx hb dL_law_739 ?_
  refine top_eq (show nI (i + 3) = nI i + 3 from (nI_add i 3).symm) ?_
  refine va_sld hx hb hX hbl hbA I.2.2.2.1 (vp_in_nI (show i + 3 < L by omega) (by omega)) dL_law_740 ?_
  refine l_iV (rest := [.int x]) I ⟨hx, hb, hml, hown, hts⟩ (ct_X10_bar μ (xs (nI (i + 1)).toNatClampNeg) (xs (nI (i + 2)).toNatClampNeg) (xs (nI (i + 3)).toNatClampNeg) _ e2) (cwV 3 hts gM_X10_bar rfl rfl rfl (by decide +kernel) ⟨Nat.le_of_ble_eq_true rfl, Nat.le_of_ble_eq_true rfl⟩) (by decide) (km0 g2 Y _) rfl nd27 nd27r rfl hl.1 rfl (Nat.le_of_ble_eq_true rfl) dL_law_741 ⟨Nat.le_of_ble_eq_true rfl, Nat.le_of_ble_eq_true rfl⟩ (fun H locs I => ?_)
  refine lv_icmp_eq (tgt := 1165) hx hb dL_law_744 (by decide) (fun _ => ?_) (fun c_ => absurd rfl c_)
  exact nx σ' μ' _ _ _ hR' I hl
set_option maxHeartbeats 4000000 in
set_option maxRecDepth 100000 in
theorem lc_pin {p : Program} {l : Launch} {e : Env} {s : State} {m : MethodId} {below : List Frame} {meth : Method} {c : Code} {b L : Nat} {xs : Nat → Int32} {D : va_G} {Y : YT} {bP : Nat} {g g2 : Nat → Nat} (hL : L ≤ 3072) (C0 : lw_At p s m meth c b L xs) {σ μ : St} (hR : Rg σ μ) {H : Heap} {locs : List Loc} (I : LW D Y bP (fun q : Nat => s.heap.size ≤ q) s (wd 44 g (KC g Y) σ ++ wd 27 g2 (KM g2 Y) μ) H locs) {ls : Array Slot} {i : Nat} (hi : i + 6 ≤ L) (hl : lv_has ls 4 [(0, .ref b), (1, .ref (g 0)), (2, .ref (g2 0)), (3, .int (nI i))]) (nx : ∀ (σ μ : St) (H : Heap) (locs : List Loc) (ls : Array Slot), Rg σ μ → LW D Y bP (fun q : Nat => s.heap.size ≤ q) s (wd 44 g (KC g Y) σ ++ wd 27 g2 (KM g2 Y) μ) H locs → lv_has ls 4 [(0, .ref b), (1, .ref (g 0)), (2, .ref (g2 0)), (3, .int (nI i))] → W p l e room_1 s m #[Value.ref b] below meth c H locs 71 3182 (lw_Z below #[Value.ref b] s) (F0 m 1165 ls [])) : W p l e room_1 s m #[Value.ref b] below meth c H locs 71 3182 (lw_Z below #[Value.ref b] s) (F0 m 749 ls []) := by
  obtain ⟨hx, hb, hr, hml, hown0, hts, hX, hbl, hlocks, hgv⟩ := id C0
  have hown : s.vm.findClass RL = some m.cls := hown0
  have hbA : ¬ (fun q : Nat => s.heap.size ≤ q) b := Nat.not_le.mpr hbl
  obtain ⟨σ', μ', x, e1, e2, hR'⟩ := s_pin hR (xs (nI (i + 1)).toNatClampNeg) (xs (nI (i + 2)).toNatClampNeg) (xs (nI (i + 3)).toNatClampNeg)
  refine lv_aload_n hx hb dL_law_749 rfl (lv_at hl 1 rfl) ?_
  refine lv_aload_n hx hb dL_law_750 rfl (lv_at hl 0 rfl) ?_
  refine lv_iload_n hx hb dL_law_751 rfl (lv_at hl 3 rfl) ?_
  refine lv_iconst (v := 1) hx hb dL_law_752 (by decide) ?_
  refine lv_iadd hx hb dL_law_753 ?_
  refine top_eq (show nI (i + 1) = nI i + 1 from (nI_add i 1).symm) ?_
  refine va_sld hx hb hX hbl hbA I.2.2.2.1 (vp_in_nI (show i + 1 < L by omega) (by omega)) dL_law_754 ?_
  refine lv_aload_n hx hb dL_law_755 rfl (lv_at hl 0 rfl) ?_
  refine lv_iload_n hx hb dL_law_756 rfl (lv_at hl 3 rfl) ?_
  refine lv_iconst (v := 2) hx hb dL_law_757 (by decide) ?_
  refine lv_iadd hx hb dL_law_758 ?_
  refine top_eq (show nI (i + 2) = nI i + 2 from (nI_add i 2).symm) ?_
  refine va_sld hx hb hX hbl hbA I.2.2.2.1 (vp_in_nI (show i + 2 < L by omega) (by omega)) dL_law_759 ?_
  refine lv_aload_n hx hb dL_law_760 rfl (lv_at hl 0 rfl) ?_
  refine lv_iload_n hx hb dL_law_761 rfl (lv_at hl 3 rfl) ?_
  refine lv_iconst (v := 3) hx hb dL_law_762 (by decide) ?_
  refine lv_iadd hx hb dL_law_763 ?_
  refine top_eq (show nI (i + 3) = nI i + 3 from (nI_add i 3).symm) ?_
  refine va_sld hx hb hX hbl hbA I.2.2.2.1 (vp_in_nI (show i + 3 < L by omega) (by omega)) dL_law_764 ?_
  refine l_iV (rest := []) I ⟨hx, hb, hml, hown, hts⟩ (ct_X9_pin σ (xs (nI (i + 1)).toNatClampNeg) (xs (nI (i + 2)).toNatClampNeg) (xs (nI (i + 3)).toNatClampNeg) _ e1) (cwV 3 hts gM_X9_pin rfl rfl rfl (by decide +kernel) ⟨Nat.le_of_ble_eq_true rfl, Nat.le_of_ble_eq_true rfl⟩) (by decide) (kc0 g Y _) rfl nd44 nd44r rfl hl.1 rfl (Nat.le_of_ble_eq_true rfl) dL_law_765 ⟨Nat.le_of_ble_eq_true rfl, Nat.le_of_ble_eq_true rfl⟩ (fun H locs I => ?_)
  refine lv_aload_n hx hb dL_law_768 rfl (lv_at hl 2 rfl) ?_
  refine lv_aload_n hx hb dL_law_769 rfl (lv_at hl 0 rfl) ?_
  refine lv_iload_n hx hb dL_law_770 rfl (lv_at hl 3 rfl) ?_
  refine lv_iconst (v := 1) hx hb dL_law_771 (by decide) ?_
  refine lv_iadd hx hb dL_law_772 ?_
  refine top_eq (show nI (i + 1) = nI i + 1 from (nI_add i 1).symm) ?_
  refine va_sld hx hb hX hbl hbA I.2.2.2.1 (vp_in_nI (show i + 1 < L by omega) (by omega)) dL_law_773 ?_
  refine lv_aload_n hx hb dL_law_774 rfl (lv_at hl 0 rfl) ?_
  refine lv_iload_n hx hb dL_law_775 rfl (lv_at hl 3 rfl) ?_
  refine lv_iconst (v := 2) hx hb dL_law_776 (by decide) ?_
  refine lv_iadd hx hb dL_law_777 ?_
  refine top_eq (show nI (i + 2) = nI i + 2 from (nI_add i 2).symm) ?_
  refine va_sld hx hb hX hbl hbA I.2.2.2.1 (vp_in_nI (show i + 2 < L by omega) (by omega)) dL_law_778 ?_
  refine lv_aload_n hx hb dL_law_779 rfl (lv_at hl 0 rfl) ?_
  refine lv_iload_n hx hb dL_law_780 rfl (lv_at hl 3 rfl) ?_
  refine lv_iconst (v := 3) hx hb dL_law_781 (by decide) ?_
  refine lv_iadd hx hb dL_law_782 ?_
  refine top_eq (show nI (i + 3) = nI i + 3 from (nI_add i 3).symm) ?_
  refine va_sld hx hb hX hbl hbA I.2.2.2.1 (vp_in_nI (show i + 3 < L by omega) (by omega)) dL_law_783 ?_
  refine l_iV (rest := [.int x]) I ⟨hx, hb, hml, hown, hts⟩ (ct_X10_pin μ (xs (nI (i + 1)).toNatClampNeg) (xs (nI (i + 2)).toNatClampNeg) (xs (nI (i + 3)).toNatClampNeg) _ e2) (cwV 3 hts gM_X10_pin rfl rfl rfl (by decide +kernel) ⟨Nat.le_of_ble_eq_true rfl, Nat.le_of_ble_eq_true rfl⟩) (by decide) (km0 g2 Y _) rfl nd27 nd27r rfl hl.1 rfl (Nat.le_of_ble_eq_true rfl) dL_law_784 ⟨Nat.le_of_ble_eq_true rfl, Nat.le_of_ble_eq_true rfl⟩ (fun H locs I => ?_)
  refine lv_icmp_eq (tgt := 1165) hx hb dL_law_787 (by decide) (fun _ => ?_) (fun c_ => absurd rfl c_)
  exact nx σ' μ' _ _ _ hR' I hl
set_option maxHeartbeats 4000000 in
set_option maxRecDepth 100000 in
theorem lc_plan {p : Program} {l : Launch} {e : Env} {s : State} {m : MethodId} {below : List Frame} {meth : Method} {c : Code} {b L : Nat} {xs : Nat → Int32} {D : va_G} {Y : YT} {bP : Nat} {g g2 : Nat → Nat} (hL : L ≤ 3072) (C0 : lw_At p s m meth c b L xs) {σ μ : St} (hR : Rg σ μ) {H : Heap} {locs : List Loc} (I : LW D Y bP (fun q : Nat => s.heap.size ≤ q) s (wd 44 g (KC g Y) σ ++ wd 27 g2 (KM g2 Y) μ) H locs) {ls : Array Slot} {i : Nat} (hi : i + 6 ≤ L) (hl : lv_has ls 4 [(0, .ref b), (1, .ref (g 0)), (2, .ref (g2 0)), (3, .int (nI i))]) (nx : ∀ (σ μ : St) (H : Heap) (locs : List Loc) (ls : Array Slot), Rg σ μ → LW D Y bP (fun q : Nat => s.heap.size ≤ q) s (wd 44 g (KC g Y) σ ++ wd 27 g2 (KM g2 Y) μ) H locs → lv_has ls 4 [(0, .ref b), (1, .ref (g 0)), (2, .ref (g2 0)), (3, .int (nI i))] → W p l e room_1 s m #[Value.ref b] below meth c H locs 71 3182 (lw_Z below #[Value.ref b] s) (F0 m 1165 ls [])) : W p l e room_1 s m #[Value.ref b] below meth c H locs 71 3182 (lw_Z below #[Value.ref b] s) (F0 m 792 ls []) := by
  obtain ⟨hx, hb, hr, hml, hown0, hts, hX, hbl, hlocks, hgv⟩ := id C0
  have hown : s.vm.findClass RL = some m.cls := hown0
  have hbA : ¬ (fun q : Nat => s.heap.size ≤ q) b := Nat.not_le.mpr hbl
  obtain ⟨σ', μ', x, e1, e2, hR'⟩ := s_plan hR (xs (nI (i + 1)).toNatClampNeg) (xs (nI (i + 2)).toNatClampNeg)
  refine lv_aload_n hx hb dL_law_792 rfl (lv_at hl 1 rfl) ?_
  refine lv_aload_n hx hb dL_law_793 rfl (lv_at hl 0 rfl) ?_
  refine lv_iload_n hx hb dL_law_794 rfl (lv_at hl 3 rfl) ?_
  refine lv_iconst (v := 1) hx hb dL_law_795 (by decide) ?_
  refine lv_iadd hx hb dL_law_796 ?_
  refine top_eq (show nI (i + 1) = nI i + 1 from (nI_add i 1).symm) ?_
  refine va_sld hx hb hX hbl hbA I.2.2.2.1 (vp_in_nI (show i + 1 < L by omega) (by omega)) dL_law_797 ?_
  refine lv_aload_n hx hb dL_law_798 rfl (lv_at hl 0 rfl) ?_
  refine lv_iload_n hx hb dL_law_799 rfl (lv_at hl 3 rfl) ?_
  refine lv_iconst (v := 2) hx hb dL_law_800 (by decide) ?_
  refine lv_iadd hx hb dL_law_801 ?_
  refine top_eq (show nI (i + 2) = nI i + 2 from (nI_add i 2).symm) ?_
  refine va_sld hx hb hX hbl hbA I.2.2.2.1 (vp_in_nI (show i + 2 < L by omega) (by omega)) dL_law_802 ?_
  refine l_iV (rest := []) I ⟨hx, hb, hml, hown, hts⟩ (ct_X9_plan σ (xs (nI (i + 1)).toNatClampNeg) (xs (nI (i + 2)).toNatClampNeg) _ e1) (cwV 2 hts gM_X9_plan rfl rfl rfl (by decide +kernel) ⟨Nat.le_of_ble_eq_true rfl, Nat.le_of_ble_eq_true rfl⟩) (by decide) (kc0 g Y _) rfl nd44 nd44r rfl hl.1 rfl (Nat.le_of_ble_eq_true rfl) dL_law_803 ⟨Nat.le_of_ble_eq_true rfl, Nat.le_of_ble_eq_true rfl⟩ (fun H locs I => ?_)
  refine lv_aload_n hx hb dL_law_806 rfl (lv_at hl 2 rfl) ?_
  refine lv_aload_n hx hb dL_law_807 rfl (lv_at hl 0 rfl) ?_
  refine lv_iload_n hx hb dL_law_808 rfl (lv_at hl 3 rfl) ?_
  refine lv_iconst (v := 1) hx hb dL_law_809 (by decide) ?_
  refine lv_iadd hx hb dL_law_810 ?_
  refine top_eq (show nI (i + 1) = nI i + 1 from (nI_add i 1).symm) ?_
  refine va_sld hx hb hX hbl hbA I.2.2.2.1 (vp_in_nI (show i + 1 < L by omega) (by omega)) dL_law_811 ?_
  refine lv_aload_n hx hb dL_law_812 rfl (lv_at hl 0 rfl) ?_
  refine lv_iload_n hx hb dL_law_813 rfl (lv_at hl 3 rfl) ?_
  refine lv_iconst (v := 2) hx hb dL_law_814 (by decide) ?_
  refine lv_iadd hx hb dL_law_815 ?_
  refine top_eq (show nI (i + 2) = nI i + 2 from (nI_add i 2).symm) ?_
  refine va_sld hx hb hX hbl hbA I.2.2.2.1 (vp_in_nI (show i + 2 < L by omega) (by omega)) dL_law_816 ?_
  refine l_iV (rest := [.int x]) I ⟨hx, hb, hml, hown, hts⟩ (ct_X10_plan μ (xs (nI (i + 1)).toNatClampNeg) (xs (nI (i + 2)).toNatClampNeg) _ e2) (cwV 2 hts gM_X10_plan rfl rfl rfl (by decide +kernel) ⟨Nat.le_of_ble_eq_true rfl, Nat.le_of_ble_eq_true rfl⟩) (by decide) (km0 g2 Y _) rfl nd27 nd27r rfl hl.1 rfl (Nat.le_of_ble_eq_true rfl) dL_law_817 ⟨Nat.le_of_ble_eq_true rfl, Nat.le_of_ble_eq_true rfl⟩ (fun H locs I => ?_)
  refine lv_icmp_eq (tgt := 1165) hx hb dL_law_820 (by decide) (fun _ => ?_) (fun c_ => absurd rfl c_)
  exact nx σ' μ' _ _ _ hR' I hl
set_option maxHeartbeats 4000000 in
set_option maxRecDepth 100000 in
theorem lc_planned {p : Program} {l : Launch} {e : Env} {s : State} {m : MethodId} {below : List Frame} {meth : Method} {c : Code} {b L : Nat} {xs : Nat → Int32} {D : va_G} {Y : YT} {bP : Nat} {g g2 : Nat → Nat} (hL : L ≤ 3072) (C0 : lw_At p s m meth c b L xs) {σ μ : St} (hR : Rg σ μ) {H : Heap} {locs : List Loc} (I : LW D Y bP (fun q : Nat => s.heap.size ≤ q) s (wd 44 g (KC g Y) σ ++ wd 27 g2 (KM g2 Y) μ) H locs) {ls : Array Slot} {i : Nat} (hi : i + 6 ≤ L) (hl : lv_has ls 4 [(0, .ref b), (1, .ref (g 0)), (2, .ref (g2 0)), (3, .int (nI i))]) (nx : ∀ (σ μ : St) (H : Heap) (locs : List Loc) (ls : Array Slot), Rg σ μ → LW D Y bP (fun q : Nat => s.heap.size ≤ q) s (wd 44 g (KC g Y) σ ++ wd 27 g2 (KM g2 Y) μ) H locs → lv_has ls 4 [(0, .ref b), (1, .ref (g 0)), (2, .ref (g2 0)), (3, .int (nI i))] → W p l e room_1 s m #[Value.ref b] below meth c H locs 71 3182 (lw_Z below #[Value.ref b] s) (F0 m 1165 ls [])) : W p l e room_1 s m #[Value.ref b] below meth c H locs 71 3182 (lw_Z below #[Value.ref b] s) (F0 m 825 ls []) := by
  obtain ⟨hx, hb, hr, hml, hown0, hts, hX, hbl, hlocks, hgv⟩ := id C0
  have hown : s.vm.findClass RL = some m.cls := hown0
  have hbA : ¬ (fun q : Nat => s.heap.size ≤ q) b := Nat.not_le.mpr hbl
  obtain ⟨σ', μ', x, e1, e2, hR'⟩ := s_planned hR (xs (nI (i + 1)).toNatClampNeg) (xs (nI (i + 2)).toNatClampNeg)
  refine lv_aload_n hx hb dL_law_825 rfl (lv_at hl 1 rfl) ?_
  refine lv_aload_n hx hb dL_law_826 rfl (lv_at hl 0 rfl) ?_
  refine lv_iload_n hx hb dL_law_827 rfl (lv_at hl 3 rfl) ?_
  refine lv_iconst (v := 1) hx hb dL_law_828 (by decide) ?_
  refine lv_iadd hx hb dL_law_829 ?_
  refine top_eq (show nI (i + 1) = nI i + 1 from (nI_add i 1).symm) ?_
  refine va_sld hx hb hX hbl hbA I.2.2.2.1 (vp_in_nI (show i + 1 < L by omega) (by omega)) dL_law_830 ?_
  refine lv_aload_n hx hb dL_law_831 rfl (lv_at hl 0 rfl) ?_
  refine lv_iload_n hx hb dL_law_832 rfl (lv_at hl 3 rfl) ?_
  refine lv_iconst (v := 2) hx hb dL_law_833 (by decide) ?_
  refine lv_iadd hx hb dL_law_834 ?_
  refine top_eq (show nI (i + 2) = nI i + 2 from (nI_add i 2).symm) ?_
  refine va_sld hx hb hX hbl hbA I.2.2.2.1 (vp_in_nI (show i + 2 < L by omega) (by omega)) dL_law_835 ?_
  refine l_iV (rest := []) I ⟨hx, hb, hml, hown, hts⟩ (ct_X9_planned σ (xs (nI (i + 1)).toNatClampNeg) (xs (nI (i + 2)).toNatClampNeg) _ e1) (cwV 2 hts gM_X9_planned rfl rfl rfl (by decide +kernel) ⟨Nat.le_of_ble_eq_true rfl, Nat.le_of_ble_eq_true rfl⟩) (by decide) (kc0 g Y _) rfl nd44 nd44r rfl hl.1 rfl (Nat.le_of_ble_eq_true rfl) dL_law_836 ⟨Nat.le_of_ble_eq_true rfl, Nat.le_of_ble_eq_true rfl⟩ (fun H locs I => ?_)
  refine lv_aload_n hx hb dL_law_839 rfl (lv_at hl 2 rfl) ?_
  refine lv_aload_n hx hb dL_law_840 rfl (lv_at hl 0 rfl) ?_
  refine lv_iload_n hx hb dL_law_841 rfl (lv_at hl 3 rfl) ?_
  refine lv_iconst (v := 1) hx hb dL_law_842 (by decide) ?_
  refine lv_iadd hx hb dL_law_843 ?_
  refine top_eq (show nI (i + 1) = nI i + 1 from (nI_add i 1).symm) ?_
  refine va_sld hx hb hX hbl hbA I.2.2.2.1 (vp_in_nI (show i + 1 < L by omega) (by omega)) dL_law_844 ?_
  refine lv_aload_n hx hb dL_law_845 rfl (lv_at hl 0 rfl) ?_
  refine lv_iload_n hx hb dL_law_846 rfl (lv_at hl 3 rfl) ?_
  refine lv_iconst (v := 2) hx hb dL_law_847 (by decide) ?_
  refine lv_iadd hx hb dL_law_848 ?_
  refine top_eq (show nI (i + 2) = nI i + 2 from (nI_add i 2).symm) ?_
  refine va_sld hx hb hX hbl hbA I.2.2.2.1 (vp_in_nI (show i + 2 < L by omega) (by omega)) dL_law_849 ?_
  refine l_iV (rest := [.int x]) I ⟨hx, hb, hml, hown, hts⟩ (ct_X10_planned μ (xs (nI (i + 1)).toNatClampNeg) (xs (nI (i + 2)).toNatClampNeg) _ e2) (cwV 2 hts gM_X10_planned rfl rfl rfl (by decide +kernel) ⟨Nat.le_of_ble_eq_true rfl, Nat.le_of_ble_eq_true rfl⟩) (by decide) (km0 g2 Y _) rfl nd27 nd27r rfl hl.1 rfl (Nat.le_of_ble_eq_true rfl) dL_law_850 ⟨Nat.le_of_ble_eq_true rfl, Nat.le_of_ble_eq_true rfl⟩ (fun H locs I => ?_)
  refine lv_icmp_eq (tgt := 1165) hx hb dL_law_853 (by decide) (fun _ => ?_) (fun c_ => absurd rfl c_)
  exact nx σ' μ' _ _ _ hR' I hl
set_option maxHeartbeats 4000000 in
set_option maxRecDepth 100000 in
theorem lc_rule {p : Program} {l : Launch} {e : Env} {s : State} {m : MethodId} {below : List Frame} {meth : Method} {c : Code} {b L : Nat} {xs : Nat → Int32} {D : va_G} {Y : YT} {bP : Nat} {g g2 : Nat → Nat} (hL : L ≤ 3072) (C0 : lw_At p s m meth c b L xs) {σ μ : St} (hR : Rg σ μ) {H : Heap} {locs : List Loc} (I : LW D Y bP (fun q : Nat => s.heap.size ≤ q) s (wd 44 g (KC g Y) σ ++ wd 27 g2 (KM g2 Y) μ) H locs) {ls : Array Slot} {i : Nat} (hi : i + 6 ≤ L) (hl : lv_has ls 4 [(0, .ref b), (1, .ref (g 0)), (2, .ref (g2 0)), (3, .int (nI i))]) (nx : ∀ (σ μ : St) (H : Heap) (locs : List Loc) (ls : Array Slot), Rg σ μ → LW D Y bP (fun q : Nat => s.heap.size ≤ q) s (wd 44 g (KC g Y) σ ++ wd 27 g2 (KM g2 Y) μ) H locs → lv_has ls 4 [(0, .ref b), (1, .ref (g 0)), (2, .ref (g2 0)), (3, .int (nI i))] → W p l e room_1 s m #[Value.ref b] below meth c H locs 71 3182 (lw_Z below #[Value.ref b] s) (F0 m 1165 ls [])) : W p l e room_1 s m #[Value.ref b] below meth c H locs 71 3182 (lw_Z below #[Value.ref b] s) (F0 m 858 ls []) := by
  obtain ⟨hx, hb, hr, hml, hown0, hts, hX, hbl, hlocks, hgv⟩ := id C0
  have hown : s.vm.findClass RL = some m.cls := hown0
  have hbA : ¬ (fun q : Nat => s.heap.size ≤ q) b := Nat.not_le.mpr hbl
  obtain ⟨σ', μ', x, e1, e2, hR'⟩ := s_rule hR (xs (nI (i + 1)).toNatClampNeg) (xs (nI (i + 2)).toNatClampNeg)
  refine lv_aload_n hx hb dL_law_858 rfl (lv_at hl 1 rfl) ?_
  refine lv_aload_n hx hb dL_law_859 rfl (lv_at hl 0 rfl) ?_
  refine lv_iload_n hx hb dL_law_860 rfl (lv_at hl 3 rfl) ?_
  refine lv_iconst (v := 1) hx hb dL_law_861 (by decide) ?_
  refine lv_iadd hx hb dL_law_862 ?_
  refine top_eq (show nI (i + 1) = nI i + 1 from (nI_add i 1).symm) ?_
  refine va_sld hx hb hX hbl hbA I.2.2.2.1 (vp_in_nI (show i + 1 < L by omega) (by omega)) dL_law_863 ?_
  refine lv_aload_n hx hb dL_law_864 rfl (lv_at hl 0 rfl) ?_
  refine lv_iload_n hx hb dL_law_865 rfl (lv_at hl 3 rfl) ?_
  refine lv_iconst (v := 2) hx hb dL_law_866 (by decide) ?_
  refine lv_iadd hx hb dL_law_867 ?_
  refine top_eq (show nI (i + 2) = nI i + 2 from (nI_add i 2).symm) ?_
  refine va_sld hx hb hX hbl hbA I.2.2.2.1 (vp_in_nI (show i + 2 < L by omega) (by omega)) dL_law_868 ?_
  refine l_iV (rest := []) I ⟨hx, hb, hml, hown, hts⟩ (ct_X9_rule σ (xs (nI (i + 1)).toNatClampNeg) (xs (nI (i + 2)).toNatClampNeg) _ e1) (cwV 2 hts gM_X9_rule rfl rfl rfl (by decide +kernel) ⟨Nat.le_of_ble_eq_true rfl, Nat.le_of_ble_eq_true rfl⟩) (by decide) (kc0 g Y _) rfl nd44 nd44r rfl hl.1 rfl (Nat.le_of_ble_eq_true rfl) dL_law_869 ⟨Nat.le_of_ble_eq_true rfl, Nat.le_of_ble_eq_true rfl⟩ (fun H locs I => ?_)
  refine lv_aload_n hx hb dL_law_872 rfl (lv_at hl 2 rfl) ?_
  refine lv_aload_n hx hb dL_law_873 rfl (lv_at hl 0 rfl) ?_
  refine lv_iload_n hx hb dL_law_874 rfl (lv_at hl 3 rfl) ?_
  refine lv_iconst (v := 1) hx hb dL_law_875 (by decide) ?_
  refine lv_iadd hx hb dL_law_876 ?_
  refine top_eq (show nI (i + 1) = nI i + 1 from (nI_add i 1).symm) ?_
  refine va_sld hx hb hX hbl hbA I.2.2.2.1 (vp_in_nI (show i + 1 < L by omega) (by omega)) dL_law_877 ?_
  refine lv_aload_n hx hb dL_law_878 rfl (lv_at hl 0 rfl) ?_
  refine lv_iload_n hx hb dL_law_879 rfl (lv_at hl 3 rfl) ?_
  refine lv_iconst (v := 2) hx hb dL_law_880 (by decide) ?_
  refine lv_iadd hx hb dL_law_881 ?_
  refine top_eq (show nI (i + 2) = nI i + 2 from (nI_add i 2).symm) ?_
  refine va_sld hx hb hX hbl hbA I.2.2.2.1 (vp_in_nI (show i + 2 < L by omega) (by omega)) dL_law_882 ?_
  refine l_iV (rest := [.int x]) I ⟨hx, hb, hml, hown, hts⟩ (ct_X10_rule μ (xs (nI (i + 1)).toNatClampNeg) (xs (nI (i + 2)).toNatClampNeg) _ e2) (cwV 2 hts gM_X10_rule rfl rfl rfl (by decide +kernel) ⟨Nat.le_of_ble_eq_true rfl, Nat.le_of_ble_eq_true rfl⟩) (by decide) (km0 g2 Y _) rfl nd27 nd27r rfl hl.1 rfl (Nat.le_of_ble_eq_true rfl) dL_law_883 ⟨Nat.le_of_ble_eq_true rfl, Nat.le_of_ble_eq_true rfl⟩ (fun H locs I => ?_)
  refine lv_icmp_eq (tgt := 1165) hx hb dL_law_886 (by decide) (fun _ => ?_) (fun c_ => absurd rfl c_)
  exact nx σ' μ' _ _ _ hR' I hl
set_option maxHeartbeats 4000000 in
set_option maxRecDepth 100000 in
theorem lc_least {p : Program} {l : Launch} {e : Env} {s : State} {m : MethodId} {below : List Frame} {meth : Method} {c : Code} {b L : Nat} {xs : Nat → Int32} {D : va_G} {Y : YT} {bP : Nat} {g g2 : Nat → Nat} (hL : L ≤ 3072) (C0 : lw_At p s m meth c b L xs) {σ μ : St} (hR : Rg σ μ) {H : Heap} {locs : List Loc} (I : LW D Y bP (fun q : Nat => s.heap.size ≤ q) s (wd 44 g (KC g Y) σ ++ wd 27 g2 (KM g2 Y) μ) H locs) {ls : Array Slot} {i : Nat} (hi : i + 6 ≤ L) (hl : lv_has ls 4 [(0, .ref b), (1, .ref (g 0)), (2, .ref (g2 0)), (3, .int (nI i))]) (nx : ∀ (σ μ : St) (H : Heap) (locs : List Loc) (ls : Array Slot), Rg σ μ → LW D Y bP (fun q : Nat => s.heap.size ≤ q) s (wd 44 g (KC g Y) σ ++ wd 27 g2 (KM g2 Y) μ) H locs → lv_has ls 4 [(0, .ref b), (1, .ref (g 0)), (2, .ref (g2 0)), (3, .int (nI i))] → W p l e room_1 s m #[Value.ref b] below meth c H locs 71 3182 (lw_Z below #[Value.ref b] s) (F0 m 1165 ls [])) : W p l e room_1 s m #[Value.ref b] below meth c H locs 71 3182 (lw_Z below #[Value.ref b] s) (F0 m 891 ls []) := by
  obtain ⟨hx, hb, hr, hml, hown0, hts, hX, hbl, hlocks, hgv⟩ := id C0
  have hown : s.vm.findClass RL = some m.cls := hown0
  have hbA : ¬ (fun q : Nat => s.heap.size ≤ q) b := Nat.not_le.mpr hbl
  obtain ⟨σ', μ', x, e1, e2, hR'⟩ := s_least hR (xs (nI (i + 1)).toNatClampNeg) (xs (nI (i + 2)).toNatClampNeg)
  refine lv_aload_n hx hb dL_law_891 rfl (lv_at hl 1 rfl) ?_
  refine lv_aload_n hx hb dL_law_892 rfl (lv_at hl 0 rfl) ?_
  refine lv_iload_n hx hb dL_law_893 rfl (lv_at hl 3 rfl) ?_
  refine lv_iconst (v := 1) hx hb dL_law_894 (by decide) ?_
  refine lv_iadd hx hb dL_law_895 ?_
  refine top_eq (show nI (i + 1) = nI i + 1 from (nI_add i 1).symm) ?_
  refine va_sld hx hb hX hbl hbA I.2.2.2.1 (vp_in_nI (show i + 1 < L by omega) (by omega)) dL_law_896 ?_
  refine lv_aload_n hx hb dL_law_897 rfl (lv_at hl 0 rfl) ?_
  refine lv_iload_n hx hb dL_law_898 rfl (lv_at hl 3 rfl) ?_
  refine lv_iconst (v := 2) hx hb dL_law_899 (by decide) ?_
  refine lv_iadd hx hb dL_law_900 ?_
  refine top_eq (show nI (i + 2) = nI i + 2 from (nI_add i 2).symm) ?_
  refine va_sld hx hb hX hbl hbA I.2.2.2.1 (vp_in_nI (show i + 2 < L by omega) (by omega)) dL_law_901 ?_
  refine l_iV (rest := []) I ⟨hx, hb, hml, hown, hts⟩ (ct_X9_least σ (xs (nI (i + 1)).toNatClampNeg) (xs (nI (i + 2)).toNatClampNeg) _ e1) (cwV 2 hts gM_X9_least rfl rfl rfl (by decide +kernel) ⟨Nat.le_of_ble_eq_true rfl, Nat.le_of_ble_eq_true rfl⟩) (by decide) (kc0 g Y _) rfl nd44 nd44r rfl hl.1 rfl (Nat.le_of_ble_eq_true rfl) dL_law_902 ⟨Nat.le_of_ble_eq_true rfl, Nat.le_of_ble_eq_true rfl⟩ (fun H locs I => ?_)
  refine lv_aload_n hx hb dL_law_905 rfl (lv_at hl 2 rfl) ?_
  refine lv_aload_n hx hb dL_law_906 rfl (lv_at hl 0 rfl) ?_
  refine lv_iload_n hx hb dL_law_907 rfl (lv_at hl 3 rfl) ?_
  refine lv_iconst (v := 1) hx hb dL_law_908 (by decide) ?_
  refine lv_iadd hx hb dL_law_909 ?_
  refine top_eq (show nI (i + 1) = nI i + 1 from (nI_add i 1).symm) ?_
  refine va_sld hx hb hX hbl hbA I.2.2.2.1 (vp_in_nI (show i + 1 < L by omega) (by omega)) dL_law_910 ?_
  refine lv_aload_n hx hb dL_law_911 rfl (lv_at hl 0 rfl) ?_
  refine lv_iload_n hx hb dL_law_912 rfl (lv_at hl 3 rfl) ?_
  refine lv_iconst (v := 2) hx hb dL_law_913 (by decide) ?_
  refine lv_iadd hx hb dL_law_914 ?_
  refine top_eq (show nI (i + 2) = nI i + 2 from (nI_add i 2).symm) ?_
  refine va_sld hx hb hX hbl hbA I.2.2.2.1 (vp_in_nI (show i + 2 < L by omega) (by omega)) dL_law_915 ?_
  refine l_iV (rest := [.int x]) I ⟨hx, hb, hml, hown, hts⟩ (ct_X10_least μ (xs (nI (i + 1)).toNatClampNeg) (xs (nI (i + 2)).toNatClampNeg) _ e2) (cwV 2 hts gM_X10_least rfl rfl rfl (by decide +kernel) ⟨Nat.le_of_ble_eq_true rfl, Nat.le_of_ble_eq_true rfl⟩) (by decide) (km0 g2 Y _) rfl nd27 nd27r rfl hl.1 rfl (Nat.le_of_ble_eq_true rfl) dL_law_916 ⟨Nat.le_of_ble_eq_true rfl, Nat.le_of_ble_eq_true rfl⟩ (fun H locs I => ?_)
  refine lv_icmp_eq (tgt := 1165) hx hb dL_law_919 (by decide) (fun _ => ?_) (fun c_ => absurd rfl c_)
  exact nx σ' μ' _ _ _ hR' I hl
set_option maxHeartbeats 4000000 in
set_option maxRecDepth 100000 in
theorem lc_share {p : Program} {l : Launch} {e : Env} {s : State} {m : MethodId} {below : List Frame} {meth : Method} {c : Code} {b L : Nat} {xs : Nat → Int32} {D : va_G} {Y : YT} {bP : Nat} {g g2 : Nat → Nat} (hL : L ≤ 3072) (C0 : lw_At p s m meth c b L xs) {σ μ : St} (hR : Rg σ μ) {H : Heap} {locs : List Loc} (I : LW D Y bP (fun q : Nat => s.heap.size ≤ q) s (wd 44 g (KC g Y) σ ++ wd 27 g2 (KM g2 Y) μ) H locs) {ls : Array Slot} {i : Nat} (hi : i + 6 ≤ L) (hl : lv_has ls 4 [(0, .ref b), (1, .ref (g 0)), (2, .ref (g2 0)), (3, .int (nI i))]) (nx : ∀ (σ μ : St) (H : Heap) (locs : List Loc) (ls : Array Slot), Rg σ μ → LW D Y bP (fun q : Nat => s.heap.size ≤ q) s (wd 44 g (KC g Y) σ ++ wd 27 g2 (KM g2 Y) μ) H locs → lv_has ls 4 [(0, .ref b), (1, .ref (g 0)), (2, .ref (g2 0)), (3, .int (nI i))] → W p l e room_1 s m #[Value.ref b] below meth c H locs 71 3182 (lw_Z below #[Value.ref b] s) (F0 m 1165 ls [])) : W p l e room_1 s m #[Value.ref b] below meth c H locs 71 3182 (lw_Z below #[Value.ref b] s) (F0 m 924 ls []) := by
  obtain ⟨hx, hb, hr, hml, hown0, hts, hX, hbl, hlocks, hgv⟩ := id C0
  have hown : s.vm.findClass RL = some m.cls := hown0
  have hbA : ¬ (fun q : Nat => s.heap.size ≤ q) b := Nat.not_le.mpr hbl
  obtain ⟨σ', μ', x, e1, e2, hR'⟩ := s_share hR (xs (nI (i + 1)).toNatClampNeg) (xs (nI (i + 2)).toNatClampNeg)
  refine lv_aload_n hx hb dL_law_924 rfl (lv_at hl 1 rfl) ?_
  refine lv_aload_n hx hb dL_law_925 rfl (lv_at hl 0 rfl) ?_
  refine lv_iload_n hx hb dL_law_926 rfl (lv_at hl 3 rfl) ?_
  refine lv_iconst (v := 1) hx hb dL_law_927 (by decide) ?_
  refine lv_iadd hx hb dL_law_928 ?_
  refine top_eq (show nI (i + 1) = nI i + 1 from (nI_add i 1).symm) ?_
  refine va_sld hx hb hX hbl hbA I.2.2.2.1 (vp_in_nI (show i + 1 < L by omega) (by omega)) dL_law_929 ?_
  refine lv_aload_n hx hb dL_law_930 rfl (lv_at hl 0 rfl) ?_
  refine lv_iload_n hx hb dL_law_931 rfl (lv_at hl 3 rfl) ?_
  refine lv_iconst (v := 2) hx hb dL_law_932 (by decide) ?_
  refine lv_iadd hx hb dL_law_933 ?_
  refine top_eq (show nI (i + 2) = nI i + 2 from (nI_add i 2).symm) ?_
  refine va_sld hx hb hX hbl hbA I.2.2.2.1 (vp_in_nI (show i + 2 < L by omega) (by omega)) dL_law_934 ?_
  refine l_iV (rest := []) I ⟨hx, hb, hml, hown, hts⟩ (ct_X9_share σ (xs (nI (i + 1)).toNatClampNeg) (xs (nI (i + 2)).toNatClampNeg) _ e1) (cwV 2 hts gM_X9_share rfl rfl rfl (by decide +kernel) ⟨Nat.le_of_ble_eq_true rfl, Nat.le_of_ble_eq_true rfl⟩) (by decide) (kc0 g Y _) rfl nd44 nd44r rfl hl.1 rfl (Nat.le_of_ble_eq_true rfl) dL_law_935 ⟨Nat.le_of_ble_eq_true rfl, Nat.le_of_ble_eq_true rfl⟩ (fun H locs I => ?_)
  refine lv_aload_n hx hb dL_law_938 rfl (lv_at hl 2 rfl) ?_
  refine lv_aload_n hx hb dL_law_939 rfl (lv_at hl 0 rfl) ?_
  refine lv_iload_n hx hb dL_law_940 rfl (lv_at hl 3 rfl) ?_
  refine lv_iconst (v := 1) hx hb dL_law_941 (by decide) ?_
  refine lv_iadd hx hb dL_law_942 ?_
  refine top_eq (show nI (i + 1) = nI i + 1 from (nI_add i 1).symm) ?_
  refine va_sld hx hb hX hbl hbA I.2.2.2.1 (vp_in_nI (show i + 1 < L by omega) (by omega)) dL_law_943 ?_
  refine lv_aload_n hx hb dL_law_944 rfl (lv_at hl 0 rfl) ?_
  refine lv_iload_n hx hb dL_law_945 rfl (lv_at hl 3 rfl) ?_
  refine lv_iconst (v := 2) hx hb dL_law_946 (by decide) ?_
  refine lv_iadd hx hb dL_law_947 ?_
  refine top_eq (show nI (i + 2) = nI i + 2 from (nI_add i 2).symm) ?_
  refine va_sld hx hb hX hbl hbA I.2.2.2.1 (vp_in_nI (show i + 2 < L by omega) (by omega)) dL_law_948 ?_
  refine l_iV (rest := [.int x]) I ⟨hx, hb, hml, hown, hts⟩ (ct_X10_share μ (xs (nI (i + 1)).toNatClampNeg) (xs (nI (i + 2)).toNatClampNeg) _ e2) (cwV 2 hts gM_X10_share rfl rfl rfl (by decide +kernel) ⟨Nat.le_of_ble_eq_true rfl, Nat.le_of_ble_eq_true rfl⟩) (by decide) (km0 g2 Y _) rfl nd27 nd27r rfl hl.1 rfl (Nat.le_of_ble_eq_true rfl) dL_law_949 ⟨Nat.le_of_ble_eq_true rfl, Nat.le_of_ble_eq_true rfl⟩ (fun H locs I => ?_)
  refine lv_icmp_eq (tgt := 1165) hx hb dL_law_952 (by decide) (fun _ => ?_) (fun c_ => absurd rfl c_)
  exact nx σ' μ' _ _ _ hR' I hl
set_option maxHeartbeats 4000000 in
set_option maxRecDepth 100000 in
theorem lc_shares {p : Program} {l : Launch} {e : Env} {s : State} {m : MethodId} {below : List Frame} {meth : Method} {c : Code} {b L : Nat} {xs : Nat → Int32} {D : va_G} {Y : YT} {bP : Nat} {g g2 : Nat → Nat} (hL : L ≤ 3072) (C0 : lw_At p s m meth c b L xs) {σ μ : St} (hR : Rg σ μ) {H : Heap} {locs : List Loc} (I : LW D Y bP (fun q : Nat => s.heap.size ≤ q) s (wd 44 g (KC g Y) σ ++ wd 27 g2 (KM g2 Y) μ) H locs) {ls : Array Slot} {i : Nat} (hi : i + 6 ≤ L) (hl : lv_has ls 4 [(0, .ref b), (1, .ref (g 0)), (2, .ref (g2 0)), (3, .int (nI i))]) (nx : ∀ (σ μ : St) (H : Heap) (locs : List Loc) (ls : Array Slot), Rg σ μ → LW D Y bP (fun q : Nat => s.heap.size ≤ q) s (wd 44 g (KC g Y) σ ++ wd 27 g2 (KM g2 Y) μ) H locs → lv_has ls 4 [(0, .ref b), (1, .ref (g 0)), (2, .ref (g2 0)), (3, .int (nI i))] → W p l e room_1 s m #[Value.ref b] below meth c H locs 71 3182 (lw_Z below #[Value.ref b] s) (F0 m 1165 ls [])) : W p l e room_1 s m #[Value.ref b] below meth c H locs 71 3182 (lw_Z below #[Value.ref b] s) (F0 m 957 ls []) := by
  obtain ⟨hx, hb, hr, hml, hown0, hts, hX, hbl, hlocks, hgv⟩ := id C0
  have hown : s.vm.findClass RL = some m.cls := hown0
  have hbA : ¬ (fun q : Nat => s.heap.size ≤ q) b := Nat.not_le.mpr hbl
  obtain ⟨σ', μ', x, e1, e2, hR'⟩ := s_shares hR (xs (nI (i + 1)).toNatClampNeg)
  refine lv_aload_n hx hb dL_law_957 rfl (lv_at hl 1 rfl) ?_
  refine lv_aload_n hx hb dL_law_958 rfl (lv_at hl 0 rfl) ?_
  refine lv_iload_n hx hb dL_law_959 rfl (lv_at hl 3 rfl) ?_
  refine lv_iconst (v := 1) hx hb dL_law_960 (by decide) ?_
  refine lv_iadd hx hb dL_law_961 ?_
  refine top_eq (show nI (i + 1) = nI i + 1 from (nI_add i 1).symm) ?_
  refine va_sld hx hb hX hbl hbA I.2.2.2.1 (vp_in_nI (show i + 1 < L by omega) (by omega)) dL_law_962 ?_
  refine l_iV (rest := []) I ⟨hx, hb, hml, hown, hts⟩ (ct_X9_shares σ (xs (nI (i + 1)).toNatClampNeg) _ e1) (cwV 1 hts gM_X9_shares rfl rfl rfl (by decide +kernel) ⟨Nat.le_of_ble_eq_true rfl, Nat.le_of_ble_eq_true rfl⟩) (by decide) (kc0 g Y _) rfl nd44 nd44r rfl hl.1 rfl (Nat.le_of_ble_eq_true rfl) dL_law_963 ⟨Nat.le_of_ble_eq_true rfl, Nat.le_of_ble_eq_true rfl⟩ (fun H locs I => ?_)
  refine lv_aload_n hx hb dL_law_966 rfl (lv_at hl 2 rfl) ?_
  refine lv_aload_n hx hb dL_law_967 rfl (lv_at hl 0 rfl) ?_
  refine lv_iload_n hx hb dL_law_968 rfl (lv_at hl 3 rfl) ?_
  refine lv_iconst (v := 1) hx hb dL_law_969 (by decide) ?_
  refine lv_iadd hx hb dL_law_970 ?_
  refine top_eq (show nI (i + 1) = nI i + 1 from (nI_add i 1).symm) ?_
  refine va_sld hx hb hX hbl hbA I.2.2.2.1 (vp_in_nI (show i + 1 < L by omega) (by omega)) dL_law_971 ?_
  refine l_iV (rest := [.int x]) I ⟨hx, hb, hml, hown, hts⟩ (ct_X10_shares μ (xs (nI (i + 1)).toNatClampNeg) _ e2) (cwV 1 hts gM_X10_shares rfl rfl rfl (by decide +kernel) ⟨Nat.le_of_ble_eq_true rfl, Nat.le_of_ble_eq_true rfl⟩) (by decide) (km0 g2 Y _) rfl nd27 nd27r rfl hl.1 rfl (Nat.le_of_ble_eq_true rfl) dL_law_972 ⟨Nat.le_of_ble_eq_true rfl, Nat.le_of_ble_eq_true rfl⟩ (fun H locs I => ?_)
  refine lv_icmp_eq (tgt := 1165) hx hb dL_law_975 (by decide) (fun _ => ?_) (fun c_ => absurd rfl c_)
  exact nx σ' μ' _ _ _ hR' I hl
set_option maxHeartbeats 4000000 in
set_option maxRecDepth 100000 in
theorem lc_checked {p : Program} {l : Launch} {e : Env} {s : State} {m : MethodId} {below : List Frame} {meth : Method} {c : Code} {b L : Nat} {xs : Nat → Int32} {D : va_G} {Y : YT} {bP : Nat} {g g2 : Nat → Nat} (hL : L ≤ 3072) (C0 : lw_At p s m meth c b L xs) {σ μ : St} (hR : Rg σ μ) {H : Heap} {locs : List Loc} (I : LW D Y bP (fun q : Nat => s.heap.size ≤ q) s (wd 44 g (KC g Y) σ ++ wd 27 g2 (KM g2 Y) μ) H locs) {ls : Array Slot} {i : Nat} (hi : i + 6 ≤ L) (hl : lv_has ls 4 [(0, .ref b), (1, .ref (g 0)), (2, .ref (g2 0)), (3, .int (nI i))]) (nx : ∀ (σ μ : St) (H : Heap) (locs : List Loc) (ls : Array Slot), Rg σ μ → LW D Y bP (fun q : Nat => s.heap.size ≤ q) s (wd 44 g (KC g Y) σ ++ wd 27 g2 (KM g2 Y) μ) H locs → lv_has ls 4 [(0, .ref b), (1, .ref (g 0)), (2, .ref (g2 0)), (3, .int (nI i))] → W p l e room_1 s m #[Value.ref b] below meth c H locs 71 3182 (lw_Z below #[Value.ref b] s) (F0 m 1165 ls [])) : W p l e room_1 s m #[Value.ref b] below meth c H locs 71 3182 (lw_Z below #[Value.ref b] s) (F0 m 980 ls []) := by
  obtain ⟨hx, hb, hr, hml, hown0, hts, hX, hbl, hlocks, hgv⟩ := id C0
  have hown : s.vm.findClass RL = some m.cls := hown0
  have hbA : ¬ (fun q : Nat => s.heap.size ≤ q) b := Nat.not_le.mpr hbl
  obtain ⟨σ', μ', x, e1, e2, hR'⟩ := s_checked hR (xs (nI (i + 1)).toNatClampNeg)
  refine lv_aload_n hx hb dL_law_980 rfl (lv_at hl 1 rfl) ?_
  refine lv_aload_n hx hb dL_law_981 rfl (lv_at hl 0 rfl) ?_
  refine lv_iload_n hx hb dL_law_982 rfl (lv_at hl 3 rfl) ?_
  refine lv_iconst (v := 1) hx hb dL_law_983 (by decide) ?_
  refine lv_iadd hx hb dL_law_984 ?_
  refine top_eq (show nI (i + 1) = nI i + 1 from (nI_add i 1).symm) ?_
  refine va_sld hx hb hX hbl hbA I.2.2.2.1 (vp_in_nI (show i + 1 < L by omega) (by omega)) dL_law_985 ?_
  refine l_iV (rest := []) I ⟨hx, hb, hml, hown, hts⟩ (ct_X9_checked σ (xs (nI (i + 1)).toNatClampNeg) _ e1) (cwV 1 hts gM_X9_checked rfl rfl rfl (by decide +kernel) ⟨Nat.le_of_ble_eq_true rfl, Nat.le_of_ble_eq_true rfl⟩) (by decide) (kc0 g Y _) rfl nd44 nd44r rfl hl.1 rfl (Nat.le_of_ble_eq_true rfl) dL_law_986 ⟨Nat.le_of_ble_eq_true rfl, Nat.le_of_ble_eq_true rfl⟩ (fun H locs I => ?_)
  refine lv_aload_n hx hb dL_law_989 rfl (lv_at hl 2 rfl) ?_
  refine lv_aload_n hx hb dL_law_990 rfl (lv_at hl 0 rfl) ?_
  refine lv_iload_n hx hb dL_law_991 rfl (lv_at hl 3 rfl) ?_
  refine lv_iconst (v := 1) hx hb dL_law_992 (by decide) ?_
  refine lv_iadd hx hb dL_law_993 ?_
  refine top_eq (show nI (i + 1) = nI i + 1 from (nI_add i 1).symm) ?_
  refine va_sld hx hb hX hbl hbA I.2.2.2.1 (vp_in_nI (show i + 1 < L by omega) (by omega)) dL_law_994 ?_
  refine l_iV (rest := [.int x]) I ⟨hx, hb, hml, hown, hts⟩ (ct_X10_checked μ (xs (nI (i + 1)).toNatClampNeg) _ e2) (cwV 1 hts gM_X10_checked rfl rfl rfl (by decide +kernel) ⟨Nat.le_of_ble_eq_true rfl, Nat.le_of_ble_eq_true rfl⟩) (by decide) (km0 g2 Y _) rfl nd27 nd27r rfl hl.1 rfl (Nat.le_of_ble_eq_true rfl) dL_law_995 ⟨Nat.le_of_ble_eq_true rfl, Nat.le_of_ble_eq_true rfl⟩ (fun H locs I => ?_)
  refine lv_icmp_eq (tgt := 1165) hx hb dL_law_998 (by decide) (fun _ => ?_) (fun c_ => absurd rfl c_)
  exact nx σ' μ' _ _ _ hR' I hl
set_option maxHeartbeats 4000000 in
set_option maxRecDepth 100000 in
theorem lc_sheet {p : Program} {l : Launch} {e : Env} {s : State} {m : MethodId} {below : List Frame} {meth : Method} {c : Code} {b L : Nat} {xs : Nat → Int32} {D : va_G} {Y : YT} {bP : Nat} {g g2 : Nat → Nat} (hL : L ≤ 3072) (C0 : lw_At p s m meth c b L xs) {σ μ : St} (hR : Rg σ μ) {H : Heap} {locs : List Loc} (I : LW D Y bP (fun q : Nat => s.heap.size ≤ q) s (wd 44 g (KC g Y) σ ++ wd 27 g2 (KM g2 Y) μ) H locs) {ls : Array Slot} {i : Nat} (hi : i + 6 ≤ L) (hl : lv_has ls 4 [(0, .ref b), (1, .ref (g 0)), (2, .ref (g2 0)), (3, .int (nI i))]) (nx : ∀ (σ μ : St) (H : Heap) (locs : List Loc) (ls : Array Slot), Rg σ μ → LW D Y bP (fun q : Nat => s.heap.size ≤ q) s (wd 44 g (KC g Y) σ ++ wd 27 g2 (KM g2 Y) μ) H locs → lv_has ls 4 [(0, .ref b), (1, .ref (g 0)), (2, .ref (g2 0)), (3, .int (nI i))] → W p l e room_1 s m #[Value.ref b] below meth c H locs 71 3182 (lw_Z below #[Value.ref b] s) (F0 m 1165 ls [])) : W p l e room_1 s m #[Value.ref b] below meth c H locs 71 3182 (lw_Z below #[Value.ref b] s) (F0 m 1003 ls []) := by
  obtain ⟨hx, hb, hr, hml, hown0, hts, hX, hbl, hlocks, hgv⟩ := id C0
  have hown : s.vm.findClass RL = some m.cls := hown0
  have hbA : ¬ (fun q : Nat => s.heap.size ≤ q) b := Nat.not_le.mpr hbl
  obtain ⟨σ', μ', x, e1, e2, hR'⟩ := s_sheet hR (xs (nI (i + 1)).toNatClampNeg) (xs (nI (i + 2)).toNatClampNeg)
  refine lv_aload_n hx hb dL_law_1003 rfl (lv_at hl 1 rfl) ?_
  refine lv_aload_n hx hb dL_law_1004 rfl (lv_at hl 0 rfl) ?_
  refine lv_iload_n hx hb dL_law_1005 rfl (lv_at hl 3 rfl) ?_
  refine lv_iconst (v := 1) hx hb dL_law_1006 (by decide) ?_
  refine lv_iadd hx hb dL_law_1007 ?_
  refine top_eq (show nI (i + 1) = nI i + 1 from (nI_add i 1).symm) ?_
  refine va_sld hx hb hX hbl hbA I.2.2.2.1 (vp_in_nI (show i + 1 < L by omega) (by omega)) dL_law_1008 ?_
  refine lv_aload_n hx hb dL_law_1009 rfl (lv_at hl 0 rfl) ?_
  refine lv_iload_n hx hb dL_law_1010 rfl (lv_at hl 3 rfl) ?_
  refine lv_iconst (v := 2) hx hb dL_law_1011 (by decide) ?_
  refine lv_iadd hx hb dL_law_1012 ?_
  refine top_eq (show nI (i + 2) = nI i + 2 from (nI_add i 2).symm) ?_
  refine va_sld hx hb hX hbl hbA I.2.2.2.1 (vp_in_nI (show i + 2 < L by omega) (by omega)) dL_law_1013 ?_
  refine l_iV (rest := []) I ⟨hx, hb, hml, hown, hts⟩ (ct_X9_sheet σ (xs (nI (i + 1)).toNatClampNeg) (xs (nI (i + 2)).toNatClampNeg) _ e1) (cwV 2 hts gM_X9_sheet rfl rfl rfl (by decide +kernel) ⟨Nat.le_of_ble_eq_true rfl, Nat.le_of_ble_eq_true rfl⟩) (by decide) (kc0 g Y _) rfl nd44 nd44r rfl hl.1 rfl (Nat.le_of_ble_eq_true rfl) dL_law_1014 ⟨Nat.le_of_ble_eq_true rfl, Nat.le_of_ble_eq_true rfl⟩ (fun H locs I => ?_)
  refine lv_aload_n hx hb dL_law_1017 rfl (lv_at hl 2 rfl) ?_
  refine lv_aload_n hx hb dL_law_1018 rfl (lv_at hl 0 rfl) ?_
  refine lv_iload_n hx hb dL_law_1019 rfl (lv_at hl 3 rfl) ?_
  refine lv_iconst (v := 1) hx hb dL_law_1020 (by decide) ?_
  refine lv_iadd hx hb dL_law_1021 ?_
  refine top_eq (show nI (i + 1) = nI i + 1 from (nI_add i 1).symm) ?_
  refine va_sld hx hb hX hbl hbA I.2.2.2.1 (vp_in_nI (show i + 1 < L by omega) (by omega)) dL_law_1022 ?_
  refine lv_aload_n hx hb dL_law_1023 rfl (lv_at hl 0 rfl) ?_
  refine lv_iload_n hx hb dL_law_1024 rfl (lv_at hl 3 rfl) ?_
  refine lv_iconst (v := 2) hx hb dL_law_1025 (by decide) ?_
  refine lv_iadd hx hb dL_law_1026 ?_
  refine top_eq (show nI (i + 2) = nI i + 2 from (nI_add i 2).symm) ?_
  refine va_sld hx hb hX hbl hbA I.2.2.2.1 (vp_in_nI (show i + 2 < L by omega) (by omega)) dL_law_1027 ?_
  refine l_iV (rest := [.int x]) I ⟨hx, hb, hml, hown, hts⟩ (ct_X10_sheet μ (xs (nI (i + 1)).toNatClampNeg) (xs (nI (i + 2)).toNatClampNeg) _ e2) (cwV 2 hts gM_X10_sheet rfl rfl rfl (by decide +kernel) ⟨Nat.le_of_ble_eq_true rfl, Nat.le_of_ble_eq_true rfl⟩) (by decide) (km0 g2 Y _) rfl nd27 nd27r rfl hl.1 rfl (Nat.le_of_ble_eq_true rfl) dL_law_1028 ⟨Nat.le_of_ble_eq_true rfl, Nat.le_of_ble_eq_true rfl⟩ (fun H locs I => ?_)
  refine lv_icmp_eq (tgt := 1165) hx hb dL_law_1031 (by decide) (fun _ => ?_) (fun c_ => absurd rfl c_)
  exact nx σ' μ' _ _ _ hR' I hl
set_option maxHeartbeats 4000000 in
set_option maxRecDepth 100000 in
theorem lc_mark {p : Program} {l : Launch} {e : Env} {s : State} {m : MethodId} {below : List Frame} {meth : Method} {c : Code} {b L : Nat} {xs : Nat → Int32} {D : va_G} {Y : YT} {bP : Nat} {g g2 : Nat → Nat} (hL : L ≤ 3072) (C0 : lw_At p s m meth c b L xs) {σ μ : St} (hR : Rg σ μ) {H : Heap} {locs : List Loc} (I : LW D Y bP (fun q : Nat => s.heap.size ≤ q) s (wd 44 g (KC g Y) σ ++ wd 27 g2 (KM g2 Y) μ) H locs) {ls : Array Slot} {i : Nat} (hi : i + 6 ≤ L) (hl : lv_has ls 4 [(0, .ref b), (1, .ref (g 0)), (2, .ref (g2 0)), (3, .int (nI i))]) (nx : ∀ (σ μ : St) (H : Heap) (locs : List Loc) (ls : Array Slot), Rg σ μ → LW D Y bP (fun q : Nat => s.heap.size ≤ q) s (wd 44 g (KC g Y) σ ++ wd 27 g2 (KM g2 Y) μ) H locs → lv_has ls 4 [(0, .ref b), (1, .ref (g 0)), (2, .ref (g2 0)), (3, .int (nI i))] → W p l e room_1 s m #[Value.ref b] below meth c H locs 71 3182 (lw_Z below #[Value.ref b] s) (F0 m 1165 ls [])) : W p l e room_1 s m #[Value.ref b] below meth c H locs 71 3182 (lw_Z below #[Value.ref b] s) (F0 m 1036 ls []) := by
  obtain ⟨hx, hb, hr, hml, hown0, hts, hX, hbl, hlocks, hgv⟩ := id C0
  have hown : s.vm.findClass RL = some m.cls := hown0
  have hbA : ¬ (fun q : Nat => s.heap.size ≤ q) b := Nat.not_le.mpr hbl
  obtain ⟨σ', μ', x, e1, e2, hR'⟩ := s_mark hR (xs (nI (i + 1)).toNatClampNeg) (xs (nI (i + 2)).toNatClampNeg) (xs (nI (i + 3)).toNatClampNeg)
  refine lv_aload_n hx hb dL_law_1036 rfl (lv_at hl 1 rfl) ?_
  refine lv_aload_n hx hb dL_law_1037 rfl (lv_at hl 0 rfl) ?_
  refine lv_iload_n hx hb dL_law_1038 rfl (lv_at hl 3 rfl) ?_
  refine lv_iconst (v := 1) hx hb dL_law_1039 (by decide) ?_
  refine lv_iadd hx hb dL_law_1040 ?_
  refine top_eq (show nI (i + 1) = nI i + 1 from (nI_add i 1).symm) ?_
  refine va_sld hx hb hX hbl hbA I.2.2.2.1 (vp_in_nI (show i + 1 < L by omega) (by omega)) dL_law_1041 ?_
  refine lv_aload_n hx hb dL_law_1042 rfl (lv_at hl 0 rfl) ?_
  refine lv_iload_n hx hb dL_law_1043 rfl (lv_at hl 3 rfl) ?_
  refine lv_iconst (v := 2) hx hb dL_law_1044 (by decide) ?_
  refine lv_iadd hx hb dL_law_1045 ?_
  refine top_eq (show nI (i + 2) = nI i + 2 from (nI_add i 2).symm) ?_
  refine va_sld hx hb hX hbl hbA I.2.2.2.1 (vp_in_nI (show i + 2 < L by omega) (by omega)) dL_law_1046 ?_
  refine lv_aload_n hx hb dL_law_1047 rfl (lv_at hl 0 rfl) ?_
  refine lv_iload_n hx hb dL_law_1048 rfl (lv_at hl 3 rfl) ?_
  refine lv_iconst (v := 3) hx hb dL_law_1049 (by decide) ?_
  refine lv_iadd hx hb dL_law_1050 ?_
  refine top_eq (show nI (i + 3) = nI i + 3 from (nI_add i 3).symm) ?_
  refine va_sld hx hb hX hbl hbA I.2.2.2.1 (vp_in_nI (show i + 3 < L by omega) (by omega)) dL_law_1051 ?_
  refine l_iV (rest := []) I ⟨hx, hb, hml, hown, hts⟩ (ct_X9_mark σ (xs (nI (i + 1)).toNatClampNeg) (xs (nI (i + 2)).toNatClampNeg) (xs (nI (i + 3)).toNatClampNeg) _ e1) (cwV 3 hts gM_X9_mark rfl rfl rfl (by decide +kernel) ⟨Nat.le_of_ble_eq_true rfl, Nat.le_of_ble_eq_true rfl⟩) (by decide) (kc0 g Y _) rfl nd44 nd44r rfl hl.1 rfl (Nat.le_of_ble_eq_true rfl) dL_law_1052 ⟨Nat.le_of_ble_eq_true rfl, Nat.le_of_ble_eq_true rfl⟩ (fun H locs I => ?_)
  refine lv_aload_n hx hb dL_law_1055 rfl (lv_at hl 2 rfl) ?_
  refine lv_aload_n hx hb dL_law_1056 rfl (lv_at hl 0 rfl) ?_
  refine lv_iload_n hx hb dL_law_1057 rfl (lv_at hl 3 rfl) ?_
  refine lv_iconst (v := 1) hx hb dL_law_1058 (by decide) ?_
  refine lv_iadd hx hb dL_law_1059 ?_
  refine top_eq (show nI (i + 1) = nI i + 1 from (nI_add i 1).symm) ?_
  refine va_sld hx hb hX hbl hbA I.2.2.2.1 (vp_in_nI (show i + 1 < L by omega) (by omega)) dL_law_1060 ?_
  refine lv_aload_n hx hb dL_law_1061 rfl (lv_at hl 0 rfl) ?_
  refine lv_iload_n hx hb dL_law_1062 rfl (lv_at hl 3 rfl) ?_
  refine lv_iconst (v := 2) hx hb dL_law_1063 (by decide) ?_
  refine lv_iadd hx hb dL_law_1064 ?_
  refine top_eq (show nI (i + 2) = nI i + 2 from (nI_add i 2).symm) ?_
  refine va_sld hx hb hX hbl hbA I.2.2.2.1 (vp_in_nI (show i + 2 < L by omega) (by omega)) dL_law_1065 ?_
  refine lv_aload_n hx hb dL_law_1066 rfl (lv_at hl 0 rfl) ?_
  refine lv_iload_n hx hb dL_law_1067 rfl (lv_at hl 3 rfl) ?_
  refine lv_iconst (v := 3) hx hb dL_law_1068 (by decide) ?_
  refine lv_iadd hx hb dL_law_1069 ?_
  refine top_eq (show nI (i + 3) = nI i + 3 from (nI_add i 3).symm) ?_
  refine va_sld hx hb hX hbl hbA I.2.2.2.1 (vp_in_nI (show i + 3 < L by omega) (by omega)) dL_law_1070 ?_
  refine l_iV (rest := [.int x]) I ⟨hx, hb, hml, hown, hts⟩ (ct_X10_mark μ (xs (nI (i + 1)).toNatClampNeg) (xs (nI (i + 2)).toNatClampNeg) (xs (nI (i + 3)).toNatClampNeg) _ e2) (cwV 3 hts gM_X10_mark rfl rfl rfl (by decide +kernel) ⟨Nat.le_of_ble_eq_true rfl, Nat.le_of_ble_eq_true rfl⟩) (by decide) (km0 g2 Y _) rfl nd27 nd27r rfl hl.1 rfl (Nat.le_of_ble_eq_true rfl) dL_law_1071 ⟨Nat.le_of_ble_eq_true rfl, Nat.le_of_ble_eq_true rfl⟩ (fun H locs I => ?_)
  refine lv_icmp_eq (tgt := 1165) hx hb dL_law_1074 (by decide) (fun _ => ?_) (fun c_ => absurd rfl c_)
  exact nx σ' μ' _ _ _ hR' I hl
set_option maxHeartbeats 4000000 in
set_option maxRecDepth 100000 in
theorem lc_copy {p : Program} {l : Launch} {e : Env} {s : State} {m : MethodId} {below : List Frame} {meth : Method} {c : Code} {b L : Nat} {xs : Nat → Int32} {D : va_G} {Y : YT} {bP : Nat} {g g2 : Nat → Nat} (hL : L ≤ 3072) (C0 : lw_At p s m meth c b L xs) {σ μ : St} (hR : Rg σ μ) {H : Heap} {locs : List Loc} (I : LW D Y bP (fun q : Nat => s.heap.size ≤ q) s (wd 44 g (KC g Y) σ ++ wd 27 g2 (KM g2 Y) μ) H locs) {ls : Array Slot} {i : Nat} (hi : i + 6 ≤ L) (hl : lv_has ls 4 [(0, .ref b), (1, .ref (g 0)), (2, .ref (g2 0)), (3, .int (nI i))]) (nx : ∀ (σ μ : St) (H : Heap) (locs : List Loc) (ls : Array Slot), Rg σ μ → LW D Y bP (fun q : Nat => s.heap.size ≤ q) s (wd 44 g (KC g Y) σ ++ wd 27 g2 (KM g2 Y) μ) H locs → lv_has ls 4 [(0, .ref b), (1, .ref (g 0)), (2, .ref (g2 0)), (3, .int (nI i))] → W p l e room_1 s m #[Value.ref b] below meth c H locs 71 3182 (lw_Z below #[Value.ref b] s) (F0 m 1165 ls [])) : W p l e room_1 s m #[Value.ref b] below meth c H locs 71 3182 (lw_Z below #[Value.ref b] s) (F0 m 1079 ls []) := by
  obtain ⟨hx, hb, hr, hml, hown0, hts, hX, hbl, hlocks, hgv⟩ := id C0
  have hown : s.vm.findClass RL = some m.cls := hown0
  have hbA : ¬ (fun q : Nat => s.heap.size ≤ q) b := Nat.not_le.mpr hbl
  obtain ⟨σ', μ', x, e1, e2, hR'⟩ := s_copy hR (xs (nI (i + 1)).toNatClampNeg) (xs (nI (i + 2)).toNatClampNeg) (xs (nI (i + 3)).toNatClampNeg) (xs (nI (i + 4)).toNatClampNeg) (xs (nI (i + 5)).toNatClampNeg)
  refine lv_aload_n hx hb dL_law_1079 rfl (lv_at hl 1 rfl) ?_
  refine lv_aload_n hx hb dL_law_1080 rfl (lv_at hl 0 rfl) ?_
  refine lv_iload_n hx hb dL_law_1081 rfl (lv_at hl 3 rfl) ?_
  refine lv_iconst (v := 1) hx hb dL_law_1082 (by decide) ?_
  refine lv_iadd hx hb dL_law_1083 ?_
  refine top_eq (show nI (i + 1) = nI i + 1 from (nI_add i 1).symm) ?_
  refine va_sld hx hb hX hbl hbA I.2.2.2.1 (vp_in_nI (show i + 1 < L by omega) (by omega)) dL_law_1084 ?_
  refine lv_aload_n hx hb dL_law_1085 rfl (lv_at hl 0 rfl) ?_
  refine lv_iload_n hx hb dL_law_1086 rfl (lv_at hl 3 rfl) ?_
  refine lv_iconst (v := 2) hx hb dL_law_1087 (by decide) ?_
  refine lv_iadd hx hb dL_law_1088 ?_
  refine top_eq (show nI (i + 2) = nI i + 2 from (nI_add i 2).symm) ?_
  refine va_sld hx hb hX hbl hbA I.2.2.2.1 (vp_in_nI (show i + 2 < L by omega) (by omega)) dL_law_1089 ?_
  refine lv_aload_n hx hb dL_law_1090 rfl (lv_at hl 0 rfl) ?_
  refine lv_iload_n hx hb dL_law_1091 rfl (lv_at hl 3 rfl) ?_
  refine lv_iconst (v := 3) hx hb dL_law_1092 (by decide) ?_
  refine lv_iadd hx hb dL_law_1093 ?_
  refine top_eq (show nI (i + 3) = nI i + 3 from (nI_add i 3).symm) ?_
  refine va_sld hx hb hX hbl hbA I.2.2.2.1 (vp_in_nI (show i + 3 < L by omega) (by omega)) dL_law_1094 ?_
  refine lv_aload_n hx hb dL_law_1095 rfl (lv_at hl 0 rfl) ?_
  refine lv_iload_n hx hb dL_law_1096 rfl (lv_at hl 3 rfl) ?_
  refine lv_iconst (v := 4) hx hb dL_law_1097 (by decide) ?_
  refine lv_iadd hx hb dL_law_1098 ?_
  refine top_eq (show nI (i + 4) = nI i + 4 from (nI_add i 4).symm) ?_
  refine va_sld hx hb hX hbl hbA I.2.2.2.1 (vp_in_nI (show i + 4 < L by omega) (by omega)) dL_law_1099 ?_
  refine lv_aload_n hx hb dL_law_1100 rfl (lv_at hl 0 rfl) ?_
  refine lv_iload_n hx hb dL_law_1101 rfl (lv_at hl 3 rfl) ?_
  refine lv_iconst (v := 5) hx hb dL_law_1102 (by decide) ?_
  refine lv_iadd hx hb dL_law_1103 ?_
  refine top_eq (show nI (i + 5) = nI i + 5 from (nI_add i 5).symm) ?_
  refine va_sld hx hb hX hbl hbA I.2.2.2.1 (vp_in_nI (show i + 5 < L by omega) (by omega)) dL_law_1104 ?_
  refine l_iV (rest := []) I ⟨hx, hb, hml, hown, hts⟩ (ct_X9_copy σ (xs (nI (i + 1)).toNatClampNeg) (xs (nI (i + 2)).toNatClampNeg) (xs (nI (i + 3)).toNatClampNeg) (xs (nI (i + 4)).toNatClampNeg) (xs (nI (i + 5)).toNatClampNeg) _ e1) (cwV 5 hts gM_X9_copy rfl rfl rfl (by decide +kernel) ⟨Nat.le_of_ble_eq_true rfl, Nat.le_of_ble_eq_true rfl⟩) (by decide) (kc0 g Y _) rfl nd44 nd44r rfl hl.1 rfl (Nat.le_of_ble_eq_true rfl) dL_law_1105 ⟨Nat.le_of_ble_eq_true rfl, Nat.le_of_ble_eq_true rfl⟩ (fun H locs I => ?_)
  refine lv_aload_n hx hb dL_law_1108 rfl (lv_at hl 2 rfl) ?_
  refine lv_aload_n hx hb dL_law_1109 rfl (lv_at hl 0 rfl) ?_
  refine lv_iload_n hx hb dL_law_1110 rfl (lv_at hl 3 rfl) ?_
  refine lv_iconst (v := 1) hx hb dL_law_1111 (by decide) ?_
  refine lv_iadd hx hb dL_law_1112 ?_
  refine top_eq (show nI (i + 1) = nI i + 1 from (nI_add i 1).symm) ?_
  refine va_sld hx hb hX hbl hbA I.2.2.2.1 (vp_in_nI (show i + 1 < L by omega) (by omega)) dL_law_1113 ?_
  refine lv_aload_n hx hb dL_law_1114 rfl (lv_at hl 0 rfl) ?_
  refine lv_iload_n hx hb dL_law_1115 rfl (lv_at hl 3 rfl) ?_
  refine lv_iconst (v := 2) hx hb dL_law_1116 (by decide) ?_
  refine lv_iadd hx hb dL_law_1117 ?_
  refine top_eq (show nI (i + 2) = nI i + 2 from (nI_add i 2).symm) ?_
  refine va_sld hx hb hX hbl hbA I.2.2.2.1 (vp_in_nI (show i + 2 < L by omega) (by omega)) dL_law_1118 ?_
  refine lv_aload_n hx hb dL_law_1119 rfl (lv_at hl 0 rfl) ?_
  refine lv_iload_n hx hb dL_law_1120 rfl (lv_at hl 3 rfl) ?_
  refine lv_iconst (v := 3) hx hb dL_law_1121 (by decide) ?_
  refine lv_iadd hx hb dL_law_1122 ?_
  refine top_eq (show nI (i + 3) = nI i + 3 from (nI_add i 3).symm) ?_
  refine va_sld hx hb hX hbl hbA I.2.2.2.1 (vp_in_nI (show i + 3 < L by omega) (by omega)) dL_law_1123 ?_
  refine lv_aload_n hx hb dL_law_1124 rfl (lv_at hl 0 rfl) ?_
  refine lv_iload_n hx hb dL_law_1125 rfl (lv_at hl 3 rfl) ?_
  refine lv_iconst (v := 4) hx hb dL_law_1126 (by decide) ?_
  refine lv_iadd hx hb dL_law_1127 ?_
  refine top_eq (show nI (i + 4) = nI i + 4 from (nI_add i 4).symm) ?_
  refine va_sld hx hb hX hbl hbA I.2.2.2.1 (vp_in_nI (show i + 4 < L by omega) (by omega)) dL_law_1128 ?_
  refine lv_aload_n hx hb dL_law_1129 rfl (lv_at hl 0 rfl) ?_
  refine lv_iload_n hx hb dL_law_1130 rfl (lv_at hl 3 rfl) ?_
  refine lv_iconst (v := 5) hx hb dL_law_1131 (by decide) ?_
  refine lv_iadd hx hb dL_law_1132 ?_
  refine top_eq (show nI (i + 5) = nI i + 5 from (nI_add i 5).symm) ?_
  refine va_sld hx hb hX hbl hbA I.2.2.2.1 (vp_in_nI (show i + 5 < L by omega) (by omega)) dL_law_1133 ?_
  refine l_iV (rest := [.int x]) I ⟨hx, hb, hml, hown, hts⟩ (ct_X10_copy μ (xs (nI (i + 1)).toNatClampNeg) (xs (nI (i + 2)).toNatClampNeg) (xs (nI (i + 3)).toNatClampNeg) (xs (nI (i + 4)).toNatClampNeg) (xs (nI (i + 5)).toNatClampNeg) _ e2) (cwV 5 hts gM_X10_copy rfl rfl rfl (by decide +kernel) ⟨Nat.le_of_ble_eq_true rfl, Nat.le_of_ble_eq_true rfl⟩) (by decide) (km0 g2 Y _) rfl nd27 nd27r rfl hl.1 rfl (Nat.le_of_ble_eq_true rfl) dL_law_1134 ⟨Nat.le_of_ble_eq_true rfl, Nat.le_of_ble_eq_true rfl⟩ (fun H locs I => ?_)
  refine lv_icmp_eq (tgt := 1165) hx hb dL_law_1137 (by decide) (fun _ => ?_) (fun c_ => absurd rfl c_)
  exact nx σ' μ' _ _ _ hR' I hl
set_option maxHeartbeats 4000000 in
set_option maxRecDepth 100000 in
theorem lc_count {p : Program} {l : Launch} {e : Env} {s : State} {m : MethodId} {below : List Frame} {meth : Method} {c : Code} {b L : Nat} {xs : Nat → Int32} {D : va_G} {Y : YT} {bP : Nat} {g g2 : Nat → Nat} (hL : L ≤ 3072) (C0 : lw_At p s m meth c b L xs) {σ μ : St} (hR : Rg σ μ) {H : Heap} {locs : List Loc} (I : LW D Y bP (fun q : Nat => s.heap.size ≤ q) s (wd 44 g (KC g Y) σ ++ wd 27 g2 (KM g2 Y) μ) H locs) {ls : Array Slot} {i : Nat} (hi : i + 6 ≤ L) (hl : lv_has ls 4 [(0, .ref b), (1, .ref (g 0)), (2, .ref (g2 0)), (3, .int (nI i))]) (nx : ∀ (σ μ : St) (H : Heap) (locs : List Loc) (ls : Array Slot), Rg σ μ → LW D Y bP (fun q : Nat => s.heap.size ≤ q) s (wd 44 g (KC g Y) σ ++ wd 27 g2 (KM g2 Y) μ) H locs → lv_has ls 4 [(0, .ref b), (1, .ref (g 0)), (2, .ref (g2 0)), (3, .int (nI i))] → W p l e room_1 s m #[Value.ref b] below meth c H locs 71 3182 (lw_Z below #[Value.ref b] s) (F0 m 1165 ls [])) : W p l e room_1 s m #[Value.ref b] below meth c H locs 71 3182 (lw_Z below #[Value.ref b] s) (F0 m 1142 ls []) := by
  obtain ⟨hx, hb, hr, hml, hown0, hts, hX, hbl, hlocks, hgv⟩ := id C0
  have hown : s.vm.findClass RL = some m.cls := hown0
  have hbA : ¬ (fun q : Nat => s.heap.size ≤ q) b := Nat.not_le.mpr hbl
  obtain ⟨σ', μ', x, e1, e2, hR'⟩ := s_count hR (xs (nI (i + 1)).toNatClampNeg)
  refine lv_aload_n hx hb dL_law_1142 rfl (lv_at hl 1 rfl) ?_
  refine lv_aload_n hx hb dL_law_1143 rfl (lv_at hl 0 rfl) ?_
  refine lv_iload_n hx hb dL_law_1144 rfl (lv_at hl 3 rfl) ?_
  refine lv_iconst (v := 1) hx hb dL_law_1145 (by decide) ?_
  refine lv_iadd hx hb dL_law_1146 ?_
  refine top_eq (show nI (i + 1) = nI i + 1 from (nI_add i 1).symm) ?_
  refine va_sld hx hb hX hbl hbA I.2.2.2.1 (vp_in_nI (show i + 1 < L by omega) (by omega)) dL_law_1147 ?_
  refine l_iV (rest := []) I ⟨hx, hb, hml, hown, hts⟩ (ct_X9_count σ (xs (nI (i + 1)).toNatClampNeg) _ e1) (cwV 1 hts gM_X9_count rfl rfl rfl (by decide +kernel) ⟨Nat.le_of_ble_eq_true rfl, Nat.le_of_ble_eq_true rfl⟩) (by decide) (kc0 g Y _) rfl nd44 nd44r rfl hl.1 rfl (Nat.le_of_ble_eq_true rfl) dL_law_1148 ⟨Nat.le_of_ble_eq_true rfl, Nat.le_of_ble_eq_true rfl⟩ (fun H locs I => ?_)
  refine lv_aload_n hx hb dL_law_1151 rfl (lv_at hl 2 rfl) ?_
  refine lv_aload_n hx hb dL_law_1152 rfl (lv_at hl 0 rfl) ?_
  refine lv_iload_n hx hb dL_law_1153 rfl (lv_at hl 3 rfl) ?_
  refine lv_iconst (v := 1) hx hb dL_law_1154 (by decide) ?_
  refine lv_iadd hx hb dL_law_1155 ?_
  refine top_eq (show nI (i + 1) = nI i + 1 from (nI_add i 1).symm) ?_
  refine va_sld hx hb hX hbl hbA I.2.2.2.1 (vp_in_nI (show i + 1 < L by omega) (by omega)) dL_law_1156 ?_
  refine l_iV (rest := [.int x]) I ⟨hx, hb, hml, hown, hts⟩ (ct_X10_count μ (xs (nI (i + 1)).toNatClampNeg) _ e2) (cwV 1 hts gM_X10_count rfl rfl rfl (by decide +kernel) ⟨Nat.le_of_ble_eq_true rfl, Nat.le_of_ble_eq_true rfl⟩) (by decide) (km0 g2 Y _) rfl nd27 nd27r rfl hl.1 rfl (Nat.le_of_ble_eq_true rfl) dL_law_1157 ⟨Nat.le_of_ble_eq_true rfl, Nat.le_of_ble_eq_true rfl⟩ (fun H locs I => ?_)
  refine lv_icmp_eq (tgt := 1165) hx hb dL_law_1160 (by decide) (fun _ => ?_) (fun c_ => absurd rfl c_)
  exact nx σ' μ' _ _ _ hR' I hl
