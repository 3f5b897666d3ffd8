theorem memIn_r {big : List Cond} (ws : List Cond) (ps : List Nat) (hp : ws = ps.filterMap (fun i => big[i]?)) : ∀ w ∈ ws, w ∈ big := by
  intro w h
  rw [hp] at h
  obtain ⟨i, -, hi⟩ := List.mem_filterMap.mp h
  exact List.mem_of_getElem? hi
def wsZ0 : List Cond := [.arrayClass .int, .arrayClass .short, .arrayClass .boolean, .arrayOver (.object "ReelNight$Sheet"), .laysStatic "ReelNight" "PRICES" "[I", .initialized RX9, .initialized RX10, .classLink RL 7 RX9, .classLink RL 10 RX10, .methodLink RL 9 yX9_init, .methodLink RL 12 yX10_init, .instanceMethod yX9_init, .instanceMethod yX10_init, .instantiable RX0 7, .instantiable RX1 6, .instantiable RX2 11, .instantiable RX3 1, .instantiable RX4 3, .instantiable RX5 3, .instantiable RX6 9, .instantiable RX7 8, .instantiable RX8 2, .instantiable RX9 5, .instantiable RX10 37]
set_option maxRecDepth 40000 in
theorem inZ0 : ∀ w ∈ wsZ0, w ∈ lw_tbl := memIn_r wsZ0 [71, 306, 862, 291, 660, 33, 44, 47, 744, 49, 746, 50, 747, 208, 56, 124, 62, 285, 104, 130, 220, 292, 48, 745] (by decide +kernel)
set_option maxRecDepth 40000 in
theorem inF : ∀ w ∈ fws.map mkF, w ∈ lw_tbl := memIn_r (fws.map mkF) [73, 75, 76, 78, 79, 81, 82, 84, 85, 87, 88, 89, 110, 112, 114, 115, 137, 139, 141, 143, 145, 173, 175, 177, 180, 183, 227, 232, 235, 254, 256, 258, 259, 261, 262, 264, 267, 268, 298, 299, 309, 311, 659] (by decide +kernel)
set_option maxRecDepth 40000 in
theorem inM : ∀ w ∈ mws.map mkM, w ∈ lw_tbl := memIn_r (mws.map mkM) [57, 105, 221, 293, 603, 610, 646, 679, 728] (by decide +kernel)
theorem qR.dec {n lo hi : Nat} {a b : Nat → Int32} (h : ∀ j, j < n → a j = b j ∧ lo ≤ nv (b j) ∧ nv (b j) < hi ∧ b j = nI (nv (b j))) : qR n lo hi a b := fun j hj => ⟨(h j hj).1, nv (b j), (h j hj).2.1, (h j hj).2.2.1, (h j hj).2.2.2⟩
theorem Rg0 : Rg σC0 prM.1 := by
  refine ⟨0, 0, 0, 0, ⟨rfl, ?_, by decide⟩, ⟨rfl, ?_, by decide⟩, ⟨rfl, ?_, by decide⟩, ⟨rfl, ?_, by decide⟩, fun j hj => absurd hj (by omega), fun j hj => absurd hj (by omega), qR.dec ?_, qR.dec ?_, qR.dec ?_, ⟨qR.dec ?_, ?_⟩, fun j hj => absurd hj (by omega), ⟨?_, ?_⟩, fun j hj => absurd hj (by omega), qR.dec ?_, qR.dec ?_, ?_, ?_, ⟨?_, ?_, ?_, ⟨40, by decide, ?_⟩, ⟨20, by decide, ?_⟩⟩, ⟨Or.inl ⟨rfl, ?_⟩, ?_⟩, ⟨Or.inl ⟨rfl, ?_⟩, ?_⟩⟩
  · decide +kernel
  · decide +kernel
  · decide +kernel
  · decide +kernel
  · decide +kernel
  · decide +kernel
  · decide +kernel
  · decide +kernel
  · decide +kernel
  · decide +kernel
  · intro j _ hj
    have h : ∀ j, j < 8 → σC0 18 j = nI 0 := by decide +kernel
    exact h j hj
  · decide +kernel
  · decide +kernel
  · intro j hj
    have h : ∀ j, j < 24 → σC0 35 j = -1000000005 ∧ prM.1 12 j = -1 := by decide +kernel
    exact Or.inl (h j hj)
  · intro j hj
    have h : ∀ j, j < 24 → σC0 36 j = -1000000005 ∧ prM.1 13 j = -1 := by decide +kernel
    exact Or.inl (h j hj)
  · decide +kernel
  · decide +kernel
  · decide +kernel
  · decide +kernel
  · decide +kernel
  · decide +kernel
  · unfold qF
    decide +kernel
  · decide +kernel
  · unfold qF
    decide +kernel
set_option maxHeartbeats 4000000 in
set_option maxRecDepth 100000 in
/-- what the tables and the premises of the start give -/
theorem lw_begin {p : Program} {s : State} {m : MethodId} {meth : Method} {c : Code} {b L : Nat} {xs : Nat → Int32} (C0 : lw_At p s m meth c b L xs) : ∃ (D : va_G) (Y : YT) (bP : Nat), LW D Y bP (fun q : Nat => s.heap.size ≤ q) s [] s.heap [] := by
  obtain ⟨hx, hb, hr, hml, hown0, hts, hX, hbl, hlocks, hgv⟩ := id C0
  have hA0 : ∀ a : Nat, a < s.heap.size → ¬ (fun q : Nat => s.heap.size ≤ q) a := fun a h => Nat.not_le.mpr h
  have hw : ∀ w ∈ wsZ0, w.before #[Value.ref b] s = true := fun w h => hts w (inZ0 w h)
  obtain ⟨c1, k1, m1, i1, i2, i3⟩ := Cond.arrayClass_spec (hw (.arrayClass .int) (by decide +kernel))
  obtain ⟨c2, k2, m2, j1, j2, j3⟩ := Cond.arrayClass_spec (hw (.arrayClass .short) (by decide +kernel))
  obtain ⟨c3, k3, m3, l1, l2, l3⟩ := Cond.arrayClass_spec (hw (.arrayClass .boolean) (by decide +kernel))
  obtain ⟨m4, c4, k4, o1, -, o3, o4, o5⟩ := Cond.arrayOver_spec (hw (.arrayOver (.object "ReelNight$Sheet")) (by decide +kernel))
  obtain ⟨d0, s0, K0⟩ := u_known (C := RX0) (T := TX0) (N := 7) (n := 7) hts (fun w h => (gT_X0 w h).1) (hw (.instantiable RX0 7) (by decide +kernel))
  obtain ⟨d1, s1, K1⟩ := u_known (C := RX1) (T := TX1) (N := 6) (n := 6) hts (fun w h => (gT_X1 w h).1) (hw (.instantiable RX1 6) (by decide +kernel))
  obtain ⟨d2, s2, K2⟩ := u_known (C := RX2) (T := TX2) (N := 11) (n := 11) hts (fun w h => (gT_X2 w h).1) (hw (.instantiable RX2 11) (by decide +kernel))
  obtain ⟨d3, s3, K3⟩ := u_known (C := RX3) (T := TX3) (N := 1) (n := 1) hts (fun w h => (gT_X3 w h).1) (hw (.instantiable RX3 1) (by decide +kernel))
  obtain ⟨d4, s4, K4⟩ := u_known (C := RX4) (T := TX4) (N := 3) (n := 3) hts (fun w h => (gT_X4 w h).1) (hw (.instantiable RX4 3) (by decide +kernel))
  obtain ⟨d5, s5, K5⟩ := u_known (C := RX5) (T := TX5) (N := 3) (n := 3) hts (fun w h => (gT_X5 w h).1) (hw (.instantiable RX5 3) (by decide +kernel))
  obtain ⟨d6, s6, K6⟩ := u_known (C := RX6) (T := TX6) (N := 9) (n := 9) hts (fun w h => (gT_X6 w h).1) (hw (.instantiable RX6 9) (by decide +kernel))
  obtain ⟨d7, s7, K7⟩ := u_known (C := RX7) (T := TX7) (N := 8) (n := 8) hts (fun w h => (gT_X7 w h).1) (hw (.instantiable RX7 8) (by decide +kernel))
  obtain ⟨d8, s8, K8⟩ := u_known (C := RX8) (T := TX8) (N := 2) (n := 2) hts (fun w h => (gT_X8 w h).1) (hw (.instantiable RX8 2) (by decide +kernel))
  obtain ⟨d9, s9, K9⟩ := u_known (C := RX9) (T := TX9) (N := 5) (n := 5) hts (fun w h => (gT_X9 w h).1) (hw (.instantiable RX9 5) (by decide +kernel))
  obtain ⟨d10, s10, K10⟩ := u_known (C := RX10) (T := TX10) (N := 37) (n := 37) hts (fun w h => (gT_X10 w h).1) (hw (.instantiable RX10 37) (by decide +kernel))
  obtain ⟨D, hKc⟩ : ∃ D : va_G, ∀ (k : Nat) (q : vw_C), clL[k]? = some q → u_Kn s q.1 q.2.1 q.2.2 (D.1 k) (D.2 k) := by
    refine ⟨(fun k => match k with | 0 => d0 | 1 => d1 | 2 => d2 | 3 => d3 | 4 => d4 | 5 => d5 | 6 => d6 | 7 => d7 | 8 => d8 | 9 => d9 | _ => d10, fun k => match k with | 0 => s0 | 1 => s1 | 2 => s2 | 3 => s3 | 4 => s4 | 5 => s5 | 6 => s6 | 7 => s7 | 8 => s8 | 9 => s9 | _ => s10), ?_⟩
    intro k q hq
    match k, hq with
    | 0, hq => cases hq; exact K0
    | 1, hq => cases hq; exact K1
    | 2, hq => cases hq; exact K2
    | 3, hq => cases hq; exact K3
    | 4, hq => cases hq; exact K4
    | 5, hq => cases hq; exact K5
    | 6, hq => cases hq; exact K6
    | 7, hq => cases hq; exact K7
    | 8, hq => cases hq; exact K8
    | 9, hq => cases hq; exact K9
    | 10, hq => cases hq; exact K10
    | k + 11, hq => simp [clL] at hq
  have hK : va_K D clL (tyL (c1, c2, c3, c4)) s := by
    refine ⟨hKc, fun k q h => ?_⟩
    match k, h with
    | 0, h => cases h; exact ⟨fun N z => ⟨(fun k h => by cases h), k1, i2, m1, i3⟩, i1⟩
    | 1, h => cases h; exact ⟨fun N z => ⟨(fun k h => by cases h), k2, j2, m2, j3⟩, j1⟩
    | 2, h => cases h; exact ⟨fun N z => ⟨(fun k h => by cases h), k3, l2, m3, l3⟩, l1⟩
    | 3, h => cases h; exact ⟨fun N z => ⟨(fun k h => by cases h), k4, o3, m4, o4⟩, k4, m4, o3, o4, o1, o5⟩
    | k + 4, h => simp [tyL] at h
  have g := flat_of_before _ hgv
  have e0 : (Cond.eq (.elem (.static "ReelNight" "PRICES" "[I") (.int 0)) (.int 3)).before #[Value.ref b] s = true := g _ (by decide +kernel)
  have e1 : (Cond.eq (.elem (.static "ReelNight" "PRICES" "[I") (.int 1)) (.int 5)).before #[Value.ref b] s = true := g _ (by decide +kernel)
  have e2 : (Cond.eq (.elem (.static "ReelNight" "PRICES" "[I") (.int 2)) (.int 2)).before #[Value.ref b] s = true := g _ (by decide +kernel)
  have e3 : (Cond.eq (.elem (.static "ReelNight" "PRICES" "[I") (.int 3)) (.int 8)).before #[Value.ref b] s = true := g _ (by decide +kernel)
  have eL : (Cond.eq (.length (.static "ReelNight" "PRICES" "[I")) (.int 4)).before #[Value.ref b] s = true := g _ (by decide +kernel)
  have eA : (Cond.arrayOf (.static "ReelNight" "PRICES" "[I") .int).before #[Value.ref b] s = true := g _ (by decide +kernel)
  obtain ⟨bP, hbp, hT⟩ := va_Tof (tm := .static "ReelNight" "PRICES" "[I") (ty := .int) (N := 4) (f := fun j => .int (prc j)) (A := fun q : Nat => s.heap.size ≤ q) (by decide) eA (va_eqt eL) (fun j hj => by
    match j, hj with
    | 0, _ => exact va_eqt e0
    | 1, _ => exact va_eqt e1
    | 2, _ => exact va_eqt e2
    | 3, _ => exact va_eqt e3
    | j + 4, hj => exact absurd hj (by omega)) hA0
  have hZ := va_Zref (hw (.laysStatic "ReelNight" "PRICES" "[I") (by decide +kernel)) (hw (.initialized RX9) (by decide +kernel)) hbp hA0
  have hN : NW s := ⟨fun q hq => va_Nw.of rfl (hts _ (inF (mkF q) (List.mem_map_of_mem hq))), fun q hq => va_Nw.of rfl (hts _ (inM (mkM q) (List.mem_map_of_mem hq)))⟩
  exact ⟨D, (c1, c2, c3, c4), bP, hK, fun k q h => by simp at h, ⟨fun i j p q h => by simp at h, fun k q h => by simp at h⟩, va_S.rf, fun _ h => h, hN, ⟨hZ, hT⟩, va_AO.of (hw (.arrayOver (.object "ReelNight$Sheet")) (by decide +kernel))⟩
set_option maxHeartbeats 4000000 in
set_option maxRecDepth 100000 in
/-- THE LAW, from its entry -/
theorem whole_start {p : Program} {e : Env} {s : State} {m : MethodId} {below : List Frame} {meth : Method} {c : Code} (l : Launch) {b L : Nat} {xs : Nat → Int32} (hL : L ≤ 3072) (C0 : lw_At p s m meth c b L xs) : W p l e room_1 s m #[Value.ref b] below meth c s.heap [] 0 0 (lw_Z below #[Value.ref b] s) (entryFrame m ([Value.ref b] : List Value).toArray 4) := by
  obtain ⟨hx, hb, hr, hml, hown0, hts, hX, hbl, hlocks, hgv⟩ := id C0
  have hown : s.vm.findClass RL = some m.cls := hown0
  have hw : ∀ w ∈ wsZ0, w.before #[Value.ref b] s = true := fun w h => hts w (inZ0 w h)
  obtain ⟨D, Y, bP, I⟩ := lw_begin C0
  have hl := lv_entry ([.ref b]) (n := 4) (Nat.le_of_ble_eq_true rfl)
  rw [lg_entry_eq]
  generalize (lg_sl ([.ref b]) ++ List.replicate (4 - (lg_sl ([.ref b])).length) Slot.unset).toArray = ls at hl ⊢
  have hl : lv_has ls 4 [(0, .ref b)] := hl
  refine n_new (ci := 9) (fs := [.null, .null, .null, .null, .null]) I hx hb hts (fun w h => (gT_X9 w h).1) tyX9 tyX9_ok hown (hw (.classLink RL 7 RX9) (by decide +kernel)) (hw (.instantiable RX9 5) (by decide +kernel)) (hw (.initialized RX9) (by decide +kernel)) rfl (fun j hj => by rcases (show j = 0 ∨ j = 1 ∨ j = 2 ∨ j = 3 ∨ j = 4 by omega) with rfl | rfl | rfl | rfl | rfl <;> rfl) (Nat.le_of_ble_eq_true rfl) (Nat.le_of_ble_eq_true rfl) dL_law_0 (fun q1 H J => ?_)
  refine W.widen (k := 1) (n := 5) (by omega) (by omega) ?_
  clear I
  have I : LW D Y bP (fun q : Nat => s.heap.size ≤ q) s [(q1, .inr (9, [.null, .null, .null, .null, .null]))] H [] := J
  clear J
  refine lv_dup hx hb dL_law_3 rfl ?_
  refine n_callI (rest := [.ref q1]) (wr := []) I ⟨hx, hb, hml, hown, hts⟩ (ct_X9_init q1) (cwI 0 hts (goodIn_tr gT_law ggL_law_X9_init) rfl rfl rfl (hw (.initialized RX9) (by decide +kernel)) (hw (.methodLink RL 9 yX9_init) (by decide +kernel)) (hw (.instanceMethod yX9_init) (by decide +kernel)) rfl (by decide +kernel) ⟨Nat.le_of_ble_eq_true rfl, Nat.le_of_ble_eq_true rfl⟩) [0] [] rfl rfl rfl rfl (by decide) rfl hl.1 rfl (Nat.le_of_ble_eq_true rfl) dL_law_4 ⟨Nat.le_of_ble_eq_true rfl, Nat.le_of_ble_eq_true rfl⟩ (fun u H locs hu J => ?_)
  refine W.widen (k := 44) (n := 903) (by omega) (by omega) ?_
  clear I
  have I : LW D Y bP (fun q : Nat => s.heap.size ≤ q) s (wd 44 u (KC u Y) σC0) H locs := J
  clear J
  refine lv_astore_n (lv' := [(1, .ref q1), (0, .ref b)]) hx hb dL_law_7 rfl hl (by decide) rfl (fun ls hl => ?_)
  refine n_new (ci := 10) (fs := [.int 0, .null, .null, .null, .null, .null, .null, .int 0, .null, .null, .int 0, .null, .null, .int 0, .null, .null, .null, .int 0, .int 0, .int 0, .null, .null, .null, .null, .null, .null, .null, .null, .null, .null, .null, .null, .int 0, .int 0, .int 0, .int 0, .null]) I hx hb hts (fun w h => (gT_X10 w h).1) tyX10 tyX10_ok hown (hw (.classLink RL 10 RX10) (by decide +kernel)) (hw (.instantiable RX10 37) (by decide +kernel)) (hw (.initialized RX10) (by decide +kernel)) rfl (by decide +kernel) (Nat.le_of_ble_eq_true rfl) (Nat.le_of_ble_eq_true rfl) dL_law_8 (fun q2 H J => ?_)
  refine W.widen (k := 45) (n := 940) (by omega) (by omega) ?_
  clear I
  have I : LW D Y bP (fun q : Nat => s.heap.size ≤ q) s (wd 44 u (KC u Y) σC0 ++ [(q2, .inr (10, [.int 0, .null, .null, .null, .null, .null, .null, .int 0, .null, .null, .int 0, .null, .null, .int 0, .null, .null, .null, .int 0, .int 0, .int 0, .null, .null, .null, .null, .null, .null, .null, .null, .null, .null, .null, .null, .int 0, .int 0, .int 0, .int 0, .null]))]) H locs := J
  clear J
  refine lv_dup hx hb dL_law_11 rfl ?_
  have hC : [44].map (fun i => (wd 44 u (KC u Y) σC0 ++ [(q2, .inr (10, [.int 0, .null, .null, .null, .null, .null, .null, .int 0, .null, .null, .int 0, .null, .null, .int 0, .null, .null, .null, .int 0, .int 0, .int 0, .null, .null, .null, .null, .null, .null, .null, .null, .null, .null, .null, .null, .int 0, .int 0, .int 0, .int 0, .null]))])[i]?) = ([(q2, .inr (10, [.int 0, .null, .null, .null, .null, .null, .null, .int 0, .null, .null, .int 0, .null, .null, .int 0, .null, .null, .null, .int 0, .int 0, .int 0, .null, .null, .null, .null, .null, .null, .null, .null, .null, .null, .null, .null, .int 0, .int 0, .int 0, .int 0, .null]))] : va_W).map some := by
    have h := app_r (wd 44 u (KC u Y) σC0) [(q2, .inr (10, [.int 0, .null, .null, .null, .null, .null, .null, .int 0, .null, .null, .int 0, .null, .null, .int 0, .null, .null, .null, .int 0, .int 0, .int 0, .null, .null, .null, .null, .null, .null, .null, .null, .null, .null, .null, .null, .int 0, .int 0, .int 0, .int 0, .null]))]
    rw [wd_len] at h
    exact h
  have hRr : (List.range 44).map (fun i => (wd 44 u (KC u Y) σC0 ++ [(q2, .inr (10, [.int 0, .null, .null, .null, .null, .null, .null, .int 0, .null, .null, .int 0, .null, .null, .int 0, .null, .null, .null, .int 0, .int 0, .int 0, .null, .null, .null, .null, .null, .null, .null, .null, .null, .null, .null, .null, .int 0, .int 0, .int 0, .int 0, .null]))])[i]?) = (wd 44 u (KC u Y) σC0).map some := by
    have h := app_l (wd 44 u (KC u Y) σC0) [(q2, .inr (10, [.int 0, .null, .null, .null, .null, .null, .null, .int 0, .null, .null, .int 0, .null, .null, .int 0, .null, .null, .null, .int 0, .int 0, .int 0, .null, .null, .null, .null, .null, .null, .null, .null, .null, .null, .null, .null, .int 0, .int 0, .int 0, .int 0, .null]))]
    rw [wd_len] at h
    exact h
  refine n_callI (rest := [.ref q2]) (wr := wd 44 u (KC u Y) σC0) I ⟨hx, hb, hml, hown, hts⟩ (ct_X10_init q2 prM prM_ok) (cwI 0 hts (goodIn_tr gT_law ggL_law_X10_init) rfl rfl rfl (hw (.initialized RX10) (by decide +kernel)) (hw (.methodLink RL 12 yX10_init) (by decide +kernel)) (hw (.instanceMethod yX10_init) (by decide +kernel)) rfl (by decide +kernel) ⟨Nat.le_of_ble_eq_true rfl, Nat.le_of_ble_eq_true rfl⟩) [44] (List.range 44) hC hRr rfl nd44 (by decide) rfl hl.1 rfl (Nat.le_of_ble_eq_true rfl) dL_law_12 ⟨Nat.le_of_ble_eq_true rfl, Nat.le_of_ble_eq_true rfl⟩ (fun u2 H locs hu2 J => ?_)
  refine W.widen (k := 71) (n := 3182) (by omega) (by omega) ?_
  refine lv_astore_n (lv' := [(2, .ref q2), (1, .ref q1), (0, .ref b)]) hx hb dL_law_15 rfl hl (by decide) rfl (fun ls hl => ?_)
  refine lv_iconst (v := 0) hx hb dL_law_16 (by decide) ?_
  refine lv_istore_n (lv' := [(3, .int 0), (2, .ref q2), (1, .ref q1), (0, .ref b)]) hx hb dL_law_17 rfl hl (by decide) rfl (fun ls hl => ?_)
  subst hu hu2
  exact law_loop hL C0 (L + 1) 0 σC0 prM.1 H locs ls (by omega) (by omega) Rg0 J (lv_sub hl [3, 2, 1, 0] rfl)
