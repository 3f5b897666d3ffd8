set_option maxHeartbeats 4000000 in
set_option maxRecDepth 100000 in
theorem law_loop {p : Program} {l : Launch} {e : Env} {s : State} {m : MethodId} {below : List Frame} {meth : Method} {c : Code} {b L : Nat} {xs : Nat → Int32} {D : va_G} {Y : YT} {bP : Nat} {g g2 : Nat → Nat} (hL : L ≤ 3072) (C0 : lw_At p s m meth c b L xs) : ∀ (n i : Nat) (σ μ : St) (H : Heap) (locs : List Loc) (ls : Array Slot), L + 1 ≤ i + n → i ≤ L + 6 → Rg σ μ → LW D Y bP (fun q : Nat => s.heap.size ≤ q) s (wd 44 g (KC g Y) σ ++ wd 27 g2 (KM g2 Y) μ) H locs → lv_has ls 4 [(0, .ref b), (1, .ref (g 0)), (2, .ref (g2 0)), (3, .int (nI i))] → W p l e room_1 s m #[Value.ref b] below meth c H locs 71 3182 (lw_Z below #[Value.ref b] s) (F0 m 18 ls []) := by
  obtain ⟨hx, hb, hr, hml, hown0, hts, hX, hbl, hlocks, hgv⟩ := id C0
  have hown : s.vm.findClass RL = some m.cls := hown0
  have hbA : ¬ (fun q : Nat => s.heap.size ≤ q) b := Nat.not_le.mpr hbl
  have ex : ∀ (i : Nat) (H : Heap) (locs : List Loc) (ls : Array Slot), va_S (fun q : Nat => s.heap.size ≤ q) s.heap H locs → W p l e room_1 s m #[Value.ref b] below meth c H locs 71 3182 (lw_Z below #[Value.ref b] s) (F0 m 1171 ls []) := by
    intro i H locs ls hS
    refine lv_iconst (v := 1) hx hb dL_law_1171 (by decide) ?_
    refine va_forget (fun q hq => hS.2.2 q hq) ?_
    refine W.widen (k := 600000) (n := 7302250) (by omega) (by omega) ?_
    exact lw_ret hx hb hr hlocks dL_law_1172
  intro n
  induction n with
  | zero =>
    intro i σ μ H locs ls h1 h2 hR I hl
    refine lv_iload_n hx hb dL_law_18 rfl (lv_at hl 3 rfl) ?_
    refine lv_aload_n hx hb dL_law_19 rfl (lv_at hl 0 rfl) ?_
    refine va_slen hx hb hX hbl hbA I.2.2.2.1 dL_law_20 ?_
    refine lv_bipush (v := 6) hx hb dL_law_21 (by decide) ?_
    refine lv_isub hx hb dL_law_23 ?_
    refine lv_icmp_gt (tgt := 1171) hx hb dL_law_24 (by decide) (fun c_ => ex i _ _ _ I.2.2.2.1) (fun c_ => ?_)
    exfalso
    apply c_
    show nI L - nI 6 < nI i
    rw [lt_toInt, pk_sub_toInt (by omega) (by decide), nI_toInt (by omega)]
    omega
  | succ n ih =>
    intro i σ μ H locs ls h1 h2 hR I hl
    refine lv_iload_n hx hb dL_law_18 rfl (lv_at hl 3 rfl) ?_
    refine lv_aload_n hx hb dL_law_19 rfl (lv_at hl 0 rfl) ?_
    refine va_slen hx hb hX hbl hbA I.2.2.2.1 dL_law_20 ?_
    refine lv_bipush (v := 6) hx hb dL_law_21 (by decide) ?_
    refine lv_isub hx hb dL_law_23 ?_
    refine lv_icmp_gt (tgt := 1171) hx hb dL_law_24 (by decide) (fun c_ => ex i _ _ _ I.2.2.2.1) (fun c_ => ?_)
    have hi : i + 6 ≤ L := by
      rcases Nat.lt_or_ge L (i + 6) with q | q
      · exfalso
        apply c_
        show nI L - nI 6 < nI i
        rw [lt_toInt, pk_sub_toInt (by omega) (by decide), nI_toInt (by omega)]
        omega
      · exact q
    have nx : ∀ (σ μ : St) (H : Heap) (locs : List Loc) (ls : Array Slot), Rg σ μ → LW D Y bP (fun q : Nat => s.heap.size ≤ q) s (wd 44 g (KC g Y) σ ++ wd 27 g2 (KM g2 Y) μ) H locs → lv_has ls 4 [(0, .ref b), (1, .ref (g 0)), (2, .ref (g2 0)), (3, .int (nI i))] → W p l e room_1 s m #[Value.ref b] below meth c H locs 71 3182 (lw_Z below #[Value.ref b] s) (F0 m 1165 ls []) := by
      intro σ μ H locs ls hR I hl
      refine lv_iinc (v := nI (i + 6)) (lv' := [(3, .int (nI (i + 6))), (0, .ref b), (1, .ref (g 0)), (2, .ref (g2 0))]) hx hb dL_law_1165 hl (k := 3) rfl (nI_add i 6) (by decide) rfl (fun ls hl => ?_)
      refine lv_goto (tgt := 18) hx hb dL_law_1168 (by decide) ?_
      exact ih (i + 6) σ μ H locs ls (by omega) (by omega) hR I (lv_sub hl [1, 2, 3, 0] rfl)
    refine lv_aload_n hx hb dL_law_27 rfl (lv_at hl 0 rfl) ?_
    refine lv_iload_n hx hb dL_law_28 rfl (lv_at hl 3 rfl) ?_
    refine va_sld hx hb hX hbl hbA I.2.2.2.1 (vp_in_nI (show i < L by omega) (by omega)) dL_law_29 ?_
    refine lv_bipush (v := 31) hx hb dL_law_30 (by decide) ?_
    refine lv_iand hx hb dL_law_32 ?_
    obtain ⟨j, hj, ej⟩ := pk_andE (xs (nI i).toNatClampNeg) (m := 31) 5 (by decide)
    refine top_eq ej.symm ?_
    rcases (show j = 0 ∨ j = 1 ∨ j = 2 ∨ j = 3 ∨ j = 4 ∨ j = 5 ∨ j = 6 ∨ j = 7 ∨ j = 8 ∨ j = 9 ∨ j = 10 ∨ j = 11 ∨ j = 12 ∨ j = 13 ∨ j = 14 ∨ j = 15 ∨ j = 16 ∨ j = 17 ∨ j = 18 ∨ j = 19 ∨ j = 20 ∨ j = 21 ∨ j = 22 ∨ j = 23 ∨ j = 24 ∨ j = 25 ∨ j = 26 ∨ j = 27 ∨ j = 28 ∨ j = 29 ∨ j = 30 ∨ j = 31 by omega) with rfl | rfl | rfl | rfl | rfl | rfl | rfl | rfl | rfl | rfl | rfl | rfl | rfl | rfl | rfl | rfl | rfl | rfl | rfl | rfl | rfl | rfl | rfl | rfl | rfl | rfl | rfl | rfl | rfl | rfl | rfl | rfl
    · refine lv_tableIn (tgt := 172) hx hb dL_law_33 (by decide) (by decide) (off := 139) (by rfl) (by decide) ?_
      exact lc_house hL C0 hR I hi hl nx
    · refine lv_tableIn (tgt := 205) hx hb dL_law_33 (by decide) (by decide) (off := 172) (by rfl) (by decide) ?_
      exact lc_isOf hL C0 hR I hi hl nx
    · refine lv_tableIn (tgt := 238) hx hb dL_law_33 (by decide) (by decide) (off := 205) (by rfl) (by decide) ?_
      exact lc_way hL C0 hR I hi hl nx
    · refine lv_tableIn (tgt := 281) hx hb dL_law_33 (by decide) (by decide) (off := 248) (by rfl) (by decide) ?_
      exact lc_slack hL C0 hR I hi hl nx
    · refine lv_tableIn (tgt := 314) hx hb dL_law_33 (by decide) (by decide) (off := 281) (by rfl) (by decide) ?_
      exact lc_reel hL C0 hR I hi hl nx
    · refine lv_tableIn (tgt := 337) hx hb dL_law_33 (by decide) (by decide) (off := 304) (by rfl) (by decide) ?_
      exact lc_mend hL C0 hR I hi hl nx
    · refine lv_tableIn (tgt := 370) hx hb dL_law_33 (by decide) (by decide) (off := 337) (by rfl) (by decide) ?_
      exact lc_told hL C0 hR I hi hl nx
    · refine lv_tableIn (tgt := 403) hx hb dL_law_33 (by decide) (by decide) (off := 370) (by rfl) (by decide) ?_
      exact lc_order hL C0 hR I hi hl nx
    · refine lv_tableIn (tgt := 426) hx hb dL_law_33 (by decide) (by decide) (off := 393) (by rfl) (by decide) ?_
      exact lc_start hL C0 hR I hi hl nx
    · refine lv_tableIn (tgt := 449) hx hb dL_law_33 (by decide) (by decide) (off := 416) (by rfl) (by decide) ?_
      exact lc_ride hL C0 hR I hi hl nx
    · refine lv_tableIn (tgt := 482) hx hb dL_law_33 (by decide) (by decide) (off := 449) (by rfl) (by decide) ?_
      exact lc_riders hL C0 hR I hi hl nx
    · refine lv_tableIn (tgt := 495) hx hb dL_law_33 (by decide) (by decide) (off := 462) (by rfl) (by decide) ?_
      exact lc_late hL C0 hR I hi hl nx
    · refine lv_tableIn (tgt := 528) hx hb dL_law_33 (by decide) (by decide) (off := 495) (by rfl) (by decide) ?_
      exact lc_begins hL C0 hR I hi hl nx
    · refine lv_tableIn (tgt := 561) hx hb dL_law_33 (by decide) (by decide) (off := 528) (by rfl) (by decide) ?_
      exact lc_waited hL C0 hR I hi hl nx
    · refine lv_tableIn (tgt := 584) hx hb dL_law_33 (by decide) (by decide) (off := 551) (by rfl) (by decide) ?_
      exact lc_cause hL C0 hR I hi hl nx
    · refine lv_tableIn (tgt := 617) hx hb dL_law_33 (by decide) (by decide) (off := 584) (by rfl) (by decide) ?_
      exact lc_where hL C0 hR I hi hl nx
    · refine lv_tableIn (tgt := 650) hx hb dL_law_33 (by decide) (by decide) (off := 617) (by rfl) (by decide) ?_
      exact lc_film hL C0 hR I hi hl nx
    · refine lv_tableIn (tgt := 663) hx hb dL_law_33 (by decide) (by decide) (off := 630) (by rfl) (by decide) ?_
      exact lc_worth hL C0 hR I hi hl nx
    · refine lv_tableIn (tgt := 706) hx hb dL_law_33 (by decide) (by decide) (off := 673) (by rfl) (by decide) ?_
      exact lc_bar hL C0 hR I hi hl nx
    · refine lv_tableIn (tgt := 749) hx hb dL_law_33 (by decide) (by decide) (off := 716) (by rfl) (by decide) ?_
      exact lc_pin hL C0 hR I hi hl nx
    · refine lv_tableIn (tgt := 792) hx hb dL_law_33 (by decide) (by decide) (off := 759) (by rfl) (by decide) ?_
      exact lc_plan hL C0 hR I hi hl nx
    · refine lv_tableIn (tgt := 825) hx hb dL_law_33 (by decide) (by decide) (off := 792) (by rfl) (by decide) ?_
      exact lc_planned hL C0 hR I hi hl nx
    · refine lv_tableIn (tgt := 858) hx hb dL_law_33 (by decide) (by decide) (off := 825) (by rfl) (by decide) ?_
      exact lc_rule hL C0 hR I hi hl nx
    · refine lv_tableIn (tgt := 891) hx hb dL_law_33 (by decide) (by decide) (off := 858) (by rfl) (by decide) ?_
      exact lc_least hL C0 hR I hi hl nx
    · refine lv_tableIn (tgt := 924) hx hb dL_law_33 (by decide) (by decide) (off := 891) (by rfl) (by decide) ?_
      exact lc_share hL C0 hR I hi hl nx
    · refine lv_tableIn (tgt := 957) hx hb dL_law_33 (by decide) (by decide) (off := 924) (by rfl) (by decide) ?_
      exact lc_shares hL C0 hR I hi hl nx
    · refine lv_tableIn (tgt := 980) hx hb dL_law_33 (by decide) (by decide) (off := 947) (by rfl) (by decide) ?_
      exact lc_checked hL C0 hR I hi hl nx
    · refine lv_tableIn (tgt := 1003) hx hb dL_law_33 (by decide) (by decide) (off := 970) (by rfl) (by decide) ?_
      exact lc_sheet hL C0 hR I hi hl nx
    · refine lv_tableIn (tgt := 1036) hx hb dL_law_33 (by decide) (by decide) (off := 1003) (by rfl) (by decide) ?_
      exact lc_mark hL C0 hR I hi hl nx
    · refine lv_tableIn (tgt := 1079) hx hb dL_law_33 (by decide) (by decide) (off := 1046) (by rfl) (by decide) ?_
      exact lc_copy hL C0 hR I hi hl nx
    · refine lv_tableIn (tgt := 1142) hx hb dL_law_33 (by decide) (by decide) (off := 1109) (by rfl) (by decide) ?_
      exact lc_count hL C0 hR I hi hl nx
    · refine lv_tableOut (tgt := 1165) hx hb dL_law_33 (Or.inr (by decide)) (by decide) ?_
      exact nx σ μ _ _ _ hR I hl
