/-! CONTRACTS of Graph.draw, isOuter -/
theorem zva_bd {v n3 : Nat} {L3 : List Nat} (hL : ∀ i, i < 3 * n3 → L3.getD i 0 < 2 * v) {d : Nat} (hd : d < 2 * (v + 6 * n3)) : zva v L3 d < 2 * v + 3 * n3 := by
  by_cases h : d < 2 * v
  · rw [zva_lo h]; omega
  · have e : d = 2 * (v + 6 * ((d - 2 * v) / 12)) + (d - 2 * v) % 12 := by omega
    have hk : (d - 2 * v) % 12 < 12 := Nat.mod_lt _ (by decide)
    have hj : (d - 2 * v) / 12 < n3 := by omega
    rw [e, zva_hi v L3 _ _ hk]
    generalize (d - 2 * v) / 12 = j at *
    generalize (d - 2 * v) % 12 = k at *
    have hl := hL (3 * j + (k / 2 - 3)) (by omega)
    repeat' split
    all_goals omega
theorem iX2_draw_X2 : ∀ w ∈ u_ws RX2 TX2 9, w ∈ wsX2_draw := by decide +kernel
theorem fX2_draw_22 : Cond.fieldLink RX2 22 "TourChain$Graph" "formula" "LTourChain$Formula;" ∈ wsX2_draw := by decide +kernel
theorem iX2_draw_X0 : ∀ w ∈ u_ws RX0 TX0 9, w ∈ wsX2_draw := by decide +kernel
theorem fX2_draw_30 : Cond.fieldLink RX2 30 "TourChain$Formula" "variables" "I" ∈ wsX2_draw := by decide +kernel
theorem yX2_draw_X0_threes : yX0_threes.cls = RX0 ∧ yX0_threes.cls ≠ "java/lang/invoke/MethodHandle" ∧ yX0_threes.cls ≠ "java/lang/invoke/VarHandle" ∧ (parseMethodDescriptor yX0_threes.desc).map (fun d => d.parameters.length) = some 0 := by decide +kernel
theorem fX2_draw_39 : Cond.fieldLink RX2 39 "TourChain$Graph" "vertices" "I" ∈ wsX2_draw := by decide +kernel
theorem fX2_draw_26 : Cond.fieldLink RX2 26 "TourChain$Graph" "edges" "I" ∈ wsX2_draw := by decide +kernel
theorem fX2_draw_42 : Cond.fieldLink RX2 42 "TourChain$Graph" "selectors" "I" ∈ wsX2_draw := by decide +kernel
theorem fX2_draw_45 : Cond.fieldLink RX2 45 "TourChain$Graph" "cities" "I" ∈ wsX2_draw := by decide +kernel
theorem fX2_draw_7 : Cond.fieldLink RX2 7 "TourChain$Graph" "vertexAt" "[I" ∈ wsX2_draw := by decide +kernel
theorem nX2_draw_X7_roomFor : Cond.methodLinkNest RX2 48 yX7_roomFor RX7 ∈ zNW := by decide +kernel
theorem mX2_draw_stX7_roomFor : Cond.static yX7_roomFor ∈ wsX2_draw := by decide +kernel
theorem mX2_draw_iyX7_roomFor : Cond.initialized yX7_roomFor.cls ∈ wsX2_draw := by decide +kernel
theorem yX2_draw_X7_roomFor : yX7_roomFor.cls ≠ "java/lang/invoke/MethodHandle" ∧ yX7_roomFor.cls ≠ "java/lang/invoke/VarHandle" ∧ (parseMethodDescriptor yX7_roomFor.desc).map (fun d => d.parameters.length) = some 2 := by decide +kernel
theorem yX2_draw_X2_sortSides : yX2_sortSides.cls = RX2 ∧ yX2_sortSides.cls ≠ "java/lang/invoke/MethodHandle" ∧ yX2_sortSides.cls ≠ "java/lang/invoke/VarHandle" ∧ (parseMethodDescriptor yX2_sortSides.desc).map (fun d => d.parameters.length) = some 0 := by decide +kernel
theorem yX2_draw_X2_drawThree : yX2_drawThree.cls = RX2 ∧ yX2_drawThree.cls ≠ "java/lang/invoke/MethodHandle" ∧ yX2_drawThree.cls ≠ "java/lang/invoke/VarHandle" ∧ (parseMethodDescriptor yX2_drawThree.desc).map (fun d => d.parameters.length) = some 3 := by decide +kernel
theorem nX2_draw_X7_yes : Cond.methodLinkNest RX2 54 yX7_yes RX7 ∈ zNW := by decide +kernel
theorem mX2_draw_stX7_yes : Cond.static yX7_yes ∈ wsX2_draw := by decide +kernel
theorem mX2_draw_iyX7_yes : Cond.initialized yX7_yes.cls ∈ wsX2_draw := by decide +kernel
theorem yX2_draw_X7_yes : yX7_yes.cls ≠ "java/lang/invoke/MethodHandle" ∧ yX7_yes.cls ≠ "java/lang/invoke/VarHandle" ∧ (parseMethodDescriptor yX7_yes.desc).map (fun d => d.parameters.length) = some 1 := by decide +kernel
theorem nX2_draw_X7_no : Cond.methodLinkNest RX2 58 yX7_no RX7 ∈ zNW := by decide +kernel
theorem mX2_draw_stX7_no : Cond.static yX7_no ∈ wsX2_draw := by decide +kernel
theorem mX2_draw_iyX7_no : Cond.initialized yX7_no.cls ∈ wsX2_draw := by decide +kernel
theorem yX2_draw_X7_no : yX7_no.cls ≠ "java/lang/invoke/MethodHandle" ∧ yX7_no.cls ≠ "java/lang/invoke/VarHandle" ∧ (parseMethodDescriptor yX7_no.desc).map (fun d => d.parameters.length) = some 1 := by decide +kernel
theorem yX2_draw_X2_join : yX2_join.cls = RX2 ∧ yX2_join.cls ≠ "java/lang/invoke/MethodHandle" ∧ yX2_join.cls ≠ "java/lang/invoke/VarHandle" ∧ (parseMethodDescriptor yX2_join.desc).map (fun d => d.parameters.length) = some 3 := by decide +kernel
set_option maxHeartbeats 4000000 in
set_option maxRecDepth 100000 in
theorem kX2_draw (l : Launch) (D : va_G) (cI cZ cG cJ : ClassId) (go : Nat) (fo : Nat) (ve : Nat) (ed : Nat) (se : Nat) (ci : Nat) (gva : Nat) (gsi : Nat) (gsd : Nat) (gst : Nat) (mo : Nat) (pv : Nat) (v : Nat) (fh : Nat) (fs : Nat) (fk : Nat) (lo : Nat) (so : Nat) (to : Nat) (tw : Nat) (ct : Nat) (f3 : Nat → Int32) (L3 : List Nat) (n3 : Nat) (cv : Nat) (fv : Nat → Int32) (c1 : Nat) (f1 : Nat → Int32) (c2 : Nat) (f2 : Nat → Int32) (c3 : Nat) (f3s : Nat → Int32) (hR : zR f3 (3 * n3) L3) (hwt : zW (3 * n3) ct) (hv1 : 1 ≤ v) (hv2 : v ≤ 1000) (hL : ∀ i, i < 3 * n3 → L3.getD i 0 < 2 * v) (h5 : cv ≤ 400000) (h6 : c1 ≤ 400000) (h7 : c2 ≤ 400000) (h8 : c3 ≤ 400000) : zC l yX2_draw wsX2_draw 3 84 ((zrm (2 * (v + 6 * n3)) cv - cv) + ((zrm (2 * (v + 6 * n3)) c1 - c1) + (zrm (2 * (v + 6 * n3)) c2 - c2) + (zrm (2 * v + 3 * n3 + 1) c3 - c3))) (2 * ((zrm (2 * (v + 6 * n3)) cv - cv) + ((zrm (2 * (v + 6 * n3)) c1 - c1) + (zrm (2 * (v + 6 * n3)) c2 - c2) + (zrm (2 * v + 3 * n3 + 1) c3 - c3)))) D (zT cI cZ cG cJ) [.ref go] [(go, .inr (4, [.ref fo, .int (nI ve), .int (nI ed), .int (nI se), .int (nI ci), .ref gva, .ref gsi, .ref gsd, .ref gst])), (fo, .inr (2, [.ref mo, .int (nI pv), .int (nI v), .int (nI fh), .int (nI fs), .int (nI fk), .ref lo, .ref so, .ref to])), (to, .inr (6, [.ref tw, .int (nI (3 * n3))])), (tw, .inl (cI, ct, .inl f3)), (gva, .inl (cI, cv, .inl fv)), (gsi, .inl (cI, c1, .inl f1)), (gsd, .inl (cI, c2, .inl f2)), (gst, .inl (cI, c3, .inl f3s))] (fun (ov : Option Value) (ow : va_W) => ∃ av' : Nat, ∃ fv' : Nat → Int32, ∃ a1' : Nat, ∃ f1' : Nat → Int32, ∃ a2' : Nat, ∃ f2' : Nat → Int32, ∃ a3' : Nat, ∃ f3' : Nat → Int32, ov = none ∧ ow = [(go, .inr (4, [.ref fo, .int (nI (2 * v + 3 * n3)), .int (nI (v + 6 * n3)), .int (nI (v + 2 * n3)), .int (nI (12 * (v + 6 * n3) + (v + 2 * n3))), .ref av', .ref a1', .ref a2', .ref a3'])), (fo, .inr (2, [.ref mo, .int (nI pv), .int (nI v), .int (nI fh), .int (nI fs), .int (nI fk), .ref lo, .ref so, .ref to])), (to, .inr (6, [.ref tw, .int (nI (3 * n3))])), (tw, .inl (cI, ct, .inl f3)), (av', .inl (cI, (zrm (2 * (v + 6 * n3)) cv), .inl fv')), (a1', .inl (cI, (zrm (2 * (v + 6 * n3)) c1), .inl f1')), (a2', .inl (cI, (zrm (2 * (v + 6 * n3)) c2), .inl f2')), (a3', .inl (cI, (zrm (2 * v + 3 * n3 + 1) c3), .inl f3'))] ∧ (∀ d, d < (2 * (v + 6 * n3)) → fv' d = nI (zva v L3 d)) ∧ (∀ u, u ≤ 2 * v + 3 * n3 → f3' u = nI (zc (zlt (zva v L3) u) (2 * (v + 6 * n3)))) ∧ (∀ d, d < (2 * (v + 6 * n3)) → f2' d = nI (zpos (zva v L3) (2 * (v + 6 * n3)) d)) ∧ (∀ d, d < (2 * (v + 6 * n3)) → f1' (zpos (zva v L3) (2 * (v + 6 * n3)) d) = nI d)) := by
  refine zC.of (cc := cX2_draw) (maxL := 4) (ret := none) (by decide) rfl (Nat.le_of_ble_eq_true rfl) ?_
  intro p e s m below meth c A ls F hr hlk hnm B hl
  have hl : lv_has ls 4 [(0, .ref go)] := hl
  have hw3 := hwt.2.1; have hw4 := hwt.2.2
  have hr0 := zrm_le (2 * (v + 6 * n3)) cv
  have hu0 : zrm (2 * (v + 6 * n3)) cv ≤ 400000 := zrm_ub h5 (by omega)
  refine lv_aload_n F.1 F.2.1 dX2_draw_0 rfl (lv_at hl 0 rfl) ?_
  refine z_get F B 0 rfl (ci := 4) (C := RX2) (T := TX2) (N := 9) rfl iX2_draw_X2 0 (by decide) fX2_draw_22 rfl dX2_draw_1 ?_
  refine z_get F B 1 rfl (ci := 2) (C := RX0) (T := TX0) (N := 9) rfl iX2_draw_X0 2 (by decide) fX2_draw_30 rfl dX2_draw_4 ?_
  refine lv_istore_n (lv' := [(1, .int (nI v)), (0, .ref go)]) F.1 F.2.1 dX2_draw_7 rfl hl (by decide) rfl (fun ls hl => ?_)
  refine lv_aload_n F.1 F.2.1 dX2_draw_8 rfl (lv_at hl 1 rfl) ?_
  refine z_get F B 0 rfl (ci := 4) (C := RX2) (T := TX2) (N := 9) rfl iX2_draw_X2 0 (by decide) fX2_draw_22 rfl dX2_draw_9 ?_
  refine z_callV (wr := [(go, .inr (4, [.ref fo, .int (nI ve), .int (nI ed), .int (nI se), .int (nI ci), .ref gva, .ref gsi, .ref gsd, .ref gst])), (tw, .inl (cI, ct, .inl f3)), (gva, .inl (cI, cv, .inl fv)), (gsi, .inl (cI, c1, .inl f1)), (gsd, .inl (cI, c2, .inl f2)), (gst, .inl (cI, c3, .inl f3s))]) (rest := []) (As := []) F B (kX0_threes l D cI cZ cG cJ fo mo pv v fh fs fk lo so to tw (3 * n3) (by omega)) hl.1 (C := RX0) (T := TX0) (N := 9) (ci := 2) (q0 := 1) gX2_draw_X0_threes rfl 0 yX2_draw_X0_threes rfl rfl rfl [1, 2] [0, 3, 4, 5, 6, 7] rfl rfl rfl rfl (by decide) (Nat.le_of_ble_eq_true rfl) (Nat.le_of_ble_eq_true rfl) (Nat.le_of_ble_eq_true rfl) rfl dX2_draw_12 (show 0 + 0 ≤ (zrm (2 * (v + 6 * n3)) cv - cv) + ((zrm (2 * (v + 6 * n3)) c1 - c1) + (zrm (2 * (v + 6 * n3)) c2 - c2) + (zrm (2 * v + 3 * n3 + 1) c3 - c3)) by omega) (show 0 + 0 ≤ 2 * ((zrm (2 * (v + 6 * n3)) cv - cv) + ((zrm (2 * (v + 6 * n3)) c1 - c1) + (zrm (2 * (v + 6 * n3)) c2 - c2) + (zrm (2 * v + 3 * n3 + 1) c3 - c3))) by omega) (fun vv ww H locs hRR B => ?_)
  obtain ⟨rfl, rfl⟩ := hRR
  have B : zB D (zT cI cZ cG cJ) A s.heap s [(go, .inr (4, [.ref fo, .int (nI ve), .int (nI ed), .int (nI se), .int (nI ci), .ref gva, .ref gsi, .ref gsd, .ref gst])), (tw, .inl (cI, ct, .inl f3)), (gva, .inl (cI, cv, .inl fv)), (gsi, .inl (cI, c1, .inl f1)), (gsd, .inl (cI, c2, .inl f2)), (gst, .inl (cI, c3, .inl f3s)), (fo, .inr (2, [.ref mo, .int (nI pv), .int (nI v), .int (nI fh), .int (nI fs), .int (nI fk), .ref lo, .ref so, .ref to])), (to, .inr (6, [.ref tw, .int (nI (3 * n3))]))] _ _ := B
  refine W.eq (g2 := F0 m 15 ls [.int (nI ((3 * n3) / 3))]) rfl ?_
  refine W.eq (g2 := F0 m 15 ls [.int (nI n3)]) (by rw [Nat.mul_div_cancel_left n3 (show 0 < 3 by decide)]) ?_
  refine lv_istore_n (lv' := [(2, .int (nI n3)), (1, .int (nI v)), (0, .ref go)]) F.1 F.2.1 dX2_draw_15 rfl hl (by decide) rfl (fun ls hl => ?_)
  refine lv_aload_n F.1 F.2.1 dX2_draw_16 rfl (lv_at hl 2 rfl) ?_
  refine lv_iconst (v := (nI 2)) F.1 F.2.1 dX2_draw_17 (by decide) ?_
  refine lv_iload_n F.1 F.2.1 dX2_draw_18 rfl (lv_at hl 1 rfl) ?_
  refine z_imul F dX2_draw_19 ?_
  refine lv_iconst (v := (nI 3)) F.1 F.2.1 dX2_draw_20 (by decide) ?_
  refine lv_iload_n F.1 F.2.1 dX2_draw_21 rfl (lv_at hl 0 rfl) ?_
  refine z_imul F dX2_draw_22 ?_
  refine z_iadd F dX2_draw_23 ?_
  refine z_put F B 0 rfl (ci := 4) (C := RX2) (T := TX2) (N := 9) rfl iX2_draw_X2 tyX2 tyX2_ok nmX2 1 (by decide) fX2_draw_39 rfl (v := .int (nI (2 * v + (3 * n3)))) rfl rfl (Nat.le_of_ble_eq_true rfl) dX2_draw_24 (fun H locs B => ?_)
  have B : zB D (zT cI cZ cG cJ) A s.heap s [(go, .inr (4, [.ref fo, .int (nI (2 * v + (3 * n3))), .int (nI ed), .int (nI se), .int (nI ci), .ref gva, .ref gsi, .ref gsd, .ref gst])), (tw, .inl (cI, ct, .inl f3)), (gva, .inl (cI, cv, .inl fv)), (gsi, .inl (cI, c1, .inl f1)), (gsd, .inl (cI, c2, .inl f2)), (gst, .inl (cI, c3, .inl f3s)), (fo, .inr (2, [.ref mo, .int (nI pv), .int (nI v), .int (nI fh), .int (nI fs), .int (nI fk), .ref lo, .ref so, .ref to])), (to, .inr (6, [.ref tw, .int (nI (3 * n3))]))] _ _ := B
  refine lv_aload_n F.1 F.2.1 dX2_draw_27 rfl (lv_at hl 2 rfl) ?_
  refine lv_iload_n F.1 F.2.1 dX2_draw_28 rfl (lv_at hl 1 rfl) ?_
  refine lv_bipush (v := (nI 6)) F.1 F.2.1 dX2_draw_29 (by decide) ?_
  refine lv_iload_n F.1 F.2.1 dX2_draw_31 rfl (lv_at hl 0 rfl) ?_
  refine z_imul F dX2_draw_32 ?_
  refine z_iadd F dX2_draw_33 ?_
  refine z_put F B 0 rfl (ci := 4) (C := RX2) (T := TX2) (N := 9) rfl iX2_draw_X2 tyX2 tyX2_ok nmX2 2 (by decide) fX2_draw_26 rfl (v := .int (nI (v + (6 * n3)))) rfl rfl (Nat.le_of_ble_eq_true rfl) dX2_draw_34 (fun H locs B => ?_)
  have B : zB D (zT cI cZ cG cJ) A s.heap s [(go, .inr (4, [.ref fo, .int (nI (2 * v + (3 * n3))), .int (nI (v + (6 * n3))), .int (nI se), .int (nI ci), .ref gva, .ref gsi, .ref gsd, .ref gst])), (tw, .inl (cI, ct, .inl f3)), (gva, .inl (cI, cv, .inl fv)), (gsi, .inl (cI, c1, .inl f1)), (gsd, .inl (cI, c2, .inl f2)), (gst, .inl (cI, c3, .inl f3s)), (fo, .inr (2, [.ref mo, .int (nI pv), .int (nI v), .int (nI fh), .int (nI fs), .int (nI fk), .ref lo, .ref so, .ref to])), (to, .inr (6, [.ref tw, .int (nI (3 * n3))]))] _ _ := B
  refine lv_aload_n F.1 F.2.1 dX2_draw_37 rfl (lv_at hl 2 rfl) ?_
  refine lv_iload_n F.1 F.2.1 dX2_draw_38 rfl (lv_at hl 1 rfl) ?_
  refine lv_iconst (v := (nI 2)) F.1 F.2.1 dX2_draw_39 (by decide) ?_
  refine lv_iload_n F.1 F.2.1 dX2_draw_40 rfl (lv_at hl 0 rfl) ?_
  refine z_imul F dX2_draw_41 ?_
  refine z_iadd F dX2_draw_42 ?_
  refine z_put F B 0 rfl (ci := 4) (C := RX2) (T := TX2) (N := 9) rfl iX2_draw_X2 tyX2 tyX2_ok nmX2 3 (by decide) fX2_draw_42 rfl (v := .int (nI (v + (2 * n3)))) rfl rfl (Nat.le_of_ble_eq_true rfl) dX2_draw_43 (fun H locs B => ?_)
  have B : zB D (zT cI cZ cG cJ) A s.heap s [(go, .inr (4, [.ref fo, .int (nI (2 * v + (3 * n3))), .int (nI (v + (6 * n3))), .int (nI (v + (2 * n3))), .int (nI ci), .ref gva, .ref gsi, .ref gsd, .ref gst])), (tw, .inl (cI, ct, .inl f3)), (gva, .inl (cI, cv, .inl fv)), (gsi, .inl (cI, c1, .inl f1)), (gsd, .inl (cI, c2, .inl f2)), (gst, .inl (cI, c3, .inl f3s)), (fo, .inr (2, [.ref mo, .int (nI pv), .int (nI v), .int (nI fh), .int (nI fs), .int (nI fk), .ref lo, .ref so, .ref to])), (to, .inr (6, [.ref tw, .int (nI (3 * n3))]))] _ _ := B
  refine lv_aload_n F.1 F.2.1 dX2_draw_46 rfl (lv_at hl 2 rfl) ?_
  refine lv_bipush (v := (nI 12)) F.1 F.2.1 dX2_draw_47 (by decide) ?_
  refine lv_aload_n F.1 F.2.1 dX2_draw_49 rfl (lv_at hl 2 rfl) ?_
  refine z_get F B 0 rfl (ci := 4) (C := RX2) (T := TX2) (N := 9) rfl iX2_draw_X2 2 (by decide) fX2_draw_26 rfl dX2_draw_50 ?_
  refine z_imul F dX2_draw_53 ?_
  refine lv_aload_n F.1 F.2.1 dX2_draw_54 rfl (lv_at hl 2 rfl) ?_
  refine z_get F B 0 rfl (ci := 4) (C := RX2) (T := TX2) (N := 9) rfl iX2_draw_X2 3 (by decide) fX2_draw_42 rfl dX2_draw_55 ?_
  refine z_iadd F dX2_draw_58 ?_
  refine z_put F B 0 rfl (ci := 4) (C := RX2) (T := TX2) (N := 9) rfl iX2_draw_X2 tyX2 tyX2_ok nmX2 4 (by decide) fX2_draw_45 rfl (v := .int (nI (12 * (v + (6 * n3)) + (v + (2 * n3))))) rfl rfl (Nat.le_of_ble_eq_true rfl) dX2_draw_59 (fun H locs B => ?_)
  have B : zB D (zT cI cZ cG cJ) A s.heap s [(go, .inr (4, [.ref fo, .int (nI (2 * v + (3 * n3))), .int (nI (v + (6 * n3))), .int (nI (v + (2 * n3))), .int (nI (12 * (v + (6 * n3)) + (v + (2 * n3)))), .ref gva, .ref gsi, .ref gsd, .ref gst])), (tw, .inl (cI, ct, .inl f3)), (gva, .inl (cI, cv, .inl fv)), (gsi, .inl (cI, c1, .inl f1)), (gsd, .inl (cI, c2, .inl f2)), (gst, .inl (cI, c3, .inl f3s)), (fo, .inr (2, [.ref mo, .int (nI pv), .int (nI v), .int (nI fh), .int (nI fs), .int (nI fk), .ref lo, .ref so, .ref to])), (to, .inr (6, [.ref tw, .int (nI (3 * n3))]))] _ _ := B
  refine lv_aload_n F.1 F.2.1 dX2_draw_62 rfl (lv_at hl 2 rfl) ?_
  refine lv_aload_n F.1 F.2.1 dX2_draw_63 rfl (lv_at hl 2 rfl) ?_
  refine z_get F B 0 rfl (ci := 4) (C := RX2) (T := TX2) (N := 9) rfl iX2_draw_X2 5 (by decide) fX2_draw_7 rfl dX2_draw_64 ?_
  refine lv_iconst (v := (nI 2)) F.1 F.2.1 dX2_draw_67 (by decide) ?_
  refine lv_aload_n F.1 F.2.1 dX2_draw_68 rfl (lv_at hl 2 rfl) ?_
  refine z_get F B 0 rfl (ci := 4) (C := RX2) (T := TX2) (N := 9) rfl iX2_draw_X2 2 (by decide) fX2_draw_26 rfl dX2_draw_69 ?_
  refine z_imul F dX2_draw_72 ?_
  refine z_callSN (wr := [(go, .inr (4, [.ref fo, .int (nI (2 * v + (3 * n3))), .int (nI (v + (6 * n3))), .int (nI (v + (2 * n3))), .int (nI (12 * (v + (6 * n3)) + (v + (2 * n3)))), .ref gva, .ref gsi, .ref gsd, .ref gst])), (tw, .inl (cI, ct, .inl f3)), (gsi, .inl (cI, c1, .inl f1)), (gsd, .inl (cI, c2, .inl f2)), (gst, .inl (cI, c3, .inl f3s)), (fo, .inr (2, [.ref mo, .int (nI pv), .int (nI v), .int (nI fh), .int (nI fs), .int (nI fk), .ref lo, .ref so, .ref to])), (to, .inr (6, [.ref tw, .int (nI (3 * n3))]))]) (rest := [.ref go]) (As := [.ref gva, .int (nI (2 * (v + (6 * n3))))]) (host := RX7) F B (kX7_roomFor l D cI cZ cG cJ gva cv fv (2 * (v + (6 * n3))) (by omega) (by omega)) hl.1 gX2_draw_X7_roomFor_n48 nX2_draw_X7_roomFor mX2_draw_stX7_roomFor mX2_draw_iyX7_roomFor rfl 2 yX2_draw_X7_roomFor rfl [2] [0, 1, 3, 4, 5, 6, 7] rfl rfl rfl rfl (by decide) (Nat.le_of_ble_eq_true rfl) (Nat.le_of_ble_eq_true rfl) (Nat.le_of_ble_eq_true rfl) rfl dX2_draw_73 (show 0 + (zrm (2 * (v + (6 * n3))) cv - cv) ≤ (zrm (2 * (v + 6 * n3)) cv - cv) + ((zrm (2 * (v + 6 * n3)) c1 - c1) + (zrm (2 * (v + 6 * n3)) c2 - c2) + (zrm (2 * v + 3 * n3 + 1) c3 - c3)) by omega) (show 0 + (2 * (zrm (2 * (v + (6 * n3))) cv - cv)) ≤ 2 * ((zrm (2 * (v + 6 * n3)) cv - cv) + ((zrm (2 * (v + 6 * n3)) c1 - c1) + (zrm (2 * (v + 6 * n3)) c2 - c2) + (zrm (2 * v + 3 * n3 + 1) c3 - c3))) by omega) (fun vv ww H locs hRR B => ?_)
  obtain ⟨a'_1, f'_2, rfl, rfl⟩ := hRR
  have B : zB D (zT cI cZ cG cJ) A s.heap s [(go, .inr (4, [.ref fo, .int (nI (2 * v + (3 * n3))), .int (nI (v + (6 * n3))), .int (nI (v + (2 * n3))), .int (nI (12 * (v + (6 * n3)) + (v + (2 * n3)))), .ref gva, .ref gsi, .ref gsd, .ref gst])), (tw, .inl (cI, ct, .inl f3)), (gsi, .inl (cI, c1, .inl f1)), (gsd, .inl (cI, c2, .inl f2)), (gst, .inl (cI, c3, .inl f3s)), (fo, .inr (2, [.ref mo, .int (nI pv), .int (nI v), .int (nI fh), .int (nI fs), .int (nI fk), .ref lo, .ref so, .ref to])), (to, .inr (6, [.ref tw, .int (nI (3 * n3))])), (a'_1, .inl (cI, (zrm (2 * (v + (6 * n3))) cv), .inl f'_2))] _ _ := B
  refine W.eq (g2 := F0 m 76 ls [.ref a'_1, .ref go]) rfl ?_
  refine z_put F B 0 rfl (ci := 4) (C := RX2) (T := TX2) (N := 9) rfl iX2_draw_X2 tyX2 tyX2_ok nmX2 5 (by decide) fX2_draw_7 rfl (v := .ref a'_1) rfl rfl (Nat.le_of_ble_eq_true rfl) dX2_draw_76 (fun H locs B => ?_)
  have B : zB D (zT cI cZ cG cJ) A s.heap s [(go, .inr (4, [.ref fo, .int (nI (2 * v + (3 * n3))), .int (nI (v + (6 * n3))), .int (nI (v + (2 * n3))), .int (nI (12 * (v + (6 * n3)) + (v + (2 * n3)))), .ref a'_1, .ref gsi, .ref gsd, .ref gst])), (tw, .inl (cI, ct, .inl f3)), (gsi, .inl (cI, c1, .inl f1)), (gsd, .inl (cI, c2, .inl f2)), (gst, .inl (cI, c3, .inl f3s)), (fo, .inr (2, [.ref mo, .int (nI pv), .int (nI v), .int (nI fh), .int (nI fs), .int (nI fk), .ref lo, .ref so, .ref to])), (to, .inr (6, [.ref tw, .int (nI (3 * n3))])), (a'_1, .inl (cI, (zrm (2 * (v + (6 * n3))) cv), .inl f'_2))] _ _ := B
  refine lv_iconst (v := (nI 0)) F.1 F.2.1 dX2_draw_79 (by decide) ?_
  refine lv_istore_n (lv' := [(3, .int (nI 0)), (2, .int (nI n3)), (1, .int (nI v)), (0, .ref go)]) F.1 F.2.1 dX2_draw_80 rfl hl (by decide) rfl (fun ls hl => ?_)
  have loop81 : ∀ (fuel : Nat) (x : Nat) (b0 : Nat) (g0 : Nat → Int32), v - x < fuel → (x ≤ v) → (∀ d, d < 2 * x → g0 d = nI (zva v L3 d)) → ∀ (H : Heap) (locs : List Loc) (ls : Array Slot), zB D (zT cI cZ cG cJ) A s.heap s [(go, .inr (4, [.ref fo, .int (nI (2 * v + 3 * n3)), .int (nI (v + 6 * n3)), .int (nI (v + 2 * n3)), .int (nI (12 * (v + 6 * n3) + (v + 2 * n3))), .ref b0, .ref gsi, .ref gsd, .ref gst])), (fo, .inr (2, [.ref mo, .int (nI pv), .int (nI v), .int (nI fh), .int (nI fs), .int (nI fk), .ref lo, .ref so, .ref to])), (to, .inr (6, [.ref tw, .int (nI (3 * n3))])), (tw, .inl (cI, ct, .inl f3)), (b0, .inl (cI, (zrm (2 * (v + 6 * n3)) cv), .inl g0)), (gsi, .inl (cI, c1, .inl f1)), (gsd, .inl (cI, c2, .inl f2)), (gst, .inl (cI, c3, .inl f3s))] H locs → lv_has ls 4 [(0, .ref go), (1, .int (nI v)), (2, .int (nI n3)), (3, .int (nI x))] → W p l e { frames := 3, cells := (zrm (2 * (v + 6 * n3)) cv - cv) + ((zrm (2 * (v + 6 * n3)) c1 - c1) + (zrm (2 * (v + 6 * n3)) c2 - c2) + (zrm (2 * v + 3 * n3 + 1) c3 - c3)), slots := 2 * ((zrm (2 * (v + 6 * n3)) cv - cv) + ((zrm (2 * (v + 6 * n3)) c1 - c1) + (zrm (2 * (v + 6 * n3)) c2 - c2) + (zrm (2 * v + 3 * n3 + 1) c3 - c3))), locals := 84 } s m [.ref go].toArray below meth c H locs (zrm (2 * (v + 6 * n3)) cv - cv) (2 * (zrm (2 * (v + 6 * n3)) cv - cv)) (zQ below [.ref go].toArray s D (zT cI cZ cG cJ) A (fun (ov : Option Value) (ow : va_W) => ∃ av' : Nat, ∃ fv' : Nat → Int32, ∃ a1' : Nat, ∃ f1' : Nat → Int32, ∃ a2' : Nat, ∃ f2' : Nat → Int32, ∃ a3' : Nat, ∃ f3' : Nat → Int32, ov = none ∧ ow = [(go, .inr (4, [.ref fo, .int (nI (2 * v + 3 * n3)), .int (nI (v + 6 * n3)), .int (nI (v + 2 * n3)), .int (nI (12 * (v + 6 * n3) + (v + 2 * n3))), .ref av', .ref a1', .ref a2', .ref a3'])), (fo, .inr (2, [.ref mo, .int (nI pv), .int (nI v), .int (nI fh), .int (nI fs), .int (nI fk), .ref lo, .ref so, .ref to])), (to, .inr (6, [.ref tw, .int (nI (3 * n3))])), (tw, .inl (cI, ct, .inl f3)), (av', .inl (cI, (zrm (2 * (v + 6 * n3)) cv), .inl fv')), (a1', .inl (cI, (zrm (2 * (v + 6 * n3)) c1), .inl f1')), (a2', .inl (cI, (zrm (2 * (v + 6 * n3)) c2), .inl f2')), (a3', .inl (cI, (zrm (2 * v + 3 * n3 + 1) c3), .inl f3'))] ∧ (∀ d, d < (2 * (v + 6 * n3)) → fv' d = nI (zva v L3 d)) ∧ (∀ u, u ≤ 2 * v + 3 * n3 → f3' u = nI (zc (zlt (zva v L3) u) (2 * (v + 6 * n3)))) ∧ (∀ d, d < (2 * (v + 6 * n3)) → f2' d = nI (zpos (zva v L3) (2 * (v + 6 * n3)) d)) ∧ (∀ d, d < (2 * (v + 6 * n3)) → f1' (zpos (zva v L3) (2 * (v + 6 * n3)) d) = nI d)) ((zrm (2 * (v + 6 * n3)) cv - cv) + ((zrm (2 * (v + 6 * n3)) c1 - c1) + (zrm (2 * (v + 6 * n3)) c2 - c2) + (zrm (2 * v + 3 * n3 + 1) c3 - c3))) (2 * ((zrm (2 * (v + 6 * n3)) cv - cv) + ((zrm (2 * (v + 6 * n3)) c1 - c1) + (zrm (2 * (v + 6 * n3)) c2 - c2) + (zrm (2 * v + 3 * n3 + 1) c3 - c3))))) (F0 m 81 ls []) := by
    intro fuel
    induction fuel with
    | zero => intro x b0 g0 hmz; exact absurd hmz (Nat.not_lt_zero _)
    | succ fuel ih =>
      intro x b0 g0 hm hx hg H locs ls B hl
      have ih81 := ih
      refine lv_iload_n F.1 F.2.1 dX2_draw_81 rfl (lv_at hl 3 rfl) ?_
      refine lv_iload_n F.1 F.2.1 dX2_draw_82 rfl (lv_at hl 1 rfl) ?_
      refine z_icmp_ge (tgt := 105) F (by omega) (by omega) dX2_draw_83 (by decide) (fun c83 => ?_) (fun c83 => ?_)
      · have hxv : x = v := by omega
        rw [hxv] at hg
        refine lv_iconst (v := (nI 0)) F.1 F.2.1 dX2_draw_105 (by decide) ?_
        refine lv_istore_n (lv' := [(3, .int (nI 0)), (0, .ref go), (1, .int (nI v)), (2, .int (nI n3))]) F.1 F.2.1 dX2_draw_106 rfl hl (by decide) rfl (fun ls hl => ?_)
        have loop107 : ∀ (fuel : Nat) (j : Nat) (b0 : Nat) (g0 : Nat → Int32), n3 - j < fuel → (j ≤ n3) → (∀ d, d < 2 * (v + 6 * j) → g0 d = nI (zva v L3 d)) → ∀ (H : Heap) (locs : List Loc) (ls : Array Slot), zB D (zT cI cZ cG cJ) A s.heap s [(go, .inr (4, [.ref fo, .int (nI (2 * v + 3 * n3)), .int (nI (v + 6 * n3)), .int (nI (v + 2 * n3)), .int (nI (12 * (v + 6 * n3) + (v + 2 * n3))), .ref b0, .ref gsi, .ref gsd, .ref gst])), (fo, .inr (2, [.ref mo, .int (nI pv), .int (nI v), .int (nI fh), .int (nI fs), .int (nI fk), .ref lo, .ref so, .ref to])), (to, .inr (6, [.ref tw, .int (nI (3 * n3))])), (tw, .inl (cI, ct, .inl f3)), (b0, .inl (cI, (zrm (2 * (v + 6 * n3)) cv), .inl g0)), (gsi, .inl (cI, c1, .inl f1)), (gsd, .inl (cI, c2, .inl f2)), (gst, .inl (cI, c3, .inl f3s))] H locs → lv_has ls 4 [(0, .ref go), (1, .int (nI v)), (2, .int (nI n3)), (3, .int (nI j))] → W p l e { frames := 3, cells := (zrm (2 * (v + 6 * n3)) cv - cv) + ((zrm (2 * (v + 6 * n3)) c1 - c1) + (zrm (2 * (v + 6 * n3)) c2 - c2) + (zrm (2 * v + 3 * n3 + 1) c3 - c3)), slots := 2 * ((zrm (2 * (v + 6 * n3)) cv - cv) + ((zrm (2 * (v + 6 * n3)) c1 - c1) + (zrm (2 * (v + 6 * n3)) c2 - c2) + (zrm (2 * v + 3 * n3 + 1) c3 - c3))), locals := 84 } s m [.ref go].toArray below meth c H locs (zrm (2 * (v + 6 * n3)) cv - cv) (2 * (zrm (2 * (v + 6 * n3)) cv - cv)) (zQ below [.ref go].toArray s D (zT cI cZ cG cJ) A (fun (ov : Option Value) (ow : va_W) => ∃ av' : Nat, ∃ fv' : Nat → Int32, ∃ a1' : Nat, ∃ f1' : Nat → Int32, ∃ a2' : Nat, ∃ f2' : Nat → Int32, ∃ a3' : Nat, ∃ f3' : Nat → Int32, ov = none ∧ ow = [(go, .inr (4, [.ref fo, .int (nI (2 * v + 3 * n3)), .int (nI (v + 6 * n3)), .int (nI (v + 2 * n3)), .int (nI (12 * (v + 6 * n3) + (v + 2 * n3))), .ref av', .ref a1', .ref a2', .ref a3'])), (fo, .inr (2, [.ref mo, .int (nI pv), .int (nI v), .int (nI fh), .int (nI fs), .int (nI fk), .ref lo, .ref so, .ref to])), (to, .inr (6, [.ref tw, .int (nI (3 * n3))])), (tw, .inl (cI, ct, .inl f3)), (av', .inl (cI, (zrm (2 * (v + 6 * n3)) cv), .inl fv')), (a1', .inl (cI, (zrm (2 * (v + 6 * n3)) c1), .inl f1')), (a2', .inl (cI, (zrm (2 * (v + 6 * n3)) c2), .inl f2')), (a3', .inl (cI, (zrm (2 * v + 3 * n3 + 1) c3), .inl f3'))] ∧ (∀ d, d < (2 * (v + 6 * n3)) → fv' d = nI (zva v L3 d)) ∧ (∀ u, u ≤ 2 * v + 3 * n3 → f3' u = nI (zc (zlt (zva v L3) u) (2 * (v + 6 * n3)))) ∧ (∀ d, d < (2 * (v + 6 * n3)) → f2' d = nI (zpos (zva v L3) (2 * (v + 6 * n3)) d)) ∧ (∀ d, d < (2 * (v + 6 * n3)) → f1' (zpos (zva v L3) (2 * (v + 6 * n3)) d) = nI d)) ((zrm (2 * (v + 6 * n3)) cv - cv) + ((zrm (2 * (v + 6 * n3)) c1 - c1) + (zrm (2 * (v + 6 * n3)) c2 - c2) + (zrm (2 * v + 3 * n3 + 1) c3 - c3))) (2 * ((zrm (2 * (v + 6 * n3)) cv - cv) + ((zrm (2 * (v + 6 * n3)) c1 - c1) + (zrm (2 * (v + 6 * n3)) c2 - c2) + (zrm (2 * v + 3 * n3 + 1) c3 - c3))))) (F0 m 107 ls []) := by
          intro fuel
          induction fuel with
          | zero => intro j b0 g0 hmz; exact absurd hmz (Nat.not_lt_zero _)
          | succ fuel ih =>
            intro j b0 g0 hm hj hg H locs ls B hl
            have ih107 := ih
            refine lv_iload_n F.1 F.2.1 dX2_draw_107 rfl (lv_at hl 3 rfl) ?_
            refine lv_iload_n F.1 F.2.1 dX2_draw_108 rfl (lv_at hl 2 rfl) ?_
            refine z_icmp_ge (tgt := 136) F (by omega) (by omega) dX2_draw_109 (by decide) (fun c109 => ?_) (fun c109 => ?_)
            · have hjn : j = n3 := by omega
              rw [hjn] at hg
              refine lv_aload_n F.1 F.2.1 dX2_draw_136 rfl (lv_at hl 0 rfl) ?_
              refine z_callV (wr := [(fo, .inr (2, [.ref mo, .int (nI pv), .int (nI v), .int (nI fh), .int (nI fs), .int (nI fk), .ref lo, .ref so, .ref to])), (to, .inr (6, [.ref tw, .int (nI (3 * n3))])), (tw, .inl (cI, ct, .inl f3))]) (rest := []) (As := []) F B (kX2_sortSides l D cI cZ cG cJ go fo (2 * v + 3 * n3) (v + 6 * n3) (v + 2 * n3) (12 * (v + 6 * n3) + (v + 2 * n3)) b0 gsi gsd gst (zrm (2 * (v + 6 * n3)) cv) g0 c1 f1 c2 f2 c3 f3s (zva v L3) (by omega) (by omega) (by omega) (by omega) (by omega) (by omega) (by omega) (by omega) (hg) (fun d hd => zva_bd hL hd)) hl.1 (C := RX2) (T := TX2) (N := 9) (ci := 4) (q0 := 0) gX2_draw_X2_sortSides rfl 0 yX2_draw_X2_sortSides rfl rfl rfl [0, 4, 5, 6, 7] [1, 2, 3] rfl rfl rfl rfl (by decide) (Nat.le_of_ble_eq_true rfl) (Nat.le_of_ble_eq_true rfl) (Nat.le_of_ble_eq_true rfl) rfl dX2_draw_137 (show zrm (2 * (v + 6 * n3)) cv - cv + ((zrm (2 * (v + 6 * n3)) c1 - c1) + (zrm (2 * (v + 6 * n3)) c2 - c2) + (zrm ((2 * v + 3 * n3) + 1) c3 - c3)) ≤ (zrm (2 * (v + 6 * n3)) cv - cv) + ((zrm (2 * (v + 6 * n3)) c1 - c1) + (zrm (2 * (v + 6 * n3)) c2 - c2) + (zrm (2 * v + 3 * n3 + 1) c3 - c3)) by omega) (show 2 * (zrm (2 * (v + 6 * n3)) cv - cv) + (2 * ((zrm (2 * (v + 6 * n3)) c1 - c1) + (zrm (2 * (v + 6 * n3)) c2 - c2) + (zrm ((2 * v + 3 * n3) + 1) c3 - c3))) ≤ 2 * ((zrm (2 * (v + 6 * n3)) cv - cv) + ((zrm (2 * (v + 6 * n3)) c1 - c1) + (zrm (2 * (v + 6 * n3)) c2 - c2) + (zrm (2 * v + 3 * n3 + 1) c3 - c3))) by omega) (fun vv ww H locs hRR B => ?_)
              obtain ⟨a1'_3, f1'_4, a2'_5, f2'_6, a3'_7, f3'_8, rfl, rfl, hst9, hsd9, hsi9⟩ := hRR
              have B : zB D (zT cI cZ cG cJ) A s.heap s [(fo, .inr (2, [.ref mo, .int (nI pv), .int (nI v), .int (nI fh), .int (nI fs), .int (nI fk), .ref lo, .ref so, .ref to])), (to, .inr (6, [.ref tw, .int (nI (3 * n3))])), (tw, .inl (cI, ct, .inl f3)), (go, .inr (4, [.ref fo, .int (nI (2 * v + 3 * n3)), .int (nI (v + 6 * n3)), .int (nI (v + 2 * n3)), .int (nI (12 * (v + 6 * n3) + (v + 2 * n3))), .ref b0, .ref a1'_3, .ref a2'_5, .ref a3'_7])), (b0, .inl (cI, (zrm (2 * (v + 6 * n3)) cv), .inl g0)), (a1'_3, .inl (cI, (zrm (2 * (v + 6 * n3)) c1), .inl f1'_4)), (a2'_5, .inl (cI, (zrm (2 * (v + 6 * n3)) c2), .inl f2'_6)), (a3'_7, .inl (cI, (zrm ((2 * v + 3 * n3) + 1) c3), .inl f3'_8))] _ _ := B
              refine W.eq (g2 := F0 m 140 ls []) rfl ?_
              exact z_vret F hr hlk B [3, 0, 1, 2, 4, 5, 6, 7] rfl (rfl) dX2_draw_140 (by omega) (by omega) ⟨b0, g0, a1'_3, f1'_4, a2'_5, f2'_6, a3'_7, f3'_8, rfl, rfl, hg, hst9, hsd9, hsi9⟩
            · refine lv_aload_n F.1 F.2.1 dX2_draw_112 rfl (lv_at hl 0 rfl) ?_
              refine lv_iload_n F.1 F.2.1 dX2_draw_113 rfl (lv_at hl 3 rfl) ?_
              refine lv_iload_n F.1 F.2.1 dX2_draw_114 rfl (lv_at hl 1 rfl) ?_
              refine lv_bipush (v := (nI 6)) F.1 F.2.1 dX2_draw_115 (by decide) ?_
              refine lv_iload_n F.1 F.2.1 dX2_draw_117 rfl (lv_at hl 3 rfl) ?_
              refine z_imul F dX2_draw_118 ?_
              refine z_iadd F dX2_draw_119 ?_
              refine lv_iconst (v := (nI 2)) F.1 F.2.1 dX2_draw_120 (by decide) ?_
              refine lv_iload_n F.1 F.2.1 dX2_draw_121 rfl (lv_at hl 1 rfl) ?_
              refine z_imul F dX2_draw_122 ?_
              refine lv_iconst (v := (nI 3)) F.1 F.2.1 dX2_draw_123 (by decide) ?_
              refine lv_iload_n F.1 F.2.1 dX2_draw_124 rfl (lv_at hl 3 rfl) ?_
              refine z_imul F dX2_draw_125 ?_
              refine z_iadd F dX2_draw_126 ?_
              refine z_callV (wr := [(gsi, .inl (cI, c1, .inl f1)), (gsd, .inl (cI, c2, .inl f2)), (gst, .inl (cI, c3, .inl f3s))]) (rest := []) (As := [.int (nI j), .int (nI (v + (6 * j))), .int (nI (2 * v + (3 * j)))]) F B (kX2_drawThree l D cI cZ cG cJ go fo (2 * v + 3 * n3) (v + 6 * n3) (v + 2 * n3) (12 * (v + 6 * n3) + (v + 2 * n3)) b0 gsi gsd gst mo pv v fh fs fk lo so to tw (3 * n3) ct f3 L3 (zrm (2 * (v + 6 * n3)) cv) g0 j (hR) (hwt) (by omega) (by omega) (by omega) (hg)) hl.1 (C := RX2) (T := TX2) (N := 9) (ci := 4) (q0 := 0) gX2_draw_X2_drawThree rfl 3 yX2_draw_X2_drawThree rfl rfl rfl [0, 1, 2, 3, 4] [5, 6, 7] rfl rfl rfl rfl (by decide) (Nat.le_of_ble_eq_true rfl) (Nat.le_of_ble_eq_true rfl) (Nat.le_of_ble_eq_true rfl) rfl dX2_draw_127 (show zrm (2 * (v + 6 * n3)) cv - cv + 0 ≤ (zrm (2 * (v + 6 * n3)) cv - cv) + ((zrm (2 * (v + 6 * n3)) c1 - c1) + (zrm (2 * (v + 6 * n3)) c2 - c2) + (zrm (2 * v + 3 * n3 + 1) c3 - c3)) by omega) (show 2 * (zrm (2 * (v + 6 * n3)) cv - cv) + 0 ≤ 2 * ((zrm (2 * (v + 6 * n3)) cv - cv) + ((zrm (2 * (v + 6 * n3)) c1 - c1) + (zrm (2 * (v + 6 * n3)) c2 - c2) + (zrm (2 * v + 3 * n3 + 1) c3 - c3))) by omega) (fun vv ww H locs hRR B => ?_)
              obtain ⟨fv'_9, rfl, rfl, hgn⟩ := hRR
              have B : zB D (zT cI cZ cG cJ) A s.heap s [(gsi, .inl (cI, c1, .inl f1)), (gsd, .inl (cI, c2, .inl f2)), (gst, .inl (cI, c3, .inl f3s)), (go, .inr (4, [.ref fo, .int (nI (2 * v + 3 * n3)), .int (nI (v + 6 * n3)), .int (nI (v + 2 * n3)), .int (nI (12 * (v + 6 * n3) + (v + 2 * n3))), .ref b0, .ref gsi, .ref gsd, .ref gst])), (fo, .inr (2, [.ref mo, .int (nI pv), .int (nI v), .int (nI fh), .int (nI fs), .int (nI fk), .ref lo, .ref so, .ref to])), (to, .inr (6, [.ref tw, .int (nI (3 * n3))])), (tw, .inl (cI, ct, .inl f3)), (b0, .inl (cI, (zrm (2 * (v + 6 * n3)) cv), .inl fv'_9))] _ _ := B
              refine W.eq (g2 := F0 m 130 ls []) rfl ?_
              refine lv_iinc (v := (nI (j + 1))) (lv' := [(3, .int (nI (j + 1))), (0, .ref go), (1, .int (nI v)), (2, .int (nI n3))]) F.1 F.2.1 dX2_draw_130 hl (k := 3) rfl (by rw [show Int32.ofInt 1 = nI 1 from rfl, nI_add]) (by decide) rfl (fun ls hl => ?_)
              refine lv_goto (tgt := 107) F.1 F.2.1 dX2_draw_133 (by decide) ?_
              refine W.widen (k := zrm (2 * (v + 6 * n3)) cv - cv) (n := 2 * (zrm (2 * (v + 6 * n3)) cv - cv)) (by omega) (by omega) ?_
              exact ih107 (j + 1) b0 fv'_9 (by first | omega | (simp only [] at *; omega)) (by omega) (hgn) _ _ _ (B.sub [3, 4, 5, 6, 7, 0, 1, 2] rfl (rfl)) (lv_sub hl [1, 2, 3, 0] rfl)
        exact loop107 (n3 - 0 + 1) 0 b0 g0 (Nat.lt_succ_self _) (by omega) (fun d hd => hg d (by omega)) _ _ _ (B.sub [0, 1, 2, 3, 4, 5, 6, 7] rfl (rfl)) (lv_sub hl [1, 2, 3, 0] rfl)
      · refine lv_aload_n F.1 F.2.1 dX2_draw_86 rfl (lv_at hl 0 rfl) ?_
        refine lv_iload_n F.1 F.2.1 dX2_draw_87 rfl (lv_at hl 3 rfl) ?_
        refine lv_iload_n F.1 F.2.1 dX2_draw_88 rfl (lv_at hl 3 rfl) ?_
        refine z_callSN (wr := [(go, .inr (4, [.ref fo, .int (nI (2 * v + 3 * n3)), .int (nI (v + 6 * n3)), .int (nI (v + 2 * n3)), .int (nI (12 * (v + 6 * n3) + (v + 2 * n3))), .ref b0, .ref gsi, .ref gsd, .ref gst])), (fo, .inr (2, [.ref mo, .int (nI pv), .int (nI v), .int (nI fh), .int (nI fs), .int (nI fk), .ref lo, .ref so, .ref to])), (to, .inr (6, [.ref tw, .int (nI (3 * n3))])), (tw, .inl (cI, ct, .inl f3)), (b0, .inl (cI, (zrm (2 * (v + 6 * n3)) cv), .inl g0)), (gsi, .inl (cI, c1, .inl f1)), (gsd, .inl (cI, c2, .inl f2)), (gst, .inl (cI, c3, .inl f3s))]) (rest := [.int (nI x), .ref go]) (As := [.int (nI x)]) (host := RX7) F B (kX7_yes l D cI cZ cG cJ x) hl.1 gX2_draw_X7_yes_n54 nX2_draw_X7_yes mX2_draw_stX7_yes mX2_draw_iyX7_yes rfl 1 yX2_draw_X7_yes rfl [] [0, 1, 2, 3, 4, 5, 6, 7] rfl rfl rfl rfl (by decide) (Nat.le_of_ble_eq_true rfl) (Nat.le_of_ble_eq_true rfl) (Nat.le_of_ble_eq_true rfl) rfl dX2_draw_89 (show zrm (2 * (v + 6 * n3)) cv - cv + 0 ≤ (zrm (2 * (v + 6 * n3)) cv - cv) + ((zrm (2 * (v + 6 * n3)) c1 - c1) + (zrm (2 * (v + 6 * n3)) c2 - c2) + (zrm (2 * v + 3 * n3 + 1) c3 - c3)) by omega) (show 2 * (zrm (2 * (v + 6 * n3)) cv - cv) + 0 ≤ 2 * ((zrm (2 * (v + 6 * n3)) cv - cv) + ((zrm (2 * (v + 6 * n3)) c1 - c1) + (zrm (2 * (v + 6 * n3)) c2 - c2) + (zrm (2 * v + 3 * n3 + 1) c3 - c3))) by omega) (fun vv ww H locs hRR B => ?_)
        obtain ⟨rfl, rfl⟩ := hRR
        have B : zB D (zT cI cZ cG cJ) A s.heap s [(go, .inr (4, [.ref fo, .int (nI (2 * v + 3 * n3)), .int (nI (v + 6 * n3)), .int (nI (v + 2 * n3)), .int (nI (12 * (v + 6 * n3) + (v + 2 * n3))), .ref b0, .ref gsi, .ref gsd, .ref gst])), (fo, .inr (2, [.ref mo, .int (nI pv), .int (nI v), .int (nI fh), .int (nI fs), .int (nI fk), .ref lo, .ref so, .ref to])), (to, .inr (6, [.ref tw, .int (nI (3 * n3))])), (tw, .inl (cI, ct, .inl f3)), (b0, .inl (cI, (zrm (2 * (v + 6 * n3)) cv), .inl g0)), (gsi, .inl (cI, c1, .inl f1)), (gsd, .inl (cI, c2, .inl f2)), (gst, .inl (cI, c3, .inl f3s))] _ _ := B
        refine W.eq (g2 := F0 m 92 ls [.int (nI (2 * x)), .int (nI x), .ref go]) rfl ?_
        refine lv_iload_n F.1 F.2.1 dX2_draw_92 rfl (lv_at hl 3 rfl) ?_
        refine z_callSN (wr := [(go, .inr (4, [.ref fo, .int (nI (2 * v + 3 * n3)), .int (nI (v + 6 * n3)), .int (nI (v + 2 * n3)), .int (nI (12 * (v + 6 * n3) + (v + 2 * n3))), .ref b0, .ref gsi, .ref gsd, .ref gst])), (fo, .inr (2, [.ref mo, .int (nI pv), .int (nI v), .int (nI fh), .int (nI fs), .int (nI fk), .ref lo, .ref so, .ref to])), (to, .inr (6, [.ref tw, .int (nI (3 * n3))])), (tw, .inl (cI, ct, .inl f3)), (b0, .inl (cI, (zrm (2 * (v + 6 * n3)) cv), .inl g0)), (gsi, .inl (cI, c1, .inl f1)), (gsd, .inl (cI, c2, .inl f2)), (gst, .inl (cI, c3, .inl f3s))]) (rest := [.int (nI (2 * x)), .int (nI x), .ref go]) (As := [.int (nI x)]) (host := RX7) F B (kX7_no l D cI cZ cG cJ x) hl.1 gX2_draw_X7_no_n58 nX2_draw_X7_no mX2_draw_stX7_no mX2_draw_iyX7_no rfl 1 yX2_draw_X7_no rfl [] [0, 1, 2, 3, 4, 5, 6, 7] rfl rfl rfl rfl (by decide) (Nat.le_of_ble_eq_true rfl) (Nat.le_of_ble_eq_true rfl) (Nat.le_of_ble_eq_true rfl) rfl dX2_draw_93 (show zrm (2 * (v + 6 * n3)) cv - cv + 0 + 0 ≤ (zrm (2 * (v + 6 * n3)) cv - cv) + ((zrm (2 * (v + 6 * n3)) c1 - c1) + (zrm (2 * (v + 6 * n3)) c2 - c2) + (zrm (2 * v + 3 * n3 + 1) c3 - c3)) by omega) (show 2 * (zrm (2 * (v + 6 * n3)) cv - cv) + 0 + 0 ≤ 2 * ((zrm (2 * (v + 6 * n3)) cv - cv) + ((zrm (2 * (v + 6 * n3)) c1 - c1) + (zrm (2 * (v + 6 * n3)) c2 - c2) + (zrm (2 * v + 3 * n3 + 1) c3 - c3))) by omega) (fun vv ww H locs hRR B => ?_)
        obtain ⟨rfl, rfl⟩ := hRR
        have B : zB D (zT cI cZ cG cJ) A s.heap s [(go, .inr (4, [.ref fo, .int (nI (2 * v + 3 * n3)), .int (nI (v + 6 * n3)), .int (nI (v + 2 * n3)), .int (nI (12 * (v + 6 * n3) + (v + 2 * n3))), .ref b0, .ref gsi, .ref gsd, .ref gst])), (fo, .inr (2, [.ref mo, .int (nI pv), .int (nI v), .int (nI fh), .int (nI fs), .int (nI fk), .ref lo, .ref so, .ref to])), (to, .inr (6, [.ref tw, .int (nI (3 * n3))])), (tw, .inl (cI, ct, .inl f3)), (b0, .inl (cI, (zrm (2 * (v + 6 * n3)) cv), .inl g0)), (gsi, .inl (cI, c1, .inl f1)), (gsd, .inl (cI, c2, .inl f2)), (gst, .inl (cI, c3, .inl f3s))] _ _ := B
        refine W.eq (g2 := F0 m 96 ls [.int (nI (2 * x + 1)), .int (nI (2 * x)), .int (nI x), .ref go]) rfl ?_
        refine z_callV (wr := [(fo, .inr (2, [.ref mo, .int (nI pv), .int (nI v), .int (nI fh), .int (nI fs), .int (nI fk), .ref lo, .ref so, .ref to])), (to, .inr (6, [.ref tw, .int (nI (3 * n3))])), (tw, .inl (cI, ct, .inl f3)), (gsi, .inl (cI, c1, .inl f1)), (gsd, .inl (cI, c2, .inl f2)), (gst, .inl (cI, c3, .inl f3s))]) (rest := []) (As := [.int (nI x), .int (nI (2 * x)), .int (nI (2 * x + 1))]) F B (kX2_join l D cI cZ cG cJ go fo (2 * v + 3 * n3) (v + 6 * n3) (v + 2 * n3) (12 * (v + 6 * n3) + (v + 2 * n3)) b0 gsi gsd gst (zrm (2 * (v + 6 * n3)) cv) g0 x (2 * x) (2 * x + 1) (by omega) (by omega)) hl.1 (C := RX2) (T := TX2) (N := 9) (ci := 4) (q0 := 0) gX2_draw_X2_join rfl 3 yX2_draw_X2_join rfl rfl rfl [0, 4] [1, 2, 3, 5, 6, 7] rfl rfl rfl rfl (by decide) (Nat.le_of_ble_eq_true rfl) (Nat.le_of_ble_eq_true rfl) (Nat.le_of_ble_eq_true rfl) rfl dX2_draw_96 (show zrm (2 * (v + 6 * n3)) cv - cv + 0 + 0 + 0 ≤ (zrm (2 * (v + 6 * n3)) cv - cv) + ((zrm (2 * (v + 6 * n3)) c1 - c1) + (zrm (2 * (v + 6 * n3)) c2 - c2) + (zrm (2 * v + 3 * n3 + 1) c3 - c3)) by omega) (show 2 * (zrm (2 * (v + 6 * n3)) cv - cv) + 0 + 0 + 0 ≤ 2 * ((zrm (2 * (v + 6 * n3)) cv - cv) + ((zrm (2 * (v + 6 * n3)) c1 - c1) + (zrm (2 * (v + 6 * n3)) c2 - c2) + (zrm (2 * v + 3 * n3 + 1) c3 - c3))) by omega) (fun vv ww H locs hRR B => ?_)
        obtain ⟨rfl, rfl⟩ := hRR
        have B : zB D (zT cI cZ cG cJ) A s.heap s [(fo, .inr (2, [.ref mo, .int (nI pv), .int (nI v), .int (nI fh), .int (nI fs), .int (nI fk), .ref lo, .ref so, .ref to])), (to, .inr (6, [.ref tw, .int (nI (3 * n3))])), (tw, .inl (cI, ct, .inl f3)), (gsi, .inl (cI, c1, .inl f1)), (gsd, .inl (cI, c2, .inl f2)), (gst, .inl (cI, c3, .inl f3s)), (go, .inr (4, [.ref fo, .int (nI (2 * v + 3 * n3)), .int (nI (v + 6 * n3)), .int (nI (v + 2 * n3)), .int (nI (12 * (v + 6 * n3) + (v + 2 * n3))), .ref b0, .ref gsi, .ref gsd, .ref gst])), (b0, .inl (cI, (zrm (2 * (v + 6 * n3)) cv), .inl (upd (upd g0 (2 * x) (nI (2 * x))) (2 * x + 1) (nI (2 * x + 1)))))] _ _ := B
        refine W.eq (g2 := F0 m 99 ls []) rfl ?_
        refine lv_iinc (v := (nI (x + 1))) (lv' := [(3, .int (nI (x + 1))), (0, .ref go), (1, .int (nI v)), (2, .int (nI n3))]) F.1 F.2.1 dX2_draw_99 hl (k := 3) rfl (by rw [show Int32.ofInt 1 = nI 1 from rfl, nI_add]) (by decide) rfl (fun ls hl => ?_)
        refine lv_goto (tgt := 81) F.1 F.2.1 dX2_draw_102 (by decide) ?_
        refine W.widen (k := zrm (2 * (v + 6 * n3)) cv - cv) (n := 2 * (zrm (2 * (v + 6 * n3)) cv - cv)) (by omega) (by omega) ?_
        exact ih81 (x + 1) b0 (upd (upd g0 (2 * x) (nI (2 * x))) (2 * x + 1) (nI (2 * x + 1))) (by first | omega | (simp only [] at *; omega)) (by omega) (zva_join hg (zva_lo (by omega)).symm (zva_lo (by omega)).symm) _ _ _ (B.sub [6, 0, 1, 2, 7, 3, 4, 5] rfl (rfl)) (lv_sub hl [1, 2, 3, 0] rfl)
  refine W.widen (k := zrm (2 * (v + 6 * n3)) cv - cv) (n := 2 * (zrm (2 * (v + 6 * n3)) cv - cv)) (by omega) (by omega) ?_
  exact loop81 (v - 0 + 1) 0 a'_1 f'_2 (Nat.lt_succ_self _) (by omega) (fun d hd => absurd hd (by omega)) _ _ _ (B.sub [0, 5, 6, 1, 7, 2, 3, 4] rfl (rfl)) (lv_sub hl [3, 2, 1, 0] rfl)
theorem iX2_isOuter_X2 : ∀ w ∈ u_ws RX2 TX2 9, w ∈ wsX2_isOuter := by decide +kernel
theorem fX2_isOuter_7 : Cond.fieldLink RX2 7 "TourChain$Graph" "vertexAt" "[I" ∈ wsX2_isOuter := by decide +kernel
theorem fX2_isOuter_16 : Cond.fieldLink RX2 16 "TourChain$Graph" "standing" "[I" ∈ wsX2_isOuter := by decide +kernel
theorem fX2_isOuter_19 : Cond.fieldLink RX2 19 "TourChain$Graph" "starts" "[I" ∈ wsX2_isOuter := by decide +kernel
set_option maxHeartbeats 4000000 in
set_option maxRecDepth 100000 in
theorem kX2_isOuter (l : Launch) (D : va_G) (cI cZ cG cJ : ClassId) (go : Nat) (fo : Nat) (ve : Nat) (ed : Nat) (se : Nat) (ci : Nat) (gva : Nat) (gsi : Nat) (gsd : Nat) (gst : Nat) (cv : Nat) (fv : Nat → Int32) (c2 : Nat) (f2 : Nat → Int32) (c3 : Nat) (f3s : Nat → Int32) (w : Nat → Nat) (d : Nat) (i : Nat) (h2 : ed ≤ 100000) (h3 : ve ≤ 100000) (h4 : (2 * ed) ≤ cv) (h5 : cv ≤ 1000000) (h7 : (2 * ed) ≤ c2) (h8 : ve + 1 ≤ c3) (h9 : c2 ≤ 1000000) (h10 : c3 ≤ 1000000) (hv : ∀ d, d < (2 * ed) → fv d = nI (w d)) (hw : ∀ d, d < (2 * ed) → w d < ve) (hst : ∀ u, u ≤ ve → f3s u = nI (zc (zlt w u) (2 * ed))) (hsd : ∀ d, d < (2 * ed) → f2 d = nI (zpos w (2 * ed) d)) (hd : d < (2 * ed)) (hi : i < 6) : zC l yX2_isOuter wsX2_isOuter 0 0 0 0 D (zT cI cZ cG cJ) [.ref go, .int (nI d), .int (nI i)] [(go, .inr (4, [.ref fo, .int (nI ve), .int (nI ed), .int (nI se), .int (nI ci), .ref gva, .ref gsi, .ref gsd, .ref gst])), (gva, .inl (cI, cv, .inl fv)), (gsd, .inl (cI, c2, .inl f2)), (gst, .inl (cI, c3, .inl f3s))] (fun (ov : Option Value) (ow : va_W) => ∃ r : Int32, ov = some (.int r) ∧ ow = [(go, .inr (4, [.ref fo, .int (nI ve), .int (nI ed), .int (nI se), .int (nI ci), .ref gva, .ref gsi, .ref gsd, .ref gst])), (gva, .inl (cI, cv, .inl fv)), (gsd, .inl (cI, c2, .inl f2)), (gst, .inl (cI, c3, .inl f3s))] ∧ ((r = 1 ∧ ((i = 0 ∧ zpos w (2 * ed) d = zc (zlt w (w d)) (2 * ed)) ∨ (i = 5 ∧ zpos w (2 * ed) d = zc (zlt w (w d + 1)) (2 * ed) - 1))) ∨ (r = 0 ∧ ¬ ((i = 0 ∧ zpos w (2 * ed) d = zc (zlt w (w d)) (2 * ed)) ∨ (i = 5 ∧ zpos w (2 * ed) d = zc (zlt w (w d + 1)) (2 * ed) - 1))))) := by
  refine zC.of (cc := cX2_isOuter) (maxL := 4) (ret := (some .boolean)) (by decide) rfl (Nat.le_of_ble_eq_true rfl) ?_
  intro p e s m below meth c A ls F hr hlk hnm B hl
  have hl : lv_has ls 4 [(0, .ref go), (1, .int (nI d)), (2, .int (nI i))] := hl
  have hwd := hw d hd
  have hz1 := zpos_lt (w := w) (n := (2 * ed)) hd
  have hz2 := zc_le (zlt w (w d + 1)) (2 * ed)
  have hz3 := zc_le (zlt w (w d)) (2 * ed)
  refine lv_aload_n F.1 F.2.1 dX2_isOuter_0 rfl (lv_at hl 0 rfl) ?_
  refine z_get F B 0 rfl (ci := 4) (C := RX2) (T := TX2) (N := 9) rfl iX2_isOuter_X2 5 (by decide) fX2_isOuter_7 rfl dX2_isOuter_1 ?_
  refine lv_iload_n F.1 F.2.1 dX2_isOuter_4 rfl (lv_at hl 1 rfl) ?_
  refine z_iald F B 1 0 rfl rfl (j := d) (by omega) (by omega) dX2_isOuter_5 ?_
  refine W.eq (g2 := F0 m 6 ls [.int (nI (w d))]) (by rw [hv d hd]) ?_
  refine lv_istore_n (lv' := [(3, .int (nI (w d))), (0, .ref go), (1, .int (nI d)), (2, .int (nI i))]) F.1 F.2.1 dX2_isOuter_6 rfl hl (by decide) rfl (fun ls hl => ?_)
  refine lv_iload_n F.1 F.2.1 dX2_isOuter_7 rfl (lv_at hl 3 rfl) ?_
  refine z_if_ne (tgt := 26) F (by omega) dX2_isOuter_8 (by decide) (fun c8 => ?_) (fun c8 => ?_)
  · refine lv_iload_n F.1 F.2.1 dX2_isOuter_26 rfl (lv_at hl 3 rfl) ?_
    refine lv_iconst (v := (nI 5)) F.1 F.2.1 dX2_isOuter_27 (by decide) ?_
    refine z_icmp_ne (tgt := 54) F (by omega) (by omega) dX2_isOuter_28 (by decide) (fun c28 => ?_) (fun c28 => ?_)
    · refine lv_iconst (v := (nI 0)) F.1 F.2.1 dX2_isOuter_54 (by decide) ?_
      exact z_zret F hr hlk B (Or.inl rfl) [0, 1, 2, 3] rfl (rfl) dX2_isOuter_55 (by omega) (by omega) ⟨(nI 0), rfl, rfl, Or.inr ⟨rfl, by omega⟩⟩
    · refine lv_aload_n F.1 F.2.1 dX2_isOuter_31 rfl (lv_at hl 1 rfl) ?_
      refine z_get F B 0 rfl (ci := 4) (C := RX2) (T := TX2) (N := 9) rfl iX2_isOuter_X2 7 (by decide) fX2_isOuter_16 rfl dX2_isOuter_32 ?_
      refine lv_iload_n F.1 F.2.1 dX2_isOuter_35 rfl (lv_at hl 2 rfl) ?_
      refine z_iald F B 2 0 rfl rfl (j := d) (by omega) (by omega) dX2_isOuter_36 ?_
      refine W.eq (g2 := F0 m 37 ls [.int (nI (zpos w (2 * ed) d))]) (by rw [hsd d hd]) ?_
      refine lv_aload_n F.1 F.2.1 dX2_isOuter_37 rfl (lv_at hl 1 rfl) ?_
      refine z_get F B 0 rfl (ci := 4) (C := RX2) (T := TX2) (N := 9) rfl iX2_isOuter_X2 8 (by decide) fX2_isOuter_19 rfl dX2_isOuter_38 ?_
      refine lv_iload_n F.1 F.2.1 dX2_isOuter_41 rfl (lv_at hl 0 rfl) ?_
      refine lv_iconst (v := (nI 1)) F.1 F.2.1 dX2_isOuter_42 (by decide) ?_
      refine z_iadd F dX2_isOuter_43 ?_
      refine z_iald F B 3 0 rfl rfl (j := w d + 1) (by omega) (by omega) dX2_isOuter_44 ?_
      refine W.eq (g2 := F0 m 45 ls [.int (nI (zc (zlt w (w d + 1)) (2 * ed))), .int (nI (zpos w (2 * ed) d))]) (by rw [hst (w d + 1) (by omega)]) ?_
      refine lv_iconst (v := (nI 1)) F.1 F.2.1 dX2_isOuter_45 (by decide) ?_
      refine z_isub F (by omega) dX2_isOuter_46 ?_
      refine z_icmp_ne (tgt := 54) F (by omega) (by omega) dX2_isOuter_47 (by decide) (fun c47 => ?_) (fun c47 => ?_)
      · refine lv_iconst (v := (nI 0)) F.1 F.2.1 dX2_isOuter_54 (by decide) ?_
        exact z_zret F hr hlk B (Or.inl rfl) [0, 1, 2, 3] rfl (rfl) dX2_isOuter_55 (by omega) (by omega) ⟨(nI 0), rfl, rfl, Or.inr ⟨rfl, by omega⟩⟩
      · refine lv_iconst (v := (nI 1)) F.1 F.2.1 dX2_isOuter_50 (by decide) ?_
        refine lv_goto (tgt := 55) F.1 F.2.1 dX2_isOuter_51 (by decide) ?_
        exact z_zret F hr hlk B (Or.inr rfl) [0, 1, 2, 3] rfl (rfl) dX2_isOuter_55 (by omega) (by omega) ⟨(nI 1), rfl, rfl, Or.inl ⟨rfl, by omega⟩⟩
  · refine lv_aload_n F.1 F.2.1 dX2_isOuter_11 rfl (lv_at hl 1 rfl) ?_
    refine z_get F B 0 rfl (ci := 4) (C := RX2) (T := TX2) (N := 9) rfl iX2_isOuter_X2 7 (by decide) fX2_isOuter_16 rfl dX2_isOuter_12 ?_
    refine lv_iload_n F.1 F.2.1 dX2_isOuter_15 rfl (lv_at hl 2 rfl) ?_
    refine z_iald F B 2 0 rfl rfl (j := d) (by omega) (by omega) dX2_isOuter_16 ?_
    refine W.eq (g2 := F0 m 17 ls [.int (nI (zpos w (2 * ed) d))]) (by rw [hsd d hd]) ?_
    refine lv_aload_n F.1 F.2.1 dX2_isOuter_17 rfl (lv_at hl 1 rfl) ?_
    refine z_get F B 0 rfl (ci := 4) (C := RX2) (T := TX2) (N := 9) rfl iX2_isOuter_X2 8 (by decide) fX2_isOuter_19 rfl dX2_isOuter_18 ?_
    refine lv_iload_n F.1 F.2.1 dX2_isOuter_21 rfl (lv_at hl 0 rfl) ?_
    refine z_iald F B 3 0 rfl rfl (j := w d) (by omega) (by omega) dX2_isOuter_22 ?_
    refine W.eq (g2 := F0 m 23 ls [.int (nI (zc (zlt w (w d)) (2 * ed))), .int (nI (zpos w (2 * ed) d))]) (by rw [hst (w d) (by omega)]) ?_
    refine z_icmp_eq (tgt := 50) F (by omega) (by omega) dX2_isOuter_23 (by decide) (fun c23 => ?_) (fun c23 => ?_)
    · refine lv_iconst (v := (nI 1)) F.1 F.2.1 dX2_isOuter_50 (by decide) ?_
      refine lv_goto (tgt := 55) F.1 F.2.1 dX2_isOuter_51 (by decide) ?_
      exact z_zret F hr hlk B (Or.inr rfl) [0, 1, 2, 3] rfl (rfl) dX2_isOuter_55 (by omega) (by omega) ⟨(nI 1), rfl, rfl, Or.inl ⟨rfl, by omega⟩⟩
    · refine lv_iload_n F.1 F.2.1 dX2_isOuter_26 rfl (lv_at hl 3 rfl) ?_
      refine lv_iconst (v := (nI 5)) F.1 F.2.1 dX2_isOuter_27 (by decide) ?_
      refine z_icmp_ne (tgt := 54) F (by omega) (by omega) dX2_isOuter_28 (by decide) (fun c28 => ?_) (fun c28 => ?_)
      · refine lv_iconst (v := (nI 0)) F.1 F.2.1 dX2_isOuter_54 (by decide) ?_
        exact z_zret F hr hlk B (Or.inl rfl) [0, 1, 2, 3] rfl (rfl) dX2_isOuter_55 (by omega) (by omega) ⟨(nI 0), rfl, rfl, Or.inr ⟨rfl, by omega⟩⟩
      · refine lv_aload_n F.1 F.2.1 dX2_isOuter_31 rfl (lv_at hl 1 rfl) ?_
        refine z_get F B 0 rfl (ci := 4) (C := RX2) (T := TX2) (N := 9) rfl iX2_isOuter_X2 7 (by decide) fX2_isOuter_16 rfl dX2_isOuter_32 ?_
        refine lv_iload_n F.1 F.2.1 dX2_isOuter_35 rfl (lv_at hl 2 rfl) ?_
        refine z_iald F B 2 0 rfl rfl (j := d) (by omega) (by omega) dX2_isOuter_36 ?_
        refine W.eq (g2 := F0 m 37 ls [.int (nI (zpos w (2 * ed) d))]) (by rw [hsd d hd]) ?_
        refine lv_aload_n F.1 F.2.1 dX2_isOuter_37 rfl (lv_at hl 1 rfl) ?_
        refine z_get F B 0 rfl (ci := 4) (C := RX2) (T := TX2) (N := 9) rfl iX2_isOuter_X2 8 (by decide) fX2_isOuter_19 rfl dX2_isOuter_38 ?_
        refine lv_iload_n F.1 F.2.1 dX2_isOuter_41 rfl (lv_at hl 0 rfl) ?_
        refine lv_iconst (v := (nI 1)) F.1 F.2.1 dX2_isOuter_42 (by decide) ?_
        refine z_iadd F dX2_isOuter_43 ?_
        refine z_iald F B 3 0 rfl rfl (j := w d + 1) (by omega) (by omega) dX2_isOuter_44 ?_
        refine W.eq (g2 := F0 m 45 ls [.int (nI (zc (zlt w (w d + 1)) (2 * ed))), .int (nI (zpos w (2 * ed) d))]) (by rw [hst (w d + 1) (by omega)]) ?_
        refine lv_iconst (v := (nI 1)) F.1 F.2.1 dX2_isOuter_45 (by decide) ?_
        refine z_isub F (by omega) dX2_isOuter_46 ?_
        refine z_icmp_ne (tgt := 54) F (by omega) (by omega) dX2_isOuter_47 (by decide) (fun c47 => ?_) (fun c47 => ?_)
        · refine lv_iconst (v := (nI 0)) F.1 F.2.1 dX2_isOuter_54 (by decide) ?_
          exact z_zret F hr hlk B (Or.inl rfl) [0, 1, 2, 3] rfl (rfl) dX2_isOuter_55 (by omega) (by omega) ⟨(nI 0), rfl, rfl, Or.inr ⟨rfl, by omega⟩⟩
        · refine lv_iconst (v := (nI 1)) F.1 F.2.1 dX2_isOuter_50 (by decide) ?_
          refine lv_goto (tgt := 55) F.1 F.2.1 dX2_isOuter_51 (by decide) ?_
          exact z_zret F hr hlk B (Or.inr rfl) [0, 1, 2, 3] rfl (rfl) dX2_isOuter_55 (by omega) (by omega) ⟨(nI 1), rfl, rfl, Or.inl ⟨rfl, by omega⟩⟩
