/-! CONTRACT of Graph.sortSides -/
theorem iX2_sortSides_X2 : ∀ w ∈ u_ws RX2 TX2 9, w ∈ wsX2_sortSides := by decide +kernel
theorem fX2_sortSides_26 : Cond.fieldLink RX2 26 "TourChain$Graph" "edges" "I" ∈ wsX2_sortSides := by decide +kernel
theorem fX2_sortSides_13 : Cond.fieldLink RX2 13 "TourChain$Graph" "sides" "[I" ∈ wsX2_sortSides := by decide +kernel
theorem nX2_sortSides_X7_roomFor : Cond.methodLinkNest RX2 48 yX7_roomFor RX7 ∈ zNW := by decide +kernel
theorem mX2_sortSides_stX7_roomFor : Cond.static yX7_roomFor ∈ wsX2_sortSides := by decide +kernel
theorem mX2_sortSides_iyX7_roomFor : Cond.initialized yX7_roomFor.cls ∈ wsX2_sortSides := by decide +kernel
theorem yX2_sortSides_X7_roomFor : yX7_roomFor.cls ≠ "java/lang/invoke/MethodHandle" ∧ yX7_roomFor.cls ≠ "java/lang/invoke/VarHandle" ∧ (parseMethodDescriptor yX7_roomFor.desc).map (fun d => d.parameters.length) = some 2 := by decide +kernel
theorem fX2_sortSides_16 : Cond.fieldLink RX2 16 "TourChain$Graph" "standing" "[I" ∈ wsX2_sortSides := by decide +kernel
theorem fX2_sortSides_19 : Cond.fieldLink RX2 19 "TourChain$Graph" "starts" "[I" ∈ wsX2_sortSides := by decide +kernel
theorem fX2_sortSides_39 : Cond.fieldLink RX2 39 "TourChain$Graph" "vertices" "I" ∈ wsX2_sortSides := by decide +kernel
theorem yX2_sortSides_J7_fill_fda19 : yJ7_fill_fda19.cls ≠ "java/lang/invoke/MethodHandle" ∧ yJ7_fill_fda19.cls ≠ "java/lang/invoke/VarHandle" ∧ (parseMethodDescriptor yJ7_fill_fda19.desc).map (fun d => d.parameters.length) = some 4 := by decide +kernel
theorem fX2_sortSides_7 : Cond.fieldLink RX2 7 "TourChain$Graph" "vertexAt" "[I" ∈ wsX2_sortSides := by decide +kernel
set_option maxHeartbeats 4000000 in
set_option maxRecDepth 100000 in
theorem kX2_sortSides (l : Launch) (D : va_G) (cI cZ cG cJ : ClassId) (go : Nat) (fo : Nat) (ve : Nat) (ed : Nat) (se : Nat) (ci : Nat) (gva : Nat) (gsi : Nat) (gsd : Nat) (gst : Nat) (cv : Nat) (fv : Nat → Int32) (c1 : Nat) (f1 : Nat → Int32) (c2 : Nat) (f2 : Nat → Int32) (c3 : Nat) (f3s : Nat → Int32) (w : Nat → Nat) (h1 : 1 ≤ ed) (h2 : ed ≤ 100000) (h3 : ve ≤ 100000) (h4 : (2 * ed) ≤ cv) (h5 : cv ≤ 1000000) (h6 : c1 ≤ 400000) (h7 : c2 ≤ 400000) (h8 : c3 ≤ 400000) (hv : ∀ d, d < (2 * ed) → fv d = nI (w d)) (hw : ∀ d, d < (2 * ed) → w d < ve) : zC l yX2_sortSides wsX2_sortSides 2 61 ((zrm (2 * ed) c1 - c1) + (zrm (2 * ed) c2 - c2) + (zrm (ve + 1) c3 - c3)) (2 * ((zrm (2 * ed) c1 - c1) + (zrm (2 * ed) c2 - c2) + (zrm (ve + 1) c3 - c3))) D (zT cI cZ cG cJ) [.ref go] [(go, .inr (4, [.ref fo, .int (nI ve), .int (nI ed), .int (nI se), .int (nI ci), .ref gva, .ref gsi, .ref gsd, .ref gst])), (gva, .inl (cI, cv, .inl fv)), (gsi, .inl (cI, c1, .inl f1)), (gsd, .inl (cI, c2, .inl f2)), (gst, .inl (cI, c3, .inl f3s))] (fun (ov : Option Value) (ow : va_W) => ∃ a1' : Nat, ∃ f1' : Nat → Int32, ∃ a2' : Nat, ∃ f2' : Nat → Int32, ∃ a3' : Nat, ∃ f3' : Nat → Int32, ov = none ∧ ow = [(go, .inr (4, [.ref fo, .int (nI ve), .int (nI ed), .int (nI se), .int (nI ci), .ref gva, .ref a1', .ref a2', .ref a3'])), (gva, .inl (cI, cv, .inl fv)), (a1', .inl (cI, (zrm (2 * ed) c1), .inl f1')), (a2', .inl (cI, (zrm (2 * ed) c2), .inl f2')), (a3', .inl (cI, (zrm (ve + 1) c3), .inl f3'))] ∧ (∀ u, u ≤ ve → f3' u = nI (zc (zlt w u) (2 * ed))) ∧ (∀ d, d < (2 * ed) → f2' d = nI (zpos w (2 * ed) d)) ∧ (∀ d, d < (2 * ed) → f1' (zpos w (2 * ed) d) = nI d)) := by
  refine zC.of (cc := cX2_sortSides) (maxL := 4) (ret := none) (by decide) rfl (Nat.le_of_ble_eq_true rfl) ?_
  intro p e s m below meth c A ls F hr hlk hnm B hl
  have hl : lv_has ls 4 [(0, .ref go)] := hl
  have hr1 := zrm_le (2 * ed) c1; have hr2 := zrm_le (2 * ed) c2; have hr3 := zrm_le (ve + 1) c3
  have hu1 : zrm (2 * ed) c1 ≤ 400000 := zrm_ub h6 (by omega)
  have hu2 : zrm (2 * ed) c2 ≤ 400000 := zrm_ub h7 (by omega)
  have hu3 : zrm (ve + 1) c3 ≤ 400000 := zrm_ub h8 (by omega)
  refine lv_iconst (v := (nI 2)) F.1 F.2.1 dX2_sortSides_0 (by decide) ?_
  refine lv_aload_n F.1 F.2.1 dX2_sortSides_1 rfl (lv_at hl 0 rfl) ?_
  refine z_get F B 0 rfl (ci := 4) (C := RX2) (T := TX2) (N := 9) rfl iX2_sortSides_X2 2 (by decide) fX2_sortSides_26 rfl dX2_sortSides_2 ?_
  refine z_imul F dX2_sortSides_5 ?_
  refine lv_istore_n (lv' := [(1, .int (nI (2 * ed))), (0, .ref go)]) F.1 F.2.1 dX2_sortSides_6 rfl hl (by decide) rfl (fun ls hl => ?_)
  refine lv_aload_n F.1 F.2.1 dX2_sortSides_7 rfl (lv_at hl 1 rfl) ?_
  refine lv_aload_n F.1 F.2.1 dX2_sortSides_8 rfl (lv_at hl 1 rfl) ?_
  refine z_get F B 0 rfl (ci := 4) (C := RX2) (T := TX2) (N := 9) rfl iX2_sortSides_X2 6 (by decide) fX2_sortSides_13 rfl dX2_sortSides_9 ?_
  refine lv_iload_n F.1 F.2.1 dX2_sortSides_12 rfl (lv_at hl 0 rfl) ?_
  refine z_callSN (wr := [(go, .inr (4, [.ref fo, .int (nI ve), .int (nI ed), .int (nI se), .int (nI ci), .ref gva, .ref gsi, .ref gsd, .ref gst])), (gva, .inl (cI, cv, .inl fv)), (gsd, .inl (cI, c2, .inl f2)), (gst, .inl (cI, c3, .inl f3s))]) (rest := [.ref go]) (As := [.ref gsi, .int (nI (2 * ed))]) (host := RX7) F B (kX7_roomFor l D cI cZ cG cJ gsi c1 f1 (2 * ed) (by omega) (by omega)) hl.1 gX2_sortSides_X7_roomFor_n48 nX2_sortSides_X7_roomFor mX2_sortSides_stX7_roomFor mX2_sortSides_iyX7_roomFor rfl 2 yX2_sortSides_X7_roomFor rfl [2] [0, 1, 3, 4] rfl rfl rfl rfl (by decide) (Nat.le_of_ble_eq_true rfl) (Nat.le_of_ble_eq_true rfl) (Nat.le_of_ble_eq_true rfl) rfl dX2_sortSides_13 (show 0 + (zrm (2 * ed) c1 - c1) ≤ (zrm (2 * ed) c1 - c1) + (zrm (2 * ed) c2 - c2) + (zrm (ve + 1) c3 - c3) by omega) (show 0 + (2 * (zrm (2 * ed) c1 - c1)) ≤ 2 * ((zrm (2 * ed) c1 - c1) + (zrm (2 * ed) c2 - c2) + (zrm (ve + 1) c3 - c3)) by omega) (fun vv ww H locs hRR B => ?_)
  obtain ⟨a'_1, f'_2, rfl, rfl⟩ := hRR
  have B : zB D (zT cI cZ cG cJ) A s.heap s [(go, .inr (4, [.ref fo, .int (nI ve), .int (nI ed), .int (nI se), .int (nI ci), .ref gva, .ref gsi, .ref gsd, .ref gst])), (gva, .inl (cI, cv, .inl fv)), (gsd, .inl (cI, c2, .inl f2)), (gst, .inl (cI, c3, .inl f3s)), (a'_1, .inl (cI, (zrm (2 * ed) c1), .inl f'_2))] _ _ := B
  refine W.eq (g2 := F0 m 16 ls [.ref a'_1, .ref go]) rfl ?_
  refine z_put F B 0 rfl (ci := 4) (C := RX2) (T := TX2) (N := 9) rfl iX2_sortSides_X2 tyX2 tyX2_ok nmX2 6 (by decide) fX2_sortSides_13 rfl (v := .ref a'_1) rfl rfl (Nat.le_of_ble_eq_true rfl) dX2_sortSides_16 (fun H locs B => ?_)
  have B : zB D (zT cI cZ cG cJ) A s.heap s [(go, .inr (4, [.ref fo, .int (nI ve), .int (nI ed), .int (nI se), .int (nI ci), .ref gva, .ref a'_1, .ref gsd, .ref gst])), (gva, .inl (cI, cv, .inl fv)), (gsd, .inl (cI, c2, .inl f2)), (gst, .inl (cI, c3, .inl f3s)), (a'_1, .inl (cI, (zrm (2 * ed) c1), .inl f'_2))] _ _ := B
  refine lv_aload_n F.1 F.2.1 dX2_sortSides_19 rfl (lv_at hl 1 rfl) ?_
  refine lv_aload_n F.1 F.2.1 dX2_sortSides_20 rfl (lv_at hl 1 rfl) ?_
  refine z_get F B 0 rfl (ci := 4) (C := RX2) (T := TX2) (N := 9) rfl iX2_sortSides_X2 7 (by decide) fX2_sortSides_16 rfl dX2_sortSides_21 ?_
  refine lv_iload_n F.1 F.2.1 dX2_sortSides_24 rfl (lv_at hl 0 rfl) ?_
  refine z_callSN (wr := [(go, .inr (4, [.ref fo, .int (nI ve), .int (nI ed), .int (nI se), .int (nI ci), .ref gva, .ref a'_1, .ref gsd, .ref gst])), (gva, .inl (cI, cv, .inl fv)), (gst, .inl (cI, c3, .inl f3s)), (a'_1, .inl (cI, (zrm (2 * ed) c1), .inl f'_2))]) (rest := [.ref go]) (As := [.ref gsd, .int (nI (2 * ed))]) (host := RX7) F B (kX7_roomFor l D cI cZ cG cJ gsd c2 f2 (2 * ed) (by omega) (by omega)) hl.1 gX2_sortSides_X7_roomFor_n48 nX2_sortSides_X7_roomFor mX2_sortSides_stX7_roomFor mX2_sortSides_iyX7_roomFor rfl 2 yX2_sortSides_X7_roomFor rfl [2] [0, 1, 3, 4] rfl rfl rfl rfl (by decide) (Nat.le_of_ble_eq_true rfl) (Nat.le_of_ble_eq_true rfl) (Nat.le_of_ble_eq_true rfl) rfl dX2_sortSides_25 (show 0 + (zrm (2 * ed) c1 - c1) + (zrm (2 * ed) c2 - c2) ≤ (zrm (2 * ed) c1 - c1) + (zrm (2 * ed) c2 - c2) + (zrm (ve + 1) c3 - c3) by omega) (show 0 + (2 * (zrm (2 * ed) c1 - c1)) + (2 * (zrm (2 * ed) c2 - c2)) ≤ 2 * ((zrm (2 * ed) c1 - c1) + (zrm (2 * ed) c2 - c2) + (zrm (ve + 1) c3 - c3)) by omega) (fun vv ww H locs hRR B => ?_)
  obtain ⟨a'_3, f'_4, rfl, rfl⟩ := hRR
  have B : zB D (zT cI cZ cG cJ) A s.heap s [(go, .inr (4, [.ref fo, .int (nI ve), .int (nI ed), .int (nI se), .int (nI ci), .ref gva, .ref a'_1, .ref gsd, .ref gst])), (gva, .inl (cI, cv, .inl fv)), (gst, .inl (cI, c3, .inl f3s)), (a'_1, .inl (cI, (zrm (2 * ed) c1), .inl f'_2)), (a'_3, .inl (cI, (zrm (2 * ed) c2), .inl f'_4))] _ _ := B
  refine W.eq (g2 := F0 m 28 ls [.ref a'_3, .ref go]) rfl ?_
  refine z_put F B 0 rfl (ci := 4) (C := RX2) (T := TX2) (N := 9) rfl iX2_sortSides_X2 tyX2 tyX2_ok nmX2 7 (by decide) fX2_sortSides_16 rfl (v := .ref a'_3) rfl rfl (Nat.le_of_ble_eq_true rfl) dX2_sortSides_28 (fun H locs B => ?_)
  have B : zB D (zT cI cZ cG cJ) A s.heap s [(go, .inr (4, [.ref fo, .int (nI ve), .int (nI ed), .int (nI se), .int (nI ci), .ref gva, .ref a'_1, .ref a'_3, .ref gst])), (gva, .inl (cI, cv, .inl fv)), (gst, .inl (cI, c3, .inl f3s)), (a'_1, .inl (cI, (zrm (2 * ed) c1), .inl f'_2)), (a'_3, .inl (cI, (zrm (2 * ed) c2), .inl f'_4))] _ _ := B
  refine lv_aload_n F.1 F.2.1 dX2_sortSides_31 rfl (lv_at hl 1 rfl) ?_
  refine lv_aload_n F.1 F.2.1 dX2_sortSides_32 rfl (lv_at hl 1 rfl) ?_
  refine z_get F B 0 rfl (ci := 4) (C := RX2) (T := TX2) (N := 9) rfl iX2_sortSides_X2 8 (by decide) fX2_sortSides_19 rfl dX2_sortSides_33 ?_
  refine lv_aload_n F.1 F.2.1 dX2_sortSides_36 rfl (lv_at hl 1 rfl) ?_
  refine z_get F B 0 rfl (ci := 4) (C := RX2) (T := TX2) (N := 9) rfl iX2_sortSides_X2 1 (by decide) fX2_sortSides_39 rfl dX2_sortSides_37 ?_
  refine lv_iconst (v := (nI 1)) F.1 F.2.1 dX2_sortSides_40 (by decide) ?_
  refine z_iadd F dX2_sortSides_41 ?_
  refine z_callSN (wr := [(go, .inr (4, [.ref fo, .int (nI ve), .int (nI ed), .int (nI se), .int (nI ci), .ref gva, .ref a'_1, .ref a'_3, .ref gst])), (gva, .inl (cI, cv, .inl fv)), (a'_1, .inl (cI, (zrm (2 * ed) c1), .inl f'_2)), (a'_3, .inl (cI, (zrm (2 * ed) c2), .inl f'_4))]) (rest := [.ref go]) (As := [.ref gst, .int (nI (ve + 1))]) (host := RX7) F B (kX7_roomFor l D cI cZ cG cJ gst c3 f3s (ve + 1) (by omega) (by omega)) hl.1 gX2_sortSides_X7_roomFor_n48 nX2_sortSides_X7_roomFor mX2_sortSides_stX7_roomFor mX2_sortSides_iyX7_roomFor rfl 2 yX2_sortSides_X7_roomFor rfl [2] [0, 1, 3, 4] rfl rfl rfl rfl (by decide) (Nat.le_of_ble_eq_true rfl) (Nat.le_of_ble_eq_true rfl) (Nat.le_of_ble_eq_true rfl) rfl dX2_sortSides_42 (show 0 + (zrm (2 * ed) c1 - c1) + (zrm (2 * ed) c2 - c2) + (zrm (ve + 1) c3 - c3) ≤ (zrm (2 * ed) c1 - c1) + (zrm (2 * ed) c2 - c2) + (zrm (ve + 1) c3 - c3) by omega) (show 0 + (2 * (zrm (2 * ed) c1 - c1)) + (2 * (zrm (2 * ed) c2 - c2)) + (2 * (zrm (ve + 1) c3 - c3)) ≤ 2 * ((zrm (2 * ed) c1 - c1) + (zrm (2 * ed) c2 - c2) + (zrm (ve + 1) c3 - c3)) by omega) (fun vv ww H locs hRR B => ?_)
  obtain ⟨a'_5, f'_6, rfl, rfl⟩ := hRR
  have B : zB D (zT cI cZ cG cJ) A s.heap s [(go, .inr (4, [.ref fo, .int (nI ve), .int (nI ed), .int (nI se), .int (nI ci), .ref gva, .ref a'_1, .ref a'_3, .ref gst])), (gva, .inl (cI, cv, .inl fv)), (a'_1, .inl (cI, (zrm (2 * ed) c1), .inl f'_2)), (a'_3, .inl (cI, (zrm (2 * ed) c2), .inl f'_4)), (a'_5, .inl (cI, (zrm (ve + 1) c3), .inl f'_6))] _ _ := B
  refine W.eq (g2 := F0 m 45 ls [.ref a'_5, .ref go]) rfl ?_
  refine z_put F B 0 rfl (ci := 4) (C := RX2) (T := TX2) (N := 9) rfl iX2_sortSides_X2 tyX2 tyX2_ok nmX2 8 (by decide) fX2_sortSides_19 rfl (v := .ref a'_5) rfl rfl (Nat.le_of_ble_eq_true rfl) dX2_sortSides_45 (fun H locs B => ?_)
  have B : zB D (zT cI cZ cG cJ) A s.heap s [(go, .inr (4, [.ref fo, .int (nI ve), .int (nI ed), .int (nI se), .int (nI ci), .ref gva, .ref a'_1, .ref a'_3, .ref a'_5])), (gva, .inl (cI, cv, .inl fv)), (a'_1, .inl (cI, (zrm (2 * ed) c1), .inl f'_2)), (a'_3, .inl (cI, (zrm (2 * ed) c2), .inl f'_4)), (a'_5, .inl (cI, (zrm (ve + 1) c3), .inl f'_6))] _ _ := B
  refine lv_aload_n F.1 F.2.1 dX2_sortSides_48 rfl (lv_at hl 1 rfl) ?_
  refine z_get F B 0 rfl (ci := 4) (C := RX2) (T := TX2) (N := 9) rfl iX2_sortSides_X2 8 (by decide) fX2_sortSides_19 rfl dX2_sortSides_49 ?_
  refine lv_iconst (v := (nI 0)) F.1 F.2.1 dX2_sortSides_52 (by decide) ?_
  refine lv_aload_n F.1 F.2.1 dX2_sortSides_53 rfl (lv_at hl 1 rfl) ?_
  refine z_get F B 0 rfl (ci := 4) (C := RX2) (T := TX2) (N := 9) rfl iX2_sortSides_X2 1 (by decide) fX2_sortSides_39 rfl dX2_sortSides_54 ?_
  refine lv_iconst (v := (nI 1)) F.1 F.2.1 dX2_sortSides_57 (by decide) ?_
  refine z_iadd F dX2_sortSides_58 ?_
  refine lv_iconst (v := (nI 0)) F.1 F.2.1 dX2_sortSides_59 (by decide) ?_
  refine z_callSJ (wr := [(go, .inr (4, [.ref fo, .int (nI ve), .int (nI ed), .int (nI se), .int (nI ci), .ref gva, .ref a'_1, .ref a'_3, .ref a'_5])), (gva, .inl (cI, cv, .inl fv)), (a'_1, .inl (cI, (zrm (2 * ed) c1), .inl f'_2)), (a'_3, .inl (cI, (zrm (2 * ed) c2), .inl f'_4))]) (rest := []) (As := [.ref a'_5, .int (nI 0), .int (nI (ve + 1)), .int (nI 0)]) F B (kJ7_fill_fda19 l D cI cZ cG cJ a'_5 (zrm (ve + 1) c3) f'_6 0 (ve + 1) (nI 0) (by omega) (by omega) (by omega)) hl.1 gX2_sortSides_J7_fill_fda19 rfl 4 yX2_sortSides_J7_fill_fda19 rfl [4] [0, 1, 2, 3] rfl rfl rfl rfl (by decide) (Nat.le_of_ble_eq_true rfl) (Nat.le_of_ble_eq_true rfl) (Nat.le_of_ble_eq_true rfl) rfl dX2_sortSides_60 (show 0 + (zrm (2 * ed) c1 - c1) + (zrm (2 * ed) c2 - c2) + (zrm (ve + 1) c3 - c3) + 0 ≤ (zrm (2 * ed) c1 - c1) + (zrm (2 * ed) c2 - c2) + (zrm (ve + 1) c3 - c3) by omega) (show 0 + (2 * (zrm (2 * ed) c1 - c1)) + (2 * (zrm (2 * ed) c2 - c2)) + (2 * (zrm (ve + 1) c3 - c3)) + 0 ≤ 2 * ((zrm (2 * ed) c1 - c1) + (zrm (2 * ed) c2 - c2) + (zrm (ve + 1) c3 - c3)) by omega) (fun vv ww H locs hRR B => ?_)
  obtain ⟨rfl, rfl⟩ := hRR
  have B : zB D (zT cI cZ cG cJ) A s.heap s [(go, .inr (4, [.ref fo, .int (nI ve), .int (nI ed), .int (nI se), .int (nI ci), .ref gva, .ref a'_1, .ref a'_3, .ref a'_5])), (gva, .inl (cI, cv, .inl fv)), (a'_1, .inl (cI, (zrm (2 * ed) c1), .inl f'_2)), (a'_3, .inl (cI, (zrm (2 * ed) c2), .inl f'_4)), (a'_5, .inl (cI, (zrm (ve + 1) c3), .inl (zfill f'_6 0 (ve + 1) (nI 0))))] _ _ := B
  refine W.eq (g2 := F0 m 63 ls []) rfl ?_
  refine lv_iconst (v := (nI 0)) F.1 F.2.1 dX2_sortSides_63 (by decide) ?_
  refine lv_istore_n (lv' := [(2, .int (nI 0)), (1, .int (nI (2 * ed))), (0, .ref go)]) F.1 F.2.1 dX2_sortSides_64 rfl hl (by decide) rfl (fun ls hl => ?_)
  have loop65 : ∀ (fuel : Nat) (k : Nat) (b1 : Nat) (g1 : Nat → Int32) (b2 : Nat) (g2 : Nat → Int32) (b3 : Nat) (g3 : Nat → Int32), (2 * ed) - k < fuel → (k ≤ (2 * ed)) → (∀ u, u ≤ ve → g3 u = nI (zc (zeq w u) k)) → ∀ (H : Heap) (locs : List Loc) (ls : Array Slot), zB D (zT cI cZ cG cJ) A s.heap s [(go, .inr (4, [.ref fo, .int (nI ve), .int (nI ed), .int (nI se), .int (nI ci), .ref gva, .ref b1, .ref b2, .ref b3])), (gva, .inl (cI, cv, .inl fv)), (b1, .inl (cI, (zrm (2 * ed) c1), .inl g1)), (b2, .inl (cI, (zrm (2 * ed) c2), .inl g2)), (b3, .inl (cI, (zrm (ve + 1) c3), .inl g3))] H locs → lv_has ls 4 [(0, .ref go), (1, .int (nI (2 * ed))), (2, .int (nI k))] → W p l e { frames := 2, cells := (zrm (2 * ed) c1 - c1) + (zrm (2 * ed) c2 - c2) + (zrm (ve + 1) c3 - c3), slots := 2 * ((zrm (2 * ed) c1 - c1) + (zrm (2 * ed) c2 - c2) + (zrm (ve + 1) c3 - c3)), locals := 61 } s m [.ref go].toArray below meth c H locs ((zrm (2 * ed) c1 - c1) + (zrm (2 * ed) c2 - c2) + (zrm (ve + 1) c3 - c3)) (2 * ((zrm (2 * ed) c1 - c1) + (zrm (2 * ed) c2 - c2) + (zrm (ve + 1) c3 - c3))) (zQ below [.ref go].toArray s D (zT cI cZ cG cJ) A (fun (ov : Option Value) (ow : va_W) => ∃ a1' : Nat, ∃ f1' : Nat → Int32, ∃ a2' : Nat, ∃ f2' : Nat → Int32, ∃ a3' : Nat, ∃ f3' : Nat → Int32, ov = none ∧ ow = [(go, .inr (4, [.ref fo, .int (nI ve), .int (nI ed), .int (nI se), .int (nI ci), .ref gva, .ref a1', .ref a2', .ref a3'])), (gva, .inl (cI, cv, .inl fv)), (a1', .inl (cI, (zrm (2 * ed) c1), .inl f1')), (a2', .inl (cI, (zrm (2 * ed) c2), .inl f2')), (a3', .inl (cI, (zrm (ve + 1) c3), .inl f3'))] ∧ (∀ u, u ≤ ve → f3' u = nI (zc (zlt w u) (2 * ed))) ∧ (∀ d, d < (2 * ed) → f2' d = nI (zpos w (2 * ed) d)) ∧ (∀ d, d < (2 * ed) → f1' (zpos w (2 * ed) d) = nI d)) ((zrm (2 * ed) c1 - c1) + (zrm (2 * ed) c2 - c2) + (zrm (ve + 1) c3 - c3)) (2 * ((zrm (2 * ed) c1 - c1) + (zrm (2 * ed) c2 - c2) + (zrm (ve + 1) c3 - c3)))) (F0 m 65 ls []) := by
    intro fuel
    induction fuel with
    | zero => intro k b1 g1 b2 g2 b3 g3 hmz; exact absurd hmz (Nat.not_lt_zero _)
    | succ fuel ih =>
      intro k b1 g1 b2 g2 b3 g3 hm hk hg H locs ls B hl
      have ih65 := ih
      refine lv_iload_n F.1 F.2.1 dX2_sortSides_65 rfl (lv_at hl 2 rfl) ?_
      refine lv_iload_n F.1 F.2.1 dX2_sortSides_66 rfl (lv_at hl 1 rfl) ?_
      refine z_icmp_ge (tgt := 91) F (by omega) (by omega) dX2_sortSides_67 (by decide) (fun c67 => ?_) (fun c67 => ?_)
      · have hkn : k = (2 * ed) := by omega
        rw [hkn] at hg
        refine lv_iconst (v := (nI 1)) F.1 F.2.1 dX2_sortSides_91 (by decide) ?_
        refine lv_istore_n (lv' := [(2, .int (nI 1)), (0, .ref go), (1, .int (nI (2 * ed)))]) F.1 F.2.1 dX2_sortSides_92 rfl hl (by decide) rfl (fun ls hl => ?_)
        have loop93 : ∀ (fuel : Nat) (x : Nat) (b1 : Nat) (g1 : Nat → Int32) (b2 : Nat) (g2 : Nat → Int32) (b3 : Nat) (g3 : Nat → Int32), ve + 1 - x < fuel → (1 ≤ x) → (x ≤ ve + 1) → (∀ u, u < x → g3 u = nI (zc (zlt w (u + 1)) (2 * ed))) → (∀ u, x ≤ u → u ≤ ve → g3 u = nI (zc (zeq w u) (2 * ed))) → ∀ (H : Heap) (locs : List Loc) (ls : Array Slot), zB D (zT cI cZ cG cJ) A s.heap s [(go, .inr (4, [.ref fo, .int (nI ve), .int (nI ed), .int (nI se), .int (nI ci), .ref gva, .ref b1, .ref b2, .ref b3])), (gva, .inl (cI, cv, .inl fv)), (b1, .inl (cI, (zrm (2 * ed) c1), .inl g1)), (b2, .inl (cI, (zrm (2 * ed) c2), .inl g2)), (b3, .inl (cI, (zrm (ve + 1) c3), .inl g3))] H locs → lv_has ls 4 [(0, .ref go), (1, .int (nI (2 * ed))), (2, .int (nI x))] → W p l e { frames := 2, cells := (zrm (2 * ed) c1 - c1) + (zrm (2 * ed) c2 - c2) + (zrm (ve + 1) c3 - c3), slots := 2 * ((zrm (2 * ed) c1 - c1) + (zrm (2 * ed) c2 - c2) + (zrm (ve + 1) c3 - c3)), locals := 61 } s m [.ref go].toArray below meth c H locs ((zrm (2 * ed) c1 - c1) + (zrm (2 * ed) c2 - c2) + (zrm (ve + 1) c3 - c3)) (2 * ((zrm (2 * ed) c1 - c1) + (zrm (2 * ed) c2 - c2) + (zrm (ve + 1) c3 - c3))) (zQ below [.ref go].toArray s D (zT cI cZ cG cJ) A (fun (ov : Option Value) (ow : va_W) => ∃ a1' : Nat, ∃ f1' : Nat → Int32, ∃ a2' : Nat, ∃ f2' : Nat → Int32, ∃ a3' : Nat, ∃ f3' : Nat → Int32, ov = none ∧ ow = [(go, .inr (4, [.ref fo, .int (nI ve), .int (nI ed), .int (nI se), .int (nI ci), .ref gva, .ref a1', .ref a2', .ref a3'])), (gva, .inl (cI, cv, .inl fv)), (a1', .inl (cI, (zrm (2 * ed) c1), .inl f1')), (a2', .inl (cI, (zrm (2 * ed) c2), .inl f2')), (a3', .inl (cI, (zrm (ve + 1) c3), .inl f3'))] ∧ (∀ u, u ≤ ve → f3' u = nI (zc (zlt w u) (2 * ed))) ∧ (∀ d, d < (2 * ed) → f2' d = nI (zpos w (2 * ed) d)) ∧ (∀ d, d < (2 * ed) → f1' (zpos w (2 * ed) d) = nI d)) ((zrm (2 * ed) c1 - c1) + (zrm (2 * ed) c2 - c2) + (zrm (ve + 1) c3 - c3)) (2 * ((zrm (2 * ed) c1 - c1) + (zrm (2 * ed) c2 - c2) + (zrm (ve + 1) c3 - c3)))) (F0 m 93 ls []) := by
          intro fuel
          induction fuel with
          | zero => intro x b1 g1 b2 g2 b3 g3 hmz; exact absurd hmz (Nat.not_lt_zero _)
          | succ fuel ih =>
            intro x b1 g1 b2 g2 b3 g3 hm hx hx2 hg1 hg2 H locs ls B hl
            have ih93 := ih
            refine lv_iload_n F.1 F.2.1 dX2_sortSides_93 rfl (lv_at hl 2 rfl) ?_
            refine lv_aload_n F.1 F.2.1 dX2_sortSides_94 rfl (lv_at hl 0 rfl) ?_
            refine z_get F B 0 rfl (ci := 4) (C := RX2) (T := TX2) (N := 9) rfl iX2_sortSides_X2 1 (by decide) fX2_sortSides_39 rfl dX2_sortSides_95 ?_
            refine z_icmp_gt (tgt := 124) F (by omega) (by omega) dX2_sortSides_98 (by decide) (fun c98 => ?_) (fun c98 => ?_)
            · have hxv : x = ve + 1 := by omega
              refine lv_iload_n F.1 F.2.1 dX2_sortSides_124 rfl (lv_at hl 1 rfl) ?_
              refine lv_iconst (v := (nI 1)) F.1 F.2.1 dX2_sortSides_125 (by decide) ?_
              refine lv_isub F.1 F.2.1 dX2_sortSides_126 ?_
              refine lv_istore_n (lv' := [(2, .int ((nI (2 * ed)) - (nI 1))), (0, .ref go), (1, .int (nI (2 * ed)))]) F.1 F.2.1 dX2_sortSides_127 rfl hl (by decide) rfl (fun ls hl => ?_)
              have loop128 : ∀ (fuel : Nat) (k : Nat) (b1 : Nat) (g1 : Nat → Int32) (b2 : Nat) (g2 : Nat → Int32) (b3 : Nat) (g3 : Nat → Int32), k < fuel → (k ≤ (2 * ed)) → (∀ u, u ≤ ve → g3 u = nI (zc (zlt w u) (2 * ed) + zc (zeq w u) k)) → (∀ d, k ≤ d → d < (2 * ed) → g2 d = nI (zpos w (2 * ed) d)) → (∀ d, k ≤ d → d < (2 * ed) → g1 (zpos w (2 * ed) d) = nI d) → ∀ (H : Heap) (locs : List Loc) (ls : Array Slot), zB D (zT cI cZ cG cJ) A s.heap s [(go, .inr (4, [.ref fo, .int (nI ve), .int (nI ed), .int (nI se), .int (nI ci), .ref gva, .ref b1, .ref b2, .ref b3])), (gva, .inl (cI, cv, .inl fv)), (b1, .inl (cI, (zrm (2 * ed) c1), .inl g1)), (b2, .inl (cI, (zrm (2 * ed) c2), .inl g2)), (b3, .inl (cI, (zrm (ve + 1) c3), .inl g3))] H locs → lv_has ls 4 [(0, .ref go), (1, .int (nI (2 * ed))), (2, .int (nI k - nI 1))] → W p l e { frames := 2, cells := (zrm (2 * ed) c1 - c1) + (zrm (2 * ed) c2 - c2) + (zrm (ve + 1) c3 - c3), slots := 2 * ((zrm (2 * ed) c1 - c1) + (zrm (2 * ed) c2 - c2) + (zrm (ve + 1) c3 - c3)), locals := 61 } s m [.ref go].toArray below meth c H locs ((zrm (2 * ed) c1 - c1) + (zrm (2 * ed) c2 - c2) + (zrm (ve + 1) c3 - c3)) (2 * ((zrm (2 * ed) c1 - c1) + (zrm (2 * ed) c2 - c2) + (zrm (ve + 1) c3 - c3))) (zQ below [.ref go].toArray s D (zT cI cZ cG cJ) A (fun (ov : Option Value) (ow : va_W) => ∃ a1' : Nat, ∃ f1' : Nat → Int32, ∃ a2' : Nat, ∃ f2' : Nat → Int32, ∃ a3' : Nat, ∃ f3' : Nat → Int32, ov = none ∧ ow = [(go, .inr (4, [.ref fo, .int (nI ve), .int (nI ed), .int (nI se), .int (nI ci), .ref gva, .ref a1', .ref a2', .ref a3'])), (gva, .inl (cI, cv, .inl fv)), (a1', .inl (cI, (zrm (2 * ed) c1), .inl f1')), (a2', .inl (cI, (zrm (2 * ed) c2), .inl f2')), (a3', .inl (cI, (zrm (ve + 1) c3), .inl f3'))] ∧ (∀ u, u ≤ ve → f3' u = nI (zc (zlt w u) (2 * ed))) ∧ (∀ d, d < (2 * ed) → f2' d = nI (zpos w (2 * ed) d)) ∧ (∀ d, d < (2 * ed) → f1' (zpos w (2 * ed) d) = nI d)) ((zrm (2 * ed) c1 - c1) + (zrm (2 * ed) c2 - c2) + (zrm (ve + 1) c3 - c3)) (2 * ((zrm (2 * ed) c1 - c1) + (zrm (2 * ed) c2 - c2) + (zrm (ve + 1) c3 - c3)))) (F0 m 128 ls []) := by
                intro fuel
                induction fuel with
                | zero => intro k b1 g1 b2 g2 b3 g3 hmz; exact absurd hmz (Nat.not_lt_zero _)
                | succ fuel ih =>
                  intro k b1 g1 b2 g2 b3 g3 hm hk hs3 hs2 hs1 H locs ls B hl
                  have ih128 := ih
                  refine lv_iload_n F.1 F.2.1 dX2_sortSides_128 rfl (lv_at hl 2 rfl) ?_
                  refine lv_if_lt (tgt := 179) F.1 F.2.1 dX2_sortSides_129 (by decide) (fun c129 => ?_) (fun c129 => ?_)
                  · have hk0 : k = 0 := (zneg1 (by omega)).mp c129
                    subst hk0
                    exact z_vret F hr hlk B [0, 1, 2, 3, 4] rfl (rfl) dX2_sortSides_179 (by omega) (by omega) ⟨b1, g1, b2, g2, b3, g3, rfl, rfl, (fun u hu => by rw [hs3 u hu]; rfl), (fun d hd => hs2 d (Nat.zero_le _) hd), (fun d hd => hs1 d (Nat.zero_le _) hd)⟩
                  · have hk0 : ¬ k = 0 := fun q9 => c129 ((zneg1 (by omega)).mpr q9)
                    rw [pk_sub (show 1 ≤ k by omega)] at hl
                    have hwk := hw (k - 1) (by omega)
                    have hzn := zpos_n (w := w) (n := (2 * ed)) (d := k - 1) (by omega)
                    have hs3k : ∀ u, u ≤ ve → g3 u = nI (zc (zlt w u) (2 * ed) + zc (zeq w u) (k - 1 + 1)) := by rw [show k - 1 + 1 = k by omega]; exact hs3
                    have hs2k : ∀ d, k - 1 + 1 ≤ d → d < (2 * ed) → g2 d = nI (zpos w (2 * ed) d) := by rw [show k - 1 + 1 = k by omega]; exact hs2
                    have hs1k : ∀ d, k - 1 + 1 ≤ d → d < (2 * ed) → g1 (zpos w (2 * ed) d) = nI d := by rw [show k - 1 + 1 = k by omega]; exact hs1
                    have hl : lv_has ls 4 [(0, .ref go), (1, .int (nI (2 * ed))), (2, .int (nI (k - 1)))] := hl
                    refine lv_aload_n F.1 F.2.1 dX2_sortSides_132 rfl (lv_at hl 0 rfl) ?_
                    refine z_get F B 0 rfl (ci := 4) (C := RX2) (T := TX2) (N := 9) rfl iX2_sortSides_X2 5 (by decide) fX2_sortSides_7 rfl dX2_sortSides_133 ?_
                    refine lv_iload_n F.1 F.2.1 dX2_sortSides_136 rfl (lv_at hl 2 rfl) ?_
                    refine z_iald F B 1 0 rfl rfl (j := k - 1) (by omega) (by omega) dX2_sortSides_137 ?_
                    refine W.eq (g2 := F0 m 138 ls [.int (nI (w (k - 1)))]) (by rw [hv (k - 1) (by omega)]) ?_
                    refine lv_istore_n (lv' := [(3, .int (nI (w (k - 1)))), (0, .ref go), (1, .int (nI (2 * ed))), (2, .int (nI (k - 1)))]) F.1 F.2.1 dX2_sortSides_138 rfl hl (by decide) rfl (fun ls hl => ?_)
                    refine lv_aload_n F.1 F.2.1 dX2_sortSides_139 rfl (lv_at hl 1 rfl) ?_
                    refine z_get F B 0 rfl (ci := 4) (C := RX2) (T := TX2) (N := 9) rfl iX2_sortSides_X2 8 (by decide) fX2_sortSides_19 rfl dX2_sortSides_140 ?_
                    refine lv_iload_n F.1 F.2.1 dX2_sortSides_143 rfl (lv_at hl 0 rfl) ?_
                    refine lv_dup2_11 F.1 F.2.1 dX2_sortSides_144 rfl rfl ?_
                    refine z_iald F B 4 0 rfl rfl (j := w (k - 1)) (by omega) (by omega) dX2_sortSides_145 ?_
                    refine W.eq (g2 := F0 m 146 ls [.int (nI (zpos w (2 * ed) (k - 1) + 1)), .int (nI (w (k - 1))), .ref b3]) (by rw [hs3k (w (k - 1)) (by omega), zc_eqS, show zc (zlt w (w (k - 1))) (2 * ed) + (zc (zeq w (w (k - 1))) (k - 1) + 1) = zpos w (2 * ed) (k - 1) + 1 from rfl]) ?_
                    refine lv_iconst (v := (nI 1)) F.1 F.2.1 dX2_sortSides_146 (by decide) ?_
                    refine z_isub F (by omega) dX2_sortSides_147 ?_
                    refine W.eq (g2 := F0 m 148 ls [.int (nI (zpos w (2 * ed) (k - 1))), .int (nI (w (k - 1))), .ref b3]) (rfl) ?_
                    refine z_iast F B 4 0 rfl rfl (j := w (k - 1)) (by omega) (by omega) dX2_sortSides_148 (fun H locs B => ?_)
                    have B : zB D (zT cI cZ cG cJ) A s.heap s [(go, .inr (4, [.ref fo, .int (nI ve), .int (nI ed), .int (nI se), .int (nI ci), .ref gva, .ref b1, .ref b2, .ref b3])), (gva, .inl (cI, cv, .inl fv)), (b1, .inl (cI, (zrm (2 * ed) c1), .inl g1)), (b2, .inl (cI, (zrm (2 * ed) c2), .inl g2)), (b3, .inl (cI, (zrm (ve + 1) c3), .inl (upd g3 (w (k - 1)) (nI (zpos w (2 * ed) (k - 1))))))] _ _ := B
                    refine lv_aload_n F.1 F.2.1 dX2_sortSides_149 rfl (lv_at hl 1 rfl) ?_
                    refine z_get F B 0 rfl (ci := 4) (C := RX2) (T := TX2) (N := 9) rfl iX2_sortSides_X2 7 (by decide) fX2_sortSides_16 rfl dX2_sortSides_150 ?_
                    refine lv_iload_n F.1 F.2.1 dX2_sortSides_153 rfl (lv_at hl 3 rfl) ?_
                    refine lv_aload_n F.1 F.2.1 dX2_sortSides_154 rfl (lv_at hl 1 rfl) ?_
                    refine z_get F B 0 rfl (ci := 4) (C := RX2) (T := TX2) (N := 9) rfl iX2_sortSides_X2 8 (by decide) fX2_sortSides_19 rfl dX2_sortSides_155 ?_
                    refine lv_iload_n F.1 F.2.1 dX2_sortSides_158 rfl (lv_at hl 0 rfl) ?_
                    refine z_iald F B 4 0 rfl rfl (j := w (k - 1)) (by omega) (by omega) dX2_sortSides_159 ?_
                    refine W.eq (g2 := F0 m 160 ls [.int (nI (zpos w (2 * ed) (k - 1))), .int (nI (k - 1)), .ref b2]) (by rw [pk_us]) ?_
                    refine z_iast F B 3 0 rfl rfl (j := k - 1) (by omega) (by omega) dX2_sortSides_160 (fun H locs B => ?_)
                    have B : zB D (zT cI cZ cG cJ) A s.heap s [(go, .inr (4, [.ref fo, .int (nI ve), .int (nI ed), .int (nI se), .int (nI ci), .ref gva, .ref b1, .ref b2, .ref b3])), (gva, .inl (cI, cv, .inl fv)), (b1, .inl (cI, (zrm (2 * ed) c1), .inl g1)), (b2, .inl (cI, (zrm (2 * ed) c2), .inl (upd g2 (k - 1) (nI (zpos w (2 * ed) (k - 1)))))), (b3, .inl (cI, (zrm (ve + 1) c3), .inl (upd g3 (w (k - 1)) (nI (zpos w (2 * ed) (k - 1))))))] _ _ := B
                    refine lv_aload_n F.1 F.2.1 dX2_sortSides_161 rfl (lv_at hl 1 rfl) ?_
                    refine z_get F B 0 rfl (ci := 4) (C := RX2) (T := TX2) (N := 9) rfl iX2_sortSides_X2 6 (by decide) fX2_sortSides_13 rfl dX2_sortSides_162 ?_
                    refine lv_aload_n F.1 F.2.1 dX2_sortSides_165 rfl (lv_at hl 1 rfl) ?_
                    refine z_get F B 0 rfl (ci := 4) (C := RX2) (T := TX2) (N := 9) rfl iX2_sortSides_X2 8 (by decide) fX2_sortSides_19 rfl dX2_sortSides_166 ?_
                    refine lv_iload_n F.1 F.2.1 dX2_sortSides_169 rfl (lv_at hl 0 rfl) ?_
                    refine z_iald F B 4 0 rfl rfl (j := w (k - 1)) (by omega) (by omega) dX2_sortSides_170 ?_
                    refine W.eq (g2 := F0 m 171 ls [.int (nI (zpos w (2 * ed) (k - 1))), .ref b1]) (by rw [pk_us]) ?_
                    refine lv_iload_n F.1 F.2.1 dX2_sortSides_171 rfl (lv_at hl 3 rfl) ?_
                    refine z_iast F B 2 0 rfl rfl (j := zpos w (2 * ed) (k - 1)) (by omega) (by omega) dX2_sortSides_172 (fun H locs B => ?_)
                    have B : zB D (zT cI cZ cG cJ) A s.heap s [(go, .inr (4, [.ref fo, .int (nI ve), .int (nI ed), .int (nI se), .int (nI ci), .ref gva, .ref b1, .ref b2, .ref b3])), (gva, .inl (cI, cv, .inl fv)), (b1, .inl (cI, (zrm (2 * ed) c1), .inl (upd g1 (zpos w (2 * ed) (k - 1)) (nI (k - 1))))), (b2, .inl (cI, (zrm (2 * ed) c2), .inl (upd g2 (k - 1) (nI (zpos w (2 * ed) (k - 1)))))), (b3, .inl (cI, (zrm (ve + 1) c3), .inl (upd g3 (w (k - 1)) (nI (zpos w (2 * ed) (k - 1))))))] _ _ := B
                    refine lv_iinc (v := (nI (k - 1) - nI 1)) (lv' := [(2, .int (nI (k - 1) - nI 1)), (3, .int (nI (w (k - 1)))), (0, .ref go), (1, .int (nI (2 * ed)))]) F.1 F.2.1 dX2_sortSides_173 hl (k := 3) rfl (by rw [Int32.sub_eq_add_neg]; rfl) (by decide) rfl (fun ls hl => ?_)
                    refine lv_goto (tgt := 128) F.1 F.2.1 dX2_sortSides_176 (by decide) ?_
                    exact ih128 (k - 1) b1 (upd g1 (zpos w (2 * ed) (k - 1)) (nI (k - 1))) b2 (upd g2 (k - 1) (nI (zpos w (2 * ed) (k - 1)))) b3 (upd g3 (w (k - 1)) (nI (zpos w (2 * ed) (k - 1)))) (by first | omega | (simp only [] at *; omega)) (by omega) ((zsort_step (k := k - 1) (by omega) hw hs3k hs2k hs1k).1) ((zsort_step (k := k - 1) (by omega) hw hs3k hs2k hs1k).2.1) ((zsort_step (k := k - 1) (by omega) hw hs3k hs2k hs1k).2.2) _ _ _ (B.sub [0, 1, 2, 3, 4] rfl (rfl)) (lv_sub hl [2, 3, 0] rfl)
              exact loop128 ((2 * ed) + 1) (2 * ed) b1 g1 b2 g2 b3 g3 (Nat.lt_succ_self _) (by omega) (fun u hu => by rw [hg1 u (by omega), zc_split]) (fun d a b => absurd a (by omega)) (fun d a b => absurd a (by omega)) _ _ _ (B.sub [0, 1, 2, 3, 4] rfl (rfl)) (lv_sub hl [1, 2, 0] rfl)
            · refine lv_aload_n F.1 F.2.1 dX2_sortSides_101 rfl (lv_at hl 0 rfl) ?_
              refine z_get F B 0 rfl (ci := 4) (C := RX2) (T := TX2) (N := 9) rfl iX2_sortSides_X2 8 (by decide) fX2_sortSides_19 rfl dX2_sortSides_102 ?_
              refine lv_iload_n F.1 F.2.1 dX2_sortSides_105 rfl (lv_at hl 2 rfl) ?_
              refine lv_dup2_11 F.1 F.2.1 dX2_sortSides_106 rfl rfl ?_
              refine z_iald F B 4 0 rfl rfl (j := x) (by omega) (by omega) dX2_sortSides_107 ?_
              refine W.eq (g2 := F0 m 108 ls [.int (nI (zc (zeq w x) (2 * ed))), .int (nI x), .ref b3]) (by rw [hg2 x (by omega) (by omega)]) ?_
              refine lv_aload_n F.1 F.2.1 dX2_sortSides_108 rfl (lv_at hl 0 rfl) ?_
              refine z_get F B 0 rfl (ci := 4) (C := RX2) (T := TX2) (N := 9) rfl iX2_sortSides_X2 8 (by decide) fX2_sortSides_19 rfl dX2_sortSides_109 ?_
              refine lv_iload_n F.1 F.2.1 dX2_sortSides_112 rfl (lv_at hl 2 rfl) ?_
              refine lv_iconst (v := (nI 1)) F.1 F.2.1 dX2_sortSides_113 (by decide) ?_
              refine z_isub F (by omega) dX2_sortSides_114 ?_
              refine z_iald F B 4 0 rfl rfl (j := x - 1) (by omega) (by omega) dX2_sortSides_115 ?_
              refine W.eq (g2 := F0 m 116 ls [.int (nI (zc (zlt w (x - 1 + 1)) (2 * ed))), .int (nI (zc (zeq w x) (2 * ed))), .int (nI x), .ref b3]) (by rw [hg1 (x - 1) (by omega)]) ?_
              refine z_iadd F dX2_sortSides_116 ?_
              refine z_iast F B 4 0 rfl rfl (j := x) (by omega) (by omega) dX2_sortSides_117 (fun H locs B => ?_)
              have B : zB D (zT cI cZ cG cJ) A s.heap s [(go, .inr (4, [.ref fo, .int (nI ve), .int (nI ed), .int (nI se), .int (nI ci), .ref gva, .ref b1, .ref b2, .ref b3])), (gva, .inl (cI, cv, .inl fv)), (b1, .inl (cI, (zrm (2 * ed) c1), .inl g1)), (b2, .inl (cI, (zrm (2 * ed) c2), .inl g2)), (b3, .inl (cI, (zrm (ve + 1) c3), .inl (upd g3 x (nI (zc (zeq w x) (2 * ed) + (zc (zlt w (x - 1 + 1)) (2 * ed)))))))] _ _ := B
              refine lv_iinc (v := (nI (x + 1))) (lv' := [(2, .int (nI (x + 1))), (0, .ref go), (1, .int (nI (2 * ed)))]) F.1 F.2.1 dX2_sortSides_118 hl (k := 2) rfl (by rw [show Int32.ofInt 1 = nI 1 from rfl, nI_add]) (by decide) rfl (fun ls hl => ?_)
              refine lv_goto (tgt := 93) F.1 F.2.1 dX2_sortSides_121 (by decide) ?_
              exact ih93 (x + 1) b1 g1 b2 g2 b3 (upd g3 x (nI (zc (zeq w x) (2 * ed) + (zc (zlt w (x - 1 + 1)) (2 * ed))))) (by first | omega | (simp only [] at *; omega)) (by omega) (by omega) ((zpre_stepS hx hg1 hg2).1) ((zpre_stepS hx hg1 hg2).2) _ _ _ (B.sub [0, 1, 2, 3, 4] rfl (rfl)) (lv_sub hl [1, 2, 0] rfl)
        exact loop93 (ve + 1 - 1 + 1) 1 b1 g1 b2 g2 b3 g3 (Nat.lt_succ_self _) (by omega) (by omega) (fun u hu => by have hu0 : u = 0 := (by omega); subst hu0; rw [hg 0 (Nat.zero_le _), zc_lt0]) (fun u _ hu => hg u hu) _ _ _ (B.sub [0, 1, 2, 3, 4] rfl (rfl)) (lv_sub hl [1, 2, 0] rfl)
      · have hwk := hw k (by omega)
        refine lv_aload_n F.1 F.2.1 dX2_sortSides_70 rfl (lv_at hl 0 rfl) ?_
        refine z_get F B 0 rfl (ci := 4) (C := RX2) (T := TX2) (N := 9) rfl iX2_sortSides_X2 8 (by decide) fX2_sortSides_19 rfl dX2_sortSides_71 ?_
        refine lv_aload_n F.1 F.2.1 dX2_sortSides_74 rfl (lv_at hl 0 rfl) ?_
        refine z_get F B 0 rfl (ci := 4) (C := RX2) (T := TX2) (N := 9) rfl iX2_sortSides_X2 5 (by decide) fX2_sortSides_7 rfl dX2_sortSides_75 ?_
        refine lv_iload_n F.1 F.2.1 dX2_sortSides_78 rfl (lv_at hl 2 rfl) ?_
        refine z_iald F B 1 0 rfl rfl (j := k) (by omega) (by omega) dX2_sortSides_79 ?_
        refine W.eq (g2 := F0 m 80 ls [.int (nI (w k)), .ref b3]) (by rw [hv k (by omega)]) ?_
        refine lv_dup2_11 F.1 F.2.1 dX2_sortSides_80 rfl rfl ?_
        refine z_iald F B 4 0 rfl rfl (j := w k) (by omega) (by omega) dX2_sortSides_81 ?_
        refine W.eq (g2 := F0 m 82 ls [.int (nI (zc (zeq w (w k)) k)), .int (nI (w k)), .ref b3]) (by rw [hg (w k) (by omega)]) ?_
        refine lv_iconst (v := (nI 1)) F.1 F.2.1 dX2_sortSides_82 (by decide) ?_
        refine z_iadd F dX2_sortSides_83 ?_
        refine z_iast F B 4 0 rfl rfl (j := w k) (by omega) (by omega) dX2_sortSides_84 (fun H locs B => ?_)
        have B : zB D (zT cI cZ cG cJ) A s.heap s [(go, .inr (4, [.ref fo, .int (nI ve), .int (nI ed), .int (nI se), .int (nI ci), .ref gva, .ref b1, .ref b2, .ref b3])), (gva, .inl (cI, cv, .inl fv)), (b1, .inl (cI, (zrm (2 * ed) c1), .inl g1)), (b2, .inl (cI, (zrm (2 * ed) c2), .inl g2)), (b3, .inl (cI, (zrm (ve + 1) c3), .inl (upd g3 (w k) (nI (zc (zeq w (w k)) k + 1)))))] _ _ := B
        refine lv_iinc (v := (nI (k + 1))) (lv' := [(2, .int (nI (k + 1))), (0, .ref go), (1, .int (nI (2 * ed)))]) F.1 F.2.1 dX2_sortSides_85 hl (k := 2) rfl (by rw [show Int32.ofInt 1 = nI 1 from rfl, nI_add]) (by decide) rfl (fun ls hl => ?_)
        refine lv_goto (tgt := 65) F.1 F.2.1 dX2_sortSides_88 (by decide) ?_
        exact ih65 (k + 1) b1 g1 b2 g2 b3 (upd g3 (w k) (nI (zc (zeq w (w k)) k + 1))) (by first | omega | (simp only [] at *; omega)) (by omega) (zcnt_step hg) _ _ _ (B.sub [0, 1, 2, 3, 4] rfl (rfl)) (lv_sub hl [1, 2, 0] rfl)
  refine W.widen (k := (zrm (2 * ed) c1 - c1) + (zrm (2 * ed) c2 - c2) + (zrm (ve + 1) c3 - c3)) (n := 2 * ((zrm (2 * ed) c1 - c1) + (zrm (2 * ed) c2 - c2) + (zrm (ve + 1) c3 - c3))) (by omega) (by omega) ?_
  exact loop65 ((2 * ed) - 0 + 1) 0 a'_1 f'_2 a'_3 f'_4 a'_5 (zfill f'_6 0 (ve + 1) (nI 0)) (Nat.lt_succ_self _) (by omega) (fun u hu => by rw [zfill_in (Nat.zero_le u) (by omega)]; rfl) _ _ _ (B.sub [0, 1, 2, 3, 4] rfl (rfl)) (lv_sub hl [2, 1, 0] rfl)
