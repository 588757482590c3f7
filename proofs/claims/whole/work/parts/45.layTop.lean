/-! CONTRACT of Trip.lay -/
theorem iX6_lay_X6 : ∀ w ∈ u_ws RX6 TX6 6, w ∈ wsX6_lay := by decide +kernel
theorem fX6_lay_13 : Cond.fieldLink RX6 13 "TourChain$Trip" "row" "[I" ∈ wsX6_lay := by decide +kernel
theorem fX6_lay_19 : Cond.fieldLink RX6 19 "TourChain$Trip" "graph" "LTourChain$Graph;" ∈ wsX6_lay := by decide +kernel
theorem iX6_lay_X2 : ∀ w ∈ u_ws RX2 TX2 9, w ∈ wsX6_lay := by decide +kernel
theorem fX6_lay_23 : Cond.fieldLink RX6 23 "TourChain$Graph" "cities" "I" ∈ wsX6_lay := by decide +kernel
theorem nX6_lay_X7_roomFor : Cond.methodLinkNest RX6 29 yX7_roomFor RX7 ∈ zNW := by decide +kernel
theorem mX6_lay_stX7_roomFor : Cond.static yX7_roomFor ∈ wsX6_lay := by decide +kernel
theorem mX6_lay_iyX7_roomFor : Cond.initialized yX7_roomFor.cls ∈ wsX6_lay := by decide +kernel
theorem yX6_lay_X7_roomFor : yX7_roomFor.cls ≠ "java/lang/invoke/MethodHandle" ∧ yX7_roomFor.cls ≠ "java/lang/invoke/VarHandle" ∧ (parseMethodDescriptor yX7_roomFor.desc).map (fun d => d.parameters.length) = some 2 := by decide +kernel
theorem fX6_lay_35 : Cond.fieldLink RX6 35 "TourChain$Trip" "first" "I" ∈ wsX6_lay := by decide +kernel
theorem fX6_lay_38 : Cond.fieldLink RX6 38 "TourChain$Trip" "step" "I" ∈ wsX6_lay := by decide +kernel
theorem yX6_lay_X2_firstSelector : yX2_firstSelector.cls = RX2 ∧ yX2_firstSelector.cls ≠ "java/lang/invoke/MethodHandle" ∧ yX2_firstSelector.cls ≠ "java/lang/invoke/VarHandle" ∧ (parseMethodDescriptor yX2_firstSelector.desc).map (fun d => d.parameters.length) = some 0 := by decide +kernel
theorem fX6_lay_45 : Cond.fieldLink RX6 45 "TourChain$Graph" "vertices" "I" ∈ wsX6_lay := by decide +kernel
theorem yX6_lay_X6_layCities : yX6_layCities.cls = RX6 ∧ yX6_layCities.cls ≠ "java/lang/invoke/MethodHandle" ∧ yX6_layCities.cls ≠ "java/lang/invoke/VarHandle" ∧ (parseMethodDescriptor yX6_layCities.desc).map (fun d => d.parameters.length) = some 3 := by decide +kernel
theorem yX6_lay_X6_layVertex : yX6_layVertex.cls = RX6 ∧ yX6_layVertex.cls ≠ "java/lang/invoke/MethodHandle" ∧ yX6_layVertex.cls ≠ "java/lang/invoke/VarHandle" ∧ (parseMethodDescriptor yX6_layVertex.desc).map (fun d => d.parameters.length) = some 3 := by decide +kernel
set_option maxHeartbeats 4000000 in
set_option maxRecDepth 100000 in
theorem kX6_lay (l : Launch) (D : va_G) (cI cZ cG cJ : ClassId) (tr : Nat) (go : Nat) (tpk : Nat) (trw : Nat) (z1 : Int32) (z2 : Int32) (tsb : Nat) (ve : Nat) (ed : Nat) (se : Nat) (ci : Nat) (fo : Nat) (gva : Nat) (gsi : Nat) (gsd : Nat) (gst : Nat) (cv : Nat) (fv : Nat → Int32) (c1 : Nat) (f1 : Nat → Int32) (c3 : Nat) (f3s : Nat → Int32) (w : Nat → Nat) (cca : Nat) (cva : Nat) (fcv : Nat → Int32) (cov : Nat → Nat) (crw : Nat) (frw : Nat → Int32) (h2 : crw ≤ 400000) (hci : ci ≤ 200000) (h3 : ed ≤ 50000) (h4 : (2 * ed) ≤ cv) (h5 : cv ≤ 1000000) (h6 : (2 * ed) ≤ c1) (h7 : c1 ≤ 1000000) (h8 : ve + 1 ≤ c3) (h9 : c3 ≤ 1000000) (h10 : ve ≤ cca) (h11 : cca ≤ 1000000) (hv : ∀ d, d < (2 * ed) → fv d = nI (w d)) (hw : ∀ d, d < (2 * ed) → w d < ve) (hst : ∀ u, u ≤ ve → f3s u = nI (zc (zlt w u) (2 * ed))) (hsi : ∀ d, d < (2 * ed) → f1 (zpos w (2 * ed) d) = nI d) (hcv : ∀ u, u < ve → fcv u = nI (cov u) ∧ cov u ≤ 1) (hve : ve ≤ 100000) (hse : zc (zcv1 cov) ve ≤ 100000) (hlen : (zlayT w cov ed ve).length ≤ ci) : zC l yX6_lay wsX6_lay 2 61 (zrm ci crw - crw) (2 * (zrm ci crw - crw)) D (zT cI cZ cG cJ) [.ref tr, .ref cva] [(tr, .inr (8, [.ref go, .ref tpk, .ref trw, .int z1, .int z2, .ref tsb])), (trw, .inl (cI, crw, .inl frw)), (go, .inr (4, [.ref fo, .int (nI ve), .int (nI ed), .int (nI se), .int (nI ci), .ref gva, .ref gsi, .ref gsd, .ref gst])), (gva, .inl (cI, cv, .inl fv)), (gsi, .inl (cI, c1, .inl f1)), (gst, .inl (cI, c3, .inl f3s)), (cva, .inl (cI, cca, .inl fcv))] (fun (ov : Option Value) (ow : va_W) => ∃ rw' : Nat, ∃ frw' : Nat → Int32, ov = none ∧ ow = [(tr, .inr (8, [.ref go, .ref tpk, .ref rw', .int (nI 0), .int (nI 1), .ref tsb])), (rw', .inl (cI, (zrm ci crw), .inl frw')), (go, .inr (4, [.ref fo, .int (nI ve), .int (nI ed), .int (nI se), .int (nI ci), .ref gva, .ref gsi, .ref gsd, .ref gst])), (gva, .inl (cI, cv, .inl fv)), (gsi, .inl (cI, c1, .inl f1)), (gst, .inl (cI, c3, .inl f3s)), (cva, .inl (cI, cca, .inl fcv))] ∧ (zR frw' (zlayT w cov ed ve).length (zlayT w cov ed ve))) := by
  refine zC.of (cc := cX6_lay) (maxL := 5) (ret := none) (by decide) rfl (Nat.le_of_ble_eq_true rfl) ?_
  intro p e s m below meth c A ls F hr hlk hnm B hl
  have hl : lv_has ls 5 [(0, .ref tr), (1, .ref cva)] := hl
  have hr1 := zrm_le ci crw
  have hu1 : zrm ci crw ≤ 400000 := zrm_ub h2 (by omega)
  refine lv_aload_n F.1 F.2.1 dX6_lay_0 rfl (lv_at hl 0 rfl) ?_
  refine lv_aload_n F.1 F.2.1 dX6_lay_1 rfl (lv_at hl 0 rfl) ?_
  refine z_get F B 0 rfl (ci := 8) (C := RX6) (T := TX6) (N := 6) rfl iX6_lay_X6 2 (by decide) fX6_lay_13 rfl dX6_lay_2 ?_
  refine lv_aload_n F.1 F.2.1 dX6_lay_5 rfl (lv_at hl 0 rfl) ?_
  refine z_get F B 0 rfl (ci := 8) (C := RX6) (T := TX6) (N := 6) rfl iX6_lay_X6 0 (by decide) fX6_lay_19 rfl dX6_lay_6 ?_
  refine z_get F B 2 rfl (ci := 4) (C := RX2) (T := TX2) (N := 9) rfl iX6_lay_X2 4 (by decide) fX6_lay_23 rfl dX6_lay_9 ?_
  refine z_callSN (wr := [(tr, .inr (8, [.ref go, .ref tpk, .ref trw, .int z1, .int z2, .ref tsb])), (go, .inr (4, [.ref fo, .int (nI ve), .int (nI ed), .int (nI se), .int (nI ci), .ref gva, .ref gsi, .ref gsd, .ref gst])), (gva, .inl (cI, cv, .inl fv)), (gsi, .inl (cI, c1, .inl f1)), (gst, .inl (cI, c3, .inl f3s)), (cva, .inl (cI, cca, .inl fcv))]) (rest := [.ref tr]) (As := [.ref trw, .int (nI ci)]) (host := RX7) F B (kX7_roomFor l D cI cZ cG cJ trw crw frw ci (by omega) (by omega)) hl.1 gX6_lay_X7_roomFor_n29 nX6_lay_X7_roomFor mX6_lay_stX7_roomFor mX6_lay_iyX7_roomFor rfl 2 yX6_lay_X7_roomFor rfl [1] [0, 2, 3, 4, 5, 6] rfl rfl rfl rfl (by decide) (Nat.le_of_ble_eq_true rfl) (Nat.le_of_ble_eq_true rfl) (Nat.le_of_ble_eq_true rfl) rfl dX6_lay_12 (show 0 + (zrm ci crw - crw) ≤ zrm ci crw - crw by omega) (show 0 + (2 * (zrm ci crw - crw)) ≤ 2 * (zrm ci crw - crw) by omega) (fun vv ww H locs hRR B => ?_)
  obtain ⟨a'_1, f'_2, rfl, rfl⟩ := hRR
  have B : zB D (zT cI cZ cG cJ) A s.heap s [(tr, .inr (8, [.ref go, .ref tpk, .ref trw, .int z1, .int z2, .ref tsb])), (go, .inr (4, [.ref fo, .int (nI ve), .int (nI ed), .int (nI se), .int (nI ci), .ref gva, .ref gsi, .ref gsd, .ref gst])), (gva, .inl (cI, cv, .inl fv)), (gsi, .inl (cI, c1, .inl f1)), (gst, .inl (cI, c3, .inl f3s)), (cva, .inl (cI, cca, .inl fcv)), (a'_1, .inl (cI, (zrm ci crw), .inl f'_2))] _ _ := B
  refine W.eq (g2 := F0 m 15 ls [.ref a'_1, .ref tr]) rfl ?_
  refine z_put F B 0 rfl (ci := 8) (C := RX6) (T := TX6) (N := 6) rfl iX6_lay_X6 tyX6 tyX6_ok nmX6 2 (by decide) fX6_lay_13 rfl (v := .ref a'_1) rfl rfl (Nat.le_of_ble_eq_true rfl) dX6_lay_15 (fun H locs B => ?_)
  have B : zB D (zT cI cZ cG cJ) A s.heap s [(tr, .inr (8, [.ref go, .ref tpk, .ref a'_1, .int z1, .int z2, .ref tsb])), (go, .inr (4, [.ref fo, .int (nI ve), .int (nI ed), .int (nI se), .int (nI ci), .ref gva, .ref gsi, .ref gsd, .ref gst])), (gva, .inl (cI, cv, .inl fv)), (gsi, .inl (cI, c1, .inl f1)), (gst, .inl (cI, c3, .inl f3s)), (cva, .inl (cI, cca, .inl fcv)), (a'_1, .inl (cI, (zrm ci crw), .inl f'_2))] _ _ := B
  refine lv_aload_n F.1 F.2.1 dX6_lay_18 rfl (lv_at hl 0 rfl) ?_
  refine lv_iconst (v := (nI 0)) F.1 F.2.1 dX6_lay_19 (by decide) ?_
  refine z_put F B 0 rfl (ci := 8) (C := RX6) (T := TX6) (N := 6) rfl iX6_lay_X6 tyX6 tyX6_ok nmX6 3 (by decide) fX6_lay_35 rfl (v := .int (nI 0)) rfl rfl (Nat.le_of_ble_eq_true rfl) dX6_lay_20 (fun H locs B => ?_)
  have B : zB D (zT cI cZ cG cJ) A s.heap s [(tr, .inr (8, [.ref go, .ref tpk, .ref a'_1, .int (nI 0), .int z2, .ref tsb])), (go, .inr (4, [.ref fo, .int (nI ve), .int (nI ed), .int (nI se), .int (nI ci), .ref gva, .ref gsi, .ref gsd, .ref gst])), (gva, .inl (cI, cv, .inl fv)), (gsi, .inl (cI, c1, .inl f1)), (gst, .inl (cI, c3, .inl f3s)), (cva, .inl (cI, cca, .inl fcv)), (a'_1, .inl (cI, (zrm ci crw), .inl f'_2))] _ _ := B
  refine lv_aload_n F.1 F.2.1 dX6_lay_23 rfl (lv_at hl 0 rfl) ?_
  refine lv_iconst (v := (nI 1)) F.1 F.2.1 dX6_lay_24 (by decide) ?_
  refine z_put F B 0 rfl (ci := 8) (C := RX6) (T := TX6) (N := 6) rfl iX6_lay_X6 tyX6 tyX6_ok nmX6 4 (by decide) fX6_lay_38 rfl (v := .int (nI 1)) rfl rfl (Nat.le_of_ble_eq_true rfl) dX6_lay_25 (fun H locs B => ?_)
  have B : zB D (zT cI cZ cG cJ) A s.heap s [(tr, .inr (8, [.ref go, .ref tpk, .ref a'_1, .int (nI 0), .int (nI 1), .ref tsb])), (go, .inr (4, [.ref fo, .int (nI ve), .int (nI ed), .int (nI se), .int (nI ci), .ref gva, .ref gsi, .ref gsd, .ref gst])), (gva, .inl (cI, cv, .inl fv)), (gsi, .inl (cI, c1, .inl f1)), (gst, .inl (cI, c3, .inl f3s)), (cva, .inl (cI, cca, .inl fcv)), (a'_1, .inl (cI, (zrm ci crw), .inl f'_2))] _ _ := B
  refine lv_iconst (v := (nI 0)) F.1 F.2.1 dX6_lay_28 (by decide) ?_
  refine lv_istore_n (lv' := [(2, .int (nI 0)), (0, .ref tr), (1, .ref cva)]) F.1 F.2.1 dX6_lay_29 rfl hl (by decide) rfl (fun ls hl => ?_)
  refine lv_aload_n F.1 F.2.1 dX6_lay_30 rfl (lv_at hl 1 rfl) ?_
  refine z_get F B 0 rfl (ci := 8) (C := RX6) (T := TX6) (N := 6) rfl iX6_lay_X6 0 (by decide) fX6_lay_19 rfl dX6_lay_31 ?_
  refine z_callV (wr := [(tr, .inr (8, [.ref go, .ref tpk, .ref a'_1, .int (nI 0), .int (nI 1), .ref tsb])), (gva, .inl (cI, cv, .inl fv)), (gsi, .inl (cI, c1, .inl f1)), (gst, .inl (cI, c3, .inl f3s)), (cva, .inl (cI, cca, .inl fcv)), (a'_1, .inl (cI, (zrm ci crw), .inl f'_2))]) (rest := []) (As := []) F B (kX2_firstSelector l D cI cZ cG cJ go fo ve ed se ci gva gsi gsd gst) hl.1 (C := RX2) (T := TX2) (N := 9) (ci := 4) (q0 := 1) gX6_lay_X2_firstSelector rfl 0 yX6_lay_X2_firstSelector rfl rfl rfl [1] [0, 2, 3, 4, 5, 6] rfl rfl rfl rfl (by decide) (Nat.le_of_ble_eq_true rfl) (Nat.le_of_ble_eq_true rfl) (Nat.le_of_ble_eq_true rfl) rfl dX6_lay_34 (show 0 + (zrm ci crw - crw) + 0 ≤ zrm ci crw - crw by omega) (show 0 + (2 * (zrm ci crw - crw)) + 0 ≤ 2 * (zrm ci crw - crw) by omega) (fun vv ww H locs hRR B => ?_)
  obtain ⟨rfl, rfl⟩ := hRR
  have B : zB D (zT cI cZ cG cJ) A s.heap s [(tr, .inr (8, [.ref go, .ref tpk, .ref a'_1, .int (nI 0), .int (nI 1), .ref tsb])), (gva, .inl (cI, cv, .inl fv)), (gsi, .inl (cI, c1, .inl f1)), (gst, .inl (cI, c3, .inl f3s)), (cva, .inl (cI, cca, .inl fcv)), (a'_1, .inl (cI, (zrm ci crw), .inl f'_2)), (go, .inr (4, [.ref fo, .int (nI ve), .int (nI ed), .int (nI se), .int (nI ci), .ref gva, .ref gsi, .ref gsd, .ref gst]))] _ _ := B
  refine W.eq (g2 := F0 m 37 ls [.int (nI (12 * ed))]) rfl ?_
  refine lv_istore_n (lv' := [(3, .int (nI (12 * ed))), (2, .int (nI 0)), (0, .ref tr), (1, .ref cva)]) F.1 F.2.1 dX6_lay_37 rfl hl (by decide) rfl (fun ls hl => ?_)
  refine lv_iconst (v := (nI 0)) F.1 F.2.1 dX6_lay_38 (by decide) ?_
  refine lv_istore (lv' := [(4, .int (nI 0)), (3, .int (nI (12 * ed))), (2, .int (nI 0)), (0, .ref tr), (1, .ref cva)]) F.1 F.2.1 dX6_lay_39 hl (by decide) rfl (fun ls hl => ?_)
  have loop41 : ∀ (fuel : Nat) (u : Nat) (b : Nat) (rq : Nat) (g1 : Nat → Int32), ve - u < fuel → (u ≤ ve) → (zR g1 b (zlayT w cov ed u)) → ∀ (H : Heap) (locs : List Loc) (ls : Array Slot), zB D (zT cI cZ cG cJ) A s.heap s [(tr, .inr (8, [.ref go, .ref tpk, .ref rq, .int (nI 0), .int (nI 1), .ref tsb])), (rq, .inl (cI, (zrm ci crw), .inl g1)), (go, .inr (4, [.ref fo, .int (nI ve), .int (nI ed), .int (nI se), .int (nI ci), .ref gva, .ref gsi, .ref gsd, .ref gst])), (gva, .inl (cI, cv, .inl fv)), (gsi, .inl (cI, c1, .inl f1)), (gst, .inl (cI, c3, .inl f3s)), (cva, .inl (cI, cca, .inl fcv))] H locs → lv_has ls 5 [(0, .ref tr), (1, .ref cva), (2, .int (nI b)), (3, .int (nI (12 * ed + zc (zcv1 cov) u))), (4, .int (nI u))] → W p l e { frames := 2, cells := zrm ci crw - crw, slots := 2 * (zrm ci crw - crw), locals := 61 } s m [.ref tr, .ref cva].toArray below meth c H locs (zrm ci crw - crw) (2 * (zrm ci crw - crw)) (zQ below [.ref tr, .ref cva].toArray s D (zT cI cZ cG cJ) A (fun (ov : Option Value) (ow : va_W) => ∃ rw' : Nat, ∃ frw' : Nat → Int32, ov = none ∧ ow = [(tr, .inr (8, [.ref go, .ref tpk, .ref rw', .int (nI 0), .int (nI 1), .ref tsb])), (rw', .inl (cI, (zrm ci crw), .inl frw')), (go, .inr (4, [.ref fo, .int (nI ve), .int (nI ed), .int (nI se), .int (nI ci), .ref gva, .ref gsi, .ref gsd, .ref gst])), (gva, .inl (cI, cv, .inl fv)), (gsi, .inl (cI, c1, .inl f1)), (gst, .inl (cI, c3, .inl f3s)), (cva, .inl (cI, cca, .inl fcv))] ∧ (zR frw' (zlayT w cov ed ve).length (zlayT w cov ed ve))) (zrm ci crw - crw) (2 * (zrm ci crw - crw))) (F0 m 41 ls []) := by
    intro fuel
    induction fuel with
    | zero => intro u b rq g1 hmz; exact absurd hmz (Nat.not_lt_zero _)
    | succ fuel ih =>
      intro u b rq g1 hm hu hf H locs ls B hl
      have ih41 := ih
      refine lv_iload F.1 F.2.1 dX6_lay_41 (lv_at hl 4 rfl) ?_
      refine lv_aload_n F.1 F.2.1 dX6_lay_43 rfl (lv_at hl 0 rfl) ?_
      refine z_get F B 0 rfl (ci := 8) (C := RX6) (T := TX6) (N := 6) rfl iX6_lay_X6 0 (by decide) fX6_lay_19 rfl dX6_lay_44 ?_
      refine z_get F B 2 rfl (ci := 4) (C := RX2) (T := TX2) (N := 9) rfl iX6_lay_X2 1 (by decide) fX6_lay_45 rfl dX6_lay_47 ?_
      refine z_icmp_ge (tgt := 87) F (by omega) (by omega) dX6_lay_50 (by decide) (fun c50 => ?_) (fun c50 => ?_)
      · have hue : ve = u := by omega
        subst hue
        have hb := hf.1
        subst hb
        exact z_vret F hr hlk B [0, 1, 2, 3, 4, 5, 6] rfl (rfl) dX6_lay_87 (by omega) (by omega) ⟨rq, g1, rfl, rfl, hf⟩
      · have hcx := hcv u (by omega)
        have hb := hf.1
        have hzc := zc_mono (zcv1 cov) (show u ≤ ve by omega)
        refine lv_aload_n F.1 F.2.1 dX6_lay_53 rfl (lv_at hl 1 rfl) ?_
        refine lv_iload F.1 F.2.1 dX6_lay_54 (lv_at hl 4 rfl) ?_
        refine z_iald F B 6 0 rfl rfl (j := u) (by omega) (by omega) dX6_lay_56 ?_
        refine W.eq (g2 := F0 m 57 ls [.int (nI (cov u))]) (by rw [hcx.1]) ?_
        refine lv_iconst (v := (nI 1)) F.1 F.2.1 dX6_lay_57 (by decide) ?_
        refine z_icmp_ne (tgt := 81) F (by omega) (by omega) dX6_lay_58 (by decide) (fun hcu => ?_) (fun hcu => ?_)
        · have hzs : zc (zcv1 cov) (u + 1) = zc (zcv1 cov) u := by simp [zc, zcv1, hcu]
          refine lv_iinc (v := (nI (u + 1))) (lv' := [(4, .int (nI (u + 1))), (0, .ref tr), (1, .ref cva), (2, .int (nI b)), (3, .int (nI (12 * ed + zc (zcv1 cov) u)))]) F.1 F.2.1 dX6_lay_81 hl (k := 4) rfl (by rw [show Int32.ofInt 1 = nI 1 from rfl, nI_add]) (by decide) rfl (fun ls hl => ?_)
          refine lv_goto (tgt := 41) F.1 F.2.1 dX6_lay_84 (by decide) ?_
          exact ih41 (u + 1) b rq g1 (by first | omega | (simp only [] at *; omega)) (by omega) (by rw [zlayT_S]; unfold zlayU; rw [if_neg hcu, List.append_nil]; exact hf) _ _ _ (B.sub [0, 1, 2, 3, 4, 5, 6] rfl (rfl)) (lv_sub hl [1, 2, 3, 4, 0] (by rw [hzs]; rfl))
        · have hzs : zc (zcv1 cov) (u + 1) = zc (zcv1 cov) u + 1 := by simp [zc, zcv1, hcu]
          have hmo := zlayT_mono w cov ed (show u + 1 ≤ ve by omega)
          rw [zlayT_S, List.length_append] at hmo
          have hlu : (zlayU w cov ed u).length = 1 + (zlayV w cov (2 * ed) u).length := by unfold zlayU; rw [if_pos hcu, List.length_append]; rfl
          refine lv_aload_n F.1 F.2.1 dX6_lay_61 rfl (lv_at hl 0 rfl) ?_
          refine lv_iload_n F.1 F.2.1 dX6_lay_62 rfl (lv_at hl 2 rfl) ?_
          refine lv_iload_n F.1 F.2.1 dX6_lay_63 rfl (lv_at hl 3 rfl) ?_
          refine lv_iconst (v := (nI 1)) F.1 F.2.1 dX6_lay_64 (by decide) ?_
          refine z_callV (wr := [(go, .inr (4, [.ref fo, .int (nI ve), .int (nI ed), .int (nI se), .int (nI ci), .ref gva, .ref gsi, .ref gsd, .ref gst])), (gva, .inl (cI, cv, .inl fv)), (gsi, .inl (cI, c1, .inl f1)), (gst, .inl (cI, c3, .inl f3s)), (cva, .inl (cI, cca, .inl fcv))]) (rest := []) (As := [.int (nI b), .int (nI (12 * ed + zc (zcv1 cov) u)), .int (nI 1)]) F B (kX6_layCities l D cI cZ cG cJ tr go tpk rq (nI 0) (nI 1) tsb (zrm ci crw) g1 (zlayT w cov ed u) b (12 * ed + zc (zcv1 cov) u) 1 (hf) (by omega) (by omega) (by omega) (by omega)) hl.1 (C := RX6) (T := TX6) (N := 6) (ci := 8) (q0 := 0) gX6_lay_X6_layCities rfl 3 yX6_lay_X6_layCities rfl rfl rfl [0, 1] [2, 3, 4, 5, 6] rfl rfl rfl rfl (by decide) (Nat.le_of_ble_eq_true rfl) (Nat.le_of_ble_eq_true rfl) (Nat.le_of_ble_eq_true rfl) rfl dX6_lay_65 (show zrm ci crw - crw + 0 ≤ zrm ci crw - crw by omega) (show 2 * (zrm ci crw - crw) + 0 ≤ 2 * (zrm ci crw - crw) by omega) (fun vv ww H locs hRR B => ?_)
          obtain ⟨frw'_3, rfl, rfl, hR1⟩ := hRR
          have B : zB D (zT cI cZ cG cJ) A s.heap s [(go, .inr (4, [.ref fo, .int (nI ve), .int (nI ed), .int (nI se), .int (nI ci), .ref gva, .ref gsi, .ref gsd, .ref gst])), (gva, .inl (cI, cv, .inl fv)), (gsi, .inl (cI, c1, .inl f1)), (gst, .inl (cI, c3, .inl f3s)), (cva, .inl (cI, cca, .inl fcv)), (tr, .inr (8, [.ref go, .ref tpk, .ref rq, .int (nI 0), .int (nI 1), .ref tsb])), (rq, .inl (cI, (zrm ci crw), .inl frw'_3))] _ _ := B
          refine W.eq (g2 := F0 m 68 ls [.int (nI (b + 1))]) rfl ?_
          refine lv_istore_n (lv' := [(2, .int (nI (b + 1))), (0, .ref tr), (1, .ref cva), (3, .int (nI (12 * ed + zc (zcv1 cov) u))), (4, .int (nI u))]) F.1 F.2.1 dX6_lay_68 rfl hl (by decide) rfl (fun ls hl => ?_)
          refine lv_iinc (v := (nI (12 * ed + zc (zcv1 cov) u + 1))) (lv' := [(3, .int (nI (12 * ed + zc (zcv1 cov) u + 1))), (2, .int (nI (b + 1))), (0, .ref tr), (1, .ref cva), (4, .int (nI u))]) F.1 F.2.1 dX6_lay_69 hl (k := 3) rfl (by rw [show Int32.ofInt 1 = nI 1 from rfl, nI_add]) (by decide) rfl (fun ls hl => ?_)
          refine lv_aload_n F.1 F.2.1 dX6_lay_72 rfl (lv_at hl 2 rfl) ?_
          refine lv_iload_n F.1 F.2.1 dX6_lay_73 rfl (lv_at hl 1 rfl) ?_
          refine lv_iload F.1 F.2.1 dX6_lay_74 (lv_at hl 4 rfl) ?_
          refine lv_aload_n F.1 F.2.1 dX6_lay_76 rfl (lv_at hl 3 rfl) ?_
          refine z_callV (wr := []) (rest := []) (As := [.int (nI (b + 1)), .int (nI u), .ref cva]) F B (kX6_layVertex l D cI cZ cG cJ tr go tpk rq (nI 0) (nI 1) tsb ve ed se ci fo gva gsi gsd gst cv fv c1 f1 c3 f3s w cca cva fcv cov (zrm ci crw) frw'_3 (zlayT w cov ed u ++ zrun (12 * ed + zc (zcv1 cov) u) 1) (b + 1) u (by omega) (h3) (h4) (h5) (h6) (h7) (h8) (h9) (h10) (h11) (hv) (hw) (hst) (hsi) (hcv) (hR1) (by omega) (by omega)) hl.1 (C := RX6) (T := TX6) (N := 6) (ci := 8) (q0 := 5) gX6_lay_X6_layVertex rfl 3 yX6_lay_X6_layVertex rfl rfl rfl [5, 6, 0, 1, 2, 3, 4] [] rfl rfl rfl rfl (by decide) (Nat.le_of_ble_eq_true rfl) (Nat.le_of_ble_eq_true rfl) (Nat.le_of_ble_eq_true rfl) rfl dX6_lay_77 (show zrm ci crw - crw + 0 + 0 ≤ zrm ci crw - crw by omega) (show 2 * (zrm ci crw - crw) + 0 + 0 ≤ 2 * (zrm ci crw - crw) by omega) (fun vv ww H locs hRR B => ?_)
          obtain ⟨frw'_4, rfl, rfl, hR2⟩ := hRR
          have B : zB D (zT cI cZ cG cJ) A s.heap s [(tr, .inr (8, [.ref go, .ref tpk, .ref rq, .int (nI 0), .int (nI 1), .ref tsb])), (rq, .inl (cI, (zrm ci crw), .inl frw'_4)), (go, .inr (4, [.ref fo, .int (nI ve), .int (nI ed), .int (nI se), .int (nI ci), .ref gva, .ref gsi, .ref gsd, .ref gst])), (gva, .inl (cI, cv, .inl fv)), (gsi, .inl (cI, c1, .inl f1)), (gst, .inl (cI, c3, .inl f3s)), (cva, .inl (cI, cca, .inl fcv))] _ _ := B
          refine W.eq (g2 := F0 m 80 ls [.int (nI ((b + 1) + (zlayV w cov (2 * ed) u).length))]) rfl ?_
          refine lv_istore_n (lv' := [(2, .int (nI ((b + 1) + (zlayV w cov (2 * ed) u).length))), (3, .int (nI (12 * ed + zc (zcv1 cov) u + 1))), (0, .ref tr), (1, .ref cva), (4, .int (nI u))]) F.1 F.2.1 dX6_lay_80 rfl hl (by decide) rfl (fun ls hl => ?_)
          refine lv_iinc (v := (nI (u + 1))) (lv' := [(4, .int (nI (u + 1))), (2, .int (nI ((b + 1) + (zlayV w cov (2 * ed) u).length))), (3, .int (nI (12 * ed + zc (zcv1 cov) u + 1))), (0, .ref tr), (1, .ref cva)]) F.1 F.2.1 dX6_lay_81 hl (k := 4) rfl (by rw [show Int32.ofInt 1 = nI 1 from rfl, nI_add]) (by decide) rfl (fun ls hl => ?_)
          refine lv_goto (tgt := 41) F.1 F.2.1 dX6_lay_84 (by decide) ?_
          refine W.widen (k := zrm ci crw - crw) (n := 2 * (zrm ci crw - crw)) (by omega) (by omega) ?_
          exact ih41 (u + 1) ((b + 1) + (zlayV w cov (2 * ed) u).length) rq frw'_4 (by first | omega | (simp only [] at *; omega)) (by omega) (by rw [zlayT_S]; unfold zlayU; rw [if_pos hcu, ← List.append_assoc]; exact hR2) _ _ _ (B.sub [0, 1, 2, 3, 4, 5, 6] rfl (rfl)) (lv_sub hl [3, 4, 1, 2, 0] (by rw [hzs]; rfl))
  refine W.widen (k := zrm ci crw - crw) (n := 2 * (zrm ci crw - crw)) (by omega) (by omega) ?_
  exact loop41 (ve - 0 + 1) 0 0 a'_1 f'_2 (Nat.lt_succ_self _) (by omega) (zR_nil) _ _ _ (B.sub [0, 5, 6, 1, 2, 3, 4] rfl (rfl)) (lv_sub hl [3, 4, 2, 1, 0] (rfl))
