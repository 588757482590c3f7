/-! CONTRACTS of Trip.pickCover, hasEachCityOnce -/
theorem iX6_pickCover_X6 : ∀ w ∈ u_ws RX6 TX6 6, w ∈ wsX6_pickCover := by decide +kernel
theorem fX6_pickCover_7 : Cond.fieldLink RX6 7 "TourChain$Trip" "picked" "[I" ∈ wsX6_pickCover := by decide +kernel
theorem fX6_pickCover_19 : Cond.fieldLink RX6 19 "TourChain$Trip" "graph" "LTourChain$Graph;" ∈ wsX6_pickCover := by decide +kernel
theorem iX6_pickCover_X2 : ∀ w ∈ u_ws RX2 TX2 9, w ∈ wsX6_pickCover := by decide +kernel
theorem fX6_pickCover_45 : Cond.fieldLink RX6 45 "TourChain$Graph" "vertices" "I" ∈ wsX6_pickCover := by decide +kernel
theorem nX6_pickCover_X7_roomFor : Cond.methodLinkNest RX6 29 yX7_roomFor RX7 ∈ zNW := by decide +kernel
theorem mX6_pickCover_stX7_roomFor : Cond.static yX7_roomFor ∈ wsX6_pickCover := by decide +kernel
theorem mX6_pickCover_iyX7_roomFor : Cond.initialized yX7_roomFor.cls ∈ wsX6_pickCover := by decide +kernel
theorem yX6_pickCover_X7_roomFor : yX7_roomFor.cls ≠ "java/lang/invoke/MethodHandle" ∧ yX7_roomFor.cls ≠ "java/lang/invoke/VarHandle" ∧ (parseMethodDescriptor yX7_roomFor.desc).map (fun d => d.parameters.length) = some 2 := by decide +kernel
theorem yX6_pickCover_J7_fill_fda19 : yJ7_fill_fda19.cls ≠ "java/lang/invoke/MethodHandle" ∧ yJ7_fill_fda19.cls ≠ "java/lang/invoke/VarHandle" ∧ (parseMethodDescriptor yJ7_fill_fda19.desc).map (fun d => d.parameters.length) = some 4 := by decide +kernel
theorem fX6_pickCover_23 : Cond.fieldLink RX6 23 "TourChain$Graph" "cities" "I" ∈ wsX6_pickCover := by decide +kernel
theorem yX6_pickCover_X6_at : yX6_at.cls = RX6 ∧ yX6_at.cls ≠ "java/lang/invoke/MethodHandle" ∧ yX6_at.cls ≠ "java/lang/invoke/VarHandle" ∧ (parseMethodDescriptor yX6_at.desc).map (fun d => d.parameters.length) = some 1 := by decide +kernel
theorem yX6_pickCover_X2_firstSelector : yX2_firstSelector.cls = RX2 ∧ yX2_firstSelector.cls ≠ "java/lang/invoke/MethodHandle" ∧ yX2_firstSelector.cls ≠ "java/lang/invoke/VarHandle" ∧ (parseMethodDescriptor yX2_firstSelector.desc).map (fun d => d.parameters.length) = some 0 := by decide +kernel
theorem yX6_pickCover_X6_pickVertexOf : yX6_pickVertexOf.cls = RX6 ∧ yX6_pickVertexOf.cls ≠ "java/lang/invoke/MethodHandle" ∧ yX6_pickVertexOf.cls ≠ "java/lang/invoke/VarHandle" ∧ (parseMethodDescriptor yX6_pickVertexOf.desc).map (fun d => d.parameters.length) = some 1 := by decide +kernel
set_option maxHeartbeats 4000000 in
set_option maxRecDepth 100000 in
theorem kX6_pickCover (l : Launch) (D : va_G) (cI cZ cG cJ : ClassId) (tr : Nat) (go : Nat) (tpk : Nat) (trw : Nat) (fi : Nat) (dir : Nat) (tsb : Nat) (fo : Nat) (ve : Nat) (ed : Nat) (se : Nat) (ci : Nat) (gva : Nat) (gsi : Nat) (gsd : Nat) (gst : Nat) (crw : Nat) (frw : Nat → Int32) (rr : Nat → Nat) (cv : Nat) (fv : Nat → Int32) (w : Nat → Nat) (cpk : Nat) (fpk : Nat → Int32) (hd : dir = 0 ∨ dir = 1) (hf : fi < ci) (hn : ci ≤ 1000000) (hci1 : 1 ≤ ci) (hrw : ∀ i, i < ci → frw i = nI (rr i) ∧ rr i < ci) (hcr : ci ≤ crw) (hcr2 : crw ≤ 1000000) (h3 : ed ≤ 50000) (h3b : ve ≤ 100000) (h4 : (2 * ed) ≤ cv) (h5 : cv ≤ 1000000) (hv : ∀ d, d < (2 * ed) → fv d = nI (w d)) (hw : ∀ d, d < (2 * ed) → w d < ve) (h7 : cpk ≤ 400000) : zC l yX6_pickCover wsX6_pickCover 3 64 (zrm ve cpk - cpk) (2 * (zrm ve cpk - cpk)) D (zT cI cZ cG cJ) [.ref tr] [(tr, .inr (8, [.ref go, .ref tpk, .ref trw, .int (nI fi), .int (zsd dir), .ref tsb])), (go, .inr (4, [.ref fo, .int (nI ve), .int (nI ed), .int (nI se), .int (nI ci), .ref gva, .ref gsi, .ref gsd, .ref gst])), (trw, .inl (cI, crw, .inl frw)), (gva, .inl (cI, cv, .inl fv)), (tpk, .inl (cI, cpk, .inl fpk))] (fun (ov : Option Value) (ow : va_W) => ∃ pk' : Nat, ∃ fpk' : Nat → Int32, ov = none ∧ ow = [(tr, .inr (8, [.ref go, .ref pk', .ref trw, .int (nI fi), .int (zsd dir), .ref tsb])), (go, .inr (4, [.ref fo, .int (nI ve), .int (nI ed), .int (nI se), .int (nI ci), .ref gva, .ref gsi, .ref gsd, .ref gst])), (trw, .inl (cI, crw, .inl frw)), (gva, .inl (cI, cv, .inl fv)), (pk', .inl (cI, (zrm ve cpk), .inl fpk'))] ∧ (∀ x, x < ve → fpk' x = nI (zmk (zpk w ed (fun i => rr (zix ci fi dir i)) ci ci) x))) := by
  refine zC.of (cc := cX6_pickCover) (maxL := 2) (ret := none) (by decide) rfl (Nat.le_of_ble_eq_true rfl) ?_
  intro p e s m below meth c A ls F hr hlk hnm B hl
  have hl : lv_has ls 2 [(0, .ref tr)] := hl
  have hr1 := zrm_le ve cpk
  have hu1 : zrm ve cpk ≤ 400000 := zrm_ub h7 (by omega)
  refine lv_aload_n F.1 F.2.1 dX6_pickCover_0 rfl (lv_at hl 0 rfl) ?_
  refine lv_aload_n F.1 F.2.1 dX6_pickCover_1 rfl (lv_at hl 0 rfl) ?_
  refine z_get F B 0 rfl (ci := 8) (C := RX6) (T := TX6) (N := 6) rfl iX6_pickCover_X6 1 (by decide) fX6_pickCover_7 rfl dX6_pickCover_2 ?_
  refine lv_aload_n F.1 F.2.1 dX6_pickCover_5 rfl (lv_at hl 0 rfl) ?_
  refine z_get F B 0 rfl (ci := 8) (C := RX6) (T := TX6) (N := 6) rfl iX6_pickCover_X6 0 (by decide) fX6_pickCover_19 rfl dX6_pickCover_6 ?_
  refine z_get F B 1 rfl (ci := 4) (C := RX2) (T := TX2) (N := 9) rfl iX6_pickCover_X2 1 (by decide) fX6_pickCover_45 rfl dX6_pickCover_9 ?_
  refine z_callSN (wr := [(tr, .inr (8, [.ref go, .ref tpk, .ref trw, .int (nI fi), .int (zsd dir), .ref tsb])), (go, .inr (4, [.ref fo, .int (nI ve), .int (nI ed), .int (nI se), .int (nI ci), .ref gva, .ref gsi, .ref gsd, .ref gst])), (trw, .inl (cI, crw, .inl frw)), (gva, .inl (cI, cv, .inl fv))]) (rest := [.ref tr]) (As := [.ref tpk, .int (nI ve)]) (host := RX7) F B (kX7_roomFor l D cI cZ cG cJ tpk cpk fpk ve (by omega) (by omega)) hl.1 gX6_pickCover_X7_roomFor_n29 nX6_pickCover_X7_roomFor mX6_pickCover_stX7_roomFor mX6_pickCover_iyX7_roomFor rfl 2 yX6_pickCover_X7_roomFor rfl [4] [0, 1, 2, 3] rfl rfl rfl rfl (by decide) (Nat.le_of_ble_eq_true rfl) (Nat.le_of_ble_eq_true rfl) (Nat.le_of_ble_eq_true rfl) rfl dX6_pickCover_12 (show 0 + (zrm ve cpk - cpk) ≤ zrm ve cpk - cpk by omega) (show 0 + (2 * (zrm ve cpk - cpk)) ≤ 2 * (zrm ve cpk - cpk) by omega) (fun vv ww H locs hRR B => ?_)
  obtain ⟨a'_1, f'_2, rfl, rfl⟩ := hRR
  have B : zB D (zT cI cZ cG cJ) A s.heap s [(tr, .inr (8, [.ref go, .ref tpk, .ref trw, .int (nI fi), .int (zsd dir), .ref tsb])), (go, .inr (4, [.ref fo, .int (nI ve), .int (nI ed), .int (nI se), .int (nI ci), .ref gva, .ref gsi, .ref gsd, .ref gst])), (trw, .inl (cI, crw, .inl frw)), (gva, .inl (cI, cv, .inl fv)), (a'_1, .inl (cI, (zrm ve cpk), .inl f'_2))] _ _ := B
  refine W.eq (g2 := F0 m 15 ls [.ref a'_1, .ref tr]) rfl ?_
  refine z_put F B 0 rfl (ci := 8) (C := RX6) (T := TX6) (N := 6) rfl iX6_pickCover_X6 tyX6 tyX6_ok nmX6 1 (by decide) fX6_pickCover_7 rfl (v := .ref a'_1) rfl rfl (Nat.le_of_ble_eq_true rfl) dX6_pickCover_15 (fun H locs B => ?_)
  have B : zB D (zT cI cZ cG cJ) A s.heap s [(tr, .inr (8, [.ref go, .ref a'_1, .ref trw, .int (nI fi), .int (zsd dir), .ref tsb])), (go, .inr (4, [.ref fo, .int (nI ve), .int (nI ed), .int (nI se), .int (nI ci), .ref gva, .ref gsi, .ref gsd, .ref gst])), (trw, .inl (cI, crw, .inl frw)), (gva, .inl (cI, cv, .inl fv)), (a'_1, .inl (cI, (zrm ve cpk), .inl f'_2))] _ _ := B
  refine lv_aload_n F.1 F.2.1 dX6_pickCover_18 rfl (lv_at hl 0 rfl) ?_
  refine z_get F B 0 rfl (ci := 8) (C := RX6) (T := TX6) (N := 6) rfl iX6_pickCover_X6 1 (by decide) fX6_pickCover_7 rfl dX6_pickCover_19 ?_
  refine lv_iconst (v := (nI 0)) F.1 F.2.1 dX6_pickCover_22 (by decide) ?_
  refine lv_aload_n F.1 F.2.1 dX6_pickCover_23 rfl (lv_at hl 0 rfl) ?_
  refine z_get F B 0 rfl (ci := 8) (C := RX6) (T := TX6) (N := 6) rfl iX6_pickCover_X6 0 (by decide) fX6_pickCover_19 rfl dX6_pickCover_24 ?_
  refine z_get F B 1 rfl (ci := 4) (C := RX2) (T := TX2) (N := 9) rfl iX6_pickCover_X2 1 (by decide) fX6_pickCover_45 rfl dX6_pickCover_27 ?_
  refine lv_iconst (v := (nI 0)) F.1 F.2.1 dX6_pickCover_30 (by decide) ?_
  refine z_callSJ (wr := [(tr, .inr (8, [.ref go, .ref a'_1, .ref trw, .int (nI fi), .int (zsd dir), .ref tsb])), (go, .inr (4, [.ref fo, .int (nI ve), .int (nI ed), .int (nI se), .int (nI ci), .ref gva, .ref gsi, .ref gsd, .ref gst])), (trw, .inl (cI, crw, .inl frw)), (gva, .inl (cI, cv, .inl fv))]) (rest := []) (As := [.ref a'_1, .int (nI 0), .int (nI ve), .int (nI 0)]) F B (kJ7_fill_fda19 l D cI cZ cG cJ a'_1 (zrm ve cpk) f'_2 0 ve (nI 0) (by omega) (by omega) (by omega)) hl.1 gX6_pickCover_J7_fill_fda19 rfl 4 yX6_pickCover_J7_fill_fda19 rfl [4] [0, 1, 2, 3] rfl rfl rfl rfl (by decide) (Nat.le_of_ble_eq_true rfl) (Nat.le_of_ble_eq_true rfl) (Nat.le_of_ble_eq_true rfl) rfl dX6_pickCover_31 (show 0 + (zrm ve cpk - cpk) + 0 ≤ zrm ve cpk - cpk by omega) (show 0 + (2 * (zrm ve cpk - cpk)) + 0 ≤ 2 * (zrm ve cpk - cpk) by omega) (fun vv ww H locs hRR B => ?_)
  obtain ⟨rfl, rfl⟩ := hRR
  have B : zB D (zT cI cZ cG cJ) A s.heap s [(tr, .inr (8, [.ref go, .ref a'_1, .ref trw, .int (nI fi), .int (zsd dir), .ref tsb])), (go, .inr (4, [.ref fo, .int (nI ve), .int (nI ed), .int (nI se), .int (nI ci), .ref gva, .ref gsi, .ref gsd, .ref gst])), (trw, .inl (cI, crw, .inl frw)), (gva, .inl (cI, cv, .inl fv)), (a'_1, .inl (cI, (zrm ve cpk), .inl (zfill f'_2 0 ve (nI 0))))] _ _ := B
  refine W.eq (g2 := F0 m 34 ls []) rfl ?_
  refine lv_iconst (v := (nI 0)) F.1 F.2.1 dX6_pickCover_34 (by decide) ?_
  refine lv_istore_n (lv' := [(1, .int (nI 0)), (0, .ref tr)]) F.1 F.2.1 dX6_pickCover_35 rfl hl (by decide) rfl (fun ls hl => ?_)
  have loop36 : ∀ (fuel : Nat) (k : Nat) (pq : Nat) (g1 : Nat → Int32), ci - k < fuel → (k ≤ ci) → (∀ x, x < ve → g1 x = nI (zmk (zpk w ed (fun i => rr (zix ci fi dir i)) ci k) x)) → ∀ (H : Heap) (locs : List Loc) (ls : Array Slot), zB D (zT cI cZ cG cJ) A s.heap s [(tr, .inr (8, [.ref go, .ref pq, .ref trw, .int (nI fi), .int (zsd dir), .ref tsb])), (go, .inr (4, [.ref fo, .int (nI ve), .int (nI ed), .int (nI se), .int (nI ci), .ref gva, .ref gsi, .ref gsd, .ref gst])), (trw, .inl (cI, crw, .inl frw)), (gva, .inl (cI, cv, .inl fv)), (pq, .inl (cI, (zrm ve cpk), .inl g1))] H locs → lv_has ls 2 [(0, .ref tr), (1, .int (nI k))] → W p l e { frames := 3, cells := zrm ve cpk - cpk, slots := 2 * (zrm ve cpk - cpk), locals := 64 } s m [.ref tr].toArray below meth c H locs (zrm ve cpk - cpk) (2 * (zrm ve cpk - cpk)) (zQ below [.ref tr].toArray s D (zT cI cZ cG cJ) A (fun (ov : Option Value) (ow : va_W) => ∃ pk' : Nat, ∃ fpk' : Nat → Int32, ov = none ∧ ow = [(tr, .inr (8, [.ref go, .ref pk', .ref trw, .int (nI fi), .int (zsd dir), .ref tsb])), (go, .inr (4, [.ref fo, .int (nI ve), .int (nI ed), .int (nI se), .int (nI ci), .ref gva, .ref gsi, .ref gsd, .ref gst])), (trw, .inl (cI, crw, .inl frw)), (gva, .inl (cI, cv, .inl fv)), (pk', .inl (cI, (zrm ve cpk), .inl fpk'))] ∧ (∀ x, x < ve → fpk' x = nI (zmk (zpk w ed (fun i => rr (zix ci fi dir i)) ci ci) x))) (zrm ve cpk - cpk) (2 * (zrm ve cpk - cpk))) (F0 m 36 ls []) := by
    intro fuel
    induction fuel with
    | zero => intro k pq g1 hmz; exact absurd hmz (Nat.not_lt_zero _)
    | succ fuel ih =>
      intro k pq g1 hm hk hg H locs ls B hl
      have ih36 := ih
      refine lv_iload_n F.1 F.2.1 dX6_pickCover_36 rfl (lv_at hl 1 rfl) ?_
      refine lv_aload_n F.1 F.2.1 dX6_pickCover_37 rfl (lv_at hl 0 rfl) ?_
      refine z_get F B 0 rfl (ci := 8) (C := RX6) (T := TX6) (N := 6) rfl iX6_pickCover_X6 0 (by decide) fX6_pickCover_19 rfl dX6_pickCover_38 ?_
      refine z_get F B 1 rfl (ci := 4) (C := RX2) (T := TX2) (N := 9) rfl iX6_pickCover_X2 4 (by decide) fX6_pickCover_23 rfl dX6_pickCover_41 ?_
      refine z_icmp_ge (tgt := 87) F (by omega) (by omega) dX6_pickCover_44 (by decide) (fun c44 => ?_) (fun c44 => ?_)
      · have hke : k = ci := by omega
        rw [hke] at hg
        exact z_vret F hr hlk B [0, 1, 2, 3, 4] rfl (rfl) dX6_pickCover_87 (by omega) (by omega) ⟨pq, g1, rfl, rfl, hg⟩
      · have hz1 := zix_lt (dir := dir) (pl := k) (show 0 < ci by omega) (fi := fi)
        have hz2 := zix_lt (dir := dir) (pl := (k + 1) % ci) (show 0 < ci by omega) (fi := fi)
        have hm1 := Nat.mod_lt (k + 1) (show 0 < ci by omega)
        have hq1 := (hrw _ hz1).2; have hq2 := (hrw _ hz2).2
        refine lv_aload_n F.1 F.2.1 dX6_pickCover_47 rfl (lv_at hl 0 rfl) ?_
        refine lv_iload_n F.1 F.2.1 dX6_pickCover_48 rfl (lv_at hl 1 rfl) ?_
        refine z_callV (wr := [(gva, .inl (cI, cv, .inl fv)), (pq, .inl (cI, (zrm ve cpk), .inl g1))]) (rest := []) (As := [.int (nI k)]) F B (kX6_at l D cI cZ cG cJ tr go pq trw fi dir tsb fo ve ed se ci gva gsi gsd gst crw frw rr k (hd) (hf) (by omega) (hrw) (by omega) (by omega) (by omega)) hl.1 (C := RX6) (T := TX6) (N := 6) (ci := 8) (q0 := 0) gX6_pickCover_X6_at rfl 1 yX6_pickCover_X6_at rfl rfl rfl [0, 1, 2] [3, 4] rfl rfl rfl rfl (by decide) (Nat.le_of_ble_eq_true rfl) (Nat.le_of_ble_eq_true rfl) (Nat.le_of_ble_eq_true rfl) rfl dX6_pickCover_49 (show zrm ve cpk - cpk + 0 ≤ zrm ve cpk - cpk by omega) (show 2 * (zrm ve cpk - cpk) + 0 ≤ 2 * (zrm ve cpk - cpk) by omega) (fun vv ww H locs hRR B => ?_)
        obtain ⟨rfl, rfl⟩ := hRR
        have B : zB D (zT cI cZ cG cJ) A s.heap s [(gva, .inl (cI, cv, .inl fv)), (pq, .inl (cI, (zrm ve cpk), .inl g1)), (tr, .inr (8, [.ref go, .ref pq, .ref trw, .int (nI fi), .int (zsd dir), .ref tsb])), (go, .inr (4, [.ref fo, .int (nI ve), .int (nI ed), .int (nI se), .int (nI ci), .ref gva, .ref gsi, .ref gsd, .ref gst])), (trw, .inl (cI, crw, .inl frw))] _ _ := B
        refine W.eq (g2 := F0 m 52 ls [.int (nI (rr (zix ci fi dir k)))]) rfl ?_
        refine lv_aload_n F.1 F.2.1 dX6_pickCover_52 rfl (lv_at hl 0 rfl) ?_
        refine z_get F B 2 rfl (ci := 8) (C := RX6) (T := TX6) (N := 6) rfl iX6_pickCover_X6 0 (by decide) fX6_pickCover_19 rfl dX6_pickCover_53 ?_
        refine z_callV (wr := [(gva, .inl (cI, cv, .inl fv)), (pq, .inl (cI, (zrm ve cpk), .inl g1)), (tr, .inr (8, [.ref go, .ref pq, .ref trw, .int (nI fi), .int (zsd dir), .ref tsb])), (trw, .inl (cI, crw, .inl frw))]) (rest := [.int (nI (rr (zix ci fi dir k)))]) (As := []) F B (kX2_firstSelector l D cI cZ cG cJ go fo ve ed se ci gva gsi gsd gst) hl.1 (C := RX2) (T := TX2) (N := 9) (ci := 4) (q0 := 3) gX6_pickCover_X2_firstSelector rfl 0 yX6_pickCover_X2_firstSelector rfl rfl rfl [3] [0, 1, 2, 4] rfl rfl rfl rfl (by decide) (Nat.le_of_ble_eq_true rfl) (Nat.le_of_ble_eq_true rfl) (Nat.le_of_ble_eq_true rfl) rfl dX6_pickCover_56 (show zrm ve cpk - cpk + 0 + 0 ≤ zrm ve cpk - cpk by omega) (show 2 * (zrm ve cpk - cpk) + 0 + 0 ≤ 2 * (zrm ve cpk - cpk) by omega) (fun vv ww H locs hRR B => ?_)
        obtain ⟨rfl, rfl⟩ := hRR
        have B : zB D (zT cI cZ cG cJ) A s.heap s [(gva, .inl (cI, cv, .inl fv)), (pq, .inl (cI, (zrm ve cpk), .inl g1)), (tr, .inr (8, [.ref go, .ref pq, .ref trw, .int (nI fi), .int (zsd dir), .ref tsb])), (trw, .inl (cI, crw, .inl frw)), (go, .inr (4, [.ref fo, .int (nI ve), .int (nI ed), .int (nI se), .int (nI ci), .ref gva, .ref gsi, .ref gsd, .ref gst]))] _ _ := B
        refine W.eq (g2 := F0 m 59 ls [.int (nI (12 * ed)), .int (nI (rr (zix ci fi dir k)))]) rfl ?_
        refine z_icmp_lt (tgt := 81) F (by omega) (by omega) dX6_pickCover_59 (by decide) (fun c59 => ?_) (fun c59 => ?_)
        · refine lv_iinc (v := (nI (k + 1))) (lv' := [(1, .int (nI (k + 1))), (0, .ref tr)]) F.1 F.2.1 dX6_pickCover_81 hl (k := 1) rfl (by rw [show Int32.ofInt 1 = nI 1 from rfl, nI_add]) (by decide) rfl (fun ls hl => ?_)
          refine lv_goto (tgt := 36) F.1 F.2.1 dX6_pickCover_84 (by decide) ?_
          refine W.widen (k := zrm ve cpk - cpk) (n := 2 * (zrm ve cpk - cpk)) (by omega) (by omega) ?_
          exact ih36 (k + 1) pq g1 (by first | omega | (simp only [] at *; omega)) (by omega) (zpk_no hg c59) _ _ _ (B.sub [2, 4, 3, 0, 1] rfl (rfl)) (lv_sub hl [1, 0] (rfl))
        · refine lv_aload_n F.1 F.2.1 dX6_pickCover_62 rfl (lv_at hl 0 rfl) ?_
          refine lv_aload_n F.1 F.2.1 dX6_pickCover_63 rfl (lv_at hl 0 rfl) ?_
          refine lv_iload_n F.1 F.2.1 dX6_pickCover_64 rfl (lv_at hl 1 rfl) ?_
          refine lv_iconst (v := (nI 1)) F.1 F.2.1 dX6_pickCover_65 (by decide) ?_
          refine z_iadd F dX6_pickCover_66 ?_
          refine lv_aload_n F.1 F.2.1 dX6_pickCover_67 rfl (lv_at hl 0 rfl) ?_
          refine z_get F B 2 rfl (ci := 8) (C := RX6) (T := TX6) (N := 6) rfl iX6_pickCover_X6 0 (by decide) fX6_pickCover_19 rfl dX6_pickCover_68 ?_
          refine z_get F B 4 rfl (ci := 4) (C := RX2) (T := TX2) (N := 9) rfl iX6_pickCover_X2 4 (by decide) fX6_pickCover_23 rfl dX6_pickCover_71 ?_
          refine z_irem F (by omega) (by omega) (by omega) dX6_pickCover_74 ?_
          refine z_callV (wr := [(gva, .inl (cI, cv, .inl fv)), (pq, .inl (cI, (zrm ve cpk), .inl g1))]) (rest := [.ref tr]) (As := [.int (nI ((k + 1) % ci))]) F B (kX6_at l D cI cZ cG cJ tr go pq trw fi dir tsb fo ve ed se ci gva gsi gsd gst crw frw rr ((k + 1) % ci) (hd) (hf) (by omega) (hrw) (by omega) (by omega) (by omega)) hl.1 (C := RX6) (T := TX6) (N := 6) (ci := 8) (q0 := 2) gX6_pickCover_X6_at rfl 1 yX6_pickCover_X6_at rfl rfl rfl [2, 4, 3] [0, 1] rfl rfl rfl rfl (by decide) (Nat.le_of_ble_eq_true rfl) (Nat.le_of_ble_eq_true rfl) (Nat.le_of_ble_eq_true rfl) rfl dX6_pickCover_75 (show zrm ve cpk - cpk + 0 + 0 + 0 ≤ zrm ve cpk - cpk by omega) (show 2 * (zrm ve cpk - cpk) + 0 + 0 + 0 ≤ 2 * (zrm ve cpk - cpk) by omega) (fun vv ww H locs hRR B => ?_)
          obtain ⟨rfl, rfl⟩ := hRR
          have B : zB D (zT cI cZ cG cJ) A s.heap s [(gva, .inl (cI, cv, .inl fv)), (pq, .inl (cI, (zrm ve cpk), .inl g1)), (tr, .inr (8, [.ref go, .ref pq, .ref trw, .int (nI fi), .int (zsd dir), .ref tsb])), (go, .inr (4, [.ref fo, .int (nI ve), .int (nI ed), .int (nI se), .int (nI ci), .ref gva, .ref gsi, .ref gsd, .ref gst])), (trw, .inl (cI, crw, .inl frw))] _ _ := B
          refine W.eq (g2 := F0 m 78 ls [.int (nI (rr (zix ci fi dir ((k + 1) % ci)))), .ref tr]) rfl ?_
          refine z_callV (wr := [(trw, .inl (cI, crw, .inl frw))]) (rest := []) (As := [.int (nI (rr (zix ci fi dir ((k + 1) % ci))))]) F B (kX6_pickVertexOf l D cI cZ cG cJ tr go pq trw (nI fi) (zsd dir) tsb fo ve ed se ci gva gsi gsd gst cv fv w (zrm ve cpk) g1 (rr (zix ci fi dir ((k + 1) % ci))) (by omega) (by omega) (by omega) (hv) (hw) (by omega) (by omega) (by omega)) hl.1 (C := RX6) (T := TX6) (N := 6) (ci := 8) (q0 := 2) gX6_pickCover_X6_pickVertexOf rfl 1 yX6_pickCover_X6_pickVertexOf rfl rfl rfl [2, 3, 0, 1] [4] rfl rfl rfl rfl (by decide) (Nat.le_of_ble_eq_true rfl) (Nat.le_of_ble_eq_true rfl) (Nat.le_of_ble_eq_true rfl) rfl dX6_pickCover_78 (show zrm ve cpk - cpk + 0 + 0 + 0 + 0 ≤ zrm ve cpk - cpk by omega) (show 2 * (zrm ve cpk - cpk) + 0 + 0 + 0 + 0 ≤ 2 * (zrm ve cpk - cpk) by omega) (fun vv ww H locs hRR B => ?_)
          obtain ⟨fpk'_3, rfl, rfl, hpv⟩ := hRR
          have B : zB D (zT cI cZ cG cJ) A s.heap s [(trw, .inl (cI, crw, .inl frw)), (tr, .inr (8, [.ref go, .ref pq, .ref trw, .int (nI fi), .int (zsd dir), .ref tsb])), (go, .inr (4, [.ref fo, .int (nI ve), .int (nI ed), .int (nI se), .int (nI ci), .ref gva, .ref gsi, .ref gsd, .ref gst])), (gva, .inl (cI, cv, .inl fv)), (pq, .inl (cI, (zrm ve cpk), .inl fpk'_3))] _ _ := B
          refine W.eq (g2 := F0 m 81 ls []) rfl ?_
          have hxv : ∀ y, y < 12 * ed → w (y / 6) < ve := fun y hy => hw _ (by omega)
          refine lv_iinc (v := (nI (k + 1))) (lv' := [(1, .int (nI (k + 1))), (0, .ref tr)]) F.1 F.2.1 dX6_pickCover_81 hl (k := 1) rfl (by rw [show Int32.ofInt 1 = nI 1 from rfl, nI_add]) (by decide) rfl (fun ls hl => ?_)
          refine lv_goto (tgt := 36) F.1 F.2.1 dX6_pickCover_84 (by decide) ?_
          refine W.widen (k := zrm ve cpk - cpk) (n := 2 * (zrm ve cpk - cpk)) (by omega) (by omega) ?_
          exact ih36 (k + 1) pq fpk'_3 (by first | omega | (simp only [] at *; omega)) (by omega) (zpk_step hg c59 hpv hxv) _ _ _ (B.sub [1, 2, 0, 3, 4] rfl (rfl)) (lv_sub hl [1, 0] (rfl))
  refine W.widen (k := zrm ve cpk - cpk) (n := 2 * (zrm ve cpk - cpk)) (by omega) (by omega) ?_
  exact loop36 (ci - 0 + 1) 0 a'_1 (zfill f'_2 0 ve (nI 0)) (Nat.lt_succ_self _) (by omega) (fun x hx => by rw [zfill_in (Nat.zero_le _) hx]; rfl) _ _ _ (B.sub [0, 1, 2, 3, 4] rfl (rfl)) (lv_sub hl [1, 0] (rfl))
theorem iX6_hasEachCityOnce_X6 : ∀ w ∈ u_ws RX6 TX6 6, w ∈ wsX6_hasEachCityOnce := by decide +kernel
theorem fX6_hasEachCityOnce_19 : Cond.fieldLink RX6 19 "TourChain$Trip" "graph" "LTourChain$Graph;" ∈ wsX6_hasEachCityOnce := by decide +kernel
theorem iX6_hasEachCityOnce_X2 : ∀ w ∈ u_ws RX2 TX2 9, w ∈ wsX6_hasEachCityOnce := by decide +kernel
theorem fX6_hasEachCityOnce_23 : Cond.fieldLink RX6 23 "TourChain$Graph" "cities" "I" ∈ wsX6_hasEachCityOnce := by decide +kernel
theorem fX6_hasEachCityOnce_16 : Cond.fieldLink RX6 16 "TourChain$Trip" "seenBits" "[I" ∈ wsX6_hasEachCityOnce := by decide +kernel
theorem nX6_hasEachCityOnce_X7_roomFor : Cond.methodLinkNest RX6 29 yX7_roomFor RX7 ∈ zNW := by decide +kernel
theorem mX6_hasEachCityOnce_stX7_roomFor : Cond.static yX7_roomFor ∈ wsX6_hasEachCityOnce := by decide +kernel
theorem mX6_hasEachCityOnce_iyX7_roomFor : Cond.initialized yX7_roomFor.cls ∈ wsX6_hasEachCityOnce := by decide +kernel
theorem yX6_hasEachCityOnce_X7_roomFor : yX7_roomFor.cls ≠ "java/lang/invoke/MethodHandle" ∧ yX7_roomFor.cls ≠ "java/lang/invoke/VarHandle" ∧ (parseMethodDescriptor yX7_roomFor.desc).map (fun d => d.parameters.length) = some 2 := by decide +kernel
theorem yX6_hasEachCityOnce_J7_fill_fda19 : yJ7_fill_fda19.cls ≠ "java/lang/invoke/MethodHandle" ∧ yJ7_fill_fda19.cls ≠ "java/lang/invoke/VarHandle" ∧ (parseMethodDescriptor yJ7_fill_fda19.desc).map (fun d => d.parameters.length) = some 4 := by decide +kernel
theorem fX6_hasEachCityOnce_13 : Cond.fieldLink RX6 13 "TourChain$Trip" "row" "[I" ∈ wsX6_hasEachCityOnce := by decide +kernel
set_option maxHeartbeats 4000000 in
set_option maxRecDepth 100000 in
theorem kX6_hasEachCityOnce (l : Launch) (D : va_G) (cI cZ cG cJ : ClassId) (tr : Nat) (go : Nat) (tpk : Nat) (trw : Nat) (z1 : Int32) (z2 : Int32) (tsb : Nat) (fo : Nat) (ve : Nat) (ed : Nat) (se : Nat) (ci : Nat) (gva : Nat) (gsi : Nat) (gsd : Nat) (gst : Nat) (crw : Nat) (frw : Nat → Int32) (rr : Nat → Nat) (csb : Nat) (fsb : Nat → Int32) (hrw : ∀ i, i < ci → frw i = nI (rr i) ∧ rr i < ci) (hci1 : 1 ≤ ci) (hci2 : ci ≤ 1000000) (hcr : ci ≤ crw) (hcr2 : crw ≤ 1000000) (h7 : csb ≤ 400000) : zC l yX6_hasEachCityOnce wsX6_hasEachCityOnce 2 61 (zrm (ci / 32 + 1) csb - csb) (2 * (zrm (ci / 32 + 1) csb - csb)) D (zT cI cZ cG cJ) [.ref tr] [(tr, .inr (8, [.ref go, .ref tpk, .ref trw, .int z1, .int z2, .ref tsb])), (go, .inr (4, [.ref fo, .int (nI ve), .int (nI ed), .int (nI se), .int (nI ci), .ref gva, .ref gsi, .ref gsd, .ref gst])), (trw, .inl (cI, crw, .inl frw)), (tsb, .inl (cI, csb, .inl fsb))] (fun (ov : Option Value) (ow : va_W) => ∃ rb : Int32, ∃ sb' : Nat, ∃ fsb' : Nat → Int32, ov = some (.int rb) ∧ ow = [(tr, .inr (8, [.ref go, .ref tpk, .ref trw, .int z1, .int z2, .ref sb'])), (go, .inr (4, [.ref fo, .int (nI ve), .int (nI ed), .int (nI se), .int (nI ci), .ref gva, .ref gsi, .ref gsd, .ref gst])), (trw, .inl (cI, crw, .inl frw)), (sb', .inl (cI, (zrm (ci / 32 + 1) csb), .inl fsb'))] ∧ ((rb = 1 ∧ (zonce rr ci)) ∨ (rb = 0 ∧ ¬ (zonce rr ci)))) := by
  refine zC.of (cc := cX6_hasEachCityOnce) (maxL := 4) (ret := (some .boolean)) (by decide) rfl (Nat.le_of_ble_eq_true rfl) ?_
  intro p e s m below meth c A ls F hr hlk hnm B hl
  have hl : lv_has ls 4 [(0, .ref tr)] := hl
  have hr1 := zrm_le (ci / 32 + 1) csb
  have hu1 : zrm (ci / 32 + 1) csb ≤ 400000 := zrm_ub h7 (by omega)
  refine lv_aload_n F.1 F.2.1 dX6_hasEachCityOnce_0 rfl (lv_at hl 0 rfl) ?_
  refine z_get F B 0 rfl (ci := 8) (C := RX6) (T := TX6) (N := 6) rfl iX6_hasEachCityOnce_X6 0 (by decide) fX6_hasEachCityOnce_19 rfl dX6_hasEachCityOnce_1 ?_
  refine z_get F B 1 rfl (ci := 4) (C := RX2) (T := TX2) (N := 9) rfl iX6_hasEachCityOnce_X2 4 (by decide) fX6_hasEachCityOnce_23 rfl dX6_hasEachCityOnce_4 ?_
  refine lv_bipush (v := (nI 32)) F.1 F.2.1 dX6_hasEachCityOnce_7 (by decide) ?_
  refine z_idiv F (by omega) (by omega) (by omega) dX6_hasEachCityOnce_9 ?_
  refine lv_iconst (v := (nI 1)) F.1 F.2.1 dX6_hasEachCityOnce_10 (by decide) ?_
  refine z_iadd F dX6_hasEachCityOnce_11 ?_
  refine lv_istore_n (lv' := [(1, .int (nI (ci / 32 + 1))), (0, .ref tr)]) F.1 F.2.1 dX6_hasEachCityOnce_12 rfl hl (by decide) rfl (fun ls hl => ?_)
  refine lv_aload_n F.1 F.2.1 dX6_hasEachCityOnce_13 rfl (lv_at hl 1 rfl) ?_
  refine lv_aload_n F.1 F.2.1 dX6_hasEachCityOnce_14 rfl (lv_at hl 1 rfl) ?_
  refine z_get F B 0 rfl (ci := 8) (C := RX6) (T := TX6) (N := 6) rfl iX6_hasEachCityOnce_X6 5 (by decide) fX6_hasEachCityOnce_16 rfl dX6_hasEachCityOnce_15 ?_
  refine lv_iload_n F.1 F.2.1 dX6_hasEachCityOnce_18 rfl (lv_at hl 0 rfl) ?_
  refine z_callSN (wr := [(tr, .inr (8, [.ref go, .ref tpk, .ref trw, .int z1, .int z2, .ref tsb])), (go, .inr (4, [.ref fo, .int (nI ve), .int (nI ed), .int (nI se), .int (nI ci), .ref gva, .ref gsi, .ref gsd, .ref gst])), (trw, .inl (cI, crw, .inl frw))]) (rest := [.ref tr]) (As := [.ref tsb, .int (nI (ci / 32 + 1))]) (host := RX7) F B (kX7_roomFor l D cI cZ cG cJ tsb csb fsb (ci / 32 + 1) (by omega) (by omega)) hl.1 gX6_hasEachCityOnce_X7_roomFor_n29 nX6_hasEachCityOnce_X7_roomFor mX6_hasEachCityOnce_stX7_roomFor mX6_hasEachCityOnce_iyX7_roomFor rfl 2 yX6_hasEachCityOnce_X7_roomFor rfl [3] [0, 1, 2] rfl rfl rfl rfl (by decide) (Nat.le_of_ble_eq_true rfl) (Nat.le_of_ble_eq_true rfl) (Nat.le_of_ble_eq_true rfl) rfl dX6_hasEachCityOnce_19 (show 0 + (zrm (ci / 32 + 1) csb - csb) ≤ zrm (ci / 32 + 1) csb - csb by omega) (show 0 + (2 * (zrm (ci / 32 + 1) csb - csb)) ≤ 2 * (zrm (ci / 32 + 1) csb - csb) by omega) (fun vv ww H locs hRR B => ?_)
  obtain ⟨a'_1, f'_2, rfl, rfl⟩ := hRR
  have B : zB D (zT cI cZ cG cJ) A s.heap s [(tr, .inr (8, [.ref go, .ref tpk, .ref trw, .int z1, .int z2, .ref tsb])), (go, .inr (4, [.ref fo, .int (nI ve), .int (nI ed), .int (nI se), .int (nI ci), .ref gva, .ref gsi, .ref gsd, .ref gst])), (trw, .inl (cI, crw, .inl frw)), (a'_1, .inl (cI, (zrm (ci / 32 + 1) csb), .inl f'_2))] _ _ := B
  refine W.eq (g2 := F0 m 22 ls [.ref a'_1, .ref tr]) rfl ?_
  refine z_put F B 0 rfl (ci := 8) (C := RX6) (T := TX6) (N := 6) rfl iX6_hasEachCityOnce_X6 tyX6 tyX6_ok nmX6 5 (by decide) fX6_hasEachCityOnce_16 rfl (v := .ref a'_1) rfl rfl (Nat.le_of_ble_eq_true rfl) dX6_hasEachCityOnce_22 (fun H locs B => ?_)
  have B : zB D (zT cI cZ cG cJ) A s.heap s [(tr, .inr (8, [.ref go, .ref tpk, .ref trw, .int z1, .int z2, .ref a'_1])), (go, .inr (4, [.ref fo, .int (nI ve), .int (nI ed), .int (nI se), .int (nI ci), .ref gva, .ref gsi, .ref gsd, .ref gst])), (trw, .inl (cI, crw, .inl frw)), (a'_1, .inl (cI, (zrm (ci / 32 + 1) csb), .inl f'_2))] _ _ := B
  refine lv_aload_n F.1 F.2.1 dX6_hasEachCityOnce_25 rfl (lv_at hl 1 rfl) ?_
  refine z_get F B 0 rfl (ci := 8) (C := RX6) (T := TX6) (N := 6) rfl iX6_hasEachCityOnce_X6 5 (by decide) fX6_hasEachCityOnce_16 rfl dX6_hasEachCityOnce_26 ?_
  refine lv_iconst (v := (nI 0)) F.1 F.2.1 dX6_hasEachCityOnce_29 (by decide) ?_
  refine lv_iload_n F.1 F.2.1 dX6_hasEachCityOnce_30 rfl (lv_at hl 0 rfl) ?_
  refine lv_iconst (v := (nI 0)) F.1 F.2.1 dX6_hasEachCityOnce_31 (by decide) ?_
  refine z_callSJ (wr := [(tr, .inr (8, [.ref go, .ref tpk, .ref trw, .int z1, .int z2, .ref a'_1])), (go, .inr (4, [.ref fo, .int (nI ve), .int (nI ed), .int (nI se), .int (nI ci), .ref gva, .ref gsi, .ref gsd, .ref gst])), (trw, .inl (cI, crw, .inl frw))]) (rest := []) (As := [.ref a'_1, .int (nI 0), .int (nI (ci / 32 + 1)), .int (nI 0)]) F B (kJ7_fill_fda19 l D cI cZ cG cJ a'_1 (zrm (ci / 32 + 1) csb) f'_2 0 (ci / 32 + 1) (nI 0) (by omega) (by omega) (by omega)) hl.1 gX6_hasEachCityOnce_J7_fill_fda19 rfl 4 yX6_hasEachCityOnce_J7_fill_fda19 rfl [3] [0, 1, 2] rfl rfl rfl rfl (by decide) (Nat.le_of_ble_eq_true rfl) (Nat.le_of_ble_eq_true rfl) (Nat.le_of_ble_eq_true rfl) rfl dX6_hasEachCityOnce_32 (show 0 + (zrm (ci / 32 + 1) csb - csb) + 0 ≤ zrm (ci / 32 + 1) csb - csb by omega) (show 0 + (2 * (zrm (ci / 32 + 1) csb - csb)) + 0 ≤ 2 * (zrm (ci / 32 + 1) csb - csb) by omega) (fun vv ww H locs hRR B => ?_)
  obtain ⟨rfl, rfl⟩ := hRR
  have B : zB D (zT cI cZ cG cJ) A s.heap s [(tr, .inr (8, [.ref go, .ref tpk, .ref trw, .int z1, .int z2, .ref a'_1])), (go, .inr (4, [.ref fo, .int (nI ve), .int (nI ed), .int (nI se), .int (nI ci), .ref gva, .ref gsi, .ref gsd, .ref gst])), (trw, .inl (cI, crw, .inl frw)), (a'_1, .inl (cI, (zrm (ci / 32 + 1) csb), .inl (zfill f'_2 0 (ci / 32 + 1) (nI 0))))] _ _ := B
  refine W.eq (g2 := F0 m 35 ls []) rfl ?_
  refine lv_iconst (v := (nI 0)) F.1 F.2.1 dX6_hasEachCityOnce_35 (by decide) ?_
  refine lv_istore_n (lv' := [(2, .int (nI 0)), (1, .int (nI (ci / 32 + 1))), (0, .ref tr)]) F.1 F.2.1 dX6_hasEachCityOnce_36 rfl hl (by decide) rfl (fun ls hl => ?_)
  have loop37 : ∀ (fuel : Nat) (k : Nat) (sq : Nat) (g1 : Nat → Int32), ci - k < fuel → (k ≤ ci) → (zonce rr k) → (zseen g1 rr ci k) → ∀ (H : Heap) (locs : List Loc) (ls : Array Slot), zB D (zT cI cZ cG cJ) A s.heap s [(tr, .inr (8, [.ref go, .ref tpk, .ref trw, .int z1, .int z2, .ref sq])), (go, .inr (4, [.ref fo, .int (nI ve), .int (nI ed), .int (nI se), .int (nI ci), .ref gva, .ref gsi, .ref gsd, .ref gst])), (trw, .inl (cI, crw, .inl frw)), (sq, .inl (cI, (zrm (ci / 32 + 1) csb), .inl g1))] H locs → lv_has ls 4 [(0, .ref tr), (1, .int (nI (ci / 32 + 1))), (2, .int (nI k))] → W p l e { frames := 2, cells := zrm (ci / 32 + 1) csb - csb, slots := 2 * (zrm (ci / 32 + 1) csb - csb), locals := 61 } s m [.ref tr].toArray below meth c H locs (zrm (ci / 32 + 1) csb - csb) (2 * (zrm (ci / 32 + 1) csb - csb)) (zQ below [.ref tr].toArray s D (zT cI cZ cG cJ) A (fun (ov : Option Value) (ow : va_W) => ∃ rb : Int32, ∃ sb' : Nat, ∃ fsb' : Nat → Int32, ov = some (.int rb) ∧ ow = [(tr, .inr (8, [.ref go, .ref tpk, .ref trw, .int z1, .int z2, .ref sb'])), (go, .inr (4, [.ref fo, .int (nI ve), .int (nI ed), .int (nI se), .int (nI ci), .ref gva, .ref gsi, .ref gsd, .ref gst])), (trw, .inl (cI, crw, .inl frw)), (sb', .inl (cI, (zrm (ci / 32 + 1) csb), .inl fsb'))] ∧ ((rb = 1 ∧ (zonce rr ci)) ∨ (rb = 0 ∧ ¬ (zonce rr ci)))) (zrm (ci / 32 + 1) csb - csb) (2 * (zrm (ci / 32 + 1) csb - csb))) (F0 m 37 ls []) := by
    intro fuel
    induction fuel with
    | zero => intro k sq g1 hmz; exact absurd hmz (Nat.not_lt_zero _)
    | succ fuel ih =>
      intro k sq g1 hm hk hon hbt H locs ls B hl
      have ih37 := ih
      refine lv_iload_n F.1 F.2.1 dX6_hasEachCityOnce_37 rfl (lv_at hl 2 rfl) ?_
      refine lv_aload_n F.1 F.2.1 dX6_hasEachCityOnce_38 rfl (lv_at hl 0 rfl) ?_
      refine z_get F B 0 rfl (ci := 8) (C := RX6) (T := TX6) (N := 6) rfl iX6_hasEachCityOnce_X6 0 (by decide) fX6_hasEachCityOnce_19 rfl dX6_hasEachCityOnce_39 ?_
      refine z_get F B 1 rfl (ci := 4) (C := RX2) (T := TX2) (N := 9) rfl iX6_hasEachCityOnce_X2 4 (by decide) fX6_hasEachCityOnce_23 rfl dX6_hasEachCityOnce_42 ?_
      refine z_icmp_ge (tgt := 105) F (by omega) (by omega) dX6_hasEachCityOnce_45 (by decide) (fun c45 => ?_) (fun c45 => ?_)
      · have hke : k = ci := by omega
        rw [hke] at hon
        refine lv_iconst (v := (nI 1)) F.1 F.2.1 dX6_hasEachCityOnce_105 (by decide) ?_
        exact z_zret F hr hlk B (Or.inr rfl) [0, 1, 2, 3] rfl (rfl) dX6_hasEachCityOnce_106 (by omega) (by omega) ⟨(nI 1), sq, g1, rfl, rfl, Or.inl ⟨rfl, hon⟩⟩
      · have hrk := hrw k (by omega)
        refine lv_iconst (v := (nI 1)) F.1 F.2.1 dX6_hasEachCityOnce_48 (by decide) ?_
        refine lv_aload_n F.1 F.2.1 dX6_hasEachCityOnce_49 rfl (lv_at hl 0 rfl) ?_
        refine z_get F B 0 rfl (ci := 8) (C := RX6) (T := TX6) (N := 6) rfl iX6_hasEachCityOnce_X6 2 (by decide) fX6_hasEachCityOnce_13 rfl dX6_hasEachCityOnce_50 ?_
        refine lv_iload_n F.1 F.2.1 dX6_hasEachCityOnce_53 rfl (lv_at hl 2 rfl) ?_
        refine z_iald F B 2 0 rfl rfl (j := k) (by omega) (by omega) dX6_hasEachCityOnce_54 ?_
        refine W.eq (g2 := F0 m 55 ls [.int (nI (rr k)), .int (nI 1)]) (by rw [hrk.1]) ?_
        refine lv_bipush (v := (nI 32)) F.1 F.2.1 dX6_hasEachCityOnce_55 (by decide) ?_
        refine z_irem F (by omega) (by omega) (by omega) dX6_hasEachCityOnce_57 ?_
        refine lv_ishl F.1 F.2.1 dX6_hasEachCityOnce_58 ?_
        refine lv_istore_n (lv' := [(3, .int ((nI 1) <<< ((nI ((rr k) % 32)) &&& 31))), (0, .ref tr), (1, .int (nI (ci / 32 + 1))), (2, .int (nI k))]) F.1 F.2.1 dX6_hasEachCityOnce_59 rfl hl (by decide) rfl (fun ls hl => ?_)
        refine lv_aload_n F.1 F.2.1 dX6_hasEachCityOnce_60 rfl (lv_at hl 1 rfl) ?_
        refine z_get F B 0 rfl (ci := 8) (C := RX6) (T := TX6) (N := 6) rfl iX6_hasEachCityOnce_X6 5 (by decide) fX6_hasEachCityOnce_16 rfl dX6_hasEachCityOnce_61 ?_
        refine lv_aload_n F.1 F.2.1 dX6_hasEachCityOnce_64 rfl (lv_at hl 1 rfl) ?_
        refine z_get F B 0 rfl (ci := 8) (C := RX6) (T := TX6) (N := 6) rfl iX6_hasEachCityOnce_X6 2 (by decide) fX6_hasEachCityOnce_13 rfl dX6_hasEachCityOnce_65 ?_
        refine lv_iload_n F.1 F.2.1 dX6_hasEachCityOnce_68 rfl (lv_at hl 3 rfl) ?_
        refine z_iald F B 2 0 rfl rfl (j := k) (by omega) (by omega) dX6_hasEachCityOnce_69 ?_
        refine W.eq (g2 := F0 m 70 ls [.int (nI (rr k)), .ref sq]) (by rw [hrk.1]) ?_
        refine lv_bipush (v := (nI 32)) F.1 F.2.1 dX6_hasEachCityOnce_70 (by decide) ?_
        refine z_idiv F (by omega) (by omega) (by omega) dX6_hasEachCityOnce_72 ?_
        refine z_iald F B 3 0 rfl rfl (j := (rr k) / 32) (by omega) (by omega) dX6_hasEachCityOnce_73 ?_
        refine lv_iload_n F.1 F.2.1 dX6_hasEachCityOnce_74 rfl (lv_at hl 0 rfl) ?_
        refine lv_iand F.1 F.2.1 dX6_hasEachCityOnce_75 ?_
        refine lv_if_eq (tgt := 81) F.1 F.2.1 dX6_hasEachCityOnce_76 (by decide) (fun hze => ?_) (fun hze => ?_)
        · refine lv_aload_n F.1 F.2.1 dX6_hasEachCityOnce_81 rfl (lv_at hl 1 rfl) ?_
          refine z_get F B 0 rfl (ci := 8) (C := RX6) (T := TX6) (N := 6) rfl iX6_hasEachCityOnce_X6 5 (by decide) fX6_hasEachCityOnce_16 rfl dX6_hasEachCityOnce_82 ?_
          refine lv_aload_n F.1 F.2.1 dX6_hasEachCityOnce_85 rfl (lv_at hl 1 rfl) ?_
          refine z_get F B 0 rfl (ci := 8) (C := RX6) (T := TX6) (N := 6) rfl iX6_hasEachCityOnce_X6 2 (by decide) fX6_hasEachCityOnce_13 rfl dX6_hasEachCityOnce_86 ?_
          refine lv_iload_n F.1 F.2.1 dX6_hasEachCityOnce_89 rfl (lv_at hl 3 rfl) ?_
          refine z_iald F B 2 0 rfl rfl (j := k) (by omega) (by omega) dX6_hasEachCityOnce_90 ?_
          refine W.eq (g2 := F0 m 91 ls [.int (nI (rr k)), .ref sq]) (by rw [hrk.1]) ?_
          refine lv_bipush (v := (nI 32)) F.1 F.2.1 dX6_hasEachCityOnce_91 (by decide) ?_
          refine z_idiv F (by omega) (by omega) (by omega) dX6_hasEachCityOnce_93 ?_
          refine lv_dup2_11 F.1 F.2.1 dX6_hasEachCityOnce_94 rfl rfl ?_
          refine z_iald F B 3 0 rfl rfl (j := (rr k) / 32) (by omega) (by omega) dX6_hasEachCityOnce_95 ?_
          refine lv_iload_n F.1 F.2.1 dX6_hasEachCityOnce_96 rfl (lv_at hl 0 rfl) ?_
          refine lv_ior F.1 F.2.1 dX6_hasEachCityOnce_97 ?_
          refine z_iast F B 3 0 rfl rfl (j := (rr k) / 32) (by omega) (by omega) dX6_hasEachCityOnce_98 (fun H locs B => ?_)
          have B : zB D (zT cI cZ cG cJ) A s.heap s [(tr, .inr (8, [.ref go, .ref tpk, .ref trw, .int z1, .int z2, .ref sq])), (go, .inr (4, [.ref fo, .int (nI ve), .int (nI ed), .int (nI se), .int (nI ci), .ref gva, .ref gsi, .ref gsd, .ref gst])), (trw, .inl (cI, crw, .inl frw)), (sq, .inl (cI, (zrm (ci / 32 + 1) csb), .inl (upd g1 ((rr k) / 32) ((g1 ((rr k) / 32)) ||| ((nI 1) <<< ((nI ((rr k) % 32)) &&& 31))))))] _ _ := B
          refine lv_iinc (v := (nI (k + 1))) (lv' := [(2, .int (nI (k + 1))), (3, .int ((nI 1) <<< ((nI ((rr k) % 32)) &&& 31))), (0, .ref tr), (1, .int (nI (ci / 32 + 1)))]) F.1 F.2.1 dX6_hasEachCityOnce_99 hl (k := 3) rfl (by rw [show Int32.ofInt 1 = nI 1 from rfl, nI_add]) (by decide) rfl (fun ls hl => ?_)
          refine lv_goto (tgt := 37) F.1 F.2.1 dX6_hasEachCityOnce_102 (by decide) ?_
          exact ih37 (k + 1) sq (upd g1 ((rr k) / 32) ((g1 ((rr k) / 32)) ||| ((nI 1) <<< ((nI ((rr k) % 32)) &&& 31)))) (by first | omega | (simp only [] at *; omega)) (by omega) (zonce_S hon hbt hrk.2 hze) (zseen_S hbt hrk.2) _ _ _ (B.sub [0, 1, 2, 3] rfl (rfl)) (lv_sub hl [2, 3, 0] (rfl))
        · refine lv_iconst (v := (nI 0)) F.1 F.2.1 dX6_hasEachCityOnce_79 (by decide) ?_
          exact z_zret F hr hlk B (Or.inl rfl) [0, 1, 2, 3] rfl (rfl) dX6_hasEachCityOnce_80 (by omega) (by omega) ⟨(nI 0), sq, g1, rfl, rfl, Or.inr ⟨rfl, fun q9 => zonce_no hbt hrk.2 hze (by omega) q9⟩⟩
  refine W.widen (k := zrm (ci / 32 + 1) csb - csb) (n := 2 * (zrm (ci / 32 + 1) csb - csb)) (by omega) (by omega) ?_
  exact loop37 (ci - 0 + 1) 0 a'_1 (zfill f'_2 0 (ci / 32 + 1) (nI 0)) (Nat.lt_succ_self _) (by omega) (fun i j hij hj => absurd hj (Nat.not_lt_zero _)) (zseen_0 (by omega)) _ _ _ (B.sub [0, 1, 2, 3] rfl (rfl)) (lv_sub hl [2, 1, 0] (rfl))
