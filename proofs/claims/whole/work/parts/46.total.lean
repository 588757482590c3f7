/-! CONTRACTS of Trip.total, pickVertexOf -/
def zsum (f : Nat → Nat) : Nat → Nat
  | 0 => 0
  | k + 1 => zsum f k + f k
/-- the cost of a round trip: rr its cities in their order, n of them -/
noncomputable def ztot (w : Nat → Nat) (ed : Nat) (rr : Nat → Nat) (n : Nat) : Nat := zdist w ed (rr (n - 1)) (rr 0) + zsum (fun i => zdist w ed (rr i) (rr (i + 1))) (n - 1)
theorem zdist_le (w : Nat → Nat) (ed x y : Nat) : zdist w ed x y ≤ 2 := by
  unfold zdist
  split
  · omega
  · split <;> omega
theorem zsum_le {f : Nat → Nat} {b : Nat} (h : ∀ i, f i ≤ b) : ∀ k, zsum f k ≤ b * k
  | 0 => Nat.zero_le _
  | k + 1 => by
    have e := zsum_le h k
    have q := h k
    rw [zsum, Nat.mul_succ]
    omega
theorem ztot_le (w : Nat → Nat) (ed : Nat) (rr : Nat → Nat) {n : Nat} (hn : 1 ≤ n) : ztot w ed rr n ≤ 2 * n := by
  have a := zdist_le w ed (rr (n - 1)) (rr 0)
  have b := zsum_le (fun i => zdist_le w ed (rr i) (rr (i + 1))) (n - 1)
  unfold ztot
  omega
theorem iX6_total_X6 : ∀ w ∈ u_ws RX6 TX6 6, w ∈ wsX6_total := by decide +kernel
theorem fX6_total_19 : Cond.fieldLink RX6 19 "TourChain$Trip" "graph" "LTourChain$Graph;" ∈ wsX6_total := by decide +kernel
theorem fX6_total_13 : Cond.fieldLink RX6 13 "TourChain$Trip" "row" "[I" ∈ wsX6_total := by decide +kernel
theorem iX6_total_X2 : ∀ w ∈ u_ws RX2 TX2 9, w ∈ wsX6_total := by decide +kernel
theorem fX6_total_23 : Cond.fieldLink RX6 23 "TourChain$Graph" "cities" "I" ∈ wsX6_total := by decide +kernel
theorem yX6_total_X2_distance : yX2_distance.cls = RX2 ∧ yX2_distance.cls ≠ "java/lang/invoke/MethodHandle" ∧ yX2_distance.cls ≠ "java/lang/invoke/VarHandle" ∧ (parseMethodDescriptor yX2_distance.desc).map (fun d => d.parameters.length) = some 2 := by decide +kernel
set_option maxHeartbeats 4000000 in
set_option maxRecDepth 100000 in
theorem kX6_total (l : Launch) (D : va_G) (cI cZ cG cJ : ClassId) (tr : Nat) (go : Nat) (tpk : Nat) (trw : Nat) (z1 : Int32) (z2 : Int32) (tsb : Nat) (fo : Nat) (ve : Nat) (ed : Nat) (se : Nat) (ci : Nat) (gva : Nat) (gsi : Nat) (gsd : Nat) (gst : Nat) (cv : Nat) (fv : Nat → Int32) (c2 : Nat) (f2 : Nat → Int32) (c3 : Nat) (f3s : Nat → Int32) (w : Nat → Nat) (crw : Nat) (frw : Nat → Int32) (rr : Nat → Nat) (h2 : ed ≤ 100000) (h3 : ve ≤ 100000) (h4 : (2 * ed) ≤ cv) (h5 : cv ≤ 1000000) (h7 : (2 * ed) ≤ c2) (h8 : ve + 1 ≤ c3) (h9 : c2 ≤ 1000000) (h10 : c3 ≤ 1000000) (hv : ∀ d, d < (2 * ed) → fv d = nI (w d)) (hw : ∀ d, d < (2 * ed) → w d < ve) (hst : ∀ u, u ≤ ve → f3s u = nI (zc (zlt w u) (2 * ed))) (hsd : ∀ d, d < (2 * ed) → f2 d = nI (zpos w (2 * ed) d)) (hrw : ∀ i, i < ci → frw i = nI (rr i) ∧ rr i < ci) (hci1 : 1 ≤ ci) (hci2 : ci ≤ 1000000) (hcr : ci ≤ crw) (hcr2 : crw ≤ 1000000) : zC l yX6_total wsX6_total 3 71 0 0 D (zT cI cZ cG cJ) [.ref tr] [(tr, .inr (8, [.ref go, .ref tpk, .ref trw, .int z1, .int z2, .ref tsb])), (trw, .inl (cI, crw, .inl frw)), (go, .inr (4, [.ref fo, .int (nI ve), .int (nI ed), .int (nI se), .int (nI ci), .ref gva, .ref gsi, .ref gsd, .ref gst])), (gva, .inl (cI, cv, .inl fv)), (gsd, .inl (cI, c2, .inl f2)), (gst, .inl (cI, c3, .inl f3s))] (fun (ov : Option Value) (ow : va_W) => ov = some (.int (nI (ztot w ed rr ci))) ∧ ow = [(tr, .inr (8, [.ref go, .ref tpk, .ref trw, .int z1, .int z2, .ref tsb])), (trw, .inl (cI, crw, .inl frw)), (go, .inr (4, [.ref fo, .int (nI ve), .int (nI ed), .int (nI se), .int (nI ci), .ref gva, .ref gsi, .ref gsd, .ref gst])), (gva, .inl (cI, cv, .inl fv)), (gsd, .inl (cI, c2, .inl f2)), (gst, .inl (cI, c3, .inl f3s))]) := by
  refine zC.of (cc := cX6_total) (maxL := 3) (ret := (some .int)) (by decide) rfl (Nat.le_of_ble_eq_true rfl) ?_
  intro p e s m below meth c A ls F hr hlk hnm B hl
  have hl : lv_has ls 3 [(0, .ref tr)] := hl
  refine lv_aload_n F.1 F.2.1 dX6_total_0 rfl (lv_at hl 0 rfl) ?_
  refine z_get F B 0 rfl (ci := 8) (C := RX6) (T := TX6) (N := 6) rfl iX6_total_X6 0 (by decide) fX6_total_19 rfl dX6_total_1 ?_
  refine lv_aload_n F.1 F.2.1 dX6_total_4 rfl (lv_at hl 0 rfl) ?_
  refine z_get F B 0 rfl (ci := 8) (C := RX6) (T := TX6) (N := 6) rfl iX6_total_X6 2 (by decide) fX6_total_13 rfl dX6_total_5 ?_
  refine lv_aload_n F.1 F.2.1 dX6_total_8 rfl (lv_at hl 0 rfl) ?_
  refine z_get F B 0 rfl (ci := 8) (C := RX6) (T := TX6) (N := 6) rfl iX6_total_X6 0 (by decide) fX6_total_19 rfl dX6_total_9 ?_
  refine z_get F B 2 rfl (ci := 4) (C := RX2) (T := TX2) (N := 9) rfl iX6_total_X2 4 (by decide) fX6_total_23 rfl dX6_total_12 ?_
  refine lv_iconst (v := (nI 1)) F.1 F.2.1 dX6_total_15 (by decide) ?_
  refine z_isub F (by omega) dX6_total_16 ?_
  refine z_iald F B 1 0 rfl rfl (j := ci - 1) (by omega) (by omega) dX6_total_17 ?_
  refine W.eq (g2 := F0 m 18 ls [.int (nI (rr (ci - 1))), .ref go]) (by rw [(hrw (ci - 1) (by omega)).1]) ?_
  refine lv_aload_n F.1 F.2.1 dX6_total_18 rfl (lv_at hl 0 rfl) ?_
  refine z_get F B 0 rfl (ci := 8) (C := RX6) (T := TX6) (N := 6) rfl iX6_total_X6 2 (by decide) fX6_total_13 rfl dX6_total_19 ?_
  refine lv_iconst (v := (nI 0)) F.1 F.2.1 dX6_total_22 (by decide) ?_
  refine z_iald F B 1 0 rfl rfl (j := 0) (by omega) (by omega) dX6_total_23 ?_
  refine W.eq (g2 := F0 m 24 ls [.int (nI (rr 0)), .int (nI (rr (ci - 1))), .ref go]) (by rw [(hrw 0 (by omega)).1]) ?_
  refine z_callV (wr := [(tr, .inr (8, [.ref go, .ref tpk, .ref trw, .int z1, .int z2, .ref tsb])), (trw, .inl (cI, crw, .inl frw))]) (rest := []) (As := [.int (nI (rr (ci - 1))), .int (nI (rr 0))]) F B (kX2_distance l D cI cZ cG cJ go fo ve ed se ci gva gsi gsd gst cv fv c2 f2 c3 f3s w (rr (ci - 1)) (rr 0) (h2) (h3) (h4) (h5) (h7) (h8) (h9) (h10) (hv) (hw) (hst) (hsd) (by have q9 := (hrw (ci - 1) (by omega)).2; omega) (by have q9 := (hrw 0 (by omega)).2; omega)) hl.1 (C := RX2) (T := TX2) (N := 9) (ci := 4) (q0 := 2) gX6_total_X2_distance rfl 2 yX6_total_X2_distance rfl rfl rfl [2, 3, 4, 5] [0, 1] rfl rfl rfl rfl (by decide) (Nat.le_of_ble_eq_true rfl) (Nat.le_of_ble_eq_true rfl) (Nat.le_of_ble_eq_true rfl) rfl dX6_total_24 (show 0 + 0 ≤ 0 by omega) (show 0 + 0 ≤ 0 by omega) (fun vv ww H locs hRR B => ?_)
  obtain ⟨rfl, rfl⟩ := hRR
  have B : zB D (zT cI cZ cG cJ) A s.heap s [(tr, .inr (8, [.ref go, .ref tpk, .ref trw, .int z1, .int z2, .ref tsb])), (trw, .inl (cI, crw, .inl frw)), (go, .inr (4, [.ref fo, .int (nI ve), .int (nI ed), .int (nI se), .int (nI ci), .ref gva, .ref gsi, .ref gsd, .ref gst])), (gva, .inl (cI, cv, .inl fv)), (gsd, .inl (cI, c2, .inl f2)), (gst, .inl (cI, c3, .inl f3s))] _ _ := B
  refine W.eq (g2 := F0 m 27 ls [.int (nI (zdist w ed (rr (ci - 1)) (rr 0)))]) rfl ?_
  refine lv_istore_n (lv' := [(1, .int (nI (zdist w ed (rr (ci - 1)) (rr 0)))), (0, .ref tr)]) F.1 F.2.1 dX6_total_27 rfl hl (by decide) rfl (fun ls hl => ?_)
  refine lv_iconst (v := (nI 1)) F.1 F.2.1 dX6_total_28 (by decide) ?_
  refine lv_istore_n (lv' := [(2, .int (nI 1)), (1, .int (nI (zdist w ed (rr (ci - 1)) (rr 0)))), (0, .ref tr)]) F.1 F.2.1 dX6_total_29 rfl hl (by decide) rfl (fun ls hl => ?_)
  have loop30 : ∀ (fuel : Nat) (k : Nat), ci - k < fuel → (1 ≤ k) → (k ≤ ci) → ∀ (H : Heap) (locs : List Loc) (ls : Array Slot), zB D (zT cI cZ cG cJ) A s.heap s [(tr, .inr (8, [.ref go, .ref tpk, .ref trw, .int z1, .int z2, .ref tsb])), (trw, .inl (cI, crw, .inl frw)), (go, .inr (4, [.ref fo, .int (nI ve), .int (nI ed), .int (nI se), .int (nI ci), .ref gva, .ref gsi, .ref gsd, .ref gst])), (gva, .inl (cI, cv, .inl fv)), (gsd, .inl (cI, c2, .inl f2)), (gst, .inl (cI, c3, .inl f3s))] H locs → lv_has ls 3 [(0, .ref tr), (1, .int (nI (zdist w ed (rr (ci - 1)) (rr 0) + zsum (fun i => zdist w ed (rr i) (rr (i + 1))) (k - 1)))), (2, .int (nI k))] → W p l e { frames := 3, cells := 0, slots := 0, locals := 71 } s m [.ref tr].toArray below meth c H locs 0 0 (zQ below [.ref tr].toArray s D (zT cI cZ cG cJ) A (fun (ov : Option Value) (ow : va_W) => ov = some (.int (nI (ztot w ed rr ci))) ∧ ow = [(tr, .inr (8, [.ref go, .ref tpk, .ref trw, .int z1, .int z2, .ref tsb])), (trw, .inl (cI, crw, .inl frw)), (go, .inr (4, [.ref fo, .int (nI ve), .int (nI ed), .int (nI se), .int (nI ci), .ref gva, .ref gsi, .ref gsd, .ref gst])), (gva, .inl (cI, cv, .inl fv)), (gsd, .inl (cI, c2, .inl f2)), (gst, .inl (cI, c3, .inl f3s))]) 0 0) (F0 m 30 ls []) := by
    intro fuel
    induction fuel with
    | zero => intro k hmz; exact absurd hmz (Nat.not_lt_zero _)
    | succ fuel ih =>
      intro k hm hk1 hk H locs ls B hl
      have ih30 := ih
      refine lv_iload_n F.1 F.2.1 dX6_total_30 rfl (lv_at hl 2 rfl) ?_
      refine lv_aload_n F.1 F.2.1 dX6_total_31 rfl (lv_at hl 0 rfl) ?_
      refine z_get F B 0 rfl (ci := 8) (C := RX6) (T := TX6) (N := 6) rfl iX6_total_X6 0 (by decide) fX6_total_19 rfl dX6_total_32 ?_
      refine z_get F B 2 rfl (ci := 4) (C := RX2) (T := TX2) (N := 9) rfl iX6_total_X2 4 (by decide) fX6_total_23 rfl dX6_total_35 ?_
      refine z_icmp_ge (tgt := 71) F (by omega) (by omega) dX6_total_38 (by decide) (fun c38 => ?_) (fun c38 => ?_)
      · refine lv_iload_n F.1 F.2.1 dX6_total_71 rfl (lv_at hl 1 rfl) ?_
        exact z_iret F hr hlk B [0, 1, 2, 3, 4, 5] rfl (rfl) dX6_total_72 (by omega) (by omega) ⟨by rw [show k = ci by omega]; rfl, rfl⟩
      · refine lv_iload_n F.1 F.2.1 dX6_total_41 rfl (lv_at hl 1 rfl) ?_
        refine lv_aload_n F.1 F.2.1 dX6_total_42 rfl (lv_at hl 0 rfl) ?_
        refine z_get F B 0 rfl (ci := 8) (C := RX6) (T := TX6) (N := 6) rfl iX6_total_X6 0 (by decide) fX6_total_19 rfl dX6_total_43 ?_
        refine lv_aload_n F.1 F.2.1 dX6_total_46 rfl (lv_at hl 0 rfl) ?_
        refine z_get F B 0 rfl (ci := 8) (C := RX6) (T := TX6) (N := 6) rfl iX6_total_X6 2 (by decide) fX6_total_13 rfl dX6_total_47 ?_
        refine lv_iload_n F.1 F.2.1 dX6_total_50 rfl (lv_at hl 2 rfl) ?_
        refine lv_iconst (v := (nI 1)) F.1 F.2.1 dX6_total_51 (by decide) ?_
        refine z_isub F (by omega) dX6_total_52 ?_
        refine z_iald F B 1 0 rfl rfl (j := k - 1) (by omega) (by omega) dX6_total_53 ?_
        refine W.eq (g2 := F0 m 54 ls [.int (nI (rr (k - 1))), .ref go, .int (nI (zdist w ed (rr (ci - 1)) (rr 0) + zsum (fun i => zdist w ed (rr i) (rr (i + 1))) (k - 1)))]) (by rw [(hrw (k - 1) (by omega)).1]) ?_
        refine lv_aload_n F.1 F.2.1 dX6_total_54 rfl (lv_at hl 0 rfl) ?_
        refine z_get F B 0 rfl (ci := 8) (C := RX6) (T := TX6) (N := 6) rfl iX6_total_X6 2 (by decide) fX6_total_13 rfl dX6_total_55 ?_
        refine lv_iload_n F.1 F.2.1 dX6_total_58 rfl (lv_at hl 2 rfl) ?_
        refine z_iald F B 1 0 rfl rfl (j := k) (by omega) (by omega) dX6_total_59 ?_
        refine W.eq (g2 := F0 m 60 ls [.int (nI (rr k)), .int (nI (rr (k - 1))), .ref go, .int (nI (zdist w ed (rr (ci - 1)) (rr 0) + zsum (fun i => zdist w ed (rr i) (rr (i + 1))) (k - 1)))]) (by rw [(hrw k (by omega)).1]) ?_
        refine z_callV (wr := [(tr, .inr (8, [.ref go, .ref tpk, .ref trw, .int z1, .int z2, .ref tsb])), (trw, .inl (cI, crw, .inl frw))]) (rest := [.int (nI (zdist w ed (rr (ci - 1)) (rr 0) + zsum (fun i => zdist w ed (rr i) (rr (i + 1))) (k - 1)))]) (As := [.int (nI (rr (k - 1))), .int (nI (rr k))]) F B (kX2_distance l D cI cZ cG cJ go fo ve ed se ci gva gsi gsd gst cv fv c2 f2 c3 f3s w (rr (k - 1)) (rr k) (h2) (h3) (h4) (h5) (h7) (h8) (h9) (h10) (hv) (hw) (hst) (hsd) (by have q9 := (hrw (k - 1) (by omega)).2; omega) (by have q9 := (hrw k (by omega)).2; omega)) hl.1 (C := RX2) (T := TX2) (N := 9) (ci := 4) (q0 := 2) gX6_total_X2_distance rfl 2 yX6_total_X2_distance rfl rfl rfl [2, 3, 4, 5] [0, 1] rfl rfl rfl rfl (by decide) (Nat.le_of_ble_eq_true rfl) (Nat.le_of_ble_eq_true rfl) (Nat.le_of_ble_eq_true rfl) rfl dX6_total_60 (show 0 + 0 ≤ 0 by omega) (show 0 + 0 ≤ 0 by omega) (fun vv ww H locs hRR B => ?_)
        obtain ⟨rfl, rfl⟩ := hRR
        have B : zB D (zT cI cZ cG cJ) A s.heap s [(tr, .inr (8, [.ref go, .ref tpk, .ref trw, .int z1, .int z2, .ref tsb])), (trw, .inl (cI, crw, .inl frw)), (go, .inr (4, [.ref fo, .int (nI ve), .int (nI ed), .int (nI se), .int (nI ci), .ref gva, .ref gsi, .ref gsd, .ref gst])), (gva, .inl (cI, cv, .inl fv)), (gsd, .inl (cI, c2, .inl f2)), (gst, .inl (cI, c3, .inl f3s))] _ _ := B
        refine W.eq (g2 := F0 m 63 ls [.int (nI (zdist w ed (rr (k - 1)) (rr k))), .int (nI (zdist w ed (rr (ci - 1)) (rr 0) + zsum (fun i => zdist w ed (rr i) (rr (i + 1))) (k - 1)))]) rfl ?_
        refine z_iadd F dX6_total_63 ?_
        refine lv_istore_n (lv' := [(1, .int (nI (zdist w ed (rr (ci - 1)) (rr 0) + zsum (fun i => zdist w ed (rr i) (rr (i + 1))) (k - 1) + (zdist w ed (rr (k - 1)) (rr k))))), (0, .ref tr), (2, .int (nI k))]) F.1 F.2.1 dX6_total_64 rfl hl (by decide) rfl (fun ls hl => ?_)
        refine lv_iinc (v := (nI (k + 1))) (lv' := [(2, .int (nI (k + 1))), (1, .int (nI (zdist w ed (rr (ci - 1)) (rr 0) + zsum (fun i => zdist w ed (rr i) (rr (i + 1))) (k - 1) + (zdist w ed (rr (k - 1)) (rr k))))), (0, .ref tr)]) F.1 F.2.1 dX6_total_65 hl (k := 2) rfl (by rw [show Int32.ofInt 1 = nI 1 from rfl, nI_add]) (by decide) rfl (fun ls hl => ?_)
        refine lv_goto (tgt := 30) F.1 F.2.1 dX6_total_68 (by decide) ?_
        exact ih30 (k + 1) (by first | omega | (simp only [] at *; omega)) (by omega) (by omega) _ _ _ (B.sub [0, 1, 2, 3, 4, 5] rfl (rfl)) (lv_sub hl [2, 1, 0] (by rw [show k + 1 - 1 = (k - 1) + 1 by omega]; show _ = _; rw [zsum, ← Nat.add_assoc, show k - 1 + 1 = k by omega]; rfl))
  exact loop30 (ci - 1 + 1) 1 (Nat.lt_succ_self _) (by omega) (by omega) _ _ _ (B.sub [0, 1, 2, 3, 4, 5] rfl (rfl)) (lv_sub hl [2, 1, 0] (rfl))
theorem iX6_pickVertexOf_X6 : ∀ w ∈ u_ws RX6 TX6 6, w ∈ wsX6_pickVertexOf := by decide +kernel
theorem fX6_pickVertexOf_19 : Cond.fieldLink RX6 19 "TourChain$Trip" "graph" "LTourChain$Graph;" ∈ wsX6_pickVertexOf := by decide +kernel
theorem yX6_pickVertexOf_X2_firstSelector : yX2_firstSelector.cls = RX2 ∧ yX2_firstSelector.cls ≠ "java/lang/invoke/MethodHandle" ∧ yX2_firstSelector.cls ≠ "java/lang/invoke/VarHandle" ∧ (parseMethodDescriptor yX2_firstSelector.desc).map (fun d => d.parameters.length) = some 0 := by decide +kernel
theorem fX6_pickVertexOf_7 : Cond.fieldLink RX6 7 "TourChain$Trip" "picked" "[I" ∈ wsX6_pickVertexOf := by decide +kernel
theorem iX6_pickVertexOf_X2 : ∀ w ∈ u_ws RX2 TX2 9, w ∈ wsX6_pickVertexOf := by decide +kernel
theorem fX6_pickVertexOf_62 : Cond.fieldLink RX6 62 "TourChain$Graph" "vertexAt" "[I" ∈ wsX6_pickVertexOf := by decide +kernel
set_option maxHeartbeats 4000000 in
set_option maxRecDepth 100000 in
theorem kX6_pickVertexOf (l : Launch) (D : va_G) (cI cZ cG cJ : ClassId) (tr : Nat) (go : Nat) (tpk : Nat) (trw : Nat) (z1 : Int32) (z2 : Int32) (tsb : Nat) (fo : Nat) (ve : Nat) (ed : Nat) (se : Nat) (ci : Nat) (gva : Nat) (gsi : Nat) (gsd : Nat) (gst : Nat) (cv : Nat) (fv : Nat → Int32) (w : Nat → Nat) (cpk : Nat) (fpk : Nat → Int32) (x : Nat) (h3 : ed ≤ 50000) (h4 : (2 * ed) ≤ cv) (h5 : cv ≤ 1000000) (hv : ∀ d, d < (2 * ed) → fv d = nI (w d)) (hw : ∀ d, d < (2 * ed) → w d < ve) (h6 : ve ≤ cpk) (h7 : cpk ≤ 1000000) (hx : x ≤ 1000000) : zC l yX6_pickVertexOf wsX6_pickVertexOf 1 20 0 0 D (zT cI cZ cG cJ) [.ref tr, .int (nI x)] [(tr, .inr (8, [.ref go, .ref tpk, .ref trw, .int z1, .int z2, .ref tsb])), (go, .inr (4, [.ref fo, .int (nI ve), .int (nI ed), .int (nI se), .int (nI ci), .ref gva, .ref gsi, .ref gsd, .ref gst])), (gva, .inl (cI, cv, .inl fv)), (tpk, .inl (cI, cpk, .inl fpk))] (fun (ov : Option Value) (ow : va_W) => ∃ fpk' : Nat → Int32, ov = none ∧ ow = [(tr, .inr (8, [.ref go, .ref tpk, .ref trw, .int z1, .int z2, .ref tsb])), (go, .inr (4, [.ref fo, .int (nI ve), .int (nI ed), .int (nI se), .int (nI ci), .ref gva, .ref gsi, .ref gsd, .ref gst])), (gva, .inl (cI, cv, .inl fv)), (tpk, .inl (cI, cpk, .inl fpk'))] ∧ ((x < 12 * ed → fpk' = upd fpk (w (x / 6)) (nI 1)) ∧ (¬ x < 12 * ed → fpk' = fpk))) := by
  refine zC.of (cc := cX6_pickVertexOf) (maxL := 2) (ret := none) (by decide) rfl (Nat.le_of_ble_eq_true rfl) ?_
  intro p e s m below meth c A ls F hr hlk hnm B hl
  have hl : lv_has ls 2 [(0, .ref tr), (1, .int (nI x))] := hl
  refine lv_iload_n F.1 F.2.1 dX6_pickVertexOf_0 rfl (lv_at hl 1 rfl) ?_
  refine lv_aload_n F.1 F.2.1 dX6_pickVertexOf_1 rfl (lv_at hl 0 rfl) ?_
  refine z_get F B 0 rfl (ci := 8) (C := RX6) (T := TX6) (N := 6) rfl iX6_pickVertexOf_X6 0 (by decide) fX6_pickVertexOf_19 rfl dX6_pickVertexOf_2 ?_
  refine z_callV (wr := [(tr, .inr (8, [.ref go, .ref tpk, .ref trw, .int z1, .int z2, .ref tsb])), (gva, .inl (cI, cv, .inl fv)), (tpk, .inl (cI, cpk, .inl fpk))]) (rest := [.int (nI x)]) (As := []) F B (kX2_firstSelector l D cI cZ cG cJ go fo ve ed se ci gva gsi gsd gst) hl.1 (C := RX2) (T := TX2) (N := 9) (ci := 4) (q0 := 1) gX6_pickVertexOf_X2_firstSelector rfl 0 yX6_pickVertexOf_X2_firstSelector rfl rfl rfl [1] [0, 2, 3] rfl rfl rfl rfl (by decide) (Nat.le_of_ble_eq_true rfl) (Nat.le_of_ble_eq_true rfl) (Nat.le_of_ble_eq_true rfl) rfl dX6_pickVertexOf_5 (show 0 + 0 ≤ 0 by omega) (show 0 + 0 ≤ 0 by omega) (fun vv ww H locs hRR B => ?_)
  obtain ⟨rfl, rfl⟩ := hRR
  have B : zB D (zT cI cZ cG cJ) A s.heap s [(tr, .inr (8, [.ref go, .ref tpk, .ref trw, .int z1, .int z2, .ref tsb])), (gva, .inl (cI, cv, .inl fv)), (tpk, .inl (cI, cpk, .inl fpk)), (go, .inr (4, [.ref fo, .int (nI ve), .int (nI ed), .int (nI se), .int (nI ci), .ref gva, .ref gsi, .ref gsd, .ref gst]))] _ _ := B
  refine W.eq (g2 := F0 m 8 ls [.int (nI (12 * ed)), .int (nI x)]) rfl ?_
  refine z_icmp_ge (tgt := 29) F (by omega) (by omega) dX6_pickVertexOf_8 (by decide) (fun c8 => ?_) (fun c8 => ?_)
  · exact z_vret F hr hlk B [0, 3, 1, 2] rfl (rfl) dX6_pickVertexOf_29 (by omega) (by omega) ⟨fpk, rfl, rfl, (⟨fun q9 => absurd q9 (by omega), fun _ => rfl⟩)⟩
  · have hwx := hw (x / 6) (by omega)
    refine lv_aload_n F.1 F.2.1 dX6_pickVertexOf_11 rfl (lv_at hl 0 rfl) ?_
    refine z_get F B 0 rfl (ci := 8) (C := RX6) (T := TX6) (N := 6) rfl iX6_pickVertexOf_X6 1 (by decide) fX6_pickVertexOf_7 rfl dX6_pickVertexOf_12 ?_
    refine lv_aload_n F.1 F.2.1 dX6_pickVertexOf_15 rfl (lv_at hl 0 rfl) ?_
    refine z_get F B 0 rfl (ci := 8) (C := RX6) (T := TX6) (N := 6) rfl iX6_pickVertexOf_X6 0 (by decide) fX6_pickVertexOf_19 rfl dX6_pickVertexOf_16 ?_
    refine z_get F B 3 rfl (ci := 4) (C := RX2) (T := TX2) (N := 9) rfl iX6_pickVertexOf_X2 5 (by decide) fX6_pickVertexOf_62 rfl dX6_pickVertexOf_19 ?_
    refine lv_iload_n F.1 F.2.1 dX6_pickVertexOf_22 rfl (lv_at hl 1 rfl) ?_
    refine lv_bipush (v := (nI 6)) F.1 F.2.1 dX6_pickVertexOf_23 (by decide) ?_
    refine z_idiv F (by omega) (by omega) (by omega) dX6_pickVertexOf_25 ?_
    refine z_iald F B 1 0 rfl rfl (j := x / 6) (by omega) (by omega) dX6_pickVertexOf_26 ?_
    refine W.eq (g2 := F0 m 27 ls [.int (nI (w (x / 6))), .ref tpk]) (by rw [hv (x / 6) (by omega)]) ?_
    refine lv_iconst (v := (nI 1)) F.1 F.2.1 dX6_pickVertexOf_27 (by decide) ?_
    refine z_iast F B 2 0 rfl rfl (j := w (x / 6)) (by omega) (by omega) dX6_pickVertexOf_28 (fun H locs B => ?_)
    have B : zB D (zT cI cZ cG cJ) A s.heap s [(tr, .inr (8, [.ref go, .ref tpk, .ref trw, .int z1, .int z2, .ref tsb])), (gva, .inl (cI, cv, .inl fv)), (tpk, .inl (cI, cpk, .inl (upd fpk (w (x / 6)) (nI 1)))), (go, .inr (4, [.ref fo, .int (nI ve), .int (nI ed), .int (nI se), .int (nI ci), .ref gva, .ref gsi, .ref gsd, .ref gst]))] _ _ := B
    exact z_vret F hr hlk B [0, 3, 1, 2] rfl (rfl) dX6_pickVertexOf_29 (by omega) (by omega) ⟨(upd fpk (w (x / 6)) (nI 1)), rfl, rfl, (⟨fun _ => rfl, fun q9 => absurd (show x < 12 * ed by omega) q9⟩)⟩
