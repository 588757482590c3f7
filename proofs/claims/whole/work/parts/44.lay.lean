/-! CONTRACTS of Trip.layCities, layVertex -/
theorem iX6_layCities_X6 : ∀ w ∈ u_ws RX6 TX6 6, w ∈ wsX6_layCities := by decide +kernel
theorem fX6_layCities_13 : Cond.fieldLink RX6 13 "TourChain$Trip" "row" "[I" ∈ wsX6_layCities := by decide +kernel
set_option maxHeartbeats 4000000 in
set_option maxRecDepth 100000 in
theorem kX6_layCities (l : Launch) (D : va_G) (cI cZ cG cJ : ClassId) (tr : Nat) (go : Nat) (tpk : Nat) (trw : Nat) (z1 : Int32) (z2 : Int32) (tsb : Nat) (crw : Nat) (frw : Nat → Int32) (L : List Nat) (a : Nat) (x : Nat) (n : Nat) (hR : zR frw a L) (h1 : a + n ≤ crw) (h2 : crw ≤ 1000000) (h3 : n ≤ 100) (h4 : x ≤ 1000000) : zC l yX6_layCities wsX6_layCities 0 0 0 0 D (zT cI cZ cG cJ) [.ref tr, .int (nI a), .int (nI x), .int (nI n)] [(tr, .inr (8, [.ref go, .ref tpk, .ref trw, .int z1, .int z2, .ref tsb])), (trw, .inl (cI, crw, .inl frw))] (fun (ov : Option Value) (ow : va_W) => ∃ frw' : Nat → Int32, ov = some (.int (nI (a + n))) ∧ ow = [(tr, .inr (8, [.ref go, .ref tpk, .ref trw, .int z1, .int z2, .ref tsb])), (trw, .inl (cI, crw, .inl frw'))] ∧ (zR frw' (a + n) (L ++ zrun x n))) := by
  refine zC.of (cc := cX6_layCities) (maxL := 5) (ret := (some .int)) (by decide) rfl (Nat.le_of_ble_eq_true rfl) ?_
  intro p e s m below meth c A ls F hr hlk hnm B hl
  have hl : lv_has ls 5 [(0, .ref tr), (1, .int (nI a)), (2, .int (nI x)), (3, .int (nI n))] := hl
  refine lv_iconst (v := (nI 0)) F.1 F.2.1 dX6_layCities_0 (by decide) ?_
  refine lv_istore (lv' := [(4, .int (nI 0)), (0, .ref tr), (1, .int (nI a)), (2, .int (nI x)), (3, .int (nI n))]) F.1 F.2.1 dX6_layCities_1 hl (by decide) rfl (fun ls hl => ?_)
  have loop3 : ∀ (fuel : Nat) (i : Nat) (f1 : Nat → Int32), n - i < fuel → (i ≤ n) → (zR f1 (a + i) (L ++ zrun x i)) → ∀ (H : Heap) (locs : List Loc) (ls : Array Slot), zB D (zT cI cZ cG cJ) A s.heap s [(tr, .inr (8, [.ref go, .ref tpk, .ref trw, .int z1, .int z2, .ref tsb])), (trw, .inl (cI, crw, .inl f1))] H locs → lv_has ls 5 [(0, .ref tr), (1, .int (nI a)), (2, .int (nI x)), (3, .int (nI n)), (4, .int (nI i))] → W p l e { frames := 0, cells := 0, slots := 0, locals := 0 } s m [.ref tr, .int (nI a), .int (nI x), .int (nI n)].toArray below meth c H locs 0 0 (zQ below [.ref tr, .int (nI a), .int (nI x), .int (nI n)].toArray s D (zT cI cZ cG cJ) A (fun (ov : Option Value) (ow : va_W) => ∃ frw' : Nat → Int32, ov = some (.int (nI (a + n))) ∧ ow = [(tr, .inr (8, [.ref go, .ref tpk, .ref trw, .int z1, .int z2, .ref tsb])), (trw, .inl (cI, crw, .inl frw'))] ∧ (zR frw' (a + n) (L ++ zrun x n))) 0 0) (F0 m 3 ls []) := by
    intro fuel
    induction fuel with
    | zero => intro i f1 hmz; exact absurd hmz (Nat.not_lt_zero _)
    | succ fuel ih =>
      intro i f1 hm hi hf H locs ls B hl
      have ih3 := ih
      refine lv_iload F.1 F.2.1 dX6_layCities_3 (lv_at hl 4 rfl) ?_
      refine lv_iload_n F.1 F.2.1 dX6_layCities_5 rfl (lv_at hl 3 rfl) ?_
      refine z_icmp_ge (tgt := 28) F (by omega) (by omega) dX6_layCities_6 (by decide) (fun c6 => ?_) (fun c6 => ?_)
      · have hin : n = i := by omega
        subst hin
        refine lv_iload_n F.1 F.2.1 dX6_layCities_28 rfl (lv_at hl 1 rfl) ?_
        refine lv_iload_n F.1 F.2.1 dX6_layCities_29 rfl (lv_at hl 3 rfl) ?_
        refine z_iadd F dX6_layCities_30 ?_
        exact z_iret F hr hlk B [0, 1] rfl (rfl) dX6_layCities_31 (by omega) (by omega) ⟨f1, rfl, rfl, hf⟩
      · refine lv_aload_n F.1 F.2.1 dX6_layCities_9 rfl (lv_at hl 0 rfl) ?_
        refine z_get F B 0 rfl (ci := 8) (C := RX6) (T := TX6) (N := 6) rfl iX6_layCities_X6 2 (by decide) fX6_layCities_13 rfl dX6_layCities_10 ?_
        refine lv_iload_n F.1 F.2.1 dX6_layCities_13 rfl (lv_at hl 1 rfl) ?_
        refine lv_iload F.1 F.2.1 dX6_layCities_14 (lv_at hl 4 rfl) ?_
        refine z_iadd F dX6_layCities_16 ?_
        refine lv_iload_n F.1 F.2.1 dX6_layCities_17 rfl (lv_at hl 2 rfl) ?_
        refine lv_iload F.1 F.2.1 dX6_layCities_18 (lv_at hl 4 rfl) ?_
        refine z_iadd F dX6_layCities_20 ?_
        refine z_iast F B 1 0 rfl rfl (j := a + i) (by omega) (by omega) dX6_layCities_21 (fun H locs B => ?_)
        have B : zB D (zT cI cZ cG cJ) A s.heap s [(tr, .inr (8, [.ref go, .ref tpk, .ref trw, .int z1, .int z2, .ref tsb])), (trw, .inl (cI, crw, .inl (upd f1 (a + i) (nI (x + i)))))] _ _ := B
        refine lv_iinc (v := (nI (i + 1))) (lv' := [(4, .int (nI (i + 1))), (0, .ref tr), (1, .int (nI a)), (2, .int (nI x)), (3, .int (nI n))]) F.1 F.2.1 dX6_layCities_22 hl (k := 4) rfl (by rw [show Int32.ofInt 1 = nI 1 from rfl, nI_add]) (by decide) rfl (fun ls hl => ?_)
        refine lv_goto (tgt := 3) F.1 F.2.1 dX6_layCities_25 (by decide) ?_
        exact ih3 (i + 1) (upd f1 (a + i) (nI (x + i))) (by first | omega | (simp only [] at *; omega)) (by omega) (by rw [zrun_S, ← List.append_assoc]; exact zR_add hf (fun y hy => pk_un (Nat.ne_of_lt hy)) pk_us) _ _ _ (B.sub [0, 1] rfl (rfl)) (lv_sub hl [1, 2, 3, 4, 0] rfl)
  exact loop3 (n - 0 + 1) 0 frw (Nat.lt_succ_self _) (by omega) (by simpa [zrun] using hR) _ _ _ (B.sub [0, 1] rfl (rfl)) (lv_sub hl [1, 2, 3, 4, 0] rfl)
theorem iX6_layVertex_X6 : ∀ w ∈ u_ws RX6 TX6 6, w ∈ wsX6_layVertex := by decide +kernel
theorem fX6_layVertex_19 : Cond.fieldLink RX6 19 "TourChain$Trip" "graph" "LTourChain$Graph;" ∈ wsX6_layVertex := by decide +kernel
theorem iX6_layVertex_X2 : ∀ w ∈ u_ws RX2 TX2 9, w ∈ wsX6_layVertex := by decide +kernel
theorem fX6_layVertex_56 : Cond.fieldLink RX6 56 "TourChain$Graph" "starts" "[I" ∈ wsX6_layVertex := by decide +kernel
theorem fX6_layVertex_59 : Cond.fieldLink RX6 59 "TourChain$Graph" "sides" "[I" ∈ wsX6_layVertex := by decide +kernel
theorem yX6_layVertex_X6_layCities : yX6_layCities.cls = RX6 ∧ yX6_layCities.cls ≠ "java/lang/invoke/MethodHandle" ∧ yX6_layCities.cls ≠ "java/lang/invoke/VarHandle" ∧ (parseMethodDescriptor yX6_layCities.desc).map (fun d => d.parameters.length) = some 3 := by decide +kernel
theorem fX6_layVertex_62 : Cond.fieldLink RX6 62 "TourChain$Graph" "vertexAt" "[I" ∈ wsX6_layVertex := by decide +kernel
set_option maxHeartbeats 4000000 in
set_option maxRecDepth 100000 in
theorem kX6_layVertex (l : Launch) (D : va_G) (cI cZ cG cJ : ClassId) (tr : Nat) (go : Nat) (tpk : Nat) (trw : Nat) (z1 : Int32) (z2 : Int32) (tsb : Nat) (ve : Nat) (ed : Nat) (se : Nat) (ci : Nat) (fo : Nat) (gva : Nat) (gsi : Nat) (gsd : Nat) (gst : Nat) (cv : Nat) (fv : Nat → Int32) (c1 : Nat) (f1 : Nat → Int32) (c3 : Nat) (f3s : Nat → Int32) (w : Nat → Nat) (cca : Nat) (cva : Nat) (fcv : Nat → Int32) (cov : Nat → Nat) (crw : Nat) (frw : Nat → Int32) (L : List Nat) (a : Nat) (u : Nat) (h2 : crw ≤ 1000000) (h3 : ed ≤ 50000) (h4 : (2 * ed) ≤ cv) (h5 : cv ≤ 1000000) (h6 : (2 * ed) ≤ c1) (h7 : c1 ≤ 1000000) (h8 : ve + 1 ≤ c3) (h9 : c3 ≤ 1000000) (h10 : ve ≤ cca) (h11 : cca ≤ 1000000) (hv : ∀ d, d < (2 * ed) → fv d = nI (w d)) (hw : ∀ d, d < (2 * ed) → w d < ve) (hst : ∀ u, u ≤ ve → f3s u = nI (zc (zlt w u) (2 * ed))) (hsi : ∀ d, d < (2 * ed) → f1 (zpos w (2 * ed) d) = nI d) (hcv : ∀ u, u < ve → fcv u = nI (cov u) ∧ cov u ≤ 1) (hR : zR frw a L) (hu : u < ve) (h1 : a + (zlayV w cov (2 * ed) u).length ≤ crw) : zC l yX6_layVertex wsX6_layVertex 1 24 0 0 D (zT cI cZ cG cJ) [.ref tr, .int (nI a), .int (nI u), .ref cva] [(tr, .inr (8, [.ref go, .ref tpk, .ref trw, .int z1, .int z2, .ref tsb])), (trw, .inl (cI, crw, .inl frw)), (go, .inr (4, [.ref fo, .int (nI ve), .int (nI ed), .int (nI se), .int (nI ci), .ref gva, .ref gsi, .ref gsd, .ref gst])), (gva, .inl (cI, cv, .inl fv)), (gsi, .inl (cI, c1, .inl f1)), (gst, .inl (cI, c3, .inl f3s)), (cva, .inl (cI, cca, .inl fcv))] (fun (ov : Option Value) (ow : va_W) => ∃ frw' : Nat → Int32, ov = some (.int (nI (a + (zlayV w cov (2 * ed) u).length))) ∧ ow = [(tr, .inr (8, [.ref go, .ref tpk, .ref trw, .int z1, .int z2, .ref tsb])), (trw, .inl (cI, crw, .inl frw')), (go, .inr (4, [.ref fo, .int (nI ve), .int (nI ed), .int (nI se), .int (nI ci), .ref gva, .ref gsi, .ref gsd, .ref gst])), (gva, .inl (cI, cv, .inl fv)), (gsi, .inl (cI, c1, .inl f1)), (gst, .inl (cI, c3, .inl f3s)), (cva, .inl (cI, cca, .inl fcv))] ∧ (zR frw' (a + (zlayV w cov (2 * ed) u).length) (L ++ zlayV w cov (2 * ed) u))) := by
  refine zC.of (cc := cX6_layVertex) (maxL := 8) (ret := (some .int)) (by decide) rfl (Nat.le_of_ble_eq_true rfl) ?_
  intro p e s m below meth c A ls F hr hlk hnm B hl
  have hl : lv_has ls 8 [(0, .ref tr), (1, .int (nI a)), (2, .int (nI u)), (3, .ref cva)] := hl
  have hsp := zc_split w u (2 * ed)
  have hcl1 := zc_le (zlt w u) (2 * ed); have hcl2 := zc_le (zlt w (u + 1)) (2 * ed)
  refine lv_iload_n F.1 F.2.1 dX6_layVertex_0 rfl (lv_at hl 1 rfl) ?_
  refine lv_istore (lv' := [(4, .int (nI a)), (0, .ref tr), (1, .int (nI a)), (2, .int (nI u)), (3, .ref cva)]) F.1 F.2.1 dX6_layVertex_1 hl (by decide) rfl (fun ls hl => ?_)
  refine lv_aload_n F.1 F.2.1 dX6_layVertex_3 rfl (lv_at hl 1 rfl) ?_
  refine z_get F B 0 rfl (ci := 8) (C := RX6) (T := TX6) (N := 6) rfl iX6_layVertex_X6 0 (by decide) fX6_layVertex_19 rfl dX6_layVertex_4 ?_
  refine z_get F B 2 rfl (ci := 4) (C := RX2) (T := TX2) (N := 9) rfl iX6_layVertex_X2 8 (by decide) fX6_layVertex_56 rfl dX6_layVertex_7 ?_
  refine lv_iload_n F.1 F.2.1 dX6_layVertex_10 rfl (lv_at hl 3 rfl) ?_
  refine z_iald F B 5 0 rfl rfl (j := u) (by omega) (by omega) dX6_layVertex_11 ?_
  refine W.eq (g2 := F0 m 12 ls [.int (nI (zc (zlt w u) (2 * ed)))]) (by rw [hst u (by omega)]) ?_
  refine lv_istore (lv' := [(5, .int (nI (zc (zlt w u) (2 * ed)))), (4, .int (nI a)), (0, .ref tr), (1, .int (nI a)), (2, .int (nI u)), (3, .ref cva)]) F.1 F.2.1 dX6_layVertex_12 hl (by decide) rfl (fun ls hl => ?_)
  have loop14 : ∀ (fuel : Nat) (k : Nat) (b : Nat) (g1 : Nat → Int32), (zc (zeq w u) (2 * ed)) - k < fuel → (k ≤ (zc (zeq w u) (2 * ed))) → (b = a + (zlayK w cov (2 * ed) u k).length) → (zR g1 b (L ++ zlayK w cov (2 * ed) u k)) → ∀ (H : Heap) (locs : List Loc) (ls : Array Slot), zB D (zT cI cZ cG cJ) A s.heap s [(tr, .inr (8, [.ref go, .ref tpk, .ref trw, .int z1, .int z2, .ref tsb])), (trw, .inl (cI, crw, .inl g1)), (go, .inr (4, [.ref fo, .int (nI ve), .int (nI ed), .int (nI se), .int (nI ci), .ref gva, .ref gsi, .ref gsd, .ref gst])), (gva, .inl (cI, cv, .inl fv)), (gsi, .inl (cI, c1, .inl f1)), (gst, .inl (cI, c3, .inl f3s)), (cva, .inl (cI, cca, .inl fcv))] H locs → lv_has ls 8 [(0, .ref tr), (1, .int (nI a)), (2, .int (nI u)), (3, .ref cva), (4, .int (nI b)), (5, .int (nI ((zc (zlt w u) (2 * ed)) + k)))] → W p l e { frames := 1, cells := 0, slots := 0, locals := 24 } s m [.ref tr, .int (nI a), .int (nI u), .ref cva].toArray below meth c H locs 0 0 (zQ below [.ref tr, .int (nI a), .int (nI u), .ref cva].toArray s D (zT cI cZ cG cJ) A (fun (ov : Option Value) (ow : va_W) => ∃ frw' : Nat → Int32, ov = some (.int (nI (a + (zlayV w cov (2 * ed) u).length))) ∧ ow = [(tr, .inr (8, [.ref go, .ref tpk, .ref trw, .int z1, .int z2, .ref tsb])), (trw, .inl (cI, crw, .inl frw')), (go, .inr (4, [.ref fo, .int (nI ve), .int (nI ed), .int (nI se), .int (nI ci), .ref gva, .ref gsi, .ref gsd, .ref gst])), (gva, .inl (cI, cv, .inl fv)), (gsi, .inl (cI, c1, .inl f1)), (gst, .inl (cI, c3, .inl f3s)), (cva, .inl (cI, cca, .inl fcv))] ∧ (zR frw' (a + (zlayV w cov (2 * ed) u).length) (L ++ zlayV w cov (2 * ed) u))) 0 0) (F0 m 14 ls []) := by
    intro fuel
    induction fuel with
    | zero => intro k b g1 hmz; exact absurd hmz (Nat.not_lt_zero _)
    | succ fuel ih =>
      intro k b g1 hm hk hb hf H locs ls B hl
      have ih14 := ih
      refine lv_iload F.1 F.2.1 dX6_layVertex_14 (lv_at hl 5 rfl) ?_
      refine lv_aload_n F.1 F.2.1 dX6_layVertex_16 rfl (lv_at hl 0 rfl) ?_
      refine z_get F B 0 rfl (ci := 8) (C := RX6) (T := TX6) (N := 6) rfl iX6_layVertex_X6 0 (by decide) fX6_layVertex_19 rfl dX6_layVertex_17 ?_
      refine z_get F B 2 rfl (ci := 4) (C := RX2) (T := TX2) (N := 9) rfl iX6_layVertex_X2 8 (by decide) fX6_layVertex_56 rfl dX6_layVertex_20 ?_
      refine lv_iload_n F.1 F.2.1 dX6_layVertex_23 rfl (lv_at hl 2 rfl) ?_
      refine lv_iconst (v := (nI 1)) F.1 F.2.1 dX6_layVertex_24 (by decide) ?_
      refine z_iadd F dX6_layVertex_25 ?_
      refine z_iald F B 5 0 rfl rfl (j := u + 1) (by omega) (by omega) dX6_layVertex_26 ?_
      refine W.eq (g2 := F0 m 27 ls [.int (nI (zc (zlt w (u + 1)) (2 * ed))), .int (nI ((zc (zlt w u) (2 * ed)) + k))]) (by rw [hst (u + 1) (by omega)]) ?_
      refine z_icmp_ge (tgt := 114) F (by omega) (by omega) dX6_layVertex_27 (by decide) (fun c27 => ?_) (fun c27 => ?_)
      · have hkn : k = (zc (zeq w u) (2 * ed)) := by omega
        rw [hkn] at hb hf
        refine lv_iload F.1 F.2.1 dX6_layVertex_114 (lv_at hl 4 rfl) ?_
        exact z_iret F hr hlk B [0, 1, 2, 3, 4, 5, 6] rfl (rfl) dX6_layVertex_116 (by omega) (by omega) ⟨g1, by rw [hb]; rfl, rfl, (by rw [hb] at hf; exact hf)⟩
      · have hkn : k < (zc (zeq w u) (2 * ed)) := by omega
        obtain ⟨hd1, hd2, hd3⟩ := zsl_at w u (2 * ed) k hkn
        have hdx := zx1_lt hd1
        have hwx := hw _ hdx
        have hcx := hcv _ hwx
        have hkm := zlayK_mono w cov (2 * ed) u (show k + 1 ≤ (zc (zeq w u) (2 * ed)) from hkn)
        rw [zlayK_S, List.length_append] at hkm
        have hkm2 : (zlayK w cov (2 * ed) u k).length + (zlay1 w cov ((zsl w u (2 * ed)).getD k 0)).length ≤ (zlayV w cov (2 * ed) u).length := hkm
        clear hkm
        refine lv_aload_n F.1 F.2.1 dX6_layVertex_30 rfl (lv_at hl 0 rfl) ?_
        refine z_get F B 0 rfl (ci := 8) (C := RX6) (T := TX6) (N := 6) rfl iX6_layVertex_X6 0 (by decide) fX6_layVertex_19 rfl dX6_layVertex_31 ?_
        refine z_get F B 2 rfl (ci := 4) (C := RX2) (T := TX2) (N := 9) rfl iX6_layVertex_X2 6 (by decide) fX6_layVertex_59 rfl dX6_layVertex_34 ?_
        refine lv_iload F.1 F.2.1 dX6_layVertex_37 (lv_at hl 5 rfl) ?_
        refine z_iald F B 4 0 rfl rfl (j := (zc (zlt w u) (2 * ed)) + k) (by omega) (by omega) dX6_layVertex_39 ?_
        refine W.eq (g2 := F0 m 40 ls [.int (nI ((zsl w u (2 * ed)).getD k 0))]) (by rw [zsides hsi hkn]) ?_
        refine lv_istore (lv' := [(6, .int (nI ((zsl w u (2 * ed)).getD k 0))), (0, .ref tr), (1, .int (nI a)), (2, .int (nI u)), (3, .ref cva), (4, .int (nI b)), (5, .int (nI ((zc (zlt w u) (2 * ed)) + k)))]) F.1 F.2.1 dX6_layVertex_40 hl (by decide) rfl (fun ls hl => ?_)
        refine lv_iload F.1 F.2.1 dX6_layVertex_42 (lv_at hl 0 rfl) ?_
        refine lv_iconst (v := (nI 1)) F.1 F.2.1 dX6_layVertex_44 (by decide) ?_
        refine lv_ixor F.1 F.2.1 dX6_layVertex_45 ?_
        refine W.eq (g2 := F0 m 46 ls [.int (nI (zx1 ((zsl w u (2 * ed)).getD k 0)))]) (by rw [zxor1]) ?_
        refine lv_istore (lv' := [(7, .int (nI (zx1 ((zsl w u (2 * ed)).getD k 0)))), (6, .int (nI ((zsl w u (2 * ed)).getD k 0))), (0, .ref tr), (1, .int (nI a)), (2, .int (nI u)), (3, .ref cva), (4, .int (nI b)), (5, .int (nI ((zc (zlt w u) (2 * ed)) + k)))]) F.1 F.2.1 dX6_layVertex_46 hl (by decide) rfl (fun ls hl => ?_)
        have hl6 : 6 ≤ (zlay1 w cov ((zsl w u (2 * ed)).getD k 0)).length := by rcases Nat.eq_zero_or_pos (cov (w (zx1 ((zsl w u (2 * ed)).getD k 0)))) with q9 | q9; exact (by rw [zlay1_len0 q9]; decide); exact (by rw [zlay1_len1 (by omega)]; decide)
        refine lv_aload_n F.1 F.2.1 dX6_layVertex_48 rfl (lv_at hl 2 rfl) ?_
        refine lv_iload F.1 F.2.1 dX6_layVertex_49 (lv_at hl 6 rfl) ?_
        refine lv_bipush (v := (nI 6)) F.1 F.2.1 dX6_layVertex_51 (by decide) ?_
        refine lv_iload F.1 F.2.1 dX6_layVertex_53 (lv_at hl 1 rfl) ?_
        refine z_imul F dX6_layVertex_55 ?_
        refine lv_iconst (v := (nI 3)) F.1 F.2.1 dX6_layVertex_56 (by decide) ?_
        refine z_callV (wr := [(go, .inr (4, [.ref fo, .int (nI ve), .int (nI ed), .int (nI se), .int (nI ci), .ref gva, .ref gsi, .ref gsd, .ref gst])), (gva, .inl (cI, cv, .inl fv)), (gsi, .inl (cI, c1, .inl f1)), (gst, .inl (cI, c3, .inl f3s)), (cva, .inl (cI, cca, .inl fcv))]) (rest := []) (As := [.int (nI b), .int (nI (6 * ((zsl w u (2 * ed)).getD k 0))), .int (nI 3)]) F B (kX6_layCities l D cI cZ cG cJ tr go tpk trw z1 z2 tsb crw g1 (L ++ zlayK w cov (2 * ed) u k) b (6 * ((zsl w u (2 * ed)).getD k 0)) 3 (hf) (by omega) (by omega) (by omega) (by omega)) hl.1 (C := RX6) (T := TX6) (N := 6) (ci := 8) (q0 := 0) gX6_layVertex_X6_layCities rfl 3 yX6_layVertex_X6_layCities rfl rfl rfl [0, 1] [2, 3, 4, 5, 6] rfl rfl rfl rfl (by decide) (Nat.le_of_ble_eq_true rfl) (Nat.le_of_ble_eq_true rfl) (Nat.le_of_ble_eq_true rfl) rfl dX6_layVertex_57 (show 0 + 0 ≤ 0 by omega) (show 0 + 0 ≤ 0 by omega) (fun vv ww H locs hRR B => ?_)
        obtain ⟨frw'_1, rfl, rfl, hR1⟩ := hRR
        have B : zB D (zT cI cZ cG cJ) A s.heap s [(go, .inr (4, [.ref fo, .int (nI ve), .int (nI ed), .int (nI se), .int (nI ci), .ref gva, .ref gsi, .ref gsd, .ref gst])), (gva, .inl (cI, cv, .inl fv)), (gsi, .inl (cI, c1, .inl f1)), (gst, .inl (cI, c3, .inl f3s)), (cva, .inl (cI, cca, .inl fcv)), (tr, .inr (8, [.ref go, .ref tpk, .ref trw, .int z1, .int z2, .ref tsb])), (trw, .inl (cI, crw, .inl frw'_1))] _ _ := B
        refine W.eq (g2 := F0 m 60 ls [.int (nI (b + 3))]) rfl ?_
        refine lv_istore (lv' := [(4, .int (nI (b + 3))), (7, .int (nI (zx1 ((zsl w u (2 * ed)).getD k 0)))), (6, .int (nI ((zsl w u (2 * ed)).getD k 0))), (0, .ref tr), (1, .int (nI a)), (2, .int (nI u)), (3, .ref cva), (5, .int (nI ((zc (zlt w u) (2 * ed)) + k)))]) F.1 F.2.1 dX6_layVertex_60 hl (by decide) rfl (fun ls hl => ?_)
        refine lv_aload_n F.1 F.2.1 dX6_layVertex_62 rfl (lv_at hl 6 rfl) ?_
        refine lv_aload_n F.1 F.2.1 dX6_layVertex_63 rfl (lv_at hl 3 rfl) ?_
        refine z_get F B 5 rfl (ci := 8) (C := RX6) (T := TX6) (N := 6) rfl iX6_layVertex_X6 0 (by decide) fX6_layVertex_19 rfl dX6_layVertex_64 ?_
        refine z_get F B 0 rfl (ci := 4) (C := RX2) (T := TX2) (N := 9) rfl iX6_layVertex_X2 5 (by decide) fX6_layVertex_62 rfl dX6_layVertex_67 ?_
        refine lv_iload F.1 F.2.1 dX6_layVertex_70 (lv_at hl 1 rfl) ?_
        refine z_iald F B 1 0 rfl rfl (j := zx1 ((zsl w u (2 * ed)).getD k 0)) (by omega) (by omega) dX6_layVertex_72 ?_
        refine W.eq (g2 := F0 m 73 ls [.int (nI (w (zx1 ((zsl w u (2 * ed)).getD k 0)))), .ref cva]) (by rw [hv _ hdx]) ?_
        refine z_iald F B 4 0 rfl rfl (j := w (zx1 ((zsl w u (2 * ed)).getD k 0))) (by omega) (by omega) dX6_layVertex_73 ?_
        refine W.eq (g2 := F0 m 74 ls [.int (nI (cov (w (zx1 ((zsl w u (2 * ed)).getD k 0)))))]) (by rw [hcx.1]) ?_
        refine z_if_ne (tgt := 92) F (by omega) dX6_layVertex_74 (by decide) (fun hc0 => ?_) (fun hc0 => ?_)
        · refine lv_aload_n F.1 F.2.1 dX6_layVertex_92 rfl (lv_at hl 3 rfl) ?_
          refine lv_iload F.1 F.2.1 dX6_layVertex_93 (lv_at hl 0 rfl) ?_
          refine lv_bipush (v := (nI 6)) F.1 F.2.1 dX6_layVertex_95 (by decide) ?_
          refine lv_iload F.1 F.2.1 dX6_layVertex_97 (lv_at hl 2 rfl) ?_
          refine z_imul F dX6_layVertex_99 ?_
          refine lv_iconst (v := (nI 3)) F.1 F.2.1 dX6_layVertex_100 (by decide) ?_
          refine z_iadd F dX6_layVertex_101 ?_
          refine lv_iconst (v := (nI 3)) F.1 F.2.1 dX6_layVertex_102 (by decide) ?_
          refine z_callV (wr := [(go, .inr (4, [.ref fo, .int (nI ve), .int (nI ed), .int (nI se), .int (nI ci), .ref gva, .ref gsi, .ref gsd, .ref gst])), (gva, .inl (cI, cv, .inl fv)), (gsi, .inl (cI, c1, .inl f1)), (gst, .inl (cI, c3, .inl f3s)), (cva, .inl (cI, cca, .inl fcv))]) (rest := []) (As := [.int (nI (b + 3)), .int (nI (6 * ((zsl w u (2 * ed)).getD k 0) + 3)), .int (nI 3)]) F B (kX6_layCities l D cI cZ cG cJ tr go tpk trw z1 z2 tsb crw frw'_1 ((L ++ zlayK w cov (2 * ed) u k) ++ zrun (6 * ((zsl w u (2 * ed)).getD k 0)) 3) (b + 3) (6 * ((zsl w u (2 * ed)).getD k 0) + 3) 3 (hR1) (by omega) (by omega) (by omega) (by omega)) hl.1 (C := RX6) (T := TX6) (N := 6) (ci := 8) (q0 := 5) gX6_layVertex_X6_layCities rfl 3 yX6_layVertex_X6_layCities rfl rfl rfl [5, 6] [0, 1, 2, 3, 4] rfl rfl rfl rfl (by decide) (Nat.le_of_ble_eq_true rfl) (Nat.le_of_ble_eq_true rfl) (Nat.le_of_ble_eq_true rfl) rfl dX6_layVertex_103 (show 0 + 0 ≤ 0 by omega) (show 0 + 0 ≤ 0 by omega) (fun vv ww H locs hRR B => ?_)
          obtain ⟨frw'_2, rfl, rfl, hR3⟩ := hRR
          have B : zB D (zT cI cZ cG cJ) A s.heap s [(go, .inr (4, [.ref fo, .int (nI ve), .int (nI ed), .int (nI se), .int (nI ci), .ref gva, .ref gsi, .ref gsd, .ref gst])), (gva, .inl (cI, cv, .inl fv)), (gsi, .inl (cI, c1, .inl f1)), (gst, .inl (cI, c3, .inl f3s)), (cva, .inl (cI, cca, .inl fcv)), (tr, .inr (8, [.ref go, .ref tpk, .ref trw, .int z1, .int z2, .ref tsb])), (trw, .inl (cI, crw, .inl frw'_2))] _ _ := B
          refine W.eq (g2 := F0 m 106 ls [.int (nI ((b + 3) + 3))]) rfl ?_
          refine lv_istore (lv' := [(4, .int (nI ((b + 3) + 3))), (7, .int (nI (zx1 ((zsl w u (2 * ed)).getD k 0)))), (6, .int (nI ((zsl w u (2 * ed)).getD k 0))), (0, .ref tr), (1, .int (nI a)), (2, .int (nI u)), (3, .ref cva), (5, .int (nI ((zc (zlt w u) (2 * ed)) + k)))]) F.1 F.2.1 dX6_layVertex_106 hl (by decide) rfl (fun ls hl => ?_)
          refine lv_iinc (v := (nI ((zc (zlt w u) (2 * ed)) + k + 1))) (lv' := [(5, .int (nI ((zc (zlt w u) (2 * ed)) + k + 1))), (4, .int (nI ((b + 3) + 3))), (7, .int (nI (zx1 ((zsl w u (2 * ed)).getD k 0)))), (6, .int (nI ((zsl w u (2 * ed)).getD k 0))), (0, .ref tr), (1, .int (nI a)), (2, .int (nI u)), (3, .ref cva)]) F.1 F.2.1 dX6_layVertex_108 hl (k := 7) rfl (by rw [show Int32.ofInt 1 = nI 1 from rfl, nI_add]) (by decide) rfl (fun ls hl => ?_)
          refine lv_goto (tgt := 14) F.1 F.2.1 dX6_layVertex_111 (by decide) ?_
          exact ih14 (k + 1) ((b + 3) + 3) frw'_2 (by first | omega | (simp only [] at *; omega)) (by omega) (by rw [zlayK_S, List.length_append, zlay1_len1 hc0]; omega) (by rw [zlayK_S, ← List.append_assoc]; have q9 := hR3; unfold zlay1; rw [if_neg hc0]; simp only [List.append_assoc, List.nil_append] at q9 ⊢; exact q9) _ _ _ (B.sub [5, 6, 0, 1, 2, 3, 4] rfl (rfl)) (lv_sub hl [4, 5, 6, 7, 1, 0] rfl)
        · have hl12 := zlay1_len0 (w := w) (cov := cov) hc0
          refine lv_aload_n F.1 F.2.1 dX6_layVertex_77 rfl (lv_at hl 3 rfl) ?_
          refine lv_iload F.1 F.2.1 dX6_layVertex_78 (lv_at hl 0 rfl) ?_
          refine lv_bipush (v := (nI 6)) F.1 F.2.1 dX6_layVertex_80 (by decide) ?_
          refine lv_iload F.1 F.2.1 dX6_layVertex_82 (lv_at hl 1 rfl) ?_
          refine z_imul F dX6_layVertex_84 ?_
          refine lv_bipush (v := (nI 6)) F.1 F.2.1 dX6_layVertex_85 (by decide) ?_
          refine z_callV (wr := [(go, .inr (4, [.ref fo, .int (nI ve), .int (nI ed), .int (nI se), .int (nI ci), .ref gva, .ref gsi, .ref gsd, .ref gst])), (gva, .inl (cI, cv, .inl fv)), (gsi, .inl (cI, c1, .inl f1)), (gst, .inl (cI, c3, .inl f3s)), (cva, .inl (cI, cca, .inl fcv))]) (rest := []) (As := [.int (nI (b + 3)), .int (nI (6 * (zx1 ((zsl w u (2 * ed)).getD k 0)))), .int (nI 6)]) F B (kX6_layCities l D cI cZ cG cJ tr go tpk trw z1 z2 tsb crw frw'_1 ((L ++ zlayK w cov (2 * ed) u k) ++ zrun (6 * ((zsl w u (2 * ed)).getD k 0)) 3) (b + 3) (6 * (zx1 ((zsl w u (2 * ed)).getD k 0))) 6 (hR1) (by omega) (by omega) (by omega) (by omega)) hl.1 (C := RX6) (T := TX6) (N := 6) (ci := 8) (q0 := 5) gX6_layVertex_X6_layCities rfl 3 yX6_layVertex_X6_layCities rfl rfl rfl [5, 6] [0, 1, 2, 3, 4] rfl rfl rfl rfl (by decide) (Nat.le_of_ble_eq_true rfl) (Nat.le_of_ble_eq_true rfl) (Nat.le_of_ble_eq_true rfl) rfl dX6_layVertex_87 (show 0 + 0 ≤ 0 by omega) (show 0 + 0 ≤ 0 by omega) (fun vv ww H locs hRR B => ?_)
          obtain ⟨frw'_3, rfl, rfl, hR2⟩ := hRR
          have B : zB D (zT cI cZ cG cJ) A s.heap s [(go, .inr (4, [.ref fo, .int (nI ve), .int (nI ed), .int (nI se), .int (nI ci), .ref gva, .ref gsi, .ref gsd, .ref gst])), (gva, .inl (cI, cv, .inl fv)), (gsi, .inl (cI, c1, .inl f1)), (gst, .inl (cI, c3, .inl f3s)), (cva, .inl (cI, cca, .inl fcv)), (tr, .inr (8, [.ref go, .ref tpk, .ref trw, .int z1, .int z2, .ref tsb])), (trw, .inl (cI, crw, .inl frw'_3))] _ _ := B
          refine W.eq (g2 := F0 m 90 ls [.int (nI ((b + 3) + 6))]) rfl ?_
          refine lv_istore (lv' := [(4, .int (nI ((b + 3) + 6))), (7, .int (nI (zx1 ((zsl w u (2 * ed)).getD k 0)))), (6, .int (nI ((zsl w u (2 * ed)).getD k 0))), (0, .ref tr), (1, .int (nI a)), (2, .int (nI u)), (3, .ref cva), (5, .int (nI ((zc (zlt w u) (2 * ed)) + k)))]) F.1 F.2.1 dX6_layVertex_90 hl (by decide) rfl (fun ls hl => ?_)
          refine lv_aload_n F.1 F.2.1 dX6_layVertex_92 rfl (lv_at hl 3 rfl) ?_
          refine lv_iload F.1 F.2.1 dX6_layVertex_93 (lv_at hl 0 rfl) ?_
          refine lv_bipush (v := (nI 6)) F.1 F.2.1 dX6_layVertex_95 (by decide) ?_
          refine lv_iload F.1 F.2.1 dX6_layVertex_97 (lv_at hl 2 rfl) ?_
          refine z_imul F dX6_layVertex_99 ?_
          refine lv_iconst (v := (nI 3)) F.1 F.2.1 dX6_layVertex_100 (by decide) ?_
          refine z_iadd F dX6_layVertex_101 ?_
          refine lv_iconst (v := (nI 3)) F.1 F.2.1 dX6_layVertex_102 (by decide) ?_
          refine z_callV (wr := [(go, .inr (4, [.ref fo, .int (nI ve), .int (nI ed), .int (nI se), .int (nI ci), .ref gva, .ref gsi, .ref gsd, .ref gst])), (gva, .inl (cI, cv, .inl fv)), (gsi, .inl (cI, c1, .inl f1)), (gst, .inl (cI, c3, .inl f3s)), (cva, .inl (cI, cca, .inl fcv))]) (rest := []) (As := [.int (nI ((b + 3) + 6)), .int (nI (6 * ((zsl w u (2 * ed)).getD k 0) + 3)), .int (nI 3)]) F B (kX6_layCities l D cI cZ cG cJ tr go tpk trw z1 z2 tsb crw frw'_3 (((L ++ zlayK w cov (2 * ed) u k) ++ zrun (6 * ((zsl w u (2 * ed)).getD k 0)) 3) ++ zrun (6 * zx1 ((zsl w u (2 * ed)).getD k 0)) 6) ((b + 3) + 6) (6 * ((zsl w u (2 * ed)).getD k 0) + 3) 3 (hR2) (by omega) (by omega) (by omega) (by omega)) hl.1 (C := RX6) (T := TX6) (N := 6) (ci := 8) (q0 := 5) gX6_layVertex_X6_layCities rfl 3 yX6_layVertex_X6_layCities rfl rfl rfl [5, 6] [0, 1, 2, 3, 4] rfl rfl rfl rfl (by decide) (Nat.le_of_ble_eq_true rfl) (Nat.le_of_ble_eq_true rfl) (Nat.le_of_ble_eq_true rfl) rfl dX6_layVertex_103 (show 0 + 0 ≤ 0 by omega) (show 0 + 0 ≤ 0 by omega) (fun vv ww H locs hRR B => ?_)
          obtain ⟨frw'_4, rfl, rfl, hR3⟩ := hRR
          have B : zB D (zT cI cZ cG cJ) A s.heap s [(go, .inr (4, [.ref fo, .int (nI ve), .int (nI ed), .int (nI se), .int (nI ci), .ref gva, .ref gsi, .ref gsd, .ref gst])), (gva, .inl (cI, cv, .inl fv)), (gsi, .inl (cI, c1, .inl f1)), (gst, .inl (cI, c3, .inl f3s)), (cva, .inl (cI, cca, .inl fcv)), (tr, .inr (8, [.ref go, .ref tpk, .ref trw, .int z1, .int z2, .ref tsb])), (trw, .inl (cI, crw, .inl frw'_4))] _ _ := B
          refine W.eq (g2 := F0 m 106 ls [.int (nI (((b + 3) + 6) + 3))]) rfl ?_
          refine lv_istore (lv' := [(4, .int (nI (((b + 3) + 6) + 3))), (7, .int (nI (zx1 ((zsl w u (2 * ed)).getD k 0)))), (6, .int (nI ((zsl w u (2 * ed)).getD k 0))), (0, .ref tr), (1, .int (nI a)), (2, .int (nI u)), (3, .ref cva), (5, .int (nI ((zc (zlt w u) (2 * ed)) + k)))]) F.1 F.2.1 dX6_layVertex_106 hl (by decide) rfl (fun ls hl => ?_)
          refine lv_iinc (v := (nI ((zc (zlt w u) (2 * ed)) + k + 1))) (lv' := [(5, .int (nI ((zc (zlt w u) (2 * ed)) + k + 1))), (4, .int (nI (((b + 3) + 6) + 3))), (7, .int (nI (zx1 ((zsl w u (2 * ed)).getD k 0)))), (6, .int (nI ((zsl w u (2 * ed)).getD k 0))), (0, .ref tr), (1, .int (nI a)), (2, .int (nI u)), (3, .ref cva)]) F.1 F.2.1 dX6_layVertex_108 hl (k := 7) rfl (by rw [show Int32.ofInt 1 = nI 1 from rfl, nI_add]) (by decide) rfl (fun ls hl => ?_)
          refine lv_goto (tgt := 14) F.1 F.2.1 dX6_layVertex_111 (by decide) ?_
          exact ih14 (k + 1) (((b + 3) + 6) + 3) frw'_4 (by first | omega | (simp only [] at *; omega)) (by omega) (by rw [zlayK_S, List.length_append, zlay1_len0 hc0]; omega) (by rw [zlayK_S, ← List.append_assoc]; have q9 := hR3; unfold zlay1; rw [if_pos hc0]; simp only [List.append_assoc, List.nil_append] at q9 ⊢; exact q9) _ _ _ (B.sub [5, 6, 0, 1, 2, 3, 4] rfl (rfl)) (lv_sub hl [4, 5, 6, 7, 1, 0] rfl)
  exact loop14 ((zc (zeq w u) (2 * ed)) - 0 + 1) 0 a frw (Nat.lt_succ_self _) (by omega) (rfl) (by simpa [zlayK] using hR) _ _ _ (B.sub [0, 1, 2, 3, 4, 5, 6] rfl (rfl)) (lv_sub hl [2, 3, 4, 5, 1, 0] rfl)
