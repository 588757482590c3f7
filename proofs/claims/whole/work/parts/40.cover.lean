/-! CONTRACTS of Forward.coverLiterals, coverThrees -/
theorem iX1_coverLiterals_X1 : ∀ w ∈ u_ws RX1 TX1 5, w ∈ wsX1_coverLiterals := by decide +kernel
theorem fX1_coverLiterals_20 : Cond.fieldLink RX1 20 "TourChain$Forward" "formula" "LTourChain$Formula;" ∈ wsX1_coverLiterals := by decide +kernel
theorem iX1_coverLiterals_X0 : ∀ w ∈ u_ws RX0 TX0 9, w ∈ wsX1_coverLiterals := by decide +kernel
theorem fX1_coverLiterals_28 : Cond.fieldLink RX1 28 "TourChain$Formula" "variables" "I" ∈ wsX1_coverLiterals := by decide +kernel
theorem fX1_coverLiterals_13 : Cond.fieldLink RX1 13 "TourChain$Forward" "covered" "[I" ∈ wsX1_coverLiterals := by decide +kernel
theorem yX1_coverLiterals_X1_isTrue : yX1_isTrue.cls = RX1 ∧ yX1_isTrue.cls ≠ "java/lang/invoke/MethodHandle" ∧ yX1_isTrue.cls ≠ "java/lang/invoke/VarHandle" ∧ (parseMethodDescriptor yX1_isTrue.desc).map (fun d => d.parameters.length) = some 1 := by decide +kernel
set_option maxHeartbeats 4000000 in
set_option maxRecDepth 100000 in
theorem kX1_coverLiterals (l : Launch) (D : va_G) (cI cZ cG cJ : ClassId) (fd : Nat) (ru : Nat) (go : Nat) (fta : Nat) (fca : Nat) (fo : Nat) (mo : Nat) (pv : Nat) (va : Nat) (fh : Nat) (fs : Nat) (fk : Nat) (lo : Nat) (so : Nat) (to : Nat) (cta : Nat) (ftr : Nat → Int32) (cca : Nat) (fcv : Nat → Int32) (b : Nat → Nat) (hb : ∀ x, x < va → ftr x = nI (b x) ∧ b x ≤ 1) (hc1 : va ≤ cta) (hc2 : cta ≤ 1000000) (hc3 : cca ≤ 1000000) (h1 : 2 * va ≤ cca) : zC l yX1_coverLiterals wsX1_coverLiterals 1 21 0 0 D (zT cI cZ cG cJ) [.ref fd] [(fd, .inr (3, [.ref ru, .ref fo, .ref go, .ref fta, .ref fca])), (fo, .inr (2, [.ref mo, .int (nI pv), .int (nI va), .int (nI fh), .int (nI fs), .int (nI fk), .ref lo, .ref so, .ref to])), (fta, .inl (cI, cta, .inl ftr)), (fca, .inl (cI, cca, .inl fcv))] (fun (ov : Option Value) (ow : va_W) => ∃ fcv' : Nat → Int32, ov = none ∧ ow = [(fd, .inr (3, [.ref ru, .ref fo, .ref go, .ref fta, .ref fca])), (fo, .inr (2, [.ref mo, .int (nI pv), .int (nI va), .int (nI fh), .int (nI fs), .int (nI fk), .ref lo, .ref so, .ref to])), (fta, .inl (cI, cta, .inl ftr)), (fca, .inl (cI, cca, .inl fcv'))] ∧ (∀ k, k < 2 * va → fcv' k = nI (ztv b k))) := by
  refine zC.of (cc := cX1_coverLiterals) (maxL := 2) (ret := none) (by decide) rfl (Nat.le_of_ble_eq_true rfl) ?_
  intro p e s m below meth c A ls F hr hlk hnm B hl
  have hl : lv_has ls 2 [(0, .ref fd)] := hl
  refine lv_iconst (v := (nI 0)) F.1 F.2.1 dX1_coverLiterals_0 (by decide) ?_
  refine lv_istore_n (lv' := [(1, .int (nI 0)), (0, .ref fd)]) F.1 F.2.1 dX1_coverLiterals_1 rfl hl (by decide) rfl (fun ls hl => ?_)
  have loop2 : ∀ (fuel : Nat) (k : Nat) (f1 : Nat → Int32), 2 * va - k < fuel → (k ≤ 2 * va) → (∀ x, x < k → f1 x = nI (ztv b x)) → ∀ (H : Heap) (locs : List Loc) (ls : Array Slot), zB D (zT cI cZ cG cJ) A s.heap s [(fd, .inr (3, [.ref ru, .ref fo, .ref go, .ref fta, .ref fca])), (fo, .inr (2, [.ref mo, .int (nI pv), .int (nI va), .int (nI fh), .int (nI fs), .int (nI fk), .ref lo, .ref so, .ref to])), (fta, .inl (cI, cta, .inl ftr)), (fca, .inl (cI, cca, .inl f1))] H locs → lv_has ls 2 [(0, .ref fd), (1, .int (nI k))] → W p l e { frames := 1, cells := 0, slots := 0, locals := 21 } s m [.ref fd].toArray below meth c H locs 0 0 (zQ below [.ref fd].toArray s D (zT cI cZ cG cJ) A (fun (ov : Option Value) (ow : va_W) => ∃ fcv' : Nat → Int32, ov = none ∧ ow = [(fd, .inr (3, [.ref ru, .ref fo, .ref go, .ref fta, .ref fca])), (fo, .inr (2, [.ref mo, .int (nI pv), .int (nI va), .int (nI fh), .int (nI fs), .int (nI fk), .ref lo, .ref so, .ref to])), (fta, .inl (cI, cta, .inl ftr)), (fca, .inl (cI, cca, .inl fcv'))] ∧ (∀ k, k < 2 * va → fcv' k = nI (ztv b k))) 0 0) (F0 m 2 ls []) := by
    intro fuel
    induction fuel with
    | zero => intro k f1 hmz; exact absurd hmz (Nat.not_lt_zero _)
    | succ fuel ih =>
      intro k f1 hm hk hf H locs ls B hl
      have ih2 := ih
      refine lv_iload_n F.1 F.2.1 dX1_coverLiterals_2 rfl (lv_at hl 1 rfl) ?_
      refine lv_iconst (v := (nI 2)) F.1 F.2.1 dX1_coverLiterals_3 (by decide) ?_
      refine lv_aload_n F.1 F.2.1 dX1_coverLiterals_4 rfl (lv_at hl 0 rfl) ?_
      refine z_get F B 0 rfl (ci := 3) (C := RX1) (T := TX1) (N := 5) rfl iX1_coverLiterals_X1 1 (by decide) fX1_coverLiterals_20 rfl dX1_coverLiterals_5 ?_
      refine z_get F B 1 rfl (ci := 2) (C := RX0) (T := TX0) (N := 9) rfl iX1_coverLiterals_X0 2 (by decide) fX1_coverLiterals_28 rfl dX1_coverLiterals_8 ?_
      refine z_imul F dX1_coverLiterals_11 ?_
      refine z_icmp_ge (tgt := 40) F (by omega) (by omega) dX1_coverLiterals_12 (by decide) (fun c12 => ?_) (fun c12 => ?_)
      · exact z_vret F hr hlk B [0, 1, 2, 3] rfl (rfl) dX1_coverLiterals_40 (by omega) (by omega) ⟨f1, rfl, rfl, (fun x hx => hf x (by omega))⟩
      · have hbk := hb (k / 2) (by omega)
        refine lv_aload_n F.1 F.2.1 dX1_coverLiterals_15 rfl (lv_at hl 0 rfl) ?_
        refine z_get F B 0 rfl (ci := 3) (C := RX1) (T := TX1) (N := 5) rfl iX1_coverLiterals_X1 4 (by decide) fX1_coverLiterals_13 rfl dX1_coverLiterals_16 ?_
        refine lv_iload_n F.1 F.2.1 dX1_coverLiterals_19 rfl (lv_at hl 1 rfl) ?_
        refine lv_aload_n F.1 F.2.1 dX1_coverLiterals_20 rfl (lv_at hl 0 rfl) ?_
        refine lv_iload_n F.1 F.2.1 dX1_coverLiterals_21 rfl (lv_at hl 1 rfl) ?_
        refine z_callV (wr := [(fo, .inr (2, [.ref mo, .int (nI pv), .int (nI va), .int (nI fh), .int (nI fs), .int (nI fk), .ref lo, .ref so, .ref to])), (fca, .inl (cI, cca, .inl f1))]) (rest := [.int (nI k), .ref fca]) (As := [.int (nI k)]) F B (kX1_isTrue l D cI cZ cG cJ fd ru fo go fta fca cta ftr b k (hbk.1) (hbk.2) (by omega) (by omega)) hl.1 (C := RX1) (T := TX1) (N := 5) (ci := 3) (q0 := 0) gX1_coverLiterals_X1_isTrue rfl 1 yX1_coverLiterals_X1_isTrue rfl rfl rfl [0, 2] [1, 3] rfl rfl rfl rfl (by decide) (Nat.le_of_ble_eq_true rfl) (Nat.le_of_ble_eq_true rfl) (Nat.le_of_ble_eq_true rfl) rfl dX1_coverLiterals_22 (show 0 + 0 ≤ 0 by omega) (show 0 + 0 ≤ 0 by omega) (fun vv ww H locs hRR B => ?_)
        obtain ⟨r_1, rfl, rfl, hb_2⟩ := hRR
        have B : zB D (zT cI cZ cG cJ) A s.heap s [(fo, .inr (2, [.ref mo, .int (nI pv), .int (nI va), .int (nI fh), .int (nI fs), .int (nI fk), .ref lo, .ref so, .ref to])), (fca, .inl (cI, cca, .inl f1)), (fd, .inr (3, [.ref ru, .ref fo, .ref go, .ref fta, .ref fca])), (fta, .inl (cI, cta, .inl ftr))] _ _ := B
        rcases hb_2 with ⟨hr1, hpT⟩ | ⟨hr1, hpT⟩ <;> subst hr1
        · refine W.eq (g2 := F0 m 25 ls [.int 1, .int (nI k), .ref fca]) rfl ?_
          refine lv_if_eq (tgt := 32) F.1 F.2.1 dX1_coverLiterals_25 (by decide) (fun hq => absurd hq (by decide)) (fun _ => ?_)
          refine lv_iconst (v := (nI 1)) F.1 F.2.1 dX1_coverLiterals_28 (by decide) ?_
          refine lv_goto (tgt := 33) F.1 F.2.1 dX1_coverLiterals_29 (by decide) ?_
          refine z_iast F B 1 0 rfl rfl (j := k) (by omega) (by omega) dX1_coverLiterals_33 (fun H locs B => ?_)
          have B : zB D (zT cI cZ cG cJ) A s.heap s [(fo, .inr (2, [.ref mo, .int (nI pv), .int (nI va), .int (nI fh), .int (nI fs), .int (nI fk), .ref lo, .ref so, .ref to])), (fca, .inl (cI, cca, .inl (upd f1 k (nI 1)))), (fd, .inr (3, [.ref ru, .ref fo, .ref go, .ref fta, .ref fca])), (fta, .inl (cI, cta, .inl ftr))] _ _ := B
          refine lv_iinc (v := (nI (k + 1))) (lv' := [(1, .int (nI (k + 1))), (0, .ref fd)]) F.1 F.2.1 dX1_coverLiterals_34 hl (k := 1) rfl (by rw [show Int32.ofInt 1 = nI 1 from rfl, nI_add]) (by decide) rfl (fun ls hl => ?_)
          refine lv_goto (tgt := 2) F.1 F.2.1 dX1_coverLiterals_37 (by decide) ?_
          exact ih2 (k + 1) (upd f1 k (nI 1)) (by first | omega | (simp only [] at *; omega)) (by omega) (zup_add hf (ztv_1 hpT).symm) _ _ _ (B.sub [2, 0, 3, 1] rfl (rfl)) (lv_sub hl [1, 0] rfl)
        · refine W.eq (g2 := F0 m 25 ls [.int 0, .int (nI k), .ref fca]) rfl ?_
          refine lv_if_eq (tgt := 32) F.1 F.2.1 dX1_coverLiterals_25 (by decide) (fun _ => ?_) (fun hq => absurd (by decide) hq)
          refine lv_iconst (v := (nI 0)) F.1 F.2.1 dX1_coverLiterals_32 (by decide) ?_
          refine z_iast F B 1 0 rfl rfl (j := k) (by omega) (by omega) dX1_coverLiterals_33 (fun H locs B => ?_)
          have B : zB D (zT cI cZ cG cJ) A s.heap s [(fo, .inr (2, [.ref mo, .int (nI pv), .int (nI va), .int (nI fh), .int (nI fs), .int (nI fk), .ref lo, .ref so, .ref to])), (fca, .inl (cI, cca, .inl (upd f1 k (nI 0)))), (fd, .inr (3, [.ref ru, .ref fo, .ref go, .ref fta, .ref fca])), (fta, .inl (cI, cta, .inl ftr))] _ _ := B
          refine lv_iinc (v := (nI (k + 1))) (lv' := [(1, .int (nI (k + 1))), (0, .ref fd)]) F.1 F.2.1 dX1_coverLiterals_34 hl (k := 1) rfl (by rw [show Int32.ofInt 1 = nI 1 from rfl, nI_add]) (by decide) rfl (fun ls hl => ?_)
          refine lv_goto (tgt := 2) F.1 F.2.1 dX1_coverLiterals_37 (by decide) ?_
          exact ih2 (k + 1) (upd f1 k (nI 0)) (by first | omega | (simp only [] at *; omega)) (by omega) (zup_add hf (ztv_0 (Classical.not_not.mp hpT)).symm) _ _ _ (B.sub [2, 0, 3, 1] rfl (rfl)) (lv_sub hl [1, 0] rfl)
  exact loop2 (2 * va - 0 + 1) 0 fcv (Nat.lt_succ_self _) (by omega) (fun x hx => absurd hx (Nat.not_lt_zero _)) _ _ _ (B.sub [0, 1, 2, 3] rfl (rfl)) (lv_sub hl [1, 0] rfl)
theorem iX1_coverThrees_X1 : ∀ w ∈ u_ws RX1 TX1 5, w ∈ wsX1_coverThrees := by decide +kernel
theorem fX1_coverThrees_20 : Cond.fieldLink RX1 20 "TourChain$Forward" "formula" "LTourChain$Formula;" ∈ wsX1_coverThrees := by decide +kernel
theorem iX1_coverThrees_X0 : ∀ w ∈ u_ws RX0 TX0 9, w ∈ wsX1_coverThrees := by decide +kernel
theorem fX1_coverThrees_28 : Cond.fieldLink RX1 28 "TourChain$Formula" "variables" "I" ∈ wsX1_coverThrees := by decide +kernel
theorem yX1_coverThrees_X0_threes : yX0_threes.cls = RX0 ∧ yX0_threes.cls ≠ "java/lang/invoke/MethodHandle" ∧ yX0_threes.cls ≠ "java/lang/invoke/VarHandle" ∧ (parseMethodDescriptor yX0_threes.desc).map (fun d => d.parameters.length) = some 0 := by decide +kernel
theorem fX1_coverThrees_13 : Cond.fieldLink RX1 13 "TourChain$Forward" "covered" "[I" ∈ wsX1_coverThrees := by decide +kernel
theorem yX1_coverThrees_X0_literalOfThree : yX0_literalOfThree.cls = RX0 ∧ yX0_literalOfThree.cls ≠ "java/lang/invoke/MethodHandle" ∧ yX0_literalOfThree.cls ≠ "java/lang/invoke/VarHandle" ∧ (parseMethodDescriptor yX0_literalOfThree.desc).map (fun d => d.parameters.length) = some 2 := by decide +kernel
theorem yX1_coverThrees_X1_isTrue : yX1_isTrue.cls = RX1 ∧ yX1_isTrue.cls ≠ "java/lang/invoke/MethodHandle" ∧ yX1_isTrue.cls ≠ "java/lang/invoke/VarHandle" ∧ (parseMethodDescriptor yX1_isTrue.desc).map (fun d => d.parameters.length) = some 1 := by decide +kernel
set_option maxHeartbeats 4000000 in
set_option maxRecDepth 100000 in
theorem kX1_coverThrees (l : Launch) (D : va_G) (cI cZ cG cJ : ClassId) (fd : Nat) (ru : Nat) (go : Nat) (fta : Nat) (fca : Nat) (fo : Nat) (mo : Nat) (pv : Nat) (va : Nat) (fh : Nat) (fs : Nat) (fk : Nat) (lo : Nat) (so : Nat) (to : Nat) (tw : Nat) (ct : Nat) (f3 : Nat → Int32) (L3 : List Nat) (n3 : Nat) (cta : Nat) (ftr : Nat → Int32) (cca : Nat) (fcv : Nat → Int32) (b : Nat → Nat) (hb : ∀ x, x < va → ftr x = nI (b x) ∧ b x ≤ 1) (hc1 : va ≤ cta) (hc2 : cta ≤ 1000000) (hc3 : cca ≤ 1000000) (hR : zR f3 (3 * n3) L3) (hwt : zW (3 * n3) ct) (hL : ∀ i, i < 3 * n3 → L3.getD i 0 < 2 * va) (h1 : 2 * va + 3 * n3 ≤ cca) (hk0 : ∀ k, k < 2 * va → fcv k = nI (zcov b va L3 k)) : zC l yX1_coverThrees wsX1_coverThrees 1 22 0 0 D (zT cI cZ cG cJ) [.ref fd] [(fd, .inr (3, [.ref ru, .ref fo, .ref go, .ref fta, .ref fca])), (fo, .inr (2, [.ref mo, .int (nI pv), .int (nI va), .int (nI fh), .int (nI fs), .int (nI fk), .ref lo, .ref so, .ref to])), (to, .inr (6, [.ref tw, .int (nI (3 * n3))])), (tw, .inl (cI, ct, .inl f3)), (fta, .inl (cI, cta, .inl ftr)), (fca, .inl (cI, cca, .inl fcv))] (fun (ov : Option Value) (ow : va_W) => ∃ fcv' : Nat → Int32, ov = none ∧ ow = [(fd, .inr (3, [.ref ru, .ref fo, .ref go, .ref fta, .ref fca])), (fo, .inr (2, [.ref mo, .int (nI pv), .int (nI va), .int (nI fh), .int (nI fs), .int (nI fk), .ref lo, .ref so, .ref to])), (to, .inr (6, [.ref tw, .int (nI (3 * n3))])), (tw, .inl (cI, ct, .inl f3)), (fta, .inl (cI, cta, .inl ftr)), (fca, .inl (cI, cca, .inl fcv'))] ∧ (∀ k, k < 2 * va + 3 * n3 → fcv' k = nI (zcov b va L3 k))) := by
  refine zC.of (cc := cX1_coverThrees) (maxL := 6) (ret := none) (by decide) rfl (Nat.le_of_ble_eq_true rfl) ?_
  intro p e s m below meth c A ls F hr hlk hnm B hl
  have hl : lv_has ls 6 [(0, .ref fd)] := hl
  have hw3 := hwt.2.1; have hw4 := hwt.2.2
  refine lv_iconst (v := (nI 2)) F.1 F.2.1 dX1_coverThrees_0 (by decide) ?_
  refine lv_aload_n F.1 F.2.1 dX1_coverThrees_1 rfl (lv_at hl 0 rfl) ?_
  refine z_get F B 0 rfl (ci := 3) (C := RX1) (T := TX1) (N := 5) rfl iX1_coverThrees_X1 1 (by decide) fX1_coverThrees_20 rfl dX1_coverThrees_2 ?_
  refine z_get F B 1 rfl (ci := 2) (C := RX0) (T := TX0) (N := 9) rfl iX1_coverThrees_X0 2 (by decide) fX1_coverThrees_28 rfl dX1_coverThrees_5 ?_
  refine z_imul F dX1_coverThrees_8 ?_
  refine lv_istore_n (lv' := [(1, .int (nI (2 * va))), (0, .ref fd)]) F.1 F.2.1 dX1_coverThrees_9 rfl hl (by decide) rfl (fun ls hl => ?_)
  refine lv_iconst (v := (nI 0)) F.1 F.2.1 dX1_coverThrees_10 (by decide) ?_
  refine lv_istore_n (lv' := [(2, .int (nI 0)), (1, .int (nI (2 * va))), (0, .ref fd)]) F.1 F.2.1 dX1_coverThrees_11 rfl hl (by decide) rfl (fun ls hl => ?_)
  have loop12 : ∀ (fuel : Nat) (j : Nat) (f1 : Nat → Int32), n3 - j < fuel → (j ≤ n3) → (∀ x, x < 2 * va + 3 * j → f1 x = nI (zcov b va L3 x)) → ∀ (H : Heap) (locs : List Loc) (ls : Array Slot), zB D (zT cI cZ cG cJ) A s.heap s [(fd, .inr (3, [.ref ru, .ref fo, .ref go, .ref fta, .ref fca])), (fo, .inr (2, [.ref mo, .int (nI pv), .int (nI va), .int (nI fh), .int (nI fs), .int (nI fk), .ref lo, .ref so, .ref to])), (to, .inr (6, [.ref tw, .int (nI (3 * n3))])), (tw, .inl (cI, ct, .inl f3)), (fta, .inl (cI, cta, .inl ftr)), (fca, .inl (cI, cca, .inl f1))] H locs → lv_has ls 6 [(0, .ref fd), (1, .int (nI (2 * va + 3 * j))), (2, .int (nI j))] → W p l e { frames := 1, cells := 0, slots := 0, locals := 22 } s m [.ref fd].toArray below meth c H locs 0 0 (zQ below [.ref fd].toArray s D (zT cI cZ cG cJ) A (fun (ov : Option Value) (ow : va_W) => ∃ fcv' : Nat → Int32, ov = none ∧ ow = [(fd, .inr (3, [.ref ru, .ref fo, .ref go, .ref fta, .ref fca])), (fo, .inr (2, [.ref mo, .int (nI pv), .int (nI va), .int (nI fh), .int (nI fs), .int (nI fk), .ref lo, .ref so, .ref to])), (to, .inr (6, [.ref tw, .int (nI (3 * n3))])), (tw, .inl (cI, ct, .inl f3)), (fta, .inl (cI, cta, .inl ftr)), (fca, .inl (cI, cca, .inl fcv'))] ∧ (∀ k, k < 2 * va + 3 * n3 → fcv' k = nI (zcov b va L3 k))) 0 0) (F0 m 12 ls []) := by
    intro fuel
    induction fuel with
    | zero => intro j f1 hmz; exact absurd hmz (Nat.not_lt_zero _)
    | succ fuel ih =>
      intro j f1 hm hj hf H locs ls B hl
      have ih12 := ih
      refine lv_iload_n F.1 F.2.1 dX1_coverThrees_12 rfl (lv_at hl 2 rfl) ?_
      refine lv_aload_n F.1 F.2.1 dX1_coverThrees_13 rfl (lv_at hl 0 rfl) ?_
      refine z_get F B 0 rfl (ci := 3) (C := RX1) (T := TX1) (N := 5) rfl iX1_coverThrees_X1 1 (by decide) fX1_coverThrees_20 rfl dX1_coverThrees_14 ?_
      refine z_callV (wr := [(fd, .inr (3, [.ref ru, .ref fo, .ref go, .ref fta, .ref fca])), (tw, .inl (cI, ct, .inl f3)), (fta, .inl (cI, cta, .inl ftr)), (fca, .inl (cI, cca, .inl f1))]) (rest := [.int (nI j)]) (As := []) F B (kX0_threes l D cI cZ cG cJ fo mo pv va fh fs fk lo so to tw (3 * n3) (by omega)) hl.1 (C := RX0) (T := TX0) (N := 9) (ci := 2) (q0 := 1) gX1_coverThrees_X0_threes rfl 0 yX1_coverThrees_X0_threes rfl rfl rfl [1, 2] [0, 3, 4, 5] rfl rfl rfl rfl (by decide) (Nat.le_of_ble_eq_true rfl) (Nat.le_of_ble_eq_true rfl) (Nat.le_of_ble_eq_true rfl) rfl dX1_coverThrees_17 (show 0 + 0 ≤ 0 by omega) (show 0 + 0 ≤ 0 by omega) (fun vv ww H locs hRR B => ?_)
      obtain ⟨rfl, rfl⟩ := hRR
      have B : zB D (zT cI cZ cG cJ) A s.heap s [(fd, .inr (3, [.ref ru, .ref fo, .ref go, .ref fta, .ref fca])), (tw, .inl (cI, ct, .inl f3)), (fta, .inl (cI, cta, .inl ftr)), (fca, .inl (cI, cca, .inl f1)), (fo, .inr (2, [.ref mo, .int (nI pv), .int (nI va), .int (nI fh), .int (nI fs), .int (nI fk), .ref lo, .ref so, .ref to])), (to, .inr (6, [.ref tw, .int (nI (3 * n3))]))] _ _ := B
      refine W.eq (g2 := F0 m 20 ls [.int (nI ((3 * n3) / 3)), .int (nI j)]) rfl ?_
      refine W.eq (g2 := F0 m 20 ls [.int (nI n3), .int (nI j)]) (by rw [Nat.mul_div_cancel_left n3 (show 0 < 3 by decide)]) ?_
      refine z_icmp_ge (tgt := 108) F (by omega) (by omega) dX1_coverThrees_20 (by decide) (fun c20 => ?_) (fun c20 => ?_)
      · have hjn : j = n3 := by omega
        rw [hjn] at hf
        exact z_vret F hr hlk B [0, 4, 5, 1, 2, 3] rfl (rfl) dX1_coverThrees_108 (by omega) (by omega) ⟨f1, rfl, rfl, hf⟩
      · refine lv_iconst (v := (nI 0)) F.1 F.2.1 dX1_coverThrees_23 (by decide) ?_
        refine lv_istore_n (lv' := [(3, .int (nI 0)), (0, .ref fd), (1, .int (nI (2 * va + 3 * j))), (2, .int (nI j))]) F.1 F.2.1 dX1_coverThrees_24 rfl hl (by decide) rfl (fun ls hl => ?_)
        refine lv_iconst (v := (nI 0)) F.1 F.2.1 dX1_coverThrees_25 (by decide) ?_
        refine lv_istore (lv' := [(4, .int (nI 0)), (3, .int (nI 0)), (0, .ref fd), (1, .int (nI (2 * va + 3 * j))), (2, .int (nI j))]) F.1 F.2.1 dX1_coverThrees_26 hl (by decide) rfl (fun ls hl => ?_)
        have loop28 : ∀ (fuel : Nat) (i : Nat) (w : Nat) (f2 : Nat → Int32), 3 - i < fuel → (i ≤ 3) → (w ≤ 1) → (w = 0 ↔ znon b L3 j i) → (∀ x, x < 2 * va + 3 * j + i → f2 x = nI (zcov b va L3 x)) → ∀ (H : Heap) (locs : List Loc) (ls : Array Slot), zB D (zT cI cZ cG cJ) A s.heap s [(fd, .inr (3, [.ref ru, .ref fo, .ref go, .ref fta, .ref fca])), (fo, .inr (2, [.ref mo, .int (nI pv), .int (nI va), .int (nI fh), .int (nI fs), .int (nI fk), .ref lo, .ref so, .ref to])), (to, .inr (6, [.ref tw, .int (nI (3 * n3))])), (tw, .inl (cI, ct, .inl f3)), (fta, .inl (cI, cta, .inl ftr)), (fca, .inl (cI, cca, .inl f2))] H locs → lv_has ls 6 [(0, .ref fd), (1, .int (nI (2 * va + 3 * j + i))), (2, .int (nI j)), (3, .int (nI w)), (4, .int (nI i))] → W p l e { frames := 1, cells := 0, slots := 0, locals := 22 } s m [.ref fd].toArray below meth c H locs 0 0 (zQ below [.ref fd].toArray s D (zT cI cZ cG cJ) A (fun (ov : Option Value) (ow : va_W) => ∃ fcv' : Nat → Int32, ov = none ∧ ow = [(fd, .inr (3, [.ref ru, .ref fo, .ref go, .ref fta, .ref fca])), (fo, .inr (2, [.ref mo, .int (nI pv), .int (nI va), .int (nI fh), .int (nI fs), .int (nI fk), .ref lo, .ref so, .ref to])), (to, .inr (6, [.ref tw, .int (nI (3 * n3))])), (tw, .inl (cI, ct, .inl f3)), (fta, .inl (cI, cta, .inl ftr)), (fca, .inl (cI, cca, .inl fcv'))] ∧ (∀ k, k < 2 * va + 3 * n3 → fcv' k = nI (zcov b va L3 k))) 0 0) (F0 m 28 ls []) := by
          intro fuel
          induction fuel with
          | zero => intro i w f2 hmz; exact absurd hmz (Nat.not_lt_zero _)
          | succ fuel ih =>
            intro i w f2 hm hi hw1 hw hg H locs ls B hl
            have ih28 := ih
            refine lv_iload F.1 F.2.1 dX1_coverThrees_28 (lv_at hl 4 rfl) ?_
            refine lv_iconst (v := (nI 3)) F.1 F.2.1 dX1_coverThrees_30 (by decide) ?_
            refine z_icmp_ge (tgt := 102) F (by omega) (by omega) dX1_coverThrees_31 (by decide) (fun c31 => ?_) (fun c31 => ?_)
            · have hi3 : i = 3 := by omega
              subst hi3
              refine lv_iinc (v := (nI (j + 1))) (lv' := [(2, .int (nI (j + 1))), (0, .ref fd), (1, .int (nI (2 * va + 3 * j + 3))), (3, .int (nI w)), (4, .int (nI 3))]) F.1 F.2.1 dX1_coverThrees_102 hl (k := 2) rfl (by rw [show Int32.ofInt 1 = nI 1 from rfl, nI_add]) (by decide) rfl (fun ls hl => ?_)
              refine lv_goto (tgt := 12) F.1 F.2.1 dX1_coverThrees_105 (by decide) ?_
              exact ih12 (j + 1) f2 (by first | omega | (simp only [] at *; omega)) (by omega) (fun x hx => hg x (by omega)) _ _ _ (B.sub [0, 1, 2, 3, 4, 5] rfl (rfl)) (lv_sub hl [1, 2, 0] rfl)
            · have hlt := hL (3 * j + i) (by omega)
              have hbk := hb (L3.getD (3 * j + i) 0 / 2) (by omega)
              refine lv_iload_n F.1 F.2.1 dX1_coverThrees_34 rfl (lv_at hl 3 rfl) ?_
              refine z_if_ne (tgt := 59) F (by omega) dX1_coverThrees_35 (by decide) (fun c35 => ?_) (fun c35 => ?_)
              · refine lv_iconst (v := (nI 0)) F.1 F.2.1 dX1_coverThrees_59 (by decide) ?_
                refine lv_istore (lv' := [(5, .int (nI 0)), (0, .ref fd), (1, .int (nI (2 * va + 3 * j + i))), (2, .int (nI j)), (3, .int (nI w)), (4, .int (nI i))]) F.1 F.2.1 dX1_coverThrees_60 hl (by decide) rfl (fun ls hl => ?_)
                refine lv_aload_n F.1 F.2.1 dX1_coverThrees_62 rfl (lv_at hl 1 rfl) ?_
                refine z_get F B 0 rfl (ci := 3) (C := RX1) (T := TX1) (N := 5) rfl iX1_coverThrees_X1 4 (by decide) fX1_coverThrees_13 rfl dX1_coverThrees_63 ?_
                refine lv_iload_n F.1 F.2.1 dX1_coverThrees_66 rfl (lv_at hl 2 rfl) ?_
                refine lv_iload F.1 F.2.1 dX1_coverThrees_67 (lv_at hl 0 rfl) ?_
                refine lv_if_eq (tgt := 76) F.1 F.2.1 dX1_coverThrees_69 (by decide) (fun _ => ?_) (fun hq => absurd (by decide) hq)
                refine lv_iconst (v := (nI 1)) F.1 F.2.1 dX1_coverThrees_76 (by decide) ?_
                refine z_iast F B 5 0 rfl rfl (j := 2 * va + 3 * j + i) (by omega) (by omega) dX1_coverThrees_77 (fun H locs B => ?_)
                have B : zB D (zT cI cZ cG cJ) A s.heap s [(fd, .inr (3, [.ref ru, .ref fo, .ref go, .ref fta, .ref fca])), (fo, .inr (2, [.ref mo, .int (nI pv), .int (nI va), .int (nI fh), .int (nI fs), .int (nI fk), .ref lo, .ref so, .ref to])), (to, .inr (6, [.ref tw, .int (nI (3 * n3))])), (tw, .inl (cI, ct, .inl f3)), (fta, .inl (cI, cta, .inl ftr)), (fca, .inl (cI, cca, .inl (upd f2 (2 * va + 3 * j + i) (nI 1))))] _ _ := B
                refine lv_iload_n F.1 F.2.1 dX1_coverThrees_78 rfl (lv_at hl 4 rfl) ?_
                refine z_if_ne (tgt := 87) F (by omega) dX1_coverThrees_79 (by decide) (fun c79 => ?_) (fun c79 => ?_)
                · refine lv_iconst (v := (nI 1)) F.1 F.2.1 dX1_coverThrees_87 (by decide) ?_
                  refine lv_goto (tgt := 92) F.1 F.2.1 dX1_coverThrees_88 (by decide) ?_
                  refine lv_istore_n (lv' := [(3, .int (nI 1)), (5, .int (nI 0)), (0, .ref fd), (1, .int (nI (2 * va + 3 * j + i))), (2, .int (nI j)), (4, .int (nI i))]) F.1 F.2.1 dX1_coverThrees_92 rfl hl (by decide) rfl (fun ls hl => ?_)
                  refine lv_iinc (v := (nI (2 * va + 3 * j + i + 1))) (lv' := [(1, .int (nI (2 * va + 3 * j + i + 1))), (3, .int (nI 1)), (5, .int (nI 0)), (0, .ref fd), (2, .int (nI j)), (4, .int (nI i))]) F.1 F.2.1 dX1_coverThrees_93 hl (k := 3) rfl (by rw [show Int32.ofInt 1 = nI 1 from rfl, nI_add]) (by decide) rfl (fun ls hl => ?_)
                  refine lv_iinc (v := (nI (i + 1))) (lv' := [(4, .int (nI (i + 1))), (1, .int (nI (2 * va + 3 * j + i + 1))), (3, .int (nI 1)), (5, .int (nI 0)), (0, .ref fd), (2, .int (nI j))]) F.1 F.2.1 dX1_coverThrees_96 hl (k := 5) rfl (by rw [show Int32.ofInt 1 = nI 1 from rfl, nI_add]) (by decide) rfl (fun ls hl => ?_)
                  refine lv_goto (tgt := 28) F.1 F.2.1 dX1_coverThrees_99 (by decide) ?_
                  exact ih28 (i + 1) 1 (upd f2 (2 * va + 3 * j + i) (nI 1)) (by first | omega | (simp only [] at *; omega)) (by omega) (by first | omega | decide) (by first | (exfalso; omega) | exact ⟨fun q9 => absurd q9 (by decide), fun q9 => absurd (hw.mpr (znon_S.mp q9).1) c35⟩) (by first | (exfalso; omega) | exact zup_add (k := 2 * va + 3 * j + i) hg (by rw [zcov_hi b va L3 j i (by omega), zcov3_1 (fun q9 => c35 (hw.mpr q9.2))])) _ _ _ (B.sub [0, 1, 2, 3, 4, 5] rfl (rfl)) (lv_sub hl [4, 1, 5, 2, 0] rfl)
                · refine lv_iload F.1 F.2.1 dX1_coverThrees_82 (lv_at hl 0 rfl) ?_
                  refine lv_if_eq (tgt := 91) F.1 F.2.1 dX1_coverThrees_84 (by decide) (fun _ => ?_) (fun hq => absurd (by decide) hq)
                  refine lv_iconst (v := (nI 0)) F.1 F.2.1 dX1_coverThrees_91 (by decide) ?_
                  refine lv_istore_n (lv' := [(3, .int (nI 0)), (5, .int (nI 0)), (0, .ref fd), (1, .int (nI (2 * va + 3 * j + i))), (2, .int (nI j)), (4, .int (nI i))]) F.1 F.2.1 dX1_coverThrees_92 rfl hl (by decide) rfl (fun ls hl => ?_)
                  refine lv_iinc (v := (nI (2 * va + 3 * j + i + 1))) (lv' := [(1, .int (nI (2 * va + 3 * j + i + 1))), (3, .int (nI 0)), (5, .int (nI 0)), (0, .ref fd), (2, .int (nI j)), (4, .int (nI i))]) F.1 F.2.1 dX1_coverThrees_93 hl (k := 3) rfl (by rw [show Int32.ofInt 1 = nI 1 from rfl, nI_add]) (by decide) rfl (fun ls hl => ?_)
                  refine lv_iinc (v := (nI (i + 1))) (lv' := [(4, .int (nI (i + 1))), (1, .int (nI (2 * va + 3 * j + i + 1))), (3, .int (nI 0)), (5, .int (nI 0)), (0, .ref fd), (2, .int (nI j))]) F.1 F.2.1 dX1_coverThrees_96 hl (k := 5) rfl (by rw [show Int32.ofInt 1 = nI 1 from rfl, nI_add]) (by decide) rfl (fun ls hl => ?_)
                  refine lv_goto (tgt := 28) F.1 F.2.1 dX1_coverThrees_99 (by decide) ?_
                  exact ih28 (i + 1) 0 (upd f2 (2 * va + 3 * j + i) (nI 1)) (by first | omega | (simp only [] at *; omega)) (by omega) (by first | omega | decide) (by first | (exfalso; omega) | exact ⟨fun _ => znon_S.mpr ⟨hw.mp c35, ztv_0 (Classical.not_not.mp hpT)⟩, fun _ => rfl⟩) (by first | (exfalso; omega) | exact zup_add (k := 2 * va + 3 * j + i) hg (by rw [zcov_hi b va L3 j i (by omega), zcov3_1 (fun q9 => absurd q9.1 (by rw [ztv_0 (Classical.not_not.mp hpT)]; decide))])) _ _ _ (B.sub [0, 1, 2, 3, 4, 5] rfl (rfl)) (lv_sub hl [4, 1, 5, 2, 0] rfl)
              · refine lv_aload_n F.1 F.2.1 dX1_coverThrees_38 rfl (lv_at hl 0 rfl) ?_
                refine lv_aload_n F.1 F.2.1 dX1_coverThrees_39 rfl (lv_at hl 0 rfl) ?_
                refine z_get F B 0 rfl (ci := 3) (C := RX1) (T := TX1) (N := 5) rfl iX1_coverThrees_X1 1 (by decide) fX1_coverThrees_20 rfl dX1_coverThrees_40 ?_
                refine lv_iload_n F.1 F.2.1 dX1_coverThrees_43 rfl (lv_at hl 2 rfl) ?_
                refine lv_iload F.1 F.2.1 dX1_coverThrees_44 (lv_at hl 4 rfl) ?_
                refine z_callV (wr := [(fd, .inr (3, [.ref ru, .ref fo, .ref go, .ref fta, .ref fca])), (fta, .inl (cI, cta, .inl ftr)), (fca, .inl (cI, cca, .inl f2))]) (rest := [.ref fd]) (As := [.int (nI j), .int (nI i)]) F B (kX0_literalOfThree l D cI cZ cG cJ fo mo pv va fh fs fk lo so to tw (3 * n3) ct f3 L3 j i (hR) (hwt) (by omega)) hl.1 (C := RX0) (T := TX0) (N := 9) (ci := 2) (q0 := 1) gX1_coverThrees_X0_literalOfThree rfl 2 yX1_coverThrees_X0_literalOfThree rfl rfl rfl [1, 2, 3] [0, 4, 5] rfl rfl rfl rfl (by decide) (Nat.le_of_ble_eq_true rfl) (Nat.le_of_ble_eq_true rfl) (Nat.le_of_ble_eq_true rfl) rfl dX1_coverThrees_46 (show 0 + 0 ≤ 0 by omega) (show 0 + 0 ≤ 0 by omega) (fun vv ww H locs hRR B => ?_)
                obtain ⟨rfl, rfl⟩ := hRR
                have B : zB D (zT cI cZ cG cJ) A s.heap s [(fd, .inr (3, [.ref ru, .ref fo, .ref go, .ref fta, .ref fca])), (fta, .inl (cI, cta, .inl ftr)), (fca, .inl (cI, cca, .inl f2)), (fo, .inr (2, [.ref mo, .int (nI pv), .int (nI va), .int (nI fh), .int (nI fs), .int (nI fk), .ref lo, .ref so, .ref to])), (to, .inr (6, [.ref tw, .int (nI (3 * n3))])), (tw, .inl (cI, ct, .inl f3))] _ _ := B
                refine W.eq (g2 := F0 m 49 ls [.int (nI (L3.getD (3 * j + i) 0)), .ref fd]) rfl ?_
                refine z_callV (wr := [(fca, .inl (cI, cca, .inl f2)), (fo, .inr (2, [.ref mo, .int (nI pv), .int (nI va), .int (nI fh), .int (nI fs), .int (nI fk), .ref lo, .ref so, .ref to])), (to, .inr (6, [.ref tw, .int (nI (3 * n3))])), (tw, .inl (cI, ct, .inl f3))]) (rest := []) (As := [.int (nI (L3.getD (3 * j + i) 0))]) F B (kX1_isTrue l D cI cZ cG cJ fd ru fo go fta fca cta ftr b (L3.getD (3 * j + i) 0) (hbk.1) (hbk.2) (by omega) (by omega)) hl.1 (C := RX1) (T := TX1) (N := 5) (ci := 3) (q0 := 0) gX1_coverThrees_X1_isTrue rfl 1 yX1_coverThrees_X1_isTrue rfl rfl rfl [0, 1] [2, 3, 4, 5] rfl rfl rfl rfl (by decide) (Nat.le_of_ble_eq_true rfl) (Nat.le_of_ble_eq_true rfl) (Nat.le_of_ble_eq_true rfl) rfl dX1_coverThrees_49 (show 0 + 0 ≤ 0 by omega) (show 0 + 0 ≤ 0 by omega) (fun vv ww H locs hRR B => ?_)
                obtain ⟨r_1, rfl, rfl, hb_2⟩ := hRR
                have B : zB D (zT cI cZ cG cJ) A s.heap s [(fca, .inl (cI, cca, .inl f2)), (fo, .inr (2, [.ref mo, .int (nI pv), .int (nI va), .int (nI fh), .int (nI fs), .int (nI fk), .ref lo, .ref so, .ref to])), (to, .inr (6, [.ref tw, .int (nI (3 * n3))])), (tw, .inl (cI, ct, .inl f3)), (fd, .inr (3, [.ref ru, .ref fo, .ref go, .ref fta, .ref fca])), (fta, .inl (cI, cta, .inl ftr))] _ _ := B
                rcases hb_2 with ⟨hr1, hpT⟩ | ⟨hr1, hpT⟩ <;> subst hr1
                · refine W.eq (g2 := F0 m 52 ls [.int 1]) rfl ?_
                  refine lv_if_eq (tgt := 59) F.1 F.2.1 dX1_coverThrees_52 (by decide) (fun hq => absurd hq (by decide)) (fun _ => ?_)
                  refine lv_iconst (v := (nI 1)) F.1 F.2.1 dX1_coverThrees_55 (by decide) ?_
                  refine lv_goto (tgt := 60) F.1 F.2.1 dX1_coverThrees_56 (by decide) ?_
                  refine lv_istore (lv' := [(5, .int (nI 1)), (0, .ref fd), (1, .int (nI (2 * va + 3 * j + i))), (2, .int (nI j)), (3, .int (nI w)), (4, .int (nI i))]) F.1 F.2.1 dX1_coverThrees_60 hl (by decide) rfl (fun ls hl => ?_)
                  refine lv_aload_n F.1 F.2.1 dX1_coverThrees_62 rfl (lv_at hl 1 rfl) ?_
                  refine z_get F B 4 rfl (ci := 3) (C := RX1) (T := TX1) (N := 5) rfl iX1_coverThrees_X1 4 (by decide) fX1_coverThrees_13 rfl dX1_coverThrees_63 ?_
                  refine lv_iload_n F.1 F.2.1 dX1_coverThrees_66 rfl (lv_at hl 2 rfl) ?_
                  refine lv_iload F.1 F.2.1 dX1_coverThrees_67 (lv_at hl 0 rfl) ?_
                  refine lv_if_eq (tgt := 76) F.1 F.2.1 dX1_coverThrees_69 (by decide) (fun hq => absurd hq (by decide)) (fun _ => ?_)
                  refine lv_iconst (v := (nI 0)) F.1 F.2.1 dX1_coverThrees_72 (by decide) ?_
                  refine lv_goto (tgt := 77) F.1 F.2.1 dX1_coverThrees_73 (by decide) ?_
                  refine z_iast F B 0 0 rfl rfl (j := 2 * va + 3 * j + i) (by omega) (by omega) dX1_coverThrees_77 (fun H locs B => ?_)
                  have B : zB D (zT cI cZ cG cJ) A s.heap s [(fca, .inl (cI, cca, .inl (upd f2 (2 * va + 3 * j + i) (nI 0)))), (fo, .inr (2, [.ref mo, .int (nI pv), .int (nI va), .int (nI fh), .int (nI fs), .int (nI fk), .ref lo, .ref so, .ref to])), (to, .inr (6, [.ref tw, .int (nI (3 * n3))])), (tw, .inl (cI, ct, .inl f3)), (fd, .inr (3, [.ref ru, .ref fo, .ref go, .ref fta, .ref fca])), (fta, .inl (cI, cta, .inl ftr))] _ _ := B
                  refine lv_iload_n F.1 F.2.1 dX1_coverThrees_78 rfl (lv_at hl 4 rfl) ?_
                  refine z_if_ne (tgt := 87) F (by omega) dX1_coverThrees_79 (by decide) (fun c79 => ?_) (fun c79 => ?_)
                  · refine lv_iconst (v := (nI 1)) F.1 F.2.1 dX1_coverThrees_87 (by decide) ?_
                    refine lv_goto (tgt := 92) F.1 F.2.1 dX1_coverThrees_88 (by decide) ?_
                    refine lv_istore_n (lv' := [(3, .int (nI 1)), (5, .int (nI 1)), (0, .ref fd), (1, .int (nI (2 * va + 3 * j + i))), (2, .int (nI j)), (4, .int (nI i))]) F.1 F.2.1 dX1_coverThrees_92 rfl hl (by decide) rfl (fun ls hl => ?_)
                    refine lv_iinc (v := (nI (2 * va + 3 * j + i + 1))) (lv' := [(1, .int (nI (2 * va + 3 * j + i + 1))), (3, .int (nI 1)), (5, .int (nI 1)), (0, .ref fd), (2, .int (nI j)), (4, .int (nI i))]) F.1 F.2.1 dX1_coverThrees_93 hl (k := 3) rfl (by rw [show Int32.ofInt 1 = nI 1 from rfl, nI_add]) (by decide) rfl (fun ls hl => ?_)
                    refine lv_iinc (v := (nI (i + 1))) (lv' := [(4, .int (nI (i + 1))), (1, .int (nI (2 * va + 3 * j + i + 1))), (3, .int (nI 1)), (5, .int (nI 1)), (0, .ref fd), (2, .int (nI j))]) F.1 F.2.1 dX1_coverThrees_96 hl (k := 5) rfl (by rw [show Int32.ofInt 1 = nI 1 from rfl, nI_add]) (by decide) rfl (fun ls hl => ?_)
                    refine lv_goto (tgt := 28) F.1 F.2.1 dX1_coverThrees_99 (by decide) ?_
                    exact ih28 (i + 1) 1 (upd f2 (2 * va + 3 * j + i) (nI 0)) (by first | omega | (simp only [] at *; omega)) (by omega) (by first | omega | decide) (by first | (exfalso; omega) | exact ⟨fun q9 => absurd q9 (by decide), fun q9 => absurd (znon_S.mp q9).2 (by rw [ztv_1 hpT]; decide)⟩) (by first | (exfalso; omega) | exact zup_add (k := 2 * va + 3 * j + i) hg (by rw [zcov_hi b va L3 j i (by omega), zcov3_0 ⟨ztv_1 hpT, hw.mp c35⟩])) _ _ _ (B.sub [4, 1, 2, 3, 5, 0] rfl (rfl)) (lv_sub hl [4, 1, 5, 2, 0] rfl)
                  · refine lv_iload F.1 F.2.1 dX1_coverThrees_82 (lv_at hl 0 rfl) ?_
                    refine lv_if_eq (tgt := 91) F.1 F.2.1 dX1_coverThrees_84 (by decide) (fun hq => absurd hq (by decide)) (fun _ => ?_)
                    refine lv_iconst (v := (nI 1)) F.1 F.2.1 dX1_coverThrees_87 (by decide) ?_
                    refine lv_goto (tgt := 92) F.1 F.2.1 dX1_coverThrees_88 (by decide) ?_
                    refine lv_istore_n (lv' := [(3, .int (nI 1)), (5, .int (nI 1)), (0, .ref fd), (1, .int (nI (2 * va + 3 * j + i))), (2, .int (nI j)), (4, .int (nI i))]) F.1 F.2.1 dX1_coverThrees_92 rfl hl (by decide) rfl (fun ls hl => ?_)
                    refine lv_iinc (v := (nI (2 * va + 3 * j + i + 1))) (lv' := [(1, .int (nI (2 * va + 3 * j + i + 1))), (3, .int (nI 1)), (5, .int (nI 1)), (0, .ref fd), (2, .int (nI j)), (4, .int (nI i))]) F.1 F.2.1 dX1_coverThrees_93 hl (k := 3) rfl (by rw [show Int32.ofInt 1 = nI 1 from rfl, nI_add]) (by decide) rfl (fun ls hl => ?_)
                    refine lv_iinc (v := (nI (i + 1))) (lv' := [(4, .int (nI (i + 1))), (1, .int (nI (2 * va + 3 * j + i + 1))), (3, .int (nI 1)), (5, .int (nI 1)), (0, .ref fd), (2, .int (nI j))]) F.1 F.2.1 dX1_coverThrees_96 hl (k := 5) rfl (by rw [show Int32.ofInt 1 = nI 1 from rfl, nI_add]) (by decide) rfl (fun ls hl => ?_)
                    refine lv_goto (tgt := 28) F.1 F.2.1 dX1_coverThrees_99 (by decide) ?_
                    exact ih28 (i + 1) 1 (upd f2 (2 * va + 3 * j + i) (nI 0)) (by first | omega | (simp only [] at *; omega)) (by omega) (by first | omega | decide) (by first | (exfalso; omega) | exact ⟨fun q9 => absurd q9 (by decide), fun q9 => absurd (znon_S.mp q9).2 (by rw [ztv_1 hpT]; decide)⟩) (by first | (exfalso; omega) | exact zup_add (k := 2 * va + 3 * j + i) hg (by rw [zcov_hi b va L3 j i (by omega), zcov3_0 ⟨ztv_1 hpT, hw.mp c35⟩])) _ _ _ (B.sub [4, 1, 2, 3, 5, 0] rfl (rfl)) (lv_sub hl [4, 1, 5, 2, 0] rfl)
                · refine W.eq (g2 := F0 m 52 ls [.int 0]) rfl ?_
                  refine lv_if_eq (tgt := 59) F.1 F.2.1 dX1_coverThrees_52 (by decide) (fun _ => ?_) (fun hq => absurd (by decide) hq)
                  refine lv_iconst (v := (nI 0)) F.1 F.2.1 dX1_coverThrees_59 (by decide) ?_
                  refine lv_istore (lv' := [(5, .int (nI 0)), (0, .ref fd), (1, .int (nI (2 * va + 3 * j + i))), (2, .int (nI j)), (3, .int (nI w)), (4, .int (nI i))]) F.1 F.2.1 dX1_coverThrees_60 hl (by decide) rfl (fun ls hl => ?_)
                  refine lv_aload_n F.1 F.2.1 dX1_coverThrees_62 rfl (lv_at hl 1 rfl) ?_
                  refine z_get F B 4 rfl (ci := 3) (C := RX1) (T := TX1) (N := 5) rfl iX1_coverThrees_X1 4 (by decide) fX1_coverThrees_13 rfl dX1_coverThrees_63 ?_
                  refine lv_iload_n F.1 F.2.1 dX1_coverThrees_66 rfl (lv_at hl 2 rfl) ?_
                  refine lv_iload F.1 F.2.1 dX1_coverThrees_67 (lv_at hl 0 rfl) ?_
                  refine lv_if_eq (tgt := 76) F.1 F.2.1 dX1_coverThrees_69 (by decide) (fun _ => ?_) (fun hq => absurd (by decide) hq)
                  refine lv_iconst (v := (nI 1)) F.1 F.2.1 dX1_coverThrees_76 (by decide) ?_
                  refine z_iast F B 0 0 rfl rfl (j := 2 * va + 3 * j + i) (by omega) (by omega) dX1_coverThrees_77 (fun H locs B => ?_)
                  have B : zB D (zT cI cZ cG cJ) A s.heap s [(fca, .inl (cI, cca, .inl (upd f2 (2 * va + 3 * j + i) (nI 1)))), (fo, .inr (2, [.ref mo, .int (nI pv), .int (nI va), .int (nI fh), .int (nI fs), .int (nI fk), .ref lo, .ref so, .ref to])), (to, .inr (6, [.ref tw, .int (nI (3 * n3))])), (tw, .inl (cI, ct, .inl f3)), (fd, .inr (3, [.ref ru, .ref fo, .ref go, .ref fta, .ref fca])), (fta, .inl (cI, cta, .inl ftr))] _ _ := B
                  refine lv_iload_n F.1 F.2.1 dX1_coverThrees_78 rfl (lv_at hl 4 rfl) ?_
                  refine z_if_ne (tgt := 87) F (by omega) dX1_coverThrees_79 (by decide) (fun c79 => ?_) (fun c79 => ?_)
                  · refine lv_iconst (v := (nI 1)) F.1 F.2.1 dX1_coverThrees_87 (by decide) ?_
                    refine lv_goto (tgt := 92) F.1 F.2.1 dX1_coverThrees_88 (by decide) ?_
                    refine lv_istore_n (lv' := [(3, .int (nI 1)), (5, .int (nI 0)), (0, .ref fd), (1, .int (nI (2 * va + 3 * j + i))), (2, .int (nI j)), (4, .int (nI i))]) F.1 F.2.1 dX1_coverThrees_92 rfl hl (by decide) rfl (fun ls hl => ?_)
                    refine lv_iinc (v := (nI (2 * va + 3 * j + i + 1))) (lv' := [(1, .int (nI (2 * va + 3 * j + i + 1))), (3, .int (nI 1)), (5, .int (nI 0)), (0, .ref fd), (2, .int (nI j)), (4, .int (nI i))]) F.1 F.2.1 dX1_coverThrees_93 hl (k := 3) rfl (by rw [show Int32.ofInt 1 = nI 1 from rfl, nI_add]) (by decide) rfl (fun ls hl => ?_)
                    refine lv_iinc (v := (nI (i + 1))) (lv' := [(4, .int (nI (i + 1))), (1, .int (nI (2 * va + 3 * j + i + 1))), (3, .int (nI 1)), (5, .int (nI 0)), (0, .ref fd), (2, .int (nI j))]) F.1 F.2.1 dX1_coverThrees_96 hl (k := 5) rfl (by rw [show Int32.ofInt 1 = nI 1 from rfl, nI_add]) (by decide) rfl (fun ls hl => ?_)
                    refine lv_goto (tgt := 28) F.1 F.2.1 dX1_coverThrees_99 (by decide) ?_
                    exact ih28 (i + 1) 1 (upd f2 (2 * va + 3 * j + i) (nI 1)) (by first | omega | (simp only [] at *; omega)) (by omega) (by first | omega | decide) (by first | (exfalso; omega) | exact ⟨fun q9 => absurd q9 (by decide), fun q9 => absurd (hw.mpr (znon_S.mp q9).1) c35⟩) (by first | (exfalso; omega) | exact zup_add (k := 2 * va + 3 * j + i) hg (by rw [zcov_hi b va L3 j i (by omega), zcov3_1 (fun q9 => c35 (hw.mpr q9.2))])) _ _ _ (B.sub [4, 1, 2, 3, 5, 0] rfl (rfl)) (lv_sub hl [4, 1, 5, 2, 0] rfl)
                  · refine lv_iload F.1 F.2.1 dX1_coverThrees_82 (lv_at hl 0 rfl) ?_
                    refine lv_if_eq (tgt := 91) F.1 F.2.1 dX1_coverThrees_84 (by decide) (fun _ => ?_) (fun hq => absurd (by decide) hq)
                    refine lv_iconst (v := (nI 0)) F.1 F.2.1 dX1_coverThrees_91 (by decide) ?_
                    refine lv_istore_n (lv' := [(3, .int (nI 0)), (5, .int (nI 0)), (0, .ref fd), (1, .int (nI (2 * va + 3 * j + i))), (2, .int (nI j)), (4, .int (nI i))]) F.1 F.2.1 dX1_coverThrees_92 rfl hl (by decide) rfl (fun ls hl => ?_)
                    refine lv_iinc (v := (nI (2 * va + 3 * j + i + 1))) (lv' := [(1, .int (nI (2 * va + 3 * j + i + 1))), (3, .int (nI 0)), (5, .int (nI 0)), (0, .ref fd), (2, .int (nI j)), (4, .int (nI i))]) F.1 F.2.1 dX1_coverThrees_93 hl (k := 3) rfl (by rw [show Int32.ofInt 1 = nI 1 from rfl, nI_add]) (by decide) rfl (fun ls hl => ?_)
                    refine lv_iinc (v := (nI (i + 1))) (lv' := [(4, .int (nI (i + 1))), (1, .int (nI (2 * va + 3 * j + i + 1))), (3, .int (nI 0)), (5, .int (nI 0)), (0, .ref fd), (2, .int (nI j))]) F.1 F.2.1 dX1_coverThrees_96 hl (k := 5) rfl (by rw [show Int32.ofInt 1 = nI 1 from rfl, nI_add]) (by decide) rfl (fun ls hl => ?_)
                    refine lv_goto (tgt := 28) F.1 F.2.1 dX1_coverThrees_99 (by decide) ?_
                    exact ih28 (i + 1) 0 (upd f2 (2 * va + 3 * j + i) (nI 1)) (by first | omega | (simp only [] at *; omega)) (by omega) (by first | omega | decide) (by first | (exfalso; omega) | exact ⟨fun _ => znon_S.mpr ⟨hw.mp c35, ztv_0 (Classical.not_not.mp hpT)⟩, fun _ => rfl⟩) (by first | (exfalso; omega) | exact zup_add (k := 2 * va + 3 * j + i) hg (by rw [zcov_hi b va L3 j i (by omega), zcov3_1 (fun q9 => absurd q9.1 (by rw [ztv_0 (Classical.not_not.mp hpT)]; decide))])) _ _ _ (B.sub [4, 1, 2, 3, 5, 0] rfl (rfl)) (lv_sub hl [4, 1, 5, 2, 0] rfl)
        exact loop28 (3 - 0 + 1) 0 0 f1 (Nat.lt_succ_self _) (by omega) (by omega) (⟨fun _ x hx => absurd hx (Nat.not_lt_zero _), fun _ => rfl⟩) (fun x hx => hf x (by omega)) _ _ _ (B.sub [0, 4, 5, 1, 2, 3] rfl (rfl)) (lv_sub hl [2, 3, 4, 1, 0] rfl)
  exact loop12 (n3 - 0 + 1) 0 fcv (Nat.lt_succ_self _) (by omega) (hk0) _ _ _ (B.sub [0, 1, 2, 3, 4, 5] rfl (rfl)) (lv_sub hl [2, 1, 0] rfl)
