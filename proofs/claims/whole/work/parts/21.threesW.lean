/-! CONTRACT of Formula.writeThrees -/
theorem zth1_s {v : Nat} {cl : List Nat} (h : cl.length ≤ 3) : zth1 v cl = [cl.getD 0 0, cl.getD (Nat.min 1 (cl.length - 1)) 0, cl.getD (cl.length - 1) 0] := if_pos h
theorem zth1_l {v : Nat} {cl : List Nat} (h : ¬ cl.length ≤ 3) : zth1 v cl = zsp v cl := if_neg h
theorem iX0_writeThrees_X0 : ∀ w ∈ u_ws RX0 TX0 9, w ∈ wsX0_writeThrees := by decide +kernel
theorem fX0_writeThrees_83 : Cond.fieldLink RX0 83 "TourChain$Formula" "plainVariables" "I" ∈ wsX0_writeThrees := by decide +kernel
theorem fX0_writeThrees_158 : Cond.fieldLink RX0 158 "TourChain$Formula" "variables" "I" ∈ wsX0_writeThrees := by decide +kernel
theorem fX0_writeThrees_19 : Cond.fieldLink RX0 19 "TourChain$Formula" "threeLiterals" "LTourChain$Row;" ∈ wsX0_writeThrees := by decide +kernel
theorem iX0_writeThrees_X4 : ∀ w ∈ u_ws RX4 TX4 2, w ∈ wsX0_writeThrees := by decide +kernel
theorem fX0_writeThrees_26 : Cond.fieldLink RX0 26 "TourChain$Row" "size" "I" ∈ wsX0_writeThrees := by decide +kernel
theorem yX0_writeThrees_X0_clauses : yX0_clauses.cls = RX0 ∧ yX0_clauses.cls ≠ "java/lang/invoke/MethodHandle" ∧ yX0_clauses.cls ≠ "java/lang/invoke/VarHandle" ∧ (parseMethodDescriptor yX0_clauses.desc).map (fun d => d.parameters.length) = some 0 := by decide +kernel
theorem yX0_writeThrees_X0_length : yX0_length.cls = RX0 ∧ yX0_length.cls ≠ "java/lang/invoke/MethodHandle" ∧ yX0_length.cls ≠ "java/lang/invoke/VarHandle" ∧ (parseMethodDescriptor yX0_length.desc).map (fun d => d.parameters.length) = some 1 := by decide +kernel
theorem yX0_writeThrees_X0_literalOf : yX0_literalOf.cls = RX0 ∧ yX0_literalOf.cls ≠ "java/lang/invoke/MethodHandle" ∧ yX0_literalOf.cls ≠ "java/lang/invoke/VarHandle" ∧ (parseMethodDescriptor yX0_literalOf.desc).map (fun d => d.parameters.length) = some 2 := by decide +kernel
theorem mX0_writeThrees_min1 : Cond.methodLink RX0 173 Lib.Math.min.name ∈ wsX0_writeThrees := by decide +kernel
theorem mX0_writeThrees_min2 : Cond.static Lib.Math.min.name ∈ wsX0_writeThrees := by decide +kernel
theorem mX0_writeThrees_min3 : Cond.initialized "java/lang/Math" ∈ wsX0_writeThrees := by decide +kernel
theorem mX0_writeThrees_min4 : Cond.code Lib.Math.min.name Lib.Math.min.code 2 (some .int) ∈ wsX0_writeThrees := by decide +kernel
theorem yX0_writeThrees_X0_addThree : yX0_addThree.cls = RX0 ∧ yX0_addThree.cls ≠ "java/lang/invoke/MethodHandle" ∧ yX0_addThree.cls ≠ "java/lang/invoke/VarHandle" ∧ (parseMethodDescriptor yX0_addThree.desc).map (fun d => d.parameters.length) = some 3 := by decide +kernel
theorem yX0_writeThrees_X0_splitClause : yX0_splitClause.cls = RX0 ∧ yX0_splitClause.cls ≠ "java/lang/invoke/MethodHandle" ∧ yX0_splitClause.cls ≠ "java/lang/invoke/VarHandle" ∧ (parseMethodDescriptor yX0_splitClause.desc).map (fun d => d.parameters.length) = some 2 := by decide +kernel
set_option maxHeartbeats 4000000 in
set_option maxRecDepth 100000 in
theorem kX0_writeThrees (l : Launch) (D : va_G) (cI cZ cG cJ : ClassId) (fo : Nat) (mo : Nat) (pv : Nat) (va : Nat) (fh : Nat) (fs : Nat) (fk : Nat) (lo : Nat) (so : Nat) (to : Nat) (la : Nat) (nl : Nat) (cl : Nat) (fl : Nat → Int32) (sa : Nat) (ns : Nat) (cs : Nat) (ft : Nat → Int32) (Cs : List (List Nat)) (tw : Nat) (nt : Nat) (ct : Nat) (f3 : Nat → Int32) (hF : zF fl nl ft ns Cs) (hwl : zW nl cl) (hws : zW ns cs) (hwt : zW nt ct) (hne : ∀ j, j < Cs.length → 1 ≤ zlen Cs j) (hmx : ∀ j, j < Cs.length → zlen Cs j ≤ 1000) (hb : (zthL pv Cs).length ≤ 8192) : zC l yX0_writeThrees wsX0_writeThrees 5 129 (zcap ((zthL pv Cs).length) ct - ct) (2 * ((zcap ((zthL pv Cs).length) ct - ct))) D (zT cI cZ cG cJ) [.ref fo] [(fo, .inr (2, [.ref mo, .int (nI pv), .int (nI va), .int (nI fh), .int (nI fs), .int (nI fk), .ref lo, .ref so, .ref to])), (lo, .inr (6, [.ref la, .int (nI nl)])), (la, .inl (cI, cl, .inl fl)), (so, .inr (6, [.ref sa, .int (nI ns)])), (sa, .inl (cI, cs, .inl ft)), (to, .inr (6, [.ref tw, .int (nI nt)])), (tw, .inl (cI, ct, .inl f3))] (fun (v : Option Value) (w : va_W) => ∃ tw' : Nat, ∃ ct' : Nat, ∃ f3' : Nat → Int32, v = none ∧ w = [(fo, .inr (2, [.ref mo, .int (nI pv), .int (nI (zthV pv Cs)), .int (nI fh), .int (nI fs), .int (nI fk), .ref lo, .ref so, .ref to])), (lo, .inr (6, [.ref la, .int (nI nl)])), (la, .inl (cI, cl, .inl fl)), (so, .inr (6, [.ref sa, .int (nI ns)])), (sa, .inl (cI, cs, .inl ft)), (to, .inr (6, [.ref tw', .int (nI ((zthL pv Cs).length))])), (tw', .inl (cI, ct', .inl f3'))] ∧ zX 0 ct (zthL pv Cs).length ct' ∧ zR f3' (zthL pv Cs).length (zthL pv Cs)) := by
  refine zC.of (cc := cX0_writeThrees) (maxL := 3) (ret := none) (by decide) rfl (Nat.le_of_ble_eq_true rfl) ?_
  intro p e s m below meth c A ls F hr hlk hnm B hl
  have hl : lv_has ls 3 [(0, .ref fo)] := hl
  obtain ⟨hlen1, hlen2⟩ := zF_len hF
  have hq5 := hws.2.1; have hq6 := hws.2.2
  refine lv_aload_n F.1 F.2.1 dX0_writeThrees_0 rfl (lv_at hl 0 rfl) ?_
  refine lv_aload_n F.1 F.2.1 dX0_writeThrees_1 rfl (lv_at hl 0 rfl) ?_
  refine z_get F B 0 rfl (ci := 2) (C := RX0) (T := TX0) (N := 9) rfl iX0_writeThrees_X0 1 (by decide) fX0_writeThrees_83 rfl dX0_writeThrees_2 ?_
  refine z_put F B 0 rfl (ci := 2) (C := RX0) (T := TX0) (N := 9) rfl iX0_writeThrees_X0 tyX0 tyX0_ok nmX0 2 (by decide) fX0_writeThrees_158 rfl (v := .int (nI pv)) rfl rfl (Nat.le_of_ble_eq_true rfl) dX0_writeThrees_5 (fun H locs B => ?_)
  have B : zB D (zT cI cZ cG cJ) A s.heap s [(fo, .inr (2, [.ref mo, .int (nI pv), .int (nI pv), .int (nI fh), .int (nI fs), .int (nI fk), .ref lo, .ref so, .ref to])), (lo, .inr (6, [.ref la, .int (nI nl)])), (la, .inl (cI, cl, .inl fl)), (so, .inr (6, [.ref sa, .int (nI ns)])), (sa, .inl (cI, cs, .inl ft)), (to, .inr (6, [.ref tw, .int (nI nt)])), (tw, .inl (cI, ct, .inl f3))] _ _ := B
  refine lv_aload_n F.1 F.2.1 dX0_writeThrees_8 rfl (lv_at hl 0 rfl) ?_
  refine z_get F B 0 rfl (ci := 2) (C := RX0) (T := TX0) (N := 9) rfl iX0_writeThrees_X0 8 (by decide) fX0_writeThrees_19 rfl dX0_writeThrees_9 ?_
  refine lv_iconst (v := (nI 0)) F.1 F.2.1 dX0_writeThrees_12 (by decide) ?_
  refine z_put F B 5 rfl (ci := 6) (C := RX4) (T := TX4) (N := 2) rfl iX0_writeThrees_X4 tyX4 tyX4_ok nmX4 1 (by decide) fX0_writeThrees_26 rfl (v := .int (nI 0)) rfl rfl (Nat.le_of_ble_eq_true rfl) dX0_writeThrees_13 (fun H locs B => ?_)
  have B : zB D (zT cI cZ cG cJ) A s.heap s [(fo, .inr (2, [.ref mo, .int (nI pv), .int (nI pv), .int (nI fh), .int (nI fs), .int (nI fk), .ref lo, .ref so, .ref to])), (lo, .inr (6, [.ref la, .int (nI nl)])), (la, .inl (cI, cl, .inl fl)), (so, .inr (6, [.ref sa, .int (nI ns)])), (sa, .inl (cI, cs, .inl ft)), (to, .inr (6, [.ref tw, .int (nI 0)])), (tw, .inl (cI, ct, .inl f3))] _ _ := B
  refine lv_iconst (v := (nI 0)) F.1 F.2.1 dX0_writeThrees_16 (by decide) ?_
  refine lv_istore_n (lv' := [(1, .int (nI 0)), (0, .ref fo)]) F.1 F.2.1 dX0_writeThrees_17 rfl hl (by decide) rfl (fun ls hl => ?_)
  have loop18 : ∀ (fuel : Nat) (j : Nat) (tw1 : Nat) (nt1 : Nat) (ct1 : Nat) (f31 : Nat → Int32), Cs.length - j < fuel → j ≤ Cs.length → zR f31 nt1 (zthL pv (Cs.take j)) → zX 0 ct nt1 ct1 → ∀ (H : Heap) (locs : List Loc) (ls : Array Slot), zB D (zT cI cZ cG cJ) A s.heap s [(fo, .inr (2, [.ref mo, .int (nI pv), .int (nI (zthV pv (Cs.take j))), .int (nI fh), .int (nI fs), .int (nI fk), .ref lo, .ref so, .ref to])), (lo, .inr (6, [.ref la, .int (nI nl)])), (la, .inl (cI, cl, .inl fl)), (so, .inr (6, [.ref sa, .int (nI ns)])), (sa, .inl (cI, cs, .inl ft)), (to, .inr (6, [.ref tw1, .int (nI nt1)])), (tw1, .inl (cI, ct1, .inl f31))] H locs → lv_has ls 3 [(0, .ref fo), (1, .int (nI j))] → W p l e { frames := 5, cells := (zcap ((zthL pv Cs).length) ct - ct), slots := 2 * ((zcap ((zthL pv Cs).length) ct - ct)), locals := 129 } s m [.ref fo].toArray below meth c H locs (ct1 - ct) (2 * ((ct1 - ct))) (zQ below [.ref fo].toArray s D (zT cI cZ cG cJ) A (fun (v : Option Value) (w : va_W) => ∃ tw' : Nat, ∃ ct' : Nat, ∃ f3' : Nat → Int32, v = none ∧ w = [(fo, .inr (2, [.ref mo, .int (nI pv), .int (nI (zthV pv Cs)), .int (nI fh), .int (nI fs), .int (nI fk), .ref lo, .ref so, .ref to])), (lo, .inr (6, [.ref la, .int (nI nl)])), (la, .inl (cI, cl, .inl fl)), (so, .inr (6, [.ref sa, .int (nI ns)])), (sa, .inl (cI, cs, .inl ft)), (to, .inr (6, [.ref tw', .int (nI ((zthL pv Cs).length))])), (tw', .inl (cI, ct', .inl f3'))] ∧ zX 0 ct (zthL pv Cs).length ct' ∧ zR f3' (zthL pv Cs).length (zthL pv Cs)) (zcap ((zthL pv Cs).length) ct - ct) (2 * ((zcap ((zthL pv Cs).length) ct - ct)))) (F0 m 18 ls []) := by
    intro fuel
    induction fuel with
    | zero => intro j tw1 nt1 ct1 f31 hmz; exact absurd hmz (Nat.not_lt_zero _)
    | succ fuel ih =>
      intro j tw1 nt1 ct1 f31 hm hj hR1 hxt1 H locs ls B hl
      have ih18 := ih
      have hxt11 := (hxt1).2.1; have hxt12 := (hxt1).1; have hxt13 := (hxt1).2.2.1.2.1
      have hft := zthL_fit0 Cs j pv
      have hl1 := hR1.1
      refine lv_iload_n F.1 F.2.1 dX0_writeThrees_18 rfl (lv_at hl 1 rfl) ?_
      refine lv_aload_n F.1 F.2.1 dX0_writeThrees_19 rfl (lv_at hl 0 rfl) ?_
      have qr_1 := zX_rm hxt1 (n' := nt1) (N := (zthL pv Cs).length) (by omega) (by omega)
      refine z_callV (wr := [(lo, .inr (6, [.ref la, .int (nI nl)])), (la, .inl (cI, cl, .inl fl)), (sa, .inl (cI, cs, .inl ft)), (to, .inr (6, [.ref tw1, .int (nI nt1)])), (tw1, .inl (cI, ct1, .inl f31))]) (rest := [.int (nI j)]) (As := []) F B (kX0_clauses l D cI cZ cG cJ fo mo pv (zthV pv (Cs.take j)) fh fs fk lo so to sa ns (by omega)) hl.1 (C := RX0) (T := TX0) (N := 9) (ci := 2) (q0 := 0) gX0_writeThrees_X0_clauses rfl 0 yX0_writeThrees_X0_clauses rfl rfl rfl [0, 3] [1, 2, 4, 5, 6] rfl rfl rfl rfl (by decide) (Nat.le_of_ble_eq_true rfl) (Nat.le_of_ble_eq_true rfl) (Nat.le_of_ble_eq_true rfl) rfl dX0_writeThrees_20 (show (ct1 - ct) + 0 ≤ (zcap ((zthL pv Cs).length) ct - ct) by omega) (show 2 * ((ct1 - ct)) + 0 ≤ 2 * ((zcap ((zthL pv Cs).length) ct - ct)) by omega) (fun vv ww H locs hRR B => ?_)
      obtain ⟨rfl, rfl⟩ := hRR
      clear qr_1
      have B : zB D (zT cI cZ cG cJ) A s.heap s [(lo, .inr (6, [.ref la, .int (nI nl)])), (la, .inl (cI, cl, .inl fl)), (sa, .inl (cI, cs, .inl ft)), (to, .inr (6, [.ref tw1, .int (nI nt1)])), (tw1, .inl (cI, ct1, .inl f31)), (fo, .inr (2, [.ref mo, .int (nI pv), .int (nI (zthV pv (Cs.take j))), .int (nI fh), .int (nI fs), .int (nI fk), .ref lo, .ref so, .ref to])), (so, .inr (6, [.ref sa, .int (nI ns)]))] _ _ := B
      refine W.eq (g2 := F0 m 23 ls [.int (nI (ns - 1)), .int (nI j)]) rfl ?_
      refine z_icmp_ge (tgt := 82) F (by omega) (by omega) dX0_writeThrees_23 (by decide) (fun c23 => ?_) (fun c23 => ?_)
      · have hjn : j = Cs.length := by omega
        rw [hjn, List.take_length] at hR1
        rw [hjn, List.take_length] at B
        have hlT : (zthL pv Cs).length = nt1 := hR1.1
        have qe_2 := zX_rm hxt1 (n' := nt1) (N := (zthL pv Cs).length) (Nat.le_refl _) (by omega)
        exact z_vret F hr hlk B [5, 0, 1, 6, 2, 3, 4] rfl (by rw [hlT]; rfl) dX0_writeThrees_82 (by omega) (by omega) ⟨tw1, ct1, f31, rfl, rfl, (by rw [hlT]; exact hxt1), (by rw [hlT]; exact hR1)⟩
      · have hjl : j < Cs.length := by omega
        have hn1 := hne j hjl
        have hn2 := hmx j hjl
        refine lv_aload_n F.1 F.2.1 dX0_writeThrees_26 rfl (lv_at hl 0 rfl) ?_
        refine lv_iload_n F.1 F.2.1 dX0_writeThrees_27 rfl (lv_at hl 1 rfl) ?_
        have qr_3 := zX_rm hxt1 (n' := nt1) (N := (zthL pv Cs).length) (by omega) (by omega)
        refine z_callV (wr := [(lo, .inr (6, [.ref la, .int (nI nl)])), (la, .inl (cI, cl, .inl fl)), (to, .inr (6, [.ref tw1, .int (nI nt1)])), (tw1, .inl (cI, ct1, .inl f31))]) (rest := []) (As := [.int (nI j)]) F B (kX0_length l D cI cZ cG cJ fo mo pv (zthV pv (Cs.take j)) fh fs fk lo so to sa ns cs ft fl nl Cs j (hF) (hws) (hjl)) hl.1 (C := RX0) (T := TX0) (N := 9) (ci := 2) (q0 := 5) gX0_writeThrees_X0_length rfl 1 yX0_writeThrees_X0_length rfl rfl rfl [5, 6, 2] [0, 1, 3, 4] rfl rfl rfl rfl (by decide) (Nat.le_of_ble_eq_true rfl) (Nat.le_of_ble_eq_true rfl) (Nat.le_of_ble_eq_true rfl) rfl dX0_writeThrees_28 (show (ct1 - ct) + 0 + 0 ≤ (zcap ((zthL pv Cs).length) ct - ct) by omega) (show 2 * ((ct1 - ct)) + 0 + 0 ≤ 2 * ((zcap ((zthL pv Cs).length) ct - ct)) by omega) (fun vv ww H locs hRR B => ?_)
        obtain ⟨rfl, rfl⟩ := hRR
        clear qr_3
        have B : zB D (zT cI cZ cG cJ) A s.heap s [(lo, .inr (6, [.ref la, .int (nI nl)])), (la, .inl (cI, cl, .inl fl)), (to, .inr (6, [.ref tw1, .int (nI nt1)])), (tw1, .inl (cI, ct1, .inl f31)), (fo, .inr (2, [.ref mo, .int (nI pv), .int (nI (zthV pv (Cs.take j))), .int (nI fh), .int (nI fs), .int (nI fk), .ref lo, .ref so, .ref to])), (so, .inr (6, [.ref sa, .int (nI ns)])), (sa, .inl (cI, cs, .inl ft))] _ _ := B
        refine W.eq (g2 := F0 m 31 ls [.int (nI (zlen Cs j))]) rfl ?_
        refine lv_istore_n (lv' := [(2, .int (nI (zlen Cs j))), (0, .ref fo), (1, .int (nI j))]) F.1 F.2.1 dX0_writeThrees_31 rfl hl (by decide) rfl (fun ls hl => ?_)
        refine lv_iload_n F.1 F.2.1 dX0_writeThrees_32 rfl (lv_at hl 0 rfl) ?_
        refine lv_iconst (v := (nI 3)) F.1 F.2.1 dX0_writeThrees_33 (by decide) ?_
        refine z_icmp_le (tgt := 46) F (by omega) (by omega) dX0_writeThrees_34 (by decide) (fun c34 => ?_) (fun c34 => ?_)
        · have hfit := zthL_fit hjl pv
          rw [zth1_s (show (Cs.getD j []).length ≤ 3 from c34)] at hfit
          have hfit2 : (zthL pv (Cs.take j)).length + 3 ≤ (zthL pv Cs).length := hfit
          clear hfit
          refine lv_aload_n F.1 F.2.1 dX0_writeThrees_46 rfl (lv_at hl 1 rfl) ?_
          refine lv_aload_n F.1 F.2.1 dX0_writeThrees_47 rfl (lv_at hl 1 rfl) ?_
          refine lv_iload_n F.1 F.2.1 dX0_writeThrees_48 rfl (lv_at hl 2 rfl) ?_
          refine lv_iconst (v := (nI 0)) F.1 F.2.1 dX0_writeThrees_49 (by decide) ?_
          have qr_4 := zX_rm hxt1 (n' := nt1) (N := (zthL pv Cs).length) (by omega) (by omega)
          refine z_callV (wr := [(to, .inr (6, [.ref tw1, .int (nI nt1)])), (tw1, .inl (cI, ct1, .inl f31))]) (rest := [.ref fo]) (As := [.int (nI j), .int (nI 0)]) F B (kX0_literalOf l D cI cZ cG cJ fo mo pv (zthV pv (Cs.take j)) fh fs fk lo so to la nl cl fl sa ns cs ft Cs j 0 (hF) (hwl) (hws) (hjl) (by omega)) hl.1 (C := RX0) (T := TX0) (N := 9) (ci := 2) (q0 := 4) gX0_writeThrees_X0_literalOf rfl 2 yX0_writeThrees_X0_literalOf rfl rfl rfl [4, 0, 1, 5, 6] [2, 3] rfl rfl rfl rfl (by decide) (Nat.le_of_ble_eq_true rfl) (Nat.le_of_ble_eq_true rfl) (Nat.le_of_ble_eq_true rfl) rfl dX0_writeThrees_50 (show (ct1 - ct) + 0 + 0 + 0 ≤ (zcap ((zthL pv Cs).length) ct - ct) by omega) (show 2 * ((ct1 - ct)) + 0 + 0 + 0 ≤ 2 * ((zcap ((zthL pv Cs).length) ct - ct)) by omega) (fun vv ww H locs hRR B => ?_)
          obtain ⟨rfl, rfl⟩ := hRR
          clear qr_4
          have B : zB D (zT cI cZ cG cJ) A s.heap s [(to, .inr (6, [.ref tw1, .int (nI nt1)])), (tw1, .inl (cI, ct1, .inl f31)), (fo, .inr (2, [.ref mo, .int (nI pv), .int (nI (zthV pv (Cs.take j))), .int (nI fh), .int (nI fs), .int (nI fk), .ref lo, .ref so, .ref to])), (lo, .inr (6, [.ref la, .int (nI nl)])), (la, .inl (cI, cl, .inl fl)), (so, .inr (6, [.ref sa, .int (nI ns)])), (sa, .inl (cI, cs, .inl ft))] _ _ := B
          refine W.eq (g2 := F0 m 53 ls [.int (nI (zlit Cs j 0)), .ref fo]) rfl ?_
          refine lv_aload_n F.1 F.2.1 dX0_writeThrees_53 rfl (lv_at hl 1 rfl) ?_
          refine lv_iload_n F.1 F.2.1 dX0_writeThrees_54 rfl (lv_at hl 2 rfl) ?_
          refine lv_iconst (v := (nI 1)) F.1 F.2.1 dX0_writeThrees_55 (by decide) ?_
          refine lv_iload_n F.1 F.2.1 dX0_writeThrees_56 rfl (lv_at hl 0 rfl) ?_
          refine lv_iconst (v := (nI 1)) F.1 F.2.1 dX0_writeThrees_57 (by decide) ?_
          refine z_isub F (by omega) dX0_writeThrees_58 ?_
          have qm_5 := zX_rm hxt1 (n' := nt1) (N := (zthL pv Cs).length) (by omega) (by omega)
          refine z_min F hl.1 mX0_writeThrees_min1 mX0_writeThrees_min2 mX0_writeThrees_min3 mX0_writeThrees_min4 (Nat.le_of_ble_eq_true rfl) (Nat.le_of_ble_eq_true rfl) (show (ct1 - ct) + 0 + 0 + 0 ≤ (zcap ((zthL pv Cs).length) ct - ct) by omega) (show 2 * ((ct1 - ct)) + 0 + 0 + 0 ≤ 2 * ((zcap ((zthL pv Cs).length) ct - ct)) by omega) (by omega) (by omega) dX0_writeThrees_59 ?_
          refine W.eq (g2 := F0 m 62 ls [.int (nI (Nat.min 1 ((zlen Cs j) - 1))), .int (nI j), .ref fo, .int (nI (zlit Cs j 0)), .ref fo]) rfl ?_
          have qr_6 := zX_rm hxt1 (n' := nt1) (N := (zthL pv Cs).length) (by omega) (by omega)
          refine z_callV (wr := [(to, .inr (6, [.ref tw1, .int (nI nt1)])), (tw1, .inl (cI, ct1, .inl f31))]) (rest := [.int (nI (zlit Cs j 0)), .ref fo]) (As := [.int (nI j), .int (nI (Nat.min 1 ((zlen Cs j) - 1)))]) F B (kX0_literalOf l D cI cZ cG cJ fo mo pv (zthV pv (Cs.take j)) fh fs fk lo so to la nl cl fl sa ns cs ft Cs j (Nat.min 1 ((zlen Cs j) - 1)) (hF) (hwl) (hws) (hjl) (Nat.lt_of_le_of_lt (Nat.min_le_right _ _) (by omega))) hl.1 (C := RX0) (T := TX0) (N := 9) (ci := 2) (q0 := 2) gX0_writeThrees_X0_literalOf rfl 2 yX0_writeThrees_X0_literalOf rfl rfl rfl [2, 3, 4, 5, 6] [0, 1] rfl rfl rfl rfl (by decide) (Nat.le_of_ble_eq_true rfl) (Nat.le_of_ble_eq_true rfl) (Nat.le_of_ble_eq_true rfl) rfl dX0_writeThrees_62 (show (ct1 - ct) + 0 + 0 + 0 + 0 ≤ (zcap ((zthL pv Cs).length) ct - ct) by omega) (show 2 * ((ct1 - ct)) + 0 + 0 + 0 + 0 ≤ 2 * ((zcap ((zthL pv Cs).length) ct - ct)) by omega) (fun vv ww H locs hRR B => ?_)
          obtain ⟨rfl, rfl⟩ := hRR
          clear qr_6
          have B : zB D (zT cI cZ cG cJ) A s.heap s [(to, .inr (6, [.ref tw1, .int (nI nt1)])), (tw1, .inl (cI, ct1, .inl f31)), (fo, .inr (2, [.ref mo, .int (nI pv), .int (nI (zthV pv (Cs.take j))), .int (nI fh), .int (nI fs), .int (nI fk), .ref lo, .ref so, .ref to])), (lo, .inr (6, [.ref la, .int (nI nl)])), (la, .inl (cI, cl, .inl fl)), (so, .inr (6, [.ref sa, .int (nI ns)])), (sa, .inl (cI, cs, .inl ft))] _ _ := B
          refine W.eq (g2 := F0 m 65 ls [.int (nI (zlit Cs j (Nat.min 1 ((zlen Cs j) - 1)))), .int (nI (zlit Cs j 0)), .ref fo]) rfl ?_
          refine lv_aload_n F.1 F.2.1 dX0_writeThrees_65 rfl (lv_at hl 1 rfl) ?_
          refine lv_iload_n F.1 F.2.1 dX0_writeThrees_66 rfl (lv_at hl 2 rfl) ?_
          refine lv_iload_n F.1 F.2.1 dX0_writeThrees_67 rfl (lv_at hl 0 rfl) ?_
          refine lv_iconst (v := (nI 1)) F.1 F.2.1 dX0_writeThrees_68 (by decide) ?_
          refine z_isub F (by omega) dX0_writeThrees_69 ?_
          have qr_7 := zX_rm hxt1 (n' := nt1) (N := (zthL pv Cs).length) (by omega) (by omega)
          refine z_callV (wr := [(to, .inr (6, [.ref tw1, .int (nI nt1)])), (tw1, .inl (cI, ct1, .inl f31))]) (rest := [.int (nI (zlit Cs j (Nat.min 1 ((zlen Cs j) - 1)))), .int (nI (zlit Cs j 0)), .ref fo]) (As := [.int (nI j), .int (nI ((zlen Cs j) - 1))]) F B (kX0_literalOf l D cI cZ cG cJ fo mo pv (zthV pv (Cs.take j)) fh fs fk lo so to la nl cl fl sa ns cs ft Cs j ((zlen Cs j) - 1) (hF) (hwl) (hws) (hjl) (by omega)) hl.1 (C := RX0) (T := TX0) (N := 9) (ci := 2) (q0 := 2) gX0_writeThrees_X0_literalOf rfl 2 yX0_writeThrees_X0_literalOf rfl rfl rfl [2, 3, 4, 5, 6] [0, 1] rfl rfl rfl rfl (by decide) (Nat.le_of_ble_eq_true rfl) (Nat.le_of_ble_eq_true rfl) (Nat.le_of_ble_eq_true rfl) rfl dX0_writeThrees_70 (show (ct1 - ct) + 0 + 0 + 0 + 0 + 0 ≤ (zcap ((zthL pv Cs).length) ct - ct) by omega) (show 2 * ((ct1 - ct)) + 0 + 0 + 0 + 0 + 0 ≤ 2 * ((zcap ((zthL pv Cs).length) ct - ct)) by omega) (fun vv ww H locs hRR B => ?_)
          obtain ⟨rfl, rfl⟩ := hRR
          clear qr_7
          have B : zB D (zT cI cZ cG cJ) A s.heap s [(to, .inr (6, [.ref tw1, .int (nI nt1)])), (tw1, .inl (cI, ct1, .inl f31)), (fo, .inr (2, [.ref mo, .int (nI pv), .int (nI (zthV pv (Cs.take j))), .int (nI fh), .int (nI fs), .int (nI fk), .ref lo, .ref so, .ref to])), (lo, .inr (6, [.ref la, .int (nI nl)])), (la, .inl (cI, cl, .inl fl)), (so, .inr (6, [.ref sa, .int (nI ns)])), (sa, .inl (cI, cs, .inl ft))] _ _ := B
          refine W.eq (g2 := F0 m 73 ls [.int (nI (zlit Cs j ((zlen Cs j) - 1))), .int (nI (zlit Cs j (Nat.min 1 ((zlen Cs j) - 1)))), .int (nI (zlit Cs j 0)), .ref fo]) rfl ?_
          have qr_8 := zX_rm hxt1 (n' := nt1 + 3) (N := (zthL pv Cs).length) (by omega) (by omega)
          refine z_callV (wr := [(lo, .inr (6, [.ref la, .int (nI nl)])), (la, .inl (cI, cl, .inl fl)), (so, .inr (6, [.ref sa, .int (nI ns)])), (sa, .inl (cI, cs, .inl ft))]) (rest := []) (As := [.int (nI (zlit Cs j 0)), .int (nI (zlit Cs j (Nat.min 1 ((zlen Cs j) - 1)))), .int (nI (zlit Cs j ((zlen Cs j) - 1)))]) F B (kX0_addThree l D cI cZ cG cJ fo mo pv (zthV pv (Cs.take j)) fh fs fk lo so to tw1 nt1 ct1 f31 (zthL pv (Cs.take j)) (zlit Cs j 0) (zlit Cs j (Nat.min 1 ((zlen Cs j) - 1))) (zlit Cs j ((zlen Cs j) - 1)) (hR1) (hxt1.2.2.1) (by omega)) hl.1 (C := RX0) (T := TX0) (N := 9) (ci := 2) (q0 := 2) gX0_writeThrees_X0_addThree rfl 3 yX0_writeThrees_X0_addThree rfl rfl rfl [2, 0, 1] [3, 4, 5, 6] rfl rfl rfl rfl (by decide) (Nat.le_of_ble_eq_true rfl) (Nat.le_of_ble_eq_true rfl) (Nat.le_of_ble_eq_true rfl) rfl dX0_writeThrees_73 (show (ct1 - ct) + 0 + 0 + 0 + 0 + 0 + (zcap (nt1 + 3) ct1 - ct1) ≤ (zcap ((zthL pv Cs).length) ct - ct) by omega) (show 2 * ((ct1 - ct)) + 0 + 0 + 0 + 0 + 0 + (2 * ((zcap (nt1 + 3) ct1 - ct1))) ≤ 2 * ((zcap ((zthL pv Cs).length) ct - ct)) by omega) (fun vv ww H locs hRR B => ?_)
          obtain ⟨tw'_9, ct'_10, f3'_11, rfl, rfl, hxt'_12, hRs⟩ := hRR
          have hX_13 := zX_tr hxt1 hxt'_12
          have hX_13e := zX_cap hxt'_12 (hxt1).2.2.1.1
          have hX_131 := (hxt'_12).2.1; have hX_132 := (hxt1).2.1; have hX_133 := (hX_13).1; have hX_134 := (hX_13).2.2.1.2.1
          refine W.widen (k := (ct'_10 - ct)) (n := 2 * ((ct'_10 - ct))) (by omega) (by omega) ?_
          clear qr_8 hX_13e hX_131 hX_132 hX_133 hX_134
          have B : zB D (zT cI cZ cG cJ) A s.heap s [(lo, .inr (6, [.ref la, .int (nI nl)])), (la, .inl (cI, cl, .inl fl)), (so, .inr (6, [.ref sa, .int (nI ns)])), (sa, .inl (cI, cs, .inl ft)), (fo, .inr (2, [.ref mo, .int (nI pv), .int (nI (zthV pv (Cs.take j))), .int (nI fh), .int (nI fs), .int (nI fk), .ref lo, .ref so, .ref to])), (to, .inr (6, [.ref tw'_9, .int (nI (nt1 + 3))])), (tw'_9, .inl (cI, ct'_10, .inl f3'_11))] _ _ := B
          refine W.eq (g2 := F0 m 76 ls []) rfl ?_
          refine lv_iinc (v := (nI (j + 1))) (lv' := [(1, .int (nI (j + 1))), (2, .int (nI (zlen Cs j))), (0, .ref fo)]) F.1 F.2.1 dX0_writeThrees_76 hl (k := 2) rfl (by rw [show Int32.ofInt 1 = nI 1 from rfl, nI_add]) (by decide) rfl (fun ls hl => ?_)
          refine lv_goto (tgt := 18) F.1 F.2.1 dX0_writeThrees_79 (by decide) ?_
          exact ih18 (j + 1) tw'_9 (nt1 + 3) ct'_10 f3'_11 (by first | omega | (simp only [] at *; omega)) (by omega) (by rw [zthL_take hjl pv, zth1_s (show (Cs.getD j []).length ≤ 3 from c34)]; exact hRs) (hX_13) _ _ _ (B.sub [4, 0, 1, 2, 3, 5, 6] rfl (by rw [zthV_take hjl pv, show zlen Cs j - 3 = 0 by omega]; rfl)) (lv_sub hl [2, 0] rfl)
        · have hfit := zthL_fit hjl pv
          rw [zth1_l (show ¬ (Cs.getD j []).length ≤ 3 from c34), zsp_len _ (show 4 ≤ (Cs.getD j []).length from Nat.lt_of_not_le c34)] at hfit
          have hfit2 : (zthL pv (Cs.take j)).length + 3 * (zlen Cs j - 2) ≤ (zthL pv Cs).length := hfit
          clear hfit
          refine lv_aload_n F.1 F.2.1 dX0_writeThrees_37 rfl (lv_at hl 1 rfl) ?_
          refine lv_iload_n F.1 F.2.1 dX0_writeThrees_38 rfl (lv_at hl 2 rfl) ?_
          refine lv_iload_n F.1 F.2.1 dX0_writeThrees_39 rfl (lv_at hl 0 rfl) ?_
          have qr_14 := zX_rm hxt1 (n' := nt1 + 3 * ((zlen Cs j) - 2)) (N := (zthL pv Cs).length) (by omega) (by omega)
          refine z_callV (wr := []) (rest := []) (As := [.int (nI j), .int (nI (zlen Cs j))]) F B (kX0_splitClause l D cI cZ cG cJ fo mo pv (zthV pv (Cs.take j)) fh fs fk lo so to la nl cl fl sa ns cs ft Cs tw1 nt1 ct1 f31 (zthL pv (Cs.take j)) j (zlen Cs j) (hF) (hwl) (hws) (hR1) (hxt1.2.2.1) (hjl) (rfl) (by omega) (by omega) (by omega)) hl.1 (C := RX0) (T := TX0) (N := 9) (ci := 2) (q0 := 4) gX0_writeThrees_X0_splitClause rfl 2 yX0_writeThrees_X0_splitClause rfl rfl rfl [4, 0, 1, 5, 6, 2, 3] [] rfl rfl rfl rfl (by decide) (Nat.le_of_ble_eq_true rfl) (Nat.le_of_ble_eq_true rfl) (Nat.le_of_ble_eq_true rfl) rfl dX0_writeThrees_40 (show (ct1 - ct) + 0 + 0 + (zcap (nt1 + 3 * ((zlen Cs j) - 2)) ct1 - ct1) ≤ (zcap ((zthL pv Cs).length) ct - ct) by omega) (show 2 * ((ct1 - ct)) + 0 + 0 + (2 * ((zcap (nt1 + 3 * ((zlen Cs j) - 2)) ct1 - ct1))) ≤ 2 * ((zcap ((zthL pv Cs).length) ct - ct)) by omega) (fun vv ww H locs hRR B => ?_)
          obtain ⟨tw'_15, ct'_16, f3'_17, rfl, rfl, hxt'_18, hRs⟩ := hRR
          have hX_19 := zX_tr hxt1 hxt'_18
          have hX_19e := zX_cap hxt'_18 (hxt1).2.2.1.1
          have hX_191 := (hxt'_18).2.1; have hX_192 := (hxt1).2.1; have hX_193 := (hX_19).1; have hX_194 := (hX_19).2.2.1.2.1
          refine W.widen (k := (ct'_16 - ct)) (n := 2 * ((ct'_16 - ct))) (by omega) (by omega) ?_
          clear qr_14 hX_19e hX_191 hX_192 hX_193 hX_194
          have B : zB D (zT cI cZ cG cJ) A s.heap s [(fo, .inr (2, [.ref mo, .int (nI pv), .int (nI ((zthV pv (Cs.take j)) + ((zlen Cs j) - 3))), .int (nI fh), .int (nI fs), .int (nI fk), .ref lo, .ref so, .ref to])), (lo, .inr (6, [.ref la, .int (nI nl)])), (la, .inl (cI, cl, .inl fl)), (so, .inr (6, [.ref sa, .int (nI ns)])), (sa, .inl (cI, cs, .inl ft)), (to, .inr (6, [.ref tw'_15, .int (nI (nt1 + 3 * ((zlen Cs j) - 2)))])), (tw'_15, .inl (cI, ct'_16, .inl f3'_17))] _ _ := B
          refine W.eq (g2 := F0 m 43 ls []) rfl ?_
          refine lv_goto (tgt := 76) F.1 F.2.1 dX0_writeThrees_43 (by decide) ?_
          refine lv_iinc (v := (nI (j + 1))) (lv' := [(1, .int (nI (j + 1))), (2, .int (nI (zlen Cs j))), (0, .ref fo)]) F.1 F.2.1 dX0_writeThrees_76 hl (k := 2) rfl (by rw [show Int32.ofInt 1 = nI 1 from rfl, nI_add]) (by decide) rfl (fun ls hl => ?_)
          refine lv_goto (tgt := 18) F.1 F.2.1 dX0_writeThrees_79 (by decide) ?_
          exact ih18 (j + 1) tw'_15 (nt1 + 3 * ((zlen Cs j) - 2)) ct'_16 f3'_17 (by first | omega | (simp only [] at *; omega)) (by omega) (by rw [zthL_take hjl pv, zth1_l (show ¬ (Cs.getD j []).length ≤ 3 from c34)]; exact hRs) (hX_19) _ _ _ (B.sub [0, 1, 2, 3, 4, 5, 6] rfl (by rw [zthV_take hjl pv]; rfl)) (lv_sub hl [2, 0] rfl)
  refine W.widen (k := (ct - ct)) (n := 2 * ((ct - ct))) (by omega) (by omega) ?_
  exact loop18 (Cs.length - 0 + 1) 0 tw 0 ct f3 (Nat.lt_succ_self _) (by omega) (zR_nil) ((zX_rf (zW_0 hwt))) _ _ _ (B.sub [0, 1, 2, 3, 4, 5, 6] rfl (rfl)) (lv_sub hl [1, 0] rfl)
