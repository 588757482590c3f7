/-! CONTRACTS of Formula: reading clauses; threes -/
theorem iX0_clauses_X0 : ∀ w ∈ u_ws RX0 TX0 9, w ∈ wsX0_clauses := by decide +kernel
theorem fX0_clauses_16 : Cond.fieldLink RX0 16 "TourChain$Formula" "starts" "LTourChain$Row;" ∈ wsX0_clauses := by decide +kernel
theorem iX0_clauses_X4 : ∀ w ∈ u_ws RX4 TX4 2, w ∈ wsX0_clauses := by decide +kernel
theorem fX0_clauses_26 : Cond.fieldLink RX0 26 "TourChain$Row" "size" "I" ∈ wsX0_clauses := by decide +kernel
set_option maxHeartbeats 4000000 in
set_option maxRecDepth 100000 in
theorem kX0_clauses (l : Launch) (D : va_G) (cI cZ cG cJ : ClassId) (fo : Nat) (mo : Nat) (pv : Nat) (va : Nat) (fh : Nat) (fs : Nat) (fk : Nat) (lo : Nat) (so : Nat) (to : Nat) (sa : Nat) (ns : Nat) (hn : 1 ≤ ns) : zC l yX0_clauses wsX0_clauses 0 0 0 0 D (zT cI cZ cG cJ) [.ref fo] [(fo, .inr (2, [.ref mo, .int (nI pv), .int (nI va), .int (nI fh), .int (nI fs), .int (nI fk), .ref lo, .ref so, .ref to])), (so, .inr (6, [.ref sa, .int (nI ns)]))] (fun (v : Option Value) (w : va_W) => v = some (.int (nI (ns - 1))) ∧ w = [(fo, .inr (2, [.ref mo, .int (nI pv), .int (nI va), .int (nI fh), .int (nI fs), .int (nI fk), .ref lo, .ref so, .ref to])), (so, .inr (6, [.ref sa, .int (nI ns)]))]) := by
  refine zC.of (cc := cX0_clauses) (maxL := 1) (ret := (some .int)) (by decide) rfl (Nat.le_of_ble_eq_true rfl) ?_
  intro p e s m below meth c A ls F hr hlk hnm B hl
  have hl : lv_has ls 1 [(0, .ref fo)] := hl
  refine lv_aload_n F.1 F.2.1 dX0_clauses_0 rfl (lv_at hl 0 rfl) ?_
  refine z_get F B 0 rfl (ci := 2) (C := RX0) (T := TX0) (N := 9) rfl iX0_clauses_X0 7 (by decide) fX0_clauses_16 rfl dX0_clauses_1 ?_
  refine z_get F B 1 rfl (ci := 6) (C := RX4) (T := TX4) (N := 2) rfl iX0_clauses_X4 1 (by decide) fX0_clauses_26 rfl dX0_clauses_4 ?_
  refine lv_iconst (v := (nI 1)) F.1 F.2.1 dX0_clauses_7 (by decide) ?_
  refine z_isub F (by omega) dX0_clauses_8 ?_
  exact z_iret F hr hlk B [0, 1] rfl rfl dX0_clauses_9 (by omega) (by omega) ⟨rfl, rfl⟩
theorem iX0_length_X0 : ∀ w ∈ u_ws RX0 TX0 9, w ∈ wsX0_length := by decide +kernel
theorem fX0_length_16 : Cond.fieldLink RX0 16 "TourChain$Formula" "starts" "LTourChain$Row;" ∈ wsX0_length := by decide +kernel
theorem iX0_length_X4 : ∀ w ∈ u_ws RX4 TX4 2, w ∈ wsX0_length := by decide +kernel
theorem fX0_length_30 : Cond.fieldLink RX0 30 "TourChain$Row" "items" "[I" ∈ wsX0_length := by decide +kernel
set_option maxHeartbeats 4000000 in
set_option maxRecDepth 100000 in
theorem kX0_length (l : Launch) (D : va_G) (cI cZ cG cJ : ClassId) (fo : Nat) (mo : Nat) (pv : Nat) (va : Nat) (fh : Nat) (fs : Nat) (fk : Nat) (lo : Nat) (so : Nat) (to : Nat) (sa : Nat) (ns : Nat) (cs : Nat) (ft : Nat → Int32) (fl : Nat → Int32) (nl : Nat) (Cs : List (List Nat)) (j : Nat) (hF : zF fl nl ft ns Cs) (hws : zW ns cs) (hj : j < Cs.length) : zC l yX0_length wsX0_length 0 0 0 0 D (zT cI cZ cG cJ) [.ref fo, .int (nI j)] [(fo, .inr (2, [.ref mo, .int (nI pv), .int (nI va), .int (nI fh), .int (nI fs), .int (nI fk), .ref lo, .ref so, .ref to])), (so, .inr (6, [.ref sa, .int (nI ns)])), (sa, .inl (cI, cs, .inl ft))] (fun (v : Option Value) (w : va_W) => v = some (.int (nI (zlen Cs j))) ∧ w = [(fo, .inr (2, [.ref mo, .int (nI pv), .int (nI va), .int (nI fh), .int (nI fs), .int (nI fk), .ref lo, .ref so, .ref to])), (so, .inr (6, [.ref sa, .int (nI ns)])), (sa, .inl (cI, cs, .inl ft))]) := by
  refine zC.of (cc := cX0_length) (maxL := 2) (ret := (some .int)) (by decide) rfl (Nat.le_of_ble_eq_true rfl) ?_
  intro p e s m below meth c A ls F hr hlk hnm B hl
  have hl : lv_has ls 2 [(0, .ref fo), (1, .int (nI j))] := hl
  obtain ⟨hlen1, hlen2⟩ := zF_len hF
  have hw3 := hws.2.1; have hw4 := hws.2.2
  have hsu := zoff_succ Cs j hj
  refine lv_aload_n F.1 F.2.1 dX0_length_0 rfl (lv_at hl 0 rfl) ?_
  refine z_get F B 0 rfl (ci := 2) (C := RX0) (T := TX0) (N := 9) rfl iX0_length_X0 7 (by decide) fX0_length_16 rfl dX0_length_1 ?_
  refine z_get F B 1 rfl (ci := 6) (C := RX4) (T := TX4) (N := 2) rfl iX0_length_X4 0 (by decide) fX0_length_30 rfl dX0_length_4 ?_
  refine lv_iload_n F.1 F.2.1 dX0_length_7 rfl (lv_at hl 1 rfl) ?_
  refine lv_iconst (v := (nI 1)) F.1 F.2.1 dX0_length_8 (by decide) ?_
  refine z_iadd F dX0_length_9 ?_
  refine z_iald F B 2 0 rfl rfl (j := j + 1) (by omega) (by omega) dX0_length_10 ?_
  refine W.eq (g2 := F0 m 11 ls [.int (nI (zoff Cs (j + 1)))]) (by rw [zF_st hF (show j + 1 ≤ Cs.length by omega)]) ?_
  refine lv_aload_n F.1 F.2.1 dX0_length_11 rfl (lv_at hl 0 rfl) ?_
  refine z_get F B 0 rfl (ci := 2) (C := RX0) (T := TX0) (N := 9) rfl iX0_length_X0 7 (by decide) fX0_length_16 rfl dX0_length_12 ?_
  refine z_get F B 1 rfl (ci := 6) (C := RX4) (T := TX4) (N := 2) rfl iX0_length_X4 0 (by decide) fX0_length_30 rfl dX0_length_15 ?_
  refine lv_iload_n F.1 F.2.1 dX0_length_18 rfl (lv_at hl 1 rfl) ?_
  refine z_iald F B 2 0 rfl rfl (j := j) (by omega) (by omega) dX0_length_19 ?_
  refine W.eq (g2 := F0 m 20 ls [.int (nI (zoff Cs j)), .int (nI (zoff Cs (j + 1)))]) (by rw [zF_st hF (show j ≤ Cs.length by omega)]) ?_
  refine z_isub F (by omega) dX0_length_20 ?_
  refine W.eq (g2 := F0 m 21 ls [.int (nI (zlen Cs j))]) (by rw [show zoff Cs (j + 1) - zoff Cs j = zlen Cs j by omega]) ?_
  exact z_iret F hr hlk B [0, 1, 2] rfl rfl dX0_length_21 (by omega) (by omega) ⟨rfl, rfl⟩
theorem iX0_literalOf_X0 : ∀ w ∈ u_ws RX0 TX0 9, w ∈ wsX0_literalOf := by decide +kernel
theorem fX0_literalOf_10 : Cond.fieldLink RX0 10 "TourChain$Formula" "literals" "LTourChain$Row;" ∈ wsX0_literalOf := by decide +kernel
theorem iX0_literalOf_X4 : ∀ w ∈ u_ws RX4 TX4 2, w ∈ wsX0_literalOf := by decide +kernel
theorem fX0_literalOf_30 : Cond.fieldLink RX0 30 "TourChain$Row" "items" "[I" ∈ wsX0_literalOf := by decide +kernel
theorem fX0_literalOf_16 : Cond.fieldLink RX0 16 "TourChain$Formula" "starts" "LTourChain$Row;" ∈ wsX0_literalOf := by decide +kernel
set_option maxHeartbeats 4000000 in
set_option maxRecDepth 100000 in
theorem kX0_literalOf (l : Launch) (D : va_G) (cI cZ cG cJ : ClassId) (fo : Nat) (mo : Nat) (pv : Nat) (va : Nat) (fh : Nat) (fs : Nat) (fk : Nat) (lo : Nat) (so : Nat) (to : Nat) (la : Nat) (nl : Nat) (cl : Nat) (fl : Nat → Int32) (sa : Nat) (ns : Nat) (cs : Nat) (ft : Nat → Int32) (Cs : List (List Nat)) (j : Nat) (i : Nat) (hF : zF fl nl ft ns Cs) (hwl : zW nl cl) (hws : zW ns cs) (hj : j < Cs.length) (hi : i < zlen Cs j) : zC l yX0_literalOf wsX0_literalOf 0 0 0 0 D (zT cI cZ cG cJ) [.ref fo, .int (nI j), .int (nI i)] [(fo, .inr (2, [.ref mo, .int (nI pv), .int (nI va), .int (nI fh), .int (nI fs), .int (nI fk), .ref lo, .ref so, .ref to])), (lo, .inr (6, [.ref la, .int (nI nl)])), (la, .inl (cI, cl, .inl fl)), (so, .inr (6, [.ref sa, .int (nI ns)])), (sa, .inl (cI, cs, .inl ft))] (fun (v : Option Value) (w : va_W) => v = some (.int (nI (zlit Cs j i))) ∧ w = [(fo, .inr (2, [.ref mo, .int (nI pv), .int (nI va), .int (nI fh), .int (nI fs), .int (nI fk), .ref lo, .ref so, .ref to])), (lo, .inr (6, [.ref la, .int (nI nl)])), (la, .inl (cI, cl, .inl fl)), (so, .inr (6, [.ref sa, .int (nI ns)])), (sa, .inl (cI, cs, .inl ft))]) := by
  refine zC.of (cc := cX0_literalOf) (maxL := 3) (ret := (some .int)) (by decide) rfl (Nat.le_of_ble_eq_true rfl) ?_
  intro p e s m below meth c A ls F hr hlk hnm B hl
  have hl : lv_has ls 3 [(0, .ref fo), (1, .int (nI j)), (2, .int (nI i))] := hl
  obtain ⟨hlen1, hlen2⟩ := zF_len hF
  have hw1 := hwl.2.1; have hw2 := hwl.2.2; have hw3 := hws.2.1; have hw4 := hws.2.2
  have hlt := zF_lt hF hj hi
  refine lv_aload_n F.1 F.2.1 dX0_literalOf_0 rfl (lv_at hl 0 rfl) ?_
  refine z_get F B 0 rfl (ci := 2) (C := RX0) (T := TX0) (N := 9) rfl iX0_literalOf_X0 6 (by decide) fX0_literalOf_10 rfl dX0_literalOf_1 ?_
  refine z_get F B 1 rfl (ci := 6) (C := RX4) (T := TX4) (N := 2) rfl iX0_literalOf_X4 0 (by decide) fX0_literalOf_30 rfl dX0_literalOf_4 ?_
  refine lv_aload_n F.1 F.2.1 dX0_literalOf_7 rfl (lv_at hl 0 rfl) ?_
  refine z_get F B 0 rfl (ci := 2) (C := RX0) (T := TX0) (N := 9) rfl iX0_literalOf_X0 7 (by decide) fX0_literalOf_16 rfl dX0_literalOf_8 ?_
  refine z_get F B 3 rfl (ci := 6) (C := RX4) (T := TX4) (N := 2) rfl iX0_literalOf_X4 0 (by decide) fX0_literalOf_30 rfl dX0_literalOf_11 ?_
  refine lv_iload_n F.1 F.2.1 dX0_literalOf_14 rfl (lv_at hl 1 rfl) ?_
  refine z_iald F B 4 0 rfl rfl (j := j) (by omega) (by omega) dX0_literalOf_15 ?_
  refine W.eq (g2 := F0 m 16 ls [.int (nI (zoff Cs j)), .ref la]) (by rw [zF_st hF (show j ≤ Cs.length by omega)]) ?_
  refine lv_iload_n F.1 F.2.1 dX0_literalOf_16 rfl (lv_at hl 2 rfl) ?_
  refine z_iadd F dX0_literalOf_17 ?_
  refine z_iald F B 2 0 rfl rfl (j := zoff Cs j + i) (by omega) (by omega) dX0_literalOf_18 ?_
  refine W.eq (g2 := F0 m 19 ls [.int (nI (zlit Cs j i))]) (by rw [zF_lit hF hj hi]) ?_
  exact z_iret F hr hlk B [0, 1, 2, 3, 4] rfl rfl dX0_literalOf_19 (by omega) (by omega) ⟨rfl, rfl⟩
theorem iX0_threes_X0 : ∀ w ∈ u_ws RX0 TX0 9, w ∈ wsX0_threes := by decide +kernel
theorem fX0_threes_19 : Cond.fieldLink RX0 19 "TourChain$Formula" "threeLiterals" "LTourChain$Row;" ∈ wsX0_threes := by decide +kernel
theorem iX0_threes_X4 : ∀ w ∈ u_ws RX4 TX4 2, w ∈ wsX0_threes := by decide +kernel
theorem fX0_threes_26 : Cond.fieldLink RX0 26 "TourChain$Row" "size" "I" ∈ wsX0_threes := by decide +kernel
set_option maxHeartbeats 4000000 in
set_option maxRecDepth 100000 in
theorem kX0_threes (l : Launch) (D : va_G) (cI cZ cG cJ : ClassId) (fo : Nat) (mo : Nat) (pv : Nat) (va : Nat) (fh : Nat) (fs : Nat) (fk : Nat) (lo : Nat) (so : Nat) (to : Nat) (tw : Nat) (nt : Nat) (hn : nt < 2 ^ 31) : zC l yX0_threes wsX0_threes 0 0 0 0 D (zT cI cZ cG cJ) [.ref fo] [(fo, .inr (2, [.ref mo, .int (nI pv), .int (nI va), .int (nI fh), .int (nI fs), .int (nI fk), .ref lo, .ref so, .ref to])), (to, .inr (6, [.ref tw, .int (nI nt)]))] (fun (v : Option Value) (w : va_W) => v = some (.int (nI (nt / 3))) ∧ w = [(fo, .inr (2, [.ref mo, .int (nI pv), .int (nI va), .int (nI fh), .int (nI fs), .int (nI fk), .ref lo, .ref so, .ref to])), (to, .inr (6, [.ref tw, .int (nI nt)]))]) := by
  refine zC.of (cc := cX0_threes) (maxL := 1) (ret := (some .int)) (by decide) rfl (Nat.le_of_ble_eq_true rfl) ?_
  intro p e s m below meth c A ls F hr hlk hnm B hl
  have hl : lv_has ls 1 [(0, .ref fo)] := hl
  refine lv_aload_n F.1 F.2.1 dX0_threes_0 rfl (lv_at hl 0 rfl) ?_
  refine z_get F B 0 rfl (ci := 2) (C := RX0) (T := TX0) (N := 9) rfl iX0_threes_X0 8 (by decide) fX0_threes_19 rfl dX0_threes_1 ?_
  refine z_get F B 1 rfl (ci := 6) (C := RX4) (T := TX4) (N := 2) rfl iX0_threes_X4 1 (by decide) fX0_threes_26 rfl dX0_threes_4 ?_
  refine lv_iconst (v := (nI 3)) F.1 F.2.1 dX0_threes_7 (by decide) ?_
  refine z_idiv F (by omega) (by omega) (by omega) dX0_threes_8 ?_
  exact z_iret F hr hlk B [0, 1] rfl rfl dX0_threes_9 (by omega) (by omega) ⟨rfl, rfl⟩
theorem iX0_literalOfThree_X0 : ∀ w ∈ u_ws RX0 TX0 9, w ∈ wsX0_literalOfThree := by decide +kernel
theorem fX0_literalOfThree_19 : Cond.fieldLink RX0 19 "TourChain$Formula" "threeLiterals" "LTourChain$Row;" ∈ wsX0_literalOfThree := by decide +kernel
theorem iX0_literalOfThree_X4 : ∀ w ∈ u_ws RX4 TX4 2, w ∈ wsX0_literalOfThree := by decide +kernel
theorem fX0_literalOfThree_30 : Cond.fieldLink RX0 30 "TourChain$Row" "items" "[I" ∈ wsX0_literalOfThree := by decide +kernel
set_option maxHeartbeats 4000000 in
set_option maxRecDepth 100000 in
theorem kX0_literalOfThree (l : Launch) (D : va_G) (cI cZ cG cJ : ClassId) (fo : Nat) (mo : Nat) (pv : Nat) (va : Nat) (fh : Nat) (fs : Nat) (fk : Nat) (lo : Nat) (so : Nat) (to : Nat) (tw : Nat) (nt : Nat) (ct : Nat) (f3 : Nat → Int32) (L3 : List Nat) (j : Nat) (i : Nat) (hR : zR f3 nt L3) (hwt : zW nt ct) (hj : 3 * j + i < nt) : zC l yX0_literalOfThree wsX0_literalOfThree 0 0 0 0 D (zT cI cZ cG cJ) [.ref fo, .int (nI j), .int (nI i)] [(fo, .inr (2, [.ref mo, .int (nI pv), .int (nI va), .int (nI fh), .int (nI fs), .int (nI fk), .ref lo, .ref so, .ref to])), (to, .inr (6, [.ref tw, .int (nI nt)])), (tw, .inl (cI, ct, .inl f3))] (fun (v : Option Value) (w : va_W) => v = some (.int (nI (L3.getD (3 * j + i) 0))) ∧ w = [(fo, .inr (2, [.ref mo, .int (nI pv), .int (nI va), .int (nI fh), .int (nI fs), .int (nI fk), .ref lo, .ref so, .ref to])), (to, .inr (6, [.ref tw, .int (nI nt)])), (tw, .inl (cI, ct, .inl f3))]) := by
  refine zC.of (cc := cX0_literalOfThree) (maxL := 3) (ret := (some .int)) (by decide) rfl (Nat.le_of_ble_eq_true rfl) ?_
  intro p e s m below meth c A ls F hr hlk hnm B hl
  have hl : lv_has ls 3 [(0, .ref fo), (1, .int (nI j)), (2, .int (nI i))] := hl
  have hw1 := hwt.2.1; have hw2 := hwt.2.2
  refine lv_aload_n F.1 F.2.1 dX0_literalOfThree_0 rfl (lv_at hl 0 rfl) ?_
  refine z_get F B 0 rfl (ci := 2) (C := RX0) (T := TX0) (N := 9) rfl iX0_literalOfThree_X0 8 (by decide) fX0_literalOfThree_19 rfl dX0_literalOfThree_1 ?_
  refine z_get F B 1 rfl (ci := 6) (C := RX4) (T := TX4) (N := 2) rfl iX0_literalOfThree_X4 0 (by decide) fX0_literalOfThree_30 rfl dX0_literalOfThree_4 ?_
  refine lv_iconst (v := (nI 3)) F.1 F.2.1 dX0_literalOfThree_7 (by decide) ?_
  refine lv_iload_n F.1 F.2.1 dX0_literalOfThree_8 rfl (lv_at hl 1 rfl) ?_
  refine z_imul F dX0_literalOfThree_9 ?_
  refine lv_iload_n F.1 F.2.1 dX0_literalOfThree_10 rfl (lv_at hl 2 rfl) ?_
  refine z_iadd F dX0_literalOfThree_11 ?_
  refine z_iald F B 2 0 rfl rfl (j := 3 * j + i) (by omega) (by omega) dX0_literalOfThree_12 ?_
  refine W.eq (g2 := F0 m 13 ls [.int (nI (L3.getD (3 * j + i) 0))]) (by rw [hR.2 _ hj]) ?_
  exact z_iret F hr hlk B [0, 1, 2] rfl rfl dX0_literalOfThree_13 (by omega) (by omega) ⟨rfl, rfl⟩
theorem iX0_addThree_X0 : ∀ w ∈ u_ws RX0 TX0 9, w ∈ wsX0_addThree := by decide +kernel
theorem fX0_addThree_19 : Cond.fieldLink RX0 19 "TourChain$Formula" "threeLiterals" "LTourChain$Row;" ∈ wsX0_addThree := by decide +kernel
theorem yX0_addThree_X4_add : yX4_add.cls = RX4 ∧ yX4_add.cls ≠ "java/lang/invoke/MethodHandle" ∧ yX4_add.cls ≠ "java/lang/invoke/VarHandle" ∧ (parseMethodDescriptor yX4_add.desc).map (fun d => d.parameters.length) = some 1 := by decide +kernel
set_option maxHeartbeats 4000000 in
set_option maxRecDepth 100000 in
theorem kX0_addThree (l : Launch) (D : va_G) (cI cZ cG cJ : ClassId) (fo : Nat) (mo : Nat) (pv : Nat) (va : Nat) (fh : Nat) (fs : Nat) (fk : Nat) (lo : Nat) (so : Nat) (to : Nat) (tw : Nat) (nt : Nat) (ct : Nat) (f3 : Nat → Int32) (L3 : List Nat) (a1 : Nat) (a2 : Nat) (a3 : Nat) (hR : zR f3 nt L3) (hwt : zW nt ct) (hb : nt + 3 ≤ 8192) : zC l yX0_addThree wsX0_addThree 3 83 (zcap (nt + 3) ct - ct) (2 * ((zcap (nt + 3) ct - ct))) D (zT cI cZ cG cJ) [.ref fo, .int (nI a1), .int (nI a2), .int (nI a3)] [(fo, .inr (2, [.ref mo, .int (nI pv), .int (nI va), .int (nI fh), .int (nI fs), .int (nI fk), .ref lo, .ref so, .ref to])), (to, .inr (6, [.ref tw, .int (nI nt)])), (tw, .inl (cI, ct, .inl f3))] (fun (v : Option Value) (w : va_W) => ∃ tw' : Nat, ∃ ct' : Nat, ∃ f3' : Nat → Int32, v = none ∧ w = [(fo, .inr (2, [.ref mo, .int (nI pv), .int (nI va), .int (nI fh), .int (nI fs), .int (nI fk), .ref lo, .ref so, .ref to])), (to, .inr (6, [.ref tw', .int (nI (nt + 3))])), (tw', .inl (cI, ct', .inl f3'))] ∧ zX nt ct (nt + 3) ct' ∧ zR f3' (nt + 3) (L3 ++ [a1, a2, a3])) := by
  refine zC.of (cc := cX0_addThree) (maxL := 4) (ret := none) (by decide) rfl (Nat.le_of_ble_eq_true rfl) ?_
  intro p e s m below meth c A ls F hr hlk hnm B hl
  have hl : lv_has ls 4 [(0, .ref fo), (1, .int (nI a1)), (2, .int (nI a2)), (3, .int (nI a3))] := hl
  refine lv_aload_n F.1 F.2.1 dX0_addThree_0 rfl (lv_at hl 0 rfl) ?_
  refine z_get F B 0 rfl (ci := 2) (C := RX0) (T := TX0) (N := 9) rfl iX0_addThree_X0 8 (by decide) fX0_addThree_19 rfl dX0_addThree_1 ?_
  refine lv_iload_n F.1 F.2.1 dX0_addThree_4 rfl (lv_at hl 1 rfl) ?_
  have qr_1 := zX_rm (zX_rf hwt) (n' := nt + 1) (N := nt + 3) (by omega) (by omega)
  refine z_callV (wr := [(fo, .inr (2, [.ref mo, .int (nI pv), .int (nI va), .int (nI fh), .int (nI fs), .int (nI fk), .ref lo, .ref so, .ref to]))]) (rest := []) (As := [.int (nI a1)]) F B (kX4_add l D cI cZ cG cJ to tw nt ct f3 L3 a1 (hR) (hwt) (by omega)) hl.1 (C := RX4) (T := TX4) (N := 2) (ci := 6) (q0 := 1) gX0_addThree_X4_add rfl 1 yX0_addThree_X4_add rfl rfl rfl [1, 2] [0] rfl rfl rfl rfl (by decide) (Nat.le_of_ble_eq_true rfl) (Nat.le_of_ble_eq_true rfl) (Nat.le_of_ble_eq_true rfl) rfl dX0_addThree_5 (show 0 + (zcap (nt + 1) ct - ct) ≤ (zcap (nt + 3) ct - ct) by omega) (show 0 + (2 * ((zcap (nt + 1) ct - ct))) ≤ 2 * ((zcap (nt + 3) ct - ct)) by omega) (fun vv ww H locs hRR B => ?_)
  obtain ⟨a'_2, f'_3, c'_4, rfl, rfl, hxa1, hf1⟩ := hRR
  have hX_5 := zX_tr (zX_rf hwt) hxa1
  have hX_5e := zX_cap hxa1 ((zX_rf hwt)).2.2.1.1
  have hX_51 := (hxa1).2.1; have hX_52 := ((zX_rf hwt)).2.1; have hX_53 := (hX_5).1; have hX_54 := (hX_5).2.2.1.2.1
  refine W.widen (k := (c'_4 - ct)) (n := 2 * ((c'_4 - ct))) (by omega) (by omega) ?_
  clear qr_1 hX_5e hX_51 hX_52 hX_53 hX_54
  have B : zB D (zT cI cZ cG cJ) A s.heap s [(fo, .inr (2, [.ref mo, .int (nI pv), .int (nI va), .int (nI fh), .int (nI fs), .int (nI fk), .ref lo, .ref so, .ref to])), (to, .inr (6, [.ref a'_2, .int (nI (nt + 1))])), (a'_2, .inl (cI, c'_4, .inl f'_3))] _ _ := B
  refine W.eq (g2 := F0 m 8 ls []) rfl ?_
  refine lv_aload_n F.1 F.2.1 dX0_addThree_8 rfl (lv_at hl 0 rfl) ?_
  refine z_get F B 0 rfl (ci := 2) (C := RX0) (T := TX0) (N := 9) rfl iX0_addThree_X0 8 (by decide) fX0_addThree_19 rfl dX0_addThree_9 ?_
  refine lv_iload_n F.1 F.2.1 dX0_addThree_12 rfl (lv_at hl 2 rfl) ?_
  have qr_6 := zX_rm hX_5 (n' := (nt + 1) + 1) (N := nt + 3) (by omega) (by omega)
  refine z_callV (wr := [(fo, .inr (2, [.ref mo, .int (nI pv), .int (nI va), .int (nI fh), .int (nI fs), .int (nI fk), .ref lo, .ref so, .ref to]))]) (rest := []) (As := [.int (nI a2)]) F B (kX4_add l D cI cZ cG cJ to a'_2 (nt + 1) c'_4 f'_3 (L3 ++ [a1]) a2 (hf1) (hxa1.2.2.1) (by omega)) hl.1 (C := RX4) (T := TX4) (N := 2) (ci := 6) (q0 := 1) gX0_addThree_X4_add rfl 1 yX0_addThree_X4_add rfl rfl rfl [1, 2] [0] rfl rfl rfl rfl (by decide) (Nat.le_of_ble_eq_true rfl) (Nat.le_of_ble_eq_true rfl) (Nat.le_of_ble_eq_true rfl) rfl dX0_addThree_13 (show (c'_4 - ct) + (zcap ((nt + 1) + 1) c'_4 - c'_4) ≤ (zcap (nt + 3) ct - ct) by omega) (show 2 * ((c'_4 - ct)) + (2 * ((zcap ((nt + 1) + 1) c'_4 - c'_4))) ≤ 2 * ((zcap (nt + 3) ct - ct)) by omega) (fun vv ww H locs hRR B => ?_)
  obtain ⟨a'_7, f'_8, c'_9, rfl, rfl, hxa2, hf2⟩ := hRR
  have hX_10 := zX_tr hX_5 hxa2
  have hX_10e := zX_cap hxa2 (hX_5).2.2.1.1
  have hX_101 := (hxa2).2.1; have hX_102 := (hX_5).2.1; have hX_103 := (hX_10).1; have hX_104 := (hX_10).2.2.1.2.1
  refine W.widen (k := (c'_9 - ct)) (n := 2 * ((c'_9 - ct))) (by omega) (by omega) ?_
  clear qr_6 hX_10e hX_101 hX_102 hX_103 hX_104
  have B : zB D (zT cI cZ cG cJ) A s.heap s [(fo, .inr (2, [.ref mo, .int (nI pv), .int (nI va), .int (nI fh), .int (nI fs), .int (nI fk), .ref lo, .ref so, .ref to])), (to, .inr (6, [.ref a'_7, .int (nI ((nt + 1) + 1))])), (a'_7, .inl (cI, c'_9, .inl f'_8))] _ _ := B
  refine W.eq (g2 := F0 m 16 ls []) rfl ?_
  refine lv_aload_n F.1 F.2.1 dX0_addThree_16 rfl (lv_at hl 0 rfl) ?_
  refine z_get F B 0 rfl (ci := 2) (C := RX0) (T := TX0) (N := 9) rfl iX0_addThree_X0 8 (by decide) fX0_addThree_19 rfl dX0_addThree_17 ?_
  refine lv_iload_n F.1 F.2.1 dX0_addThree_20 rfl (lv_at hl 3 rfl) ?_
  have qr_11 := zX_rm hX_10 (n' := ((nt + 1) + 1) + 1) (N := nt + 3) (by omega) (by omega)
  refine z_callV (wr := [(fo, .inr (2, [.ref mo, .int (nI pv), .int (nI va), .int (nI fh), .int (nI fs), .int (nI fk), .ref lo, .ref so, .ref to]))]) (rest := []) (As := [.int (nI a3)]) F B (kX4_add l D cI cZ cG cJ to a'_7 ((nt + 1) + 1) c'_9 f'_8 (L3 ++ [a1] ++ [a2]) a3 (hf2) (hxa2.2.2.1) (by omega)) hl.1 (C := RX4) (T := TX4) (N := 2) (ci := 6) (q0 := 1) gX0_addThree_X4_add rfl 1 yX0_addThree_X4_add rfl rfl rfl [1, 2] [0] rfl rfl rfl rfl (by decide) (Nat.le_of_ble_eq_true rfl) (Nat.le_of_ble_eq_true rfl) (Nat.le_of_ble_eq_true rfl) rfl dX0_addThree_21 (show (c'_9 - ct) + (zcap (((nt + 1) + 1) + 1) c'_9 - c'_9) ≤ (zcap (nt + 3) ct - ct) by omega) (show 2 * ((c'_9 - ct)) + (2 * ((zcap (((nt + 1) + 1) + 1) c'_9 - c'_9))) ≤ 2 * ((zcap (nt + 3) ct - ct)) by omega) (fun vv ww H locs hRR B => ?_)
  obtain ⟨a'_12, f'_13, c'_14, rfl, rfl, hxa3, hf3⟩ := hRR
  have hX_15 := zX_tr hX_10 hxa3
  have hX_15e := zX_cap hxa3 (hX_10).2.2.1.1
  have hX_151 := (hxa3).2.1; have hX_152 := (hX_10).2.1; have hX_153 := (hX_15).1; have hX_154 := (hX_15).2.2.1.2.1
  refine W.widen (k := (c'_14 - ct)) (n := 2 * ((c'_14 - ct))) (by omega) (by omega) ?_
  clear qr_11 hX_15e hX_151 hX_152 hX_153 hX_154
  have B : zB D (zT cI cZ cG cJ) A s.heap s [(fo, .inr (2, [.ref mo, .int (nI pv), .int (nI va), .int (nI fh), .int (nI fs), .int (nI fk), .ref lo, .ref so, .ref to])), (to, .inr (6, [.ref a'_12, .int (nI (((nt + 1) + 1) + 1))])), (a'_12, .inl (cI, c'_14, .inl f'_13))] _ _ := B
  refine W.eq (g2 := F0 m 24 ls []) rfl ?_
  have qe_16 := zX_rm hX_15 (n' := ((nt + 1) + 1) + 1) (N := nt + 3) (Nat.le_refl _) (by omega)
  exact z_vret F hr hlk B [0, 1, 2] rfl (rfl) dX0_addThree_24 (by omega) (by omega) ⟨a'_12, c'_14, f'_13, rfl, rfl, hX_15, (by simpa [List.append_assoc] using hf3)⟩
theorem yX0_splitClause_X0_literalOf : yX0_literalOf.cls = RX0 ∧ yX0_literalOf.cls ≠ "java/lang/invoke/MethodHandle" ∧ yX0_literalOf.cls ≠ "java/lang/invoke/VarHandle" ∧ (parseMethodDescriptor yX0_literalOf.desc).map (fun d => d.parameters.length) = some 2 := by decide +kernel
theorem iX0_splitClause_X0 : ∀ w ∈ u_ws RX0 TX0 9, w ∈ wsX0_splitClause := by decide +kernel
theorem fX0_splitClause_158 : Cond.fieldLink RX0 158 "TourChain$Formula" "variables" "I" ∈ wsX0_splitClause := by decide +kernel
theorem nX0_splitClause_X7_yes : Cond.methodLinkNest RX0 104 yX7_yes RX7 ∈ zNW := by decide +kernel
theorem mX0_splitClause_stX7_yes : Cond.static yX7_yes ∈ wsX0_splitClause := by decide +kernel
theorem mX0_splitClause_iyX7_yes : Cond.initialized yX7_yes.cls ∈ wsX0_splitClause := by decide +kernel
theorem yX0_splitClause_X7_yes : yX7_yes.cls ≠ "java/lang/invoke/MethodHandle" ∧ yX7_yes.cls ≠ "java/lang/invoke/VarHandle" ∧ (parseMethodDescriptor yX7_yes.desc).map (fun d => d.parameters.length) = some 1 := by decide +kernel
theorem yX0_splitClause_X0_addThree : yX0_addThree.cls = RX0 ∧ yX0_addThree.cls ≠ "java/lang/invoke/MethodHandle" ∧ yX0_addThree.cls ≠ "java/lang/invoke/VarHandle" ∧ (parseMethodDescriptor yX0_addThree.desc).map (fun d => d.parameters.length) = some 3 := by decide +kernel
theorem nX0_splitClause_X7_no : Cond.methodLinkNest RX0 128 yX7_no RX7 ∈ zNW := by decide +kernel
theorem mX0_splitClause_stX7_no : Cond.static yX7_no ∈ wsX0_splitClause := by decide +kernel
theorem mX0_splitClause_iyX7_no : Cond.initialized yX7_no.cls ∈ wsX0_splitClause := by decide +kernel
theorem yX0_splitClause_X7_no : yX7_no.cls ≠ "java/lang/invoke/MethodHandle" ∧ yX7_no.cls ≠ "java/lang/invoke/VarHandle" ∧ (parseMethodDescriptor yX7_no.desc).map (fun d => d.parameters.length) = some 1 := by decide +kernel
set_option maxHeartbeats 4000000 in
set_option maxRecDepth 100000 in
theorem kX0_splitClause (l : Launch) (D : va_G) (cI cZ cG cJ : ClassId) (fo : Nat) (mo : Nat) (pv : Nat) (va : Nat) (fh : Nat) (fs : Nat) (fk : Nat) (lo : Nat) (so : Nat) (to : Nat) (la : Nat) (nl : Nat) (cl : Nat) (fl : Nat → Int32) (sa : Nat) (ns : Nat) (cs : Nat) (ft : Nat → Int32) (Cs : List (List Nat)) (tw : Nat) (nt : Nat) (ct : Nat) (f3 : Nat → Int32) (L3 : List Nat) (j : Nat) (n : Nat) (hF : zF fl nl ft ns Cs) (hwl : zW nl cl) (hws : zW ns cs) (hR : zR f3 nt L3) (hwt : zW nt ct) (hj : j < Cs.length) (hn : n = zlen Cs j) (hn4 : 4 ≤ n) (hn5 : n ≤ 1000) (hb : nt + 3 * (n - 2) ≤ 8192) : zC l yX0_splitClause wsX0_splitClause 4 106 (zcap (nt + 3 * (n - 2)) ct - ct) (2 * ((zcap (nt + 3 * (n - 2)) ct - ct))) D (zT cI cZ cG cJ) [.ref fo, .int (nI j), .int (nI n)] [(fo, .inr (2, [.ref mo, .int (nI pv), .int (nI va), .int (nI fh), .int (nI fs), .int (nI fk), .ref lo, .ref so, .ref to])), (lo, .inr (6, [.ref la, .int (nI nl)])), (la, .inl (cI, cl, .inl fl)), (so, .inr (6, [.ref sa, .int (nI ns)])), (sa, .inl (cI, cs, .inl ft)), (to, .inr (6, [.ref tw, .int (nI nt)])), (tw, .inl (cI, ct, .inl f3))] (fun (v : Option Value) (w : va_W) => ∃ tw' : Nat, ∃ ct' : Nat, ∃ f3' : Nat → Int32, v = none ∧ w = [(fo, .inr (2, [.ref mo, .int (nI pv), .int (nI (va + (n - 3))), .int (nI fh), .int (nI fs), .int (nI fk), .ref lo, .ref so, .ref to])), (lo, .inr (6, [.ref la, .int (nI nl)])), (la, .inl (cI, cl, .inl fl)), (so, .inr (6, [.ref sa, .int (nI ns)])), (sa, .inl (cI, cs, .inl ft)), (to, .inr (6, [.ref tw', .int (nI (nt + 3 * (n - 2)))])), (tw', .inl (cI, ct', .inl f3'))] ∧ zX nt ct (nt + 3 * (n - 2)) ct' ∧ zR f3' (nt + 3 * (n - 2)) (L3 ++ zsp va (Cs.getD j []))) := by
  refine zC.of (cc := cX0_splitClause) (maxL := 4) (ret := none) (by decide) rfl (Nat.le_of_ble_eq_true rfl) ?_
  intro p e s m below meth c A ls F hr hlk hnm B hl
  have hl : lv_has ls 4 [(0, .ref fo), (1, .int (nI j)), (2, .int (nI n))] := hl
  refine lv_aload_n F.1 F.2.1 dX0_splitClause_0 rfl (lv_at hl 0 rfl) ?_
  refine lv_aload_n F.1 F.2.1 dX0_splitClause_1 rfl (lv_at hl 0 rfl) ?_
  refine lv_iload_n F.1 F.2.1 dX0_splitClause_2 rfl (lv_at hl 1 rfl) ?_
  refine lv_iconst (v := (nI 0)) F.1 F.2.1 dX0_splitClause_3 (by decide) ?_
  have qr_1 := zX_rm (zX_rf hwt) (n' := nt) (N := nt + 3 * (n - 2)) (by omega) (by omega)
  refine z_callV (wr := [(to, .inr (6, [.ref tw, .int (nI nt)])), (tw, .inl (cI, ct, .inl f3))]) (rest := [.ref fo]) (As := [.int (nI j), .int (nI 0)]) F B (kX0_literalOf l D cI cZ cG cJ fo mo pv va fh fs fk lo so to la nl cl fl sa ns cs ft Cs j 0 (hF) (hwl) (hws) (hj) (by omega)) hl.1 (C := RX0) (T := TX0) (N := 9) (ci := 2) (q0 := 0) gX0_splitClause_X0_literalOf rfl 2 yX0_splitClause_X0_literalOf rfl rfl rfl [0, 1, 2, 3, 4] [5, 6] rfl rfl rfl rfl (by decide) (Nat.le_of_ble_eq_true rfl) (Nat.le_of_ble_eq_true rfl) (Nat.le_of_ble_eq_true rfl) rfl dX0_splitClause_4 (show 0 + 0 ≤ (zcap (nt + 3 * (n - 2)) ct - ct) by omega) (show 0 + 0 ≤ 2 * ((zcap (nt + 3 * (n - 2)) ct - ct)) by omega) (fun vv ww H locs hRR B => ?_)
  obtain ⟨rfl, rfl⟩ := hRR
  clear qr_1
  have B : zB D (zT cI cZ cG cJ) A s.heap s [(to, .inr (6, [.ref tw, .int (nI nt)])), (tw, .inl (cI, ct, .inl f3)), (fo, .inr (2, [.ref mo, .int (nI pv), .int (nI va), .int (nI fh), .int (nI fs), .int (nI fk), .ref lo, .ref so, .ref to])), (lo, .inr (6, [.ref la, .int (nI nl)])), (la, .inl (cI, cl, .inl fl)), (so, .inr (6, [.ref sa, .int (nI ns)])), (sa, .inl (cI, cs, .inl ft))] _ _ := B
  refine W.eq (g2 := F0 m 7 ls [.int (nI (zlit Cs j 0)), .ref fo]) rfl ?_
  refine lv_aload_n F.1 F.2.1 dX0_splitClause_7 rfl (lv_at hl 0 rfl) ?_
  refine lv_iload_n F.1 F.2.1 dX0_splitClause_8 rfl (lv_at hl 1 rfl) ?_
  refine lv_iconst (v := (nI 1)) F.1 F.2.1 dX0_splitClause_9 (by decide) ?_
  have qr_2 := zX_rm (zX_rf hwt) (n' := nt) (N := nt + 3 * (n - 2)) (by omega) (by omega)
  refine z_callV (wr := [(to, .inr (6, [.ref tw, .int (nI nt)])), (tw, .inl (cI, ct, .inl f3))]) (rest := [.int (nI (zlit Cs j 0)), .ref fo]) (As := [.int (nI j), .int (nI 1)]) F B (kX0_literalOf l D cI cZ cG cJ fo mo pv va fh fs fk lo so to la nl cl fl sa ns cs ft Cs j 1 (hF) (hwl) (hws) (hj) (by omega)) hl.1 (C := RX0) (T := TX0) (N := 9) (ci := 2) (q0 := 2) gX0_splitClause_X0_literalOf rfl 2 yX0_splitClause_X0_literalOf rfl rfl rfl [2, 3, 4, 5, 6] [0, 1] rfl rfl rfl rfl (by decide) (Nat.le_of_ble_eq_true rfl) (Nat.le_of_ble_eq_true rfl) (Nat.le_of_ble_eq_true rfl) rfl dX0_splitClause_10 (show 0 + 0 ≤ (zcap (nt + 3 * (n - 2)) ct - ct) by omega) (show 0 + 0 ≤ 2 * ((zcap (nt + 3 * (n - 2)) ct - ct)) by omega) (fun vv ww H locs hRR B => ?_)
  obtain ⟨rfl, rfl⟩ := hRR
  clear qr_2
  have B : zB D (zT cI cZ cG cJ) A s.heap s [(to, .inr (6, [.ref tw, .int (nI nt)])), (tw, .inl (cI, ct, .inl f3)), (fo, .inr (2, [.ref mo, .int (nI pv), .int (nI va), .int (nI fh), .int (nI fs), .int (nI fk), .ref lo, .ref so, .ref to])), (lo, .inr (6, [.ref la, .int (nI nl)])), (la, .inl (cI, cl, .inl fl)), (so, .inr (6, [.ref sa, .int (nI ns)])), (sa, .inl (cI, cs, .inl ft))] _ _ := B
  refine W.eq (g2 := F0 m 13 ls [.int (nI (zlit Cs j 1)), .int (nI (zlit Cs j 0)), .ref fo]) rfl ?_
  refine lv_aload_n F.1 F.2.1 dX0_splitClause_13 rfl (lv_at hl 0 rfl) ?_
  refine z_get F B 2 rfl (ci := 2) (C := RX0) (T := TX0) (N := 9) rfl iX0_splitClause_X0 2 (by decide) fX0_splitClause_158 rfl dX0_splitClause_14 ?_
  have qr_3 := zX_rm (zX_rf hwt) (n' := nt) (N := nt + 3 * (n - 2)) (by omega) (by omega)
  refine z_callSN (wr := [(to, .inr (6, [.ref tw, .int (nI nt)])), (tw, .inl (cI, ct, .inl f3)), (fo, .inr (2, [.ref mo, .int (nI pv), .int (nI va), .int (nI fh), .int (nI fs), .int (nI fk), .ref lo, .ref so, .ref to])), (lo, .inr (6, [.ref la, .int (nI nl)])), (la, .inl (cI, cl, .inl fl)), (so, .inr (6, [.ref sa, .int (nI ns)])), (sa, .inl (cI, cs, .inl ft))]) (rest := [.int (nI (zlit Cs j 1)), .int (nI (zlit Cs j 0)), .ref fo]) (As := [.int (nI va)]) (host := RX7) F B (kX7_yes l D cI cZ cG cJ va) hl.1 gX0_splitClause_X7_yes_n104 nX0_splitClause_X7_yes mX0_splitClause_stX7_yes mX0_splitClause_iyX7_yes rfl 1 yX0_splitClause_X7_yes rfl [] [0, 1, 2, 3, 4, 5, 6] rfl rfl rfl rfl (by decide) (Nat.le_of_ble_eq_true rfl) (Nat.le_of_ble_eq_true rfl) (Nat.le_of_ble_eq_true rfl) rfl dX0_splitClause_17 (show 0 + 0 ≤ (zcap (nt + 3 * (n - 2)) ct - ct) by omega) (show 0 + 0 ≤ 2 * ((zcap (nt + 3 * (n - 2)) ct - ct)) by omega) (fun vv ww H locs hRR B => ?_)
  obtain ⟨rfl, rfl⟩ := hRR
  clear qr_3
  have B : zB D (zT cI cZ cG cJ) A s.heap s [(to, .inr (6, [.ref tw, .int (nI nt)])), (tw, .inl (cI, ct, .inl f3)), (fo, .inr (2, [.ref mo, .int (nI pv), .int (nI va), .int (nI fh), .int (nI fs), .int (nI fk), .ref lo, .ref so, .ref to])), (lo, .inr (6, [.ref la, .int (nI nl)])), (la, .inl (cI, cl, .inl fl)), (so, .inr (6, [.ref sa, .int (nI ns)])), (sa, .inl (cI, cs, .inl ft))] _ _ := B
  refine W.eq (g2 := F0 m 20 ls [.int (nI (2 * va)), .int (nI (zlit Cs j 1)), .int (nI (zlit Cs j 0)), .ref fo]) rfl ?_
  have qr_4 := zX_rm (zX_rf hwt) (n' := nt + 3) (N := nt + 3 * (n - 2)) (by omega) (by omega)
  refine z_callV (wr := [(lo, .inr (6, [.ref la, .int (nI nl)])), (la, .inl (cI, cl, .inl fl)), (so, .inr (6, [.ref sa, .int (nI ns)])), (sa, .inl (cI, cs, .inl ft))]) (rest := []) (As := [.int (nI (zlit Cs j 0)), .int (nI (zlit Cs j 1)), .int (nI (2 * va))]) F B (kX0_addThree l D cI cZ cG cJ fo mo pv va fh fs fk lo so to tw nt ct f3 L3 (zlit Cs j 0) (zlit Cs j 1) (2 * va) (hR) (hwt) (by omega)) hl.1 (C := RX0) (T := TX0) (N := 9) (ci := 2) (q0 := 2) gX0_splitClause_X0_addThree rfl 3 yX0_splitClause_X0_addThree rfl rfl rfl [2, 0, 1] [3, 4, 5, 6] rfl rfl rfl rfl (by decide) (Nat.le_of_ble_eq_true rfl) (Nat.le_of_ble_eq_true rfl) (Nat.le_of_ble_eq_true rfl) rfl dX0_splitClause_20 (show 0 + (zcap (nt + 3) ct - ct) ≤ (zcap (nt + 3 * (n - 2)) ct - ct) by omega) (show 0 + (2 * ((zcap (nt + 3) ct - ct))) ≤ 2 * ((zcap (nt + 3 * (n - 2)) ct - ct)) by omega) (fun vv ww H locs hRR B => ?_)
  obtain ⟨tw'_5, ct'_6, f3'_7, rfl, rfl, hxt'_8, hRa⟩ := hRR
  have hX_9 := zX_tr (zX_rf hwt) hxt'_8
  have hX_9e := zX_cap hxt'_8 ((zX_rf hwt)).2.2.1.1
  have hX_91 := (hxt'_8).2.1; have hX_92 := ((zX_rf hwt)).2.1; have hX_93 := (hX_9).1; have hX_94 := (hX_9).2.2.1.2.1
  refine W.widen (k := (ct'_6 - ct)) (n := 2 * ((ct'_6 - ct))) (by omega) (by omega) ?_
  clear qr_4 hX_9e hX_91 hX_92 hX_93 hX_94
  have B : zB D (zT cI cZ cG cJ) A s.heap s [(lo, .inr (6, [.ref la, .int (nI nl)])), (la, .inl (cI, cl, .inl fl)), (so, .inr (6, [.ref sa, .int (nI ns)])), (sa, .inl (cI, cs, .inl ft)), (fo, .inr (2, [.ref mo, .int (nI pv), .int (nI va), .int (nI fh), .int (nI fs), .int (nI fk), .ref lo, .ref so, .ref to])), (to, .inr (6, [.ref tw'_5, .int (nI (nt + 3))])), (tw'_5, .inl (cI, ct'_6, .inl f3'_7))] _ _ := B
  refine W.eq (g2 := F0 m 23 ls []) rfl ?_
  refine lv_iconst (v := (nI 2)) F.1 F.2.1 dX0_splitClause_23 (by decide) ?_
  refine lv_istore_n (lv' := [(3, .int (nI 2)), (0, .ref fo), (1, .int (nI j)), (2, .int (nI n))]) F.1 F.2.1 dX0_splitClause_24 rfl hl (by decide) rfl (fun ls hl => ?_)
  have loop25 : ∀ (fuel : Nat) (i : Nat) (tw1 : Nat) (nt1 : Nat) (ct1 : Nat) (f31 : Nat → Int32), n - i < fuel → i ≤ n - 4 → nt1 = nt + 3 + 3 * i → zR f31 nt1 (L3 ++ ([zlit Cs j 0, zlit Cs j 1, 2 * va] ++ (List.range i).flatMap (zsp1 va (Cs.getD j [])))) → zX nt ct nt1 ct1 → ∀ (H : Heap) (locs : List Loc) (ls : Array Slot), zB D (zT cI cZ cG cJ) A s.heap s [(fo, .inr (2, [.ref mo, .int (nI pv), .int (nI (va + i)), .int (nI fh), .int (nI fs), .int (nI fk), .ref lo, .ref so, .ref to])), (lo, .inr (6, [.ref la, .int (nI nl)])), (la, .inl (cI, cl, .inl fl)), (so, .inr (6, [.ref sa, .int (nI ns)])), (sa, .inl (cI, cs, .inl ft)), (to, .inr (6, [.ref tw1, .int (nI nt1)])), (tw1, .inl (cI, ct1, .inl f31))] H locs → lv_has ls 4 [(0, .ref fo), (1, .int (nI j)), (2, .int (nI n)), (3, .int (nI (2 + i)))] → W p l e { frames := 4, cells := (zcap (nt + 3 * (n - 2)) ct - ct), slots := 2 * ((zcap (nt + 3 * (n - 2)) ct - ct)), locals := 106 } s m [.ref fo, .int (nI j), .int (nI n)].toArray below meth c H locs (ct1 - ct) (2 * ((ct1 - ct))) (zQ below [.ref fo, .int (nI j), .int (nI n)].toArray s D (zT cI cZ cG cJ) A (fun (v : Option Value) (w : va_W) => ∃ tw' : Nat, ∃ ct' : Nat, ∃ f3' : Nat → Int32, v = none ∧ w = [(fo, .inr (2, [.ref mo, .int (nI pv), .int (nI (va + (n - 3))), .int (nI fh), .int (nI fs), .int (nI fk), .ref lo, .ref so, .ref to])), (lo, .inr (6, [.ref la, .int (nI nl)])), (la, .inl (cI, cl, .inl fl)), (so, .inr (6, [.ref sa, .int (nI ns)])), (sa, .inl (cI, cs, .inl ft)), (to, .inr (6, [.ref tw', .int (nI (nt + 3 * (n - 2)))])), (tw', .inl (cI, ct', .inl f3'))] ∧ zX nt ct (nt + 3 * (n - 2)) ct' ∧ zR f3' (nt + 3 * (n - 2)) (L3 ++ zsp va (Cs.getD j []))) (zcap (nt + 3 * (n - 2)) ct - ct) (2 * ((zcap (nt + 3 * (n - 2)) ct - ct)))) (F0 m 25 ls []) := by
    intro fuel
    induction fuel with
    | zero => intro i tw1 nt1 ct1 f31 hmz; exact absurd hmz (Nat.not_lt_zero _)
    | succ fuel ih =>
      intro i tw1 nt1 ct1 f31 hm hi hnt hR1 hxt1 H locs ls B hl
      have ih25 := ih
      have hxt11 := (hxt1).2.1; have hxt12 := (hxt1).1; have hxt13 := (hxt1).2.2.1.2.1
      refine lv_iload_n F.1 F.2.1 dX0_splitClause_25 rfl (lv_at hl 3 rfl) ?_
      refine lv_iload_n F.1 F.2.1 dX0_splitClause_26 rfl (lv_at hl 2 rfl) ?_
      refine lv_iconst (v := (nI 2)) F.1 F.2.1 dX0_splitClause_27 (by decide) ?_
      refine z_isub F (by omega) dX0_splitClause_28 ?_
      refine z_icmp_ge (tgt := 74) F (by omega) (by omega) dX0_splitClause_29 (by decide) (fun c29 => ?_) (fun c29 => ?_)
      · have hin : i = n - 4 := by omega
        subst hin
        subst hnt
        refine lv_aload_n F.1 F.2.1 dX0_splitClause_74 rfl (lv_at hl 0 rfl) ?_
        refine lv_aload_n F.1 F.2.1 dX0_splitClause_75 rfl (lv_at hl 0 rfl) ?_
        refine z_get F B 0 rfl (ci := 2) (C := RX0) (T := TX0) (N := 9) rfl iX0_splitClause_X0 2 (by decide) fX0_splitClause_158 rfl dX0_splitClause_76 ?_
        have qr_10 := zX_rm hxt1 (n' := (nt + 3 + 3 * (n - 4))) (N := nt + 3 * (n - 2)) (by omega) (by omega)
        refine z_callSN (wr := [(fo, .inr (2, [.ref mo, .int (nI pv), .int (nI (va + (n - 4))), .int (nI fh), .int (nI fs), .int (nI fk), .ref lo, .ref so, .ref to])), (lo, .inr (6, [.ref la, .int (nI nl)])), (la, .inl (cI, cl, .inl fl)), (so, .inr (6, [.ref sa, .int (nI ns)])), (sa, .inl (cI, cs, .inl ft)), (to, .inr (6, [.ref tw1, .int (nI (nt + 3 + 3 * (n - 4)))])), (tw1, .inl (cI, ct1, .inl f31))]) (rest := [.ref fo]) (As := [.int (nI (va + (n - 4)))]) (host := RX7) F B (kX7_no l D cI cZ cG cJ (va + (n - 4))) hl.1 gX0_splitClause_X7_no_n128 nX0_splitClause_X7_no mX0_splitClause_stX7_no mX0_splitClause_iyX7_no rfl 1 yX0_splitClause_X7_no rfl [] [0, 1, 2, 3, 4, 5, 6] rfl rfl rfl rfl (by decide) (Nat.le_of_ble_eq_true rfl) (Nat.le_of_ble_eq_true rfl) (Nat.le_of_ble_eq_true rfl) rfl dX0_splitClause_79 (show (ct1 - ct) + 0 ≤ (zcap (nt + 3 * (n - 2)) ct - ct) by omega) (show 2 * ((ct1 - ct)) + 0 ≤ 2 * ((zcap (nt + 3 * (n - 2)) ct - ct)) by omega) (fun vv ww H locs hRR B => ?_)
        obtain ⟨rfl, rfl⟩ := hRR
        clear qr_10
        have B : zB D (zT cI cZ cG cJ) A s.heap s [(fo, .inr (2, [.ref mo, .int (nI pv), .int (nI (va + (n - 4))), .int (nI fh), .int (nI fs), .int (nI fk), .ref lo, .ref so, .ref to])), (lo, .inr (6, [.ref la, .int (nI nl)])), (la, .inl (cI, cl, .inl fl)), (so, .inr (6, [.ref sa, .int (nI ns)])), (sa, .inl (cI, cs, .inl ft)), (to, .inr (6, [.ref tw1, .int (nI (nt + 3 + 3 * (n - 4)))])), (tw1, .inl (cI, ct1, .inl f31))] _ _ := B
        refine W.eq (g2 := F0 m 82 ls [.int (nI (2 * (va + (n - 4)) + 1)), .ref fo]) rfl ?_
        refine lv_aload_n F.1 F.2.1 dX0_splitClause_82 rfl (lv_at hl 0 rfl) ?_
        refine lv_iload_n F.1 F.2.1 dX0_splitClause_83 rfl (lv_at hl 1 rfl) ?_
        refine lv_iload_n F.1 F.2.1 dX0_splitClause_84 rfl (lv_at hl 2 rfl) ?_
        refine lv_iconst (v := (nI 2)) F.1 F.2.1 dX0_splitClause_85 (by decide) ?_
        refine z_isub F (by omega) dX0_splitClause_86 ?_
        have qr_11 := zX_rm hxt1 (n' := (nt + 3 + 3 * (n - 4))) (N := nt + 3 * (n - 2)) (by omega) (by omega)
        refine z_callV (wr := [(to, .inr (6, [.ref tw1, .int (nI (nt + 3 + 3 * (n - 4)))])), (tw1, .inl (cI, ct1, .inl f31))]) (rest := [.int (nI (2 * (va + (n - 4)) + 1)), .ref fo]) (As := [.int (nI j), .int (nI (n - 2))]) F B (kX0_literalOf l D cI cZ cG cJ fo mo pv (va + (n - 4)) fh fs fk lo so to la nl cl fl sa ns cs ft Cs j (n - 2) (hF) (hwl) (hws) (hj) (by omega)) hl.1 (C := RX0) (T := TX0) (N := 9) (ci := 2) (q0 := 0) gX0_splitClause_X0_literalOf rfl 2 yX0_splitClause_X0_literalOf rfl rfl rfl [0, 1, 2, 3, 4] [5, 6] rfl rfl rfl rfl (by decide) (Nat.le_of_ble_eq_true rfl) (Nat.le_of_ble_eq_true rfl) (Nat.le_of_ble_eq_true rfl) rfl dX0_splitClause_87 (show (ct1 - ct) + 0 + 0 ≤ (zcap (nt + 3 * (n - 2)) ct - ct) by omega) (show 2 * ((ct1 - ct)) + 0 + 0 ≤ 2 * ((zcap (nt + 3 * (n - 2)) ct - ct)) by omega) (fun vv ww H locs hRR B => ?_)
        obtain ⟨rfl, rfl⟩ := hRR
        clear qr_11
        have B : zB D (zT cI cZ cG cJ) A s.heap s [(to, .inr (6, [.ref tw1, .int (nI (nt + 3 + 3 * (n - 4)))])), (tw1, .inl (cI, ct1, .inl f31)), (fo, .inr (2, [.ref mo, .int (nI pv), .int (nI (va + (n - 4))), .int (nI fh), .int (nI fs), .int (nI fk), .ref lo, .ref so, .ref to])), (lo, .inr (6, [.ref la, .int (nI nl)])), (la, .inl (cI, cl, .inl fl)), (so, .inr (6, [.ref sa, .int (nI ns)])), (sa, .inl (cI, cs, .inl ft))] _ _ := B
        refine W.eq (g2 := F0 m 90 ls [.int (nI (zlit Cs j (n - 2))), .int (nI (2 * (va + (n - 4)) + 1)), .ref fo]) rfl ?_
        refine lv_aload_n F.1 F.2.1 dX0_splitClause_90 rfl (lv_at hl 0 rfl) ?_
        refine lv_iload_n F.1 F.2.1 dX0_splitClause_91 rfl (lv_at hl 1 rfl) ?_
        refine lv_iload_n F.1 F.2.1 dX0_splitClause_92 rfl (lv_at hl 2 rfl) ?_
        refine lv_iconst (v := (nI 1)) F.1 F.2.1 dX0_splitClause_93 (by decide) ?_
        refine z_isub F (by omega) dX0_splitClause_94 ?_
        have qr_12 := zX_rm hxt1 (n' := (nt + 3 + 3 * (n - 4))) (N := nt + 3 * (n - 2)) (by omega) (by omega)
        refine z_callV (wr := [(to, .inr (6, [.ref tw1, .int (nI (nt + 3 + 3 * (n - 4)))])), (tw1, .inl (cI, ct1, .inl f31))]) (rest := [.int (nI (zlit Cs j (n - 2))), .int (nI (2 * (va + (n - 4)) + 1)), .ref fo]) (As := [.int (nI j), .int (nI (n - 1))]) F B (kX0_literalOf l D cI cZ cG cJ fo mo pv (va + (n - 4)) fh fs fk lo so to la nl cl fl sa ns cs ft Cs j (n - 1) (hF) (hwl) (hws) (hj) (by omega)) hl.1 (C := RX0) (T := TX0) (N := 9) (ci := 2) (q0 := 2) gX0_splitClause_X0_literalOf rfl 2 yX0_splitClause_X0_literalOf rfl rfl rfl [2, 3, 4, 5, 6] [0, 1] rfl rfl rfl rfl (by decide) (Nat.le_of_ble_eq_true rfl) (Nat.le_of_ble_eq_true rfl) (Nat.le_of_ble_eq_true rfl) rfl dX0_splitClause_95 (show (ct1 - ct) + 0 + 0 + 0 ≤ (zcap (nt + 3 * (n - 2)) ct - ct) by omega) (show 2 * ((ct1 - ct)) + 0 + 0 + 0 ≤ 2 * ((zcap (nt + 3 * (n - 2)) ct - ct)) by omega) (fun vv ww H locs hRR B => ?_)
        obtain ⟨rfl, rfl⟩ := hRR
        clear qr_12
        have B : zB D (zT cI cZ cG cJ) A s.heap s [(to, .inr (6, [.ref tw1, .int (nI (nt + 3 + 3 * (n - 4)))])), (tw1, .inl (cI, ct1, .inl f31)), (fo, .inr (2, [.ref mo, .int (nI pv), .int (nI (va + (n - 4))), .int (nI fh), .int (nI fs), .int (nI fk), .ref lo, .ref so, .ref to])), (lo, .inr (6, [.ref la, .int (nI nl)])), (la, .inl (cI, cl, .inl fl)), (so, .inr (6, [.ref sa, .int (nI ns)])), (sa, .inl (cI, cs, .inl ft))] _ _ := B
        refine W.eq (g2 := F0 m 98 ls [.int (nI (zlit Cs j (n - 1))), .int (nI (zlit Cs j (n - 2))), .int (nI (2 * (va + (n - 4)) + 1)), .ref fo]) rfl ?_
        have qr_13 := zX_rm hxt1 (n' := (nt + 3 + 3 * (n - 4)) + 3) (N := nt + 3 * (n - 2)) (by omega) (by omega)
        refine z_callV (wr := [(lo, .inr (6, [.ref la, .int (nI nl)])), (la, .inl (cI, cl, .inl fl)), (so, .inr (6, [.ref sa, .int (nI ns)])), (sa, .inl (cI, cs, .inl ft))]) (rest := []) (As := [.int (nI (2 * (va + (n - 4)) + 1)), .int (nI (zlit Cs j (n - 2))), .int (nI (zlit Cs j (n - 1)))]) F B (kX0_addThree l D cI cZ cG cJ fo mo pv (va + (n - 4)) fh fs fk lo so to tw1 (nt + 3 + 3 * (n - 4)) ct1 f31 (L3 ++ ([zlit Cs j 0, zlit Cs j 1, 2 * va] ++ (List.range (n - 4)).flatMap (zsp1 va (Cs.getD j [])))) (2 * (va + (n - 4)) + 1) (zlit Cs j (n - 2)) (zlit Cs j (n - 1)) (hR1) (hxt1.2.2.1) (by omega)) hl.1 (C := RX0) (T := TX0) (N := 9) (ci := 2) (q0 := 2) gX0_splitClause_X0_addThree rfl 3 yX0_splitClause_X0_addThree rfl rfl rfl [2, 0, 1] [3, 4, 5, 6] rfl rfl rfl rfl (by decide) (Nat.le_of_ble_eq_true rfl) (Nat.le_of_ble_eq_true rfl) (Nat.le_of_ble_eq_true rfl) rfl dX0_splitClause_98 (show (ct1 - ct) + 0 + 0 + 0 + (zcap ((nt + 3 + 3 * (n - 4)) + 3) ct1 - ct1) ≤ (zcap (nt + 3 * (n - 2)) ct - ct) by omega) (show 2 * ((ct1 - ct)) + 0 + 0 + 0 + (2 * ((zcap ((nt + 3 + 3 * (n - 4)) + 3) ct1 - ct1))) ≤ 2 * ((zcap (nt + 3 * (n - 2)) ct - ct)) by omega) (fun vv ww H locs hRR B => ?_)
        obtain ⟨tw'_14, ct'_15, f3'_16, rfl, rfl, hxt'_17, hRc⟩ := hRR
        have hX_18 := zX_tr hxt1 hxt'_17
        have hX_18e := zX_cap hxt'_17 (hxt1).2.2.1.1
        have hX_181 := (hxt'_17).2.1; have hX_182 := (hxt1).2.1; have hX_183 := (hX_18).1; have hX_184 := (hX_18).2.2.1.2.1
        refine W.widen (k := (ct'_15 - ct)) (n := 2 * ((ct'_15 - ct))) (by omega) (by omega) ?_
        clear qr_13 hX_18e hX_181 hX_182 hX_183 hX_184
        have B : zB D (zT cI cZ cG cJ) A s.heap s [(lo, .inr (6, [.ref la, .int (nI nl)])), (la, .inl (cI, cl, .inl fl)), (so, .inr (6, [.ref sa, .int (nI ns)])), (sa, .inl (cI, cs, .inl ft)), (fo, .inr (2, [.ref mo, .int (nI pv), .int (nI (va + (n - 4))), .int (nI fh), .int (nI fs), .int (nI fk), .ref lo, .ref so, .ref to])), (to, .inr (6, [.ref tw'_14, .int (nI ((nt + 3 + 3 * (n - 4)) + 3))])), (tw'_14, .inl (cI, ct'_15, .inl f3'_16))] _ _ := B
        refine W.eq (g2 := F0 m 101 ls []) rfl ?_
        refine lv_aload_n F.1 F.2.1 dX0_splitClause_101 rfl (lv_at hl 0 rfl) ?_
        refine lv_dup F.1 F.2.1 dX0_splitClause_102 rfl ?_
        refine z_get F B 4 rfl (ci := 2) (C := RX0) (T := TX0) (N := 9) rfl iX0_splitClause_X0 2 (by decide) fX0_splitClause_158 rfl dX0_splitClause_103 ?_
        refine lv_iconst (v := (nI 1)) F.1 F.2.1 dX0_splitClause_106 (by decide) ?_
        refine z_iadd F dX0_splitClause_107 ?_
        refine z_put F B 4 rfl (ci := 2) (C := RX0) (T := TX0) (N := 9) rfl iX0_splitClause_X0 tyX0 tyX0_ok nmX0 2 (by decide) fX0_splitClause_158 rfl (v := .int (nI ((va + (n - 4)) + 1))) rfl rfl (Nat.le_of_ble_eq_true rfl) dX0_splitClause_108 (fun H locs B => ?_)
        have B : zB D (zT cI cZ cG cJ) A s.heap s [(lo, .inr (6, [.ref la, .int (nI nl)])), (la, .inl (cI, cl, .inl fl)), (so, .inr (6, [.ref sa, .int (nI ns)])), (sa, .inl (cI, cs, .inl ft)), (fo, .inr (2, [.ref mo, .int (nI pv), .int (nI ((va + (n - 4)) + 1)), .int (nI fh), .int (nI fs), .int (nI fk), .ref lo, .ref so, .ref to])), (to, .inr (6, [.ref tw'_14, .int (nI ((nt + 3 + 3 * (n - 4)) + 3))])), (tw'_14, .inl (cI, ct'_15, .inl f3'_16))] _ _ := B
        have qe_19 := zX_rm hX_18 (n' := (nt + 3 + 3 * (n - 4)) + 3) (N := nt + 3 * (n - 2)) (Nat.le_refl _) (by omega)
        exact z_vret F hr hlk B [4, 0, 1, 2, 3, 5, 6] rfl (by rw [show nt + 3 * (n - 2) = nt + 3 + 3 * (n - 4) + 3 by omega, show va + (n - 3) = va + (n - 4) + 1 by omega]; rfl) dX0_splitClause_111 (by omega) (by omega) ⟨tw'_14, ct'_15, f3'_16, rfl, rfl, (by rw [show nt + 3 * (n - 2) = nt + 3 + 3 * (n - 4) + 3 by omega]; exact hX_18), (by rw [show nt + 3 * (n - 2) = nt + 3 + 3 * (n - 4) + 3 by omega]; have hz9 := hRc; unfold zsp; rw [show (Cs.getD j []).length = n from hn.symm]; simp only [List.append_assoc] at hz9 ⊢; exact hz9)⟩
      · refine lv_aload_n F.1 F.2.1 dX0_splitClause_32 rfl (lv_at hl 0 rfl) ?_
        refine lv_aload_n F.1 F.2.1 dX0_splitClause_33 rfl (lv_at hl 0 rfl) ?_
        refine z_get F B 0 rfl (ci := 2) (C := RX0) (T := TX0) (N := 9) rfl iX0_splitClause_X0 2 (by decide) fX0_splitClause_158 rfl dX0_splitClause_34 ?_
        have qr_20 := zX_rm hxt1 (n' := nt1) (N := nt + 3 * (n - 2)) (by omega) (by omega)
        refine z_callSN (wr := [(fo, .inr (2, [.ref mo, .int (nI pv), .int (nI (va + i)), .int (nI fh), .int (nI fs), .int (nI fk), .ref lo, .ref so, .ref to])), (lo, .inr (6, [.ref la, .int (nI nl)])), (la, .inl (cI, cl, .inl fl)), (so, .inr (6, [.ref sa, .int (nI ns)])), (sa, .inl (cI, cs, .inl ft)), (to, .inr (6, [.ref tw1, .int (nI nt1)])), (tw1, .inl (cI, ct1, .inl f31))]) (rest := [.ref fo]) (As := [.int (nI (va + i))]) (host := RX7) F B (kX7_no l D cI cZ cG cJ (va + i)) hl.1 gX0_splitClause_X7_no_n128 nX0_splitClause_X7_no mX0_splitClause_stX7_no mX0_splitClause_iyX7_no rfl 1 yX0_splitClause_X7_no rfl [] [0, 1, 2, 3, 4, 5, 6] rfl rfl rfl rfl (by decide) (Nat.le_of_ble_eq_true rfl) (Nat.le_of_ble_eq_true rfl) (Nat.le_of_ble_eq_true rfl) rfl dX0_splitClause_37 (show (ct1 - ct) + 0 ≤ (zcap (nt + 3 * (n - 2)) ct - ct) by omega) (show 2 * ((ct1 - ct)) + 0 ≤ 2 * ((zcap (nt + 3 * (n - 2)) ct - ct)) by omega) (fun vv ww H locs hRR B => ?_)
        obtain ⟨rfl, rfl⟩ := hRR
        clear qr_20
        have B : zB D (zT cI cZ cG cJ) A s.heap s [(fo, .inr (2, [.ref mo, .int (nI pv), .int (nI (va + i)), .int (nI fh), .int (nI fs), .int (nI fk), .ref lo, .ref so, .ref to])), (lo, .inr (6, [.ref la, .int (nI nl)])), (la, .inl (cI, cl, .inl fl)), (so, .inr (6, [.ref sa, .int (nI ns)])), (sa, .inl (cI, cs, .inl ft)), (to, .inr (6, [.ref tw1, .int (nI nt1)])), (tw1, .inl (cI, ct1, .inl f31))] _ _ := B
        refine W.eq (g2 := F0 m 40 ls [.int (nI (2 * (va + i) + 1)), .ref fo]) rfl ?_
        refine lv_aload_n F.1 F.2.1 dX0_splitClause_40 rfl (lv_at hl 0 rfl) ?_
        refine lv_iload_n F.1 F.2.1 dX0_splitClause_41 rfl (lv_at hl 1 rfl) ?_
        refine lv_iload_n F.1 F.2.1 dX0_splitClause_42 rfl (lv_at hl 3 rfl) ?_
        have qr_21 := zX_rm hxt1 (n' := nt1) (N := nt + 3 * (n - 2)) (by omega) (by omega)
        refine z_callV (wr := [(to, .inr (6, [.ref tw1, .int (nI nt1)])), (tw1, .inl (cI, ct1, .inl f31))]) (rest := [.int (nI (2 * (va + i) + 1)), .ref fo]) (As := [.int (nI j), .int (nI (2 + i))]) F B (kX0_literalOf l D cI cZ cG cJ fo mo pv (va + i) fh fs fk lo so to la nl cl fl sa ns cs ft Cs j (2 + i) (hF) (hwl) (hws) (hj) (by omega)) hl.1 (C := RX0) (T := TX0) (N := 9) (ci := 2) (q0 := 0) gX0_splitClause_X0_literalOf rfl 2 yX0_splitClause_X0_literalOf rfl rfl rfl [0, 1, 2, 3, 4] [5, 6] rfl rfl rfl rfl (by decide) (Nat.le_of_ble_eq_true rfl) (Nat.le_of_ble_eq_true rfl) (Nat.le_of_ble_eq_true rfl) rfl dX0_splitClause_43 (show (ct1 - ct) + 0 + 0 ≤ (zcap (nt + 3 * (n - 2)) ct - ct) by omega) (show 2 * ((ct1 - ct)) + 0 + 0 ≤ 2 * ((zcap (nt + 3 * (n - 2)) ct - ct)) by omega) (fun vv ww H locs hRR B => ?_)
        obtain ⟨rfl, rfl⟩ := hRR
        clear qr_21
        have B : zB D (zT cI cZ cG cJ) A s.heap s [(to, .inr (6, [.ref tw1, .int (nI nt1)])), (tw1, .inl (cI, ct1, .inl f31)), (fo, .inr (2, [.ref mo, .int (nI pv), .int (nI (va + i)), .int (nI fh), .int (nI fs), .int (nI fk), .ref lo, .ref so, .ref to])), (lo, .inr (6, [.ref la, .int (nI nl)])), (la, .inl (cI, cl, .inl fl)), (so, .inr (6, [.ref sa, .int (nI ns)])), (sa, .inl (cI, cs, .inl ft))] _ _ := B
        refine W.eq (g2 := F0 m 46 ls [.int (nI (zlit Cs j (2 + i))), .int (nI (2 * (va + i) + 1)), .ref fo]) rfl ?_
        refine lv_aload_n F.1 F.2.1 dX0_splitClause_46 rfl (lv_at hl 0 rfl) ?_
        refine z_get F B 2 rfl (ci := 2) (C := RX0) (T := TX0) (N := 9) rfl iX0_splitClause_X0 2 (by decide) fX0_splitClause_158 rfl dX0_splitClause_47 ?_
        refine lv_iconst (v := (nI 1)) F.1 F.2.1 dX0_splitClause_50 (by decide) ?_
        refine z_iadd F dX0_splitClause_51 ?_
        have qr_22 := zX_rm hxt1 (n' := nt1) (N := nt + 3 * (n - 2)) (by omega) (by omega)
        refine z_callSN (wr := [(to, .inr (6, [.ref tw1, .int (nI nt1)])), (tw1, .inl (cI, ct1, .inl f31)), (fo, .inr (2, [.ref mo, .int (nI pv), .int (nI (va + i)), .int (nI fh), .int (nI fs), .int (nI fk), .ref lo, .ref so, .ref to])), (lo, .inr (6, [.ref la, .int (nI nl)])), (la, .inl (cI, cl, .inl fl)), (so, .inr (6, [.ref sa, .int (nI ns)])), (sa, .inl (cI, cs, .inl ft))]) (rest := [.int (nI (zlit Cs j (2 + i))), .int (nI (2 * (va + i) + 1)), .ref fo]) (As := [.int (nI ((va + i) + 1))]) (host := RX7) F B (kX7_yes l D cI cZ cG cJ ((va + i) + 1)) hl.1 gX0_splitClause_X7_yes_n104 nX0_splitClause_X7_yes mX0_splitClause_stX7_yes mX0_splitClause_iyX7_yes rfl 1 yX0_splitClause_X7_yes rfl [] [0, 1, 2, 3, 4, 5, 6] rfl rfl rfl rfl (by decide) (Nat.le_of_ble_eq_true rfl) (Nat.le_of_ble_eq_true rfl) (Nat.le_of_ble_eq_true rfl) rfl dX0_splitClause_52 (show (ct1 - ct) + 0 + 0 + 0 ≤ (zcap (nt + 3 * (n - 2)) ct - ct) by omega) (show 2 * ((ct1 - ct)) + 0 + 0 + 0 ≤ 2 * ((zcap (nt + 3 * (n - 2)) ct - ct)) by omega) (fun vv ww H locs hRR B => ?_)
        obtain ⟨rfl, rfl⟩ := hRR
        clear qr_22
        have B : zB D (zT cI cZ cG cJ) A s.heap s [(to, .inr (6, [.ref tw1, .int (nI nt1)])), (tw1, .inl (cI, ct1, .inl f31)), (fo, .inr (2, [.ref mo, .int (nI pv), .int (nI (va + i)), .int (nI fh), .int (nI fs), .int (nI fk), .ref lo, .ref so, .ref to])), (lo, .inr (6, [.ref la, .int (nI nl)])), (la, .inl (cI, cl, .inl fl)), (so, .inr (6, [.ref sa, .int (nI ns)])), (sa, .inl (cI, cs, .inl ft))] _ _ := B
        refine W.eq (g2 := F0 m 55 ls [.int (nI (2 * ((va + i) + 1))), .int (nI (zlit Cs j (2 + i))), .int (nI (2 * (va + i) + 1)), .ref fo]) rfl ?_
        have qr_23 := zX_rm hxt1 (n' := nt1 + 3) (N := nt + 3 * (n - 2)) (by omega) (by omega)
        refine z_callV (wr := [(lo, .inr (6, [.ref la, .int (nI nl)])), (la, .inl (cI, cl, .inl fl)), (so, .inr (6, [.ref sa, .int (nI ns)])), (sa, .inl (cI, cs, .inl ft))]) (rest := []) (As := [.int (nI (2 * (va + i) + 1)), .int (nI (zlit Cs j (2 + i))), .int (nI (2 * ((va + i) + 1)))]) F B (kX0_addThree l D cI cZ cG cJ fo mo pv (va + i) fh fs fk lo so to tw1 nt1 ct1 f31 (L3 ++ ([zlit Cs j 0, zlit Cs j 1, 2 * va] ++ (List.range i).flatMap (zsp1 va (Cs.getD j [])))) (2 * (va + i) + 1) (zlit Cs j (2 + i)) (2 * ((va + i) + 1)) (hR1) (hxt1.2.2.1) (by omega)) hl.1 (C := RX0) (T := TX0) (N := 9) (ci := 2) (q0 := 2) gX0_splitClause_X0_addThree rfl 3 yX0_splitClause_X0_addThree rfl rfl rfl [2, 0, 1] [3, 4, 5, 6] rfl rfl rfl rfl (by decide) (Nat.le_of_ble_eq_true rfl) (Nat.le_of_ble_eq_true rfl) (Nat.le_of_ble_eq_true rfl) rfl dX0_splitClause_55 (show (ct1 - ct) + 0 + 0 + 0 + (zcap (nt1 + 3) ct1 - ct1) ≤ (zcap (nt + 3 * (n - 2)) ct - ct) by omega) (show 2 * ((ct1 - ct)) + 0 + 0 + 0 + (2 * ((zcap (nt1 + 3) ct1 - ct1))) ≤ 2 * ((zcap (nt + 3 * (n - 2)) ct - ct)) by omega) (fun vv ww H locs hRR B => ?_)
        obtain ⟨tw'_24, ct'_25, f3'_26, rfl, rfl, hxt'_27, hRb⟩ := hRR
        have hX_28 := zX_tr hxt1 hxt'_27
        have hX_28e := zX_cap hxt'_27 (hxt1).2.2.1.1
        have hX_281 := (hxt'_27).2.1; have hX_282 := (hxt1).2.1; have hX_283 := (hX_28).1; have hX_284 := (hX_28).2.2.1.2.1
        refine W.widen (k := (ct'_25 - ct)) (n := 2 * ((ct'_25 - ct))) (by omega) (by omega) ?_
        clear qr_23 hX_28e hX_281 hX_282 hX_283 hX_284
        have B : zB D (zT cI cZ cG cJ) A s.heap s [(lo, .inr (6, [.ref la, .int (nI nl)])), (la, .inl (cI, cl, .inl fl)), (so, .inr (6, [.ref sa, .int (nI ns)])), (sa, .inl (cI, cs, .inl ft)), (fo, .inr (2, [.ref mo, .int (nI pv), .int (nI (va + i)), .int (nI fh), .int (nI fs), .int (nI fk), .ref lo, .ref so, .ref to])), (to, .inr (6, [.ref tw'_24, .int (nI (nt1 + 3))])), (tw'_24, .inl (cI, ct'_25, .inl f3'_26))] _ _ := B
        refine W.eq (g2 := F0 m 58 ls []) rfl ?_
        refine lv_aload_n F.1 F.2.1 dX0_splitClause_58 rfl (lv_at hl 0 rfl) ?_
        refine lv_dup F.1 F.2.1 dX0_splitClause_59 rfl ?_
        refine z_get F B 4 rfl (ci := 2) (C := RX0) (T := TX0) (N := 9) rfl iX0_splitClause_X0 2 (by decide) fX0_splitClause_158 rfl dX0_splitClause_60 ?_
        refine lv_iconst (v := (nI 1)) F.1 F.2.1 dX0_splitClause_63 (by decide) ?_
        refine z_iadd F dX0_splitClause_64 ?_
        refine z_put F B 4 rfl (ci := 2) (C := RX0) (T := TX0) (N := 9) rfl iX0_splitClause_X0 tyX0 tyX0_ok nmX0 2 (by decide) fX0_splitClause_158 rfl (v := .int (nI ((va + i) + 1))) rfl rfl (Nat.le_of_ble_eq_true rfl) dX0_splitClause_65 (fun H locs B => ?_)
        have B : zB D (zT cI cZ cG cJ) A s.heap s [(lo, .inr (6, [.ref la, .int (nI nl)])), (la, .inl (cI, cl, .inl fl)), (so, .inr (6, [.ref sa, .int (nI ns)])), (sa, .inl (cI, cs, .inl ft)), (fo, .inr (2, [.ref mo, .int (nI pv), .int (nI ((va + i) + 1)), .int (nI fh), .int (nI fs), .int (nI fk), .ref lo, .ref so, .ref to])), (to, .inr (6, [.ref tw'_24, .int (nI (nt1 + 3))])), (tw'_24, .inl (cI, ct'_25, .inl f3'_26))] _ _ := B
        refine lv_iinc (v := (nI (2 + i + 1))) (lv' := [(3, .int (nI (2 + i + 1))), (0, .ref fo), (1, .int (nI j)), (2, .int (nI n))]) F.1 F.2.1 dX0_splitClause_68 hl (k := 3) rfl (by rw [show Int32.ofInt 1 = nI 1 from rfl, nI_add]) (by decide) rfl (fun ls hl => ?_)
        refine lv_goto (tgt := 25) F.1 F.2.1 dX0_splitClause_71 (by decide) ?_
        exact ih25 (i + 1) tw'_24 (nt1 + 3) ct'_25 f3'_26 (by first | omega | (simp only [] at *; omega)) (by omega) (by omega) (by rw [zrng_succ (zsp1 va (Cs.getD j [])) i]; have hz9 := hRb; simp only [List.append_assoc] at hz9 ⊢; exact hz9) (hX_28) _ _ _ (B.sub [4, 0, 1, 2, 3, 5, 6] rfl rfl) (lv_sub hl [1, 2, 3, 0] rfl)
  exact loop25 (n - 0 + 1) 0 tw'_5 (nt + 3) ct'_6 f3'_7 (Nat.lt_succ_self _) (by omega) (by omega) (by simpa using hRa) (hX_9) _ _ _ (B.sub [4, 0, 1, 2, 3, 5, 6] rfl rfl) (lv_sub hl [1, 2, 3, 0] rfl)
