/-! CONTRACTS of Formula: numbers, clauses -/
theorem iX0_cellVariable_X0 : ∀ w ∈ u_ws RX0 TX0 9, w ∈ wsX0_cellVariable := by decide +kernel
theorem fX0_cellVariable_22 : Cond.fieldLink RX0 22 "TourChain$Formula" "machine" "LTourChain$Machine;" ∈ wsX0_cellVariable := by decide +kernel
theorem yX0_cellVariable_X3_cells : yX3_cells.cls = RX3 ∧ yX3_cells.cls ≠ "java/lang/invoke/MethodHandle" ∧ yX3_cells.cls ≠ "java/lang/invoke/VarHandle" ∧ (parseMethodDescriptor yX3_cells.desc).map (fun d => d.parameters.length) = some 0 := by decide +kernel
theorem iX0_cellVariable_X3 : ∀ w ∈ u_ws RX3 TX3 10, w ∈ wsX0_cellVariable := by decide +kernel
theorem fX0_cellVariable_40 : Cond.fieldLink RX0 40 "TourChain$Machine" "symbols" "I" ∈ wsX0_cellVariable := by decide +kernel
set_option maxHeartbeats 4000000 in
set_option maxRecDepth 100000 in
theorem kX0_cellVariable (l : Launch) (D : va_G) (cI cZ cG cJ : ClassId) (fo : Nat) (mo : Nat) (pv : Nat) (va : Nat) (fh : Nat) (fs : Nat) (fk : Nat) (lo : Nat) (so : Nat) (to : Nat) (q : Nat) (g : Nat) (t : Nat) (r : Nat) (af : Nat) (ar : Nat) (at_ : Nat) (aw : Nat) (am : Nat) (ap : Nat) (i : Nat) (y : Nat) (a : Nat)  : zC l yX0_cellVariable wsX0_cellVariable 1 20 0 0 D (zT cI cZ cG cJ) [.ref fo, .int (nI i), .int (nI y), .int (nI a)] [(fo, .inr (2, [.ref mo, .int (nI pv), .int (nI va), .int (nI fh), .int (nI fs), .int (nI fk), .ref lo, .ref so, .ref to])), (mo, .inr (5, [.int (nI q), .int (nI g), .int (nI t), .int (nI r), .ref af, .ref ar, .ref at_, .ref aw, .ref am, .ref ap]))] (fun (v : Option Value) (w : va_W) => v = some (.int (nI (zcv t g i y a))) ∧ w = [(fo, .inr (2, [.ref mo, .int (nI pv), .int (nI va), .int (nI fh), .int (nI fs), .int (nI fk), .ref lo, .ref so, .ref to])), (mo, .inr (5, [.int (nI q), .int (nI g), .int (nI t), .int (nI r), .ref af, .ref ar, .ref at_, .ref aw, .ref am, .ref ap]))]) := by
  refine zC.of (cc := cX0_cellVariable) (maxL := 4) (ret := (some .int)) (by decide) rfl (Nat.le_of_ble_eq_true rfl) ?_
  intro p e s m below meth c A ls F hr hlk hnm B hl
  have hl : lv_has ls 4 [(0, .ref fo), (1, .int (nI i)), (2, .int (nI y)), (3, .int (nI a))] := hl
  refine lv_iload_n F.1 F.2.1 dX0_cellVariable_0 rfl (lv_at hl 1 rfl) ?_
  refine lv_aload_n F.1 F.2.1 dX0_cellVariable_1 rfl (lv_at hl 0 rfl) ?_
  refine z_get F B 0 rfl (ci := 2) (C := RX0) (T := TX0) (N := 9) rfl iX0_cellVariable_X0 0 (by decide) fX0_cellVariable_22 rfl dX0_cellVariable_2 ?_
  refine z_callV (wr := [(fo, .inr (2, [.ref mo, .int (nI pv), .int (nI va), .int (nI fh), .int (nI fs), .int (nI fk), .ref lo, .ref so, .ref to]))]) (rest := [.int (nI i)]) (As := []) F B (kX3_cells l D cI cZ cG cJ mo q g t r af ar at_ aw am ap) hl.1 (C := RX3) (T := TX3) (N := 10) (ci := 5) (q0 := 1) gX0_cellVariable_X3_cells rfl 0 yX0_cellVariable_X3_cells rfl rfl rfl [1] [0] rfl rfl rfl rfl (by decide) (Nat.le_of_ble_eq_true rfl) (Nat.le_of_ble_eq_true rfl) (Nat.le_of_ble_eq_true rfl) rfl dX0_cellVariable_5 (show 0 + 0 ≤ 0 by omega) (show 0 + 0 ≤ 0 by omega) (fun vv ww H locs hRR B => ?_)
  obtain ⟨rfl, rfl⟩ := hRR
  have B : zB D (zT cI cZ cG cJ) A s.heap s [(fo, .inr (2, [.ref mo, .int (nI pv), .int (nI va), .int (nI fh), .int (nI fs), .int (nI fk), .ref lo, .ref so, .ref to])), (mo, .inr (5, [.int (nI q), .int (nI g), .int (nI t), .int (nI r), .ref af, .ref ar, .ref at_, .ref aw, .ref am, .ref ap]))] _ _ := B
  refine W.eq (g2 := F0 m 8 ls [.int (nI (t + 1)), .int (nI i)]) rfl ?_
  refine z_imul F dX0_cellVariable_8 ?_
  refine lv_iload_n F.1 F.2.1 dX0_cellVariable_9 rfl (lv_at hl 2 rfl) ?_
  refine z_iadd F dX0_cellVariable_10 ?_
  refine lv_aload_n F.1 F.2.1 dX0_cellVariable_11 rfl (lv_at hl 0 rfl) ?_
  refine z_get F B 0 rfl (ci := 2) (C := RX0) (T := TX0) (N := 9) rfl iX0_cellVariable_X0 0 (by decide) fX0_cellVariable_22 rfl dX0_cellVariable_12 ?_
  refine z_get F B 1 rfl (ci := 5) (C := RX3) (T := TX3) (N := 10) rfl iX0_cellVariable_X3 1 (by decide) fX0_cellVariable_40 rfl dX0_cellVariable_15 ?_
  refine z_imul F dX0_cellVariable_18 ?_
  refine lv_iload_n F.1 F.2.1 dX0_cellVariable_19 rfl (lv_at hl 3 rfl) ?_
  refine z_iadd F dX0_cellVariable_20 ?_
  exact z_iret F hr hlk B [0, 1] rfl rfl dX0_cellVariable_21 (by omega) (by omega) ⟨rfl, rfl⟩
theorem iX0_headVariable_X0 : ∀ w ∈ u_ws RX0 TX0 9, w ∈ wsX0_headVariable := by decide +kernel
theorem fX0_headVariable_43 : Cond.fieldLink RX0 43 "TourChain$Formula" "firstHead" "I" ∈ wsX0_headVariable := by decide +kernel
theorem fX0_headVariable_22 : Cond.fieldLink RX0 22 "TourChain$Formula" "machine" "LTourChain$Machine;" ∈ wsX0_headVariable := by decide +kernel
theorem yX0_headVariable_X3_cells : yX3_cells.cls = RX3 ∧ yX3_cells.cls ≠ "java/lang/invoke/MethodHandle" ∧ yX3_cells.cls ≠ "java/lang/invoke/VarHandle" ∧ (parseMethodDescriptor yX3_cells.desc).map (fun d => d.parameters.length) = some 0 := by decide +kernel
set_option maxHeartbeats 4000000 in
set_option maxRecDepth 100000 in
theorem kX0_headVariable (l : Launch) (D : va_G) (cI cZ cG cJ : ClassId) (fo : Nat) (mo : Nat) (pv : Nat) (va : Nat) (fh : Nat) (fs : Nat) (fk : Nat) (lo : Nat) (so : Nat) (to : Nat) (q : Nat) (g : Nat) (t : Nat) (r : Nat) (af : Nat) (ar : Nat) (at_ : Nat) (aw : Nat) (am : Nat) (ap : Nat) (i : Nat) (y : Nat)  : zC l yX0_headVariable wsX0_headVariable 1 20 0 0 D (zT cI cZ cG cJ) [.ref fo, .int (nI i), .int (nI y)] [(fo, .inr (2, [.ref mo, .int (nI pv), .int (nI va), .int (nI fh), .int (nI fs), .int (nI fk), .ref lo, .ref so, .ref to])), (mo, .inr (5, [.int (nI q), .int (nI g), .int (nI t), .int (nI r), .ref af, .ref ar, .ref at_, .ref aw, .ref am, .ref ap]))] (fun (v : Option Value) (w : va_W) => v = some (.int (nI (zhv fh t i y))) ∧ w = [(fo, .inr (2, [.ref mo, .int (nI pv), .int (nI va), .int (nI fh), .int (nI fs), .int (nI fk), .ref lo, .ref so, .ref to])), (mo, .inr (5, [.int (nI q), .int (nI g), .int (nI t), .int (nI r), .ref af, .ref ar, .ref at_, .ref aw, .ref am, .ref ap]))]) := by
  refine zC.of (cc := cX0_headVariable) (maxL := 3) (ret := (some .int)) (by decide) rfl (Nat.le_of_ble_eq_true rfl) ?_
  intro p e s m below meth c A ls F hr hlk hnm B hl
  have hl : lv_has ls 3 [(0, .ref fo), (1, .int (nI i)), (2, .int (nI y))] := hl
  refine lv_aload_n F.1 F.2.1 dX0_headVariable_0 rfl (lv_at hl 0 rfl) ?_
  refine z_get F B 0 rfl (ci := 2) (C := RX0) (T := TX0) (N := 9) rfl iX0_headVariable_X0 3 (by decide) fX0_headVariable_43 rfl dX0_headVariable_1 ?_
  refine lv_iload_n F.1 F.2.1 dX0_headVariable_4 rfl (lv_at hl 1 rfl) ?_
  refine lv_aload_n F.1 F.2.1 dX0_headVariable_5 rfl (lv_at hl 0 rfl) ?_
  refine z_get F B 0 rfl (ci := 2) (C := RX0) (T := TX0) (N := 9) rfl iX0_headVariable_X0 0 (by decide) fX0_headVariable_22 rfl dX0_headVariable_6 ?_
  refine z_callV (wr := [(fo, .inr (2, [.ref mo, .int (nI pv), .int (nI va), .int (nI fh), .int (nI fs), .int (nI fk), .ref lo, .ref so, .ref to]))]) (rest := [.int (nI i), .int (nI fh)]) (As := []) F B (kX3_cells l D cI cZ cG cJ mo q g t r af ar at_ aw am ap) hl.1 (C := RX3) (T := TX3) (N := 10) (ci := 5) (q0 := 1) gX0_headVariable_X3_cells rfl 0 yX0_headVariable_X3_cells rfl rfl rfl [1] [0] rfl rfl rfl rfl (by decide) (Nat.le_of_ble_eq_true rfl) (Nat.le_of_ble_eq_true rfl) (Nat.le_of_ble_eq_true rfl) rfl dX0_headVariable_9 (show 0 + 0 ≤ 0 by omega) (show 0 + 0 ≤ 0 by omega) (fun vv ww H locs hRR B => ?_)
  obtain ⟨rfl, rfl⟩ := hRR
  have B : zB D (zT cI cZ cG cJ) A s.heap s [(fo, .inr (2, [.ref mo, .int (nI pv), .int (nI va), .int (nI fh), .int (nI fs), .int (nI fk), .ref lo, .ref so, .ref to])), (mo, .inr (5, [.int (nI q), .int (nI g), .int (nI t), .int (nI r), .ref af, .ref ar, .ref at_, .ref aw, .ref am, .ref ap]))] _ _ := B
  refine W.eq (g2 := F0 m 12 ls [.int (nI (t + 1)), .int (nI i), .int (nI fh)]) rfl ?_
  refine z_imul F dX0_headVariable_12 ?_
  refine z_iadd F dX0_headVariable_13 ?_
  refine lv_iload_n F.1 F.2.1 dX0_headVariable_14 rfl (lv_at hl 2 rfl) ?_
  refine z_iadd F dX0_headVariable_15 ?_
  exact z_iret F hr hlk B [0, 1] rfl rfl dX0_headVariable_16 (by omega) (by omega) ⟨rfl, rfl⟩
theorem iX0_stateVariable_X0 : ∀ w ∈ u_ws RX0 TX0 9, w ∈ wsX0_stateVariable := by decide +kernel
theorem fX0_stateVariable_46 : Cond.fieldLink RX0 46 "TourChain$Formula" "firstState" "I" ∈ wsX0_stateVariable := by decide +kernel
theorem fX0_stateVariable_22 : Cond.fieldLink RX0 22 "TourChain$Formula" "machine" "LTourChain$Machine;" ∈ wsX0_stateVariable := by decide +kernel
theorem iX0_stateVariable_X3 : ∀ w ∈ u_ws RX3 TX3 10, w ∈ wsX0_stateVariable := by decide +kernel
theorem fX0_stateVariable_49 : Cond.fieldLink RX0 49 "TourChain$Machine" "states" "I" ∈ wsX0_stateVariable := by decide +kernel
set_option maxHeartbeats 4000000 in
set_option maxRecDepth 100000 in
theorem kX0_stateVariable (l : Launch) (D : va_G) (cI cZ cG cJ : ClassId) (fo : Nat) (mo : Nat) (pv : Nat) (va : Nat) (fh : Nat) (fs : Nat) (fk : Nat) (lo : Nat) (so : Nat) (to : Nat) (q : Nat) (g : Nat) (t : Nat) (r : Nat) (af : Nat) (ar : Nat) (at_ : Nat) (aw : Nat) (am : Nat) (ap : Nat) (i : Nat) (u : Nat)  : zC l yX0_stateVariable wsX0_stateVariable 0 0 0 0 D (zT cI cZ cG cJ) [.ref fo, .int (nI i), .int (nI u)] [(fo, .inr (2, [.ref mo, .int (nI pv), .int (nI va), .int (nI fh), .int (nI fs), .int (nI fk), .ref lo, .ref so, .ref to])), (mo, .inr (5, [.int (nI q), .int (nI g), .int (nI t), .int (nI r), .ref af, .ref ar, .ref at_, .ref aw, .ref am, .ref ap]))] (fun (v : Option Value) (w : va_W) => v = some (.int (nI (zsv fs q i u))) ∧ w = [(fo, .inr (2, [.ref mo, .int (nI pv), .int (nI va), .int (nI fh), .int (nI fs), .int (nI fk), .ref lo, .ref so, .ref to])), (mo, .inr (5, [.int (nI q), .int (nI g), .int (nI t), .int (nI r), .ref af, .ref ar, .ref at_, .ref aw, .ref am, .ref ap]))]) := by
  refine zC.of (cc := cX0_stateVariable) (maxL := 3) (ret := (some .int)) (by decide) rfl (Nat.le_of_ble_eq_true rfl) ?_
  intro p e s m below meth c A ls F hr hlk hnm B hl
  have hl : lv_has ls 3 [(0, .ref fo), (1, .int (nI i)), (2, .int (nI u))] := hl
  refine lv_aload_n F.1 F.2.1 dX0_stateVariable_0 rfl (lv_at hl 0 rfl) ?_
  refine z_get F B 0 rfl (ci := 2) (C := RX0) (T := TX0) (N := 9) rfl iX0_stateVariable_X0 4 (by decide) fX0_stateVariable_46 rfl dX0_stateVariable_1 ?_
  refine lv_iload_n F.1 F.2.1 dX0_stateVariable_4 rfl (lv_at hl 1 rfl) ?_
  refine lv_aload_n F.1 F.2.1 dX0_stateVariable_5 rfl (lv_at hl 0 rfl) ?_
  refine z_get F B 0 rfl (ci := 2) (C := RX0) (T := TX0) (N := 9) rfl iX0_stateVariable_X0 0 (by decide) fX0_stateVariable_22 rfl dX0_stateVariable_6 ?_
  refine z_get F B 1 rfl (ci := 5) (C := RX3) (T := TX3) (N := 10) rfl iX0_stateVariable_X3 0 (by decide) fX0_stateVariable_49 rfl dX0_stateVariable_9 ?_
  refine z_imul F dX0_stateVariable_12 ?_
  refine z_iadd F dX0_stateVariable_13 ?_
  refine lv_iload_n F.1 F.2.1 dX0_stateVariable_14 rfl (lv_at hl 2 rfl) ?_
  refine z_iadd F dX0_stateVariable_15 ?_
  exact z_iret F hr hlk B [0, 1] rfl rfl dX0_stateVariable_16 (by omega) (by omega) ⟨rfl, rfl⟩
theorem iX0_choiceVariable_X0 : ∀ w ∈ u_ws RX0 TX0 9, w ∈ wsX0_choiceVariable := by decide +kernel
theorem fX0_choiceVariable_52 : Cond.fieldLink RX0 52 "TourChain$Formula" "firstChoice" "I" ∈ wsX0_choiceVariable := by decide +kernel
theorem fX0_choiceVariable_22 : Cond.fieldLink RX0 22 "TourChain$Formula" "machine" "LTourChain$Machine;" ∈ wsX0_choiceVariable := by decide +kernel
theorem iX0_choiceVariable_X3 : ∀ w ∈ u_ws RX3 TX3 10, w ∈ wsX0_choiceVariable := by decide +kernel
theorem fX0_choiceVariable_55 : Cond.fieldLink RX0 55 "TourChain$Machine" "rules" "I" ∈ wsX0_choiceVariable := by decide +kernel
set_option maxHeartbeats 4000000 in
set_option maxRecDepth 100000 in
theorem kX0_choiceVariable (l : Launch) (D : va_G) (cI cZ cG cJ : ClassId) (fo : Nat) (mo : Nat) (pv : Nat) (va : Nat) (fh : Nat) (fs : Nat) (fk : Nat) (lo : Nat) (so : Nat) (to : Nat) (q : Nat) (g : Nat) (t : Nat) (r : Nat) (af : Nat) (ar : Nat) (at_ : Nat) (aw : Nat) (am : Nat) (ap : Nat) (i : Nat) (k : Nat)  : zC l yX0_choiceVariable wsX0_choiceVariable 0 0 0 0 D (zT cI cZ cG cJ) [.ref fo, .int (nI i), .int (nI k)] [(fo, .inr (2, [.ref mo, .int (nI pv), .int (nI va), .int (nI fh), .int (nI fs), .int (nI fk), .ref lo, .ref so, .ref to])), (mo, .inr (5, [.int (nI q), .int (nI g), .int (nI t), .int (nI r), .ref af, .ref ar, .ref at_, .ref aw, .ref am, .ref ap]))] (fun (v : Option Value) (w : va_W) => v = some (.int (nI (zkv fk r i k))) ∧ w = [(fo, .inr (2, [.ref mo, .int (nI pv), .int (nI va), .int (nI fh), .int (nI fs), .int (nI fk), .ref lo, .ref so, .ref to])), (mo, .inr (5, [.int (nI q), .int (nI g), .int (nI t), .int (nI r), .ref af, .ref ar, .ref at_, .ref aw, .ref am, .ref ap]))]) := by
  refine zC.of (cc := cX0_choiceVariable) (maxL := 3) (ret := (some .int)) (by decide) rfl (Nat.le_of_ble_eq_true rfl) ?_
  intro p e s m below meth c A ls F hr hlk hnm B hl
  have hl : lv_has ls 3 [(0, .ref fo), (1, .int (nI i)), (2, .int (nI k))] := hl
  refine lv_aload_n F.1 F.2.1 dX0_choiceVariable_0 rfl (lv_at hl 0 rfl) ?_
  refine z_get F B 0 rfl (ci := 2) (C := RX0) (T := TX0) (N := 9) rfl iX0_choiceVariable_X0 5 (by decide) fX0_choiceVariable_52 rfl dX0_choiceVariable_1 ?_
  refine lv_iload_n F.1 F.2.1 dX0_choiceVariable_4 rfl (lv_at hl 1 rfl) ?_
  refine lv_aload_n F.1 F.2.1 dX0_choiceVariable_5 rfl (lv_at hl 0 rfl) ?_
  refine z_get F B 0 rfl (ci := 2) (C := RX0) (T := TX0) (N := 9) rfl iX0_choiceVariable_X0 0 (by decide) fX0_choiceVariable_22 rfl dX0_choiceVariable_6 ?_
  refine z_get F B 1 rfl (ci := 5) (C := RX3) (T := TX3) (N := 10) rfl iX0_choiceVariable_X3 3 (by decide) fX0_choiceVariable_55 rfl dX0_choiceVariable_9 ?_
  refine lv_iconst (v := (nI 1)) F.1 F.2.1 dX0_choiceVariable_12 (by decide) ?_
  refine z_iadd F dX0_choiceVariable_13 ?_
  refine z_imul F dX0_choiceVariable_14 ?_
  refine z_iadd F dX0_choiceVariable_15 ?_
  refine lv_iload_n F.1 F.2.1 dX0_choiceVariable_16 rfl (lv_at hl 2 rfl) ?_
  refine z_iadd F dX0_choiceVariable_17 ?_
  exact z_iret F hr hlk B [0, 1] rfl rfl dX0_choiceVariable_18 (by omega) (by omega) ⟨rfl, rfl⟩
theorem iX0_clause_X0 : ∀ w ∈ u_ws RX0 TX0 9, w ∈ wsX0_clause := by decide +kernel
theorem fX0_clause_10 : Cond.fieldLink RX0 10 "TourChain$Formula" "literals" "LTourChain$Row;" ∈ wsX0_clause := by decide +kernel
theorem yX0_clause_X4_add : yX4_add.cls = RX4 ∧ yX4_add.cls ≠ "java/lang/invoke/MethodHandle" ∧ yX4_add.cls ≠ "java/lang/invoke/VarHandle" ∧ (parseMethodDescriptor yX4_add.desc).map (fun d => d.parameters.length) = some 1 := by decide +kernel
theorem fX0_clause_16 : Cond.fieldLink RX0 16 "TourChain$Formula" "starts" "LTourChain$Row;" ∈ wsX0_clause := by decide +kernel
theorem iX0_clause_X4 : ∀ w ∈ u_ws RX4 TX4 2, w ∈ wsX0_clause := by decide +kernel
theorem fX0_clause_26 : Cond.fieldLink RX0 26 "TourChain$Row" "size" "I" ∈ wsX0_clause := by decide +kernel
set_option maxHeartbeats 4000000 in
set_option maxRecDepth 100000 in
theorem kX0_clause (l : Launch) (D : va_G) (cI cZ cG cJ : ClassId) (fo : Nat) (mo : Nat) (pv : Nat) (va : Nat) (fh : Nat) (fs : Nat) (fk : Nat) (lo : Nat) (so : Nat) (to : Nat) (la : Nat) (nl : Nat) (cl : Nat) (fl : Nat → Int32) (sa : Nat) (ns : Nat) (cs : Nat) (ft : Nat → Int32) (Cs : List (List Nat)) (a1 : Nat) (hF : zF fl nl ft ns Cs) (hwl : zW nl cl) (hws : zW ns cs) (hbl : nl + 1 ≤ 8192) (hbs : ns + 1 ≤ 8192) : zC l yX0_clause wsX0_clause 3 83 ((zcap (nl + 1) cl - cl) + (zcap (ns + 1) cs - cs)) (2 * ((zcap (nl + 1) cl - cl) + (zcap (ns + 1) cs - cs))) D (zT cI cZ cG cJ) [.ref fo, .int (nI a1)] [(fo, .inr (2, [.ref mo, .int (nI pv), .int (nI va), .int (nI fh), .int (nI fs), .int (nI fk), .ref lo, .ref so, .ref to])), (lo, .inr (6, [.ref la, .int (nI nl)])), (la, .inl (cI, cl, .inl fl)), (so, .inr (6, [.ref sa, .int (nI ns)])), (sa, .inl (cI, cs, .inl ft))] (fun (v : Option Value) (w : va_W) => ∃ la' : Nat, ∃ cl' : Nat, ∃ fl' : Nat → Int32, ∃ sa' : Nat, ∃ cs' : Nat, ∃ ft' : Nat → Int32, v = none ∧ w = [(fo, .inr (2, [.ref mo, .int (nI pv), .int (nI va), .int (nI fh), .int (nI fs), .int (nI fk), .ref lo, .ref so, .ref to])), (lo, .inr (6, [.ref la', .int (nI (nl + 1))])), (la', .inl (cI, cl', .inl fl')), (so, .inr (6, [.ref sa', .int (nI (ns + 1))])), (sa', .inl (cI, cs', .inl ft'))] ∧ zX nl cl (nl + 1) cl' ∧ zX ns cs (ns + 1) cs' ∧ zF fl' (nl + 1) ft' (ns + 1) (Cs ++ ([[a1]]))) := by
  refine zC.of (cc := cX0_clause) (maxL := 2) (ret := none) (by decide) rfl (Nat.le_of_ble_eq_true rfl) ?_
  intro p e s m below meth c A ls F hr hlk hnm B hl
  have hl : lv_has ls 2 [(0, .ref fo), (1, .int (nI a1))] := hl
  refine lv_aload_n F.1 F.2.1 dX0_clause_0 rfl (lv_at hl 0 rfl) ?_
  refine z_get F B 0 rfl (ci := 2) (C := RX0) (T := TX0) (N := 9) rfl iX0_clause_X0 6 (by decide) fX0_clause_10 rfl dX0_clause_1 ?_
  refine lv_iload_n F.1 F.2.1 dX0_clause_4 rfl (lv_at hl 1 rfl) ?_
  have qr_1 := zX_rm (zX_rf hwl) (n' := nl + 1) (N := nl + 1) (by omega) (by omega)
  have qr_2 := zX_rm (zX_rf hws) (n' := ns) (N := ns + 1) (by omega) (by omega)
  refine z_callV (wr := [(fo, .inr (2, [.ref mo, .int (nI pv), .int (nI va), .int (nI fh), .int (nI fs), .int (nI fk), .ref lo, .ref so, .ref to])), (so, .inr (6, [.ref sa, .int (nI ns)])), (sa, .inl (cI, cs, .inl ft))]) (rest := []) (As := [.int (nI a1)]) F B (kX4_add l D cI cZ cG cJ lo la nl cl fl Cs.flatten a1 (hF.1) (hwl) (by omega)) hl.1 (C := RX4) (T := TX4) (N := 2) (ci := 6) (q0 := 1) gX0_clause_X4_add rfl 1 yX0_clause_X4_add rfl rfl rfl [1, 2] [0, 3, 4] rfl rfl rfl rfl (by decide) (Nat.le_of_ble_eq_true rfl) (Nat.le_of_ble_eq_true rfl) (Nat.le_of_ble_eq_true rfl) rfl dX0_clause_5 (show 0 + (zcap (nl + 1) cl - cl) ≤ (zcap (nl + 1) cl - cl) + (zcap (ns + 1) cs - cs) by omega) (show 0 + (2 * ((zcap (nl + 1) cl - cl))) ≤ 2 * ((zcap (nl + 1) cl - cl) + (zcap (ns + 1) cs - cs)) by omega) (fun vv ww H locs hRR B => ?_)
  obtain ⟨a'_3, f'_4, c'_5, rfl, rfl, hxa1, hf1⟩ := hRR
  have hX_6 := zX_tr (zX_rf hwl) hxa1
  have hX_6e := zX_cap hxa1 ((zX_rf hwl)).2.2.1.1
  have hX_61 := (hxa1).2.1; have hX_62 := ((zX_rf hwl)).2.1; have hX_63 := (hX_6).1; have hX_64 := (hX_6).2.2.1.2.1
  refine W.widen (k := (c'_5 - cl) + (cs - cs)) (n := 2 * ((c'_5 - cl) + (cs - cs))) (by omega) (by omega) ?_
  have B : zB D (zT cI cZ cG cJ) A s.heap s [(fo, .inr (2, [.ref mo, .int (nI pv), .int (nI va), .int (nI fh), .int (nI fs), .int (nI fk), .ref lo, .ref so, .ref to])), (so, .inr (6, [.ref sa, .int (nI ns)])), (sa, .inl (cI, cs, .inl ft)), (lo, .inr (6, [.ref a'_3, .int (nI (nl + 1))])), (a'_3, .inl (cI, c'_5, .inl f'_4))] _ _ := B
  refine W.eq (g2 := F0 m 8 ls []) rfl ?_
  refine lv_aload_n F.1 F.2.1 dX0_clause_8 rfl (lv_at hl 0 rfl) ?_
  refine z_get F B 0 rfl (ci := 2) (C := RX0) (T := TX0) (N := 9) rfl iX0_clause_X0 7 (by decide) fX0_clause_16 rfl dX0_clause_9 ?_
  refine lv_aload_n F.1 F.2.1 dX0_clause_12 rfl (lv_at hl 0 rfl) ?_
  refine z_get F B 0 rfl (ci := 2) (C := RX0) (T := TX0) (N := 9) rfl iX0_clause_X0 6 (by decide) fX0_clause_10 rfl dX0_clause_13 ?_
  refine z_get F B 3 rfl (ci := 6) (C := RX4) (T := TX4) (N := 2) rfl iX0_clause_X4 1 (by decide) fX0_clause_26 rfl dX0_clause_16 ?_
  have qr_7 := zX_rm hX_6 (n' := nl + 1) (N := nl + 1) (by omega) (by omega)
  have qr_8 := zX_rm (zX_rf hws) (n' := ns + 1) (N := ns + 1) (by omega) (by omega)
  refine z_callV (wr := [(fo, .inr (2, [.ref mo, .int (nI pv), .int (nI va), .int (nI fh), .int (nI fs), .int (nI fk), .ref lo, .ref so, .ref to])), (lo, .inr (6, [.ref a'_3, .int (nI (nl + 1))])), (a'_3, .inl (cI, c'_5, .inl f'_4))]) (rest := []) (As := [.int (nI (nl + 1))]) F B (kX4_add l D cI cZ cG cJ so sa ns cs ft (zst Cs) (nl + 1) (hF.2) (hws) (by omega)) hl.1 (C := RX4) (T := TX4) (N := 2) (ci := 6) (q0 := 1) gX0_clause_X4_add rfl 1 yX0_clause_X4_add rfl rfl rfl [1, 2] [0, 3, 4] rfl rfl rfl rfl (by decide) (Nat.le_of_ble_eq_true rfl) (Nat.le_of_ble_eq_true rfl) (Nat.le_of_ble_eq_true rfl) rfl dX0_clause_19 (show (c'_5 - cl) + (cs - cs) + (zcap (ns + 1) cs - cs) ≤ (zcap (nl + 1) cl - cl) + (zcap (ns + 1) cs - cs) by omega) (show 2 * ((c'_5 - cl) + (cs - cs)) + (2 * ((zcap (ns + 1) cs - cs))) ≤ 2 * ((zcap (nl + 1) cl - cl) + (zcap (ns + 1) cs - cs)) by omega) (fun vv ww H locs hRR B => ?_)
  obtain ⟨a'_9, f'_10, c'_11, rfl, rfl, hxs1, hfs⟩ := hRR
  have hX_12 := zX_tr (zX_rf hws) hxs1
  have hX_12e := zX_cap hxs1 ((zX_rf hws)).2.2.1.1
  have hX_121 := (hxs1).2.1; have hX_122 := ((zX_rf hws)).2.1; have hX_123 := (hX_12).1; have hX_124 := (hX_12).2.2.1.2.1
  refine W.widen (k := (c'_5 - cl) + (c'_11 - cs)) (n := 2 * ((c'_5 - cl) + (c'_11 - cs))) (by omega) (by omega) ?_
  have B : zB D (zT cI cZ cG cJ) A s.heap s [(fo, .inr (2, [.ref mo, .int (nI pv), .int (nI va), .int (nI fh), .int (nI fs), .int (nI fk), .ref lo, .ref so, .ref to])), (lo, .inr (6, [.ref a'_3, .int (nI (nl + 1))])), (a'_3, .inl (cI, c'_5, .inl f'_4)), (so, .inr (6, [.ref a'_9, .int (nI (ns + 1))])), (a'_9, .inl (cI, c'_11, .inl f'_10))] _ _ := B
  refine W.eq (g2 := F0 m 22 ls []) rfl ?_
  have qe_13 := zX_rm hX_6 (n' := nl + 1) (N := nl + 1) (Nat.le_refl _) (by omega)
  have qe_14 := zX_rm hX_12 (n' := ns + 1) (N := ns + 1) (Nat.le_refl _) (by omega)
  exact z_vret F hr hlk B [0, 1, 2, 3, 4] rfl (rfl) dX0_clause_22 (by omega) (by omega) ⟨a'_3, c'_5, f'_4, a'_9, c'_11, f'_10, rfl, rfl, hX_6, hX_12, (zF_add (c := [a1]) (by simpa [List.append_assoc] using hf1) hfs)⟩
theorem iX0_clause__X0 : ∀ w ∈ u_ws RX0 TX0 9, w ∈ wsX0_clause_ := by decide +kernel
theorem fX0_clause__10 : Cond.fieldLink RX0 10 "TourChain$Formula" "literals" "LTourChain$Row;" ∈ wsX0_clause_ := by decide +kernel
theorem yX0_clause__X4_add : yX4_add.cls = RX4 ∧ yX4_add.cls ≠ "java/lang/invoke/MethodHandle" ∧ yX4_add.cls ≠ "java/lang/invoke/VarHandle" ∧ (parseMethodDescriptor yX4_add.desc).map (fun d => d.parameters.length) = some 1 := by decide +kernel
theorem fX0_clause__16 : Cond.fieldLink RX0 16 "TourChain$Formula" "starts" "LTourChain$Row;" ∈ wsX0_clause_ := by decide +kernel
theorem iX0_clause__X4 : ∀ w ∈ u_ws RX4 TX4 2, w ∈ wsX0_clause_ := by decide +kernel
theorem fX0_clause__26 : Cond.fieldLink RX0 26 "TourChain$Row" "size" "I" ∈ wsX0_clause_ := by decide +kernel
set_option maxHeartbeats 4000000 in
set_option maxRecDepth 100000 in
theorem kX0_clause_ (l : Launch) (D : va_G) (cI cZ cG cJ : ClassId) (fo : Nat) (mo : Nat) (pv : Nat) (va : Nat) (fh : Nat) (fs : Nat) (fk : Nat) (lo : Nat) (so : Nat) (to : Nat) (la : Nat) (nl : Nat) (cl : Nat) (fl : Nat → Int32) (sa : Nat) (ns : Nat) (cs : Nat) (ft : Nat → Int32) (Cs : List (List Nat)) (a1 : Nat) (a2 : Nat) (hF : zF fl nl ft ns Cs) (hwl : zW nl cl) (hws : zW ns cs) (hbl : nl + 2 ≤ 8192) (hbs : ns + 1 ≤ 8192) : zC l yX0_clause_ wsX0_clause_ 3 83 ((zcap (nl + 2) cl - cl) + (zcap (ns + 1) cs - cs)) (2 * ((zcap (nl + 2) cl - cl) + (zcap (ns + 1) cs - cs))) D (zT cI cZ cG cJ) [.ref fo, .int (nI a1), .int (nI a2)] [(fo, .inr (2, [.ref mo, .int (nI pv), .int (nI va), .int (nI fh), .int (nI fs), .int (nI fk), .ref lo, .ref so, .ref to])), (lo, .inr (6, [.ref la, .int (nI nl)])), (la, .inl (cI, cl, .inl fl)), (so, .inr (6, [.ref sa, .int (nI ns)])), (sa, .inl (cI, cs, .inl ft))] (fun (v : Option Value) (w : va_W) => ∃ la' : Nat, ∃ cl' : Nat, ∃ fl' : Nat → Int32, ∃ sa' : Nat, ∃ cs' : Nat, ∃ ft' : Nat → Int32, v = none ∧ w = [(fo, .inr (2, [.ref mo, .int (nI pv), .int (nI va), .int (nI fh), .int (nI fs), .int (nI fk), .ref lo, .ref so, .ref to])), (lo, .inr (6, [.ref la', .int (nI (nl + 2))])), (la', .inl (cI, cl', .inl fl')), (so, .inr (6, [.ref sa', .int (nI (ns + 1))])), (sa', .inl (cI, cs', .inl ft'))] ∧ zX nl cl (nl + 2) cl' ∧ zX ns cs (ns + 1) cs' ∧ zF fl' (nl + 2) ft' (ns + 1) (Cs ++ ([[a1, a2]]))) := by
  refine zC.of (cc := cX0_clause_) (maxL := 3) (ret := none) (by decide) rfl (Nat.le_of_ble_eq_true rfl) ?_
  intro p e s m below meth c A ls F hr hlk hnm B hl
  have hl : lv_has ls 3 [(0, .ref fo), (1, .int (nI a1)), (2, .int (nI a2))] := hl
  refine lv_aload_n F.1 F.2.1 dX0_clause__0 rfl (lv_at hl 0 rfl) ?_
  refine z_get F B 0 rfl (ci := 2) (C := RX0) (T := TX0) (N := 9) rfl iX0_clause__X0 6 (by decide) fX0_clause__10 rfl dX0_clause__1 ?_
  refine lv_iload_n F.1 F.2.1 dX0_clause__4 rfl (lv_at hl 1 rfl) ?_
  have qr_1 := zX_rm (zX_rf hwl) (n' := nl + 1) (N := nl + 2) (by omega) (by omega)
  have qr_2 := zX_rm (zX_rf hws) (n' := ns) (N := ns + 1) (by omega) (by omega)
  refine z_callV (wr := [(fo, .inr (2, [.ref mo, .int (nI pv), .int (nI va), .int (nI fh), .int (nI fs), .int (nI fk), .ref lo, .ref so, .ref to])), (so, .inr (6, [.ref sa, .int (nI ns)])), (sa, .inl (cI, cs, .inl ft))]) (rest := []) (As := [.int (nI a1)]) F B (kX4_add l D cI cZ cG cJ lo la nl cl fl Cs.flatten a1 (hF.1) (hwl) (by omega)) hl.1 (C := RX4) (T := TX4) (N := 2) (ci := 6) (q0 := 1) gX0_clause__X4_add rfl 1 yX0_clause__X4_add rfl rfl rfl [1, 2] [0, 3, 4] rfl rfl rfl rfl (by decide) (Nat.le_of_ble_eq_true rfl) (Nat.le_of_ble_eq_true rfl) (Nat.le_of_ble_eq_true rfl) rfl dX0_clause__5 (show 0 + (zcap (nl + 1) cl - cl) ≤ (zcap (nl + 2) cl - cl) + (zcap (ns + 1) cs - cs) by omega) (show 0 + (2 * ((zcap (nl + 1) cl - cl))) ≤ 2 * ((zcap (nl + 2) cl - cl) + (zcap (ns + 1) cs - cs)) by omega) (fun vv ww H locs hRR B => ?_)
  obtain ⟨a'_3, f'_4, c'_5, rfl, rfl, hxa1, hf1⟩ := hRR
  have hX_6 := zX_tr (zX_rf hwl) hxa1
  have hX_6e := zX_cap hxa1 ((zX_rf hwl)).2.2.1.1
  have hX_61 := (hxa1).2.1; have hX_62 := ((zX_rf hwl)).2.1; have hX_63 := (hX_6).1; have hX_64 := (hX_6).2.2.1.2.1
  refine W.widen (k := (c'_5 - cl) + (cs - cs)) (n := 2 * ((c'_5 - cl) + (cs - cs))) (by omega) (by omega) ?_
  have B : zB D (zT cI cZ cG cJ) A s.heap s [(fo, .inr (2, [.ref mo, .int (nI pv), .int (nI va), .int (nI fh), .int (nI fs), .int (nI fk), .ref lo, .ref so, .ref to])), (so, .inr (6, [.ref sa, .int (nI ns)])), (sa, .inl (cI, cs, .inl ft)), (lo, .inr (6, [.ref a'_3, .int (nI (nl + 1))])), (a'_3, .inl (cI, c'_5, .inl f'_4))] _ _ := B
  refine W.eq (g2 := F0 m 8 ls []) rfl ?_
  refine lv_aload_n F.1 F.2.1 dX0_clause__8 rfl (lv_at hl 0 rfl) ?_
  refine z_get F B 0 rfl (ci := 2) (C := RX0) (T := TX0) (N := 9) rfl iX0_clause__X0 6 (by decide) fX0_clause__10 rfl dX0_clause__9 ?_
  refine lv_iload_n F.1 F.2.1 dX0_clause__12 rfl (lv_at hl 2 rfl) ?_
  have qr_7 := zX_rm hX_6 (n' := (nl + 1) + 1) (N := nl + 2) (by omega) (by omega)
  have qr_8 := zX_rm (zX_rf hws) (n' := ns) (N := ns + 1) (by omega) (by omega)
  refine z_callV (wr := [(fo, .inr (2, [.ref mo, .int (nI pv), .int (nI va), .int (nI fh), .int (nI fs), .int (nI fk), .ref lo, .ref so, .ref to])), (so, .inr (6, [.ref sa, .int (nI ns)])), (sa, .inl (cI, cs, .inl ft))]) (rest := []) (As := [.int (nI a2)]) F B (kX4_add l D cI cZ cG cJ lo a'_3 (nl + 1) c'_5 f'_4 (Cs.flatten ++ [a1]) a2 (hf1) (hxa1.2.2.1) (by omega)) hl.1 (C := RX4) (T := TX4) (N := 2) (ci := 6) (q0 := 3) gX0_clause__X4_add rfl 1 yX0_clause__X4_add rfl rfl rfl [3, 4] [0, 1, 2] rfl rfl rfl rfl (by decide) (Nat.le_of_ble_eq_true rfl) (Nat.le_of_ble_eq_true rfl) (Nat.le_of_ble_eq_true rfl) rfl dX0_clause__13 (show (c'_5 - cl) + (cs - cs) + (zcap ((nl + 1) + 1) c'_5 - c'_5) ≤ (zcap (nl + 2) cl - cl) + (zcap (ns + 1) cs - cs) by omega) (show 2 * ((c'_5 - cl) + (cs - cs)) + (2 * ((zcap ((nl + 1) + 1) c'_5 - c'_5))) ≤ 2 * ((zcap (nl + 2) cl - cl) + (zcap (ns + 1) cs - cs)) by omega) (fun vv ww H locs hRR B => ?_)
  obtain ⟨a'_9, f'_10, c'_11, rfl, rfl, hxa2, hf2⟩ := hRR
  have hX_12 := zX_tr hX_6 hxa2
  have hX_12e := zX_cap hxa2 (hX_6).2.2.1.1
  have hX_121 := (hxa2).2.1; have hX_122 := (hX_6).2.1; have hX_123 := (hX_12).1; have hX_124 := (hX_12).2.2.1.2.1
  refine W.widen (k := (c'_11 - cl) + (cs - cs)) (n := 2 * ((c'_11 - cl) + (cs - cs))) (by omega) (by omega) ?_
  have B : zB D (zT cI cZ cG cJ) A s.heap s [(fo, .inr (2, [.ref mo, .int (nI pv), .int (nI va), .int (nI fh), .int (nI fs), .int (nI fk), .ref lo, .ref so, .ref to])), (so, .inr (6, [.ref sa, .int (nI ns)])), (sa, .inl (cI, cs, .inl ft)), (lo, .inr (6, [.ref a'_9, .int (nI ((nl + 1) + 1))])), (a'_9, .inl (cI, c'_11, .inl f'_10))] _ _ := B
  refine W.eq (g2 := F0 m 16 ls []) rfl ?_
  refine lv_aload_n F.1 F.2.1 dX0_clause__16 rfl (lv_at hl 0 rfl) ?_
  refine z_get F B 0 rfl (ci := 2) (C := RX0) (T := TX0) (N := 9) rfl iX0_clause__X0 7 (by decide) fX0_clause__16 rfl dX0_clause__17 ?_
  refine lv_aload_n F.1 F.2.1 dX0_clause__20 rfl (lv_at hl 0 rfl) ?_
  refine z_get F B 0 rfl (ci := 2) (C := RX0) (T := TX0) (N := 9) rfl iX0_clause__X0 6 (by decide) fX0_clause__10 rfl dX0_clause__21 ?_
  refine z_get F B 3 rfl (ci := 6) (C := RX4) (T := TX4) (N := 2) rfl iX0_clause__X4 1 (by decide) fX0_clause__26 rfl dX0_clause__24 ?_
  have qr_13 := zX_rm hX_12 (n' := (nl + 1) + 1) (N := nl + 2) (by omega) (by omega)
  have qr_14 := zX_rm (zX_rf hws) (n' := ns + 1) (N := ns + 1) (by omega) (by omega)
  refine z_callV (wr := [(fo, .inr (2, [.ref mo, .int (nI pv), .int (nI va), .int (nI fh), .int (nI fs), .int (nI fk), .ref lo, .ref so, .ref to])), (lo, .inr (6, [.ref a'_9, .int (nI ((nl + 1) + 1))])), (a'_9, .inl (cI, c'_11, .inl f'_10))]) (rest := []) (As := [.int (nI ((nl + 1) + 1))]) F B (kX4_add l D cI cZ cG cJ so sa ns cs ft (zst Cs) ((nl + 1) + 1) (hF.2) (hws) (by omega)) hl.1 (C := RX4) (T := TX4) (N := 2) (ci := 6) (q0 := 1) gX0_clause__X4_add rfl 1 yX0_clause__X4_add rfl rfl rfl [1, 2] [0, 3, 4] rfl rfl rfl rfl (by decide) (Nat.le_of_ble_eq_true rfl) (Nat.le_of_ble_eq_true rfl) (Nat.le_of_ble_eq_true rfl) rfl dX0_clause__27 (show (c'_11 - cl) + (cs - cs) + (zcap (ns + 1) cs - cs) ≤ (zcap (nl + 2) cl - cl) + (zcap (ns + 1) cs - cs) by omega) (show 2 * ((c'_11 - cl) + (cs - cs)) + (2 * ((zcap (ns + 1) cs - cs))) ≤ 2 * ((zcap (nl + 2) cl - cl) + (zcap (ns + 1) cs - cs)) by omega) (fun vv ww H locs hRR B => ?_)
  obtain ⟨a'_15, f'_16, c'_17, rfl, rfl, hxs1, hfs⟩ := hRR
  have hX_18 := zX_tr (zX_rf hws) hxs1
  have hX_18e := zX_cap hxs1 ((zX_rf hws)).2.2.1.1
  have hX_181 := (hxs1).2.1; have hX_182 := ((zX_rf hws)).2.1; have hX_183 := (hX_18).1; have hX_184 := (hX_18).2.2.1.2.1
  refine W.widen (k := (c'_11 - cl) + (c'_17 - cs)) (n := 2 * ((c'_11 - cl) + (c'_17 - cs))) (by omega) (by omega) ?_
  have B : zB D (zT cI cZ cG cJ) A s.heap s [(fo, .inr (2, [.ref mo, .int (nI pv), .int (nI va), .int (nI fh), .int (nI fs), .int (nI fk), .ref lo, .ref so, .ref to])), (lo, .inr (6, [.ref a'_9, .int (nI ((nl + 1) + 1))])), (a'_9, .inl (cI, c'_11, .inl f'_10)), (so, .inr (6, [.ref a'_15, .int (nI (ns + 1))])), (a'_15, .inl (cI, c'_17, .inl f'_16))] _ _ := B
  refine W.eq (g2 := F0 m 30 ls []) rfl ?_
  have qe_19 := zX_rm hX_12 (n' := (nl + 1) + 1) (N := nl + 2) (Nat.le_refl _) (by omega)
  have qe_20 := zX_rm hX_18 (n' := ns + 1) (N := ns + 1) (Nat.le_refl _) (by omega)
  exact z_vret F hr hlk B [0, 1, 2, 3, 4] rfl (rfl) dX0_clause__30 (by omega) (by omega) ⟨a'_9, c'_11, f'_10, a'_15, c'_17, f'_16, rfl, rfl, hX_12, hX_18, (zF_add (c := [a1, a2]) (by simpa [List.append_assoc] using hf2) hfs)⟩
theorem iX0_clause___X0 : ∀ w ∈ u_ws RX0 TX0 9, w ∈ wsX0_clause__ := by decide +kernel
theorem fX0_clause___10 : Cond.fieldLink RX0 10 "TourChain$Formula" "literals" "LTourChain$Row;" ∈ wsX0_clause__ := by decide +kernel
theorem yX0_clause___X4_add : yX4_add.cls = RX4 ∧ yX4_add.cls ≠ "java/lang/invoke/MethodHandle" ∧ yX4_add.cls ≠ "java/lang/invoke/VarHandle" ∧ (parseMethodDescriptor yX4_add.desc).map (fun d => d.parameters.length) = some 1 := by decide +kernel
theorem fX0_clause___16 : Cond.fieldLink RX0 16 "TourChain$Formula" "starts" "LTourChain$Row;" ∈ wsX0_clause__ := by decide +kernel
theorem iX0_clause___X4 : ∀ w ∈ u_ws RX4 TX4 2, w ∈ wsX0_clause__ := by decide +kernel
theorem fX0_clause___26 : Cond.fieldLink RX0 26 "TourChain$Row" "size" "I" ∈ wsX0_clause__ := by decide +kernel
set_option maxHeartbeats 4000000 in
set_option maxRecDepth 100000 in
theorem kX0_clause__ (l : Launch) (D : va_G) (cI cZ cG cJ : ClassId) (fo : Nat) (mo : Nat) (pv : Nat) (va : Nat) (fh : Nat) (fs : Nat) (fk : Nat) (lo : Nat) (so : Nat) (to : Nat) (la : Nat) (nl : Nat) (cl : Nat) (fl : Nat → Int32) (sa : Nat) (ns : Nat) (cs : Nat) (ft : Nat → Int32) (Cs : List (List Nat)) (a1 : Nat) (a2 : Nat) (a3 : Nat) (hF : zF fl nl ft ns Cs) (hwl : zW nl cl) (hws : zW ns cs) (hbl : nl + 3 ≤ 8192) (hbs : ns + 1 ≤ 8192) : zC l yX0_clause__ wsX0_clause__ 3 83 ((zcap (nl + 3) cl - cl) + (zcap (ns + 1) cs - cs)) (2 * ((zcap (nl + 3) cl - cl) + (zcap (ns + 1) cs - cs))) D (zT cI cZ cG cJ) [.ref fo, .int (nI a1), .int (nI a2), .int (nI a3)] [(fo, .inr (2, [.ref mo, .int (nI pv), .int (nI va), .int (nI fh), .int (nI fs), .int (nI fk), .ref lo, .ref so, .ref to])), (lo, .inr (6, [.ref la, .int (nI nl)])), (la, .inl (cI, cl, .inl fl)), (so, .inr (6, [.ref sa, .int (nI ns)])), (sa, .inl (cI, cs, .inl ft))] (fun (v : Option Value) (w : va_W) => ∃ la' : Nat, ∃ cl' : Nat, ∃ fl' : Nat → Int32, ∃ sa' : Nat, ∃ cs' : Nat, ∃ ft' : Nat → Int32, v = none ∧ w = [(fo, .inr (2, [.ref mo, .int (nI pv), .int (nI va), .int (nI fh), .int (nI fs), .int (nI fk), .ref lo, .ref so, .ref to])), (lo, .inr (6, [.ref la', .int (nI (nl + 3))])), (la', .inl (cI, cl', .inl fl')), (so, .inr (6, [.ref sa', .int (nI (ns + 1))])), (sa', .inl (cI, cs', .inl ft'))] ∧ zX nl cl (nl + 3) cl' ∧ zX ns cs (ns + 1) cs' ∧ zF fl' (nl + 3) ft' (ns + 1) (Cs ++ ([[a1, a2, a3]]))) := by
  refine zC.of (cc := cX0_clause__) (maxL := 4) (ret := none) (by decide) rfl (Nat.le_of_ble_eq_true rfl) ?_
  intro p e s m below meth c A ls F hr hlk hnm B hl
  have hl : lv_has ls 4 [(0, .ref fo), (1, .int (nI a1)), (2, .int (nI a2)), (3, .int (nI a3))] := hl
  refine lv_aload_n F.1 F.2.1 dX0_clause___0 rfl (lv_at hl 0 rfl) ?_
  refine z_get F B 0 rfl (ci := 2) (C := RX0) (T := TX0) (N := 9) rfl iX0_clause___X0 6 (by decide) fX0_clause___10 rfl dX0_clause___1 ?_
  refine lv_iload_n F.1 F.2.1 dX0_clause___4 rfl (lv_at hl 1 rfl) ?_
  have qr_1 := zX_rm (zX_rf hwl) (n' := nl + 1) (N := nl + 3) (by omega) (by omega)
  have qr_2 := zX_rm (zX_rf hws) (n' := ns) (N := ns + 1) (by omega) (by omega)
  refine z_callV (wr := [(fo, .inr (2, [.ref mo, .int (nI pv), .int (nI va), .int (nI fh), .int (nI fs), .int (nI fk), .ref lo, .ref so, .ref to])), (so, .inr (6, [.ref sa, .int (nI ns)])), (sa, .inl (cI, cs, .inl ft))]) (rest := []) (As := [.int (nI a1)]) F B (kX4_add l D cI cZ cG cJ lo la nl cl fl Cs.flatten a1 (hF.1) (hwl) (by omega)) hl.1 (C := RX4) (T := TX4) (N := 2) (ci := 6) (q0 := 1) gX0_clause___X4_add rfl 1 yX0_clause___X4_add rfl rfl rfl [1, 2] [0, 3, 4] rfl rfl rfl rfl (by decide) (Nat.le_of_ble_eq_true rfl) (Nat.le_of_ble_eq_true rfl) (Nat.le_of_ble_eq_true rfl) rfl dX0_clause___5 (show 0 + (zcap (nl + 1) cl - cl) ≤ (zcap (nl + 3) cl - cl) + (zcap (ns + 1) cs - cs) by omega) (show 0 + (2 * ((zcap (nl + 1) cl - cl))) ≤ 2 * ((zcap (nl + 3) cl - cl) + (zcap (ns + 1) cs - cs)) by omega) (fun vv ww H locs hRR B => ?_)
  obtain ⟨a'_3, f'_4, c'_5, rfl, rfl, hxa1, hf1⟩ := hRR
  have hX_6 := zX_tr (zX_rf hwl) hxa1
  have hX_6e := zX_cap hxa1 ((zX_rf hwl)).2.2.1.1
  have hX_61 := (hxa1).2.1; have hX_62 := ((zX_rf hwl)).2.1; have hX_63 := (hX_6).1; have hX_64 := (hX_6).2.2.1.2.1
  refine W.widen (k := (c'_5 - cl) + (cs - cs)) (n := 2 * ((c'_5 - cl) + (cs - cs))) (by omega) (by omega) ?_
  have B : zB D (zT cI cZ cG cJ) A s.heap s [(fo, .inr (2, [.ref mo, .int (nI pv), .int (nI va), .int (nI fh), .int (nI fs), .int (nI fk), .ref lo, .ref so, .ref to])), (so, .inr (6, [.ref sa, .int (nI ns)])), (sa, .inl (cI, cs, .inl ft)), (lo, .inr (6, [.ref a'_3, .int (nI (nl + 1))])), (a'_3, .inl (cI, c'_5, .inl f'_4))] _ _ := B
  refine W.eq (g2 := F0 m 8 ls []) rfl ?_
  refine lv_aload_n F.1 F.2.1 dX0_clause___8 rfl (lv_at hl 0 rfl) ?_
  refine z_get F B 0 rfl (ci := 2) (C := RX0) (T := TX0) (N := 9) rfl iX0_clause___X0 6 (by decide) fX0_clause___10 rfl dX0_clause___9 ?_
  refine lv_iload_n F.1 F.2.1 dX0_clause___12 rfl (lv_at hl 2 rfl) ?_
  have qr_7 := zX_rm hX_6 (n' := (nl + 1) + 1) (N := nl + 3) (by omega) (by omega)
  have qr_8 := zX_rm (zX_rf hws) (n' := ns) (N := ns + 1) (by omega) (by omega)
  refine z_callV (wr := [(fo, .inr (2, [.ref mo, .int (nI pv), .int (nI va), .int (nI fh), .int (nI fs), .int (nI fk), .ref lo, .ref so, .ref to])), (so, .inr (6, [.ref sa, .int (nI ns)])), (sa, .inl (cI, cs, .inl ft))]) (rest := []) (As := [.int (nI a2)]) F B (kX4_add l D cI cZ cG cJ lo a'_3 (nl + 1) c'_5 f'_4 (Cs.flatten ++ [a1]) a2 (hf1) (hxa1.2.2.1) (by omega)) hl.1 (C := RX4) (T := TX4) (N := 2) (ci := 6) (q0 := 3) gX0_clause___X4_add rfl 1 yX0_clause___X4_add rfl rfl rfl [3, 4] [0, 1, 2] rfl rfl rfl rfl (by decide) (Nat.le_of_ble_eq_true rfl) (Nat.le_of_ble_eq_true rfl) (Nat.le_of_ble_eq_true rfl) rfl dX0_clause___13 (show (c'_5 - cl) + (cs - cs) + (zcap ((nl + 1) + 1) c'_5 - c'_5) ≤ (zcap (nl + 3) cl - cl) + (zcap (ns + 1) cs - cs) by omega) (show 2 * ((c'_5 - cl) + (cs - cs)) + (2 * ((zcap ((nl + 1) + 1) c'_5 - c'_5))) ≤ 2 * ((zcap (nl + 3) cl - cl) + (zcap (ns + 1) cs - cs)) by omega) (fun vv ww H locs hRR B => ?_)
  obtain ⟨a'_9, f'_10, c'_11, rfl, rfl, hxa2, hf2⟩ := hRR
  have hX_12 := zX_tr hX_6 hxa2
  have hX_12e := zX_cap hxa2 (hX_6).2.2.1.1
  have hX_121 := (hxa2).2.1; have hX_122 := (hX_6).2.1; have hX_123 := (hX_12).1; have hX_124 := (hX_12).2.2.1.2.1
  refine W.widen (k := (c'_11 - cl) + (cs - cs)) (n := 2 * ((c'_11 - cl) + (cs - cs))) (by omega) (by omega) ?_
  have B : zB D (zT cI cZ cG cJ) A s.heap s [(fo, .inr (2, [.ref mo, .int (nI pv), .int (nI va), .int (nI fh), .int (nI fs), .int (nI fk), .ref lo, .ref so, .ref to])), (so, .inr (6, [.ref sa, .int (nI ns)])), (sa, .inl (cI, cs, .inl ft)), (lo, .inr (6, [.ref a'_9, .int (nI ((nl + 1) + 1))])), (a'_9, .inl (cI, c'_11, .inl f'_10))] _ _ := B
  refine W.eq (g2 := F0 m 16 ls []) rfl ?_
  refine lv_aload_n F.1 F.2.1 dX0_clause___16 rfl (lv_at hl 0 rfl) ?_
  refine z_get F B 0 rfl (ci := 2) (C := RX0) (T := TX0) (N := 9) rfl iX0_clause___X0 6 (by decide) fX0_clause___10 rfl dX0_clause___17 ?_
  refine lv_iload_n F.1 F.2.1 dX0_clause___20 rfl (lv_at hl 3 rfl) ?_
  have qr_13 := zX_rm hX_12 (n' := ((nl + 1) + 1) + 1) (N := nl + 3) (by omega) (by omega)
  have qr_14 := zX_rm (zX_rf hws) (n' := ns) (N := ns + 1) (by omega) (by omega)
  refine z_callV (wr := [(fo, .inr (2, [.ref mo, .int (nI pv), .int (nI va), .int (nI fh), .int (nI fs), .int (nI fk), .ref lo, .ref so, .ref to])), (so, .inr (6, [.ref sa, .int (nI ns)])), (sa, .inl (cI, cs, .inl ft))]) (rest := []) (As := [.int (nI a3)]) F B (kX4_add l D cI cZ cG cJ lo a'_9 ((nl + 1) + 1) c'_11 f'_10 (Cs.flatten ++ [a1] ++ [a2]) a3 (hf2) (hxa2.2.2.1) (by omega)) hl.1 (C := RX4) (T := TX4) (N := 2) (ci := 6) (q0 := 3) gX0_clause___X4_add rfl 1 yX0_clause___X4_add rfl rfl rfl [3, 4] [0, 1, 2] rfl rfl rfl rfl (by decide) (Nat.le_of_ble_eq_true rfl) (Nat.le_of_ble_eq_true rfl) (Nat.le_of_ble_eq_true rfl) rfl dX0_clause___21 (show (c'_11 - cl) + (cs - cs) + (zcap (((nl + 1) + 1) + 1) c'_11 - c'_11) ≤ (zcap (nl + 3) cl - cl) + (zcap (ns + 1) cs - cs) by omega) (show 2 * ((c'_11 - cl) + (cs - cs)) + (2 * ((zcap (((nl + 1) + 1) + 1) c'_11 - c'_11))) ≤ 2 * ((zcap (nl + 3) cl - cl) + (zcap (ns + 1) cs - cs)) by omega) (fun vv ww H locs hRR B => ?_)
  obtain ⟨a'_15, f'_16, c'_17, rfl, rfl, hxa3, hf3⟩ := hRR
  have hX_18 := zX_tr hX_12 hxa3
  have hX_18e := zX_cap hxa3 (hX_12).2.2.1.1
  have hX_181 := (hxa3).2.1; have hX_182 := (hX_12).2.1; have hX_183 := (hX_18).1; have hX_184 := (hX_18).2.2.1.2.1
  refine W.widen (k := (c'_17 - cl) + (cs - cs)) (n := 2 * ((c'_17 - cl) + (cs - cs))) (by omega) (by omega) ?_
  have B : zB D (zT cI cZ cG cJ) A s.heap s [(fo, .inr (2, [.ref mo, .int (nI pv), .int (nI va), .int (nI fh), .int (nI fs), .int (nI fk), .ref lo, .ref so, .ref to])), (so, .inr (6, [.ref sa, .int (nI ns)])), (sa, .inl (cI, cs, .inl ft)), (lo, .inr (6, [.ref a'_15, .int (nI (((nl + 1) + 1) + 1))])), (a'_15, .inl (cI, c'_17, .inl f'_16))] _ _ := B
  refine W.eq (g2 := F0 m 24 ls []) rfl ?_
  refine lv_aload_n F.1 F.2.1 dX0_clause___24 rfl (lv_at hl 0 rfl) ?_
  refine z_get F B 0 rfl (ci := 2) (C := RX0) (T := TX0) (N := 9) rfl iX0_clause___X0 7 (by decide) fX0_clause___16 rfl dX0_clause___25 ?_
  refine lv_aload_n F.1 F.2.1 dX0_clause___28 rfl (lv_at hl 0 rfl) ?_
  refine z_get F B 0 rfl (ci := 2) (C := RX0) (T := TX0) (N := 9) rfl iX0_clause___X0 6 (by decide) fX0_clause___10 rfl dX0_clause___29 ?_
  refine z_get F B 3 rfl (ci := 6) (C := RX4) (T := TX4) (N := 2) rfl iX0_clause___X4 1 (by decide) fX0_clause___26 rfl dX0_clause___32 ?_
  have qr_19 := zX_rm hX_18 (n' := ((nl + 1) + 1) + 1) (N := nl + 3) (by omega) (by omega)
  have qr_20 := zX_rm (zX_rf hws) (n' := ns + 1) (N := ns + 1) (by omega) (by omega)
  refine z_callV (wr := [(fo, .inr (2, [.ref mo, .int (nI pv), .int (nI va), .int (nI fh), .int (nI fs), .int (nI fk), .ref lo, .ref so, .ref to])), (lo, .inr (6, [.ref a'_15, .int (nI (((nl + 1) + 1) + 1))])), (a'_15, .inl (cI, c'_17, .inl f'_16))]) (rest := []) (As := [.int (nI (((nl + 1) + 1) + 1))]) F B (kX4_add l D cI cZ cG cJ so sa ns cs ft (zst Cs) (((nl + 1) + 1) + 1) (hF.2) (hws) (by omega)) hl.1 (C := RX4) (T := TX4) (N := 2) (ci := 6) (q0 := 1) gX0_clause___X4_add rfl 1 yX0_clause___X4_add rfl rfl rfl [1, 2] [0, 3, 4] rfl rfl rfl rfl (by decide) (Nat.le_of_ble_eq_true rfl) (Nat.le_of_ble_eq_true rfl) (Nat.le_of_ble_eq_true rfl) rfl dX0_clause___35 (show (c'_17 - cl) + (cs - cs) + (zcap (ns + 1) cs - cs) ≤ (zcap (nl + 3) cl - cl) + (zcap (ns + 1) cs - cs) by omega) (show 2 * ((c'_17 - cl) + (cs - cs)) + (2 * ((zcap (ns + 1) cs - cs))) ≤ 2 * ((zcap (nl + 3) cl - cl) + (zcap (ns + 1) cs - cs)) by omega) (fun vv ww H locs hRR B => ?_)
  obtain ⟨a'_21, f'_22, c'_23, rfl, rfl, hxs1, hfs⟩ := hRR
  have hX_24 := zX_tr (zX_rf hws) hxs1
  have hX_24e := zX_cap hxs1 ((zX_rf hws)).2.2.1.1
  have hX_241 := (hxs1).2.1; have hX_242 := ((zX_rf hws)).2.1; have hX_243 := (hX_24).1; have hX_244 := (hX_24).2.2.1.2.1
  refine W.widen (k := (c'_17 - cl) + (c'_23 - cs)) (n := 2 * ((c'_17 - cl) + (c'_23 - cs))) (by omega) (by omega) ?_
  have B : zB D (zT cI cZ cG cJ) A s.heap s [(fo, .inr (2, [.ref mo, .int (nI pv), .int (nI va), .int (nI fh), .int (nI fs), .int (nI fk), .ref lo, .ref so, .ref to])), (lo, .inr (6, [.ref a'_15, .int (nI (((nl + 1) + 1) + 1))])), (a'_15, .inl (cI, c'_17, .inl f'_16)), (so, .inr (6, [.ref a'_21, .int (nI (ns + 1))])), (a'_21, .inl (cI, c'_23, .inl f'_22))] _ _ := B
  refine W.eq (g2 := F0 m 38 ls []) rfl ?_
  have qe_25 := zX_rm hX_18 (n' := ((nl + 1) + 1) + 1) (N := nl + 3) (Nat.le_refl _) (by omega)
  have qe_26 := zX_rm hX_24 (n' := ns + 1) (N := ns + 1) (Nat.le_refl _) (by omega)
  exact z_vret F hr hlk B [0, 1, 2, 3, 4] rfl (rfl) dX0_clause___38 (by omega) (by omega) ⟨a'_15, c'_17, f'_16, a'_21, c'_23, f'_22, rfl, rfl, hX_18, hX_24, (zF_add (c := [a1, a2, a3]) (by simpa [List.append_assoc] using hf3) hfs)⟩
theorem iX0_clause____X0 : ∀ w ∈ u_ws RX0 TX0 9, w ∈ wsX0_clause___ := by decide +kernel
theorem fX0_clause____10 : Cond.fieldLink RX0 10 "TourChain$Formula" "literals" "LTourChain$Row;" ∈ wsX0_clause___ := by decide +kernel
theorem yX0_clause____X4_add : yX4_add.cls = RX4 ∧ yX4_add.cls ≠ "java/lang/invoke/MethodHandle" ∧ yX4_add.cls ≠ "java/lang/invoke/VarHandle" ∧ (parseMethodDescriptor yX4_add.desc).map (fun d => d.parameters.length) = some 1 := by decide +kernel
theorem fX0_clause____16 : Cond.fieldLink RX0 16 "TourChain$Formula" "starts" "LTourChain$Row;" ∈ wsX0_clause___ := by decide +kernel
theorem iX0_clause____X4 : ∀ w ∈ u_ws RX4 TX4 2, w ∈ wsX0_clause___ := by decide +kernel
theorem fX0_clause____26 : Cond.fieldLink RX0 26 "TourChain$Row" "size" "I" ∈ wsX0_clause___ := by decide +kernel
set_option maxHeartbeats 4000000 in
set_option maxRecDepth 100000 in
theorem kX0_clause___ (l : Launch) (D : va_G) (cI cZ cG cJ : ClassId) (fo : Nat) (mo : Nat) (pv : Nat) (va : Nat) (fh : Nat) (fs : Nat) (fk : Nat) (lo : Nat) (so : Nat) (to : Nat) (la : Nat) (nl : Nat) (cl : Nat) (fl : Nat → Int32) (sa : Nat) (ns : Nat) (cs : Nat) (ft : Nat → Int32) (Cs : List (List Nat)) (a1 : Nat) (a2 : Nat) (a3 : Nat) (a4 : Nat) (hF : zF fl nl ft ns Cs) (hwl : zW nl cl) (hws : zW ns cs) (hbl : nl + 4 ≤ 8192) (hbs : ns + 1 ≤ 8192) : zC l yX0_clause___ wsX0_clause___ 3 83 ((zcap (nl + 4) cl - cl) + (zcap (ns + 1) cs - cs)) (2 * ((zcap (nl + 4) cl - cl) + (zcap (ns + 1) cs - cs))) D (zT cI cZ cG cJ) [.ref fo, .int (nI a1), .int (nI a2), .int (nI a3), .int (nI a4)] [(fo, .inr (2, [.ref mo, .int (nI pv), .int (nI va), .int (nI fh), .int (nI fs), .int (nI fk), .ref lo, .ref so, .ref to])), (lo, .inr (6, [.ref la, .int (nI nl)])), (la, .inl (cI, cl, .inl fl)), (so, .inr (6, [.ref sa, .int (nI ns)])), (sa, .inl (cI, cs, .inl ft))] (fun (v : Option Value) (w : va_W) => ∃ la' : Nat, ∃ cl' : Nat, ∃ fl' : Nat → Int32, ∃ sa' : Nat, ∃ cs' : Nat, ∃ ft' : Nat → Int32, v = none ∧ w = [(fo, .inr (2, [.ref mo, .int (nI pv), .int (nI va), .int (nI fh), .int (nI fs), .int (nI fk), .ref lo, .ref so, .ref to])), (lo, .inr (6, [.ref la', .int (nI (nl + 4))])), (la', .inl (cI, cl', .inl fl')), (so, .inr (6, [.ref sa', .int (nI (ns + 1))])), (sa', .inl (cI, cs', .inl ft'))] ∧ zX nl cl (nl + 4) cl' ∧ zX ns cs (ns + 1) cs' ∧ zF fl' (nl + 4) ft' (ns + 1) (Cs ++ ([[a1, a2, a3, a4]]))) := by
  refine zC.of (cc := cX0_clause___) (maxL := 5) (ret := none) (by decide) rfl (Nat.le_of_ble_eq_true rfl) ?_
  intro p e s m below meth c A ls F hr hlk hnm B hl
  have hl : lv_has ls 5 [(0, .ref fo), (1, .int (nI a1)), (2, .int (nI a2)), (3, .int (nI a3)), (4, .int (nI a4))] := hl
  refine lv_aload_n F.1 F.2.1 dX0_clause____0 rfl (lv_at hl 0 rfl) ?_
  refine z_get F B 0 rfl (ci := 2) (C := RX0) (T := TX0) (N := 9) rfl iX0_clause____X0 6 (by decide) fX0_clause____10 rfl dX0_clause____1 ?_
  refine lv_iload_n F.1 F.2.1 dX0_clause____4 rfl (lv_at hl 1 rfl) ?_
  have qr_1 := zX_rm (zX_rf hwl) (n' := nl + 1) (N := nl + 4) (by omega) (by omega)
  have qr_2 := zX_rm (zX_rf hws) (n' := ns) (N := ns + 1) (by omega) (by omega)
  refine z_callV (wr := [(fo, .inr (2, [.ref mo, .int (nI pv), .int (nI va), .int (nI fh), .int (nI fs), .int (nI fk), .ref lo, .ref so, .ref to])), (so, .inr (6, [.ref sa, .int (nI ns)])), (sa, .inl (cI, cs, .inl ft))]) (rest := []) (As := [.int (nI a1)]) F B (kX4_add l D cI cZ cG cJ lo la nl cl fl Cs.flatten a1 (hF.1) (hwl) (by omega)) hl.1 (C := RX4) (T := TX4) (N := 2) (ci := 6) (q0 := 1) gX0_clause____X4_add rfl 1 yX0_clause____X4_add rfl rfl rfl [1, 2] [0, 3, 4] rfl rfl rfl rfl (by decide) (Nat.le_of_ble_eq_true rfl) (Nat.le_of_ble_eq_true rfl) (Nat.le_of_ble_eq_true rfl) rfl dX0_clause____5 (show 0 + (zcap (nl + 1) cl - cl) ≤ (zcap (nl + 4) cl - cl) + (zcap (ns + 1) cs - cs) by omega) (show 0 + (2 * ((zcap (nl + 1) cl - cl))) ≤ 2 * ((zcap (nl + 4) cl - cl) + (zcap (ns + 1) cs - cs)) by omega) (fun vv ww H locs hRR B => ?_)
  obtain ⟨a'_3, f'_4, c'_5, rfl, rfl, hxa1, hf1⟩ := hRR
  have hX_6 := zX_tr (zX_rf hwl) hxa1
  have hX_6e := zX_cap hxa1 ((zX_rf hwl)).2.2.1.1
  have hX_61 := (hxa1).2.1; have hX_62 := ((zX_rf hwl)).2.1; have hX_63 := (hX_6).1; have hX_64 := (hX_6).2.2.1.2.1
  refine W.widen (k := (c'_5 - cl) + (cs - cs)) (n := 2 * ((c'_5 - cl) + (cs - cs))) (by omega) (by omega) ?_
  have B : zB D (zT cI cZ cG cJ) A s.heap s [(fo, .inr (2, [.ref mo, .int (nI pv), .int (nI va), .int (nI fh), .int (nI fs), .int (nI fk), .ref lo, .ref so, .ref to])), (so, .inr (6, [.ref sa, .int (nI ns)])), (sa, .inl (cI, cs, .inl ft)), (lo, .inr (6, [.ref a'_3, .int (nI (nl + 1))])), (a'_3, .inl (cI, c'_5, .inl f'_4))] _ _ := B
  refine W.eq (g2 := F0 m 8 ls []) rfl ?_
  refine lv_aload_n F.1 F.2.1 dX0_clause____8 rfl (lv_at hl 0 rfl) ?_
  refine z_get F B 0 rfl (ci := 2) (C := RX0) (T := TX0) (N := 9) rfl iX0_clause____X0 6 (by decide) fX0_clause____10 rfl dX0_clause____9 ?_
  refine lv_iload_n F.1 F.2.1 dX0_clause____12 rfl (lv_at hl 2 rfl) ?_
  have qr_7 := zX_rm hX_6 (n' := (nl + 1) + 1) (N := nl + 4) (by omega) (by omega)
  have qr_8 := zX_rm (zX_rf hws) (n' := ns) (N := ns + 1) (by omega) (by omega)
  refine z_callV (wr := [(fo, .inr (2, [.ref mo, .int (nI pv), .int (nI va), .int (nI fh), .int (nI fs), .int (nI fk), .ref lo, .ref so, .ref to])), (so, .inr (6, [.ref sa, .int (nI ns)])), (sa, .inl (cI, cs, .inl ft))]) (rest := []) (As := [.int (nI a2)]) F B (kX4_add l D cI cZ cG cJ lo a'_3 (nl + 1) c'_5 f'_4 (Cs.flatten ++ [a1]) a2 (hf1) (hxa1.2.2.1) (by omega)) hl.1 (C := RX4) (T := TX4) (N := 2) (ci := 6) (q0 := 3) gX0_clause____X4_add rfl 1 yX0_clause____X4_add rfl rfl rfl [3, 4] [0, 1, 2] rfl rfl rfl rfl (by decide) (Nat.le_of_ble_eq_true rfl) (Nat.le_of_ble_eq_true rfl) (Nat.le_of_ble_eq_true rfl) rfl dX0_clause____13 (show (c'_5 - cl) + (cs - cs) + (zcap ((nl + 1) + 1) c'_5 - c'_5) ≤ (zcap (nl + 4) cl - cl) + (zcap (ns + 1) cs - cs) by omega) (show 2 * ((c'_5 - cl) + (cs - cs)) + (2 * ((zcap ((nl + 1) + 1) c'_5 - c'_5))) ≤ 2 * ((zcap (nl + 4) cl - cl) + (zcap (ns + 1) cs - cs)) by omega) (fun vv ww H locs hRR B => ?_)
  obtain ⟨a'_9, f'_10, c'_11, rfl, rfl, hxa2, hf2⟩ := hRR
  have hX_12 := zX_tr hX_6 hxa2
  have hX_12e := zX_cap hxa2 (hX_6).2.2.1.1
  have hX_121 := (hxa2).2.1; have hX_122 := (hX_6).2.1; have hX_123 := (hX_12).1; have hX_124 := (hX_12).2.2.1.2.1
  refine W.widen (k := (c'_11 - cl) + (cs - cs)) (n := 2 * ((c'_11 - cl) + (cs - cs))) (by omega) (by omega) ?_
  have B : zB D (zT cI cZ cG cJ) A s.heap s [(fo, .inr (2, [.ref mo, .int (nI pv), .int (nI va), .int (nI fh), .int (nI fs), .int (nI fk), .ref lo, .ref so, .ref to])), (so, .inr (6, [.ref sa, .int (nI ns)])), (sa, .inl (cI, cs, .inl ft)), (lo, .inr (6, [.ref a'_9, .int (nI ((nl + 1) + 1))])), (a'_9, .inl (cI, c'_11, .inl f'_10))] _ _ := B
  refine W.eq (g2 := F0 m 16 ls []) rfl ?_
  refine lv_aload_n F.1 F.2.1 dX0_clause____16 rfl (lv_at hl 0 rfl) ?_
  refine z_get F B 0 rfl (ci := 2) (C := RX0) (T := TX0) (N := 9) rfl iX0_clause____X0 6 (by decide) fX0_clause____10 rfl dX0_clause____17 ?_
  refine lv_iload_n F.1 F.2.1 dX0_clause____20 rfl (lv_at hl 3 rfl) ?_
  have qr_13 := zX_rm hX_12 (n' := ((nl + 1) + 1) + 1) (N := nl + 4) (by omega) (by omega)
  have qr_14 := zX_rm (zX_rf hws) (n' := ns) (N := ns + 1) (by omega) (by omega)
  refine z_callV (wr := [(fo, .inr (2, [.ref mo, .int (nI pv), .int (nI va), .int (nI fh), .int (nI fs), .int (nI fk), .ref lo, .ref so, .ref to])), (so, .inr (6, [.ref sa, .int (nI ns)])), (sa, .inl (cI, cs, .inl ft))]) (rest := []) (As := [.int (nI a3)]) F B (kX4_add l D cI cZ cG cJ lo a'_9 ((nl + 1) + 1) c'_11 f'_10 (Cs.flatten ++ [a1] ++ [a2]) a3 (hf2) (hxa2.2.2.1) (by omega)) hl.1 (C := RX4) (T := TX4) (N := 2) (ci := 6) (q0 := 3) gX0_clause____X4_add rfl 1 yX0_clause____X4_add rfl rfl rfl [3, 4] [0, 1, 2] rfl rfl rfl rfl (by decide) (Nat.le_of_ble_eq_true rfl) (Nat.le_of_ble_eq_true rfl) (Nat.le_of_ble_eq_true rfl) rfl dX0_clause____21 (show (c'_11 - cl) + (cs - cs) + (zcap (((nl + 1) + 1) + 1) c'_11 - c'_11) ≤ (zcap (nl + 4) cl - cl) + (zcap (ns + 1) cs - cs) by omega) (show 2 * ((c'_11 - cl) + (cs - cs)) + (2 * ((zcap (((nl + 1) + 1) + 1) c'_11 - c'_11))) ≤ 2 * ((zcap (nl + 4) cl - cl) + (zcap (ns + 1) cs - cs)) by omega) (fun vv ww H locs hRR B => ?_)
  obtain ⟨a'_15, f'_16, c'_17, rfl, rfl, hxa3, hf3⟩ := hRR
  have hX_18 := zX_tr hX_12 hxa3
  have hX_18e := zX_cap hxa3 (hX_12).2.2.1.1
  have hX_181 := (hxa3).2.1; have hX_182 := (hX_12).2.1; have hX_183 := (hX_18).1; have hX_184 := (hX_18).2.2.1.2.1
  refine W.widen (k := (c'_17 - cl) + (cs - cs)) (n := 2 * ((c'_17 - cl) + (cs - cs))) (by omega) (by omega) ?_
  have B : zB D (zT cI cZ cG cJ) A s.heap s [(fo, .inr (2, [.ref mo, .int (nI pv), .int (nI va), .int (nI fh), .int (nI fs), .int (nI fk), .ref lo, .ref so, .ref to])), (so, .inr (6, [.ref sa, .int (nI ns)])), (sa, .inl (cI, cs, .inl ft)), (lo, .inr (6, [.ref a'_15, .int (nI (((nl + 1) + 1) + 1))])), (a'_15, .inl (cI, c'_17, .inl f'_16))] _ _ := B
  refine W.eq (g2 := F0 m 24 ls []) rfl ?_
  refine lv_aload_n F.1 F.2.1 dX0_clause____24 rfl (lv_at hl 0 rfl) ?_
  refine z_get F B 0 rfl (ci := 2) (C := RX0) (T := TX0) (N := 9) rfl iX0_clause____X0 6 (by decide) fX0_clause____10 rfl dX0_clause____25 ?_
  refine lv_iload F.1 F.2.1 dX0_clause____28 (lv_at hl 4 rfl) ?_
  have qr_19 := zX_rm hX_18 (n' := (((nl + 1) + 1) + 1) + 1) (N := nl + 4) (by omega) (by omega)
  have qr_20 := zX_rm (zX_rf hws) (n' := ns) (N := ns + 1) (by omega) (by omega)
  refine z_callV (wr := [(fo, .inr (2, [.ref mo, .int (nI pv), .int (nI va), .int (nI fh), .int (nI fs), .int (nI fk), .ref lo, .ref so, .ref to])), (so, .inr (6, [.ref sa, .int (nI ns)])), (sa, .inl (cI, cs, .inl ft))]) (rest := []) (As := [.int (nI a4)]) F B (kX4_add l D cI cZ cG cJ lo a'_15 (((nl + 1) + 1) + 1) c'_17 f'_16 (Cs.flatten ++ [a1] ++ [a2] ++ [a3]) a4 (hf3) (hxa3.2.2.1) (by omega)) hl.1 (C := RX4) (T := TX4) (N := 2) (ci := 6) (q0 := 3) gX0_clause____X4_add rfl 1 yX0_clause____X4_add rfl rfl rfl [3, 4] [0, 1, 2] rfl rfl rfl rfl (by decide) (Nat.le_of_ble_eq_true rfl) (Nat.le_of_ble_eq_true rfl) (Nat.le_of_ble_eq_true rfl) rfl dX0_clause____30 (show (c'_17 - cl) + (cs - cs) + (zcap ((((nl + 1) + 1) + 1) + 1) c'_17 - c'_17) ≤ (zcap (nl + 4) cl - cl) + (zcap (ns + 1) cs - cs) by omega) (show 2 * ((c'_17 - cl) + (cs - cs)) + (2 * ((zcap ((((nl + 1) + 1) + 1) + 1) c'_17 - c'_17))) ≤ 2 * ((zcap (nl + 4) cl - cl) + (zcap (ns + 1) cs - cs)) by omega) (fun vv ww H locs hRR B => ?_)
  obtain ⟨a'_21, f'_22, c'_23, rfl, rfl, hxa4, hf4⟩ := hRR
  have hX_24 := zX_tr hX_18 hxa4
  have hX_24e := zX_cap hxa4 (hX_18).2.2.1.1
  have hX_241 := (hxa4).2.1; have hX_242 := (hX_18).2.1; have hX_243 := (hX_24).1; have hX_244 := (hX_24).2.2.1.2.1
  refine W.widen (k := (c'_23 - cl) + (cs - cs)) (n := 2 * ((c'_23 - cl) + (cs - cs))) (by omega) (by omega) ?_
  have B : zB D (zT cI cZ cG cJ) A s.heap s [(fo, .inr (2, [.ref mo, .int (nI pv), .int (nI va), .int (nI fh), .int (nI fs), .int (nI fk), .ref lo, .ref so, .ref to])), (so, .inr (6, [.ref sa, .int (nI ns)])), (sa, .inl (cI, cs, .inl ft)), (lo, .inr (6, [.ref a'_21, .int (nI ((((nl + 1) + 1) + 1) + 1))])), (a'_21, .inl (cI, c'_23, .inl f'_22))] _ _ := B
  refine W.eq (g2 := F0 m 33 ls []) rfl ?_
  refine lv_aload_n F.1 F.2.1 dX0_clause____33 rfl (lv_at hl 0 rfl) ?_
  refine z_get F B 0 rfl (ci := 2) (C := RX0) (T := TX0) (N := 9) rfl iX0_clause____X0 7 (by decide) fX0_clause____16 rfl dX0_clause____34 ?_
  refine lv_aload_n F.1 F.2.1 dX0_clause____37 rfl (lv_at hl 0 rfl) ?_
  refine z_get F B 0 rfl (ci := 2) (C := RX0) (T := TX0) (N := 9) rfl iX0_clause____X0 6 (by decide) fX0_clause____10 rfl dX0_clause____38 ?_
  refine z_get F B 3 rfl (ci := 6) (C := RX4) (T := TX4) (N := 2) rfl iX0_clause____X4 1 (by decide) fX0_clause____26 rfl dX0_clause____41 ?_
  have qr_25 := zX_rm hX_24 (n' := (((nl + 1) + 1) + 1) + 1) (N := nl + 4) (by omega) (by omega)
  have qr_26 := zX_rm (zX_rf hws) (n' := ns + 1) (N := ns + 1) (by omega) (by omega)
  refine z_callV (wr := [(fo, .inr (2, [.ref mo, .int (nI pv), .int (nI va), .int (nI fh), .int (nI fs), .int (nI fk), .ref lo, .ref so, .ref to])), (lo, .inr (6, [.ref a'_21, .int (nI ((((nl + 1) + 1) + 1) + 1))])), (a'_21, .inl (cI, c'_23, .inl f'_22))]) (rest := []) (As := [.int (nI ((((nl + 1) + 1) + 1) + 1))]) F B (kX4_add l D cI cZ cG cJ so sa ns cs ft (zst Cs) ((((nl + 1) + 1) + 1) + 1) (hF.2) (hws) (by omega)) hl.1 (C := RX4) (T := TX4) (N := 2) (ci := 6) (q0 := 1) gX0_clause____X4_add rfl 1 yX0_clause____X4_add rfl rfl rfl [1, 2] [0, 3, 4] rfl rfl rfl rfl (by decide) (Nat.le_of_ble_eq_true rfl) (Nat.le_of_ble_eq_true rfl) (Nat.le_of_ble_eq_true rfl) rfl dX0_clause____44 (show (c'_23 - cl) + (cs - cs) + (zcap (ns + 1) cs - cs) ≤ (zcap (nl + 4) cl - cl) + (zcap (ns + 1) cs - cs) by omega) (show 2 * ((c'_23 - cl) + (cs - cs)) + (2 * ((zcap (ns + 1) cs - cs))) ≤ 2 * ((zcap (nl + 4) cl - cl) + (zcap (ns + 1) cs - cs)) by omega) (fun vv ww H locs hRR B => ?_)
  obtain ⟨a'_27, f'_28, c'_29, rfl, rfl, hxs1, hfs⟩ := hRR
  have hX_30 := zX_tr (zX_rf hws) hxs1
  have hX_30e := zX_cap hxs1 ((zX_rf hws)).2.2.1.1
  have hX_301 := (hxs1).2.1; have hX_302 := ((zX_rf hws)).2.1; have hX_303 := (hX_30).1; have hX_304 := (hX_30).2.2.1.2.1
  refine W.widen (k := (c'_23 - cl) + (c'_29 - cs)) (n := 2 * ((c'_23 - cl) + (c'_29 - cs))) (by omega) (by omega) ?_
  have B : zB D (zT cI cZ cG cJ) A s.heap s [(fo, .inr (2, [.ref mo, .int (nI pv), .int (nI va), .int (nI fh), .int (nI fs), .int (nI fk), .ref lo, .ref so, .ref to])), (lo, .inr (6, [.ref a'_21, .int (nI ((((nl + 1) + 1) + 1) + 1))])), (a'_21, .inl (cI, c'_23, .inl f'_22)), (so, .inr (6, [.ref a'_27, .int (nI (ns + 1))])), (a'_27, .inl (cI, c'_29, .inl f'_28))] _ _ := B
  refine W.eq (g2 := F0 m 47 ls []) rfl ?_
  have qe_31 := zX_rm hX_24 (n' := (((nl + 1) + 1) + 1) + 1) (N := nl + 4) (Nat.le_refl _) (by omega)
  have qe_32 := zX_rm hX_30 (n' := ns + 1) (N := ns + 1) (Nat.le_refl _) (by omega)
  exact z_vret F hr hlk B [0, 1, 2, 3, 4] rfl (rfl) dX0_clause____47 (by omega) (by omega) ⟨a'_21, c'_23, f'_22, a'_27, c'_29, f'_28, rfl, rfl, hX_24, hX_30, (zF_add (c := [a1, a2, a3, a4]) (by simpa [List.append_assoc] using hf4) hfs)⟩
theorem iX0_someOf_X0 : ∀ w ∈ u_ws RX0 TX0 9, w ∈ wsX0_someOf := by decide +kernel
theorem fX0_someOf_16 : Cond.fieldLink RX0 16 "TourChain$Formula" "starts" "LTourChain$Row;" ∈ wsX0_someOf := by decide +kernel
theorem fX0_someOf_10 : Cond.fieldLink RX0 10 "TourChain$Formula" "literals" "LTourChain$Row;" ∈ wsX0_someOf := by decide +kernel
theorem iX0_someOf_X4 : ∀ w ∈ u_ws RX4 TX4 2, w ∈ wsX0_someOf := by decide +kernel
theorem fX0_someOf_26 : Cond.fieldLink RX0 26 "TourChain$Row" "size" "I" ∈ wsX0_someOf := by decide +kernel
theorem yX0_someOf_X4_add : yX4_add.cls = RX4 ∧ yX4_add.cls ≠ "java/lang/invoke/MethodHandle" ∧ yX4_add.cls ≠ "java/lang/invoke/VarHandle" ∧ (parseMethodDescriptor yX4_add.desc).map (fun d => d.parameters.length) = some 1 := by decide +kernel
theorem nX0_someOf_X7_yes : Cond.methodLinkNest RX0 104 yX7_yes RX7 ∈ zNW := by decide +kernel
theorem mX0_someOf_stX7_yes : Cond.static yX7_yes ∈ wsX0_someOf := by decide +kernel
theorem mX0_someOf_iyX7_yes : Cond.initialized yX7_yes.cls ∈ wsX0_someOf := by decide +kernel
theorem yX0_someOf_X7_yes : yX7_yes.cls ≠ "java/lang/invoke/MethodHandle" ∧ yX7_yes.cls ≠ "java/lang/invoke/VarHandle" ∧ (parseMethodDescriptor yX7_yes.desc).map (fun d => d.parameters.length) = some 1 := by decide +kernel
set_option maxHeartbeats 4000000 in
set_option maxRecDepth 100000 in
theorem kX0_someOf (l : Launch) (D : va_G) (cI cZ cG cJ : ClassId) (fo : Nat) (mo : Nat) (pv : Nat) (va : Nat) (fh : Nat) (fs : Nat) (fk : Nat) (lo : Nat) (so : Nat) (to : Nat) (la : Nat) (nl : Nat) (cl : Nat) (fl : Nat → Int32) (sa : Nat) (ns : Nat) (cs : Nat) (ft : Nat → Int32) (Cs : List (List Nat)) (first : Nat) (n : Nat) (hF : zF fl nl ft ns Cs) (hwl : zW nl cl) (hws : zW ns cs) (hbl : nl + n ≤ 8192) (hbs : ns + 1 ≤ 8192) (hfn : first + n ≤ 1000000) : zC l yX0_someOf wsX0_someOf 3 83 ((zcap (nl + n) cl - cl) + (zcap (ns + 1) cs - cs)) (2 * ((zcap (nl + n) cl - cl) + (zcap (ns + 1) cs - cs))) D (zT cI cZ cG cJ) [.ref fo, .int (nI first), .int (nI n)] [(fo, .inr (2, [.ref mo, .int (nI pv), .int (nI va), .int (nI fh), .int (nI fs), .int (nI fk), .ref lo, .ref so, .ref to])), (lo, .inr (6, [.ref la, .int (nI nl)])), (la, .inl (cI, cl, .inl fl)), (so, .inr (6, [.ref sa, .int (nI ns)])), (sa, .inl (cI, cs, .inl ft))] (fun (v : Option Value) (w : va_W) => ∃ la' : Nat, ∃ cl' : Nat, ∃ fl' : Nat → Int32, ∃ sa' : Nat, ∃ cs' : Nat, ∃ ft' : Nat → Int32, v = none ∧ w = [(fo, .inr (2, [.ref mo, .int (nI pv), .int (nI va), .int (nI fh), .int (nI fs), .int (nI fk), .ref lo, .ref so, .ref to])), (lo, .inr (6, [.ref la', .int (nI (nl + n))])), (la', .inl (cI, cl', .inl fl')), (so, .inr (6, [.ref sa', .int (nI (ns + 1))])), (sa', .inl (cI, cs', .inl ft'))] ∧ zX nl cl (nl + n) cl' ∧ zX ns cs (ns + 1) cs' ∧ zF fl' (nl + n) ft' (ns + 1) (Cs ++ ([zsome first n]))) := by
  refine zC.of (cc := cX0_someOf) (maxL := 4) (ret := none) (by decide) rfl (Nat.le_of_ble_eq_true rfl) ?_
  intro p e s m below meth c A ls F hr hlk hnm B hl
  have hl : lv_has ls 4 [(0, .ref fo), (1, .int (nI first)), (2, .int (nI n))] := hl
  refine lv_iload_n F.1 F.2.1 dX0_someOf_0 rfl (lv_at hl 1 rfl) ?_
  refine lv_istore_n (lv' := [(3, .int (nI first)), (0, .ref fo), (1, .int (nI first)), (2, .int (nI n))]) F.1 F.2.1 dX0_someOf_1 rfl hl (by decide) rfl (fun ls hl => ?_)
  have loop2 : ∀ (fuel : Nat) (i : Nat) (la1 : Nat) (nl1 : Nat) (cl1 : Nat) (fl1 : Nat → Int32), n - i < fuel → i ≤ n → nl1 = nl + i → zR fl1 nl1 (Cs.flatten ++ (List.range i).map (fun k => 2 * (first + k))) → zX nl cl nl1 cl1 → zX ns cs ns cs → ∀ (H : Heap) (locs : List Loc) (ls : Array Slot), zB D (zT cI cZ cG cJ) A s.heap s [(fo, .inr (2, [.ref mo, .int (nI pv), .int (nI va), .int (nI fh), .int (nI fs), .int (nI fk), .ref lo, .ref so, .ref to])), (lo, .inr (6, [.ref la1, .int (nI nl1)])), (la1, .inl (cI, cl1, .inl fl1)), (so, .inr (6, [.ref sa, .int (nI ns)])), (sa, .inl (cI, cs, .inl ft))] H locs → lv_has ls 4 [(0, .ref fo), (1, .int (nI first)), (2, .int (nI n)), (3, .int (nI (first + i)))] → W p l e { frames := 3, cells := (zcap (nl + n) cl - cl) + (zcap (ns + 1) cs - cs), slots := 2 * ((zcap (nl + n) cl - cl) + (zcap (ns + 1) cs - cs)), locals := 83 } s m [.ref fo, .int (nI first), .int (nI n)].toArray below meth c H locs ((cl1 - cl) + (cs - cs)) (2 * ((cl1 - cl) + (cs - cs))) (zQ below [.ref fo, .int (nI first), .int (nI n)].toArray s D (zT cI cZ cG cJ) A (fun (v : Option Value) (w : va_W) => ∃ la' : Nat, ∃ cl' : Nat, ∃ fl' : Nat → Int32, ∃ sa' : Nat, ∃ cs' : Nat, ∃ ft' : Nat → Int32, v = none ∧ w = [(fo, .inr (2, [.ref mo, .int (nI pv), .int (nI va), .int (nI fh), .int (nI fs), .int (nI fk), .ref lo, .ref so, .ref to])), (lo, .inr (6, [.ref la', .int (nI (nl + n))])), (la', .inl (cI, cl', .inl fl')), (so, .inr (6, [.ref sa', .int (nI (ns + 1))])), (sa', .inl (cI, cs', .inl ft'))] ∧ zX nl cl (nl + n) cl' ∧ zX ns cs (ns + 1) cs' ∧ zF fl' (nl + n) ft' (ns + 1) (Cs ++ ([zsome first n]))) ((zcap (nl + n) cl - cl) + (zcap (ns + 1) cs - cs)) (2 * ((zcap (nl + n) cl - cl) + (zcap (ns + 1) cs - cs)))) (F0 m 2 ls []) := by
    intro fuel
    induction fuel with
    | zero => intro i la1 nl1 cl1 fl1 hmz; exact absurd hmz (Nat.not_lt_zero _)
    | succ fuel ih =>
      intro i la1 nl1 cl1 fl1 hm hi hn1 hR hx1 hx2 H locs ls B hl
      have ih2 := ih
      have hx11 := (hx1).2.1; have hx12 := (hx1).1; have hx13 := (hx1).2.2.1.2.1
      have hx21 := (hx2).2.1; have hx22 := (hx2).1; have hx23 := (hx2).2.2.1.2.1
      refine lv_iload_n F.1 F.2.1 dX0_someOf_2 rfl (lv_at hl 3 rfl) ?_
      refine lv_iload_n F.1 F.2.1 dX0_someOf_3 rfl (lv_at hl 1 rfl) ?_
      refine lv_iload_n F.1 F.2.1 dX0_someOf_4 rfl (lv_at hl 2 rfl) ?_
      refine z_iadd F dX0_someOf_5 ?_
      refine z_icmp_ge (tgt := 26) F (by omega) (by omega) dX0_someOf_6 (by decide) (fun c6 => ?_) (fun c6 => ?_)
      · have hin : i = n := by omega
        rw [hin] at hn1 hR
        subst hn1
        refine lv_aload_n F.1 F.2.1 dX0_someOf_26 rfl (lv_at hl 0 rfl) ?_
        refine z_get F B 0 rfl (ci := 2) (C := RX0) (T := TX0) (N := 9) rfl iX0_someOf_X0 7 (by decide) fX0_someOf_16 rfl dX0_someOf_27 ?_
        refine lv_aload_n F.1 F.2.1 dX0_someOf_30 rfl (lv_at hl 0 rfl) ?_
        refine z_get F B 0 rfl (ci := 2) (C := RX0) (T := TX0) (N := 9) rfl iX0_someOf_X0 6 (by decide) fX0_someOf_10 rfl dX0_someOf_31 ?_
        refine z_get F B 1 rfl (ci := 6) (C := RX4) (T := TX4) (N := 2) rfl iX0_someOf_X4 1 (by decide) fX0_someOf_26 rfl dX0_someOf_34 ?_
        have qr_1 := zX_rm hx1 (n' := (nl + n)) (N := nl + n) (by omega) (by omega)
        have qr_2 := zX_rm hx2 (n' := ns + 1) (N := ns + 1) (by omega) (by omega)
        refine z_callV (wr := [(fo, .inr (2, [.ref mo, .int (nI pv), .int (nI va), .int (nI fh), .int (nI fs), .int (nI fk), .ref lo, .ref so, .ref to])), (lo, .inr (6, [.ref la1, .int (nI (nl + n))])), (la1, .inl (cI, cl1, .inl fl1))]) (rest := []) (As := [.int (nI (nl + n))]) F B (kX4_add l D cI cZ cG cJ so sa ns cs ft (zst Cs) (nl + n) (hF.2) (hws) (by omega)) hl.1 (C := RX4) (T := TX4) (N := 2) (ci := 6) (q0 := 3) gX0_someOf_X4_add rfl 1 yX0_someOf_X4_add rfl rfl rfl [3, 4] [0, 1, 2] rfl rfl rfl rfl (by decide) (Nat.le_of_ble_eq_true rfl) (Nat.le_of_ble_eq_true rfl) (Nat.le_of_ble_eq_true rfl) rfl dX0_someOf_37 (show (cl1 - cl) + (cs - cs) + (zcap (ns + 1) cs - cs) ≤ (zcap (nl + n) cl - cl) + (zcap (ns + 1) cs - cs) by omega) (show 2 * ((cl1 - cl) + (cs - cs)) + (2 * ((zcap (ns + 1) cs - cs))) ≤ 2 * ((zcap (nl + n) cl - cl) + (zcap (ns + 1) cs - cs)) by omega) (fun vv ww H locs hRR B => ?_)
        obtain ⟨a'_3, f'_4, c'_5, rfl, rfl, hxs1, hfs⟩ := hRR
        have hX_6 := zX_tr hx2 hxs1
        have hX_6e := zX_cap hxs1 (hx2).2.2.1.1
        have hX_61 := (hxs1).2.1; have hX_62 := (hx2).2.1; have hX_63 := (hX_6).1; have hX_64 := (hX_6).2.2.1.2.1
        refine W.widen (k := (cl1 - cl) + (c'_5 - cs)) (n := 2 * ((cl1 - cl) + (c'_5 - cs))) (by omega) (by omega) ?_
        have B : zB D (zT cI cZ cG cJ) A s.heap s [(fo, .inr (2, [.ref mo, .int (nI pv), .int (nI va), .int (nI fh), .int (nI fs), .int (nI fk), .ref lo, .ref so, .ref to])), (lo, .inr (6, [.ref la1, .int (nI (nl + n))])), (la1, .inl (cI, cl1, .inl fl1)), (so, .inr (6, [.ref a'_3, .int (nI (ns + 1))])), (a'_3, .inl (cI, c'_5, .inl f'_4))] _ _ := B
        refine W.eq (g2 := F0 m 40 ls []) rfl ?_
        have qe_7 := zX_rm hx1 (n' := (nl + n)) (N := nl + n) (Nat.le_refl _) (by omega)
        have qe_8 := zX_rm hX_6 (n' := ns + 1) (N := ns + 1) (Nat.le_refl _) (by omega)
        exact z_vret F hr hlk B [0, 1, 2, 3, 4] rfl (rfl) dX0_someOf_40 (by omega) (by omega) ⟨la1, cl1, fl1, a'_3, c'_5, f'_4, rfl, rfl, hx1, hX_6, (zF_add hR hfs)⟩
      · refine lv_aload_n F.1 F.2.1 dX0_someOf_9 rfl (lv_at hl 0 rfl) ?_
        refine z_get F B 0 rfl (ci := 2) (C := RX0) (T := TX0) (N := 9) rfl iX0_someOf_X0 6 (by decide) fX0_someOf_10 rfl dX0_someOf_10 ?_
        refine lv_iload_n F.1 F.2.1 dX0_someOf_13 rfl (lv_at hl 3 rfl) ?_
        have qr_9 := zX_rm hx1 (n' := nl1) (N := nl + n) (by omega) (by omega)
        have qr_10 := zX_rm hx2 (n' := ns) (N := ns + 1) (by omega) (by omega)
        refine z_callSN (wr := [(fo, .inr (2, [.ref mo, .int (nI pv), .int (nI va), .int (nI fh), .int (nI fs), .int (nI fk), .ref lo, .ref so, .ref to])), (lo, .inr (6, [.ref la1, .int (nI nl1)])), (la1, .inl (cI, cl1, .inl fl1)), (so, .inr (6, [.ref sa, .int (nI ns)])), (sa, .inl (cI, cs, .inl ft))]) (rest := [.ref lo]) (As := [.int (nI (first + i))]) (host := RX7) F B (kX7_yes l D cI cZ cG cJ (first + i)) hl.1 gX0_someOf_X7_yes_n104 nX0_someOf_X7_yes mX0_someOf_stX7_yes mX0_someOf_iyX7_yes rfl 1 yX0_someOf_X7_yes rfl [] [0, 1, 2, 3, 4] rfl rfl rfl rfl (by decide) (Nat.le_of_ble_eq_true rfl) (Nat.le_of_ble_eq_true rfl) (Nat.le_of_ble_eq_true rfl) rfl dX0_someOf_14 (show (cl1 - cl) + (cs - cs) + 0 ≤ (zcap (nl + n) cl - cl) + (zcap (ns + 1) cs - cs) by omega) (show 2 * ((cl1 - cl) + (cs - cs)) + 0 ≤ 2 * ((zcap (nl + n) cl - cl) + (zcap (ns + 1) cs - cs)) by omega) (fun vv ww H locs hRR B => ?_)
        obtain ⟨rfl, rfl⟩ := hRR
        have B : zB D (zT cI cZ cG cJ) A s.heap s [(fo, .inr (2, [.ref mo, .int (nI pv), .int (nI va), .int (nI fh), .int (nI fs), .int (nI fk), .ref lo, .ref so, .ref to])), (lo, .inr (6, [.ref la1, .int (nI nl1)])), (la1, .inl (cI, cl1, .inl fl1)), (so, .inr (6, [.ref sa, .int (nI ns)])), (sa, .inl (cI, cs, .inl ft))] _ _ := B
        refine W.eq (g2 := F0 m 17 ls [.int (nI (2 * (first + i))), .ref lo]) rfl ?_
        have qr_11 := zX_rm hx1 (n' := nl1 + 1) (N := nl + n) (by omega) (by omega)
        have qr_12 := zX_rm hx2 (n' := ns) (N := ns + 1) (by omega) (by omega)
        refine z_callV (wr := [(fo, .inr (2, [.ref mo, .int (nI pv), .int (nI va), .int (nI fh), .int (nI fs), .int (nI fk), .ref lo, .ref so, .ref to])), (so, .inr (6, [.ref sa, .int (nI ns)])), (sa, .inl (cI, cs, .inl ft))]) (rest := []) (As := [.int (nI (2 * (first + i)))]) F B (kX4_add l D cI cZ cG cJ lo la1 nl1 cl1 fl1 (Cs.flatten ++ (List.range i).map (fun k => 2 * (first + k))) (2 * (first + i)) (hR) (hx1.2.2.1) (by omega)) hl.1 (C := RX4) (T := TX4) (N := 2) (ci := 6) (q0 := 1) gX0_someOf_X4_add rfl 1 yX0_someOf_X4_add rfl rfl rfl [1, 2] [0, 3, 4] rfl rfl rfl rfl (by decide) (Nat.le_of_ble_eq_true rfl) (Nat.le_of_ble_eq_true rfl) (Nat.le_of_ble_eq_true rfl) rfl dX0_someOf_17 (show (cl1 - cl) + (cs - cs) + 0 + (zcap (nl1 + 1) cl1 - cl1) ≤ (zcap (nl + n) cl - cl) + (zcap (ns + 1) cs - cs) by omega) (show 2 * ((cl1 - cl) + (cs - cs)) + 0 + (2 * ((zcap (nl1 + 1) cl1 - cl1))) ≤ 2 * ((zcap (nl + n) cl - cl) + (zcap (ns + 1) cs - cs)) by omega) (fun vv ww H locs hRR B => ?_)
        obtain ⟨a'_13, f'_14, c'_15, rfl, rfl, hxa, hfa⟩ := hRR
        have hX_16 := zX_tr hx1 hxa
        have hX_16e := zX_cap hxa (hx1).2.2.1.1
        have hX_161 := (hxa).2.1; have hX_162 := (hx1).2.1; have hX_163 := (hX_16).1; have hX_164 := (hX_16).2.2.1.2.1
        refine W.widen (k := (c'_15 - cl) + (cs - cs)) (n := 2 * ((c'_15 - cl) + (cs - cs))) (by omega) (by omega) ?_
        have B : zB D (zT cI cZ cG cJ) A s.heap s [(fo, .inr (2, [.ref mo, .int (nI pv), .int (nI va), .int (nI fh), .int (nI fs), .int (nI fk), .ref lo, .ref so, .ref to])), (so, .inr (6, [.ref sa, .int (nI ns)])), (sa, .inl (cI, cs, .inl ft)), (lo, .inr (6, [.ref a'_13, .int (nI (nl1 + 1))])), (a'_13, .inl (cI, c'_15, .inl f'_14))] _ _ := B
        refine W.eq (g2 := F0 m 20 ls []) rfl ?_
        refine lv_iinc (v := (nI (first + i + 1))) (lv' := [(3, .int (nI (first + i + 1))), (0, .ref fo), (1, .int (nI first)), (2, .int (nI n))]) F.1 F.2.1 dX0_someOf_20 hl (k := 3) rfl (by rw [show Int32.ofInt 1 = nI 1 from rfl, nI_add]) (by decide) rfl (fun ls hl => ?_)
        refine lv_goto (tgt := 2) F.1 F.2.1 dX0_someOf_23 (by decide) ?_
        exact ih2 (i + 1) a'_13 (nl1 + 1) c'_15 f'_14 (by first | omega | (simp only [] at *; omega)) (by omega) (by omega) (by rw [List.range_succ, List.map_append, ← List.append_assoc]; exact hfa) (hX_16) (hx2) _ _ _ (B.sub [0, 3, 4, 1, 2] rfl rfl) (lv_sub hl [1, 2, 3, 0] rfl)
  refine W.widen (k := (cl - cl) + (cs - cs)) (n := 2 * ((cl - cl) + (cs - cs))) (by omega) (by omega) ?_
  exact loop2 (n - 0 + 1) 0 la nl cl fl (Nat.lt_succ_self _) (by omega) (by omega) (by simpa using hF.1) ((zX_rf hwl)) ((zX_rf hws)) _ _ _ (B.sub [0, 1, 2, 3, 4] rfl rfl) (lv_sub hl [1, 2, 3, 0] rfl)
theorem yX0_justOne_X0_someOf : yX0_someOf.cls = RX0 ∧ yX0_someOf.cls ≠ "java/lang/invoke/MethodHandle" ∧ yX0_someOf.cls ≠ "java/lang/invoke/VarHandle" ∧ (parseMethodDescriptor yX0_someOf.desc).map (fun d => d.parameters.length) = some 2 := by decide +kernel
theorem nX0_justOne_X7_no : Cond.methodLinkNest RX0 128 yX7_no RX7 ∈ zNW := by decide +kernel
theorem mX0_justOne_stX7_no : Cond.static yX7_no ∈ wsX0_justOne := by decide +kernel
theorem mX0_justOne_iyX7_no : Cond.initialized yX7_no.cls ∈ wsX0_justOne := by decide +kernel
theorem yX0_justOne_X7_no : yX7_no.cls ≠ "java/lang/invoke/MethodHandle" ∧ yX7_no.cls ≠ "java/lang/invoke/VarHandle" ∧ (parseMethodDescriptor yX7_no.desc).map (fun d => d.parameters.length) = some 1 := by decide +kernel
theorem yX0_justOne_X0_clause_ : yX0_clause_.cls = RX0 ∧ yX0_clause_.cls ≠ "java/lang/invoke/MethodHandle" ∧ yX0_clause_.cls ≠ "java/lang/invoke/VarHandle" ∧ (parseMethodDescriptor yX0_clause_.desc).map (fun d => d.parameters.length) = some 2 := by decide +kernel
set_option maxHeartbeats 4000000 in
set_option maxRecDepth 100000 in
theorem kX0_justOne (l : Launch) (D : va_G) (cI cZ cG cJ : ClassId) (fo : Nat) (mo : Nat) (pv : Nat) (va : Nat) (fh : Nat) (fs : Nat) (fk : Nat) (lo : Nat) (so : Nat) (to : Nat) (la : Nat) (nl : Nat) (cl : Nat) (fl : Nat → Int32) (sa : Nat) (ns : Nat) (cs : Nat) (ft : Nat → Int32) (Cs : List (List Nat)) (first : Nat) (n : Nat) (hF : zF fl nl ft ns Cs) (hwl : zW nl cl) (hws : zW ns cs) (hbl : nl + (zjust first n).flatten.length ≤ 8192) (hbs : ns + (zjust first n).length ≤ 8192) (hfn : first + n ≤ 1000000) : zC l yX0_justOne wsX0_justOne 4 106 ((zcap (nl + (zjust first n).flatten.length) cl - cl) + (zcap (ns + (zjust first n).length) cs - cs)) (2 * ((zcap (nl + (zjust first n).flatten.length) cl - cl) + (zcap (ns + (zjust first n).length) cs - cs))) D (zT cI cZ cG cJ) [.ref fo, .int (nI first), .int (nI n)] [(fo, .inr (2, [.ref mo, .int (nI pv), .int (nI va), .int (nI fh), .int (nI fs), .int (nI fk), .ref lo, .ref so, .ref to])), (lo, .inr (6, [.ref la, .int (nI nl)])), (la, .inl (cI, cl, .inl fl)), (so, .inr (6, [.ref sa, .int (nI ns)])), (sa, .inl (cI, cs, .inl ft))] (fun (v : Option Value) (w : va_W) => ∃ la' : Nat, ∃ cl' : Nat, ∃ fl' : Nat → Int32, ∃ sa' : Nat, ∃ cs' : Nat, ∃ ft' : Nat → Int32, v = none ∧ w = [(fo, .inr (2, [.ref mo, .int (nI pv), .int (nI va), .int (nI fh), .int (nI fs), .int (nI fk), .ref lo, .ref so, .ref to])), (lo, .inr (6, [.ref la', .int (nI (nl + (zjust first n).flatten.length))])), (la', .inl (cI, cl', .inl fl')), (so, .inr (6, [.ref sa', .int (nI (ns + (zjust first n).length))])), (sa', .inl (cI, cs', .inl ft'))] ∧ zX nl cl (nl + (zjust first n).flatten.length) cl' ∧ zX ns cs (ns + (zjust first n).length) cs' ∧ zF fl' (nl + (zjust first n).flatten.length) ft' (ns + (zjust first n).length) (Cs ++ (zjust first n))) := by
  refine zC.of (cc := cX0_justOne) (maxL := 5) (ret := none) (by decide) rfl (Nat.le_of_ble_eq_true rfl) ?_
  intro p e s m below meth c A ls F hr hlk hnm B hl
  have hl : lv_has ls 5 [(0, .ref fo), (1, .int (nI first)), (2, .int (nI n))] := hl
  refine lv_aload_n F.1 F.2.1 dX0_justOne_0 rfl (lv_at hl 0 rfl) ?_
  refine lv_iload_n F.1 F.2.1 dX0_justOne_1 rfl (lv_at hl 1 rfl) ?_
  refine lv_iload_n F.1 F.2.1 dX0_justOne_2 rfl (lv_at hl 2 rfl) ?_
  have hfit := zF_fit (P := []) (Q := [zsome first n]) (E := zjust first n) hF (by simpa using hF) (List.prefix_append _ _)
  have hfa : nl + n ≤ nl + (zjust first n).flatten.length := by simpa [zsome, zpair] using hfit.1
  have hfb : ns + 1 ≤ ns + (zjust first n).length := by simpa using hfit.2
  have qr_1 := zX_rm (zX_rf hwl) (n' := nl + n) (N := nl + (zjust first n).flatten.length) (by omega) (by omega)
  have qr_2 := zX_rm (zX_rf hws) (n' := ns + 1) (N := ns + (zjust first n).length) (by omega) (by omega)
  refine z_callV (wr := []) (rest := []) (As := [.int (nI first), .int (nI n)]) F B (kX0_someOf l D cI cZ cG cJ fo mo pv va fh fs fk lo so to la nl cl fl sa ns cs ft Cs first n (hF) (hwl) (hws) (by omega) (by omega) (by omega)) hl.1 (C := RX0) (T := TX0) (N := 9) (ci := 2) (q0 := 0) gX0_justOne_X0_someOf rfl 2 yX0_justOne_X0_someOf rfl rfl rfl [0, 1, 2, 3, 4] [] rfl rfl rfl rfl (by decide) (Nat.le_of_ble_eq_true rfl) (Nat.le_of_ble_eq_true rfl) (Nat.le_of_ble_eq_true rfl) rfl dX0_justOne_3 (show 0 + ((zcap (nl + n) cl - cl) + (zcap (ns + 1) cs - cs)) ≤ (zcap (nl + (zjust first n).flatten.length) cl - cl) + (zcap (ns + (zjust first n).length) cs - cs) by omega) (show 0 + (2 * ((zcap (nl + n) cl - cl) + (zcap (ns + 1) cs - cs))) ≤ 2 * ((zcap (nl + (zjust first n).flatten.length) cl - cl) + (zcap (ns + (zjust first n).length) cs - cs)) by omega) (fun vv ww H locs hRR B => ?_)
  obtain ⟨la'_3, cl'_4, fl'_5, sa'_6, cs'_7, ft'_8, rfl, rfl, hxl'_9, hxs'_10, hFs⟩ := hRR
  have hX_11 := zX_tr (zX_rf hwl) hxl'_9
  have hX_11e := zX_cap hxl'_9 ((zX_rf hwl)).2.2.1.1
  have hX_111 := (hxl'_9).2.1; have hX_112 := ((zX_rf hwl)).2.1; have hX_113 := (hX_11).1; have hX_114 := (hX_11).2.2.1.2.1
  have hX_12 := zX_tr (zX_rf hws) hxs'_10
  have hX_12e := zX_cap hxs'_10 ((zX_rf hws)).2.2.1.1
  have hX_121 := (hxs'_10).2.1; have hX_122 := ((zX_rf hws)).2.1; have hX_123 := (hX_12).1; have hX_124 := (hX_12).2.2.1.2.1
  refine W.widen (k := (cl'_4 - cl) + (cs'_7 - cs)) (n := 2 * ((cl'_4 - cl) + (cs'_7 - cs))) (by omega) (by omega) ?_
  have B : zB D (zT cI cZ cG cJ) A s.heap s [(fo, .inr (2, [.ref mo, .int (nI pv), .int (nI va), .int (nI fh), .int (nI fs), .int (nI fk), .ref lo, .ref so, .ref to])), (lo, .inr (6, [.ref la'_3, .int (nI (nl + n))])), (la'_3, .inl (cI, cl'_4, .inl fl'_5)), (so, .inr (6, [.ref sa'_6, .int (nI (ns + 1))])), (sa'_6, .inl (cI, cs'_7, .inl ft'_8))] _ _ := B
  refine W.eq (g2 := F0 m 6 ls []) rfl ?_
  refine lv_iload_n F.1 F.2.1 dX0_justOne_6 rfl (lv_at hl 1 rfl) ?_
  refine lv_istore_n (lv' := [(3, .int (nI first)), (0, .ref fo), (1, .int (nI first)), (2, .int (nI n))]) F.1 F.2.1 dX0_justOne_7 rfl hl (by decide) rfl (fun ls hl => ?_)
  have loop8 : ∀ (fuel : Nat) (i : Nat) (la1 : Nat) (nl1 : Nat) (cl1 : Nat) (fl1 : Nat → Int32) (sa1 : Nat) (ns1 : Nat) (cs1 : Nat) (ft1 : Nat → Int32), n - i < fuel → i ≤ n → zF fl1 nl1 ft1 ns1 (Cs ++ ([zsome first n] ++ (List.range i).flatMap (zpairs first n))) → zX nl cl nl1 cl1 → zX ns cs ns1 cs1 → ∀ (H : Heap) (locs : List Loc) (ls : Array Slot), zB D (zT cI cZ cG cJ) A s.heap s [(fo, .inr (2, [.ref mo, .int (nI pv), .int (nI va), .int (nI fh), .int (nI fs), .int (nI fk), .ref lo, .ref so, .ref to])), (lo, .inr (6, [.ref la1, .int (nI nl1)])), (la1, .inl (cI, cl1, .inl fl1)), (so, .inr (6, [.ref sa1, .int (nI ns1)])), (sa1, .inl (cI, cs1, .inl ft1))] H locs → lv_has ls 5 [(0, .ref fo), (1, .int (nI first)), (2, .int (nI n)), (3, .int (nI (first + i)))] → W p l e { frames := 4, cells := (zcap (nl + (zjust first n).flatten.length) cl - cl) + (zcap (ns + (zjust first n).length) cs - cs), slots := 2 * ((zcap (nl + (zjust first n).flatten.length) cl - cl) + (zcap (ns + (zjust first n).length) cs - cs)), locals := 106 } s m [.ref fo, .int (nI first), .int (nI n)].toArray below meth c H locs ((cl1 - cl) + (cs1 - cs)) (2 * ((cl1 - cl) + (cs1 - cs))) (zQ below [.ref fo, .int (nI first), .int (nI n)].toArray s D (zT cI cZ cG cJ) A (fun (v : Option Value) (w : va_W) => ∃ la' : Nat, ∃ cl' : Nat, ∃ fl' : Nat → Int32, ∃ sa' : Nat, ∃ cs' : Nat, ∃ ft' : Nat → Int32, v = none ∧ w = [(fo, .inr (2, [.ref mo, .int (nI pv), .int (nI va), .int (nI fh), .int (nI fs), .int (nI fk), .ref lo, .ref so, .ref to])), (lo, .inr (6, [.ref la', .int (nI (nl + (zjust first n).flatten.length))])), (la', .inl (cI, cl', .inl fl')), (so, .inr (6, [.ref sa', .int (nI (ns + (zjust first n).length))])), (sa', .inl (cI, cs', .inl ft'))] ∧ zX nl cl (nl + (zjust first n).flatten.length) cl' ∧ zX ns cs (ns + (zjust first n).length) cs' ∧ zF fl' (nl + (zjust first n).flatten.length) ft' (ns + (zjust first n).length) (Cs ++ (zjust first n))) ((zcap (nl + (zjust first n).flatten.length) cl - cl) + (zcap (ns + (zjust first n).length) cs - cs)) (2 * ((zcap (nl + (zjust first n).flatten.length) cl - cl) + (zcap (ns + (zjust first n).length) cs - cs)))) (F0 m 8 ls []) := by
    intro fuel
    induction fuel with
    | zero => intro i la1 nl1 cl1 fl1 sa1 ns1 cs1 ft1 hmz; exact absurd hmz (Nat.not_lt_zero _)
    | succ fuel ih =>
      intro i la1 nl1 cl1 fl1 sa1 ns1 cs1 ft1 hm hi hF1 hx1 hx2 H locs ls B hl
      have ih8 := ih
      have hx11 := (hx1).2.1; have hx12 := (hx1).1; have hx13 := (hx1).2.2.1.2.1
      have hx21 := (hx2).2.1; have hx22 := (hx2).1; have hx23 := (hx2).2.2.1.2.1
      refine lv_iload_n F.1 F.2.1 dX0_justOne_8 rfl (lv_at hl 3 rfl) ?_
      refine lv_iload_n F.1 F.2.1 dX0_justOne_9 rfl (lv_at hl 1 rfl) ?_
      refine lv_iload_n F.1 F.2.1 dX0_justOne_10 rfl (lv_at hl 2 rfl) ?_
      refine z_iadd F dX0_justOne_11 ?_
      refine z_icmp_ge (tgt := 53) F (by omega) (by omega) dX0_justOne_12 (by decide) (fun c12 => ?_) (fun c12 => ?_)
      · have hin : i = n := by omega
        rw [hin] at hF1
        obtain ⟨hn1, hs1⟩ : nl1 = nl + (zjust first n).flatten.length ∧ ns1 = ns + (zjust first n).length := by obtain ⟨z1, z2⟩ := zF_len hF1; obtain ⟨z3, z4⟩ := zF_len hF; refine ⟨?_, ?_⟩ <;> simp only [zjust, List.flatten_append, List.length_append] at * <;> omega
        subst hn1
        subst hs1
        have qe_13 := zX_rm hx1 (n' := (nl + (zjust first n).flatten.length)) (N := nl + (zjust first n).flatten.length) (Nat.le_refl _) (by omega)
        have qe_14 := zX_rm hx2 (n' := (ns + (zjust first n).length)) (N := ns + (zjust first n).length) (Nat.le_refl _) (by omega)
        exact z_vret F hr hlk B [0, 1, 2, 3, 4] rfl (rfl) dX0_justOne_53 (by omega) (by omega) ⟨la1, cl1, fl1, sa1, cs1, ft1, rfl, rfl, hx1, hx2, hF1⟩
      · refine lv_iload_n F.1 F.2.1 dX0_justOne_15 rfl (lv_at hl 3 rfl) ?_
        refine lv_iconst (v := (nI 1)) F.1 F.2.1 dX0_justOne_16 (by decide) ?_
        refine z_iadd F dX0_justOne_17 ?_
        refine lv_istore (lv' := [(4, .int (nI (first + i + 1))), (0, .ref fo), (1, .int (nI first)), (2, .int (nI n)), (3, .int (nI (first + i)))]) F.1 F.2.1 dX0_justOne_18 hl (by decide) rfl (fun ls hl => ?_)
        have loop20 : ∀ (fuel : Nat) (j : Nat) (la1j : Nat) (nl1j : Nat) (cl1j : Nat) (fl1j : Nat → Int32) (sa1j : Nat) (ns1j : Nat) (cs1j : Nat) (ft1j : Nat → Int32), n - j < fuel → i + 1 + j ≤ n → zF fl1j nl1j ft1j ns1j (Cs ++ ([zsome first n] ++ ((List.range i).flatMap (zpairs first n) ++ (List.range j).map (zpair first i)))) → zX nl cl nl1j cl1j → zX ns cs ns1j cs1j → ∀ (H : Heap) (locs : List Loc) (ls : Array Slot), zB D (zT cI cZ cG cJ) A s.heap s [(fo, .inr (2, [.ref mo, .int (nI pv), .int (nI va), .int (nI fh), .int (nI fs), .int (nI fk), .ref lo, .ref so, .ref to])), (lo, .inr (6, [.ref la1j, .int (nI nl1j)])), (la1j, .inl (cI, cl1j, .inl fl1j)), (so, .inr (6, [.ref sa1j, .int (nI ns1j)])), (sa1j, .inl (cI, cs1j, .inl ft1j))] H locs → lv_has ls 5 [(0, .ref fo), (1, .int (nI first)), (2, .int (nI n)), (3, .int (nI (first + i))), (4, .int (nI (first + i + 1 + j)))] → W p l e { frames := 4, cells := (zcap (nl + (zjust first n).flatten.length) cl - cl) + (zcap (ns + (zjust first n).length) cs - cs), slots := 2 * ((zcap (nl + (zjust first n).flatten.length) cl - cl) + (zcap (ns + (zjust first n).length) cs - cs)), locals := 106 } s m [.ref fo, .int (nI first), .int (nI n)].toArray below meth c H locs ((cl1j - cl) + (cs1j - cs)) (2 * ((cl1j - cl) + (cs1j - cs))) (zQ below [.ref fo, .int (nI first), .int (nI n)].toArray s D (zT cI cZ cG cJ) A (fun (v : Option Value) (w : va_W) => ∃ la' : Nat, ∃ cl' : Nat, ∃ fl' : Nat → Int32, ∃ sa' : Nat, ∃ cs' : Nat, ∃ ft' : Nat → Int32, v = none ∧ w = [(fo, .inr (2, [.ref mo, .int (nI pv), .int (nI va), .int (nI fh), .int (nI fs), .int (nI fk), .ref lo, .ref so, .ref to])), (lo, .inr (6, [.ref la', .int (nI (nl + (zjust first n).flatten.length))])), (la', .inl (cI, cl', .inl fl')), (so, .inr (6, [.ref sa', .int (nI (ns + (zjust first n).length))])), (sa', .inl (cI, cs', .inl ft'))] ∧ zX nl cl (nl + (zjust first n).flatten.length) cl' ∧ zX ns cs (ns + (zjust first n).length) cs' ∧ zF fl' (nl + (zjust first n).flatten.length) ft' (ns + (zjust first n).length) (Cs ++ (zjust first n))) ((zcap (nl + (zjust first n).flatten.length) cl - cl) + (zcap (ns + (zjust first n).length) cs - cs)) (2 * ((zcap (nl + (zjust first n).flatten.length) cl - cl) + (zcap (ns + (zjust first n).length) cs - cs)))) (F0 m 20 ls []) := by
          intro fuel
          induction fuel with
          | zero => intro j la1j nl1j cl1j fl1j sa1j ns1j cs1j ft1j hmz; exact absurd hmz (Nat.not_lt_zero _)
          | succ fuel ih =>
            intro j la1j nl1j cl1j fl1j sa1j ns1j cs1j ft1j hm hj hF2 hx1j hx2j H locs ls B hl
            have ih20 := ih
            have hx1j1 := (hx1j).2.1; have hx1j2 := (hx1j).1; have hx1j3 := (hx1j).2.2.1.2.1
            have hx2j1 := (hx2j).2.1; have hx2j2 := (hx2j).1; have hx2j3 := (hx2j).2.2.1.2.1
            refine lv_iload F.1 F.2.1 dX0_justOne_20 (lv_at hl 4 rfl) ?_
            refine lv_iload_n F.1 F.2.1 dX0_justOne_22 rfl (lv_at hl 1 rfl) ?_
            refine lv_iload_n F.1 F.2.1 dX0_justOne_23 rfl (lv_at hl 2 rfl) ?_
            refine z_iadd F dX0_justOne_24 ?_
            refine z_icmp_ge (tgt := 47) F (by omega) (by omega) dX0_justOne_25 (by decide) (fun c25 => ?_) (fun c25 => ?_)
            · refine lv_iinc (v := (nI (first + i + 1))) (lv' := [(3, .int (nI (first + i + 1))), (0, .ref fo), (1, .int (nI first)), (2, .int (nI n)), (4, .int (nI (first + i + 1 + j)))]) F.1 F.2.1 dX0_justOne_47 hl (k := 3) rfl (by rw [show Int32.ofInt 1 = nI 1 from rfl, nI_add]) (by decide) rfl (fun ls hl => ?_)
              refine lv_goto (tgt := 8) F.1 F.2.1 dX0_justOne_50 (by decide) ?_
              exact ih8 (i + 1) la1j nl1j cl1j fl1j sa1j ns1j cs1j ft1j (by first | omega | (simp only [] at *; omega)) (by omega) (by rw [zrng_succ]; simpa [zpairs, show n - 1 - i = j by omega] using hF2) (hx1j) (hx2j) _ _ _ (B.sub [0, 1, 2, 3, 4] rfl rfl) (lv_sub hl [1, 2, 3, 0] rfl)
            · have hfit := zF_fit (P := [zsome first n] ++ ((List.range i).flatMap (zpairs first n) ++ (List.range j).map (zpair first i))) (Q := [zpair first i j]) (E := zjust first n) hF hF2 (zjust_pre (by omega) (by omega))
              have hfa : nl1j + 2 ≤ nl + (zjust first n).flatten.length := by simpa [zsome, zpair] using hfit.1
              have hfb : ns1j + 1 ≤ ns + (zjust first n).length := by simpa using hfit.2
              refine lv_aload_n F.1 F.2.1 dX0_justOne_28 rfl (lv_at hl 0 rfl) ?_
              refine lv_iload_n F.1 F.2.1 dX0_justOne_29 rfl (lv_at hl 3 rfl) ?_
              have qr_15 := zX_rm hx1j (n' := nl1j) (N := nl + (zjust first n).flatten.length) (by omega) (by omega)
              have qr_16 := zX_rm hx2j (n' := ns1j) (N := ns + (zjust first n).length) (by omega) (by omega)
              refine z_callSN (wr := [(fo, .inr (2, [.ref mo, .int (nI pv), .int (nI va), .int (nI fh), .int (nI fs), .int (nI fk), .ref lo, .ref so, .ref to])), (lo, .inr (6, [.ref la1j, .int (nI nl1j)])), (la1j, .inl (cI, cl1j, .inl fl1j)), (so, .inr (6, [.ref sa1j, .int (nI ns1j)])), (sa1j, .inl (cI, cs1j, .inl ft1j))]) (rest := [.ref fo]) (As := [.int (nI (first + i))]) (host := RX7) F B (kX7_no l D cI cZ cG cJ (first + i)) hl.1 gX0_justOne_X7_no_n128 nX0_justOne_X7_no mX0_justOne_stX7_no mX0_justOne_iyX7_no rfl 1 yX0_justOne_X7_no rfl [] [0, 1, 2, 3, 4] rfl rfl rfl rfl (by decide) (Nat.le_of_ble_eq_true rfl) (Nat.le_of_ble_eq_true rfl) (Nat.le_of_ble_eq_true rfl) rfl dX0_justOne_30 (show (cl1j - cl) + (cs1j - cs) + 0 ≤ (zcap (nl + (zjust first n).flatten.length) cl - cl) + (zcap (ns + (zjust first n).length) cs - cs) by omega) (show 2 * ((cl1j - cl) + (cs1j - cs)) + 0 ≤ 2 * ((zcap (nl + (zjust first n).flatten.length) cl - cl) + (zcap (ns + (zjust first n).length) cs - cs)) by omega) (fun vv ww H locs hRR B => ?_)
              obtain ⟨rfl, rfl⟩ := hRR
              have B : zB D (zT cI cZ cG cJ) A s.heap s [(fo, .inr (2, [.ref mo, .int (nI pv), .int (nI va), .int (nI fh), .int (nI fs), .int (nI fk), .ref lo, .ref so, .ref to])), (lo, .inr (6, [.ref la1j, .int (nI nl1j)])), (la1j, .inl (cI, cl1j, .inl fl1j)), (so, .inr (6, [.ref sa1j, .int (nI ns1j)])), (sa1j, .inl (cI, cs1j, .inl ft1j))] _ _ := B
              refine W.eq (g2 := F0 m 33 ls [.int (nI (2 * (first + i) + 1)), .ref fo]) rfl ?_
              refine lv_iload F.1 F.2.1 dX0_justOne_33 (lv_at hl 4 rfl) ?_
              have qr_17 := zX_rm hx1j (n' := nl1j) (N := nl + (zjust first n).flatten.length) (by omega) (by omega)
              have qr_18 := zX_rm hx2j (n' := ns1j) (N := ns + (zjust first n).length) (by omega) (by omega)
              refine z_callSN (wr := [(fo, .inr (2, [.ref mo, .int (nI pv), .int (nI va), .int (nI fh), .int (nI fs), .int (nI fk), .ref lo, .ref so, .ref to])), (lo, .inr (6, [.ref la1j, .int (nI nl1j)])), (la1j, .inl (cI, cl1j, .inl fl1j)), (so, .inr (6, [.ref sa1j, .int (nI ns1j)])), (sa1j, .inl (cI, cs1j, .inl ft1j))]) (rest := [.int (nI (2 * (first + i) + 1)), .ref fo]) (As := [.int (nI (first + i + 1 + j))]) (host := RX7) F B (kX7_no l D cI cZ cG cJ (first + i + 1 + j)) hl.1 gX0_justOne_X7_no_n128 nX0_justOne_X7_no mX0_justOne_stX7_no mX0_justOne_iyX7_no rfl 1 yX0_justOne_X7_no rfl [] [0, 1, 2, 3, 4] rfl rfl rfl rfl (by decide) (Nat.le_of_ble_eq_true rfl) (Nat.le_of_ble_eq_true rfl) (Nat.le_of_ble_eq_true rfl) rfl dX0_justOne_35 (show (cl1j - cl) + (cs1j - cs) + 0 + 0 ≤ (zcap (nl + (zjust first n).flatten.length) cl - cl) + (zcap (ns + (zjust first n).length) cs - cs) by omega) (show 2 * ((cl1j - cl) + (cs1j - cs)) + 0 + 0 ≤ 2 * ((zcap (nl + (zjust first n).flatten.length) cl - cl) + (zcap (ns + (zjust first n).length) cs - cs)) by omega) (fun vv ww H locs hRR B => ?_)
              obtain ⟨rfl, rfl⟩ := hRR
              have B : zB D (zT cI cZ cG cJ) A s.heap s [(fo, .inr (2, [.ref mo, .int (nI pv), .int (nI va), .int (nI fh), .int (nI fs), .int (nI fk), .ref lo, .ref so, .ref to])), (lo, .inr (6, [.ref la1j, .int (nI nl1j)])), (la1j, .inl (cI, cl1j, .inl fl1j)), (so, .inr (6, [.ref sa1j, .int (nI ns1j)])), (sa1j, .inl (cI, cs1j, .inl ft1j))] _ _ := B
              refine W.eq (g2 := F0 m 38 ls [.int (nI (2 * (first + i + 1 + j) + 1)), .int (nI (2 * (first + i) + 1)), .ref fo]) rfl ?_
              have qr_19 := zX_rm hx1j (n' := nl1j + 2) (N := nl + (zjust first n).flatten.length) (by omega) (by omega)
              have qr_20 := zX_rm hx2j (n' := ns1j + 1) (N := ns + (zjust first n).length) (by omega) (by omega)
              refine z_callV (wr := []) (rest := []) (As := [.int (nI (2 * (first + i) + 1)), .int (nI (2 * (first + i + 1 + j) + 1))]) F B (kX0_clause_ l D cI cZ cG cJ fo mo pv va fh fs fk lo so to la1j nl1j cl1j fl1j sa1j ns1j cs1j ft1j (Cs ++ ([zsome first n] ++ ((List.range i).flatMap (zpairs first n) ++ (List.range j).map (zpair first i)))) (2 * (first + i) + 1) (2 * (first + i + 1 + j) + 1) (hF2) (hx1j.2.2.1) (hx2j.2.2.1) (by omega) (by omega)) hl.1 (C := RX0) (T := TX0) (N := 9) (ci := 2) (q0 := 0) gX0_justOne_X0_clause_ rfl 2 yX0_justOne_X0_clause_ rfl rfl rfl [0, 1, 2, 3, 4] [] rfl rfl rfl rfl (by decide) (Nat.le_of_ble_eq_true rfl) (Nat.le_of_ble_eq_true rfl) (Nat.le_of_ble_eq_true rfl) rfl dX0_justOne_38 (show (cl1j - cl) + (cs1j - cs) + 0 + 0 + ((zcap (nl1j + 2) cl1j - cl1j) + (zcap (ns1j + 1) cs1j - cs1j)) ≤ (zcap (nl + (zjust first n).flatten.length) cl - cl) + (zcap (ns + (zjust first n).length) cs - cs) by omega) (show 2 * ((cl1j - cl) + (cs1j - cs)) + 0 + 0 + (2 * ((zcap (nl1j + 2) cl1j - cl1j) + (zcap (ns1j + 1) cs1j - cs1j))) ≤ 2 * ((zcap (nl + (zjust first n).flatten.length) cl - cl) + (zcap (ns + (zjust first n).length) cs - cs)) by omega) (fun vv ww H locs hRR B => ?_)
              obtain ⟨la'_21, cl'_22, fl'_23, sa'_24, cs'_25, ft'_26, rfl, rfl, hxl'_27, hxs'_28, hFc⟩ := hRR
              have hX_29 := zX_tr hx1j hxl'_27
              have hX_29e := zX_cap hxl'_27 (hx1j).2.2.1.1
              have hX_291 := (hxl'_27).2.1; have hX_292 := (hx1j).2.1; have hX_293 := (hX_29).1; have hX_294 := (hX_29).2.2.1.2.1
              have hX_30 := zX_tr hx2j hxs'_28
              have hX_30e := zX_cap hxs'_28 (hx2j).2.2.1.1
              have hX_301 := (hxs'_28).2.1; have hX_302 := (hx2j).2.1; have hX_303 := (hX_30).1; have hX_304 := (hX_30).2.2.1.2.1
              refine W.widen (k := (cl'_22 - cl) + (cs'_25 - cs)) (n := 2 * ((cl'_22 - cl) + (cs'_25 - cs))) (by omega) (by omega) ?_
              have B : zB D (zT cI cZ cG cJ) A s.heap s [(fo, .inr (2, [.ref mo, .int (nI pv), .int (nI va), .int (nI fh), .int (nI fs), .int (nI fk), .ref lo, .ref so, .ref to])), (lo, .inr (6, [.ref la'_21, .int (nI (nl1j + 2))])), (la'_21, .inl (cI, cl'_22, .inl fl'_23)), (so, .inr (6, [.ref sa'_24, .int (nI (ns1j + 1))])), (sa'_24, .inl (cI, cs'_25, .inl ft'_26))] _ _ := B
              refine W.eq (g2 := F0 m 41 ls []) rfl ?_
              refine lv_iinc (v := (nI (first + i + 1 + j + 1))) (lv' := [(4, .int (nI (first + i + 1 + j + 1))), (0, .ref fo), (1, .int (nI first)), (2, .int (nI n)), (3, .int (nI (first + i)))]) F.1 F.2.1 dX0_justOne_41 hl (k := 4) rfl (by rw [show Int32.ofInt 1 = nI 1 from rfl, nI_add]) (by decide) rfl (fun ls hl => ?_)
              refine lv_goto (tgt := 20) F.1 F.2.1 dX0_justOne_44 (by decide) ?_
              exact ih20 (j + 1) la'_21 (nl1j + 2) cl'_22 fl'_23 sa'_24 (ns1j + 1) cs'_25 ft'_26 (by first | omega | (simp only [] at *; omega)) (by omega) (by rw [List.range_succ, List.map_append]; simpa [List.append_assoc, zpair] using hFc) (hX_29) (hX_30) _ _ _ (B.sub [0, 1, 2, 3, 4] rfl rfl) (lv_sub hl [1, 2, 3, 4, 0] rfl)
        exact loop20 (n - 0 + 1) 0 la1 nl1 cl1 fl1 sa1 ns1 cs1 ft1 (Nat.lt_succ_self _) (by omega) (by simpa using hF1) (hx1) (hx2) _ _ _ (B.sub [0, 1, 2, 3, 4] rfl rfl) (lv_sub hl [1, 2, 3, 4, 0] rfl)
  exact loop8 (n - 0 + 1) 0 la'_3 (nl + n) cl'_4 fl'_5 sa'_6 (ns + 1) cs'_7 ft'_8 (Nat.lt_succ_self _) (by omega) (by simpa using hFs) (hX_11) (hX_12) _ _ _ (B.sub [0, 1, 2, 3, 4] rfl rfl) (lv_sub hl [1, 2, 3, 0] rfl)
