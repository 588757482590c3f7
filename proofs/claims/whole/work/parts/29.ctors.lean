/-! CONTRACTS of constructors (but Run, TourChain), Machine.renew, isRule, addRule -/
theorem mX4_init_oi : Cond.methodLink RX4 1 objectInit ∈ wsX4_init := by decide +kernel
theorem mX4_init_oim : Cond.instanceMethod objectInit ∈ wsX4_init := by decide +kernel
theorem mX4_init_oic : Cond.code objectInit ⟨#[0xb1]⟩ 1 none ∈ wsX4_init := by decide +kernel
theorem mX4_init_arr : Cond.arrayClass .int ∈ wsX4_init := by decide +kernel
theorem iX4_init_X4 : ∀ w ∈ u_ws RX4 TX4 2, w ∈ wsX4_init := by decide +kernel
theorem fX4_init_7 : Cond.fieldLink RX4 7 "TourChain$Row" "items" "[I" ∈ wsX4_init := by decide +kernel
theorem fX4_init_13 : Cond.fieldLink RX4 13 "TourChain$Row" "size" "I" ∈ wsX4_init := by decide +kernel
set_option maxHeartbeats 4000000 in
set_option maxRecDepth 100000 in
theorem kX4_init (l : Launch) (D : va_G) (cI cZ cG cJ : ClassId) (h : Nat)  : zC l yX4_init wsX4_init 1 20 1 64 D (zT cI cZ cG cJ) [.ref h] [(h, .inr (6, [.null, .int 0]))] (fun (ov : Option Value) (ow : va_W) => ∃ q1 : Nat, ov = none ∧ ow = [(h, .inr (6, [.ref q1, .int (nI 0)])), (q1, .inl (cI, 64, .inl (fun _ => 0)))]) := by
  refine zC.of (cc := cX4_init) (maxL := 1) (ret := none) (by decide) rfl (Nat.le_of_ble_eq_true rfl) ?_
  intro p e s m below meth c A ls F hr hlk hnm B hl
  have hl : lv_has ls 1 [(0, .ref h)] := hl
  refine lv_aload_n F.1 F.2.1 dX4_init_0 rfl (lv_at hl 0 rfl) ?_
  refine W.objInit F.1 F.2.1 F.2.2.2.1 (F.2.2.2.2 _ mX4_init_oi) (F.2.2.2.2 _ mX4_init_oim) (F.2.2.2.2 _ mX4_init_oic) rfl (by rw [F.2.2.1]; exact hl.1) rfl dX4_init_1 (Nat.le_of_ble_eq_true rfl) (Nat.le_of_ble_eq_true rfl) ?_
  refine W.eq (g2 := F0 m 4 ls []) rfl ?_
  refine lv_aload_n F.1 F.2.1 dX4_init_4 rfl (lv_at hl 0 rfl) ?_
  refine lv_bipush (v := (nI 64)) F.1 F.2.1 dX4_init_5 (by decide) ?_
  refine z_newi F B 0 rfl mX4_init_arr (n := 64) (by omega) (show 0 + 1 ≤ 1 by omega) (show 0 + 64 ≤ 64 by omega) dX4_init_7 (fun q_1 H B => ?_)
  have B : zB D (zT cI cZ cG cJ) A s.heap s [(h, .inr (6, [.null, .int 0])), (q_1, .inl (cI, 64, .inl (fun _ => 0)))] _ _ := B
  refine z_put F B 0 rfl (ci := 6) (C := RX4) (T := TX4) (N := 2) rfl iX4_init_X4 tyX4 tyX4_ok nmX4 0 (by decide) fX4_init_7 rfl (v := .ref q_1) rfl rfl (Nat.le_of_ble_eq_true rfl) dX4_init_9 (fun H locs B => ?_)
  have B : zB D (zT cI cZ cG cJ) A s.heap s [(h, .inr (6, [.ref q_1, .int 0])), (q_1, .inl (cI, 64, .inl (fun _ => 0)))] _ _ := B
  refine lv_aload_n F.1 F.2.1 dX4_init_12 rfl (lv_at hl 0 rfl) ?_
  refine lv_iconst (v := (nI 0)) F.1 F.2.1 dX4_init_13 (by decide) ?_
  refine z_put F B 0 rfl (ci := 6) (C := RX4) (T := TX4) (N := 2) rfl iX4_init_X4 tyX4 tyX4_ok nmX4 1 (by decide) fX4_init_13 rfl (v := .int (nI 0)) rfl rfl (Nat.le_of_ble_eq_true rfl) dX4_init_14 (fun H locs B => ?_)
  have B : zB D (zT cI cZ cG cJ) A s.heap s [(h, .inr (6, [.ref q_1, .int (nI 0)])), (q_1, .inl (cI, 64, .inl (fun _ => 0)))] _ _ := B
  exact z_vret F hr hlk B [0, 1] rfl (rfl) dX4_init_17 (by omega) (by omega) ⟨q_1, rfl, rfl⟩
theorem mX3_init_oi : Cond.methodLink RX3 3 objectInit ∈ wsX3_init := by decide +kernel
theorem mX3_init_oim : Cond.instanceMethod objectInit ∈ wsX3_init := by decide +kernel
theorem mX3_init_oic : Cond.code objectInit ⟨#[0xb1]⟩ 1 none ∈ wsX3_init := by decide +kernel
theorem mX3_init_arr : Cond.arrayClass .int ∈ wsX3_init := by decide +kernel
theorem iX3_init_X3 : ∀ w ∈ u_ws RX3 TX3 10, w ∈ wsX3_init := by decide +kernel
theorem fX3_init_9 : Cond.fieldLink RX3 9 "TourChain$Machine" "from" "[I" ∈ wsX3_init := by decide +kernel
theorem fX3_init_15 : Cond.fieldLink RX3 15 "TourChain$Machine" "read" "[I" ∈ wsX3_init := by decide +kernel
theorem fX3_init_18 : Cond.fieldLink RX3 18 "TourChain$Machine" "to" "[I" ∈ wsX3_init := by decide +kernel
theorem fX3_init_21 : Cond.fieldLink RX3 21 "TourChain$Machine" "written" "[I" ∈ wsX3_init := by decide +kernel
theorem fX3_init_24 : Cond.fieldLink RX3 24 "TourChain$Machine" "move" "[I" ∈ wsX3_init := by decide +kernel
theorem fX3_init_27 : Cond.fieldLink RX3 27 "TourChain$Machine" "tape" "[I" ∈ wsX3_init := by decide +kernel
set_option maxHeartbeats 4000000 in
set_option maxRecDepth 100000 in
theorem kX3_init (l : Launch) (D : va_G) (cI cZ cG cJ : ClassId) (h : Nat)  : zC l yX3_init wsX3_init 1 20 6 44 D (zT cI cZ cG cJ) [.ref h] [(h, .inr (5, [.int 0, .int 0, .int 0, .int 0, .null, .null, .null, .null, .null, .null]))] (fun (ov : Option Value) (ow : va_W) => ∃ q1 : Nat, ∃ q2 : Nat, ∃ q3 : Nat, ∃ q4 : Nat, ∃ q5 : Nat, ∃ q6 : Nat, ov = none ∧ ow = [(h, .inr (5, [.int 0, .int 0, .int 0, .int 0, .ref q1, .ref q2, .ref q3, .ref q4, .ref q5, .ref q6])), (q1, .inl (cI, 8, .inl (fun _ => 0))), (q2, .inl (cI, 8, .inl (fun _ => 0))), (q3, .inl (cI, 8, .inl (fun _ => 0))), (q4, .inl (cI, 8, .inl (fun _ => 0))), (q5, .inl (cI, 8, .inl (fun _ => 0))), (q6, .inl (cI, 4, .inl (fun _ => 0)))]) := by
  refine zC.of (cc := cX3_init) (maxL := 1) (ret := none) (by decide) rfl (Nat.le_of_ble_eq_true rfl) ?_
  intro p e s m below meth c A ls F hr hlk hnm B hl
  have hl : lv_has ls 1 [(0, .ref h)] := hl
  refine lv_aload_n F.1 F.2.1 dX3_init_0 rfl (lv_at hl 0 rfl) ?_
  refine W.objInit F.1 F.2.1 F.2.2.2.1 (F.2.2.2.2 _ mX3_init_oi) (F.2.2.2.2 _ mX3_init_oim) (F.2.2.2.2 _ mX3_init_oic) rfl (by rw [F.2.2.1]; exact hl.1) rfl dX3_init_1 (Nat.le_of_ble_eq_true rfl) (Nat.le_of_ble_eq_true rfl) ?_
  refine W.eq (g2 := F0 m 4 ls []) rfl ?_
  refine lv_aload_n F.1 F.2.1 dX3_init_4 rfl (lv_at hl 0 rfl) ?_
  refine lv_bipush (v := (nI 8)) F.1 F.2.1 dX3_init_5 (by decide) ?_
  refine z_newi F B 0 rfl mX3_init_arr (n := 8) (by omega) (show 0 + 1 ≤ 6 by omega) (show 0 + 8 ≤ 44 by omega) dX3_init_7 (fun q_1 H B => ?_)
  have B : zB D (zT cI cZ cG cJ) A s.heap s [(h, .inr (5, [.int 0, .int 0, .int 0, .int 0, .null, .null, .null, .null, .null, .null])), (q_1, .inl (cI, 8, .inl (fun _ => 0)))] _ _ := B
  refine z_putF F B hnm 0 rfl (ci := 5) (C := RX3) (T := TX3) (N := 10) rfl iX3_init_X3 tyX3 tyX3_ok nmX3 4 (by decide) fX3_init_9 rfl rfl (v := .ref q_1) rfl rfl (Nat.le_of_ble_eq_true rfl) dX3_init_9 (fun H locs B => ?_)
  have B : zB D (zT cI cZ cG cJ) A s.heap s [(h, .inr (5, [.int 0, .int 0, .int 0, .int 0, .ref q_1, .null, .null, .null, .null, .null])), (q_1, .inl (cI, 8, .inl (fun _ => 0)))] _ _ := B
  refine lv_aload_n F.1 F.2.1 dX3_init_12 rfl (lv_at hl 0 rfl) ?_
  refine lv_bipush (v := (nI 8)) F.1 F.2.1 dX3_init_13 (by decide) ?_
  refine z_newi F B 0 rfl mX3_init_arr (n := 8) (by omega) (show 1 + 1 ≤ 6 by omega) (show 8 + 8 ≤ 44 by omega) dX3_init_15 (fun q_2 H B => ?_)
  have B : zB D (zT cI cZ cG cJ) A s.heap s [(h, .inr (5, [.int 0, .int 0, .int 0, .int 0, .ref q_1, .null, .null, .null, .null, .null])), (q_1, .inl (cI, 8, .inl (fun _ => 0))), (q_2, .inl (cI, 8, .inl (fun _ => 0)))] _ _ := B
  refine z_putF F B hnm 0 rfl (ci := 5) (C := RX3) (T := TX3) (N := 10) rfl iX3_init_X3 tyX3 tyX3_ok nmX3 5 (by decide) fX3_init_15 rfl rfl (v := .ref q_2) rfl rfl (Nat.le_of_ble_eq_true rfl) dX3_init_17 (fun H locs B => ?_)
  have B : zB D (zT cI cZ cG cJ) A s.heap s [(h, .inr (5, [.int 0, .int 0, .int 0, .int 0, .ref q_1, .ref q_2, .null, .null, .null, .null])), (q_1, .inl (cI, 8, .inl (fun _ => 0))), (q_2, .inl (cI, 8, .inl (fun _ => 0)))] _ _ := B
  refine lv_aload_n F.1 F.2.1 dX3_init_20 rfl (lv_at hl 0 rfl) ?_
  refine lv_bipush (v := (nI 8)) F.1 F.2.1 dX3_init_21 (by decide) ?_
  refine z_newi F B 0 rfl mX3_init_arr (n := 8) (by omega) (show 2 + 1 ≤ 6 by omega) (show 16 + 8 ≤ 44 by omega) dX3_init_23 (fun q_3 H B => ?_)
  have B : zB D (zT cI cZ cG cJ) A s.heap s [(h, .inr (5, [.int 0, .int 0, .int 0, .int 0, .ref q_1, .ref q_2, .null, .null, .null, .null])), (q_1, .inl (cI, 8, .inl (fun _ => 0))), (q_2, .inl (cI, 8, .inl (fun _ => 0))), (q_3, .inl (cI, 8, .inl (fun _ => 0)))] _ _ := B
  refine z_putF F B hnm 0 rfl (ci := 5) (C := RX3) (T := TX3) (N := 10) rfl iX3_init_X3 tyX3 tyX3_ok nmX3 6 (by decide) fX3_init_18 rfl rfl (v := .ref q_3) rfl rfl (Nat.le_of_ble_eq_true rfl) dX3_init_25 (fun H locs B => ?_)
  have B : zB D (zT cI cZ cG cJ) A s.heap s [(h, .inr (5, [.int 0, .int 0, .int 0, .int 0, .ref q_1, .ref q_2, .ref q_3, .null, .null, .null])), (q_1, .inl (cI, 8, .inl (fun _ => 0))), (q_2, .inl (cI, 8, .inl (fun _ => 0))), (q_3, .inl (cI, 8, .inl (fun _ => 0)))] _ _ := B
  refine lv_aload_n F.1 F.2.1 dX3_init_28 rfl (lv_at hl 0 rfl) ?_
  refine lv_bipush (v := (nI 8)) F.1 F.2.1 dX3_init_29 (by decide) ?_
  refine z_newi F B 0 rfl mX3_init_arr (n := 8) (by omega) (show 3 + 1 ≤ 6 by omega) (show 24 + 8 ≤ 44 by omega) dX3_init_31 (fun q_4 H B => ?_)
  have B : zB D (zT cI cZ cG cJ) A s.heap s [(h, .inr (5, [.int 0, .int 0, .int 0, .int 0, .ref q_1, .ref q_2, .ref q_3, .null, .null, .null])), (q_1, .inl (cI, 8, .inl (fun _ => 0))), (q_2, .inl (cI, 8, .inl (fun _ => 0))), (q_3, .inl (cI, 8, .inl (fun _ => 0))), (q_4, .inl (cI, 8, .inl (fun _ => 0)))] _ _ := B
  refine z_putF F B hnm 0 rfl (ci := 5) (C := RX3) (T := TX3) (N := 10) rfl iX3_init_X3 tyX3 tyX3_ok nmX3 7 (by decide) fX3_init_21 rfl rfl (v := .ref q_4) rfl rfl (Nat.le_of_ble_eq_true rfl) dX3_init_33 (fun H locs B => ?_)
  have B : zB D (zT cI cZ cG cJ) A s.heap s [(h, .inr (5, [.int 0, .int 0, .int 0, .int 0, .ref q_1, .ref q_2, .ref q_3, .ref q_4, .null, .null])), (q_1, .inl (cI, 8, .inl (fun _ => 0))), (q_2, .inl (cI, 8, .inl (fun _ => 0))), (q_3, .inl (cI, 8, .inl (fun _ => 0))), (q_4, .inl (cI, 8, .inl (fun _ => 0)))] _ _ := B
  refine lv_aload_n F.1 F.2.1 dX3_init_36 rfl (lv_at hl 0 rfl) ?_
  refine lv_bipush (v := (nI 8)) F.1 F.2.1 dX3_init_37 (by decide) ?_
  refine z_newi F B 0 rfl mX3_init_arr (n := 8) (by omega) (show 4 + 1 ≤ 6 by omega) (show 32 + 8 ≤ 44 by omega) dX3_init_39 (fun q_5 H B => ?_)
  have B : zB D (zT cI cZ cG cJ) A s.heap s [(h, .inr (5, [.int 0, .int 0, .int 0, .int 0, .ref q_1, .ref q_2, .ref q_3, .ref q_4, .null, .null])), (q_1, .inl (cI, 8, .inl (fun _ => 0))), (q_2, .inl (cI, 8, .inl (fun _ => 0))), (q_3, .inl (cI, 8, .inl (fun _ => 0))), (q_4, .inl (cI, 8, .inl (fun _ => 0))), (q_5, .inl (cI, 8, .inl (fun _ => 0)))] _ _ := B
  refine z_putF F B hnm 0 rfl (ci := 5) (C := RX3) (T := TX3) (N := 10) rfl iX3_init_X3 tyX3 tyX3_ok nmX3 8 (by decide) fX3_init_24 rfl rfl (v := .ref q_5) rfl rfl (Nat.le_of_ble_eq_true rfl) dX3_init_41 (fun H locs B => ?_)
  have B : zB D (zT cI cZ cG cJ) A s.heap s [(h, .inr (5, [.int 0, .int 0, .int 0, .int 0, .ref q_1, .ref q_2, .ref q_3, .ref q_4, .ref q_5, .null])), (q_1, .inl (cI, 8, .inl (fun _ => 0))), (q_2, .inl (cI, 8, .inl (fun _ => 0))), (q_3, .inl (cI, 8, .inl (fun _ => 0))), (q_4, .inl (cI, 8, .inl (fun _ => 0))), (q_5, .inl (cI, 8, .inl (fun _ => 0)))] _ _ := B
  refine lv_aload_n F.1 F.2.1 dX3_init_44 rfl (lv_at hl 0 rfl) ?_
  refine lv_iconst (v := (nI 4)) F.1 F.2.1 dX3_init_45 (by decide) ?_
  refine z_newi F B 0 rfl mX3_init_arr (n := 4) (by omega) (show 5 + 1 ≤ 6 by omega) (show 40 + 4 ≤ 44 by omega) dX3_init_46 (fun q_6 H B => ?_)
  have B : zB D (zT cI cZ cG cJ) A s.heap s [(h, .inr (5, [.int 0, .int 0, .int 0, .int 0, .ref q_1, .ref q_2, .ref q_3, .ref q_4, .ref q_5, .null])), (q_1, .inl (cI, 8, .inl (fun _ => 0))), (q_2, .inl (cI, 8, .inl (fun _ => 0))), (q_3, .inl (cI, 8, .inl (fun _ => 0))), (q_4, .inl (cI, 8, .inl (fun _ => 0))), (q_5, .inl (cI, 8, .inl (fun _ => 0))), (q_6, .inl (cI, 4, .inl (fun _ => 0)))] _ _ := B
  refine z_putF F B hnm 0 rfl (ci := 5) (C := RX3) (T := TX3) (N := 10) rfl iX3_init_X3 tyX3 tyX3_ok nmX3 9 (by decide) fX3_init_27 rfl rfl (v := .ref q_6) rfl rfl (Nat.le_of_ble_eq_true rfl) dX3_init_48 (fun H locs B => ?_)
  have B : zB D (zT cI cZ cG cJ) A s.heap s [(h, .inr (5, [.int 0, .int 0, .int 0, .int 0, .ref q_1, .ref q_2, .ref q_3, .ref q_4, .ref q_5, .ref q_6])), (q_1, .inl (cI, 8, .inl (fun _ => 0))), (q_2, .inl (cI, 8, .inl (fun _ => 0))), (q_3, .inl (cI, 8, .inl (fun _ => 0))), (q_4, .inl (cI, 8, .inl (fun _ => 0))), (q_5, .inl (cI, 8, .inl (fun _ => 0))), (q_6, .inl (cI, 4, .inl (fun _ => 0)))] _ _ := B
  exact z_vret F hr hlk B [0, 1, 2, 3, 4, 5, 6] rfl (rfl) dX3_init_51 (by omega) (by omega) ⟨q_1, q_2, q_3, q_4, q_5, q_6, rfl, rfl⟩
theorem mX0_init_oi : Cond.methodLink RX0 1 objectInit ∈ wsX0_init := by decide +kernel
theorem mX0_init_oim : Cond.instanceMethod objectInit ∈ wsX0_init := by decide +kernel
theorem mX0_init_oic : Cond.code objectInit ⟨#[0xb1]⟩ 1 none ∈ wsX0_init := by decide +kernel
theorem iX0_init_X4 : ∀ w ∈ u_ws RX4 TX4 2, w ∈ wsX0_init := by decide +kernel
theorem mX0_init_cl7 : Cond.classLink RX0 7 RX4 ∈ wsX0_init := by decide +kernel
theorem mX0_init_inX4 : Cond.instantiable RX4 2 ∈ wsX0_init := by decide +kernel
theorem mX0_init_iniX4 : Cond.initialized RX4 ∈ wsX0_init := by decide +kernel
theorem nX0_init_X4_init : Cond.methodLinkNest RX0 9 yX4_init RX7 ∈ zNW := by decide +kernel
theorem mX0_init_iyX4_init : Cond.initialized yX4_init.cls ∈ wsX0_init := by decide +kernel
theorem mX0_init_imX4_init : Cond.instanceMethod yX4_init ∈ wsX0_init := by decide +kernel
theorem yX0_init_X4_init : yX4_init.cls ≠ "java/lang/invoke/MethodHandle" ∧ yX4_init.cls ≠ "java/lang/invoke/VarHandle" ∧ (parseMethodDescriptor yX4_init.desc).map (fun d => d.parameters.length) = some 0 := by decide +kernel
theorem iX0_init_X0 : ∀ w ∈ u_ws RX0 TX0 9, w ∈ wsX0_init := by decide +kernel
theorem fX0_init_10 : Cond.fieldLink RX0 10 "TourChain$Formula" "literals" "LTourChain$Row;" ∈ wsX0_init := by decide +kernel
theorem fX0_init_16 : Cond.fieldLink RX0 16 "TourChain$Formula" "starts" "LTourChain$Row;" ∈ wsX0_init := by decide +kernel
theorem fX0_init_19 : Cond.fieldLink RX0 19 "TourChain$Formula" "threeLiterals" "LTourChain$Row;" ∈ wsX0_init := by decide +kernel
theorem fX0_init_22 : Cond.fieldLink RX0 22 "TourChain$Formula" "machine" "LTourChain$Machine;" ∈ wsX0_init := by decide +kernel
set_option maxHeartbeats 4000000 in
set_option maxRecDepth 100000 in
theorem kX0_init (l : Launch) (D : va_G) (cI cZ cG cJ : ClassId) (h : Nat) (mo : Nat)  : zC l yX0_init wsX0_init 2 40 6 198 D (zT cI cZ cG cJ) [.ref h, .ref mo] [(h, .inr (2, [.null, .int 0, .int 0, .int 0, .int 0, .int 0, .null, .null, .null]))] (fun (ov : Option Value) (ow : va_W) => ∃ o1 : Nat, ∃ b1 : Nat, ∃ o2 : Nat, ∃ b2 : Nat, ∃ o3 : Nat, ∃ b3 : Nat, ov = none ∧ ow = [(h, .inr (2, [.ref mo, .int 0, .int 0, .int 0, .int 0, .int 0, .ref o1, .ref o2, .ref o3])), (o1, .inr (6, [.ref b1, .int (nI 0)])), (b1, .inl (cI, 64, .inl (fun _ => 0))), (o2, .inr (6, [.ref b2, .int (nI 0)])), (b2, .inl (cI, 64, .inl (fun _ => 0))), (o3, .inr (6, [.ref b3, .int (nI 0)])), (b3, .inl (cI, 64, .inl (fun _ => 0)))]) := by
  refine zC.of (cc := cX0_init) (maxL := 2) (ret := none) (by decide) rfl (Nat.le_of_ble_eq_true rfl) ?_
  intro p e s m below meth c A ls F hr hlk hnm B hl
  have hl : lv_has ls 2 [(0, .ref h), (1, .ref mo)] := hl
  refine lv_aload_n F.1 F.2.1 dX0_init_0 rfl (lv_at hl 0 rfl) ?_
  refine W.objInit F.1 F.2.1 F.2.2.2.1 (F.2.2.2.2 _ mX0_init_oi) (F.2.2.2.2 _ mX0_init_oim) (F.2.2.2.2 _ mX0_init_oic) rfl (by rw [F.2.2.1]; exact hl.1) rfl dX0_init_1 (Nat.le_of_ble_eq_true rfl) (Nat.le_of_ble_eq_true rfl) ?_
  refine W.eq (g2 := F0 m 4 ls []) rfl ?_
  refine lv_aload_n F.1 F.2.1 dX0_init_4 rfl (lv_at hl 0 rfl) ?_
  refine z_new F B (ci := 6) (C := RX4) (T := TX4) (N := 2) rfl iX0_init_X4 tyX4 tyX4_ok mX0_init_cl7 mX0_init_inX4 mX0_init_iniX4 (fs := [.null, .int 0]) (fun j hj => by rcases (show j = 0 ∨ j = 1 by omega) with rfl | rfl <;> rfl) (show 0 + 1 ≤ 6 by omega) (show 0 + 2 ≤ 198 by omega) dX0_init_5 (fun q_1 H B => ?_)
  have B : zB D (zT cI cZ cG cJ) A s.heap s [(h, .inr (2, [.null, .int 0, .int 0, .int 0, .int 0, .int 0, .null, .null, .null])), (q_1, .inr (6, [.null, .int 0]))] _ _ := B
  refine lv_dup F.1 F.2.1 dX0_init_8 rfl ?_
  refine z_callIN (wr := [(h, .inr (2, [.null, .int 0, .int 0, .int 0, .int 0, .int 0, .null, .null, .null]))]) (rest := [.ref q_1, .ref h]) (As := []) (host := RX7) F B (kX4_init l D cI cZ cG cJ q_1) hl.1 gX0_init_X4_init_n9 nX0_init_X4_init mX0_init_iyX4_init mX0_init_imX4_init rfl rfl 0 yX0_init_X4_init rfl [1] [0] rfl rfl rfl rfl (by decide) (Nat.le_of_ble_eq_true rfl) (Nat.le_of_ble_eq_true rfl) (Nat.le_of_ble_eq_true rfl) rfl dX0_init_9 (show 1 + 1 ≤ 6 by omega) (show 2 + 64 ≤ 198 by omega) (fun vv ww H locs hRR B => ?_)
  obtain ⟨q1_2, rfl, rfl⟩ := hRR
  have B : zB D (zT cI cZ cG cJ) A s.heap s [(h, .inr (2, [.null, .int 0, .int 0, .int 0, .int 0, .int 0, .null, .null, .null])), (q_1, .inr (6, [.ref q1_2, .int (nI 0)])), (q1_2, .inl (cI, 64, .inl (fun _ => 0)))] _ _ := B
  refine W.eq (g2 := F0 m 12 ls [.ref q_1, .ref h]) rfl ?_
  refine z_putF F B hnm 0 rfl (ci := 2) (C := RX0) (T := TX0) (N := 9) rfl iX0_init_X0 tyX0 tyX0_ok nmX0 6 (by decide) fX0_init_10 rfl rfl (v := .ref q_1) rfl rfl (Nat.le_of_ble_eq_true rfl) dX0_init_12 (fun H locs B => ?_)
  have B : zB D (zT cI cZ cG cJ) A s.heap s [(h, .inr (2, [.null, .int 0, .int 0, .int 0, .int 0, .int 0, .ref q_1, .null, .null])), (q_1, .inr (6, [.ref q1_2, .int (nI 0)])), (q1_2, .inl (cI, 64, .inl (fun _ => 0)))] _ _ := B
  refine lv_aload_n F.1 F.2.1 dX0_init_15 rfl (lv_at hl 0 rfl) ?_
  refine z_new F B (ci := 6) (C := RX4) (T := TX4) (N := 2) rfl iX0_init_X4 tyX4 tyX4_ok mX0_init_cl7 mX0_init_inX4 mX0_init_iniX4 (fs := [.null, .int 0]) (fun j hj => by rcases (show j = 0 ∨ j = 1 by omega) with rfl | rfl <;> rfl) (show 2 + 1 ≤ 6 by omega) (show 66 + 2 ≤ 198 by omega) dX0_init_16 (fun q_3 H B => ?_)
  have B : zB D (zT cI cZ cG cJ) A s.heap s [(h, .inr (2, [.null, .int 0, .int 0, .int 0, .int 0, .int 0, .ref q_1, .null, .null])), (q_1, .inr (6, [.ref q1_2, .int (nI 0)])), (q1_2, .inl (cI, 64, .inl (fun _ => 0))), (q_3, .inr (6, [.null, .int 0]))] _ _ := B
  refine lv_dup F.1 F.2.1 dX0_init_19 rfl ?_
  refine z_callIN (wr := [(h, .inr (2, [.null, .int 0, .int 0, .int 0, .int 0, .int 0, .ref q_1, .null, .null])), (q_1, .inr (6, [.ref q1_2, .int (nI 0)])), (q1_2, .inl (cI, 64, .inl (fun _ => 0)))]) (rest := [.ref q_3, .ref h]) (As := []) (host := RX7) F B (kX4_init l D cI cZ cG cJ q_3) hl.1 gX0_init_X4_init_n9 nX0_init_X4_init mX0_init_iyX4_init mX0_init_imX4_init rfl rfl 0 yX0_init_X4_init rfl [3] [0, 1, 2] rfl rfl rfl rfl (by decide) (Nat.le_of_ble_eq_true rfl) (Nat.le_of_ble_eq_true rfl) (Nat.le_of_ble_eq_true rfl) rfl dX0_init_20 (show 3 + 1 ≤ 6 by omega) (show 68 + 64 ≤ 198 by omega) (fun vv ww H locs hRR B => ?_)
  obtain ⟨q1_4, rfl, rfl⟩ := hRR
  have B : zB D (zT cI cZ cG cJ) A s.heap s [(h, .inr (2, [.null, .int 0, .int 0, .int 0, .int 0, .int 0, .ref q_1, .null, .null])), (q_1, .inr (6, [.ref q1_2, .int (nI 0)])), (q1_2, .inl (cI, 64, .inl (fun _ => 0))), (q_3, .inr (6, [.ref q1_4, .int (nI 0)])), (q1_4, .inl (cI, 64, .inl (fun _ => 0)))] _ _ := B
  refine W.eq (g2 := F0 m 23 ls [.ref q_3, .ref h]) rfl ?_
  refine z_putF F B hnm 0 rfl (ci := 2) (C := RX0) (T := TX0) (N := 9) rfl iX0_init_X0 tyX0 tyX0_ok nmX0 7 (by decide) fX0_init_16 rfl rfl (v := .ref q_3) rfl rfl (Nat.le_of_ble_eq_true rfl) dX0_init_23 (fun H locs B => ?_)
  have B : zB D (zT cI cZ cG cJ) A s.heap s [(h, .inr (2, [.null, .int 0, .int 0, .int 0, .int 0, .int 0, .ref q_1, .ref q_3, .null])), (q_1, .inr (6, [.ref q1_2, .int (nI 0)])), (q1_2, .inl (cI, 64, .inl (fun _ => 0))), (q_3, .inr (6, [.ref q1_4, .int (nI 0)])), (q1_4, .inl (cI, 64, .inl (fun _ => 0)))] _ _ := B
  refine lv_aload_n F.1 F.2.1 dX0_init_26 rfl (lv_at hl 0 rfl) ?_
  refine z_new F B (ci := 6) (C := RX4) (T := TX4) (N := 2) rfl iX0_init_X4 tyX4 tyX4_ok mX0_init_cl7 mX0_init_inX4 mX0_init_iniX4 (fs := [.null, .int 0]) (fun j hj => by rcases (show j = 0 ∨ j = 1 by omega) with rfl | rfl <;> rfl) (show 4 + 1 ≤ 6 by omega) (show 132 + 2 ≤ 198 by omega) dX0_init_27 (fun q_5 H B => ?_)
  have B : zB D (zT cI cZ cG cJ) A s.heap s [(h, .inr (2, [.null, .int 0, .int 0, .int 0, .int 0, .int 0, .ref q_1, .ref q_3, .null])), (q_1, .inr (6, [.ref q1_2, .int (nI 0)])), (q1_2, .inl (cI, 64, .inl (fun _ => 0))), (q_3, .inr (6, [.ref q1_4, .int (nI 0)])), (q1_4, .inl (cI, 64, .inl (fun _ => 0))), (q_5, .inr (6, [.null, .int 0]))] _ _ := B
  refine lv_dup F.1 F.2.1 dX0_init_30 rfl ?_
  refine z_callIN (wr := [(h, .inr (2, [.null, .int 0, .int 0, .int 0, .int 0, .int 0, .ref q_1, .ref q_3, .null])), (q_1, .inr (6, [.ref q1_2, .int (nI 0)])), (q1_2, .inl (cI, 64, .inl (fun _ => 0))), (q_3, .inr (6, [.ref q1_4, .int (nI 0)])), (q1_4, .inl (cI, 64, .inl (fun _ => 0)))]) (rest := [.ref q_5, .ref h]) (As := []) (host := RX7) F B (kX4_init l D cI cZ cG cJ q_5) hl.1 gX0_init_X4_init_n9 nX0_init_X4_init mX0_init_iyX4_init mX0_init_imX4_init rfl rfl 0 yX0_init_X4_init rfl [5] [0, 1, 2, 3, 4] rfl rfl rfl rfl (by decide) (Nat.le_of_ble_eq_true rfl) (Nat.le_of_ble_eq_true rfl) (Nat.le_of_ble_eq_true rfl) rfl dX0_init_31 (show 5 + 1 ≤ 6 by omega) (show 134 + 64 ≤ 198 by omega) (fun vv ww H locs hRR B => ?_)
  obtain ⟨q1_6, rfl, rfl⟩ := hRR
  have B : zB D (zT cI cZ cG cJ) A s.heap s [(h, .inr (2, [.null, .int 0, .int 0, .int 0, .int 0, .int 0, .ref q_1, .ref q_3, .null])), (q_1, .inr (6, [.ref q1_2, .int (nI 0)])), (q1_2, .inl (cI, 64, .inl (fun _ => 0))), (q_3, .inr (6, [.ref q1_4, .int (nI 0)])), (q1_4, .inl (cI, 64, .inl (fun _ => 0))), (q_5, .inr (6, [.ref q1_6, .int (nI 0)])), (q1_6, .inl (cI, 64, .inl (fun _ => 0)))] _ _ := B
  refine W.eq (g2 := F0 m 34 ls [.ref q_5, .ref h]) rfl ?_
  refine z_putF F B hnm 0 rfl (ci := 2) (C := RX0) (T := TX0) (N := 9) rfl iX0_init_X0 tyX0 tyX0_ok nmX0 8 (by decide) fX0_init_19 rfl rfl (v := .ref q_5) rfl rfl (Nat.le_of_ble_eq_true rfl) dX0_init_34 (fun H locs B => ?_)
  have B : zB D (zT cI cZ cG cJ) A s.heap s [(h, .inr (2, [.null, .int 0, .int 0, .int 0, .int 0, .int 0, .ref q_1, .ref q_3, .ref q_5])), (q_1, .inr (6, [.ref q1_2, .int (nI 0)])), (q1_2, .inl (cI, 64, .inl (fun _ => 0))), (q_3, .inr (6, [.ref q1_4, .int (nI 0)])), (q1_4, .inl (cI, 64, .inl (fun _ => 0))), (q_5, .inr (6, [.ref q1_6, .int (nI 0)])), (q1_6, .inl (cI, 64, .inl (fun _ => 0)))] _ _ := B
  refine lv_aload_n F.1 F.2.1 dX0_init_37 rfl (lv_at hl 0 rfl) ?_
  refine lv_aload_n F.1 F.2.1 dX0_init_38 rfl (lv_at hl 1 rfl) ?_
  refine z_putF F B hnm 0 rfl (ci := 2) (C := RX0) (T := TX0) (N := 9) rfl iX0_init_X0 tyX0 tyX0_ok nmX0 0 (by decide) fX0_init_22 rfl rfl (v := .ref mo) rfl rfl (Nat.le_of_ble_eq_true rfl) dX0_init_39 (fun H locs B => ?_)
  have B : zB D (zT cI cZ cG cJ) A s.heap s [(h, .inr (2, [.ref mo, .int 0, .int 0, .int 0, .int 0, .int 0, .ref q_1, .ref q_3, .ref q_5])), (q_1, .inr (6, [.ref q1_2, .int (nI 0)])), (q1_2, .inl (cI, 64, .inl (fun _ => 0))), (q_3, .inr (6, [.ref q1_4, .int (nI 0)])), (q1_4, .inl (cI, 64, .inl (fun _ => 0))), (q_5, .inr (6, [.ref q1_6, .int (nI 0)])), (q1_6, .inl (cI, 64, .inl (fun _ => 0)))] _ _ := B
  exact z_vret F hr hlk B [0, 1, 2, 3, 4, 5, 6] rfl (rfl) dX0_init_42 (by omega) (by omega) ⟨q_1, q1_2, q_3, q1_4, q_5, q1_6, rfl, rfl⟩
theorem mX2_init_oi : Cond.methodLink RX2 1 objectInit ∈ wsX2_init := by decide +kernel
theorem mX2_init_oim : Cond.instanceMethod objectInit ∈ wsX2_init := by decide +kernel
theorem mX2_init_oic : Cond.code objectInit ⟨#[0xb1]⟩ 1 none ∈ wsX2_init := by decide +kernel
theorem mX2_init_arr : Cond.arrayClass .int ∈ wsX2_init := by decide +kernel
theorem iX2_init_X2 : ∀ w ∈ u_ws RX2 TX2 9, w ∈ wsX2_init := by decide +kernel
theorem fX2_init_7 : Cond.fieldLink RX2 7 "TourChain$Graph" "vertexAt" "[I" ∈ wsX2_init := by decide +kernel
theorem fX2_init_13 : Cond.fieldLink RX2 13 "TourChain$Graph" "sides" "[I" ∈ wsX2_init := by decide +kernel
theorem fX2_init_16 : Cond.fieldLink RX2 16 "TourChain$Graph" "standing" "[I" ∈ wsX2_init := by decide +kernel
theorem fX2_init_19 : Cond.fieldLink RX2 19 "TourChain$Graph" "starts" "[I" ∈ wsX2_init := by decide +kernel
theorem fX2_init_22 : Cond.fieldLink RX2 22 "TourChain$Graph" "formula" "LTourChain$Formula;" ∈ wsX2_init := by decide +kernel
set_option maxHeartbeats 4000000 in
set_option maxRecDepth 100000 in
theorem kX2_init (l : Launch) (D : va_G) (cI cZ cG cJ : ClassId) (h : Nat) (fo : Nat)  : zC l yX2_init wsX2_init 1 20 4 0 D (zT cI cZ cG cJ) [.ref h, .ref fo] [(h, .inr (4, [.null, .int 0, .int 0, .int 0, .int 0, .null, .null, .null, .null]))] (fun (ov : Option Value) (ow : va_W) => ∃ q1 : Nat, ∃ q2 : Nat, ∃ q3 : Nat, ∃ q4 : Nat, ov = none ∧ ow = [(h, .inr (4, [.ref fo, .int 0, .int 0, .int 0, .int 0, .ref q1, .ref q2, .ref q3, .ref q4])), (q1, .inl (cI, 0, .inl (fun _ => 0))), (q2, .inl (cI, 0, .inl (fun _ => 0))), (q3, .inl (cI, 0, .inl (fun _ => 0))), (q4, .inl (cI, 0, .inl (fun _ => 0)))]) := by
  refine zC.of (cc := cX2_init) (maxL := 2) (ret := none) (by decide) rfl (Nat.le_of_ble_eq_true rfl) ?_
  intro p e s m below meth c A ls F hr hlk hnm B hl
  have hl : lv_has ls 2 [(0, .ref h), (1, .ref fo)] := hl
  refine lv_aload_n F.1 F.2.1 dX2_init_0 rfl (lv_at hl 0 rfl) ?_
  refine W.objInit F.1 F.2.1 F.2.2.2.1 (F.2.2.2.2 _ mX2_init_oi) (F.2.2.2.2 _ mX2_init_oim) (F.2.2.2.2 _ mX2_init_oic) rfl (by rw [F.2.2.1]; exact hl.1) rfl dX2_init_1 (Nat.le_of_ble_eq_true rfl) (Nat.le_of_ble_eq_true rfl) ?_
  refine W.eq (g2 := F0 m 4 ls []) rfl ?_
  refine lv_aload_n F.1 F.2.1 dX2_init_4 rfl (lv_at hl 0 rfl) ?_
  refine lv_iconst (v := (nI 0)) F.1 F.2.1 dX2_init_5 (by decide) ?_
  refine z_newi F B 0 rfl mX2_init_arr (n := 0) (by omega) (show 0 + 1 ≤ 4 by omega) (show 0 + 0 ≤ 0 by omega) dX2_init_6 (fun q_1 H B => ?_)
  have B : zB D (zT cI cZ cG cJ) A s.heap s [(h, .inr (4, [.null, .int 0, .int 0, .int 0, .int 0, .null, .null, .null, .null])), (q_1, .inl (cI, 0, .inl (fun _ => 0)))] _ _ := B
  refine z_put F B 0 rfl (ci := 4) (C := RX2) (T := TX2) (N := 9) rfl iX2_init_X2 tyX2 tyX2_ok nmX2 5 (by decide) fX2_init_7 rfl (v := .ref q_1) rfl rfl (Nat.le_of_ble_eq_true rfl) dX2_init_8 (fun H locs B => ?_)
  have B : zB D (zT cI cZ cG cJ) A s.heap s [(h, .inr (4, [.null, .int 0, .int 0, .int 0, .int 0, .ref q_1, .null, .null, .null])), (q_1, .inl (cI, 0, .inl (fun _ => 0)))] _ _ := B
  refine lv_aload_n F.1 F.2.1 dX2_init_11 rfl (lv_at hl 0 rfl) ?_
  refine lv_iconst (v := (nI 0)) F.1 F.2.1 dX2_init_12 (by decide) ?_
  refine z_newi F B 0 rfl mX2_init_arr (n := 0) (by omega) (show 1 + 1 ≤ 4 by omega) (show 0 + 0 ≤ 0 by omega) dX2_init_13 (fun q_2 H B => ?_)
  have B : zB D (zT cI cZ cG cJ) A s.heap s [(h, .inr (4, [.null, .int 0, .int 0, .int 0, .int 0, .ref q_1, .null, .null, .null])), (q_1, .inl (cI, 0, .inl (fun _ => 0))), (q_2, .inl (cI, 0, .inl (fun _ => 0)))] _ _ := B
  refine z_put F B 0 rfl (ci := 4) (C := RX2) (T := TX2) (N := 9) rfl iX2_init_X2 tyX2 tyX2_ok nmX2 6 (by decide) fX2_init_13 rfl (v := .ref q_2) rfl rfl (Nat.le_of_ble_eq_true rfl) dX2_init_15 (fun H locs B => ?_)
  have B : zB D (zT cI cZ cG cJ) A s.heap s [(h, .inr (4, [.null, .int 0, .int 0, .int 0, .int 0, .ref q_1, .ref q_2, .null, .null])), (q_1, .inl (cI, 0, .inl (fun _ => 0))), (q_2, .inl (cI, 0, .inl (fun _ => 0)))] _ _ := B
  refine lv_aload_n F.1 F.2.1 dX2_init_18 rfl (lv_at hl 0 rfl) ?_
  refine lv_iconst (v := (nI 0)) F.1 F.2.1 dX2_init_19 (by decide) ?_
  refine z_newi F B 0 rfl mX2_init_arr (n := 0) (by omega) (show 2 + 1 ≤ 4 by omega) (show 0 + 0 ≤ 0 by omega) dX2_init_20 (fun q_3 H B => ?_)
  have B : zB D (zT cI cZ cG cJ) A s.heap s [(h, .inr (4, [.null, .int 0, .int 0, .int 0, .int 0, .ref q_1, .ref q_2, .null, .null])), (q_1, .inl (cI, 0, .inl (fun _ => 0))), (q_2, .inl (cI, 0, .inl (fun _ => 0))), (q_3, .inl (cI, 0, .inl (fun _ => 0)))] _ _ := B
  refine z_put F B 0 rfl (ci := 4) (C := RX2) (T := TX2) (N := 9) rfl iX2_init_X2 tyX2 tyX2_ok nmX2 7 (by decide) fX2_init_16 rfl (v := .ref q_3) rfl rfl (Nat.le_of_ble_eq_true rfl) dX2_init_22 (fun H locs B => ?_)
  have B : zB D (zT cI cZ cG cJ) A s.heap s [(h, .inr (4, [.null, .int 0, .int 0, .int 0, .int 0, .ref q_1, .ref q_2, .ref q_3, .null])), (q_1, .inl (cI, 0, .inl (fun _ => 0))), (q_2, .inl (cI, 0, .inl (fun _ => 0))), (q_3, .inl (cI, 0, .inl (fun _ => 0)))] _ _ := B
  refine lv_aload_n F.1 F.2.1 dX2_init_25 rfl (lv_at hl 0 rfl) ?_
  refine lv_iconst (v := (nI 0)) F.1 F.2.1 dX2_init_26 (by decide) ?_
  refine z_newi F B 0 rfl mX2_init_arr (n := 0) (by omega) (show 3 + 1 ≤ 4 by omega) (show 0 + 0 ≤ 0 by omega) dX2_init_27 (fun q_4 H B => ?_)
  have B : zB D (zT cI cZ cG cJ) A s.heap s [(h, .inr (4, [.null, .int 0, .int 0, .int 0, .int 0, .ref q_1, .ref q_2, .ref q_3, .null])), (q_1, .inl (cI, 0, .inl (fun _ => 0))), (q_2, .inl (cI, 0, .inl (fun _ => 0))), (q_3, .inl (cI, 0, .inl (fun _ => 0))), (q_4, .inl (cI, 0, .inl (fun _ => 0)))] _ _ := B
  refine z_put F B 0 rfl (ci := 4) (C := RX2) (T := TX2) (N := 9) rfl iX2_init_X2 tyX2 tyX2_ok nmX2 8 (by decide) fX2_init_19 rfl (v := .ref q_4) rfl rfl (Nat.le_of_ble_eq_true rfl) dX2_init_29 (fun H locs B => ?_)
  have B : zB D (zT cI cZ cG cJ) A s.heap s [(h, .inr (4, [.null, .int 0, .int 0, .int 0, .int 0, .ref q_1, .ref q_2, .ref q_3, .ref q_4])), (q_1, .inl (cI, 0, .inl (fun _ => 0))), (q_2, .inl (cI, 0, .inl (fun _ => 0))), (q_3, .inl (cI, 0, .inl (fun _ => 0))), (q_4, .inl (cI, 0, .inl (fun _ => 0)))] _ _ := B
  refine lv_aload_n F.1 F.2.1 dX2_init_32 rfl (lv_at hl 0 rfl) ?_
  refine lv_aload_n F.1 F.2.1 dX2_init_33 rfl (lv_at hl 1 rfl) ?_
  refine z_putF F B hnm 0 rfl (ci := 4) (C := RX2) (T := TX2) (N := 9) rfl iX2_init_X2 tyX2 tyX2_ok nmX2 0 (by decide) fX2_init_22 rfl rfl (v := .ref fo) rfl rfl (Nat.le_of_ble_eq_true rfl) dX2_init_34 (fun H locs B => ?_)
  have B : zB D (zT cI cZ cG cJ) A s.heap s [(h, .inr (4, [.ref fo, .int 0, .int 0, .int 0, .int 0, .ref q_1, .ref q_2, .ref q_3, .ref q_4])), (q_1, .inl (cI, 0, .inl (fun _ => 0))), (q_2, .inl (cI, 0, .inl (fun _ => 0))), (q_3, .inl (cI, 0, .inl (fun _ => 0))), (q_4, .inl (cI, 0, .inl (fun _ => 0)))] _ _ := B
  exact z_vret F hr hlk B [0, 1, 2, 3, 4] rfl (rfl) dX2_init_37 (by omega) (by omega) ⟨q_1, q_2, q_3, q_4, rfl, rfl⟩
theorem mX1_init_oi : Cond.methodLink RX1 1 objectInit ∈ wsX1_init := by decide +kernel
theorem mX1_init_oim : Cond.instanceMethod objectInit ∈ wsX1_init := by decide +kernel
theorem mX1_init_oic : Cond.code objectInit ⟨#[0xb1]⟩ 1 none ∈ wsX1_init := by decide +kernel
theorem mX1_init_arr : Cond.arrayClass .int ∈ wsX1_init := by decide +kernel
theorem iX1_init_X1 : ∀ w ∈ u_ws RX1 TX1 5, w ∈ wsX1_init := by decide +kernel
theorem fX1_init_7 : Cond.fieldLink RX1 7 "TourChain$Forward" "truths" "[I" ∈ wsX1_init := by decide +kernel
theorem fX1_init_13 : Cond.fieldLink RX1 13 "TourChain$Forward" "covered" "[I" ∈ wsX1_init := by decide +kernel
theorem fX1_init_16 : Cond.fieldLink RX1 16 "TourChain$Forward" "run" "LTourChain$Run;" ∈ wsX1_init := by decide +kernel
theorem fX1_init_20 : Cond.fieldLink RX1 20 "TourChain$Forward" "formula" "LTourChain$Formula;" ∈ wsX1_init := by decide +kernel
theorem fX1_init_24 : Cond.fieldLink RX1 24 "TourChain$Forward" "graph" "LTourChain$Graph;" ∈ wsX1_init := by decide +kernel
set_option maxHeartbeats 4000000 in
set_option maxRecDepth 100000 in
theorem kX1_init (l : Launch) (D : va_G) (cI cZ cG cJ : ClassId) (h : Nat) (ru : Nat) (fo : Nat) (go : Nat)  : zC l yX1_init wsX1_init 1 20 2 0 D (zT cI cZ cG cJ) [.ref h, .ref ru, .ref fo, .ref go] [(h, .inr (3, [.null, .null, .null, .null, .null]))] (fun (ov : Option Value) (ow : va_W) => ∃ q1 : Nat, ∃ q2 : Nat, ov = none ∧ ow = [(h, .inr (3, [.ref ru, .ref fo, .ref go, .ref q1, .ref q2])), (q1, .inl (cI, 0, .inl (fun _ => 0))), (q2, .inl (cI, 0, .inl (fun _ => 0)))]) := by
  refine zC.of (cc := cX1_init) (maxL := 4) (ret := none) (by decide) rfl (Nat.le_of_ble_eq_true rfl) ?_
  intro p e s m below meth c A ls F hr hlk hnm B hl
  have hl : lv_has ls 4 [(0, .ref h), (1, .ref ru), (2, .ref fo), (3, .ref go)] := hl
  refine lv_aload_n F.1 F.2.1 dX1_init_0 rfl (lv_at hl 0 rfl) ?_
  refine W.objInit F.1 F.2.1 F.2.2.2.1 (F.2.2.2.2 _ mX1_init_oi) (F.2.2.2.2 _ mX1_init_oim) (F.2.2.2.2 _ mX1_init_oic) rfl (by rw [F.2.2.1]; exact hl.1) rfl dX1_init_1 (Nat.le_of_ble_eq_true rfl) (Nat.le_of_ble_eq_true rfl) ?_
  refine W.eq (g2 := F0 m 4 ls []) rfl ?_
  refine lv_aload_n F.1 F.2.1 dX1_init_4 rfl (lv_at hl 0 rfl) ?_
  refine lv_iconst (v := (nI 0)) F.1 F.2.1 dX1_init_5 (by decide) ?_
  refine z_newi F B 0 rfl mX1_init_arr (n := 0) (by omega) (show 0 + 1 ≤ 2 by omega) (show 0 + 0 ≤ 0 by omega) dX1_init_6 (fun q_1 H B => ?_)
  have B : zB D (zT cI cZ cG cJ) A s.heap s [(h, .inr (3, [.null, .null, .null, .null, .null])), (q_1, .inl (cI, 0, .inl (fun _ => 0)))] _ _ := B
  refine z_put F B 0 rfl (ci := 3) (C := RX1) (T := TX1) (N := 5) rfl iX1_init_X1 tyX1 tyX1_ok nmX1 3 (by decide) fX1_init_7 rfl (v := .ref q_1) rfl rfl (Nat.le_of_ble_eq_true rfl) dX1_init_8 (fun H locs B => ?_)
  have B : zB D (zT cI cZ cG cJ) A s.heap s [(h, .inr (3, [.null, .null, .null, .ref q_1, .null])), (q_1, .inl (cI, 0, .inl (fun _ => 0)))] _ _ := B
  refine lv_aload_n F.1 F.2.1 dX1_init_11 rfl (lv_at hl 0 rfl) ?_
  refine lv_iconst (v := (nI 0)) F.1 F.2.1 dX1_init_12 (by decide) ?_
  refine z_newi F B 0 rfl mX1_init_arr (n := 0) (by omega) (show 1 + 1 ≤ 2 by omega) (show 0 + 0 ≤ 0 by omega) dX1_init_13 (fun q_2 H B => ?_)
  have B : zB D (zT cI cZ cG cJ) A s.heap s [(h, .inr (3, [.null, .null, .null, .ref q_1, .null])), (q_1, .inl (cI, 0, .inl (fun _ => 0))), (q_2, .inl (cI, 0, .inl (fun _ => 0)))] _ _ := B
  refine z_put F B 0 rfl (ci := 3) (C := RX1) (T := TX1) (N := 5) rfl iX1_init_X1 tyX1 tyX1_ok nmX1 4 (by decide) fX1_init_13 rfl (v := .ref q_2) rfl rfl (Nat.le_of_ble_eq_true rfl) dX1_init_15 (fun H locs B => ?_)
  have B : zB D (zT cI cZ cG cJ) A s.heap s [(h, .inr (3, [.null, .null, .null, .ref q_1, .ref q_2])), (q_1, .inl (cI, 0, .inl (fun _ => 0))), (q_2, .inl (cI, 0, .inl (fun _ => 0)))] _ _ := B
  refine lv_aload_n F.1 F.2.1 dX1_init_18 rfl (lv_at hl 0 rfl) ?_
  refine lv_aload_n F.1 F.2.1 dX1_init_19 rfl (lv_at hl 1 rfl) ?_
  refine z_putF F B hnm 0 rfl (ci := 3) (C := RX1) (T := TX1) (N := 5) rfl iX1_init_X1 tyX1 tyX1_ok nmX1 0 (by decide) fX1_init_16 rfl rfl (v := .ref ru) rfl rfl (Nat.le_of_ble_eq_true rfl) dX1_init_20 (fun H locs B => ?_)
  have B : zB D (zT cI cZ cG cJ) A s.heap s [(h, .inr (3, [.ref ru, .null, .null, .ref q_1, .ref q_2])), (q_1, .inl (cI, 0, .inl (fun _ => 0))), (q_2, .inl (cI, 0, .inl (fun _ => 0)))] _ _ := B
  refine lv_aload_n F.1 F.2.1 dX1_init_23 rfl (lv_at hl 0 rfl) ?_
  refine lv_aload_n F.1 F.2.1 dX1_init_24 rfl (lv_at hl 2 rfl) ?_
  refine z_putF F B hnm 0 rfl (ci := 3) (C := RX1) (T := TX1) (N := 5) rfl iX1_init_X1 tyX1 tyX1_ok nmX1 1 (by decide) fX1_init_20 rfl rfl (v := .ref fo) rfl rfl (Nat.le_of_ble_eq_true rfl) dX1_init_25 (fun H locs B => ?_)
  have B : zB D (zT cI cZ cG cJ) A s.heap s [(h, .inr (3, [.ref ru, .ref fo, .null, .ref q_1, .ref q_2])), (q_1, .inl (cI, 0, .inl (fun _ => 0))), (q_2, .inl (cI, 0, .inl (fun _ => 0)))] _ _ := B
  refine lv_aload_n F.1 F.2.1 dX1_init_28 rfl (lv_at hl 0 rfl) ?_
  refine lv_aload_n F.1 F.2.1 dX1_init_29 rfl (lv_at hl 3 rfl) ?_
  refine z_putF F B hnm 0 rfl (ci := 3) (C := RX1) (T := TX1) (N := 5) rfl iX1_init_X1 tyX1 tyX1_ok nmX1 2 (by decide) fX1_init_24 rfl rfl (v := .ref go) rfl rfl (Nat.le_of_ble_eq_true rfl) dX1_init_30 (fun H locs B => ?_)
  have B : zB D (zT cI cZ cG cJ) A s.heap s [(h, .inr (3, [.ref ru, .ref fo, .ref go, .ref q_1, .ref q_2])), (q_1, .inl (cI, 0, .inl (fun _ => 0))), (q_2, .inl (cI, 0, .inl (fun _ => 0)))] _ _ := B
  exact z_vret F hr hlk B [0, 1, 2] rfl (rfl) dX1_init_33 (by omega) (by omega) ⟨q_1, q_2, rfl, rfl⟩
theorem mX6_init_oi : Cond.methodLink RX6 1 objectInit ∈ wsX6_init := by decide +kernel
theorem mX6_init_oim : Cond.instanceMethod objectInit ∈ wsX6_init := by decide +kernel
theorem mX6_init_oic : Cond.code objectInit ⟨#[0xb1]⟩ 1 none ∈ wsX6_init := by decide +kernel
theorem mX6_init_arr : Cond.arrayClass .int ∈ wsX6_init := by decide +kernel
theorem iX6_init_X6 : ∀ w ∈ u_ws RX6 TX6 6, w ∈ wsX6_init := by decide +kernel
theorem fX6_init_7 : Cond.fieldLink RX6 7 "TourChain$Trip" "picked" "[I" ∈ wsX6_init := by decide +kernel
theorem fX6_init_13 : Cond.fieldLink RX6 13 "TourChain$Trip" "row" "[I" ∈ wsX6_init := by decide +kernel
theorem fX6_init_16 : Cond.fieldLink RX6 16 "TourChain$Trip" "seenBits" "[I" ∈ wsX6_init := by decide +kernel
theorem fX6_init_19 : Cond.fieldLink RX6 19 "TourChain$Trip" "graph" "LTourChain$Graph;" ∈ wsX6_init := by decide +kernel
set_option maxHeartbeats 4000000 in
set_option maxRecDepth 100000 in
theorem kX6_init (l : Launch) (D : va_G) (cI cZ cG cJ : ClassId) (h : Nat) (go : Nat)  : zC l yX6_init wsX6_init 1 20 3 0 D (zT cI cZ cG cJ) [.ref h, .ref go] [(h, .inr (8, [.null, .null, .null, .int 0, .int 0, .null]))] (fun (ov : Option Value) (ow : va_W) => ∃ q1 : Nat, ∃ q2 : Nat, ∃ q3 : Nat, ov = none ∧ ow = [(h, .inr (8, [.ref go, .ref q1, .ref q2, .int 0, .int 0, .ref q3])), (q1, .inl (cI, 0, .inl (fun _ => 0))), (q2, .inl (cI, 0, .inl (fun _ => 0))), (q3, .inl (cI, 0, .inl (fun _ => 0)))]) := by
  refine zC.of (cc := cX6_init) (maxL := 2) (ret := none) (by decide) rfl (Nat.le_of_ble_eq_true rfl) ?_
  intro p e s m below meth c A ls F hr hlk hnm B hl
  have hl : lv_has ls 2 [(0, .ref h), (1, .ref go)] := hl
  refine lv_aload_n F.1 F.2.1 dX6_init_0 rfl (lv_at hl 0 rfl) ?_
  refine W.objInit F.1 F.2.1 F.2.2.2.1 (F.2.2.2.2 _ mX6_init_oi) (F.2.2.2.2 _ mX6_init_oim) (F.2.2.2.2 _ mX6_init_oic) rfl (by rw [F.2.2.1]; exact hl.1) rfl dX6_init_1 (Nat.le_of_ble_eq_true rfl) (Nat.le_of_ble_eq_true rfl) ?_
  refine W.eq (g2 := F0 m 4 ls []) rfl ?_
  refine lv_aload_n F.1 F.2.1 dX6_init_4 rfl (lv_at hl 0 rfl) ?_
  refine lv_iconst (v := (nI 0)) F.1 F.2.1 dX6_init_5 (by decide) ?_
  refine z_newi F B 0 rfl mX6_init_arr (n := 0) (by omega) (show 0 + 1 ≤ 3 by omega) (show 0 + 0 ≤ 0 by omega) dX6_init_6 (fun q_1 H B => ?_)
  have B : zB D (zT cI cZ cG cJ) A s.heap s [(h, .inr (8, [.null, .null, .null, .int 0, .int 0, .null])), (q_1, .inl (cI, 0, .inl (fun _ => 0)))] _ _ := B
  refine z_put F B 0 rfl (ci := 8) (C := RX6) (T := TX6) (N := 6) rfl iX6_init_X6 tyX6 tyX6_ok nmX6 1 (by decide) fX6_init_7 rfl (v := .ref q_1) rfl rfl (Nat.le_of_ble_eq_true rfl) dX6_init_8 (fun H locs B => ?_)
  have B : zB D (zT cI cZ cG cJ) A s.heap s [(h, .inr (8, [.null, .ref q_1, .null, .int 0, .int 0, .null])), (q_1, .inl (cI, 0, .inl (fun _ => 0)))] _ _ := B
  refine lv_aload_n F.1 F.2.1 dX6_init_11 rfl (lv_at hl 0 rfl) ?_
  refine lv_iconst (v := (nI 0)) F.1 F.2.1 dX6_init_12 (by decide) ?_
  refine z_newi F B 0 rfl mX6_init_arr (n := 0) (by omega) (show 1 + 1 ≤ 3 by omega) (show 0 + 0 ≤ 0 by omega) dX6_init_13 (fun q_2 H B => ?_)
  have B : zB D (zT cI cZ cG cJ) A s.heap s [(h, .inr (8, [.null, .ref q_1, .null, .int 0, .int 0, .null])), (q_1, .inl (cI, 0, .inl (fun _ => 0))), (q_2, .inl (cI, 0, .inl (fun _ => 0)))] _ _ := B
  refine z_put F B 0 rfl (ci := 8) (C := RX6) (T := TX6) (N := 6) rfl iX6_init_X6 tyX6 tyX6_ok nmX6 2 (by decide) fX6_init_13 rfl (v := .ref q_2) rfl rfl (Nat.le_of_ble_eq_true rfl) dX6_init_15 (fun H locs B => ?_)
  have B : zB D (zT cI cZ cG cJ) A s.heap s [(h, .inr (8, [.null, .ref q_1, .ref q_2, .int 0, .int 0, .null])), (q_1, .inl (cI, 0, .inl (fun _ => 0))), (q_2, .inl (cI, 0, .inl (fun _ => 0)))] _ _ := B
  refine lv_aload_n F.1 F.2.1 dX6_init_18 rfl (lv_at hl 0 rfl) ?_
  refine lv_iconst (v := (nI 0)) F.1 F.2.1 dX6_init_19 (by decide) ?_
  refine z_newi F B 0 rfl mX6_init_arr (n := 0) (by omega) (show 2 + 1 ≤ 3 by omega) (show 0 + 0 ≤ 0 by omega) dX6_init_20 (fun q_3 H B => ?_)
  have B : zB D (zT cI cZ cG cJ) A s.heap s [(h, .inr (8, [.null, .ref q_1, .ref q_2, .int 0, .int 0, .null])), (q_1, .inl (cI, 0, .inl (fun _ => 0))), (q_2, .inl (cI, 0, .inl (fun _ => 0))), (q_3, .inl (cI, 0, .inl (fun _ => 0)))] _ _ := B
  refine z_put F B 0 rfl (ci := 8) (C := RX6) (T := TX6) (N := 6) rfl iX6_init_X6 tyX6 tyX6_ok nmX6 5 (by decide) fX6_init_16 rfl (v := .ref q_3) rfl rfl (Nat.le_of_ble_eq_true rfl) dX6_init_22 (fun H locs B => ?_)
  have B : zB D (zT cI cZ cG cJ) A s.heap s [(h, .inr (8, [.null, .ref q_1, .ref q_2, .int 0, .int 0, .ref q_3])), (q_1, .inl (cI, 0, .inl (fun _ => 0))), (q_2, .inl (cI, 0, .inl (fun _ => 0))), (q_3, .inl (cI, 0, .inl (fun _ => 0)))] _ _ := B
  refine lv_aload_n F.1 F.2.1 dX6_init_25 rfl (lv_at hl 0 rfl) ?_
  refine lv_aload_n F.1 F.2.1 dX6_init_26 rfl (lv_at hl 1 rfl) ?_
  refine z_putF F B hnm 0 rfl (ci := 8) (C := RX6) (T := TX6) (N := 6) rfl iX6_init_X6 tyX6 tyX6_ok nmX6 0 (by decide) fX6_init_19 rfl rfl (v := .ref go) rfl rfl (Nat.le_of_ble_eq_true rfl) dX6_init_27 (fun H locs B => ?_)
  have B : zB D (zT cI cZ cG cJ) A s.heap s [(h, .inr (8, [.ref go, .ref q_1, .ref q_2, .int 0, .int 0, .ref q_3])), (q_1, .inl (cI, 0, .inl (fun _ => 0))), (q_2, .inl (cI, 0, .inl (fun _ => 0))), (q_3, .inl (cI, 0, .inl (fun _ => 0)))] _ _ := B
  exact z_vret F hr hlk B [0, 1, 2, 3] rfl (rfl) dX6_init_30 (by omega) (by omega) ⟨q_1, q_2, q_3, rfl, rfl⟩
theorem iX3_renew_X3 : ∀ w ∈ u_ws RX3 TX3 10, w ∈ wsX3_renew := by decide +kernel
theorem fX3_renew_30 : Cond.fieldLink RX3 30 "TourChain$Machine" "states" "I" ∈ wsX3_renew := by decide +kernel
theorem fX3_renew_34 : Cond.fieldLink RX3 34 "TourChain$Machine" "symbols" "I" ∈ wsX3_renew := by decide +kernel
theorem fX3_renew_37 : Cond.fieldLink RX3 37 "TourChain$Machine" "bound" "I" ∈ wsX3_renew := by decide +kernel
theorem fX3_renew_40 : Cond.fieldLink RX3 40 "TourChain$Machine" "rules" "I" ∈ wsX3_renew := by decide +kernel
theorem fX3_renew_27 : Cond.fieldLink RX3 27 "TourChain$Machine" "tape" "[I" ∈ wsX3_renew := by decide +kernel
theorem yX3_renew_J7_fill_53178 : yJ7_fill_53178.cls ≠ "java/lang/invoke/MethodHandle" ∧ yJ7_fill_53178.cls ≠ "java/lang/invoke/VarHandle" ∧ (parseMethodDescriptor yJ7_fill_53178.desc).map (fun d => d.parameters.length) = some 2 := by decide +kernel
set_option maxHeartbeats 4000000 in
set_option maxRecDepth 100000 in
theorem kX3_renew (l : Launch) (D : va_G) (cI cZ cG cJ : ClassId) (mo : Nat) (z1 : Int32) (z2 : Int32) (z3 : Int32) (z4 : Int32) (af : Nat) (ar : Nat) (at_ : Nat) (aw : Nat) (am : Nat) (ap : Nat) (fp : Nat → Int32) (q : Nat) (g : Nat) (t : Nat)  : zC l yX3_renew wsX3_renew 1 23 0 0 D (zT cI cZ cG cJ) [.ref mo, .int (nI q), .int (nI g), .int (nI t)] [(mo, .inr (5, [.int z1, .int z2, .int z3, .int z4, .ref af, .ref ar, .ref at_, .ref aw, .ref am, .ref ap])), (ap, .inl (cI, 4, .inl fp))] (fun (ov : Option Value) (ow : va_W) => ov = none ∧ ow = [(mo, .inr (5, [.int (nI q), .int (nI g), .int (nI t), .int (nI 0), .ref af, .ref ar, .ref at_, .ref aw, .ref am, .ref ap])), (ap, .inl (cI, 4, .inl (zfill fp 0 4 0)))]) := by
  refine zC.of (cc := cX3_renew) (maxL := 4) (ret := none) (by decide) rfl (Nat.le_of_ble_eq_true rfl) ?_
  intro p e s m below meth c A ls F hr hlk hnm B hl
  have hl : lv_has ls 4 [(0, .ref mo), (1, .int (nI q)), (2, .int (nI g)), (3, .int (nI t))] := hl
  refine lv_aload_n F.1 F.2.1 dX3_renew_0 rfl (lv_at hl 0 rfl) ?_
  refine lv_iload_n F.1 F.2.1 dX3_renew_1 rfl (lv_at hl 1 rfl) ?_
  refine z_put F B 0 rfl (ci := 5) (C := RX3) (T := TX3) (N := 10) rfl iX3_renew_X3 tyX3 tyX3_ok nmX3 0 (by decide) fX3_renew_30 rfl (v := .int (nI q)) rfl rfl (Nat.le_of_ble_eq_true rfl) dX3_renew_2 (fun H locs B => ?_)
  have B : zB D (zT cI cZ cG cJ) A s.heap s [(mo, .inr (5, [.int (nI q), .int z2, .int z3, .int z4, .ref af, .ref ar, .ref at_, .ref aw, .ref am, .ref ap])), (ap, .inl (cI, 4, .inl fp))] _ _ := B
  refine lv_aload_n F.1 F.2.1 dX3_renew_5 rfl (lv_at hl 0 rfl) ?_
  refine lv_iload_n F.1 F.2.1 dX3_renew_6 rfl (lv_at hl 2 rfl) ?_
  refine z_put F B 0 rfl (ci := 5) (C := RX3) (T := TX3) (N := 10) rfl iX3_renew_X3 tyX3 tyX3_ok nmX3 1 (by decide) fX3_renew_34 rfl (v := .int (nI g)) rfl rfl (Nat.le_of_ble_eq_true rfl) dX3_renew_7 (fun H locs B => ?_)
  have B : zB D (zT cI cZ cG cJ) A s.heap s [(mo, .inr (5, [.int (nI q), .int (nI g), .int z3, .int z4, .ref af, .ref ar, .ref at_, .ref aw, .ref am, .ref ap])), (ap, .inl (cI, 4, .inl fp))] _ _ := B
  refine lv_aload_n F.1 F.2.1 dX3_renew_10 rfl (lv_at hl 0 rfl) ?_
  refine lv_iload_n F.1 F.2.1 dX3_renew_11 rfl (lv_at hl 3 rfl) ?_
  refine z_put F B 0 rfl (ci := 5) (C := RX3) (T := TX3) (N := 10) rfl iX3_renew_X3 tyX3 tyX3_ok nmX3 2 (by decide) fX3_renew_37 rfl (v := .int (nI t)) rfl rfl (Nat.le_of_ble_eq_true rfl) dX3_renew_12 (fun H locs B => ?_)
  have B : zB D (zT cI cZ cG cJ) A s.heap s [(mo, .inr (5, [.int (nI q), .int (nI g), .int (nI t), .int z4, .ref af, .ref ar, .ref at_, .ref aw, .ref am, .ref ap])), (ap, .inl (cI, 4, .inl fp))] _ _ := B
  refine lv_aload_n F.1 F.2.1 dX3_renew_15 rfl (lv_at hl 0 rfl) ?_
  refine lv_iconst (v := (nI 0)) F.1 F.2.1 dX3_renew_16 (by decide) ?_
  refine z_put F B 0 rfl (ci := 5) (C := RX3) (T := TX3) (N := 10) rfl iX3_renew_X3 tyX3 tyX3_ok nmX3 3 (by decide) fX3_renew_40 rfl (v := .int (nI 0)) rfl rfl (Nat.le_of_ble_eq_true rfl) dX3_renew_17 (fun H locs B => ?_)
  have B : zB D (zT cI cZ cG cJ) A s.heap s [(mo, .inr (5, [.int (nI q), .int (nI g), .int (nI t), .int (nI 0), .ref af, .ref ar, .ref at_, .ref aw, .ref am, .ref ap])), (ap, .inl (cI, 4, .inl fp))] _ _ := B
  refine lv_aload_n F.1 F.2.1 dX3_renew_20 rfl (lv_at hl 0 rfl) ?_
  refine z_get F B 0 rfl (ci := 5) (C := RX3) (T := TX3) (N := 10) rfl iX3_renew_X3 9 (by decide) fX3_renew_27 rfl dX3_renew_21 ?_
  refine lv_iconst (v := (nI 0)) F.1 F.2.1 dX3_renew_24 (by decide) ?_
  refine z_callSJ (wr := [(mo, .inr (5, [.int (nI q), .int (nI g), .int (nI t), .int (nI 0), .ref af, .ref ar, .ref at_, .ref aw, .ref am, .ref ap]))]) (rest := []) (As := [.ref ap, .int (nI 0)]) F B (kJ7_fill_53178 l D cI cZ cG cJ ap 4 fp (nI 0) (by omega)) hl.1 gX3_renew_J7_fill_53178 rfl 2 yX3_renew_J7_fill_53178 rfl [1] [0] rfl rfl rfl rfl (by decide) (Nat.le_of_ble_eq_true rfl) (Nat.le_of_ble_eq_true rfl) (Nat.le_of_ble_eq_true rfl) rfl dX3_renew_25 (show 0 + 0 ≤ 0 by omega) (show 0 + 0 ≤ 0 by omega) (fun vv ww H locs hRR B => ?_)
  obtain ⟨rfl, rfl⟩ := hRR
  have B : zB D (zT cI cZ cG cJ) A s.heap s [(mo, .inr (5, [.int (nI q), .int (nI g), .int (nI t), .int (nI 0), .ref af, .ref ar, .ref at_, .ref aw, .ref am, .ref ap])), (ap, .inl (cI, 4, .inl (zfill fp 0 4 (nI 0))))] _ _ := B
  refine W.eq (g2 := F0 m 28 ls []) rfl ?_
  exact z_vret F hr hlk B [0, 1] rfl (rfl) dX3_renew_28 (by omega) (by omega) ⟨rfl, rfl⟩
theorem yX3_isRule_X3_accept : yX3_accept.cls = RX3 ∧ yX3_accept.cls ≠ "java/lang/invoke/MethodHandle" ∧ yX3_accept.cls ≠ "java/lang/invoke/VarHandle" ∧ (parseMethodDescriptor yX3_accept.desc).map (fun d => d.parameters.length) = some 0 := by decide +kernel
theorem nX3_isRule_X7_isIndex : Cond.methodLinkNest RX3 53 yX7_isIndex RX7 ∈ zNW := by decide +kernel
theorem mX3_isRule_stX7_isIndex : Cond.static yX7_isIndex ∈ wsX3_isRule := by decide +kernel
theorem mX3_isRule_iyX7_isIndex : Cond.initialized yX7_isIndex.cls ∈ wsX3_isRule := by decide +kernel
theorem yX3_isRule_X7_isIndex : yX7_isIndex.cls ≠ "java/lang/invoke/MethodHandle" ∧ yX7_isIndex.cls ≠ "java/lang/invoke/VarHandle" ∧ (parseMethodDescriptor yX7_isIndex.desc).map (fun d => d.parameters.length) = some 2 := by decide +kernel
theorem iX3_isRule_X3 : ∀ w ∈ u_ws RX3 TX3 10, w ∈ wsX3_isRule := by decide +kernel
theorem fX3_isRule_34 : Cond.fieldLink RX3 34 "TourChain$Machine" "symbols" "I" ∈ wsX3_isRule := by decide +kernel
theorem fX3_isRule_30 : Cond.fieldLink RX3 30 "TourChain$Machine" "states" "I" ∈ wsX3_isRule := by decide +kernel
set_option maxHeartbeats 4000000 in
set_option maxRecDepth 100000 in
theorem kX3_isRule (l : Launch) (D : va_G) (cI cZ cG cJ : ClassId) (mo : Nat) (q : Nat) (g : Nat) (t : Nat) (r : Nat) (af : Nat) (ar : Nat) (at_ : Nat) (aw : Nat) (am : Nat) (ap : Nat) (u1 : Int32) (u2 : Int32) (u3 : Int32) (u4 : Int32) (u5 : Int32) (hq1 : 1 ≤ q) (hq : q ≤ 3) (hg : g ≤ 3) : zC l yX3_isRule wsX3_isRule 1 21 0 0 D (zT cI cZ cG cJ) [.ref mo, .int u1, .int u2, .int u3, .int u4, .int u5] [(mo, .inr (5, [.int (nI q), .int (nI g), .int (nI t), .int (nI r), .ref af, .ref ar, .ref at_, .ref aw, .ref am, .ref ap]))] (fun (ov : Option Value) (ow : va_W) => ∃ rb : Int32, ov = some (.int rb) ∧ ow = [(mo, .inr (5, [.int (nI q), .int (nI g), .int (nI t), .int (nI r), .ref af, .ref ar, .ref at_, .ref aw, .ref am, .ref ap]))] ∧ ((rb = 1 ∧ (0 ≤ u1.toInt ∧ u1.toInt < ((q - 1 : Nat) : Int) ∧ 0 ≤ u2.toInt ∧ u2.toInt < (g : Int) ∧ 0 ≤ u3.toInt ∧ u3.toInt < (q : Int) ∧ 0 ≤ u4.toInt ∧ u4.toInt < (g : Int) ∧ 0 ≤ u5.toInt ∧ u5.toInt < 3)) ∨ (rb = 0 ∧ ¬ (0 ≤ u1.toInt ∧ u1.toInt < ((q - 1 : Nat) : Int) ∧ 0 ≤ u2.toInt ∧ u2.toInt < (g : Int) ∧ 0 ≤ u3.toInt ∧ u3.toInt < (q : Int) ∧ 0 ≤ u4.toInt ∧ u4.toInt < (g : Int) ∧ 0 ≤ u5.toInt ∧ u5.toInt < 3)))) := by
  refine zC.of (cc := cX3_isRule) (maxL := 6) (ret := (some .boolean)) (by decide) rfl (Nat.le_of_ble_eq_true rfl) ?_
  intro p e s m below meth c A ls F hr hlk hnm B hl
  have hl : lv_has ls 6 [(0, .ref mo), (1, .int u1), (2, .int u2), (3, .int u3), (4, .int u4), (5, .int u5)] := hl
  have e1 := nI_toInt (n := q - 1) (by omega)
  have e2 := nI_toInt (n := g) (by omega)
  have e3 := nI_toInt (n := q) (by omega)
  have e4 := nI_toInt (n := 3) (by omega)
  refine lv_iload_n F.1 F.2.1 dX3_isRule_0 rfl (lv_at hl 1 rfl) ?_
  refine lv_aload_n F.1 F.2.1 dX3_isRule_1 rfl (lv_at hl 0 rfl) ?_
  refine z_callV (wr := []) (rest := [.int u1]) (As := []) F B (kX3_accept l D cI cZ cG cJ mo q g t r af ar at_ aw am ap (by omega)) hl.1 (C := RX3) (T := TX3) (N := 10) (ci := 5) (q0 := 0) gX3_isRule_X3_accept rfl 0 yX3_isRule_X3_accept rfl rfl rfl [0] [] rfl rfl rfl rfl (by decide) (Nat.le_of_ble_eq_true rfl) (Nat.le_of_ble_eq_true rfl) (Nat.le_of_ble_eq_true rfl) rfl dX3_isRule_2 (show 0 + 0 ≤ 0 by omega) (show 0 + 0 ≤ 0 by omega) (fun vv ww H locs hRR B => ?_)
  obtain ⟨rfl, rfl⟩ := hRR
  have B : zB D (zT cI cZ cG cJ) A s.heap s [(mo, .inr (5, [.int (nI q), .int (nI g), .int (nI t), .int (nI r), .ref af, .ref ar, .ref at_, .ref aw, .ref am, .ref ap]))] _ _ := B
  refine W.eq (g2 := F0 m 5 ls [.int (nI (q - 1)), .int u1]) rfl ?_
  refine z_callSN (wr := [(mo, .inr (5, [.int (nI q), .int (nI g), .int (nI t), .int (nI r), .ref af, .ref ar, .ref at_, .ref aw, .ref am, .ref ap]))]) (rest := []) (As := [.int u1, .int (nI (q - 1))]) (host := RX7) F B (kX7_isIndex l D cI cZ cG cJ u1 (nI (q - 1))) hl.1 gX3_isRule_X7_isIndex_n53 nX3_isRule_X7_isIndex mX3_isRule_stX7_isIndex mX3_isRule_iyX7_isIndex rfl 2 yX3_isRule_X7_isIndex rfl [] [0] rfl rfl rfl rfl (by decide) (Nat.le_of_ble_eq_true rfl) (Nat.le_of_ble_eq_true rfl) (Nat.le_of_ble_eq_true rfl) rfl dX3_isRule_5 (show 0 + 0 ≤ 0 by omega) (show 0 + 0 ≤ 0 by omega) (fun vv ww H locs hRR B => ?_)
  obtain ⟨r_1, rfl, rfl, hb_2⟩ := hRR
  have B : zB D (zT cI cZ cG cJ) A s.heap s [(mo, .inr (5, [.int (nI q), .int (nI g), .int (nI t), .int (nI r), .ref af, .ref ar, .ref at_, .ref aw, .ref am, .ref ap]))] _ _ := B
  rcases hb_2 with ⟨hr1, g1⟩ | ⟨hr1, g1⟩ <;> subst hr1
  · refine W.eq (g2 := F0 m 8 ls [.int 1]) rfl ?_
    refine lv_if_eq (tgt := 58) F.1 F.2.1 dX3_isRule_8 (by decide) (fun hq => absurd hq (by decide)) (fun _ => ?_)
    refine lv_iload_n F.1 F.2.1 dX3_isRule_11 rfl (lv_at hl 2 rfl) ?_
    refine lv_aload_n F.1 F.2.1 dX3_isRule_12 rfl (lv_at hl 0 rfl) ?_
    refine z_get F B 0 rfl (ci := 5) (C := RX3) (T := TX3) (N := 10) rfl iX3_isRule_X3 1 (by decide) fX3_isRule_34 rfl dX3_isRule_13 ?_
    refine z_callSN (wr := [(mo, .inr (5, [.int (nI q), .int (nI g), .int (nI t), .int (nI r), .ref af, .ref ar, .ref at_, .ref aw, .ref am, .ref ap]))]) (rest := []) (As := [.int u2, .int (nI g)]) (host := RX7) F B (kX7_isIndex l D cI cZ cG cJ u2 (nI g)) hl.1 gX3_isRule_X7_isIndex_n53 nX3_isRule_X7_isIndex mX3_isRule_stX7_isIndex mX3_isRule_iyX7_isIndex rfl 2 yX3_isRule_X7_isIndex rfl [] [0] rfl rfl rfl rfl (by decide) (Nat.le_of_ble_eq_true rfl) (Nat.le_of_ble_eq_true rfl) (Nat.le_of_ble_eq_true rfl) rfl dX3_isRule_16 (show 0 + 0 ≤ 0 by omega) (show 0 + 0 ≤ 0 by omega) (fun vv ww H locs hRR B => ?_)
    obtain ⟨r_3, rfl, rfl, hb_4⟩ := hRR
    have B : zB D (zT cI cZ cG cJ) A s.heap s [(mo, .inr (5, [.int (nI q), .int (nI g), .int (nI t), .int (nI r), .ref af, .ref ar, .ref at_, .ref aw, .ref am, .ref ap]))] _ _ := B
    rcases hb_4 with ⟨hr1, g2⟩ | ⟨hr1, g2⟩ <;> subst hr1
    · refine W.eq (g2 := F0 m 19 ls [.int 1]) rfl ?_
      refine lv_if_eq (tgt := 58) F.1 F.2.1 dX3_isRule_19 (by decide) (fun hq => absurd hq (by decide)) (fun _ => ?_)
      refine lv_iload_n F.1 F.2.1 dX3_isRule_22 rfl (lv_at hl 3 rfl) ?_
      refine lv_aload_n F.1 F.2.1 dX3_isRule_23 rfl (lv_at hl 0 rfl) ?_
      refine z_get F B 0 rfl (ci := 5) (C := RX3) (T := TX3) (N := 10) rfl iX3_isRule_X3 0 (by decide) fX3_isRule_30 rfl dX3_isRule_24 ?_
      refine z_callSN (wr := [(mo, .inr (5, [.int (nI q), .int (nI g), .int (nI t), .int (nI r), .ref af, .ref ar, .ref at_, .ref aw, .ref am, .ref ap]))]) (rest := []) (As := [.int u3, .int (nI q)]) (host := RX7) F B (kX7_isIndex l D cI cZ cG cJ u3 (nI q)) hl.1 gX3_isRule_X7_isIndex_n53 nX3_isRule_X7_isIndex mX3_isRule_stX7_isIndex mX3_isRule_iyX7_isIndex rfl 2 yX3_isRule_X7_isIndex rfl [] [0] rfl rfl rfl rfl (by decide) (Nat.le_of_ble_eq_true rfl) (Nat.le_of_ble_eq_true rfl) (Nat.le_of_ble_eq_true rfl) rfl dX3_isRule_27 (show 0 + 0 ≤ 0 by omega) (show 0 + 0 ≤ 0 by omega) (fun vv ww H locs hRR B => ?_)
      obtain ⟨r_5, rfl, rfl, hb_6⟩ := hRR
      have B : zB D (zT cI cZ cG cJ) A s.heap s [(mo, .inr (5, [.int (nI q), .int (nI g), .int (nI t), .int (nI r), .ref af, .ref ar, .ref at_, .ref aw, .ref am, .ref ap]))] _ _ := B
      rcases hb_6 with ⟨hr1, g3⟩ | ⟨hr1, g3⟩ <;> subst hr1
      · refine W.eq (g2 := F0 m 30 ls [.int 1]) rfl ?_
        refine lv_if_eq (tgt := 58) F.1 F.2.1 dX3_isRule_30 (by decide) (fun hq => absurd hq (by decide)) (fun _ => ?_)
        refine lv_iload F.1 F.2.1 dX3_isRule_33 (lv_at hl 4 rfl) ?_
        refine lv_aload_n F.1 F.2.1 dX3_isRule_35 rfl (lv_at hl 0 rfl) ?_
        refine z_get F B 0 rfl (ci := 5) (C := RX3) (T := TX3) (N := 10) rfl iX3_isRule_X3 1 (by decide) fX3_isRule_34 rfl dX3_isRule_36 ?_
        refine z_callSN (wr := [(mo, .inr (5, [.int (nI q), .int (nI g), .int (nI t), .int (nI r), .ref af, .ref ar, .ref at_, .ref aw, .ref am, .ref ap]))]) (rest := []) (As := [.int u4, .int (nI g)]) (host := RX7) F B (kX7_isIndex l D cI cZ cG cJ u4 (nI g)) hl.1 gX3_isRule_X7_isIndex_n53 nX3_isRule_X7_isIndex mX3_isRule_stX7_isIndex mX3_isRule_iyX7_isIndex rfl 2 yX3_isRule_X7_isIndex rfl [] [0] rfl rfl rfl rfl (by decide) (Nat.le_of_ble_eq_true rfl) (Nat.le_of_ble_eq_true rfl) (Nat.le_of_ble_eq_true rfl) rfl dX3_isRule_39 (show 0 + 0 ≤ 0 by omega) (show 0 + 0 ≤ 0 by omega) (fun vv ww H locs hRR B => ?_)
        obtain ⟨r_7, rfl, rfl, hb_8⟩ := hRR
        have B : zB D (zT cI cZ cG cJ) A s.heap s [(mo, .inr (5, [.int (nI q), .int (nI g), .int (nI t), .int (nI r), .ref af, .ref ar, .ref at_, .ref aw, .ref am, .ref ap]))] _ _ := B
        rcases hb_8 with ⟨hr1, g4⟩ | ⟨hr1, g4⟩ <;> subst hr1
        · refine W.eq (g2 := F0 m 42 ls [.int 1]) rfl ?_
          refine lv_if_eq (tgt := 58) F.1 F.2.1 dX3_isRule_42 (by decide) (fun hq => absurd hq (by decide)) (fun _ => ?_)
          refine lv_iload F.1 F.2.1 dX3_isRule_45 (lv_at hl 5 rfl) ?_
          refine lv_iconst (v := (nI 3)) F.1 F.2.1 dX3_isRule_47 (by decide) ?_
          refine z_callSN (wr := [(mo, .inr (5, [.int (nI q), .int (nI g), .int (nI t), .int (nI r), .ref af, .ref ar, .ref at_, .ref aw, .ref am, .ref ap]))]) (rest := []) (As := [.int u5, .int (nI 3)]) (host := RX7) F B (kX7_isIndex l D cI cZ cG cJ u5 (nI 3)) hl.1 gX3_isRule_X7_isIndex_n53 nX3_isRule_X7_isIndex mX3_isRule_stX7_isIndex mX3_isRule_iyX7_isIndex rfl 2 yX3_isRule_X7_isIndex rfl [] [0] rfl rfl rfl rfl (by decide) (Nat.le_of_ble_eq_true rfl) (Nat.le_of_ble_eq_true rfl) (Nat.le_of_ble_eq_true rfl) rfl dX3_isRule_48 (show 0 + 0 ≤ 0 by omega) (show 0 + 0 ≤ 0 by omega) (fun vv ww H locs hRR B => ?_)
          obtain ⟨r_9, rfl, rfl, hb_10⟩ := hRR
          have B : zB D (zT cI cZ cG cJ) A s.heap s [(mo, .inr (5, [.int (nI q), .int (nI g), .int (nI t), .int (nI r), .ref af, .ref ar, .ref at_, .ref aw, .ref am, .ref ap]))] _ _ := B
          rcases hb_10 with ⟨hr1, g5⟩ | ⟨hr1, g5⟩ <;> subst hr1
          · refine W.eq (g2 := F0 m 51 ls [.int 1]) rfl ?_
            refine lv_if_eq (tgt := 58) F.1 F.2.1 dX3_isRule_51 (by decide) (fun hq => absurd hq (by decide)) (fun _ => ?_)
            refine lv_iconst (v := (nI 1)) F.1 F.2.1 dX3_isRule_54 (by decide) ?_
            refine lv_goto (tgt := 59) F.1 F.2.1 dX3_isRule_55 (by decide) ?_
            exact z_zret F hr hlk B (Or.inr rfl) [0] rfl (rfl) dX3_isRule_59 (by omega) (by omega) ⟨(nI 1), rfl, rfl, Or.inl ⟨rfl, by omega⟩⟩
          · refine W.eq (g2 := F0 m 51 ls [.int 0]) rfl ?_
            refine lv_if_eq (tgt := 58) F.1 F.2.1 dX3_isRule_51 (by decide) (fun _ => ?_) (fun hq => absurd (by decide) hq)
            refine lv_iconst (v := (nI 0)) F.1 F.2.1 dX3_isRule_58 (by decide) ?_
            exact z_zret F hr hlk B (Or.inl rfl) [0] rfl (rfl) dX3_isRule_59 (by omega) (by omega) ⟨(nI 0), rfl, rfl, Or.inr ⟨rfl, by omega⟩⟩
        · refine W.eq (g2 := F0 m 42 ls [.int 0]) rfl ?_
          refine lv_if_eq (tgt := 58) F.1 F.2.1 dX3_isRule_42 (by decide) (fun _ => ?_) (fun hq => absurd (by decide) hq)
          refine lv_iconst (v := (nI 0)) F.1 F.2.1 dX3_isRule_58 (by decide) ?_
          exact z_zret F hr hlk B (Or.inl rfl) [0] rfl (rfl) dX3_isRule_59 (by omega) (by omega) ⟨(nI 0), rfl, rfl, Or.inr ⟨rfl, by omega⟩⟩
      · refine W.eq (g2 := F0 m 30 ls [.int 0]) rfl ?_
        refine lv_if_eq (tgt := 58) F.1 F.2.1 dX3_isRule_30 (by decide) (fun _ => ?_) (fun hq => absurd (by decide) hq)
        refine lv_iconst (v := (nI 0)) F.1 F.2.1 dX3_isRule_58 (by decide) ?_
        exact z_zret F hr hlk B (Or.inl rfl) [0] rfl (rfl) dX3_isRule_59 (by omega) (by omega) ⟨(nI 0), rfl, rfl, Or.inr ⟨rfl, by omega⟩⟩
    · refine W.eq (g2 := F0 m 19 ls [.int 0]) rfl ?_
      refine lv_if_eq (tgt := 58) F.1 F.2.1 dX3_isRule_19 (by decide) (fun _ => ?_) (fun hq => absurd (by decide) hq)
      refine lv_iconst (v := (nI 0)) F.1 F.2.1 dX3_isRule_58 (by decide) ?_
      exact z_zret F hr hlk B (Or.inl rfl) [0] rfl (rfl) dX3_isRule_59 (by omega) (by omega) ⟨(nI 0), rfl, rfl, Or.inr ⟨rfl, by omega⟩⟩
  · refine W.eq (g2 := F0 m 8 ls [.int 0]) rfl ?_
    refine lv_if_eq (tgt := 58) F.1 F.2.1 dX3_isRule_8 (by decide) (fun _ => ?_) (fun hq => absurd (by decide) hq)
    refine lv_iconst (v := (nI 0)) F.1 F.2.1 dX3_isRule_58 (by decide) ?_
    exact z_zret F hr hlk B (Or.inl rfl) [0] rfl (rfl) dX3_isRule_59 (by omega) (by omega) ⟨(nI 0), rfl, rfl, Or.inr ⟨rfl, by omega⟩⟩
theorem iX3_addRule_X3 : ∀ w ∈ u_ws RX3 TX3 10, w ∈ wsX3_addRule := by decide +kernel
theorem fX3_addRule_9 : Cond.fieldLink RX3 9 "TourChain$Machine" "from" "[I" ∈ wsX3_addRule := by decide +kernel
theorem fX3_addRule_40 : Cond.fieldLink RX3 40 "TourChain$Machine" "rules" "I" ∈ wsX3_addRule := by decide +kernel
theorem fX3_addRule_15 : Cond.fieldLink RX3 15 "TourChain$Machine" "read" "[I" ∈ wsX3_addRule := by decide +kernel
theorem fX3_addRule_18 : Cond.fieldLink RX3 18 "TourChain$Machine" "to" "[I" ∈ wsX3_addRule := by decide +kernel
theorem fX3_addRule_21 : Cond.fieldLink RX3 21 "TourChain$Machine" "written" "[I" ∈ wsX3_addRule := by decide +kernel
theorem fX3_addRule_24 : Cond.fieldLink RX3 24 "TourChain$Machine" "move" "[I" ∈ wsX3_addRule := by decide +kernel
set_option maxHeartbeats 4000000 in
set_option maxRecDepth 100000 in
theorem kX3_addRule (l : Launch) (D : va_G) (cI cZ cG cJ : ClassId) (mo : Nat) (q : Nat) (g : Nat) (t : Nat) (r : Nat) (af : Nat) (ar : Nat) (at_ : Nat) (aw : Nat) (am : Nat) (ap : Nat) (ff : Nat → Int32) (fr : Nat → Int32) (fto : Nat → Int32) (fw : Nat → Int32) (fm : Nat → Int32) (u1 : Int32) (u2 : Int32) (u3 : Int32) (u4 : Int32) (u5 : Int32) (hr7 : r < 8) : zC l yX3_addRule wsX3_addRule 0 0 0 0 D (zT cI cZ cG cJ) [.ref mo, .int u1, .int u2, .int u3, .int u4, .int u5] [(mo, .inr (5, [.int (nI q), .int (nI g), .int (nI t), .int (nI r), .ref af, .ref ar, .ref at_, .ref aw, .ref am, .ref ap])), (af, .inl (cI, 8, .inl ff)), (ar, .inl (cI, 8, .inl fr)), (at_, .inl (cI, 8, .inl fto)), (aw, .inl (cI, 8, .inl fw)), (am, .inl (cI, 8, .inl fm))] (fun (ov : Option Value) (ow : va_W) => ov = some (.int (nI r)) ∧ ow = [(mo, .inr (5, [.int (nI q), .int (nI g), .int (nI t), .int (nI (r + 1)), .ref af, .ref ar, .ref at_, .ref aw, .ref am, .ref ap])), (af, .inl (cI, 8, .inl (upd ff r u1))), (ar, .inl (cI, 8, .inl (upd fr r u2))), (at_, .inl (cI, 8, .inl (upd fto r u3))), (aw, .inl (cI, 8, .inl (upd fw r u4))), (am, .inl (cI, 8, .inl (upd fm r (u5 - nI 1))))]) := by
  refine zC.of (cc := cX3_addRule) (maxL := 6) (ret := (some .int)) (by decide) rfl (Nat.le_of_ble_eq_true rfl) ?_
  intro p e s m below meth c A ls F hr hlk hnm B hl
  have hl : lv_has ls 6 [(0, .ref mo), (1, .int u1), (2, .int u2), (3, .int u3), (4, .int u4), (5, .int u5)] := hl
  refine lv_aload_n F.1 F.2.1 dX3_addRule_0 rfl (lv_at hl 0 rfl) ?_
  refine z_get F B 0 rfl (ci := 5) (C := RX3) (T := TX3) (N := 10) rfl iX3_addRule_X3 4 (by decide) fX3_addRule_9 rfl dX3_addRule_1 ?_
  refine lv_aload_n F.1 F.2.1 dX3_addRule_4 rfl (lv_at hl 0 rfl) ?_
  refine z_get F B 0 rfl (ci := 5) (C := RX3) (T := TX3) (N := 10) rfl iX3_addRule_X3 3 (by decide) fX3_addRule_40 rfl dX3_addRule_5 ?_
  refine lv_iload_n F.1 F.2.1 dX3_addRule_8 rfl (lv_at hl 1 rfl) ?_
  refine z_iast F B 1 0 rfl rfl (j := r) (by omega) (by omega) dX3_addRule_9 (fun H locs B => ?_)
  have B : zB D (zT cI cZ cG cJ) A s.heap s [(mo, .inr (5, [.int (nI q), .int (nI g), .int (nI t), .int (nI r), .ref af, .ref ar, .ref at_, .ref aw, .ref am, .ref ap])), (af, .inl (cI, 8, .inl (upd ff r u1))), (ar, .inl (cI, 8, .inl fr)), (at_, .inl (cI, 8, .inl fto)), (aw, .inl (cI, 8, .inl fw)), (am, .inl (cI, 8, .inl fm))] _ _ := B
  refine lv_aload_n F.1 F.2.1 dX3_addRule_10 rfl (lv_at hl 0 rfl) ?_
  refine z_get F B 0 rfl (ci := 5) (C := RX3) (T := TX3) (N := 10) rfl iX3_addRule_X3 5 (by decide) fX3_addRule_15 rfl dX3_addRule_11 ?_
  refine lv_aload_n F.1 F.2.1 dX3_addRule_14 rfl (lv_at hl 0 rfl) ?_
  refine z_get F B 0 rfl (ci := 5) (C := RX3) (T := TX3) (N := 10) rfl iX3_addRule_X3 3 (by decide) fX3_addRule_40 rfl dX3_addRule_15 ?_
  refine lv_iload_n F.1 F.2.1 dX3_addRule_18 rfl (lv_at hl 2 rfl) ?_
  refine z_iast F B 2 0 rfl rfl (j := r) (by omega) (by omega) dX3_addRule_19 (fun H locs B => ?_)
  have B : zB D (zT cI cZ cG cJ) A s.heap s [(mo, .inr (5, [.int (nI q), .int (nI g), .int (nI t), .int (nI r), .ref af, .ref ar, .ref at_, .ref aw, .ref am, .ref ap])), (af, .inl (cI, 8, .inl (upd ff r u1))), (ar, .inl (cI, 8, .inl (upd fr r u2))), (at_, .inl (cI, 8, .inl fto)), (aw, .inl (cI, 8, .inl fw)), (am, .inl (cI, 8, .inl fm))] _ _ := B
  refine lv_aload_n F.1 F.2.1 dX3_addRule_20 rfl (lv_at hl 0 rfl) ?_
  refine z_get F B 0 rfl (ci := 5) (C := RX3) (T := TX3) (N := 10) rfl iX3_addRule_X3 6 (by decide) fX3_addRule_18 rfl dX3_addRule_21 ?_
  refine lv_aload_n F.1 F.2.1 dX3_addRule_24 rfl (lv_at hl 0 rfl) ?_
  refine z_get F B 0 rfl (ci := 5) (C := RX3) (T := TX3) (N := 10) rfl iX3_addRule_X3 3 (by decide) fX3_addRule_40 rfl dX3_addRule_25 ?_
  refine lv_iload_n F.1 F.2.1 dX3_addRule_28 rfl (lv_at hl 3 rfl) ?_
  refine z_iast F B 3 0 rfl rfl (j := r) (by omega) (by omega) dX3_addRule_29 (fun H locs B => ?_)
  have B : zB D (zT cI cZ cG cJ) A s.heap s [(mo, .inr (5, [.int (nI q), .int (nI g), .int (nI t), .int (nI r), .ref af, .ref ar, .ref at_, .ref aw, .ref am, .ref ap])), (af, .inl (cI, 8, .inl (upd ff r u1))), (ar, .inl (cI, 8, .inl (upd fr r u2))), (at_, .inl (cI, 8, .inl (upd fto r u3))), (aw, .inl (cI, 8, .inl fw)), (am, .inl (cI, 8, .inl fm))] _ _ := B
  refine lv_aload_n F.1 F.2.1 dX3_addRule_30 rfl (lv_at hl 0 rfl) ?_
  refine z_get F B 0 rfl (ci := 5) (C := RX3) (T := TX3) (N := 10) rfl iX3_addRule_X3 7 (by decide) fX3_addRule_21 rfl dX3_addRule_31 ?_
  refine lv_aload_n F.1 F.2.1 dX3_addRule_34 rfl (lv_at hl 0 rfl) ?_
  refine z_get F B 0 rfl (ci := 5) (C := RX3) (T := TX3) (N := 10) rfl iX3_addRule_X3 3 (by decide) fX3_addRule_40 rfl dX3_addRule_35 ?_
  refine lv_iload F.1 F.2.1 dX3_addRule_38 (lv_at hl 4 rfl) ?_
  refine z_iast F B 4 0 rfl rfl (j := r) (by omega) (by omega) dX3_addRule_40 (fun H locs B => ?_)
  have B : zB D (zT cI cZ cG cJ) A s.heap s [(mo, .inr (5, [.int (nI q), .int (nI g), .int (nI t), .int (nI r), .ref af, .ref ar, .ref at_, .ref aw, .ref am, .ref ap])), (af, .inl (cI, 8, .inl (upd ff r u1))), (ar, .inl (cI, 8, .inl (upd fr r u2))), (at_, .inl (cI, 8, .inl (upd fto r u3))), (aw, .inl (cI, 8, .inl (upd fw r u4))), (am, .inl (cI, 8, .inl fm))] _ _ := B
  refine lv_aload_n F.1 F.2.1 dX3_addRule_41 rfl (lv_at hl 0 rfl) ?_
  refine z_get F B 0 rfl (ci := 5) (C := RX3) (T := TX3) (N := 10) rfl iX3_addRule_X3 8 (by decide) fX3_addRule_24 rfl dX3_addRule_42 ?_
  refine lv_aload_n F.1 F.2.1 dX3_addRule_45 rfl (lv_at hl 0 rfl) ?_
  refine z_get F B 0 rfl (ci := 5) (C := RX3) (T := TX3) (N := 10) rfl iX3_addRule_X3 3 (by decide) fX3_addRule_40 rfl dX3_addRule_46 ?_
  refine lv_iload F.1 F.2.1 dX3_addRule_49 (lv_at hl 5 rfl) ?_
  refine lv_iconst (v := (nI 1)) F.1 F.2.1 dX3_addRule_51 (by decide) ?_
  refine lv_isub F.1 F.2.1 dX3_addRule_52 ?_
  refine z_iast F B 5 0 rfl rfl (j := r) (by omega) (by omega) dX3_addRule_53 (fun H locs B => ?_)
  have B : zB D (zT cI cZ cG cJ) A s.heap s [(mo, .inr (5, [.int (nI q), .int (nI g), .int (nI t), .int (nI r), .ref af, .ref ar, .ref at_, .ref aw, .ref am, .ref ap])), (af, .inl (cI, 8, .inl (upd ff r u1))), (ar, .inl (cI, 8, .inl (upd fr r u2))), (at_, .inl (cI, 8, .inl (upd fto r u3))), (aw, .inl (cI, 8, .inl (upd fw r u4))), (am, .inl (cI, 8, .inl (upd fm r (u5 - (nI 1)))))] _ _ := B
  refine lv_aload_n F.1 F.2.1 dX3_addRule_54 rfl (lv_at hl 0 rfl) ?_
  refine lv_dup F.1 F.2.1 dX3_addRule_55 rfl ?_
  refine z_get F B 0 rfl (ci := 5) (C := RX3) (T := TX3) (N := 10) rfl iX3_addRule_X3 3 (by decide) fX3_addRule_40 rfl dX3_addRule_56 ?_
  refine lv_iconst (v := (nI 1)) F.1 F.2.1 dX3_addRule_59 (by decide) ?_
  refine z_iadd F dX3_addRule_60 ?_
  refine z_put F B 0 rfl (ci := 5) (C := RX3) (T := TX3) (N := 10) rfl iX3_addRule_X3 tyX3 tyX3_ok nmX3 3 (by decide) fX3_addRule_40 rfl (v := .int (nI (r + 1))) rfl rfl (Nat.le_of_ble_eq_true rfl) dX3_addRule_61 (fun H locs B => ?_)
  have B : zB D (zT cI cZ cG cJ) A s.heap s [(mo, .inr (5, [.int (nI q), .int (nI g), .int (nI t), .int (nI (r + 1)), .ref af, .ref ar, .ref at_, .ref aw, .ref am, .ref ap])), (af, .inl (cI, 8, .inl (upd ff r u1))), (ar, .inl (cI, 8, .inl (upd fr r u2))), (at_, .inl (cI, 8, .inl (upd fto r u3))), (aw, .inl (cI, 8, .inl (upd fw r u4))), (am, .inl (cI, 8, .inl (upd fm r (u5 - (nI 1)))))] _ _ := B
  refine lv_aload_n F.1 F.2.1 dX3_addRule_64 rfl (lv_at hl 0 rfl) ?_
  refine z_get F B 0 rfl (ci := 5) (C := RX3) (T := TX3) (N := 10) rfl iX3_addRule_X3 3 (by decide) fX3_addRule_40 rfl dX3_addRule_65 ?_
  refine lv_iconst (v := (nI 1)) F.1 F.2.1 dX3_addRule_68 (by decide) ?_
  refine z_isub F (by omega) dX3_addRule_69 ?_
  refine W.eq (g2 := F0 m 70 ls [.int (nI r)]) (by rw [Nat.add_sub_cancel]) ?_
  exact z_iret F hr hlk B [0, 1, 2, 3, 4, 5] rfl (rfl) dX3_addRule_70 (by omega) (by omega) ⟨rfl, rfl⟩
