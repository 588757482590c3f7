/-! CONTRACTS of Run.begin, accepts, canUse -/
/-- choice k can be used at the head h, in state u, over the tape T -/
def zcan (q r t : Nat) (rl : Nat → Nat → Nat) (h u : Nat) (T : Nat → Nat) (k : Nat) : Prop := (k = r ∧ u = q - 1) ∨ (¬ k = r ∧ u = rl 0 k ∧ T h = rl 1 k ∧ 1 ≤ h + rl 4 k ∧ h + rl 4 k ≤ t + 1)
theorem iX5_begin_X5 : ∀ w ∈ u_ws RX5 TX5 5, w ∈ wsX5_begin := by decide +kernel
theorem fX5_begin_15 : Cond.fieldLink RX5 15 "TourChain$Run" "heads" "[I" ∈ wsX5_begin := by decide +kernel
theorem fX5_begin_18 : Cond.fieldLink RX5 18 "TourChain$Run" "states" "[I" ∈ wsX5_begin := by decide +kernel
theorem fX5_begin_26 : Cond.fieldLink RX5 26 "TourChain$Run" "machine" "LTourChain$Machine;" ∈ wsX5_begin := by decide +kernel
theorem iX5_begin_X3 : ∀ w ∈ u_ws RX3 TX3 10, w ∈ wsX5_begin := by decide +kernel
theorem fX5_begin_58 : Cond.fieldLink RX5 58 "TourChain$Machine" "tape" "[I" ∈ wsX5_begin := by decide +kernel
theorem fX5_begin_23 : Cond.fieldLink RX5 23 "TourChain$Run" "cells" "[[I" ∈ wsX5_begin := by decide +kernel
theorem yX5_begin_X3_cells : yX3_cells.cls = RX3 ∧ yX3_cells.cls ≠ "java/lang/invoke/MethodHandle" ∧ yX3_cells.cls ≠ "java/lang/invoke/VarHandle" ∧ (parseMethodDescriptor yX3_cells.desc).map (fun d => d.parameters.length) = some 0 := by decide +kernel
theorem mX5_begin_ac1 : Cond.methodLink RX5 64 arraycopyName ∈ wsX5_begin := by decide +kernel
theorem mX5_begin_ac2 : Cond.native arraycopyName ∈ wsX5_begin := by decide +kernel
theorem mX5_begin_ac3 : Cond.static arraycopyName ∈ wsX5_begin := by decide +kernel
theorem mX5_begin_ac4 : Cond.initialized "java/lang/System" ∈ wsX5_begin := by decide +kernel
set_option maxHeartbeats 4000000 in
set_option maxRecDepth 100000 in
theorem kX5_begin (l : Launch) (D : va_G) (cI cZ cG cJ : ClassId) (ru : Nat) (mo : Nat) (rch : Nat) (rhe : Nat) (rst : Nat) (rce : Nat) (q : Nat) (g : Nat) (t : Nat) (r : Nat) (af : Nat) (ar : Nat) (at_ : Nat) (aw : Nat) (am : Nat) (ap : Nat) (fhe : Nat → Int32) (fst : Nat → Int32) (rc : Nat → Nat) (hh : Nat → Nat → Int32) (fp : Nat → Int32) (ht : t ≤ 3) : zC l yX5_begin wsX5_begin 1 40 0 0 D (zT cI cZ cG cJ) [.ref ru] [(ru, .inr (7, [.ref mo, .ref rch, .ref rhe, .ref rst, .ref rce])), (mo, .inr (5, [.int (nI q), .int (nI g), .int (nI t), .int (nI r), .ref af, .ref ar, .ref at_, .ref aw, .ref am, .ref ap])), (ap, .inl (cI, 4, .inl fp)), (rhe, .inl (cI, 4, .inl fhe)), (rst, .inl (cI, 4, .inl fst)), (rce, .inl (cG, 4, .inr (.inr (.inr (.inr (fun i => some (rc i))))))), (rc 0, .inl (cI, 4, .inl (hh 0))), (rc 1, .inl (cI, 4, .inl (hh 1))), (rc 2, .inl (cI, 4, .inl (hh 2))), (rc 3, .inl (cI, 4, .inl (hh 3)))] (fun (ov : Option Value) (ow : va_W) => ov = none ∧ ow = [(ru, .inr (7, [.ref mo, .ref rch, .ref rhe, .ref rst, .ref rce])), (mo, .inr (5, [.int (nI q), .int (nI g), .int (nI t), .int (nI r), .ref af, .ref ar, .ref at_, .ref aw, .ref am, .ref ap])), (ap, .inl (cI, 4, .inl fp)), (rhe, .inl (cI, 4, .inl (upd fhe 0 (nI 0)))), (rst, .inl (cI, 4, .inl (upd fst 0 (nI 0)))), (rce, .inl (cG, 4, .inr (.inr (.inr (.inr (fun i => some (rc i))))))), (rc 0, .inl (cI, 4, .inl ((va_up hh 0 (va_cpy fp (hh 0) 0 0 (t + 1))) 0))), (rc 1, .inl (cI, 4, .inl ((va_up hh 0 (va_cpy fp (hh 0) 0 0 (t + 1))) 1))), (rc 2, .inl (cI, 4, .inl ((va_up hh 0 (va_cpy fp (hh 0) 0 0 (t + 1))) 2))), (rc 3, .inl (cI, 4, .inl ((va_up hh 0 (va_cpy fp (hh 0) 0 0 (t + 1))) 3)))]) := by
  refine zC.of (cc := cX5_begin) (maxL := 1) (ret := none) (by decide) rfl (Nat.le_of_ble_eq_true rfl) ?_
  intro p e s m below meth c A ls F hr hlk hnm B hl
  have hl : lv_has ls 1 [(0, .ref ru)] := hl
  refine lv_aload_n F.1 F.2.1 dX5_begin_0 rfl (lv_at hl 0 rfl) ?_
  refine z_get F B 0 rfl (ci := 7) (C := RX5) (T := TX5) (N := 5) rfl iX5_begin_X5 2 (by decide) fX5_begin_15 rfl dX5_begin_1 ?_
  refine lv_iconst (v := (nI 0)) F.1 F.2.1 dX5_begin_4 (by decide) ?_
  refine lv_iconst (v := (nI 0)) F.1 F.2.1 dX5_begin_5 (by decide) ?_
  refine z_iast F B 3 0 rfl rfl (j := 0) (by omega) (by omega) dX5_begin_6 (fun H locs B => ?_)
  have B : zB D (zT cI cZ cG cJ) A s.heap s [(ru, .inr (7, [.ref mo, .ref rch, .ref rhe, .ref rst, .ref rce])), (mo, .inr (5, [.int (nI q), .int (nI g), .int (nI t), .int (nI r), .ref af, .ref ar, .ref at_, .ref aw, .ref am, .ref ap])), (ap, .inl (cI, 4, .inl fp)), (rhe, .inl (cI, 4, .inl (upd fhe 0 (nI 0)))), (rst, .inl (cI, 4, .inl fst)), (rce, .inl (cG, 4, .inr (.inr (.inr (.inr (fun i => some (rc i))))))), (rc 0, .inl (cI, 4, .inl (hh 0))), (rc 1, .inl (cI, 4, .inl (hh 1))), (rc 2, .inl (cI, 4, .inl (hh 2))), (rc 3, .inl (cI, 4, .inl (hh 3)))] _ _ := B
  refine lv_aload_n F.1 F.2.1 dX5_begin_7 rfl (lv_at hl 0 rfl) ?_
  refine z_get F B 0 rfl (ci := 7) (C := RX5) (T := TX5) (N := 5) rfl iX5_begin_X5 3 (by decide) fX5_begin_18 rfl dX5_begin_8 ?_
  refine lv_iconst (v := (nI 0)) F.1 F.2.1 dX5_begin_11 (by decide) ?_
  refine lv_iconst (v := (nI 0)) F.1 F.2.1 dX5_begin_12 (by decide) ?_
  refine z_iast F B 4 0 rfl rfl (j := 0) (by omega) (by omega) dX5_begin_13 (fun H locs B => ?_)
  have B : zB D (zT cI cZ cG cJ) A s.heap s [(ru, .inr (7, [.ref mo, .ref rch, .ref rhe, .ref rst, .ref rce])), (mo, .inr (5, [.int (nI q), .int (nI g), .int (nI t), .int (nI r), .ref af, .ref ar, .ref at_, .ref aw, .ref am, .ref ap])), (ap, .inl (cI, 4, .inl fp)), (rhe, .inl (cI, 4, .inl (upd fhe 0 (nI 0)))), (rst, .inl (cI, 4, .inl (upd fst 0 (nI 0)))), (rce, .inl (cG, 4, .inr (.inr (.inr (.inr (fun i => some (rc i))))))), (rc 0, .inl (cI, 4, .inl (hh 0))), (rc 1, .inl (cI, 4, .inl (hh 1))), (rc 2, .inl (cI, 4, .inl (hh 2))), (rc 3, .inl (cI, 4, .inl (hh 3)))] _ _ := B
  refine lv_aload_n F.1 F.2.1 dX5_begin_14 rfl (lv_at hl 0 rfl) ?_
  refine z_get F B 0 rfl (ci := 7) (C := RX5) (T := TX5) (N := 5) rfl iX5_begin_X5 0 (by decide) fX5_begin_26 rfl dX5_begin_15 ?_
  refine z_get F B 1 rfl (ci := 5) (C := RX3) (T := TX3) (N := 10) rfl iX5_begin_X3 9 (by decide) fX5_begin_58 rfl dX5_begin_18 ?_
  refine lv_iconst (v := (nI 0)) F.1 F.2.1 dX5_begin_21 (by decide) ?_
  refine lv_aload_n F.1 F.2.1 dX5_begin_22 rfl (lv_at hl 0 rfl) ?_
  refine z_get F B 0 rfl (ci := 7) (C := RX5) (T := TX5) (N := 5) rfl iX5_begin_X5 4 (by decide) fX5_begin_23 rfl dX5_begin_23 ?_
  refine lv_iconst (v := (nI 0)) F.1 F.2.1 dX5_begin_26 (by decide) ?_
  refine z_aald F B 5 2 rfl rfl (j := 0) (by omega) (by omega) rfl dX5_begin_27 ?_
  refine lv_iconst (v := (nI 0)) F.1 F.2.1 dX5_begin_28 (by decide) ?_
  refine lv_aload_n F.1 F.2.1 dX5_begin_29 rfl (lv_at hl 0 rfl) ?_
  refine z_get F B 0 rfl (ci := 7) (C := RX5) (T := TX5) (N := 5) rfl iX5_begin_X5 0 (by decide) fX5_begin_26 rfl dX5_begin_30 ?_
  refine z_callV (wr := [(ru, .inr (7, [.ref mo, .ref rch, .ref rhe, .ref rst, .ref rce])), (ap, .inl (cI, 4, .inl fp)), (rhe, .inl (cI, 4, .inl (upd fhe 0 (nI 0)))), (rst, .inl (cI, 4, .inl (upd fst 0 (nI 0)))), (rce, .inl (cG, 4, .inr (.inr (.inr (.inr (fun i => some (rc i))))))), (rc 0, .inl (cI, 4, .inl (hh 0))), (rc 1, .inl (cI, 4, .inl (hh 1))), (rc 2, .inl (cI, 4, .inl (hh 2))), (rc 3, .inl (cI, 4, .inl (hh 3)))]) (rest := [.int (nI 0), .ref (rc 0), .int (nI 0), .ref ap]) (As := []) F B (kX3_cells l D cI cZ cG cJ mo q g t r af ar at_ aw am ap) hl.1 (C := RX3) (T := TX3) (N := 10) (ci := 5) (q0 := 1) gX5_begin_X3_cells rfl 0 yX5_begin_X3_cells rfl rfl rfl [1] [0, 2, 3, 4, 5, 6, 7, 8, 9] rfl rfl rfl rfl (by decide) (Nat.le_of_ble_eq_true rfl) (Nat.le_of_ble_eq_true rfl) (Nat.le_of_ble_eq_true rfl) rfl dX5_begin_33 (show 0 + 0 ≤ 0 by omega) (show 0 + 0 ≤ 0 by omega) (fun vv ww H locs hRR B => ?_)
  obtain ⟨rfl, rfl⟩ := hRR
  have B : zB D (zT cI cZ cG cJ) A s.heap s [(ru, .inr (7, [.ref mo, .ref rch, .ref rhe, .ref rst, .ref rce])), (ap, .inl (cI, 4, .inl fp)), (rhe, .inl (cI, 4, .inl (upd fhe 0 (nI 0)))), (rst, .inl (cI, 4, .inl (upd fst 0 (nI 0)))), (rce, .inl (cG, 4, .inr (.inr (.inr (.inr (fun i => some (rc i))))))), (rc 0, .inl (cI, 4, .inl (hh 0))), (rc 1, .inl (cI, 4, .inl (hh 1))), (rc 2, .inl (cI, 4, .inl (hh 2))), (rc 3, .inl (cI, 4, .inl (hh 3))), (mo, .inr (5, [.int (nI q), .int (nI g), .int (nI t), .int (nI r), .ref af, .ref ar, .ref at_, .ref aw, .ref am, .ref ap]))] _ _ := B
  refine W.eq (g2 := F0 m 36 ls [.int (nI (t + 1)), .int (nI 0), .ref (rc 0), .int (nI 0), .ref ap]) rfl ?_
  refine z_copy (cA := cI) (a0 := ap) (a1 := rc 0) (n0 := 4) (n1 := 4) (f := fp) (g := hh 0) F B hl.1 mX5_begin_ac1 mX5_begin_ac2 mX5_begin_ac3 mX5_begin_ac4 (q0 := 1) (q1 := 5 + 0) (rfl) (rfl) rfl (by omega) (by omega) (by omega) (by omega) (Nat.le_of_ble_eq_true rfl) (Nat.le_of_ble_eq_true rfl) dX5_begin_36 (fun H locs B => ?_)
  have B : zB D (zT cI cZ cG cJ) A s.heap s [(ru, .inr (7, [.ref mo, .ref rch, .ref rhe, .ref rst, .ref rce])), (ap, .inl (cI, 4, .inl fp)), (rhe, .inl (cI, 4, .inl (upd fhe 0 (nI 0)))), (rst, .inl (cI, 4, .inl (upd fst 0 (nI 0)))), (rce, .inl (cG, 4, .inr (.inr (.inr (.inr (fun i => some (rc i))))))), (rc 0, .inl (cI, 4, .inl ((va_up hh 0 (va_cpy fp (hh 0) 0 0 (t + 1))) 0))), (rc 1, .inl (cI, 4, .inl ((va_up hh 0 (va_cpy fp (hh 0) 0 0 (t + 1))) 1))), (rc 2, .inl (cI, 4, .inl ((va_up hh 0 (va_cpy fp (hh 0) 0 0 (t + 1))) 2))), (rc 3, .inl (cI, 4, .inl ((va_up hh 0 (va_cpy fp (hh 0) 0 0 (t + 1))) 3))), (mo, .inr (5, [.int (nI q), .int (nI g), .int (nI t), .int (nI r), .ref af, .ref ar, .ref at_, .ref aw, .ref am, .ref ap]))] H locs := by first | skip <;> exact B
  refine W.eq (g2 := F0 m 39 ls []) rfl ?_
  exact z_vret F hr hlk B [0, 9, 1, 2, 3, 4, 5, 6, 7, 8] rfl (rfl) dX5_begin_39 (by omega) (by omega) ⟨rfl, rfl⟩
theorem iX5_accepts_X5 : ∀ w ∈ u_ws RX5 TX5 5, w ∈ wsX5_accepts := by decide +kernel
theorem fX5_accepts_18 : Cond.fieldLink RX5 18 "TourChain$Run" "states" "[I" ∈ wsX5_accepts := by decide +kernel
theorem fX5_accepts_26 : Cond.fieldLink RX5 26 "TourChain$Run" "machine" "LTourChain$Machine;" ∈ wsX5_accepts := by decide +kernel
theorem iX5_accepts_X3 : ∀ w ∈ u_ws RX3 TX3 10, w ∈ wsX5_accepts := by decide +kernel
theorem fX5_accepts_37 : Cond.fieldLink RX5 37 "TourChain$Machine" "bound" "I" ∈ wsX5_accepts := by decide +kernel
theorem yX5_accepts_X3_accept : yX3_accept.cls = RX3 ∧ yX3_accept.cls ≠ "java/lang/invoke/MethodHandle" ∧ yX3_accept.cls ≠ "java/lang/invoke/VarHandle" ∧ (parseMethodDescriptor yX3_accept.desc).map (fun d => d.parameters.length) = some 0 := by decide +kernel
set_option maxHeartbeats 4000000 in
set_option maxRecDepth 100000 in
theorem kX5_accepts (l : Launch) (D : va_G) (cI cZ cG cJ : ClassId) (ru : Nat) (mo : Nat) (rch : Nat) (rhe : Nat) (rst : Nat) (rce : Nat) (q : Nat) (g : Nat) (t : Nat) (r : Nat) (af : Nat) (ar : Nat) (at_ : Nat) (aw : Nat) (am : Nat) (ap : Nat) (fst : Nat → Int32) (u : Nat) (ht : t ≤ 3) (hq1 : 1 ≤ q) (hq : q ≤ 3) (hu : fst t = nI u) (hu2 : u ≤ 3) : zC l yX5_accepts wsX5_accepts 1 20 0 0 D (zT cI cZ cG cJ) [.ref ru] [(ru, .inr (7, [.ref mo, .ref rch, .ref rhe, .ref rst, .ref rce])), (mo, .inr (5, [.int (nI q), .int (nI g), .int (nI t), .int (nI r), .ref af, .ref ar, .ref at_, .ref aw, .ref am, .ref ap])), (rst, .inl (cI, 4, .inl fst))] (fun (ov : Option Value) (ow : va_W) => ∃ rb : Int32, ov = some (.int rb) ∧ ow = [(ru, .inr (7, [.ref mo, .ref rch, .ref rhe, .ref rst, .ref rce])), (mo, .inr (5, [.int (nI q), .int (nI g), .int (nI t), .int (nI r), .ref af, .ref ar, .ref at_, .ref aw, .ref am, .ref ap])), (rst, .inl (cI, 4, .inl fst))] ∧ ((rb = 1 ∧ (u = q - 1)) ∨ (rb = 0 ∧ ¬ (u = q - 1)))) := by
  refine zC.of (cc := cX5_accepts) (maxL := 1) (ret := (some .boolean)) (by decide) rfl (Nat.le_of_ble_eq_true rfl) ?_
  intro p e s m below meth c A ls F hr hlk hnm B hl
  have hl : lv_has ls 1 [(0, .ref ru)] := hl
  refine lv_aload_n F.1 F.2.1 dX5_accepts_0 rfl (lv_at hl 0 rfl) ?_
  refine z_get F B 0 rfl (ci := 7) (C := RX5) (T := TX5) (N := 5) rfl iX5_accepts_X5 3 (by decide) fX5_accepts_18 rfl dX5_accepts_1 ?_
  refine lv_aload_n F.1 F.2.1 dX5_accepts_4 rfl (lv_at hl 0 rfl) ?_
  refine z_get F B 0 rfl (ci := 7) (C := RX5) (T := TX5) (N := 5) rfl iX5_accepts_X5 0 (by decide) fX5_accepts_26 rfl dX5_accepts_5 ?_
  refine z_get F B 1 rfl (ci := 5) (C := RX3) (T := TX3) (N := 10) rfl iX5_accepts_X3 2 (by decide) fX5_accepts_37 rfl dX5_accepts_8 ?_
  refine z_iald F B 2 0 rfl rfl (j := t) (by omega) (by omega) dX5_accepts_11 ?_
  refine W.eq (g2 := F0 m 12 ls [.int (nI u)]) (by rw [hu]) ?_
  refine lv_aload_n F.1 F.2.1 dX5_accepts_12 rfl (lv_at hl 0 rfl) ?_
  refine z_get F B 0 rfl (ci := 7) (C := RX5) (T := TX5) (N := 5) rfl iX5_accepts_X5 0 (by decide) fX5_accepts_26 rfl dX5_accepts_13 ?_
  refine z_callV (wr := [(ru, .inr (7, [.ref mo, .ref rch, .ref rhe, .ref rst, .ref rce])), (rst, .inl (cI, 4, .inl fst))]) (rest := [.int (nI u)]) (As := []) F B (kX3_accept l D cI cZ cG cJ mo q g t r af ar at_ aw am ap (by omega)) hl.1 (C := RX3) (T := TX3) (N := 10) (ci := 5) (q0 := 1) gX5_accepts_X3_accept rfl 0 yX5_accepts_X3_accept rfl rfl rfl [1] [0, 2] rfl rfl rfl rfl (by decide) (Nat.le_of_ble_eq_true rfl) (Nat.le_of_ble_eq_true rfl) (Nat.le_of_ble_eq_true rfl) rfl dX5_accepts_16 (show 0 + 0 ≤ 0 by omega) (show 0 + 0 ≤ 0 by omega) (fun vv ww H locs hRR B => ?_)
  obtain ⟨rfl, rfl⟩ := hRR
  have B : zB D (zT cI cZ cG cJ) A s.heap s [(ru, .inr (7, [.ref mo, .ref rch, .ref rhe, .ref rst, .ref rce])), (rst, .inl (cI, 4, .inl fst)), (mo, .inr (5, [.int (nI q), .int (nI g), .int (nI t), .int (nI r), .ref af, .ref ar, .ref at_, .ref aw, .ref am, .ref ap]))] _ _ := B
  refine W.eq (g2 := F0 m 19 ls [.int (nI (q - 1)), .int (nI u)]) rfl ?_
  refine z_icmp_ne (tgt := 26) F (by omega) (by omega) dX5_accepts_19 (by decide) (fun c19 => ?_) (fun c19 => ?_)
  · refine lv_iconst (v := (nI 0)) F.1 F.2.1 dX5_accepts_26 (by decide) ?_
    exact z_zret F hr hlk B (Or.inl rfl) [0, 2, 1] rfl (rfl) dX5_accepts_27 (by omega) (by omega) ⟨(nI 0), rfl, rfl, Or.inr ⟨rfl, by omega⟩⟩
  · refine lv_iconst (v := (nI 1)) F.1 F.2.1 dX5_accepts_22 (by decide) ?_
    refine lv_goto (tgt := 27) F.1 F.2.1 dX5_accepts_23 (by decide) ?_
    exact z_zret F hr hlk B (Or.inr rfl) [0, 2, 1] rfl (rfl) dX5_accepts_27 (by omega) (by omega) ⟨(nI 1), rfl, rfl, Or.inl ⟨rfl, by omega⟩⟩
theorem iX5_canUse_X5 : ∀ w ∈ u_ws RX5 TX5 5, w ∈ wsX5_canUse := by decide +kernel
theorem fX5_canUse_26 : Cond.fieldLink RX5 26 "TourChain$Run" "machine" "LTourChain$Machine;" ∈ wsX5_canUse := by decide +kernel
theorem iX5_canUse_X3 : ∀ w ∈ u_ws RX3 TX3 10, w ∈ wsX5_canUse := by decide +kernel
theorem fX5_canUse_47 : Cond.fieldLink RX5 47 "TourChain$Machine" "rules" "I" ∈ wsX5_canUse := by decide +kernel
theorem fX5_canUse_15 : Cond.fieldLink RX5 15 "TourChain$Run" "heads" "[I" ∈ wsX5_canUse := by decide +kernel
theorem fX5_canUse_18 : Cond.fieldLink RX5 18 "TourChain$Run" "states" "[I" ∈ wsX5_canUse := by decide +kernel
theorem fX5_canUse_73 : Cond.fieldLink RX5 73 "TourChain$Machine" "from" "[I" ∈ wsX5_canUse := by decide +kernel
theorem fX5_canUse_23 : Cond.fieldLink RX5 23 "TourChain$Run" "cells" "[[I" ∈ wsX5_canUse := by decide +kernel
theorem fX5_canUse_76 : Cond.fieldLink RX5 76 "TourChain$Machine" "read" "[I" ∈ wsX5_canUse := by decide +kernel
theorem fX5_canUse_79 : Cond.fieldLink RX5 79 "TourChain$Machine" "move" "[I" ∈ wsX5_canUse := by decide +kernel
theorem yX5_canUse_X3_cells : yX3_cells.cls = RX3 ∧ yX3_cells.cls ≠ "java/lang/invoke/MethodHandle" ∧ yX3_cells.cls ≠ "java/lang/invoke/VarHandle" ∧ (parseMethodDescriptor yX3_cells.desc).map (fun d => d.parameters.length) = some 0 := by decide +kernel
theorem nX5_canUse_X7_isIndex : Cond.methodLinkNest RX5 82 yX7_isIndex RX7 ∈ zNW := by decide +kernel
theorem mX5_canUse_stX7_isIndex : Cond.static yX7_isIndex ∈ wsX5_canUse := by decide +kernel
theorem mX5_canUse_iyX7_isIndex : Cond.initialized yX7_isIndex.cls ∈ wsX5_canUse := by decide +kernel
theorem yX5_canUse_X7_isIndex : yX7_isIndex.cls ≠ "java/lang/invoke/MethodHandle" ∧ yX7_isIndex.cls ≠ "java/lang/invoke/VarHandle" ∧ (parseMethodDescriptor yX7_isIndex.desc).map (fun d => d.parameters.length) = some 2 := by decide +kernel
theorem yX5_canUse_X3_accept : yX3_accept.cls = RX3 ∧ yX3_accept.cls ≠ "java/lang/invoke/MethodHandle" ∧ yX3_accept.cls ≠ "java/lang/invoke/VarHandle" ∧ (parseMethodDescriptor yX3_accept.desc).map (fun d => d.parameters.length) = some 0 := by decide +kernel
set_option maxHeartbeats 4000000 in
set_option maxRecDepth 100000 in
theorem kX5_canUse (l : Launch) (D : va_G) (cI cZ cG cJ : ClassId) (ru : Nat) (mo : Nat) (rch : Nat) (rhe : Nat) (rst : Nat) (rce : Nat) (q : Nat) (g : Nat) (t : Nat) (r : Nat) (af : Nat) (ar : Nat) (at_ : Nat) (aw : Nat) (am : Nat) (ap : Nat) (fhe : Nat → Int32) (fst : Nat → Int32) (rc : Nat → Nat) (hh : Nat → Nat → Int32) (ff : Nat → Int32) (fr : Nat → Int32) (fm : Nat → Int32) (rl : Nat → Nat → Nat) (h : Nat) (u : Nat) (cfT : Nat → Nat) (i : Nat) (k : Nat) (ht : t ≤ 3) (hq1 : 1 ≤ q) (hq : q ≤ 3) (hr8 : r ≤ 8) (hi : i < 3) (hk : k ≤ r) (hff : ∀ i, i < r → ff i = nI (rl 0 i)) (hfr : ∀ i, i < r → fr i = nI (rl 1 i)) (hfm : ∀ i, i < r → fm i = nI (rl 4 i) - nI 1 ∧ rl 4 i ≤ 2) (hrb : ∀ k, k < r → rl 0 k ≤ 3 ∧ rl 1 k ≤ 3) (hhe : fhe i = nI h) (hst : fst i = nI u) (hh2 : h ≤ t) (hu2 : u ≤ 3) (htr : ∀ y, y ≤ t → hh i y = nI (cfT y)) (htr2 : ∀ y, y ≤ t → cfT y ≤ 3) : zC l yX5_canUse wsX5_canUse 1 21 0 0 D (zT cI cZ cG cJ) [.ref ru, .int (nI i), .int (nI k)] [(ru, .inr (7, [.ref mo, .ref rch, .ref rhe, .ref rst, .ref rce])), (mo, .inr (5, [.int (nI q), .int (nI g), .int (nI t), .int (nI r), .ref af, .ref ar, .ref at_, .ref aw, .ref am, .ref ap])), (af, .inl (cI, 8, .inl ff)), (ar, .inl (cI, 8, .inl fr)), (am, .inl (cI, 8, .inl fm)), (rhe, .inl (cI, 4, .inl fhe)), (rst, .inl (cI, 4, .inl fst)), (rce, .inl (cG, 4, .inr (.inr (.inr (.inr (fun i => some (rc i))))))), (rc 0, .inl (cI, 4, .inl (hh 0))), (rc 1, .inl (cI, 4, .inl (hh 1))), (rc 2, .inl (cI, 4, .inl (hh 2))), (rc 3, .inl (cI, 4, .inl (hh 3)))] (fun (ov : Option Value) (ow : va_W) => ∃ rb : Int32, ov = some (.int rb) ∧ ow = [(ru, .inr (7, [.ref mo, .ref rch, .ref rhe, .ref rst, .ref rce])), (mo, .inr (5, [.int (nI q), .int (nI g), .int (nI t), .int (nI r), .ref af, .ref ar, .ref at_, .ref aw, .ref am, .ref ap])), (af, .inl (cI, 8, .inl ff)), (ar, .inl (cI, 8, .inl fr)), (am, .inl (cI, 8, .inl fm)), (rhe, .inl (cI, 4, .inl fhe)), (rst, .inl (cI, 4, .inl fst)), (rce, .inl (cG, 4, .inr (.inr (.inr (.inr (fun i => some (rc i))))))), (rc 0, .inl (cI, 4, .inl (hh 0))), (rc 1, .inl (cI, 4, .inl (hh 1))), (rc 2, .inl (cI, 4, .inl (hh 2))), (rc 3, .inl (cI, 4, .inl (hh 3)))] ∧ ((rb = 1 ∧ (zcan q r t rl h u cfT k)) ∨ (rb = 0 ∧ ¬ (zcan q r t rl h u cfT k)))) := by
  refine zC.of (cc := cX5_canUse) (maxL := 4) (ret := (some .boolean)) (by decide) rfl (Nat.le_of_ble_eq_true rfl) ?_
  intro p e s m below meth c A ls F hr hlk hnm B hl
  have hl : lv_has ls 4 [(0, .ref ru), (1, .int (nI i)), (2, .int (nI k))] := hl
  refine lv_iload_n F.1 F.2.1 dX5_canUse_0 rfl (lv_at hl 2 rfl) ?_
  refine lv_aload_n F.1 F.2.1 dX5_canUse_1 rfl (lv_at hl 0 rfl) ?_
  refine z_get F B 0 rfl (ci := 7) (C := RX5) (T := TX5) (N := 5) rfl iX5_canUse_X5 0 (by decide) fX5_canUse_26 rfl dX5_canUse_2 ?_
  refine z_get F B 1 rfl (ci := 5) (C := RX3) (T := TX3) (N := 10) rfl iX5_canUse_X3 3 (by decide) fX5_canUse_47 rfl dX5_canUse_5 ?_
  refine z_icmp_ne (tgt := 33) F (by omega) (by omega) dX5_canUse_8 (by decide) (fun c8 => ?_) (fun c8 => ?_)
  · have hb9 := hrb k (by omega)
    have hc9 := htr2 h hh2
    have hd2 := (hfm k (by omega)).2
    have htg := pk_sub_toInt (a := h + rl 4 k) (b := 1) (by omega) (by omega)
    have htn := nI_toInt (n := t + 1) (by omega)
    refine lv_aload_n F.1 F.2.1 dX5_canUse_33 rfl (lv_at hl 0 rfl) ?_
    refine z_get F B 0 rfl (ci := 7) (C := RX5) (T := TX5) (N := 5) rfl iX5_canUse_X5 2 (by decide) fX5_canUse_15 rfl dX5_canUse_34 ?_
    refine lv_iload_n F.1 F.2.1 dX5_canUse_37 rfl (lv_at hl 1 rfl) ?_
    refine z_iald F B 5 0 rfl rfl (j := i) (by omega) (by omega) dX5_canUse_38 ?_
    refine W.eq (g2 := F0 m 39 ls [.int (nI h)]) (by rw [hhe]) ?_
    refine lv_istore_n (lv' := [(3, .int (nI h)), (0, .ref ru), (1, .int (nI i)), (2, .int (nI k))]) F.1 F.2.1 dX5_canUse_39 rfl hl (by decide) rfl (fun ls hl => ?_)
    refine lv_aload_n F.1 F.2.1 dX5_canUse_40 rfl (lv_at hl 1 rfl) ?_
    refine z_get F B 0 rfl (ci := 7) (C := RX5) (T := TX5) (N := 5) rfl iX5_canUse_X5 3 (by decide) fX5_canUse_18 rfl dX5_canUse_41 ?_
    refine lv_iload_n F.1 F.2.1 dX5_canUse_44 rfl (lv_at hl 2 rfl) ?_
    refine z_iald F B 6 0 rfl rfl (j := i) (by omega) (by omega) dX5_canUse_45 ?_
    refine W.eq (g2 := F0 m 46 ls [.int (nI u)]) (by rw [hst]) ?_
    refine lv_aload_n F.1 F.2.1 dX5_canUse_46 rfl (lv_at hl 1 rfl) ?_
    refine z_get F B 0 rfl (ci := 7) (C := RX5) (T := TX5) (N := 5) rfl iX5_canUse_X5 0 (by decide) fX5_canUse_26 rfl dX5_canUse_47 ?_
    refine z_get F B 1 rfl (ci := 5) (C := RX3) (T := TX3) (N := 10) rfl iX5_canUse_X3 4 (by decide) fX5_canUse_73 rfl dX5_canUse_50 ?_
    refine lv_iload_n F.1 F.2.1 dX5_canUse_53 rfl (lv_at hl 3 rfl) ?_
    refine z_iald F B 2 0 rfl rfl (j := k) (by omega) (by omega) dX5_canUse_54 ?_
    refine W.eq (g2 := F0 m 55 ls [.int (nI (rl 0 k)), .int (nI u)]) (by rw [hff k (by omega)]) ?_
    refine z_icmp_ne (tgt := 106) F (by omega) (by omega) dX5_canUse_55 (by decide) (fun c55 => ?_) (fun c55 => ?_)
    · refine lv_iconst (v := (nI 0)) F.1 F.2.1 dX5_canUse_106 (by decide) ?_
      exact z_zret F hr hlk B (Or.inl rfl) [0, 1, 2, 3, 4, 5, 6, 7, 8, 9, 10, 11] rfl (rfl) dX5_canUse_107 (by omega) (by omega) ⟨(nI 0), rfl, rfl, Or.inr ⟨rfl, by unfold zcan; omega⟩⟩
    · refine lv_aload_n F.1 F.2.1 dX5_canUse_58 rfl (lv_at hl 1 rfl) ?_
      refine z_get F B 0 rfl (ci := 7) (C := RX5) (T := TX5) (N := 5) rfl iX5_canUse_X5 4 (by decide) fX5_canUse_23 rfl dX5_canUse_59 ?_
      refine lv_iload_n F.1 F.2.1 dX5_canUse_62 rfl (lv_at hl 2 rfl) ?_
      refine z_aald F B 7 2 rfl rfl (j := i) (by omega) (by omega) rfl dX5_canUse_63 ?_
      refine lv_iload_n F.1 F.2.1 dX5_canUse_64 rfl (lv_at hl 0 rfl) ?_
      refine z_iald (a := rc i) (cA := cI) (n := 4) (f := hh i) F B (8 + i) 0 (by rcases (show i = 0 ∨ i = 1 ∨ i = 2 by omega) with rfl | rfl | rfl <;> rfl) rfl (j := h) (by omega) (by omega) dX5_canUse_65 ?_
      refine W.eq (g2 := F0 m 66 ls [.int (nI (cfT h))]) (by rw [htr h hh2]) ?_
      refine lv_aload_n F.1 F.2.1 dX5_canUse_66 rfl (lv_at hl 1 rfl) ?_
      refine z_get F B 0 rfl (ci := 7) (C := RX5) (T := TX5) (N := 5) rfl iX5_canUse_X5 0 (by decide) fX5_canUse_26 rfl dX5_canUse_67 ?_
      refine z_get F B 1 rfl (ci := 5) (C := RX3) (T := TX3) (N := 10) rfl iX5_canUse_X3 5 (by decide) fX5_canUse_76 rfl dX5_canUse_70 ?_
      refine lv_iload_n F.1 F.2.1 dX5_canUse_73 rfl (lv_at hl 3 rfl) ?_
      refine z_iald F B 3 0 rfl rfl (j := k) (by omega) (by omega) dX5_canUse_74 ?_
      refine W.eq (g2 := F0 m 75 ls [.int (nI (rl 1 k)), .int (nI (cfT h))]) (by rw [hfr k (by omega)]) ?_
      refine z_icmp_ne (tgt := 106) F (by omega) (by omega) dX5_canUse_75 (by decide) (fun c75 => ?_) (fun c75 => ?_)
      · refine lv_iconst (v := (nI 0)) F.1 F.2.1 dX5_canUse_106 (by decide) ?_
        exact z_zret F hr hlk B (Or.inl rfl) [0, 1, 2, 3, 4, 5, 6, 7, 8, 9, 10, 11] rfl (rfl) dX5_canUse_107 (by omega) (by omega) ⟨(nI 0), rfl, rfl, Or.inr ⟨rfl, by unfold zcan; omega⟩⟩
      · refine lv_iload_n F.1 F.2.1 dX5_canUse_78 rfl (lv_at hl 0 rfl) ?_
        refine lv_aload_n F.1 F.2.1 dX5_canUse_79 rfl (lv_at hl 1 rfl) ?_
        refine z_get F B 0 rfl (ci := 7) (C := RX5) (T := TX5) (N := 5) rfl iX5_canUse_X5 0 (by decide) fX5_canUse_26 rfl dX5_canUse_80 ?_
        refine z_get F B 1 rfl (ci := 5) (C := RX3) (T := TX3) (N := 10) rfl iX5_canUse_X3 8 (by decide) fX5_canUse_79 rfl dX5_canUse_83 ?_
        refine lv_iload_n F.1 F.2.1 dX5_canUse_86 rfl (lv_at hl 3 rfl) ?_
        refine z_iald F B 4 0 rfl rfl (j := k) (by omega) (by omega) dX5_canUse_87 ?_
        refine W.eq (g2 := F0 m 88 ls [.int (nI (rl 4 k) - nI 1), .int (nI h)]) (by rw [(hfm k (by omega)).1]) ?_
        refine lv_iadd F.1 F.2.1 dX5_canUse_88 ?_
        refine W.eq (g2 := F0 m 89 ls [.int (nI (h + rl 4 k) - nI 1)]) (by rw [ztgt]) ?_
        refine lv_aload_n F.1 F.2.1 dX5_canUse_89 rfl (lv_at hl 1 rfl) ?_
        refine z_get F B 0 rfl (ci := 7) (C := RX5) (T := TX5) (N := 5) rfl iX5_canUse_X5 0 (by decide) fX5_canUse_26 rfl dX5_canUse_90 ?_
        refine z_callV (wr := [(ru, .inr (7, [.ref mo, .ref rch, .ref rhe, .ref rst, .ref rce])), (af, .inl (cI, 8, .inl ff)), (ar, .inl (cI, 8, .inl fr)), (am, .inl (cI, 8, .inl fm)), (rhe, .inl (cI, 4, .inl fhe)), (rst, .inl (cI, 4, .inl fst)), (rce, .inl (cG, 4, .inr (.inr (.inr (.inr (fun i => some (rc i))))))), (rc 0, .inl (cI, 4, .inl (hh 0))), (rc 1, .inl (cI, 4, .inl (hh 1))), (rc 2, .inl (cI, 4, .inl (hh 2))), (rc 3, .inl (cI, 4, .inl (hh 3)))]) (rest := [.int (nI (h + rl 4 k) - nI 1)]) (As := []) F B (kX3_cells l D cI cZ cG cJ mo q g t r af ar at_ aw am ap) hl.1 (C := RX3) (T := TX3) (N := 10) (ci := 5) (q0 := 1) gX5_canUse_X3_cells rfl 0 yX5_canUse_X3_cells rfl rfl rfl [1] [0, 2, 3, 4, 5, 6, 7, 8, 9, 10, 11] rfl rfl rfl rfl (by decide) (Nat.le_of_ble_eq_true rfl) (Nat.le_of_ble_eq_true rfl) (Nat.le_of_ble_eq_true rfl) rfl dX5_canUse_93 (show 0 + 0 ≤ 0 by omega) (show 0 + 0 ≤ 0 by omega) (fun vv ww H locs hRR B => ?_)
        obtain ⟨rfl, rfl⟩ := hRR
        have B : zB D (zT cI cZ cG cJ) A s.heap s [(ru, .inr (7, [.ref mo, .ref rch, .ref rhe, .ref rst, .ref rce])), (af, .inl (cI, 8, .inl ff)), (ar, .inl (cI, 8, .inl fr)), (am, .inl (cI, 8, .inl fm)), (rhe, .inl (cI, 4, .inl fhe)), (rst, .inl (cI, 4, .inl fst)), (rce, .inl (cG, 4, .inr (.inr (.inr (.inr (fun i => some (rc i))))))), (rc 0, .inl (cI, 4, .inl (hh 0))), (rc 1, .inl (cI, 4, .inl (hh 1))), (rc 2, .inl (cI, 4, .inl (hh 2))), (rc 3, .inl (cI, 4, .inl (hh 3))), (mo, .inr (5, [.int (nI q), .int (nI g), .int (nI t), .int (nI r), .ref af, .ref ar, .ref at_, .ref aw, .ref am, .ref ap]))] _ _ := B
        refine W.eq (g2 := F0 m 96 ls [.int (nI (t + 1)), .int (nI (h + rl 4 k) - nI 1)]) rfl ?_
        refine z_callSN (wr := [(ru, .inr (7, [.ref mo, .ref rch, .ref rhe, .ref rst, .ref rce])), (af, .inl (cI, 8, .inl ff)), (ar, .inl (cI, 8, .inl fr)), (am, .inl (cI, 8, .inl fm)), (rhe, .inl (cI, 4, .inl fhe)), (rst, .inl (cI, 4, .inl fst)), (rce, .inl (cG, 4, .inr (.inr (.inr (.inr (fun i => some (rc i))))))), (rc 0, .inl (cI, 4, .inl (hh 0))), (rc 1, .inl (cI, 4, .inl (hh 1))), (rc 2, .inl (cI, 4, .inl (hh 2))), (rc 3, .inl (cI, 4, .inl (hh 3))), (mo, .inr (5, [.int (nI q), .int (nI g), .int (nI t), .int (nI r), .ref af, .ref ar, .ref at_, .ref aw, .ref am, .ref ap]))]) (rest := []) (As := [.int (nI (h + rl 4 k) - nI 1), .int (nI (t + 1))]) (host := RX7) F B (kX7_isIndex l D cI cZ cG cJ (nI (h + rl 4 k) - nI 1) (nI (t + 1))) hl.1 gX5_canUse_X7_isIndex_n82 nX5_canUse_X7_isIndex mX5_canUse_stX7_isIndex mX5_canUse_iyX7_isIndex rfl 2 yX5_canUse_X7_isIndex rfl [] [0, 1, 2, 3, 4, 5, 6, 7, 8, 9, 10, 11] rfl rfl rfl rfl (by decide) (Nat.le_of_ble_eq_true rfl) (Nat.le_of_ble_eq_true rfl) (Nat.le_of_ble_eq_true rfl) rfl dX5_canUse_96 (show 0 + 0 ≤ 0 by omega) (show 0 + 0 ≤ 0 by omega) (fun vv ww H locs hRR B => ?_)
        obtain ⟨r_1, rfl, rfl, hb_2⟩ := hRR
        have B : zB D (zT cI cZ cG cJ) A s.heap s [(ru, .inr (7, [.ref mo, .ref rch, .ref rhe, .ref rst, .ref rce])), (af, .inl (cI, 8, .inl ff)), (ar, .inl (cI, 8, .inl fr)), (am, .inl (cI, 8, .inl fm)), (rhe, .inl (cI, 4, .inl fhe)), (rst, .inl (cI, 4, .inl fst)), (rce, .inl (cG, 4, .inr (.inr (.inr (.inr (fun i => some (rc i))))))), (rc 0, .inl (cI, 4, .inl (hh 0))), (rc 1, .inl (cI, 4, .inl (hh 1))), (rc 2, .inl (cI, 4, .inl (hh 2))), (rc 3, .inl (cI, 4, .inl (hh 3))), (mo, .inr (5, [.int (nI q), .int (nI g), .int (nI t), .int (nI r), .ref af, .ref ar, .ref at_, .ref aw, .ref am, .ref ap]))] _ _ := B
        rcases hb_2 with ⟨hr1, hpT⟩ | ⟨hr1, hpT⟩ <;> subst hr1
        · refine W.eq (g2 := F0 m 99 ls [.int 1]) rfl ?_
          rw [htg, htn] at hpT
          refine lv_if_eq (tgt := 106) F.1 F.2.1 dX5_canUse_99 (by decide) (fun hq => absurd hq (by decide)) (fun _ => ?_)
          refine lv_iconst (v := (nI 1)) F.1 F.2.1 dX5_canUse_102 (by decide) ?_
          refine lv_goto (tgt := 107) F.1 F.2.1 dX5_canUse_103 (by decide) ?_
          exact z_zret F hr hlk B (Or.inr rfl) [0, 11, 1, 2, 3, 4, 5, 6, 7, 8, 9, 10] rfl (rfl) dX5_canUse_107 (by omega) (by omega) ⟨(nI 1), rfl, rfl, Or.inl ⟨rfl, by unfold zcan; omega⟩⟩
        · refine W.eq (g2 := F0 m 99 ls [.int 0]) rfl ?_
          rw [htg, htn] at hpT
          refine lv_if_eq (tgt := 106) F.1 F.2.1 dX5_canUse_99 (by decide) (fun _ => ?_) (fun hq => absurd (by decide) hq)
          refine lv_iconst (v := (nI 0)) F.1 F.2.1 dX5_canUse_106 (by decide) ?_
          exact z_zret F hr hlk B (Or.inl rfl) [0, 11, 1, 2, 3, 4, 5, 6, 7, 8, 9, 10] rfl (rfl) dX5_canUse_107 (by omega) (by omega) ⟨(nI 0), rfl, rfl, Or.inr ⟨rfl, by unfold zcan; omega⟩⟩
  · refine lv_aload_n F.1 F.2.1 dX5_canUse_11 rfl (lv_at hl 0 rfl) ?_
    refine z_get F B 0 rfl (ci := 7) (C := RX5) (T := TX5) (N := 5) rfl iX5_canUse_X5 3 (by decide) fX5_canUse_18 rfl dX5_canUse_12 ?_
    refine lv_iload_n F.1 F.2.1 dX5_canUse_15 rfl (lv_at hl 1 rfl) ?_
    refine z_iald F B 6 0 rfl rfl (j := i) (by omega) (by omega) dX5_canUse_16 ?_
    refine W.eq (g2 := F0 m 17 ls [.int (nI u)]) (by rw [hst]) ?_
    refine lv_aload_n F.1 F.2.1 dX5_canUse_17 rfl (lv_at hl 0 rfl) ?_
    refine z_get F B 0 rfl (ci := 7) (C := RX5) (T := TX5) (N := 5) rfl iX5_canUse_X5 0 (by decide) fX5_canUse_26 rfl dX5_canUse_18 ?_
    refine z_callV (wr := [(ru, .inr (7, [.ref mo, .ref rch, .ref rhe, .ref rst, .ref rce])), (af, .inl (cI, 8, .inl ff)), (ar, .inl (cI, 8, .inl fr)), (am, .inl (cI, 8, .inl fm)), (rhe, .inl (cI, 4, .inl fhe)), (rst, .inl (cI, 4, .inl fst)), (rce, .inl (cG, 4, .inr (.inr (.inr (.inr (fun i => some (rc i))))))), (rc 0, .inl (cI, 4, .inl (hh 0))), (rc 1, .inl (cI, 4, .inl (hh 1))), (rc 2, .inl (cI, 4, .inl (hh 2))), (rc 3, .inl (cI, 4, .inl (hh 3)))]) (rest := [.int (nI u)]) (As := []) F B (kX3_accept l D cI cZ cG cJ mo q g t r af ar at_ aw am ap (by omega)) hl.1 (C := RX3) (T := TX3) (N := 10) (ci := 5) (q0 := 1) gX5_canUse_X3_accept rfl 0 yX5_canUse_X3_accept rfl rfl rfl [1] [0, 2, 3, 4, 5, 6, 7, 8, 9, 10, 11] rfl rfl rfl rfl (by decide) (Nat.le_of_ble_eq_true rfl) (Nat.le_of_ble_eq_true rfl) (Nat.le_of_ble_eq_true rfl) rfl dX5_canUse_21 (show 0 + 0 ≤ 0 by omega) (show 0 + 0 ≤ 0 by omega) (fun vv ww H locs hRR B => ?_)
    obtain ⟨rfl, rfl⟩ := hRR
    have B : zB D (zT cI cZ cG cJ) A s.heap s [(ru, .inr (7, [.ref mo, .ref rch, .ref rhe, .ref rst, .ref rce])), (af, .inl (cI, 8, .inl ff)), (ar, .inl (cI, 8, .inl fr)), (am, .inl (cI, 8, .inl fm)), (rhe, .inl (cI, 4, .inl fhe)), (rst, .inl (cI, 4, .inl fst)), (rce, .inl (cG, 4, .inr (.inr (.inr (.inr (fun i => some (rc i))))))), (rc 0, .inl (cI, 4, .inl (hh 0))), (rc 1, .inl (cI, 4, .inl (hh 1))), (rc 2, .inl (cI, 4, .inl (hh 2))), (rc 3, .inl (cI, 4, .inl (hh 3))), (mo, .inr (5, [.int (nI q), .int (nI g), .int (nI t), .int (nI r), .ref af, .ref ar, .ref at_, .ref aw, .ref am, .ref ap]))] _ _ := B
    refine W.eq (g2 := F0 m 24 ls [.int (nI (q - 1)), .int (nI u)]) rfl ?_
    refine z_icmp_ne (tgt := 31) F (by omega) (by omega) dX5_canUse_24 (by decide) (fun c24 => ?_) (fun c24 => ?_)
    · refine lv_iconst (v := (nI 0)) F.1 F.2.1 dX5_canUse_31 (by decide) ?_
      exact z_zret F hr hlk B (Or.inl rfl) [0, 11, 1, 2, 3, 4, 5, 6, 7, 8, 9, 10] rfl (rfl) dX5_canUse_32 (by omega) (by omega) ⟨(nI 0), rfl, rfl, Or.inr ⟨rfl, by unfold zcan; omega⟩⟩
    · refine lv_iconst (v := (nI 1)) F.1 F.2.1 dX5_canUse_27 (by decide) ?_
      refine lv_goto (tgt := 32) F.1 F.2.1 dX5_canUse_28 (by decide) ?_
      exact z_zret F hr hlk B (Or.inr rfl) [0, 11, 1, 2, 3, 4, 5, 6, 7, 8, 9, 10] rfl (rfl) dX5_canUse_32 (by omega) (by omega) ⟨(nI 1), rfl, rfl, Or.inl ⟨rfl, by unfold zcan; omega⟩⟩
