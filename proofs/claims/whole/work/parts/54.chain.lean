/-! CONTRACTS of TourChain: unbuild, machine, rule, input, choice, truth, covers, city, literal, three, end, apart, count -/
theorem zF_lt2 {fl ft : Nat → Int32} {nl ns j cl : Nat} {Cs : List (List Nat)} (h : zF fl nl ft ns Cs) (hj : j < Cs.length) (hw : zW nl cl) : zlen Cs j < 2 ^ 31 := by
  by_cases e : 0 < zlen Cs j
  · have q := zF_lt h hj (i := zlen Cs j - 1) (by omega)
    have q2 := hw.2.1
    have q3 := hw.2.2
    omega
  · omega
theorem iX7_unbuild_X7 : ∀ w ∈ u_ws RX7 TX7 8, w ∈ wsX7_unbuild := by decide +kernel
theorem fX7_unbuild_59 : Cond.fieldLink RX7 59 "TourChain" "built" "Z" ∈ wsX7_unbuild := by decide +kernel
theorem fX7_unbuild_63 : Cond.fieldLink RX7 63 "TourChain" "solved" "Z" ∈ wsX7_unbuild := by decide +kernel
set_option maxHeartbeats 4000000 in
set_option maxRecDepth 100000 in
theorem kX7_unbuild (l : Launch) (D : va_G) (cI cZ cG cJ : ClassId) (xo : Nat) (mo : Nat) (ru : Nat) (fo : Nat) (go : Nat) (fd : Nat) (tr : Nat) (xb : Nat) (xs : Nat)  : zC l yX7_unbuild wsX7_unbuild 0 0 0 0 D (zT cI cZ cG cJ) [.ref xo] [(xo, .inr (9, [.ref mo, .ref ru, .ref fo, .ref go, .ref fd, .ref tr, .int (nI xb), .int (nI xs)]))] (fun (ov : Option Value) (ow : va_W) => ov = none ∧ ow = [(xo, .inr (9, [.ref mo, .ref ru, .ref fo, .ref go, .ref fd, .ref tr, .int (nI 0), .int (nI 0)]))]) := by
  refine zC.of (cc := cX7_unbuild) (maxL := 1) (ret := none) (by decide) rfl (Nat.le_of_ble_eq_true rfl) ?_
  intro p e s m below meth c A ls F hr hlk hnm B hl
  have hl : lv_has ls 1 [(0, .ref xo)] := hl
  refine lv_aload_n F.1 F.2.1 dX7_unbuild_0 rfl (lv_at hl 0 rfl) ?_
  refine lv_iconst (v := (nI 0)) F.1 F.2.1 dX7_unbuild_1 (by decide) ?_
  refine z_put F B 0 rfl (ci := 9) (C := RX7) (T := TX7) (N := 8) rfl iX7_unbuild_X7 tyX7 tyX7_ok nmX7 6 (by decide) fX7_unbuild_59 rfl (v := .int (nI 0)) (by decide) (by decide) (Nat.le_of_ble_eq_true rfl) dX7_unbuild_2 (fun H locs B => ?_)
  have B : zB D (zT cI cZ cG cJ) A s.heap s [(xo, .inr (9, [.ref mo, .ref ru, .ref fo, .ref go, .ref fd, .ref tr, .int (nI 0), .int (nI xs)]))] _ _ := B
  refine lv_aload_n F.1 F.2.1 dX7_unbuild_5 rfl (lv_at hl 0 rfl) ?_
  refine lv_iconst (v := (nI 0)) F.1 F.2.1 dX7_unbuild_6 (by decide) ?_
  refine z_put F B 0 rfl (ci := 9) (C := RX7) (T := TX7) (N := 8) rfl iX7_unbuild_X7 tyX7 tyX7_ok nmX7 7 (by decide) fX7_unbuild_63 rfl (v := .int (nI 0)) (by decide) (by decide) (Nat.le_of_ble_eq_true rfl) dX7_unbuild_7 (fun H locs B => ?_)
  have B : zB D (zT cI cZ cG cJ) A s.heap s [(xo, .inr (9, [.ref mo, .ref ru, .ref fo, .ref go, .ref fd, .ref tr, .int (nI 0), .int (nI 0)]))] _ _ := B
  exact z_vret F hr hlk B [0] rfl (rfl) dX7_unbuild_10 (by omega) (by omega) ⟨rfl, rfl⟩
theorem yX7_machine_X7_isBetween : yX7_isBetween.cls = RX7 ∧ yX7_isBetween.cls ≠ "java/lang/invoke/MethodHandle" ∧ yX7_isBetween.cls ≠ "java/lang/invoke/VarHandle" ∧ (parseMethodDescriptor yX7_isBetween.desc).map (fun d => d.parameters.length) = some 3 := by decide +kernel
theorem iX7_machine_X7 : ∀ w ∈ u_ws RX7 TX7 8, w ∈ wsX7_machine := by decide +kernel
theorem fX7_machine_10 : Cond.fieldLink RX7 10 "TourChain" "machine" "LTourChain$Machine;" ∈ wsX7_machine := by decide +kernel
theorem yX7_machine_X3_renew : yX3_renew.cls = RX3 ∧ yX3_renew.cls ≠ "java/lang/invoke/MethodHandle" ∧ yX3_renew.cls ≠ "java/lang/invoke/VarHandle" ∧ (parseMethodDescriptor yX3_renew.desc).map (fun d => d.parameters.length) = some 3 := by decide +kernel
theorem yX7_machine_X7_unbuild : yX7_unbuild.cls = RX7 ∧ yX7_unbuild.cls ≠ "java/lang/invoke/MethodHandle" ∧ yX7_unbuild.cls ≠ "java/lang/invoke/VarHandle" ∧ (parseMethodDescriptor yX7_unbuild.desc).map (fun d => d.parameters.length) = some 0 := by decide +kernel
set_option maxHeartbeats 4000000 in
set_option maxRecDepth 100000 in
theorem kX7_machine (l : Launch) (D : va_G) (cI cZ cG cJ : ClassId) (xo : Nat) (mo : Nat) (ru : Nat) (fo : Nat) (go : Nat) (fd : Nat) (tr : Nat) (xb : Nat) (xs : Nat) (q : Nat) (g : Nat) (t : Nat) (r : Nat) (af : Nat) (ar : Nat) (at_ : Nat) (aw : Nat) (am : Nat) (ap : Nat) (fp : Nat → Int32) (u1 : Int32) (u2 : Int32) (u3 : Int32)  : zC l yX7_machine wsX7_machine 2 46 0 0 D (zT cI cZ cG cJ) [.ref xo, .int u1, .int u2, .int u3] [(xo, .inr (9, [.ref mo, .ref ru, .ref fo, .ref go, .ref fd, .ref tr, .int (nI xb), .int (nI xs)])), (mo, .inr (5, [.int (nI q), .int (nI g), .int (nI t), .int (nI r), .ref af, .ref ar, .ref at_, .ref aw, .ref am, .ref ap])), (ap, .inl (cI, 4, .inl fp))] (fun (ov : Option Value) (ow : va_W) => ∃ rb : Int32, ∃ q' : Nat, ∃ g' : Nat, ∃ t' : Nat, ∃ r' : Nat, ∃ xb' : Nat, ∃ xs' : Nat, ∃ fp' : Nat → Int32, ov = some (.int rb) ∧ ow = [(xo, .inr (9, [.ref mo, .ref ru, .ref fo, .ref go, .ref fd, .ref tr, .int (nI xb'), .int (nI xs')])), (mo, .inr (5, [.int (nI q'), .int (nI g'), .int (nI t'), .int (nI r'), .ref af, .ref ar, .ref at_, .ref aw, .ref am, .ref ap])), (ap, .inl (cI, 4, .inl fp'))] ∧ ((rb = 1 ∧ (2 ≤ u1.toInt ∧ u1.toInt ≤ 3 ∧ 2 ≤ u2.toInt ∧ u2.toInt ≤ 3 ∧ 1 ≤ u3.toInt ∧ u3.toInt ≤ 3)) ∨ (rb = 0 ∧ ¬ (2 ≤ u1.toInt ∧ u1.toInt ≤ 3 ∧ 2 ≤ u2.toInt ∧ u2.toInt ≤ 3 ∧ 1 ≤ u3.toInt ∧ u3.toInt ≤ 3))) ∧ (((2 ≤ u1.toInt ∧ u1.toInt ≤ 3 ∧ 2 ≤ u2.toInt ∧ u2.toInt ≤ 3 ∧ 1 ≤ u3.toInt ∧ u3.toInt ≤ 3) ∧ q' = zn u1 ∧ g' = zn u2 ∧ t' = zn u3 ∧ r' = 0 ∧ xb' = 0 ∧ xs' = 0 ∧ fp' = zfill fp 0 4 0) ∨ (¬ (2 ≤ u1.toInt ∧ u1.toInt ≤ 3 ∧ 2 ≤ u2.toInt ∧ u2.toInt ≤ 3 ∧ 1 ≤ u3.toInt ∧ u3.toInt ≤ 3) ∧ q' = q ∧ g' = g ∧ t' = t ∧ r' = r ∧ xb' = xb ∧ xs' = xs ∧ fp' = fp))) := by
  refine zC.of (cc := cX7_machine) (maxL := 4) (ret := (some .boolean)) (by decide) rfl (Nat.le_of_ble_eq_true rfl) ?_
  intro p e s m below meth c A ls F hr hlk hnm B hl
  have hl : lv_has ls 4 [(0, .ref xo), (1, .int u1), (2, .int u2), (3, .int u3)] := hl
  have e1 : (nI 1).toInt = 1 := nI_toInt (by omega)
  have e2 : (nI 2).toInt = 2 := nI_toInt (by omega)
  have e3 : (nI 3).toInt = 3 := nI_toInt (by omega)
  refine lv_iconst (v := (nI 2)) F.1 F.2.1 dX7_machine_0 (by decide) ?_
  refine lv_iload_n F.1 F.2.1 dX7_machine_1 rfl (lv_at hl 1 rfl) ?_
  refine lv_iconst (v := (nI 3)) F.1 F.2.1 dX7_machine_2 (by decide) ?_
  refine z_callS (wr := [(xo, .inr (9, [.ref mo, .ref ru, .ref fo, .ref go, .ref fd, .ref tr, .int (nI xb), .int (nI xs)])), (mo, .inr (5, [.int (nI q), .int (nI g), .int (nI t), .int (nI r), .ref af, .ref ar, .ref at_, .ref aw, .ref am, .ref ap])), (ap, .inl (cI, 4, .inl fp))]) (rest := []) (As := [.int (nI 2), .int u1, .int (nI 3)]) F B (kX7_isBetween l D cI cZ cG cJ (nI 2) u1 (nI 3)) hl.1 gX7_machine_X7_isBetween rfl 3 yX7_machine_X7_isBetween rfl [] [0, 1, 2] rfl rfl rfl rfl (by decide) (Nat.le_of_ble_eq_true rfl) (Nat.le_of_ble_eq_true rfl) (Nat.le_of_ble_eq_true rfl) rfl dX7_machine_3 (show 0 + 0 ≤ 0 by omega) (show 0 + 0 ≤ 0 by omega) (fun vv ww H locs hRR B => ?_)
  obtain ⟨r_1, rfl, rfl, hb_2⟩ := hRR
  have B : zB D (zT cI cZ cG cJ) A s.heap s [(xo, .inr (9, [.ref mo, .ref ru, .ref fo, .ref go, .ref fd, .ref tr, .int (nI xb), .int (nI xs)])), (mo, .inr (5, [.int (nI q), .int (nI g), .int (nI t), .int (nI r), .ref af, .ref ar, .ref at_, .ref aw, .ref am, .ref ap])), (ap, .inl (cI, 4, .inl fp))] _ _ := B
  rcases hb_2 with ⟨hr1, g1⟩ | ⟨hr1, g1⟩ <;> subst hr1
  · refine W.eq (g2 := F0 m 6 ls [.int 1]) rfl ?_
    refine lv_if_eq (tgt := 27) F.1 F.2.1 dX7_machine_6 (by decide) (fun hq => absurd hq (by decide)) (fun _ => ?_)
    refine lv_iconst (v := (nI 2)) F.1 F.2.1 dX7_machine_9 (by decide) ?_
    refine lv_iload_n F.1 F.2.1 dX7_machine_10 rfl (lv_at hl 2 rfl) ?_
    refine lv_iconst (v := (nI 3)) F.1 F.2.1 dX7_machine_11 (by decide) ?_
    refine z_callS (wr := [(xo, .inr (9, [.ref mo, .ref ru, .ref fo, .ref go, .ref fd, .ref tr, .int (nI xb), .int (nI xs)])), (mo, .inr (5, [.int (nI q), .int (nI g), .int (nI t), .int (nI r), .ref af, .ref ar, .ref at_, .ref aw, .ref am, .ref ap])), (ap, .inl (cI, 4, .inl fp))]) (rest := []) (As := [.int (nI 2), .int u2, .int (nI 3)]) F B (kX7_isBetween l D cI cZ cG cJ (nI 2) u2 (nI 3)) hl.1 gX7_machine_X7_isBetween rfl 3 yX7_machine_X7_isBetween rfl [] [0, 1, 2] rfl rfl rfl rfl (by decide) (Nat.le_of_ble_eq_true rfl) (Nat.le_of_ble_eq_true rfl) (Nat.le_of_ble_eq_true rfl) rfl dX7_machine_12 (show 0 + 0 ≤ 0 by omega) (show 0 + 0 ≤ 0 by omega) (fun vv ww H locs hRR B => ?_)
    obtain ⟨r_3, rfl, rfl, hb_4⟩ := hRR
    have B : zB D (zT cI cZ cG cJ) A s.heap s [(xo, .inr (9, [.ref mo, .ref ru, .ref fo, .ref go, .ref fd, .ref tr, .int (nI xb), .int (nI xs)])), (mo, .inr (5, [.int (nI q), .int (nI g), .int (nI t), .int (nI r), .ref af, .ref ar, .ref at_, .ref aw, .ref am, .ref ap])), (ap, .inl (cI, 4, .inl fp))] _ _ := B
    rcases hb_4 with ⟨hr1, g2⟩ | ⟨hr1, g2⟩ <;> subst hr1
    · refine W.eq (g2 := F0 m 15 ls [.int 1]) rfl ?_
      refine lv_if_eq (tgt := 27) F.1 F.2.1 dX7_machine_15 (by decide) (fun hq => absurd hq (by decide)) (fun _ => ?_)
      refine lv_iconst (v := (nI 1)) F.1 F.2.1 dX7_machine_18 (by decide) ?_
      refine lv_iload_n F.1 F.2.1 dX7_machine_19 rfl (lv_at hl 3 rfl) ?_
      refine lv_iconst (v := (nI 3)) F.1 F.2.1 dX7_machine_20 (by decide) ?_
      refine z_callS (wr := [(xo, .inr (9, [.ref mo, .ref ru, .ref fo, .ref go, .ref fd, .ref tr, .int (nI xb), .int (nI xs)])), (mo, .inr (5, [.int (nI q), .int (nI g), .int (nI t), .int (nI r), .ref af, .ref ar, .ref at_, .ref aw, .ref am, .ref ap])), (ap, .inl (cI, 4, .inl fp))]) (rest := []) (As := [.int (nI 1), .int u3, .int (nI 3)]) F B (kX7_isBetween l D cI cZ cG cJ (nI 1) u3 (nI 3)) hl.1 gX7_machine_X7_isBetween rfl 3 yX7_machine_X7_isBetween rfl [] [0, 1, 2] rfl rfl rfl rfl (by decide) (Nat.le_of_ble_eq_true rfl) (Nat.le_of_ble_eq_true rfl) (Nat.le_of_ble_eq_true rfl) rfl dX7_machine_21 (show 0 + 0 ≤ 0 by omega) (show 0 + 0 ≤ 0 by omega) (fun vv ww H locs hRR B => ?_)
      obtain ⟨r_5, rfl, rfl, hb_6⟩ := hRR
      have B : zB D (zT cI cZ cG cJ) A s.heap s [(xo, .inr (9, [.ref mo, .ref ru, .ref fo, .ref go, .ref fd, .ref tr, .int (nI xb), .int (nI xs)])), (mo, .inr (5, [.int (nI q), .int (nI g), .int (nI t), .int (nI r), .ref af, .ref ar, .ref at_, .ref aw, .ref am, .ref ap])), (ap, .inl (cI, 4, .inl fp))] _ _ := B
      rcases hb_6 with ⟨hr1, g3⟩ | ⟨hr1, g3⟩ <;> subst hr1
      · refine W.eq (g2 := F0 m 24 ls [.int 1]) rfl ?_
        have d1 := zn_eq (a := u1) (by omega)
        have d2 := zn_eq (a := u2) (by omega)
        have d3 := zn_eq (a := u3) (by omega)
        rw [d1, d2, d3] at hl
        have hl : lv_has ls 4 [(0, .ref xo), (1, .int (nI (zn u1))), (2, .int (nI (zn u2))), (3, .int (nI (zn u3)))] := hl
        refine lv_if_ne (tgt := 29) F.1 F.2.1 dX7_machine_24 (by decide) (fun _ => ?_) (fun hq => absurd hq (by decide))
        refine lv_aload_n F.1 F.2.1 dX7_machine_29 rfl (lv_at hl 0 rfl) ?_
        refine z_get F B 0 rfl (ci := 9) (C := RX7) (T := TX7) (N := 8) rfl iX7_machine_X7 0 (by decide) fX7_machine_10 rfl dX7_machine_30 ?_
        refine lv_iload_n F.1 F.2.1 dX7_machine_33 rfl (lv_at hl 1 rfl) ?_
        refine lv_iload_n F.1 F.2.1 dX7_machine_34 rfl (lv_at hl 2 rfl) ?_
        refine lv_iload_n F.1 F.2.1 dX7_machine_35 rfl (lv_at hl 3 rfl) ?_
        refine z_callV (wr := [(xo, .inr (9, [.ref mo, .ref ru, .ref fo, .ref go, .ref fd, .ref tr, .int (nI xb), .int (nI xs)]))]) (rest := []) (As := [.int (nI (zn u1)), .int (nI (zn u2)), .int (nI (zn u3))]) F B (kX3_renew l D cI cZ cG cJ mo (nI q) (nI g) (nI t) (nI r) af ar at_ aw am ap fp (zn u1) (zn u2) (zn u3)) hl.1 (C := RX3) (T := TX3) (N := 10) (ci := 5) (q0 := 1) gX7_machine_X3_renew rfl 3 yX7_machine_X3_renew rfl rfl rfl [1, 2] [0] rfl rfl rfl rfl (by decide) (Nat.le_of_ble_eq_true rfl) (Nat.le_of_ble_eq_true rfl) (Nat.le_of_ble_eq_true rfl) rfl dX7_machine_36 (show 0 + 0 ≤ 0 by omega) (show 0 + 0 ≤ 0 by omega) (fun vv ww H locs hRR B => ?_)
        obtain ⟨rfl, rfl⟩ := hRR
        have B : zB D (zT cI cZ cG cJ) A s.heap s [(xo, .inr (9, [.ref mo, .ref ru, .ref fo, .ref go, .ref fd, .ref tr, .int (nI xb), .int (nI xs)])), (mo, .inr (5, [.int (nI (zn u1)), .int (nI (zn u2)), .int (nI (zn u3)), .int (nI 0), .ref af, .ref ar, .ref at_, .ref aw, .ref am, .ref ap])), (ap, .inl (cI, 4, .inl (zfill fp 0 4 0)))] _ _ := B
        refine W.eq (g2 := F0 m 39 ls []) rfl ?_
        refine lv_aload_n F.1 F.2.1 dX7_machine_39 rfl (lv_at hl 0 rfl) ?_
        refine z_callV (wr := [(mo, .inr (5, [.int (nI (zn u1)), .int (nI (zn u2)), .int (nI (zn u3)), .int (nI 0), .ref af, .ref ar, .ref at_, .ref aw, .ref am, .ref ap])), (ap, .inl (cI, 4, .inl (zfill fp 0 4 0)))]) (rest := []) (As := []) F B (kX7_unbuild l D cI cZ cG cJ xo mo ru fo go fd tr xb xs) hl.1 (C := RX7) (T := TX7) (N := 8) (ci := 9) (q0 := 0) gX7_machine_X7_unbuild rfl 0 yX7_machine_X7_unbuild rfl rfl rfl [0] [1, 2] rfl rfl rfl rfl (by decide) (Nat.le_of_ble_eq_true rfl) (Nat.le_of_ble_eq_true rfl) (Nat.le_of_ble_eq_true rfl) rfl dX7_machine_40 (show 0 + 0 ≤ 0 by omega) (show 0 + 0 ≤ 0 by omega) (fun vv ww H locs hRR B => ?_)
        obtain ⟨rfl, rfl⟩ := hRR
        have B : zB D (zT cI cZ cG cJ) A s.heap s [(mo, .inr (5, [.int (nI (zn u1)), .int (nI (zn u2)), .int (nI (zn u3)), .int (nI 0), .ref af, .ref ar, .ref at_, .ref aw, .ref am, .ref ap])), (ap, .inl (cI, 4, .inl (zfill fp 0 4 0))), (xo, .inr (9, [.ref mo, .ref ru, .ref fo, .ref go, .ref fd, .ref tr, .int (nI 0), .int (nI 0)]))] _ _ := B
        refine W.eq (g2 := F0 m 43 ls []) rfl ?_
        refine lv_iconst (v := (nI 1)) F.1 F.2.1 dX7_machine_43 (by decide) ?_
        exact z_zret F hr hlk B (Or.inr rfl) [2, 0, 1] rfl (rfl) dX7_machine_44 (by omega) (by omega) ⟨(nI 1), (zn u1), (zn u2), (zn u3), 0, 0, 0, (zfill fp 0 4 0), rfl, rfl, Or.inl ⟨rfl, by omega⟩, (Or.inl ⟨by omega, rfl, rfl, rfl, rfl, rfl, rfl, rfl⟩)⟩
      · refine W.eq (g2 := F0 m 24 ls [.int 0]) rfl ?_
        refine lv_if_ne (tgt := 29) F.1 F.2.1 dX7_machine_24 (by decide) (fun hq => absurd (by decide) hq) (fun _ => ?_)
        refine lv_iconst (v := (nI 0)) F.1 F.2.1 dX7_machine_27 (by decide) ?_
        exact z_zret F hr hlk B (Or.inl rfl) [0, 1, 2] rfl (rfl) dX7_machine_28 (by omega) (by omega) ⟨(nI 0), q, g, t, r, xb, xs, fp, rfl, rfl, Or.inr ⟨rfl, by omega⟩, (Or.inr ⟨by omega, rfl, rfl, rfl, rfl, rfl, rfl, rfl⟩)⟩
    · refine W.eq (g2 := F0 m 15 ls [.int 0]) rfl ?_
      refine lv_if_eq (tgt := 27) F.1 F.2.1 dX7_machine_15 (by decide) (fun _ => ?_) (fun hq => absurd (by decide) hq)
      refine lv_iconst (v := (nI 0)) F.1 F.2.1 dX7_machine_27 (by decide) ?_
      exact z_zret F hr hlk B (Or.inl rfl) [0, 1, 2] rfl (rfl) dX7_machine_28 (by omega) (by omega) ⟨(nI 0), q, g, t, r, xb, xs, fp, rfl, rfl, Or.inr ⟨rfl, by omega⟩, (Or.inr ⟨by omega, rfl, rfl, rfl, rfl, rfl, rfl, rfl⟩)⟩
  · refine W.eq (g2 := F0 m 6 ls [.int 0]) rfl ?_
    refine lv_if_eq (tgt := 27) F.1 F.2.1 dX7_machine_6 (by decide) (fun _ => ?_) (fun hq => absurd (by decide) hq)
    refine lv_iconst (v := (nI 0)) F.1 F.2.1 dX7_machine_27 (by decide) ?_
    exact z_zret F hr hlk B (Or.inl rfl) [0, 1, 2] rfl (rfl) dX7_machine_28 (by omega) (by omega) ⟨(nI 0), q, g, t, r, xb, xs, fp, rfl, rfl, Or.inr ⟨rfl, by omega⟩, (Or.inr ⟨by omega, rfl, rfl, rfl, rfl, rfl, rfl, rfl⟩)⟩
theorem iX7_rule_X7 : ∀ w ∈ u_ws RX7 TX7 8, w ∈ wsX7_rule := by decide +kernel
theorem fX7_rule_10 : Cond.fieldLink RX7 10 "TourChain" "machine" "LTourChain$Machine;" ∈ wsX7_rule := by decide +kernel
theorem iX7_rule_X3 : ∀ w ∈ u_ws RX3 TX3 10, w ∈ wsX7_rule := by decide +kernel
theorem fX7_rule_77 : Cond.fieldLink RX7 77 "TourChain$Machine" "rules" "I" ∈ wsX7_rule := by decide +kernel
theorem yX7_rule_X3_isRule : yX3_isRule.cls = RX3 ∧ yX3_isRule.cls ≠ "java/lang/invoke/MethodHandle" ∧ yX3_isRule.cls ≠ "java/lang/invoke/VarHandle" ∧ (parseMethodDescriptor yX3_isRule.desc).map (fun d => d.parameters.length) = some 5 := by decide +kernel
theorem yX7_rule_X7_unbuild : yX7_unbuild.cls = RX7 ∧ yX7_unbuild.cls ≠ "java/lang/invoke/MethodHandle" ∧ yX7_unbuild.cls ≠ "java/lang/invoke/VarHandle" ∧ (parseMethodDescriptor yX7_unbuild.desc).map (fun d => d.parameters.length) = some 0 := by decide +kernel
theorem yX7_rule_X3_addRule : yX3_addRule.cls = RX3 ∧ yX3_addRule.cls ≠ "java/lang/invoke/MethodHandle" ∧ yX3_addRule.cls ≠ "java/lang/invoke/VarHandle" ∧ (parseMethodDescriptor yX3_addRule.desc).map (fun d => d.parameters.length) = some 5 := by decide +kernel
set_option maxHeartbeats 4000000 in
set_option maxRecDepth 100000 in
theorem kX7_rule (l : Launch) (D : va_G) (cI cZ cG cJ : ClassId) (xo : Nat) (mo : Nat) (ru : Nat) (fo : Nat) (go : Nat) (fd : Nat) (tr : Nat) (xb : Nat) (xs : Nat) (q : Nat) (g : Nat) (t : Nat) (r : Nat) (af : Nat) (ar : Nat) (at_ : Nat) (aw : Nat) (am : Nat) (ap : Nat) (ff : Nat → Int32) (fr : Nat → Int32) (fto : Nat → Int32) (fw : Nat → Int32) (fm : Nat → Int32) (u1 : Int32) (u2 : Int32) (u3 : Int32) (u4 : Int32) (u5 : Int32) (hq1 : 1 ≤ q) (hq : q ≤ 3) (hg : g ≤ 3) (hr8 : r ≤ 8) : zC l yX7_rule wsX7_rule 2 46 0 0 D (zT cI cZ cG cJ) [.ref xo, .int u1, .int u2, .int u3, .int u4, .int u5] [(xo, .inr (9, [.ref mo, .ref ru, .ref fo, .ref go, .ref fd, .ref tr, .int (nI xb), .int (nI xs)])), (mo, .inr (5, [.int (nI q), .int (nI g), .int (nI t), .int (nI r), .ref af, .ref ar, .ref at_, .ref aw, .ref am, .ref ap])), (af, .inl (cI, 8, .inl ff)), (ar, .inl (cI, 8, .inl fr)), (at_, .inl (cI, 8, .inl fto)), (aw, .inl (cI, 8, .inl fw)), (am, .inl (cI, 8, .inl fm))] (fun (ov : Option Value) (ow : va_W) => ∃ r' : Nat, ∃ xb' : Nat, ∃ xs' : Nat, ∃ ff' : Nat → Int32, ∃ fr' : Nat → Int32, ∃ fto' : Nat → Int32, ∃ fw' : Nat → Int32, ∃ fm' : Nat → Int32, ov = some (.int (zif (r < 8 ∧ 0 ≤ u1.toInt ∧ u1.toInt < ((q - 1 : Nat) : Int) ∧ 0 ≤ u2.toInt ∧ u2.toInt < (g : Int) ∧ 0 ≤ u3.toInt ∧ u3.toInt < (q : Int) ∧ 0 ≤ u4.toInt ∧ u4.toInt < (g : Int) ∧ 0 ≤ u5.toInt ∧ u5.toInt < 3) (nI r) (-1))) ∧ ow = [(xo, .inr (9, [.ref mo, .ref ru, .ref fo, .ref go, .ref fd, .ref tr, .int (nI xb'), .int (nI xs')])), (mo, .inr (5, [.int (nI q), .int (nI g), .int (nI t), .int (nI r'), .ref af, .ref ar, .ref at_, .ref aw, .ref am, .ref ap])), (af, .inl (cI, 8, .inl ff')), (ar, .inl (cI, 8, .inl fr')), (at_, .inl (cI, 8, .inl fto')), (aw, .inl (cI, 8, .inl fw')), (am, .inl (cI, 8, .inl fm'))] ∧ (((r < 8 ∧ 0 ≤ u1.toInt ∧ u1.toInt < ((q - 1 : Nat) : Int) ∧ 0 ≤ u2.toInt ∧ u2.toInt < (g : Int) ∧ 0 ≤ u3.toInt ∧ u3.toInt < (q : Int) ∧ 0 ≤ u4.toInt ∧ u4.toInt < (g : Int) ∧ 0 ≤ u5.toInt ∧ u5.toInt < 3) ∧ r' = r + 1 ∧ xb' = 0 ∧ xs' = 0 ∧ ff' = upd ff r u1 ∧ fr' = upd fr r u2 ∧ fto' = upd fto r u3 ∧ fw' = upd fw r u4 ∧ fm' = upd fm r (u5 - nI 1)) ∨ (¬ (r < 8 ∧ 0 ≤ u1.toInt ∧ u1.toInt < ((q - 1 : Nat) : Int) ∧ 0 ≤ u2.toInt ∧ u2.toInt < (g : Int) ∧ 0 ≤ u3.toInt ∧ u3.toInt < (q : Int) ∧ 0 ≤ u4.toInt ∧ u4.toInt < (g : Int) ∧ 0 ≤ u5.toInt ∧ u5.toInt < 3) ∧ r' = r ∧ xb' = xb ∧ xs' = xs ∧ ff' = ff ∧ fr' = fr ∧ fto' = fto ∧ fw' = fw ∧ fm' = fm))) := by
  refine zC.of (cc := cX7_rule) (maxL := 6) (ret := (some .int)) (by decide) rfl (Nat.le_of_ble_eq_true rfl) ?_
  intro p e s m below meth c A ls F hr hlk hnm B hl
  have hl : lv_has ls 6 [(0, .ref xo), (1, .int u1), (2, .int u2), (3, .int u3), (4, .int u4), (5, .int u5)] := hl
  refine lv_aload_n F.1 F.2.1 dX7_rule_0 rfl (lv_at hl 0 rfl) ?_
  refine z_get F B 0 rfl (ci := 9) (C := RX7) (T := TX7) (N := 8) rfl iX7_rule_X7 0 (by decide) fX7_rule_10 rfl dX7_rule_1 ?_
  refine z_get F B 1 rfl (ci := 5) (C := RX3) (T := TX3) (N := 10) rfl iX7_rule_X3 3 (by decide) fX7_rule_77 rfl dX7_rule_4 ?_
  refine lv_bipush (v := (nI 8)) F.1 F.2.1 dX7_rule_7 (by decide) ?_
  refine z_icmp_ge (tgt := 29) F (by omega) (by omega) dX7_rule_9 (by decide) (fun c9 => ?_) (fun c9 => ?_)
  · refine lv_iconst (v := (-1)) F.1 F.2.1 dX7_rule_29 (by decide) ?_
    exact z_iret F hr hlk B [0, 1, 2, 3, 4, 5, 6] rfl (rfl) dX7_rule_30 (by omega) (by omega) ⟨r, xb, xs, ff, fr, fto, fw, fm, by rw [zif_f (by omega)], rfl, (Or.inr ⟨by omega, rfl, rfl, rfl, rfl, rfl, rfl, rfl, rfl⟩)⟩
  · refine lv_aload_n F.1 F.2.1 dX7_rule_12 rfl (lv_at hl 0 rfl) ?_
    refine z_get F B 0 rfl (ci := 9) (C := RX7) (T := TX7) (N := 8) rfl iX7_rule_X7 0 (by decide) fX7_rule_10 rfl dX7_rule_13 ?_
    refine lv_iload_n F.1 F.2.1 dX7_rule_16 rfl (lv_at hl 1 rfl) ?_
    refine lv_iload_n F.1 F.2.1 dX7_rule_17 rfl (lv_at hl 2 rfl) ?_
    refine lv_iload_n F.1 F.2.1 dX7_rule_18 rfl (lv_at hl 3 rfl) ?_
    refine lv_iload F.1 F.2.1 dX7_rule_19 (lv_at hl 4 rfl) ?_
    refine lv_iload F.1 F.2.1 dX7_rule_21 (lv_at hl 5 rfl) ?_
    refine z_callV (wr := [(xo, .inr (9, [.ref mo, .ref ru, .ref fo, .ref go, .ref fd, .ref tr, .int (nI xb), .int (nI xs)])), (af, .inl (cI, 8, .inl ff)), (ar, .inl (cI, 8, .inl fr)), (at_, .inl (cI, 8, .inl fto)), (aw, .inl (cI, 8, .inl fw)), (am, .inl (cI, 8, .inl fm))]) (rest := []) (As := [.int u1, .int u2, .int u3, .int u4, .int u5]) F B (kX3_isRule l D cI cZ cG cJ mo q g t r af ar at_ aw am ap u1 u2 u3 u4 u5 (by omega) (by omega) (by omega)) hl.1 (C := RX3) (T := TX3) (N := 10) (ci := 5) (q0 := 1) gX7_rule_X3_isRule rfl 5 yX7_rule_X3_isRule rfl rfl rfl [1] [0, 2, 3, 4, 5, 6] rfl rfl rfl rfl (by decide) (Nat.le_of_ble_eq_true rfl) (Nat.le_of_ble_eq_true rfl) (Nat.le_of_ble_eq_true rfl) rfl dX7_rule_23 (show 0 + 0 ≤ 0 by omega) (show 0 + 0 ≤ 0 by omega) (fun vv ww H locs hRR B => ?_)
    obtain ⟨r_1, rfl, rfl, hb_2⟩ := hRR
    have B : zB D (zT cI cZ cG cJ) A s.heap s [(xo, .inr (9, [.ref mo, .ref ru, .ref fo, .ref go, .ref fd, .ref tr, .int (nI xb), .int (nI xs)])), (af, .inl (cI, 8, .inl ff)), (ar, .inl (cI, 8, .inl fr)), (at_, .inl (cI, 8, .inl fto)), (aw, .inl (cI, 8, .inl fw)), (am, .inl (cI, 8, .inl fm)), (mo, .inr (5, [.int (nI q), .int (nI g), .int (nI t), .int (nI r), .ref af, .ref ar, .ref at_, .ref aw, .ref am, .ref ap]))] _ _ := B
    rcases hb_2 with ⟨hr1, g1⟩ | ⟨hr1, g1⟩ <;> subst hr1
    · refine W.eq (g2 := F0 m 26 ls [.int 1]) rfl ?_
      refine lv_if_ne (tgt := 31) F.1 F.2.1 dX7_rule_26 (by decide) (fun _ => ?_) (fun hq => absurd hq (by decide))
      refine lv_aload_n F.1 F.2.1 dX7_rule_31 rfl (lv_at hl 0 rfl) ?_
      refine z_callV (wr := [(af, .inl (cI, 8, .inl ff)), (ar, .inl (cI, 8, .inl fr)), (at_, .inl (cI, 8, .inl fto)), (aw, .inl (cI, 8, .inl fw)), (am, .inl (cI, 8, .inl fm)), (mo, .inr (5, [.int (nI q), .int (nI g), .int (nI t), .int (nI r), .ref af, .ref ar, .ref at_, .ref aw, .ref am, .ref ap]))]) (rest := []) (As := []) F B (kX7_unbuild l D cI cZ cG cJ xo mo ru fo go fd tr xb xs) hl.1 (C := RX7) (T := TX7) (N := 8) (ci := 9) (q0 := 0) gX7_rule_X7_unbuild rfl 0 yX7_rule_X7_unbuild rfl rfl rfl [0] [1, 2, 3, 4, 5, 6] rfl rfl rfl rfl (by decide) (Nat.le_of_ble_eq_true rfl) (Nat.le_of_ble_eq_true rfl) (Nat.le_of_ble_eq_true rfl) rfl dX7_rule_32 (show 0 + 0 ≤ 0 by omega) (show 0 + 0 ≤ 0 by omega) (fun vv ww H locs hRR B => ?_)
      obtain ⟨rfl, rfl⟩ := hRR
      have B : zB D (zT cI cZ cG cJ) A s.heap s [(af, .inl (cI, 8, .inl ff)), (ar, .inl (cI, 8, .inl fr)), (at_, .inl (cI, 8, .inl fto)), (aw, .inl (cI, 8, .inl fw)), (am, .inl (cI, 8, .inl fm)), (mo, .inr (5, [.int (nI q), .int (nI g), .int (nI t), .int (nI r), .ref af, .ref ar, .ref at_, .ref aw, .ref am, .ref ap])), (xo, .inr (9, [.ref mo, .ref ru, .ref fo, .ref go, .ref fd, .ref tr, .int (nI 0), .int (nI 0)]))] _ _ := B
      refine W.eq (g2 := F0 m 35 ls []) rfl ?_
      refine lv_aload_n F.1 F.2.1 dX7_rule_35 rfl (lv_at hl 0 rfl) ?_
      refine z_get F B 6 rfl (ci := 9) (C := RX7) (T := TX7) (N := 8) rfl iX7_rule_X7 0 (by decide) fX7_rule_10 rfl dX7_rule_36 ?_
      refine lv_iload_n F.1 F.2.1 dX7_rule_39 rfl (lv_at hl 1 rfl) ?_
      refine lv_iload_n F.1 F.2.1 dX7_rule_40 rfl (lv_at hl 2 rfl) ?_
      refine lv_iload_n F.1 F.2.1 dX7_rule_41 rfl (lv_at hl 3 rfl) ?_
      refine lv_iload F.1 F.2.1 dX7_rule_42 (lv_at hl 4 rfl) ?_
      refine lv_iload F.1 F.2.1 dX7_rule_44 (lv_at hl 5 rfl) ?_
      refine z_callV (wr := [(xo, .inr (9, [.ref mo, .ref ru, .ref fo, .ref go, .ref fd, .ref tr, .int (nI 0), .int (nI 0)]))]) (rest := []) (As := [.int u1, .int u2, .int u3, .int u4, .int u5]) F B (kX3_addRule l D cI cZ cG cJ mo q g t r af ar at_ aw am ap ff fr fto fw fm u1 u2 u3 u4 u5 (by omega)) hl.1 (C := RX3) (T := TX3) (N := 10) (ci := 5) (q0 := 5) gX7_rule_X3_addRule rfl 5 yX7_rule_X3_addRule rfl rfl rfl [5, 0, 1, 2, 3, 4] [6] rfl rfl rfl rfl (by decide) (Nat.le_of_ble_eq_true rfl) (Nat.le_of_ble_eq_true rfl) (Nat.le_of_ble_eq_true rfl) rfl dX7_rule_46 (show 0 + 0 ≤ 0 by omega) (show 0 + 0 ≤ 0 by omega) (fun vv ww H locs hRR B => ?_)
      obtain ⟨rfl, rfl⟩ := hRR
      have B : zB D (zT cI cZ cG cJ) A s.heap s [(xo, .inr (9, [.ref mo, .ref ru, .ref fo, .ref go, .ref fd, .ref tr, .int (nI 0), .int (nI 0)])), (mo, .inr (5, [.int (nI q), .int (nI g), .int (nI t), .int (nI (r + 1)), .ref af, .ref ar, .ref at_, .ref aw, .ref am, .ref ap])), (af, .inl (cI, 8, .inl (upd ff r u1))), (ar, .inl (cI, 8, .inl (upd fr r u2))), (at_, .inl (cI, 8, .inl (upd fto r u3))), (aw, .inl (cI, 8, .inl (upd fw r u4))), (am, .inl (cI, 8, .inl (upd fm r (u5 - nI 1))))] _ _ := B
      refine W.eq (g2 := F0 m 49 ls [.int (nI r)]) rfl ?_
      exact z_iret F hr hlk B [0, 1, 2, 3, 4, 5, 6] rfl (rfl) dX7_rule_49 (by omega) (by omega) ⟨(r + 1), 0, 0, (upd ff r u1), (upd fr r u2), (upd fto r u3), (upd fw r u4), (upd fm r (u5 - nI 1)), by rw [zif_t (by omega)], rfl, (Or.inl ⟨by omega, rfl, rfl, rfl, rfl, rfl, rfl, rfl, rfl⟩)⟩
    · refine W.eq (g2 := F0 m 26 ls [.int 0]) rfl ?_
      refine lv_if_ne (tgt := 31) F.1 F.2.1 dX7_rule_26 (by decide) (fun hq => absurd (by decide) hq) (fun _ => ?_)
      refine lv_iconst (v := (-1)) F.1 F.2.1 dX7_rule_29 (by decide) ?_
      exact z_iret F hr hlk B [0, 6, 1, 2, 3, 4, 5] rfl (rfl) dX7_rule_30 (by omega) (by omega) ⟨r, xb, xs, ff, fr, fto, fw, fm, by rw [zif_f (by omega)], rfl, (Or.inr ⟨by omega, rfl, rfl, rfl, rfl, rfl, rfl, rfl, rfl⟩)⟩
theorem iX7_input_X7 : ∀ w ∈ u_ws RX7 TX7 8, w ∈ wsX7_input := by decide +kernel
theorem fX7_input_10 : Cond.fieldLink RX7 10 "TourChain" "machine" "LTourChain$Machine;" ∈ wsX7_input := by decide +kernel
theorem yX7_input_X3_cells : yX3_cells.cls = RX3 ∧ yX3_cells.cls ≠ "java/lang/invoke/MethodHandle" ∧ yX3_cells.cls ≠ "java/lang/invoke/VarHandle" ∧ (parseMethodDescriptor yX3_cells.desc).map (fun d => d.parameters.length) = some 0 := by decide +kernel
theorem yX7_input_X7_isIndex : yX7_isIndex.cls = RX7 ∧ yX7_isIndex.cls ≠ "java/lang/invoke/MethodHandle" ∧ yX7_isIndex.cls ≠ "java/lang/invoke/VarHandle" ∧ (parseMethodDescriptor yX7_isIndex.desc).map (fun d => d.parameters.length) = some 2 := by decide +kernel
theorem iX7_input_X3 : ∀ w ∈ u_ws RX3 TX3 10, w ∈ wsX7_input := by decide +kernel
theorem fX7_input_97 : Cond.fieldLink RX7 97 "TourChain$Machine" "symbols" "I" ∈ wsX7_input := by decide +kernel
theorem fX7_input_100 : Cond.fieldLink RX7 100 "TourChain$Machine" "tape" "[I" ∈ wsX7_input := by decide +kernel
theorem yX7_input_X7_unbuild : yX7_unbuild.cls = RX7 ∧ yX7_unbuild.cls ≠ "java/lang/invoke/MethodHandle" ∧ yX7_unbuild.cls ≠ "java/lang/invoke/VarHandle" ∧ (parseMethodDescriptor yX7_unbuild.desc).map (fun d => d.parameters.length) = some 0 := by decide +kernel
set_option maxHeartbeats 4000000 in
set_option maxRecDepth 100000 in
theorem kX7_input (l : Launch) (D : va_G) (cI cZ cG cJ : ClassId) (xo : Nat) (mo : Nat) (ru : Nat) (fo : Nat) (go : Nat) (fd : Nat) (tr : Nat) (xb : Nat) (xs : Nat) (q : Nat) (g : Nat) (t : Nat) (r : Nat) (af : Nat) (ar : Nat) (at_ : Nat) (aw : Nat) (am : Nat) (ap : Nat) (fp : Nat → Int32) (u1 : Int32) (u2 : Int32) (ht : t ≤ 3) (hg : g ≤ 3) : zC l yX7_input wsX7_input 1 21 0 0 D (zT cI cZ cG cJ) [.ref xo, .int u1, .int u2] [(xo, .inr (9, [.ref mo, .ref ru, .ref fo, .ref go, .ref fd, .ref tr, .int (nI xb), .int (nI xs)])), (mo, .inr (5, [.int (nI q), .int (nI g), .int (nI t), .int (nI r), .ref af, .ref ar, .ref at_, .ref aw, .ref am, .ref ap])), (ap, .inl (cI, 4, .inl fp))] (fun (ov : Option Value) (ow : va_W) => ∃ rb : Int32, ∃ xb' : Nat, ∃ xs' : Nat, ∃ fp' : Nat → Int32, ov = some (.int rb) ∧ ow = [(xo, .inr (9, [.ref mo, .ref ru, .ref fo, .ref go, .ref fd, .ref tr, .int (nI xb'), .int (nI xs')])), (mo, .inr (5, [.int (nI q), .int (nI g), .int (nI t), .int (nI r), .ref af, .ref ar, .ref at_, .ref aw, .ref am, .ref ap])), (ap, .inl (cI, 4, .inl fp'))] ∧ ((rb = 1 ∧ (zq u1 (t + 1) ∧ zq u2 g)) ∨ (rb = 0 ∧ ¬ (zq u1 (t + 1) ∧ zq u2 g))) ∧ (((zq u1 (t + 1) ∧ zq u2 g) ∧ xb' = 0 ∧ xs' = 0 ∧ fp' = upd fp (zn u1) u2) ∨ (¬ (zq u1 (t + 1) ∧ zq u2 g) ∧ xb' = xb ∧ xs' = xs ∧ fp' = fp))) := by
  refine zC.of (cc := cX7_input) (maxL := 3) (ret := (some .boolean)) (by decide) rfl (Nat.le_of_ble_eq_true rfl) ?_
  intro p e s m below meth c A ls F hr hlk hnm B hl
  have hl : lv_has ls 3 [(0, .ref xo), (1, .int u1), (2, .int u2)] := hl
  refine lv_iload_n F.1 F.2.1 dX7_input_0 rfl (lv_at hl 1 rfl) ?_
  refine lv_aload_n F.1 F.2.1 dX7_input_1 rfl (lv_at hl 0 rfl) ?_
  refine z_get F B 0 rfl (ci := 9) (C := RX7) (T := TX7) (N := 8) rfl iX7_input_X7 0 (by decide) fX7_input_10 rfl dX7_input_2 ?_
  refine z_callV (wr := [(xo, .inr (9, [.ref mo, .ref ru, .ref fo, .ref go, .ref fd, .ref tr, .int (nI xb), .int (nI xs)])), (ap, .inl (cI, 4, .inl fp))]) (rest := [.int u1]) (As := []) F B (kX3_cells l D cI cZ cG cJ mo q g t r af ar at_ aw am ap) hl.1 (C := RX3) (T := TX3) (N := 10) (ci := 5) (q0 := 1) gX7_input_X3_cells rfl 0 yX7_input_X3_cells rfl rfl rfl [1] [0, 2] rfl rfl rfl rfl (by decide) (Nat.le_of_ble_eq_true rfl) (Nat.le_of_ble_eq_true rfl) (Nat.le_of_ble_eq_true rfl) rfl dX7_input_5 (show 0 + 0 ≤ 0 by omega) (show 0 + 0 ≤ 0 by omega) (fun vv ww H locs hRR B => ?_)
  obtain ⟨rfl, rfl⟩ := hRR
  have B : zB D (zT cI cZ cG cJ) A s.heap s [(xo, .inr (9, [.ref mo, .ref ru, .ref fo, .ref go, .ref fd, .ref tr, .int (nI xb), .int (nI xs)])), (ap, .inl (cI, 4, .inl fp)), (mo, .inr (5, [.int (nI q), .int (nI g), .int (nI t), .int (nI r), .ref af, .ref ar, .ref at_, .ref aw, .ref am, .ref ap]))] _ _ := B
  refine W.eq (g2 := F0 m 8 ls [.int (nI (t + 1)), .int u1]) rfl ?_
  refine z_callS (wr := [(xo, .inr (9, [.ref mo, .ref ru, .ref fo, .ref go, .ref fd, .ref tr, .int (nI xb), .int (nI xs)])), (ap, .inl (cI, 4, .inl fp)), (mo, .inr (5, [.int (nI q), .int (nI g), .int (nI t), .int (nI r), .ref af, .ref ar, .ref at_, .ref aw, .ref am, .ref ap]))]) (rest := []) (As := [.int u1, .int (nI (t + 1))]) F B (kX7_isIndex l D cI cZ cG cJ u1 (nI (t + 1))) hl.1 gX7_input_X7_isIndex rfl 2 yX7_input_X7_isIndex rfl [] [0, 1, 2] rfl rfl rfl rfl (by decide) (Nat.le_of_ble_eq_true rfl) (Nat.le_of_ble_eq_true rfl) (Nat.le_of_ble_eq_true rfl) rfl dX7_input_8 (show 0 + 0 ≤ 0 by omega) (show 0 + 0 ≤ 0 by omega) (fun vv ww H locs hRR B => ?_)
  obtain ⟨r_1, rfl, rfl, hb_2⟩ := hRR
  have B : zB D (zT cI cZ cG cJ) A s.heap s [(xo, .inr (9, [.ref mo, .ref ru, .ref fo, .ref go, .ref fd, .ref tr, .int (nI xb), .int (nI xs)])), (ap, .inl (cI, 4, .inl fp)), (mo, .inr (5, [.int (nI q), .int (nI g), .int (nI t), .int (nI r), .ref af, .ref ar, .ref at_, .ref aw, .ref am, .ref ap]))] _ _ := B
  rcases hb_2 with ⟨hr1, g1⟩ | ⟨hr1, g1⟩ <;> subst hr1
  · refine W.eq (g2 := F0 m 11 ls [.int 1]) rfl ?_
    have g1 := (zqI (by omega)).mp g1
    have g1e := zn_eq g1.1
    have g1l := zn_lt g1
    rw [g1e] at hl
    have hl : lv_has ls 3 [(0, .ref xo), (1, .int (nI (zn u1))), (2, .int u2)] := hl
    refine lv_if_eq (tgt := 28) F.1 F.2.1 dX7_input_11 (by decide) (fun hq => absurd hq (by decide)) (fun _ => ?_)
    refine lv_iload_n F.1 F.2.1 dX7_input_14 rfl (lv_at hl 2 rfl) ?_
    refine lv_aload_n F.1 F.2.1 dX7_input_15 rfl (lv_at hl 0 rfl) ?_
    refine z_get F B 0 rfl (ci := 9) (C := RX7) (T := TX7) (N := 8) rfl iX7_input_X7 0 (by decide) fX7_input_10 rfl dX7_input_16 ?_
    refine z_get F B 2 rfl (ci := 5) (C := RX3) (T := TX3) (N := 10) rfl iX7_input_X3 1 (by decide) fX7_input_97 rfl dX7_input_19 ?_
    refine z_callS (wr := [(xo, .inr (9, [.ref mo, .ref ru, .ref fo, .ref go, .ref fd, .ref tr, .int (nI xb), .int (nI xs)])), (ap, .inl (cI, 4, .inl fp)), (mo, .inr (5, [.int (nI q), .int (nI g), .int (nI t), .int (nI r), .ref af, .ref ar, .ref at_, .ref aw, .ref am, .ref ap]))]) (rest := []) (As := [.int u2, .int (nI g)]) F B (kX7_isIndex l D cI cZ cG cJ u2 (nI g)) hl.1 gX7_input_X7_isIndex rfl 2 yX7_input_X7_isIndex rfl [] [0, 1, 2] rfl rfl rfl rfl (by decide) (Nat.le_of_ble_eq_true rfl) (Nat.le_of_ble_eq_true rfl) (Nat.le_of_ble_eq_true rfl) rfl dX7_input_22 (show 0 + 0 ≤ 0 by omega) (show 0 + 0 ≤ 0 by omega) (fun vv ww H locs hRR B => ?_)
    obtain ⟨r_3, rfl, rfl, hb_4⟩ := hRR
    have B : zB D (zT cI cZ cG cJ) A s.heap s [(xo, .inr (9, [.ref mo, .ref ru, .ref fo, .ref go, .ref fd, .ref tr, .int (nI xb), .int (nI xs)])), (ap, .inl (cI, 4, .inl fp)), (mo, .inr (5, [.int (nI q), .int (nI g), .int (nI t), .int (nI r), .ref af, .ref ar, .ref at_, .ref aw, .ref am, .ref ap]))] _ _ := B
    rcases hb_4 with ⟨hr1, g2⟩ | ⟨hr1, g2⟩ <;> subst hr1
    · refine W.eq (g2 := F0 m 25 ls [.int 1]) rfl ?_
      have g2 := (zqI (by omega)).mp g2
      refine lv_if_ne (tgt := 30) F.1 F.2.1 dX7_input_25 (by decide) (fun _ => ?_) (fun hq => absurd hq (by decide))
      refine lv_aload_n F.1 F.2.1 dX7_input_30 rfl (lv_at hl 0 rfl) ?_
      refine z_get F B 0 rfl (ci := 9) (C := RX7) (T := TX7) (N := 8) rfl iX7_input_X7 0 (by decide) fX7_input_10 rfl dX7_input_31 ?_
      refine z_get F B 2 rfl (ci := 5) (C := RX3) (T := TX3) (N := 10) rfl iX7_input_X3 9 (by decide) fX7_input_100 rfl dX7_input_34 ?_
      refine lv_iload_n F.1 F.2.1 dX7_input_37 rfl (lv_at hl 1 rfl) ?_
      refine lv_iload_n F.1 F.2.1 dX7_input_38 rfl (lv_at hl 2 rfl) ?_
      refine z_iast F B 1 0 rfl rfl (j := zn u1) (by omega) (by omega) dX7_input_39 (fun H locs B => ?_)
      have B : zB D (zT cI cZ cG cJ) A s.heap s [(xo, .inr (9, [.ref mo, .ref ru, .ref fo, .ref go, .ref fd, .ref tr, .int (nI xb), .int (nI xs)])), (ap, .inl (cI, 4, .inl (upd fp (zn u1) u2))), (mo, .inr (5, [.int (nI q), .int (nI g), .int (nI t), .int (nI r), .ref af, .ref ar, .ref at_, .ref aw, .ref am, .ref ap]))] _ _ := B
      refine lv_aload_n F.1 F.2.1 dX7_input_40 rfl (lv_at hl 0 rfl) ?_
      refine z_callV (wr := [(ap, .inl (cI, 4, .inl (upd fp (zn u1) u2))), (mo, .inr (5, [.int (nI q), .int (nI g), .int (nI t), .int (nI r), .ref af, .ref ar, .ref at_, .ref aw, .ref am, .ref ap]))]) (rest := []) (As := []) F B (kX7_unbuild l D cI cZ cG cJ xo mo ru fo go fd tr xb xs) hl.1 (C := RX7) (T := TX7) (N := 8) (ci := 9) (q0 := 0) gX7_input_X7_unbuild rfl 0 yX7_input_X7_unbuild rfl rfl rfl [0] [1, 2] rfl rfl rfl rfl (by decide) (Nat.le_of_ble_eq_true rfl) (Nat.le_of_ble_eq_true rfl) (Nat.le_of_ble_eq_true rfl) rfl dX7_input_41 (show 0 + 0 ≤ 0 by omega) (show 0 + 0 ≤ 0 by omega) (fun vv ww H locs hRR B => ?_)
      obtain ⟨rfl, rfl⟩ := hRR
      have B : zB D (zT cI cZ cG cJ) A s.heap s [(ap, .inl (cI, 4, .inl (upd fp (zn u1) u2))), (mo, .inr (5, [.int (nI q), .int (nI g), .int (nI t), .int (nI r), .ref af, .ref ar, .ref at_, .ref aw, .ref am, .ref ap])), (xo, .inr (9, [.ref mo, .ref ru, .ref fo, .ref go, .ref fd, .ref tr, .int (nI 0), .int (nI 0)]))] _ _ := B
      refine W.eq (g2 := F0 m 44 ls []) rfl ?_
      refine lv_iconst (v := (nI 1)) F.1 F.2.1 dX7_input_44 (by decide) ?_
      exact z_zret F hr hlk B (Or.inr rfl) [2, 1, 0] rfl (rfl) dX7_input_45 (by omega) (by omega) ⟨(nI 1), 0, 0, (upd fp (zn u1) u2), rfl, rfl, Or.inl ⟨rfl, ⟨g1, g2⟩⟩, (Or.inl ⟨⟨g1, g2⟩, rfl, rfl, rfl⟩)⟩
    · refine W.eq (g2 := F0 m 25 ls [.int 0]) rfl ?_
      have g2 : ¬ zq u2 g := fun q9 => g2 ((zqI (by omega)).mpr q9)
      refine lv_if_ne (tgt := 30) F.1 F.2.1 dX7_input_25 (by decide) (fun hq => absurd (by decide) hq) (fun _ => ?_)
      refine lv_iconst (v := (nI 0)) F.1 F.2.1 dX7_input_28 (by decide) ?_
      exact z_zret F hr hlk B (Or.inl rfl) [0, 2, 1] rfl (rfl) dX7_input_29 (by omega) (by omega) ⟨(nI 0), xb, xs, fp, rfl, rfl, Or.inr ⟨rfl, fun q9 => by first | exact g1 q9.1 | exact g2 q9.2⟩, (Or.inr ⟨fun q9 => by first | exact g1 q9.1 | exact g2 q9.2, rfl, rfl, rfl⟩)⟩
  · refine W.eq (g2 := F0 m 11 ls [.int 0]) rfl ?_
    have g1 : ¬ zq u1 (t + 1) := fun q9 => g1 ((zqI (by omega)).mpr q9)
    refine lv_if_eq (tgt := 28) F.1 F.2.1 dX7_input_11 (by decide) (fun _ => ?_) (fun hq => absurd (by decide) hq)
    refine lv_iconst (v := (nI 0)) F.1 F.2.1 dX7_input_28 (by decide) ?_
    exact z_zret F hr hlk B (Or.inl rfl) [0, 2, 1] rfl (rfl) dX7_input_29 (by omega) (by omega) ⟨(nI 0), xb, xs, fp, rfl, rfl, Or.inr ⟨rfl, fun q9 => by first | exact g1 q9.1 | exact g2 q9.2⟩, (Or.inr ⟨fun q9 => by first | exact g1 q9.1 | exact g2 q9.2, rfl, rfl, rfl⟩)⟩
theorem iX7_choice_X7 : ∀ w ∈ u_ws RX7 TX7 8, w ∈ wsX7_choice := by decide +kernel
theorem fX7_choice_63 : Cond.fieldLink RX7 63 "TourChain" "solved" "Z" ∈ wsX7_choice := by decide +kernel
theorem fX7_choice_10 : Cond.fieldLink RX7 10 "TourChain" "machine" "LTourChain$Machine;" ∈ wsX7_choice := by decide +kernel
theorem iX7_choice_X3 : ∀ w ∈ u_ws RX3 TX3 10, w ∈ wsX7_choice := by decide +kernel
theorem fX7_choice_172 : Cond.fieldLink RX7 172 "TourChain$Machine" "bound" "I" ∈ wsX7_choice := by decide +kernel
theorem yX7_choice_X7_isIndex : yX7_isIndex.cls = RX7 ∧ yX7_isIndex.cls ≠ "java/lang/invoke/MethodHandle" ∧ yX7_isIndex.cls ≠ "java/lang/invoke/VarHandle" ∧ (parseMethodDescriptor yX7_isIndex.desc).map (fun d => d.parameters.length) = some 2 := by decide +kernel
theorem fX7_choice_21 : Cond.fieldLink RX7 21 "TourChain" "run" "LTourChain$Run;" ∈ wsX7_choice := by decide +kernel
theorem iX7_choice_X5 : ∀ w ∈ u_ws RX5 TX5 5, w ∈ wsX7_choice := by decide +kernel
theorem fX7_choice_175 : Cond.fieldLink RX7 175 "TourChain$Run" "choices" "[I" ∈ wsX7_choice := by decide +kernel
set_option maxHeartbeats 4000000 in
set_option maxRecDepth 100000 in
theorem kX7_choice (l : Launch) (D : va_G) (cI cZ cG cJ : ClassId) (xo : Nat) (mo : Nat) (ru : Nat) (fo : Nat) (go : Nat) (fd : Nat) (tr : Nat) (xb : Nat) (xs : Nat) (rch : Nat) (rhe : Nat) (rst : Nat) (rce : Nat) (q : Nat) (g : Nat) (t : Nat) (r : Nat) (af : Nat) (ar : Nat) (at_ : Nat) (aw : Nat) (am : Nat) (ap : Nat) (fch : Nat → Int32) (ch : Nat → Nat) (u1 : Int32) (hxb : xb ≤ 1) (hxs : xs ≤ 1) (ht : t ≤ 3) (hch : xs = 1 → ∀ i, i < t → fch i = nI (ch i)) : zC l yX7_choice wsX7_choice 1 21 0 0 D (zT cI cZ cG cJ) [.ref xo, .int u1] [(xo, .inr (9, [.ref mo, .ref ru, .ref fo, .ref go, .ref fd, .ref tr, .int (nI xb), .int (nI xs)])), (ru, .inr (7, [.ref mo, .ref rch, .ref rhe, .ref rst, .ref rce])), (mo, .inr (5, [.int (nI q), .int (nI g), .int (nI t), .int (nI r), .ref af, .ref ar, .ref at_, .ref aw, .ref am, .ref ap])), (rch, .inl (cI, 3, .inl fch))] (fun (ov : Option Value) (ow : va_W) => ov = some (.int (zif (xs = 1 ∧ zq u1 t) (nI (ch (zn u1))) (-1))) ∧ ow = [(xo, .inr (9, [.ref mo, .ref ru, .ref fo, .ref go, .ref fd, .ref tr, .int (nI xb), .int (nI xs)])), (ru, .inr (7, [.ref mo, .ref rch, .ref rhe, .ref rst, .ref rce])), (mo, .inr (5, [.int (nI q), .int (nI g), .int (nI t), .int (nI r), .ref af, .ref ar, .ref at_, .ref aw, .ref am, .ref ap])), (rch, .inl (cI, 3, .inl fch))]) := by
  refine zC.of (cc := cX7_choice) (maxL := 2) (ret := (some .int)) (by decide) rfl (Nat.le_of_ble_eq_true rfl) ?_
  intro p e s m below meth c A ls F hr hlk hnm B hl
  have hl : lv_has ls 2 [(0, .ref xo), (1, .int u1)] := hl
  refine lv_aload_n F.1 F.2.1 dX7_choice_0 rfl (lv_at hl 0 rfl) ?_
  refine z_get F B 0 rfl (ci := 9) (C := RX7) (T := TX7) (N := 8) rfl iX7_choice_X7 7 (by decide) fX7_choice_63 rfl dX7_choice_1 ?_
  refine z_if_eq (tgt := 33) F (by omega) dX7_choice_4 (by decide) (fun c4 => ?_) (fun c4 => ?_)
  · refine lv_iconst (v := (-1)) F.1 F.2.1 dX7_choice_33 (by decide) ?_
    exact z_iret F hr hlk B [0, 1, 2, 3] rfl (rfl) dX7_choice_34 (by omega) (by omega) ⟨by rw [zif_f (by intro q9; first | exact absurd q9.1 (by omega) | exact g1 q9.2)], rfl⟩
  · refine lv_iload_n F.1 F.2.1 dX7_choice_7 rfl (lv_at hl 1 rfl) ?_
    refine lv_aload_n F.1 F.2.1 dX7_choice_8 rfl (lv_at hl 0 rfl) ?_
    refine z_get F B 0 rfl (ci := 9) (C := RX7) (T := TX7) (N := 8) rfl iX7_choice_X7 0 (by decide) fX7_choice_10 rfl dX7_choice_9 ?_
    refine z_get F B 2 rfl (ci := 5) (C := RX3) (T := TX3) (N := 10) rfl iX7_choice_X3 2 (by decide) fX7_choice_172 rfl dX7_choice_12 ?_
    refine z_callS (wr := [(xo, .inr (9, [.ref mo, .ref ru, .ref fo, .ref go, .ref fd, .ref tr, .int (nI xb), .int (nI xs)])), (ru, .inr (7, [.ref mo, .ref rch, .ref rhe, .ref rst, .ref rce])), (mo, .inr (5, [.int (nI q), .int (nI g), .int (nI t), .int (nI r), .ref af, .ref ar, .ref at_, .ref aw, .ref am, .ref ap])), (rch, .inl (cI, 3, .inl fch))]) (rest := []) (As := [.int u1, .int (nI t)]) F B (kX7_isIndex l D cI cZ cG cJ u1 (nI t)) hl.1 gX7_choice_X7_isIndex rfl 2 yX7_choice_X7_isIndex rfl [] [0, 1, 2, 3] rfl rfl rfl rfl (by decide) (Nat.le_of_ble_eq_true rfl) (Nat.le_of_ble_eq_true rfl) (Nat.le_of_ble_eq_true rfl) rfl dX7_choice_15 (show 0 + 0 ≤ 0 by omega) (show 0 + 0 ≤ 0 by omega) (fun vv ww H locs hRR B => ?_)
    obtain ⟨r_1, rfl, rfl, hb_2⟩ := hRR
    have B : zB D (zT cI cZ cG cJ) A s.heap s [(xo, .inr (9, [.ref mo, .ref ru, .ref fo, .ref go, .ref fd, .ref tr, .int (nI xb), .int (nI xs)])), (ru, .inr (7, [.ref mo, .ref rch, .ref rhe, .ref rst, .ref rce])), (mo, .inr (5, [.int (nI q), .int (nI g), .int (nI t), .int (nI r), .ref af, .ref ar, .ref at_, .ref aw, .ref am, .ref ap])), (rch, .inl (cI, 3, .inl fch))] _ _ := B
    rcases hb_2 with ⟨hr1, g1⟩ | ⟨hr1, g1⟩ <;> subst hr1
    · refine W.eq (g2 := F0 m 18 ls [.int 1]) rfl ?_
      have g1 := (zqI (by omega)).mp g1
      have g1e := zn_eq g1.1
      have g1l := zn_lt g1
      rw [g1e] at hl
      have hl : lv_has ls 2 [(0, .ref xo), (1, .int (nI (zn u1)))] := hl
      refine lv_if_eq (tgt := 33) F.1 F.2.1 dX7_choice_18 (by decide) (fun hq => absurd hq (by decide)) (fun _ => ?_)
      refine lv_aload_n F.1 F.2.1 dX7_choice_21 rfl (lv_at hl 0 rfl) ?_
      refine z_get F B 0 rfl (ci := 9) (C := RX7) (T := TX7) (N := 8) rfl iX7_choice_X7 1 (by decide) fX7_choice_21 rfl dX7_choice_22 ?_
      refine z_get F B 1 rfl (ci := 7) (C := RX5) (T := TX5) (N := 5) rfl iX7_choice_X5 1 (by decide) fX7_choice_175 rfl dX7_choice_25 ?_
      refine lv_iload_n F.1 F.2.1 dX7_choice_28 rfl (lv_at hl 1 rfl) ?_
      refine z_iald F B 3 0 rfl rfl (j := zn u1) (by omega) (by omega) dX7_choice_29 ?_
      refine W.eq (g2 := F0 m 30 ls [.int (nI (ch (zn u1)))]) (by rw [hch (by omega) (zn u1) g1l]) ?_
      refine lv_goto (tgt := 34) F.1 F.2.1 dX7_choice_30 (by decide) ?_
      exact z_iret F hr hlk B [0, 1, 2, 3] rfl (rfl) dX7_choice_34 (by omega) (by omega) ⟨by rw [zif_t ⟨by omega, g1⟩], rfl⟩
    · refine W.eq (g2 := F0 m 18 ls [.int 0]) rfl ?_
      have g1 : ¬ zq u1 t := fun q9 => g1 ((zqI (by omega)).mpr q9)
      refine lv_if_eq (tgt := 33) F.1 F.2.1 dX7_choice_18 (by decide) (fun _ => ?_) (fun hq => absurd (by decide) hq)
      refine lv_iconst (v := (-1)) F.1 F.2.1 dX7_choice_33 (by decide) ?_
      exact z_iret F hr hlk B [0, 1, 2, 3] rfl (rfl) dX7_choice_34 (by omega) (by omega) ⟨by rw [zif_f (by intro q9; first | exact absurd q9.1 (by omega) | exact g1 q9.2)], rfl⟩
theorem iX7_truth_X7 : ∀ w ∈ u_ws RX7 TX7 8, w ∈ wsX7_truth := by decide +kernel
theorem fX7_truth_63 : Cond.fieldLink RX7 63 "TourChain" "solved" "Z" ∈ wsX7_truth := by decide +kernel
theorem fX7_truth_28 : Cond.fieldLink RX7 28 "TourChain" "formula" "LTourChain$Formula;" ∈ wsX7_truth := by decide +kernel
theorem iX7_truth_X0 : ∀ w ∈ u_ws RX0 TX0 9, w ∈ wsX7_truth := by decide +kernel
theorem fX7_truth_119 : Cond.fieldLink RX7 119 "TourChain$Formula" "variables" "I" ∈ wsX7_truth := by decide +kernel
theorem yX7_truth_X7_isIndex : yX7_isIndex.cls = RX7 ∧ yX7_isIndex.cls ≠ "java/lang/invoke/MethodHandle" ∧ yX7_isIndex.cls ≠ "java/lang/invoke/VarHandle" ∧ (parseMethodDescriptor yX7_isIndex.desc).map (fun d => d.parameters.length) = some 2 := by decide +kernel
theorem fX7_truth_46 : Cond.fieldLink RX7 46 "TourChain" "forward" "LTourChain$Forward;" ∈ wsX7_truth := by decide +kernel
theorem iX7_truth_X1 : ∀ w ∈ u_ws RX1 TX1 5, w ∈ wsX7_truth := by decide +kernel
theorem fX7_truth_178 : Cond.fieldLink RX7 178 "TourChain$Forward" "truths" "[I" ∈ wsX7_truth := by decide +kernel
set_option maxHeartbeats 4000000 in
set_option maxRecDepth 100000 in
theorem kX7_truth (l : Launch) (D : va_G) (cI cZ cG cJ : ClassId) (xo : Nat) (mo : Nat) (ru : Nat) (fo : Nat) (go : Nat) (fd : Nat) (tr : Nat) (xb : Nat) (xs : Nat) (fta : Nat) (fca : Nat) (pv : Nat) (va : Nat) (fh : Nat) (fs : Nat) (fk : Nat) (lo : Nat) (so : Nat) (to : Nat) (cta : Nat) (ftr : Nat → Int32) (bb : Nat → Nat) (u1 : Int32) (hxb : xb ≤ 1) (hxs : xs ≤ 1) (hb : xs = 1 → va ≤ cta ∧ cta ≤ 1000000 ∧ ∀ x, x < va → ftr x = nI (bb x)) : zC l yX7_truth wsX7_truth 1 21 0 0 D (zT cI cZ cG cJ) [.ref xo, .int u1] [(xo, .inr (9, [.ref mo, .ref ru, .ref fo, .ref go, .ref fd, .ref tr, .int (nI xb), .int (nI xs)])), (fd, .inr (3, [.ref ru, .ref fo, .ref go, .ref fta, .ref fca])), (fo, .inr (2, [.ref mo, .int (nI pv), .int (nI va), .int (nI fh), .int (nI fs), .int (nI fk), .ref lo, .ref so, .ref to])), (fta, .inl (cI, cta, .inl ftr))] (fun (ov : Option Value) (ow : va_W) => ov = some (.int (zif (xs = 1 ∧ zq u1 va) (nI (bb (zn u1))) (-1))) ∧ ow = [(xo, .inr (9, [.ref mo, .ref ru, .ref fo, .ref go, .ref fd, .ref tr, .int (nI xb), .int (nI xs)])), (fd, .inr (3, [.ref ru, .ref fo, .ref go, .ref fta, .ref fca])), (fo, .inr (2, [.ref mo, .int (nI pv), .int (nI va), .int (nI fh), .int (nI fs), .int (nI fk), .ref lo, .ref so, .ref to])), (fta, .inl (cI, cta, .inl ftr))]) := by
  refine zC.of (cc := cX7_truth) (maxL := 2) (ret := (some .int)) (by decide) rfl (Nat.le_of_ble_eq_true rfl) ?_
  intro p e s m below meth c A ls F hr hlk hnm B hl
  have hl : lv_has ls 2 [(0, .ref xo), (1, .int u1)] := hl
  refine lv_aload_n F.1 F.2.1 dX7_truth_0 rfl (lv_at hl 0 rfl) ?_
  refine z_get F B 0 rfl (ci := 9) (C := RX7) (T := TX7) (N := 8) rfl iX7_truth_X7 7 (by decide) fX7_truth_63 rfl dX7_truth_1 ?_
  refine z_if_eq (tgt := 33) F (by omega) dX7_truth_4 (by decide) (fun c4 => ?_) (fun c4 => ?_)
  · refine lv_iconst (v := (-1)) F.1 F.2.1 dX7_truth_33 (by decide) ?_
    exact z_iret F hr hlk B [0, 1, 2, 3] rfl (rfl) dX7_truth_34 (by omega) (by omega) ⟨by rw [zif_f (by intro q9; first | exact absurd q9.1 (by omega) | exact g1 q9.2)], rfl⟩
  · obtain ⟨hb1, hb2, hb3⟩ := hb (by omega)
    refine lv_iload_n F.1 F.2.1 dX7_truth_7 rfl (lv_at hl 1 rfl) ?_
    refine lv_aload_n F.1 F.2.1 dX7_truth_8 rfl (lv_at hl 0 rfl) ?_
    refine z_get F B 0 rfl (ci := 9) (C := RX7) (T := TX7) (N := 8) rfl iX7_truth_X7 2 (by decide) fX7_truth_28 rfl dX7_truth_9 ?_
    refine z_get F B 2 rfl (ci := 2) (C := RX0) (T := TX0) (N := 9) rfl iX7_truth_X0 2 (by decide) fX7_truth_119 rfl dX7_truth_12 ?_
    refine z_callS (wr := [(xo, .inr (9, [.ref mo, .ref ru, .ref fo, .ref go, .ref fd, .ref tr, .int (nI xb), .int (nI xs)])), (fd, .inr (3, [.ref ru, .ref fo, .ref go, .ref fta, .ref fca])), (fo, .inr (2, [.ref mo, .int (nI pv), .int (nI va), .int (nI fh), .int (nI fs), .int (nI fk), .ref lo, .ref so, .ref to])), (fta, .inl (cI, cta, .inl ftr))]) (rest := []) (As := [.int u1, .int (nI va)]) F B (kX7_isIndex l D cI cZ cG cJ u1 (nI va)) hl.1 gX7_truth_X7_isIndex rfl 2 yX7_truth_X7_isIndex rfl [] [0, 1, 2, 3] rfl rfl rfl rfl (by decide) (Nat.le_of_ble_eq_true rfl) (Nat.le_of_ble_eq_true rfl) (Nat.le_of_ble_eq_true rfl) rfl dX7_truth_15 (show 0 + 0 ≤ 0 by omega) (show 0 + 0 ≤ 0 by omega) (fun vv ww H locs hRR B => ?_)
    obtain ⟨r_1, rfl, rfl, hb_2⟩ := hRR
    have B : zB D (zT cI cZ cG cJ) A s.heap s [(xo, .inr (9, [.ref mo, .ref ru, .ref fo, .ref go, .ref fd, .ref tr, .int (nI xb), .int (nI xs)])), (fd, .inr (3, [.ref ru, .ref fo, .ref go, .ref fta, .ref fca])), (fo, .inr (2, [.ref mo, .int (nI pv), .int (nI va), .int (nI fh), .int (nI fs), .int (nI fk), .ref lo, .ref so, .ref to])), (fta, .inl (cI, cta, .inl ftr))] _ _ := B
    rcases hb_2 with ⟨hr1, g1⟩ | ⟨hr1, g1⟩ <;> subst hr1
    · refine W.eq (g2 := F0 m 18 ls [.int 1]) rfl ?_
      have g1 := (zqI (by omega)).mp g1
      have g1e := zn_eq g1.1
      have g1l := zn_lt g1
      rw [g1e] at hl
      have hl : lv_has ls 2 [(0, .ref xo), (1, .int (nI (zn u1)))] := hl
      refine lv_if_eq (tgt := 33) F.1 F.2.1 dX7_truth_18 (by decide) (fun hq => absurd hq (by decide)) (fun _ => ?_)
      refine lv_aload_n F.1 F.2.1 dX7_truth_21 rfl (lv_at hl 0 rfl) ?_
      refine z_get F B 0 rfl (ci := 9) (C := RX7) (T := TX7) (N := 8) rfl iX7_truth_X7 4 (by decide) fX7_truth_46 rfl dX7_truth_22 ?_
      refine z_get F B 1 rfl (ci := 3) (C := RX1) (T := TX1) (N := 5) rfl iX7_truth_X1 3 (by decide) fX7_truth_178 rfl dX7_truth_25 ?_
      refine lv_iload_n F.1 F.2.1 dX7_truth_28 rfl (lv_at hl 1 rfl) ?_
      refine z_iald F B 3 0 rfl rfl (j := zn u1) (by omega) (by omega) dX7_truth_29 ?_
      refine W.eq (g2 := F0 m 30 ls [.int (nI (bb (zn u1)))]) (by rw [hb3 (zn u1) g1l]) ?_
      refine lv_goto (tgt := 34) F.1 F.2.1 dX7_truth_30 (by decide) ?_
      exact z_iret F hr hlk B [0, 1, 2, 3] rfl (rfl) dX7_truth_34 (by omega) (by omega) ⟨by rw [zif_t ⟨by omega, g1⟩], rfl⟩
    · refine W.eq (g2 := F0 m 18 ls [.int 0]) rfl ?_
      have g1 : ¬ zq u1 va := fun q9 => g1 ((zqI (by omega)).mpr q9)
      refine lv_if_eq (tgt := 33) F.1 F.2.1 dX7_truth_18 (by decide) (fun _ => ?_) (fun hq => absurd (by decide) hq)
      refine lv_iconst (v := (-1)) F.1 F.2.1 dX7_truth_33 (by decide) ?_
      exact z_iret F hr hlk B [0, 1, 2, 3] rfl (rfl) dX7_truth_34 (by omega) (by omega) ⟨by rw [zif_f (by intro q9; first | exact absurd q9.1 (by omega) | exact g1 q9.2)], rfl⟩
theorem iX7_covers_X7 : ∀ w ∈ u_ws RX7 TX7 8, w ∈ wsX7_covers := by decide +kernel
theorem fX7_covers_63 : Cond.fieldLink RX7 63 "TourChain" "solved" "Z" ∈ wsX7_covers := by decide +kernel
theorem fX7_covers_37 : Cond.fieldLink RX7 37 "TourChain" "graph" "LTourChain$Graph;" ∈ wsX7_covers := by decide +kernel
theorem iX7_covers_X2 : ∀ w ∈ u_ws RX2 TX2 9, w ∈ wsX7_covers := by decide +kernel
theorem fX7_covers_125 : Cond.fieldLink RX7 125 "TourChain$Graph" "vertices" "I" ∈ wsX7_covers := by decide +kernel
theorem yX7_covers_X7_isIndex : yX7_isIndex.cls = RX7 ∧ yX7_isIndex.cls ≠ "java/lang/invoke/MethodHandle" ∧ yX7_isIndex.cls ≠ "java/lang/invoke/VarHandle" ∧ (parseMethodDescriptor yX7_isIndex.desc).map (fun d => d.parameters.length) = some 2 := by decide +kernel
theorem fX7_covers_46 : Cond.fieldLink RX7 46 "TourChain" "forward" "LTourChain$Forward;" ∈ wsX7_covers := by decide +kernel
theorem iX7_covers_X1 : ∀ w ∈ u_ws RX1 TX1 5, w ∈ wsX7_covers := by decide +kernel
theorem fX7_covers_165 : Cond.fieldLink RX7 165 "TourChain$Forward" "covered" "[I" ∈ wsX7_covers := by decide +kernel
set_option maxHeartbeats 4000000 in
set_option maxRecDepth 100000 in
theorem kX7_covers (l : Launch) (D : va_G) (cI cZ cG cJ : ClassId) (xo : Nat) (mo : Nat) (ru : Nat) (fo : Nat) (go : Nat) (fd : Nat) (tr : Nat) (xb : Nat) (xs : Nat) (fta : Nat) (fca : Nat) (ve : Nat) (ed : Nat) (se : Nat) (ci : Nat) (gva : Nat) (gsi : Nat) (gsd : Nat) (gst : Nat) (cca : Nat) (fcv : Nat → Int32) (cov : Nat → Nat) (u1 : Int32) (hxb : xb ≤ 1) (hxs : xs ≤ 1) (hb : xs = 1 → ve ≤ cca ∧ cca ≤ 1000000 ∧ ∀ x, x < ve → fcv x = nI (cov x)) : zC l yX7_covers wsX7_covers 1 21 0 0 D (zT cI cZ cG cJ) [.ref xo, .int u1] [(xo, .inr (9, [.ref mo, .ref ru, .ref fo, .ref go, .ref fd, .ref tr, .int (nI xb), .int (nI xs)])), (fd, .inr (3, [.ref ru, .ref fo, .ref go, .ref fta, .ref fca])), (go, .inr (4, [.ref fo, .int (nI ve), .int (nI ed), .int (nI se), .int (nI ci), .ref gva, .ref gsi, .ref gsd, .ref gst])), (fca, .inl (cI, cca, .inl fcv))] (fun (ov : Option Value) (ow : va_W) => ov = some (.int (zif (xs = 1 ∧ zq u1 ve) (nI (cov (zn u1))) (-1))) ∧ ow = [(xo, .inr (9, [.ref mo, .ref ru, .ref fo, .ref go, .ref fd, .ref tr, .int (nI xb), .int (nI xs)])), (fd, .inr (3, [.ref ru, .ref fo, .ref go, .ref fta, .ref fca])), (go, .inr (4, [.ref fo, .int (nI ve), .int (nI ed), .int (nI se), .int (nI ci), .ref gva, .ref gsi, .ref gsd, .ref gst])), (fca, .inl (cI, cca, .inl fcv))]) := by
  refine zC.of (cc := cX7_covers) (maxL := 2) (ret := (some .int)) (by decide) rfl (Nat.le_of_ble_eq_true rfl) ?_
  intro p e s m below meth c A ls F hr hlk hnm B hl
  have hl : lv_has ls 2 [(0, .ref xo), (1, .int u1)] := hl
  refine lv_aload_n F.1 F.2.1 dX7_covers_0 rfl (lv_at hl 0 rfl) ?_
  refine z_get F B 0 rfl (ci := 9) (C := RX7) (T := TX7) (N := 8) rfl iX7_covers_X7 7 (by decide) fX7_covers_63 rfl dX7_covers_1 ?_
  refine z_if_eq (tgt := 33) F (by omega) dX7_covers_4 (by decide) (fun c4 => ?_) (fun c4 => ?_)
  · refine lv_iconst (v := (-1)) F.1 F.2.1 dX7_covers_33 (by decide) ?_
    exact z_iret F hr hlk B [0, 1, 2, 3] rfl (rfl) dX7_covers_34 (by omega) (by omega) ⟨by rw [zif_f (by intro q9; first | exact absurd q9.1 (by omega) | exact g1 q9.2)], rfl⟩
  · obtain ⟨hb1, hb2, hb3⟩ := hb (by omega)
    refine lv_iload_n F.1 F.2.1 dX7_covers_7 rfl (lv_at hl 1 rfl) ?_
    refine lv_aload_n F.1 F.2.1 dX7_covers_8 rfl (lv_at hl 0 rfl) ?_
    refine z_get F B 0 rfl (ci := 9) (C := RX7) (T := TX7) (N := 8) rfl iX7_covers_X7 3 (by decide) fX7_covers_37 rfl dX7_covers_9 ?_
    refine z_get F B 2 rfl (ci := 4) (C := RX2) (T := TX2) (N := 9) rfl iX7_covers_X2 1 (by decide) fX7_covers_125 rfl dX7_covers_12 ?_
    refine z_callS (wr := [(xo, .inr (9, [.ref mo, .ref ru, .ref fo, .ref go, .ref fd, .ref tr, .int (nI xb), .int (nI xs)])), (fd, .inr (3, [.ref ru, .ref fo, .ref go, .ref fta, .ref fca])), (go, .inr (4, [.ref fo, .int (nI ve), .int (nI ed), .int (nI se), .int (nI ci), .ref gva, .ref gsi, .ref gsd, .ref gst])), (fca, .inl (cI, cca, .inl fcv))]) (rest := []) (As := [.int u1, .int (nI ve)]) F B (kX7_isIndex l D cI cZ cG cJ u1 (nI ve)) hl.1 gX7_covers_X7_isIndex rfl 2 yX7_covers_X7_isIndex rfl [] [0, 1, 2, 3] rfl rfl rfl rfl (by decide) (Nat.le_of_ble_eq_true rfl) (Nat.le_of_ble_eq_true rfl) (Nat.le_of_ble_eq_true rfl) rfl dX7_covers_15 (show 0 + 0 ≤ 0 by omega) (show 0 + 0 ≤ 0 by omega) (fun vv ww H locs hRR B => ?_)
    obtain ⟨r_1, rfl, rfl, hb_2⟩ := hRR
    have B : zB D (zT cI cZ cG cJ) A s.heap s [(xo, .inr (9, [.ref mo, .ref ru, .ref fo, .ref go, .ref fd, .ref tr, .int (nI xb), .int (nI xs)])), (fd, .inr (3, [.ref ru, .ref fo, .ref go, .ref fta, .ref fca])), (go, .inr (4, [.ref fo, .int (nI ve), .int (nI ed), .int (nI se), .int (nI ci), .ref gva, .ref gsi, .ref gsd, .ref gst])), (fca, .inl (cI, cca, .inl fcv))] _ _ := B
    rcases hb_2 with ⟨hr1, g1⟩ | ⟨hr1, g1⟩ <;> subst hr1
    · refine W.eq (g2 := F0 m 18 ls [.int 1]) rfl ?_
      have g1 := (zqI (by omega)).mp g1
      have g1e := zn_eq g1.1
      have g1l := zn_lt g1
      rw [g1e] at hl
      have hl : lv_has ls 2 [(0, .ref xo), (1, .int (nI (zn u1)))] := hl
      refine lv_if_eq (tgt := 33) F.1 F.2.1 dX7_covers_18 (by decide) (fun hq => absurd hq (by decide)) (fun _ => ?_)
      refine lv_aload_n F.1 F.2.1 dX7_covers_21 rfl (lv_at hl 0 rfl) ?_
      refine z_get F B 0 rfl (ci := 9) (C := RX7) (T := TX7) (N := 8) rfl iX7_covers_X7 4 (by decide) fX7_covers_46 rfl dX7_covers_22 ?_
      refine z_get F B 1 rfl (ci := 3) (C := RX1) (T := TX1) (N := 5) rfl iX7_covers_X1 4 (by decide) fX7_covers_165 rfl dX7_covers_25 ?_
      refine lv_iload_n F.1 F.2.1 dX7_covers_28 rfl (lv_at hl 1 rfl) ?_
      refine z_iald F B 3 0 rfl rfl (j := zn u1) (by omega) (by omega) dX7_covers_29 ?_
      refine W.eq (g2 := F0 m 30 ls [.int (nI (cov (zn u1)))]) (by rw [hb3 (zn u1) g1l]) ?_
      refine lv_goto (tgt := 34) F.1 F.2.1 dX7_covers_30 (by decide) ?_
      exact z_iret F hr hlk B [0, 1, 2, 3] rfl (rfl) dX7_covers_34 (by omega) (by omega) ⟨by rw [zif_t ⟨by omega, g1⟩], rfl⟩
    · refine W.eq (g2 := F0 m 18 ls [.int 0]) rfl ?_
      have g1 : ¬ zq u1 ve := fun q9 => g1 ((zqI (by omega)).mpr q9)
      refine lv_if_eq (tgt := 33) F.1 F.2.1 dX7_covers_18 (by decide) (fun _ => ?_) (fun hq => absurd (by decide) hq)
      refine lv_iconst (v := (-1)) F.1 F.2.1 dX7_covers_33 (by decide) ?_
      exact z_iret F hr hlk B [0, 1, 2, 3] rfl (rfl) dX7_covers_34 (by omega) (by omega) ⟨by rw [zif_f (by intro q9; first | exact absurd q9.1 (by omega) | exact g1 q9.2)], rfl⟩
theorem iX7_city_X7 : ∀ w ∈ u_ws RX7 TX7 8, w ∈ wsX7_city := by decide +kernel
theorem fX7_city_63 : Cond.fieldLink RX7 63 "TourChain" "solved" "Z" ∈ wsX7_city := by decide +kernel
theorem fX7_city_37 : Cond.fieldLink RX7 37 "TourChain" "graph" "LTourChain$Graph;" ∈ wsX7_city := by decide +kernel
theorem iX7_city_X2 : ∀ w ∈ u_ws RX2 TX2 9, w ∈ wsX7_city := by decide +kernel
theorem fX7_city_110 : Cond.fieldLink RX7 110 "TourChain$Graph" "cities" "I" ∈ wsX7_city := by decide +kernel
theorem yX7_city_X7_isIndex : yX7_isIndex.cls = RX7 ∧ yX7_isIndex.cls ≠ "java/lang/invoke/MethodHandle" ∧ yX7_isIndex.cls ≠ "java/lang/invoke/VarHandle" ∧ (parseMethodDescriptor yX7_isIndex.desc).map (fun d => d.parameters.length) = some 2 := by decide +kernel
theorem fX7_city_55 : Cond.fieldLink RX7 55 "TourChain" "trip" "LTourChain$Trip;" ∈ wsX7_city := by decide +kernel
theorem yX7_city_X6_at : yX6_at.cls = RX6 ∧ yX6_at.cls ≠ "java/lang/invoke/MethodHandle" ∧ yX6_at.cls ≠ "java/lang/invoke/VarHandle" ∧ (parseMethodDescriptor yX6_at.desc).map (fun d => d.parameters.length) = some 1 := by decide +kernel
set_option maxHeartbeats 4000000 in
set_option maxRecDepth 100000 in
theorem kX7_city (l : Launch) (D : va_G) (cI cZ cG cJ : ClassId) (xo : Nat) (mo : Nat) (ru : Nat) (fo : Nat) (go : Nat) (fd : Nat) (tr : Nat) (xb : Nat) (xs : Nat) (tpk : Nat) (trw : Nat) (fi : Nat) (dir : Nat) (tsb : Nat) (ve : Nat) (ed : Nat) (se : Nat) (ci : Nat) (gva : Nat) (gsi : Nat) (gsd : Nat) (gst : Nat) (crw : Nat) (frw : Nat → Int32) (rr : Nat → Nat) (u1 : Int32) (hxb : xb ≤ 1) (hxs : xs ≤ 1) (hb : xs = 1 → (dir = 0 ∨ dir = 1) ∧ (fi < ci) ∧ (ci ≤ 1000000) ∧ (∀ i, i < ci → frw i = nI (rr i) ∧ rr i < ci) ∧ (ci ≤ crw) ∧ (crw ≤ 1000000)) : zC l yX7_city wsX7_city 3 64 0 0 D (zT cI cZ cG cJ) [.ref xo, .int u1] [(xo, .inr (9, [.ref mo, .ref ru, .ref fo, .ref go, .ref fd, .ref tr, .int (nI xb), .int (nI xs)])), (tr, .inr (8, [.ref go, .ref tpk, .ref trw, .int (nI fi), .int (zsd dir), .ref tsb])), (go, .inr (4, [.ref fo, .int (nI ve), .int (nI ed), .int (nI se), .int (nI ci), .ref gva, .ref gsi, .ref gsd, .ref gst])), (trw, .inl (cI, crw, .inl frw))] (fun (ov : Option Value) (ow : va_W) => ov = some (.int (zif (xs = 1 ∧ zq u1 ci) (nI (rr (zix ci fi dir (zn u1)))) (-1))) ∧ ow = [(xo, .inr (9, [.ref mo, .ref ru, .ref fo, .ref go, .ref fd, .ref tr, .int (nI xb), .int (nI xs)])), (tr, .inr (8, [.ref go, .ref tpk, .ref trw, .int (nI fi), .int (zsd dir), .ref tsb])), (go, .inr (4, [.ref fo, .int (nI ve), .int (nI ed), .int (nI se), .int (nI ci), .ref gva, .ref gsi, .ref gsd, .ref gst])), (trw, .inl (cI, crw, .inl frw))]) := by
  refine zC.of (cc := cX7_city) (maxL := 2) (ret := (some .int)) (by decide) rfl (Nat.le_of_ble_eq_true rfl) ?_
  intro p e s m below meth c A ls F hr hlk hnm B hl
  have hl : lv_has ls 2 [(0, .ref xo), (1, .int u1)] := hl
  refine lv_aload_n F.1 F.2.1 dX7_city_0 rfl (lv_at hl 0 rfl) ?_
  refine z_get F B 0 rfl (ci := 9) (C := RX7) (T := TX7) (N := 8) rfl iX7_city_X7 7 (by decide) fX7_city_63 rfl dX7_city_1 ?_
  refine z_if_eq (tgt := 32) F (by omega) dX7_city_4 (by decide) (fun c4 => ?_) (fun c4 => ?_)
  · refine lv_iconst (v := (-1)) F.1 F.2.1 dX7_city_32 (by decide) ?_
    exact z_iret F hr hlk B [0, 1, 2, 3] rfl (rfl) dX7_city_33 (by omega) (by omega) ⟨by rw [zif_f (by intro q9; first | exact absurd q9.1 (by omega) | exact g1 q9.2)], rfl⟩
  · obtain ⟨hd, hf, hn, hrw, hcr, hcr2⟩ := hb (by omega)
    refine lv_iload_n F.1 F.2.1 dX7_city_7 rfl (lv_at hl 1 rfl) ?_
    refine lv_aload_n F.1 F.2.1 dX7_city_8 rfl (lv_at hl 0 rfl) ?_
    refine z_get F B 0 rfl (ci := 9) (C := RX7) (T := TX7) (N := 8) rfl iX7_city_X7 3 (by decide) fX7_city_37 rfl dX7_city_9 ?_
    refine z_get F B 2 rfl (ci := 4) (C := RX2) (T := TX2) (N := 9) rfl iX7_city_X2 4 (by decide) fX7_city_110 rfl dX7_city_12 ?_
    refine z_callS (wr := [(xo, .inr (9, [.ref mo, .ref ru, .ref fo, .ref go, .ref fd, .ref tr, .int (nI xb), .int (nI xs)])), (tr, .inr (8, [.ref go, .ref tpk, .ref trw, .int (nI fi), .int (zsd dir), .ref tsb])), (go, .inr (4, [.ref fo, .int (nI ve), .int (nI ed), .int (nI se), .int (nI ci), .ref gva, .ref gsi, .ref gsd, .ref gst])), (trw, .inl (cI, crw, .inl frw))]) (rest := []) (As := [.int u1, .int (nI ci)]) F B (kX7_isIndex l D cI cZ cG cJ u1 (nI ci)) hl.1 gX7_city_X7_isIndex rfl 2 yX7_city_X7_isIndex rfl [] [0, 1, 2, 3] rfl rfl rfl rfl (by decide) (Nat.le_of_ble_eq_true rfl) (Nat.le_of_ble_eq_true rfl) (Nat.le_of_ble_eq_true rfl) rfl dX7_city_15 (show 0 + 0 ≤ 0 by omega) (show 0 + 0 ≤ 0 by omega) (fun vv ww H locs hRR B => ?_)
    obtain ⟨r_1, rfl, rfl, hb_2⟩ := hRR
    have B : zB D (zT cI cZ cG cJ) A s.heap s [(xo, .inr (9, [.ref mo, .ref ru, .ref fo, .ref go, .ref fd, .ref tr, .int (nI xb), .int (nI xs)])), (tr, .inr (8, [.ref go, .ref tpk, .ref trw, .int (nI fi), .int (zsd dir), .ref tsb])), (go, .inr (4, [.ref fo, .int (nI ve), .int (nI ed), .int (nI se), .int (nI ci), .ref gva, .ref gsi, .ref gsd, .ref gst])), (trw, .inl (cI, crw, .inl frw))] _ _ := B
    rcases hb_2 with ⟨hr1, g1⟩ | ⟨hr1, g1⟩ <;> subst hr1
    · refine W.eq (g2 := F0 m 18 ls [.int 1]) rfl ?_
      have g1 := (zqI (by omega)).mp g1
      have g1e := zn_eq g1.1
      have g1l := zn_lt g1
      rw [g1e] at hl
      have hl : lv_has ls 2 [(0, .ref xo), (1, .int (nI (zn u1)))] := hl
      refine lv_if_eq (tgt := 32) F.1 F.2.1 dX7_city_18 (by decide) (fun hq => absurd hq (by decide)) (fun _ => ?_)
      refine lv_aload_n F.1 F.2.1 dX7_city_21 rfl (lv_at hl 0 rfl) ?_
      refine z_get F B 0 rfl (ci := 9) (C := RX7) (T := TX7) (N := 8) rfl iX7_city_X7 5 (by decide) fX7_city_55 rfl dX7_city_22 ?_
      refine lv_iload_n F.1 F.2.1 dX7_city_25 rfl (lv_at hl 1 rfl) ?_
      refine z_callV (wr := [(xo, .inr (9, [.ref mo, .ref ru, .ref fo, .ref go, .ref fd, .ref tr, .int (nI xb), .int (nI xs)]))]) (rest := []) (As := [.int (nI (zn u1))]) F B (kX6_at l D cI cZ cG cJ tr go tpk trw fi dir tsb fo ve ed se ci gva gsi gsd gst crw frw rr (zn u1) (hd) (hf) (by omega) (hrw) (by omega) (by omega) (by omega)) hl.1 (C := RX6) (T := TX6) (N := 6) (ci := 8) (q0 := 1) gX7_city_X6_at rfl 1 yX7_city_X6_at rfl rfl rfl [1, 2, 3] [0] rfl rfl rfl rfl (by decide) (Nat.le_of_ble_eq_true rfl) (Nat.le_of_ble_eq_true rfl) (Nat.le_of_ble_eq_true rfl) rfl dX7_city_26 (show 0 + 0 ≤ 0 by omega) (show 0 + 0 ≤ 0 by omega) (fun vv ww H locs hRR B => ?_)
      obtain ⟨rfl, rfl⟩ := hRR
      have B : zB D (zT cI cZ cG cJ) A s.heap s [(xo, .inr (9, [.ref mo, .ref ru, .ref fo, .ref go, .ref fd, .ref tr, .int (nI xb), .int (nI xs)])), (tr, .inr (8, [.ref go, .ref tpk, .ref trw, .int (nI fi), .int (zsd dir), .ref tsb])), (go, .inr (4, [.ref fo, .int (nI ve), .int (nI ed), .int (nI se), .int (nI ci), .ref gva, .ref gsi, .ref gsd, .ref gst])), (trw, .inl (cI, crw, .inl frw))] _ _ := B
      refine W.eq (g2 := F0 m 29 ls [.int (nI (rr (zix ci fi dir (zn u1))))]) rfl ?_
      refine lv_goto (tgt := 33) F.1 F.2.1 dX7_city_29 (by decide) ?_
      exact z_iret F hr hlk B [0, 1, 2, 3] rfl (rfl) dX7_city_33 (by omega) (by omega) ⟨by rw [zif_t ⟨by omega, g1⟩], rfl⟩
    · refine W.eq (g2 := F0 m 18 ls [.int 0]) rfl ?_
      have g1 : ¬ zq u1 ci := fun q9 => g1 ((zqI (by omega)).mpr q9)
      refine lv_if_eq (tgt := 32) F.1 F.2.1 dX7_city_18 (by decide) (fun _ => ?_) (fun hq => absurd (by decide) hq)
      refine lv_iconst (v := (-1)) F.1 F.2.1 dX7_city_32 (by decide) ?_
      exact z_iret F hr hlk B [0, 1, 2, 3] rfl (rfl) dX7_city_33 (by omega) (by omega) ⟨by rw [zif_f (by intro q9; first | exact absurd q9.1 (by omega) | exact g1 q9.2)], rfl⟩
theorem iX7_literal_X7 : ∀ w ∈ u_ws RX7 TX7 8, w ∈ wsX7_literal := by decide +kernel
theorem fX7_literal_59 : Cond.fieldLink RX7 59 "TourChain" "built" "Z" ∈ wsX7_literal := by decide +kernel
theorem fX7_literal_28 : Cond.fieldLink RX7 28 "TourChain" "formula" "LTourChain$Formula;" ∈ wsX7_literal := by decide +kernel
theorem yX7_literal_X0_clauses : yX0_clauses.cls = RX0 ∧ yX0_clauses.cls ≠ "java/lang/invoke/MethodHandle" ∧ yX0_clauses.cls ≠ "java/lang/invoke/VarHandle" ∧ (parseMethodDescriptor yX0_clauses.desc).map (fun d => d.parameters.length) = some 0 := by decide +kernel
theorem yX7_literal_X7_isIndex : yX7_isIndex.cls = RX7 ∧ yX7_isIndex.cls ≠ "java/lang/invoke/MethodHandle" ∧ yX7_isIndex.cls ≠ "java/lang/invoke/VarHandle" ∧ (parseMethodDescriptor yX7_isIndex.desc).map (fun d => d.parameters.length) = some 2 := by decide +kernel
theorem yX7_literal_X0_length : yX0_length.cls = RX0 ∧ yX0_length.cls ≠ "java/lang/invoke/MethodHandle" ∧ yX0_length.cls ≠ "java/lang/invoke/VarHandle" ∧ (parseMethodDescriptor yX0_length.desc).map (fun d => d.parameters.length) = some 1 := by decide +kernel
theorem yX7_literal_X0_literalOf : yX0_literalOf.cls = RX0 ∧ yX0_literalOf.cls ≠ "java/lang/invoke/MethodHandle" ∧ yX0_literalOf.cls ≠ "java/lang/invoke/VarHandle" ∧ (parseMethodDescriptor yX0_literalOf.desc).map (fun d => d.parameters.length) = some 2 := by decide +kernel
set_option maxHeartbeats 4000000 in
set_option maxRecDepth 100000 in
theorem kX7_literal (l : Launch) (D : va_G) (cI cZ cG cJ : ClassId) (xo : Nat) (mo : Nat) (ru : Nat) (fo : Nat) (go : Nat) (fd : Nat) (tr : Nat) (xb : Nat) (xs : Nat) (pv : Nat) (va : Nat) (fh : Nat) (fs : Nat) (fk : Nat) (lo : Nat) (so : Nat) (to : Nat) (la : Nat) (nl : Nat) (cl : Nat) (fl : Nat → Int32) (sa : Nat) (ns : Nat) (cs : Nat) (ft : Nat → Int32) (Cs : List (List Nat)) (u1 : Int32) (u2 : Int32) (hxb : xb ≤ 1) (hxs : xs ≤ 1) (hb : xb = 1 → zF fl nl ft ns Cs ∧ zW nl cl ∧ zW ns cs) : zC l yX7_literal wsX7_literal 1 22 0 0 D (zT cI cZ cG cJ) [.ref xo, .int u1, .int u2] [(xo, .inr (9, [.ref mo, .ref ru, .ref fo, .ref go, .ref fd, .ref tr, .int (nI xb), .int (nI xs)])), (fo, .inr (2, [.ref mo, .int (nI pv), .int (nI va), .int (nI fh), .int (nI fs), .int (nI fk), .ref lo, .ref so, .ref to])), (lo, .inr (6, [.ref la, .int (nI nl)])), (la, .inl (cI, cl, .inl fl)), (so, .inr (6, [.ref sa, .int (nI ns)])), (sa, .inl (cI, cs, .inl ft))] (fun (ov : Option Value) (ow : va_W) => ov = some (.int (zif (xb = 1 ∧ zq u1 Cs.length ∧ zq u2 (zlen Cs (zn u1))) (nI (zlit Cs (zn u1) (zn u2))) (-1))) ∧ ow = [(xo, .inr (9, [.ref mo, .ref ru, .ref fo, .ref go, .ref fd, .ref tr, .int (nI xb), .int (nI xs)])), (fo, .inr (2, [.ref mo, .int (nI pv), .int (nI va), .int (nI fh), .int (nI fs), .int (nI fk), .ref lo, .ref so, .ref to])), (lo, .inr (6, [.ref la, .int (nI nl)])), (la, .inl (cI, cl, .inl fl)), (so, .inr (6, [.ref sa, .int (nI ns)])), (sa, .inl (cI, cs, .inl ft))]) := by
  refine zC.of (cc := cX7_literal) (maxL := 3) (ret := (some .int)) (by decide) rfl (Nat.le_of_ble_eq_true rfl) ?_
  intro p e s m below meth c A ls F hr hlk hnm B hl
  have hl : lv_has ls 3 [(0, .ref xo), (1, .int u1), (2, .int u2)] := hl
  refine lv_aload_n F.1 F.2.1 dX7_literal_0 rfl (lv_at hl 0 rfl) ?_
  refine z_get F B 0 rfl (ci := 9) (C := RX7) (T := TX7) (N := 8) rfl iX7_literal_X7 6 (by decide) fX7_literal_59 rfl dX7_literal_1 ?_
  refine z_if_eq (tgt := 36) F (by omega) dX7_literal_4 (by decide) (fun c4 => ?_) (fun c4 => ?_)
  · refine lv_iconst (v := (-1)) F.1 F.2.1 dX7_literal_36 (by decide) ?_
    exact z_iret F hr hlk B [0, 1, 2, 3, 4, 5] rfl (rfl) dX7_literal_37 (by omega) (by omega) ⟨by rw [zif_f (by intro q9; first | exact absurd q9.1 (by omega) | exact g1 q9.2.1 | exact g2 q9.2.2)], rfl⟩
  · obtain ⟨hF, hwl, hws⟩ := hb (by omega)
    have hnse := (zF_len hF).2
    have hnw := hws.2.1; have hnw2 := hws.2.2
    refine lv_iload_n F.1 F.2.1 dX7_literal_7 rfl (lv_at hl 1 rfl) ?_
    refine lv_aload_n F.1 F.2.1 dX7_literal_8 rfl (lv_at hl 0 rfl) ?_
    refine z_get F B 0 rfl (ci := 9) (C := RX7) (T := TX7) (N := 8) rfl iX7_literal_X7 2 (by decide) fX7_literal_28 rfl dX7_literal_9 ?_
    refine z_callV (wr := [(xo, .inr (9, [.ref mo, .ref ru, .ref fo, .ref go, .ref fd, .ref tr, .int (nI xb), .int (nI xs)])), (lo, .inr (6, [.ref la, .int (nI nl)])), (la, .inl (cI, cl, .inl fl)), (sa, .inl (cI, cs, .inl ft))]) (rest := [.int u1]) (As := []) F B (kX0_clauses l D cI cZ cG cJ fo mo pv va fh fs fk lo so to sa ns (by omega)) hl.1 (C := RX0) (T := TX0) (N := 9) (ci := 2) (q0 := 1) gX7_literal_X0_clauses rfl 0 yX7_literal_X0_clauses rfl rfl rfl [1, 4] [0, 2, 3, 5] rfl rfl rfl rfl (by decide) (Nat.le_of_ble_eq_true rfl) (Nat.le_of_ble_eq_true rfl) (Nat.le_of_ble_eq_true rfl) rfl dX7_literal_12 (show 0 + 0 ≤ 0 by omega) (show 0 + 0 ≤ 0 by omega) (fun vv ww H locs hRR B => ?_)
    obtain ⟨rfl, rfl⟩ := hRR
    have B : zB D (zT cI cZ cG cJ) A s.heap s [(xo, .inr (9, [.ref mo, .ref ru, .ref fo, .ref go, .ref fd, .ref tr, .int (nI xb), .int (nI xs)])), (lo, .inr (6, [.ref la, .int (nI nl)])), (la, .inl (cI, cl, .inl fl)), (sa, .inl (cI, cs, .inl ft)), (fo, .inr (2, [.ref mo, .int (nI pv), .int (nI va), .int (nI fh), .int (nI fs), .int (nI fk), .ref lo, .ref so, .ref to])), (so, .inr (6, [.ref sa, .int (nI ns)]))] _ _ := B
    refine W.eq (g2 := F0 m 15 ls [.int (nI (ns - 1)), .int u1]) rfl ?_
    refine W.eq (g2 := F0 m 15 ls [.int (nI Cs.length), .int u1]) (by rw [hnse]; rfl) ?_
    refine z_callS (wr := [(xo, .inr (9, [.ref mo, .ref ru, .ref fo, .ref go, .ref fd, .ref tr, .int (nI xb), .int (nI xs)])), (lo, .inr (6, [.ref la, .int (nI nl)])), (la, .inl (cI, cl, .inl fl)), (sa, .inl (cI, cs, .inl ft)), (fo, .inr (2, [.ref mo, .int (nI pv), .int (nI va), .int (nI fh), .int (nI fs), .int (nI fk), .ref lo, .ref so, .ref to])), (so, .inr (6, [.ref sa, .int (nI ns)]))]) (rest := []) (As := [.int u1, .int (nI Cs.length)]) F B (kX7_isIndex l D cI cZ cG cJ u1 (nI Cs.length)) hl.1 gX7_literal_X7_isIndex rfl 2 yX7_literal_X7_isIndex rfl [] [0, 1, 2, 3, 4, 5] rfl rfl rfl rfl (by decide) (Nat.le_of_ble_eq_true rfl) (Nat.le_of_ble_eq_true rfl) (Nat.le_of_ble_eq_true rfl) rfl dX7_literal_15 (show 0 + 0 ≤ 0 by omega) (show 0 + 0 ≤ 0 by omega) (fun vv ww H locs hRR B => ?_)
    obtain ⟨r_1, rfl, rfl, hb_2⟩ := hRR
    have B : zB D (zT cI cZ cG cJ) A s.heap s [(xo, .inr (9, [.ref mo, .ref ru, .ref fo, .ref go, .ref fd, .ref tr, .int (nI xb), .int (nI xs)])), (lo, .inr (6, [.ref la, .int (nI nl)])), (la, .inl (cI, cl, .inl fl)), (sa, .inl (cI, cs, .inl ft)), (fo, .inr (2, [.ref mo, .int (nI pv), .int (nI va), .int (nI fh), .int (nI fs), .int (nI fk), .ref lo, .ref so, .ref to])), (so, .inr (6, [.ref sa, .int (nI ns)]))] _ _ := B
    rcases hb_2 with ⟨hr1, g1⟩ | ⟨hr1, g1⟩ <;> subst hr1
    · refine W.eq (g2 := F0 m 18 ls [.int 1]) rfl ?_
      have g1 := (zqI (by omega)).mp g1
      have g1e := zn_eq g1.1
      have g1l := zn_lt g1
      rw [g1e] at hl
      have hl : lv_has ls 3 [(0, .ref xo), (1, .int (nI (zn u1))), (2, .int u2)] := hl
      refine lv_if_eq (tgt := 36) F.1 F.2.1 dX7_literal_18 (by decide) (fun hq => absurd hq (by decide)) (fun _ => ?_)
      refine lv_iload_n F.1 F.2.1 dX7_literal_21 rfl (lv_at hl 2 rfl) ?_
      refine lv_aload_n F.1 F.2.1 dX7_literal_22 rfl (lv_at hl 0 rfl) ?_
      refine z_get F B 0 rfl (ci := 9) (C := RX7) (T := TX7) (N := 8) rfl iX7_literal_X7 2 (by decide) fX7_literal_28 rfl dX7_literal_23 ?_
      refine lv_iload_n F.1 F.2.1 dX7_literal_26 rfl (lv_at hl 1 rfl) ?_
      refine z_callV (wr := [(xo, .inr (9, [.ref mo, .ref ru, .ref fo, .ref go, .ref fd, .ref tr, .int (nI xb), .int (nI xs)])), (lo, .inr (6, [.ref la, .int (nI nl)])), (la, .inl (cI, cl, .inl fl))]) (rest := [.int u2]) (As := [.int (nI (zn u1))]) F B (kX0_length l D cI cZ cG cJ fo mo pv va fh fs fk lo so to sa ns cs ft fl nl Cs (zn u1) (hF) (hws) (by omega)) hl.1 (C := RX0) (T := TX0) (N := 9) (ci := 2) (q0 := 4) gX7_literal_X0_length rfl 1 yX7_literal_X0_length rfl rfl rfl [4, 5, 3] [0, 1, 2] rfl rfl rfl rfl (by decide) (Nat.le_of_ble_eq_true rfl) (Nat.le_of_ble_eq_true rfl) (Nat.le_of_ble_eq_true rfl) rfl dX7_literal_27 (show 0 + 0 ≤ 0 by omega) (show 0 + 0 ≤ 0 by omega) (fun vv ww H locs hRR B => ?_)
      obtain ⟨rfl, rfl⟩ := hRR
      have B : zB D (zT cI cZ cG cJ) A s.heap s [(xo, .inr (9, [.ref mo, .ref ru, .ref fo, .ref go, .ref fd, .ref tr, .int (nI xb), .int (nI xs)])), (lo, .inr (6, [.ref la, .int (nI nl)])), (la, .inl (cI, cl, .inl fl)), (fo, .inr (2, [.ref mo, .int (nI pv), .int (nI va), .int (nI fh), .int (nI fs), .int (nI fk), .ref lo, .ref so, .ref to])), (so, .inr (6, [.ref sa, .int (nI ns)])), (sa, .inl (cI, cs, .inl ft))] _ _ := B
      refine W.eq (g2 := F0 m 30 ls [.int (nI (zlen Cs (zn u1))), .int u2]) rfl ?_
      have hln := zF_lt2 hF g1l hwl
      refine z_callS (wr := [(xo, .inr (9, [.ref mo, .ref ru, .ref fo, .ref go, .ref fd, .ref tr, .int (nI xb), .int (nI xs)])), (lo, .inr (6, [.ref la, .int (nI nl)])), (la, .inl (cI, cl, .inl fl)), (fo, .inr (2, [.ref mo, .int (nI pv), .int (nI va), .int (nI fh), .int (nI fs), .int (nI fk), .ref lo, .ref so, .ref to])), (so, .inr (6, [.ref sa, .int (nI ns)])), (sa, .inl (cI, cs, .inl ft))]) (rest := []) (As := [.int u2, .int (nI (zlen Cs (zn u1)))]) F B (kX7_isIndex l D cI cZ cG cJ u2 (nI (zlen Cs (zn u1)))) hl.1 gX7_literal_X7_isIndex rfl 2 yX7_literal_X7_isIndex rfl [] [0, 1, 2, 3, 4, 5] rfl rfl rfl rfl (by decide) (Nat.le_of_ble_eq_true rfl) (Nat.le_of_ble_eq_true rfl) (Nat.le_of_ble_eq_true rfl) rfl dX7_literal_30 (show 0 + 0 ≤ 0 by omega) (show 0 + 0 ≤ 0 by omega) (fun vv ww H locs hRR B => ?_)
      obtain ⟨r_3, rfl, rfl, hb_4⟩ := hRR
      have B : zB D (zT cI cZ cG cJ) A s.heap s [(xo, .inr (9, [.ref mo, .ref ru, .ref fo, .ref go, .ref fd, .ref tr, .int (nI xb), .int (nI xs)])), (lo, .inr (6, [.ref la, .int (nI nl)])), (la, .inl (cI, cl, .inl fl)), (fo, .inr (2, [.ref mo, .int (nI pv), .int (nI va), .int (nI fh), .int (nI fs), .int (nI fk), .ref lo, .ref so, .ref to])), (so, .inr (6, [.ref sa, .int (nI ns)])), (sa, .inl (cI, cs, .inl ft))] _ _ := B
      rcases hb_4 with ⟨hr1, g2⟩ | ⟨hr1, g2⟩ <;> subst hr1
      · refine W.eq (g2 := F0 m 33 ls [.int 1]) rfl ?_
        have g2 := (zqI (by omega)).mp g2
        have g2e := zn_eq g2.1
        have g2l := zn_lt g2
        rw [g2e] at hl
        have hl : lv_has ls 3 [(0, .ref xo), (1, .int (nI (zn u1))), (2, .int (nI (zn u2)))] := hl
        refine lv_if_ne (tgt := 38) F.1 F.2.1 dX7_literal_33 (by decide) (fun _ => ?_) (fun hq => absurd hq (by decide))
        refine lv_aload_n F.1 F.2.1 dX7_literal_38 rfl (lv_at hl 0 rfl) ?_
        refine z_get F B 0 rfl (ci := 9) (C := RX7) (T := TX7) (N := 8) rfl iX7_literal_X7 2 (by decide) fX7_literal_28 rfl dX7_literal_39 ?_
        refine lv_iload_n F.1 F.2.1 dX7_literal_42 rfl (lv_at hl 1 rfl) ?_
        refine lv_iload_n F.1 F.2.1 dX7_literal_43 rfl (lv_at hl 2 rfl) ?_
        refine z_callV (wr := [(xo, .inr (9, [.ref mo, .ref ru, .ref fo, .ref go, .ref fd, .ref tr, .int (nI xb), .int (nI xs)]))]) (rest := []) (As := [.int (nI (zn u1)), .int (nI (zn u2))]) F B (kX0_literalOf l D cI cZ cG cJ fo mo pv va fh fs fk lo so to la nl cl fl sa ns cs ft Cs (zn u1) (zn u2) (hF) (hwl) (hws) (by omega) (by omega)) hl.1 (C := RX0) (T := TX0) (N := 9) (ci := 2) (q0 := 3) gX7_literal_X0_literalOf rfl 2 yX7_literal_X0_literalOf rfl rfl rfl [3, 1, 2, 4, 5] [0] rfl rfl rfl rfl (by decide) (Nat.le_of_ble_eq_true rfl) (Nat.le_of_ble_eq_true rfl) (Nat.le_of_ble_eq_true rfl) rfl dX7_literal_44 (show 0 + 0 ≤ 0 by omega) (show 0 + 0 ≤ 0 by omega) (fun vv ww H locs hRR B => ?_)
        obtain ⟨rfl, rfl⟩ := hRR
        have B : zB D (zT cI cZ cG cJ) A s.heap s [(xo, .inr (9, [.ref mo, .ref ru, .ref fo, .ref go, .ref fd, .ref tr, .int (nI xb), .int (nI xs)])), (fo, .inr (2, [.ref mo, .int (nI pv), .int (nI va), .int (nI fh), .int (nI fs), .int (nI fk), .ref lo, .ref so, .ref to])), (lo, .inr (6, [.ref la, .int (nI nl)])), (la, .inl (cI, cl, .inl fl)), (so, .inr (6, [.ref sa, .int (nI ns)])), (sa, .inl (cI, cs, .inl ft))] _ _ := B
        refine W.eq (g2 := F0 m 47 ls [.int (nI (zlit Cs (zn u1) (zn u2)))]) rfl ?_
        exact z_iret F hr hlk B [0, 1, 2, 3, 4, 5] rfl (rfl) dX7_literal_47 (by omega) (by omega) ⟨by rw [zif_t ⟨by omega, g1, g2⟩], rfl⟩
      · refine W.eq (g2 := F0 m 33 ls [.int 0]) rfl ?_
        have g2 : ¬ zq u2 (zlen Cs (zn u1)) := fun q9 => g2 ((zqI (by omega)).mpr q9)
        refine lv_if_ne (tgt := 38) F.1 F.2.1 dX7_literal_33 (by decide) (fun hq => absurd (by decide) hq) (fun _ => ?_)
        refine lv_iconst (v := (-1)) F.1 F.2.1 dX7_literal_36 (by decide) ?_
        exact z_iret F hr hlk B [0, 3, 1, 2, 4, 5] rfl (rfl) dX7_literal_37 (by omega) (by omega) ⟨by rw [zif_f (by intro q9; first | exact absurd q9.1 (by omega) | exact g1 q9.2.1 | exact g2 q9.2.2)], rfl⟩
    · refine W.eq (g2 := F0 m 18 ls [.int 0]) rfl ?_
      have g1 : ¬ zq u1 Cs.length := fun q9 => g1 ((zqI (by omega)).mpr q9)
      refine lv_if_eq (tgt := 36) F.1 F.2.1 dX7_literal_18 (by decide) (fun _ => ?_) (fun hq => absurd (by decide) hq)
      refine lv_iconst (v := (-1)) F.1 F.2.1 dX7_literal_36 (by decide) ?_
      exact z_iret F hr hlk B [0, 4, 1, 2, 5, 3] rfl (rfl) dX7_literal_37 (by omega) (by omega) ⟨by rw [zif_f (by intro q9; first | exact absurd q9.1 (by omega) | exact g1 q9.2.1 | exact g2 q9.2.2)], rfl⟩
theorem iX7_three_X7 : ∀ w ∈ u_ws RX7 TX7 8, w ∈ wsX7_three := by decide +kernel
theorem fX7_three_59 : Cond.fieldLink RX7 59 "TourChain" "built" "Z" ∈ wsX7_three := by decide +kernel
theorem fX7_three_28 : Cond.fieldLink RX7 28 "TourChain" "formula" "LTourChain$Formula;" ∈ wsX7_three := by decide +kernel
theorem yX7_three_X0_threes : yX0_threes.cls = RX0 ∧ yX0_threes.cls ≠ "java/lang/invoke/MethodHandle" ∧ yX0_threes.cls ≠ "java/lang/invoke/VarHandle" ∧ (parseMethodDescriptor yX0_threes.desc).map (fun d => d.parameters.length) = some 0 := by decide +kernel
theorem yX7_three_X7_isIndex : yX7_isIndex.cls = RX7 ∧ yX7_isIndex.cls ≠ "java/lang/invoke/MethodHandle" ∧ yX7_isIndex.cls ≠ "java/lang/invoke/VarHandle" ∧ (parseMethodDescriptor yX7_isIndex.desc).map (fun d => d.parameters.length) = some 2 := by decide +kernel
theorem yX7_three_X0_literalOfThree : yX0_literalOfThree.cls = RX0 ∧ yX0_literalOfThree.cls ≠ "java/lang/invoke/MethodHandle" ∧ yX0_literalOfThree.cls ≠ "java/lang/invoke/VarHandle" ∧ (parseMethodDescriptor yX0_literalOfThree.desc).map (fun d => d.parameters.length) = some 2 := by decide +kernel
set_option maxHeartbeats 4000000 in
set_option maxRecDepth 100000 in
theorem kX7_three (l : Launch) (D : va_G) (cI cZ cG cJ : ClassId) (xo : Nat) (mo : Nat) (ru : Nat) (fo : Nat) (go : Nat) (fd : Nat) (tr : Nat) (xb : Nat) (xs : Nat) (pv : Nat) (va : Nat) (fh : Nat) (fs : Nat) (fk : Nat) (lo : Nat) (so : Nat) (to : Nat) (tw : Nat) (nt : Nat) (ct : Nat) (f3 : Nat → Int32) (L3 : List Nat) (n3 : Nat) (u1 : Int32) (u2 : Int32) (hxb : xb ≤ 1) (hxs : xs ≤ 1) (hb : xb = 1 → nt = 3 * n3 ∧ zR f3 nt L3 ∧ zW nt ct) : zC l yX7_three wsX7_three 1 22 0 0 D (zT cI cZ cG cJ) [.ref xo, .int u1, .int u2] [(xo, .inr (9, [.ref mo, .ref ru, .ref fo, .ref go, .ref fd, .ref tr, .int (nI xb), .int (nI xs)])), (fo, .inr (2, [.ref mo, .int (nI pv), .int (nI va), .int (nI fh), .int (nI fs), .int (nI fk), .ref lo, .ref so, .ref to])), (to, .inr (6, [.ref tw, .int (nI nt)])), (tw, .inl (cI, ct, .inl f3))] (fun (ov : Option Value) (ow : va_W) => ov = some (.int (zif (xb = 1 ∧ zq u1 n3 ∧ zq u2 3) (nI (L3.getD (3 * zn u1 + zn u2) 0)) (-1))) ∧ ow = [(xo, .inr (9, [.ref mo, .ref ru, .ref fo, .ref go, .ref fd, .ref tr, .int (nI xb), .int (nI xs)])), (fo, .inr (2, [.ref mo, .int (nI pv), .int (nI va), .int (nI fh), .int (nI fs), .int (nI fk), .ref lo, .ref so, .ref to])), (to, .inr (6, [.ref tw, .int (nI nt)])), (tw, .inl (cI, ct, .inl f3))]) := by
  refine zC.of (cc := cX7_three) (maxL := 3) (ret := (some .int)) (by decide) rfl (Nat.le_of_ble_eq_true rfl) ?_
  intro p e s m below meth c A ls F hr hlk hnm B hl
  have hl : lv_has ls 3 [(0, .ref xo), (1, .int u1), (2, .int u2)] := hl
  refine lv_aload_n F.1 F.2.1 dX7_three_0 rfl (lv_at hl 0 rfl) ?_
  refine z_get F B 0 rfl (ci := 9) (C := RX7) (T := TX7) (N := 8) rfl iX7_three_X7 6 (by decide) fX7_three_59 rfl dX7_three_1 ?_
  refine z_if_eq (tgt := 29) F (by omega) dX7_three_4 (by decide) (fun c4 => ?_) (fun c4 => ?_)
  · refine lv_iconst (v := (-1)) F.1 F.2.1 dX7_three_29 (by decide) ?_
    exact z_iret F hr hlk B [0, 1, 2, 3] rfl (rfl) dX7_three_30 (by omega) (by omega) ⟨by rw [zif_f (by intro q9; first | exact absurd q9.1 (by omega) | exact g1 q9.2.1 | exact g2 q9.2.2)], rfl⟩
  · obtain ⟨hnt, hR, hwt⟩ := hb (by omega)
    have hnw := hwt.2.1; have hnw2 := hwt.2.2
    refine lv_iload_n F.1 F.2.1 dX7_three_7 rfl (lv_at hl 1 rfl) ?_
    refine lv_aload_n F.1 F.2.1 dX7_three_8 rfl (lv_at hl 0 rfl) ?_
    refine z_get F B 0 rfl (ci := 9) (C := RX7) (T := TX7) (N := 8) rfl iX7_three_X7 2 (by decide) fX7_three_28 rfl dX7_three_9 ?_
    refine z_callV (wr := [(xo, .inr (9, [.ref mo, .ref ru, .ref fo, .ref go, .ref fd, .ref tr, .int (nI xb), .int (nI xs)])), (tw, .inl (cI, ct, .inl f3))]) (rest := [.int u1]) (As := []) F B (kX0_threes l D cI cZ cG cJ fo mo pv va fh fs fk lo so to tw nt (by omega)) hl.1 (C := RX0) (T := TX0) (N := 9) (ci := 2) (q0 := 1) gX7_three_X0_threes rfl 0 yX7_three_X0_threes rfl rfl rfl [1, 2] [0, 3] rfl rfl rfl rfl (by decide) (Nat.le_of_ble_eq_true rfl) (Nat.le_of_ble_eq_true rfl) (Nat.le_of_ble_eq_true rfl) rfl dX7_three_12 (show 0 + 0 ≤ 0 by omega) (show 0 + 0 ≤ 0 by omega) (fun vv ww H locs hRR B => ?_)
    obtain ⟨rfl, rfl⟩ := hRR
    have B : zB D (zT cI cZ cG cJ) A s.heap s [(xo, .inr (9, [.ref mo, .ref ru, .ref fo, .ref go, .ref fd, .ref tr, .int (nI xb), .int (nI xs)])), (tw, .inl (cI, ct, .inl f3)), (fo, .inr (2, [.ref mo, .int (nI pv), .int (nI va), .int (nI fh), .int (nI fs), .int (nI fk), .ref lo, .ref so, .ref to])), (to, .inr (6, [.ref tw, .int (nI nt)]))] _ _ := B
    refine W.eq (g2 := F0 m 15 ls [.int (nI (nt / 3)), .int u1]) rfl ?_
    refine W.eq (g2 := F0 m 15 ls [.int (nI n3), .int u1]) (by rw [hnt, Nat.mul_div_cancel_left n3 (show 0 < 3 by decide)]) ?_
    refine z_callS (wr := [(xo, .inr (9, [.ref mo, .ref ru, .ref fo, .ref go, .ref fd, .ref tr, .int (nI xb), .int (nI xs)])), (tw, .inl (cI, ct, .inl f3)), (fo, .inr (2, [.ref mo, .int (nI pv), .int (nI va), .int (nI fh), .int (nI fs), .int (nI fk), .ref lo, .ref so, .ref to])), (to, .inr (6, [.ref tw, .int (nI nt)]))]) (rest := []) (As := [.int u1, .int (nI n3)]) F B (kX7_isIndex l D cI cZ cG cJ u1 (nI n3)) hl.1 gX7_three_X7_isIndex rfl 2 yX7_three_X7_isIndex rfl [] [0, 1, 2, 3] rfl rfl rfl rfl (by decide) (Nat.le_of_ble_eq_true rfl) (Nat.le_of_ble_eq_true rfl) (Nat.le_of_ble_eq_true rfl) rfl dX7_three_15 (show 0 + 0 ≤ 0 by omega) (show 0 + 0 ≤ 0 by omega) (fun vv ww H locs hRR B => ?_)
    obtain ⟨r_1, rfl, rfl, hb_2⟩ := hRR
    have B : zB D (zT cI cZ cG cJ) A s.heap s [(xo, .inr (9, [.ref mo, .ref ru, .ref fo, .ref go, .ref fd, .ref tr, .int (nI xb), .int (nI xs)])), (tw, .inl (cI, ct, .inl f3)), (fo, .inr (2, [.ref mo, .int (nI pv), .int (nI va), .int (nI fh), .int (nI fs), .int (nI fk), .ref lo, .ref so, .ref to])), (to, .inr (6, [.ref tw, .int (nI nt)]))] _ _ := B
    rcases hb_2 with ⟨hr1, g1⟩ | ⟨hr1, g1⟩ <;> subst hr1
    · refine W.eq (g2 := F0 m 18 ls [.int 1]) rfl ?_
      have g1 := (zqI (by omega)).mp g1
      have g1e := zn_eq g1.1
      have g1l := zn_lt g1
      rw [g1e] at hl
      have hl : lv_has ls 3 [(0, .ref xo), (1, .int (nI (zn u1))), (2, .int u2)] := hl
      refine lv_if_eq (tgt := 29) F.1 F.2.1 dX7_three_18 (by decide) (fun hq => absurd hq (by decide)) (fun _ => ?_)
      refine lv_iload_n F.1 F.2.1 dX7_three_21 rfl (lv_at hl 2 rfl) ?_
      refine lv_iconst (v := (nI 3)) F.1 F.2.1 dX7_three_22 (by decide) ?_
      refine z_callS (wr := [(xo, .inr (9, [.ref mo, .ref ru, .ref fo, .ref go, .ref fd, .ref tr, .int (nI xb), .int (nI xs)])), (tw, .inl (cI, ct, .inl f3)), (fo, .inr (2, [.ref mo, .int (nI pv), .int (nI va), .int (nI fh), .int (nI fs), .int (nI fk), .ref lo, .ref so, .ref to])), (to, .inr (6, [.ref tw, .int (nI nt)]))]) (rest := []) (As := [.int u2, .int (nI 3)]) F B (kX7_isIndex l D cI cZ cG cJ u2 (nI 3)) hl.1 gX7_three_X7_isIndex rfl 2 yX7_three_X7_isIndex rfl [] [0, 1, 2, 3] rfl rfl rfl rfl (by decide) (Nat.le_of_ble_eq_true rfl) (Nat.le_of_ble_eq_true rfl) (Nat.le_of_ble_eq_true rfl) rfl dX7_three_23 (show 0 + 0 ≤ 0 by omega) (show 0 + 0 ≤ 0 by omega) (fun vv ww H locs hRR B => ?_)
      obtain ⟨r_3, rfl, rfl, hb_4⟩ := hRR
      have B : zB D (zT cI cZ cG cJ) A s.heap s [(xo, .inr (9, [.ref mo, .ref ru, .ref fo, .ref go, .ref fd, .ref tr, .int (nI xb), .int (nI xs)])), (tw, .inl (cI, ct, .inl f3)), (fo, .inr (2, [.ref mo, .int (nI pv), .int (nI va), .int (nI fh), .int (nI fs), .int (nI fk), .ref lo, .ref so, .ref to])), (to, .inr (6, [.ref tw, .int (nI nt)]))] _ _ := B
      rcases hb_4 with ⟨hr1, g2⟩ | ⟨hr1, g2⟩ <;> subst hr1
      · refine W.eq (g2 := F0 m 26 ls [.int 1]) rfl ?_
        have g2 := (zqI (by omega)).mp g2
        have g2e := zn_eq g2.1
        have g2l := zn_lt g2
        rw [g2e] at hl
        have hl : lv_has ls 3 [(0, .ref xo), (1, .int (nI (zn u1))), (2, .int (nI (zn u2)))] := hl
        refine lv_if_ne (tgt := 31) F.1 F.2.1 dX7_three_26 (by decide) (fun _ => ?_) (fun hq => absurd hq (by decide))
        refine lv_aload_n F.1 F.2.1 dX7_three_31 rfl (lv_at hl 0 rfl) ?_
        refine z_get F B 0 rfl (ci := 9) (C := RX7) (T := TX7) (N := 8) rfl iX7_three_X7 2 (by decide) fX7_three_28 rfl dX7_three_32 ?_
        refine lv_iload_n F.1 F.2.1 dX7_three_35 rfl (lv_at hl 1 rfl) ?_
        refine lv_iload_n F.1 F.2.1 dX7_three_36 rfl (lv_at hl 2 rfl) ?_
        refine z_callV (wr := [(xo, .inr (9, [.ref mo, .ref ru, .ref fo, .ref go, .ref fd, .ref tr, .int (nI xb), .int (nI xs)]))]) (rest := []) (As := [.int (nI (zn u1)), .int (nI (zn u2))]) F B (kX0_literalOfThree l D cI cZ cG cJ fo mo pv va fh fs fk lo so to tw nt ct f3 L3 (zn u1) (zn u2) (hR) (hwt) (by omega)) hl.1 (C := RX0) (T := TX0) (N := 9) (ci := 2) (q0 := 2) gX7_three_X0_literalOfThree rfl 2 yX7_three_X0_literalOfThree rfl rfl rfl [2, 3, 1] [0] rfl rfl rfl rfl (by decide) (Nat.le_of_ble_eq_true rfl) (Nat.le_of_ble_eq_true rfl) (Nat.le_of_ble_eq_true rfl) rfl dX7_three_37 (show 0 + 0 ≤ 0 by omega) (show 0 + 0 ≤ 0 by omega) (fun vv ww H locs hRR B => ?_)
        obtain ⟨rfl, rfl⟩ := hRR
        have B : zB D (zT cI cZ cG cJ) A s.heap s [(xo, .inr (9, [.ref mo, .ref ru, .ref fo, .ref go, .ref fd, .ref tr, .int (nI xb), .int (nI xs)])), (fo, .inr (2, [.ref mo, .int (nI pv), .int (nI va), .int (nI fh), .int (nI fs), .int (nI fk), .ref lo, .ref so, .ref to])), (to, .inr (6, [.ref tw, .int (nI nt)])), (tw, .inl (cI, ct, .inl f3))] _ _ := B
        refine W.eq (g2 := F0 m 40 ls [.int (nI (L3.getD (3 * (zn u1) + (zn u2)) 0))]) rfl ?_
        exact z_iret F hr hlk B [0, 1, 2, 3] rfl (rfl) dX7_three_40 (by omega) (by omega) ⟨by rw [zif_t ⟨by omega, g1, g2⟩], rfl⟩
      · refine W.eq (g2 := F0 m 26 ls [.int 0]) rfl ?_
        have g2 : ¬ zq u2 3 := fun q9 => g2 ((zqI (by omega)).mpr q9)
        refine lv_if_ne (tgt := 31) F.1 F.2.1 dX7_three_26 (by decide) (fun hq => absurd (by decide) hq) (fun _ => ?_)
        refine lv_iconst (v := (-1)) F.1 F.2.1 dX7_three_29 (by decide) ?_
        exact z_iret F hr hlk B [0, 2, 3, 1] rfl (rfl) dX7_three_30 (by omega) (by omega) ⟨by rw [zif_f (by intro q9; first | exact absurd q9.1 (by omega) | exact g1 q9.2.1 | exact g2 q9.2.2)], rfl⟩
    · refine W.eq (g2 := F0 m 18 ls [.int 0]) rfl ?_
      have g1 : ¬ zq u1 n3 := fun q9 => g1 ((zqI (by omega)).mpr q9)
      refine lv_if_eq (tgt := 29) F.1 F.2.1 dX7_three_18 (by decide) (fun _ => ?_) (fun hq => absurd (by decide) hq)
      refine lv_iconst (v := (-1)) F.1 F.2.1 dX7_three_29 (by decide) ?_
      exact z_iret F hr hlk B [0, 2, 3, 1] rfl (rfl) dX7_three_30 (by omega) (by omega) ⟨by rw [zif_f (by intro q9; first | exact absurd q9.1 (by omega) | exact g1 q9.2.1 | exact g2 q9.2.2)], rfl⟩
theorem iX7_end_X7 : ∀ w ∈ u_ws RX7 TX7 8, w ∈ wsX7_end := by decide +kernel
theorem fX7_end_59 : Cond.fieldLink RX7 59 "TourChain" "built" "Z" ∈ wsX7_end := by decide +kernel
theorem fX7_end_37 : Cond.fieldLink RX7 37 "TourChain" "graph" "LTourChain$Graph;" ∈ wsX7_end := by decide +kernel
theorem iX7_end_X2 : ∀ w ∈ u_ws RX2 TX2 9, w ∈ wsX7_end := by decide +kernel
theorem fX7_end_128 : Cond.fieldLink RX7 128 "TourChain$Graph" "edges" "I" ∈ wsX7_end := by decide +kernel
theorem yX7_end_X7_isIndex : yX7_isIndex.cls = RX7 ∧ yX7_isIndex.cls ≠ "java/lang/invoke/MethodHandle" ∧ yX7_isIndex.cls ≠ "java/lang/invoke/VarHandle" ∧ (parseMethodDescriptor yX7_isIndex.desc).map (fun d => d.parameters.length) = some 2 := by decide +kernel
theorem fX7_end_145 : Cond.fieldLink RX7 145 "TourChain$Graph" "vertexAt" "[I" ∈ wsX7_end := by decide +kernel
set_option maxHeartbeats 4000000 in
set_option maxRecDepth 100000 in
theorem kX7_end (l : Launch) (D : va_G) (cI cZ cG cJ : ClassId) (xo : Nat) (mo : Nat) (ru : Nat) (fo : Nat) (go : Nat) (fd : Nat) (tr : Nat) (xb : Nat) (xs : Nat) (ve : Nat) (ed : Nat) (se : Nat) (ci : Nat) (gva : Nat) (gsi : Nat) (gsd : Nat) (gst : Nat) (cv : Nat) (fv : Nat → Int32) (w : Nat → Nat) (u1 : Int32) (u2 : Int32) (hxb : xb ≤ 1) (hxs : xs ≤ 1) (hb : xb = 1 → 2 * ed ≤ cv ∧ cv ≤ 1000000 ∧ ∀ d, d < 2 * ed → fv d = nI (w d)) : zC l yX7_end wsX7_end 1 21 0 0 D (zT cI cZ cG cJ) [.ref xo, .int u1, .int u2] [(xo, .inr (9, [.ref mo, .ref ru, .ref fo, .ref go, .ref fd, .ref tr, .int (nI xb), .int (nI xs)])), (go, .inr (4, [.ref fo, .int (nI ve), .int (nI ed), .int (nI se), .int (nI ci), .ref gva, .ref gsi, .ref gsd, .ref gst])), (gva, .inl (cI, cv, .inl fv))] (fun (ov : Option Value) (ow : va_W) => ov = some (.int (zif (xb = 1 ∧ zq u1 ed ∧ zq u2 2) (nI (w (2 * zn u1 + zn u2))) (-1))) ∧ ow = [(xo, .inr (9, [.ref mo, .ref ru, .ref fo, .ref go, .ref fd, .ref tr, .int (nI xb), .int (nI xs)])), (go, .inr (4, [.ref fo, .int (nI ve), .int (nI ed), .int (nI se), .int (nI ci), .ref gva, .ref gsi, .ref gsd, .ref gst])), (gva, .inl (cI, cv, .inl fv))]) := by
  refine zC.of (cc := cX7_end) (maxL := 3) (ret := (some .int)) (by decide) rfl (Nat.le_of_ble_eq_true rfl) ?_
  intro p e s m below meth c A ls F hr hlk hnm B hl
  have hl : lv_has ls 3 [(0, .ref xo), (1, .int u1), (2, .int u2)] := hl
  refine lv_aload_n F.1 F.2.1 dX7_end_0 rfl (lv_at hl 0 rfl) ?_
  refine z_get F B 0 rfl (ci := 9) (C := RX7) (T := TX7) (N := 8) rfl iX7_end_X7 6 (by decide) fX7_end_59 rfl dX7_end_1 ?_
  refine z_if_eq (tgt := 29) F (by omega) dX7_end_4 (by decide) (fun c4 => ?_) (fun c4 => ?_)
  · refine lv_iconst (v := (-1)) F.1 F.2.1 dX7_end_29 (by decide) ?_
    exact z_iret F hr hlk B [0, 1, 2] rfl (rfl) dX7_end_30 (by omega) (by omega) ⟨by rw [zif_f (by intro q9; first | exact absurd q9.1 (by omega) | exact g1 q9.2.1 | exact g2 q9.2.2)], rfl⟩
  · obtain ⟨hb1, hb2, hb3⟩ := hb (by omega)
    refine lv_iload_n F.1 F.2.1 dX7_end_7 rfl (lv_at hl 1 rfl) ?_
    refine lv_aload_n F.1 F.2.1 dX7_end_8 rfl (lv_at hl 0 rfl) ?_
    refine z_get F B 0 rfl (ci := 9) (C := RX7) (T := TX7) (N := 8) rfl iX7_end_X7 3 (by decide) fX7_end_37 rfl dX7_end_9 ?_
    refine z_get F B 1 rfl (ci := 4) (C := RX2) (T := TX2) (N := 9) rfl iX7_end_X2 2 (by decide) fX7_end_128 rfl dX7_end_12 ?_
    refine z_callS (wr := [(xo, .inr (9, [.ref mo, .ref ru, .ref fo, .ref go, .ref fd, .ref tr, .int (nI xb), .int (nI xs)])), (go, .inr (4, [.ref fo, .int (nI ve), .int (nI ed), .int (nI se), .int (nI ci), .ref gva, .ref gsi, .ref gsd, .ref gst])), (gva, .inl (cI, cv, .inl fv))]) (rest := []) (As := [.int u1, .int (nI ed)]) F B (kX7_isIndex l D cI cZ cG cJ u1 (nI ed)) hl.1 gX7_end_X7_isIndex rfl 2 yX7_end_X7_isIndex rfl [] [0, 1, 2] rfl rfl rfl rfl (by decide) (Nat.le_of_ble_eq_true rfl) (Nat.le_of_ble_eq_true rfl) (Nat.le_of_ble_eq_true rfl) rfl dX7_end_15 (show 0 + 0 ≤ 0 by omega) (show 0 + 0 ≤ 0 by omega) (fun vv ww H locs hRR B => ?_)
    obtain ⟨r_1, rfl, rfl, hb_2⟩ := hRR
    have B : zB D (zT cI cZ cG cJ) A s.heap s [(xo, .inr (9, [.ref mo, .ref ru, .ref fo, .ref go, .ref fd, .ref tr, .int (nI xb), .int (nI xs)])), (go, .inr (4, [.ref fo, .int (nI ve), .int (nI ed), .int (nI se), .int (nI ci), .ref gva, .ref gsi, .ref gsd, .ref gst])), (gva, .inl (cI, cv, .inl fv))] _ _ := B
    rcases hb_2 with ⟨hr1, g1⟩ | ⟨hr1, g1⟩ <;> subst hr1
    · refine W.eq (g2 := F0 m 18 ls [.int 1]) rfl ?_
      have g1 := (zqI (by omega)).mp g1
      have g1e := zn_eq g1.1
      have g1l := zn_lt g1
      rw [g1e] at hl
      have hl : lv_has ls 3 [(0, .ref xo), (1, .int (nI (zn u1))), (2, .int u2)] := hl
      refine lv_if_eq (tgt := 29) F.1 F.2.1 dX7_end_18 (by decide) (fun hq => absurd hq (by decide)) (fun _ => ?_)
      refine lv_iload_n F.1 F.2.1 dX7_end_21 rfl (lv_at hl 2 rfl) ?_
      refine lv_iconst (v := (nI 2)) F.1 F.2.1 dX7_end_22 (by decide) ?_
      refine z_callS (wr := [(xo, .inr (9, [.ref mo, .ref ru, .ref fo, .ref go, .ref fd, .ref tr, .int (nI xb), .int (nI xs)])), (go, .inr (4, [.ref fo, .int (nI ve), .int (nI ed), .int (nI se), .int (nI ci), .ref gva, .ref gsi, .ref gsd, .ref gst])), (gva, .inl (cI, cv, .inl fv))]) (rest := []) (As := [.int u2, .int (nI 2)]) F B (kX7_isIndex l D cI cZ cG cJ u2 (nI 2)) hl.1 gX7_end_X7_isIndex rfl 2 yX7_end_X7_isIndex rfl [] [0, 1, 2] rfl rfl rfl rfl (by decide) (Nat.le_of_ble_eq_true rfl) (Nat.le_of_ble_eq_true rfl) (Nat.le_of_ble_eq_true rfl) rfl dX7_end_23 (show 0 + 0 ≤ 0 by omega) (show 0 + 0 ≤ 0 by omega) (fun vv ww H locs hRR B => ?_)
      obtain ⟨r_3, rfl, rfl, hb_4⟩ := hRR
      have B : zB D (zT cI cZ cG cJ) A s.heap s [(xo, .inr (9, [.ref mo, .ref ru, .ref fo, .ref go, .ref fd, .ref tr, .int (nI xb), .int (nI xs)])), (go, .inr (4, [.ref fo, .int (nI ve), .int (nI ed), .int (nI se), .int (nI ci), .ref gva, .ref gsi, .ref gsd, .ref gst])), (gva, .inl (cI, cv, .inl fv))] _ _ := B
      rcases hb_4 with ⟨hr1, g2⟩ | ⟨hr1, g2⟩ <;> subst hr1
      · refine W.eq (g2 := F0 m 26 ls [.int 1]) rfl ?_
        have g2 := (zqI (by omega)).mp g2
        have g2e := zn_eq g2.1
        have g2l := zn_lt g2
        rw [g2e] at hl
        have hl : lv_has ls 3 [(0, .ref xo), (1, .int (nI (zn u1))), (2, .int (nI (zn u2)))] := hl
        refine lv_if_ne (tgt := 31) F.1 F.2.1 dX7_end_26 (by decide) (fun _ => ?_) (fun hq => absurd hq (by decide))
        refine lv_aload_n F.1 F.2.1 dX7_end_31 rfl (lv_at hl 0 rfl) ?_
        refine z_get F B 0 rfl (ci := 9) (C := RX7) (T := TX7) (N := 8) rfl iX7_end_X7 3 (by decide) fX7_end_37 rfl dX7_end_32 ?_
        refine z_get F B 1 rfl (ci := 4) (C := RX2) (T := TX2) (N := 9) rfl iX7_end_X2 5 (by decide) fX7_end_145 rfl dX7_end_35 ?_
        refine lv_iconst (v := (nI 2)) F.1 F.2.1 dX7_end_38 (by decide) ?_
        refine lv_iload_n F.1 F.2.1 dX7_end_39 rfl (lv_at hl 1 rfl) ?_
        refine z_imul F dX7_end_40 ?_
        refine lv_iload_n F.1 F.2.1 dX7_end_41 rfl (lv_at hl 2 rfl) ?_
        refine z_iadd F dX7_end_42 ?_
        refine z_iald F B 2 0 rfl rfl (j := 2 * (zn u1) + (zn u2)) (by omega) (by omega) dX7_end_43 ?_
        refine W.eq (g2 := F0 m 44 ls [.int (nI (w (2 * zn u1 + zn u2)))]) (by rw [hb3 (2 * zn u1 + zn u2) (by omega)]) ?_
        exact z_iret F hr hlk B [0, 1, 2] rfl (rfl) dX7_end_44 (by omega) (by omega) ⟨by rw [zif_t ⟨by omega, g1, g2⟩], rfl⟩
      · refine W.eq (g2 := F0 m 26 ls [.int 0]) rfl ?_
        have g2 : ¬ zq u2 2 := fun q9 => g2 ((zqI (by omega)).mpr q9)
        refine lv_if_ne (tgt := 31) F.1 F.2.1 dX7_end_26 (by decide) (fun hq => absurd (by decide) hq) (fun _ => ?_)
        refine lv_iconst (v := (-1)) F.1 F.2.1 dX7_end_29 (by decide) ?_
        exact z_iret F hr hlk B [0, 1, 2] rfl (rfl) dX7_end_30 (by omega) (by omega) ⟨by rw [zif_f (by intro q9; first | exact absurd q9.1 (by omega) | exact g1 q9.2.1 | exact g2 q9.2.2)], rfl⟩
    · refine W.eq (g2 := F0 m 18 ls [.int 0]) rfl ?_
      have g1 : ¬ zq u1 ed := fun q9 => g1 ((zqI (by omega)).mpr q9)
      refine lv_if_eq (tgt := 29) F.1 F.2.1 dX7_end_18 (by decide) (fun _ => ?_) (fun hq => absurd (by decide) hq)
      refine lv_iconst (v := (-1)) F.1 F.2.1 dX7_end_29 (by decide) ?_
      exact z_iret F hr hlk B [0, 1, 2] rfl (rfl) dX7_end_30 (by omega) (by omega) ⟨by rw [zif_f (by intro q9; first | exact absurd q9.1 (by omega) | exact g1 q9.2.1 | exact g2 q9.2.2)], rfl⟩
theorem iX7_apart_X7 : ∀ w ∈ u_ws RX7 TX7 8, w ∈ wsX7_apart := by decide +kernel
theorem fX7_apart_59 : Cond.fieldLink RX7 59 "TourChain" "built" "Z" ∈ wsX7_apart := by decide +kernel
theorem fX7_apart_37 : Cond.fieldLink RX7 37 "TourChain" "graph" "LTourChain$Graph;" ∈ wsX7_apart := by decide +kernel
theorem iX7_apart_X2 : ∀ w ∈ u_ws RX2 TX2 9, w ∈ wsX7_apart := by decide +kernel
theorem fX7_apart_110 : Cond.fieldLink RX7 110 "TourChain$Graph" "cities" "I" ∈ wsX7_apart := by decide +kernel
theorem yX7_apart_X7_isIndex : yX7_isIndex.cls = RX7 ∧ yX7_isIndex.cls ≠ "java/lang/invoke/MethodHandle" ∧ yX7_isIndex.cls ≠ "java/lang/invoke/VarHandle" ∧ (parseMethodDescriptor yX7_isIndex.desc).map (fun d => d.parameters.length) = some 2 := by decide +kernel
theorem yX7_apart_X2_distance : yX2_distance.cls = RX2 ∧ yX2_distance.cls ≠ "java/lang/invoke/MethodHandle" ∧ yX2_distance.cls ≠ "java/lang/invoke/VarHandle" ∧ (parseMethodDescriptor yX2_distance.desc).map (fun d => d.parameters.length) = some 2 := by decide +kernel
set_option maxHeartbeats 4000000 in
set_option maxRecDepth 100000 in
theorem kX7_apart (l : Launch) (D : va_G) (cI cZ cG cJ : ClassId) (xo : Nat) (mo : Nat) (ru : Nat) (fo : Nat) (go : Nat) (fd : Nat) (tr : Nat) (xb : Nat) (xs : Nat) (ve : Nat) (ed : Nat) (se : Nat) (ci : Nat) (gva : Nat) (gsi : Nat) (gsd : Nat) (gst : Nat) (cv : Nat) (fv : Nat → Int32) (c2 : Nat) (f2 : Nat → Int32) (c3 : Nat) (f3s : Nat → Int32) (w : Nat → Nat) (u1 : Int32) (u2 : Int32) (hxb : xb ≤ 1) (hxs : xs ≤ 1) (hb : xb = 1 → ci ≤ 1000000 ∧ (ed ≤ 100000) ∧ (ve ≤ 100000) ∧ ((2 * ed) ≤ cv) ∧ (cv ≤ 1000000) ∧ ((2 * ed) ≤ c2) ∧ (ve + 1 ≤ c3) ∧ (c2 ≤ 1000000) ∧ (c3 ≤ 1000000) ∧ (∀ d, d < (2 * ed) → fv d = nI (w d)) ∧ (∀ d, d < (2 * ed) → w d < ve) ∧ (∀ u, u ≤ ve → f3s u = nI (zc (zlt w u) (2 * ed))) ∧ (∀ d, d < (2 * ed) → f2 d = nI (zpos w (2 * ed) d))) : zC l yX7_apart wsX7_apart 3 71 0 0 D (zT cI cZ cG cJ) [.ref xo, .int u1, .int u2] [(xo, .inr (9, [.ref mo, .ref ru, .ref fo, .ref go, .ref fd, .ref tr, .int (nI xb), .int (nI xs)])), (go, .inr (4, [.ref fo, .int (nI ve), .int (nI ed), .int (nI se), .int (nI ci), .ref gva, .ref gsi, .ref gsd, .ref gst])), (gva, .inl (cI, cv, .inl fv)), (gsd, .inl (cI, c2, .inl f2)), (gst, .inl (cI, c3, .inl f3s))] (fun (ov : Option Value) (ow : va_W) => ov = some (.int (zif (xb = 1 ∧ zq u1 ci ∧ zq u2 ci) (nI (zdist w ed (zn u1) (zn u2))) (-1))) ∧ ow = [(xo, .inr (9, [.ref mo, .ref ru, .ref fo, .ref go, .ref fd, .ref tr, .int (nI xb), .int (nI xs)])), (go, .inr (4, [.ref fo, .int (nI ve), .int (nI ed), .int (nI se), .int (nI ci), .ref gva, .ref gsi, .ref gsd, .ref gst])), (gva, .inl (cI, cv, .inl fv)), (gsd, .inl (cI, c2, .inl f2)), (gst, .inl (cI, c3, .inl f3s))]) := by
  refine zC.of (cc := cX7_apart) (maxL := 3) (ret := (some .int)) (by decide) rfl (Nat.le_of_ble_eq_true rfl) ?_
  intro p e s m below meth c A ls F hr hlk hnm B hl
  have hl : lv_has ls 3 [(0, .ref xo), (1, .int u1), (2, .int u2)] := hl
  refine lv_aload_n F.1 F.2.1 dX7_apart_0 rfl (lv_at hl 0 rfl) ?_
  refine z_get F B 0 rfl (ci := 9) (C := RX7) (T := TX7) (N := 8) rfl iX7_apart_X7 6 (by decide) fX7_apart_59 rfl dX7_apart_1 ?_
  refine z_if_eq (tgt := 35) F (by omega) dX7_apart_4 (by decide) (fun c4 => ?_) (fun c4 => ?_)
  · refine lv_iconst (v := (-1)) F.1 F.2.1 dX7_apart_35 (by decide) ?_
    exact z_iret F hr hlk B [0, 1, 2, 3, 4] rfl (rfl) dX7_apart_36 (by omega) (by omega) ⟨by rw [zif_f (by intro q9; first | exact absurd q9.1 (by omega) | exact g1 q9.2.1 | exact g2 q9.2.2)], rfl⟩
  · obtain ⟨hci, h2, h3, h4, h5, h7, h8, h9, h10, hv, hw, hst, hsd⟩ := hb (by omega)
    refine lv_iload_n F.1 F.2.1 dX7_apart_7 rfl (lv_at hl 1 rfl) ?_
    refine lv_aload_n F.1 F.2.1 dX7_apart_8 rfl (lv_at hl 0 rfl) ?_
    refine z_get F B 0 rfl (ci := 9) (C := RX7) (T := TX7) (N := 8) rfl iX7_apart_X7 3 (by decide) fX7_apart_37 rfl dX7_apart_9 ?_
    refine z_get F B 1 rfl (ci := 4) (C := RX2) (T := TX2) (N := 9) rfl iX7_apart_X2 4 (by decide) fX7_apart_110 rfl dX7_apart_12 ?_
    refine z_callS (wr := [(xo, .inr (9, [.ref mo, .ref ru, .ref fo, .ref go, .ref fd, .ref tr, .int (nI xb), .int (nI xs)])), (go, .inr (4, [.ref fo, .int (nI ve), .int (nI ed), .int (nI se), .int (nI ci), .ref gva, .ref gsi, .ref gsd, .ref gst])), (gva, .inl (cI, cv, .inl fv)), (gsd, .inl (cI, c2, .inl f2)), (gst, .inl (cI, c3, .inl f3s))]) (rest := []) (As := [.int u1, .int (nI ci)]) F B (kX7_isIndex l D cI cZ cG cJ u1 (nI ci)) hl.1 gX7_apart_X7_isIndex rfl 2 yX7_apart_X7_isIndex rfl [] [0, 1, 2, 3, 4] rfl rfl rfl rfl (by decide) (Nat.le_of_ble_eq_true rfl) (Nat.le_of_ble_eq_true rfl) (Nat.le_of_ble_eq_true rfl) rfl dX7_apart_15 (show 0 + 0 ≤ 0 by omega) (show 0 + 0 ≤ 0 by omega) (fun vv ww H locs hRR B => ?_)
    obtain ⟨r_1, rfl, rfl, hb_2⟩ := hRR
    have B : zB D (zT cI cZ cG cJ) A s.heap s [(xo, .inr (9, [.ref mo, .ref ru, .ref fo, .ref go, .ref fd, .ref tr, .int (nI xb), .int (nI xs)])), (go, .inr (4, [.ref fo, .int (nI ve), .int (nI ed), .int (nI se), .int (nI ci), .ref gva, .ref gsi, .ref gsd, .ref gst])), (gva, .inl (cI, cv, .inl fv)), (gsd, .inl (cI, c2, .inl f2)), (gst, .inl (cI, c3, .inl f3s))] _ _ := B
    rcases hb_2 with ⟨hr1, g1⟩ | ⟨hr1, g1⟩ <;> subst hr1
    · refine W.eq (g2 := F0 m 18 ls [.int 1]) rfl ?_
      have g1 := (zqI (by omega)).mp g1
      have g1e := zn_eq g1.1
      have g1l := zn_lt g1
      rw [g1e] at hl
      have hl : lv_has ls 3 [(0, .ref xo), (1, .int (nI (zn u1))), (2, .int u2)] := hl
      refine lv_if_eq (tgt := 35) F.1 F.2.1 dX7_apart_18 (by decide) (fun hq => absurd hq (by decide)) (fun _ => ?_)
      refine lv_iload_n F.1 F.2.1 dX7_apart_21 rfl (lv_at hl 2 rfl) ?_
      refine lv_aload_n F.1 F.2.1 dX7_apart_22 rfl (lv_at hl 0 rfl) ?_
      refine z_get F B 0 rfl (ci := 9) (C := RX7) (T := TX7) (N := 8) rfl iX7_apart_X7 3 (by decide) fX7_apart_37 rfl dX7_apart_23 ?_
      refine z_get F B 1 rfl (ci := 4) (C := RX2) (T := TX2) (N := 9) rfl iX7_apart_X2 4 (by decide) fX7_apart_110 rfl dX7_apart_26 ?_
      refine z_callS (wr := [(xo, .inr (9, [.ref mo, .ref ru, .ref fo, .ref go, .ref fd, .ref tr, .int (nI xb), .int (nI xs)])), (go, .inr (4, [.ref fo, .int (nI ve), .int (nI ed), .int (nI se), .int (nI ci), .ref gva, .ref gsi, .ref gsd, .ref gst])), (gva, .inl (cI, cv, .inl fv)), (gsd, .inl (cI, c2, .inl f2)), (gst, .inl (cI, c3, .inl f3s))]) (rest := []) (As := [.int u2, .int (nI ci)]) F B (kX7_isIndex l D cI cZ cG cJ u2 (nI ci)) hl.1 gX7_apart_X7_isIndex rfl 2 yX7_apart_X7_isIndex rfl [] [0, 1, 2, 3, 4] rfl rfl rfl rfl (by decide) (Nat.le_of_ble_eq_true rfl) (Nat.le_of_ble_eq_true rfl) (Nat.le_of_ble_eq_true rfl) rfl dX7_apart_29 (show 0 + 0 ≤ 0 by omega) (show 0 + 0 ≤ 0 by omega) (fun vv ww H locs hRR B => ?_)
      obtain ⟨r_3, rfl, rfl, hb_4⟩ := hRR
      have B : zB D (zT cI cZ cG cJ) A s.heap s [(xo, .inr (9, [.ref mo, .ref ru, .ref fo, .ref go, .ref fd, .ref tr, .int (nI xb), .int (nI xs)])), (go, .inr (4, [.ref fo, .int (nI ve), .int (nI ed), .int (nI se), .int (nI ci), .ref gva, .ref gsi, .ref gsd, .ref gst])), (gva, .inl (cI, cv, .inl fv)), (gsd, .inl (cI, c2, .inl f2)), (gst, .inl (cI, c3, .inl f3s))] _ _ := B
      rcases hb_4 with ⟨hr1, g2⟩ | ⟨hr1, g2⟩ <;> subst hr1
      · refine W.eq (g2 := F0 m 32 ls [.int 1]) rfl ?_
        have g2 := (zqI (by omega)).mp g2
        have g2e := zn_eq g2.1
        have g2l := zn_lt g2
        rw [g2e] at hl
        have hl : lv_has ls 3 [(0, .ref xo), (1, .int (nI (zn u1))), (2, .int (nI (zn u2)))] := hl
        refine lv_if_ne (tgt := 37) F.1 F.2.1 dX7_apart_32 (by decide) (fun _ => ?_) (fun hq => absurd hq (by decide))
        refine lv_aload_n F.1 F.2.1 dX7_apart_37 rfl (lv_at hl 0 rfl) ?_
        refine z_get F B 0 rfl (ci := 9) (C := RX7) (T := TX7) (N := 8) rfl iX7_apart_X7 3 (by decide) fX7_apart_37 rfl dX7_apart_38 ?_
        refine lv_iload_n F.1 F.2.1 dX7_apart_41 rfl (lv_at hl 1 rfl) ?_
        refine lv_iload_n F.1 F.2.1 dX7_apart_42 rfl (lv_at hl 2 rfl) ?_
        refine z_callV (wr := [(xo, .inr (9, [.ref mo, .ref ru, .ref fo, .ref go, .ref fd, .ref tr, .int (nI xb), .int (nI xs)]))]) (rest := []) (As := [.int (nI (zn u1)), .int (nI (zn u2))]) F B (kX2_distance l D cI cZ cG cJ go fo ve ed se ci gva gsi gsd gst cv fv c2 f2 c3 f3s w (zn u1) (zn u2) (by omega) (by omega) (by omega) (by omega) (by omega) (by omega) (by omega) (by omega) (hv) (hw) (hst) (hsd) (by omega) (by omega)) hl.1 (C := RX2) (T := TX2) (N := 9) (ci := 4) (q0 := 1) gX7_apart_X2_distance rfl 2 yX7_apart_X2_distance rfl rfl rfl [1, 2, 3, 4] [0] rfl rfl rfl rfl (by decide) (Nat.le_of_ble_eq_true rfl) (Nat.le_of_ble_eq_true rfl) (Nat.le_of_ble_eq_true rfl) rfl dX7_apart_43 (show 0 + 0 ≤ 0 by omega) (show 0 + 0 ≤ 0 by omega) (fun vv ww H locs hRR B => ?_)
        obtain ⟨rfl, rfl⟩ := hRR
        have B : zB D (zT cI cZ cG cJ) A s.heap s [(xo, .inr (9, [.ref mo, .ref ru, .ref fo, .ref go, .ref fd, .ref tr, .int (nI xb), .int (nI xs)])), (go, .inr (4, [.ref fo, .int (nI ve), .int (nI ed), .int (nI se), .int (nI ci), .ref gva, .ref gsi, .ref gsd, .ref gst])), (gva, .inl (cI, cv, .inl fv)), (gsd, .inl (cI, c2, .inl f2)), (gst, .inl (cI, c3, .inl f3s))] _ _ := B
        refine W.eq (g2 := F0 m 46 ls [.int (nI (zdist w ed (zn u1) (zn u2)))]) rfl ?_
        exact z_iret F hr hlk B [0, 1, 2, 3, 4] rfl (rfl) dX7_apart_46 (by omega) (by omega) ⟨by rw [zif_t ⟨by omega, g1, g2⟩], rfl⟩
      · refine W.eq (g2 := F0 m 32 ls [.int 0]) rfl ?_
        have g2 : ¬ zq u2 ci := fun q9 => g2 ((zqI (by omega)).mpr q9)
        refine lv_if_ne (tgt := 37) F.1 F.2.1 dX7_apart_32 (by decide) (fun hq => absurd (by decide) hq) (fun _ => ?_)
        refine lv_iconst (v := (-1)) F.1 F.2.1 dX7_apart_35 (by decide) ?_
        exact z_iret F hr hlk B [0, 1, 2, 3, 4] rfl (rfl) dX7_apart_36 (by omega) (by omega) ⟨by rw [zif_f (by intro q9; first | exact absurd q9.1 (by omega) | exact g1 q9.2.1 | exact g2 q9.2.2)], rfl⟩
    · refine W.eq (g2 := F0 m 18 ls [.int 0]) rfl ?_
      have g1 : ¬ zq u1 ci := fun q9 => g1 ((zqI (by omega)).mpr q9)
      refine lv_if_eq (tgt := 35) F.1 F.2.1 dX7_apart_18 (by decide) (fun _ => ?_) (fun hq => absurd (by decide) hq)
      refine lv_iconst (v := (-1)) F.1 F.2.1 dX7_apart_35 (by decide) ?_
      exact z_iret F hr hlk B [0, 1, 2, 3, 4] rfl (rfl) dX7_apart_36 (by omega) (by omega) ⟨by rw [zif_f (by intro q9; first | exact absurd q9.1 (by omega) | exact g1 q9.2.1 | exact g2 q9.2.2)], rfl⟩
theorem iX7_count_X7 : ∀ w ∈ u_ws RX7 TX7 8, w ∈ wsX7_count := by decide +kernel
theorem fX7_count_59 : Cond.fieldLink RX7 59 "TourChain" "built" "Z" ∈ wsX7_count := by decide +kernel
theorem fX7_count_28 : Cond.fieldLink RX7 28 "TourChain" "formula" "LTourChain$Formula;" ∈ wsX7_count := by decide +kernel
theorem iX7_count_X0 : ∀ w ∈ u_ws RX0 TX0 9, w ∈ wsX7_count := by decide +kernel
theorem fX7_count_113 : Cond.fieldLink RX7 113 "TourChain$Formula" "plainVariables" "I" ∈ wsX7_count := by decide +kernel
theorem yX7_count_X0_clauses : yX0_clauses.cls = RX0 ∧ yX0_clauses.cls ≠ "java/lang/invoke/MethodHandle" ∧ yX0_clauses.cls ≠ "java/lang/invoke/VarHandle" ∧ (parseMethodDescriptor yX0_clauses.desc).map (fun d => d.parameters.length) = some 0 := by decide +kernel
theorem fX7_count_119 : Cond.fieldLink RX7 119 "TourChain$Formula" "variables" "I" ∈ wsX7_count := by decide +kernel
theorem yX7_count_X0_threes : yX0_threes.cls = RX0 ∧ yX0_threes.cls ≠ "java/lang/invoke/MethodHandle" ∧ yX0_threes.cls ≠ "java/lang/invoke/VarHandle" ∧ (parseMethodDescriptor yX0_threes.desc).map (fun d => d.parameters.length) = some 0 := by decide +kernel
theorem fX7_count_37 : Cond.fieldLink RX7 37 "TourChain" "graph" "LTourChain$Graph;" ∈ wsX7_count := by decide +kernel
theorem iX7_count_X2 : ∀ w ∈ u_ws RX2 TX2 9, w ∈ wsX7_count := by decide +kernel
theorem fX7_count_125 : Cond.fieldLink RX7 125 "TourChain$Graph" "vertices" "I" ∈ wsX7_count := by decide +kernel
theorem fX7_count_128 : Cond.fieldLink RX7 128 "TourChain$Graph" "edges" "I" ∈ wsX7_count := by decide +kernel
theorem fX7_count_131 : Cond.fieldLink RX7 131 "TourChain$Graph" "selectors" "I" ∈ wsX7_count := by decide +kernel
theorem fX7_count_110 : Cond.fieldLink RX7 110 "TourChain$Graph" "cities" "I" ∈ wsX7_count := by decide +kernel
set_option maxHeartbeats 4000000 in
set_option maxRecDepth 100000 in
theorem kX7_count (l : Launch) (D : va_G) (cI cZ cG cJ : ClassId) (xo : Nat) (mo : Nat) (ru : Nat) (fo : Nat) (go : Nat) (fd : Nat) (tr : Nat) (xb : Nat) (xs : Nat) (pv : Nat) (va : Nat) (fh : Nat) (fs : Nat) (fk : Nat) (lo : Nat) (so : Nat) (to : Nat) (sa : Nat) (ns : Nat) (tw : Nat) (nt : Nat) (n3 : Nat) (ve : Nat) (ed : Nat) (se : Nat) (ci : Nat) (gva : Nat) (gsi : Nat) (gsd : Nat) (gst : Nat) (u1 : Int32) (hxb : xb ≤ 1) (hxs : xs ≤ 1) (hb : xb = 1 → 1 ≤ ns ∧ nt = 3 * n3 ∧ nt < 2 ^ 31) : zC l yX7_count wsX7_count 1 20 0 0 D (zT cI cZ cG cJ) [.ref xo, .int u1] [(xo, .inr (9, [.ref mo, .ref ru, .ref fo, .ref go, .ref fd, .ref tr, .int (nI xb), .int (nI xs)])), (fo, .inr (2, [.ref mo, .int (nI pv), .int (nI va), .int (nI fh), .int (nI fs), .int (nI fk), .ref lo, .ref so, .ref to])), (so, .inr (6, [.ref sa, .int (nI ns)])), (to, .inr (6, [.ref tw, .int (nI nt)])), (go, .inr (4, [.ref fo, .int (nI ve), .int (nI ed), .int (nI se), .int (nI ci), .ref gva, .ref gsi, .ref gsd, .ref gst]))] (fun (ov : Option Value) (ow : va_W) => ov = some (.int (zif (xb = 1) (zcnt u1 pv (ns - 1) va n3 ve ed se ci) (-1))) ∧ ow = [(xo, .inr (9, [.ref mo, .ref ru, .ref fo, .ref go, .ref fd, .ref tr, .int (nI xb), .int (nI xs)])), (fo, .inr (2, [.ref mo, .int (nI pv), .int (nI va), .int (nI fh), .int (nI fs), .int (nI fk), .ref lo, .ref so, .ref to])), (so, .inr (6, [.ref sa, .int (nI ns)])), (to, .inr (6, [.ref tw, .int (nI nt)])), (go, .inr (4, [.ref fo, .int (nI ve), .int (nI ed), .int (nI se), .int (nI ci), .ref gva, .ref gsi, .ref gsd, .ref gst]))]) := by
  refine zC.of (cc := cX7_count) (maxL := 2) (ret := (some .int)) (by decide) rfl (Nat.le_of_ble_eq_true rfl) ?_
  intro p e s m below meth c A ls F hr hlk hnm B hl
  have hl : lv_has ls 2 [(0, .ref xo), (1, .int u1)] := hl
  refine lv_aload_n F.1 F.2.1 dX7_count_0 rfl (lv_at hl 0 rfl) ?_
  refine z_get F B 0 rfl (ci := 9) (C := RX7) (T := TX7) (N := 8) rfl iX7_count_X7 6 (by decide) fX7_count_59 rfl dX7_count_1 ?_
  refine z_if_ne (tgt := 9) F (by omega) dX7_count_4 (by decide) (fun c4 => ?_) (fun c4 => ?_)
  · obtain ⟨hb1, hb2, hb3⟩ := hb (by omega)
    refine lv_iload_n F.1 F.2.1 dX7_count_9 rfl (lv_at hl 1 rfl) ?_
    by_cases hs10 : 0 ≤ u1.toInt ∧ u1.toInt ≤ 7
    · rcases (show u1.toInt = 0 ∨ u1.toInt = 1 ∨ u1.toInt = 2 ∨ u1.toInt = 3 ∨ u1.toInt = 4 ∨ u1.toInt = 5 ∨ u1.toInt = 6 ∨ u1.toInt = 7 by omega) with hs10e | hs10e | hs10e | hs10e | hs10e | hs10e | hs10e | hs10e
      · refine lv_tableIn (off := 46) (tgt := 56) F.1 F.2.1 dX7_count_10 (by rw [hs10e]; decide) (by rw [hs10e]; decide) (by rw [hs10e]; rfl) (by decide) ?_
        refine lv_aload_n F.1 F.2.1 dX7_count_56 rfl (lv_at hl 0 rfl) ?_
        refine z_get F B 0 rfl (ci := 9) (C := RX7) (T := TX7) (N := 8) rfl iX7_count_X7 2 (by decide) fX7_count_28 rfl dX7_count_57 ?_
        refine z_get F B 1 rfl (ci := 2) (C := RX0) (T := TX0) (N := 9) rfl iX7_count_X0 1 (by decide) fX7_count_113 rfl dX7_count_60 ?_
        exact z_iret F hr hlk B [0, 1, 2, 3, 4] rfl (rfl) dX7_count_63 (by omega) (by omega) ⟨by rw [zif_t (by omega)]; unfold zcnt; rw [hs10e]; rfl, rfl⟩
      · refine lv_tableIn (off := 54) (tgt := 64) F.1 F.2.1 dX7_count_10 (by rw [hs10e]; decide) (by rw [hs10e]; decide) (by rw [hs10e]; rfl) (by decide) ?_
        refine lv_aload_n F.1 F.2.1 dX7_count_64 rfl (lv_at hl 0 rfl) ?_
        refine z_get F B 0 rfl (ci := 9) (C := RX7) (T := TX7) (N := 8) rfl iX7_count_X7 2 (by decide) fX7_count_28 rfl dX7_count_65 ?_
        refine z_callV (wr := [(xo, .inr (9, [.ref mo, .ref ru, .ref fo, .ref go, .ref fd, .ref tr, .int (nI xb), .int (nI xs)])), (to, .inr (6, [.ref tw, .int (nI nt)])), (go, .inr (4, [.ref fo, .int (nI ve), .int (nI ed), .int (nI se), .int (nI ci), .ref gva, .ref gsi, .ref gsd, .ref gst]))]) (rest := []) (As := []) F B (kX0_clauses l D cI cZ cG cJ fo mo pv va fh fs fk lo so to sa ns (by omega)) hl.1 (C := RX0) (T := TX0) (N := 9) (ci := 2) (q0 := 1) gX7_count_X0_clauses rfl 0 yX7_count_X0_clauses rfl rfl rfl [1, 2] [0, 3, 4] rfl rfl rfl rfl (by decide) (Nat.le_of_ble_eq_true rfl) (Nat.le_of_ble_eq_true rfl) (Nat.le_of_ble_eq_true rfl) rfl dX7_count_68 (show 0 + 0 ≤ 0 by omega) (show 0 + 0 ≤ 0 by omega) (fun vv ww H locs hRR B => ?_)
        obtain ⟨rfl, rfl⟩ := hRR
        have B : zB D (zT cI cZ cG cJ) A s.heap s [(xo, .inr (9, [.ref mo, .ref ru, .ref fo, .ref go, .ref fd, .ref tr, .int (nI xb), .int (nI xs)])), (to, .inr (6, [.ref tw, .int (nI nt)])), (go, .inr (4, [.ref fo, .int (nI ve), .int (nI ed), .int (nI se), .int (nI ci), .ref gva, .ref gsi, .ref gsd, .ref gst])), (fo, .inr (2, [.ref mo, .int (nI pv), .int (nI va), .int (nI fh), .int (nI fs), .int (nI fk), .ref lo, .ref so, .ref to])), (so, .inr (6, [.ref sa, .int (nI ns)]))] _ _ := B
        refine W.eq (g2 := F0 m 71 ls [.int (nI (ns - 1))]) rfl ?_
        exact z_iret F hr hlk B [0, 3, 4, 1, 2] rfl (rfl) dX7_count_71 (by omega) (by omega) ⟨by rw [zif_t (by omega)]; unfold zcnt; rw [hs10e]; rfl, rfl⟩
      · refine lv_tableIn (off := 62) (tgt := 72) F.1 F.2.1 dX7_count_10 (by rw [hs10e]; decide) (by rw [hs10e]; decide) (by rw [hs10e]; rfl) (by decide) ?_
        refine lv_aload_n F.1 F.2.1 dX7_count_72 rfl (lv_at hl 0 rfl) ?_
        refine z_get F B 0 rfl (ci := 9) (C := RX7) (T := TX7) (N := 8) rfl iX7_count_X7 2 (by decide) fX7_count_28 rfl dX7_count_73 ?_
        refine z_get F B 1 rfl (ci := 2) (C := RX0) (T := TX0) (N := 9) rfl iX7_count_X0 2 (by decide) fX7_count_119 rfl dX7_count_76 ?_
        exact z_iret F hr hlk B [0, 1, 2, 3, 4] rfl (rfl) dX7_count_79 (by omega) (by omega) ⟨by rw [zif_t (by omega)]; unfold zcnt; rw [hs10e]; rfl, rfl⟩
      · refine lv_tableIn (off := 70) (tgt := 80) F.1 F.2.1 dX7_count_10 (by rw [hs10e]; decide) (by rw [hs10e]; decide) (by rw [hs10e]; rfl) (by decide) ?_
        refine lv_aload_n F.1 F.2.1 dX7_count_80 rfl (lv_at hl 0 rfl) ?_
        refine z_get F B 0 rfl (ci := 9) (C := RX7) (T := TX7) (N := 8) rfl iX7_count_X7 2 (by decide) fX7_count_28 rfl dX7_count_81 ?_
        refine z_callV (wr := [(xo, .inr (9, [.ref mo, .ref ru, .ref fo, .ref go, .ref fd, .ref tr, .int (nI xb), .int (nI xs)])), (so, .inr (6, [.ref sa, .int (nI ns)])), (go, .inr (4, [.ref fo, .int (nI ve), .int (nI ed), .int (nI se), .int (nI ci), .ref gva, .ref gsi, .ref gsd, .ref gst]))]) (rest := []) (As := []) F B (kX0_threes l D cI cZ cG cJ fo mo pv va fh fs fk lo so to tw nt (by omega)) hl.1 (C := RX0) (T := TX0) (N := 9) (ci := 2) (q0 := 1) gX7_count_X0_threes rfl 0 yX7_count_X0_threes rfl rfl rfl [1, 3] [0, 2, 4] rfl rfl rfl rfl (by decide) (Nat.le_of_ble_eq_true rfl) (Nat.le_of_ble_eq_true rfl) (Nat.le_of_ble_eq_true rfl) rfl dX7_count_84 (show 0 + 0 ≤ 0 by omega) (show 0 + 0 ≤ 0 by omega) (fun vv ww H locs hRR B => ?_)
        obtain ⟨rfl, rfl⟩ := hRR
        have B : zB D (zT cI cZ cG cJ) A s.heap s [(xo, .inr (9, [.ref mo, .ref ru, .ref fo, .ref go, .ref fd, .ref tr, .int (nI xb), .int (nI xs)])), (so, .inr (6, [.ref sa, .int (nI ns)])), (go, .inr (4, [.ref fo, .int (nI ve), .int (nI ed), .int (nI se), .int (nI ci), .ref gva, .ref gsi, .ref gsd, .ref gst])), (fo, .inr (2, [.ref mo, .int (nI pv), .int (nI va), .int (nI fh), .int (nI fs), .int (nI fk), .ref lo, .ref so, .ref to])), (to, .inr (6, [.ref tw, .int (nI nt)]))] _ _ := B
        refine W.eq (g2 := F0 m 87 ls [.int (nI (nt / 3))]) rfl ?_
        refine W.eq (g2 := F0 m 87 ls [.int (nI n3)]) (by rw [hb2, Nat.mul_div_cancel_left n3 (show 0 < 3 by decide)]) ?_
        exact z_iret F hr hlk B [0, 3, 1, 4, 2] rfl (rfl) dX7_count_87 (by omega) (by omega) ⟨by rw [zif_t (by omega)]; unfold zcnt; rw [hs10e]; rfl, rfl⟩
      · refine lv_tableIn (off := 78) (tgt := 88) F.1 F.2.1 dX7_count_10 (by rw [hs10e]; decide) (by rw [hs10e]; decide) (by rw [hs10e]; rfl) (by decide) ?_
        refine lv_aload_n F.1 F.2.1 dX7_count_88 rfl (lv_at hl 0 rfl) ?_
        refine z_get F B 0 rfl (ci := 9) (C := RX7) (T := TX7) (N := 8) rfl iX7_count_X7 3 (by decide) fX7_count_37 rfl dX7_count_89 ?_
        refine z_get F B 4 rfl (ci := 4) (C := RX2) (T := TX2) (N := 9) rfl iX7_count_X2 1 (by decide) fX7_count_125 rfl dX7_count_92 ?_
        exact z_iret F hr hlk B [0, 1, 2, 3, 4] rfl (rfl) dX7_count_95 (by omega) (by omega) ⟨by rw [zif_t (by omega)]; unfold zcnt; rw [hs10e]; rfl, rfl⟩
      · refine lv_tableIn (off := 86) (tgt := 96) F.1 F.2.1 dX7_count_10 (by rw [hs10e]; decide) (by rw [hs10e]; decide) (by rw [hs10e]; rfl) (by decide) ?_
        refine lv_aload_n F.1 F.2.1 dX7_count_96 rfl (lv_at hl 0 rfl) ?_
        refine z_get F B 0 rfl (ci := 9) (C := RX7) (T := TX7) (N := 8) rfl iX7_count_X7 3 (by decide) fX7_count_37 rfl dX7_count_97 ?_
        refine z_get F B 4 rfl (ci := 4) (C := RX2) (T := TX2) (N := 9) rfl iX7_count_X2 2 (by decide) fX7_count_128 rfl dX7_count_100 ?_
        exact z_iret F hr hlk B [0, 1, 2, 3, 4] rfl (rfl) dX7_count_103 (by omega) (by omega) ⟨by rw [zif_t (by omega)]; unfold zcnt; rw [hs10e]; rfl, rfl⟩
      · refine lv_tableIn (off := 94) (tgt := 104) F.1 F.2.1 dX7_count_10 (by rw [hs10e]; decide) (by rw [hs10e]; decide) (by rw [hs10e]; rfl) (by decide) ?_
        refine lv_aload_n F.1 F.2.1 dX7_count_104 rfl (lv_at hl 0 rfl) ?_
        refine z_get F B 0 rfl (ci := 9) (C := RX7) (T := TX7) (N := 8) rfl iX7_count_X7 3 (by decide) fX7_count_37 rfl dX7_count_105 ?_
        refine z_get F B 4 rfl (ci := 4) (C := RX2) (T := TX2) (N := 9) rfl iX7_count_X2 3 (by decide) fX7_count_131 rfl dX7_count_108 ?_
        exact z_iret F hr hlk B [0, 1, 2, 3, 4] rfl (rfl) dX7_count_111 (by omega) (by omega) ⟨by rw [zif_t (by omega)]; unfold zcnt; rw [hs10e]; rfl, rfl⟩
      · refine lv_tableIn (off := 102) (tgt := 112) F.1 F.2.1 dX7_count_10 (by rw [hs10e]; decide) (by rw [hs10e]; decide) (by rw [hs10e]; rfl) (by decide) ?_
        refine lv_aload_n F.1 F.2.1 dX7_count_112 rfl (lv_at hl 0 rfl) ?_
        refine z_get F B 0 rfl (ci := 9) (C := RX7) (T := TX7) (N := 8) rfl iX7_count_X7 3 (by decide) fX7_count_37 rfl dX7_count_113 ?_
        refine z_get F B 4 rfl (ci := 4) (C := RX2) (T := TX2) (N := 9) rfl iX7_count_X2 4 (by decide) fX7_count_110 rfl dX7_count_116 ?_
        exact z_iret F hr hlk B [0, 1, 2, 3, 4] rfl (rfl) dX7_count_119 (by omega) (by omega) ⟨by rw [zif_t (by omega)]; unfold zcnt; rw [hs10e]; rfl, rfl⟩
    · refine lv_tableOut (tgt := 120) F.1 F.2.1 dX7_count_10 (by omega) (by decide) ?_
      refine lv_iconst (v := (-1)) F.1 F.2.1 dX7_count_120 (by decide) ?_
      exact z_iret F hr hlk B [0, 1, 2, 3, 4] rfl (rfl) dX7_count_121 (by omega) (by omega) ⟨by rw [zif_t (by omega), zcnt_o hs10], rfl⟩
  · refine lv_iconst (v := (-1)) F.1 F.2.1 dX7_count_7 (by decide) ?_
    exact z_iret F hr hlk B [0, 1, 2, 3, 4] rfl (rfl) dX7_count_8 (by omega) (by omega) ⟨by rw [zif_f (by omega)], rfl⟩
