/-! CONTRACTS of TourChain where it does not throw: requireTrip, put, turn, cost, replay -/
theorem iX7_requireTrip_X7 : ∀ w ∈ u_ws RX7 TX7 8, w ∈ wsX7_requireTrip := by decide +kernel
theorem fX7_requireTrip_63 : Cond.fieldLink RX7 63 "TourChain" "solved" "Z" ∈ wsX7_requireTrip := by decide +kernel
set_option maxHeartbeats 4000000 in
set_option maxRecDepth 100000 in
theorem kX7_requireTripN (l : Launch) (D : va_G) (cI cZ cG cJ : ClassId) (xo : Nat) (mo : Nat) (ru : Nat) (fo : Nat) (go : Nat) (fd : Nat) (tr : Nat) (xb : Nat)  : zC l yX7_requireTrip wsX7_requireTrip 0 0 0 0 D (zT cI cZ cG cJ) [.ref xo] [(xo, .inr (9, [.ref mo, .ref ru, .ref fo, .ref go, .ref fd, .ref tr, .int (nI xb), .int (nI 1)]))] (fun (ov : Option Value) (ow : va_W) => ov = none ∧ ow = [(xo, .inr (9, [.ref mo, .ref ru, .ref fo, .ref go, .ref fd, .ref tr, .int (nI xb), .int (nI 1)]))]) := by
  refine zC.of (cc := cX7_requireTrip) (maxL := 1) (ret := none) (by decide) rfl (Nat.le_of_ble_eq_true rfl) ?_
  intro p e s m below meth c A ls F hr hlk hnm B hl
  have hl : lv_has ls 1 [(0, .ref xo)] := hl
  refine lv_aload_n F.1 F.2.1 dX7_requireTrip_0 rfl (lv_at hl 0 rfl) ?_
  refine z_get F B 0 rfl (ci := 9) (C := RX7) (T := TX7) (N := 8) rfl iX7_requireTrip_X7 7 (by decide) fX7_requireTrip_63 rfl dX7_requireTrip_1 ?_
  refine lv_if_ne (tgt := 17) F.1 F.2.1 dX7_requireTrip_4 (by decide) (fun _ => ?_) (fun hq => absurd hq (by decide))
  exact z_vret F hr hlk B [0] rfl (rfl) dX7_requireTrip_17 (by omega) (by omega) ⟨rfl, rfl⟩
theorem yX7_put_X7_requireTrip : yX7_requireTrip.cls = RX7 ∧ yX7_requireTrip.cls ≠ "java/lang/invoke/MethodHandle" ∧ yX7_requireTrip.cls ≠ "java/lang/invoke/VarHandle" ∧ (parseMethodDescriptor yX7_requireTrip.desc).map (fun d => d.parameters.length) = some 0 := by decide +kernel
theorem iX7_put_X7 : ∀ w ∈ u_ws RX7 TX7 8, w ∈ wsX7_put := by decide +kernel
theorem fX7_put_37 : Cond.fieldLink RX7 37 "TourChain" "graph" "LTourChain$Graph;" ∈ wsX7_put := by decide +kernel
theorem iX7_put_X2 : ∀ w ∈ u_ws RX2 TX2 9, w ∈ wsX7_put := by decide +kernel
theorem fX7_put_110 : Cond.fieldLink RX7 110 "TourChain$Graph" "cities" "I" ∈ wsX7_put := by decide +kernel
theorem yX7_put_X7_isIndex : yX7_isIndex.cls = RX7 ∧ yX7_isIndex.cls ≠ "java/lang/invoke/MethodHandle" ∧ yX7_isIndex.cls ≠ "java/lang/invoke/VarHandle" ∧ (parseMethodDescriptor yX7_isIndex.desc).map (fun d => d.parameters.length) = some 2 := by decide +kernel
theorem fX7_put_55 : Cond.fieldLink RX7 55 "TourChain" "trip" "LTourChain$Trip;" ∈ wsX7_put := by decide +kernel
theorem yX7_put_X6_replace : yX6_replace.cls = RX6 ∧ yX6_replace.cls ≠ "java/lang/invoke/MethodHandle" ∧ yX6_replace.cls ≠ "java/lang/invoke/VarHandle" ∧ (parseMethodDescriptor yX6_replace.desc).map (fun d => d.parameters.length) = some 2 := by decide +kernel
set_option maxHeartbeats 4000000 in
set_option maxRecDepth 100000 in
theorem kX7_putN (l : Launch) (D : va_G) (cI cZ cG cJ : ClassId) (xo : Nat) (mo : Nat) (ru : Nat) (fo : Nat) (go : Nat) (fd : Nat) (tr : Nat) (xb : Nat) (tpk : Nat) (trw : Nat) (fi : Nat) (dir : Nat) (tsb : Nat) (ve : Nat) (ed : Nat) (se : Nat) (ci : Nat) (gva : Nat) (gsi : Nat) (gsd : Nat) (gst : Nat) (crw : Nat) (frw : Nat → Int32) (rr : Nat → Nat) (u1 : Int32) (u2 : Int32) (hd : dir = 0 ∨ dir = 1) (hf : fi < ci) (hn : ci ≤ 1000000) (hrw : ∀ i, i < ci → frw i = nI (rr i) ∧ rr i < ci) (hcr : ci ≤ crw) (hcr2 : crw ≤ 1000000) (g1 : zq u1 ci) (g2 : zq u2 ci) : zC l yX7_put wsX7_put 3 67 0 0 D (zT cI cZ cG cJ) [.ref xo, .int u1, .int u2] [(xo, .inr (9, [.ref mo, .ref ru, .ref fo, .ref go, .ref fd, .ref tr, .int (nI xb), .int (nI 1)])), (tr, .inr (8, [.ref go, .ref tpk, .ref trw, .int (nI fi), .int (zsd dir), .ref tsb])), (go, .inr (4, [.ref fo, .int (nI ve), .int (nI ed), .int (nI se), .int (nI ci), .ref gva, .ref gsi, .ref gsd, .ref gst])), (trw, .inl (cI, crw, .inl frw))] (fun (ov : Option Value) (ow : va_W) => ov = some (.int (nI (rr (zix ci fi dir (zn u1))))) ∧ ow = [(xo, .inr (9, [.ref mo, .ref ru, .ref fo, .ref go, .ref fd, .ref tr, .int (nI xb), .int (nI 1)])), (tr, .inr (8, [.ref go, .ref tpk, .ref trw, .int (nI fi), .int (zsd dir), .ref tsb])), (go, .inr (4, [.ref fo, .int (nI ve), .int (nI ed), .int (nI se), .int (nI ci), .ref gva, .ref gsi, .ref gsd, .ref gst])), (trw, .inl (cI, crw, .inl (upd frw (zix ci fi dir (zn u1)) (nI (zn u2)))))]) := by
  refine zC.of (cc := cX7_put) (maxL := 3) (ret := (some .int)) (by decide) rfl (Nat.le_of_ble_eq_true rfl) ?_
  intro p e s m below meth c A ls F hr hlk hnm B hl
  have hl : lv_has ls 3 [(0, .ref xo), (1, .int u1), (2, .int u2)] := hl
  refine lv_aload_n F.1 F.2.1 dX7_put_0 rfl (lv_at hl 0 rfl) ?_
  refine z_callV (wr := [(tr, .inr (8, [.ref go, .ref tpk, .ref trw, .int (nI fi), .int (zsd dir), .ref tsb])), (go, .inr (4, [.ref fo, .int (nI ve), .int (nI ed), .int (nI se), .int (nI ci), .ref gva, .ref gsi, .ref gsd, .ref gst])), (trw, .inl (cI, crw, .inl frw))]) (rest := []) (As := []) F B (kX7_requireTripN l D cI cZ cG cJ xo mo ru fo go fd tr xb) hl.1 (C := RX7) (T := TX7) (N := 8) (ci := 9) (q0 := 0) gX7_put_X7_requireTrip rfl 0 yX7_put_X7_requireTrip rfl rfl rfl [0] [1, 2, 3] rfl rfl rfl rfl (by decide) (Nat.le_of_ble_eq_true rfl) (Nat.le_of_ble_eq_true rfl) (Nat.le_of_ble_eq_true rfl) rfl dX7_put_1 (show 0 + 0 ≤ 0 by omega) (show 0 + 0 ≤ 0 by omega) (fun vv ww H locs hRR B => ?_)
  obtain ⟨rfl, rfl⟩ := hRR
  have B : zB D (zT cI cZ cG cJ) A s.heap s [(tr, .inr (8, [.ref go, .ref tpk, .ref trw, .int (nI fi), .int (zsd dir), .ref tsb])), (go, .inr (4, [.ref fo, .int (nI ve), .int (nI ed), .int (nI se), .int (nI ci), .ref gva, .ref gsi, .ref gsd, .ref gst])), (trw, .inl (cI, crw, .inl frw)), (xo, .inr (9, [.ref mo, .ref ru, .ref fo, .ref go, .ref fd, .ref tr, .int (nI xb), .int (nI 1)]))] _ _ := B
  refine W.eq (g2 := F0 m 4 ls []) rfl ?_
  refine lv_iload_n F.1 F.2.1 dX7_put_4 rfl (lv_at hl 1 rfl) ?_
  refine lv_aload_n F.1 F.2.1 dX7_put_5 rfl (lv_at hl 0 rfl) ?_
  refine z_get F B 3 rfl (ci := 9) (C := RX7) (T := TX7) (N := 8) rfl iX7_put_X7 3 (by decide) fX7_put_37 rfl dX7_put_6 ?_
  refine z_get F B 1 rfl (ci := 4) (C := RX2) (T := TX2) (N := 9) rfl iX7_put_X2 4 (by decide) fX7_put_110 rfl dX7_put_9 ?_
  refine z_callS (wr := [(tr, .inr (8, [.ref go, .ref tpk, .ref trw, .int (nI fi), .int (zsd dir), .ref tsb])), (go, .inr (4, [.ref fo, .int (nI ve), .int (nI ed), .int (nI se), .int (nI ci), .ref gva, .ref gsi, .ref gsd, .ref gst])), (trw, .inl (cI, crw, .inl frw)), (xo, .inr (9, [.ref mo, .ref ru, .ref fo, .ref go, .ref fd, .ref tr, .int (nI xb), .int (nI 1)]))]) (rest := []) (As := [.int u1, .int (nI ci)]) F B (kX7_isIndex l D cI cZ cG cJ u1 (nI ci)) hl.1 gX7_put_X7_isIndex rfl 2 yX7_put_X7_isIndex rfl [] [0, 1, 2, 3] rfl rfl rfl rfl (by decide) (Nat.le_of_ble_eq_true rfl) (Nat.le_of_ble_eq_true rfl) (Nat.le_of_ble_eq_true rfl) rfl dX7_put_12 (show 0 + 0 ≤ 0 by omega) (show 0 + 0 ≤ 0 by omega) (fun vv ww H locs hRR B => ?_)
  obtain ⟨r_1, rfl, rfl, hb_2⟩ := hRR
  have B : zB D (zT cI cZ cG cJ) A s.heap s [(tr, .inr (8, [.ref go, .ref tpk, .ref trw, .int (nI fi), .int (zsd dir), .ref tsb])), (go, .inr (4, [.ref fo, .int (nI ve), .int (nI ed), .int (nI se), .int (nI ci), .ref gva, .ref gsi, .ref gsd, .ref gst])), (trw, .inl (cI, crw, .inl frw)), (xo, .inr (9, [.ref mo, .ref ru, .ref fo, .ref go, .ref fd, .ref tr, .int (nI xb), .int (nI 1)]))] _ _ := B
  rcases hb_2 with ⟨hr1, qg1⟩ | ⟨hr1, qg1⟩ <;> subst hr1
  · refine W.eq (g2 := F0 m 15 ls [.int 1]) rfl ?_
    have g1e := zn_eq g1.1
    have g1l := zn_lt g1
    rw [g1e] at hl
    have hl : lv_has ls 3 [(0, .ref xo), (1, .int (nI (zn u1))), (2, .int u2)] := hl
    refine lv_if_eq (tgt := 32) F.1 F.2.1 dX7_put_15 (by decide) (fun hq => absurd hq (by decide)) (fun _ => ?_)
    refine lv_iload_n F.1 F.2.1 dX7_put_18 rfl (lv_at hl 2 rfl) ?_
    refine lv_aload_n F.1 F.2.1 dX7_put_19 rfl (lv_at hl 0 rfl) ?_
    refine z_get F B 3 rfl (ci := 9) (C := RX7) (T := TX7) (N := 8) rfl iX7_put_X7 3 (by decide) fX7_put_37 rfl dX7_put_20 ?_
    refine z_get F B 1 rfl (ci := 4) (C := RX2) (T := TX2) (N := 9) rfl iX7_put_X2 4 (by decide) fX7_put_110 rfl dX7_put_23 ?_
    refine z_callS (wr := [(tr, .inr (8, [.ref go, .ref tpk, .ref trw, .int (nI fi), .int (zsd dir), .ref tsb])), (go, .inr (4, [.ref fo, .int (nI ve), .int (nI ed), .int (nI se), .int (nI ci), .ref gva, .ref gsi, .ref gsd, .ref gst])), (trw, .inl (cI, crw, .inl frw)), (xo, .inr (9, [.ref mo, .ref ru, .ref fo, .ref go, .ref fd, .ref tr, .int (nI xb), .int (nI 1)]))]) (rest := []) (As := [.int u2, .int (nI ci)]) F B (kX7_isIndex l D cI cZ cG cJ u2 (nI ci)) hl.1 gX7_put_X7_isIndex rfl 2 yX7_put_X7_isIndex rfl [] [0, 1, 2, 3] rfl rfl rfl rfl (by decide) (Nat.le_of_ble_eq_true rfl) (Nat.le_of_ble_eq_true rfl) (Nat.le_of_ble_eq_true rfl) rfl dX7_put_26 (show 0 + 0 ≤ 0 by omega) (show 0 + 0 ≤ 0 by omega) (fun vv ww H locs hRR B => ?_)
    obtain ⟨r_3, rfl, rfl, hb_4⟩ := hRR
    have B : zB D (zT cI cZ cG cJ) A s.heap s [(tr, .inr (8, [.ref go, .ref tpk, .ref trw, .int (nI fi), .int (zsd dir), .ref tsb])), (go, .inr (4, [.ref fo, .int (nI ve), .int (nI ed), .int (nI se), .int (nI ci), .ref gva, .ref gsi, .ref gsd, .ref gst])), (trw, .inl (cI, crw, .inl frw)), (xo, .inr (9, [.ref mo, .ref ru, .ref fo, .ref go, .ref fd, .ref tr, .int (nI xb), .int (nI 1)]))] _ _ := B
    rcases hb_4 with ⟨hr1, qg2⟩ | ⟨hr1, qg2⟩ <;> subst hr1
    · refine W.eq (g2 := F0 m 29 ls [.int 1]) rfl ?_
      have g2e := zn_eq g2.1
      have g2l := zn_lt g2
      rw [g2e] at hl
      have hl : lv_has ls 3 [(0, .ref xo), (1, .int (nI (zn u1))), (2, .int (nI (zn u2)))] := hl
      refine lv_if_ne (tgt := 42) F.1 F.2.1 dX7_put_29 (by decide) (fun _ => ?_) (fun hq => absurd hq (by decide))
      refine lv_aload_n F.1 F.2.1 dX7_put_42 rfl (lv_at hl 0 rfl) ?_
      refine z_get F B 3 rfl (ci := 9) (C := RX7) (T := TX7) (N := 8) rfl iX7_put_X7 5 (by decide) fX7_put_55 rfl dX7_put_43 ?_
      refine lv_iload_n F.1 F.2.1 dX7_put_46 rfl (lv_at hl 1 rfl) ?_
      refine lv_iload_n F.1 F.2.1 dX7_put_47 rfl (lv_at hl 2 rfl) ?_
      refine z_callV (wr := [(xo, .inr (9, [.ref mo, .ref ru, .ref fo, .ref go, .ref fd, .ref tr, .int (nI xb), .int (nI 1)]))]) (rest := []) (As := [.int (nI (zn u1)), .int (nI (zn u2))]) F B (kX6_replace l D cI cZ cG cJ tr go tpk trw fi dir tsb fo ve ed se ci gva gsi gsd gst crw frw rr (zn u1) (zn u2) (hd) (hf) (by omega) (hrw) (by omega) (by omega) (by omega)) hl.1 (C := RX6) (T := TX6) (N := 6) (ci := 8) (q0 := 0) gX7_put_X6_replace rfl 2 yX7_put_X6_replace rfl rfl rfl [0, 1, 2] [3] rfl rfl rfl rfl (by decide) (Nat.le_of_ble_eq_true rfl) (Nat.le_of_ble_eq_true rfl) (Nat.le_of_ble_eq_true rfl) rfl dX7_put_48 (show 0 + 0 ≤ 0 by omega) (show 0 + 0 ≤ 0 by omega) (fun vv ww H locs hRR B => ?_)
      obtain ⟨rfl, rfl⟩ := hRR
      have B : zB D (zT cI cZ cG cJ) A s.heap s [(xo, .inr (9, [.ref mo, .ref ru, .ref fo, .ref go, .ref fd, .ref tr, .int (nI xb), .int (nI 1)])), (tr, .inr (8, [.ref go, .ref tpk, .ref trw, .int (nI fi), .int (zsd dir), .ref tsb])), (go, .inr (4, [.ref fo, .int (nI ve), .int (nI ed), .int (nI se), .int (nI ci), .ref gva, .ref gsi, .ref gsd, .ref gst])), (trw, .inl (cI, crw, .inl (upd frw (zix ci fi dir (zn u1)) (nI (zn u2)))))] _ _ := B
      refine W.eq (g2 := F0 m 51 ls [.int (nI (rr (zix ci fi dir (zn u1))))]) rfl ?_
      exact z_iret F hr hlk B [0, 1, 2, 3] rfl (rfl) dX7_put_51 (by omega) (by omega) ⟨rfl, rfl⟩
    · refine W.eq (g2 := F0 m 29 ls [.int 0]) rfl ?_
      exact absurd ((zqI (n := ci) (by omega)).mpr g2) qg2
  · refine W.eq (g2 := F0 m 15 ls [.int 0]) rfl ?_
    exact absurd ((zqI (n := ci) (by omega)).mpr g1) qg1
theorem yX7_turn_X7_requireTrip : yX7_requireTrip.cls = RX7 ∧ yX7_requireTrip.cls ≠ "java/lang/invoke/MethodHandle" ∧ yX7_requireTrip.cls ≠ "java/lang/invoke/VarHandle" ∧ (parseMethodDescriptor yX7_requireTrip.desc).map (fun d => d.parameters.length) = some 0 := by decide +kernel
theorem iX7_turn_X7 : ∀ w ∈ u_ws RX7 TX7 8, w ∈ wsX7_turn := by decide +kernel
theorem fX7_turn_37 : Cond.fieldLink RX7 37 "TourChain" "graph" "LTourChain$Graph;" ∈ wsX7_turn := by decide +kernel
theorem iX7_turn_X2 : ∀ w ∈ u_ws RX2 TX2 9, w ∈ wsX7_turn := by decide +kernel
theorem fX7_turn_110 : Cond.fieldLink RX7 110 "TourChain$Graph" "cities" "I" ∈ wsX7_turn := by decide +kernel
theorem yX7_turn_X7_isIndex : yX7_isIndex.cls = RX7 ∧ yX7_isIndex.cls ≠ "java/lang/invoke/MethodHandle" ∧ yX7_isIndex.cls ≠ "java/lang/invoke/VarHandle" ∧ (parseMethodDescriptor yX7_isIndex.desc).map (fun d => d.parameters.length) = some 2 := by decide +kernel
theorem fX7_turn_55 : Cond.fieldLink RX7 55 "TourChain" "trip" "LTourChain$Trip;" ∈ wsX7_turn := by decide +kernel
theorem yX7_turn_X6_beginAt : yX6_beginAt.cls = RX6 ∧ yX6_beginAt.cls ≠ "java/lang/invoke/MethodHandle" ∧ yX6_beginAt.cls ≠ "java/lang/invoke/VarHandle" ∧ (parseMethodDescriptor yX6_beginAt.desc).map (fun d => d.parameters.length) = some 1 := by decide +kernel
theorem yX7_turn_X6_reverse : yX6_reverse.cls = RX6 ∧ yX6_reverse.cls ≠ "java/lang/invoke/MethodHandle" ∧ yX6_reverse.cls ≠ "java/lang/invoke/VarHandle" ∧ (parseMethodDescriptor yX6_reverse.desc).map (fun d => d.parameters.length) = some 0 := by decide +kernel
set_option maxHeartbeats 4000000 in
set_option maxRecDepth 100000 in
theorem kX7_turnN (l : Launch) (D : va_G) (cI cZ cG cJ : ClassId) (xo : Nat) (mo : Nat) (ru : Nat) (fo : Nat) (go : Nat) (fd : Nat) (tr : Nat) (xb : Nat) (tpk : Nat) (trw : Nat) (fi : Nat) (dir : Nat) (tsb : Nat) (ve : Nat) (ed : Nat) (se : Nat) (ci : Nat) (gva : Nat) (gsi : Nat) (gsd : Nat) (gst : Nat) (u1 : Int32) (rd : Nat) (hd : dir = 0 ∨ dir = 1) (hf : fi < ci) (hn : ci ≤ 1000000) (g1 : zq u1 ci) (hrd : rd ≤ 1) : zC l yX7_turn wsX7_turn 3 64 0 0 D (zT cI cZ cG cJ) [.ref xo, .int u1, .int (nI rd)] [(xo, .inr (9, [.ref mo, .ref ru, .ref fo, .ref go, .ref fd, .ref tr, .int (nI xb), .int (nI 1)])), (tr, .inr (8, [.ref go, .ref tpk, .ref trw, .int (nI fi), .int (zsd dir), .ref tsb])), (go, .inr (4, [.ref fo, .int (nI ve), .int (nI ed), .int (nI se), .int (nI ci), .ref gva, .ref gsi, .ref gsd, .ref gst]))] (fun (ov : Option Value) (ow : va_W) => ∃ fi' : Nat, ∃ dir' : Nat, ov = none ∧ ow = [(xo, .inr (9, [.ref mo, .ref ru, .ref fo, .ref go, .ref fd, .ref tr, .int (nI xb), .int (nI 1)])), (tr, .inr (8, [.ref go, .ref tpk, .ref trw, .int (nI fi'), .int (zsd dir'), .ref tsb])), (go, .inr (4, [.ref fo, .int (nI ve), .int (nI ed), .int (nI se), .int (nI ci), .ref gva, .ref gsi, .ref gsd, .ref gst]))] ∧ ((rd = 0 ∧ fi' = zix ci fi dir (zn u1) ∧ dir' = dir) ∨ (rd = 1 ∧ fi' = zix ci (zix ci fi dir (zn u1)) dir (ci - 1) ∧ dir' = 1 - dir))) := by
  refine zC.of (cc := cX7_turn) (maxL := 3) (ret := none) (by decide) rfl (Nat.le_of_ble_eq_true rfl) ?_
  intro p e s m below meth c A ls F hr hlk hnm B hl
  have hl : lv_has ls 3 [(0, .ref xo), (1, .int u1), (2, .int (nI rd))] := hl
  refine lv_aload_n F.1 F.2.1 dX7_turn_0 rfl (lv_at hl 0 rfl) ?_
  refine z_callV (wr := [(tr, .inr (8, [.ref go, .ref tpk, .ref trw, .int (nI fi), .int (zsd dir), .ref tsb])), (go, .inr (4, [.ref fo, .int (nI ve), .int (nI ed), .int (nI se), .int (nI ci), .ref gva, .ref gsi, .ref gsd, .ref gst]))]) (rest := []) (As := []) F B (kX7_requireTripN l D cI cZ cG cJ xo mo ru fo go fd tr xb) hl.1 (C := RX7) (T := TX7) (N := 8) (ci := 9) (q0 := 0) gX7_turn_X7_requireTrip rfl 0 yX7_turn_X7_requireTrip rfl rfl rfl [0] [1, 2] rfl rfl rfl rfl (by decide) (Nat.le_of_ble_eq_true rfl) (Nat.le_of_ble_eq_true rfl) (Nat.le_of_ble_eq_true rfl) rfl dX7_turn_1 (show 0 + 0 ≤ 0 by omega) (show 0 + 0 ≤ 0 by omega) (fun vv ww H locs hRR B => ?_)
  obtain ⟨rfl, rfl⟩ := hRR
  have B : zB D (zT cI cZ cG cJ) A s.heap s [(tr, .inr (8, [.ref go, .ref tpk, .ref trw, .int (nI fi), .int (zsd dir), .ref tsb])), (go, .inr (4, [.ref fo, .int (nI ve), .int (nI ed), .int (nI se), .int (nI ci), .ref gva, .ref gsi, .ref gsd, .ref gst])), (xo, .inr (9, [.ref mo, .ref ru, .ref fo, .ref go, .ref fd, .ref tr, .int (nI xb), .int (nI 1)]))] _ _ := B
  refine W.eq (g2 := F0 m 4 ls []) rfl ?_
  refine lv_iload_n F.1 F.2.1 dX7_turn_4 rfl (lv_at hl 1 rfl) ?_
  refine lv_aload_n F.1 F.2.1 dX7_turn_5 rfl (lv_at hl 0 rfl) ?_
  refine z_get F B 2 rfl (ci := 9) (C := RX7) (T := TX7) (N := 8) rfl iX7_turn_X7 3 (by decide) fX7_turn_37 rfl dX7_turn_6 ?_
  refine z_get F B 1 rfl (ci := 4) (C := RX2) (T := TX2) (N := 9) rfl iX7_turn_X2 4 (by decide) fX7_turn_110 rfl dX7_turn_9 ?_
  refine z_callS (wr := [(tr, .inr (8, [.ref go, .ref tpk, .ref trw, .int (nI fi), .int (zsd dir), .ref tsb])), (go, .inr (4, [.ref fo, .int (nI ve), .int (nI ed), .int (nI se), .int (nI ci), .ref gva, .ref gsi, .ref gsd, .ref gst])), (xo, .inr (9, [.ref mo, .ref ru, .ref fo, .ref go, .ref fd, .ref tr, .int (nI xb), .int (nI 1)]))]) (rest := []) (As := [.int u1, .int (nI ci)]) F B (kX7_isIndex l D cI cZ cG cJ u1 (nI ci)) hl.1 gX7_turn_X7_isIndex rfl 2 yX7_turn_X7_isIndex rfl [] [0, 1, 2] rfl rfl rfl rfl (by decide) (Nat.le_of_ble_eq_true rfl) (Nat.le_of_ble_eq_true rfl) (Nat.le_of_ble_eq_true rfl) rfl dX7_turn_12 (show 0 + 0 ≤ 0 by omega) (show 0 + 0 ≤ 0 by omega) (fun vv ww H locs hRR B => ?_)
  obtain ⟨r_1, rfl, rfl, hb_2⟩ := hRR
  have B : zB D (zT cI cZ cG cJ) A s.heap s [(tr, .inr (8, [.ref go, .ref tpk, .ref trw, .int (nI fi), .int (zsd dir), .ref tsb])), (go, .inr (4, [.ref fo, .int (nI ve), .int (nI ed), .int (nI se), .int (nI ci), .ref gva, .ref gsi, .ref gsd, .ref gst])), (xo, .inr (9, [.ref mo, .ref ru, .ref fo, .ref go, .ref fd, .ref tr, .int (nI xb), .int (nI 1)]))] _ _ := B
  rcases hb_2 with ⟨hr1, qg1⟩ | ⟨hr1, qg1⟩ <;> subst hr1
  · refine W.eq (g2 := F0 m 15 ls [.int 1]) rfl ?_
    have g1e := zn_eq g1.1
    have g1l := zn_lt g1
    rw [g1e] at hl
    have hl : lv_has ls 3 [(0, .ref xo), (1, .int (nI (zn u1))), (2, .int (nI rd))] := hl
    refine lv_if_ne (tgt := 28) F.1 F.2.1 dX7_turn_15 (by decide) (fun _ => ?_) (fun hq => absurd hq (by decide))
    refine lv_aload_n F.1 F.2.1 dX7_turn_28 rfl (lv_at hl 0 rfl) ?_
    refine z_get F B 2 rfl (ci := 9) (C := RX7) (T := TX7) (N := 8) rfl iX7_turn_X7 5 (by decide) fX7_turn_55 rfl dX7_turn_29 ?_
    refine lv_iload_n F.1 F.2.1 dX7_turn_32 rfl (lv_at hl 1 rfl) ?_
    refine z_callV (wr := [(xo, .inr (9, [.ref mo, .ref ru, .ref fo, .ref go, .ref fd, .ref tr, .int (nI xb), .int (nI 1)]))]) (rest := []) (As := [.int (nI (zn u1))]) F B (kX6_beginAt l D cI cZ cG cJ tr go tpk trw fi dir tsb fo ve ed se ci gva gsi gsd gst (zn u1) (hd) (hf) (by omega) (by omega)) hl.1 (C := RX6) (T := TX6) (N := 6) (ci := 8) (q0 := 0) gX7_turn_X6_beginAt rfl 1 yX7_turn_X6_beginAt rfl rfl rfl [0, 1] [2] rfl rfl rfl rfl (by decide) (Nat.le_of_ble_eq_true rfl) (Nat.le_of_ble_eq_true rfl) (Nat.le_of_ble_eq_true rfl) rfl dX7_turn_33 (show 0 + 0 ≤ 0 by omega) (show 0 + 0 ≤ 0 by omega) (fun vv ww H locs hRR B => ?_)
    obtain ⟨rfl, rfl⟩ := hRR
    have B : zB D (zT cI cZ cG cJ) A s.heap s [(xo, .inr (9, [.ref mo, .ref ru, .ref fo, .ref go, .ref fd, .ref tr, .int (nI xb), .int (nI 1)])), (tr, .inr (8, [.ref go, .ref tpk, .ref trw, .int (nI (zix ci fi dir (zn u1))), .int (zsd dir), .ref tsb])), (go, .inr (4, [.ref fo, .int (nI ve), .int (nI ed), .int (nI se), .int (nI ci), .ref gva, .ref gsi, .ref gsd, .ref gst]))] _ _ := B
    refine W.eq (g2 := F0 m 36 ls []) rfl ?_
    have hzl := zix_lt (dir := dir) (pl := zn u1) (show 0 < ci by omega) (fi := fi)
    refine lv_iload_n F.1 F.2.1 dX7_turn_36 rfl (lv_at hl 2 rfl) ?_
    refine z_if_eq (tgt := 47) F (by omega) dX7_turn_37 (by decide) (fun c37 => ?_) (fun c37 => ?_)
    · exact z_vret F hr hlk B [0, 1, 2] rfl (rfl) dX7_turn_47 (by omega) (by omega) ⟨(zix ci fi dir (zn u1)), dir, rfl, rfl, (Or.inl ⟨by omega, rfl, rfl⟩)⟩
    · refine lv_aload_n F.1 F.2.1 dX7_turn_40 rfl (lv_at hl 0 rfl) ?_
      refine z_get F B 0 rfl (ci := 9) (C := RX7) (T := TX7) (N := 8) rfl iX7_turn_X7 5 (by decide) fX7_turn_55 rfl dX7_turn_41 ?_
      refine z_callV (wr := [(xo, .inr (9, [.ref mo, .ref ru, .ref fo, .ref go, .ref fd, .ref tr, .int (nI xb), .int (nI 1)]))]) (rest := []) (As := []) F B (kX6_reverse l D cI cZ cG cJ tr go tpk trw (zix ci fi dir (zn u1)) dir tsb fo ve ed se ci gva gsi gsd gst (hd) (hzl) (by omega)) hl.1 (C := RX6) (T := TX6) (N := 6) (ci := 8) (q0 := 1) gX7_turn_X6_reverse rfl 0 yX7_turn_X6_reverse rfl rfl rfl [1, 2] [0] rfl rfl rfl rfl (by decide) (Nat.le_of_ble_eq_true rfl) (Nat.le_of_ble_eq_true rfl) (Nat.le_of_ble_eq_true rfl) rfl dX7_turn_44 (show 0 + 0 ≤ 0 by omega) (show 0 + 0 ≤ 0 by omega) (fun vv ww H locs hRR B => ?_)
      obtain ⟨rfl, rfl⟩ := hRR
      have B : zB D (zT cI cZ cG cJ) A s.heap s [(xo, .inr (9, [.ref mo, .ref ru, .ref fo, .ref go, .ref fd, .ref tr, .int (nI xb), .int (nI 1)])), (tr, .inr (8, [.ref go, .ref tpk, .ref trw, .int (nI (zix ci (zix ci fi dir (zn u1)) dir (ci - 1))), .int (zsd (1 - dir)), .ref tsb])), (go, .inr (4, [.ref fo, .int (nI ve), .int (nI ed), .int (nI se), .int (nI ci), .ref gva, .ref gsi, .ref gsd, .ref gst]))] _ _ := B
      refine W.eq (g2 := F0 m 47 ls []) rfl ?_
      exact z_vret F hr hlk B [0, 1, 2] rfl (rfl) dX7_turn_47 (by omega) (by omega) ⟨(zix ci (zix ci fi dir (zn u1)) dir (ci - 1)), (1 - dir), rfl, rfl, (Or.inr ⟨by omega, rfl, rfl⟩)⟩
  · refine W.eq (g2 := F0 m 15 ls [.int 0]) rfl ?_
    exact absurd ((zqI (n := ci) (by omega)).mpr g1) qg1
theorem yX7_cost_X7_requireTrip : yX7_requireTrip.cls = RX7 ∧ yX7_requireTrip.cls ≠ "java/lang/invoke/MethodHandle" ∧ yX7_requireTrip.cls ≠ "java/lang/invoke/VarHandle" ∧ (parseMethodDescriptor yX7_requireTrip.desc).map (fun d => d.parameters.length) = some 0 := by decide +kernel
theorem iX7_cost_X7 : ∀ w ∈ u_ws RX7 TX7 8, w ∈ wsX7_cost := by decide +kernel
theorem fX7_cost_55 : Cond.fieldLink RX7 55 "TourChain" "trip" "LTourChain$Trip;" ∈ wsX7_cost := by decide +kernel
theorem yX7_cost_X6_hasEachCityOnce : yX6_hasEachCityOnce.cls = RX6 ∧ yX6_hasEachCityOnce.cls ≠ "java/lang/invoke/MethodHandle" ∧ yX6_hasEachCityOnce.cls ≠ "java/lang/invoke/VarHandle" ∧ (parseMethodDescriptor yX6_hasEachCityOnce.desc).map (fun d => d.parameters.length) = some 0 := by decide +kernel
theorem yX7_cost_X6_total : yX6_total.cls = RX6 ∧ yX6_total.cls ≠ "java/lang/invoke/MethodHandle" ∧ yX6_total.cls ≠ "java/lang/invoke/VarHandle" ∧ (parseMethodDescriptor yX6_total.desc).map (fun d => d.parameters.length) = some 0 := by decide +kernel
set_option maxHeartbeats 4000000 in
set_option maxRecDepth 100000 in
theorem kX7_costN (l : Launch) (D : va_G) (cI cZ cG cJ : ClassId) (xo : Nat) (mo : Nat) (ru : Nat) (fo : Nat) (go : Nat) (fd : Nat) (tr : Nat) (xb : Nat) (tpk : Nat) (trw : Nat) (z1 : Int32) (z2 : Int32) (tsb : Nat) (ve : Nat) (ed : Nat) (se : Nat) (ci : Nat) (gva : Nat) (gsi : Nat) (gsd : Nat) (gst : Nat) (cv : Nat) (fv : Nat → Int32) (c2 : Nat) (f2 : Nat → Int32) (c3 : Nat) (f3s : Nat → Int32) (w : Nat → Nat) (crw : Nat) (frw : Nat → Int32) (rr : Nat → Nat) (csb : Nat) (fsb : Nat → Int32) (h2 : ed ≤ 100000) (h3 : ve ≤ 100000) (h4 : (2 * ed) ≤ cv) (h5 : cv ≤ 1000000) (h7 : (2 * ed) ≤ c2) (h8 : ve + 1 ≤ c3) (h9 : c2 ≤ 1000000) (h10 : c3 ≤ 1000000) (hv : ∀ d, d < (2 * ed) → fv d = nI (w d)) (hw : ∀ d, d < (2 * ed) → w d < ve) (hst : ∀ u, u ≤ ve → f3s u = nI (zc (zlt w u) (2 * ed))) (hsd : ∀ d, d < (2 * ed) → f2 d = nI (zpos w (2 * ed) d)) (hrw : ∀ i, i < ci → frw i = nI (rr i) ∧ rr i < ci) (hci1 : 1 ≤ ci) (hci2 : ci ≤ 1000000) (hcr : ci ≤ crw) (hcr2 : crw ≤ 1000000) (hsb : csb ≤ 400000) : zC l yX7_cost wsX7_cost 4 93 (zrm (ci / 32 + 1) csb - csb) (2 * (zrm (ci / 32 + 1) csb - csb)) D (zT cI cZ cG cJ) [.ref xo] [(xo, .inr (9, [.ref mo, .ref ru, .ref fo, .ref go, .ref fd, .ref tr, .int (nI xb), .int (nI 1)])), (tr, .inr (8, [.ref go, .ref tpk, .ref trw, .int z1, .int z2, .ref tsb])), (trw, .inl (cI, crw, .inl frw)), (tsb, .inl (cI, csb, .inl fsb)), (go, .inr (4, [.ref fo, .int (nI ve), .int (nI ed), .int (nI se), .int (nI ci), .ref gva, .ref gsi, .ref gsd, .ref gst])), (gva, .inl (cI, cv, .inl fv)), (gsd, .inl (cI, c2, .inl f2)), (gst, .inl (cI, c3, .inl f3s))] (fun (ov : Option Value) (ow : va_W) => ∃ sb' : Nat, ∃ fsb' : Nat → Int32, ov = some (.int (zif (zonce rr ci) (nI (ztot w ed rr ci)) (-1))) ∧ ow = [(xo, .inr (9, [.ref mo, .ref ru, .ref fo, .ref go, .ref fd, .ref tr, .int (nI xb), .int (nI 1)])), (tr, .inr (8, [.ref go, .ref tpk, .ref trw, .int z1, .int z2, .ref sb'])), (trw, .inl (cI, crw, .inl frw)), (sb', .inl (cI, (zrm (ci / 32 + 1) csb), .inl fsb')), (go, .inr (4, [.ref fo, .int (nI ve), .int (nI ed), .int (nI se), .int (nI ci), .ref gva, .ref gsi, .ref gsd, .ref gst])), (gva, .inl (cI, cv, .inl fv)), (gsd, .inl (cI, c2, .inl f2)), (gst, .inl (cI, c3, .inl f3s))]) := by
  refine zC.of (cc := cX7_cost) (maxL := 1) (ret := (some .int)) (by decide) rfl (Nat.le_of_ble_eq_true rfl) ?_
  intro p e s m below meth c A ls F hr hlk hnm B hl
  have hl : lv_has ls 1 [(0, .ref xo)] := hl
  refine lv_aload_n F.1 F.2.1 dX7_cost_0 rfl (lv_at hl 0 rfl) ?_
  refine z_callV (wr := [(tr, .inr (8, [.ref go, .ref tpk, .ref trw, .int z1, .int z2, .ref tsb])), (trw, .inl (cI, crw, .inl frw)), (tsb, .inl (cI, csb, .inl fsb)), (go, .inr (4, [.ref fo, .int (nI ve), .int (nI ed), .int (nI se), .int (nI ci), .ref gva, .ref gsi, .ref gsd, .ref gst])), (gva, .inl (cI, cv, .inl fv)), (gsd, .inl (cI, c2, .inl f2)), (gst, .inl (cI, c3, .inl f3s))]) (rest := []) (As := []) F B (kX7_requireTripN l D cI cZ cG cJ xo mo ru fo go fd tr xb) hl.1 (C := RX7) (T := TX7) (N := 8) (ci := 9) (q0 := 0) gX7_cost_X7_requireTrip rfl 0 yX7_cost_X7_requireTrip rfl rfl rfl [0] [1, 2, 3, 4, 5, 6, 7] rfl rfl rfl rfl (by decide) (Nat.le_of_ble_eq_true rfl) (Nat.le_of_ble_eq_true rfl) (Nat.le_of_ble_eq_true rfl) rfl dX7_cost_1 (show 0 + 0 ≤ zrm (ci / 32 + 1) csb - csb by omega) (show 0 + 0 ≤ 2 * (zrm (ci / 32 + 1) csb - csb) by omega) (fun vv ww H locs hRR B => ?_)
  obtain ⟨rfl, rfl⟩ := hRR
  have B : zB D (zT cI cZ cG cJ) A s.heap s [(tr, .inr (8, [.ref go, .ref tpk, .ref trw, .int z1, .int z2, .ref tsb])), (trw, .inl (cI, crw, .inl frw)), (tsb, .inl (cI, csb, .inl fsb)), (go, .inr (4, [.ref fo, .int (nI ve), .int (nI ed), .int (nI se), .int (nI ci), .ref gva, .ref gsi, .ref gsd, .ref gst])), (gva, .inl (cI, cv, .inl fv)), (gsd, .inl (cI, c2, .inl f2)), (gst, .inl (cI, c3, .inl f3s)), (xo, .inr (9, [.ref mo, .ref ru, .ref fo, .ref go, .ref fd, .ref tr, .int (nI xb), .int (nI 1)]))] _ _ := B
  refine W.eq (g2 := F0 m 4 ls []) rfl ?_
  refine lv_aload_n F.1 F.2.1 dX7_cost_4 rfl (lv_at hl 0 rfl) ?_
  refine z_get F B 7 rfl (ci := 9) (C := RX7) (T := TX7) (N := 8) rfl iX7_cost_X7 5 (by decide) fX7_cost_55 rfl dX7_cost_5 ?_
  refine z_callV (wr := [(gva, .inl (cI, cv, .inl fv)), (gsd, .inl (cI, c2, .inl f2)), (gst, .inl (cI, c3, .inl f3s)), (xo, .inr (9, [.ref mo, .ref ru, .ref fo, .ref go, .ref fd, .ref tr, .int (nI xb), .int (nI 1)]))]) (rest := []) (As := []) F B (kX6_hasEachCityOnce l D cI cZ cG cJ tr go tpk trw z1 z2 tsb fo ve ed se ci gva gsi gsd gst crw frw rr csb fsb (hrw) (by omega) (by omega) (by omega) (by omega) (by omega)) hl.1 (C := RX6) (T := TX6) (N := 6) (ci := 8) (q0 := 0) gX7_cost_X6_hasEachCityOnce rfl 0 yX7_cost_X6_hasEachCityOnce rfl rfl rfl [0, 3, 1, 2] [4, 5, 6, 7] rfl rfl rfl rfl (by decide) (Nat.le_of_ble_eq_true rfl) (Nat.le_of_ble_eq_true rfl) (Nat.le_of_ble_eq_true rfl) rfl dX7_cost_8 (show 0 + (zrm (ci / 32 + 1) csb - csb) ≤ zrm (ci / 32 + 1) csb - csb by omega) (show 0 + (2 * (zrm (ci / 32 + 1) csb - csb)) ≤ 2 * (zrm (ci / 32 + 1) csb - csb) by omega) (fun vv ww H locs hRR B => ?_)
  obtain ⟨r_1, sb'_2, fsb'_3, rfl, rfl, hb_4⟩ := hRR
  have B : zB D (zT cI cZ cG cJ) A s.heap s [(gva, .inl (cI, cv, .inl fv)), (gsd, .inl (cI, c2, .inl f2)), (gst, .inl (cI, c3, .inl f3s)), (xo, .inr (9, [.ref mo, .ref ru, .ref fo, .ref go, .ref fd, .ref tr, .int (nI xb), .int (nI 1)])), (tr, .inr (8, [.ref go, .ref tpk, .ref trw, .int z1, .int z2, .ref sb'_2])), (go, .inr (4, [.ref fo, .int (nI ve), .int (nI ed), .int (nI se), .int (nI ci), .ref gva, .ref gsi, .ref gsd, .ref gst])), (trw, .inl (cI, crw, .inl frw)), (sb'_2, .inl (cI, (zrm (ci / 32 + 1) csb), .inl fsb'_3))] _ _ := B
  rcases hb_4 with ⟨hr1, hpO⟩ | ⟨hr1, hpO⟩ <;> subst hr1
  · refine W.eq (g2 := F0 m 11 ls [.int 1]) rfl ?_
    refine lv_if_eq (tgt := 24) F.1 F.2.1 dX7_cost_11 (by decide) (fun hq => absurd hq (by decide)) (fun _ => ?_)
    refine lv_aload_n F.1 F.2.1 dX7_cost_14 rfl (lv_at hl 0 rfl) ?_
    refine z_get F B 3 rfl (ci := 9) (C := RX7) (T := TX7) (N := 8) rfl iX7_cost_X7 5 (by decide) fX7_cost_55 rfl dX7_cost_15 ?_
    refine z_callV (wr := [(xo, .inr (9, [.ref mo, .ref ru, .ref fo, .ref go, .ref fd, .ref tr, .int (nI xb), .int (nI 1)])), (sb'_2, .inl (cI, (zrm (ci / 32 + 1) csb), .inl fsb'_3))]) (rest := []) (As := []) F B (kX6_total l D cI cZ cG cJ tr go tpk trw z1 z2 sb'_2 fo ve ed se ci gva gsi gsd gst cv fv c2 f2 c3 f3s w crw frw rr (h2) (h3) (h4) (h5) (h7) (h8) (h9) (h10) (hv) (hw) (hst) (hsd) (hrw) (by omega) (by omega) (by omega) (by omega)) hl.1 (C := RX6) (T := TX6) (N := 6) (ci := 8) (q0 := 4) gX7_cost_X6_total rfl 0 yX7_cost_X6_total rfl rfl rfl [4, 6, 5, 0, 1, 2] [3, 7] rfl rfl rfl rfl (by decide) (Nat.le_of_ble_eq_true rfl) (Nat.le_of_ble_eq_true rfl) (Nat.le_of_ble_eq_true rfl) rfl dX7_cost_18 (show 0 + (zrm (ci / 32 + 1) csb - csb) + 0 ≤ zrm (ci / 32 + 1) csb - csb by omega) (show 0 + (2 * (zrm (ci / 32 + 1) csb - csb)) + 0 ≤ 2 * (zrm (ci / 32 + 1) csb - csb) by omega) (fun vv ww H locs hRR B => ?_)
    obtain ⟨rfl, rfl⟩ := hRR
    have B : zB D (zT cI cZ cG cJ) A s.heap s [(xo, .inr (9, [.ref mo, .ref ru, .ref fo, .ref go, .ref fd, .ref tr, .int (nI xb), .int (nI 1)])), (sb'_2, .inl (cI, (zrm (ci / 32 + 1) csb), .inl fsb'_3)), (tr, .inr (8, [.ref go, .ref tpk, .ref trw, .int z1, .int z2, .ref sb'_2])), (trw, .inl (cI, crw, .inl frw)), (go, .inr (4, [.ref fo, .int (nI ve), .int (nI ed), .int (nI se), .int (nI ci), .ref gva, .ref gsi, .ref gsd, .ref gst])), (gva, .inl (cI, cv, .inl fv)), (gsd, .inl (cI, c2, .inl f2)), (gst, .inl (cI, c3, .inl f3s))] _ _ := B
    refine W.eq (g2 := F0 m 21 ls [.int (nI (ztot w ed rr ci))]) rfl ?_
    refine lv_goto (tgt := 25) F.1 F.2.1 dX7_cost_21 (by decide) ?_
    exact z_iret F hr hlk B [0, 2, 3, 1, 4, 5, 6, 7] rfl (rfl) dX7_cost_25 (by omega) (by omega) ⟨sb'_2, fsb'_3, by rw [zif_t hpO], rfl⟩
  · refine W.eq (g2 := F0 m 11 ls [.int 0]) rfl ?_
    refine lv_if_eq (tgt := 24) F.1 F.2.1 dX7_cost_11 (by decide) (fun _ => ?_) (fun hq => absurd (by decide) hq)
    refine lv_iconst (v := (-1)) F.1 F.2.1 dX7_cost_24 (by decide) ?_
    exact z_iret F hr hlk B [3, 4, 6, 7, 5, 0, 1, 2] rfl (rfl) dX7_cost_25 (by omega) (by omega) ⟨sb'_2, fsb'_3, by rw [zif_f hpO], rfl⟩
theorem iX7_replay_X7 : ∀ w ∈ u_ws RX7 TX7 8, w ∈ wsX7_replay := by decide +kernel
theorem fX7_replay_63 : Cond.fieldLink RX7 63 "TourChain" "solved" "Z" ∈ wsX7_replay := by decide +kernel
theorem fX7_replay_21 : Cond.fieldLink RX7 21 "TourChain" "run" "LTourChain$Run;" ∈ wsX7_replay := by decide +kernel
theorem yX7_replay_X5_follow : yX5_follow.cls = RX5 ∧ yX5_follow.cls ≠ "java/lang/invoke/MethodHandle" ∧ yX5_follow.cls ≠ "java/lang/invoke/VarHandle" ∧ (parseMethodDescriptor yX5_follow.desc).map (fun d => d.parameters.length) = some 0 := by decide +kernel
set_option maxHeartbeats 4000000 in
set_option maxRecDepth 100000 in
theorem kX7_replayN (l : Launch) (D : va_G) (cI cZ cG cJ : ClassId) (xo : Nat) (mo : Nat) (ru : Nat) (fo : Nat) (go : Nat) (fd : Nat) (tr : Nat) (xb : Nat) (rch : Nat) (rhe : Nat) (rst : Nat) (rce : Nat) (q : Nat) (g : Nat) (t : Nat) (r : Nat) (af : Nat) (ar : Nat) (at_ : Nat) (aw : Nat) (am : Nat) (ap : Nat) (fhe : Nat → Int32) (fst : Nat → Int32) (rc : Nat → Nat) (hh : Nat → Nat → Int32) (ff : Nat → Int32) (fr : Nat → Int32) (fto : Nat → Int32) (fw : Nat → Int32) (fm : Nat → Int32) (rl : Nat → Nat → Nat) (fp : Nat → Int32) (tp : Nat → Nat) (fch : Nat → Int32) (ch : Nat → Nat) (ht : t ≤ 3) (hq1 : 1 ≤ q) (hq : q ≤ 3) (hr8 : r ≤ 8) (hff : ∀ i, i < r → ff i = nI (rl 0 i)) (hfr : ∀ i, i < r → fr i = nI (rl 1 i)) (hfto : ∀ i, i < r → fto i = nI (rl 2 i)) (hfw : ∀ i, i < r → fw i = nI (rl 3 i)) (hfm : ∀ i, i < r → fm i = nI (rl 4 i) - nI 1 ∧ rl 4 i ≤ 2) (hrb4 : ∀ k, k < r → rl 0 k ≤ 3 ∧ rl 1 k ≤ 3 ∧ rl 2 k ≤ 3 ∧ rl 3 k ≤ 3) (htp : ∀ y, y ≤ t → fp y = nI (tp y)) (htp3 : ∀ y, y ≤ t → tp y ≤ 3) (hch : ∀ i, i < t → fch i = nI (ch i) ∧ ch i ≤ r) : zC l yX7_replay wsX7_replay 3 85 0 0 D (zT cI cZ cG cJ) [.ref xo] [(xo, .inr (9, [.ref mo, .ref ru, .ref fo, .ref go, .ref fd, .ref tr, .int (nI xb), .int (nI 1)])), (ru, .inr (7, [.ref mo, .ref rch, .ref rhe, .ref rst, .ref rce])), (mo, .inr (5, [.int (nI q), .int (nI g), .int (nI t), .int (nI r), .ref af, .ref ar, .ref at_, .ref aw, .ref am, .ref ap])), (af, .inl (cI, 8, .inl ff)), (ar, .inl (cI, 8, .inl fr)), (at_, .inl (cI, 8, .inl fto)), (aw, .inl (cI, 8, .inl fw)), (am, .inl (cI, 8, .inl fm)), (ap, .inl (cI, 4, .inl fp)), (rch, .inl (cI, 3, .inl fch)), (rhe, .inl (cI, 4, .inl fhe)), (rst, .inl (cI, 4, .inl fst)), (rce, .inl (cG, 4, .inr (.inr (.inr (.inr (fun gi => some (rc gi))))))), (rc 0, .inl (cI, 4, .inl (hh 0))), (rc 1, .inl (cI, 4, .inl (hh 1))), (rc 2, .inl (cI, 4, .inl (hh 2))), (rc 3, .inl (cI, 4, .inl (hh 3)))] (fun (ov : Option Value) (ow : va_W) => ∃ rb : Int32, ∃ fhe' : Nat → Int32, ∃ fst' : Nat → Int32, ∃ hh' : Nat → Nat → Int32, ov = some (.int rb) ∧ ow = [(xo, .inr (9, [.ref mo, .ref ru, .ref fo, .ref go, .ref fd, .ref tr, .int (nI xb), .int (nI 1)])), (ru, .inr (7, [.ref mo, .ref rch, .ref rhe, .ref rst, .ref rce])), (mo, .inr (5, [.int (nI q), .int (nI g), .int (nI t), .int (nI r), .ref af, .ref ar, .ref at_, .ref aw, .ref am, .ref ap])), (af, .inl (cI, 8, .inl ff)), (ar, .inl (cI, 8, .inl fr)), (at_, .inl (cI, 8, .inl fto)), (aw, .inl (cI, 8, .inl fw)), (am, .inl (cI, 8, .inl fm)), (ap, .inl (cI, 4, .inl fp)), (rch, .inl (cI, 3, .inl fch)), (rhe, .inl (cI, 4, .inl fhe')), (rst, .inl (cI, 4, .inl fst')), (rce, .inl (cG, 4, .inr (.inr (.inr (.inr (fun gi => some (rc gi))))))), (rc 0, .inl (cI, 4, .inl (hh' 0))), (rc 1, .inl (cI, 4, .inl (hh' 1))), (rc 2, .inl (cI, 4, .inl (hh' 2))), (rc 3, .inl (cI, 4, .inl (hh' 3)))] ∧ ((rb = 1 ∧ (zacc q r t rl tp ch)) ∨ (rb = 0 ∧ ¬ (zacc q r t rl tp ch)))) := by
  refine zC.of (cc := cX7_replay) (maxL := 1) (ret := (some .boolean)) (by decide) rfl (Nat.le_of_ble_eq_true rfl) ?_
  intro p e s m below meth c A ls F hr hlk hnm B hl
  have hl : lv_has ls 1 [(0, .ref xo)] := hl
  refine lv_aload_n F.1 F.2.1 dX7_replay_0 rfl (lv_at hl 0 rfl) ?_
  refine z_get F B 0 rfl (ci := 9) (C := RX7) (T := TX7) (N := 8) rfl iX7_replay_X7 7 (by decide) fX7_replay_63 rfl dX7_replay_1 ?_
  refine lv_if_ne (tgt := 17) F.1 F.2.1 dX7_replay_4 (by decide) (fun _ => ?_) (fun hq => absurd hq (by decide))
  refine lv_aload_n F.1 F.2.1 dX7_replay_17 rfl (lv_at hl 0 rfl) ?_
  refine z_get F B 0 rfl (ci := 9) (C := RX7) (T := TX7) (N := 8) rfl iX7_replay_X7 1 (by decide) fX7_replay_21 rfl dX7_replay_18 ?_
  refine z_callV (wr := [(xo, .inr (9, [.ref mo, .ref ru, .ref fo, .ref go, .ref fd, .ref tr, .int (nI xb), .int (nI 1)]))]) (rest := []) (As := []) F B (kX5_follow l D cI cZ cG cJ ru mo rch rhe rst rce q g t r af ar at_ aw am ap fhe fst rc hh ff fr fto fw fm rl fp tp fch ch (by omega) (by omega) (by omega) (by omega) (hff) (hfr) (hfto) (hfw) (hfm) (hrb4) (htp) (htp3) (hch)) hl.1 (C := RX5) (T := TX5) (N := 5) (ci := 7) (q0 := 1) gX7_replay_X5_follow rfl 0 yX7_replay_X5_follow rfl rfl rfl [1, 2, 3, 4, 5, 6, 7, 8, 9, 10, 11, 12, 13, 14, 15, 16] [0] rfl rfl rfl rfl (by decide) (Nat.le_of_ble_eq_true rfl) (Nat.le_of_ble_eq_true rfl) (Nat.le_of_ble_eq_true rfl) rfl dX7_replay_21 (show 0 + 0 ≤ 0 by omega) (show 0 + 0 ≤ 0 by omega) (fun vv ww H locs hRR B => ?_)
  obtain ⟨r_1, fhe'_2, fst'_3, hh'_4, rfl, rfl, hb_5, hrw_6⟩ := hRR
  have B : zB D (zT cI cZ cG cJ) A s.heap s [(xo, .inr (9, [.ref mo, .ref ru, .ref fo, .ref go, .ref fd, .ref tr, .int (nI xb), .int (nI 1)])), (ru, .inr (7, [.ref mo, .ref rch, .ref rhe, .ref rst, .ref rce])), (mo, .inr (5, [.int (nI q), .int (nI g), .int (nI t), .int (nI r), .ref af, .ref ar, .ref at_, .ref aw, .ref am, .ref ap])), (af, .inl (cI, 8, .inl ff)), (ar, .inl (cI, 8, .inl fr)), (at_, .inl (cI, 8, .inl fto)), (aw, .inl (cI, 8, .inl fw)), (am, .inl (cI, 8, .inl fm)), (ap, .inl (cI, 4, .inl fp)), (rch, .inl (cI, 3, .inl fch)), (rhe, .inl (cI, 4, .inl fhe'_2)), (rst, .inl (cI, 4, .inl fst'_3)), (rce, .inl (cG, 4, .inr (.inr (.inr (.inr (fun gi => some (rc gi))))))), (rc 0, .inl (cI, 4, .inl (hh'_4 0))), (rc 1, .inl (cI, 4, .inl (hh'_4 1))), (rc 2, .inl (cI, 4, .inl (hh'_4 2))), (rc 3, .inl (cI, 4, .inl (hh'_4 3)))] _ _ := B
  rcases hb_5 with ⟨hr1, hpF⟩ | ⟨hr1, hpF⟩ <;> subst hr1
  · refine W.eq (g2 := F0 m 24 ls [.int 1]) rfl ?_
    exact z_zret F hr hlk B (Or.inr rfl) [0, 1, 2, 3, 4, 5, 6, 7, 8, 9, 10, 11, 12, 13, 14, 15, 16] rfl (rfl) dX7_replay_24 (by omega) (by omega) ⟨1, fhe'_2, fst'_3, hh'_4, rfl, rfl, Or.inl ⟨rfl, hpF⟩⟩
  · refine W.eq (g2 := F0 m 24 ls [.int 0]) rfl ?_
    exact z_zret F hr hlk B (Or.inl rfl) [0, 1, 2, 3, 4, 5, 6, 7, 8, 9, 10, 11, 12, 13, 14, 15, 16] rfl (rfl) dX7_replay_24 (by omega) (by omega) ⟨0, fhe'_2, fst'_3, hh'_4, rfl, rfl, Or.inr ⟨rfl, hpF⟩⟩
