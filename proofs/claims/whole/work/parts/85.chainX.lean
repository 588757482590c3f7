/-! CONTRACTS of TourChain where it throws -/
theorem zx_nS : ∀ w ∈ (vx_atS RX7 155 zIS zRE).filter (fun w => !goodWord w), w ∈ [Cond.declares (Bundle.initS "java/lang/RuntimeException"), Cond.declares (Bundle.initS "java/lang/Exception"), Cond.declares (Bundle.initS Bundle.tN), Cond.castable zIS zIS] := by decide +kernel
theorem zx_nA : ∀ w ∈ (vx_atS RX7 191 zIA zRE).filter (fun w => !goodWord w), w ∈ [Cond.declares (Bundle.initS "java/lang/RuntimeException"), Cond.declares (Bundle.initS "java/lang/Exception"), Cond.declares (Bundle.initS Bundle.tN), Cond.castable zIA zIA] := by decide +kernel
theorem zx_gS : ∀ w ∈ Cond.classLink RX7 151 zIS :: Cond.initialized zIS :: vx_atS RX7 155 zIS zRE, vx_ot w = true := by decide +kernel
theorem zx_gA : ∀ w ∈ Cond.classLink RX7 187 zIA :: Cond.initialized zIA :: vx_atS RX7 191 zIA zRE, vx_ot w = true := by decide +kernel
theorem mX7_solve_tk : Cond.classLink RX7 151 zIS ∈ wsX7_solve := by decide +kernel
theorem mX7_solve_ti : Cond.initialized zIS ∈ wsX7_solve := by decide +kernel
set_option maxHeartbeats 4000000 in
set_option maxRecDepth 100000 in
theorem tX7_solve (l : Launch) (hl0 : l.stackTraces = false) (D : va_G) (cI cZ cG cJ : ClassId) (xo : Nat) (mo : Nat) (ru : Nat) (fo : Nat) (go : Nat) (fd : Nat) (tr : Nat) (xs : Nat)  : ztC l yX7_solve wsX7_solve 6 82 D (zT cI cZ cG cJ) [.ref xo] [(xo, .inr (9, [.ref mo, .ref ru, .ref fo, .ref go, .ref fd, .ref tr, .int (nI 0), .int (nI xs)]))] zIS := by
  refine ztC.of (cc := cX7_solve) (maxL := 1) (ret := (some .boolean)) (by decide) rfl (Nat.le_of_ble_eq_true rfl) ?_
  intro p e s m below meth c A ls F hr hlk ht hX B hl
  have hl : lv_has ls 1 [(0, .ref xo)] := hl
  refine lv_aload_n F.1 F.2.1 dX7_solve_0 rfl (lv_at hl 0 rfl) ?_
  refine z_get F B 0 rfl (ci := 9) (C := RX7) (T := TX7) (N := 8) rfl iX7_solve_X7 6 (by decide) fX7_solve_59 rfl dX7_solve_1 ?_
  refine lv_if_ne (tgt := 17) F.1 F.2.1 dX7_solve_4 (by decide) (fun hq => absurd (by decide) hq) (fun _ => ?_)
  obtain ⟨sa, hsa⟩ := hX.2.1.1
  exact z_throw (ic := 155) F hl0 hlk ht hl.1 (by decide) hX hX.1.2.2.2.1 hsa B mX7_solve_tk mX7_solve_ti (fun w h => List.mem_cons_of_mem _ (List.mem_append_right _ h)) zx_nS zx_gS [0] rfl rfl dX7_solve_7 dX7_solve_10 dX7_solve_11 dX7_solve_13 dX7_solve_16 (by decide) (by decide) (by decide) (by decide) rfl rfl
theorem mX7_requireTrip_tk : Cond.classLink RX7 151 zIS ∈ wsX7_requireTrip := by decide +kernel
theorem mX7_requireTrip_ti : Cond.initialized zIS ∈ wsX7_requireTrip := by decide +kernel
set_option maxHeartbeats 4000000 in
set_option maxRecDepth 100000 in
theorem tX7_requireTrip (l : Launch) (hl0 : l.stackTraces = false) (D : va_G) (cI cZ cG cJ : ClassId) (xo : Nat) (mo : Nat) (ru : Nat) (fo : Nat) (go : Nat) (fd : Nat) (tr : Nat) (xb : Nat)  : ztC l yX7_requireTrip wsX7_requireTrip 6 82 D (zT cI cZ cG cJ) [.ref xo] [(xo, .inr (9, [.ref mo, .ref ru, .ref fo, .ref go, .ref fd, .ref tr, .int (nI xb), .int (nI 0)]))] zIS := by
  refine ztC.of (cc := cX7_requireTrip) (maxL := 1) (ret := none) (by decide) rfl (Nat.le_of_ble_eq_true rfl) ?_
  intro p e s m below meth c A ls F hr hlk ht hX B hl
  have hl : lv_has ls 1 [(0, .ref xo)] := hl
  refine lv_aload_n F.1 F.2.1 dX7_requireTrip_0 rfl (lv_at hl 0 rfl) ?_
  refine z_get F B 0 rfl (ci := 9) (C := RX7) (T := TX7) (N := 8) rfl iX7_requireTrip_X7 7 (by decide) fX7_requireTrip_63 rfl dX7_requireTrip_1 ?_
  refine lv_if_ne (tgt := 17) F.1 F.2.1 dX7_requireTrip_4 (by decide) (fun hq => absurd (by decide) hq) (fun _ => ?_)
  obtain ⟨sa, hsa⟩ := hX.2.1.2.1
  exact z_throw (ic := 155) F hl0 hlk ht hl.1 (by decide) hX hX.1.2.2.2.1 hsa B mX7_requireTrip_tk mX7_requireTrip_ti (fun w h => List.mem_cons_of_mem _ (List.mem_append_right _ h)) zx_nS zx_gS [0] rfl rfl dX7_requireTrip_7 dX7_requireTrip_10 dX7_requireTrip_11 dX7_requireTrip_13 dX7_requireTrip_16 (by decide) (by decide) (by decide) (by decide) rfl rfl
theorem mX7_replay_tk : Cond.classLink RX7 151 zIS ∈ wsX7_replay := by decide +kernel
theorem mX7_replay_ti : Cond.initialized zIS ∈ wsX7_replay := by decide +kernel
set_option maxHeartbeats 4000000 in
set_option maxRecDepth 100000 in
theorem tX7_replay (l : Launch) (hl0 : l.stackTraces = false) (D : va_G) (cI cZ cG cJ : ClassId) (xo : Nat) (mo : Nat) (ru : Nat) (fo : Nat) (go : Nat) (fd : Nat) (tr : Nat) (xb : Nat)  : ztC l yX7_replay wsX7_replay 6 82 D (zT cI cZ cG cJ) [.ref xo] [(xo, .inr (9, [.ref mo, .ref ru, .ref fo, .ref go, .ref fd, .ref tr, .int (nI xb), .int (nI 0)]))] zIS := by
  refine ztC.of (cc := cX7_replay) (maxL := 1) (ret := (some .boolean)) (by decide) rfl (Nat.le_of_ble_eq_true rfl) ?_
  intro p e s m below meth c A ls F hr hlk ht hX B hl
  have hl : lv_has ls 1 [(0, .ref xo)] := hl
  refine lv_aload_n F.1 F.2.1 dX7_replay_0 rfl (lv_at hl 0 rfl) ?_
  refine z_get F B 0 rfl (ci := 9) (C := RX7) (T := TX7) (N := 8) rfl iX7_replay_X7 7 (by decide) fX7_replay_63 rfl dX7_replay_1 ?_
  refine lv_if_ne (tgt := 17) F.1 F.2.1 dX7_replay_4 (by decide) (fun hq => absurd (by decide) hq) (fun _ => ?_)
  obtain ⟨sa, hsa⟩ := hX.2.1.2.2.2.2
  exact z_throw (ic := 155) F hl0 hlk ht hl.1 (by decide) hX hX.1.2.2.2.1 hsa B mX7_replay_tk mX7_replay_ti (fun w h => List.mem_cons_of_mem _ (List.mem_append_right _ h)) zx_nS zx_gS [0] rfl rfl dX7_replay_7 dX7_replay_10 dX7_replay_11 dX7_replay_13 dX7_replay_16 (by decide) (by decide) (by decide) (by decide) rfl rfl
set_option maxHeartbeats 4000000 in
set_option maxRecDepth 100000 in
theorem tX7_put (l : Launch) (hl0 : l.stackTraces = false) (D : va_G) (cI cZ cG cJ : ClassId) (xo : Nat) (mo : Nat) (ru : Nat) (fo : Nat) (go : Nat) (fd : Nat) (tr : Nat) (xb : Nat) (u1 : Int32) (u2 : Int32)  : ztC l yX7_put wsX7_put 7 102 D (zT cI cZ cG cJ) [.ref xo, .int u1, .int u2] [(xo, .inr (9, [.ref mo, .ref ru, .ref fo, .ref go, .ref fd, .ref tr, .int (nI xb), .int (nI 0)]))] zIS := by
  refine ztC.of (cc := cX7_put) (maxL := 3) (ret := (some .int)) (by decide) rfl (Nat.le_of_ble_eq_true rfl) ?_
  intro p e s m below meth c A ls F hr hlk ht hX B hl
  have hl : lv_has ls 3 [(0, .ref xo), (1, .int u1), (2, .int u2)] := hl
  refine lv_aload_n F.1 F.2.1 dX7_put_0 rfl (lv_at hl 0 rfl) ?_
  refine z_callX (wr := []) (rest := []) (As := []) F (hX.at B.2.2.2.1) B (tX7_requireTrip l hl0 D cI cZ cG cJ xo mo ru fo go fd tr xb) hl.1 (C := RX7) (T := TX7) (N := 8) (ci := 9) (q0 := 0) gX7_put_X7_requireTrip rfl 0 yX7_put_X7_requireTrip rfl rfl rfl [0] [] rfl rfl rfl rfl (by decide) (Nat.le_of_ble_eq_true rfl) (Nat.le_of_ble_eq_true rfl) (Nat.le_of_ble_eq_true rfl) rfl dX7_put_1 (by decide) (by decide) (fun qx cx H locs h1 h2 h3 B => ?_)
  exact z_out hlk ht h1 h2 h3 B [0] rfl rfl (by decide) (by decide)
set_option maxHeartbeats 4000000 in
set_option maxRecDepth 100000 in
theorem tX7_turn (l : Launch) (hl0 : l.stackTraces = false) (D : va_G) (cI cZ cG cJ : ClassId) (xo : Nat) (mo : Nat) (ru : Nat) (fo : Nat) (go : Nat) (fd : Nat) (tr : Nat) (xb : Nat) (u1 : Int32) (rd : Nat)  : ztC l yX7_turn wsX7_turn 7 102 D (zT cI cZ cG cJ) [.ref xo, .int u1, .int (nI rd)] [(xo, .inr (9, [.ref mo, .ref ru, .ref fo, .ref go, .ref fd, .ref tr, .int (nI xb), .int (nI 0)]))] zIS := by
  refine ztC.of (cc := cX7_turn) (maxL := 3) (ret := none) (by decide) rfl (Nat.le_of_ble_eq_true rfl) ?_
  intro p e s m below meth c A ls F hr hlk ht hX B hl
  have hl : lv_has ls 3 [(0, .ref xo), (1, .int u1), (2, .int (nI rd))] := hl
  refine lv_aload_n F.1 F.2.1 dX7_turn_0 rfl (lv_at hl 0 rfl) ?_
  refine z_callX (wr := []) (rest := []) (As := []) F (hX.at B.2.2.2.1) B (tX7_requireTrip l hl0 D cI cZ cG cJ xo mo ru fo go fd tr xb) hl.1 (C := RX7) (T := TX7) (N := 8) (ci := 9) (q0 := 0) gX7_turn_X7_requireTrip rfl 0 yX7_turn_X7_requireTrip rfl rfl rfl [0] [] rfl rfl rfl rfl (by decide) (Nat.le_of_ble_eq_true rfl) (Nat.le_of_ble_eq_true rfl) (Nat.le_of_ble_eq_true rfl) rfl dX7_turn_1 (by decide) (by decide) (fun qx cx H locs h1 h2 h3 B => ?_)
  exact z_out hlk ht h1 h2 h3 B [0] rfl rfl (by decide) (by decide)
set_option maxHeartbeats 4000000 in
set_option maxRecDepth 100000 in
theorem tX7_cost (l : Launch) (hl0 : l.stackTraces = false) (D : va_G) (cI cZ cG cJ : ClassId) (xo : Nat) (mo : Nat) (ru : Nat) (fo : Nat) (go : Nat) (fd : Nat) (tr : Nat) (xb : Nat)  : ztC l yX7_cost wsX7_cost 7 102 D (zT cI cZ cG cJ) [.ref xo] [(xo, .inr (9, [.ref mo, .ref ru, .ref fo, .ref go, .ref fd, .ref tr, .int (nI xb), .int (nI 0)]))] zIS := by
  refine ztC.of (cc := cX7_cost) (maxL := 1) (ret := (some .int)) (by decide) rfl (Nat.le_of_ble_eq_true rfl) ?_
  intro p e s m below meth c A ls F hr hlk ht hX B hl
  have hl : lv_has ls 1 [(0, .ref xo)] := hl
  refine lv_aload_n F.1 F.2.1 dX7_cost_0 rfl (lv_at hl 0 rfl) ?_
  refine z_callX (wr := []) (rest := []) (As := []) F (hX.at B.2.2.2.1) B (tX7_requireTrip l hl0 D cI cZ cG cJ xo mo ru fo go fd tr xb) hl.1 (C := RX7) (T := TX7) (N := 8) (ci := 9) (q0 := 0) gX7_cost_X7_requireTrip rfl 0 yX7_cost_X7_requireTrip rfl rfl rfl [0] [] rfl rfl rfl rfl (by decide) (Nat.le_of_ble_eq_true rfl) (Nat.le_of_ble_eq_true rfl) (Nat.le_of_ble_eq_true rfl) rfl dX7_cost_1 (by decide) (by decide) (fun qx cx H locs h1 h2 h3 B => ?_)
  exact z_out hlk ht h1 h2 h3 B [0] rfl rfl (by decide) (by decide)
set_option maxHeartbeats 4000000 in
set_option maxRecDepth 100000 in
theorem tX7_pull (l : Launch) (hl0 : l.stackTraces = false) (D : va_G) (cI cZ cG cJ : ClassId) (xo : Nat) (mo : Nat) (ru : Nat) (fo : Nat) (go : Nat) (fd : Nat) (tr : Nat) (xb : Nat)  : ztC l yX7_pull wsX7_pull 7 102 D (zT cI cZ cG cJ) [.ref xo] [(xo, .inr (9, [.ref mo, .ref ru, .ref fo, .ref go, .ref fd, .ref tr, .int (nI xb), .int (nI 0)]))] zIS := by
  refine ztC.of (cc := cX7_pull) (maxL := 2) (ret := (some .boolean)) (by decide) rfl (Nat.le_of_ble_eq_true rfl) ?_
  intro p e s m below meth c A ls F hr hlk ht hX B hl
  have hl : lv_has ls 2 [(0, .ref xo)] := hl
  refine lv_aload_n F.1 F.2.1 dX7_pull_0 rfl (lv_at hl 0 rfl) ?_
  refine z_callX (wr := []) (rest := []) (As := []) F (hX.at B.2.2.2.1) B (tX7_requireTrip l hl0 D cI cZ cG cJ xo mo ru fo go fd tr xb) hl.1 (C := RX7) (T := TX7) (N := 8) (ci := 9) (q0 := 0) gX7_pull_X7_requireTrip rfl 0 yX7_pull_X7_requireTrip rfl rfl rfl [0] [] rfl rfl rfl rfl (by decide) (Nat.le_of_ble_eq_true rfl) (Nat.le_of_ble_eq_true rfl) (Nat.le_of_ble_eq_true rfl) rfl dX7_pull_1 (by decide) (by decide) (fun qx cx H locs h1 h2 h3 B => ?_)
  exact z_out hlk ht h1 h2 h3 B [0] rfl rfl (by decide) (by decide)
theorem mX7_put_tk : Cond.classLink RX7 187 zIA ∈ wsX7_put := by decide +kernel
theorem mX7_put_ti : Cond.initialized zIA ∈ wsX7_put := by decide +kernel
set_option maxHeartbeats 4000000 in
set_option maxRecDepth 100000 in
theorem tX7_putA (l : Launch) (hl0 : l.stackTraces = false) (D : va_G) (cI cZ cG cJ : ClassId) (xo : Nat) (mo : Nat) (ru : Nat) (fo : Nat) (go : Nat) (fd : Nat) (tr : Nat) (xb : Nat) (ve : Nat) (ed : Nat) (se : Nat) (ci : Nat) (gva : Nat) (gsi : Nat) (gsd : Nat) (gst : Nat) (u1 : Int32) (u2 : Int32) (hci : ci ≤ 200000) (hno : ¬ (zq u1 ci ∧ zq u2 ci)) : ztC l yX7_put wsX7_put 7 150 D (zT cI cZ cG cJ) [.ref xo, .int u1, .int u2] [(xo, .inr (9, [.ref mo, .ref ru, .ref fo, .ref go, .ref fd, .ref tr, .int (nI xb), .int (nI 1)])), (go, .inr (4, [.ref fo, .int (nI ve), .int (nI ed), .int (nI se), .int (nI ci), .ref gva, .ref gsi, .ref gsd, .ref gst]))] zIA := by
  refine ztC.of (cc := cX7_put) (maxL := 3) (ret := (some .int)) (by decide) rfl (Nat.le_of_ble_eq_true rfl) ?_
  intro p e s m below meth c A ls F hr hlk ht hX B hl
  have hl : lv_has ls 3 [(0, .ref xo), (1, .int u1), (2, .int u2)] := hl
  refine lv_aload_n F.1 F.2.1 dX7_put_0 rfl (lv_at hl 0 rfl) ?_
  refine z_callV (wr := [(go, .inr (4, [.ref fo, .int (nI ve), .int (nI ed), .int (nI se), .int (nI ci), .ref gva, .ref gsi, .ref gsd, .ref gst]))]) (rest := []) (As := []) F B (kX7_requireTripN l D cI cZ cG cJ xo mo ru fo go fd tr xb) hl.1 (C := RX7) (T := TX7) (N := 8) (ci := 9) (q0 := 0) gX7_put_X7_requireTrip rfl 0 yX7_put_X7_requireTrip rfl rfl rfl [0] [1] rfl rfl rfl rfl (by decide) (Nat.le_of_ble_eq_true rfl) (Nat.le_of_ble_eq_true rfl) (Nat.le_of_ble_eq_true rfl) rfl dX7_put_1 (show 0 + 0 ≤ 1 by omega) (show 0 + 0 ≤ 6 by omega) (fun vv ww H locs hRR B => ?_)
  obtain ⟨rfl, rfl⟩ := hRR
  have B : zB D (zT cI cZ cG cJ) A s.heap s [(go, .inr (4, [.ref fo, .int (nI ve), .int (nI ed), .int (nI se), .int (nI ci), .ref gva, .ref gsi, .ref gsd, .ref gst])), (xo, .inr (9, [.ref mo, .ref ru, .ref fo, .ref go, .ref fd, .ref tr, .int (nI xb), .int (nI 1)]))] _ _ := B
  refine W.eq (g2 := F0 m 4 ls []) rfl ?_
  refine lv_iload_n F.1 F.2.1 dX7_put_4 rfl (lv_at hl 1 rfl) ?_
  refine lv_aload_n F.1 F.2.1 dX7_put_5 rfl (lv_at hl 0 rfl) ?_
  refine z_get F B 1 rfl (ci := 9) (C := RX7) (T := TX7) (N := 8) rfl iX7_put_X7 3 (by decide) fX7_put_37 rfl dX7_put_6 ?_
  refine z_get F B 0 rfl (ci := 4) (C := RX2) (T := TX2) (N := 9) rfl iX7_put_X2 4 (by decide) fX7_put_110 rfl dX7_put_9 ?_
  refine z_callS (wr := [(go, .inr (4, [.ref fo, .int (nI ve), .int (nI ed), .int (nI se), .int (nI ci), .ref gva, .ref gsi, .ref gsd, .ref gst])), (xo, .inr (9, [.ref mo, .ref ru, .ref fo, .ref go, .ref fd, .ref tr, .int (nI xb), .int (nI 1)]))]) (rest := []) (As := [.int u1, .int (nI ci)]) F B (kX7_isIndex l D cI cZ cG cJ u1 (nI ci)) hl.1 gX7_put_X7_isIndex rfl 2 yX7_put_X7_isIndex rfl [] [0, 1] rfl rfl rfl rfl (by decide) (Nat.le_of_ble_eq_true rfl) (Nat.le_of_ble_eq_true rfl) (Nat.le_of_ble_eq_true rfl) rfl dX7_put_12 (show 0 + 0 ≤ 1 by omega) (show 0 + 0 ≤ 6 by omega) (fun vv ww H locs hRR B => ?_)
  obtain ⟨r_1, rfl, rfl, hb_2⟩ := hRR
  have B : zB D (zT cI cZ cG cJ) A s.heap s [(go, .inr (4, [.ref fo, .int (nI ve), .int (nI ed), .int (nI se), .int (nI ci), .ref gva, .ref gsi, .ref gsd, .ref gst])), (xo, .inr (9, [.ref mo, .ref ru, .ref fo, .ref go, .ref fd, .ref tr, .int (nI xb), .int (nI 1)]))] _ _ := B
  rcases hb_2 with ⟨hr1, g1⟩ | ⟨hr1, g1⟩ <;> subst hr1
  · refine W.eq (g2 := F0 m 15 ls [.int 1]) rfl ?_
    have g1 := (zqI (n := ci) (by omega)).mp g1
    refine lv_if_eq (tgt := 32) F.1 F.2.1 dX7_put_15 (by decide) (fun hq => absurd hq (by decide)) (fun _ => ?_)
    refine lv_iload_n F.1 F.2.1 dX7_put_18 rfl (lv_at hl 2 rfl) ?_
    refine lv_aload_n F.1 F.2.1 dX7_put_19 rfl (lv_at hl 0 rfl) ?_
    refine z_get F B 1 rfl (ci := 9) (C := RX7) (T := TX7) (N := 8) rfl iX7_put_X7 3 (by decide) fX7_put_37 rfl dX7_put_20 ?_
    refine z_get F B 0 rfl (ci := 4) (C := RX2) (T := TX2) (N := 9) rfl iX7_put_X2 4 (by decide) fX7_put_110 rfl dX7_put_23 ?_
    refine z_callS (wr := [(go, .inr (4, [.ref fo, .int (nI ve), .int (nI ed), .int (nI se), .int (nI ci), .ref gva, .ref gsi, .ref gsd, .ref gst])), (xo, .inr (9, [.ref mo, .ref ru, .ref fo, .ref go, .ref fd, .ref tr, .int (nI xb), .int (nI 1)]))]) (rest := []) (As := [.int u2, .int (nI ci)]) F B (kX7_isIndex l D cI cZ cG cJ u2 (nI ci)) hl.1 gX7_put_X7_isIndex rfl 2 yX7_put_X7_isIndex rfl [] [0, 1] rfl rfl rfl rfl (by decide) (Nat.le_of_ble_eq_true rfl) (Nat.le_of_ble_eq_true rfl) (Nat.le_of_ble_eq_true rfl) rfl dX7_put_26 (show 0 + 0 ≤ 1 by omega) (show 0 + 0 ≤ 6 by omega) (fun vv ww H locs hRR B => ?_)
    obtain ⟨r_3, rfl, rfl, hb_4⟩ := hRR
    have B : zB D (zT cI cZ cG cJ) A s.heap s [(go, .inr (4, [.ref fo, .int (nI ve), .int (nI ed), .int (nI se), .int (nI ci), .ref gva, .ref gsi, .ref gsd, .ref gst])), (xo, .inr (9, [.ref mo, .ref ru, .ref fo, .ref go, .ref fd, .ref tr, .int (nI xb), .int (nI 1)]))] _ _ := B
    rcases hb_4 with ⟨hr1, g2⟩ | ⟨hr1, g2⟩ <;> subst hr1
    · refine W.eq (g2 := F0 m 29 ls [.int 1]) rfl ?_
      have g2 := (zqI (n := ci) (by omega)).mp g2
      exact absurd ⟨g1, g2⟩ hno
    · refine W.eq (g2 := F0 m 29 ls [.int 0]) rfl ?_
      have g2 : ¬ zq u2 ci := fun q9 => g2 ((zqI (n := ci) (by omega)).mpr q9)
      refine lv_if_ne (tgt := 42) F.1 F.2.1 dX7_put_29 (by decide) (fun hq => absurd (by decide) hq) (fun _ => ?_)
      obtain ⟨sa, hsa⟩ := hX.2.1.2.2.1
      exact z_throw (ic := 191) F hl0 hlk ht hl.1 (by decide) hX hX.1.2.2.2.2.1 hsa B mX7_put_tk mX7_put_ti (fun w h => List.mem_cons_of_mem _ (List.mem_append_left _ (List.mem_append_right _ h))) zx_nA zx_gA [1, 0] rfl rfl dX7_put_32 dX7_put_35 dX7_put_36 dX7_put_38 dX7_put_41 (by decide) (by decide) (by decide) (by decide) rfl rfl
  · refine W.eq (g2 := F0 m 15 ls [.int 0]) rfl ?_
    have g1 : ¬ zq u1 ci := fun q9 => g1 ((zqI (n := ci) (by omega)).mpr q9)
    refine lv_if_eq (tgt := 32) F.1 F.2.1 dX7_put_15 (by decide) (fun _ => ?_) (fun hq => absurd (by decide) hq)
    obtain ⟨sa, hsa⟩ := hX.2.1.2.2.1
    exact z_throw (ic := 191) F hl0 hlk ht hl.1 (by decide) hX hX.1.2.2.2.2.1 hsa B mX7_put_tk mX7_put_ti (fun w h => List.mem_cons_of_mem _ (List.mem_append_left _ (List.mem_append_right _ h))) zx_nA zx_gA [1, 0] rfl rfl dX7_put_32 dX7_put_35 dX7_put_36 dX7_put_38 dX7_put_41 (by decide) (by decide) (by decide) (by decide) rfl rfl
theorem mX7_turn_tk : Cond.classLink RX7 187 zIA ∈ wsX7_turn := by decide +kernel
theorem mX7_turn_ti : Cond.initialized zIA ∈ wsX7_turn := by decide +kernel
set_option maxHeartbeats 4000000 in
set_option maxRecDepth 100000 in
theorem tX7_turnA (l : Launch) (hl0 : l.stackTraces = false) (D : va_G) (cI cZ cG cJ : ClassId) (xo : Nat) (mo : Nat) (ru : Nat) (fo : Nat) (go : Nat) (fd : Nat) (tr : Nat) (xb : Nat) (ve : Nat) (ed : Nat) (se : Nat) (ci : Nat) (gva : Nat) (gsi : Nat) (gsd : Nat) (gst : Nat) (u1 : Int32) (rd : Nat) (hci : ci ≤ 200000) (hno : ¬ zq u1 ci) : ztC l yX7_turn wsX7_turn 7 150 D (zT cI cZ cG cJ) [.ref xo, .int u1, .int (nI rd)] [(xo, .inr (9, [.ref mo, .ref ru, .ref fo, .ref go, .ref fd, .ref tr, .int (nI xb), .int (nI 1)])), (go, .inr (4, [.ref fo, .int (nI ve), .int (nI ed), .int (nI se), .int (nI ci), .ref gva, .ref gsi, .ref gsd, .ref gst]))] zIA := by
  refine ztC.of (cc := cX7_turn) (maxL := 3) (ret := none) (by decide) rfl (Nat.le_of_ble_eq_true rfl) ?_
  intro p e s m below meth c A ls F hr hlk ht hX B hl
  have hl : lv_has ls 3 [(0, .ref xo), (1, .int u1), (2, .int (nI rd))] := hl
  refine lv_aload_n F.1 F.2.1 dX7_turn_0 rfl (lv_at hl 0 rfl) ?_
  refine z_callV (wr := [(go, .inr (4, [.ref fo, .int (nI ve), .int (nI ed), .int (nI se), .int (nI ci), .ref gva, .ref gsi, .ref gsd, .ref gst]))]) (rest := []) (As := []) F B (kX7_requireTripN l D cI cZ cG cJ xo mo ru fo go fd tr xb) hl.1 (C := RX7) (T := TX7) (N := 8) (ci := 9) (q0 := 0) gX7_turn_X7_requireTrip rfl 0 yX7_turn_X7_requireTrip rfl rfl rfl [0] [1] rfl rfl rfl rfl (by decide) (Nat.le_of_ble_eq_true rfl) (Nat.le_of_ble_eq_true rfl) (Nat.le_of_ble_eq_true rfl) rfl dX7_turn_1 (show 0 + 0 ≤ 1 by omega) (show 0 + 0 ≤ 6 by omega) (fun vv ww H locs hRR B => ?_)
  obtain ⟨rfl, rfl⟩ := hRR
  have B : zB D (zT cI cZ cG cJ) A s.heap s [(go, .inr (4, [.ref fo, .int (nI ve), .int (nI ed), .int (nI se), .int (nI ci), .ref gva, .ref gsi, .ref gsd, .ref gst])), (xo, .inr (9, [.ref mo, .ref ru, .ref fo, .ref go, .ref fd, .ref tr, .int (nI xb), .int (nI 1)]))] _ _ := B
  refine W.eq (g2 := F0 m 4 ls []) rfl ?_
  refine lv_iload_n F.1 F.2.1 dX7_turn_4 rfl (lv_at hl 1 rfl) ?_
  refine lv_aload_n F.1 F.2.1 dX7_turn_5 rfl (lv_at hl 0 rfl) ?_
  refine z_get F B 1 rfl (ci := 9) (C := RX7) (T := TX7) (N := 8) rfl iX7_turn_X7 3 (by decide) fX7_turn_37 rfl dX7_turn_6 ?_
  refine z_get F B 0 rfl (ci := 4) (C := RX2) (T := TX2) (N := 9) rfl iX7_turn_X2 4 (by decide) fX7_turn_110 rfl dX7_turn_9 ?_
  refine z_callS (wr := [(go, .inr (4, [.ref fo, .int (nI ve), .int (nI ed), .int (nI se), .int (nI ci), .ref gva, .ref gsi, .ref gsd, .ref gst])), (xo, .inr (9, [.ref mo, .ref ru, .ref fo, .ref go, .ref fd, .ref tr, .int (nI xb), .int (nI 1)]))]) (rest := []) (As := [.int u1, .int (nI ci)]) F B (kX7_isIndex l D cI cZ cG cJ u1 (nI ci)) hl.1 gX7_turn_X7_isIndex rfl 2 yX7_turn_X7_isIndex rfl [] [0, 1] rfl rfl rfl rfl (by decide) (Nat.le_of_ble_eq_true rfl) (Nat.le_of_ble_eq_true rfl) (Nat.le_of_ble_eq_true rfl) rfl dX7_turn_12 (show 0 + 0 ≤ 1 by omega) (show 0 + 0 ≤ 6 by omega) (fun vv ww H locs hRR B => ?_)
  obtain ⟨r_1, rfl, rfl, hb_2⟩ := hRR
  have B : zB D (zT cI cZ cG cJ) A s.heap s [(go, .inr (4, [.ref fo, .int (nI ve), .int (nI ed), .int (nI se), .int (nI ci), .ref gva, .ref gsi, .ref gsd, .ref gst])), (xo, .inr (9, [.ref mo, .ref ru, .ref fo, .ref go, .ref fd, .ref tr, .int (nI xb), .int (nI 1)]))] _ _ := B
  rcases hb_2 with ⟨hr1, g1⟩ | ⟨hr1, g1⟩ <;> subst hr1
  · refine W.eq (g2 := F0 m 15 ls [.int 1]) rfl ?_
    have g1 := (zqI (n := ci) (by omega)).mp g1
    exact absurd g1 hno
  · refine W.eq (g2 := F0 m 15 ls [.int 0]) rfl ?_
    have g1 : ¬ zq u1 ci := fun q9 => g1 ((zqI (n := ci) (by omega)).mpr q9)
    refine lv_if_ne (tgt := 28) F.1 F.2.1 dX7_turn_15 (by decide) (fun hq => absurd (by decide) hq) (fun _ => ?_)
    obtain ⟨sa, hsa⟩ := hX.2.1.2.2.2.1
    exact z_throw (ic := 191) F hl0 hlk ht hl.1 (by decide) hX hX.1.2.2.2.2.1 hsa B mX7_turn_tk mX7_turn_ti (fun w h => List.mem_cons_of_mem _ (List.mem_append_left _ (List.mem_append_right _ h))) zx_nA zx_gA [1, 0] rfl rfl dX7_turn_18 dX7_turn_21 dX7_turn_22 dX7_turn_24 dX7_turn_27 (by decide) (by decide) (by decide) (by decide) rfl rfl
