/-! CONTRACTS of the law's helpers, where something is thrown -/
theorem mL_solve_c13 : Cond.classLink RL 13 zIS ∈ wsL_solve := by decide +kernel
set_option maxHeartbeats 4000000 in
set_option maxRecDepth 100000 in
theorem tL_solve (l : Launch) (hl0 : l.stackTraces = false) (D : va_G) (cI cZ cG cJ : ClassId) (xo : Nat) (mo : Nat) (ru : Nat) (fo : Nat) (go : Nat) (fd : Nat) (tr : Nat) (xs : Nat) (ou : Nat) (fo_ : Nat → Int64)  : zCX l yL_solve wsL_solve 7 102 1 6 D (zT cI cZ cG cJ) [.ref xo, .ref ou] [(xo, .inr (9, [.ref mo, .ref ru, .ref fo, .ref go, .ref fd, .ref tr, .int (nI 0), .int (nI xs)])), (ou, .inl (cJ, 1, .inr (.inl fo_)))] (fun (ov : Option Value) (ow : va_W) => ov = some (.int (nI 1)) ∧ ow = [(xo, .inr (9, [.ref mo, .ref ru, .ref fo, .ref go, .ref fd, .ref tr, .int (nI 0), .int (nI xs)])), (ou, .inl (cJ, 1, .inr (.inl fo_)))]) := by
  refine zCX.ofH (cc := cL_solve) (maxL := 3) (ret := (some .int)) (by decide) rfl (Nat.le_of_ble_eq_true rfl) ?_
  intro p e s m below meth c A ls F hr hlk ht hX B hl
  have hl : lv_has ls 3 [(0, .ref xo), (1, .ref ou)] := hl
  refine lv_aload_n F.1 F.2.1 dL_solve_0 rfl (lv_at hl 1 rfl) ?_
  refine lv_iconst (v := (nI 0)) F.1 F.2.1 dL_solve_1 (by decide) ?_
  refine lv_aload_n F.1 F.2.1 dL_solve_2 rfl (lv_at hl 0 rfl) ?_
  refine z_callX (wr := [(ou, .inl (cJ, 1, .inr (.inl fo_)))]) (rest := [.int (nI 0), .ref ou]) (As := []) F (hX.at B.2.2.2.1) B (tX7_solve l hl0 D cI cZ cG cJ xo mo ru fo go fd tr xs) hl.1 (C := RX7) (T := TX7) (N := 8) (ci := 9) (q0 := 0) gL_solve_X7_solve rfl 0 yL_solve_X7_solve rfl rfl rfl [0] [1] rfl rfl rfl rfl (by decide) (Nat.le_of_ble_eq_true rfl) (Nat.le_of_ble_eq_true rfl) (Nat.le_of_ble_eq_true rfl) rfl dL_solve_3 (by decide) (by decide) (fun qx cx H locs h1 h2 h3 B => ?_)
  have B : zB D (zT cI cZ cG cJ) A s.heap s [(ou, .inl (cJ, 1, .inr (.inl fo_))), (xo, .inr (9, [.ref mo, .ref ru, .ref fo, .ref go, .ref fd, .ref tr, .int (nI 0), .int (nI xs)]))] _ _ := B
  refine z_catch1 F ht (by decide) (by decide) mL_solve_c13 hX.1.2.2.2.1 h1 h2 h3 ?_
  refine W.eq (g2 := F0 m 18 ls [.ref qx]) rfl ?_
  refine lv_astore_n (lv' := [(2, .ref qx), (0, .ref xo), (1, .ref ou)]) F.1 F.2.1 dL_solve_18 rfl hl (by decide) rfl (fun ls hl => ?_)
  refine lv_iconst (v := (nI 1)) F.1 F.2.1 dL_solve_19 (by decide) ?_
  exact z_iret F hr hlk B [1, 0] rfl (rfl) dL_solve_20 (by omega) (by omega) ⟨rfl, rfl⟩
theorem mL_put_c13 : Cond.classLink RL 13 zIS ∈ wsL_put := by decide +kernel
set_option maxHeartbeats 4000000 in
set_option maxRecDepth 100000 in
theorem tL_put (l : Launch) (hl0 : l.stackTraces = false) (D : va_G) (cI cZ cG cJ : ClassId) (xo : Nat) (mo : Nat) (ru : Nat) (fo : Nat) (go : Nat) (fd : Nat) (tr : Nat) (xb : Nat) (u1 : Int32) (u2 : Int32) (ou : Nat) (fo_ : Nat → Int64)  : zCX l yL_put wsL_put 8 124 1 6 D (zT cI cZ cG cJ) [.ref xo, .int u1, .int u2, .ref ou] [(xo, .inr (9, [.ref mo, .ref ru, .ref fo, .ref go, .ref fd, .ref tr, .int (nI xb), .int (nI 0)])), (ou, .inl (cJ, 1, .inr (.inl fo_)))] (fun (ov : Option Value) (ow : va_W) => ov = some (.int (nI 1)) ∧ ow = [(xo, .inr (9, [.ref mo, .ref ru, .ref fo, .ref go, .ref fd, .ref tr, .int (nI xb), .int (nI 0)])), (ou, .inl (cJ, 1, .inr (.inl fo_)))]) := by
  refine zCX.ofH (cc := cL_put) (maxL := 5) (ret := (some .int)) (by decide) rfl (Nat.le_of_ble_eq_true rfl) ?_
  intro p e s m below meth c A ls F hr hlk ht hX B hl
  have hl : lv_has ls 5 [(0, .ref xo), (1, .int u1), (2, .int u2), (3, .ref ou)] := hl
  refine lv_aload_n F.1 F.2.1 dL_put_0 rfl (lv_at hl 3 rfl) ?_
  refine lv_iconst (v := (nI 0)) F.1 F.2.1 dL_put_1 (by decide) ?_
  refine lv_aload_n F.1 F.2.1 dL_put_2 rfl (lv_at hl 0 rfl) ?_
  refine lv_iload_n F.1 F.2.1 dL_put_3 rfl (lv_at hl 1 rfl) ?_
  refine lv_iload_n F.1 F.2.1 dL_put_4 rfl (lv_at hl 2 rfl) ?_
  refine z_callX (wr := [(ou, .inl (cJ, 1, .inr (.inl fo_)))]) (rest := [.int (nI 0), .ref ou]) (As := [.int u1, .int u2]) F (hX.at B.2.2.2.1) B (tX7_put l hl0 D cI cZ cG cJ xo mo ru fo go fd tr xb u1 u2) hl.1 (C := RX7) (T := TX7) (N := 8) (ci := 9) (q0 := 0) gL_put_X7_put rfl 2 yL_put_X7_put rfl rfl rfl [0] [1] rfl rfl rfl rfl (by decide) (Nat.le_of_ble_eq_true rfl) (Nat.le_of_ble_eq_true rfl) (Nat.le_of_ble_eq_true rfl) rfl dL_put_5 (by decide) (by decide) (fun qx cx H locs h1 h2 h3 B => ?_)
  have B : zB D (zT cI cZ cG cJ) A s.heap s [(ou, .inl (cJ, 1, .inr (.inl fo_))), (xo, .inr (9, [.ref mo, .ref ru, .ref fo, .ref go, .ref fd, .ref tr, .int (nI xb), .int (nI 0)]))] _ _ := B
  refine z_catch1 F ht (by decide) (by decide) mL_put_c13 hX.1.2.2.2.1 h1 h2 h3 ?_
  refine W.eq (g2 := F0 m 13 ls [.ref qx]) rfl ?_
  refine lv_astore (lv' := [(4, .ref qx), (0, .ref xo), (1, .int u1), (2, .int u2), (3, .ref ou)]) F.1 F.2.1 dL_put_13 hl (by decide) rfl (fun ls hl => ?_)
  refine lv_iconst (v := (nI 1)) F.1 F.2.1 dL_put_15 (by decide) ?_
  exact z_iret F hr hlk B [1, 0] rfl (rfl) dL_put_16 (by omega) (by omega) ⟨rfl, rfl⟩
theorem mL_put_c19 : Cond.classLink RL 19 zIA ∈ wsL_put := by decide +kernel
set_option maxHeartbeats 4000000 in
set_option maxRecDepth 100000 in
theorem tL_putA (l : Launch) (hl0 : l.stackTraces = false) (D : va_G) (cI cZ cG cJ : ClassId) (xo : Nat) (mo : Nat) (ru : Nat) (fo : Nat) (go : Nat) (fd : Nat) (tr : Nat) (xb : Nat) (ve : Nat) (ed : Nat) (se : Nat) (ci : Nat) (gva : Nat) (gsi : Nat) (gsd : Nat) (gst : Nat) (u1 : Int32) (u2 : Int32) (ou : Nat) (fo_ : Nat → Int64) (hci : ci ≤ 200000) (hno : ¬ (zq u1 ci ∧ zq u2 ci)) : zCX l yL_put wsL_put 8 172 1 6 D (zT cI cZ cG cJ) [.ref xo, .int u1, .int u2, .ref ou] [(xo, .inr (9, [.ref mo, .ref ru, .ref fo, .ref go, .ref fd, .ref tr, .int (nI xb), .int (nI 1)])), (go, .inr (4, [.ref fo, .int (nI ve), .int (nI ed), .int (nI se), .int (nI ci), .ref gva, .ref gsi, .ref gsd, .ref gst])), (ou, .inl (cJ, 1, .inr (.inl fo_)))] (fun (ov : Option Value) (ow : va_W) => ov = some (.int (nI 2)) ∧ ow = [(xo, .inr (9, [.ref mo, .ref ru, .ref fo, .ref go, .ref fd, .ref tr, .int (nI xb), .int (nI 1)])), (go, .inr (4, [.ref fo, .int (nI ve), .int (nI ed), .int (nI se), .int (nI ci), .ref gva, .ref gsi, .ref gsd, .ref gst])), (ou, .inl (cJ, 1, .inr (.inl fo_)))]) := by
  refine zCX.ofH (cc := cL_put) (maxL := 5) (ret := (some .int)) (by decide) rfl (Nat.le_of_ble_eq_true rfl) ?_
  intro p e s m below meth c A ls F hr hlk ht hX B hl
  have hl : lv_has ls 5 [(0, .ref xo), (1, .int u1), (2, .int u2), (3, .ref ou)] := hl
  refine lv_aload_n F.1 F.2.1 dL_put_0 rfl (lv_at hl 3 rfl) ?_
  refine lv_iconst (v := (nI 0)) F.1 F.2.1 dL_put_1 (by decide) ?_
  refine lv_aload_n F.1 F.2.1 dL_put_2 rfl (lv_at hl 0 rfl) ?_
  refine lv_iload_n F.1 F.2.1 dL_put_3 rfl (lv_at hl 1 rfl) ?_
  refine lv_iload_n F.1 F.2.1 dL_put_4 rfl (lv_at hl 2 rfl) ?_
  refine z_callX (wr := [(ou, .inl (cJ, 1, .inr (.inl fo_)))]) (rest := [.int (nI 0), .ref ou]) (As := [.int u1, .int u2]) F (hX.at B.2.2.2.1) B (tX7_putA l hl0 D cI cZ cG cJ xo mo ru fo go fd tr xb ve ed se ci gva gsi gsd gst u1 u2 hci hno) hl.1 (C := RX7) (T := TX7) (N := 8) (ci := 9) (q0 := 0) gL_put_X7_put rfl 2 yL_put_X7_put rfl rfl rfl [0, 1] [2] rfl rfl rfl rfl (by decide) (Nat.le_of_ble_eq_true rfl) (Nat.le_of_ble_eq_true rfl) (Nat.le_of_ble_eq_true rfl) rfl dL_put_5 (by decide) (by decide) (fun qx cx H locs h1 h2 h3 B => ?_)
  have B : zB D (zT cI cZ cG cJ) A s.heap s [(ou, .inl (cJ, 1, .inr (.inl fo_))), (xo, .inr (9, [.ref mo, .ref ru, .ref fo, .ref go, .ref fd, .ref tr, .int (nI xb), .int (nI 1)])), (go, .inr (4, [.ref fo, .int (nI ve), .int (nI ed), .int (nI se), .int (nI ci), .ref gva, .ref gsi, .ref gsd, .ref gst]))] _ _ := B
  refine z_catch2 F ht (by decide) mL_put_c13 hX.1.2.2.2.2.2 (by decide) (by decide) mL_put_c19 hX.1.2.2.2.2.1 h1 h2 h3 ?_
  refine W.eq (g2 := F0 m 17 ls [.ref qx]) rfl ?_
  refine lv_astore (lv' := [(4, .ref qx), (0, .ref xo), (1, .int u1), (2, .int u2), (3, .ref ou)]) F.1 F.2.1 dL_put_17 hl (by decide) rfl (fun ls hl => ?_)
  refine lv_iconst (v := (nI 2)) F.1 F.2.1 dL_put_19 (by decide) ?_
  exact z_iret F hr hlk B [1, 2, 0] rfl (rfl) dL_put_20 (by omega) (by omega) ⟨rfl, rfl⟩
theorem mL_turn_c13 : Cond.classLink RL 13 zIS ∈ wsL_turn := by decide +kernel
set_option maxHeartbeats 4000000 in
set_option maxRecDepth 100000 in
theorem tL_turn (l : Launch) (hl0 : l.stackTraces = false) (D : va_G) (cI cZ cG cJ : ClassId) (xo : Nat) (mo : Nat) (ru : Nat) (fo : Nat) (go : Nat) (fd : Nat) (tr : Nat) (xb : Nat) (u1 : Int32) (rd : Nat)  : zCX l yL_turn wsL_turn 8 124 1 6 D (zT cI cZ cG cJ) [.ref xo, .int u1, .int (nI rd)] [(xo, .inr (9, [.ref mo, .ref ru, .ref fo, .ref go, .ref fd, .ref tr, .int (nI xb), .int (nI 0)]))] (fun (ov : Option Value) (ow : va_W) => ov = some (.int (nI 1)) ∧ ow = [(xo, .inr (9, [.ref mo, .ref ru, .ref fo, .ref go, .ref fd, .ref tr, .int (nI xb), .int (nI 0)]))]) := by
  refine zCX.ofH (cc := cL_turn) (maxL := 4) (ret := (some .int)) (by decide) rfl (Nat.le_of_ble_eq_true rfl) ?_
  intro p e s m below meth c A ls F hr hlk ht hX B hl
  have hl : lv_has ls 4 [(0, .ref xo), (1, .int u1), (2, .int (nI rd))] := hl
  refine lv_aload_n F.1 F.2.1 dL_turn_0 rfl (lv_at hl 0 rfl) ?_
  refine lv_iload_n F.1 F.2.1 dL_turn_1 rfl (lv_at hl 1 rfl) ?_
  refine lv_iload_n F.1 F.2.1 dL_turn_2 rfl (lv_at hl 2 rfl) ?_
  refine z_callX (wr := []) (rest := []) (As := [.int u1, .int (nI rd)]) F (hX.at B.2.2.2.1) B (tX7_turn l hl0 D cI cZ cG cJ xo mo ru fo go fd tr xb u1 rd) hl.1 (C := RX7) (T := TX7) (N := 8) (ci := 9) (q0 := 0) gL_turn_X7_turn rfl 2 yL_turn_X7_turn rfl rfl rfl [0] [] rfl rfl rfl rfl (by decide) (Nat.le_of_ble_eq_true rfl) (Nat.le_of_ble_eq_true rfl) (Nat.le_of_ble_eq_true rfl) rfl dL_turn_3 (by decide) (by decide) (fun qx cx H locs h1 h2 h3 B => ?_)
  have B : zB D (zT cI cZ cG cJ) A s.heap s [(xo, .inr (9, [.ref mo, .ref ru, .ref fo, .ref go, .ref fd, .ref tr, .int (nI xb), .int (nI 0)]))] _ _ := B
  refine z_catch1 F ht (by decide) (by decide) mL_turn_c13 hX.1.2.2.2.1 h1 h2 h3 ?_
  refine W.eq (g2 := F0 m 9 ls [.ref qx]) rfl ?_
  refine lv_astore_n (lv' := [(3, .ref qx), (0, .ref xo), (1, .int u1), (2, .int (nI rd))]) F.1 F.2.1 dL_turn_9 rfl hl (by decide) rfl (fun ls hl => ?_)
  refine lv_iconst (v := (nI 1)) F.1 F.2.1 dL_turn_10 (by decide) ?_
  exact z_iret F hr hlk B [0] rfl (rfl) dL_turn_11 (by omega) (by omega) ⟨rfl, rfl⟩
theorem mL_turn_c19 : Cond.classLink RL 19 zIA ∈ wsL_turn := by decide +kernel
set_option maxHeartbeats 4000000 in
set_option maxRecDepth 100000 in
theorem tL_turnA (l : Launch) (hl0 : l.stackTraces = false) (D : va_G) (cI cZ cG cJ : ClassId) (xo : Nat) (mo : Nat) (ru : Nat) (fo : Nat) (go : Nat) (fd : Nat) (tr : Nat) (xb : Nat) (ve : Nat) (ed : Nat) (se : Nat) (ci : Nat) (gva : Nat) (gsi : Nat) (gsd : Nat) (gst : Nat) (u1 : Int32) (rd : Nat) (hci : ci ≤ 200000) (hno : ¬ zq u1 ci) : zCX l yL_turn wsL_turn 8 172 1 6 D (zT cI cZ cG cJ) [.ref xo, .int u1, .int (nI rd)] [(xo, .inr (9, [.ref mo, .ref ru, .ref fo, .ref go, .ref fd, .ref tr, .int (nI xb), .int (nI 1)])), (go, .inr (4, [.ref fo, .int (nI ve), .int (nI ed), .int (nI se), .int (nI ci), .ref gva, .ref gsi, .ref gsd, .ref gst]))] (fun (ov : Option Value) (ow : va_W) => ov = some (.int (nI 2)) ∧ ow = [(xo, .inr (9, [.ref mo, .ref ru, .ref fo, .ref go, .ref fd, .ref tr, .int (nI xb), .int (nI 1)])), (go, .inr (4, [.ref fo, .int (nI ve), .int (nI ed), .int (nI se), .int (nI ci), .ref gva, .ref gsi, .ref gsd, .ref gst]))]) := by
  refine zCX.ofH (cc := cL_turn) (maxL := 4) (ret := (some .int)) (by decide) rfl (Nat.le_of_ble_eq_true rfl) ?_
  intro p e s m below meth c A ls F hr hlk ht hX B hl
  have hl : lv_has ls 4 [(0, .ref xo), (1, .int u1), (2, .int (nI rd))] := hl
  refine lv_aload_n F.1 F.2.1 dL_turn_0 rfl (lv_at hl 0 rfl) ?_
  refine lv_iload_n F.1 F.2.1 dL_turn_1 rfl (lv_at hl 1 rfl) ?_
  refine lv_iload_n F.1 F.2.1 dL_turn_2 rfl (lv_at hl 2 rfl) ?_
  refine z_callX (wr := []) (rest := []) (As := [.int u1, .int (nI rd)]) F (hX.at B.2.2.2.1) B (tX7_turnA l hl0 D cI cZ cG cJ xo mo ru fo go fd tr xb ve ed se ci gva gsi gsd gst u1 rd hci hno) hl.1 (C := RX7) (T := TX7) (N := 8) (ci := 9) (q0 := 0) gL_turn_X7_turn rfl 2 yL_turn_X7_turn rfl rfl rfl [0, 1] [] rfl rfl rfl rfl (by decide) (Nat.le_of_ble_eq_true rfl) (Nat.le_of_ble_eq_true rfl) (Nat.le_of_ble_eq_true rfl) rfl dL_turn_3 (by decide) (by decide) (fun qx cx H locs h1 h2 h3 B => ?_)
  have B : zB D (zT cI cZ cG cJ) A s.heap s [(xo, .inr (9, [.ref mo, .ref ru, .ref fo, .ref go, .ref fd, .ref tr, .int (nI xb), .int (nI 1)])), (go, .inr (4, [.ref fo, .int (nI ve), .int (nI ed), .int (nI se), .int (nI ci), .ref gva, .ref gsi, .ref gsd, .ref gst]))] _ _ := B
  refine z_catch2 F ht (by decide) mL_turn_c13 hX.1.2.2.2.2.2 (by decide) (by decide) mL_turn_c19 hX.1.2.2.2.2.1 h1 h2 h3 ?_
  refine W.eq (g2 := F0 m 12 ls [.ref qx]) rfl ?_
  refine lv_astore_n (lv' := [(3, .ref qx), (0, .ref xo), (1, .int u1), (2, .int (nI rd))]) F.1 F.2.1 dL_turn_12 rfl hl (by decide) rfl (fun ls hl => ?_)
  refine lv_iconst (v := (nI 2)) F.1 F.2.1 dL_turn_13 (by decide) ?_
  exact z_iret F hr hlk B [0, 1] rfl (rfl) dL_turn_14 (by omega) (by omega) ⟨rfl, rfl⟩
theorem mL_cost_c13 : Cond.classLink RL 13 zIS ∈ wsL_cost := by decide +kernel
set_option maxHeartbeats 4000000 in
set_option maxRecDepth 100000 in
theorem tL_cost (l : Launch) (hl0 : l.stackTraces = false) (D : va_G) (cI cZ cG cJ : ClassId) (xo : Nat) (mo : Nat) (ru : Nat) (fo : Nat) (go : Nat) (fd : Nat) (tr : Nat) (xb : Nat) (ou : Nat) (fo_ : Nat → Int64)  : zCX l yL_cost wsL_cost 8 122 1 6 D (zT cI cZ cG cJ) [.ref xo, .ref ou] [(xo, .inr (9, [.ref mo, .ref ru, .ref fo, .ref go, .ref fd, .ref tr, .int (nI xb), .int (nI 0)])), (ou, .inl (cJ, 1, .inr (.inl fo_)))] (fun (ov : Option Value) (ow : va_W) => ov = some (.int (nI 1)) ∧ ow = [(xo, .inr (9, [.ref mo, .ref ru, .ref fo, .ref go, .ref fd, .ref tr, .int (nI xb), .int (nI 0)])), (ou, .inl (cJ, 1, .inr (.inl fo_)))]) := by
  refine zCX.ofH (cc := cL_cost) (maxL := 3) (ret := (some .int)) (by decide) rfl (Nat.le_of_ble_eq_true rfl) ?_
  intro p e s m below meth c A ls F hr hlk ht hX B hl
  have hl : lv_has ls 3 [(0, .ref xo), (1, .ref ou)] := hl
  refine lv_aload_n F.1 F.2.1 dL_cost_0 rfl (lv_at hl 1 rfl) ?_
  refine lv_iconst (v := (nI 0)) F.1 F.2.1 dL_cost_1 (by decide) ?_
  refine lv_aload_n F.1 F.2.1 dL_cost_2 rfl (lv_at hl 0 rfl) ?_
  refine z_callX (wr := [(ou, .inl (cJ, 1, .inr (.inl fo_)))]) (rest := [.int (nI 0), .ref ou]) (As := []) F (hX.at B.2.2.2.1) B (tX7_cost l hl0 D cI cZ cG cJ xo mo ru fo go fd tr xb) hl.1 (C := RX7) (T := TX7) (N := 8) (ci := 9) (q0 := 0) gL_cost_X7_cost rfl 0 yL_cost_X7_cost rfl rfl rfl [0] [1] rfl rfl rfl rfl (by decide) (Nat.le_of_ble_eq_true rfl) (Nat.le_of_ble_eq_true rfl) (Nat.le_of_ble_eq_true rfl) rfl dL_cost_3 (by decide) (by decide) (fun qx cx H locs h1 h2 h3 B => ?_)
  have B : zB D (zT cI cZ cG cJ) A s.heap s [(ou, .inl (cJ, 1, .inr (.inl fo_))), (xo, .inr (9, [.ref mo, .ref ru, .ref fo, .ref go, .ref fd, .ref tr, .int (nI xb), .int (nI 0)]))] _ _ := B
  refine z_catch1 F ht (by decide) (by decide) mL_cost_c13 hX.1.2.2.2.1 h1 h2 h3 ?_
  refine W.eq (g2 := F0 m 11 ls [.ref qx]) rfl ?_
  refine lv_astore_n (lv' := [(2, .ref qx), (0, .ref xo), (1, .ref ou)]) F.1 F.2.1 dL_cost_11 rfl hl (by decide) rfl (fun ls hl => ?_)
  refine lv_iconst (v := (nI 1)) F.1 F.2.1 dL_cost_12 (by decide) ?_
  exact z_iret F hr hlk B [1, 0] rfl (rfl) dL_cost_13 (by omega) (by omega) ⟨rfl, rfl⟩
theorem mL_pull_c13 : Cond.classLink RL 13 zIS ∈ wsL_pull := by decide +kernel
set_option maxHeartbeats 4000000 in
set_option maxRecDepth 100000 in
theorem tL_pull (l : Launch) (hl0 : l.stackTraces = false) (D : va_G) (cI cZ cG cJ : ClassId) (xo : Nat) (mo : Nat) (ru : Nat) (fo : Nat) (go : Nat) (fd : Nat) (tr : Nat) (xb : Nat) (ou : Nat) (fo_ : Nat → Int64)  : zCX l yL_pull wsL_pull 8 123 1 6 D (zT cI cZ cG cJ) [.ref xo, .ref ou] [(xo, .inr (9, [.ref mo, .ref ru, .ref fo, .ref go, .ref fd, .ref tr, .int (nI xb), .int (nI 0)])), (ou, .inl (cJ, 1, .inr (.inl fo_)))] (fun (ov : Option Value) (ow : va_W) => ov = some (.int (nI 1)) ∧ ow = [(xo, .inr (9, [.ref mo, .ref ru, .ref fo, .ref go, .ref fd, .ref tr, .int (nI xb), .int (nI 0)])), (ou, .inl (cJ, 1, .inr (.inl fo_)))]) := by
  refine zCX.ofH (cc := cL_pull) (maxL := 3) (ret := (some .int)) (by decide) rfl (Nat.le_of_ble_eq_true rfl) ?_
  intro p e s m below meth c A ls F hr hlk ht hX B hl
  have hl : lv_has ls 3 [(0, .ref xo), (1, .ref ou)] := hl
  refine lv_aload_n F.1 F.2.1 dL_pull_0 rfl (lv_at hl 1 rfl) ?_
  refine lv_iconst (v := (nI 0)) F.1 F.2.1 dL_pull_1 (by decide) ?_
  refine lv_aload_n F.1 F.2.1 dL_pull_2 rfl (lv_at hl 0 rfl) ?_
  refine z_callX (wr := [(ou, .inl (cJ, 1, .inr (.inl fo_)))]) (rest := [.int (nI 0), .ref ou]) (As := []) F (hX.at B.2.2.2.1) B (tX7_pull l hl0 D cI cZ cG cJ xo mo ru fo go fd tr xb) hl.1 (C := RX7) (T := TX7) (N := 8) (ci := 9) (q0 := 0) gL_pull_X7_pull rfl 0 yL_pull_X7_pull rfl rfl rfl [0] [1] rfl rfl rfl rfl (by decide) (Nat.le_of_ble_eq_true rfl) (Nat.le_of_ble_eq_true rfl) (Nat.le_of_ble_eq_true rfl) rfl dL_pull_3 (by decide) (by decide) (fun qx cx H locs h1 h2 h3 B => ?_)
  have B : zB D (zT cI cZ cG cJ) A s.heap s [(ou, .inl (cJ, 1, .inr (.inl fo_))), (xo, .inr (9, [.ref mo, .ref ru, .ref fo, .ref go, .ref fd, .ref tr, .int (nI xb), .int (nI 0)]))] _ _ := B
  refine z_catch1 F ht (by decide) (by decide) mL_pull_c13 hX.1.2.2.2.1 h1 h2 h3 ?_
  refine W.eq (g2 := F0 m 18 ls [.ref qx]) rfl ?_
  refine lv_astore_n (lv' := [(2, .ref qx), (0, .ref xo), (1, .ref ou)]) F.1 F.2.1 dL_pull_18 rfl hl (by decide) rfl (fun ls hl => ?_)
  refine lv_iconst (v := (nI 1)) F.1 F.2.1 dL_pull_19 (by decide) ?_
  exact z_iret F hr hlk B [1, 0] rfl (rfl) dL_pull_20 (by omega) (by omega) ⟨rfl, rfl⟩
theorem mL_replay_c13 : Cond.classLink RL 13 zIS ∈ wsL_replay := by decide +kernel
set_option maxHeartbeats 4000000 in
set_option maxRecDepth 100000 in
theorem tL_replay (l : Launch) (hl0 : l.stackTraces = false) (D : va_G) (cI cZ cG cJ : ClassId) (xo : Nat) (mo : Nat) (ru : Nat) (fo : Nat) (go : Nat) (fd : Nat) (tr : Nat) (xb : Nat) (ou : Nat) (fo_ : Nat → Int64)  : zCX l yL_replay wsL_replay 7 102 1 6 D (zT cI cZ cG cJ) [.ref xo, .ref ou] [(xo, .inr (9, [.ref mo, .ref ru, .ref fo, .ref go, .ref fd, .ref tr, .int (nI xb), .int (nI 0)])), (ou, .inl (cJ, 1, .inr (.inl fo_)))] (fun (ov : Option Value) (ow : va_W) => ov = some (.int (nI 1)) ∧ ow = [(xo, .inr (9, [.ref mo, .ref ru, .ref fo, .ref go, .ref fd, .ref tr, .int (nI xb), .int (nI 0)])), (ou, .inl (cJ, 1, .inr (.inl fo_)))]) := by
  refine zCX.ofH (cc := cL_replay) (maxL := 3) (ret := (some .int)) (by decide) rfl (Nat.le_of_ble_eq_true rfl) ?_
  intro p e s m below meth c A ls F hr hlk ht hX B hl
  have hl : lv_has ls 3 [(0, .ref xo), (1, .ref ou)] := hl
  refine lv_aload_n F.1 F.2.1 dL_replay_0 rfl (lv_at hl 1 rfl) ?_
  refine lv_iconst (v := (nI 0)) F.1 F.2.1 dL_replay_1 (by decide) ?_
  refine lv_aload_n F.1 F.2.1 dL_replay_2 rfl (lv_at hl 0 rfl) ?_
  refine z_callX (wr := [(ou, .inl (cJ, 1, .inr (.inl fo_)))]) (rest := [.int (nI 0), .ref ou]) (As := []) F (hX.at B.2.2.2.1) B (tX7_replay l hl0 D cI cZ cG cJ xo mo ru fo go fd tr xb) hl.1 (C := RX7) (T := TX7) (N := 8) (ci := 9) (q0 := 0) gL_replay_X7_replay rfl 0 yL_replay_X7_replay rfl rfl rfl [0] [1] rfl rfl rfl rfl (by decide) (Nat.le_of_ble_eq_true rfl) (Nat.le_of_ble_eq_true rfl) (Nat.le_of_ble_eq_true rfl) rfl dL_replay_3 (by decide) (by decide) (fun qx cx H locs h1 h2 h3 B => ?_)
  have B : zB D (zT cI cZ cG cJ) A s.heap s [(ou, .inl (cJ, 1, .inr (.inl fo_))), (xo, .inr (9, [.ref mo, .ref ru, .ref fo, .ref go, .ref fd, .ref tr, .int (nI xb), .int (nI 0)]))] _ _ := B
  refine z_catch1 F ht (by decide) (by decide) mL_replay_c13 hX.1.2.2.2.1 h1 h2 h3 ?_
  refine W.eq (g2 := F0 m 18 ls [.ref qx]) rfl ?_
  refine lv_astore_n (lv' := [(2, .ref qx), (0, .ref xo), (1, .ref ou)]) F.1 F.2.1 dL_replay_18 rfl hl (by decide) rfl (fun ls hl => ?_)
  refine lv_iconst (v := (nI 1)) F.1 F.2.1 dL_replay_19 (by decide) ?_
  exact z_iret F hr hlk B [1, 0] rfl (rfl) dL_replay_20 (by omega) (by omega) ⟨rfl, rfl⟩
