/-! CONTRACT of Forward.markNewVariables -/
theorem iX1_markNewVariables_X1 : ∀ w ∈ u_ws RX1 TX1 5, w ∈ wsX1_markNewVariables := by decide +kernel
theorem fX1_markNewVariables_20 : Cond.fieldLink RX1 20 "TourChain$Forward" "formula" "LTourChain$Formula;" ∈ wsX1_markNewVariables := by decide +kernel
theorem iX1_markNewVariables_X0 : ∀ w ∈ u_ws RX0 TX0 9, w ∈ wsX1_markNewVariables := by decide +kernel
theorem fX1_markNewVariables_107 : Cond.fieldLink RX1 107 "TourChain$Formula" "plainVariables" "I" ∈ wsX1_markNewVariables := by decide +kernel
theorem yX1_markNewVariables_X0_clauses : yX0_clauses.cls = RX0 ∧ yX0_clauses.cls ≠ "java/lang/invoke/MethodHandle" ∧ yX0_clauses.cls ≠ "java/lang/invoke/VarHandle" ∧ (parseMethodDescriptor yX0_clauses.desc).map (fun d => d.parameters.length) = some 0 := by decide +kernel
theorem yX1_markNewVariables_X0_literalOf : yX0_literalOf.cls = RX0 ∧ yX0_literalOf.cls ≠ "java/lang/invoke/MethodHandle" ∧ yX0_literalOf.cls ≠ "java/lang/invoke/VarHandle" ∧ (parseMethodDescriptor yX0_literalOf.desc).map (fun d => d.parameters.length) = some 2 := by decide +kernel
theorem yX1_markNewVariables_X1_isTrue : yX1_isTrue.cls = RX1 ∧ yX1_isTrue.cls ≠ "java/lang/invoke/MethodHandle" ∧ yX1_isTrue.cls ≠ "java/lang/invoke/VarHandle" ∧ (parseMethodDescriptor yX1_isTrue.desc).map (fun d => d.parameters.length) = some 1 := by decide +kernel
theorem yX1_markNewVariables_X0_length : yX0_length.cls = RX0 ∧ yX0_length.cls ≠ "java/lang/invoke/MethodHandle" ∧ yX0_length.cls ≠ "java/lang/invoke/VarHandle" ∧ (parseMethodDescriptor yX0_length.desc).map (fun d => d.parameters.length) = some 1 := by decide +kernel
theorem fX1_markNewVariables_7 : Cond.fieldLink RX1 7 "TourChain$Forward" "truths" "[I" ∈ wsX1_markNewVariables := by decide +kernel
set_option maxHeartbeats 4000000 in
set_option maxRecDepth 100000 in
theorem kX1_markNewVariables (l : Launch) (D : va_G) (cI cZ cG cJ : ClassId) (fd : Nat) (ru : Nat) (go : Nat) (fta : Nat) (fca : Nat) (fo : Nat) (mo : Nat) (pv : Nat) (va : Nat) (fh : Nat) (fs : Nat) (fk : Nat) (lo : Nat) (so : Nat) (to : Nat) (la : Nat) (nl : Nat) (cl : Nat) (fl : Nat → Int32) (sa : Nat) (ns : Nat) (cs : Nat) (ft : Nat → Int32) (Cs : List (List Nat)) (cta : Nat) (ftr : Nat → Int32) (b : Nat → Nat) (hF : zF fl nl ft ns Cs) (hwl : zW nl cl) (hws : zW ns cs) (hne : ∀ j, j < Cs.length → 1 ≤ zlen Cs j) (hmx : ∀ j, j < Cs.length → zlen Cs j ≤ 1000) (hlit : ∀ j i, j < Cs.length → i < zlen Cs j → zlit Cs j i < 2 * pv) (hb : ∀ x, x < pv → ftr x = nI (b x)) (hb1 : ∀ x, b x ≤ 1) (hcp : pv + (znv b Cs Cs.length).length ≤ cta) (hc2 : cta ≤ 1000000) : zC l yX1_markNewVariables wsX1_markNewVariables 1 22 0 0 D (zT cI cZ cG cJ) [.ref fd] [(fd, .inr (3, [.ref ru, .ref fo, .ref go, .ref fta, .ref fca])), (fo, .inr (2, [.ref mo, .int (nI pv), .int (nI va), .int (nI fh), .int (nI fs), .int (nI fk), .ref lo, .ref so, .ref to])), (lo, .inr (6, [.ref la, .int (nI nl)])), (la, .inl (cI, cl, .inl fl)), (so, .inr (6, [.ref sa, .int (nI ns)])), (sa, .inl (cI, cs, .inl ft)), (fta, .inl (cI, cta, .inl ftr))] (fun (ov : Option Value) (ow : va_W) => ∃ ftr' : Nat → Int32, ov = none ∧ ow = [(fd, .inr (3, [.ref ru, .ref fo, .ref go, .ref fta, .ref fca])), (fo, .inr (2, [.ref mo, .int (nI pv), .int (nI va), .int (nI fh), .int (nI fs), .int (nI fk), .ref lo, .ref so, .ref to])), (lo, .inr (6, [.ref la, .int (nI nl)])), (la, .inl (cI, cl, .inl fl)), (so, .inr (6, [.ref sa, .int (nI ns)])), (sa, .inl (cI, cs, .inl ft)), (fta, .inl (cI, cta, .inl ftr'))] ∧ (zS ftr' pv (znv b Cs Cs.length).length b (znv b Cs Cs.length))) := by
  refine zC.of (cc := cX1_markNewVariables) (maxL := 6) (ret := none) (by decide) rfl (Nat.le_of_ble_eq_true rfl) ?_
  intro p e s m below meth c A ls F hr hlk hnm B hl
  have hl : lv_has ls 6 [(0, .ref fd)] := hl
  obtain ⟨hlen1, hlen2⟩ := zF_len hF
  have hq5 := hws.2.1; have hq6 := hws.2.2
  refine lv_aload_n F.1 F.2.1 dX1_markNewVariables_0 rfl (lv_at hl 0 rfl) ?_
  refine z_get F B 0 rfl (ci := 3) (C := RX1) (T := TX1) (N := 5) rfl iX1_markNewVariables_X1 1 (by decide) fX1_markNewVariables_20 rfl dX1_markNewVariables_1 ?_
  refine z_get F B 1 rfl (ci := 2) (C := RX0) (T := TX0) (N := 9) rfl iX1_markNewVariables_X0 1 (by decide) fX1_markNewVariables_107 rfl dX1_markNewVariables_4 ?_
  refine lv_istore_n (lv' := [(1, .int (nI pv)), (0, .ref fd)]) F.1 F.2.1 dX1_markNewVariables_7 rfl hl (by decide) rfl (fun ls hl => ?_)
  refine lv_iconst (v := (nI 0)) F.1 F.2.1 dX1_markNewVariables_8 (by decide) ?_
  refine lv_istore_n (lv' := [(2, .int (nI 0)), (1, .int (nI pv)), (0, .ref fd)]) F.1 F.2.1 dX1_markNewVariables_9 rfl hl (by decide) rfl (fun ls hl => ?_)
  have loop10 : ∀ (fuel : Nat) (j : Nat) (n1 : Nat) (f1 : Nat → Int32), Cs.length - j < fuel → (j ≤ Cs.length) → (zS f1 pv n1 b (znv b Cs j)) → ∀ (H : Heap) (locs : List Loc) (ls : Array Slot), zB D (zT cI cZ cG cJ) A s.heap s [(fd, .inr (3, [.ref ru, .ref fo, .ref go, .ref fta, .ref fca])), (fo, .inr (2, [.ref mo, .int (nI pv), .int (nI va), .int (nI fh), .int (nI fs), .int (nI fk), .ref lo, .ref so, .ref to])), (lo, .inr (6, [.ref la, .int (nI nl)])), (la, .inl (cI, cl, .inl fl)), (so, .inr (6, [.ref sa, .int (nI ns)])), (sa, .inl (cI, cs, .inl ft)), (fta, .inl (cI, cta, .inl f1))] H locs → lv_has ls 6 [(0, .ref fd), (1, .int (nI (pv + n1))), (2, .int (nI j))] → W p l e { frames := 1, cells := 0, slots := 0, locals := 22 } s m [.ref fd].toArray below meth c H locs 0 0 (zQ below [.ref fd].toArray s D (zT cI cZ cG cJ) A (fun (ov : Option Value) (ow : va_W) => ∃ ftr' : Nat → Int32, ov = none ∧ ow = [(fd, .inr (3, [.ref ru, .ref fo, .ref go, .ref fta, .ref fca])), (fo, .inr (2, [.ref mo, .int (nI pv), .int (nI va), .int (nI fh), .int (nI fs), .int (nI fk), .ref lo, .ref so, .ref to])), (lo, .inr (6, [.ref la, .int (nI nl)])), (la, .inl (cI, cl, .inl fl)), (so, .inr (6, [.ref sa, .int (nI ns)])), (sa, .inl (cI, cs, .inl ft)), (fta, .inl (cI, cta, .inl ftr'))] ∧ (zS ftr' pv (znv b Cs Cs.length).length b (znv b Cs Cs.length))) 0 0) (F0 m 10 ls []) := by
    intro fuel
    induction fuel with
    | zero => intro j n1 f1 hmz; exact absurd hmz (Nat.not_lt_zero _)
    | succ fuel ih =>
      intro j n1 f1 hm hj hS H locs ls B hl
      have ih10 := ih
      refine lv_iload_n F.1 F.2.1 dX1_markNewVariables_10 rfl (lv_at hl 2 rfl) ?_
      refine lv_aload_n F.1 F.2.1 dX1_markNewVariables_11 rfl (lv_at hl 0 rfl) ?_
      refine z_get F B 0 rfl (ci := 3) (C := RX1) (T := TX1) (N := 5) rfl iX1_markNewVariables_X1 1 (by decide) fX1_markNewVariables_20 rfl dX1_markNewVariables_12 ?_
      refine z_callV (wr := [(fd, .inr (3, [.ref ru, .ref fo, .ref go, .ref fta, .ref fca])), (lo, .inr (6, [.ref la, .int (nI nl)])), (la, .inl (cI, cl, .inl fl)), (sa, .inl (cI, cs, .inl ft)), (fta, .inl (cI, cta, .inl f1))]) (rest := [.int (nI j)]) (As := []) F B (kX0_clauses l D cI cZ cG cJ fo mo pv va fh fs fk lo so to sa ns (by omega)) hl.1 (C := RX0) (T := TX0) (N := 9) (ci := 2) (q0 := 1) gX1_markNewVariables_X0_clauses rfl 0 yX1_markNewVariables_X0_clauses rfl rfl rfl [1, 4] [0, 2, 3, 5, 6] rfl rfl rfl rfl (by decide) (Nat.le_of_ble_eq_true rfl) (Nat.le_of_ble_eq_true rfl) (Nat.le_of_ble_eq_true rfl) rfl dX1_markNewVariables_15 (show 0 + 0 ≤ 0 by omega) (show 0 + 0 ≤ 0 by omega) (fun vv ww H locs hRR B => ?_)
      obtain ⟨rfl, rfl⟩ := hRR
      have B : zB D (zT cI cZ cG cJ) A s.heap s [(fd, .inr (3, [.ref ru, .ref fo, .ref go, .ref fta, .ref fca])), (lo, .inr (6, [.ref la, .int (nI nl)])), (la, .inl (cI, cl, .inl fl)), (sa, .inl (cI, cs, .inl ft)), (fta, .inl (cI, cta, .inl f1)), (fo, .inr (2, [.ref mo, .int (nI pv), .int (nI va), .int (nI fh), .int (nI fs), .int (nI fk), .ref lo, .ref so, .ref to])), (so, .inr (6, [.ref sa, .int (nI ns)]))] _ _ := B
      refine W.eq (g2 := F0 m 18 ls [.int (nI (ns - 1)), .int (nI j)]) rfl ?_
      refine z_icmp_ge (tgt := 114) F (by omega) (by omega) dX1_markNewVariables_18 (by decide) (fun c18 => ?_) (fun c18 => ?_)
      · have hjn : j = Cs.length := by omega
        rw [hjn] at hS
        have hn1 := hS.1
        exact z_vret F hr hlk B [0, 5, 1, 2, 6, 3, 4] rfl (rfl) dX1_markNewVariables_114 (by omega) (by omega) ⟨f1, rfl, rfl, (by rw [hn1]; exact hS)⟩
      · have hjl : j < Cs.length := by omega
        have hne1 := hne j hjl; have hmx1 := hmx j hjl
        have hl0 := hlit j 0 hjl (by omega)
        have hnl := znv_len b Cs j; have hmo := znv_mono b Cs (show j + 1 ≤ Cs.length from hjl)
        refine lv_aload_n F.1 F.2.1 dX1_markNewVariables_21 rfl (lv_at hl 0 rfl) ?_
        refine lv_aload_n F.1 F.2.1 dX1_markNewVariables_22 rfl (lv_at hl 0 rfl) ?_
        refine z_get F B 0 rfl (ci := 3) (C := RX1) (T := TX1) (N := 5) rfl iX1_markNewVariables_X1 1 (by decide) fX1_markNewVariables_20 rfl dX1_markNewVariables_23 ?_
        refine lv_iload_n F.1 F.2.1 dX1_markNewVariables_26 rfl (lv_at hl 2 rfl) ?_
        refine lv_iconst (v := (nI 0)) F.1 F.2.1 dX1_markNewVariables_27 (by decide) ?_
        refine z_callV (wr := [(fd, .inr (3, [.ref ru, .ref fo, .ref go, .ref fta, .ref fca])), (fta, .inl (cI, cta, .inl f1))]) (rest := [.ref fd]) (As := [.int (nI j), .int (nI 0)]) F B (kX0_literalOf l D cI cZ cG cJ fo mo pv va fh fs fk lo so to la nl cl fl sa ns cs ft Cs j 0 (hF) (hwl) (hws) (hjl) (by omega)) hl.1 (C := RX0) (T := TX0) (N := 9) (ci := 2) (q0 := 5) gX1_markNewVariables_X0_literalOf rfl 2 yX1_markNewVariables_X0_literalOf rfl rfl rfl [5, 1, 2, 6, 3] [0, 4] rfl rfl rfl rfl (by decide) (Nat.le_of_ble_eq_true rfl) (Nat.le_of_ble_eq_true rfl) (Nat.le_of_ble_eq_true rfl) rfl dX1_markNewVariables_28 (show 0 + 0 ≤ 0 by omega) (show 0 + 0 ≤ 0 by omega) (fun vv ww H locs hRR B => ?_)
        obtain ⟨rfl, rfl⟩ := hRR
        have B : zB D (zT cI cZ cG cJ) A s.heap s [(fd, .inr (3, [.ref ru, .ref fo, .ref go, .ref fta, .ref fca])), (fta, .inl (cI, cta, .inl f1)), (fo, .inr (2, [.ref mo, .int (nI pv), .int (nI va), .int (nI fh), .int (nI fs), .int (nI fk), .ref lo, .ref so, .ref to])), (lo, .inr (6, [.ref la, .int (nI nl)])), (la, .inl (cI, cl, .inl fl)), (so, .inr (6, [.ref sa, .int (nI ns)])), (sa, .inl (cI, cs, .inl ft))] _ _ := B
        refine W.eq (g2 := F0 m 31 ls [.int (nI (zlit Cs j 0)), .ref fd]) rfl ?_
        refine z_callV (wr := [(fo, .inr (2, [.ref mo, .int (nI pv), .int (nI va), .int (nI fh), .int (nI fs), .int (nI fk), .ref lo, .ref so, .ref to])), (lo, .inr (6, [.ref la, .int (nI nl)])), (la, .inl (cI, cl, .inl fl)), (so, .inr (6, [.ref sa, .int (nI ns)])), (sa, .inl (cI, cs, .inl ft))]) (rest := []) (As := [.int (nI (zlit Cs j 0))]) F B (kX1_isTrue l D cI cZ cG cJ fd ru fo go fta fca cta f1 b (zlit Cs j 0) (hS.2.1 _ (by omega)) (hb1 _) (by omega) (by omega)) hl.1 (C := RX1) (T := TX1) (N := 5) (ci := 3) (q0 := 0) gX1_markNewVariables_X1_isTrue rfl 1 yX1_markNewVariables_X1_isTrue rfl rfl rfl [0, 1] [2, 3, 4, 5, 6] rfl rfl rfl rfl (by decide) (Nat.le_of_ble_eq_true rfl) (Nat.le_of_ble_eq_true rfl) (Nat.le_of_ble_eq_true rfl) rfl dX1_markNewVariables_31 (show 0 + 0 ≤ 0 by omega) (show 0 + 0 ≤ 0 by omega) (fun vv ww H locs hRR B => ?_)
        obtain ⟨r_1, rfl, rfl, hb_2⟩ := hRR
        have B : zB D (zT cI cZ cG cJ) A s.heap s [(fo, .inr (2, [.ref mo, .int (nI pv), .int (nI va), .int (nI fh), .int (nI fs), .int (nI fk), .ref lo, .ref so, .ref to])), (lo, .inr (6, [.ref la, .int (nI nl)])), (la, .inl (cI, cl, .inl fl)), (so, .inr (6, [.ref sa, .int (nI ns)])), (sa, .inl (cI, cs, .inl ft)), (fd, .inr (3, [.ref ru, .ref fo, .ref go, .ref fta, .ref fca])), (fta, .inl (cI, cta, .inl f1))] _ _ := B
        rcases hb_2 with ⟨hr1, hp0⟩ | ⟨hr1, hp0⟩ <;> subst hr1
        · refine W.eq (g2 := F0 m 34 ls [.int 1]) rfl ?_
          refine lv_istore_n (lv' := [(3, .int 1), (0, .ref fd), (1, .int (nI (pv + n1))), (2, .int (nI j))]) F.1 F.2.1 dX1_markNewVariables_34 rfl hl (by decide) rfl (fun ls hl => ?_)
          refine lv_aload_n F.1 F.2.1 dX1_markNewVariables_35 rfl (lv_at hl 1 rfl) ?_
          refine z_get F B 5 rfl (ci := 3) (C := RX1) (T := TX1) (N := 5) rfl iX1_markNewVariables_X1 1 (by decide) fX1_markNewVariables_20 rfl dX1_markNewVariables_36 ?_
          refine lv_iload_n F.1 F.2.1 dX1_markNewVariables_39 rfl (lv_at hl 3 rfl) ?_
          refine z_callV (wr := [(lo, .inr (6, [.ref la, .int (nI nl)])), (la, .inl (cI, cl, .inl fl)), (fd, .inr (3, [.ref ru, .ref fo, .ref go, .ref fta, .ref fca])), (fta, .inl (cI, cta, .inl f1))]) (rest := []) (As := [.int (nI j)]) F B (kX0_length l D cI cZ cG cJ fo mo pv va fh fs fk lo so to sa ns cs ft fl nl Cs j (hF) (hws) (hjl)) hl.1 (C := RX0) (T := TX0) (N := 9) (ci := 2) (q0 := 0) gX1_markNewVariables_X0_length rfl 1 yX1_markNewVariables_X0_length rfl rfl rfl [0, 3, 4] [1, 2, 5, 6] rfl rfl rfl rfl (by decide) (Nat.le_of_ble_eq_true rfl) (Nat.le_of_ble_eq_true rfl) (Nat.le_of_ble_eq_true rfl) rfl dX1_markNewVariables_40 (show 0 + 0 ≤ 0 by omega) (show 0 + 0 ≤ 0 by omega) (fun vv ww H locs hRR B => ?_)
          obtain ⟨rfl, rfl⟩ := hRR
          have B : zB D (zT cI cZ cG cJ) A s.heap s [(lo, .inr (6, [.ref la, .int (nI nl)])), (la, .inl (cI, cl, .inl fl)), (fd, .inr (3, [.ref ru, .ref fo, .ref go, .ref fta, .ref fca])), (fta, .inl (cI, cta, .inl f1)), (fo, .inr (2, [.ref mo, .int (nI pv), .int (nI va), .int (nI fh), .int (nI fs), .int (nI fk), .ref lo, .ref so, .ref to])), (so, .inr (6, [.ref sa, .int (nI ns)])), (sa, .inl (cI, cs, .inl ft))] _ _ := B
          refine W.eq (g2 := F0 m 43 ls [.int (nI (zlen Cs j))]) rfl ?_
          refine lv_iconst (v := (nI 3)) F.1 F.2.1 dX1_markNewVariables_43 (by decide) ?_
          refine lv_isub F.1 F.2.1 dX1_markNewVariables_44 ?_
          refine lv_istore (lv' := [(4, .int ((nI (zlen Cs j)) - (nI 3))), (3, .int 1), (0, .ref fd), (1, .int (nI (pv + n1))), (2, .int (nI j))]) F.1 F.2.1 dX1_markNewVariables_45 hl (by decide) rfl (fun ls hl => ?_)
          refine lv_iconst (v := (nI 1)) F.1 F.2.1 dX1_markNewVariables_47 (by decide) ?_
          refine lv_istore (lv' := [(5, .int (nI 1)), (4, .int ((nI (zlen Cs j)) - (nI 3))), (3, .int 1), (0, .ref fd), (1, .int (nI (pv + n1))), (2, .int (nI j))]) F.1 F.2.1 dX1_markNewVariables_48 hl (by decide) rfl (fun ls hl => ?_)
          have loop50 : ∀ (fuel : Nat) (i : Nat) (sm : Nat) (f2 : Nat → Int32) (m2 : Nat), zlen Cs j - i < fuel → (i ≤ zlen Cs j - 3) → (sm ≤ 1) → (sm = 0 ↔ znoc b (Cs.getD j []) i) → (m2 = (znv b Cs j).length + i) → (zS f2 pv m2 b (znv b Cs j ++ (List.range i).flatMap (znv1 b (Cs.getD j [])))) → ∀ (H : Heap) (locs : List Loc) (ls : Array Slot), zB D (zT cI cZ cG cJ) A s.heap s [(fd, .inr (3, [.ref ru, .ref fo, .ref go, .ref fta, .ref fca])), (fo, .inr (2, [.ref mo, .int (nI pv), .int (nI va), .int (nI fh), .int (nI fs), .int (nI fk), .ref lo, .ref so, .ref to])), (lo, .inr (6, [.ref la, .int (nI nl)])), (la, .inl (cI, cl, .inl fl)), (so, .inr (6, [.ref sa, .int (nI ns)])), (sa, .inl (cI, cs, .inl ft)), (fta, .inl (cI, cta, .inl f2))] H locs → lv_has ls 6 [(0, .ref fd), (1, .int (nI (pv + m2))), (2, .int (nI j)), (3, .int (nI sm)), (4, .int (nI (zlen Cs j) - nI 3)), (5, .int (nI (i + 1)))] → W p l e { frames := 1, cells := 0, slots := 0, locals := 22 } s m [.ref fd].toArray below meth c H locs 0 0 (zQ below [.ref fd].toArray s D (zT cI cZ cG cJ) A (fun (ov : Option Value) (ow : va_W) => ∃ ftr' : Nat → Int32, ov = none ∧ ow = [(fd, .inr (3, [.ref ru, .ref fo, .ref go, .ref fta, .ref fca])), (fo, .inr (2, [.ref mo, .int (nI pv), .int (nI va), .int (nI fh), .int (nI fs), .int (nI fk), .ref lo, .ref so, .ref to])), (lo, .inr (6, [.ref la, .int (nI nl)])), (la, .inl (cI, cl, .inl fl)), (so, .inr (6, [.ref sa, .int (nI ns)])), (sa, .inl (cI, cs, .inl ft)), (fta, .inl (cI, cta, .inl ftr'))] ∧ (zS ftr' pv (znv b Cs Cs.length).length b (znv b Cs Cs.length))) 0 0) (F0 m 50 ls []) := by
            intro fuel
            induction fuel with
            | zero => intro i sm f2 m2 hmz; exact absurd hmz (Nat.not_lt_zero _)
            | succ fuel ih =>
              intro i sm f2 m2 hm hi hs1 hsm hmi hS2 H locs ls B hl
              have ih50 := ih
              refine lv_iload F.1 F.2.1 dX1_markNewVariables_50 (lv_at hl 5 rfl) ?_
              refine lv_iload F.1 F.2.1 dX1_markNewVariables_52 (lv_at hl 4 rfl) ?_
              refine lv_icmp_gt (tgt := 108) F.1 F.2.1 dX1_markNewVariables_54 (by decide) (fun c54 => ?_) (fun c54 => ?_)
              · have hlx : zlen Cs j < i + 1 + 3 := (zsub3 (by omega) (by omega)).mp c54
                have hie : i = zlen Cs j - 3 := by omega
                have hSn : zS f2 pv m2 b (znv b Cs (j + 1)) := by show zS f2 pv m2 b ((List.range (j + 1)).flatMap (fun x => znvC b (Cs.getD x []))); rw [zrng_succ]; rw [hie] at hS2; exact hS2
                refine lv_iinc (v := (nI (j + 1))) (lv' := [(2, .int (nI (j + 1))), (0, .ref fd), (1, .int (nI (pv + m2))), (3, .int (nI sm)), (4, .int (nI (zlen Cs j) - nI 3)), (5, .int (nI (i + 1)))]) F.1 F.2.1 dX1_markNewVariables_108 hl (k := 2) rfl (by rw [show Int32.ofInt 1 = nI 1 from rfl, nI_add]) (by decide) rfl (fun ls hl => ?_)
                refine lv_goto (tgt := 10) F.1 F.2.1 dX1_markNewVariables_111 (by decide) ?_
                exact ih10 (j + 1) m2 f2 (by first | omega | (simp only [] at *; omega)) (by omega) (hSn) _ _ _ (B.sub [0, 1, 2, 3, 4, 5, 6] rfl (rfl)) (lv_sub hl [1, 2, 0] rfl)
              · have hlx : ¬ zlen Cs j < i + 1 + 3 := fun q9 => c54 ((zsub3 (by omega) (by omega)).mpr q9)
                have hl2 := hlit j (i + 1) hjl (by omega)
                refine lv_iload_n F.1 F.2.1 dX1_markNewVariables_57 rfl (lv_at hl 3 rfl) ?_
                refine z_if_ne (tgt := 78) F (by omega) dX1_markNewVariables_58 (by decide) (fun c58 => ?_) (fun c58 => ?_)
                · have hsmN : (1 : Nat) = 0 ↔ znoc b (Cs.getD j []) (i + 1) := ⟨fun q9 => absurd q9 (by decide), fun q9 => absurd (hsm.mpr (znoc_S.mp q9).1) c58⟩
                  refine lv_iconst (v := (nI 1)) F.1 F.2.1 dX1_markNewVariables_78 (by decide) ?_
                  refine lv_goto (tgt := 83) F.1 F.2.1 dX1_markNewVariables_79 (by decide) ?_
                  refine lv_istore_n (lv' := [(3, .int (nI 1)), (0, .ref fd), (1, .int (nI (pv + m2))), (2, .int (nI j)), (4, .int (nI (zlen Cs j) - nI 3)), (5, .int (nI (i + 1)))]) F.1 F.2.1 dX1_markNewVariables_83 rfl hl (by decide) rfl (fun ls hl => ?_)
                  refine lv_aload_n F.1 F.2.1 dX1_markNewVariables_84 rfl (lv_at hl 1 rfl) ?_
                  refine z_get F B 0 rfl (ci := 3) (C := RX1) (T := TX1) (N := 5) rfl iX1_markNewVariables_X1 3 (by decide) fX1_markNewVariables_7 rfl dX1_markNewVariables_85 ?_
                  refine lv_iload_n F.1 F.2.1 dX1_markNewVariables_88 rfl (lv_at hl 2 rfl) ?_
                  refine lv_iload_n F.1 F.2.1 dX1_markNewVariables_89 rfl (lv_at hl 0 rfl) ?_
                  refine lv_if_eq (tgt := 97) F.1 F.2.1 dX1_markNewVariables_90 (by decide) (fun hq => absurd hq (by decide)) (fun _ => ?_)
                  refine lv_iconst (v := (nI 0)) F.1 F.2.1 dX1_markNewVariables_93 (by decide) ?_
                  refine lv_goto (tgt := 98) F.1 F.2.1 dX1_markNewVariables_94 (by decide) ?_
                  refine z_iast F B 6 0 rfl rfl (j := pv + m2) (by omega) (by omega) dX1_markNewVariables_98 (fun H locs B => ?_)
                  have B : zB D (zT cI cZ cG cJ) A s.heap s [(fd, .inr (3, [.ref ru, .ref fo, .ref go, .ref fta, .ref fca])), (fo, .inr (2, [.ref mo, .int (nI pv), .int (nI va), .int (nI fh), .int (nI fs), .int (nI fk), .ref lo, .ref so, .ref to])), (lo, .inr (6, [.ref la, .int (nI nl)])), (la, .inl (cI, cl, .inl fl)), (so, .inr (6, [.ref sa, .int (nI ns)])), (sa, .inl (cI, cs, .inl ft)), (fta, .inl (cI, cta, .inl (upd f2 (pv + m2) (nI 0))))] _ _ := B
                  refine lv_iinc (v := (nI (pv + m2 + 1))) (lv' := [(1, .int (nI (pv + m2 + 1))), (3, .int (nI 1)), (0, .ref fd), (2, .int (nI j)), (4, .int (nI (zlen Cs j) - nI 3)), (5, .int (nI (i + 1)))]) F.1 F.2.1 dX1_markNewVariables_99 hl (k := 2) rfl (by rw [show Int32.ofInt 1 = nI 1 from rfl, nI_add]) (by decide) rfl (fun ls hl => ?_)
                  refine lv_iinc (v := (nI (i + 1 + 1))) (lv' := [(5, .int (nI (i + 1 + 1))), (1, .int (nI (pv + m2 + 1))), (3, .int (nI 1)), (0, .ref fd), (2, .int (nI j)), (4, .int (nI (zlen Cs j) - nI 3))]) F.1 F.2.1 dX1_markNewVariables_102 hl (k := 5) rfl (by rw [show Int32.ofInt 1 = nI 1 from rfl, nI_add]) (by decide) rfl (fun ls hl => ?_)
                  refine lv_goto (tgt := 50) F.1 F.2.1 dX1_markNewVariables_105 (by decide) ?_
                  exact ih50 (i + 1) 1 (upd f2 (pv + m2) (nI 0)) (m2 + 1) (by first | omega | (simp only [] at *; omega)) (by omega) (by decide) (hsmN) (by omega) (by rw [zrng_succ (znv1 b (Cs.getD j [])) i, ← List.append_assoc, znv1_0 (fun q9 => absurd (hsmN.mpr q9) (by decide))]; exact zS_add hS2) _ _ _ (B.sub [0, 1, 2, 3, 4, 5, 6] rfl (rfl)) (lv_sub hl [3, 1, 4, 2, 5, 0] rfl)
                · refine lv_aload_n F.1 F.2.1 dX1_markNewVariables_61 rfl (lv_at hl 0 rfl) ?_
                  refine lv_aload_n F.1 F.2.1 dX1_markNewVariables_62 rfl (lv_at hl 0 rfl) ?_
                  refine z_get F B 0 rfl (ci := 3) (C := RX1) (T := TX1) (N := 5) rfl iX1_markNewVariables_X1 1 (by decide) fX1_markNewVariables_20 rfl dX1_markNewVariables_63 ?_
                  refine lv_iload_n F.1 F.2.1 dX1_markNewVariables_66 rfl (lv_at hl 2 rfl) ?_
                  refine lv_iload F.1 F.2.1 dX1_markNewVariables_67 (lv_at hl 5 rfl) ?_
                  refine z_callV (wr := [(fd, .inr (3, [.ref ru, .ref fo, .ref go, .ref fta, .ref fca])), (fta, .inl (cI, cta, .inl f2))]) (rest := [.ref fd]) (As := [.int (nI j), .int (nI (i + 1))]) F B (kX0_literalOf l D cI cZ cG cJ fo mo pv va fh fs fk lo so to la nl cl fl sa ns cs ft Cs j (i + 1) (hF) (hwl) (hws) (hjl) (by omega)) hl.1 (C := RX0) (T := TX0) (N := 9) (ci := 2) (q0 := 1) gX1_markNewVariables_X0_literalOf rfl 2 yX1_markNewVariables_X0_literalOf rfl rfl rfl [1, 2, 3, 4, 5] [0, 6] rfl rfl rfl rfl (by decide) (Nat.le_of_ble_eq_true rfl) (Nat.le_of_ble_eq_true rfl) (Nat.le_of_ble_eq_true rfl) rfl dX1_markNewVariables_69 (show 0 + 0 ≤ 0 by omega) (show 0 + 0 ≤ 0 by omega) (fun vv ww H locs hRR B => ?_)
                  obtain ⟨rfl, rfl⟩ := hRR
                  have B : zB D (zT cI cZ cG cJ) A s.heap s [(fd, .inr (3, [.ref ru, .ref fo, .ref go, .ref fta, .ref fca])), (fta, .inl (cI, cta, .inl f2)), (fo, .inr (2, [.ref mo, .int (nI pv), .int (nI va), .int (nI fh), .int (nI fs), .int (nI fk), .ref lo, .ref so, .ref to])), (lo, .inr (6, [.ref la, .int (nI nl)])), (la, .inl (cI, cl, .inl fl)), (so, .inr (6, [.ref sa, .int (nI ns)])), (sa, .inl (cI, cs, .inl ft))] _ _ := B
                  refine W.eq (g2 := F0 m 72 ls [.int (nI (zlit Cs j (i + 1))), .ref fd]) rfl ?_
                  refine z_callV (wr := [(fo, .inr (2, [.ref mo, .int (nI pv), .int (nI va), .int (nI fh), .int (nI fs), .int (nI fk), .ref lo, .ref so, .ref to])), (lo, .inr (6, [.ref la, .int (nI nl)])), (la, .inl (cI, cl, .inl fl)), (so, .inr (6, [.ref sa, .int (nI ns)])), (sa, .inl (cI, cs, .inl ft))]) (rest := []) (As := [.int (nI (zlit Cs j (i + 1)))]) F B (kX1_isTrue l D cI cZ cG cJ fd ru fo go fta fca cta f2 b (zlit Cs j (i + 1)) (hS2.2.1 _ (by omega)) (hb1 _) (by omega) (by omega)) hl.1 (C := RX1) (T := TX1) (N := 5) (ci := 3) (q0 := 0) gX1_markNewVariables_X1_isTrue rfl 1 yX1_markNewVariables_X1_isTrue rfl rfl rfl [0, 1] [2, 3, 4, 5, 6] rfl rfl rfl rfl (by decide) (Nat.le_of_ble_eq_true rfl) (Nat.le_of_ble_eq_true rfl) (Nat.le_of_ble_eq_true rfl) rfl dX1_markNewVariables_72 (show 0 + 0 ≤ 0 by omega) (show 0 + 0 ≤ 0 by omega) (fun vv ww H locs hRR B => ?_)
                  obtain ⟨r_3, rfl, rfl, hb_4⟩ := hRR
                  have B : zB D (zT cI cZ cG cJ) A s.heap s [(fo, .inr (2, [.ref mo, .int (nI pv), .int (nI va), .int (nI fh), .int (nI fs), .int (nI fk), .ref lo, .ref so, .ref to])), (lo, .inr (6, [.ref la, .int (nI nl)])), (la, .inl (cI, cl, .inl fl)), (so, .inr (6, [.ref sa, .int (nI ns)])), (sa, .inl (cI, cs, .inl ft)), (fd, .inr (3, [.ref ru, .ref fo, .ref go, .ref fta, .ref fca])), (fta, .inl (cI, cta, .inl f2))] _ _ := B
                  rcases hb_4 with ⟨hr1, hpT⟩ | ⟨hr1, hpT⟩ <;> subst hr1
                  · refine W.eq (g2 := F0 m 75 ls [.int 1]) rfl ?_
                    have hsmN : (1 : Nat) = 0 ↔ znoc b (Cs.getD j []) (i + 1) := ⟨fun q9 => absurd q9 (by decide), fun q9 => absurd (znoc_S.mp q9).2 (by rw [show ((Cs.getD j [])).getD (i + 1) 0 = zlit Cs j (i + 1) from rfl, ztv_1 hpT]; decide)⟩
                    refine lv_if_eq (tgt := 82) F.1 F.2.1 dX1_markNewVariables_75 (by decide) (fun hq => absurd hq (by decide)) (fun _ => ?_)
                    refine lv_iconst (v := (nI 1)) F.1 F.2.1 dX1_markNewVariables_78 (by decide) ?_
                    refine lv_goto (tgt := 83) F.1 F.2.1 dX1_markNewVariables_79 (by decide) ?_
                    refine lv_istore_n (lv' := [(3, .int (nI 1)), (0, .ref fd), (1, .int (nI (pv + m2))), (2, .int (nI j)), (4, .int (nI (zlen Cs j) - nI 3)), (5, .int (nI (i + 1)))]) F.1 F.2.1 dX1_markNewVariables_83 rfl hl (by decide) rfl (fun ls hl => ?_)
                    refine lv_aload_n F.1 F.2.1 dX1_markNewVariables_84 rfl (lv_at hl 1 rfl) ?_
                    refine z_get F B 5 rfl (ci := 3) (C := RX1) (T := TX1) (N := 5) rfl iX1_markNewVariables_X1 3 (by decide) fX1_markNewVariables_7 rfl dX1_markNewVariables_85 ?_
                    refine lv_iload_n F.1 F.2.1 dX1_markNewVariables_88 rfl (lv_at hl 2 rfl) ?_
                    refine lv_iload_n F.1 F.2.1 dX1_markNewVariables_89 rfl (lv_at hl 0 rfl) ?_
                    refine lv_if_eq (tgt := 97) F.1 F.2.1 dX1_markNewVariables_90 (by decide) (fun hq => absurd hq (by decide)) (fun _ => ?_)
                    refine lv_iconst (v := (nI 0)) F.1 F.2.1 dX1_markNewVariables_93 (by decide) ?_
                    refine lv_goto (tgt := 98) F.1 F.2.1 dX1_markNewVariables_94 (by decide) ?_
                    refine z_iast F B 6 0 rfl rfl (j := pv + m2) (by omega) (by omega) dX1_markNewVariables_98 (fun H locs B => ?_)
                    have B : zB D (zT cI cZ cG cJ) A s.heap s [(fo, .inr (2, [.ref mo, .int (nI pv), .int (nI va), .int (nI fh), .int (nI fs), .int (nI fk), .ref lo, .ref so, .ref to])), (lo, .inr (6, [.ref la, .int (nI nl)])), (la, .inl (cI, cl, .inl fl)), (so, .inr (6, [.ref sa, .int (nI ns)])), (sa, .inl (cI, cs, .inl ft)), (fd, .inr (3, [.ref ru, .ref fo, .ref go, .ref fta, .ref fca])), (fta, .inl (cI, cta, .inl (upd f2 (pv + m2) (nI 0))))] _ _ := B
                    refine lv_iinc (v := (nI (pv + m2 + 1))) (lv' := [(1, .int (nI (pv + m2 + 1))), (3, .int (nI 1)), (0, .ref fd), (2, .int (nI j)), (4, .int (nI (zlen Cs j) - nI 3)), (5, .int (nI (i + 1)))]) F.1 F.2.1 dX1_markNewVariables_99 hl (k := 2) rfl (by rw [show Int32.ofInt 1 = nI 1 from rfl, nI_add]) (by decide) rfl (fun ls hl => ?_)
                    refine lv_iinc (v := (nI (i + 1 + 1))) (lv' := [(5, .int (nI (i + 1 + 1))), (1, .int (nI (pv + m2 + 1))), (3, .int (nI 1)), (0, .ref fd), (2, .int (nI j)), (4, .int (nI (zlen Cs j) - nI 3))]) F.1 F.2.1 dX1_markNewVariables_102 hl (k := 5) rfl (by rw [show Int32.ofInt 1 = nI 1 from rfl, nI_add]) (by decide) rfl (fun ls hl => ?_)
                    refine lv_goto (tgt := 50) F.1 F.2.1 dX1_markNewVariables_105 (by decide) ?_
                    exact ih50 (i + 1) 1 (upd f2 (pv + m2) (nI 0)) (m2 + 1) (by first | omega | (simp only [] at *; omega)) (by omega) (by decide) (hsmN) (by omega) (by rw [zrng_succ (znv1 b (Cs.getD j [])) i, ← List.append_assoc, znv1_0 (fun q9 => absurd (hsmN.mpr q9) (by decide))]; exact zS_add hS2) _ _ _ (B.sub [5, 0, 1, 2, 3, 4, 6] rfl (rfl)) (lv_sub hl [3, 1, 4, 2, 5, 0] rfl)
                  · refine W.eq (g2 := F0 m 75 ls [.int 0]) rfl ?_
                    have hsmN : (0 : Nat) = 0 ↔ znoc b (Cs.getD j []) (i + 1) := ⟨fun _ => znoc_S.mpr ⟨hsm.mp c58, ztv_0 (Classical.not_not.mp hpT)⟩, fun _ => rfl⟩
                    refine lv_if_eq (tgt := 82) F.1 F.2.1 dX1_markNewVariables_75 (by decide) (fun _ => ?_) (fun hq => absurd (by decide) hq)
                    refine lv_iconst (v := (nI 0)) F.1 F.2.1 dX1_markNewVariables_82 (by decide) ?_
                    refine lv_istore_n (lv' := [(3, .int (nI 0)), (0, .ref fd), (1, .int (nI (pv + m2))), (2, .int (nI j)), (4, .int (nI (zlen Cs j) - nI 3)), (5, .int (nI (i + 1)))]) F.1 F.2.1 dX1_markNewVariables_83 rfl hl (by decide) rfl (fun ls hl => ?_)
                    refine lv_aload_n F.1 F.2.1 dX1_markNewVariables_84 rfl (lv_at hl 1 rfl) ?_
                    refine z_get F B 5 rfl (ci := 3) (C := RX1) (T := TX1) (N := 5) rfl iX1_markNewVariables_X1 3 (by decide) fX1_markNewVariables_7 rfl dX1_markNewVariables_85 ?_
                    refine lv_iload_n F.1 F.2.1 dX1_markNewVariables_88 rfl (lv_at hl 2 rfl) ?_
                    refine lv_iload_n F.1 F.2.1 dX1_markNewVariables_89 rfl (lv_at hl 0 rfl) ?_
                    refine lv_if_eq (tgt := 97) F.1 F.2.1 dX1_markNewVariables_90 (by decide) (fun _ => ?_) (fun hq => absurd (by decide) hq)
                    refine lv_iconst (v := (nI 1)) F.1 F.2.1 dX1_markNewVariables_97 (by decide) ?_
                    refine z_iast F B 6 0 rfl rfl (j := pv + m2) (by omega) (by omega) dX1_markNewVariables_98 (fun H locs B => ?_)
                    have B : zB D (zT cI cZ cG cJ) A s.heap s [(fo, .inr (2, [.ref mo, .int (nI pv), .int (nI va), .int (nI fh), .int (nI fs), .int (nI fk), .ref lo, .ref so, .ref to])), (lo, .inr (6, [.ref la, .int (nI nl)])), (la, .inl (cI, cl, .inl fl)), (so, .inr (6, [.ref sa, .int (nI ns)])), (sa, .inl (cI, cs, .inl ft)), (fd, .inr (3, [.ref ru, .ref fo, .ref go, .ref fta, .ref fca])), (fta, .inl (cI, cta, .inl (upd f2 (pv + m2) (nI 1))))] _ _ := B
                    refine lv_iinc (v := (nI (pv + m2 + 1))) (lv' := [(1, .int (nI (pv + m2 + 1))), (3, .int (nI 0)), (0, .ref fd), (2, .int (nI j)), (4, .int (nI (zlen Cs j) - nI 3)), (5, .int (nI (i + 1)))]) F.1 F.2.1 dX1_markNewVariables_99 hl (k := 2) rfl (by rw [show Int32.ofInt 1 = nI 1 from rfl, nI_add]) (by decide) rfl (fun ls hl => ?_)
                    refine lv_iinc (v := (nI (i + 1 + 1))) (lv' := [(5, .int (nI (i + 1 + 1))), (1, .int (nI (pv + m2 + 1))), (3, .int (nI 0)), (0, .ref fd), (2, .int (nI j)), (4, .int (nI (zlen Cs j) - nI 3))]) F.1 F.2.1 dX1_markNewVariables_102 hl (k := 5) rfl (by rw [show Int32.ofInt 1 = nI 1 from rfl, nI_add]) (by decide) rfl (fun ls hl => ?_)
                    refine lv_goto (tgt := 50) F.1 F.2.1 dX1_markNewVariables_105 (by decide) ?_
                    exact ih50 (i + 1) 0 (upd f2 (pv + m2) (nI 1)) (m2 + 1) (by first | omega | (simp only [] at *; omega)) (by omega) (by decide) (hsmN) (by omega) (by rw [zrng_succ (znv1 b (Cs.getD j [])) i, ← List.append_assoc, znv1_1 (hsmN.mp rfl)]; exact zS_add hS2) _ _ _ (B.sub [5, 0, 1, 2, 3, 4, 6] rfl (rfl)) (lv_sub hl [3, 1, 4, 2, 5, 0] rfl)
          exact loop50 (zlen Cs j - 0 + 1) 0 1 f1 n1 (Nat.lt_succ_self _) (by omega) (by decide) (⟨fun q9 => absurd q9 (by decide), fun q9 => absurd (znoc_0.mp q9) (by rw [show ((Cs.getD j [])).getD 0 0 = zlit Cs j 0 from rfl, ztv_1 hp0]; decide)⟩) (hS.1.symm) (by simpa using hS) _ _ _ (B.sub [2, 4, 0, 1, 5, 6, 3] rfl (rfl)) (lv_sub hl [3, 4, 5, 2, 1, 0] rfl)
        · refine W.eq (g2 := F0 m 34 ls [.int 0]) rfl ?_
          refine lv_istore_n (lv' := [(3, .int 0), (0, .ref fd), (1, .int (nI (pv + n1))), (2, .int (nI j))]) F.1 F.2.1 dX1_markNewVariables_34 rfl hl (by decide) rfl (fun ls hl => ?_)
          refine lv_aload_n F.1 F.2.1 dX1_markNewVariables_35 rfl (lv_at hl 1 rfl) ?_
          refine z_get F B 5 rfl (ci := 3) (C := RX1) (T := TX1) (N := 5) rfl iX1_markNewVariables_X1 1 (by decide) fX1_markNewVariables_20 rfl dX1_markNewVariables_36 ?_
          refine lv_iload_n F.1 F.2.1 dX1_markNewVariables_39 rfl (lv_at hl 3 rfl) ?_
          refine z_callV (wr := [(lo, .inr (6, [.ref la, .int (nI nl)])), (la, .inl (cI, cl, .inl fl)), (fd, .inr (3, [.ref ru, .ref fo, .ref go, .ref fta, .ref fca])), (fta, .inl (cI, cta, .inl f1))]) (rest := []) (As := [.int (nI j)]) F B (kX0_length l D cI cZ cG cJ fo mo pv va fh fs fk lo so to sa ns cs ft fl nl Cs j (hF) (hws) (hjl)) hl.1 (C := RX0) (T := TX0) (N := 9) (ci := 2) (q0 := 0) gX1_markNewVariables_X0_length rfl 1 yX1_markNewVariables_X0_length rfl rfl rfl [0, 3, 4] [1, 2, 5, 6] rfl rfl rfl rfl (by decide) (Nat.le_of_ble_eq_true rfl) (Nat.le_of_ble_eq_true rfl) (Nat.le_of_ble_eq_true rfl) rfl dX1_markNewVariables_40 (show 0 + 0 ≤ 0 by omega) (show 0 + 0 ≤ 0 by omega) (fun vv ww H locs hRR B => ?_)
          obtain ⟨rfl, rfl⟩ := hRR
          have B : zB D (zT cI cZ cG cJ) A s.heap s [(lo, .inr (6, [.ref la, .int (nI nl)])), (la, .inl (cI, cl, .inl fl)), (fd, .inr (3, [.ref ru, .ref fo, .ref go, .ref fta, .ref fca])), (fta, .inl (cI, cta, .inl f1)), (fo, .inr (2, [.ref mo, .int (nI pv), .int (nI va), .int (nI fh), .int (nI fs), .int (nI fk), .ref lo, .ref so, .ref to])), (so, .inr (6, [.ref sa, .int (nI ns)])), (sa, .inl (cI, cs, .inl ft))] _ _ := B
          refine W.eq (g2 := F0 m 43 ls [.int (nI (zlen Cs j))]) rfl ?_
          refine lv_iconst (v := (nI 3)) F.1 F.2.1 dX1_markNewVariables_43 (by decide) ?_
          refine lv_isub F.1 F.2.1 dX1_markNewVariables_44 ?_
          refine lv_istore (lv' := [(4, .int ((nI (zlen Cs j)) - (nI 3))), (3, .int 0), (0, .ref fd), (1, .int (nI (pv + n1))), (2, .int (nI j))]) F.1 F.2.1 dX1_markNewVariables_45 hl (by decide) rfl (fun ls hl => ?_)
          refine lv_iconst (v := (nI 1)) F.1 F.2.1 dX1_markNewVariables_47 (by decide) ?_
          refine lv_istore (lv' := [(5, .int (nI 1)), (4, .int ((nI (zlen Cs j)) - (nI 3))), (3, .int 0), (0, .ref fd), (1, .int (nI (pv + n1))), (2, .int (nI j))]) F.1 F.2.1 dX1_markNewVariables_48 hl (by decide) rfl (fun ls hl => ?_)
          have loop50 : ∀ (fuel : Nat) (i : Nat) (sm : Nat) (f2 : Nat → Int32) (m2 : Nat), zlen Cs j - i < fuel → (i ≤ zlen Cs j - 3) → (sm ≤ 1) → (sm = 0 ↔ znoc b (Cs.getD j []) i) → (m2 = (znv b Cs j).length + i) → (zS f2 pv m2 b (znv b Cs j ++ (List.range i).flatMap (znv1 b (Cs.getD j [])))) → ∀ (H : Heap) (locs : List Loc) (ls : Array Slot), zB D (zT cI cZ cG cJ) A s.heap s [(fd, .inr (3, [.ref ru, .ref fo, .ref go, .ref fta, .ref fca])), (fo, .inr (2, [.ref mo, .int (nI pv), .int (nI va), .int (nI fh), .int (nI fs), .int (nI fk), .ref lo, .ref so, .ref to])), (lo, .inr (6, [.ref la, .int (nI nl)])), (la, .inl (cI, cl, .inl fl)), (so, .inr (6, [.ref sa, .int (nI ns)])), (sa, .inl (cI, cs, .inl ft)), (fta, .inl (cI, cta, .inl f2))] H locs → lv_has ls 6 [(0, .ref fd), (1, .int (nI (pv + m2))), (2, .int (nI j)), (3, .int (nI sm)), (4, .int (nI (zlen Cs j) - nI 3)), (5, .int (nI (i + 1)))] → W p l e { frames := 1, cells := 0, slots := 0, locals := 22 } s m [.ref fd].toArray below meth c H locs 0 0 (zQ below [.ref fd].toArray s D (zT cI cZ cG cJ) A (fun (ov : Option Value) (ow : va_W) => ∃ ftr' : Nat → Int32, ov = none ∧ ow = [(fd, .inr (3, [.ref ru, .ref fo, .ref go, .ref fta, .ref fca])), (fo, .inr (2, [.ref mo, .int (nI pv), .int (nI va), .int (nI fh), .int (nI fs), .int (nI fk), .ref lo, .ref so, .ref to])), (lo, .inr (6, [.ref la, .int (nI nl)])), (la, .inl (cI, cl, .inl fl)), (so, .inr (6, [.ref sa, .int (nI ns)])), (sa, .inl (cI, cs, .inl ft)), (fta, .inl (cI, cta, .inl ftr'))] ∧ (zS ftr' pv (znv b Cs Cs.length).length b (znv b Cs Cs.length))) 0 0) (F0 m 50 ls []) := by
            intro fuel
            induction fuel with
            | zero => intro i sm f2 m2 hmz; exact absurd hmz (Nat.not_lt_zero _)
            | succ fuel ih =>
              intro i sm f2 m2 hm hi hs1 hsm hmi hS2 H locs ls B hl
              have ih50 := ih
              refine lv_iload F.1 F.2.1 dX1_markNewVariables_50 (lv_at hl 5 rfl) ?_
              refine lv_iload F.1 F.2.1 dX1_markNewVariables_52 (lv_at hl 4 rfl) ?_
              refine lv_icmp_gt (tgt := 108) F.1 F.2.1 dX1_markNewVariables_54 (by decide) (fun c54 => ?_) (fun c54 => ?_)
              · have hlx : zlen Cs j < i + 1 + 3 := (zsub3 (by omega) (by omega)).mp c54
                have hie : i = zlen Cs j - 3 := by omega
                have hSn : zS f2 pv m2 b (znv b Cs (j + 1)) := by show zS f2 pv m2 b ((List.range (j + 1)).flatMap (fun x => znvC b (Cs.getD x []))); rw [zrng_succ]; rw [hie] at hS2; exact hS2
                refine lv_iinc (v := (nI (j + 1))) (lv' := [(2, .int (nI (j + 1))), (0, .ref fd), (1, .int (nI (pv + m2))), (3, .int (nI sm)), (4, .int (nI (zlen Cs j) - nI 3)), (5, .int (nI (i + 1)))]) F.1 F.2.1 dX1_markNewVariables_108 hl (k := 2) rfl (by rw [show Int32.ofInt 1 = nI 1 from rfl, nI_add]) (by decide) rfl (fun ls hl => ?_)
                refine lv_goto (tgt := 10) F.1 F.2.1 dX1_markNewVariables_111 (by decide) ?_
                exact ih10 (j + 1) m2 f2 (by first | omega | (simp only [] at *; omega)) (by omega) (hSn) _ _ _ (B.sub [0, 1, 2, 3, 4, 5, 6] rfl (rfl)) (lv_sub hl [1, 2, 0] rfl)
              · have hlx : ¬ zlen Cs j < i + 1 + 3 := fun q9 => c54 ((zsub3 (by omega) (by omega)).mpr q9)
                have hl2 := hlit j (i + 1) hjl (by omega)
                refine lv_iload_n F.1 F.2.1 dX1_markNewVariables_57 rfl (lv_at hl 3 rfl) ?_
                refine z_if_ne (tgt := 78) F (by omega) dX1_markNewVariables_58 (by decide) (fun c58 => ?_) (fun c58 => ?_)
                · have hsmN : (1 : Nat) = 0 ↔ znoc b (Cs.getD j []) (i + 1) := ⟨fun q9 => absurd q9 (by decide), fun q9 => absurd (hsm.mpr (znoc_S.mp q9).1) c58⟩
                  refine lv_iconst (v := (nI 1)) F.1 F.2.1 dX1_markNewVariables_78 (by decide) ?_
                  refine lv_goto (tgt := 83) F.1 F.2.1 dX1_markNewVariables_79 (by decide) ?_
                  refine lv_istore_n (lv' := [(3, .int (nI 1)), (0, .ref fd), (1, .int (nI (pv + m2))), (2, .int (nI j)), (4, .int (nI (zlen Cs j) - nI 3)), (5, .int (nI (i + 1)))]) F.1 F.2.1 dX1_markNewVariables_83 rfl hl (by decide) rfl (fun ls hl => ?_)
                  refine lv_aload_n F.1 F.2.1 dX1_markNewVariables_84 rfl (lv_at hl 1 rfl) ?_
                  refine z_get F B 0 rfl (ci := 3) (C := RX1) (T := TX1) (N := 5) rfl iX1_markNewVariables_X1 3 (by decide) fX1_markNewVariables_7 rfl dX1_markNewVariables_85 ?_
                  refine lv_iload_n F.1 F.2.1 dX1_markNewVariables_88 rfl (lv_at hl 2 rfl) ?_
                  refine lv_iload_n F.1 F.2.1 dX1_markNewVariables_89 rfl (lv_at hl 0 rfl) ?_
                  refine lv_if_eq (tgt := 97) F.1 F.2.1 dX1_markNewVariables_90 (by decide) (fun hq => absurd hq (by decide)) (fun _ => ?_)
                  refine lv_iconst (v := (nI 0)) F.1 F.2.1 dX1_markNewVariables_93 (by decide) ?_
                  refine lv_goto (tgt := 98) F.1 F.2.1 dX1_markNewVariables_94 (by decide) ?_
                  refine z_iast F B 6 0 rfl rfl (j := pv + m2) (by omega) (by omega) dX1_markNewVariables_98 (fun H locs B => ?_)
                  have B : zB D (zT cI cZ cG cJ) A s.heap s [(fd, .inr (3, [.ref ru, .ref fo, .ref go, .ref fta, .ref fca])), (fo, .inr (2, [.ref mo, .int (nI pv), .int (nI va), .int (nI fh), .int (nI fs), .int (nI fk), .ref lo, .ref so, .ref to])), (lo, .inr (6, [.ref la, .int (nI nl)])), (la, .inl (cI, cl, .inl fl)), (so, .inr (6, [.ref sa, .int (nI ns)])), (sa, .inl (cI, cs, .inl ft)), (fta, .inl (cI, cta, .inl (upd f2 (pv + m2) (nI 0))))] _ _ := B
                  refine lv_iinc (v := (nI (pv + m2 + 1))) (lv' := [(1, .int (nI (pv + m2 + 1))), (3, .int (nI 1)), (0, .ref fd), (2, .int (nI j)), (4, .int (nI (zlen Cs j) - nI 3)), (5, .int (nI (i + 1)))]) F.1 F.2.1 dX1_markNewVariables_99 hl (k := 2) rfl (by rw [show Int32.ofInt 1 = nI 1 from rfl, nI_add]) (by decide) rfl (fun ls hl => ?_)
                  refine lv_iinc (v := (nI (i + 1 + 1))) (lv' := [(5, .int (nI (i + 1 + 1))), (1, .int (nI (pv + m2 + 1))), (3, .int (nI 1)), (0, .ref fd), (2, .int (nI j)), (4, .int (nI (zlen Cs j) - nI 3))]) F.1 F.2.1 dX1_markNewVariables_102 hl (k := 5) rfl (by rw [show Int32.ofInt 1 = nI 1 from rfl, nI_add]) (by decide) rfl (fun ls hl => ?_)
                  refine lv_goto (tgt := 50) F.1 F.2.1 dX1_markNewVariables_105 (by decide) ?_
                  exact ih50 (i + 1) 1 (upd f2 (pv + m2) (nI 0)) (m2 + 1) (by first | omega | (simp only [] at *; omega)) (by omega) (by decide) (hsmN) (by omega) (by rw [zrng_succ (znv1 b (Cs.getD j [])) i, ← List.append_assoc, znv1_0 (fun q9 => absurd (hsmN.mpr q9) (by decide))]; exact zS_add hS2) _ _ _ (B.sub [0, 1, 2, 3, 4, 5, 6] rfl (rfl)) (lv_sub hl [3, 1, 4, 2, 5, 0] rfl)
                · refine lv_aload_n F.1 F.2.1 dX1_markNewVariables_61 rfl (lv_at hl 0 rfl) ?_
                  refine lv_aload_n F.1 F.2.1 dX1_markNewVariables_62 rfl (lv_at hl 0 rfl) ?_
                  refine z_get F B 0 rfl (ci := 3) (C := RX1) (T := TX1) (N := 5) rfl iX1_markNewVariables_X1 1 (by decide) fX1_markNewVariables_20 rfl dX1_markNewVariables_63 ?_
                  refine lv_iload_n F.1 F.2.1 dX1_markNewVariables_66 rfl (lv_at hl 2 rfl) ?_
                  refine lv_iload F.1 F.2.1 dX1_markNewVariables_67 (lv_at hl 5 rfl) ?_
                  refine z_callV (wr := [(fd, .inr (3, [.ref ru, .ref fo, .ref go, .ref fta, .ref fca])), (fta, .inl (cI, cta, .inl f2))]) (rest := [.ref fd]) (As := [.int (nI j), .int (nI (i + 1))]) F B (kX0_literalOf l D cI cZ cG cJ fo mo pv va fh fs fk lo so to la nl cl fl sa ns cs ft Cs j (i + 1) (hF) (hwl) (hws) (hjl) (by omega)) hl.1 (C := RX0) (T := TX0) (N := 9) (ci := 2) (q0 := 1) gX1_markNewVariables_X0_literalOf rfl 2 yX1_markNewVariables_X0_literalOf rfl rfl rfl [1, 2, 3, 4, 5] [0, 6] rfl rfl rfl rfl (by decide) (Nat.le_of_ble_eq_true rfl) (Nat.le_of_ble_eq_true rfl) (Nat.le_of_ble_eq_true rfl) rfl dX1_markNewVariables_69 (show 0 + 0 ≤ 0 by omega) (show 0 + 0 ≤ 0 by omega) (fun vv ww H locs hRR B => ?_)
                  obtain ⟨rfl, rfl⟩ := hRR
                  have B : zB D (zT cI cZ cG cJ) A s.heap s [(fd, .inr (3, [.ref ru, .ref fo, .ref go, .ref fta, .ref fca])), (fta, .inl (cI, cta, .inl f2)), (fo, .inr (2, [.ref mo, .int (nI pv), .int (nI va), .int (nI fh), .int (nI fs), .int (nI fk), .ref lo, .ref so, .ref to])), (lo, .inr (6, [.ref la, .int (nI nl)])), (la, .inl (cI, cl, .inl fl)), (so, .inr (6, [.ref sa, .int (nI ns)])), (sa, .inl (cI, cs, .inl ft))] _ _ := B
                  refine W.eq (g2 := F0 m 72 ls [.int (nI (zlit Cs j (i + 1))), .ref fd]) rfl ?_
                  refine z_callV (wr := [(fo, .inr (2, [.ref mo, .int (nI pv), .int (nI va), .int (nI fh), .int (nI fs), .int (nI fk), .ref lo, .ref so, .ref to])), (lo, .inr (6, [.ref la, .int (nI nl)])), (la, .inl (cI, cl, .inl fl)), (so, .inr (6, [.ref sa, .int (nI ns)])), (sa, .inl (cI, cs, .inl ft))]) (rest := []) (As := [.int (nI (zlit Cs j (i + 1)))]) F B (kX1_isTrue l D cI cZ cG cJ fd ru fo go fta fca cta f2 b (zlit Cs j (i + 1)) (hS2.2.1 _ (by omega)) (hb1 _) (by omega) (by omega)) hl.1 (C := RX1) (T := TX1) (N := 5) (ci := 3) (q0 := 0) gX1_markNewVariables_X1_isTrue rfl 1 yX1_markNewVariables_X1_isTrue rfl rfl rfl [0, 1] [2, 3, 4, 5, 6] rfl rfl rfl rfl (by decide) (Nat.le_of_ble_eq_true rfl) (Nat.le_of_ble_eq_true rfl) (Nat.le_of_ble_eq_true rfl) rfl dX1_markNewVariables_72 (show 0 + 0 ≤ 0 by omega) (show 0 + 0 ≤ 0 by omega) (fun vv ww H locs hRR B => ?_)
                  obtain ⟨r_5, rfl, rfl, hb_6⟩ := hRR
                  have B : zB D (zT cI cZ cG cJ) A s.heap s [(fo, .inr (2, [.ref mo, .int (nI pv), .int (nI va), .int (nI fh), .int (nI fs), .int (nI fk), .ref lo, .ref so, .ref to])), (lo, .inr (6, [.ref la, .int (nI nl)])), (la, .inl (cI, cl, .inl fl)), (so, .inr (6, [.ref sa, .int (nI ns)])), (sa, .inl (cI, cs, .inl ft)), (fd, .inr (3, [.ref ru, .ref fo, .ref go, .ref fta, .ref fca])), (fta, .inl (cI, cta, .inl f2))] _ _ := B
                  rcases hb_6 with ⟨hr1, hpT⟩ | ⟨hr1, hpT⟩ <;> subst hr1
                  · refine W.eq (g2 := F0 m 75 ls [.int 1]) rfl ?_
                    have hsmN : (1 : Nat) = 0 ↔ znoc b (Cs.getD j []) (i + 1) := ⟨fun q9 => absurd q9 (by decide), fun q9 => absurd (znoc_S.mp q9).2 (by rw [show ((Cs.getD j [])).getD (i + 1) 0 = zlit Cs j (i + 1) from rfl, ztv_1 hpT]; decide)⟩
                    refine lv_if_eq (tgt := 82) F.1 F.2.1 dX1_markNewVariables_75 (by decide) (fun hq => absurd hq (by decide)) (fun _ => ?_)
                    refine lv_iconst (v := (nI 1)) F.1 F.2.1 dX1_markNewVariables_78 (by decide) ?_
                    refine lv_goto (tgt := 83) F.1 F.2.1 dX1_markNewVariables_79 (by decide) ?_
                    refine lv_istore_n (lv' := [(3, .int (nI 1)), (0, .ref fd), (1, .int (nI (pv + m2))), (2, .int (nI j)), (4, .int (nI (zlen Cs j) - nI 3)), (5, .int (nI (i + 1)))]) F.1 F.2.1 dX1_markNewVariables_83 rfl hl (by decide) rfl (fun ls hl => ?_)
                    refine lv_aload_n F.1 F.2.1 dX1_markNewVariables_84 rfl (lv_at hl 1 rfl) ?_
                    refine z_get F B 5 rfl (ci := 3) (C := RX1) (T := TX1) (N := 5) rfl iX1_markNewVariables_X1 3 (by decide) fX1_markNewVariables_7 rfl dX1_markNewVariables_85 ?_
                    refine lv_iload_n F.1 F.2.1 dX1_markNewVariables_88 rfl (lv_at hl 2 rfl) ?_
                    refine lv_iload_n F.1 F.2.1 dX1_markNewVariables_89 rfl (lv_at hl 0 rfl) ?_
                    refine lv_if_eq (tgt := 97) F.1 F.2.1 dX1_markNewVariables_90 (by decide) (fun hq => absurd hq (by decide)) (fun _ => ?_)
                    refine lv_iconst (v := (nI 0)) F.1 F.2.1 dX1_markNewVariables_93 (by decide) ?_
                    refine lv_goto (tgt := 98) F.1 F.2.1 dX1_markNewVariables_94 (by decide) ?_
                    refine z_iast F B 6 0 rfl rfl (j := pv + m2) (by omega) (by omega) dX1_markNewVariables_98 (fun H locs B => ?_)
                    have B : zB D (zT cI cZ cG cJ) A s.heap s [(fo, .inr (2, [.ref mo, .int (nI pv), .int (nI va), .int (nI fh), .int (nI fs), .int (nI fk), .ref lo, .ref so, .ref to])), (lo, .inr (6, [.ref la, .int (nI nl)])), (la, .inl (cI, cl, .inl fl)), (so, .inr (6, [.ref sa, .int (nI ns)])), (sa, .inl (cI, cs, .inl ft)), (fd, .inr (3, [.ref ru, .ref fo, .ref go, .ref fta, .ref fca])), (fta, .inl (cI, cta, .inl (upd f2 (pv + m2) (nI 0))))] _ _ := B
                    refine lv_iinc (v := (nI (pv + m2 + 1))) (lv' := [(1, .int (nI (pv + m2 + 1))), (3, .int (nI 1)), (0, .ref fd), (2, .int (nI j)), (4, .int (nI (zlen Cs j) - nI 3)), (5, .int (nI (i + 1)))]) F.1 F.2.1 dX1_markNewVariables_99 hl (k := 2) rfl (by rw [show Int32.ofInt 1 = nI 1 from rfl, nI_add]) (by decide) rfl (fun ls hl => ?_)
                    refine lv_iinc (v := (nI (i + 1 + 1))) (lv' := [(5, .int (nI (i + 1 + 1))), (1, .int (nI (pv + m2 + 1))), (3, .int (nI 1)), (0, .ref fd), (2, .int (nI j)), (4, .int (nI (zlen Cs j) - nI 3))]) F.1 F.2.1 dX1_markNewVariables_102 hl (k := 5) rfl (by rw [show Int32.ofInt 1 = nI 1 from rfl, nI_add]) (by decide) rfl (fun ls hl => ?_)
                    refine lv_goto (tgt := 50) F.1 F.2.1 dX1_markNewVariables_105 (by decide) ?_
                    exact ih50 (i + 1) 1 (upd f2 (pv + m2) (nI 0)) (m2 + 1) (by first | omega | (simp only [] at *; omega)) (by omega) (by decide) (hsmN) (by omega) (by rw [zrng_succ (znv1 b (Cs.getD j [])) i, ← List.append_assoc, znv1_0 (fun q9 => absurd (hsmN.mpr q9) (by decide))]; exact zS_add hS2) _ _ _ (B.sub [5, 0, 1, 2, 3, 4, 6] rfl (rfl)) (lv_sub hl [3, 1, 4, 2, 5, 0] rfl)
                  · refine W.eq (g2 := F0 m 75 ls [.int 0]) rfl ?_
                    have hsmN : (0 : Nat) = 0 ↔ znoc b (Cs.getD j []) (i + 1) := ⟨fun _ => znoc_S.mpr ⟨hsm.mp c58, ztv_0 (Classical.not_not.mp hpT)⟩, fun _ => rfl⟩
                    refine lv_if_eq (tgt := 82) F.1 F.2.1 dX1_markNewVariables_75 (by decide) (fun _ => ?_) (fun hq => absurd (by decide) hq)
                    refine lv_iconst (v := (nI 0)) F.1 F.2.1 dX1_markNewVariables_82 (by decide) ?_
                    refine lv_istore_n (lv' := [(3, .int (nI 0)), (0, .ref fd), (1, .int (nI (pv + m2))), (2, .int (nI j)), (4, .int (nI (zlen Cs j) - nI 3)), (5, .int (nI (i + 1)))]) F.1 F.2.1 dX1_markNewVariables_83 rfl hl (by decide) rfl (fun ls hl => ?_)
                    refine lv_aload_n F.1 F.2.1 dX1_markNewVariables_84 rfl (lv_at hl 1 rfl) ?_
                    refine z_get F B 5 rfl (ci := 3) (C := RX1) (T := TX1) (N := 5) rfl iX1_markNewVariables_X1 3 (by decide) fX1_markNewVariables_7 rfl dX1_markNewVariables_85 ?_
                    refine lv_iload_n F.1 F.2.1 dX1_markNewVariables_88 rfl (lv_at hl 2 rfl) ?_
                    refine lv_iload_n F.1 F.2.1 dX1_markNewVariables_89 rfl (lv_at hl 0 rfl) ?_
                    refine lv_if_eq (tgt := 97) F.1 F.2.1 dX1_markNewVariables_90 (by decide) (fun _ => ?_) (fun hq => absurd (by decide) hq)
                    refine lv_iconst (v := (nI 1)) F.1 F.2.1 dX1_markNewVariables_97 (by decide) ?_
                    refine z_iast F B 6 0 rfl rfl (j := pv + m2) (by omega) (by omega) dX1_markNewVariables_98 (fun H locs B => ?_)
                    have B : zB D (zT cI cZ cG cJ) A s.heap s [(fo, .inr (2, [.ref mo, .int (nI pv), .int (nI va), .int (nI fh), .int (nI fs), .int (nI fk), .ref lo, .ref so, .ref to])), (lo, .inr (6, [.ref la, .int (nI nl)])), (la, .inl (cI, cl, .inl fl)), (so, .inr (6, [.ref sa, .int (nI ns)])), (sa, .inl (cI, cs, .inl ft)), (fd, .inr (3, [.ref ru, .ref fo, .ref go, .ref fta, .ref fca])), (fta, .inl (cI, cta, .inl (upd f2 (pv + m2) (nI 1))))] _ _ := B
                    refine lv_iinc (v := (nI (pv + m2 + 1))) (lv' := [(1, .int (nI (pv + m2 + 1))), (3, .int (nI 0)), (0, .ref fd), (2, .int (nI j)), (4, .int (nI (zlen Cs j) - nI 3)), (5, .int (nI (i + 1)))]) F.1 F.2.1 dX1_markNewVariables_99 hl (k := 2) rfl (by rw [show Int32.ofInt 1 = nI 1 from rfl, nI_add]) (by decide) rfl (fun ls hl => ?_)
                    refine lv_iinc (v := (nI (i + 1 + 1))) (lv' := [(5, .int (nI (i + 1 + 1))), (1, .int (nI (pv + m2 + 1))), (3, .int (nI 0)), (0, .ref fd), (2, .int (nI j)), (4, .int (nI (zlen Cs j) - nI 3))]) F.1 F.2.1 dX1_markNewVariables_102 hl (k := 5) rfl (by rw [show Int32.ofInt 1 = nI 1 from rfl, nI_add]) (by decide) rfl (fun ls hl => ?_)
                    refine lv_goto (tgt := 50) F.1 F.2.1 dX1_markNewVariables_105 (by decide) ?_
                    exact ih50 (i + 1) 0 (upd f2 (pv + m2) (nI 1)) (m2 + 1) (by first | omega | (simp only [] at *; omega)) (by omega) (by decide) (hsmN) (by omega) (by rw [zrng_succ (znv1 b (Cs.getD j [])) i, ← List.append_assoc, znv1_1 (hsmN.mp rfl)]; exact zS_add hS2) _ _ _ (B.sub [5, 0, 1, 2, 3, 4, 6] rfl (rfl)) (lv_sub hl [3, 1, 4, 2, 5, 0] rfl)
          exact loop50 (zlen Cs j - 0 + 1) 0 0 f1 n1 (Nat.lt_succ_self _) (by omega) (by decide) (⟨fun _ => znoc_0.mpr (ztv_0 (Classical.not_not.mp hp0)), fun _ => rfl⟩) (hS.1.symm) (by simpa using hS) _ _ _ (B.sub [2, 4, 0, 1, 5, 6, 3] rfl (rfl)) (lv_sub hl [3, 4, 5, 2, 1, 0] rfl)
  exact loop10 (Cs.length - 0 + 1) 0 0 ftr (Nat.lt_succ_self _) (by omega) (⟨rfl, hb, fun i hi => absurd hi (Nat.not_lt_zero _)⟩) _ _ _ (B.sub [0, 1, 2, 3, 4, 5, 6] rfl (rfl)) (lv_sub hl [2, 1, 0] rfl)
