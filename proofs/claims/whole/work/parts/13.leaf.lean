/-! CONTRACTS of the leaves -/
set_option maxHeartbeats 4000000 in
set_option maxRecDepth 100000 in
theorem kX7_yes (l : Launch) (D : va_G) (cI cZ cG cJ : ClassId) (x : Nat)  : zC l yX7_yes wsX7_yes 0 0 0 0 D (zT cI cZ cG cJ) [.int (nI x)] [] (fun (v : Option Value) (w : va_W) => v = some (.int (nI (2 * x))) ∧ w = []) := by
  refine zC.of (cc := cX7_yes) (maxL := 1) (ret := (some .int)) (by decide) rfl (Nat.le_of_ble_eq_true rfl) ?_
  intro p e s m below meth c A ls F hr hlk hnm B hl
  have hl : lv_has ls 1 [(0, .int (nI x))] := hl
  refine lv_iconst (v := (nI 2)) F.1 F.2.1 dX7_yes_0 (by decide) ?_
  refine lv_iload_n F.1 F.2.1 dX7_yes_1 rfl (lv_at hl 0 rfl) ?_
  refine z_imul F dX7_yes_2 ?_
  exact z_iret F hr hlk B [] rfl rfl dX7_yes_3 (by omega) (by omega) ⟨rfl, rfl⟩
set_option maxHeartbeats 4000000 in
set_option maxRecDepth 100000 in
theorem kX7_no (l : Launch) (D : va_G) (cI cZ cG cJ : ClassId) (x : Nat)  : zC l yX7_no wsX7_no 0 0 0 0 D (zT cI cZ cG cJ) [.int (nI x)] [] (fun (v : Option Value) (w : va_W) => v = some (.int (nI (2 * x + 1))) ∧ w = []) := by
  refine zC.of (cc := cX7_no) (maxL := 1) (ret := (some .int)) (by decide) rfl (Nat.le_of_ble_eq_true rfl) ?_
  intro p e s m below meth c A ls F hr hlk hnm B hl
  have hl : lv_has ls 1 [(0, .int (nI x))] := hl
  refine lv_iconst (v := (nI 2)) F.1 F.2.1 dX7_no_0 (by decide) ?_
  refine lv_iload_n F.1 F.2.1 dX7_no_1 rfl (lv_at hl 0 rfl) ?_
  refine z_imul F dX7_no_2 ?_
  refine lv_iconst (v := (nI 1)) F.1 F.2.1 dX7_no_3 (by decide) ?_
  refine z_iadd F dX7_no_4 ?_
  exact z_iret F hr hlk B [] rfl rfl dX7_no_5 (by omega) (by omega) ⟨rfl, rfl⟩
set_option maxHeartbeats 4000000 in
set_option maxRecDepth 100000 in
theorem kX7_isIndex (l : Launch) (D : va_G) (cI cZ cG cJ : ClassId) (x : Int32) (n : Int32)  : zC l yX7_isIndex wsX7_isIndex 0 0 0 0 D (zT cI cZ cG cJ) [.int x, .int n] [] (fun (v : Option Value) (w : va_W) => ∃ r : Int32, v = some (.int r) ∧ w = [] ∧ ((r = 1 ∧ (0 ≤ x.toInt ∧ x.toInt < n.toInt)) ∨ (r = 0 ∧ ¬ (0 ≤ x.toInt ∧ x.toInt < n.toInt)))) := by
  refine zC.of (cc := cX7_isIndex) (maxL := 2) (ret := (some .boolean)) (by decide) rfl (Nat.le_of_ble_eq_true rfl) ?_
  intro p e s m below meth c A ls F hr hlk hnm B hl
  have hl : lv_has ls 2 [(0, .int x), (1, .int n)] := hl
  refine lv_iconst (v := (nI 0)) F.1 F.2.1 dX7_isIndex_0 (by decide) ?_
  refine lv_iload_n F.1 F.2.1 dX7_isIndex_1 rfl (lv_at hl 0 rfl) ?_
  refine lv_icmp_gt (tgt := 14) F.1 F.2.1 dX7_isIndex_2 (by decide) (fun c2 => ?_) (fun c2 => ?_)
  · refine lv_iconst (v := (nI 0)) F.1 F.2.1 dX7_isIndex_14 (by decide) ?_
    exact z_zret F hr hlk B (Or.inl rfl) [] rfl rfl dX7_isIndex_15 (by omega) (by omega) ⟨(nI 0), rfl, rfl, Or.inr ⟨rfl, by simp only [nI_0, Int32.lt_iff_toInt_lt, Int32.le_iff_toInt_le, Int32.toInt_zero] at *; omega⟩⟩
  · refine lv_iload_n F.1 F.2.1 dX7_isIndex_5 rfl (lv_at hl 0 rfl) ?_
    refine lv_iload_n F.1 F.2.1 dX7_isIndex_6 rfl (lv_at hl 1 rfl) ?_
    refine lv_icmp_ge (tgt := 14) F.1 F.2.1 dX7_isIndex_7 (by decide) (fun c7 => ?_) (fun c7 => ?_)
    · refine lv_iconst (v := (nI 0)) F.1 F.2.1 dX7_isIndex_14 (by decide) ?_
      exact z_zret F hr hlk B (Or.inl rfl) [] rfl rfl dX7_isIndex_15 (by omega) (by omega) ⟨(nI 0), rfl, rfl, Or.inr ⟨rfl, by simp only [nI_0, Int32.lt_iff_toInt_lt, Int32.le_iff_toInt_le, Int32.toInt_zero] at *; omega⟩⟩
    · refine lv_iconst (v := (nI 1)) F.1 F.2.1 dX7_isIndex_10 (by decide) ?_
      refine lv_goto (tgt := 15) F.1 F.2.1 dX7_isIndex_11 (by decide) ?_
      exact z_zret F hr hlk B (Or.inr rfl) [] rfl rfl dX7_isIndex_15 (by omega) (by omega) ⟨(nI 1), rfl, rfl, Or.inl ⟨rfl, by simp only [nI_0, Int32.lt_iff_toInt_lt, Int32.le_iff_toInt_le, Int32.toInt_zero] at *; omega⟩⟩
set_option maxHeartbeats 4000000 in
set_option maxRecDepth 100000 in
theorem kX7_isBetween (l : Launch) (D : va_G) (cI cZ cG cJ : ClassId) (lo : Int32) (x : Int32) (hi : Int32)  : zC l yX7_isBetween wsX7_isBetween 0 0 0 0 D (zT cI cZ cG cJ) [.int lo, .int x, .int hi] [] (fun (v : Option Value) (w : va_W) => ∃ r : Int32, v = some (.int r) ∧ w = [] ∧ ((r = 1 ∧ (lo.toInt ≤ x.toInt ∧ x.toInt ≤ hi.toInt)) ∨ (r = 0 ∧ ¬ (lo.toInt ≤ x.toInt ∧ x.toInt ≤ hi.toInt)))) := by
  refine zC.of (cc := cX7_isBetween) (maxL := 3) (ret := (some .boolean)) (by decide) rfl (Nat.le_of_ble_eq_true rfl) ?_
  intro p e s m below meth c A ls F hr hlk hnm B hl
  have hl : lv_has ls 3 [(0, .int lo), (1, .int x), (2, .int hi)] := hl
  refine lv_iload_n F.1 F.2.1 dX7_isBetween_0 rfl (lv_at hl 0 rfl) ?_
  refine lv_iload_n F.1 F.2.1 dX7_isBetween_1 rfl (lv_at hl 1 rfl) ?_
  refine lv_icmp_gt (tgt := 14) F.1 F.2.1 dX7_isBetween_2 (by decide) (fun c2 => ?_) (fun c2 => ?_)
  · refine lv_iconst (v := (nI 0)) F.1 F.2.1 dX7_isBetween_14 (by decide) ?_
    exact z_zret F hr hlk B (Or.inl rfl) [] rfl rfl dX7_isBetween_15 (by omega) (by omega) ⟨(nI 0), rfl, rfl, Or.inr ⟨rfl, by simp only [nI_0, Int32.lt_iff_toInt_lt, Int32.le_iff_toInt_le, Int32.toInt_zero] at *; omega⟩⟩
  · refine lv_iload_n F.1 F.2.1 dX7_isBetween_5 rfl (lv_at hl 1 rfl) ?_
    refine lv_iload_n F.1 F.2.1 dX7_isBetween_6 rfl (lv_at hl 2 rfl) ?_
    refine lv_icmp_gt (tgt := 14) F.1 F.2.1 dX7_isBetween_7 (by decide) (fun c7 => ?_) (fun c7 => ?_)
    · refine lv_iconst (v := (nI 0)) F.1 F.2.1 dX7_isBetween_14 (by decide) ?_
      exact z_zret F hr hlk B (Or.inl rfl) [] rfl rfl dX7_isBetween_15 (by omega) (by omega) ⟨(nI 0), rfl, rfl, Or.inr ⟨rfl, by simp only [nI_0, Int32.lt_iff_toInt_lt, Int32.le_iff_toInt_le, Int32.toInt_zero] at *; omega⟩⟩
    · refine lv_iconst (v := (nI 1)) F.1 F.2.1 dX7_isBetween_10 (by decide) ?_
      refine lv_goto (tgt := 15) F.1 F.2.1 dX7_isBetween_11 (by decide) ?_
      exact z_zret F hr hlk B (Or.inr rfl) [] rfl rfl dX7_isBetween_15 (by omega) (by omega) ⟨(nI 1), rfl, rfl, Or.inl ⟨rfl, by simp only [nI_0, Int32.lt_iff_toInt_lt, Int32.le_iff_toInt_le, Int32.toInt_zero] at *; omega⟩⟩
theorem iX3_cells_X3 : ∀ w ∈ u_ws RX3 TX3 10, w ∈ wsX3_cells := by decide +kernel
theorem fX3_cells_37 : Cond.fieldLink RX3 37 "TourChain$Machine" "bound" "I" ∈ wsX3_cells := by decide +kernel
set_option maxHeartbeats 4000000 in
set_option maxRecDepth 100000 in
theorem kX3_cells (l : Launch) (D : va_G) (cI cZ cG cJ : ClassId) (mo : Nat) (q : Nat) (g : Nat) (t : Nat) (r : Nat) (af : Nat) (ar : Nat) (at_ : Nat) (aw : Nat) (am : Nat) (ap : Nat)  : zC l yX3_cells wsX3_cells 0 0 0 0 D (zT cI cZ cG cJ) [.ref mo] [(mo, .inr (5, [.int (nI q), .int (nI g), .int (nI t), .int (nI r), .ref af, .ref ar, .ref at_, .ref aw, .ref am, .ref ap]))] (fun (v : Option Value) (w : va_W) => v = some (.int (nI (t + 1))) ∧ w = [(mo, .inr (5, [.int (nI q), .int (nI g), .int (nI t), .int (nI r), .ref af, .ref ar, .ref at_, .ref aw, .ref am, .ref ap]))]) := by
  refine zC.of (cc := cX3_cells) (maxL := 1) (ret := (some .int)) (by decide) rfl (Nat.le_of_ble_eq_true rfl) ?_
  intro p e s m below meth c A ls F hr hlk hnm B hl
  have hl : lv_has ls 1 [(0, .ref mo)] := hl
  refine lv_aload_n F.1 F.2.1 dX3_cells_0 rfl (lv_at hl 0 rfl) ?_
  refine z_get F B 0 rfl (ci := 5) (C := RX3) (T := TX3) (N := 10) rfl iX3_cells_X3 2 (by decide) fX3_cells_37 rfl dX3_cells_1 ?_
  refine lv_iconst (v := (nI 1)) F.1 F.2.1 dX3_cells_4 (by decide) ?_
  refine z_iadd F dX3_cells_5 ?_
  exact z_iret F hr hlk B [0] rfl rfl dX3_cells_6 (by omega) (by omega) ⟨rfl, rfl⟩
theorem iX3_rows_X3 : ∀ w ∈ u_ws RX3 TX3 10, w ∈ wsX3_rows := by decide +kernel
theorem fX3_rows_37 : Cond.fieldLink RX3 37 "TourChain$Machine" "bound" "I" ∈ wsX3_rows := by decide +kernel
set_option maxHeartbeats 4000000 in
set_option maxRecDepth 100000 in
theorem kX3_rows (l : Launch) (D : va_G) (cI cZ cG cJ : ClassId) (mo : Nat) (q : Nat) (g : Nat) (t : Nat) (r : Nat) (af : Nat) (ar : Nat) (at_ : Nat) (aw : Nat) (am : Nat) (ap : Nat)  : zC l yX3_rows wsX3_rows 0 0 0 0 D (zT cI cZ cG cJ) [.ref mo] [(mo, .inr (5, [.int (nI q), .int (nI g), .int (nI t), .int (nI r), .ref af, .ref ar, .ref at_, .ref aw, .ref am, .ref ap]))] (fun (v : Option Value) (w : va_W) => v = some (.int (nI (t + 1))) ∧ w = [(mo, .inr (5, [.int (nI q), .int (nI g), .int (nI t), .int (nI r), .ref af, .ref ar, .ref at_, .ref aw, .ref am, .ref ap]))]) := by
  refine zC.of (cc := cX3_rows) (maxL := 1) (ret := (some .int)) (by decide) rfl (Nat.le_of_ble_eq_true rfl) ?_
  intro p e s m below meth c A ls F hr hlk hnm B hl
  have hl : lv_has ls 1 [(0, .ref mo)] := hl
  refine lv_aload_n F.1 F.2.1 dX3_rows_0 rfl (lv_at hl 0 rfl) ?_
  refine z_get F B 0 rfl (ci := 5) (C := RX3) (T := TX3) (N := 10) rfl iX3_rows_X3 2 (by decide) fX3_rows_37 rfl dX3_rows_1 ?_
  refine lv_iconst (v := (nI 1)) F.1 F.2.1 dX3_rows_4 (by decide) ?_
  refine z_iadd F dX3_rows_5 ?_
  exact z_iret F hr hlk B [0] rfl rfl dX3_rows_6 (by omega) (by omega) ⟨rfl, rfl⟩
theorem iX3_accept_X3 : ∀ w ∈ u_ws RX3 TX3 10, w ∈ wsX3_accept := by decide +kernel
theorem fX3_accept_30 : Cond.fieldLink RX3 30 "TourChain$Machine" "states" "I" ∈ wsX3_accept := by decide +kernel
set_option maxHeartbeats 4000000 in
set_option maxRecDepth 100000 in
theorem kX3_accept (l : Launch) (D : va_G) (cI cZ cG cJ : ClassId) (mo : Nat) (q : Nat) (g : Nat) (t : Nat) (r : Nat) (af : Nat) (ar : Nat) (at_ : Nat) (aw : Nat) (am : Nat) (ap : Nat) (hq : 1 ≤ q) : zC l yX3_accept wsX3_accept 0 0 0 0 D (zT cI cZ cG cJ) [.ref mo] [(mo, .inr (5, [.int (nI q), .int (nI g), .int (nI t), .int (nI r), .ref af, .ref ar, .ref at_, .ref aw, .ref am, .ref ap]))] (fun (v : Option Value) (w : va_W) => v = some (.int (nI (q - 1))) ∧ w = [(mo, .inr (5, [.int (nI q), .int (nI g), .int (nI t), .int (nI r), .ref af, .ref ar, .ref at_, .ref aw, .ref am, .ref ap]))]) := by
  refine zC.of (cc := cX3_accept) (maxL := 1) (ret := (some .int)) (by decide) rfl (Nat.le_of_ble_eq_true rfl) ?_
  intro p e s m below meth c A ls F hr hlk hnm B hl
  have hl : lv_has ls 1 [(0, .ref mo)] := hl
  refine lv_aload_n F.1 F.2.1 dX3_accept_0 rfl (lv_at hl 0 rfl) ?_
  refine z_get F B 0 rfl (ci := 5) (C := RX3) (T := TX3) (N := 10) rfl iX3_accept_X3 0 (by decide) fX3_accept_30 rfl dX3_accept_1 ?_
  refine lv_iconst (v := (nI 1)) F.1 F.2.1 dX3_accept_4 (by decide) ?_
  refine z_isub F (by omega) dX3_accept_5 ?_
  exact z_iret F hr hlk B [0] rfl rfl dX3_accept_6 (by omega) (by omega) ⟨rfl, rfl⟩
theorem mJ7_copyOf_59c91_arr : Cond.arrayClass .int ∈ wsJ7_copyOf_59c91 := by decide +kernel
theorem mJ7_copyOf_59c91_min1 : Cond.methodLink RJ7 304 Lib.Math.min.name ∈ wsJ7_copyOf_59c91 := by decide +kernel
theorem mJ7_copyOf_59c91_min2 : Cond.static Lib.Math.min.name ∈ wsJ7_copyOf_59c91 := by decide +kernel
theorem mJ7_copyOf_59c91_min3 : Cond.initialized "java/lang/Math" ∈ wsJ7_copyOf_59c91 := by decide +kernel
theorem mJ7_copyOf_59c91_min4 : Cond.code Lib.Math.min.name Lib.Math.min.code 2 (some .int) ∈ wsJ7_copyOf_59c91 := by decide +kernel
theorem mJ7_copyOf_59c91_ac1 : Cond.methodLink RJ7 150 arraycopyName ∈ wsJ7_copyOf_59c91 := by decide +kernel
theorem mJ7_copyOf_59c91_ac2 : Cond.native arraycopyName ∈ wsJ7_copyOf_59c91 := by decide +kernel
theorem mJ7_copyOf_59c91_ac3 : Cond.static arraycopyName ∈ wsJ7_copyOf_59c91 := by decide +kernel
theorem mJ7_copyOf_59c91_ac4 : Cond.initialized "java/lang/System" ∈ wsJ7_copyOf_59c91 := by decide +kernel
set_option maxHeartbeats 4000000 in
set_option maxRecDepth 100000 in
theorem kJ7_copyOf_59c91 (l : Launch) (D : va_G) (cI cZ cG cJ : ClassId) (a : Nat) (n : Nat) (k : Nat) (f : Nat → Int32) (hm : ¬ k = n) (hn : n < 2 ^ 31) (hm2 : k ≤ 134217728) : zC l yJ7_copyOf_59c91 wsJ7_copyOf_59c91 1 40 1 k D (zT cI cZ cG cJ) [.ref a, .int (nI k)] [(a, .inl (cI, n, .inl f))] (fun (v : Option Value) (w : va_W) => ∃ q : Nat, v = some (.ref q) ∧ w = [(a, .inl (cI, n, .inl f)), (q, .inl (cI, k, .inl (va_cpy f (fun _ => 0) 0 0 (Nat.min n k))))]) := by
  refine zC.of (cc := cJ7_copyOf_59c91) (maxL := 3) (ret := (some (.array .int))) (by decide) rfl (Nat.le_of_ble_eq_true rfl) ?_
  intro p e s m below meth c A ls F hr hlk hnm B hl
  have hl : lv_has ls 3 [(0, .ref a), (1, .int (nI k))] := hl
  refine lv_iload_n F.1 F.2.1 dJ7_copyOf_59c91_0 rfl (lv_at hl 1 rfl) ?_
  refine lv_aload_n F.1 F.2.1 dJ7_copyOf_59c91_1 rfl (lv_at hl 0 rfl) ?_
  refine z_alen F B 0 0 rfl rfl dJ7_copyOf_59c91_2 ?_
  refine z_icmp_ne (tgt := 14) F (by omega) (by omega) dJ7_copyOf_59c91_3 (by decide) (fun c3 => ?_) (fun c3 => ?_)
  · have hmin1 : Nat.min n k ≤ n := Nat.min_le_left _ _
    have hmin2 : Nat.min n k ≤ k := Nat.min_le_right _ _
    refine lv_iload_n F.1 F.2.1 dJ7_copyOf_59c91_14 rfl (lv_at hl 1 rfl) ?_
    refine z_newi F B 0 rfl mJ7_copyOf_59c91_arr (n := k) (by omega) (show 0 + 1 ≤ 1 by omega) (show 0 + k ≤ k by omega) dJ7_copyOf_59c91_15 (fun q_1 H B => ?_)
    have B : zB D (zT cI cZ cG cJ) A s.heap s [(a, .inl (cI, n, .inl f)), (q_1, .inl (cI, k, .inl (fun _ => 0)))] _ _ := B
    refine lv_astore_n (lv' := [(2, .ref q_1), (0, .ref a), (1, .int (nI k))]) F.1 F.2.1 dJ7_copyOf_59c91_17 rfl hl (by decide) rfl (fun ls hl => ?_)
    refine lv_aload_n F.1 F.2.1 dJ7_copyOf_59c91_18 rfl (lv_at hl 1 rfl) ?_
    refine lv_iconst (v := (nI 0)) F.1 F.2.1 dJ7_copyOf_59c91_19 (by decide) ?_
    refine lv_aload_n F.1 F.2.1 dJ7_copyOf_59c91_20 rfl (lv_at hl 0 rfl) ?_
    refine lv_iconst (v := (nI 0)) F.1 F.2.1 dJ7_copyOf_59c91_21 (by decide) ?_
    refine lv_aload_n F.1 F.2.1 dJ7_copyOf_59c91_22 rfl (lv_at hl 1 rfl) ?_
    refine z_alen F B 0 0 rfl rfl dJ7_copyOf_59c91_23 ?_
    refine lv_iload_n F.1 F.2.1 dJ7_copyOf_59c91_24 rfl (lv_at hl 2 rfl) ?_
    refine z_min F hl.1 mJ7_copyOf_59c91_min1 mJ7_copyOf_59c91_min2 mJ7_copyOf_59c91_min3 mJ7_copyOf_59c91_min4 (Nat.le_of_ble_eq_true rfl) (Nat.le_of_ble_eq_true rfl) (show 1 ≤ 1 by omega) (show 0 + k ≤ k by omega) (by omega) (by omega) dJ7_copyOf_59c91_25 ?_
    refine W.eq (g2 := F0 m 28 ls [.int (nI (Nat.min n k)), .int (nI 0), .ref q_1, .int (nI 0), .ref a]) rfl ?_
    refine z_copy F B hl.1 mJ7_copyOf_59c91_ac1 mJ7_copyOf_59c91_ac2 mJ7_copyOf_59c91_ac3 mJ7_copyOf_59c91_ac4 (q0 := 0) (q1 := 1) rfl rfl rfl (by omega) (by omega) (by omega) (by omega) (Nat.le_of_ble_eq_true rfl) (Nat.le_of_ble_eq_true rfl) dJ7_copyOf_59c91_28 (fun H locs B => ?_)
    have B : zB D (zT cI cZ cG cJ) A s.heap s [(a, .inl (cI, n, .inl f)), (q_1, .inl (cI, k, .inl (va_cpy f (fun _ => 0) 0 0 (Nat.min n k))))] _ _ := B
    refine W.eq (g2 := F0 m 31 ls []) rfl ?_
    refine lv_aload_n F.1 F.2.1 dJ7_copyOf_59c91_31 rfl (lv_at hl 0 rfl) ?_
    exact z_aret F hr (Or.inr ⟨_, rfl⟩) hlk B [0, 1] rfl rfl dJ7_copyOf_59c91_32 (by omega) (by omega) ⟨q_1, rfl, rfl⟩
  · exact absurd c3 hm
theorem iX4_add_X4 : ∀ w ∈ u_ws RX4 TX4 2, w ∈ wsX4_add := by decide +kernel
theorem fX4_add_13 : Cond.fieldLink RX4 13 "TourChain$Row" "size" "I" ∈ wsX4_add := by decide +kernel
theorem fX4_add_7 : Cond.fieldLink RX4 7 "TourChain$Row" "items" "[I" ∈ wsX4_add := by decide +kernel
theorem yX4_add_J7_copyOf_59c91 : yJ7_copyOf_59c91.cls ≠ "java/lang/invoke/MethodHandle" ∧ yJ7_copyOf_59c91.cls ≠ "java/lang/invoke/VarHandle" ∧ (parseMethodDescriptor yJ7_copyOf_59c91.desc).map (fun d => d.parameters.length) = some 2 := by decide +kernel
set_option maxHeartbeats 4000000 in
set_option maxRecDepth 100000 in
theorem kX4_add (l : Launch) (D : va_G) (cI cZ cG cJ : ClassId) (h : Nat) (a : Nat) (n : Nat) (cap : Nat) (f : Nat → Int32) (L : List Nat) (x : Nat) (hf : zR f n L) (hw : zW n cap) (hb : n + 1 ≤ 8192) : zC l yX4_add wsX4_add 2 62 (zcap (n + 1) cap - cap) (2 * ((zcap (n + 1) cap - cap))) D (zT cI cZ cG cJ) [.ref h, .int (nI x)] [(h, .inr (6, [.ref a, .int (nI n)])), (a, .inl (cI, cap, .inl f))] (fun (v : Option Value) (w : va_W) => ∃ a' : Nat, ∃ f' : Nat → Int32, ∃ c' : Nat, v = none ∧ w = [(h, .inr (6, [.ref a', .int (nI (n + 1))])), (a', .inl (cI, c', .inl f'))] ∧ zX n cap (n + 1) c' ∧ zR f' (n + 1) (L ++ [x])) := by
  refine zC.of (cc := cX4_add) (maxL := 2) (ret := none) (by decide) rfl (Nat.le_of_ble_eq_true rfl) ?_
  intro p e s m below meth c A ls F hr hlk hnm B hl
  have hl : lv_has ls 2 [(0, .ref h), (1, .int (nI x))] := hl
  have hw1 := hw.1; have hw2 := hw.2.1; have hw3 := hw.2.2
  refine lv_aload_n F.1 F.2.1 dX4_add_0 rfl (lv_at hl 0 rfl) ?_
  refine z_get F B 0 rfl (ci := 6) (C := RX4) (T := TX4) (N := 2) rfl iX4_add_X4 1 (by decide) fX4_add_13 rfl dX4_add_1 ?_
  refine lv_aload_n F.1 F.2.1 dX4_add_4 rfl (lv_at hl 0 rfl) ?_
  refine z_get F B 0 rfl (ci := 6) (C := RX4) (T := TX4) (N := 2) rfl iX4_add_X4 0 (by decide) fX4_add_7 rfl dX4_add_5 ?_
  refine z_alen F B 1 0 rfl rfl dX4_add_8 ?_
  refine z_icmp_ne (tgt := 29) F (by omega) (by omega) dX4_add_9 (by decide) (fun c9 => ?_) (fun c9 => ?_)
  · have hz : zcap (n + 1) cap = cap := zcap_id (by omega)
    refine lv_aload_n F.1 F.2.1 dX4_add_29 rfl (lv_at hl 0 rfl) ?_
    refine z_get F B 0 rfl (ci := 6) (C := RX4) (T := TX4) (N := 2) rfl iX4_add_X4 0 (by decide) fX4_add_7 rfl dX4_add_30 ?_
    refine lv_aload_n F.1 F.2.1 dX4_add_33 rfl (lv_at hl 0 rfl) ?_
    refine z_get F B 0 rfl (ci := 6) (C := RX4) (T := TX4) (N := 2) rfl iX4_add_X4 1 (by decide) fX4_add_13 rfl dX4_add_34 ?_
    refine lv_iload_n F.1 F.2.1 dX4_add_37 rfl (lv_at hl 1 rfl) ?_
    refine z_iast F B 1 0 rfl rfl (j := n) (by omega) (by omega) dX4_add_38 (fun H locs B => ?_)
    have B : zB D (zT cI cZ cG cJ) A s.heap s [(h, .inr (6, [.ref a, .int (nI n)])), (a, .inl (cI, cap, .inl (upd f n (nI x))))] _ _ := B
    refine lv_aload_n F.1 F.2.1 dX4_add_39 rfl (lv_at hl 0 rfl) ?_
    refine lv_dup F.1 F.2.1 dX4_add_40 rfl ?_
    refine z_get F B 0 rfl (ci := 6) (C := RX4) (T := TX4) (N := 2) rfl iX4_add_X4 1 (by decide) fX4_add_13 rfl dX4_add_41 ?_
    refine lv_iconst (v := (nI 1)) F.1 F.2.1 dX4_add_44 (by decide) ?_
    refine z_iadd F dX4_add_45 ?_
    refine z_put F B 0 rfl (ci := 6) (C := RX4) (T := TX4) (N := 2) rfl iX4_add_X4 tyX4 tyX4_ok nmX4 1 (by decide) fX4_add_13 rfl (v := .int (nI (n + 1))) rfl rfl (Nat.le_of_ble_eq_true rfl) dX4_add_46 (fun H locs B => ?_)
    have B : zB D (zT cI cZ cG cJ) A s.heap s [(h, .inr (6, [.ref a, .int (nI (n + 1))])), (a, .inl (cI, cap, .inl (upd f n (nI x))))] _ _ := B
    exact z_vret F hr hlk B [0, 1] rfl (rfl) dX4_add_49 (by omega) (by omega) ⟨a, (upd f n (nI x)), cap, rfl, rfl, (by have q := zX_add hw hb; rw [hz] at q; exact q), (zR_add hf (fun i hi => by rw [pk_un (by omega)]) pk_us)⟩
  · have hz : zcap (n + 1) cap = 2 * cap := by rw [zcap_st (by omega) (by omega), zcap_id (by omega)]
    have hmin : Nat.min cap (2 * n) = cap := Nat.min_eq_left (by omega)
    refine lv_aload_n F.1 F.2.1 dX4_add_12 rfl (lv_at hl 0 rfl) ?_
    refine lv_aload_n F.1 F.2.1 dX4_add_13 rfl (lv_at hl 0 rfl) ?_
    refine z_get F B 0 rfl (ci := 6) (C := RX4) (T := TX4) (N := 2) rfl iX4_add_X4 0 (by decide) fX4_add_7 rfl dX4_add_14 ?_
    refine lv_iconst (v := (nI 2)) F.1 F.2.1 dX4_add_17 (by decide) ?_
    refine lv_aload_n F.1 F.2.1 dX4_add_18 rfl (lv_at hl 0 rfl) ?_
    refine z_get F B 0 rfl (ci := 6) (C := RX4) (T := TX4) (N := 2) rfl iX4_add_X4 1 (by decide) fX4_add_13 rfl dX4_add_19 ?_
    refine z_imul F dX4_add_22 ?_
    refine z_callSJ (wr := [(h, .inr (6, [.ref a, .int (nI n)]))]) (rest := [.ref h]) (As := [.ref a, .int (nI (2 * n))]) F B (kJ7_copyOf_59c91 l D cI cZ cG cJ a cap (2 * n) f (by omega) (by omega) (by omega)) hl.1 gX4_add_J7_copyOf_59c91 rfl 2 yX4_add_J7_copyOf_59c91 rfl [1] [0] rfl rfl rfl rfl (by decide) (Nat.le_of_ble_eq_true rfl) (Nat.le_of_ble_eq_true rfl) (Nat.le_of_ble_eq_true rfl) rfl dX4_add_23 (show 0 + 1 ≤ (zcap (n + 1) cap - cap) by omega) (show 0 + (2 * n) ≤ 2 * ((zcap (n + 1) cap - cap)) by omega) (fun vv ww H locs hRR B => ?_)
    obtain ⟨q_1, rfl, rfl⟩ := hRR
    have B : zB D (zT cI cZ cG cJ) A s.heap s [(h, .inr (6, [.ref a, .int (nI n)])), (a, .inl (cI, cap, .inl f)), (q_1, .inl (cI, (2 * n), .inl (va_cpy f (fun _ => 0) 0 0 (Nat.min cap (2 * n)))))] _ _ := B
    refine W.eq (g2 := F0 m 26 ls [.ref q_1, .ref h]) rfl ?_
    refine z_put F B 0 rfl (ci := 6) (C := RX4) (T := TX4) (N := 2) rfl iX4_add_X4 tyX4 tyX4_ok nmX4 0 (by decide) fX4_add_7 rfl (v := .ref q_1) rfl rfl (Nat.le_of_ble_eq_true rfl) dX4_add_26 (fun H locs B => ?_)
    have B : zB D (zT cI cZ cG cJ) A s.heap s [(h, .inr (6, [.ref q_1, .int (nI n)])), (a, .inl (cI, cap, .inl f)), (q_1, .inl (cI, (2 * n), .inl (va_cpy f (fun _ => 0) 0 0 (Nat.min cap (2 * n)))))] _ _ := B
    refine lv_aload_n F.1 F.2.1 dX4_add_29 rfl (lv_at hl 0 rfl) ?_
    refine z_get F B 0 rfl (ci := 6) (C := RX4) (T := TX4) (N := 2) rfl iX4_add_X4 0 (by decide) fX4_add_7 rfl dX4_add_30 ?_
    refine lv_aload_n F.1 F.2.1 dX4_add_33 rfl (lv_at hl 0 rfl) ?_
    refine z_get F B 0 rfl (ci := 6) (C := RX4) (T := TX4) (N := 2) rfl iX4_add_X4 1 (by decide) fX4_add_13 rfl dX4_add_34 ?_
    refine lv_iload_n F.1 F.2.1 dX4_add_37 rfl (lv_at hl 1 rfl) ?_
    refine z_iast F B 2 0 rfl rfl (j := n) (by omega) (by omega) dX4_add_38 (fun H locs B => ?_)
    have B : zB D (zT cI cZ cG cJ) A s.heap s [(h, .inr (6, [.ref q_1, .int (nI n)])), (a, .inl (cI, cap, .inl f)), (q_1, .inl (cI, (2 * n), .inl (upd (va_cpy f (fun _ => 0) 0 0 (Nat.min cap (2 * n))) n (nI x))))] _ _ := B
    refine lv_aload_n F.1 F.2.1 dX4_add_39 rfl (lv_at hl 0 rfl) ?_
    refine lv_dup F.1 F.2.1 dX4_add_40 rfl ?_
    refine z_get F B 0 rfl (ci := 6) (C := RX4) (T := TX4) (N := 2) rfl iX4_add_X4 1 (by decide) fX4_add_13 rfl dX4_add_41 ?_
    refine lv_iconst (v := (nI 1)) F.1 F.2.1 dX4_add_44 (by decide) ?_
    refine z_iadd F dX4_add_45 ?_
    refine z_put F B 0 rfl (ci := 6) (C := RX4) (T := TX4) (N := 2) rfl iX4_add_X4 tyX4 tyX4_ok nmX4 1 (by decide) fX4_add_13 rfl (v := .int (nI (n + 1))) rfl rfl (Nat.le_of_ble_eq_true rfl) dX4_add_46 (fun H locs B => ?_)
    have B : zB D (zT cI cZ cG cJ) A s.heap s [(h, .inr (6, [.ref q_1, .int (nI (n + 1))])), (a, .inl (cI, cap, .inl f)), (q_1, .inl (cI, (2 * n), .inl (upd (va_cpy f (fun _ => 0) 0 0 (Nat.min cap (2 * n))) n (nI x))))] _ _ := B
    exact z_vret F hr hlk B [0, 2] rfl (rfl) dX4_add_49 (by omega) (by omega) ⟨q_1, (upd (va_cpy f (fun _ => 0) 0 0 (Nat.min cap (2 * n))) n (nI x)), (2 * n), rfl, rfl, (by have q := zX_add hw hb; rw [hz] at q; rw [show 2 * n = 2 * cap by omega]; exact q), (zR_add hf (fun i hi => by rw [pk_un (by omega), pk_cpy_in (by omega) (by omega)]; congr 1; omega) pk_us)⟩
