/-! CONTRACTS of the reference: thrown, in, unbuild, machine, rule, input, numbers, is, not, close -/
/-- the fields of the reference -/
def zmo (th q g t r mb nc nl pv va n3 ve ed se ci mr mt ld : Int32) (A8 : Nat → Nat) : List Value := .int th :: .int q :: .int g :: .int t :: .int r :: .ref (A8 0) :: .ref (A8 1) :: .ref (A8 2) :: .ref (A8 3) :: .ref (A8 4) :: .ref (A8 5) :: .int mb :: .int nc :: .int nl :: .int pv :: .int va :: .int n3 :: .ref (A8 6) :: .ref (A8 7) :: .ref (A8 8) :: .int ve :: .int ed :: .int se :: .int ci :: .ref (A8 9) :: .ref (A8 10) :: .ref (A8 11) :: .int mr :: .int mt :: .ref (A8 12) :: .ref (A8 13) :: .ref (A8 14) :: .ref (A8 15) :: .ref (A8 16) :: .ref (A8 17) :: .ref (A8 18) :: .int ld :: []
theorem iX8_thrown_X8 : ∀ w ∈ u_ws RX8 TX8 37, w ∈ wsX8_thrown := fun w h => List.mem_cons_of_mem _ (List.mem_append_right _ h)
theorem fX8_thrown_79 : Cond.fieldLink RX8 79 "TourChainModel" "thrown" "I" ∈ wsX8_thrown := by decide +kernel
set_option maxHeartbeats 4000000 in
set_option maxRecDepth 100000 in
theorem kX8_thrown (l : Launch) (D : va_G) (cI cZ cG cJ : ClassId) (mm : Nat) (th : Nat) (q : Nat) (g : Nat) (t : Nat) (r : Nat) (mb : Nat) (nc : Nat) (nl : Nat) (pv : Nat) (va : Nat) (n3 : Nat) (ve : Nat) (ed : Nat) (se : Nat) (ci : Nat) (mr : Nat) (mt : Nat) (ld : Nat) (A8 : Nat → Nat)  : zC l yX8_thrown wsX8_thrown 0 0 0 0 D (zT cI cZ cG cJ) [.ref mm] [(mm, .inr (10, zmo (nI th) (nI q) (nI g) (nI t) (nI r) (nI mb) (nI nc) (nI nl) (nI pv) (nI va) (nI n3) (nI ve) (nI ed) (nI se) (nI ci) (nI mr) (nI mt) (nI ld) A8))] (fun (ov : Option Value) (ow : va_W) => ov = some (.int (nI th)) ∧ ow = [(mm, .inr (10, zmo (nI th) (nI q) (nI g) (nI t) (nI r) (nI mb) (nI nc) (nI nl) (nI pv) (nI va) (nI n3) (nI ve) (nI ed) (nI se) (nI ci) (nI mr) (nI mt) (nI ld) A8))]) := by
  refine zC.of (cc := cX8_thrown) (maxL := 1) (ret := (some .int)) (by decide) rfl (Nat.le_of_ble_eq_true rfl) ?_
  intro p e s m below meth c A ls F hr hlk hnm B hl
  have hl : lv_has ls 1 [(0, .ref mm)] := hl
  refine lv_aload_n F.1 F.2.1 dX8_thrown_0 rfl (lv_at hl 0 rfl) ?_
  refine z_get F B 0 rfl (ci := 10) (C := RX8) (T := TX8) (N := 37) rfl iX8_thrown_X8 0 (by decide) fX8_thrown_79 rfl dX8_thrown_1 ?_
  exact z_iret F hr hlk B [0] rfl (rfl) dX8_thrown_4 (by omega) (by omega) ⟨rfl, rfl⟩
set_option maxHeartbeats 4000000 in
set_option maxRecDepth 100000 in
theorem kX8_in (l : Launch) (D : va_G) (cI cZ cG cJ : ClassId) (v : Int32) (lo : Int32) (hi : Int32)  : zC l yX8_in wsX8_in 0 0 0 0 D (zT cI cZ cG cJ) [.int v, .int lo, .int hi] [] (fun (ov : Option Value) (ow : va_W) => ∃ rb : Int32, ov = some (.int rb) ∧ ow = [] ∧ ((rb = 1 ∧ (lo.toInt ≤ v.toInt ∧ v.toInt ≤ hi.toInt)) ∨ (rb = 0 ∧ ¬ (lo.toInt ≤ v.toInt ∧ v.toInt ≤ hi.toInt)))) := by
  refine zC.of (cc := cX8_in) (maxL := 3) (ret := (some .boolean)) (by decide) rfl (Nat.le_of_ble_eq_true rfl) ?_
  intro p e s m below meth c A ls F hr hlk hnm B hl
  have hl : lv_has ls 3 [(0, .int v), (1, .int lo), (2, .int hi)] := hl
  refine lv_iload_n F.1 F.2.1 dX8_in_0 rfl (lv_at hl 0 rfl) ?_
  refine lv_iload_n F.1 F.2.1 dX8_in_1 rfl (lv_at hl 1 rfl) ?_
  refine lv_icmp_lt (tgt := 14) F.1 F.2.1 dX8_in_2 (by decide) (fun c2 => ?_) (fun c2 => ?_)
  · refine lv_iconst (v := (nI 0)) F.1 F.2.1 dX8_in_14 (by decide) ?_
    exact z_zret F hr hlk B (Or.inl rfl) [] rfl (rfl) dX8_in_15 (by omega) (by omega) ⟨(nI 0), rfl, rfl, Or.inr ⟨rfl, by simp only [nI_0, Int32.lt_iff_toInt_lt, Int32.le_iff_toInt_le, Int32.toInt_zero] at *; omega⟩⟩
  · refine lv_iload_n F.1 F.2.1 dX8_in_5 rfl (lv_at hl 0 rfl) ?_
    refine lv_iload_n F.1 F.2.1 dX8_in_6 rfl (lv_at hl 2 rfl) ?_
    refine lv_icmp_gt (tgt := 14) F.1 F.2.1 dX8_in_7 (by decide) (fun c7 => ?_) (fun c7 => ?_)
    · refine lv_iconst (v := (nI 0)) F.1 F.2.1 dX8_in_14 (by decide) ?_
      exact z_zret F hr hlk B (Or.inl rfl) [] rfl (rfl) dX8_in_15 (by omega) (by omega) ⟨(nI 0), rfl, rfl, Or.inr ⟨rfl, by simp only [nI_0, Int32.lt_iff_toInt_lt, Int32.le_iff_toInt_le, Int32.toInt_zero] at *; omega⟩⟩
    · refine lv_iconst (v := (nI 1)) F.1 F.2.1 dX8_in_10 (by decide) ?_
      refine lv_goto (tgt := 15) F.1 F.2.1 dX8_in_11 (by decide) ?_
      exact z_zret F hr hlk B (Or.inr rfl) [] rfl (rfl) dX8_in_15 (by omega) (by omega) ⟨(nI 1), rfl, rfl, Or.inl ⟨rfl, by simp only [nI_0, Int32.lt_iff_toInt_lt, Int32.le_iff_toInt_le, Int32.toInt_zero] at *; omega⟩⟩
theorem iX8_unbuild_X8 : ∀ w ∈ u_ws RX8 TX8 37, w ∈ wsX8_unbuild := fun w h => List.mem_cons_of_mem _ (List.mem_append_right _ h)
theorem fX8_unbuild_82 : Cond.fieldLink RX8 82 "TourChainModel" "built" "Z" ∈ wsX8_unbuild := by decide +kernel
theorem fX8_unbuild_86 : Cond.fieldLink RX8 86 "TourChainModel" "hasRun" "Z" ∈ wsX8_unbuild := by decide +kernel
theorem fX8_unbuild_89 : Cond.fieldLink RX8 89 "TourChainModel" "hasTrip" "Z" ∈ wsX8_unbuild := by decide +kernel
set_option maxHeartbeats 4000000 in
set_option maxRecDepth 100000 in
theorem kX8_unbuild (l : Launch) (D : va_G) (cI cZ cG cJ : ClassId) (mm : Nat) (th : Nat) (q : Nat) (g : Nat) (t : Nat) (r : Nat) (mb : Nat) (nc : Nat) (nl : Nat) (pv : Nat) (va : Nat) (n3 : Nat) (ve : Nat) (ed : Nat) (se : Nat) (ci : Nat) (mr : Nat) (mt : Nat) (ld : Nat) (A8 : Nat → Nat)  : zC l yX8_unbuild wsX8_unbuild 0 0 0 0 D (zT cI cZ cG cJ) [.ref mm] [(mm, .inr (10, zmo (nI th) (nI q) (nI g) (nI t) (nI r) (nI mb) (nI nc) (nI nl) (nI pv) (nI va) (nI n3) (nI ve) (nI ed) (nI se) (nI ci) (nI mr) (nI mt) (nI ld) A8))] (fun (ov : Option Value) (ow : va_W) => ov = none ∧ ow = [(mm, .inr (10, zmo (nI th) (nI q) (nI g) (nI t) (nI r) (nI 0) (nI nc) (nI nl) (nI pv) (nI va) (nI n3) (nI ve) (nI ed) (nI se) (nI ci) (nI 0) (nI 0) (nI ld) A8))]) := by
  refine zC.of (cc := cX8_unbuild) (maxL := 1) (ret := none) (by decide) rfl (Nat.le_of_ble_eq_true rfl) ?_
  intro p e s m below meth c A ls F hr hlk hnm B hl
  have hl : lv_has ls 1 [(0, .ref mm)] := hl
  refine lv_aload_n F.1 F.2.1 dX8_unbuild_0 rfl (lv_at hl 0 rfl) ?_
  refine lv_iconst (v := (nI 0)) F.1 F.2.1 dX8_unbuild_1 (by decide) ?_
  refine z_put F B 0 rfl (ci := 10) (C := RX8) (T := TX8) (N := 37) rfl iX8_unbuild_X8 tyX8 tyX8_ok nmX8 11 (by decide) fX8_unbuild_82 rfl (v := .int (nI 0)) (by decide) (by decide) (Nat.le_of_ble_eq_true rfl) dX8_unbuild_2 (fun H locs B => ?_)
  have B : zB D (zT cI cZ cG cJ) A s.heap s [(mm, .inr (10, zmo (nI th) (nI q) (nI g) (nI t) (nI r) (nI 0) (nI nc) (nI nl) (nI pv) (nI va) (nI n3) (nI ve) (nI ed) (nI se) (nI ci) (nI mr) (nI mt) (nI ld) A8))] _ _ := B
  refine lv_aload_n F.1 F.2.1 dX8_unbuild_5 rfl (lv_at hl 0 rfl) ?_
  refine lv_iconst (v := (nI 0)) F.1 F.2.1 dX8_unbuild_6 (by decide) ?_
  refine z_put F B 0 rfl (ci := 10) (C := RX8) (T := TX8) (N := 37) rfl iX8_unbuild_X8 tyX8 tyX8_ok nmX8 27 (by decide) fX8_unbuild_86 rfl (v := .int (nI 0)) (by decide) (by decide) (Nat.le_of_ble_eq_true rfl) dX8_unbuild_7 (fun H locs B => ?_)
  have B : zB D (zT cI cZ cG cJ) A s.heap s [(mm, .inr (10, zmo (nI th) (nI q) (nI g) (nI t) (nI r) (nI 0) (nI nc) (nI nl) (nI pv) (nI va) (nI n3) (nI ve) (nI ed) (nI se) (nI ci) (nI 0) (nI mt) (nI ld) A8))] _ _ := B
  refine lv_aload_n F.1 F.2.1 dX8_unbuild_10 rfl (lv_at hl 0 rfl) ?_
  refine lv_iconst (v := (nI 0)) F.1 F.2.1 dX8_unbuild_11 (by decide) ?_
  refine z_put F B 0 rfl (ci := 10) (C := RX8) (T := TX8) (N := 37) rfl iX8_unbuild_X8 tyX8 tyX8_ok nmX8 28 (by decide) fX8_unbuild_89 rfl (v := .int (nI 0)) (by decide) (by decide) (Nat.le_of_ble_eq_true rfl) dX8_unbuild_12 (fun H locs B => ?_)
  have B : zB D (zT cI cZ cG cJ) A s.heap s [(mm, .inr (10, zmo (nI th) (nI q) (nI g) (nI t) (nI r) (nI 0) (nI nc) (nI nl) (nI pv) (nI va) (nI n3) (nI ve) (nI ed) (nI se) (nI ci) (nI 0) (nI 0) (nI ld) A8))] _ _ := B
  exact z_vret F hr hlk B [0] rfl (rfl) dX8_unbuild_15 (by omega) (by omega) ⟨rfl, rfl⟩
theorem iX8_machine_X8 : ∀ w ∈ u_ws RX8 TX8 37, w ∈ wsX8_machine := fun w h => List.mem_cons_of_mem _ (List.mem_append_right _ h)
theorem fX8_machine_79 : Cond.fieldLink RX8 79 "TourChainModel" "thrown" "I" ∈ wsX8_machine := by decide +kernel
theorem yX8_machine_X8_in : yX8_in.cls = RX8 ∧ yX8_in.cls ≠ "java/lang/invoke/MethodHandle" ∧ yX8_in.cls ≠ "java/lang/invoke/VarHandle" ∧ (parseMethodDescriptor yX8_in.desc).map (fun d => d.parameters.length) = some 3 := by decide +kernel
theorem fX8_machine_7 : Cond.fieldLink RX8 7 "TourChainModel" "states" "I" ∈ wsX8_machine := by decide +kernel
theorem fX8_machine_13 : Cond.fieldLink RX8 13 "TourChainModel" "symbols" "I" ∈ wsX8_machine := by decide +kernel
theorem fX8_machine_16 : Cond.fieldLink RX8 16 "TourChainModel" "bound" "I" ∈ wsX8_machine := by decide +kernel
theorem fX8_machine_96 : Cond.fieldLink RX8 96 "TourChainModel" "rules" "I" ∈ wsX8_machine := by decide +kernel
theorem yX8_machine_X8_unbuild : yX8_unbuild.cls = RX8 ∧ yX8_unbuild.cls ≠ "java/lang/invoke/MethodHandle" ∧ yX8_unbuild.cls ≠ "java/lang/invoke/VarHandle" ∧ (parseMethodDescriptor yX8_unbuild.desc).map (fun d => d.parameters.length) = some 0 := by decide +kernel
theorem fX8_machine_35 : Cond.fieldLink RX8 35 "TourChainModel" "input" "[I" ∈ wsX8_machine := by decide +kernel
set_option maxHeartbeats 4000000 in
set_option maxRecDepth 100000 in
theorem kX8_machine (l : Launch) (D : va_G) (cI cZ cG cJ : ClassId) (mm : Nat) (th : Nat) (q : Nat) (g : Nat) (t : Nat) (r : Nat) (mb : Nat) (nc : Nat) (nl : Nat) (pv : Nat) (va : Nat) (n3 : Nat) (ve : Nat) (ed : Nat) (se : Nat) (ci : Nat) (mr : Nat) (mt : Nat) (ld : Nat) (A8 : Nat → Nat) (fp : Nat → Int32) (u1 : Int32) (u2 : Int32) (u3 : Int32)  : zC l yX8_machine wsX8_machine 1 22 0 0 D (zT cI cZ cG cJ) [.ref mm, .int u1, .int u2, .int u3] [(mm, .inr (10, zmo (nI th) (nI q) (nI g) (nI t) (nI r) (nI mb) (nI nc) (nI nl) (nI pv) (nI va) (nI n3) (nI ve) (nI ed) (nI se) (nI ci) (nI mr) (nI mt) (nI ld) A8)), (A8 5, .inl (cI, 4, .inl fp))] (fun (ov : Option Value) (ow : va_W) => ∃ rb : Int32, ∃ q' : Nat, ∃ g' : Nat, ∃ t' : Nat, ∃ r' : Nat, ∃ mb' : Nat, ∃ mr' : Nat, ∃ mt' : Nat, ∃ fp' : Nat → Int32, ov = some (.int rb) ∧ ow = [(mm, .inr (10, zmo (nI 0) (nI q') (nI g') (nI t') (nI r') (nI mb') (nI nc) (nI nl) (nI pv) (nI va) (nI n3) (nI ve) (nI ed) (nI se) (nI ci) (nI mr') (nI mt') (nI ld) A8)), (A8 5, .inl (cI, 4, .inl fp'))] ∧ ((rb = 1 ∧ (2 ≤ u1.toInt ∧ u1.toInt ≤ 3 ∧ 2 ≤ u2.toInt ∧ u2.toInt ≤ 3 ∧ 1 ≤ u3.toInt ∧ u3.toInt ≤ 3)) ∨ (rb = 0 ∧ ¬ (2 ≤ u1.toInt ∧ u1.toInt ≤ 3 ∧ 2 ≤ u2.toInt ∧ u2.toInt ≤ 3 ∧ 1 ≤ u3.toInt ∧ u3.toInt ≤ 3))) ∧ (((2 ≤ u1.toInt ∧ u1.toInt ≤ 3 ∧ 2 ≤ u2.toInt ∧ u2.toInt ≤ 3 ∧ 1 ≤ u3.toInt ∧ u3.toInt ≤ 3) ∧ q' = zn u1 ∧ g' = zn u2 ∧ t' = zn u3 ∧ r' = 0 ∧ mb' = 0 ∧ mr' = 0 ∧ mt' = 0 ∧ ∀ y, y < 4 → fp' y = nI 0) ∨ (¬ (2 ≤ u1.toInt ∧ u1.toInt ≤ 3 ∧ 2 ≤ u2.toInt ∧ u2.toInt ≤ 3 ∧ 1 ≤ u3.toInt ∧ u3.toInt ≤ 3) ∧ q' = q ∧ g' = g ∧ t' = t ∧ r' = r ∧ mb' = mb ∧ mr' = mr ∧ mt' = mt ∧ fp' = fp))) := by
  refine zC.of (cc := cX8_machine) (maxL := 5) (ret := (some .boolean)) (by decide) rfl (Nat.le_of_ble_eq_true rfl) ?_
  intro p e s m below meth c A ls F hr hlk hnm B hl
  have hl : lv_has ls 5 [(0, .ref mm), (1, .int u1), (2, .int u2), (3, .int u3)] := hl
  have e1 : (nI 1).toInt = 1 := nI_toInt (by omega)
  have e2 : (nI 2).toInt = 2 := nI_toInt (by omega)
  have e3 : (nI 3).toInt = 3 := nI_toInt (by omega)
  refine lv_aload_n F.1 F.2.1 dX8_machine_0 rfl (lv_at hl 0 rfl) ?_
  refine lv_iconst (v := (nI 0)) F.1 F.2.1 dX8_machine_1 (by decide) ?_
  refine z_put F B 0 rfl (ci := 10) (C := RX8) (T := TX8) (N := 37) rfl iX8_machine_X8 tyX8 tyX8_ok nmX8 0 (by decide) fX8_machine_79 rfl (v := .int (nI 0)) rfl rfl (Nat.le_of_ble_eq_true rfl) dX8_machine_2 (fun H locs B => ?_)
  have B : zB D (zT cI cZ cG cJ) A s.heap s [(mm, .inr (10, zmo (nI 0) (nI q) (nI g) (nI t) (nI r) (nI mb) (nI nc) (nI nl) (nI pv) (nI va) (nI n3) (nI ve) (nI ed) (nI se) (nI ci) (nI mr) (nI mt) (nI ld) A8)), (A8 5, .inl (cI, 4, .inl fp))] _ _ := B
  refine lv_iload_n F.1 F.2.1 dX8_machine_5 rfl (lv_at hl 1 rfl) ?_
  refine lv_iconst (v := (nI 2)) F.1 F.2.1 dX8_machine_6 (by decide) ?_
  refine lv_iconst (v := (nI 3)) F.1 F.2.1 dX8_machine_7 (by decide) ?_
  refine z_callS (wr := [(mm, .inr (10, zmo (nI 0) (nI q) (nI g) (nI t) (nI r) (nI mb) (nI nc) (nI nl) (nI pv) (nI va) (nI n3) (nI ve) (nI ed) (nI se) (nI ci) (nI mr) (nI mt) (nI ld) A8)), (A8 5, .inl (cI, 4, .inl fp))]) (rest := []) (As := [.int u1, .int (nI 2), .int (nI 3)]) F B (kX8_in l D cI cZ cG cJ u1 (nI 2) (nI 3)) hl.1 gX8_machine_X8_in rfl 3 yX8_machine_X8_in rfl [] [0, 1] rfl rfl rfl rfl (by decide) (Nat.le_of_ble_eq_true rfl) (Nat.le_of_ble_eq_true rfl) (Nat.le_of_ble_eq_true rfl) rfl dX8_machine_8 (show 0 + 0 ≤ 0 by omega) (show 0 + 0 ≤ 0 by omega) (fun vv ww H locs hRR B => ?_)
  obtain ⟨r_1, rfl, rfl, hb_2⟩ := hRR
  have B : zB D (zT cI cZ cG cJ) A s.heap s [(mm, .inr (10, zmo (nI 0) (nI q) (nI g) (nI t) (nI r) (nI mb) (nI nc) (nI nl) (nI pv) (nI va) (nI n3) (nI ve) (nI ed) (nI se) (nI ci) (nI mr) (nI mt) (nI ld) A8)), (A8 5, .inl (cI, 4, .inl fp))] _ _ := B
  rcases hb_2 with ⟨hr1, g1⟩ | ⟨hr1, g1⟩ <;> subst hr1
  · refine W.eq (g2 := F0 m 11 ls [.int 1]) rfl ?_
    refine lv_if_eq (tgt := 32) F.1 F.2.1 dX8_machine_11 (by decide) (fun hq => absurd hq (by decide)) (fun _ => ?_)
    refine lv_iload_n F.1 F.2.1 dX8_machine_14 rfl (lv_at hl 2 rfl) ?_
    refine lv_iconst (v := (nI 2)) F.1 F.2.1 dX8_machine_15 (by decide) ?_
    refine lv_iconst (v := (nI 3)) F.1 F.2.1 dX8_machine_16 (by decide) ?_
    refine z_callS (wr := [(mm, .inr (10, zmo (nI 0) (nI q) (nI g) (nI t) (nI r) (nI mb) (nI nc) (nI nl) (nI pv) (nI va) (nI n3) (nI ve) (nI ed) (nI se) (nI ci) (nI mr) (nI mt) (nI ld) A8)), (A8 5, .inl (cI, 4, .inl fp))]) (rest := []) (As := [.int u2, .int (nI 2), .int (nI 3)]) F B (kX8_in l D cI cZ cG cJ u2 (nI 2) (nI 3)) hl.1 gX8_machine_X8_in rfl 3 yX8_machine_X8_in rfl [] [0, 1] rfl rfl rfl rfl (by decide) (Nat.le_of_ble_eq_true rfl) (Nat.le_of_ble_eq_true rfl) (Nat.le_of_ble_eq_true rfl) rfl dX8_machine_17 (show 0 + 0 ≤ 0 by omega) (show 0 + 0 ≤ 0 by omega) (fun vv ww H locs hRR B => ?_)
    obtain ⟨r_3, rfl, rfl, hb_4⟩ := hRR
    have B : zB D (zT cI cZ cG cJ) A s.heap s [(mm, .inr (10, zmo (nI 0) (nI q) (nI g) (nI t) (nI r) (nI mb) (nI nc) (nI nl) (nI pv) (nI va) (nI n3) (nI ve) (nI ed) (nI se) (nI ci) (nI mr) (nI mt) (nI ld) A8)), (A8 5, .inl (cI, 4, .inl fp))] _ _ := B
    rcases hb_4 with ⟨hr1, g2⟩ | ⟨hr1, g2⟩ <;> subst hr1
    · refine W.eq (g2 := F0 m 20 ls [.int 1]) rfl ?_
      refine lv_if_eq (tgt := 32) F.1 F.2.1 dX8_machine_20 (by decide) (fun hq => absurd hq (by decide)) (fun _ => ?_)
      refine lv_iload_n F.1 F.2.1 dX8_machine_23 rfl (lv_at hl 3 rfl) ?_
      refine lv_iconst (v := (nI 1)) F.1 F.2.1 dX8_machine_24 (by decide) ?_
      refine lv_iconst (v := (nI 3)) F.1 F.2.1 dX8_machine_25 (by decide) ?_
      refine z_callS (wr := [(mm, .inr (10, zmo (nI 0) (nI q) (nI g) (nI t) (nI r) (nI mb) (nI nc) (nI nl) (nI pv) (nI va) (nI n3) (nI ve) (nI ed) (nI se) (nI ci) (nI mr) (nI mt) (nI ld) A8)), (A8 5, .inl (cI, 4, .inl fp))]) (rest := []) (As := [.int u3, .int (nI 1), .int (nI 3)]) F B (kX8_in l D cI cZ cG cJ u3 (nI 1) (nI 3)) hl.1 gX8_machine_X8_in rfl 3 yX8_machine_X8_in rfl [] [0, 1] rfl rfl rfl rfl (by decide) (Nat.le_of_ble_eq_true rfl) (Nat.le_of_ble_eq_true rfl) (Nat.le_of_ble_eq_true rfl) rfl dX8_machine_26 (show 0 + 0 ≤ 0 by omega) (show 0 + 0 ≤ 0 by omega) (fun vv ww H locs hRR B => ?_)
      obtain ⟨r_5, rfl, rfl, hb_6⟩ := hRR
      have B : zB D (zT cI cZ cG cJ) A s.heap s [(mm, .inr (10, zmo (nI 0) (nI q) (nI g) (nI t) (nI r) (nI mb) (nI nc) (nI nl) (nI pv) (nI va) (nI n3) (nI ve) (nI ed) (nI se) (nI ci) (nI mr) (nI mt) (nI ld) A8)), (A8 5, .inl (cI, 4, .inl fp))] _ _ := B
      rcases hb_6 with ⟨hr1, g3⟩ | ⟨hr1, g3⟩ <;> subst hr1
      · refine W.eq (g2 := F0 m 29 ls [.int 1]) rfl ?_
        have d1 := zn_eq (a := u1) (by omega)
        have d2 := zn_eq (a := u2) (by omega)
        have d3 := zn_eq (a := u3) (by omega)
        rw [d1, d2, d3] at hl
        have hl : lv_has ls 5 [(0, .ref mm), (1, .int (nI (zn u1))), (2, .int (nI (zn u2))), (3, .int (nI (zn u3)))] := hl
        refine lv_if_ne (tgt := 34) F.1 F.2.1 dX8_machine_29 (by decide) (fun _ => ?_) (fun hq => absurd hq (by decide))
        refine lv_aload_n F.1 F.2.1 dX8_machine_34 rfl (lv_at hl 0 rfl) ?_
        refine lv_iload_n F.1 F.2.1 dX8_machine_35 rfl (lv_at hl 1 rfl) ?_
        refine z_put F B 0 rfl (ci := 10) (C := RX8) (T := TX8) (N := 37) rfl iX8_machine_X8 tyX8 tyX8_ok nmX8 1 (by decide) fX8_machine_7 rfl (v := .int (nI (zn u1))) rfl rfl (Nat.le_of_ble_eq_true rfl) dX8_machine_36 (fun H locs B => ?_)
        have B : zB D (zT cI cZ cG cJ) A s.heap s [(mm, .inr (10, zmo (nI 0) (nI (zn u1)) (nI g) (nI t) (nI r) (nI mb) (nI nc) (nI nl) (nI pv) (nI va) (nI n3) (nI ve) (nI ed) (nI se) (nI ci) (nI mr) (nI mt) (nI ld) A8)), (A8 5, .inl (cI, 4, .inl fp))] _ _ := B
        refine lv_aload_n F.1 F.2.1 dX8_machine_39 rfl (lv_at hl 0 rfl) ?_
        refine lv_iload_n F.1 F.2.1 dX8_machine_40 rfl (lv_at hl 2 rfl) ?_
        refine z_put F B 0 rfl (ci := 10) (C := RX8) (T := TX8) (N := 37) rfl iX8_machine_X8 tyX8 tyX8_ok nmX8 2 (by decide) fX8_machine_13 rfl (v := .int (nI (zn u2))) rfl rfl (Nat.le_of_ble_eq_true rfl) dX8_machine_41 (fun H locs B => ?_)
        have B : zB D (zT cI cZ cG cJ) A s.heap s [(mm, .inr (10, zmo (nI 0) (nI (zn u1)) (nI (zn u2)) (nI t) (nI r) (nI mb) (nI nc) (nI nl) (nI pv) (nI va) (nI n3) (nI ve) (nI ed) (nI se) (nI ci) (nI mr) (nI mt) (nI ld) A8)), (A8 5, .inl (cI, 4, .inl fp))] _ _ := B
        refine lv_aload_n F.1 F.2.1 dX8_machine_44 rfl (lv_at hl 0 rfl) ?_
        refine lv_iload_n F.1 F.2.1 dX8_machine_45 rfl (lv_at hl 3 rfl) ?_
        refine z_put F B 0 rfl (ci := 10) (C := RX8) (T := TX8) (N := 37) rfl iX8_machine_X8 tyX8 tyX8_ok nmX8 3 (by decide) fX8_machine_16 rfl (v := .int (nI (zn u3))) rfl rfl (Nat.le_of_ble_eq_true rfl) dX8_machine_46 (fun H locs B => ?_)
        have B : zB D (zT cI cZ cG cJ) A s.heap s [(mm, .inr (10, zmo (nI 0) (nI (zn u1)) (nI (zn u2)) (nI (zn u3)) (nI r) (nI mb) (nI nc) (nI nl) (nI pv) (nI va) (nI n3) (nI ve) (nI ed) (nI se) (nI ci) (nI mr) (nI mt) (nI ld) A8)), (A8 5, .inl (cI, 4, .inl fp))] _ _ := B
        refine lv_aload_n F.1 F.2.1 dX8_machine_49 rfl (lv_at hl 0 rfl) ?_
        refine lv_iconst (v := (nI 0)) F.1 F.2.1 dX8_machine_50 (by decide) ?_
        refine z_put F B 0 rfl (ci := 10) (C := RX8) (T := TX8) (N := 37) rfl iX8_machine_X8 tyX8 tyX8_ok nmX8 4 (by decide) fX8_machine_96 rfl (v := .int (nI 0)) rfl rfl (Nat.le_of_ble_eq_true rfl) dX8_machine_51 (fun H locs B => ?_)
        have B : zB D (zT cI cZ cG cJ) A s.heap s [(mm, .inr (10, zmo (nI 0) (nI (zn u1)) (nI (zn u2)) (nI (zn u3)) (nI 0) (nI mb) (nI nc) (nI nl) (nI pv) (nI va) (nI n3) (nI ve) (nI ed) (nI se) (nI ci) (nI mr) (nI mt) (nI ld) A8)), (A8 5, .inl (cI, 4, .inl fp))] _ _ := B
        refine lv_iconst (v := (nI 0)) F.1 F.2.1 dX8_machine_54 (by decide) ?_
        refine lv_istore (lv' := [(4, .int (nI 0)), (0, .ref mm), (1, .int (nI (zn u1))), (2, .int (nI (zn u2))), (3, .int (nI (zn u3)))]) F.1 F.2.1 dX8_machine_55 hl (by decide) rfl (fun ls hl => ?_)
        have loop57 : ∀ (fuel : Nat) (y : Nat) (fp1 : Nat → Int32), 4 - y < fuel → (y ≤ 4) → (∀ x, x < y → fp1 x = nI 0) → ∀ (H : Heap) (locs : List Loc) (ls : Array Slot), zB D (zT cI cZ cG cJ) A s.heap s [(mm, .inr (10, zmo (nI 0) (nI (zn u1)) (nI (zn u2)) (nI (zn u3)) (nI 0) (nI mb) (nI nc) (nI nl) (nI pv) (nI va) (nI n3) (nI ve) (nI ed) (nI se) (nI ci) (nI mr) (nI mt) (nI ld) A8)), (A8 5, .inl (cI, 4, .inl fp1))] H locs → lv_has ls 5 [(0, .ref mm), (1, .int (nI (zn u1))), (2, .int (nI (zn u2))), (3, .int (nI (zn u3))), (4, .int (nI y))] → W p l e { frames := 1, cells := 0, slots := 0, locals := 22 } s m [.ref mm, .int u1, .int u2, .int u3].toArray below meth c H locs 0 0 (zQ below [.ref mm, .int u1, .int u2, .int u3].toArray s D (zT cI cZ cG cJ) A (fun (ov : Option Value) (ow : va_W) => ∃ rb : Int32, ∃ q' : Nat, ∃ g' : Nat, ∃ t' : Nat, ∃ r' : Nat, ∃ mb' : Nat, ∃ mr' : Nat, ∃ mt' : Nat, ∃ fp' : Nat → Int32, ov = some (.int rb) ∧ ow = [(mm, .inr (10, zmo (nI 0) (nI q') (nI g') (nI t') (nI r') (nI mb') (nI nc) (nI nl) (nI pv) (nI va) (nI n3) (nI ve) (nI ed) (nI se) (nI ci) (nI mr') (nI mt') (nI ld) A8)), (A8 5, .inl (cI, 4, .inl fp'))] ∧ ((rb = 1 ∧ (2 ≤ u1.toInt ∧ u1.toInt ≤ 3 ∧ 2 ≤ u2.toInt ∧ u2.toInt ≤ 3 ∧ 1 ≤ u3.toInt ∧ u3.toInt ≤ 3)) ∨ (rb = 0 ∧ ¬ (2 ≤ u1.toInt ∧ u1.toInt ≤ 3 ∧ 2 ≤ u2.toInt ∧ u2.toInt ≤ 3 ∧ 1 ≤ u3.toInt ∧ u3.toInt ≤ 3))) ∧ (((2 ≤ u1.toInt ∧ u1.toInt ≤ 3 ∧ 2 ≤ u2.toInt ∧ u2.toInt ≤ 3 ∧ 1 ≤ u3.toInt ∧ u3.toInt ≤ 3) ∧ q' = zn u1 ∧ g' = zn u2 ∧ t' = zn u3 ∧ r' = 0 ∧ mb' = 0 ∧ mr' = 0 ∧ mt' = 0 ∧ ∀ y, y < 4 → fp' y = nI 0) ∨ (¬ (2 ≤ u1.toInt ∧ u1.toInt ≤ 3 ∧ 2 ≤ u2.toInt ∧ u2.toInt ≤ 3 ∧ 1 ≤ u3.toInt ∧ u3.toInt ≤ 3) ∧ q' = q ∧ g' = g ∧ t' = t ∧ r' = r ∧ mb' = mb ∧ mr' = mr ∧ mt' = mt ∧ fp' = fp))) 0 0) (F0 m 57 ls []) := by
          intro fuel
          induction fuel with
          | zero => intro y fp1 hmz; exact absurd hmz (Nat.not_lt_zero _)
          | succ fuel ih =>
            intro y fp1 hm hy hz H locs ls B hl
            have ih57 := ih
            refine lv_iload F.1 F.2.1 dX8_machine_57 (lv_at hl 4 rfl) ?_
            refine lv_iconst (v := (nI 4)) F.1 F.2.1 dX8_machine_59 (by decide) ?_
            refine z_icmp_ge (tgt := 77) F (by omega) (by omega) dX8_machine_60 (by decide) (fun c60 => ?_) (fun c60 => ?_)
            · have hy4 : y = 4 := by omega
              subst hy4
              refine lv_aload_n F.1 F.2.1 dX8_machine_77 rfl (lv_at hl 0 rfl) ?_
              refine z_callV (wr := [(A8 5, .inl (cI, 4, .inl fp1))]) (rest := []) (As := []) F B (kX8_unbuild l D cI cZ cG cJ mm 0 (zn u1) (zn u2) (zn u3) 0 mb nc nl pv va n3 ve ed se ci mr mt ld A8) hl.1 (C := RX8) (T := TX8) (N := 37) (ci := 10) (q0 := 0) gX8_machine_X8_unbuild rfl 0 yX8_machine_X8_unbuild rfl rfl rfl [0] [1] rfl rfl rfl rfl (by decide) (Nat.le_of_ble_eq_true rfl) (Nat.le_of_ble_eq_true rfl) (Nat.le_of_ble_eq_true rfl) rfl dX8_machine_78 (show 0 + 0 ≤ 0 by omega) (show 0 + 0 ≤ 0 by omega) (fun vv ww H locs hRR B => ?_)
              obtain ⟨rfl, rfl⟩ := hRR
              have B : zB D (zT cI cZ cG cJ) A s.heap s [(A8 5, .inl (cI, 4, .inl fp1)), (mm, .inr (10, zmo (nI 0) (nI (zn u1)) (nI (zn u2)) (nI (zn u3)) (nI 0) (nI 0) (nI nc) (nI nl) (nI pv) (nI va) (nI n3) (nI ve) (nI ed) (nI se) (nI ci) (nI 0) (nI 0) (nI ld) A8))] _ _ := B
              refine W.eq (g2 := F0 m 81 ls []) rfl ?_
              refine lv_iconst (v := (nI 1)) F.1 F.2.1 dX8_machine_81 (by decide) ?_
              exact z_zret F hr hlk B (Or.inr rfl) [1, 0] rfl (rfl) dX8_machine_82 (by omega) (by omega) ⟨(nI 1), (zn u1), (zn u2), (zn u3), 0, 0, 0, 0, fp1, rfl, rfl, Or.inl ⟨rfl, by omega⟩, (Or.inl ⟨by omega, rfl, rfl, rfl, rfl, rfl, rfl, rfl, hz⟩)⟩
            · refine lv_aload_n F.1 F.2.1 dX8_machine_63 rfl (lv_at hl 0 rfl) ?_
              refine z_get F B 0 rfl (ci := 10) (C := RX8) (T := TX8) (N := 37) rfl iX8_machine_X8 10 (by decide) fX8_machine_35 rfl dX8_machine_64 ?_
              refine lv_iload F.1 F.2.1 dX8_machine_67 (lv_at hl 4 rfl) ?_
              refine lv_iconst (v := (nI 0)) F.1 F.2.1 dX8_machine_69 (by decide) ?_
              refine z_iast F B 1 0 rfl rfl (j := y) (by omega) (by omega) dX8_machine_70 (fun H locs B => ?_)
              have B : zB D (zT cI cZ cG cJ) A s.heap s [(mm, .inr (10, zmo (nI 0) (nI (zn u1)) (nI (zn u2)) (nI (zn u3)) (nI 0) (nI mb) (nI nc) (nI nl) (nI pv) (nI va) (nI n3) (nI ve) (nI ed) (nI se) (nI ci) (nI mr) (nI mt) (nI ld) A8)), (A8 5, .inl (cI, 4, .inl (upd fp1 y (nI 0))))] _ _ := B
              refine lv_iinc (v := (nI (y + 1))) (lv' := [(4, .int (nI (y + 1))), (0, .ref mm), (1, .int (nI (zn u1))), (2, .int (nI (zn u2))), (3, .int (nI (zn u3)))]) F.1 F.2.1 dX8_machine_71 hl (k := 4) rfl (by rw [show Int32.ofInt 1 = nI 1 from rfl, nI_add]) (by decide) rfl (fun ls hl => ?_)
              refine lv_goto (tgt := 57) F.1 F.2.1 dX8_machine_74 (by decide) ?_
              exact ih57 (y + 1) (upd fp1 y (nI 0)) (by first | omega | (simp only [] at *; omega)) (by omega) (fun x hx => by by_cases e : x = y; subst e; exact pk_us; rw [pk_un e]; exact hz x (by omega)) _ _ _ (B.sub [0, 1] rfl (rfl)) (lv_sub hl [1, 2, 3, 4, 0] (rfl))
        exact loop57 (4 - 0 + 1) 0 fp (Nat.lt_succ_self _) (by omega) (fun x hx => absurd hx (Nat.not_lt_zero _)) _ _ _ (B.sub [0, 1] rfl (rfl)) (lv_sub hl [1, 2, 3, 4, 0] (rfl))
      · refine W.eq (g2 := F0 m 29 ls [.int 0]) rfl ?_
        refine lv_if_ne (tgt := 34) F.1 F.2.1 dX8_machine_29 (by decide) (fun hq => absurd (by decide) hq) (fun _ => ?_)
        refine lv_iconst (v := (nI 0)) F.1 F.2.1 dX8_machine_32 (by decide) ?_
        exact z_zret F hr hlk B (Or.inl rfl) [0, 1] rfl (rfl) dX8_machine_33 (by omega) (by omega) ⟨(nI 0), q, g, t, r, mb, mr, mt, fp, rfl, rfl, Or.inr ⟨rfl, by omega⟩, (Or.inr ⟨by omega, rfl, rfl, rfl, rfl, rfl, rfl, rfl, rfl⟩)⟩
    · refine W.eq (g2 := F0 m 20 ls [.int 0]) rfl ?_
      refine lv_if_eq (tgt := 32) F.1 F.2.1 dX8_machine_20 (by decide) (fun _ => ?_) (fun hq => absurd (by decide) hq)
      refine lv_iconst (v := (nI 0)) F.1 F.2.1 dX8_machine_32 (by decide) ?_
      exact z_zret F hr hlk B (Or.inl rfl) [0, 1] rfl (rfl) dX8_machine_33 (by omega) (by omega) ⟨(nI 0), q, g, t, r, mb, mr, mt, fp, rfl, rfl, Or.inr ⟨rfl, by omega⟩, (Or.inr ⟨by omega, rfl, rfl, rfl, rfl, rfl, rfl, rfl, rfl⟩)⟩
  · refine W.eq (g2 := F0 m 11 ls [.int 0]) rfl ?_
    refine lv_if_eq (tgt := 32) F.1 F.2.1 dX8_machine_11 (by decide) (fun _ => ?_) (fun hq => absurd (by decide) hq)
    refine lv_iconst (v := (nI 0)) F.1 F.2.1 dX8_machine_32 (by decide) ?_
    exact z_zret F hr hlk B (Or.inl rfl) [0, 1] rfl (rfl) dX8_machine_33 (by omega) (by omega) ⟨(nI 0), q, g, t, r, mb, mr, mt, fp, rfl, rfl, Or.inr ⟨rfl, by omega⟩, (Or.inr ⟨by omega, rfl, rfl, rfl, rfl, rfl, rfl, rfl, rfl⟩)⟩
theorem iX8_rule_X8 : ∀ w ∈ u_ws RX8 TX8 37, w ∈ wsX8_rule := fun w h => List.mem_cons_of_mem _ (List.mem_append_right _ h)
theorem fX8_rule_79 : Cond.fieldLink RX8 79 "TourChainModel" "thrown" "I" ∈ wsX8_rule := by decide +kernel
theorem fX8_rule_96 : Cond.fieldLink RX8 96 "TourChainModel" "rules" "I" ∈ wsX8_rule := by decide +kernel
theorem fX8_rule_7 : Cond.fieldLink RX8 7 "TourChainModel" "states" "I" ∈ wsX8_rule := by decide +kernel
theorem yX8_rule_X8_in : yX8_in.cls = RX8 ∧ yX8_in.cls ≠ "java/lang/invoke/MethodHandle" ∧ yX8_in.cls ≠ "java/lang/invoke/VarHandle" ∧ (parseMethodDescriptor yX8_in.desc).map (fun d => d.parameters.length) = some 3 := by decide +kernel
theorem fX8_rule_13 : Cond.fieldLink RX8 13 "TourChainModel" "symbols" "I" ∈ wsX8_rule := by decide +kernel
theorem fX8_rule_19 : Cond.fieldLink RX8 19 "TourChainModel" "state" "[I" ∈ wsX8_rule := by decide +kernel
theorem fX8_rule_23 : Cond.fieldLink RX8 23 "TourChainModel" "symbol" "[I" ∈ wsX8_rule := by decide +kernel
theorem fX8_rule_26 : Cond.fieldLink RX8 26 "TourChainModel" "after" "[I" ∈ wsX8_rule := by decide +kernel
theorem fX8_rule_29 : Cond.fieldLink RX8 29 "TourChainModel" "write" "[I" ∈ wsX8_rule := by decide +kernel
theorem fX8_rule_32 : Cond.fieldLink RX8 32 "TourChainModel" "step" "[I" ∈ wsX8_rule := by decide +kernel
theorem yX8_rule_X8_unbuild : yX8_unbuild.cls = RX8 ∧ yX8_unbuild.cls ≠ "java/lang/invoke/MethodHandle" ∧ yX8_unbuild.cls ≠ "java/lang/invoke/VarHandle" ∧ (parseMethodDescriptor yX8_unbuild.desc).map (fun d => d.parameters.length) = some 0 := by decide +kernel
set_option maxHeartbeats 4000000 in
set_option maxRecDepth 100000 in
theorem kX8_rule (l : Launch) (D : va_G) (cI cZ cG cJ : ClassId) (mm : Nat) (th : Nat) (q : Nat) (g : Nat) (t : Nat) (r : Nat) (mb : Nat) (nc : Nat) (nl : Nat) (pv : Nat) (va : Nat) (n3 : Nat) (ve : Nat) (ed : Nat) (se : Nat) (ci : Nat) (mr : Nat) (mt : Nat) (ld : Nat) (A8 : Nat → Nat) (ff : Nat → Int32) (fr : Nat → Int32) (fto : Nat → Int32) (fw : Nat → Int32) (fm : Nat → Int32) (u1 : Int32) (u2 : Int32) (u3 : Int32) (u4 : Int32) (u5 : Int32) (hq1 : 2 ≤ q) (hq : q ≤ 3) (hg1 : 2 ≤ g) (hg : g ≤ 3) (hr8 : r ≤ 8) : zC l yX8_rule wsX8_rule 1 22 0 0 D (zT cI cZ cG cJ) [.ref mm, .int u1, .int u2, .int u3, .int u4, .int u5] [(mm, .inr (10, zmo (nI th) (nI q) (nI g) (nI t) (nI r) (nI mb) (nI nc) (nI nl) (nI pv) (nI va) (nI n3) (nI ve) (nI ed) (nI se) (nI ci) (nI mr) (nI mt) (nI ld) A8)), (A8 0, .inl (cI, 8, .inl ff)), (A8 1, .inl (cI, 8, .inl fr)), (A8 2, .inl (cI, 8, .inl fto)), (A8 3, .inl (cI, 8, .inl fw)), (A8 4, .inl (cI, 8, .inl fm))] (fun (ov : Option Value) (ow : va_W) => ∃ r' : Nat, ∃ mb' : Nat, ∃ mr' : Nat, ∃ mt' : Nat, ∃ ff' : Nat → Int32, ∃ fr' : Nat → Int32, ∃ fto' : Nat → Int32, ∃ fw' : Nat → Int32, ∃ fm' : Nat → Int32, ov = some (.int (zif (r < 8 ∧ 0 ≤ u1.toInt ∧ u1.toInt < ((q - 1 : Nat) : Int) ∧ 0 ≤ u2.toInt ∧ u2.toInt < (g : Int) ∧ 0 ≤ u3.toInt ∧ u3.toInt < (q : Int) ∧ 0 ≤ u4.toInt ∧ u4.toInt < (g : Int) ∧ 0 ≤ u5.toInt ∧ u5.toInt < 3) (nI r) (-1))) ∧ ow = [(mm, .inr (10, zmo (nI 0) (nI q) (nI g) (nI t) (nI r') (nI mb') (nI nc) (nI nl) (nI pv) (nI va) (nI n3) (nI ve) (nI ed) (nI se) (nI ci) (nI mr') (nI mt') (nI ld) A8)), (A8 0, .inl (cI, 8, .inl ff')), (A8 1, .inl (cI, 8, .inl fr')), (A8 2, .inl (cI, 8, .inl fto')), (A8 3, .inl (cI, 8, .inl fw')), (A8 4, .inl (cI, 8, .inl fm'))] ∧ (((r < 8 ∧ 0 ≤ u1.toInt ∧ u1.toInt < ((q - 1 : Nat) : Int) ∧ 0 ≤ u2.toInt ∧ u2.toInt < (g : Int) ∧ 0 ≤ u3.toInt ∧ u3.toInt < (q : Int) ∧ 0 ≤ u4.toInt ∧ u4.toInt < (g : Int) ∧ 0 ≤ u5.toInt ∧ u5.toInt < 3) ∧ r' = r + 1 ∧ mb' = 0 ∧ mr' = 0 ∧ mt' = 0 ∧ ff' = upd ff r u1 ∧ fr' = upd fr r u2 ∧ fto' = upd fto r u3 ∧ fw' = upd fw r u4 ∧ fm' = upd fm r (u5 - nI 1)) ∨ (¬ (r < 8 ∧ 0 ≤ u1.toInt ∧ u1.toInt < ((q - 1 : Nat) : Int) ∧ 0 ≤ u2.toInt ∧ u2.toInt < (g : Int) ∧ 0 ≤ u3.toInt ∧ u3.toInt < (q : Int) ∧ 0 ≤ u4.toInt ∧ u4.toInt < (g : Int) ∧ 0 ≤ u5.toInt ∧ u5.toInt < 3) ∧ r' = r ∧ mb' = mb ∧ mr' = mr ∧ mt' = mt ∧ ff' = ff ∧ fr' = fr ∧ fto' = fto ∧ fw' = fw ∧ fm' = fm))) := by
  refine zC.of (cc := cX8_rule) (maxL := 6) (ret := (some .int)) (by decide) rfl (Nat.le_of_ble_eq_true rfl) ?_
  intro p e s m below meth c A ls F hr hlk hnm B hl
  have hl : lv_has ls 6 [(0, .ref mm), (1, .int u1), (2, .int u2), (3, .int u3), (4, .int u4), (5, .int u5)] := hl
  have e0 : (nI 0).toInt = 0 := nI_toInt (by omega)
  have e1 := nI_toInt (n := q - 2) (by omega)
  have e2 := nI_toInt (n := g - 1) (by omega)
  have e3 := nI_toInt (n := q - 1) (by omega)
  have e4 : (nI 2).toInt = 2 := nI_toInt (by omega)
  refine lv_aload_n F.1 F.2.1 dX8_rule_0 rfl (lv_at hl 0 rfl) ?_
  refine lv_iconst (v := (nI 0)) F.1 F.2.1 dX8_rule_1 (by decide) ?_
  refine z_put F B 0 rfl (ci := 10) (C := RX8) (T := TX8) (N := 37) rfl iX8_rule_X8 tyX8 tyX8_ok nmX8 0 (by decide) fX8_rule_79 rfl (v := .int (nI 0)) rfl rfl (Nat.le_of_ble_eq_true rfl) dX8_rule_2 (fun H locs B => ?_)
  have B : zB D (zT cI cZ cG cJ) A s.heap s [(mm, .inr (10, zmo (nI 0) (nI q) (nI g) (nI t) (nI r) (nI mb) (nI nc) (nI nl) (nI pv) (nI va) (nI n3) (nI ve) (nI ed) (nI se) (nI ci) (nI mr) (nI mt) (nI ld) A8)), (A8 0, .inl (cI, 8, .inl ff)), (A8 1, .inl (cI, 8, .inl fr)), (A8 2, .inl (cI, 8, .inl fto)), (A8 3, .inl (cI, 8, .inl fw)), (A8 4, .inl (cI, 8, .inl fm))] _ _ := B
  refine lv_aload_n F.1 F.2.1 dX8_rule_5 rfl (lv_at hl 0 rfl) ?_
  refine z_get F B 0 rfl (ci := 10) (C := RX8) (T := TX8) (N := 37) rfl iX8_rule_X8 4 (by decide) fX8_rule_96 rfl dX8_rule_6 ?_
  refine lv_bipush (v := (nI 8)) F.1 F.2.1 dX8_rule_9 (by decide) ?_
  refine z_icmp_eq (tgt := 81) F (by omega) (by omega) dX8_rule_11 (by decide) (fun c11 => ?_) (fun c11 => ?_)
  · refine lv_iconst (v := (-1)) F.1 F.2.1 dX8_rule_81 (by decide) ?_
    exact z_iret F hr hlk B [0, 1, 2, 3, 4, 5] rfl (rfl) dX8_rule_82 (by omega) (by omega) ⟨r, mb, mr, mt, ff, fr, fto, fw, fm, by rw [zif_f (by omega)], rfl, (Or.inr ⟨by omega, rfl, rfl, rfl, rfl, rfl, rfl, rfl, rfl, rfl⟩)⟩
  · refine lv_iload_n F.1 F.2.1 dX8_rule_14 rfl (lv_at hl 1 rfl) ?_
    refine lv_iconst (v := (nI 0)) F.1 F.2.1 dX8_rule_15 (by decide) ?_
    refine lv_aload_n F.1 F.2.1 dX8_rule_16 rfl (lv_at hl 0 rfl) ?_
    refine z_get F B 0 rfl (ci := 10) (C := RX8) (T := TX8) (N := 37) rfl iX8_rule_X8 1 (by decide) fX8_rule_7 rfl dX8_rule_17 ?_
    refine lv_iconst (v := (nI 2)) F.1 F.2.1 dX8_rule_20 (by decide) ?_
    refine z_isub F (by omega) dX8_rule_21 ?_
    refine z_callS (wr := [(mm, .inr (10, zmo (nI 0) (nI q) (nI g) (nI t) (nI r) (nI mb) (nI nc) (nI nl) (nI pv) (nI va) (nI n3) (nI ve) (nI ed) (nI se) (nI ci) (nI mr) (nI mt) (nI ld) A8)), (A8 0, .inl (cI, 8, .inl ff)), (A8 1, .inl (cI, 8, .inl fr)), (A8 2, .inl (cI, 8, .inl fto)), (A8 3, .inl (cI, 8, .inl fw)), (A8 4, .inl (cI, 8, .inl fm))]) (rest := []) (As := [.int u1, .int (nI 0), .int (nI (q - 2))]) F B (kX8_in l D cI cZ cG cJ u1 (nI 0) (nI (q - 2))) hl.1 gX8_rule_X8_in rfl 3 yX8_rule_X8_in rfl [] [0, 1, 2, 3, 4, 5] rfl rfl rfl rfl (by decide) (Nat.le_of_ble_eq_true rfl) (Nat.le_of_ble_eq_true rfl) (Nat.le_of_ble_eq_true rfl) rfl dX8_rule_22 (show 0 + 0 ≤ 0 by omega) (show 0 + 0 ≤ 0 by omega) (fun vv ww H locs hRR B => ?_)
    obtain ⟨r_1, rfl, rfl, hb_2⟩ := hRR
    have B : zB D (zT cI cZ cG cJ) A s.heap s [(mm, .inr (10, zmo (nI 0) (nI q) (nI g) (nI t) (nI r) (nI mb) (nI nc) (nI nl) (nI pv) (nI va) (nI n3) (nI ve) (nI ed) (nI se) (nI ci) (nI mr) (nI mt) (nI ld) A8)), (A8 0, .inl (cI, 8, .inl ff)), (A8 1, .inl (cI, 8, .inl fr)), (A8 2, .inl (cI, 8, .inl fto)), (A8 3, .inl (cI, 8, .inl fw)), (A8 4, .inl (cI, 8, .inl fm))] _ _ := B
    rcases hb_2 with ⟨hr1, g1⟩ | ⟨hr1, g1⟩ <;> subst hr1
    · refine W.eq (g2 := F0 m 25 ls [.int 1]) rfl ?_
      refine lv_if_eq (tgt := 81) F.1 F.2.1 dX8_rule_25 (by decide) (fun hq => absurd hq (by decide)) (fun _ => ?_)
      refine lv_iload_n F.1 F.2.1 dX8_rule_28 rfl (lv_at hl 2 rfl) ?_
      refine lv_iconst (v := (nI 0)) F.1 F.2.1 dX8_rule_29 (by decide) ?_
      refine lv_aload_n F.1 F.2.1 dX8_rule_30 rfl (lv_at hl 0 rfl) ?_
      refine z_get F B 0 rfl (ci := 10) (C := RX8) (T := TX8) (N := 37) rfl iX8_rule_X8 2 (by decide) fX8_rule_13 rfl dX8_rule_31 ?_
      refine lv_iconst (v := (nI 1)) F.1 F.2.1 dX8_rule_34 (by decide) ?_
      refine z_isub F (by omega) dX8_rule_35 ?_
      refine z_callS (wr := [(mm, .inr (10, zmo (nI 0) (nI q) (nI g) (nI t) (nI r) (nI mb) (nI nc) (nI nl) (nI pv) (nI va) (nI n3) (nI ve) (nI ed) (nI se) (nI ci) (nI mr) (nI mt) (nI ld) A8)), (A8 0, .inl (cI, 8, .inl ff)), (A8 1, .inl (cI, 8, .inl fr)), (A8 2, .inl (cI, 8, .inl fto)), (A8 3, .inl (cI, 8, .inl fw)), (A8 4, .inl (cI, 8, .inl fm))]) (rest := []) (As := [.int u2, .int (nI 0), .int (nI (g - 1))]) F B (kX8_in l D cI cZ cG cJ u2 (nI 0) (nI (g - 1))) hl.1 gX8_rule_X8_in rfl 3 yX8_rule_X8_in rfl [] [0, 1, 2, 3, 4, 5] rfl rfl rfl rfl (by decide) (Nat.le_of_ble_eq_true rfl) (Nat.le_of_ble_eq_true rfl) (Nat.le_of_ble_eq_true rfl) rfl dX8_rule_36 (show 0 + 0 ≤ 0 by omega) (show 0 + 0 ≤ 0 by omega) (fun vv ww H locs hRR B => ?_)
      obtain ⟨r_3, rfl, rfl, hb_4⟩ := hRR
      have B : zB D (zT cI cZ cG cJ) A s.heap s [(mm, .inr (10, zmo (nI 0) (nI q) (nI g) (nI t) (nI r) (nI mb) (nI nc) (nI nl) (nI pv) (nI va) (nI n3) (nI ve) (nI ed) (nI se) (nI ci) (nI mr) (nI mt) (nI ld) A8)), (A8 0, .inl (cI, 8, .inl ff)), (A8 1, .inl (cI, 8, .inl fr)), (A8 2, .inl (cI, 8, .inl fto)), (A8 3, .inl (cI, 8, .inl fw)), (A8 4, .inl (cI, 8, .inl fm))] _ _ := B
      rcases hb_4 with ⟨hr1, g2⟩ | ⟨hr1, g2⟩ <;> subst hr1
      · refine W.eq (g2 := F0 m 39 ls [.int 1]) rfl ?_
        refine lv_if_eq (tgt := 81) F.1 F.2.1 dX8_rule_39 (by decide) (fun hq => absurd hq (by decide)) (fun _ => ?_)
        refine lv_iload_n F.1 F.2.1 dX8_rule_42 rfl (lv_at hl 3 rfl) ?_
        refine lv_iconst (v := (nI 0)) F.1 F.2.1 dX8_rule_43 (by decide) ?_
        refine lv_aload_n F.1 F.2.1 dX8_rule_44 rfl (lv_at hl 0 rfl) ?_
        refine z_get F B 0 rfl (ci := 10) (C := RX8) (T := TX8) (N := 37) rfl iX8_rule_X8 1 (by decide) fX8_rule_7 rfl dX8_rule_45 ?_
        refine lv_iconst (v := (nI 1)) F.1 F.2.1 dX8_rule_48 (by decide) ?_
        refine z_isub F (by omega) dX8_rule_49 ?_
        refine z_callS (wr := [(mm, .inr (10, zmo (nI 0) (nI q) (nI g) (nI t) (nI r) (nI mb) (nI nc) (nI nl) (nI pv) (nI va) (nI n3) (nI ve) (nI ed) (nI se) (nI ci) (nI mr) (nI mt) (nI ld) A8)), (A8 0, .inl (cI, 8, .inl ff)), (A8 1, .inl (cI, 8, .inl fr)), (A8 2, .inl (cI, 8, .inl fto)), (A8 3, .inl (cI, 8, .inl fw)), (A8 4, .inl (cI, 8, .inl fm))]) (rest := []) (As := [.int u3, .int (nI 0), .int (nI (q - 1))]) F B (kX8_in l D cI cZ cG cJ u3 (nI 0) (nI (q - 1))) hl.1 gX8_rule_X8_in rfl 3 yX8_rule_X8_in rfl [] [0, 1, 2, 3, 4, 5] rfl rfl rfl rfl (by decide) (Nat.le_of_ble_eq_true rfl) (Nat.le_of_ble_eq_true rfl) (Nat.le_of_ble_eq_true rfl) rfl dX8_rule_50 (show 0 + 0 ≤ 0 by omega) (show 0 + 0 ≤ 0 by omega) (fun vv ww H locs hRR B => ?_)
        obtain ⟨r_5, rfl, rfl, hb_6⟩ := hRR
        have B : zB D (zT cI cZ cG cJ) A s.heap s [(mm, .inr (10, zmo (nI 0) (nI q) (nI g) (nI t) (nI r) (nI mb) (nI nc) (nI nl) (nI pv) (nI va) (nI n3) (nI ve) (nI ed) (nI se) (nI ci) (nI mr) (nI mt) (nI ld) A8)), (A8 0, .inl (cI, 8, .inl ff)), (A8 1, .inl (cI, 8, .inl fr)), (A8 2, .inl (cI, 8, .inl fto)), (A8 3, .inl (cI, 8, .inl fw)), (A8 4, .inl (cI, 8, .inl fm))] _ _ := B
        rcases hb_6 with ⟨hr1, g3⟩ | ⟨hr1, g3⟩ <;> subst hr1
        · refine W.eq (g2 := F0 m 53 ls [.int 1]) rfl ?_
          refine lv_if_eq (tgt := 81) F.1 F.2.1 dX8_rule_53 (by decide) (fun hq => absurd hq (by decide)) (fun _ => ?_)
          refine lv_iload F.1 F.2.1 dX8_rule_56 (lv_at hl 4 rfl) ?_
          refine lv_iconst (v := (nI 0)) F.1 F.2.1 dX8_rule_58 (by decide) ?_
          refine lv_aload_n F.1 F.2.1 dX8_rule_59 rfl (lv_at hl 0 rfl) ?_
          refine z_get F B 0 rfl (ci := 10) (C := RX8) (T := TX8) (N := 37) rfl iX8_rule_X8 2 (by decide) fX8_rule_13 rfl dX8_rule_60 ?_
          refine lv_iconst (v := (nI 1)) F.1 F.2.1 dX8_rule_63 (by decide) ?_
          refine z_isub F (by omega) dX8_rule_64 ?_
          refine z_callS (wr := [(mm, .inr (10, zmo (nI 0) (nI q) (nI g) (nI t) (nI r) (nI mb) (nI nc) (nI nl) (nI pv) (nI va) (nI n3) (nI ve) (nI ed) (nI se) (nI ci) (nI mr) (nI mt) (nI ld) A8)), (A8 0, .inl (cI, 8, .inl ff)), (A8 1, .inl (cI, 8, .inl fr)), (A8 2, .inl (cI, 8, .inl fto)), (A8 3, .inl (cI, 8, .inl fw)), (A8 4, .inl (cI, 8, .inl fm))]) (rest := []) (As := [.int u4, .int (nI 0), .int (nI (g - 1))]) F B (kX8_in l D cI cZ cG cJ u4 (nI 0) (nI (g - 1))) hl.1 gX8_rule_X8_in rfl 3 yX8_rule_X8_in rfl [] [0, 1, 2, 3, 4, 5] rfl rfl rfl rfl (by decide) (Nat.le_of_ble_eq_true rfl) (Nat.le_of_ble_eq_true rfl) (Nat.le_of_ble_eq_true rfl) rfl dX8_rule_65 (show 0 + 0 ≤ 0 by omega) (show 0 + 0 ≤ 0 by omega) (fun vv ww H locs hRR B => ?_)
          obtain ⟨r_7, rfl, rfl, hb_8⟩ := hRR
          have B : zB D (zT cI cZ cG cJ) A s.heap s [(mm, .inr (10, zmo (nI 0) (nI q) (nI g) (nI t) (nI r) (nI mb) (nI nc) (nI nl) (nI pv) (nI va) (nI n3) (nI ve) (nI ed) (nI se) (nI ci) (nI mr) (nI mt) (nI ld) A8)), (A8 0, .inl (cI, 8, .inl ff)), (A8 1, .inl (cI, 8, .inl fr)), (A8 2, .inl (cI, 8, .inl fto)), (A8 3, .inl (cI, 8, .inl fw)), (A8 4, .inl (cI, 8, .inl fm))] _ _ := B
          rcases hb_8 with ⟨hr1, g4⟩ | ⟨hr1, g4⟩ <;> subst hr1
          · refine W.eq (g2 := F0 m 68 ls [.int 1]) rfl ?_
            refine lv_if_eq (tgt := 81) F.1 F.2.1 dX8_rule_68 (by decide) (fun hq => absurd hq (by decide)) (fun _ => ?_)
            refine lv_iload F.1 F.2.1 dX8_rule_71 (lv_at hl 5 rfl) ?_
            refine lv_iconst (v := (nI 0)) F.1 F.2.1 dX8_rule_73 (by decide) ?_
            refine lv_iconst (v := (nI 2)) F.1 F.2.1 dX8_rule_74 (by decide) ?_
            refine z_callS (wr := [(mm, .inr (10, zmo (nI 0) (nI q) (nI g) (nI t) (nI r) (nI mb) (nI nc) (nI nl) (nI pv) (nI va) (nI n3) (nI ve) (nI ed) (nI se) (nI ci) (nI mr) (nI mt) (nI ld) A8)), (A8 0, .inl (cI, 8, .inl ff)), (A8 1, .inl (cI, 8, .inl fr)), (A8 2, .inl (cI, 8, .inl fto)), (A8 3, .inl (cI, 8, .inl fw)), (A8 4, .inl (cI, 8, .inl fm))]) (rest := []) (As := [.int u5, .int (nI 0), .int (nI 2)]) F B (kX8_in l D cI cZ cG cJ u5 (nI 0) (nI 2)) hl.1 gX8_rule_X8_in rfl 3 yX8_rule_X8_in rfl [] [0, 1, 2, 3, 4, 5] rfl rfl rfl rfl (by decide) (Nat.le_of_ble_eq_true rfl) (Nat.le_of_ble_eq_true rfl) (Nat.le_of_ble_eq_true rfl) rfl dX8_rule_75 (show 0 + 0 ≤ 0 by omega) (show 0 + 0 ≤ 0 by omega) (fun vv ww H locs hRR B => ?_)
            obtain ⟨r_9, rfl, rfl, hb_10⟩ := hRR
            have B : zB D (zT cI cZ cG cJ) A s.heap s [(mm, .inr (10, zmo (nI 0) (nI q) (nI g) (nI t) (nI r) (nI mb) (nI nc) (nI nl) (nI pv) (nI va) (nI n3) (nI ve) (nI ed) (nI se) (nI ci) (nI mr) (nI mt) (nI ld) A8)), (A8 0, .inl (cI, 8, .inl ff)), (A8 1, .inl (cI, 8, .inl fr)), (A8 2, .inl (cI, 8, .inl fto)), (A8 3, .inl (cI, 8, .inl fw)), (A8 4, .inl (cI, 8, .inl fm))] _ _ := B
            rcases hb_10 with ⟨hr1, g5⟩ | ⟨hr1, g5⟩ <;> subst hr1
            · refine W.eq (g2 := F0 m 78 ls [.int 1]) rfl ?_
              refine lv_if_ne (tgt := 83) F.1 F.2.1 dX8_rule_78 (by decide) (fun _ => ?_) (fun hq => absurd hq (by decide))
              refine lv_aload_n F.1 F.2.1 dX8_rule_83 rfl (lv_at hl 0 rfl) ?_
              refine z_get F B 0 rfl (ci := 10) (C := RX8) (T := TX8) (N := 37) rfl iX8_rule_X8 5 (by decide) fX8_rule_19 rfl dX8_rule_84 ?_
              refine lv_aload_n F.1 F.2.1 dX8_rule_87 rfl (lv_at hl 0 rfl) ?_
              refine z_get F B 0 rfl (ci := 10) (C := RX8) (T := TX8) (N := 37) rfl iX8_rule_X8 4 (by decide) fX8_rule_96 rfl dX8_rule_88 ?_
              refine lv_iload_n F.1 F.2.1 dX8_rule_91 rfl (lv_at hl 1 rfl) ?_
              refine z_iast F B 1 0 rfl rfl (j := r) (by omega) (by omega) dX8_rule_92 (fun H locs B => ?_)
              have B : zB D (zT cI cZ cG cJ) A s.heap s [(mm, .inr (10, zmo (nI 0) (nI q) (nI g) (nI t) (nI r) (nI mb) (nI nc) (nI nl) (nI pv) (nI va) (nI n3) (nI ve) (nI ed) (nI se) (nI ci) (nI mr) (nI mt) (nI ld) A8)), (A8 0, .inl (cI, 8, .inl (upd ff r u1))), (A8 1, .inl (cI, 8, .inl fr)), (A8 2, .inl (cI, 8, .inl fto)), (A8 3, .inl (cI, 8, .inl fw)), (A8 4, .inl (cI, 8, .inl fm))] _ _ := B
              refine lv_aload_n F.1 F.2.1 dX8_rule_93 rfl (lv_at hl 0 rfl) ?_
              refine z_get F B 0 rfl (ci := 10) (C := RX8) (T := TX8) (N := 37) rfl iX8_rule_X8 6 (by decide) fX8_rule_23 rfl dX8_rule_94 ?_
              refine lv_aload_n F.1 F.2.1 dX8_rule_97 rfl (lv_at hl 0 rfl) ?_
              refine z_get F B 0 rfl (ci := 10) (C := RX8) (T := TX8) (N := 37) rfl iX8_rule_X8 4 (by decide) fX8_rule_96 rfl dX8_rule_98 ?_
              refine lv_iload_n F.1 F.2.1 dX8_rule_101 rfl (lv_at hl 2 rfl) ?_
              refine z_iast F B 2 0 rfl rfl (j := r) (by omega) (by omega) dX8_rule_102 (fun H locs B => ?_)
              have B : zB D (zT cI cZ cG cJ) A s.heap s [(mm, .inr (10, zmo (nI 0) (nI q) (nI g) (nI t) (nI r) (nI mb) (nI nc) (nI nl) (nI pv) (nI va) (nI n3) (nI ve) (nI ed) (nI se) (nI ci) (nI mr) (nI mt) (nI ld) A8)), (A8 0, .inl (cI, 8, .inl (upd ff r u1))), (A8 1, .inl (cI, 8, .inl (upd fr r u2))), (A8 2, .inl (cI, 8, .inl fto)), (A8 3, .inl (cI, 8, .inl fw)), (A8 4, .inl (cI, 8, .inl fm))] _ _ := B
              refine lv_aload_n F.1 F.2.1 dX8_rule_103 rfl (lv_at hl 0 rfl) ?_
              refine z_get F B 0 rfl (ci := 10) (C := RX8) (T := TX8) (N := 37) rfl iX8_rule_X8 7 (by decide) fX8_rule_26 rfl dX8_rule_104 ?_
              refine lv_aload_n F.1 F.2.1 dX8_rule_107 rfl (lv_at hl 0 rfl) ?_
              refine z_get F B 0 rfl (ci := 10) (C := RX8) (T := TX8) (N := 37) rfl iX8_rule_X8 4 (by decide) fX8_rule_96 rfl dX8_rule_108 ?_
              refine lv_iload_n F.1 F.2.1 dX8_rule_111 rfl (lv_at hl 3 rfl) ?_
              refine z_iast F B 3 0 rfl rfl (j := r) (by omega) (by omega) dX8_rule_112 (fun H locs B => ?_)
              have B : zB D (zT cI cZ cG cJ) A s.heap s [(mm, .inr (10, zmo (nI 0) (nI q) (nI g) (nI t) (nI r) (nI mb) (nI nc) (nI nl) (nI pv) (nI va) (nI n3) (nI ve) (nI ed) (nI se) (nI ci) (nI mr) (nI mt) (nI ld) A8)), (A8 0, .inl (cI, 8, .inl (upd ff r u1))), (A8 1, .inl (cI, 8, .inl (upd fr r u2))), (A8 2, .inl (cI, 8, .inl (upd fto r u3))), (A8 3, .inl (cI, 8, .inl fw)), (A8 4, .inl (cI, 8, .inl fm))] _ _ := B
              refine lv_aload_n F.1 F.2.1 dX8_rule_113 rfl (lv_at hl 0 rfl) ?_
              refine z_get F B 0 rfl (ci := 10) (C := RX8) (T := TX8) (N := 37) rfl iX8_rule_X8 8 (by decide) fX8_rule_29 rfl dX8_rule_114 ?_
              refine lv_aload_n F.1 F.2.1 dX8_rule_117 rfl (lv_at hl 0 rfl) ?_
              refine z_get F B 0 rfl (ci := 10) (C := RX8) (T := TX8) (N := 37) rfl iX8_rule_X8 4 (by decide) fX8_rule_96 rfl dX8_rule_118 ?_
              refine lv_iload F.1 F.2.1 dX8_rule_121 (lv_at hl 4 rfl) ?_
              refine z_iast F B 4 0 rfl rfl (j := r) (by omega) (by omega) dX8_rule_123 (fun H locs B => ?_)
              have B : zB D (zT cI cZ cG cJ) A s.heap s [(mm, .inr (10, zmo (nI 0) (nI q) (nI g) (nI t) (nI r) (nI mb) (nI nc) (nI nl) (nI pv) (nI va) (nI n3) (nI ve) (nI ed) (nI se) (nI ci) (nI mr) (nI mt) (nI ld) A8)), (A8 0, .inl (cI, 8, .inl (upd ff r u1))), (A8 1, .inl (cI, 8, .inl (upd fr r u2))), (A8 2, .inl (cI, 8, .inl (upd fto r u3))), (A8 3, .inl (cI, 8, .inl (upd fw r u4))), (A8 4, .inl (cI, 8, .inl fm))] _ _ := B
              refine lv_aload_n F.1 F.2.1 dX8_rule_124 rfl (lv_at hl 0 rfl) ?_
              refine z_get F B 0 rfl (ci := 10) (C := RX8) (T := TX8) (N := 37) rfl iX8_rule_X8 9 (by decide) fX8_rule_32 rfl dX8_rule_125 ?_
              refine lv_aload_n F.1 F.2.1 dX8_rule_128 rfl (lv_at hl 0 rfl) ?_
              refine z_get F B 0 rfl (ci := 10) (C := RX8) (T := TX8) (N := 37) rfl iX8_rule_X8 4 (by decide) fX8_rule_96 rfl dX8_rule_129 ?_
              refine lv_iload F.1 F.2.1 dX8_rule_132 (lv_at hl 5 rfl) ?_
              refine lv_iconst (v := (nI 1)) F.1 F.2.1 dX8_rule_134 (by decide) ?_
              refine lv_isub F.1 F.2.1 dX8_rule_135 ?_
              refine z_iast F B 5 0 rfl rfl (j := r) (by omega) (by omega) dX8_rule_136 (fun H locs B => ?_)
              have B : zB D (zT cI cZ cG cJ) A s.heap s [(mm, .inr (10, zmo (nI 0) (nI q) (nI g) (nI t) (nI r) (nI mb) (nI nc) (nI nl) (nI pv) (nI va) (nI n3) (nI ve) (nI ed) (nI se) (nI ci) (nI mr) (nI mt) (nI ld) A8)), (A8 0, .inl (cI, 8, .inl (upd ff r u1))), (A8 1, .inl (cI, 8, .inl (upd fr r u2))), (A8 2, .inl (cI, 8, .inl (upd fto r u3))), (A8 3, .inl (cI, 8, .inl (upd fw r u4))), (A8 4, .inl (cI, 8, .inl (upd fm r (u5 - (nI 1)))))] _ _ := B
              refine lv_aload_n F.1 F.2.1 dX8_rule_137 rfl (lv_at hl 0 rfl) ?_
              refine lv_dup F.1 F.2.1 dX8_rule_138 rfl ?_
              refine z_get F B 0 rfl (ci := 10) (C := RX8) (T := TX8) (N := 37) rfl iX8_rule_X8 4 (by decide) fX8_rule_96 rfl dX8_rule_139 ?_
              refine lv_iconst (v := (nI 1)) F.1 F.2.1 dX8_rule_142 (by decide) ?_
              refine z_iadd F dX8_rule_143 ?_
              refine z_put F B 0 rfl (ci := 10) (C := RX8) (T := TX8) (N := 37) rfl iX8_rule_X8 tyX8 tyX8_ok nmX8 4 (by decide) fX8_rule_96 rfl (v := .int (nI (r + 1))) rfl rfl (Nat.le_of_ble_eq_true rfl) dX8_rule_144 (fun H locs B => ?_)
              have B : zB D (zT cI cZ cG cJ) A s.heap s [(mm, .inr (10, zmo (nI 0) (nI q) (nI g) (nI t) (nI (r + 1)) (nI mb) (nI nc) (nI nl) (nI pv) (nI va) (nI n3) (nI ve) (nI ed) (nI se) (nI ci) (nI mr) (nI mt) (nI ld) A8)), (A8 0, .inl (cI, 8, .inl (upd ff r u1))), (A8 1, .inl (cI, 8, .inl (upd fr r u2))), (A8 2, .inl (cI, 8, .inl (upd fto r u3))), (A8 3, .inl (cI, 8, .inl (upd fw r u4))), (A8 4, .inl (cI, 8, .inl (upd fm r (u5 - (nI 1)))))] _ _ := B
              refine lv_aload_n F.1 F.2.1 dX8_rule_147 rfl (lv_at hl 0 rfl) ?_
              refine z_callV (wr := [(A8 0, .inl (cI, 8, .inl (upd ff r u1))), (A8 1, .inl (cI, 8, .inl (upd fr r u2))), (A8 2, .inl (cI, 8, .inl (upd fto r u3))), (A8 3, .inl (cI, 8, .inl (upd fw r u4))), (A8 4, .inl (cI, 8, .inl (upd fm r (u5 - (nI 1)))))]) (rest := []) (As := []) F B (kX8_unbuild l D cI cZ cG cJ mm 0 q g t (r + 1) mb nc nl pv va n3 ve ed se ci mr mt ld A8) hl.1 (C := RX8) (T := TX8) (N := 37) (ci := 10) (q0 := 0) gX8_rule_X8_unbuild rfl 0 yX8_rule_X8_unbuild rfl rfl rfl [0] [1, 2, 3, 4, 5] rfl rfl rfl rfl (by decide) (Nat.le_of_ble_eq_true rfl) (Nat.le_of_ble_eq_true rfl) (Nat.le_of_ble_eq_true rfl) rfl dX8_rule_148 (show 0 + 0 ≤ 0 by omega) (show 0 + 0 ≤ 0 by omega) (fun vv ww H locs hRR B => ?_)
              obtain ⟨rfl, rfl⟩ := hRR
              have B : zB D (zT cI cZ cG cJ) A s.heap s [(A8 0, .inl (cI, 8, .inl (upd ff r u1))), (A8 1, .inl (cI, 8, .inl (upd fr r u2))), (A8 2, .inl (cI, 8, .inl (upd fto r u3))), (A8 3, .inl (cI, 8, .inl (upd fw r u4))), (A8 4, .inl (cI, 8, .inl (upd fm r (u5 - (nI 1))))), (mm, .inr (10, zmo (nI 0) (nI q) (nI g) (nI t) (nI (r + 1)) (nI 0) (nI nc) (nI nl) (nI pv) (nI va) (nI n3) (nI ve) (nI ed) (nI se) (nI ci) (nI 0) (nI 0) (nI ld) A8))] _ _ := B
              refine W.eq (g2 := F0 m 151 ls []) rfl ?_
              refine lv_aload_n F.1 F.2.1 dX8_rule_151 rfl (lv_at hl 0 rfl) ?_
              refine z_get F B 5 rfl (ci := 10) (C := RX8) (T := TX8) (N := 37) rfl iX8_rule_X8 4 (by decide) fX8_rule_96 rfl dX8_rule_152 ?_
              refine lv_iconst (v := (nI 1)) F.1 F.2.1 dX8_rule_155 (by decide) ?_
              refine z_isub F (by omega) dX8_rule_156 ?_
              refine W.eq (g2 := F0 m 157 ls [.int (nI r)]) (by rw [Nat.add_sub_cancel]) ?_
              exact z_iret F hr hlk B [5, 0, 1, 2, 3, 4] rfl (rfl) dX8_rule_157 (by omega) (by omega) ⟨(r + 1), 0, 0, 0, (upd ff r u1), (upd fr r u2), (upd fto r u3), (upd fw r u4), (upd fm r (u5 - nI 1)), by rw [zif_t (by omega)], rfl, (Or.inl ⟨by omega, rfl, rfl, rfl, rfl, rfl, rfl, rfl, rfl, rfl⟩)⟩
            · refine W.eq (g2 := F0 m 78 ls [.int 0]) rfl ?_
              refine lv_if_ne (tgt := 83) F.1 F.2.1 dX8_rule_78 (by decide) (fun hq => absurd (by decide) hq) (fun _ => ?_)
              refine lv_iconst (v := (-1)) F.1 F.2.1 dX8_rule_81 (by decide) ?_
              exact z_iret F hr hlk B [0, 1, 2, 3, 4, 5] rfl (rfl) dX8_rule_82 (by omega) (by omega) ⟨r, mb, mr, mt, ff, fr, fto, fw, fm, by rw [zif_f (by omega)], rfl, (Or.inr ⟨by omega, rfl, rfl, rfl, rfl, rfl, rfl, rfl, rfl, rfl⟩)⟩
          · refine W.eq (g2 := F0 m 68 ls [.int 0]) rfl ?_
            refine lv_if_eq (tgt := 81) F.1 F.2.1 dX8_rule_68 (by decide) (fun _ => ?_) (fun hq => absurd (by decide) hq)
            refine lv_iconst (v := (-1)) F.1 F.2.1 dX8_rule_81 (by decide) ?_
            exact z_iret F hr hlk B [0, 1, 2, 3, 4, 5] rfl (rfl) dX8_rule_82 (by omega) (by omega) ⟨r, mb, mr, mt, ff, fr, fto, fw, fm, by rw [zif_f (by omega)], rfl, (Or.inr ⟨by omega, rfl, rfl, rfl, rfl, rfl, rfl, rfl, rfl, rfl⟩)⟩
        · refine W.eq (g2 := F0 m 53 ls [.int 0]) rfl ?_
          refine lv_if_eq (tgt := 81) F.1 F.2.1 dX8_rule_53 (by decide) (fun _ => ?_) (fun hq => absurd (by decide) hq)
          refine lv_iconst (v := (-1)) F.1 F.2.1 dX8_rule_81 (by decide) ?_
          exact z_iret F hr hlk B [0, 1, 2, 3, 4, 5] rfl (rfl) dX8_rule_82 (by omega) (by omega) ⟨r, mb, mr, mt, ff, fr, fto, fw, fm, by rw [zif_f (by omega)], rfl, (Or.inr ⟨by omega, rfl, rfl, rfl, rfl, rfl, rfl, rfl, rfl, rfl⟩)⟩
      · refine W.eq (g2 := F0 m 39 ls [.int 0]) rfl ?_
        refine lv_if_eq (tgt := 81) F.1 F.2.1 dX8_rule_39 (by decide) (fun _ => ?_) (fun hq => absurd (by decide) hq)
        refine lv_iconst (v := (-1)) F.1 F.2.1 dX8_rule_81 (by decide) ?_
        exact z_iret F hr hlk B [0, 1, 2, 3, 4, 5] rfl (rfl) dX8_rule_82 (by omega) (by omega) ⟨r, mb, mr, mt, ff, fr, fto, fw, fm, by rw [zif_f (by omega)], rfl, (Or.inr ⟨by omega, rfl, rfl, rfl, rfl, rfl, rfl, rfl, rfl, rfl⟩)⟩
    · refine W.eq (g2 := F0 m 25 ls [.int 0]) rfl ?_
      refine lv_if_eq (tgt := 81) F.1 F.2.1 dX8_rule_25 (by decide) (fun _ => ?_) (fun hq => absurd (by decide) hq)
      refine lv_iconst (v := (-1)) F.1 F.2.1 dX8_rule_81 (by decide) ?_
      exact z_iret F hr hlk B [0, 1, 2, 3, 4, 5] rfl (rfl) dX8_rule_82 (by omega) (by omega) ⟨r, mb, mr, mt, ff, fr, fto, fw, fm, by rw [zif_f (by omega)], rfl, (Or.inr ⟨by omega, rfl, rfl, rfl, rfl, rfl, rfl, rfl, rfl, rfl⟩)⟩
theorem iX8_input_X8 : ∀ w ∈ u_ws RX8 TX8 37, w ∈ wsX8_input := fun w h => List.mem_cons_of_mem _ (List.mem_append_right _ h)
theorem fX8_input_79 : Cond.fieldLink RX8 79 "TourChainModel" "thrown" "I" ∈ wsX8_input := by decide +kernel
theorem fX8_input_16 : Cond.fieldLink RX8 16 "TourChainModel" "bound" "I" ∈ wsX8_input := by decide +kernel
theorem yX8_input_X8_in : yX8_in.cls = RX8 ∧ yX8_in.cls ≠ "java/lang/invoke/MethodHandle" ∧ yX8_in.cls ≠ "java/lang/invoke/VarHandle" ∧ (parseMethodDescriptor yX8_in.desc).map (fun d => d.parameters.length) = some 3 := by decide +kernel
theorem fX8_input_13 : Cond.fieldLink RX8 13 "TourChainModel" "symbols" "I" ∈ wsX8_input := by decide +kernel
theorem fX8_input_35 : Cond.fieldLink RX8 35 "TourChainModel" "input" "[I" ∈ wsX8_input := by decide +kernel
theorem yX8_input_X8_unbuild : yX8_unbuild.cls = RX8 ∧ yX8_unbuild.cls ≠ "java/lang/invoke/MethodHandle" ∧ yX8_unbuild.cls ≠ "java/lang/invoke/VarHandle" ∧ (parseMethodDescriptor yX8_unbuild.desc).map (fun d => d.parameters.length) = some 0 := by decide +kernel
set_option maxHeartbeats 4000000 in
set_option maxRecDepth 100000 in
theorem kX8_input (l : Launch) (D : va_G) (cI cZ cG cJ : ClassId) (mm : Nat) (th : Nat) (q : Nat) (g : Nat) (t : Nat) (r : Nat) (mb : Nat) (nc : Nat) (nl : Nat) (pv : Nat) (va : Nat) (n3 : Nat) (ve : Nat) (ed : Nat) (se : Nat) (ci : Nat) (mr : Nat) (mt : Nat) (ld : Nat) (A8 : Nat → Nat) (fp : Nat → Int32) (u1 : Int32) (u2 : Int32) (ht : t ≤ 3) (hg1 : 1 ≤ g) (hg : g ≤ 3) : zC l yX8_input wsX8_input 1 22 0 0 D (zT cI cZ cG cJ) [.ref mm, .int u1, .int u2] [(mm, .inr (10, zmo (nI th) (nI q) (nI g) (nI t) (nI r) (nI mb) (nI nc) (nI nl) (nI pv) (nI va) (nI n3) (nI ve) (nI ed) (nI se) (nI ci) (nI mr) (nI mt) (nI ld) A8)), (A8 5, .inl (cI, 4, .inl fp))] (fun (ov : Option Value) (ow : va_W) => ∃ rb : Int32, ∃ mb' : Nat, ∃ mr' : Nat, ∃ mt' : Nat, ∃ fp' : Nat → Int32, ov = some (.int rb) ∧ ow = [(mm, .inr (10, zmo (nI 0) (nI q) (nI g) (nI t) (nI r) (nI mb') (nI nc) (nI nl) (nI pv) (nI va) (nI n3) (nI ve) (nI ed) (nI se) (nI ci) (nI mr') (nI mt') (nI ld) A8)), (A8 5, .inl (cI, 4, .inl fp'))] ∧ ((rb = 1 ∧ (zq u1 (t + 1) ∧ zq u2 g)) ∨ (rb = 0 ∧ ¬ (zq u1 (t + 1) ∧ zq u2 g))) ∧ (((zq u1 (t + 1) ∧ zq u2 g) ∧ mb' = 0 ∧ mr' = 0 ∧ mt' = 0 ∧ fp' = upd fp (zn u1) u2) ∨ (¬ (zq u1 (t + 1) ∧ zq u2 g) ∧ mb' = mb ∧ mr' = mr ∧ mt' = mt ∧ fp' = fp))) := by
  refine zC.of (cc := cX8_input) (maxL := 3) (ret := (some .boolean)) (by decide) rfl (Nat.le_of_ble_eq_true rfl) ?_
  intro p e s m below meth c A ls F hr hlk hnm B hl
  have hl : lv_has ls 3 [(0, .ref mm), (1, .int u1), (2, .int u2)] := hl
  refine lv_aload_n F.1 F.2.1 dX8_input_0 rfl (lv_at hl 0 rfl) ?_
  refine lv_iconst (v := (nI 0)) F.1 F.2.1 dX8_input_1 (by decide) ?_
  refine z_put F B 0 rfl (ci := 10) (C := RX8) (T := TX8) (N := 37) rfl iX8_input_X8 tyX8 tyX8_ok nmX8 0 (by decide) fX8_input_79 rfl (v := .int (nI 0)) rfl rfl (Nat.le_of_ble_eq_true rfl) dX8_input_2 (fun H locs B => ?_)
  have B : zB D (zT cI cZ cG cJ) A s.heap s [(mm, .inr (10, zmo (nI 0) (nI q) (nI g) (nI t) (nI r) (nI mb) (nI nc) (nI nl) (nI pv) (nI va) (nI n3) (nI ve) (nI ed) (nI se) (nI ci) (nI mr) (nI mt) (nI ld) A8)), (A8 5, .inl (cI, 4, .inl fp))] _ _ := B
  refine lv_iload_n F.1 F.2.1 dX8_input_5 rfl (lv_at hl 1 rfl) ?_
  refine lv_iconst (v := (nI 0)) F.1 F.2.1 dX8_input_6 (by decide) ?_
  refine lv_aload_n F.1 F.2.1 dX8_input_7 rfl (lv_at hl 0 rfl) ?_
  refine z_get F B 0 rfl (ci := 10) (C := RX8) (T := TX8) (N := 37) rfl iX8_input_X8 3 (by decide) fX8_input_16 rfl dX8_input_8 ?_
  refine z_callS (wr := [(mm, .inr (10, zmo (nI 0) (nI q) (nI g) (nI t) (nI r) (nI mb) (nI nc) (nI nl) (nI pv) (nI va) (nI n3) (nI ve) (nI ed) (nI se) (nI ci) (nI mr) (nI mt) (nI ld) A8)), (A8 5, .inl (cI, 4, .inl fp))]) (rest := []) (As := [.int u1, .int (nI 0), .int (nI t)]) F B (kX8_in l D cI cZ cG cJ u1 (nI 0) (nI t)) hl.1 gX8_input_X8_in rfl 3 yX8_input_X8_in rfl [] [0, 1] rfl rfl rfl rfl (by decide) (Nat.le_of_ble_eq_true rfl) (Nat.le_of_ble_eq_true rfl) (Nat.le_of_ble_eq_true rfl) rfl dX8_input_11 (show 0 + 0 ≤ 0 by omega) (show 0 + 0 ≤ 0 by omega) (fun vv ww H locs hRR B => ?_)
  obtain ⟨r_1, rfl, rfl, hb_2⟩ := hRR
  have B : zB D (zT cI cZ cG cJ) A s.heap s [(mm, .inr (10, zmo (nI 0) (nI q) (nI g) (nI t) (nI r) (nI mb) (nI nc) (nI nl) (nI pv) (nI va) (nI n3) (nI ve) (nI ed) (nI se) (nI ci) (nI mr) (nI mt) (nI ld) A8)), (A8 5, .inl (cI, 4, .inl fp))] _ _ := B
  rcases hb_2 with ⟨hr1, g1⟩ | ⟨hr1, g1⟩ <;> subst hr1
  · refine W.eq (g2 := F0 m 14 ls [.int 1]) rfl ?_
    have g1 := (zqM (n := t + 1) (by omega) (by omega)).mp g1
    have g1e := zn_eq g1.1
    have g1l := zn_lt g1
    rw [g1e] at hl
    have hl : lv_has ls 3 [(0, .ref mm), (1, .int (nI (zn u1))), (2, .int u2)] := hl
    refine lv_if_eq (tgt := 31) F.1 F.2.1 dX8_input_14 (by decide) (fun hq => absurd hq (by decide)) (fun _ => ?_)
    refine lv_iload_n F.1 F.2.1 dX8_input_17 rfl (lv_at hl 2 rfl) ?_
    refine lv_iconst (v := (nI 0)) F.1 F.2.1 dX8_input_18 (by decide) ?_
    refine lv_aload_n F.1 F.2.1 dX8_input_19 rfl (lv_at hl 0 rfl) ?_
    refine z_get F B 0 rfl (ci := 10) (C := RX8) (T := TX8) (N := 37) rfl iX8_input_X8 2 (by decide) fX8_input_13 rfl dX8_input_20 ?_
    refine lv_iconst (v := (nI 1)) F.1 F.2.1 dX8_input_23 (by decide) ?_
    refine z_isub F (by omega) dX8_input_24 ?_
    refine z_callS (wr := [(mm, .inr (10, zmo (nI 0) (nI q) (nI g) (nI t) (nI r) (nI mb) (nI nc) (nI nl) (nI pv) (nI va) (nI n3) (nI ve) (nI ed) (nI se) (nI ci) (nI mr) (nI mt) (nI ld) A8)), (A8 5, .inl (cI, 4, .inl fp))]) (rest := []) (As := [.int u2, .int (nI 0), .int (nI (g - 1))]) F B (kX8_in l D cI cZ cG cJ u2 (nI 0) (nI (g - 1))) hl.1 gX8_input_X8_in rfl 3 yX8_input_X8_in rfl [] [0, 1] rfl rfl rfl rfl (by decide) (Nat.le_of_ble_eq_true rfl) (Nat.le_of_ble_eq_true rfl) (Nat.le_of_ble_eq_true rfl) rfl dX8_input_25 (show 0 + 0 ≤ 0 by omega) (show 0 + 0 ≤ 0 by omega) (fun vv ww H locs hRR B => ?_)
    obtain ⟨r_3, rfl, rfl, hb_4⟩ := hRR
    have B : zB D (zT cI cZ cG cJ) A s.heap s [(mm, .inr (10, zmo (nI 0) (nI q) (nI g) (nI t) (nI r) (nI mb) (nI nc) (nI nl) (nI pv) (nI va) (nI n3) (nI ve) (nI ed) (nI se) (nI ci) (nI mr) (nI mt) (nI ld) A8)), (A8 5, .inl (cI, 4, .inl fp))] _ _ := B
    rcases hb_4 with ⟨hr1, g2⟩ | ⟨hr1, g2⟩ <;> subst hr1
    · refine W.eq (g2 := F0 m 28 ls [.int 1]) rfl ?_
      have g2 := (zqM (n := g) (by omega) (by omega)).mp g2
      refine lv_if_ne (tgt := 33) F.1 F.2.1 dX8_input_28 (by decide) (fun _ => ?_) (fun hq => absurd hq (by decide))
      refine lv_aload_n F.1 F.2.1 dX8_input_33 rfl (lv_at hl 0 rfl) ?_
      refine z_get F B 0 rfl (ci := 10) (C := RX8) (T := TX8) (N := 37) rfl iX8_input_X8 10 (by decide) fX8_input_35 rfl dX8_input_34 ?_
      refine lv_iload_n F.1 F.2.1 dX8_input_37 rfl (lv_at hl 1 rfl) ?_
      refine lv_iload_n F.1 F.2.1 dX8_input_38 rfl (lv_at hl 2 rfl) ?_
      refine z_iast F B 1 0 rfl rfl (j := zn u1) (by omega) (by omega) dX8_input_39 (fun H locs B => ?_)
      have B : zB D (zT cI cZ cG cJ) A s.heap s [(mm, .inr (10, zmo (nI 0) (nI q) (nI g) (nI t) (nI r) (nI mb) (nI nc) (nI nl) (nI pv) (nI va) (nI n3) (nI ve) (nI ed) (nI se) (nI ci) (nI mr) (nI mt) (nI ld) A8)), (A8 5, .inl (cI, 4, .inl (upd fp (zn u1) u2)))] _ _ := B
      refine lv_aload_n F.1 F.2.1 dX8_input_40 rfl (lv_at hl 0 rfl) ?_
      refine z_callV (wr := [(A8 5, .inl (cI, 4, .inl (upd fp (zn u1) u2)))]) (rest := []) (As := []) F B (kX8_unbuild l D cI cZ cG cJ mm 0 q g t r mb nc nl pv va n3 ve ed se ci mr mt ld A8) hl.1 (C := RX8) (T := TX8) (N := 37) (ci := 10) (q0 := 0) gX8_input_X8_unbuild rfl 0 yX8_input_X8_unbuild rfl rfl rfl [0] [1] rfl rfl rfl rfl (by decide) (Nat.le_of_ble_eq_true rfl) (Nat.le_of_ble_eq_true rfl) (Nat.le_of_ble_eq_true rfl) rfl dX8_input_41 (show 0 + 0 ≤ 0 by omega) (show 0 + 0 ≤ 0 by omega) (fun vv ww H locs hRR B => ?_)
      obtain ⟨rfl, rfl⟩ := hRR
      have B : zB D (zT cI cZ cG cJ) A s.heap s [(A8 5, .inl (cI, 4, .inl (upd fp (zn u1) u2))), (mm, .inr (10, zmo (nI 0) (nI q) (nI g) (nI t) (nI r) (nI 0) (nI nc) (nI nl) (nI pv) (nI va) (nI n3) (nI ve) (nI ed) (nI se) (nI ci) (nI 0) (nI 0) (nI ld) A8))] _ _ := B
      refine W.eq (g2 := F0 m 44 ls []) rfl ?_
      refine lv_iconst (v := (nI 1)) F.1 F.2.1 dX8_input_44 (by decide) ?_
      exact z_zret F hr hlk B (Or.inr rfl) [1, 0] rfl (rfl) dX8_input_45 (by omega) (by omega) ⟨(nI 1), 0, 0, 0, (upd fp (zn u1) u2), rfl, rfl, Or.inl ⟨rfl, ⟨g1, g2⟩⟩, (Or.inl ⟨⟨g1, g2⟩, rfl, rfl, rfl, rfl⟩)⟩
    · refine W.eq (g2 := F0 m 28 ls [.int 0]) rfl ?_
      have g2 : ¬ zq u2 g := fun q9 => g2 ((zqM (n := g) (by omega) (by omega)).mpr q9)
      refine lv_if_ne (tgt := 33) F.1 F.2.1 dX8_input_28 (by decide) (fun hq => absurd (by decide) hq) (fun _ => ?_)
      refine lv_iconst (v := (nI 0)) F.1 F.2.1 dX8_input_31 (by decide) ?_
      exact z_zret F hr hlk B (Or.inl rfl) [0, 1] rfl (rfl) dX8_input_32 (by omega) (by omega) ⟨(nI 0), mb, mr, mt, fp, rfl, rfl, Or.inr ⟨rfl, fun q9 => by first | exact g1 q9.1 | exact g2 q9.2⟩, (Or.inr ⟨fun q9 => by first | exact g1 q9.1 | exact g2 q9.2, rfl, rfl, rfl, rfl⟩)⟩
  · refine W.eq (g2 := F0 m 14 ls [.int 0]) rfl ?_
    have g1 : ¬ zq u1 (t + 1) := fun q9 => g1 ((zqM (n := t + 1) (by omega) (by omega)).mpr q9)
    refine lv_if_eq (tgt := 31) F.1 F.2.1 dX8_input_14 (by decide) (fun _ => ?_) (fun hq => absurd (by decide) hq)
    refine lv_iconst (v := (nI 0)) F.1 F.2.1 dX8_input_31 (by decide) ?_
    exact z_zret F hr hlk B (Or.inl rfl) [0, 1] rfl (rfl) dX8_input_32 (by omega) (by omega) ⟨(nI 0), mb, mr, mt, fp, rfl, rfl, Or.inr ⟨rfl, fun q9 => by first | exact g1 q9.1 | exact g2 q9.2⟩, (Or.inr ⟨fun q9 => by first | exact g1 q9.1 | exact g2 q9.2, rfl, rfl, rfl, rfl⟩)⟩
theorem iX8_c_X8 : ∀ w ∈ u_ws RX8 TX8 37, w ∈ wsX8_c := fun w h => List.mem_cons_of_mem _ (List.mem_append_right _ h)
theorem fX8_c_16 : Cond.fieldLink RX8 16 "TourChainModel" "bound" "I" ∈ wsX8_c := by decide +kernel
theorem fX8_c_13 : Cond.fieldLink RX8 13 "TourChainModel" "symbols" "I" ∈ wsX8_c := by decide +kernel
set_option maxHeartbeats 4000000 in
set_option maxRecDepth 100000 in
theorem kX8_c (l : Launch) (D : va_G) (cI cZ cG cJ : ClassId) (mm : Nat) (th : Nat) (q : Nat) (g : Nat) (t : Nat) (r : Nat) (mb : Nat) (nc : Nat) (nl : Nat) (pv : Nat) (va : Nat) (n3 : Nat) (ve : Nat) (ed : Nat) (se : Nat) (ci : Nat) (mr : Nat) (mt : Nat) (ld : Nat) (A8 : Nat → Nat) (i : Nat) (y : Nat) (a : Nat)  : zC l yX8_c wsX8_c 0 0 0 0 D (zT cI cZ cG cJ) [.ref mm, .int (nI i), .int (nI y), .int (nI a)] [(mm, .inr (10, zmo (nI th) (nI q) (nI g) (nI t) (nI r) (nI mb) (nI nc) (nI nl) (nI pv) (nI va) (nI n3) (nI ve) (nI ed) (nI se) (nI ci) (nI mr) (nI mt) (nI ld) A8))] (fun (ov : Option Value) (ow : va_W) => ov = some (.int (nI (zcv t g i y a))) ∧ ow = [(mm, .inr (10, zmo (nI th) (nI q) (nI g) (nI t) (nI r) (nI mb) (nI nc) (nI nl) (nI pv) (nI va) (nI n3) (nI ve) (nI ed) (nI se) (nI ci) (nI mr) (nI mt) (nI ld) A8))]) := by
  refine zC.of (cc := cX8_c) (maxL := 4) (ret := (some .int)) (by decide) rfl (Nat.le_of_ble_eq_true rfl) ?_
  intro p e s m below meth c A ls F hr hlk hnm B hl
  have hl : lv_has ls 4 [(0, .ref mm), (1, .int (nI i)), (2, .int (nI y)), (3, .int (nI a))] := hl
  refine lv_iload_n F.1 F.2.1 dX8_c_0 rfl (lv_at hl 1 rfl) ?_
  refine lv_aload_n F.1 F.2.1 dX8_c_1 rfl (lv_at hl 0 rfl) ?_
  refine z_get F B 0 rfl (ci := 10) (C := RX8) (T := TX8) (N := 37) rfl iX8_c_X8 3 (by decide) fX8_c_16 rfl dX8_c_2 ?_
  refine lv_iconst (v := (nI 1)) F.1 F.2.1 dX8_c_5 (by decide) ?_
  refine z_iadd F dX8_c_6 ?_
  refine z_imul F dX8_c_7 ?_
  refine lv_iload_n F.1 F.2.1 dX8_c_8 rfl (lv_at hl 2 rfl) ?_
  refine z_iadd F dX8_c_9 ?_
  refine lv_aload_n F.1 F.2.1 dX8_c_10 rfl (lv_at hl 0 rfl) ?_
  refine z_get F B 0 rfl (ci := 10) (C := RX8) (T := TX8) (N := 37) rfl iX8_c_X8 2 (by decide) fX8_c_13 rfl dX8_c_11 ?_
  refine z_imul F dX8_c_14 ?_
  refine lv_iload_n F.1 F.2.1 dX8_c_15 rfl (lv_at hl 3 rfl) ?_
  refine z_iadd F dX8_c_16 ?_
  exact z_iret F hr hlk B [0] rfl (rfl) dX8_c_17 (by omega) (by omega) ⟨rfl, rfl⟩
theorem iX8_h_X8 : ∀ w ∈ u_ws RX8 TX8 37, w ∈ wsX8_h := fun w h => List.mem_cons_of_mem _ (List.mem_append_right _ h)
theorem fX8_h_16 : Cond.fieldLink RX8 16 "TourChainModel" "bound" "I" ∈ wsX8_h := by decide +kernel
theorem yX8_h_X8_c : yX8_c.cls = RX8 ∧ yX8_c.cls ≠ "java/lang/invoke/MethodHandle" ∧ yX8_c.cls ≠ "java/lang/invoke/VarHandle" ∧ (parseMethodDescriptor yX8_c.desc).map (fun d => d.parameters.length) = some 3 := by decide +kernel
set_option maxHeartbeats 4000000 in
set_option maxRecDepth 100000 in
theorem kX8_h (l : Launch) (D : va_G) (cI cZ cG cJ : ClassId) (mm : Nat) (th : Nat) (q : Nat) (g : Nat) (t : Nat) (r : Nat) (mb : Nat) (nc : Nat) (nl : Nat) (pv : Nat) (va : Nat) (n3 : Nat) (ve : Nat) (ed : Nat) (se : Nat) (ci : Nat) (mr : Nat) (mt : Nat) (ld : Nat) (A8 : Nat → Nat) (i : Nat) (y : Nat)  : zC l yX8_h wsX8_h 1 23 0 0 D (zT cI cZ cG cJ) [.ref mm, .int (nI i), .int (nI y)] [(mm, .inr (10, zmo (nI th) (nI q) (nI g) (nI t) (nI r) (nI mb) (nI nc) (nI nl) (nI pv) (nI va) (nI n3) (nI ve) (nI ed) (nI se) (nI ci) (nI mr) (nI mt) (nI ld) A8))] (fun (ov : Option Value) (ow : va_W) => ov = some (.int (nI (zhv (zfh t g) t i y))) ∧ ow = [(mm, .inr (10, zmo (nI th) (nI q) (nI g) (nI t) (nI r) (nI mb) (nI nc) (nI nl) (nI pv) (nI va) (nI n3) (nI ve) (nI ed) (nI se) (nI ci) (nI mr) (nI mt) (nI ld) A8))]) := by
  refine zC.of (cc := cX8_h) (maxL := 3) (ret := (some .int)) (by decide) rfl (Nat.le_of_ble_eq_true rfl) ?_
  intro p e s m below meth c A ls F hr hlk hnm B hl
  have hl : lv_has ls 3 [(0, .ref mm), (1, .int (nI i)), (2, .int (nI y))] := hl
  refine lv_aload_n F.1 F.2.1 dX8_h_0 rfl (lv_at hl 0 rfl) ?_
  refine lv_aload_n F.1 F.2.1 dX8_h_1 rfl (lv_at hl 0 rfl) ?_
  refine z_get F B 0 rfl (ci := 10) (C := RX8) (T := TX8) (N := 37) rfl iX8_h_X8 3 (by decide) fX8_h_16 rfl dX8_h_2 ?_
  refine lv_iconst (v := (nI 1)) F.1 F.2.1 dX8_h_5 (by decide) ?_
  refine z_iadd F dX8_h_6 ?_
  refine lv_iconst (v := (nI 0)) F.1 F.2.1 dX8_h_7 (by decide) ?_
  refine lv_iconst (v := (nI 0)) F.1 F.2.1 dX8_h_8 (by decide) ?_
  refine z_callV (wr := []) (rest := []) (As := [.int (nI (t + 1)), .int (nI 0), .int (nI 0)]) F B (kX8_c l D cI cZ cG cJ mm th q g t r mb nc nl pv va n3 ve ed se ci mr mt ld A8 (t + 1) 0 0) hl.1 (C := RX8) (T := TX8) (N := 37) (ci := 10) (q0 := 0) gX8_h_X8_c rfl 3 yX8_h_X8_c rfl rfl rfl [0] [] rfl rfl rfl rfl (by decide) (Nat.le_of_ble_eq_true rfl) (Nat.le_of_ble_eq_true rfl) (Nat.le_of_ble_eq_true rfl) rfl dX8_h_9 (show 0 + 0 ≤ 0 by omega) (show 0 + 0 ≤ 0 by omega) (fun vv ww H locs hRR B => ?_)
  obtain ⟨rfl, rfl⟩ := hRR
  have B : zB D (zT cI cZ cG cJ) A s.heap s [(mm, .inr (10, zmo (nI th) (nI q) (nI g) (nI t) (nI r) (nI mb) (nI nc) (nI nl) (nI pv) (nI va) (nI n3) (nI ve) (nI ed) (nI se) (nI ci) (nI mr) (nI mt) (nI ld) A8))] _ _ := B
  refine W.eq (g2 := F0 m 12 ls [.int (nI (zcv t g (t + 1) 0 0))]) rfl ?_
  refine lv_iload_n F.1 F.2.1 dX8_h_12 rfl (lv_at hl 1 rfl) ?_
  refine lv_aload_n F.1 F.2.1 dX8_h_13 rfl (lv_at hl 0 rfl) ?_
  refine z_get F B 0 rfl (ci := 10) (C := RX8) (T := TX8) (N := 37) rfl iX8_h_X8 3 (by decide) fX8_h_16 rfl dX8_h_14 ?_
  refine lv_iconst (v := (nI 1)) F.1 F.2.1 dX8_h_17 (by decide) ?_
  refine z_iadd F dX8_h_18 ?_
  refine z_imul F dX8_h_19 ?_
  refine z_iadd F dX8_h_20 ?_
  refine lv_iload_n F.1 F.2.1 dX8_h_21 rfl (lv_at hl 2 rfl) ?_
  refine z_iadd F dX8_h_22 ?_
  exact z_iret F hr hlk B [0] rfl (rfl) dX8_h_23 (by omega) (by omega) ⟨rfl, rfl⟩
theorem iX8_q_X8 : ∀ w ∈ u_ws RX8 TX8 37, w ∈ wsX8_q := fun w h => List.mem_cons_of_mem _ (List.mem_append_right _ h)
theorem fX8_q_16 : Cond.fieldLink RX8 16 "TourChainModel" "bound" "I" ∈ wsX8_q := by decide +kernel
theorem yX8_q_X8_h : yX8_h.cls = RX8 ∧ yX8_h.cls ≠ "java/lang/invoke/MethodHandle" ∧ yX8_h.cls ≠ "java/lang/invoke/VarHandle" ∧ (parseMethodDescriptor yX8_h.desc).map (fun d => d.parameters.length) = some 2 := by decide +kernel
theorem fX8_q_7 : Cond.fieldLink RX8 7 "TourChainModel" "states" "I" ∈ wsX8_q := by decide +kernel
set_option maxHeartbeats 4000000 in
set_option maxRecDepth 100000 in
theorem kX8_q (l : Launch) (D : va_G) (cI cZ cG cJ : ClassId) (mm : Nat) (th : Nat) (q : Nat) (g : Nat) (t : Nat) (r : Nat) (mb : Nat) (nc : Nat) (nl : Nat) (pv : Nat) (va : Nat) (n3 : Nat) (ve : Nat) (ed : Nat) (se : Nat) (ci : Nat) (mr : Nat) (mt : Nat) (ld : Nat) (A8 : Nat → Nat) (i : Nat) (u : Nat)  : zC l yX8_q wsX8_q 2 45 0 0 D (zT cI cZ cG cJ) [.ref mm, .int (nI i), .int (nI u)] [(mm, .inr (10, zmo (nI th) (nI q) (nI g) (nI t) (nI r) (nI mb) (nI nc) (nI nl) (nI pv) (nI va) (nI n3) (nI ve) (nI ed) (nI se) (nI ci) (nI mr) (nI mt) (nI ld) A8))] (fun (ov : Option Value) (ow : va_W) => ov = some (.int (nI (zsv (zfs t g) q i u))) ∧ ow = [(mm, .inr (10, zmo (nI th) (nI q) (nI g) (nI t) (nI r) (nI mb) (nI nc) (nI nl) (nI pv) (nI va) (nI n3) (nI ve) (nI ed) (nI se) (nI ci) (nI mr) (nI mt) (nI ld) A8))]) := by
  refine zC.of (cc := cX8_q) (maxL := 3) (ret := (some .int)) (by decide) rfl (Nat.le_of_ble_eq_true rfl) ?_
  intro p e s m below meth c A ls F hr hlk hnm B hl
  have hl : lv_has ls 3 [(0, .ref mm), (1, .int (nI i)), (2, .int (nI u))] := hl
  refine lv_aload_n F.1 F.2.1 dX8_q_0 rfl (lv_at hl 0 rfl) ?_
  refine lv_aload_n F.1 F.2.1 dX8_q_1 rfl (lv_at hl 0 rfl) ?_
  refine z_get F B 0 rfl (ci := 10) (C := RX8) (T := TX8) (N := 37) rfl iX8_q_X8 3 (by decide) fX8_q_16 rfl dX8_q_2 ?_
  refine lv_iconst (v := (nI 1)) F.1 F.2.1 dX8_q_5 (by decide) ?_
  refine z_iadd F dX8_q_6 ?_
  refine lv_iconst (v := (nI 0)) F.1 F.2.1 dX8_q_7 (by decide) ?_
  refine z_callV (wr := []) (rest := []) (As := [.int (nI (t + 1)), .int (nI 0)]) F B (kX8_h l D cI cZ cG cJ mm th q g t r mb nc nl pv va n3 ve ed se ci mr mt ld A8 (t + 1) 0) hl.1 (C := RX8) (T := TX8) (N := 37) (ci := 10) (q0 := 0) gX8_q_X8_h rfl 2 yX8_q_X8_h rfl rfl rfl [0] [] rfl rfl rfl rfl (by decide) (Nat.le_of_ble_eq_true rfl) (Nat.le_of_ble_eq_true rfl) (Nat.le_of_ble_eq_true rfl) rfl dX8_q_8 (show 0 + 0 ≤ 0 by omega) (show 0 + 0 ≤ 0 by omega) (fun vv ww H locs hRR B => ?_)
  obtain ⟨rfl, rfl⟩ := hRR
  have B : zB D (zT cI cZ cG cJ) A s.heap s [(mm, .inr (10, zmo (nI th) (nI q) (nI g) (nI t) (nI r) (nI mb) (nI nc) (nI nl) (nI pv) (nI va) (nI n3) (nI ve) (nI ed) (nI se) (nI ci) (nI mr) (nI mt) (nI ld) A8))] _ _ := B
  refine W.eq (g2 := F0 m 11 ls [.int (nI (zhv (zfh t g) t (t + 1) 0))]) rfl ?_
  refine lv_iload_n F.1 F.2.1 dX8_q_11 rfl (lv_at hl 1 rfl) ?_
  refine lv_aload_n F.1 F.2.1 dX8_q_12 rfl (lv_at hl 0 rfl) ?_
  refine z_get F B 0 rfl (ci := 10) (C := RX8) (T := TX8) (N := 37) rfl iX8_q_X8 1 (by decide) fX8_q_7 rfl dX8_q_13 ?_
  refine z_imul F dX8_q_16 ?_
  refine z_iadd F dX8_q_17 ?_
  refine lv_iload_n F.1 F.2.1 dX8_q_18 rfl (lv_at hl 2 rfl) ?_
  refine z_iadd F dX8_q_19 ?_
  exact z_iret F hr hlk B [0] rfl (rfl) dX8_q_20 (by omega) (by omega) ⟨rfl, rfl⟩
theorem iX8_k_X8 : ∀ w ∈ u_ws RX8 TX8 37, w ∈ wsX8_k := fun w h => List.mem_cons_of_mem _ (List.mem_append_right _ h)
theorem fX8_k_16 : Cond.fieldLink RX8 16 "TourChainModel" "bound" "I" ∈ wsX8_k := by decide +kernel
theorem yX8_k_X8_q : yX8_q.cls = RX8 ∧ yX8_q.cls ≠ "java/lang/invoke/MethodHandle" ∧ yX8_q.cls ≠ "java/lang/invoke/VarHandle" ∧ (parseMethodDescriptor yX8_q.desc).map (fun d => d.parameters.length) = some 2 := by decide +kernel
theorem fX8_k_96 : Cond.fieldLink RX8 96 "TourChainModel" "rules" "I" ∈ wsX8_k := by decide +kernel
set_option maxHeartbeats 4000000 in
set_option maxRecDepth 100000 in
theorem kX8_k (l : Launch) (D : va_G) (cI cZ cG cJ : ClassId) (mm : Nat) (th : Nat) (q : Nat) (g : Nat) (t : Nat) (r : Nat) (mb : Nat) (nc : Nat) (nl : Nat) (pv : Nat) (va : Nat) (n3 : Nat) (ve : Nat) (ed : Nat) (se : Nat) (ci : Nat) (mr : Nat) (mt : Nat) (ld : Nat) (A8 : Nat → Nat) (i : Nat) (k : Nat)  : zC l yX8_k wsX8_k 3 67 0 0 D (zT cI cZ cG cJ) [.ref mm, .int (nI i), .int (nI k)] [(mm, .inr (10, zmo (nI th) (nI q) (nI g) (nI t) (nI r) (nI mb) (nI nc) (nI nl) (nI pv) (nI va) (nI n3) (nI ve) (nI ed) (nI se) (nI ci) (nI mr) (nI mt) (nI ld) A8))] (fun (ov : Option Value) (ow : va_W) => ov = some (.int (nI (zkv (zfk t g q) r i k))) ∧ ow = [(mm, .inr (10, zmo (nI th) (nI q) (nI g) (nI t) (nI r) (nI mb) (nI nc) (nI nl) (nI pv) (nI va) (nI n3) (nI ve) (nI ed) (nI se) (nI ci) (nI mr) (nI mt) (nI ld) A8))]) := by
  refine zC.of (cc := cX8_k) (maxL := 3) (ret := (some .int)) (by decide) rfl (Nat.le_of_ble_eq_true rfl) ?_
  intro p e s m below meth c A ls F hr hlk hnm B hl
  have hl : lv_has ls 3 [(0, .ref mm), (1, .int (nI i)), (2, .int (nI k))] := hl
  refine lv_aload_n F.1 F.2.1 dX8_k_0 rfl (lv_at hl 0 rfl) ?_
  refine lv_aload_n F.1 F.2.1 dX8_k_1 rfl (lv_at hl 0 rfl) ?_
  refine z_get F B 0 rfl (ci := 10) (C := RX8) (T := TX8) (N := 37) rfl iX8_k_X8 3 (by decide) fX8_k_16 rfl dX8_k_2 ?_
  refine lv_iconst (v := (nI 1)) F.1 F.2.1 dX8_k_5 (by decide) ?_
  refine z_iadd F dX8_k_6 ?_
  refine lv_iconst (v := (nI 0)) F.1 F.2.1 dX8_k_7 (by decide) ?_
  refine z_callV (wr := []) (rest := []) (As := [.int (nI (t + 1)), .int (nI 0)]) F B (kX8_q l D cI cZ cG cJ mm th q g t r mb nc nl pv va n3 ve ed se ci mr mt ld A8 (t + 1) 0) hl.1 (C := RX8) (T := TX8) (N := 37) (ci := 10) (q0 := 0) gX8_k_X8_q rfl 2 yX8_k_X8_q rfl rfl rfl [0] [] rfl rfl rfl rfl (by decide) (Nat.le_of_ble_eq_true rfl) (Nat.le_of_ble_eq_true rfl) (Nat.le_of_ble_eq_true rfl) rfl dX8_k_8 (show 0 + 0 ≤ 0 by omega) (show 0 + 0 ≤ 0 by omega) (fun vv ww H locs hRR B => ?_)
  obtain ⟨rfl, rfl⟩ := hRR
  have B : zB D (zT cI cZ cG cJ) A s.heap s [(mm, .inr (10, zmo (nI th) (nI q) (nI g) (nI t) (nI r) (nI mb) (nI nc) (nI nl) (nI pv) (nI va) (nI n3) (nI ve) (nI ed) (nI se) (nI ci) (nI mr) (nI mt) (nI ld) A8))] _ _ := B
  refine W.eq (g2 := F0 m 11 ls [.int (nI (zsv (zfs t g) q (t + 1) 0))]) rfl ?_
  refine lv_iload_n F.1 F.2.1 dX8_k_11 rfl (lv_at hl 1 rfl) ?_
  refine lv_aload_n F.1 F.2.1 dX8_k_12 rfl (lv_at hl 0 rfl) ?_
  refine z_get F B 0 rfl (ci := 10) (C := RX8) (T := TX8) (N := 37) rfl iX8_k_X8 4 (by decide) fX8_k_96 rfl dX8_k_13 ?_
  refine lv_iconst (v := (nI 1)) F.1 F.2.1 dX8_k_16 (by decide) ?_
  refine z_iadd F dX8_k_17 ?_
  refine z_imul F dX8_k_18 ?_
  refine z_iadd F dX8_k_19 ?_
  refine lv_iload_n F.1 F.2.1 dX8_k_20 rfl (lv_at hl 2 rfl) ?_
  refine z_iadd F dX8_k_21 ?_
  exact z_iret F hr hlk B [0] rfl (rfl) dX8_k_22 (by omega) (by omega) ⟨rfl, rfl⟩
theorem iX8_is_X8 : ∀ w ∈ u_ws RX8 TX8 37, w ∈ wsX8_is := fun w h => List.mem_cons_of_mem _ (List.mem_append_right _ h)
theorem fX8_is_41 : Cond.fieldLink RX8 41 "TourChainModel" "literal" "[I" ∈ wsX8_is := by decide +kernel
theorem fX8_is_113 : Cond.fieldLink RX8 113 "TourChainModel" "literals" "I" ∈ wsX8_is := by decide +kernel
set_option maxHeartbeats 4000000 in
set_option maxRecDepth 100000 in
theorem kX8_is (l : Launch) (D : va_G) (cI cZ cG cJ : ClassId) (mm : Nat) (th : Nat) (q : Nat) (g : Nat) (t : Nat) (r : Nat) (mb : Nat) (nc : Nat) (nl : Nat) (pv : Nat) (va : Nat) (n3 : Nat) (ve : Nat) (ed : Nat) (se : Nat) (ci : Nat) (mr : Nat) (mt : Nat) (ld : Nat) (A8 : Nat → Nat) (fl : Nat → Int32) (L : List Nat) (x : Nat) (hR : zR fl nl L) (hb : nl < 2400) : zC l yX8_is wsX8_is 0 0 0 0 D (zT cI cZ cG cJ) [.ref mm, .int (nI x)] [(mm, .inr (10, zmo (nI th) (nI q) (nI g) (nI t) (nI r) (nI mb) (nI nc) (nI nl) (nI pv) (nI va) (nI n3) (nI ve) (nI ed) (nI se) (nI ci) (nI mr) (nI mt) (nI ld) A8)), (A8 7, .inl (cI, 2400, .inl fl))] (fun (ov : Option Value) (ow : va_W) => ∃ fl' : Nat → Int32, ov = none ∧ ow = [(mm, .inr (10, zmo (nI th) (nI q) (nI g) (nI t) (nI r) (nI mb) (nI nc) (nI (nl + 1)) (nI pv) (nI va) (nI n3) (nI ve) (nI ed) (nI se) (nI ci) (nI mr) (nI mt) (nI ld) A8)), (A8 7, .inl (cI, 2400, .inl fl'))] ∧ (zR fl' (nl + 1) (L ++ [2 * x]))) := by
  refine zC.of (cc := cX8_is) (maxL := 2) (ret := none) (by decide) rfl (Nat.le_of_ble_eq_true rfl) ?_
  intro p e s m below meth c A ls F hr hlk hnm B hl
  have hl : lv_has ls 2 [(0, .ref mm), (1, .int (nI x))] := hl
  refine lv_aload_n F.1 F.2.1 dX8_is_0 rfl (lv_at hl 0 rfl) ?_
  refine z_get F B 0 rfl (ci := 10) (C := RX8) (T := TX8) (N := 37) rfl iX8_is_X8 18 (by decide) fX8_is_41 rfl dX8_is_1 ?_
  refine lv_aload_n F.1 F.2.1 dX8_is_4 rfl (lv_at hl 0 rfl) ?_
  refine z_get F B 0 rfl (ci := 10) (C := RX8) (T := TX8) (N := 37) rfl iX8_is_X8 13 (by decide) fX8_is_113 rfl dX8_is_5 ?_
  refine lv_iconst (v := (nI 2)) F.1 F.2.1 dX8_is_8 (by decide) ?_
  refine lv_iload_n F.1 F.2.1 dX8_is_9 rfl (lv_at hl 1 rfl) ?_
  refine z_imul F dX8_is_10 ?_
  refine z_iast F B 1 0 rfl rfl (j := nl) (by omega) (by omega) dX8_is_11 (fun H locs B => ?_)
  have B : zB D (zT cI cZ cG cJ) A s.heap s [(mm, .inr (10, zmo (nI th) (nI q) (nI g) (nI t) (nI r) (nI mb) (nI nc) (nI nl) (nI pv) (nI va) (nI n3) (nI ve) (nI ed) (nI se) (nI ci) (nI mr) (nI mt) (nI ld) A8)), (A8 7, .inl (cI, 2400, .inl (upd fl nl (nI (2 * x)))))] _ _ := B
  refine lv_aload_n F.1 F.2.1 dX8_is_12 rfl (lv_at hl 0 rfl) ?_
  refine lv_dup F.1 F.2.1 dX8_is_13 rfl ?_
  refine z_get F B 0 rfl (ci := 10) (C := RX8) (T := TX8) (N := 37) rfl iX8_is_X8 13 (by decide) fX8_is_113 rfl dX8_is_14 ?_
  refine lv_iconst (v := (nI 1)) F.1 F.2.1 dX8_is_17 (by decide) ?_
  refine z_iadd F dX8_is_18 ?_
  refine z_put F B 0 rfl (ci := 10) (C := RX8) (T := TX8) (N := 37) rfl iX8_is_X8 tyX8 tyX8_ok nmX8 13 (by decide) fX8_is_113 rfl (v := .int (nI (nl + 1))) rfl rfl (Nat.le_of_ble_eq_true rfl) dX8_is_19 (fun H locs B => ?_)
  have B : zB D (zT cI cZ cG cJ) A s.heap s [(mm, .inr (10, zmo (nI th) (nI q) (nI g) (nI t) (nI r) (nI mb) (nI nc) (nI (nl + 1)) (nI pv) (nI va) (nI n3) (nI ve) (nI ed) (nI se) (nI ci) (nI mr) (nI mt) (nI ld) A8)), (A8 7, .inl (cI, 2400, .inl (upd fl nl (nI (2 * x)))))] _ _ := B
  exact z_vret F hr hlk B [0, 1] rfl (rfl) dX8_is_22 (by omega) (by omega) ⟨(upd fl nl (nI (2 * x))), rfl, rfl, (zR_add hR (fun i hi => pk_un (by omega)) pk_us)⟩
theorem iX8_not_X8 : ∀ w ∈ u_ws RX8 TX8 37, w ∈ wsX8_not := fun w h => List.mem_cons_of_mem _ (List.mem_append_right _ h)
theorem fX8_not_41 : Cond.fieldLink RX8 41 "TourChainModel" "literal" "[I" ∈ wsX8_not := by decide +kernel
theorem fX8_not_113 : Cond.fieldLink RX8 113 "TourChainModel" "literals" "I" ∈ wsX8_not := by decide +kernel
set_option maxHeartbeats 4000000 in
set_option maxRecDepth 100000 in
theorem kX8_not (l : Launch) (D : va_G) (cI cZ cG cJ : ClassId) (mm : Nat) (th : Nat) (q : Nat) (g : Nat) (t : Nat) (r : Nat) (mb : Nat) (nc : Nat) (nl : Nat) (pv : Nat) (va : Nat) (n3 : Nat) (ve : Nat) (ed : Nat) (se : Nat) (ci : Nat) (mr : Nat) (mt : Nat) (ld : Nat) (A8 : Nat → Nat) (fl : Nat → Int32) (L : List Nat) (x : Nat) (hR : zR fl nl L) (hb : nl < 2400) : zC l yX8_not wsX8_not 0 0 0 0 D (zT cI cZ cG cJ) [.ref mm, .int (nI x)] [(mm, .inr (10, zmo (nI th) (nI q) (nI g) (nI t) (nI r) (nI mb) (nI nc) (nI nl) (nI pv) (nI va) (nI n3) (nI ve) (nI ed) (nI se) (nI ci) (nI mr) (nI mt) (nI ld) A8)), (A8 7, .inl (cI, 2400, .inl fl))] (fun (ov : Option Value) (ow : va_W) => ∃ fl' : Nat → Int32, ov = none ∧ ow = [(mm, .inr (10, zmo (nI th) (nI q) (nI g) (nI t) (nI r) (nI mb) (nI nc) (nI (nl + 1)) (nI pv) (nI va) (nI n3) (nI ve) (nI ed) (nI se) (nI ci) (nI mr) (nI mt) (nI ld) A8)), (A8 7, .inl (cI, 2400, .inl fl'))] ∧ (zR fl' (nl + 1) (L ++ [2 * x + 1]))) := by
  refine zC.of (cc := cX8_not) (maxL := 2) (ret := none) (by decide) rfl (Nat.le_of_ble_eq_true rfl) ?_
  intro p e s m below meth c A ls F hr hlk hnm B hl
  have hl : lv_has ls 2 [(0, .ref mm), (1, .int (nI x))] := hl
  refine lv_aload_n F.1 F.2.1 dX8_not_0 rfl (lv_at hl 0 rfl) ?_
  refine z_get F B 0 rfl (ci := 10) (C := RX8) (T := TX8) (N := 37) rfl iX8_not_X8 18 (by decide) fX8_not_41 rfl dX8_not_1 ?_
  refine lv_aload_n F.1 F.2.1 dX8_not_4 rfl (lv_at hl 0 rfl) ?_
  refine z_get F B 0 rfl (ci := 10) (C := RX8) (T := TX8) (N := 37) rfl iX8_not_X8 13 (by decide) fX8_not_113 rfl dX8_not_5 ?_
  refine lv_iconst (v := (nI 2)) F.1 F.2.1 dX8_not_8 (by decide) ?_
  refine lv_iload_n F.1 F.2.1 dX8_not_9 rfl (lv_at hl 1 rfl) ?_
  refine z_imul F dX8_not_10 ?_
  refine lv_iconst (v := (nI 1)) F.1 F.2.1 dX8_not_11 (by decide) ?_
  refine z_iadd F dX8_not_12 ?_
  refine z_iast F B 1 0 rfl rfl (j := nl) (by omega) (by omega) dX8_not_13 (fun H locs B => ?_)
  have B : zB D (zT cI cZ cG cJ) A s.heap s [(mm, .inr (10, zmo (nI th) (nI q) (nI g) (nI t) (nI r) (nI mb) (nI nc) (nI nl) (nI pv) (nI va) (nI n3) (nI ve) (nI ed) (nI se) (nI ci) (nI mr) (nI mt) (nI ld) A8)), (A8 7, .inl (cI, 2400, .inl (upd fl nl (nI (2 * x + 1)))))] _ _ := B
  refine lv_aload_n F.1 F.2.1 dX8_not_14 rfl (lv_at hl 0 rfl) ?_
  refine lv_dup F.1 F.2.1 dX8_not_15 rfl ?_
  refine z_get F B 0 rfl (ci := 10) (C := RX8) (T := TX8) (N := 37) rfl iX8_not_X8 13 (by decide) fX8_not_113 rfl dX8_not_16 ?_
  refine lv_iconst (v := (nI 1)) F.1 F.2.1 dX8_not_19 (by decide) ?_
  refine z_iadd F dX8_not_20 ?_
  refine z_put F B 0 rfl (ci := 10) (C := RX8) (T := TX8) (N := 37) rfl iX8_not_X8 tyX8 tyX8_ok nmX8 13 (by decide) fX8_not_113 rfl (v := .int (nI (nl + 1))) rfl rfl (Nat.le_of_ble_eq_true rfl) dX8_not_21 (fun H locs B => ?_)
  have B : zB D (zT cI cZ cG cJ) A s.heap s [(mm, .inr (10, zmo (nI th) (nI q) (nI g) (nI t) (nI r) (nI mb) (nI nc) (nI (nl + 1)) (nI pv) (nI va) (nI n3) (nI ve) (nI ed) (nI se) (nI ci) (nI mr) (nI mt) (nI ld) A8)), (A8 7, .inl (cI, 2400, .inl (upd fl nl (nI (2 * x + 1)))))] _ _ := B
  exact z_vret F hr hlk B [0, 1] rfl (rfl) dX8_not_24 (by omega) (by omega) ⟨(upd fl nl (nI (2 * x + 1))), rfl, rfl, (zR_add hR (fun i hi => pk_un (by omega)) pk_us)⟩
theorem iX8_close_X8 : ∀ w ∈ u_ws RX8 TX8 37, w ∈ wsX8_close := fun w h => List.mem_cons_of_mem _ (List.mem_append_right _ h)
theorem fX8_close_116 : Cond.fieldLink RX8 116 "TourChainModel" "clauses" "I" ∈ wsX8_close := by decide +kernel
theorem fX8_close_38 : Cond.fieldLink RX8 38 "TourChainModel" "from" "[I" ∈ wsX8_close := by decide +kernel
theorem fX8_close_113 : Cond.fieldLink RX8 113 "TourChainModel" "literals" "I" ∈ wsX8_close := by decide +kernel
set_option maxHeartbeats 4000000 in
set_option maxRecDepth 100000 in
theorem kX8_close (l : Launch) (D : va_G) (cI cZ cG cJ : ClassId) (mm : Nat) (th : Nat) (q : Nat) (g : Nat) (t : Nat) (r : Nat) (mb : Nat) (nc : Nat) (nl : Nat) (pv : Nat) (va : Nat) (n3 : Nat) (ve : Nat) (ed : Nat) (se : Nat) (ci : Nat) (mr : Nat) (mt : Nat) (ld : Nat) (A8 : Nat → Nat) (fl : Nat → Int32) (ft : Nat → Int32) (Cs : List (List Nat)) (cl : List Nat) (hft : zR ft (nc + 1) (zst Cs)) (hR : zR fl nl (Cs.flatten ++ cl)) (hb : nc + 1 < 600) : zC l yX8_close wsX8_close 0 0 0 0 D (zT cI cZ cG cJ) [.ref mm] [(mm, .inr (10, zmo (nI th) (nI q) (nI g) (nI t) (nI r) (nI mb) (nI nc) (nI nl) (nI pv) (nI va) (nI n3) (nI ve) (nI ed) (nI se) (nI ci) (nI mr) (nI mt) (nI ld) A8)), (A8 6, .inl (cI, 600, .inl ft))] (fun (ov : Option Value) (ow : va_W) => ∃ ft' : Nat → Int32, ov = none ∧ ow = [(mm, .inr (10, zmo (nI th) (nI q) (nI g) (nI t) (nI r) (nI mb) (nI (nc + 1)) (nI nl) (nI pv) (nI va) (nI n3) (nI ve) (nI ed) (nI se) (nI ci) (nI mr) (nI mt) (nI ld) A8)), (A8 6, .inl (cI, 600, .inl ft'))] ∧ (zF fl nl ft' (nc + 1 + 1) (Cs ++ [cl]))) := by
  refine zC.of (cc := cX8_close) (maxL := 1) (ret := none) (by decide) rfl (Nat.le_of_ble_eq_true rfl) ?_
  intro p e s m below meth c A ls F hr hlk hnm B hl
  have hl : lv_has ls 1 [(0, .ref mm)] := hl
  refine lv_aload_n F.1 F.2.1 dX8_close_0 rfl (lv_at hl 0 rfl) ?_
  refine lv_dup F.1 F.2.1 dX8_close_1 rfl ?_
  refine z_get F B 0 rfl (ci := 10) (C := RX8) (T := TX8) (N := 37) rfl iX8_close_X8 12 (by decide) fX8_close_116 rfl dX8_close_2 ?_
  refine lv_iconst (v := (nI 1)) F.1 F.2.1 dX8_close_5 (by decide) ?_
  refine z_iadd F dX8_close_6 ?_
  refine z_put F B 0 rfl (ci := 10) (C := RX8) (T := TX8) (N := 37) rfl iX8_close_X8 tyX8 tyX8_ok nmX8 12 (by decide) fX8_close_116 rfl (v := .int (nI (nc + 1))) rfl rfl (Nat.le_of_ble_eq_true rfl) dX8_close_7 (fun H locs B => ?_)
  have B : zB D (zT cI cZ cG cJ) A s.heap s [(mm, .inr (10, zmo (nI th) (nI q) (nI g) (nI t) (nI r) (nI mb) (nI (nc + 1)) (nI nl) (nI pv) (nI va) (nI n3) (nI ve) (nI ed) (nI se) (nI ci) (nI mr) (nI mt) (nI ld) A8)), (A8 6, .inl (cI, 600, .inl ft))] _ _ := B
  refine lv_aload_n F.1 F.2.1 dX8_close_10 rfl (lv_at hl 0 rfl) ?_
  refine z_get F B 0 rfl (ci := 10) (C := RX8) (T := TX8) (N := 37) rfl iX8_close_X8 17 (by decide) fX8_close_38 rfl dX8_close_11 ?_
  refine lv_aload_n F.1 F.2.1 dX8_close_14 rfl (lv_at hl 0 rfl) ?_
  refine z_get F B 0 rfl (ci := 10) (C := RX8) (T := TX8) (N := 37) rfl iX8_close_X8 12 (by decide) fX8_close_116 rfl dX8_close_15 ?_
  refine lv_aload_n F.1 F.2.1 dX8_close_18 rfl (lv_at hl 0 rfl) ?_
  refine z_get F B 0 rfl (ci := 10) (C := RX8) (T := TX8) (N := 37) rfl iX8_close_X8 13 (by decide) fX8_close_113 rfl dX8_close_19 ?_
  refine z_iast F B 1 0 rfl rfl (j := nc + 1) (by omega) (by omega) dX8_close_22 (fun H locs B => ?_)
  have B : zB D (zT cI cZ cG cJ) A s.heap s [(mm, .inr (10, zmo (nI th) (nI q) (nI g) (nI t) (nI r) (nI mb) (nI (nc + 1)) (nI nl) (nI pv) (nI va) (nI n3) (nI ve) (nI ed) (nI se) (nI ci) (nI mr) (nI mt) (nI ld) A8)), (A8 6, .inl (cI, 600, .inl (upd ft (nc + 1) (nI nl))))] _ _ := B
  exact z_vret F hr hlk B [0, 1] rfl (rfl) dX8_close_23 (by omega) (by omega) ⟨(upd ft (nc + 1) (nI nl)), rfl, rfl, (zF_add hR (zR_add hft (fun i hi => pk_un (by omega)) pk_us))⟩
