/-! CONTRACT of Run.use -/
theorem zcan_ge {q r t : Nat} {rl : Nat → Nat → Nat} {h u k : Nat} {T : Nat → Nat} (hc : zcan q r t rl h u T k) (hn : ¬ k = r) : 1 ≤ h + rl 4 k := by
  rcases hc with ⟨q1, -⟩ | ⟨-, -, -, q1, -⟩
  · exact absurd q1 hn
  · exact q1
def znh (r : Nat) (rl : Nat → Nat → Nat) (h k : Nat) : Nat := if k = r then h else h + rl 4 k - 1
def znu (r : Nat) (rl : Nat → Nat → Nat) (u k : Nat) : Nat := if k = r then u else rl 2 k
def znt (r : Nat) (rl : Nat → Nat → Nat) (h : Nat) (T : Nat → Nat) (k : Nat) : Nat → Nat := if k = r then T else fun y => if y = h then rl 3 k else T y
theorem znh_r {r : Nat} {rl : Nat → Nat → Nat} {h k : Nat} (e : k = r) : znh r rl h k = h := if_pos e
theorem znh_n {r : Nat} {rl : Nat → Nat → Nat} {h k : Nat} (e : ¬ k = r) : znh r rl h k = h + rl 4 k - 1 := if_neg e
theorem znu_r {r : Nat} {rl : Nat → Nat → Nat} {u k : Nat} (e : k = r) : znu r rl u k = u := if_pos e
theorem znu_n {r : Nat} {rl : Nat → Nat → Nat} {u k : Nat} (e : ¬ k = r) : znu r rl u k = rl 2 k := if_neg e
theorem znt_r {r : Nat} {rl : Nat → Nat → Nat} {h k : Nat} {T : Nat → Nat} (e : k = r) : znt r rl h T k = T := if_pos e
theorem znt_n {r : Nat} {rl : Nat → Nat → Nat} {h k : Nat} {T : Nat → Nat} (e : ¬ k = r) : znt r rl h T k = fun y => if y = h then rl 3 k else T y := if_neg e
theorem zrow_rest {hh : Nat → Nat → Int32} {i t : Nat} {T : Nat → Nat} (htr : ∀ y, y ≤ t → hh i y = nI (T y)) : ∀ y, y ≤ t → va_up hh (i + 1) (va_cpy (hh i) (hh (i + 1)) 0 0 (t + 1)) (i + 1) y = nI (T y) := by
  intro y hy
  rw [va_up_self, pk_cpy_in (Nat.zero_le _) (by omega), show 0 + (y - 0) = y by omega]
  exact htr y hy
theorem zrow_rule {hh : Nat → Nat → Int32} {i t h x : Nat} {T : Nat → Nat} (htr : ∀ y, y ≤ t → hh i y = nI (T y)) : ∀ y, y ≤ t → va_up (va_up hh (i + 1) (va_cpy (hh i) (hh (i + 1)) 0 0 (t + 1))) (i + 1) (upd (va_up hh (i + 1) (va_cpy (hh i) (hh (i + 1)) 0 0 (t + 1)) (i + 1)) h (nI x)) (i + 1) y = nI (if y = h then x else T y) := by
  intro y hy
  rw [va_up_self]
  by_cases e : y = h
  · subst e; rw [pk_us, if_pos rfl]
  · rw [pk_un e, if_neg e]; exact zrow_rest htr y hy
theorem iX5_use_X5 : ∀ w ∈ u_ws RX5 TX5 5, w ∈ wsX5_use := by decide +kernel
theorem fX5_use_26 : Cond.fieldLink RX5 26 "TourChain$Run" "machine" "LTourChain$Machine;" ∈ wsX5_use := by decide +kernel
theorem iX5_use_X3 : ∀ w ∈ u_ws RX3 TX3 10, w ∈ wsX5_use := by decide +kernel
theorem fX5_use_47 : Cond.fieldLink RX5 47 "TourChain$Machine" "rules" "I" ∈ wsX5_use := by decide +kernel
theorem fX5_use_15 : Cond.fieldLink RX5 15 "TourChain$Run" "heads" "[I" ∈ wsX5_use := by decide +kernel
theorem fX5_use_23 : Cond.fieldLink RX5 23 "TourChain$Run" "cells" "[[I" ∈ wsX5_use := by decide +kernel
theorem yX5_use_X3_cells : yX3_cells.cls = RX3 ∧ yX3_cells.cls ≠ "java/lang/invoke/MethodHandle" ∧ yX3_cells.cls ≠ "java/lang/invoke/VarHandle" ∧ (parseMethodDescriptor yX3_cells.desc).map (fun d => d.parameters.length) = some 0 := by decide +kernel
theorem mX5_use_ac1 : Cond.methodLink RX5 64 arraycopyName ∈ wsX5_use := by decide +kernel
theorem mX5_use_ac2 : Cond.native arraycopyName ∈ wsX5_use := by decide +kernel
theorem mX5_use_ac3 : Cond.static arraycopyName ∈ wsX5_use := by decide +kernel
theorem mX5_use_ac4 : Cond.initialized "java/lang/System" ∈ wsX5_use := by decide +kernel
theorem fX5_use_85 : Cond.fieldLink RX5 85 "TourChain$Machine" "written" "[I" ∈ wsX5_use := by decide +kernel
theorem fX5_use_79 : Cond.fieldLink RX5 79 "TourChain$Machine" "move" "[I" ∈ wsX5_use := by decide +kernel
theorem fX5_use_18 : Cond.fieldLink RX5 18 "TourChain$Run" "states" "[I" ∈ wsX5_use := by decide +kernel
theorem fX5_use_88 : Cond.fieldLink RX5 88 "TourChain$Machine" "to" "[I" ∈ wsX5_use := by decide +kernel
set_option maxHeartbeats 4000000 in
set_option maxRecDepth 100000 in
theorem kX5_use (l : Launch) (D : va_G) (cI cZ cG cJ : ClassId) (ru : Nat) (mo : Nat) (rch : Nat) (rhe : Nat) (rst : Nat) (rce : Nat) (q : Nat) (g : Nat) (t : Nat) (r : Nat) (af : Nat) (ar : Nat) (at_ : Nat) (aw : Nat) (am : Nat) (ap : Nat) (fhe : Nat → Int32) (fst : Nat → Int32) (rc : Nat → Nat) (hh : Nat → Nat → Int32) (fw : Nat → Int32) (fto : Nat → Int32) (fm : Nat → Int32) (rl : Nat → Nat → Nat) (h : Nat) (u : Nat) (cfT : Nat → Nat) (i : Nat) (k : Nat) (ht : t ≤ 3) (hr8 : r ≤ 8) (hi : i < 3) (hk : k ≤ r) (hcan : zcan q r t rl h u cfT k) (hfto : ∀ i, i < r → fto i = nI (rl 2 i)) (hfw : ∀ i, i < r → fw i = nI (rl 3 i)) (hfm : ∀ i, i < r → fm i = nI (rl 4 i) - nI 1 ∧ rl 4 i ≤ 2) (hhe : fhe i = nI h) (hst : fst i = nI u) (hh2 : h ≤ t) (htr : ∀ y, y ≤ t → hh i y = nI (cfT y)) : zC l yX5_use wsX5_use 1 40 0 0 D (zT cI cZ cG cJ) [.ref ru, .int (nI i), .int (nI k)] [(ru, .inr (7, [.ref mo, .ref rch, .ref rhe, .ref rst, .ref rce])), (mo, .inr (5, [.int (nI q), .int (nI g), .int (nI t), .int (nI r), .ref af, .ref ar, .ref at_, .ref aw, .ref am, .ref ap])), (aw, .inl (cI, 8, .inl fw)), (at_, .inl (cI, 8, .inl fto)), (am, .inl (cI, 8, .inl fm)), (rhe, .inl (cI, 4, .inl fhe)), (rst, .inl (cI, 4, .inl fst)), (rce, .inl (cG, 4, .inr (.inr (.inr (.inr (fun i => some (rc i))))))), (rc 0, .inl (cI, 4, .inl (hh 0))), (rc 1, .inl (cI, 4, .inl (hh 1))), (rc 2, .inl (cI, 4, .inl (hh 2))), (rc 3, .inl (cI, 4, .inl (hh 3)))] (fun (ov : Option Value) (ow : va_W) => ∃ fhe' : Nat → Int32, ∃ fst' : Nat → Int32, ∃ hh' : Nat → Nat → Int32, ov = none ∧ ow = [(ru, .inr (7, [.ref mo, .ref rch, .ref rhe, .ref rst, .ref rce])), (mo, .inr (5, [.int (nI q), .int (nI g), .int (nI t), .int (nI r), .ref af, .ref ar, .ref at_, .ref aw, .ref am, .ref ap])), (aw, .inl (cI, 8, .inl fw)), (at_, .inl (cI, 8, .inl fto)), (am, .inl (cI, 8, .inl fm)), (rhe, .inl (cI, 4, .inl fhe')), (rst, .inl (cI, 4, .inl fst')), (rce, .inl (cG, 4, .inr (.inr (.inr (.inr (fun i => some (rc i))))))), (rc 0, .inl (cI, 4, .inl (hh' 0))), (rc 1, .inl (cI, 4, .inl (hh' 1))), (rc 2, .inl (cI, 4, .inl (hh' 2))), (rc 3, .inl (cI, 4, .inl (hh' 3)))] ∧ (fhe' (i + 1) = nI (znh r rl h k) ∧ ∀ j, ¬ j = i + 1 → fhe' j = fhe j) ∧ (fst' (i + 1) = nI (znu r rl u k) ∧ ∀ j, ¬ j = i + 1 → fst' j = fst j) ∧ ((∀ y, y ≤ t → hh' (i + 1) y = nI (znt r rl h cfT k y)) ∧ ∀ j, ¬ j = i + 1 → hh' j = hh j)) := by
  refine zC.of (cc := cX5_use) (maxL := 5) (ret := none) (by decide) rfl (Nat.le_of_ble_eq_true rfl) ?_
  intro p e s m below meth c A ls F hr hlk hnm B hl
  have hl : lv_has ls 5 [(0, .ref ru), (1, .int (nI i)), (2, .int (nI k))] := hl
  refine lv_iload_n F.1 F.2.1 dX5_use_0 rfl (lv_at hl 2 rfl) ?_
  refine lv_aload_n F.1 F.2.1 dX5_use_1 rfl (lv_at hl 0 rfl) ?_
  refine z_get F B 0 rfl (ci := 7) (C := RX5) (T := TX5) (N := 5) rfl iX5_use_X5 0 (by decide) fX5_use_26 rfl dX5_use_2 ?_
  refine z_get F B 1 rfl (ci := 5) (C := RX3) (T := TX3) (N := 10) rfl iX5_use_X3 3 (by decide) fX5_use_47 rfl dX5_use_5 ?_
  refine z_icmp_ne (tgt := 15) F (by omega) (by omega) dX5_use_8 (by decide) (fun c8 => ?_) (fun c8 => ?_)
  · have hge := zcan_ge hcan c8
    refine lv_iconst (v := (nI 0)) F.1 F.2.1 dX5_use_15 (by decide) ?_
    refine lv_istore_n (lv' := [(3, .int (nI 0)), (0, .ref ru), (1, .int (nI i)), (2, .int (nI k))]) F.1 F.2.1 dX5_use_16 rfl hl (by decide) rfl (fun ls hl => ?_)
    refine lv_aload_n F.1 F.2.1 dX5_use_17 rfl (lv_at hl 1 rfl) ?_
    refine z_get F B 0 rfl (ci := 7) (C := RX5) (T := TX5) (N := 5) rfl iX5_use_X5 2 (by decide) fX5_use_15 rfl dX5_use_18 ?_
    refine lv_iload_n F.1 F.2.1 dX5_use_21 rfl (lv_at hl 2 rfl) ?_
    refine z_iald F B 5 0 rfl rfl (j := i) (by omega) (by omega) dX5_use_22 ?_
    refine W.eq (g2 := F0 m 23 ls [.int (nI h)]) (by rw [hhe]) ?_
    refine lv_istore (lv' := [(4, .int (nI h)), (3, .int (nI 0)), (0, .ref ru), (1, .int (nI i)), (2, .int (nI k))]) F.1 F.2.1 dX5_use_23 hl (by decide) rfl (fun ls hl => ?_)
    refine lv_aload_n F.1 F.2.1 dX5_use_25 rfl (lv_at hl 2 rfl) ?_
    refine z_get F B 0 rfl (ci := 7) (C := RX5) (T := TX5) (N := 5) rfl iX5_use_X5 4 (by decide) fX5_use_23 rfl dX5_use_26 ?_
    refine lv_iload_n F.1 F.2.1 dX5_use_29 rfl (lv_at hl 3 rfl) ?_
    refine z_aald F B 7 2 rfl rfl (j := i) (by omega) (by omega) rfl dX5_use_30 ?_
    refine lv_iconst (v := (nI 0)) F.1 F.2.1 dX5_use_31 (by decide) ?_
    refine lv_aload_n F.1 F.2.1 dX5_use_32 rfl (lv_at hl 2 rfl) ?_
    refine z_get F B 0 rfl (ci := 7) (C := RX5) (T := TX5) (N := 5) rfl iX5_use_X5 4 (by decide) fX5_use_23 rfl dX5_use_33 ?_
    refine lv_iload_n F.1 F.2.1 dX5_use_36 rfl (lv_at hl 3 rfl) ?_
    refine lv_iconst (v := (nI 1)) F.1 F.2.1 dX5_use_37 (by decide) ?_
    refine z_iadd F dX5_use_38 ?_
    refine z_aald F B 7 2 rfl rfl (j := i + 1) (by omega) (by omega) rfl dX5_use_39 ?_
    refine lv_iconst (v := (nI 0)) F.1 F.2.1 dX5_use_40 (by decide) ?_
    refine lv_aload_n F.1 F.2.1 dX5_use_41 rfl (lv_at hl 2 rfl) ?_
    refine z_get F B 0 rfl (ci := 7) (C := RX5) (T := TX5) (N := 5) rfl iX5_use_X5 0 (by decide) fX5_use_26 rfl dX5_use_42 ?_
    refine z_callV (wr := [(ru, .inr (7, [.ref mo, .ref rch, .ref rhe, .ref rst, .ref rce])), (aw, .inl (cI, 8, .inl fw)), (at_, .inl (cI, 8, .inl fto)), (am, .inl (cI, 8, .inl fm)), (rhe, .inl (cI, 4, .inl fhe)), (rst, .inl (cI, 4, .inl fst)), (rce, .inl (cG, 4, .inr (.inr (.inr (.inr (fun i => some (rc i))))))), (rc 0, .inl (cI, 4, .inl (hh 0))), (rc 1, .inl (cI, 4, .inl (hh 1))), (rc 2, .inl (cI, 4, .inl (hh 2))), (rc 3, .inl (cI, 4, .inl (hh 3)))]) (rest := [.int (nI 0), .ref (rc (i + 1)), .int (nI 0), .ref (rc i)]) (As := []) F B (kX3_cells l D cI cZ cG cJ mo q g t r af ar at_ aw am ap) hl.1 (C := RX3) (T := TX3) (N := 10) (ci := 5) (q0 := 1) gX5_use_X3_cells rfl 0 yX5_use_X3_cells rfl rfl rfl [1] [0, 2, 3, 4, 5, 6, 7, 8, 9, 10, 11] rfl rfl rfl rfl (by decide) (Nat.le_of_ble_eq_true rfl) (Nat.le_of_ble_eq_true rfl) (Nat.le_of_ble_eq_true rfl) rfl dX5_use_45 (show 0 + 0 ≤ 0 by omega) (show 0 + 0 ≤ 0 by omega) (fun vv ww H locs hRR B => ?_)
    obtain ⟨rfl, rfl⟩ := hRR
    have B : zB D (zT cI cZ cG cJ) A s.heap s [(ru, .inr (7, [.ref mo, .ref rch, .ref rhe, .ref rst, .ref rce])), (aw, .inl (cI, 8, .inl fw)), (at_, .inl (cI, 8, .inl fto)), (am, .inl (cI, 8, .inl fm)), (rhe, .inl (cI, 4, .inl fhe)), (rst, .inl (cI, 4, .inl fst)), (rce, .inl (cG, 4, .inr (.inr (.inr (.inr (fun i => some (rc i))))))), (rc 0, .inl (cI, 4, .inl (hh 0))), (rc 1, .inl (cI, 4, .inl (hh 1))), (rc 2, .inl (cI, 4, .inl (hh 2))), (rc 3, .inl (cI, 4, .inl (hh 3))), (mo, .inr (5, [.int (nI q), .int (nI g), .int (nI t), .int (nI r), .ref af, .ref ar, .ref at_, .ref aw, .ref am, .ref ap]))] _ _ := B
    refine W.eq (g2 := F0 m 48 ls [.int (nI (t + 1)), .int (nI 0), .ref (rc (i + 1)), .int (nI 0), .ref (rc i)]) rfl ?_
    refine z_copy (cA := cI) (a0 := rc i) (a1 := rc (i + 1)) (n0 := 4) (n1 := 4) (f := hh i) (g := hh (i + 1)) F B hl.1 mX5_use_ac1 mX5_use_ac2 mX5_use_ac3 mX5_use_ac4 (q0 := (7 + i)) (q1 := 7 + (i + 1)) (by rcases (show i = 0 ∨ i = 1 ∨ i = 2 by omega) with rfl | rfl | rfl <;> rfl) (by rcases (show i = 0 ∨ i = 1 ∨ i = 2 by omega) with rfl | rfl | rfl <;> rfl) rfl (by omega) (by omega) (by omega) (by omega) (Nat.le_of_ble_eq_true rfl) (Nat.le_of_ble_eq_true rfl) dX5_use_48 (fun H locs B => ?_)
    have B : zB D (zT cI cZ cG cJ) A s.heap s [(ru, .inr (7, [.ref mo, .ref rch, .ref rhe, .ref rst, .ref rce])), (aw, .inl (cI, 8, .inl fw)), (at_, .inl (cI, 8, .inl fto)), (am, .inl (cI, 8, .inl fm)), (rhe, .inl (cI, 4, .inl fhe)), (rst, .inl (cI, 4, .inl fst)), (rce, .inl (cG, 4, .inr (.inr (.inr (.inr (fun i => some (rc i))))))), (rc 0, .inl (cI, 4, .inl ((va_up hh (i + 1) (va_cpy (hh i) (hh (i + 1)) 0 0 (t + 1))) 0))), (rc 1, .inl (cI, 4, .inl ((va_up hh (i + 1) (va_cpy (hh i) (hh (i + 1)) 0 0 (t + 1))) 1))), (rc 2, .inl (cI, 4, .inl ((va_up hh (i + 1) (va_cpy (hh i) (hh (i + 1)) 0 0 (t + 1))) 2))), (rc 3, .inl (cI, 4, .inl ((va_up hh (i + 1) (va_cpy (hh i) (hh (i + 1)) 0 0 (t + 1))) 3))), (mo, .inr (5, [.int (nI q), .int (nI g), .int (nI t), .int (nI r), .ref af, .ref ar, .ref at_, .ref aw, .ref am, .ref ap]))] H locs := by rcases (show i = 0 ∨ i = 1 ∨ i = 2 by omega) with rfl | rfl | rfl <;> exact B
    refine W.eq (g2 := F0 m 51 ls []) rfl ?_
    refine lv_iload_n F.1 F.2.1 dX5_use_51 rfl (lv_at hl 1 rfl) ?_
    refine lv_if_ne (tgt := 75) F.1 F.2.1 dX5_use_52 (by decide) (fun hq => absurd (by decide) hq) (fun _ => ?_)
    refine lv_aload_n F.1 F.2.1 dX5_use_55 rfl (lv_at hl 2 rfl) ?_
    refine z_get F B 0 rfl (ci := 7) (C := RX5) (T := TX5) (N := 5) rfl iX5_use_X5 4 (by decide) fX5_use_23 rfl dX5_use_56 ?_
    refine lv_iload_n F.1 F.2.1 dX5_use_59 rfl (lv_at hl 3 rfl) ?_
    refine lv_iconst (v := (nI 1)) F.1 F.2.1 dX5_use_60 (by decide) ?_
    refine z_iadd F dX5_use_61 ?_
    refine z_aald F B 6 2 rfl rfl (j := i + 1) (by omega) (by omega) rfl dX5_use_62 ?_
    refine lv_iload F.1 F.2.1 dX5_use_63 (lv_at hl 0 rfl) ?_
    refine lv_aload_n F.1 F.2.1 dX5_use_65 rfl (lv_at hl 2 rfl) ?_
    refine z_get F B 0 rfl (ci := 7) (C := RX5) (T := TX5) (N := 5) rfl iX5_use_X5 0 (by decide) fX5_use_26 rfl dX5_use_66 ?_
    refine z_get F B 11 rfl (ci := 5) (C := RX3) (T := TX3) (N := 10) rfl iX5_use_X3 7 (by decide) fX5_use_85 rfl dX5_use_69 ?_
    refine lv_iload_n F.1 F.2.1 dX5_use_72 rfl (lv_at hl 4 rfl) ?_
    refine z_iald F B 1 0 rfl rfl (j := k) (by omega) (by omega) dX5_use_73 ?_
    refine W.eq (g2 := F0 m 74 ls [.int (nI (rl 3 k)), .int (nI h), .ref (rc (i + 1))]) (by rw [hfw k (by omega)]) ?_
    refine z_iast (a := rc (i + 1)) (cA := cI) (n := 4) (f := (va_up hh (i + 1) (va_cpy (hh i) (hh (i + 1)) 0 0 (t + 1))) (i + 1)) F B (7 + (i + 1)) 0 (by rcases (show i = 0 ∨ i = 1 ∨ i = 2 by omega) with rfl | rfl | rfl <;> rfl) rfl (j := h) (by omega) (by omega) dX5_use_74 (fun H locs B => ?_)
    have B : zB D (zT cI cZ cG cJ) A s.heap s [(ru, .inr (7, [.ref mo, .ref rch, .ref rhe, .ref rst, .ref rce])), (aw, .inl (cI, 8, .inl fw)), (at_, .inl (cI, 8, .inl fto)), (am, .inl (cI, 8, .inl fm)), (rhe, .inl (cI, 4, .inl fhe)), (rst, .inl (cI, 4, .inl fst)), (rce, .inl (cG, 4, .inr (.inr (.inr (.inr (fun i => some (rc i))))))), (rc 0, .inl (cI, 4, .inl ((va_up (va_up hh (i + 1) (va_cpy (hh i) (hh (i + 1)) 0 0 (t + 1))) (i + 1) (upd ((va_up hh (i + 1) (va_cpy (hh i) (hh (i + 1)) 0 0 (t + 1))) (i + 1)) h (nI (rl 3 k)))) 0))), (rc 1, .inl (cI, 4, .inl ((va_up (va_up hh (i + 1) (va_cpy (hh i) (hh (i + 1)) 0 0 (t + 1))) (i + 1) (upd ((va_up hh (i + 1) (va_cpy (hh i) (hh (i + 1)) 0 0 (t + 1))) (i + 1)) h (nI (rl 3 k)))) 1))), (rc 2, .inl (cI, 4, .inl ((va_up (va_up hh (i + 1) (va_cpy (hh i) (hh (i + 1)) 0 0 (t + 1))) (i + 1) (upd ((va_up hh (i + 1) (va_cpy (hh i) (hh (i + 1)) 0 0 (t + 1))) (i + 1)) h (nI (rl 3 k)))) 2))), (rc 3, .inl (cI, 4, .inl ((va_up (va_up hh (i + 1) (va_cpy (hh i) (hh (i + 1)) 0 0 (t + 1))) (i + 1) (upd ((va_up hh (i + 1) (va_cpy (hh i) (hh (i + 1)) 0 0 (t + 1))) (i + 1)) h (nI (rl 3 k)))) 3))), (mo, .inr (5, [.int (nI q), .int (nI g), .int (nI t), .int (nI r), .ref af, .ref ar, .ref at_, .ref aw, .ref am, .ref ap]))] H locs := by rcases (show i = 0 ∨ i = 1 ∨ i = 2 by omega) with rfl | rfl | rfl <;> exact B
    refine lv_aload_n F.1 F.2.1 dX5_use_75 rfl (lv_at hl 2 rfl) ?_
    refine z_get F B 0 rfl (ci := 7) (C := RX5) (T := TX5) (N := 5) rfl iX5_use_X5 2 (by decide) fX5_use_15 rfl dX5_use_76 ?_
    refine lv_iload_n F.1 F.2.1 dX5_use_79 rfl (lv_at hl 3 rfl) ?_
    refine lv_iconst (v := (nI 1)) F.1 F.2.1 dX5_use_80 (by decide) ?_
    refine z_iadd F dX5_use_81 ?_
    refine lv_iload_n F.1 F.2.1 dX5_use_82 rfl (lv_at hl 1 rfl) ?_
    refine lv_if_eq (tgt := 91) F.1 F.2.1 dX5_use_83 (by decide) (fun _ => ?_) (fun hq => absurd (by decide) hq)
    refine lv_iload F.1 F.2.1 dX5_use_91 (lv_at hl 0 rfl) ?_
    refine lv_aload_n F.1 F.2.1 dX5_use_93 rfl (lv_at hl 2 rfl) ?_
    refine z_get F B 0 rfl (ci := 7) (C := RX5) (T := TX5) (N := 5) rfl iX5_use_X5 0 (by decide) fX5_use_26 rfl dX5_use_94 ?_
    refine z_get F B 11 rfl (ci := 5) (C := RX3) (T := TX3) (N := 10) rfl iX5_use_X3 8 (by decide) fX5_use_79 rfl dX5_use_97 ?_
    refine lv_iload_n F.1 F.2.1 dX5_use_100 rfl (lv_at hl 4 rfl) ?_
    refine z_iald F B 3 0 rfl rfl (j := k) (by omega) (by omega) dX5_use_101 ?_
    refine W.eq (g2 := F0 m 102 ls [.int (nI (rl 4 k) - nI 1), .int (nI h), .int (nI (i + 1)), .ref rhe]) (by rw [(hfm k (by omega)).1]) ?_
    refine lv_iadd F.1 F.2.1 dX5_use_102 ?_
    refine W.eq (g2 := F0 m 103 ls [.int (nI (h + rl 4 k - 1)), .int (nI (i + 1)), .ref rhe]) (by rw [ztgt, pk_sub hge]) ?_
    refine z_iast F B 4 0 rfl rfl (j := i + 1) (by omega) (by omega) dX5_use_103 (fun H locs B => ?_)
    have B : zB D (zT cI cZ cG cJ) A s.heap s [(ru, .inr (7, [.ref mo, .ref rch, .ref rhe, .ref rst, .ref rce])), (aw, .inl (cI, 8, .inl fw)), (at_, .inl (cI, 8, .inl fto)), (am, .inl (cI, 8, .inl fm)), (rhe, .inl (cI, 4, .inl (upd fhe (i + 1) (nI (h + rl 4 k - 1))))), (rst, .inl (cI, 4, .inl fst)), (rce, .inl (cG, 4, .inr (.inr (.inr (.inr (fun i => some (rc i))))))), (rc 0, .inl (cI, 4, .inl ((va_up (va_up hh (i + 1) (va_cpy (hh i) (hh (i + 1)) 0 0 (t + 1))) (i + 1) (upd ((va_up hh (i + 1) (va_cpy (hh i) (hh (i + 1)) 0 0 (t + 1))) (i + 1)) h (nI (rl 3 k)))) 0))), (rc 1, .inl (cI, 4, .inl ((va_up (va_up hh (i + 1) (va_cpy (hh i) (hh (i + 1)) 0 0 (t + 1))) (i + 1) (upd ((va_up hh (i + 1) (va_cpy (hh i) (hh (i + 1)) 0 0 (t + 1))) (i + 1)) h (nI (rl 3 k)))) 1))), (rc 2, .inl (cI, 4, .inl ((va_up (va_up hh (i + 1) (va_cpy (hh i) (hh (i + 1)) 0 0 (t + 1))) (i + 1) (upd ((va_up hh (i + 1) (va_cpy (hh i) (hh (i + 1)) 0 0 (t + 1))) (i + 1)) h (nI (rl 3 k)))) 2))), (rc 3, .inl (cI, 4, .inl ((va_up (va_up hh (i + 1) (va_cpy (hh i) (hh (i + 1)) 0 0 (t + 1))) (i + 1) (upd ((va_up hh (i + 1) (va_cpy (hh i) (hh (i + 1)) 0 0 (t + 1))) (i + 1)) h (nI (rl 3 k)))) 3))), (mo, .inr (5, [.int (nI q), .int (nI g), .int (nI t), .int (nI r), .ref af, .ref ar, .ref at_, .ref aw, .ref am, .ref ap]))] _ _ := B
    refine lv_aload_n F.1 F.2.1 dX5_use_104 rfl (lv_at hl 2 rfl) ?_
    refine z_get F B 0 rfl (ci := 7) (C := RX5) (T := TX5) (N := 5) rfl iX5_use_X5 3 (by decide) fX5_use_18 rfl dX5_use_105 ?_
    refine lv_iload_n F.1 F.2.1 dX5_use_108 rfl (lv_at hl 3 rfl) ?_
    refine lv_iconst (v := (nI 1)) F.1 F.2.1 dX5_use_109 (by decide) ?_
    refine z_iadd F dX5_use_110 ?_
    refine lv_iload_n F.1 F.2.1 dX5_use_111 rfl (lv_at hl 1 rfl) ?_
    refine lv_if_eq (tgt := 124) F.1 F.2.1 dX5_use_112 (by decide) (fun _ => ?_) (fun hq => absurd (by decide) hq)
    refine lv_aload_n F.1 F.2.1 dX5_use_124 rfl (lv_at hl 2 rfl) ?_
    refine z_get F B 0 rfl (ci := 7) (C := RX5) (T := TX5) (N := 5) rfl iX5_use_X5 0 (by decide) fX5_use_26 rfl dX5_use_125 ?_
    refine z_get F B 11 rfl (ci := 5) (C := RX3) (T := TX3) (N := 10) rfl iX5_use_X3 6 (by decide) fX5_use_88 rfl dX5_use_128 ?_
    refine lv_iload_n F.1 F.2.1 dX5_use_131 rfl (lv_at hl 4 rfl) ?_
    refine z_iald F B 2 0 rfl rfl (j := k) (by omega) (by omega) dX5_use_132 ?_
    refine W.eq (g2 := F0 m 133 ls [.int (nI (rl 2 k)), .int (nI (i + 1)), .ref rst]) (by rw [hfto k (by omega)]) ?_
    refine z_iast F B 5 0 rfl rfl (j := i + 1) (by omega) (by omega) dX5_use_133 (fun H locs B => ?_)
    have B : zB D (zT cI cZ cG cJ) A s.heap s [(ru, .inr (7, [.ref mo, .ref rch, .ref rhe, .ref rst, .ref rce])), (aw, .inl (cI, 8, .inl fw)), (at_, .inl (cI, 8, .inl fto)), (am, .inl (cI, 8, .inl fm)), (rhe, .inl (cI, 4, .inl (upd fhe (i + 1) (nI (h + rl 4 k - 1))))), (rst, .inl (cI, 4, .inl (upd fst (i + 1) (nI (rl 2 k))))), (rce, .inl (cG, 4, .inr (.inr (.inr (.inr (fun i => some (rc i))))))), (rc 0, .inl (cI, 4, .inl ((va_up (va_up hh (i + 1) (va_cpy (hh i) (hh (i + 1)) 0 0 (t + 1))) (i + 1) (upd ((va_up hh (i + 1) (va_cpy (hh i) (hh (i + 1)) 0 0 (t + 1))) (i + 1)) h (nI (rl 3 k)))) 0))), (rc 1, .inl (cI, 4, .inl ((va_up (va_up hh (i + 1) (va_cpy (hh i) (hh (i + 1)) 0 0 (t + 1))) (i + 1) (upd ((va_up hh (i + 1) (va_cpy (hh i) (hh (i + 1)) 0 0 (t + 1))) (i + 1)) h (nI (rl 3 k)))) 1))), (rc 2, .inl (cI, 4, .inl ((va_up (va_up hh (i + 1) (va_cpy (hh i) (hh (i + 1)) 0 0 (t + 1))) (i + 1) (upd ((va_up hh (i + 1) (va_cpy (hh i) (hh (i + 1)) 0 0 (t + 1))) (i + 1)) h (nI (rl 3 k)))) 2))), (rc 3, .inl (cI, 4, .inl ((va_up (va_up hh (i + 1) (va_cpy (hh i) (hh (i + 1)) 0 0 (t + 1))) (i + 1) (upd ((va_up hh (i + 1) (va_cpy (hh i) (hh (i + 1)) 0 0 (t + 1))) (i + 1)) h (nI (rl 3 k)))) 3))), (mo, .inr (5, [.int (nI q), .int (nI g), .int (nI t), .int (nI r), .ref af, .ref ar, .ref at_, .ref aw, .ref am, .ref ap]))] _ _ := B
    exact z_vret F hr hlk B [0, 11, 1, 2, 3, 4, 5, 6, 7, 8, 9, 10] rfl (rfl) dX5_use_134 (by omega) (by omega) ⟨(upd fhe (i + 1) (nI (h + rl 4 k - 1))), (upd fst (i + 1) (nI (rl 2 k))), (va_up (va_up hh (i + 1) (va_cpy (hh i) (hh (i + 1)) 0 0 (t + 1))) (i + 1) (upd ((va_up hh (i + 1) (va_cpy (hh i) (hh (i + 1)) 0 0 (t + 1))) (i + 1)) h (nI (rl 3 k)))), rfl, rfl, (⟨by rw [pk_us, znh_n c8], fun j hj => pk_un hj⟩), (⟨by rw [pk_us, znu_n c8], fun j hj => pk_un hj⟩), (⟨fun y hy => by rw [zrow_rule htr y hy, znt_n c8], fun j hj => by rw [va_up_ne _ _ hj, va_up_ne _ _ hj]⟩)⟩
  · refine lv_iconst (v := (nI 1)) F.1 F.2.1 dX5_use_11 (by decide) ?_
    refine lv_goto (tgt := 16) F.1 F.2.1 dX5_use_12 (by decide) ?_
    refine lv_istore_n (lv' := [(3, .int (nI 1)), (0, .ref ru), (1, .int (nI i)), (2, .int (nI k))]) F.1 F.2.1 dX5_use_16 rfl hl (by decide) rfl (fun ls hl => ?_)
    refine lv_aload_n F.1 F.2.1 dX5_use_17 rfl (lv_at hl 1 rfl) ?_
    refine z_get F B 0 rfl (ci := 7) (C := RX5) (T := TX5) (N := 5) rfl iX5_use_X5 2 (by decide) fX5_use_15 rfl dX5_use_18 ?_
    refine lv_iload_n F.1 F.2.1 dX5_use_21 rfl (lv_at hl 2 rfl) ?_
    refine z_iald F B 5 0 rfl rfl (j := i) (by omega) (by omega) dX5_use_22 ?_
    refine W.eq (g2 := F0 m 23 ls [.int (nI h)]) (by rw [hhe]) ?_
    refine lv_istore (lv' := [(4, .int (nI h)), (3, .int (nI 1)), (0, .ref ru), (1, .int (nI i)), (2, .int (nI k))]) F.1 F.2.1 dX5_use_23 hl (by decide) rfl (fun ls hl => ?_)
    refine lv_aload_n F.1 F.2.1 dX5_use_25 rfl (lv_at hl 2 rfl) ?_
    refine z_get F B 0 rfl (ci := 7) (C := RX5) (T := TX5) (N := 5) rfl iX5_use_X5 4 (by decide) fX5_use_23 rfl dX5_use_26 ?_
    refine lv_iload_n F.1 F.2.1 dX5_use_29 rfl (lv_at hl 3 rfl) ?_
    refine z_aald F B 7 2 rfl rfl (j := i) (by omega) (by omega) rfl dX5_use_30 ?_
    refine lv_iconst (v := (nI 0)) F.1 F.2.1 dX5_use_31 (by decide) ?_
    refine lv_aload_n F.1 F.2.1 dX5_use_32 rfl (lv_at hl 2 rfl) ?_
    refine z_get F B 0 rfl (ci := 7) (C := RX5) (T := TX5) (N := 5) rfl iX5_use_X5 4 (by decide) fX5_use_23 rfl dX5_use_33 ?_
    refine lv_iload_n F.1 F.2.1 dX5_use_36 rfl (lv_at hl 3 rfl) ?_
    refine lv_iconst (v := (nI 1)) F.1 F.2.1 dX5_use_37 (by decide) ?_
    refine z_iadd F dX5_use_38 ?_
    refine z_aald F B 7 2 rfl rfl (j := i + 1) (by omega) (by omega) rfl dX5_use_39 ?_
    refine lv_iconst (v := (nI 0)) F.1 F.2.1 dX5_use_40 (by decide) ?_
    refine lv_aload_n F.1 F.2.1 dX5_use_41 rfl (lv_at hl 2 rfl) ?_
    refine z_get F B 0 rfl (ci := 7) (C := RX5) (T := TX5) (N := 5) rfl iX5_use_X5 0 (by decide) fX5_use_26 rfl dX5_use_42 ?_
    refine z_callV (wr := [(ru, .inr (7, [.ref mo, .ref rch, .ref rhe, .ref rst, .ref rce])), (aw, .inl (cI, 8, .inl fw)), (at_, .inl (cI, 8, .inl fto)), (am, .inl (cI, 8, .inl fm)), (rhe, .inl (cI, 4, .inl fhe)), (rst, .inl (cI, 4, .inl fst)), (rce, .inl (cG, 4, .inr (.inr (.inr (.inr (fun i => some (rc i))))))), (rc 0, .inl (cI, 4, .inl (hh 0))), (rc 1, .inl (cI, 4, .inl (hh 1))), (rc 2, .inl (cI, 4, .inl (hh 2))), (rc 3, .inl (cI, 4, .inl (hh 3)))]) (rest := [.int (nI 0), .ref (rc (i + 1)), .int (nI 0), .ref (rc i)]) (As := []) F B (kX3_cells l D cI cZ cG cJ mo q g t r af ar at_ aw am ap) hl.1 (C := RX3) (T := TX3) (N := 10) (ci := 5) (q0 := 1) gX5_use_X3_cells rfl 0 yX5_use_X3_cells rfl rfl rfl [1] [0, 2, 3, 4, 5, 6, 7, 8, 9, 10, 11] rfl rfl rfl rfl (by decide) (Nat.le_of_ble_eq_true rfl) (Nat.le_of_ble_eq_true rfl) (Nat.le_of_ble_eq_true rfl) rfl dX5_use_45 (show 0 + 0 ≤ 0 by omega) (show 0 + 0 ≤ 0 by omega) (fun vv ww H locs hRR B => ?_)
    obtain ⟨rfl, rfl⟩ := hRR
    have B : zB D (zT cI cZ cG cJ) A s.heap s [(ru, .inr (7, [.ref mo, .ref rch, .ref rhe, .ref rst, .ref rce])), (aw, .inl (cI, 8, .inl fw)), (at_, .inl (cI, 8, .inl fto)), (am, .inl (cI, 8, .inl fm)), (rhe, .inl (cI, 4, .inl fhe)), (rst, .inl (cI, 4, .inl fst)), (rce, .inl (cG, 4, .inr (.inr (.inr (.inr (fun i => some (rc i))))))), (rc 0, .inl (cI, 4, .inl (hh 0))), (rc 1, .inl (cI, 4, .inl (hh 1))), (rc 2, .inl (cI, 4, .inl (hh 2))), (rc 3, .inl (cI, 4, .inl (hh 3))), (mo, .inr (5, [.int (nI q), .int (nI g), .int (nI t), .int (nI r), .ref af, .ref ar, .ref at_, .ref aw, .ref am, .ref ap]))] _ _ := B
    refine W.eq (g2 := F0 m 48 ls [.int (nI (t + 1)), .int (nI 0), .ref (rc (i + 1)), .int (nI 0), .ref (rc i)]) rfl ?_
    refine z_copy (cA := cI) (a0 := rc i) (a1 := rc (i + 1)) (n0 := 4) (n1 := 4) (f := hh i) (g := hh (i + 1)) F B hl.1 mX5_use_ac1 mX5_use_ac2 mX5_use_ac3 mX5_use_ac4 (q0 := (7 + i)) (q1 := 7 + (i + 1)) (by rcases (show i = 0 ∨ i = 1 ∨ i = 2 by omega) with rfl | rfl | rfl <;> rfl) (by rcases (show i = 0 ∨ i = 1 ∨ i = 2 by omega) with rfl | rfl | rfl <;> rfl) rfl (by omega) (by omega) (by omega) (by omega) (Nat.le_of_ble_eq_true rfl) (Nat.le_of_ble_eq_true rfl) dX5_use_48 (fun H locs B => ?_)
    have B : zB D (zT cI cZ cG cJ) A s.heap s [(ru, .inr (7, [.ref mo, .ref rch, .ref rhe, .ref rst, .ref rce])), (aw, .inl (cI, 8, .inl fw)), (at_, .inl (cI, 8, .inl fto)), (am, .inl (cI, 8, .inl fm)), (rhe, .inl (cI, 4, .inl fhe)), (rst, .inl (cI, 4, .inl fst)), (rce, .inl (cG, 4, .inr (.inr (.inr (.inr (fun i => some (rc i))))))), (rc 0, .inl (cI, 4, .inl ((va_up hh (i + 1) (va_cpy (hh i) (hh (i + 1)) 0 0 (t + 1))) 0))), (rc 1, .inl (cI, 4, .inl ((va_up hh (i + 1) (va_cpy (hh i) (hh (i + 1)) 0 0 (t + 1))) 1))), (rc 2, .inl (cI, 4, .inl ((va_up hh (i + 1) (va_cpy (hh i) (hh (i + 1)) 0 0 (t + 1))) 2))), (rc 3, .inl (cI, 4, .inl ((va_up hh (i + 1) (va_cpy (hh i) (hh (i + 1)) 0 0 (t + 1))) 3))), (mo, .inr (5, [.int (nI q), .int (nI g), .int (nI t), .int (nI r), .ref af, .ref ar, .ref at_, .ref aw, .ref am, .ref ap]))] H locs := by rcases (show i = 0 ∨ i = 1 ∨ i = 2 by omega) with rfl | rfl | rfl <;> exact B
    refine W.eq (g2 := F0 m 51 ls []) rfl ?_
    refine lv_iload_n F.1 F.2.1 dX5_use_51 rfl (lv_at hl 1 rfl) ?_
    refine lv_if_ne (tgt := 75) F.1 F.2.1 dX5_use_52 (by decide) (fun _ => ?_) (fun hq => absurd hq (by decide))
    refine lv_aload_n F.1 F.2.1 dX5_use_75 rfl (lv_at hl 2 rfl) ?_
    refine z_get F B 0 rfl (ci := 7) (C := RX5) (T := TX5) (N := 5) rfl iX5_use_X5 2 (by decide) fX5_use_15 rfl dX5_use_76 ?_
    refine lv_iload_n F.1 F.2.1 dX5_use_79 rfl (lv_at hl 3 rfl) ?_
    refine lv_iconst (v := (nI 1)) F.1 F.2.1 dX5_use_80 (by decide) ?_
    refine z_iadd F dX5_use_81 ?_
    refine lv_iload_n F.1 F.2.1 dX5_use_82 rfl (lv_at hl 1 rfl) ?_
    refine lv_if_eq (tgt := 91) F.1 F.2.1 dX5_use_83 (by decide) (fun hq => absurd hq (by decide)) (fun _ => ?_)
    refine lv_iload F.1 F.2.1 dX5_use_86 (lv_at hl 0 rfl) ?_
    refine lv_goto (tgt := 103) F.1 F.2.1 dX5_use_88 (by decide) ?_
    refine z_iast F B 4 0 rfl rfl (j := i + 1) (by omega) (by omega) dX5_use_103 (fun H locs B => ?_)
    have B : zB D (zT cI cZ cG cJ) A s.heap s [(ru, .inr (7, [.ref mo, .ref rch, .ref rhe, .ref rst, .ref rce])), (aw, .inl (cI, 8, .inl fw)), (at_, .inl (cI, 8, .inl fto)), (am, .inl (cI, 8, .inl fm)), (rhe, .inl (cI, 4, .inl (upd fhe (i + 1) (nI h)))), (rst, .inl (cI, 4, .inl fst)), (rce, .inl (cG, 4, .inr (.inr (.inr (.inr (fun i => some (rc i))))))), (rc 0, .inl (cI, 4, .inl ((va_up hh (i + 1) (va_cpy (hh i) (hh (i + 1)) 0 0 (t + 1))) 0))), (rc 1, .inl (cI, 4, .inl ((va_up hh (i + 1) (va_cpy (hh i) (hh (i + 1)) 0 0 (t + 1))) 1))), (rc 2, .inl (cI, 4, .inl ((va_up hh (i + 1) (va_cpy (hh i) (hh (i + 1)) 0 0 (t + 1))) 2))), (rc 3, .inl (cI, 4, .inl ((va_up hh (i + 1) (va_cpy (hh i) (hh (i + 1)) 0 0 (t + 1))) 3))), (mo, .inr (5, [.int (nI q), .int (nI g), .int (nI t), .int (nI r), .ref af, .ref ar, .ref at_, .ref aw, .ref am, .ref ap]))] _ _ := B
    refine lv_aload_n F.1 F.2.1 dX5_use_104 rfl (lv_at hl 2 rfl) ?_
    refine z_get F B 0 rfl (ci := 7) (C := RX5) (T := TX5) (N := 5) rfl iX5_use_X5 3 (by decide) fX5_use_18 rfl dX5_use_105 ?_
    refine lv_iload_n F.1 F.2.1 dX5_use_108 rfl (lv_at hl 3 rfl) ?_
    refine lv_iconst (v := (nI 1)) F.1 F.2.1 dX5_use_109 (by decide) ?_
    refine z_iadd F dX5_use_110 ?_
    refine lv_iload_n F.1 F.2.1 dX5_use_111 rfl (lv_at hl 1 rfl) ?_
    refine lv_if_eq (tgt := 124) F.1 F.2.1 dX5_use_112 (by decide) (fun hq => absurd hq (by decide)) (fun _ => ?_)
    refine lv_aload_n F.1 F.2.1 dX5_use_115 rfl (lv_at hl 2 rfl) ?_
    refine z_get F B 0 rfl (ci := 7) (C := RX5) (T := TX5) (N := 5) rfl iX5_use_X5 3 (by decide) fX5_use_18 rfl dX5_use_116 ?_
    refine lv_iload_n F.1 F.2.1 dX5_use_119 rfl (lv_at hl 3 rfl) ?_
    refine z_iald F B 5 0 rfl rfl (j := i) (by omega) (by omega) dX5_use_120 ?_
    refine W.eq (g2 := F0 m 121 ls [.int (nI u), .int (nI (i + 1)), .ref rst]) (by rw [hst]) ?_
    refine lv_goto (tgt := 133) F.1 F.2.1 dX5_use_121 (by decide) ?_
    refine z_iast F B 5 0 rfl rfl (j := i + 1) (by omega) (by omega) dX5_use_133 (fun H locs B => ?_)
    have B : zB D (zT cI cZ cG cJ) A s.heap s [(ru, .inr (7, [.ref mo, .ref rch, .ref rhe, .ref rst, .ref rce])), (aw, .inl (cI, 8, .inl fw)), (at_, .inl (cI, 8, .inl fto)), (am, .inl (cI, 8, .inl fm)), (rhe, .inl (cI, 4, .inl (upd fhe (i + 1) (nI h)))), (rst, .inl (cI, 4, .inl (upd fst (i + 1) (nI u)))), (rce, .inl (cG, 4, .inr (.inr (.inr (.inr (fun i => some (rc i))))))), (rc 0, .inl (cI, 4, .inl ((va_up hh (i + 1) (va_cpy (hh i) (hh (i + 1)) 0 0 (t + 1))) 0))), (rc 1, .inl (cI, 4, .inl ((va_up hh (i + 1) (va_cpy (hh i) (hh (i + 1)) 0 0 (t + 1))) 1))), (rc 2, .inl (cI, 4, .inl ((va_up hh (i + 1) (va_cpy (hh i) (hh (i + 1)) 0 0 (t + 1))) 2))), (rc 3, .inl (cI, 4, .inl ((va_up hh (i + 1) (va_cpy (hh i) (hh (i + 1)) 0 0 (t + 1))) 3))), (mo, .inr (5, [.int (nI q), .int (nI g), .int (nI t), .int (nI r), .ref af, .ref ar, .ref at_, .ref aw, .ref am, .ref ap]))] _ _ := B
    exact z_vret F hr hlk B [0, 11, 1, 2, 3, 4, 5, 6, 7, 8, 9, 10] rfl (rfl) dX5_use_134 (by omega) (by omega) ⟨(upd fhe (i + 1) (nI h)), (upd fst (i + 1) (nI u)), (va_up hh (i + 1) (va_cpy (hh i) (hh (i + 1)) 0 0 (t + 1))), rfl, rfl, (⟨by rw [pk_us, znh_r c8], fun j hj => pk_un hj⟩), (⟨by rw [pk_us, znu_r c8], fun j hj => pk_un hj⟩), (⟨fun y hy => by rw [zrow_rest htr y hy, znt_r c8], fun j hj => va_up_ne _ _ hj⟩)⟩
