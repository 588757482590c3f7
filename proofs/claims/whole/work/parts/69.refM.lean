/-! CONTRACT of the reference: put -/
theorem zqR {v : Int32} {n : Nat} (hn : n < 2 ^ 30) : ((nI 0).toInt ≤ v.toInt ∧ v.toInt ≤ (nI n - nI 1).toInt) ↔ zq v n := by
  have e := pk_sub_toInt (a := n) (b := 1) hn (by decide)
  have e0 : (nI 0).toInt = 0 := nI_toInt (by decide)
  rw [e, e0]
  unfold zq
  omega
theorem iX8_put_X8 : ∀ w ∈ u_ws RX8 TX8 37, w ∈ wsX8_put := fun w h => List.mem_cons_of_mem _ (List.mem_append_right _ h)
theorem fX8_put_185 : Cond.fieldLink RX8 185 "TourChainModel" "cities" "I" ∈ wsX8_put := by decide +kernel
theorem yX8_put_X8_in : yX8_in.cls = RX8 ∧ yX8_in.cls ≠ "java/lang/invoke/MethodHandle" ∧ yX8_in.cls ≠ "java/lang/invoke/VarHandle" ∧ (parseMethodDescriptor yX8_in.desc).map (fun d => d.parameters.length) = some 3 := by decide +kernel
theorem yX8_put_X8_may : yX8_may.cls = RX8 ∧ yX8_may.cls ≠ "java/lang/invoke/MethodHandle" ∧ yX8_may.cls ≠ "java/lang/invoke/VarHandle" ∧ (parseMethodDescriptor yX8_may.desc).map (fun d => d.parameters.length) = some 1 := by decide +kernel
theorem fX8_put_73 : Cond.fieldLink RX8 73 "TourChainModel" "trip" "[I" ∈ wsX8_put := by decide +kernel
set_option maxHeartbeats 4000000 in
set_option maxRecDepth 100000 in
theorem kX8_put (l : Launch) (D : va_G) (cI cZ cG cJ : ClassId) (mm : Nat) (th : Nat) (q : Nat) (g : Nat) (t : Nat) (r : Nat) (mb : Nat) (nc : Nat) (nl : Nat) (pv : Nat) (va : Nat) (n3 : Nat) (ve : Nat) (ed : Nat) (se : Nat) (ci : Nat) (mr : Nat) (mt : Nat) (ld : Nat) (A8 : Nat → Nat) (ftp : Nat → Int32) (rr : Nat → Nat) (u1 : Int32) (u2 : Int32) (hmt : mt ≤ 1) (hci : ci ≤ 47000) (hrw : mt = 1 → ∀ i, i < ci → ftp i = nI (rr i) ∧ rr i < ci) : zC l yX8_put wsX8_put 1 22 0 0 D (zT cI cZ cG cJ) [.ref mm, .int u1, .int u2] [(mm, .inr (10, zmo (nI th) (nI q) (nI g) (nI t) (nI r) (nI mb) (nI nc) (nI nl) (nI pv) (nI va) (nI n3) (nI ve) (nI ed) (nI se) (nI ci) (nI mr) (nI mt) (nI ld) A8)), (A8 17, .inl (cI, 47000, .inl ftp))] (fun (ov : Option Value) (ow : va_W) => ∃ th' : Nat, ∃ ftp' : Nat → Int32, ov = some (.int (zif (mt = 1 ∧ zq u1 ci ∧ zq u2 ci) (nI (rr (zn u1))) 0)) ∧ ow = [(mm, .inr (10, zmo (nI th') (nI q) (nI g) (nI t) (nI r) (nI mb) (nI nc) (nI nl) (nI pv) (nI va) (nI n3) (nI ve) (nI ed) (nI se) (nI ci) (nI mr) (nI mt) (nI ld) A8)), (A8 17, .inl (cI, 47000, .inl ftp'))] ∧ (((mt = 1 ∧ zq u1 ci ∧ zq u2 ci) ∧ th' = 0 ∧ ftp' = upd ftp (zn u1) u2) ∨ (¬ (mt = 1 ∧ zq u1 ci ∧ zq u2 ci) ∧ ((mt = 0 ∧ th' = 1) ∨ (mt = 1 ∧ th' = 2)) ∧ ftp' = ftp))) := by
  refine zC.of (cc := cX8_put) (maxL := 4) (ret := (some .int)) (by decide) rfl (Nat.le_of_ble_eq_true rfl) ?_
  intro p e s m below meth c A ls F hr hlk hnm B hl
  have hl : lv_has ls 4 [(0, .ref mm), (1, .int u1), (2, .int u2)] := hl
  refine lv_aload_n F.1 F.2.1 dX8_put_0 rfl (lv_at hl 0 rfl) ?_
  refine lv_iload_n F.1 F.2.1 dX8_put_1 rfl (lv_at hl 1 rfl) ?_
  refine lv_iconst (v := (nI 0)) F.1 F.2.1 dX8_put_2 (by decide) ?_
  refine lv_aload_n F.1 F.2.1 dX8_put_3 rfl (lv_at hl 0 rfl) ?_
  refine z_get F B 0 rfl (ci := 10) (C := RX8) (T := TX8) (N := 37) rfl iX8_put_X8 23 (by decide) fX8_put_185 rfl dX8_put_4 ?_
  refine lv_iconst (v := (nI 1)) F.1 F.2.1 dX8_put_7 (by decide) ?_
  refine lv_isub F.1 F.2.1 dX8_put_8 ?_
  refine z_callS (wr := [(mm, .inr (10, zmo (nI th) (nI q) (nI g) (nI t) (nI r) (nI mb) (nI nc) (nI nl) (nI pv) (nI va) (nI n3) (nI ve) (nI ed) (nI se) (nI ci) (nI mr) (nI mt) (nI ld) A8)), (A8 17, .inl (cI, 47000, .inl ftp))]) (rest := [.ref mm]) (As := [.int u1, .int (nI 0), .int ((nI ci) - (nI 1))]) F B (kX8_in l D cI cZ cG cJ u1 (nI 0) ((nI ci) - (nI 1))) hl.1 gX8_put_X8_in rfl 3 yX8_put_X8_in rfl [] [0, 1] rfl rfl rfl rfl (by decide) (Nat.le_of_ble_eq_true rfl) (Nat.le_of_ble_eq_true rfl) (Nat.le_of_ble_eq_true rfl) rfl dX8_put_9 (show 0 + 0 ≤ 0 by omega) (show 0 + 0 ≤ 0 by omega) (fun vv ww H locs hRR B => ?_)
  obtain ⟨r_1, rfl, rfl, hb_2⟩ := hRR
  have B : zB D (zT cI cZ cG cJ) A s.heap s [(mm, .inr (10, zmo (nI th) (nI q) (nI g) (nI t) (nI r) (nI mb) (nI nc) (nI nl) (nI pv) (nI va) (nI n3) (nI ve) (nI ed) (nI se) (nI ci) (nI mr) (nI mt) (nI ld) A8)), (A8 17, .inl (cI, 47000, .inl ftp))] _ _ := B
  rcases hb_2 with ⟨hr1, g1⟩ | ⟨hr1, g1⟩ <;> subst hr1
  · refine W.eq (g2 := F0 m 12 ls [.int 1, .ref mm]) rfl ?_
    have g1 := (zqR (n := ci) (by omega)).mp g1
    have g1e := zn_eq g1.1
    have g1l := zn_lt g1
    refine lv_if_eq (tgt := 33) F.1 F.2.1 dX8_put_12 (by decide) (fun hq => absurd hq (by decide)) (fun _ => ?_)
    refine lv_iload_n F.1 F.2.1 dX8_put_15 rfl (lv_at hl 2 rfl) ?_
    refine lv_iconst (v := (nI 0)) F.1 F.2.1 dX8_put_16 (by decide) ?_
    refine lv_aload_n F.1 F.2.1 dX8_put_17 rfl (lv_at hl 0 rfl) ?_
    refine z_get F B 0 rfl (ci := 10) (C := RX8) (T := TX8) (N := 37) rfl iX8_put_X8 23 (by decide) fX8_put_185 rfl dX8_put_18 ?_
    refine lv_iconst (v := (nI 1)) F.1 F.2.1 dX8_put_21 (by decide) ?_
    refine lv_isub F.1 F.2.1 dX8_put_22 ?_
    refine z_callS (wr := [(mm, .inr (10, zmo (nI th) (nI q) (nI g) (nI t) (nI r) (nI mb) (nI nc) (nI nl) (nI pv) (nI va) (nI n3) (nI ve) (nI ed) (nI se) (nI ci) (nI mr) (nI mt) (nI ld) A8)), (A8 17, .inl (cI, 47000, .inl ftp))]) (rest := [.ref mm]) (As := [.int u2, .int (nI 0), .int ((nI ci) - (nI 1))]) F B (kX8_in l D cI cZ cG cJ u2 (nI 0) ((nI ci) - (nI 1))) hl.1 gX8_put_X8_in rfl 3 yX8_put_X8_in rfl [] [0, 1] rfl rfl rfl rfl (by decide) (Nat.le_of_ble_eq_true rfl) (Nat.le_of_ble_eq_true rfl) (Nat.le_of_ble_eq_true rfl) rfl dX8_put_23 (show 0 + 0 ≤ 0 by omega) (show 0 + 0 ≤ 0 by omega) (fun vv ww H locs hRR B => ?_)
    obtain ⟨r_3, rfl, rfl, hb_4⟩ := hRR
    have B : zB D (zT cI cZ cG cJ) A s.heap s [(mm, .inr (10, zmo (nI th) (nI q) (nI g) (nI t) (nI r) (nI mb) (nI nc) (nI nl) (nI pv) (nI va) (nI n3) (nI ve) (nI ed) (nI se) (nI ci) (nI mr) (nI mt) (nI ld) A8)), (A8 17, .inl (cI, 47000, .inl ftp))] _ _ := B
    rcases hb_4 with ⟨hr1, g2⟩ | ⟨hr1, g2⟩ <;> subst hr1
    · refine W.eq (g2 := F0 m 26 ls [.int 1, .ref mm]) rfl ?_
      have g2 := (zqR (n := ci) (by omega)).mp g2
      have g2e := zn_eq g2.1
      have g2l := zn_lt g2
      refine lv_if_eq (tgt := 33) F.1 F.2.1 dX8_put_26 (by decide) (fun hq => absurd hq (by decide)) (fun _ => ?_)
      refine lv_iconst (v := (nI 1)) F.1 F.2.1 dX8_put_29 (by decide) ?_
      refine lv_goto (tgt := 34) F.1 F.2.1 dX8_put_30 (by decide) ?_
      refine z_callV (wr := [(A8 17, .inl (cI, 47000, .inl ftp))]) (rest := []) (As := [.int (nI 1)]) F B (kX8_may l D cI cZ cG cJ mm th q g t r mb nc nl pv va n3 ve ed se ci mr mt ld A8 1 (by omega) (by omega)) hl.1 (C := RX8) (T := TX8) (N := 37) (ci := 10) (q0 := 0) gX8_put_X8_may rfl 1 yX8_put_X8_may rfl rfl rfl [0] [1] rfl rfl rfl rfl (by decide) (Nat.le_of_ble_eq_true rfl) (Nat.le_of_ble_eq_true rfl) (Nat.le_of_ble_eq_true rfl) rfl dX8_put_34 (show 0 + 0 ≤ 0 by omega) (show 0 + 0 ≤ 0 by omega) (fun vv ww H locs hRR B => ?_)
      obtain ⟨r_5, th'_6, rfl, rfl, hb_7, hth⟩ := hRR
      have B : zB D (zT cI cZ cG cJ) A s.heap s [(A8 17, .inl (cI, 47000, .inl ftp)), (mm, .inr (10, zmo (nI th'_6) (nI q) (nI g) (nI t) (nI r) (nI mb) (nI nc) (nI nl) (nI pv) (nI va) (nI n3) (nI ve) (nI ed) (nI se) (nI ci) (nI mr) (nI mt) (nI ld) A8))] _ _ := B
      rcases hb_7 with ⟨hr1, hpM⟩ | ⟨hr1, hpM⟩ <;> subst hr1
      · refine W.eq (g2 := F0 m 37 ls [.int 1]) rfl ?_
        have hth0 : mt = 1 := by omega
        rw [g1e] at hl
        have hl : lv_has ls 4 [(0, .ref mm), (1, .int (nI (zn u1))), (2, .int u2)] := hl
        refine lv_if_ne (tgt := 42) F.1 F.2.1 dX8_put_37 (by decide) (fun _ => ?_) (fun hq => absurd hq (by decide))
        refine lv_aload_n F.1 F.2.1 dX8_put_42 rfl (lv_at hl 0 rfl) ?_
        refine z_get F B 1 rfl (ci := 10) (C := RX8) (T := TX8) (N := 37) rfl iX8_put_X8 34 (by decide) fX8_put_73 rfl dX8_put_43 ?_
        refine lv_iload_n F.1 F.2.1 dX8_put_46 rfl (lv_at hl 1 rfl) ?_
        refine z_iald F B 0 0 rfl rfl (j := zn u1) (by omega) (by omega) dX8_put_47 ?_
        refine W.eq (g2 := F0 m 48 ls [.int (nI (rr (zn u1)))]) (by rw [(hrw hth0 (zn u1) g1l).1]) ?_
        refine lv_istore_n (lv' := [(3, .int (nI (rr (zn u1)))), (0, .ref mm), (1, .int (nI (zn u1))), (2, .int u2)]) F.1 F.2.1 dX8_put_48 rfl hl (by decide) rfl (fun ls hl => ?_)
        refine lv_aload_n F.1 F.2.1 dX8_put_49 rfl (lv_at hl 1 rfl) ?_
        refine z_get F B 1 rfl (ci := 10) (C := RX8) (T := TX8) (N := 37) rfl iX8_put_X8 34 (by decide) fX8_put_73 rfl dX8_put_50 ?_
        refine lv_iload_n F.1 F.2.1 dX8_put_53 rfl (lv_at hl 2 rfl) ?_
        refine lv_iload_n F.1 F.2.1 dX8_put_54 rfl (lv_at hl 3 rfl) ?_
        refine z_iast F B 0 0 rfl rfl (j := zn u1) (by omega) (by omega) dX8_put_55 (fun H locs B => ?_)
        have B : zB D (zT cI cZ cG cJ) A s.heap s [(A8 17, .inl (cI, 47000, .inl (upd ftp (zn u1) u2))), (mm, .inr (10, zmo (nI th'_6) (nI q) (nI g) (nI t) (nI r) (nI mb) (nI nc) (nI nl) (nI pv) (nI va) (nI n3) (nI ve) (nI ed) (nI se) (nI ci) (nI mr) (nI mt) (nI ld) A8))] _ _ := B
        refine lv_iload_n F.1 F.2.1 dX8_put_56 rfl (lv_at hl 0 rfl) ?_
        exact z_iret F hr hlk B [1, 0] rfl (rfl) dX8_put_57 (by omega) (by omega) ⟨th'_6, (upd ftp (zn u1) u2), by rw [zif_t ⟨hth0, g1, g2⟩], rfl, (Or.inl ⟨⟨hth0, g1, g2⟩, by omega, rfl⟩)⟩
      · refine W.eq (g2 := F0 m 37 ls [.int 0]) rfl ?_
        refine lv_if_ne (tgt := 42) F.1 F.2.1 dX8_put_37 (by decide) (fun hq => absurd (by decide) hq) (fun _ => ?_)
        refine lv_iconst (v := (nI 0)) F.1 F.2.1 dX8_put_40 (by decide) ?_
        exact z_iret F hr hlk B [1, 0] rfl (rfl) dX8_put_41 (by omega) (by omega) ⟨th'_6, ftp, by rw [zif_f (fun q9 => by first | exact absurd q9.1 (by omega) | exact g1 q9.2.1 | exact g2 q9.2.2)]; rfl, rfl, (Or.inr ⟨fun q9 => by first | exact absurd q9.1 (by omega) | exact g1 q9.2.1 | exact g2 q9.2.2, by omega, rfl⟩)⟩
    · refine W.eq (g2 := F0 m 26 ls [.int 0, .ref mm]) rfl ?_
      have g2 : ¬ zq u2 ci := fun q9 => g2 ((zqR (n := ci) (by omega)).mpr q9)
      refine lv_if_eq (tgt := 33) F.1 F.2.1 dX8_put_26 (by decide) (fun _ => ?_) (fun hq => absurd (by decide) hq)
      refine lv_iconst (v := (nI 0)) F.1 F.2.1 dX8_put_33 (by decide) ?_
      refine z_callV (wr := [(A8 17, .inl (cI, 47000, .inl ftp))]) (rest := []) (As := [.int (nI 0)]) F B (kX8_may l D cI cZ cG cJ mm th q g t r mb nc nl pv va n3 ve ed se ci mr mt ld A8 0 (by omega) (by omega)) hl.1 (C := RX8) (T := TX8) (N := 37) (ci := 10) (q0 := 0) gX8_put_X8_may rfl 1 yX8_put_X8_may rfl rfl rfl [0] [1] rfl rfl rfl rfl (by decide) (Nat.le_of_ble_eq_true rfl) (Nat.le_of_ble_eq_true rfl) (Nat.le_of_ble_eq_true rfl) rfl dX8_put_34 (show 0 + 0 ≤ 0 by omega) (show 0 + 0 ≤ 0 by omega) (fun vv ww H locs hRR B => ?_)
      obtain ⟨r_8, th'_9, rfl, rfl, hb_10, hth⟩ := hRR
      have B : zB D (zT cI cZ cG cJ) A s.heap s [(A8 17, .inl (cI, 47000, .inl ftp)), (mm, .inr (10, zmo (nI th'_9) (nI q) (nI g) (nI t) (nI r) (nI mb) (nI nc) (nI nl) (nI pv) (nI va) (nI n3) (nI ve) (nI ed) (nI se) (nI ci) (nI mr) (nI mt) (nI ld) A8))] _ _ := B
      rcases hb_10 with ⟨hr1, hpM⟩ | ⟨hr1, hpM⟩ <;> subst hr1
      · refine W.eq (g2 := F0 m 37 ls [.int 1]) rfl ?_
        exact absurd rfl hpM.2
      · refine W.eq (g2 := F0 m 37 ls [.int 0]) rfl ?_
        refine lv_if_ne (tgt := 42) F.1 F.2.1 dX8_put_37 (by decide) (fun hq => absurd (by decide) hq) (fun _ => ?_)
        refine lv_iconst (v := (nI 0)) F.1 F.2.1 dX8_put_40 (by decide) ?_
        exact z_iret F hr hlk B [1, 0] rfl (rfl) dX8_put_41 (by omega) (by omega) ⟨th'_9, ftp, by rw [zif_f (fun q9 => by first | exact absurd q9.1 (by omega) | exact g1 q9.2.1 | exact g2 q9.2.2)]; rfl, rfl, (Or.inr ⟨fun q9 => by first | exact absurd q9.1 (by omega) | exact g1 q9.2.1 | exact g2 q9.2.2, by omega, rfl⟩)⟩
  · refine W.eq (g2 := F0 m 12 ls [.int 0, .ref mm]) rfl ?_
    have g1 : ¬ zq u1 ci := fun q9 => g1 ((zqR (n := ci) (by omega)).mpr q9)
    refine lv_if_eq (tgt := 33) F.1 F.2.1 dX8_put_12 (by decide) (fun _ => ?_) (fun hq => absurd (by decide) hq)
    refine lv_iconst (v := (nI 0)) F.1 F.2.1 dX8_put_33 (by decide) ?_
    refine z_callV (wr := [(A8 17, .inl (cI, 47000, .inl ftp))]) (rest := []) (As := [.int (nI 0)]) F B (kX8_may l D cI cZ cG cJ mm th q g t r mb nc nl pv va n3 ve ed se ci mr mt ld A8 0 (by omega) (by omega)) hl.1 (C := RX8) (T := TX8) (N := 37) (ci := 10) (q0 := 0) gX8_put_X8_may rfl 1 yX8_put_X8_may rfl rfl rfl [0] [1] rfl rfl rfl rfl (by decide) (Nat.le_of_ble_eq_true rfl) (Nat.le_of_ble_eq_true rfl) (Nat.le_of_ble_eq_true rfl) rfl dX8_put_34 (show 0 + 0 ≤ 0 by omega) (show 0 + 0 ≤ 0 by omega) (fun vv ww H locs hRR B => ?_)
    obtain ⟨r_11, th'_12, rfl, rfl, hb_13, hth⟩ := hRR
    have B : zB D (zT cI cZ cG cJ) A s.heap s [(A8 17, .inl (cI, 47000, .inl ftp)), (mm, .inr (10, zmo (nI th'_12) (nI q) (nI g) (nI t) (nI r) (nI mb) (nI nc) (nI nl) (nI pv) (nI va) (nI n3) (nI ve) (nI ed) (nI se) (nI ci) (nI mr) (nI mt) (nI ld) A8))] _ _ := B
    rcases hb_13 with ⟨hr1, hpM⟩ | ⟨hr1, hpM⟩ <;> subst hr1
    · refine W.eq (g2 := F0 m 37 ls [.int 1]) rfl ?_
      exact absurd rfl hpM.2
    · refine W.eq (g2 := F0 m 37 ls [.int 0]) rfl ?_
      refine lv_if_ne (tgt := 42) F.1 F.2.1 dX8_put_37 (by decide) (fun hq => absurd (by decide) hq) (fun _ => ?_)
      refine lv_iconst (v := (nI 0)) F.1 F.2.1 dX8_put_40 (by decide) ?_
      exact z_iret F hr hlk B [1, 0] rfl (rfl) dX8_put_41 (by omega) (by omega) ⟨th'_12, ftp, by rw [zif_f (fun q9 => by first | exact absurd q9.1 (by omega) | exact g1 q9.2.1 | exact g2 q9.2.2)]; rfl, rfl, (Or.inr ⟨fun q9 => by first | exact absurd q9.1 (by omega) | exact g1 q9.2.1 | exact g2 q9.2.2, by omega, rfl⟩)⟩
