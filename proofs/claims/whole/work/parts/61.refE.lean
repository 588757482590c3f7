/-! CONTRACTS of the reference: lay, split, vertexAt -/
theorem zlay_3 {f : Nat → Int32} {n3 a b d : Nat} {L : List Nat} (h : zR f (3 * n3) L) : zR (upd (upd (upd f (3 * n3) (nI a)) (3 * n3 + 1) (nI b)) (3 * n3 + 2) (nI d)) (3 * (n3 + 1)) (L ++ [a, b, d]) := by
  have h1 := zR_add (f' := upd f (3 * n3) (nI a)) h (fun i hi => pk_un (by omega)) pk_us
  have h2 := zR_add (f' := upd (upd f (3 * n3) (nI a)) (3 * n3 + 1) (nI b)) h1 (fun i hi => pk_un (by omega)) pk_us
  have h3 := zR_add (f' := upd (upd (upd f (3 * n3) (nI a)) (3 * n3 + 1) (nI b)) (3 * n3 + 2) (nI d)) h2 (fun i hi => pk_un (by omega)) pk_us
  simp only [List.append_assoc, List.cons_append, List.nil_append] at h3
  exact h3
theorem zva_a {v : Nat} {L3 : List Nat} {e s : Nat} (he : v ≤ e) (hs : s < 2) (h3 : ¬ 3 ≤ (e - v) % 6) : zva v L3 (2 * e + s) = if s = 0 then 2 * v + 3 * ((e - v) / 6) + (if (e - v) % 6 = 1 then 1 else 0) else 2 * v + 3 * ((e - v) / 6) + (if (e - v) % 6 = 0 then 1 else 2) := by
  have q : 2 * e + s = 2 * (v + 6 * ((e - v) / 6)) + (2 * ((e - v) % 6) + s) := by omega
  rw [q, zva_hi v L3 _ _ (by omega)]
  generalize (e - v) / 6 = j at *
  generalize (e - v) % 6 = k at *
  rcases (show k = 0 ∨ k = 1 ∨ k = 2 by omega) with rfl | rfl | rfl <;> rcases (show s = 0 ∨ s = 1 by omega) with rfl | rfl <;> rfl
theorem zva_b {v : Nat} {L3 : List Nat} {e s : Nat} (he : v ≤ e) (hs : s < 2) (h3 : 3 ≤ (e - v) % 6) : zva v L3 (2 * e + s) = if s = 0 then 2 * v + 3 * ((e - v) / 6) + (e - v) % 6 - 3 else L3.getD (3 * ((e - v) / 6) + (e - v) % 6 - 3) 0 := by
  have q : 2 * e + s = 2 * (v + 6 * ((e - v) / 6)) + (2 * ((e - v) % 6) + s) := by omega
  rw [q, zva_hi v L3 _ _ (by omega)]
  have hk : (e - v) % 6 < 6 := Nat.mod_lt _ (by decide)
  generalize (e - v) / 6 = j at *
  generalize (e - v) % 6 = k at *
  rcases (show k = 3 ∨ k = 4 ∨ k = 5 by omega) with rfl | rfl | rfl <;> rcases (show s = 0 ∨ s = 1 by omega) with rfl | rfl <;> rfl
theorem iX8_lay_X8 : ∀ w ∈ u_ws RX8 TX8 37, w ∈ wsX8_lay := fun w h => List.mem_cons_of_mem _ (List.mem_append_right _ h)
theorem fX8_lay_44 : Cond.fieldLink RX8 44 "TourChainModel" "three" "[I" ∈ wsX8_lay := by decide +kernel
theorem fX8_lay_152 : Cond.fieldLink RX8 152 "TourChainModel" "threes" "I" ∈ wsX8_lay := by decide +kernel
set_option maxHeartbeats 4000000 in
set_option maxRecDepth 100000 in
theorem kX8_lay (l : Launch) (D : va_G) (cI cZ cG cJ : ClassId) (mm : Nat) (th : Nat) (q : Nat) (g : Nat) (t : Nat) (r : Nat) (mb : Nat) (nc : Nat) (nl : Nat) (pv : Nat) (va : Nat) (n3 : Nat) (ve : Nat) (ed : Nat) (se : Nat) (ci : Nat) (mr : Nat) (mt : Nat) (ld : Nat) (A8 : Nat → Nat) (f3 : Nat → Int32) (L3 : List Nat) (a : Nat) (b : Nat) (d : Nat) (hR : zR f3 (3 * n3) L3) (hb : 3 * n3 + 3 ≤ 1900) : zC l yX8_lay wsX8_lay 0 0 0 0 D (zT cI cZ cG cJ) [.ref mm, .int (nI a), .int (nI b), .int (nI d)] [(mm, .inr (10, zmo (nI th) (nI q) (nI g) (nI t) (nI r) (nI mb) (nI nc) (nI nl) (nI pv) (nI va) (nI n3) (nI ve) (nI ed) (nI se) (nI ci) (nI mr) (nI mt) (nI ld) A8)), (A8 8, .inl (cI, 1900, .inl f3))] (fun (ov : Option Value) (ow : va_W) => ∃ f3' : Nat → Int32, ov = none ∧ ow = [(mm, .inr (10, zmo (nI th) (nI q) (nI g) (nI t) (nI r) (nI mb) (nI nc) (nI nl) (nI pv) (nI va) (nI (n3 + 1)) (nI ve) (nI ed) (nI se) (nI ci) (nI mr) (nI mt) (nI ld) A8)), (A8 8, .inl (cI, 1900, .inl f3'))] ∧ (zR f3' (3 * (n3 + 1)) (L3 ++ [a, b, d]))) := by
  refine zC.of (cc := cX8_lay) (maxL := 4) (ret := none) (by decide) rfl (Nat.le_of_ble_eq_true rfl) ?_
  intro p e s m below meth c A ls F hr hlk hnm B hl
  have hl : lv_has ls 4 [(0, .ref mm), (1, .int (nI a)), (2, .int (nI b)), (3, .int (nI d))] := hl
  refine lv_aload_n F.1 F.2.1 dX8_lay_0 rfl (lv_at hl 0 rfl) ?_
  refine z_get F B 0 rfl (ci := 10) (C := RX8) (T := TX8) (N := 37) rfl iX8_lay_X8 19 (by decide) fX8_lay_44 rfl dX8_lay_1 ?_
  refine lv_iconst (v := (nI 3)) F.1 F.2.1 dX8_lay_4 (by decide) ?_
  refine lv_aload_n F.1 F.2.1 dX8_lay_5 rfl (lv_at hl 0 rfl) ?_
  refine z_get F B 0 rfl (ci := 10) (C := RX8) (T := TX8) (N := 37) rfl iX8_lay_X8 16 (by decide) fX8_lay_152 rfl dX8_lay_6 ?_
  refine z_imul F dX8_lay_9 ?_
  refine lv_iload_n F.1 F.2.1 dX8_lay_10 rfl (lv_at hl 1 rfl) ?_
  refine z_iast F B 1 0 rfl rfl (j := 3 * n3) (by omega) (by omega) dX8_lay_11 (fun H locs B => ?_)
  have B : zB D (zT cI cZ cG cJ) A s.heap s [(mm, .inr (10, zmo (nI th) (nI q) (nI g) (nI t) (nI r) (nI mb) (nI nc) (nI nl) (nI pv) (nI va) (nI n3) (nI ve) (nI ed) (nI se) (nI ci) (nI mr) (nI mt) (nI ld) A8)), (A8 8, .inl (cI, 1900, .inl (upd f3 (3 * n3) (nI a))))] _ _ := B
  refine lv_aload_n F.1 F.2.1 dX8_lay_12 rfl (lv_at hl 0 rfl) ?_
  refine z_get F B 0 rfl (ci := 10) (C := RX8) (T := TX8) (N := 37) rfl iX8_lay_X8 19 (by decide) fX8_lay_44 rfl dX8_lay_13 ?_
  refine lv_iconst (v := (nI 3)) F.1 F.2.1 dX8_lay_16 (by decide) ?_
  refine lv_aload_n F.1 F.2.1 dX8_lay_17 rfl (lv_at hl 0 rfl) ?_
  refine z_get F B 0 rfl (ci := 10) (C := RX8) (T := TX8) (N := 37) rfl iX8_lay_X8 16 (by decide) fX8_lay_152 rfl dX8_lay_18 ?_
  refine z_imul F dX8_lay_21 ?_
  refine lv_iconst (v := (nI 1)) F.1 F.2.1 dX8_lay_22 (by decide) ?_
  refine z_iadd F dX8_lay_23 ?_
  refine lv_iload_n F.1 F.2.1 dX8_lay_24 rfl (lv_at hl 2 rfl) ?_
  refine z_iast F B 1 0 rfl rfl (j := 3 * n3 + 1) (by omega) (by omega) dX8_lay_25 (fun H locs B => ?_)
  have B : zB D (zT cI cZ cG cJ) A s.heap s [(mm, .inr (10, zmo (nI th) (nI q) (nI g) (nI t) (nI r) (nI mb) (nI nc) (nI nl) (nI pv) (nI va) (nI n3) (nI ve) (nI ed) (nI se) (nI ci) (nI mr) (nI mt) (nI ld) A8)), (A8 8, .inl (cI, 1900, .inl (upd (upd f3 (3 * n3) (nI a)) (3 * n3 + 1) (nI b))))] _ _ := B
  refine lv_aload_n F.1 F.2.1 dX8_lay_26 rfl (lv_at hl 0 rfl) ?_
  refine z_get F B 0 rfl (ci := 10) (C := RX8) (T := TX8) (N := 37) rfl iX8_lay_X8 19 (by decide) fX8_lay_44 rfl dX8_lay_27 ?_
  refine lv_iconst (v := (nI 3)) F.1 F.2.1 dX8_lay_30 (by decide) ?_
  refine lv_aload_n F.1 F.2.1 dX8_lay_31 rfl (lv_at hl 0 rfl) ?_
  refine z_get F B 0 rfl (ci := 10) (C := RX8) (T := TX8) (N := 37) rfl iX8_lay_X8 16 (by decide) fX8_lay_152 rfl dX8_lay_32 ?_
  refine z_imul F dX8_lay_35 ?_
  refine lv_iconst (v := (nI 2)) F.1 F.2.1 dX8_lay_36 (by decide) ?_
  refine z_iadd F dX8_lay_37 ?_
  refine lv_iload_n F.1 F.2.1 dX8_lay_38 rfl (lv_at hl 3 rfl) ?_
  refine z_iast F B 1 0 rfl rfl (j := 3 * n3 + 2) (by omega) (by omega) dX8_lay_39 (fun H locs B => ?_)
  have B : zB D (zT cI cZ cG cJ) A s.heap s [(mm, .inr (10, zmo (nI th) (nI q) (nI g) (nI t) (nI r) (nI mb) (nI nc) (nI nl) (nI pv) (nI va) (nI n3) (nI ve) (nI ed) (nI se) (nI ci) (nI mr) (nI mt) (nI ld) A8)), (A8 8, .inl (cI, 1900, .inl (upd (upd (upd f3 (3 * n3) (nI a)) (3 * n3 + 1) (nI b)) (3 * n3 + 2) (nI d))))] _ _ := B
  refine lv_aload_n F.1 F.2.1 dX8_lay_40 rfl (lv_at hl 0 rfl) ?_
  refine lv_dup F.1 F.2.1 dX8_lay_41 rfl ?_
  refine z_get F B 0 rfl (ci := 10) (C := RX8) (T := TX8) (N := 37) rfl iX8_lay_X8 16 (by decide) fX8_lay_152 rfl dX8_lay_42 ?_
  refine lv_iconst (v := (nI 1)) F.1 F.2.1 dX8_lay_45 (by decide) ?_
  refine z_iadd F dX8_lay_46 ?_
  refine z_put F B 0 rfl (ci := 10) (C := RX8) (T := TX8) (N := 37) rfl iX8_lay_X8 tyX8 tyX8_ok nmX8 16 (by decide) fX8_lay_152 rfl (v := .int (nI (n3 + 1))) rfl rfl (Nat.le_of_ble_eq_true rfl) dX8_lay_47 (fun H locs B => ?_)
  have B : zB D (zT cI cZ cG cJ) A s.heap s [(mm, .inr (10, zmo (nI th) (nI q) (nI g) (nI t) (nI r) (nI mb) (nI nc) (nI nl) (nI pv) (nI va) (nI (n3 + 1)) (nI ve) (nI ed) (nI se) (nI ci) (nI mr) (nI mt) (nI ld) A8)), (A8 8, .inl (cI, 1900, .inl (upd (upd (upd f3 (3 * n3) (nI a)) (3 * n3 + 1) (nI b)) (3 * n3 + 2) (nI d))))] _ _ := B
  exact z_vret F hr hlk B [0, 1] rfl (rfl) dX8_lay_50 (by omega) (by omega) ⟨(upd (upd (upd f3 (3 * n3) (nI a)) (3 * n3 + 1) (nI b)) (3 * n3 + 2) (nI d)), rfl, rfl, (zlay_3 hR)⟩
theorem iX8_split_X8 : ∀ w ∈ u_ws RX8 TX8 37, w ∈ wsX8_split := fun w h => List.mem_cons_of_mem _ (List.mem_append_right _ h)
theorem fX8_split_41 : Cond.fieldLink RX8 41 "TourChainModel" "literal" "[I" ∈ wsX8_split := by decide +kernel
theorem fX8_split_158 : Cond.fieldLink RX8 158 "TourChainModel" "all" "I" ∈ wsX8_split := by decide +kernel
theorem yX8_split_X8_lay : yX8_lay.cls = RX8 ∧ yX8_lay.cls ≠ "java/lang/invoke/MethodHandle" ∧ yX8_lay.cls ≠ "java/lang/invoke/VarHandle" ∧ (parseMethodDescriptor yX8_lay.desc).map (fun d => d.parameters.length) = some 3 := by decide +kernel
set_option maxHeartbeats 4000000 in
set_option maxRecDepth 100000 in
theorem kX8_split (l : Launch) (D : va_G) (cI cZ cG cJ : ClassId) (mm : Nat) (th : Nat) (q : Nat) (g : Nat) (t : Nat) (r : Nat) (mb : Nat) (nc : Nat) (nl : Nat) (pv : Nat) (va : Nat) (n3 : Nat) (ve : Nat) (ed : Nat) (se : Nat) (ci : Nat) (mr : Nat) (mt : Nat) (ld : Nat) (A8 : Nat → Nat) (fl : Nat → Int32) (f3 : Nat → Int32) (L3 : List Nat) (cl : List Nat) (x : Nat) (n : Nat) (hcl : cl.length = n) (hn1 : 1 ≤ n) (hn2 : n ≤ 1000) (hfl : ∀ i, i < n → fl (x + i) = nI (cl.getD i 0)) (hx : x + n ≤ 2400) (hR : zR f3 (3 * n3) L3) (hb : 3 * n3 + (zth1 va cl).length ≤ 1900) : zC l yX8_split wsX8_split 1 23 0 0 D (zT cI cZ cG cJ) [.ref mm, .int (nI x), .int (nI n)] [(mm, .inr (10, zmo (nI th) (nI q) (nI g) (nI t) (nI r) (nI mb) (nI nc) (nI nl) (nI pv) (nI va) (nI n3) (nI ve) (nI ed) (nI se) (nI ci) (nI mr) (nI mt) (nI ld) A8)), (A8 7, .inl (cI, 2400, .inl fl)), (A8 8, .inl (cI, 1900, .inl f3))] (fun (ov : Option Value) (ow : va_W) => ∃ n3' : Nat, ∃ f3' : Nat → Int32, ov = none ∧ ow = [(mm, .inr (10, zmo (nI th) (nI q) (nI g) (nI t) (nI r) (nI mb) (nI nc) (nI nl) (nI pv) (nI (va + (n - 3))) (nI n3') (nI ve) (nI ed) (nI se) (nI ci) (nI mr) (nI mt) (nI ld) A8)), (A8 7, .inl (cI, 2400, .inl fl)), (A8 8, .inl (cI, 1900, .inl f3'))] ∧ (3 * n3' = 3 * n3 + (zth1 va cl).length) ∧ (zR f3' (3 * n3') (L3 ++ zth1 va cl))) := by
  refine zC.of (cc := cX8_split) (maxL := 4) (ret := none) (by decide) rfl (Nat.le_of_ble_eq_true rfl) ?_
  intro p e s m below meth c A ls F hr hlk hnm B hl
  have hl : lv_has ls 4 [(0, .ref mm), (1, .int (nI x)), (2, .int (nI n))] := hl
  have hfl0 : fl x = nI (cl.getD 0 0) := hfl 0 (by omega)
  refine lv_iload_n F.1 F.2.1 dX8_split_0 rfl (lv_at hl 2 rfl) ?_
  refine lv_iconst (v := (nI 4)) F.1 F.2.1 dX8_split_1 (by decide) ?_
  refine z_icmp_ge (tgt := 43) F (by omega) (by omega) dX8_split_2 (by decide) (fun c2 => ?_) (fun c2 => ?_)
  · have hbl := zsp_len va (cl := cl) (by omega)
    rw [zth1_l (by omega), hbl, hcl] at hb
    refine lv_aload_n F.1 F.2.1 dX8_split_43 rfl (lv_at hl 0 rfl) ?_
    refine lv_aload_n F.1 F.2.1 dX8_split_44 rfl (lv_at hl 0 rfl) ?_
    refine z_get F B 0 rfl (ci := 10) (C := RX8) (T := TX8) (N := 37) rfl iX8_split_X8 18 (by decide) fX8_split_41 rfl dX8_split_45 ?_
    refine lv_iload_n F.1 F.2.1 dX8_split_48 rfl (lv_at hl 1 rfl) ?_
    refine z_iald F B 1 0 rfl rfl (j := x) (by omega) (by omega) dX8_split_49 ?_
    refine W.eq (g2 := F0 m 50 ls [.int (nI (cl.getD 0 0)), .ref mm]) (by rw [hfl0]) ?_
    refine lv_aload_n F.1 F.2.1 dX8_split_50 rfl (lv_at hl 0 rfl) ?_
    refine z_get F B 0 rfl (ci := 10) (C := RX8) (T := TX8) (N := 37) rfl iX8_split_X8 18 (by decide) fX8_split_41 rfl dX8_split_51 ?_
    refine lv_iload_n F.1 F.2.1 dX8_split_54 rfl (lv_at hl 1 rfl) ?_
    refine lv_iconst (v := (nI 1)) F.1 F.2.1 dX8_split_55 (by decide) ?_
    refine z_iadd F dX8_split_56 ?_
    refine z_iald F B 1 0 rfl rfl (j := x + 1) (by omega) (by omega) dX8_split_57 ?_
    refine W.eq (g2 := F0 m 58 ls [.int (nI (cl.getD 1 0)), .int (nI (cl.getD 0 0)), .ref mm]) (by rw [hfl 1 (by omega)]) ?_
    refine lv_iconst (v := (nI 2)) F.1 F.2.1 dX8_split_58 (by decide) ?_
    refine lv_aload_n F.1 F.2.1 dX8_split_59 rfl (lv_at hl 0 rfl) ?_
    refine z_get F B 0 rfl (ci := 10) (C := RX8) (T := TX8) (N := 37) rfl iX8_split_X8 15 (by decide) fX8_split_158 rfl dX8_split_60 ?_
    refine z_imul F dX8_split_63 ?_
    refine z_callV (wr := [(A8 7, .inl (cI, 2400, .inl fl))]) (rest := []) (As := [.int (nI (cl.getD 0 0)), .int (nI (cl.getD 1 0)), .int (nI (2 * va))]) F B (kX8_lay l D cI cZ cG cJ mm th q g t r mb nc nl pv va n3 ve ed se ci mr mt ld A8 f3 L3 (cl.getD 0 0) (cl.getD 1 0) (2 * va) (hR) (by omega)) hl.1 (C := RX8) (T := TX8) (N := 37) (ci := 10) (q0 := 0) gX8_split_X8_lay rfl 3 yX8_split_X8_lay rfl rfl rfl [0, 2] [1] rfl rfl rfl rfl (by decide) (Nat.le_of_ble_eq_true rfl) (Nat.le_of_ble_eq_true rfl) (Nat.le_of_ble_eq_true rfl) rfl dX8_split_64 (show 0 + 0 ≤ 0 by omega) (show 0 + 0 ≤ 0 by omega) (fun vv ww H locs hRR B => ?_)
    obtain ⟨f3'_1, rfl, rfl, hRa⟩ := hRR
    have B : zB D (zT cI cZ cG cJ) A s.heap s [(A8 7, .inl (cI, 2400, .inl fl)), (mm, .inr (10, zmo (nI th) (nI q) (nI g) (nI t) (nI r) (nI mb) (nI nc) (nI nl) (nI pv) (nI va) (nI (n3 + 1)) (nI ve) (nI ed) (nI se) (nI ci) (nI mr) (nI mt) (nI ld) A8)), (A8 8, .inl (cI, 1900, .inl f3'_1))] _ _ := B
    refine W.eq (g2 := F0 m 67 ls []) rfl ?_
    refine lv_iconst (v := (nI 2)) F.1 F.2.1 dX8_split_67 (by decide) ?_
    refine lv_istore_n (lv' := [(3, .int (nI 2)), (0, .ref mm), (1, .int (nI x)), (2, .int (nI n))]) F.1 F.2.1 dX8_split_68 rfl hl (by decide) rfl (fun ls hl => ?_)
    have loop69 : ∀ (fuel : Nat) (k : Nat) (f31 : Nat → Int32), n - 4 - k < fuel → (k ≤ n - 4) → (zR f31 (3 * (n3 + 1 + k)) (L3 ++ ([cl.getD 0 0, cl.getD 1 0, 2 * va] ++ (List.range k).flatMap (zsp1 va cl)))) → ∀ (H : Heap) (locs : List Loc) (ls : Array Slot), zB D (zT cI cZ cG cJ) A s.heap s [(mm, .inr (10, zmo (nI th) (nI q) (nI g) (nI t) (nI r) (nI mb) (nI nc) (nI nl) (nI pv) (nI (va + k)) (nI (n3 + 1 + k)) (nI ve) (nI ed) (nI se) (nI ci) (nI mr) (nI mt) (nI ld) A8)), (A8 7, .inl (cI, 2400, .inl fl)), (A8 8, .inl (cI, 1900, .inl f31))] H locs → lv_has ls 4 [(0, .ref mm), (1, .int (nI x)), (2, .int (nI n)), (3, .int (nI (2 + k)))] → W p l e { frames := 1, cells := 0, slots := 0, locals := 23 } s m [.ref mm, .int (nI x), .int (nI n)].toArray below meth c H locs 0 0 (zQ below [.ref mm, .int (nI x), .int (nI n)].toArray s D (zT cI cZ cG cJ) A (fun (ov : Option Value) (ow : va_W) => ∃ n3' : Nat, ∃ f3' : Nat → Int32, ov = none ∧ ow = [(mm, .inr (10, zmo (nI th) (nI q) (nI g) (nI t) (nI r) (nI mb) (nI nc) (nI nl) (nI pv) (nI (va + (n - 3))) (nI n3') (nI ve) (nI ed) (nI se) (nI ci) (nI mr) (nI mt) (nI ld) A8)), (A8 7, .inl (cI, 2400, .inl fl)), (A8 8, .inl (cI, 1900, .inl f3'))] ∧ (3 * n3' = 3 * n3 + (zth1 va cl).length) ∧ (zR f3' (3 * n3') (L3 ++ zth1 va cl))) 0 0) (F0 m 69 ls []) := by
      intro fuel
      induction fuel with
      | zero => intro k f31 hmz; exact absurd hmz (Nat.not_lt_zero _)
      | succ fuel ih =>
        intro k f31 hm hk hR1 H locs ls B hl
        have ih69 := ih
        refine lv_iload_n F.1 F.2.1 dX8_split_69 rfl (lv_at hl 3 rfl) ?_
        refine lv_iload_n F.1 F.2.1 dX8_split_70 rfl (lv_at hl 2 rfl) ?_
        refine lv_iconst (v := (nI 2)) F.1 F.2.1 dX8_split_71 (by decide) ?_
        refine z_isub F (by omega) dX8_split_72 ?_
        refine z_icmp_ge (tgt := 120) F (by omega) (by omega) dX8_split_73 (by decide) (fun c73 => ?_) (fun c73 => ?_)
        · have hkn : n - 4 = k := by omega
          refine lv_aload_n F.1 F.2.1 dX8_split_120 rfl (lv_at hl 0 rfl) ?_
          refine lv_iconst (v := (nI 2)) F.1 F.2.1 dX8_split_121 (by decide) ?_
          refine lv_aload_n F.1 F.2.1 dX8_split_122 rfl (lv_at hl 0 rfl) ?_
          refine z_get F B 0 rfl (ci := 10) (C := RX8) (T := TX8) (N := 37) rfl iX8_split_X8 15 (by decide) fX8_split_158 rfl dX8_split_123 ?_
          refine z_imul F dX8_split_126 ?_
          refine lv_iconst (v := (nI 1)) F.1 F.2.1 dX8_split_127 (by decide) ?_
          refine z_iadd F dX8_split_128 ?_
          refine lv_aload_n F.1 F.2.1 dX8_split_129 rfl (lv_at hl 0 rfl) ?_
          refine z_get F B 0 rfl (ci := 10) (C := RX8) (T := TX8) (N := 37) rfl iX8_split_X8 18 (by decide) fX8_split_41 rfl dX8_split_130 ?_
          refine lv_iload_n F.1 F.2.1 dX8_split_133 rfl (lv_at hl 1 rfl) ?_
          refine lv_iload_n F.1 F.2.1 dX8_split_134 rfl (lv_at hl 2 rfl) ?_
          refine z_iadd F dX8_split_135 ?_
          refine lv_iconst (v := (nI 2)) F.1 F.2.1 dX8_split_136 (by decide) ?_
          refine z_isub F (by omega) dX8_split_137 ?_
          refine W.eq (g2 := F0 m 138 ls [.int (nI (x + (n - 2))), .ref (A8 7), .int (nI (2 * (va + k) + 1)), .ref mm]) (by rw [show x + n - 2 = x + (n - 2) by omega]) ?_
          refine z_iald F B 1 0 rfl rfl (j := x + (n - 2)) (by omega) (by omega) dX8_split_138 ?_
          refine W.eq (g2 := F0 m 139 ls [.int (nI (cl.getD (cl.length - 2) 0)), .int (nI (2 * (va + k) + 1)), .ref mm]) (by rw [hcl, hfl (n - 2) (by omega)]) ?_
          refine lv_aload_n F.1 F.2.1 dX8_split_139 rfl (lv_at hl 0 rfl) ?_
          refine z_get F B 0 rfl (ci := 10) (C := RX8) (T := TX8) (N := 37) rfl iX8_split_X8 18 (by decide) fX8_split_41 rfl dX8_split_140 ?_
          refine lv_iload_n F.1 F.2.1 dX8_split_143 rfl (lv_at hl 1 rfl) ?_
          refine lv_iload_n F.1 F.2.1 dX8_split_144 rfl (lv_at hl 2 rfl) ?_
          refine z_iadd F dX8_split_145 ?_
          refine lv_iconst (v := (nI 1)) F.1 F.2.1 dX8_split_146 (by decide) ?_
          refine z_isub F (by omega) dX8_split_147 ?_
          refine W.eq (g2 := F0 m 148 ls [.int (nI (x + (n - 1))), .ref (A8 7), .int (nI (cl.getD (cl.length - 2) 0)), .int (nI (2 * (va + k) + 1)), .ref mm]) (by rw [show x + n - 1 = x + (n - 1) by omega]) ?_
          refine z_iald F B 1 0 rfl rfl (j := x + (n - 1)) (by omega) (by omega) dX8_split_148 ?_
          refine W.eq (g2 := F0 m 149 ls [.int (nI (cl.getD (cl.length - 1) 0)), .int (nI (cl.getD (cl.length - 2) 0)), .int (nI (2 * (va + k) + 1)), .ref mm]) (by rw [hcl, hfl (n - 1) (by omega)]) ?_
          refine z_callV (wr := [(A8 7, .inl (cI, 2400, .inl fl))]) (rest := []) (As := [.int (nI (2 * (va + k) + 1)), .int (nI (cl.getD (cl.length - 2) 0)), .int (nI (cl.getD (cl.length - 1) 0))]) F B (kX8_lay l D cI cZ cG cJ mm th q g t r mb nc nl pv (va + k) (n3 + 1 + k) ve ed se ci mr mt ld A8 f31 (L3 ++ ([cl.getD 0 0, cl.getD 1 0, 2 * va] ++ (List.range k).flatMap (zsp1 va cl))) (2 * (va + k) + 1) (cl.getD (cl.length - 2) 0) (cl.getD (cl.length - 1) 0) (hR1) (by omega)) hl.1 (C := RX8) (T := TX8) (N := 37) (ci := 10) (q0 := 0) gX8_split_X8_lay rfl 3 yX8_split_X8_lay rfl rfl rfl [0, 2] [1] rfl rfl rfl rfl (by decide) (Nat.le_of_ble_eq_true rfl) (Nat.le_of_ble_eq_true rfl) (Nat.le_of_ble_eq_true rfl) rfl dX8_split_149 (show 0 + 0 ≤ 0 by omega) (show 0 + 0 ≤ 0 by omega) (fun vv ww H locs hRR B => ?_)
          obtain ⟨f3'_2, rfl, rfl, hRc⟩ := hRR
          have B : zB D (zT cI cZ cG cJ) A s.heap s [(A8 7, .inl (cI, 2400, .inl fl)), (mm, .inr (10, zmo (nI th) (nI q) (nI g) (nI t) (nI r) (nI mb) (nI nc) (nI nl) (nI pv) (nI (va + k)) (nI ((n3 + 1 + k) + 1)) (nI ve) (nI ed) (nI se) (nI ci) (nI mr) (nI mt) (nI ld) A8)), (A8 8, .inl (cI, 1900, .inl f3'_2))] _ _ := B
          refine W.eq (g2 := F0 m 152 ls []) rfl ?_
          refine lv_aload_n F.1 F.2.1 dX8_split_152 rfl (lv_at hl 0 rfl) ?_
          refine lv_dup F.1 F.2.1 dX8_split_153 rfl ?_
          refine z_get F B 1 rfl (ci := 10) (C := RX8) (T := TX8) (N := 37) rfl iX8_split_X8 15 (by decide) fX8_split_158 rfl dX8_split_154 ?_
          refine lv_iconst (v := (nI 1)) F.1 F.2.1 dX8_split_157 (by decide) ?_
          refine z_iadd F dX8_split_158 ?_
          refine z_put F B 1 rfl (ci := 10) (C := RX8) (T := TX8) (N := 37) rfl iX8_split_X8 tyX8 tyX8_ok nmX8 15 (by decide) fX8_split_158 rfl (v := .int (nI ((va + k) + 1))) rfl rfl (Nat.le_of_ble_eq_true rfl) dX8_split_159 (fun H locs B => ?_)
          have B : zB D (zT cI cZ cG cJ) A s.heap s [(A8 7, .inl (cI, 2400, .inl fl)), (mm, .inr (10, zmo (nI th) (nI q) (nI g) (nI t) (nI r) (nI mb) (nI nc) (nI nl) (nI pv) (nI ((va + k) + 1)) (nI ((n3 + 1 + k) + 1)) (nI ve) (nI ed) (nI se) (nI ci) (nI mr) (nI mt) (nI ld) A8)), (A8 8, .inl (cI, 1900, .inl f3'_2))] _ _ := B
          exact z_vret F hr hlk B [1, 0, 2] rfl (by rw [show n - 3 = k + 1 by omega]; rfl) dX8_split_162 (by omega) (by omega) ⟨((n3 + 1 + k) + 1), f3'_2, rfl, rfl, (by rw [zth1_l (by omega), hbl, hcl]; omega), (by rw [zth1_l (by omega)]; unfold zsp; have q9 := hRc; rw [hcl] at q9 ⊢; rw [hkn]; simp only [List.append_assoc, List.cons_append, List.nil_append] at q9 ⊢; exact q9)⟩
        · refine lv_aload_n F.1 F.2.1 dX8_split_76 rfl (lv_at hl 0 rfl) ?_
          refine lv_iconst (v := (nI 2)) F.1 F.2.1 dX8_split_77 (by decide) ?_
          refine lv_aload_n F.1 F.2.1 dX8_split_78 rfl (lv_at hl 0 rfl) ?_
          refine z_get F B 0 rfl (ci := 10) (C := RX8) (T := TX8) (N := 37) rfl iX8_split_X8 15 (by decide) fX8_split_158 rfl dX8_split_79 ?_
          refine z_imul F dX8_split_82 ?_
          refine lv_iconst (v := (nI 1)) F.1 F.2.1 dX8_split_83 (by decide) ?_
          refine z_iadd F dX8_split_84 ?_
          refine lv_aload_n F.1 F.2.1 dX8_split_85 rfl (lv_at hl 0 rfl) ?_
          refine z_get F B 0 rfl (ci := 10) (C := RX8) (T := TX8) (N := 37) rfl iX8_split_X8 18 (by decide) fX8_split_41 rfl dX8_split_86 ?_
          refine lv_iload_n F.1 F.2.1 dX8_split_89 rfl (lv_at hl 1 rfl) ?_
          refine lv_iload_n F.1 F.2.1 dX8_split_90 rfl (lv_at hl 3 rfl) ?_
          refine z_iadd F dX8_split_91 ?_
          refine z_iald F B 1 0 rfl rfl (j := x + (2 + k)) (by omega) (by omega) dX8_split_92 ?_
          refine W.eq (g2 := F0 m 93 ls [.int (nI (cl.getD (2 + k) 0)), .int (nI (2 * (va + k) + 1)), .ref mm]) (by rw [hfl (2 + k) (by omega)]) ?_
          refine lv_iconst (v := (nI 2)) F.1 F.2.1 dX8_split_93 (by decide) ?_
          refine lv_aload_n F.1 F.2.1 dX8_split_94 rfl (lv_at hl 0 rfl) ?_
          refine z_get F B 0 rfl (ci := 10) (C := RX8) (T := TX8) (N := 37) rfl iX8_split_X8 15 (by decide) fX8_split_158 rfl dX8_split_95 ?_
          refine z_imul F dX8_split_98 ?_
          refine lv_iconst (v := (nI 2)) F.1 F.2.1 dX8_split_99 (by decide) ?_
          refine z_iadd F dX8_split_100 ?_
          refine z_callV (wr := [(A8 7, .inl (cI, 2400, .inl fl))]) (rest := []) (As := [.int (nI (2 * (va + k) + 1)), .int (nI (cl.getD (2 + k) 0)), .int (nI (2 * (va + k) + 2))]) F B (kX8_lay l D cI cZ cG cJ mm th q g t r mb nc nl pv (va + k) (n3 + 1 + k) ve ed se ci mr mt ld A8 f31 (L3 ++ ([cl.getD 0 0, cl.getD 1 0, 2 * va] ++ (List.range k).flatMap (zsp1 va cl))) (2 * (va + k) + 1) (cl.getD (2 + k) 0) (2 * (va + k) + 2) (hR1) (by omega)) hl.1 (C := RX8) (T := TX8) (N := 37) (ci := 10) (q0 := 0) gX8_split_X8_lay rfl 3 yX8_split_X8_lay rfl rfl rfl [0, 2] [1] rfl rfl rfl rfl (by decide) (Nat.le_of_ble_eq_true rfl) (Nat.le_of_ble_eq_true rfl) (Nat.le_of_ble_eq_true rfl) rfl dX8_split_101 (show 0 + 0 ≤ 0 by omega) (show 0 + 0 ≤ 0 by omega) (fun vv ww H locs hRR B => ?_)
          obtain ⟨f3'_3, rfl, rfl, hRb⟩ := hRR
          have B : zB D (zT cI cZ cG cJ) A s.heap s [(A8 7, .inl (cI, 2400, .inl fl)), (mm, .inr (10, zmo (nI th) (nI q) (nI g) (nI t) (nI r) (nI mb) (nI nc) (nI nl) (nI pv) (nI (va + k)) (nI ((n3 + 1 + k) + 1)) (nI ve) (nI ed) (nI se) (nI ci) (nI mr) (nI mt) (nI ld) A8)), (A8 8, .inl (cI, 1900, .inl f3'_3))] _ _ := B
          refine W.eq (g2 := F0 m 104 ls []) rfl ?_
          refine lv_aload_n F.1 F.2.1 dX8_split_104 rfl (lv_at hl 0 rfl) ?_
          refine lv_dup F.1 F.2.1 dX8_split_105 rfl ?_
          refine z_get F B 1 rfl (ci := 10) (C := RX8) (T := TX8) (N := 37) rfl iX8_split_X8 15 (by decide) fX8_split_158 rfl dX8_split_106 ?_
          refine lv_iconst (v := (nI 1)) F.1 F.2.1 dX8_split_109 (by decide) ?_
          refine z_iadd F dX8_split_110 ?_
          refine z_put F B 1 rfl (ci := 10) (C := RX8) (T := TX8) (N := 37) rfl iX8_split_X8 tyX8 tyX8_ok nmX8 15 (by decide) fX8_split_158 rfl (v := .int (nI ((va + k) + 1))) rfl rfl (Nat.le_of_ble_eq_true rfl) dX8_split_111 (fun H locs B => ?_)
          have B : zB D (zT cI cZ cG cJ) A s.heap s [(A8 7, .inl (cI, 2400, .inl fl)), (mm, .inr (10, zmo (nI th) (nI q) (nI g) (nI t) (nI r) (nI mb) (nI nc) (nI nl) (nI pv) (nI ((va + k) + 1)) (nI ((n3 + 1 + k) + 1)) (nI ve) (nI ed) (nI se) (nI ci) (nI mr) (nI mt) (nI ld) A8)), (A8 8, .inl (cI, 1900, .inl f3'_3))] _ _ := B
          refine lv_iinc (v := (nI (2 + k + 1))) (lv' := [(3, .int (nI (2 + k + 1))), (0, .ref mm), (1, .int (nI x)), (2, .int (nI n))]) F.1 F.2.1 dX8_split_114 hl (k := 3) rfl (by rw [show Int32.ofInt 1 = nI 1 from rfl, nI_add]) (by decide) rfl (fun ls hl => ?_)
          refine lv_goto (tgt := 69) F.1 F.2.1 dX8_split_117 (by decide) ?_
          exact ih69 (k + 1) f3'_3 (by first | omega | (simp only [] at *; omega)) (by omega) (by rw [zrng_succ (zsp1 va cl) k]; have q9 := hRb; simp only [List.append_assoc, List.cons_append, List.nil_append] at q9 ⊢; exact q9) _ _ _ (B.sub [1, 0, 2] rfl (rfl)) (lv_sub hl [1, 2, 3, 0] (rfl))
    exact loop69 (n - 4 - 0 + 1) 0 f3'_1 (Nat.lt_succ_self _) (by omega) (by simpa using hRa) _ _ _ (B.sub [1, 0, 2] rfl (rfl)) (lv_sub hl [1, 2, 3, 0] (rfl))
  · rw [zth1_s (by omega)] at hb
    have hb3 : 3 * n3 + 3 ≤ 1900 := hb
    clear hb
    refine lv_aload_n F.1 F.2.1 dX8_split_5 rfl (lv_at hl 0 rfl) ?_
    refine lv_aload_n F.1 F.2.1 dX8_split_6 rfl (lv_at hl 0 rfl) ?_
    refine z_get F B 0 rfl (ci := 10) (C := RX8) (T := TX8) (N := 37) rfl iX8_split_X8 18 (by decide) fX8_split_41 rfl dX8_split_7 ?_
    refine lv_iload_n F.1 F.2.1 dX8_split_10 rfl (lv_at hl 1 rfl) ?_
    refine z_iald F B 1 0 rfl rfl (j := x) (by omega) (by omega) dX8_split_11 ?_
    refine W.eq (g2 := F0 m 12 ls [.int (nI (cl.getD 0 0)), .ref mm]) (by rw [hfl0]) ?_
    refine lv_aload_n F.1 F.2.1 dX8_split_12 rfl (lv_at hl 0 rfl) ?_
    refine z_get F B 0 rfl (ci := 10) (C := RX8) (T := TX8) (N := 37) rfl iX8_split_X8 18 (by decide) fX8_split_41 rfl dX8_split_13 ?_
    refine lv_iload_n F.1 F.2.1 dX8_split_16 rfl (lv_at hl 1 rfl) ?_
    refine lv_iload_n F.1 F.2.1 dX8_split_17 rfl (lv_at hl 2 rfl) ?_
    refine lv_iconst (v := (nI 1)) F.1 F.2.1 dX8_split_18 (by decide) ?_
    refine z_icmp_le (tgt := 26) F (by omega) (by omega) dX8_split_19 (by decide) (fun c19 => ?_) (fun c19 => ?_)
    · have hmn : Nat.min 1 (cl.length - 1) = 0 := (Nat.min_eq_right (show cl.length - 1 ≤ 1 by omega)).trans (by omega)
      refine lv_iconst (v := (nI 0)) F.1 F.2.1 dX8_split_26 (by decide) ?_
      refine z_iadd F dX8_split_27 ?_
      refine z_iald F B 1 0 rfl rfl (j := x) (by omega) (by omega) dX8_split_28 ?_
      refine W.eq (g2 := F0 m 29 ls [.int (nI (cl.getD (Nat.min 1 (cl.length - 1)) 0)), .int (nI (cl.getD 0 0)), .ref mm]) (by rw [hmn, hfl0]) ?_
      refine lv_aload_n F.1 F.2.1 dX8_split_29 rfl (lv_at hl 0 rfl) ?_
      refine z_get F B 0 rfl (ci := 10) (C := RX8) (T := TX8) (N := 37) rfl iX8_split_X8 18 (by decide) fX8_split_41 rfl dX8_split_30 ?_
      refine lv_iload_n F.1 F.2.1 dX8_split_33 rfl (lv_at hl 1 rfl) ?_
      refine lv_iload_n F.1 F.2.1 dX8_split_34 rfl (lv_at hl 2 rfl) ?_
      refine z_iadd F dX8_split_35 ?_
      refine lv_iconst (v := (nI 1)) F.1 F.2.1 dX8_split_36 (by decide) ?_
      refine z_isub F (by omega) dX8_split_37 ?_
      refine W.eq (g2 := F0 m 38 ls [.int (nI (x + (n - 1))), .ref (A8 7), .int (nI (cl.getD (Nat.min 1 (cl.length - 1)) 0)), .int (nI (cl.getD 0 0)), .ref mm]) (by rw [show x + n - 1 = x + (n - 1) by omega]) ?_
      refine z_iald F B 1 0 rfl rfl (j := x + (n - 1)) (by omega) (by omega) dX8_split_38 ?_
      refine W.eq (g2 := F0 m 39 ls [.int (nI (cl.getD (cl.length - 1) 0)), .int (nI (cl.getD (Nat.min 1 (cl.length - 1)) 0)), .int (nI (cl.getD 0 0)), .ref mm]) (by rw [hcl, hfl (n - 1) (by omega)]) ?_
      refine z_callV (wr := [(A8 7, .inl (cI, 2400, .inl fl))]) (rest := []) (As := [.int (nI (cl.getD 0 0)), .int (nI (cl.getD (Nat.min 1 (cl.length - 1)) 0)), .int (nI (cl.getD (cl.length - 1) 0))]) F B (kX8_lay l D cI cZ cG cJ mm th q g t r mb nc nl pv va n3 ve ed se ci mr mt ld A8 f3 L3 (cl.getD 0 0) (cl.getD (Nat.min 1 (cl.length - 1)) 0) (cl.getD (cl.length - 1) 0) (hR) (by omega)) hl.1 (C := RX8) (T := TX8) (N := 37) (ci := 10) (q0 := 0) gX8_split_X8_lay rfl 3 yX8_split_X8_lay rfl rfl rfl [0, 2] [1] rfl rfl rfl rfl (by decide) (Nat.le_of_ble_eq_true rfl) (Nat.le_of_ble_eq_true rfl) (Nat.le_of_ble_eq_true rfl) rfl dX8_split_39 (show 0 + 0 ≤ 0 by omega) (show 0 + 0 ≤ 0 by omega) (fun vv ww H locs hRR B => ?_)
      obtain ⟨f3'_4, rfl, rfl, hRs⟩ := hRR
      have B : zB D (zT cI cZ cG cJ) A s.heap s [(A8 7, .inl (cI, 2400, .inl fl)), (mm, .inr (10, zmo (nI th) (nI q) (nI g) (nI t) (nI r) (nI mb) (nI nc) (nI nl) (nI pv) (nI va) (nI (n3 + 1)) (nI ve) (nI ed) (nI se) (nI ci) (nI mr) (nI mt) (nI ld) A8)), (A8 8, .inl (cI, 1900, .inl f3'_4))] _ _ := B
      refine W.eq (g2 := F0 m 42 ls []) rfl ?_
      exact z_vret F hr hlk B [1, 0, 2] rfl (by rw [show n - 3 = 0 by omega]; rfl) dX8_split_42 (by omega) (by omega) ⟨(n3 + 1), f3'_4, rfl, rfl, (by rw [zth1_s (by omega), List.length_cons, List.length_cons, List.length_cons, List.length_nil]; omega), (by rw [zth1_s (by omega)]; exact hRs)⟩
    · have hmn : Nat.min 1 (cl.length - 1) = 1 := by rw [hcl]; exact Nat.min_eq_left (by omega)
      refine lv_iconst (v := (nI 1)) F.1 F.2.1 dX8_split_22 (by decide) ?_
      refine lv_goto (tgt := 27) F.1 F.2.1 dX8_split_23 (by decide) ?_
      refine z_iadd F dX8_split_27 ?_
      refine z_iald F B 1 0 rfl rfl (j := x + 1) (by omega) (by omega) dX8_split_28 ?_
      refine W.eq (g2 := F0 m 29 ls [.int (nI (cl.getD (Nat.min 1 (cl.length - 1)) 0)), .int (nI (cl.getD 0 0)), .ref mm]) (by rw [hmn, hfl 1 (by omega)]) ?_
      refine lv_aload_n F.1 F.2.1 dX8_split_29 rfl (lv_at hl 0 rfl) ?_
      refine z_get F B 0 rfl (ci := 10) (C := RX8) (T := TX8) (N := 37) rfl iX8_split_X8 18 (by decide) fX8_split_41 rfl dX8_split_30 ?_
      refine lv_iload_n F.1 F.2.1 dX8_split_33 rfl (lv_at hl 1 rfl) ?_
      refine lv_iload_n F.1 F.2.1 dX8_split_34 rfl (lv_at hl 2 rfl) ?_
      refine z_iadd F dX8_split_35 ?_
      refine lv_iconst (v := (nI 1)) F.1 F.2.1 dX8_split_36 (by decide) ?_
      refine z_isub F (by omega) dX8_split_37 ?_
      refine W.eq (g2 := F0 m 38 ls [.int (nI (x + (n - 1))), .ref (A8 7), .int (nI (cl.getD (Nat.min 1 (cl.length - 1)) 0)), .int (nI (cl.getD 0 0)), .ref mm]) (by rw [show x + n - 1 = x + (n - 1) by omega]) ?_
      refine z_iald F B 1 0 rfl rfl (j := x + (n - 1)) (by omega) (by omega) dX8_split_38 ?_
      refine W.eq (g2 := F0 m 39 ls [.int (nI (cl.getD (cl.length - 1) 0)), .int (nI (cl.getD (Nat.min 1 (cl.length - 1)) 0)), .int (nI (cl.getD 0 0)), .ref mm]) (by rw [hcl, hfl (n - 1) (by omega)]) ?_
      refine z_callV (wr := [(A8 7, .inl (cI, 2400, .inl fl))]) (rest := []) (As := [.int (nI (cl.getD 0 0)), .int (nI (cl.getD (Nat.min 1 (cl.length - 1)) 0)), .int (nI (cl.getD (cl.length - 1) 0))]) F B (kX8_lay l D cI cZ cG cJ mm th q g t r mb nc nl pv va n3 ve ed se ci mr mt ld A8 f3 L3 (cl.getD 0 0) (cl.getD (Nat.min 1 (cl.length - 1)) 0) (cl.getD (cl.length - 1) 0) (hR) (by omega)) hl.1 (C := RX8) (T := TX8) (N := 37) (ci := 10) (q0 := 0) gX8_split_X8_lay rfl 3 yX8_split_X8_lay rfl rfl rfl [0, 2] [1] rfl rfl rfl rfl (by decide) (Nat.le_of_ble_eq_true rfl) (Nat.le_of_ble_eq_true rfl) (Nat.le_of_ble_eq_true rfl) rfl dX8_split_39 (show 0 + 0 ≤ 0 by omega) (show 0 + 0 ≤ 0 by omega) (fun vv ww H locs hRR B => ?_)
      obtain ⟨f3'_5, rfl, rfl, hRs⟩ := hRR
      have B : zB D (zT cI cZ cG cJ) A s.heap s [(A8 7, .inl (cI, 2400, .inl fl)), (mm, .inr (10, zmo (nI th) (nI q) (nI g) (nI t) (nI r) (nI mb) (nI nc) (nI nl) (nI pv) (nI va) (nI (n3 + 1)) (nI ve) (nI ed) (nI se) (nI ci) (nI mr) (nI mt) (nI ld) A8)), (A8 8, .inl (cI, 1900, .inl f3'_5))] _ _ := B
      refine W.eq (g2 := F0 m 42 ls []) rfl ?_
      exact z_vret F hr hlk B [1, 0, 2] rfl (by rw [show n - 3 = 0 by omega]; rfl) dX8_split_42 (by omega) (by omega) ⟨(n3 + 1), f3'_5, rfl, rfl, (by rw [zth1_s (by omega), List.length_cons, List.length_cons, List.length_cons, List.length_nil]; omega), (by rw [zth1_s (by omega)]; exact hRs)⟩
theorem iX8_vertexAt_X8 : ∀ w ∈ u_ws RX8 TX8 37, w ∈ wsX8_vertexAt := fun w h => List.mem_cons_of_mem _ (List.mem_append_right _ h)
theorem fX8_vertexAt_158 : Cond.fieldLink RX8 158 "TourChainModel" "all" "I" ∈ wsX8_vertexAt := by decide +kernel
theorem fX8_vertexAt_44 : Cond.fieldLink RX8 44 "TourChainModel" "three" "[I" ∈ wsX8_vertexAt := by decide +kernel
set_option maxHeartbeats 4000000 in
set_option maxRecDepth 100000 in
theorem kX8_vertexAt (l : Launch) (D : va_G) (cI cZ cG cJ : ClassId) (mm : Nat) (th : Nat) (q : Nat) (g : Nat) (t : Nat) (r : Nat) (mb : Nat) (nc : Nat) (nl : Nat) (pv : Nat) (va : Nat) (n3 : Nat) (ve : Nat) (ed : Nat) (se : Nat) (ci : Nat) (mr : Nat) (mt : Nat) (ld : Nat) (A8 : Nat → Nat) (f3 : Nat → Int32) (L3 : List Nat) (e1 : Nat) (s1 : Nat) (hR : zR f3 (3 * n3) L3) (hb : 3 * n3 ≤ 1900) (hv : va ≤ 1000) (he : e1 < va + 6 * n3) (hs1 : s1 < 2) : zC l yX8_vertexAt wsX8_vertexAt 0 0 0 0 D (zT cI cZ cG cJ) [.ref mm, .int (nI e1), .int (nI s1)] [(mm, .inr (10, zmo (nI th) (nI q) (nI g) (nI t) (nI r) (nI mb) (nI nc) (nI nl) (nI pv) (nI va) (nI n3) (nI ve) (nI ed) (nI se) (nI ci) (nI mr) (nI mt) (nI ld) A8)), (A8 8, .inl (cI, 1900, .inl f3))] (fun (ov : Option Value) (ow : va_W) => ov = some (.int (nI (zva va L3 (2 * e1 + s1)))) ∧ ow = [(mm, .inr (10, zmo (nI th) (nI q) (nI g) (nI t) (nI r) (nI mb) (nI nc) (nI nl) (nI pv) (nI va) (nI n3) (nI ve) (nI ed) (nI se) (nI ci) (nI mr) (nI mt) (nI ld) A8)), (A8 8, .inl (cI, 1900, .inl f3))]) := by
  refine zC.of (cc := cX8_vertexAt) (maxL := 6) (ret := (some .int)) (by decide) rfl (Nat.le_of_ble_eq_true rfl) ?_
  intro p e s m below meth c A ls F hr hlk hnm B hl
  have hl : lv_has ls 6 [(0, .ref mm), (1, .int (nI e1)), (2, .int (nI s1))] := hl
  refine lv_iload_n F.1 F.2.1 dX8_vertexAt_0 rfl (lv_at hl 1 rfl) ?_
  refine lv_aload_n F.1 F.2.1 dX8_vertexAt_1 rfl (lv_at hl 0 rfl) ?_
  refine z_get F B 0 rfl (ci := 10) (C := RX8) (T := TX8) (N := 37) rfl iX8_vertexAt_X8 15 (by decide) fX8_vertexAt_158 rfl dX8_vertexAt_2 ?_
  refine z_icmp_ge (tgt := 14) F (by omega) (by omega) dX8_vertexAt_5 (by decide) (fun c5 => ?_) (fun c5 => ?_)
  · have hj : (e1 - va) / 6 < n3 := by omega
    refine lv_iload_n F.1 F.2.1 dX8_vertexAt_14 rfl (lv_at hl 1 rfl) ?_
    refine lv_aload_n F.1 F.2.1 dX8_vertexAt_15 rfl (lv_at hl 0 rfl) ?_
    refine z_get F B 0 rfl (ci := 10) (C := RX8) (T := TX8) (N := 37) rfl iX8_vertexAt_X8 15 (by decide) fX8_vertexAt_158 rfl dX8_vertexAt_16 ?_
    refine z_isub F (by omega) dX8_vertexAt_19 ?_
    refine lv_bipush (v := (nI 6)) F.1 F.2.1 dX8_vertexAt_20 (by decide) ?_
    refine z_idiv F (by omega) (by omega) (by omega) dX8_vertexAt_22 ?_
    refine lv_istore_n (lv' := [(3, .int (nI ((e1 - va) / 6))), (0, .ref mm), (1, .int (nI e1)), (2, .int (nI s1))]) F.1 F.2.1 dX8_vertexAt_23 rfl hl (by decide) rfl (fun ls hl => ?_)
    refine lv_iload_n F.1 F.2.1 dX8_vertexAt_24 rfl (lv_at hl 2 rfl) ?_
    refine lv_aload_n F.1 F.2.1 dX8_vertexAt_25 rfl (lv_at hl 1 rfl) ?_
    refine z_get F B 0 rfl (ci := 10) (C := RX8) (T := TX8) (N := 37) rfl iX8_vertexAt_X8 15 (by decide) fX8_vertexAt_158 rfl dX8_vertexAt_26 ?_
    refine z_isub F (by omega) dX8_vertexAt_29 ?_
    refine lv_bipush (v := (nI 6)) F.1 F.2.1 dX8_vertexAt_30 (by decide) ?_
    refine z_irem F (by omega) (by omega) (by omega) dX8_vertexAt_32 ?_
    refine lv_istore (lv' := [(4, .int (nI ((e1 - va) % 6))), (3, .int (nI ((e1 - va) / 6))), (0, .ref mm), (1, .int (nI e1)), (2, .int (nI s1))]) F.1 F.2.1 dX8_vertexAt_33 hl (by decide) rfl (fun ls hl => ?_)
    refine lv_iconst (v := (nI 2)) F.1 F.2.1 dX8_vertexAt_35 (by decide) ?_
    refine lv_aload_n F.1 F.2.1 dX8_vertexAt_36 rfl (lv_at hl 2 rfl) ?_
    refine z_get F B 0 rfl (ci := 10) (C := RX8) (T := TX8) (N := 37) rfl iX8_vertexAt_X8 15 (by decide) fX8_vertexAt_158 rfl dX8_vertexAt_37 ?_
    refine z_imul F dX8_vertexAt_40 ?_
    refine lv_iconst (v := (nI 3)) F.1 F.2.1 dX8_vertexAt_41 (by decide) ?_
    refine lv_iload_n F.1 F.2.1 dX8_vertexAt_42 rfl (lv_at hl 1 rfl) ?_
    refine z_imul F dX8_vertexAt_43 ?_
    refine z_iadd F dX8_vertexAt_44 ?_
    refine lv_istore (lv' := [(5, .int (nI (2 * va + (3 * ((e1 - va) / 6))))), (4, .int (nI ((e1 - va) % 6))), (3, .int (nI ((e1 - va) / 6))), (0, .ref mm), (1, .int (nI e1)), (2, .int (nI s1))]) F.1 F.2.1 dX8_vertexAt_45 hl (by decide) rfl (fun ls hl => ?_)
    refine lv_iload F.1 F.2.1 dX8_vertexAt_47 (lv_at hl 1 rfl) ?_
    refine lv_iconst (v := (nI 3)) F.1 F.2.1 dX8_vertexAt_49 (by decide) ?_
    refine z_icmp_ge (tgt := 88) F (by omega) (by omega) dX8_vertexAt_50 (by decide) (fun c50 => ?_) (fun c50 => ?_)
    · refine lv_iload_n F.1 F.2.1 dX8_vertexAt_88 rfl (lv_at hl 5 rfl) ?_
      refine z_if_ne (tgt := 102) F (by omega) dX8_vertexAt_89 (by decide) (fun c89 => ?_) (fun c89 => ?_)
      · refine lv_aload_n F.1 F.2.1 dX8_vertexAt_102 rfl (lv_at hl 3 rfl) ?_
        refine z_get F B 0 rfl (ci := 10) (C := RX8) (T := TX8) (N := 37) rfl iX8_vertexAt_X8 19 (by decide) fX8_vertexAt_44 rfl dX8_vertexAt_103 ?_
        refine lv_iconst (v := (nI 3)) F.1 F.2.1 dX8_vertexAt_106 (by decide) ?_
        refine lv_iload_n F.1 F.2.1 dX8_vertexAt_107 rfl (lv_at hl 2 rfl) ?_
        refine z_imul F dX8_vertexAt_108 ?_
        refine lv_iload F.1 F.2.1 dX8_vertexAt_109 (lv_at hl 1 rfl) ?_
        refine z_iadd F dX8_vertexAt_111 ?_
        refine lv_iconst (v := (nI 3)) F.1 F.2.1 dX8_vertexAt_112 (by decide) ?_
        refine z_isub F (by omega) dX8_vertexAt_113 ?_
        refine z_iald F B 1 0 rfl rfl (j := (3 * ((e1 - va) / 6) + ((e1 - va) % 6)) - 3) (by omega) (by omega) dX8_vertexAt_114 ?_
        refine W.eq (g2 := F0 m 115 ls [.int (nI (L3.getD (3 * ((e1 - va) / 6) + (e1 - va) % 6 - 3) 0))]) (by rw [zR_at hR (show 3 * ((e1 - va) / 6) + (e1 - va) % 6 - 3 < 3 * n3 by omega)]) ?_
        exact z_iret F hr hlk B [0, 1] rfl (rfl) dX8_vertexAt_115 (by omega) (by omega) ⟨by rw [zva_b (show va ≤ e1 by omega) hs1 c50]; (repeat' split) <;> first | rfl | (exfalso; omega) | (congr 2; omega), rfl⟩
      · refine lv_iload F.1 F.2.1 dX8_vertexAt_92 (lv_at hl 0 rfl) ?_
        refine lv_iload F.1 F.2.1 dX8_vertexAt_94 (lv_at hl 1 rfl) ?_
        refine z_iadd F dX8_vertexAt_96 ?_
        refine lv_iconst (v := (nI 3)) F.1 F.2.1 dX8_vertexAt_97 (by decide) ?_
        refine z_isub F (by omega) dX8_vertexAt_98 ?_
        refine lv_goto (tgt := 115) F.1 F.2.1 dX8_vertexAt_99 (by decide) ?_
        exact z_iret F hr hlk B [0, 1] rfl (rfl) dX8_vertexAt_115 (by omega) (by omega) ⟨by rw [zva_b (show va ≤ e1 by omega) hs1 c50]; (repeat' split) <;> first | rfl | (exfalso; omega) | (congr 2; omega), rfl⟩
    · refine lv_iload_n F.1 F.2.1 dX8_vertexAt_53 rfl (lv_at hl 5 rfl) ?_
      refine z_if_ne (tgt := 74) F (by omega) dX8_vertexAt_54 (by decide) (fun c54 => ?_) (fun c54 => ?_)
      · refine lv_iload F.1 F.2.1 dX8_vertexAt_74 (lv_at hl 0 rfl) ?_
        refine lv_iload F.1 F.2.1 dX8_vertexAt_76 (lv_at hl 1 rfl) ?_
        refine z_if_ne (tgt := 85) F (by omega) dX8_vertexAt_78 (by decide) (fun c78 => ?_) (fun c78 => ?_)
        · refine lv_iconst (v := (nI 2)) F.1 F.2.1 dX8_vertexAt_85 (by decide) ?_
          refine z_iadd F dX8_vertexAt_86 ?_
          exact z_iret F hr hlk B [0, 1] rfl (rfl) dX8_vertexAt_87 (by omega) (by omega) ⟨by rw [zva_a (show va ≤ e1 by omega) hs1 c50]; (repeat' split) <;> first | rfl | (exfalso; omega) | (congr 2; omega), rfl⟩
        · refine lv_iconst (v := (nI 1)) F.1 F.2.1 dX8_vertexAt_81 (by decide) ?_
          refine lv_goto (tgt := 86) F.1 F.2.1 dX8_vertexAt_82 (by decide) ?_
          refine z_iadd F dX8_vertexAt_86 ?_
          exact z_iret F hr hlk B [0, 1] rfl (rfl) dX8_vertexAt_87 (by omega) (by omega) ⟨by rw [zva_a (show va ≤ e1 by omega) hs1 c50]; (repeat' split) <;> first | rfl | (exfalso; omega) | (congr 2; omega), rfl⟩
      · refine lv_iload F.1 F.2.1 dX8_vertexAt_57 (lv_at hl 0 rfl) ?_
        refine lv_iload F.1 F.2.1 dX8_vertexAt_59 (lv_at hl 1 rfl) ?_
        refine lv_iconst (v := (nI 1)) F.1 F.2.1 dX8_vertexAt_61 (by decide) ?_
        refine z_icmp_ne (tgt := 69) F (by omega) (by omega) dX8_vertexAt_62 (by decide) (fun c62 => ?_) (fun c62 => ?_)
        · refine lv_iconst (v := (nI 0)) F.1 F.2.1 dX8_vertexAt_69 (by decide) ?_
          refine z_iadd F dX8_vertexAt_70 ?_
          refine lv_goto (tgt := 87) F.1 F.2.1 dX8_vertexAt_71 (by decide) ?_
          exact z_iret F hr hlk B [0, 1] rfl (rfl) dX8_vertexAt_87 (by omega) (by omega) ⟨by rw [zva_a (show va ≤ e1 by omega) hs1 c50]; (repeat' split) <;> first | rfl | (exfalso; omega) | (congr 2; omega), rfl⟩
        · refine lv_iconst (v := (nI 1)) F.1 F.2.1 dX8_vertexAt_65 (by decide) ?_
          refine lv_goto (tgt := 70) F.1 F.2.1 dX8_vertexAt_66 (by decide) ?_
          refine z_iadd F dX8_vertexAt_70 ?_
          refine lv_goto (tgt := 87) F.1 F.2.1 dX8_vertexAt_71 (by decide) ?_
          exact z_iret F hr hlk B [0, 1] rfl (rfl) dX8_vertexAt_87 (by omega) (by omega) ⟨by rw [zva_a (show va ≤ e1 by omega) hs1 c50]; (repeat' split) <;> first | rfl | (exfalso; omega) | (congr 2; omega), rfl⟩
  · refine lv_iconst (v := (nI 2)) F.1 F.2.1 dX8_vertexAt_8 (by decide) ?_
    refine lv_iload_n F.1 F.2.1 dX8_vertexAt_9 rfl (lv_at hl 1 rfl) ?_
    refine z_imul F dX8_vertexAt_10 ?_
    refine lv_iload_n F.1 F.2.1 dX8_vertexAt_11 rfl (lv_at hl 2 rfl) ?_
    refine z_iadd F dX8_vertexAt_12 ?_
    exact z_iret F hr hlk B [0, 1] rfl (rfl) dX8_vertexAt_13 (by omega) (by omega) ⟨by rw [zva_lo (by omega)], rfl⟩
