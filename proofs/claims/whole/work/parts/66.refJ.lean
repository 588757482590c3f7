/-! CONTRACTS of the reference: isIn, visit -/
theorem iX8_isIn_X8 : ∀ w ∈ u_ws RX8 TX8 37, w ∈ wsX8_isIn := fun w h => List.mem_cons_of_mem _ (List.mem_append_right _ h)
theorem fX8_isIn_158 : Cond.fieldLink RX8 158 "TourChainModel" "all" "I" ∈ wsX8_isIn := by decide +kernel
theorem fX8_isIn_44 : Cond.fieldLink RX8 44 "TourChainModel" "three" "[I" ∈ wsX8_isIn := by decide +kernel
theorem yX8_isIn_X8_isTrue : yX8_isTrue.cls = RX8 ∧ yX8_isTrue.cls ≠ "java/lang/invoke/MethodHandle" ∧ yX8_isTrue.cls ≠ "java/lang/invoke/VarHandle" ∧ (parseMethodDescriptor yX8_isTrue.desc).map (fun d => d.parameters.length) = some 1 := by decide +kernel
set_option maxHeartbeats 4000000 in
set_option maxRecDepth 100000 in
theorem kX8_isIn (l : Launch) (D : va_G) (cI cZ cG cJ : ClassId) (mm : Nat) (th : Nat) (q : Nat) (g : Nat) (t : Nat) (r : Nat) (mb : Nat) (nc : Nat) (nl : Nat) (pv : Nat) (va : Nat) (n3 : Nat) (ve : Nat) (ed : Nat) (se : Nat) (ci : Nat) (mr : Nat) (mt : Nat) (ld : Nat) (A8 : Nat → Nat) (f3 : Nat → Int32) (L3 : List Nat) (ftr : Nat → Int32) (b : Nat → Nat) (u : Nat) (hbT : ∀ x, x < va → ftr x = nI (b x) ∧ b x ≤ 1) (hva2 : va ≤ 170) (hR : zR f3 (3 * n3) L3) (hb : 3 * n3 ≤ 1900) (hL : ∀ i, i < 3 * n3 → L3.getD i 0 < 2 * va) (hu : u < 2 * va + 3 * n3) : zC l yX8_isIn wsX8_isIn 1 21 0 0 D (zT cI cZ cG cJ) [.ref mm, .int (nI u)] [(mm, .inr (10, zmo (nI th) (nI q) (nI g) (nI t) (nI r) (nI mb) (nI nc) (nI nl) (nI pv) (nI va) (nI n3) (nI ve) (nI ed) (nI se) (nI ci) (nI mr) (nI mt) (nI ld) A8)), (A8 8, .inl (cI, 1900, .inl f3)), (A8 16, .inl (cZ, 170, .inl ftr))] (fun (ov : Option Value) (ow : va_W) => ∃ rb : Int32, ov = some (.int rb) ∧ ow = [(mm, .inr (10, zmo (nI th) (nI q) (nI g) (nI t) (nI r) (nI mb) (nI nc) (nI nl) (nI pv) (nI va) (nI n3) (nI ve) (nI ed) (nI se) (nI ci) (nI mr) (nI mt) (nI ld) A8)), (A8 8, .inl (cI, 1900, .inl f3)), (A8 16, .inl (cZ, 170, .inl ftr))] ∧ ((rb = 1 ∧ (zcov b va L3 u = 1)) ∨ (rb = 0 ∧ ¬ (zcov b va L3 u = 1)))) := by
  refine zC.of (cc := cX8_isIn) (maxL := 6) (ret := (some .boolean)) (by decide) rfl (Nat.le_of_ble_eq_true rfl) ?_
  intro p e s m below meth c A ls F hr hlk hnm B hl
  have hl : lv_has ls 6 [(0, .ref mm), (1, .int (nI u))] := hl
  refine lv_iload_n F.1 F.2.1 dX8_isIn_0 rfl (lv_at hl 1 rfl) ?_
  refine lv_iconst (v := (nI 2)) F.1 F.2.1 dX8_isIn_1 (by decide) ?_
  refine lv_aload_n F.1 F.2.1 dX8_isIn_2 rfl (lv_at hl 0 rfl) ?_
  refine z_get F B 0 rfl (ci := 10) (C := RX8) (T := TX8) (N := 37) rfl iX8_isIn_X8 15 (by decide) fX8_isIn_158 rfl dX8_isIn_3 ?_
  refine z_imul F dX8_isIn_6 ?_
  refine z_icmp_ge (tgt := 16) F (by omega) (by omega) dX8_isIn_7 (by decide) (fun c7 => ?_) (fun c7 => ?_)
  · have hJ : ((u - 2 * va) / 3) < n3 := by omega
    have hI : ((u - 2 * va) % 3) < 3 := by omega
    have hcv : zcov b va L3 u = zcov3 b L3 ((u - 2 * va) / 3) ((u - 2 * va) % 3) := by have q9 := zcov_hi b va L3 ((u - 2 * va) / 3) ((u - 2 * va) % 3) hI; rw [show 2 * va + 3 * ((u - 2 * va) / 3) + ((u - 2 * va) % 3) = u by omega] at q9; exact q9
    refine lv_iload_n F.1 F.2.1 dX8_isIn_16 rfl (lv_at hl 1 rfl) ?_
    refine lv_iconst (v := (nI 2)) F.1 F.2.1 dX8_isIn_17 (by decide) ?_
    refine lv_aload_n F.1 F.2.1 dX8_isIn_18 rfl (lv_at hl 0 rfl) ?_
    refine z_get F B 0 rfl (ci := 10) (C := RX8) (T := TX8) (N := 37) rfl iX8_isIn_X8 15 (by decide) fX8_isIn_158 rfl dX8_isIn_19 ?_
    refine z_imul F dX8_isIn_22 ?_
    refine z_isub F (by omega) dX8_isIn_23 ?_
    refine lv_iconst (v := (nI 3)) F.1 F.2.1 dX8_isIn_24 (by decide) ?_
    refine z_idiv F (by omega) (by omega) (by omega) dX8_isIn_25 ?_
    refine lv_istore_n (lv' := [(2, .int (nI ((u - (2 * va)) / 3))), (0, .ref mm), (1, .int (nI u))]) F.1 F.2.1 dX8_isIn_26 rfl hl (by decide) rfl (fun ls hl => ?_)
    refine lv_iload_n F.1 F.2.1 dX8_isIn_27 rfl (lv_at hl 2 rfl) ?_
    refine lv_iconst (v := (nI 2)) F.1 F.2.1 dX8_isIn_28 (by decide) ?_
    refine lv_aload_n F.1 F.2.1 dX8_isIn_29 rfl (lv_at hl 1 rfl) ?_
    refine z_get F B 0 rfl (ci := 10) (C := RX8) (T := TX8) (N := 37) rfl iX8_isIn_X8 15 (by decide) fX8_isIn_158 rfl dX8_isIn_30 ?_
    refine z_imul F dX8_isIn_33 ?_
    refine z_isub F (by omega) dX8_isIn_34 ?_
    refine lv_iconst (v := (nI 3)) F.1 F.2.1 dX8_isIn_35 (by decide) ?_
    refine z_irem F (by omega) (by omega) (by omega) dX8_isIn_36 ?_
    refine lv_istore_n (lv' := [(3, .int (nI ((u - (2 * va)) % 3))), (2, .int (nI ((u - (2 * va)) / 3))), (0, .ref mm), (1, .int (nI u))]) F.1 F.2.1 dX8_isIn_37 rfl hl (by decide) rfl (fun ls hl => ?_)
    refine lv_iconst (v := (nI 0)) F.1 F.2.1 dX8_isIn_38 (by decide) ?_
    refine lv_istore (lv' := [(4, .int (nI 0)), (3, .int (nI ((u - (2 * va)) % 3))), (2, .int (nI ((u - (2 * va)) / 3))), (0, .ref mm), (1, .int (nI u))]) F.1 F.2.1 dX8_isIn_39 hl (by decide) rfl (fun ls hl => ?_)
    refine lv_iconst (v := (nI 0)) F.1 F.2.1 dX8_isIn_41 (by decide) ?_
    refine lv_istore (lv' := [(5, .int (nI 0)), (4, .int (nI 0)), (3, .int (nI ((u - (2 * va)) % 3))), (2, .int (nI ((u - (2 * va)) / 3))), (0, .ref mm), (1, .int (nI u))]) F.1 F.2.1 dX8_isIn_42 hl (by decide) rfl (fun ls hl => ?_)
    have loop44 : ∀ (fuel : Nat) (mx : Nat) (er : Nat), ((u - 2 * va) % 3) - mx < fuel → (mx ≤ ((u - 2 * va) % 3)) → ((er = 0 ∧ znon b L3 ((u - 2 * va) / 3) mx) ∨ (er = 1 ∧ ¬ znon b L3 ((u - 2 * va) / 3) mx)) → ∀ (H : Heap) (locs : List Loc) (ls : Array Slot), zB D (zT cI cZ cG cJ) A s.heap s [(mm, .inr (10, zmo (nI th) (nI q) (nI g) (nI t) (nI r) (nI mb) (nI nc) (nI nl) (nI pv) (nI va) (nI n3) (nI ve) (nI ed) (nI se) (nI ci) (nI mr) (nI mt) (nI ld) A8)), (A8 8, .inl (cI, 1900, .inl f3)), (A8 16, .inl (cZ, 170, .inl ftr))] H locs → lv_has ls 6 [(0, .ref mm), (1, .int (nI u)), (2, .int (nI ((u - 2 * va) / 3))), (3, .int (nI ((u - 2 * va) % 3))), (4, .int (nI er)), (5, .int (nI mx))] → W p l e { frames := 1, cells := 0, slots := 0, locals := 21 } s m [.ref mm, .int (nI u)].toArray below meth c H locs 0 0 (zQ below [.ref mm, .int (nI u)].toArray s D (zT cI cZ cG cJ) A (fun (ov : Option Value) (ow : va_W) => ∃ rb : Int32, ov = some (.int rb) ∧ ow = [(mm, .inr (10, zmo (nI th) (nI q) (nI g) (nI t) (nI r) (nI mb) (nI nc) (nI nl) (nI pv) (nI va) (nI n3) (nI ve) (nI ed) (nI se) (nI ci) (nI mr) (nI mt) (nI ld) A8)), (A8 8, .inl (cI, 1900, .inl f3)), (A8 16, .inl (cZ, 170, .inl ftr))] ∧ ((rb = 1 ∧ (zcov b va L3 u = 1)) ∨ (rb = 0 ∧ ¬ (zcov b va L3 u = 1)))) 0 0) (F0 m 44 ls []) := by
      intro fuel
      induction fuel with
      | zero => intro mx er hmz; exact absurd hmz (Nat.not_lt_zero _)
      | succ fuel ih =>
        intro mx er hm hmx her H locs ls B hl
        have ih44 := ih
        refine lv_iload F.1 F.2.1 dX8_isIn_44 (lv_at hl 5 rfl) ?_
        refine lv_iload_n F.1 F.2.1 dX8_isIn_46 rfl (lv_at hl 3 rfl) ?_
        refine z_icmp_ge (tgt := 86) F (by omega) (by omega) dX8_isIn_47 (by decide) (fun c47 => ?_) (fun c47 => ?_)
        · have hme : mx = ((u - 2 * va) % 3) := by omega
          rw [hme] at her
          refine lv_iload F.1 F.2.1 dX8_isIn_86 (lv_at hl 4 rfl) ?_
          refine z_if_ne (tgt := 108) F (by omega) dX8_isIn_88 (by decide) (fun c88 => ?_) (fun c88 => ?_)
          · have hz8 : ¬ znon b L3 ((u - 2 * va) / 3) ((u - 2 * va) % 3) := by rcases her with ⟨q9, _⟩ | ⟨_, q9⟩; exact absurd q9 (by omega); exact q9
            refine lv_iconst (v := (nI 1)) F.1 F.2.1 dX8_isIn_108 (by decide) ?_
            refine lv_goto (tgt := 113) F.1 F.2.1 dX8_isIn_109 (by decide) ?_
            exact z_zret F hr hlk B (Or.inr rfl) [0, 1, 2] rfl (rfl) dX8_isIn_113 (by omega) (by omega) ⟨(nI 1), rfl, rfl, Or.inl ⟨rfl, by rw [hcv]; first | exact zcov3_1 (fun q9 => hz8 q9.2) | exact zcov3_1 (fun q9 => absurd q9.1 (by rw [ztv_0 (Classical.not_not.mp hpX)]; decide))⟩⟩
          · have hz8 : znon b L3 ((u - 2 * va) / 3) ((u - 2 * va) % 3) := by rcases her with ⟨_, q9⟩ | ⟨q9, _⟩; exact q9; exact absurd q9 (by omega)
            have hlt := hL (3 * ((u - 2 * va) / 3) + ((u - 2 * va) % 3)) (by omega)
            have hbu := hbT (L3.getD (3 * ((u - 2 * va) / 3) + ((u - 2 * va) % 3)) 0 / 2) (by omega)
            refine lv_aload_n F.1 F.2.1 dX8_isIn_91 rfl (lv_at hl 0 rfl) ?_
            refine lv_aload_n F.1 F.2.1 dX8_isIn_92 rfl (lv_at hl 0 rfl) ?_
            refine z_get F B 0 rfl (ci := 10) (C := RX8) (T := TX8) (N := 37) rfl iX8_isIn_X8 19 (by decide) fX8_isIn_44 rfl dX8_isIn_93 ?_
            refine lv_iconst (v := (nI 3)) F.1 F.2.1 dX8_isIn_96 (by decide) ?_
            refine lv_iload_n F.1 F.2.1 dX8_isIn_97 rfl (lv_at hl 2 rfl) ?_
            refine z_imul F dX8_isIn_98 ?_
            refine lv_iload_n F.1 F.2.1 dX8_isIn_99 rfl (lv_at hl 3 rfl) ?_
            refine z_iadd F dX8_isIn_100 ?_
            refine z_iald F B 1 0 rfl rfl (j := 3 * ((u - 2 * va) / 3) + ((u - 2 * va) % 3)) (by omega) (by omega) dX8_isIn_101 ?_
            refine W.eq (g2 := F0 m 102 ls [.int (nI (L3.getD (3 * ((u - 2 * va) / 3) + ((u - 2 * va) % 3)) 0)), .ref mm]) (by rw [zR_at hR (by omega)]) ?_
            refine z_callV (wr := [(A8 8, .inl (cI, 1900, .inl f3))]) (rest := []) (As := [.int (nI (L3.getD (3 * ((u - 2 * va) / 3) + ((u - 2 * va) % 3)) 0))]) F B (kX8_isTrue l D cI cZ cG cJ mm th q g t r mb nc nl pv va n3 ve ed se ci mr mt ld A8 ftr b (L3.getD (3 * ((u - 2 * va) / 3) + ((u - 2 * va) % 3)) 0) (hbu.1) (hbu.2) (by omega)) hl.1 (C := RX8) (T := TX8) (N := 37) (ci := 10) (q0 := 0) gX8_isIn_X8_isTrue rfl 1 yX8_isIn_X8_isTrue rfl rfl rfl [0, 2] [1] rfl rfl rfl rfl (by decide) (Nat.le_of_ble_eq_true rfl) (Nat.le_of_ble_eq_true rfl) (Nat.le_of_ble_eq_true rfl) rfl dX8_isIn_102 (show 0 + 0 ≤ 0 by omega) (show 0 + 0 ≤ 0 by omega) (fun vv ww H locs hRR B => ?_)
            obtain ⟨r_1, rfl, rfl, hb_2⟩ := hRR
            have B : zB D (zT cI cZ cG cJ) A s.heap s [(A8 8, .inl (cI, 1900, .inl f3)), (mm, .inr (10, zmo (nI th) (nI q) (nI g) (nI t) (nI r) (nI mb) (nI nc) (nI nl) (nI pv) (nI va) (nI n3) (nI ve) (nI ed) (nI se) (nI ci) (nI mr) (nI mt) (nI ld) A8)), (A8 16, .inl (cZ, 170, .inl ftr))] _ _ := B
            rcases hb_2 with ⟨hr1, hpX⟩ | ⟨hr1, hpX⟩ <;> subst hr1
            · refine W.eq (g2 := F0 m 105 ls [.int 1]) rfl ?_
              refine lv_if_ne (tgt := 112) F.1 F.2.1 dX8_isIn_105 (by decide) (fun _ => ?_) (fun hq => absurd hq (by decide))
              refine lv_iconst (v := (nI 0)) F.1 F.2.1 dX8_isIn_112 (by decide) ?_
              exact z_zret F hr hlk B (Or.inl rfl) [1, 0, 2] rfl (rfl) dX8_isIn_113 (by omega) (by omega) ⟨(nI 0), rfl, rfl, Or.inr ⟨rfl, by rw [hcv, zcov3_0 ⟨ztv_1 hpX, hz8⟩]; decide⟩⟩
            · refine W.eq (g2 := F0 m 105 ls [.int 0]) rfl ?_
              refine lv_if_ne (tgt := 112) F.1 F.2.1 dX8_isIn_105 (by decide) (fun hq => absurd (by decide) hq) (fun _ => ?_)
              refine lv_iconst (v := (nI 1)) F.1 F.2.1 dX8_isIn_108 (by decide) ?_
              refine lv_goto (tgt := 113) F.1 F.2.1 dX8_isIn_109 (by decide) ?_
              exact z_zret F hr hlk B (Or.inr rfl) [1, 0, 2] rfl (rfl) dX8_isIn_113 (by omega) (by omega) ⟨(nI 1), rfl, rfl, Or.inl ⟨rfl, by rw [hcv]; first | exact zcov3_1 (fun q9 => hz8 q9.2) | exact zcov3_1 (fun q9 => absurd q9.1 (by rw [ztv_0 (Classical.not_not.mp hpX)]; decide))⟩⟩
        · have hlt := hL (3 * ((u - 2 * va) / 3) + mx) (by omega)
          have hbu := hbT (L3.getD (3 * ((u - 2 * va) / 3) + mx) 0 / 2) (by omega)
          refine lv_iload F.1 F.2.1 dX8_isIn_50 (lv_at hl 4 rfl) ?_
          refine z_if_ne (tgt := 73) F (by omega) dX8_isIn_52 (by decide) (fun c52 => ?_) (fun c52 => ?_)
          · have hz8 : ¬ znon b L3 ((u - 2 * va) / 3) mx := by rcases her with ⟨q9, _⟩ | ⟨_, q9⟩; exact absurd q9 (by omega); exact q9
            refine lv_iconst (v := (nI 1)) F.1 F.2.1 dX8_isIn_73 (by decide) ?_
            refine lv_goto (tgt := 78) F.1 F.2.1 dX8_isIn_74 (by decide) ?_
            refine lv_istore (lv' := [(4, .int (nI 1)), (0, .ref mm), (1, .int (nI u)), (2, .int (nI ((u - 2 * va) / 3))), (3, .int (nI ((u - 2 * va) % 3))), (5, .int (nI mx))]) F.1 F.2.1 dX8_isIn_78 hl (by decide) rfl (fun ls hl => ?_)
            refine lv_iinc (v := (nI (mx + 1))) (lv' := [(5, .int (nI (mx + 1))), (4, .int (nI 1)), (0, .ref mm), (1, .int (nI u)), (2, .int (nI ((u - 2 * va) / 3))), (3, .int (nI ((u - 2 * va) % 3)))]) F.1 F.2.1 dX8_isIn_80 hl (k := 5) rfl (by rw [show Int32.ofInt 1 = nI 1 from rfl, nI_add]) (by decide) rfl (fun ls hl => ?_)
            refine lv_goto (tgt := 44) F.1 F.2.1 dX8_isIn_83 (by decide) ?_
            exact ih44 (mx + 1) 1 (by first | omega | (simp only [] at *; omega)) (by omega) (Or.inr ⟨rfl, fun q9 => by first | exact hz8 (znon_S.mp q9).1 | exact absurd (znon_S.mp q9).2 (by rw [ztv_1 hpT]; decide)⟩) _ _ _ (B.sub [0, 1, 2] rfl (rfl)) (lv_sub hl [2, 3, 4, 5, 1, 0] (rfl))
          · have hz8 : znon b L3 ((u - 2 * va) / 3) mx := by rcases her with ⟨_, q9⟩ | ⟨q9, _⟩; exact q9; exact absurd q9 (by omega)
            refine lv_aload_n F.1 F.2.1 dX8_isIn_55 rfl (lv_at hl 0 rfl) ?_
            refine lv_aload_n F.1 F.2.1 dX8_isIn_56 rfl (lv_at hl 0 rfl) ?_
            refine z_get F B 0 rfl (ci := 10) (C := RX8) (T := TX8) (N := 37) rfl iX8_isIn_X8 19 (by decide) fX8_isIn_44 rfl dX8_isIn_57 ?_
            refine lv_iconst (v := (nI 3)) F.1 F.2.1 dX8_isIn_60 (by decide) ?_
            refine lv_iload_n F.1 F.2.1 dX8_isIn_61 rfl (lv_at hl 2 rfl) ?_
            refine z_imul F dX8_isIn_62 ?_
            refine lv_iload F.1 F.2.1 dX8_isIn_63 (lv_at hl 5 rfl) ?_
            refine z_iadd F dX8_isIn_65 ?_
            refine z_iald F B 1 0 rfl rfl (j := 3 * ((u - 2 * va) / 3) + mx) (by omega) (by omega) dX8_isIn_66 ?_
            refine W.eq (g2 := F0 m 67 ls [.int (nI (L3.getD (3 * ((u - 2 * va) / 3) + mx) 0)), .ref mm]) (by rw [zR_at hR (by omega)]) ?_
            refine z_callV (wr := [(A8 8, .inl (cI, 1900, .inl f3))]) (rest := []) (As := [.int (nI (L3.getD (3 * ((u - 2 * va) / 3) + mx) 0))]) F B (kX8_isTrue l D cI cZ cG cJ mm th q g t r mb nc nl pv va n3 ve ed se ci mr mt ld A8 ftr b (L3.getD (3 * ((u - 2 * va) / 3) + mx) 0) (hbu.1) (hbu.2) (by omega)) hl.1 (C := RX8) (T := TX8) (N := 37) (ci := 10) (q0 := 0) gX8_isIn_X8_isTrue rfl 1 yX8_isIn_X8_isTrue rfl rfl rfl [0, 2] [1] rfl rfl rfl rfl (by decide) (Nat.le_of_ble_eq_true rfl) (Nat.le_of_ble_eq_true rfl) (Nat.le_of_ble_eq_true rfl) rfl dX8_isIn_67 (show 0 + 0 ≤ 0 by omega) (show 0 + 0 ≤ 0 by omega) (fun vv ww H locs hRR B => ?_)
            obtain ⟨r_3, rfl, rfl, hb_4⟩ := hRR
            have B : zB D (zT cI cZ cG cJ) A s.heap s [(A8 8, .inl (cI, 1900, .inl f3)), (mm, .inr (10, zmo (nI th) (nI q) (nI g) (nI t) (nI r) (nI mb) (nI nc) (nI nl) (nI pv) (nI va) (nI n3) (nI ve) (nI ed) (nI se) (nI ci) (nI mr) (nI mt) (nI ld) A8)), (A8 16, .inl (cZ, 170, .inl ftr))] _ _ := B
            rcases hb_4 with ⟨hr1, hpT⟩ | ⟨hr1, hpT⟩ <;> subst hr1
            · refine W.eq (g2 := F0 m 70 ls [.int 1]) rfl ?_
              refine lv_if_eq (tgt := 77) F.1 F.2.1 dX8_isIn_70 (by decide) (fun hq => absurd hq (by decide)) (fun _ => ?_)
              refine lv_iconst (v := (nI 1)) F.1 F.2.1 dX8_isIn_73 (by decide) ?_
              refine lv_goto (tgt := 78) F.1 F.2.1 dX8_isIn_74 (by decide) ?_
              refine lv_istore (lv' := [(4, .int (nI 1)), (0, .ref mm), (1, .int (nI u)), (2, .int (nI ((u - 2 * va) / 3))), (3, .int (nI ((u - 2 * va) % 3))), (5, .int (nI mx))]) F.1 F.2.1 dX8_isIn_78 hl (by decide) rfl (fun ls hl => ?_)
              refine lv_iinc (v := (nI (mx + 1))) (lv' := [(5, .int (nI (mx + 1))), (4, .int (nI 1)), (0, .ref mm), (1, .int (nI u)), (2, .int (nI ((u - 2 * va) / 3))), (3, .int (nI ((u - 2 * va) % 3)))]) F.1 F.2.1 dX8_isIn_80 hl (k := 5) rfl (by rw [show Int32.ofInt 1 = nI 1 from rfl, nI_add]) (by decide) rfl (fun ls hl => ?_)
              refine lv_goto (tgt := 44) F.1 F.2.1 dX8_isIn_83 (by decide) ?_
              exact ih44 (mx + 1) 1 (by first | omega | (simp only [] at *; omega)) (by omega) (Or.inr ⟨rfl, fun q9 => by first | exact hz8 (znon_S.mp q9).1 | exact absurd (znon_S.mp q9).2 (by rw [ztv_1 hpT]; decide)⟩) _ _ _ (B.sub [1, 0, 2] rfl (rfl)) (lv_sub hl [2, 3, 4, 5, 1, 0] (rfl))
            · refine W.eq (g2 := F0 m 70 ls [.int 0]) rfl ?_
              refine lv_if_eq (tgt := 77) F.1 F.2.1 dX8_isIn_70 (by decide) (fun _ => ?_) (fun hq => absurd (by decide) hq)
              refine lv_iconst (v := (nI 0)) F.1 F.2.1 dX8_isIn_77 (by decide) ?_
              refine lv_istore (lv' := [(4, .int (nI 0)), (0, .ref mm), (1, .int (nI u)), (2, .int (nI ((u - 2 * va) / 3))), (3, .int (nI ((u - 2 * va) % 3))), (5, .int (nI mx))]) F.1 F.2.1 dX8_isIn_78 hl (by decide) rfl (fun ls hl => ?_)
              refine lv_iinc (v := (nI (mx + 1))) (lv' := [(5, .int (nI (mx + 1))), (4, .int (nI 0)), (0, .ref mm), (1, .int (nI u)), (2, .int (nI ((u - 2 * va) / 3))), (3, .int (nI ((u - 2 * va) % 3)))]) F.1 F.2.1 dX8_isIn_80 hl (k := 5) rfl (by rw [show Int32.ofInt 1 = nI 1 from rfl, nI_add]) (by decide) rfl (fun ls hl => ?_)
              refine lv_goto (tgt := 44) F.1 F.2.1 dX8_isIn_83 (by decide) ?_
              exact ih44 (mx + 1) 0 (by first | omega | (simp only [] at *; omega)) (by omega) (Or.inl ⟨rfl, znon_S.mpr ⟨hz8, ztv_0 (Classical.not_not.mp hpT)⟩⟩) _ _ _ (B.sub [1, 0, 2] rfl (rfl)) (lv_sub hl [2, 3, 4, 5, 1, 0] (rfl))
    exact loop44 (((u - 2 * va) % 3) - 0 + 1) 0 0 (Nat.lt_succ_self _) (by omega) (Or.inl ⟨rfl, fun x hx => absurd hx (Nat.not_lt_zero _)⟩) _ _ _ (B.sub [0, 1, 2] rfl (rfl)) (lv_sub hl [4, 5, 3, 2, 1, 0] (rfl))
  · have hbu := hbT (u / 2) (by omega)
    refine lv_aload_n F.1 F.2.1 dX8_isIn_10 rfl (lv_at hl 0 rfl) ?_
    refine lv_iload_n F.1 F.2.1 dX8_isIn_11 rfl (lv_at hl 1 rfl) ?_
    refine z_callV (wr := [(A8 8, .inl (cI, 1900, .inl f3))]) (rest := []) (As := [.int (nI u)]) F B (kX8_isTrue l D cI cZ cG cJ mm th q g t r mb nc nl pv va n3 ve ed se ci mr mt ld A8 ftr b u (hbu.1) (hbu.2) (by omega)) hl.1 (C := RX8) (T := TX8) (N := 37) (ci := 10) (q0 := 0) gX8_isIn_X8_isTrue rfl 1 yX8_isIn_X8_isTrue rfl rfl rfl [0, 2] [1] rfl rfl rfl rfl (by decide) (Nat.le_of_ble_eq_true rfl) (Nat.le_of_ble_eq_true rfl) (Nat.le_of_ble_eq_true rfl) rfl dX8_isIn_12 (show 0 + 0 ≤ 0 by omega) (show 0 + 0 ≤ 0 by omega) (fun vv ww H locs hRR B => ?_)
    obtain ⟨r_5, rfl, rfl, hb_6⟩ := hRR
    have B : zB D (zT cI cZ cG cJ) A s.heap s [(A8 8, .inl (cI, 1900, .inl f3)), (mm, .inr (10, zmo (nI th) (nI q) (nI g) (nI t) (nI r) (nI mb) (nI nc) (nI nl) (nI pv) (nI va) (nI n3) (nI ve) (nI ed) (nI se) (nI ci) (nI mr) (nI mt) (nI ld) A8)), (A8 16, .inl (cZ, 170, .inl ftr))] _ _ := B
    rcases hb_6 with ⟨hr1, hpT⟩ | ⟨hr1, hpT⟩ <;> subst hr1
    · refine W.eq (g2 := F0 m 15 ls [.int 1]) rfl ?_
      exact z_zret F hr hlk B (Or.inr rfl) [1, 0, 2] rfl (rfl) dX8_isIn_15 (by omega) (by omega) ⟨1, rfl, rfl, Or.inl ⟨rfl, by rw [zcov_lo (by omega), ztv_1 hpT]⟩⟩
    · refine W.eq (g2 := F0 m 15 ls [.int 0]) rfl ?_
      exact z_zret F hr hlk B (Or.inl rfl) [1, 0, 2] rfl (rfl) dX8_isIn_15 (by omega) (by omega) ⟨0, rfl, rfl, Or.inr ⟨rfl, by rw [zcov_lo (by omega), ztv_0 (Classical.not_not.mp hpT)]; decide⟩⟩
theorem iX8_visit_X8 : ∀ w ∈ u_ws RX8 TX8 37, w ∈ wsX8_visit := fun w h => List.mem_cons_of_mem _ (List.mem_append_right _ h)
theorem fX8_visit_73 : Cond.fieldLink RX8 73 "TourChainModel" "trip" "[I" ∈ wsX8_visit := by decide +kernel
theorem fX8_visit_215 : Cond.fieldLink RX8 215 "TourChainModel" "laid" "I" ∈ wsX8_visit := by decide +kernel
set_option maxHeartbeats 4000000 in
set_option maxRecDepth 100000 in
theorem kX8_visit (l : Launch) (D : va_G) (cI cZ cG cJ : ClassId) (mm : Nat) (th : Nat) (q : Nat) (g : Nat) (t : Nat) (r : Nat) (mb : Nat) (nc : Nat) (nl : Nat) (pv : Nat) (va : Nat) (n3 : Nat) (ve : Nat) (ed : Nat) (se : Nat) (ci : Nat) (mr : Nat) (mt : Nat) (ld : Nat) (A8 : Nat → Nat) (ftp : Nat → Int32) (Tl : List Nat) (od : Nat) (lw : Nat) (up : Nat) (n : Nat) (hT0 : zR ftp ld Tl) (hn : up + 1 = lw + n) (hn6 : n ≤ 6) (hlw : lw ≤ 6) (hod : od ≤ 10000) (hcp : ld + n ≤ 47000) : zC l yX8_visit wsX8_visit 0 0 0 0 D (zT cI cZ cG cJ) [.ref mm, .int (nI od), .int (nI lw), .int (nI up)] [(mm, .inr (10, zmo (nI th) (nI q) (nI g) (nI t) (nI r) (nI mb) (nI nc) (nI nl) (nI pv) (nI va) (nI n3) (nI ve) (nI ed) (nI se) (nI ci) (nI mr) (nI mt) (nI ld) A8)), (A8 17, .inl (cI, 47000, .inl ftp))] (fun (ov : Option Value) (ow : va_W) => ∃ ftp' : Nat → Int32, ov = none ∧ ow = [(mm, .inr (10, zmo (nI th) (nI q) (nI g) (nI t) (nI r) (nI mb) (nI nc) (nI nl) (nI pv) (nI va) (nI n3) (nI ve) (nI ed) (nI se) (nI ci) (nI mr) (nI mt) (nI (ld + n)) A8)), (A8 17, .inl (cI, 47000, .inl ftp'))] ∧ (zR ftp' (ld + n) (Tl ++ zrun (6 * od + lw) n))) := by
  refine zC.of (cc := cX8_visit) (maxL := 5) (ret := none) (by decide) rfl (Nat.le_of_ble_eq_true rfl) ?_
  intro p e s m below meth c A ls F hr hlk hnm B hl
  have hl : lv_has ls 5 [(0, .ref mm), (1, .int (nI od)), (2, .int (nI lw)), (3, .int (nI up))] := hl
  refine lv_iload_n F.1 F.2.1 dX8_visit_0 rfl (lv_at hl 2 rfl) ?_
  refine lv_istore (lv' := [(4, .int (nI lw)), (0, .ref mm), (1, .int (nI od)), (2, .int (nI lw)), (3, .int (nI up))]) F.1 F.2.1 dX8_visit_1 hl (by decide) rfl (fun ls hl => ?_)
  have loop3 : ∀ (fuel : Nat) (k : Nat) (ftp1 : Nat → Int32), n - k < fuel → (k ≤ n) → (zR ftp1 (ld + k) (Tl ++ zrun (6 * od + lw) k)) → ∀ (H : Heap) (locs : List Loc) (ls : Array Slot), zB D (zT cI cZ cG cJ) A s.heap s [(mm, .inr (10, zmo (nI th) (nI q) (nI g) (nI t) (nI r) (nI mb) (nI nc) (nI nl) (nI pv) (nI va) (nI n3) (nI ve) (nI ed) (nI se) (nI ci) (nI mr) (nI mt) (nI (ld + k)) A8)), (A8 17, .inl (cI, 47000, .inl ftp1))] H locs → lv_has ls 5 [(0, .ref mm), (1, .int (nI od)), (2, .int (nI lw)), (3, .int (nI up)), (4, .int (nI (lw + k)))] → W p l e { frames := 0, cells := 0, slots := 0, locals := 0 } s m [.ref mm, .int (nI od), .int (nI lw), .int (nI up)].toArray below meth c H locs 0 0 (zQ below [.ref mm, .int (nI od), .int (nI lw), .int (nI up)].toArray s D (zT cI cZ cG cJ) A (fun (ov : Option Value) (ow : va_W) => ∃ ftp' : Nat → Int32, ov = none ∧ ow = [(mm, .inr (10, zmo (nI th) (nI q) (nI g) (nI t) (nI r) (nI mb) (nI nc) (nI nl) (nI pv) (nI va) (nI n3) (nI ve) (nI ed) (nI se) (nI ci) (nI mr) (nI mt) (nI (ld + n)) A8)), (A8 17, .inl (cI, 47000, .inl ftp'))] ∧ (zR ftp' (ld + n) (Tl ++ zrun (6 * od + lw) n))) 0 0) (F0 m 3 ls []) := by
    intro fuel
    induction fuel with
    | zero => intro k ftp1 hmz; exact absurd hmz (Nat.not_lt_zero _)
    | succ fuel ih =>
      intro k ftp1 hm hk hT1 H locs ls B hl
      have ih3 := ih
      refine lv_iload F.1 F.2.1 dX8_visit_3 (lv_at hl 4 rfl) ?_
      refine lv_iload_n F.1 F.2.1 dX8_visit_5 rfl (lv_at hl 3 rfl) ?_
      refine z_icmp_gt (tgt := 41) F (by omega) (by omega) dX8_visit_6 (by decide) (fun c6 => ?_) (fun c6 => ?_)
      · have hkn : n = k := by omega
        subst hkn
        exact z_vret F hr hlk B [0, 1] rfl (rfl) dX8_visit_41 (by omega) (by omega) ⟨ftp1, rfl, rfl, hT1⟩
      · refine lv_aload_n F.1 F.2.1 dX8_visit_9 rfl (lv_at hl 0 rfl) ?_
        refine z_get F B 0 rfl (ci := 10) (C := RX8) (T := TX8) (N := 37) rfl iX8_visit_X8 34 (by decide) fX8_visit_73 rfl dX8_visit_10 ?_
        refine lv_aload_n F.1 F.2.1 dX8_visit_13 rfl (lv_at hl 0 rfl) ?_
        refine z_get F B 0 rfl (ci := 10) (C := RX8) (T := TX8) (N := 37) rfl iX8_visit_X8 36 (by decide) fX8_visit_215 rfl dX8_visit_14 ?_
        refine lv_bipush (v := (nI 6)) F.1 F.2.1 dX8_visit_17 (by decide) ?_
        refine lv_iload_n F.1 F.2.1 dX8_visit_19 rfl (lv_at hl 1 rfl) ?_
        refine z_imul F dX8_visit_20 ?_
        refine lv_iload F.1 F.2.1 dX8_visit_21 (lv_at hl 4 rfl) ?_
        refine z_iadd F dX8_visit_23 ?_
        refine W.eq (g2 := F0 m 24 ls [.int (nI (6 * od + lw + k)), .int (nI (ld + k)), .ref (A8 17)]) (by rw [show 6 * od + (lw + k) = 6 * od + lw + k by omega]) ?_
        refine z_iast F B 1 0 rfl rfl (j := ld + k) (by omega) (by omega) dX8_visit_24 (fun H locs B => ?_)
        have B : zB D (zT cI cZ cG cJ) A s.heap s [(mm, .inr (10, zmo (nI th) (nI q) (nI g) (nI t) (nI r) (nI mb) (nI nc) (nI nl) (nI pv) (nI va) (nI n3) (nI ve) (nI ed) (nI se) (nI ci) (nI mr) (nI mt) (nI (ld + k)) A8)), (A8 17, .inl (cI, 47000, .inl (upd ftp1 (ld + k) (nI (6 * od + lw + k)))))] _ _ := B
        refine lv_aload_n F.1 F.2.1 dX8_visit_25 rfl (lv_at hl 0 rfl) ?_
        refine lv_dup F.1 F.2.1 dX8_visit_26 rfl ?_
        refine z_get F B 0 rfl (ci := 10) (C := RX8) (T := TX8) (N := 37) rfl iX8_visit_X8 36 (by decide) fX8_visit_215 rfl dX8_visit_27 ?_
        refine lv_iconst (v := (nI 1)) F.1 F.2.1 dX8_visit_30 (by decide) ?_
        refine z_iadd F dX8_visit_31 ?_
        refine z_put F B 0 rfl (ci := 10) (C := RX8) (T := TX8) (N := 37) rfl iX8_visit_X8 tyX8 tyX8_ok nmX8 36 (by decide) fX8_visit_215 rfl (v := .int (nI (ld + k + 1))) rfl rfl (Nat.le_of_ble_eq_true rfl) dX8_visit_32 (fun H locs B => ?_)
        have B : zB D (zT cI cZ cG cJ) A s.heap s [(mm, .inr (10, zmo (nI th) (nI q) (nI g) (nI t) (nI r) (nI mb) (nI nc) (nI nl) (nI pv) (nI va) (nI n3) (nI ve) (nI ed) (nI se) (nI ci) (nI mr) (nI mt) (nI (ld + k + 1)) A8)), (A8 17, .inl (cI, 47000, .inl (upd ftp1 (ld + k) (nI (6 * od + lw + k)))))] _ _ := B
        refine lv_iinc (v := (nI (lw + k + 1))) (lv' := [(4, .int (nI (lw + k + 1))), (0, .ref mm), (1, .int (nI od)), (2, .int (nI lw)), (3, .int (nI up))]) F.1 F.2.1 dX8_visit_35 hl (k := 4) rfl (by rw [show Int32.ofInt 1 = nI 1 from rfl, nI_add]) (by decide) rfl (fun ls hl => ?_)
        refine lv_goto (tgt := 3) F.1 F.2.1 dX8_visit_38 (by decide) ?_
        exact ih3 (k + 1) (upd ftp1 (ld + k) (nI (6 * od + lw + k))) (by first | omega | (simp only [] at *; omega)) (by omega) (by rw [zrun_S, ← List.append_assoc]; exact zR_add hT1 (fun i hi => pk_un (Nat.ne_of_lt hi)) pk_us) _ _ _ (B.sub [0, 1] rfl (rfl)) (lv_sub hl [1, 2, 3, 4, 0] (rfl))
  exact loop3 (n - 0 + 1) 0 ftp (Nat.lt_succ_self _) (by omega) (by simpa [zrun] using hT0) _ _ _ (B.sub [0, 1] rfl (rfl)) (lv_sub hl [1, 2, 3, 4, 0] (rfl))
