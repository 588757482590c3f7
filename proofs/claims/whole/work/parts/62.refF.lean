/-! CONTRACTS of the reference: link, build -/
theorem iX8_link_X8 : ∀ w ∈ u_ws RX8 TX8 37, w ∈ wsX8_link := fun w h => List.mem_cons_of_mem _ (List.mem_append_right _ h)
theorem fX8_link_161 : Cond.fieldLink RX8 161 "TourChainModel" "vertices" "I" ∈ wsX8_link := by decide +kernel
theorem fX8_link_164 : Cond.fieldLink RX8 164 "TourChainModel" "edges" "I" ∈ wsX8_link := by decide +kernel
theorem yX8_link_X8_vertexAt : yX8_vertexAt.cls = RX8 ∧ yX8_vertexAt.cls ≠ "java/lang/invoke/MethodHandle" ∧ yX8_vertexAt.cls ≠ "java/lang/invoke/VarHandle" ∧ (parseMethodDescriptor yX8_vertexAt.desc).map (fun d => d.parameters.length) = some 2 := by decide +kernel
theorem fX8_link_53 : Cond.fieldLink RX8 53 "TourChainModel" "lastEnd" "[I" ∈ wsX8_link := by decide +kernel
theorem fX8_link_47 : Cond.fieldLink RX8 47 "TourChainModel" "behind" "[I" ∈ wsX8_link := by decide +kernel
theorem fX8_link_50 : Cond.fieldLink RX8 50 "TourChainModel" "firstEnd" "[I" ∈ wsX8_link := by decide +kernel
set_option maxHeartbeats 4000000 in
set_option maxRecDepth 100000 in
theorem kX8_link (l : Launch) (D : va_G) (cI cZ cG cJ : ClassId) (mm : Nat) (th : Nat) (q : Nat) (g : Nat) (t : Nat) (r : Nat) (mb : Nat) (nc : Nat) (nl : Nat) (pv : Nat) (va : Nat) (n3 : Nat) (ve : Nat) (ed : Nat) (se : Nat) (ci : Nat) (mr : Nat) (mt : Nat) (ld : Nat) (A8 : Nat → Nat) (f3 : Nat → Int32) (L3 : List Nat) (fbe : Nat → Int32) (ffe : Nat → Int32) (fle : Nat → Int32) (hR : zR f3 (3 * n3) L3) (hb : 3 * n3 ≤ 1900) (hv : va ≤ 1000) (hL : ∀ i, i < 3 * n3 → L3.getD i 0 < 2 * va) (hve : ve = 2 * va + 3 * n3) (hve2 : ve ≤ 2200) (hed : ed = va + 6 * n3) (hed2 : 2 * ed ≤ 7600) : zC l yX8_link wsX8_link 1 25 0 0 D (zT cI cZ cG cJ) [.ref mm] [(mm, .inr (10, zmo (nI th) (nI q) (nI g) (nI t) (nI r) (nI mb) (nI nc) (nI nl) (nI pv) (nI va) (nI n3) (nI ve) (nI ed) (nI se) (nI ci) (nI mr) (nI mt) (nI ld) A8)), (A8 8, .inl (cI, 1900, .inl f3)), (A8 9, .inl (cI, 7600, .inl fbe)), (A8 10, .inl (cI, 2200, .inl ffe)), (A8 11, .inl (cI, 2200, .inl fle))] (fun (ov : Option Value) (ow : va_W) => ∃ ffe' : Nat → Int32, ∃ fle' : Nat → Int32, ∃ fbe' : Nat → Int32, ov = none ∧ ow = [(mm, .inr (10, zmo (nI th) (nI q) (nI g) (nI t) (nI r) (nI mb) (nI nc) (nI nl) (nI pv) (nI va) (nI n3) (nI ve) (nI ed) (nI se) (nI ci) (nI mr) (nI mt) (nI ld) A8)), (A8 8, .inl (cI, 1900, .inl f3)), (A8 9, .inl (cI, 7600, .inl fbe')), (A8 10, .inl (cI, 2200, .inl ffe')), (A8 11, .inl (cI, 2200, .inl fle'))] ∧ (∀ u, u < ve → zFE (zva va L3) (2 * ed) u (ffe' u)) ∧ (∀ u, u < ve → zLE (zva va L3) (2 * ed) u (fle' u)) ∧ (∀ x, x < 2 * ed → zBH (zva va L3) (2 * ed) x (fbe' x))) := by
  refine zC.of (cc := cX8_link) (maxL := 5) (ret := none) (by decide) rfl (Nat.le_of_ble_eq_true rfl) ?_
  intro p e s m below meth c A ls F hr hlk hnm B hl
  have hl : lv_has ls 5 [(0, .ref mm)] := hl
  refine lv_iconst (v := (nI 0)) F.1 F.2.1 dX8_link_0 (by decide) ?_
  refine lv_istore_n (lv' := [(1, .int (nI 0)), (0, .ref mm)]) F.1 F.2.1 dX8_link_1 rfl hl (by decide) rfl (fun ls hl => ?_)
  have loop2 : ∀ (fuel : Nat) (u : Nat) (ffe0 : Nat → Int32) (fle0 : Nat → Int32), ve - u < fuel → (u ≤ ve) → (∀ x, x < u → ffe0 x = -1 ∧ fle0 x = -1) → ∀ (H : Heap) (locs : List Loc) (ls : Array Slot), zB D (zT cI cZ cG cJ) A s.heap s [(mm, .inr (10, zmo (nI th) (nI q) (nI g) (nI t) (nI r) (nI mb) (nI nc) (nI nl) (nI pv) (nI va) (nI n3) (nI ve) (nI ed) (nI se) (nI ci) (nI mr) (nI mt) (nI ld) A8)), (A8 8, .inl (cI, 1900, .inl f3)), (A8 9, .inl (cI, 7600, .inl fbe)), (A8 10, .inl (cI, 2200, .inl ffe0)), (A8 11, .inl (cI, 2200, .inl fle0))] H locs → lv_has ls 5 [(0, .ref mm), (1, .int (nI u))] → W p l e { frames := 1, cells := 0, slots := 0, locals := 25 } s m [.ref mm].toArray below meth c H locs 0 0 (zQ below [.ref mm].toArray s D (zT cI cZ cG cJ) A (fun (ov : Option Value) (ow : va_W) => ∃ ffe' : Nat → Int32, ∃ fle' : Nat → Int32, ∃ fbe' : Nat → Int32, ov = none ∧ ow = [(mm, .inr (10, zmo (nI th) (nI q) (nI g) (nI t) (nI r) (nI mb) (nI nc) (nI nl) (nI pv) (nI va) (nI n3) (nI ve) (nI ed) (nI se) (nI ci) (nI mr) (nI mt) (nI ld) A8)), (A8 8, .inl (cI, 1900, .inl f3)), (A8 9, .inl (cI, 7600, .inl fbe')), (A8 10, .inl (cI, 2200, .inl ffe')), (A8 11, .inl (cI, 2200, .inl fle'))] ∧ (∀ u, u < ve → zFE (zva va L3) (2 * ed) u (ffe' u)) ∧ (∀ u, u < ve → zLE (zva va L3) (2 * ed) u (fle' u)) ∧ (∀ x, x < 2 * ed → zBH (zva va L3) (2 * ed) x (fbe' x))) 0 0) (F0 m 2 ls []) := by
    intro fuel
    induction fuel with
    | zero => intro u ffe0 fle0 hmz; exact absurd hmz (Nat.not_lt_zero _)
    | succ fuel ih =>
      intro u ffe0 fle0 hm hu hz H locs ls B hl
      have ih2 := ih
      refine lv_iload_n F.1 F.2.1 dX8_link_2 rfl (lv_at hl 1 rfl) ?_
      refine lv_aload_n F.1 F.2.1 dX8_link_3 rfl (lv_at hl 0 rfl) ?_
      refine z_get F B 0 rfl (ci := 10) (C := RX8) (T := TX8) (N := 37) rfl iX8_link_X8 20 (by decide) fX8_link_161 rfl dX8_link_4 ?_
      refine z_icmp_ge (tgt := 30) F (by omega) (by omega) dX8_link_7 (by decide) (fun c7 => ?_) (fun c7 => ?_)
      · have huv : u = ve := by omega
        refine lv_iconst (v := (nI 0)) F.1 F.2.1 dX8_link_30 (by decide) ?_
        refine lv_istore_n (lv' := [(1, .int (nI 0)), (0, .ref mm)]) F.1 F.2.1 dX8_link_31 rfl hl (by decide) rfl (fun ls hl => ?_)
        have loop32 : ∀ (fuel : Nat) (e1 : Nat) (ffe1 : Nat → Int32) (fle1 : Nat → Int32) (fbe1 : Nat → Int32), ed - e1 < fuel → (e1 ≤ ed) → (∀ u, u < ve → zFE (zva va L3) (2 * e1) u (ffe1 u)) → (∀ u, u < ve → zLE (zva va L3) (2 * e1) u (fle1 u)) → (∀ x, x < 2 * e1 → zBH (zva va L3) (2 * e1) x (fbe1 x)) → ∀ (H : Heap) (locs : List Loc) (ls : Array Slot), zB D (zT cI cZ cG cJ) A s.heap s [(mm, .inr (10, zmo (nI th) (nI q) (nI g) (nI t) (nI r) (nI mb) (nI nc) (nI nl) (nI pv) (nI va) (nI n3) (nI ve) (nI ed) (nI se) (nI ci) (nI mr) (nI mt) (nI ld) A8)), (A8 8, .inl (cI, 1900, .inl f3)), (A8 9, .inl (cI, 7600, .inl fbe1)), (A8 10, .inl (cI, 2200, .inl ffe1)), (A8 11, .inl (cI, 2200, .inl fle1))] H locs → lv_has ls 5 [(0, .ref mm), (1, .int (nI e1))] → W p l e { frames := 1, cells := 0, slots := 0, locals := 25 } s m [.ref mm].toArray below meth c H locs 0 0 (zQ below [.ref mm].toArray s D (zT cI cZ cG cJ) A (fun (ov : Option Value) (ow : va_W) => ∃ ffe' : Nat → Int32, ∃ fle' : Nat → Int32, ∃ fbe' : Nat → Int32, ov = none ∧ ow = [(mm, .inr (10, zmo (nI th) (nI q) (nI g) (nI t) (nI r) (nI mb) (nI nc) (nI nl) (nI pv) (nI va) (nI n3) (nI ve) (nI ed) (nI se) (nI ci) (nI mr) (nI mt) (nI ld) A8)), (A8 8, .inl (cI, 1900, .inl f3)), (A8 9, .inl (cI, 7600, .inl fbe')), (A8 10, .inl (cI, 2200, .inl ffe')), (A8 11, .inl (cI, 2200, .inl fle'))] ∧ (∀ u, u < ve → zFE (zva va L3) (2 * ed) u (ffe' u)) ∧ (∀ u, u < ve → zLE (zva va L3) (2 * ed) u (fle' u)) ∧ (∀ x, x < 2 * ed → zBH (zva va L3) (2 * ed) x (fbe' x))) 0 0) (F0 m 32 ls []) := by
          intro fuel
          induction fuel with
          | zero => intro e1 ffe1 fle1 fbe1 hmz; exact absurd hmz (Nat.not_lt_zero _)
          | succ fuel ih =>
            intro e1 ffe1 fle1 fbe1 hm he hFE1 hLE1 hBE1 H locs ls B hl
            have ih32 := ih
            refine lv_iload_n F.1 F.2.1 dX8_link_32 rfl (lv_at hl 1 rfl) ?_
            refine lv_aload_n F.1 F.2.1 dX8_link_33 rfl (lv_at hl 0 rfl) ?_
            refine z_get F B 0 rfl (ci := 10) (C := RX8) (T := TX8) (N := 37) rfl iX8_link_X8 21 (by decide) fX8_link_164 rfl dX8_link_34 ?_
            refine z_icmp_ge (tgt := 123) F (by omega) (by omega) dX8_link_37 (by decide) (fun c37 => ?_) (fun c37 => ?_)
            · have hee : e1 = ed := by omega
              rw [hee] at hFE1 hLE1 hBE1
              exact z_vret F hr hlk B [0, 1, 2, 3, 4] rfl (rfl) dX8_link_123 (by omega) (by omega) ⟨ffe1, fle1, fbe1, rfl, rfl, hFE1, hLE1, hBE1⟩
            · refine lv_iconst (v := (nI 0)) F.1 F.2.1 dX8_link_40 (by decide) ?_
              refine lv_istore_n (lv' := [(2, .int (nI 0)), (0, .ref mm), (1, .int (nI e1))]) F.1 F.2.1 dX8_link_41 rfl hl (by decide) rfl (fun ls hl => ?_)
              have loop42 : ∀ (fuel : Nat) (s1 : Nat) (ffe2 : Nat → Int32) (fle2 : Nat → Int32) (fbe2 : Nat → Int32), 2 - s1 < fuel → (s1 ≤ 2) → (∀ u, u < ve → zFE (zva va L3) (2 * e1 + s1) u (ffe2 u)) → (∀ u, u < ve → zLE (zva va L3) (2 * e1 + s1) u (fle2 u)) → (∀ x, x < 2 * e1 + s1 → zBH (zva va L3) (2 * e1 + s1) x (fbe2 x)) → ∀ (H : Heap) (locs : List Loc) (ls : Array Slot), zB D (zT cI cZ cG cJ) A s.heap s [(mm, .inr (10, zmo (nI th) (nI q) (nI g) (nI t) (nI r) (nI mb) (nI nc) (nI nl) (nI pv) (nI va) (nI n3) (nI ve) (nI ed) (nI se) (nI ci) (nI mr) (nI mt) (nI ld) A8)), (A8 8, .inl (cI, 1900, .inl f3)), (A8 9, .inl (cI, 7600, .inl fbe2)), (A8 10, .inl (cI, 2200, .inl ffe2)), (A8 11, .inl (cI, 2200, .inl fle2))] H locs → lv_has ls 5 [(0, .ref mm), (1, .int (nI e1)), (2, .int (nI s1))] → W p l e { frames := 1, cells := 0, slots := 0, locals := 25 } s m [.ref mm].toArray below meth c H locs 0 0 (zQ below [.ref mm].toArray s D (zT cI cZ cG cJ) A (fun (ov : Option Value) (ow : va_W) => ∃ ffe' : Nat → Int32, ∃ fle' : Nat → Int32, ∃ fbe' : Nat → Int32, ov = none ∧ ow = [(mm, .inr (10, zmo (nI th) (nI q) (nI g) (nI t) (nI r) (nI mb) (nI nc) (nI nl) (nI pv) (nI va) (nI n3) (nI ve) (nI ed) (nI se) (nI ci) (nI mr) (nI mt) (nI ld) A8)), (A8 8, .inl (cI, 1900, .inl f3)), (A8 9, .inl (cI, 7600, .inl fbe')), (A8 10, .inl (cI, 2200, .inl ffe')), (A8 11, .inl (cI, 2200, .inl fle'))] ∧ (∀ u, u < ve → zFE (zva va L3) (2 * ed) u (ffe' u)) ∧ (∀ u, u < ve → zLE (zva va L3) (2 * ed) u (fle' u)) ∧ (∀ x, x < 2 * ed → zBH (zva va L3) (2 * ed) x (fbe' x))) 0 0) (F0 m 42 ls []) := by
                intro fuel
                induction fuel with
                | zero => intro s1 ffe2 fle2 fbe2 hmz; exact absurd hmz (Nat.not_lt_zero _)
                | succ fuel ih =>
                  intro s1 ffe2 fle2 fbe2 hm hs1 hFE2 hLE2 hBE2 H locs ls B hl
                  have ih42 := ih
                  refine lv_iload_n F.1 F.2.1 dX8_link_42 rfl (lv_at hl 2 rfl) ?_
                  refine lv_iconst (v := (nI 2)) F.1 F.2.1 dX8_link_43 (by decide) ?_
                  refine z_icmp_ge (tgt := 117) F (by omega) (by omega) dX8_link_44 (by decide) (fun c44 => ?_) (fun c44 => ?_)
                  · have hs2 : s1 = 2 := by omega
                    refine lv_iinc (v := (nI (e1 + 1))) (lv' := [(1, .int (nI (e1 + 1))), (0, .ref mm), (2, .int (nI s1))]) F.1 F.2.1 dX8_link_117 hl (k := 1) rfl (by rw [show Int32.ofInt 1 = nI 1 from rfl, nI_add]) (by decide) rfl (fun ls hl => ?_)
                    refine lv_goto (tgt := 32) F.1 F.2.1 dX8_link_120 (by decide) ?_
                    exact ih32 (e1 + 1) ffe2 fle2 fbe2 (by first | omega | (simp only [] at *; omega)) (by omega) (by rw [show 2 * (e1 + 1) = 2 * e1 + s1 by omega]; exact hFE2) (by rw [show 2 * (e1 + 1) = 2 * e1 + s1 by omega]; exact hLE2) (by rw [show 2 * (e1 + 1) = 2 * e1 + s1 by omega]; exact hBE2) _ _ _ (B.sub [0, 1, 2, 3, 4] rfl (rfl)) (lv_sub hl [1, 0] (rfl))
                  · have hwb := zva_bd hL (d := 2 * e1 + s1) (by omega)
                    refine lv_aload_n F.1 F.2.1 dX8_link_47 rfl (lv_at hl 0 rfl) ?_
                    refine lv_iload_n F.1 F.2.1 dX8_link_48 rfl (lv_at hl 1 rfl) ?_
                    refine lv_iload_n F.1 F.2.1 dX8_link_49 rfl (lv_at hl 2 rfl) ?_
                    refine z_callV (wr := [(A8 9, .inl (cI, 7600, .inl fbe2)), (A8 10, .inl (cI, 2200, .inl ffe2)), (A8 11, .inl (cI, 2200, .inl fle2))]) (rest := []) (As := [.int (nI e1), .int (nI s1)]) F B (kX8_vertexAt l D cI cZ cG cJ mm th q g t r mb nc nl pv va n3 ve ed se ci mr mt ld A8 f3 L3 e1 s1 (hR) (by omega) (by omega) (by omega) (by omega)) hl.1 (C := RX8) (T := TX8) (N := 37) (ci := 10) (q0 := 0) gX8_link_X8_vertexAt rfl 2 yX8_link_X8_vertexAt rfl rfl rfl [0, 1] [2, 3, 4] rfl rfl rfl rfl (by decide) (Nat.le_of_ble_eq_true rfl) (Nat.le_of_ble_eq_true rfl) (Nat.le_of_ble_eq_true rfl) rfl dX8_link_50 (show 0 + 0 ≤ 0 by omega) (show 0 + 0 ≤ 0 by omega) (fun vv ww H locs hRR B => ?_)
                    obtain ⟨rfl, rfl⟩ := hRR
                    have B : zB D (zT cI cZ cG cJ) A s.heap s [(A8 9, .inl (cI, 7600, .inl fbe2)), (A8 10, .inl (cI, 2200, .inl ffe2)), (A8 11, .inl (cI, 2200, .inl fle2)), (mm, .inr (10, zmo (nI th) (nI q) (nI g) (nI t) (nI r) (nI mb) (nI nc) (nI nl) (nI pv) (nI va) (nI n3) (nI ve) (nI ed) (nI se) (nI ci) (nI mr) (nI mt) (nI ld) A8)), (A8 8, .inl (cI, 1900, .inl f3))] _ _ := B
                    refine W.eq (g2 := F0 m 53 ls [.int (nI (zva va L3 (2 * e1 + s1)))]) rfl ?_
                    refine lv_istore_n (lv' := [(3, .int (nI (zva va L3 (2 * e1 + s1)))), (0, .ref mm), (1, .int (nI e1)), (2, .int (nI s1))]) F.1 F.2.1 dX8_link_53 rfl hl (by decide) rfl (fun ls hl => ?_)
                    refine lv_iconst (v := (nI 2)) F.1 F.2.1 dX8_link_54 (by decide) ?_
                    refine lv_iload_n F.1 F.2.1 dX8_link_55 rfl (lv_at hl 2 rfl) ?_
                    refine z_imul F dX8_link_56 ?_
                    refine lv_iload_n F.1 F.2.1 dX8_link_57 rfl (lv_at hl 3 rfl) ?_
                    refine z_iadd F dX8_link_58 ?_
                    refine lv_istore (lv' := [(4, .int (nI (2 * e1 + s1))), (3, .int (nI (zva va L3 (2 * e1 + s1)))), (0, .ref mm), (1, .int (nI e1)), (2, .int (nI s1))]) F.1 F.2.1 dX8_link_59 hl (by decide) rfl (fun ls hl => ?_)
                    refine lv_aload_n F.1 F.2.1 dX8_link_61 rfl (lv_at hl 2 rfl) ?_
                    refine z_get F B 3 rfl (ci := 10) (C := RX8) (T := TX8) (N := 37) rfl iX8_link_X8 26 (by decide) fX8_link_53 rfl dX8_link_62 ?_
                    refine lv_iload_n F.1 F.2.1 dX8_link_65 rfl (lv_at hl 1 rfl) ?_
                    refine z_iald F B 2 0 rfl rfl (j := zva va L3 (2 * e1 + s1)) (by omega) (by omega) dX8_link_66 ?_
                    refine lv_iconst (v := (-1)) F.1 F.2.1 dX8_link_67 (by decide) ?_
                    refine lv_icmp_ne (tgt := 82) F.1 F.2.1 dX8_link_68 (by decide) (fun c68 => ?_) (fun c68 => ?_)
                    · obtain ⟨d, hd, hwd, hcd, hld⟩ := zLE_yes (hLE2 (zva va L3 (2 * e1 + s1)) (by omega)) c68
                      refine lv_aload_n F.1 F.2.1 dX8_link_82 rfl (lv_at hl 2 rfl) ?_
                      refine z_get F B 3 rfl (ci := 10) (C := RX8) (T := TX8) (N := 37) rfl iX8_link_X8 24 (by decide) fX8_link_47 rfl dX8_link_83 ?_
                      refine lv_aload_n F.1 F.2.1 dX8_link_86 rfl (lv_at hl 2 rfl) ?_
                      refine z_get F B 3 rfl (ci := 10) (C := RX8) (T := TX8) (N := 37) rfl iX8_link_X8 26 (by decide) fX8_link_53 rfl dX8_link_87 ?_
                      refine lv_iload_n F.1 F.2.1 dX8_link_90 rfl (lv_at hl 1 rfl) ?_
                      refine z_iald F B 2 0 rfl rfl (j := zva va L3 (2 * e1 + s1)) (by omega) (by omega) dX8_link_91 ?_
                      refine W.eq (g2 := F0 m 92 ls [.int (nI d), .ref (A8 9)]) (by rw [hld]) ?_
                      refine lv_iload F.1 F.2.1 dX8_link_92 (lv_at hl 0 rfl) ?_
                      refine z_iast F B 0 0 rfl rfl (j := d) (by omega) (by omega) dX8_link_94 (fun H locs B => ?_)
                      have B : zB D (zT cI cZ cG cJ) A s.heap s [(A8 9, .inl (cI, 7600, .inl (upd fbe2 d (nI (2 * e1 + s1))))), (A8 10, .inl (cI, 2200, .inl ffe2)), (A8 11, .inl (cI, 2200, .inl fle2)), (mm, .inr (10, zmo (nI th) (nI q) (nI g) (nI t) (nI r) (nI mb) (nI nc) (nI nl) (nI pv) (nI va) (nI n3) (nI ve) (nI ed) (nI se) (nI ci) (nI mr) (nI mt) (nI ld) A8)), (A8 8, .inl (cI, 1900, .inl f3))] _ _ := B
                      refine lv_aload_n F.1 F.2.1 dX8_link_95 rfl (lv_at hl 2 rfl) ?_
                      refine z_get F B 3 rfl (ci := 10) (C := RX8) (T := TX8) (N := 37) rfl iX8_link_X8 24 (by decide) fX8_link_47 rfl dX8_link_96 ?_
                      refine lv_iload F.1 F.2.1 dX8_link_99 (lv_at hl 0 rfl) ?_
                      refine lv_iconst (v := (-1)) F.1 F.2.1 dX8_link_101 (by decide) ?_
                      refine z_iast F B 0 0 rfl rfl (j := 2 * e1 + s1) (by omega) (by omega) dX8_link_102 (fun H locs B => ?_)
                      have B : zB D (zT cI cZ cG cJ) A s.heap s [(A8 9, .inl (cI, 7600, .inl (upd (upd fbe2 d (nI (2 * e1 + s1))) (2 * e1 + s1) (-1)))), (A8 10, .inl (cI, 2200, .inl ffe2)), (A8 11, .inl (cI, 2200, .inl fle2)), (mm, .inr (10, zmo (nI th) (nI q) (nI g) (nI t) (nI r) (nI mb) (nI nc) (nI nl) (nI pv) (nI va) (nI n3) (nI ve) (nI ed) (nI se) (nI ci) (nI mr) (nI mt) (nI ld) A8)), (A8 8, .inl (cI, 1900, .inl f3))] _ _ := B
                      refine lv_aload_n F.1 F.2.1 dX8_link_103 rfl (lv_at hl 2 rfl) ?_
                      refine z_get F B 3 rfl (ci := 10) (C := RX8) (T := TX8) (N := 37) rfl iX8_link_X8 26 (by decide) fX8_link_53 rfl dX8_link_104 ?_
                      refine lv_iload_n F.1 F.2.1 dX8_link_107 rfl (lv_at hl 1 rfl) ?_
                      refine lv_iload F.1 F.2.1 dX8_link_108 (lv_at hl 0 rfl) ?_
                      refine z_iast F B 2 0 rfl rfl (j := zva va L3 (2 * e1 + s1)) (by omega) (by omega) dX8_link_110 (fun H locs B => ?_)
                      have B : zB D (zT cI cZ cG cJ) A s.heap s [(A8 9, .inl (cI, 7600, .inl (upd (upd fbe2 d (nI (2 * e1 + s1))) (2 * e1 + s1) (-1)))), (A8 10, .inl (cI, 2200, .inl ffe2)), (A8 11, .inl (cI, 2200, .inl (upd fle2 (zva va L3 (2 * e1 + s1)) (nI (2 * e1 + s1))))), (mm, .inr (10, zmo (nI th) (nI q) (nI g) (nI t) (nI r) (nI mb) (nI nc) (nI nl) (nI pv) (nI va) (nI n3) (nI ve) (nI ed) (nI se) (nI ci) (nI mr) (nI mt) (nI ld) A8)), (A8 8, .inl (cI, 1900, .inl f3))] _ _ := B
                      refine lv_iinc (v := (nI (s1 + 1))) (lv' := [(2, .int (nI (s1 + 1))), (4, .int (nI (2 * e1 + s1))), (3, .int (nI (zva va L3 (2 * e1 + s1)))), (0, .ref mm), (1, .int (nI e1))]) F.1 F.2.1 dX8_link_111 hl (k := 4) rfl (by rw [show Int32.ofInt 1 = nI 1 from rfl, nI_add]) (by decide) rfl (fun ls hl => ?_)
                      refine lv_goto (tgt := 42) F.1 F.2.1 dX8_link_114 (by decide) ?_
                      exact ih42 (s1 + 1) ffe2 (upd fle2 (zva va L3 (2 * e1 + s1)) (nI (2 * e1 + s1))) (upd (upd fbe2 d (nI (2 * e1 + s1))) (2 * e1 + s1) (-1)) (by first | omega | (simp only [] at *; omega)) (by omega) ((zlink_b hFE2 hLE2 hBE2 hd hwd hcd).1) ((zlink_b hFE2 hLE2 hBE2 hd hwd hcd).2.1) ((zlink_b hFE2 hLE2 hBE2 hd hwd hcd).2.2) _ _ _ (B.sub [3, 4, 0, 1, 2] rfl (rfl)) (lv_sub hl [3, 4, 0] (rfl))
                    · have h0 := zLE_no (hLE2 (zva va L3 (2 * e1 + s1)) (by omega)) c68 (by omega)
                      refine lv_aload_n F.1 F.2.1 dX8_link_71 rfl (lv_at hl 2 rfl) ?_
                      refine z_get F B 3 rfl (ci := 10) (C := RX8) (T := TX8) (N := 37) rfl iX8_link_X8 25 (by decide) fX8_link_50 rfl dX8_link_72 ?_
                      refine lv_iload_n F.1 F.2.1 dX8_link_75 rfl (lv_at hl 1 rfl) ?_
                      refine lv_iload F.1 F.2.1 dX8_link_76 (lv_at hl 0 rfl) ?_
                      refine z_iast F B 1 0 rfl rfl (j := zva va L3 (2 * e1 + s1)) (by omega) (by omega) dX8_link_78 (fun H locs B => ?_)
                      have B : zB D (zT cI cZ cG cJ) A s.heap s [(A8 9, .inl (cI, 7600, .inl fbe2)), (A8 10, .inl (cI, 2200, .inl (upd ffe2 (zva va L3 (2 * e1 + s1)) (nI (2 * e1 + s1))))), (A8 11, .inl (cI, 2200, .inl fle2)), (mm, .inr (10, zmo (nI th) (nI q) (nI g) (nI t) (nI r) (nI mb) (nI nc) (nI nl) (nI pv) (nI va) (nI n3) (nI ve) (nI ed) (nI se) (nI ci) (nI mr) (nI mt) (nI ld) A8)), (A8 8, .inl (cI, 1900, .inl f3))] _ _ := B
                      refine lv_goto (tgt := 95) F.1 F.2.1 dX8_link_79 (by decide) ?_
                      refine lv_aload_n F.1 F.2.1 dX8_link_95 rfl (lv_at hl 2 rfl) ?_
                      refine z_get F B 3 rfl (ci := 10) (C := RX8) (T := TX8) (N := 37) rfl iX8_link_X8 24 (by decide) fX8_link_47 rfl dX8_link_96 ?_
                      refine lv_iload F.1 F.2.1 dX8_link_99 (lv_at hl 0 rfl) ?_
                      refine lv_iconst (v := (-1)) F.1 F.2.1 dX8_link_101 (by decide) ?_
                      refine z_iast F B 0 0 rfl rfl (j := 2 * e1 + s1) (by omega) (by omega) dX8_link_102 (fun H locs B => ?_)
                      have B : zB D (zT cI cZ cG cJ) A s.heap s [(A8 9, .inl (cI, 7600, .inl (upd fbe2 (2 * e1 + s1) (-1)))), (A8 10, .inl (cI, 2200, .inl (upd ffe2 (zva va L3 (2 * e1 + s1)) (nI (2 * e1 + s1))))), (A8 11, .inl (cI, 2200, .inl fle2)), (mm, .inr (10, zmo (nI th) (nI q) (nI g) (nI t) (nI r) (nI mb) (nI nc) (nI nl) (nI pv) (nI va) (nI n3) (nI ve) (nI ed) (nI se) (nI ci) (nI mr) (nI mt) (nI ld) A8)), (A8 8, .inl (cI, 1900, .inl f3))] _ _ := B
                      refine lv_aload_n F.1 F.2.1 dX8_link_103 rfl (lv_at hl 2 rfl) ?_
                      refine z_get F B 3 rfl (ci := 10) (C := RX8) (T := TX8) (N := 37) rfl iX8_link_X8 26 (by decide) fX8_link_53 rfl dX8_link_104 ?_
                      refine lv_iload_n F.1 F.2.1 dX8_link_107 rfl (lv_at hl 1 rfl) ?_
                      refine lv_iload F.1 F.2.1 dX8_link_108 (lv_at hl 0 rfl) ?_
                      refine z_iast F B 2 0 rfl rfl (j := zva va L3 (2 * e1 + s1)) (by omega) (by omega) dX8_link_110 (fun H locs B => ?_)
                      have B : zB D (zT cI cZ cG cJ) A s.heap s [(A8 9, .inl (cI, 7600, .inl (upd fbe2 (2 * e1 + s1) (-1)))), (A8 10, .inl (cI, 2200, .inl (upd ffe2 (zva va L3 (2 * e1 + s1)) (nI (2 * e1 + s1))))), (A8 11, .inl (cI, 2200, .inl (upd fle2 (zva va L3 (2 * e1 + s1)) (nI (2 * e1 + s1))))), (mm, .inr (10, zmo (nI th) (nI q) (nI g) (nI t) (nI r) (nI mb) (nI nc) (nI nl) (nI pv) (nI va) (nI n3) (nI ve) (nI ed) (nI se) (nI ci) (nI mr) (nI mt) (nI ld) A8)), (A8 8, .inl (cI, 1900, .inl f3))] _ _ := B
                      refine lv_iinc (v := (nI (s1 + 1))) (lv' := [(2, .int (nI (s1 + 1))), (4, .int (nI (2 * e1 + s1))), (3, .int (nI (zva va L3 (2 * e1 + s1)))), (0, .ref mm), (1, .int (nI e1))]) F.1 F.2.1 dX8_link_111 hl (k := 4) rfl (by rw [show Int32.ofInt 1 = nI 1 from rfl, nI_add]) (by decide) rfl (fun ls hl => ?_)
                      refine lv_goto (tgt := 42) F.1 F.2.1 dX8_link_114 (by decide) ?_
                      exact ih42 (s1 + 1) (upd ffe2 (zva va L3 (2 * e1 + s1)) (nI (2 * e1 + s1))) (upd fle2 (zva va L3 (2 * e1 + s1)) (nI (2 * e1 + s1))) (upd fbe2 (2 * e1 + s1) (-1)) (by first | omega | (simp only [] at *; omega)) (by omega) ((zlink_a hFE2 hLE2 hBE2 h0).1) ((zlink_a hFE2 hLE2 hBE2 h0).2.1) ((zlink_a hFE2 hLE2 hBE2 h0).2.2) _ _ _ (B.sub [3, 4, 0, 1, 2] rfl (rfl)) (lv_sub hl [3, 4, 0] (rfl))
              exact loop42 (2 - 0 + 1) 0 ffe1 fle1 fbe1 (Nat.lt_succ_self _) (by omega) (hFE1) (hLE1) (hBE1) _ _ _ (B.sub [0, 1, 2, 3, 4] rfl (rfl)) (lv_sub hl [1, 2, 0] (rfl))
        exact loop32 (ed - 0 + 1) 0 ffe0 fle0 fbe (Nat.lt_succ_self _) (by omega) (fun u hu => by rw [(hz u (by omega)).1]; exact zFE_0 _ _) (fun u hu => by rw [(hz u (by omega)).2]; exact zLE_0 _ _) (fun x hx => absurd hx (by omega)) _ _ _ (B.sub [0, 1, 2, 3, 4] rfl (rfl)) (lv_sub hl [1, 0] (rfl))
      · refine lv_aload_n F.1 F.2.1 dX8_link_10 rfl (lv_at hl 0 rfl) ?_
        refine z_get F B 0 rfl (ci := 10) (C := RX8) (T := TX8) (N := 37) rfl iX8_link_X8 25 (by decide) fX8_link_50 rfl dX8_link_11 ?_
        refine lv_iload_n F.1 F.2.1 dX8_link_14 rfl (lv_at hl 1 rfl) ?_
        refine lv_iconst (v := (-1)) F.1 F.2.1 dX8_link_15 (by decide) ?_
        refine z_iast F B 3 0 rfl rfl (j := u) (by omega) (by omega) dX8_link_16 (fun H locs B => ?_)
        have B : zB D (zT cI cZ cG cJ) A s.heap s [(mm, .inr (10, zmo (nI th) (nI q) (nI g) (nI t) (nI r) (nI mb) (nI nc) (nI nl) (nI pv) (nI va) (nI n3) (nI ve) (nI ed) (nI se) (nI ci) (nI mr) (nI mt) (nI ld) A8)), (A8 8, .inl (cI, 1900, .inl f3)), (A8 9, .inl (cI, 7600, .inl fbe)), (A8 10, .inl (cI, 2200, .inl (upd ffe0 u (-1)))), (A8 11, .inl (cI, 2200, .inl fle0))] _ _ := B
        refine lv_aload_n F.1 F.2.1 dX8_link_17 rfl (lv_at hl 0 rfl) ?_
        refine z_get F B 0 rfl (ci := 10) (C := RX8) (T := TX8) (N := 37) rfl iX8_link_X8 26 (by decide) fX8_link_53 rfl dX8_link_18 ?_
        refine lv_iload_n F.1 F.2.1 dX8_link_21 rfl (lv_at hl 1 rfl) ?_
        refine lv_iconst (v := (-1)) F.1 F.2.1 dX8_link_22 (by decide) ?_
        refine z_iast F B 4 0 rfl rfl (j := u) (by omega) (by omega) dX8_link_23 (fun H locs B => ?_)
        have B : zB D (zT cI cZ cG cJ) A s.heap s [(mm, .inr (10, zmo (nI th) (nI q) (nI g) (nI t) (nI r) (nI mb) (nI nc) (nI nl) (nI pv) (nI va) (nI n3) (nI ve) (nI ed) (nI se) (nI ci) (nI mr) (nI mt) (nI ld) A8)), (A8 8, .inl (cI, 1900, .inl f3)), (A8 9, .inl (cI, 7600, .inl fbe)), (A8 10, .inl (cI, 2200, .inl (upd ffe0 u (-1)))), (A8 11, .inl (cI, 2200, .inl (upd fle0 u (-1))))] _ _ := B
        refine lv_iinc (v := (nI (u + 1))) (lv' := [(1, .int (nI (u + 1))), (0, .ref mm)]) F.1 F.2.1 dX8_link_24 hl (k := 1) rfl (by rw [show Int32.ofInt 1 = nI 1 from rfl, nI_add]) (by decide) rfl (fun ls hl => ?_)
        refine lv_goto (tgt := 2) F.1 F.2.1 dX8_link_27 (by decide) ?_
        exact ih2 (u + 1) (upd ffe0 u (-1)) (upd fle0 u (-1)) (by first | omega | (simp only [] at *; omega)) (by omega) (fun x hx => by by_cases e : x = u; subst e; exact ⟨pk_us, pk_us⟩; rw [pk_un e, pk_un e]; exact hz x (by omega)) _ _ _ (B.sub [0, 1, 2, 3, 4] rfl (rfl)) (lv_sub hl [1, 0] (rfl))
  exact loop2 (ve - 0 + 1) 0 ffe fle (Nat.lt_succ_self _) (by omega) (fun x hx => absurd hx (Nat.not_lt_zero _)) _ _ _ (B.sub [0, 1, 2, 3, 4] rfl (rfl)) (lv_sub hl [1, 0] (rfl))
theorem iX8_build_X8 : ∀ w ∈ u_ws RX8 TX8 37, w ∈ wsX8_build := fun w h => List.mem_cons_of_mem _ (List.mem_append_right _ h)
theorem fX8_build_79 : Cond.fieldLink RX8 79 "TourChainModel" "thrown" "I" ∈ wsX8_build := by decide +kernel
theorem fX8_build_116 : Cond.fieldLink RX8 116 "TourChainModel" "clauses" "I" ∈ wsX8_build := by decide +kernel
theorem fX8_build_113 : Cond.fieldLink RX8 113 "TourChainModel" "literals" "I" ∈ wsX8_build := by decide +kernel
theorem fX8_build_152 : Cond.fieldLink RX8 152 "TourChainModel" "threes" "I" ∈ wsX8_build := by decide +kernel
theorem yX8_build_X8_rows : yX8_rows.cls = RX8 ∧ yX8_rows.cls ≠ "java/lang/invoke/MethodHandle" ∧ yX8_rows.cls ≠ "java/lang/invoke/VarHandle" ∧ (parseMethodDescriptor yX8_rows.desc).map (fun d => d.parameters.length) = some 0 := by decide +kernel
theorem yX8_build_X8_steps : yX8_steps.cls = RX8 ∧ yX8_steps.cls ≠ "java/lang/invoke/MethodHandle" ∧ yX8_steps.cls ≠ "java/lang/invoke/VarHandle" ∧ (parseMethodDescriptor yX8_steps.desc).map (fun d => d.parameters.length) = some 0 := by decide +kernel
theorem fX8_build_16 : Cond.fieldLink RX8 16 "TourChainModel" "bound" "I" ∈ wsX8_build := by decide +kernel
theorem yX8_build_X8_k : yX8_k.cls = RX8 ∧ yX8_k.cls ≠ "java/lang/invoke/MethodHandle" ∧ yX8_k.cls ≠ "java/lang/invoke/VarHandle" ∧ (parseMethodDescriptor yX8_k.desc).map (fun d => d.parameters.length) = some 2 := by decide +kernel
theorem fX8_build_176 : Cond.fieldLink RX8 176 "TourChainModel" "variables" "I" ∈ wsX8_build := by decide +kernel
theorem fX8_build_158 : Cond.fieldLink RX8 158 "TourChainModel" "all" "I" ∈ wsX8_build := by decide +kernel
theorem fX8_build_161 : Cond.fieldLink RX8 161 "TourChainModel" "vertices" "I" ∈ wsX8_build := by decide +kernel
theorem fX8_build_164 : Cond.fieldLink RX8 164 "TourChainModel" "edges" "I" ∈ wsX8_build := by decide +kernel
theorem fX8_build_182 : Cond.fieldLink RX8 182 "TourChainModel" "selectors" "I" ∈ wsX8_build := by decide +kernel
theorem fX8_build_185 : Cond.fieldLink RX8 185 "TourChainModel" "cities" "I" ∈ wsX8_build := by decide +kernel
theorem yX8_build_X8_link : yX8_link.cls = RX8 ∧ yX8_link.cls ≠ "java/lang/invoke/MethodHandle" ∧ yX8_link.cls ≠ "java/lang/invoke/VarHandle" ∧ (parseMethodDescriptor yX8_link.desc).map (fun d => d.parameters.length) = some 0 := by decide +kernel
theorem yX8_build_X8_unbuild : yX8_unbuild.cls = RX8 ∧ yX8_unbuild.cls ≠ "java/lang/invoke/MethodHandle" ∧ yX8_unbuild.cls ≠ "java/lang/invoke/VarHandle" ∧ (parseMethodDescriptor yX8_unbuild.desc).map (fun d => d.parameters.length) = some 0 := by decide +kernel
theorem fX8_build_82 : Cond.fieldLink RX8 82 "TourChainModel" "built" "Z" ∈ wsX8_build := by decide +kernel
theorem fX8_build_38 : Cond.fieldLink RX8 38 "TourChainModel" "from" "[I" ∈ wsX8_build := by decide +kernel
theorem yX8_build_X8_split : yX8_split.cls = RX8 ∧ yX8_split.cls ≠ "java/lang/invoke/MethodHandle" ∧ yX8_split.cls ≠ "java/lang/invoke/VarHandle" ∧ (parseMethodDescriptor yX8_split.desc).map (fun d => d.parameters.length) = some 2 := by decide +kernel
set_option maxHeartbeats 4000000 in
set_option maxRecDepth 100000 in
theorem kX8_build (l : Launch) (D : va_G) (cI cZ cG cJ : ClassId) (mm : Nat) (th : Nat) (q : Nat) (g : Nat) (t : Nat) (r : Nat) (mb : Nat) (nc : Nat) (nl : Nat) (pv : Nat) (va : Nat) (n3 : Nat) (ve : Nat) (ed : Nat) (se : Nat) (ci : Nat) (mr : Nat) (mt : Nat) (ld : Nat) (A8 : Nat → Nat) (fl : Nat → Int32) (ft : Nat → Int32) (f3 : Nat → Int32) (fbe : Nat → Int32) (ffe : Nat → Int32) (fle : Nat → Int32) (ff : Nat → Int32) (fr : Nat → Int32) (fto : Nat → Int32) (fw : Nat → Int32) (fm : Nat → Int32) (rl : Nat → Nat → Nat) (fp : Nat → Int32) (tp : Nat → Nat) (Cs : List (List Nat)) (vv : Nat) (nn : Nat) (ht : t ≤ 3) (hg : g ≤ 3) (hq : q ≤ 3) (hr8 : r ≤ 8) (hq1 : 1 ≤ q) (hft0 : ft 0 = nI 0) (hCs : zallC t g q r (zfh t g) (zfs t g) (zfk t g q) rl tp = Cs) (hB : zBd Cs) (hvv : zthV (zpv t g q r) Cs = vv) (hnn : (zthL (zpv t g q r) Cs).length = 3 * nn) (hbt : 3 * nn ≤ 1900) (hne : ∀ j, j < Cs.length → 1 ≤ zlen Cs j) (hmx : ∀ j, j < Cs.length → zlen Cs j ≤ 1000) (hv : vv ≤ 1000) (hve2 : 2 * vv + 3 * nn ≤ 2200) (hed2 : 2 * (vv + 6 * nn) ≤ 7600) (hL : ∀ i, i < 3 * nn → (zthL (zpv t g q r) Cs).getD i 0 < 2 * vv) (htp : ∀ i, i ≤ t → fp i = nI (tp i)) (hrb4 : ∀ k, k < r → rl 0 k ≤ 3 ∧ rl 1 k ≤ 3 ∧ rl 2 k ≤ 3 ∧ rl 3 k ≤ 3) (hff : ∀ i, i < r → ff i = nI (rl 0 i)) (hfr : ∀ i, i < r → fr i = nI (rl 1 i)) (hfto : ∀ i, i < r → fto i = nI (rl 2 i)) (hfw : ∀ i, i < r → fw i = nI (rl 3 i)) (hfm : ∀ i, i < r → fm i = nI (rl 4 i) - nI 1 ∧ rl 4 i ≤ 2) : zC l yX8_build wsX8_build 6 136 0 0 D (zT cI cZ cG cJ) [.ref mm] [(mm, .inr (10, zmo (nI th) (nI q) (nI g) (nI t) (nI r) (nI mb) (nI nc) (nI nl) (nI pv) (nI va) (nI n3) (nI ve) (nI ed) (nI se) (nI ci) (nI mr) (nI mt) (nI ld) A8)), (A8 7, .inl (cI, 2400, .inl fl)), (A8 6, .inl (cI, 600, .inl ft)), (A8 8, .inl (cI, 1900, .inl f3)), (A8 9, .inl (cI, 7600, .inl fbe)), (A8 10, .inl (cI, 2200, .inl ffe)), (A8 11, .inl (cI, 2200, .inl fle)), (A8 5, .inl (cI, 4, .inl fp)), (A8 0, .inl (cI, 8, .inl ff)), (A8 1, .inl (cI, 8, .inl fr)), (A8 2, .inl (cI, 8, .inl fto)), (A8 3, .inl (cI, 8, .inl fw)), (A8 4, .inl (cI, 8, .inl fm))] (fun (ov : Option Value) (ow : va_W) => ∃ fl' : Nat → Int32, ∃ ft' : Nat → Int32, ∃ f3' : Nat → Int32, ∃ ffe' : Nat → Int32, ∃ fle' : Nat → Int32, ∃ fbe' : Nat → Int32, ov = some (.int (nI (12 * (vv + 6 * nn) + (vv + 2 * nn)))) ∧ ow = [(mm, .inr (10, zmo (nI 0) (nI q) (nI g) (nI t) (nI r) (nI 1) (nI Cs.length) (nI Cs.flatten.length) (nI (zpv t g q r)) (nI vv) (nI nn) (nI (2 * vv + 3 * nn)) (nI (vv + 6 * nn)) (nI (vv + 2 * nn)) (nI (12 * (vv + 6 * nn) + (vv + 2 * nn))) (nI 0) (nI 0) (nI ld) A8)), (A8 7, .inl (cI, 2400, .inl fl')), (A8 6, .inl (cI, 600, .inl ft')), (A8 8, .inl (cI, 1900, .inl f3')), (A8 9, .inl (cI, 7600, .inl fbe')), (A8 10, .inl (cI, 2200, .inl ffe')), (A8 11, .inl (cI, 2200, .inl fle')), (A8 5, .inl (cI, 4, .inl fp)), (A8 0, .inl (cI, 8, .inl ff)), (A8 1, .inl (cI, 8, .inl fr)), (A8 2, .inl (cI, 8, .inl fto)), (A8 3, .inl (cI, 8, .inl fw)), (A8 4, .inl (cI, 8, .inl fm))] ∧ (zF fl' Cs.flatten.length ft' (Cs.length + 1) Cs) ∧ (zR f3' (3 * nn) (zthL (zpv t g q r) Cs)) ∧ (∀ u, u < 2 * vv + 3 * nn → zFE (zva vv (zthL (zpv t g q r) Cs)) (2 * (vv + 6 * nn)) u (ffe' u)) ∧ (∀ u, u < 2 * vv + 3 * nn → zLE (zva vv (zthL (zpv t g q r) Cs)) (2 * (vv + 6 * nn)) u (fle' u)) ∧ (∀ x, x < 2 * (vv + 6 * nn) → zBH (zva vv (zthL (zpv t g q r) Cs)) (2 * (vv + 6 * nn)) x (fbe' x))) := by
  refine zC.of (cc := cX8_build) (maxL := 2) (ret := (some .int)) (by decide) rfl (Nat.le_of_ble_eq_true rfl) ?_
  intro p e s m below meth c A ls F hr hlk hnm B hl
  have hl : lv_has ls 2 [(0, .ref mm)] := hl
  refine lv_aload_n F.1 F.2.1 dX8_build_0 rfl (lv_at hl 0 rfl) ?_
  refine lv_iconst (v := (nI 0)) F.1 F.2.1 dX8_build_1 (by decide) ?_
  refine z_put F B 0 rfl (ci := 10) (C := RX8) (T := TX8) (N := 37) rfl iX8_build_X8 tyX8 tyX8_ok nmX8 0 (by decide) fX8_build_79 rfl (v := .int (nI 0)) rfl rfl (Nat.le_of_ble_eq_true rfl) dX8_build_2 (fun H locs B => ?_)
  have B : zB D (zT cI cZ cG cJ) A s.heap s [(mm, .inr (10, zmo (nI 0) (nI q) (nI g) (nI t) (nI r) (nI mb) (nI nc) (nI nl) (nI pv) (nI va) (nI n3) (nI ve) (nI ed) (nI se) (nI ci) (nI mr) (nI mt) (nI ld) A8)), (A8 7, .inl (cI, 2400, .inl fl)), (A8 6, .inl (cI, 600, .inl ft)), (A8 8, .inl (cI, 1900, .inl f3)), (A8 9, .inl (cI, 7600, .inl fbe)), (A8 10, .inl (cI, 2200, .inl ffe)), (A8 11, .inl (cI, 2200, .inl fle)), (A8 5, .inl (cI, 4, .inl fp)), (A8 0, .inl (cI, 8, .inl ff)), (A8 1, .inl (cI, 8, .inl fr)), (A8 2, .inl (cI, 8, .inl fto)), (A8 3, .inl (cI, 8, .inl fw)), (A8 4, .inl (cI, 8, .inl fm))] _ _ := B
  refine lv_aload_n F.1 F.2.1 dX8_build_5 rfl (lv_at hl 0 rfl) ?_
  refine lv_iconst (v := (nI 0)) F.1 F.2.1 dX8_build_6 (by decide) ?_
  refine z_put F B 0 rfl (ci := 10) (C := RX8) (T := TX8) (N := 37) rfl iX8_build_X8 tyX8 tyX8_ok nmX8 12 (by decide) fX8_build_116 rfl (v := .int (nI 0)) rfl rfl (Nat.le_of_ble_eq_true rfl) dX8_build_7 (fun H locs B => ?_)
  have B : zB D (zT cI cZ cG cJ) A s.heap s [(mm, .inr (10, zmo (nI 0) (nI q) (nI g) (nI t) (nI r) (nI mb) (nI 0) (nI nl) (nI pv) (nI va) (nI n3) (nI ve) (nI ed) (nI se) (nI ci) (nI mr) (nI mt) (nI ld) A8)), (A8 7, .inl (cI, 2400, .inl fl)), (A8 6, .inl (cI, 600, .inl ft)), (A8 8, .inl (cI, 1900, .inl f3)), (A8 9, .inl (cI, 7600, .inl fbe)), (A8 10, .inl (cI, 2200, .inl ffe)), (A8 11, .inl (cI, 2200, .inl fle)), (A8 5, .inl (cI, 4, .inl fp)), (A8 0, .inl (cI, 8, .inl ff)), (A8 1, .inl (cI, 8, .inl fr)), (A8 2, .inl (cI, 8, .inl fto)), (A8 3, .inl (cI, 8, .inl fw)), (A8 4, .inl (cI, 8, .inl fm))] _ _ := B
  refine lv_aload_n F.1 F.2.1 dX8_build_10 rfl (lv_at hl 0 rfl) ?_
  refine lv_iconst (v := (nI 0)) F.1 F.2.1 dX8_build_11 (by decide) ?_
  refine z_put F B 0 rfl (ci := 10) (C := RX8) (T := TX8) (N := 37) rfl iX8_build_X8 tyX8 tyX8_ok nmX8 13 (by decide) fX8_build_113 rfl (v := .int (nI 0)) rfl rfl (Nat.le_of_ble_eq_true rfl) dX8_build_12 (fun H locs B => ?_)
  have B : zB D (zT cI cZ cG cJ) A s.heap s [(mm, .inr (10, zmo (nI 0) (nI q) (nI g) (nI t) (nI r) (nI mb) (nI 0) (nI 0) (nI pv) (nI va) (nI n3) (nI ve) (nI ed) (nI se) (nI ci) (nI mr) (nI mt) (nI ld) A8)), (A8 7, .inl (cI, 2400, .inl fl)), (A8 6, .inl (cI, 600, .inl ft)), (A8 8, .inl (cI, 1900, .inl f3)), (A8 9, .inl (cI, 7600, .inl fbe)), (A8 10, .inl (cI, 2200, .inl ffe)), (A8 11, .inl (cI, 2200, .inl fle)), (A8 5, .inl (cI, 4, .inl fp)), (A8 0, .inl (cI, 8, .inl ff)), (A8 1, .inl (cI, 8, .inl fr)), (A8 2, .inl (cI, 8, .inl fto)), (A8 3, .inl (cI, 8, .inl fw)), (A8 4, .inl (cI, 8, .inl fm))] _ _ := B
  refine lv_aload_n F.1 F.2.1 dX8_build_15 rfl (lv_at hl 0 rfl) ?_
  refine lv_iconst (v := (nI 0)) F.1 F.2.1 dX8_build_16 (by decide) ?_
  refine z_put F B 0 rfl (ci := 10) (C := RX8) (T := TX8) (N := 37) rfl iX8_build_X8 tyX8 tyX8_ok nmX8 16 (by decide) fX8_build_152 rfl (v := .int (nI 0)) rfl rfl (Nat.le_of_ble_eq_true rfl) dX8_build_17 (fun H locs B => ?_)
  have B : zB D (zT cI cZ cG cJ) A s.heap s [(mm, .inr (10, zmo (nI 0) (nI q) (nI g) (nI t) (nI r) (nI mb) (nI 0) (nI 0) (nI pv) (nI va) (nI 0) (nI ve) (nI ed) (nI se) (nI ci) (nI mr) (nI mt) (nI ld) A8)), (A8 7, .inl (cI, 2400, .inl fl)), (A8 6, .inl (cI, 600, .inl ft)), (A8 8, .inl (cI, 1900, .inl f3)), (A8 9, .inl (cI, 7600, .inl fbe)), (A8 10, .inl (cI, 2200, .inl ffe)), (A8 11, .inl (cI, 2200, .inl fle)), (A8 5, .inl (cI, 4, .inl fp)), (A8 0, .inl (cI, 8, .inl ff)), (A8 1, .inl (cI, 8, .inl fr)), (A8 2, .inl (cI, 8, .inl fto)), (A8 3, .inl (cI, 8, .inl fw)), (A8 4, .inl (cI, 8, .inl fm))] _ _ := B
  refine lv_aload_n F.1 F.2.1 dX8_build_20 rfl (lv_at hl 0 rfl) ?_
  refine z_callV (wr := [(A8 8, .inl (cI, 1900, .inl f3)), (A8 9, .inl (cI, 7600, .inl fbe)), (A8 10, .inl (cI, 2200, .inl ffe)), (A8 11, .inl (cI, 2200, .inl fle)), (A8 0, .inl (cI, 8, .inl ff)), (A8 1, .inl (cI, 8, .inl fr)), (A8 2, .inl (cI, 8, .inl fto)), (A8 3, .inl (cI, 8, .inl fw)), (A8 4, .inl (cI, 8, .inl fm))]) (rest := []) (As := []) F B (kX8_rows l D cI cZ cG cJ mm 0 q g t r mb 0 0 pv va 0 ve ed se ci mr mt ld A8 fl ft ([]) fp tp (⟨zR_nil, ⟨rfl, fun i hi => by rw [show i = 0 by omega]; exact hft0⟩⟩) (zBd_pre hB (by rw [← hCs]; unfold zallC; rw [List.nil_append]; exact zpre_left (List.prefix_append _ _))) (by omega) (by omega) (by omega) (by omega) (htp)) hl.1 (C := RX8) (T := TX8) (N := 37) (ci := 10) (q0 := 0) gX8_build_X8_rows rfl 0 yX8_build_X8_rows rfl rfl rfl [0, 1, 2, 7] [3, 4, 5, 6, 8, 9, 10, 11, 12] rfl rfl rfl rfl (by decide) (Nat.le_of_ble_eq_true rfl) (Nat.le_of_ble_eq_true rfl) (Nat.le_of_ble_eq_true rfl) rfl dX8_build_21 (show 0 + 0 ≤ 0 by omega) (show 0 + 0 ≤ 0 by omega) (fun vv ww H locs hRR B => ?_)
  obtain ⟨nl'_1, nc'_2, fl'_3, ft'_4, rfl, rfl, hF1⟩ := hRR
  have B : zB D (zT cI cZ cG cJ) A s.heap s [(A8 8, .inl (cI, 1900, .inl f3)), (A8 9, .inl (cI, 7600, .inl fbe)), (A8 10, .inl (cI, 2200, .inl ffe)), (A8 11, .inl (cI, 2200, .inl fle)), (A8 0, .inl (cI, 8, .inl ff)), (A8 1, .inl (cI, 8, .inl fr)), (A8 2, .inl (cI, 8, .inl fto)), (A8 3, .inl (cI, 8, .inl fw)), (A8 4, .inl (cI, 8, .inl fm)), (mm, .inr (10, zmo (nI 0) (nI q) (nI g) (nI t) (nI r) (nI mb) (nI nc'_2) (nI nl'_1) (nI pv) (nI va) (nI 0) (nI ve) (nI ed) (nI se) (nI ci) (nI mr) (nI mt) (nI ld) A8)), (A8 7, .inl (cI, 2400, .inl fl'_3)), (A8 6, .inl (cI, 600, .inl ft'_4)), (A8 5, .inl (cI, 4, .inl fp))] _ _ := B
  refine W.eq (g2 := F0 m 24 ls []) rfl ?_
  refine lv_aload_n F.1 F.2.1 dX8_build_24 rfl (lv_at hl 0 rfl) ?_
  refine z_callV (wr := [(A8 8, .inl (cI, 1900, .inl f3)), (A8 9, .inl (cI, 7600, .inl fbe)), (A8 10, .inl (cI, 2200, .inl ffe)), (A8 11, .inl (cI, 2200, .inl fle)), (A8 5, .inl (cI, 4, .inl fp))]) (rest := []) (As := []) F B (kX8_steps l D cI cZ cG cJ mm 0 q g t r mb nc'_2 nl'_1 pv va 0 ve ed se ci mr mt ld A8 fl'_3 ft'_4 ([] ++ (zrowsC t g q (zfh t g) (zfs t g) ++ zendsC t g q (zfh t g) (zfs t g) tp)) ff fr fto fw fm rl (hF1) (by rw [List.nil_append, List.append_assoc]; have q9 := hB; rw [← hCs] at q9; exact q9) (by omega) (by omega) (by omega) (by omega) (by omega) (hrb4) (hff) (hfr) (hfto) (hfw) (hfm)) hl.1 (C := RX8) (T := TX8) (N := 37) (ci := 10) (q0 := 9) gX8_build_X8_steps rfl 0 yX8_build_X8_steps rfl rfl rfl [9, 10, 11, 4, 5, 6, 7, 8] [0, 1, 2, 3, 12] rfl rfl rfl rfl (by decide) (Nat.le_of_ble_eq_true rfl) (Nat.le_of_ble_eq_true rfl) (Nat.le_of_ble_eq_true rfl) rfl dX8_build_25 (show 0 + 0 ≤ 0 by omega) (show 0 + 0 ≤ 0 by omega) (fun vv ww H locs hRR B => ?_)
  obtain ⟨nl'_5, nc'_6, fl'_7, ft'_8, rfl, rfl, hF2⟩ := hRR
  have B : zB D (zT cI cZ cG cJ) A s.heap s [(A8 8, .inl (cI, 1900, .inl f3)), (A8 9, .inl (cI, 7600, .inl fbe)), (A8 10, .inl (cI, 2200, .inl ffe)), (A8 11, .inl (cI, 2200, .inl fle)), (A8 5, .inl (cI, 4, .inl fp)), (mm, .inr (10, zmo (nI 0) (nI q) (nI g) (nI t) (nI r) (nI mb) (nI nc'_6) (nI nl'_5) (nI pv) (nI va) (nI 0) (nI ve) (nI ed) (nI se) (nI ci) (nI mr) (nI mt) (nI ld) A8)), (A8 7, .inl (cI, 2400, .inl fl'_7)), (A8 6, .inl (cI, 600, .inl ft'_8)), (A8 0, .inl (cI, 8, .inl ff)), (A8 1, .inl (cI, 8, .inl fr)), (A8 2, .inl (cI, 8, .inl fto)), (A8 3, .inl (cI, 8, .inl fw)), (A8 4, .inl (cI, 8, .inl fm))] _ _ := B
  refine W.eq (g2 := F0 m 28 ls []) rfl ?_
  have hFa : zF fl'_7 nl'_5 ft'_8 (nc'_6 + 1) Cs := by rw [← hCs]; have q9 := hF2; rw [List.nil_append, List.append_assoc] at q9; exact q9
  obtain ⟨hz1, hz2⟩ := zF_len hFa
  have hz2 : nc'_6 = Cs.length := by omega
  subst hz1
  subst hz2
  have hB1 := hB.1; have hB2 := hB.2
  have B : zB D (zT cI cZ cG cJ) A s.heap s [(A8 8, .inl (cI, 1900, .inl f3)), (A8 9, .inl (cI, 7600, .inl fbe)), (A8 10, .inl (cI, 2200, .inl ffe)), (A8 11, .inl (cI, 2200, .inl fle)), (A8 5, .inl (cI, 4, .inl fp)), (mm, .inr (10, zmo (nI 0) (nI q) (nI g) (nI t) (nI r) (nI mb) (nI Cs.length) (nI Cs.flatten.length) (nI pv) (nI va) (nI 0) (nI ve) (nI ed) (nI se) (nI ci) (nI mr) (nI mt) (nI ld) A8)), (A8 7, .inl (cI, 2400, .inl fl'_7)), (A8 6, .inl (cI, 600, .inl ft'_8)), (A8 0, .inl (cI, 8, .inl ff)), (A8 1, .inl (cI, 8, .inl fr)), (A8 2, .inl (cI, 8, .inl fto)), (A8 3, .inl (cI, 8, .inl fw)), (A8 4, .inl (cI, 8, .inl fm))] _ _ := B
  refine lv_aload_n F.1 F.2.1 dX8_build_28 rfl (lv_at hl 0 rfl) ?_
  refine lv_aload_n F.1 F.2.1 dX8_build_29 rfl (lv_at hl 0 rfl) ?_
  refine lv_aload_n F.1 F.2.1 dX8_build_30 rfl (lv_at hl 0 rfl) ?_
  refine z_get F B 5 rfl (ci := 10) (C := RX8) (T := TX8) (N := 37) rfl iX8_build_X8 3 (by decide) fX8_build_16 rfl dX8_build_31 ?_
  refine lv_iconst (v := (nI 0)) F.1 F.2.1 dX8_build_34 (by decide) ?_
  refine z_callV (wr := [(A8 8, .inl (cI, 1900, .inl f3)), (A8 9, .inl (cI, 7600, .inl fbe)), (A8 10, .inl (cI, 2200, .inl ffe)), (A8 11, .inl (cI, 2200, .inl fle)), (A8 5, .inl (cI, 4, .inl fp)), (A8 7, .inl (cI, 2400, .inl fl'_7)), (A8 6, .inl (cI, 600, .inl ft'_8)), (A8 0, .inl (cI, 8, .inl ff)), (A8 1, .inl (cI, 8, .inl fr)), (A8 2, .inl (cI, 8, .inl fto)), (A8 3, .inl (cI, 8, .inl fw)), (A8 4, .inl (cI, 8, .inl fm))]) (rest := [.ref mm]) (As := [.int (nI t), .int (nI 0)]) F B (kX8_k l D cI cZ cG cJ mm 0 q g t r mb Cs.length Cs.flatten.length pv va 0 ve ed se ci mr mt ld A8 t 0) hl.1 (C := RX8) (T := TX8) (N := 37) (ci := 10) (q0 := 5) gX8_build_X8_k rfl 2 yX8_build_X8_k rfl rfl rfl [5] [0, 1, 2, 3, 4, 6, 7, 8, 9, 10, 11, 12] rfl rfl rfl rfl (by decide) (Nat.le_of_ble_eq_true rfl) (Nat.le_of_ble_eq_true rfl) (Nat.le_of_ble_eq_true rfl) rfl dX8_build_35 (show 0 + 0 ≤ 0 by omega) (show 0 + 0 ≤ 0 by omega) (fun vv ww H locs hRR B => ?_)
  obtain ⟨rfl, rfl⟩ := hRR
  have B : zB D (zT cI cZ cG cJ) A s.heap s [(A8 8, .inl (cI, 1900, .inl f3)), (A8 9, .inl (cI, 7600, .inl fbe)), (A8 10, .inl (cI, 2200, .inl ffe)), (A8 11, .inl (cI, 2200, .inl fle)), (A8 5, .inl (cI, 4, .inl fp)), (A8 7, .inl (cI, 2400, .inl fl'_7)), (A8 6, .inl (cI, 600, .inl ft'_8)), (A8 0, .inl (cI, 8, .inl ff)), (A8 1, .inl (cI, 8, .inl fr)), (A8 2, .inl (cI, 8, .inl fto)), (A8 3, .inl (cI, 8, .inl fw)), (A8 4, .inl (cI, 8, .inl fm)), (mm, .inr (10, zmo (nI 0) (nI q) (nI g) (nI t) (nI r) (nI mb) (nI Cs.length) (nI Cs.flatten.length) (nI pv) (nI va) (nI 0) (nI ve) (nI ed) (nI se) (nI ci) (nI mr) (nI mt) (nI ld) A8))] _ _ := B
  refine W.eq (g2 := F0 m 38 ls [.int (nI (zkv (zfk t g q) r t 0)), .ref mm]) rfl ?_
  refine z_put F B 12 rfl (ci := 10) (C := RX8) (T := TX8) (N := 37) rfl iX8_build_X8 tyX8 tyX8_ok nmX8 14 (by decide) fX8_build_176 rfl (v := .int (nI (zkv (zfk t g q) r t 0))) rfl rfl (Nat.le_of_ble_eq_true rfl) dX8_build_38 (fun H locs B => ?_)
  have B : zB D (zT cI cZ cG cJ) A s.heap s [(A8 8, .inl (cI, 1900, .inl f3)), (A8 9, .inl (cI, 7600, .inl fbe)), (A8 10, .inl (cI, 2200, .inl ffe)), (A8 11, .inl (cI, 2200, .inl fle)), (A8 5, .inl (cI, 4, .inl fp)), (A8 7, .inl (cI, 2400, .inl fl'_7)), (A8 6, .inl (cI, 600, .inl ft'_8)), (A8 0, .inl (cI, 8, .inl ff)), (A8 1, .inl (cI, 8, .inl fr)), (A8 2, .inl (cI, 8, .inl fto)), (A8 3, .inl (cI, 8, .inl fw)), (A8 4, .inl (cI, 8, .inl fm)), (mm, .inr (10, zmo (nI 0) (nI q) (nI g) (nI t) (nI r) (nI mb) (nI Cs.length) (nI Cs.flatten.length) (nI (zkv (zfk t g q) r t 0)) (nI va) (nI 0) (nI ve) (nI ed) (nI se) (nI ci) (nI mr) (nI mt) (nI ld) A8))] _ _ := B
  refine lv_aload_n F.1 F.2.1 dX8_build_41 rfl (lv_at hl 0 rfl) ?_
  refine lv_aload_n F.1 F.2.1 dX8_build_42 rfl (lv_at hl 0 rfl) ?_
  refine z_get F B 12 rfl (ci := 10) (C := RX8) (T := TX8) (N := 37) rfl iX8_build_X8 14 (by decide) fX8_build_176 rfl dX8_build_43 ?_
  refine z_put F B 12 rfl (ci := 10) (C := RX8) (T := TX8) (N := 37) rfl iX8_build_X8 tyX8 tyX8_ok nmX8 15 (by decide) fX8_build_158 rfl (v := .int (nI (zkv (zfk t g q) r t 0))) rfl rfl (Nat.le_of_ble_eq_true rfl) dX8_build_46 (fun H locs B => ?_)
  have B : zB D (zT cI cZ cG cJ) A s.heap s [(A8 8, .inl (cI, 1900, .inl f3)), (A8 9, .inl (cI, 7600, .inl fbe)), (A8 10, .inl (cI, 2200, .inl ffe)), (A8 11, .inl (cI, 2200, .inl fle)), (A8 5, .inl (cI, 4, .inl fp)), (A8 7, .inl (cI, 2400, .inl fl'_7)), (A8 6, .inl (cI, 600, .inl ft'_8)), (A8 0, .inl (cI, 8, .inl ff)), (A8 1, .inl (cI, 8, .inl fr)), (A8 2, .inl (cI, 8, .inl fto)), (A8 3, .inl (cI, 8, .inl fw)), (A8 4, .inl (cI, 8, .inl fm)), (mm, .inr (10, zmo (nI 0) (nI q) (nI g) (nI t) (nI r) (nI mb) (nI Cs.length) (nI Cs.flatten.length) (nI (zkv (zfk t g q) r t 0)) (nI (zkv (zfk t g q) r t 0)) (nI 0) (nI ve) (nI ed) (nI se) (nI ci) (nI mr) (nI mt) (nI ld) A8))] _ _ := B
  refine lv_iconst (v := (nI 0)) F.1 F.2.1 dX8_build_49 (by decide) ?_
  refine lv_istore_n (lv' := [(1, .int (nI 0)), (0, .ref mm)]) F.1 F.2.1 dX8_build_50 rfl hl (by decide) rfl (fun ls hl => ?_)
  have loop51 : ∀ (fuel : Nat) (j : Nat) (n31 : Nat) (f31 : Nat → Int32) (fl1 : Nat → Int32) (ft1 : Nat → Int32), Cs.length - j < fuel → (j ≤ Cs.length) → (zR f31 (3 * n31) (zthL (zpv t g q r) (Cs.take j))) → (zF fl1 Cs.flatten.length ft1 (Cs.length + 1) Cs) → ∀ (H : Heap) (locs : List Loc) (ls : Array Slot), zB D (zT cI cZ cG cJ) A s.heap s [(mm, .inr (10, zmo (nI 0) (nI q) (nI g) (nI t) (nI r) (nI mb) (nI Cs.length) (nI Cs.flatten.length) (nI (zpv t g q r)) (nI (zthV (zpv t g q r) (Cs.take j))) (nI n31) (nI ve) (nI ed) (nI se) (nI ci) (nI mr) (nI mt) (nI ld) A8)), (A8 7, .inl (cI, 2400, .inl fl1)), (A8 6, .inl (cI, 600, .inl ft1)), (A8 8, .inl (cI, 1900, .inl f31)), (A8 9, .inl (cI, 7600, .inl fbe)), (A8 10, .inl (cI, 2200, .inl ffe)), (A8 11, .inl (cI, 2200, .inl fle)), (A8 5, .inl (cI, 4, .inl fp)), (A8 0, .inl (cI, 8, .inl ff)), (A8 1, .inl (cI, 8, .inl fr)), (A8 2, .inl (cI, 8, .inl fto)), (A8 3, .inl (cI, 8, .inl fw)), (A8 4, .inl (cI, 8, .inl fm))] H locs → lv_has ls 2 [(0, .ref mm), (1, .int (nI j))] → W p l e { frames := 6, cells := 0, slots := 0, locals := 136 } s m [.ref mm].toArray below meth c H locs 0 0 (zQ below [.ref mm].toArray s D (zT cI cZ cG cJ) A (fun (ov : Option Value) (ow : va_W) => ∃ fl' : Nat → Int32, ∃ ft' : Nat → Int32, ∃ f3' : Nat → Int32, ∃ ffe' : Nat → Int32, ∃ fle' : Nat → Int32, ∃ fbe' : Nat → Int32, ov = some (.int (nI (12 * (vv + 6 * nn) + (vv + 2 * nn)))) ∧ ow = [(mm, .inr (10, zmo (nI 0) (nI q) (nI g) (nI t) (nI r) (nI 1) (nI Cs.length) (nI Cs.flatten.length) (nI (zpv t g q r)) (nI vv) (nI nn) (nI (2 * vv + 3 * nn)) (nI (vv + 6 * nn)) (nI (vv + 2 * nn)) (nI (12 * (vv + 6 * nn) + (vv + 2 * nn))) (nI 0) (nI 0) (nI ld) A8)), (A8 7, .inl (cI, 2400, .inl fl')), (A8 6, .inl (cI, 600, .inl ft')), (A8 8, .inl (cI, 1900, .inl f3')), (A8 9, .inl (cI, 7600, .inl fbe')), (A8 10, .inl (cI, 2200, .inl ffe')), (A8 11, .inl (cI, 2200, .inl fle')), (A8 5, .inl (cI, 4, .inl fp)), (A8 0, .inl (cI, 8, .inl ff)), (A8 1, .inl (cI, 8, .inl fr)), (A8 2, .inl (cI, 8, .inl fto)), (A8 3, .inl (cI, 8, .inl fw)), (A8 4, .inl (cI, 8, .inl fm))] ∧ (zF fl' Cs.flatten.length ft' (Cs.length + 1) Cs) ∧ (zR f3' (3 * nn) (zthL (zpv t g q r) Cs)) ∧ (∀ u, u < 2 * vv + 3 * nn → zFE (zva vv (zthL (zpv t g q r) Cs)) (2 * (vv + 6 * nn)) u (ffe' u)) ∧ (∀ u, u < 2 * vv + 3 * nn → zLE (zva vv (zthL (zpv t g q r) Cs)) (2 * (vv + 6 * nn)) u (fle' u)) ∧ (∀ x, x < 2 * (vv + 6 * nn) → zBH (zva vv (zthL (zpv t g q r) Cs)) (2 * (vv + 6 * nn)) x (fbe' x))) 0 0) (F0 m 51 ls []) := by
    intro fuel
    induction fuel with
    | zero => intro j n31 f31 fl1 ft1 hmz; exact absurd hmz (Nat.not_lt_zero _)
    | succ fuel ih =>
      intro j n31 f31 fl1 ft1 hm hj hR1 hFb H locs ls B hl
      have ih51 := ih
      refine lv_iload_n F.1 F.2.1 dX8_build_51 rfl (lv_at hl 1 rfl) ?_
      refine lv_aload_n F.1 F.2.1 dX8_build_52 rfl (lv_at hl 0 rfl) ?_
      refine z_get F B 0 rfl (ci := 10) (C := RX8) (T := TX8) (N := 37) rfl iX8_build_X8 12 (by decide) fX8_build_116 rfl dX8_build_53 ?_
      refine z_icmp_ge (tgt := 90) F (by omega) (by omega) dX8_build_56 (by decide) (fun c56 => ?_) (fun c56 => ?_)
      · have hjn : j = Cs.length := by omega
        rw [hjn, List.take_length] at hR1
        rw [hjn, List.take_length, hvv] at B
        have h3n : n31 = nn := by have q9 := hR1.1; omega
        subst h3n
        refine lv_aload_n F.1 F.2.1 dX8_build_90 rfl (lv_at hl 0 rfl) ?_
        refine lv_iconst (v := (nI 2)) F.1 F.2.1 dX8_build_91 (by decide) ?_
        refine lv_aload_n F.1 F.2.1 dX8_build_92 rfl (lv_at hl 0 rfl) ?_
        refine z_get F B 0 rfl (ci := 10) (C := RX8) (T := TX8) (N := 37) rfl iX8_build_X8 15 (by decide) fX8_build_158 rfl dX8_build_93 ?_
        refine z_imul F dX8_build_96 ?_
        refine lv_iconst (v := (nI 3)) F.1 F.2.1 dX8_build_97 (by decide) ?_
        refine lv_aload_n F.1 F.2.1 dX8_build_98 rfl (lv_at hl 0 rfl) ?_
        refine z_get F B 0 rfl (ci := 10) (C := RX8) (T := TX8) (N := 37) rfl iX8_build_X8 16 (by decide) fX8_build_152 rfl dX8_build_99 ?_
        refine z_imul F dX8_build_102 ?_
        refine z_iadd F dX8_build_103 ?_
        refine z_put F B 0 rfl (ci := 10) (C := RX8) (T := TX8) (N := 37) rfl iX8_build_X8 tyX8 tyX8_ok nmX8 20 (by decide) fX8_build_161 rfl (v := .int (nI (2 * vv + (3 * n31)))) rfl rfl (Nat.le_of_ble_eq_true rfl) dX8_build_104 (fun H locs B => ?_)
        have B : zB D (zT cI cZ cG cJ) A s.heap s [(mm, .inr (10, zmo (nI 0) (nI q) (nI g) (nI t) (nI r) (nI mb) (nI Cs.length) (nI Cs.flatten.length) (nI (zpv t g q r)) (nI vv) (nI n31) (nI (2 * vv + (3 * n31))) (nI ed) (nI se) (nI ci) (nI mr) (nI mt) (nI ld) A8)), (A8 7, .inl (cI, 2400, .inl fl1)), (A8 6, .inl (cI, 600, .inl ft1)), (A8 8, .inl (cI, 1900, .inl f31)), (A8 9, .inl (cI, 7600, .inl fbe)), (A8 10, .inl (cI, 2200, .inl ffe)), (A8 11, .inl (cI, 2200, .inl fle)), (A8 5, .inl (cI, 4, .inl fp)), (A8 0, .inl (cI, 8, .inl ff)), (A8 1, .inl (cI, 8, .inl fr)), (A8 2, .inl (cI, 8, .inl fto)), (A8 3, .inl (cI, 8, .inl fw)), (A8 4, .inl (cI, 8, .inl fm))] _ _ := B
        refine lv_aload_n F.1 F.2.1 dX8_build_107 rfl (lv_at hl 0 rfl) ?_
        refine lv_aload_n F.1 F.2.1 dX8_build_108 rfl (lv_at hl 0 rfl) ?_
        refine z_get F B 0 rfl (ci := 10) (C := RX8) (T := TX8) (N := 37) rfl iX8_build_X8 15 (by decide) fX8_build_158 rfl dX8_build_109 ?_
        refine lv_bipush (v := (nI 6)) F.1 F.2.1 dX8_build_112 (by decide) ?_
        refine lv_aload_n F.1 F.2.1 dX8_build_114 rfl (lv_at hl 0 rfl) ?_
        refine z_get F B 0 rfl (ci := 10) (C := RX8) (T := TX8) (N := 37) rfl iX8_build_X8 16 (by decide) fX8_build_152 rfl dX8_build_115 ?_
        refine z_imul F dX8_build_118 ?_
        refine z_iadd F dX8_build_119 ?_
        refine z_put F B 0 rfl (ci := 10) (C := RX8) (T := TX8) (N := 37) rfl iX8_build_X8 tyX8 tyX8_ok nmX8 21 (by decide) fX8_build_164 rfl (v := .int (nI (vv + (6 * n31)))) rfl rfl (Nat.le_of_ble_eq_true rfl) dX8_build_120 (fun H locs B => ?_)
        have B : zB D (zT cI cZ cG cJ) A s.heap s [(mm, .inr (10, zmo (nI 0) (nI q) (nI g) (nI t) (nI r) (nI mb) (nI Cs.length) (nI Cs.flatten.length) (nI (zpv t g q r)) (nI vv) (nI n31) (nI (2 * vv + (3 * n31))) (nI (vv + (6 * n31))) (nI se) (nI ci) (nI mr) (nI mt) (nI ld) A8)), (A8 7, .inl (cI, 2400, .inl fl1)), (A8 6, .inl (cI, 600, .inl ft1)), (A8 8, .inl (cI, 1900, .inl f31)), (A8 9, .inl (cI, 7600, .inl fbe)), (A8 10, .inl (cI, 2200, .inl ffe)), (A8 11, .inl (cI, 2200, .inl fle)), (A8 5, .inl (cI, 4, .inl fp)), (A8 0, .inl (cI, 8, .inl ff)), (A8 1, .inl (cI, 8, .inl fr)), (A8 2, .inl (cI, 8, .inl fto)), (A8 3, .inl (cI, 8, .inl fw)), (A8 4, .inl (cI, 8, .inl fm))] _ _ := B
        refine lv_aload_n F.1 F.2.1 dX8_build_123 rfl (lv_at hl 0 rfl) ?_
        refine lv_aload_n F.1 F.2.1 dX8_build_124 rfl (lv_at hl 0 rfl) ?_
        refine z_get F B 0 rfl (ci := 10) (C := RX8) (T := TX8) (N := 37) rfl iX8_build_X8 15 (by decide) fX8_build_158 rfl dX8_build_125 ?_
        refine lv_iconst (v := (nI 2)) F.1 F.2.1 dX8_build_128 (by decide) ?_
        refine lv_aload_n F.1 F.2.1 dX8_build_129 rfl (lv_at hl 0 rfl) ?_
        refine z_get F B 0 rfl (ci := 10) (C := RX8) (T := TX8) (N := 37) rfl iX8_build_X8 16 (by decide) fX8_build_152 rfl dX8_build_130 ?_
        refine z_imul F dX8_build_133 ?_
        refine z_iadd F dX8_build_134 ?_
        refine z_put F B 0 rfl (ci := 10) (C := RX8) (T := TX8) (N := 37) rfl iX8_build_X8 tyX8 tyX8_ok nmX8 22 (by decide) fX8_build_182 rfl (v := .int (nI (vv + (2 * n31)))) rfl rfl (Nat.le_of_ble_eq_true rfl) dX8_build_135 (fun H locs B => ?_)
        have B : zB D (zT cI cZ cG cJ) A s.heap s [(mm, .inr (10, zmo (nI 0) (nI q) (nI g) (nI t) (nI r) (nI mb) (nI Cs.length) (nI Cs.flatten.length) (nI (zpv t g q r)) (nI vv) (nI n31) (nI (2 * vv + (3 * n31))) (nI (vv + (6 * n31))) (nI (vv + (2 * n31))) (nI ci) (nI mr) (nI mt) (nI ld) A8)), (A8 7, .inl (cI, 2400, .inl fl1)), (A8 6, .inl (cI, 600, .inl ft1)), (A8 8, .inl (cI, 1900, .inl f31)), (A8 9, .inl (cI, 7600, .inl fbe)), (A8 10, .inl (cI, 2200, .inl ffe)), (A8 11, .inl (cI, 2200, .inl fle)), (A8 5, .inl (cI, 4, .inl fp)), (A8 0, .inl (cI, 8, .inl ff)), (A8 1, .inl (cI, 8, .inl fr)), (A8 2, .inl (cI, 8, .inl fto)), (A8 3, .inl (cI, 8, .inl fw)), (A8 4, .inl (cI, 8, .inl fm))] _ _ := B
        refine lv_aload_n F.1 F.2.1 dX8_build_138 rfl (lv_at hl 0 rfl) ?_
        refine lv_bipush (v := (nI 12)) F.1 F.2.1 dX8_build_139 (by decide) ?_
        refine lv_aload_n F.1 F.2.1 dX8_build_141 rfl (lv_at hl 0 rfl) ?_
        refine z_get F B 0 rfl (ci := 10) (C := RX8) (T := TX8) (N := 37) rfl iX8_build_X8 21 (by decide) fX8_build_164 rfl dX8_build_142 ?_
        refine z_imul F dX8_build_145 ?_
        refine lv_aload_n F.1 F.2.1 dX8_build_146 rfl (lv_at hl 0 rfl) ?_
        refine z_get F B 0 rfl (ci := 10) (C := RX8) (T := TX8) (N := 37) rfl iX8_build_X8 22 (by decide) fX8_build_182 rfl dX8_build_147 ?_
        refine z_iadd F dX8_build_150 ?_
        refine z_put F B 0 rfl (ci := 10) (C := RX8) (T := TX8) (N := 37) rfl iX8_build_X8 tyX8 tyX8_ok nmX8 23 (by decide) fX8_build_185 rfl (v := .int (nI (12 * (vv + (6 * n31)) + (vv + (2 * n31))))) rfl rfl (Nat.le_of_ble_eq_true rfl) dX8_build_151 (fun H locs B => ?_)
        have B : zB D (zT cI cZ cG cJ) A s.heap s [(mm, .inr (10, zmo (nI 0) (nI q) (nI g) (nI t) (nI r) (nI mb) (nI Cs.length) (nI Cs.flatten.length) (nI (zpv t g q r)) (nI vv) (nI n31) (nI (2 * vv + (3 * n31))) (nI (vv + (6 * n31))) (nI (vv + (2 * n31))) (nI (12 * (vv + (6 * n31)) + (vv + (2 * n31)))) (nI mr) (nI mt) (nI ld) A8)), (A8 7, .inl (cI, 2400, .inl fl1)), (A8 6, .inl (cI, 600, .inl ft1)), (A8 8, .inl (cI, 1900, .inl f31)), (A8 9, .inl (cI, 7600, .inl fbe)), (A8 10, .inl (cI, 2200, .inl ffe)), (A8 11, .inl (cI, 2200, .inl fle)), (A8 5, .inl (cI, 4, .inl fp)), (A8 0, .inl (cI, 8, .inl ff)), (A8 1, .inl (cI, 8, .inl fr)), (A8 2, .inl (cI, 8, .inl fto)), (A8 3, .inl (cI, 8, .inl fw)), (A8 4, .inl (cI, 8, .inl fm))] _ _ := B
        refine lv_aload_n F.1 F.2.1 dX8_build_154 rfl (lv_at hl 0 rfl) ?_
        refine z_callV (wr := [(A8 7, .inl (cI, 2400, .inl fl1)), (A8 6, .inl (cI, 600, .inl ft1)), (A8 5, .inl (cI, 4, .inl fp)), (A8 0, .inl (cI, 8, .inl ff)), (A8 1, .inl (cI, 8, .inl fr)), (A8 2, .inl (cI, 8, .inl fto)), (A8 3, .inl (cI, 8, .inl fw)), (A8 4, .inl (cI, 8, .inl fm))]) (rest := []) (As := []) F B (kX8_link l D cI cZ cG cJ mm 0 q g t r mb Cs.length Cs.flatten.length (zpv t g q r) vv n31 (2 * vv + (3 * n31)) (vv + (6 * n31)) (vv + (2 * n31)) (12 * (vv + (6 * n31)) + (vv + (2 * n31))) mr mt ld A8 f31 (zthL (zpv t g q r) Cs) fbe ffe fle (hR1) (by omega) (by omega) (hL) (by omega) (by omega) (by omega) (by omega)) hl.1 (C := RX8) (T := TX8) (N := 37) (ci := 10) (q0 := 0) gX8_build_X8_link rfl 0 yX8_build_X8_link rfl rfl rfl [0, 3, 4, 5, 6] [1, 2, 7, 8, 9, 10, 11, 12] rfl rfl rfl rfl (by decide) (Nat.le_of_ble_eq_true rfl) (Nat.le_of_ble_eq_true rfl) (Nat.le_of_ble_eq_true rfl) rfl dX8_build_155 (show 0 + 0 ≤ 0 by omega) (show 0 + 0 ≤ 0 by omega) (fun vv ww H locs hRR B => ?_)
        obtain ⟨ffe'_9, fle'_10, fbe'_11, rfl, rfl, hq1, hq2, hq3⟩ := hRR
        have B : zB D (zT cI cZ cG cJ) A s.heap s [(A8 7, .inl (cI, 2400, .inl fl1)), (A8 6, .inl (cI, 600, .inl ft1)), (A8 5, .inl (cI, 4, .inl fp)), (A8 0, .inl (cI, 8, .inl ff)), (A8 1, .inl (cI, 8, .inl fr)), (A8 2, .inl (cI, 8, .inl fto)), (A8 3, .inl (cI, 8, .inl fw)), (A8 4, .inl (cI, 8, .inl fm)), (mm, .inr (10, zmo (nI 0) (nI q) (nI g) (nI t) (nI r) (nI mb) (nI Cs.length) (nI Cs.flatten.length) (nI (zpv t g q r)) (nI vv) (nI n31) (nI (2 * vv + (3 * n31))) (nI (vv + (6 * n31))) (nI (vv + (2 * n31))) (nI (12 * (vv + (6 * n31)) + (vv + (2 * n31)))) (nI mr) (nI mt) (nI ld) A8)), (A8 8, .inl (cI, 1900, .inl f31)), (A8 9, .inl (cI, 7600, .inl fbe'_11)), (A8 10, .inl (cI, 2200, .inl ffe'_9)), (A8 11, .inl (cI, 2200, .inl fle'_10))] _ _ := B
        refine W.eq (g2 := F0 m 158 ls []) rfl ?_
        refine lv_aload_n F.1 F.2.1 dX8_build_158 rfl (lv_at hl 0 rfl) ?_
        refine z_callV (wr := [(A8 7, .inl (cI, 2400, .inl fl1)), (A8 6, .inl (cI, 600, .inl ft1)), (A8 5, .inl (cI, 4, .inl fp)), (A8 0, .inl (cI, 8, .inl ff)), (A8 1, .inl (cI, 8, .inl fr)), (A8 2, .inl (cI, 8, .inl fto)), (A8 3, .inl (cI, 8, .inl fw)), (A8 4, .inl (cI, 8, .inl fm)), (A8 8, .inl (cI, 1900, .inl f31)), (A8 9, .inl (cI, 7600, .inl fbe'_11)), (A8 10, .inl (cI, 2200, .inl ffe'_9)), (A8 11, .inl (cI, 2200, .inl fle'_10))]) (rest := []) (As := []) F B (kX8_unbuild l D cI cZ cG cJ mm 0 q g t r mb Cs.length Cs.flatten.length (zpv t g q r) vv n31 (2 * vv + (3 * n31)) (vv + (6 * n31)) (vv + (2 * n31)) (12 * (vv + (6 * n31)) + (vv + (2 * n31))) mr mt ld A8) hl.1 (C := RX8) (T := TX8) (N := 37) (ci := 10) (q0 := 8) gX8_build_X8_unbuild rfl 0 yX8_build_X8_unbuild rfl rfl rfl [8] [0, 1, 2, 3, 4, 5, 6, 7, 9, 10, 11, 12] rfl rfl rfl rfl (by decide) (Nat.le_of_ble_eq_true rfl) (Nat.le_of_ble_eq_true rfl) (Nat.le_of_ble_eq_true rfl) rfl dX8_build_159 (show 0 + 0 ≤ 0 by omega) (show 0 + 0 ≤ 0 by omega) (fun vv ww H locs hRR B => ?_)
        obtain ⟨rfl, rfl⟩ := hRR
        have B : zB D (zT cI cZ cG cJ) A s.heap s [(A8 7, .inl (cI, 2400, .inl fl1)), (A8 6, .inl (cI, 600, .inl ft1)), (A8 5, .inl (cI, 4, .inl fp)), (A8 0, .inl (cI, 8, .inl ff)), (A8 1, .inl (cI, 8, .inl fr)), (A8 2, .inl (cI, 8, .inl fto)), (A8 3, .inl (cI, 8, .inl fw)), (A8 4, .inl (cI, 8, .inl fm)), (A8 8, .inl (cI, 1900, .inl f31)), (A8 9, .inl (cI, 7600, .inl fbe'_11)), (A8 10, .inl (cI, 2200, .inl ffe'_9)), (A8 11, .inl (cI, 2200, .inl fle'_10)), (mm, .inr (10, zmo (nI 0) (nI q) (nI g) (nI t) (nI r) (nI 0) (nI Cs.length) (nI Cs.flatten.length) (nI (zpv t g q r)) (nI vv) (nI n31) (nI (2 * vv + (3 * n31))) (nI (vv + (6 * n31))) (nI (vv + (2 * n31))) (nI (12 * (vv + (6 * n31)) + (vv + (2 * n31)))) (nI 0) (nI 0) (nI ld) A8))] _ _ := B
        refine W.eq (g2 := F0 m 162 ls []) rfl ?_
        refine lv_aload_n F.1 F.2.1 dX8_build_162 rfl (lv_at hl 0 rfl) ?_
        refine lv_iconst (v := (nI 1)) F.1 F.2.1 dX8_build_163 (by decide) ?_
        refine z_put F B 12 rfl (ci := 10) (C := RX8) (T := TX8) (N := 37) rfl iX8_build_X8 tyX8 tyX8_ok nmX8 11 (by decide) fX8_build_82 rfl (v := .int (nI 1)) (by decide) (by decide) (Nat.le_of_ble_eq_true rfl) dX8_build_164 (fun H locs B => ?_)
        have B : zB D (zT cI cZ cG cJ) A s.heap s [(A8 7, .inl (cI, 2400, .inl fl1)), (A8 6, .inl (cI, 600, .inl ft1)), (A8 5, .inl (cI, 4, .inl fp)), (A8 0, .inl (cI, 8, .inl ff)), (A8 1, .inl (cI, 8, .inl fr)), (A8 2, .inl (cI, 8, .inl fto)), (A8 3, .inl (cI, 8, .inl fw)), (A8 4, .inl (cI, 8, .inl fm)), (A8 8, .inl (cI, 1900, .inl f31)), (A8 9, .inl (cI, 7600, .inl fbe'_11)), (A8 10, .inl (cI, 2200, .inl ffe'_9)), (A8 11, .inl (cI, 2200, .inl fle'_10)), (mm, .inr (10, zmo (nI 0) (nI q) (nI g) (nI t) (nI r) (nI 1) (nI Cs.length) (nI Cs.flatten.length) (nI (zpv t g q r)) (nI vv) (nI n31) (nI (2 * vv + (3 * n31))) (nI (vv + (6 * n31))) (nI (vv + (2 * n31))) (nI (12 * (vv + (6 * n31)) + (vv + (2 * n31)))) (nI 0) (nI 0) (nI ld) A8))] _ _ := B
        refine lv_aload_n F.1 F.2.1 dX8_build_167 rfl (lv_at hl 0 rfl) ?_
        refine z_get F B 12 rfl (ci := 10) (C := RX8) (T := TX8) (N := 37) rfl iX8_build_X8 23 (by decide) fX8_build_185 rfl dX8_build_168 ?_
        exact z_iret F hr hlk B [12, 0, 1, 8, 9, 10, 11, 2, 3, 4, 5, 6, 7] rfl (rfl) dX8_build_171 (by omega) (by omega) ⟨fl1, ft1, f31, ffe'_9, fle'_10, fbe'_11, rfl, rfl, hFb, hR1, hq1, hq2, hq3⟩
      · have hjl : j < Cs.length := by omega
        have hzs := zoff_succ Cs j hjl
        have hzl := zoff_le Cs (j + 1)
        have hft := zthL_fit hjl (zpv t g q r)
        have hn1 := hne j hjl; have hn2 := hmx j hjl
        have hl1 := hR1.1
        refine lv_aload_n F.1 F.2.1 dX8_build_59 rfl (lv_at hl 0 rfl) ?_
        refine lv_aload_n F.1 F.2.1 dX8_build_60 rfl (lv_at hl 0 rfl) ?_
        refine z_get F B 0 rfl (ci := 10) (C := RX8) (T := TX8) (N := 37) rfl iX8_build_X8 17 (by decide) fX8_build_38 rfl dX8_build_61 ?_
        refine lv_iload_n F.1 F.2.1 dX8_build_64 rfl (lv_at hl 1 rfl) ?_
        refine z_iald F B 2 0 rfl rfl (j := j) (by omega) (by omega) dX8_build_65 ?_
        refine W.eq (g2 := F0 m 66 ls [.int (nI (zoff Cs j)), .ref mm]) (by rw [zF_st hFb (by omega)]) ?_
        refine lv_aload_n F.1 F.2.1 dX8_build_66 rfl (lv_at hl 0 rfl) ?_
        refine z_get F B 0 rfl (ci := 10) (C := RX8) (T := TX8) (N := 37) rfl iX8_build_X8 17 (by decide) fX8_build_38 rfl dX8_build_67 ?_
        refine lv_iload_n F.1 F.2.1 dX8_build_70 rfl (lv_at hl 1 rfl) ?_
        refine lv_iconst (v := (nI 1)) F.1 F.2.1 dX8_build_71 (by decide) ?_
        refine z_iadd F dX8_build_72 ?_
        refine z_iald F B 2 0 rfl rfl (j := j + 1) (by omega) (by omega) dX8_build_73 ?_
        refine W.eq (g2 := F0 m 74 ls [.int (nI (zoff Cs (j + 1))), .int (nI (zoff Cs j)), .ref mm]) (by rw [zF_st hFb (by omega)]) ?_
        refine lv_aload_n F.1 F.2.1 dX8_build_74 rfl (lv_at hl 0 rfl) ?_
        refine z_get F B 0 rfl (ci := 10) (C := RX8) (T := TX8) (N := 37) rfl iX8_build_X8 17 (by decide) fX8_build_38 rfl dX8_build_75 ?_
        refine lv_iload_n F.1 F.2.1 dX8_build_78 rfl (lv_at hl 1 rfl) ?_
        refine z_iald F B 2 0 rfl rfl (j := j) (by omega) (by omega) dX8_build_79 ?_
        refine W.eq (g2 := F0 m 80 ls [.int (nI (zoff Cs j)), .int (nI (zoff Cs (j + 1))), .int (nI (zoff Cs j)), .ref mm]) (by rw [zF_st hFb (by omega)]) ?_
        refine z_isub F (by omega) dX8_build_80 ?_
        refine W.eq (g2 := F0 m 81 ls [.int (nI (zlen Cs j)), .int (nI (zoff Cs j)), .ref mm]) (by rw [hzs, Nat.add_sub_cancel_left]) ?_
        refine z_callV (wr := [(A8 6, .inl (cI, 600, .inl ft1)), (A8 9, .inl (cI, 7600, .inl fbe)), (A8 10, .inl (cI, 2200, .inl ffe)), (A8 11, .inl (cI, 2200, .inl fle)), (A8 5, .inl (cI, 4, .inl fp)), (A8 0, .inl (cI, 8, .inl ff)), (A8 1, .inl (cI, 8, .inl fr)), (A8 2, .inl (cI, 8, .inl fto)), (A8 3, .inl (cI, 8, .inl fw)), (A8 4, .inl (cI, 8, .inl fm))]) (rest := []) (As := [.int (nI (zoff Cs j)), .int (nI (zlen Cs j))]) F B (kX8_split l D cI cZ cG cJ mm 0 q g t r mb Cs.length Cs.flatten.length (zpv t g q r) (zthV (zpv t g q r) (Cs.take j)) n31 ve ed se ci mr mt ld A8 fl1 f31 (zthL (zpv t g q r) (Cs.take j)) (Cs.getD j []) (zoff Cs j) (zlen Cs j) (rfl) (by omega) (by omega) (fun i hi => zF_lit hFb hjl hi) (by omega) (hR1) (by omega)) hl.1 (C := RX8) (T := TX8) (N := 37) (ci := 10) (q0 := 0) gX8_build_X8_split rfl 2 yX8_build_X8_split rfl rfl rfl [0, 1, 3] [2, 4, 5, 6, 7, 8, 9, 10, 11, 12] rfl rfl rfl rfl (by decide) (Nat.le_of_ble_eq_true rfl) (Nat.le_of_ble_eq_true rfl) (Nat.le_of_ble_eq_true rfl) rfl dX8_build_81 (show 0 + 0 ≤ 0 by omega) (show 0 + 0 ≤ 0 by omega) (fun vv ww H locs hRR B => ?_)
        obtain ⟨n3'_12, f3'_13, rfl, rfl, hn'_14, hRs⟩ := hRR
        have B : zB D (zT cI cZ cG cJ) A s.heap s [(A8 6, .inl (cI, 600, .inl ft1)), (A8 9, .inl (cI, 7600, .inl fbe)), (A8 10, .inl (cI, 2200, .inl ffe)), (A8 11, .inl (cI, 2200, .inl fle)), (A8 5, .inl (cI, 4, .inl fp)), (A8 0, .inl (cI, 8, .inl ff)), (A8 1, .inl (cI, 8, .inl fr)), (A8 2, .inl (cI, 8, .inl fto)), (A8 3, .inl (cI, 8, .inl fw)), (A8 4, .inl (cI, 8, .inl fm)), (mm, .inr (10, zmo (nI 0) (nI q) (nI g) (nI t) (nI r) (nI mb) (nI Cs.length) (nI Cs.flatten.length) (nI (zpv t g q r)) (nI ((zthV (zpv t g q r) (Cs.take j)) + ((zlen Cs j) - 3))) (nI n3'_12) (nI ve) (nI ed) (nI se) (nI ci) (nI mr) (nI mt) (nI ld) A8)), (A8 7, .inl (cI, 2400, .inl fl1)), (A8 8, .inl (cI, 1900, .inl f3'_13))] _ _ := B
        refine W.eq (g2 := F0 m 84 ls []) rfl ?_
        refine lv_iinc (v := (nI (j + 1))) (lv' := [(1, .int (nI (j + 1))), (0, .ref mm)]) F.1 F.2.1 dX8_build_84 hl (k := 1) rfl (by rw [show Int32.ofInt 1 = nI 1 from rfl, nI_add]) (by decide) rfl (fun ls hl => ?_)
        refine lv_goto (tgt := 51) F.1 F.2.1 dX8_build_87 (by decide) ?_
        exact ih51 (j + 1) n3'_12 f3'_13 fl1 ft1 (by first | omega | (simp only [] at *; omega)) (by omega) (by rw [zthL_take hjl]; exact hRs) (hFb) _ _ _ (B.sub [10, 11, 0, 12, 1, 2, 3, 4, 5, 6, 7, 8, 9] rfl (by rw [zthV_take hjl]; rfl)) (lv_sub hl [1, 0] (rfl))
  exact loop51 (Cs.length - 0 + 1) 0 0 f3 fl'_7 ft'_8 (Nat.lt_succ_self _) (by omega) (zR_nil) (hFa) _ _ _ (B.sub [12, 5, 6, 0, 1, 2, 3, 4, 7, 8, 9, 10, 11] rfl (rfl)) (lv_sub hl [1, 0] (rfl))
