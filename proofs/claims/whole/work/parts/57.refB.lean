/-! CONTRACTS of the reference: justOne, alone, brings, bringsAt -/
/-- so many clauses and literals as the reference has room for -/
def zBd (D : List (List Nat)) : Prop := D.flatten.length ≤ 2400 ∧ D.length ≤ 599
theorem zBd_pre {D E : List (List Nat)} (h : zBd E) (hp : D <+: E) : zBd D := by
  obtain ⟨r, rfl⟩ := hp
  have h1 := h.1
  have h2 := h.2
  simp only [List.flatten_append, List.length_append] at h1 h2
  exact ⟨by omega, by omega⟩
theorem zBd_fit {Cs P Q E : List (List Nat)} (h : zBd (Cs ++ E)) (hp : P ++ Q <+: E) : zBd ((Cs ++ P) ++ Q) := by
  rw [List.append_assoc]
  exact zBd_pre h (zpre_left hp)
theorem zBd_nl {fl ft : Nat → Int32} {nl nc : Nat} {D : List (List Nat)} {cl : List Nat} (h : zF fl nl ft (nc + 1) D) (hb : zBd (D ++ [cl])) : nl + cl.length ≤ 2400 ∧ nc + 1 < 600 := by
  obtain ⟨a, b⟩ := zF_len h
  have h1 := hb.1
  have h2 := hb.2
  simp only [List.flatten_append, List.length_append, List.flatten_cons, List.flatten_nil, List.length_nil, List.length_cons] at h1 h2
  omega
theorem yX8_justOne_X8_close : yX8_close.cls = RX8 ∧ yX8_close.cls ≠ "java/lang/invoke/MethodHandle" ∧ yX8_close.cls ≠ "java/lang/invoke/VarHandle" ∧ (parseMethodDescriptor yX8_close.desc).map (fun d => d.parameters.length) = some 0 := by decide +kernel
theorem yX8_justOne_X8_not : yX8_not.cls = RX8 ∧ yX8_not.cls ≠ "java/lang/invoke/MethodHandle" ∧ yX8_not.cls ≠ "java/lang/invoke/VarHandle" ∧ (parseMethodDescriptor yX8_not.desc).map (fun d => d.parameters.length) = some 1 := by decide +kernel
theorem yX8_justOne_X8_is : yX8_is.cls = RX8 ∧ yX8_is.cls ≠ "java/lang/invoke/MethodHandle" ∧ yX8_is.cls ≠ "java/lang/invoke/VarHandle" ∧ (parseMethodDescriptor yX8_is.desc).map (fun d => d.parameters.length) = some 1 := by decide +kernel
set_option maxHeartbeats 4000000 in
set_option maxRecDepth 100000 in
theorem kX8_justOne (l : Launch) (D : va_G) (cI cZ cG cJ : ClassId) (mm : Nat) (th : Nat) (q : Nat) (g : Nat) (t : Nat) (r : Nat) (mb : Nat) (nc : Nat) (nl : Nat) (pv : Nat) (va : Nat) (n3 : Nat) (ve : Nat) (ed : Nat) (se : Nat) (ci : Nat) (mr : Nat) (mt : Nat) (ld : Nat) (A8 : Nat → Nat) (fl : Nat → Int32) (ft : Nat → Int32) (Cs : List (List Nat)) (first : Nat) (n : Nat) (hF : zF fl nl ft (nc + 1) Cs) (hB : zBd (Cs ++ (zjust first n))) (hfn : first + n ≤ 1000000) : zC l yX8_justOne wsX8_justOne 1 21 0 0 D (zT cI cZ cG cJ) [.ref mm, .int (nI first), .int (nI n)] [(mm, .inr (10, zmo (nI th) (nI q) (nI g) (nI t) (nI r) (nI mb) (nI nc) (nI nl) (nI pv) (nI va) (nI n3) (nI ve) (nI ed) (nI se) (nI ci) (nI mr) (nI mt) (nI ld) A8)), (A8 7, .inl (cI, 2400, .inl fl)), (A8 6, .inl (cI, 600, .inl ft))] (fun (ov : Option Value) (ow : va_W) => ∃ nl' : Nat, ∃ nc' : Nat, ∃ fl' : Nat → Int32, ∃ ft' : Nat → Int32, ov = none ∧ ow = [(mm, .inr (10, zmo (nI th) (nI q) (nI g) (nI t) (nI r) (nI mb) (nI nc') (nI nl') (nI pv) (nI va) (nI n3) (nI ve) (nI ed) (nI se) (nI ci) (nI mr) (nI mt) (nI ld) A8)), (A8 7, .inl (cI, 2400, .inl fl')), (A8 6, .inl (cI, 600, .inl ft'))] ∧ (zF fl' nl' ft' (nc' + 1) (Cs ++ (zjust first n)))) := by
  refine zC.of (cc := cX8_justOne) (maxL := 5) (ret := none) (by decide) rfl (Nat.le_of_ble_eq_true rfl) ?_
  intro p e s m below meth c A ls F hr hlk hnm B hl
  have hl : lv_has ls 5 [(0, .ref mm), (1, .int (nI first)), (2, .int (nI n))] := hl
  have hP0 : zF fl nl ft (nc + 1) (Cs ++ []) := by rw [List.append_nil]; exact hF
  have hbs := zBd_fit (P := []) (Q := [zsome first n]) (E := zjust first n) hB (List.prefix_append _ _)
  rw [List.append_nil] at hbs
  obtain ⟨hbsn, hbsc⟩ := zBd_nl hF hbs
  have hbsl : (zsome first n).length = n := by simp [zsome]
  rw [hbsl] at hbsn
  refine lv_iconst (v := (nI 0)) F.1 F.2.1 dX8_justOne_0 (by decide) ?_
  refine lv_istore_n (lv' := [(3, .int (nI 0)), (0, .ref mm), (1, .int (nI first)), (2, .int (nI n))]) F.1 F.2.1 dX8_justOne_1 rfl hl (by decide) rfl (fun ls hl => ?_)
  have loop2 : ∀ (fuel : Nat) (i : Nat) (nl0 : Nat) (fl0 : Nat → Int32), n - i < fuel → (i ≤ n) → (nl0 = nl + i) → (zR fl0 nl0 (Cs.flatten ++ (List.range i).map (fun k => 2 * (first + k)))) → ∀ (H : Heap) (locs : List Loc) (ls : Array Slot), zB D (zT cI cZ cG cJ) A s.heap s [(mm, .inr (10, zmo (nI th) (nI q) (nI g) (nI t) (nI r) (nI mb) (nI nc) (nI nl0) (nI pv) (nI va) (nI n3) (nI ve) (nI ed) (nI se) (nI ci) (nI mr) (nI mt) (nI ld) A8)), (A8 7, .inl (cI, 2400, .inl fl0)), (A8 6, .inl (cI, 600, .inl ft))] H locs → lv_has ls 5 [(0, .ref mm), (1, .int (nI first)), (2, .int (nI n)), (3, .int (nI i))] → W p l e { frames := 1, cells := 0, slots := 0, locals := 21 } s m [.ref mm, .int (nI first), .int (nI n)].toArray below meth c H locs 0 0 (zQ below [.ref mm, .int (nI first), .int (nI n)].toArray s D (zT cI cZ cG cJ) A (fun (ov : Option Value) (ow : va_W) => ∃ nl' : Nat, ∃ nc' : Nat, ∃ fl' : Nat → Int32, ∃ ft' : Nat → Int32, ov = none ∧ ow = [(mm, .inr (10, zmo (nI th) (nI q) (nI g) (nI t) (nI r) (nI mb) (nI nc') (nI nl') (nI pv) (nI va) (nI n3) (nI ve) (nI ed) (nI se) (nI ci) (nI mr) (nI mt) (nI ld) A8)), (A8 7, .inl (cI, 2400, .inl fl')), (A8 6, .inl (cI, 600, .inl ft'))] ∧ (zF fl' nl' ft' (nc' + 1) (Cs ++ (zjust first n)))) 0 0) (F0 m 2 ls []) := by
    intro fuel
    induction fuel with
    | zero => intro i nl0 fl0 hmz; exact absurd hmz (Nat.not_lt_zero _)
    | succ fuel ih =>
      intro i nl0 fl0 hm hi hn0 hR0 H locs ls B hl
      have ih2 := ih
      refine lv_iload_n F.1 F.2.1 dX8_justOne_2 rfl (lv_at hl 3 rfl) ?_
      refine lv_iload_n F.1 F.2.1 dX8_justOne_3 rfl (lv_at hl 2 rfl) ?_
      refine z_icmp_ge (tgt := 20) F (by omega) (by omega) dX8_justOne_4 (by decide) (fun c4 => ?_) (fun c4 => ?_)
      · have hin : i = n := by omega
        rw [hin] at hR0 hn0
        refine lv_aload_n F.1 F.2.1 dX8_justOne_20 rfl (lv_at hl 0 rfl) ?_
        refine z_callV (wr := [(A8 7, .inl (cI, 2400, .inl fl0))]) (rest := []) (As := []) F B (kX8_close l D cI cZ cG cJ mm th q g t r mb nc nl0 pv va n3 ve ed se ci mr mt ld A8 fl0 ft Cs (zsome first n) (hF.2) (hR0) (by omega)) hl.1 (C := RX8) (T := TX8) (N := 37) (ci := 10) (q0 := 0) gX8_justOne_X8_close rfl 0 yX8_justOne_X8_close rfl rfl rfl [0, 2] [1] rfl rfl rfl rfl (by decide) (Nat.le_of_ble_eq_true rfl) (Nat.le_of_ble_eq_true rfl) (Nat.le_of_ble_eq_true rfl) rfl dX8_justOne_21 (show 0 + 0 ≤ 0 by omega) (show 0 + 0 ≤ 0 by omega) (fun vv ww H locs hRR B => ?_)
        obtain ⟨ft'_1, rfl, rfl, hfs0⟩ := hRR
        have B : zB D (zT cI cZ cG cJ) A s.heap s [(A8 7, .inl (cI, 2400, .inl fl0)), (mm, .inr (10, zmo (nI th) (nI q) (nI g) (nI t) (nI r) (nI mb) (nI (nc + 1)) (nI nl0) (nI pv) (nI va) (nI n3) (nI ve) (nI ed) (nI se) (nI ci) (nI mr) (nI mt) (nI ld) A8)), (A8 6, .inl (cI, 600, .inl ft'_1))] _ _ := B
        refine W.eq (g2 := F0 m 24 ls []) rfl ?_
        have hfs : zF fl0 nl0 ft'_1 (nc + 1 + 1) (Cs ++ [zsome first n]) := hfs0
        refine lv_iconst (v := (nI 0)) F.1 F.2.1 dX8_justOne_24 (by decide) ?_
        refine lv_istore_n (lv' := [(3, .int (nI 0)), (0, .ref mm), (1, .int (nI first)), (2, .int (nI n))]) F.1 F.2.1 dX8_justOne_25 rfl hl (by decide) rfl (fun ls hl => ?_)
        have loop26 : ∀ (fuel : Nat) (i : Nat) (nl1 : Nat) (nc1 : Nat) (fl1 : Nat → Int32) (ft1 : Nat → Int32), n - i < fuel → (i ≤ n) → (zF fl1 nl1 ft1 (nc1 + 1) (Cs ++ ([zsome first n] ++ (List.range i).flatMap (zpairs first n)))) → ∀ (H : Heap) (locs : List Loc) (ls : Array Slot), zB D (zT cI cZ cG cJ) A s.heap s [(mm, .inr (10, zmo (nI th) (nI q) (nI g) (nI t) (nI r) (nI mb) (nI nc1) (nI nl1) (nI pv) (nI va) (nI n3) (nI ve) (nI ed) (nI se) (nI ci) (nI mr) (nI mt) (nI ld) A8)), (A8 7, .inl (cI, 2400, .inl fl1)), (A8 6, .inl (cI, 600, .inl ft1))] H locs → lv_has ls 5 [(0, .ref mm), (1, .int (nI first)), (2, .int (nI n)), (3, .int (nI i))] → W p l e { frames := 1, cells := 0, slots := 0, locals := 21 } s m [.ref mm, .int (nI first), .int (nI n)].toArray below meth c H locs 0 0 (zQ below [.ref mm, .int (nI first), .int (nI n)].toArray s D (zT cI cZ cG cJ) A (fun (ov : Option Value) (ow : va_W) => ∃ nl' : Nat, ∃ nc' : Nat, ∃ fl' : Nat → Int32, ∃ ft' : Nat → Int32, ov = none ∧ ow = [(mm, .inr (10, zmo (nI th) (nI q) (nI g) (nI t) (nI r) (nI mb) (nI nc') (nI nl') (nI pv) (nI va) (nI n3) (nI ve) (nI ed) (nI se) (nI ci) (nI mr) (nI mt) (nI ld) A8)), (A8 7, .inl (cI, 2400, .inl fl')), (A8 6, .inl (cI, 600, .inl ft'))] ∧ (zF fl' nl' ft' (nc' + 1) (Cs ++ (zjust first n)))) 0 0) (F0 m 26 ls []) := by
          intro fuel
          induction fuel with
          | zero => intro i nl1 nc1 fl1 ft1 hmz; exact absurd hmz (Nat.not_lt_zero _)
          | succ fuel ih =>
            intro i nl1 nc1 fl1 ft1 hm hi hF1 H locs ls B hl
            have ih26 := ih
            refine lv_iload_n F.1 F.2.1 dX8_justOne_26 rfl (lv_at hl 3 rfl) ?_
            refine lv_iload_n F.1 F.2.1 dX8_justOne_27 rfl (lv_at hl 2 rfl) ?_
            refine z_icmp_ge (tgt := 73) F (by omega) (by omega) dX8_justOne_28 (by decide) (fun c28 => ?_) (fun c28 => ?_)
            · have hin1 : n = i := by omega
              subst hin1
              exact z_vret F hr hlk B [0, 1, 2] rfl (rfl) dX8_justOne_73 (by omega) (by omega) ⟨nl1, nc1, fl1, ft1, rfl, rfl, ((show [zsome first n] ++ (List.range n).flatMap (zpairs first n) = zjust first n from by rfl) ▸ hF1)⟩
            · refine lv_iload_n F.1 F.2.1 dX8_justOne_31 rfl (lv_at hl 3 rfl) ?_
              refine lv_iconst (v := (nI 1)) F.1 F.2.1 dX8_justOne_32 (by decide) ?_
              refine z_iadd F dX8_justOne_33 ?_
              refine lv_istore (lv' := [(4, .int (nI (i + 1))), (0, .ref mm), (1, .int (nI first)), (2, .int (nI n)), (3, .int (nI i))]) F.1 F.2.1 dX8_justOne_34 hl (by decide) rfl (fun ls hl => ?_)
              have loop36 : ∀ (fuel : Nat) (j : Nat) (nl2 : Nat) (nc2 : Nat) (fl2 : Nat → Int32) (ft2 : Nat → Int32), n - j < fuel → (i + 1 + j ≤ n) → (zF fl2 nl2 ft2 (nc2 + 1) (Cs ++ ([zsome first n] ++ ((List.range i).flatMap (zpairs first n) ++ (List.range j).map (zpair first i))))) → ∀ (H : Heap) (locs : List Loc) (ls : Array Slot), zB D (zT cI cZ cG cJ) A s.heap s [(mm, .inr (10, zmo (nI th) (nI q) (nI g) (nI t) (nI r) (nI mb) (nI nc2) (nI nl2) (nI pv) (nI va) (nI n3) (nI ve) (nI ed) (nI se) (nI ci) (nI mr) (nI mt) (nI ld) A8)), (A8 7, .inl (cI, 2400, .inl fl2)), (A8 6, .inl (cI, 600, .inl ft2))] H locs → lv_has ls 5 [(0, .ref mm), (1, .int (nI first)), (2, .int (nI n)), (3, .int (nI i)), (4, .int (nI (i + 1 + j)))] → W p l e { frames := 1, cells := 0, slots := 0, locals := 21 } s m [.ref mm, .int (nI first), .int (nI n)].toArray below meth c H locs 0 0 (zQ below [.ref mm, .int (nI first), .int (nI n)].toArray s D (zT cI cZ cG cJ) A (fun (ov : Option Value) (ow : va_W) => ∃ nl' : Nat, ∃ nc' : Nat, ∃ fl' : Nat → Int32, ∃ ft' : Nat → Int32, ov = none ∧ ow = [(mm, .inr (10, zmo (nI th) (nI q) (nI g) (nI t) (nI r) (nI mb) (nI nc') (nI nl') (nI pv) (nI va) (nI n3) (nI ve) (nI ed) (nI se) (nI ci) (nI mr) (nI mt) (nI ld) A8)), (A8 7, .inl (cI, 2400, .inl fl')), (A8 6, .inl (cI, 600, .inl ft'))] ∧ (zF fl' nl' ft' (nc' + 1) (Cs ++ (zjust first n)))) 0 0) (F0 m 36 ls []) := by
                intro fuel
                induction fuel with
                | zero => intro j nl2 nc2 fl2 ft2 hmz; exact absurd hmz (Nat.not_lt_zero _)
                | succ fuel ih =>
                  intro j nl2 nc2 fl2 ft2 hm hj hF2 H locs ls B hl
                  have ih36 := ih
                  refine lv_iload F.1 F.2.1 dX8_justOne_36 (lv_at hl 4 rfl) ?_
                  refine lv_iload_n F.1 F.2.1 dX8_justOne_38 rfl (lv_at hl 2 rfl) ?_
                  refine z_icmp_ge (tgt := 67) F (by omega) (by omega) dX8_justOne_39 (by decide) (fun c39 => ?_) (fun c39 => ?_)
                  · refine lv_iinc (v := (nI (i + 1))) (lv' := [(3, .int (nI (i + 1))), (0, .ref mm), (1, .int (nI first)), (2, .int (nI n)), (4, .int (nI (i + 1 + j)))]) F.1 F.2.1 dX8_justOne_67 hl (k := 3) rfl (by rw [show Int32.ofInt 1 = nI 1 from rfl, nI_add]) (by decide) rfl (fun ls hl => ?_)
                    refine lv_goto (tgt := 26) F.1 F.2.1 dX8_justOne_70 (by decide) ?_
                    exact ih26 (i + 1) nl2 nc2 fl2 ft2 (by first | omega | (simp only [] at *; omega)) (by omega) (by rw [zrng_succ]; simpa [zpairs, show n - 1 - i = j by omega] using hF2) _ _ _ (B.sub [0, 1, 2] rfl (rfl)) (lv_sub hl [1, 2, 3, 0] (rfl))
                  · refine lv_aload_n F.1 F.2.1 dX8_justOne_42 rfl (lv_at hl 0 rfl) ?_
                    refine lv_iload_n F.1 F.2.1 dX8_justOne_43 rfl (lv_at hl 1 rfl) ?_
                    refine lv_iload_n F.1 F.2.1 dX8_justOne_44 rfl (lv_at hl 3 rfl) ?_
                    refine z_iadd F dX8_justOne_45 ?_
                    have hbd1 := zBd_fit (P := [zsome first n] ++ ((List.range i).flatMap (zpairs first n) ++ (List.range j).map (zpair first i))) (Q := [[2 * (first + i) + 1, 2 * (first + (i + 1 + j)) + 1]]) hB (by have q9 := zjust_pre (first := first) (n := n) (i := i) (j := j) (by omega) (by omega); unfold zpair at q9; rw [show first + i + 1 + j = first + (i + 1 + j) by omega] at q9; exact q9)
                    obtain ⟨hbn1, hbc1⟩ := zBd_nl hF2 hbd1
                    have hbn1 : nl2 + 2 ≤ 2400 := hbn1
                    refine z_callV (wr := [(A8 6, .inl (cI, 600, .inl ft2))]) (rest := []) (As := [.int (nI (first + i))]) F B (kX8_not l D cI cZ cG cJ mm th q g t r mb nc2 nl2 pv va n3 ve ed se ci mr mt ld A8 fl2 ((Cs ++ ([zsome first n] ++ ((List.range i).flatMap (zpairs first n) ++ (List.range j).map (zpair first i)))).flatten) (first + i) (hF2.1) (by omega)) hl.1 (C := RX8) (T := TX8) (N := 37) (ci := 10) (q0 := 0) gX8_justOne_X8_not rfl 1 yX8_justOne_X8_not rfl rfl rfl [0, 1] [2] rfl rfl rfl rfl (by decide) (Nat.le_of_ble_eq_true rfl) (Nat.le_of_ble_eq_true rfl) (Nat.le_of_ble_eq_true rfl) rfl dX8_justOne_46 (show 0 + 0 ≤ 0 by omega) (show 0 + 0 ≤ 0 by omega) (fun vv ww H locs hRR B => ?_)
                    obtain ⟨fl'_2, rfl, rfl, hr1_1⟩ := hRR
                    have B : zB D (zT cI cZ cG cJ) A s.heap s [(A8 6, .inl (cI, 600, .inl ft2)), (mm, .inr (10, zmo (nI th) (nI q) (nI g) (nI t) (nI r) (nI mb) (nI nc2) (nI (nl2 + 1)) (nI pv) (nI va) (nI n3) (nI ve) (nI ed) (nI se) (nI ci) (nI mr) (nI mt) (nI ld) A8)), (A8 7, .inl (cI, 2400, .inl fl'_2))] _ _ := B
                    refine W.eq (g2 := F0 m 49 ls []) rfl ?_
                    refine lv_aload_n F.1 F.2.1 dX8_justOne_49 rfl (lv_at hl 0 rfl) ?_
                    refine lv_iload_n F.1 F.2.1 dX8_justOne_50 rfl (lv_at hl 1 rfl) ?_
                    refine lv_iload F.1 F.2.1 dX8_justOne_51 (lv_at hl 4 rfl) ?_
                    refine z_iadd F dX8_justOne_53 ?_
                    refine z_callV (wr := [(A8 6, .inl (cI, 600, .inl ft2))]) (rest := []) (As := [.int (nI (first + (i + 1 + j)))]) F B (kX8_not l D cI cZ cG cJ mm th q g t r mb nc2 (nl2 + 1) pv va n3 ve ed se ci mr mt ld A8 fl'_2 ((Cs ++ ([zsome first n] ++ ((List.range i).flatMap (zpairs first n) ++ (List.range j).map (zpair first i)))).flatten ++ [2 * (first + i) + 1]) (first + (i + 1 + j)) (hr1_1) (by omega)) hl.1 (C := RX8) (T := TX8) (N := 37) (ci := 10) (q0 := 1) gX8_justOne_X8_not rfl 1 yX8_justOne_X8_not rfl rfl rfl [1, 2] [0] rfl rfl rfl rfl (by decide) (Nat.le_of_ble_eq_true rfl) (Nat.le_of_ble_eq_true rfl) (Nat.le_of_ble_eq_true rfl) rfl dX8_justOne_54 (show 0 + 0 ≤ 0 by omega) (show 0 + 0 ≤ 0 by omega) (fun vv ww H locs hRR B => ?_)
                    obtain ⟨fl'_3, rfl, rfl, hr1_2⟩ := hRR
                    have B : zB D (zT cI cZ cG cJ) A s.heap s [(A8 6, .inl (cI, 600, .inl ft2)), (mm, .inr (10, zmo (nI th) (nI q) (nI g) (nI t) (nI r) (nI mb) (nI nc2) (nI ((nl2 + 1) + 1)) (nI pv) (nI va) (nI n3) (nI ve) (nI ed) (nI se) (nI ci) (nI mr) (nI mt) (nI ld) A8)), (A8 7, .inl (cI, 2400, .inl fl'_3))] _ _ := B
                    refine W.eq (g2 := F0 m 57 ls []) rfl ?_
                    refine lv_aload_n F.1 F.2.1 dX8_justOne_57 rfl (lv_at hl 0 rfl) ?_
                    have hrc1 : zR fl'_3 ((nl2 + 1) + 1) ((Cs ++ ([zsome first n] ++ ((List.range i).flatMap (zpairs first n) ++ (List.range j).map (zpair first i)))).flatten ++ [2 * (first + i) + 1, 2 * (first + (i + 1 + j)) + 1]) := by have q9 := hr1_2; first | exact q9 | (simp only [List.append_assoc, List.cons_append, List.nil_append] at q9 ⊢; exact q9)
                    refine z_callV (wr := [(A8 7, .inl (cI, 2400, .inl fl'_3))]) (rest := []) (As := []) F B (kX8_close l D cI cZ cG cJ mm th q g t r mb nc2 ((nl2 + 1) + 1) pv va n3 ve ed se ci mr mt ld A8 fl'_3 ft2 (Cs ++ ([zsome first n] ++ ((List.range i).flatMap (zpairs first n) ++ (List.range j).map (zpair first i)))) ([2 * (first + i) + 1, 2 * (first + (i + 1 + j)) + 1]) (hF2.2) (hrc1) (by omega)) hl.1 (C := RX8) (T := TX8) (N := 37) (ci := 10) (q0 := 1) gX8_justOne_X8_close rfl 0 yX8_justOne_X8_close rfl rfl rfl [1, 0] [2] rfl rfl rfl rfl (by decide) (Nat.le_of_ble_eq_true rfl) (Nat.le_of_ble_eq_true rfl) (Nat.le_of_ble_eq_true rfl) rfl dX8_justOne_58 (show 0 + 0 ≤ 0 by omega) (show 0 + 0 ≤ 0 by omega) (fun vv ww H locs hRR B => ?_)
                    obtain ⟨ft'_4, rfl, rfl, hfc1x⟩ := hRR
                    have B : zB D (zT cI cZ cG cJ) A s.heap s [(A8 7, .inl (cI, 2400, .inl fl'_3)), (mm, .inr (10, zmo (nI th) (nI q) (nI g) (nI t) (nI r) (nI mb) (nI (nc2 + 1)) (nI ((nl2 + 1) + 1)) (nI pv) (nI va) (nI n3) (nI ve) (nI ed) (nI se) (nI ci) (nI mr) (nI mt) (nI ld) A8)), (A8 6, .inl (cI, 600, .inl ft'_4))] _ _ := B
                    refine W.eq (g2 := F0 m 61 ls []) rfl ?_
                    have hfc1 : zF fl'_3 ((nl2 + 1) + 1) ft'_4 (nc2 + 1 + 1) (Cs ++ (([zsome first n] ++ ((List.range i).flatMap (zpairs first n) ++ (List.range j).map (zpair first i))) ++ [[2 * (first + i) + 1, 2 * (first + (i + 1 + j)) + 1]])) := by rw [← List.append_assoc]; exact hfc1x
                    refine lv_iinc (v := (nI (i + 1 + j + 1))) (lv' := [(4, .int (nI (i + 1 + j + 1))), (0, .ref mm), (1, .int (nI first)), (2, .int (nI n)), (3, .int (nI i))]) F.1 F.2.1 dX8_justOne_61 hl (k := 4) rfl (by rw [show Int32.ofInt 1 = nI 1 from rfl, nI_add]) (by decide) rfl (fun ls hl => ?_)
                    refine lv_goto (tgt := 36) F.1 F.2.1 dX8_justOne_64 (by decide) ?_
                    exact ih36 (j + 1) ((nl2 + 1) + 1) (nc2 + 1) fl'_3 ft'_4 (by first | omega | (simp only [] at *; omega)) (by omega) (by rw [List.range_succ, List.map_append]; simpa [List.append_assoc, zpair, Nat.add_assoc, Nat.add_left_comm, Nat.add_comm] using hfc1) _ _ _ (B.sub [1, 0, 2] rfl (rfl)) (lv_sub hl [1, 2, 3, 4, 0] (rfl))
              exact loop36 (n - 0 + 1) 0 nl1 nc1 fl1 ft1 (Nat.lt_succ_self _) (by omega) (by simpa using hF1) _ _ _ (B.sub [0, 1, 2] rfl (rfl)) (lv_sub hl [1, 2, 3, 4, 0] (rfl))
        exact loop26 (n - 0 + 1) 0 nl0 (nc + 1) fl0 ft'_1 (Nat.lt_succ_self _) (by omega) (by simpa using hfs) _ _ _ (B.sub [1, 0, 2] rfl (rfl)) (lv_sub hl [1, 2, 3, 0] (rfl))
      · refine lv_aload_n F.1 F.2.1 dX8_justOne_7 rfl (lv_at hl 0 rfl) ?_
        refine lv_iload_n F.1 F.2.1 dX8_justOne_8 rfl (lv_at hl 1 rfl) ?_
        refine lv_iload_n F.1 F.2.1 dX8_justOne_9 rfl (lv_at hl 3 rfl) ?_
        refine z_iadd F dX8_justOne_10 ?_
        refine z_callV (wr := [(A8 6, .inl (cI, 600, .inl ft))]) (rest := []) (As := [.int (nI (first + i))]) F B (kX8_is l D cI cZ cG cJ mm th q g t r mb nc nl0 pv va n3 ve ed se ci mr mt ld A8 fl0 (Cs.flatten ++ (List.range i).map (fun k => 2 * (first + k))) (first + i) (hR0) (by omega)) hl.1 (C := RX8) (T := TX8) (N := 37) (ci := 10) (q0 := 0) gX8_justOne_X8_is rfl 1 yX8_justOne_X8_is rfl rfl rfl [0, 1] [2] rfl rfl rfl rfl (by decide) (Nat.le_of_ble_eq_true rfl) (Nat.le_of_ble_eq_true rfl) (Nat.le_of_ble_eq_true rfl) rfl dX8_justOne_11 (show 0 + 0 ≤ 0 by omega) (show 0 + 0 ≤ 0 by omega) (fun vv ww H locs hRR B => ?_)
        obtain ⟨fl'_5, rfl, rfl, hRa⟩ := hRR
        have B : zB D (zT cI cZ cG cJ) A s.heap s [(A8 6, .inl (cI, 600, .inl ft)), (mm, .inr (10, zmo (nI th) (nI q) (nI g) (nI t) (nI r) (nI mb) (nI nc) (nI (nl0 + 1)) (nI pv) (nI va) (nI n3) (nI ve) (nI ed) (nI se) (nI ci) (nI mr) (nI mt) (nI ld) A8)), (A8 7, .inl (cI, 2400, .inl fl'_5))] _ _ := B
        refine W.eq (g2 := F0 m 14 ls []) rfl ?_
        refine lv_iinc (v := (nI (i + 1))) (lv' := [(3, .int (nI (i + 1))), (0, .ref mm), (1, .int (nI first)), (2, .int (nI n))]) F.1 F.2.1 dX8_justOne_14 hl (k := 3) rfl (by rw [show Int32.ofInt 1 = nI 1 from rfl, nI_add]) (by decide) rfl (fun ls hl => ?_)
        refine lv_goto (tgt := 2) F.1 F.2.1 dX8_justOne_17 (by decide) ?_
        exact ih2 (i + 1) (nl0 + 1) fl'_5 (by first | omega | (simp only [] at *; omega)) (by omega) (by omega) (by rw [List.range_succ, List.map_append, ← List.append_assoc]; exact hRa) _ _ _ (B.sub [1, 2, 0] rfl (rfl)) (lv_sub hl [1, 2, 3, 0] (rfl))
  exact loop2 (n - 0 + 1) 0 nl fl (Nat.lt_succ_self _) (by omega) (by omega) (by simpa using hF.1) _ _ _ (B.sub [0, 1, 2] rfl (rfl)) (lv_sub hl [1, 2, 3, 0] (rfl))
theorem yX8_alone_X8_is : yX8_is.cls = RX8 ∧ yX8_is.cls ≠ "java/lang/invoke/MethodHandle" ∧ yX8_is.cls ≠ "java/lang/invoke/VarHandle" ∧ (parseMethodDescriptor yX8_is.desc).map (fun d => d.parameters.length) = some 1 := by decide +kernel
theorem yX8_alone_X8_close : yX8_close.cls = RX8 ∧ yX8_close.cls ≠ "java/lang/invoke/MethodHandle" ∧ yX8_close.cls ≠ "java/lang/invoke/VarHandle" ∧ (parseMethodDescriptor yX8_close.desc).map (fun d => d.parameters.length) = some 0 := by decide +kernel
set_option maxHeartbeats 4000000 in
set_option maxRecDepth 100000 in
theorem kX8_alone (l : Launch) (D : va_G) (cI cZ cG cJ : ClassId) (mm : Nat) (th : Nat) (q : Nat) (g : Nat) (t : Nat) (r : Nat) (mb : Nat) (nc : Nat) (nl : Nat) (pv : Nat) (va : Nat) (n3 : Nat) (ve : Nat) (ed : Nat) (se : Nat) (ci : Nat) (mr : Nat) (mt : Nat) (ld : Nat) (A8 : Nat → Nat) (fl : Nat → Int32) (ft : Nat → Int32) (Cs : List (List Nat)) (x : Nat) (hF : zF fl nl ft (nc + 1) Cs) (hB : zBd (Cs ++ ([[2 * x]]))) : zC l yX8_alone wsX8_alone 1 21 0 0 D (zT cI cZ cG cJ) [.ref mm, .int (nI x)] [(mm, .inr (10, zmo (nI th) (nI q) (nI g) (nI t) (nI r) (nI mb) (nI nc) (nI nl) (nI pv) (nI va) (nI n3) (nI ve) (nI ed) (nI se) (nI ci) (nI mr) (nI mt) (nI ld) A8)), (A8 7, .inl (cI, 2400, .inl fl)), (A8 6, .inl (cI, 600, .inl ft))] (fun (ov : Option Value) (ow : va_W) => ∃ nl' : Nat, ∃ nc' : Nat, ∃ fl' : Nat → Int32, ∃ ft' : Nat → Int32, ov = none ∧ ow = [(mm, .inr (10, zmo (nI th) (nI q) (nI g) (nI t) (nI r) (nI mb) (nI nc') (nI nl') (nI pv) (nI va) (nI n3) (nI ve) (nI ed) (nI se) (nI ci) (nI mr) (nI mt) (nI ld) A8)), (A8 7, .inl (cI, 2400, .inl fl')), (A8 6, .inl (cI, 600, .inl ft'))] ∧ (zF fl' nl' ft' (nc' + 1) (Cs ++ ([[2 * x]])))) := by
  refine zC.of (cc := cX8_alone) (maxL := 2) (ret := none) (by decide) rfl (Nat.le_of_ble_eq_true rfl) ?_
  intro p e s m below meth c A ls F hr hlk hnm B hl
  have hl : lv_has ls 2 [(0, .ref mm), (1, .int (nI x))] := hl
  have hP0 : zF fl nl ft (nc + 1) (Cs ++ []) := by rw [List.append_nil]; exact hF
  refine lv_aload_n F.1 F.2.1 dX8_alone_0 rfl (lv_at hl 0 rfl) ?_
  refine lv_iload_n F.1 F.2.1 dX8_alone_1 rfl (lv_at hl 1 rfl) ?_
  have hbd2 := zBd_fit (P := []) (Q := [[2 * x]]) hB (⟨[], rfl⟩)
  obtain ⟨hbn2, hbc2⟩ := zBd_nl hP0 hbd2
  have hbn2 : nl + 1 ≤ 2400 := hbn2
  refine z_callV (wr := [(A8 6, .inl (cI, 600, .inl ft))]) (rest := []) (As := [.int (nI x)]) F B (kX8_is l D cI cZ cG cJ mm th q g t r mb nc nl pv va n3 ve ed se ci mr mt ld A8 fl ((Cs ++ ([])).flatten) x (hP0.1) (by omega)) hl.1 (C := RX8) (T := TX8) (N := 37) (ci := 10) (q0 := 0) gX8_alone_X8_is rfl 1 yX8_alone_X8_is rfl rfl rfl [0, 1] [2] rfl rfl rfl rfl (by decide) (Nat.le_of_ble_eq_true rfl) (Nat.le_of_ble_eq_true rfl) (Nat.le_of_ble_eq_true rfl) rfl dX8_alone_2 (show 0 + 0 ≤ 0 by omega) (show 0 + 0 ≤ 0 by omega) (fun vv ww H locs hRR B => ?_)
  obtain ⟨fl'_1, rfl, rfl, hr2_1⟩ := hRR
  have B : zB D (zT cI cZ cG cJ) A s.heap s [(A8 6, .inl (cI, 600, .inl ft)), (mm, .inr (10, zmo (nI th) (nI q) (nI g) (nI t) (nI r) (nI mb) (nI nc) (nI (nl + 1)) (nI pv) (nI va) (nI n3) (nI ve) (nI ed) (nI se) (nI ci) (nI mr) (nI mt) (nI ld) A8)), (A8 7, .inl (cI, 2400, .inl fl'_1))] _ _ := B
  refine W.eq (g2 := F0 m 5 ls []) rfl ?_
  refine lv_aload_n F.1 F.2.1 dX8_alone_5 rfl (lv_at hl 0 rfl) ?_
  have hrc2 : zR fl'_1 (nl + 1) ((Cs ++ ([])).flatten ++ [2 * x]) := by have q9 := hr2_1; first | exact q9 | (simp only [List.append_assoc, List.cons_append, List.nil_append] at q9 ⊢; exact q9)
  refine z_callV (wr := [(A8 7, .inl (cI, 2400, .inl fl'_1))]) (rest := []) (As := []) F B (kX8_close l D cI cZ cG cJ mm th q g t r mb nc (nl + 1) pv va n3 ve ed se ci mr mt ld A8 fl'_1 ft (Cs ++ ([])) ([2 * x]) (hP0.2) (hrc2) (by omega)) hl.1 (C := RX8) (T := TX8) (N := 37) (ci := 10) (q0 := 1) gX8_alone_X8_close rfl 0 yX8_alone_X8_close rfl rfl rfl [1, 0] [2] rfl rfl rfl rfl (by decide) (Nat.le_of_ble_eq_true rfl) (Nat.le_of_ble_eq_true rfl) (Nat.le_of_ble_eq_true rfl) rfl dX8_alone_6 (show 0 + 0 ≤ 0 by omega) (show 0 + 0 ≤ 0 by omega) (fun vv ww H locs hRR B => ?_)
  obtain ⟨ft'_2, rfl, rfl, hfc2x⟩ := hRR
  have B : zB D (zT cI cZ cG cJ) A s.heap s [(A8 7, .inl (cI, 2400, .inl fl'_1)), (mm, .inr (10, zmo (nI th) (nI q) (nI g) (nI t) (nI r) (nI mb) (nI (nc + 1)) (nI (nl + 1)) (nI pv) (nI va) (nI n3) (nI ve) (nI ed) (nI se) (nI ci) (nI mr) (nI mt) (nI ld) A8)), (A8 6, .inl (cI, 600, .inl ft'_2))] _ _ := B
  refine W.eq (g2 := F0 m 9 ls []) rfl ?_
  have hfc2 : zF fl'_1 (nl + 1) ft'_2 (nc + 1 + 1) (Cs ++ (([]) ++ [[2 * x]])) := by rw [← List.append_assoc]; exact hfc2x
  exact z_vret F hr hlk B [1, 0, 2] rfl (rfl) dX8_alone_9 (by omega) (by omega) ⟨(nl + 1), (nc + 1), fl'_1, ft'_2, rfl, rfl, ((show ([]) ++ [[2 * x]] = [[2 * x]] from by rfl) ▸ hfc2)⟩
theorem yX8_brings_X8_not : yX8_not.cls = RX8 ∧ yX8_not.cls ≠ "java/lang/invoke/MethodHandle" ∧ yX8_not.cls ≠ "java/lang/invoke/VarHandle" ∧ (parseMethodDescriptor yX8_not.desc).map (fun d => d.parameters.length) = some 1 := by decide +kernel
theorem yX8_brings_X8_is : yX8_is.cls = RX8 ∧ yX8_is.cls ≠ "java/lang/invoke/MethodHandle" ∧ yX8_is.cls ≠ "java/lang/invoke/VarHandle" ∧ (parseMethodDescriptor yX8_is.desc).map (fun d => d.parameters.length) = some 1 := by decide +kernel
theorem yX8_brings_X8_close : yX8_close.cls = RX8 ∧ yX8_close.cls ≠ "java/lang/invoke/MethodHandle" ∧ yX8_close.cls ≠ "java/lang/invoke/VarHandle" ∧ (parseMethodDescriptor yX8_close.desc).map (fun d => d.parameters.length) = some 0 := by decide +kernel
set_option maxHeartbeats 4000000 in
set_option maxRecDepth 100000 in
theorem kX8_brings (l : Launch) (D : va_G) (cI cZ cG cJ : ClassId) (mm : Nat) (th : Nat) (q : Nat) (g : Nat) (t : Nat) (r : Nat) (mb : Nat) (nc : Nat) (nl : Nat) (pv : Nat) (va : Nat) (n3 : Nat) (ve : Nat) (ed : Nat) (se : Nat) (ci : Nat) (mr : Nat) (mt : Nat) (ld : Nat) (A8 : Nat → Nat) (fl : Nat → Int32) (ft : Nat → Int32) (Cs : List (List Nat)) (a : Nat) (x : Nat) (hF : zF fl nl ft (nc + 1) Cs) (hB : zBd (Cs ++ ([[2 * a + 1, 2 * x]]))) : zC l yX8_brings wsX8_brings 1 21 0 0 D (zT cI cZ cG cJ) [.ref mm, .int (nI a), .int (nI x)] [(mm, .inr (10, zmo (nI th) (nI q) (nI g) (nI t) (nI r) (nI mb) (nI nc) (nI nl) (nI pv) (nI va) (nI n3) (nI ve) (nI ed) (nI se) (nI ci) (nI mr) (nI mt) (nI ld) A8)), (A8 7, .inl (cI, 2400, .inl fl)), (A8 6, .inl (cI, 600, .inl ft))] (fun (ov : Option Value) (ow : va_W) => ∃ nl' : Nat, ∃ nc' : Nat, ∃ fl' : Nat → Int32, ∃ ft' : Nat → Int32, ov = none ∧ ow = [(mm, .inr (10, zmo (nI th) (nI q) (nI g) (nI t) (nI r) (nI mb) (nI nc') (nI nl') (nI pv) (nI va) (nI n3) (nI ve) (nI ed) (nI se) (nI ci) (nI mr) (nI mt) (nI ld) A8)), (A8 7, .inl (cI, 2400, .inl fl')), (A8 6, .inl (cI, 600, .inl ft'))] ∧ (zF fl' nl' ft' (nc' + 1) (Cs ++ ([[2 * a + 1, 2 * x]])))) := by
  refine zC.of (cc := cX8_brings) (maxL := 3) (ret := none) (by decide) rfl (Nat.le_of_ble_eq_true rfl) ?_
  intro p e s m below meth c A ls F hr hlk hnm B hl
  have hl : lv_has ls 3 [(0, .ref mm), (1, .int (nI a)), (2, .int (nI x))] := hl
  have hP0 : zF fl nl ft (nc + 1) (Cs ++ []) := by rw [List.append_nil]; exact hF
  refine lv_aload_n F.1 F.2.1 dX8_brings_0 rfl (lv_at hl 0 rfl) ?_
  refine lv_iload_n F.1 F.2.1 dX8_brings_1 rfl (lv_at hl 1 rfl) ?_
  have hbd3 := zBd_fit (P := []) (Q := [[2 * a + 1, 2 * x]]) hB (⟨[], rfl⟩)
  obtain ⟨hbn3, hbc3⟩ := zBd_nl hP0 hbd3
  have hbn3 : nl + 2 ≤ 2400 := hbn3
  refine z_callV (wr := [(A8 6, .inl (cI, 600, .inl ft))]) (rest := []) (As := [.int (nI a)]) F B (kX8_not l D cI cZ cG cJ mm th q g t r mb nc nl pv va n3 ve ed se ci mr mt ld A8 fl ((Cs ++ ([])).flatten) a (hP0.1) (by omega)) hl.1 (C := RX8) (T := TX8) (N := 37) (ci := 10) (q0 := 0) gX8_brings_X8_not rfl 1 yX8_brings_X8_not rfl rfl rfl [0, 1] [2] rfl rfl rfl rfl (by decide) (Nat.le_of_ble_eq_true rfl) (Nat.le_of_ble_eq_true rfl) (Nat.le_of_ble_eq_true rfl) rfl dX8_brings_2 (show 0 + 0 ≤ 0 by omega) (show 0 + 0 ≤ 0 by omega) (fun vv ww H locs hRR B => ?_)
  obtain ⟨fl'_1, rfl, rfl, hr3_1⟩ := hRR
  have B : zB D (zT cI cZ cG cJ) A s.heap s [(A8 6, .inl (cI, 600, .inl ft)), (mm, .inr (10, zmo (nI th) (nI q) (nI g) (nI t) (nI r) (nI mb) (nI nc) (nI (nl + 1)) (nI pv) (nI va) (nI n3) (nI ve) (nI ed) (nI se) (nI ci) (nI mr) (nI mt) (nI ld) A8)), (A8 7, .inl (cI, 2400, .inl fl'_1))] _ _ := B
  refine W.eq (g2 := F0 m 5 ls []) rfl ?_
  refine lv_aload_n F.1 F.2.1 dX8_brings_5 rfl (lv_at hl 0 rfl) ?_
  refine lv_iload_n F.1 F.2.1 dX8_brings_6 rfl (lv_at hl 2 rfl) ?_
  refine z_callV (wr := [(A8 6, .inl (cI, 600, .inl ft))]) (rest := []) (As := [.int (nI x)]) F B (kX8_is l D cI cZ cG cJ mm th q g t r mb nc (nl + 1) pv va n3 ve ed se ci mr mt ld A8 fl'_1 ((Cs ++ ([])).flatten ++ [2 * a + 1]) x (hr3_1) (by omega)) hl.1 (C := RX8) (T := TX8) (N := 37) (ci := 10) (q0 := 1) gX8_brings_X8_is rfl 1 yX8_brings_X8_is rfl rfl rfl [1, 2] [0] rfl rfl rfl rfl (by decide) (Nat.le_of_ble_eq_true rfl) (Nat.le_of_ble_eq_true rfl) (Nat.le_of_ble_eq_true rfl) rfl dX8_brings_7 (show 0 + 0 ≤ 0 by omega) (show 0 + 0 ≤ 0 by omega) (fun vv ww H locs hRR B => ?_)
  obtain ⟨fl'_2, rfl, rfl, hr3_2⟩ := hRR
  have B : zB D (zT cI cZ cG cJ) A s.heap s [(A8 6, .inl (cI, 600, .inl ft)), (mm, .inr (10, zmo (nI th) (nI q) (nI g) (nI t) (nI r) (nI mb) (nI nc) (nI ((nl + 1) + 1)) (nI pv) (nI va) (nI n3) (nI ve) (nI ed) (nI se) (nI ci) (nI mr) (nI mt) (nI ld) A8)), (A8 7, .inl (cI, 2400, .inl fl'_2))] _ _ := B
  refine W.eq (g2 := F0 m 10 ls []) rfl ?_
  refine lv_aload_n F.1 F.2.1 dX8_brings_10 rfl (lv_at hl 0 rfl) ?_
  have hrc3 : zR fl'_2 ((nl + 1) + 1) ((Cs ++ ([])).flatten ++ [2 * a + 1, 2 * x]) := by have q9 := hr3_2; first | exact q9 | (simp only [List.append_assoc, List.cons_append, List.nil_append] at q9 ⊢; exact q9)
  refine z_callV (wr := [(A8 7, .inl (cI, 2400, .inl fl'_2))]) (rest := []) (As := []) F B (kX8_close l D cI cZ cG cJ mm th q g t r mb nc ((nl + 1) + 1) pv va n3 ve ed se ci mr mt ld A8 fl'_2 ft (Cs ++ ([])) ([2 * a + 1, 2 * x]) (hP0.2) (hrc3) (by omega)) hl.1 (C := RX8) (T := TX8) (N := 37) (ci := 10) (q0 := 1) gX8_brings_X8_close rfl 0 yX8_brings_X8_close rfl rfl rfl [1, 0] [2] rfl rfl rfl rfl (by decide) (Nat.le_of_ble_eq_true rfl) (Nat.le_of_ble_eq_true rfl) (Nat.le_of_ble_eq_true rfl) rfl dX8_brings_11 (show 0 + 0 ≤ 0 by omega) (show 0 + 0 ≤ 0 by omega) (fun vv ww H locs hRR B => ?_)
  obtain ⟨ft'_3, rfl, rfl, hfc3x⟩ := hRR
  have B : zB D (zT cI cZ cG cJ) A s.heap s [(A8 7, .inl (cI, 2400, .inl fl'_2)), (mm, .inr (10, zmo (nI th) (nI q) (nI g) (nI t) (nI r) (nI mb) (nI (nc + 1)) (nI ((nl + 1) + 1)) (nI pv) (nI va) (nI n3) (nI ve) (nI ed) (nI se) (nI ci) (nI mr) (nI mt) (nI ld) A8)), (A8 6, .inl (cI, 600, .inl ft'_3))] _ _ := B
  refine W.eq (g2 := F0 m 14 ls []) rfl ?_
  have hfc3 : zF fl'_2 ((nl + 1) + 1) ft'_3 (nc + 1 + 1) (Cs ++ (([]) ++ [[2 * a + 1, 2 * x]])) := by rw [← List.append_assoc]; exact hfc3x
  exact z_vret F hr hlk B [1, 0, 2] rfl (rfl) dX8_brings_14 (by omega) (by omega) ⟨((nl + 1) + 1), (nc + 1), fl'_2, ft'_3, rfl, rfl, ((show ([]) ++ [[2 * a + 1, 2 * x]] = [[2 * a + 1, 2 * x]] from by rfl) ▸ hfc3)⟩
theorem yX8_bringsAt_X8_not : yX8_not.cls = RX8 ∧ yX8_not.cls ≠ "java/lang/invoke/MethodHandle" ∧ yX8_not.cls ≠ "java/lang/invoke/VarHandle" ∧ (parseMethodDescriptor yX8_not.desc).map (fun d => d.parameters.length) = some 1 := by decide +kernel
theorem yX8_bringsAt_X8_is : yX8_is.cls = RX8 ∧ yX8_is.cls ≠ "java/lang/invoke/MethodHandle" ∧ yX8_is.cls ≠ "java/lang/invoke/VarHandle" ∧ (parseMethodDescriptor yX8_is.desc).map (fun d => d.parameters.length) = some 1 := by decide +kernel
theorem yX8_bringsAt_X8_close : yX8_close.cls = RX8 ∧ yX8_close.cls ≠ "java/lang/invoke/MethodHandle" ∧ yX8_close.cls ≠ "java/lang/invoke/VarHandle" ∧ (parseMethodDescriptor yX8_close.desc).map (fun d => d.parameters.length) = some 0 := by decide +kernel
set_option maxHeartbeats 4000000 in
set_option maxRecDepth 100000 in
theorem kX8_bringsAtA (l : Launch) (D : va_G) (cI cZ cG cJ : ClassId) (mm : Nat) (th : Nat) (q : Nat) (g : Nat) (t : Nat) (r : Nat) (mb : Nat) (nc : Nat) (nl : Nat) (pv : Nat) (va : Nat) (n3 : Nat) (ve : Nat) (ed : Nat) (se : Nat) (ci : Nat) (mr : Nat) (mt : Nat) (ld : Nat) (A8 : Nat → Nat) (fl : Nat → Int32) (ft : Nat → Int32) (Cs : List (List Nat)) (a : Nat) (b : Nat) (x : Nat) (hF : zF fl nl ft (nc + 1) Cs) (hB : zBd (Cs ++ ([[2 * a + 1, 2 * b + 1, 2 * x]]))) (hx : x < 2 ^ 31) : zC l yX8_bringsAt wsX8_bringsAt 1 21 0 0 D (zT cI cZ cG cJ) [.ref mm, .int (nI a), .int (nI b), .int (nI x)] [(mm, .inr (10, zmo (nI th) (nI q) (nI g) (nI t) (nI r) (nI mb) (nI nc) (nI nl) (nI pv) (nI va) (nI n3) (nI ve) (nI ed) (nI se) (nI ci) (nI mr) (nI mt) (nI ld) A8)), (A8 7, .inl (cI, 2400, .inl fl)), (A8 6, .inl (cI, 600, .inl ft))] (fun (ov : Option Value) (ow : va_W) => ∃ nl' : Nat, ∃ nc' : Nat, ∃ fl' : Nat → Int32, ∃ ft' : Nat → Int32, ov = none ∧ ow = [(mm, .inr (10, zmo (nI th) (nI q) (nI g) (nI t) (nI r) (nI mb) (nI nc') (nI nl') (nI pv) (nI va) (nI n3) (nI ve) (nI ed) (nI se) (nI ci) (nI mr) (nI mt) (nI ld) A8)), (A8 7, .inl (cI, 2400, .inl fl')), (A8 6, .inl (cI, 600, .inl ft'))] ∧ (zF fl' nl' ft' (nc' + 1) (Cs ++ ([[2 * a + 1, 2 * b + 1, 2 * x]])))) := by
  refine zC.of (cc := cX8_bringsAt) (maxL := 4) (ret := none) (by decide) rfl (Nat.le_of_ble_eq_true rfl) ?_
  intro p e s m below meth c A ls F hr hlk hnm B hl
  have hl : lv_has ls 4 [(0, .ref mm), (1, .int (nI a)), (2, .int (nI b)), (3, .int (nI x))] := hl
  have hP0 : zF fl nl ft (nc + 1) (Cs ++ []) := by rw [List.append_nil]; exact hF
  refine lv_aload_n F.1 F.2.1 dX8_bringsAt_0 rfl (lv_at hl 0 rfl) ?_
  refine lv_iload_n F.1 F.2.1 dX8_bringsAt_1 rfl (lv_at hl 1 rfl) ?_
  have hbd4 := zBd_fit (P := []) (Q := [[2 * a + 1, 2 * b + 1, 2 * x]]) hB (⟨[], rfl⟩)
  obtain ⟨hbn4, hbc4⟩ := zBd_nl hP0 hbd4
  have hbn4 : nl + 3 ≤ 2400 := hbn4
  refine z_callV (wr := [(A8 6, .inl (cI, 600, .inl ft))]) (rest := []) (As := [.int (nI a)]) F B (kX8_not l D cI cZ cG cJ mm th q g t r mb nc nl pv va n3 ve ed se ci mr mt ld A8 fl ((Cs ++ ([])).flatten) a (hP0.1) (by omega)) hl.1 (C := RX8) (T := TX8) (N := 37) (ci := 10) (q0 := 0) gX8_bringsAt_X8_not rfl 1 yX8_bringsAt_X8_not rfl rfl rfl [0, 1] [2] rfl rfl rfl rfl (by decide) (Nat.le_of_ble_eq_true rfl) (Nat.le_of_ble_eq_true rfl) (Nat.le_of_ble_eq_true rfl) rfl dX8_bringsAt_2 (show 0 + 0 ≤ 0 by omega) (show 0 + 0 ≤ 0 by omega) (fun vv ww H locs hRR B => ?_)
  obtain ⟨fl'_1, rfl, rfl, hr4_1⟩ := hRR
  have B : zB D (zT cI cZ cG cJ) A s.heap s [(A8 6, .inl (cI, 600, .inl ft)), (mm, .inr (10, zmo (nI th) (nI q) (nI g) (nI t) (nI r) (nI mb) (nI nc) (nI (nl + 1)) (nI pv) (nI va) (nI n3) (nI ve) (nI ed) (nI se) (nI ci) (nI mr) (nI mt) (nI ld) A8)), (A8 7, .inl (cI, 2400, .inl fl'_1))] _ _ := B
  refine W.eq (g2 := F0 m 5 ls []) rfl ?_
  refine lv_aload_n F.1 F.2.1 dX8_bringsAt_5 rfl (lv_at hl 0 rfl) ?_
  refine lv_iload_n F.1 F.2.1 dX8_bringsAt_6 rfl (lv_at hl 2 rfl) ?_
  refine z_callV (wr := [(A8 6, .inl (cI, 600, .inl ft))]) (rest := []) (As := [.int (nI b)]) F B (kX8_not l D cI cZ cG cJ mm th q g t r mb nc (nl + 1) pv va n3 ve ed se ci mr mt ld A8 fl'_1 ((Cs ++ ([])).flatten ++ [2 * a + 1]) b (hr4_1) (by omega)) hl.1 (C := RX8) (T := TX8) (N := 37) (ci := 10) (q0 := 1) gX8_bringsAt_X8_not rfl 1 yX8_bringsAt_X8_not rfl rfl rfl [1, 2] [0] rfl rfl rfl rfl (by decide) (Nat.le_of_ble_eq_true rfl) (Nat.le_of_ble_eq_true rfl) (Nat.le_of_ble_eq_true rfl) rfl dX8_bringsAt_7 (show 0 + 0 ≤ 0 by omega) (show 0 + 0 ≤ 0 by omega) (fun vv ww H locs hRR B => ?_)
  obtain ⟨fl'_2, rfl, rfl, hr4_2⟩ := hRR
  have B : zB D (zT cI cZ cG cJ) A s.heap s [(A8 6, .inl (cI, 600, .inl ft)), (mm, .inr (10, zmo (nI th) (nI q) (nI g) (nI t) (nI r) (nI mb) (nI nc) (nI ((nl + 1) + 1)) (nI pv) (nI va) (nI n3) (nI ve) (nI ed) (nI se) (nI ci) (nI mr) (nI mt) (nI ld) A8)), (A8 7, .inl (cI, 2400, .inl fl'_2))] _ _ := B
  refine W.eq (g2 := F0 m 10 ls []) rfl ?_
  refine lv_iload_n F.1 F.2.1 dX8_bringsAt_10 rfl (lv_at hl 3 rfl) ?_
  refine z_if_lt (tgt := 19) F (by omega) dX8_bringsAt_11 (by decide) (fun c11 => ?_) (fun c11 => ?_)
  · exact absurd c11 (by omega)
  · refine lv_aload_n F.1 F.2.1 dX8_bringsAt_14 rfl (lv_at hl 0 rfl) ?_
    refine lv_iload_n F.1 F.2.1 dX8_bringsAt_15 rfl (lv_at hl 3 rfl) ?_
    refine z_callV (wr := [(A8 6, .inl (cI, 600, .inl ft))]) (rest := []) (As := [.int (nI x)]) F B (kX8_is l D cI cZ cG cJ mm th q g t r mb nc ((nl + 1) + 1) pv va n3 ve ed se ci mr mt ld A8 fl'_2 ((Cs ++ ([])).flatten ++ [2 * a + 1] ++ [2 * b + 1]) x (hr4_2) (by omega)) hl.1 (C := RX8) (T := TX8) (N := 37) (ci := 10) (q0 := 1) gX8_bringsAt_X8_is rfl 1 yX8_bringsAt_X8_is rfl rfl rfl [1, 2] [0] rfl rfl rfl rfl (by decide) (Nat.le_of_ble_eq_true rfl) (Nat.le_of_ble_eq_true rfl) (Nat.le_of_ble_eq_true rfl) rfl dX8_bringsAt_16 (show 0 + 0 ≤ 0 by omega) (show 0 + 0 ≤ 0 by omega) (fun vv ww H locs hRR B => ?_)
    obtain ⟨fl'_3, rfl, rfl, hr4_3⟩ := hRR
    have B : zB D (zT cI cZ cG cJ) A s.heap s [(A8 6, .inl (cI, 600, .inl ft)), (mm, .inr (10, zmo (nI th) (nI q) (nI g) (nI t) (nI r) (nI mb) (nI nc) (nI (((nl + 1) + 1) + 1)) (nI pv) (nI va) (nI n3) (nI ve) (nI ed) (nI se) (nI ci) (nI mr) (nI mt) (nI ld) A8)), (A8 7, .inl (cI, 2400, .inl fl'_3))] _ _ := B
    refine W.eq (g2 := F0 m 19 ls []) rfl ?_
    refine lv_aload_n F.1 F.2.1 dX8_bringsAt_19 rfl (lv_at hl 0 rfl) ?_
    have hrc4 : zR fl'_3 (((nl + 1) + 1) + 1) ((Cs ++ ([])).flatten ++ [2 * a + 1, 2 * b + 1, 2 * x]) := by have q9 := hr4_3; first | exact q9 | (simp only [List.append_assoc, List.cons_append, List.nil_append] at q9 ⊢; exact q9)
    refine z_callV (wr := [(A8 7, .inl (cI, 2400, .inl fl'_3))]) (rest := []) (As := []) F B (kX8_close l D cI cZ cG cJ mm th q g t r mb nc (((nl + 1) + 1) + 1) pv va n3 ve ed se ci mr mt ld A8 fl'_3 ft (Cs ++ ([])) ([2 * a + 1, 2 * b + 1, 2 * x]) (hP0.2) (hrc4) (by omega)) hl.1 (C := RX8) (T := TX8) (N := 37) (ci := 10) (q0 := 1) gX8_bringsAt_X8_close rfl 0 yX8_bringsAt_X8_close rfl rfl rfl [1, 0] [2] rfl rfl rfl rfl (by decide) (Nat.le_of_ble_eq_true rfl) (Nat.le_of_ble_eq_true rfl) (Nat.le_of_ble_eq_true rfl) rfl dX8_bringsAt_20 (show 0 + 0 ≤ 0 by omega) (show 0 + 0 ≤ 0 by omega) (fun vv ww H locs hRR B => ?_)
    obtain ⟨ft'_4, rfl, rfl, hfc4x⟩ := hRR
    have B : zB D (zT cI cZ cG cJ) A s.heap s [(A8 7, .inl (cI, 2400, .inl fl'_3)), (mm, .inr (10, zmo (nI th) (nI q) (nI g) (nI t) (nI r) (nI mb) (nI (nc + 1)) (nI (((nl + 1) + 1) + 1)) (nI pv) (nI va) (nI n3) (nI ve) (nI ed) (nI se) (nI ci) (nI mr) (nI mt) (nI ld) A8)), (A8 6, .inl (cI, 600, .inl ft'_4))] _ _ := B
    refine W.eq (g2 := F0 m 23 ls []) rfl ?_
    have hfc4 : zF fl'_3 (((nl + 1) + 1) + 1) ft'_4 (nc + 1 + 1) (Cs ++ (([]) ++ [[2 * a + 1, 2 * b + 1, 2 * x]])) := by rw [← List.append_assoc]; exact hfc4x
    exact z_vret F hr hlk B [1, 0, 2] rfl (rfl) dX8_bringsAt_23 (by omega) (by omega) ⟨(((nl + 1) + 1) + 1), (nc + 1), fl'_3, ft'_4, rfl, rfl, ((show ([]) ++ [[2 * a + 1, 2 * b + 1, 2 * x]] = [[2 * a + 1, 2 * b + 1, 2 * x]] from by rfl) ▸ hfc4)⟩
set_option maxHeartbeats 4000000 in
set_option maxRecDepth 100000 in
theorem kX8_bringsAtB (l : Launch) (D : va_G) (cI cZ cG cJ : ClassId) (mm : Nat) (th : Nat) (q : Nat) (g : Nat) (t : Nat) (r : Nat) (mb : Nat) (nc : Nat) (nl : Nat) (pv : Nat) (va : Nat) (n3 : Nat) (ve : Nat) (ed : Nat) (se : Nat) (ci : Nat) (mr : Nat) (mt : Nat) (ld : Nat) (A8 : Nat → Nat) (fl : Nat → Int32) (ft : Nat → Int32) (Cs : List (List Nat)) (a : Nat) (b : Nat) (hF : zF fl nl ft (nc + 1) Cs) (hB : zBd (Cs ++ ([[2 * a + 1, 2 * b + 1]]))) : zC l yX8_bringsAt wsX8_bringsAt 1 21 0 0 D (zT cI cZ cG cJ) [.ref mm, .int (nI a), .int (nI b), .int (-1)] [(mm, .inr (10, zmo (nI th) (nI q) (nI g) (nI t) (nI r) (nI mb) (nI nc) (nI nl) (nI pv) (nI va) (nI n3) (nI ve) (nI ed) (nI se) (nI ci) (nI mr) (nI mt) (nI ld) A8)), (A8 7, .inl (cI, 2400, .inl fl)), (A8 6, .inl (cI, 600, .inl ft))] (fun (ov : Option Value) (ow : va_W) => ∃ nl' : Nat, ∃ nc' : Nat, ∃ fl' : Nat → Int32, ∃ ft' : Nat → Int32, ov = none ∧ ow = [(mm, .inr (10, zmo (nI th) (nI q) (nI g) (nI t) (nI r) (nI mb) (nI nc') (nI nl') (nI pv) (nI va) (nI n3) (nI ve) (nI ed) (nI se) (nI ci) (nI mr) (nI mt) (nI ld) A8)), (A8 7, .inl (cI, 2400, .inl fl')), (A8 6, .inl (cI, 600, .inl ft'))] ∧ (zF fl' nl' ft' (nc' + 1) (Cs ++ ([[2 * a + 1, 2 * b + 1]])))) := by
  refine zC.of (cc := cX8_bringsAt) (maxL := 4) (ret := none) (by decide) rfl (Nat.le_of_ble_eq_true rfl) ?_
  intro p e s m below meth c A ls F hr hlk hnm B hl
  have hl : lv_has ls 4 [(0, .ref mm), (1, .int (nI a)), (2, .int (nI b)), (3, .int (-1))] := hl
  have hP0 : zF fl nl ft (nc + 1) (Cs ++ []) := by rw [List.append_nil]; exact hF
  refine lv_aload_n F.1 F.2.1 dX8_bringsAt_0 rfl (lv_at hl 0 rfl) ?_
  refine lv_iload_n F.1 F.2.1 dX8_bringsAt_1 rfl (lv_at hl 1 rfl) ?_
  have hbd5 := zBd_fit (P := []) (Q := [[2 * a + 1, 2 * b + 1]]) hB (⟨[], rfl⟩)
  obtain ⟨hbn5, hbc5⟩ := zBd_nl hP0 hbd5
  have hbn5 : nl + 2 ≤ 2400 := hbn5
  refine z_callV (wr := [(A8 6, .inl (cI, 600, .inl ft))]) (rest := []) (As := [.int (nI a)]) F B (kX8_not l D cI cZ cG cJ mm th q g t r mb nc nl pv va n3 ve ed se ci mr mt ld A8 fl ((Cs ++ ([])).flatten) a (hP0.1) (by omega)) hl.1 (C := RX8) (T := TX8) (N := 37) (ci := 10) (q0 := 0) gX8_bringsAt_X8_not rfl 1 yX8_bringsAt_X8_not rfl rfl rfl [0, 1] [2] rfl rfl rfl rfl (by decide) (Nat.le_of_ble_eq_true rfl) (Nat.le_of_ble_eq_true rfl) (Nat.le_of_ble_eq_true rfl) rfl dX8_bringsAt_2 (show 0 + 0 ≤ 0 by omega) (show 0 + 0 ≤ 0 by omega) (fun vv ww H locs hRR B => ?_)
  obtain ⟨fl'_1, rfl, rfl, hr5_1⟩ := hRR
  have B : zB D (zT cI cZ cG cJ) A s.heap s [(A8 6, .inl (cI, 600, .inl ft)), (mm, .inr (10, zmo (nI th) (nI q) (nI g) (nI t) (nI r) (nI mb) (nI nc) (nI (nl + 1)) (nI pv) (nI va) (nI n3) (nI ve) (nI ed) (nI se) (nI ci) (nI mr) (nI mt) (nI ld) A8)), (A8 7, .inl (cI, 2400, .inl fl'_1))] _ _ := B
  refine W.eq (g2 := F0 m 5 ls []) rfl ?_
  refine lv_aload_n F.1 F.2.1 dX8_bringsAt_5 rfl (lv_at hl 0 rfl) ?_
  refine lv_iload_n F.1 F.2.1 dX8_bringsAt_6 rfl (lv_at hl 2 rfl) ?_
  refine z_callV (wr := [(A8 6, .inl (cI, 600, .inl ft))]) (rest := []) (As := [.int (nI b)]) F B (kX8_not l D cI cZ cG cJ mm th q g t r mb nc (nl + 1) pv va n3 ve ed se ci mr mt ld A8 fl'_1 ((Cs ++ ([])).flatten ++ [2 * a + 1]) b (hr5_1) (by omega)) hl.1 (C := RX8) (T := TX8) (N := 37) (ci := 10) (q0 := 1) gX8_bringsAt_X8_not rfl 1 yX8_bringsAt_X8_not rfl rfl rfl [1, 2] [0] rfl rfl rfl rfl (by decide) (Nat.le_of_ble_eq_true rfl) (Nat.le_of_ble_eq_true rfl) (Nat.le_of_ble_eq_true rfl) rfl dX8_bringsAt_7 (show 0 + 0 ≤ 0 by omega) (show 0 + 0 ≤ 0 by omega) (fun vv ww H locs hRR B => ?_)
  obtain ⟨fl'_2, rfl, rfl, hr5_2⟩ := hRR
  have B : zB D (zT cI cZ cG cJ) A s.heap s [(A8 6, .inl (cI, 600, .inl ft)), (mm, .inr (10, zmo (nI th) (nI q) (nI g) (nI t) (nI r) (nI mb) (nI nc) (nI ((nl + 1) + 1)) (nI pv) (nI va) (nI n3) (nI ve) (nI ed) (nI se) (nI ci) (nI mr) (nI mt) (nI ld) A8)), (A8 7, .inl (cI, 2400, .inl fl'_2))] _ _ := B
  refine W.eq (g2 := F0 m 10 ls []) rfl ?_
  refine lv_iload_n F.1 F.2.1 dX8_bringsAt_10 rfl (lv_at hl 3 rfl) ?_
  refine lv_if_lt (tgt := 19) F.1 F.2.1 dX8_bringsAt_11 (by decide) (fun c11 => ?_) (fun c11 => ?_)
  · refine lv_aload_n F.1 F.2.1 dX8_bringsAt_19 rfl (lv_at hl 0 rfl) ?_
    have hrc5 : zR fl'_2 ((nl + 1) + 1) ((Cs ++ ([])).flatten ++ [2 * a + 1, 2 * b + 1]) := by have q9 := hr5_2; first | exact q9 | (simp only [List.append_assoc, List.cons_append, List.nil_append] at q9 ⊢; exact q9)
    refine z_callV (wr := [(A8 7, .inl (cI, 2400, .inl fl'_2))]) (rest := []) (As := []) F B (kX8_close l D cI cZ cG cJ mm th q g t r mb nc ((nl + 1) + 1) pv va n3 ve ed se ci mr mt ld A8 fl'_2 ft (Cs ++ ([])) ([2 * a + 1, 2 * b + 1]) (hP0.2) (hrc5) (by omega)) hl.1 (C := RX8) (T := TX8) (N := 37) (ci := 10) (q0 := 1) gX8_bringsAt_X8_close rfl 0 yX8_bringsAt_X8_close rfl rfl rfl [1, 0] [2] rfl rfl rfl rfl (by decide) (Nat.le_of_ble_eq_true rfl) (Nat.le_of_ble_eq_true rfl) (Nat.le_of_ble_eq_true rfl) rfl dX8_bringsAt_20 (show 0 + 0 ≤ 0 by omega) (show 0 + 0 ≤ 0 by omega) (fun vv ww H locs hRR B => ?_)
    obtain ⟨ft'_3, rfl, rfl, hfc5x⟩ := hRR
    have B : zB D (zT cI cZ cG cJ) A s.heap s [(A8 7, .inl (cI, 2400, .inl fl'_2)), (mm, .inr (10, zmo (nI th) (nI q) (nI g) (nI t) (nI r) (nI mb) (nI (nc + 1)) (nI ((nl + 1) + 1)) (nI pv) (nI va) (nI n3) (nI ve) (nI ed) (nI se) (nI ci) (nI mr) (nI mt) (nI ld) A8)), (A8 6, .inl (cI, 600, .inl ft'_3))] _ _ := B
    refine W.eq (g2 := F0 m 23 ls []) rfl ?_
    have hfc5 : zF fl'_2 ((nl + 1) + 1) ft'_3 (nc + 1 + 1) (Cs ++ (([]) ++ [[2 * a + 1, 2 * b + 1]])) := by rw [← List.append_assoc]; exact hfc5x
    exact z_vret F hr hlk B [1, 0, 2] rfl (rfl) dX8_bringsAt_23 (by omega) (by omega) ⟨((nl + 1) + 1), (nc + 1), fl'_2, ft'_3, rfl, rfl, ((show ([]) ++ [[2 * a + 1, 2 * b + 1]] = [[2 * a + 1, 2 * b + 1]] from by rfl) ▸ hfc5)⟩
  · exact absurd (by decide) c11
