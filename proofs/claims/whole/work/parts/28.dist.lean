/-! CONTRACTS of Graph.leadsTo, distance -/
theorem nx_xorP (a b : Nat) : nI a ^^^ nI b = nI (a ^^^ b) := by
  apply Int32.toBitVec_inj.1
  show BitVec.ofNat 32 a ^^^ BitVec.ofNat 32 b = BitVec.ofNat 32 (a ^^^ b)
  apply BitVec.eq_of_getLsbD_eq
  intro i hi
  simp [hi]
/-- the other side of the same edge -/
def zx1 (d : Nat) : Nat := if d % 2 = 0 then d + 1 else d - 1
theorem zx1_le (d : Nat) : zx1 d ≤ d + 1 := by
  unfold zx1
  split <;> omega
theorem zxor1 (d : Nat) : nI d ^^^ nI 1 = nI (zx1 d) := by
  rw [nx_xorP]
  congr 1
  have h1 : (d ^^^ 1) / 2 = d / 2 := by rw [Nat.xor_div_two]; simp
  have h := Nat.testBit_xor d 1 0
  simp only [Nat.testBit_zero] at h
  have h2 : (d ^^^ 1) % 2 = (d + 1) % 2 := by
    rcases Nat.mod_two_eq_zero_or_one d with q | q <;> rcases Nat.mod_two_eq_zero_or_one (d ^^^ 1) with r | r <;> simp [q, r] at h <;> omega
  unfold zx1
  split <;> omega
/-- a road that the document names leads from x to y: w the vertex at a side, ed edges -/
def zlead (w : Nat → Nat) (ed x y : Nat) : Prop := y < 12 * ed ∧ ((12 * ed ≤ x ∧ ((y % 6 = 0 ∧ zpos w (2 * ed) (y / 6) = zc (zlt w (w (y / 6))) (2 * ed)) ∨ (y % 6 = 5 ∧ zpos w (2 * ed) (y / 6) = zc (zlt w (w (y / 6) + 1)) (2 * ed) - 1))) ∨ (x < 12 * ed ∧ ((x / 6 = y / 6 ∧ y % 6 = x % 6 + 1) ∨ (¬ x / 6 = y / 6 ∧ zx1 (x / 6) = y / 6 ∧ ((x % 6 = 2 ∧ y % 6 = 0) ∨ (x % 6 = 5 ∧ y % 6 = 3))) ∨ (¬ x / 6 = y / 6 ∧ ¬ zx1 (x / 6) = y / 6 ∧ x % 6 = 5 ∧ y % 6 = 0 ∧ w (x / 6) = w (y / 6) ∧ zpos w (2 * ed) (y / 6) = zpos w (2 * ed) (x / 6) + 1))))
noncomputable def zdist (w : Nat → Nat) (ed x y : Nat) : Nat := if x = y then 0 else @ite Nat (zlead w ed x y ∨ zlead w ed y x) (Classical.propDecidable _) 1 2
theorem zdist_0 {w : Nat → Nat} {ed x y : Nat} (h : x = y) : zdist w ed x y = 0 := if_pos h
theorem zdist_1 {w : Nat → Nat} {ed x y : Nat} (h : ¬ x = y) (hr : zlead w ed x y ∨ zlead w ed y x) : zdist w ed x y = 1 := by
  unfold zdist
  rw [if_neg h, if_pos hr]
theorem zdist_2 {w : Nat → Nat} {ed x y : Nat} (h : ¬ x = y) (hr : ¬ (zlead w ed x y ∨ zlead w ed y x)) : zdist w ed x y = 2 := by
  unfold zdist
  rw [if_neg h, if_neg hr]
theorem yX2_leadsTo_X2_firstSelector : yX2_firstSelector.cls = RX2 ∧ yX2_firstSelector.cls ≠ "java/lang/invoke/MethodHandle" ∧ yX2_firstSelector.cls ≠ "java/lang/invoke/VarHandle" ∧ (parseMethodDescriptor yX2_firstSelector.desc).map (fun d => d.parameters.length) = some 0 := by decide +kernel
theorem iX2_leadsTo_X2 : ∀ w ∈ u_ws RX2 TX2 9, w ∈ wsX2_leadsTo := by decide +kernel
theorem fX2_leadsTo_7 : Cond.fieldLink RX2 7 "TourChain$Graph" "vertexAt" "[I" ∈ wsX2_leadsTo := by decide +kernel
theorem fX2_leadsTo_16 : Cond.fieldLink RX2 16 "TourChain$Graph" "standing" "[I" ∈ wsX2_leadsTo := by decide +kernel
theorem yX2_leadsTo_X2_isOuter : yX2_isOuter.cls = RX2 ∧ yX2_isOuter.cls ≠ "java/lang/invoke/MethodHandle" ∧ yX2_isOuter.cls ≠ "java/lang/invoke/VarHandle" ∧ (parseMethodDescriptor yX2_isOuter.desc).map (fun d => d.parameters.length) = some 2 := by decide +kernel
set_option maxHeartbeats 4000000 in
set_option maxRecDepth 100000 in
theorem kX2_leadsTo (l : Launch) (D : va_G) (cI cZ cG cJ : ClassId) (go : Nat) (fo : Nat) (ve : Nat) (ed : Nat) (se : Nat) (ci : Nat) (gva : Nat) (gsi : Nat) (gsd : Nat) (gst : Nat) (cv : Nat) (fv : Nat → Int32) (c2 : Nat) (f2 : Nat → Int32) (c3 : Nat) (f3s : Nat → Int32) (w : Nat → Nat) (x : Nat) (y : Nat) (h2 : ed ≤ 100000) (h3 : ve ≤ 100000) (h4 : (2 * ed) ≤ cv) (h5 : cv ≤ 1000000) (h7 : (2 * ed) ≤ c2) (h8 : ve + 1 ≤ c3) (h9 : c2 ≤ 1000000) (h10 : c3 ≤ 1000000) (hv : ∀ d, d < (2 * ed) → fv d = nI (w d)) (hw : ∀ d, d < (2 * ed) → w d < ve) (hst : ∀ u, u ≤ ve → f3s u = nI (zc (zlt w u) (2 * ed))) (hsd : ∀ d, d < (2 * ed) → f2 d = nI (zpos w (2 * ed) d)) (hx : x < 10000000) (hy : y < 10000000) : zC l yX2_leadsTo wsX2_leadsTo 1 23 0 0 D (zT cI cZ cG cJ) [.ref go, .int (nI x), .int (nI y)] [(go, .inr (4, [.ref fo, .int (nI ve), .int (nI ed), .int (nI se), .int (nI ci), .ref gva, .ref gsi, .ref gsd, .ref gst])), (gva, .inl (cI, cv, .inl fv)), (gsd, .inl (cI, c2, .inl f2)), (gst, .inl (cI, c3, .inl f3s))] (fun (ov : Option Value) (ow : va_W) => ∃ r : Int32, ov = some (.int r) ∧ ow = [(go, .inr (4, [.ref fo, .int (nI ve), .int (nI ed), .int (nI se), .int (nI ci), .ref gva, .ref gsi, .ref gsd, .ref gst])), (gva, .inl (cI, cv, .inl fv)), (gsd, .inl (cI, c2, .inl f2)), (gst, .inl (cI, c3, .inl f3s))] ∧ ((r = 1 ∧ (zlead w ed x y)) ∨ (r = 0 ∧ ¬ (zlead w ed x y)))) := by
  refine zC.of (cc := cX2_leadsTo) (maxL := 7) (ret := (some .boolean)) (by decide) rfl (Nat.le_of_ble_eq_true rfl) ?_
  intro p e s m below meth c A ls F hr hlk hnm B hl
  have hl : lv_has ls 7 [(0, .ref go), (1, .int (nI x)), (2, .int (nI y))] := hl
  refine lv_iload_n F.1 F.2.1 dX2_leadsTo_0 rfl (lv_at hl 2 rfl) ?_
  refine lv_aload_n F.1 F.2.1 dX2_leadsTo_1 rfl (lv_at hl 0 rfl) ?_
  refine z_callV (wr := [(gva, .inl (cI, cv, .inl fv)), (gsd, .inl (cI, c2, .inl f2)), (gst, .inl (cI, c3, .inl f3s))]) (rest := [.int (nI y)]) (As := []) F B (kX2_firstSelector l D cI cZ cG cJ go fo ve ed se ci gva gsi gsd gst) hl.1 (C := RX2) (T := TX2) (N := 9) (ci := 4) (q0 := 0) gX2_leadsTo_X2_firstSelector rfl 0 yX2_leadsTo_X2_firstSelector rfl rfl rfl [0] [1, 2, 3] rfl rfl rfl rfl (by decide) (Nat.le_of_ble_eq_true rfl) (Nat.le_of_ble_eq_true rfl) (Nat.le_of_ble_eq_true rfl) rfl dX2_leadsTo_2 (show 0 + 0 ≤ 0 by omega) (show 0 + 0 ≤ 0 by omega) (fun vv ww H locs hRR B => ?_)
  obtain ⟨rfl, rfl⟩ := hRR
  have B : zB D (zT cI cZ cG cJ) A s.heap s [(gva, .inl (cI, cv, .inl fv)), (gsd, .inl (cI, c2, .inl f2)), (gst, .inl (cI, c3, .inl f3s)), (go, .inr (4, [.ref fo, .int (nI ve), .int (nI ed), .int (nI se), .int (nI ci), .ref gva, .ref gsi, .ref gsd, .ref gst]))] _ _ := B
  refine W.eq (g2 := F0 m 5 ls [.int (nI (12 * ed)), .int (nI y)]) rfl ?_
  refine z_icmp_lt (tgt := 10) F (by omega) (by omega) dX2_leadsTo_5 (by decide) (fun c5 => ?_) (fun c5 => ?_)
  · refine lv_iload_n F.1 F.2.1 dX2_leadsTo_10 rfl (lv_at hl 1 rfl) ?_
    refine lv_aload_n F.1 F.2.1 dX2_leadsTo_11 rfl (lv_at hl 0 rfl) ?_
    refine z_callV (wr := [(gva, .inl (cI, cv, .inl fv)), (gsd, .inl (cI, c2, .inl f2)), (gst, .inl (cI, c3, .inl f3s))]) (rest := [.int (nI x)]) (As := []) F B (kX2_firstSelector l D cI cZ cG cJ go fo ve ed se ci gva gsi gsd gst) hl.1 (C := RX2) (T := TX2) (N := 9) (ci := 4) (q0 := 3) gX2_leadsTo_X2_firstSelector rfl 0 yX2_leadsTo_X2_firstSelector rfl rfl rfl [3] [0, 1, 2] rfl rfl rfl rfl (by decide) (Nat.le_of_ble_eq_true rfl) (Nat.le_of_ble_eq_true rfl) (Nat.le_of_ble_eq_true rfl) rfl dX2_leadsTo_12 (show 0 + 0 ≤ 0 by omega) (show 0 + 0 ≤ 0 by omega) (fun vv ww H locs hRR B => ?_)
    obtain ⟨rfl, rfl⟩ := hRR
    have B : zB D (zT cI cZ cG cJ) A s.heap s [(gva, .inl (cI, cv, .inl fv)), (gsd, .inl (cI, c2, .inl f2)), (gst, .inl (cI, c3, .inl f3s)), (go, .inr (4, [.ref fo, .int (nI ve), .int (nI ed), .int (nI se), .int (nI ci), .ref gva, .ref gsi, .ref gsd, .ref gst]))] _ _ := B
    refine W.eq (g2 := F0 m 15 ls [.int (nI (12 * ed)), .int (nI x)]) rfl ?_
    refine z_icmp_lt (tgt := 31) F (by omega) (by omega) dX2_leadsTo_15 (by decide) (fun c15 => ?_) (fun c15 => ?_)
    · refine lv_iload_n F.1 F.2.1 dX2_leadsTo_31 rfl (lv_at hl 1 rfl) ?_
      refine lv_bipush (v := (nI 6)) F.1 F.2.1 dX2_leadsTo_32 (by decide) ?_
      refine z_idiv F (by omega) (by omega) (by omega) dX2_leadsTo_34 ?_
      refine lv_istore_n (lv' := [(3, .int (nI (x / 6))), (0, .ref go), (1, .int (nI x)), (2, .int (nI y))]) F.1 F.2.1 dX2_leadsTo_35 rfl hl (by decide) rfl (fun ls hl => ?_)
      refine lv_iload_n F.1 F.2.1 dX2_leadsTo_36 rfl (lv_at hl 3 rfl) ?_
      refine lv_bipush (v := (nI 6)) F.1 F.2.1 dX2_leadsTo_37 (by decide) ?_
      refine z_idiv F (by omega) (by omega) (by omega) dX2_leadsTo_39 ?_
      refine lv_istore (lv' := [(4, .int (nI (y / 6))), (3, .int (nI (x / 6))), (0, .ref go), (1, .int (nI x)), (2, .int (nI y))]) F.1 F.2.1 dX2_leadsTo_40 hl (by decide) rfl (fun ls hl => ?_)
      refine lv_iload_n F.1 F.2.1 dX2_leadsTo_42 rfl (lv_at hl 3 rfl) ?_
      refine lv_bipush (v := (nI 6)) F.1 F.2.1 dX2_leadsTo_43 (by decide) ?_
      refine z_irem F (by omega) (by omega) (by omega) dX2_leadsTo_45 ?_
      refine lv_istore (lv' := [(5, .int (nI (x % 6))), (4, .int (nI (y / 6))), (3, .int (nI (x / 6))), (0, .ref go), (1, .int (nI x)), (2, .int (nI y))]) F.1 F.2.1 dX2_leadsTo_46 hl (by decide) rfl (fun ls hl => ?_)
      refine lv_iload_n F.1 F.2.1 dX2_leadsTo_48 rfl (lv_at hl 5 rfl) ?_
      refine lv_bipush (v := (nI 6)) F.1 F.2.1 dX2_leadsTo_49 (by decide) ?_
      refine z_irem F (by omega) (by omega) (by omega) dX2_leadsTo_51 ?_
      refine lv_istore (lv' := [(6, .int (nI (y % 6))), (5, .int (nI (x % 6))), (4, .int (nI (y / 6))), (3, .int (nI (x / 6))), (0, .ref go), (1, .int (nI x)), (2, .int (nI y))]) F.1 F.2.1 dX2_leadsTo_52 hl (by decide) rfl (fun ls hl => ?_)
      refine lv_iload_n F.1 F.2.1 dX2_leadsTo_54 rfl (lv_at hl 3 rfl) ?_
      refine lv_iload F.1 F.2.1 dX2_leadsTo_55 (lv_at hl 2 rfl) ?_
      refine z_icmp_ne (tgt := 75) F (by omega) (by omega) dX2_leadsTo_57 (by decide) (fun c57 => ?_) (fun c57 => ?_)
      · have hzx : zx1 (x / 6) ≤ x / 6 + 1 := zx1_le _
        refine lv_iload_n F.1 F.2.1 dX2_leadsTo_75 rfl (lv_at hl 3 rfl) ?_
        refine lv_iconst (v := (nI 1)) F.1 F.2.1 dX2_leadsTo_76 (by decide) ?_
        refine lv_ixor F.1 F.2.1 dX2_leadsTo_77 ?_
        refine W.eq (g2 := F0 m 78 ls [.int (nI (zx1 (x / 6)))]) (by rw [zxor1]) ?_
        refine lv_iload F.1 F.2.1 dX2_leadsTo_78 (lv_at hl 2 rfl) ?_
        refine z_icmp_ne (tgt := 112) F (by omega) (by omega) dX2_leadsTo_80 (by decide) (fun c80 => ?_) (fun c80 => ?_)
        · refine lv_iload F.1 F.2.1 dX2_leadsTo_112 (lv_at hl 1 rfl) ?_
          refine lv_iconst (v := (nI 5)) F.1 F.2.1 dX2_leadsTo_114 (by decide) ?_
          refine z_icmp_ne (tgt := 161) F (by omega) (by omega) dX2_leadsTo_115 (by decide) (fun c115 => ?_) (fun c115 => ?_)
          · refine lv_iconst (v := (nI 0)) F.1 F.2.1 dX2_leadsTo_161 (by decide) ?_
            exact z_zret F hr hlk B (Or.inl rfl) [3, 0, 1, 2] rfl (rfl) dX2_leadsTo_162 (by omega) (by omega) ⟨(nI 0), rfl, rfl, Or.inr ⟨rfl, by unfold zlead; omega⟩⟩
          · refine lv_iload F.1 F.2.1 dX2_leadsTo_118 (lv_at hl 0 rfl) ?_
            refine z_if_ne (tgt := 161) F (by omega) dX2_leadsTo_120 (by decide) (fun c120 => ?_) (fun c120 => ?_)
            · refine lv_iconst (v := (nI 0)) F.1 F.2.1 dX2_leadsTo_161 (by decide) ?_
              exact z_zret F hr hlk B (Or.inl rfl) [3, 0, 1, 2] rfl (rfl) dX2_leadsTo_162 (by omega) (by omega) ⟨(nI 0), rfl, rfl, Or.inr ⟨rfl, by unfold zlead; omega⟩⟩
            · have hwx := hw (x / 6) (by omega)
              have hwy := hw (y / 6) (by omega)
              have hpx := zpos_n (w := w) (n := (2 * ed)) (d := x / 6) (by omega)
              have hpy := zpos_n (w := w) (n := (2 * ed)) (d := y / 6) (by omega)
              refine lv_aload_n F.1 F.2.1 dX2_leadsTo_123 rfl (lv_at hl 4 rfl) ?_
              refine z_get F B 3 rfl (ci := 4) (C := RX2) (T := TX2) (N := 9) rfl iX2_leadsTo_X2 5 (by decide) fX2_leadsTo_7 rfl dX2_leadsTo_124 ?_
              refine lv_iload_n F.1 F.2.1 dX2_leadsTo_127 rfl (lv_at hl 3 rfl) ?_
              refine z_iald F B 0 0 rfl rfl (j := x / 6) (by omega) (by omega) dX2_leadsTo_128 ?_
              refine W.eq (g2 := F0 m 129 ls [.int (nI (w (x / 6)))]) (by rw [hv (x / 6) (by omega)]) ?_
              refine lv_aload_n F.1 F.2.1 dX2_leadsTo_129 rfl (lv_at hl 4 rfl) ?_
              refine z_get F B 3 rfl (ci := 4) (C := RX2) (T := TX2) (N := 9) rfl iX2_leadsTo_X2 5 (by decide) fX2_leadsTo_7 rfl dX2_leadsTo_130 ?_
              refine lv_iload F.1 F.2.1 dX2_leadsTo_133 (lv_at hl 2 rfl) ?_
              refine z_iald F B 0 0 rfl rfl (j := y / 6) (by omega) (by omega) dX2_leadsTo_135 ?_
              refine W.eq (g2 := F0 m 136 ls [.int (nI (w (y / 6))), .int (nI (w (x / 6)))]) (by rw [hv (y / 6) (by omega)]) ?_
              refine z_icmp_ne (tgt := 161) F (by omega) (by omega) dX2_leadsTo_136 (by decide) (fun c136 => ?_) (fun c136 => ?_)
              · refine lv_iconst (v := (nI 0)) F.1 F.2.1 dX2_leadsTo_161 (by decide) ?_
                exact z_zret F hr hlk B (Or.inl rfl) [3, 0, 1, 2] rfl (rfl) dX2_leadsTo_162 (by omega) (by omega) ⟨(nI 0), rfl, rfl, Or.inr ⟨rfl, by unfold zlead; omega⟩⟩
              · refine lv_aload_n F.1 F.2.1 dX2_leadsTo_139 rfl (lv_at hl 4 rfl) ?_
                refine z_get F B 3 rfl (ci := 4) (C := RX2) (T := TX2) (N := 9) rfl iX2_leadsTo_X2 7 (by decide) fX2_leadsTo_16 rfl dX2_leadsTo_140 ?_
                refine lv_iload F.1 F.2.1 dX2_leadsTo_143 (lv_at hl 2 rfl) ?_
                refine z_iald F B 1 0 rfl rfl (j := y / 6) (by omega) (by omega) dX2_leadsTo_145 ?_
                refine W.eq (g2 := F0 m 146 ls [.int (nI (zpos w (2 * ed) (y / 6)))]) (by rw [hsd (y / 6) (by omega)]) ?_
                refine lv_aload_n F.1 F.2.1 dX2_leadsTo_146 rfl (lv_at hl 4 rfl) ?_
                refine z_get F B 3 rfl (ci := 4) (C := RX2) (T := TX2) (N := 9) rfl iX2_leadsTo_X2 7 (by decide) fX2_leadsTo_16 rfl dX2_leadsTo_147 ?_
                refine lv_iload_n F.1 F.2.1 dX2_leadsTo_150 rfl (lv_at hl 3 rfl) ?_
                refine z_iald F B 1 0 rfl rfl (j := x / 6) (by omega) (by omega) dX2_leadsTo_151 ?_
                refine W.eq (g2 := F0 m 152 ls [.int (nI (zpos w (2 * ed) (x / 6))), .int (nI (zpos w (2 * ed) (y / 6)))]) (by rw [hsd (x / 6) (by omega)]) ?_
                refine lv_iconst (v := (nI 1)) F.1 F.2.1 dX2_leadsTo_152 (by decide) ?_
                refine z_iadd F dX2_leadsTo_153 ?_
                refine z_icmp_ne (tgt := 161) F (by omega) (by omega) dX2_leadsTo_154 (by decide) (fun c154 => ?_) (fun c154 => ?_)
                · refine lv_iconst (v := (nI 0)) F.1 F.2.1 dX2_leadsTo_161 (by decide) ?_
                  exact z_zret F hr hlk B (Or.inl rfl) [3, 0, 1, 2] rfl (rfl) dX2_leadsTo_162 (by omega) (by omega) ⟨(nI 0), rfl, rfl, Or.inr ⟨rfl, by unfold zlead; omega⟩⟩
                · refine lv_iconst (v := (nI 1)) F.1 F.2.1 dX2_leadsTo_157 (by decide) ?_
                  refine lv_goto (tgt := 162) F.1 F.2.1 dX2_leadsTo_158 (by decide) ?_
                  exact z_zret F hr hlk B (Or.inr rfl) [3, 0, 1, 2] rfl (rfl) dX2_leadsTo_162 (by omega) (by omega) ⟨(nI 1), rfl, rfl, Or.inl ⟨rfl, by unfold zlead; omega⟩⟩
        · refine lv_iload F.1 F.2.1 dX2_leadsTo_83 (lv_at hl 1 rfl) ?_
          refine lv_iconst (v := (nI 2)) F.1 F.2.1 dX2_leadsTo_85 (by decide) ?_
          refine z_icmp_ne (tgt := 94) F (by omega) (by omega) dX2_leadsTo_86 (by decide) (fun c86 => ?_) (fun c86 => ?_)
          · refine lv_iload F.1 F.2.1 dX2_leadsTo_94 (lv_at hl 1 rfl) ?_
            refine lv_iconst (v := (nI 5)) F.1 F.2.1 dX2_leadsTo_96 (by decide) ?_
            refine z_icmp_ne (tgt := 110) F (by omega) (by omega) dX2_leadsTo_97 (by decide) (fun c97 => ?_) (fun c97 => ?_)
            · refine lv_iconst (v := (nI 0)) F.1 F.2.1 dX2_leadsTo_110 (by decide) ?_
              exact z_zret F hr hlk B (Or.inl rfl) [3, 0, 1, 2] rfl (rfl) dX2_leadsTo_111 (by omega) (by omega) ⟨(nI 0), rfl, rfl, Or.inr ⟨rfl, by unfold zlead; omega⟩⟩
            · refine lv_iload F.1 F.2.1 dX2_leadsTo_100 (lv_at hl 0 rfl) ?_
              refine lv_iconst (v := (nI 3)) F.1 F.2.1 dX2_leadsTo_102 (by decide) ?_
              refine z_icmp_ne (tgt := 110) F (by omega) (by omega) dX2_leadsTo_103 (by decide) (fun c103 => ?_) (fun c103 => ?_)
              · refine lv_iconst (v := (nI 0)) F.1 F.2.1 dX2_leadsTo_110 (by decide) ?_
                exact z_zret F hr hlk B (Or.inl rfl) [3, 0, 1, 2] rfl (rfl) dX2_leadsTo_111 (by omega) (by omega) ⟨(nI 0), rfl, rfl, Or.inr ⟨rfl, by unfold zlead; omega⟩⟩
              · refine lv_iconst (v := (nI 1)) F.1 F.2.1 dX2_leadsTo_106 (by decide) ?_
                refine lv_goto (tgt := 111) F.1 F.2.1 dX2_leadsTo_107 (by decide) ?_
                exact z_zret F hr hlk B (Or.inr rfl) [3, 0, 1, 2] rfl (rfl) dX2_leadsTo_111 (by omega) (by omega) ⟨(nI 1), rfl, rfl, Or.inl ⟨rfl, by unfold zlead; omega⟩⟩
          · refine lv_iload F.1 F.2.1 dX2_leadsTo_89 (lv_at hl 0 rfl) ?_
            refine z_if_eq (tgt := 106) F (by omega) dX2_leadsTo_91 (by decide) (fun c91 => ?_) (fun c91 => ?_)
            · refine lv_iconst (v := (nI 1)) F.1 F.2.1 dX2_leadsTo_106 (by decide) ?_
              refine lv_goto (tgt := 111) F.1 F.2.1 dX2_leadsTo_107 (by decide) ?_
              exact z_zret F hr hlk B (Or.inr rfl) [3, 0, 1, 2] rfl (rfl) dX2_leadsTo_111 (by omega) (by omega) ⟨(nI 1), rfl, rfl, Or.inl ⟨rfl, by unfold zlead; omega⟩⟩
            · refine lv_iload F.1 F.2.1 dX2_leadsTo_94 (lv_at hl 1 rfl) ?_
              refine lv_iconst (v := (nI 5)) F.1 F.2.1 dX2_leadsTo_96 (by decide) ?_
              refine z_icmp_ne (tgt := 110) F (by omega) (by omega) dX2_leadsTo_97 (by decide) (fun c97 => ?_) (fun c97 => ?_)
              · refine lv_iconst (v := (nI 0)) F.1 F.2.1 dX2_leadsTo_110 (by decide) ?_
                exact z_zret F hr hlk B (Or.inl rfl) [3, 0, 1, 2] rfl (rfl) dX2_leadsTo_111 (by omega) (by omega) ⟨(nI 0), rfl, rfl, Or.inr ⟨rfl, by unfold zlead; omega⟩⟩
              · refine lv_iload F.1 F.2.1 dX2_leadsTo_100 (lv_at hl 0 rfl) ?_
                refine lv_iconst (v := (nI 3)) F.1 F.2.1 dX2_leadsTo_102 (by decide) ?_
                refine z_icmp_ne (tgt := 110) F (by omega) (by omega) dX2_leadsTo_103 (by decide) (fun c103 => ?_) (fun c103 => ?_)
                · refine lv_iconst (v := (nI 0)) F.1 F.2.1 dX2_leadsTo_110 (by decide) ?_
                  exact z_zret F hr hlk B (Or.inl rfl) [3, 0, 1, 2] rfl (rfl) dX2_leadsTo_111 (by omega) (by omega) ⟨(nI 0), rfl, rfl, Or.inr ⟨rfl, by unfold zlead; omega⟩⟩
                · refine lv_iconst (v := (nI 1)) F.1 F.2.1 dX2_leadsTo_106 (by decide) ?_
                  refine lv_goto (tgt := 111) F.1 F.2.1 dX2_leadsTo_107 (by decide) ?_
                  exact z_zret F hr hlk B (Or.inr rfl) [3, 0, 1, 2] rfl (rfl) dX2_leadsTo_111 (by omega) (by omega) ⟨(nI 1), rfl, rfl, Or.inl ⟨rfl, by unfold zlead; omega⟩⟩
      · refine lv_iload F.1 F.2.1 dX2_leadsTo_60 (lv_at hl 0 rfl) ?_
        refine lv_iload F.1 F.2.1 dX2_leadsTo_62 (lv_at hl 1 rfl) ?_
        refine lv_iconst (v := (nI 1)) F.1 F.2.1 dX2_leadsTo_64 (by decide) ?_
        refine z_iadd F dX2_leadsTo_65 ?_
        refine z_icmp_ne (tgt := 73) F (by omega) (by omega) dX2_leadsTo_66 (by decide) (fun c66 => ?_) (fun c66 => ?_)
        · refine lv_iconst (v := (nI 0)) F.1 F.2.1 dX2_leadsTo_73 (by decide) ?_
          exact z_zret F hr hlk B (Or.inl rfl) [3, 0, 1, 2] rfl (rfl) dX2_leadsTo_74 (by omega) (by omega) ⟨(nI 0), rfl, rfl, Or.inr ⟨rfl, by unfold zlead; omega⟩⟩
        · refine lv_iconst (v := (nI 1)) F.1 F.2.1 dX2_leadsTo_69 (by decide) ?_
          refine lv_goto (tgt := 74) F.1 F.2.1 dX2_leadsTo_70 (by decide) ?_
          exact z_zret F hr hlk B (Or.inr rfl) [3, 0, 1, 2] rfl (rfl) dX2_leadsTo_74 (by omega) (by omega) ⟨(nI 1), rfl, rfl, Or.inl ⟨rfl, by unfold zlead; omega⟩⟩
    · refine lv_aload_n F.1 F.2.1 dX2_leadsTo_18 rfl (lv_at hl 0 rfl) ?_
      refine lv_iload_n F.1 F.2.1 dX2_leadsTo_19 rfl (lv_at hl 2 rfl) ?_
      refine lv_bipush (v := (nI 6)) F.1 F.2.1 dX2_leadsTo_20 (by decide) ?_
      refine z_idiv F (by omega) (by omega) (by omega) dX2_leadsTo_22 ?_
      refine lv_iload_n F.1 F.2.1 dX2_leadsTo_23 rfl (lv_at hl 2 rfl) ?_
      refine lv_bipush (v := (nI 6)) F.1 F.2.1 dX2_leadsTo_24 (by decide) ?_
      refine z_irem F (by omega) (by omega) (by omega) dX2_leadsTo_26 ?_
      refine z_callV (wr := []) (rest := []) (As := [.int (nI (y / 6)), .int (nI (y % 6))]) F B (kX2_isOuter l D cI cZ cG cJ go fo ve ed se ci gva gsi gsd gst cv fv c2 f2 c3 f3s w (y / 6) (y % 6) (h2) (h3) (h4) (h5) (h7) (h8) (h9) (h10) (hv) (hw) (hst) (hsd) (by omega) (by omega)) hl.1 (C := RX2) (T := TX2) (N := 9) (ci := 4) (q0 := 3) gX2_leadsTo_X2_isOuter rfl 2 yX2_leadsTo_X2_isOuter rfl rfl rfl [3, 0, 1, 2] [] rfl rfl rfl rfl (by decide) (Nat.le_of_ble_eq_true rfl) (Nat.le_of_ble_eq_true rfl) (Nat.le_of_ble_eq_true rfl) rfl dX2_leadsTo_27 (show 0 + 0 ≤ 0 by omega) (show 0 + 0 ≤ 0 by omega) (fun vv ww H locs hRR B => ?_)
      obtain ⟨r_1, rfl, rfl, hb_2⟩ := hRR
      have B : zB D (zT cI cZ cG cJ) A s.heap s [(go, .inr (4, [.ref fo, .int (nI ve), .int (nI ed), .int (nI se), .int (nI ci), .ref gva, .ref gsi, .ref gsd, .ref gst])), (gva, .inl (cI, cv, .inl fv)), (gsd, .inl (cI, c2, .inl f2)), (gst, .inl (cI, c3, .inl f3s))] _ _ := B
      rcases hb_2 with ⟨hr1, hp_3⟩ | ⟨hr1, hp_3⟩ <;> subst hr1
      · refine W.eq (g2 := F0 m 30 ls [.int 1]) rfl ?_
        exact z_zret F hr hlk B (Or.inr rfl) [0, 1, 2, 3] rfl (rfl) dX2_leadsTo_30 (by omega) (by omega) ⟨1, rfl, rfl, Or.inl ⟨rfl, by unfold zlead; omega⟩⟩
      · refine W.eq (g2 := F0 m 30 ls [.int 0]) rfl ?_
        exact z_zret F hr hlk B (Or.inl rfl) [0, 1, 2, 3] rfl (rfl) dX2_leadsTo_30 (by omega) (by omega) ⟨0, rfl, rfl, Or.inr ⟨rfl, by unfold zlead; omega⟩⟩
  · refine lv_iconst (v := (nI 0)) F.1 F.2.1 dX2_leadsTo_8 (by decide) ?_
    exact z_zret F hr hlk B (Or.inl rfl) [3, 0, 1, 2] rfl (rfl) dX2_leadsTo_9 (by omega) (by omega) ⟨(nI 0), rfl, rfl, Or.inr ⟨rfl, by unfold zlead; omega⟩⟩
theorem yX2_distance_X2_leadsTo : yX2_leadsTo.cls = RX2 ∧ yX2_leadsTo.cls ≠ "java/lang/invoke/MethodHandle" ∧ yX2_leadsTo.cls ≠ "java/lang/invoke/VarHandle" ∧ (parseMethodDescriptor yX2_leadsTo.desc).map (fun d => d.parameters.length) = some 2 := by decide +kernel
set_option maxHeartbeats 4000000 in
set_option maxRecDepth 100000 in
theorem kX2_distance (l : Launch) (D : va_G) (cI cZ cG cJ : ClassId) (go : Nat) (fo : Nat) (ve : Nat) (ed : Nat) (se : Nat) (ci : Nat) (gva : Nat) (gsi : Nat) (gsd : Nat) (gst : Nat) (cv : Nat) (fv : Nat → Int32) (c2 : Nat) (f2 : Nat → Int32) (c3 : Nat) (f3s : Nat → Int32) (w : Nat → Nat) (x : Nat) (y : Nat) (h2 : ed ≤ 100000) (h3 : ve ≤ 100000) (h4 : (2 * ed) ≤ cv) (h5 : cv ≤ 1000000) (h7 : (2 * ed) ≤ c2) (h8 : ve + 1 ≤ c3) (h9 : c2 ≤ 1000000) (h10 : c3 ≤ 1000000) (hv : ∀ d, d < (2 * ed) → fv d = nI (w d)) (hw : ∀ d, d < (2 * ed) → w d < ve) (hst : ∀ u, u ≤ ve → f3s u = nI (zc (zlt w u) (2 * ed))) (hsd : ∀ d, d < (2 * ed) → f2 d = nI (zpos w (2 * ed) d)) (hx : x < 10000000) (hy : y < 10000000) : zC l yX2_distance wsX2_distance 2 49 0 0 D (zT cI cZ cG cJ) [.ref go, .int (nI x), .int (nI y)] [(go, .inr (4, [.ref fo, .int (nI ve), .int (nI ed), .int (nI se), .int (nI ci), .ref gva, .ref gsi, .ref gsd, .ref gst])), (gva, .inl (cI, cv, .inl fv)), (gsd, .inl (cI, c2, .inl f2)), (gst, .inl (cI, c3, .inl f3s))] (fun (ov : Option Value) (ow : va_W) => ov = some (.int (nI (zdist w ed x y))) ∧ ow = [(go, .inr (4, [.ref fo, .int (nI ve), .int (nI ed), .int (nI se), .int (nI ci), .ref gva, .ref gsi, .ref gsd, .ref gst])), (gva, .inl (cI, cv, .inl fv)), (gsd, .inl (cI, c2, .inl f2)), (gst, .inl (cI, c3, .inl f3s))]) := by
  refine zC.of (cc := cX2_distance) (maxL := 3) (ret := (some .int)) (by decide) rfl (Nat.le_of_ble_eq_true rfl) ?_
  intro p e s m below meth c A ls F hr hlk hnm B hl
  have hl : lv_has ls 3 [(0, .ref go), (1, .int (nI x)), (2, .int (nI y))] := hl
  refine lv_iload_n F.1 F.2.1 dX2_distance_0 rfl (lv_at hl 1 rfl) ?_
  refine lv_iload_n F.1 F.2.1 dX2_distance_1 rfl (lv_at hl 2 rfl) ?_
  refine z_icmp_ne (tgt := 7) F (by omega) (by omega) dX2_distance_2 (by decide) (fun hxy => ?_) (fun hxy => ?_)
  · refine lv_aload_n F.1 F.2.1 dX2_distance_7 rfl (lv_at hl 0 rfl) ?_
    refine lv_iload_n F.1 F.2.1 dX2_distance_8 rfl (lv_at hl 1 rfl) ?_
    refine lv_iload_n F.1 F.2.1 dX2_distance_9 rfl (lv_at hl 2 rfl) ?_
    refine z_callV (wr := []) (rest := []) (As := [.int (nI x), .int (nI y)]) F B (kX2_leadsTo l D cI cZ cG cJ go fo ve ed se ci gva gsi gsd gst cv fv c2 f2 c3 f3s w x y (h2) (h3) (h4) (h5) (h7) (h8) (h9) (h10) (hv) (hw) (hst) (hsd) (by omega) (by omega)) hl.1 (C := RX2) (T := TX2) (N := 9) (ci := 4) (q0 := 0) gX2_distance_X2_leadsTo rfl 2 yX2_distance_X2_leadsTo rfl rfl rfl [0, 1, 2, 3] [] rfl rfl rfl rfl (by decide) (Nat.le_of_ble_eq_true rfl) (Nat.le_of_ble_eq_true rfl) (Nat.le_of_ble_eq_true rfl) rfl dX2_distance_10 (show 0 + 0 ≤ 0 by omega) (show 0 + 0 ≤ 0 by omega) (fun vv ww H locs hRR B => ?_)
    obtain ⟨r_1, rfl, rfl, hb_2⟩ := hRR
    have B : zB D (zT cI cZ cG cJ) A s.heap s [(go, .inr (4, [.ref fo, .int (nI ve), .int (nI ed), .int (nI se), .int (nI ci), .ref gva, .ref gsi, .ref gsd, .ref gst])), (gva, .inl (cI, cv, .inl fv)), (gsd, .inl (cI, c2, .inl f2)), (gst, .inl (cI, c3, .inl f3s))] _ _ := B
    rcases hb_2 with ⟨hr1, hp1⟩ | ⟨hr1, hp1⟩ <;> subst hr1
    · refine W.eq (g2 := F0 m 13 ls [.int 1]) rfl ?_
      refine lv_if_ne (tgt := 25) F.1 F.2.1 dX2_distance_13 (by decide) (fun _ => ?_) (fun hq => absurd hq (by decide))
      refine lv_iconst (v := (nI 1)) F.1 F.2.1 dX2_distance_25 (by decide) ?_
      refine lv_goto (tgt := 30) F.1 F.2.1 dX2_distance_26 (by decide) ?_
      exact z_iret F hr hlk B [0, 1, 2, 3] rfl (rfl) dX2_distance_30 (by omega) (by omega) ⟨by rw [zdist_1 hxy (by first | exact Or.inl hp1 | exact Or.inr hp2)], rfl⟩
    · refine W.eq (g2 := F0 m 13 ls [.int 0]) rfl ?_
      refine lv_if_ne (tgt := 25) F.1 F.2.1 dX2_distance_13 (by decide) (fun hq => absurd (by decide) hq) (fun _ => ?_)
      refine lv_aload_n F.1 F.2.1 dX2_distance_16 rfl (lv_at hl 0 rfl) ?_
      refine lv_iload_n F.1 F.2.1 dX2_distance_17 rfl (lv_at hl 2 rfl) ?_
      refine lv_iload_n F.1 F.2.1 dX2_distance_18 rfl (lv_at hl 1 rfl) ?_
      refine z_callV (wr := []) (rest := []) (As := [.int (nI y), .int (nI x)]) F B (kX2_leadsTo l D cI cZ cG cJ go fo ve ed se ci gva gsi gsd gst cv fv c2 f2 c3 f3s w y x (h2) (h3) (h4) (h5) (h7) (h8) (h9) (h10) (hv) (hw) (hst) (hsd) (by omega) (by omega)) hl.1 (C := RX2) (T := TX2) (N := 9) (ci := 4) (q0 := 0) gX2_distance_X2_leadsTo rfl 2 yX2_distance_X2_leadsTo rfl rfl rfl [0, 1, 2, 3] [] rfl rfl rfl rfl (by decide) (Nat.le_of_ble_eq_true rfl) (Nat.le_of_ble_eq_true rfl) (Nat.le_of_ble_eq_true rfl) rfl dX2_distance_19 (show 0 + 0 ≤ 0 by omega) (show 0 + 0 ≤ 0 by omega) (fun vv ww H locs hRR B => ?_)
      obtain ⟨r_3, rfl, rfl, hb_4⟩ := hRR
      have B : zB D (zT cI cZ cG cJ) A s.heap s [(go, .inr (4, [.ref fo, .int (nI ve), .int (nI ed), .int (nI se), .int (nI ci), .ref gva, .ref gsi, .ref gsd, .ref gst])), (gva, .inl (cI, cv, .inl fv)), (gsd, .inl (cI, c2, .inl f2)), (gst, .inl (cI, c3, .inl f3s))] _ _ := B
      rcases hb_4 with ⟨hr1, hp2⟩ | ⟨hr1, hp2⟩ <;> subst hr1
      · refine W.eq (g2 := F0 m 22 ls [.int 1]) rfl ?_
        refine lv_if_eq (tgt := 29) F.1 F.2.1 dX2_distance_22 (by decide) (fun hq => absurd hq (by decide)) (fun _ => ?_)
        refine lv_iconst (v := (nI 1)) F.1 F.2.1 dX2_distance_25 (by decide) ?_
        refine lv_goto (tgt := 30) F.1 F.2.1 dX2_distance_26 (by decide) ?_
        exact z_iret F hr hlk B [0, 1, 2, 3] rfl (rfl) dX2_distance_30 (by omega) (by omega) ⟨by rw [zdist_1 hxy (by first | exact Or.inl hp1 | exact Or.inr hp2)], rfl⟩
      · refine W.eq (g2 := F0 m 22 ls [.int 0]) rfl ?_
        refine lv_if_eq (tgt := 29) F.1 F.2.1 dX2_distance_22 (by decide) (fun _ => ?_) (fun hq => absurd (by decide) hq)
        refine lv_iconst (v := (nI 2)) F.1 F.2.1 dX2_distance_29 (by decide) ?_
        exact z_iret F hr hlk B [0, 1, 2, 3] rfl (rfl) dX2_distance_30 (by omega) (by omega) ⟨by rw [zdist_2 hxy (fun q9 => q9.elim hp1 hp2)], rfl⟩
  · refine lv_iconst (v := (nI 0)) F.1 F.2.1 dX2_distance_5 (by decide) ?_
    exact z_iret F hr hlk B [0, 1, 2, 3] rfl (rfl) dX2_distance_6 (by omega) (by omega) ⟨by rw [zdist_0 hxy], rfl⟩
