/-! CONTRACTS of the reference: count, literal, three, end, roads, apart -/
def zbl (k : Nat) (P : Prop) : Prop := (k = 1 ∧ P) ∨ (k = 0 ∧ ¬ P)
def zg7 (x y : Nat) : Prop := x / 6 = y / 6 ∧ y % 6 = x % 6 + 1
def zg8 (x y : Nat) : Prop := ¬ x / 6 = y / 6 ∧ x / 6 / 2 = y / 6 / 2 ∧ ((x % 6 = 2 ∧ y % 6 = 0) ∨ (x % 6 = 5 ∧ y % 6 = 3))
def zg9 (w : Nat → Nat) (x y : Nat) : Prop := x % 6 = 5 ∧ y % 6 = 0 ∧ w (y / 6) = w (x / 6) ∧ zc (zeq w (w (x / 6))) (y / 6) = zc (zeq w (w (x / 6))) (x / 6) + 1
theorem zbl_1 {k : Nat} {P : Prop} (h : zbl k P) (hk : ¬ k = 0) : P := by
  rcases h with ⟨_, q⟩ | ⟨q, _⟩
  · exact q
  · exact absurd q hk
theorem zbl_0 {k : Nat} {P : Prop} (h : zbl k P) (hk : k = 0) : ¬ P := by
  rcases h with ⟨q, _⟩ | ⟨_, q⟩
  · rw [hk] at q; exact absurd q (by decide)
  · exact q
theorem zgo1 {w : Nat → Nat} {x y k7 k8 k9 : Nat} (h7 : zbl k7 (zg7 x y)) (h8 : zbl k8 (zg8 x y)) (h9 : zbl k9 (zg9 w x y)) (h : ¬ (k7 = 0 ∧ k8 = 0 ∧ k9 = 0)) : zGo w x y := by
  by_cases e7 : k7 = 0
  · by_cases e8 : k8 = 0
    · exact Or.inr (Or.inr (zbl_1 h9 (fun e9 => h ⟨e7, e8, e9⟩)))
    · exact Or.inr (Or.inl (zbl_1 h8 e8))
  · exact Or.inl (zbl_1 h7 e7)
theorem zgo0 {w : Nat → Nat} {x y k7 k8 k9 : Nat} (h7 : zbl k7 (zg7 x y)) (h8 : zbl k8 (zg8 x y)) (h9 : zbl k9 (zg9 w x y)) (e7 : k7 = 0) (e8 : k8 = 0) (e9 : k9 = 0) : ¬ zGo w x y := by
  rintro (h | h | h)
  · exact zbl_0 h7 e7 h
  · exact zbl_0 h8 e8 h
  · exact zbl_0 h9 e9 h
theorem zFE_iff {w : Nat → Nat} {n d : Nat} {z : Int32} (h : zFE w n (w d) z) (hd : d < n) (hn : n < 2 ^ 31) : z = nI d ↔ zc (zeq w (w d)) d = 0 := by
  rcases h with ⟨a, b⟩ | ⟨x, hx, h1, h2, h3⟩
  · have q := zc_ltW (w := w) hd
    omega
  · constructor
    · intro q
      have e : x = d := (nI_eq (by omega) (by omega)).mp (h3.symm.trans q)
      rw [e] at h2
      exact h2
    · intro q
      rw [h3, zc_inj (w := w) (u := w d) h1 rfl (by omega)]
theorem zLE_iff {w : Nat → Nat} {n d : Nat} {z : Int32} (h : zLE w n (w d) z) (hd : d < n) (hn : n < 2 ^ 31) : z = nI d ↔ zc (zeq w (w d)) d + 1 = zc (zeq w (w d)) n := by
  rcases h with ⟨a, b⟩ | ⟨x, hx, h1, h2, h3⟩
  · have q := zc_ltW (w := w) hd
    omega
  · constructor
    · intro q
      have e : x = d := (nI_eq (by omega) (by omega)).mp (h3.symm.trans q)
      rw [e] at h2
      exact h2
    · intro q
      rw [h3, zc_inj (w := w) (u := w d) h1 rfl (by omega)]
theorem zBH_iff {w : Nat → Nat} {n x y : Nat} {z : Int32} (h : zBH w n x z) (hy : y < n) (hn : n < 2 ^ 31) : z = nI y ↔ w y = w x ∧ zc (zeq w (w x)) y = zc (zeq w (w x)) x + 1 := by
  rcases h with ⟨a, b⟩ | ⟨d, hd, h1, h2, h3⟩
  · constructor
    · intro q
      rw [b] at q
      exact absurd q.symm (zneg1ne (by omega))
    · rintro ⟨q1, q2⟩
      have q := zc_ltW (w := w) hy
      rw [q1] at q
      omega
  · constructor
    · intro q
      have e : d = y := (nI_eq (by omega) (by omega)).mp (h3.symm.trans q)
      rw [e] at h1 h2
      exact ⟨h1, h2⟩
    · rintro ⟨q1, q2⟩
      rw [h3, zc_inj (w := w) (u := w x) h1 q1 (by omega)]
theorem iX8_count_X8 : ∀ w ∈ u_ws RX8 TX8 37, w ∈ wsX8_count := fun w h => List.mem_cons_of_mem _ (List.mem_append_right _ h)
theorem fX8_count_79 : Cond.fieldLink RX8 79 "TourChainModel" "thrown" "I" ∈ wsX8_count := by decide +kernel
theorem fX8_count_82 : Cond.fieldLink RX8 82 "TourChainModel" "built" "Z" ∈ wsX8_count := by decide +kernel
theorem fX8_count_176 : Cond.fieldLink RX8 176 "TourChainModel" "variables" "I" ∈ wsX8_count := by decide +kernel
theorem fX8_count_116 : Cond.fieldLink RX8 116 "TourChainModel" "clauses" "I" ∈ wsX8_count := by decide +kernel
theorem fX8_count_158 : Cond.fieldLink RX8 158 "TourChainModel" "all" "I" ∈ wsX8_count := by decide +kernel
theorem fX8_count_152 : Cond.fieldLink RX8 152 "TourChainModel" "threes" "I" ∈ wsX8_count := by decide +kernel
theorem fX8_count_161 : Cond.fieldLink RX8 161 "TourChainModel" "vertices" "I" ∈ wsX8_count := by decide +kernel
theorem fX8_count_164 : Cond.fieldLink RX8 164 "TourChainModel" "edges" "I" ∈ wsX8_count := by decide +kernel
theorem fX8_count_182 : Cond.fieldLink RX8 182 "TourChainModel" "selectors" "I" ∈ wsX8_count := by decide +kernel
theorem fX8_count_185 : Cond.fieldLink RX8 185 "TourChainModel" "cities" "I" ∈ wsX8_count := by decide +kernel
set_option maxHeartbeats 4000000 in
set_option maxRecDepth 100000 in
theorem kX8_count (l : Launch) (D : va_G) (cI cZ cG cJ : ClassId) (mm : Nat) (th : Nat) (q : Nat) (g : Nat) (t : Nat) (r : Nat) (mb : Nat) (nc : Nat) (nl : Nat) (pv : Nat) (va : Nat) (n3 : Nat) (ve : Nat) (ed : Nat) (se : Nat) (ci : Nat) (mr : Nat) (mt : Nat) (ld : Nat) (A8 : Nat → Nat) (u1 : Int32) (hmb : mb ≤ 1) : zC l yX8_count wsX8_count 0 0 0 0 D (zT cI cZ cG cJ) [.ref mm, .int u1] [(mm, .inr (10, zmo (nI th) (nI q) (nI g) (nI t) (nI r) (nI mb) (nI nc) (nI nl) (nI pv) (nI va) (nI n3) (nI ve) (nI ed) (nI se) (nI ci) (nI mr) (nI mt) (nI ld) A8))] (fun (ov : Option Value) (ow : va_W) => ov = some (.int (zif (mb = 1) (zcnt u1 pv nc va n3 ve ed se ci) (-1))) ∧ ow = [(mm, .inr (10, zmo (nI 0) (nI q) (nI g) (nI t) (nI r) (nI mb) (nI nc) (nI nl) (nI pv) (nI va) (nI n3) (nI ve) (nI ed) (nI se) (nI ci) (nI mr) (nI mt) (nI ld) A8))]) := by
  refine zC.of (cc := cX8_count) (maxL := 2) (ret := (some .int)) (by decide) rfl (Nat.le_of_ble_eq_true rfl) ?_
  intro p e s m below meth c A ls F hr hlk hnm B hl
  have hl : lv_has ls 2 [(0, .ref mm), (1, .int u1)] := hl
  refine lv_aload_n F.1 F.2.1 dX8_count_0 rfl (lv_at hl 0 rfl) ?_
  refine lv_iconst (v := (nI 0)) F.1 F.2.1 dX8_count_1 (by decide) ?_
  refine z_put F B 0 rfl (ci := 10) (C := RX8) (T := TX8) (N := 37) rfl iX8_count_X8 tyX8 tyX8_ok nmX8 0 (by decide) fX8_count_79 rfl (v := .int (nI 0)) rfl rfl (Nat.le_of_ble_eq_true rfl) dX8_count_2 (fun H locs B => ?_)
  have B : zB D (zT cI cZ cG cJ) A s.heap s [(mm, .inr (10, zmo (nI 0) (nI q) (nI g) (nI t) (nI r) (nI mb) (nI nc) (nI nl) (nI pv) (nI va) (nI n3) (nI ve) (nI ed) (nI se) (nI ci) (nI mr) (nI mt) (nI ld) A8))] _ _ := B
  refine lv_aload_n F.1 F.2.1 dX8_count_5 rfl (lv_at hl 0 rfl) ?_
  refine z_get F B 0 rfl (ci := 10) (C := RX8) (T := TX8) (N := 37) rfl iX8_count_X8 11 (by decide) fX8_count_82 rfl dX8_count_6 ?_
  refine z_if_ne (tgt := 14) F (by omega) dX8_count_9 (by decide) (fun c9 => ?_) (fun c9 => ?_)
  · refine lv_iload_n F.1 F.2.1 dX8_count_14 rfl (lv_at hl 1 rfl) ?_
    by_cases hs15 : 0 ≤ u1.toInt ∧ u1.toInt ≤ 7
    · rcases (show u1.toInt = 0 ∨ u1.toInt = 1 ∨ u1.toInt = 2 ∨ u1.toInt = 3 ∨ u1.toInt = 4 ∨ u1.toInt = 5 ∨ u1.toInt = 6 ∨ u1.toInt = 7 by omega) with hs15e | hs15e | hs15e | hs15e | hs15e | hs15e | hs15e | hs15e
      · refine lv_tableIn (off := 45) (tgt := 60) F.1 F.2.1 dX8_count_15 (by rw [hs15e]; decide) (by rw [hs15e]; decide) (by rw [hs15e]; rfl) (by decide) ?_
        refine lv_aload_n F.1 F.2.1 dX8_count_60 rfl (lv_at hl 0 rfl) ?_
        refine z_get F B 0 rfl (ci := 10) (C := RX8) (T := TX8) (N := 37) rfl iX8_count_X8 14 (by decide) fX8_count_176 rfl dX8_count_61 ?_
        exact z_iret F hr hlk B [0] rfl (rfl) dX8_count_64 (by omega) (by omega) ⟨by rw [zif_t (by omega)]; unfold zcnt; rw [hs15e]; rfl, rfl⟩
      · refine lv_tableIn (off := 50) (tgt := 65) F.1 F.2.1 dX8_count_15 (by rw [hs15e]; decide) (by rw [hs15e]; decide) (by rw [hs15e]; rfl) (by decide) ?_
        refine lv_aload_n F.1 F.2.1 dX8_count_65 rfl (lv_at hl 0 rfl) ?_
        refine z_get F B 0 rfl (ci := 10) (C := RX8) (T := TX8) (N := 37) rfl iX8_count_X8 12 (by decide) fX8_count_116 rfl dX8_count_66 ?_
        exact z_iret F hr hlk B [0] rfl (rfl) dX8_count_69 (by omega) (by omega) ⟨by rw [zif_t (by omega)]; unfold zcnt; rw [hs15e]; rfl, rfl⟩
      · refine lv_tableIn (off := 55) (tgt := 70) F.1 F.2.1 dX8_count_15 (by rw [hs15e]; decide) (by rw [hs15e]; decide) (by rw [hs15e]; rfl) (by decide) ?_
        refine lv_aload_n F.1 F.2.1 dX8_count_70 rfl (lv_at hl 0 rfl) ?_
        refine z_get F B 0 rfl (ci := 10) (C := RX8) (T := TX8) (N := 37) rfl iX8_count_X8 15 (by decide) fX8_count_158 rfl dX8_count_71 ?_
        exact z_iret F hr hlk B [0] rfl (rfl) dX8_count_74 (by omega) (by omega) ⟨by rw [zif_t (by omega)]; unfold zcnt; rw [hs15e]; rfl, rfl⟩
      · refine lv_tableIn (off := 60) (tgt := 75) F.1 F.2.1 dX8_count_15 (by rw [hs15e]; decide) (by rw [hs15e]; decide) (by rw [hs15e]; rfl) (by decide) ?_
        refine lv_aload_n F.1 F.2.1 dX8_count_75 rfl (lv_at hl 0 rfl) ?_
        refine z_get F B 0 rfl (ci := 10) (C := RX8) (T := TX8) (N := 37) rfl iX8_count_X8 16 (by decide) fX8_count_152 rfl dX8_count_76 ?_
        exact z_iret F hr hlk B [0] rfl (rfl) dX8_count_79 (by omega) (by omega) ⟨by rw [zif_t (by omega)]; unfold zcnt; rw [hs15e]; rfl, rfl⟩
      · refine lv_tableIn (off := 65) (tgt := 80) F.1 F.2.1 dX8_count_15 (by rw [hs15e]; decide) (by rw [hs15e]; decide) (by rw [hs15e]; rfl) (by decide) ?_
        refine lv_aload_n F.1 F.2.1 dX8_count_80 rfl (lv_at hl 0 rfl) ?_
        refine z_get F B 0 rfl (ci := 10) (C := RX8) (T := TX8) (N := 37) rfl iX8_count_X8 20 (by decide) fX8_count_161 rfl dX8_count_81 ?_
        exact z_iret F hr hlk B [0] rfl (rfl) dX8_count_84 (by omega) (by omega) ⟨by rw [zif_t (by omega)]; unfold zcnt; rw [hs15e]; rfl, rfl⟩
      · refine lv_tableIn (off := 70) (tgt := 85) F.1 F.2.1 dX8_count_15 (by rw [hs15e]; decide) (by rw [hs15e]; decide) (by rw [hs15e]; rfl) (by decide) ?_
        refine lv_aload_n F.1 F.2.1 dX8_count_85 rfl (lv_at hl 0 rfl) ?_
        refine z_get F B 0 rfl (ci := 10) (C := RX8) (T := TX8) (N := 37) rfl iX8_count_X8 21 (by decide) fX8_count_164 rfl dX8_count_86 ?_
        exact z_iret F hr hlk B [0] rfl (rfl) dX8_count_89 (by omega) (by omega) ⟨by rw [zif_t (by omega)]; unfold zcnt; rw [hs15e]; rfl, rfl⟩
      · refine lv_tableIn (off := 75) (tgt := 90) F.1 F.2.1 dX8_count_15 (by rw [hs15e]; decide) (by rw [hs15e]; decide) (by rw [hs15e]; rfl) (by decide) ?_
        refine lv_aload_n F.1 F.2.1 dX8_count_90 rfl (lv_at hl 0 rfl) ?_
        refine z_get F B 0 rfl (ci := 10) (C := RX8) (T := TX8) (N := 37) rfl iX8_count_X8 22 (by decide) fX8_count_182 rfl dX8_count_91 ?_
        exact z_iret F hr hlk B [0] rfl (rfl) dX8_count_94 (by omega) (by omega) ⟨by rw [zif_t (by omega)]; unfold zcnt; rw [hs15e]; rfl, rfl⟩
      · refine lv_tableIn (off := 80) (tgt := 95) F.1 F.2.1 dX8_count_15 (by rw [hs15e]; decide) (by rw [hs15e]; decide) (by rw [hs15e]; rfl) (by decide) ?_
        refine lv_aload_n F.1 F.2.1 dX8_count_95 rfl (lv_at hl 0 rfl) ?_
        refine z_get F B 0 rfl (ci := 10) (C := RX8) (T := TX8) (N := 37) rfl iX8_count_X8 23 (by decide) fX8_count_185 rfl dX8_count_96 ?_
        exact z_iret F hr hlk B [0] rfl (rfl) dX8_count_99 (by omega) (by omega) ⟨by rw [zif_t (by omega)]; unfold zcnt; rw [hs15e]; rfl, rfl⟩
    · refine lv_tableOut (tgt := 100) F.1 F.2.1 dX8_count_15 (by omega) (by decide) ?_
      refine lv_iconst (v := (-1)) F.1 F.2.1 dX8_count_100 (by decide) ?_
      exact z_iret F hr hlk B [0] rfl (rfl) dX8_count_101 (by omega) (by omega) ⟨by rw [zif_t (by omega), zcnt_o hs15], rfl⟩
  · refine lv_iconst (v := (-1)) F.1 F.2.1 dX8_count_12 (by decide) ?_
    exact z_iret F hr hlk B [0] rfl (rfl) dX8_count_13 (by omega) (by omega) ⟨by rw [zif_f (by omega)], rfl⟩
theorem iX8_literal_X8 : ∀ w ∈ u_ws RX8 TX8 37, w ∈ wsX8_literal := fun w h => List.mem_cons_of_mem _ (List.mem_append_right _ h)
theorem fX8_literal_79 : Cond.fieldLink RX8 79 "TourChainModel" "thrown" "I" ∈ wsX8_literal := by decide +kernel
theorem fX8_literal_82 : Cond.fieldLink RX8 82 "TourChainModel" "built" "Z" ∈ wsX8_literal := by decide +kernel
theorem fX8_literal_116 : Cond.fieldLink RX8 116 "TourChainModel" "clauses" "I" ∈ wsX8_literal := by decide +kernel
theorem yX8_literal_X8_in : yX8_in.cls = RX8 ∧ yX8_in.cls ≠ "java/lang/invoke/MethodHandle" ∧ yX8_in.cls ≠ "java/lang/invoke/VarHandle" ∧ (parseMethodDescriptor yX8_in.desc).map (fun d => d.parameters.length) = some 3 := by decide +kernel
theorem fX8_literal_38 : Cond.fieldLink RX8 38 "TourChainModel" "from" "[I" ∈ wsX8_literal := by decide +kernel
theorem fX8_literal_41 : Cond.fieldLink RX8 41 "TourChainModel" "literal" "[I" ∈ wsX8_literal := by decide +kernel
set_option maxHeartbeats 4000000 in
set_option maxRecDepth 100000 in
theorem kX8_literal (l : Launch) (D : va_G) (cI cZ cG cJ : ClassId) (mm : Nat) (th : Nat) (q : Nat) (g : Nat) (t : Nat) (r : Nat) (mb : Nat) (nc : Nat) (nl : Nat) (pv : Nat) (va : Nat) (n3 : Nat) (ve : Nat) (ed : Nat) (se : Nat) (ci : Nat) (mr : Nat) (mt : Nat) (ld : Nat) (A8 : Nat → Nat) (fl : Nat → Int32) (ft : Nat → Int32) (Cs : List (List Nat)) (u1 : Int32) (u2 : Int32) (hmb : mb ≤ 1) (hb : mb = 1 → zF fl nl ft (nc + 1) Cs ∧ zBd Cs ∧ 1 ≤ Cs.length ∧ ∀ j, j < Cs.length → 1 ≤ zlen Cs j) : zC l yX8_literal wsX8_literal 1 22 0 0 D (zT cI cZ cG cJ) [.ref mm, .int u1, .int u2] [(mm, .inr (10, zmo (nI th) (nI q) (nI g) (nI t) (nI r) (nI mb) (nI nc) (nI nl) (nI pv) (nI va) (nI n3) (nI ve) (nI ed) (nI se) (nI ci) (nI mr) (nI mt) (nI ld) A8)), (A8 7, .inl (cI, 2400, .inl fl)), (A8 6, .inl (cI, 600, .inl ft))] (fun (ov : Option Value) (ow : va_W) => ov = some (.int (zif (mb = 1 ∧ zq u1 Cs.length ∧ zq u2 (zlen Cs (zn u1))) (nI (zlit Cs (zn u1) (zn u2))) (-1))) ∧ ow = [(mm, .inr (10, zmo (nI 0) (nI q) (nI g) (nI t) (nI r) (nI mb) (nI nc) (nI nl) (nI pv) (nI va) (nI n3) (nI ve) (nI ed) (nI se) (nI ci) (nI mr) (nI mt) (nI ld) A8)), (A8 7, .inl (cI, 2400, .inl fl)), (A8 6, .inl (cI, 600, .inl ft))]) := by
  refine zC.of (cc := cX8_literal) (maxL := 3) (ret := (some .int)) (by decide) rfl (Nat.le_of_ble_eq_true rfl) ?_
  intro p e s m below meth c A ls F hr hlk hnm B hl
  have hl : lv_has ls 3 [(0, .ref mm), (1, .int u1), (2, .int u2)] := hl
  refine lv_aload_n F.1 F.2.1 dX8_literal_0 rfl (lv_at hl 0 rfl) ?_
  refine lv_iconst (v := (nI 0)) F.1 F.2.1 dX8_literal_1 (by decide) ?_
  refine z_put F B 0 rfl (ci := 10) (C := RX8) (T := TX8) (N := 37) rfl iX8_literal_X8 tyX8 tyX8_ok nmX8 0 (by decide) fX8_literal_79 rfl (v := .int (nI 0)) rfl rfl (Nat.le_of_ble_eq_true rfl) dX8_literal_2 (fun H locs B => ?_)
  have B : zB D (zT cI cZ cG cJ) A s.heap s [(mm, .inr (10, zmo (nI 0) (nI q) (nI g) (nI t) (nI r) (nI mb) (nI nc) (nI nl) (nI pv) (nI va) (nI n3) (nI ve) (nI ed) (nI se) (nI ci) (nI mr) (nI mt) (nI ld) A8)), (A8 7, .inl (cI, 2400, .inl fl)), (A8 6, .inl (cI, 600, .inl ft))] _ _ := B
  refine lv_aload_n F.1 F.2.1 dX8_literal_5 rfl (lv_at hl 0 rfl) ?_
  refine z_get F B 0 rfl (ci := 10) (C := RX8) (T := TX8) (N := 37) rfl iX8_literal_X8 11 (by decide) fX8_literal_82 rfl dX8_literal_6 ?_
  refine z_if_eq (tgt := 51) F (by omega) dX8_literal_9 (by decide) (fun c9 => ?_) (fun c9 => ?_)
  · refine lv_iconst (v := (-1)) F.1 F.2.1 dX8_literal_51 (by decide) ?_
    exact z_iret F hr hlk B [0, 1, 2] rfl (rfl) dX8_literal_52 (by omega) (by omega) ⟨by rw [zif_f (by intro q9; first | exact absurd q9.1 (by omega) | exact g1 q9.2.1 | exact g2 q9.2.2)], rfl⟩
  · obtain ⟨hF, hBd, hc1, hne⟩ := hb (by omega)
    obtain ⟨hq1, hq2⟩ := zF_len hF
    have hncl : nc = Cs.length := by omega
    have hB1 := hBd.1; have hB2 := hBd.2
    refine lv_iload_n F.1 F.2.1 dX8_literal_12 rfl (lv_at hl 1 rfl) ?_
    refine lv_iconst (v := (nI 0)) F.1 F.2.1 dX8_literal_13 (by decide) ?_
    refine lv_aload_n F.1 F.2.1 dX8_literal_14 rfl (lv_at hl 0 rfl) ?_
    refine z_get F B 0 rfl (ci := 10) (C := RX8) (T := TX8) (N := 37) rfl iX8_literal_X8 12 (by decide) fX8_literal_116 rfl dX8_literal_15 ?_
    refine lv_iconst (v := (nI 1)) F.1 F.2.1 dX8_literal_18 (by decide) ?_
    refine z_isub F (by omega) dX8_literal_19 ?_
    refine W.eq (g2 := F0 m 20 ls [.int (nI (Cs.length - 1)), .int (nI 0), .int u1]) (by rw [hncl]) ?_
    refine z_callS (wr := [(mm, .inr (10, zmo (nI 0) (nI q) (nI g) (nI t) (nI r) (nI mb) (nI nc) (nI nl) (nI pv) (nI va) (nI n3) (nI ve) (nI ed) (nI se) (nI ci) (nI mr) (nI mt) (nI ld) A8)), (A8 7, .inl (cI, 2400, .inl fl)), (A8 6, .inl (cI, 600, .inl ft))]) (rest := []) (As := [.int u1, .int (nI 0), .int (nI (Cs.length - 1))]) F B (kX8_in l D cI cZ cG cJ u1 (nI 0) (nI (Cs.length - 1))) hl.1 gX8_literal_X8_in rfl 3 yX8_literal_X8_in rfl [] [0, 1, 2] rfl rfl rfl rfl (by decide) (Nat.le_of_ble_eq_true rfl) (Nat.le_of_ble_eq_true rfl) (Nat.le_of_ble_eq_true rfl) rfl dX8_literal_20 (show 0 + 0 ≤ 0 by omega) (show 0 + 0 ≤ 0 by omega) (fun vv ww H locs hRR B => ?_)
    obtain ⟨r_1, rfl, rfl, hb_2⟩ := hRR
    have B : zB D (zT cI cZ cG cJ) A s.heap s [(mm, .inr (10, zmo (nI 0) (nI q) (nI g) (nI t) (nI r) (nI mb) (nI nc) (nI nl) (nI pv) (nI va) (nI n3) (nI ve) (nI ed) (nI se) (nI ci) (nI mr) (nI mt) (nI ld) A8)), (A8 7, .inl (cI, 2400, .inl fl)), (A8 6, .inl (cI, 600, .inl ft))] _ _ := B
    rcases hb_2 with ⟨hr1, g1⟩ | ⟨hr1, g1⟩ <;> subst hr1
    · refine W.eq (g2 := F0 m 23 ls [.int 1]) rfl ?_
      have g1 := (zqM (n := Cs.length) (by omega) (by omega)).mp g1
      have g1e := zn_eq g1.1
      have g1l := zn_lt g1
      rw [g1e] at hl
      have hzs := zoff_succ Cs (zn u1) g1l
      have hzl := zoff_le Cs (zn u1 + 1)
      have hz1 := hne (zn u1) g1l
      have hl : lv_has ls 3 [(0, .ref mm), (1, .int (nI (zn u1))), (2, .int u2)] := hl
      refine lv_if_eq (tgt := 51) F.1 F.2.1 dX8_literal_23 (by decide) (fun hq => absurd hq (by decide)) (fun _ => ?_)
      refine lv_iload_n F.1 F.2.1 dX8_literal_26 rfl (lv_at hl 2 rfl) ?_
      refine lv_iconst (v := (nI 0)) F.1 F.2.1 dX8_literal_27 (by decide) ?_
      refine lv_aload_n F.1 F.2.1 dX8_literal_28 rfl (lv_at hl 0 rfl) ?_
      refine z_get F B 0 rfl (ci := 10) (C := RX8) (T := TX8) (N := 37) rfl iX8_literal_X8 17 (by decide) fX8_literal_38 rfl dX8_literal_29 ?_
      refine lv_iload_n F.1 F.2.1 dX8_literal_32 rfl (lv_at hl 1 rfl) ?_
      refine lv_iconst (v := (nI 1)) F.1 F.2.1 dX8_literal_33 (by decide) ?_
      refine z_iadd F dX8_literal_34 ?_
      refine z_iald F B 2 0 rfl rfl (j := zn u1 + 1) (by omega) (by omega) dX8_literal_35 ?_
      refine W.eq (g2 := F0 m 36 ls [.int (nI (zoff Cs (zn u1 + 1))), .int (nI 0), .int u2]) (by rw [zF_st hF (by omega)]) ?_
      refine lv_aload_n F.1 F.2.1 dX8_literal_36 rfl (lv_at hl 0 rfl) ?_
      refine z_get F B 0 rfl (ci := 10) (C := RX8) (T := TX8) (N := 37) rfl iX8_literal_X8 17 (by decide) fX8_literal_38 rfl dX8_literal_37 ?_
      refine lv_iload_n F.1 F.2.1 dX8_literal_40 rfl (lv_at hl 1 rfl) ?_
      refine z_iald F B 2 0 rfl rfl (j := zn u1) (by omega) (by omega) dX8_literal_41 ?_
      refine W.eq (g2 := F0 m 42 ls [.int (nI (zoff Cs (zn u1))), .int (nI (zoff Cs (zn u1 + 1))), .int (nI 0), .int u2]) (by rw [zF_st hF (by omega)]) ?_
      refine z_isub F (by omega) dX8_literal_42 ?_
      refine W.eq (g2 := F0 m 43 ls [.int (nI (zlen Cs (zn u1))), .int (nI 0), .int u2]) (by rw [hzs, Nat.add_sub_cancel_left]) ?_
      refine lv_iconst (v := (nI 1)) F.1 F.2.1 dX8_literal_43 (by decide) ?_
      refine z_isub F (by omega) dX8_literal_44 ?_
      refine z_callS (wr := [(mm, .inr (10, zmo (nI 0) (nI q) (nI g) (nI t) (nI r) (nI mb) (nI nc) (nI nl) (nI pv) (nI va) (nI n3) (nI ve) (nI ed) (nI se) (nI ci) (nI mr) (nI mt) (nI ld) A8)), (A8 7, .inl (cI, 2400, .inl fl)), (A8 6, .inl (cI, 600, .inl ft))]) (rest := []) (As := [.int u2, .int (nI 0), .int (nI ((zlen Cs (zn u1)) - 1))]) F B (kX8_in l D cI cZ cG cJ u2 (nI 0) (nI ((zlen Cs (zn u1)) - 1))) hl.1 gX8_literal_X8_in rfl 3 yX8_literal_X8_in rfl [] [0, 1, 2] rfl rfl rfl rfl (by decide) (Nat.le_of_ble_eq_true rfl) (Nat.le_of_ble_eq_true rfl) (Nat.le_of_ble_eq_true rfl) rfl dX8_literal_45 (show 0 + 0 ≤ 0 by omega) (show 0 + 0 ≤ 0 by omega) (fun vv ww H locs hRR B => ?_)
      obtain ⟨r_3, rfl, rfl, hb_4⟩ := hRR
      have B : zB D (zT cI cZ cG cJ) A s.heap s [(mm, .inr (10, zmo (nI 0) (nI q) (nI g) (nI t) (nI r) (nI mb) (nI nc) (nI nl) (nI pv) (nI va) (nI n3) (nI ve) (nI ed) (nI se) (nI ci) (nI mr) (nI mt) (nI ld) A8)), (A8 7, .inl (cI, 2400, .inl fl)), (A8 6, .inl (cI, 600, .inl ft))] _ _ := B
      rcases hb_4 with ⟨hr1, g2⟩ | ⟨hr1, g2⟩ <;> subst hr1
      · refine W.eq (g2 := F0 m 48 ls [.int 1]) rfl ?_
        have g2 := (zqM (n := zlen Cs (zn u1)) (by omega) (by omega)).mp g2
        have g2e := zn_eq g2.1
        have g2l := zn_lt g2
        rw [g2e] at hl
        have hl : lv_has ls 3 [(0, .ref mm), (1, .int (nI (zn u1))), (2, .int (nI (zn u2)))] := hl
        refine lv_if_ne (tgt := 53) F.1 F.2.1 dX8_literal_48 (by decide) (fun _ => ?_) (fun hq => absurd hq (by decide))
        refine lv_aload_n F.1 F.2.1 dX8_literal_53 rfl (lv_at hl 0 rfl) ?_
        refine z_get F B 0 rfl (ci := 10) (C := RX8) (T := TX8) (N := 37) rfl iX8_literal_X8 18 (by decide) fX8_literal_41 rfl dX8_literal_54 ?_
        refine lv_aload_n F.1 F.2.1 dX8_literal_57 rfl (lv_at hl 0 rfl) ?_
        refine z_get F B 0 rfl (ci := 10) (C := RX8) (T := TX8) (N := 37) rfl iX8_literal_X8 17 (by decide) fX8_literal_38 rfl dX8_literal_58 ?_
        refine lv_iload_n F.1 F.2.1 dX8_literal_61 rfl (lv_at hl 1 rfl) ?_
        refine z_iald F B 2 0 rfl rfl (j := zn u1) (by omega) (by omega) dX8_literal_62 ?_
        refine W.eq (g2 := F0 m 63 ls [.int (nI (zoff Cs (zn u1))), .ref (A8 7)]) (by rw [zF_st hF (by omega)]) ?_
        refine lv_iload_n F.1 F.2.1 dX8_literal_63 rfl (lv_at hl 2 rfl) ?_
        refine z_iadd F dX8_literal_64 ?_
        refine z_iald F B 1 0 rfl rfl (j := zoff Cs (zn u1) + (zn u2)) (by omega) (by omega) dX8_literal_65 ?_
        refine W.eq (g2 := F0 m 66 ls [.int (nI (zlit Cs (zn u1) (zn u2)))]) (by rw [zF_lit hF g1l g2l]) ?_
        exact z_iret F hr hlk B [0, 1, 2] rfl (rfl) dX8_literal_66 (by omega) (by omega) ⟨by rw [zif_t ⟨by omega, g1, g2⟩], rfl⟩
      · refine W.eq (g2 := F0 m 48 ls [.int 0]) rfl ?_
        have g2 : ¬ zq u2 (zlen Cs (zn u1)) := fun q9 => g2 ((zqM (n := zlen Cs (zn u1)) (by omega) (by omega)).mpr q9)
        refine lv_if_ne (tgt := 53) F.1 F.2.1 dX8_literal_48 (by decide) (fun hq => absurd (by decide) hq) (fun _ => ?_)
        refine lv_iconst (v := (-1)) F.1 F.2.1 dX8_literal_51 (by decide) ?_
        exact z_iret F hr hlk B [0, 1, 2] rfl (rfl) dX8_literal_52 (by omega) (by omega) ⟨by rw [zif_f (by intro q9; first | exact absurd q9.1 (by omega) | exact g1 q9.2.1 | exact g2 q9.2.2)], rfl⟩
    · refine W.eq (g2 := F0 m 23 ls [.int 0]) rfl ?_
      have g1 : ¬ zq u1 Cs.length := fun q9 => g1 ((zqM (n := Cs.length) (by omega) (by omega)).mpr q9)
      refine lv_if_eq (tgt := 51) F.1 F.2.1 dX8_literal_23 (by decide) (fun _ => ?_) (fun hq => absurd (by decide) hq)
      refine lv_iconst (v := (-1)) F.1 F.2.1 dX8_literal_51 (by decide) ?_
      exact z_iret F hr hlk B [0, 1, 2] rfl (rfl) dX8_literal_52 (by omega) (by omega) ⟨by rw [zif_f (by intro q9; first | exact absurd q9.1 (by omega) | exact g1 q9.2.1 | exact g2 q9.2.2)], rfl⟩
theorem iX8_three_X8 : ∀ w ∈ u_ws RX8 TX8 37, w ∈ wsX8_three := fun w h => List.mem_cons_of_mem _ (List.mem_append_right _ h)
theorem fX8_three_79 : Cond.fieldLink RX8 79 "TourChainModel" "thrown" "I" ∈ wsX8_three := by decide +kernel
theorem fX8_three_82 : Cond.fieldLink RX8 82 "TourChainModel" "built" "Z" ∈ wsX8_three := by decide +kernel
theorem fX8_three_152 : Cond.fieldLink RX8 152 "TourChainModel" "threes" "I" ∈ wsX8_three := by decide +kernel
theorem yX8_three_X8_in : yX8_in.cls = RX8 ∧ yX8_in.cls ≠ "java/lang/invoke/MethodHandle" ∧ yX8_in.cls ≠ "java/lang/invoke/VarHandle" ∧ (parseMethodDescriptor yX8_in.desc).map (fun d => d.parameters.length) = some 3 := by decide +kernel
theorem fX8_three_44 : Cond.fieldLink RX8 44 "TourChainModel" "three" "[I" ∈ wsX8_three := by decide +kernel
set_option maxHeartbeats 4000000 in
set_option maxRecDepth 100000 in
theorem kX8_three (l : Launch) (D : va_G) (cI cZ cG cJ : ClassId) (mm : Nat) (th : Nat) (q : Nat) (g : Nat) (t : Nat) (r : Nat) (mb : Nat) (nc : Nat) (nl : Nat) (pv : Nat) (va : Nat) (n3 : Nat) (ve : Nat) (ed : Nat) (se : Nat) (ci : Nat) (mr : Nat) (mt : Nat) (ld : Nat) (A8 : Nat → Nat) (f3 : Nat → Int32) (L3 : List Nat) (u1 : Int32) (u2 : Int32) (hmb : mb ≤ 1) (hb : mb = 1 → zR f3 (3 * n3) L3 ∧ 3 * n3 ≤ 1900 ∧ 1 ≤ n3) : zC l yX8_three wsX8_three 1 22 0 0 D (zT cI cZ cG cJ) [.ref mm, .int u1, .int u2] [(mm, .inr (10, zmo (nI th) (nI q) (nI g) (nI t) (nI r) (nI mb) (nI nc) (nI nl) (nI pv) (nI va) (nI n3) (nI ve) (nI ed) (nI se) (nI ci) (nI mr) (nI mt) (nI ld) A8)), (A8 8, .inl (cI, 1900, .inl f3))] (fun (ov : Option Value) (ow : va_W) => ov = some (.int (zif (mb = 1 ∧ zq u1 n3 ∧ zq u2 3) (nI (L3.getD (3 * zn u1 + zn u2) 0)) (-1))) ∧ ow = [(mm, .inr (10, zmo (nI 0) (nI q) (nI g) (nI t) (nI r) (nI mb) (nI nc) (nI nl) (nI pv) (nI va) (nI n3) (nI ve) (nI ed) (nI se) (nI ci) (nI mr) (nI mt) (nI ld) A8)), (A8 8, .inl (cI, 1900, .inl f3))]) := by
  refine zC.of (cc := cX8_three) (maxL := 3) (ret := (some .int)) (by decide) rfl (Nat.le_of_ble_eq_true rfl) ?_
  intro p e s m below meth c A ls F hr hlk hnm B hl
  have hl : lv_has ls 3 [(0, .ref mm), (1, .int u1), (2, .int u2)] := hl
  refine lv_aload_n F.1 F.2.1 dX8_three_0 rfl (lv_at hl 0 rfl) ?_
  refine lv_iconst (v := (nI 0)) F.1 F.2.1 dX8_three_1 (by decide) ?_
  refine z_put F B 0 rfl (ci := 10) (C := RX8) (T := TX8) (N := 37) rfl iX8_three_X8 tyX8 tyX8_ok nmX8 0 (by decide) fX8_three_79 rfl (v := .int (nI 0)) rfl rfl (Nat.le_of_ble_eq_true rfl) dX8_three_2 (fun H locs B => ?_)
  have B : zB D (zT cI cZ cG cJ) A s.heap s [(mm, .inr (10, zmo (nI 0) (nI q) (nI g) (nI t) (nI r) (nI mb) (nI nc) (nI nl) (nI pv) (nI va) (nI n3) (nI ve) (nI ed) (nI se) (nI ci) (nI mr) (nI mt) (nI ld) A8)), (A8 8, .inl (cI, 1900, .inl f3))] _ _ := B
  refine lv_aload_n F.1 F.2.1 dX8_three_5 rfl (lv_at hl 0 rfl) ?_
  refine z_get F B 0 rfl (ci := 10) (C := RX8) (T := TX8) (N := 37) rfl iX8_three_X8 11 (by decide) fX8_three_82 rfl dX8_three_6 ?_
  refine z_if_eq (tgt := 48) F (by omega) dX8_three_9 (by decide) (fun c9 => ?_) (fun c9 => ?_)
  · refine lv_iconst (v := (-1)) F.1 F.2.1 dX8_three_48 (by decide) ?_
    exact z_iret F hr hlk B [0, 1] rfl (rfl) dX8_three_49 (by omega) (by omega) ⟨by rw [zif_f (by intro q9; first | exact absurd q9.1 (by omega) | exact g1 q9.2.1 | exact g2 q9.2.2)], rfl⟩
  · obtain ⟨hR, hb1, hb2⟩ := hb (by omega)
    refine lv_iload_n F.1 F.2.1 dX8_three_12 rfl (lv_at hl 1 rfl) ?_
    refine lv_iconst (v := (nI 0)) F.1 F.2.1 dX8_three_13 (by decide) ?_
    refine lv_aload_n F.1 F.2.1 dX8_three_14 rfl (lv_at hl 0 rfl) ?_
    refine z_get F B 0 rfl (ci := 10) (C := RX8) (T := TX8) (N := 37) rfl iX8_three_X8 16 (by decide) fX8_three_152 rfl dX8_three_15 ?_
    refine lv_iconst (v := (nI 1)) F.1 F.2.1 dX8_three_18 (by decide) ?_
    refine z_isub F (by omega) dX8_three_19 ?_
    refine z_callS (wr := [(mm, .inr (10, zmo (nI 0) (nI q) (nI g) (nI t) (nI r) (nI mb) (nI nc) (nI nl) (nI pv) (nI va) (nI n3) (nI ve) (nI ed) (nI se) (nI ci) (nI mr) (nI mt) (nI ld) A8)), (A8 8, .inl (cI, 1900, .inl f3))]) (rest := []) (As := [.int u1, .int (nI 0), .int (nI (n3 - 1))]) F B (kX8_in l D cI cZ cG cJ u1 (nI 0) (nI (n3 - 1))) hl.1 gX8_three_X8_in rfl 3 yX8_three_X8_in rfl [] [0, 1] rfl rfl rfl rfl (by decide) (Nat.le_of_ble_eq_true rfl) (Nat.le_of_ble_eq_true rfl) (Nat.le_of_ble_eq_true rfl) rfl dX8_three_20 (show 0 + 0 ≤ 0 by omega) (show 0 + 0 ≤ 0 by omega) (fun vv ww H locs hRR B => ?_)
    obtain ⟨r_1, rfl, rfl, hb_2⟩ := hRR
    have B : zB D (zT cI cZ cG cJ) A s.heap s [(mm, .inr (10, zmo (nI 0) (nI q) (nI g) (nI t) (nI r) (nI mb) (nI nc) (nI nl) (nI pv) (nI va) (nI n3) (nI ve) (nI ed) (nI se) (nI ci) (nI mr) (nI mt) (nI ld) A8)), (A8 8, .inl (cI, 1900, .inl f3))] _ _ := B
    rcases hb_2 with ⟨hr1, g1⟩ | ⟨hr1, g1⟩ <;> subst hr1
    · refine W.eq (g2 := F0 m 23 ls [.int 1]) rfl ?_
      have g1 := (zqM (n := n3) (by omega) (by omega)).mp g1
      have g1e := zn_eq g1.1
      have g1l := zn_lt g1
      rw [g1e] at hl
      have hl : lv_has ls 3 [(0, .ref mm), (1, .int (nI (zn u1))), (2, .int u2)] := hl
      refine lv_if_eq (tgt := 48) F.1 F.2.1 dX8_three_23 (by decide) (fun hq => absurd hq (by decide)) (fun _ => ?_)
      refine lv_iload_n F.1 F.2.1 dX8_three_26 rfl (lv_at hl 2 rfl) ?_
      refine lv_iconst (v := (nI 0)) F.1 F.2.1 dX8_three_27 (by decide) ?_
      refine lv_iconst (v := (nI 2)) F.1 F.2.1 dX8_three_28 (by decide) ?_
      refine z_callS (wr := [(mm, .inr (10, zmo (nI 0) (nI q) (nI g) (nI t) (nI r) (nI mb) (nI nc) (nI nl) (nI pv) (nI va) (nI n3) (nI ve) (nI ed) (nI se) (nI ci) (nI mr) (nI mt) (nI ld) A8)), (A8 8, .inl (cI, 1900, .inl f3))]) (rest := []) (As := [.int u2, .int (nI 0), .int (nI 2)]) F B (kX8_in l D cI cZ cG cJ u2 (nI 0) (nI 2)) hl.1 gX8_three_X8_in rfl 3 yX8_three_X8_in rfl [] [0, 1] rfl rfl rfl rfl (by decide) (Nat.le_of_ble_eq_true rfl) (Nat.le_of_ble_eq_true rfl) (Nat.le_of_ble_eq_true rfl) rfl dX8_three_29 (show 0 + 0 ≤ 0 by omega) (show 0 + 0 ≤ 0 by omega) (fun vv ww H locs hRR B => ?_)
      obtain ⟨r_3, rfl, rfl, hb_4⟩ := hRR
      have B : zB D (zT cI cZ cG cJ) A s.heap s [(mm, .inr (10, zmo (nI 0) (nI q) (nI g) (nI t) (nI r) (nI mb) (nI nc) (nI nl) (nI pv) (nI va) (nI n3) (nI ve) (nI ed) (nI se) (nI ci) (nI mr) (nI mt) (nI ld) A8)), (A8 8, .inl (cI, 1900, .inl f3))] _ _ := B
      rcases hb_4 with ⟨hr1, g2⟩ | ⟨hr1, g2⟩ <;> subst hr1
      · refine W.eq (g2 := F0 m 32 ls [.int 1]) rfl ?_
        have g2 := (zqM (n := 3) (by omega) (by omega)).mp g2
        have g2e := zn_eq g2.1
        have g2l := zn_lt g2
        rw [g2e] at hl
        have hl : lv_has ls 3 [(0, .ref mm), (1, .int (nI (zn u1))), (2, .int (nI (zn u2)))] := hl
        refine lv_if_eq (tgt := 48) F.1 F.2.1 dX8_three_32 (by decide) (fun hq => absurd hq (by decide)) (fun _ => ?_)
        refine lv_aload_n F.1 F.2.1 dX8_three_35 rfl (lv_at hl 0 rfl) ?_
        refine z_get F B 0 rfl (ci := 10) (C := RX8) (T := TX8) (N := 37) rfl iX8_three_X8 19 (by decide) fX8_three_44 rfl dX8_three_36 ?_
        refine lv_iconst (v := (nI 3)) F.1 F.2.1 dX8_three_39 (by decide) ?_
        refine lv_iload_n F.1 F.2.1 dX8_three_40 rfl (lv_at hl 1 rfl) ?_
        refine z_imul F dX8_three_41 ?_
        refine lv_iload_n F.1 F.2.1 dX8_three_42 rfl (lv_at hl 2 rfl) ?_
        refine z_iadd F dX8_three_43 ?_
        refine z_iald F B 1 0 rfl rfl (j := 3 * (zn u1) + (zn u2)) (by omega) (by omega) dX8_three_44 ?_
        refine W.eq (g2 := F0 m 45 ls [.int (nI (L3.getD (3 * zn u1 + zn u2) 0))]) (by rw [zR_at hR (by omega)]) ?_
        refine lv_goto (tgt := 49) F.1 F.2.1 dX8_three_45 (by decide) ?_
        exact z_iret F hr hlk B [0, 1] rfl (rfl) dX8_three_49 (by omega) (by omega) ⟨by rw [zif_t ⟨by omega, g1, g2⟩], rfl⟩
      · refine W.eq (g2 := F0 m 32 ls [.int 0]) rfl ?_
        have g2 : ¬ zq u2 3 := fun q9 => g2 ((zqM (n := 3) (by omega) (by omega)).mpr q9)
        refine lv_if_eq (tgt := 48) F.1 F.2.1 dX8_three_32 (by decide) (fun _ => ?_) (fun hq => absurd (by decide) hq)
        refine lv_iconst (v := (-1)) F.1 F.2.1 dX8_three_48 (by decide) ?_
        exact z_iret F hr hlk B [0, 1] rfl (rfl) dX8_three_49 (by omega) (by omega) ⟨by rw [zif_f (by intro q9; first | exact absurd q9.1 (by omega) | exact g1 q9.2.1 | exact g2 q9.2.2)], rfl⟩
    · refine W.eq (g2 := F0 m 23 ls [.int 0]) rfl ?_
      have g1 : ¬ zq u1 n3 := fun q9 => g1 ((zqM (n := n3) (by omega) (by omega)).mpr q9)
      refine lv_if_eq (tgt := 48) F.1 F.2.1 dX8_three_23 (by decide) (fun _ => ?_) (fun hq => absurd (by decide) hq)
      refine lv_iconst (v := (-1)) F.1 F.2.1 dX8_three_48 (by decide) ?_
      exact z_iret F hr hlk B [0, 1] rfl (rfl) dX8_three_49 (by omega) (by omega) ⟨by rw [zif_f (by intro q9; first | exact absurd q9.1 (by omega) | exact g1 q9.2.1 | exact g2 q9.2.2)], rfl⟩
theorem iX8_end_X8 : ∀ w ∈ u_ws RX8 TX8 37, w ∈ wsX8_end := fun w h => List.mem_cons_of_mem _ (List.mem_append_right _ h)
theorem fX8_end_79 : Cond.fieldLink RX8 79 "TourChainModel" "thrown" "I" ∈ wsX8_end := by decide +kernel
theorem fX8_end_82 : Cond.fieldLink RX8 82 "TourChainModel" "built" "Z" ∈ wsX8_end := by decide +kernel
theorem fX8_end_164 : Cond.fieldLink RX8 164 "TourChainModel" "edges" "I" ∈ wsX8_end := by decide +kernel
theorem yX8_end_X8_in : yX8_in.cls = RX8 ∧ yX8_in.cls ≠ "java/lang/invoke/MethodHandle" ∧ yX8_in.cls ≠ "java/lang/invoke/VarHandle" ∧ (parseMethodDescriptor yX8_in.desc).map (fun d => d.parameters.length) = some 3 := by decide +kernel
theorem yX8_end_X8_vertexAt : yX8_vertexAt.cls = RX8 ∧ yX8_vertexAt.cls ≠ "java/lang/invoke/MethodHandle" ∧ yX8_vertexAt.cls ≠ "java/lang/invoke/VarHandle" ∧ (parseMethodDescriptor yX8_vertexAt.desc).map (fun d => d.parameters.length) = some 2 := by decide +kernel
set_option maxHeartbeats 4000000 in
set_option maxRecDepth 100000 in
theorem kX8_end (l : Launch) (D : va_G) (cI cZ cG cJ : ClassId) (mm : Nat) (th : Nat) (q : Nat) (g : Nat) (t : Nat) (r : Nat) (mb : Nat) (nc : Nat) (nl : Nat) (pv : Nat) (va : Nat) (n3 : Nat) (ve : Nat) (ed : Nat) (se : Nat) (ci : Nat) (mr : Nat) (mt : Nat) (ld : Nat) (A8 : Nat → Nat) (f3 : Nat → Int32) (L3 : List Nat) (u1 : Int32) (u2 : Int32) (hmb : mb ≤ 1) (hb : mb = 1 → zR f3 (3 * n3) L3 ∧ 3 * n3 ≤ 1900 ∧ va ≤ 1000 ∧ ed = va + 6 * n3 ∧ 1 ≤ ed) : zC l yX8_end wsX8_end 1 25 0 0 D (zT cI cZ cG cJ) [.ref mm, .int u1, .int u2] [(mm, .inr (10, zmo (nI th) (nI q) (nI g) (nI t) (nI r) (nI mb) (nI nc) (nI nl) (nI pv) (nI va) (nI n3) (nI ve) (nI ed) (nI se) (nI ci) (nI mr) (nI mt) (nI ld) A8)), (A8 8, .inl (cI, 1900, .inl f3))] (fun (ov : Option Value) (ow : va_W) => ov = some (.int (zif (mb = 1 ∧ zq u1 ed ∧ zq u2 2) (nI (zva va L3 (2 * zn u1 + zn u2))) (-1))) ∧ ow = [(mm, .inr (10, zmo (nI 0) (nI q) (nI g) (nI t) (nI r) (nI mb) (nI nc) (nI nl) (nI pv) (nI va) (nI n3) (nI ve) (nI ed) (nI se) (nI ci) (nI mr) (nI mt) (nI ld) A8)), (A8 8, .inl (cI, 1900, .inl f3))]) := by
  refine zC.of (cc := cX8_end) (maxL := 3) (ret := (some .int)) (by decide) rfl (Nat.le_of_ble_eq_true rfl) ?_
  intro p e s m below meth c A ls F hr hlk hnm B hl
  have hl : lv_has ls 3 [(0, .ref mm), (1, .int u1), (2, .int u2)] := hl
  refine lv_aload_n F.1 F.2.1 dX8_end_0 rfl (lv_at hl 0 rfl) ?_
  refine lv_iconst (v := (nI 0)) F.1 F.2.1 dX8_end_1 (by decide) ?_
  refine z_put F B 0 rfl (ci := 10) (C := RX8) (T := TX8) (N := 37) rfl iX8_end_X8 tyX8 tyX8_ok nmX8 0 (by decide) fX8_end_79 rfl (v := .int (nI 0)) rfl rfl (Nat.le_of_ble_eq_true rfl) dX8_end_2 (fun H locs B => ?_)
  have B : zB D (zT cI cZ cG cJ) A s.heap s [(mm, .inr (10, zmo (nI 0) (nI q) (nI g) (nI t) (nI r) (nI mb) (nI nc) (nI nl) (nI pv) (nI va) (nI n3) (nI ve) (nI ed) (nI se) (nI ci) (nI mr) (nI mt) (nI ld) A8)), (A8 8, .inl (cI, 1900, .inl f3))] _ _ := B
  refine lv_aload_n F.1 F.2.1 dX8_end_5 rfl (lv_at hl 0 rfl) ?_
  refine z_get F B 0 rfl (ci := 10) (C := RX8) (T := TX8) (N := 37) rfl iX8_end_X8 11 (by decide) fX8_end_82 rfl dX8_end_6 ?_
  refine z_if_eq (tgt := 44) F (by omega) dX8_end_9 (by decide) (fun c9 => ?_) (fun c9 => ?_)
  · refine lv_iconst (v := (-1)) F.1 F.2.1 dX8_end_44 (by decide) ?_
    exact z_iret F hr hlk B [0, 1] rfl (rfl) dX8_end_45 (by omega) (by omega) ⟨by rw [zif_f (by intro q9; first | exact absurd q9.1 (by omega) | exact g1 q9.2.1 | exact g2 q9.2.2)], rfl⟩
  · obtain ⟨hR, hb1, hb2, hb3, hb4⟩ := hb (by omega)
    refine lv_iload_n F.1 F.2.1 dX8_end_12 rfl (lv_at hl 1 rfl) ?_
    refine lv_iconst (v := (nI 0)) F.1 F.2.1 dX8_end_13 (by decide) ?_
    refine lv_aload_n F.1 F.2.1 dX8_end_14 rfl (lv_at hl 0 rfl) ?_
    refine z_get F B 0 rfl (ci := 10) (C := RX8) (T := TX8) (N := 37) rfl iX8_end_X8 21 (by decide) fX8_end_164 rfl dX8_end_15 ?_
    refine lv_iconst (v := (nI 1)) F.1 F.2.1 dX8_end_18 (by decide) ?_
    refine z_isub F (by omega) dX8_end_19 ?_
    refine z_callS (wr := [(mm, .inr (10, zmo (nI 0) (nI q) (nI g) (nI t) (nI r) (nI mb) (nI nc) (nI nl) (nI pv) (nI va) (nI n3) (nI ve) (nI ed) (nI se) (nI ci) (nI mr) (nI mt) (nI ld) A8)), (A8 8, .inl (cI, 1900, .inl f3))]) (rest := []) (As := [.int u1, .int (nI 0), .int (nI (ed - 1))]) F B (kX8_in l D cI cZ cG cJ u1 (nI 0) (nI (ed - 1))) hl.1 gX8_end_X8_in rfl 3 yX8_end_X8_in rfl [] [0, 1] rfl rfl rfl rfl (by decide) (Nat.le_of_ble_eq_true rfl) (Nat.le_of_ble_eq_true rfl) (Nat.le_of_ble_eq_true rfl) rfl dX8_end_20 (show 0 + 0 ≤ 0 by omega) (show 0 + 0 ≤ 0 by omega) (fun vv ww H locs hRR B => ?_)
    obtain ⟨r_1, rfl, rfl, hb_2⟩ := hRR
    have B : zB D (zT cI cZ cG cJ) A s.heap s [(mm, .inr (10, zmo (nI 0) (nI q) (nI g) (nI t) (nI r) (nI mb) (nI nc) (nI nl) (nI pv) (nI va) (nI n3) (nI ve) (nI ed) (nI se) (nI ci) (nI mr) (nI mt) (nI ld) A8)), (A8 8, .inl (cI, 1900, .inl f3))] _ _ := B
    rcases hb_2 with ⟨hr1, g1⟩ | ⟨hr1, g1⟩ <;> subst hr1
    · refine W.eq (g2 := F0 m 23 ls [.int 1]) rfl ?_
      have g1 := (zqM (n := ed) (by omega) (by omega)).mp g1
      have g1e := zn_eq g1.1
      have g1l := zn_lt g1
      rw [g1e] at hl
      have hl : lv_has ls 3 [(0, .ref mm), (1, .int (nI (zn u1))), (2, .int u2)] := hl
      refine lv_if_eq (tgt := 44) F.1 F.2.1 dX8_end_23 (by decide) (fun hq => absurd hq (by decide)) (fun _ => ?_)
      refine lv_iload_n F.1 F.2.1 dX8_end_26 rfl (lv_at hl 2 rfl) ?_
      refine lv_iconst (v := (nI 0)) F.1 F.2.1 dX8_end_27 (by decide) ?_
      refine lv_iconst (v := (nI 1)) F.1 F.2.1 dX8_end_28 (by decide) ?_
      refine z_callS (wr := [(mm, .inr (10, zmo (nI 0) (nI q) (nI g) (nI t) (nI r) (nI mb) (nI nc) (nI nl) (nI pv) (nI va) (nI n3) (nI ve) (nI ed) (nI se) (nI ci) (nI mr) (nI mt) (nI ld) A8)), (A8 8, .inl (cI, 1900, .inl f3))]) (rest := []) (As := [.int u2, .int (nI 0), .int (nI 1)]) F B (kX8_in l D cI cZ cG cJ u2 (nI 0) (nI 1)) hl.1 gX8_end_X8_in rfl 3 yX8_end_X8_in rfl [] [0, 1] rfl rfl rfl rfl (by decide) (Nat.le_of_ble_eq_true rfl) (Nat.le_of_ble_eq_true rfl) (Nat.le_of_ble_eq_true rfl) rfl dX8_end_29 (show 0 + 0 ≤ 0 by omega) (show 0 + 0 ≤ 0 by omega) (fun vv ww H locs hRR B => ?_)
      obtain ⟨r_3, rfl, rfl, hb_4⟩ := hRR
      have B : zB D (zT cI cZ cG cJ) A s.heap s [(mm, .inr (10, zmo (nI 0) (nI q) (nI g) (nI t) (nI r) (nI mb) (nI nc) (nI nl) (nI pv) (nI va) (nI n3) (nI ve) (nI ed) (nI se) (nI ci) (nI mr) (nI mt) (nI ld) A8)), (A8 8, .inl (cI, 1900, .inl f3))] _ _ := B
      rcases hb_4 with ⟨hr1, g2⟩ | ⟨hr1, g2⟩ <;> subst hr1
      · refine W.eq (g2 := F0 m 32 ls [.int 1]) rfl ?_
        have g2 := (zqM (n := 2) (by omega) (by omega)).mp g2
        have g2e := zn_eq g2.1
        have g2l := zn_lt g2
        rw [g2e] at hl
        have hl : lv_has ls 3 [(0, .ref mm), (1, .int (nI (zn u1))), (2, .int (nI (zn u2)))] := hl
        refine lv_if_eq (tgt := 44) F.1 F.2.1 dX8_end_32 (by decide) (fun hq => absurd hq (by decide)) (fun _ => ?_)
        refine lv_aload_n F.1 F.2.1 dX8_end_35 rfl (lv_at hl 0 rfl) ?_
        refine lv_iload_n F.1 F.2.1 dX8_end_36 rfl (lv_at hl 1 rfl) ?_
        refine lv_iload_n F.1 F.2.1 dX8_end_37 rfl (lv_at hl 2 rfl) ?_
        refine z_callV (wr := []) (rest := []) (As := [.int (nI (zn u1)), .int (nI (zn u2))]) F B (kX8_vertexAt l D cI cZ cG cJ mm 0 q g t r mb nc nl pv va n3 ve ed se ci mr mt ld A8 f3 L3 (zn u1) (zn u2) (hR) (by omega) (by omega) (by omega) (by omega)) hl.1 (C := RX8) (T := TX8) (N := 37) (ci := 10) (q0 := 0) gX8_end_X8_vertexAt rfl 2 yX8_end_X8_vertexAt rfl rfl rfl [0, 1] [] rfl rfl rfl rfl (by decide) (Nat.le_of_ble_eq_true rfl) (Nat.le_of_ble_eq_true rfl) (Nat.le_of_ble_eq_true rfl) rfl dX8_end_38 (show 0 + 0 ≤ 0 by omega) (show 0 + 0 ≤ 0 by omega) (fun vv ww H locs hRR B => ?_)
        obtain ⟨rfl, rfl⟩ := hRR
        have B : zB D (zT cI cZ cG cJ) A s.heap s [(mm, .inr (10, zmo (nI 0) (nI q) (nI g) (nI t) (nI r) (nI mb) (nI nc) (nI nl) (nI pv) (nI va) (nI n3) (nI ve) (nI ed) (nI se) (nI ci) (nI mr) (nI mt) (nI ld) A8)), (A8 8, .inl (cI, 1900, .inl f3))] _ _ := B
        refine W.eq (g2 := F0 m 41 ls [.int (nI (zva va L3 (2 * (zn u1) + (zn u2))))]) rfl ?_
        refine lv_goto (tgt := 45) F.1 F.2.1 dX8_end_41 (by decide) ?_
        exact z_iret F hr hlk B [0, 1] rfl (rfl) dX8_end_45 (by omega) (by omega) ⟨by rw [zif_t ⟨by omega, g1, g2⟩], rfl⟩
      · refine W.eq (g2 := F0 m 32 ls [.int 0]) rfl ?_
        have g2 : ¬ zq u2 2 := fun q9 => g2 ((zqM (n := 2) (by omega) (by omega)).mpr q9)
        refine lv_if_eq (tgt := 44) F.1 F.2.1 dX8_end_32 (by decide) (fun _ => ?_) (fun hq => absurd (by decide) hq)
        refine lv_iconst (v := (-1)) F.1 F.2.1 dX8_end_44 (by decide) ?_
        exact z_iret F hr hlk B [0, 1] rfl (rfl) dX8_end_45 (by omega) (by omega) ⟨by rw [zif_f (by intro q9; first | exact absurd q9.1 (by omega) | exact g1 q9.2.1 | exact g2 q9.2.2)], rfl⟩
    · refine W.eq (g2 := F0 m 23 ls [.int 0]) rfl ?_
      have g1 : ¬ zq u1 ed := fun q9 => g1 ((zqM (n := ed) (by omega) (by omega)).mpr q9)
      refine lv_if_eq (tgt := 44) F.1 F.2.1 dX8_end_23 (by decide) (fun _ => ?_) (fun hq => absurd (by decide) hq)
      refine lv_iconst (v := (-1)) F.1 F.2.1 dX8_end_44 (by decide) ?_
      exact z_iret F hr hlk B [0, 1] rfl (rfl) dX8_end_45 (by omega) (by omega) ⟨by rw [zif_f (by intro q9; first | exact absurd q9.1 (by omega) | exact g1 q9.2.1 | exact g2 q9.2.2)], rfl⟩
theorem yX8_isSelectorRoad_X8_vertexAt : yX8_vertexAt.cls = RX8 ∧ yX8_vertexAt.cls ≠ "java/lang/invoke/MethodHandle" ∧ yX8_vertexAt.cls ≠ "java/lang/invoke/VarHandle" ∧ (parseMethodDescriptor yX8_vertexAt.desc).map (fun d => d.parameters.length) = some 2 := by decide +kernel
theorem iX8_isSelectorRoad_X8 : ∀ w ∈ u_ws RX8 TX8 37, w ∈ wsX8_isSelectorRoad := fun w h => List.mem_cons_of_mem _ (List.mem_append_right _ h)
theorem fX8_isSelectorRoad_53 : Cond.fieldLink RX8 53 "TourChainModel" "lastEnd" "[I" ∈ wsX8_isSelectorRoad := by decide +kernel
theorem fX8_isSelectorRoad_50 : Cond.fieldLink RX8 50 "TourChainModel" "firstEnd" "[I" ∈ wsX8_isSelectorRoad := by decide +kernel
set_option maxHeartbeats 4000000 in
set_option maxRecDepth 100000 in
theorem kX8_isSelectorRoad (l : Launch) (D : va_G) (cI cZ cG cJ : ClassId) (mm : Nat) (th : Nat) (q : Nat) (g : Nat) (t : Nat) (r : Nat) (mb : Nat) (nc : Nat) (nl : Nat) (pv : Nat) (va : Nat) (n3 : Nat) (ve : Nat) (ed : Nat) (se : Nat) (ci : Nat) (mr : Nat) (mt : Nat) (ld : Nat) (A8 : Nat → Nat) (f3 : Nat → Int32) (L3 : List Nat) (ffe : Nat → Int32) (fle : Nat → Int32) (x : Nat) (hR : zR f3 (3 * n3) L3) (hb : 3 * n3 ≤ 1900) (hv : va ≤ 1000) (hL : ∀ i, i < 3 * n3 → L3.getD i 0 < 2 * va) (hve : ve = 2 * va + 3 * n3) (hve2 : ve ≤ 2200) (hed : ed = va + 6 * n3) (hed2 : 2 * ed ≤ 7600) (hFE : ∀ u, u < ve → zFE (zva va L3) (2 * ed) u (ffe u)) (hLE : ∀ u, u < ve → zLE (zva va L3) (2 * ed) u (fle u)) (hx : x < 12 * ed) : zC l yX8_isSelectorRoad wsX8_isSelectorRoad 1 25 0 0 D (zT cI cZ cG cJ) [.ref mm, .int (nI x)] [(mm, .inr (10, zmo (nI th) (nI q) (nI g) (nI t) (nI r) (nI mb) (nI nc) (nI nl) (nI pv) (nI va) (nI n3) (nI ve) (nI ed) (nI se) (nI ci) (nI mr) (nI mt) (nI ld) A8)), (A8 8, .inl (cI, 1900, .inl f3)), (A8 10, .inl (cI, 2200, .inl ffe)), (A8 11, .inl (cI, 2200, .inl fle))] (fun (ov : Option Value) (ow : va_W) => ∃ rb : Int32, ov = some (.int rb) ∧ ow = [(mm, .inr (10, zmo (nI th) (nI q) (nI g) (nI t) (nI r) (nI mb) (nI nc) (nI nl) (nI pv) (nI va) (nI n3) (nI ve) (nI ed) (nI se) (nI ci) (nI mr) (nI mt) (nI ld) A8)), (A8 8, .inl (cI, 1900, .inl f3)), (A8 10, .inl (cI, 2200, .inl ffe)), (A8 11, .inl (cI, 2200, .inl fle))] ∧ ((rb = 1 ∧ (zSel (zva va L3) ed x)) ∨ (rb = 0 ∧ ¬ (zSel (zva va L3) ed x)))) := by
  refine zC.of (cc := cX8_isSelectorRoad) (maxL := 4) (ret := (some .boolean)) (by decide) rfl (Nat.le_of_ble_eq_true rfl) ?_
  intro p e s m below meth c A ls F hr hlk hnm B hl
  have hl : lv_has ls 4 [(0, .ref mm), (1, .int (nI x))] := hl
  have hxd : x / 6 < 2 * ed := by omega
  have hwb := zva_bd hL (d := x / 6) (by omega)
  refine lv_iload_n F.1 F.2.1 dX8_isSelectorRoad_0 rfl (lv_at hl 1 rfl) ?_
  refine lv_bipush (v := (nI 6)) F.1 F.2.1 dX8_isSelectorRoad_1 (by decide) ?_
  refine z_idiv F (by omega) (by omega) (by omega) dX8_isSelectorRoad_3 ?_
  refine lv_istore_n (lv' := [(2, .int (nI (x / 6))), (0, .ref mm), (1, .int (nI x))]) F.1 F.2.1 dX8_isSelectorRoad_4 rfl hl (by decide) rfl (fun ls hl => ?_)
  refine lv_aload_n F.1 F.2.1 dX8_isSelectorRoad_5 rfl (lv_at hl 1 rfl) ?_
  refine lv_iload_n F.1 F.2.1 dX8_isSelectorRoad_6 rfl (lv_at hl 0 rfl) ?_
  refine lv_iconst (v := (nI 2)) F.1 F.2.1 dX8_isSelectorRoad_7 (by decide) ?_
  refine z_idiv F (by omega) (by omega) (by omega) dX8_isSelectorRoad_8 ?_
  refine lv_iload_n F.1 F.2.1 dX8_isSelectorRoad_9 rfl (lv_at hl 0 rfl) ?_
  refine lv_iconst (v := (nI 2)) F.1 F.2.1 dX8_isSelectorRoad_10 (by decide) ?_
  refine z_irem F (by omega) (by omega) (by omega) dX8_isSelectorRoad_11 ?_
  refine z_callV (wr := [(A8 10, .inl (cI, 2200, .inl ffe)), (A8 11, .inl (cI, 2200, .inl fle))]) (rest := []) (As := [.int (nI ((x / 6) / 2)), .int (nI ((x / 6) % 2))]) F B (kX8_vertexAt l D cI cZ cG cJ mm th q g t r mb nc nl pv va n3 ve ed se ci mr mt ld A8 f3 L3 ((x / 6) / 2) ((x / 6) % 2) (hR) (by omega) (by omega) (by omega) (by omega)) hl.1 (C := RX8) (T := TX8) (N := 37) (ci := 10) (q0 := 0) gX8_isSelectorRoad_X8_vertexAt rfl 2 yX8_isSelectorRoad_X8_vertexAt rfl rfl rfl [0, 1] [2, 3] rfl rfl rfl rfl (by decide) (Nat.le_of_ble_eq_true rfl) (Nat.le_of_ble_eq_true rfl) (Nat.le_of_ble_eq_true rfl) rfl dX8_isSelectorRoad_12 (show 0 + 0 ≤ 0 by omega) (show 0 + 0 ≤ 0 by omega) (fun vv ww H locs hRR B => ?_)
  obtain ⟨rfl, rfl⟩ := hRR
  have B : zB D (zT cI cZ cG cJ) A s.heap s [(A8 10, .inl (cI, 2200, .inl ffe)), (A8 11, .inl (cI, 2200, .inl fle)), (mm, .inr (10, zmo (nI th) (nI q) (nI g) (nI t) (nI r) (nI mb) (nI nc) (nI nl) (nI pv) (nI va) (nI n3) (nI ve) (nI ed) (nI se) (nI ci) (nI mr) (nI mt) (nI ld) A8)), (A8 8, .inl (cI, 1900, .inl f3))] _ _ := B
  refine W.eq (g2 := F0 m 15 ls [.int (nI (zva va L3 (2 * ((x / 6) / 2) + ((x / 6) % 2))))]) rfl ?_
  refine W.eq (g2 := F0 m 15 ls [.int (nI (zva va L3 (x / 6)))]) (by rw [show 2 * (x / 6 / 2) + x / 6 % 2 = x / 6 by omega]) ?_
  refine lv_istore_n (lv' := [(3, .int (nI (zva va L3 (x / 6)))), (2, .int (nI (x / 6))), (0, .ref mm), (1, .int (nI x))]) F.1 F.2.1 dX8_isSelectorRoad_15 rfl hl (by decide) rfl (fun ls hl => ?_)
  refine lv_iload_n F.1 F.2.1 dX8_isSelectorRoad_16 rfl (lv_at hl 3 rfl) ?_
  refine lv_bipush (v := (nI 6)) F.1 F.2.1 dX8_isSelectorRoad_17 (by decide) ?_
  refine z_irem F (by omega) (by omega) (by omega) dX8_isSelectorRoad_19 ?_
  refine z_if_ne (tgt := 33) F (by omega) dX8_isSelectorRoad_20 (by decide) (fun c20 => ?_) (fun c20 => ?_)
  · refine lv_iload_n F.1 F.2.1 dX8_isSelectorRoad_33 rfl (lv_at hl 3 rfl) ?_
    refine lv_bipush (v := (nI 6)) F.1 F.2.1 dX8_isSelectorRoad_34 (by decide) ?_
    refine z_irem F (by omega) (by omega) (by omega) dX8_isSelectorRoad_36 ?_
    refine lv_iconst (v := (nI 5)) F.1 F.2.1 dX8_isSelectorRoad_37 (by decide) ?_
    refine z_icmp_ne (tgt := 55) F (by omega) (by omega) dX8_isSelectorRoad_38 (by decide) (fun c38 => ?_) (fun c38 => ?_)
    · refine lv_iconst (v := (nI 0)) F.1 F.2.1 dX8_isSelectorRoad_55 (by decide) ?_
      exact z_zret F hr hlk B (Or.inl rfl) [2, 3, 0, 1] rfl (rfl) dX8_isSelectorRoad_56 (by omega) (by omega) ⟨(nI 0), rfl, rfl, Or.inr ⟨rfl, by rintro (⟨q8, q9⟩ | ⟨q8, q9⟩) <;> first | exact c30 ((zFE_iff (hFE (zva va L3 (x / 6)) (by omega)) hxd (by omega)).mpr q9) | exact c48 ((zLE_iff (hLE (zva va L3 (x / 6)) (by omega)) hxd (by omega)).mpr q9) | (clear q9; omega)⟩⟩
    · refine lv_aload_n F.1 F.2.1 dX8_isSelectorRoad_41 rfl (lv_at hl 2 rfl) ?_
      refine z_get F B 2 rfl (ci := 10) (C := RX8) (T := TX8) (N := 37) rfl iX8_isSelectorRoad_X8 26 (by decide) fX8_isSelectorRoad_53 rfl dX8_isSelectorRoad_42 ?_
      refine lv_iload_n F.1 F.2.1 dX8_isSelectorRoad_45 rfl (lv_at hl 0 rfl) ?_
      refine z_iald F B 1 0 rfl rfl (j := zva va L3 (x / 6)) (by omega) (by omega) dX8_isSelectorRoad_46 ?_
      refine lv_iload_n F.1 F.2.1 dX8_isSelectorRoad_47 rfl (lv_at hl 1 rfl) ?_
      refine lv_icmp_ne (tgt := 55) F.1 F.2.1 dX8_isSelectorRoad_48 (by decide) (fun c48 => ?_) (fun c48 => ?_)
      · refine lv_iconst (v := (nI 0)) F.1 F.2.1 dX8_isSelectorRoad_55 (by decide) ?_
        exact z_zret F hr hlk B (Or.inl rfl) [2, 3, 0, 1] rfl (rfl) dX8_isSelectorRoad_56 (by omega) (by omega) ⟨(nI 0), rfl, rfl, Or.inr ⟨rfl, by rintro (⟨q8, q9⟩ | ⟨q8, q9⟩) <;> first | exact c30 ((zFE_iff (hFE (zva va L3 (x / 6)) (by omega)) hxd (by omega)).mpr q9) | exact c48 ((zLE_iff (hLE (zva va L3 (x / 6)) (by omega)) hxd (by omega)).mpr q9) | (clear q9; omega)⟩⟩
      · refine lv_iconst (v := (nI 1)) F.1 F.2.1 dX8_isSelectorRoad_51 (by decide) ?_
        refine lv_goto (tgt := 56) F.1 F.2.1 dX8_isSelectorRoad_52 (by decide) ?_
        exact z_zret F hr hlk B (Or.inr rfl) [2, 3, 0, 1] rfl (rfl) dX8_isSelectorRoad_56 (by omega) (by omega) ⟨(nI 1), rfl, rfl, Or.inl ⟨rfl, by first | exact Or.inl ⟨by omega, (zFE_iff (hFE (zva va L3 (x / 6)) (by omega)) hxd (by omega)).mp c30⟩ | exact Or.inr ⟨by omega, (zLE_iff (hLE (zva va L3 (x / 6)) (by omega)) hxd (by omega)).mp c48⟩⟩⟩
  · refine lv_aload_n F.1 F.2.1 dX8_isSelectorRoad_23 rfl (lv_at hl 2 rfl) ?_
    refine z_get F B 2 rfl (ci := 10) (C := RX8) (T := TX8) (N := 37) rfl iX8_isSelectorRoad_X8 25 (by decide) fX8_isSelectorRoad_50 rfl dX8_isSelectorRoad_24 ?_
    refine lv_iload_n F.1 F.2.1 dX8_isSelectorRoad_27 rfl (lv_at hl 0 rfl) ?_
    refine z_iald F B 0 0 rfl rfl (j := zva va L3 (x / 6)) (by omega) (by omega) dX8_isSelectorRoad_28 ?_
    refine lv_iload_n F.1 F.2.1 dX8_isSelectorRoad_29 rfl (lv_at hl 1 rfl) ?_
    refine lv_icmp_eq (tgt := 51) F.1 F.2.1 dX8_isSelectorRoad_30 (by decide) (fun c30 => ?_) (fun c30 => ?_)
    · refine lv_iconst (v := (nI 1)) F.1 F.2.1 dX8_isSelectorRoad_51 (by decide) ?_
      refine lv_goto (tgt := 56) F.1 F.2.1 dX8_isSelectorRoad_52 (by decide) ?_
      exact z_zret F hr hlk B (Or.inr rfl) [2, 3, 0, 1] rfl (rfl) dX8_isSelectorRoad_56 (by omega) (by omega) ⟨(nI 1), rfl, rfl, Or.inl ⟨rfl, by first | exact Or.inl ⟨by omega, (zFE_iff (hFE (zva va L3 (x / 6)) (by omega)) hxd (by omega)).mp c30⟩ | exact Or.inr ⟨by omega, (zLE_iff (hLE (zva va L3 (x / 6)) (by omega)) hxd (by omega)).mp c48⟩⟩⟩
    · refine lv_iload_n F.1 F.2.1 dX8_isSelectorRoad_33 rfl (lv_at hl 3 rfl) ?_
      refine lv_bipush (v := (nI 6)) F.1 F.2.1 dX8_isSelectorRoad_34 (by decide) ?_
      refine z_irem F (by omega) (by omega) (by omega) dX8_isSelectorRoad_36 ?_
      refine lv_iconst (v := (nI 5)) F.1 F.2.1 dX8_isSelectorRoad_37 (by decide) ?_
      refine z_icmp_ne (tgt := 55) F (by omega) (by omega) dX8_isSelectorRoad_38 (by decide) (fun c38 => ?_) (fun c38 => ?_)
      · refine lv_iconst (v := (nI 0)) F.1 F.2.1 dX8_isSelectorRoad_55 (by decide) ?_
        exact z_zret F hr hlk B (Or.inl rfl) [2, 3, 0, 1] rfl (rfl) dX8_isSelectorRoad_56 (by omega) (by omega) ⟨(nI 0), rfl, rfl, Or.inr ⟨rfl, by rintro (⟨q8, q9⟩ | ⟨q8, q9⟩) <;> first | exact c30 ((zFE_iff (hFE (zva va L3 (x / 6)) (by omega)) hxd (by omega)).mpr q9) | exact c48 ((zLE_iff (hLE (zva va L3 (x / 6)) (by omega)) hxd (by omega)).mpr q9) | (clear q9; omega)⟩⟩
      · refine lv_aload_n F.1 F.2.1 dX8_isSelectorRoad_41 rfl (lv_at hl 2 rfl) ?_
        refine z_get F B 2 rfl (ci := 10) (C := RX8) (T := TX8) (N := 37) rfl iX8_isSelectorRoad_X8 26 (by decide) fX8_isSelectorRoad_53 rfl dX8_isSelectorRoad_42 ?_
        refine lv_iload_n F.1 F.2.1 dX8_isSelectorRoad_45 rfl (lv_at hl 0 rfl) ?_
        refine z_iald F B 1 0 rfl rfl (j := zva va L3 (x / 6)) (by omega) (by omega) dX8_isSelectorRoad_46 ?_
        refine lv_iload_n F.1 F.2.1 dX8_isSelectorRoad_47 rfl (lv_at hl 1 rfl) ?_
        refine lv_icmp_ne (tgt := 55) F.1 F.2.1 dX8_isSelectorRoad_48 (by decide) (fun c48 => ?_) (fun c48 => ?_)
        · refine lv_iconst (v := (nI 0)) F.1 F.2.1 dX8_isSelectorRoad_55 (by decide) ?_
          exact z_zret F hr hlk B (Or.inl rfl) [2, 3, 0, 1] rfl (rfl) dX8_isSelectorRoad_56 (by omega) (by omega) ⟨(nI 0), rfl, rfl, Or.inr ⟨rfl, by rintro (⟨q8, q9⟩ | ⟨q8, q9⟩) <;> first | exact c30 ((zFE_iff (hFE (zva va L3 (x / 6)) (by omega)) hxd (by omega)).mpr q9) | exact c48 ((zLE_iff (hLE (zva va L3 (x / 6)) (by omega)) hxd (by omega)).mpr q9) | (clear q9; omega)⟩⟩
        · refine lv_iconst (v := (nI 1)) F.1 F.2.1 dX8_isSelectorRoad_51 (by decide) ?_
          refine lv_goto (tgt := 56) F.1 F.2.1 dX8_isSelectorRoad_52 (by decide) ?_
          exact z_zret F hr hlk B (Or.inr rfl) [2, 3, 0, 1] rfl (rfl) dX8_isSelectorRoad_56 (by omega) (by omega) ⟨(nI 1), rfl, rfl, Or.inl ⟨rfl, by first | exact Or.inl ⟨by omega, (zFE_iff (hFE (zva va L3 (x / 6)) (by omega)) hxd (by omega)).mp c30⟩ | exact Or.inr ⟨by omega, (zLE_iff (hLE (zva va L3 (x / 6)) (by omega)) hxd (by omega)).mp c48⟩⟩⟩
theorem iX8_goes_X8 : ∀ w ∈ u_ws RX8 TX8 37, w ∈ wsX8_goes := fun w h => List.mem_cons_of_mem _ (List.mem_append_right _ h)
theorem fX8_goes_47 : Cond.fieldLink RX8 47 "TourChainModel" "behind" "[I" ∈ wsX8_goes := by decide +kernel
set_option maxHeartbeats 4000000 in
set_option maxRecDepth 100000 in
theorem kX8_goes (l : Launch) (D : va_G) (cI cZ cG cJ : ClassId) (mm : Nat) (th : Nat) (q : Nat) (g : Nat) (t : Nat) (r : Nat) (mb : Nat) (nc : Nat) (nl : Nat) (pv : Nat) (va : Nat) (n3 : Nat) (ve : Nat) (ed : Nat) (se : Nat) (ci : Nat) (mr : Nat) (mt : Nat) (ld : Nat) (A8 : Nat → Nat) (L3 : List Nat) (fbe : Nat → Int32) (x : Nat) (y : Nat) (hed2 : 2 * ed ≤ 7600) (hBE : ∀ x, x < 2 * ed → zBH (zva va L3) (2 * ed) x (fbe x)) (hx : x < 12 * ed) (hy : y < 12 * ed) : zC l yX8_goes wsX8_goes 0 0 0 0 D (zT cI cZ cG cJ) [.ref mm, .int (nI x), .int (nI y)] [(mm, .inr (10, zmo (nI th) (nI q) (nI g) (nI t) (nI r) (nI mb) (nI nc) (nI nl) (nI pv) (nI va) (nI n3) (nI ve) (nI ed) (nI se) (nI ci) (nI mr) (nI mt) (nI ld) A8)), (A8 9, .inl (cI, 7600, .inl fbe))] (fun (ov : Option Value) (ow : va_W) => ∃ rb : Int32, ov = some (.int rb) ∧ ow = [(mm, .inr (10, zmo (nI th) (nI q) (nI g) (nI t) (nI r) (nI mb) (nI nc) (nI nl) (nI pv) (nI va) (nI n3) (nI ve) (nI ed) (nI se) (nI ci) (nI mr) (nI mt) (nI ld) A8)), (A8 9, .inl (cI, 7600, .inl fbe))] ∧ ((rb = 1 ∧ (zGo (zva va L3) x y)) ∨ (rb = 0 ∧ ¬ (zGo (zva va L3) x y)))) := by
  refine zC.of (cc := cX8_goes) (maxL := 10) (ret := (some .boolean)) (by decide) rfl (Nat.le_of_ble_eq_true rfl) ?_
  intro p e s m below meth c A ls F hr hlk hnm B hl
  have hl : lv_has ls 10 [(0, .ref mm), (1, .int (nI x)), (2, .int (nI y))] := hl
  refine lv_iload_n F.1 F.2.1 dX8_goes_0 rfl (lv_at hl 1 rfl) ?_
  refine lv_bipush (v := (nI 6)) F.1 F.2.1 dX8_goes_1 (by decide) ?_
  refine z_idiv F (by omega) (by omega) (by omega) dX8_goes_3 ?_
  refine lv_istore_n (lv' := [(3, .int (nI (x / 6))), (0, .ref mm), (1, .int (nI x)), (2, .int (nI y))]) F.1 F.2.1 dX8_goes_4 rfl hl (by decide) rfl (fun ls hl => ?_)
  refine lv_iload_n F.1 F.2.1 dX8_goes_5 rfl (lv_at hl 3 rfl) ?_
  refine lv_bipush (v := (nI 6)) F.1 F.2.1 dX8_goes_6 (by decide) ?_
  refine z_idiv F (by omega) (by omega) (by omega) dX8_goes_8 ?_
  refine lv_istore (lv' := [(4, .int (nI (y / 6))), (3, .int (nI (x / 6))), (0, .ref mm), (1, .int (nI x)), (2, .int (nI y))]) F.1 F.2.1 dX8_goes_9 hl (by decide) rfl (fun ls hl => ?_)
  refine lv_iload_n F.1 F.2.1 dX8_goes_11 rfl (lv_at hl 3 rfl) ?_
  refine lv_bipush (v := (nI 6)) F.1 F.2.1 dX8_goes_12 (by decide) ?_
  refine z_irem F (by omega) (by omega) (by omega) dX8_goes_14 ?_
  refine lv_istore (lv' := [(5, .int (nI (x % 6))), (4, .int (nI (y / 6))), (3, .int (nI (x / 6))), (0, .ref mm), (1, .int (nI x)), (2, .int (nI y))]) F.1 F.2.1 dX8_goes_15 hl (by decide) rfl (fun ls hl => ?_)
  refine lv_iload_n F.1 F.2.1 dX8_goes_17 rfl (lv_at hl 5 rfl) ?_
  refine lv_bipush (v := (nI 6)) F.1 F.2.1 dX8_goes_18 (by decide) ?_
  refine z_irem F (by omega) (by omega) (by omega) dX8_goes_20 ?_
  refine lv_istore (lv' := [(6, .int (nI (y % 6))), (5, .int (nI (x % 6))), (4, .int (nI (y / 6))), (3, .int (nI (x / 6))), (0, .ref mm), (1, .int (nI x)), (2, .int (nI y))]) F.1 F.2.1 dX8_goes_21 hl (by decide) rfl (fun ls hl => ?_)
  have join45 : ∀ (k7 : Nat), (zbl k7 (zg7 x y)) → (k7 ≤ 1) → ∀ (H : Heap) (locs : List Loc) (ls : Array Slot), zB D (zT cI cZ cG cJ) A s.heap s [(mm, .inr (10, zmo (nI th) (nI q) (nI g) (nI t) (nI r) (nI mb) (nI nc) (nI nl) (nI pv) (nI va) (nI n3) (nI ve) (nI ed) (nI se) (nI ci) (nI mr) (nI mt) (nI ld) A8)), (A8 9, .inl (cI, 7600, .inl fbe))] H locs → lv_has ls 10 [(0, .ref mm), (1, .int (nI x)), (2, .int (nI y)), (3, .int (nI (x / 6))), (4, .int (nI (y / 6))), (5, .int (nI (x % 6))), (6, .int (nI (y % 6))), (7, .int (nI k7))] → W p l e { frames := 0, cells := 0, slots := 0, locals := 0 } s m [.ref mm, .int (nI x), .int (nI y)].toArray below meth c H locs 0 0 (zQ below [.ref mm, .int (nI x), .int (nI y)].toArray s D (zT cI cZ cG cJ) A (fun (ov : Option Value) (ow : va_W) => ∃ rb : Int32, ov = some (.int rb) ∧ ow = [(mm, .inr (10, zmo (nI th) (nI q) (nI g) (nI t) (nI r) (nI mb) (nI nc) (nI nl) (nI pv) (nI va) (nI n3) (nI ve) (nI ed) (nI se) (nI ci) (nI mr) (nI mt) (nI ld) A8)), (A8 9, .inl (cI, 7600, .inl fbe))] ∧ ((rb = 1 ∧ (zGo (zva va L3) x y)) ∨ (rb = 0 ∧ ¬ (zGo (zva va L3) x y)))) 0 0) (F0 m 45 ls []) := by
    intro k7 hk7 hk7l H locs ls B hl
    have join91 : ∀ (k8 : Nat), (zbl k8 (zg8 x y)) → (k8 ≤ 1) → ∀ (H : Heap) (locs : List Loc) (ls : Array Slot), zB D (zT cI cZ cG cJ) A s.heap s [(mm, .inr (10, zmo (nI th) (nI q) (nI g) (nI t) (nI r) (nI mb) (nI nc) (nI nl) (nI pv) (nI va) (nI n3) (nI ve) (nI ed) (nI se) (nI ci) (nI mr) (nI mt) (nI ld) A8)), (A8 9, .inl (cI, 7600, .inl fbe))] H locs → lv_has ls 10 [(0, .ref mm), (1, .int (nI x)), (2, .int (nI y)), (3, .int (nI (x / 6))), (4, .int (nI (y / 6))), (5, .int (nI (x % 6))), (6, .int (nI (y % 6))), (7, .int (nI k7)), (8, .int (nI k8))] → W p l e { frames := 0, cells := 0, slots := 0, locals := 0 } s m [.ref mm, .int (nI x), .int (nI y)].toArray below meth c H locs 0 0 (zQ below [.ref mm, .int (nI x), .int (nI y)].toArray s D (zT cI cZ cG cJ) A (fun (ov : Option Value) (ow : va_W) => ∃ rb : Int32, ov = some (.int rb) ∧ ow = [(mm, .inr (10, zmo (nI th) (nI q) (nI g) (nI t) (nI r) (nI mb) (nI nc) (nI nl) (nI pv) (nI va) (nI n3) (nI ve) (nI ed) (nI se) (nI ci) (nI mr) (nI mt) (nI ld) A8)), (A8 9, .inl (cI, 7600, .inl fbe))] ∧ ((rb = 1 ∧ (zGo (zva va L3) x y)) ∨ (rb = 0 ∧ ¬ (zGo (zva va L3) x y)))) 0 0) (F0 m 91 ls []) := by
      intro k8 hk8 hk8l H locs ls B hl
      have join120 : ∀ (k9 : Nat), (zbl k9 (zg9 (zva va L3) x y)) → (k9 ≤ 1) → ∀ (H : Heap) (locs : List Loc) (ls : Array Slot), zB D (zT cI cZ cG cJ) A s.heap s [(mm, .inr (10, zmo (nI th) (nI q) (nI g) (nI t) (nI r) (nI mb) (nI nc) (nI nl) (nI pv) (nI va) (nI n3) (nI ve) (nI ed) (nI se) (nI ci) (nI mr) (nI mt) (nI ld) A8)), (A8 9, .inl (cI, 7600, .inl fbe))] H locs → lv_has ls 10 [(0, .ref mm), (1, .int (nI x)), (2, .int (nI y)), (3, .int (nI (x / 6))), (4, .int (nI (y / 6))), (5, .int (nI (x % 6))), (6, .int (nI (y % 6))), (7, .int (nI k7)), (8, .int (nI k8)), (9, .int (nI k9))] → W p l e { frames := 0, cells := 0, slots := 0, locals := 0 } s m [.ref mm, .int (nI x), .int (nI y)].toArray below meth c H locs 0 0 (zQ below [.ref mm, .int (nI x), .int (nI y)].toArray s D (zT cI cZ cG cJ) A (fun (ov : Option Value) (ow : va_W) => ∃ rb : Int32, ov = some (.int rb) ∧ ow = [(mm, .inr (10, zmo (nI th) (nI q) (nI g) (nI t) (nI r) (nI mb) (nI nc) (nI nl) (nI pv) (nI va) (nI n3) (nI ve) (nI ed) (nI se) (nI ci) (nI mr) (nI mt) (nI ld) A8)), (A8 9, .inl (cI, 7600, .inl fbe))] ∧ ((rb = 1 ∧ (zGo (zva va L3) x y)) ∨ (rb = 0 ∧ ¬ (zGo (zva va L3) x y)))) 0 0) (F0 m 120 ls []) := by
        intro k9 hk9 hk9l H locs ls B hl
        refine lv_iload F.1 F.2.1 dX8_goes_120 (lv_at hl 7 rfl) ?_
        refine z_if_ne (tgt := 135) F (by omega) dX8_goes_122 (by decide) (fun c122 => ?_) (fun c122 => ?_)
        · refine lv_iconst (v := (nI 1)) F.1 F.2.1 dX8_goes_135 (by decide) ?_
          refine lv_goto (tgt := 140) F.1 F.2.1 dX8_goes_136 (by decide) ?_
          exact z_zret F hr hlk B (Or.inr rfl) [0, 1] rfl (rfl) dX8_goes_140 (by omega) (by omega) ⟨(nI 1), rfl, rfl, Or.inl ⟨rfl, zgo1 hk7 hk8 hk9 (by omega)⟩⟩
        · refine lv_iload F.1 F.2.1 dX8_goes_125 (lv_at hl 8 rfl) ?_
          refine z_if_ne (tgt := 135) F (by omega) dX8_goes_127 (by decide) (fun c127 => ?_) (fun c127 => ?_)
          · refine lv_iconst (v := (nI 1)) F.1 F.2.1 dX8_goes_135 (by decide) ?_
            refine lv_goto (tgt := 140) F.1 F.2.1 dX8_goes_136 (by decide) ?_
            exact z_zret F hr hlk B (Or.inr rfl) [0, 1] rfl (rfl) dX8_goes_140 (by omega) (by omega) ⟨(nI 1), rfl, rfl, Or.inl ⟨rfl, zgo1 hk7 hk8 hk9 (by omega)⟩⟩
          · refine lv_iload F.1 F.2.1 dX8_goes_130 (lv_at hl 9 rfl) ?_
            refine z_if_eq (tgt := 139) F (by omega) dX8_goes_132 (by decide) (fun c132 => ?_) (fun c132 => ?_)
            · refine lv_iconst (v := (nI 0)) F.1 F.2.1 dX8_goes_139 (by decide) ?_
              exact z_zret F hr hlk B (Or.inl rfl) [0, 1] rfl (rfl) dX8_goes_140 (by omega) (by omega) ⟨(nI 0), rfl, rfl, Or.inr ⟨rfl, zgo0 hk7 hk8 hk9 (by omega) (by omega) (by omega)⟩⟩
            · refine lv_iconst (v := (nI 1)) F.1 F.2.1 dX8_goes_135 (by decide) ?_
              refine lv_goto (tgt := 140) F.1 F.2.1 dX8_goes_136 (by decide) ?_
              exact z_zret F hr hlk B (Or.inr rfl) [0, 1] rfl (rfl) dX8_goes_140 (by omega) (by omega) ⟨(nI 1), rfl, rfl, Or.inl ⟨rfl, zgo1 hk7 hk8 hk9 (by omega)⟩⟩
      refine lv_iload F.1 F.2.1 dX8_goes_91 (lv_at hl 5 rfl) ?_
      refine lv_iconst (v := (nI 5)) F.1 F.2.1 dX8_goes_93 (by decide) ?_
      refine z_icmp_ne (tgt := 117) F (by omega) (by omega) dX8_goes_94 (by decide) (fun c94 => ?_) (fun c94 => ?_)
      · refine lv_iconst (v := (nI 0)) F.1 F.2.1 dX8_goes_117 (by decide) ?_
        refine lv_istore (lv' := [(9, .int (nI 0)), (0, .ref mm), (1, .int (nI x)), (2, .int (nI y)), (3, .int (nI (x / 6))), (4, .int (nI (y / 6))), (5, .int (nI (x % 6))), (6, .int (nI (y % 6))), (7, .int (nI k7)), (8, .int (nI k8))]) F.1 F.2.1 dX8_goes_118 hl (by decide) rfl (fun ls hl => ?_)
        exact join120 0 (Or.inr ⟨rfl, fun q9 => by first | exact c110 ((zBH_iff (y := y / 6) (hBE (x / 6) (by omega)) (by omega) (by omega)).mpr q9.2.2) | (have q8 := q9.1; have q7 := q9.2.1; omega)⟩) (by decide) _ _ _ (B.sub [0, 1] rfl (rfl)) (lv_sub hl [1, 2, 3, 4, 5, 6, 7, 8, 9, 0] (rfl))
      · refine lv_iload F.1 F.2.1 dX8_goes_97 (lv_at hl 6 rfl) ?_
        refine z_if_ne (tgt := 117) F (by omega) dX8_goes_99 (by decide) (fun c99 => ?_) (fun c99 => ?_)
        · refine lv_iconst (v := (nI 0)) F.1 F.2.1 dX8_goes_117 (by decide) ?_
          refine lv_istore (lv' := [(9, .int (nI 0)), (0, .ref mm), (1, .int (nI x)), (2, .int (nI y)), (3, .int (nI (x / 6))), (4, .int (nI (y / 6))), (5, .int (nI (x % 6))), (6, .int (nI (y % 6))), (7, .int (nI k7)), (8, .int (nI k8))]) F.1 F.2.1 dX8_goes_118 hl (by decide) rfl (fun ls hl => ?_)
          exact join120 0 (Or.inr ⟨rfl, fun q9 => by first | exact c110 ((zBH_iff (y := y / 6) (hBE (x / 6) (by omega)) (by omega) (by omega)).mpr q9.2.2) | (have q8 := q9.1; have q7 := q9.2.1; omega)⟩) (by decide) _ _ _ (B.sub [0, 1] rfl (rfl)) (lv_sub hl [1, 2, 3, 4, 5, 6, 7, 8, 9, 0] (rfl))
        · refine lv_aload_n F.1 F.2.1 dX8_goes_102 rfl (lv_at hl 0 rfl) ?_
          refine z_get F B 0 rfl (ci := 10) (C := RX8) (T := TX8) (N := 37) rfl iX8_goes_X8 24 (by decide) fX8_goes_47 rfl dX8_goes_103 ?_
          refine lv_iload_n F.1 F.2.1 dX8_goes_106 rfl (lv_at hl 3 rfl) ?_
          refine z_iald F B 1 0 rfl rfl (j := x / 6) (by omega) (by omega) dX8_goes_107 ?_
          refine lv_iload F.1 F.2.1 dX8_goes_108 (lv_at hl 4 rfl) ?_
          refine lv_icmp_ne (tgt := 117) F.1 F.2.1 dX8_goes_110 (by decide) (fun c110 => ?_) (fun c110 => ?_)
          · refine lv_iconst (v := (nI 0)) F.1 F.2.1 dX8_goes_117 (by decide) ?_
            refine lv_istore (lv' := [(9, .int (nI 0)), (0, .ref mm), (1, .int (nI x)), (2, .int (nI y)), (3, .int (nI (x / 6))), (4, .int (nI (y / 6))), (5, .int (nI (x % 6))), (6, .int (nI (y % 6))), (7, .int (nI k7)), (8, .int (nI k8))]) F.1 F.2.1 dX8_goes_118 hl (by decide) rfl (fun ls hl => ?_)
            exact join120 0 (Or.inr ⟨rfl, fun q9 => by first | exact c110 ((zBH_iff (y := y / 6) (hBE (x / 6) (by omega)) (by omega) (by omega)).mpr q9.2.2) | (have q8 := q9.1; have q7 := q9.2.1; omega)⟩) (by decide) _ _ _ (B.sub [0, 1] rfl (rfl)) (lv_sub hl [1, 2, 3, 4, 5, 6, 7, 8, 9, 0] (rfl))
          · refine lv_iconst (v := (nI 1)) F.1 F.2.1 dX8_goes_113 (by decide) ?_
            refine lv_goto (tgt := 118) F.1 F.2.1 dX8_goes_114 (by decide) ?_
            refine lv_istore (lv' := [(9, .int (nI 1)), (0, .ref mm), (1, .int (nI x)), (2, .int (nI y)), (3, .int (nI (x / 6))), (4, .int (nI (y / 6))), (5, .int (nI (x % 6))), (6, .int (nI (y % 6))), (7, .int (nI k7)), (8, .int (nI k8))]) F.1 F.2.1 dX8_goes_118 hl (by decide) rfl (fun ls hl => ?_)
            exact join120 1 (Or.inl ⟨rfl, by omega, by omega, (zBH_iff (y := y / 6) (hBE (x / 6) (by omega)) (by omega) (by omega)).mp c110⟩) (by decide) _ _ _ (B.sub [0, 1] rfl (rfl)) (lv_sub hl [1, 2, 3, 4, 5, 6, 7, 8, 9, 0] (rfl))
    refine lv_iload_n F.1 F.2.1 dX8_goes_45 rfl (lv_at hl 3 rfl) ?_
    refine lv_iload F.1 F.2.1 dX8_goes_46 (lv_at hl 4 rfl) ?_
    refine z_icmp_eq (tgt := 88) F (by omega) (by omega) dX8_goes_48 (by decide) (fun c48 => ?_) (fun c48 => ?_)
    · refine lv_iconst (v := (nI 0)) F.1 F.2.1 dX8_goes_88 (by decide) ?_
      refine lv_istore (lv' := [(8, .int (nI 0)), (0, .ref mm), (1, .int (nI x)), (2, .int (nI y)), (3, .int (nI (x / 6))), (4, .int (nI (y / 6))), (5, .int (nI (x % 6))), (6, .int (nI (y % 6))), (7, .int (nI k7))]) F.1 F.2.1 dX8_goes_89 hl (by decide) rfl (fun ls hl => ?_)
      exact join91 0 (Or.inr ⟨rfl, by unfold zg8; omega⟩) (by decide) _ _ _ (B.sub [0, 1] rfl (rfl)) (lv_sub hl [1, 2, 3, 4, 5, 6, 7, 8, 0] (rfl))
    · refine lv_iload_n F.1 F.2.1 dX8_goes_51 rfl (lv_at hl 3 rfl) ?_
      refine lv_iconst (v := (nI 2)) F.1 F.2.1 dX8_goes_52 (by decide) ?_
      refine z_idiv F (by omega) (by omega) (by omega) dX8_goes_53 ?_
      refine lv_iload F.1 F.2.1 dX8_goes_54 (lv_at hl 4 rfl) ?_
      refine lv_iconst (v := (nI 2)) F.1 F.2.1 dX8_goes_56 (by decide) ?_
      refine z_idiv F (by omega) (by omega) (by omega) dX8_goes_57 ?_
      refine z_icmp_ne (tgt := 88) F (by omega) (by omega) dX8_goes_58 (by decide) (fun c58 => ?_) (fun c58 => ?_)
      · refine lv_iconst (v := (nI 0)) F.1 F.2.1 dX8_goes_88 (by decide) ?_
        refine lv_istore (lv' := [(8, .int (nI 0)), (0, .ref mm), (1, .int (nI x)), (2, .int (nI y)), (3, .int (nI (x / 6))), (4, .int (nI (y / 6))), (5, .int (nI (x % 6))), (6, .int (nI (y % 6))), (7, .int (nI k7))]) F.1 F.2.1 dX8_goes_89 hl (by decide) rfl (fun ls hl => ?_)
        exact join91 0 (Or.inr ⟨rfl, by unfold zg8; omega⟩) (by decide) _ _ _ (B.sub [0, 1] rfl (rfl)) (lv_sub hl [1, 2, 3, 4, 5, 6, 7, 8, 0] (rfl))
      · refine lv_iload F.1 F.2.1 dX8_goes_61 (lv_at hl 5 rfl) ?_
        refine lv_iconst (v := (nI 2)) F.1 F.2.1 dX8_goes_63 (by decide) ?_
        refine z_icmp_ne (tgt := 72) F (by omega) (by omega) dX8_goes_64 (by decide) (fun c64 => ?_) (fun c64 => ?_)
        · refine lv_iload F.1 F.2.1 dX8_goes_72 (lv_at hl 5 rfl) ?_
          refine lv_iconst (v := (nI 5)) F.1 F.2.1 dX8_goes_74 (by decide) ?_
          refine z_icmp_ne (tgt := 88) F (by omega) (by omega) dX8_goes_75 (by decide) (fun c75 => ?_) (fun c75 => ?_)
          · refine lv_iconst (v := (nI 0)) F.1 F.2.1 dX8_goes_88 (by decide) ?_
            refine lv_istore (lv' := [(8, .int (nI 0)), (0, .ref mm), (1, .int (nI x)), (2, .int (nI y)), (3, .int (nI (x / 6))), (4, .int (nI (y / 6))), (5, .int (nI (x % 6))), (6, .int (nI (y % 6))), (7, .int (nI k7))]) F.1 F.2.1 dX8_goes_89 hl (by decide) rfl (fun ls hl => ?_)
            exact join91 0 (Or.inr ⟨rfl, by unfold zg8; omega⟩) (by decide) _ _ _ (B.sub [0, 1] rfl (rfl)) (lv_sub hl [1, 2, 3, 4, 5, 6, 7, 8, 0] (rfl))
          · refine lv_iload F.1 F.2.1 dX8_goes_78 (lv_at hl 6 rfl) ?_
            refine lv_iconst (v := (nI 3)) F.1 F.2.1 dX8_goes_80 (by decide) ?_
            refine z_icmp_ne (tgt := 88) F (by omega) (by omega) dX8_goes_81 (by decide) (fun c81 => ?_) (fun c81 => ?_)
            · refine lv_iconst (v := (nI 0)) F.1 F.2.1 dX8_goes_88 (by decide) ?_
              refine lv_istore (lv' := [(8, .int (nI 0)), (0, .ref mm), (1, .int (nI x)), (2, .int (nI y)), (3, .int (nI (x / 6))), (4, .int (nI (y / 6))), (5, .int (nI (x % 6))), (6, .int (nI (y % 6))), (7, .int (nI k7))]) F.1 F.2.1 dX8_goes_89 hl (by decide) rfl (fun ls hl => ?_)
              exact join91 0 (Or.inr ⟨rfl, by unfold zg8; omega⟩) (by decide) _ _ _ (B.sub [0, 1] rfl (rfl)) (lv_sub hl [1, 2, 3, 4, 5, 6, 7, 8, 0] (rfl))
            · refine lv_iconst (v := (nI 1)) F.1 F.2.1 dX8_goes_84 (by decide) ?_
              refine lv_goto (tgt := 89) F.1 F.2.1 dX8_goes_85 (by decide) ?_
              refine lv_istore (lv' := [(8, .int (nI 1)), (0, .ref mm), (1, .int (nI x)), (2, .int (nI y)), (3, .int (nI (x / 6))), (4, .int (nI (y / 6))), (5, .int (nI (x % 6))), (6, .int (nI (y % 6))), (7, .int (nI k7))]) F.1 F.2.1 dX8_goes_89 hl (by decide) rfl (fun ls hl => ?_)
              exact join91 1 (Or.inl ⟨rfl, by unfold zg8; omega⟩) (by decide) _ _ _ (B.sub [0, 1] rfl (rfl)) (lv_sub hl [1, 2, 3, 4, 5, 6, 7, 8, 0] (rfl))
        · refine lv_iload F.1 F.2.1 dX8_goes_67 (lv_at hl 6 rfl) ?_
          refine z_if_eq (tgt := 84) F (by omega) dX8_goes_69 (by decide) (fun c69 => ?_) (fun c69 => ?_)
          · refine lv_iconst (v := (nI 1)) F.1 F.2.1 dX8_goes_84 (by decide) ?_
            refine lv_goto (tgt := 89) F.1 F.2.1 dX8_goes_85 (by decide) ?_
            refine lv_istore (lv' := [(8, .int (nI 1)), (0, .ref mm), (1, .int (nI x)), (2, .int (nI y)), (3, .int (nI (x / 6))), (4, .int (nI (y / 6))), (5, .int (nI (x % 6))), (6, .int (nI (y % 6))), (7, .int (nI k7))]) F.1 F.2.1 dX8_goes_89 hl (by decide) rfl (fun ls hl => ?_)
            exact join91 1 (Or.inl ⟨rfl, by unfold zg8; omega⟩) (by decide) _ _ _ (B.sub [0, 1] rfl (rfl)) (lv_sub hl [1, 2, 3, 4, 5, 6, 7, 8, 0] (rfl))
          · refine lv_iload F.1 F.2.1 dX8_goes_72 (lv_at hl 5 rfl) ?_
            refine lv_iconst (v := (nI 5)) F.1 F.2.1 dX8_goes_74 (by decide) ?_
            refine z_icmp_ne (tgt := 88) F (by omega) (by omega) dX8_goes_75 (by decide) (fun c75 => ?_) (fun c75 => ?_)
            · refine lv_iconst (v := (nI 0)) F.1 F.2.1 dX8_goes_88 (by decide) ?_
              refine lv_istore (lv' := [(8, .int (nI 0)), (0, .ref mm), (1, .int (nI x)), (2, .int (nI y)), (3, .int (nI (x / 6))), (4, .int (nI (y / 6))), (5, .int (nI (x % 6))), (6, .int (nI (y % 6))), (7, .int (nI k7))]) F.1 F.2.1 dX8_goes_89 hl (by decide) rfl (fun ls hl => ?_)
              exact join91 0 (Or.inr ⟨rfl, by unfold zg8; omega⟩) (by decide) _ _ _ (B.sub [0, 1] rfl (rfl)) (lv_sub hl [1, 2, 3, 4, 5, 6, 7, 8, 0] (rfl))
            · refine lv_iload F.1 F.2.1 dX8_goes_78 (lv_at hl 6 rfl) ?_
              refine lv_iconst (v := (nI 3)) F.1 F.2.1 dX8_goes_80 (by decide) ?_
              refine z_icmp_ne (tgt := 88) F (by omega) (by omega) dX8_goes_81 (by decide) (fun c81 => ?_) (fun c81 => ?_)
              · refine lv_iconst (v := (nI 0)) F.1 F.2.1 dX8_goes_88 (by decide) ?_
                refine lv_istore (lv' := [(8, .int (nI 0)), (0, .ref mm), (1, .int (nI x)), (2, .int (nI y)), (3, .int (nI (x / 6))), (4, .int (nI (y / 6))), (5, .int (nI (x % 6))), (6, .int (nI (y % 6))), (7, .int (nI k7))]) F.1 F.2.1 dX8_goes_89 hl (by decide) rfl (fun ls hl => ?_)
                exact join91 0 (Or.inr ⟨rfl, by unfold zg8; omega⟩) (by decide) _ _ _ (B.sub [0, 1] rfl (rfl)) (lv_sub hl [1, 2, 3, 4, 5, 6, 7, 8, 0] (rfl))
              · refine lv_iconst (v := (nI 1)) F.1 F.2.1 dX8_goes_84 (by decide) ?_
                refine lv_goto (tgt := 89) F.1 F.2.1 dX8_goes_85 (by decide) ?_
                refine lv_istore (lv' := [(8, .int (nI 1)), (0, .ref mm), (1, .int (nI x)), (2, .int (nI y)), (3, .int (nI (x / 6))), (4, .int (nI (y / 6))), (5, .int (nI (x % 6))), (6, .int (nI (y % 6))), (7, .int (nI k7))]) F.1 F.2.1 dX8_goes_89 hl (by decide) rfl (fun ls hl => ?_)
                exact join91 1 (Or.inl ⟨rfl, by unfold zg8; omega⟩) (by decide) _ _ _ (B.sub [0, 1] rfl (rfl)) (lv_sub hl [1, 2, 3, 4, 5, 6, 7, 8, 0] (rfl))
  refine lv_iload_n F.1 F.2.1 dX8_goes_23 rfl (lv_at hl 3 rfl) ?_
  refine lv_iload F.1 F.2.1 dX8_goes_24 (lv_at hl 2 rfl) ?_
  refine z_icmp_ne (tgt := 42) F (by omega) (by omega) dX8_goes_26 (by decide) (fun c26 => ?_) (fun c26 => ?_)
  · refine lv_iconst (v := (nI 0)) F.1 F.2.1 dX8_goes_42 (by decide) ?_
    refine lv_istore (lv' := [(7, .int (nI 0)), (6, .int (nI (y % 6))), (5, .int (nI (x % 6))), (4, .int (nI (y / 6))), (3, .int (nI (x / 6))), (0, .ref mm), (1, .int (nI x)), (2, .int (nI y))]) F.1 F.2.1 dX8_goes_43 hl (by decide) rfl (fun ls hl => ?_)
    exact join45 0 (Or.inr ⟨rfl, by unfold zg7; omega⟩) (by decide) _ _ _ (B.sub [0, 1] rfl (rfl)) (lv_sub hl [5, 6, 7, 4, 3, 2, 1, 0] (rfl))
  · refine lv_iload F.1 F.2.1 dX8_goes_29 (lv_at hl 0 rfl) ?_
    refine lv_iload F.1 F.2.1 dX8_goes_31 (lv_at hl 1 rfl) ?_
    refine lv_iconst (v := (nI 1)) F.1 F.2.1 dX8_goes_33 (by decide) ?_
    refine z_iadd F dX8_goes_34 ?_
    refine z_icmp_ne (tgt := 42) F (by omega) (by omega) dX8_goes_35 (by decide) (fun c35 => ?_) (fun c35 => ?_)
    · refine lv_iconst (v := (nI 0)) F.1 F.2.1 dX8_goes_42 (by decide) ?_
      refine lv_istore (lv' := [(7, .int (nI 0)), (6, .int (nI (y % 6))), (5, .int (nI (x % 6))), (4, .int (nI (y / 6))), (3, .int (nI (x / 6))), (0, .ref mm), (1, .int (nI x)), (2, .int (nI y))]) F.1 F.2.1 dX8_goes_43 hl (by decide) rfl (fun ls hl => ?_)
      exact join45 0 (Or.inr ⟨rfl, by unfold zg7; omega⟩) (by decide) _ _ _ (B.sub [0, 1] rfl (rfl)) (lv_sub hl [5, 6, 7, 4, 3, 2, 1, 0] (rfl))
    · refine lv_iconst (v := (nI 1)) F.1 F.2.1 dX8_goes_38 (by decide) ?_
      refine lv_goto (tgt := 43) F.1 F.2.1 dX8_goes_39 (by decide) ?_
      refine lv_istore (lv' := [(7, .int (nI 1)), (6, .int (nI (y % 6))), (5, .int (nI (x % 6))), (4, .int (nI (y / 6))), (3, .int (nI (x / 6))), (0, .ref mm), (1, .int (nI x)), (2, .int (nI y))]) F.1 F.2.1 dX8_goes_43 hl (by decide) rfl (fun ls hl => ?_)
      exact join45 1 (Or.inl ⟨rfl, by unfold zg7; omega⟩) (by decide) _ _ _ (B.sub [0, 1] rfl (rfl)) (lv_sub hl [5, 6, 7, 4, 3, 2, 1, 0] (rfl))
theorem iX8_isRoad_X8 : ∀ w ∈ u_ws RX8 TX8 37, w ∈ wsX8_isRoad := fun w h => List.mem_cons_of_mem _ (List.mem_append_right _ h)
theorem fX8_isRoad_164 : Cond.fieldLink RX8 164 "TourChainModel" "edges" "I" ∈ wsX8_isRoad := by decide +kernel
theorem yX8_isRoad_X8_goes : yX8_goes.cls = RX8 ∧ yX8_goes.cls ≠ "java/lang/invoke/MethodHandle" ∧ yX8_goes.cls ≠ "java/lang/invoke/VarHandle" ∧ (parseMethodDescriptor yX8_goes.desc).map (fun d => d.parameters.length) = some 2 := by decide +kernel
theorem yX8_isRoad_X8_isSelectorRoad : yX8_isSelectorRoad.cls = RX8 ∧ yX8_isSelectorRoad.cls ≠ "java/lang/invoke/MethodHandle" ∧ yX8_isSelectorRoad.cls ≠ "java/lang/invoke/VarHandle" ∧ (parseMethodDescriptor yX8_isSelectorRoad.desc).map (fun d => d.parameters.length) = some 1 := by decide +kernel
set_option maxHeartbeats 4000000 in
set_option maxRecDepth 100000 in
theorem kX8_isRoad (l : Launch) (D : va_G) (cI cZ cG cJ : ClassId) (mm : Nat) (th : Nat) (q : Nat) (g : Nat) (t : Nat) (r : Nat) (mb : Nat) (nc : Nat) (nl : Nat) (pv : Nat) (va : Nat) (n3 : Nat) (ve : Nat) (ed : Nat) (se : Nat) (ci : Nat) (mr : Nat) (mt : Nat) (ld : Nat) (A8 : Nat → Nat) (f3 : Nat → Int32) (L3 : List Nat) (fbe : Nat → Int32) (ffe : Nat → Int32) (fle : Nat → Int32) (x : Nat) (y : Nat) (hR : zR f3 (3 * n3) L3) (hb : 3 * n3 ≤ 1900) (hv : va ≤ 1000) (hL : ∀ i, i < 3 * n3 → L3.getD i 0 < 2 * va) (hve : ve = 2 * va + 3 * n3) (hve2 : ve ≤ 2200) (hed : ed = va + 6 * n3) (hed2 : 2 * ed ≤ 7600) (hFE : ∀ u, u < ve → zFE (zva va L3) (2 * ed) u (ffe u)) (hLE : ∀ u, u < ve → zLE (zva va L3) (2 * ed) u (fle u)) (hBE : ∀ x, x < 2 * ed → zBH (zva va L3) (2 * ed) x (fbe x)) (hci : ci ≤ 1000000) (hx : x < ci) (hy : y < ci) : zC l yX8_isRoad wsX8_isRoad 2 48 0 0 D (zT cI cZ cG cJ) [.ref mm, .int (nI x), .int (nI y)] [(mm, .inr (10, zmo (nI th) (nI q) (nI g) (nI t) (nI r) (nI mb) (nI nc) (nI nl) (nI pv) (nI va) (nI n3) (nI ve) (nI ed) (nI se) (nI ci) (nI mr) (nI mt) (nI ld) A8)), (A8 8, .inl (cI, 1900, .inl f3)), (A8 9, .inl (cI, 7600, .inl fbe)), (A8 10, .inl (cI, 2200, .inl ffe)), (A8 11, .inl (cI, 2200, .inl fle))] (fun (ov : Option Value) (ow : va_W) => ∃ rb : Int32, ov = some (.int rb) ∧ ow = [(mm, .inr (10, zmo (nI th) (nI q) (nI g) (nI t) (nI r) (nI mb) (nI nc) (nI nl) (nI pv) (nI va) (nI n3) (nI ve) (nI ed) (nI se) (nI ci) (nI mr) (nI mt) (nI ld) A8)), (A8 8, .inl (cI, 1900, .inl f3)), (A8 9, .inl (cI, 7600, .inl fbe)), (A8 10, .inl (cI, 2200, .inl ffe)), (A8 11, .inl (cI, 2200, .inl fle))] ∧ ((rb = 1 ∧ (zlead (zva va L3) ed x y ∨ zlead (zva va L3) ed y x)) ∨ (rb = 0 ∧ ¬ (zlead (zva va L3) ed x y ∨ zlead (zva va L3) ed y x)))) := by
  refine zC.of (cc := cX8_isRoad) (maxL := 4) (ret := (some .boolean)) (by decide) rfl (Nat.le_of_ble_eq_true rfl) ?_
  intro p e s m below meth c A ls F hr hlk hnm B hl
  have hl : lv_has ls 4 [(0, .ref mm), (1, .int (nI x)), (2, .int (nI y))] := hl
  have hnl : ∀ d, d < 2 * ed → ¬ (zva va L3) (zx1 d) = (zva va L3) d := fun d hd => zva_ne hL (by omega)
  refine lv_bipush (v := (nI 12)) F.1 F.2.1 dX8_isRoad_0 (by decide) ?_
  refine lv_aload_n F.1 F.2.1 dX8_isRoad_2 rfl (lv_at hl 0 rfl) ?_
  refine z_get F B 0 rfl (ci := 10) (C := RX8) (T := TX8) (N := 37) rfl iX8_isRoad_X8 21 (by decide) fX8_isRoad_164 rfl dX8_isRoad_3 ?_
  refine z_imul F dX8_isRoad_6 ?_
  refine lv_istore_n (lv' := [(3, .int (nI (12 * ed))), (0, .ref mm), (1, .int (nI x)), (2, .int (nI y))]) F.1 F.2.1 dX8_isRoad_7 rfl hl (by decide) rfl (fun ls hl => ?_)
  refine lv_iload_n F.1 F.2.1 dX8_isRoad_8 rfl (lv_at hl 2 rfl) ?_
  refine lv_iload_n F.1 F.2.1 dX8_isRoad_9 rfl (lv_at hl 0 rfl) ?_
  refine z_icmp_lt (tgt := 20) F (by omega) (by omega) dX8_isRoad_10 (by decide) (fun c10 => ?_) (fun c10 => ?_)
  · refine lv_iload_n F.1 F.2.1 dX8_isRoad_20 rfl (lv_at hl 2 rfl) ?_
    refine lv_iload_n F.1 F.2.1 dX8_isRoad_21 rfl (lv_at hl 0 rfl) ?_
    refine z_icmp_lt (tgt := 31) F (by omega) (by omega) dX8_isRoad_22 (by decide) (fun c22 => ?_) (fun c22 => ?_)
    · refine lv_iload_n F.1 F.2.1 dX8_isRoad_31 rfl (lv_at hl 3 rfl) ?_
      refine lv_iload_n F.1 F.2.1 dX8_isRoad_32 rfl (lv_at hl 0 rfl) ?_
      refine z_icmp_lt (tgt := 44) F (by omega) (by omega) dX8_isRoad_33 (by decide) (fun c33 => ?_) (fun c33 => ?_)
      · refine lv_aload_n F.1 F.2.1 dX8_isRoad_44 rfl (lv_at hl 1 rfl) ?_
        refine lv_iload_n F.1 F.2.1 dX8_isRoad_45 rfl (lv_at hl 2 rfl) ?_
        refine lv_iload_n F.1 F.2.1 dX8_isRoad_46 rfl (lv_at hl 3 rfl) ?_
        refine z_callV (wr := [(A8 8, .inl (cI, 1900, .inl f3)), (A8 10, .inl (cI, 2200, .inl ffe)), (A8 11, .inl (cI, 2200, .inl fle))]) (rest := []) (As := [.int (nI x), .int (nI y)]) F B (kX8_goes l D cI cZ cG cJ mm th q g t r mb nc nl pv va n3 ve ed se ci mr mt ld A8 L3 fbe x y (hed2) (hBE) (by omega) (by omega)) hl.1 (C := RX8) (T := TX8) (N := 37) (ci := 10) (q0 := 0) gX8_isRoad_X8_goes rfl 2 yX8_isRoad_X8_goes rfl rfl rfl [0, 2] [1, 3, 4] rfl rfl rfl rfl (by decide) (Nat.le_of_ble_eq_true rfl) (Nat.le_of_ble_eq_true rfl) (Nat.le_of_ble_eq_true rfl) rfl dX8_isRoad_47 (show 0 + 0 ≤ 0 by omega) (show 0 + 0 ≤ 0 by omega) (fun vv ww H locs hRR B => ?_)
        obtain ⟨r_1, rfl, rfl, hb_2⟩ := hRR
        have B : zB D (zT cI cZ cG cJ) A s.heap s [(A8 8, .inl (cI, 1900, .inl f3)), (A8 10, .inl (cI, 2200, .inl ffe)), (A8 11, .inl (cI, 2200, .inl fle)), (mm, .inr (10, zmo (nI th) (nI q) (nI g) (nI t) (nI r) (nI mb) (nI nc) (nI nl) (nI pv) (nI va) (nI n3) (nI ve) (nI ed) (nI se) (nI ci) (nI mr) (nI mt) (nI ld) A8)), (A8 9, .inl (cI, 7600, .inl fbe))] _ _ := B
        rcases hb_2 with ⟨hr1, hpC⟩ | ⟨hr1, hpC⟩ <;> subst hr1
        · refine W.eq (g2 := F0 m 50 ls [.int 1]) rfl ?_
          refine lv_if_ne (tgt := 62) F.1 F.2.1 dX8_isRoad_50 (by decide) (fun _ => ?_) (fun hq => absurd hq (by decide))
          refine lv_iconst (v := (nI 1)) F.1 F.2.1 dX8_isRoad_62 (by decide) ?_
          refine lv_goto (tgt := 67) F.1 F.2.1 dX8_isRoad_63 (by decide) ?_
          exact z_zret F hr hlk B (Or.inr rfl) [3, 0, 4, 1, 2] rfl (rfl) dX8_isRoad_67 (by omega) (by omega) ⟨(nI 1), rfl, rfl, Or.inl ⟨rfl, by first | exact Or.inr ((zSel_lead (by omega) (by omega)).mp hpB) | exact Or.inl ((zGo_lead hnl (by omega) (by omega)).mp hpC) | exact Or.inr ((zGo_lead hnl (by omega) (by omega)).mp hpD)⟩⟩
        · refine W.eq (g2 := F0 m 50 ls [.int 0]) rfl ?_
          refine lv_if_ne (tgt := 62) F.1 F.2.1 dX8_isRoad_50 (by decide) (fun hq => absurd (by decide) hq) (fun _ => ?_)
          refine lv_aload_n F.1 F.2.1 dX8_isRoad_53 rfl (lv_at hl 1 rfl) ?_
          refine lv_iload_n F.1 F.2.1 dX8_isRoad_54 rfl (lv_at hl 3 rfl) ?_
          refine lv_iload_n F.1 F.2.1 dX8_isRoad_55 rfl (lv_at hl 2 rfl) ?_
          refine z_callV (wr := [(A8 8, .inl (cI, 1900, .inl f3)), (A8 10, .inl (cI, 2200, .inl ffe)), (A8 11, .inl (cI, 2200, .inl fle))]) (rest := []) (As := [.int (nI y), .int (nI x)]) F B (kX8_goes l D cI cZ cG cJ mm th q g t r mb nc nl pv va n3 ve ed se ci mr mt ld A8 L3 fbe y x (hed2) (hBE) (by omega) (by omega)) hl.1 (C := RX8) (T := TX8) (N := 37) (ci := 10) (q0 := 3) gX8_isRoad_X8_goes rfl 2 yX8_isRoad_X8_goes rfl rfl rfl [3, 4] [0, 1, 2] rfl rfl rfl rfl (by decide) (Nat.le_of_ble_eq_true rfl) (Nat.le_of_ble_eq_true rfl) (Nat.le_of_ble_eq_true rfl) rfl dX8_isRoad_56 (show 0 + 0 ≤ 0 by omega) (show 0 + 0 ≤ 0 by omega) (fun vv ww H locs hRR B => ?_)
          obtain ⟨r_3, rfl, rfl, hb_4⟩ := hRR
          have B : zB D (zT cI cZ cG cJ) A s.heap s [(A8 8, .inl (cI, 1900, .inl f3)), (A8 10, .inl (cI, 2200, .inl ffe)), (A8 11, .inl (cI, 2200, .inl fle)), (mm, .inr (10, zmo (nI th) (nI q) (nI g) (nI t) (nI r) (nI mb) (nI nc) (nI nl) (nI pv) (nI va) (nI n3) (nI ve) (nI ed) (nI se) (nI ci) (nI mr) (nI mt) (nI ld) A8)), (A8 9, .inl (cI, 7600, .inl fbe))] _ _ := B
          rcases hb_4 with ⟨hr1, hpD⟩ | ⟨hr1, hpD⟩ <;> subst hr1
          · refine W.eq (g2 := F0 m 59 ls [.int 1]) rfl ?_
            refine lv_if_eq (tgt := 66) F.1 F.2.1 dX8_isRoad_59 (by decide) (fun hq => absurd hq (by decide)) (fun _ => ?_)
            refine lv_iconst (v := (nI 1)) F.1 F.2.1 dX8_isRoad_62 (by decide) ?_
            refine lv_goto (tgt := 67) F.1 F.2.1 dX8_isRoad_63 (by decide) ?_
            exact z_zret F hr hlk B (Or.inr rfl) [3, 0, 4, 1, 2] rfl (rfl) dX8_isRoad_67 (by omega) (by omega) ⟨(nI 1), rfl, rfl, Or.inl ⟨rfl, by first | exact Or.inr ((zSel_lead (by omega) (by omega)).mp hpB) | exact Or.inl ((zGo_lead hnl (by omega) (by omega)).mp hpC) | exact Or.inr ((zGo_lead hnl (by omega) (by omega)).mp hpD)⟩⟩
          · refine W.eq (g2 := F0 m 59 ls [.int 0]) rfl ?_
            refine lv_if_eq (tgt := 66) F.1 F.2.1 dX8_isRoad_59 (by decide) (fun _ => ?_) (fun hq => absurd (by decide) hq)
            refine lv_iconst (v := (nI 0)) F.1 F.2.1 dX8_isRoad_66 (by decide) ?_
            exact z_zret F hr hlk B (Or.inl rfl) [3, 0, 4, 1, 2] rfl (rfl) dX8_isRoad_67 (by omega) (by omega) ⟨(nI 0), rfl, rfl, Or.inr ⟨rfl, by first | exact fun q9 => q9.elim (zlead_sel (by omega)) (fun q => hpB ((zSel_lead (by omega) (by omega)).mpr q)) | exact fun q9 => q9.elim (fun q => hpC ((zGo_lead hnl (by omega) (by omega)).mpr q)) (fun q => hpD ((zGo_lead hnl (by omega) (by omega)).mpr q))⟩⟩
      · refine lv_aload_n F.1 F.2.1 dX8_isRoad_36 rfl (lv_at hl 1 rfl) ?_
        refine lv_iload_n F.1 F.2.1 dX8_isRoad_37 rfl (lv_at hl 2 rfl) ?_
        refine z_callV (wr := [(A8 9, .inl (cI, 7600, .inl fbe))]) (rest := []) (As := [.int (nI x)]) F B (kX8_isSelectorRoad l D cI cZ cG cJ mm th q g t r mb nc nl pv va n3 ve ed se ci mr mt ld A8 f3 L3 ffe fle x (hR) (hb) (hv) (hL) (hve) (hve2) (hed) (hed2) (hFE) (hLE) (by omega)) hl.1 (C := RX8) (T := TX8) (N := 37) (ci := 10) (q0 := 0) gX8_isRoad_X8_isSelectorRoad rfl 1 yX8_isRoad_X8_isSelectorRoad rfl rfl rfl [0, 1, 3, 4] [2] rfl rfl rfl rfl (by decide) (Nat.le_of_ble_eq_true rfl) (Nat.le_of_ble_eq_true rfl) (Nat.le_of_ble_eq_true rfl) rfl dX8_isRoad_38 (show 0 + 0 ≤ 0 by omega) (show 0 + 0 ≤ 0 by omega) (fun vv ww H locs hRR B => ?_)
        obtain ⟨r_5, rfl, rfl, hb_6⟩ := hRR
        have B : zB D (zT cI cZ cG cJ) A s.heap s [(A8 9, .inl (cI, 7600, .inl fbe)), (mm, .inr (10, zmo (nI th) (nI q) (nI g) (nI t) (nI r) (nI mb) (nI nc) (nI nl) (nI pv) (nI va) (nI n3) (nI ve) (nI ed) (nI se) (nI ci) (nI mr) (nI mt) (nI ld) A8)), (A8 8, .inl (cI, 1900, .inl f3)), (A8 10, .inl (cI, 2200, .inl ffe)), (A8 11, .inl (cI, 2200, .inl fle))] _ _ := B
        rcases hb_6 with ⟨hr1, hpB⟩ | ⟨hr1, hpB⟩ <;> subst hr1
        · refine W.eq (g2 := F0 m 41 ls [.int 1]) rfl ?_
          refine lv_goto (tgt := 67) F.1 F.2.1 dX8_isRoad_41 (by decide) ?_
          exact z_zret F hr hlk B (Or.inr rfl) [1, 2, 0, 3, 4] rfl (rfl) dX8_isRoad_67 (by omega) (by omega) ⟨1, rfl, rfl, Or.inl ⟨rfl, by first | exact Or.inr ((zSel_lead (by omega) (by omega)).mp hpB) | exact Or.inl ((zGo_lead hnl (by omega) (by omega)).mp hpC) | exact Or.inr ((zGo_lead hnl (by omega) (by omega)).mp hpD)⟩⟩
        · refine W.eq (g2 := F0 m 41 ls [.int 0]) rfl ?_
          refine lv_goto (tgt := 67) F.1 F.2.1 dX8_isRoad_41 (by decide) ?_
          exact z_zret F hr hlk B (Or.inl rfl) [1, 2, 0, 3, 4] rfl (rfl) dX8_isRoad_67 (by omega) (by omega) ⟨0, rfl, rfl, Or.inr ⟨rfl, by first | exact fun q9 => q9.elim (zlead_sel (by omega)) (fun q => hpB ((zSel_lead (by omega) (by omega)).mpr q)) | exact fun q9 => q9.elim (fun q => hpC ((zGo_lead hnl (by omega) (by omega)).mpr q)) (fun q => hpD ((zGo_lead hnl (by omega) (by omega)).mpr q))⟩⟩
    · refine lv_aload_n F.1 F.2.1 dX8_isRoad_25 rfl (lv_at hl 1 rfl) ?_
      refine lv_iload_n F.1 F.2.1 dX8_isRoad_26 rfl (lv_at hl 3 rfl) ?_
      refine z_callV (wr := [(A8 9, .inl (cI, 7600, .inl fbe))]) (rest := []) (As := [.int (nI y)]) F B (kX8_isSelectorRoad l D cI cZ cG cJ mm th q g t r mb nc nl pv va n3 ve ed se ci mr mt ld A8 f3 L3 ffe fle y (hR) (hb) (hv) (hL) (hve) (hve2) (hed) (hed2) (hFE) (hLE) (by omega)) hl.1 (C := RX8) (T := TX8) (N := 37) (ci := 10) (q0 := 0) gX8_isRoad_X8_isSelectorRoad rfl 1 yX8_isRoad_X8_isSelectorRoad rfl rfl rfl [0, 1, 3, 4] [2] rfl rfl rfl rfl (by decide) (Nat.le_of_ble_eq_true rfl) (Nat.le_of_ble_eq_true rfl) (Nat.le_of_ble_eq_true rfl) rfl dX8_isRoad_27 (show 0 + 0 ≤ 0 by omega) (show 0 + 0 ≤ 0 by omega) (fun vv ww H locs hRR B => ?_)
      obtain ⟨r_7, rfl, rfl, hb_8⟩ := hRR
      have B : zB D (zT cI cZ cG cJ) A s.heap s [(A8 9, .inl (cI, 7600, .inl fbe)), (mm, .inr (10, zmo (nI th) (nI q) (nI g) (nI t) (nI r) (nI mb) (nI nc) (nI nl) (nI pv) (nI va) (nI n3) (nI ve) (nI ed) (nI se) (nI ci) (nI mr) (nI mt) (nI ld) A8)), (A8 8, .inl (cI, 1900, .inl f3)), (A8 10, .inl (cI, 2200, .inl ffe)), (A8 11, .inl (cI, 2200, .inl fle))] _ _ := B
      rcases hb_8 with ⟨hr1, hpA⟩ | ⟨hr1, hpA⟩ <;> subst hr1
      · refine W.eq (g2 := F0 m 30 ls [.int 1]) rfl ?_
        exact z_zret F hr hlk B (Or.inr rfl) [1, 2, 0, 3, 4] rfl (rfl) dX8_isRoad_30 (by omega) (by omega) ⟨1, rfl, rfl, Or.inl ⟨rfl, Or.inl ((zSel_lead (by omega) (by omega)).mp hpA)⟩⟩
      · refine W.eq (g2 := F0 m 30 ls [.int 0]) rfl ?_
        exact z_zret F hr hlk B (Or.inl rfl) [1, 2, 0, 3, 4] rfl (rfl) dX8_isRoad_30 (by omega) (by omega) ⟨0, rfl, rfl, Or.inr ⟨rfl, fun q9 => q9.elim (fun q => hpA ((zSel_lead (by omega) (by omega)).mpr q)) (zlead_sel (by omega))⟩⟩
  · refine lv_iload_n F.1 F.2.1 dX8_isRoad_13 rfl (lv_at hl 3 rfl) ?_
    refine lv_iload_n F.1 F.2.1 dX8_isRoad_14 rfl (lv_at hl 0 rfl) ?_
    refine z_icmp_lt (tgt := 20) F (by omega) (by omega) dX8_isRoad_15 (by decide) (fun c15 => ?_) (fun c15 => ?_)
    · refine lv_iload_n F.1 F.2.1 dX8_isRoad_20 rfl (lv_at hl 2 rfl) ?_
      refine lv_iload_n F.1 F.2.1 dX8_isRoad_21 rfl (lv_at hl 0 rfl) ?_
      refine z_icmp_lt (tgt := 31) F (by omega) (by omega) dX8_isRoad_22 (by decide) (fun c22 => ?_) (fun c22 => ?_)
      · refine lv_iload_n F.1 F.2.1 dX8_isRoad_31 rfl (lv_at hl 3 rfl) ?_
        refine lv_iload_n F.1 F.2.1 dX8_isRoad_32 rfl (lv_at hl 0 rfl) ?_
        refine z_icmp_lt (tgt := 44) F (by omega) (by omega) dX8_isRoad_33 (by decide) (fun c33 => ?_) (fun c33 => ?_)
        · refine lv_aload_n F.1 F.2.1 dX8_isRoad_44 rfl (lv_at hl 1 rfl) ?_
          refine lv_iload_n F.1 F.2.1 dX8_isRoad_45 rfl (lv_at hl 2 rfl) ?_
          refine lv_iload_n F.1 F.2.1 dX8_isRoad_46 rfl (lv_at hl 3 rfl) ?_
          refine z_callV (wr := [(A8 8, .inl (cI, 1900, .inl f3)), (A8 10, .inl (cI, 2200, .inl ffe)), (A8 11, .inl (cI, 2200, .inl fle))]) (rest := []) (As := [.int (nI x), .int (nI y)]) F B (kX8_goes l D cI cZ cG cJ mm th q g t r mb nc nl pv va n3 ve ed se ci mr mt ld A8 L3 fbe x y (hed2) (hBE) (by omega) (by omega)) hl.1 (C := RX8) (T := TX8) (N := 37) (ci := 10) (q0 := 0) gX8_isRoad_X8_goes rfl 2 yX8_isRoad_X8_goes rfl rfl rfl [0, 2] [1, 3, 4] rfl rfl rfl rfl (by decide) (Nat.le_of_ble_eq_true rfl) (Nat.le_of_ble_eq_true rfl) (Nat.le_of_ble_eq_true rfl) rfl dX8_isRoad_47 (show 0 + 0 ≤ 0 by omega) (show 0 + 0 ≤ 0 by omega) (fun vv ww H locs hRR B => ?_)
          obtain ⟨r_9, rfl, rfl, hb_10⟩ := hRR
          have B : zB D (zT cI cZ cG cJ) A s.heap s [(A8 8, .inl (cI, 1900, .inl f3)), (A8 10, .inl (cI, 2200, .inl ffe)), (A8 11, .inl (cI, 2200, .inl fle)), (mm, .inr (10, zmo (nI th) (nI q) (nI g) (nI t) (nI r) (nI mb) (nI nc) (nI nl) (nI pv) (nI va) (nI n3) (nI ve) (nI ed) (nI se) (nI ci) (nI mr) (nI mt) (nI ld) A8)), (A8 9, .inl (cI, 7600, .inl fbe))] _ _ := B
          rcases hb_10 with ⟨hr1, hpC⟩ | ⟨hr1, hpC⟩ <;> subst hr1
          · refine W.eq (g2 := F0 m 50 ls [.int 1]) rfl ?_
            refine lv_if_ne (tgt := 62) F.1 F.2.1 dX8_isRoad_50 (by decide) (fun _ => ?_) (fun hq => absurd hq (by decide))
            refine lv_iconst (v := (nI 1)) F.1 F.2.1 dX8_isRoad_62 (by decide) ?_
            refine lv_goto (tgt := 67) F.1 F.2.1 dX8_isRoad_63 (by decide) ?_
            exact z_zret F hr hlk B (Or.inr rfl) [3, 0, 4, 1, 2] rfl (rfl) dX8_isRoad_67 (by omega) (by omega) ⟨(nI 1), rfl, rfl, Or.inl ⟨rfl, by first | exact Or.inr ((zSel_lead (by omega) (by omega)).mp hpB) | exact Or.inl ((zGo_lead hnl (by omega) (by omega)).mp hpC) | exact Or.inr ((zGo_lead hnl (by omega) (by omega)).mp hpD)⟩⟩
          · refine W.eq (g2 := F0 m 50 ls [.int 0]) rfl ?_
            refine lv_if_ne (tgt := 62) F.1 F.2.1 dX8_isRoad_50 (by decide) (fun hq => absurd (by decide) hq) (fun _ => ?_)
            refine lv_aload_n F.1 F.2.1 dX8_isRoad_53 rfl (lv_at hl 1 rfl) ?_
            refine lv_iload_n F.1 F.2.1 dX8_isRoad_54 rfl (lv_at hl 3 rfl) ?_
            refine lv_iload_n F.1 F.2.1 dX8_isRoad_55 rfl (lv_at hl 2 rfl) ?_
            refine z_callV (wr := [(A8 8, .inl (cI, 1900, .inl f3)), (A8 10, .inl (cI, 2200, .inl ffe)), (A8 11, .inl (cI, 2200, .inl fle))]) (rest := []) (As := [.int (nI y), .int (nI x)]) F B (kX8_goes l D cI cZ cG cJ mm th q g t r mb nc nl pv va n3 ve ed se ci mr mt ld A8 L3 fbe y x (hed2) (hBE) (by omega) (by omega)) hl.1 (C := RX8) (T := TX8) (N := 37) (ci := 10) (q0 := 3) gX8_isRoad_X8_goes rfl 2 yX8_isRoad_X8_goes rfl rfl rfl [3, 4] [0, 1, 2] rfl rfl rfl rfl (by decide) (Nat.le_of_ble_eq_true rfl) (Nat.le_of_ble_eq_true rfl) (Nat.le_of_ble_eq_true rfl) rfl dX8_isRoad_56 (show 0 + 0 ≤ 0 by omega) (show 0 + 0 ≤ 0 by omega) (fun vv ww H locs hRR B => ?_)
            obtain ⟨r_11, rfl, rfl, hb_12⟩ := hRR
            have B : zB D (zT cI cZ cG cJ) A s.heap s [(A8 8, .inl (cI, 1900, .inl f3)), (A8 10, .inl (cI, 2200, .inl ffe)), (A8 11, .inl (cI, 2200, .inl fle)), (mm, .inr (10, zmo (nI th) (nI q) (nI g) (nI t) (nI r) (nI mb) (nI nc) (nI nl) (nI pv) (nI va) (nI n3) (nI ve) (nI ed) (nI se) (nI ci) (nI mr) (nI mt) (nI ld) A8)), (A8 9, .inl (cI, 7600, .inl fbe))] _ _ := B
            rcases hb_12 with ⟨hr1, hpD⟩ | ⟨hr1, hpD⟩ <;> subst hr1
            · refine W.eq (g2 := F0 m 59 ls [.int 1]) rfl ?_
              refine lv_if_eq (tgt := 66) F.1 F.2.1 dX8_isRoad_59 (by decide) (fun hq => absurd hq (by decide)) (fun _ => ?_)
              refine lv_iconst (v := (nI 1)) F.1 F.2.1 dX8_isRoad_62 (by decide) ?_
              refine lv_goto (tgt := 67) F.1 F.2.1 dX8_isRoad_63 (by decide) ?_
              exact z_zret F hr hlk B (Or.inr rfl) [3, 0, 4, 1, 2] rfl (rfl) dX8_isRoad_67 (by omega) (by omega) ⟨(nI 1), rfl, rfl, Or.inl ⟨rfl, by first | exact Or.inr ((zSel_lead (by omega) (by omega)).mp hpB) | exact Or.inl ((zGo_lead hnl (by omega) (by omega)).mp hpC) | exact Or.inr ((zGo_lead hnl (by omega) (by omega)).mp hpD)⟩⟩
            · refine W.eq (g2 := F0 m 59 ls [.int 0]) rfl ?_
              refine lv_if_eq (tgt := 66) F.1 F.2.1 dX8_isRoad_59 (by decide) (fun _ => ?_) (fun hq => absurd (by decide) hq)
              refine lv_iconst (v := (nI 0)) F.1 F.2.1 dX8_isRoad_66 (by decide) ?_
              exact z_zret F hr hlk B (Or.inl rfl) [3, 0, 4, 1, 2] rfl (rfl) dX8_isRoad_67 (by omega) (by omega) ⟨(nI 0), rfl, rfl, Or.inr ⟨rfl, by first | exact fun q9 => q9.elim (zlead_sel (by omega)) (fun q => hpB ((zSel_lead (by omega) (by omega)).mpr q)) | exact fun q9 => q9.elim (fun q => hpC ((zGo_lead hnl (by omega) (by omega)).mpr q)) (fun q => hpD ((zGo_lead hnl (by omega) (by omega)).mpr q))⟩⟩
        · refine lv_aload_n F.1 F.2.1 dX8_isRoad_36 rfl (lv_at hl 1 rfl) ?_
          refine lv_iload_n F.1 F.2.1 dX8_isRoad_37 rfl (lv_at hl 2 rfl) ?_
          refine z_callV (wr := [(A8 9, .inl (cI, 7600, .inl fbe))]) (rest := []) (As := [.int (nI x)]) F B (kX8_isSelectorRoad l D cI cZ cG cJ mm th q g t r mb nc nl pv va n3 ve ed se ci mr mt ld A8 f3 L3 ffe fle x (hR) (hb) (hv) (hL) (hve) (hve2) (hed) (hed2) (hFE) (hLE) (by omega)) hl.1 (C := RX8) (T := TX8) (N := 37) (ci := 10) (q0 := 0) gX8_isRoad_X8_isSelectorRoad rfl 1 yX8_isRoad_X8_isSelectorRoad rfl rfl rfl [0, 1, 3, 4] [2] rfl rfl rfl rfl (by decide) (Nat.le_of_ble_eq_true rfl) (Nat.le_of_ble_eq_true rfl) (Nat.le_of_ble_eq_true rfl) rfl dX8_isRoad_38 (show 0 + 0 ≤ 0 by omega) (show 0 + 0 ≤ 0 by omega) (fun vv ww H locs hRR B => ?_)
          obtain ⟨r_13, rfl, rfl, hb_14⟩ := hRR
          have B : zB D (zT cI cZ cG cJ) A s.heap s [(A8 9, .inl (cI, 7600, .inl fbe)), (mm, .inr (10, zmo (nI th) (nI q) (nI g) (nI t) (nI r) (nI mb) (nI nc) (nI nl) (nI pv) (nI va) (nI n3) (nI ve) (nI ed) (nI se) (nI ci) (nI mr) (nI mt) (nI ld) A8)), (A8 8, .inl (cI, 1900, .inl f3)), (A8 10, .inl (cI, 2200, .inl ffe)), (A8 11, .inl (cI, 2200, .inl fle))] _ _ := B
          rcases hb_14 with ⟨hr1, hpB⟩ | ⟨hr1, hpB⟩ <;> subst hr1
          · refine W.eq (g2 := F0 m 41 ls [.int 1]) rfl ?_
            refine lv_goto (tgt := 67) F.1 F.2.1 dX8_isRoad_41 (by decide) ?_
            exact z_zret F hr hlk B (Or.inr rfl) [1, 2, 0, 3, 4] rfl (rfl) dX8_isRoad_67 (by omega) (by omega) ⟨1, rfl, rfl, Or.inl ⟨rfl, by first | exact Or.inr ((zSel_lead (by omega) (by omega)).mp hpB) | exact Or.inl ((zGo_lead hnl (by omega) (by omega)).mp hpC) | exact Or.inr ((zGo_lead hnl (by omega) (by omega)).mp hpD)⟩⟩
          · refine W.eq (g2 := F0 m 41 ls [.int 0]) rfl ?_
            refine lv_goto (tgt := 67) F.1 F.2.1 dX8_isRoad_41 (by decide) ?_
            exact z_zret F hr hlk B (Or.inl rfl) [1, 2, 0, 3, 4] rfl (rfl) dX8_isRoad_67 (by omega) (by omega) ⟨0, rfl, rfl, Or.inr ⟨rfl, by first | exact fun q9 => q9.elim (zlead_sel (by omega)) (fun q => hpB ((zSel_lead (by omega) (by omega)).mpr q)) | exact fun q9 => q9.elim (fun q => hpC ((zGo_lead hnl (by omega) (by omega)).mpr q)) (fun q => hpD ((zGo_lead hnl (by omega) (by omega)).mpr q))⟩⟩
      · refine lv_aload_n F.1 F.2.1 dX8_isRoad_25 rfl (lv_at hl 1 rfl) ?_
        refine lv_iload_n F.1 F.2.1 dX8_isRoad_26 rfl (lv_at hl 3 rfl) ?_
        refine z_callV (wr := [(A8 9, .inl (cI, 7600, .inl fbe))]) (rest := []) (As := [.int (nI y)]) F B (kX8_isSelectorRoad l D cI cZ cG cJ mm th q g t r mb nc nl pv va n3 ve ed se ci mr mt ld A8 f3 L3 ffe fle y (hR) (hb) (hv) (hL) (hve) (hve2) (hed) (hed2) (hFE) (hLE) (by omega)) hl.1 (C := RX8) (T := TX8) (N := 37) (ci := 10) (q0 := 0) gX8_isRoad_X8_isSelectorRoad rfl 1 yX8_isRoad_X8_isSelectorRoad rfl rfl rfl [0, 1, 3, 4] [2] rfl rfl rfl rfl (by decide) (Nat.le_of_ble_eq_true rfl) (Nat.le_of_ble_eq_true rfl) (Nat.le_of_ble_eq_true rfl) rfl dX8_isRoad_27 (show 0 + 0 ≤ 0 by omega) (show 0 + 0 ≤ 0 by omega) (fun vv ww H locs hRR B => ?_)
        obtain ⟨r_15, rfl, rfl, hb_16⟩ := hRR
        have B : zB D (zT cI cZ cG cJ) A s.heap s [(A8 9, .inl (cI, 7600, .inl fbe)), (mm, .inr (10, zmo (nI th) (nI q) (nI g) (nI t) (nI r) (nI mb) (nI nc) (nI nl) (nI pv) (nI va) (nI n3) (nI ve) (nI ed) (nI se) (nI ci) (nI mr) (nI mt) (nI ld) A8)), (A8 8, .inl (cI, 1900, .inl f3)), (A8 10, .inl (cI, 2200, .inl ffe)), (A8 11, .inl (cI, 2200, .inl fle))] _ _ := B
        rcases hb_16 with ⟨hr1, hpA⟩ | ⟨hr1, hpA⟩ <;> subst hr1
        · refine W.eq (g2 := F0 m 30 ls [.int 1]) rfl ?_
          exact z_zret F hr hlk B (Or.inr rfl) [1, 2, 0, 3, 4] rfl (rfl) dX8_isRoad_30 (by omega) (by omega) ⟨1, rfl, rfl, Or.inl ⟨rfl, Or.inl ((zSel_lead (by omega) (by omega)).mp hpA)⟩⟩
        · refine W.eq (g2 := F0 m 30 ls [.int 0]) rfl ?_
          exact z_zret F hr hlk B (Or.inl rfl) [1, 2, 0, 3, 4] rfl (rfl) dX8_isRoad_30 (by omega) (by omega) ⟨0, rfl, rfl, Or.inr ⟨rfl, fun q9 => q9.elim (fun q => hpA ((zSel_lead (by omega) (by omega)).mpr q)) (zlead_sel (by omega))⟩⟩
    · refine lv_iconst (v := (nI 0)) F.1 F.2.1 dX8_isRoad_18 (by decide) ?_
      exact z_zret F hr hlk B (Or.inl rfl) [0, 1, 2, 3, 4] rfl (rfl) dX8_isRoad_19 (by omega) (by omega) ⟨(nI 0), rfl, rfl, Or.inr ⟨rfl, fun q9 => q9.elim (zlead_sel (by omega)) (zlead_sel (by omega))⟩⟩
theorem yX8_far_X8_isRoad : yX8_isRoad.cls = RX8 ∧ yX8_isRoad.cls ≠ "java/lang/invoke/MethodHandle" ∧ yX8_isRoad.cls ≠ "java/lang/invoke/VarHandle" ∧ (parseMethodDescriptor yX8_isRoad.desc).map (fun d => d.parameters.length) = some 2 := by decide +kernel
set_option maxHeartbeats 4000000 in
set_option maxRecDepth 100000 in
theorem kX8_far (l : Launch) (D : va_G) (cI cZ cG cJ : ClassId) (mm : Nat) (th : Nat) (q : Nat) (g : Nat) (t : Nat) (r : Nat) (mb : Nat) (nc : Nat) (nl : Nat) (pv : Nat) (va : Nat) (n3 : Nat) (ve : Nat) (ed : Nat) (se : Nat) (ci : Nat) (mr : Nat) (mt : Nat) (ld : Nat) (A8 : Nat → Nat) (f3 : Nat → Int32) (L3 : List Nat) (fbe : Nat → Int32) (ffe : Nat → Int32) (fle : Nat → Int32) (x : Nat) (y : Nat) (hR : zR f3 (3 * n3) L3) (hb : 3 * n3 ≤ 1900) (hv : va ≤ 1000) (hL : ∀ i, i < 3 * n3 → L3.getD i 0 < 2 * va) (hve : ve = 2 * va + 3 * n3) (hve2 : ve ≤ 2200) (hed : ed = va + 6 * n3) (hed2 : 2 * ed ≤ 7600) (hFE : ∀ u, u < ve → zFE (zva va L3) (2 * ed) u (ffe u)) (hLE : ∀ u, u < ve → zLE (zva va L3) (2 * ed) u (fle u)) (hBE : ∀ x, x < 2 * ed → zBH (zva va L3) (2 * ed) x (fbe x)) (hci : ci ≤ 1000000) (hx : x < ci) (hy : y < ci) : zC l yX8_far wsX8_far 3 71 0 0 D (zT cI cZ cG cJ) [.ref mm, .int (nI x), .int (nI y)] [(mm, .inr (10, zmo (nI th) (nI q) (nI g) (nI t) (nI r) (nI mb) (nI nc) (nI nl) (nI pv) (nI va) (nI n3) (nI ve) (nI ed) (nI se) (nI ci) (nI mr) (nI mt) (nI ld) A8)), (A8 8, .inl (cI, 1900, .inl f3)), (A8 9, .inl (cI, 7600, .inl fbe)), (A8 10, .inl (cI, 2200, .inl ffe)), (A8 11, .inl (cI, 2200, .inl fle))] (fun (ov : Option Value) (ow : va_W) => ov = some (.int (nI (zdist (zva va L3) ed x y))) ∧ ow = [(mm, .inr (10, zmo (nI th) (nI q) (nI g) (nI t) (nI r) (nI mb) (nI nc) (nI nl) (nI pv) (nI va) (nI n3) (nI ve) (nI ed) (nI se) (nI ci) (nI mr) (nI mt) (nI ld) A8)), (A8 8, .inl (cI, 1900, .inl f3)), (A8 9, .inl (cI, 7600, .inl fbe)), (A8 10, .inl (cI, 2200, .inl ffe)), (A8 11, .inl (cI, 2200, .inl fle))]) := by
  refine zC.of (cc := cX8_far) (maxL := 3) (ret := (some .int)) (by decide) rfl (Nat.le_of_ble_eq_true rfl) ?_
  intro p e s m below meth c A ls F hr hlk hnm B hl
  have hl : lv_has ls 3 [(0, .ref mm), (1, .int (nI x)), (2, .int (nI y))] := hl
  refine lv_iload_n F.1 F.2.1 dX8_far_0 rfl (lv_at hl 1 rfl) ?_
  refine lv_iload_n F.1 F.2.1 dX8_far_1 rfl (lv_at hl 2 rfl) ?_
  refine z_icmp_ne (tgt := 9) F (by omega) (by omega) dX8_far_2 (by decide) (fun c2 => ?_) (fun c2 => ?_)
  · refine lv_aload_n F.1 F.2.1 dX8_far_9 rfl (lv_at hl 0 rfl) ?_
    refine lv_iload_n F.1 F.2.1 dX8_far_10 rfl (lv_at hl 1 rfl) ?_
    refine lv_iload_n F.1 F.2.1 dX8_far_11 rfl (lv_at hl 2 rfl) ?_
    refine z_callV (wr := []) (rest := []) (As := [.int (nI x), .int (nI y)]) F B (kX8_isRoad l D cI cZ cG cJ mm th q g t r mb nc nl pv va n3 ve ed se ci mr mt ld A8 f3 L3 fbe ffe fle x y (hR) (hb) (hv) (hL) (hve) (hve2) (hed) (hed2) (hFE) (hLE) (hBE) (by omega) (by omega) (by omega)) hl.1 (C := RX8) (T := TX8) (N := 37) (ci := 10) (q0 := 0) gX8_far_X8_isRoad rfl 2 yX8_far_X8_isRoad rfl rfl rfl [0, 1, 2, 3, 4] [] rfl rfl rfl rfl (by decide) (Nat.le_of_ble_eq_true rfl) (Nat.le_of_ble_eq_true rfl) (Nat.le_of_ble_eq_true rfl) rfl dX8_far_12 (show 0 + 0 ≤ 0 by omega) (show 0 + 0 ≤ 0 by omega) (fun vv ww H locs hRR B => ?_)
    obtain ⟨r_1, rfl, rfl, hb_2⟩ := hRR
    have B : zB D (zT cI cZ cG cJ) A s.heap s [(mm, .inr (10, zmo (nI th) (nI q) (nI g) (nI t) (nI r) (nI mb) (nI nc) (nI nl) (nI pv) (nI va) (nI n3) (nI ve) (nI ed) (nI se) (nI ci) (nI mr) (nI mt) (nI ld) A8)), (A8 8, .inl (cI, 1900, .inl f3)), (A8 9, .inl (cI, 7600, .inl fbe)), (A8 10, .inl (cI, 2200, .inl ffe)), (A8 11, .inl (cI, 2200, .inl fle))] _ _ := B
    rcases hb_2 with ⟨hr1, hpR⟩ | ⟨hr1, hpR⟩ <;> subst hr1
    · refine W.eq (g2 := F0 m 15 ls [.int 1]) rfl ?_
      refine lv_if_eq (tgt := 22) F.1 F.2.1 dX8_far_15 (by decide) (fun hq => absurd hq (by decide)) (fun _ => ?_)
      refine lv_iconst (v := (nI 1)) F.1 F.2.1 dX8_far_18 (by decide) ?_
      refine lv_goto (tgt := 23) F.1 F.2.1 dX8_far_19 (by decide) ?_
      exact z_iret F hr hlk B [0, 1, 2, 3, 4] rfl (rfl) dX8_far_23 (by omega) (by omega) ⟨by rw [zdist_1 c2 hpR], rfl⟩
    · refine W.eq (g2 := F0 m 15 ls [.int 0]) rfl ?_
      refine lv_if_eq (tgt := 22) F.1 F.2.1 dX8_far_15 (by decide) (fun _ => ?_) (fun hq => absurd (by decide) hq)
      refine lv_iconst (v := (nI 2)) F.1 F.2.1 dX8_far_22 (by decide) ?_
      exact z_iret F hr hlk B [0, 1, 2, 3, 4] rfl (rfl) dX8_far_23 (by omega) (by omega) ⟨by rw [zdist_2 c2 hpR], rfl⟩
  · refine lv_iconst (v := (nI 0)) F.1 F.2.1 dX8_far_5 (by decide) ?_
    refine lv_goto (tgt := 23) F.1 F.2.1 dX8_far_6 (by decide) ?_
    exact z_iret F hr hlk B [0, 1, 2, 3, 4] rfl (rfl) dX8_far_23 (by omega) (by omega) ⟨by rw [zdist_0 c2], rfl⟩
theorem iX8_apart_X8 : ∀ w ∈ u_ws RX8 TX8 37, w ∈ wsX8_apart := fun w h => List.mem_cons_of_mem _ (List.mem_append_right _ h)
theorem fX8_apart_79 : Cond.fieldLink RX8 79 "TourChainModel" "thrown" "I" ∈ wsX8_apart := by decide +kernel
theorem fX8_apart_82 : Cond.fieldLink RX8 82 "TourChainModel" "built" "Z" ∈ wsX8_apart := by decide +kernel
theorem fX8_apart_185 : Cond.fieldLink RX8 185 "TourChainModel" "cities" "I" ∈ wsX8_apart := by decide +kernel
theorem yX8_apart_X8_in : yX8_in.cls = RX8 ∧ yX8_in.cls ≠ "java/lang/invoke/MethodHandle" ∧ yX8_in.cls ≠ "java/lang/invoke/VarHandle" ∧ (parseMethodDescriptor yX8_in.desc).map (fun d => d.parameters.length) = some 3 := by decide +kernel
theorem yX8_apart_X8_far : yX8_far.cls = RX8 ∧ yX8_far.cls ≠ "java/lang/invoke/MethodHandle" ∧ yX8_far.cls ≠ "java/lang/invoke/VarHandle" ∧ (parseMethodDescriptor yX8_far.desc).map (fun d => d.parameters.length) = some 2 := by decide +kernel
set_option maxHeartbeats 4000000 in
set_option maxRecDepth 100000 in
theorem kX8_apart (l : Launch) (D : va_G) (cI cZ cG cJ : ClassId) (mm : Nat) (th : Nat) (q : Nat) (g : Nat) (t : Nat) (r : Nat) (mb : Nat) (nc : Nat) (nl : Nat) (pv : Nat) (va : Nat) (n3 : Nat) (ve : Nat) (ed : Nat) (se : Nat) (ci : Nat) (mr : Nat) (mt : Nat) (ld : Nat) (A8 : Nat → Nat) (f3 : Nat → Int32) (L3 : List Nat) (fbe : Nat → Int32) (ffe : Nat → Int32) (fle : Nat → Int32) (u1 : Int32) (u2 : Int32) (hmb : mb ≤ 1) (hb : mb = 1 → ci ≤ 1000000 ∧ 1 ≤ ci ∧ (zR f3 (3 * n3) L3) ∧ (3 * n3 ≤ 1900) ∧ (va ≤ 1000) ∧ (∀ i, i < 3 * n3 → L3.getD i 0 < 2 * va) ∧ (ve = 2 * va + 3 * n3) ∧ (ve ≤ 2200) ∧ (ed = va + 6 * n3) ∧ (2 * ed ≤ 7600) ∧ (∀ u, u < ve → zFE (zva va L3) (2 * ed) u (ffe u)) ∧ (∀ u, u < ve → zLE (zva va L3) (2 * ed) u (fle u)) ∧ (∀ x, x < 2 * ed → zBH (zva va L3) (2 * ed) x (fbe x))) : zC l yX8_apart wsX8_apart 4 93 0 0 D (zT cI cZ cG cJ) [.ref mm, .int u1, .int u2] [(mm, .inr (10, zmo (nI th) (nI q) (nI g) (nI t) (nI r) (nI mb) (nI nc) (nI nl) (nI pv) (nI va) (nI n3) (nI ve) (nI ed) (nI se) (nI ci) (nI mr) (nI mt) (nI ld) A8)), (A8 8, .inl (cI, 1900, .inl f3)), (A8 9, .inl (cI, 7600, .inl fbe)), (A8 10, .inl (cI, 2200, .inl ffe)), (A8 11, .inl (cI, 2200, .inl fle))] (fun (ov : Option Value) (ow : va_W) => ov = some (.int (zif (mb = 1 ∧ zq u1 ci ∧ zq u2 ci) (nI (zdist (zva va L3) ed (zn u1) (zn u2))) (-1))) ∧ ow = [(mm, .inr (10, zmo (nI 0) (nI q) (nI g) (nI t) (nI r) (nI mb) (nI nc) (nI nl) (nI pv) (nI va) (nI n3) (nI ve) (nI ed) (nI se) (nI ci) (nI mr) (nI mt) (nI ld) A8)), (A8 8, .inl (cI, 1900, .inl f3)), (A8 9, .inl (cI, 7600, .inl fbe)), (A8 10, .inl (cI, 2200, .inl ffe)), (A8 11, .inl (cI, 2200, .inl fle))]) := by
  refine zC.of (cc := cX8_apart) (maxL := 3) (ret := (some .int)) (by decide) rfl (Nat.le_of_ble_eq_true rfl) ?_
  intro p e s m below meth c A ls F hr hlk hnm B hl
  have hl : lv_has ls 3 [(0, .ref mm), (1, .int u1), (2, .int u2)] := hl
  refine lv_aload_n F.1 F.2.1 dX8_apart_0 rfl (lv_at hl 0 rfl) ?_
  refine lv_iconst (v := (nI 0)) F.1 F.2.1 dX8_apart_1 (by decide) ?_
  refine z_put F B 0 rfl (ci := 10) (C := RX8) (T := TX8) (N := 37) rfl iX8_apart_X8 tyX8 tyX8_ok nmX8 0 (by decide) fX8_apart_79 rfl (v := .int (nI 0)) rfl rfl (Nat.le_of_ble_eq_true rfl) dX8_apart_2 (fun H locs B => ?_)
  have B : zB D (zT cI cZ cG cJ) A s.heap s [(mm, .inr (10, zmo (nI 0) (nI q) (nI g) (nI t) (nI r) (nI mb) (nI nc) (nI nl) (nI pv) (nI va) (nI n3) (nI ve) (nI ed) (nI se) (nI ci) (nI mr) (nI mt) (nI ld) A8)), (A8 8, .inl (cI, 1900, .inl f3)), (A8 9, .inl (cI, 7600, .inl fbe)), (A8 10, .inl (cI, 2200, .inl ffe)), (A8 11, .inl (cI, 2200, .inl fle))] _ _ := B
  refine lv_aload_n F.1 F.2.1 dX8_apart_5 rfl (lv_at hl 0 rfl) ?_
  refine z_get F B 0 rfl (ci := 10) (C := RX8) (T := TX8) (N := 37) rfl iX8_apart_X8 11 (by decide) fX8_apart_82 rfl dX8_apart_6 ?_
  refine z_if_eq (tgt := 49) F (by omega) dX8_apart_9 (by decide) (fun c9 => ?_) (fun c9 => ?_)
  · refine lv_iconst (v := (-1)) F.1 F.2.1 dX8_apart_49 (by decide) ?_
    exact z_iret F hr hlk B [0, 1, 2, 3, 4] rfl (rfl) dX8_apart_50 (by omega) (by omega) ⟨by rw [zif_f (by intro q9; first | exact absurd q9.1 (by omega) | exact g1 q9.2.1 | exact g2 q9.2.2)], rfl⟩
  · obtain ⟨hci, hci1, hR, hb, hv, hL, hve, hve2, hed, hed2, hFE, hLE, hBE⟩ := hb (by omega)
    refine lv_iload_n F.1 F.2.1 dX8_apart_12 rfl (lv_at hl 1 rfl) ?_
    refine lv_iconst (v := (nI 0)) F.1 F.2.1 dX8_apart_13 (by decide) ?_
    refine lv_aload_n F.1 F.2.1 dX8_apart_14 rfl (lv_at hl 0 rfl) ?_
    refine z_get F B 0 rfl (ci := 10) (C := RX8) (T := TX8) (N := 37) rfl iX8_apart_X8 23 (by decide) fX8_apart_185 rfl dX8_apart_15 ?_
    refine lv_iconst (v := (nI 1)) F.1 F.2.1 dX8_apart_18 (by decide) ?_
    refine z_isub F (by omega) dX8_apart_19 ?_
    refine z_callS (wr := [(mm, .inr (10, zmo (nI 0) (nI q) (nI g) (nI t) (nI r) (nI mb) (nI nc) (nI nl) (nI pv) (nI va) (nI n3) (nI ve) (nI ed) (nI se) (nI ci) (nI mr) (nI mt) (nI ld) A8)), (A8 8, .inl (cI, 1900, .inl f3)), (A8 9, .inl (cI, 7600, .inl fbe)), (A8 10, .inl (cI, 2200, .inl ffe)), (A8 11, .inl (cI, 2200, .inl fle))]) (rest := []) (As := [.int u1, .int (nI 0), .int (nI (ci - 1))]) F B (kX8_in l D cI cZ cG cJ u1 (nI 0) (nI (ci - 1))) hl.1 gX8_apart_X8_in rfl 3 yX8_apart_X8_in rfl [] [0, 1, 2, 3, 4] rfl rfl rfl rfl (by decide) (Nat.le_of_ble_eq_true rfl) (Nat.le_of_ble_eq_true rfl) (Nat.le_of_ble_eq_true rfl) rfl dX8_apart_20 (show 0 + 0 ≤ 0 by omega) (show 0 + 0 ≤ 0 by omega) (fun vv ww H locs hRR B => ?_)
    obtain ⟨r_1, rfl, rfl, hb_2⟩ := hRR
    have B : zB D (zT cI cZ cG cJ) A s.heap s [(mm, .inr (10, zmo (nI 0) (nI q) (nI g) (nI t) (nI r) (nI mb) (nI nc) (nI nl) (nI pv) (nI va) (nI n3) (nI ve) (nI ed) (nI se) (nI ci) (nI mr) (nI mt) (nI ld) A8)), (A8 8, .inl (cI, 1900, .inl f3)), (A8 9, .inl (cI, 7600, .inl fbe)), (A8 10, .inl (cI, 2200, .inl ffe)), (A8 11, .inl (cI, 2200, .inl fle))] _ _ := B
    rcases hb_2 with ⟨hr1, g1⟩ | ⟨hr1, g1⟩ <;> subst hr1
    · refine W.eq (g2 := F0 m 23 ls [.int 1]) rfl ?_
      have g1 := (zqM (n := ci) (by omega) (by omega)).mp g1
      have g1e := zn_eq g1.1
      have g1l := zn_lt g1
      rw [g1e] at hl
      have hl : lv_has ls 3 [(0, .ref mm), (1, .int (nI (zn u1))), (2, .int u2)] := hl
      refine lv_if_eq (tgt := 49) F.1 F.2.1 dX8_apart_23 (by decide) (fun hq => absurd hq (by decide)) (fun _ => ?_)
      refine lv_iload_n F.1 F.2.1 dX8_apart_26 rfl (lv_at hl 2 rfl) ?_
      refine lv_iconst (v := (nI 0)) F.1 F.2.1 dX8_apart_27 (by decide) ?_
      refine lv_aload_n F.1 F.2.1 dX8_apart_28 rfl (lv_at hl 0 rfl) ?_
      refine z_get F B 0 rfl (ci := 10) (C := RX8) (T := TX8) (N := 37) rfl iX8_apart_X8 23 (by decide) fX8_apart_185 rfl dX8_apart_29 ?_
      refine lv_iconst (v := (nI 1)) F.1 F.2.1 dX8_apart_32 (by decide) ?_
      refine z_isub F (by omega) dX8_apart_33 ?_
      refine z_callS (wr := [(mm, .inr (10, zmo (nI 0) (nI q) (nI g) (nI t) (nI r) (nI mb) (nI nc) (nI nl) (nI pv) (nI va) (nI n3) (nI ve) (nI ed) (nI se) (nI ci) (nI mr) (nI mt) (nI ld) A8)), (A8 8, .inl (cI, 1900, .inl f3)), (A8 9, .inl (cI, 7600, .inl fbe)), (A8 10, .inl (cI, 2200, .inl ffe)), (A8 11, .inl (cI, 2200, .inl fle))]) (rest := []) (As := [.int u2, .int (nI 0), .int (nI (ci - 1))]) F B (kX8_in l D cI cZ cG cJ u2 (nI 0) (nI (ci - 1))) hl.1 gX8_apart_X8_in rfl 3 yX8_apart_X8_in rfl [] [0, 1, 2, 3, 4] rfl rfl rfl rfl (by decide) (Nat.le_of_ble_eq_true rfl) (Nat.le_of_ble_eq_true rfl) (Nat.le_of_ble_eq_true rfl) rfl dX8_apart_34 (show 0 + 0 ≤ 0 by omega) (show 0 + 0 ≤ 0 by omega) (fun vv ww H locs hRR B => ?_)
      obtain ⟨r_3, rfl, rfl, hb_4⟩ := hRR
      have B : zB D (zT cI cZ cG cJ) A s.heap s [(mm, .inr (10, zmo (nI 0) (nI q) (nI g) (nI t) (nI r) (nI mb) (nI nc) (nI nl) (nI pv) (nI va) (nI n3) (nI ve) (nI ed) (nI se) (nI ci) (nI mr) (nI mt) (nI ld) A8)), (A8 8, .inl (cI, 1900, .inl f3)), (A8 9, .inl (cI, 7600, .inl fbe)), (A8 10, .inl (cI, 2200, .inl ffe)), (A8 11, .inl (cI, 2200, .inl fle))] _ _ := B
      rcases hb_4 with ⟨hr1, g2⟩ | ⟨hr1, g2⟩ <;> subst hr1
      · refine W.eq (g2 := F0 m 37 ls [.int 1]) rfl ?_
        have g2 := (zqM (n := ci) (by omega) (by omega)).mp g2
        have g2e := zn_eq g2.1
        have g2l := zn_lt g2
        rw [g2e] at hl
        have hl : lv_has ls 3 [(0, .ref mm), (1, .int (nI (zn u1))), (2, .int (nI (zn u2)))] := hl
        refine lv_if_eq (tgt := 49) F.1 F.2.1 dX8_apart_37 (by decide) (fun hq => absurd hq (by decide)) (fun _ => ?_)
        refine lv_aload_n F.1 F.2.1 dX8_apart_40 rfl (lv_at hl 0 rfl) ?_
        refine lv_iload_n F.1 F.2.1 dX8_apart_41 rfl (lv_at hl 1 rfl) ?_
        refine lv_iload_n F.1 F.2.1 dX8_apart_42 rfl (lv_at hl 2 rfl) ?_
        refine z_callV (wr := []) (rest := []) (As := [.int (nI (zn u1)), .int (nI (zn u2))]) F B (kX8_far l D cI cZ cG cJ mm 0 q g t r mb nc nl pv va n3 ve ed se ci mr mt ld A8 f3 L3 fbe ffe fle (zn u1) (zn u2) (hR) (hb) (hv) (hL) (hve) (hve2) (hed) (hed2) (hFE) (hLE) (hBE) (by omega) (by omega) (by omega)) hl.1 (C := RX8) (T := TX8) (N := 37) (ci := 10) (q0 := 0) gX8_apart_X8_far rfl 2 yX8_apart_X8_far rfl rfl rfl [0, 1, 2, 3, 4] [] rfl rfl rfl rfl (by decide) (Nat.le_of_ble_eq_true rfl) (Nat.le_of_ble_eq_true rfl) (Nat.le_of_ble_eq_true rfl) rfl dX8_apart_43 (show 0 + 0 ≤ 0 by omega) (show 0 + 0 ≤ 0 by omega) (fun vv ww H locs hRR B => ?_)
        obtain ⟨rfl, rfl⟩ := hRR
        have B : zB D (zT cI cZ cG cJ) A s.heap s [(mm, .inr (10, zmo (nI 0) (nI q) (nI g) (nI t) (nI r) (nI mb) (nI nc) (nI nl) (nI pv) (nI va) (nI n3) (nI ve) (nI ed) (nI se) (nI ci) (nI mr) (nI mt) (nI ld) A8)), (A8 8, .inl (cI, 1900, .inl f3)), (A8 9, .inl (cI, 7600, .inl fbe)), (A8 10, .inl (cI, 2200, .inl ffe)), (A8 11, .inl (cI, 2200, .inl fle))] _ _ := B
        refine W.eq (g2 := F0 m 46 ls [.int (nI (zdist (zva va L3) ed (zn u1) (zn u2)))]) rfl ?_
        refine lv_goto (tgt := 50) F.1 F.2.1 dX8_apart_46 (by decide) ?_
        exact z_iret F hr hlk B [0, 1, 2, 3, 4] rfl (rfl) dX8_apart_50 (by omega) (by omega) ⟨by rw [zif_t ⟨by omega, g1, g2⟩], rfl⟩
      · refine W.eq (g2 := F0 m 37 ls [.int 0]) rfl ?_
        have g2 : ¬ zq u2 ci := fun q9 => g2 ((zqM (n := ci) (by omega) (by omega)).mpr q9)
        refine lv_if_eq (tgt := 49) F.1 F.2.1 dX8_apart_37 (by decide) (fun _ => ?_) (fun hq => absurd (by decide) hq)
        refine lv_iconst (v := (-1)) F.1 F.2.1 dX8_apart_49 (by decide) ?_
        exact z_iret F hr hlk B [0, 1, 2, 3, 4] rfl (rfl) dX8_apart_50 (by omega) (by omega) ⟨by rw [zif_f (by intro q9; first | exact absurd q9.1 (by omega) | exact g1 q9.2.1 | exact g2 q9.2.2)], rfl⟩
    · refine W.eq (g2 := F0 m 23 ls [.int 0]) rfl ?_
      have g1 : ¬ zq u1 ci := fun q9 => g1 ((zqM (n := ci) (by omega) (by omega)).mpr q9)
      refine lv_if_eq (tgt := 49) F.1 F.2.1 dX8_apart_23 (by decide) (fun _ => ?_) (fun hq => absurd (by decide) hq)
      refine lv_iconst (v := (-1)) F.1 F.2.1 dX8_apart_49 (by decide) ?_
      exact z_iret F hr hlk B [0, 1, 2, 3, 4] rfl (rfl) dX8_apart_50 (by omega) (by omega) ⟨by rw [zif_f (by intro q9; first | exact absurd q9.1 (by omega) | exact g1 q9.2.1 | exact g2 q9.2.2)], rfl⟩
