/-! CONTRACTS: Arrays.fill, TourChain.roomFor, Graph.join, drawThree, firstSelector -/
theorem zva_join {f : Nat → Int32} {v : Nat} {L3 : List Nat} {x a b : Nat} (h : ∀ d, d < 2 * x → f d = nI (zva v L3 d)) (h0 : a = zva v L3 (2 * x)) (h1 : b = zva v L3 (2 * x + 1)) : ∀ d, d < 2 * (x + 1) → upd (upd f (2 * x) (nI a)) (2 * x + 1) (nI b) d = nI (zva v L3 d) := by
  intro d hd
  by_cases e1 : d = 2 * x + 1
  · subst e1; rw [pk_us, h1]
  · rw [pk_un e1]
    by_cases e2 : d = 2 * x
    · subst e2; rw [pk_us, h0]
    · rw [pk_un e2]; exact h d (by omega)
theorem z3_0a (v : Nat) (L3 : List Nat) (j : Nat) : zva v L3 (2 * (v + 6 * j)) = 2 * v + 3 * j := zva_hi v L3 j 0 (by omega)
theorem z3_0b (v : Nat) (L3 : List Nat) (j : Nat) : zva v L3 (2 * (v + 6 * j) + 1) = 2 * v + 3 * j + 1 := zva_hi v L3 j 1 (by omega)
theorem z3_1a (v : Nat) (L3 : List Nat) (j : Nat) : zva v L3 (2 * (v + 6 * j + 1)) = 2 * v + 3 * j + 1 := zva_hi v L3 j 2 (by omega)
theorem z3_1b (v : Nat) (L3 : List Nat) (j : Nat) : zva v L3 (2 * (v + 6 * j + 1) + 1) = 2 * v + 3 * j + 2 := zva_hi v L3 j 3 (by omega)
theorem z3_2a (v : Nat) (L3 : List Nat) (j : Nat) : zva v L3 (2 * (v + 6 * j + 2)) = 2 * v + 3 * j := zva_hi v L3 j 4 (by omega)
theorem z3_2b (v : Nat) (L3 : List Nat) (j : Nat) : zva v L3 (2 * (v + 6 * j + 2) + 1) = 2 * v + 3 * j + 2 := zva_hi v L3 j 5 (by omega)
theorem z3_ia (v : Nat) (L3 : List Nat) (j i : Nat) (h : i < 3) : zva v L3 (2 * (v + 6 * j + 3 + i)) = 2 * v + 3 * j + i := by
  rw [show 2 * (v + 6 * j + 3 + i) = 2 * (v + 6 * j) + (6 + 2 * i) by omega, zva_hi v L3 j (6 + 2 * i) (by omega)]
  rcases (show i = 0 ∨ i = 1 ∨ i = 2 by omega) with rfl | rfl | rfl <;> rfl
theorem z3_ib (v : Nat) (L3 : List Nat) (j i : Nat) (h : i < 3) : zva v L3 (2 * (v + 6 * j + 3 + i) + 1) = L3.getD (3 * j + i) 0 := by
  rw [show 2 * (v + 6 * j + 3 + i) + 1 = 2 * (v + 6 * j) + (7 + 2 * i) by omega, zva_hi v L3 j (7 + 2 * i) (by omega)]
  rcases (show i = 0 ∨ i = 1 ∨ i = 2 by omega) with rfl | rfl | rfl <;> rfl
set_option maxHeartbeats 4000000 in
set_option maxRecDepth 100000 in
theorem kJ7_rangeCheck_23922 (l : Launch) (D : va_G) (cI cZ cG cJ : ClassId) (n : Nat) (i : Nat) (j : Nat) (h1 : i ≤ j) (h2 : j ≤ n) (h3 : n < 2 ^ 31) : zC l yJ7_rangeCheck_23922 wsJ7_rangeCheck_23922 0 0 0 0 D (zT cI cZ cG cJ) [.int (nI n), .int (nI i), .int (nI j)] [] (fun (ov : Option Value) (ow : va_W) => ov = none ∧ ow = []) := by
  refine zC.of (cc := cJ7_rangeCheck_23922) (maxL := 3) (ret := none) (by decide) rfl (Nat.le_of_ble_eq_true rfl) ?_
  intro p e s m below meth c A ls F hr hlk hnm B hl
  have hl : lv_has ls 3 [(0, .int (nI n)), (1, .int (nI i)), (2, .int (nI j))] := hl
  refine lv_iload_n F.1 F.2.1 dJ7_rangeCheck_23922_0 rfl (lv_at hl 1 rfl) ?_
  refine lv_iload_n F.1 F.2.1 dJ7_rangeCheck_23922_1 rfl (lv_at hl 2 rfl) ?_
  refine z_icmp_le (tgt := 46) F (by omega) (by omega) dJ7_rangeCheck_23922_2 (by decide) (fun c2 => ?_) (fun c2 => ?_)
  · refine lv_iload_n F.1 F.2.1 dJ7_rangeCheck_23922_46 rfl (lv_at hl 1 rfl) ?_
    refine z_if_ge (tgt := 59) F (by omega) dJ7_rangeCheck_23922_47 (by decide) (fun c47 => ?_) (fun c47 => ?_)
    · refine lv_iload_n F.1 F.2.1 dJ7_rangeCheck_23922_59 rfl (lv_at hl 2 rfl) ?_
      refine lv_iload_n F.1 F.2.1 dJ7_rangeCheck_23922_60 rfl (lv_at hl 0 rfl) ?_
      refine z_icmp_le (tgt := 73) F (by omega) (by omega) dJ7_rangeCheck_23922_61 (by decide) (fun c61 => ?_) (fun c61 => ?_)
      · exact z_vret F hr hlk B [] rfl (rfl) dJ7_rangeCheck_23922_73 (by omega) (by omega) ⟨rfl, rfl⟩
      · exact absurd h2 c61
    · exact absurd (Nat.zero_le _) c47
  · exact absurd h1 c2
theorem yJ7_fill_fda19_J7_rangeCheck_23922 : yJ7_rangeCheck_23922.cls = RJ7 ∧ yJ7_rangeCheck_23922.cls ≠ "java/lang/invoke/MethodHandle" ∧ yJ7_rangeCheck_23922.cls ≠ "java/lang/invoke/VarHandle" ∧ (parseMethodDescriptor yJ7_rangeCheck_23922.desc).map (fun d => d.parameters.length) = some 3 := by decide +kernel
set_option maxHeartbeats 4000000 in
set_option maxRecDepth 100000 in
theorem kJ7_fill_fda19 (l : Launch) (D : va_G) (cI cZ cG cJ : ClassId) (a : Nat) (n : Nat) (f : Nat → Int32) (i : Nat) (j : Nat) (v : Int32) (h1 : i ≤ j) (h2 : j ≤ n) (h3 : n < 2 ^ 31) : zC l yJ7_fill_fda19 wsJ7_fill_fda19 1 22 0 0 D (zT cI cZ cG cJ) [.ref a, .int (nI i), .int (nI j), .int v] [(a, .inl (cI, n, .inl f))] (fun (ov : Option Value) (ow : va_W) => ov = none ∧ ow = [(a, .inl (cI, n, .inl (zfill f i j v)))]) := by
  refine zC.of (cc := cJ7_fill_fda19) (maxL := 5) (ret := none) (by decide) rfl (Nat.le_of_ble_eq_true rfl) ?_
  intro p e s m below meth c A ls F hr hlk hnm B hl
  have hl : lv_has ls 5 [(0, .ref a), (1, .int (nI i)), (2, .int (nI j)), (3, .int v)] := hl
  refine lv_aload_n F.1 F.2.1 dJ7_fill_fda19_0 rfl (lv_at hl 0 rfl) ?_
  refine z_alen F B 0 0 rfl rfl dJ7_fill_fda19_1 ?_
  refine lv_iload_n F.1 F.2.1 dJ7_fill_fda19_2 rfl (lv_at hl 1 rfl) ?_
  refine lv_iload_n F.1 F.2.1 dJ7_fill_fda19_3 rfl (lv_at hl 2 rfl) ?_
  refine z_callS (wr := [(a, .inl (cI, n, .inl f))]) (rest := []) (As := [.int (nI n), .int (nI i), .int (nI j)]) F B (kJ7_rangeCheck_23922 l D cI cZ cG cJ n i j (by omega) (by omega) (by omega)) hl.1 gJ7_fill_fda19_J7_rangeCheck_23922 rfl 3 yJ7_fill_fda19_J7_rangeCheck_23922 rfl [] [0] rfl rfl rfl rfl (by decide) (Nat.le_of_ble_eq_true rfl) (Nat.le_of_ble_eq_true rfl) (Nat.le_of_ble_eq_true rfl) rfl dJ7_fill_fda19_4 (show 0 + 0 ≤ 0 by omega) (show 0 + 0 ≤ 0 by omega) (fun vv ww H locs hRR B => ?_)
  obtain ⟨rfl, rfl⟩ := hRR
  have B : zB D (zT cI cZ cG cJ) A s.heap s [(a, .inl (cI, n, .inl f))] _ _ := B
  refine W.eq (g2 := F0 m 7 ls []) rfl ?_
  refine lv_iload_n F.1 F.2.1 dJ7_fill_fda19_7 rfl (lv_at hl 1 rfl) ?_
  refine lv_istore (lv' := [(4, .int (nI i)), (0, .ref a), (1, .int (nI i)), (2, .int (nI j)), (3, .int v)]) F.1 F.2.1 dJ7_fill_fda19_8 hl (by decide) rfl (fun ls hl => ?_)
  have loop10 : ∀ (fuel : Nat) (k : Nat), j - k < fuel → (i ≤ k) → (k ≤ j) → ∀ (H : Heap) (locs : List Loc) (ls : Array Slot), zB D (zT cI cZ cG cJ) A s.heap s [(a, .inl (cI, n, .inl (zfill f i k v)))] H locs → lv_has ls 5 [(0, .ref a), (1, .int (nI i)), (2, .int (nI j)), (3, .int v), (4, .int (nI k))] → W p l e { frames := 1, cells := 0, slots := 0, locals := 22 } s m [.ref a, .int (nI i), .int (nI j), .int v].toArray below meth c H locs 0 0 (zQ below [.ref a, .int (nI i), .int (nI j), .int v].toArray s D (zT cI cZ cG cJ) A (fun (ov : Option Value) (ow : va_W) => ov = none ∧ ow = [(a, .inl (cI, n, .inl (zfill f i j v)))]) 0 0) (F0 m 10 ls []) := by
    intro fuel
    induction fuel with
    | zero => intro k hmz; exact absurd hmz (Nat.not_lt_zero _)
    | succ fuel ih =>
      intro k hm hk1 hk2 H locs ls B hl
      have ih10 := ih
      refine lv_iload F.1 F.2.1 dJ7_fill_fda19_10 (lv_at hl 4 rfl) ?_
      refine lv_iload_n F.1 F.2.1 dJ7_fill_fda19_12 rfl (lv_at hl 2 rfl) ?_
      refine z_icmp_ge (tgt := 27) F (by omega) (by omega) dJ7_fill_fda19_13 (by decide) (fun c13 => ?_) (fun c13 => ?_)
      · exact z_vret F hr hlk B [0] rfl (by rw [show j = k by omega]; rfl) dJ7_fill_fda19_27 (by omega) (by omega) ⟨rfl, rfl⟩
      · refine lv_aload_n F.1 F.2.1 dJ7_fill_fda19_16 rfl (lv_at hl 0 rfl) ?_
        refine lv_iload F.1 F.2.1 dJ7_fill_fda19_17 (lv_at hl 4 rfl) ?_
        refine lv_iload_n F.1 F.2.1 dJ7_fill_fda19_19 rfl (lv_at hl 3 rfl) ?_
        refine z_iast F B 0 0 rfl rfl (j := k) (by omega) (by omega) dJ7_fill_fda19_20 (fun H locs B => ?_)
        have B : zB D (zT cI cZ cG cJ) A s.heap s [(a, .inl (cI, n, .inl (upd (zfill f i k v) k v)))] _ _ := B
        refine lv_iinc (v := (nI (k + 1))) (lv' := [(4, .int (nI (k + 1))), (0, .ref a), (1, .int (nI i)), (2, .int (nI j)), (3, .int v)]) F.1 F.2.1 dJ7_fill_fda19_21 hl (k := 4) rfl (by rw [show Int32.ofInt 1 = nI 1 from rfl, nI_add]) (by decide) rfl (fun ls hl => ?_)
        refine lv_goto (tgt := 10) F.1 F.2.1 dJ7_fill_fda19_24 (by decide) ?_
        exact ih10 (k + 1) (by first | omega | (simp only [] at *; omega)) (by omega) (by omega) _ _ _ (B.sub [0] rfl (by rw [← zfill_up hk1]; rfl)) (lv_sub hl [1, 2, 3, 4, 0] rfl)
  exact loop10 (j - i + 1) i (Nat.lt_succ_self _) (by omega) (by omega) _ _ _ (B.sub [0] rfl (by rw [zfill_0]; rfl)) (lv_sub hl [1, 2, 3, 4, 0] rfl)
set_option maxHeartbeats 4000000 in
set_option maxRecDepth 100000 in
theorem kJ7_fill_53178 (l : Launch) (D : va_G) (cI cZ cG cJ : ClassId) (a : Nat) (n : Nat) (f : Nat → Int32) (v : Int32) (h3 : n < 2 ^ 31) : zC l yJ7_fill_53178 wsJ7_fill_53178 0 0 0 0 D (zT cI cZ cG cJ) [.ref a, .int v] [(a, .inl (cI, n, .inl f))] (fun (ov : Option Value) (ow : va_W) => ov = none ∧ ow = [(a, .inl (cI, n, .inl (zfill f 0 n v)))]) := by
  refine zC.of (cc := cJ7_fill_53178) (maxL := 4) (ret := none) (by decide) rfl (Nat.le_of_ble_eq_true rfl) ?_
  intro p e s m below meth c A ls F hr hlk hnm B hl
  have hl : lv_has ls 4 [(0, .ref a), (1, .int v)] := hl
  refine lv_iconst (v := (nI 0)) F.1 F.2.1 dJ7_fill_53178_0 (by decide) ?_
  refine lv_istore_n (lv' := [(2, .int (nI 0)), (0, .ref a), (1, .int v)]) F.1 F.2.1 dJ7_fill_53178_1 rfl hl (by decide) rfl (fun ls hl => ?_)
  refine lv_aload_n F.1 F.2.1 dJ7_fill_53178_2 rfl (lv_at hl 1 rfl) ?_
  refine z_alen F B 0 0 rfl rfl dJ7_fill_53178_3 ?_
  refine lv_istore_n (lv' := [(3, .int (nI n)), (2, .int (nI 0)), (0, .ref a), (1, .int v)]) F.1 F.2.1 dJ7_fill_53178_4 rfl hl (by decide) rfl (fun ls hl => ?_)
  have loop5 : ∀ (fuel : Nat) (k : Nat), n - k < fuel → (k ≤ n) → ∀ (H : Heap) (locs : List Loc) (ls : Array Slot), zB D (zT cI cZ cG cJ) A s.heap s [(a, .inl (cI, n, .inl (zfill f 0 k v)))] H locs → lv_has ls 4 [(0, .ref a), (1, .int v), (2, .int (nI k)), (3, .int (nI n))] → W p l e { frames := 0, cells := 0, slots := 0, locals := 0 } s m [.ref a, .int v].toArray below meth c H locs 0 0 (zQ below [.ref a, .int v].toArray s D (zT cI cZ cG cJ) A (fun (ov : Option Value) (ow : va_W) => ov = none ∧ ow = [(a, .inl (cI, n, .inl (zfill f 0 n v)))]) 0 0) (F0 m 5 ls []) := by
    intro fuel
    induction fuel with
    | zero => intro k hmz; exact absurd hmz (Nat.not_lt_zero _)
    | succ fuel ih =>
      intro k hm hk2 H locs ls B hl
      have ih5 := ih
      refine lv_iload_n F.1 F.2.1 dJ7_fill_53178_5 rfl (lv_at hl 2 rfl) ?_
      refine lv_iload_n F.1 F.2.1 dJ7_fill_53178_6 rfl (lv_at hl 3 rfl) ?_
      refine z_icmp_ge (tgt := 20) F (by omega) (by omega) dJ7_fill_53178_7 (by decide) (fun c7 => ?_) (fun c7 => ?_)
      · exact z_vret F hr hlk B [0] rfl (by rw [show zfill f 0 n v = zfill f 0 k v by rw [show n = k by omega]]; rfl) dJ7_fill_53178_20 (by omega) (by omega) ⟨rfl, rfl⟩
      · refine lv_aload_n F.1 F.2.1 dJ7_fill_53178_10 rfl (lv_at hl 0 rfl) ?_
        refine lv_iload_n F.1 F.2.1 dJ7_fill_53178_11 rfl (lv_at hl 2 rfl) ?_
        refine lv_iload_n F.1 F.2.1 dJ7_fill_53178_12 rfl (lv_at hl 1 rfl) ?_
        refine z_iast F B 0 0 rfl rfl (j := k) (by omega) (by omega) dJ7_fill_53178_13 (fun H locs B => ?_)
        have B : zB D (zT cI cZ cG cJ) A s.heap s [(a, .inl (cI, n, .inl (upd (zfill f 0 k v) k v)))] _ _ := B
        refine lv_iinc (v := (nI (k + 1))) (lv' := [(2, .int (nI (k + 1))), (0, .ref a), (1, .int v), (3, .int (nI n))]) F.1 F.2.1 dJ7_fill_53178_14 hl (k := 2) rfl (by rw [show Int32.ofInt 1 = nI 1 from rfl, nI_add]) (by decide) rfl (fun ls hl => ?_)
        refine lv_goto (tgt := 5) F.1 F.2.1 dJ7_fill_53178_17 (by decide) ?_
        exact ih5 (k + 1) (by first | omega | (simp only [] at *; omega)) (by omega) _ _ _ (B.sub [0] rfl (by rw [← zfill_up (Nat.zero_le k)]; rfl)) (lv_sub hl [1, 2, 0, 3] rfl)
  exact loop5 (n - 0 + 1) 0 (Nat.lt_succ_self _) (by omega) _ _ _ (B.sub [0] rfl (by rw [zfill_0]; rfl)) (lv_sub hl [2, 3, 1, 0] rfl)
theorem mX7_roomFor_max1 : Cond.methodLink RX7 235 Lib.Math.max.name ∈ wsX7_roomFor := by decide +kernel
theorem mX7_roomFor_max2 : Cond.static Lib.Math.max.name ∈ wsX7_roomFor := by decide +kernel
theorem mX7_roomFor_max3 : Cond.initialized "java/lang/Math" ∈ wsX7_roomFor := by decide +kernel
theorem mX7_roomFor_max4 : Cond.code Lib.Math.max.name Lib.Math.max.code 2 (some .int) ∈ wsX7_roomFor := by decide +kernel
theorem mX7_roomFor_arr : Cond.arrayClass .int ∈ wsX7_roomFor := by decide +kernel
set_option maxHeartbeats 4000000 in
set_option maxRecDepth 100000 in
theorem kX7_roomFor (l : Launch) (D : va_G) (cI cZ cG cJ : ClassId) (a : Nat) (k : Nat) (f : Nat → Int32) (n : Nat) (h1 : k ≤ 1000000) (h2 : n ≤ 1000000) : zC l yX7_roomFor wsX7_roomFor 1 40 (zrm n k - k) (2 * (zrm n k - k)) D (zT cI cZ cG cJ) [.ref a, .int (nI n)] [(a, .inl (cI, k, .inl f))] (fun (ov : Option Value) (ow : va_W) => ∃ a' : Nat, ∃ f' : Nat → Int32, ov = some (.ref a') ∧ ow = [(a', .inl (cI, (zrm n k), .inl f'))]) := by
  refine zC.of (cc := cX7_roomFor) (maxL := 2) (ret := (some (.array .int))) (by decide) rfl (Nat.le_of_ble_eq_true rfl) ?_
  intro p e s m below meth c A ls F hr hlk hnm B hl
  have hl : lv_has ls 2 [(0, .ref a), (1, .int (nI n))] := hl
  refine lv_aload_n F.1 F.2.1 dX7_roomFor_0 rfl (lv_at hl 0 rfl) ?_
  refine z_alen F B 0 0 rfl rfl dX7_roomFor_1 ?_
  refine lv_iload_n F.1 F.2.1 dX7_roomFor_2 rfl (lv_at hl 1 rfl) ?_
  refine z_icmp_lt (tgt := 10) F (by omega) (by omega) dX7_roomFor_3 (by decide) (fun c3 => ?_) (fun c3 => ?_)
  · have hz : zrm n k = Nat.max n (2 * k) := zrm_gr (by omega)
    have hm1 : n ≤ Nat.max n (2 * k) := Nat.le_max_left _ _
    have hm2 : 2 * k ≤ Nat.max n (2 * k) := Nat.le_max_right _ _
    have hm3 : Nat.max n (2 * k) ≤ 2000000 := Nat.max_le.mpr ⟨by omega, by omega⟩
    refine lv_iload_n F.1 F.2.1 dX7_roomFor_10 rfl (lv_at hl 1 rfl) ?_
    refine lv_iconst (v := (nI 2)) F.1 F.2.1 dX7_roomFor_11 (by decide) ?_
    refine lv_aload_n F.1 F.2.1 dX7_roomFor_12 rfl (lv_at hl 0 rfl) ?_
    refine z_alen F B 0 0 rfl rfl dX7_roomFor_13 ?_
    refine z_imul F dX7_roomFor_14 ?_
    refine z_max F hl.1 mX7_roomFor_max1 mX7_roomFor_max2 mX7_roomFor_max3 mX7_roomFor_max4 (Nat.le_of_ble_eq_true rfl) (Nat.le_of_ble_eq_true rfl) (show 0 ≤ zrm n k - k by omega) (show 0 ≤ 2 * (zrm n k - k) by omega) (by omega) (by omega) dX7_roomFor_15 ?_
    refine W.eq (g2 := F0 m 18 ls [.int (nI (Nat.max n (2 * k)))]) rfl ?_
    refine z_newi F B 0 rfl mX7_roomFor_arr (n := (Nat.max n (2 * k))) (by omega) (show 0 + 1 ≤ zrm n k - k by omega) (show 0 + (Nat.max n (2 * k)) ≤ 2 * (zrm n k - k) by omega) dX7_roomFor_18 (fun q_1 H B => ?_)
    have B : zB D (zT cI cZ cG cJ) A s.heap s [(a, .inl (cI, k, .inl f)), (q_1, .inl (cI, (Nat.max n (2 * k)), .inl (fun _ => 0)))] _ _ := B
    exact z_aret F hr (Or.inr ⟨_, rfl⟩) hlk B [1] rfl (by rw [hz]; rfl) dX7_roomFor_20 (by omega) (by omega) ⟨q_1, (fun _ => 0), rfl, rfl⟩
  · have hz : zrm n k = k := zrm_id (by omega)
    refine lv_aload_n F.1 F.2.1 dX7_roomFor_6 rfl (lv_at hl 0 rfl) ?_
    refine lv_goto (tgt := 20) F.1 F.2.1 dX7_roomFor_7 (by decide) ?_
    exact z_aret F hr (Or.inr ⟨_, rfl⟩) hlk B [0] rfl (by rw [hz]; rfl) dX7_roomFor_20 (by omega) (by omega) ⟨a, f, rfl, rfl⟩
theorem iX2_join_X2 : ∀ w ∈ u_ws RX2 TX2 9, w ∈ wsX2_join := by decide +kernel
theorem fX2_join_7 : Cond.fieldLink RX2 7 "TourChain$Graph" "vertexAt" "[I" ∈ wsX2_join := by decide +kernel
set_option maxHeartbeats 4000000 in
set_option maxRecDepth 100000 in
theorem kX2_join (l : Launch) (D : va_G) (cI cZ cG cJ : ClassId) (go : Nat) (fo : Nat) (ve : Nat) (ed : Nat) (se : Nat) (ci : Nat) (gva : Nat) (gsi : Nat) (gsd : Nat) (gst : Nat) (cv : Nat) (fv : Nat → Int32) (x : Nat) (a1 : Nat) (a2 : Nat) (h1 : 2 * x + 1 < cv) (h2 : cv < 2 ^ 31) : zC l yX2_join wsX2_join 0 0 0 0 D (zT cI cZ cG cJ) [.ref go, .int (nI x), .int (nI a1), .int (nI a2)] [(go, .inr (4, [.ref fo, .int (nI ve), .int (nI ed), .int (nI se), .int (nI ci), .ref gva, .ref gsi, .ref gsd, .ref gst])), (gva, .inl (cI, cv, .inl fv))] (fun (ov : Option Value) (ow : va_W) => ov = none ∧ ow = [(go, .inr (4, [.ref fo, .int (nI ve), .int (nI ed), .int (nI se), .int (nI ci), .ref gva, .ref gsi, .ref gsd, .ref gst])), (gva, .inl (cI, cv, .inl (upd (upd fv (2 * x) (nI a1)) (2 * x + 1) (nI a2))))]) := by
  refine zC.of (cc := cX2_join) (maxL := 4) (ret := none) (by decide) rfl (Nat.le_of_ble_eq_true rfl) ?_
  intro p e s m below meth c A ls F hr hlk hnm B hl
  have hl : lv_has ls 4 [(0, .ref go), (1, .int (nI x)), (2, .int (nI a1)), (3, .int (nI a2))] := hl
  refine lv_aload_n F.1 F.2.1 dX2_join_0 rfl (lv_at hl 0 rfl) ?_
  refine z_get F B 0 rfl (ci := 4) (C := RX2) (T := TX2) (N := 9) rfl iX2_join_X2 5 (by decide) fX2_join_7 rfl dX2_join_1 ?_
  refine lv_iconst (v := (nI 2)) F.1 F.2.1 dX2_join_4 (by decide) ?_
  refine lv_iload_n F.1 F.2.1 dX2_join_5 rfl (lv_at hl 1 rfl) ?_
  refine z_imul F dX2_join_6 ?_
  refine lv_iload_n F.1 F.2.1 dX2_join_7 rfl (lv_at hl 2 rfl) ?_
  refine z_iast F B 1 0 rfl rfl (j := 2 * x) (by omega) (by omega) dX2_join_8 (fun H locs B => ?_)
  have B : zB D (zT cI cZ cG cJ) A s.heap s [(go, .inr (4, [.ref fo, .int (nI ve), .int (nI ed), .int (nI se), .int (nI ci), .ref gva, .ref gsi, .ref gsd, .ref gst])), (gva, .inl (cI, cv, .inl (upd fv (2 * x) (nI a1))))] _ _ := B
  refine lv_aload_n F.1 F.2.1 dX2_join_9 rfl (lv_at hl 0 rfl) ?_
  refine z_get F B 0 rfl (ci := 4) (C := RX2) (T := TX2) (N := 9) rfl iX2_join_X2 5 (by decide) fX2_join_7 rfl dX2_join_10 ?_
  refine lv_iconst (v := (nI 2)) F.1 F.2.1 dX2_join_13 (by decide) ?_
  refine lv_iload_n F.1 F.2.1 dX2_join_14 rfl (lv_at hl 1 rfl) ?_
  refine z_imul F dX2_join_15 ?_
  refine lv_iconst (v := (nI 1)) F.1 F.2.1 dX2_join_16 (by decide) ?_
  refine z_iadd F dX2_join_17 ?_
  refine lv_iload_n F.1 F.2.1 dX2_join_18 rfl (lv_at hl 3 rfl) ?_
  refine z_iast F B 1 0 rfl rfl (j := 2 * x + 1) (by omega) (by omega) dX2_join_19 (fun H locs B => ?_)
  have B : zB D (zT cI cZ cG cJ) A s.heap s [(go, .inr (4, [.ref fo, .int (nI ve), .int (nI ed), .int (nI se), .int (nI ci), .ref gva, .ref gsi, .ref gsd, .ref gst])), (gva, .inl (cI, cv, .inl (upd (upd fv (2 * x) (nI a1)) (2 * x + 1) (nI a2))))] _ _ := B
  exact z_vret F hr hlk B [0, 1] rfl (rfl) dX2_join_20 (by omega) (by omega) ⟨rfl, rfl⟩
theorem yX2_drawThree_X2_join : yX2_join.cls = RX2 ∧ yX2_join.cls ≠ "java/lang/invoke/MethodHandle" ∧ yX2_join.cls ≠ "java/lang/invoke/VarHandle" ∧ (parseMethodDescriptor yX2_join.desc).map (fun d => d.parameters.length) = some 3 := by decide +kernel
theorem iX2_drawThree_X2 : ∀ w ∈ u_ws RX2 TX2 9, w ∈ wsX2_drawThree := by decide +kernel
theorem fX2_drawThree_22 : Cond.fieldLink RX2 22 "TourChain$Graph" "formula" "LTourChain$Formula;" ∈ wsX2_drawThree := by decide +kernel
theorem yX2_drawThree_X0_literalOfThree : yX0_literalOfThree.cls = RX0 ∧ yX0_literalOfThree.cls ≠ "java/lang/invoke/MethodHandle" ∧ yX0_literalOfThree.cls ≠ "java/lang/invoke/VarHandle" ∧ (parseMethodDescriptor yX0_literalOfThree.desc).map (fun d => d.parameters.length) = some 2 := by decide +kernel
set_option maxHeartbeats 4000000 in
set_option maxRecDepth 100000 in
theorem kX2_drawThree (l : Launch) (D : va_G) (cI cZ cG cJ : ClassId) (go : Nat) (fo : Nat) (ve : Nat) (ed : Nat) (se : Nat) (ci : Nat) (gva : Nat) (gsi : Nat) (gsd : Nat) (gst : Nat) (mo : Nat) (pv : Nat) (v : Nat) (fh : Nat) (fs : Nat) (fk : Nat) (lo : Nat) (so : Nat) (to : Nat) (tw : Nat) (nt : Nat) (ct : Nat) (f3 : Nat → Int32) (L3 : List Nat) (cv : Nat) (fv : Nat → Int32) (j : Nat) (hR : zR f3 nt L3) (hwt : zW nt ct) (hj : 3 * j + 2 < nt) (h1 : 2 * (v + 6 * (j + 1)) ≤ cv) (h2 : cv < 2 ^ 31) (hv : ∀ d, d < 2 * (v + 6 * j) → fv d = nI (zva v L3 d)) : zC l yX2_drawThree wsX2_drawThree 1 23 0 0 D (zT cI cZ cG cJ) [.ref go, .int (nI j), .int (nI (v + 6 * j)), .int (nI (2 * v + 3 * j))] [(go, .inr (4, [.ref fo, .int (nI ve), .int (nI ed), .int (nI se), .int (nI ci), .ref gva, .ref gsi, .ref gsd, .ref gst])), (fo, .inr (2, [.ref mo, .int (nI pv), .int (nI v), .int (nI fh), .int (nI fs), .int (nI fk), .ref lo, .ref so, .ref to])), (to, .inr (6, [.ref tw, .int (nI nt)])), (tw, .inl (cI, ct, .inl f3)), (gva, .inl (cI, cv, .inl fv))] (fun (ov : Option Value) (ow : va_W) => ∃ fv' : Nat → Int32, ov = none ∧ ow = [(go, .inr (4, [.ref fo, .int (nI ve), .int (nI ed), .int (nI se), .int (nI ci), .ref gva, .ref gsi, .ref gsd, .ref gst])), (fo, .inr (2, [.ref mo, .int (nI pv), .int (nI v), .int (nI fh), .int (nI fs), .int (nI fk), .ref lo, .ref so, .ref to])), (to, .inr (6, [.ref tw, .int (nI nt)])), (tw, .inl (cI, ct, .inl f3)), (gva, .inl (cI, cv, .inl fv'))] ∧ (∀ d, d < 2 * (v + 6 * (j + 1)) → fv' d = nI (zva v L3 d))) := by
  refine zC.of (cc := cX2_drawThree) (maxL := 5) (ret := none) (by decide) rfl (Nat.le_of_ble_eq_true rfl) ?_
  intro p e s m below meth c A ls F hr hlk hnm B hl
  have hl : lv_has ls 5 [(0, .ref go), (1, .int (nI j)), (2, .int (nI (v + 6 * j))), (3, .int (nI (2 * v + 3 * j)))] := hl
  refine lv_aload_n F.1 F.2.1 dX2_drawThree_0 rfl (lv_at hl 0 rfl) ?_
  refine lv_iload_n F.1 F.2.1 dX2_drawThree_1 rfl (lv_at hl 2 rfl) ?_
  refine lv_iload_n F.1 F.2.1 dX2_drawThree_2 rfl (lv_at hl 3 rfl) ?_
  refine lv_iload_n F.1 F.2.1 dX2_drawThree_3 rfl (lv_at hl 3 rfl) ?_
  refine lv_iconst (v := (nI 1)) F.1 F.2.1 dX2_drawThree_4 (by decide) ?_
  refine z_iadd F dX2_drawThree_5 ?_
  refine z_callV (wr := [(fo, .inr (2, [.ref mo, .int (nI pv), .int (nI v), .int (nI fh), .int (nI fs), .int (nI fk), .ref lo, .ref so, .ref to])), (to, .inr (6, [.ref tw, .int (nI nt)])), (tw, .inl (cI, ct, .inl f3))]) (rest := []) (As := [.int (nI (v + 6 * j)), .int (nI (2 * v + 3 * j)), .int (nI (2 * v + 3 * j + 1))]) F B (kX2_join l D cI cZ cG cJ go fo ve ed se ci gva gsi gsd gst cv fv (v + 6 * j) (2 * v + 3 * j) (2 * v + 3 * j + 1) (by omega) (by omega)) hl.1 (C := RX2) (T := TX2) (N := 9) (ci := 4) (q0 := 0) gX2_drawThree_X2_join rfl 3 yX2_drawThree_X2_join rfl rfl rfl [0, 4] [1, 2, 3] rfl rfl rfl rfl (by decide) (Nat.le_of_ble_eq_true rfl) (Nat.le_of_ble_eq_true rfl) (Nat.le_of_ble_eq_true rfl) rfl dX2_drawThree_6 (show 0 + 0 ≤ 0 by omega) (show 0 + 0 ≤ 0 by omega) (fun vv ww H locs hRR B => ?_)
  obtain ⟨rfl, rfl⟩ := hRR
  have B : zB D (zT cI cZ cG cJ) A s.heap s [(fo, .inr (2, [.ref mo, .int (nI pv), .int (nI v), .int (nI fh), .int (nI fs), .int (nI fk), .ref lo, .ref so, .ref to])), (to, .inr (6, [.ref tw, .int (nI nt)])), (tw, .inl (cI, ct, .inl f3)), (go, .inr (4, [.ref fo, .int (nI ve), .int (nI ed), .int (nI se), .int (nI ci), .ref gva, .ref gsi, .ref gsd, .ref gst])), (gva, .inl (cI, cv, .inl (upd (upd fv (2 * (v + 6 * j)) (nI (2 * v + 3 * j))) (2 * (v + 6 * j) + 1) (nI (2 * v + 3 * j + 1)))))] _ _ := B
  refine W.eq (g2 := F0 m 9 ls []) rfl ?_
  refine lv_aload_n F.1 F.2.1 dX2_drawThree_9 rfl (lv_at hl 0 rfl) ?_
  refine lv_iload_n F.1 F.2.1 dX2_drawThree_10 rfl (lv_at hl 2 rfl) ?_
  refine lv_iconst (v := (nI 1)) F.1 F.2.1 dX2_drawThree_11 (by decide) ?_
  refine z_iadd F dX2_drawThree_12 ?_
  refine lv_iload_n F.1 F.2.1 dX2_drawThree_13 rfl (lv_at hl 3 rfl) ?_
  refine lv_iconst (v := (nI 1)) F.1 F.2.1 dX2_drawThree_14 (by decide) ?_
  refine z_iadd F dX2_drawThree_15 ?_
  refine lv_iload_n F.1 F.2.1 dX2_drawThree_16 rfl (lv_at hl 3 rfl) ?_
  refine lv_iconst (v := (nI 2)) F.1 F.2.1 dX2_drawThree_17 (by decide) ?_
  refine z_iadd F dX2_drawThree_18 ?_
  refine z_callV (wr := [(fo, .inr (2, [.ref mo, .int (nI pv), .int (nI v), .int (nI fh), .int (nI fs), .int (nI fk), .ref lo, .ref so, .ref to])), (to, .inr (6, [.ref tw, .int (nI nt)])), (tw, .inl (cI, ct, .inl f3))]) (rest := []) (As := [.int (nI (v + 6 * j + 1)), .int (nI (2 * v + 3 * j + 1)), .int (nI (2 * v + 3 * j + 2))]) F B (kX2_join l D cI cZ cG cJ go fo ve ed se ci gva gsi gsd gst cv (upd (upd fv (2 * (v + 6 * j)) (nI (2 * v + 3 * j))) (2 * (v + 6 * j) + 1) (nI (2 * v + 3 * j + 1))) (v + 6 * j + 1) (2 * v + 3 * j + 1) (2 * v + 3 * j + 2) (by omega) (by omega)) hl.1 (C := RX2) (T := TX2) (N := 9) (ci := 4) (q0 := 3) gX2_drawThree_X2_join rfl 3 yX2_drawThree_X2_join rfl rfl rfl [3, 4] [0, 1, 2] rfl rfl rfl rfl (by decide) (Nat.le_of_ble_eq_true rfl) (Nat.le_of_ble_eq_true rfl) (Nat.le_of_ble_eq_true rfl) rfl dX2_drawThree_19 (show 0 + 0 ≤ 0 by omega) (show 0 + 0 ≤ 0 by omega) (fun vv ww H locs hRR B => ?_)
  obtain ⟨rfl, rfl⟩ := hRR
  have B : zB D (zT cI cZ cG cJ) A s.heap s [(fo, .inr (2, [.ref mo, .int (nI pv), .int (nI v), .int (nI fh), .int (nI fs), .int (nI fk), .ref lo, .ref so, .ref to])), (to, .inr (6, [.ref tw, .int (nI nt)])), (tw, .inl (cI, ct, .inl f3)), (go, .inr (4, [.ref fo, .int (nI ve), .int (nI ed), .int (nI se), .int (nI ci), .ref gva, .ref gsi, .ref gsd, .ref gst])), (gva, .inl (cI, cv, .inl (upd (upd (upd (upd fv (2 * (v + 6 * j)) (nI (2 * v + 3 * j))) (2 * (v + 6 * j) + 1) (nI (2 * v + 3 * j + 1))) (2 * (v + 6 * j + 1)) (nI (2 * v + 3 * j + 1))) (2 * (v + 6 * j + 1) + 1) (nI (2 * v + 3 * j + 2)))))] _ _ := B
  refine W.eq (g2 := F0 m 22 ls []) rfl ?_
  refine lv_aload_n F.1 F.2.1 dX2_drawThree_22 rfl (lv_at hl 0 rfl) ?_
  refine lv_iload_n F.1 F.2.1 dX2_drawThree_23 rfl (lv_at hl 2 rfl) ?_
  refine lv_iconst (v := (nI 2)) F.1 F.2.1 dX2_drawThree_24 (by decide) ?_
  refine z_iadd F dX2_drawThree_25 ?_
  refine lv_iload_n F.1 F.2.1 dX2_drawThree_26 rfl (lv_at hl 3 rfl) ?_
  refine lv_iload_n F.1 F.2.1 dX2_drawThree_27 rfl (lv_at hl 3 rfl) ?_
  refine lv_iconst (v := (nI 2)) F.1 F.2.1 dX2_drawThree_28 (by decide) ?_
  refine z_iadd F dX2_drawThree_29 ?_
  refine z_callV (wr := [(fo, .inr (2, [.ref mo, .int (nI pv), .int (nI v), .int (nI fh), .int (nI fs), .int (nI fk), .ref lo, .ref so, .ref to])), (to, .inr (6, [.ref tw, .int (nI nt)])), (tw, .inl (cI, ct, .inl f3))]) (rest := []) (As := [.int (nI (v + 6 * j + 2)), .int (nI (2 * v + 3 * j)), .int (nI (2 * v + 3 * j + 2))]) F B (kX2_join l D cI cZ cG cJ go fo ve ed se ci gva gsi gsd gst cv (upd (upd (upd (upd fv (2 * (v + 6 * j)) (nI (2 * v + 3 * j))) (2 * (v + 6 * j) + 1) (nI (2 * v + 3 * j + 1))) (2 * (v + 6 * j + 1)) (nI (2 * v + 3 * j + 1))) (2 * (v + 6 * j + 1) + 1) (nI (2 * v + 3 * j + 2))) (v + 6 * j + 2) (2 * v + 3 * j) (2 * v + 3 * j + 2) (by omega) (by omega)) hl.1 (C := RX2) (T := TX2) (N := 9) (ci := 4) (q0 := 3) gX2_drawThree_X2_join rfl 3 yX2_drawThree_X2_join rfl rfl rfl [3, 4] [0, 1, 2] rfl rfl rfl rfl (by decide) (Nat.le_of_ble_eq_true rfl) (Nat.le_of_ble_eq_true rfl) (Nat.le_of_ble_eq_true rfl) rfl dX2_drawThree_30 (show 0 + 0 ≤ 0 by omega) (show 0 + 0 ≤ 0 by omega) (fun vv ww H locs hRR B => ?_)
  obtain ⟨rfl, rfl⟩ := hRR
  have B : zB D (zT cI cZ cG cJ) A s.heap s [(fo, .inr (2, [.ref mo, .int (nI pv), .int (nI v), .int (nI fh), .int (nI fs), .int (nI fk), .ref lo, .ref so, .ref to])), (to, .inr (6, [.ref tw, .int (nI nt)])), (tw, .inl (cI, ct, .inl f3)), (go, .inr (4, [.ref fo, .int (nI ve), .int (nI ed), .int (nI se), .int (nI ci), .ref gva, .ref gsi, .ref gsd, .ref gst])), (gva, .inl (cI, cv, .inl (upd (upd (upd (upd (upd (upd fv (2 * (v + 6 * j)) (nI (2 * v + 3 * j))) (2 * (v + 6 * j) + 1) (nI (2 * v + 3 * j + 1))) (2 * (v + 6 * j + 1)) (nI (2 * v + 3 * j + 1))) (2 * (v + 6 * j + 1) + 1) (nI (2 * v + 3 * j + 2))) (2 * (v + 6 * j + 2)) (nI (2 * v + 3 * j))) (2 * (v + 6 * j + 2) + 1) (nI (2 * v + 3 * j + 2)))))] _ _ := B
  refine W.eq (g2 := F0 m 33 ls []) rfl ?_
  refine lv_iconst (v := (nI 0)) F.1 F.2.1 dX2_drawThree_33 (by decide) ?_
  refine lv_istore (lv' := [(4, .int (nI 0)), (0, .ref go), (1, .int (nI j)), (2, .int (nI (v + 6 * j))), (3, .int (nI (2 * v + 3 * j)))]) F.1 F.2.1 dX2_drawThree_34 hl (by decide) rfl (fun ls hl => ?_)
  have loop36 : ∀ (fuel : Nat) (i : Nat) (fv1 : Nat → Int32), 3 - i < fuel → (i ≤ 3) → (∀ d, d < 2 * (v + 6 * j + 3 + i) → fv1 d = nI (zva v L3 d)) → ∀ (H : Heap) (locs : List Loc) (ls : Array Slot), zB D (zT cI cZ cG cJ) A s.heap s [(go, .inr (4, [.ref fo, .int (nI ve), .int (nI ed), .int (nI se), .int (nI ci), .ref gva, .ref gsi, .ref gsd, .ref gst])), (fo, .inr (2, [.ref mo, .int (nI pv), .int (nI v), .int (nI fh), .int (nI fs), .int (nI fk), .ref lo, .ref so, .ref to])), (to, .inr (6, [.ref tw, .int (nI nt)])), (tw, .inl (cI, ct, .inl f3)), (gva, .inl (cI, cv, .inl fv1))] H locs → lv_has ls 5 [(0, .ref go), (1, .int (nI j)), (2, .int (nI (v + 6 * j))), (3, .int (nI (2 * v + 3 * j))), (4, .int (nI i))] → W p l e { frames := 1, cells := 0, slots := 0, locals := 23 } s m [.ref go, .int (nI j), .int (nI (v + 6 * j)), .int (nI (2 * v + 3 * j))].toArray below meth c H locs 0 0 (zQ below [.ref go, .int (nI j), .int (nI (v + 6 * j)), .int (nI (2 * v + 3 * j))].toArray s D (zT cI cZ cG cJ) A (fun (ov : Option Value) (ow : va_W) => ∃ fv' : Nat → Int32, ov = none ∧ ow = [(go, .inr (4, [.ref fo, .int (nI ve), .int (nI ed), .int (nI se), .int (nI ci), .ref gva, .ref gsi, .ref gsd, .ref gst])), (fo, .inr (2, [.ref mo, .int (nI pv), .int (nI v), .int (nI fh), .int (nI fs), .int (nI fk), .ref lo, .ref so, .ref to])), (to, .inr (6, [.ref tw, .int (nI nt)])), (tw, .inl (cI, ct, .inl f3)), (gva, .inl (cI, cv, .inl fv'))] ∧ (∀ d, d < 2 * (v + 6 * (j + 1)) → fv' d = nI (zva v L3 d))) 0 0) (F0 m 36 ls []) := by
    intro fuel
    induction fuel with
    | zero => intro i fv1 hmz; exact absurd hmz (Nat.not_lt_zero _)
    | succ fuel ih =>
      intro i fv1 hm hi hv1 H locs ls B hl
      have ih36 := ih
      refine lv_iload F.1 F.2.1 dX2_drawThree_36 (lv_at hl 4 rfl) ?_
      refine lv_iconst (v := (nI 3)) F.1 F.2.1 dX2_drawThree_38 (by decide) ?_
      refine z_icmp_ge (tgt := 72) F (by omega) (by omega) dX2_drawThree_39 (by decide) (fun c39 => ?_) (fun c39 => ?_)
      · exact z_vret F hr hlk B [0, 1, 2, 3, 4] rfl (rfl) dX2_drawThree_72 (by omega) (by omega) ⟨fv1, rfl, rfl, (fun d hd => hv1 d (by omega))⟩
      · refine lv_aload_n F.1 F.2.1 dX2_drawThree_42 rfl (lv_at hl 0 rfl) ?_
        refine lv_iload_n F.1 F.2.1 dX2_drawThree_43 rfl (lv_at hl 2 rfl) ?_
        refine lv_iconst (v := (nI 3)) F.1 F.2.1 dX2_drawThree_44 (by decide) ?_
        refine z_iadd F dX2_drawThree_45 ?_
        refine lv_iload F.1 F.2.1 dX2_drawThree_46 (lv_at hl 4 rfl) ?_
        refine z_iadd F dX2_drawThree_48 ?_
        refine lv_iload_n F.1 F.2.1 dX2_drawThree_49 rfl (lv_at hl 3 rfl) ?_
        refine lv_iload F.1 F.2.1 dX2_drawThree_50 (lv_at hl 4 rfl) ?_
        refine z_iadd F dX2_drawThree_52 ?_
        refine lv_aload_n F.1 F.2.1 dX2_drawThree_53 rfl (lv_at hl 0 rfl) ?_
        refine z_get F B 0 rfl (ci := 4) (C := RX2) (T := TX2) (N := 9) rfl iX2_drawThree_X2 0 (by decide) fX2_drawThree_22 rfl dX2_drawThree_54 ?_
        refine lv_iload_n F.1 F.2.1 dX2_drawThree_57 rfl (lv_at hl 1 rfl) ?_
        refine lv_iload F.1 F.2.1 dX2_drawThree_58 (lv_at hl 4 rfl) ?_
        refine z_callV (wr := [(go, .inr (4, [.ref fo, .int (nI ve), .int (nI ed), .int (nI se), .int (nI ci), .ref gva, .ref gsi, .ref gsd, .ref gst])), (gva, .inl (cI, cv, .inl fv1))]) (rest := [.int (nI (2 * v + 3 * j + i)), .int (nI (v + 6 * j + 3 + i)), .ref go]) (As := [.int (nI j), .int (nI i)]) F B (kX0_literalOfThree l D cI cZ cG cJ fo mo pv v fh fs fk lo so to tw nt ct f3 L3 j i (hR) (hwt) (by omega)) hl.1 (C := RX0) (T := TX0) (N := 9) (ci := 2) (q0 := 1) gX2_drawThree_X0_literalOfThree rfl 2 yX2_drawThree_X0_literalOfThree rfl rfl rfl [1, 2, 3] [0, 4] rfl rfl rfl rfl (by decide) (Nat.le_of_ble_eq_true rfl) (Nat.le_of_ble_eq_true rfl) (Nat.le_of_ble_eq_true rfl) rfl dX2_drawThree_60 (show 0 + 0 ≤ 0 by omega) (show 0 + 0 ≤ 0 by omega) (fun vv ww H locs hRR B => ?_)
        obtain ⟨rfl, rfl⟩ := hRR
        have B : zB D (zT cI cZ cG cJ) A s.heap s [(go, .inr (4, [.ref fo, .int (nI ve), .int (nI ed), .int (nI se), .int (nI ci), .ref gva, .ref gsi, .ref gsd, .ref gst])), (gva, .inl (cI, cv, .inl fv1)), (fo, .inr (2, [.ref mo, .int (nI pv), .int (nI v), .int (nI fh), .int (nI fs), .int (nI fk), .ref lo, .ref so, .ref to])), (to, .inr (6, [.ref tw, .int (nI nt)])), (tw, .inl (cI, ct, .inl f3))] _ _ := B
        refine W.eq (g2 := F0 m 63 ls [.int (nI (L3.getD (3 * j + i) 0)), .int (nI (2 * v + 3 * j + i)), .int (nI (v + 6 * j + 3 + i)), .ref go]) rfl ?_
        refine z_callV (wr := [(fo, .inr (2, [.ref mo, .int (nI pv), .int (nI v), .int (nI fh), .int (nI fs), .int (nI fk), .ref lo, .ref so, .ref to])), (to, .inr (6, [.ref tw, .int (nI nt)])), (tw, .inl (cI, ct, .inl f3))]) (rest := []) (As := [.int (nI (v + 6 * j + 3 + i)), .int (nI (2 * v + 3 * j + i)), .int (nI (L3.getD (3 * j + i) 0))]) F B (kX2_join l D cI cZ cG cJ go fo ve ed se ci gva gsi gsd gst cv fv1 (v + 6 * j + 3 + i) (2 * v + 3 * j + i) (L3.getD (3 * j + i) 0) (by omega) (by omega)) hl.1 (C := RX2) (T := TX2) (N := 9) (ci := 4) (q0 := 0) gX2_drawThree_X2_join rfl 3 yX2_drawThree_X2_join rfl rfl rfl [0, 1] [2, 3, 4] rfl rfl rfl rfl (by decide) (Nat.le_of_ble_eq_true rfl) (Nat.le_of_ble_eq_true rfl) (Nat.le_of_ble_eq_true rfl) rfl dX2_drawThree_63 (show 0 + 0 ≤ 0 by omega) (show 0 + 0 ≤ 0 by omega) (fun vv ww H locs hRR B => ?_)
        obtain ⟨rfl, rfl⟩ := hRR
        have B : zB D (zT cI cZ cG cJ) A s.heap s [(fo, .inr (2, [.ref mo, .int (nI pv), .int (nI v), .int (nI fh), .int (nI fs), .int (nI fk), .ref lo, .ref so, .ref to])), (to, .inr (6, [.ref tw, .int (nI nt)])), (tw, .inl (cI, ct, .inl f3)), (go, .inr (4, [.ref fo, .int (nI ve), .int (nI ed), .int (nI se), .int (nI ci), .ref gva, .ref gsi, .ref gsd, .ref gst])), (gva, .inl (cI, cv, .inl (upd (upd fv1 (2 * (v + 6 * j + 3 + i)) (nI (2 * v + 3 * j + i))) (2 * (v + 6 * j + 3 + i) + 1) (nI (L3.getD (3 * j + i) 0)))))] _ _ := B
        refine W.eq (g2 := F0 m 66 ls []) rfl ?_
        refine lv_iinc (v := (nI (i + 1))) (lv' := [(4, .int (nI (i + 1))), (0, .ref go), (1, .int (nI j)), (2, .int (nI (v + 6 * j))), (3, .int (nI (2 * v + 3 * j)))]) F.1 F.2.1 dX2_drawThree_66 hl (k := 4) rfl (by rw [show Int32.ofInt 1 = nI 1 from rfl, nI_add]) (by decide) rfl (fun ls hl => ?_)
        refine lv_goto (tgt := 36) F.1 F.2.1 dX2_drawThree_69 (by decide) ?_
        exact ih36 (i + 1) (upd (upd fv1 (2 * (v + 6 * j + 3 + i)) (nI (2 * v + 3 * j + i))) (2 * (v + 6 * j + 3 + i) + 1) (nI (L3.getD (3 * j + i) 0))) (by first | omega | (simp only [] at *; omega)) (by omega) (zva_join hv1 (z3_ia v L3 j i (by omega)).symm (z3_ib v L3 j i (by omega)).symm) _ _ _ (B.sub [3, 0, 1, 2, 4] rfl (rfl)) (lv_sub hl [1, 2, 3, 4, 0] rfl)
  exact loop36 (3 - 0 + 1) 0 (upd (upd (upd (upd (upd (upd fv (2 * (v + 6 * j)) (nI (2 * v + 3 * j))) (2 * (v + 6 * j) + 1) (nI (2 * v + 3 * j + 1))) (2 * (v + 6 * j + 1)) (nI (2 * v + 3 * j + 1))) (2 * (v + 6 * j + 1) + 1) (nI (2 * v + 3 * j + 2))) (2 * (v + 6 * j + 2)) (nI (2 * v + 3 * j))) (2 * (v + 6 * j + 2) + 1) (nI (2 * v + 3 * j + 2))) (Nat.lt_succ_self _) (by omega) (zva_join (zva_join (zva_join hv (z3_0a v L3 j).symm (z3_0b v L3 j).symm) (z3_1a v L3 j).symm (z3_1b v L3 j).symm) (z3_2a v L3 j).symm (z3_2b v L3 j).symm) _ _ _ (B.sub [3, 0, 1, 2, 4] rfl (rfl)) (lv_sub hl [1, 2, 3, 4, 0] rfl)
theorem iX2_firstSelector_X2 : ∀ w ∈ u_ws RX2 TX2 9, w ∈ wsX2_firstSelector := by decide +kernel
theorem fX2_firstSelector_26 : Cond.fieldLink RX2 26 "TourChain$Graph" "edges" "I" ∈ wsX2_firstSelector := by decide +kernel
set_option maxHeartbeats 4000000 in
set_option maxRecDepth 100000 in
theorem kX2_firstSelector (l : Launch) (D : va_G) (cI cZ cG cJ : ClassId) (go : Nat) (fo : Nat) (ve : Nat) (ed : Nat) (se : Nat) (ci : Nat) (gva : Nat) (gsi : Nat) (gsd : Nat) (gst : Nat)  : zC l yX2_firstSelector wsX2_firstSelector 0 0 0 0 D (zT cI cZ cG cJ) [.ref go] [(go, .inr (4, [.ref fo, .int (nI ve), .int (nI ed), .int (nI se), .int (nI ci), .ref gva, .ref gsi, .ref gsd, .ref gst]))] (fun (ov : Option Value) (ow : va_W) => ov = some (.int (nI (12 * ed))) ∧ ow = [(go, .inr (4, [.ref fo, .int (nI ve), .int (nI ed), .int (nI se), .int (nI ci), .ref gva, .ref gsi, .ref gsd, .ref gst]))]) := by
  refine zC.of (cc := cX2_firstSelector) (maxL := 1) (ret := (some .int)) (by decide) rfl (Nat.le_of_ble_eq_true rfl) ?_
  intro p e s m below meth c A ls F hr hlk hnm B hl
  have hl : lv_has ls 1 [(0, .ref go)] := hl
  refine lv_bipush (v := (nI 12)) F.1 F.2.1 dX2_firstSelector_0 (by decide) ?_
  refine lv_aload_n F.1 F.2.1 dX2_firstSelector_2 rfl (lv_at hl 0 rfl) ?_
  refine z_get F B 0 rfl (ci := 4) (C := RX2) (T := TX2) (N := 9) rfl iX2_firstSelector_X2 2 (by decide) fX2_firstSelector_26 rfl dX2_firstSelector_3 ?_
  refine z_imul F dX2_firstSelector_6 ?_
  exact z_iret F hr hlk B [0] rfl (rfl) dX2_firstSelector_7 (by omega) (by omega) ⟨rfl, rfl⟩
