/-! CONTRACTS of the reference: turnRound, turn -/
theorem zsub1 {n k : Nat} (hn : n < 2 ^ 30) (hk : k < 2 ^ 30) : nI n - nI 1 ≤ nI k ↔ n ≤ k + 1 := by
  have e := pk_sub_toInt (a := n) (b := 1) hn (by decide)
  have e2 := nI_toInt (n := k) (by omega)
  rw [Int32.le_iff_toInt_le, e, e2]
  omega
/-- the places lw .. hx - 1 turned round -/
def zrv (lw hx i : Nat) : Nat := if lw ≤ i ∧ i < hx then lw + hx - 1 - i else i
/-- the same, k steps from both ends -/
def zrw (lw hx k i : Nat) : Nat := if (lw ≤ i ∧ i < lw + k) ∨ (hx - k ≤ i ∧ i < hx) then lw + hx - 1 - i else i
theorem zrw_0 {lw hx i : Nat} : zrw lw hx 0 i = i := by
  unfold zrw
  rw [if_neg (by omega)]
theorem zrw_e {lw hx k bx i : Nat} (h : bx + k = hx) (h1 : lw + k ≤ bx + 1) (h2 : bx ≤ lw + k + 1) : zrw lw hx k i = zrv lw hx i := by
  unfold zrw zrv
  by_cases q : lw ≤ i ∧ i < hx
  · rw [if_pos q]
    by_cases q2 : (lw ≤ i ∧ i < lw + k) ∨ (hx - k ≤ i ∧ i < hx)
    · rw [if_pos q2]
    · rw [if_neg q2]
      omega
  · rw [if_neg q, if_neg (by omega)]
theorem zrw_S {lw hx k bx : Nat} {f g : Nat → Int32} (h : bx + k = hx) (h1 : lw + k + 1 < bx) (hg : ∀ i, g i = f (zrw lw hx k i)) : ∀ i, upd (upd g (lw + k) (g (bx - 1))) (bx - 1) (g (lw + k)) i = f (zrw lw hx (k + 1) i) := by
  intro i
  by_cases e : i = bx - 1
  · subst e
    rw [pk_us, hg]
    congr 1
    unfold zrw
    rw [if_neg (by omega), if_pos (by omega)]
    omega
  · rw [pk_un e]
    by_cases e2 : i = lw + k
    · subst e2
      rw [pk_us, hg]
      congr 1
      unfold zrw
      rw [if_neg (by omega), if_pos (by omega)]
      omega
    · rw [pk_un e2, hg]
      congr 1
      unfold zrw
      by_cases q : (lw ≤ i ∧ i < lw + k) ∨ (hx - k ≤ i ∧ i < hx)
      · rw [if_pos q, if_pos (by omega)]
      · rw [if_neg q, if_neg (by omega)]
theorem zrv_3 {n m i : Nat} (hi : i < n) (hm : m < n) : zrv 0 m (zrv m n (zrv 0 n i)) = (m + i) % n := by
  have e1 : zrv 0 n i = n - 1 - i := by
    unfold zrv
    rw [if_pos (by omega)]
    omega
  rw [e1]
  by_cases q : m + i < n
  · have e2 : zrv m n (n - 1 - i) = m + i := by
      unfold zrv
      rw [if_pos (by omega)]
      omega
    rw [e2, Nat.mod_eq_of_lt q]
    unfold zrv
    rw [if_neg (by omega)]
  · have e2 : zrv m n (n - 1 - i) = n - 1 - i := by
      unfold zrv
      rw [if_neg (by omega)]
    rw [e2, show m + i = (m + i - n) + n by omega, Nat.add_mod_right, Nat.mod_eq_of_lt (by omega)]
    unfold zrv
    rw [if_pos (by omega)]
    omega
theorem zrv_4 {n m i : Nat} (hi : i < n) (hm : m < n) : zrv 0 m (zrv m n (zrv 0 n (zrv 0 n i))) = (m + (n - 1 - i)) % n := by
  have e1 : zrv 0 n i = n - 1 - i := by
    unfold zrv
    rw [if_pos (by omega)]
    omega
  rw [e1, zrv_3 (by omega) hm]
theorem iX8_turnRound_X8 : ∀ w ∈ u_ws RX8 TX8 37, w ∈ wsX8_turnRound := fun w h => List.mem_cons_of_mem _ (List.mem_append_right _ h)
theorem fX8_turnRound_73 : Cond.fieldLink RX8 73 "TourChainModel" "trip" "[I" ∈ wsX8_turnRound := by decide +kernel
set_option maxHeartbeats 4000000 in
set_option maxRecDepth 100000 in
theorem kX8_turnRound (l : Launch) (D : va_G) (cI cZ cG cJ : ClassId) (mm : Nat) (th : Nat) (q : Nat) (g : Nat) (t : Nat) (r : Nat) (mb : Nat) (nc : Nat) (nl : Nat) (pv : Nat) (va : Nat) (n3 : Nat) (ve : Nat) (ed : Nat) (se : Nat) (ci : Nat) (mr : Nat) (mt : Nat) (ld : Nat) (A8 : Nat → Nat) (ftp : Nat → Int32) (lw : Nat) (hx : Nat) (hlw : lw ≤ hx) (hhx : hx ≤ 47000) : zC l yX8_turnRound wsX8_turnRound 0 0 0 0 D (zT cI cZ cG cJ) [.ref mm, .int (nI lw), .int (nI hx - nI 1)] [(mm, .inr (10, zmo (nI th) (nI q) (nI g) (nI t) (nI r) (nI mb) (nI nc) (nI nl) (nI pv) (nI va) (nI n3) (nI ve) (nI ed) (nI se) (nI ci) (nI mr) (nI mt) (nI ld) A8)), (A8 17, .inl (cI, 47000, .inl ftp))] (fun (ov : Option Value) (ow : va_W) => ∃ ftp' : Nat → Int32, ov = none ∧ ow = [(mm, .inr (10, zmo (nI th) (nI q) (nI g) (nI t) (nI r) (nI mb) (nI nc) (nI nl) (nI pv) (nI va) (nI n3) (nI ve) (nI ed) (nI se) (nI ci) (nI mr) (nI mt) (nI ld) A8)), (A8 17, .inl (cI, 47000, .inl ftp'))] ∧ (∀ i, ftp' i = ftp (zrv lw hx i))) := by
  refine zC.of (cc := cX8_turnRound) (maxL := 6) (ret := none) (by decide) rfl (Nat.le_of_ble_eq_true rfl) ?_
  intro p e s m below meth c A ls F hr hlk hnm B hl
  have hl : lv_has ls 6 [(0, .ref mm), (1, .int (nI lw)), (2, .int (nI hx - nI 1))] := hl
  refine lv_iload_n F.1 F.2.1 dX8_turnRound_0 rfl (lv_at hl 1 rfl) ?_
  refine lv_istore_n (lv' := [(3, .int (nI lw)), (0, .ref mm), (1, .int (nI lw)), (2, .int (nI hx - nI 1))]) F.1 F.2.1 dX8_turnRound_1 rfl hl (by decide) rfl (fun ls hl => ?_)
  refine lv_iload_n F.1 F.2.1 dX8_turnRound_2 rfl (lv_at hl 3 rfl) ?_
  refine lv_istore (lv' := [(4, .int (nI hx - nI 1)), (3, .int (nI lw)), (0, .ref mm), (1, .int (nI lw)), (2, .int (nI hx - nI 1))]) F.1 F.2.1 dX8_turnRound_3 hl (by decide) rfl (fun ls hl => ?_)
  have loop5 : ∀ (fuel : Nat) (k : Nat) (bx : Nat) (ftp1 : Nat → Int32), bx < fuel → (bx + k = hx) → (lw + k ≤ bx + 1) → (∀ i, ftp1 i = ftp (zrw lw hx k i)) → ∀ (H : Heap) (locs : List Loc) (ls : Array Slot), zB D (zT cI cZ cG cJ) A s.heap s [(mm, .inr (10, zmo (nI th) (nI q) (nI g) (nI t) (nI r) (nI mb) (nI nc) (nI nl) (nI pv) (nI va) (nI n3) (nI ve) (nI ed) (nI se) (nI ci) (nI mr) (nI mt) (nI ld) A8)), (A8 17, .inl (cI, 47000, .inl ftp1))] H locs → lv_has ls 6 [(0, .ref mm), (3, .int (nI (lw + k))), (4, .int (nI bx - nI 1))] → W p l e { frames := 0, cells := 0, slots := 0, locals := 0 } s m [.ref mm, .int (nI lw), .int (nI hx - nI 1)].toArray below meth c H locs 0 0 (zQ below [.ref mm, .int (nI lw), .int (nI hx - nI 1)].toArray s D (zT cI cZ cG cJ) A (fun (ov : Option Value) (ow : va_W) => ∃ ftp' : Nat → Int32, ov = none ∧ ow = [(mm, .inr (10, zmo (nI th) (nI q) (nI g) (nI t) (nI r) (nI mb) (nI nc) (nI nl) (nI pv) (nI va) (nI n3) (nI ve) (nI ed) (nI se) (nI ci) (nI mr) (nI mt) (nI ld) A8)), (A8 17, .inl (cI, 47000, .inl ftp'))] ∧ (∀ i, ftp' i = ftp (zrv lw hx i))) 0 0) (F0 m 5 ls []) := by
    intro fuel
    induction fuel with
    | zero => intro k bx ftp1 hmz; exact absurd hmz (Nat.not_lt_zero _)
    | succ fuel ih =>
      intro k bx ftp1 hm hkb hk hv1 H locs ls B hl
      have ih5 := ih
      refine lv_iload_n F.1 F.2.1 dX8_turnRound_5 rfl (lv_at hl 1 rfl) ?_
      refine lv_iload F.1 F.2.1 dX8_turnRound_6 (lv_at hl 2 rfl) ?_
      refine lv_icmp_ge (tgt := 50) F.1 F.2.1 dX8_turnRound_8 (by decide) (fun c8 => ?_) (fun c8 => ?_)
      · have hge := (zsub1 (by omega) (by omega)).mp c8
        exact z_vret F hr hlk B [0, 1] rfl (rfl) dX8_turnRound_50 (by omega) (by omega) ⟨ftp1, rfl, rfl, (fun i => by rw [hv1 i, zrw_e hkb hk hge])⟩
      · have hge : ¬ bx ≤ lw + k + 1 := fun q9 => c8 ((zsub1 (by omega) (by omega)).mpr q9)
        rw [show nI bx - nI 1 = nI (bx - 1) from pk_sub (by omega)] at hl
        have hl : lv_has ls 6 [(0, .ref mm), (3, .int (nI (lw + k))), (4, .int (nI (bx - 1)))] := hl
        refine lv_aload_n F.1 F.2.1 dX8_turnRound_11 rfl (lv_at hl 0 rfl) ?_
        refine z_get F B 0 rfl (ci := 10) (C := RX8) (T := TX8) (N := 37) rfl iX8_turnRound_X8 34 (by decide) fX8_turnRound_73 rfl dX8_turnRound_12 ?_
        refine lv_iload_n F.1 F.2.1 dX8_turnRound_15 rfl (lv_at hl 1 rfl) ?_
        refine z_iald F B 1 0 rfl rfl (j := lw + k) (by omega) (by omega) dX8_turnRound_16 ?_
        refine lv_istore (lv' := [(5, .int (ftp1 (lw + k))), (0, .ref mm), (3, .int (nI (lw + k))), (4, .int (nI (bx - 1)))]) F.1 F.2.1 dX8_turnRound_17 hl (by decide) rfl (fun ls hl => ?_)
        refine lv_aload_n F.1 F.2.1 dX8_turnRound_19 rfl (lv_at hl 1 rfl) ?_
        refine z_get F B 0 rfl (ci := 10) (C := RX8) (T := TX8) (N := 37) rfl iX8_turnRound_X8 34 (by decide) fX8_turnRound_73 rfl dX8_turnRound_20 ?_
        refine lv_iload_n F.1 F.2.1 dX8_turnRound_23 rfl (lv_at hl 2 rfl) ?_
        refine lv_aload_n F.1 F.2.1 dX8_turnRound_24 rfl (lv_at hl 1 rfl) ?_
        refine z_get F B 0 rfl (ci := 10) (C := RX8) (T := TX8) (N := 37) rfl iX8_turnRound_X8 34 (by decide) fX8_turnRound_73 rfl dX8_turnRound_25 ?_
        refine lv_iload F.1 F.2.1 dX8_turnRound_28 (lv_at hl 3 rfl) ?_
        refine z_iald F B 1 0 rfl rfl (j := bx - 1) (by omega) (by omega) dX8_turnRound_30 ?_
        refine z_iast F B 1 0 rfl rfl (j := lw + k) (by omega) (by omega) dX8_turnRound_31 (fun H locs B => ?_)
        have B : zB D (zT cI cZ cG cJ) A s.heap s [(mm, .inr (10, zmo (nI th) (nI q) (nI g) (nI t) (nI r) (nI mb) (nI nc) (nI nl) (nI pv) (nI va) (nI n3) (nI ve) (nI ed) (nI se) (nI ci) (nI mr) (nI mt) (nI ld) A8)), (A8 17, .inl (cI, 47000, .inl (upd ftp1 (lw + k) (ftp1 (bx - 1)))))] _ _ := B
        refine lv_aload_n F.1 F.2.1 dX8_turnRound_32 rfl (lv_at hl 1 rfl) ?_
        refine z_get F B 0 rfl (ci := 10) (C := RX8) (T := TX8) (N := 37) rfl iX8_turnRound_X8 34 (by decide) fX8_turnRound_73 rfl dX8_turnRound_33 ?_
        refine lv_iload F.1 F.2.1 dX8_turnRound_36 (lv_at hl 3 rfl) ?_
        refine lv_iload F.1 F.2.1 dX8_turnRound_38 (lv_at hl 0 rfl) ?_
        refine z_iast F B 1 0 rfl rfl (j := bx - 1) (by omega) (by omega) dX8_turnRound_40 (fun H locs B => ?_)
        have B : zB D (zT cI cZ cG cJ) A s.heap s [(mm, .inr (10, zmo (nI th) (nI q) (nI g) (nI t) (nI r) (nI mb) (nI nc) (nI nl) (nI pv) (nI va) (nI n3) (nI ve) (nI ed) (nI se) (nI ci) (nI mr) (nI mt) (nI ld) A8)), (A8 17, .inl (cI, 47000, .inl (upd (upd ftp1 (lw + k) (ftp1 (bx - 1))) (bx - 1) (ftp1 (lw + k)))))] _ _ := B
        refine lv_iinc (v := (nI (lw + k + 1))) (lv' := [(3, .int (nI (lw + k + 1))), (5, .int (ftp1 (lw + k))), (0, .ref mm), (4, .int (nI (bx - 1)))]) F.1 F.2.1 dX8_turnRound_41 hl (k := 2) rfl (by rw [show Int32.ofInt 1 = nI 1 from rfl, nI_add]) (by decide) rfl (fun ls hl => ?_)
        refine lv_iinc (v := (nI (bx - 1) - nI 1)) (lv' := [(4, .int (nI (bx - 1) - nI 1)), (3, .int (nI (lw + k + 1))), (5, .int (ftp1 (lw + k))), (0, .ref mm)]) F.1 F.2.1 dX8_turnRound_44 hl (k := 3) rfl (by rw [Int32.sub_eq_add_neg]; rfl) (by decide) rfl (fun ls hl => ?_)
        refine lv_goto (tgt := 5) F.1 F.2.1 dX8_turnRound_47 (by decide) ?_
        exact ih5 (k + 1) (bx - 1) (upd (upd ftp1 (lw + k) (ftp1 (bx - 1))) (bx - 1) (ftp1 (lw + k))) (by first | omega | (simp only [] at *; omega)) (by omega) (by omega) (fun i => zrw_S hkb (by omega) hv1 i) _ _ _ (B.sub [0, 1] rfl (rfl)) (lv_sub hl [3, 1, 0] (rfl))
  exact loop5 (hx + 1) 0 hx ftp (Nat.lt_succ_self _) (by omega) (by omega) (fun i => by rw [zrw_0]) _ _ _ (B.sub [0, 1] rfl (rfl)) (lv_sub hl [2, 1, 0] (rfl))
theorem iX8_turn_X8 : ∀ w ∈ u_ws RX8 TX8 37, w ∈ wsX8_turn := fun w h => List.mem_cons_of_mem _ (List.mem_append_right _ h)
theorem fX8_turn_185 : Cond.fieldLink RX8 185 "TourChainModel" "cities" "I" ∈ wsX8_turn := by decide +kernel
theorem yX8_turn_X8_in : yX8_in.cls = RX8 ∧ yX8_in.cls ≠ "java/lang/invoke/MethodHandle" ∧ yX8_in.cls ≠ "java/lang/invoke/VarHandle" ∧ (parseMethodDescriptor yX8_in.desc).map (fun d => d.parameters.length) = some 3 := by decide +kernel
theorem yX8_turn_X8_may : yX8_may.cls = RX8 ∧ yX8_may.cls ≠ "java/lang/invoke/MethodHandle" ∧ yX8_may.cls ≠ "java/lang/invoke/VarHandle" ∧ (parseMethodDescriptor yX8_may.desc).map (fun d => d.parameters.length) = some 1 := by decide +kernel
theorem yX8_turn_X8_turnRound : yX8_turnRound.cls = RX8 ∧ yX8_turnRound.cls ≠ "java/lang/invoke/MethodHandle" ∧ yX8_turnRound.cls ≠ "java/lang/invoke/VarHandle" ∧ (parseMethodDescriptor yX8_turnRound.desc).map (fun d => d.parameters.length) = some 2 := by decide +kernel
set_option maxHeartbeats 4000000 in
set_option maxRecDepth 100000 in
theorem kX8_turn (l : Launch) (D : va_G) (cI cZ cG cJ : ClassId) (mm : Nat) (th : Nat) (q : Nat) (g : Nat) (t : Nat) (r : Nat) (mb : Nat) (nc : Nat) (nl : Nat) (pv : Nat) (va : Nat) (n3 : Nat) (ve : Nat) (ed : Nat) (se : Nat) (ci : Nat) (mr : Nat) (mt : Nat) (ld : Nat) (A8 : Nat → Nat) (ftp : Nat → Int32) (u1 : Int32) (rd : Nat) (hmt : mt ≤ 1) (hci : ci ≤ 47000) (hrd : rd ≤ 1) : zC l yX8_turn wsX8_turn 1 25 0 0 D (zT cI cZ cG cJ) [.ref mm, .int u1, .int (nI rd)] [(mm, .inr (10, zmo (nI th) (nI q) (nI g) (nI t) (nI r) (nI mb) (nI nc) (nI nl) (nI pv) (nI va) (nI n3) (nI ve) (nI ed) (nI se) (nI ci) (nI mr) (nI mt) (nI ld) A8)), (A8 17, .inl (cI, 47000, .inl ftp))] (fun (ov : Option Value) (ow : va_W) => ∃ th' : Nat, ∃ ftp' : Nat → Int32, ov = none ∧ ow = [(mm, .inr (10, zmo (nI th') (nI q) (nI g) (nI t) (nI r) (nI mb) (nI nc) (nI nl) (nI pv) (nI va) (nI n3) (nI ve) (nI ed) (nI se) (nI ci) (nI mr) (nI mt) (nI ld) A8)), (A8 17, .inl (cI, 47000, .inl ftp'))] ∧ (((mt = 1 ∧ zq u1 ci) ∧ th' = 0 ∧ ∀ i, i < ci → ftp' i = ftp (if rd = 0 then (zn u1 + i) % ci else (zn u1 + (ci - 1 - i)) % ci)) ∨ (¬ (mt = 1 ∧ zq u1 ci) ∧ ((mt = 0 ∧ th' = 1) ∨ (mt = 1 ∧ th' = 2)) ∧ ftp' = ftp))) := by
  refine zC.of (cc := cX8_turn) (maxL := 3) (ret := none) (by decide) rfl (Nat.le_of_ble_eq_true rfl) ?_
  intro p e s m below meth c A ls F hr hlk hnm B hl
  have hl : lv_has ls 3 [(0, .ref mm), (1, .int u1), (2, .int (nI rd))] := hl
  refine lv_aload_n F.1 F.2.1 dX8_turn_0 rfl (lv_at hl 0 rfl) ?_
  refine lv_iload_n F.1 F.2.1 dX8_turn_1 rfl (lv_at hl 1 rfl) ?_
  refine lv_iconst (v := (nI 0)) F.1 F.2.1 dX8_turn_2 (by decide) ?_
  refine lv_aload_n F.1 F.2.1 dX8_turn_3 rfl (lv_at hl 0 rfl) ?_
  refine z_get F B 0 rfl (ci := 10) (C := RX8) (T := TX8) (N := 37) rfl iX8_turn_X8 23 (by decide) fX8_turn_185 rfl dX8_turn_4 ?_
  refine lv_iconst (v := (nI 1)) F.1 F.2.1 dX8_turn_7 (by decide) ?_
  refine lv_isub F.1 F.2.1 dX8_turn_8 ?_
  refine z_callS (wr := [(mm, .inr (10, zmo (nI th) (nI q) (nI g) (nI t) (nI r) (nI mb) (nI nc) (nI nl) (nI pv) (nI va) (nI n3) (nI ve) (nI ed) (nI se) (nI ci) (nI mr) (nI mt) (nI ld) A8)), (A8 17, .inl (cI, 47000, .inl ftp))]) (rest := [.ref mm]) (As := [.int u1, .int (nI 0), .int ((nI ci) - (nI 1))]) F B (kX8_in l D cI cZ cG cJ u1 (nI 0) ((nI ci) - (nI 1))) hl.1 gX8_turn_X8_in rfl 3 yX8_turn_X8_in rfl [] [0, 1] rfl rfl rfl rfl (by decide) (Nat.le_of_ble_eq_true rfl) (Nat.le_of_ble_eq_true rfl) (Nat.le_of_ble_eq_true rfl) rfl dX8_turn_9 (show 0 + 0 ≤ 0 by omega) (show 0 + 0 ≤ 0 by omega) (fun vv ww H locs hRR B => ?_)
  obtain ⟨r_1, rfl, rfl, hb_2⟩ := hRR
  have B : zB D (zT cI cZ cG cJ) A s.heap s [(mm, .inr (10, zmo (nI th) (nI q) (nI g) (nI t) (nI r) (nI mb) (nI nc) (nI nl) (nI pv) (nI va) (nI n3) (nI ve) (nI ed) (nI se) (nI ci) (nI mr) (nI mt) (nI ld) A8)), (A8 17, .inl (cI, 47000, .inl ftp))] _ _ := B
  rcases hb_2 with ⟨hr1, g1⟩ | ⟨hr1, g1⟩ <;> subst hr1
  · refine W.eq (g2 := F0 m 12 ls [.int 1, .ref mm]) rfl ?_
    have g1 := (zqR (n := ci) (by omega)).mp g1
    have g1e := zn_eq g1.1
    have g1l := zn_lt g1
    refine z_callV (wr := [(A8 17, .inl (cI, 47000, .inl ftp))]) (rest := []) (As := [.int 1]) F B (kX8_may l D cI cZ cG cJ mm th q g t r mb nc nl pv va n3 ve ed se ci mr mt ld A8 1 (by omega) (by omega)) hl.1 (C := RX8) (T := TX8) (N := 37) (ci := 10) (q0 := 0) gX8_turn_X8_may rfl 1 yX8_turn_X8_may rfl rfl rfl [0] [1] rfl rfl rfl rfl (by decide) (Nat.le_of_ble_eq_true rfl) (Nat.le_of_ble_eq_true rfl) (Nat.le_of_ble_eq_true rfl) rfl dX8_turn_12 (show 0 + 0 ≤ 0 by omega) (show 0 + 0 ≤ 0 by omega) (fun vv ww H locs hRR B => ?_)
    obtain ⟨r_3, th'_4, rfl, rfl, hb_5, hth⟩ := hRR
    have B : zB D (zT cI cZ cG cJ) A s.heap s [(A8 17, .inl (cI, 47000, .inl ftp)), (mm, .inr (10, zmo (nI th'_4) (nI q) (nI g) (nI t) (nI r) (nI mb) (nI nc) (nI nl) (nI pv) (nI va) (nI n3) (nI ve) (nI ed) (nI se) (nI ci) (nI mr) (nI mt) (nI ld) A8))] _ _ := B
    rcases hb_5 with ⟨hr1, hpM⟩ | ⟨hr1, hpM⟩ <;> subst hr1
    · refine W.eq (g2 := F0 m 15 ls [.int 1]) rfl ?_
      have hth0 : mt = 1 := by omega
      rw [g1e] at hl
      have hl : lv_has ls 3 [(0, .ref mm), (1, .int (nI (zn u1))), (2, .int (nI rd))] := hl
      refine lv_if_ne (tgt := 19) F.1 F.2.1 dX8_turn_15 (by decide) (fun _ => ?_) (fun hq => absurd hq (by decide))
      refine lv_aload_n F.1 F.2.1 dX8_turn_19 rfl (lv_at hl 0 rfl) ?_
      refine lv_iconst (v := (nI 0)) F.1 F.2.1 dX8_turn_20 (by decide) ?_
      refine lv_iload_n F.1 F.2.1 dX8_turn_21 rfl (lv_at hl 1 rfl) ?_
      refine lv_iconst (v := (nI 1)) F.1 F.2.1 dX8_turn_22 (by decide) ?_
      refine lv_isub F.1 F.2.1 dX8_turn_23 ?_
      refine z_callV (wr := []) (rest := []) (As := [.int (nI 0), .int ((nI (zn u1)) - (nI 1))]) F B (kX8_turnRound l D cI cZ cG cJ mm th'_4 q g t r mb nc nl pv va n3 ve ed se ci mr mt ld A8 ftp 0 (zn u1) (by omega) (by omega)) hl.1 (C := RX8) (T := TX8) (N := 37) (ci := 10) (q0 := 1) gX8_turn_X8_turnRound rfl 2 yX8_turn_X8_turnRound rfl rfl rfl [1, 0] [] rfl rfl rfl rfl (by decide) (Nat.le_of_ble_eq_true rfl) (Nat.le_of_ble_eq_true rfl) (Nat.le_of_ble_eq_true rfl) rfl dX8_turn_24 (show 0 + 0 ≤ 0 by omega) (show 0 + 0 ≤ 0 by omega) (fun vv ww H locs hRR B => ?_)
      obtain ⟨ftp'_6, rfl, rfl, hv1⟩ := hRR
      have B : zB D (zT cI cZ cG cJ) A s.heap s [(mm, .inr (10, zmo (nI th'_4) (nI q) (nI g) (nI t) (nI r) (nI mb) (nI nc) (nI nl) (nI pv) (nI va) (nI n3) (nI ve) (nI ed) (nI se) (nI ci) (nI mr) (nI mt) (nI ld) A8)), (A8 17, .inl (cI, 47000, .inl ftp'_6))] _ _ := B
      refine W.eq (g2 := F0 m 27 ls []) rfl ?_
      refine lv_aload_n F.1 F.2.1 dX8_turn_27 rfl (lv_at hl 0 rfl) ?_
      refine lv_iload_n F.1 F.2.1 dX8_turn_28 rfl (lv_at hl 1 rfl) ?_
      refine lv_aload_n F.1 F.2.1 dX8_turn_29 rfl (lv_at hl 0 rfl) ?_
      refine z_get F B 0 rfl (ci := 10) (C := RX8) (T := TX8) (N := 37) rfl iX8_turn_X8 23 (by decide) fX8_turn_185 rfl dX8_turn_30 ?_
      refine lv_iconst (v := (nI 1)) F.1 F.2.1 dX8_turn_33 (by decide) ?_
      refine lv_isub F.1 F.2.1 dX8_turn_34 ?_
      refine z_callV (wr := []) (rest := []) (As := [.int (nI (zn u1)), .int ((nI ci) - (nI 1))]) F B (kX8_turnRound l D cI cZ cG cJ mm th'_4 q g t r mb nc nl pv va n3 ve ed se ci mr mt ld A8 ftp'_6 (zn u1) ci (by omega) (by omega)) hl.1 (C := RX8) (T := TX8) (N := 37) (ci := 10) (q0 := 0) gX8_turn_X8_turnRound rfl 2 yX8_turn_X8_turnRound rfl rfl rfl [0, 1] [] rfl rfl rfl rfl (by decide) (Nat.le_of_ble_eq_true rfl) (Nat.le_of_ble_eq_true rfl) (Nat.le_of_ble_eq_true rfl) rfl dX8_turn_35 (show 0 + 0 ≤ 0 by omega) (show 0 + 0 ≤ 0 by omega) (fun vv ww H locs hRR B => ?_)
      obtain ⟨ftp'_7, rfl, rfl, hv2⟩ := hRR
      have B : zB D (zT cI cZ cG cJ) A s.heap s [(mm, .inr (10, zmo (nI th'_4) (nI q) (nI g) (nI t) (nI r) (nI mb) (nI nc) (nI nl) (nI pv) (nI va) (nI n3) (nI ve) (nI ed) (nI se) (nI ci) (nI mr) (nI mt) (nI ld) A8)), (A8 17, .inl (cI, 47000, .inl ftp'_7))] _ _ := B
      refine W.eq (g2 := F0 m 38 ls []) rfl ?_
      refine lv_aload_n F.1 F.2.1 dX8_turn_38 rfl (lv_at hl 0 rfl) ?_
      refine lv_iconst (v := (nI 0)) F.1 F.2.1 dX8_turn_39 (by decide) ?_
      refine lv_aload_n F.1 F.2.1 dX8_turn_40 rfl (lv_at hl 0 rfl) ?_
      refine z_get F B 0 rfl (ci := 10) (C := RX8) (T := TX8) (N := 37) rfl iX8_turn_X8 23 (by decide) fX8_turn_185 rfl dX8_turn_41 ?_
      refine lv_iconst (v := (nI 1)) F.1 F.2.1 dX8_turn_44 (by decide) ?_
      refine lv_isub F.1 F.2.1 dX8_turn_45 ?_
      refine z_callV (wr := []) (rest := []) (As := [.int (nI 0), .int ((nI ci) - (nI 1))]) F B (kX8_turnRound l D cI cZ cG cJ mm th'_4 q g t r mb nc nl pv va n3 ve ed se ci mr mt ld A8 ftp'_7 0 ci (by omega) (by omega)) hl.1 (C := RX8) (T := TX8) (N := 37) (ci := 10) (q0 := 0) gX8_turn_X8_turnRound rfl 2 yX8_turn_X8_turnRound rfl rfl rfl [0, 1] [] rfl rfl rfl rfl (by decide) (Nat.le_of_ble_eq_true rfl) (Nat.le_of_ble_eq_true rfl) (Nat.le_of_ble_eq_true rfl) rfl dX8_turn_46 (show 0 + 0 ≤ 0 by omega) (show 0 + 0 ≤ 0 by omega) (fun vv ww H locs hRR B => ?_)
      obtain ⟨ftp'_8, rfl, rfl, hv3⟩ := hRR
      have B : zB D (zT cI cZ cG cJ) A s.heap s [(mm, .inr (10, zmo (nI th'_4) (nI q) (nI g) (nI t) (nI r) (nI mb) (nI nc) (nI nl) (nI pv) (nI va) (nI n3) (nI ve) (nI ed) (nI se) (nI ci) (nI mr) (nI mt) (nI ld) A8)), (A8 17, .inl (cI, 47000, .inl ftp'_8))] _ _ := B
      refine W.eq (g2 := F0 m 49 ls []) rfl ?_
      refine lv_iload_n F.1 F.2.1 dX8_turn_49 rfl (lv_at hl 2 rfl) ?_
      refine z_if_eq (tgt := 64) F (by omega) dX8_turn_50 (by decide) (fun c50 => ?_) (fun c50 => ?_)
      · exact z_vret F hr hlk B [0, 1] rfl (rfl) dX8_turn_64 (by omega) (by omega) ⟨th'_4, ftp'_8, rfl, rfl, (Or.inl ⟨⟨hth0, g1⟩, by omega, fun i hi => by rw [if_pos (by omega), hv3, hv2, hv1, zrv_3 hi g1l]⟩)⟩
      · refine lv_aload_n F.1 F.2.1 dX8_turn_53 rfl (lv_at hl 0 rfl) ?_
        refine lv_iconst (v := (nI 0)) F.1 F.2.1 dX8_turn_54 (by decide) ?_
        refine lv_aload_n F.1 F.2.1 dX8_turn_55 rfl (lv_at hl 0 rfl) ?_
        refine z_get F B 0 rfl (ci := 10) (C := RX8) (T := TX8) (N := 37) rfl iX8_turn_X8 23 (by decide) fX8_turn_185 rfl dX8_turn_56 ?_
        refine lv_iconst (v := (nI 1)) F.1 F.2.1 dX8_turn_59 (by decide) ?_
        refine lv_isub F.1 F.2.1 dX8_turn_60 ?_
        refine z_callV (wr := []) (rest := []) (As := [.int (nI 0), .int ((nI ci) - (nI 1))]) F B (kX8_turnRound l D cI cZ cG cJ mm th'_4 q g t r mb nc nl pv va n3 ve ed se ci mr mt ld A8 ftp'_8 0 ci (by omega) (by omega)) hl.1 (C := RX8) (T := TX8) (N := 37) (ci := 10) (q0 := 0) gX8_turn_X8_turnRound rfl 2 yX8_turn_X8_turnRound rfl rfl rfl [0, 1] [] rfl rfl rfl rfl (by decide) (Nat.le_of_ble_eq_true rfl) (Nat.le_of_ble_eq_true rfl) (Nat.le_of_ble_eq_true rfl) rfl dX8_turn_61 (show 0 + 0 ≤ 0 by omega) (show 0 + 0 ≤ 0 by omega) (fun vv ww H locs hRR B => ?_)
        obtain ⟨ftp'_9, rfl, rfl, hv4⟩ := hRR
        have B : zB D (zT cI cZ cG cJ) A s.heap s [(mm, .inr (10, zmo (nI th'_4) (nI q) (nI g) (nI t) (nI r) (nI mb) (nI nc) (nI nl) (nI pv) (nI va) (nI n3) (nI ve) (nI ed) (nI se) (nI ci) (nI mr) (nI mt) (nI ld) A8)), (A8 17, .inl (cI, 47000, .inl ftp'_9))] _ _ := B
        refine W.eq (g2 := F0 m 64 ls []) rfl ?_
        exact z_vret F hr hlk B [0, 1] rfl (rfl) dX8_turn_64 (by omega) (by omega) ⟨th'_4, ftp'_9, rfl, rfl, (Or.inl ⟨⟨hth0, g1⟩, by omega, fun i hi => by rw [if_neg (by omega), hv4, hv3, hv2, hv1, zrv_4 hi g1l]⟩)⟩
    · refine W.eq (g2 := F0 m 15 ls [.int 0]) rfl ?_
      refine lv_if_ne (tgt := 19) F.1 F.2.1 dX8_turn_15 (by decide) (fun hq => absurd (by decide) hq) (fun _ => ?_)
      exact z_vret F hr hlk B [1, 0] rfl (rfl) dX8_turn_18 (by omega) (by omega) ⟨th'_4, ftp, rfl, rfl, (Or.inr ⟨fun q9 => by first | exact absurd q9.1 (by omega) | exact g1 q9.2, by omega, rfl⟩)⟩
  · refine W.eq (g2 := F0 m 12 ls [.int 0, .ref mm]) rfl ?_
    have g1 : ¬ zq u1 ci := fun q9 => g1 ((zqR (n := ci) (by omega)).mpr q9)
    refine z_callV (wr := [(A8 17, .inl (cI, 47000, .inl ftp))]) (rest := []) (As := [.int 0]) F B (kX8_may l D cI cZ cG cJ mm th q g t r mb nc nl pv va n3 ve ed se ci mr mt ld A8 0 (by omega) (by omega)) hl.1 (C := RX8) (T := TX8) (N := 37) (ci := 10) (q0 := 0) gX8_turn_X8_may rfl 1 yX8_turn_X8_may rfl rfl rfl [0] [1] rfl rfl rfl rfl (by decide) (Nat.le_of_ble_eq_true rfl) (Nat.le_of_ble_eq_true rfl) (Nat.le_of_ble_eq_true rfl) rfl dX8_turn_12 (show 0 + 0 ≤ 0 by omega) (show 0 + 0 ≤ 0 by omega) (fun vv ww H locs hRR B => ?_)
    obtain ⟨r_10, th'_11, rfl, rfl, hb_12, hth⟩ := hRR
    have B : zB D (zT cI cZ cG cJ) A s.heap s [(A8 17, .inl (cI, 47000, .inl ftp)), (mm, .inr (10, zmo (nI th'_11) (nI q) (nI g) (nI t) (nI r) (nI mb) (nI nc) (nI nl) (nI pv) (nI va) (nI n3) (nI ve) (nI ed) (nI se) (nI ci) (nI mr) (nI mt) (nI ld) A8))] _ _ := B
    rcases hb_12 with ⟨hr1, hpM⟩ | ⟨hr1, hpM⟩ <;> subst hr1
    · refine W.eq (g2 := F0 m 15 ls [.int 1]) rfl ?_
      exact absurd rfl hpM.2
    · refine W.eq (g2 := F0 m 15 ls [.int 0]) rfl ?_
      refine lv_if_ne (tgt := 19) F.1 F.2.1 dX8_turn_15 (by decide) (fun hq => absurd (by decide) hq) (fun _ => ?_)
      exact z_vret F hr hlk B [1, 0] rfl (rfl) dX8_turn_18 (by omega) (by omega) ⟨th'_11, ftp, rfl, rfl, (Or.inr ⟨fun q9 => by first | exact absurd q9.1 (by omega) | exact g1 q9.2, by omega, rfl⟩)⟩
