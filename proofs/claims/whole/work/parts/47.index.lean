/-! CONTRACTS of Math.floorMod, Trip.indexOf, at, replace, beginAt, reverse -/
theorem zC.ofF {l : Launch} {y : MethodName} {wy wy' : List Cond} {fr lo mc ms : Nat} {D : va_G} {tys : zTy} {as : List Value} {wc : va_W} {Rr : Option Value → va_W → Prop} {cc : ByteArray} {maxL : Nat} {ret : Option FieldType} (hy : plainFor y = true) (hw : wy = Cond.code y cc maxL ret :: wy') (hn : (lg_sl as).length ≤ maxL)
    (body : ∀ (p : Program) (e : Env) (s : State) (m : MethodId) (below : List Frame) (meth : Method) (c : Code) (A : Nat → Prop) (ls : Array Slot), CallFix p m c cc maxL s as.toArray wy y.cls → meth.sig.returnType = ret → meth.locks = false → meth.name = y.name → zB D tys A s.heap s wc s.heap [] → lv_has ls maxL (lv_args 0 as) →
      W p l e { frames := fr, cells := mc, slots := ms, locals := lo } s m as.toArray below meth c s.heap [] 0 0 (zQ below as.toArray s D tys A Rr mc ms) (F0 m 0 ls [])) : zC l y wy fr lo mc ms D tys as wc Rr := by
  intro sz
  refine va_MetF (cc := cc) (maxL := maxL) (ret := ret) hy hw ?_
  intro p e s m args below meth c s₁ B hml hv
  obtain ⟨rfl, hsz, hP, hK, hD0, hN⟩ := hv
  subst hsz
  have hl := lv_entry as (n := maxL) hn
  rw [lg_entry_eq]
  exact body p e s m below meth c (va_A wc s.heap.size) _ ⟨B.exec, B.bytes, hml, findClass_of_methodNamed B.named, atoms_spec (ws := wy) B.pre⟩ B.returns B.notSynchronized (name_of_methodNamed B.named B.method).1 ⟨hK, hP, hD0.self, va_S.rf, fun q h => Or.inr h, hN⟩ hl
theorem zrem_neg {k n : Nat} (h : k < n) (hn : n < 2 ^ 31) : -nI k - -nI k / nI n * nI n = -nI k := by
  have e : -nI k / nI n = 0 := by
    apply Int32.toInt_inj.mp
    rw [Int32.toInt_div, sb_negT (by omega), nI_toInt hn, Int.neg_tdiv, Int.tdiv_eq_ediv_of_nonneg (by omega), Int.ediv_eq_zero_of_lt (by omega) (by omega)]
    decide
  rw [e, Int32.zero_mul, Int32.sub_zero]
theorem zxor_pos {a n : Nat} (ha : a < 2 ^ 31) (hn : n < 2 ^ 31) : 0 ≤ nI a ^^^ nI n := by
  rw [nx_xorP]
  exact nI_pos' (Nat.xor_lt_two_pow ha hn)
theorem zxor_neg {k n : Nat} (h1 : 1 ≤ k) (hk : k < 2 ^ 31) (hn : n < 2 ^ 31) : ¬ 0 ≤ -nI k ^^^ nI n := by
  have m1 : (-nI k).toBitVec.msb = true := by
    rw [BitVec.msb_eq_toInt]
    exact decide_eq_true (show (-nI k).toInt < 0 by rw [sb_negT hk]; omega)
  have m2 : (nI n).toBitVec.msb = false := by
    rw [BitVec.msb_eq_toInt]
    exact decide_eq_false (show ¬ (nI n).toInt < 0 by rw [nI_toInt hn]; omega)
  have m3 : (-nI k ^^^ nI n).toBitVec.msb = true := by
    rw [Int32.toBitVec_xor, BitVec.msb_xor, m1, m2]
    rfl
  rw [BitVec.msb_eq_toInt] at m3
  have m4 : (-nI k ^^^ nI n).toInt < 0 := of_decide_eq_true m3
  rw [Int32.le_iff_toInt_le, Int32.toInt_zero]
  omega
theorem zneg_ne {k : Nat} (h1 : 1 ≤ k) (hk : k < 2 ^ 31) : ¬ -nI k = 0 := by
  intro h
  have e := congrArg Int32.toInt h
  rw [sb_negT hk, Int32.toInt_zero] at e
  omega
theorem zneg_add {k n : Nat} (h : k ≤ n) : -nI k + nI n = nI (n - k) := by
  rw [← pk_sub h, Int32.sub_eq_add_neg, Int32.add_comm]
/-- the step of a trip: forth (0) or back (1) -/
def zsd (dir : Nat) : Int32 := if dir = 0 then nI 1 else -nI 1
theorem zsd_neg {dir : Nat} (h : dir = 0 ∨ dir = 1) : -zsd dir = zsd (1 - dir) := by
  rcases h with rfl | rfl <;> decide
def zad (fi dir pl : Nat) : Int32 := if dir = 0 then nI (fi + pl) else if pl ≤ fi then nI (fi - pl) else -nI (pl - fi)
/-- where place pl of a trip of n cities stands in the row: it begins at fi -/
def zix (n fi dir pl : Nat) : Nat := if dir = 0 then (fi + pl) % n else (fi + n - pl) % n
theorem zad_0 (fi pl : Nat) : zad fi 0 pl = nI (fi + pl) := rfl
theorem zad_1 {fi pl : Nat} (h : pl ≤ fi) : zad fi 1 pl = nI (fi - pl) := by
  unfold zad
  rw [if_neg (by decide), if_pos h]
theorem zad_2 {fi pl : Nat} (h : ¬ pl ≤ fi) : zad fi 1 pl = -nI (pl - fi) := by
  unfold zad
  rw [if_neg (by decide), if_neg h]
theorem zix_0 (n fi pl : Nat) : zix n fi 0 pl = (fi + pl) % n := rfl
theorem zix_1 {n fi pl : Nat} (h : pl ≤ fi) (hf : fi < n) : zix n fi 1 pl = (fi - pl) % n := by
  unfold zix
  rw [if_neg (by decide), show fi + n - pl = fi - pl + n by omega, Nat.add_mod_right]
theorem zix_2 {n fi pl : Nat} (h : ¬ pl ≤ fi) (hp : pl < n) : zix n fi 1 pl = n - (pl - fi) := by
  unfold zix
  rw [if_neg (by decide), Nat.mod_eq_of_lt (by omega)]
  omega
theorem zix_lt {n fi dir pl : Nat} (h : 0 < n) : zix n fi dir pl < n := by
  unfold zix
  split <;> exact Nat.mod_lt _ h
theorem zad_eq {fi dir pl : Nat} (h : dir = 0 ∨ dir = 1) : nI fi + zsd dir * nI pl = zad fi dir pl := by
  rcases h with rfl | rfl
  · show nI fi + nI 1 * nI pl = nI (fi + pl)
    rw [pk_mul, nI_add, Nat.one_mul]
  · have e : zsd 1 * nI pl = -nI pl := by
      show -nI 1 * nI pl = -nI pl
      rw [Int32.neg_mul, pk_mul, Nat.one_mul]
    rw [e]
    by_cases h : pl ≤ fi
    · rw [zad_1 h, ← pk_sub h, Int32.sub_eq_add_neg]
    · rw [zad_2 h, ← pk_sub (show fi ≤ pl by omega), Int32.neg_sub, Int32.sub_eq_add_neg]
set_option maxHeartbeats 4000000 in
set_option maxRecDepth 100000 in
theorem kfloorP (l : Launch) (D : va_G) (cI cZ cG cJ : ClassId) (a : Nat) (n : Nat) (ha : a < 2 ^ 31) (h0 : 0 < n) (hn : n < 2 ^ 31) : zC l yJ9_floorMod_7cf53 wsJ9_floorMod_7cf53 0 0 0 0 D (zT cI cZ cG cJ) [.int (nI a), .int (nI n)] [] (fun (ov : Option Value) (ow : va_W) => ov = some (.int (nI (a % n))) ∧ ow = []) := by
  refine zC.ofF (cc := cJ9_floorMod_7cf53) (maxL := 3) (ret := (some .int)) (by decide +kernel) rfl (Nat.le_of_ble_eq_true rfl) ?_
  intro p e s m below meth c A ls F hr hlk hnm B hl
  have hl : lv_has ls 3 [(0, .int (nI a)), (1, .int (nI n))] := hl
  refine lv_iload_n F.1 F.2.1 dJ9_floorMod_7cf53_0 rfl (lv_at hl 0 rfl) ?_
  refine lv_iload_n F.1 F.2.1 dJ9_floorMod_7cf53_1 rfl (lv_at hl 1 rfl) ?_
  refine z_irem F (by omega) (by omega) (by omega) dJ9_floorMod_7cf53_2 ?_
  refine lv_istore_n (lv' := [(2, .int (nI (a % n))), (0, .int (nI a)), (1, .int (nI n))]) F.1 F.2.1 dJ9_floorMod_7cf53_3 rfl hl (by decide) rfl (fun ls hl => ?_)
  refine lv_iload_n F.1 F.2.1 dJ9_floorMod_7cf53_4 rfl (lv_at hl 1 rfl) ?_
  refine lv_iload_n F.1 F.2.1 dJ9_floorMod_7cf53_5 rfl (lv_at hl 2 rfl) ?_
  refine lv_ixor F.1 F.2.1 dJ9_floorMod_7cf53_6 ?_
  refine lv_if_ge (tgt := 18) F.1 F.2.1 dJ9_floorMod_7cf53_7 (by decide) (fun c7 => ?_) (fun c7 => ?_)
  · refine lv_iload_n F.1 F.2.1 dJ9_floorMod_7cf53_18 rfl (lv_at hl 0 rfl) ?_
    exact z_iret F hr hlk B [] rfl (rfl) dJ9_floorMod_7cf53_19 (by omega) (by omega) ⟨rfl, rfl⟩
  · exact absurd (zxor_pos ha hn) c7
set_option maxHeartbeats 4000000 in
set_option maxRecDepth 100000 in
theorem kfloorN (l : Launch) (D : va_G) (cI cZ cG cJ : ClassId) (c0 : Nat) (n : Nat) (hc1 : 1 ≤ c0) (hc : c0 < n) (hn : n < 2 ^ 31) : zC l yJ9_floorMod_7cf53 wsJ9_floorMod_7cf53 0 0 0 0 D (zT cI cZ cG cJ) [.int (-nI c0), .int (nI n)] [] (fun (ov : Option Value) (ow : va_W) => ov = some (.int (nI (n - c0))) ∧ ow = []) := by
  refine zC.ofF (cc := cJ9_floorMod_7cf53) (maxL := 3) (ret := (some .int)) (by decide +kernel) rfl (Nat.le_of_ble_eq_true rfl) ?_
  intro p e s m below meth c A ls F hr hlk hnm B hl
  have hl : lv_has ls 3 [(0, .int (-nI c0)), (1, .int (nI n))] := hl
  refine lv_iload_n F.1 F.2.1 dJ9_floorMod_7cf53_0 rfl (lv_at hl 0 rfl) ?_
  refine lv_iload_n F.1 F.2.1 dJ9_floorMod_7cf53_1 rfl (lv_at hl 1 rfl) ?_
  refine lv_irem F.1 F.2.1 dJ9_floorMod_7cf53_2 (nI_ne0 (by omega) (by omega)) ?_
  refine W.eq (g2 := F0 m 3 ls [.int (-nI c0)]) (by rw [zrem_neg hc hn]) ?_
  refine lv_istore_n (lv' := [(2, .int (-nI c0)), (0, .int (-nI c0)), (1, .int (nI n))]) F.1 F.2.1 dJ9_floorMod_7cf53_3 rfl hl (by decide) rfl (fun ls hl => ?_)
  refine lv_iload_n F.1 F.2.1 dJ9_floorMod_7cf53_4 rfl (lv_at hl 1 rfl) ?_
  refine lv_iload_n F.1 F.2.1 dJ9_floorMod_7cf53_5 rfl (lv_at hl 2 rfl) ?_
  refine lv_ixor F.1 F.2.1 dJ9_floorMod_7cf53_6 ?_
  refine lv_if_ge (tgt := 18) F.1 F.2.1 dJ9_floorMod_7cf53_7 (by decide) (fun c7 => ?_) (fun c7 => ?_)
  · exact absurd c7 (zxor_neg hc1 (by omega) hn)
  · refine lv_iload_n F.1 F.2.1 dJ9_floorMod_7cf53_10 rfl (lv_at hl 0 rfl) ?_
    refine lv_if_eq (tgt := 18) F.1 F.2.1 dJ9_floorMod_7cf53_11 (by decide) (fun c11 => ?_) (fun c11 => ?_)
    · exact absurd c11 (zneg_ne hc1 (by omega))
    · refine lv_iload_n F.1 F.2.1 dJ9_floorMod_7cf53_14 rfl (lv_at hl 0 rfl) ?_
      refine lv_iload_n F.1 F.2.1 dJ9_floorMod_7cf53_15 rfl (lv_at hl 2 rfl) ?_
      refine lv_iadd F.1 F.2.1 dJ9_floorMod_7cf53_16 ?_
      refine W.eq (g2 := F0 m 17 ls [.int (nI (n - c0))]) (by rw [zneg_add (by omega)]) ?_
      exact z_iret F hr hlk B [] rfl (rfl) dJ9_floorMod_7cf53_17 (by omega) (by omega) ⟨rfl, rfl⟩
theorem kfloorZ (l : Launch) (D : va_G) (cI cZ cG cJ : ClassId) (fi dir pl n : Nat) (hd : dir = 0 ∨ dir = 1) (hf : fi < n) (hp : pl < n) (hn : n < 2 ^ 29) : zC l yJ9_floorMod_7cf53 wsJ9_floorMod_7cf53 0 0 0 0 D (zT cI cZ cG cJ) [.int (zad fi dir pl), .int (nI n)] [] (fun (ov : Option Value) (ow : va_W) => ov = some (.int (nI (zix n fi dir pl))) ∧ ow = []) := by
  rcases hd with rfl | rfl
  · rw [zad_0, zix_0]
    exact kfloorP l D cI cZ cG cJ (fi + pl) n (by omega) (by omega) (by omega)
  · by_cases h : pl ≤ fi
    · rw [zad_1 h, zix_1 h hf]
      exact kfloorP l D cI cZ cG cJ (fi - pl) n (by omega) (by omega) (by omega)
    · rw [zad_2 h, zix_2 h hp]
      exact kfloorN l D cI cZ cG cJ (pl - fi) n (by omega) (by omega) (by omega)
theorem iX6_indexOf_X6 : ∀ w ∈ u_ws RX6 TX6 6, w ∈ wsX6_indexOf := by decide +kernel
theorem fX6_indexOf_35 : Cond.fieldLink RX6 35 "TourChain$Trip" "first" "I" ∈ wsX6_indexOf := by decide +kernel
theorem fX6_indexOf_38 : Cond.fieldLink RX6 38 "TourChain$Trip" "step" "I" ∈ wsX6_indexOf := by decide +kernel
theorem fX6_indexOf_19 : Cond.fieldLink RX6 19 "TourChain$Trip" "graph" "LTourChain$Graph;" ∈ wsX6_indexOf := by decide +kernel
theorem iX6_indexOf_X2 : ∀ w ∈ u_ws RX2 TX2 9, w ∈ wsX6_indexOf := by decide +kernel
theorem fX6_indexOf_23 : Cond.fieldLink RX6 23 "TourChain$Graph" "cities" "I" ∈ wsX6_indexOf := by decide +kernel
theorem yX6_indexOf_J9_floorMod_7cf53 : yJ9_floorMod_7cf53.cls ≠ "java/lang/invoke/MethodHandle" ∧ yJ9_floorMod_7cf53.cls ≠ "java/lang/invoke/VarHandle" ∧ (parseMethodDescriptor yJ9_floorMod_7cf53.desc).map (fun d => d.parameters.length) = some 2 := by decide +kernel
set_option maxHeartbeats 4000000 in
set_option maxRecDepth 100000 in
theorem kX6_indexOf (l : Launch) (D : va_G) (cI cZ cG cJ : ClassId) (tr : Nat) (go : Nat) (tpk : Nat) (trw : Nat) (fi : Nat) (dir : Nat) (tsb : Nat) (fo : Nat) (ve : Nat) (ed : Nat) (se : Nat) (ci : Nat) (gva : Nat) (gsi : Nat) (gsd : Nat) (gst : Nat) (pl : Nat) (hd : dir = 0 ∨ dir = 1) (hf : fi < ci) (hn : ci ≤ 1000000) (hp : pl < ci) : zC l yX6_indexOf wsX6_indexOf 1 22 0 0 D (zT cI cZ cG cJ) [.ref tr, .int (nI pl)] [(tr, .inr (8, [.ref go, .ref tpk, .ref trw, .int (nI fi), .int (zsd dir), .ref tsb])), (go, .inr (4, [.ref fo, .int (nI ve), .int (nI ed), .int (nI se), .int (nI ci), .ref gva, .ref gsi, .ref gsd, .ref gst]))] (fun (ov : Option Value) (ow : va_W) => ov = some (.int (nI (zix ci fi dir pl))) ∧ ow = [(tr, .inr (8, [.ref go, .ref tpk, .ref trw, .int (nI fi), .int (zsd dir), .ref tsb])), (go, .inr (4, [.ref fo, .int (nI ve), .int (nI ed), .int (nI se), .int (nI ci), .ref gva, .ref gsi, .ref gsd, .ref gst]))]) := by
  refine zC.of (cc := cX6_indexOf) (maxL := 2) (ret := (some .int)) (by decide) rfl (Nat.le_of_ble_eq_true rfl) ?_
  intro p e s m below meth c A ls F hr hlk hnm B hl
  have hl : lv_has ls 2 [(0, .ref tr), (1, .int (nI pl))] := hl
  refine lv_aload_n F.1 F.2.1 dX6_indexOf_0 rfl (lv_at hl 0 rfl) ?_
  refine z_get F B 0 rfl (ci := 8) (C := RX6) (T := TX6) (N := 6) rfl iX6_indexOf_X6 3 (by decide) fX6_indexOf_35 rfl dX6_indexOf_1 ?_
  refine lv_aload_n F.1 F.2.1 dX6_indexOf_4 rfl (lv_at hl 0 rfl) ?_
  refine z_get F B 0 rfl (ci := 8) (C := RX6) (T := TX6) (N := 6) rfl iX6_indexOf_X6 4 (by decide) fX6_indexOf_38 rfl dX6_indexOf_5 ?_
  refine lv_iload_n F.1 F.2.1 dX6_indexOf_8 rfl (lv_at hl 1 rfl) ?_
  refine lv_imul F.1 F.2.1 dX6_indexOf_9 ?_
  refine lv_iadd F.1 F.2.1 dX6_indexOf_10 ?_
  refine W.eq (g2 := F0 m 11 ls [.int (zad fi dir pl)]) (by rw [zad_eq hd]) ?_
  refine lv_aload_n F.1 F.2.1 dX6_indexOf_11 rfl (lv_at hl 0 rfl) ?_
  refine z_get F B 0 rfl (ci := 8) (C := RX6) (T := TX6) (N := 6) rfl iX6_indexOf_X6 0 (by decide) fX6_indexOf_19 rfl dX6_indexOf_12 ?_
  refine z_get F B 1 rfl (ci := 4) (C := RX2) (T := TX2) (N := 9) rfl iX6_indexOf_X2 4 (by decide) fX6_indexOf_23 rfl dX6_indexOf_15 ?_
  refine z_callSJ (wr := [(tr, .inr (8, [.ref go, .ref tpk, .ref trw, .int (nI fi), .int (zsd dir), .ref tsb])), (go, .inr (4, [.ref fo, .int (nI ve), .int (nI ed), .int (nI se), .int (nI ci), .ref gva, .ref gsi, .ref gsd, .ref gst]))]) (rest := []) (As := [.int (zad fi dir pl), .int (nI ci)]) F B (kfloorZ l D cI cZ cG cJ fi dir pl ci (hd) (hf) (by omega) (by omega)) hl.1 gX6_indexOf_J9_floorMod_7cf53 rfl 2 yX6_indexOf_J9_floorMod_7cf53 rfl [] [0, 1] rfl rfl rfl rfl (by decide) (Nat.le_of_ble_eq_true rfl) (Nat.le_of_ble_eq_true rfl) (Nat.le_of_ble_eq_true rfl) rfl dX6_indexOf_18 (show 0 + 0 ≤ 0 by omega) (show 0 + 0 ≤ 0 by omega) (fun vv ww H locs hRR B => ?_)
  obtain ⟨rfl, rfl⟩ := hRR
  have B : zB D (zT cI cZ cG cJ) A s.heap s [(tr, .inr (8, [.ref go, .ref tpk, .ref trw, .int (nI fi), .int (zsd dir), .ref tsb])), (go, .inr (4, [.ref fo, .int (nI ve), .int (nI ed), .int (nI se), .int (nI ci), .ref gva, .ref gsi, .ref gsd, .ref gst]))] _ _ := B
  refine W.eq (g2 := F0 m 21 ls [.int (nI (zix ci fi dir pl))]) rfl ?_
  exact z_iret F hr hlk B [0, 1] rfl (rfl) dX6_indexOf_21 (by omega) (by omega) ⟨rfl, rfl⟩
theorem iX6_at_X6 : ∀ w ∈ u_ws RX6 TX6 6, w ∈ wsX6_at := by decide +kernel
theorem fX6_at_13 : Cond.fieldLink RX6 13 "TourChain$Trip" "row" "[I" ∈ wsX6_at := by decide +kernel
theorem yX6_at_X6_indexOf : yX6_indexOf.cls = RX6 ∧ yX6_indexOf.cls ≠ "java/lang/invoke/MethodHandle" ∧ yX6_indexOf.cls ≠ "java/lang/invoke/VarHandle" ∧ (parseMethodDescriptor yX6_indexOf.desc).map (fun d => d.parameters.length) = some 1 := by decide +kernel
set_option maxHeartbeats 4000000 in
set_option maxRecDepth 100000 in
theorem kX6_at (l : Launch) (D : va_G) (cI cZ cG cJ : ClassId) (tr : Nat) (go : Nat) (tpk : Nat) (trw : Nat) (fi : Nat) (dir : Nat) (tsb : Nat) (fo : Nat) (ve : Nat) (ed : Nat) (se : Nat) (ci : Nat) (gva : Nat) (gsi : Nat) (gsd : Nat) (gst : Nat) (crw : Nat) (frw : Nat → Int32) (rr : Nat → Nat) (pl : Nat) (hd : dir = 0 ∨ dir = 1) (hf : fi < ci) (hn : ci ≤ 1000000) (hrw : ∀ i, i < ci → frw i = nI (rr i) ∧ rr i < ci) (hcr : ci ≤ crw) (hcr2 : crw ≤ 1000000) (hp : pl < ci) : zC l yX6_at wsX6_at 2 43 0 0 D (zT cI cZ cG cJ) [.ref tr, .int (nI pl)] [(tr, .inr (8, [.ref go, .ref tpk, .ref trw, .int (nI fi), .int (zsd dir), .ref tsb])), (go, .inr (4, [.ref fo, .int (nI ve), .int (nI ed), .int (nI se), .int (nI ci), .ref gva, .ref gsi, .ref gsd, .ref gst])), (trw, .inl (cI, crw, .inl frw))] (fun (ov : Option Value) (ow : va_W) => ov = some (.int (nI (rr (zix ci fi dir pl)))) ∧ ow = [(tr, .inr (8, [.ref go, .ref tpk, .ref trw, .int (nI fi), .int (zsd dir), .ref tsb])), (go, .inr (4, [.ref fo, .int (nI ve), .int (nI ed), .int (nI se), .int (nI ci), .ref gva, .ref gsi, .ref gsd, .ref gst])), (trw, .inl (cI, crw, .inl frw))]) := by
  refine zC.of (cc := cX6_at) (maxL := 2) (ret := (some .int)) (by decide) rfl (Nat.le_of_ble_eq_true rfl) ?_
  intro p e s m below meth c A ls F hr hlk hnm B hl
  have hl : lv_has ls 2 [(0, .ref tr), (1, .int (nI pl))] := hl
  have hzl := zix_lt (dir := dir) (pl := pl) (show 0 < ci by omega) (fi := fi)
  refine lv_aload_n F.1 F.2.1 dX6_at_0 rfl (lv_at hl 0 rfl) ?_
  refine z_get F B 0 rfl (ci := 8) (C := RX6) (T := TX6) (N := 6) rfl iX6_at_X6 2 (by decide) fX6_at_13 rfl dX6_at_1 ?_
  refine lv_aload_n F.1 F.2.1 dX6_at_4 rfl (lv_at hl 0 rfl) ?_
  refine lv_iload_n F.1 F.2.1 dX6_at_5 rfl (lv_at hl 1 rfl) ?_
  refine z_callV (wr := [(trw, .inl (cI, crw, .inl frw))]) (rest := [.ref trw]) (As := [.int (nI pl)]) F B (kX6_indexOf l D cI cZ cG cJ tr go tpk trw fi dir tsb fo ve ed se ci gva gsi gsd gst pl (hd) (hf) (by omega) (by omega)) hl.1 (C := RX6) (T := TX6) (N := 6) (ci := 8) (q0 := 0) gX6_at_X6_indexOf rfl 1 yX6_at_X6_indexOf rfl rfl rfl [0, 1] [2] rfl rfl rfl rfl (by decide) (Nat.le_of_ble_eq_true rfl) (Nat.le_of_ble_eq_true rfl) (Nat.le_of_ble_eq_true rfl) rfl dX6_at_6 (show 0 + 0 ≤ 0 by omega) (show 0 + 0 ≤ 0 by omega) (fun vv ww H locs hRR B => ?_)
  obtain ⟨rfl, rfl⟩ := hRR
  have B : zB D (zT cI cZ cG cJ) A s.heap s [(trw, .inl (cI, crw, .inl frw)), (tr, .inr (8, [.ref go, .ref tpk, .ref trw, .int (nI fi), .int (zsd dir), .ref tsb])), (go, .inr (4, [.ref fo, .int (nI ve), .int (nI ed), .int (nI se), .int (nI ci), .ref gva, .ref gsi, .ref gsd, .ref gst]))] _ _ := B
  refine W.eq (g2 := F0 m 9 ls [.int (nI (zix ci fi dir pl)), .ref trw]) rfl ?_
  refine z_iald F B 0 0 rfl rfl (j := zix ci fi dir pl) (by omega) (by omega) dX6_at_9 ?_
  refine W.eq (g2 := F0 m 10 ls [.int (nI (rr (zix ci fi dir pl)))]) (by rw [(hrw (zix ci fi dir pl) hzl).1]) ?_
  exact z_iret F hr hlk B [1, 2, 0] rfl (rfl) dX6_at_10 (by omega) (by omega) ⟨rfl, rfl⟩
theorem yX6_replace_X6_indexOf : yX6_indexOf.cls = RX6 ∧ yX6_indexOf.cls ≠ "java/lang/invoke/MethodHandle" ∧ yX6_indexOf.cls ≠ "java/lang/invoke/VarHandle" ∧ (parseMethodDescriptor yX6_indexOf.desc).map (fun d => d.parameters.length) = some 1 := by decide +kernel
theorem iX6_replace_X6 : ∀ w ∈ u_ws RX6 TX6 6, w ∈ wsX6_replace := by decide +kernel
theorem fX6_replace_13 : Cond.fieldLink RX6 13 "TourChain$Trip" "row" "[I" ∈ wsX6_replace := by decide +kernel
set_option maxHeartbeats 4000000 in
set_option maxRecDepth 100000 in
theorem kX6_replace (l : Launch) (D : va_G) (cI cZ cG cJ : ClassId) (tr : Nat) (go : Nat) (tpk : Nat) (trw : Nat) (fi : Nat) (dir : Nat) (tsb : Nat) (fo : Nat) (ve : Nat) (ed : Nat) (se : Nat) (ci : Nat) (gva : Nat) (gsi : Nat) (gsd : Nat) (gst : Nat) (crw : Nat) (frw : Nat → Int32) (rr : Nat → Nat) (pl : Nat) (x : Nat) (hd : dir = 0 ∨ dir = 1) (hf : fi < ci) (hn : ci ≤ 1000000) (hrw : ∀ i, i < ci → frw i = nI (rr i) ∧ rr i < ci) (hcr : ci ≤ crw) (hcr2 : crw ≤ 1000000) (hp : pl < ci) : zC l yX6_replace wsX6_replace 2 43 0 0 D (zT cI cZ cG cJ) [.ref tr, .int (nI pl), .int (nI x)] [(tr, .inr (8, [.ref go, .ref tpk, .ref trw, .int (nI fi), .int (zsd dir), .ref tsb])), (go, .inr (4, [.ref fo, .int (nI ve), .int (nI ed), .int (nI se), .int (nI ci), .ref gva, .ref gsi, .ref gsd, .ref gst])), (trw, .inl (cI, crw, .inl frw))] (fun (ov : Option Value) (ow : va_W) => ov = some (.int (nI (rr (zix ci fi dir pl)))) ∧ ow = [(tr, .inr (8, [.ref go, .ref tpk, .ref trw, .int (nI fi), .int (zsd dir), .ref tsb])), (go, .inr (4, [.ref fo, .int (nI ve), .int (nI ed), .int (nI se), .int (nI ci), .ref gva, .ref gsi, .ref gsd, .ref gst])), (trw, .inl (cI, crw, .inl (upd frw (zix ci fi dir pl) (nI x))))]) := by
  refine zC.of (cc := cX6_replace) (maxL := 5) (ret := (some .int)) (by decide) rfl (Nat.le_of_ble_eq_true rfl) ?_
  intro p e s m below meth c A ls F hr hlk hnm B hl
  have hl : lv_has ls 5 [(0, .ref tr), (1, .int (nI pl)), (2, .int (nI x))] := hl
  have hzl := zix_lt (dir := dir) (pl := pl) (show 0 < ci by omega) (fi := fi)
  refine lv_aload_n F.1 F.2.1 dX6_replace_0 rfl (lv_at hl 0 rfl) ?_
  refine lv_iload_n F.1 F.2.1 dX6_replace_1 rfl (lv_at hl 1 rfl) ?_
  refine z_callV (wr := [(trw, .inl (cI, crw, .inl frw))]) (rest := []) (As := [.int (nI pl)]) F B (kX6_indexOf l D cI cZ cG cJ tr go tpk trw fi dir tsb fo ve ed se ci gva gsi gsd gst pl (hd) (hf) (by omega) (by omega)) hl.1 (C := RX6) (T := TX6) (N := 6) (ci := 8) (q0 := 0) gX6_replace_X6_indexOf rfl 1 yX6_replace_X6_indexOf rfl rfl rfl [0, 1] [2] rfl rfl rfl rfl (by decide) (Nat.le_of_ble_eq_true rfl) (Nat.le_of_ble_eq_true rfl) (Nat.le_of_ble_eq_true rfl) rfl dX6_replace_2 (show 0 + 0 ≤ 0 by omega) (show 0 + 0 ≤ 0 by omega) (fun vv ww H locs hRR B => ?_)
  obtain ⟨rfl, rfl⟩ := hRR
  have B : zB D (zT cI cZ cG cJ) A s.heap s [(trw, .inl (cI, crw, .inl frw)), (tr, .inr (8, [.ref go, .ref tpk, .ref trw, .int (nI fi), .int (zsd dir), .ref tsb])), (go, .inr (4, [.ref fo, .int (nI ve), .int (nI ed), .int (nI se), .int (nI ci), .ref gva, .ref gsi, .ref gsd, .ref gst]))] _ _ := B
  refine W.eq (g2 := F0 m 5 ls [.int (nI (zix ci fi dir pl))]) rfl ?_
  refine lv_istore_n (lv' := [(3, .int (nI (zix ci fi dir pl))), (0, .ref tr), (1, .int (nI pl)), (2, .int (nI x))]) F.1 F.2.1 dX6_replace_5 rfl hl (by decide) rfl (fun ls hl => ?_)
  refine lv_aload_n F.1 F.2.1 dX6_replace_6 rfl (lv_at hl 1 rfl) ?_
  refine z_get F B 1 rfl (ci := 8) (C := RX6) (T := TX6) (N := 6) rfl iX6_replace_X6 2 (by decide) fX6_replace_13 rfl dX6_replace_7 ?_
  refine lv_iload_n F.1 F.2.1 dX6_replace_10 rfl (lv_at hl 0 rfl) ?_
  refine z_iald F B 0 0 rfl rfl (j := zix ci fi dir pl) (by omega) (by omega) dX6_replace_11 ?_
  refine W.eq (g2 := F0 m 12 ls [.int (nI (rr (zix ci fi dir pl)))]) (by rw [(hrw (zix ci fi dir pl) hzl).1]) ?_
  refine lv_istore (lv' := [(4, .int (nI (rr (zix ci fi dir pl)))), (3, .int (nI (zix ci fi dir pl))), (0, .ref tr), (1, .int (nI pl)), (2, .int (nI x))]) F.1 F.2.1 dX6_replace_12 hl (by decide) rfl (fun ls hl => ?_)
  refine lv_aload_n F.1 F.2.1 dX6_replace_14 rfl (lv_at hl 2 rfl) ?_
  refine z_get F B 1 rfl (ci := 8) (C := RX6) (T := TX6) (N := 6) rfl iX6_replace_X6 2 (by decide) fX6_replace_13 rfl dX6_replace_15 ?_
  refine lv_iload_n F.1 F.2.1 dX6_replace_18 rfl (lv_at hl 1 rfl) ?_
  refine lv_iload_n F.1 F.2.1 dX6_replace_19 rfl (lv_at hl 4 rfl) ?_
  refine z_iast F B 0 0 rfl rfl (j := zix ci fi dir pl) (by omega) (by omega) dX6_replace_20 (fun H locs B => ?_)
  have B : zB D (zT cI cZ cG cJ) A s.heap s [(trw, .inl (cI, crw, .inl (upd frw (zix ci fi dir pl) (nI x)))), (tr, .inr (8, [.ref go, .ref tpk, .ref trw, .int (nI fi), .int (zsd dir), .ref tsb])), (go, .inr (4, [.ref fo, .int (nI ve), .int (nI ed), .int (nI se), .int (nI ci), .ref gva, .ref gsi, .ref gsd, .ref gst]))] _ _ := B
  refine lv_iload F.1 F.2.1 dX6_replace_21 (lv_at hl 0 rfl) ?_
  exact z_iret F hr hlk B [1, 2, 0] rfl (rfl) dX6_replace_23 (by omega) (by omega) ⟨rfl, rfl⟩
theorem yX6_beginAt_X6_indexOf : yX6_indexOf.cls = RX6 ∧ yX6_indexOf.cls ≠ "java/lang/invoke/MethodHandle" ∧ yX6_indexOf.cls ≠ "java/lang/invoke/VarHandle" ∧ (parseMethodDescriptor yX6_indexOf.desc).map (fun d => d.parameters.length) = some 1 := by decide +kernel
theorem iX6_beginAt_X6 : ∀ w ∈ u_ws RX6 TX6 6, w ∈ wsX6_beginAt := by decide +kernel
theorem fX6_beginAt_35 : Cond.fieldLink RX6 35 "TourChain$Trip" "first" "I" ∈ wsX6_beginAt := by decide +kernel
set_option maxHeartbeats 4000000 in
set_option maxRecDepth 100000 in
theorem kX6_beginAt (l : Launch) (D : va_G) (cI cZ cG cJ : ClassId) (tr : Nat) (go : Nat) (tpk : Nat) (trw : Nat) (fi : Nat) (dir : Nat) (tsb : Nat) (fo : Nat) (ve : Nat) (ed : Nat) (se : Nat) (ci : Nat) (gva : Nat) (gsi : Nat) (gsd : Nat) (gst : Nat) (pl : Nat) (hd : dir = 0 ∨ dir = 1) (hf : fi < ci) (hn : ci ≤ 1000000) (hp : pl < ci) : zC l yX6_beginAt wsX6_beginAt 2 43 0 0 D (zT cI cZ cG cJ) [.ref tr, .int (nI pl)] [(tr, .inr (8, [.ref go, .ref tpk, .ref trw, .int (nI fi), .int (zsd dir), .ref tsb])), (go, .inr (4, [.ref fo, .int (nI ve), .int (nI ed), .int (nI se), .int (nI ci), .ref gva, .ref gsi, .ref gsd, .ref gst]))] (fun (ov : Option Value) (ow : va_W) => ov = none ∧ ow = [(tr, .inr (8, [.ref go, .ref tpk, .ref trw, .int (nI (zix ci fi dir pl)), .int (zsd dir), .ref tsb])), (go, .inr (4, [.ref fo, .int (nI ve), .int (nI ed), .int (nI se), .int (nI ci), .ref gva, .ref gsi, .ref gsd, .ref gst]))]) := by
  refine zC.of (cc := cX6_beginAt) (maxL := 2) (ret := none) (by decide) rfl (Nat.le_of_ble_eq_true rfl) ?_
  intro p e s m below meth c A ls F hr hlk hnm B hl
  have hl : lv_has ls 2 [(0, .ref tr), (1, .int (nI pl))] := hl
  refine lv_aload_n F.1 F.2.1 dX6_beginAt_0 rfl (lv_at hl 0 rfl) ?_
  refine lv_aload_n F.1 F.2.1 dX6_beginAt_1 rfl (lv_at hl 0 rfl) ?_
  refine lv_iload_n F.1 F.2.1 dX6_beginAt_2 rfl (lv_at hl 1 rfl) ?_
  refine z_callV (wr := []) (rest := [.ref tr]) (As := [.int (nI pl)]) F B (kX6_indexOf l D cI cZ cG cJ tr go tpk trw fi dir tsb fo ve ed se ci gva gsi gsd gst pl (hd) (hf) (by omega) (by omega)) hl.1 (C := RX6) (T := TX6) (N := 6) (ci := 8) (q0 := 0) gX6_beginAt_X6_indexOf rfl 1 yX6_beginAt_X6_indexOf rfl rfl rfl [0, 1] [] rfl rfl rfl rfl (by decide) (Nat.le_of_ble_eq_true rfl) (Nat.le_of_ble_eq_true rfl) (Nat.le_of_ble_eq_true rfl) rfl dX6_beginAt_3 (show 0 + 0 ≤ 0 by omega) (show 0 + 0 ≤ 0 by omega) (fun vv ww H locs hRR B => ?_)
  obtain ⟨rfl, rfl⟩ := hRR
  have B : zB D (zT cI cZ cG cJ) A s.heap s [(tr, .inr (8, [.ref go, .ref tpk, .ref trw, .int (nI fi), .int (zsd dir), .ref tsb])), (go, .inr (4, [.ref fo, .int (nI ve), .int (nI ed), .int (nI se), .int (nI ci), .ref gva, .ref gsi, .ref gsd, .ref gst]))] _ _ := B
  refine W.eq (g2 := F0 m 6 ls [.int (nI (zix ci fi dir pl)), .ref tr]) rfl ?_
  refine z_put F B 0 rfl (ci := 8) (C := RX6) (T := TX6) (N := 6) rfl iX6_beginAt_X6 tyX6 tyX6_ok nmX6 3 (by decide) fX6_beginAt_35 rfl (v := .int (nI (zix ci fi dir pl))) rfl rfl (Nat.le_of_ble_eq_true rfl) dX6_beginAt_6 (fun H locs B => ?_)
  have B : zB D (zT cI cZ cG cJ) A s.heap s [(tr, .inr (8, [.ref go, .ref tpk, .ref trw, .int (nI (zix ci fi dir pl)), .int (zsd dir), .ref tsb])), (go, .inr (4, [.ref fo, .int (nI ve), .int (nI ed), .int (nI se), .int (nI ci), .ref gva, .ref gsi, .ref gsd, .ref gst]))] _ _ := B
  exact z_vret F hr hlk B [0, 1] rfl (rfl) dX6_beginAt_9 (by omega) (by omega) ⟨rfl, rfl⟩
theorem iX6_reverse_X6 : ∀ w ∈ u_ws RX6 TX6 6, w ∈ wsX6_reverse := by decide +kernel
theorem fX6_reverse_19 : Cond.fieldLink RX6 19 "TourChain$Trip" "graph" "LTourChain$Graph;" ∈ wsX6_reverse := by decide +kernel
theorem iX6_reverse_X2 : ∀ w ∈ u_ws RX2 TX2 9, w ∈ wsX6_reverse := by decide +kernel
theorem fX6_reverse_23 : Cond.fieldLink RX6 23 "TourChain$Graph" "cities" "I" ∈ wsX6_reverse := by decide +kernel
theorem yX6_reverse_X6_indexOf : yX6_indexOf.cls = RX6 ∧ yX6_indexOf.cls ≠ "java/lang/invoke/MethodHandle" ∧ yX6_indexOf.cls ≠ "java/lang/invoke/VarHandle" ∧ (parseMethodDescriptor yX6_indexOf.desc).map (fun d => d.parameters.length) = some 1 := by decide +kernel
theorem fX6_reverse_35 : Cond.fieldLink RX6 35 "TourChain$Trip" "first" "I" ∈ wsX6_reverse := by decide +kernel
theorem fX6_reverse_38 : Cond.fieldLink RX6 38 "TourChain$Trip" "step" "I" ∈ wsX6_reverse := by decide +kernel
set_option maxHeartbeats 4000000 in
set_option maxRecDepth 100000 in
theorem kX6_reverse (l : Launch) (D : va_G) (cI cZ cG cJ : ClassId) (tr : Nat) (go : Nat) (tpk : Nat) (trw : Nat) (fi : Nat) (dir : Nat) (tsb : Nat) (fo : Nat) (ve : Nat) (ed : Nat) (se : Nat) (ci : Nat) (gva : Nat) (gsi : Nat) (gsd : Nat) (gst : Nat) (hd : dir = 0 ∨ dir = 1) (hf : fi < ci) (hn : ci ≤ 1000000) : zC l yX6_reverse wsX6_reverse 2 43 0 0 D (zT cI cZ cG cJ) [.ref tr] [(tr, .inr (8, [.ref go, .ref tpk, .ref trw, .int (nI fi), .int (zsd dir), .ref tsb])), (go, .inr (4, [.ref fo, .int (nI ve), .int (nI ed), .int (nI se), .int (nI ci), .ref gva, .ref gsi, .ref gsd, .ref gst]))] (fun (ov : Option Value) (ow : va_W) => ov = none ∧ ow = [(tr, .inr (8, [.ref go, .ref tpk, .ref trw, .int (nI (zix ci fi dir (ci - 1))), .int (zsd (1 - dir)), .ref tsb])), (go, .inr (4, [.ref fo, .int (nI ve), .int (nI ed), .int (nI se), .int (nI ci), .ref gva, .ref gsi, .ref gsd, .ref gst]))]) := by
  refine zC.of (cc := cX6_reverse) (maxL := 1) (ret := none) (by decide) rfl (Nat.le_of_ble_eq_true rfl) ?_
  intro p e s m below meth c A ls F hr hlk hnm B hl
  have hl : lv_has ls 1 [(0, .ref tr)] := hl
  refine lv_aload_n F.1 F.2.1 dX6_reverse_0 rfl (lv_at hl 0 rfl) ?_
  refine lv_aload_n F.1 F.2.1 dX6_reverse_1 rfl (lv_at hl 0 rfl) ?_
  refine lv_aload_n F.1 F.2.1 dX6_reverse_2 rfl (lv_at hl 0 rfl) ?_
  refine z_get F B 0 rfl (ci := 8) (C := RX6) (T := TX6) (N := 6) rfl iX6_reverse_X6 0 (by decide) fX6_reverse_19 rfl dX6_reverse_3 ?_
  refine z_get F B 1 rfl (ci := 4) (C := RX2) (T := TX2) (N := 9) rfl iX6_reverse_X2 4 (by decide) fX6_reverse_23 rfl dX6_reverse_6 ?_
  refine lv_iconst (v := (nI 1)) F.1 F.2.1 dX6_reverse_9 (by decide) ?_
  refine z_isub F (by omega) dX6_reverse_10 ?_
  refine z_callV (wr := []) (rest := [.ref tr]) (As := [.int (nI (ci - 1))]) F B (kX6_indexOf l D cI cZ cG cJ tr go tpk trw fi dir tsb fo ve ed se ci gva gsi gsd gst (ci - 1) (hd) (hf) (by omega) (by omega)) hl.1 (C := RX6) (T := TX6) (N := 6) (ci := 8) (q0 := 0) gX6_reverse_X6_indexOf rfl 1 yX6_reverse_X6_indexOf rfl rfl rfl [0, 1] [] rfl rfl rfl rfl (by decide) (Nat.le_of_ble_eq_true rfl) (Nat.le_of_ble_eq_true rfl) (Nat.le_of_ble_eq_true rfl) rfl dX6_reverse_11 (show 0 + 0 ≤ 0 by omega) (show 0 + 0 ≤ 0 by omega) (fun vv ww H locs hRR B => ?_)
  obtain ⟨rfl, rfl⟩ := hRR
  have B : zB D (zT cI cZ cG cJ) A s.heap s [(tr, .inr (8, [.ref go, .ref tpk, .ref trw, .int (nI fi), .int (zsd dir), .ref tsb])), (go, .inr (4, [.ref fo, .int (nI ve), .int (nI ed), .int (nI se), .int (nI ci), .ref gva, .ref gsi, .ref gsd, .ref gst]))] _ _ := B
  refine W.eq (g2 := F0 m 14 ls [.int (nI (zix ci fi dir (ci - 1))), .ref tr]) rfl ?_
  refine z_put F B 0 rfl (ci := 8) (C := RX6) (T := TX6) (N := 6) rfl iX6_reverse_X6 tyX6 tyX6_ok nmX6 3 (by decide) fX6_reverse_35 rfl (v := .int (nI (zix ci fi dir (ci - 1)))) rfl rfl (Nat.le_of_ble_eq_true rfl) dX6_reverse_14 (fun H locs B => ?_)
  have B : zB D (zT cI cZ cG cJ) A s.heap s [(tr, .inr (8, [.ref go, .ref tpk, .ref trw, .int (nI (zix ci fi dir (ci - 1))), .int (zsd dir), .ref tsb])), (go, .inr (4, [.ref fo, .int (nI ve), .int (nI ed), .int (nI se), .int (nI ci), .ref gva, .ref gsi, .ref gsd, .ref gst]))] _ _ := B
  refine lv_aload_n F.1 F.2.1 dX6_reverse_17 rfl (lv_at hl 0 rfl) ?_
  refine lv_aload_n F.1 F.2.1 dX6_reverse_18 rfl (lv_at hl 0 rfl) ?_
  refine z_get F B 0 rfl (ci := 8) (C := RX6) (T := TX6) (N := 6) rfl iX6_reverse_X6 4 (by decide) fX6_reverse_38 rfl dX6_reverse_19 ?_
  refine lv_ineg F.1 F.2.1 dX6_reverse_22 ?_
  refine W.eq (g2 := F0 m 23 ls [.int (zsd (1 - dir)), .ref tr]) (by rw [zsd_neg hd]) ?_
  refine z_put F B 0 rfl (ci := 8) (C := RX6) (T := TX6) (N := 6) rfl iX6_reverse_X6 tyX6 tyX6_ok nmX6 4 (by decide) fX6_reverse_38 rfl (v := .int (zsd (1 - dir))) rfl rfl (Nat.le_of_ble_eq_true rfl) dX6_reverse_23 (fun H locs B => ?_)
  have B : zB D (zT cI cZ cG cJ) A s.heap s [(tr, .inr (8, [.ref go, .ref tpk, .ref trw, .int (nI (zix ci fi dir (ci - 1))), .int (zsd (1 - dir)), .ref tsb])), (go, .inr (4, [.ref fo, .int (nI ve), .int (nI ed), .int (nI se), .int (nI ci), .ref gva, .ref gsi, .ref gsd, .ref gst]))] _ _ := B
  exact z_vret F hr hlk B [0, 1] rfl (rfl) dX6_reverse_26 (by omega) (by omega) ⟨rfl, rfl⟩
