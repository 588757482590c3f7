/-! THE RUN, row by row; CONTRACT of Run.follow -/
/-- what stands after i of the choices ch: head, state, tape -/
def zcf (r : Nat) (rl : Nat → Nat → Nat) (tp : Nat → Nat) (ch : Nat → Nat) : Nat → Nat × Nat × (Nat → Nat)
  | 0 => (0, 0, tp)
  | i + 1 => (znh r rl (zcf r rl tp ch i).1 (ch i), znu r rl (zcf r rl tp ch i).2.1 (ch i), znt r rl (zcf r rl tp ch i).1 (zcf r rl tp ch i).2.2 (ch i))
def zok (q r t : Nat) (rl : Nat → Nat → Nat) (tp ch : Nat → Nat) (i : Nat) : Prop := ∀ j, j < i → zcan q r t rl (zcf r rl tp ch j).1 (zcf r rl tp ch j).2.1 (zcf r rl tp ch j).2.2 (ch j)
/-- the choices can be used one after the other, and end in ACCEPT -/
def zacc (q r t : Nat) (rl : Nat → Nat → Nat) (tp ch : Nat → Nat) : Prop := zok q r t rl tp ch t ∧ (zcf r rl tp ch t).2.1 = q - 1
theorem zok_S {q r t : Nat} {rl : Nat → Nat → Nat} {tp ch : Nat → Nat} {i : Nat} (h : zok q r t rl tp ch i) (hc : zcan q r t rl (zcf r rl tp ch i).1 (zcf r rl tp ch i).2.1 (zcf r rl tp ch i).2.2 (ch i)) : zok q r t rl tp ch (i + 1) := by
  intro j hj
  by_cases e : j = i
  · subst e; exact hc
  · exact h j (by omega)
/-- the rows hold what cf says, up to row i -/
def zrws (fhe fst : Nat → Int32) (hh : Nat → Nat → Int32) (t : Nat) (cf : Nat → Nat × Nat × (Nat → Nat)) (i : Nat) : Prop := ∀ j, j ≤ i → fhe j = nI (cf j).1 ∧ fst j = nI (cf j).2.1 ∧ ∀ y, y ≤ t → hh j y = nI ((cf j).2.2 y)
theorem zrws_0 {fhe fst fp : Nat → Int32} {hh : Nat → Nat → Int32} {r t : Nat} {rl : Nat → Nat → Nat} {tp ch : Nat → Nat} (htp : ∀ y, y ≤ t → fp y = nI (tp y)) : zrws (upd fhe 0 (nI 0)) (upd fst 0 (nI 0)) (va_up hh 0 (va_cpy fp (hh 0) 0 0 (t + 1))) t (zcf r rl tp ch) 0 := by
  intro j hj
  have e : j = 0 := by omega
  subst e
  refine ⟨pk_us, pk_us, fun y hy => ?_⟩
  rw [va_up_self, pk_cpy_in (Nat.zero_le _) (by omega), show 0 + (y - 0) = y by omega]
  exact htp y hy
theorem zrws_S {fhe fst fhe' fst' : Nat → Int32} {hh hh' : Nat → Nat → Int32} {r t i : Nat} {rl : Nat → Nat → Nat} {tp ch : Nat → Nat} (h : zrws fhe fst hh t (zcf r rl tp ch) i) (h1 : fhe' (i + 1) = nI (znh r rl (zcf r rl tp ch i).1 (ch i)) ∧ ∀ j, ¬ j = i + 1 → fhe' j = fhe j) (h2 : fst' (i + 1) = nI (znu r rl (zcf r rl tp ch i).2.1 (ch i)) ∧ ∀ j, ¬ j = i + 1 → fst' j = fst j) (h3 : (∀ y, y ≤ t → hh' (i + 1) y = nI (znt r rl (zcf r rl tp ch i).1 (zcf r rl tp ch i).2.2 (ch i) y)) ∧ ∀ j, ¬ j = i + 1 → hh' j = hh j) : zrws fhe' fst' hh' t (zcf r rl tp ch) (i + 1) := by
  intro j hj
  by_cases e : j = i + 1
  · subst e
    exact ⟨h1.1, h2.1, h3.1⟩
  · obtain ⟨a, b, d⟩ := h j (by omega)
    exact ⟨by rw [h1.2 j e]; exact a, by rw [h2.2 j e]; exact b, fun y hy => by rw [h3.2 j e]; exact d y hy⟩
theorem zcf_bd {q r t : Nat} {rl : Nat → Nat → Nat} {tp ch : Nat → Nat} (htp : ∀ y, y ≤ t → tp y ≤ 3) (hrb : ∀ k, k < r → rl 0 k ≤ 3 ∧ rl 1 k ≤ 3 ∧ rl 2 k ≤ 3 ∧ rl 3 k ≤ 3) (hrd : ∀ k, k < r → rl 4 k ≤ 2) (hch : ∀ i, i < t → ch i ≤ r) : ∀ {i : Nat}, i ≤ t → zok q r t rl tp ch i → (zcf r rl tp ch i).1 ≤ t ∧ (zcf r rl tp ch i).2.1 ≤ 3 ∧ ∀ y, y ≤ t → (zcf r rl tp ch i).2.2 y ≤ 3
  | 0, _, _ => ⟨Nat.zero_le _, Nat.zero_le _, htp⟩
  | i + 1, hi, hok => by
    obtain ⟨a, b, d⟩ := zcf_bd htp hrb hrd hch (i := i) (by omega) (fun j hj => hok j (by omega))
    have hcan := hok i (Nat.lt_succ_self i)
    by_cases e : ch i = r
    · simp only [zcf, znh_r e, znu_r e, znt_r e]
      exact ⟨a, b, d⟩
    · have hlt : ch i < r := by have := hch i (by omega); omega
      obtain ⟨-, -, e3, e4⟩ := hrb _ hlt
      simp only [zcf, znh_n e, znu_n e, znt_n e]
      refine ⟨?_, e3, fun y hy => ?_⟩
      · rcases hcan with ⟨q1, -⟩ | ⟨-, -, -, q1, q2⟩
        · exact absurd q1 e
        · omega
      · by_cases ey : y = (zcf r rl tp ch i).1
        · rw [if_pos ey]; exact e4
        · rw [if_neg ey]; exact d y hy
theorem yX5_follow_X5_begin : yX5_begin.cls = RX5 ∧ yX5_begin.cls ≠ "java/lang/invoke/MethodHandle" ∧ yX5_begin.cls ≠ "java/lang/invoke/VarHandle" ∧ (parseMethodDescriptor yX5_begin.desc).map (fun d => d.parameters.length) = some 0 := by decide +kernel
theorem iX5_follow_X5 : ∀ w ∈ u_ws RX5 TX5 5, w ∈ wsX5_follow := by decide +kernel
theorem fX5_follow_26 : Cond.fieldLink RX5 26 "TourChain$Run" "machine" "LTourChain$Machine;" ∈ wsX5_follow := by decide +kernel
theorem iX5_follow_X3 : ∀ w ∈ u_ws RX3 TX3 10, w ∈ wsX5_follow := by decide +kernel
theorem fX5_follow_37 : Cond.fieldLink RX5 37 "TourChain$Machine" "bound" "I" ∈ wsX5_follow := by decide +kernel
theorem yX5_follow_X5_accepts : yX5_accepts.cls = RX5 ∧ yX5_accepts.cls ≠ "java/lang/invoke/MethodHandle" ∧ yX5_accepts.cls ≠ "java/lang/invoke/VarHandle" ∧ (parseMethodDescriptor yX5_accepts.desc).map (fun d => d.parameters.length) = some 0 := by decide +kernel
theorem fX5_follow_9 : Cond.fieldLink RX5 9 "TourChain$Run" "choices" "[I" ∈ wsX5_follow := by decide +kernel
theorem yX5_follow_X5_canUse : yX5_canUse.cls = RX5 ∧ yX5_canUse.cls ≠ "java/lang/invoke/MethodHandle" ∧ yX5_canUse.cls ≠ "java/lang/invoke/VarHandle" ∧ (parseMethodDescriptor yX5_canUse.desc).map (fun d => d.parameters.length) = some 2 := by decide +kernel
theorem yX5_follow_X5_use : yX5_use.cls = RX5 ∧ yX5_use.cls ≠ "java/lang/invoke/MethodHandle" ∧ yX5_use.cls ≠ "java/lang/invoke/VarHandle" ∧ (parseMethodDescriptor yX5_use.desc).map (fun d => d.parameters.length) = some 2 := by decide +kernel
set_option maxHeartbeats 4000000 in
set_option maxRecDepth 100000 in
theorem kX5_follow (l : Launch) (D : va_G) (cI cZ cG cJ : ClassId) (ru : Nat) (mo : Nat) (rch : Nat) (rhe : Nat) (rst : Nat) (rce : Nat) (q : Nat) (g : Nat) (t : Nat) (r : Nat) (af : Nat) (ar : Nat) (at_ : Nat) (aw : Nat) (am : Nat) (ap : Nat) (fhe : Nat → Int32) (fst : Nat → Int32) (rc : Nat → Nat) (hh : Nat → Nat → Int32) (ff : Nat → Int32) (fr : Nat → Int32) (fto : Nat → Int32) (fw : Nat → Int32) (fm : Nat → Int32) (rl : Nat → Nat → Nat) (fp : Nat → Int32) (tp : Nat → Nat) (fch : Nat → Int32) (ch : Nat → Nat) (ht : t ≤ 3) (hq1 : 1 ≤ q) (hq : q ≤ 3) (hr8 : r ≤ 8) (hff : ∀ i, i < r → ff i = nI (rl 0 i)) (hfr : ∀ i, i < r → fr i = nI (rl 1 i)) (hfto : ∀ i, i < r → fto i = nI (rl 2 i)) (hfw : ∀ i, i < r → fw i = nI (rl 3 i)) (hfm : ∀ i, i < r → fm i = nI (rl 4 i) - nI 1 ∧ rl 4 i ≤ 2) (hrb4 : ∀ k, k < r → rl 0 k ≤ 3 ∧ rl 1 k ≤ 3 ∧ rl 2 k ≤ 3 ∧ rl 3 k ≤ 3) (htp : ∀ y, y ≤ t → fp y = nI (tp y)) (htp3 : ∀ y, y ≤ t → tp y ≤ 3) (hch : ∀ i, i < t → fch i = nI (ch i) ∧ ch i ≤ r) : zC l yX5_follow wsX5_follow 2 64 0 0 D (zT cI cZ cG cJ) [.ref ru] [(ru, .inr (7, [.ref mo, .ref rch, .ref rhe, .ref rst, .ref rce])), (mo, .inr (5, [.int (nI q), .int (nI g), .int (nI t), .int (nI r), .ref af, .ref ar, .ref at_, .ref aw, .ref am, .ref ap])), (af, .inl (cI, 8, .inl ff)), (ar, .inl (cI, 8, .inl fr)), (at_, .inl (cI, 8, .inl fto)), (aw, .inl (cI, 8, .inl fw)), (am, .inl (cI, 8, .inl fm)), (ap, .inl (cI, 4, .inl fp)), (rch, .inl (cI, 3, .inl fch)), (rhe, .inl (cI, 4, .inl fhe)), (rst, .inl (cI, 4, .inl fst)), (rce, .inl (cG, 4, .inr (.inr (.inr (.inr (fun i => some (rc i))))))), (rc 0, .inl (cI, 4, .inl (hh 0))), (rc 1, .inl (cI, 4, .inl (hh 1))), (rc 2, .inl (cI, 4, .inl (hh 2))), (rc 3, .inl (cI, 4, .inl (hh 3)))] (fun (ov : Option Value) (ow : va_W) => ∃ rb : Int32, ∃ fhe' : Nat → Int32, ∃ fst' : Nat → Int32, ∃ hh' : Nat → Nat → Int32, ov = some (.int rb) ∧ ow = [(ru, .inr (7, [.ref mo, .ref rch, .ref rhe, .ref rst, .ref rce])), (mo, .inr (5, [.int (nI q), .int (nI g), .int (nI t), .int (nI r), .ref af, .ref ar, .ref at_, .ref aw, .ref am, .ref ap])), (af, .inl (cI, 8, .inl ff)), (ar, .inl (cI, 8, .inl fr)), (at_, .inl (cI, 8, .inl fto)), (aw, .inl (cI, 8, .inl fw)), (am, .inl (cI, 8, .inl fm)), (ap, .inl (cI, 4, .inl fp)), (rch, .inl (cI, 3, .inl fch)), (rhe, .inl (cI, 4, .inl fhe')), (rst, .inl (cI, 4, .inl fst')), (rce, .inl (cG, 4, .inr (.inr (.inr (.inr (fun i => some (rc i))))))), (rc 0, .inl (cI, 4, .inl (hh' 0))), (rc 1, .inl (cI, 4, .inl (hh' 1))), (rc 2, .inl (cI, 4, .inl (hh' 2))), (rc 3, .inl (cI, 4, .inl (hh' 3)))] ∧ ((rb = 1 ∧ (zacc q r t rl tp ch)) ∨ (rb = 0 ∧ ¬ (zacc q r t rl tp ch))) ∧ (zacc q r t rl tp ch → zrws fhe' fst' hh' t (zcf r rl tp ch) t)) := by
  refine zC.of (cc := cX5_follow) (maxL := 2) (ret := (some .boolean)) (by decide) rfl (Nat.le_of_ble_eq_true rfl) ?_
  intro p e s m below meth c A ls F hr hlk hnm B hl
  have hl : lv_has ls 2 [(0, .ref ru)] := hl
  refine lv_aload_n F.1 F.2.1 dX5_follow_0 rfl (lv_at hl 0 rfl) ?_
  refine z_callV (wr := [(af, .inl (cI, 8, .inl ff)), (ar, .inl (cI, 8, .inl fr)), (at_, .inl (cI, 8, .inl fto)), (aw, .inl (cI, 8, .inl fw)), (am, .inl (cI, 8, .inl fm)), (rch, .inl (cI, 3, .inl fch))]) (rest := []) (As := []) F B (kX5_begin l D cI cZ cG cJ ru mo rch rhe rst rce q g t r af ar at_ aw am ap fhe fst rc hh fp (by omega)) hl.1 (C := RX5) (T := TX5) (N := 5) (ci := 7) (q0 := 0) gX5_follow_X5_begin rfl 0 yX5_follow_X5_begin rfl rfl rfl [0, 1, 7, 9, 10, 11, 12, 13, 14, 15] [2, 3, 4, 5, 6, 8] rfl rfl rfl rfl (by decide) (Nat.le_of_ble_eq_true rfl) (Nat.le_of_ble_eq_true rfl) (Nat.le_of_ble_eq_true rfl) rfl dX5_follow_1 (show 0 + 0 ≤ 0 by omega) (show 0 + 0 ≤ 0 by omega) (fun vv ww H locs hRR B => ?_)
  obtain ⟨rfl, rfl⟩ := hRR
  have B : zB D (zT cI cZ cG cJ) A s.heap s [(af, .inl (cI, 8, .inl ff)), (ar, .inl (cI, 8, .inl fr)), (at_, .inl (cI, 8, .inl fto)), (aw, .inl (cI, 8, .inl fw)), (am, .inl (cI, 8, .inl fm)), (rch, .inl (cI, 3, .inl fch)), (ru, .inr (7, [.ref mo, .ref rch, .ref rhe, .ref rst, .ref rce])), (mo, .inr (5, [.int (nI q), .int (nI g), .int (nI t), .int (nI r), .ref af, .ref ar, .ref at_, .ref aw, .ref am, .ref ap])), (ap, .inl (cI, 4, .inl fp)), (rhe, .inl (cI, 4, .inl (upd fhe 0 (nI 0)))), (rst, .inl (cI, 4, .inl (upd fst 0 (nI 0)))), (rce, .inl (cG, 4, .inr (.inr (.inr (.inr (fun i => some (rc i))))))), (rc 0, .inl (cI, 4, .inl ((va_up hh 0 (va_cpy fp (hh 0) 0 0 (t + 1))) 0))), (rc 1, .inl (cI, 4, .inl ((va_up hh 0 (va_cpy fp (hh 0) 0 0 (t + 1))) 1))), (rc 2, .inl (cI, 4, .inl ((va_up hh 0 (va_cpy fp (hh 0) 0 0 (t + 1))) 2))), (rc 3, .inl (cI, 4, .inl ((va_up hh 0 (va_cpy fp (hh 0) 0 0 (t + 1))) 3)))] _ _ := B
  refine W.eq (g2 := F0 m 4 ls []) rfl ?_
  refine lv_iconst (v := (nI 0)) F.1 F.2.1 dX5_follow_4 (by decide) ?_
  refine lv_istore_n (lv' := [(1, .int (nI 0)), (0, .ref ru)]) F.1 F.2.1 dX5_follow_5 rfl hl (by decide) rfl (fun ls hl => ?_)
  have loop6 : ∀ (fuel : Nat) (i : Nat) (fhe1 : Nat → Int32) (fst1 : Nat → Int32) (hh1 : Nat → Nat → Int32), t - i < fuel → (i ≤ t) → (zok q r t rl tp ch i) → (zrws fhe1 fst1 hh1 t (zcf r rl tp ch) i) → ∀ (H : Heap) (locs : List Loc) (ls : Array Slot), zB D (zT cI cZ cG cJ) A s.heap s [(ru, .inr (7, [.ref mo, .ref rch, .ref rhe, .ref rst, .ref rce])), (mo, .inr (5, [.int (nI q), .int (nI g), .int (nI t), .int (nI r), .ref af, .ref ar, .ref at_, .ref aw, .ref am, .ref ap])), (af, .inl (cI, 8, .inl ff)), (ar, .inl (cI, 8, .inl fr)), (at_, .inl (cI, 8, .inl fto)), (aw, .inl (cI, 8, .inl fw)), (am, .inl (cI, 8, .inl fm)), (ap, .inl (cI, 4, .inl fp)), (rch, .inl (cI, 3, .inl fch)), (rhe, .inl (cI, 4, .inl fhe1)), (rst, .inl (cI, 4, .inl fst1)), (rce, .inl (cG, 4, .inr (.inr (.inr (.inr (fun i => some (rc i))))))), (rc 0, .inl (cI, 4, .inl (hh1 0))), (rc 1, .inl (cI, 4, .inl (hh1 1))), (rc 2, .inl (cI, 4, .inl (hh1 2))), (rc 3, .inl (cI, 4, .inl (hh1 3)))] H locs → lv_has ls 2 [(0, .ref ru), (1, .int (nI i))] → W p l e { frames := 2, cells := 0, slots := 0, locals := 64 } s m [.ref ru].toArray below meth c H locs 0 0 (zQ below [.ref ru].toArray s D (zT cI cZ cG cJ) A (fun (ov : Option Value) (ow : va_W) => ∃ rb : Int32, ∃ fhe' : Nat → Int32, ∃ fst' : Nat → Int32, ∃ hh' : Nat → Nat → Int32, ov = some (.int rb) ∧ ow = [(ru, .inr (7, [.ref mo, .ref rch, .ref rhe, .ref rst, .ref rce])), (mo, .inr (5, [.int (nI q), .int (nI g), .int (nI t), .int (nI r), .ref af, .ref ar, .ref at_, .ref aw, .ref am, .ref ap])), (af, .inl (cI, 8, .inl ff)), (ar, .inl (cI, 8, .inl fr)), (at_, .inl (cI, 8, .inl fto)), (aw, .inl (cI, 8, .inl fw)), (am, .inl (cI, 8, .inl fm)), (ap, .inl (cI, 4, .inl fp)), (rch, .inl (cI, 3, .inl fch)), (rhe, .inl (cI, 4, .inl fhe')), (rst, .inl (cI, 4, .inl fst')), (rce, .inl (cG, 4, .inr (.inr (.inr (.inr (fun i => some (rc i))))))), (rc 0, .inl (cI, 4, .inl (hh' 0))), (rc 1, .inl (cI, 4, .inl (hh' 1))), (rc 2, .inl (cI, 4, .inl (hh' 2))), (rc 3, .inl (cI, 4, .inl (hh' 3)))] ∧ ((rb = 1 ∧ (zacc q r t rl tp ch)) ∨ (rb = 0 ∧ ¬ (zacc q r t rl tp ch))) ∧ (zacc q r t rl tp ch → zrws fhe' fst' hh' t (zcf r rl tp ch) t)) 0 0) (F0 m 6 ls []) := by
    intro fuel
    induction fuel with
    | zero => intro i fhe1 fst1 hh1 hmz; exact absurd hmz (Nat.not_lt_zero _)
    | succ fuel ih =>
      intro i fhe1 fst1 hh1 hm hi hok hrw H locs ls B hl
      have ih6 := ih
      obtain ⟨hbd1, hbd2, hbd3⟩ := zcf_bd htp3 hrb4 (fun k hk => (hfm k hk).2) (fun j hj => (hch j hj).2) hi hok
      obtain ⟨hrw1, hrw2, hrw3⟩ := hrw i (Nat.le_refl _)
      refine lv_iload_n F.1 F.2.1 dX5_follow_6 rfl (lv_at hl 1 rfl) ?_
      refine lv_aload_n F.1 F.2.1 dX5_follow_7 rfl (lv_at hl 0 rfl) ?_
      refine z_get F B 0 rfl (ci := 7) (C := RX5) (T := TX5) (N := 5) rfl iX5_follow_X5 0 (by decide) fX5_follow_26 rfl dX5_follow_8 ?_
      refine z_get F B 1 rfl (ci := 5) (C := RX3) (T := TX3) (N := 10) rfl iX5_follow_X3 2 (by decide) fX5_follow_37 rfl dX5_follow_11 ?_
      refine z_icmp_ge (tgt := 50) F (by omega) (by omega) dX5_follow_14 (by decide) (fun c14 => ?_) (fun c14 => ?_)
      · have hit : t = i := by omega
        subst hit
        refine lv_aload_n F.1 F.2.1 dX5_follow_50 rfl (lv_at hl 0 rfl) ?_
        refine z_callV (wr := [(af, .inl (cI, 8, .inl ff)), (ar, .inl (cI, 8, .inl fr)), (at_, .inl (cI, 8, .inl fto)), (aw, .inl (cI, 8, .inl fw)), (am, .inl (cI, 8, .inl fm)), (ap, .inl (cI, 4, .inl fp)), (rch, .inl (cI, 3, .inl fch)), (rhe, .inl (cI, 4, .inl fhe1)), (rce, .inl (cG, 4, .inr (.inr (.inr (.inr (fun t => some (rc t))))))), (rc 0, .inl (cI, 4, .inl (hh1 0))), (rc 1, .inl (cI, 4, .inl (hh1 1))), (rc 2, .inl (cI, 4, .inl (hh1 2))), (rc 3, .inl (cI, 4, .inl (hh1 3)))]) (rest := []) (As := []) F B (kX5_accepts l D cI cZ cG cJ ru mo rch rhe rst rce q g t r af ar at_ aw am ap fst1 (((zcf r rl tp ch) t).2.1) (by omega) (by omega) (by omega) (hrw2) (hbd2)) hl.1 (C := RX5) (T := TX5) (N := 5) (ci := 7) (q0 := 0) gX5_follow_X5_accepts rfl 0 yX5_follow_X5_accepts rfl rfl rfl [0, 1, 10] [2, 3, 4, 5, 6, 7, 8, 9, 11, 12, 13, 14, 15] rfl rfl rfl rfl (by decide) (Nat.le_of_ble_eq_true rfl) (Nat.le_of_ble_eq_true rfl) (Nat.le_of_ble_eq_true rfl) rfl dX5_follow_51 (show 0 + 0 ≤ 0 by omega) (show 0 + 0 ≤ 0 by omega) (fun vv ww H locs hRR B => ?_)
        obtain ⟨r_1, rfl, rfl, hb_2⟩ := hRR
        have B : zB D (zT cI cZ cG cJ) A s.heap s [(af, .inl (cI, 8, .inl ff)), (ar, .inl (cI, 8, .inl fr)), (at_, .inl (cI, 8, .inl fto)), (aw, .inl (cI, 8, .inl fw)), (am, .inl (cI, 8, .inl fm)), (ap, .inl (cI, 4, .inl fp)), (rch, .inl (cI, 3, .inl fch)), (rhe, .inl (cI, 4, .inl fhe1)), (rce, .inl (cG, 4, .inr (.inr (.inr (.inr (fun t => some (rc t))))))), (rc 0, .inl (cI, 4, .inl (hh1 0))), (rc 1, .inl (cI, 4, .inl (hh1 1))), (rc 2, .inl (cI, 4, .inl (hh1 2))), (rc 3, .inl (cI, 4, .inl (hh1 3))), (ru, .inr (7, [.ref mo, .ref rch, .ref rhe, .ref rst, .ref rce])), (mo, .inr (5, [.int (nI q), .int (nI g), .int (nI t), .int (nI r), .ref af, .ref ar, .ref at_, .ref aw, .ref am, .ref ap])), (rst, .inl (cI, 4, .inl fst1))] _ _ := B
        rcases hb_2 with ⟨hr1, hpA⟩ | ⟨hr1, hpA⟩ <;> subst hr1
        · refine W.eq (g2 := F0 m 54 ls [.int 1]) rfl ?_
          exact z_zret F hr hlk B (Or.inr rfl) [13, 14, 0, 1, 2, 3, 4, 5, 6, 7, 15, 8, 9, 10, 11, 12] rfl (rfl) dX5_follow_54 (by omega) (by omega) ⟨1, fhe1, fst1, hh1, rfl, rfl, Or.inl ⟨rfl, ⟨hok, hpA⟩⟩, (fun _ => hrw)⟩
        · refine W.eq (g2 := F0 m 54 ls [.int 0]) rfl ?_
          exact z_zret F hr hlk B (Or.inl rfl) [13, 14, 0, 1, 2, 3, 4, 5, 6, 7, 15, 8, 9, 10, 11, 12] rfl (rfl) dX5_follow_54 (by omega) (by omega) ⟨0, fhe1, fst1, hh1, rfl, rfl, Or.inr ⟨rfl, fun q9 => hpA q9.2⟩, (fun _ => hrw)⟩
      · have hc9 := hch i (by omega)
        refine lv_aload_n F.1 F.2.1 dX5_follow_17 rfl (lv_at hl 0 rfl) ?_
        refine lv_iload_n F.1 F.2.1 dX5_follow_18 rfl (lv_at hl 1 rfl) ?_
        refine lv_aload_n F.1 F.2.1 dX5_follow_19 rfl (lv_at hl 0 rfl) ?_
        refine z_get F B 0 rfl (ci := 7) (C := RX5) (T := TX5) (N := 5) rfl iX5_follow_X5 1 (by decide) fX5_follow_9 rfl dX5_follow_20 ?_
        refine lv_iload_n F.1 F.2.1 dX5_follow_23 rfl (lv_at hl 1 rfl) ?_
        refine z_iald F B 8 0 rfl rfl (j := i) (by omega) (by omega) dX5_follow_24 ?_
        refine W.eq (g2 := F0 m 25 ls [.int (nI (ch i)), .int (nI i), .ref ru]) (by rw [hc9.1]) ?_
        refine z_callV (wr := [(at_, .inl (cI, 8, .inl fto)), (aw, .inl (cI, 8, .inl fw)), (ap, .inl (cI, 4, .inl fp)), (rch, .inl (cI, 3, .inl fch))]) (rest := []) (As := [.int (nI i), .int (nI (ch i))]) F B (kX5_canUse l D cI cZ cG cJ ru mo rch rhe rst rce q g t r af ar at_ aw am ap fhe1 fst1 rc hh1 ff fr fm rl (((zcf r rl tp ch) i).1) (((zcf r rl tp ch) i).2.1) (((zcf r rl tp ch) i).2.2) i (ch i) (by omega) (by omega) (by omega) (by omega) (by omega) (by omega) (hff) (hfr) (hfm) (fun k hk => ⟨(hrb4 k hk).1, (hrb4 k hk).2.1⟩) (hrw1) (hrw2) (hbd1) (hbd2) (hrw3) (hbd3)) hl.1 (C := RX5) (T := TX5) (N := 5) (ci := 7) (q0 := 0) gX5_follow_X5_canUse rfl 2 yX5_follow_X5_canUse rfl rfl rfl [0, 1, 2, 3, 6, 9, 10, 11, 12, 13, 14, 15] [4, 5, 7, 8] rfl rfl rfl rfl (by decide) (Nat.le_of_ble_eq_true rfl) (Nat.le_of_ble_eq_true rfl) (Nat.le_of_ble_eq_true rfl) rfl dX5_follow_25 (show 0 + 0 ≤ 0 by omega) (show 0 + 0 ≤ 0 by omega) (fun vv ww H locs hRR B => ?_)
        obtain ⟨r_3, rfl, rfl, hb_4⟩ := hRR
        have B : zB D (zT cI cZ cG cJ) A s.heap s [(at_, .inl (cI, 8, .inl fto)), (aw, .inl (cI, 8, .inl fw)), (ap, .inl (cI, 4, .inl fp)), (rch, .inl (cI, 3, .inl fch)), (ru, .inr (7, [.ref mo, .ref rch, .ref rhe, .ref rst, .ref rce])), (mo, .inr (5, [.int (nI q), .int (nI g), .int (nI t), .int (nI r), .ref af, .ref ar, .ref at_, .ref aw, .ref am, .ref ap])), (af, .inl (cI, 8, .inl ff)), (ar, .inl (cI, 8, .inl fr)), (am, .inl (cI, 8, .inl fm)), (rhe, .inl (cI, 4, .inl fhe1)), (rst, .inl (cI, 4, .inl fst1)), (rce, .inl (cG, 4, .inr (.inr (.inr (.inr (fun i => some (rc i))))))), (rc 0, .inl (cI, 4, .inl (hh1 0))), (rc 1, .inl (cI, 4, .inl (hh1 1))), (rc 2, .inl (cI, 4, .inl (hh1 2))), (rc 3, .inl (cI, 4, .inl (hh1 3)))] _ _ := B
        rcases hb_4 with ⟨hr1, hpC⟩ | ⟨hr1, hpC⟩ <;> subst hr1
        · refine W.eq (g2 := F0 m 28 ls [.int 1]) rfl ?_
          refine lv_if_ne (tgt := 33) F.1 F.2.1 dX5_follow_28 (by decide) (fun _ => ?_) (fun hq => absurd hq (by decide))
          refine lv_aload_n F.1 F.2.1 dX5_follow_33 rfl (lv_at hl 0 rfl) ?_
          refine lv_iload_n F.1 F.2.1 dX5_follow_34 rfl (lv_at hl 1 rfl) ?_
          refine lv_aload_n F.1 F.2.1 dX5_follow_35 rfl (lv_at hl 0 rfl) ?_
          refine z_get F B 4 rfl (ci := 7) (C := RX5) (T := TX5) (N := 5) rfl iX5_follow_X5 1 (by decide) fX5_follow_9 rfl dX5_follow_36 ?_
          refine lv_iload_n F.1 F.2.1 dX5_follow_39 rfl (lv_at hl 1 rfl) ?_
          refine z_iald F B 3 0 rfl rfl (j := i) (by omega) (by omega) dX5_follow_40 ?_
          refine W.eq (g2 := F0 m 41 ls [.int (nI (ch i)), .int (nI i), .ref ru]) (by rw [hc9.1]) ?_
          refine z_callV (wr := [(ap, .inl (cI, 4, .inl fp)), (rch, .inl (cI, 3, .inl fch)), (af, .inl (cI, 8, .inl ff)), (ar, .inl (cI, 8, .inl fr))]) (rest := []) (As := [.int (nI i), .int (nI (ch i))]) F B (kX5_use l D cI cZ cG cJ ru mo rch rhe rst rce q g t r af ar at_ aw am ap fhe1 fst1 rc hh1 fw fto fm rl (((zcf r rl tp ch) i).1) (((zcf r rl tp ch) i).2.1) (((zcf r rl tp ch) i).2.2) i (ch i) (by omega) (by omega) (by omega) (by omega) (hpC) (hfto) (hfw) (hfm) (hrw1) (hrw2) (hbd1) (hrw3)) hl.1 (C := RX5) (T := TX5) (N := 5) (ci := 7) (q0 := 4) gX5_follow_X5_use rfl 2 yX5_follow_X5_use rfl rfl rfl [4, 5, 1, 0, 8, 9, 10, 11, 12, 13, 14, 15] [2, 3, 6, 7] rfl rfl rfl rfl (by decide) (Nat.le_of_ble_eq_true rfl) (Nat.le_of_ble_eq_true rfl) (Nat.le_of_ble_eq_true rfl) rfl dX5_follow_41 (show 0 + 0 ≤ 0 by omega) (show 0 + 0 ≤ 0 by omega) (fun vv ww H locs hRR B => ?_)
          obtain ⟨fhe'_5, fst'_6, hh'_7, rfl, rfl, hU1, hU2, hU3⟩ := hRR
          have B : zB D (zT cI cZ cG cJ) A s.heap s [(ap, .inl (cI, 4, .inl fp)), (rch, .inl (cI, 3, .inl fch)), (af, .inl (cI, 8, .inl ff)), (ar, .inl (cI, 8, .inl fr)), (ru, .inr (7, [.ref mo, .ref rch, .ref rhe, .ref rst, .ref rce])), (mo, .inr (5, [.int (nI q), .int (nI g), .int (nI t), .int (nI r), .ref af, .ref ar, .ref at_, .ref aw, .ref am, .ref ap])), (aw, .inl (cI, 8, .inl fw)), (at_, .inl (cI, 8, .inl fto)), (am, .inl (cI, 8, .inl fm)), (rhe, .inl (cI, 4, .inl fhe'_5)), (rst, .inl (cI, 4, .inl fst'_6)), (rce, .inl (cG, 4, .inr (.inr (.inr (.inr (fun i => some (rc i))))))), (rc 0, .inl (cI, 4, .inl (hh'_7 0))), (rc 1, .inl (cI, 4, .inl (hh'_7 1))), (rc 2, .inl (cI, 4, .inl (hh'_7 2))), (rc 3, .inl (cI, 4, .inl (hh'_7 3)))] _ _ := B
          refine W.eq (g2 := F0 m 44 ls []) rfl ?_
          refine lv_iinc (v := (nI (i + 1))) (lv' := [(1, .int (nI (i + 1))), (0, .ref ru)]) F.1 F.2.1 dX5_follow_44 hl (k := 1) rfl (by rw [show Int32.ofInt 1 = nI 1 from rfl, nI_add]) (by decide) rfl (fun ls hl => ?_)
          refine lv_goto (tgt := 6) F.1 F.2.1 dX5_follow_47 (by decide) ?_
          exact ih6 (i + 1) fhe'_5 fst'_6 hh'_7 (by first | omega | (simp only [] at *; omega)) (by omega) (zok_S hok hpC) (zrws_S hrw hU1 hU2 hU3) _ _ _ (B.sub [4, 5, 2, 3, 7, 6, 8, 0, 1, 9, 10, 11, 12, 13, 14, 15] rfl (rfl)) (lv_sub hl [1, 0] rfl)
        · refine W.eq (g2 := F0 m 28 ls [.int 0]) rfl ?_
          refine lv_if_ne (tgt := 33) F.1 F.2.1 dX5_follow_28 (by decide) (fun hq => absurd (by decide) hq) (fun _ => ?_)
          refine lv_iconst (v := (nI 0)) F.1 F.2.1 dX5_follow_31 (by decide) ?_
          exact z_zret F hr hlk B (Or.inl rfl) [4, 5, 6, 7, 0, 1, 8, 2, 3, 9, 10, 11, 12, 13, 14, 15] rfl (rfl) dX5_follow_32 (by omega) (by omega) ⟨(nI 0), fhe1, fst1, hh1, rfl, rfl, Or.inr ⟨rfl, fun q9 => hpC (q9.1 i (by omega))⟩, (fun q9 => absurd (q9.1 i (by omega)) hpC)⟩
  exact loop6 (t - 0 + 1) 0 (upd fhe 0 (nI 0)) (upd fst 0 (nI 0)) (va_up hh 0 (va_cpy fp (hh 0) 0 0 (t + 1))) (Nat.lt_succ_self _) (by omega) (fun j hj => absurd hj (Nat.not_lt_zero _)) (zrws_0 htp) _ _ _ (B.sub [6, 7, 0, 1, 2, 3, 4, 8, 5, 9, 10, 11, 12, 13, 14, 15] rfl (rfl)) (lv_sub hl [1, 0] rfl)
