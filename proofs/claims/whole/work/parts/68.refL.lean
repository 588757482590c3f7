/-! CONTRACTS of the reference: more, may, choice, truth, covers, city -/
/-- the choices as one number, base r + 1 -/
def zval (r : Nat) (ch : Nat → Nat) : Nat → Nat
  | 0 => 0
  | n + 1 => zval r ch n * (r + 1) + ch n
theorem zm1_lt {k : Nat} (hk : k < 2 ^ 30) (h : nI k - nI 1 < 0) : k = 0 := by
  have e := pk_sub_toInt (a := k) (b := 1) hk (by decide)
  rw [Int32.lt_iff_toInt_lt, e, Int32.toInt_zero] at h
  omega
theorem zm1_ge {k : Nat} (h : ¬ nI k - nI 1 < 0) : 1 ≤ k := by
  by_cases e : k = 0
  · subst e
    exact absurd (by decide) h
  · omega
theorem zval_eq {r : Nat} {ch ch' : Nat → Nat} : ∀ {n : Nat}, (∀ j, j < n → ch' j = ch j) → zval r ch' n = zval r ch n
  | 0, _ => rfl
  | n + 1, h => by rw [zval, zval, zval_eq (fun j hj => h j (by omega)), h n (by omega)]
theorem zval_up {r k : Nat} {ch ch' : Nat → Nat} (h1 : ∀ j, j < k → ch' j = ch j) (h2 : ch' k = ch k + 1) : ∀ {n : Nat}, k < n → (∀ j, k < j → j < n → ch' j = 0 ∧ ch j = r) → zval r ch' n = zval r ch n + 1
  | 0, hn, _ => absurd hn (Nat.not_lt_zero _)
  | n + 1, hn, h3 => by
    by_cases e : k = n
    · subst e
      rw [zval, zval, zval_eq h1, h2]
      omega
    · obtain ⟨a, b⟩ := h3 n (by omega) (by omega)
      rw [zval, zval, zval_up h1 h2 (by omega) (fun j q1 q2 => h3 j q1 (by omega)), a, b, Nat.add_mul]
      omega
theorem zval_S {r t k : Nat} {ch : Nat → Nat} {f : Nat → Int32} (hk1 : 1 ≤ k) (hk : k ≤ t) (hz1 : ∀ j, k ≤ j → j < t → f j = nI 0 ∧ ch j = r) (hz2 : ∀ j, j < k → f j = nI (ch j)) (hd : ∀ i, i < t → ch i ≤ r) (hlt : ch (k - 1) + 1 ≤ r) : ∃ ch' : Nat → Nat, (∀ i, i < t → upd f (k - 1) (nI (ch (k - 1) + 1)) i = nI (ch' i) ∧ ch' i ≤ r) ∧ zval r ch' t = zval r ch t + 1 := by
  refine ⟨fun j => if j < k - 1 then ch j else if j = k - 1 then ch j + 1 else 0, fun i hi => ?_, ?_⟩
  · by_cases e : i = k - 1
    · subst e
      rw [pk_us]
      simp only [Nat.lt_irrefl, if_false, if_true]
      exact ⟨by trivial, hlt⟩
    · rw [pk_un e]
      by_cases q : i < k - 1
      · simp only [q, if_true]
        exact ⟨hz2 i (by omega), hd i hi⟩
      · simp only [q, e, if_false]
        exact ⟨(hz1 i (by omega) hi).1, Nat.zero_le _⟩
  · refine zval_up (k := k - 1) (fun j hj => if_pos hj) ?_ (by omega) (fun j q1 q2 => ⟨?_, (hz1 j (by omega) q2).2⟩)
    · simp only [Nat.lt_irrefl, if_false, if_true]
    · simp only [show ¬ j < k - 1 by omega, show ¬ j = k - 1 by omega, if_false]
theorem iX8_more_X8 : ∀ w ∈ u_ws RX8 TX8 37, w ∈ wsX8_more := fun w h => List.mem_cons_of_mem _ (List.mem_append_right _ h)
theorem fX8_more_16 : Cond.fieldLink RX8 16 "TourChainModel" "bound" "I" ∈ wsX8_more := by decide +kernel
theorem fX8_more_56 : Cond.fieldLink RX8 56 "TourChainModel" "choice" "[I" ∈ wsX8_more := by decide +kernel
theorem fX8_more_96 : Cond.fieldLink RX8 96 "TourChainModel" "rules" "I" ∈ wsX8_more := by decide +kernel
set_option maxHeartbeats 4000000 in
set_option maxRecDepth 100000 in
theorem kX8_more (l : Launch) (D : va_G) (cI cZ cG cJ : ClassId) (mm : Nat) (th : Nat) (q : Nat) (g : Nat) (t : Nat) (r : Nat) (mb : Nat) (nc : Nat) (nl : Nat) (pv : Nat) (va : Nat) (n3 : Nat) (ve : Nat) (ed : Nat) (se : Nat) (ci : Nat) (mr : Nat) (mt : Nat) (ld : Nat) (A8 : Nat → Nat) (fch : Nat → Int32) (ch : Nat → Nat) (ht : t ≤ 3) (ht1 : 1 ≤ t) (hr8 : r ≤ 8) (hch : ∀ i, i < t → fch i = nI (ch i) ∧ ch i ≤ r) : zC l yX8_more wsX8_more 0 0 0 0 D (zT cI cZ cG cJ) [.ref mm] [(mm, .inr (10, zmo (nI th) (nI q) (nI g) (nI t) (nI r) (nI mb) (nI nc) (nI nl) (nI pv) (nI va) (nI n3) (nI ve) (nI ed) (nI se) (nI ci) (nI mr) (nI mt) (nI ld) A8)), (A8 12, .inl (cI, 3, .inl fch))] (fun (ov : Option Value) (ow : va_W) => ∃ rb : Int32, ∃ fch' : Nat → Int32, ov = some (.int rb) ∧ ow = [(mm, .inr (10, zmo (nI th) (nI q) (nI g) (nI t) (nI r) (nI mb) (nI nc) (nI nl) (nI pv) (nI va) (nI n3) (nI ve) (nI ed) (nI se) (nI ci) (nI mr) (nI mt) (nI ld) A8)), (A8 12, .inl (cI, 3, .inl fch'))] ∧ ((rb = 1 ∧ (¬ ∀ j, j < t → ch j = r)) ∨ (rb = 0 ∧ ¬ (¬ ∀ j, j < t → ch j = r))) ∧ ((¬ ∀ j, j < t → ch j = r) → ∃ ch' : Nat → Nat, (∀ i, i < t → fch' i = nI (ch' i) ∧ ch' i ≤ r) ∧ zval r ch' t = zval r ch t + 1)) := by
  refine zC.of (cc := cX8_more) (maxL := 2) (ret := (some .boolean)) (by decide) rfl (Nat.le_of_ble_eq_true rfl) ?_
  intro p e s m below meth c A ls F hr hlk hnm B hl
  have hl : lv_has ls 2 [(0, .ref mm)] := hl
  refine lv_aload_n F.1 F.2.1 dX8_more_0 rfl (lv_at hl 0 rfl) ?_
  refine z_get F B 0 rfl (ci := 10) (C := RX8) (T := TX8) (N := 37) rfl iX8_more_X8 3 (by decide) fX8_more_16 rfl dX8_more_1 ?_
  refine lv_iconst (v := (nI 1)) F.1 F.2.1 dX8_more_4 (by decide) ?_
  refine lv_isub F.1 F.2.1 dX8_more_5 ?_
  refine lv_istore_n (lv' := [(1, .int ((nI t) - (nI 1))), (0, .ref mm)]) F.1 F.2.1 dX8_more_6 rfl hl (by decide) rfl (fun ls hl => ?_)
  have loop7 : ∀ (fuel : Nat) (k : Nat) (fch1 : Nat → Int32), k < fuel → (k ≤ t) → (∀ j, k ≤ j → j < t → fch1 j = nI 0 ∧ ch j = r) → (∀ j, j < k → fch1 j = nI (ch j)) → ∀ (H : Heap) (locs : List Loc) (ls : Array Slot), zB D (zT cI cZ cG cJ) A s.heap s [(mm, .inr (10, zmo (nI th) (nI q) (nI g) (nI t) (nI r) (nI mb) (nI nc) (nI nl) (nI pv) (nI va) (nI n3) (nI ve) (nI ed) (nI se) (nI ci) (nI mr) (nI mt) (nI ld) A8)), (A8 12, .inl (cI, 3, .inl fch1))] H locs → lv_has ls 2 [(0, .ref mm), (1, .int (nI k - nI 1))] → W p l e { frames := 0, cells := 0, slots := 0, locals := 0 } s m [.ref mm].toArray below meth c H locs 0 0 (zQ below [.ref mm].toArray s D (zT cI cZ cG cJ) A (fun (ov : Option Value) (ow : va_W) => ∃ rb : Int32, ∃ fch' : Nat → Int32, ov = some (.int rb) ∧ ow = [(mm, .inr (10, zmo (nI th) (nI q) (nI g) (nI t) (nI r) (nI mb) (nI nc) (nI nl) (nI pv) (nI va) (nI n3) (nI ve) (nI ed) (nI se) (nI ci) (nI mr) (nI mt) (nI ld) A8)), (A8 12, .inl (cI, 3, .inl fch'))] ∧ ((rb = 1 ∧ (¬ ∀ j, j < t → ch j = r)) ∨ (rb = 0 ∧ ¬ (¬ ∀ j, j < t → ch j = r))) ∧ ((¬ ∀ j, j < t → ch j = r) → ∃ ch' : Nat → Nat, (∀ i, i < t → fch' i = nI (ch' i) ∧ ch' i ≤ r) ∧ zval r ch' t = zval r ch t + 1)) 0 0) (F0 m 7 ls []) := by
    intro fuel
    induction fuel with
    | zero => intro k fch1 hmz; exact absurd hmz (Nat.not_lt_zero _)
    | succ fuel ih =>
      intro k fch1 hm hk hz1 hz2 H locs ls B hl
      have ih7 := ih
      refine lv_iload_n F.1 F.2.1 dX8_more_7 rfl (lv_at hl 1 rfl) ?_
      refine lv_if_lt (tgt := 49) F.1 F.2.1 dX8_more_8 (by decide) (fun c8 => ?_) (fun c8 => ?_)
      · have hk0 : k = 0 := zm1_lt (by omega) c8
        refine lv_iconst (v := (nI 0)) F.1 F.2.1 dX8_more_49 (by decide) ?_
        exact z_zret F hr hlk B (Or.inl rfl) [0, 1] rfl (rfl) dX8_more_50 (by omega) (by omega) ⟨(nI 0), fch1, rfl, rfl, Or.inr ⟨rfl, fun q9 => q9 (fun j hj => (hz1 j (by omega) hj).2)⟩, (fun q9 => absurd (fun j hj => (hz1 j (by omega) hj).2) q9)⟩
      · have hk1 : 1 ≤ k := zm1_ge c8
        have hck := hch (k - 1) (by omega)
        rw [show nI k - nI 1 = nI (k - 1) from pk_sub hk1] at hl
        have hl : lv_has ls 2 [(0, .ref mm), (1, .int (nI (k - 1)))] := hl
        refine lv_aload_n F.1 F.2.1 dX8_more_11 rfl (lv_at hl 0 rfl) ?_
        refine z_get F B 0 rfl (ci := 10) (C := RX8) (T := TX8) (N := 37) rfl iX8_more_X8 29 (by decide) fX8_more_56 rfl dX8_more_12 ?_
        refine lv_iload_n F.1 F.2.1 dX8_more_15 rfl (lv_at hl 1 rfl) ?_
        refine lv_dup2_11 F.1 F.2.1 dX8_more_16 rfl rfl ?_
        refine z_iald F B 1 0 rfl rfl (j := k - 1) (by omega) (by omega) dX8_more_17 ?_
        refine W.eq (g2 := F0 m 18 ls [.int (nI (ch (k - 1))), .int (nI (k - 1)), .ref (A8 12)]) (by rw [hz2 (k - 1) (by omega)]) ?_
        refine lv_iconst (v := (nI 1)) F.1 F.2.1 dX8_more_18 (by decide) ?_
        refine z_iadd F dX8_more_19 ?_
        refine z_iast F B 1 0 rfl rfl (j := k - 1) (by omega) (by omega) dX8_more_20 (fun H locs B => ?_)
        have B : zB D (zT cI cZ cG cJ) A s.heap s [(mm, .inr (10, zmo (nI th) (nI q) (nI g) (nI t) (nI r) (nI mb) (nI nc) (nI nl) (nI pv) (nI va) (nI n3) (nI ve) (nI ed) (nI se) (nI ci) (nI mr) (nI mt) (nI ld) A8)), (A8 12, .inl (cI, 3, .inl (upd fch1 (k - 1) (nI (ch (k - 1) + 1)))))] _ _ := B
        refine lv_aload_n F.1 F.2.1 dX8_more_21 rfl (lv_at hl 0 rfl) ?_
        refine z_get F B 0 rfl (ci := 10) (C := RX8) (T := TX8) (N := 37) rfl iX8_more_X8 29 (by decide) fX8_more_56 rfl dX8_more_22 ?_
        refine lv_iload_n F.1 F.2.1 dX8_more_25 rfl (lv_at hl 1 rfl) ?_
        refine z_iald F B 1 0 rfl rfl (j := k - 1) (by omega) (by omega) dX8_more_26 ?_
        refine W.eq (g2 := F0 m 27 ls [.int (nI (ch (k - 1) + 1))]) (by rw [pk_us]) ?_
        refine lv_aload_n F.1 F.2.1 dX8_more_27 rfl (lv_at hl 0 rfl) ?_
        refine z_get F B 0 rfl (ci := 10) (C := RX8) (T := TX8) (N := 37) rfl iX8_more_X8 4 (by decide) fX8_more_96 rfl dX8_more_28 ?_
        refine z_icmp_gt (tgt := 36) F (by omega) (by omega) dX8_more_31 (by decide) (fun c31 => ?_) (fun c31 => ?_)
        · refine lv_aload_n F.1 F.2.1 dX8_more_36 rfl (lv_at hl 0 rfl) ?_
          refine z_get F B 0 rfl (ci := 10) (C := RX8) (T := TX8) (N := 37) rfl iX8_more_X8 29 (by decide) fX8_more_56 rfl dX8_more_37 ?_
          refine lv_iload_n F.1 F.2.1 dX8_more_40 rfl (lv_at hl 1 rfl) ?_
          refine lv_iconst (v := (nI 0)) F.1 F.2.1 dX8_more_41 (by decide) ?_
          refine z_iast F B 1 0 rfl rfl (j := k - 1) (by omega) (by omega) dX8_more_42 (fun H locs B => ?_)
          have B : zB D (zT cI cZ cG cJ) A s.heap s [(mm, .inr (10, zmo (nI th) (nI q) (nI g) (nI t) (nI r) (nI mb) (nI nc) (nI nl) (nI pv) (nI va) (nI n3) (nI ve) (nI ed) (nI se) (nI ci) (nI mr) (nI mt) (nI ld) A8)), (A8 12, .inl (cI, 3, .inl (upd (upd fch1 (k - 1) (nI (ch (k - 1) + 1))) (k - 1) (nI 0))))] _ _ := B
          refine lv_iinc (v := (nI (k - 1) - nI 1)) (lv' := [(1, .int (nI (k - 1) - nI 1)), (0, .ref mm)]) F.1 F.2.1 dX8_more_43 hl (k := 1) rfl (by rw [Int32.sub_eq_add_neg]; rfl) (by decide) rfl (fun ls hl => ?_)
          refine lv_goto (tgt := 7) F.1 F.2.1 dX8_more_46 (by decide) ?_
          exact ih7 (k - 1) (upd (upd fch1 (k - 1) (nI (ch (k - 1) + 1))) (k - 1) (nI 0)) (by first | omega | (simp only [] at *; omega)) (by omega) (fun j h1 h2 => by by_cases e9 : j = k - 1; subst e9; exact ⟨pk_us, by omega⟩; rw [pk_un e9, pk_un e9]; exact hz1 j (by omega) h2) (fun j hj => by rw [pk_un (by omega), pk_un (by omega)]; exact hz2 j (by omega)) _ _ _ (B.sub [0, 1] rfl (rfl)) (lv_sub hl [1, 0] (rfl))
        · refine lv_iconst (v := (nI 1)) F.1 F.2.1 dX8_more_34 (by decide) ?_
          exact z_zret F hr hlk B (Or.inr rfl) [0, 1] rfl (rfl) dX8_more_35 (by omega) (by omega) ⟨(nI 1), (upd fch1 (k - 1) (nI (ch (k - 1) + 1))), rfl, rfl, Or.inl ⟨rfl, fun q9 => by have := q9 (k - 1) (by omega); omega⟩, (fun _ => zval_S hk1 hk hz1 hz2 (fun i hi => (hch i hi).2) (by omega))⟩
  exact loop7 (t + 1) t fch (Nat.lt_succ_self _) (by omega) (fun j h1 h2 => absurd h2 (by omega)) (fun j hj => (hch j hj).1) _ _ _ (B.sub [0, 1] rfl (rfl)) (lv_sub hl [1, 0] (rfl))
theorem iX8_may_X8 : ∀ w ∈ u_ws RX8 TX8 37, w ∈ wsX8_may := fun w h => List.mem_cons_of_mem _ (List.mem_append_right _ h)
theorem fX8_may_89 : Cond.fieldLink RX8 89 "TourChainModel" "hasTrip" "Z" ∈ wsX8_may := by decide +kernel
theorem fX8_may_79 : Cond.fieldLink RX8 79 "TourChainModel" "thrown" "I" ∈ wsX8_may := by decide +kernel
set_option maxHeartbeats 4000000 in
set_option maxRecDepth 100000 in
theorem kX8_may (l : Launch) (D : va_G) (cI cZ cG cJ : ClassId) (mm : Nat) (th : Nat) (q : Nat) (g : Nat) (t : Nat) (r : Nat) (mb : Nat) (nc : Nat) (nl : Nat) (pv : Nat) (va : Nat) (n3 : Nat) (ve : Nat) (ed : Nat) (se : Nat) (ci : Nat) (mr : Nat) (mt : Nat) (ld : Nat) (A8 : Nat → Nat) (thr : Nat) (hmt : mt ≤ 1) (hthr : thr ≤ 1) : zC l yX8_may wsX8_may 0 0 0 0 D (zT cI cZ cG cJ) [.ref mm, .int (nI thr)] [(mm, .inr (10, zmo (nI th) (nI q) (nI g) (nI t) (nI r) (nI mb) (nI nc) (nI nl) (nI pv) (nI va) (nI n3) (nI ve) (nI ed) (nI se) (nI ci) (nI mr) (nI mt) (nI ld) A8))] (fun (ov : Option Value) (ow : va_W) => ∃ rb : Int32, ∃ th' : Nat, ov = some (.int rb) ∧ ow = [(mm, .inr (10, zmo (nI th') (nI q) (nI g) (nI t) (nI r) (nI mb) (nI nc) (nI nl) (nI pv) (nI va) (nI n3) (nI ve) (nI ed) (nI se) (nI ci) (nI mr) (nI mt) (nI ld) A8))] ∧ ((rb = 1 ∧ (¬ mt = 0 ∧ ¬ thr = 0)) ∨ (rb = 0 ∧ ¬ (¬ mt = 0 ∧ ¬ thr = 0))) ∧ ((mt = 0 ∧ th' = 1) ∨ (¬ mt = 0 ∧ thr = 0 ∧ th' = 2) ∨ (¬ mt = 0 ∧ ¬ thr = 0 ∧ th' = 0))) := by
  refine zC.of (cc := cX8_may) (maxL := 2) (ret := (some .boolean)) (by decide) rfl (Nat.le_of_ble_eq_true rfl) ?_
  intro p e s m below meth c A ls F hr hlk hnm B hl
  have hl : lv_has ls 2 [(0, .ref mm), (1, .int (nI thr))] := hl
  refine lv_aload_n F.1 F.2.1 dX8_may_0 rfl (lv_at hl 0 rfl) ?_
  refine lv_aload_n F.1 F.2.1 dX8_may_1 rfl (lv_at hl 0 rfl) ?_
  refine z_get F B 0 rfl (ci := 10) (C := RX8) (T := TX8) (N := 37) rfl iX8_may_X8 28 (by decide) fX8_may_89 rfl dX8_may_2 ?_
  refine z_if_ne (tgt := 12) F (by omega) dX8_may_5 (by decide) (fun c5 => ?_) (fun c5 => ?_)
  · refine lv_iload_n F.1 F.2.1 dX8_may_12 rfl (lv_at hl 1 rfl) ?_
    refine z_if_ne (tgt := 20) F (by omega) dX8_may_13 (by decide) (fun c13 => ?_) (fun c13 => ?_)
    · refine lv_iconst (v := (nI 0)) F.1 F.2.1 dX8_may_20 (by decide) ?_
      refine z_put F B 0 rfl (ci := 10) (C := RX8) (T := TX8) (N := 37) rfl iX8_may_X8 tyX8 tyX8_ok nmX8 0 (by decide) fX8_may_79 rfl (v := .int (nI 0)) rfl rfl (Nat.le_of_ble_eq_true rfl) dX8_may_21 (fun H locs B => ?_)
      have B : zB D (zT cI cZ cG cJ) A s.heap s [(mm, .inr (10, zmo (nI 0) (nI q) (nI g) (nI t) (nI r) (nI mb) (nI nc) (nI nl) (nI pv) (nI va) (nI n3) (nI ve) (nI ed) (nI se) (nI ci) (nI mr) (nI mt) (nI ld) A8))] _ _ := B
      refine lv_aload_n F.1 F.2.1 dX8_may_24 rfl (lv_at hl 0 rfl) ?_
      refine z_get F B 0 rfl (ci := 10) (C := RX8) (T := TX8) (N := 37) rfl iX8_may_X8 0 (by decide) fX8_may_79 rfl dX8_may_25 ?_
      refine lv_if_ne (tgt := 35) F.1 F.2.1 dX8_may_28 (by decide) (fun hq => absurd (by decide) hq) (fun _ => ?_)
      refine lv_iconst (v := (nI 1)) F.1 F.2.1 dX8_may_31 (by decide) ?_
      refine lv_goto (tgt := 36) F.1 F.2.1 dX8_may_32 (by decide) ?_
      exact z_zret F hr hlk B (Or.inr rfl) [0] rfl (rfl) dX8_may_36 (by omega) (by omega) ⟨(nI 1), 0, rfl, rfl, Or.inl ⟨rfl, by omega⟩, (by omega)⟩
    · refine lv_iconst (v := (nI 2)) F.1 F.2.1 dX8_may_16 (by decide) ?_
      refine lv_goto (tgt := 21) F.1 F.2.1 dX8_may_17 (by decide) ?_
      refine z_put F B 0 rfl (ci := 10) (C := RX8) (T := TX8) (N := 37) rfl iX8_may_X8 tyX8 tyX8_ok nmX8 0 (by decide) fX8_may_79 rfl (v := .int (nI 2)) rfl rfl (Nat.le_of_ble_eq_true rfl) dX8_may_21 (fun H locs B => ?_)
      have B : zB D (zT cI cZ cG cJ) A s.heap s [(mm, .inr (10, zmo (nI 2) (nI q) (nI g) (nI t) (nI r) (nI mb) (nI nc) (nI nl) (nI pv) (nI va) (nI n3) (nI ve) (nI ed) (nI se) (nI ci) (nI mr) (nI mt) (nI ld) A8))] _ _ := B
      refine lv_aload_n F.1 F.2.1 dX8_may_24 rfl (lv_at hl 0 rfl) ?_
      refine z_get F B 0 rfl (ci := 10) (C := RX8) (T := TX8) (N := 37) rfl iX8_may_X8 0 (by decide) fX8_may_79 rfl dX8_may_25 ?_
      refine lv_if_ne (tgt := 35) F.1 F.2.1 dX8_may_28 (by decide) (fun _ => ?_) (fun hq => absurd hq (by decide))
      refine lv_iconst (v := (nI 0)) F.1 F.2.1 dX8_may_35 (by decide) ?_
      exact z_zret F hr hlk B (Or.inl rfl) [0] rfl (rfl) dX8_may_36 (by omega) (by omega) ⟨(nI 0), 2, rfl, rfl, Or.inr ⟨rfl, by omega⟩, (by omega)⟩
  · refine lv_iconst (v := (nI 1)) F.1 F.2.1 dX8_may_8 (by decide) ?_
    refine lv_goto (tgt := 21) F.1 F.2.1 dX8_may_9 (by decide) ?_
    refine z_put F B 0 rfl (ci := 10) (C := RX8) (T := TX8) (N := 37) rfl iX8_may_X8 tyX8 tyX8_ok nmX8 0 (by decide) fX8_may_79 rfl (v := .int (nI 1)) rfl rfl (Nat.le_of_ble_eq_true rfl) dX8_may_21 (fun H locs B => ?_)
    have B : zB D (zT cI cZ cG cJ) A s.heap s [(mm, .inr (10, zmo (nI 1) (nI q) (nI g) (nI t) (nI r) (nI mb) (nI nc) (nI nl) (nI pv) (nI va) (nI n3) (nI ve) (nI ed) (nI se) (nI ci) (nI mr) (nI mt) (nI ld) A8))] _ _ := B
    refine lv_aload_n F.1 F.2.1 dX8_may_24 rfl (lv_at hl 0 rfl) ?_
    refine z_get F B 0 rfl (ci := 10) (C := RX8) (T := TX8) (N := 37) rfl iX8_may_X8 0 (by decide) fX8_may_79 rfl dX8_may_25 ?_
    refine lv_if_ne (tgt := 35) F.1 F.2.1 dX8_may_28 (by decide) (fun _ => ?_) (fun hq => absurd hq (by decide))
    refine lv_iconst (v := (nI 0)) F.1 F.2.1 dX8_may_35 (by decide) ?_
    exact z_zret F hr hlk B (Or.inl rfl) [0] rfl (rfl) dX8_may_36 (by omega) (by omega) ⟨(nI 0), 1, rfl, rfl, Or.inr ⟨rfl, by omega⟩, (by omega)⟩
theorem iX8_choice_X8 : ∀ w ∈ u_ws RX8 TX8 37, w ∈ wsX8_choice := fun w h => List.mem_cons_of_mem _ (List.mem_append_right _ h)
theorem fX8_choice_79 : Cond.fieldLink RX8 79 "TourChainModel" "thrown" "I" ∈ wsX8_choice := by decide +kernel
theorem fX8_choice_86 : Cond.fieldLink RX8 86 "TourChainModel" "hasRun" "Z" ∈ wsX8_choice := by decide +kernel
theorem fX8_choice_16 : Cond.fieldLink RX8 16 "TourChainModel" "bound" "I" ∈ wsX8_choice := by decide +kernel
theorem yX8_choice_X8_in : yX8_in.cls = RX8 ∧ yX8_in.cls ≠ "java/lang/invoke/MethodHandle" ∧ yX8_in.cls ≠ "java/lang/invoke/VarHandle" ∧ (parseMethodDescriptor yX8_in.desc).map (fun d => d.parameters.length) = some 3 := by decide +kernel
theorem fX8_choice_56 : Cond.fieldLink RX8 56 "TourChainModel" "choice" "[I" ∈ wsX8_choice := by decide +kernel
set_option maxHeartbeats 4000000 in
set_option maxRecDepth 100000 in
theorem kX8_choice (l : Launch) (D : va_G) (cI cZ cG cJ : ClassId) (mm : Nat) (th : Nat) (q : Nat) (g : Nat) (t : Nat) (r : Nat) (mb : Nat) (nc : Nat) (nl : Nat) (pv : Nat) (va : Nat) (n3 : Nat) (ve : Nat) (ed : Nat) (se : Nat) (ci : Nat) (mr : Nat) (mt : Nat) (ld : Nat) (A8 : Nat → Nat) (fch : Nat → Int32) (ch : Nat → Nat) (u1 : Int32) (hfl : mr ≤ 1) (ht : t ≤ 3) (ht1 : 1 ≤ t) (hch : mr = 1 → ∀ i, i < t → fch i = nI (ch i)) : zC l yX8_choice wsX8_choice 1 22 0 0 D (zT cI cZ cG cJ) [.ref mm, .int u1] [(mm, .inr (10, zmo (nI th) (nI q) (nI g) (nI t) (nI r) (nI mb) (nI nc) (nI nl) (nI pv) (nI va) (nI n3) (nI ve) (nI ed) (nI se) (nI ci) (nI mr) (nI mt) (nI ld) A8)), (A8 12, .inl (cI, 3, .inl fch))] (fun (ov : Option Value) (ow : va_W) => ov = some (.int (zif (mr = 1 ∧ zq u1 t) (nI (ch (zn u1))) (-1))) ∧ ow = [(mm, .inr (10, zmo (nI 0) (nI q) (nI g) (nI t) (nI r) (nI mb) (nI nc) (nI nl) (nI pv) (nI va) (nI n3) (nI ve) (nI ed) (nI se) (nI ci) (nI mr) (nI mt) (nI ld) A8)), (A8 12, .inl (cI, 3, .inl fch))]) := by
  refine zC.of (cc := cX8_choice) (maxL := 2) (ret := (some .int)) (by decide) rfl (Nat.le_of_ble_eq_true rfl) ?_
  intro p e s m below meth c A ls F hr hlk hnm B hl
  have hl : lv_has ls 2 [(0, .ref mm), (1, .int u1)] := hl
  refine lv_aload_n F.1 F.2.1 dX8_choice_0 rfl (lv_at hl 0 rfl) ?_
  refine lv_iconst (v := (nI 0)) F.1 F.2.1 dX8_choice_1 (by decide) ?_
  refine z_put F B 0 rfl (ci := 10) (C := RX8) (T := TX8) (N := 37) rfl iX8_choice_X8 tyX8 tyX8_ok nmX8 0 (by decide) fX8_choice_79 rfl (v := .int (nI 0)) rfl rfl (Nat.le_of_ble_eq_true rfl) dX8_choice_2 (fun H locs B => ?_)
  have B : zB D (zT cI cZ cG cJ) A s.heap s [(mm, .inr (10, zmo (nI 0) (nI q) (nI g) (nI t) (nI r) (nI mb) (nI nc) (nI nl) (nI pv) (nI va) (nI n3) (nI ve) (nI ed) (nI se) (nI ci) (nI mr) (nI mt) (nI ld) A8)), (A8 12, .inl (cI, 3, .inl fch))] _ _ := B
  refine lv_aload_n F.1 F.2.1 dX8_choice_5 rfl (lv_at hl 0 rfl) ?_
  refine z_get F B 0 rfl (ci := 10) (C := RX8) (T := TX8) (N := 37) rfl iX8_choice_X8 27 (by decide) fX8_choice_86 rfl dX8_choice_6 ?_
  refine z_if_eq (tgt := 35) F (by omega) dX8_choice_9 (by decide) (fun c9 => ?_) (fun c9 => ?_)
  · refine lv_iconst (v := (-1)) F.1 F.2.1 dX8_choice_35 (by decide) ?_
    exact z_iret F hr hlk B [0, 1] rfl (rfl) dX8_choice_36 (by omega) (by omega) ⟨by rw [zif_f (by intro q9; first | exact absurd q9.1 (by omega) | exact g1 q9.2)], rfl⟩
  · refine lv_iload_n F.1 F.2.1 dX8_choice_12 rfl (lv_at hl 1 rfl) ?_
    refine lv_iconst (v := (nI 0)) F.1 F.2.1 dX8_choice_13 (by decide) ?_
    refine lv_aload_n F.1 F.2.1 dX8_choice_14 rfl (lv_at hl 0 rfl) ?_
    refine z_get F B 0 rfl (ci := 10) (C := RX8) (T := TX8) (N := 37) rfl iX8_choice_X8 3 (by decide) fX8_choice_16 rfl dX8_choice_15 ?_
    refine lv_iconst (v := (nI 1)) F.1 F.2.1 dX8_choice_18 (by decide) ?_
    refine z_isub F (by omega) dX8_choice_19 ?_
    refine z_callS (wr := [(mm, .inr (10, zmo (nI 0) (nI q) (nI g) (nI t) (nI r) (nI mb) (nI nc) (nI nl) (nI pv) (nI va) (nI n3) (nI ve) (nI ed) (nI se) (nI ci) (nI mr) (nI mt) (nI ld) A8)), (A8 12, .inl (cI, 3, .inl fch))]) (rest := []) (As := [.int u1, .int (nI 0), .int (nI (t - 1))]) F B (kX8_in l D cI cZ cG cJ u1 (nI 0) (nI (t - 1))) hl.1 gX8_choice_X8_in rfl 3 yX8_choice_X8_in rfl [] [0, 1] rfl rfl rfl rfl (by decide) (Nat.le_of_ble_eq_true rfl) (Nat.le_of_ble_eq_true rfl) (Nat.le_of_ble_eq_true rfl) rfl dX8_choice_20 (show 0 + 0 ≤ 0 by omega) (show 0 + 0 ≤ 0 by omega) (fun vv ww H locs hRR B => ?_)
    obtain ⟨r_1, rfl, rfl, hb_2⟩ := hRR
    have B : zB D (zT cI cZ cG cJ) A s.heap s [(mm, .inr (10, zmo (nI 0) (nI q) (nI g) (nI t) (nI r) (nI mb) (nI nc) (nI nl) (nI pv) (nI va) (nI n3) (nI ve) (nI ed) (nI se) (nI ci) (nI mr) (nI mt) (nI ld) A8)), (A8 12, .inl (cI, 3, .inl fch))] _ _ := B
    rcases hb_2 with ⟨hr1, g1⟩ | ⟨hr1, g1⟩ <;> subst hr1
    · refine W.eq (g2 := F0 m 23 ls [.int 1]) rfl ?_
      have g1 := (zqM (n := t) (by omega) (by omega)).mp g1
      have g1e := zn_eq g1.1
      have g1l := zn_lt g1
      rw [g1e] at hl
      have hl : lv_has ls 2 [(0, .ref mm), (1, .int (nI (zn u1)))] := hl
      refine lv_if_eq (tgt := 35) F.1 F.2.1 dX8_choice_23 (by decide) (fun hq => absurd hq (by decide)) (fun _ => ?_)
      refine lv_aload_n F.1 F.2.1 dX8_choice_26 rfl (lv_at hl 0 rfl) ?_
      refine z_get F B 0 rfl (ci := 10) (C := RX8) (T := TX8) (N := 37) rfl iX8_choice_X8 29 (by decide) fX8_choice_56 rfl dX8_choice_27 ?_
      refine lv_iload_n F.1 F.2.1 dX8_choice_30 rfl (lv_at hl 1 rfl) ?_
      refine z_iald F B 1 0 rfl rfl (j := zn u1) (by omega) (by omega) dX8_choice_31 ?_
      refine W.eq (g2 := F0 m 32 ls [.int (nI (ch (zn u1)))]) (by rw [hch (by omega) (zn u1) g1l]) ?_
      refine lv_goto (tgt := 36) F.1 F.2.1 dX8_choice_32 (by decide) ?_
      exact z_iret F hr hlk B [0, 1] rfl (rfl) dX8_choice_36 (by omega) (by omega) ⟨by rw [zif_t ⟨by omega, g1⟩], rfl⟩
    · refine W.eq (g2 := F0 m 23 ls [.int 0]) rfl ?_
      have g1 : ¬ zq u1 t := fun q9 => g1 ((zqM (n := t) (by omega) (by omega)).mpr q9)
      refine lv_if_eq (tgt := 35) F.1 F.2.1 dX8_choice_23 (by decide) (fun _ => ?_) (fun hq => absurd (by decide) hq)
      refine lv_iconst (v := (-1)) F.1 F.2.1 dX8_choice_35 (by decide) ?_
      exact z_iret F hr hlk B [0, 1] rfl (rfl) dX8_choice_36 (by omega) (by omega) ⟨by rw [zif_f (by intro q9; first | exact absurd q9.1 (by omega) | exact g1 q9.2)], rfl⟩
theorem iX8_truth_X8 : ∀ w ∈ u_ws RX8 TX8 37, w ∈ wsX8_truth := fun w h => List.mem_cons_of_mem _ (List.mem_append_right _ h)
theorem fX8_truth_79 : Cond.fieldLink RX8 79 "TourChainModel" "thrown" "I" ∈ wsX8_truth := by decide +kernel
theorem fX8_truth_86 : Cond.fieldLink RX8 86 "TourChainModel" "hasRun" "Z" ∈ wsX8_truth := by decide +kernel
theorem fX8_truth_158 : Cond.fieldLink RX8 158 "TourChainModel" "all" "I" ∈ wsX8_truth := by decide +kernel
theorem yX8_truth_X8_in : yX8_in.cls = RX8 ∧ yX8_in.cls ≠ "java/lang/invoke/MethodHandle" ∧ yX8_in.cls ≠ "java/lang/invoke/VarHandle" ∧ (parseMethodDescriptor yX8_in.desc).map (fun d => d.parameters.length) = some 3 := by decide +kernel
theorem fX8_truth_68 : Cond.fieldLink RX8 68 "TourChainModel" "truth" "[Z" ∈ wsX8_truth := by decide +kernel
set_option maxHeartbeats 4000000 in
set_option maxRecDepth 100000 in
theorem kX8_truth (l : Launch) (D : va_G) (cI cZ cG cJ : ClassId) (mm : Nat) (th : Nat) (q : Nat) (g : Nat) (t : Nat) (r : Nat) (mb : Nat) (nc : Nat) (nl : Nat) (pv : Nat) (va : Nat) (n3 : Nat) (ve : Nat) (ed : Nat) (se : Nat) (ci : Nat) (mr : Nat) (mt : Nat) (ld : Nat) (A8 : Nat → Nat) (ftr : Nat → Int32) (bb : Nat → Nat) (u1 : Int32) (hfl : mr ≤ 1) (hb : mr = 1 → 1 ≤ va ∧ va ≤ 170 ∧ ∀ x, x < va → ftr x = nI (bb x) ∧ bb x ≤ 1) : zC l yX8_truth wsX8_truth 1 22 0 0 D (zT cI cZ cG cJ) [.ref mm, .int u1] [(mm, .inr (10, zmo (nI th) (nI q) (nI g) (nI t) (nI r) (nI mb) (nI nc) (nI nl) (nI pv) (nI va) (nI n3) (nI ve) (nI ed) (nI se) (nI ci) (nI mr) (nI mt) (nI ld) A8)), (A8 16, .inl (cZ, 170, .inl ftr))] (fun (ov : Option Value) (ow : va_W) => ov = some (.int (zif (mr = 1 ∧ zq u1 va) (nI (bb (zn u1))) (-1))) ∧ ow = [(mm, .inr (10, zmo (nI 0) (nI q) (nI g) (nI t) (nI r) (nI mb) (nI nc) (nI nl) (nI pv) (nI va) (nI n3) (nI ve) (nI ed) (nI se) (nI ci) (nI mr) (nI mt) (nI ld) A8)), (A8 16, .inl (cZ, 170, .inl ftr))]) := by
  refine zC.of (cc := cX8_truth) (maxL := 2) (ret := (some .int)) (by decide) rfl (Nat.le_of_ble_eq_true rfl) ?_
  intro p e s m below meth c A ls F hr hlk hnm B hl
  have hl : lv_has ls 2 [(0, .ref mm), (1, .int u1)] := hl
  refine lv_aload_n F.1 F.2.1 dX8_truth_0 rfl (lv_at hl 0 rfl) ?_
  refine lv_iconst (v := (nI 0)) F.1 F.2.1 dX8_truth_1 (by decide) ?_
  refine z_put F B 0 rfl (ci := 10) (C := RX8) (T := TX8) (N := 37) rfl iX8_truth_X8 tyX8 tyX8_ok nmX8 0 (by decide) fX8_truth_79 rfl (v := .int (nI 0)) rfl rfl (Nat.le_of_ble_eq_true rfl) dX8_truth_2 (fun H locs B => ?_)
  have B : zB D (zT cI cZ cG cJ) A s.heap s [(mm, .inr (10, zmo (nI 0) (nI q) (nI g) (nI t) (nI r) (nI mb) (nI nc) (nI nl) (nI pv) (nI va) (nI n3) (nI ve) (nI ed) (nI se) (nI ci) (nI mr) (nI mt) (nI ld) A8)), (A8 16, .inl (cZ, 170, .inl ftr))] _ _ := B
  refine lv_aload_n F.1 F.2.1 dX8_truth_5 rfl (lv_at hl 0 rfl) ?_
  refine z_get F B 0 rfl (ci := 10) (C := RX8) (T := TX8) (N := 37) rfl iX8_truth_X8 27 (by decide) fX8_truth_86 rfl dX8_truth_6 ?_
  refine z_if_eq (tgt := 26) F (by omega) dX8_truth_9 (by decide) (fun c9 => ?_) (fun c9 => ?_)
  · refine lv_iconst (v := (-1)) F.1 F.2.1 dX8_truth_26 (by decide) ?_
    exact z_iret F hr hlk B [0, 1] rfl (rfl) dX8_truth_27 (by omega) (by omega) ⟨by rw [zif_f (by intro q9; first | exact absurd q9.1 (by omega) | exact g1 q9.2)], rfl⟩
  · obtain ⟨hb1, hb2, hb3⟩ := hb (by omega)
    refine lv_iload_n F.1 F.2.1 dX8_truth_12 rfl (lv_at hl 1 rfl) ?_
    refine lv_iconst (v := (nI 0)) F.1 F.2.1 dX8_truth_13 (by decide) ?_
    refine lv_aload_n F.1 F.2.1 dX8_truth_14 rfl (lv_at hl 0 rfl) ?_
    refine z_get F B 0 rfl (ci := 10) (C := RX8) (T := TX8) (N := 37) rfl iX8_truth_X8 15 (by decide) fX8_truth_158 rfl dX8_truth_15 ?_
    refine lv_iconst (v := (nI 1)) F.1 F.2.1 dX8_truth_18 (by decide) ?_
    refine z_isub F (by omega) dX8_truth_19 ?_
    refine z_callS (wr := [(mm, .inr (10, zmo (nI 0) (nI q) (nI g) (nI t) (nI r) (nI mb) (nI nc) (nI nl) (nI pv) (nI va) (nI n3) (nI ve) (nI ed) (nI se) (nI ci) (nI mr) (nI mt) (nI ld) A8)), (A8 16, .inl (cZ, 170, .inl ftr))]) (rest := []) (As := [.int u1, .int (nI 0), .int (nI (va - 1))]) F B (kX8_in l D cI cZ cG cJ u1 (nI 0) (nI (va - 1))) hl.1 gX8_truth_X8_in rfl 3 yX8_truth_X8_in rfl [] [0, 1] rfl rfl rfl rfl (by decide) (Nat.le_of_ble_eq_true rfl) (Nat.le_of_ble_eq_true rfl) (Nat.le_of_ble_eq_true rfl) rfl dX8_truth_20 (show 0 + 0 ≤ 0 by omega) (show 0 + 0 ≤ 0 by omega) (fun vv ww H locs hRR B => ?_)
    obtain ⟨r_1, rfl, rfl, hb_2⟩ := hRR
    have B : zB D (zT cI cZ cG cJ) A s.heap s [(mm, .inr (10, zmo (nI 0) (nI q) (nI g) (nI t) (nI r) (nI mb) (nI nc) (nI nl) (nI pv) (nI va) (nI n3) (nI ve) (nI ed) (nI se) (nI ci) (nI mr) (nI mt) (nI ld) A8)), (A8 16, .inl (cZ, 170, .inl ftr))] _ _ := B
    rcases hb_2 with ⟨hr1, g1⟩ | ⟨hr1, g1⟩ <;> subst hr1
    · refine W.eq (g2 := F0 m 23 ls [.int 1]) rfl ?_
      have g1 := (zqM (n := va) (by omega) (by omega)).mp g1
      have g1e := zn_eq g1.1
      have g1l := zn_lt g1
      rw [g1e] at hl
      have hl : lv_has ls 2 [(0, .ref mm), (1, .int (nI (zn u1)))] := hl
      refine lv_if_ne (tgt := 28) F.1 F.2.1 dX8_truth_23 (by decide) (fun _ => ?_) (fun hq => absurd hq (by decide))
      refine lv_aload_n F.1 F.2.1 dX8_truth_28 rfl (lv_at hl 0 rfl) ?_
      refine z_get F B 0 rfl (ci := 10) (C := RX8) (T := TX8) (N := 37) rfl iX8_truth_X8 33 (by decide) fX8_truth_68 rfl dX8_truth_29 ?_
      refine lv_iload_n F.1 F.2.1 dX8_truth_32 rfl (lv_at hl 1 rfl) ?_
      refine z_zald F B 1 1 rfl rfl (j := zn u1) (by omega) (by omega) dX8_truth_33 ?_
      refine W.eq (g2 := F0 m 34 ls [.int (nI (bb (zn u1)))]) (by rw [(hb3 (zn u1) g1l).1]) ?_
      refine z_if_eq (tgt := 41) F (by have := (hb3 (zn u1) g1l).2; omega) dX8_truth_34 (by decide) (fun c34 => ?_) (fun c34 => ?_)
      · refine lv_iconst (v := (nI 0)) F.1 F.2.1 dX8_truth_41 (by decide) ?_
        exact z_iret F hr hlk B [0, 1] rfl (rfl) dX8_truth_42 (by omega) (by omega) ⟨by rw [zif_t ⟨by omega, g1⟩, show bb (zn u1) = 0 by have := (hb3 (zn u1) g1l).2; omega], rfl⟩
      · refine lv_iconst (v := (nI 1)) F.1 F.2.1 dX8_truth_37 (by decide) ?_
        refine lv_goto (tgt := 42) F.1 F.2.1 dX8_truth_38 (by decide) ?_
        exact z_iret F hr hlk B [0, 1] rfl (rfl) dX8_truth_42 (by omega) (by omega) ⟨by rw [zif_t ⟨by omega, g1⟩, show bb (zn u1) = 1 by have := (hb3 (zn u1) g1l).2; omega], rfl⟩
    · refine W.eq (g2 := F0 m 23 ls [.int 0]) rfl ?_
      have g1 : ¬ zq u1 va := fun q9 => g1 ((zqM (n := va) (by omega) (by omega)).mpr q9)
      refine lv_if_ne (tgt := 28) F.1 F.2.1 dX8_truth_23 (by decide) (fun hq => absurd (by decide) hq) (fun _ => ?_)
      refine lv_iconst (v := (-1)) F.1 F.2.1 dX8_truth_26 (by decide) ?_
      exact z_iret F hr hlk B [0, 1] rfl (rfl) dX8_truth_27 (by omega) (by omega) ⟨by rw [zif_f (by intro q9; first | exact absurd q9.1 (by omega) | exact g1 q9.2)], rfl⟩
theorem iX8_covers_X8 : ∀ w ∈ u_ws RX8 TX8 37, w ∈ wsX8_covers := fun w h => List.mem_cons_of_mem _ (List.mem_append_right _ h)
theorem fX8_covers_79 : Cond.fieldLink RX8 79 "TourChainModel" "thrown" "I" ∈ wsX8_covers := by decide +kernel
theorem fX8_covers_86 : Cond.fieldLink RX8 86 "TourChainModel" "hasRun" "Z" ∈ wsX8_covers := by decide +kernel
theorem fX8_covers_161 : Cond.fieldLink RX8 161 "TourChainModel" "vertices" "I" ∈ wsX8_covers := by decide +kernel
theorem yX8_covers_X8_in : yX8_in.cls = RX8 ∧ yX8_in.cls ≠ "java/lang/invoke/MethodHandle" ∧ yX8_in.cls ≠ "java/lang/invoke/VarHandle" ∧ (parseMethodDescriptor yX8_in.desc).map (fun d => d.parameters.length) = some 3 := by decide +kernel
theorem yX8_covers_X8_isIn : yX8_isIn.cls = RX8 ∧ yX8_isIn.cls ≠ "java/lang/invoke/MethodHandle" ∧ yX8_isIn.cls ≠ "java/lang/invoke/VarHandle" ∧ (parseMethodDescriptor yX8_isIn.desc).map (fun d => d.parameters.length) = some 1 := by decide +kernel
set_option maxHeartbeats 4000000 in
set_option maxRecDepth 100000 in
theorem kX8_covers (l : Launch) (D : va_G) (cI cZ cG cJ : ClassId) (mm : Nat) (th : Nat) (q : Nat) (g : Nat) (t : Nat) (r : Nat) (mb : Nat) (nc : Nat) (nl : Nat) (pv : Nat) (va : Nat) (n3 : Nat) (ve : Nat) (ed : Nat) (se : Nat) (ci : Nat) (mr : Nat) (mt : Nat) (ld : Nat) (A8 : Nat → Nat) (f3 : Nat → Int32) (L3 : List Nat) (ftr : Nat → Int32) (b : Nat → Nat) (u1 : Int32) (hfl : mr ≤ 1) (hb : mr = 1 → 1 ≤ ve ∧ ve = 2 * va + 3 * n3 ∧ 3 * n3 ≤ 1900 ∧ va ≤ 170 ∧ (∀ x, x < va → ftr x = nI (b x) ∧ b x ≤ 1) ∧ zR f3 (3 * n3) L3 ∧ (∀ i, i < 3 * n3 → L3.getD i 0 < 2 * va)) : zC l yX8_covers wsX8_covers 2 46 0 0 D (zT cI cZ cG cJ) [.ref mm, .int u1] [(mm, .inr (10, zmo (nI th) (nI q) (nI g) (nI t) (nI r) (nI mb) (nI nc) (nI nl) (nI pv) (nI va) (nI n3) (nI ve) (nI ed) (nI se) (nI ci) (nI mr) (nI mt) (nI ld) A8)), (A8 8, .inl (cI, 1900, .inl f3)), (A8 16, .inl (cZ, 170, .inl ftr))] (fun (ov : Option Value) (ow : va_W) => ov = some (.int (zif (mr = 1 ∧ zq u1 ve) (nI (zcov b va L3 (zn u1))) (-1))) ∧ ow = [(mm, .inr (10, zmo (nI 0) (nI q) (nI g) (nI t) (nI r) (nI mb) (nI nc) (nI nl) (nI pv) (nI va) (nI n3) (nI ve) (nI ed) (nI se) (nI ci) (nI mr) (nI mt) (nI ld) A8)), (A8 8, .inl (cI, 1900, .inl f3)), (A8 16, .inl (cZ, 170, .inl ftr))]) := by
  refine zC.of (cc := cX8_covers) (maxL := 2) (ret := (some .int)) (by decide) rfl (Nat.le_of_ble_eq_true rfl) ?_
  intro p e s m below meth c A ls F hr hlk hnm B hl
  have hl : lv_has ls 2 [(0, .ref mm), (1, .int u1)] := hl
  refine lv_aload_n F.1 F.2.1 dX8_covers_0 rfl (lv_at hl 0 rfl) ?_
  refine lv_iconst (v := (nI 0)) F.1 F.2.1 dX8_covers_1 (by decide) ?_
  refine z_put F B 0 rfl (ci := 10) (C := RX8) (T := TX8) (N := 37) rfl iX8_covers_X8 tyX8 tyX8_ok nmX8 0 (by decide) fX8_covers_79 rfl (v := .int (nI 0)) rfl rfl (Nat.le_of_ble_eq_true rfl) dX8_covers_2 (fun H locs B => ?_)
  have B : zB D (zT cI cZ cG cJ) A s.heap s [(mm, .inr (10, zmo (nI 0) (nI q) (nI g) (nI t) (nI r) (nI mb) (nI nc) (nI nl) (nI pv) (nI va) (nI n3) (nI ve) (nI ed) (nI se) (nI ci) (nI mr) (nI mt) (nI ld) A8)), (A8 8, .inl (cI, 1900, .inl f3)), (A8 16, .inl (cZ, 170, .inl ftr))] _ _ := B
  refine lv_aload_n F.1 F.2.1 dX8_covers_5 rfl (lv_at hl 0 rfl) ?_
  refine z_get F B 0 rfl (ci := 10) (C := RX8) (T := TX8) (N := 37) rfl iX8_covers_X8 27 (by decide) fX8_covers_86 rfl dX8_covers_6 ?_
  refine z_if_eq (tgt := 26) F (by omega) dX8_covers_9 (by decide) (fun c9 => ?_) (fun c9 => ?_)
  · refine lv_iconst (v := (-1)) F.1 F.2.1 dX8_covers_26 (by decide) ?_
    exact z_iret F hr hlk B [0, 1, 2] rfl (rfl) dX8_covers_27 (by omega) (by omega) ⟨by rw [zif_f (by intro q9; first | exact absurd q9.1 (by omega) | exact g1 q9.2)], rfl⟩
  · obtain ⟨hv1, hve, hb3, hva2, hbT, hR, hL⟩ := hb (by omega)
    refine lv_iload_n F.1 F.2.1 dX8_covers_12 rfl (lv_at hl 1 rfl) ?_
    refine lv_iconst (v := (nI 0)) F.1 F.2.1 dX8_covers_13 (by decide) ?_
    refine lv_aload_n F.1 F.2.1 dX8_covers_14 rfl (lv_at hl 0 rfl) ?_
    refine z_get F B 0 rfl (ci := 10) (C := RX8) (T := TX8) (N := 37) rfl iX8_covers_X8 20 (by decide) fX8_covers_161 rfl dX8_covers_15 ?_
    refine lv_iconst (v := (nI 1)) F.1 F.2.1 dX8_covers_18 (by decide) ?_
    refine z_isub F (by omega) dX8_covers_19 ?_
    refine z_callS (wr := [(mm, .inr (10, zmo (nI 0) (nI q) (nI g) (nI t) (nI r) (nI mb) (nI nc) (nI nl) (nI pv) (nI va) (nI n3) (nI ve) (nI ed) (nI se) (nI ci) (nI mr) (nI mt) (nI ld) A8)), (A8 8, .inl (cI, 1900, .inl f3)), (A8 16, .inl (cZ, 170, .inl ftr))]) (rest := []) (As := [.int u1, .int (nI 0), .int (nI (ve - 1))]) F B (kX8_in l D cI cZ cG cJ u1 (nI 0) (nI (ve - 1))) hl.1 gX8_covers_X8_in rfl 3 yX8_covers_X8_in rfl [] [0, 1, 2] rfl rfl rfl rfl (by decide) (Nat.le_of_ble_eq_true rfl) (Nat.le_of_ble_eq_true rfl) (Nat.le_of_ble_eq_true rfl) rfl dX8_covers_20 (show 0 + 0 ≤ 0 by omega) (show 0 + 0 ≤ 0 by omega) (fun vv ww H locs hRR B => ?_)
    obtain ⟨r_1, rfl, rfl, hb_2⟩ := hRR
    have B : zB D (zT cI cZ cG cJ) A s.heap s [(mm, .inr (10, zmo (nI 0) (nI q) (nI g) (nI t) (nI r) (nI mb) (nI nc) (nI nl) (nI pv) (nI va) (nI n3) (nI ve) (nI ed) (nI se) (nI ci) (nI mr) (nI mt) (nI ld) A8)), (A8 8, .inl (cI, 1900, .inl f3)), (A8 16, .inl (cZ, 170, .inl ftr))] _ _ := B
    rcases hb_2 with ⟨hr1, g1⟩ | ⟨hr1, g1⟩ <;> subst hr1
    · refine W.eq (g2 := F0 m 23 ls [.int 1]) rfl ?_
      have g1 := (zqM (n := ve) (by omega) (by omega)).mp g1
      have g1e := zn_eq g1.1
      have g1l := zn_lt g1
      rw [g1e] at hl
      have hl : lv_has ls 2 [(0, .ref mm), (1, .int (nI (zn u1)))] := hl
      refine lv_if_ne (tgt := 28) F.1 F.2.1 dX8_covers_23 (by decide) (fun _ => ?_) (fun hq => absurd hq (by decide))
      refine lv_aload_n F.1 F.2.1 dX8_covers_28 rfl (lv_at hl 0 rfl) ?_
      refine lv_iload_n F.1 F.2.1 dX8_covers_29 rfl (lv_at hl 1 rfl) ?_
      refine z_callV (wr := []) (rest := []) (As := [.int (nI (zn u1))]) F B (kX8_isIn l D cI cZ cG cJ mm 0 q g t r mb nc nl pv va n3 ve ed se ci mr mt ld A8 f3 L3 ftr b (zn u1) (hbT) (by omega) (hR) (by omega) (hL) (by omega)) hl.1 (C := RX8) (T := TX8) (N := 37) (ci := 10) (q0 := 0) gX8_covers_X8_isIn rfl 1 yX8_covers_X8_isIn rfl rfl rfl [0, 1, 2] [] rfl rfl rfl rfl (by decide) (Nat.le_of_ble_eq_true rfl) (Nat.le_of_ble_eq_true rfl) (Nat.le_of_ble_eq_true rfl) rfl dX8_covers_30 (show 0 + 0 ≤ 0 by omega) (show 0 + 0 ≤ 0 by omega) (fun vv ww H locs hRR B => ?_)
      obtain ⟨r_3, rfl, rfl, hb_4⟩ := hRR
      have B : zB D (zT cI cZ cG cJ) A s.heap s [(mm, .inr (10, zmo (nI 0) (nI q) (nI g) (nI t) (nI r) (nI mb) (nI nc) (nI nl) (nI pv) (nI va) (nI n3) (nI ve) (nI ed) (nI se) (nI ci) (nI mr) (nI mt) (nI ld) A8)), (A8 8, .inl (cI, 1900, .inl f3)), (A8 16, .inl (cZ, 170, .inl ftr))] _ _ := B
      rcases hb_4 with ⟨hr1, hpI⟩ | ⟨hr1, hpI⟩ <;> subst hr1
      · refine W.eq (g2 := F0 m 33 ls [.int 1]) rfl ?_
        refine lv_if_eq (tgt := 40) F.1 F.2.1 dX8_covers_33 (by decide) (fun hq => absurd hq (by decide)) (fun _ => ?_)
        refine lv_iconst (v := (nI 1)) F.1 F.2.1 dX8_covers_36 (by decide) ?_
        refine lv_goto (tgt := 41) F.1 F.2.1 dX8_covers_37 (by decide) ?_
        exact z_iret F hr hlk B [0, 1, 2] rfl (rfl) dX8_covers_41 (by omega) (by omega) ⟨by rw [zif_t ⟨by omega, g1⟩, show zcov b va L3 (zn u1) = 1 by have := zcov_01 b va L3 (zn u1); omega], rfl⟩
      · refine W.eq (g2 := F0 m 33 ls [.int 0]) rfl ?_
        refine lv_if_eq (tgt := 40) F.1 F.2.1 dX8_covers_33 (by decide) (fun _ => ?_) (fun hq => absurd (by decide) hq)
        refine lv_iconst (v := (nI 0)) F.1 F.2.1 dX8_covers_40 (by decide) ?_
        exact z_iret F hr hlk B [0, 1, 2] rfl (rfl) dX8_covers_41 (by omega) (by omega) ⟨by rw [zif_t ⟨by omega, g1⟩, show zcov b va L3 (zn u1) = 0 by have := zcov_01 b va L3 (zn u1); omega], rfl⟩
    · refine W.eq (g2 := F0 m 23 ls [.int 0]) rfl ?_
      have g1 : ¬ zq u1 ve := fun q9 => g1 ((zqM (n := ve) (by omega) (by omega)).mpr q9)
      refine lv_if_ne (tgt := 28) F.1 F.2.1 dX8_covers_23 (by decide) (fun hq => absurd (by decide) hq) (fun _ => ?_)
      refine lv_iconst (v := (-1)) F.1 F.2.1 dX8_covers_26 (by decide) ?_
      exact z_iret F hr hlk B [0, 1, 2] rfl (rfl) dX8_covers_27 (by omega) (by omega) ⟨by rw [zif_f (by intro q9; first | exact absurd q9.1 (by omega) | exact g1 q9.2)], rfl⟩
theorem iX8_city_X8 : ∀ w ∈ u_ws RX8 TX8 37, w ∈ wsX8_city := fun w h => List.mem_cons_of_mem _ (List.mem_append_right _ h)
theorem fX8_city_79 : Cond.fieldLink RX8 79 "TourChainModel" "thrown" "I" ∈ wsX8_city := by decide +kernel
theorem fX8_city_89 : Cond.fieldLink RX8 89 "TourChainModel" "hasTrip" "Z" ∈ wsX8_city := by decide +kernel
theorem fX8_city_185 : Cond.fieldLink RX8 185 "TourChainModel" "cities" "I" ∈ wsX8_city := by decide +kernel
theorem yX8_city_X8_in : yX8_in.cls = RX8 ∧ yX8_in.cls ≠ "java/lang/invoke/MethodHandle" ∧ yX8_in.cls ≠ "java/lang/invoke/VarHandle" ∧ (parseMethodDescriptor yX8_in.desc).map (fun d => d.parameters.length) = some 3 := by decide +kernel
theorem fX8_city_73 : Cond.fieldLink RX8 73 "TourChainModel" "trip" "[I" ∈ wsX8_city := by decide +kernel
set_option maxHeartbeats 4000000 in
set_option maxRecDepth 100000 in
theorem kX8_city (l : Launch) (D : va_G) (cI cZ cG cJ : ClassId) (mm : Nat) (th : Nat) (q : Nat) (g : Nat) (t : Nat) (r : Nat) (mb : Nat) (nc : Nat) (nl : Nat) (pv : Nat) (va : Nat) (n3 : Nat) (ve : Nat) (ed : Nat) (se : Nat) (ci : Nat) (mr : Nat) (mt : Nat) (ld : Nat) (A8 : Nat → Nat) (ftp : Nat → Int32) (rr : Nat → Nat) (u1 : Int32) (hfl : mt ≤ 1) (hb : mt = 1 → 1 ≤ ci ∧ ci ≤ 47000 ∧ ∀ i, i < ci → ftp i = nI (rr i) ∧ rr i < ci) : zC l yX8_city wsX8_city 1 22 0 0 D (zT cI cZ cG cJ) [.ref mm, .int u1] [(mm, .inr (10, zmo (nI th) (nI q) (nI g) (nI t) (nI r) (nI mb) (nI nc) (nI nl) (nI pv) (nI va) (nI n3) (nI ve) (nI ed) (nI se) (nI ci) (nI mr) (nI mt) (nI ld) A8)), (A8 17, .inl (cI, 47000, .inl ftp))] (fun (ov : Option Value) (ow : va_W) => ov = some (.int (zif (mt = 1 ∧ zq u1 ci) (nI (rr (zn u1))) (-1))) ∧ ow = [(mm, .inr (10, zmo (nI 0) (nI q) (nI g) (nI t) (nI r) (nI mb) (nI nc) (nI nl) (nI pv) (nI va) (nI n3) (nI ve) (nI ed) (nI se) (nI ci) (nI mr) (nI mt) (nI ld) A8)), (A8 17, .inl (cI, 47000, .inl ftp))]) := by
  refine zC.of (cc := cX8_city) (maxL := 2) (ret := (some .int)) (by decide) rfl (Nat.le_of_ble_eq_true rfl) ?_
  intro p e s m below meth c A ls F hr hlk hnm B hl
  have hl : lv_has ls 2 [(0, .ref mm), (1, .int u1)] := hl
  refine lv_aload_n F.1 F.2.1 dX8_city_0 rfl (lv_at hl 0 rfl) ?_
  refine lv_iconst (v := (nI 0)) F.1 F.2.1 dX8_city_1 (by decide) ?_
  refine z_put F B 0 rfl (ci := 10) (C := RX8) (T := TX8) (N := 37) rfl iX8_city_X8 tyX8 tyX8_ok nmX8 0 (by decide) fX8_city_79 rfl (v := .int (nI 0)) rfl rfl (Nat.le_of_ble_eq_true rfl) dX8_city_2 (fun H locs B => ?_)
  have B : zB D (zT cI cZ cG cJ) A s.heap s [(mm, .inr (10, zmo (nI 0) (nI q) (nI g) (nI t) (nI r) (nI mb) (nI nc) (nI nl) (nI pv) (nI va) (nI n3) (nI ve) (nI ed) (nI se) (nI ci) (nI mr) (nI mt) (nI ld) A8)), (A8 17, .inl (cI, 47000, .inl ftp))] _ _ := B
  refine lv_aload_n F.1 F.2.1 dX8_city_5 rfl (lv_at hl 0 rfl) ?_
  refine z_get F B 0 rfl (ci := 10) (C := RX8) (T := TX8) (N := 37) rfl iX8_city_X8 28 (by decide) fX8_city_89 rfl dX8_city_6 ?_
  refine z_if_eq (tgt := 35) F (by omega) dX8_city_9 (by decide) (fun c9 => ?_) (fun c9 => ?_)
  · refine lv_iconst (v := (-1)) F.1 F.2.1 dX8_city_35 (by decide) ?_
    exact z_iret F hr hlk B [0, 1] rfl (rfl) dX8_city_36 (by omega) (by omega) ⟨by rw [zif_f (by intro q9; first | exact absurd q9.1 (by omega) | exact g1 q9.2)], rfl⟩
  · obtain ⟨hb1, hb2, hb3⟩ := hb (by omega)
    refine lv_iload_n F.1 F.2.1 dX8_city_12 rfl (lv_at hl 1 rfl) ?_
    refine lv_iconst (v := (nI 0)) F.1 F.2.1 dX8_city_13 (by decide) ?_
    refine lv_aload_n F.1 F.2.1 dX8_city_14 rfl (lv_at hl 0 rfl) ?_
    refine z_get F B 0 rfl (ci := 10) (C := RX8) (T := TX8) (N := 37) rfl iX8_city_X8 23 (by decide) fX8_city_185 rfl dX8_city_15 ?_
    refine lv_iconst (v := (nI 1)) F.1 F.2.1 dX8_city_18 (by decide) ?_
    refine z_isub F (by omega) dX8_city_19 ?_
    refine z_callS (wr := [(mm, .inr (10, zmo (nI 0) (nI q) (nI g) (nI t) (nI r) (nI mb) (nI nc) (nI nl) (nI pv) (nI va) (nI n3) (nI ve) (nI ed) (nI se) (nI ci) (nI mr) (nI mt) (nI ld) A8)), (A8 17, .inl (cI, 47000, .inl ftp))]) (rest := []) (As := [.int u1, .int (nI 0), .int (nI (ci - 1))]) F B (kX8_in l D cI cZ cG cJ u1 (nI 0) (nI (ci - 1))) hl.1 gX8_city_X8_in rfl 3 yX8_city_X8_in rfl [] [0, 1] rfl rfl rfl rfl (by decide) (Nat.le_of_ble_eq_true rfl) (Nat.le_of_ble_eq_true rfl) (Nat.le_of_ble_eq_true rfl) rfl dX8_city_20 (show 0 + 0 ≤ 0 by omega) (show 0 + 0 ≤ 0 by omega) (fun vv ww H locs hRR B => ?_)
    obtain ⟨r_1, rfl, rfl, hb_2⟩ := hRR
    have B : zB D (zT cI cZ cG cJ) A s.heap s [(mm, .inr (10, zmo (nI 0) (nI q) (nI g) (nI t) (nI r) (nI mb) (nI nc) (nI nl) (nI pv) (nI va) (nI n3) (nI ve) (nI ed) (nI se) (nI ci) (nI mr) (nI mt) (nI ld) A8)), (A8 17, .inl (cI, 47000, .inl ftp))] _ _ := B
    rcases hb_2 with ⟨hr1, g1⟩ | ⟨hr1, g1⟩ <;> subst hr1
    · refine W.eq (g2 := F0 m 23 ls [.int 1]) rfl ?_
      have g1 := (zqM (n := ci) (by omega) (by omega)).mp g1
      have g1e := zn_eq g1.1
      have g1l := zn_lt g1
      rw [g1e] at hl
      have hl : lv_has ls 2 [(0, .ref mm), (1, .int (nI (zn u1)))] := hl
      refine lv_if_eq (tgt := 35) F.1 F.2.1 dX8_city_23 (by decide) (fun hq => absurd hq (by decide)) (fun _ => ?_)
      refine lv_aload_n F.1 F.2.1 dX8_city_26 rfl (lv_at hl 0 rfl) ?_
      refine z_get F B 0 rfl (ci := 10) (C := RX8) (T := TX8) (N := 37) rfl iX8_city_X8 34 (by decide) fX8_city_73 rfl dX8_city_27 ?_
      refine lv_iload_n F.1 F.2.1 dX8_city_30 rfl (lv_at hl 1 rfl) ?_
      refine z_iald F B 1 0 rfl rfl (j := zn u1) (by omega) (by omega) dX8_city_31 ?_
      refine W.eq (g2 := F0 m 32 ls [.int (nI (rr (zn u1)))]) (by rw [(hb3 (zn u1) g1l).1]) ?_
      refine lv_goto (tgt := 36) F.1 F.2.1 dX8_city_32 (by decide) ?_
      exact z_iret F hr hlk B [0, 1] rfl (rfl) dX8_city_36 (by omega) (by omega) ⟨by rw [zif_t ⟨by omega, g1⟩], rfl⟩
    · refine W.eq (g2 := F0 m 23 ls [.int 0]) rfl ?_
      have g1 : ¬ zq u1 ci := fun q9 => g1 ((zqM (n := ci) (by omega) (by omega)).mpr q9)
      refine lv_if_eq (tgt := 35) F.1 F.2.1 dX8_city_23 (by decide) (fun _ => ?_) (fun hq => absurd (by decide) hq)
      refine lv_iconst (v := (-1)) F.1 F.2.1 dX8_city_35 (by decide) ?_
      exact z_iret F hr hlk B [0, 1] rfl (rfl) dX8_city_36 (by omega) (by omega) ⟨by rw [zif_f (by intro q9; first | exact absurd q9.1 (by omega) | exact g1 q9.2)], rfl⟩
