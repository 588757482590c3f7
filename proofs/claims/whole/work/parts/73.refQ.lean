/-! CONTRACT of the reference: pull -/
theorem zprice_is {C : Prop} {x n : Nat} (h : zif C (nI x) (-1) = nI n) (hn : n < 2 ^ 31) (hx : x < 2 ^ 31) : C ∧ x = n := by
  by_cases q : C
  · rw [zif_t q] at h
    exact ⟨q, (nI_eq hx hn).mp h⟩
  · rw [zif_f q] at h
    exact absurd h.symm (zneg1ne hn)
theorem zprice_no {C : Prop} {x n : Nat} (h : ¬ zif C (nI x) (-1) = nI n) : ¬ (C ∧ x = n) := by
  rintro ⟨q, rfl⟩
  exact h (zif_t q)
theorem zmk_app {M : List Nat} {k x : Nat} (h : ¬ x = k) : zmk (M ++ [k]) x = zmk M x := by
  unfold zmk
  by_cases m : x ∈ M
  · rw [if_pos m, if_pos (by simp [m])]
  · rw [if_neg m, if_neg (by simp [m, h])]
theorem zpk2_no {w : Nat → Nat} {ed : Nat} {tr : Nat → Nat} {n k va : Nat} {f : Nat → Int32} (h : ∀ x, x < va → f x = nI (zmk (zpk w ed tr n k) (2 * x))) (hc : ¬ (12 * ed ≤ tr k ∧ tr ((k + 1) % n) < 12 * ed)) : ∀ x, x < va → f x = nI (zmk (zpk w ed tr n (k + 1)) (2 * x)) := by
  have e : zpk1 w ed tr n k = [] := if_neg hc
  rw [zpk_S, e, List.append_nil]
  exact h
theorem zpk2_odd {w : Nat → Nat} {ed : Nat} {tr : Nat → Nat} {n k va : Nat} {f : Nat → Int32} (h : ∀ x, x < va → f x = nI (zmk (zpk w ed tr n k) (2 * x))) (hc : 12 * ed ≤ tr k ∧ tr ((k + 1) % n) < 12 * ed) (hw : 2 * va ≤ w (tr ((k + 1) % n) / 6) ∨ ¬ w (tr ((k + 1) % n) / 6) % 2 = 0) : ∀ x, x < va → f x = nI (zmk (zpk w ed tr n (k + 1)) (2 * x)) := by
  intro x hx
  have e : zpk1 w ed tr n k = [w (tr ((k + 1) % n) / 6)] := if_pos hc
  rw [zpk_S, e, zmk_app (by omega)]
  exact h x hx
theorem zpk2_yes {w : Nat → Nat} {ed : Nat} {tr : Nat → Nat} {n k va : Nat} {f : Nat → Int32} (h : ∀ x, x < va → f x = nI (zmk (zpk w ed tr n k) (2 * x))) (hc : 12 * ed ≤ tr k ∧ tr ((k + 1) % n) < 12 * ed) (_ : w (tr ((k + 1) % n) / 6) < 2 * va) (hw : w (tr ((k + 1) % n) / 6) % 2 = 0) : ∀ x, x < va → upd f (w (tr ((k + 1) % n) / 6) / 2) (nI 1) x = nI (zmk (zpk w ed tr n (k + 1)) (2 * x)) := by
  intro x hx
  have e : zpk1 w ed tr n k = [w (tr ((k + 1) % n) / 6)] := if_pos hc
  rw [zpk_S, e]
  by_cases q : x = w (tr ((k + 1) % n) / 6) / 2
  · subst q
    rw [pk_us]
    unfold zmk
    rw [if_pos]
    rw [show 2 * (w (tr ((k + 1) % n) / 6) / 2) = w (tr ((k + 1) % n) / 6) by omega]
    exact List.mem_append_right _ (List.mem_singleton.mpr rfl)
  · rw [pk_un q, zmk_app (by omega)]
    exact h x hx
theorem yX8_pull_X8_may : yX8_may.cls = RX8 ∧ yX8_may.cls ≠ "java/lang/invoke/MethodHandle" ∧ yX8_may.cls ≠ "java/lang/invoke/VarHandle" ∧ (parseMethodDescriptor yX8_may.desc).map (fun d => d.parameters.length) = some 1 := by decide +kernel
set_option maxHeartbeats 4000000 in
set_option maxRecDepth 100000 in
theorem kX8_pullN (l : Launch) (D : va_G) (cI cZ cG cJ : ClassId) (mm : Nat) (th : Nat) (q : Nat) (g : Nat) (t : Nat) (r : Nat) (mb : Nat) (nc : Nat) (nl : Nat) (pv : Nat) (va : Nat) (n3 : Nat) (ve : Nat) (ed : Nat) (se : Nat) (ci : Nat) (mr : Nat) (mt : Nat) (ld : Nat) (A8 : Nat → Nat)  : zC l yX8_pull wsX8_pull 5 115 0 0 D (zT cI cZ cG cJ) [.ref mm] [(mm, .inr (10, zmo (nI th) (nI q) (nI g) (nI t) (nI r) (nI mb) (nI nc) (nI nl) (nI pv) (nI va) (nI n3) (nI ve) (nI ed) (nI se) (nI ci) (nI mr) (nI 0) (nI ld) A8))] (fun (ov : Option Value) (ow : va_W) => ∃ rb : Int32, ov = some (.int rb) ∧ ow = [(mm, .inr (10, zmo (nI 1) (nI q) (nI g) (nI t) (nI r) (nI mb) (nI nc) (nI nl) (nI pv) (nI va) (nI n3) (nI ve) (nI ed) (nI se) (nI ci) (nI mr) (nI 0) (nI ld) A8))] ∧ ((rb = 1 ∧ False) ∨ (rb = 0 ∧ ¬ False))) := by
  refine zC.of (cc := cX8_pull) (maxL := 4) (ret := (some .boolean)) (by decide) rfl (Nat.le_of_ble_eq_true rfl) ?_
  intro p e s m below meth c A ls F hr hlk hnm B hl
  have hl : lv_has ls 4 [(0, .ref mm)] := hl
  refine lv_aload_n F.1 F.2.1 dX8_pull_0 rfl (lv_at hl 0 rfl) ?_
  refine lv_iconst (v := (nI 1)) F.1 F.2.1 dX8_pull_1 (by decide) ?_
  refine z_callV (wr := []) (rest := []) (As := [.int (nI 1)]) F B (kX8_may l D cI cZ cG cJ mm th q g t r mb nc nl pv va n3 ve ed se ci mr 0 ld A8 1 (by omega) (by omega)) hl.1 (C := RX8) (T := TX8) (N := 37) (ci := 10) (q0 := 0) gX8_pull_X8_may rfl 1 yX8_pull_X8_may rfl rfl rfl [0] [] rfl rfl rfl rfl (by decide) (Nat.le_of_ble_eq_true rfl) (Nat.le_of_ble_eq_true rfl) (Nat.le_of_ble_eq_true rfl) rfl dX8_pull_2 (show 0 + 0 ≤ 0 by omega) (show 0 + 0 ≤ 0 by omega) (fun vv ww H locs hRR B => ?_)
  obtain ⟨r_1, th9, rfl, rfl, hb_2, hth⟩ := hRR
  have B : zB D (zT cI cZ cG cJ) A s.heap s [(mm, .inr (10, zmo (nI th9) (nI q) (nI g) (nI t) (nI r) (nI mb) (nI nc) (nI nl) (nI pv) (nI va) (nI n3) (nI ve) (nI ed) (nI se) (nI ci) (nI mr) (nI 0) (nI ld) A8))] _ _ := B
  rcases hb_2 with ⟨hr1, hpM⟩ | ⟨hr1, hpM⟩ <;> subst hr1
  · refine W.eq (g2 := F0 m 5 ls [.int 1]) rfl ?_
    exact absurd rfl hpM.1
  · refine W.eq (g2 := F0 m 5 ls [.int 0]) rfl ?_
    have hth9 : th9 = 1 := by omega
    subst hth9
    refine lv_if_eq (tgt := 19) F.1 F.2.1 dX8_pull_5 (by decide) (fun _ => ?_) (fun hq => absurd (by decide) hq)
    refine lv_iconst (v := (nI 0)) F.1 F.2.1 dX8_pull_19 (by decide) ?_
    exact z_zret F hr hlk B (Or.inl rfl) [0] rfl (rfl) dX8_pull_20 (by omega) (by omega) ⟨(nI 0), rfl, rfl, Or.inr ⟨rfl, fun q9 => q9⟩⟩
theorem yX8_pull_X8_price : yX8_price.cls = RX8 ∧ yX8_price.cls ≠ "java/lang/invoke/MethodHandle" ∧ yX8_price.cls ≠ "java/lang/invoke/VarHandle" ∧ (parseMethodDescriptor yX8_price.desc).map (fun d => d.parameters.length) = some 0 := by decide +kernel
theorem iX8_pull_X8 : ∀ w ∈ u_ws RX8 TX8 37, w ∈ wsX8_pull := fun w h => List.mem_cons_of_mem _ (List.mem_append_right _ h)
theorem fX8_pull_185 : Cond.fieldLink RX8 185 "TourChainModel" "cities" "I" ∈ wsX8_pull := by decide +kernel
theorem fX8_pull_158 : Cond.fieldLink RX8 158 "TourChainModel" "all" "I" ∈ wsX8_pull := by decide +kernel
theorem fX8_pull_16 : Cond.fieldLink RX8 16 "TourChainModel" "bound" "I" ∈ wsX8_pull := by decide +kernel
theorem yX8_pull_X8_forward : yX8_forward.cls = RX8 ∧ yX8_forward.cls ≠ "java/lang/invoke/MethodHandle" ∧ yX8_forward.cls ≠ "java/lang/invoke/VarHandle" ∧ (parseMethodDescriptor yX8_forward.desc).map (fun d => d.parameters.length) = some 0 := by decide +kernel
theorem fX8_pull_96 : Cond.fieldLink RX8 96 "TourChainModel" "rules" "I" ∈ wsX8_pull := by decide +kernel
theorem fX8_pull_56 : Cond.fieldLink RX8 56 "TourChainModel" "choice" "[I" ∈ wsX8_pull := by decide +kernel
theorem fX8_pull_68 : Cond.fieldLink RX8 68 "TourChainModel" "truth" "[Z" ∈ wsX8_pull := by decide +kernel
theorem yX8_pull_X8_k : yX8_k.cls = RX8 ∧ yX8_k.cls ≠ "java/lang/invoke/MethodHandle" ∧ yX8_k.cls ≠ "java/lang/invoke/VarHandle" ∧ (parseMethodDescriptor yX8_k.desc).map (fun d => d.parameters.length) = some 2 := by decide +kernel
theorem fX8_pull_73 : Cond.fieldLink RX8 73 "TourChainModel" "trip" "[I" ∈ wsX8_pull := by decide +kernel
theorem fX8_pull_164 : Cond.fieldLink RX8 164 "TourChainModel" "edges" "I" ∈ wsX8_pull := by decide +kernel
theorem yX8_pull_X8_vertexAt : yX8_vertexAt.cls = RX8 ∧ yX8_vertexAt.cls ≠ "java/lang/invoke/MethodHandle" ∧ yX8_vertexAt.cls ≠ "java/lang/invoke/VarHandle" ∧ (parseMethodDescriptor yX8_vertexAt.desc).map (fun d => d.parameters.length) = some 2 := by decide +kernel
set_option maxHeartbeats 4000000 in
set_option maxRecDepth 100000 in
theorem kX8_pullY (l : Launch) (D : va_G) (cI cZ cG cJ : ClassId) (mm : Nat) (th : Nat) (q : Nat) (g : Nat) (t : Nat) (r : Nat) (mb : Nat) (nc : Nat) (nl : Nat) (pv : Nat) (va : Nat) (n3 : Nat) (ve : Nat) (ed : Nat) (se : Nat) (ci : Nat) (mr : Nat) (mt : Nat) (ld : Nat) (A8 : Nat → Nat) (f3 : Nat → Int32) (L3 : List Nat) (fbe : Nat → Int32) (ffe : Nat → Int32) (fle : Nat → Int32) (ftp : Nat → Int32) (rr : Nat → Nat) (fse : Nat → Int32) (fl : Nat → Int32) (ft : Nat → Int32) (Cs : List (List Nat)) (ff : Nat → Int32) (fr : Nat → Int32) (fto : Nat → Int32) (fw : Nat → Int32) (fm : Nat → Int32) (rl : Nat → Nat → Nat) (fhe : Nat → Int32) (fst : Nat → Int32) (fta_ : Nat → Int32) (fp : Nat → Int32) (tp : Nat → Nat) (fch : Nat → Int32) (ftr : Nat → Int32) (hR : zR f3 (3 * n3) L3) (hb : 3 * n3 ≤ 1900) (hv : va ≤ 1000) (hL : ∀ i, i < 3 * n3 → L3.getD i 0 < 2 * va) (hve : ve = 2 * va + 3 * n3) (hve2 : ve ≤ 2200) (hed : ed = va + 6 * n3) (hed2 : 2 * ed ≤ 7600) (hFE : ∀ u, u < ve → zFE (zva va L3) (2 * ed) u (ffe u)) (hLE : ∀ u, u < ve → zLE (zva va L3) (2 * ed) u (fle u)) (hBE : ∀ x, x < 2 * ed → zBH (zva va L3) (2 * ed) x (fbe x)) (hci1 : 1 ≤ ci) (hci : ci ≤ 47000) (hrw : ∀ i, i < ci → ftp i = nI (rr i) ∧ rr i < ci) (ht : t ≤ 3) (hq1 : 1 ≤ q) (hq : q ≤ 3) (hr8 : r ≤ 8) (hff : ∀ i, i < r → ff i = nI (rl 0 i)) (hfr : ∀ i, i < r → fr i = nI (rl 1 i)) (hfto : ∀ i, i < r → fto i = nI (rl 2 i)) (hfw : ∀ i, i < r → fw i = nI (rl 3 i)) (hfm : ∀ i, i < r → fm i = nI (rl 4 i) - nI 1 ∧ rl 4 i ≤ 2) (hrb4 : ∀ k, k < r → rl 0 k ≤ 3 ∧ rl 1 k ≤ 3 ∧ rl 2 k ≤ 3 ∧ rl 3 k ≤ 3) (htp : ∀ y, y ≤ t → fp y = nI (tp y)) (htp3 : ∀ y, y ≤ t → tp y ≤ 3) (hg : g ≤ 3) (ht1 : 1 ≤ t) (hF : zF fl nl ft (nc + 1) Cs) (hBd : zBd Cs) (hne : ∀ j, j < Cs.length → 1 ≤ zlen Cs j) (hmx : ∀ j, j < Cs.length → zlen Cs j ≤ 1000) (hlit : ∀ j i, j < Cs.length → i < zlen Cs j → zlit Cs j i < 2 * (zpv t g q r)) (hpv : pv = (zpv t g q r)) (hva2 : va ≤ 170) (hvaA : ∀ b, va = (zpv t g q r) + (znv b Cs Cs.length).length) (hcbA : ∀ ch, (∀ i, i < t → ch i ≤ r) → zacc q r t rl tp ch → ∀ i, i ≤ t → ((zcf r rl tp ch) i).1 ≤ t ∧ ((zcf r rl tp ch) i).2.1 < q ∧ ∀ y, y ≤ t → ((zcf r rl tp ch) i).2.2 y < g) (hgd : zonce rr ci ∧ ztot (zva va L3) ed rr ci = ci → zacc q r t rl tp (fun i => zpc (zpk (zva va L3) ed rr ci ci) (zfk t g q) r i r) ∧ (∀ i, i < t → (fun i => zpc (zpk (zva va L3) ed rr ci ci) (zfk t g q) r i r) i ≤ r)) : zC l yX8_pull wsX8_pull 5 115 0 0 D (zT cI cZ cG cJ) [.ref mm] [(mm, .inr (10, zmo (nI th) (nI q) (nI g) (nI t) (nI r) (nI mb) (nI nc) (nI nl) (nI pv) (nI va) (nI n3) (nI ve) (nI ed) (nI se) (nI ci) (nI mr) (nI 1) (nI ld) A8)), (A8 8, .inl (cI, 1900, .inl f3)), (A8 9, .inl (cI, 7600, .inl fbe)), (A8 10, .inl (cI, 2200, .inl ffe)), (A8 11, .inl (cI, 2200, .inl fle)), (A8 17, .inl (cI, 47000, .inl ftp)), (A8 18, .inl (cZ, 47000, .inl fse)), (A8 0, .inl (cI, 8, .inl ff)), (A8 1, .inl (cI, 8, .inl fr)), (A8 2, .inl (cI, 8, .inl fto)), (A8 3, .inl (cI, 8, .inl fw)), (A8 4, .inl (cI, 8, .inl fm)), (A8 5, .inl (cI, 4, .inl fp)), (A8 12, .inl (cI, 3, .inl fch)), (A8 13, .inl (cI, 4, .inl fhe)), (A8 14, .inl (cI, 4, .inl fst)), (A8 15, .inl (cI, 16, .inl fta_)), (A8 7, .inl (cI, 2400, .inl fl)), (A8 6, .inl (cI, 600, .inl ft)), (A8 16, .inl (cZ, 170, .inl ftr))] (fun (ov : Option Value) (ow : va_W) => ∃ rb : Int32, ∃ fse' : Nat → Int32, ∃ fch' : Nat → Int32, ∃ fhe' : Nat → Int32, ∃ fst' : Nat → Int32, ∃ fta' : Nat → Int32, ∃ ftr' : Nat → Int32, ov = some (.int rb) ∧ ow = [(mm, .inr (10, zmo (nI 0) (nI q) (nI g) (nI t) (nI r) (nI mb) (nI nc) (nI nl) (nI pv) (nI va) (nI n3) (nI ve) (nI ed) (nI se) (nI ci) (nI mr) (nI 1) (nI ld) A8)), (A8 8, .inl (cI, 1900, .inl f3)), (A8 9, .inl (cI, 7600, .inl fbe)), (A8 10, .inl (cI, 2200, .inl ffe)), (A8 11, .inl (cI, 2200, .inl fle)), (A8 17, .inl (cI, 47000, .inl ftp)), (A8 18, .inl (cZ, 47000, .inl fse')), (A8 0, .inl (cI, 8, .inl ff)), (A8 1, .inl (cI, 8, .inl fr)), (A8 2, .inl (cI, 8, .inl fto)), (A8 3, .inl (cI, 8, .inl fw)), (A8 4, .inl (cI, 8, .inl fm)), (A8 5, .inl (cI, 4, .inl fp)), (A8 12, .inl (cI, 3, .inl fch')), (A8 13, .inl (cI, 4, .inl fhe')), (A8 14, .inl (cI, 4, .inl fst')), (A8 15, .inl (cI, 16, .inl fta')), (A8 7, .inl (cI, 2400, .inl fl)), (A8 6, .inl (cI, 600, .inl ft)), (A8 16, .inl (cZ, 170, .inl ftr'))] ∧ ((rb = 1 ∧ (zonce rr ci ∧ ztot (zva va L3) ed rr ci = ci)) ∨ (rb = 0 ∧ ¬ (zonce rr ci ∧ ztot (zva va L3) ed rr ci = ci))) ∧ (((zonce rr ci ∧ ztot (zva va L3) ed rr ci = ci) ∧ (∀ i, i < t → fch' i = nI ((fun i => zpc (zpk (zva va L3) ed rr ci ci) (zfk t g q) r i r) i)) ∧ (∀ x, x < va → ftr' x = nI ((zbb (zmk (zmarks t g q r (zcf r rl tp (fun i => zpc (zpk (zva va L3) ed rr ci ci) (zfk t g q) r i r)) (fun i => zpc (zpk (zva va L3) ed rr ci ci) (zfk t g q) r i r))) (zpv t g q r) Cs) x))) ∨ (¬ (zonce rr ci ∧ ztot (zva va L3) ed rr ci = ci) ∧ fch' = fch ∧ ftr' = ftr))) := by
  refine zC.of (cc := cX8_pull) (maxL := 4) (ret := (some .boolean)) (by decide) rfl (Nat.le_of_ble_eq_true rfl) ?_
  intro p e s m below meth c A ls F hr hlk hnm B hl
  have hl : lv_has ls 4 [(0, .ref mm)] := hl
  refine lv_aload_n F.1 F.2.1 dX8_pull_0 rfl (lv_at hl 0 rfl) ?_
  refine lv_iconst (v := (nI 1)) F.1 F.2.1 dX8_pull_1 (by decide) ?_
  refine z_callV (wr := [(A8 8, .inl (cI, 1900, .inl f3)), (A8 9, .inl (cI, 7600, .inl fbe)), (A8 10, .inl (cI, 2200, .inl ffe)), (A8 11, .inl (cI, 2200, .inl fle)), (A8 17, .inl (cI, 47000, .inl ftp)), (A8 18, .inl (cZ, 47000, .inl fse)), (A8 0, .inl (cI, 8, .inl ff)), (A8 1, .inl (cI, 8, .inl fr)), (A8 2, .inl (cI, 8, .inl fto)), (A8 3, .inl (cI, 8, .inl fw)), (A8 4, .inl (cI, 8, .inl fm)), (A8 5, .inl (cI, 4, .inl fp)), (A8 12, .inl (cI, 3, .inl fch)), (A8 13, .inl (cI, 4, .inl fhe)), (A8 14, .inl (cI, 4, .inl fst)), (A8 15, .inl (cI, 16, .inl fta_)), (A8 7, .inl (cI, 2400, .inl fl)), (A8 6, .inl (cI, 600, .inl ft)), (A8 16, .inl (cZ, 170, .inl ftr))]) (rest := []) (As := [.int (nI 1)]) F B (kX8_may l D cI cZ cG cJ mm th q g t r mb nc nl pv va n3 ve ed se ci mr 1 ld A8 1 (by omega) (by omega)) hl.1 (C := RX8) (T := TX8) (N := 37) (ci := 10) (q0 := 0) gX8_pull_X8_may rfl 1 yX8_pull_X8_may rfl rfl rfl [0] [1, 2, 3, 4, 5, 6, 7, 8, 9, 10, 11, 12, 13, 14, 15, 16, 17, 18, 19] rfl rfl rfl rfl (by decide) (Nat.le_of_ble_eq_true rfl) (Nat.le_of_ble_eq_true rfl) (Nat.le_of_ble_eq_true rfl) rfl dX8_pull_2 (show 0 + 0 ≤ 0 by omega) (show 0 + 0 ≤ 0 by omega) (fun vv ww H locs hRR B => ?_)
  obtain ⟨r_1, th9, rfl, rfl, hb_2, hth⟩ := hRR
  have B : zB D (zT cI cZ cG cJ) A s.heap s [(A8 8, .inl (cI, 1900, .inl f3)), (A8 9, .inl (cI, 7600, .inl fbe)), (A8 10, .inl (cI, 2200, .inl ffe)), (A8 11, .inl (cI, 2200, .inl fle)), (A8 17, .inl (cI, 47000, .inl ftp)), (A8 18, .inl (cZ, 47000, .inl fse)), (A8 0, .inl (cI, 8, .inl ff)), (A8 1, .inl (cI, 8, .inl fr)), (A8 2, .inl (cI, 8, .inl fto)), (A8 3, .inl (cI, 8, .inl fw)), (A8 4, .inl (cI, 8, .inl fm)), (A8 5, .inl (cI, 4, .inl fp)), (A8 12, .inl (cI, 3, .inl fch)), (A8 13, .inl (cI, 4, .inl fhe)), (A8 14, .inl (cI, 4, .inl fst)), (A8 15, .inl (cI, 16, .inl fta_)), (A8 7, .inl (cI, 2400, .inl fl)), (A8 6, .inl (cI, 600, .inl ft)), (A8 16, .inl (cZ, 170, .inl ftr)), (mm, .inr (10, zmo (nI th9) (nI q) (nI g) (nI t) (nI r) (nI mb) (nI nc) (nI nl) (nI pv) (nI va) (nI n3) (nI ve) (nI ed) (nI se) (nI ci) (nI mr) (nI 1) (nI ld) A8))] _ _ := B
  rcases hb_2 with ⟨hr1, hpM⟩ | ⟨hr1, hpM⟩ <;> subst hr1
  · refine W.eq (g2 := F0 m 5 ls [.int 1]) rfl ?_
    have hth9 : th9 = 0 := by omega
    subst hth9
    refine lv_if_eq (tgt := 19) F.1 F.2.1 dX8_pull_5 (by decide) (fun hq => absurd hq (by decide)) (fun _ => ?_)
    refine lv_aload_n F.1 F.2.1 dX8_pull_8 rfl (lv_at hl 0 rfl) ?_
    refine z_callV (wr := [(A8 0, .inl (cI, 8, .inl ff)), (A8 1, .inl (cI, 8, .inl fr)), (A8 2, .inl (cI, 8, .inl fto)), (A8 3, .inl (cI, 8, .inl fw)), (A8 4, .inl (cI, 8, .inl fm)), (A8 5, .inl (cI, 4, .inl fp)), (A8 12, .inl (cI, 3, .inl fch)), (A8 13, .inl (cI, 4, .inl fhe)), (A8 14, .inl (cI, 4, .inl fst)), (A8 15, .inl (cI, 16, .inl fta_)), (A8 7, .inl (cI, 2400, .inl fl)), (A8 6, .inl (cI, 600, .inl ft)), (A8 16, .inl (cZ, 170, .inl ftr))]) (rest := []) (As := []) F B (kX8_price l D cI cZ cG cJ mm 0 q g t r mb nc nl pv va n3 ve ed se ci mr 1 ld A8 f3 L3 fbe ffe fle ftp rr fse (hR) (hb) (hv) (hL) (hve) (hve2) (hed) (hed2) (hFE) (hLE) (hBE) (by omega) (by omega) (hrw)) hl.1 (C := RX8) (T := TX8) (N := 37) (ci := 10) (q0 := 19) gX8_pull_X8_price rfl 0 yX8_pull_X8_price rfl rfl rfl [19, 0, 1, 2, 3, 4, 5] [6, 7, 8, 9, 10, 11, 12, 13, 14, 15, 16, 17, 18] rfl rfl rfl rfl (by decide) (Nat.le_of_ble_eq_true rfl) (Nat.le_of_ble_eq_true rfl) (Nat.le_of_ble_eq_true rfl) rfl dX8_pull_9 (show 0 + 0 ≤ 0 by omega) (show 0 + 0 ≤ 0 by omega) (fun vv ww H locs hRR B => ?_)
    obtain ⟨fse9, rfl, rfl⟩ := hRR
    have B : zB D (zT cI cZ cG cJ) A s.heap s [(A8 0, .inl (cI, 8, .inl ff)), (A8 1, .inl (cI, 8, .inl fr)), (A8 2, .inl (cI, 8, .inl fto)), (A8 3, .inl (cI, 8, .inl fw)), (A8 4, .inl (cI, 8, .inl fm)), (A8 5, .inl (cI, 4, .inl fp)), (A8 12, .inl (cI, 3, .inl fch)), (A8 13, .inl (cI, 4, .inl fhe)), (A8 14, .inl (cI, 4, .inl fst)), (A8 15, .inl (cI, 16, .inl fta_)), (A8 7, .inl (cI, 2400, .inl fl)), (A8 6, .inl (cI, 600, .inl ft)), (A8 16, .inl (cZ, 170, .inl ftr)), (mm, .inr (10, zmo (nI 0) (nI q) (nI g) (nI t) (nI r) (nI mb) (nI nc) (nI nl) (nI pv) (nI va) (nI n3) (nI ve) (nI ed) (nI se) (nI ci) (nI mr) (nI 1) (nI ld) A8)), (A8 8, .inl (cI, 1900, .inl f3)), (A8 9, .inl (cI, 7600, .inl fbe)), (A8 10, .inl (cI, 2200, .inl ffe)), (A8 11, .inl (cI, 2200, .inl fle)), (A8 17, .inl (cI, 47000, .inl ftp)), (A8 18, .inl (cZ, 47000, .inl fse9))] _ _ := B
    refine W.eq (g2 := F0 m 12 ls [.int (zif (zonce rr ci) (nI (ztot (zva va L3) ed rr ci)) (-1))]) rfl ?_
    refine lv_aload_n F.1 F.2.1 dX8_pull_12 rfl (lv_at hl 0 rfl) ?_
    refine z_get F B 13 rfl (ci := 10) (C := RX8) (T := TX8) (N := 37) rfl iX8_pull_X8 23 (by decide) fX8_pull_185 rfl dX8_pull_13 ?_
    refine lv_icmp_eq (tgt := 21) F.1 F.2.1 dX8_pull_16 (by decide) (fun c16 => ?_) (fun c16 => ?_)
    · obtain ⟨hon, htt⟩ := zprice_is c16 (by omega) (by have := ztot_le (zva va L3) ed rr hci1; omega)
      obtain ⟨hac, hdg⟩ := hgd ⟨hon, htt⟩
      have hve9 := hve; have hv1 : ∀ d, d < 2 * ed → (zva va L3) d < ve := fun d hd => by have := zva_bd hL (d := d) (by omega); omega
      refine lv_iconst (v := (nI 0)) F.1 F.2.1 dX8_pull_21 (by decide) ?_
      refine lv_istore_n (lv' := [(1, .int (nI 0)), (0, .ref mm)]) F.1 F.2.1 dX8_pull_22 rfl hl (by decide) rfl (fun ls hl => ?_)
      have loop23 : ∀ (fuel : Nat) (x : Nat) (ft0 : Nat → Int32), va - x < fuel → (x ≤ va) → (∀ y, y < x → ft0 y = nI (zmk [] (2 * y))) → ∀ (H : Heap) (locs : List Loc) (ls : Array Slot), zB D (zT cI cZ cG cJ) A s.heap s [(mm, .inr (10, zmo (nI 0) (nI q) (nI g) (nI t) (nI r) (nI mb) (nI nc) (nI nl) (nI pv) (nI va) (nI n3) (nI ve) (nI ed) (nI se) (nI ci) (nI mr) (nI 1) (nI ld) A8)), (A8 8, .inl (cI, 1900, .inl f3)), (A8 9, .inl (cI, 7600, .inl fbe)), (A8 10, .inl (cI, 2200, .inl ffe)), (A8 11, .inl (cI, 2200, .inl fle)), (A8 17, .inl (cI, 47000, .inl ftp)), (A8 18, .inl (cZ, 47000, .inl fse9)), (A8 0, .inl (cI, 8, .inl ff)), (A8 1, .inl (cI, 8, .inl fr)), (A8 2, .inl (cI, 8, .inl fto)), (A8 3, .inl (cI, 8, .inl fw)), (A8 4, .inl (cI, 8, .inl fm)), (A8 5, .inl (cI, 4, .inl fp)), (A8 12, .inl (cI, 3, .inl fch)), (A8 13, .inl (cI, 4, .inl fhe)), (A8 14, .inl (cI, 4, .inl fst)), (A8 15, .inl (cI, 16, .inl fta_)), (A8 7, .inl (cI, 2400, .inl fl)), (A8 6, .inl (cI, 600, .inl ft)), (A8 16, .inl (cZ, 170, .inl ft0))] H locs → lv_has ls 4 [(0, .ref mm), (1, .int (nI x))] → W p l e { frames := 5, cells := 0, slots := 0, locals := 115 } s m [.ref mm].toArray below meth c H locs 0 0 (zQ below [.ref mm].toArray s D (zT cI cZ cG cJ) A (fun (ov : Option Value) (ow : va_W) => ∃ rb : Int32, ∃ fse' : Nat → Int32, ∃ fch' : Nat → Int32, ∃ fhe' : Nat → Int32, ∃ fst' : Nat → Int32, ∃ fta' : Nat → Int32, ∃ ftr' : Nat → Int32, ov = some (.int rb) ∧ ow = [(mm, .inr (10, zmo (nI 0) (nI q) (nI g) (nI t) (nI r) (nI mb) (nI nc) (nI nl) (nI pv) (nI va) (nI n3) (nI ve) (nI ed) (nI se) (nI ci) (nI mr) (nI 1) (nI ld) A8)), (A8 8, .inl (cI, 1900, .inl f3)), (A8 9, .inl (cI, 7600, .inl fbe)), (A8 10, .inl (cI, 2200, .inl ffe)), (A8 11, .inl (cI, 2200, .inl fle)), (A8 17, .inl (cI, 47000, .inl ftp)), (A8 18, .inl (cZ, 47000, .inl fse')), (A8 0, .inl (cI, 8, .inl ff)), (A8 1, .inl (cI, 8, .inl fr)), (A8 2, .inl (cI, 8, .inl fto)), (A8 3, .inl (cI, 8, .inl fw)), (A8 4, .inl (cI, 8, .inl fm)), (A8 5, .inl (cI, 4, .inl fp)), (A8 12, .inl (cI, 3, .inl fch')), (A8 13, .inl (cI, 4, .inl fhe')), (A8 14, .inl (cI, 4, .inl fst')), (A8 15, .inl (cI, 16, .inl fta')), (A8 7, .inl (cI, 2400, .inl fl)), (A8 6, .inl (cI, 600, .inl ft)), (A8 16, .inl (cZ, 170, .inl ftr'))] ∧ ((rb = 1 ∧ (zonce rr ci ∧ ztot (zva va L3) ed rr ci = ci)) ∨ (rb = 0 ∧ ¬ (zonce rr ci ∧ ztot (zva va L3) ed rr ci = ci))) ∧ (((zonce rr ci ∧ ztot (zva va L3) ed rr ci = ci) ∧ (∀ i, i < t → fch' i = nI ((fun i => zpc (zpk (zva va L3) ed rr ci ci) (zfk t g q) r i r) i)) ∧ (∀ x, x < va → ftr' x = nI ((zbb (zmk (zmarks t g q r (zcf r rl tp (fun i => zpc (zpk (zva va L3) ed rr ci ci) (zfk t g q) r i r)) (fun i => zpc (zpk (zva va L3) ed rr ci ci) (zfk t g q) r i r))) (zpv t g q r) Cs) x))) ∨ (¬ (zonce rr ci ∧ ztot (zva va L3) ed rr ci = ci) ∧ fch' = fch ∧ ftr' = ftr))) 0 0) (F0 m 23 ls []) := by
        intro fuel
        induction fuel with
        | zero => intro x ft0 hmz; exact absurd hmz (Nat.not_lt_zero _)
        | succ fuel ih =>
          intro x ft0 hm hx hz0 H locs ls B hl
          have ih23 := ih
          refine lv_iload_n F.1 F.2.1 dX8_pull_23 rfl (lv_at hl 1 rfl) ?_
          refine lv_aload_n F.1 F.2.1 dX8_pull_24 rfl (lv_at hl 0 rfl) ?_
          refine z_get F B 0 rfl (ci := 10) (C := RX8) (T := TX8) (N := 37) rfl iX8_pull_X8 15 (by decide) fX8_pull_158 rfl dX8_pull_25 ?_
          refine z_icmp_ge (tgt := 44) F (by omega) (by omega) dX8_pull_28 (by decide) (fun c28 => ?_) (fun c28 => ?_)
          · have hxe : x = va := by omega
            refine lv_iconst (v := (nI 0)) F.1 F.2.1 dX8_pull_44 (by decide) ?_
            refine lv_istore_n (lv' := [(1, .int (nI 0)), (0, .ref mm)]) F.1 F.2.1 dX8_pull_45 rfl hl (by decide) rfl (fun ls hl => ?_)
            have loop46 : ∀ (fuel : Nat) (k : Nat) (ft1 : Nat → Int32), ci - k < fuel → (k ≤ ci) → (∀ y, y < va → ft1 y = nI (zmk (zpk (zva va L3) ed rr ci k) (2 * y))) → ∀ (H : Heap) (locs : List Loc) (ls : Array Slot), zB D (zT cI cZ cG cJ) A s.heap s [(mm, .inr (10, zmo (nI 0) (nI q) (nI g) (nI t) (nI r) (nI mb) (nI nc) (nI nl) (nI pv) (nI va) (nI n3) (nI ve) (nI ed) (nI se) (nI ci) (nI mr) (nI 1) (nI ld) A8)), (A8 8, .inl (cI, 1900, .inl f3)), (A8 9, .inl (cI, 7600, .inl fbe)), (A8 10, .inl (cI, 2200, .inl ffe)), (A8 11, .inl (cI, 2200, .inl fle)), (A8 17, .inl (cI, 47000, .inl ftp)), (A8 18, .inl (cZ, 47000, .inl fse9)), (A8 0, .inl (cI, 8, .inl ff)), (A8 1, .inl (cI, 8, .inl fr)), (A8 2, .inl (cI, 8, .inl fto)), (A8 3, .inl (cI, 8, .inl fw)), (A8 4, .inl (cI, 8, .inl fm)), (A8 5, .inl (cI, 4, .inl fp)), (A8 12, .inl (cI, 3, .inl fch)), (A8 13, .inl (cI, 4, .inl fhe)), (A8 14, .inl (cI, 4, .inl fst)), (A8 15, .inl (cI, 16, .inl fta_)), (A8 7, .inl (cI, 2400, .inl fl)), (A8 6, .inl (cI, 600, .inl ft)), (A8 16, .inl (cZ, 170, .inl ft1))] H locs → lv_has ls 4 [(0, .ref mm), (1, .int (nI k))] → W p l e { frames := 5, cells := 0, slots := 0, locals := 115 } s m [.ref mm].toArray below meth c H locs 0 0 (zQ below [.ref mm].toArray s D (zT cI cZ cG cJ) A (fun (ov : Option Value) (ow : va_W) => ∃ rb : Int32, ∃ fse' : Nat → Int32, ∃ fch' : Nat → Int32, ∃ fhe' : Nat → Int32, ∃ fst' : Nat → Int32, ∃ fta' : Nat → Int32, ∃ ftr' : Nat → Int32, ov = some (.int rb) ∧ ow = [(mm, .inr (10, zmo (nI 0) (nI q) (nI g) (nI t) (nI r) (nI mb) (nI nc) (nI nl) (nI pv) (nI va) (nI n3) (nI ve) (nI ed) (nI se) (nI ci) (nI mr) (nI 1) (nI ld) A8)), (A8 8, .inl (cI, 1900, .inl f3)), (A8 9, .inl (cI, 7600, .inl fbe)), (A8 10, .inl (cI, 2200, .inl ffe)), (A8 11, .inl (cI, 2200, .inl fle)), (A8 17, .inl (cI, 47000, .inl ftp)), (A8 18, .inl (cZ, 47000, .inl fse')), (A8 0, .inl (cI, 8, .inl ff)), (A8 1, .inl (cI, 8, .inl fr)), (A8 2, .inl (cI, 8, .inl fto)), (A8 3, .inl (cI, 8, .inl fw)), (A8 4, .inl (cI, 8, .inl fm)), (A8 5, .inl (cI, 4, .inl fp)), (A8 12, .inl (cI, 3, .inl fch')), (A8 13, .inl (cI, 4, .inl fhe')), (A8 14, .inl (cI, 4, .inl fst')), (A8 15, .inl (cI, 16, .inl fta')), (A8 7, .inl (cI, 2400, .inl fl)), (A8 6, .inl (cI, 600, .inl ft)), (A8 16, .inl (cZ, 170, .inl ftr'))] ∧ ((rb = 1 ∧ (zonce rr ci ∧ ztot (zva va L3) ed rr ci = ci)) ∨ (rb = 0 ∧ ¬ (zonce rr ci ∧ ztot (zva va L3) ed rr ci = ci))) ∧ (((zonce rr ci ∧ ztot (zva va L3) ed rr ci = ci) ∧ (∀ i, i < t → fch' i = nI ((fun i => zpc (zpk (zva va L3) ed rr ci ci) (zfk t g q) r i r) i)) ∧ (∀ x, x < va → ftr' x = nI ((zbb (zmk (zmarks t g q r (zcf r rl tp (fun i => zpc (zpk (zva va L3) ed rr ci ci) (zfk t g q) r i r)) (fun i => zpc (zpk (zva va L3) ed rr ci ci) (zfk t g q) r i r))) (zpv t g q r) Cs) x))) ∨ (¬ (zonce rr ci ∧ ztot (zva va L3) ed rr ci = ci) ∧ fch' = fch ∧ ftr' = ftr))) 0 0) (F0 m 46 ls []) := by
              intro fuel
              induction fuel with
              | zero => intro k ft1 hmz; exact absurd hmz (Nat.not_lt_zero _)
              | succ fuel ih =>
                intro k ft1 hm hk hp1 H locs ls B hl
                have ih46 := ih
                refine lv_iload_n F.1 F.2.1 dX8_pull_46 rfl (lv_at hl 1 rfl) ?_
                refine lv_aload_n F.1 F.2.1 dX8_pull_47 rfl (lv_at hl 0 rfl) ?_
                refine z_get F B 0 rfl (ci := 10) (C := RX8) (T := TX8) (N := 37) rfl iX8_pull_X8 23 (by decide) fX8_pull_185 rfl dX8_pull_48 ?_
                refine z_icmp_ge (tgt := 150) F (by omega) (by omega) dX8_pull_51 (by decide) (fun c51 => ?_) (fun c51 => ?_)
                · have hke : k = ci := by omega
                  rw [hke] at hp1
                  refine lv_iconst (v := (nI 0)) F.1 F.2.1 dX8_pull_150 (by decide) ?_
                  refine lv_istore_n (lv' := [(1, .int (nI 0)), (0, .ref mm)]) F.1 F.2.1 dX8_pull_151 rfl hl (by decide) rfl (fun ls hl => ?_)
                  have loop152 : ∀ (fuel : Nat) (i : Nat) (fch1 : Nat → Int32), t - i < fuel → (i ≤ t) → (∀ j, j < i → fch1 j = nI ((fun i => zpc (zpk (zva va L3) ed rr ci ci) (zfk t g q) r i r) j)) → ∀ (H : Heap) (locs : List Loc) (ls : Array Slot), zB D (zT cI cZ cG cJ) A s.heap s [(mm, .inr (10, zmo (nI 0) (nI q) (nI g) (nI t) (nI r) (nI mb) (nI nc) (nI nl) (nI pv) (nI va) (nI n3) (nI ve) (nI ed) (nI se) (nI ci) (nI mr) (nI 1) (nI ld) A8)), (A8 8, .inl (cI, 1900, .inl f3)), (A8 9, .inl (cI, 7600, .inl fbe)), (A8 10, .inl (cI, 2200, .inl ffe)), (A8 11, .inl (cI, 2200, .inl fle)), (A8 17, .inl (cI, 47000, .inl ftp)), (A8 18, .inl (cZ, 47000, .inl fse9)), (A8 0, .inl (cI, 8, .inl ff)), (A8 1, .inl (cI, 8, .inl fr)), (A8 2, .inl (cI, 8, .inl fto)), (A8 3, .inl (cI, 8, .inl fw)), (A8 4, .inl (cI, 8, .inl fm)), (A8 5, .inl (cI, 4, .inl fp)), (A8 12, .inl (cI, 3, .inl fch1)), (A8 13, .inl (cI, 4, .inl fhe)), (A8 14, .inl (cI, 4, .inl fst)), (A8 15, .inl (cI, 16, .inl fta_)), (A8 7, .inl (cI, 2400, .inl fl)), (A8 6, .inl (cI, 600, .inl ft)), (A8 16, .inl (cZ, 170, .inl ft1))] H locs → lv_has ls 4 [(0, .ref mm), (1, .int (nI i))] → W p l e { frames := 5, cells := 0, slots := 0, locals := 115 } s m [.ref mm].toArray below meth c H locs 0 0 (zQ below [.ref mm].toArray s D (zT cI cZ cG cJ) A (fun (ov : Option Value) (ow : va_W) => ∃ rb : Int32, ∃ fse' : Nat → Int32, ∃ fch' : Nat → Int32, ∃ fhe' : Nat → Int32, ∃ fst' : Nat → Int32, ∃ fta' : Nat → Int32, ∃ ftr' : Nat → Int32, ov = some (.int rb) ∧ ow = [(mm, .inr (10, zmo (nI 0) (nI q) (nI g) (nI t) (nI r) (nI mb) (nI nc) (nI nl) (nI pv) (nI va) (nI n3) (nI ve) (nI ed) (nI se) (nI ci) (nI mr) (nI 1) (nI ld) A8)), (A8 8, .inl (cI, 1900, .inl f3)), (A8 9, .inl (cI, 7600, .inl fbe)), (A8 10, .inl (cI, 2200, .inl ffe)), (A8 11, .inl (cI, 2200, .inl fle)), (A8 17, .inl (cI, 47000, .inl ftp)), (A8 18, .inl (cZ, 47000, .inl fse')), (A8 0, .inl (cI, 8, .inl ff)), (A8 1, .inl (cI, 8, .inl fr)), (A8 2, .inl (cI, 8, .inl fto)), (A8 3, .inl (cI, 8, .inl fw)), (A8 4, .inl (cI, 8, .inl fm)), (A8 5, .inl (cI, 4, .inl fp)), (A8 12, .inl (cI, 3, .inl fch')), (A8 13, .inl (cI, 4, .inl fhe')), (A8 14, .inl (cI, 4, .inl fst')), (A8 15, .inl (cI, 16, .inl fta')), (A8 7, .inl (cI, 2400, .inl fl)), (A8 6, .inl (cI, 600, .inl ft)), (A8 16, .inl (cZ, 170, .inl ftr'))] ∧ ((rb = 1 ∧ (zonce rr ci ∧ ztot (zva va L3) ed rr ci = ci)) ∨ (rb = 0 ∧ ¬ (zonce rr ci ∧ ztot (zva va L3) ed rr ci = ci))) ∧ (((zonce rr ci ∧ ztot (zva va L3) ed rr ci = ci) ∧ (∀ i, i < t → fch' i = nI ((fun i => zpc (zpk (zva va L3) ed rr ci ci) (zfk t g q) r i r) i)) ∧ (∀ x, x < va → ftr' x = nI ((zbb (zmk (zmarks t g q r (zcf r rl tp (fun i => zpc (zpk (zva va L3) ed rr ci ci) (zfk t g q) r i r)) (fun i => zpc (zpk (zva va L3) ed rr ci ci) (zfk t g q) r i r))) (zpv t g q r) Cs) x))) ∨ (¬ (zonce rr ci ∧ ztot (zva va L3) ed rr ci = ci) ∧ fch' = fch ∧ ftr' = ftr))) 0 0) (F0 m 152 ls []) := by
                    intro fuel
                    induction fuel with
                    | zero => intro i fch1 hmz; exact absurd hmz (Nat.not_lt_zero _)
                    | succ fuel ih =>
                      intro i fch1 hm hi hc1 H locs ls B hl
                      have ih152 := ih
                      refine lv_iload_n F.1 F.2.1 dX8_pull_152 rfl (lv_at hl 1 rfl) ?_
                      refine lv_aload_n F.1 F.2.1 dX8_pull_153 rfl (lv_at hl 0 rfl) ?_
                      refine z_get F B 0 rfl (ci := 10) (C := RX8) (T := TX8) (N := 37) rfl iX8_pull_X8 3 (by decide) fX8_pull_16 rfl dX8_pull_154 ?_
                      refine z_icmp_ge (tgt := 203) F (by omega) (by omega) dX8_pull_157 (by decide) (fun c157 => ?_) (fun c157 => ?_)
                      · have hit : i = t := by omega
                        refine lv_aload_n F.1 F.2.1 dX8_pull_203 rfl (lv_at hl 0 rfl) ?_
                        refine z_callV (wr := [(A8 8, .inl (cI, 1900, .inl f3)), (A8 9, .inl (cI, 7600, .inl fbe)), (A8 10, .inl (cI, 2200, .inl ffe)), (A8 11, .inl (cI, 2200, .inl fle)), (A8 17, .inl (cI, 47000, .inl ftp)), (A8 18, .inl (cZ, 47000, .inl fse9))]) (rest := []) (As := []) F B (kX8_forward l D cI cZ cG cJ mm 0 q g t r mb nc nl pv va n3 ve ed se ci mr 1 ld A8 fl ft Cs ff fr fto fw fm rl fhe fst fta_ fp tp fch1 (fun i => zpc (zpk (zva va L3) ed rr ci ci) (zfk t g q) r i r) ft1 (by omega) (by omega) (by omega) (by omega) (hff) (hfr) (hfto) (hfw) (hfm) (hrb4) (htp) (htp3) (fun j hj => ⟨hc1 j (by omega), hdg j hj⟩) (by omega) (hF) (hBd) (hne) (hmx) (hlit) (by omega) (hvaA _) (by omega) (hcbA (fun i => zpc (zpk (zva va L3) ed rr ci ci) (zfk t g q) r i r) hdg hac) (hac)) hl.1 (C := RX8) (T := TX8) (N := 37) (ci := 10) (q0 := 0) gX8_pull_X8_forward rfl 0 yX8_pull_X8_forward rfl rfl rfl [0, 7, 8, 9, 10, 11, 12, 13, 14, 15, 16, 17, 18, 19] [1, 2, 3, 4, 5, 6] rfl rfl rfl rfl (by decide) (Nat.le_of_ble_eq_true rfl) (Nat.le_of_ble_eq_true rfl) (Nat.le_of_ble_eq_true rfl) rfl dX8_pull_204 (show 0 + 0 ≤ 0 by omega) (show 0 + 0 ≤ 0 by omega) (fun vv ww H locs hRR B => ?_)
                        obtain ⟨fhe'_3, fst'_4, fta'_5, ftr'_6, rfl, rfl, hTf⟩ := hRR
                        have B : zB D (zT cI cZ cG cJ) A s.heap s [(A8 8, .inl (cI, 1900, .inl f3)), (A8 9, .inl (cI, 7600, .inl fbe)), (A8 10, .inl (cI, 2200, .inl ffe)), (A8 11, .inl (cI, 2200, .inl fle)), (A8 17, .inl (cI, 47000, .inl ftp)), (A8 18, .inl (cZ, 47000, .inl fse9)), (mm, .inr (10, zmo (nI 0) (nI q) (nI g) (nI t) (nI r) (nI mb) (nI nc) (nI nl) (nI pv) (nI va) (nI n3) (nI ve) (nI ed) (nI se) (nI ci) (nI mr) (nI 1) (nI ld) A8)), (A8 0, .inl (cI, 8, .inl ff)), (A8 1, .inl (cI, 8, .inl fr)), (A8 2, .inl (cI, 8, .inl fto)), (A8 3, .inl (cI, 8, .inl fw)), (A8 4, .inl (cI, 8, .inl fm)), (A8 5, .inl (cI, 4, .inl fp)), (A8 12, .inl (cI, 3, .inl fch1)), (A8 13, .inl (cI, 4, .inl fhe'_3)), (A8 14, .inl (cI, 4, .inl fst'_4)), (A8 15, .inl (cI, 16, .inl fta'_5)), (A8 7, .inl (cI, 2400, .inl fl)), (A8 6, .inl (cI, 600, .inl ft)), (A8 16, .inl (cZ, 170, .inl ftr'_6))] _ _ := B
                        refine W.eq (g2 := F0 m 207 ls []) rfl ?_
                        refine lv_iconst (v := (nI 1)) F.1 F.2.1 dX8_pull_207 (by decide) ?_
                        exact z_zret F hr hlk B (Or.inr rfl) [6, 0, 1, 2, 3, 4, 5, 7, 8, 9, 10, 11, 12, 13, 14, 15, 16, 17, 18, 19] rfl (rfl) dX8_pull_208 (by omega) (by omega) ⟨(nI 1), fse9, fch1, fhe'_3, fst'_4, fta'_5, ftr'_6, rfl, rfl, Or.inl ⟨rfl, ⟨hon, htt⟩⟩, (Or.inl ⟨⟨hon, htt⟩, fun j hj => hc1 j (by omega), hTf⟩)⟩
                      · have hkl := fun k2 (h9 : k2 ≤ r) => zkv_lt (t := t) (g := g) (q := q) (show i < t by omega) h9
                        have hvp := hvaA (fun _ => 0)
                        refine lv_iconst (v := (nI 0)) F.1 F.2.1 dX8_pull_160 (by decide) ?_
                        refine lv_istore_n (lv' := [(2, .int (nI 0)), (0, .ref mm), (1, .int (nI i))]) F.1 F.2.1 dX8_pull_161 rfl hl (by decide) rfl (fun ls hl => ?_)
                        have loop162 : ∀ (fuel : Nat) (k2 : Nat), r - k2 < fuel → (k2 ≤ r) → (∀ j, j < k2 → ¬ zmk (zpk (zva va L3) ed rr ci ci) (2 * zkv (zfk t g q) r i j) = 1) → ∀ (H : Heap) (locs : List Loc) (ls : Array Slot), zB D (zT cI cZ cG cJ) A s.heap s [(mm, .inr (10, zmo (nI 0) (nI q) (nI g) (nI t) (nI r) (nI mb) (nI nc) (nI nl) (nI pv) (nI va) (nI n3) (nI ve) (nI ed) (nI se) (nI ci) (nI mr) (nI 1) (nI ld) A8)), (A8 8, .inl (cI, 1900, .inl f3)), (A8 9, .inl (cI, 7600, .inl fbe)), (A8 10, .inl (cI, 2200, .inl ffe)), (A8 11, .inl (cI, 2200, .inl fle)), (A8 17, .inl (cI, 47000, .inl ftp)), (A8 18, .inl (cZ, 47000, .inl fse9)), (A8 0, .inl (cI, 8, .inl ff)), (A8 1, .inl (cI, 8, .inl fr)), (A8 2, .inl (cI, 8, .inl fto)), (A8 3, .inl (cI, 8, .inl fw)), (A8 4, .inl (cI, 8, .inl fm)), (A8 5, .inl (cI, 4, .inl fp)), (A8 12, .inl (cI, 3, .inl fch1)), (A8 13, .inl (cI, 4, .inl fhe)), (A8 14, .inl (cI, 4, .inl fst)), (A8 15, .inl (cI, 16, .inl fta_)), (A8 7, .inl (cI, 2400, .inl fl)), (A8 6, .inl (cI, 600, .inl ft)), (A8 16, .inl (cZ, 170, .inl ft1))] H locs → lv_has ls 4 [(0, .ref mm), (1, .int (nI i)), (2, .int (nI k2))] → W p l e { frames := 5, cells := 0, slots := 0, locals := 115 } s m [.ref mm].toArray below meth c H locs 0 0 (zQ below [.ref mm].toArray s D (zT cI cZ cG cJ) A (fun (ov : Option Value) (ow : va_W) => ∃ rb : Int32, ∃ fse' : Nat → Int32, ∃ fch' : Nat → Int32, ∃ fhe' : Nat → Int32, ∃ fst' : Nat → Int32, ∃ fta' : Nat → Int32, ∃ ftr' : Nat → Int32, ov = some (.int rb) ∧ ow = [(mm, .inr (10, zmo (nI 0) (nI q) (nI g) (nI t) (nI r) (nI mb) (nI nc) (nI nl) (nI pv) (nI va) (nI n3) (nI ve) (nI ed) (nI se) (nI ci) (nI mr) (nI 1) (nI ld) A8)), (A8 8, .inl (cI, 1900, .inl f3)), (A8 9, .inl (cI, 7600, .inl fbe)), (A8 10, .inl (cI, 2200, .inl ffe)), (A8 11, .inl (cI, 2200, .inl fle)), (A8 17, .inl (cI, 47000, .inl ftp)), (A8 18, .inl (cZ, 47000, .inl fse')), (A8 0, .inl (cI, 8, .inl ff)), (A8 1, .inl (cI, 8, .inl fr)), (A8 2, .inl (cI, 8, .inl fto)), (A8 3, .inl (cI, 8, .inl fw)), (A8 4, .inl (cI, 8, .inl fm)), (A8 5, .inl (cI, 4, .inl fp)), (A8 12, .inl (cI, 3, .inl fch')), (A8 13, .inl (cI, 4, .inl fhe')), (A8 14, .inl (cI, 4, .inl fst')), (A8 15, .inl (cI, 16, .inl fta')), (A8 7, .inl (cI, 2400, .inl fl)), (A8 6, .inl (cI, 600, .inl ft)), (A8 16, .inl (cZ, 170, .inl ftr'))] ∧ ((rb = 1 ∧ (zonce rr ci ∧ ztot (zva va L3) ed rr ci = ci)) ∨ (rb = 0 ∧ ¬ (zonce rr ci ∧ ztot (zva va L3) ed rr ci = ci))) ∧ (((zonce rr ci ∧ ztot (zva va L3) ed rr ci = ci) ∧ (∀ i, i < t → fch' i = nI ((fun i => zpc (zpk (zva va L3) ed rr ci ci) (zfk t g q) r i r) i)) ∧ (∀ x, x < va → ftr' x = nI ((zbb (zmk (zmarks t g q r (zcf r rl tp (fun i => zpc (zpk (zva va L3) ed rr ci ci) (zfk t g q) r i r)) (fun i => zpc (zpk (zva va L3) ed rr ci ci) (zfk t g q) r i r))) (zpv t g q r) Cs) x))) ∨ (¬ (zonce rr ci ∧ ztot (zva va L3) ed rr ci = ci) ∧ fch' = fch ∧ ftr' = ftr))) 0 0) (F0 m 162 ls []) := by
                          intro fuel
                          induction fuel with
                          | zero => intro k2 hmz; exact absurd hmz (Nat.not_lt_zero _)
                          | succ fuel ih =>
                            intro k2 hm hk2 hn2 H locs ls B hl
                            have ih162 := ih
                            refine lv_iload_n F.1 F.2.1 dX8_pull_162 rfl (lv_at hl 2 rfl) ?_
                            refine lv_aload_n F.1 F.2.1 dX8_pull_163 rfl (lv_at hl 0 rfl) ?_
                            refine z_get F B 0 rfl (ci := 10) (C := RX8) (T := TX8) (N := 37) rfl iX8_pull_X8 4 (by decide) fX8_pull_96 rfl dX8_pull_164 ?_
                            refine z_icmp_ge (tgt := 190) F (by omega) (by omega) dX8_pull_167 (by decide) (fun c167 => ?_) (fun c167 => ?_)
                            · have hk2e : k2 = r := by omega
                              have hpce : (fun i => zpc (zpk (zva va L3) ed rr ci ci) (zfk t g q) r i r) i = k2 := by rw [hk2e] at hn2 ⊢; exact zpc_no hn2
                              refine lv_aload_n F.1 F.2.1 dX8_pull_190 rfl (lv_at hl 0 rfl) ?_
                              refine z_get F B 0 rfl (ci := 10) (C := RX8) (T := TX8) (N := 37) rfl iX8_pull_X8 29 (by decide) fX8_pull_56 rfl dX8_pull_191 ?_
                              refine lv_iload_n F.1 F.2.1 dX8_pull_194 rfl (lv_at hl 1 rfl) ?_
                              refine lv_iload_n F.1 F.2.1 dX8_pull_195 rfl (lv_at hl 2 rfl) ?_
                              refine z_iast F B 13 0 rfl rfl (j := i) (by omega) (by omega) dX8_pull_196 (fun H locs B => ?_)
                              have B : zB D (zT cI cZ cG cJ) A s.heap s [(mm, .inr (10, zmo (nI 0) (nI q) (nI g) (nI t) (nI r) (nI mb) (nI nc) (nI nl) (nI pv) (nI va) (nI n3) (nI ve) (nI ed) (nI se) (nI ci) (nI mr) (nI 1) (nI ld) A8)), (A8 8, .inl (cI, 1900, .inl f3)), (A8 9, .inl (cI, 7600, .inl fbe)), (A8 10, .inl (cI, 2200, .inl ffe)), (A8 11, .inl (cI, 2200, .inl fle)), (A8 17, .inl (cI, 47000, .inl ftp)), (A8 18, .inl (cZ, 47000, .inl fse9)), (A8 0, .inl (cI, 8, .inl ff)), (A8 1, .inl (cI, 8, .inl fr)), (A8 2, .inl (cI, 8, .inl fto)), (A8 3, .inl (cI, 8, .inl fw)), (A8 4, .inl (cI, 8, .inl fm)), (A8 5, .inl (cI, 4, .inl fp)), (A8 12, .inl (cI, 3, .inl (upd fch1 i (nI k2)))), (A8 13, .inl (cI, 4, .inl fhe)), (A8 14, .inl (cI, 4, .inl fst)), (A8 15, .inl (cI, 16, .inl fta_)), (A8 7, .inl (cI, 2400, .inl fl)), (A8 6, .inl (cI, 600, .inl ft)), (A8 16, .inl (cZ, 170, .inl ft1))] _ _ := B
                              refine lv_iinc (v := (nI (i + 1))) (lv' := [(1, .int (nI (i + 1))), (0, .ref mm), (2, .int (nI k2))]) F.1 F.2.1 dX8_pull_197 hl (k := 1) rfl (by rw [show Int32.ofInt 1 = nI 1 from rfl, nI_add]) (by decide) rfl (fun ls hl => ?_)
                              refine lv_goto (tgt := 152) F.1 F.2.1 dX8_pull_200 (by decide) ?_
                              exact ih152 (i + 1) (upd fch1 i (nI k2)) (by first | omega | (simp only [] at *; omega)) (by omega) (fun j hj => by by_cases e9 : j = i; subst e9; rw [pk_us]; exact congrArg nI hpce.symm; rw [pk_un e9]; exact hc1 j (by omega)) _ _ _ (B.sub [0, 1, 2, 3, 4, 5, 6, 7, 8, 9, 10, 11, 12, 13, 14, 15, 16, 17, 18, 19] rfl (rfl)) (lv_sub hl [1, 0] (rfl))
                            · have hkk := hkl k2 (by omega)
                              refine lv_aload_n F.1 F.2.1 dX8_pull_170 rfl (lv_at hl 0 rfl) ?_
                              refine z_get F B 0 rfl (ci := 10) (C := RX8) (T := TX8) (N := 37) rfl iX8_pull_X8 33 (by decide) fX8_pull_68 rfl dX8_pull_171 ?_
                              refine lv_aload_n F.1 F.2.1 dX8_pull_174 rfl (lv_at hl 0 rfl) ?_
                              refine lv_iload_n F.1 F.2.1 dX8_pull_175 rfl (lv_at hl 1 rfl) ?_
                              refine lv_iload_n F.1 F.2.1 dX8_pull_176 rfl (lv_at hl 2 rfl) ?_
                              refine z_callV (wr := [(A8 8, .inl (cI, 1900, .inl f3)), (A8 9, .inl (cI, 7600, .inl fbe)), (A8 10, .inl (cI, 2200, .inl ffe)), (A8 11, .inl (cI, 2200, .inl fle)), (A8 17, .inl (cI, 47000, .inl ftp)), (A8 18, .inl (cZ, 47000, .inl fse9)), (A8 0, .inl (cI, 8, .inl ff)), (A8 1, .inl (cI, 8, .inl fr)), (A8 2, .inl (cI, 8, .inl fto)), (A8 3, .inl (cI, 8, .inl fw)), (A8 4, .inl (cI, 8, .inl fm)), (A8 5, .inl (cI, 4, .inl fp)), (A8 12, .inl (cI, 3, .inl fch1)), (A8 13, .inl (cI, 4, .inl fhe)), (A8 14, .inl (cI, 4, .inl fst)), (A8 15, .inl (cI, 16, .inl fta_)), (A8 7, .inl (cI, 2400, .inl fl)), (A8 6, .inl (cI, 600, .inl ft)), (A8 16, .inl (cZ, 170, .inl ft1))]) (rest := [.ref (A8 16)]) (As := [.int (nI i), .int (nI k2)]) F B (kX8_k l D cI cZ cG cJ mm 0 q g t r mb nc nl pv va n3 ve ed se ci mr 1 ld A8 i k2) hl.1 (C := RX8) (T := TX8) (N := 37) (ci := 10) (q0 := 0) gX8_pull_X8_k rfl 2 yX8_pull_X8_k rfl rfl rfl [0] [1, 2, 3, 4, 5, 6, 7, 8, 9, 10, 11, 12, 13, 14, 15, 16, 17, 18, 19] rfl rfl rfl rfl (by decide) (Nat.le_of_ble_eq_true rfl) (Nat.le_of_ble_eq_true rfl) (Nat.le_of_ble_eq_true rfl) rfl dX8_pull_177 (show 0 + 0 ≤ 0 by omega) (show 0 + 0 ≤ 0 by omega) (fun vv ww H locs hRR B => ?_)
                              obtain ⟨rfl, rfl⟩ := hRR
                              have B : zB D (zT cI cZ cG cJ) A s.heap s [(A8 8, .inl (cI, 1900, .inl f3)), (A8 9, .inl (cI, 7600, .inl fbe)), (A8 10, .inl (cI, 2200, .inl ffe)), (A8 11, .inl (cI, 2200, .inl fle)), (A8 17, .inl (cI, 47000, .inl ftp)), (A8 18, .inl (cZ, 47000, .inl fse9)), (A8 0, .inl (cI, 8, .inl ff)), (A8 1, .inl (cI, 8, .inl fr)), (A8 2, .inl (cI, 8, .inl fto)), (A8 3, .inl (cI, 8, .inl fw)), (A8 4, .inl (cI, 8, .inl fm)), (A8 5, .inl (cI, 4, .inl fp)), (A8 12, .inl (cI, 3, .inl fch1)), (A8 13, .inl (cI, 4, .inl fhe)), (A8 14, .inl (cI, 4, .inl fst)), (A8 15, .inl (cI, 16, .inl fta_)), (A8 7, .inl (cI, 2400, .inl fl)), (A8 6, .inl (cI, 600, .inl ft)), (A8 16, .inl (cZ, 170, .inl ft1)), (mm, .inr (10, zmo (nI 0) (nI q) (nI g) (nI t) (nI r) (nI mb) (nI nc) (nI nl) (nI pv) (nI va) (nI n3) (nI ve) (nI ed) (nI se) (nI ci) (nI mr) (nI 1) (nI ld) A8))] _ _ := B
                              refine W.eq (g2 := F0 m 180 ls [.int (nI (zkv (zfk t g q) r i k2)), .ref (A8 16)]) rfl ?_
                              refine z_zald F B 18 1 rfl rfl (j := zkv (zfk t g q) r i k2) (by omega) (by omega) dX8_pull_180 ?_
                              refine W.eq (g2 := F0 m 181 ls [.int (nI (zmk (zpk (zva va L3) ed rr ci ci) (2 * zkv (zfk t g q) r i k2)))]) (by rw [hp1 _ (by omega)]) ?_
                              refine z_if_ne (tgt := 190) F (by have := zmk_le (zpk (zva va L3) ed rr ci ci) (2 * zkv (zfk t g q) r i k2); omega) dX8_pull_181 (by decide) (fun c181 => ?_) (fun c181 => ?_)
                              · have hpce : (fun i => zpc (zpk (zva va L3) ed rr ci ci) (zfk t g q) r i r) i = k2 := zpc_yes hn2 (by have := zmk_le (zpk (zva va L3) ed rr ci ci) (2 * zkv (zfk t g q) r i k2); omega) (by omega)
                                refine lv_aload_n F.1 F.2.1 dX8_pull_190 rfl (lv_at hl 0 rfl) ?_
                                refine z_get F B 19 rfl (ci := 10) (C := RX8) (T := TX8) (N := 37) rfl iX8_pull_X8 29 (by decide) fX8_pull_56 rfl dX8_pull_191 ?_
                                refine lv_iload_n F.1 F.2.1 dX8_pull_194 rfl (lv_at hl 1 rfl) ?_
                                refine lv_iload_n F.1 F.2.1 dX8_pull_195 rfl (lv_at hl 2 rfl) ?_
                                refine z_iast F B 12 0 rfl rfl (j := i) (by omega) (by omega) dX8_pull_196 (fun H locs B => ?_)
                                have B : zB D (zT cI cZ cG cJ) A s.heap s [(A8 8, .inl (cI, 1900, .inl f3)), (A8 9, .inl (cI, 7600, .inl fbe)), (A8 10, .inl (cI, 2200, .inl ffe)), (A8 11, .inl (cI, 2200, .inl fle)), (A8 17, .inl (cI, 47000, .inl ftp)), (A8 18, .inl (cZ, 47000, .inl fse9)), (A8 0, .inl (cI, 8, .inl ff)), (A8 1, .inl (cI, 8, .inl fr)), (A8 2, .inl (cI, 8, .inl fto)), (A8 3, .inl (cI, 8, .inl fw)), (A8 4, .inl (cI, 8, .inl fm)), (A8 5, .inl (cI, 4, .inl fp)), (A8 12, .inl (cI, 3, .inl (upd fch1 i (nI k2)))), (A8 13, .inl (cI, 4, .inl fhe)), (A8 14, .inl (cI, 4, .inl fst)), (A8 15, .inl (cI, 16, .inl fta_)), (A8 7, .inl (cI, 2400, .inl fl)), (A8 6, .inl (cI, 600, .inl ft)), (A8 16, .inl (cZ, 170, .inl ft1)), (mm, .inr (10, zmo (nI 0) (nI q) (nI g) (nI t) (nI r) (nI mb) (nI nc) (nI nl) (nI pv) (nI va) (nI n3) (nI ve) (nI ed) (nI se) (nI ci) (nI mr) (nI 1) (nI ld) A8))] _ _ := B
                                refine lv_iinc (v := (nI (i + 1))) (lv' := [(1, .int (nI (i + 1))), (0, .ref mm), (2, .int (nI k2))]) F.1 F.2.1 dX8_pull_197 hl (k := 1) rfl (by rw [show Int32.ofInt 1 = nI 1 from rfl, nI_add]) (by decide) rfl (fun ls hl => ?_)
                                refine lv_goto (tgt := 152) F.1 F.2.1 dX8_pull_200 (by decide) ?_
                                exact ih152 (i + 1) (upd fch1 i (nI k2)) (by first | omega | (simp only [] at *; omega)) (by omega) (fun j hj => by by_cases e9 : j = i; subst e9; rw [pk_us]; exact congrArg nI hpce.symm; rw [pk_un e9]; exact hc1 j (by omega)) _ _ _ (B.sub [19, 0, 1, 2, 3, 4, 5, 6, 7, 8, 9, 10, 11, 12, 13, 14, 15, 16, 17, 18] rfl (rfl)) (lv_sub hl [1, 0] (rfl))
                              · refine lv_iinc (v := (nI (k2 + 1))) (lv' := [(2, .int (nI (k2 + 1))), (0, .ref mm), (1, .int (nI i))]) F.1 F.2.1 dX8_pull_184 hl (k := 2) rfl (by rw [show Int32.ofInt 1 = nI 1 from rfl, nI_add]) (by decide) rfl (fun ls hl => ?_)
                                refine lv_goto (tgt := 162) F.1 F.2.1 dX8_pull_187 (by decide) ?_
                                exact ih162 (k2 + 1) (by first | omega | (simp only [] at *; omega)) (by omega) (fun j hj => by by_cases e9 : j = k2; subst e9; omega; exact hn2 j (by omega)) _ _ _ (B.sub [19, 0, 1, 2, 3, 4, 5, 6, 7, 8, 9, 10, 11, 12, 13, 14, 15, 16, 17, 18] rfl (rfl)) (lv_sub hl [1, 2, 0] (rfl))
                        exact loop162 (r - 0 + 1) 0 (Nat.lt_succ_self _) (by omega) (fun j hj => absurd hj (Nat.not_lt_zero _)) _ _ _ (B.sub [0, 1, 2, 3, 4, 5, 6, 7, 8, 9, 10, 11, 12, 13, 14, 15, 16, 17, 18, 19] rfl (rfl)) (lv_sub hl [1, 2, 0] (rfl))
                  exact loop152 (t - 0 + 1) 0 fch (Nat.lt_succ_self _) (by omega) (fun j hj => absurd hj (Nat.not_lt_zero _)) _ _ _ (B.sub [0, 1, 2, 3, 4, 5, 6, 7, 8, 9, 10, 11, 12, 13, 14, 15, 16, 17, 18, 19] rfl (rfl)) (lv_sub hl [1, 0] (rfl))
                · have hrk := hrw k (by omega)
                  have hrk2 := hrw ((k + 1) % ci) (Nat.mod_lt _ (by omega))
                  refine lv_aload_n F.1 F.2.1 dX8_pull_54 rfl (lv_at hl 0 rfl) ?_
                  refine z_get F B 0 rfl (ci := 10) (C := RX8) (T := TX8) (N := 37) rfl iX8_pull_X8 34 (by decide) fX8_pull_73 rfl dX8_pull_55 ?_
                  refine lv_iload_n F.1 F.2.1 dX8_pull_58 rfl (lv_at hl 1 rfl) ?_
                  refine lv_iconst (v := (nI 1)) F.1 F.2.1 dX8_pull_59 (by decide) ?_
                  refine z_iadd F dX8_pull_60 ?_
                  refine lv_aload_n F.1 F.2.1 dX8_pull_61 rfl (lv_at hl 0 rfl) ?_
                  refine z_get F B 0 rfl (ci := 10) (C := RX8) (T := TX8) (N := 37) rfl iX8_pull_X8 23 (by decide) fX8_pull_185 rfl dX8_pull_62 ?_
                  refine z_icmp_ge (tgt := 74) F (by omega) (by omega) dX8_pull_65 (by decide) (fun c65 => ?_) (fun c65 => ?_)
                  · have hmd : (k + 1) % ci = 0 := by rw [show k + 1 = ci by omega]; exact Nat.mod_self ci
                    refine lv_iconst (v := (nI 0)) F.1 F.2.1 dX8_pull_74 (by decide) ?_
                    refine z_iald F B 5 0 rfl rfl (j := 0) (by omega) (by omega) dX8_pull_75 ?_
                    refine W.eq (g2 := F0 m 76 ls [.int (nI (rr ((k + 1) % ci)))]) (by rw [show ftp 0 = nI (rr ((k + 1) % ci)) by have q9 := hrk2.1; rw [hmd] at q9 ⊢; exact q9]) ?_
                    refine lv_istore_n (lv' := [(2, .int (nI (rr ((k + 1) % ci)))), (0, .ref mm), (1, .int (nI k))]) F.1 F.2.1 dX8_pull_76 rfl hl (by decide) rfl (fun ls hl => ?_)
                    refine lv_aload_n F.1 F.2.1 dX8_pull_77 rfl (lv_at hl 1 rfl) ?_
                    refine z_get F B 0 rfl (ci := 10) (C := RX8) (T := TX8) (N := 37) rfl iX8_pull_X8 34 (by decide) fX8_pull_73 rfl dX8_pull_78 ?_
                    refine lv_iload_n F.1 F.2.1 dX8_pull_81 rfl (lv_at hl 2 rfl) ?_
                    refine z_iald F B 5 0 rfl rfl (j := k) (by omega) (by omega) dX8_pull_82 ?_
                    refine W.eq (g2 := F0 m 83 ls [.int (nI (rr k))]) (by rw [hrk.1]) ?_
                    refine lv_bipush (v := (nI 12)) F.1 F.2.1 dX8_pull_83 (by decide) ?_
                    refine lv_aload_n F.1 F.2.1 dX8_pull_85 rfl (lv_at hl 1 rfl) ?_
                    refine z_get F B 0 rfl (ci := 10) (C := RX8) (T := TX8) (N := 37) rfl iX8_pull_X8 21 (by decide) fX8_pull_164 rfl dX8_pull_86 ?_
                    refine z_imul F dX8_pull_89 ?_
                    refine z_icmp_lt (tgt := 144) F (by omega) (by omega) dX8_pull_90 (by decide) (fun c90 => ?_) (fun c90 => ?_)
                    · refine lv_iinc (v := (nI (k + 1))) (lv' := [(1, .int (nI (k + 1))), (2, .int (nI (rr ((k + 1) % ci)))), (0, .ref mm)]) F.1 F.2.1 dX8_pull_144 hl (k := 2) rfl (by rw [show Int32.ofInt 1 = nI 1 from rfl, nI_add]) (by decide) rfl (fun ls hl => ?_)
                      refine lv_goto (tgt := 46) F.1 F.2.1 dX8_pull_147 (by decide) ?_
                      exact ih46 (k + 1) ft1 (by first | omega | (simp only [] at *; omega)) (by omega) (by first | exact zpk2_no hp1 (by omega) | exact zpk2_odd hp1 hselA (by omega)) _ _ _ (B.sub [0, 1, 2, 3, 4, 5, 6, 7, 8, 9, 10, 11, 12, 13, 14, 15, 16, 17, 18, 19] rfl (rfl)) (lv_sub hl [2, 0] (rfl))
                    · refine lv_iload_n F.1 F.2.1 dX8_pull_93 rfl (lv_at hl 0 rfl) ?_
                      refine lv_bipush (v := (nI 12)) F.1 F.2.1 dX8_pull_94 (by decide) ?_
                      refine lv_aload_n F.1 F.2.1 dX8_pull_96 rfl (lv_at hl 1 rfl) ?_
                      refine z_get F B 0 rfl (ci := 10) (C := RX8) (T := TX8) (N := 37) rfl iX8_pull_X8 21 (by decide) fX8_pull_164 rfl dX8_pull_97 ?_
                      refine z_imul F dX8_pull_100 ?_
                      refine z_icmp_ge (tgt := 144) F (by omega) (by omega) dX8_pull_101 (by decide) (fun c101 => ?_) (fun c101 => ?_)
                      · refine lv_iinc (v := (nI (k + 1))) (lv' := [(1, .int (nI (k + 1))), (2, .int (nI (rr ((k + 1) % ci)))), (0, .ref mm)]) F.1 F.2.1 dX8_pull_144 hl (k := 2) rfl (by rw [show Int32.ofInt 1 = nI 1 from rfl, nI_add]) (by decide) rfl (fun ls hl => ?_)
                        refine lv_goto (tgt := 46) F.1 F.2.1 dX8_pull_147 (by decide) ?_
                        exact ih46 (k + 1) ft1 (by first | omega | (simp only [] at *; omega)) (by omega) (by first | exact zpk2_no hp1 (by omega) | exact zpk2_odd hp1 hselA (by omega)) _ _ _ (B.sub [0, 1, 2, 3, 4, 5, 6, 7, 8, 9, 10, 11, 12, 13, 14, 15, 16, 17, 18, 19] rfl (rfl)) (lv_sub hl [2, 0] (rfl))
                      · have hselA : 12 * ed ≤ rr k ∧ rr ((k + 1) % ci) < 12 * ed := ⟨by omega, by omega⟩
                        have hwv := hv1 (rr ((k + 1) % ci) / 6) (by omega)
                        refine lv_aload_n F.1 F.2.1 dX8_pull_104 rfl (lv_at hl 1 rfl) ?_
                        refine lv_iload_n F.1 F.2.1 dX8_pull_105 rfl (lv_at hl 0 rfl) ?_
                        refine lv_bipush (v := (nI 12)) F.1 F.2.1 dX8_pull_106 (by decide) ?_
                        refine z_idiv F (by omega) (by omega) (by omega) dX8_pull_108 ?_
                        refine lv_iload_n F.1 F.2.1 dX8_pull_109 rfl (lv_at hl 0 rfl) ?_
                        refine lv_bipush (v := (nI 6)) F.1 F.2.1 dX8_pull_110 (by decide) ?_
                        refine z_idiv F (by omega) (by omega) (by omega) dX8_pull_112 ?_
                        refine lv_iconst (v := (nI 2)) F.1 F.2.1 dX8_pull_113 (by decide) ?_
                        refine z_irem F (by omega) (by omega) (by omega) dX8_pull_114 ?_
                        refine z_callV (wr := [(A8 9, .inl (cI, 7600, .inl fbe)), (A8 10, .inl (cI, 2200, .inl ffe)), (A8 11, .inl (cI, 2200, .inl fle)), (A8 17, .inl (cI, 47000, .inl ftp)), (A8 18, .inl (cZ, 47000, .inl fse9)), (A8 0, .inl (cI, 8, .inl ff)), (A8 1, .inl (cI, 8, .inl fr)), (A8 2, .inl (cI, 8, .inl fto)), (A8 3, .inl (cI, 8, .inl fw)), (A8 4, .inl (cI, 8, .inl fm)), (A8 5, .inl (cI, 4, .inl fp)), (A8 12, .inl (cI, 3, .inl fch)), (A8 13, .inl (cI, 4, .inl fhe)), (A8 14, .inl (cI, 4, .inl fst)), (A8 15, .inl (cI, 16, .inl fta_)), (A8 7, .inl (cI, 2400, .inl fl)), (A8 6, .inl (cI, 600, .inl ft)), (A8 16, .inl (cZ, 170, .inl ft1))]) (rest := []) (As := [.int (nI ((rr ((k + 1) % ci)) / 12)), .int (nI (((rr ((k + 1) % ci)) / 6) % 2))]) F B (kX8_vertexAt l D cI cZ cG cJ mm 0 q g t r mb nc nl pv va n3 ve ed se ci mr 1 ld A8 f3 L3 ((rr ((k + 1) % ci)) / 12) (((rr ((k + 1) % ci)) / 6) % 2) (hR) (by omega) (by omega) (by omega) (by omega)) hl.1 (C := RX8) (T := TX8) (N := 37) (ci := 10) (q0 := 0) gX8_pull_X8_vertexAt rfl 2 yX8_pull_X8_vertexAt rfl rfl rfl [0, 1] [2, 3, 4, 5, 6, 7, 8, 9, 10, 11, 12, 13, 14, 15, 16, 17, 18, 19] rfl rfl rfl rfl (by decide) (Nat.le_of_ble_eq_true rfl) (Nat.le_of_ble_eq_true rfl) (Nat.le_of_ble_eq_true rfl) rfl dX8_pull_115 (show 0 + 0 ≤ 0 by omega) (show 0 + 0 ≤ 0 by omega) (fun vv ww H locs hRR B => ?_)
                        obtain ⟨rfl, rfl⟩ := hRR
                        have B : zB D (zT cI cZ cG cJ) A s.heap s [(A8 9, .inl (cI, 7600, .inl fbe)), (A8 10, .inl (cI, 2200, .inl ffe)), (A8 11, .inl (cI, 2200, .inl fle)), (A8 17, .inl (cI, 47000, .inl ftp)), (A8 18, .inl (cZ, 47000, .inl fse9)), (A8 0, .inl (cI, 8, .inl ff)), (A8 1, .inl (cI, 8, .inl fr)), (A8 2, .inl (cI, 8, .inl fto)), (A8 3, .inl (cI, 8, .inl fw)), (A8 4, .inl (cI, 8, .inl fm)), (A8 5, .inl (cI, 4, .inl fp)), (A8 12, .inl (cI, 3, .inl fch)), (A8 13, .inl (cI, 4, .inl fhe)), (A8 14, .inl (cI, 4, .inl fst)), (A8 15, .inl (cI, 16, .inl fta_)), (A8 7, .inl (cI, 2400, .inl fl)), (A8 6, .inl (cI, 600, .inl ft)), (A8 16, .inl (cZ, 170, .inl ft1)), (mm, .inr (10, zmo (nI 0) (nI q) (nI g) (nI t) (nI r) (nI mb) (nI nc) (nI nl) (nI pv) (nI va) (nI n3) (nI ve) (nI ed) (nI se) (nI ci) (nI mr) (nI 1) (nI ld) A8)), (A8 8, .inl (cI, 1900, .inl f3))] _ _ := B
                        refine W.eq (g2 := F0 m 118 ls [.int (nI (zva va L3 (2 * ((rr ((k + 1) % ci)) / 12) + (((rr ((k + 1) % ci)) / 6) % 2))))]) rfl ?_
                        refine W.eq (g2 := F0 m 118 ls [.int (nI (zva va L3 (rr ((k + 1) % ci) / 6)))]) (by rw [show 2 * (rr ((k + 1) % ci) / 12) + rr ((k + 1) % ci) / 6 % 2 = rr ((k + 1) % ci) / 6 by omega]) ?_
                        refine lv_istore_n (lv' := [(3, .int (nI (zva va L3 (rr ((k + 1) % ci) / 6)))), (2, .int (nI (rr ((k + 1) % ci)))), (0, .ref mm), (1, .int (nI k))]) F.1 F.2.1 dX8_pull_118 rfl hl (by decide) rfl (fun ls hl => ?_)
                        refine lv_iload_n F.1 F.2.1 dX8_pull_119 rfl (lv_at hl 0 rfl) ?_
                        refine lv_iconst (v := (nI 2)) F.1 F.2.1 dX8_pull_120 (by decide) ?_
                        refine lv_aload_n F.1 F.2.1 dX8_pull_121 rfl (lv_at hl 2 rfl) ?_
                        refine z_get F B 18 rfl (ci := 10) (C := RX8) (T := TX8) (N := 37) rfl iX8_pull_X8 15 (by decide) fX8_pull_158 rfl dX8_pull_122 ?_
                        refine z_imul F dX8_pull_125 ?_
                        refine z_icmp_ge (tgt := 144) F (by omega) (by omega) dX8_pull_126 (by decide) (fun c126 => ?_) (fun c126 => ?_)
                        · refine lv_iinc (v := (nI (k + 1))) (lv' := [(1, .int (nI (k + 1))), (3, .int (nI (zva va L3 (rr ((k + 1) % ci) / 6)))), (2, .int (nI (rr ((k + 1) % ci)))), (0, .ref mm)]) F.1 F.2.1 dX8_pull_144 hl (k := 3) rfl (by rw [show Int32.ofInt 1 = nI 1 from rfl, nI_add]) (by decide) rfl (fun ls hl => ?_)
                          refine lv_goto (tgt := 46) F.1 F.2.1 dX8_pull_147 (by decide) ?_
                          exact ih46 (k + 1) ft1 (by first | omega | (simp only [] at *; omega)) (by omega) (by first | exact zpk2_no hp1 (by omega) | exact zpk2_odd hp1 hselA (by omega)) _ _ _ (B.sub [18, 19, 0, 1, 2, 3, 4, 5, 6, 7, 8, 9, 10, 11, 12, 13, 14, 15, 16, 17] rfl (rfl)) (lv_sub hl [3, 0] (rfl))
                        · refine lv_iload_n F.1 F.2.1 dX8_pull_129 rfl (lv_at hl 0 rfl) ?_
                          refine lv_iconst (v := (nI 2)) F.1 F.2.1 dX8_pull_130 (by decide) ?_
                          refine z_irem F (by omega) (by omega) (by omega) dX8_pull_131 ?_
                          refine z_if_ne (tgt := 144) F (by omega) dX8_pull_132 (by decide) (fun c132 => ?_) (fun c132 => ?_)
                          · refine lv_iinc (v := (nI (k + 1))) (lv' := [(1, .int (nI (k + 1))), (3, .int (nI (zva va L3 (rr ((k + 1) % ci) / 6)))), (2, .int (nI (rr ((k + 1) % ci)))), (0, .ref mm)]) F.1 F.2.1 dX8_pull_144 hl (k := 3) rfl (by rw [show Int32.ofInt 1 = nI 1 from rfl, nI_add]) (by decide) rfl (fun ls hl => ?_)
                            refine lv_goto (tgt := 46) F.1 F.2.1 dX8_pull_147 (by decide) ?_
                            exact ih46 (k + 1) ft1 (by first | omega | (simp only [] at *; omega)) (by omega) (by first | exact zpk2_no hp1 (by omega) | exact zpk2_odd hp1 hselA (by omega)) _ _ _ (B.sub [18, 19, 0, 1, 2, 3, 4, 5, 6, 7, 8, 9, 10, 11, 12, 13, 14, 15, 16, 17] rfl (rfl)) (lv_sub hl [3, 0] (rfl))
                          · refine lv_aload_n F.1 F.2.1 dX8_pull_135 rfl (lv_at hl 2 rfl) ?_
                            refine z_get F B 18 rfl (ci := 10) (C := RX8) (T := TX8) (N := 37) rfl iX8_pull_X8 33 (by decide) fX8_pull_68 rfl dX8_pull_136 ?_
                            refine lv_iload_n F.1 F.2.1 dX8_pull_139 rfl (lv_at hl 0 rfl) ?_
                            refine lv_iconst (v := (nI 2)) F.1 F.2.1 dX8_pull_140 (by decide) ?_
                            refine z_idiv F (by omega) (by omega) (by omega) dX8_pull_141 ?_
                            refine lv_iconst (v := (nI 1)) F.1 F.2.1 dX8_pull_142 (by decide) ?_
                            refine z_zast F B 17 1 rfl rfl (j := (zva va L3 (rr ((k + 1) % ci) / 6)) / 2) (by decide) (by omega) (by omega) dX8_pull_143 (fun H locs B => ?_)
                            have B : zB D (zT cI cZ cG cJ) A s.heap s [(A8 9, .inl (cI, 7600, .inl fbe)), (A8 10, .inl (cI, 2200, .inl ffe)), (A8 11, .inl (cI, 2200, .inl fle)), (A8 17, .inl (cI, 47000, .inl ftp)), (A8 18, .inl (cZ, 47000, .inl fse9)), (A8 0, .inl (cI, 8, .inl ff)), (A8 1, .inl (cI, 8, .inl fr)), (A8 2, .inl (cI, 8, .inl fto)), (A8 3, .inl (cI, 8, .inl fw)), (A8 4, .inl (cI, 8, .inl fm)), (A8 5, .inl (cI, 4, .inl fp)), (A8 12, .inl (cI, 3, .inl fch)), (A8 13, .inl (cI, 4, .inl fhe)), (A8 14, .inl (cI, 4, .inl fst)), (A8 15, .inl (cI, 16, .inl fta_)), (A8 7, .inl (cI, 2400, .inl fl)), (A8 6, .inl (cI, 600, .inl ft)), (A8 16, .inl (cZ, 170, .inl (upd ft1 ((zva va L3 (rr ((k + 1) % ci) / 6)) / 2) (nI 1)))), (mm, .inr (10, zmo (nI 0) (nI q) (nI g) (nI t) (nI r) (nI mb) (nI nc) (nI nl) (nI pv) (nI va) (nI n3) (nI ve) (nI ed) (nI se) (nI ci) (nI mr) (nI 1) (nI ld) A8)), (A8 8, .inl (cI, 1900, .inl f3))] _ _ := B
                            refine lv_iinc (v := (nI (k + 1))) (lv' := [(1, .int (nI (k + 1))), (3, .int (nI (zva va L3 (rr ((k + 1) % ci) / 6)))), (2, .int (nI (rr ((k + 1) % ci)))), (0, .ref mm)]) F.1 F.2.1 dX8_pull_144 hl (k := 3) rfl (by rw [show Int32.ofInt 1 = nI 1 from rfl, nI_add]) (by decide) rfl (fun ls hl => ?_)
                            refine lv_goto (tgt := 46) F.1 F.2.1 dX8_pull_147 (by decide) ?_
                            exact ih46 (k + 1) (upd ft1 ((zva va L3 (rr ((k + 1) % ci) / 6)) / 2) (nI 1)) (by first | omega | (simp only [] at *; omega)) (by omega) (zpk2_yes hp1 hselA (by omega) (by omega)) _ _ _ (B.sub [18, 19, 0, 1, 2, 3, 4, 5, 6, 7, 8, 9, 10, 11, 12, 13, 14, 15, 16, 17] rfl (rfl)) (lv_sub hl [3, 0] (rfl))
                  · have hmd : (k + 1) % ci = k + 1 := Nat.mod_eq_of_lt (by omega)
                    refine lv_iload_n F.1 F.2.1 dX8_pull_68 rfl (lv_at hl 1 rfl) ?_
                    refine lv_iconst (v := (nI 1)) F.1 F.2.1 dX8_pull_69 (by decide) ?_
                    refine z_iadd F dX8_pull_70 ?_
                    refine lv_goto (tgt := 75) F.1 F.2.1 dX8_pull_71 (by decide) ?_
                    refine z_iald F B 5 0 rfl rfl (j := k + 1) (by omega) (by omega) dX8_pull_75 ?_
                    refine W.eq (g2 := F0 m 76 ls [.int (nI (rr ((k + 1) % ci)))]) (by rw [show ftp (k + 1) = nI (rr ((k + 1) % ci)) by have q9 := hrk2.1; rw [hmd] at q9 ⊢; exact q9]) ?_
                    refine lv_istore_n (lv' := [(2, .int (nI (rr ((k + 1) % ci)))), (0, .ref mm), (1, .int (nI k))]) F.1 F.2.1 dX8_pull_76 rfl hl (by decide) rfl (fun ls hl => ?_)
                    refine lv_aload_n F.1 F.2.1 dX8_pull_77 rfl (lv_at hl 1 rfl) ?_
                    refine z_get F B 0 rfl (ci := 10) (C := RX8) (T := TX8) (N := 37) rfl iX8_pull_X8 34 (by decide) fX8_pull_73 rfl dX8_pull_78 ?_
                    refine lv_iload_n F.1 F.2.1 dX8_pull_81 rfl (lv_at hl 2 rfl) ?_
                    refine z_iald F B 5 0 rfl rfl (j := k) (by omega) (by omega) dX8_pull_82 ?_
                    refine W.eq (g2 := F0 m 83 ls [.int (nI (rr k))]) (by rw [hrk.1]) ?_
                    refine lv_bipush (v := (nI 12)) F.1 F.2.1 dX8_pull_83 (by decide) ?_
                    refine lv_aload_n F.1 F.2.1 dX8_pull_85 rfl (lv_at hl 1 rfl) ?_
                    refine z_get F B 0 rfl (ci := 10) (C := RX8) (T := TX8) (N := 37) rfl iX8_pull_X8 21 (by decide) fX8_pull_164 rfl dX8_pull_86 ?_
                    refine z_imul F dX8_pull_89 ?_
                    refine z_icmp_lt (tgt := 144) F (by omega) (by omega) dX8_pull_90 (by decide) (fun c90 => ?_) (fun c90 => ?_)
                    · refine lv_iinc (v := (nI (k + 1))) (lv' := [(1, .int (nI (k + 1))), (2, .int (nI (rr ((k + 1) % ci)))), (0, .ref mm)]) F.1 F.2.1 dX8_pull_144 hl (k := 2) rfl (by rw [show Int32.ofInt 1 = nI 1 from rfl, nI_add]) (by decide) rfl (fun ls hl => ?_)
                      refine lv_goto (tgt := 46) F.1 F.2.1 dX8_pull_147 (by decide) ?_
                      exact ih46 (k + 1) ft1 (by first | omega | (simp only [] at *; omega)) (by omega) (by first | exact zpk2_no hp1 (by omega) | exact zpk2_odd hp1 hselA (by omega)) _ _ _ (B.sub [0, 1, 2, 3, 4, 5, 6, 7, 8, 9, 10, 11, 12, 13, 14, 15, 16, 17, 18, 19] rfl (rfl)) (lv_sub hl [2, 0] (rfl))
                    · refine lv_iload_n F.1 F.2.1 dX8_pull_93 rfl (lv_at hl 0 rfl) ?_
                      refine lv_bipush (v := (nI 12)) F.1 F.2.1 dX8_pull_94 (by decide) ?_
                      refine lv_aload_n F.1 F.2.1 dX8_pull_96 rfl (lv_at hl 1 rfl) ?_
                      refine z_get F B 0 rfl (ci := 10) (C := RX8) (T := TX8) (N := 37) rfl iX8_pull_X8 21 (by decide) fX8_pull_164 rfl dX8_pull_97 ?_
                      refine z_imul F dX8_pull_100 ?_
                      refine z_icmp_ge (tgt := 144) F (by omega) (by omega) dX8_pull_101 (by decide) (fun c101 => ?_) (fun c101 => ?_)
                      · refine lv_iinc (v := (nI (k + 1))) (lv' := [(1, .int (nI (k + 1))), (2, .int (nI (rr ((k + 1) % ci)))), (0, .ref mm)]) F.1 F.2.1 dX8_pull_144 hl (k := 2) rfl (by rw [show Int32.ofInt 1 = nI 1 from rfl, nI_add]) (by decide) rfl (fun ls hl => ?_)
                        refine lv_goto (tgt := 46) F.1 F.2.1 dX8_pull_147 (by decide) ?_
                        exact ih46 (k + 1) ft1 (by first | omega | (simp only [] at *; omega)) (by omega) (by first | exact zpk2_no hp1 (by omega) | exact zpk2_odd hp1 hselA (by omega)) _ _ _ (B.sub [0, 1, 2, 3, 4, 5, 6, 7, 8, 9, 10, 11, 12, 13, 14, 15, 16, 17, 18, 19] rfl (rfl)) (lv_sub hl [2, 0] (rfl))
                      · have hselA : 12 * ed ≤ rr k ∧ rr ((k + 1) % ci) < 12 * ed := ⟨by omega, by omega⟩
                        have hwv := hv1 (rr ((k + 1) % ci) / 6) (by omega)
                        refine lv_aload_n F.1 F.2.1 dX8_pull_104 rfl (lv_at hl 1 rfl) ?_
                        refine lv_iload_n F.1 F.2.1 dX8_pull_105 rfl (lv_at hl 0 rfl) ?_
                        refine lv_bipush (v := (nI 12)) F.1 F.2.1 dX8_pull_106 (by decide) ?_
                        refine z_idiv F (by omega) (by omega) (by omega) dX8_pull_108 ?_
                        refine lv_iload_n F.1 F.2.1 dX8_pull_109 rfl (lv_at hl 0 rfl) ?_
                        refine lv_bipush (v := (nI 6)) F.1 F.2.1 dX8_pull_110 (by decide) ?_
                        refine z_idiv F (by omega) (by omega) (by omega) dX8_pull_112 ?_
                        refine lv_iconst (v := (nI 2)) F.1 F.2.1 dX8_pull_113 (by decide) ?_
                        refine z_irem F (by omega) (by omega) (by omega) dX8_pull_114 ?_
                        refine z_callV (wr := [(A8 9, .inl (cI, 7600, .inl fbe)), (A8 10, .inl (cI, 2200, .inl ffe)), (A8 11, .inl (cI, 2200, .inl fle)), (A8 17, .inl (cI, 47000, .inl ftp)), (A8 18, .inl (cZ, 47000, .inl fse9)), (A8 0, .inl (cI, 8, .inl ff)), (A8 1, .inl (cI, 8, .inl fr)), (A8 2, .inl (cI, 8, .inl fto)), (A8 3, .inl (cI, 8, .inl fw)), (A8 4, .inl (cI, 8, .inl fm)), (A8 5, .inl (cI, 4, .inl fp)), (A8 12, .inl (cI, 3, .inl fch)), (A8 13, .inl (cI, 4, .inl fhe)), (A8 14, .inl (cI, 4, .inl fst)), (A8 15, .inl (cI, 16, .inl fta_)), (A8 7, .inl (cI, 2400, .inl fl)), (A8 6, .inl (cI, 600, .inl ft)), (A8 16, .inl (cZ, 170, .inl ft1))]) (rest := []) (As := [.int (nI ((rr ((k + 1) % ci)) / 12)), .int (nI (((rr ((k + 1) % ci)) / 6) % 2))]) F B (kX8_vertexAt l D cI cZ cG cJ mm 0 q g t r mb nc nl pv va n3 ve ed se ci mr 1 ld A8 f3 L3 ((rr ((k + 1) % ci)) / 12) (((rr ((k + 1) % ci)) / 6) % 2) (hR) (by omega) (by omega) (by omega) (by omega)) hl.1 (C := RX8) (T := TX8) (N := 37) (ci := 10) (q0 := 0) gX8_pull_X8_vertexAt rfl 2 yX8_pull_X8_vertexAt rfl rfl rfl [0, 1] [2, 3, 4, 5, 6, 7, 8, 9, 10, 11, 12, 13, 14, 15, 16, 17, 18, 19] rfl rfl rfl rfl (by decide) (Nat.le_of_ble_eq_true rfl) (Nat.le_of_ble_eq_true rfl) (Nat.le_of_ble_eq_true rfl) rfl dX8_pull_115 (show 0 + 0 ≤ 0 by omega) (show 0 + 0 ≤ 0 by omega) (fun vv ww H locs hRR B => ?_)
                        obtain ⟨rfl, rfl⟩ := hRR
                        have B : zB D (zT cI cZ cG cJ) A s.heap s [(A8 9, .inl (cI, 7600, .inl fbe)), (A8 10, .inl (cI, 2200, .inl ffe)), (A8 11, .inl (cI, 2200, .inl fle)), (A8 17, .inl (cI, 47000, .inl ftp)), (A8 18, .inl (cZ, 47000, .inl fse9)), (A8 0, .inl (cI, 8, .inl ff)), (A8 1, .inl (cI, 8, .inl fr)), (A8 2, .inl (cI, 8, .inl fto)), (A8 3, .inl (cI, 8, .inl fw)), (A8 4, .inl (cI, 8, .inl fm)), (A8 5, .inl (cI, 4, .inl fp)), (A8 12, .inl (cI, 3, .inl fch)), (A8 13, .inl (cI, 4, .inl fhe)), (A8 14, .inl (cI, 4, .inl fst)), (A8 15, .inl (cI, 16, .inl fta_)), (A8 7, .inl (cI, 2400, .inl fl)), (A8 6, .inl (cI, 600, .inl ft)), (A8 16, .inl (cZ, 170, .inl ft1)), (mm, .inr (10, zmo (nI 0) (nI q) (nI g) (nI t) (nI r) (nI mb) (nI nc) (nI nl) (nI pv) (nI va) (nI n3) (nI ve) (nI ed) (nI se) (nI ci) (nI mr) (nI 1) (nI ld) A8)), (A8 8, .inl (cI, 1900, .inl f3))] _ _ := B
                        refine W.eq (g2 := F0 m 118 ls [.int (nI (zva va L3 (2 * ((rr ((k + 1) % ci)) / 12) + (((rr ((k + 1) % ci)) / 6) % 2))))]) rfl ?_
                        refine W.eq (g2 := F0 m 118 ls [.int (nI (zva va L3 (rr ((k + 1) % ci) / 6)))]) (by rw [show 2 * (rr ((k + 1) % ci) / 12) + rr ((k + 1) % ci) / 6 % 2 = rr ((k + 1) % ci) / 6 by omega]) ?_
                        refine lv_istore_n (lv' := [(3, .int (nI (zva va L3 (rr ((k + 1) % ci) / 6)))), (2, .int (nI (rr ((k + 1) % ci)))), (0, .ref mm), (1, .int (nI k))]) F.1 F.2.1 dX8_pull_118 rfl hl (by decide) rfl (fun ls hl => ?_)
                        refine lv_iload_n F.1 F.2.1 dX8_pull_119 rfl (lv_at hl 0 rfl) ?_
                        refine lv_iconst (v := (nI 2)) F.1 F.2.1 dX8_pull_120 (by decide) ?_
                        refine lv_aload_n F.1 F.2.1 dX8_pull_121 rfl (lv_at hl 2 rfl) ?_
                        refine z_get F B 18 rfl (ci := 10) (C := RX8) (T := TX8) (N := 37) rfl iX8_pull_X8 15 (by decide) fX8_pull_158 rfl dX8_pull_122 ?_
                        refine z_imul F dX8_pull_125 ?_
                        refine z_icmp_ge (tgt := 144) F (by omega) (by omega) dX8_pull_126 (by decide) (fun c126 => ?_) (fun c126 => ?_)
                        · refine lv_iinc (v := (nI (k + 1))) (lv' := [(1, .int (nI (k + 1))), (3, .int (nI (zva va L3 (rr ((k + 1) % ci) / 6)))), (2, .int (nI (rr ((k + 1) % ci)))), (0, .ref mm)]) F.1 F.2.1 dX8_pull_144 hl (k := 3) rfl (by rw [show Int32.ofInt 1 = nI 1 from rfl, nI_add]) (by decide) rfl (fun ls hl => ?_)
                          refine lv_goto (tgt := 46) F.1 F.2.1 dX8_pull_147 (by decide) ?_
                          exact ih46 (k + 1) ft1 (by first | omega | (simp only [] at *; omega)) (by omega) (by first | exact zpk2_no hp1 (by omega) | exact zpk2_odd hp1 hselA (by omega)) _ _ _ (B.sub [18, 19, 0, 1, 2, 3, 4, 5, 6, 7, 8, 9, 10, 11, 12, 13, 14, 15, 16, 17] rfl (rfl)) (lv_sub hl [3, 0] (rfl))
                        · refine lv_iload_n F.1 F.2.1 dX8_pull_129 rfl (lv_at hl 0 rfl) ?_
                          refine lv_iconst (v := (nI 2)) F.1 F.2.1 dX8_pull_130 (by decide) ?_
                          refine z_irem F (by omega) (by omega) (by omega) dX8_pull_131 ?_
                          refine z_if_ne (tgt := 144) F (by omega) dX8_pull_132 (by decide) (fun c132 => ?_) (fun c132 => ?_)
                          · refine lv_iinc (v := (nI (k + 1))) (lv' := [(1, .int (nI (k + 1))), (3, .int (nI (zva va L3 (rr ((k + 1) % ci) / 6)))), (2, .int (nI (rr ((k + 1) % ci)))), (0, .ref mm)]) F.1 F.2.1 dX8_pull_144 hl (k := 3) rfl (by rw [show Int32.ofInt 1 = nI 1 from rfl, nI_add]) (by decide) rfl (fun ls hl => ?_)
                            refine lv_goto (tgt := 46) F.1 F.2.1 dX8_pull_147 (by decide) ?_
                            exact ih46 (k + 1) ft1 (by first | omega | (simp only [] at *; omega)) (by omega) (by first | exact zpk2_no hp1 (by omega) | exact zpk2_odd hp1 hselA (by omega)) _ _ _ (B.sub [18, 19, 0, 1, 2, 3, 4, 5, 6, 7, 8, 9, 10, 11, 12, 13, 14, 15, 16, 17] rfl (rfl)) (lv_sub hl [3, 0] (rfl))
                          · refine lv_aload_n F.1 F.2.1 dX8_pull_135 rfl (lv_at hl 2 rfl) ?_
                            refine z_get F B 18 rfl (ci := 10) (C := RX8) (T := TX8) (N := 37) rfl iX8_pull_X8 33 (by decide) fX8_pull_68 rfl dX8_pull_136 ?_
                            refine lv_iload_n F.1 F.2.1 dX8_pull_139 rfl (lv_at hl 0 rfl) ?_
                            refine lv_iconst (v := (nI 2)) F.1 F.2.1 dX8_pull_140 (by decide) ?_
                            refine z_idiv F (by omega) (by omega) (by omega) dX8_pull_141 ?_
                            refine lv_iconst (v := (nI 1)) F.1 F.2.1 dX8_pull_142 (by decide) ?_
                            refine z_zast F B 17 1 rfl rfl (j := (zva va L3 (rr ((k + 1) % ci) / 6)) / 2) (by decide) (by omega) (by omega) dX8_pull_143 (fun H locs B => ?_)
                            have B : zB D (zT cI cZ cG cJ) A s.heap s [(A8 9, .inl (cI, 7600, .inl fbe)), (A8 10, .inl (cI, 2200, .inl ffe)), (A8 11, .inl (cI, 2200, .inl fle)), (A8 17, .inl (cI, 47000, .inl ftp)), (A8 18, .inl (cZ, 47000, .inl fse9)), (A8 0, .inl (cI, 8, .inl ff)), (A8 1, .inl (cI, 8, .inl fr)), (A8 2, .inl (cI, 8, .inl fto)), (A8 3, .inl (cI, 8, .inl fw)), (A8 4, .inl (cI, 8, .inl fm)), (A8 5, .inl (cI, 4, .inl fp)), (A8 12, .inl (cI, 3, .inl fch)), (A8 13, .inl (cI, 4, .inl fhe)), (A8 14, .inl (cI, 4, .inl fst)), (A8 15, .inl (cI, 16, .inl fta_)), (A8 7, .inl (cI, 2400, .inl fl)), (A8 6, .inl (cI, 600, .inl ft)), (A8 16, .inl (cZ, 170, .inl (upd ft1 ((zva va L3 (rr ((k + 1) % ci) / 6)) / 2) (nI 1)))), (mm, .inr (10, zmo (nI 0) (nI q) (nI g) (nI t) (nI r) (nI mb) (nI nc) (nI nl) (nI pv) (nI va) (nI n3) (nI ve) (nI ed) (nI se) (nI ci) (nI mr) (nI 1) (nI ld) A8)), (A8 8, .inl (cI, 1900, .inl f3))] _ _ := B
                            refine lv_iinc (v := (nI (k + 1))) (lv' := [(1, .int (nI (k + 1))), (3, .int (nI (zva va L3 (rr ((k + 1) % ci) / 6)))), (2, .int (nI (rr ((k + 1) % ci)))), (0, .ref mm)]) F.1 F.2.1 dX8_pull_144 hl (k := 3) rfl (by rw [show Int32.ofInt 1 = nI 1 from rfl, nI_add]) (by decide) rfl (fun ls hl => ?_)
                            refine lv_goto (tgt := 46) F.1 F.2.1 dX8_pull_147 (by decide) ?_
                            exact ih46 (k + 1) (upd ft1 ((zva va L3 (rr ((k + 1) % ci) / 6)) / 2) (nI 1)) (by first | omega | (simp only [] at *; omega)) (by omega) (zpk2_yes hp1 hselA (by omega) (by omega)) _ _ _ (B.sub [18, 19, 0, 1, 2, 3, 4, 5, 6, 7, 8, 9, 10, 11, 12, 13, 14, 15, 16, 17] rfl (rfl)) (lv_sub hl [3, 0] (rfl))
            exact loop46 (ci - 0 + 1) 0 ft0 (Nat.lt_succ_self _) (by omega) (fun y hy => hz0 y (by omega)) _ _ _ (B.sub [0, 1, 2, 3, 4, 5, 6, 7, 8, 9, 10, 11, 12, 13, 14, 15, 16, 17, 18, 19] rfl (rfl)) (lv_sub hl [1, 0] (rfl))
          · refine lv_aload_n F.1 F.2.1 dX8_pull_31 rfl (lv_at hl 0 rfl) ?_
            refine z_get F B 0 rfl (ci := 10) (C := RX8) (T := TX8) (N := 37) rfl iX8_pull_X8 33 (by decide) fX8_pull_68 rfl dX8_pull_32 ?_
            refine lv_iload_n F.1 F.2.1 dX8_pull_35 rfl (lv_at hl 1 rfl) ?_
            refine lv_iconst (v := (nI 0)) F.1 F.2.1 dX8_pull_36 (by decide) ?_
            refine z_zast F B 19 1 rfl rfl (j := x) (by decide) (by omega) (by omega) dX8_pull_37 (fun H locs B => ?_)
            have B : zB D (zT cI cZ cG cJ) A s.heap s [(mm, .inr (10, zmo (nI 0) (nI q) (nI g) (nI t) (nI r) (nI mb) (nI nc) (nI nl) (nI pv) (nI va) (nI n3) (nI ve) (nI ed) (nI se) (nI ci) (nI mr) (nI 1) (nI ld) A8)), (A8 8, .inl (cI, 1900, .inl f3)), (A8 9, .inl (cI, 7600, .inl fbe)), (A8 10, .inl (cI, 2200, .inl ffe)), (A8 11, .inl (cI, 2200, .inl fle)), (A8 17, .inl (cI, 47000, .inl ftp)), (A8 18, .inl (cZ, 47000, .inl fse9)), (A8 0, .inl (cI, 8, .inl ff)), (A8 1, .inl (cI, 8, .inl fr)), (A8 2, .inl (cI, 8, .inl fto)), (A8 3, .inl (cI, 8, .inl fw)), (A8 4, .inl (cI, 8, .inl fm)), (A8 5, .inl (cI, 4, .inl fp)), (A8 12, .inl (cI, 3, .inl fch)), (A8 13, .inl (cI, 4, .inl fhe)), (A8 14, .inl (cI, 4, .inl fst)), (A8 15, .inl (cI, 16, .inl fta_)), (A8 7, .inl (cI, 2400, .inl fl)), (A8 6, .inl (cI, 600, .inl ft)), (A8 16, .inl (cZ, 170, .inl (upd ft0 x (nI 0))))] _ _ := B
            refine lv_iinc (v := (nI (x + 1))) (lv' := [(1, .int (nI (x + 1))), (0, .ref mm)]) F.1 F.2.1 dX8_pull_38 hl (k := 1) rfl (by rw [show Int32.ofInt 1 = nI 1 from rfl, nI_add]) (by decide) rfl (fun ls hl => ?_)
            refine lv_goto (tgt := 23) F.1 F.2.1 dX8_pull_41 (by decide) ?_
            exact ih23 (x + 1) (upd ft0 x (nI 0)) (by first | omega | (simp only [] at *; omega)) (by omega) (fun y hy => by by_cases e9 : y = x; subst e9; rw [pk_us]; rfl; rw [pk_un e9]; exact hz0 y (by omega)) _ _ _ (B.sub [0, 1, 2, 3, 4, 5, 6, 7, 8, 9, 10, 11, 12, 13, 14, 15, 16, 17, 18, 19] rfl (rfl)) (lv_sub hl [1, 0] (rfl))
      exact loop23 (va - 0 + 1) 0 ftr (Nat.lt_succ_self _) (by omega) (fun y hy => absurd hy (Nat.not_lt_zero _)) _ _ _ (B.sub [13, 14, 15, 16, 17, 18, 19, 0, 1, 2, 3, 4, 5, 6, 7, 8, 9, 10, 11, 12] rfl (rfl)) (lv_sub hl [1, 0] (rfl))
    · refine lv_iconst (v := (nI 0)) F.1 F.2.1 dX8_pull_19 (by decide) ?_
      exact z_zret F hr hlk B (Or.inl rfl) [13, 14, 15, 16, 17, 18, 19, 0, 1, 2, 3, 4, 5, 6, 7, 8, 9, 10, 11, 12] rfl (rfl) dX8_pull_20 (by omega) (by omega) ⟨(nI 0), fse9, fch, fhe, fst, fta_, ftr, rfl, rfl, Or.inr ⟨rfl, zprice_no c16⟩, (Or.inr ⟨zprice_no c16, rfl, rfl⟩)⟩
  · refine W.eq (g2 := F0 m 5 ls [.int 0]) rfl ?_
    exact absurd ⟨by decide, by decide⟩ hpM
