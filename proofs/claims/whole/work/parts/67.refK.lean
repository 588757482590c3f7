/-! CONTRACT of the reference: makeTrip -/
theorem zc_no {f : Nat → Bool} {n : Nat} (h : f n = false) : zc f (n + 1) = zc f n := by simp [zc, h]
theorem zc_yes {f : Nat → Bool} {n : Nat} (h : f n = true) : zc f (n + 1) = zc f n + 1 := by simp [zc, h]
theorem zcv1_yes {cov : Nat → Nat} {u : Nat} (h : cov u = 1) : zcv1 cov u = true := by simp [zcv1, h]
theorem zcv1_no {cov : Nat → Nat} {u : Nat} (h : ¬ cov u = 1) : zcv1 cov u = false := by simp [zcv1, h]
theorem zlayT_no {w cov : Nat → Nat} {ed u : Nat} (h : ¬ cov u = 1) : zlayT w cov ed (u + 1) = zlayT w cov ed u := by
  rw [zlayT_S]
  unfold zlayU
  rw [if_neg h, List.append_nil]
theorem zlayT_yes {w cov : Nat → Nat} {ed u : Nat} (h : cov u = 1) : zlayT w cov ed (u + 1) = zlayT w cov ed u ++ ([12 * ed + zc (zcv1 cov) u] ++ zlayK w cov (2 * ed) u (zc (zeq w u) (2 * ed))) := by
  rw [zlayT_S]
  unfold zlayU
  rw [if_pos h]
  rfl
theorem zlayT_fit {w cov : Nat → Nat} {ed u : Nat} (h : cov u = 1) : ∀ k, k ≤ zc (zeq w u) (2 * ed) → (zlayT w cov ed u).length + (1 + (zlayK w cov (2 * ed) u k).length) ≤ (zlayT w cov ed (u + 1)).length := by
  intro k hk
  rw [zlayT_yes h]
  have q := zlayK_mono w cov (2 * ed) u hk
  simp only [List.length_append, List.length_cons, List.length_nil]
  omega
theorem zcov_01 (b : Nat → Nat) (va : Nat) (L3 : List Nat) (k : Nat) : zcov b va L3 k = 0 ∨ zcov b va L3 k = 1 := by
  unfold zcov
  split
  · exact ztv_01 b k
  · unfold zcov3
    split <;> simp
theorem zlay1_s {w : Nat → Nat} {b : Nat → Nat} {va : Nat} {L3 : List Nat} {d : Nat} (h : zcov b va L3 (w (zx1 d)) = 1) : zlay1 w (zcov b va L3) d = zrun (6 * d) 3 ++ zrun (6 * d + 3) 3 := by
  unfold zlay1
  rw [if_neg (by omega), List.nil_append]
theorem zlay1_v {w : Nat → Nat} {b : Nat → Nat} {va : Nat} {L3 : List Nat} {d : Nat} (h : ¬ zcov b va L3 (w (zx1 d)) = 1) : zlay1 w (zcov b va L3) d = zrun (6 * d) 3 ++ (zrun (6 * zx1 d) 6 ++ zrun (6 * d + 3) 3) := by
  unfold zlay1
  rw [if_pos (by have := zcov_01 b va L3 (w (zx1 d)); omega)]
theorem zlay1_min (w cov : Nat → Nat) (d : Nat) : 6 ≤ (zlay1 w cov d).length := by
  by_cases h : cov (w (zx1 d)) = 0
  · rw [zlay1_len0 h]; omega
  · rw [zlay1_len1 h]; omega
/-- the k-th of u's sides, by the first and by what comes behind -/
theorem zsl_uniq {w : Nat → Nat} {u n k d : Nat} (h1 : d < n) (h2 : w d = u) (h3 : zc (zeq w u) d = k) : k < zc (zeq w u) n ∧ d = (zsl w u n).getD k 0 := by
  subst h2
  have q := zc_ltW (w := w) h1
  rw [h3] at q
  obtain ⟨a, b, e⟩ := zsl_at w (w d) n k q
  exact ⟨q, zc_inj (w := w) (u := w d) rfl b (by rw [h3, e])⟩
theorem zFE_nx {w : Nat → Nat} {n u : Nat} {z : Int32} (h : zFE w n u z) : (0 = zc (zeq w u) n ∧ z = -1) ∨ (0 < zc (zeq w u) n ∧ z = nI ((zsl w u n).getD 0 0)) := by
  rcases h with ⟨a, b⟩ | ⟨d, hd, h1, h2, h3⟩
  · exact Or.inl ⟨a.symm, b⟩
  · obtain ⟨q1, q2⟩ := zsl_uniq hd h1 h2
    exact Or.inr ⟨q1, by rw [← q2]; exact h3⟩
theorem zBH_nx {w : Nat → Nat} {n u k x : Nat} {z : Int32} (hx : x < n ∧ w x = u ∧ zc (zeq w u) x = k) (h : zBH w n x z) (hk : k < zc (zeq w u) n) (_ : x = (zsl w u n).getD k 0) : (k + 1 = zc (zeq w u) n ∧ z = -1) ∨ (k + 1 < zc (zeq w u) n ∧ z = nI ((zsl w u n).getD (k + 1) 0)) := by
  obtain ⟨hx1, rfl, rfl⟩ := hx
  rcases h with ⟨a, b⟩ | ⟨d, hd, h1, h2, h3⟩
  · exact Or.inl ⟨a, b⟩
  · obtain ⟨q1, q2⟩ := zsl_uniq hd h1 h2
    exact Or.inr ⟨q1, by rw [← q2]; exact h3⟩
theorem iX8_makeTrip_X8 : ∀ w ∈ u_ws RX8 TX8 37, w ∈ wsX8_makeTrip := fun w h => List.mem_cons_of_mem _ (List.mem_append_right _ h)
theorem fX8_makeTrip_215 : Cond.fieldLink RX8 215 "TourChainModel" "laid" "I" ∈ wsX8_makeTrip := by decide +kernel
theorem fX8_makeTrip_164 : Cond.fieldLink RX8 164 "TourChainModel" "edges" "I" ∈ wsX8_makeTrip := by decide +kernel
theorem fX8_makeTrip_161 : Cond.fieldLink RX8 161 "TourChainModel" "vertices" "I" ∈ wsX8_makeTrip := by decide +kernel
theorem yX8_makeTrip_X8_isIn : yX8_isIn.cls = RX8 ∧ yX8_isIn.cls ≠ "java/lang/invoke/MethodHandle" ∧ yX8_isIn.cls ≠ "java/lang/invoke/VarHandle" ∧ (parseMethodDescriptor yX8_isIn.desc).map (fun d => d.parameters.length) = some 1 := by decide +kernel
theorem fX8_makeTrip_73 : Cond.fieldLink RX8 73 "TourChainModel" "trip" "[I" ∈ wsX8_makeTrip := by decide +kernel
theorem fX8_makeTrip_50 : Cond.fieldLink RX8 50 "TourChainModel" "firstEnd" "[I" ∈ wsX8_makeTrip := by decide +kernel
theorem yX8_makeTrip_X8_visit : yX8_visit.cls = RX8 ∧ yX8_visit.cls ≠ "java/lang/invoke/MethodHandle" ∧ yX8_visit.cls ≠ "java/lang/invoke/VarHandle" ∧ (parseMethodDescriptor yX8_visit.desc).map (fun d => d.parameters.length) = some 3 := by decide +kernel
theorem yX8_makeTrip_X8_vertexAt : yX8_vertexAt.cls = RX8 ∧ yX8_vertexAt.cls ≠ "java/lang/invoke/MethodHandle" ∧ yX8_vertexAt.cls ≠ "java/lang/invoke/VarHandle" ∧ (parseMethodDescriptor yX8_vertexAt.desc).map (fun d => d.parameters.length) = some 2 := by decide +kernel
theorem fX8_makeTrip_47 : Cond.fieldLink RX8 47 "TourChainModel" "behind" "[I" ∈ wsX8_makeTrip := by decide +kernel
set_option maxHeartbeats 4000000 in
set_option maxRecDepth 100000 in
theorem kX8_makeTrip (l : Launch) (D : va_G) (cI cZ cG cJ : ClassId) (mm : Nat) (th : Nat) (q : Nat) (g : Nat) (t : Nat) (r : Nat) (mb : Nat) (nc : Nat) (nl : Nat) (pv : Nat) (va : Nat) (n3 : Nat) (ve : Nat) (ed : Nat) (se : Nat) (ci : Nat) (mr : Nat) (mt : Nat) (ld : Nat) (A8 : Nat → Nat) (f3 : Nat → Int32) (L3 : List Nat) (fbe : Nat → Int32) (ffe : Nat → Int32) (ftr : Nat → Int32) (b : Nat → Nat) (ftp : Nat → Int32) (hR : zR f3 (3 * n3) L3) (hb : 3 * n3 ≤ 1900) (hv : va ≤ 1000) (hL : ∀ i, i < 3 * n3 → L3.getD i 0 < 2 * va) (hve : ve = 2 * va + 3 * n3) (hve2 : ve ≤ 2200) (hed : ed = va + 6 * n3) (hed2 : 2 * ed ≤ 7600) (hFE : ∀ u, u < ve → zFE (zva va L3) (2 * ed) u (ffe u)) (hBE : ∀ x, x < 2 * ed → zBH (zva va L3) (2 * ed) x (fbe x)) (hbT : ∀ x, x < va → ftr x = nI (b x) ∧ b x ≤ 1) (hva2 : va ≤ 170) (hcap : (zlayT (zva va L3) (zcov b va L3) ed ve).length ≤ 47000) : zC l yX8_makeTrip wsX8_makeTrip 2 46 0 0 D (zT cI cZ cG cJ) [.ref mm] [(mm, .inr (10, zmo (nI th) (nI q) (nI g) (nI t) (nI r) (nI mb) (nI nc) (nI nl) (nI pv) (nI va) (nI n3) (nI ve) (nI ed) (nI se) (nI ci) (nI mr) (nI mt) (nI ld) A8)), (A8 8, .inl (cI, 1900, .inl f3)), (A8 9, .inl (cI, 7600, .inl fbe)), (A8 10, .inl (cI, 2200, .inl ffe)), (A8 16, .inl (cZ, 170, .inl ftr)), (A8 17, .inl (cI, 47000, .inl ftp))] (fun (ov : Option Value) (ow : va_W) => ∃ ld' : Nat, ∃ ftp' : Nat → Int32, ov = none ∧ ow = [(mm, .inr (10, zmo (nI th) (nI q) (nI g) (nI t) (nI r) (nI mb) (nI nc) (nI nl) (nI pv) (nI va) (nI n3) (nI ve) (nI ed) (nI se) (nI ci) (nI mr) (nI mt) (nI ld') A8)), (A8 8, .inl (cI, 1900, .inl f3)), (A8 9, .inl (cI, 7600, .inl fbe)), (A8 10, .inl (cI, 2200, .inl ffe)), (A8 16, .inl (cZ, 170, .inl ftr)), (A8 17, .inl (cI, 47000, .inl ftp'))] ∧ (zR ftp' ld' (zlayT (zva va L3) (zcov b va L3) ed ve))) := by
  refine zC.of (cc := cX8_makeTrip) (maxL := 5) (ret := none) (by decide) rfl (Nat.le_of_ble_eq_true rfl) ?_
  intro p e s m below meth c A ls F hr hlk hnm B hl
  have hl : lv_has ls 5 [(0, .ref mm)] := hl
  refine lv_aload_n F.1 F.2.1 dX8_makeTrip_0 rfl (lv_at hl 0 rfl) ?_
  refine lv_iconst (v := (nI 0)) F.1 F.2.1 dX8_makeTrip_1 (by decide) ?_
  refine z_put F B 0 rfl (ci := 10) (C := RX8) (T := TX8) (N := 37) rfl iX8_makeTrip_X8 tyX8 tyX8_ok nmX8 36 (by decide) fX8_makeTrip_215 rfl (v := .int (nI 0)) rfl rfl (Nat.le_of_ble_eq_true rfl) dX8_makeTrip_2 (fun H locs B => ?_)
  have B : zB D (zT cI cZ cG cJ) A s.heap s [(mm, .inr (10, zmo (nI th) (nI q) (nI g) (nI t) (nI r) (nI mb) (nI nc) (nI nl) (nI pv) (nI va) (nI n3) (nI ve) (nI ed) (nI se) (nI ci) (nI mr) (nI mt) (nI 0) A8)), (A8 8, .inl (cI, 1900, .inl f3)), (A8 9, .inl (cI, 7600, .inl fbe)), (A8 10, .inl (cI, 2200, .inl ffe)), (A8 16, .inl (cZ, 170, .inl ftr)), (A8 17, .inl (cI, 47000, .inl ftp))] _ _ := B
  refine lv_bipush (v := (nI 12)) F.1 F.2.1 dX8_makeTrip_5 (by decide) ?_
  refine lv_aload_n F.1 F.2.1 dX8_makeTrip_7 rfl (lv_at hl 0 rfl) ?_
  refine z_get F B 0 rfl (ci := 10) (C := RX8) (T := TX8) (N := 37) rfl iX8_makeTrip_X8 21 (by decide) fX8_makeTrip_164 rfl dX8_makeTrip_8 ?_
  refine z_imul F dX8_makeTrip_11 ?_
  refine lv_istore_n (lv' := [(1, .int (nI (12 * ed))), (0, .ref mm)]) F.1 F.2.1 dX8_makeTrip_12 rfl hl (by decide) rfl (fun ls hl => ?_)
  refine lv_iconst (v := (nI 0)) F.1 F.2.1 dX8_makeTrip_13 (by decide) ?_
  refine lv_istore_n (lv' := [(2, .int (nI 0)), (1, .int (nI (12 * ed))), (0, .ref mm)]) F.1 F.2.1 dX8_makeTrip_14 rfl hl (by decide) rfl (fun ls hl => ?_)
  have loop15 : ∀ (fuel : Nat) (u : Nat) (sl : Nat) (n1 : Nat) (ftp1 : Nat → Int32), ve - u < fuel → (u ≤ ve) → (sl = zc (zcv1 (zcov b va L3)) u) → (zR ftp1 n1 (zlayT (zva va L3) (zcov b va L3) ed u)) → ∀ (H : Heap) (locs : List Loc) (ls : Array Slot), zB D (zT cI cZ cG cJ) A s.heap s [(mm, .inr (10, zmo (nI th) (nI q) (nI g) (nI t) (nI r) (nI mb) (nI nc) (nI nl) (nI pv) (nI va) (nI n3) (nI ve) (nI ed) (nI se) (nI ci) (nI mr) (nI mt) (nI n1) A8)), (A8 8, .inl (cI, 1900, .inl f3)), (A8 9, .inl (cI, 7600, .inl fbe)), (A8 10, .inl (cI, 2200, .inl ffe)), (A8 16, .inl (cZ, 170, .inl ftr)), (A8 17, .inl (cI, 47000, .inl ftp1))] H locs → lv_has ls 5 [(0, .ref mm), (1, .int (nI (12 * ed + sl))), (2, .int (nI u))] → W p l e { frames := 2, cells := 0, slots := 0, locals := 46 } s m [.ref mm].toArray below meth c H locs 0 0 (zQ below [.ref mm].toArray s D (zT cI cZ cG cJ) A (fun (ov : Option Value) (ow : va_W) => ∃ ld' : Nat, ∃ ftp' : Nat → Int32, ov = none ∧ ow = [(mm, .inr (10, zmo (nI th) (nI q) (nI g) (nI t) (nI r) (nI mb) (nI nc) (nI nl) (nI pv) (nI va) (nI n3) (nI ve) (nI ed) (nI se) (nI ci) (nI mr) (nI mt) (nI ld') A8)), (A8 8, .inl (cI, 1900, .inl f3)), (A8 9, .inl (cI, 7600, .inl fbe)), (A8 10, .inl (cI, 2200, .inl ffe)), (A8 16, .inl (cZ, 170, .inl ftr)), (A8 17, .inl (cI, 47000, .inl ftp'))] ∧ (zR ftp' ld' (zlayT (zva va L3) (zcov b va L3) ed ve))) 0 0) (F0 m 15 ls []) := by
    intro fuel
    induction fuel with
    | zero => intro u sl n1 ftp1 hmz; exact absurd hmz (Nat.not_lt_zero _)
    | succ fuel ih =>
      intro u sl n1 ftp1 hm hu hsl hT1 H locs ls B hl
      have ih15 := ih
      refine lv_iload_n F.1 F.2.1 dX8_makeTrip_15 rfl (lv_at hl 2 rfl) ?_
      refine lv_aload_n F.1 F.2.1 dX8_makeTrip_16 rfl (lv_at hl 0 rfl) ?_
      refine z_get F B 0 rfl (ci := 10) (C := RX8) (T := TX8) (N := 37) rfl iX8_makeTrip_X8 20 (by decide) fX8_makeTrip_161 rfl dX8_makeTrip_17 ?_
      refine z_icmp_ge (tgt := 140) F (by omega) (by omega) dX8_makeTrip_20 (by decide) (fun c20 => ?_) (fun c20 => ?_)
      · have hue : u = ve := by omega
        rw [hue] at hT1
        exact z_vret F hr hlk B [0, 1, 2, 3, 4, 5] rfl (rfl) dX8_makeTrip_140 (by omega) (by omega) ⟨n1, ftp1, rfl, rfl, hT1⟩
      · have hmo := zlayT_mono (zva va L3) (zcov b va L3) ed (show u + 1 ≤ ve by omega)
        have hl1 := hT1.1
        refine lv_aload_n F.1 F.2.1 dX8_makeTrip_23 rfl (lv_at hl 0 rfl) ?_
        refine lv_iload_n F.1 F.2.1 dX8_makeTrip_24 rfl (lv_at hl 2 rfl) ?_
        refine z_callV (wr := [(A8 9, .inl (cI, 7600, .inl fbe)), (A8 10, .inl (cI, 2200, .inl ffe)), (A8 17, .inl (cI, 47000, .inl ftp1))]) (rest := []) (As := [.int (nI u)]) F B (kX8_isIn l D cI cZ cG cJ mm th q g t r mb nc nl pv va n3 ve ed se ci mr mt n1 A8 f3 L3 ftr b u (hbT) (by omega) (hR) (by omega) (hL) (by omega)) hl.1 (C := RX8) (T := TX8) (N := 37) (ci := 10) (q0 := 0) gX8_makeTrip_X8_isIn rfl 1 yX8_makeTrip_X8_isIn rfl rfl rfl [0, 1, 4] [2, 3, 5] rfl rfl rfl rfl (by decide) (Nat.le_of_ble_eq_true rfl) (Nat.le_of_ble_eq_true rfl) (Nat.le_of_ble_eq_true rfl) rfl dX8_makeTrip_25 (show 0 + 0 ≤ 0 by omega) (show 0 + 0 ≤ 0 by omega) (fun vv ww H locs hRR B => ?_)
        obtain ⟨r_1, rfl, rfl, hb_2⟩ := hRR
        have B : zB D (zT cI cZ cG cJ) A s.heap s [(A8 9, .inl (cI, 7600, .inl fbe)), (A8 10, .inl (cI, 2200, .inl ffe)), (A8 17, .inl (cI, 47000, .inl ftp1)), (mm, .inr (10, zmo (nI th) (nI q) (nI g) (nI t) (nI r) (nI mb) (nI nc) (nI nl) (nI pv) (nI va) (nI n3) (nI ve) (nI ed) (nI se) (nI ci) (nI mr) (nI mt) (nI n1) A8)), (A8 8, .inl (cI, 1900, .inl f3)), (A8 16, .inl (cZ, 170, .inl ftr))] _ _ := B
        rcases hb_2 with ⟨hr1, hpI⟩ | ⟨hr1, hpI⟩ <;> subst hr1
        · refine W.eq (g2 := F0 m 28 ls [.int 1]) rfl ?_
          have hfu := zlayT_fit (w := (zva va L3)) (ed := ed) hpI
          have hfu0 := hfu 0 (Nat.zero_le _)
          refine lv_if_eq (tgt := 134) F.1 F.2.1 dX8_makeTrip_28 (by decide) (fun hq => absurd hq (by decide)) (fun _ => ?_)
          refine lv_aload_n F.1 F.2.1 dX8_makeTrip_31 rfl (lv_at hl 0 rfl) ?_
          refine z_get F B 3 rfl (ci := 10) (C := RX8) (T := TX8) (N := 37) rfl iX8_makeTrip_X8 34 (by decide) fX8_makeTrip_73 rfl dX8_makeTrip_32 ?_
          refine lv_aload_n F.1 F.2.1 dX8_makeTrip_35 rfl (lv_at hl 0 rfl) ?_
          refine z_get F B 3 rfl (ci := 10) (C := RX8) (T := TX8) (N := 37) rfl iX8_makeTrip_X8 36 (by decide) fX8_makeTrip_215 rfl dX8_makeTrip_36 ?_
          refine lv_iload_n F.1 F.2.1 dX8_makeTrip_39 rfl (lv_at hl 1 rfl) ?_
          refine z_iast F B 2 0 rfl rfl (j := n1) (by omega) (by omega) dX8_makeTrip_40 (fun H locs B => ?_)
          have B : zB D (zT cI cZ cG cJ) A s.heap s [(A8 9, .inl (cI, 7600, .inl fbe)), (A8 10, .inl (cI, 2200, .inl ffe)), (A8 17, .inl (cI, 47000, .inl (upd ftp1 n1 (nI (12 * ed + sl))))), (mm, .inr (10, zmo (nI th) (nI q) (nI g) (nI t) (nI r) (nI mb) (nI nc) (nI nl) (nI pv) (nI va) (nI n3) (nI ve) (nI ed) (nI se) (nI ci) (nI mr) (nI mt) (nI n1) A8)), (A8 8, .inl (cI, 1900, .inl f3)), (A8 16, .inl (cZ, 170, .inl ftr))] _ _ := B
          refine lv_aload_n F.1 F.2.1 dX8_makeTrip_41 rfl (lv_at hl 0 rfl) ?_
          refine lv_dup F.1 F.2.1 dX8_makeTrip_42 rfl ?_
          refine z_get F B 3 rfl (ci := 10) (C := RX8) (T := TX8) (N := 37) rfl iX8_makeTrip_X8 36 (by decide) fX8_makeTrip_215 rfl dX8_makeTrip_43 ?_
          refine lv_iconst (v := (nI 1)) F.1 F.2.1 dX8_makeTrip_46 (by decide) ?_
          refine z_iadd F dX8_makeTrip_47 ?_
          refine z_put F B 3 rfl (ci := 10) (C := RX8) (T := TX8) (N := 37) rfl iX8_makeTrip_X8 tyX8 tyX8_ok nmX8 36 (by decide) fX8_makeTrip_215 rfl (v := .int (nI (n1 + 1))) rfl rfl (Nat.le_of_ble_eq_true rfl) dX8_makeTrip_48 (fun H locs B => ?_)
          have B : zB D (zT cI cZ cG cJ) A s.heap s [(A8 9, .inl (cI, 7600, .inl fbe)), (A8 10, .inl (cI, 2200, .inl ffe)), (A8 17, .inl (cI, 47000, .inl (upd ftp1 n1 (nI (12 * ed + sl))))), (mm, .inr (10, zmo (nI th) (nI q) (nI g) (nI t) (nI r) (nI mb) (nI nc) (nI nl) (nI pv) (nI va) (nI n3) (nI ve) (nI ed) (nI se) (nI ci) (nI mr) (nI mt) (nI (n1 + 1)) A8)), (A8 8, .inl (cI, 1900, .inl f3)), (A8 16, .inl (cZ, 170, .inl ftr))] _ _ := B
          refine lv_iinc (v := (nI (12 * ed + sl + 1))) (lv' := [(1, .int (nI (12 * ed + sl + 1))), (0, .ref mm), (2, .int (nI u))]) F.1 F.2.1 dX8_makeTrip_51 hl (k := 1) rfl (by rw [show Int32.ofInt 1 = nI 1 from rfl, nI_add]) (by decide) rfl (fun ls hl => ?_)
          refine lv_aload_n F.1 F.2.1 dX8_makeTrip_54 rfl (lv_at hl 1 rfl) ?_
          refine z_get F B 3 rfl (ci := 10) (C := RX8) (T := TX8) (N := 37) rfl iX8_makeTrip_X8 25 (by decide) fX8_makeTrip_50 rfl dX8_makeTrip_55 ?_
          refine lv_iload_n F.1 F.2.1 dX8_makeTrip_58 rfl (lv_at hl 2 rfl) ?_
          refine z_iald F B 1 0 rfl rfl (j := u) (by omega) (by omega) dX8_makeTrip_59 ?_
          refine lv_istore_n (lv' := [(3, .int (ffe u)), (1, .int (nI (12 * ed + sl + 1))), (0, .ref mm), (2, .int (nI u))]) F.1 F.2.1 dX8_makeTrip_60 rfl hl (by decide) rfl (fun ls hl => ?_)
          have loop61 : ∀ (fuel : Nat) (k : Nat) (z : Int32) (n2 : Nat) (ftp2 : Nat → Int32), zc (zeq (zva va L3) u) (2 * ed) - k < fuel → (k ≤ zc (zeq (zva va L3) u) (2 * ed)) → ((k = zc (zeq (zva va L3) u) (2 * ed) ∧ z = -1) ∨ (k < zc (zeq (zva va L3) u) (2 * ed) ∧ z = nI ((zsl (zva va L3) u (2 * ed)).getD k 0))) → (zR ftp2 n2 (zlayT (zva va L3) (zcov b va L3) ed u ++ ([12 * ed + sl] ++ zlayK (zva va L3) (zcov b va L3) (2 * ed) u k))) → ∀ (H : Heap) (locs : List Loc) (ls : Array Slot), zB D (zT cI cZ cG cJ) A s.heap s [(mm, .inr (10, zmo (nI th) (nI q) (nI g) (nI t) (nI r) (nI mb) (nI nc) (nI nl) (nI pv) (nI va) (nI n3) (nI ve) (nI ed) (nI se) (nI ci) (nI mr) (nI mt) (nI n2) A8)), (A8 8, .inl (cI, 1900, .inl f3)), (A8 9, .inl (cI, 7600, .inl fbe)), (A8 10, .inl (cI, 2200, .inl ffe)), (A8 16, .inl (cZ, 170, .inl ftr)), (A8 17, .inl (cI, 47000, .inl ftp2))] H locs → lv_has ls 5 [(0, .ref mm), (1, .int (nI (12 * ed + sl + 1))), (2, .int (nI u)), (3, .int z)] → W p l e { frames := 2, cells := 0, slots := 0, locals := 46 } s m [.ref mm].toArray below meth c H locs 0 0 (zQ below [.ref mm].toArray s D (zT cI cZ cG cJ) A (fun (ov : Option Value) (ow : va_W) => ∃ ld' : Nat, ∃ ftp' : Nat → Int32, ov = none ∧ ow = [(mm, .inr (10, zmo (nI th) (nI q) (nI g) (nI t) (nI r) (nI mb) (nI nc) (nI nl) (nI pv) (nI va) (nI n3) (nI ve) (nI ed) (nI se) (nI ci) (nI mr) (nI mt) (nI ld') A8)), (A8 8, .inl (cI, 1900, .inl f3)), (A8 9, .inl (cI, 7600, .inl fbe)), (A8 10, .inl (cI, 2200, .inl ffe)), (A8 16, .inl (cZ, 170, .inl ftr)), (A8 17, .inl (cI, 47000, .inl ftp'))] ∧ (zR ftp' ld' (zlayT (zva va L3) (zcov b va L3) ed ve))) 0 0) (F0 m 61 ls []) := by
            intro fuel
            induction fuel with
            | zero => intro k z n2 ftp2 hmz; exact absurd hmz (Nat.not_lt_zero _)
            | succ fuel ih =>
              intro k z n2 ftp2 hm hk hz hT2 H locs ls B hl
              have ih61 := ih
              refine lv_iload_n F.1 F.2.1 dX8_makeTrip_61 rfl (lv_at hl 3 rfl) ?_
              refine lv_iconst (v := (-1)) F.1 F.2.1 dX8_makeTrip_62 (by decide) ?_
              refine lv_icmp_eq (tgt := 134) F.1 F.2.1 dX8_makeTrip_63 (by decide) (fun c63 => ?_) (fun c63 => ?_)
              · have hke : k = zc (zeq (zva va L3) u) (2 * ed) := by rcases hz with ⟨q9, _⟩ | ⟨_, q9⟩; exact q9; rw [q9] at c63; exact absurd c63 (zneg1ne (by have := (zsl_at (zva va L3) u (2 * ed) k (by omega)).1; omega))
                have hTe : zR ftp2 n2 (zlayT (zva va L3) (zcov b va L3) ed (u + 1)) := by rw [zlayT_yes hpI, ← hsl]; rw [hke] at hT2; exact hT2
                refine lv_iinc (v := (nI (u + 1))) (lv' := [(2, .int (nI (u + 1))), (0, .ref mm), (1, .int (nI (12 * ed + sl + 1))), (3, .int z)]) F.1 F.2.1 dX8_makeTrip_134 hl (k := 2) rfl (by rw [show Int32.ofInt 1 = nI 1 from rfl, nI_add]) (by decide) rfl (fun ls hl => ?_)
                refine lv_goto (tgt := 15) F.1 F.2.1 dX8_makeTrip_137 (by decide) ?_
                exact ih15 (u + 1) (sl + 1) n2 ftp2 (by first | omega | (simp only [] at *; omega)) (by omega) (by rw [zc_yes (zcv1_yes hpI), hsl]) (hTe) _ _ _ (B.sub [0, 1, 2, 3, 4, 5] rfl (rfl)) (lv_sub hl [1, 2, 0] (rfl))
              · obtain ⟨hkd, hzd⟩ : k < zc (zeq (zva va L3) u) (2 * ed) ∧ z = nI ((zsl (zva va L3) u (2 * ed)).getD k 0) := by rcases hz with ⟨_, q9⟩ | q9; exact absurd q9 c63; exact q9
                have hzl := zsl_at (zva va L3) u (2 * ed) k hkd
                obtain ⟨dd, hdd⟩ : ∃ dd, dd = (zsl (zva va L3) u (2 * ed)).getD k 0 := ⟨_, rfl⟩
                rw [hzd, ← hdd] at hl
                rw [← hdd] at hzl
                have hd1 := hzl.1
                have hx1 := zx1_lt (n := ed) hd1
                have hwb := zva_bd hL (d := zx1 dd) (by omega)
                have hfk := hfu (k + 1) hkd
                rw [zlayK_S, ← hdd] at hfk
                have hl2 := hT2.1
                simp only [List.length_append, List.length_cons, List.length_nil] at hfk hl2 hfu0
                have hl : lv_has ls 5 [(0, .ref mm), (1, .int (nI (12 * ed + sl + 1))), (2, .int (nI u)), (3, .int (nI dd))] := hl
                refine lv_iload_n F.1 F.2.1 dX8_makeTrip_66 rfl (lv_at hl 3 rfl) ?_
                refine lv_iconst (v := (nI 2)) F.1 F.2.1 dX8_makeTrip_67 (by decide) ?_
                refine z_irem F (by omega) (by omega) (by omega) dX8_makeTrip_68 ?_
                refine z_if_ne (tgt := 78) F (by omega) dX8_makeTrip_69 (by decide) (fun c69 => ?_) (fun c69 => ?_)
                · refine lv_iload_n F.1 F.2.1 dX8_makeTrip_78 rfl (lv_at hl 3 rfl) ?_
                  refine lv_iconst (v := (nI 1)) F.1 F.2.1 dX8_makeTrip_79 (by decide) ?_
                  refine z_isub F (by omega) dX8_makeTrip_80 ?_
                  refine W.eq (g2 := F0 m 81 ls [.int (nI (zx1 dd))]) (by rw [show zx1 dd = dd - 1 from if_neg (by omega)]) ?_
                  refine lv_istore (lv' := [(4, .int (nI (zx1 dd))), (0, .ref mm), (1, .int (nI (12 * ed + sl + 1))), (2, .int (nI u)), (3, .int (nI dd))]) F.1 F.2.1 dX8_makeTrip_81 hl (by decide) rfl (fun ls hl => ?_)
                  refine lv_aload_n F.1 F.2.1 dX8_makeTrip_83 rfl (lv_at hl 1 rfl) ?_
                  refine lv_iload_n F.1 F.2.1 dX8_makeTrip_84 rfl (lv_at hl 4 rfl) ?_
                  refine lv_iconst (v := (nI 0)) F.1 F.2.1 dX8_makeTrip_85 (by decide) ?_
                  refine lv_iconst (v := (nI 2)) F.1 F.2.1 dX8_makeTrip_86 (by decide) ?_
                  refine z_callV (wr := [(A8 8, .inl (cI, 1900, .inl f3)), (A8 9, .inl (cI, 7600, .inl fbe)), (A8 10, .inl (cI, 2200, .inl ffe)), (A8 16, .inl (cZ, 170, .inl ftr))]) (rest := []) (As := [.int (nI dd), .int (nI 0), .int (nI 2)]) F B (kX8_visit l D cI cZ cG cJ mm th q g t r mb nc nl pv va n3 ve ed se ci mr mt n2 A8 ftp2 (zlayT (zva va L3) (zcov b va L3) ed u ++ ([12 * ed + sl] ++ zlayK (zva va L3) (zcov b va L3) (2 * ed) u k)) dd 0 2 3 (hT2) (by omega) (by omega) (by omega) (by omega) (by have := zlay1_min (zva va L3) (zcov b va L3) dd; omega)) hl.1 (C := RX8) (T := TX8) (N := 37) (ci := 10) (q0 := 0) gX8_makeTrip_X8_visit rfl 3 yX8_makeTrip_X8_visit rfl rfl rfl [0, 5] [1, 2, 3, 4] rfl rfl rfl rfl (by decide) (Nat.le_of_ble_eq_true rfl) (Nat.le_of_ble_eq_true rfl) (Nat.le_of_ble_eq_true rfl) rfl dX8_makeTrip_87 (show 0 + 0 ≤ 0 by omega) (show 0 + 0 ≤ 0 by omega) (fun vv ww H locs hRR B => ?_)
                  obtain ⟨ftp'_3, rfl, rfl, hTa⟩ := hRR
                  have B : zB D (zT cI cZ cG cJ) A s.heap s [(A8 8, .inl (cI, 1900, .inl f3)), (A8 9, .inl (cI, 7600, .inl fbe)), (A8 10, .inl (cI, 2200, .inl ffe)), (A8 16, .inl (cZ, 170, .inl ftr)), (mm, .inr (10, zmo (nI th) (nI q) (nI g) (nI t) (nI r) (nI mb) (nI nc) (nI nl) (nI pv) (nI va) (nI n3) (nI ve) (nI ed) (nI se) (nI ci) (nI mr) (nI mt) (nI (n2 + 3)) A8)), (A8 17, .inl (cI, 47000, .inl ftp'_3))] _ _ := B
                  refine W.eq (g2 := F0 m 90 ls []) rfl ?_
                  refine lv_aload_n F.1 F.2.1 dX8_makeTrip_90 rfl (lv_at hl 1 rfl) ?_
                  refine lv_aload_n F.1 F.2.1 dX8_makeTrip_91 rfl (lv_at hl 1 rfl) ?_
                  refine lv_iload F.1 F.2.1 dX8_makeTrip_92 (lv_at hl 0 rfl) ?_
                  refine lv_iconst (v := (nI 2)) F.1 F.2.1 dX8_makeTrip_94 (by decide) ?_
                  refine z_idiv F (by omega) (by omega) (by omega) dX8_makeTrip_95 ?_
                  refine lv_iload F.1 F.2.1 dX8_makeTrip_96 (lv_at hl 0 rfl) ?_
                  refine lv_iconst (v := (nI 2)) F.1 F.2.1 dX8_makeTrip_98 (by decide) ?_
                  refine z_irem F (by omega) (by omega) (by omega) dX8_makeTrip_99 ?_
                  refine z_callV (wr := [(A8 9, .inl (cI, 7600, .inl fbe)), (A8 10, .inl (cI, 2200, .inl ffe)), (A8 16, .inl (cZ, 170, .inl ftr)), (A8 17, .inl (cI, 47000, .inl ftp'_3))]) (rest := [.ref mm]) (As := [.int (nI ((zx1 dd) / 2)), .int (nI ((zx1 dd) % 2))]) F B (kX8_vertexAt l D cI cZ cG cJ mm th q g t r mb nc nl pv va n3 ve ed se ci mr mt (n2 + 3) A8 f3 L3 ((zx1 dd) / 2) ((zx1 dd) % 2) (hR) (by omega) (by omega) (by omega) (by omega)) hl.1 (C := RX8) (T := TX8) (N := 37) (ci := 10) (q0 := 4) gX8_makeTrip_X8_vertexAt rfl 2 yX8_makeTrip_X8_vertexAt rfl rfl rfl [4, 0] [1, 2, 3, 5] rfl rfl rfl rfl (by decide) (Nat.le_of_ble_eq_true rfl) (Nat.le_of_ble_eq_true rfl) (Nat.le_of_ble_eq_true rfl) rfl dX8_makeTrip_100 (show 0 + 0 ≤ 0 by omega) (show 0 + 0 ≤ 0 by omega) (fun vv ww H locs hRR B => ?_)
                  obtain ⟨rfl, rfl⟩ := hRR
                  have B : zB D (zT cI cZ cG cJ) A s.heap s [(A8 9, .inl (cI, 7600, .inl fbe)), (A8 10, .inl (cI, 2200, .inl ffe)), (A8 16, .inl (cZ, 170, .inl ftr)), (A8 17, .inl (cI, 47000, .inl ftp'_3)), (mm, .inr (10, zmo (nI th) (nI q) (nI g) (nI t) (nI r) (nI mb) (nI nc) (nI nl) (nI pv) (nI va) (nI n3) (nI ve) (nI ed) (nI se) (nI ci) (nI mr) (nI mt) (nI (n2 + 3)) A8)), (A8 8, .inl (cI, 1900, .inl f3))] _ _ := B
                  refine W.eq (g2 := F0 m 103 ls [.int (nI (zva va L3 (2 * ((zx1 dd) / 2) + ((zx1 dd) % 2)))), .ref mm]) rfl ?_
                  refine W.eq (g2 := F0 m 103 ls [.int (nI (zva va L3 (zx1 dd))), .ref mm]) (by rw [show 2 * (zx1 dd / 2) + zx1 dd % 2 = zx1 dd by omega]) ?_
                  refine z_callV (wr := [(A8 9, .inl (cI, 7600, .inl fbe)), (A8 10, .inl (cI, 2200, .inl ffe)), (A8 17, .inl (cI, 47000, .inl ftp'_3))]) (rest := []) (As := [.int (nI (zva va L3 (zx1 dd)))]) F B (kX8_isIn l D cI cZ cG cJ mm th q g t r mb nc nl pv va n3 ve ed se ci mr mt (n2 + 3) A8 f3 L3 ftr b (zva va L3 (zx1 dd)) (hbT) (by omega) (hR) (by omega) (hL) (by omega)) hl.1 (C := RX8) (T := TX8) (N := 37) (ci := 10) (q0 := 4) gX8_makeTrip_X8_isIn rfl 1 yX8_makeTrip_X8_isIn rfl rfl rfl [4, 5, 2] [0, 1, 3] rfl rfl rfl rfl (by decide) (Nat.le_of_ble_eq_true rfl) (Nat.le_of_ble_eq_true rfl) (Nat.le_of_ble_eq_true rfl) rfl dX8_makeTrip_103 (show 0 + 0 ≤ 0 by omega) (show 0 + 0 ≤ 0 by omega) (fun vv ww H locs hRR B => ?_)
                  obtain ⟨r_4, rfl, rfl, hb_5⟩ := hRR
                  have B : zB D (zT cI cZ cG cJ) A s.heap s [(A8 9, .inl (cI, 7600, .inl fbe)), (A8 10, .inl (cI, 2200, .inl ffe)), (A8 17, .inl (cI, 47000, .inl ftp'_3)), (mm, .inr (10, zmo (nI th) (nI q) (nI g) (nI t) (nI r) (nI mb) (nI nc) (nI nl) (nI pv) (nI va) (nI n3) (nI ve) (nI ed) (nI se) (nI ci) (nI mr) (nI mt) (nI (n2 + 3)) A8)), (A8 8, .inl (cI, 1900, .inl f3)), (A8 16, .inl (cZ, 170, .inl ftr))] _ _ := B
                  rcases hb_5 with ⟨hr1, hpO⟩ | ⟨hr1, hpO⟩ <;> subst hr1
                  · refine W.eq (g2 := F0 m 106 ls [.int 1]) rfl ?_
                    rw [zlay1_s (d := dd) hpO] at hfk
                    simp only [List.length_append, List.length_cons, List.length_nil, zrun_len] at hfk
                    refine lv_if_ne (tgt := 117) F.1 F.2.1 dX8_makeTrip_106 (by decide) (fun _ => ?_) (fun hq => absurd hq (by decide))
                    refine lv_aload_n F.1 F.2.1 dX8_makeTrip_117 rfl (lv_at hl 1 rfl) ?_
                    refine lv_iload_n F.1 F.2.1 dX8_makeTrip_118 rfl (lv_at hl 4 rfl) ?_
                    refine lv_iconst (v := (nI 3)) F.1 F.2.1 dX8_makeTrip_119 (by decide) ?_
                    refine lv_iconst (v := (nI 5)) F.1 F.2.1 dX8_makeTrip_120 (by decide) ?_
                    refine z_callV (wr := [(A8 9, .inl (cI, 7600, .inl fbe)), (A8 10, .inl (cI, 2200, .inl ffe)), (A8 8, .inl (cI, 1900, .inl f3)), (A8 16, .inl (cZ, 170, .inl ftr))]) (rest := []) (As := [.int (nI dd), .int (nI 3), .int (nI 5)]) F B (kX8_visit l D cI cZ cG cJ mm th q g t r mb nc nl pv va n3 ve ed se ci mr mt (n2 + 3) A8 ftp'_3 ((zlayT (zva va L3) (zcov b va L3) ed u ++ ([12 * ed + sl] ++ zlayK (zva va L3) (zcov b va L3) (2 * ed) u k)) ++ zrun (6 * dd + 0) 3) dd 3 5 3 (hTa) (by omega) (by omega) (by omega) (by omega) (by omega)) hl.1 (C := RX8) (T := TX8) (N := 37) (ci := 10) (q0 := 3) gX8_makeTrip_X8_visit rfl 3 yX8_makeTrip_X8_visit rfl rfl rfl [3, 2] [0, 1, 4, 5] rfl rfl rfl rfl (by decide) (Nat.le_of_ble_eq_true rfl) (Nat.le_of_ble_eq_true rfl) (Nat.le_of_ble_eq_true rfl) rfl dX8_makeTrip_121 (show 0 + 0 ≤ 0 by omega) (show 0 + 0 ≤ 0 by omega) (fun vv ww H locs hRR B => ?_)
                    obtain ⟨ftp'_6, rfl, rfl, hTb⟩ := hRR
                    have B : zB D (zT cI cZ cG cJ) A s.heap s [(A8 9, .inl (cI, 7600, .inl fbe)), (A8 10, .inl (cI, 2200, .inl ffe)), (A8 8, .inl (cI, 1900, .inl f3)), (A8 16, .inl (cZ, 170, .inl ftr)), (mm, .inr (10, zmo (nI th) (nI q) (nI g) (nI t) (nI r) (nI mb) (nI nc) (nI nl) (nI pv) (nI va) (nI n3) (nI ve) (nI ed) (nI se) (nI ci) (nI mr) (nI mt) (nI ((n2 + 3) + 3)) A8)), (A8 17, .inl (cI, 47000, .inl ftp'_6))] _ _ := B
                    refine W.eq (g2 := F0 m 124 ls []) rfl ?_
                    refine lv_aload_n F.1 F.2.1 dX8_makeTrip_124 rfl (lv_at hl 1 rfl) ?_
                    refine z_get F B 4 rfl (ci := 10) (C := RX8) (T := TX8) (N := 37) rfl iX8_makeTrip_X8 24 (by decide) fX8_makeTrip_47 rfl dX8_makeTrip_125 ?_
                    refine lv_iload_n F.1 F.2.1 dX8_makeTrip_128 rfl (lv_at hl 4 rfl) ?_
                    refine z_iald F B 0 0 rfl rfl (j := dd) (by omega) (by omega) dX8_makeTrip_129 ?_
                    refine lv_istore_n (lv' := [(3, .int (fbe dd)), (4, .int (nI (zx1 dd))), (0, .ref mm), (1, .int (nI (12 * ed + sl + 1))), (2, .int (nI u))]) F.1 F.2.1 dX8_makeTrip_130 rfl hl (by decide) rfl (fun ls hl => ?_)
                    refine lv_goto (tgt := 61) F.1 F.2.1 dX8_makeTrip_131 (by decide) ?_
                    exact ih61 (k + 1) (fbe dd) ((n2 + 3) + 3) ftp'_6 (by first | omega | (simp only [] at *; omega)) (by omega) (zBH_nx hzl (hBE dd (by omega)) hkd hdd) (by rw [zlayK_S, ← hdd, zlay1_s hpO]; have q9 := hTb; simp only [List.append_assoc, List.nil_append, List.cons_append, Nat.add_zero] at q9 ⊢; exact q9) _ _ _ (B.sub [4, 2, 0, 1, 3, 5] rfl (rfl)) (lv_sub hl [2, 3, 4, 0] (rfl))
                  · refine W.eq (g2 := F0 m 106 ls [.int 0]) rfl ?_
                    rw [zlay1_v (d := dd) hpO] at hfk
                    simp only [List.length_append, List.length_cons, List.length_nil, zrun_len] at hfk
                    refine lv_if_ne (tgt := 117) F.1 F.2.1 dX8_makeTrip_106 (by decide) (fun hq => absurd (by decide) hq) (fun _ => ?_)
                    refine lv_aload_n F.1 F.2.1 dX8_makeTrip_109 rfl (lv_at hl 1 rfl) ?_
                    refine lv_iload F.1 F.2.1 dX8_makeTrip_110 (lv_at hl 0 rfl) ?_
                    refine lv_iconst (v := (nI 0)) F.1 F.2.1 dX8_makeTrip_112 (by decide) ?_
                    refine lv_iconst (v := (nI 5)) F.1 F.2.1 dX8_makeTrip_113 (by decide) ?_
                    refine z_callV (wr := [(A8 9, .inl (cI, 7600, .inl fbe)), (A8 10, .inl (cI, 2200, .inl ffe)), (A8 8, .inl (cI, 1900, .inl f3)), (A8 16, .inl (cZ, 170, .inl ftr))]) (rest := []) (As := [.int (nI (zx1 dd)), .int (nI 0), .int (nI 5)]) F B (kX8_visit l D cI cZ cG cJ mm th q g t r mb nc nl pv va n3 ve ed se ci mr mt (n2 + 3) A8 ftp'_3 ((zlayT (zva va L3) (zcov b va L3) ed u ++ ([12 * ed + sl] ++ zlayK (zva va L3) (zcov b va L3) (2 * ed) u k)) ++ zrun (6 * dd + 0) 3) (zx1 dd) 0 5 6 (hTa) (by omega) (by omega) (by omega) (by omega) (by omega)) hl.1 (C := RX8) (T := TX8) (N := 37) (ci := 10) (q0 := 3) gX8_makeTrip_X8_visit rfl 3 yX8_makeTrip_X8_visit rfl rfl rfl [3, 2] [0, 1, 4, 5] rfl rfl rfl rfl (by decide) (Nat.le_of_ble_eq_true rfl) (Nat.le_of_ble_eq_true rfl) (Nat.le_of_ble_eq_true rfl) rfl dX8_makeTrip_114 (show 0 + 0 ≤ 0 by omega) (show 0 + 0 ≤ 0 by omega) (fun vv ww H locs hRR B => ?_)
                    obtain ⟨ftp'_7, rfl, rfl, hTo⟩ := hRR
                    have B : zB D (zT cI cZ cG cJ) A s.heap s [(A8 9, .inl (cI, 7600, .inl fbe)), (A8 10, .inl (cI, 2200, .inl ffe)), (A8 8, .inl (cI, 1900, .inl f3)), (A8 16, .inl (cZ, 170, .inl ftr)), (mm, .inr (10, zmo (nI th) (nI q) (nI g) (nI t) (nI r) (nI mb) (nI nc) (nI nl) (nI pv) (nI va) (nI n3) (nI ve) (nI ed) (nI se) (nI ci) (nI mr) (nI mt) (nI ((n2 + 3) + 6)) A8)), (A8 17, .inl (cI, 47000, .inl ftp'_7))] _ _ := B
                    refine W.eq (g2 := F0 m 117 ls []) rfl ?_
                    refine lv_aload_n F.1 F.2.1 dX8_makeTrip_117 rfl (lv_at hl 1 rfl) ?_
                    refine lv_iload_n F.1 F.2.1 dX8_makeTrip_118 rfl (lv_at hl 4 rfl) ?_
                    refine lv_iconst (v := (nI 3)) F.1 F.2.1 dX8_makeTrip_119 (by decide) ?_
                    refine lv_iconst (v := (nI 5)) F.1 F.2.1 dX8_makeTrip_120 (by decide) ?_
                    refine z_callV (wr := [(A8 9, .inl (cI, 7600, .inl fbe)), (A8 10, .inl (cI, 2200, .inl ffe)), (A8 8, .inl (cI, 1900, .inl f3)), (A8 16, .inl (cZ, 170, .inl ftr))]) (rest := []) (As := [.int (nI dd), .int (nI 3), .int (nI 5)]) F B (kX8_visit l D cI cZ cG cJ mm th q g t r mb nc nl pv va n3 ve ed se ci mr mt ((n2 + 3) + 6) A8 ftp'_7 (((zlayT (zva va L3) (zcov b va L3) ed u ++ ([12 * ed + sl] ++ zlayK (zva va L3) (zcov b va L3) (2 * ed) u k)) ++ zrun (6 * dd + 0) 3) ++ zrun (6 * zx1 dd + 0) 6) dd 3 5 3 (hTo) (by omega) (by omega) (by omega) (by omega) (by omega)) hl.1 (C := RX8) (T := TX8) (N := 37) (ci := 10) (q0 := 4) gX8_makeTrip_X8_visit rfl 3 yX8_makeTrip_X8_visit rfl rfl rfl [4, 5] [0, 1, 2, 3] rfl rfl rfl rfl (by decide) (Nat.le_of_ble_eq_true rfl) (Nat.le_of_ble_eq_true rfl) (Nat.le_of_ble_eq_true rfl) rfl dX8_makeTrip_121 (show 0 + 0 ≤ 0 by omega) (show 0 + 0 ≤ 0 by omega) (fun vv ww H locs hRR B => ?_)
                    obtain ⟨ftp'_8, rfl, rfl, hTb⟩ := hRR
                    have B : zB D (zT cI cZ cG cJ) A s.heap s [(A8 9, .inl (cI, 7600, .inl fbe)), (A8 10, .inl (cI, 2200, .inl ffe)), (A8 8, .inl (cI, 1900, .inl f3)), (A8 16, .inl (cZ, 170, .inl ftr)), (mm, .inr (10, zmo (nI th) (nI q) (nI g) (nI t) (nI r) (nI mb) (nI nc) (nI nl) (nI pv) (nI va) (nI n3) (nI ve) (nI ed) (nI se) (nI ci) (nI mr) (nI mt) (nI (((n2 + 3) + 6) + 3)) A8)), (A8 17, .inl (cI, 47000, .inl ftp'_8))] _ _ := B
                    refine W.eq (g2 := F0 m 124 ls []) rfl ?_
                    refine lv_aload_n F.1 F.2.1 dX8_makeTrip_124 rfl (lv_at hl 1 rfl) ?_
                    refine z_get F B 4 rfl (ci := 10) (C := RX8) (T := TX8) (N := 37) rfl iX8_makeTrip_X8 24 (by decide) fX8_makeTrip_47 rfl dX8_makeTrip_125 ?_
                    refine lv_iload_n F.1 F.2.1 dX8_makeTrip_128 rfl (lv_at hl 4 rfl) ?_
                    refine z_iald F B 0 0 rfl rfl (j := dd) (by omega) (by omega) dX8_makeTrip_129 ?_
                    refine lv_istore_n (lv' := [(3, .int (fbe dd)), (4, .int (nI (zx1 dd))), (0, .ref mm), (1, .int (nI (12 * ed + sl + 1))), (2, .int (nI u))]) F.1 F.2.1 dX8_makeTrip_130 rfl hl (by decide) rfl (fun ls hl => ?_)
                    refine lv_goto (tgt := 61) F.1 F.2.1 dX8_makeTrip_131 (by decide) ?_
                    exact ih61 (k + 1) (fbe dd) (((n2 + 3) + 6) + 3) ftp'_8 (by first | omega | (simp only [] at *; omega)) (by omega) (zBH_nx hzl (hBE dd (by omega)) hkd hdd) (by rw [zlayK_S, ← hdd, zlay1_v hpO]; have q9 := hTb; simp only [List.append_assoc, List.nil_append, List.cons_append, Nat.add_zero] at q9 ⊢; exact q9) _ _ _ (B.sub [4, 2, 0, 1, 3, 5] rfl (rfl)) (lv_sub hl [2, 3, 4, 0] (rfl))
                · refine lv_iload_n F.1 F.2.1 dX8_makeTrip_72 rfl (lv_at hl 3 rfl) ?_
                  refine lv_iconst (v := (nI 1)) F.1 F.2.1 dX8_makeTrip_73 (by decide) ?_
                  refine z_iadd F dX8_makeTrip_74 ?_
                  refine W.eq (g2 := F0 m 75 ls [.int (nI (zx1 dd))]) (by rw [show zx1 dd = dd + 1 from if_pos (by omega)]) ?_
                  refine lv_goto (tgt := 81) F.1 F.2.1 dX8_makeTrip_75 (by decide) ?_
                  refine lv_istore (lv' := [(4, .int (nI (zx1 dd))), (0, .ref mm), (1, .int (nI (12 * ed + sl + 1))), (2, .int (nI u)), (3, .int (nI dd))]) F.1 F.2.1 dX8_makeTrip_81 hl (by decide) rfl (fun ls hl => ?_)
                  refine lv_aload_n F.1 F.2.1 dX8_makeTrip_83 rfl (lv_at hl 1 rfl) ?_
                  refine lv_iload_n F.1 F.2.1 dX8_makeTrip_84 rfl (lv_at hl 4 rfl) ?_
                  refine lv_iconst (v := (nI 0)) F.1 F.2.1 dX8_makeTrip_85 (by decide) ?_
                  refine lv_iconst (v := (nI 2)) F.1 F.2.1 dX8_makeTrip_86 (by decide) ?_
                  refine z_callV (wr := [(A8 8, .inl (cI, 1900, .inl f3)), (A8 9, .inl (cI, 7600, .inl fbe)), (A8 10, .inl (cI, 2200, .inl ffe)), (A8 16, .inl (cZ, 170, .inl ftr))]) (rest := []) (As := [.int (nI dd), .int (nI 0), .int (nI 2)]) F B (kX8_visit l D cI cZ cG cJ mm th q g t r mb nc nl pv va n3 ve ed se ci mr mt n2 A8 ftp2 (zlayT (zva va L3) (zcov b va L3) ed u ++ ([12 * ed + sl] ++ zlayK (zva va L3) (zcov b va L3) (2 * ed) u k)) dd 0 2 3 (hT2) (by omega) (by omega) (by omega) (by omega) (by have := zlay1_min (zva va L3) (zcov b va L3) dd; omega)) hl.1 (C := RX8) (T := TX8) (N := 37) (ci := 10) (q0 := 0) gX8_makeTrip_X8_visit rfl 3 yX8_makeTrip_X8_visit rfl rfl rfl [0, 5] [1, 2, 3, 4] rfl rfl rfl rfl (by decide) (Nat.le_of_ble_eq_true rfl) (Nat.le_of_ble_eq_true rfl) (Nat.le_of_ble_eq_true rfl) rfl dX8_makeTrip_87 (show 0 + 0 ≤ 0 by omega) (show 0 + 0 ≤ 0 by omega) (fun vv ww H locs hRR B => ?_)
                  obtain ⟨ftp'_9, rfl, rfl, hTa⟩ := hRR
                  have B : zB D (zT cI cZ cG cJ) A s.heap s [(A8 8, .inl (cI, 1900, .inl f3)), (A8 9, .inl (cI, 7600, .inl fbe)), (A8 10, .inl (cI, 2200, .inl ffe)), (A8 16, .inl (cZ, 170, .inl ftr)), (mm, .inr (10, zmo (nI th) (nI q) (nI g) (nI t) (nI r) (nI mb) (nI nc) (nI nl) (nI pv) (nI va) (nI n3) (nI ve) (nI ed) (nI se) (nI ci) (nI mr) (nI mt) (nI (n2 + 3)) A8)), (A8 17, .inl (cI, 47000, .inl ftp'_9))] _ _ := B
                  refine W.eq (g2 := F0 m 90 ls []) rfl ?_
                  refine lv_aload_n F.1 F.2.1 dX8_makeTrip_90 rfl (lv_at hl 1 rfl) ?_
                  refine lv_aload_n F.1 F.2.1 dX8_makeTrip_91 rfl (lv_at hl 1 rfl) ?_
                  refine lv_iload F.1 F.2.1 dX8_makeTrip_92 (lv_at hl 0 rfl) ?_
                  refine lv_iconst (v := (nI 2)) F.1 F.2.1 dX8_makeTrip_94 (by decide) ?_
                  refine z_idiv F (by omega) (by omega) (by omega) dX8_makeTrip_95 ?_
                  refine lv_iload F.1 F.2.1 dX8_makeTrip_96 (lv_at hl 0 rfl) ?_
                  refine lv_iconst (v := (nI 2)) F.1 F.2.1 dX8_makeTrip_98 (by decide) ?_
                  refine z_irem F (by omega) (by omega) (by omega) dX8_makeTrip_99 ?_
                  refine z_callV (wr := [(A8 9, .inl (cI, 7600, .inl fbe)), (A8 10, .inl (cI, 2200, .inl ffe)), (A8 16, .inl (cZ, 170, .inl ftr)), (A8 17, .inl (cI, 47000, .inl ftp'_9))]) (rest := [.ref mm]) (As := [.int (nI ((zx1 dd) / 2)), .int (nI ((zx1 dd) % 2))]) F B (kX8_vertexAt l D cI cZ cG cJ mm th q g t r mb nc nl pv va n3 ve ed se ci mr mt (n2 + 3) A8 f3 L3 ((zx1 dd) / 2) ((zx1 dd) % 2) (hR) (by omega) (by omega) (by omega) (by omega)) hl.1 (C := RX8) (T := TX8) (N := 37) (ci := 10) (q0 := 4) gX8_makeTrip_X8_vertexAt rfl 2 yX8_makeTrip_X8_vertexAt rfl rfl rfl [4, 0] [1, 2, 3, 5] rfl rfl rfl rfl (by decide) (Nat.le_of_ble_eq_true rfl) (Nat.le_of_ble_eq_true rfl) (Nat.le_of_ble_eq_true rfl) rfl dX8_makeTrip_100 (show 0 + 0 ≤ 0 by omega) (show 0 + 0 ≤ 0 by omega) (fun vv ww H locs hRR B => ?_)
                  obtain ⟨rfl, rfl⟩ := hRR
                  have B : zB D (zT cI cZ cG cJ) A s.heap s [(A8 9, .inl (cI, 7600, .inl fbe)), (A8 10, .inl (cI, 2200, .inl ffe)), (A8 16, .inl (cZ, 170, .inl ftr)), (A8 17, .inl (cI, 47000, .inl ftp'_9)), (mm, .inr (10, zmo (nI th) (nI q) (nI g) (nI t) (nI r) (nI mb) (nI nc) (nI nl) (nI pv) (nI va) (nI n3) (nI ve) (nI ed) (nI se) (nI ci) (nI mr) (nI mt) (nI (n2 + 3)) A8)), (A8 8, .inl (cI, 1900, .inl f3))] _ _ := B
                  refine W.eq (g2 := F0 m 103 ls [.int (nI (zva va L3 (2 * ((zx1 dd) / 2) + ((zx1 dd) % 2)))), .ref mm]) rfl ?_
                  refine W.eq (g2 := F0 m 103 ls [.int (nI (zva va L3 (zx1 dd))), .ref mm]) (by rw [show 2 * (zx1 dd / 2) + zx1 dd % 2 = zx1 dd by omega]) ?_
                  refine z_callV (wr := [(A8 9, .inl (cI, 7600, .inl fbe)), (A8 10, .inl (cI, 2200, .inl ffe)), (A8 17, .inl (cI, 47000, .inl ftp'_9))]) (rest := []) (As := [.int (nI (zva va L3 (zx1 dd)))]) F B (kX8_isIn l D cI cZ cG cJ mm th q g t r mb nc nl pv va n3 ve ed se ci mr mt (n2 + 3) A8 f3 L3 ftr b (zva va L3 (zx1 dd)) (hbT) (by omega) (hR) (by omega) (hL) (by omega)) hl.1 (C := RX8) (T := TX8) (N := 37) (ci := 10) (q0 := 4) gX8_makeTrip_X8_isIn rfl 1 yX8_makeTrip_X8_isIn rfl rfl rfl [4, 5, 2] [0, 1, 3] rfl rfl rfl rfl (by decide) (Nat.le_of_ble_eq_true rfl) (Nat.le_of_ble_eq_true rfl) (Nat.le_of_ble_eq_true rfl) rfl dX8_makeTrip_103 (show 0 + 0 ≤ 0 by omega) (show 0 + 0 ≤ 0 by omega) (fun vv ww H locs hRR B => ?_)
                  obtain ⟨r_10, rfl, rfl, hb_11⟩ := hRR
                  have B : zB D (zT cI cZ cG cJ) A s.heap s [(A8 9, .inl (cI, 7600, .inl fbe)), (A8 10, .inl (cI, 2200, .inl ffe)), (A8 17, .inl (cI, 47000, .inl ftp'_9)), (mm, .inr (10, zmo (nI th) (nI q) (nI g) (nI t) (nI r) (nI mb) (nI nc) (nI nl) (nI pv) (nI va) (nI n3) (nI ve) (nI ed) (nI se) (nI ci) (nI mr) (nI mt) (nI (n2 + 3)) A8)), (A8 8, .inl (cI, 1900, .inl f3)), (A8 16, .inl (cZ, 170, .inl ftr))] _ _ := B
                  rcases hb_11 with ⟨hr1, hpO⟩ | ⟨hr1, hpO⟩ <;> subst hr1
                  · refine W.eq (g2 := F0 m 106 ls [.int 1]) rfl ?_
                    rw [zlay1_s (d := dd) hpO] at hfk
                    simp only [List.length_append, List.length_cons, List.length_nil, zrun_len] at hfk
                    refine lv_if_ne (tgt := 117) F.1 F.2.1 dX8_makeTrip_106 (by decide) (fun _ => ?_) (fun hq => absurd hq (by decide))
                    refine lv_aload_n F.1 F.2.1 dX8_makeTrip_117 rfl (lv_at hl 1 rfl) ?_
                    refine lv_iload_n F.1 F.2.1 dX8_makeTrip_118 rfl (lv_at hl 4 rfl) ?_
                    refine lv_iconst (v := (nI 3)) F.1 F.2.1 dX8_makeTrip_119 (by decide) ?_
                    refine lv_iconst (v := (nI 5)) F.1 F.2.1 dX8_makeTrip_120 (by decide) ?_
                    refine z_callV (wr := [(A8 9, .inl (cI, 7600, .inl fbe)), (A8 10, .inl (cI, 2200, .inl ffe)), (A8 8, .inl (cI, 1900, .inl f3)), (A8 16, .inl (cZ, 170, .inl ftr))]) (rest := []) (As := [.int (nI dd), .int (nI 3), .int (nI 5)]) F B (kX8_visit l D cI cZ cG cJ mm th q g t r mb nc nl pv va n3 ve ed se ci mr mt (n2 + 3) A8 ftp'_9 ((zlayT (zva va L3) (zcov b va L3) ed u ++ ([12 * ed + sl] ++ zlayK (zva va L3) (zcov b va L3) (2 * ed) u k)) ++ zrun (6 * dd + 0) 3) dd 3 5 3 (hTa) (by omega) (by omega) (by omega) (by omega) (by omega)) hl.1 (C := RX8) (T := TX8) (N := 37) (ci := 10) (q0 := 3) gX8_makeTrip_X8_visit rfl 3 yX8_makeTrip_X8_visit rfl rfl rfl [3, 2] [0, 1, 4, 5] rfl rfl rfl rfl (by decide) (Nat.le_of_ble_eq_true rfl) (Nat.le_of_ble_eq_true rfl) (Nat.le_of_ble_eq_true rfl) rfl dX8_makeTrip_121 (show 0 + 0 ≤ 0 by omega) (show 0 + 0 ≤ 0 by omega) (fun vv ww H locs hRR B => ?_)
                    obtain ⟨ftp'_12, rfl, rfl, hTb⟩ := hRR
                    have B : zB D (zT cI cZ cG cJ) A s.heap s [(A8 9, .inl (cI, 7600, .inl fbe)), (A8 10, .inl (cI, 2200, .inl ffe)), (A8 8, .inl (cI, 1900, .inl f3)), (A8 16, .inl (cZ, 170, .inl ftr)), (mm, .inr (10, zmo (nI th) (nI q) (nI g) (nI t) (nI r) (nI mb) (nI nc) (nI nl) (nI pv) (nI va) (nI n3) (nI ve) (nI ed) (nI se) (nI ci) (nI mr) (nI mt) (nI ((n2 + 3) + 3)) A8)), (A8 17, .inl (cI, 47000, .inl ftp'_12))] _ _ := B
                    refine W.eq (g2 := F0 m 124 ls []) rfl ?_
                    refine lv_aload_n F.1 F.2.1 dX8_makeTrip_124 rfl (lv_at hl 1 rfl) ?_
                    refine z_get F B 4 rfl (ci := 10) (C := RX8) (T := TX8) (N := 37) rfl iX8_makeTrip_X8 24 (by decide) fX8_makeTrip_47 rfl dX8_makeTrip_125 ?_
                    refine lv_iload_n F.1 F.2.1 dX8_makeTrip_128 rfl (lv_at hl 4 rfl) ?_
                    refine z_iald F B 0 0 rfl rfl (j := dd) (by omega) (by omega) dX8_makeTrip_129 ?_
                    refine lv_istore_n (lv' := [(3, .int (fbe dd)), (4, .int (nI (zx1 dd))), (0, .ref mm), (1, .int (nI (12 * ed + sl + 1))), (2, .int (nI u))]) F.1 F.2.1 dX8_makeTrip_130 rfl hl (by decide) rfl (fun ls hl => ?_)
                    refine lv_goto (tgt := 61) F.1 F.2.1 dX8_makeTrip_131 (by decide) ?_
                    exact ih61 (k + 1) (fbe dd) ((n2 + 3) + 3) ftp'_12 (by first | omega | (simp only [] at *; omega)) (by omega) (zBH_nx hzl (hBE dd (by omega)) hkd hdd) (by rw [zlayK_S, ← hdd, zlay1_s hpO]; have q9 := hTb; simp only [List.append_assoc, List.nil_append, List.cons_append, Nat.add_zero] at q9 ⊢; exact q9) _ _ _ (B.sub [4, 2, 0, 1, 3, 5] rfl (rfl)) (lv_sub hl [2, 3, 4, 0] (rfl))
                  · refine W.eq (g2 := F0 m 106 ls [.int 0]) rfl ?_
                    rw [zlay1_v (d := dd) hpO] at hfk
                    simp only [List.length_append, List.length_cons, List.length_nil, zrun_len] at hfk
                    refine lv_if_ne (tgt := 117) F.1 F.2.1 dX8_makeTrip_106 (by decide) (fun hq => absurd (by decide) hq) (fun _ => ?_)
                    refine lv_aload_n F.1 F.2.1 dX8_makeTrip_109 rfl (lv_at hl 1 rfl) ?_
                    refine lv_iload F.1 F.2.1 dX8_makeTrip_110 (lv_at hl 0 rfl) ?_
                    refine lv_iconst (v := (nI 0)) F.1 F.2.1 dX8_makeTrip_112 (by decide) ?_
                    refine lv_iconst (v := (nI 5)) F.1 F.2.1 dX8_makeTrip_113 (by decide) ?_
                    refine z_callV (wr := [(A8 9, .inl (cI, 7600, .inl fbe)), (A8 10, .inl (cI, 2200, .inl ffe)), (A8 8, .inl (cI, 1900, .inl f3)), (A8 16, .inl (cZ, 170, .inl ftr))]) (rest := []) (As := [.int (nI (zx1 dd)), .int (nI 0), .int (nI 5)]) F B (kX8_visit l D cI cZ cG cJ mm th q g t r mb nc nl pv va n3 ve ed se ci mr mt (n2 + 3) A8 ftp'_9 ((zlayT (zva va L3) (zcov b va L3) ed u ++ ([12 * ed + sl] ++ zlayK (zva va L3) (zcov b va L3) (2 * ed) u k)) ++ zrun (6 * dd + 0) 3) (zx1 dd) 0 5 6 (hTa) (by omega) (by omega) (by omega) (by omega) (by omega)) hl.1 (C := RX8) (T := TX8) (N := 37) (ci := 10) (q0 := 3) gX8_makeTrip_X8_visit rfl 3 yX8_makeTrip_X8_visit rfl rfl rfl [3, 2] [0, 1, 4, 5] rfl rfl rfl rfl (by decide) (Nat.le_of_ble_eq_true rfl) (Nat.le_of_ble_eq_true rfl) (Nat.le_of_ble_eq_true rfl) rfl dX8_makeTrip_114 (show 0 + 0 ≤ 0 by omega) (show 0 + 0 ≤ 0 by omega) (fun vv ww H locs hRR B => ?_)
                    obtain ⟨ftp'_13, rfl, rfl, hTo⟩ := hRR
                    have B : zB D (zT cI cZ cG cJ) A s.heap s [(A8 9, .inl (cI, 7600, .inl fbe)), (A8 10, .inl (cI, 2200, .inl ffe)), (A8 8, .inl (cI, 1900, .inl f3)), (A8 16, .inl (cZ, 170, .inl ftr)), (mm, .inr (10, zmo (nI th) (nI q) (nI g) (nI t) (nI r) (nI mb) (nI nc) (nI nl) (nI pv) (nI va) (nI n3) (nI ve) (nI ed) (nI se) (nI ci) (nI mr) (nI mt) (nI ((n2 + 3) + 6)) A8)), (A8 17, .inl (cI, 47000, .inl ftp'_13))] _ _ := B
                    refine W.eq (g2 := F0 m 117 ls []) rfl ?_
                    refine lv_aload_n F.1 F.2.1 dX8_makeTrip_117 rfl (lv_at hl 1 rfl) ?_
                    refine lv_iload_n F.1 F.2.1 dX8_makeTrip_118 rfl (lv_at hl 4 rfl) ?_
                    refine lv_iconst (v := (nI 3)) F.1 F.2.1 dX8_makeTrip_119 (by decide) ?_
                    refine lv_iconst (v := (nI 5)) F.1 F.2.1 dX8_makeTrip_120 (by decide) ?_
                    refine z_callV (wr := [(A8 9, .inl (cI, 7600, .inl fbe)), (A8 10, .inl (cI, 2200, .inl ffe)), (A8 8, .inl (cI, 1900, .inl f3)), (A8 16, .inl (cZ, 170, .inl ftr))]) (rest := []) (As := [.int (nI dd), .int (nI 3), .int (nI 5)]) F B (kX8_visit l D cI cZ cG cJ mm th q g t r mb nc nl pv va n3 ve ed se ci mr mt ((n2 + 3) + 6) A8 ftp'_13 (((zlayT (zva va L3) (zcov b va L3) ed u ++ ([12 * ed + sl] ++ zlayK (zva va L3) (zcov b va L3) (2 * ed) u k)) ++ zrun (6 * dd + 0) 3) ++ zrun (6 * zx1 dd + 0) 6) dd 3 5 3 (hTo) (by omega) (by omega) (by omega) (by omega) (by omega)) hl.1 (C := RX8) (T := TX8) (N := 37) (ci := 10) (q0 := 4) gX8_makeTrip_X8_visit rfl 3 yX8_makeTrip_X8_visit rfl rfl rfl [4, 5] [0, 1, 2, 3] rfl rfl rfl rfl (by decide) (Nat.le_of_ble_eq_true rfl) (Nat.le_of_ble_eq_true rfl) (Nat.le_of_ble_eq_true rfl) rfl dX8_makeTrip_121 (show 0 + 0 ≤ 0 by omega) (show 0 + 0 ≤ 0 by omega) (fun vv ww H locs hRR B => ?_)
                    obtain ⟨ftp'_14, rfl, rfl, hTb⟩ := hRR
                    have B : zB D (zT cI cZ cG cJ) A s.heap s [(A8 9, .inl (cI, 7600, .inl fbe)), (A8 10, .inl (cI, 2200, .inl ffe)), (A8 8, .inl (cI, 1900, .inl f3)), (A8 16, .inl (cZ, 170, .inl ftr)), (mm, .inr (10, zmo (nI th) (nI q) (nI g) (nI t) (nI r) (nI mb) (nI nc) (nI nl) (nI pv) (nI va) (nI n3) (nI ve) (nI ed) (nI se) (nI ci) (nI mr) (nI mt) (nI (((n2 + 3) + 6) + 3)) A8)), (A8 17, .inl (cI, 47000, .inl ftp'_14))] _ _ := B
                    refine W.eq (g2 := F0 m 124 ls []) rfl ?_
                    refine lv_aload_n F.1 F.2.1 dX8_makeTrip_124 rfl (lv_at hl 1 rfl) ?_
                    refine z_get F B 4 rfl (ci := 10) (C := RX8) (T := TX8) (N := 37) rfl iX8_makeTrip_X8 24 (by decide) fX8_makeTrip_47 rfl dX8_makeTrip_125 ?_
                    refine lv_iload_n F.1 F.2.1 dX8_makeTrip_128 rfl (lv_at hl 4 rfl) ?_
                    refine z_iald F B 0 0 rfl rfl (j := dd) (by omega) (by omega) dX8_makeTrip_129 ?_
                    refine lv_istore_n (lv' := [(3, .int (fbe dd)), (4, .int (nI (zx1 dd))), (0, .ref mm), (1, .int (nI (12 * ed + sl + 1))), (2, .int (nI u))]) F.1 F.2.1 dX8_makeTrip_130 rfl hl (by decide) rfl (fun ls hl => ?_)
                    refine lv_goto (tgt := 61) F.1 F.2.1 dX8_makeTrip_131 (by decide) ?_
                    exact ih61 (k + 1) (fbe dd) (((n2 + 3) + 6) + 3) ftp'_14 (by first | omega | (simp only [] at *; omega)) (by omega) (zBH_nx hzl (hBE dd (by omega)) hkd hdd) (by rw [zlayK_S, ← hdd, zlay1_v hpO]; have q9 := hTb; simp only [List.append_assoc, List.nil_append, List.cons_append, Nat.add_zero] at q9 ⊢; exact q9) _ _ _ (B.sub [4, 2, 0, 1, 3, 5] rfl (rfl)) (lv_sub hl [2, 3, 4, 0] (rfl))
          exact loop61 (zc (zeq (zva va L3) u) (2 * ed) - 0 + 1) 0 (ffe u) (n1 + 1) (upd ftp1 n1 (nI (12 * ed + sl))) (Nat.lt_succ_self _) (by omega) (zFE_nx (hFE u (by omega))) (by have q9 := zR_add (x := 12 * ed + sl) (f' := upd ftp1 n1 (nI (12 * ed + sl))) hT1 (fun i hi => pk_un (by omega)) pk_us; simpa [zlayK] using q9) _ _ _ (B.sub [3, 4, 0, 1, 5, 2] rfl (rfl)) (lv_sub hl [2, 1, 3, 0] (rfl))
        · refine W.eq (g2 := F0 m 28 ls [.int 0]) rfl ?_
          refine lv_if_eq (tgt := 134) F.1 F.2.1 dX8_makeTrip_28 (by decide) (fun _ => ?_) (fun hq => absurd (by decide) hq)
          refine lv_iinc (v := (nI (u + 1))) (lv' := [(2, .int (nI (u + 1))), (0, .ref mm), (1, .int (nI (12 * ed + sl)))]) F.1 F.2.1 dX8_makeTrip_134 hl (k := 2) rfl (by rw [show Int32.ofInt 1 = nI 1 from rfl, nI_add]) (by decide) rfl (fun ls hl => ?_)
          refine lv_goto (tgt := 15) F.1 F.2.1 dX8_makeTrip_137 (by decide) ?_
          exact ih15 (u + 1) sl n1 ftp1 (by first | omega | (simp only [] at *; omega)) (by omega) (by rw [zc_no (zcv1_no hpI)]; exact hsl) (by rw [zlayT_no hpI]; exact hT1) _ _ _ (B.sub [3, 4, 0, 1, 5, 2] rfl (rfl)) (lv_sub hl [1, 2, 0] (rfl))
  exact loop15 (ve - 0 + 1) 0 0 0 ftp (Nat.lt_succ_self _) (by omega) (rfl) (zR_nil) _ _ _ (B.sub [0, 1, 2, 3, 4, 5] rfl (rfl)) (lv_sub hl [2, 1, 0] (rfl))
