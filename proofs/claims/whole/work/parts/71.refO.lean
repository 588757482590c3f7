/-! CONTRACTS of the reference: price, cost, replay -/
theorem zmk_no {M : List Nat} {x : Nat} (h : zmk M x = 0) : ¬ x ∈ M := by
  intro q
  unfold zmk at h
  rw [if_pos q] at h
  omega
theorem zmk_is {M : List Nat} {x : Nat} (h : ¬ zmk M x = 0) : x ∈ M := by
  apply Classical.byContradiction
  intro q
  unfold zmk at h
  rw [if_neg q] at h
  exact h rfl
theorem zonce_M {rr : Nat → Nat} {k : Nat} (h : zonce rr k) (hn : ¬ rr k ∈ (List.range k).map rr) : zonce rr (k + 1) := by
  intro i j hij hj
  by_cases e : j = k
  · subst e
    intro q
    exact hn (List.mem_map.mpr ⟨i, List.mem_range.mpr hij, q⟩)
  · exact h i j hij (by omega)
theorem zonce_old {rr : Nat → Nat} {k n : Nat} (h : rr k ∈ (List.range k).map rr) (ho : zonce rr n) (hk : k < n) : False := by
  obtain ⟨i, hi, q⟩ := List.mem_map.mp h
  exact ho i k (List.mem_range.mp hi) hk q
theorem zsum_tot {w : Nat → Nat} {ed n : Nat} {rr : Nat → Nat} (hn : 1 ≤ n) : zsum (fun i => zdist w ed (rr i) (rr ((i + 1) % n))) n = ztot w ed rr n := by
  obtain ⟨m, rfl⟩ : ∃ m, n = m + 1 := ⟨n - 1, by omega⟩
  have e : ∀ k, k ≤ m → zsum (fun i => zdist w ed (rr i) (rr ((i + 1) % (m + 1)))) k = zsum (fun i => zdist w ed (rr i) (rr (i + 1))) k := by
    intro k
    induction k with
    | zero => intro _; rfl
    | succ k ih =>
      intro hk
      rw [zsum, zsum, ih (by omega), Nat.mod_eq_of_lt (by omega)]
  rw [zsum, e m (Nat.le_refl _), Nat.mod_self]
  unfold ztot
  rw [Nat.add_sub_cancel, Nat.add_comm]
theorem iX8_price_X8 : ∀ w ∈ u_ws RX8 TX8 37, w ∈ wsX8_price := fun w h => List.mem_cons_of_mem _ (List.mem_append_right _ h)
theorem fX8_price_185 : Cond.fieldLink RX8 185 "TourChainModel" "cities" "I" ∈ wsX8_price := by decide +kernel
theorem fX8_price_76 : Cond.fieldLink RX8 76 "TourChainModel" "seen" "[Z" ∈ wsX8_price := by decide +kernel
theorem fX8_price_73 : Cond.fieldLink RX8 73 "TourChainModel" "trip" "[I" ∈ wsX8_price := by decide +kernel
theorem yX8_price_X8_far : yX8_far.cls = RX8 ∧ yX8_far.cls ≠ "java/lang/invoke/MethodHandle" ∧ yX8_far.cls ≠ "java/lang/invoke/VarHandle" ∧ (parseMethodDescriptor yX8_far.desc).map (fun d => d.parameters.length) = some 2 := by decide +kernel
set_option maxHeartbeats 4000000 in
set_option maxRecDepth 100000 in
theorem kX8_price (l : Launch) (D : va_G) (cI cZ cG cJ : ClassId) (mm : Nat) (th : Nat) (q : Nat) (g : Nat) (t : Nat) (r : Nat) (mb : Nat) (nc : Nat) (nl : Nat) (pv : Nat) (va : Nat) (n3 : Nat) (ve : Nat) (ed : Nat) (se : Nat) (ci : Nat) (mr : Nat) (mt : Nat) (ld : Nat) (A8 : Nat → Nat) (f3 : Nat → Int32) (L3 : List Nat) (fbe : Nat → Int32) (ffe : Nat → Int32) (fle : Nat → Int32) (ftp : Nat → Int32) (rr : Nat → Nat) (fse : Nat → Int32) (hR : zR f3 (3 * n3) L3) (hb : 3 * n3 ≤ 1900) (hv : va ≤ 1000) (hL : ∀ i, i < 3 * n3 → L3.getD i 0 < 2 * va) (hve : ve = 2 * va + 3 * n3) (hve2 : ve ≤ 2200) (hed : ed = va + 6 * n3) (hed2 : 2 * ed ≤ 7600) (hFE : ∀ u, u < ve → zFE (zva va L3) (2 * ed) u (ffe u)) (hLE : ∀ u, u < ve → zLE (zva va L3) (2 * ed) u (fle u)) (hBE : ∀ x, x < 2 * ed → zBH (zva va L3) (2 * ed) x (fbe x)) (hci1 : 1 ≤ ci) (hci : ci ≤ 47000) (hrw : ∀ i, i < ci → ftp i = nI (rr i) ∧ rr i < ci) : zC l yX8_price wsX8_price 4 93 0 0 D (zT cI cZ cG cJ) [.ref mm] [(mm, .inr (10, zmo (nI th) (nI q) (nI g) (nI t) (nI r) (nI mb) (nI nc) (nI nl) (nI pv) (nI va) (nI n3) (nI ve) (nI ed) (nI se) (nI ci) (nI mr) (nI mt) (nI ld) A8)), (A8 8, .inl (cI, 1900, .inl f3)), (A8 9, .inl (cI, 7600, .inl fbe)), (A8 10, .inl (cI, 2200, .inl ffe)), (A8 11, .inl (cI, 2200, .inl fle)), (A8 17, .inl (cI, 47000, .inl ftp)), (A8 18, .inl (cZ, 47000, .inl fse))] (fun (ov : Option Value) (ow : va_W) => ∃ fse' : Nat → Int32, ov = some (.int (zif (zonce rr ci) (nI (ztot (zva va L3) ed rr ci)) (-1))) ∧ ow = [(mm, .inr (10, zmo (nI th) (nI q) (nI g) (nI t) (nI r) (nI mb) (nI nc) (nI nl) (nI pv) (nI va) (nI n3) (nI ve) (nI ed) (nI se) (nI ci) (nI mr) (nI mt) (nI ld) A8)), (A8 8, .inl (cI, 1900, .inl f3)), (A8 9, .inl (cI, 7600, .inl fbe)), (A8 10, .inl (cI, 2200, .inl ffe)), (A8 11, .inl (cI, 2200, .inl fle)), (A8 17, .inl (cI, 47000, .inl ftp)), (A8 18, .inl (cZ, 47000, .inl fse'))]) := by
  refine zC.of (cc := cX8_price) (maxL := 3) (ret := (some .int)) (by decide) rfl (Nat.le_of_ble_eq_true rfl) ?_
  intro p e s m below meth c A ls F hr hlk hnm B hl
  have hl : lv_has ls 3 [(0, .ref mm)] := hl
  refine lv_iconst (v := (nI 0)) F.1 F.2.1 dX8_price_0 (by decide) ?_
  refine lv_istore_n (lv' := [(1, .int (nI 0)), (0, .ref mm)]) F.1 F.2.1 dX8_price_1 rfl hl (by decide) rfl (fun ls hl => ?_)
  have loop2 : ∀ (fuel : Nat) (x : Nat) (fse1 : Nat → Int32), ci - x < fuel → (x ≤ ci) → (∀ y, y < x → fse1 y = nI (zmk [] y)) → ∀ (H : Heap) (locs : List Loc) (ls : Array Slot), zB D (zT cI cZ cG cJ) A s.heap s [(mm, .inr (10, zmo (nI th) (nI q) (nI g) (nI t) (nI r) (nI mb) (nI nc) (nI nl) (nI pv) (nI va) (nI n3) (nI ve) (nI ed) (nI se) (nI ci) (nI mr) (nI mt) (nI ld) A8)), (A8 8, .inl (cI, 1900, .inl f3)), (A8 9, .inl (cI, 7600, .inl fbe)), (A8 10, .inl (cI, 2200, .inl ffe)), (A8 11, .inl (cI, 2200, .inl fle)), (A8 17, .inl (cI, 47000, .inl ftp)), (A8 18, .inl (cZ, 47000, .inl fse1))] H locs → lv_has ls 3 [(0, .ref mm), (1, .int (nI x))] → W p l e { frames := 4, cells := 0, slots := 0, locals := 93 } s m [.ref mm].toArray below meth c H locs 0 0 (zQ below [.ref mm].toArray s D (zT cI cZ cG cJ) A (fun (ov : Option Value) (ow : va_W) => ∃ fse' : Nat → Int32, ov = some (.int (zif (zonce rr ci) (nI (ztot (zva va L3) ed rr ci)) (-1))) ∧ ow = [(mm, .inr (10, zmo (nI th) (nI q) (nI g) (nI t) (nI r) (nI mb) (nI nc) (nI nl) (nI pv) (nI va) (nI n3) (nI ve) (nI ed) (nI se) (nI ci) (nI mr) (nI mt) (nI ld) A8)), (A8 8, .inl (cI, 1900, .inl f3)), (A8 9, .inl (cI, 7600, .inl fbe)), (A8 10, .inl (cI, 2200, .inl ffe)), (A8 11, .inl (cI, 2200, .inl fle)), (A8 17, .inl (cI, 47000, .inl ftp)), (A8 18, .inl (cZ, 47000, .inl fse'))]) 0 0) (F0 m 2 ls []) := by
    intro fuel
    induction fuel with
    | zero => intro x fse1 hmz; exact absurd hmz (Nat.not_lt_zero _)
    | succ fuel ih =>
      intro x fse1 hm hx hz0 H locs ls B hl
      have ih2 := ih
      refine lv_iload_n F.1 F.2.1 dX8_price_2 rfl (lv_at hl 1 rfl) ?_
      refine lv_aload_n F.1 F.2.1 dX8_price_3 rfl (lv_at hl 0 rfl) ?_
      refine z_get F B 0 rfl (ci := 10) (C := RX8) (T := TX8) (N := 37) rfl iX8_price_X8 23 (by decide) fX8_price_185 rfl dX8_price_4 ?_
      refine z_icmp_ge (tgt := 23) F (by omega) (by omega) dX8_price_7 (by decide) (fun c7 => ?_) (fun c7 => ?_)
      · have hxe : x = ci := by omega
        refine lv_iconst (v := (nI 0)) F.1 F.2.1 dX8_price_23 (by decide) ?_
        refine lv_istore_n (lv' := [(1, .int (nI 0)), (0, .ref mm)]) F.1 F.2.1 dX8_price_24 rfl hl (by decide) rfl (fun ls hl => ?_)
        refine lv_iconst (v := (nI 0)) F.1 F.2.1 dX8_price_25 (by decide) ?_
        refine lv_istore_n (lv' := [(2, .int (nI 0)), (1, .int (nI 0)), (0, .ref mm)]) F.1 F.2.1 dX8_price_26 rfl hl (by decide) rfl (fun ls hl => ?_)
        have loop27 : ∀ (fuel : Nat) (k : Nat) (fse2 : Nat → Int32), ci - k < fuel → (k ≤ ci) → (zonce rr k) → (∀ y, y < ci → fse2 y = nI (zmk ((List.range k).map rr) y)) → ∀ (H : Heap) (locs : List Loc) (ls : Array Slot), zB D (zT cI cZ cG cJ) A s.heap s [(mm, .inr (10, zmo (nI th) (nI q) (nI g) (nI t) (nI r) (nI mb) (nI nc) (nI nl) (nI pv) (nI va) (nI n3) (nI ve) (nI ed) (nI se) (nI ci) (nI mr) (nI mt) (nI ld) A8)), (A8 8, .inl (cI, 1900, .inl f3)), (A8 9, .inl (cI, 7600, .inl fbe)), (A8 10, .inl (cI, 2200, .inl ffe)), (A8 11, .inl (cI, 2200, .inl fle)), (A8 17, .inl (cI, 47000, .inl ftp)), (A8 18, .inl (cZ, 47000, .inl fse2))] H locs → lv_has ls 3 [(0, .ref mm), (1, .int (nI (zsum (fun i => zdist (zva va L3) ed (rr i) (rr ((i + 1) % ci))) k))), (2, .int (nI k))] → W p l e { frames := 4, cells := 0, slots := 0, locals := 93 } s m [.ref mm].toArray below meth c H locs 0 0 (zQ below [.ref mm].toArray s D (zT cI cZ cG cJ) A (fun (ov : Option Value) (ow : va_W) => ∃ fse' : Nat → Int32, ov = some (.int (zif (zonce rr ci) (nI (ztot (zva va L3) ed rr ci)) (-1))) ∧ ow = [(mm, .inr (10, zmo (nI th) (nI q) (nI g) (nI t) (nI r) (nI mb) (nI nc) (nI nl) (nI pv) (nI va) (nI n3) (nI ve) (nI ed) (nI se) (nI ci) (nI mr) (nI mt) (nI ld) A8)), (A8 8, .inl (cI, 1900, .inl f3)), (A8 9, .inl (cI, 7600, .inl fbe)), (A8 10, .inl (cI, 2200, .inl ffe)), (A8 11, .inl (cI, 2200, .inl fle)), (A8 17, .inl (cI, 47000, .inl ftp)), (A8 18, .inl (cZ, 47000, .inl fse'))]) 0 0) (F0 m 27 ls []) := by
          intro fuel
          induction fuel with
          | zero => intro k fse2 hmz; exact absurd hmz (Nat.not_lt_zero _)
          | succ fuel ih =>
            intro k fse2 hm hk hon hs1 H locs ls B hl
            have ih27 := ih
            refine lv_iload_n F.1 F.2.1 dX8_price_27 rfl (lv_at hl 2 rfl) ?_
            refine lv_aload_n F.1 F.2.1 dX8_price_28 rfl (lv_at hl 0 rfl) ?_
            refine z_get F B 0 rfl (ci := 10) (C := RX8) (T := TX8) (N := 37) rfl iX8_price_X8 23 (by decide) fX8_price_185 rfl dX8_price_29 ?_
            refine z_icmp_ge (tgt := 104) F (by omega) (by omega) dX8_price_32 (by decide) (fun c32 => ?_) (fun c32 => ?_)
            · have hke : k = ci := by omega
              rw [hke] at hon
              refine lv_iload_n F.1 F.2.1 dX8_price_104 rfl (lv_at hl 1 rfl) ?_
              exact z_iret F hr hlk B [0, 1, 2, 3, 4, 5, 6] rfl (rfl) dX8_price_105 (by omega) (by omega) ⟨fse2, by rw [zif_t hon, hke, zsum_tot hci1], rfl⟩
            · have hrk := hrw k (by omega)
              have hsk := hs1 (rr k) hrk.2
              have hsl := zsum_le (fun i => zdist_le (zva va L3) ed (rr i) (rr ((i + 1) % ci))) k
              have hdl := zdist_le (zva va L3) ed (rr k) (rr ((k + 1) % ci))
              have hrk2 := hrw ((k + 1) % ci) (Nat.mod_lt _ (by omega))
              refine lv_aload_n F.1 F.2.1 dX8_price_35 rfl (lv_at hl 0 rfl) ?_
              refine z_get F B 0 rfl (ci := 10) (C := RX8) (T := TX8) (N := 37) rfl iX8_price_X8 35 (by decide) fX8_price_76 rfl dX8_price_36 ?_
              refine lv_aload_n F.1 F.2.1 dX8_price_39 rfl (lv_at hl 0 rfl) ?_
              refine z_get F B 0 rfl (ci := 10) (C := RX8) (T := TX8) (N := 37) rfl iX8_price_X8 34 (by decide) fX8_price_73 rfl dX8_price_40 ?_
              refine lv_iload_n F.1 F.2.1 dX8_price_43 rfl (lv_at hl 2 rfl) ?_
              refine z_iald F B 5 0 rfl rfl (j := k) (by omega) (by omega) dX8_price_44 ?_
              refine W.eq (g2 := F0 m 45 ls [.int (nI (rr k)), .ref (A8 18)]) (by rw [hrk.1]) ?_
              refine z_zald F B 6 1 rfl rfl (j := rr k) (by omega) (by omega) dX8_price_45 ?_
              refine W.eq (g2 := F0 m 46 ls [.int (nI (zmk ((List.range k).map rr) (rr k)))]) (by rw [hsk]) ?_
              refine z_if_eq (tgt := 51) F (by have := zmk_le ((List.range k).map rr) (rr k); omega) dX8_price_46 (by decide) (fun c46 => ?_) (fun c46 => ?_)
              · have hnew := zmk_no c46
                refine lv_aload_n F.1 F.2.1 dX8_price_51 rfl (lv_at hl 0 rfl) ?_
                refine z_get F B 0 rfl (ci := 10) (C := RX8) (T := TX8) (N := 37) rfl iX8_price_X8 35 (by decide) fX8_price_76 rfl dX8_price_52 ?_
                refine lv_aload_n F.1 F.2.1 dX8_price_55 rfl (lv_at hl 0 rfl) ?_
                refine z_get F B 0 rfl (ci := 10) (C := RX8) (T := TX8) (N := 37) rfl iX8_price_X8 34 (by decide) fX8_price_73 rfl dX8_price_56 ?_
                refine lv_iload_n F.1 F.2.1 dX8_price_59 rfl (lv_at hl 2 rfl) ?_
                refine z_iald F B 5 0 rfl rfl (j := k) (by omega) (by omega) dX8_price_60 ?_
                refine W.eq (g2 := F0 m 61 ls [.int (nI (rr k)), .ref (A8 18)]) (by rw [hrk.1]) ?_
                refine lv_iconst (v := (nI 1)) F.1 F.2.1 dX8_price_61 (by decide) ?_
                refine z_zast F B 6 1 rfl rfl (j := rr k) (by decide) (by omega) (by omega) dX8_price_62 (fun H locs B => ?_)
                have B : zB D (zT cI cZ cG cJ) A s.heap s [(mm, .inr (10, zmo (nI th) (nI q) (nI g) (nI t) (nI r) (nI mb) (nI nc) (nI nl) (nI pv) (nI va) (nI n3) (nI ve) (nI ed) (nI se) (nI ci) (nI mr) (nI mt) (nI ld) A8)), (A8 8, .inl (cI, 1900, .inl f3)), (A8 9, .inl (cI, 7600, .inl fbe)), (A8 10, .inl (cI, 2200, .inl ffe)), (A8 11, .inl (cI, 2200, .inl fle)), (A8 17, .inl (cI, 47000, .inl ftp)), (A8 18, .inl (cZ, 47000, .inl (upd fse2 (rr k) (nI 1))))] _ _ := B
                refine lv_iload_n F.1 F.2.1 dX8_price_63 rfl (lv_at hl 1 rfl) ?_
                refine lv_aload_n F.1 F.2.1 dX8_price_64 rfl (lv_at hl 0 rfl) ?_
                refine lv_aload_n F.1 F.2.1 dX8_price_65 rfl (lv_at hl 0 rfl) ?_
                refine z_get F B 0 rfl (ci := 10) (C := RX8) (T := TX8) (N := 37) rfl iX8_price_X8 34 (by decide) fX8_price_73 rfl dX8_price_66 ?_
                refine lv_iload_n F.1 F.2.1 dX8_price_69 rfl (lv_at hl 2 rfl) ?_
                refine z_iald F B 5 0 rfl rfl (j := k) (by omega) (by omega) dX8_price_70 ?_
                refine W.eq (g2 := F0 m 71 ls [.int (nI (rr k)), .ref mm, .int (nI (zsum (fun i => zdist (zva va L3) ed (rr i) (rr ((i + 1) % ci))) k))]) (by rw [hrk.1]) ?_
                refine lv_aload_n F.1 F.2.1 dX8_price_71 rfl (lv_at hl 0 rfl) ?_
                refine z_get F B 0 rfl (ci := 10) (C := RX8) (T := TX8) (N := 37) rfl iX8_price_X8 34 (by decide) fX8_price_73 rfl dX8_price_72 ?_
                refine lv_iload_n F.1 F.2.1 dX8_price_75 rfl (lv_at hl 2 rfl) ?_
                refine lv_iconst (v := (nI 1)) F.1 F.2.1 dX8_price_76 (by decide) ?_
                refine z_iadd F dX8_price_77 ?_
                refine lv_aload_n F.1 F.2.1 dX8_price_78 rfl (lv_at hl 0 rfl) ?_
                refine z_get F B 0 rfl (ci := 10) (C := RX8) (T := TX8) (N := 37) rfl iX8_price_X8 23 (by decide) fX8_price_185 rfl dX8_price_79 ?_
                refine z_icmp_ge (tgt := 91) F (by omega) (by omega) dX8_price_82 (by decide) (fun c82 => ?_) (fun c82 => ?_)
                · have hmd : (k + 1) % ci = 0 := by rw [show k + 1 = ci by omega]; exact Nat.mod_self ci
                  refine lv_iconst (v := (nI 0)) F.1 F.2.1 dX8_price_91 (by decide) ?_
                  refine z_iald F B 5 0 rfl rfl (j := 0) (by omega) (by omega) dX8_price_92 ?_
                  refine W.eq (g2 := F0 m 93 ls [.int (nI (rr ((k + 1) % ci))), .int (nI (rr k)), .ref mm, .int (nI (zsum (fun i => zdist (zva va L3) ed (rr i) (rr ((i + 1) % ci))) k))]) (by rw [show ftp 0 = nI (rr ((k + 1) % ci)) by have q9 := hrk2.1; rw [hmd] at q9 ⊢; exact q9]) ?_
                  refine z_callV (wr := [(A8 17, .inl (cI, 47000, .inl ftp)), (A8 18, .inl (cZ, 47000, .inl (upd fse2 (rr k) (nI 1))))]) (rest := [.int (nI (zsum (fun i => zdist (zva va L3) ed (rr i) (rr ((i + 1) % ci))) k))]) (As := [.int (nI (rr k)), .int (nI (rr ((k + 1) % ci)))]) F B (kX8_far l D cI cZ cG cJ mm th q g t r mb nc nl pv va n3 ve ed se ci mr mt ld A8 f3 L3 fbe ffe fle (rr k) (rr ((k + 1) % ci)) (hR) (hb) (hv) (hL) (hve) (hve2) (hed) (hed2) (hFE) (hLE) (hBE) (by omega) (by omega) (by omega)) hl.1 (C := RX8) (T := TX8) (N := 37) (ci := 10) (q0 := 0) gX8_price_X8_far rfl 2 yX8_price_X8_far rfl rfl rfl [0, 1, 2, 3, 4] [5, 6] rfl rfl rfl rfl (by decide) (Nat.le_of_ble_eq_true rfl) (Nat.le_of_ble_eq_true rfl) (Nat.le_of_ble_eq_true rfl) rfl dX8_price_93 (show 0 + 0 ≤ 0 by omega) (show 0 + 0 ≤ 0 by omega) (fun vv ww H locs hRR B => ?_)
                  obtain ⟨rfl, rfl⟩ := hRR
                  have B : zB D (zT cI cZ cG cJ) A s.heap s [(A8 17, .inl (cI, 47000, .inl ftp)), (A8 18, .inl (cZ, 47000, .inl (upd fse2 (rr k) (nI 1)))), (mm, .inr (10, zmo (nI th) (nI q) (nI g) (nI t) (nI r) (nI mb) (nI nc) (nI nl) (nI pv) (nI va) (nI n3) (nI ve) (nI ed) (nI se) (nI ci) (nI mr) (nI mt) (nI ld) A8)), (A8 8, .inl (cI, 1900, .inl f3)), (A8 9, .inl (cI, 7600, .inl fbe)), (A8 10, .inl (cI, 2200, .inl ffe)), (A8 11, .inl (cI, 2200, .inl fle))] _ _ := B
                  refine W.eq (g2 := F0 m 96 ls [.int (nI (zdist (zva va L3) ed (rr k) (rr ((k + 1) % ci)))), .int (nI (zsum (fun i => zdist (zva va L3) ed (rr i) (rr ((i + 1) % ci))) k))]) rfl ?_
                  refine z_iadd F dX8_price_96 ?_
                  refine lv_istore_n (lv' := [(1, .int (nI (zsum (fun i => zdist (zva va L3) ed (rr i) (rr ((i + 1) % ci))) k + (zdist (zva va L3) ed (rr k) (rr ((k + 1) % ci)))))), (0, .ref mm), (2, .int (nI k))]) F.1 F.2.1 dX8_price_97 rfl hl (by decide) rfl (fun ls hl => ?_)
                  refine lv_iinc (v := (nI (k + 1))) (lv' := [(2, .int (nI (k + 1))), (1, .int (nI (zsum (fun i => zdist (zva va L3) ed (rr i) (rr ((i + 1) % ci))) k + (zdist (zva va L3) ed (rr k) (rr ((k + 1) % ci)))))), (0, .ref mm)]) F.1 F.2.1 dX8_price_98 hl (k := 2) rfl (by rw [show Int32.ofInt 1 = nI 1 from rfl, nI_add]) (by decide) rfl (fun ls hl => ?_)
                  refine lv_goto (tgt := 27) F.1 F.2.1 dX8_price_101 (by decide) ?_
                  exact ih27 (k + 1) (upd fse2 (rr k) (nI 1)) (by first | omega | (simp only [] at *; omega)) (by omega) (zonce_M hon hnew) (by rw [zmap_succ rr k]; exact zmk_add hs1) _ _ _ (B.sub [2, 3, 4, 5, 6, 0, 1] rfl (rfl)) (lv_sub hl [2, 1, 0] (rfl))
                · have hmd : (k + 1) % ci = k + 1 := Nat.mod_eq_of_lt (by omega)
                  refine lv_iload_n F.1 F.2.1 dX8_price_85 rfl (lv_at hl 2 rfl) ?_
                  refine lv_iconst (v := (nI 1)) F.1 F.2.1 dX8_price_86 (by decide) ?_
                  refine z_iadd F dX8_price_87 ?_
                  refine lv_goto (tgt := 92) F.1 F.2.1 dX8_price_88 (by decide) ?_
                  refine z_iald F B 5 0 rfl rfl (j := k + 1) (by omega) (by omega) dX8_price_92 ?_
                  refine W.eq (g2 := F0 m 93 ls [.int (nI (rr ((k + 1) % ci))), .int (nI (rr k)), .ref mm, .int (nI (zsum (fun i => zdist (zva va L3) ed (rr i) (rr ((i + 1) % ci))) k))]) (by rw [show ftp (k + 1) = nI (rr ((k + 1) % ci)) by have q9 := hrk2.1; rw [hmd] at q9 ⊢; exact q9]) ?_
                  refine z_callV (wr := [(A8 17, .inl (cI, 47000, .inl ftp)), (A8 18, .inl (cZ, 47000, .inl (upd fse2 (rr k) (nI 1))))]) (rest := [.int (nI (zsum (fun i => zdist (zva va L3) ed (rr i) (rr ((i + 1) % ci))) k))]) (As := [.int (nI (rr k)), .int (nI (rr ((k + 1) % ci)))]) F B (kX8_far l D cI cZ cG cJ mm th q g t r mb nc nl pv va n3 ve ed se ci mr mt ld A8 f3 L3 fbe ffe fle (rr k) (rr ((k + 1) % ci)) (hR) (hb) (hv) (hL) (hve) (hve2) (hed) (hed2) (hFE) (hLE) (hBE) (by omega) (by omega) (by omega)) hl.1 (C := RX8) (T := TX8) (N := 37) (ci := 10) (q0 := 0) gX8_price_X8_far rfl 2 yX8_price_X8_far rfl rfl rfl [0, 1, 2, 3, 4] [5, 6] rfl rfl rfl rfl (by decide) (Nat.le_of_ble_eq_true rfl) (Nat.le_of_ble_eq_true rfl) (Nat.le_of_ble_eq_true rfl) rfl dX8_price_93 (show 0 + 0 ≤ 0 by omega) (show 0 + 0 ≤ 0 by omega) (fun vv ww H locs hRR B => ?_)
                  obtain ⟨rfl, rfl⟩ := hRR
                  have B : zB D (zT cI cZ cG cJ) A s.heap s [(A8 17, .inl (cI, 47000, .inl ftp)), (A8 18, .inl (cZ, 47000, .inl (upd fse2 (rr k) (nI 1)))), (mm, .inr (10, zmo (nI th) (nI q) (nI g) (nI t) (nI r) (nI mb) (nI nc) (nI nl) (nI pv) (nI va) (nI n3) (nI ve) (nI ed) (nI se) (nI ci) (nI mr) (nI mt) (nI ld) A8)), (A8 8, .inl (cI, 1900, .inl f3)), (A8 9, .inl (cI, 7600, .inl fbe)), (A8 10, .inl (cI, 2200, .inl ffe)), (A8 11, .inl (cI, 2200, .inl fle))] _ _ := B
                  refine W.eq (g2 := F0 m 96 ls [.int (nI (zdist (zva va L3) ed (rr k) (rr ((k + 1) % ci)))), .int (nI (zsum (fun i => zdist (zva va L3) ed (rr i) (rr ((i + 1) % ci))) k))]) rfl ?_
                  refine z_iadd F dX8_price_96 ?_
                  refine lv_istore_n (lv' := [(1, .int (nI (zsum (fun i => zdist (zva va L3) ed (rr i) (rr ((i + 1) % ci))) k + (zdist (zva va L3) ed (rr k) (rr ((k + 1) % ci)))))), (0, .ref mm), (2, .int (nI k))]) F.1 F.2.1 dX8_price_97 rfl hl (by decide) rfl (fun ls hl => ?_)
                  refine lv_iinc (v := (nI (k + 1))) (lv' := [(2, .int (nI (k + 1))), (1, .int (nI (zsum (fun i => zdist (zva va L3) ed (rr i) (rr ((i + 1) % ci))) k + (zdist (zva va L3) ed (rr k) (rr ((k + 1) % ci)))))), (0, .ref mm)]) F.1 F.2.1 dX8_price_98 hl (k := 2) rfl (by rw [show Int32.ofInt 1 = nI 1 from rfl, nI_add]) (by decide) rfl (fun ls hl => ?_)
                  refine lv_goto (tgt := 27) F.1 F.2.1 dX8_price_101 (by decide) ?_
                  exact ih27 (k + 1) (upd fse2 (rr k) (nI 1)) (by first | omega | (simp only [] at *; omega)) (by omega) (zonce_M hon hnew) (by rw [zmap_succ rr k]; exact zmk_add hs1) _ _ _ (B.sub [2, 3, 4, 5, 6, 0, 1] rfl (rfl)) (lv_sub hl [2, 1, 0] (rfl))
              · have hold := zmk_is c46
                refine lv_iconst (v := (-1)) F.1 F.2.1 dX8_price_49 (by decide) ?_
                exact z_iret F hr hlk B [0, 1, 2, 3, 4, 5, 6] rfl (rfl) dX8_price_50 (by omega) (by omega) ⟨fse2, by rw [zif_f (fun q9 => zonce_old hold q9 (by omega))], rfl⟩
        exact loop27 (ci - 0 + 1) 0 fse1 (Nat.lt_succ_self _) (by omega) (fun i j hij hj => absurd hj (Nat.not_lt_zero _)) (fun y hy => hz0 y (by omega)) _ _ _ (B.sub [0, 1, 2, 3, 4, 5, 6] rfl (rfl)) (lv_sub hl [2, 1, 0] (rfl))
      · refine lv_aload_n F.1 F.2.1 dX8_price_10 rfl (lv_at hl 0 rfl) ?_
        refine z_get F B 0 rfl (ci := 10) (C := RX8) (T := TX8) (N := 37) rfl iX8_price_X8 35 (by decide) fX8_price_76 rfl dX8_price_11 ?_
        refine lv_iload_n F.1 F.2.1 dX8_price_14 rfl (lv_at hl 1 rfl) ?_
        refine lv_iconst (v := (nI 0)) F.1 F.2.1 dX8_price_15 (by decide) ?_
        refine z_zast F B 6 1 rfl rfl (j := x) (by decide) (by omega) (by omega) dX8_price_16 (fun H locs B => ?_)
        have B : zB D (zT cI cZ cG cJ) A s.heap s [(mm, .inr (10, zmo (nI th) (nI q) (nI g) (nI t) (nI r) (nI mb) (nI nc) (nI nl) (nI pv) (nI va) (nI n3) (nI ve) (nI ed) (nI se) (nI ci) (nI mr) (nI mt) (nI ld) A8)), (A8 8, .inl (cI, 1900, .inl f3)), (A8 9, .inl (cI, 7600, .inl fbe)), (A8 10, .inl (cI, 2200, .inl ffe)), (A8 11, .inl (cI, 2200, .inl fle)), (A8 17, .inl (cI, 47000, .inl ftp)), (A8 18, .inl (cZ, 47000, .inl (upd fse1 x (nI 0))))] _ _ := B
        refine lv_iinc (v := (nI (x + 1))) (lv' := [(1, .int (nI (x + 1))), (0, .ref mm)]) F.1 F.2.1 dX8_price_17 hl (k := 1) rfl (by rw [show Int32.ofInt 1 = nI 1 from rfl, nI_add]) (by decide) rfl (fun ls hl => ?_)
        refine lv_goto (tgt := 2) F.1 F.2.1 dX8_price_20 (by decide) ?_
        exact ih2 (x + 1) (upd fse1 x (nI 0)) (by first | omega | (simp only [] at *; omega)) (by omega) (fun y hy => by by_cases e9 : y = x; subst e9; rw [pk_us]; rfl; rw [pk_un e9]; exact hz0 y (by omega)) _ _ _ (B.sub [0, 1, 2, 3, 4, 5, 6] rfl (rfl)) (lv_sub hl [1, 0] (rfl))
  exact loop2 (ci - 0 + 1) 0 fse (Nat.lt_succ_self _) (by omega) (fun y hy => absurd hy (Nat.not_lt_zero _)) _ _ _ (B.sub [0, 1, 2, 3, 4, 5, 6] rfl (rfl)) (lv_sub hl [1, 0] (rfl))
theorem yX8_cost_X8_may : yX8_may.cls = RX8 ∧ yX8_may.cls ≠ "java/lang/invoke/MethodHandle" ∧ yX8_may.cls ≠ "java/lang/invoke/VarHandle" ∧ (parseMethodDescriptor yX8_may.desc).map (fun d => d.parameters.length) = some 1 := by decide +kernel
theorem yX8_cost_X8_price : yX8_price.cls = RX8 ∧ yX8_price.cls ≠ "java/lang/invoke/MethodHandle" ∧ yX8_price.cls ≠ "java/lang/invoke/VarHandle" ∧ (parseMethodDescriptor yX8_price.desc).map (fun d => d.parameters.length) = some 0 := by decide +kernel
set_option maxHeartbeats 4000000 in
set_option maxRecDepth 100000 in
theorem kX8_cost (l : Launch) (D : va_G) (cI cZ cG cJ : ClassId) (mm : Nat) (th : Nat) (q : Nat) (g : Nat) (t : Nat) (r : Nat) (mb : Nat) (nc : Nat) (nl : Nat) (pv : Nat) (va : Nat) (n3 : Nat) (ve : Nat) (ed : Nat) (se : Nat) (ci : Nat) (mr : Nat) (mt : Nat) (ld : Nat) (A8 : Nat → Nat) (f3 : Nat → Int32) (L3 : List Nat) (fbe : Nat → Int32) (ffe : Nat → Int32) (fle : Nat → Int32) (ftp : Nat → Int32) (rr : Nat → Nat) (fse : Nat → Int32) (hmt : mt ≤ 1) (hcnd : mt = 1 → (zR f3 (3 * n3) L3) ∧ (3 * n3 ≤ 1900) ∧ (va ≤ 1000) ∧ (∀ i, i < 3 * n3 → L3.getD i 0 < 2 * va) ∧ (ve = 2 * va + 3 * n3) ∧ (ve ≤ 2200) ∧ (ed = va + 6 * n3) ∧ (2 * ed ≤ 7600) ∧ (∀ u, u < ve → zFE (zva va L3) (2 * ed) u (ffe u)) ∧ (∀ u, u < ve → zLE (zva va L3) (2 * ed) u (fle u)) ∧ (∀ x, x < 2 * ed → zBH (zva va L3) (2 * ed) x (fbe x)) ∧ (1 ≤ ci) ∧ (ci ≤ 47000) ∧ (∀ i, i < ci → ftp i = nI (rr i) ∧ rr i < ci)) : zC l yX8_cost wsX8_cost 5 115 0 0 D (zT cI cZ cG cJ) [.ref mm] [(mm, .inr (10, zmo (nI th) (nI q) (nI g) (nI t) (nI r) (nI mb) (nI nc) (nI nl) (nI pv) (nI va) (nI n3) (nI ve) (nI ed) (nI se) (nI ci) (nI mr) (nI mt) (nI ld) A8)), (A8 8, .inl (cI, 1900, .inl f3)), (A8 9, .inl (cI, 7600, .inl fbe)), (A8 10, .inl (cI, 2200, .inl ffe)), (A8 11, .inl (cI, 2200, .inl fle)), (A8 17, .inl (cI, 47000, .inl ftp)), (A8 18, .inl (cZ, 47000, .inl fse))] (fun (ov : Option Value) (ow : va_W) => ∃ fse' : Nat → Int32, ∃ th' : Nat, ov = some (.int (zif (mt = 1) (zif (zonce rr ci) (nI (ztot (zva va L3) ed rr ci)) (-1)) 0)) ∧ ow = [(mm, .inr (10, zmo (nI th') (nI q) (nI g) (nI t) (nI r) (nI mb) (nI nc) (nI nl) (nI pv) (nI va) (nI n3) (nI ve) (nI ed) (nI se) (nI ci) (nI mr) (nI mt) (nI ld) A8)), (A8 8, .inl (cI, 1900, .inl f3)), (A8 9, .inl (cI, 7600, .inl fbe)), (A8 10, .inl (cI, 2200, .inl ffe)), (A8 11, .inl (cI, 2200, .inl fle)), (A8 17, .inl (cI, 47000, .inl ftp)), (A8 18, .inl (cZ, 47000, .inl fse'))] ∧ ((mt = 1 ∧ th' = 0) ∨ (mt = 0 ∧ th' = 1))) := by
  refine zC.of (cc := cX8_cost) (maxL := 1) (ret := (some .int)) (by decide) rfl (Nat.le_of_ble_eq_true rfl) ?_
  intro p e s m below meth c A ls F hr hlk hnm B hl
  have hl : lv_has ls 1 [(0, .ref mm)] := hl
  refine lv_aload_n F.1 F.2.1 dX8_cost_0 rfl (lv_at hl 0 rfl) ?_
  refine lv_iconst (v := (nI 1)) F.1 F.2.1 dX8_cost_1 (by decide) ?_
  refine z_callV (wr := [(A8 8, .inl (cI, 1900, .inl f3)), (A8 9, .inl (cI, 7600, .inl fbe)), (A8 10, .inl (cI, 2200, .inl ffe)), (A8 11, .inl (cI, 2200, .inl fle)), (A8 17, .inl (cI, 47000, .inl ftp)), (A8 18, .inl (cZ, 47000, .inl fse))]) (rest := []) (As := [.int (nI 1)]) F B (kX8_may l D cI cZ cG cJ mm th q g t r mb nc nl pv va n3 ve ed se ci mr mt ld A8 1 (by omega) (by omega)) hl.1 (C := RX8) (T := TX8) (N := 37) (ci := 10) (q0 := 0) gX8_cost_X8_may rfl 1 yX8_cost_X8_may rfl rfl rfl [0] [1, 2, 3, 4, 5, 6] rfl rfl rfl rfl (by decide) (Nat.le_of_ble_eq_true rfl) (Nat.le_of_ble_eq_true rfl) (Nat.le_of_ble_eq_true rfl) rfl dX8_cost_2 (show 0 + 0 ≤ 0 by omega) (show 0 + 0 ≤ 0 by omega) (fun vv ww H locs hRR B => ?_)
  obtain ⟨r_1, th'_2, rfl, rfl, hb_3, hth⟩ := hRR
  have B : zB D (zT cI cZ cG cJ) A s.heap s [(A8 8, .inl (cI, 1900, .inl f3)), (A8 9, .inl (cI, 7600, .inl fbe)), (A8 10, .inl (cI, 2200, .inl ffe)), (A8 11, .inl (cI, 2200, .inl fle)), (A8 17, .inl (cI, 47000, .inl ftp)), (A8 18, .inl (cZ, 47000, .inl fse)), (mm, .inr (10, zmo (nI th'_2) (nI q) (nI g) (nI t) (nI r) (nI mb) (nI nc) (nI nl) (nI pv) (nI va) (nI n3) (nI ve) (nI ed) (nI se) (nI ci) (nI mr) (nI mt) (nI ld) A8))] _ _ := B
  rcases hb_3 with ⟨hr1, hpM⟩ | ⟨hr1, hpM⟩ <;> subst hr1
  · refine W.eq (g2 := F0 m 5 ls [.int 1]) rfl ?_
    have hth0 : mt = 1 := by omega
    obtain ⟨hR, hb, hv, hL, hve, hve2, hed, hed2, hFE, hLE, hBE, hci1, hci, hrw⟩ := hcnd hth0
    refine lv_if_eq (tgt := 15) F.1 F.2.1 dX8_cost_5 (by decide) (fun hq => absurd hq (by decide)) (fun _ => ?_)
    refine lv_aload_n F.1 F.2.1 dX8_cost_8 rfl (lv_at hl 0 rfl) ?_
    refine z_callV (wr := []) (rest := []) (As := []) F B (kX8_price l D cI cZ cG cJ mm th'_2 q g t r mb nc nl pv va n3 ve ed se ci mr mt ld A8 f3 L3 fbe ffe fle ftp rr fse (hR) (hb) (hv) (hL) (hve) (hve2) (hed) (hed2) (hFE) (hLE) (hBE) (by omega) (by omega) (hrw)) hl.1 (C := RX8) (T := TX8) (N := 37) (ci := 10) (q0 := 6) gX8_cost_X8_price rfl 0 yX8_cost_X8_price rfl rfl rfl [6, 0, 1, 2, 3, 4, 5] [] rfl rfl rfl rfl (by decide) (Nat.le_of_ble_eq_true rfl) (Nat.le_of_ble_eq_true rfl) (Nat.le_of_ble_eq_true rfl) rfl dX8_cost_9 (show 0 + 0 ≤ 0 by omega) (show 0 + 0 ≤ 0 by omega) (fun vv ww H locs hRR B => ?_)
    obtain ⟨fse'_4, rfl, rfl⟩ := hRR
    have B : zB D (zT cI cZ cG cJ) A s.heap s [(mm, .inr (10, zmo (nI th'_2) (nI q) (nI g) (nI t) (nI r) (nI mb) (nI nc) (nI nl) (nI pv) (nI va) (nI n3) (nI ve) (nI ed) (nI se) (nI ci) (nI mr) (nI mt) (nI ld) A8)), (A8 8, .inl (cI, 1900, .inl f3)), (A8 9, .inl (cI, 7600, .inl fbe)), (A8 10, .inl (cI, 2200, .inl ffe)), (A8 11, .inl (cI, 2200, .inl fle)), (A8 17, .inl (cI, 47000, .inl ftp)), (A8 18, .inl (cZ, 47000, .inl fse'_4))] _ _ := B
    refine W.eq (g2 := F0 m 12 ls [.int (zif (zonce rr ci) (nI (ztot (zva va L3) ed rr ci)) (-1))]) rfl ?_
    refine lv_goto (tgt := 16) F.1 F.2.1 dX8_cost_12 (by decide) ?_
    exact z_iret F hr hlk B [0, 1, 2, 3, 4, 5, 6] rfl (rfl) dX8_cost_16 (by omega) (by omega) ⟨fse'_4, th'_2, by rw [zif_t hth0], rfl, (by omega)⟩
  · refine W.eq (g2 := F0 m 5 ls [.int 0]) rfl ?_
    refine lv_if_eq (tgt := 15) F.1 F.2.1 dX8_cost_5 (by decide) (fun _ => ?_) (fun hq => absurd (by decide) hq)
    refine lv_iconst (v := (nI 0)) F.1 F.2.1 dX8_cost_15 (by decide) ?_
    exact z_iret F hr hlk B [6, 0, 1, 2, 3, 4, 5] rfl (rfl) dX8_cost_16 (by omega) (by omega) ⟨fse, th'_2, by rw [zif_f (by omega)]; rfl, rfl, (by omega)⟩
theorem iX8_replay_X8 : ∀ w ∈ u_ws RX8 TX8 37, w ∈ wsX8_replay := fun w h => List.mem_cons_of_mem _ (List.mem_append_right _ h)
theorem fX8_replay_86 : Cond.fieldLink RX8 86 "TourChainModel" "hasRun" "Z" ∈ wsX8_replay := by decide +kernel
theorem fX8_replay_79 : Cond.fieldLink RX8 79 "TourChainModel" "thrown" "I" ∈ wsX8_replay := by decide +kernel
theorem yX8_replay_X8_runs : yX8_runs.cls = RX8 ∧ yX8_runs.cls ≠ "java/lang/invoke/MethodHandle" ∧ yX8_runs.cls ≠ "java/lang/invoke/VarHandle" ∧ (parseMethodDescriptor yX8_runs.desc).map (fun d => d.parameters.length) = some 0 := by decide +kernel
set_option maxHeartbeats 4000000 in
set_option maxRecDepth 100000 in
theorem kX8_replay (l : Launch) (D : va_G) (cI cZ cG cJ : ClassId) (mm : Nat) (th : Nat) (q : Nat) (g : Nat) (t : Nat) (r : Nat) (mb : Nat) (nc : Nat) (nl : Nat) (pv : Nat) (va : Nat) (n3 : Nat) (ve : Nat) (ed : Nat) (se : Nat) (ci : Nat) (mr : Nat) (mt : Nat) (ld : Nat) (A8 : Nat → Nat) (ff : Nat → Int32) (fr : Nat → Int32) (fto : Nat → Int32) (fw : Nat → Int32) (fm : Nat → Int32) (rl : Nat → Nat → Nat) (fhe : Nat → Int32) (fst : Nat → Int32) (fta_ : Nat → Int32) (fp : Nat → Int32) (tp : Nat → Nat) (fch : Nat → Int32) (ch : Nat → Nat) (hmr : mr ≤ 1) (hcnd : mr = 1 → (t ≤ 3) ∧ (1 ≤ q) ∧ (q ≤ 3) ∧ (r ≤ 8) ∧ (∀ i, i < r → ff i = nI (rl 0 i)) ∧ (∀ i, i < r → fr i = nI (rl 1 i)) ∧ (∀ i, i < r → fto i = nI (rl 2 i)) ∧ (∀ i, i < r → fw i = nI (rl 3 i)) ∧ (∀ i, i < r → fm i = nI (rl 4 i) - nI 1 ∧ rl 4 i ≤ 2) ∧ (∀ k, k < r → rl 0 k ≤ 3 ∧ rl 1 k ≤ 3 ∧ rl 2 k ≤ 3 ∧ rl 3 k ≤ 3) ∧ (∀ y, y ≤ t → fp y = nI (tp y)) ∧ (∀ y, y ≤ t → tp y ≤ 3) ∧ (∀ i, i < t → fch i = nI (ch i) ∧ ch i ≤ r)) : zC l yX8_replay wsX8_replay 3 69 0 0 D (zT cI cZ cG cJ) [.ref mm] [(mm, .inr (10, zmo (nI th) (nI q) (nI g) (nI t) (nI r) (nI mb) (nI nc) (nI nl) (nI pv) (nI va) (nI n3) (nI ve) (nI ed) (nI se) (nI ci) (nI mr) (nI mt) (nI ld) A8)), (A8 0, .inl (cI, 8, .inl ff)), (A8 1, .inl (cI, 8, .inl fr)), (A8 2, .inl (cI, 8, .inl fto)), (A8 3, .inl (cI, 8, .inl fw)), (A8 4, .inl (cI, 8, .inl fm)), (A8 5, .inl (cI, 4, .inl fp)), (A8 12, .inl (cI, 3, .inl fch)), (A8 13, .inl (cI, 4, .inl fhe)), (A8 14, .inl (cI, 4, .inl fst)), (A8 15, .inl (cI, 16, .inl fta_))] (fun (ov : Option Value) (ow : va_W) => ∃ rb : Int32, ∃ fhe' : Nat → Int32, ∃ fst' : Nat → Int32, ∃ fta' : Nat → Int32, ∃ th' : Nat, ov = some (.int rb) ∧ ow = [(mm, .inr (10, zmo (nI th') (nI q) (nI g) (nI t) (nI r) (nI mb) (nI nc) (nI nl) (nI pv) (nI va) (nI n3) (nI ve) (nI ed) (nI se) (nI ci) (nI mr) (nI mt) (nI ld) A8)), (A8 0, .inl (cI, 8, .inl ff)), (A8 1, .inl (cI, 8, .inl fr)), (A8 2, .inl (cI, 8, .inl fto)), (A8 3, .inl (cI, 8, .inl fw)), (A8 4, .inl (cI, 8, .inl fm)), (A8 5, .inl (cI, 4, .inl fp)), (A8 12, .inl (cI, 3, .inl fch)), (A8 13, .inl (cI, 4, .inl fhe')), (A8 14, .inl (cI, 4, .inl fst')), (A8 15, .inl (cI, 16, .inl fta'))] ∧ ((rb = 1 ∧ (mr = 1 ∧ zacc q r t rl tp ch)) ∨ (rb = 0 ∧ ¬ (mr = 1 ∧ zacc q r t rl tp ch))) ∧ ((mr = 1 ∧ th' = 0) ∨ (mr = 0 ∧ th' = 1))) := by
  refine zC.of (cc := cX8_replay) (maxL := 1) (ret := (some .boolean)) (by decide) rfl (Nat.le_of_ble_eq_true rfl) ?_
  intro p e s m below meth c A ls F hr hlk hnm B hl
  have hl : lv_has ls 1 [(0, .ref mm)] := hl
  refine lv_aload_n F.1 F.2.1 dX8_replay_0 rfl (lv_at hl 0 rfl) ?_
  refine lv_aload_n F.1 F.2.1 dX8_replay_1 rfl (lv_at hl 0 rfl) ?_
  refine z_get F B 0 rfl (ci := 10) (C := RX8) (T := TX8) (N := 37) rfl iX8_replay_X8 27 (by decide) fX8_replay_86 rfl dX8_replay_2 ?_
  refine z_if_eq (tgt := 12) F (by omega) dX8_replay_5 (by decide) (fun c5 => ?_) (fun c5 => ?_)
  · refine lv_iconst (v := (nI 1)) F.1 F.2.1 dX8_replay_12 (by decide) ?_
    refine z_put F B 0 rfl (ci := 10) (C := RX8) (T := TX8) (N := 37) rfl iX8_replay_X8 tyX8 tyX8_ok nmX8 0 (by decide) fX8_replay_79 rfl (v := .int (nI 1)) rfl rfl (Nat.le_of_ble_eq_true rfl) dX8_replay_13 (fun H locs B => ?_)
    have B : zB D (zT cI cZ cG cJ) A s.heap s [(mm, .inr (10, zmo (nI 1) (nI q) (nI g) (nI t) (nI r) (nI mb) (nI nc) (nI nl) (nI pv) (nI va) (nI n3) (nI ve) (nI ed) (nI se) (nI ci) (nI mr) (nI mt) (nI ld) A8)), (A8 0, .inl (cI, 8, .inl ff)), (A8 1, .inl (cI, 8, .inl fr)), (A8 2, .inl (cI, 8, .inl fto)), (A8 3, .inl (cI, 8, .inl fw)), (A8 4, .inl (cI, 8, .inl fm)), (A8 5, .inl (cI, 4, .inl fp)), (A8 12, .inl (cI, 3, .inl fch)), (A8 13, .inl (cI, 4, .inl fhe)), (A8 14, .inl (cI, 4, .inl fst)), (A8 15, .inl (cI, 16, .inl fta_))] _ _ := B
    refine lv_aload_n F.1 F.2.1 dX8_replay_16 rfl (lv_at hl 0 rfl) ?_
    refine z_get F B 0 rfl (ci := 10) (C := RX8) (T := TX8) (N := 37) rfl iX8_replay_X8 27 (by decide) fX8_replay_86 rfl dX8_replay_17 ?_
    refine z_if_eq (tgt := 34) F (by omega) dX8_replay_20 (by decide) (fun c20 => ?_) (fun c20 => ?_)
    · refine lv_iconst (v := (nI 0)) F.1 F.2.1 dX8_replay_34 (by decide) ?_
      exact z_zret F hr hlk B (Or.inl rfl) [0, 1, 2, 3, 4, 5, 6, 7, 8, 9, 10] rfl (rfl) dX8_replay_35 (by omega) (by omega) ⟨(nI 0), fhe, fst, fta_, 1, rfl, rfl, Or.inr ⟨rfl, by first | exact fun q9 => hpR q9.2 | omega⟩, (by omega)⟩
    · exact absurd c5 c20
  · have hm1 : mr = 1 := by omega
    obtain ⟨ht, hq1, hq, hr8, hff, hfr, hfto, hfw, hfm, hrb4, htp, htp3, hch⟩ := hcnd hm1
    refine lv_iconst (v := (nI 0)) F.1 F.2.1 dX8_replay_8 (by decide) ?_
    refine lv_goto (tgt := 13) F.1 F.2.1 dX8_replay_9 (by decide) ?_
    refine z_put F B 0 rfl (ci := 10) (C := RX8) (T := TX8) (N := 37) rfl iX8_replay_X8 tyX8 tyX8_ok nmX8 0 (by decide) fX8_replay_79 rfl (v := .int (nI 0)) rfl rfl (Nat.le_of_ble_eq_true rfl) dX8_replay_13 (fun H locs B => ?_)
    have B : zB D (zT cI cZ cG cJ) A s.heap s [(mm, .inr (10, zmo (nI 0) (nI q) (nI g) (nI t) (nI r) (nI mb) (nI nc) (nI nl) (nI pv) (nI va) (nI n3) (nI ve) (nI ed) (nI se) (nI ci) (nI mr) (nI mt) (nI ld) A8)), (A8 0, .inl (cI, 8, .inl ff)), (A8 1, .inl (cI, 8, .inl fr)), (A8 2, .inl (cI, 8, .inl fto)), (A8 3, .inl (cI, 8, .inl fw)), (A8 4, .inl (cI, 8, .inl fm)), (A8 5, .inl (cI, 4, .inl fp)), (A8 12, .inl (cI, 3, .inl fch)), (A8 13, .inl (cI, 4, .inl fhe)), (A8 14, .inl (cI, 4, .inl fst)), (A8 15, .inl (cI, 16, .inl fta_))] _ _ := B
    refine lv_aload_n F.1 F.2.1 dX8_replay_16 rfl (lv_at hl 0 rfl) ?_
    refine z_get F B 0 rfl (ci := 10) (C := RX8) (T := TX8) (N := 37) rfl iX8_replay_X8 27 (by decide) fX8_replay_86 rfl dX8_replay_17 ?_
    refine z_if_eq (tgt := 34) F (by omega) dX8_replay_20 (by decide) (fun c20 => ?_) (fun c20 => ?_)
    · exact absurd c20 c5
    · refine lv_aload_n F.1 F.2.1 dX8_replay_23 rfl (lv_at hl 0 rfl) ?_
      refine z_callV (wr := []) (rest := []) (As := []) F B (kX8_runs l D cI cZ cG cJ mm 0 q g t r mb nc nl pv va n3 ve ed se ci mr mt ld A8 ff fr fto fw fm rl fhe fst fta_ fp tp fch ch (by omega) (by omega) (by omega) (by omega) (hff) (hfr) (hfto) (hfw) (hfm) (hrb4) (htp) (htp3) (hch)) hl.1 (C := RX8) (T := TX8) (N := 37) (ci := 10) (q0 := 0) gX8_replay_X8_runs rfl 0 yX8_replay_X8_runs rfl rfl rfl [0, 1, 2, 3, 4, 5, 6, 7, 8, 9, 10] [] rfl rfl rfl rfl (by decide) (Nat.le_of_ble_eq_true rfl) (Nat.le_of_ble_eq_true rfl) (Nat.le_of_ble_eq_true rfl) rfl dX8_replay_24 (show 0 + 0 ≤ 0 by omega) (show 0 + 0 ≤ 0 by omega) (fun vv ww H locs hRR B => ?_)
      obtain ⟨r_1, fhe'_2, fst'_3, fta'_4, rfl, rfl, hb_5, hrw_6⟩ := hRR
      have B : zB D (zT cI cZ cG cJ) A s.heap s [(mm, .inr (10, zmo (nI 0) (nI q) (nI g) (nI t) (nI r) (nI mb) (nI nc) (nI nl) (nI pv) (nI va) (nI n3) (nI ve) (nI ed) (nI se) (nI ci) (nI mr) (nI mt) (nI ld) A8)), (A8 0, .inl (cI, 8, .inl ff)), (A8 1, .inl (cI, 8, .inl fr)), (A8 2, .inl (cI, 8, .inl fto)), (A8 3, .inl (cI, 8, .inl fw)), (A8 4, .inl (cI, 8, .inl fm)), (A8 5, .inl (cI, 4, .inl fp)), (A8 12, .inl (cI, 3, .inl fch)), (A8 13, .inl (cI, 4, .inl fhe'_2)), (A8 14, .inl (cI, 4, .inl fst'_3)), (A8 15, .inl (cI, 16, .inl fta'_4))] _ _ := B
      rcases hb_5 with ⟨hr1, hpR⟩ | ⟨hr1, hpR⟩ <;> subst hr1
      · refine W.eq (g2 := F0 m 27 ls [.int 1]) rfl ?_
        refine lv_if_eq (tgt := 34) F.1 F.2.1 dX8_replay_27 (by decide) (fun hq => absurd hq (by decide)) (fun _ => ?_)
        refine lv_iconst (v := (nI 1)) F.1 F.2.1 dX8_replay_30 (by decide) ?_
        refine lv_goto (tgt := 35) F.1 F.2.1 dX8_replay_31 (by decide) ?_
        exact z_zret F hr hlk B (Or.inr rfl) [0, 1, 2, 3, 4, 5, 6, 7, 8, 9, 10] rfl (rfl) dX8_replay_35 (by omega) (by omega) ⟨(nI 1), fhe'_2, fst'_3, fta'_4, 0, rfl, rfl, Or.inl ⟨rfl, ⟨hm1, hpR⟩⟩, (by omega)⟩
      · refine W.eq (g2 := F0 m 27 ls [.int 0]) rfl ?_
        refine lv_if_eq (tgt := 34) F.1 F.2.1 dX8_replay_27 (by decide) (fun _ => ?_) (fun hq => absurd (by decide) hq)
        refine lv_iconst (v := (nI 0)) F.1 F.2.1 dX8_replay_34 (by decide) ?_
        exact z_zret F hr hlk B (Or.inl rfl) [0, 1, 2, 3, 4, 5, 6, 7, 8, 9, 10] rfl (rfl) dX8_replay_35 (by omega) (by omega) ⟨(nI 0), fhe'_2, fst'_3, fta'_4, 0, rfl, rfl, Or.inr ⟨rfl, by first | exact fun q9 => hpR q9.2 | omega⟩, (by omega)⟩
