/-! CONTRACTS of the reference: follows, runs, isTrue -/
theorem zrow_M {f : Nat → Int32} {i t h x : Nat} {T : Nat → Nat} (h1 : ∀ y, y ≤ t → f (4 * i + 4 + y) = nI (T y)) : ∀ y, y ≤ t → upd f (4 * i + 4 + h) (nI x) (4 * (i + 1) + y) = nI (if y = h then x else T y) := by
  intro y hy
  rw [show 4 * (i + 1) + y = 4 * i + 4 + y by omega]
  by_cases e : y = h
  · subst e; rw [pk_us, if_pos rfl]
  · rw [pk_un (by omega), if_neg e]; exact h1 y hy
theorem zrwsM_0 {fhe fst fta : Nat → Int32} {r t : Nat} {rl : Nat → Nat → Nat} {tp ch : Nat → Nat} (htp : ∀ y, y ≤ t → fta y = nI (tp y)) : zrws (upd fhe 0 (nI 0)) (upd fst 0 (nI 0)) (fun j y => fta (4 * j + y)) t (zcf r rl tp ch) 0 := by
  intro j hj
  have e : j = 0 := by omega
  subst e
  refine ⟨pk_us, pk_us, fun y hy => ?_⟩
  show fta (4 * 0 + y) = _
  rw [show 4 * 0 + y = y by omega]
  exact htp y hy
theorem zrwsM_S {fhe fst fta fhe' fst' fta' : Nat → Int32} {r t i : Nat} {rl : Nat → Nat → Nat} {tp ch : Nat → Nat} (ht : t ≤ 3) (h : zrws fhe fst (fun j y => fta (4 * j + y)) t (zcf r rl tp ch) i) (h1 : fhe' (i + 1) = nI (znh r rl (zcf r rl tp ch i).1 (ch i)) ∧ ∀ j, ¬ j = i + 1 → fhe' j = fhe j) (h2 : fst' (i + 1) = nI (znu r rl (zcf r rl tp ch i).2.1 (ch i)) ∧ ∀ j, ¬ j = i + 1 → fst' j = fst j) (h3 : (∀ y, y ≤ t → fta' (4 * (i + 1) + y) = nI (znt r rl (zcf r rl tp ch i).1 (zcf r rl tp ch i).2.2 (ch i) y)) ∧ ∀ j, j < 4 * (i + 1) → fta' j = fta j) : zrws fhe' fst' (fun j y => fta' (4 * j + y)) t (zcf r rl tp ch) (i + 1) := by
  intro j hj
  by_cases e : j = i + 1
  · subst e
    exact ⟨h1.1, h2.1, h3.1⟩
  · obtain ⟨a, b, d⟩ := h j (by omega)
    refine ⟨by rw [h1.2 j e]; exact a, by rw [h2.2 j e]; exact b, fun y hy => ?_⟩
    show fta' (4 * j + y) = _
    rw [h3.2 _ (by omega)]
    exact d y hy
theorem iX8_follows_X8 : ∀ w ∈ u_ws RX8 TX8 37, w ∈ wsX8_follows := fun w h => List.mem_cons_of_mem _ (List.mem_append_right _ h)
theorem fX8_follows_59 : Cond.fieldLink RX8 59 "TourChainModel" "head" "[I" ∈ wsX8_follows := by decide +kernel
theorem fX8_follows_96 : Cond.fieldLink RX8 96 "TourChainModel" "rules" "I" ∈ wsX8_follows := by decide +kernel
theorem fX8_follows_62 : Cond.fieldLink RX8 62 "TourChainModel" "at" "[I" ∈ wsX8_follows := by decide +kernel
theorem fX8_follows_19 : Cond.fieldLink RX8 19 "TourChainModel" "state" "[I" ∈ wsX8_follows := by decide +kernel
theorem fX8_follows_65 : Cond.fieldLink RX8 65 "TourChainModel" "tape" "[I" ∈ wsX8_follows := by decide +kernel
theorem fX8_follows_23 : Cond.fieldLink RX8 23 "TourChainModel" "symbol" "[I" ∈ wsX8_follows := by decide +kernel
theorem fX8_follows_32 : Cond.fieldLink RX8 32 "TourChainModel" "step" "[I" ∈ wsX8_follows := by decide +kernel
theorem fX8_follows_16 : Cond.fieldLink RX8 16 "TourChainModel" "bound" "I" ∈ wsX8_follows := by decide +kernel
theorem yX8_follows_X8_in : yX8_in.cls = RX8 ∧ yX8_in.cls ≠ "java/lang/invoke/MethodHandle" ∧ yX8_in.cls ≠ "java/lang/invoke/VarHandle" ∧ (parseMethodDescriptor yX8_in.desc).map (fun d => d.parameters.length) = some 3 := by decide +kernel
theorem fX8_follows_29 : Cond.fieldLink RX8 29 "TourChainModel" "write" "[I" ∈ wsX8_follows := by decide +kernel
theorem fX8_follows_26 : Cond.fieldLink RX8 26 "TourChainModel" "after" "[I" ∈ wsX8_follows := by decide +kernel
theorem fX8_follows_7 : Cond.fieldLink RX8 7 "TourChainModel" "states" "I" ∈ wsX8_follows := by decide +kernel
set_option maxHeartbeats 4000000 in
set_option maxRecDepth 100000 in
theorem kX8_follows (l : Launch) (D : va_G) (cI cZ cG cJ : ClassId) (mm : Nat) (th : Nat) (q : Nat) (g : Nat) (t : Nat) (r : Nat) (mb : Nat) (nc : Nat) (nl : Nat) (pv : Nat) (va : Nat) (n3 : Nat) (ve : Nat) (ed : Nat) (se : Nat) (ci : Nat) (mr : Nat) (mt : Nat) (ld : Nat) (A8 : Nat → Nat) (ff : Nat → Int32) (fr : Nat → Int32) (fto : Nat → Int32) (fw : Nat → Int32) (fm : Nat → Int32) (rl : Nat → Nat → Nat) (fhe : Nat → Int32) (fst : Nat → Int32) (fta_ : Nat → Int32) (h : Nat) (u : Nat) (cfT : Nat → Nat) (i : Nat) (k : Nat) (ht : t ≤ 3) (hq1 : 1 ≤ q) (hq : q ≤ 3) (hr8 : r ≤ 8) (hi : i < 3) (hk : k ≤ r) (hff : ∀ i, i < r → ff i = nI (rl 0 i)) (hfr : ∀ i, i < r → fr i = nI (rl 1 i)) (hfto : ∀ i, i < r → fto i = nI (rl 2 i)) (hfw : ∀ i, i < r → fw i = nI (rl 3 i)) (hfm : ∀ i, i < r → fm i = nI (rl 4 i) - nI 1 ∧ rl 4 i ≤ 2) (hrb4 : ∀ k, k < r → rl 0 k ≤ 3 ∧ rl 1 k ≤ 3 ∧ rl 2 k ≤ 3 ∧ rl 3 k ≤ 3) (hhe : fhe i = nI h) (hst : fst i = nI u) (hh2 : h ≤ t) (hu2 : u ≤ 3) (htr : ∀ y, y ≤ t → fta_ (4 * i + y) = nI (cfT y)) (htr2 : ∀ y, y ≤ t → cfT y ≤ 3) : zC l yX8_follows wsX8_follows 1 22 0 0 D (zT cI cZ cG cJ) [.ref mm, .int (nI i), .int (nI k)] [(mm, .inr (10, zmo (nI th) (nI q) (nI g) (nI t) (nI r) (nI mb) (nI nc) (nI nl) (nI pv) (nI va) (nI n3) (nI ve) (nI ed) (nI se) (nI ci) (nI mr) (nI mt) (nI ld) A8)), (A8 0, .inl (cI, 8, .inl ff)), (A8 1, .inl (cI, 8, .inl fr)), (A8 2, .inl (cI, 8, .inl fto)), (A8 3, .inl (cI, 8, .inl fw)), (A8 4, .inl (cI, 8, .inl fm)), (A8 13, .inl (cI, 4, .inl fhe)), (A8 14, .inl (cI, 4, .inl fst)), (A8 15, .inl (cI, 16, .inl fta_))] (fun (ov : Option Value) (ow : va_W) => ∃ rb : Int32, ∃ fhe' : Nat → Int32, ∃ fst' : Nat → Int32, ∃ fta' : Nat → Int32, ov = some (.int rb) ∧ ow = [(mm, .inr (10, zmo (nI th) (nI q) (nI g) (nI t) (nI r) (nI mb) (nI nc) (nI nl) (nI pv) (nI va) (nI n3) (nI ve) (nI ed) (nI se) (nI ci) (nI mr) (nI mt) (nI ld) A8)), (A8 0, .inl (cI, 8, .inl ff)), (A8 1, .inl (cI, 8, .inl fr)), (A8 2, .inl (cI, 8, .inl fto)), (A8 3, .inl (cI, 8, .inl fw)), (A8 4, .inl (cI, 8, .inl fm)), (A8 13, .inl (cI, 4, .inl fhe')), (A8 14, .inl (cI, 4, .inl fst')), (A8 15, .inl (cI, 16, .inl fta'))] ∧ ((rb = 1 ∧ (zcan q r t rl h u cfT k)) ∨ (rb = 0 ∧ ¬ (zcan q r t rl h u cfT k))) ∧ (zcan q r t rl h u cfT k → (fhe' (i + 1) = nI (znh r rl h k) ∧ ∀ j, ¬ j = i + 1 → fhe' j = fhe j) ∧ (fst' (i + 1) = nI (znu r rl u k) ∧ ∀ j, ¬ j = i + 1 → fst' j = fst j) ∧ ((∀ y, y ≤ t → fta' (4 * (i + 1) + y) = nI (znt r rl h cfT k y)) ∧ ∀ j, j < 4 * (i + 1) → fta' j = fta_ j))) := by
  refine zC.of (cc := cX8_follows) (maxL := 7) (ret := (some .boolean)) (by decide) rfl (Nat.le_of_ble_eq_true rfl) ?_
  intro p e s m below meth c A ls F hr hlk hnm B hl
  have hl : lv_has ls 7 [(0, .ref mm), (1, .int (nI i)), (2, .int (nI k))] := hl
  refine lv_aload_n F.1 F.2.1 dX8_follows_0 rfl (lv_at hl 0 rfl) ?_
  refine z_get F B 0 rfl (ci := 10) (C := RX8) (T := TX8) (N := 37) rfl iX8_follows_X8 30 (by decide) fX8_follows_59 rfl dX8_follows_1 ?_
  refine lv_iload_n F.1 F.2.1 dX8_follows_4 rfl (lv_at hl 1 rfl) ?_
  refine z_iald F B 6 0 rfl rfl (j := i) (by omega) (by omega) dX8_follows_5 ?_
  refine W.eq (g2 := F0 m 6 ls [.int (nI h)]) (by rw [hhe]) ?_
  refine lv_istore_n (lv' := [(3, .int (nI h)), (0, .ref mm), (1, .int (nI i)), (2, .int (nI k))]) F.1 F.2.1 dX8_follows_6 rfl hl (by decide) rfl (fun ls hl => ?_)
  refine lv_iload_n F.1 F.2.1 dX8_follows_7 rfl (lv_at hl 3 rfl) ?_
  refine lv_aload_n F.1 F.2.1 dX8_follows_8 rfl (lv_at hl 1 rfl) ?_
  refine z_get F B 0 rfl (ci := 10) (C := RX8) (T := TX8) (N := 37) rfl iX8_follows_X8 4 (by decide) fX8_follows_96 rfl dX8_follows_9 ?_
  refine z_icmp_ne (tgt := 19) F (by omega) (by omega) dX8_follows_12 (by decide) (fun c12 => ?_) (fun c12 => ?_)
  · have hb9 := hrb4 k (by omega)
    have hc9 := htr2 h hh2
    have hd2 := (hfm k (by omega)).2
    have htg := pk_sub_toInt (a := h + rl 4 k) (b := 1) (by omega) (by omega)
    have htn := nI_toInt (n := t) (by omega)
    have ht0 : (nI 0).toInt = 0 := nI_toInt (by omega)
    refine lv_iconst (v := (nI 0)) F.1 F.2.1 dX8_follows_19 (by decide) ?_
    refine lv_istore (lv' := [(4, .int (nI 0)), (3, .int (nI h)), (0, .ref mm), (1, .int (nI i)), (2, .int (nI k))]) F.1 F.2.1 dX8_follows_20 hl (by decide) rfl (fun ls hl => ?_)
    refine lv_iload F.1 F.2.1 dX8_follows_22 (lv_at hl 0 rfl) ?_
    refine lv_if_eq (tgt := 50) F.1 F.2.1 dX8_follows_24 (by decide) (fun _ => ?_) (fun hq => absurd (by decide) hq)
    refine lv_iload_n F.1 F.2.1 dX8_follows_50 rfl (lv_at hl 4 rfl) ?_
    refine lv_aload_n F.1 F.2.1 dX8_follows_51 rfl (lv_at hl 2 rfl) ?_
    refine z_get F B 0 rfl (ci := 10) (C := RX8) (T := TX8) (N := 37) rfl iX8_follows_X8 4 (by decide) fX8_follows_96 rfl dX8_follows_52 ?_
    refine z_icmp_ge (tgt := 115) F (by omega) (by omega) dX8_follows_55 (by decide) (fun c55 => ?_) (fun c55 => ?_)
    · refine lv_iconst (v := (nI 0)) F.1 F.2.1 dX8_follows_115 (by decide) ?_
      refine lv_istore (lv' := [(5, .int (nI 0)), (4, .int (nI 0)), (3, .int (nI h)), (0, .ref mm), (1, .int (nI i)), (2, .int (nI k))]) F.1 F.2.1 dX8_follows_116 hl (by decide) rfl (fun ls hl => ?_)
      refine lv_iload F.1 F.2.1 dX8_follows_118 (lv_at hl 0 rfl) ?_
      refine lv_if_ne (tgt := 125) F.1 F.2.1 dX8_follows_120 (by decide) (fun hq => absurd (by decide) hq) (fun _ => ?_)
      refine lv_iconst (v := (nI 0)) F.1 F.2.1 dX8_follows_123 (by decide) ?_
      exact z_zret F hr hlk B (Or.inl rfl) [0, 1, 2, 3, 4, 5, 6, 7, 8] rfl (rfl) dX8_follows_124 (by omega) (by omega) ⟨(nI 0), fhe, fst, fta_, rfl, rfl, Or.inr ⟨rfl, by unfold zcan; omega⟩, (fun q9 => absurd q9 (by unfold zcan; omega))⟩
    · refine lv_aload_n F.1 F.2.1 dX8_follows_58 rfl (lv_at hl 2 rfl) ?_
      refine z_get F B 0 rfl (ci := 10) (C := RX8) (T := TX8) (N := 37) rfl iX8_follows_X8 31 (by decide) fX8_follows_62 rfl dX8_follows_59 ?_
      refine lv_iload_n F.1 F.2.1 dX8_follows_62 rfl (lv_at hl 3 rfl) ?_
      refine z_iald F B 7 0 rfl rfl (j := i) (by omega) (by omega) dX8_follows_63 ?_
      refine W.eq (g2 := F0 m 64 ls [.int (nI u)]) (by rw [hst]) ?_
      refine lv_aload_n F.1 F.2.1 dX8_follows_64 rfl (lv_at hl 2 rfl) ?_
      refine z_get F B 0 rfl (ci := 10) (C := RX8) (T := TX8) (N := 37) rfl iX8_follows_X8 5 (by decide) fX8_follows_19 rfl dX8_follows_65 ?_
      refine lv_iload_n F.1 F.2.1 dX8_follows_68 rfl (lv_at hl 4 rfl) ?_
      refine z_iald F B 1 0 rfl rfl (j := k) (by omega) (by omega) dX8_follows_69 ?_
      refine W.eq (g2 := F0 m 70 ls [.int (nI (rl 0 k)), .int (nI u)]) (by rw [hff k (by omega)]) ?_
      refine z_icmp_ne (tgt := 115) F (by omega) (by omega) dX8_follows_70 (by decide) (fun c70 => ?_) (fun c70 => ?_)
      · refine lv_iconst (v := (nI 0)) F.1 F.2.1 dX8_follows_115 (by decide) ?_
        refine lv_istore (lv' := [(5, .int (nI 0)), (4, .int (nI 0)), (3, .int (nI h)), (0, .ref mm), (1, .int (nI i)), (2, .int (nI k))]) F.1 F.2.1 dX8_follows_116 hl (by decide) rfl (fun ls hl => ?_)
        refine lv_iload F.1 F.2.1 dX8_follows_118 (lv_at hl 0 rfl) ?_
        refine lv_if_ne (tgt := 125) F.1 F.2.1 dX8_follows_120 (by decide) (fun hq => absurd (by decide) hq) (fun _ => ?_)
        refine lv_iconst (v := (nI 0)) F.1 F.2.1 dX8_follows_123 (by decide) ?_
        exact z_zret F hr hlk B (Or.inl rfl) [0, 1, 2, 3, 4, 5, 6, 7, 8] rfl (rfl) dX8_follows_124 (by omega) (by omega) ⟨(nI 0), fhe, fst, fta_, rfl, rfl, Or.inr ⟨rfl, by unfold zcan; omega⟩, (fun q9 => absurd q9 (by unfold zcan; omega))⟩
      · refine lv_aload_n F.1 F.2.1 dX8_follows_73 rfl (lv_at hl 2 rfl) ?_
        refine z_get F B 0 rfl (ci := 10) (C := RX8) (T := TX8) (N := 37) rfl iX8_follows_X8 32 (by decide) fX8_follows_65 rfl dX8_follows_74 ?_
        refine lv_iconst (v := (nI 4)) F.1 F.2.1 dX8_follows_77 (by decide) ?_
        refine lv_iload_n F.1 F.2.1 dX8_follows_78 rfl (lv_at hl 3 rfl) ?_
        refine z_imul F dX8_follows_79 ?_
        refine lv_iload_n F.1 F.2.1 dX8_follows_80 rfl (lv_at hl 1 rfl) ?_
        refine z_iadd F dX8_follows_81 ?_
        refine z_iald F B 8 0 rfl rfl (j := 4 * i + h) (by omega) (by omega) dX8_follows_82 ?_
        refine W.eq (g2 := F0 m 83 ls [.int (nI (cfT h))]) (by rw [htr h hh2]) ?_
        refine lv_aload_n F.1 F.2.1 dX8_follows_83 rfl (lv_at hl 2 rfl) ?_
        refine z_get F B 0 rfl (ci := 10) (C := RX8) (T := TX8) (N := 37) rfl iX8_follows_X8 6 (by decide) fX8_follows_23 rfl dX8_follows_84 ?_
        refine lv_iload_n F.1 F.2.1 dX8_follows_87 rfl (lv_at hl 4 rfl) ?_
        refine z_iald F B 2 0 rfl rfl (j := k) (by omega) (by omega) dX8_follows_88 ?_
        refine W.eq (g2 := F0 m 89 ls [.int (nI (rl 1 k)), .int (nI (cfT h))]) (by rw [hfr k (by omega)]) ?_
        refine z_icmp_ne (tgt := 115) F (by omega) (by omega) dX8_follows_89 (by decide) (fun c89 => ?_) (fun c89 => ?_)
        · refine lv_iconst (v := (nI 0)) F.1 F.2.1 dX8_follows_115 (by decide) ?_
          refine lv_istore (lv' := [(5, .int (nI 0)), (4, .int (nI 0)), (3, .int (nI h)), (0, .ref mm), (1, .int (nI i)), (2, .int (nI k))]) F.1 F.2.1 dX8_follows_116 hl (by decide) rfl (fun ls hl => ?_)
          refine lv_iload F.1 F.2.1 dX8_follows_118 (lv_at hl 0 rfl) ?_
          refine lv_if_ne (tgt := 125) F.1 F.2.1 dX8_follows_120 (by decide) (fun hq => absurd (by decide) hq) (fun _ => ?_)
          refine lv_iconst (v := (nI 0)) F.1 F.2.1 dX8_follows_123 (by decide) ?_
          exact z_zret F hr hlk B (Or.inl rfl) [0, 1, 2, 3, 4, 5, 6, 7, 8] rfl (rfl) dX8_follows_124 (by omega) (by omega) ⟨(nI 0), fhe, fst, fta_, rfl, rfl, Or.inr ⟨rfl, by unfold zcan; omega⟩, (fun q9 => absurd q9 (by unfold zcan; omega))⟩
        · refine lv_iload_n F.1 F.2.1 dX8_follows_92 rfl (lv_at hl 1 rfl) ?_
          refine lv_aload_n F.1 F.2.1 dX8_follows_93 rfl (lv_at hl 2 rfl) ?_
          refine z_get F B 0 rfl (ci := 10) (C := RX8) (T := TX8) (N := 37) rfl iX8_follows_X8 9 (by decide) fX8_follows_32 rfl dX8_follows_94 ?_
          refine lv_iload_n F.1 F.2.1 dX8_follows_97 rfl (lv_at hl 4 rfl) ?_
          refine z_iald F B 5 0 rfl rfl (j := k) (by omega) (by omega) dX8_follows_98 ?_
          refine W.eq (g2 := F0 m 99 ls [.int (nI (rl 4 k) - nI 1), .int (nI h)]) (by rw [(hfm k (by omega)).1]) ?_
          refine lv_iadd F.1 F.2.1 dX8_follows_99 ?_
          refine W.eq (g2 := F0 m 100 ls [.int (nI (h + rl 4 k) - nI 1)]) (by rw [ztgt]) ?_
          refine lv_iconst (v := (nI 0)) F.1 F.2.1 dX8_follows_100 (by decide) ?_
          refine lv_aload_n F.1 F.2.1 dX8_follows_101 rfl (lv_at hl 2 rfl) ?_
          refine z_get F B 0 rfl (ci := 10) (C := RX8) (T := TX8) (N := 37) rfl iX8_follows_X8 3 (by decide) fX8_follows_16 rfl dX8_follows_102 ?_
          refine z_callS (wr := [(mm, .inr (10, zmo (nI th) (nI q) (nI g) (nI t) (nI r) (nI mb) (nI nc) (nI nl) (nI pv) (nI va) (nI n3) (nI ve) (nI ed) (nI se) (nI ci) (nI mr) (nI mt) (nI ld) A8)), (A8 0, .inl (cI, 8, .inl ff)), (A8 1, .inl (cI, 8, .inl fr)), (A8 2, .inl (cI, 8, .inl fto)), (A8 3, .inl (cI, 8, .inl fw)), (A8 4, .inl (cI, 8, .inl fm)), (A8 13, .inl (cI, 4, .inl fhe)), (A8 14, .inl (cI, 4, .inl fst)), (A8 15, .inl (cI, 16, .inl fta_))]) (rest := []) (As := [.int (nI (h + rl 4 k) - nI 1), .int (nI 0), .int (nI t)]) F B (kX8_in l D cI cZ cG cJ (nI (h + rl 4 k) - nI 1) (nI 0) (nI t)) hl.1 gX8_follows_X8_in rfl 3 yX8_follows_X8_in rfl [] [0, 1, 2, 3, 4, 5, 6, 7, 8] rfl rfl rfl rfl (by decide) (Nat.le_of_ble_eq_true rfl) (Nat.le_of_ble_eq_true rfl) (Nat.le_of_ble_eq_true rfl) rfl dX8_follows_105 (show 0 + 0 ≤ 0 by omega) (show 0 + 0 ≤ 0 by omega) (fun vv ww H locs hRR B => ?_)
          obtain ⟨r_1, rfl, rfl, hb_2⟩ := hRR
          have B : zB D (zT cI cZ cG cJ) A s.heap s [(mm, .inr (10, zmo (nI th) (nI q) (nI g) (nI t) (nI r) (nI mb) (nI nc) (nI nl) (nI pv) (nI va) (nI n3) (nI ve) (nI ed) (nI se) (nI ci) (nI mr) (nI mt) (nI ld) A8)), (A8 0, .inl (cI, 8, .inl ff)), (A8 1, .inl (cI, 8, .inl fr)), (A8 2, .inl (cI, 8, .inl fto)), (A8 3, .inl (cI, 8, .inl fw)), (A8 4, .inl (cI, 8, .inl fm)), (A8 13, .inl (cI, 4, .inl fhe)), (A8 14, .inl (cI, 4, .inl fst)), (A8 15, .inl (cI, 16, .inl fta_))] _ _ := B
          rcases hb_2 with ⟨hr1, hpT⟩ | ⟨hr1, hpT⟩ <;> subst hr1
          · refine W.eq (g2 := F0 m 108 ls [.int 1]) rfl ?_
            simp only [htg, htn, ht0] at hpT
            refine lv_if_eq (tgt := 115) F.1 F.2.1 dX8_follows_108 (by decide) (fun hq => absurd hq (by decide)) (fun _ => ?_)
            refine lv_iconst (v := (nI 1)) F.1 F.2.1 dX8_follows_111 (by decide) ?_
            refine lv_goto (tgt := 116) F.1 F.2.1 dX8_follows_112 (by decide) ?_
            refine lv_istore (lv' := [(5, .int (nI 1)), (4, .int (nI 0)), (3, .int (nI h)), (0, .ref mm), (1, .int (nI i)), (2, .int (nI k))]) F.1 F.2.1 dX8_follows_116 hl (by decide) rfl (fun ls hl => ?_)
            refine lv_iload F.1 F.2.1 dX8_follows_118 (lv_at hl 0 rfl) ?_
            refine lv_if_ne (tgt := 125) F.1 F.2.1 dX8_follows_120 (by decide) (fun _ => ?_) (fun hq => absurd hq (by decide))
            refine lv_iconst (v := (nI 0)) F.1 F.2.1 dX8_follows_125 (by decide) ?_
            refine lv_istore (lv' := [(6, .int (nI 0)), (5, .int (nI 1)), (4, .int (nI 0)), (3, .int (nI h)), (0, .ref mm), (1, .int (nI i)), (2, .int (nI k))]) F.1 F.2.1 dX8_follows_126 hl (by decide) rfl (fun ls hl => ?_)
            have loop128 : ∀ (fuel : Nat) (c1 : Nat) (rs : Nat) (fta1 : Nat → Int32), t + 1 - c1 < fuel → (c1 ≤ t + 1) → (zcan q r t rl h u cfT k) → ((rs = 1 ∧ k = r) ∨ (rs = 0 ∧ ¬ k = r)) → (∀ y, y < c1 → fta1 (4 * i + 4 + y) = nI (cfT y)) → (∀ j, j < 4 * i + 4 → fta1 j = fta_ j) → ∀ (H : Heap) (locs : List Loc) (ls : Array Slot), zB D (zT cI cZ cG cJ) A s.heap s [(mm, .inr (10, zmo (nI th) (nI q) (nI g) (nI t) (nI r) (nI mb) (nI nc) (nI nl) (nI pv) (nI va) (nI n3) (nI ve) (nI ed) (nI se) (nI ci) (nI mr) (nI mt) (nI ld) A8)), (A8 0, .inl (cI, 8, .inl ff)), (A8 1, .inl (cI, 8, .inl fr)), (A8 2, .inl (cI, 8, .inl fto)), (A8 3, .inl (cI, 8, .inl fw)), (A8 4, .inl (cI, 8, .inl fm)), (A8 13, .inl (cI, 4, .inl fhe)), (A8 14, .inl (cI, 4, .inl fst)), (A8 15, .inl (cI, 16, .inl fta1))] H locs → lv_has ls 7 [(0, .ref mm), (1, .int (nI i)), (2, .int (nI k)), (3, .int (nI h)), (4, .int (nI rs)), (6, .int (nI c1))] → W p l e { frames := 1, cells := 0, slots := 0, locals := 22 } s m [.ref mm, .int (nI i), .int (nI k)].toArray below meth c H locs 0 0 (zQ below [.ref mm, .int (nI i), .int (nI k)].toArray s D (zT cI cZ cG cJ) A (fun (ov : Option Value) (ow : va_W) => ∃ rb : Int32, ∃ fhe' : Nat → Int32, ∃ fst' : Nat → Int32, ∃ fta' : Nat → Int32, ov = some (.int rb) ∧ ow = [(mm, .inr (10, zmo (nI th) (nI q) (nI g) (nI t) (nI r) (nI mb) (nI nc) (nI nl) (nI pv) (nI va) (nI n3) (nI ve) (nI ed) (nI se) (nI ci) (nI mr) (nI mt) (nI ld) A8)), (A8 0, .inl (cI, 8, .inl ff)), (A8 1, .inl (cI, 8, .inl fr)), (A8 2, .inl (cI, 8, .inl fto)), (A8 3, .inl (cI, 8, .inl fw)), (A8 4, .inl (cI, 8, .inl fm)), (A8 13, .inl (cI, 4, .inl fhe')), (A8 14, .inl (cI, 4, .inl fst')), (A8 15, .inl (cI, 16, .inl fta'))] ∧ ((rb = 1 ∧ (zcan q r t rl h u cfT k)) ∨ (rb = 0 ∧ ¬ (zcan q r t rl h u cfT k))) ∧ (zcan q r t rl h u cfT k → (fhe' (i + 1) = nI (znh r rl h k) ∧ ∀ j, ¬ j = i + 1 → fhe' j = fhe j) ∧ (fst' (i + 1) = nI (znu r rl u k) ∧ ∀ j, ¬ j = i + 1 → fst' j = fst j) ∧ ((∀ y, y ≤ t → fta' (4 * (i + 1) + y) = nI (znt r rl h cfT k y)) ∧ ∀ j, j < 4 * (i + 1) → fta' j = fta_ j))) 0 0) (F0 m 128 ls []) := by
              intro fuel
              induction fuel with
              | zero => intro c1 rs fta1 hmz; exact absurd hmz (Nat.not_lt_zero _)
              | succ fuel ih =>
                intro c1 rs fta1 hm hc1 hcan hrs ht1 ht2 H locs ls B hl
                have ih128 := ih
                refine lv_iload F.1 F.2.1 dX8_follows_128 (lv_at hl 5 rfl) ?_
                refine lv_aload_n F.1 F.2.1 dX8_follows_130 rfl (lv_at hl 0 rfl) ?_
                refine z_get F B 0 rfl (ci := 10) (C := RX8) (T := TX8) (N := 37) rfl iX8_follows_X8 3 (by decide) fX8_follows_16 rfl dX8_follows_131 ?_
                refine z_icmp_gt (tgt := 167) F (by omega) (by omega) dX8_follows_134 (by decide) (fun c134 => ?_) (fun c134 => ?_)
                · have hct : c1 = t + 1 := by omega
                  refine lv_iload F.1 F.2.1 dX8_follows_167 (lv_at hl 4 rfl) ?_
                  refine z_if_ne (tgt := 190) F (by omega) dX8_follows_169 (by decide) (fun c169 => ?_) (fun c169 => ?_)
                  · have hr9 : rs = 1 := by omega
                    subst hr9
                    have hkr : k = r := by omega
                    refine lv_aload_n F.1 F.2.1 dX8_follows_190 rfl (lv_at hl 0 rfl) ?_
                    refine z_get F B 0 rfl (ci := 10) (C := RX8) (T := TX8) (N := 37) rfl iX8_follows_X8 30 (by decide) fX8_follows_59 rfl dX8_follows_191 ?_
                    refine lv_iload_n F.1 F.2.1 dX8_follows_194 rfl (lv_at hl 1 rfl) ?_
                    refine lv_iconst (v := (nI 1)) F.1 F.2.1 dX8_follows_195 (by decide) ?_
                    refine z_iadd F dX8_follows_196 ?_
                    refine lv_iload F.1 F.2.1 dX8_follows_197 (lv_at hl 4 rfl) ?_
                    refine lv_if_eq (tgt := 206) F.1 F.2.1 dX8_follows_199 (by decide) (fun hq => absurd hq (by decide)) (fun _ => ?_)
                    refine lv_iload_n F.1 F.2.1 dX8_follows_202 rfl (lv_at hl 3 rfl) ?_
                    refine lv_goto (tgt := 214) F.1 F.2.1 dX8_follows_203 (by decide) ?_
                    refine z_iast F B 6 0 rfl rfl (j := i + 1) (by omega) (by omega) dX8_follows_214 (fun H locs B => ?_)
                    have B : zB D (zT cI cZ cG cJ) A s.heap s [(mm, .inr (10, zmo (nI th) (nI q) (nI g) (nI t) (nI r) (nI mb) (nI nc) (nI nl) (nI pv) (nI va) (nI n3) (nI ve) (nI ed) (nI se) (nI ci) (nI mr) (nI mt) (nI ld) A8)), (A8 0, .inl (cI, 8, .inl ff)), (A8 1, .inl (cI, 8, .inl fr)), (A8 2, .inl (cI, 8, .inl fto)), (A8 3, .inl (cI, 8, .inl fw)), (A8 4, .inl (cI, 8, .inl fm)), (A8 13, .inl (cI, 4, .inl (upd fhe (i + 1) (nI h)))), (A8 14, .inl (cI, 4, .inl fst)), (A8 15, .inl (cI, 16, .inl fta1))] _ _ := B
                    refine lv_aload_n F.1 F.2.1 dX8_follows_215 rfl (lv_at hl 0 rfl) ?_
                    refine z_get F B 0 rfl (ci := 10) (C := RX8) (T := TX8) (N := 37) rfl iX8_follows_X8 31 (by decide) fX8_follows_62 rfl dX8_follows_216 ?_
                    refine lv_iload_n F.1 F.2.1 dX8_follows_219 rfl (lv_at hl 1 rfl) ?_
                    refine lv_iconst (v := (nI 1)) F.1 F.2.1 dX8_follows_220 (by decide) ?_
                    refine z_iadd F dX8_follows_221 ?_
                    refine lv_iload F.1 F.2.1 dX8_follows_222 (lv_at hl 4 rfl) ?_
                    refine lv_if_eq (tgt := 236) F.1 F.2.1 dX8_follows_224 (by decide) (fun hq => absurd hq (by decide)) (fun _ => ?_)
                    refine lv_aload_n F.1 F.2.1 dX8_follows_227 rfl (lv_at hl 0 rfl) ?_
                    refine z_get F B 0 rfl (ci := 10) (C := RX8) (T := TX8) (N := 37) rfl iX8_follows_X8 31 (by decide) fX8_follows_62 rfl dX8_follows_228 ?_
                    refine lv_iload_n F.1 F.2.1 dX8_follows_231 rfl (lv_at hl 1 rfl) ?_
                    refine z_iald F B 7 0 rfl rfl (j := i) (by omega) (by omega) dX8_follows_232 ?_
                    refine W.eq (g2 := F0 m 233 ls [.int (nI u), .int (nI (i + 1)), .ref (A8 14)]) (by rw [hst]) ?_
                    refine lv_goto (tgt := 242) F.1 F.2.1 dX8_follows_233 (by decide) ?_
                    refine z_iast F B 7 0 rfl rfl (j := i + 1) (by omega) (by omega) dX8_follows_242 (fun H locs B => ?_)
                    have B : zB D (zT cI cZ cG cJ) A s.heap s [(mm, .inr (10, zmo (nI th) (nI q) (nI g) (nI t) (nI r) (nI mb) (nI nc) (nI nl) (nI pv) (nI va) (nI n3) (nI ve) (nI ed) (nI se) (nI ci) (nI mr) (nI mt) (nI ld) A8)), (A8 0, .inl (cI, 8, .inl ff)), (A8 1, .inl (cI, 8, .inl fr)), (A8 2, .inl (cI, 8, .inl fto)), (A8 3, .inl (cI, 8, .inl fw)), (A8 4, .inl (cI, 8, .inl fm)), (A8 13, .inl (cI, 4, .inl (upd fhe (i + 1) (nI h)))), (A8 14, .inl (cI, 4, .inl (upd fst (i + 1) (nI u)))), (A8 15, .inl (cI, 16, .inl fta1))] _ _ := B
                    refine lv_iconst (v := (nI 1)) F.1 F.2.1 dX8_follows_243 (by decide) ?_
                    exact z_zret F hr hlk B (Or.inr rfl) [0, 1, 2, 3, 4, 5, 6, 7, 8] rfl (rfl) dX8_follows_244 (by omega) (by omega) ⟨(nI 1), (upd fhe (i + 1) (nI h)), (upd fst (i + 1) (nI u)), fta1, rfl, rfl, Or.inl ⟨rfl, hcan⟩, (fun _ => ⟨⟨by rw [pk_us, znh_r hkr], fun j hj => pk_un hj⟩, ⟨by rw [pk_us, znu_r hkr], fun j hj => pk_un hj⟩, ⟨fun y hy => by rw [znt_r hkr]; exact by rw [show 4 * (i + 1) + y = 4 * i + 4 + y by omega]; exact ht1 y (by omega), fun j hj => ht2 j (by omega)⟩⟩)⟩
                  · have hr9 : rs = 0 := by omega
                    subst hr9
                    have hkr : ¬ k = r := by omega
                    have hge := zcan_ge hcan hkr
                    refine lv_aload_n F.1 F.2.1 dX8_follows_172 rfl (lv_at hl 0 rfl) ?_
                    refine z_get F B 0 rfl (ci := 10) (C := RX8) (T := TX8) (N := 37) rfl iX8_follows_X8 32 (by decide) fX8_follows_65 rfl dX8_follows_173 ?_
                    refine lv_iconst (v := (nI 4)) F.1 F.2.1 dX8_follows_176 (by decide) ?_
                    refine lv_iload_n F.1 F.2.1 dX8_follows_177 rfl (lv_at hl 1 rfl) ?_
                    refine z_imul F dX8_follows_178 ?_
                    refine lv_iconst (v := (nI 4)) F.1 F.2.1 dX8_follows_179 (by decide) ?_
                    refine z_iadd F dX8_follows_180 ?_
                    refine lv_iload_n F.1 F.2.1 dX8_follows_181 rfl (lv_at hl 3 rfl) ?_
                    refine z_iadd F dX8_follows_182 ?_
                    refine lv_aload_n F.1 F.2.1 dX8_follows_183 rfl (lv_at hl 0 rfl) ?_
                    refine z_get F B 0 rfl (ci := 10) (C := RX8) (T := TX8) (N := 37) rfl iX8_follows_X8 8 (by decide) fX8_follows_29 rfl dX8_follows_184 ?_
                    refine lv_iload_n F.1 F.2.1 dX8_follows_187 rfl (lv_at hl 2 rfl) ?_
                    refine z_iald F B 4 0 rfl rfl (j := k) (by omega) (by omega) dX8_follows_188 ?_
                    refine W.eq (g2 := F0 m 189 ls [.int (nI (rl 3 k)), .int (nI (4 * i + 4 + h)), .ref (A8 15)]) (by rw [hfw k (by omega)]) ?_
                    refine z_iast F B 8 0 rfl rfl (j := 4 * i + 4 + h) (by omega) (by omega) dX8_follows_189 (fun H locs B => ?_)
                    have B : zB D (zT cI cZ cG cJ) A s.heap s [(mm, .inr (10, zmo (nI th) (nI q) (nI g) (nI t) (nI r) (nI mb) (nI nc) (nI nl) (nI pv) (nI va) (nI n3) (nI ve) (nI ed) (nI se) (nI ci) (nI mr) (nI mt) (nI ld) A8)), (A8 0, .inl (cI, 8, .inl ff)), (A8 1, .inl (cI, 8, .inl fr)), (A8 2, .inl (cI, 8, .inl fto)), (A8 3, .inl (cI, 8, .inl fw)), (A8 4, .inl (cI, 8, .inl fm)), (A8 13, .inl (cI, 4, .inl fhe)), (A8 14, .inl (cI, 4, .inl fst)), (A8 15, .inl (cI, 16, .inl (upd fta1 (4 * i + 4 + h) (nI (rl 3 k)))))] _ _ := B
                    refine lv_aload_n F.1 F.2.1 dX8_follows_190 rfl (lv_at hl 0 rfl) ?_
                    refine z_get F B 0 rfl (ci := 10) (C := RX8) (T := TX8) (N := 37) rfl iX8_follows_X8 30 (by decide) fX8_follows_59 rfl dX8_follows_191 ?_
                    refine lv_iload_n F.1 F.2.1 dX8_follows_194 rfl (lv_at hl 1 rfl) ?_
                    refine lv_iconst (v := (nI 1)) F.1 F.2.1 dX8_follows_195 (by decide) ?_
                    refine z_iadd F dX8_follows_196 ?_
                    refine lv_iload F.1 F.2.1 dX8_follows_197 (lv_at hl 4 rfl) ?_
                    refine lv_if_eq (tgt := 206) F.1 F.2.1 dX8_follows_199 (by decide) (fun _ => ?_) (fun hq => absurd (by decide) hq)
                    refine lv_iload_n F.1 F.2.1 dX8_follows_206 rfl (lv_at hl 3 rfl) ?_
                    refine lv_aload_n F.1 F.2.1 dX8_follows_207 rfl (lv_at hl 0 rfl) ?_
                    refine z_get F B 0 rfl (ci := 10) (C := RX8) (T := TX8) (N := 37) rfl iX8_follows_X8 9 (by decide) fX8_follows_32 rfl dX8_follows_208 ?_
                    refine lv_iload_n F.1 F.2.1 dX8_follows_211 rfl (lv_at hl 2 rfl) ?_
                    refine z_iald F B 5 0 rfl rfl (j := k) (by omega) (by omega) dX8_follows_212 ?_
                    refine W.eq (g2 := F0 m 213 ls [.int (nI (rl 4 k) - nI 1), .int (nI h), .int (nI (i + 1)), .ref (A8 13)]) (by rw [(hfm k (by omega)).1]) ?_
                    refine lv_iadd F.1 F.2.1 dX8_follows_213 ?_
                    refine W.eq (g2 := F0 m 214 ls [.int (nI (h + rl 4 k - 1)), .int (nI (i + 1)), .ref (A8 13)]) (by rw [ztgt, pk_sub hge]) ?_
                    refine z_iast F B 6 0 rfl rfl (j := i + 1) (by omega) (by omega) dX8_follows_214 (fun H locs B => ?_)
                    have B : zB D (zT cI cZ cG cJ) A s.heap s [(mm, .inr (10, zmo (nI th) (nI q) (nI g) (nI t) (nI r) (nI mb) (nI nc) (nI nl) (nI pv) (nI va) (nI n3) (nI ve) (nI ed) (nI se) (nI ci) (nI mr) (nI mt) (nI ld) A8)), (A8 0, .inl (cI, 8, .inl ff)), (A8 1, .inl (cI, 8, .inl fr)), (A8 2, .inl (cI, 8, .inl fto)), (A8 3, .inl (cI, 8, .inl fw)), (A8 4, .inl (cI, 8, .inl fm)), (A8 13, .inl (cI, 4, .inl (upd fhe (i + 1) (nI (h + rl 4 k - 1))))), (A8 14, .inl (cI, 4, .inl fst)), (A8 15, .inl (cI, 16, .inl (upd fta1 (4 * i + 4 + h) (nI (rl 3 k)))))] _ _ := B
                    refine lv_aload_n F.1 F.2.1 dX8_follows_215 rfl (lv_at hl 0 rfl) ?_
                    refine z_get F B 0 rfl (ci := 10) (C := RX8) (T := TX8) (N := 37) rfl iX8_follows_X8 31 (by decide) fX8_follows_62 rfl dX8_follows_216 ?_
                    refine lv_iload_n F.1 F.2.1 dX8_follows_219 rfl (lv_at hl 1 rfl) ?_
                    refine lv_iconst (v := (nI 1)) F.1 F.2.1 dX8_follows_220 (by decide) ?_
                    refine z_iadd F dX8_follows_221 ?_
                    refine lv_iload F.1 F.2.1 dX8_follows_222 (lv_at hl 4 rfl) ?_
                    refine lv_if_eq (tgt := 236) F.1 F.2.1 dX8_follows_224 (by decide) (fun _ => ?_) (fun hq => absurd (by decide) hq)
                    refine lv_aload_n F.1 F.2.1 dX8_follows_236 rfl (lv_at hl 0 rfl) ?_
                    refine z_get F B 0 rfl (ci := 10) (C := RX8) (T := TX8) (N := 37) rfl iX8_follows_X8 7 (by decide) fX8_follows_26 rfl dX8_follows_237 ?_
                    refine lv_iload_n F.1 F.2.1 dX8_follows_240 rfl (lv_at hl 2 rfl) ?_
                    refine z_iald F B 3 0 rfl rfl (j := k) (by omega) (by omega) dX8_follows_241 ?_
                    refine W.eq (g2 := F0 m 242 ls [.int (nI (rl 2 k)), .int (nI (i + 1)), .ref (A8 14)]) (by rw [hfto k (by omega)]) ?_
                    refine z_iast F B 7 0 rfl rfl (j := i + 1) (by omega) (by omega) dX8_follows_242 (fun H locs B => ?_)
                    have B : zB D (zT cI cZ cG cJ) A s.heap s [(mm, .inr (10, zmo (nI th) (nI q) (nI g) (nI t) (nI r) (nI mb) (nI nc) (nI nl) (nI pv) (nI va) (nI n3) (nI ve) (nI ed) (nI se) (nI ci) (nI mr) (nI mt) (nI ld) A8)), (A8 0, .inl (cI, 8, .inl ff)), (A8 1, .inl (cI, 8, .inl fr)), (A8 2, .inl (cI, 8, .inl fto)), (A8 3, .inl (cI, 8, .inl fw)), (A8 4, .inl (cI, 8, .inl fm)), (A8 13, .inl (cI, 4, .inl (upd fhe (i + 1) (nI (h + rl 4 k - 1))))), (A8 14, .inl (cI, 4, .inl (upd fst (i + 1) (nI (rl 2 k))))), (A8 15, .inl (cI, 16, .inl (upd fta1 (4 * i + 4 + h) (nI (rl 3 k)))))] _ _ := B
                    refine lv_iconst (v := (nI 1)) F.1 F.2.1 dX8_follows_243 (by decide) ?_
                    exact z_zret F hr hlk B (Or.inr rfl) [0, 1, 2, 3, 4, 5, 6, 7, 8] rfl (rfl) dX8_follows_244 (by omega) (by omega) ⟨(nI 1), (upd fhe (i + 1) (nI (h + rl 4 k - 1))), (upd fst (i + 1) (nI (rl 2 k))), (upd fta1 (4 * i + 4 + h) (nI (rl 3 k))), rfl, rfl, Or.inl ⟨rfl, hcan⟩, (fun _ => ⟨⟨by rw [pk_us, znh_n hkr], fun j hj => pk_un hj⟩, ⟨by rw [pk_us, znu_n hkr], fun j hj => pk_un hj⟩, ⟨fun y hy => by rw [znt_n hkr]; exact zrow_M (fun y hy => ht1 y (by omega)) y hy, fun j hj => by rw [pk_un (by omega)]; exact ht2 j (by omega)⟩⟩)⟩
                · refine lv_aload_n F.1 F.2.1 dX8_follows_137 rfl (lv_at hl 0 rfl) ?_
                  refine z_get F B 0 rfl (ci := 10) (C := RX8) (T := TX8) (N := 37) rfl iX8_follows_X8 32 (by decide) fX8_follows_65 rfl dX8_follows_138 ?_
                  refine lv_iconst (v := (nI 4)) F.1 F.2.1 dX8_follows_141 (by decide) ?_
                  refine lv_iload_n F.1 F.2.1 dX8_follows_142 rfl (lv_at hl 1 rfl) ?_
                  refine z_imul F dX8_follows_143 ?_
                  refine lv_iconst (v := (nI 4)) F.1 F.2.1 dX8_follows_144 (by decide) ?_
                  refine z_iadd F dX8_follows_145 ?_
                  refine lv_iload F.1 F.2.1 dX8_follows_146 (lv_at hl 5 rfl) ?_
                  refine z_iadd F dX8_follows_148 ?_
                  refine lv_aload_n F.1 F.2.1 dX8_follows_149 rfl (lv_at hl 0 rfl) ?_
                  refine z_get F B 0 rfl (ci := 10) (C := RX8) (T := TX8) (N := 37) rfl iX8_follows_X8 32 (by decide) fX8_follows_65 rfl dX8_follows_150 ?_
                  refine lv_iconst (v := (nI 4)) F.1 F.2.1 dX8_follows_153 (by decide) ?_
                  refine lv_iload_n F.1 F.2.1 dX8_follows_154 rfl (lv_at hl 1 rfl) ?_
                  refine z_imul F dX8_follows_155 ?_
                  refine lv_iload F.1 F.2.1 dX8_follows_156 (lv_at hl 5 rfl) ?_
                  refine z_iadd F dX8_follows_158 ?_
                  refine z_iald F B 8 0 rfl rfl (j := 4 * i + c1) (by omega) (by omega) dX8_follows_159 ?_
                  refine W.eq (g2 := F0 m 160 ls [.int (nI (cfT c1)), .int (nI (4 * i + 4 + c1)), .ref (A8 15)]) (by rw [ht2 (4 * i + c1) (by omega), htr c1 (by omega)]) ?_
                  refine z_iast F B 8 0 rfl rfl (j := 4 * i + 4 + c1) (by omega) (by omega) dX8_follows_160 (fun H locs B => ?_)
                  have B : zB D (zT cI cZ cG cJ) A s.heap s [(mm, .inr (10, zmo (nI th) (nI q) (nI g) (nI t) (nI r) (nI mb) (nI nc) (nI nl) (nI pv) (nI va) (nI n3) (nI ve) (nI ed) (nI se) (nI ci) (nI mr) (nI mt) (nI ld) A8)), (A8 0, .inl (cI, 8, .inl ff)), (A8 1, .inl (cI, 8, .inl fr)), (A8 2, .inl (cI, 8, .inl fto)), (A8 3, .inl (cI, 8, .inl fw)), (A8 4, .inl (cI, 8, .inl fm)), (A8 13, .inl (cI, 4, .inl fhe)), (A8 14, .inl (cI, 4, .inl fst)), (A8 15, .inl (cI, 16, .inl (upd fta1 (4 * i + 4 + c1) (nI (cfT c1)))))] _ _ := B
                  refine lv_iinc (v := (nI (c1 + 1))) (lv' := [(6, .int (nI (c1 + 1))), (0, .ref mm), (1, .int (nI i)), (2, .int (nI k)), (3, .int (nI h)), (4, .int (nI rs))]) F.1 F.2.1 dX8_follows_161 hl (k := 5) rfl (by rw [show Int32.ofInt 1 = nI 1 from rfl, nI_add]) (by decide) rfl (fun ls hl => ?_)
                  refine lv_goto (tgt := 128) F.1 F.2.1 dX8_follows_164 (by decide) ?_
                  exact ih128 (c1 + 1) rs (upd fta1 (4 * i + 4 + c1) (nI (cfT c1))) (by first | omega | (simp only [] at *; omega)) (by omega) (hcan) (by omega) (fun y hy => by by_cases e9 : y = c1; subst e9; exact pk_us; rw [pk_un (by omega)]; exact ht1 y (by omega)) (fun j hj => by rw [pk_un (by omega)]; exact ht2 j hj) _ _ _ (B.sub [0, 1, 2, 3, 4, 5, 6, 7, 8] rfl (rfl)) (lv_sub hl [1, 2, 3, 4, 5, 0] (rfl))
            exact loop128 (t + 1 - 0 + 1) 0 0 fta_ (Nat.lt_succ_self _) (by omega) (by unfold zcan; omega) (by omega) (fun y hy => absurd hy (Nat.not_lt_zero _)) (fun j hj => rfl) _ _ _ (B.sub [0, 1, 2, 3, 4, 5, 6, 7, 8] rfl (rfl)) (lv_sub hl [4, 5, 6, 3, 2, 0] (rfl))
          · refine W.eq (g2 := F0 m 108 ls [.int 0]) rfl ?_
            simp only [htg, htn, ht0] at hpT
            refine lv_if_eq (tgt := 115) F.1 F.2.1 dX8_follows_108 (by decide) (fun _ => ?_) (fun hq => absurd (by decide) hq)
            refine lv_iconst (v := (nI 0)) F.1 F.2.1 dX8_follows_115 (by decide) ?_
            refine lv_istore (lv' := [(5, .int (nI 0)), (4, .int (nI 0)), (3, .int (nI h)), (0, .ref mm), (1, .int (nI i)), (2, .int (nI k))]) F.1 F.2.1 dX8_follows_116 hl (by decide) rfl (fun ls hl => ?_)
            refine lv_iload F.1 F.2.1 dX8_follows_118 (lv_at hl 0 rfl) ?_
            refine lv_if_ne (tgt := 125) F.1 F.2.1 dX8_follows_120 (by decide) (fun hq => absurd (by decide) hq) (fun _ => ?_)
            refine lv_iconst (v := (nI 0)) F.1 F.2.1 dX8_follows_123 (by decide) ?_
            exact z_zret F hr hlk B (Or.inl rfl) [0, 1, 2, 3, 4, 5, 6, 7, 8] rfl (rfl) dX8_follows_124 (by omega) (by omega) ⟨(nI 0), fhe, fst, fta_, rfl, rfl, Or.inr ⟨rfl, by unfold zcan; omega⟩, (fun q9 => absurd q9 (by unfold zcan; omega))⟩
  · refine lv_iconst (v := (nI 1)) F.1 F.2.1 dX8_follows_15 (by decide) ?_
    refine lv_goto (tgt := 20) F.1 F.2.1 dX8_follows_16 (by decide) ?_
    refine lv_istore (lv' := [(4, .int (nI 1)), (3, .int (nI h)), (0, .ref mm), (1, .int (nI i)), (2, .int (nI k))]) F.1 F.2.1 dX8_follows_20 hl (by decide) rfl (fun ls hl => ?_)
    refine lv_iload F.1 F.2.1 dX8_follows_22 (lv_at hl 0 rfl) ?_
    refine lv_if_eq (tgt := 50) F.1 F.2.1 dX8_follows_24 (by decide) (fun hq => absurd hq (by decide)) (fun _ => ?_)
    refine lv_aload_n F.1 F.2.1 dX8_follows_27 rfl (lv_at hl 2 rfl) ?_
    refine z_get F B 0 rfl (ci := 10) (C := RX8) (T := TX8) (N := 37) rfl iX8_follows_X8 31 (by decide) fX8_follows_62 rfl dX8_follows_28 ?_
    refine lv_iload_n F.1 F.2.1 dX8_follows_31 rfl (lv_at hl 3 rfl) ?_
    refine z_iald F B 7 0 rfl rfl (j := i) (by omega) (by omega) dX8_follows_32 ?_
    refine W.eq (g2 := F0 m 33 ls [.int (nI u)]) (by rw [hst]) ?_
    refine lv_aload_n F.1 F.2.1 dX8_follows_33 rfl (lv_at hl 2 rfl) ?_
    refine z_get F B 0 rfl (ci := 10) (C := RX8) (T := TX8) (N := 37) rfl iX8_follows_X8 1 (by decide) fX8_follows_7 rfl dX8_follows_34 ?_
    refine lv_iconst (v := (nI 1)) F.1 F.2.1 dX8_follows_37 (by decide) ?_
    refine z_isub F (by omega) dX8_follows_38 ?_
    refine z_icmp_ne (tgt := 46) F (by omega) (by omega) dX8_follows_39 (by decide) (fun c39 => ?_) (fun c39 => ?_)
    · refine lv_iconst (v := (nI 0)) F.1 F.2.1 dX8_follows_46 (by decide) ?_
      refine lv_goto (tgt := 116) F.1 F.2.1 dX8_follows_47 (by decide) ?_
      refine lv_istore (lv' := [(5, .int (nI 0)), (4, .int (nI 1)), (3, .int (nI h)), (0, .ref mm), (1, .int (nI i)), (2, .int (nI k))]) F.1 F.2.1 dX8_follows_116 hl (by decide) rfl (fun ls hl => ?_)
      refine lv_iload F.1 F.2.1 dX8_follows_118 (lv_at hl 0 rfl) ?_
      refine lv_if_ne (tgt := 125) F.1 F.2.1 dX8_follows_120 (by decide) (fun hq => absurd (by decide) hq) (fun _ => ?_)
      refine lv_iconst (v := (nI 0)) F.1 F.2.1 dX8_follows_123 (by decide) ?_
      exact z_zret F hr hlk B (Or.inl rfl) [0, 1, 2, 3, 4, 5, 6, 7, 8] rfl (rfl) dX8_follows_124 (by omega) (by omega) ⟨(nI 0), fhe, fst, fta_, rfl, rfl, Or.inr ⟨rfl, by unfold zcan; omega⟩, (fun q9 => absurd q9 (by unfold zcan; omega))⟩
    · refine lv_iconst (v := (nI 1)) F.1 F.2.1 dX8_follows_42 (by decide) ?_
      refine lv_goto (tgt := 116) F.1 F.2.1 dX8_follows_43 (by decide) ?_
      refine lv_istore (lv' := [(5, .int (nI 1)), (4, .int (nI 1)), (3, .int (nI h)), (0, .ref mm), (1, .int (nI i)), (2, .int (nI k))]) F.1 F.2.1 dX8_follows_116 hl (by decide) rfl (fun ls hl => ?_)
      refine lv_iload F.1 F.2.1 dX8_follows_118 (lv_at hl 0 rfl) ?_
      refine lv_if_ne (tgt := 125) F.1 F.2.1 dX8_follows_120 (by decide) (fun _ => ?_) (fun hq => absurd hq (by decide))
      refine lv_iconst (v := (nI 0)) F.1 F.2.1 dX8_follows_125 (by decide) ?_
      refine lv_istore (lv' := [(6, .int (nI 0)), (5, .int (nI 1)), (4, .int (nI 1)), (3, .int (nI h)), (0, .ref mm), (1, .int (nI i)), (2, .int (nI k))]) F.1 F.2.1 dX8_follows_126 hl (by decide) rfl (fun ls hl => ?_)
      have loop128 : ∀ (fuel : Nat) (c1 : Nat) (rs : Nat) (fta1 : Nat → Int32), t + 1 - c1 < fuel → (c1 ≤ t + 1) → (zcan q r t rl h u cfT k) → ((rs = 1 ∧ k = r) ∨ (rs = 0 ∧ ¬ k = r)) → (∀ y, y < c1 → fta1 (4 * i + 4 + y) = nI (cfT y)) → (∀ j, j < 4 * i + 4 → fta1 j = fta_ j) → ∀ (H : Heap) (locs : List Loc) (ls : Array Slot), zB D (zT cI cZ cG cJ) A s.heap s [(mm, .inr (10, zmo (nI th) (nI q) (nI g) (nI t) (nI r) (nI mb) (nI nc) (nI nl) (nI pv) (nI va) (nI n3) (nI ve) (nI ed) (nI se) (nI ci) (nI mr) (nI mt) (nI ld) A8)), (A8 0, .inl (cI, 8, .inl ff)), (A8 1, .inl (cI, 8, .inl fr)), (A8 2, .inl (cI, 8, .inl fto)), (A8 3, .inl (cI, 8, .inl fw)), (A8 4, .inl (cI, 8, .inl fm)), (A8 13, .inl (cI, 4, .inl fhe)), (A8 14, .inl (cI, 4, .inl fst)), (A8 15, .inl (cI, 16, .inl fta1))] H locs → lv_has ls 7 [(0, .ref mm), (1, .int (nI i)), (2, .int (nI k)), (3, .int (nI h)), (4, .int (nI rs)), (6, .int (nI c1))] → W p l e { frames := 1, cells := 0, slots := 0, locals := 22 } s m [.ref mm, .int (nI i), .int (nI k)].toArray below meth c H locs 0 0 (zQ below [.ref mm, .int (nI i), .int (nI k)].toArray s D (zT cI cZ cG cJ) A (fun (ov : Option Value) (ow : va_W) => ∃ rb : Int32, ∃ fhe' : Nat → Int32, ∃ fst' : Nat → Int32, ∃ fta' : Nat → Int32, ov = some (.int rb) ∧ ow = [(mm, .inr (10, zmo (nI th) (nI q) (nI g) (nI t) (nI r) (nI mb) (nI nc) (nI nl) (nI pv) (nI va) (nI n3) (nI ve) (nI ed) (nI se) (nI ci) (nI mr) (nI mt) (nI ld) A8)), (A8 0, .inl (cI, 8, .inl ff)), (A8 1, .inl (cI, 8, .inl fr)), (A8 2, .inl (cI, 8, .inl fto)), (A8 3, .inl (cI, 8, .inl fw)), (A8 4, .inl (cI, 8, .inl fm)), (A8 13, .inl (cI, 4, .inl fhe')), (A8 14, .inl (cI, 4, .inl fst')), (A8 15, .inl (cI, 16, .inl fta'))] ∧ ((rb = 1 ∧ (zcan q r t rl h u cfT k)) ∨ (rb = 0 ∧ ¬ (zcan q r t rl h u cfT k))) ∧ (zcan q r t rl h u cfT k → (fhe' (i + 1) = nI (znh r rl h k) ∧ ∀ j, ¬ j = i + 1 → fhe' j = fhe j) ∧ (fst' (i + 1) = nI (znu r rl u k) ∧ ∀ j, ¬ j = i + 1 → fst' j = fst j) ∧ ((∀ y, y ≤ t → fta' (4 * (i + 1) + y) = nI (znt r rl h cfT k y)) ∧ ∀ j, j < 4 * (i + 1) → fta' j = fta_ j))) 0 0) (F0 m 128 ls []) := by
        intro fuel
        induction fuel with
        | zero => intro c1 rs fta1 hmz; exact absurd hmz (Nat.not_lt_zero _)
        | succ fuel ih =>
          intro c1 rs fta1 hm hc1 hcan hrs ht1 ht2 H locs ls B hl
          have ih128 := ih
          refine lv_iload F.1 F.2.1 dX8_follows_128 (lv_at hl 5 rfl) ?_
          refine lv_aload_n F.1 F.2.1 dX8_follows_130 rfl (lv_at hl 0 rfl) ?_
          refine z_get F B 0 rfl (ci := 10) (C := RX8) (T := TX8) (N := 37) rfl iX8_follows_X8 3 (by decide) fX8_follows_16 rfl dX8_follows_131 ?_
          refine z_icmp_gt (tgt := 167) F (by omega) (by omega) dX8_follows_134 (by decide) (fun c134 => ?_) (fun c134 => ?_)
          · have hct : c1 = t + 1 := by omega
            refine lv_iload F.1 F.2.1 dX8_follows_167 (lv_at hl 4 rfl) ?_
            refine z_if_ne (tgt := 190) F (by omega) dX8_follows_169 (by decide) (fun c169 => ?_) (fun c169 => ?_)
            · have hr9 : rs = 1 := by omega
              subst hr9
              have hkr : k = r := by omega
              refine lv_aload_n F.1 F.2.1 dX8_follows_190 rfl (lv_at hl 0 rfl) ?_
              refine z_get F B 0 rfl (ci := 10) (C := RX8) (T := TX8) (N := 37) rfl iX8_follows_X8 30 (by decide) fX8_follows_59 rfl dX8_follows_191 ?_
              refine lv_iload_n F.1 F.2.1 dX8_follows_194 rfl (lv_at hl 1 rfl) ?_
              refine lv_iconst (v := (nI 1)) F.1 F.2.1 dX8_follows_195 (by decide) ?_
              refine z_iadd F dX8_follows_196 ?_
              refine lv_iload F.1 F.2.1 dX8_follows_197 (lv_at hl 4 rfl) ?_
              refine lv_if_eq (tgt := 206) F.1 F.2.1 dX8_follows_199 (by decide) (fun hq => absurd hq (by decide)) (fun _ => ?_)
              refine lv_iload_n F.1 F.2.1 dX8_follows_202 rfl (lv_at hl 3 rfl) ?_
              refine lv_goto (tgt := 214) F.1 F.2.1 dX8_follows_203 (by decide) ?_
              refine z_iast F B 6 0 rfl rfl (j := i + 1) (by omega) (by omega) dX8_follows_214 (fun H locs B => ?_)
              have B : zB D (zT cI cZ cG cJ) A s.heap s [(mm, .inr (10, zmo (nI th) (nI q) (nI g) (nI t) (nI r) (nI mb) (nI nc) (nI nl) (nI pv) (nI va) (nI n3) (nI ve) (nI ed) (nI se) (nI ci) (nI mr) (nI mt) (nI ld) A8)), (A8 0, .inl (cI, 8, .inl ff)), (A8 1, .inl (cI, 8, .inl fr)), (A8 2, .inl (cI, 8, .inl fto)), (A8 3, .inl (cI, 8, .inl fw)), (A8 4, .inl (cI, 8, .inl fm)), (A8 13, .inl (cI, 4, .inl (upd fhe (i + 1) (nI h)))), (A8 14, .inl (cI, 4, .inl fst)), (A8 15, .inl (cI, 16, .inl fta1))] _ _ := B
              refine lv_aload_n F.1 F.2.1 dX8_follows_215 rfl (lv_at hl 0 rfl) ?_
              refine z_get F B 0 rfl (ci := 10) (C := RX8) (T := TX8) (N := 37) rfl iX8_follows_X8 31 (by decide) fX8_follows_62 rfl dX8_follows_216 ?_
              refine lv_iload_n F.1 F.2.1 dX8_follows_219 rfl (lv_at hl 1 rfl) ?_
              refine lv_iconst (v := (nI 1)) F.1 F.2.1 dX8_follows_220 (by decide) ?_
              refine z_iadd F dX8_follows_221 ?_
              refine lv_iload F.1 F.2.1 dX8_follows_222 (lv_at hl 4 rfl) ?_
              refine lv_if_eq (tgt := 236) F.1 F.2.1 dX8_follows_224 (by decide) (fun hq => absurd hq (by decide)) (fun _ => ?_)
              refine lv_aload_n F.1 F.2.1 dX8_follows_227 rfl (lv_at hl 0 rfl) ?_
              refine z_get F B 0 rfl (ci := 10) (C := RX8) (T := TX8) (N := 37) rfl iX8_follows_X8 31 (by decide) fX8_follows_62 rfl dX8_follows_228 ?_
              refine lv_iload_n F.1 F.2.1 dX8_follows_231 rfl (lv_at hl 1 rfl) ?_
              refine z_iald F B 7 0 rfl rfl (j := i) (by omega) (by omega) dX8_follows_232 ?_
              refine W.eq (g2 := F0 m 233 ls [.int (nI u), .int (nI (i + 1)), .ref (A8 14)]) (by rw [hst]) ?_
              refine lv_goto (tgt := 242) F.1 F.2.1 dX8_follows_233 (by decide) ?_
              refine z_iast F B 7 0 rfl rfl (j := i + 1) (by omega) (by omega) dX8_follows_242 (fun H locs B => ?_)
              have B : zB D (zT cI cZ cG cJ) A s.heap s [(mm, .inr (10, zmo (nI th) (nI q) (nI g) (nI t) (nI r) (nI mb) (nI nc) (nI nl) (nI pv) (nI va) (nI n3) (nI ve) (nI ed) (nI se) (nI ci) (nI mr) (nI mt) (nI ld) A8)), (A8 0, .inl (cI, 8, .inl ff)), (A8 1, .inl (cI, 8, .inl fr)), (A8 2, .inl (cI, 8, .inl fto)), (A8 3, .inl (cI, 8, .inl fw)), (A8 4, .inl (cI, 8, .inl fm)), (A8 13, .inl (cI, 4, .inl (upd fhe (i + 1) (nI h)))), (A8 14, .inl (cI, 4, .inl (upd fst (i + 1) (nI u)))), (A8 15, .inl (cI, 16, .inl fta1))] _ _ := B
              refine lv_iconst (v := (nI 1)) F.1 F.2.1 dX8_follows_243 (by decide) ?_
              exact z_zret F hr hlk B (Or.inr rfl) [0, 1, 2, 3, 4, 5, 6, 7, 8] rfl (rfl) dX8_follows_244 (by omega) (by omega) ⟨(nI 1), (upd fhe (i + 1) (nI h)), (upd fst (i + 1) (nI u)), fta1, rfl, rfl, Or.inl ⟨rfl, hcan⟩, (fun _ => ⟨⟨by rw [pk_us, znh_r hkr], fun j hj => pk_un hj⟩, ⟨by rw [pk_us, znu_r hkr], fun j hj => pk_un hj⟩, ⟨fun y hy => by rw [znt_r hkr]; exact by rw [show 4 * (i + 1) + y = 4 * i + 4 + y by omega]; exact ht1 y (by omega), fun j hj => ht2 j (by omega)⟩⟩)⟩
            · have hr9 : rs = 0 := by omega
              subst hr9
              have hkr : ¬ k = r := by omega
              have hge := zcan_ge hcan hkr
              refine lv_aload_n F.1 F.2.1 dX8_follows_172 rfl (lv_at hl 0 rfl) ?_
              refine z_get F B 0 rfl (ci := 10) (C := RX8) (T := TX8) (N := 37) rfl iX8_follows_X8 32 (by decide) fX8_follows_65 rfl dX8_follows_173 ?_
              refine lv_iconst (v := (nI 4)) F.1 F.2.1 dX8_follows_176 (by decide) ?_
              refine lv_iload_n F.1 F.2.1 dX8_follows_177 rfl (lv_at hl 1 rfl) ?_
              refine z_imul F dX8_follows_178 ?_
              refine lv_iconst (v := (nI 4)) F.1 F.2.1 dX8_follows_179 (by decide) ?_
              refine z_iadd F dX8_follows_180 ?_
              refine lv_iload_n F.1 F.2.1 dX8_follows_181 rfl (lv_at hl 3 rfl) ?_
              refine z_iadd F dX8_follows_182 ?_
              refine lv_aload_n F.1 F.2.1 dX8_follows_183 rfl (lv_at hl 0 rfl) ?_
              refine z_get F B 0 rfl (ci := 10) (C := RX8) (T := TX8) (N := 37) rfl iX8_follows_X8 8 (by decide) fX8_follows_29 rfl dX8_follows_184 ?_
              refine lv_iload_n F.1 F.2.1 dX8_follows_187 rfl (lv_at hl 2 rfl) ?_
              refine z_iald F B 4 0 rfl rfl (j := k) (by omega) (by omega) dX8_follows_188 ?_
              refine W.eq (g2 := F0 m 189 ls [.int (nI (rl 3 k)), .int (nI (4 * i + 4 + h)), .ref (A8 15)]) (by rw [hfw k (by omega)]) ?_
              refine z_iast F B 8 0 rfl rfl (j := 4 * i + 4 + h) (by omega) (by omega) dX8_follows_189 (fun H locs B => ?_)
              have B : zB D (zT cI cZ cG cJ) A s.heap s [(mm, .inr (10, zmo (nI th) (nI q) (nI g) (nI t) (nI r) (nI mb) (nI nc) (nI nl) (nI pv) (nI va) (nI n3) (nI ve) (nI ed) (nI se) (nI ci) (nI mr) (nI mt) (nI ld) A8)), (A8 0, .inl (cI, 8, .inl ff)), (A8 1, .inl (cI, 8, .inl fr)), (A8 2, .inl (cI, 8, .inl fto)), (A8 3, .inl (cI, 8, .inl fw)), (A8 4, .inl (cI, 8, .inl fm)), (A8 13, .inl (cI, 4, .inl fhe)), (A8 14, .inl (cI, 4, .inl fst)), (A8 15, .inl (cI, 16, .inl (upd fta1 (4 * i + 4 + h) (nI (rl 3 k)))))] _ _ := B
              refine lv_aload_n F.1 F.2.1 dX8_follows_190 rfl (lv_at hl 0 rfl) ?_
              refine z_get F B 0 rfl (ci := 10) (C := RX8) (T := TX8) (N := 37) rfl iX8_follows_X8 30 (by decide) fX8_follows_59 rfl dX8_follows_191 ?_
              refine lv_iload_n F.1 F.2.1 dX8_follows_194 rfl (lv_at hl 1 rfl) ?_
              refine lv_iconst (v := (nI 1)) F.1 F.2.1 dX8_follows_195 (by decide) ?_
              refine z_iadd F dX8_follows_196 ?_
              refine lv_iload F.1 F.2.1 dX8_follows_197 (lv_at hl 4 rfl) ?_
              refine lv_if_eq (tgt := 206) F.1 F.2.1 dX8_follows_199 (by decide) (fun _ => ?_) (fun hq => absurd (by decide) hq)
              refine lv_iload_n F.1 F.2.1 dX8_follows_206 rfl (lv_at hl 3 rfl) ?_
              refine lv_aload_n F.1 F.2.1 dX8_follows_207 rfl (lv_at hl 0 rfl) ?_
              refine z_get F B 0 rfl (ci := 10) (C := RX8) (T := TX8) (N := 37) rfl iX8_follows_X8 9 (by decide) fX8_follows_32 rfl dX8_follows_208 ?_
              refine lv_iload_n F.1 F.2.1 dX8_follows_211 rfl (lv_at hl 2 rfl) ?_
              refine z_iald F B 5 0 rfl rfl (j := k) (by omega) (by omega) dX8_follows_212 ?_
              refine W.eq (g2 := F0 m 213 ls [.int (nI (rl 4 k) - nI 1), .int (nI h), .int (nI (i + 1)), .ref (A8 13)]) (by rw [(hfm k (by omega)).1]) ?_
              refine lv_iadd F.1 F.2.1 dX8_follows_213 ?_
              refine W.eq (g2 := F0 m 214 ls [.int (nI (h + rl 4 k - 1)), .int (nI (i + 1)), .ref (A8 13)]) (by rw [ztgt, pk_sub hge]) ?_
              refine z_iast F B 6 0 rfl rfl (j := i + 1) (by omega) (by omega) dX8_follows_214 (fun H locs B => ?_)
              have B : zB D (zT cI cZ cG cJ) A s.heap s [(mm, .inr (10, zmo (nI th) (nI q) (nI g) (nI t) (nI r) (nI mb) (nI nc) (nI nl) (nI pv) (nI va) (nI n3) (nI ve) (nI ed) (nI se) (nI ci) (nI mr) (nI mt) (nI ld) A8)), (A8 0, .inl (cI, 8, .inl ff)), (A8 1, .inl (cI, 8, .inl fr)), (A8 2, .inl (cI, 8, .inl fto)), (A8 3, .inl (cI, 8, .inl fw)), (A8 4, .inl (cI, 8, .inl fm)), (A8 13, .inl (cI, 4, .inl (upd fhe (i + 1) (nI (h + rl 4 k - 1))))), (A8 14, .inl (cI, 4, .inl fst)), (A8 15, .inl (cI, 16, .inl (upd fta1 (4 * i + 4 + h) (nI (rl 3 k)))))] _ _ := B
              refine lv_aload_n F.1 F.2.1 dX8_follows_215 rfl (lv_at hl 0 rfl) ?_
              refine z_get F B 0 rfl (ci := 10) (C := RX8) (T := TX8) (N := 37) rfl iX8_follows_X8 31 (by decide) fX8_follows_62 rfl dX8_follows_216 ?_
              refine lv_iload_n F.1 F.2.1 dX8_follows_219 rfl (lv_at hl 1 rfl) ?_
              refine lv_iconst (v := (nI 1)) F.1 F.2.1 dX8_follows_220 (by decide) ?_
              refine z_iadd F dX8_follows_221 ?_
              refine lv_iload F.1 F.2.1 dX8_follows_222 (lv_at hl 4 rfl) ?_
              refine lv_if_eq (tgt := 236) F.1 F.2.1 dX8_follows_224 (by decide) (fun _ => ?_) (fun hq => absurd (by decide) hq)
              refine lv_aload_n F.1 F.2.1 dX8_follows_236 rfl (lv_at hl 0 rfl) ?_
              refine z_get F B 0 rfl (ci := 10) (C := RX8) (T := TX8) (N := 37) rfl iX8_follows_X8 7 (by decide) fX8_follows_26 rfl dX8_follows_237 ?_
              refine lv_iload_n F.1 F.2.1 dX8_follows_240 rfl (lv_at hl 2 rfl) ?_
              refine z_iald F B 3 0 rfl rfl (j := k) (by omega) (by omega) dX8_follows_241 ?_
              refine W.eq (g2 := F0 m 242 ls [.int (nI (rl 2 k)), .int (nI (i + 1)), .ref (A8 14)]) (by rw [hfto k (by omega)]) ?_
              refine z_iast F B 7 0 rfl rfl (j := i + 1) (by omega) (by omega) dX8_follows_242 (fun H locs B => ?_)
              have B : zB D (zT cI cZ cG cJ) A s.heap s [(mm, .inr (10, zmo (nI th) (nI q) (nI g) (nI t) (nI r) (nI mb) (nI nc) (nI nl) (nI pv) (nI va) (nI n3) (nI ve) (nI ed) (nI se) (nI ci) (nI mr) (nI mt) (nI ld) A8)), (A8 0, .inl (cI, 8, .inl ff)), (A8 1, .inl (cI, 8, .inl fr)), (A8 2, .inl (cI, 8, .inl fto)), (A8 3, .inl (cI, 8, .inl fw)), (A8 4, .inl (cI, 8, .inl fm)), (A8 13, .inl (cI, 4, .inl (upd fhe (i + 1) (nI (h + rl 4 k - 1))))), (A8 14, .inl (cI, 4, .inl (upd fst (i + 1) (nI (rl 2 k))))), (A8 15, .inl (cI, 16, .inl (upd fta1 (4 * i + 4 + h) (nI (rl 3 k)))))] _ _ := B
              refine lv_iconst (v := (nI 1)) F.1 F.2.1 dX8_follows_243 (by decide) ?_
              exact z_zret F hr hlk B (Or.inr rfl) [0, 1, 2, 3, 4, 5, 6, 7, 8] rfl (rfl) dX8_follows_244 (by omega) (by omega) ⟨(nI 1), (upd fhe (i + 1) (nI (h + rl 4 k - 1))), (upd fst (i + 1) (nI (rl 2 k))), (upd fta1 (4 * i + 4 + h) (nI (rl 3 k))), rfl, rfl, Or.inl ⟨rfl, hcan⟩, (fun _ => ⟨⟨by rw [pk_us, znh_n hkr], fun j hj => pk_un hj⟩, ⟨by rw [pk_us, znu_n hkr], fun j hj => pk_un hj⟩, ⟨fun y hy => by rw [znt_n hkr]; exact zrow_M (fun y hy => ht1 y (by omega)) y hy, fun j hj => by rw [pk_un (by omega)]; exact ht2 j (by omega)⟩⟩)⟩
          · refine lv_aload_n F.1 F.2.1 dX8_follows_137 rfl (lv_at hl 0 rfl) ?_
            refine z_get F B 0 rfl (ci := 10) (C := RX8) (T := TX8) (N := 37) rfl iX8_follows_X8 32 (by decide) fX8_follows_65 rfl dX8_follows_138 ?_
            refine lv_iconst (v := (nI 4)) F.1 F.2.1 dX8_follows_141 (by decide) ?_
            refine lv_iload_n F.1 F.2.1 dX8_follows_142 rfl (lv_at hl 1 rfl) ?_
            refine z_imul F dX8_follows_143 ?_
            refine lv_iconst (v := (nI 4)) F.1 F.2.1 dX8_follows_144 (by decide) ?_
            refine z_iadd F dX8_follows_145 ?_
            refine lv_iload F.1 F.2.1 dX8_follows_146 (lv_at hl 5 rfl) ?_
            refine z_iadd F dX8_follows_148 ?_
            refine lv_aload_n F.1 F.2.1 dX8_follows_149 rfl (lv_at hl 0 rfl) ?_
            refine z_get F B 0 rfl (ci := 10) (C := RX8) (T := TX8) (N := 37) rfl iX8_follows_X8 32 (by decide) fX8_follows_65 rfl dX8_follows_150 ?_
            refine lv_iconst (v := (nI 4)) F.1 F.2.1 dX8_follows_153 (by decide) ?_
            refine lv_iload_n F.1 F.2.1 dX8_follows_154 rfl (lv_at hl 1 rfl) ?_
            refine z_imul F dX8_follows_155 ?_
            refine lv_iload F.1 F.2.1 dX8_follows_156 (lv_at hl 5 rfl) ?_
            refine z_iadd F dX8_follows_158 ?_
            refine z_iald F B 8 0 rfl rfl (j := 4 * i + c1) (by omega) (by omega) dX8_follows_159 ?_
            refine W.eq (g2 := F0 m 160 ls [.int (nI (cfT c1)), .int (nI (4 * i + 4 + c1)), .ref (A8 15)]) (by rw [ht2 (4 * i + c1) (by omega), htr c1 (by omega)]) ?_
            refine z_iast F B 8 0 rfl rfl (j := 4 * i + 4 + c1) (by omega) (by omega) dX8_follows_160 (fun H locs B => ?_)
            have B : zB D (zT cI cZ cG cJ) A s.heap s [(mm, .inr (10, zmo (nI th) (nI q) (nI g) (nI t) (nI r) (nI mb) (nI nc) (nI nl) (nI pv) (nI va) (nI n3) (nI ve) (nI ed) (nI se) (nI ci) (nI mr) (nI mt) (nI ld) A8)), (A8 0, .inl (cI, 8, .inl ff)), (A8 1, .inl (cI, 8, .inl fr)), (A8 2, .inl (cI, 8, .inl fto)), (A8 3, .inl (cI, 8, .inl fw)), (A8 4, .inl (cI, 8, .inl fm)), (A8 13, .inl (cI, 4, .inl fhe)), (A8 14, .inl (cI, 4, .inl fst)), (A8 15, .inl (cI, 16, .inl (upd fta1 (4 * i + 4 + c1) (nI (cfT c1)))))] _ _ := B
            refine lv_iinc (v := (nI (c1 + 1))) (lv' := [(6, .int (nI (c1 + 1))), (0, .ref mm), (1, .int (nI i)), (2, .int (nI k)), (3, .int (nI h)), (4, .int (nI rs))]) F.1 F.2.1 dX8_follows_161 hl (k := 5) rfl (by rw [show Int32.ofInt 1 = nI 1 from rfl, nI_add]) (by decide) rfl (fun ls hl => ?_)
            refine lv_goto (tgt := 128) F.1 F.2.1 dX8_follows_164 (by decide) ?_
            exact ih128 (c1 + 1) rs (upd fta1 (4 * i + 4 + c1) (nI (cfT c1))) (by first | omega | (simp only [] at *; omega)) (by omega) (hcan) (by omega) (fun y hy => by by_cases e9 : y = c1; subst e9; exact pk_us; rw [pk_un (by omega)]; exact ht1 y (by omega)) (fun j hj => by rw [pk_un (by omega)]; exact ht2 j hj) _ _ _ (B.sub [0, 1, 2, 3, 4, 5, 6, 7, 8] rfl (rfl)) (lv_sub hl [1, 2, 3, 4, 5, 0] (rfl))
      exact loop128 (t + 1 - 0 + 1) 0 1 fta_ (Nat.lt_succ_self _) (by omega) (by unfold zcan; omega) (by omega) (fun y hy => absurd hy (Nat.not_lt_zero _)) (fun j hj => rfl) _ _ _ (B.sub [0, 1, 2, 3, 4, 5, 6, 7, 8] rfl (rfl)) (lv_sub hl [4, 5, 6, 3, 2, 0] (rfl))
theorem iX8_runs_X8 : ∀ w ∈ u_ws RX8 TX8 37, w ∈ wsX8_runs := fun w h => List.mem_cons_of_mem _ (List.mem_append_right _ h)
theorem fX8_runs_16 : Cond.fieldLink RX8 16 "TourChainModel" "bound" "I" ∈ wsX8_runs := by decide +kernel
theorem fX8_runs_59 : Cond.fieldLink RX8 59 "TourChainModel" "head" "[I" ∈ wsX8_runs := by decide +kernel
theorem fX8_runs_62 : Cond.fieldLink RX8 62 "TourChainModel" "at" "[I" ∈ wsX8_runs := by decide +kernel
theorem fX8_runs_7 : Cond.fieldLink RX8 7 "TourChainModel" "states" "I" ∈ wsX8_runs := by decide +kernel
theorem fX8_runs_56 : Cond.fieldLink RX8 56 "TourChainModel" "choice" "[I" ∈ wsX8_runs := by decide +kernel
theorem yX8_runs_X8_follows : yX8_follows.cls = RX8 ∧ yX8_follows.cls ≠ "java/lang/invoke/MethodHandle" ∧ yX8_follows.cls ≠ "java/lang/invoke/VarHandle" ∧ (parseMethodDescriptor yX8_follows.desc).map (fun d => d.parameters.length) = some 2 := by decide +kernel
theorem fX8_runs_65 : Cond.fieldLink RX8 65 "TourChainModel" "tape" "[I" ∈ wsX8_runs := by decide +kernel
theorem fX8_runs_35 : Cond.fieldLink RX8 35 "TourChainModel" "input" "[I" ∈ wsX8_runs := by decide +kernel
set_option maxHeartbeats 4000000 in
set_option maxRecDepth 100000 in
theorem kX8_runs (l : Launch) (D : va_G) (cI cZ cG cJ : ClassId) (mm : Nat) (th : Nat) (q : Nat) (g : Nat) (t : Nat) (r : Nat) (mb : Nat) (nc : Nat) (nl : Nat) (pv : Nat) (va : Nat) (n3 : Nat) (ve : Nat) (ed : Nat) (se : Nat) (ci : Nat) (mr : Nat) (mt : Nat) (ld : Nat) (A8 : Nat → Nat) (ff : Nat → Int32) (fr : Nat → Int32) (fto : Nat → Int32) (fw : Nat → Int32) (fm : Nat → Int32) (rl : Nat → Nat → Nat) (fhe : Nat → Int32) (fst : Nat → Int32) (fta_ : Nat → Int32) (fp : Nat → Int32) (tp : Nat → Nat) (fch : Nat → Int32) (ch : Nat → Nat) (ht : t ≤ 3) (hq1 : 1 ≤ q) (hq : q ≤ 3) (hr8 : r ≤ 8) (hff : ∀ i, i < r → ff i = nI (rl 0 i)) (hfr : ∀ i, i < r → fr i = nI (rl 1 i)) (hfto : ∀ i, i < r → fto i = nI (rl 2 i)) (hfw : ∀ i, i < r → fw i = nI (rl 3 i)) (hfm : ∀ i, i < r → fm i = nI (rl 4 i) - nI 1 ∧ rl 4 i ≤ 2) (hrb4 : ∀ k, k < r → rl 0 k ≤ 3 ∧ rl 1 k ≤ 3 ∧ rl 2 k ≤ 3 ∧ rl 3 k ≤ 3) (htp : ∀ y, y ≤ t → fp y = nI (tp y)) (htp3 : ∀ y, y ≤ t → tp y ≤ 3) (hch : ∀ i, i < t → fch i = nI (ch i) ∧ ch i ≤ r) : zC l yX8_runs wsX8_runs 2 48 0 0 D (zT cI cZ cG cJ) [.ref mm] [(mm, .inr (10, zmo (nI th) (nI q) (nI g) (nI t) (nI r) (nI mb) (nI nc) (nI nl) (nI pv) (nI va) (nI n3) (nI ve) (nI ed) (nI se) (nI ci) (nI mr) (nI mt) (nI ld) A8)), (A8 0, .inl (cI, 8, .inl ff)), (A8 1, .inl (cI, 8, .inl fr)), (A8 2, .inl (cI, 8, .inl fto)), (A8 3, .inl (cI, 8, .inl fw)), (A8 4, .inl (cI, 8, .inl fm)), (A8 5, .inl (cI, 4, .inl fp)), (A8 12, .inl (cI, 3, .inl fch)), (A8 13, .inl (cI, 4, .inl fhe)), (A8 14, .inl (cI, 4, .inl fst)), (A8 15, .inl (cI, 16, .inl fta_))] (fun (ov : Option Value) (ow : va_W) => ∃ rb : Int32, ∃ fhe' : Nat → Int32, ∃ fst' : Nat → Int32, ∃ fta' : Nat → Int32, ov = some (.int rb) ∧ ow = [(mm, .inr (10, zmo (nI th) (nI q) (nI g) (nI t) (nI r) (nI mb) (nI nc) (nI nl) (nI pv) (nI va) (nI n3) (nI ve) (nI ed) (nI se) (nI ci) (nI mr) (nI mt) (nI ld) A8)), (A8 0, .inl (cI, 8, .inl ff)), (A8 1, .inl (cI, 8, .inl fr)), (A8 2, .inl (cI, 8, .inl fto)), (A8 3, .inl (cI, 8, .inl fw)), (A8 4, .inl (cI, 8, .inl fm)), (A8 5, .inl (cI, 4, .inl fp)), (A8 12, .inl (cI, 3, .inl fch)), (A8 13, .inl (cI, 4, .inl fhe')), (A8 14, .inl (cI, 4, .inl fst')), (A8 15, .inl (cI, 16, .inl fta'))] ∧ ((rb = 1 ∧ (zacc q r t rl tp ch)) ∨ (rb = 0 ∧ ¬ (zacc q r t rl tp ch))) ∧ (zacc q r t rl tp ch → zrws fhe' fst' (fun j y => fta' (4 * j + y)) t (zcf r rl tp ch) t)) := by
  refine zC.of (cc := cX8_runs) (maxL := 2) (ret := (some .boolean)) (by decide) rfl (Nat.le_of_ble_eq_true rfl) ?_
  intro p e s m below meth c A ls F hr hlk hnm B hl
  have hl : lv_has ls 2 [(0, .ref mm)] := hl
  refine lv_iconst (v := (nI 0)) F.1 F.2.1 dX8_runs_0 (by decide) ?_
  refine lv_istore_n (lv' := [(1, .int (nI 0)), (0, .ref mm)]) F.1 F.2.1 dX8_runs_1 rfl hl (by decide) rfl (fun ls hl => ?_)
  have loop2 : ∀ (fuel : Nat) (y : Nat) (fta1 : Nat → Int32), t + 1 - y < fuel → (y ≤ t + 1) → (∀ x, x < y → fta1 x = nI (tp x)) → ∀ (H : Heap) (locs : List Loc) (ls : Array Slot), zB D (zT cI cZ cG cJ) A s.heap s [(mm, .inr (10, zmo (nI th) (nI q) (nI g) (nI t) (nI r) (nI mb) (nI nc) (nI nl) (nI pv) (nI va) (nI n3) (nI ve) (nI ed) (nI se) (nI ci) (nI mr) (nI mt) (nI ld) A8)), (A8 0, .inl (cI, 8, .inl ff)), (A8 1, .inl (cI, 8, .inl fr)), (A8 2, .inl (cI, 8, .inl fto)), (A8 3, .inl (cI, 8, .inl fw)), (A8 4, .inl (cI, 8, .inl fm)), (A8 5, .inl (cI, 4, .inl fp)), (A8 12, .inl (cI, 3, .inl fch)), (A8 13, .inl (cI, 4, .inl fhe)), (A8 14, .inl (cI, 4, .inl fst)), (A8 15, .inl (cI, 16, .inl fta1))] H locs → lv_has ls 2 [(0, .ref mm), (1, .int (nI y))] → W p l e { frames := 2, cells := 0, slots := 0, locals := 48 } s m [.ref mm].toArray below meth c H locs 0 0 (zQ below [.ref mm].toArray s D (zT cI cZ cG cJ) A (fun (ov : Option Value) (ow : va_W) => ∃ rb : Int32, ∃ fhe' : Nat → Int32, ∃ fst' : Nat → Int32, ∃ fta' : Nat → Int32, ov = some (.int rb) ∧ ow = [(mm, .inr (10, zmo (nI th) (nI q) (nI g) (nI t) (nI r) (nI mb) (nI nc) (nI nl) (nI pv) (nI va) (nI n3) (nI ve) (nI ed) (nI se) (nI ci) (nI mr) (nI mt) (nI ld) A8)), (A8 0, .inl (cI, 8, .inl ff)), (A8 1, .inl (cI, 8, .inl fr)), (A8 2, .inl (cI, 8, .inl fto)), (A8 3, .inl (cI, 8, .inl fw)), (A8 4, .inl (cI, 8, .inl fm)), (A8 5, .inl (cI, 4, .inl fp)), (A8 12, .inl (cI, 3, .inl fch)), (A8 13, .inl (cI, 4, .inl fhe')), (A8 14, .inl (cI, 4, .inl fst')), (A8 15, .inl (cI, 16, .inl fta'))] ∧ ((rb = 1 ∧ (zacc q r t rl tp ch)) ∨ (rb = 0 ∧ ¬ (zacc q r t rl tp ch))) ∧ (zacc q r t rl tp ch → zrws fhe' fst' (fun j y => fta' (4 * j + y)) t (zcf r rl tp ch) t)) 0 0) (F0 m 2 ls []) := by
    intro fuel
    induction fuel with
    | zero => intro y fta1 hmz; exact absurd hmz (Nat.not_lt_zero _)
    | succ fuel ih =>
      intro y fta1 hm hy h1 H locs ls B hl
      have ih2 := ih
      refine lv_iload_n F.1 F.2.1 dX8_runs_2 rfl (lv_at hl 1 rfl) ?_
      refine lv_aload_n F.1 F.2.1 dX8_runs_3 rfl (lv_at hl 0 rfl) ?_
      refine z_get F B 0 rfl (ci := 10) (C := RX8) (T := TX8) (N := 37) rfl iX8_runs_X8 3 (by decide) fX8_runs_16 rfl dX8_runs_4 ?_
      refine z_icmp_gt (tgt := 28) F (by omega) (by omega) dX8_runs_7 (by decide) (fun c7 => ?_) (fun c7 => ?_)
      · have hyt : y = t + 1 := by omega
        refine lv_aload_n F.1 F.2.1 dX8_runs_28 rfl (lv_at hl 0 rfl) ?_
        refine z_get F B 0 rfl (ci := 10) (C := RX8) (T := TX8) (N := 37) rfl iX8_runs_X8 30 (by decide) fX8_runs_59 rfl dX8_runs_29 ?_
        refine lv_iconst (v := (nI 0)) F.1 F.2.1 dX8_runs_32 (by decide) ?_
        refine lv_iconst (v := (nI 0)) F.1 F.2.1 dX8_runs_33 (by decide) ?_
        refine z_iast F B 8 0 rfl rfl (j := 0) (by omega) (by omega) dX8_runs_34 (fun H locs B => ?_)
        have B : zB D (zT cI cZ cG cJ) A s.heap s [(mm, .inr (10, zmo (nI th) (nI q) (nI g) (nI t) (nI r) (nI mb) (nI nc) (nI nl) (nI pv) (nI va) (nI n3) (nI ve) (nI ed) (nI se) (nI ci) (nI mr) (nI mt) (nI ld) A8)), (A8 0, .inl (cI, 8, .inl ff)), (A8 1, .inl (cI, 8, .inl fr)), (A8 2, .inl (cI, 8, .inl fto)), (A8 3, .inl (cI, 8, .inl fw)), (A8 4, .inl (cI, 8, .inl fm)), (A8 5, .inl (cI, 4, .inl fp)), (A8 12, .inl (cI, 3, .inl fch)), (A8 13, .inl (cI, 4, .inl (upd fhe 0 (nI 0)))), (A8 14, .inl (cI, 4, .inl fst)), (A8 15, .inl (cI, 16, .inl fta1))] _ _ := B
        refine lv_aload_n F.1 F.2.1 dX8_runs_35 rfl (lv_at hl 0 rfl) ?_
        refine z_get F B 0 rfl (ci := 10) (C := RX8) (T := TX8) (N := 37) rfl iX8_runs_X8 31 (by decide) fX8_runs_62 rfl dX8_runs_36 ?_
        refine lv_iconst (v := (nI 0)) F.1 F.2.1 dX8_runs_39 (by decide) ?_
        refine lv_iconst (v := (nI 0)) F.1 F.2.1 dX8_runs_40 (by decide) ?_
        refine z_iast F B 9 0 rfl rfl (j := 0) (by omega) (by omega) dX8_runs_41 (fun H locs B => ?_)
        have B : zB D (zT cI cZ cG cJ) A s.heap s [(mm, .inr (10, zmo (nI th) (nI q) (nI g) (nI t) (nI r) (nI mb) (nI nc) (nI nl) (nI pv) (nI va) (nI n3) (nI ve) (nI ed) (nI se) (nI ci) (nI mr) (nI mt) (nI ld) A8)), (A8 0, .inl (cI, 8, .inl ff)), (A8 1, .inl (cI, 8, .inl fr)), (A8 2, .inl (cI, 8, .inl fto)), (A8 3, .inl (cI, 8, .inl fw)), (A8 4, .inl (cI, 8, .inl fm)), (A8 5, .inl (cI, 4, .inl fp)), (A8 12, .inl (cI, 3, .inl fch)), (A8 13, .inl (cI, 4, .inl (upd fhe 0 (nI 0)))), (A8 14, .inl (cI, 4, .inl (upd fst 0 (nI 0)))), (A8 15, .inl (cI, 16, .inl fta1))] _ _ := B
        refine lv_iconst (v := (nI 0)) F.1 F.2.1 dX8_runs_42 (by decide) ?_
        refine lv_istore_n (lv' := [(1, .int (nI 0)), (0, .ref mm)]) F.1 F.2.1 dX8_runs_43 rfl hl (by decide) rfl (fun ls hl => ?_)
        have loop44 : ∀ (fuel : Nat) (i : Nat) (fhe1 : Nat → Int32) (fst1 : Nat → Int32) (fta2 : Nat → Int32), t - i < fuel → (i ≤ t) → (zok q r t rl tp ch i) → (zrws fhe1 fst1 (fun j y => fta2 (4 * j + y)) t (zcf r rl tp ch) i) → ∀ (H : Heap) (locs : List Loc) (ls : Array Slot), zB D (zT cI cZ cG cJ) A s.heap s [(mm, .inr (10, zmo (nI th) (nI q) (nI g) (nI t) (nI r) (nI mb) (nI nc) (nI nl) (nI pv) (nI va) (nI n3) (nI ve) (nI ed) (nI se) (nI ci) (nI mr) (nI mt) (nI ld) A8)), (A8 0, .inl (cI, 8, .inl ff)), (A8 1, .inl (cI, 8, .inl fr)), (A8 2, .inl (cI, 8, .inl fto)), (A8 3, .inl (cI, 8, .inl fw)), (A8 4, .inl (cI, 8, .inl fm)), (A8 5, .inl (cI, 4, .inl fp)), (A8 12, .inl (cI, 3, .inl fch)), (A8 13, .inl (cI, 4, .inl fhe1)), (A8 14, .inl (cI, 4, .inl fst1)), (A8 15, .inl (cI, 16, .inl fta2))] H locs → lv_has ls 2 [(0, .ref mm), (1, .int (nI i))] → W p l e { frames := 2, cells := 0, slots := 0, locals := 48 } s m [.ref mm].toArray below meth c H locs 0 0 (zQ below [.ref mm].toArray s D (zT cI cZ cG cJ) A (fun (ov : Option Value) (ow : va_W) => ∃ rb : Int32, ∃ fhe' : Nat → Int32, ∃ fst' : Nat → Int32, ∃ fta' : Nat → Int32, ov = some (.int rb) ∧ ow = [(mm, .inr (10, zmo (nI th) (nI q) (nI g) (nI t) (nI r) (nI mb) (nI nc) (nI nl) (nI pv) (nI va) (nI n3) (nI ve) (nI ed) (nI se) (nI ci) (nI mr) (nI mt) (nI ld) A8)), (A8 0, .inl (cI, 8, .inl ff)), (A8 1, .inl (cI, 8, .inl fr)), (A8 2, .inl (cI, 8, .inl fto)), (A8 3, .inl (cI, 8, .inl fw)), (A8 4, .inl (cI, 8, .inl fm)), (A8 5, .inl (cI, 4, .inl fp)), (A8 12, .inl (cI, 3, .inl fch)), (A8 13, .inl (cI, 4, .inl fhe')), (A8 14, .inl (cI, 4, .inl fst')), (A8 15, .inl (cI, 16, .inl fta'))] ∧ ((rb = 1 ∧ (zacc q r t rl tp ch)) ∨ (rb = 0 ∧ ¬ (zacc q r t rl tp ch))) ∧ (zacc q r t rl tp ch → zrws fhe' fst' (fun j y => fta' (4 * j + y)) t (zcf r rl tp ch) t)) 0 0) (F0 m 44 ls []) := by
          intro fuel
          induction fuel with
          | zero => intro i fhe1 fst1 fta2 hmz; exact absurd hmz (Nat.not_lt_zero _)
          | succ fuel ih =>
            intro i fhe1 fst1 fta2 hm hi hok hrw H locs ls B hl
            have ih44 := ih
            obtain ⟨hbd1, hbd2, hbd3⟩ := zcf_bd htp3 hrb4 (fun k hk => (hfm k hk).2) (fun j hj => (hch j hj).2) hi hok
            obtain ⟨hrw1, hrw2, hrw3⟩ := hrw i (Nat.le_refl _)
            refine lv_iload_n F.1 F.2.1 dX8_runs_44 rfl (lv_at hl 1 rfl) ?_
            refine lv_aload_n F.1 F.2.1 dX8_runs_45 rfl (lv_at hl 0 rfl) ?_
            refine z_get F B 0 rfl (ci := 10) (C := RX8) (T := TX8) (N := 37) rfl iX8_runs_X8 3 (by decide) fX8_runs_16 rfl dX8_runs_46 ?_
            refine z_icmp_ge (tgt := 74) F (by omega) (by omega) dX8_runs_49 (by decide) (fun c49 => ?_) (fun c49 => ?_)
            · have hit : t = i := by omega
              subst hit
              refine lv_aload_n F.1 F.2.1 dX8_runs_74 rfl (lv_at hl 0 rfl) ?_
              refine z_get F B 0 rfl (ci := 10) (C := RX8) (T := TX8) (N := 37) rfl iX8_runs_X8 31 (by decide) fX8_runs_62 rfl dX8_runs_75 ?_
              refine lv_aload_n F.1 F.2.1 dX8_runs_78 rfl (lv_at hl 0 rfl) ?_
              refine z_get F B 0 rfl (ci := 10) (C := RX8) (T := TX8) (N := 37) rfl iX8_runs_X8 3 (by decide) fX8_runs_16 rfl dX8_runs_79 ?_
              refine z_iald F B 9 0 rfl rfl (j := t) (by omega) (by omega) dX8_runs_82 ?_
              refine W.eq (g2 := F0 m 83 ls [.int (nI (((zcf r rl tp ch) t).2.1))]) (by rw [hrw2]) ?_
              refine lv_aload_n F.1 F.2.1 dX8_runs_83 rfl (lv_at hl 0 rfl) ?_
              refine z_get F B 0 rfl (ci := 10) (C := RX8) (T := TX8) (N := 37) rfl iX8_runs_X8 1 (by decide) fX8_runs_7 rfl dX8_runs_84 ?_
              refine lv_iconst (v := (nI 1)) F.1 F.2.1 dX8_runs_87 (by decide) ?_
              refine z_isub F (by omega) dX8_runs_88 ?_
              refine z_icmp_ne (tgt := 96) F (by omega) (by omega) dX8_runs_89 (by decide) (fun c89 => ?_) (fun c89 => ?_)
              · refine lv_iconst (v := (nI 0)) F.1 F.2.1 dX8_runs_96 (by decide) ?_
                exact z_zret F hr hlk B (Or.inl rfl) [0, 1, 2, 3, 4, 5, 6, 7, 8, 9, 10] rfl (rfl) dX8_runs_97 (by omega) (by omega) ⟨(nI 0), fhe1, fst1, fta2, rfl, rfl, Or.inr ⟨rfl, fun q9 => c89 q9.2⟩, (fun _ => hrw)⟩
              · refine lv_iconst (v := (nI 1)) F.1 F.2.1 dX8_runs_92 (by decide) ?_
                refine lv_goto (tgt := 97) F.1 F.2.1 dX8_runs_93 (by decide) ?_
                exact z_zret F hr hlk B (Or.inr rfl) [0, 1, 2, 3, 4, 5, 6, 7, 8, 9, 10] rfl (rfl) dX8_runs_97 (by omega) (by omega) ⟨(nI 1), fhe1, fst1, fta2, rfl, rfl, Or.inl ⟨rfl, ⟨hok, c89⟩⟩, (fun _ => hrw)⟩
            · have hc9 := hch i (by omega)
              refine lv_aload_n F.1 F.2.1 dX8_runs_52 rfl (lv_at hl 0 rfl) ?_
              refine lv_iload_n F.1 F.2.1 dX8_runs_53 rfl (lv_at hl 1 rfl) ?_
              refine lv_aload_n F.1 F.2.1 dX8_runs_54 rfl (lv_at hl 0 rfl) ?_
              refine z_get F B 0 rfl (ci := 10) (C := RX8) (T := TX8) (N := 37) rfl iX8_runs_X8 29 (by decide) fX8_runs_56 rfl dX8_runs_55 ?_
              refine lv_iload_n F.1 F.2.1 dX8_runs_58 rfl (lv_at hl 1 rfl) ?_
              refine z_iald F B 7 0 rfl rfl (j := i) (by omega) (by omega) dX8_runs_59 ?_
              refine W.eq (g2 := F0 m 60 ls [.int (nI (ch i)), .int (nI i), .ref mm]) (by rw [hc9.1]) ?_
              refine z_callV (wr := [(A8 5, .inl (cI, 4, .inl fp)), (A8 12, .inl (cI, 3, .inl fch))]) (rest := []) (As := [.int (nI i), .int (nI (ch i))]) F B (kX8_follows l D cI cZ cG cJ mm th q g t r mb nc nl pv va n3 ve ed se ci mr mt ld A8 ff fr fto fw fm rl fhe1 fst1 fta2 (((zcf r rl tp ch) i).1) (((zcf r rl tp ch) i).2.1) (((zcf r rl tp ch) i).2.2) i (ch i) (by omega) (by omega) (by omega) (by omega) (by omega) (by omega) (hff) (hfr) (hfto) (hfw) (hfm) (hrb4) (hrw1) (hrw2) (hbd1) (hbd2) (hrw3) (hbd3)) hl.1 (C := RX8) (T := TX8) (N := 37) (ci := 10) (q0 := 0) gX8_runs_X8_follows rfl 2 yX8_runs_X8_follows rfl rfl rfl [0, 1, 2, 3, 4, 5, 8, 9, 10] [6, 7] rfl rfl rfl rfl (by decide) (Nat.le_of_ble_eq_true rfl) (Nat.le_of_ble_eq_true rfl) (Nat.le_of_ble_eq_true rfl) rfl dX8_runs_60 (show 0 + 0 ≤ 0 by omega) (show 0 + 0 ≤ 0 by omega) (fun vv ww H locs hRR B => ?_)
              obtain ⟨r_1, fhe'_2, fst'_3, fta'_4, rfl, rfl, hb_5, hU⟩ := hRR
              have B : zB D (zT cI cZ cG cJ) A s.heap s [(A8 5, .inl (cI, 4, .inl fp)), (A8 12, .inl (cI, 3, .inl fch)), (mm, .inr (10, zmo (nI th) (nI q) (nI g) (nI t) (nI r) (nI mb) (nI nc) (nI nl) (nI pv) (nI va) (nI n3) (nI ve) (nI ed) (nI se) (nI ci) (nI mr) (nI mt) (nI ld) A8)), (A8 0, .inl (cI, 8, .inl ff)), (A8 1, .inl (cI, 8, .inl fr)), (A8 2, .inl (cI, 8, .inl fto)), (A8 3, .inl (cI, 8, .inl fw)), (A8 4, .inl (cI, 8, .inl fm)), (A8 13, .inl (cI, 4, .inl fhe'_2)), (A8 14, .inl (cI, 4, .inl fst'_3)), (A8 15, .inl (cI, 16, .inl fta'_4))] _ _ := B
              rcases hb_5 with ⟨hr1, hpC⟩ | ⟨hr1, hpC⟩ <;> subst hr1
              · refine W.eq (g2 := F0 m 63 ls [.int 1]) rfl ?_
                obtain ⟨hU1, hU2, hU3⟩ := hU hpC
                refine lv_if_ne (tgt := 68) F.1 F.2.1 dX8_runs_63 (by decide) (fun _ => ?_) (fun hq => absurd hq (by decide))
                refine lv_iinc (v := (nI (i + 1))) (lv' := [(1, .int (nI (i + 1))), (0, .ref mm)]) F.1 F.2.1 dX8_runs_68 hl (k := 1) rfl (by rw [show Int32.ofInt 1 = nI 1 from rfl, nI_add]) (by decide) rfl (fun ls hl => ?_)
                refine lv_goto (tgt := 44) F.1 F.2.1 dX8_runs_71 (by decide) ?_
                exact ih44 (i + 1) fhe'_2 fst'_3 fta'_4 (by first | omega | (simp only [] at *; omega)) (by omega) (zok_S hok hpC) (zrwsM_S ht hrw hU1 hU2 hU3) _ _ _ (B.sub [2, 3, 4, 5, 6, 7, 0, 1, 8, 9, 10] rfl (rfl)) (lv_sub hl [1, 0] (rfl))
              · refine W.eq (g2 := F0 m 63 ls [.int 0]) rfl ?_
                refine lv_if_ne (tgt := 68) F.1 F.2.1 dX8_runs_63 (by decide) (fun hq => absurd (by decide) hq) (fun _ => ?_)
                refine lv_iconst (v := (nI 0)) F.1 F.2.1 dX8_runs_66 (by decide) ?_
                exact z_zret F hr hlk B (Or.inl rfl) [2, 3, 4, 5, 6, 7, 0, 1, 8, 9, 10] rfl (rfl) dX8_runs_67 (by omega) (by omega) ⟨(nI 0), fhe'_2, fst'_3, fta'_4, rfl, rfl, Or.inr ⟨rfl, fun q9 => hpC (q9.1 i (by omega))⟩, (fun q9 => absurd (q9.1 i (by omega)) hpC)⟩
        exact loop44 (t - 0 + 1) 0 (upd fhe 0 (nI 0)) (upd fst 0 (nI 0)) fta1 (Nat.lt_succ_self _) (by omega) (fun j hj => absurd hj (Nat.not_lt_zero _)) (zrwsM_0 (fun y hy => h1 y (by omega))) _ _ _ (B.sub [0, 1, 2, 3, 4, 5, 6, 7, 8, 9, 10] rfl (rfl)) (lv_sub hl [1, 0] (rfl))
      · refine lv_aload_n F.1 F.2.1 dX8_runs_10 rfl (lv_at hl 0 rfl) ?_
        refine z_get F B 0 rfl (ci := 10) (C := RX8) (T := TX8) (N := 37) rfl iX8_runs_X8 32 (by decide) fX8_runs_65 rfl dX8_runs_11 ?_
        refine lv_iload_n F.1 F.2.1 dX8_runs_14 rfl (lv_at hl 1 rfl) ?_
        refine lv_aload_n F.1 F.2.1 dX8_runs_15 rfl (lv_at hl 0 rfl) ?_
        refine z_get F B 0 rfl (ci := 10) (C := RX8) (T := TX8) (N := 37) rfl iX8_runs_X8 10 (by decide) fX8_runs_35 rfl dX8_runs_16 ?_
        refine lv_iload_n F.1 F.2.1 dX8_runs_19 rfl (lv_at hl 1 rfl) ?_
        refine z_iald F B 6 0 rfl rfl (j := y) (by omega) (by omega) dX8_runs_20 ?_
        refine W.eq (g2 := F0 m 21 ls [.int (nI (tp y)), .int (nI y), .ref (A8 15)]) (by rw [htp y (by omega)]) ?_
        refine z_iast F B 10 0 rfl rfl (j := y) (by omega) (by omega) dX8_runs_21 (fun H locs B => ?_)
        have B : zB D (zT cI cZ cG cJ) A s.heap s [(mm, .inr (10, zmo (nI th) (nI q) (nI g) (nI t) (nI r) (nI mb) (nI nc) (nI nl) (nI pv) (nI va) (nI n3) (nI ve) (nI ed) (nI se) (nI ci) (nI mr) (nI mt) (nI ld) A8)), (A8 0, .inl (cI, 8, .inl ff)), (A8 1, .inl (cI, 8, .inl fr)), (A8 2, .inl (cI, 8, .inl fto)), (A8 3, .inl (cI, 8, .inl fw)), (A8 4, .inl (cI, 8, .inl fm)), (A8 5, .inl (cI, 4, .inl fp)), (A8 12, .inl (cI, 3, .inl fch)), (A8 13, .inl (cI, 4, .inl fhe)), (A8 14, .inl (cI, 4, .inl fst)), (A8 15, .inl (cI, 16, .inl (upd fta1 y (nI (tp y)))))] _ _ := B
        refine lv_iinc (v := (nI (y + 1))) (lv' := [(1, .int (nI (y + 1))), (0, .ref mm)]) F.1 F.2.1 dX8_runs_22 hl (k := 1) rfl (by rw [show Int32.ofInt 1 = nI 1 from rfl, nI_add]) (by decide) rfl (fun ls hl => ?_)
        refine lv_goto (tgt := 2) F.1 F.2.1 dX8_runs_25 (by decide) ?_
        exact ih2 (y + 1) (upd fta1 y (nI (tp y))) (by first | omega | (simp only [] at *; omega)) (by omega) (fun x hx => by by_cases e9 : x = y; subst e9; exact pk_us; rw [pk_un e9]; exact h1 x (by omega)) _ _ _ (B.sub [0, 1, 2, 3, 4, 5, 6, 7, 8, 9, 10] rfl (rfl)) (lv_sub hl [1, 0] (rfl))
  exact loop2 (t + 1 - 0 + 1) 0 fta_ (Nat.lt_succ_self _) (by omega) (fun x hx => absurd hx (Nat.not_lt_zero _)) _ _ _ (B.sub [0, 1, 2, 3, 4, 5, 6, 7, 8, 9, 10] rfl (rfl)) (lv_sub hl [1, 0] (rfl))
theorem iX8_isTrue_X8 : ∀ w ∈ u_ws RX8 TX8 37, w ∈ wsX8_isTrue := fun w h => List.mem_cons_of_mem _ (List.mem_append_right _ h)
theorem fX8_isTrue_68 : Cond.fieldLink RX8 68 "TourChainModel" "truth" "[Z" ∈ wsX8_isTrue := by decide +kernel
set_option maxHeartbeats 4000000 in
set_option maxRecDepth 100000 in
theorem kX8_isTrue (l : Launch) (D : va_G) (cI cZ cG cJ : ClassId) (mm : Nat) (th : Nat) (q : Nat) (g : Nat) (t : Nat) (r : Nat) (mb : Nat) (nc : Nat) (nl : Nat) (pv : Nat) (va : Nat) (n3 : Nat) (ve : Nat) (ed : Nat) (se : Nat) (ci : Nat) (mr : Nat) (mt : Nat) (ld : Nat) (A8 : Nat → Nat) (ftr : Nat → Int32) (b : Nat → Nat) (x : Nat) (hb : ftr (x / 2) = nI (b (x / 2))) (hb1 : b (x / 2) ≤ 1) (hx : x / 2 < 170) : zC l yX8_isTrue wsX8_isTrue 0 0 0 0 D (zT cI cZ cG cJ) [.ref mm, .int (nI x)] [(mm, .inr (10, zmo (nI th) (nI q) (nI g) (nI t) (nI r) (nI mb) (nI nc) (nI nl) (nI pv) (nI va) (nI n3) (nI ve) (nI ed) (nI se) (nI ci) (nI mr) (nI mt) (nI ld) A8)), (A8 16, .inl (cZ, 170, .inl ftr))] (fun (ov : Option Value) (ow : va_W) => ∃ rb : Int32, ov = some (.int rb) ∧ ow = [(mm, .inr (10, zmo (nI th) (nI q) (nI g) (nI t) (nI r) (nI mb) (nI nc) (nI nl) (nI pv) (nI va) (nI n3) (nI ve) (nI ed) (nI se) (nI ci) (nI mr) (nI mt) (nI ld) A8)), (A8 16, .inl (cZ, 170, .inl ftr))] ∧ ((rb = 1 ∧ (¬ b (x / 2) = x % 2)) ∨ (rb = 0 ∧ ¬ (¬ b (x / 2) = x % 2)))) := by
  refine zC.of (cc := cX8_isTrue) (maxL := 2) (ret := (some .boolean)) (by decide) rfl (Nat.le_of_ble_eq_true rfl) ?_
  intro p e s m below meth c A ls F hr hlk hnm B hl
  have hl : lv_has ls 2 [(0, .ref mm), (1, .int (nI x))] := hl
  refine lv_aload_n F.1 F.2.1 dX8_isTrue_0 rfl (lv_at hl 0 rfl) ?_
  refine z_get F B 0 rfl (ci := 10) (C := RX8) (T := TX8) (N := 37) rfl iX8_isTrue_X8 33 (by decide) fX8_isTrue_68 rfl dX8_isTrue_1 ?_
  refine lv_iload_n F.1 F.2.1 dX8_isTrue_4 rfl (lv_at hl 1 rfl) ?_
  refine lv_iconst (v := (nI 2)) F.1 F.2.1 dX8_isTrue_5 (by decide) ?_
  refine z_idiv F (by omega) (by omega) (by omega) dX8_isTrue_6 ?_
  refine z_zald F B 1 1 rfl rfl (j := x / 2) (by omega) (by omega) dX8_isTrue_7 ?_
  refine W.eq (g2 := F0 m 8 ls [.int (nI (b (x / 2)))]) (by rw [hb]) ?_
  refine lv_iload_n F.1 F.2.1 dX8_isTrue_8 rfl (lv_at hl 1 rfl) ?_
  refine lv_iconst (v := (nI 2)) F.1 F.2.1 dX8_isTrue_9 (by decide) ?_
  refine z_irem F (by omega) (by omega) (by omega) dX8_isTrue_10 ?_
  refine z_if_ne (tgt := 18) F (by omega) dX8_isTrue_11 (by decide) (fun c11 => ?_) (fun c11 => ?_)
  · refine lv_iconst (v := (nI 0)) F.1 F.2.1 dX8_isTrue_18 (by decide) ?_
    refine z_icmp_ne (tgt := 26) F (by omega) (by omega) dX8_isTrue_19 (by decide) (fun c19 => ?_) (fun c19 => ?_)
    · refine lv_iconst (v := (nI 0)) F.1 F.2.1 dX8_isTrue_26 (by decide) ?_
      exact z_zret F hr hlk B (Or.inl rfl) [0, 1] rfl (rfl) dX8_isTrue_27 (by omega) (by omega) ⟨(nI 0), rfl, rfl, Or.inr ⟨rfl, by omega⟩⟩
    · refine lv_iconst (v := (nI 1)) F.1 F.2.1 dX8_isTrue_22 (by decide) ?_
      refine lv_goto (tgt := 27) F.1 F.2.1 dX8_isTrue_23 (by decide) ?_
      exact z_zret F hr hlk B (Or.inr rfl) [0, 1] rfl (rfl) dX8_isTrue_27 (by omega) (by omega) ⟨(nI 1), rfl, rfl, Or.inl ⟨rfl, by omega⟩⟩
  · refine lv_iconst (v := (nI 1)) F.1 F.2.1 dX8_isTrue_14 (by decide) ?_
    refine lv_goto (tgt := 19) F.1 F.2.1 dX8_isTrue_15 (by decide) ?_
    refine z_icmp_ne (tgt := 26) F (by omega) (by omega) dX8_isTrue_19 (by decide) (fun c19 => ?_) (fun c19 => ?_)
    · refine lv_iconst (v := (nI 0)) F.1 F.2.1 dX8_isTrue_26 (by decide) ?_
      exact z_zret F hr hlk B (Or.inl rfl) [0, 1] rfl (rfl) dX8_isTrue_27 (by omega) (by omega) ⟨(nI 0), rfl, rfl, Or.inr ⟨rfl, by omega⟩⟩
    · refine lv_iconst (v := (nI 1)) F.1 F.2.1 dX8_isTrue_22 (by decide) ?_
      refine lv_goto (tgt := 27) F.1 F.2.1 dX8_isTrue_23 (by decide) ?_
      exact z_zret F hr hlk B (Or.inr rfl) [0, 1] rfl (rfl) dX8_isTrue_27 (by omega) (by omega) ⟨(nI 1), rfl, rfl, Or.inl ⟨rfl, by omega⟩⟩
