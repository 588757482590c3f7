/-! THE LAW: its loop -/
theorem zLI_K {xo mm ou : Nat} {cI cZ cG cJ : ClassId} {K : Nat} {ws : va_W} (hI : zLI xo mm ou cI cZ cG cJ K ws) : K ≤ 170000 := by
  refine hI _ ?_
  intro mo af ar at_ aw am ap ru rch rhe rst rce fo lo la so sa to tw go gva gsi gsd gst fd fta fca tr tpk trw tsb rc A8 q g t r xb xs pv va fh fs fk nl ns nt ve ed se ci cl cs ct cv c1 c2 c3 cta cca crw cpk csb z1 z2 ff fr fto fw fm fp fch fhe fst hh fl ft f3 fv f1 f2 f3s ftr fcv fpk frw fsb th8 nc8 nl8 pv8 va8 n38 ve8 ed8 se8 ci8 ld8 ff8 fr8 fto8 fw8 fm8 fp8 ft8 fl8 f38 fbe8 ffe8 fle8 fch8 fhe8 fst8 fta8 ftr8 ftp8 fse8 fo_ rl tp Cs L3 n3 ch rr fi dir hws0 hKe hLM hLC hLB hLS
  exact zLC_K hLC hKe
set_option maxHeartbeats 8000000 in
set_option maxRecDepth 100000 in
theorem law_step {p : Program} {l : Launch} {e : Env} {s : State} {m : MethodId} {below : List Frame} {meth : Method} {c : Code} {Q : State → Prop} {D : va_G} {cI cZ cG cJ : ClassId} {b L : Nat} {xs_ : Nat → Int32} {xo mm ou : Nat} {A : Nat → Prop} (hl0 : l.stackTraces = false) (F : CallFix p m c cL_law 7 s #[Value.ref b] wsL_law RL) (hXs : va_X b L xs_ s s.heap) (hbl : b < s.heap.size) (hbA : ¬ A b) (hX : zXS A s) (hL : L ≤ 3072) (i : Nat) (hi : i ≤ L) (K : Nat) (ws : va_W) (H : Heap) (locs : List Loc) (ls : Array Slot) (hI : zLI xo mm ou cI cZ cG cJ K ws) (B : zB D (zT cI cZ cG cJ) A s.heap s ws H locs) (hl : lv_has ls 7 [(0, .ref b), (1, .ref xo), (2, .ref mm), (3, .ref ou), (4, .int (nI i))]) (hend : ∀ (K : Nat) (ws : va_W) (H : Heap) (locs : List Loc) (ls : Array Slot), K ≤ 170000 → zB D (zT cI cZ cG cJ) A s.heap s ws H locs → W p l e room_1 s m #[Value.ref b] below meth c H locs (100 + K + i) (200000 + 2 * K + 6 * (i)) Q (F0 m 912 ls [])) (hnext : i + 6 ≤ L → ∀ (K : Nat) (ws : va_W) (H : Heap) (locs : List Loc) (ls : Array Slot), zLI xo mm ou cI cZ cG cJ K ws → zB D (zT cI cZ cG cJ) A s.heap s ws H locs → lv_has ls 7 [(0, .ref b), (1, .ref xo), (2, .ref mm), (3, .ref ou), (4, .int (nI (i + 6)))] → W p l e room_1 s m #[Value.ref b] below meth c H locs (100 + K + (i + 6)) (200000 + 2 * K + 6 * (i + 6)) Q (F0 m 23 ls [])) : W p l e room_1 s m #[Value.ref b] below meth c H locs (100 + K + i) (200000 + 2 * K + 6 * (i)) Q (F0 m 23 ls []) := by
  have hKb := zLI_K hI
  refine lv_iload F.1 F.2.1 dL_law_23 (lv_at hl 4 rfl) ?_
  refine lv_aload_n F.1 F.2.1 dL_law_25 rfl (lv_at hl 0 rfl) ?_
  refine va_slen F.1 F.2.1 hXs hbl hbA B.2.2.2.1 dL_law_26 ?_
  refine lv_bipush (v := (nI 6)) F.1 F.2.1 dL_law_27 (by decide) ?_
  refine lv_isub F.1 F.2.1 dL_law_29 ?_
  refine lv_icmp_gt (tgt := 912) F.1 F.2.1 dL_law_30 (by decide) (fun _ => ?_) (fun hq => ?_)
  · exact hend K ws H locs ls hKb B
  · have hi6 : i + 6 ≤ L := by
      have e1 : (nI L - nI 6).toInt = (L : Int) - 6 := pk_sub_toInt (a := L) (b := 6) (by omega) (by decide)
      have e2 : (nI i).toInt = (i : Int) := nI_toInt (by omega)
      have q : ¬ (nI L - nI 6) < nI i := hq
      rw [Int32.lt_iff_toInt_lt, e1, e2] at q
      omega
    have kk : (∀ (K : Nat) (ws : va_W) (H : Heap) (locs : List Loc) (ls : Array Slot), zLI xo mm ou cI cZ cG cJ K ws → zB D (zT cI cZ cG cJ) A s.heap s ws H locs → lv_has ls 7 [(0, .ref b), (1, .ref xo), (2, .ref mm), (3, .ref ou), (4, .int (nI i))] → W p l e room_1 s m #[Value.ref b] below meth c H locs (100 + K + i + 6) (200000 + 2 * K + 6 * (i + 6)) Q (F0 m 906 ls [])) := by
      intro K ws H locs ls hI B hl
      refine lv_iinc (v := (nI (i + 6))) (lv' := [(4, .int (nI (i + 6))), (0, .ref b), (1, .ref xo), (2, .ref mm), (3, .ref ou)]) F.1 F.2.1 dL_law_906 hl (k := 4) rfl (by rw [show Int32.ofInt 6 = nI 6 from rfl, nI_add]) (by decide) rfl (fun ls hl => ?_)
      refine lv_goto (tgt := 23) F.1 F.2.1 dL_law_909 (by decide) ?_
      exact hnext hi6 K ws H locs ls hI B (lv_sub hl [1, 2, 3, 4, 0] rfl)
    refine lv_aload_n F.1 F.2.1 dL_law_33 rfl (lv_at hl 0 rfl) ?_
    refine lv_iload F.1 F.2.1 dL_law_34 (lv_at hl 4 rfl) ?_
    refine z_sld F hXs hbl hbA B (show i < L by omega) (by omega) dL_law_36 ?_
    refine lv_bipush (v := (nI 31)) F.1 F.2.1 dL_law_37 (by decide) ?_
    refine lv_iand F.1 F.2.1 dL_law_39 ?_
    by_cases hs : 0 ≤ (xs_ i &&& nI 31).toInt ∧ (xs_ i &&& nI 31).toInt ≤ 18
    · rcases (show (xs_ i &&& nI 31).toInt = 0 ∨ (xs_ i &&& nI 31).toInt = 1 ∨ (xs_ i &&& nI 31).toInt = 2 ∨ (xs_ i &&& nI 31).toInt = 3 ∨ (xs_ i &&& nI 31).toInt = 4 ∨ (xs_ i &&& nI 31).toInt = 5 ∨ (xs_ i &&& nI 31).toInt = 6 ∨ (xs_ i &&& nI 31).toInt = 7 ∨ (xs_ i &&& nI 31).toInt = 8 ∨ (xs_ i &&& nI 31).toInt = 9 ∨ (xs_ i &&& nI 31).toInt = 10 ∨ (xs_ i &&& nI 31).toInt = 11 ∨ (xs_ i &&& nI 31).toInt = 12 ∨ (xs_ i &&& nI 31).toInt = 13 ∨ (xs_ i &&& nI 31).toInt = 14 ∨ (xs_ i &&& nI 31).toInt = 15 ∨ (xs_ i &&& nI 31).toInt = 16 ∨ (xs_ i &&& nI 31).toInt = 17 ∨ (xs_ i &&& nI 31).toInt = 18 by omega) with hse | hse | hse | hse | hse | hse | hse | hse | hse | hse | hse | hse | hse | hse | hse | hse | hse | hse | hse
      · refine lv_tableIn (off := 92) (tgt := 132) F.1 F.2.1 dL_law_40 (by rw [hse]; decide) (by rw [hse]; decide) (by rw [hse]; rfl) (by decide) ?_
        exact law_c0 hl0 F hXs hbl hbA hX hL i hi6 K ws H locs ls hI B hl kk
      · refine lv_tableIn (off := 141) (tgt := 181) F.1 F.2.1 dL_law_40 (by rw [hse]; decide) (by rw [hse]; decide) (by rw [hse]; rfl) (by decide) ?_
        exact law_c1 hl0 F hXs hbl hbA hX hL i hi6 K ws H locs ls hI B hl kk
      · refine lv_tableIn (off := 214) (tgt := 254) F.1 F.2.1 dL_law_40 (by rw [hse]; decide) (by rw [hse]; decide) (by rw [hse]; rfl) (by decide) ?_
        exact law_c2 hl0 F hXs hbl hbA hX hL i hi6 K ws H locs ls hI B hl kk
      · refine lv_tableIn (off := 251) (tgt := 291) F.1 F.2.1 dL_law_40 (by rw [hse]; decide) (by rw [hse]; decide) (by rw [hse]; rfl) (by decide) ?_
        exact law_c3 hl0 F hXs hbl hbA hX hL i hi6 K ws H locs ls hI B hl kk
      · refine lv_tableIn (off := 264) (tgt := 304) F.1 F.2.1 dL_law_40 (by rw [hse]; decide) (by rw [hse]; decide) (by rw [hse]; rfl) (by decide) ?_
        exact law_c4 hl0 F hXs hbl hbA hX hL i hi6 K ws H locs ls hI B hl kk
      · refine lv_tableIn (off := 289) (tgt := 329) F.1 F.2.1 dL_law_40 (by rw [hse]; decide) (by rw [hse]; decide) (by rw [hse]; rfl) (by decide) ?_
        exact law_c5 hl0 F hXs hbl hbA hX hL i hi6 K ws H locs ls hI B hl kk
      · refine lv_tableIn (off := 326) (tgt := 366) F.1 F.2.1 dL_law_40 (by rw [hse]; decide) (by rw [hse]; decide) (by rw [hse]; rfl) (by decide) ?_
        exact law_c6 hl0 F hXs hbl hbA hX hL i hi6 K ws H locs ls hI B hl kk
      · refine lv_tableIn (off := 363) (tgt := 403) F.1 F.2.1 dL_law_40 (by rw [hse]; decide) (by rw [hse]; decide) (by rw [hse]; rfl) (by decide) ?_
        exact law_c7 hl0 F hXs hbl hbA hX hL i hi6 K ws H locs ls hI B hl kk
      · refine lv_tableIn (off := 400) (tgt := 440) F.1 F.2.1 dL_law_40 (by rw [hse]; decide) (by rw [hse]; decide) (by rw [hse]; rfl) (by decide) ?_
        exact law_c8 hl0 F hXs hbl hbA hX hL i hi6 K ws H locs ls hI B hl kk
      · refine lv_tableIn (off := 437) (tgt := 477) F.1 F.2.1 dL_law_40 (by rw [hse]; decide) (by rw [hse]; decide) (by rw [hse]; rfl) (by decide) ?_
        exact law_c9 hl0 F hXs hbl hbA hX hL i hi6 K ws H locs ls hI B hl kk
      · refine lv_tableIn (off := 488) (tgt := 528) F.1 F.2.1 dL_law_40 (by rw [hse]; decide) (by rw [hse]; decide) (by rw [hse]; rfl) (by decide) ?_
        exact law_c10 hl0 F hXs hbl hbA hX hL i hi6 K ws H locs ls hI B hl kk
      · refine lv_tableIn (off := 513) (tgt := 553) F.1 F.2.1 dL_law_40 (by rw [hse]; decide) (by rw [hse]; decide) (by rw [hse]; rfl) (by decide) ?_
        exact law_c11 hl0 F hXs hbl hbA hX hL i hi6 K ws H locs ls hI B hl kk
      · refine lv_tableIn (off := 538) (tgt := 578) F.1 F.2.1 dL_law_40 (by rw [hse]; decide) (by rw [hse]; decide) (by rw [hse]; rfl) (by decide) ?_
        exact law_c12 hl0 F hXs hbl hbA hX hL i hi6 K ws H locs ls hI B hl kk
      · refine lv_tableIn (off := 563) (tgt := 603) F.1 F.2.1 dL_law_40 (by rw [hse]; decide) (by rw [hse]; decide) (by rw [hse]; rfl) (by decide) ?_
        exact law_c13 hl0 F hXs hbl hbA hX hL i hi6 K ws H locs ls hI B hl kk
      · refine lv_tableIn (off := 588) (tgt := 628) F.1 F.2.1 dL_law_40 (by rw [hse]; decide) (by rw [hse]; decide) (by rw [hse]; rfl) (by decide) ?_
        exact law_c14 hl0 F hXs hbl hbA hX hL i hi6 K ws H locs ls hI B hl kk
      · refine lv_tableIn (off := 656) (tgt := 696) F.1 F.2.1 dL_law_40 (by rw [hse]; decide) (by rw [hse]; decide) (by rw [hse]; rfl) (by decide) ?_
        exact law_c15 hl0 F hXs hbl hbA hX hL i hi6 K ws H locs ls hI B hl kk
      · refine lv_tableIn (off := 720) (tgt := 760) F.1 F.2.1 dL_law_40 (by rw [hse]; decide) (by rw [hse]; decide) (by rw [hse]; rfl) (by decide) ?_
        exact law_c16 hl0 F hXs hbl hbA hX hL i hi6 K ws H locs ls hI B hl kk
      · refine lv_tableIn (off := 764) (tgt := 804) F.1 F.2.1 dL_law_40 (by rw [hse]; decide) (by rw [hse]; decide) (by rw [hse]; rfl) (by decide) ?_
        exact law_c17 hl0 F hXs hbl hbA hX hL i hi6 K ws H locs ls hI B hl kk
      · refine lv_tableIn (off := 815) (tgt := 855) F.1 F.2.1 dL_law_40 (by rw [hse]; decide) (by rw [hse]; decide) (by rw [hse]; rfl) (by decide) ?_
        exact law_c18 hl0 F hXs hbl hbA hX hL i hi6 K ws H locs ls hI B hl kk
    · refine lv_tableOut (tgt := 906) F.1 F.2.1 dL_law_40 (by omega) (by decide) ?_
      exact W.widen (k := 100 + K + i + 6) (n := 200000 + 2 * K + 6 * (i + 6)) (by omega) (by omega) (kk K ws H locs ls hI B hl)
theorem law_loop {p : Program} {l : Launch} {e : Env} {s : State} {m : MethodId} {below : List Frame} {meth : Method} {c : Code} {Q : State → Prop} {D : va_G} {cI cZ cG cJ : ClassId} {b L : Nat} {xs_ : Nat → Int32} {xo mm ou : Nat} {A : Nat → Prop} (hl0 : l.stackTraces = false) (F : CallFix p m c cL_law 7 s #[Value.ref b] wsL_law RL) (hXs : va_X b L xs_ s s.heap) (hbl : b < s.heap.size) (hbA : ¬ A b) (hX : zXS A s) (hL : L ≤ 3072) (hend : ∀ (i : Nat) (K : Nat) (ws : va_W) (H : Heap) (locs : List Loc) (ls : Array Slot), K ≤ 170000 → i ≤ L → zB D (zT cI cZ cG cJ) A s.heap s ws H locs → W p l e room_1 s m #[Value.ref b] below meth c H locs (100 + K + i) (200000 + 2 * K + 6 * (i)) Q (F0 m 912 ls [])) : ∀ (n i : Nat), L - i ≤ n → i ≤ L → ∀ (K : Nat) (ws : va_W) (H : Heap) (locs : List Loc) (ls : Array Slot), zLI xo mm ou cI cZ cG cJ K ws → zB D (zT cI cZ cG cJ) A s.heap s ws H locs → lv_has ls 7 [(0, .ref b), (1, .ref xo), (2, .ref mm), (3, .ref ou), (4, .int (nI i))] → W p l e room_1 s m #[Value.ref b] below meth c H locs (100 + K + i) (200000 + 2 * K + 6 * (i)) Q (F0 m 23 ls []) := by
  intro n
  induction n with
  | zero =>
    intro i h0 hi K ws H locs ls hI B hl
    exact law_step hl0 F hXs hbl hbA hX hL i hi K ws H locs ls hI B hl (fun K ws H locs ls hK B => hend i K ws H locs ls hK hi B) (fun h6 => absurd h6 (by omega))
  | succ n ih =>
    intro i h0 hi K ws H locs ls hI B hl
    exact law_step hl0 F hXs hbl hbA hX hL i hi K ws H locs ls hI B hl (fun K ws H locs ls hK B => hend i K ws H locs ls hK hi B) (fun h6 => ih (i + 6) (by omega) h6)
