/-! METHODS THAT THROW: a contract in one word; the world is as it was -/
abbrev zIS : String := "java/lang/IllegalStateException"
abbrev zIA : String := "java/lang/IllegalArgumentException"
abbrev zRE : List String := ["java/lang/RuntimeException", "java/lang/Exception"]
/-- words on exceptions that no warming disturbs, beside the good ones -/
def zXW (U : State) : Prop := va_Nw (.declares (Bundle.initS "java/lang/RuntimeException")) U ∧ va_Nw (.declares (Bundle.initS "java/lang/Exception")) U ∧ va_Nw (.declares (Bundle.initS Bundle.tN)) U ∧ va_Nw (.castable zIS zIS) U ∧ va_Nw (.castable zIA zIA) U ∧ va_Nc zIA zIS U
def zXT (U : State) : Prop := (∃ a, vk_R RX7 153 "not built" a U) ∧ (∃ a, vk_R RX7 224 "no trip" a U) ∧ (∃ a, vk_R RX7 189 "no such place or city" a U) ∧ (∃ a, vk_R RX7 195 "no such place" a U) ∧ ∃ a, vk_R RX7 222 "no run" a U
def zXZ (A : Nat → Prop) (U : State) (H : Heap) : Prop := vx_Zq Bundle.tN "UNASSIGNED_STACK" Bundle.steD A U H ∧ vx_Zq Bundle.tN "SUPPRESSED_SENTINEL" Bundle.listD A U H
theorem zXW.warm {s U : State} (hW : s.WarmedH U.vm) (h : zXW s) : zXW U := ⟨va_Nw.warmD hW h.1, va_Nw.warmD hW h.2.1, va_Nw.warmD hW h.2.2.1, va_Nw.warmC hW h.2.2.2.1, va_Nw.warmC hW h.2.2.2.2.1, va_Nc.moved hW.alike h.2.2.2.2.2⟩
theorem zXW.same {s U : State} (hv : s.vm = U.vm) (h : zXW s) : zXW U := ⟨va_Nw.same rfl hv h.1, va_Nw.same rfl hv h.2.1, va_Nw.same rfl hv h.2.2.1, va_Nw.same rfl hv h.2.2.2.1, va_Nw.same rfl hv h.2.2.2.2.1, va_Nc.moved (by rw [hv]; exact Vm.Alike.refl _) h.2.2.2.2.2⟩
theorem zXT.warm {s U : State} (hW : s.WarmedH U.vm) (h : zXT s) : zXT U := by
  obtain ⟨⟨a, ha⟩, ⟨b, hb⟩, ⟨d, hd⟩, ⟨e, he⟩, ⟨f, hf⟩⟩ := h
  exact ⟨⟨a, vk_R.warm hW ha⟩, ⟨b, vk_R.warm hW hb⟩, ⟨d, vk_R.warm hW hd⟩, ⟨e, vk_R.warm hW he⟩, ⟨f, vk_R.warm hW hf⟩⟩
theorem zXT.same {s U : State} (hv : s.vm = U.vm) (h : zXT s) : zXT U := by
  obtain ⟨⟨a, ha⟩, ⟨b, hb⟩, ⟨d, hd⟩, ⟨e, he⟩, ⟨f, hf⟩⟩ := h
  exact ⟨⟨a, vk_R.same hv.symm ha⟩, ⟨b, vk_R.same hv.symm hb⟩, ⟨d, vk_R.same hv.symm hd⟩, ⟨e, vk_R.same hv.symm he⟩, ⟨f, vk_R.same hv.symm hf⟩⟩
theorem zXZ.moved {A : Nat → Prop} {u U : State} {H : Heap} (hvm : u.vm.Alike U.vm) (h : zXZ A u H) : zXZ A U H := ⟨vx_Zq.moved hvm h.1, vx_Zq.moved hvm h.2⟩
theorem zXZ.kept {A : Nat → Prop} {U : State} {H H1 : Heap} (h : zXZ A U H) (hq : ∀ a : Nat, a < H.size → ¬ A a → H1[a]? = H[a]?) : zXZ A U H1 := ⟨h.1.kept hq, h.2.kept hq⟩
theorem zXZ.narrow {A B : Nat → Prop} {U : State} {H : Heap} (h : zXZ A U H) (hAB : ∀ q, B q → A q) : zXZ B U H := ⟨h.1.narrow hAB, h.2.narrow hAB⟩
/-- what a thrower's start has beside its world -/
def zXS (A : Nat → Prop) (U : State) : Prop := zXW U ∧ zXT U ∧ zXZ A U U.heap
abbrev ztPre (D : va_G) (tys : zTy) (wc : va_W) (sz : Nat) : State → Prop := fun U => zPre D tys wc sz U ∧ zXS (va_A wc sz) U
/-- what is thrown: E, and the world wc as it was -/
def ztX (D : va_G) (tys : zTy) (wc : va_W) (A : Nat → Prop) (E : String) : String → State → State → Prop := fun E' st t => E' = E ∧ va_P D vwCl wc t.heap ∧ va_K D vwCl tys t ∧ va_D A wc ∧ va_F A st t
def ztC (l : Launch) (y : MethodName) (wy : List Cond) (fr lo : Nat) (D : va_G) (tys : zTy) (as : List Value) (wc : va_W) (E : String) : Prop :=
  ∀ sz : Nat, vx_Met l y wy { frames := fr, cells := 1, slots := 6, locals := lo } (va_Pc as (ztPre D tys wc sz)) (fun _ _ _ _ => False) (ztX D tys wc (va_A wc sz) E) 1 6 (va_A wc sz)
def ztQ (below : List Frame) (args : Array Value) (s : State) (D : va_G) (tys : zTy) (A : Nat → Prop) (wc : va_W) (E : String) : State → Prop := vx_MQ below (fun _ _ _ _ => False) (ztX D tys wc A E) args s 1 6 A
theorem ztC.of {l : Launch} {y : MethodName} {wy wy' : List Cond} {fr lo : Nat} {D : va_G} {tys : zTy} {as : List Value} {wc : va_W} {E : String} {cc : ByteArray} {maxL : Nat} {ret : Option FieldType} (hy : plainName y.cls = true) (hw : wy = Cond.code y cc maxL ret :: wy') (hn : (lg_sl as).length ≤ maxL)
    (body : ∀ (p : Program) (e : Env) (s : State) (m : MethodId) (below : List Frame) (meth : Method) (c : Code) (A : Nat → Prop) (ls : Array Slot), CallFix p m c cc maxL s as.toArray wy y.cls → meth.sig.returnType = ret → meth.locks = false → (∀ x ∈ c.exceptionTable.toList, False) → zXS A s → zB D tys A s.heap s wc s.heap [] → lv_has ls maxL (lv_args 0 as) →
      W p l e { frames := fr, cells := 1, slots := 6, locals := lo } s m as.toArray below meth c s.heap [] 0 0 (ztQ below as.toArray s D tys A wc E) (F0 m 0 ls [])) : ztC l y wy fr lo D tys as wc E := by
  intro sz
  refine vx_ofW (cc := cc) (maxL := maxL) (ret := ret) hy hw ?_
  intro p e s m args below meth c s₁ B hml ht hv
  obtain ⟨rfl, ⟨hsz, hP, hK, hD0, hN⟩, hX⟩ := hv
  subst hsz
  have hl := lv_entry as (n := maxL) hn
  rw [lg_entry_eq]
  exact body p e s m below meth c (va_A wc s.heap.size) _ ⟨B.exec, B.bytes, hml, findClass_of_methodNamed B.named, atoms_spec (ws := wy) B.pre⟩ B.returns B.notSynchronized ht hX ⟨hK, hP, hD0.self, va_S.rf, fun q h => Or.inr h, hN⟩ hl
section ZR5
variable {p : Program} {l : Launch} {e : Env} {R : Room} {s : State} {m : MethodId} {args : Array Value} {below : List Frame} {meth : Method} {c : Code} {H : Heap} {locs : List Loc} {cells slots : Nat} {Q : State → Prop}
variable {cc : ByteArray} {nL pc : Nat} {ls : Array Slot} {rest : List Value} {D : va_G} {tys : zTy} {A : Nat → Prop} {H0 : Heap} {ws : va_W} {Ts : List Cond} {own : String}
theorem zx_end {wc : va_W} {E : String} (B : zB D tys A s.heap s ws H locs) (is : List Nat) (hn : va_nd is = true) (hs : is.map (fun i => ws[i]?) = wc.map some) (t : State) (hv : s.vm.Alike t.vm) (h1 : H.size ≤ t.heap.size) (h2 : ∀ q : Nat, q < H.size → t.heap[q]? = H[q]?) : ztX D tys wc A E E s t := by
  have B2 := B.sub is hn hs
  have hS := B.2.2.2.1
  refine ⟨rfl, B2.2.1.kept (fun k x hx => h2 _ ((B2.2.1 k x hx).lt)), va_K.moved hv B.1, B2.2.2.1, ⟨Nat.le_trans hS.1 h1, fun q q1 q2 => ?_⟩⟩
  rw [h2 q (Nat.lt_of_lt_of_le q1 hS.1)]
  exact hS.2.1 q q1 q2
/-- throw new E("text") at the end of a walk -/
theorem z_throw {wc : va_W} {E tx : String} {ik is0 ic sa : Nat} (F : CallFix p m c cc nL s args Ts own) (hl0 : l.stackTraces = false) (hlk : meth.locks = false) (ht : ∀ x ∈ c.exceptionTable.toList, False) (hls : ls.size = nL) (hE : Bundle.fit E = true) (hX : zXS A s) (hca : va_Nw (.castable E E) s) (hstr : vk_R own is0 tx sa s) (B : zB D tys A s.heap s ws H locs)
    (hw1 : Cond.classLink own ik E ∈ Ts) (hw2 : Cond.initialized E ∈ Ts) (hw3 : ∀ w ∈ (vx_atS own ic E zRE).filter goodWord, w ∈ Ts) (hw4 : ∀ w ∈ (vx_atS own ic E zRE).filter (fun w => !goodWord w), w ∈ [Cond.declares (Bundle.initS "java/lang/RuntimeException"), Cond.declares (Bundle.initS "java/lang/Exception"), Cond.declares (Bundle.initS Bundle.tN), Cond.castable E E])
    (hgood : ∀ w ∈ Cond.classLink own ik E :: Cond.initialized E :: vx_atS own ic E zRE, vx_ot w = true) (is : List Nat) (hn : va_nd is = true) (hs : is.map (fun i => ws[i]?) = wc.map some)
    (d0 : decode cc pc = .ok (.new ik, 3)) (d3 : decode cc (pc + 3) = .ok (.dup, 1)) (d4 : decode cc (pc + 4) = .ok (.ldc is0, 2)) (d6 : decode cc (pc + 6) = .ok (.invokespecial ic, 3)) (d9 : decode cc (pc + 9) = .ok (.athrow, 1)) (hfr : 5 < R.frames) (hlo : 82 ≤ R.locals) (hR1 : cells + 1 ≤ R.cells) (hR2 : slots + 6 ≤ R.slots) (hc1 : cells = 0) (hc2 : slots = 0) :
    W p l e R s m args below meth c H locs cells slots (ztQ below args s D tys A wc E) (F0 m pc ls []) := by
  subst hc1
  subst hc2
  refine vx_throwS (names := zRE) (text := tx) (sa := sa) (A := A) F.1 F.2.1 hl0 F.2.2.2.1 hE (by decide) (F.2.2.2.2 _ hw1) (F.2.2.2.2 _ hw2) hstr (vx_hat (fun w h => F.2.2.2.2 _ (hw3 w h)) hw4 (vx_c (va_Nw.use rfl hX.1.1) (vx_c (va_Nw.use rfl hX.1.2.1) (vx_c (va_Nw.use rfl hX.1.2.2.1) (vx_c (va_Nw.use rfl hca) vx_n))))) hgood hX.2.2.1 hX.2.2.2 B.2.2.2.1 (hls.trans F.2.2.1.symm) d0 d3 d4 d6 d9 (fun x hx => (ht x hx).elim) hfr hlo hR1 hR2 hlk (fun t hv h1 h2 => zx_end B is hn hs t hv h1 h2) B.2.2.2.1.2.2 (Nat.le_refl _) (Nat.le_refl _)
theorem zx_blind {as : List Value} {wc : va_W} {sz : Nat} : FrameBlind (va_Pc as (ztPre D tys wc sz)) := fun a U g mk q => by
  obtain ⟨q0, ⟨q1, qP, qK, qD, qN⟩, qW, qT, qZ⟩ := q
  exact ⟨q0, ⟨q1, qP, va_K.moved (u := U) (U := U.calling g mk a) (Vm.Alike.refl U.vm) qK, qD, zN.same (s := U) (U := U.calling g mk a) rfl qN⟩, zXW.same (s := U) (U := U.calling g mk a) rfl qW, zXT.same (s := U) (U := U.calling g mk a) rfl qT, zXZ.moved (u := U) (U := U.calling g mk a) (Vm.Alike.refl U.vm) qZ⟩
theorem zx_pre {as : List Value} {wc : va_W} (hX : zXW s ∧ zXT s ∧ zXZ A s H) (B : zB D tys A H0 s ws H locs) (isC : List Nat) (hnC : va_nd isC = true) (hC : isC.map (fun i => ws[i]?) = wc.map some) : ∀ U : State, U.heap = H → s.WarmedH U.vm → va_Pc as (ztPre D tys wc H.size) as.toArray U := fun U hU hW =>
  ⟨rfl, ⟨by rw [hU], by rw [hU]; exact B.2.1.sub isC (zfm hC), va_K.moved hW.alike B.1, (B.2.2.1.sub isC hnC hC).weaken (fun _ _ _ _ => trivial), zN.warm hW B.2.2.2.2.2⟩, zXW.warm hW hX.1, zXT.warm hW hX.2.1, by rw [hU]; exact zXZ.moved hW.alike (hX.2.2.narrow (va_free (wc := wc) B.2.2.1 B.2.2.2.1 B.2.2.2.2.1 isC hC))⟩
theorem zXS.at {locs : List Loc} (hX : zXS A s) (hS : va_S A s.heap H locs) : zXW s ∧ zXT s ∧ zXZ A s H := ⟨hX.1, hX.2.1, hX.2.2.kept hS.2.1⟩
/-- a virtual call of a method that throws: the world is as it was, and q is thrown over this frame -/
theorem z_callX {y : MethodName} {wy wy' : List Cond} {fr lo : Nat} {b : Nat} {As : List Value} {wc wr : va_W} {bytes : ByteArray} {maxL index : Nat} {ret : Option FieldType} {E : String} (F : CallFix p m c cc nL s args Ts own) (hX : zXW s ∧ zXT s ∧ zXZ A s H) (B : zB D tys A H0 s ws H locs) (hCt : ztC l y wy fr lo D tys (.ref b :: As) wc E) (hls : ls.size = nL) {C : String} {T : u_T} {N ci q0 : Nat} {fs : List Value} (hG : GoodIn Ts (wsV own index C y wy)) (hw : wy = Cond.code y bytes maxL ret :: wy') (n : Nat) (hy : y.cls = C ∧ y.cls ≠ "java/lang/invoke/MethodHandle" ∧ y.cls ≠ "java/lang/invoke/VarHandle" ∧ (parseMethodDescriptor y.desc).map (fun d => d.parameters.length) = some n) (hlen : As.length = n)
    (he : ws[q0]? = some (b, .inr (ci, fs))) (hc : vwCl[ci]? = some (C, T, N)) (isC isR : List Nat) (hnC : va_nd isC = true) (hC : isC.map (fun i => ws[i]?) = wc.map some) (hR : isR.map (fun i => ws[i]?) = wr.map some) (hn : va_nd isR = true) (hdis : ∀ i ∈ isR, i ∉ isC) (hfr : fr + 1 ≤ R.frames) (hlo : 8 + (maxL + 11) + lo ≤ R.locals) (hst : (rest.map fun v => v.category).sum ≤ 8) {st0 : List Value} (hst0 : st0 = As.reverse ++ .ref b :: rest) (hd : decode cc pc = .ok (.invokevirtual index, 3)) (hc1 : cells + 1 ≤ R.cells) (hs1 : slots + 6 ≤ R.slots)
    (kx : ∀ (q : Addr) (ce : Cell) (H : Heap) (locs : List Loc), H[q]? = some ce → ce.vm = .none → s.vm.findClass E = some ce.cls → zB D tys A H0 s (wr ++ wc) H locs → vx_W p l e R s m args below meth c H locs (cells + 1) (slots + 6) Q (F0 m pc ls rest) q) : W p l e R s m args below meth c H locs cells slots Q (F0 m pc ls st0) := by
  subst hst0
  have hr := vx_runV (As := As) (rest := rest) F (hCt H.size) (cwV n F.2.2.2.2 hG hw rfl rfl hy ⟨hfr, hlo⟩) (g := F0 m pc ls (As.reverse ++ .ref b :: rest)) (H := H) (locs := locs) (below := below) (e := e) (cells := cells) (slots := slots) (meth := meth) ⟨zx_blind, va_recv B.1 B.2.1 hc he, zx_pre hX B isC hnC hC⟩ rfl hlen hls rfl (lv_room hst) hd ⟨hc1, hs1⟩
  obtain ⟨hK, hP, hD, hS, hA, hN⟩ := B
  intro T0 hT X
  rcases hr T0 hT X with ⟨v, st₀, t, T', L, h0, X', hL, e1, e2, hq, st⟩ | ⟨q, st₀, t, T', L, E', ce, h0, X', hL, e1, e2, ⟨rfl, hP1, hK1, hD1, hz, hk⟩, hce, hcv, hcl, st⟩
  · exact hq.elim
  · rw [h0] at hz hk
    have hFc := va_free (wc := wc) hD hS hA isC hC
    obtain ⟨hP2, hD2⟩ := va_join (wr := wr) (w1 := wc) (H1 := T'.heap) hP hD isC isR hC hR hn hdis (fun q h1 h2 => by rw [e1]; exact hk q h1 h2) hFc (by rw [e1]; exact hP1) hD1
    obtain ⟨t2, a1, b1⟩ := kx q ce T'.heap (locs ++ L) (by rw [e1]; exact hce) hcv hcl ⟨hK, hP2, hD2, ⟨Nat.le_trans hS.1 (by rw [e1]; exact hz), fun q h1 h2 => by rw [e1, hk q (Nat.lt_of_lt_of_le h1 hS.1) (fun z => h2 (hFc q z))]; exact hS.2.1 q h1 h2, fun q hq => by
      rcases List.mem_append.mp hq with h | h
      · exact hS.2.2 q h
      · exact hFc _ (hL q h)⟩, hA, hN⟩ T' rfl X'
    exact ⟨t2, st.trans a1, b1⟩
/-- it goes on to the caller -/
theorem z_out {wc : va_W} {E : String} {q : Addr} {ce : Cell} (hlk : meth.locks = false) (ht : ∀ x ∈ c.exceptionTable.toList, False) (hce : H[q]? = some ce) (hv : ce.vm = .none) (hcl : s.vm.findClass E = some ce.cls) (B : zB D tys A s.heap s ws H locs) (is : List Nat) (hn : va_nd is = true) (hs : is.map (fun i => ws[i]?) = wc.map some) (hc1 : cells ≤ 1) (hc2 : slots ≤ 6) : vx_W p l e R s m args below meth c H locs cells slots (ztQ below args s D tys A wc E) (F0 m pc ls rest) q :=
  vx_out (fun x hx => (ht x hx).elim) hlk hce hv hcl (fun t h1 h2 => zx_end B is hn hs t h2 (by rw [h1]; exact Nat.le_refl _) (fun q _ => by rw [h1])) B.2.2.2.1.2.2 hc1 hc2
end ZR5
