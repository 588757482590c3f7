/-! METHODS WITH A TABLE OF HANDLERS; a row for long arrays -/
theorem zh_ofW {l : Launch} {y : MethodName} {ws ws' : List Cond} {rm : Room} {Pc : Array Value → State → Prop} {Qc : Array Value → State → Outcome → State → Prop} {mc ms : Nat} {free : Addr → Prop} {cc : ByteArray} {maxL : Nat} {ret : Option FieldType} {hh : List (Nat × Nat × Nat × Nat)}
    (hy : plainName y.cls = true) (hw : ws = Cond.codeWith y cc maxL ret hh :: ws')
    (body : ∀ p e s m args below meth c s₁, BodyLoose p l y (headSpec ws rm) cc maxL ret e s m args below meth c s₁ → c.maxLocals = maxL → Pc args s →
      W p l e (headSpec ws rm).room s m args below meth c s.heap [] 0 0 (MQ below Qc args s mc ms free) (entryFrame m args maxL)) : Met l y ws rm Pc Qc mc ms free := by
  refine MetFree.of_bodyS (code := cc) (maxLocals := maxL) (ret := ret) hy ?_ ?_
  · intro args s m h hn
    obtain ⟨m9, meth, c, hn9, h1, h2, h3, h4, -, h5, h6, -⟩ := Cond.codeWith_spec (atoms_spec (ws := ws) h _ (by rw [hw]; exact List.mem_cons_self))
    cases hn.symm.trans hn9
    exact ⟨meth, c, h1, h2, h3, h4, h5, h6⟩
  · intro p e s m args below meth c s₁ B hml hP _
    have hh0 : s₁.heap = s.heap := by rw [B.state]; rfl
    obtain ⟨t, a1, o, b1, b2, b3⟩ := body p e s m args below meth c s₁ B hml hP s₁ hh0 (Stand.of_body B)
    exact ⟨t, o, a1, b1, b2, ⟨b3.1, b3.2⟩⟩
theorem zC.ofH {l : Launch} {y : MethodName} {wy wy' : List Cond} {fr lo mc ms : Nat} {D : va_G} {tys : zTy} {as : List Value} {wc : va_W} {Rr : Option Value → va_W → Prop} {cc : ByteArray} {maxL : Nat} {ret : Option FieldType} {hh : List (Nat × Nat × Nat × Nat)} (hy : plainName y.cls = true) (hw : wy = Cond.codeWith y cc maxL ret hh :: wy') (hn : (lg_sl as).length ≤ maxL)
    (body : ∀ (p : Program) (e : Env) (s : State) (m : MethodId) (below : List Frame) (meth : Method) (c : Code) (A : Nat → Prop) (ls : Array Slot), CallFix p m c cc maxL s as.toArray wy y.cls → meth.sig.returnType = ret → meth.locks = false → meth.name = y.name → zB D tys A s.heap s wc s.heap [] → lv_has ls maxL (lv_args 0 as) →
      W p l e { frames := fr, cells := mc, slots := ms, locals := lo } s m as.toArray below meth c s.heap [] 0 0 (zQ below as.toArray s D tys A Rr mc ms) (F0 m 0 ls [])) : zC l y wy fr lo mc ms D tys as wc Rr := by
  intro sz
  refine zh_ofW (cc := cc) (maxL := maxL) (ret := ret) hy hw ?_
  intro p e s m args below meth c s₁ B hml hv
  obtain ⟨rfl, hsz, hP, hK, hD0, hN⟩ := hv
  subst hsz
  have hl := lv_entry as (n := maxL) hn
  rw [lg_entry_eq]
  exact body p e s m below meth c (va_A wc s.heap.size) _ ⟨B.exec, B.bytes, hml, findClass_of_methodNamed B.named, atoms_spec (ws := wy) B.pre⟩ B.returns B.notSynchronized (name_of_methodNamed B.named B.method).1 ⟨hK, hP, hD0.self, va_S.rf, fun q h => Or.inr h, hN⟩ hl
/-- a contract whose start knows of exceptions -/
def zCX (l : Launch) (y : MethodName) (wy : List Cond) (fr lo mc ms : Nat) (D : va_G) (tys : zTy) (as : List Value) (wc : va_W) (Rr : Option Value → va_W → Prop) : Prop :=
  ∀ sz : Nat, Met l y wy { frames := fr, cells := mc, slots := ms, locals := lo } (va_Pc as (ztPre D tys wc sz)) (fun _ => zPost D tys (va_A wc sz) Rr) mc ms (va_A wc sz)
theorem zCX.ofH {l : Launch} {y : MethodName} {wy wy' : List Cond} {fr lo mc ms : Nat} {D : va_G} {tys : zTy} {as : List Value} {wc : va_W} {Rr : Option Value → va_W → Prop} {cc : ByteArray} {maxL : Nat} {ret : Option FieldType} {hh : List (Nat × Nat × Nat × Nat)} (hy : plainName y.cls = true) (hw : wy = Cond.codeWith y cc maxL ret hh :: wy') (hn : (lg_sl as).length ≤ maxL)
    (body : ∀ (p : Program) (e : Env) (s : State) (m : MethodId) (below : List Frame) (meth : Method) (c : Code) (A : Nat → Prop) (ls : Array Slot), CallFix p m c cc maxL s as.toArray wy y.cls → meth.sig.returnType = ret → meth.locks = false → c.exceptionTable.toList = tableOf hh → zXS A s → zB D tys A s.heap s wc s.heap [] → lv_has ls maxL (lv_args 0 as) →
      W p l e { frames := fr, cells := mc, slots := ms, locals := lo } s m as.toArray below meth c s.heap [] 0 0 (zQ below as.toArray s D tys A Rr mc ms) (F0 m 0 ls [])) : zCX l y wy fr lo mc ms D tys as wc Rr := by
  intro sz
  refine zh_ofW (cc := cc) (maxL := maxL) (ret := ret) hy hw ?_
  intro p e s m args below meth c s₁ B hml hv
  obtain ⟨rfl, ⟨hsz, hP, hK, hD0, hN⟩, hX⟩ := hv
  subst hsz
  have hl := lv_entry as (n := maxL) hn
  rw [lg_entry_eq]
  have hts := atoms_spec (ws := wy) B.pre
  exact body p e s m below meth c (va_A wc s.heap.size) _ ⟨B.exec, B.bytes, hml, findClass_of_methodNamed B.named, hts⟩ B.returns B.notSynchronized (vx_table (x := y) B (hts _ (by rw [hw]; exact List.mem_cons_self))) hX ⟨hK, hP, hD0.self, va_S.rf, fun q h => Or.inr h, hN⟩ hl
section ZR6
variable {p : Program} {l : Launch} {e : Env} {R : Room} {s : State} {m : MethodId} {args : Array Value} {below : List Frame} {meth : Method} {c : Code} {H : Heap} {locs : List Loc} {cells slots : Nat} {Q : State → Prop}
variable {cc : ByteArray} {nL pc : Nat} {ls : Array Slot} {rest : List Value} {D : va_G} {tys : zTy} {A : Nat → Prop} {H0 : Heap} {ws : va_W} {Ts : List Cond} {own : String} {Rr : Option Value → va_W → Prop}
/-- lastore at a place j -/
theorem z_last (F : CallFix p m c cc nL s args Ts own) (B : zB D tys A H0 s ws H locs) (q0 t0 : Nat) {a : Nat} {cA : ClassId} {n : Nat} {f : Nat → Int64} (ha : ws[q0]? = some (a, .inl (cA, n, .inr (.inl f)))) (ht : tys[t0]? = some (cA, .long)) {j : Nat} {x : Int64} (hj : j < n) (hn : n < 2 ^ 31) (hd : decode cc pc = .ok (.lastore, 1))
    (kk : ∀ (H : Heap) (locs : List Loc), zB D tys A H0 s (ws.set q0 (a, .inl (cA, n, .inr (.inl (vp_updL f j x))))) H locs → W p l e R s m args below meth c H locs cells slots Q (F0 m (pc + 1) ls rest)) : W p l e R s m args below meth c H locs cells slots Q (F0 m pc ls (.long x :: .int (nI j) :: .ref a :: rest)) := by
  refine va_last F.1 F.2.1 B.1 B.2.1 B.2.2.1 B.2.2.2.1 q0 t0 ha ht (vp_in_nI hj hn) hd (fun H1 L1 hP hD hS => ?_)
  rw [nI_clamp (show j < 2 ^ 31 by omega)] at hP hD
  exact kk H1 L1 ⟨B.1, hP, hD, hS, B.2.2.2.2.1, B.2.2.2.2.2⟩
/-- laload at a place j -/
theorem z_lald (F : CallFix p m c cc nL s args Ts own) (B : zB D tys A H0 s ws H locs) (q0 t0 : Nat) {a : Nat} {cA : ClassId} {n : Nat} {f : Nat → Int64} (ha : ws[q0]? = some (a, .inl (cA, n, .inr (.inl f)))) (ht : tys[t0]? = some (cA, .long)) {j : Nat} (hj : j < n) (hn : n < 2 ^ 31) (hd : decode cc pc = .ok (.laload, 1))
    (kk : W p l e R s m args below meth c H locs cells slots Q (F0 m (pc + 1) ls (.long (f j) :: rest))) : W p l e R s m args below meth c H locs cells slots Q (F0 m pc ls (.int (nI j) :: .ref a :: rest)) := by
  refine va_lald F.1 F.2.1 B.1 B.2.1 q0 t0 ha ht (vp_in_nI hj hn) hd ?_
  rw [nI_clamp (by omega)]
  exact kk
/-- a static call of a method with handlers -/
theorem z_callSH {y : MethodName} {wy wy' : List Cond} {fr lo mc ms : Nat} {As : List Value} {wc wr : va_W} {bytes : ByteArray} {maxL index : Nat} {ret : Option FieldType} {hh : List (Nat × Nat × Nat × Nat)} (F : CallFix p m c cc nL s args Ts own) (B : zB D tys A H0 s ws H locs) (hCt : zC l y wy fr lo mc ms D tys As wc Rr) (hls : ls.size = nL) (hG : GoodIn Ts (va_wsS own index y wy)) (hw : wy = Cond.codeWith y bytes maxL ret hh :: wy') (n : Nat) (hy : y.cls ≠ "java/lang/invoke/MethodHandle" ∧ y.cls ≠ "java/lang/invoke/VarHandle" ∧ (parseMethodDescriptor y.desc).map (fun d => d.parameters.length) = some n) (hlen : As.length = n)
    (isC isR : List Nat) (hnC : va_nd isC = true) (hC : isC.map (fun i => ws[i]?) = wc.map some) (hR : isR.map (fun i => ws[i]?) = wr.map some) (hn : va_nd isR = true) (hdis : ∀ i ∈ isR, i ∉ isC) (hfr : fr + 1 ≤ R.frames) (hlo : 8 + (maxL + 11) + lo ≤ R.locals) (hst : (rest.map fun v => v.category).sum ≤ 8) {st0 : List Value} (hst0 : st0 = As.reverse ++ rest) (hd : decode cc pc = .ok (.invokestatic index, 3)) (hc1 : cells + mc ≤ R.cells) (hs1 : slots + ms ≤ R.slots)
    (kk : ∀ (v : Option Value) (w' : va_W) (H : Heap) (locs : List Loc), Rr v w' → zB D tys A H0 s (wr ++ w') H locs → W p l e R s m args below meth c H locs (cells + mc) (slots + ms) Q (F0 m (pc + 3) ls (v.toList ++ rest))) : W p l e R s m args below meth c H locs cells slots Q (F0 m pc ls st0) := by
  subst hst0
  refine z_go B isC isR hC hR hn hdis ?_ kk
  exact vx_runSW (As := As) (rest := rest) F (hCt H.size) (vx_cwSW n F.2.2.2.2 hG hw rfl rfl hy ⟨hfr, hlo⟩) ⟨z_blind, z_pre B isC hnC hC⟩ rfl hlen hls rfl (lv_room hst) hd ⟨hc1, hs1⟩
theorem z_callSX {y : MethodName} {wy wy' : List Cond} {fr lo mc ms : Nat} {As : List Value} {wc wr : va_W} {bytes : ByteArray} {maxL index : Nat} {ret : Option FieldType} {hh : List (Nat × Nat × Nat × Nat)} (F : CallFix p m c cc nL s args Ts own) (hX : zXW s ∧ zXT s ∧ zXZ A s H) (B : zB D tys A H0 s ws H locs) (hCt : zCX l y wy fr lo mc ms D tys As wc Rr) (hls : ls.size = nL) (hG : GoodIn Ts (va_wsS own index y wy)) (hw : wy = Cond.codeWith y bytes maxL ret hh :: wy') (n : Nat) (hy : y.cls ≠ "java/lang/invoke/MethodHandle" ∧ y.cls ≠ "java/lang/invoke/VarHandle" ∧ (parseMethodDescriptor y.desc).map (fun d => d.parameters.length) = some n) (hlen : As.length = n)
    (isC isR : List Nat) (hnC : va_nd isC = true) (hC : isC.map (fun i => ws[i]?) = wc.map some) (hR : isR.map (fun i => ws[i]?) = wr.map some) (hn : va_nd isR = true) (hdis : ∀ i ∈ isR, i ∉ isC) (hfr : fr + 1 ≤ R.frames) (hlo : 8 + (maxL + 11) + lo ≤ R.locals) (hst : (rest.map fun v => v.category).sum ≤ 8) {st0 : List Value} (hst0 : st0 = As.reverse ++ rest) (hd : decode cc pc = .ok (.invokestatic index, 3)) (hc1 : cells + mc ≤ R.cells) (hs1 : slots + ms ≤ R.slots)
    (kk : ∀ (v : Option Value) (w' : va_W) (H : Heap) (locs : List Loc), Rr v w' → zB D tys A H0 s (wr ++ w') H locs → W p l e R s m args below meth c H locs (cells + mc) (slots + ms) Q (F0 m (pc + 3) ls (v.toList ++ rest))) : W p l e R s m args below meth c H locs cells slots Q (F0 m pc ls st0) := by
  subst hst0
  refine z_go B isC isR hC hR hn hdis ?_ kk
  exact vx_runSW (As := As) (rest := rest) F (hCt H.size) (vx_cwSW n F.2.2.2.2 hG hw rfl rfl hy ⟨hfr, hlo⟩) ⟨zx_blind, zx_pre hX B isC hnC hC⟩ rfl hlen hls rfl (lv_room hst) hd ⟨hc1, hs1⟩
/-- caught by the first row of the table -/
theorem z_catch1 {E : String} {q : Addr} {ce : Cell} {x : ExceptionTableEntry} {suf : List ExceptionTableEntry} (F : CallFix p m c cc nL s args Ts own) (ht : c.exceptionTable.toList = x :: suf) (hx : covers x pc = true) (h0 : x.catchType ≠ 0) (hlink : Cond.classLink own x.catchType E ∈ Ts) (hca : va_Nw (.castable E E) s) (hce : H[q]? = some ce) (hv : ce.vm = .none) (hcl : s.vm.findClass E = some ce.cls)
    (kk : W p l e R s m args below meth c H locs cells slots Q (F0 m x.handlerPc ls [.ref q])) : vx_W p l e R s m args below meth c H locs cells slots Q (F0 m pc ls rest) q :=
  vx_catch F.2.2.2.1 [] x suf ht (fun z hz => absurd hz List.not_mem_nil) hx h0 (F.2.2.2.2 _ hlink) (va_Nw.use rfl hca) hce hv hcl kk
/-- caught by the second row: the first names another class -/
theorem z_catch2 {E N1 : String} {q : Addr} {ce : Cell} {x x1 : ExceptionTableEntry} {suf : List ExceptionTableEntry} (F : CallFix p m c cc nL s args Ts own) (ht : c.exceptionTable.toList = x1 :: x :: suf) (h1 : x1.catchType ≠ 0) (hl1 : Cond.classLink own x1.catchType N1 ∈ Ts) (hnc : va_Nc E N1 s) (hx : covers x pc = true) (h0 : x.catchType ≠ 0) (hlink : Cond.classLink own x.catchType E ∈ Ts) (hca : va_Nw (.castable E E) s) (hce : H[q]? = some ce) (hv : ce.vm = .none) (hcl : s.vm.findClass E = some ce.cls)
    (kk : W p l e R s m args below meth c H locs cells slots Q (F0 m x.handlerPc ls [.ref q])) : vx_W p l e R s m args below meth c H locs cells slots Q (F0 m pc ls rest) q :=
  vx_catch F.2.2.2.1 [x1] x suf ht (fun z hz => by rw [List.mem_singleton.mp hz]; exact Or.inr ⟨h1, N1, F.2.2.2.2 _ hl1, hnc⟩) hx h0 (F.2.2.2.2 _ hlink) (va_Nw.use rfl hca) hce hv hcl kk
end ZR6
