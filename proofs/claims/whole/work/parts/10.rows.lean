/-! PACKED ROWS: a world in one word (zB), a contract in one word (zC), a row a call -/
/-- the links between nest mates -/
def zNW : List Cond := [.methodLinkNest RX7 9 yX3_init RX7, .methodLinkNest RX0 9 yX4_init RX7, .methodLinkNest RX3 53 yX7_isIndex RX7, .methodLinkNest RX0 104 yX7_yes RX7, .methodLinkNest RX0 128 yX7_no RX7, .methodLinkNest RX0 151 yX7_isIndex RX7, .methodLinkNest RX2 48 yX7_roomFor RX7, .methodLinkNest RX2 54 yX7_yes RX7, .methodLinkNest RX2 58 yX7_no RX7, .methodLinkNest RX5 82 yX7_isIndex RX7, .methodLinkNest RX1 34 yX7_roomFor RX7, .methodLinkNest RX6 29 yX7_roomFor RX7]
def zN (s : State) : Prop := ∀ w ∈ zNW, va_Nw w s
theorem zNW_form : ∀ w ∈ zNW, ∃ (a : String) (i : Nat) (x : MethodName) (h : String), w = .methodLinkNest a i x h := by
  intro w hw
  simp only [zNW, List.mem_cons, List.not_mem_nil, or_false] at hw
  rcases hw with rfl | rfl | rfl | rfl | rfl | rfl | rfl | rfl | rfl | rfl | rfl | rfl <;> exact ⟨_, _, _, _, rfl⟩
theorem zN.warm {s U : State} (hW : s.WarmedH U.vm) (h : zN s) : zN U := by
  intro w hw
  obtain ⟨a, i, x, h', rfl⟩ := zNW_form w hw
  exact va_Nw.warmM hW (h _ hw)
theorem zN.same {s U : State} (hv : s.vm = U.vm) (h : zN s) : zN U := by
  intro w hw
  obtain ⟨a, i, x, h', rfl⟩ := zNW_form w hw
  exact va_Nw.same rfl hv (h _ hw)
abbrev zTy : Type := List (ClassId × FieldType)
/-- the array classes: int[], boolean[], int[][], long[] -/
abbrev zT (cI cZ cG cJ : ClassId) : zTy := [(cI, .int), (cZ, .boolean), (cG, .array .int), (cJ, .long)]
/-- a world: the tables, the cells ws, apart, since H0 nothing changed but what A names -/
def zB (D : va_G) (tys : zTy) (A : Nat → Prop) (H0 : Heap) (s : State) (ws : va_W) (H : Heap) (locs : List Loc) : Prop :=
  va_K D vwCl tys s ∧ va_P D vwCl ws H ∧ va_D A ws ∧ va_S A H0 H locs ∧ (∀ q, H0.size ≤ q → A q) ∧ zN s
theorem zfm {is : List Nat} {ws w' : va_W} (h : is.map (fun i => ws[i]?) = w'.map some) : is.filterMap (fun i => ws[i]?) = w' := by
  have e : is.filterMap (fun i => ws[i]?) = (is.map (fun i => ws[i]?)).filterMap id := by rw [List.filterMap_map]; rfl
  rw [e, h, List.filterMap_map]
  simp
theorem zB.sub {D : va_G} {tys : zTy} {A : Nat → Prop} {H0 : Heap} {s : State} {ws w' : va_W} {H : Heap} {locs : List Loc} (B : zB D tys A H0 s ws H locs) (is : List Nat) (hn : va_nd is = true) (hs : is.map (fun i => ws[i]?) = w'.map some) : zB D tys A H0 s w' H locs :=
  ⟨B.1, B.2.1.sub is (zfm hs), B.2.2.1.sub is hn hs, B.2.2.2.1, B.2.2.2.2.1, B.2.2.2.2.2⟩
/-- a contract's start: the cells wc -/
abbrev zPre (D : va_G) (tys : zTy) (wc : va_W) (sz : Nat) : State → Prop := fun U => U.heap.size = sz ∧ va_P D vwCl wc U.heap ∧ va_K D vwCl tys U ∧ va_D (fun _ => True) wc ∧ zN U
/-- a contract's end: an answer v and cells w' of which Rr holds -/
abbrev zPost (D : va_G) (tys : zTy) (A : Nat → Prop) (Rr : Option Value → va_W → Prop) : State → Outcome → State → Prop := fun st oc t => (∃ (v : Option Value) (w' : va_W), oc = .returned v ∧ Rr v w' ∧ va_P D vwCl w' t.heap ∧ va_K D vwCl tys t ∧ va_D A w') ∧ va_F A st t
/-- a contract -/
def zC (l : Launch) (y : MethodName) (wy : List Cond) (fr lo mc ms : Nat) (D : va_G) (tys : zTy) (as : List Value) (wc : va_W) (Rr : Option Value → va_W → Prop) : Prop :=
  ∀ sz : Nat, Met l y wy { frames := fr, cells := mc, slots := ms, locals := lo } (va_Pc as (zPre D tys wc sz)) (fun _ => zPost D tys (va_A wc sz) Rr) mc ms (va_A wc sz)
/-- where a walk of a contract's body must end -/
def zQ (below : List Frame) (args : Array Value) (s : State) (D : va_G) (tys : zTy) (A : Nat → Prop) (Rr : Option Value → va_W → Prop) (mc ms : Nat) : State → Prop := MQ below (fun _ => zPost D tys A Rr) args s mc ms A
theorem zC.of {l : Launch} {y : MethodName} {wy wy' : List Cond} {fr lo mc ms : Nat} {D : va_G} {tys : zTy} {as : List Value} {wc : va_W} {Rr : Option Value → va_W → Prop} {cc : ByteArray} {maxL : Nat} {ret : Option FieldType} (hy : plainName y.cls = true) (hw : wy = Cond.code y cc maxL ret :: wy') (hn : (lg_sl as).length ≤ maxL)
    (body : ∀ (p : Program) (e : Env) (s : State) (m : MethodId) (below : List Frame) (meth : Method) (c : Code) (A : Nat → Prop) (ls : Array Slot), CallFix p m c cc maxL s as.toArray wy y.cls → meth.sig.returnType = ret → meth.locks = false → meth.name = y.name → zB D tys A s.heap s wc s.heap [] → lv_has ls maxL (lv_args 0 as) →
      W p l e { frames := fr, cells := mc, slots := ms, locals := lo } s m as.toArray below meth c s.heap [] 0 0 (zQ below as.toArray s D tys A Rr mc ms) (F0 m 0 ls [])) : zC l y wy fr lo mc ms D tys as wc Rr := by
  intro sz
  refine Met.ofW (cc := cc) (maxL := maxL) (ret := ret) hy hw ?_
  intro p e s m args below meth c s₁ B hml hv
  obtain ⟨rfl, hsz, hP, hK, hD0, hN⟩ := hv
  subst hsz
  have hl := lv_entry as (n := maxL) hn
  rw [lg_entry_eq]
  exact body p e s m below meth c (va_A wc s.heap.size) _ ⟨B.exec, B.bytes, hml, findClass_of_methodNamed B.named, atoms_spec (ws := wy) B.pre⟩ B.returns B.notSynchronized (name_of_methodNamed B.named B.method).1 ⟨hK, hP, hD0.self, va_S.rf, fun q h => Or.inr h, hN⟩ hl
section ZR
variable {p : Program} {l : Launch} {e : Env} {R : Room} {s : State} {m : MethodId} {args : Array Value} {below : List Frame} {meth : Method} {c : Code} {H : Heap} {locs : List Loc} {cells slots : Nat} {Q : State → Prop}
variable {cc : ByteArray} {nL pc : Nat} {ls : Array Slot} {rest : List Value} {D : va_G} {tys : zTy} {A : Nat → Prop} {H0 : Heap} {ws : va_W} {Ts : List Cond} {own : String} {Rr : Option Value → va_W → Prop} {mc ms : Nat}
theorem z_end (B : zB D tys A s.heap s ws H locs) {v : Option Value} {w' : va_W} (hR : Rr v w') (is : List Nat) (hn : va_nd is = true) (hs : is.map (fun i => ws[i]?) = w'.map some) : ∀ t : State, t.heap = H → s.WarmedH t.vm → zPost D tys A Rr s (.returned v) t := by
  intro t ht hW
  have B2 := B.sub is hn hs
  exact ⟨⟨v, w', rfl, hR, by rw [ht]; exact B2.2.1, va_K.moved hW.alike B.1, B2.2.2.1⟩, B.2.2.2.1.F ht⟩
theorem z_iret (F : CallFix p m c cc nL s args Ts own) (hr : meth.sig.returnType = some .int) (hlk : meth.locks = false) (B : zB D tys A s.heap s ws H locs) {v : Int32} {w' : va_W} (is : List Nat) (hn : va_nd is = true) (hs : is.map (fun i => ws[i]?) = w'.map some) (hd : decode cc pc = .ok (.ireturn, 1)) (h1 : cells ≤ mc) (h2 : slots ≤ ms) (hR : Rr (some (.int v)) w') : W p l e R s m args below meth c H locs cells slots (zQ below args s D tys A Rr mc ms) (F0 m pc ls [.int v]) := by
  refine W.widen h1 h2 ?_
  exact W.iret F.1 F.2.1 hr (z_end B hR is hn hs) B.2.2.2.1.2.2 hd hlk
theorem z_zret (F : CallFix p m c cc nL s args Ts own) (hr : meth.sig.returnType = some .boolean) (hlk : meth.locks = false) (B : zB D tys A s.heap s ws H locs) {v : Int32} {w' : va_W} (hv : v = 0 ∨ v = 1) (is : List Nat) (hn : va_nd is = true) (hs : is.map (fun i => ws[i]?) = w'.map some) (hd : decode cc pc = .ok (.ireturn, 1)) (h1 : cells ≤ mc) (h2 : slots ≤ ms) (hR : Rr (some (.int v)) w') : W p l e R s m args below meth c H locs cells slots (zQ below args s D tys A Rr mc ms) (F0 m pc ls [.int v]) := by
  refine W.widen h1 h2 ?_
  exact W.zret F.1 F.2.1 hr (by rcases hv with rfl | rfl <;> decide) (z_end B hR is hn hs) B.2.2.2.1.2.2 hd hlk
theorem z_vret (F : CallFix p m c cc nL s args Ts own) (hr : meth.sig.returnType = none) (hlk : meth.locks = false) (B : zB D tys A s.heap s ws H locs) {w' : va_W} (is : List Nat) (hn : va_nd is = true) (hs : is.map (fun i => ws[i]?) = w'.map some) (hd : decode cc pc = .ok (.return_, 1)) (h1 : cells ≤ mc) (h2 : slots ≤ ms) (hR : Rr none w') : W p l e R s m args below meth c H locs cells slots (zQ below args s D tys A Rr mc ms) (F0 m pc ls []) := by
  refine W.widen h1 h2 ?_
  exact W.vret F.1 F.2.1 hr (z_end B hR is hn hs) B.2.2.2.1.2.2 hd hlk
theorem z_aret (F : CallFix p m c cc nL s args Ts own) {rt : FieldType} (hr : meth.sig.returnType = some rt) (hrt : (∃ n, rt = .object n) ∨ ∃ t, rt = .array t) (hlk : meth.locks = false) (B : zB D tys A s.heap s ws H locs) {a : Nat} {w' : va_W} (is : List Nat) (hn : va_nd is = true) (hs : is.map (fun i => ws[i]?) = w'.map some) (hd : decode cc pc = .ok (.areturn, 1)) (h1 : cells ≤ mc) (h2 : slots ≤ ms) (hR : Rr (some (.ref a)) w') : W p l e R s m args below meth c H locs cells slots (zQ below args s D tys A Rr mc ms) (F0 m pc ls [.ref a]) := by
  refine W.widen h1 h2 ?_
  exact W.aret F.1 F.2.1 hr hrt (Or.inr ⟨a, rfl⟩) (z_end B hR is hn hs) B.2.2.2.1.2.2 hd hlk
/-- getfield -/
theorem z_get (F : CallFix p m c cc nL s args Ts own) (B : zB D tys A H0 s ws H locs) (q0 : Nat) {a ci : Nat} {fs : List Value} (he : ws[q0]? = some (a, .inr (ci, fs))) {C : String} {T : u_T} {N : Nat} (hc : vwCl[ci]? = some (C, T, N)) (hin : ∀ w ∈ u_ws C T N, w ∈ Ts) (k : Nat) (hk : k < N) {index : Nat} (hlk : Cond.fieldLink own index (T k).1 (T k).2.1 (T k).2.2.1 ∈ Ts) {v : Value} (hv : fs[k]? = some v) (hd : decode cc pc = .ok (.getfield index, 3))
    (kk : W p l e R s m args below meth c H locs cells slots Q (F0 m (pc + 3) ls (v :: rest))) : W p l e R s m args below meth c H locs cells slots Q (F0 m pc ls (.ref a :: rest)) :=
  va_get F.1 F.2.1 F.2.2.2.2 hin F.2.2.2.1 B.1 B.2.1 q0 he hc k hk (F.2.2.2.2 _ hlk) (fun _ h => h) hv hd kk
/-- putfield -/
theorem z_put (F : CallFix p m c cc nL s args Ts own) (B : zB D tys A H0 s ws H locs) (q0 : Nat) {a ci : Nat} {fs : List Value} (he : ws[q0]? = some (a, .inr (ci, fs))) {C : String} {T : u_T} {N : Nat} (hc : vwCl[ci]? = some (C, T, N)) (hin : ∀ w ∈ u_ws C T N, w ∈ Ts) (ty0 : Nat → FieldType) (hty : ∀ k, k < N → parseFieldDescriptor (T k).2.2.1 = some (ty0 k)) (hnm : ∀ a, a < N → ∀ b, b < N → a ≠ b → (T a).2.1 ≠ (T b).2.1) (k : Nat) (hk : k < N) {index : Nat} (hlk : Cond.fieldLink own index (T k).1 (T k).2.1 (T k).2.2.1 ∈ Ts) (hfin : (T k).2.2.2 = false) {v : Value} (hn : narrow (ty0 k) v = v) (hfit : fits (ty0 k) v = true) (hl : k < fs.length) (hd : decode cc pc = .ok (.putfield index, 3))
    (kk : ∀ (H : Heap) (locs : List Loc), zB D tys A H0 s (ws.set q0 (a, .inr (ci, fs.set k v))) H locs → W p l e R s m args below meth c H locs cells slots Q (F0 m (pc + 3) ls rest)) : W p l e R s m args below meth c H locs cells slots Q (F0 m pc ls (v :: .ref a :: rest)) :=
  va_put F.1 F.2.1 F.2.2.2.2 hin ty0 hty hnm F.2.2.2.1 B.1 B.2.1 B.2.2.1 B.2.2.2.1 q0 he hc k hk (F.2.2.2.2 _ hlk) (fun _ h => h) hfin (hty k hk) hn hfit hl hd (fun H1 L1 hP hD hS => kk H1 L1 ⟨B.1, hP, hD, hS, B.2.2.2.2.1, B.2.2.2.2.2⟩)
/-- putfield of a final field, in a constructor -/
theorem z_putF (F : CallFix p m c cc nL s args Ts own) (B : zB D tys A H0 s ws H locs) (hi : meth.name = "<init>") (q0 : Nat) {a ci : Nat} {fs : List Value} (he : ws[q0]? = some (a, .inr (ci, fs))) {C : String} {T : u_T} {N : Nat} (hc : vwCl[ci]? = some (C, T, N)) (hin : ∀ w ∈ u_ws C T N, w ∈ Ts) (ty0 : Nat → FieldType) (hty : ∀ k, k < N → parseFieldDescriptor (T k).2.2.1 = some (ty0 k)) (hnm : ∀ a, a < N → ∀ b, b < N → a ≠ b → (T a).2.1 ≠ (T b).2.1) (k : Nat) (hk : k < N) {index : Nat} (hlk : Cond.fieldLink own index (T k).1 (T k).2.1 (T k).2.2.1 ∈ Ts) (hfin : (T k).2.2.2 = true) (hdc : (T k).1 = own) {v : Value} (hn : narrow (ty0 k) v = v) (hfit : fits (ty0 k) v = true) (hl : k < fs.length) (hd : decode cc pc = .ok (.putfield index, 3))
    (kk : ∀ (H : Heap) (locs : List Loc), zB D tys A H0 s (ws.set q0 (a, .inr (ci, fs.set k v))) H locs → W p l e R s m args below meth c H locs cells slots Q (F0 m (pc + 3) ls rest)) : W p l e R s m args below meth c H locs cells slots Q (F0 m pc ls (v :: .ref a :: rest)) :=
  va_putF F.1 F.2.1 F.2.2.2.2 hin ty0 hty hnm F.2.2.2.1 B.1 B.2.1 B.2.2.1 B.2.2.2.1 q0 he hc k hk (F.2.2.2.2 _ hlk) (fun _ h => h) hfin hi hdc (hty k hk) hn hfit hl hd (fun H1 L1 hP hD hS => kk H1 L1 ⟨B.1, hP, hD, hS, B.2.2.2.2.1, B.2.2.2.2.2⟩)
/-- iaload at a place j -/
theorem z_iald (F : CallFix p m c cc nL s args Ts own) (B : zB D tys A H0 s ws H locs) (q0 t0 : Nat) {a : Nat} {cA : ClassId} {n : Nat} {f : Nat → Int32} (ha : ws[q0]? = some (a, .inl (cA, n, .inl f))) (ht : tys[t0]? = some (cA, .int)) {j : Nat} (hj : j < n) (hn : n < 2 ^ 31) (hd : decode cc pc = .ok (.iaload, 1))
    (kk : W p l e R s m args below meth c H locs cells slots Q (F0 m (pc + 1) ls (.int (f j) :: rest))) : W p l e R s m args below meth c H locs cells slots Q (F0 m pc ls (.int (nI j) :: .ref a :: rest)) := by
  refine va_iald F.1 F.2.1 B.1 B.2.1 q0 t0 ha ht (vp_in_nI hj hn) hd ?_
  rw [nI_clamp (by omega)]
  exact kk
/-- iastore at a place j -/
theorem z_iast (F : CallFix p m c cc nL s args Ts own) (B : zB D tys A H0 s ws H locs) (q0 t0 : Nat) {a : Nat} {cA : ClassId} {n : Nat} {f : Nat → Int32} (ha : ws[q0]? = some (a, .inl (cA, n, .inl f))) (ht : tys[t0]? = some (cA, .int)) {j : Nat} {x : Int32} (hj : j < n) (hn : n < 2 ^ 31) (hd : decode cc pc = .ok (.iastore, 1))
    (kk : ∀ (H : Heap) (locs : List Loc), zB D tys A H0 s (ws.set q0 (a, .inl (cA, n, .inl (upd f j x)))) H locs → W p l e R s m args below meth c H locs cells slots Q (F0 m (pc + 1) ls rest)) : W p l e R s m args below meth c H locs cells slots Q (F0 m pc ls (.int x :: .int (nI j) :: .ref a :: rest)) := by
  refine va_iast F.1 F.2.1 B.1 B.2.1 B.2.2.1 B.2.2.2.1 q0 t0 ha ht (vp_in_nI hj hn) hd (fun H1 L1 hP hD hS => ?_)
  rw [nI_clamp (show j < 2 ^ 31 by omega)] at hP hD
  exact kk H1 L1 ⟨B.1, hP, hD, hS, B.2.2.2.2.1, B.2.2.2.2.2⟩
/-- arraylength -/
theorem z_alen (F : CallFix p m c cc nL s args Ts own) (B : zB D tys A H0 s ws H locs) (q0 t0 : Nat) {a : Nat} {cA : ClassId} {x : vp_A} (ha : ws[q0]? = some (a, .inl (cA, x))) {ty : FieldType} (ht : tys[t0]? = some (cA, ty)) (hd : decode cc pc = .ok (.arraylength, 1))
    (kk : W p l e R s m args below meth c H locs cells slots Q (F0 m (pc + 1) ls (.int (nI x.1) :: rest))) : W p l e R s m args below meth c H locs cells slots Q (F0 m pc ls (.ref a :: rest)) :=
  va_alen F.1 F.2.1 B.1 B.2.1 q0 t0 ha ht rfl hd kk
/-- new int[n] -/
theorem z_newi (F : CallFix p m c cc nL s args Ts own) (B : zB D tys A H0 s ws H locs) (t0 : Nat) {cA : ClassId} (ht : tys[t0]? = some (cA, .int)) (harr : Cond.arrayClass .int ∈ Ts) {n : Nat} (hn : n ≤ 134217728) (hc : cells + 1 ≤ R.cells) (hs : slots + n ≤ R.slots) (hd : decode cc pc = .ok (.newarray .int, 2))
    (kk : ∀ (q : Nat) (H : Heap), zB D tys A H0 s (ws ++ [(q, .inl (cA, n, .inl (fun _ => 0)))]) H locs → W p l e R s m args below meth c H locs (cells + 1) (slots + n) Q (F0 m (pc + 2) ls (.ref q :: rest))) : W p l e R s m args below meth c H locs cells slots Q (F0 m pc ls (.int (nI n) :: rest)) := by
  have hcl : (nI n).toNatClampNeg = n := nI_clamp (by omega)
  refine va_newa (atype := .int) (ty := .int) (a0 := (n, .inl (fun _ => 0))) F.1 F.2.1 (F.2.2.2.2 _ harr) rfl B.1 B.2.1 B.2.2.1 B.2.2.2.1 B.2.2.2.2.1 (fun cB => by rw [vp_cell_i]; rfl) (nI_pos (by omega)) hcl (by show n * 4 ≤ 536870912; omega) hc hs hd (fun q cB H1 hK hP hD hS => ?_)
  have e1 : s.vm.findClass ("[" ++ FieldType.int.toString) = some cB := (hK.2 tys.length (cB, .int) (by simp)).2
  have e2 : s.vm.findClass ("[" ++ FieldType.int.toString) = some cA := (B.1.2 t0 (cA, .int) ht).2
  have e3 : cB = cA := Option.some.inj (e1.symm.trans e2)
  subst e3
  exact kk q H1 ⟨B.1, hP, hD, hS, B.2.2.2.2.1, B.2.2.2.2.2⟩
/-- new C -/
theorem z_new (F : CallFix p m c cc nL s args Ts own) (B : zB D tys A H0 s ws H locs) {ci : Nat} {C : String} {T : u_T} {N : Nat} (hc : vwCl[ci]? = some (C, T, N)) (hin : ∀ w ∈ u_ws C T N, w ∈ Ts) (ty0 : Nat → FieldType) (hty : ∀ k, k < N → parseFieldDescriptor (T k).2.2.1 = some (ty0 k)) {index : Nat} (hcl : Cond.classLink own index C ∈ Ts) (hinst : Cond.instantiable C N ∈ Ts) (hini : Cond.initialized C ∈ Ts) {fs : List Value} (hfs : ∀ j, j < N → defaultValue (ty0 j) = vp_V fs j) (hcs : cells + 1 ≤ R.cells) (hss : slots + N ≤ R.slots) (hd : decode cc pc = .ok (.new index, 3))
    (kk : ∀ (q : Nat) (H : Heap), zB D tys A H0 s (ws ++ [(q, .inr (ci, fs))]) H locs → W p l e R s m args below meth c H locs (cells + 1) (slots + N) Q (F0 m (pc + 3) ls (.ref q :: rest))) : W p l e R s m args below meth c H locs cells slots Q (F0 m pc ls rest) :=
  va_new F.1 F.2.1 F.2.2.2.2 hin ty0 hty F.2.2.2.1 (F.2.2.2.2 _ hcl) (F.2.2.2.2 _ hinst) (F.2.2.2.2 _ hini) B.1 B.2.1 B.2.2.1 B.2.2.2.1 B.2.2.2.2.1 hc hfs hcs hss hd (fun q H1 hP hD hS => kk q H1 ⟨B.1, hP, hD, hS, B.2.2.2.2.1, B.2.2.2.2.2⟩)
/-- behind a call: the callee's cells as it left them, beside the rest -/
theorem z_go {wc wr : va_W} {st0 : List Value} {mc ms : Nat} (B : zB D tys A H0 s ws H locs) (isC isR : List Nat) (hC : isC.map (fun i => ws[i]?) = wc.map some) (hR : isR.map (fun i => ws[i]?) = wr.map some) (hn : va_nd isR = true) (hdis : ∀ i ∈ isR, i ∉ isC)
    (hr : va_Run p l e R s m args below meth c H locs cells slots mc ms (F0 m pc ls st0) rest (zPost D tys (va_A wc H.size) Rr) (va_A wc H.size))
    (kk : ∀ (v : Option Value) (w' : va_W) (H : Heap) (locs : List Loc), Rr v w' → zB D tys A H0 s (wr ++ w') H locs → W p l e R s m args below meth c H locs (cells + mc) (slots + ms) Q (F0 m (pc + 3) ls (v.toList ++ rest))) : W p l e R s m args below meth c H locs cells slots Q (F0 m pc ls st0) := by
  obtain ⟨hK, hP, hD, hS, hA, hN⟩ := B
  intro T hT X
  obtain ⟨v, st₀, t, T', L, h0, X', hL, e1, e2, ⟨⟨v', w', hv, hRr, hP1, hK1, hD1⟩, hz, hk⟩, st⟩ := hr T hT X
  cases hv
  rw [h0] at hz hk
  have hFc := va_free (wc := wc) hD hS hA isC hC
  obtain ⟨hP2, hD2⟩ := va_join (wr := wr) (w1 := w') (H1 := T'.heap) hP hD isC isR hC hR hn hdis (fun q h1 h2 => by rw [e1]; exact hk q h1 h2) hFc (by rw [e1]; exact hP1) hD1
  obtain ⟨t2, a1, b1⟩ := kk v w' T'.heap (locs ++ L) hRr ⟨hK, hP2, hD2, ⟨Nat.le_trans hS.1 (by rw [e1]; exact hz), fun q h1 h2 => by rw [e1, hk q (Nat.lt_of_lt_of_le h1 hS.1) (fun z => h2 (hFc q z))]; exact hS.2.1 q h1 h2, fun q hq => by
      rcases List.mem_append.mp hq with h | h
      · exact hS.2.2 q h
      · exact hFc _ (hL q h)⟩, hA, hN⟩ T' rfl X'
  exact ⟨t2, st t2 a1, b1⟩
theorem z_blind {as : List Value} {wc : va_W} {sz : Nat} : FrameBlind (va_Pc as (zPre D tys wc sz)) := fun a U g mk q => by
  obtain ⟨q0, q1, qP, qK, qD, qN⟩ := q
  exact ⟨q0, q1, qP, va_K.moved (u := U) (U := U.calling g mk a) (Vm.Alike.refl U.vm) qK, qD, zN.same (s := U) (U := U.calling g mk a) rfl qN⟩
theorem z_pre {as : List Value} {wc : va_W} (B : zB D tys A H0 s ws H locs) (isC : List Nat) (hnC : va_nd isC = true) (hC : isC.map (fun i => ws[i]?) = wc.map some) : ∀ U : State, U.heap = H → s.WarmedH U.vm → va_Pc as (zPre D tys wc H.size) as.toArray U := fun U hU hW =>
  ⟨rfl, by rw [hU], by rw [hU]; exact B.2.1.sub isC (zfm hC), va_K.moved hW.alike B.1, (B.2.2.1.sub isC hnC hC).weaken (fun _ _ _ _ => trivial), zN.warm hW B.2.2.2.2.2⟩
/-- a virtual call -/
theorem z_callV {y : MethodName} {wy wy' : List Cond} {fr lo mc ms : Nat} {b : Nat} {As : List Value} {wc wr : va_W} {bytes : ByteArray} {maxL index : Nat} {ret : Option FieldType} (F : CallFix p m c cc nL s args Ts own) (B : zB D tys A H0 s ws H locs) (hCt : zC l y wy fr lo mc ms D tys (.ref b :: As) wc Rr) (hls : ls.size = nL) {C : String} {T : u_T} {N ci q0 : Nat} {fs : List Value} (hG : GoodIn Ts (wsV own index C y wy)) (hw : wy = Cond.code y bytes maxL ret :: wy') (n : Nat) (hy : y.cls = C ∧ y.cls ≠ "java/lang/invoke/MethodHandle" ∧ y.cls ≠ "java/lang/invoke/VarHandle" ∧ (parseMethodDescriptor y.desc).map (fun d => d.parameters.length) = some n) (hlen : As.length = n)
    (he : ws[q0]? = some (b, .inr (ci, fs))) (hc : vwCl[ci]? = some (C, T, N)) (isC isR : List Nat) (hnC : va_nd isC = true) (hC : isC.map (fun i => ws[i]?) = wc.map some) (hR : isR.map (fun i => ws[i]?) = wr.map some) (hn : va_nd isR = true) (hdis : ∀ i ∈ isR, i ∉ isC) (hfr : fr + 1 ≤ R.frames) (hlo : 8 + (maxL + 11) + lo ≤ R.locals) (hst : (rest.map fun v => v.category).sum ≤ 8) {st0 : List Value} (hst0 : st0 = As.reverse ++ .ref b :: rest) (hd : decode cc pc = .ok (.invokevirtual index, 3)) (hc1 : cells + mc ≤ R.cells) (hs1 : slots + ms ≤ R.slots)
    (kk : ∀ (v : Option Value) (w' : va_W) (H : Heap) (locs : List Loc), Rr v w' → zB D tys A H0 s (wr ++ w') H locs → W p l e R s m args below meth c H locs (cells + mc) (slots + ms) Q (F0 m (pc + 3) ls (v.toList ++ rest))) : W p l e R s m args below meth c H locs cells slots Q (F0 m pc ls st0) := by
  subst hst0
  refine z_go B isC isR hC hR hn hdis ?_ kk
  exact va_runV (As := As) (rest := rest) F (hCt H.size) (cwV n F.2.2.2.2 hG hw rfl rfl hy ⟨hfr, hlo⟩) ⟨z_blind, va_recv B.1 B.2.1 hc he, z_pre B isC hnC hC⟩ rfl hlen hls rfl (lv_room hst) hd ⟨hc1, hs1⟩
/-- a static call within the class -/
theorem z_callS {y : MethodName} {wy wy' : List Cond} {fr lo mc ms : Nat} {As : List Value} {wc wr : va_W} {bytes : ByteArray} {maxL index : Nat} {ret : Option FieldType} (F : CallFix p m c cc nL s args Ts own) (B : zB D tys A H0 s ws H locs) (hCt : zC l y wy fr lo mc ms D tys As wc Rr) (hls : ls.size = nL) (hG : GoodIn Ts (wsS own index y wy)) (hw : wy = Cond.code y bytes maxL ret :: wy') (n : Nat) (hy : y.cls = own ∧ y.cls ≠ "java/lang/invoke/MethodHandle" ∧ y.cls ≠ "java/lang/invoke/VarHandle" ∧ (parseMethodDescriptor y.desc).map (fun d => d.parameters.length) = some n) (hlen : As.length = n)
    (isC isR : List Nat) (hnC : va_nd isC = true) (hC : isC.map (fun i => ws[i]?) = wc.map some) (hR : isR.map (fun i => ws[i]?) = wr.map some) (hn : va_nd isR = true) (hdis : ∀ i ∈ isR, i ∉ isC) (hfr : fr + 1 ≤ R.frames) (hlo : 8 + (maxL + 11) + lo ≤ R.locals) (hst : (rest.map fun v => v.category).sum ≤ 8) {st0 : List Value} (hst0 : st0 = As.reverse ++ rest) (hd : decode cc pc = .ok (.invokestatic index, 3)) (hc1 : cells + mc ≤ R.cells) (hs1 : slots + ms ≤ R.slots)
    (kk : ∀ (v : Option Value) (w' : va_W) (H : Heap) (locs : List Loc), Rr v w' → zB D tys A H0 s (wr ++ w') H locs → W p l e R s m args below meth c H locs (cells + mc) (slots + ms) Q (F0 m (pc + 3) ls (v.toList ++ rest))) : W p l e R s m args below meth c H locs cells slots Q (F0 m pc ls st0) := by
  subst hst0
  refine z_go B isC isR hC hR hn hdis ?_ kk
  exact va_runS (As := As) (rest := rest) F (hCt H.size) (cwS n F.2.2.2.2 hG hw rfl rfl hy ⟨hfr, hlo⟩) ⟨z_blind, z_pre B isC hnC hC⟩ rfl hlen hls rfl (lv_room hst) hd ⟨hc1, hs1⟩
/-- a static call of another class -/
theorem z_callSJ {y : MethodName} {wy wy' : List Cond} {fr lo mc ms : Nat} {As : List Value} {wc wr : va_W} {bytes : ByteArray} {maxL index : Nat} {ret : Option FieldType} (F : CallFix p m c cc nL s args Ts own) (B : zB D tys A H0 s ws H locs) (hCt : zC l y wy fr lo mc ms D tys As wc Rr) (hls : ls.size = nL) (hG : GoodIn Ts (va_wsS own index y wy)) (hw : wy = Cond.code y bytes maxL ret :: wy') (n : Nat) (hy : y.cls ≠ "java/lang/invoke/MethodHandle" ∧ y.cls ≠ "java/lang/invoke/VarHandle" ∧ (parseMethodDescriptor y.desc).map (fun d => d.parameters.length) = some n) (hlen : As.length = n)
    (isC isR : List Nat) (hnC : va_nd isC = true) (hC : isC.map (fun i => ws[i]?) = wc.map some) (hR : isR.map (fun i => ws[i]?) = wr.map some) (hn : va_nd isR = true) (hdis : ∀ i ∈ isR, i ∉ isC) (hfr : fr + 1 ≤ R.frames) (hlo : 8 + (maxL + 11) + lo ≤ R.locals) (hst : (rest.map fun v => v.category).sum ≤ 8) {st0 : List Value} (hst0 : st0 = As.reverse ++ rest) (hd : decode cc pc = .ok (.invokestatic index, 3)) (hc1 : cells + mc ≤ R.cells) (hs1 : slots + ms ≤ R.slots)
    (kk : ∀ (v : Option Value) (w' : va_W) (H : Heap) (locs : List Loc), Rr v w' → zB D tys A H0 s (wr ++ w') H locs → W p l e R s m args below meth c H locs (cells + mc) (slots + ms) Q (F0 m (pc + 3) ls (v.toList ++ rest))) : W p l e R s m args below meth c H locs cells slots Q (F0 m pc ls st0) := by
  subst hst0
  refine z_go B isC isR hC hR hn hdis ?_ kk
  exact va_runS (As := As) (rest := rest) F (hCt H.size) (va_cwS n F.2.2.2.2 hG hw rfl rfl hy ⟨hfr, hlo⟩) ⟨z_blind, z_pre B isC hnC hC⟩ rfl hlen hls rfl (lv_room hst) hd ⟨hc1, hs1⟩
/-- a static call of a nest mate's private method -/
theorem z_callSN {y : MethodName} {wy wy' : List Cond} {fr lo mc ms : Nat} {As : List Value} {wc wr : va_W} {bytes : ByteArray} {maxL index : Nat} {ret : Option FieldType} {host : String} (F : CallFix p m c cc nL s args Ts own) (B : zB D tys A H0 s ws H locs) (hCt : zC l y wy fr lo mc ms D tys As wc Rr) (hls : ls.size = nL) (hG : GoodIn Ts wy) (hNl : Cond.methodLinkNest own index y host ∈ zNW) (hsy : Cond.static y ∈ Ts) (hiy : Cond.initialized y.cls ∈ Ts) (hw : wy = Cond.code y bytes maxL ret :: wy') (n : Nat) (hy : y.cls ≠ "java/lang/invoke/MethodHandle" ∧ y.cls ≠ "java/lang/invoke/VarHandle" ∧ (parseMethodDescriptor y.desc).map (fun d => d.parameters.length) = some n) (hlen : As.length = n)
    (isC isR : List Nat) (hnC : va_nd isC = true) (hC : isC.map (fun i => ws[i]?) = wc.map some) (hR : isR.map (fun i => ws[i]?) = wr.map some) (hn : va_nd isR = true) (hdis : ∀ i ∈ isR, i ∉ isC) (hfr : fr + 1 ≤ R.frames) (hlo : 8 + (maxL + 11) + lo ≤ R.locals) (hst : (rest.map fun v => v.category).sum ≤ 8) {st0 : List Value} (hst0 : st0 = As.reverse ++ rest) (hd : decode cc pc = .ok (.invokestatic index, 3)) (hc1 : cells + mc ≤ R.cells) (hs1 : slots + ms ≤ R.slots)
    (kk : ∀ (v : Option Value) (w' : va_W) (H : Heap) (locs : List Loc), Rr v w' → zB D tys A H0 s (wr ++ w') H locs → W p l e R s m args below meth c H locs (cells + mc) (slots + ms) Q (F0 m (pc + 3) ls (v.toList ++ rest))) : W p l e R s m args below meth c H locs cells slots Q (F0 m pc ls st0) := by
  subst hst0
  refine z_go B isC isR hC hR hn hdis ?_ kk
  exact va_runSN (host := host) (As := As) (rest := rest) F (hCt H.size) ⟨va_cnB n F.2.2.2.2 hG hw rfl rfl (B.2.2.2.2.2 _ hNl) (F.2.2.2.2 _ hiy) hy ⟨hfr, hlo⟩, F.2.2.2.2 _ hsy, trivial⟩ ⟨z_blind, z_pre B isC hnC hC⟩ rfl hlen hls rfl (lv_room hst) hd ⟨hc1, hs1⟩
/-- a constructor -/
theorem z_callI {y : MethodName} {wy wy' : List Cond} {fr lo mc ms : Nat} {b : Nat} {As : List Value} {wc wr : va_W} {bytes : ByteArray} {maxL index : Nat} (F : CallFix p m c cc nL s args Ts own) (B : zB D tys A H0 s ws H locs) (hCt : zC l y wy fr lo mc ms D tys (.ref b :: As) wc Rr) (hls : ls.size = nL) (hG : GoodIn Ts wy) (hiy : Cond.initialized y.cls ∈ Ts) (hml : Cond.methodLink own index y ∈ Ts) (him : Cond.instanceMethod y ∈ Ts) (hw : wy = Cond.code y bytes maxL none :: wy') (hy1 : y.name = "<init>") (n : Nat) (hy : y.cls ≠ "java/lang/invoke/MethodHandle" ∧ y.cls ≠ "java/lang/invoke/VarHandle" ∧ (parseMethodDescriptor y.desc).map (fun d => d.parameters.length) = some n) (hlen : As.length = n)
    (isC isR : List Nat) (hnC : va_nd isC = true) (hC : isC.map (fun i => ws[i]?) = wc.map some) (hR : isR.map (fun i => ws[i]?) = wr.map some) (hn : va_nd isR = true) (hdis : ∀ i ∈ isR, i ∉ isC) (hfr : fr + 1 ≤ R.frames) (hlo : 8 + (maxL + 11) + lo ≤ R.locals) (hst : (rest.map fun v => v.category).sum ≤ 8) {st0 : List Value} (hst0 : st0 = As.reverse ++ .ref b :: rest) (hd : decode cc pc = .ok (.invokespecial index, 3)) (hc1 : cells + mc ≤ R.cells) (hs1 : slots + ms ≤ R.slots)
    (kk : ∀ (v : Option Value) (w' : va_W) (H : Heap) (locs : List Loc), Rr v w' → zB D tys A H0 s (wr ++ w') H locs → W p l e R s m args below meth c H locs (cells + mc) (slots + ms) Q (F0 m (pc + 3) ls (v.toList ++ rest))) : W p l e R s m args below meth c H locs cells slots Q (F0 m pc ls st0) := by
  subst hst0
  refine z_go B isC isR hC hR hn hdis ?_ kk
  exact va_runI (As := As) (rest := rest) F (hCt H.size) (cwI n F.2.2.2.2 hG hw rfl rfl (F.2.2.2.2 _ hiy) (F.2.2.2.2 _ hml) (F.2.2.2.2 _ him) hy1 hy ⟨hfr, hlo⟩) ⟨z_blind, z_pre B isC hnC hC⟩ rfl hlen hls rfl (lv_room hst) hd ⟨hc1, hs1⟩
/-- a nest mate's private constructor -/
theorem z_callIN {y : MethodName} {wy wy' : List Cond} {fr lo mc ms : Nat} {b : Nat} {As : List Value} {wc wr : va_W} {bytes : ByteArray} {maxL index : Nat} {host : String} (F : CallFix p m c cc nL s args Ts own) (B : zB D tys A H0 s ws H locs) (hCt : zC l y wy fr lo mc ms D tys (.ref b :: As) wc Rr) (hls : ls.size = nL) (hG : GoodIn Ts wy) (hNl : Cond.methodLinkNest own index y host ∈ zNW) (hiy : Cond.initialized y.cls ∈ Ts) (him : Cond.instanceMethod y ∈ Ts) (hw : wy = Cond.code y bytes maxL none :: wy') (hy1 : y.name = "<init>") (n : Nat) (hy : y.cls ≠ "java/lang/invoke/MethodHandle" ∧ y.cls ≠ "java/lang/invoke/VarHandle" ∧ (parseMethodDescriptor y.desc).map (fun d => d.parameters.length) = some n) (hlen : As.length = n)
    (isC isR : List Nat) (hnC : va_nd isC = true) (hC : isC.map (fun i => ws[i]?) = wc.map some) (hR : isR.map (fun i => ws[i]?) = wr.map some) (hn : va_nd isR = true) (hdis : ∀ i ∈ isR, i ∉ isC) (hfr : fr + 1 ≤ R.frames) (hlo : 8 + (maxL + 11) + lo ≤ R.locals) (hst : (rest.map fun v => v.category).sum ≤ 8) {st0 : List Value} (hst0 : st0 = As.reverse ++ .ref b :: rest) (hd : decode cc pc = .ok (.invokespecial index, 3)) (hc1 : cells + mc ≤ R.cells) (hs1 : slots + ms ≤ R.slots)
    (kk : ∀ (v : Option Value) (w' : va_W) (H : Heap) (locs : List Loc), Rr v w' → zB D tys A H0 s (wr ++ w') H locs → W p l e R s m args below meth c H locs (cells + mc) (slots + ms) Q (F0 m (pc + 3) ls (v.toList ++ rest))) : W p l e R s m args below meth c H locs cells slots Q (F0 m pc ls st0) := by
  subst hst0
  refine z_go B isC isR hC hR hn hdis ?_ kk
  exact va_runIN (host := host) (As := As) (rest := rest) F (hCt H.size) ⟨va_cnB n F.2.2.2.2 hG hw rfl rfl (B.2.2.2.2.2 _ hNl) (F.2.2.2.2 _ hiy) hy ⟨hfr, hlo⟩, hy1, F.2.2.2.2 _ him⟩ ⟨z_blind, z_pre B isC hnC hC⟩ rfl hlen hls rfl (lv_room hst) hd ⟨hc1, hs1⟩
/-- the numbers: additions and their like over Nat -/
theorem z_iadd (F : CallFix p m c cc nL s args Ts own) {a b : Nat} (hd : decode cc pc = .ok (.iadd, 1)) (kk : W p l e R s m args below meth c H locs cells slots Q (F0 m (pc + 1) ls (.int (nI (a + b)) :: rest))) : W p l e R s m args below meth c H locs cells slots Q (F0 m pc ls (.int (nI b) :: .int (nI a) :: rest)) :=
  lv_iadd F.1 F.2.1 hd (by rw [nI_add]; exact kk)
theorem z_isub (F : CallFix p m c cc nL s args Ts own) {a b : Nat} (h : b ≤ a) (hd : decode cc pc = .ok (.isub, 1)) (kk : W p l e R s m args below meth c H locs cells slots Q (F0 m (pc + 1) ls (.int (nI (a - b)) :: rest))) : W p l e R s m args below meth c H locs cells slots Q (F0 m pc ls (.int (nI b) :: .int (nI a) :: rest)) :=
  lv_isub F.1 F.2.1 hd (by rw [pk_sub h]; exact kk)
theorem z_imul (F : CallFix p m c cc nL s args Ts own) {a b : Nat} (hd : decode cc pc = .ok (.imul, 1)) (kk : W p l e R s m args below meth c H locs cells slots Q (F0 m (pc + 1) ls (.int (nI (a * b)) :: rest))) : W p l e R s m args below meth c H locs cells slots Q (F0 m pc ls (.int (nI b) :: .int (nI a) :: rest)) :=
  lv_imul F.1 F.2.1 hd (by rw [pk_mul]; exact kk)
end ZR
