/-! new int[4][4]; a contract whose start knows of the class int[][] -/
def zAO (U : State) : Prop := (Cond.arrayOver (.array .int)).before #[] U = true
theorem zAO.moved {s U : State} (hW : s.vm.Alike U.vm) (h : zAO s) : zAO U := by
  have q : (Cond.arrayOver (.array .int)).before #[] (s.setVm U.vm) = true := by rw [Cond.arrayOver_setVmC hW]; exact h
  exact q
theorem zAO.warm {s U : State} (hW : s.WarmedH U.vm) (h : zAO s) : zAO U := h.moved hW.alike
theorem zAO.same {s U : State} (hv : s.vm = U.vm) (h : zAO s) : zAO U := h.moved (by rw [hv]; exact Vm.Alike.refl _)
theorem zAO.use {s : State} {args : Array Value} (h : zAO s) : (Cond.arrayOver (.array .int)).before args s = true := h
def zCA (l : Launch) (y : MethodName) (wy : List Cond) (fr lo mc ms : Nat) (D : va_G) (tys : zTy) (as : List Value) (wc : va_W) (Rr : Option Value → va_W → Prop) : Prop :=
  ∀ sz : Nat, Met l y wy { frames := fr, cells := mc, slots := ms, locals := lo } (va_Pc as (fun U => zPre D tys wc sz U ∧ zAO U)) (fun _ => zPost D tys (va_A wc sz) Rr) mc ms (va_A wc sz)
theorem zCA.of {l : Launch} {y : MethodName} {wy wy' : List Cond} {fr lo mc ms : Nat} {D : va_G} {tys : zTy} {as : List Value} {wc : va_W} {Rr : Option Value → va_W → Prop} {cc : ByteArray} {maxL : Nat} {ret : Option FieldType} (hy : plainName y.cls = true) (hw : wy = Cond.code y cc maxL ret :: wy') (hn : (lg_sl as).length ≤ maxL)
    (body : ∀ (p : Program) (e : Env) (s : State) (m : MethodId) (below : List Frame) (meth : Method) (c : Code) (A : Nat → Prop) (ls : Array Slot), CallFix p m c cc maxL s as.toArray wy y.cls → meth.sig.returnType = ret → meth.locks = false → meth.name = y.name → zAO s → zB D tys A s.heap s wc s.heap [] → lv_has ls maxL (lv_args 0 as) →
      W p l e { frames := fr, cells := mc, slots := ms, locals := lo } s m as.toArray below meth c s.heap [] 0 0 (zQ below as.toArray s D tys A Rr mc ms) (F0 m 0 ls [])) : zCA l y wy fr lo mc ms D tys as wc Rr := by
  intro sz
  refine Met.ofW (cc := cc) (maxL := maxL) (ret := ret) hy hw ?_
  intro p e s m args below meth c s₁ B hml hv
  obtain ⟨rfl, ⟨hsz, hP, hK, hD0, hN⟩, hX⟩ := hv
  subst hsz
  have hl := lv_entry as (n := maxL) hn
  rw [lg_entry_eq]
  exact body p e s m below meth c (va_A wc s.heap.size) _ ⟨B.exec, B.bytes, hml, findClass_of_methodNamed B.named, atoms_spec (ws := wy) B.pre⟩ B.returns B.notSynchronized (name_of_methodNamed B.named B.method).1 hX ⟨hK, hP, hD0.self, va_S.rf, fun q h => Or.inr h, hN⟩ hl
theorem arrV_cg (c : ClassId) (n : Nat) {f g : Nat → Value} (h : ∀ j, j < n → f j = g j) : arrV c n f = arrV c n g := by
  unfold arrV
  congr 2
  funext j
  exact h j.val j.isLt
theorem zne_at {α : Type} (ws rows : List α) (a b : α) {k : Nat} (h : k ≠ ws.length) : (ws ++ a :: rows)[k]? = (ws ++ b :: rows)[k]? := by
  rw [List.getElem?_append, List.getElem?_append]
  split
  · rfl
  · obtain ⟨j, hj⟩ : ∃ j, k - ws.length = j + 1 := ⟨k - ws.length - 1, by omega⟩
    rw [hj]
    rfl
theorem zat_len {α : Type} (ws rows : List α) (a : α) : (ws ++ a :: rows)[ws.length]? = some a := by simp
theorem zP_cg {D : va_G} {cl : List vw_C} {ws rows : va_W} {q : Nat} {e1 e2 : va_E} {H : Heap} (he : va_P D cl [(q, e1)] H → va_P D cl [(q, e2)] H) (h : va_P D cl (ws ++ (q, e1) :: rows) H) : va_P D cl (ws ++ (q, e2) :: rows) H := by
  intro k x hx
  by_cases e : k = ws.length
  · subst e
    rw [zat_len] at hx
    cases hx
    exact he (fun k9 x9 h9 => by
      have h0 : k9 < 1 := (List.getElem?_eq_some_iff.mp h9).1
      rw [show k9 = 0 by omega] at h9
      cases h9
      exact h _ _ (zat_len ws rows (q, e1))) 0 _ rfl
  · rw [zne_at ws rows _ (q, e1) e] at hx
    exact h k x hx
theorem zD_cg {A : Nat → Prop} {ws rows : va_W} {q : Nat} {e1 e2 : va_E} (h : va_D A (ws ++ (q, e1) :: rows)) : va_D A (ws ++ (q, e2) :: rows) := by
  have g : ∀ (k : Nat) (z : Nat × va_E), (ws ++ (q, e2) :: rows)[k]? = some z → ∃ z' : Nat × va_E, (ws ++ (q, e1) :: rows)[k]? = some z' ∧ z'.1 = z.1 := by
    intro k z hz
    by_cases e : k = ws.length
    · subst e
      rw [zat_len] at hz
      cases hz
      exact ⟨_, zat_len ws rows (q, e1), rfl⟩
    · rw [zne_at ws rows _ (q, e1) e] at hz
      exact ⟨z, hz, rfl⟩
  refine ⟨fun i j x y hi hj hxy => ?_, fun k x hx => ?_⟩
  · obtain ⟨x', a1, a2⟩ := g i x hi
    obtain ⟨y', b1, b2⟩ := g j y hj
    exact h.1 i j x' y' a1 b1 (by rw [a2, b2]; exact hxy)
  · obtain ⟨x', a1, a2⟩ := g k x hx
    have := h.2 k x' a1
    rw [a2] at this
    exact this
section ZR7
variable {p : Program} {l : Launch} {e : Env} {R : Room} {s : State} {m : MethodId} {args : Array Value} {below : List Frame} {meth : Method} {c : Code} {H : Heap} {locs : List Loc} {cells slots : Nat} {Q : State → Prop}
variable {cc : ByteArray} {nL pc : Nat} {ls : Array Slot} {rest : List Value} {D : va_G} {tys : zTy} {A : Nat → Prop} {H0 : Heap} {ws : va_W} {Ts : List Cond} {own : String} {Rr : Option Value → va_W → Prop}
theorem zA_blind {as : List Value} {wc : va_W} {sz : Nat} : FrameBlind (va_Pc as (fun U => zPre D tys wc sz U ∧ zAO U)) := fun a U g mk q => by
  obtain ⟨q0, ⟨q1, qP, qK, qD, qN⟩, qA⟩ := q
  exact ⟨q0, ⟨q1, qP, va_K.moved (u := U) (U := U.calling g mk a) (Vm.Alike.refl U.vm) qK, qD, zN.same (s := U) (U := U.calling g mk a) rfl qN⟩, zAO.same (s := U) (U := U.calling g mk a) rfl qA⟩
theorem zA_pre {as : List Value} {wc : va_W} (hA0 : zAO s) (B : zB D tys A H0 s ws H locs) (isC : List Nat) (hnC : va_nd isC = true) (hC : isC.map (fun i => ws[i]?) = wc.map some) : ∀ U : State, U.heap = H → s.WarmedH U.vm → va_Pc as (fun U => zPre D tys wc H.size U ∧ zAO U) as.toArray U := fun U hU hW =>
  ⟨rfl, ⟨by rw [hU], by rw [hU]; exact B.2.1.sub isC (zfm hC), va_K.moved hW.alike B.1, (B.2.2.1.sub isC hnC hC).weaken (fun _ _ _ _ => trivial), zN.warm hW B.2.2.2.2.2⟩, zAO.warm hW hA0⟩
theorem z_callIA {y : MethodName} {wy wy' : List Cond} {fr lo mc ms : Nat} {b : Nat} {As : List Value} {wc wr : va_W} {bytes : ByteArray} {maxL index : Nat} (hA0 : zAO s) (F : CallFix p m c cc nL s args Ts own) (B : zB D tys A H0 s ws H locs) (hCt : zCA l y wy fr lo mc ms D tys (.ref b :: As) wc Rr) (hls : ls.size = nL) (hG : GoodIn Ts wy) (hiy : Cond.initialized y.cls ∈ Ts) (hml : Cond.methodLink own index y ∈ Ts) (him : Cond.instanceMethod y ∈ Ts) (hw : wy = Cond.code y bytes maxL none :: wy') (hy1 : y.name = "<init>") (n : Nat) (hy : y.cls ≠ "java/lang/invoke/MethodHandle" ∧ y.cls ≠ "java/lang/invoke/VarHandle" ∧ (parseMethodDescriptor y.desc).map (fun d => d.parameters.length) = some n) (hlen : As.length = n)
    (isC isR : List Nat) (hnC : va_nd isC = true) (hC : isC.map (fun i => ws[i]?) = wc.map some) (hR : isR.map (fun i => ws[i]?) = wr.map some) (hn : va_nd isR = true) (hdis : ∀ i ∈ isR, i ∉ isC) (hfr : fr + 1 ≤ R.frames) (hlo : 8 + (maxL + 11) + lo ≤ R.locals) (hst : (rest.map fun v => v.category).sum ≤ 8) {st0 : List Value} (hst0 : st0 = As.reverse ++ .ref b :: rest) (hd : decode cc pc = .ok (.invokespecial index, 3)) (hc1 : cells + mc ≤ R.cells) (hs1 : slots + ms ≤ R.slots)
    (kk : ∀ (v : Option Value) (w' : va_W) (H : Heap) (locs : List Loc), Rr v w' → zB D tys A H0 s (wr ++ w') H locs → W p l e R s m args below meth c H locs (cells + mc) (slots + ms) Q (F0 m (pc + 3) ls (v.toList ++ rest))) : W p l e R s m args below meth c H locs cells slots Q (F0 m pc ls st0) := by
  subst hst0
  refine z_go B isC isR hC hR hn hdis ?_ kk
  exact va_runI (As := As) (rest := rest) F (hCt H.size) (cwI n F.2.2.2.2 hG hw rfl rfl (F.2.2.2.2 _ hiy) (F.2.2.2.2 _ hml) (F.2.2.2.2 _ him) hy1 hy ⟨hfr, hlo⟩) ⟨zA_blind, zA_pre hA0 B isC hnC hC⟩ rfl hlen hls rfl (lv_room hst) hd ⟨hc1, hs1⟩
/-- new int[4][4] -/
theorem z_mna {cI cZ cG cJ : ClassId} {index : Nat} (F : CallFix p m c cc nL s args Ts own) (hA0 : zAO s) (B : zB D (zT cI cZ cG cJ) A H0 s ws H locs) (hcl : Cond.classLink own index "[[I" ∈ Ts) (har : Cond.arrayClass .int ∈ Ts) (hc : cells + 5 ≤ R.cells) (hs : slots + 20 ≤ R.slots) (hd : decode cc pc = .ok (.multianewarray index 2, 4))
    (kk : ∀ (q : Nat) (rc : Nat → Nat) (H : Heap), zB D (zT cI cZ cG cJ) A H0 s (ws ++ [(q, .inl (cG, 4, .inr (.inr (.inr (.inr (fun gi => some (rc gi))))))), (rc 0, .inl (cI, 4, .inl (fun _ => 0))), (rc 1, .inl (cI, 4, .inl (fun _ => 0))), (rc 2, .inl (cI, 4, .inl (fun _ => 0))), (rc 3, .inl (cI, 4, .inl (fun _ => 0)))]) H locs → W p l e R s m args below meth c H locs (cells + 5) (slots + 20) Q (F0 m (pc + 4) ls (.ref q :: rest))) : W p l e R s m args below meth c H locs cells slots Q (F0 m pc ls (.int (nI 4) :: .int (nI 4) :: rest)) := by
  obtain ⟨hK, hP, hD, hS, hA, hN⟩ := B
  refine va_mna (X := ws) (L := []) (f := fun _ => .inl (cI, 4, .inl (fun _ => 0))) (ty := .int) (cy := cI) (z := (4, .inl (fun _ => 0))) (N' := 4) (K' := 4) F.1 F.2.1 F.2.2.2.1 (F.2.2.2.2 _ hcl) hA0.use (F.2.2.2.2 _ har) (hK.2 0 _ rfl).2 hK (by rw [va_pl, List.map_nil, List.append_nil]; exact hP) (by rw [va_pl, List.map_nil, List.append_nil]; exact hD) hS hA (by decide) (by decide) (by decide) (by decide) (by decide) (by decide) (by decide) rfl rfl hc hs (fun c1 => by rw [vp_cell_i]; rfl) hd (fun q rc cA H1 hi hnl hK2 hP2 hD2 hS2 => ?_)
  have e1 : cA = cG := Option.some.inj ((hK2.2 4 _ rfl).2.symm.trans (hK.2 2 _ rfl).2)
  subst e1
  have hL : va_pl ([] ++ (List.range 4).map rc) (vr_up (fun _ => (.inl (cI, 4, .inl (fun _ => 0)) : va_E)) ((List.range 4).map rc) (.inl (cI, 4, .inl (fun _ => 0)))) = [(rc 0, .inl (cI, 4, .inl (fun _ => 0))), (rc 1, .inl (cI, 4, .inl (fun _ => 0))), (rc 2, .inl (cI, 4, .inl (fun _ => 0))), (rc 3, .inl (cI, 4, .inl (fun _ => 0)))] := by
    have hc : ∀ a, vr_up (fun _ => (.inl (cI, 4, .inl (fun _ => 0)) : va_E)) ((List.range 4).map rc) (.inl (cI, 4, .inl (fun _ => 0))) a = .inl (cI, 4, .inl (fun _ => 0)) := fun a => by unfold vr_up; split <;> rfl
    simp only [va_pl, hc, List.nil_append, List.map_map]
    rfl
  rw [hL, List.append_assoc, List.singleton_append] at hP2 hD2
  exact kk q rc H1 ⟨hK, zP_cg (fun hc k9 x9 h9 => by
    have h0 : k9 < 1 := (List.getElem?_eq_some_iff.mp h9).1
    rw [show k9 = 0 by omega] at h9
    cases h9
    show H1[q]? = some (vp_cell cA (4, .inr (.inr (.inr (.inr (fun gi => some (rc gi)))))))
    have h3 : H1[q]? = some (vp_cell cA (4, .inr (.inr (.inr (.inr (fun i => if i < 4 then some (rc i) else none)))))) := hc 0 _ rfl
    rw [h3, vp_cell_q, vp_cell_q]
    exact congrArg some (arrV_cg _ _ (fun j hj => by simp only [hj, if_true]))) hP2, zD_cg hD2, hS2, hA, hN⟩
end ZR7
