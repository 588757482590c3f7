/-! ROWS: rows of booleans, two more branches -/
section ZR4
variable {p : Program} {l : Launch} {e : Env} {R : Room} {s : State} {m : MethodId} {args : Array Value} {below : List Frame} {meth : Method} {c : Code} {H : Heap} {locs : List Loc} {cells slots : Nat} {Q : State → Prop}
variable {cc : ByteArray} {nL pc : Nat} {ls : Array Slot} {rest : List Value} {D : va_G} {tys : zTy} {A : Nat → Prop} {H0 : Heap} {ws : va_W} {Ts : List Cond} {own : String}
theorem z_if_lt {a : Nat} {off : Int} {tgt : Nat} (F : CallFix p m c cc nL s args Ts own) (ha : a < 2 ^ 31) (hd : decode cc pc = .ok (.ifCond .lt off, 3)) (ht : (pc : Int) + off = (tgt : Int)) (kt : a < 0 → W p l e R s m args below meth c H locs cells slots Q (F0 m tgt ls rest)) (kf : ¬ a < 0 → W p l e R s m args below meth c H locs cells slots Q (F0 m (pc + 3) ls rest)) : W p l e R s m args below meth c H locs cells slots Q (F0 m pc ls (.int (nI a) :: rest)) :=
  lv_if_lt F.1 F.2.1 hd ht (fun h => absurd h (Int32.not_lt.mpr (nI_pos' ha))) (fun _ => kf (Nat.not_lt_zero _))
theorem z_zald (F : CallFix p m c cc nL s args Ts own) (B : zB D tys A H0 s ws H locs) (q0 t0 : Nat) {a : Nat} {cA : ClassId} {n : Nat} {f : Nat → Int32} (ha : ws[q0]? = some (a, .inl (cA, n, .inl f))) (ht : tys[t0]? = some (cA, .boolean)) {j : Nat} (hj : j < n) (hn : n < 2 ^ 31) (hd : decode cc pc = .ok (.baload, 1))
    (kk : W p l e R s m args below meth c H locs cells slots Q (F0 m (pc + 1) ls (.int (f j) :: rest))) : W p l e R s m args below meth c H locs cells slots Q (F0 m pc ls (.int (nI j) :: .ref a :: rest)) := by
  refine va_zald F.1 F.2.1 B.1 B.2.1 q0 t0 ha ht (vp_in_nI hj hn) hd ?_
  rw [nI_clamp (by omega)]
  exact kk
theorem z_zast (F : CallFix p m c cc nL s args Ts own) (B : zB D tys A H0 s ws H locs) (q0 t0 : Nat) {a : Nat} {cA : ClassId} {n : Nat} {f : Nat → Int32} (ha : ws[q0]? = some (a, .inl (cA, n, .inl f))) (ht : tys[t0]? = some (cA, .boolean)) {j : Nat} {x : Int32} (hx : vp_nar .boolean x = x) (hj : j < n) (hn : n < 2 ^ 31) (hd : decode cc pc = .ok (.bastore, 1))
    (kk : ∀ (H : Heap) (locs : List Loc), zB D tys A H0 s (ws.set q0 (a, .inl (cA, n, .inl (upd f j x)))) H locs → W p l e R s m args below meth c H locs cells slots Q (F0 m (pc + 1) ls rest)) : W p l e R s m args below meth c H locs cells slots Q (F0 m pc ls (.int x :: .int (nI j) :: .ref a :: rest)) := by
  refine va_zast F.1 F.2.1 B.1 B.2.1 B.2.2.1 B.2.2.2.1 q0 t0 ha ht (vp_in_nI hj hn) hd (fun H1 L1 hP hD hS => ?_)
  rw [nI_clamp (show j < 2 ^ 31 by omega), hx] at hP hD
  exact kk H1 L1 ⟨B.1, hP, hD, hS, B.2.2.2.2.1, B.2.2.2.2.2⟩
theorem z_newz (F : CallFix p m c cc nL s args Ts own) (B : zB D tys A H0 s ws H locs) (t0 : Nat) {cA : ClassId} (ht : tys[t0]? = some (cA, .boolean)) (harr : Cond.arrayClass .boolean ∈ Ts) {n : Nat} (hn : n ≤ 134217728) (hc : cells + 1 ≤ R.cells) (hs : slots + n ≤ R.slots) (hd : decode cc pc = .ok (.newarray .boolean, 2))
    (kk : ∀ (q : Nat) (H : Heap), zB D tys A H0 s (ws ++ [(q, .inl (cA, n, .inl (fun _ => 0)))]) H locs → W p l e R s m args below meth c H locs (cells + 1) (slots + n) Q (F0 m (pc + 2) ls (.ref q :: rest))) : W p l e R s m args below meth c H locs cells slots Q (F0 m pc ls (.int (nI n) :: rest)) := by
  have hcl : (nI n).toNatClampNeg = n := nI_clamp (by omega)
  refine va_newa (atype := .boolean) (ty := .boolean) (a0 := (n, .inl (fun _ => 0))) F.1 F.2.1 (F.2.2.2.2 _ harr) rfl B.1 B.2.1 B.2.2.1 B.2.2.2.1 B.2.2.2.2.1 (fun cB => by rw [vp_cell_i]; rfl) (nI_pos (by omega)) hcl (by show n * 1 ≤ 536870912; omega) hc hs hd (fun q cB H1 hK hP hD hS => ?_)
  have e1 : s.vm.findClass ("[" ++ FieldType.boolean.toString) = some cB := (hK.2 tys.length (cB, .boolean) (by simp)).2
  have e2 : s.vm.findClass ("[" ++ FieldType.boolean.toString) = some cA := (B.1.2 t0 (cA, .boolean) ht).2
  have e3 : cB = cA := Option.some.inj (e1.symm.trans e2)
  subst e3
  exact kk q H1 ⟨B.1, hP, hD, hS, B.2.2.2.2.1, B.2.2.2.2.2⟩
end ZR4
