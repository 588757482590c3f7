/-! THE LAW: what holds at its start -/
theorem inT_J0 : ∀ w ∈ u_ws RJ0 TJ0 4, w ∈ lw_tbl := by decide +kernel
theorem inT_J4 : ∀ w ∈ u_ws RJ4 TJ4 4, w ∈ lw_tbl := by decide +kernel
theorem inT_X0 : ∀ w ∈ u_ws RX0 TX0 9, w ∈ lw_tbl := by decide +kernel
theorem inT_X1 : ∀ w ∈ u_ws RX1 TX1 5, w ∈ lw_tbl := by decide +kernel
theorem inT_X2 : ∀ w ∈ u_ws RX2 TX2 9, w ∈ lw_tbl := by decide +kernel
theorem inT_X3 : ∀ w ∈ u_ws RX3 TX3 10, w ∈ lw_tbl := by decide +kernel
theorem inT_X4 : ∀ w ∈ u_ws RX4 TX4 2, w ∈ lw_tbl := by decide +kernel
theorem inT_X5 : ∀ w ∈ u_ws RX5 TX5 5, w ∈ lw_tbl := by decide +kernel
theorem inT_X6 : ∀ w ∈ u_ws RX6 TX6 6, w ∈ lw_tbl := by decide +kernel
theorem inT_X7 : ∀ w ∈ u_ws RX7 TX7 8, w ∈ lw_tbl := by decide +kernel
theorem inT_X8 : ∀ w ∈ u_ws RX8 TX8 37, w ∈ lw_tbl := by decide +kernel
theorem zs_kn {s : State} {b : Nat} (hts : ∀ w ∈ lw_tbl, w.before #[Value.ref b] s = true) : ∀ c : Nat, ∃ (cC : ClassId) (iS : Nat → Nat), ∀ q, vwCl[c]? = some q → u_Kn s q.1 q.2.1 q.2.2 cC iS
  | 0 => by
    obtain ⟨a, i, h⟩ := u_known (C := RJ0) (T := TJ0) (N := 4) (n := 4) hts inT_J0 (hts (Cond.instantiable RJ0 4) (by decide +kernel))
    exact ⟨a, i, fun q hq => by cases hq; exact h⟩
  | 1 => by
    obtain ⟨a, i, h⟩ := u_known (C := RJ4) (T := TJ4) (N := 4) (n := 4) hts inT_J4 (hts (Cond.instantiable RJ4 4) (by decide +kernel))
    exact ⟨a, i, fun q hq => by cases hq; exact h⟩
  | 2 => by
    obtain ⟨a, i, h⟩ := u_known (C := RX0) (T := TX0) (N := 9) (n := 9) hts inT_X0 (hts (Cond.instantiable RX0 9) (by decide +kernel))
    exact ⟨a, i, fun q hq => by cases hq; exact h⟩
  | 3 => by
    obtain ⟨a, i, h⟩ := u_known (C := RX1) (T := TX1) (N := 5) (n := 5) hts inT_X1 (hts (Cond.instantiable RX1 5) (by decide +kernel))
    exact ⟨a, i, fun q hq => by cases hq; exact h⟩
  | 4 => by
    obtain ⟨a, i, h⟩ := u_known (C := RX2) (T := TX2) (N := 9) (n := 9) hts inT_X2 (hts (Cond.instantiable RX2 9) (by decide +kernel))
    exact ⟨a, i, fun q hq => by cases hq; exact h⟩
  | 5 => by
    obtain ⟨a, i, h⟩ := u_known (C := RX3) (T := TX3) (N := 10) (n := 10) hts inT_X3 (hts (Cond.instantiable RX3 10) (by decide +kernel))
    exact ⟨a, i, fun q hq => by cases hq; exact h⟩
  | 6 => by
    obtain ⟨a, i, h⟩ := u_known (C := RX4) (T := TX4) (N := 2) (n := 2) hts inT_X4 (hts (Cond.instantiable RX4 2) (by decide +kernel))
    exact ⟨a, i, fun q hq => by cases hq; exact h⟩
  | 7 => by
    obtain ⟨a, i, h⟩ := u_known (C := RX5) (T := TX5) (N := 5) (n := 5) hts inT_X5 (hts (Cond.instantiable RX5 5) (by decide +kernel))
    exact ⟨a, i, fun q hq => by cases hq; exact h⟩
  | 8 => by
    obtain ⟨a, i, h⟩ := u_known (C := RX6) (T := TX6) (N := 6) (n := 6) hts inT_X6 (hts (Cond.instantiable RX6 6) (by decide +kernel))
    exact ⟨a, i, fun q hq => by cases hq; exact h⟩
  | 9 => by
    obtain ⟨a, i, h⟩ := u_known (C := RX7) (T := TX7) (N := 8) (n := 8) hts inT_X7 (hts (Cond.instantiable RX7 8) (by decide +kernel))
    exact ⟨a, i, fun q hq => by cases hq; exact h⟩
  | 10 => by
    obtain ⟨a, i, h⟩ := u_known (C := RX8) (T := TX8) (N := 37) (n := 37) hts inT_X8 (hts (Cond.instantiable RX8 37) (by decide +kernel))
    exact ⟨a, i, fun q hq => by cases hq; exact h⟩
  | n + 11 => ⟨0, fun _ => 0, fun q hq => by
      have e : vwCl[n + 11]? = none := rfl
      rw [e] at hq
      cases hq⟩
theorem zs_arr {s : State} {b : Nat} {ty : FieldType} (h : (Cond.arrayClass ty).before #[Value.ref b] s = true) : ∃ c, ArrOfT s c ty ∧ s.vm.findClass ("[" ++ ty.toString) = some c := by
  obtain ⟨c, k, comp, h1, h2, h3⟩ := Cond.arrayClass_spec h
  exact ⟨c, fun n z => ⟨fun k h => (by cases h), k, h2, comp, h3⟩, h1⟩
theorem zs_K {s : State} {b : Nat} (hts : ∀ w ∈ lw_tbl, w.before #[Value.ref b] s = true) : ∃ (D : va_G) (cI cZ cG cJ : ClassId), va_K D vwCl (zT cI cZ cG cJ) s := by
  obtain ⟨cI, i1, i2⟩ := zs_arr (hts (Cond.arrayClass .int) (by decide +kernel))
  obtain ⟨cZ, z1, z2⟩ := zs_arr (hts (Cond.arrayClass .boolean) (by decide +kernel))
  obtain ⟨cJ, j1, j2⟩ := zs_arr (hts (Cond.arrayClass .long) (by decide +kernel))
  obtain ⟨comp, cG, k, g1, g2, g3, g4⟩ := Cond.arrayOver_specA (hts (Cond.arrayOver FieldType.int.array) (by decide +kernel))
  refine ⟨(fun c => (zs_kn hts c).choose, fun c => (zs_kn hts c).choose_spec.choose), cI, cZ, cG, cJ, fun c q hq => (zs_kn hts c).choose_spec.choose_spec q hq, fun k0 q hq => ?_⟩
  match k0, hq with
  | 0, hq => cases hq; exact ⟨i1, i2⟩
  | 1, hq => cases hq; exact ⟨z1, z2⟩
  | 2, hq => cases hq; exact ⟨fun n z => ⟨fun k h => (by cases h), k, g2, comp, g3⟩, g4⟩
  | 3, hq => cases hq; exact ⟨j1, j2⟩
  | n + 4, hq =>
    have e : (zT cI cZ cG cJ)[n + 4]? = none := rfl
    rw [e] at hq
    cases hq
theorem zNW_in : ∀ w ∈ zNW, w ∈ lw_tbl ∧ w.onTables = true := by decide +kernel
theorem zs_N {s : State} {b : Nat} (hts : ∀ w ∈ lw_tbl, w.before #[Value.ref b] s = true) : zN s := fun w hw => va_Nw.of (zNW_in w hw).2 (hts w (zNW_in w hw).1)
theorem zs_AO {s : State} {b : Nat} (hts : ∀ w ∈ lw_tbl, w.before #[Value.ref b] s = true) : zAO s := by
  have h := hts (Cond.arrayOver FieldType.int.array) (by decide +kernel)
  unfold zAO
  first | exact h | (simp only [Cond.before, Cond.holds] at h ⊢; exact h)
theorem zs_str {s : State} {b k : Nat} {tx : String} (h1 : (Cond.stringRef RX7 k tx).before #[Value.ref b] s = true) (h2 : (Cond.exactly (Term.string RX7 k) "java/lang/String").before #[Value.ref b] s = true) : ∃ a, vk_R RX7 k tx a s := by
  obtain ⟨a, c, cell, k, e, -⟩ := Cond.exactly_spec h2
  exact ⟨a, vk_R.of h1 e⟩
theorem zs_XS {s : State} {b : Nat} {A : Nat → Prop} (hA : ∀ a : Nat, a < s.heap.size → ¬ A a) (hts : ∀ w ∈ lw_tbl, w.before #[Value.ref b] s = true) (hgv : (Jvm.Cond.and given_1 narrow_1).before #[Value.ref b] s = true) : zXS A s := by
  have hs := flat_of_before _ hgv
  refine ⟨⟨va_Nw.of rfl (hts _ (by decide +kernel)), va_Nw.of rfl (hts _ (by decide +kernel)), va_Nw.of rfl (hts _ (by decide +kernel)), va_Nw.of rfl (hts _ (by decide +kernel)), va_Nw.of rfl (hts _ (by decide +kernel)), va_Nc.of (hs (Cond.not (Cond.castable zIA zIS)) (by decide +kernel))⟩, ⟨zs_str (hts _ (by decide +kernel)) (hs _ (by decide +kernel)), zs_str (hts _ (by decide +kernel)) (hs _ (by decide +kernel)), zs_str (hts _ (by decide +kernel)) (hs _ (by decide +kernel)), zs_str (hts _ (by decide +kernel)) (hs _ (by decide +kernel)), zs_str (hts _ (by decide +kernel)) (hs _ (by decide +kernel))⟩, ?_, ?_⟩
  · exact vx_Zqof (hts _ (by decide +kernel)) (hts _ (by decide +kernel)) (hs _ (by decide +kernel)) hA
  · exact vx_Zqof (hts _ (by decide +kernel)) (hts _ (by decide +kernel)) (hs _ (by decide +kernel)) hA
theorem zs_l0 {l : Launch} (h : l.flags = flags0) : l.stackTraces = false := by
  unfold Launch.stackTraces
  rw [h]
  decide
