/-! THE SEARCH for the lowest accepting run -/
def zsrG (X : Nat → Nat → (Nat → Nat) → Option (List Nat)) (q r t : Nat) (rl : Nat → Nat → Nat) (h u : Nat) (T : Nat → Nat) (D : (k : Nat) → Decidable (zcan q r t rl h u T k)) (k : Nat) : Option (List Nat) :=
  @ite (Option (List Nat)) (zcan q r t rl h u T k) (D k) ((X (znh r rl h k) (znu r rl u k) (znt r rl h T k)).map (fun L => k :: L)) none
/-- the lowest choices of n steps that lead from head h, state u, tape T to ACCEPT -/
noncomputable def zsr (q r t : Nat) (rl : Nat → Nat → Nat) : Nat → Nat → Nat → (Nat → Nat) → Option (List Nat)
  | 0, _, u, _ => if u = q - 1 then some [] else none
  | n + 1, h, u, T => (List.range (r + 1)).findSome? (zsrG (fun h u T => zsr q r t rl n h u T) q r t rl h u T (fun _ => Classical.propDecidable _))
noncomputable def zsrF (q r t : Nat) (rl : Nat → Nat → Nat) (n h u : Nat) (T : Nat → Nat) : Nat → Option (List Nat) := zsrG (fun h u T => zsr q r t rl n h u T) q r t rl h u T (fun _ => Classical.propDecidable _)
theorem zsrF_no {q r t : Nat} {rl : Nat → Nat → Nat} {n h u k : Nat} {T : Nat → Nat} (hc : ¬ zcan q r t rl h u T k) : zsrF q r t rl n h u T k = none := if_neg hc
theorem zsrF_nn {q r t : Nat} {rl : Nat → Nat → Nat} {n h u k : Nat} {T : Nat → Nat} (hc : zcan q r t rl h u T k) (hs : zsr q r t rl n (znh r rl h k) (znu r rl u k) (znt r rl h T k) = none) : zsrF q r t rl n h u T k = none := by
  unfold zsrF zsrG
  rw [if_pos hc]
  show Option.map _ (zsr q r t rl n (znh r rl h k) (znu r rl u k) (znt r rl h T k)) = _
  rw [hs]
  rfl
theorem zsrF_so {q r t : Nat} {rl : Nat → Nat → Nat} {n h u k : Nat} {T : Nat → Nat} {L : List Nat} (hc : zcan q r t rl h u T k) (hs : zsr q r t rl n (znh r rl h k) (znu r rl u k) (znt r rl h T k) = some L) : zsrF q r t rl n h u T k = some (k :: L) := by
  unfold zsrF zsrG
  rw [if_pos hc]
  show Option.map _ (zsr q r t rl n (znh r rl h k) (znu r rl u k) (znt r rl h T k)) = _
  rw [hs]
  rfl
theorem zopt_n {α : Type} {x : Option α} (h : ¬ ∃ L, x = some L) : x = none := by
  cases x with
  | none => rfl
  | some L => exact absurd ⟨L, rfl⟩ h
theorem zfs_none {F : Nat → Option (List Nat)} {k : Nat} (h : (List.range k).findSome? F = none) (hk : F k = none) : (List.range (k + 1)).findSome? F = none := by
  rw [List.range_succ, List.findSome?_append, h]
  simp [hk]
theorem zfs_some {F : Nat → Option (List Nat)} {k r : Nat} {L : List Nat} (hr : k ≤ r) (h : (List.range k).findSome? F = none) (hk : F k = some L) : (List.range (r + 1)).findSome? F = some L := by
  obtain ⟨j, rfl⟩ := Nat.exists_eq_add_of_le hr
  have e : List.range (k + j + 1) = (List.range k ++ [k]) ++ (List.range j).map (fun x => k + 1 + x) := by
    rw [← List.range_succ, ← List.range_add]
    congr 1
    omega
  rw [e, List.findSome?_append, List.findSome?_append, h]
  simp [hk]
/-- what stands after i of the choices ch, from head h, state u, tape T -/
def zcg (r : Nat) (rl : Nat → Nat → Nat) (h u : Nat) (T ch : Nat → Nat) : Nat → Nat × Nat × (Nat → Nat)
  | 0 => (h, u, T)
  | i + 1 => (znh r rl (zcg r rl h u T ch i).1 (ch i), znu r rl (zcg r rl h u T ch i).2.1 (ch i), znt r rl (zcg r rl h u T ch i).1 (zcg r rl h u T ch i).2.2 (ch i))
theorem zcg_S {r : Nat} {rl : Nat → Nat → Nat} {h u k : Nat} {T : Nat → Nat} {L : List Nat} : ∀ j, zcg r rl h u T (fun j => (k :: L).getD j 0) (j + 1) = zcg r rl (znh r rl h k) (znu r rl u k) (znt r rl h T k) (fun j => L.getD j 0) j
  | 0 => rfl
  | j + 1 => by
    have e := zcg_S (r := r) (rl := rl) (h := h) (u := u) (k := k) (T := T) (L := L) j
    rw [zcg, e]
    rfl
def zrwg (fhe fst : Nat → Int32) (hh : Nat → Nat → Int32) (t i : Nat) (cf : Nat → Nat × Nat × (Nat → Nat)) (n : Nat) : Prop := ∀ j, j ≤ n → fhe (i + j) = nI (cf j).1 ∧ fst (i + j) = nI (cf j).2.1 ∧ ∀ y, y ≤ t → hh (i + j) y = nI ((cf j).2.2 y)
theorem zrwg_0 {fhe fst : Nat → Int32} {hh : Nat → Nat → Int32} {r t i h u : Nat} {rl : Nat → Nat → Nat} {T ch : Nat → Nat} (h1 : fhe i = nI h) (h2 : fst i = nI u) (h3 : ∀ y, y ≤ t → hh i y = nI (T y)) : zrwg fhe fst hh t i (zcg r rl h u T ch) 0 := by
  intro j hj
  have e : j = 0 := by omega
  subst e
  exact ⟨h1, h2, h3⟩
theorem znx_bd {q r t : Nat} {rl : Nat → Nat → Nat} {h u k : Nat} {T : Nat → Nat} (hrb : ∀ k, k < r → rl 0 k ≤ 3 ∧ rl 1 k ≤ 3 ∧ rl 2 k ≤ 3 ∧ rl 3 k ≤ 3) (_ : ∀ k, k < r → rl 4 k ≤ 2) (hk : k ≤ r) (hc : zcan q r t rl h u T k) (hh : h ≤ t) (hu : u ≤ 3) (hT : ∀ y, y ≤ t → T y ≤ 3) : znh r rl h k ≤ t ∧ znu r rl u k ≤ 3 ∧ ∀ y, y ≤ t → znt r rl h T k y ≤ 3 := by
  by_cases e : k = r
  · rw [znh_r e, znu_r e, znt_r e]
    exact ⟨hh, hu, hT⟩
  · obtain ⟨-, -, e3, e4⟩ := hrb k (by omega)
    rw [znh_n e, znu_n e, znt_n e]
    refine ⟨?_, e3, fun y hy => ?_⟩
    · rcases hc with ⟨q1, -⟩ | ⟨-, -, -, q1, q2⟩
      · exact absurd q1 e
      · omega
    · by_cases ey : y = h
      · simp only [ey, if_true]; exact e4
      · simp only [ey, if_false]; exact hT y hy
/-- behind a use and a search from the next row: what lay before is as it was -/
theorem zkeep {fch fch1 fch2 fhe fhe1 fhe2 fhe3 fst fst1 fst2 fst3 : Nat → Int32} {hh hh1 hh2 hh3 : Nat → Nat → Int32} {i : Nat} {a : Int32} {P1 P2 P3 : Prop} (h : (∀ j, j < i → fch1 j = fch j) ∧ ∀ j, j ≤ i → fhe1 j = fhe j ∧ fst1 j = fst j ∧ hh1 j = hh j) (u1 : P1 ∧ ∀ j, ¬ j = i + 1 → fhe2 j = fhe1 j) (u2 : P2 ∧ ∀ j, ¬ j = i + 1 → fst2 j = fst1 j) (u3 : P3 ∧ ∀ j, ¬ j = i + 1 → hh2 j = hh1 j)
    (g : (∀ j, j < i + 1 → fch2 j = upd fch1 i a j) ∧ ∀ j, j ≤ i + 1 → fhe3 j = fhe2 j ∧ fst3 j = fst2 j ∧ hh3 j = hh2 j) : (∀ j, j < i → fch2 j = fch j) ∧ ∀ j, j ≤ i → fhe3 j = fhe j ∧ fst3 j = fst j ∧ hh3 j = hh j := by
  refine ⟨fun j hj => ?_, fun j hj => ?_⟩
  · rw [g.1 j (by omega), pk_un (by omega)]; exact h.1 j hj
  · obtain ⟨a1, a2, a3⟩ := g.2 j (by omega)
    obtain ⟨b1, b2, b3⟩ := h.2 j hj
    exact ⟨by rw [a1, u1.2 j (by omega), b1], by rw [a2, u2.2 j (by omega), b2], by rw [a3, u3.2 j (by omega), b3]⟩
/-- a search that found: its choices and rows -/
theorem zsucc {q r t n i h u k : Nat} {rl : Nat → Nat → Nat} {T : Nat → Nat} {L8 L9 : List Nat} {fch1 fch2 fhe1 fhe2 fhe3 fst1 fst2 fst3 : Nat → Int32} {hh1 hh2 hh3 : Nat → Nat → Int32} {P1 P2 P3 : Prop} (s8 : zsr q r t rl (n + 1) h u T = some (k :: L8)) (q9 : zsr q r t rl (n + 1) h u T = some L9)
    (g : (∀ j, j < i + 1 → fch2 j = upd fch1 i (nI k) j) ∧ ∀ j, j ≤ i + 1 → fhe3 j = fhe2 j ∧ fst3 j = fst2 j ∧ hh3 j = hh2 j)
    (sc : (∀ j, j < n → fch2 (i + 1 + j) = nI (L8.getD j 0)) ∧ zrwg fhe3 fst3 hh3 t (i + 1) (zcg r rl (znh r rl h k) (znu r rl u k) (znt r rl h T k) (fun j => L8.getD j 0)) n)
    (h1 : fhe1 i = nI h) (h2 : fst1 i = nI u) (h3 : ∀ y, y ≤ t → hh1 i y = nI (T y)) (u1 : P1 ∧ ∀ j, ¬ j = i + 1 → fhe2 j = fhe1 j) (u2 : P2 ∧ ∀ j, ¬ j = i + 1 → fst2 j = fst1 j) (u3 : P3 ∧ ∀ j, ¬ j = i + 1 → hh2 j = hh1 j) :
    (∀ j, j < n + 1 → fch2 (i + j) = nI (L9.getD j 0)) ∧ zrwg fhe3 fst3 hh3 t i (zcg r rl h u T (fun j => L9.getD j 0)) (n + 1) := by
  have e : L9 = k :: L8 := Option.some.inj (q9.symm.trans s8)
  subst e
  refine ⟨fun j hj => ?_, fun j hj => ?_⟩
  · cases j with
    | zero => rw [Nat.add_zero, g.1 i (by omega), pk_us]; rfl
    | succ j => rw [show i + (j + 1) = i + 1 + j by omega, sc.1 j (by omega)]; rfl
  · cases j with
    | zero =>
      obtain ⟨a1, a2, a3⟩ := g.2 i (by omega)
      rw [Nat.add_zero, a1, a2, a3, u1.2 i (by omega), u2.2 i (by omega), u3.2 i (by omega)]
      exact ⟨h1, h2, h3⟩
    | succ j =>
      rw [zcg_S j, show i + (j + 1) = i + 1 + j by omega]
      exact sc.2 j (by omega)
