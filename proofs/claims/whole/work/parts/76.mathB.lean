/-! THREES AND CLAUSES -/
/-- a clause is satisfied; all threes of a row are -/
def zsC (b : Nat → Nat) (cl : List Nat) : Prop := ∃ i, i < cl.length ∧ ztv b (cl.getD i 0) = 1
def z3 (b : Nat → Nat) (L : List Nat) : Prop := ∀ j, 3 * j < L.length → ∃ i, i < 3 ∧ ztv b (L.getD (3 * j + i) 0) = 1
theorem z3_app {b : Nat → Nat} {A B : List Nat} {m : Nat} (hA : A.length = 3 * m) : z3 b (A ++ B) ↔ z3 b A ∧ z3 b B := by
  have g1 : ∀ k, k < A.length → (A ++ B).getD k 0 = A.getD k 0 := fun k hk => by simp [List.getD, List.getElem?_append_left hk]
  have g2 : ∀ k, (A ++ B).getD (3 * m + k) 0 = B.getD k 0 := fun k => by
    rw [← hA]
    simp [List.getD, List.getElem?_append_right (Nat.le_add_right _ _)]
  constructor
  · intro h
    refine ⟨fun j hj => ?_, fun j hj => ?_⟩
    · obtain ⟨i, h1, h2⟩ := h j (by rw [List.length_append]; omega)
      rw [g1 _ (by omega)] at h2
      exact ⟨i, h1, h2⟩
    · obtain ⟨i, h1, h2⟩ := h (m + j) (by rw [List.length_append]; omega)
      rw [show 3 * (m + j) + i = 3 * m + (3 * j + i) by omega, g2] at h2
      exact ⟨i, h1, h2⟩
  · rintro ⟨ha, hb⟩ j hj
    rw [List.length_append] at hj
    by_cases q : j < m
    · obtain ⟨i, h1, h2⟩ := ha j (by omega)
      exact ⟨i, h1, by rw [g1 _ (by omega)]; exact h2⟩
    · obtain ⟨i, h1, h2⟩ := hb (j - m) (by omega)
      refine ⟨i, h1, ?_⟩
      rw [show 3 * j + i = 3 * m + (3 * (j - m) + i) by omega, g2]
      exact h2
theorem z3_3 {b : Nat → Nat} {x y z : Nat} : z3 b [x, y, z] ↔ ztv b x = 1 ∨ ztv b y = 1 ∨ ztv b z = 1 := by
  constructor
  · intro h
    obtain ⟨i, h1, h2⟩ := h 0 (by simp)
    rcases (show i = 0 ∨ i = 1 ∨ i = 2 by omega) with rfl | rfl | rfl
    · exact Or.inl h2
    · exact Or.inr (Or.inl h2)
    · exact Or.inr (Or.inr h2)
  · intro h j hj
    have e : j = 0 := by simp at hj; omega
    subst e
    rcases h with q | q | q
    · exact ⟨0, by decide, q⟩
    · exact ⟨1, by decide, q⟩
    · exact ⟨2, by decide, q⟩
theorem z3_rng {b : Nat → Nat} {f : Nat → List Nat} (hf : ∀ i, (f i).length = 3) : ∀ n, ((List.range n).flatMap f).length = 3 * n ∧ (z3 b ((List.range n).flatMap f) ↔ ∀ i, i < n → z3 b (f i))
  | 0 => ⟨rfl, ⟨fun _ i hi => absurd hi (Nat.not_lt_zero _), fun _ j hj => absurd hj (Nat.not_lt_zero _)⟩⟩
  | n + 1 => by
    obtain ⟨l, ih⟩ := z3_rng (b := b) hf n
    rw [zrng_succ]
    refine ⟨by rw [List.length_append, l, hf]; omega, ?_⟩
    rw [z3_app l, ih]
    constructor
    · rintro ⟨h1, h2⟩ i hi
      by_cases e : i = n
      · subst e; exact h2
      · exact h1 i (by omega)
    · intro h
      exact ⟨fun i hi => h i (by omega), h n (by omega)⟩
theorem z3_sp {b : Nat → Nat} {v : Nat} {cl : List Nat} : z3 b (zsp v cl) ↔ (ztv b (cl.getD 0 0) = 1 ∨ ztv b (cl.getD 1 0) = 1 ∨ ztv b (2 * v) = 1) ∧ (∀ i, i < cl.length - 4 → ztv b (2 * (v + i) + 1) = 1 ∨ ztv b (cl.getD (2 + i) 0) = 1 ∨ ztv b (2 * (v + i + 1)) = 1) ∧ (ztv b (2 * (v + (cl.length - 4)) + 1) = 1 ∨ ztv b (cl.getD (cl.length - 2) 0) = 1 ∨ ztv b (cl.getD (cl.length - 1) 0) = 1) := by
  unfold zsp
  obtain ⟨l, h⟩ := z3_rng (b := b) (f := zsp1 v cl) (fun i => rfl) (cl.length - 4)
  rw [z3_app (m := 1) rfl, z3_app l, h, z3_3, z3_3]
  have e : (∀ i, i < cl.length - 4 → z3 b (zsp1 v cl i)) ↔ (∀ i, i < cl.length - 4 → ztv b (2 * (v + i) + 1) = 1 ∨ ztv b (cl.getD (2 + i) 0) = 1 ∨ ztv b (2 * (v + i + 1)) = 1) := by
    constructor
    · intro q i hi
      exact z3_3.mp (q i hi)
    · intro q i hi
      exact z3_3.mpr (q i hi)
  rw [e]
theorem ztv_pos {b : Nat → Nat} {y : Nat} (h : b y ≤ 1) : ztv b (2 * y) = 1 ↔ b y = 1 := by
  unfold ztv
  rw [show 2 * y / 2 = y by omega, show 2 * y % 2 = 0 by omega]
  split <;> omega
theorem ztv_neg {b : Nat → Nat} {y : Nat} (h : b y ≤ 1) : ztv b (2 * y + 1) = 1 ↔ b y = 0 := by
  unfold ztv
  rw [show (2 * y + 1) / 2 = y by omega, show (2 * y + 1) % 2 = 1 by omega]
  split <;> omega
/-- from threes to their clause -/
theorem z3_cl {b : Nat → Nat} (hb : ∀ y, b y ≤ 1) {v : Nat} {cl : List Nat} (h1 : 1 ≤ cl.length) (h : z3 b (zth1 v cl)) : zsC b cl := by
  by_cases e : cl.length ≤ 3
  · rw [zth1_s e, z3_3] at h
    rcases h with q | q | q
    · exact ⟨0, by omega, q⟩
    · exact ⟨Nat.min 1 (cl.length - 1), by have := Nat.min_le_right 1 (cl.length - 1); show min 1 (cl.length - 1) < _; omega, q⟩
    · exact ⟨cl.length - 1, by omega, q⟩
  · rw [zth1_l e, z3_sp] at h
    obtain ⟨ha, hm, hz⟩ := h
    apply Classical.byContradiction
    intro hno
    have h0 : ∀ i, i < cl.length → ¬ ztv b (cl.getD i 0) = 1 := fun i hi q => hno ⟨i, hi, q⟩
    have hv : ∀ i, i ≤ cl.length - 4 → b (v + i) = 1 := by
      intro i
      induction i with
      | zero =>
        intro _
        rcases ha with q | q | q
        · exact absurd q (h0 0 (by omega))
        · exact absurd q (h0 1 (by omega))
        · exact (ztv_pos (hb v)).mp q
      | succ i ih =>
        intro hi
        have a := ih (by omega)
        rcases hm i (by omega) with q | q | q
        · have := (ztv_neg (hb (v + i))).mp q
          omega
        · exact absurd q (h0 (2 + i) (by omega))
        · exact (ztv_pos (hb (v + i + 1))).mp q
    have a := hv (cl.length - 4) (Nat.le_refl _)
    rcases hz with q | q | q
    · have := (ztv_neg (hb (v + (cl.length - 4)))).mp q
      omega
    · exact h0 _ (by omega) q
    · exact h0 _ (by omega) q
theorem zth1_3 {v : Nat} {cl : List Nat} : ∃ m, (zth1 v cl).length = 3 * m := by
  by_cases e : cl.length ≤ 3
  · exact ⟨1, by rw [zth1_s e]; rfl⟩
  · refine ⟨1 + (cl.length - 4) + 1, ?_⟩
    rw [zth1_l e]
    unfold zsp
    rw [List.length_append, List.length_append, (z3_rng (b := fun _ => 0) (f := zsp1 v cl) (fun i => rfl) (cl.length - 4)).1]
    show 3 + (_ + 3) = _
    omega
theorem z3_back {b : Nat → Nat} (hb : ∀ y, b y ≤ 1) : ∀ (Cs : List (List Nat)) (v : Nat), (∀ cl ∈ Cs, 1 ≤ cl.length) → z3 b (zthL v Cs) → ∀ cl ∈ Cs, zsC b cl
  | [], _, _, _ => fun cl h => absurd h List.not_mem_nil
  | d :: Cs, v, hl, h => by
    obtain ⟨m, hm⟩ := @zth1_3 v d
    rw [zthL, z3_app hm] at h
    intro cl hc
    rcases List.mem_cons.mp hc with rfl | q
    · exact z3_cl hb (hl cl hc) h.1
    · exact z3_back hb Cs _ (fun cl q => hl cl (List.mem_cons_of_mem _ q)) h.2 cl q
/-! from clauses to threes -/
theorem znvC_len (b : Nat → Nat) (cl : List Nat) : ∀ m, ((List.range m).flatMap (znv1 b cl)).length = m ∧ ∀ i, i < m → ((List.range m).flatMap (znv1 b cl)).getD i 0 ≤ 1 ∧ (((List.range m).flatMap (znv1 b cl)).getD i 0 = 1 ↔ znoc b cl (i + 1))
  | 0 => ⟨rfl, fun i hi => absurd hi (Nat.not_lt_zero _)⟩
  | m + 1 => by
    obtain ⟨l, ih⟩ := znvC_len b cl m
    have l1 : (znv1 b cl m).length = 1 := rfl
    rw [zrng_succ]
    refine ⟨by rw [List.length_append, l, l1], fun i hi => ?_⟩
    by_cases e : i = m
    · subst e
      have g : ((List.range i).flatMap (znv1 b cl) ++ znv1 b cl i).getD i 0 = (znv1 b cl i).getD 0 0 := by
        simp [List.getD, List.getElem?_append_right (show ((List.range i).flatMap (znv1 b cl)).length ≤ i by omega), l]
      rw [g]
      by_cases q : znoc b cl (i + 1)
      · rw [znv1_1 q]
        exact ⟨Nat.le_refl _, fun _ => q, fun _ => rfl⟩
      · rw [znv1_0 q]
        exact ⟨Nat.zero_le _, fun c => absurd c (by decide), fun c => absurd c q⟩
    · have g : ((List.range m).flatMap (znv1 b cl) ++ znv1 b cl m).getD i 0 = ((List.range m).flatMap (znv1 b cl)).getD i 0 := by
        simp [List.getD, List.getElem?_append_left (show i < ((List.range m).flatMap (znv1 b cl)).length by omega)]
      rw [g]
      exact ih i (by omega)
theorem znv_flat (b : Nat → Nat) (Cs : List (List Nat)) : znv b Cs Cs.length = Cs.flatMap (znvC b) := by
  have e : ∀ j, j ≤ Cs.length → znv b Cs j = (Cs.take j).flatMap (znvC b) := by
    intro j
    induction j with
    | zero => intro _; rfl
    | succ j ih =>
      intro hj
      have t : Cs.take (j + 1) = Cs.take j ++ [Cs.getD j []] := by
        rw [List.take_succ]
        simp [List.getD, show j < Cs.length by omega]
      rw [t, List.flatMap_append, ← ih (by omega)]
      unfold znv
      rw [zrng_succ]
      simp
  rw [e _ (Nat.le_refl _), List.take_length]
theorem z3_fw1 {b b' : Nat → Nat} (hb : ∀ y, b' y ≤ 1) {v : Nat} {cl : List Nat} (hag : ∀ i, i < cl.length → ztv b' (cl.getD i 0) = ztv b (cl.getD i 0)) (hnw : ∀ i, i < cl.length - 3 → (b' (v + i) = 1 ↔ znoc b cl (i + 1))) (hs : zsC b cl) : z3 b' (zth1 v cl) := by
  obtain ⟨i, hi, hi1⟩ := hs
  by_cases e : cl.length ≤ 3
  · rw [zth1_s e, z3_3]
    rw [← hag i hi] at hi1
    by_cases e0 : i = 0
    · subst e0; exact Or.inl hi1
    · by_cases e2 : i = cl.length - 1
      · subst e2; exact Or.inr (Or.inr hi1)
      · have : i = 1 := by omega
        subst this
        refine Or.inr (Or.inl ?_)
        rw [show Nat.min 1 (cl.length - 1) = 1 from Nat.min_eq_left (by omega)]
        exact hi1
  · rw [zth1_l e, z3_sp]
    have nt : ∀ i, i < cl.length → ¬ ztv b' (cl.getD i 0) = 1 → ztv b (cl.getD i 0) = 0 := fun i hi q => by
      have := ztv_01 b (cl.getD i 0)
      rw [hag i hi] at q
      omega
    refine ⟨?_, ?_, ?_⟩
    · by_cases q0 : ztv b' (cl.getD 0 0) = 1
      · exact Or.inl q0
      · by_cases q1 : ztv b' (cl.getD 1 0) = 1
        · exact Or.inr (Or.inl q1)
        · refine Or.inr (Or.inr ((ztv_pos (hb v)).mpr ((hnw 0 (by omega)).mpr (fun x hx => ?_))))
          rcases (show x = 0 ∨ x = 1 by omega) with rfl | rfl
          · exact nt 0 (by omega) q0
          · exact nt 1 (by omega) q1
    · intro k hk
      by_cases q0 : b' (v + k) = 1
      · by_cases q1 : ztv b' (cl.getD (2 + k) 0) = 1
        · exact Or.inr (Or.inl q1)
        · refine Or.inr (Or.inr ((ztv_pos (hb (v + k + 1))).mpr ((hnw (k + 1) (by omega)).mpr (fun x hx => ?_))))
          by_cases ex : x ≤ k + 1
          · exact (hnw k (by omega)).mp q0 x ex
          · have ex2 : x = 2 + k := by omega
            subst ex2
            exact nt _ (by omega) q1
      · exact Or.inl ((ztv_neg (hb (v + k))).mpr (by have := hb (v + k); omega))
    · by_cases q0 : b' (v + (cl.length - 4)) = 1
      · have hn := (hnw (cl.length - 4) (by omega)).mp q0
        have hi2 : ¬ i ≤ cl.length - 4 + 1 := fun q => by have := hn i q; omega
        rw [← hag i hi] at hi1
        rcases (show i = cl.length - 2 ∨ i = cl.length - 1 by omega) with rfl | rfl
        · exact Or.inr (Or.inl hi1)
        · exact Or.inr (Or.inr hi1)
      · exact Or.inl ((ztv_neg (hb _)).mpr (by have := hb (v + (cl.length - 4)); omega))
theorem z3_fw {b b' : Nat → Nat} {V : Nat} (hb : ∀ y, b' y ≤ 1) (hag : ∀ x, x < 2 * V → ztv b' x = ztv b x) : ∀ (Cs : List (List Nat)) (v : Nat), zCok V Cs → (∀ cl ∈ Cs, zsC b cl) → (∀ i, i < (Cs.flatMap (znvC b)).length → b' (v + i) = (Cs.flatMap (znvC b)).getD i 0) → z3 b' (zthL v Cs)
  | [], _, _, _, _ => fun j hj => absurd hj (Nat.not_lt_zero _)
  | d :: Cs, v, hk, hs, hn => by
    obtain ⟨m, hm⟩ := @zth1_3 v d
    have hd := hk d List.mem_cons_self
    have ln := znvC_len b d (d.length - 3)
    have lC : (znvC b d).length = d.length - 3 := ln.1
    have lt : ((d :: Cs).flatMap (znvC b)).length = (znvC b d).length + (Cs.flatMap (znvC b)).length := by simp
    rw [zthL, z3_app hm]
    refine ⟨z3_fw1 (b := b) hb (fun i hi => hag _ ?_) (fun i hi => ?_) (hs d List.mem_cons_self), z3_fw hb hag Cs _ (fun cl q => hk cl (List.mem_cons_of_mem _ q)) (fun cl q => hs cl (List.mem_cons_of_mem _ q)) (fun i hi => ?_)⟩
    · have e : d.getD i 0 = d[i] := by simp [List.getD, hi]
      rw [e]
      exact hd.2.2 _ (List.getElem_mem hi)
    · have q := hn i (by omega)
      have g : ((d :: Cs).flatMap (znvC b)).getD i 0 = (znvC b d).getD i 0 := by
        rw [List.flatMap_cons]
        simp [List.getD, List.getElem?_append_left (show i < (znvC b d).length by omega)]
      rw [q, g]
      exact (ln.2 i hi).2
    · have q := hn (d.length - 3 + i) (by omega)
      have g : ((d :: Cs).flatMap (znvC b)).getD (d.length - 3 + i) 0 = (Cs.flatMap (znvC b)).getD i 0 := by
        rw [List.flatMap_cons, ← lC]
        simp [List.getD, List.getElem?_append_right (Nat.le_add_right _ _)]
      rw [← g, ← q, Nat.add_assoc]
/-- the derived values satisfy all threes, where the plain ones satisfy all clauses -/
theorem z3_bb {b : Nat → Nat} {V : Nat} {Cs : List (List Nat)} (hb : ∀ y, b y ≤ 1) (hbb : ∀ y, zbb b V Cs y ≤ 1) (hk : zCok V Cs) (hs : ∀ cl ∈ Cs, zsC b cl) : z3 (zbb b V Cs) (zthL V Cs) := by
  refine z3_fw (b := b) (V := V) hbb (fun x hx => ?_) Cs V hk hs (fun i _ => ?_)
  · unfold ztv zbb
    rw [if_pos (show x / 2 < V by omega)]
  · unfold zbb
    rw [if_neg (by omega), Nat.add_sub_cancel_left, znv_flat]
/-! WHAT THE CLAUSES SAY -/
theorem zsC_iff {b : Nat → Nat} {cl : List Nat} : zsC b cl ↔ ∃ x ∈ cl, ztv b x = 1 := by
  constructor
  · rintro ⟨i, hi, h⟩
    have e : cl.getD i 0 = cl[i] := by simp [List.getD, hi]
    rw [e] at h
    exact ⟨_, List.getElem_mem hi, h⟩
  · rintro ⟨x, hx, h⟩
    obtain ⟨i, hi, rfl⟩ := List.getElem_of_mem hx
    exact ⟨i, hi, by simpa [List.getD, hi] using h⟩
def zsat (b : Nat → Nat) (Cs : List (List Nat)) : Prop := ∀ cl ∈ Cs, zsC b cl
theorem zsat_app {b : Nat → Nat} {A B : List (List Nat)} : zsat b (A ++ B) ↔ zsat b A ∧ zsat b B := by
  unfold zsat
  simp only [List.mem_append]
  exact ⟨fun h => ⟨fun cl q => h cl (Or.inl q), fun cl q => h cl (Or.inr q)⟩, fun h cl q => q.elim (h.1 cl) (h.2 cl)⟩
theorem zsat_nil {b : Nat → Nat} : zsat b [] := fun cl h => absurd h List.not_mem_nil
theorem zsat_cons {b : Nat → Nat} {cl : List Nat} {B : List (List Nat)} : zsat b (cl :: B) ↔ zsC b cl ∧ zsat b B := by
  unfold zsat
  simp only [List.mem_cons]
  exact ⟨fun h => ⟨h cl (Or.inl rfl), fun d q => h d (Or.inr q)⟩, fun h d q => q.elim (fun e => e ▸ h.1) (h.2 d)⟩
theorem zsat_one {b : Nat → Nat} {cl : List Nat} : zsat b [cl] ↔ zsC b cl := by rw [zsat_cons]; exact ⟨fun h => h.1, fun h => ⟨h, zsat_nil⟩⟩
theorem zsat_flat {b : Nat → Nat} {f : Nat → List (List Nat)} {n : Nat} : zsat b ((List.range n).flatMap f) ↔ ∀ i, i < n → zsat b (f i) := by
  unfold zsat
  simp only [List.mem_flatMap, List.mem_range]
  exact ⟨fun h i hi cl q => h cl ⟨i, hi, q⟩, fun h cl ⟨i, hi, q⟩ => h i hi cl q⟩
theorem zsat_map {b : Nat → Nat} {f : Nat → List Nat} {n : Nat} : zsat b ((List.range n).map f) ↔ ∀ i, i < n → zsC b (f i) := by
  unfold zsat
  simp only [List.mem_map, List.mem_range]
  exact ⟨fun h i hi => h _ ⟨i, hi, rfl⟩, fun h cl ⟨i, hi, q⟩ => q ▸ h i hi⟩
theorem zp {b : Nat → Nat} (hb : ∀ y, b y ≤ 1) {y : Nat} : ztv b (2 * y) = 1 ↔ b y = 1 := ztv_pos (hb y)
theorem zm {b : Nat → Nat} (hb : ∀ y, b y ≤ 1) {y : Nat} : ztv b (2 * y + 1) = 1 ↔ ¬ b y = 1 := by
  rw [ztv_neg (hb y)]
  have := hb y
  omega
theorem zsC_p {b : Nat → Nat} (hb : ∀ y, b y ≤ 1) {x : Nat} : zsC b [2 * x] ↔ b x = 1 := by rw [zsC_iff]; simp [zp hb]
theorem zsC_np {b : Nat → Nat} (hb : ∀ y, b y ≤ 1) {n x : Nat} : zsC b [2 * n + 1, 2 * x] ↔ (b n = 1 → b x = 1) := by
  rw [zsC_iff]
  simp only [List.mem_cons, List.not_mem_nil, or_false, exists_eq_or_imp, exists_eq_left, zp hb, zm hb]
  exact ⟨fun h q => h.elim (fun c => absurd q c) id, fun h => Classical.or_iff_not_imp_left.mpr (fun c => h (Classical.not_not.mp c))⟩
theorem zsC_nn {b : Nat → Nat} (hb : ∀ y, b y ≤ 1) {n x : Nat} : zsC b [2 * n + 1, 2 * x + 1] ↔ ¬ (b n = 1 ∧ b x = 1) := by
  rw [zsC_iff]
  simp only [List.mem_cons, List.not_mem_nil, or_false, exists_eq_or_imp, exists_eq_left, zm hb]
  exact ⟨fun h q => h.elim (fun c => c q.1) (fun c => c q.2), fun h => Classical.or_iff_not_imp_left.mpr (fun c d => h ⟨Classical.not_not.mp c, d⟩)⟩
theorem zsC_nnp {b : Nat → Nat} (hb : ∀ y, b y ≤ 1) {n x y : Nat} : zsC b [2 * n + 1, 2 * x + 1, 2 * y] ↔ (b n = 1 → b x = 1 → b y = 1) := by
  rw [zsC_iff]
  simp only [List.mem_cons, List.not_mem_nil, or_false, exists_eq_or_imp, exists_eq_left, zp hb, zm hb]
  constructor
  · rintro (h | h | h) q1 q2
    · exact absurd q1 h
    · exact absurd q2 h
    · exact h
  · intro h
    by_cases q1 : b n = 1
    · by_cases q2 : b x = 1
      · exact Or.inr (Or.inr (h q1 q2))
      · exact Or.inr (Or.inl q2)
    · exact Or.inl q1
theorem zsC_nnnp {b : Nat → Nat} (hb : ∀ y, b y ≤ 1) {n x y z : Nat} : zsC b [2 * n + 1, 2 * x + 1, 2 * y + 1, 2 * z] ↔ (b n = 1 → b x = 1 → b y = 1 → b z = 1) := by
  rw [zsC_iff]
  simp only [List.mem_cons, List.not_mem_nil, or_false, exists_eq_or_imp, exists_eq_left, zp hb, zm hb]
  constructor
  · rintro (h | h | h | h) q1 q2 q3
    · exact absurd q1 h
    · exact absurd q2 h
    · exact absurd q3 h
    · exact h
  · intro h
    by_cases q1 : b n = 1
    · by_cases q2 : b x = 1
      · by_cases q3 : b y = 1
        · exact Or.inr (Or.inr (Or.inr (h q1 q2 q3)))
        · exact Or.inr (Or.inr (Or.inl q3))
      · exact Or.inr (Or.inl q2)
    · exact Or.inl q1
theorem zsC_pnp {b : Nat → Nat} (hb : ∀ y, b y ≤ 1) {x y z : Nat} : zsC b [2 * x, 2 * y + 1, 2 * z] ↔ (¬ b x = 1 → b y = 1 → b z = 1) := by
  rw [zsC_iff]
  simp only [List.mem_cons, List.not_mem_nil, or_false, exists_eq_or_imp, exists_eq_left, zp hb, zm hb]
  constructor
  · rintro (h | h | h) q1 q2
    · exact absurd h q1
    · exact absurd q2 h
    · exact h
  · intro h
    by_cases q1 : b x = 1
    · exact Or.inl q1
    · by_cases q2 : b y = 1
      · exact Or.inr (Or.inr (h q1 q2))
      · exact Or.inr (Or.inl q2)
theorem zsC_some {b : Nat → Nat} (hb : ∀ y, b y ≤ 1) {f n : Nat} : zsC b (zsome f n) ↔ ∃ k, k < n ∧ b (f + k) = 1 := by
  rw [zsC_iff]
  unfold zsome
  simp only [List.mem_map, List.mem_range]
  constructor
  · rintro ⟨x, ⟨k, hk, rfl⟩, h⟩
    exact ⟨k, hk, (zp hb).mp h⟩
  · rintro ⟨k, hk, h⟩
    exact ⟨_, ⟨k, hk, rfl⟩, (zp hb).mpr h⟩
/-- just one of n variables from f on -/
theorem zsat_just {b : Nat → Nat} (hb : ∀ y, b y ≤ 1) {f n : Nat} : zsat b (zjust f n) ↔ (∃ k, k < n ∧ b (f + k) = 1) ∧ ∀ i j, i < j → j < n → ¬ (b (f + i) = 1 ∧ b (f + j) = 1) := by
  unfold zjust
  rw [zsat_app, zsat_one, zsC_some hb, zsat_flat]
  refine and_congr Iff.rfl ?_
  unfold zpairs
  constructor
  · intro h i j h1 h2
    have q := h i (by omega)
    rw [zsat_map] at q
    have q2 := q (j - i - 1) (by omega)
    unfold zpair at q2
    rw [zsC_nn hb, show f + i + 1 + (j - i - 1) = f + j by omega] at q2
    exact q2
  · intro h i hi
    rw [zsat_map]
    intro j hj
    unfold zpair
    rw [zsC_nn hb, show f + i + 1 + j = f + (i + 1 + j) by omega]
    exact h i (i + 1 + j) (by omega) (by omega)
/-- just one a < n has P -/
def zuni (n : Nat) (P : Nat → Prop) : Prop := (∃ k, k < n ∧ P k) ∧ ∀ i j, i < n → j < n → P i → P j → i = j
theorem zuni_just {b : Nat → Nat} (hb : ∀ y, b y ≤ 1) {f n : Nat} : zsat b (zjust f n) ↔ zuni n (fun k => b (f + k) = 1) := by
  rw [zsat_just hb]
  refine and_congr Iff.rfl ⟨fun h i j hi hj p q => ?_, fun h i j h1 h2 q => ?_⟩
  · rcases Nat.lt_trichotomy i j with c | c | c
    · exact absurd ⟨p, q⟩ (h i j c hj)
    · exact c
    · exact absurd ⟨q, p⟩ (h j i c hi)
  · have := h i j (by omega) h2 q.1 q.2
    omega
/-- the clauses' meaning: b a value of each variable -/
def zMean (t g q r fh fs fk : Nat) (rl : Nat → Nat → Nat) (tp b : Nat → Nat) : Prop :=
  ((∀ i, i < t + 1 → ∀ y, y < t + 1 → zuni g (fun a => b (zcv t g i y a) = 1)) ∧ (∀ i, i < t + 1 → zuni (t + 1) (fun y => b (zhv fh t i y) = 1)) ∧ ∀ i, i < t + 1 → zuni q (fun u => b (zsv fs q i u) = 1)) ∧
  ((∀ y, y < t + 1 → b (zcv t g 0 y (tp y)) = 1) ∧ b (zhv fh t 0 0) = 1 ∧ b (zsv fs q 0 0) = 1 ∧ b (zsv fs q t (q - 1)) = 1) ∧
  ∀ i, i < t → (∃ k, k < r + 1 ∧ b (zkv fk r i k) = 1) ∧
    (∀ k, k < r → b (zkv fk r i k) = 1 → b (zsv fs q i (rl 0 k)) = 1 ∧ b (zsv fs q (i + 1) (rl 2 k)) = 1 ∧ ∀ y, y < t + 1 → b (zhv fh t i y) = 1 → b (zcv t g i y (rl 1 k)) = 1 ∧ b (zcv t g (i + 1) y (rl 3 k)) = 1 ∧ (1 ≤ y + rl 4 k ∧ y + rl 4 k ≤ t + 1) ∧ b (zhv fh t (i + 1) (y + rl 4 k - 1)) = 1) ∧
    (b (zkv fk r i r) = 1 → b (zsv fs q i (q - 1)) = 1 ∧ b (zsv fs q (i + 1) (q - 1)) = 1 ∧ ∀ y, y < t + 1 → b (zhv fh t i y) = 1 → b (zhv fh t (i + 1) y) = 1 ∧ ∀ a, a < g → b (zcv t g i y a) = 1 → b (zcv t g (i + 1) y a) = 1) ∧
    ∀ y, y < t + 1 → ∀ a, a < g → ¬ b (zhv fh t i y) = 1 → b (zcv t g i y a) = 1 → b (zcv t g (i + 1) y a) = 1
theorem zsat_rule {t g q fh fs N i k : Nat} {rl : Nat → Nat → Nat} {b : Nat → Nat} (hb : ∀ y, b y ≤ 1) : zsat b (zrule t g q fh fs rl (2 * N + 1) i k) ↔ (b N = 1 → b (zsv fs q i (rl 0 k)) = 1 ∧ b (zsv fs q (i + 1) (rl 2 k)) = 1 ∧ ∀ y, y < t + 1 → b (zhv fh t i y) = 1 → b (zcv t g i y (rl 1 k)) = 1 ∧ b (zcv t g (i + 1) y (rl 3 k)) = 1 ∧ (1 ≤ y + rl 4 k ∧ y + rl 4 k ≤ t + 1) ∧ b (zhv fh t (i + 1) (y + rl 4 k - 1)) = 1) := by
  unfold zrule
  rw [zsat_app, zsat_cons, zsat_one, zsC_np hb, zsC_np hb, zsat_flat]
  have e : ∀ y, zsat b (zru1 t g fh rl (2 * N + 1) i k y) ↔ (b N = 1 → b (zhv fh t i y) = 1 → b (zcv t g i y (rl 1 k)) = 1 ∧ b (zcv t g (i + 1) y (rl 3 k)) = 1 ∧ (1 ≤ y + rl 4 k ∧ y + rl 4 k ≤ t + 1) ∧ b (zhv fh t (i + 1) (y + rl 4 k - 1)) = 1) := by
    intro y
    unfold zru1
    rw [zsat_cons, zsat_cons, zsat_one, zsC_nnp hb, zsC_nnp hb]
    unfold zru3
    by_cases c : 1 ≤ y + rl 4 k ∧ y + rl 4 k ≤ t + 1
    · rw [if_pos c, zsC_nnp hb]
      exact ⟨fun ⟨h1, h2, h3⟩ p q => ⟨h1 p q, h2 p q, c, h3 p q⟩, fun h => ⟨fun p q => (h p q).1, fun p q => (h p q).2.1, fun p q => (h p q).2.2.2⟩⟩
    · rw [if_neg c, zsC_nn hb]
      exact ⟨fun ⟨h1, h2, h3⟩ p q => absurd ⟨p, q⟩ h3, fun h => ⟨fun p q => (h p q).1, fun p q => (h p q).2.1, fun p => c (h p.1 p.2).2.2.1⟩⟩
  simp only [e]
  exact ⟨fun ⟨⟨h1, h2⟩, h3⟩ p => ⟨h1 p, h2 p, fun y hy => h3 y hy p⟩, fun h => ⟨⟨fun p => (h p).1, fun p => (h p).2.1⟩, fun y hy p => (h p).2.2 y hy⟩⟩
theorem zsat_rest {t g q fh fs N i : Nat} {b : Nat → Nat} (hb : ∀ y, b y ≤ 1) : zsat b (zrest t g q fh fs (2 * N + 1) i) ↔ (b N = 1 → b (zsv fs q i (q - 1)) = 1 ∧ b (zsv fs q (i + 1) (q - 1)) = 1 ∧ ∀ y, y < t + 1 → b (zhv fh t i y) = 1 → b (zhv fh t (i + 1) y) = 1 ∧ ∀ a, a < g → b (zcv t g i y a) = 1 → b (zcv t g (i + 1) y a) = 1) := by
  unfold zrest
  rw [zsat_app, zsat_cons, zsat_one, zsC_np hb, zsC_np hb, zsat_flat]
  have e : ∀ y, zsat b (zre1 t g fh (2 * N + 1) i y) ↔ (b N = 1 → b (zhv fh t i y) = 1 → b (zhv fh t (i + 1) y) = 1 ∧ ∀ a, a < g → b (zcv t g i y a) = 1 → b (zcv t g (i + 1) y a) = 1) := by
    intro y
    unfold zre1
    rw [zsat_app, zsat_one, zsC_nnp hb, zsat_map]
    unfold zre2
    simp only [zsC_nnnp hb]
    exact ⟨fun ⟨h1, h2⟩ p q => ⟨h1 p q, fun a ha => h2 a ha p q⟩, fun h => ⟨fun p q => (h p q).1, fun a ha p q => (h p q).2 a ha⟩⟩
  simp only [e]
  exact ⟨fun ⟨⟨h1, h2⟩, h3⟩ p => ⟨h1 p, h2 p, fun y hy => h3 y hy p⟩, fun h => ⟨⟨fun p => (h p).1, fun p => (h p).2.1⟩, fun y hy p => (h p).2.2 y hy⟩⟩
theorem zsat_all {t g q r fh fs fk : Nat} {rl : Nat → Nat → Nat} {tp b : Nat → Nat} (hb : ∀ y, b y ≤ 1) : zsat b (zallC t g q r fh fs fk rl tp) ↔ zMean t g q r fh fs fk rl tp b := by
  unfold zallC zrowsC zendsC zMean
  rw [zsat_app, zsat_app, zsat_app, zsat_app, zsat_app, zsat_flat, zsat_flat, zsat_flat, zsat_flat, zsat_flat, zsat_cons, zsat_cons, zsat_one, zsC_p hb, zsC_p hb, zsC_p hb]
  refine and_congr (and_congr ?_ (and_congr ?_ ?_)) (and_congr (and_congr ?_ Iff.rfl) ?_)
  · refine forall_congr' fun i => imp_congr_right fun _ => ?_
    unfold zr1
    rw [zsat_flat]
    refine forall_congr' fun y => imp_congr_right fun _ => ?_
    unfold zr1c
    rw [zuni_just hb]
    exact Iff.rfl
  · refine forall_congr' fun i => imp_congr_right fun _ => ?_
    unfold zr2
    rw [zuni_just hb]
    exact Iff.rfl
  · refine forall_congr' fun i => imp_congr_right fun _ => ?_
    unfold zr3
    rw [zuni_just hb]
    exact Iff.rfl
  · refine forall_congr' fun y => imp_congr_right fun _ => ?_
    unfold ze1
    rw [zsat_one, zsC_p hb]
  · refine forall_congr' fun i => imp_congr_right fun _ => ?_
    unfold zstepC
    rw [zsat_app, zsat_app, zsat_app, zsat_one, zsC_some hb, zsat_flat, zsat_rest hb, zsat_flat]
    refine and_congr Iff.rfl (and_congr ?_ (and_congr Iff.rfl ?_))
    · refine forall_congr' fun k => imp_congr_right fun _ => ?_
      unfold zrules
      exact zsat_rule hb
    · refine forall_congr' fun y => imp_congr_right fun _ => ?_
      unfold zla1
      rw [zsat_map]
      refine forall_congr' fun a => imp_congr_right fun _ => ?_
      unfold zla2
      exact zsC_pnp hb
/-! FROM VALUES TO A RUN, AND BACK -/
theorem zrun_back {t g q r fh fs fk : Nat} {rl : Nat → Nat → Nat} {tp b ch : Nat → Nat} (hm : zMok t g q r rl tp) (h : zMean t g q r fh fs fk rl tp b) (hch : ∀ i, i < t → ch i ≤ r ∧ b (zkv fk r i (ch i)) = 1) : zacc q r t rl tp ch := by
  obtain ⟨⟨ht1, ht3⟩, hg, hq, hr8, hrl, htp⟩ := hm
  obtain ⟨⟨u1, u2, u3⟩, ⟨s1, s2, s3, s4⟩, hst⟩ := h
  have inv : ∀ i, i ≤ t → zok q r t rl tp ch i ∧ ((zcf r rl tp ch i).1 < t + 1 ∧ b (zhv fh t i (zcf r rl tp ch i).1) = 1) ∧ ((zcf r rl tp ch i).2.1 < q ∧ b (zsv fs q i (zcf r rl tp ch i).2.1) = 1) ∧ ∀ y, y < t + 1 → (zcf r rl tp ch i).2.2 y < g ∧ b (zcv t g i y ((zcf r rl tp ch i).2.2 y)) = 1 := by
    intro i
    induction i with
    | zero =>
      intro _
      exact ⟨fun j hj => absurd hj (Nat.not_lt_zero _), ⟨by show 0 < t + 1; omega, s2⟩, ⟨by show 0 < q; omega, s3⟩, fun y hy => ⟨htp y (by omega), s1 y hy⟩⟩
    | succ i ih =>
      intro hi
      obtain ⟨ok, ⟨h1, h2⟩, ⟨a1, a2⟩, hT⟩ := ih (by omega)
      obtain ⟨-, hru, hre, hla⟩ := hst i (by omega)
      obtain ⟨c1, c2⟩ := hch i (by omega)
      generalize hk : ch i = k at c1 c2
      have hoth : ∀ y, y < t + 1 → ¬ y = (zcf r rl tp ch i).1 → b (zcv t g (i + 1) y ((zcf r rl tp ch i).2.2 y)) = 1 := fun y hy hne =>
        hla y hy _ (hT y hy).1 (fun q => hne ((u2 i (by omega)).2 _ _ hy h1 q h2)) (hT y hy).2
      by_cases e : k = r
      · obtain ⟨r1, r2, r3⟩ := hre (e ▸ c2)
        have hu : (zcf r rl tp ch i).2.1 = q - 1 := (u3 i (by omega)).2 _ _ a1 (by omega) a2 r1
        obtain ⟨r4, r5⟩ := r3 _ h1 h2
        have e' : ch i = r := hk.trans e
        refine ⟨?_, ?_, ?_, ?_⟩
        · intro j hj
          by_cases ej : j = i
          · subst ej
            exact Or.inl ⟨e', hu⟩
          · exact ok j (by omega)
        · simp only [zcf, znh_r e']
          exact ⟨h1, r4⟩
        · simp only [zcf, znu_r e']
          exact ⟨a1, hu ▸ r2⟩
        · intro y hy
          simp only [zcf, znt_r e']
          refine ⟨(hT y hy).1, ?_⟩
          by_cases ey : y = (zcf r rl tp ch i).1
          · rw [ey]
            exact r5 _ (hT _ h1).1 (hT _ h1).2
          · exact hoth y hy ey
      · have hlt : k < r := by omega
        obtain ⟨b0, b1, b2, b3, b4⟩ := hrl k hlt
        obtain ⟨r1, r2, r3⟩ := hru k hlt c2
        obtain ⟨r4, r5, r6, r7⟩ := r3 _ h1 h2
        have hu : (zcf r rl tp ch i).2.1 = rl 0 k := (u3 i (by omega)).2 _ _ a1 (by omega) a2 r1
        have hTh : (zcf r rl tp ch i).2.2 (zcf r rl tp ch i).1 = rl 1 k := (u1 i (by omega) _ h1).2 _ _ (hT _ h1).1 b1 (hT _ h1).2 r4
        have e' : ¬ ch i = r := by rw [hk]; exact e
        refine ⟨?_, ?_, ?_, ?_⟩
        · intro j hj
          by_cases ej : j = i
          · subst ej
            rw [hk]
            exact Or.inr ⟨e, hu, hTh, r6.1, r6.2⟩
          · exact ok j (by omega)
        · simp only [zcf, hk, znh_n e]
          exact ⟨by omega, r7⟩
        · simp only [zcf, hk, znu_n e]
          exact ⟨b2, r2⟩
        · intro y hy
          simp only [zcf, hk, znt_n e]
          by_cases ey : y = (zcf r rl tp ch i).1
          · rw [if_pos ey, ey]
            exact ⟨b3, r5⟩
          · rw [if_neg ey]
            exact ⟨(hT y hy).1, hoth y hy ey⟩
  obtain ⟨ok, -, ⟨a1, a2⟩, -⟩ := inv t (Nat.le_refl _)
  exact ⟨ok, (u3 t (by omega)).2 _ _ a1 (by omega) a2 s4⟩
theorem zpc_spec {PL : List Nat} {fk r i : Nat} : ∀ n, zpc PL fk r i n ≤ n ∧ (zpc PL fk r i n < n → zmk PL (2 * zkv fk r i (zpc PL fk r i n)) = 1) ∧ (zpc PL fk r i n = n → ∀ j, j < n → ¬ zmk PL (2 * zkv fk r i j) = 1)
  | 0 => ⟨Nat.le_refl _, fun h => absurd h (Nat.not_lt_zero _), fun _ j hj => absurd hj (Nat.not_lt_zero _)⟩
  | n + 1 => by
    obtain ⟨h1, h2, h3⟩ := zpc_spec (PL := PL) (fk := fk) (r := r) (i := i) n
    rw [zpc]
    by_cases c : zpc PL fk r i n < n
    · rw [if_pos c]
      exact ⟨by omega, fun _ => h2 c, fun q => by omega⟩
    · rw [if_neg c]
      have e : zpc PL fk r i n = n := by omega
      by_cases d : zmk PL (2 * zkv fk r i n) = 1
      · rw [if_pos d]
        exact ⟨by omega, fun _ => d, fun q => by omega⟩
      · rw [if_neg d]
        refine ⟨Nat.le_refl _, fun q => absurd q (Nat.lt_irrefl _), fun _ j hj => ?_⟩
        by_cases ej : j = n
        · subst ej; exact d
        · exact h3 e j (by omega)
/-- the lowest picked choices are accepted, where the picked variables satisfy the clauses -/
theorem zrun_pc {t g q r fh fs fk : Nat} {rl : Nat → Nat → Nat} {tp : Nat → Nat} {PL : List Nat} (hm : zMok t g q r rl tp) (h : zMean t g q r fh fs fk rl tp (fun x => zmk PL (2 * x))) : zacc q r t rl tp (fun i => zpc PL fk r i r) ∧ ∀ i, i < t → zpc PL fk r i r ≤ r := by
  refine ⟨zrun_back hm h (fun i hi => ?_), fun i _ => (zpc_spec r).1⟩
  obtain ⟨h1, h2, h3⟩ := zpc_spec (PL := PL) (fk := fk) (r := r) (i := i) r
  refine ⟨h1, ?_⟩
  show zmk PL (2 * zkv fk r i (zpc PL fk r i r)) = 1
  by_cases c : zpc PL fk r i r < r
  · exact h2 c
  · have e : zpc PL fk r i r = r := by omega
    obtain ⟨k, hk, hk1⟩ := (h.2.2 i hi).1
    have hk1 : zmk PL (2 * zkv fk r i k) = 1 := hk1
    by_cases d : k < r
    · exact absurd hk1 (h3 e k d)
    · rw [e, show r = k by omega]
      rw [show r = k by omega] at hk1
      exact hk1
theorem zdm {g x x' a a' : Nat} (ha : a < g) (ha' : a' < g) (h : x * g + a = x' * g + a') : x = x' ∧ a = a' := by
  have e1 : (x * g + a) / g = x := by rw [Nat.mul_comm, Nat.mul_add_div (by omega), Nat.div_eq_of_lt ha, Nat.add_zero]
  have e2 : (x' * g + a') / g = x' := by rw [Nat.mul_comm, Nat.mul_add_div (by omega), Nat.div_eq_of_lt ha', Nat.add_zero]
  have e : x = x' := by rw [← e1, h, e2]
  subst e
  exact ⟨rfl, by omega⟩
theorem zmk_iff {M : List Nat} {x : Nat} : zmk M x = 1 ↔ x ∈ M := by
  unfold zmk
  split
  · rename_i h; exact ⟨fun _ => h, fun _ => rfl⟩
  · rename_i h; exact ⟨fun q => absurd q (by decide), fun q => absurd q h⟩
theorem zmarks_mem {t g q r x : Nat} {cf : Nat → Nat × Nat × (Nat → Nat)} {ch : Nat → Nat} : x ∈ zmarks t g q r cf ch ↔ (∃ i, i < t + 1 ∧ ((∃ y, y < t + 1 ∧ x = zcv t g i y ((cf i).2.2 y)) ∨ x = zhv (zfh t g) t i (cf i).1 ∨ x = zsv (zfs t g) q i (cf i).2.1)) ∨ ∃ i, i < t ∧ x = zkv (zfk t g q) r i (ch i) := by
  unfold zmarks zmkR zmkC zmkK
  simp only [List.mem_append, List.mem_flatMap, List.mem_range, List.mem_cons, List.not_mem_nil, or_false]
theorem zmk_all {t g q r : Nat} {cf : Nat → Nat × Nat × (Nat → Nat)} {ch : Nat → Nat} (hcb : ∀ i, i ≤ t → (cf i).1 ≤ t ∧ (cf i).2.1 < q ∧ ∀ y, y ≤ t → (cf i).2.2 y < g) (hch : ∀ i, i < t → ch i ≤ r) :
    (∀ i y a, i ≤ t → y ≤ t → a < g → (zmk (zmarks t g q r cf ch) (zcv t g i y a) = 1 ↔ a = (cf i).2.2 y)) ∧ (∀ i y, i ≤ t → y ≤ t → (zmk (zmarks t g q r cf ch) (zhv (zfh t g) t i y) = 1 ↔ y = (cf i).1)) ∧ (∀ i u, i ≤ t → u < q → (zmk (zmarks t g q r cf ch) (zsv (zfs t g) q i u) = 1 ↔ u = (cf i).2.1)) ∧ ∀ i k, i < t → k ≤ r → (zmk (zmarks t g q r cf ch) (zkv (zfk t g q) r i k) = 1 ↔ k = ch i) := by
  have l1 := zfs_le t g
  have l2 := zfk_le t g q
  have lh : ∀ i y, zfh t g ≤ zhv (zfh t g) t i y := fun i y => by unfold zhv; omega
  have ls : ∀ i y, zfs t g ≤ zsv (zfs t g) q i y := fun i y => by unfold zsv; omega
  have lk : ∀ i y, zfk t g q ≤ zkv (zfk t g q) r i y := fun i y => by unfold zkv; omega
  refine ⟨fun i y a hi hy ha => ?_, fun i y hi hy => ?_, fun i u hi hu => ?_, fun i k hi hk => ?_⟩
  · rw [zmk_iff, zmarks_mem]
    have x1 := zcv_lt hi hy ha
    constructor
    · rintro (⟨j, hj, (⟨z, hz, e⟩ | e | e)⟩ | ⟨j, hj, e⟩)
      · unfold zcv at e
        obtain ⟨e1, e2⟩ := zdm ha ((hcb j (by omega)).2.2 z (by omega)) e
        obtain ⟨e3, e4⟩ := zdm (by omega) (by omega) e1
        subst e3; subst e4
        exact e2
      · have := lh j (cf j).1; omega
      · have := ls j (cf j).2.1; omega
      · have := lk j (ch j); omega
    · rintro rfl
      exact Or.inl ⟨i, by omega, Or.inl ⟨y, by omega, rfl⟩⟩
  · rw [zmk_iff, zmarks_mem]
    have x1 := zhv_lt (g := g) hi hy
    have x2 := lh i y
    constructor
    · rintro (⟨j, hj, (⟨z, hz, e⟩ | e | e)⟩ | ⟨j, hj, e⟩)
      · have := zcv_lt (show j ≤ t by omega) (show z ≤ t by omega) ((hcb j (by omega)).2.2 z (by omega)); omega
      · have hb := (hcb j (by omega)).1
        unfold zhv at e
        obtain ⟨e1, e2⟩ := zdm (g := t + 1) (x := i) (x' := j) (a := y) (a' := (cf j).1) (by omega) (by omega) (by omega)
        subst e1
        exact e2
      · have := ls j (cf j).2.1; omega
      · have := lk j (ch j); omega
    · rintro rfl
      exact Or.inl ⟨i, by omega, Or.inr (Or.inl rfl)⟩
  · rw [zmk_iff, zmarks_mem]
    have x1 := zsv_lt (t := t) (g := g) hi hu
    have x2 := ls i u
    constructor
    · rintro (⟨j, hj, (⟨z, hz, e⟩ | e | e)⟩ | ⟨j, hj, e⟩)
      · have := zcv_lt (show j ≤ t by omega) (show z ≤ t by omega) ((hcb j (by omega)).2.2 z (by omega)); omega
      · have := zhv_lt (g := g) (show j ≤ t by omega) (hcb j (by omega)).1; omega
      · have hb := (hcb j (by omega)).2.1
        unfold zsv at e
        obtain ⟨e1, e2⟩ := zdm (g := q) (x := i) (x' := j) (a := u) (a' := (cf j).2.1) hu hb (by omega)
        subst e1
        exact e2
      · have := lk j (ch j); omega
    · rintro rfl
      exact Or.inl ⟨i, by omega, Or.inr (Or.inr rfl)⟩
  · rw [zmk_iff, zmarks_mem]
    have x2 := lk i k
    constructor
    · rintro (⟨j, hj, (⟨z, hz, e⟩ | e | e)⟩ | ⟨j, hj, e⟩)
      · have := zcv_lt (show j ≤ t by omega) (show z ≤ t by omega) ((hcb j (by omega)).2.2 z (by omega)); omega
      · have := zhv_lt (g := g) (show j ≤ t by omega) (hcb j (by omega)).1; omega
      · have := zsv_lt (t := t) (g := g) (show j ≤ t by omega) (hcb j (by omega)).2.1; omega
      · have hb := hch j hj
        unfold zkv at e
        obtain ⟨e1, e2⟩ := zdm (g := r + 1) (x := i) (x' := j) (a := k) (a' := ch j) (by omega) (by omega) (by omega)
        subst e1
        exact e2
    · rintro rfl
      exact Or.inr ⟨i, hi, rfl⟩
theorem zuni_eq {n v : Nat} {P : Nat → Prop} (hv : v < n) (h : ∀ k, k < n → (P k ↔ k = v)) : zuni n P := ⟨⟨v, hv, (h v hv).mpr rfl⟩, fun i j hi hj p q => by rw [(h i hi).mp p, (h j hj).mp q]⟩
theorem zcf_bq {t g q r : Nat} {rl : Nat → Nat → Nat} {tp ch : Nat → Nat} (hm : zMok t g q r rl tp) (hch : ∀ i, i < t → ch i ≤ r) (hok : zok q r t rl tp ch t) : ∀ i, i ≤ t → (zcf r rl tp ch i).1 ≤ t ∧ (zcf r rl tp ch i).2.1 < q ∧ ∀ y, y ≤ t → (zcf r rl tp ch i).2.2 y < g := by
  obtain ⟨⟨ht1, ht3⟩, hg, hq, hr8, hrl, htp⟩ := hm
  intro i
  induction i with
  | zero => intro _; exact ⟨Nat.zero_le _, by show 0 < q; omega, htp⟩
  | succ i ih =>
    intro hi
    obtain ⟨h1, h2, h3⟩ := ih (by omega)
    have hc := hok i (by omega)
    by_cases e : ch i = r
    · simp only [zcf, znh_r e, znu_r e, znt_r e]
      exact ⟨h1, h2, h3⟩
    · have hlt : ch i < r := by have := hch i (by omega); omega
      obtain ⟨b0, b1, b2, b3, b4⟩ := hrl _ hlt
      simp only [zcf, znh_n e, znu_n e, znt_n e]
      rcases hc with ⟨c1, -⟩ | ⟨-, -, -, c1, c2⟩
      · exact absurd c1 e
      · refine ⟨by omega, b2, fun y hy => ?_⟩
        by_cases ey : y = (zcf r rl tp ch i).1
        · rw [if_pos ey]; exact b3
        · rw [if_neg ey]; exact h3 y hy
/-- an accepted run's marks satisfy the clauses -/
theorem zrun_fw {t g q r : Nat} {rl : Nat → Nat → Nat} {tp ch : Nat → Nat} (hm : zMok t g q r rl tp) (hch : ∀ i, i < t → ch i ≤ r) (ha : zacc q r t rl tp ch) : zMean t g q r (zfh t g) (zfs t g) (zfk t g q) rl tp (zmk (zmarks t g q r (zcf r rl tp ch) ch)) := by
  have hcb := zcf_bq hm hch ha.1
  obtain ⟨mC, mH, mS, mK⟩ := zmk_all hcb hch
  obtain ⟨⟨ht1, ht3⟩, hg, hq, hr8, hrl, htp⟩ := hm
  refine ⟨⟨fun i hi y hy => zuni_eq ((hcb i (by omega)).2.2 y (by omega)) (fun a h => mC i y a (by omega) (by omega) h), fun i hi => zuni_eq (v := (zcf r rl tp ch i).1) (by have := (hcb i (by omega)).1; omega) (fun y h => mH i y (by omega) (by omega)), fun i hi => zuni_eq (hcb i (by omega)).2.1 (fun u h => mS i u (by omega) h)⟩, ⟨fun y hy => (mC 0 y _ (by omega) (by omega) (htp y (by omega))).mpr rfl, (mH 0 0 (by omega) (by omega)).mpr rfl, (mS 0 0 (by omega) (by omega)).mpr rfl, (mS t _ (by omega) (by omega)).mpr ha.2.symm⟩, fun i hi => ?_⟩
  have hc := ha.1 i hi
  obtain ⟨h1, h2, h3⟩ := hcb i (by omega)
  obtain ⟨n1, n2, n3⟩ := hcb (i + 1) (by omega)
  refine ⟨⟨ch i, by have := hch i hi; omega, (mK i _ hi (hch i hi)).mpr rfl⟩, fun k hk hb => ?_, fun hb => ?_, fun y hy a hay hno hb => ?_⟩
  · have e := (mK i k hi (by omega)).mp hb
    obtain ⟨b0, b1, b2, b3, b4⟩ := hrl k hk
    have e' : ¬ ch i = r := by omega
    rcases hc with ⟨c1, -⟩ | ⟨-, c2, c3, c4, c5⟩
    · exact absurd c1 e'
    · rw [← e] at c2 c3 c4 c5
      refine ⟨(mS i _ (by omega) (by omega)).mpr c2.symm, (mS (i + 1) _ (by omega) b2).mpr (by show rl 2 k = znu r rl _ (ch i); rw [znu_n e', e]), fun y hy hb2 => ?_⟩
      have ey := (mH i y (by omega) (by omega)).mp hb2
      subst ey
      refine ⟨(mC i _ _ (by omega) h1 b1).mpr c3.symm, (mC (i + 1) _ _ (by omega) h1 b3).mpr (by show rl 3 k = znt r rl _ _ (ch i) _; rw [znt_n e', e]; simp only [if_true]), ⟨c4, c5⟩, (mH (i + 1) _ (by omega) (by omega)).mpr (by show _ = znh r rl _ (ch i); rw [znh_n e', e])⟩
  · have e := (mK i r hi (Nat.le_refl _)).mp hb
    have e' : ch i = r := e.symm
    rcases hc with ⟨-, c1⟩ | ⟨c2, -⟩
    · refine ⟨(mS i _ (by omega) (by omega)).mpr c1.symm, (mS (i + 1) _ (by omega) (by omega)).mpr (by simp only [zcf, znu_r e', c1]), fun y hy hb2 => ?_⟩
      have ey := (mH i y (by omega) (by omega)).mp hb2
      subst ey
      refine ⟨(mH (i + 1) _ (by omega) h1).mpr (by simp only [zcf, znh_r e']), fun a hay hb3 => ?_⟩
      have ea := (mC i _ a (by omega) h1 hay).mp hb3
      exact (mC (i + 1) _ a (by omega) h1 hay).mpr (by simp only [zcf, znt_r e']; exact ea)
    · exact absurd e' c2
  · have ea := (mC i y a (by omega) (by omega) hay).mp hb
    refine (mC (i + 1) y a (by omega) (by omega) hay).mpr ?_
    by_cases e : ch i = r
    · simp only [zcf, znt_r e]; exact ea
    · simp only [zcf, znt_n e]
      rw [if_neg (fun q => hno ((mH i y (by omega) (by omega)).mpr q))]
      exact ea
