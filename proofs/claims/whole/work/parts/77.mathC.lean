/-! HOW LONG THE LAID TRIP IS -/
theorem zrng_get {α : Type} {f : Nat → List α} : ∀ (L : List Nat), (List.range L.length).flatMap (fun i => f (L.getD i 0)) = L.flatMap f := by
  intro L
  have e : ∀ j, j ≤ L.length → (List.range j).flatMap (fun i => f (L.getD i 0)) = (L.take j).flatMap f := by
    intro j
    induction j with
    | zero => intro _; rfl
    | succ j ih =>
      intro hj
      have t : L.take (j + 1) = L.take j ++ [L.getD j 0] := by
        rw [List.take_succ]
        simp [List.getD, show j < L.length by omega]
      rw [t, List.flatMap_append, ← ih (by omega), zrng_succ]
      simp
  rw [e _ (Nat.le_refl _), List.take_length]
def zsm (F : Nat → Nat) (L : List Nat) : Nat := (L.map F).sum
theorem zsm_app (F : Nat → Nat) (A B : List Nat) : zsm F (A ++ B) = zsm F A + zsm F B := by simp [zsm, List.sum_append]
theorem zflat_len {α : Type} {f : Nat → List α} : ∀ (L : List Nat), (L.flatMap f).length = zsm (fun d => (f d).length) L
  | [] => rfl
  | a :: L => by simp [zsm, List.length_flatMap]
theorem zlayV_len (w cov : Nat → Nat) (n u : Nat) : (zlayV w cov n u).length = zsm (fun d => (zlay1 w cov d).length) (zsl w u n) := by
  unfold zlayV zlayK
  rw [← zsl_len, zrng_get, zflat_len]
theorem zsum_cg {f g : Nat → Nat} : ∀ {k : Nat}, (∀ i, i < k → f i = g i) → zsum f k = zsum g k
  | 0, _ => rfl
  | k + 1, h => by rw [zsum, zsum, zsum_cg (fun i hi => h i (by omega)), h k (by omega)]
theorem zsum_add {f g : Nat → Nat} : ∀ k, zsum (fun i => f i + g i) k = zsum f k + zsum g k
  | 0 => rfl
  | k + 1 => by rw [zsum, zsum, zsum, zsum_add k]; omega
theorem zsum_dl {v x : Nat} : ∀ k, zsum (fun u => if v = u then x else 0) k = if v < k then x else 0
  | 0 => by simp [zsum]
  | k + 1 => by
    rw [zsum, zsum_dl k]
    by_cases e : v = k
    · subst e; simp
    · by_cases q : v < k
      · simp [e, q, show v < k + 1 by omega]
      · simp [e, q, show ¬ v < k + 1 by omega]
theorem zlayT_len {w cov : Nat → Nat} {ed : Nat} : ∀ k, (zlayT w cov ed k).length = zc (zcv1 cov) k + zsum (fun u => if cov u = 1 then zsm (fun d => (zlay1 w cov d).length) (zsl w u (2 * ed)) else 0) k
  | 0 => rfl
  | k + 1 => by
    have e : zlayT w cov ed (k + 1) = zlayT w cov ed k ++ zlayU w cov ed k := zrng_succ _ k
    rw [e, List.length_append, zlayT_len k, zc, zsum]
    unfold zlayU
    by_cases c : cov k = 1
    · rw [if_pos c, if_pos c, List.length_append, zlayV_len]
      simp only [zcv1, c, decide_true, if_true, List.length_cons, List.length_nil]
      omega
    · rw [if_neg c, if_neg c]
      simp only [zcv1, c, decide_false, List.length_nil, Bool.false_eq_true, if_false]
      omega
theorem zsum_z : ∀ k, zsum (fun _ => 0) k = 0
  | 0 => rfl
  | k + 1 => by rw [zsum, zsum_z k]
theorem zsides_sum {w cov F : Nat → Nat} {ve : Nat} : ∀ n, (∀ d, d < n → w d < ve) → zsum (fun u => if cov u = 1 then zsm F (zsl w u n) else 0) ve = zsum (fun d => if cov (w d) = 1 then F d else 0) n
  | 0, _ => by
    rw [zsum_cg (g := fun _ => 0) (fun i _ => by simp [zsl, zsm]), zsum_z]
    rfl
  | n + 1, h => by
    have e : zsum (fun u => if cov u = 1 then zsm F (zsl w u (n + 1)) else 0) ve = zsum (fun u => (if cov u = 1 then zsm F (zsl w u n) else 0) + (if w n = u then (if cov (w n) = 1 then F n else 0) else 0)) ve := by
      refine zsum_cg (fun u _ => ?_)
      rw [zsl, zsm_app]
      by_cases c : cov u = 1
      · by_cases q : w n = u
        · subst q
          simp [c, zsm]
        · simp [c, q, zsm]
      · by_cases q : w n = u
        · subst q
          simp [c]
        · simp [c, q]
    rw [e, zsum_add, zsides_sum n (fun d hd => h d (by omega)), zsum_dl, if_pos (h n (by omega)), zsum]
theorem zpair_sum {G : Nat → Nat} {m : Nat} : ∀ k, (∀ e, e < k → G (2 * e) + G (2 * e + 1) = m) → zsum G (2 * k) = m * k
  | 0, _ => rfl
  | k + 1, h => by
    have a := zpair_sum (G := G) (m := m) k (fun e he => h e (by omega))
    have b := h k (by omega)
    rw [show 2 * (k + 1) = 2 * k + 1 + 1 by omega, zsum, zsum, a, Nat.mul_succ]
    omega
theorem zc_blkE {P : Nat → Bool} {a s m : Nat} : ∀ k, (∀ j, j < k → zc (fun i => P (a + s * j + i)) s = m) → zc P (a + s * k) = zc P a + m * k
  | 0, _ => rfl
  | k + 1, h => by
    have x := zc_blkE (P := P) (a := a) (s := s) (m := m) k (fun j hj => h j (by omega))
    have y := h k (by omega)
    have e : a + s * (k + 1) = a + s * k + s := by rw [Nat.mul_succ]; omega
    rw [e, zc_add P (a + s * k) s, Nat.mul_succ]
    omega
theorem zfst_ex {b : Nat → Nat} {L3 : List Nat} {j : Nat} (h : ∃ i, i < 3 ∧ ztv b (L3.getD (3 * j + i) 0) = 1) : (zfst b L3 j 0 ∧ ¬ zfst b L3 j 1 ∧ ¬ zfst b L3 j 2) ∨ (¬ zfst b L3 j 0 ∧ zfst b L3 j 1 ∧ ¬ zfst b L3 j 2) ∨ (¬ zfst b L3 j 0 ∧ ¬ zfst b L3 j 1 ∧ zfst b L3 j 2) := by
  have z : ∀ i, ztv b (L3.getD (3 * j + i) 0) = 0 ∨ ztv b (L3.getD (3 * j + i) 0) = 1 := fun i => ztv_01 b _
  rcases z 0 with a0 | a0
  · have n0 : ¬ zfst b L3 j 0 := fun q => by have := q.1; omega
    rcases z 1 with a1 | a1
    · have n1 : ¬ zfst b L3 j 1 := fun q => by have := q.1; omega
      have a2 : ztv b (L3.getD (3 * j + 2) 0) = 1 := by
        obtain ⟨i, hi, q⟩ := h
        rcases (show i = 0 ∨ i = 1 ∨ i = 2 by omega) with rfl | rfl | rfl
        · omega
        · omega
        · exact q
      refine Or.inr (Or.inr ⟨n0, n1, a2, fun x hx => ?_⟩)
      rcases (show x = 0 ∨ x = 1 by omega) with rfl | rfl
      · exact a0
      · exact a1
    · refine Or.inr (Or.inl ⟨n0, ⟨a1, fun x hx => ?_⟩, fun q => by have := q.2 1 (by decide); omega⟩)
      have : x = 0 := by omega
      subst this
      exact a0
  · exact Or.inl ⟨⟨a0, fun x hx => absurd hx (Nat.not_lt_zero _)⟩, fun q => by have := q.2 0 (by decide); omega, fun q => by have := q.2 0 (by decide); omega⟩
theorem zcov_cnt {b : Nat → Nat} {va n3 : Nat} {L3 : List Nat} (hb : ∀ y, b y ≤ 1) (h3 : ∀ j, j < n3 → ∃ i, i < 3 ∧ ztv b (L3.getD (3 * j + i) 0) = 1) : zc (zcv1 (zcov b va L3)) (2 * va + 3 * n3) = va + 2 * n3 := by
  have z2 : ∀ f : Nat → Bool, zc f 2 = (if f 0 then 1 else 0) + (if f 1 then 1 else 0) := fun f => by simp [zc]
  have z3' : ∀ f : Nat → Bool, zc f 3 = (if f 0 then 1 else 0) + (if f 1 then 1 else 0) + (if f 2 then 1 else 0) := fun f => by simp [zc]
  rw [zc_blkE (a := 2 * va) (s := 3) (m := 2) n3]
  · have e := zc_blkE (P := zcv1 (zcov b va L3)) (a := 0) (s := 2) (m := 1) va (fun x hx => by
      rw [z2]
      simp only [zcv1, Nat.zero_add, Nat.add_zero]
      rw [zcov_lo (show 2 * x < 2 * va by omega), zcov_lo (show 2 * x + 1 < 2 * va by omega)]
      have p := ztv_pos (hb x)
      have q := ztv_neg (hb x)
      have := hb x
      by_cases c : b x = 1
      · rw [p.mpr c]
        have : ¬ ztv b (2 * x + 1) = 1 := fun d => by have := q.mp d; omega
        simp [this]
      · have c0 : b x = 0 := by omega
        rw [q.mpr c0]
        have : ¬ ztv b (2 * x) = 1 := fun d => by have := p.mp d; omega
        simp [this])
    rw [Nat.zero_add] at e
    rw [e]
    show 0 + 1 * va + 2 * n3 = _
    omega
  · intro j hj
    rw [z3']
    have c0 : ∀ i, i < 3 → zcv1 (zcov b va L3) (2 * va + 3 * j + i) = decide (zcov3 b L3 j i = 1) := fun i hi => by unfold zcv1; rw [zcov_hi b va L3 j i hi]
    rw [c0 0 (by decide), c0 1 (by decide), c0 2 (by decide)]
    rcases zfst_ex (h3 j hj) with ⟨a, d, e⟩ | ⟨a, d, e⟩ | ⟨a, d, e⟩
    · rw [zcov3_0 a, zcov3_1 d, zcov3_1 e]; rfl
    · rw [zcov3_1 a, zcov3_0 d, zcov3_1 e]; rfl
    · rw [zcov3_1 a, zcov3_1 d, zcov3_0 e]; rfl
theorem zcov_is {b : Nat → Nat} {va n3 : Nat} {L3 : List Nat} (hb : ∀ y, b y ≤ 1) (hL : ∀ i, i < 3 * n3 → L3.getD i 0 < 2 * va) (h3 : ∀ j, j < n3 → ∃ i, i < 3 ∧ ztv b (L3.getD (3 * j + i) 0) = 1) {e : Nat} (he : e < va + 6 * n3) : zcov b va L3 (zva va L3 (2 * e)) = 1 ∨ zcov b va L3 (zva va L3 (2 * e + 1)) = 1 := by
  by_cases c : e < va
  · rw [zva_lo (by omega), zva_lo (by omega), zcov_lo (by omega), zcov_lo (by omega), ztv_pos (hb e), ztv_neg (hb e)]
    have := hb e
    omega
  · obtain ⟨j, k, hj, hk, rfl⟩ : ∃ j k, j < n3 ∧ k < 6 ∧ e = va + 6 * j + k := ⟨(e - va) / 6, (e - va) % 6, by omega, by omega, by omega⟩
    rw [show 2 * (va + 6 * j + k) = 2 * (va + 6 * j) + 2 * k by omega, show 2 * (va + 6 * j) + 2 * k + 1 = 2 * (va + 6 * j) + (2 * k + 1) by omega, zva_hi _ _ _ _ (by omega), zva_hi _ _ _ _ (by omega)]
    have f := zfst_ex (h3 j hj)
    have q0 : zcov b va L3 (2 * va + 3 * j) = zcov3 b L3 j 0 := zcov_hi b va L3 j 0 (by decide)
    have q1 := zcov_hi b va L3 j 1 (by decide)
    have q2 := zcov_hi b va L3 j 2 (by decide)
    have lit : ∀ i, i < 3 → zcov b va L3 (2 * va + 3 * j + i) = 1 ∨ zcov b va L3 (L3.getD (3 * j + i) 0) = 1 := by
      intro i hi
      rw [zcov_hi b va L3 j i hi]
      by_cases d : zfst b L3 j i
      · right
        rw [zcov_lo (hL _ (by omega))]
        exact d.1
      · left
        exact zcov3_1 d
    rcases (show k = 0 ∨ k = 1 ∨ k = 2 ∨ k = 3 ∨ k = 4 ∨ k = 5 by omega) with rfl | rfl | rfl | rfl | rfl | rfl
    · show zcov b va L3 (2 * va + 3 * j) = 1 ∨ zcov b va L3 (2 * va + 3 * j + 1) = 1
      rw [q0, q1]
      rcases f with ⟨a, d, e⟩ | ⟨a, d, e⟩ | ⟨a, d, e⟩
      · exact Or.inr (zcov3_1 d)
      · exact Or.inl (zcov3_1 a)
      · exact Or.inl (zcov3_1 a)
    · show zcov b va L3 (2 * va + 3 * j + 1) = 1 ∨ zcov b va L3 (2 * va + 3 * j + 2) = 1
      rw [q1, q2]
      rcases f with ⟨a, d, e⟩ | ⟨a, d, e⟩ | ⟨a, d, e⟩
      · exact Or.inr (zcov3_1 e)
      · exact Or.inr (zcov3_1 e)
      · exact Or.inl (zcov3_1 d)
    · show zcov b va L3 (2 * va + 3 * j) = 1 ∨ zcov b va L3 (2 * va + 3 * j + 2) = 1
      rw [q0, q2]
      rcases f with ⟨a, d, e⟩ | ⟨a, d, e⟩ | ⟨a, d, e⟩
      · exact Or.inr (zcov3_1 e)
      · exact Or.inl (zcov3_1 a)
      · exact Or.inl (zcov3_1 a)
    · exact lit 0 (by decide)
    · exact lit 1 (by decide)
    · exact lit 2 (by decide)
/-- the trip that FORWARD lays has all cities: 12 of each edge, and a selector for each vertex of the cover -/
theorem zlay_all {b : Nat → Nat} {va n3 : Nat} {L3 : List Nat} (hb : ∀ y, b y ≤ 1) (hL : ∀ i, i < 3 * n3 → L3.getD i 0 < 2 * va) (h3 : ∀ j, j < n3 → ∃ i, i < 3 ∧ ztv b (L3.getD (3 * j + i) 0) = 1) : (zlayT (zva va L3) (zcov b va L3) (va + 6 * n3) (2 * va + 3 * n3)).length = 12 * (va + 6 * n3) + (va + 2 * n3) := by
  rw [zlayT_len, zcov_cnt hb h3, zsides_sum (2 * (va + 6 * n3)) (fun d hd => zva_bd hL hd)]
  rw [zpair_sum (m := 12) (va + 6 * n3)]
  · omega
  · intro e he
    have x0 : zx1 (2 * e) = 2 * e + 1 := by unfold zx1; rw [if_pos (by omega)]
    have x1 : zx1 (2 * e + 1) = 2 * e := by unfold zx1; rw [if_neg (by omega)]; omega
    have h := zcov_is hb hL h3 he
    have a := zcov_01 b va L3 (zva va L3 (2 * e))
    have d := zcov_01 b va L3 (zva va L3 (2 * e + 1))
    have l0 : zcov b va L3 (zva va L3 (2 * e + 1)) = 0 → (zlay1 (zva va L3) (zcov b va L3) (2 * e)).length = 12 := fun q => zlay1_len0 (by rw [x0]; exact q)
    have l0' : ¬ zcov b va L3 (zva va L3 (2 * e + 1)) = 0 → (zlay1 (zva va L3) (zcov b va L3) (2 * e)).length = 6 := fun q => zlay1_len1 (by rw [x0]; exact q)
    have l1 : zcov b va L3 (zva va L3 (2 * e)) = 0 → (zlay1 (zva va L3) (zcov b va L3) (2 * e + 1)).length = 12 := fun q => zlay1_len0 (by rw [x1]; exact q)
    have l1' : ¬ zcov b va L3 (zva va L3 (2 * e)) = 0 → (zlay1 (zva va L3) (zcov b va L3) (2 * e + 1)).length = 6 := fun q => zlay1_len1 (by rw [x1]; exact q)
    rcases a with a | a
    · rcases d with d | d
      · omega
      · rw [if_neg (by omega), if_pos d, l1 a]
    · rcases d with d | d
      · rw [if_pos a, if_neg (by omega), l0 d]
      · rw [if_pos a, if_pos d, l0' (by omega), l1' (by omega)]
