/-! PURE ROWS: how a growing row grows; a row that holds a list -/
/-- the room of a row that had room c (not 0) and must hold n: doubled until it is enough -/
def zcap (n c : Nat) : Nat := if h : n ≤ c ∨ c = 0 then c else zcap n (2 * c)
termination_by n - c
decreasing_by omega
theorem zcap_id {n c : Nat} (h : n ≤ c) : zcap n c = c := by rw [zcap]; simp [h]
theorem zcap_st {n c : Nat} (h : ¬ n ≤ c) (h0 : ¬ c = 0) : zcap n c = zcap n (2 * c) := by
  rw [zcap]
  rw [dif_neg (by omega)]
theorem zcap_all (n : Nat) : ∀ (k c : Nat), n - c ≤ k → 1 ≤ c → c ≤ zcap n c ∧ n ≤ zcap n c ∧ (n ≤ c ∨ zcap n c ≤ 2 * n) := by
  intro k
  induction k with
  | zero =>
    intro c h h1
    have hn : n ≤ c := by omega
    rw [zcap_id hn]
    exact ⟨Nat.le_refl _, hn, Or.inl hn⟩
  | succ k ih =>
    intro c h h1
    by_cases hn : n ≤ c
    · rw [zcap_id hn]
      exact ⟨Nat.le_refl _, hn, Or.inl hn⟩
    · rw [zcap_st hn (by omega)]
      obtain ⟨a1, a2, a3⟩ := ih (2 * c) (by omega) (by omega)
      refine ⟨by omega, a2, Or.inr ?_⟩
      rcases a3 with q | q
      · rw [zcap_id q]; omega
      · exact q
theorem zcap_ge {n c : Nat} (h : 1 ≤ c) : c ≤ zcap n c := (zcap_all n _ c (Nat.le_refl _) h).1
theorem zcap_le {n c : Nat} (h : 1 ≤ c) : n ≤ zcap n c := (zcap_all n _ c (Nat.le_refl _) h).2.1
theorem zcap_ub {n c b : Nat} (h : 1 ≤ c) (hc : c ≤ b) (hn : 2 * n ≤ b) : zcap n c ≤ b := by
  obtain ⟨-, -, a3⟩ := zcap_all n _ c (Nat.le_refl _) h
  rcases a3 with q | q
  · rw [zcap_id q]; exact hc
  · omega
theorem zcap_comp {n1 n2 : Nat} (h : n1 ≤ n2) : ∀ (k c : Nat), n1 - c ≤ k → 1 ≤ c → zcap n2 (zcap n1 c) = zcap n2 c := by
  intro k
  induction k with
  | zero =>
    intro c hk h1
    rw [zcap_id (show n1 ≤ c by omega)]
  | succ k ih =>
    intro c hk h1
    by_cases hn : n1 ≤ c
    · rw [zcap_id hn]
    · rw [zcap_st hn (by omega), ih (2 * c) (by omega) (by omega), ← zcap_st (show ¬ n2 ≤ c by omega) (by omega)]
theorem zcap_zcap {n1 n2 c : Nat} (h1 : 1 ≤ c) (h : n1 ≤ n2) : zcap n2 (zcap n1 c) = zcap n2 c := zcap_comp h _ c (Nat.le_refl _) h1
/-- the row f holds the list L at its first n places -/
def zR (f : Nat → Int32) (n : Nat) (L : List Nat) : Prop := L.length = n ∧ ∀ i, i < n → f i = nI (L.getD i 0)
theorem zR_nil {f : Nat → Int32} : zR f 0 [] := ⟨rfl, fun _ h => absurd h (Nat.not_lt_zero _)⟩
theorem zR_add {f f' : Nat → Int32} {n x : Nat} {L : List Nat} (h : zR f n L) (hk : ∀ i, i < n → f' i = f i) (hx : f' n = nI x) : zR f' (n + 1) (L ++ [x]) := by
  refine ⟨by rw [List.length_append, h.1]; rfl, fun i hi => ?_⟩
  by_cases e : i < n
  · rw [hk i e, h.2 i e]
    congr 1
    simp [List.getD, List.getElem?_append_left (show i < L.length by rw [h.1]; exact e)]
  · have e2 : i = n := by omega
    subst e2
    rw [hx]
    congr 1
    simp [List.getD, List.getElem?_append_right (show L.length ≤ i by rw [h.1]; exact Nat.le_refl _), h.1]
theorem zR_at {f : Nat → Int32} {n i : Nat} {L : List Nat} (h : zR f n L) (hi : i < n) : f i = nI (L.getD i 0) := h.2 i hi
/-- a row of n in room c, within bounds -/
def zW (n c : Nat) : Prop := 1 ≤ c ∧ n ≤ c ∧ c ≤ 16384
/-- (n, c) can come of (n0, c0) by adding -/
def zX (n0 c0 n c : Nat) : Prop := n0 ≤ n ∧ c0 ≤ c ∧ zW n c ∧ ∀ N, n ≤ N → zcap N c = zcap N c0
theorem zX_rf {n c : Nat} (h : zW n c) : zX n c n c := ⟨Nat.le_refl _, Nat.le_refl _, h, fun _ _ => rfl⟩
theorem zX_tr {n0 c0 n c n2 c2 : Nat} (h1 : zX n0 c0 n c) (h2 : zX n c n2 c2) : zX n0 c0 n2 c2 :=
  ⟨Nat.le_trans h1.1 h2.1, Nat.le_trans h1.2.1 h2.2.1, h2.2.2.1, fun N hN => (h2.2.2.2 N hN).trans (h1.2.2.2 N (Nat.le_trans h2.1 hN))⟩
theorem zX_add {n c : Nat} (h : zW n c) (hb : n + 1 ≤ 8192) : zX n c (n + 1) (zcap (n + 1) c) :=
  ⟨Nat.le_succ n, zcap_ge h.1, ⟨Nat.le_trans h.1 (zcap_ge h.1), zcap_le h.1, zcap_ub h.1 h.2.2 (by omega)⟩, fun _ hN => zcap_zcap h.1 hN⟩
theorem zX_cap {n0 c0 n c : Nat} (h : zX n0 c0 n c) (_ : 1 ≤ c0) : c = zcap n c0 := by
  have q := h.2.2.2 n (Nat.le_refl _)
  rw [zcap_id h.2.2.1.2.1] at q
  exact q
theorem zcap_mono {n N c : Nat} (h : 1 ≤ c) (hn : n ≤ N) : zcap n c ≤ zcap N c := by
  rw [← zcap_zcap h hn]
  exact zcap_ge (Nat.le_trans h (zcap_ge h))
theorem zX_rm {n0 c0 n c n' N : Nat} (h : zX n0 c0 n c) (h1 : n ≤ n') (h2 : n' ≤ N) : c - c0 + (zcap n' c - c) ≤ zcap N c0 - c0 := by
  have a := h.2.2.2 N (Nat.le_trans h1 h2)
  have b : zcap n' c ≤ zcap N c := zcap_mono h.2.2.1.1 h2
  have d : c ≤ zcap n' c := zcap_ge h.2.2.1.1
  have f := h.2.1
  omega
/-- where each clause begins, and where the last one ends -/
def zsts : Nat → List (List Nat) → List Nat
  | k, [] => [k]
  | k, c :: cs => k :: zsts (k + c.length) cs
def zst (Cs : List (List Nat)) : List Nat := zsts 0 Cs
theorem zsts_app (c : List Nat) : ∀ (Cs : List (List Nat)) (k : Nat), zsts k (Cs ++ [c]) = zsts k Cs ++ [k + Cs.flatten.length + c.length]
  | [], k => by simp [zsts]
  | d :: Cs, k => by
    simp only [List.cons_append, zsts, zsts_app c Cs (k + d.length), List.flatten_cons, List.length_append]
    simp only [Nat.add_assoc]
theorem zst_app (Cs : List (List Nat)) (c : List Nat) : zst (Cs ++ [c]) = zst Cs ++ [(Cs.flatten ++ c).length] := by
  unfold zst
  rw [zsts_app, List.length_append]
  simp
theorem zsts_len : ∀ (Cs : List (List Nat)) (k : Nat), (zsts k Cs).length = Cs.length + 1
  | [], _ => rfl
  | c :: Cs, k => by simp [zsts, zsts_len Cs]
/-- the rows fl, ft hold the clauses Cs: their literals, and where they begin -/
def zF (fl : Nat → Int32) (nl : Nat) (ft : Nat → Int32) (ns : Nat) (Cs : List (List Nat)) : Prop := zR fl nl Cs.flatten ∧ zR ft ns (zst Cs)
theorem zF_add {fl' ft' : Nat → Int32} {ns n' : Nat} {Cs : List (List Nat)} {c : List Nat} (h1 : zR fl' n' (Cs.flatten ++ c)) (h2 : zR ft' (ns + 1) (zst Cs ++ [n'])) : zF fl' n' ft' (ns + 1) (Cs ++ [c]) := by
  refine ⟨by rw [List.flatten_append]; simpa using h1, ?_⟩
  rw [zst_app, h1.1]
  exact h2
theorem zF_len {fl ft : Nat → Int32} {nl ns : Nat} {Cs : List (List Nat)} (h : zF fl nl ft ns Cs) : nl = Cs.flatten.length ∧ ns = Cs.length + 1 := ⟨h.1.1.symm, by rw [← h.2.1]; exact (zsts_len Cs 0)⟩
/-- what a part of what is to come still takes fits -/
theorem zF_fit {fl ft fl1 ft1 : Nat → Int32} {nl ns nl1 ns1 : Nat} {Cs P Q E : List (List Nat)} (h : zF fl nl ft ns Cs) (h1 : zF fl1 nl1 ft1 ns1 (Cs ++ P)) (hp : P ++ Q <+: E) : nl1 + Q.flatten.length ≤ nl + E.flatten.length ∧ ns1 + Q.length ≤ ns + E.length := by
  obtain ⟨a1, a2⟩ := zF_len h
  obtain ⟨b1, b2⟩ := zF_len h1
  obtain ⟨r, hr⟩ := hp
  subst hr
  simp only [List.flatten_append, List.length_append] at *
  omega
theorem zpre_rng {α : Type} (g : Nat → List α) {i n : Nat} (h : i ≤ n) : (List.range i).flatMap g <+: (List.range n).flatMap g := by
  obtain ⟨k, rfl⟩ := Nat.exists_eq_add_of_le h
  rw [List.range_add, List.flatMap_append]
  exact List.prefix_append _ _
theorem zrng_succ {α : Type} (g : Nat → List α) (i : Nat) : (List.range (i + 1)).flatMap g = (List.range i).flatMap g ++ g i := by
  rw [List.range_succ, List.flatMap_append]
  simp
theorem zpre_step {α : Type} (g : Nat → List α) {i n : Nat} {Q : List α} (h : i < n) (hq : Q <+: g i) : (List.range i).flatMap g ++ Q <+: (List.range n).flatMap g := by
  refine List.IsPrefix.trans ?_ (zpre_rng g (show i + 1 ≤ n from h))
  rw [zrng_succ]
  exact (List.prefix_append_right_inj _).mpr hq
theorem zpre_left {α : Type} {A B C : List α} (h : B <+: C) : A ++ B <+: A ++ C := (List.prefix_append_right_inj _).mpr h
/-- the variables' numbers -/
def zcv (t g i p a : Nat) : Nat := (i * (t + 1) + p) * g + a
def zhv (fh t i p : Nat) : Nat := fh + i * (t + 1) + p
def zsv (fs q i u : Nat) : Nat := fs + i * q + u
def zkv (fk r i k : Nat) : Nat := fk + i * (r + 1) + k
theorem zpre_map {α : Type} (f : Nat → α) {j m : Nat} (h : j ≤ m) : (List.range j).map f <+: (List.range m).map f := by
  obtain ⟨k, rfl⟩ := Nat.exists_eq_add_of_le h
  rw [List.range_add, List.map_append]
  exact List.prefix_append _ _
/-- one of n, and no two of them -/
def zpair (first i j : Nat) : List Nat := [2 * (first + i) + 1, 2 * (first + i + 1 + j) + 1]
def zpairs (first n i : Nat) : List (List Nat) := (List.range (n - 1 - i)).map (zpair first i)
def zsome (first n : Nat) : List Nat := (List.range n).map (fun k => 2 * (first + k))
def zjust (first n : Nat) : List (List Nat) := [zsome first n] ++ (List.range n).flatMap (zpairs first n)
theorem zjust_pre {first n i j : Nat} (hi : i < n) (hj : i + 1 + j < n) : ([zsome first n] ++ ((List.range i).flatMap (zpairs first n) ++ (List.range j).map (zpair first i))) ++ [zpair first i j] <+: zjust first n := by
  unfold zjust
  rw [List.append_assoc, List.append_assoc]
  refine zpre_left (zpre_step _ hi ?_)
  have e : (List.range j).map (zpair first i) ++ [zpair first i j] = (List.range (j + 1)).map (zpair first i) := by rw [List.range_succ, List.map_append]; rfl
  rw [e]
  exact zpre_map _ (by omega)
