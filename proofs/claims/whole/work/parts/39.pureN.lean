/-! PURE ROWS of FORWARD: the cover; the new variables -/
theorem zup_add {f : Nat → Int32} {G : Nat → Nat} {k v : Nat} (h : ∀ x, x < k → f x = nI (G x)) (hv : v = G k) : ∀ x, x < k + 1 → upd f k (nI v) x = nI (G x) := by
  intro x hx
  by_cases e : x = k
  · subst e; rw [pk_us, hv]
  · rw [pk_un e]; exact h x (by omega)
theorem ztv_1 {b : Nat → Nat} {x : Nat} (h : ¬ b (x / 2) = x % 2) : ztv b x = 1 := if_neg h
theorem ztv_0 {b : Nat → Nat} {x : Nat} (h : b (x / 2) = x % 2) : ztv b x = 0 := if_pos h
theorem ztv_01 (b : Nat → Nat) (x : Nat) : ztv b x = 0 ∨ ztv b x = 1 := by
  have := ztv_le b x
  omega
/-- literal i of three j is its first true one -/
def zfst (b : Nat → Nat) (L3 : List Nat) (j i : Nat) : Prop := ztv b (L3.getD (3 * j + i) 0) = 1 ∧ ∀ x, x < i → ztv b (L3.getD (3 * j + x) 0) = 0
noncomputable def zcov3 (b : Nat → Nat) (L3 : List Nat) (j i : Nat) : Nat := @ite Nat (zfst b L3 j i) (Classical.propDecidable _) 0 1
/-- whether a vertex is in the cover (1 or 0) -/
noncomputable def zcov (b : Nat → Nat) (va : Nat) (L3 : List Nat) (k : Nat) : Nat := if k < 2 * va then ztv b k else zcov3 b L3 ((k - 2 * va) / 3) ((k - 2 * va) % 3)
theorem zcov_lo {b : Nat → Nat} {va : Nat} {L3 : List Nat} {k : Nat} (h : k < 2 * va) : zcov b va L3 k = ztv b k := if_pos h
theorem zcov_hi (b : Nat → Nat) (va : Nat) (L3 : List Nat) (j i : Nat) (h : i < 3) : zcov b va L3 (2 * va + 3 * j + i) = zcov3 b L3 j i := by
  unfold zcov
  rw [if_neg (by omega), show (2 * va + 3 * j + i - 2 * va) / 3 = j by omega, show (2 * va + 3 * j + i - 2 * va) % 3 = i by omega]
theorem zcov3_0 {b : Nat → Nat} {L3 : List Nat} {j i : Nat} (h : zfst b L3 j i) : zcov3 b L3 j i = 0 := if_pos h
theorem zcov3_1 {b : Nat → Nat} {L3 : List Nat} {j i : Nat} (h : ¬ zfst b L3 j i) : zcov3 b L3 j i = 1 := if_neg h
/-- none of the first i literals of three j is true -/
def znon (b : Nat → Nat) (L3 : List Nat) (j i : Nat) : Prop := ∀ x, x < i → ztv b (L3.getD (3 * j + x) 0) = 0
theorem znon_S {b : Nat → Nat} {L3 : List Nat} {j i : Nat} : znon b L3 j (i + 1) ↔ znon b L3 j i ∧ ztv b (L3.getD (3 * j + i) 0) = 0 := by
  refine ⟨fun h => ⟨fun x hx => h x (by omega), h i (by omega)⟩, fun h x hx => ?_⟩
  by_cases e : x = i
  · subst e; exact h.2
  · exact h.1 x (by omega)
/-- none of the literals 0 .. i of a clause is true -/
def znoc (b : Nat → Nat) (cl : List Nat) (i : Nat) : Prop := ∀ x, x ≤ i → ztv b (cl.getD x 0) = 0
theorem znoc_S {b : Nat → Nat} {cl : List Nat} {i : Nat} : znoc b cl (i + 1) ↔ znoc b cl i ∧ ztv b (cl.getD (i + 1) 0) = 0 := by
  refine ⟨fun h => ⟨fun x hx => h x (by omega), h (i + 1) (by omega)⟩, fun h x hx => ?_⟩
  by_cases e : x = i + 1
  · subst e; exact h.2
  · exact h.1 x (by omega)
theorem znoc_0 {b : Nat → Nat} {cl : List Nat} : znoc b cl 0 ↔ ztv b (cl.getD 0 0) = 0 := by
  refine ⟨fun h => h 0 (Nat.le_refl _), fun h x hx => ?_⟩
  have e : x = 0 := by omega
  subst e; exact h
/-- the new variables' values: of a clause; of all -/
noncomputable def znv1 (b : Nat → Nat) (cl : List Nat) (i : Nat) : List Nat := [@ite Nat (znoc b cl (i + 1)) (Classical.propDecidable _) 1 0]
noncomputable def znvC (b : Nat → Nat) (cl : List Nat) : List Nat := (List.range (cl.length - 3)).flatMap (znv1 b cl)
noncomputable def znv (b : Nat → Nat) (Cs : List (List Nat)) (j : Nat) : List Nat := (List.range j).flatMap (fun x => znvC b (Cs.getD x []))
theorem znv1_1 {b : Nat → Nat} {cl : List Nat} {i : Nat} (h : znoc b cl (i + 1)) : znv1 b cl i = [1] := by unfold znv1; rw [if_pos h]
theorem znv1_0 {b : Nat → Nat} {cl : List Nat} {i : Nat} (h : ¬ znoc b cl (i + 1)) : znv1 b cl i = [0] := by unfold znv1; rw [if_neg h]
/-- from place pv on the row f holds the list L; what lies before is b -/
def zS (f : Nat → Int32) (pv n : Nat) (b : Nat → Nat) (L : List Nat) : Prop := L.length = n ∧ (∀ x, x < pv → f x = nI (b x)) ∧ ∀ i, i < n → f (pv + i) = nI (L.getD i 0)
theorem zS_add {f : Nat → Int32} {pv n x : Nat} {b : Nat → Nat} {L : List Nat} (h : zS f pv n b L) : zS (upd f (pv + n) (nI x)) pv (n + 1) b (L ++ [x]) := by
  obtain ⟨h1, h2, h3⟩ := h
  refine ⟨by rw [List.length_append, h1]; rfl, fun y hy => by rw [pk_un (by omega)]; exact h2 y hy, fun i hi => ?_⟩
  by_cases e : i = n
  · subst e
    rw [pk_us]
    congr 1
    simp [List.getD, ← h1]
  · rw [pk_un (by omega), h3 i (by omega)]
    congr 1
    simp [List.getD, List.getElem?_append_left (show i < L.length by omega)]
theorem zsub3 {n k : Nat} (hn : n < 2 ^ 30) (hk : k < 2 ^ 30) : nI n - nI 3 < nI k ↔ n < k + 3 := by
  have e := pk_sub_toInt (a := n) (b := 3) hn (by decide)
  have e2 := nI_toInt (n := k) (by omega)
  rw [Int32.lt_iff_toInt_lt, e, e2]
  omega
theorem znv_len (b : Nat → Nat) (Cs : List (List Nat)) : ∀ j, (znv b Cs (j + 1)).length = (znv b Cs j).length + (zlen Cs j - 3) := by
  intro j
  have e : ∀ m (cl : List Nat), ((List.range m).flatMap (znv1 b cl)).length = m := by
    intro m cl
    induction m with
    | zero => rfl
    | succ m ih => rw [zrng_succ, List.length_append, ih]; rfl
  unfold znv
  rw [zrng_succ, List.length_append]
  unfold znvC
  rw [e]
  rfl
theorem znv_mono (b : Nat → Nat) (Cs : List (List Nat)) {i j : Nat} (h : i ≤ j) : (znv b Cs i).length ≤ (znv b Cs j).length := (zpre_rng _ h).length_le
