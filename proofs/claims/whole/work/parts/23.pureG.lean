/-! PURE ROWS of the graph: filling, room, the ends of edges, counting -/
def zfill (f : Nat → Int32) (i j : Nat) (v : Int32) : Nat → Int32 := fun k => if i ≤ k ∧ k < j then v else f k
theorem zfill_0 (f : Nat → Int32) (i : Nat) (v : Int32) : zfill f i i v = f := by
  funext k
  unfold zfill
  rw [if_neg (by omega)]
theorem zfill_up {f : Nat → Int32} {i k : Nat} {v : Int32} (h : i ≤ k) : upd (zfill f i k v) k v = zfill f i (k + 1) v := by
  funext x
  by_cases e : x = k
  · subst e
    rw [pk_us]
    unfold zfill
    rw [if_pos (by omega)]
  · rw [pk_un e]
    unfold zfill
    by_cases h2 : i ≤ x ∧ x < k
    · rw [if_pos h2, if_pos (by omega)]
    · rw [if_neg h2, if_neg (by omega)]
theorem zfill_in {f : Nat → Int32} {i j k : Nat} {v : Int32} (h1 : i ≤ k) (h2 : k < j) : zfill f i j v k = v := if_pos ⟨h1, h2⟩
/-- the room of a row that must hold n -/
def zrm (n c : Nat) : Nat := if n ≤ c then c else Nat.max n (2 * c)
theorem zrm_id {n c : Nat} (h : n ≤ c) : zrm n c = c := if_pos h
theorem zrm_gr {n c : Nat} (h : ¬ n ≤ c) : zrm n c = Nat.max n (2 * c) := if_neg h
theorem zrm_le (n c : Nat) : n ≤ zrm n c := by
  by_cases h : n ≤ c
  · rw [zrm_id h]; exact h
  · rw [zrm_gr h]; exact Nat.le_max_left _ _
theorem zrm_ge (n c : Nat) : c ≤ zrm n c := by
  by_cases h : n ≤ c
  · rw [zrm_id h]; exact Nat.le_refl _
  · rw [zrm_gr h]
    have := Nat.le_max_right n (2 * c)
    exact Nat.le_trans (by omega) this
theorem zrm_ub {n c b : Nat} (hc : c ≤ b) (hn : 2 * n ≤ b) : zrm n c ≤ b := by
  by_cases h : n ≤ c
  · rw [zrm_id h]; exact hc
  · rw [zrm_gr h]
    exact Nat.max_le.mpr ⟨by omega, by omega⟩
/-- the vertex at a side: 2 e + s is end s of edge e; v variables, L3 the threes' literals -/
def zva (v : Nat) (L3 : List Nat) (d : Nat) : Nat :=
  if d < 2 * v then d
  else
    let j := (d - 2 * v) / 12
    let k := (d - 2 * v) % 12
    let b := 2 * v + 3 * j
    if k = 0 then b else if k = 1 then b + 1 else if k = 2 then b + 1 else if k = 3 then b + 2 else if k = 4 then b else if k = 5 then b + 2
    else if k % 2 = 0 then b + (k / 2 - 3) else L3.getD (3 * j + (k / 2 - 3)) 0
theorem zva_lo {v : Nat} {L3 : List Nat} {d : Nat} (h : d < 2 * v) : zva v L3 d = d := if_pos h
theorem zva_hi (v : Nat) (L3 : List Nat) (j k : Nat) (hk : k < 12) : zva v L3 (2 * (v + 6 * j) + k) = (if k = 0 then 2 * v + 3 * j else if k = 1 then 2 * v + 3 * j + 1 else if k = 2 then 2 * v + 3 * j + 1 else if k = 3 then 2 * v + 3 * j + 2 else if k = 4 then 2 * v + 3 * j else if k = 5 then 2 * v + 3 * j + 2
    else if k % 2 = 0 then 2 * v + 3 * j + (k / 2 - 3) else L3.getD (3 * j + (k / 2 - 3)) 0) := by
  have e1 : (2 * (v + 6 * j) + k - 2 * v) / 12 = j := by omega
  have e2 : (2 * (v + 6 * j) + k - 2 * v) % 12 = k := by omega
  unfold zva
  rw [if_neg (by omega)]
  simp only [e1, e2]
/-- how many of the first n places have P -/
def zc (P : Nat → Bool) : Nat → Nat
  | 0 => 0
  | n + 1 => zc P n + (if P n then 1 else 0)
theorem zc_le (P : Nat → Bool) : ∀ n, zc P n ≤ n
  | 0 => Nat.le_refl _
  | n + 1 => by
    have h := zc_le P n
    unfold zc
    split <;> omega
theorem zc_mono (P : Nat → Bool) {a b : Nat} (h : a ≤ b) : zc P a ≤ zc P b := by
  obtain ⟨k, rfl⟩ := Nat.exists_eq_add_of_le h
  induction k with
  | zero => exact Nat.le_refl _
  | succ k ih =>
    have := ih (by omega)
    show zc P a ≤ zc P (a + k) + _
    omega
theorem zc_or {P Q S : Nat → Bool} : ∀ n, (∀ d, d < n → S d = (P d || Q d)) → (∀ d, d < n → ¬ (P d = true ∧ Q d = true)) → zc S n = zc P n + zc Q n
  | 0, _, _ => rfl
  | n + 1, h, h2 => by
    have e := zc_or n (fun d hd => h d (by omega)) (fun d hd => h2 d (by omega))
    have a := h n (by omega)
    have b := h2 n (by omega)
    unfold zc
    rw [e, a]
    cases hp : P n <;> cases hq : Q n <;> simp_all <;> omega
theorem zc_congr {P Q : Nat → Bool} : ∀ n, (∀ d, d < n → P d = Q d) → zc P n = zc Q n
  | 0, _ => rfl
  | n + 1, h => by
    unfold zc
    rw [zc_congr n (fun d hd => h d (by omega)), h n (by omega)]
