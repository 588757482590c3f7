/-! PURE ROWS: the picked vertices; each city once, by bits -/
/-- the vertices whose side stands behind a selector, of the first k places -/
def zpk1 (w : Nat → Nat) (ed : Nat) (tr : Nat → Nat) (n i : Nat) : List Nat := if 12 * ed ≤ tr i ∧ tr ((i + 1) % n) < 12 * ed then [w (tr ((i + 1) % n) / 6)] else []
def zpk (w : Nat → Nat) (ed : Nat) (tr : Nat → Nat) (n k : Nat) : List Nat := (List.range k).flatMap (zpk1 w ed tr n)
theorem zpk_S (w : Nat → Nat) (ed : Nat) (tr : Nat → Nat) (n k : Nat) : zpk w ed tr n (k + 1) = zpk w ed tr n k ++ zpk1 w ed tr n k := zrng_succ _ k
theorem zpk_no {w : Nat → Nat} {ed : Nat} {tr : Nat → Nat} {n k ve : Nat} {f : Nat → Int32} (h : ∀ x, x < ve → f x = nI (zmk (zpk w ed tr n k) x)) (hc : tr k < 12 * ed) : ∀ x, x < ve → f x = nI (zmk (zpk w ed tr n (k + 1)) x) := by
  have e : zpk1 w ed tr n k = [] := by unfold zpk1; rw [if_neg (by omega)]
  rw [zpk_S, e, List.append_nil]
  exact h
theorem zpk_step {w : Nat → Nat} {ed : Nat} {tr : Nat → Nat} {n k ve : Nat} {f f' : Nat → Int32} (h : ∀ x, x < ve → f x = nI (zmk (zpk w ed tr n k) x)) (hc : ¬ tr k < 12 * ed) (hp : (tr ((k + 1) % n) < 12 * ed → f' = upd f (w (tr ((k + 1) % n) / 6)) (nI 1)) ∧ (¬ tr ((k + 1) % n) < 12 * ed → f' = f)) (_ : ∀ y, y < 12 * ed → w (y / 6) < ve) : ∀ x, x < ve → f' x = nI (zmk (zpk w ed tr n (k + 1)) x) := by
  rw [zpk_S]
  by_cases e : tr ((k + 1) % n) < 12 * ed
  · have e1 : zpk1 w ed tr n k = [w (tr ((k + 1) % n) / 6)] := by unfold zpk1; rw [if_pos ⟨by omega, e⟩]
    rw [e1, hp.1 e]
    exact zmk_add h
  · have e1 : zpk1 w ed tr n k = [] := by unfold zpk1; rw [if_neg (by omega)]
    rw [e1, hp.2 e, List.append_nil]
    exact h
def zbt (x : Int32) (l : Nat) : Bool := x.toBitVec.getLsbD l
theorem zsh : ∀ l, l < 32 → ((nI 1 : Int32) <<< (nI l &&& 31)).toBitVec = BitVec.twoPow 32 l := by decide +kernel
theorem zand0 (x : Int32) {l : Nat} (h : l < 32) : x &&& (nI 1 <<< (nI l &&& 31)) = 0 ↔ zbt x l = false := by
  unfold zbt
  rw [← Int32.toBitVec_inj, Int32.toBitVec_and, zsh l h]
  rw [show (0 : Int32).toBitVec = 0#32 from rfl]
  constructor
  · intro q
    have e := congrArg (fun b => b.getLsbD l) q
    simpa [BitVec.getLsbD_twoPow, h] using e
  · intro q
    apply BitVec.eq_of_getLsbD_eq
    intro i hi
    rw [BitVec.getLsbD_and, BitVec.getLsbD_twoPow]
    by_cases e : l = i
    · subst e; simp [q]
    · simp [e]
theorem zor (x : Int32) {l i : Nat} (h : l < 32) (hi : i < 32) : zbt (x ||| (nI 1 <<< (nI l &&& 31))) i = (zbt x i || decide (l = i)) := by
  unfold zbt
  rw [Int32.toBitVec_or, zsh l h, BitVec.getLsbD_or, BitVec.getLsbD_twoPow]
  by_cases e : l = i
  · subst e; simp [h]
  · simp [e]
theorem zbt0 (l : Nat) : zbt (nI 0) l = false := by
  unfold zbt
  simp [nI]
/-- no city twice among the first k places -/
def zonce (rr : Nat → Nat) (k : Nat) : Prop := ∀ i j, i < j → j < k → rr i ≠ rr j
/-- the bits say which cities have been seen in the first k places -/
def zseen (f : Nat → Int32) (rr : Nat → Nat) (n k : Nat) : Prop := ∀ x, x < n → (zbt (f (x / 32)) (x % 32) = true ↔ ∃ j, j < k ∧ rr j = x)
theorem zseen_0 {f : Nat → Int32} {rr : Nat → Nat} {n m : Nat} (h : n / 32 + 1 ≤ m) : zseen (zfill f 0 m (nI 0)) rr n 0 := by
  intro x hx
  rw [zfill_in (Nat.zero_le _) (by omega), zbt0]
  constructor
  · intro q
    exact absurd q (by decide)
  · rintro ⟨j, hj, -⟩
    exact absurd hj (Nat.not_lt_zero _)
theorem zseen_S {f : Nat → Int32} {rr : Nat → Nat} {n k : Nat} (h : zseen f rr n k) (_ : rr k < n) : zseen (upd f (rr k / 32) (f (rr k / 32) ||| (nI 1 <<< (nI (rr k % 32) &&& 31)))) rr n (k + 1) := by
  intro x hx
  have hm : ∀ y : Nat, y % 32 < 32 := fun y => Nat.mod_lt _ (by decide)
  have hs : (∃ j, j < k + 1 ∧ rr j = x) ↔ (∃ j, j < k ∧ rr j = x) ∨ rr k = x := by
    constructor
    · rintro ⟨j, hj, e⟩
      by_cases q : j = k
      · subst q; exact Or.inr e
      · exact Or.inl ⟨j, by omega, e⟩
    · rintro (⟨j, hj, e⟩ | e)
      · exact ⟨j, by omega, e⟩
      · exact ⟨k, by omega, e⟩
  rw [hs, ← h x hx]
  by_cases e : x / 32 = rr k / 32
  · rw [e, pk_us, zor _ (hm _) (hm _), Bool.or_eq_true, decide_eq_true_eq]
    constructor
    · rintro (q | q)
      · exact Or.inl q
      · exact Or.inr (by omega)
    · rintro (q | q)
      · exact Or.inl q
      · exact Or.inr (by rw [q])
  · rw [pk_un e]
    constructor
    · exact Or.inl
    · rintro (q | q)
      · exact q
      · exact absurd (by rw [q]) e
theorem zonce_S {f : Nat → Int32} {rr : Nat → Nat} {n k : Nat} (h : zonce rr k) (hs : zseen f rr n k) (hk : rr k < n) (hz : f (rr k / 32) &&& (nI 1 <<< (nI (rr k % 32) &&& 31)) = 0) : zonce rr (k + 1) := by
  intro i j hij hj
  by_cases e : j = k
  · subst e
    intro q
    have b := (zand0 _ (Nat.mod_lt _ (by decide))).mp hz
    have c := (hs (rr j) hk).mpr ⟨i, hij, q⟩
    rw [b] at c
    cases c
  · exact h i j hij (by omega)
theorem zonce_no {f : Nat → Int32} {rr : Nat → Nat} {n k m : Nat} (hs : zseen f rr n k) (hk : rr k < n) (hz : ¬ f (rr k / 32) &&& (nI 1 <<< (nI (rr k % 32) &&& 31)) = 0) (hm : k < m) : ¬ zonce rr m := by
  intro q
  have b : zbt (f (rr k / 32)) (rr k % 32) = true := by
    cases e : zbt (f (rr k / 32)) (rr k % 32) with
    | true => rfl
    | false => exact absurd ((zand0 _ (Nat.mod_lt _ (by decide))).mpr e) hz
  obtain ⟨j, hj, e⟩ := (hs (rr k) hk).mp b
  exact q j k hj hm e
