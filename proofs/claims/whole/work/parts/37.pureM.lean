/-! PURE ROWS of FORWARD: marked variables -/
def zmk (M : List Nat) (x : Nat) : Nat := if x ∈ M then 1 else 0
theorem zmk_le (M : List Nat) (x : Nat) : zmk M x ≤ 1 := by
  unfold zmk
  split <;> omega
theorem zmk_add {f : Nat → Int32} {M : List Nat} {n k : Nat} (h : ∀ x, x < n → f x = nI (zmk M x)) : ∀ x, x < n → upd f k (nI 1) x = nI (zmk (M ++ [k]) x) := by
  intro x hx
  by_cases e : x = k
  · subst e
    rw [pk_us]
    unfold zmk
    rw [if_pos (by simp)]
  · rw [pk_un e, h x hx]
    unfold zmk
    by_cases m : x ∈ M
    · rw [if_pos m, if_pos (by simp [m])]
    · rw [if_neg m, if_neg (by simp [m, e])]
theorem zcv_lt {t g i y a : Nat} (hi : i ≤ t) (hy : y ≤ t) (ha : a < g) : zcv t g i y a < zfh t g := by
  have h1 : i * (t + 1) + y + 1 ≤ (t + 1) * (t + 1) := by
    have : i * (t + 1) ≤ t * (t + 1) := Nat.mul_le_mul_right _ hi
    rw [Nat.add_mul]
    omega
  have h2 : (i * (t + 1) + y + 1) * g ≤ (t + 1) * (t + 1) * g := Nat.mul_le_mul_right _ h1
  rw [Nat.add_mul (i * (t + 1) + y) 1 g] at h2
  unfold zcv zfh
  omega
theorem zhv_lt {t g i y : Nat} (hi : i ≤ t) (hy : y ≤ t) : zhv (zfh t g) t i y < zfs t g := by
  have : i * (t + 1) ≤ t * (t + 1) := Nat.mul_le_mul_right _ hi
  unfold zhv zfs
  rw [Nat.add_mul t 1 (t + 1)]
  omega
theorem zsv_lt {t g q i u : Nat} (hi : i ≤ t) (hu : u < q) : zsv (zfs t g) q i u < zfk t g q := by
  have : i * q ≤ t * q := Nat.mul_le_mul_right _ hi
  unfold zsv zfk
  rw [Nat.add_mul t 1 q]
  omega
theorem zkv_lt {t g q r i k : Nat} (hi : i < t) (hk : k ≤ r) : zkv (zfk t g q) r i k < zpv t g q r := by
  have : (i + 1) * (r + 1) ≤ t * (r + 1) := Nat.mul_le_mul_right _ hi
  rw [Nat.add_mul i 1 (r + 1)] at this
  unfold zkv zpv
  omega
theorem zfs_le (t g : Nat) : zfh t g ≤ zfs t g := Nat.le_add_right _ _
theorem zfk_le (t g q : Nat) : zfs t g ≤ zfk t g q := Nat.le_add_right _ _
theorem zpv_le (t g q r : Nat) : zfk t g q ≤ zpv t g q r := Nat.le_add_right _ _
/-- the variables that a run makes true, in the order of their marking: row i; the choices -/
def zmkC (t g : Nat) (cf : Nat → Nat × Nat × (Nat → Nat)) (i y : Nat) : List Nat := [zcv t g i y ((cf i).2.2 y)]
def zmkR (t g q : Nat) (cf : Nat → Nat × Nat × (Nat → Nat)) (i : Nat) : List Nat := (List.range (t + 1)).flatMap (zmkC t g cf i) ++ [zhv (zfh t g) t i (cf i).1, zsv (zfs t g) q i (cf i).2.1]
def zmkK (t g q r : Nat) (ch : Nat → Nat) (i : Nat) : List Nat := [zkv (zfk t g q) r i (ch i)]
def zmarks (t g q r : Nat) (cf : Nat → Nat × Nat × (Nat → Nat)) (ch : Nat → Nat) : List Nat := (List.range (t + 1)).flatMap (zmkR t g q cf) ++ (List.range t).flatMap (zmkK t g q r ch)
/-- a literal's value: 1 when it is true; b the variables' values -/
def ztv (b : Nat → Nat) (x : Nat) : Nat := if b (x / 2) = x % 2 then 0 else 1
theorem ztv_le (b : Nat → Nat) (x : Nat) : ztv b x ≤ 1 := by
  unfold ztv
  split <;> omega
