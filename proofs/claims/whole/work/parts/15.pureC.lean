/-! THE CLAUSES of a machine, as the document orders them: t the bound, g the symbols, q the states, r the rules; fh, fs, fk where the variables of heads, states and choices begin; rl 0 .. 4: a rule's state, symbol, next state, written symbol, move + 1; tp the input -/
def zr1c (t g i y : Nat) : List (List Nat) := zjust (zcv t g i y 0) g
def zr1 (t g i : Nat) : List (List Nat) := (List.range (t + 1)).flatMap (zr1c t g i)
def zr2 (fh t i : Nat) : List (List Nat) := zjust (zhv fh t i 0) (t + 1)
def zr3 (fs q i : Nat) : List (List Nat) := zjust (zsv fs q i 0) q
def zrowsC (t g q fh fs : Nat) : List (List Nat) := (List.range (t + 1)).flatMap (zr1 t g) ++ ((List.range (t + 1)).flatMap (zr2 fh t) ++ (List.range (t + 1)).flatMap (zr3 fs q))
def ze1 (t g : Nat) (tp : Nat → Nat) (y : Nat) : List (List Nat) := [[2 * zcv t g 0 y (tp y)]]
def zendsC (t g q fh fs : Nat) (tp : Nat → Nat) : List (List Nat) := (List.range (t + 1)).flatMap (ze1 t g tp) ++ [[2 * zhv fh t 0 0], [2 * zsv fs q 0 0], [2 * zsv fs q t (q - 1)]]
def zru3 (t fh : Nat) (rl : Nat → Nat → Nat) (n i k y : Nat) : List Nat := if 1 ≤ y + rl 4 k ∧ y + rl 4 k ≤ t + 1 then [n, 2 * zhv fh t i y + 1, 2 * zhv fh t (i + 1) (y + rl 4 k - 1)] else [n, 2 * zhv fh t i y + 1]
def zru1 (t g fh : Nat) (rl : Nat → Nat → Nat) (n i k y : Nat) : List (List Nat) := [[n, 2 * zhv fh t i y + 1, 2 * zcv t g i y (rl 1 k)], [n, 2 * zhv fh t i y + 1, 2 * zcv t g (i + 1) y (rl 3 k)], zru3 t fh rl n i k y]
def zrule (t g q fh fs : Nat) (rl : Nat → Nat → Nat) (n i k : Nat) : List (List Nat) := [[n, 2 * zsv fs q i (rl 0 k)], [n, 2 * zsv fs q (i + 1) (rl 2 k)]] ++ (List.range (t + 1)).flatMap (zru1 t g fh rl n i k)
def zre2 (t g fh n i y a : Nat) : List Nat := [n, 2 * zhv fh t i y + 1, 2 * zcv t g i y a + 1, 2 * zcv t g (i + 1) y a]
def zre1 (t g fh n i y : Nat) : List (List Nat) := [[n, 2 * zhv fh t i y + 1, 2 * zhv fh t (i + 1) y]] ++ (List.range g).map (zre2 t g fh n i y)
def zrest (t g q fh fs n i : Nat) : List (List Nat) := [[n, 2 * zsv fs q i (q - 1)], [n, 2 * zsv fs q (i + 1) (q - 1)]] ++ (List.range (t + 1)).flatMap (zre1 t g fh n i)
def zla2 (t g fh i y a : Nat) : List Nat := [2 * zhv fh t i y, 2 * zcv t g i y a + 1, 2 * zcv t g (i + 1) y a]
def zla1 (t g fh i y : Nat) : List (List Nat) := (List.range g).map (zla2 t g fh i y)
def zrules (t g q r fh fs fk : Nat) (rl : Nat → Nat → Nat) (i k : Nat) : List (List Nat) := zrule t g q fh fs rl (2 * zkv fk r i k + 1) i k
def zstepC (t g q r fh fs fk : Nat) (rl : Nat → Nat → Nat) (i : Nat) : List (List Nat) := [zsome (zkv fk r i 0) (r + 1)] ++ ((List.range r).flatMap (zrules t g q r fh fs fk rl i) ++ (zrest t g q fh fs (2 * zkv fk r i r + 1) i ++ (List.range (t + 1)).flatMap (zla1 t g fh i)))
def zallC (t g q r fh fs fk : Nat) (rl : Nat → Nat → Nat) (tp : Nat → Nat) : List (List Nat) := zrowsC t g q fh fs ++ (zendsC t g q fh fs tp ++ (List.range t).flatMap (zstepC t g q r fh fs fk rl))
theorem zcv_ub {t g i y a : Nat} (ht : t ≤ 3) (hg : g ≤ 3) (hi : i ≤ 4) (hy : y ≤ 4) (ha : a ≤ 4) : zcv t g i y a ≤ 1000 := by
  have h1 : i * (t + 1) ≤ 4 * 4 := Nat.mul_le_mul hi (by omega)
  have h2 : (i * (t + 1) + y) * g ≤ 20 * 3 := Nat.mul_le_mul (by omega) hg
  unfold zcv
  omega
theorem zhv_ub {fh t i y : Nat} (ht : t ≤ 3) (hf : fh ≤ 1000) (hi : i ≤ 4) (hy : y ≤ 4) : zhv fh t i y ≤ 2000 := by
  have h1 : i * (t + 1) ≤ 4 * 4 := Nat.mul_le_mul hi (by omega)
  unfold zhv
  omega
theorem zsv_ub {fs q i y : Nat} (hq : q ≤ 3) (hf : fs ≤ 1000) (hi : i ≤ 4) (hy : y ≤ 4) : zsv fs q i y ≤ 2000 := by
  have h1 : i * q ≤ 4 * 3 := Nat.mul_le_mul hi hq
  unfold zsv
  omega
theorem zkv_ub {fk r i y : Nat} (hr : r ≤ 8) (hf : fk ≤ 1000) (hi : i ≤ 4) (hy : y ≤ 9) : zkv fk r i y ≤ 2000 := by
  have h1 : i * (r + 1) ≤ 4 * 9 := Nat.mul_le_mul hi (by omega)
  unfold zkv
  omega
