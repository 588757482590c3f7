/-! PURE ROWS of the laying of a trip -/
/-- n cities from x on -/
def zrun (x n : Nat) : List Nat := (List.range n).map (fun i => x + i)
theorem zrun_S (x n : Nat) : zrun x (n + 1) = zrun x n ++ [x + n] := zmap_succ _ n
theorem zrun_len (x n : Nat) : (zrun x n).length = n := by simp [zrun]
/-- the sides of vertex u among the first n, in rising order -/
def zsl (w : Nat → Nat) (u : Nat) : Nat → List Nat
  | 0 => []
  | n + 1 => zsl w u n ++ (if w n = u then [n] else [])
theorem zsl_len (w : Nat → Nat) (u : Nat) : ∀ n, (zsl w u n).length = zc (zeq w u) n
  | 0 => rfl
  | n + 1 => by
    have e := zsl_len w u n
    by_cases h : w n = u
    · simp [zsl, zc, zeq, h, e]
    · simp [zsl, zc, zeq, h, e]
/-- the k-th side of u: it is below n, its vertex is u, k of u's come before it -/
theorem zsl_at (w : Nat → Nat) (u : Nat) : ∀ n k, k < zc (zeq w u) n → (zsl w u n).getD k 0 < n ∧ w ((zsl w u n).getD k 0) = u ∧ zc (zeq w u) ((zsl w u n).getD k 0) = k
  | 0, k, h => absurd h (Nat.not_lt_zero _)
  | n + 1, k, h => by
    by_cases hk : k < zc (zeq w u) n
    · have e : (zsl w u (n + 1)).getD k 0 = (zsl w u n).getD k 0 := by
        simp [zsl, List.getD, List.getElem?_append_left (show k < (zsl w u n).length by rw [zsl_len]; exact hk)]
      obtain ⟨a, b, d⟩ := zsl_at w u n k hk
      rw [e]
      exact ⟨by omega, b, d⟩
    · by_cases hw : w n = u
      · have e0 : zc (zeq w u) (n + 1) = zc (zeq w u) n + 1 := by simp [zc, zeq, hw]
        have e1 : k = zc (zeq w u) n := by omega
        have e : (zsl w u (n + 1)).getD k 0 = n := by
          simp [zsl, hw, List.getD, List.getElem?_append_right (show (zsl w u n).length ≤ k by rw [zsl_len]; omega), zsl_len, e1]
        rw [e]
        exact ⟨by omega, hw, e1.symm⟩
      · have e0 : zc (zeq w u) (n + 1) = zc (zeq w u) n := by simp [zc, zeq, hw]
        omega
theorem zsides {w : Nat → Nat} {f1 : Nat → Int32} {n u k : Nat} (h : ∀ d, d < n → f1 (zpos w n d) = nI d) (hk : k < zc (zeq w u) n) : f1 (zc (zlt w u) n + k) = nI ((zsl w u n).getD k 0) := by
  obtain ⟨a, b, d⟩ := zsl_at w u n k hk
  have q := h _ a
  unfold zpos at q
  rw [b, d] at q
  exact q
/-- of one side of a vertex in the cover -/
def zlay1 (w cov : Nat → Nat) (d : Nat) : List Nat := zrun (6 * d) 3 ++ ((if cov (w (zx1 d)) = 0 then zrun (6 * zx1 d) 6 else []) ++ zrun (6 * d + 3) 3)
/-- the first k sides of vertex u -/
def zlayK (w cov : Nat → Nat) (n u k : Nat) : List Nat := (List.range k).flatMap (fun i => zlay1 w cov ((zsl w u n).getD i 0))
def zlayV (w cov : Nat → Nat) (n u : Nat) : List Nat := zlayK w cov n u (zc (zeq w u) n)
def zcv1 (cov : Nat → Nat) (u : Nat) : Bool := decide (cov u = 1)
def zlayU (w cov : Nat → Nat) (ed u : Nat) : List Nat := if cov u = 1 then [12 * ed + zc (zcv1 cov) u] ++ zlayV w cov (2 * ed) u else []
/-- the trip that FORWARD lays: for each vertex of the cover a selector, then its sides -/
def zlayT (w cov : Nat → Nat) (ed k : Nat) : List Nat := (List.range k).flatMap (zlayU w cov ed)
theorem zlayT_S (w cov : Nat → Nat) (ed k : Nat) : zlayT w cov ed (k + 1) = zlayT w cov ed k ++ zlayU w cov ed k := zrng_succ _ k
theorem zlayT_mono (w cov : Nat → Nat) (ed : Nat) {i k : Nat} (h : i ≤ k) : (zlayT w cov ed i).length ≤ (zlayT w cov ed k).length := (zpre_rng _ h).length_le
theorem zlayK_S (w cov : Nat → Nat) (n u k : Nat) : zlayK w cov n u (k + 1) = zlayK w cov n u k ++ zlay1 w cov ((zsl w u n).getD k 0) := zrng_succ _ k
theorem zlayK_mono (w cov : Nat → Nat) (n u : Nat) {i k : Nat} (h : i ≤ k) : (zlayK w cov n u i).length ≤ (zlayK w cov n u k).length := (zpre_rng _ h).length_le
theorem zlay1_len0 {w cov : Nat → Nat} {d : Nat} (h : cov (w (zx1 d)) = 0) : (zlay1 w cov d).length = 12 := by simp [zlay1, h, zrun_len]
theorem zlay1_len1 {w cov : Nat → Nat} {d : Nat} (h : ¬ cov (w (zx1 d)) = 0) : (zlay1 w cov d).length = 6 := by simp [zlay1, h, zrun_len]
theorem zx1_lt {d n : Nat} (h : d < 2 * n) : zx1 d < 2 * n := by
  unfold zx1
  split <;> omega
