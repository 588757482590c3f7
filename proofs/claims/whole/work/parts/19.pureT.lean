/-! WHERE A CLAUSE LIES IN THE ROW; THE THREES -/
def zoff (Cs : List (List Nat)) (j : Nat) : Nat := (Cs.take j).flatten.length
def zlen (Cs : List (List Nat)) (j : Nat) : Nat := (Cs.getD j []).length
def zlit (Cs : List (List Nat)) (j i : Nat) : Nat := (Cs.getD j []).getD i 0
theorem zsts_at : ∀ (Cs : List (List Nat)) (k j : Nat), j ≤ Cs.length → (zsts k Cs).getD j 0 = k + (Cs.take j).flatten.length
  | [], k, j, h => by
    have e : j = 0 := by simpa using h
    subst e
    simp [zsts]
  | c :: Cs, k, 0, _ => by simp [zsts]
  | c :: Cs, k, j + 1, h => by
    have h' : j ≤ Cs.length := by simpa using h
    have e := zsts_at Cs (k + c.length) j h'
    simp only [zsts, List.take_succ_cons, List.flatten_cons, List.length_append]
    simp only [List.getD_cons_succ]
    rw [e]
    omega
theorem zoff_succ : ∀ (Cs : List (List Nat)) (j : Nat), j < Cs.length → zoff Cs (j + 1) = zoff Cs j + zlen Cs j
  | [], j, h => by simp at h
  | c :: Cs, 0, _ => by simp [zoff, zlen]
  | c :: Cs, j + 1, h => by
    have e := zoff_succ Cs j (by simpa using h)
    simp only [zoff, zlen, List.take_succ_cons, List.flatten_cons, List.length_append, List.getD_cons_succ] at *
    omega
theorem zoff_le : ∀ (Cs : List (List Nat)) (j : Nat), zoff Cs j ≤ Cs.flatten.length
  | [], j => by simp [zoff]
  | c :: Cs, 0 => by simp [zoff]
  | c :: Cs, j + 1 => by
    have e := zoff_le Cs j
    simp only [zoff, List.take_succ_cons, List.flatten_cons, List.length_append] at *
    omega
theorem zflat_at : ∀ (Cs : List (List Nat)) (j i : Nat), j < Cs.length → i < zlen Cs j → Cs.flatten.getD (zoff Cs j + i) 0 = zlit Cs j i
  | [], j, i, h, _ => by simp at h
  | c :: Cs, 0, i, _, hi => by
    have hi' : i < c.length := by simpa [zlen] using hi
    simp [zoff, zlit, List.getD, List.getElem?_append_left hi']
  | c :: Cs, j + 1, i, h, hi => by
    have e := zflat_at Cs j i (by simpa using h) (by simpa [zlen] using hi)
    simp only [zoff, zlit, List.take_succ_cons, List.flatten_cons, List.length_append, List.getD_cons_succ] at *
    rw [← e]
    rw [show c.length + (List.take j Cs).flatten.length + i = c.length + ((List.take j Cs).flatten.length + i) by omega]
    simp [List.getD, List.getElem?_append_right]
theorem zF_st {fl ft : Nat → Int32} {nl ns j : Nat} {Cs : List (List Nat)} (h : zF fl nl ft ns Cs) (hj : j ≤ Cs.length) : ft j = nI (zoff Cs j) := by
  obtain ⟨-, h2⟩ := zF_len h
  rw [h.2.2 j (by omega)]
  unfold zst
  rw [zsts_at Cs 0 j hj, Nat.zero_add]
  rfl
theorem zF_lt {fl ft : Nat → Int32} {nl ns j i : Nat} {Cs : List (List Nat)} (h : zF fl nl ft ns Cs) (hj : j < Cs.length) (hi : i < zlen Cs j) : zoff Cs j + i < nl := by
  obtain ⟨h1, -⟩ := zF_len h
  have a := zoff_succ Cs j hj
  have b := zoff_le Cs (j + 1)
  omega
theorem zF_lit {fl ft : Nat → Int32} {nl ns j i : Nat} {Cs : List (List Nat)} (h : zF fl nl ft ns Cs) (hj : j < Cs.length) (hi : i < zlen Cs j) : fl (zoff Cs j + i) = nI (zlit Cs j i) := by
  rw [h.1.2 _ (zF_lt h hj hi), zflat_at Cs j i hj hi]
/-- the threes of a clause of four literals and more, v the next new variable -/
def zsp1 (v : Nat) (cl : List Nat) (i : Nat) : List Nat := [2 * (v + i) + 1, cl.getD (2 + i) 0, 2 * (v + i + 1)]
def zsp (v : Nat) (cl : List Nat) : List Nat := [cl.getD 0 0, cl.getD 1 0, 2 * v] ++ ((List.range (cl.length - 4)).flatMap (zsp1 v cl) ++ [2 * (v + (cl.length - 4)) + 1, cl.getD (cl.length - 2) 0, cl.getD (cl.length - 1) 0])
def zth1 (v : Nat) (cl : List Nat) : List Nat := if cl.length ≤ 3 then [cl.getD 0 0, cl.getD (Nat.min 1 (cl.length - 1)) 0, cl.getD (cl.length - 1) 0] else zsp v cl
def zthV : Nat → List (List Nat) → Nat
  | v, [] => v
  | v, cl :: Cs => zthV (v + (cl.length - 3)) Cs
def zthL : Nat → List (List Nat) → List Nat
  | _, [] => []
  | v, cl :: Cs => zth1 v cl ++ zthL (v + (cl.length - 3)) Cs
theorem zthV_app (cl : List Nat) : ∀ (Cs : List (List Nat)) (v : Nat), zthV v (Cs ++ [cl]) = zthV v Cs + (cl.length - 3)
  | [], v => rfl
  | d :: Cs, v => by simp only [List.cons_append, zthV, zthV_app cl Cs]
theorem zthL_app (D : List (List Nat)) : ∀ (Cs : List (List Nat)) (v : Nat), zthL v (Cs ++ D) = zthL v Cs ++ zthL (zthV v Cs) D
  | [], v => rfl
  | d :: Cs, v => by simp only [List.cons_append, zthV, zthL, zthL_app D Cs, List.append_assoc]
theorem ztake {Cs : List (List Nat)} {j : Nat} (h : j < Cs.length) : Cs.take (j + 1) = Cs.take j ++ [Cs.getD j []] := by
  rw [List.take_succ]
  simp [List.getD, h]
theorem zthL_take {Cs : List (List Nat)} {j : Nat} (h : j < Cs.length) (v : Nat) : zthL v (Cs.take (j + 1)) = zthL v (Cs.take j) ++ zth1 (zthV v (Cs.take j)) (Cs.getD j []) := by
  rw [ztake h, zthL_app]
  simp [zthL]
theorem zthV_take {Cs : List (List Nat)} {j : Nat} (h : j < Cs.length) (v : Nat) : zthV v (Cs.take (j + 1)) = zthV v (Cs.take j) + (zlen Cs j - 3) := by
  rw [ztake h, zthV_app]
  rfl
theorem zthL_fit {Cs : List (List Nat)} {j : Nat} (h : j < Cs.length) (v : Nat) : (zthL v (Cs.take j)).length + (zth1 (zthV v (Cs.take j)) (Cs.getD j [])).length ≤ (zthL v Cs).length := by
  have e := zthL_app (Cs.drop (j + 1)) (Cs.take (j + 1)) v
  rw [List.take_append_drop, zthL_take h] at e
  rw [e]
  simp only [List.length_append]
  omega
theorem zthL_fit0 (Cs : List (List Nat)) (j v : Nat) : (zthL v (Cs.take j)).length ≤ (zthL v Cs).length := by
  have e := zthL_app (Cs.drop j) (Cs.take j) v
  rw [List.take_append_drop] at e
  rw [e, List.length_append]
  omega
theorem zsp_len (v : Nat) {cl : List Nat} (h : 4 ≤ cl.length) : (zsp v cl).length = 3 * (cl.length - 2) := by
  have e : ∀ n, ((List.range n).flatMap (zsp1 v cl)).length = 3 * n := by
    intro n
    induction n with
    | zero => rfl
    | succ n ih => rw [zrng_succ, List.length_append, ih]; simp [zsp1]; omega
  simp only [zsp, List.length_append, e, List.length_cons, List.length_nil]
  omega
theorem zW_0 {n c : Nat} (h : zW n c) : zW 0 c := ⟨h.1, Nat.zero_le _, h.2.2⟩
