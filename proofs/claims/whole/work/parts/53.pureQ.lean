/-! PURE ROWS: a number that may be an index; an answer by cases -/
def zn (a : Int32) : Nat := a.toInt.toNat
def zq (a : Int32) (n : Nat) : Prop := 0 ≤ a.toInt ∧ a.toInt < (n : Int)
theorem zn_eq {a : Int32} (h : 0 ≤ a.toInt) : a = nI (zn a) := by
  have h2 := Int32.toInt_lt a
  apply Int32.toInt_inj.mp
  rw [nI_toInt (by unfold zn; omega)]
  unfold zn
  omega
theorem zn_lt {a : Int32} {n : Nat} (h : zq a n) : zn a < n := by
  unfold zn
  have h1 := h.1
  have h2 := h.2
  omega
theorem zn_int {a : Int32} (h : 0 ≤ a.toInt) : ((zn a : Nat) : Int) = a.toInt := by
  unfold zn
  omega
theorem zn_nI {k : Nat} (h : k < 2 ^ 31) : zn (nI k) = k := by
  unfold zn
  rw [nI_toInt h]
  omega
theorem zqI {a : Int32} {n : Nat} (hn : n < 2 ^ 31) : (0 ≤ a.toInt ∧ a.toInt < (nI n).toInt) ↔ zq a n := by
  rw [nI_toInt hn]
  exact Iff.rfl
theorem zqM {a : Int32} {n : Nat} (h1 : 1 ≤ n) (hn : n < 2 ^ 31) : ((nI 0).toInt ≤ a.toInt ∧ a.toInt ≤ (nI (n - 1)).toInt) ↔ zq a n := by
  rw [nI_toInt (show n - 1 < 2 ^ 31 by omega), nI_toInt (show 0 < 2 ^ 31 by omega)]
  unfold zq
  omega
noncomputable def zif (c : Prop) (x y : Int32) : Int32 := @ite Int32 c (Classical.propDecidable c) x y
theorem zif_t {c : Prop} {x y : Int32} (h : c) : zif c x y = x := by unfold zif; exact if_pos h
theorem zif_f {c : Prop} {x y : Int32} (h : ¬ c) : zif c x y = y := by unfold zif; exact if_neg h
theorem zif_iff {c d : Prop} {x y : Int32} (h : c ↔ d) : zif c x y = zif d x y := by rw [propext h]
/-- what count answers -/
def zcnt (a : Int32) (v0 v1 v2 v3 v4 v5 v6 v7 : Nat) : Int32 := if a.toInt = 0 then nI v0 else if a.toInt = 1 then nI v1 else if a.toInt = 2 then nI v2 else if a.toInt = 3 then nI v3 else if a.toInt = 4 then nI v4 else if a.toInt = 5 then nI v5 else if a.toInt = 6 then nI v6 else if a.toInt = 7 then nI v7 else -1
theorem zcnt_o {a : Int32} {v0 v1 v2 v3 v4 v5 v6 v7 : Nat} (h : ¬ (0 ≤ a.toInt ∧ a.toInt ≤ 7)) : zcnt a v0 v1 v2 v3 v4 v5 v6 v7 = -1 := by
  unfold zcnt
  rw [if_neg (by omega), if_neg (by omega), if_neg (by omega), if_neg (by omega), if_neg (by omega), if_neg (by omega), if_neg (by omega), if_neg (by omega)]
