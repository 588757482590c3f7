/-! PURE ROWS of the sorting of sides: w d the vertex at side d, n sides -/
def zeq (w : Nat → Nat) (u d : Nat) : Bool := decide (w d = u)
def zlt (w : Nat → Nat) (u d : Nat) : Bool := decide (w d < u)
/-- where a side stands: behind all sides of lower vertices, and those of its own vertex that come before it -/
def zpos (w : Nat → Nat) (n d : Nat) : Nat := zc (zlt w (w d)) n + zc (zeq w (w d)) d
theorem zc_eqS (w : Nat → Nat) (k : Nat) : zc (zeq w (w k)) (k + 1) = zc (zeq w (w k)) k + 1 := by simp [zc, zeq]
theorem zc_neS {w : Nat → Nat} {k u : Nat} (h : ¬ u = w k) : zc (zeq w u) (k + 1) = zc (zeq w u) k := by
  have e : ¬ w k = u := fun q => h q.symm
  simp [zc, zeq, e]
theorem zcnt_step {w : Nat → Nat} {f : Nat → Int32} {k ve : Nat} (h : ∀ u, u ≤ ve → f u = nI (zc (zeq w u) k)) : ∀ u, u ≤ ve → upd f (w k) (nI (zc (zeq w (w k)) k + 1)) u = nI (zc (zeq w u) (k + 1)) := by
  intro u hu
  by_cases e : u = w k
  · subst e; rw [pk_us, zc_eqS]
  · rw [pk_un e, zc_neS e]; exact h u hu
theorem zc_split (w : Nat → Nat) (u n : Nat) : zc (zlt w (u + 1)) n = zc (zlt w u) n + zc (zeq w u) n := by
  refine zc_or n (fun d _ => ?_) (fun d _ h => ?_)
  · simp only [zlt, zeq]
    by_cases h1 : w d < u
    · simp [h1]; omega
    · by_cases h2 : w d = u
      · simp [h2]
      · simp [h1, h2]; omega
  · simp only [zlt, zeq, decide_eq_true_eq] at h
    omega
theorem zc_lt0 (w : Nat → Nat) (n : Nat) : zc (zeq w 0) n = zc (zlt w (0 + 1)) n := zc_congr n (fun d _ => by simp [zeq, zlt])
theorem zpre_stepS {w : Nat → Nat} {f : Nat → Int32} {n x ve : Nat} (hx : 1 ≤ x) (h1 : ∀ u, u < x → f u = nI (zc (zlt w (u + 1)) n)) (h2 : ∀ u, x ≤ u → u ≤ ve → f u = nI (zc (zeq w u) n)) : (∀ u, u < x + 1 → upd f x (nI (zc (zeq w x) n + zc (zlt w (x - 1 + 1)) n)) u = nI (zc (zlt w (u + 1)) n)) ∧ ∀ u, x + 1 ≤ u → u ≤ ve → upd f x (nI (zc (zeq w x) n + zc (zlt w (x - 1 + 1)) n)) u = nI (zc (zeq w u) n) := by
  refine ⟨fun u hu => ?_, fun u hu hv => ?_⟩
  · by_cases e : u = x
    · subst e
      rw [pk_us, zc_split w u n, show u - 1 + 1 = u by omega, Nat.add_comm]
    · rw [pk_un e]; exact h1 u (by omega)
  · rw [pk_un (by omega)]; exact h2 u (by omega) hv
theorem zlt_mono (w : Nat → Nat) {a b : Nat} (h : a ≤ b) : ∀ n, zc (zlt w a) n ≤ zc (zlt w b) n
  | 0 => Nat.le_refl _
  | n + 1 => by
    have e := zlt_mono w h n
    by_cases h1 : w n < a
    · have h2 : w n < b := by omega
      simp only [zc, zlt, h1, h2, decide_true, if_true] at *
      omega
    · have e2 : zc (zlt w a) (n + 1) = zc (zlt w a) n := by simp [zc, zlt, h1]
      have e3 : zc (zlt w b) n ≤ zc (zlt w b) (n + 1) := zc_mono _ (by omega)
      omega
theorem zpos_lt {w : Nat → Nat} {n d : Nat} (h : d < n) : zpos w n d < zc (zlt w (w d + 1)) n := by
  have a := zc_mono (zeq w (w d)) (show d + 1 ≤ n from h)
  rw [zc_eqS] at a
  rw [zc_split]
  unfold zpos
  omega
theorem zpos_n {w : Nat → Nat} {n d : Nat} (h : d < n) : zpos w n d < n := Nat.lt_of_lt_of_le (zpos_lt h) (zc_le _ _)
theorem zpos_ne {w : Nat → Nat} {n d x : Nat} (hd : d < n) (hx : x < n) (h : d < x) : zpos w n x ≠ zpos w n d := by
  rcases Nat.lt_trichotomy (w d) (w x) with q | q | q
  · have a := zpos_lt (w := w) hd
    have b := zlt_mono w (show w d + 1 ≤ w x from q) n
    unfold zpos at *
    omega
  · have a := zc_mono (zeq w (w d)) (show d + 1 ≤ x from h)
    rw [zc_eqS] at a
    unfold zpos
    rw [← q]
    omega
  · have a := zpos_lt (w := w) hx
    have b := zlt_mono w (show w x + 1 ≤ w d from q) n
    unfold zpos at *
    omega
theorem zneg1 {k : Nat} (h : k < 2 ^ 30) : nI k - nI 1 < 0 ↔ k = 0 := by
  have e := pk_sub_toInt (a := k) (b := 1) h (by decide)
  rw [Int32.lt_iff_toInt_lt, e, Int32.toInt_zero]
  omega
/-- one side more, from the last one on -/
theorem zsort_step {w : Nat → Nat} {f3 f2 f1 : Nat → Int32} {n k ve : Nat} (hk : k < n) (hw : ∀ d, d < n → w d < ve) (h3 : ∀ u, u ≤ ve → f3 u = nI (zc (zlt w u) n + zc (zeq w u) (k + 1))) (h2 : ∀ d, k + 1 ≤ d → d < n → f2 d = nI (zpos w n d)) (h1 : ∀ d, k + 1 ≤ d → d < n → f1 (zpos w n d) = nI d) :
    (∀ u, u ≤ ve → upd f3 (w k) (nI (zpos w n k)) u = nI (zc (zlt w u) n + zc (zeq w u) k)) ∧ (∀ d, k ≤ d → d < n → upd f2 k (nI (zpos w n k)) d = nI (zpos w n d)) ∧ ∀ d, k ≤ d → d < n → upd f1 (zpos w n k) (nI k) (zpos w n d) = nI d := by
  refine ⟨fun u hu => ?_, fun d a b => ?_, fun d a b => ?_⟩
  · by_cases e : u = w k
    · subst e; rw [pk_us]; rfl
    · rw [pk_un e, h3 u hu, zc_neS e]
  · by_cases e : d = k
    · subst e; rw [pk_us]
    · rw [pk_un e]; exact h2 d (by omega) b
  · by_cases e : d = k
    · subst e; rw [pk_us]
    · rw [pk_un (zpos_ne hk b (by omega))]; exact h1 d (by omega) b
