/-! PURE ROWS of the reference's graph: what comes first, last and next at a vertex -/
theorem zc_ltW {w : Nat → Nat} {d n : Nat} (h : d < n) : zc (zeq w (w d)) d < zc (zeq w (w d)) n := by
  have a := zc_mono (zeq w (w d)) (show d + 1 ≤ n from h)
  rw [zc_eqS] at a
  omega
theorem zc_inj {w : Nat → Nat} {d x u : Nat} (hd : w d = u) (hx : w x = u) (h : zc (zeq w u) d = zc (zeq w u) x) : d = x := by
  rcases Nat.lt_trichotomy d x with q | q | q
  · have a := zc_ltW (w := w) q
    rw [hd] at a
    omega
  · exact q
  · have a := zc_ltW (w := w) q
    rw [hx] at a
    omega
/-- the first, the last side at u among n, and the next one behind x -/
def zFE (w : Nat → Nat) (n u : Nat) (z : Int32) : Prop := (zc (zeq w u) n = 0 ∧ z = -1) ∨ ∃ d, d < n ∧ w d = u ∧ zc (zeq w u) d = 0 ∧ z = nI d
def zLE (w : Nat → Nat) (n u : Nat) (z : Int32) : Prop := (zc (zeq w u) n = 0 ∧ z = -1) ∨ ∃ d, d < n ∧ w d = u ∧ zc (zeq w u) d + 1 = zc (zeq w u) n ∧ z = nI d
def zBH (w : Nat → Nat) (n x : Nat) (z : Int32) : Prop := (zc (zeq w (w x)) x + 1 = zc (zeq w (w x)) n ∧ z = -1) ∨ ∃ y, y < n ∧ w y = w x ∧ zc (zeq w (w x)) y = zc (zeq w (w x)) x + 1 ∧ z = nI y
theorem zFE_0 (w : Nat → Nat) (u : Nat) : zFE w 0 u (-1) := Or.inl ⟨rfl, rfl⟩
theorem zLE_0 (w : Nat → Nat) (u : Nat) : zLE w 0 u (-1) := Or.inl ⟨rfl, rfl⟩
theorem zneg1ne {k : Nat} (h : k < 2 ^ 31) : ¬ nI k = -1 := by
  intro q
  have e := congrArg Int32.toInt q
  rw [nI_toInt h] at e
  have e2 : (-1 : Int32).toInt = -1 := by decide
  omega
theorem zLE_no {w : Nat → Nat} {n u : Nat} {z : Int32} (h : zLE w n u z) (hz : z = -1) (hn : n < 2 ^ 31) : zc (zeq w u) n = 0 := by
  rcases h with ⟨a, -⟩ | ⟨d, hd, -, -, e⟩
  · exact a
  · rw [e] at hz
    exact absurd hz (zneg1ne (by omega))
theorem zLE_yes {w : Nat → Nat} {n u : Nat} {z : Int32} (h : zLE w n u z) (hz : ¬ z = -1) : ∃ d, d < n ∧ w d = u ∧ zc (zeq w u) d + 1 = zc (zeq w u) n ∧ z = nI d := by
  rcases h with ⟨-, a⟩ | h
  · exact absurd a hz
  · exact h
theorem zFE_S {w : Nat → Nat} {n u : Nat} {z : Int32} (h : zFE w n u z) (hu : ¬ u = w n ∨ ¬ zc (zeq w u) n = 0) : zFE w (n + 1) u z := by
  rcases h with ⟨a, b⟩ | ⟨d, hd, h1, h2, h3⟩
  · rcases hu with q | q
    · exact Or.inl ⟨by rw [zc_neS q]; exact a, b⟩
    · exact absurd a q
  · exact Or.inr ⟨d, by omega, h1, h2, h3⟩
theorem zFE_N {w : Nat → Nat} {n : Nat} (h : zc (zeq w (w n)) n = 0) : zFE w (n + 1) (w n) (nI n) := Or.inr ⟨n, by omega, rfl, h, rfl⟩
theorem zLE_S {w : Nat → Nat} {n u : Nat} {z : Int32} (h : zLE w n u z) (hu : ¬ u = w n) : zLE w (n + 1) u z := by
  rcases h with ⟨a, b⟩ | ⟨d, hd, h1, h2, h3⟩
  · exact Or.inl ⟨by rw [zc_neS hu]; exact a, b⟩
  · exact Or.inr ⟨d, by omega, h1, by rw [zc_neS hu]; exact h2, h3⟩
theorem zLE_N (w : Nat → Nat) (n : Nat) : zLE w (n + 1) (w n) (nI n) := Or.inr ⟨n, by omega, rfl, (zc_eqS w n).symm, rfl⟩
theorem zBH_N (w : Nat → Nat) (n : Nat) : zBH w (n + 1) n (-1) := Or.inl ⟨(zc_eqS w n).symm, rfl⟩
theorem zBH_S {w : Nat → Nat} {n x : Nat} {z : Int32} (h : zBH w n x z) (hu : ¬ w x = w n ∨ ¬ zc (zeq w (w x)) x + 1 = zc (zeq w (w x)) n) : zBH w (n + 1) x z := by
  rcases h with ⟨a, b⟩ | ⟨y, hy, h1, h2, h3⟩
  · rcases hu with q | q
    · exact Or.inl ⟨by rw [zc_neS q]; exact a, b⟩
    · exact absurd a q
  · exact Or.inr ⟨y, by omega, h1, h2, h3⟩
theorem zBH_L {w : Nat → Nat} {n x : Nat} (hx : w x = w n) (h : zc (zeq w (w x)) x + 1 = zc (zeq w (w x)) n) : zBH w (n + 1) x (nI n) := Or.inr ⟨n, by omega, hx.symm, h.symm, rfl⟩
/-- one side more: no side at its vertex before -/
theorem zlink_a {w : Nat → Nat} {n ve : Nat} {ffe fle fbe : Nat → Int32} (h1 : ∀ u, u < ve → zFE w n u (ffe u)) (h2 : ∀ u, u < ve → zLE w n u (fle u)) (h3 : ∀ x, x < n → zBH w n x (fbe x)) (h0 : zc (zeq w (w n)) n = 0) :
    (∀ u, u < ve → zFE w (n + 1) u (upd ffe (w n) (nI n) u)) ∧ (∀ u, u < ve → zLE w (n + 1) u (upd fle (w n) (nI n) u)) ∧ ∀ x, x < n + 1 → zBH w (n + 1) x (upd fbe n (-1) x) := by
  refine ⟨fun u hu => ?_, fun u hu => ?_, fun x hx => ?_⟩
  · by_cases e : u = w n
    · subst e; rw [pk_us]; exact zFE_N h0
    · rw [pk_un e]; exact zFE_S (h1 u hu) (Or.inl e)
  · by_cases e : u = w n
    · subst e; rw [pk_us]; exact zLE_N w n
    · rw [pk_un e]; exact zLE_S (h2 u hu) e
  · by_cases e : x = n
    · subst e; rw [pk_us]; exact zBH_N w x
    · rw [pk_un e]
      refine zBH_S (h3 x (by omega)) (Or.inl fun q => ?_)
      have a := zc_ltW (w := w) (show x < n by omega)
      rw [q] at a
      omega
/-- one side more: d was the last at its vertex -/
theorem zlink_b {w : Nat → Nat} {n ve d : Nat} {ffe fle fbe : Nat → Int32} (h1 : ∀ u, u < ve → zFE w n u (ffe u)) (h2 : ∀ u, u < ve → zLE w n u (fle u)) (h3 : ∀ x, x < n → zBH w n x (fbe x)) (hd : d < n) (hw : w d = w n) (hl : zc (zeq w (w n)) d + 1 = zc (zeq w (w n)) n) :
    (∀ u, u < ve → zFE w (n + 1) u (ffe u)) ∧ (∀ u, u < ve → zLE w (n + 1) u (upd fle (w n) (nI n) u)) ∧ ∀ x, x < n + 1 → zBH w (n + 1) x (upd (upd fbe d (nI n)) n (-1) x) := by
  refine ⟨fun u hu => ?_, fun u hu => ?_, fun x hx => ?_⟩
  · refine zFE_S (h1 u hu) ?_
    by_cases e : u = w n
    · subst e; exact Or.inr (by omega)
    · exact Or.inl e
  · by_cases e : u = w n
    · subst e; rw [pk_us]; exact zLE_N w n
    · rw [pk_un e]; exact zLE_S (h2 u hu) e
  · by_cases e : x = n
    · subst e; rw [pk_us]; exact zBH_N w x
    · rw [pk_un e]
      by_cases e2 : x = d
      · subst e2
        rw [pk_us]
        exact zBH_L hw (by rw [hw]; exact hl)
      · rw [pk_un e2]
        refine zBH_S (h3 x (by omega)) ?_
        by_cases e3 : w x = w n
        · refine Or.inr fun q => e2 ?_
          rw [e3] at q
          exact zc_inj e3 hw (by omega)
        · exact Or.inl e3
/-- the other end of an edge is another vertex -/
theorem zva_ne {v n3 : Nat} {L3 : List Nat} (hL : ∀ i, i < 3 * n3 → L3.getD i 0 < 2 * v) {d : Nat} (hd : d < 2 * (v + 6 * n3)) : ¬ zva v L3 (zx1 d) = zva v L3 d := by
  unfold zx1
  by_cases h : d < 2 * v
  · split
    · rw [zva_lo h, zva_lo (by omega)]; omega
    · rw [zva_lo h, zva_lo (by omega)]; omega
  · have e : d = 2 * (v + 6 * ((d - 2 * v) / 12)) + (d - 2 * v) % 12 := by omega
    have hk : (d - 2 * v) % 12 < 12 := Nat.mod_lt _ (by decide)
    have hj : (d - 2 * v) / 12 < n3 := by omega
    generalize (d - 2 * v) / 12 = j at *
    generalize (d - 2 * v) % 12 = k at *
    have hl0 := hL (3 * j + 0) (by omega)
    have hl1 := hL (3 * j + 1) (by omega)
    have hl2 := hL (3 * j + 2) (by omega)
    subst e
    rcases (show k = 0 ∨ k = 1 ∨ k = 2 ∨ k = 3 ∨ k = 4 ∨ k = 5 ∨ k = 6 ∨ k = 7 ∨ k = 8 ∨ k = 9 ∨ k = 10 ∨ k = 11 by omega) with rfl | rfl | rfl | rfl | rfl | rfl | rfl | rfl | rfl | rfl | rfl | rfl
    · rw [if_pos (by omega), show 2 * (v + 6 * j) + 0 + 1 = 2 * (v + 6 * j) + 1 by omega, zva_hi v L3 j 0 (by omega), zva_hi v L3 j 1 (by omega)]; simp
    · rw [if_neg (by omega), show 2 * (v + 6 * j) + 1 - 1 = 2 * (v + 6 * j) + 0 by omega, zva_hi v L3 j 0 (by omega), zva_hi v L3 j 1 (by omega)]; simp
    · rw [if_pos (by omega), show 2 * (v + 6 * j) + 2 + 1 = 2 * (v + 6 * j) + 3 by omega, zva_hi v L3 j 2 (by omega), zva_hi v L3 j 3 (by omega)]; simp
    · rw [if_neg (by omega), show 2 * (v + 6 * j) + 3 - 1 = 2 * (v + 6 * j) + 2 by omega, zva_hi v L3 j 2 (by omega), zva_hi v L3 j 3 (by omega)]; simp
    · rw [if_pos (by omega), show 2 * (v + 6 * j) + 4 + 1 = 2 * (v + 6 * j) + 5 by omega, zva_hi v L3 j 4 (by omega), zva_hi v L3 j 5 (by omega)]; simp
    · rw [if_neg (by omega), show 2 * (v + 6 * j) + 5 - 1 = 2 * (v + 6 * j) + 4 by omega, zva_hi v L3 j 4 (by omega), zva_hi v L3 j 5 (by omega)]; simp
    · rw [if_pos (by omega), show 2 * (v + 6 * j) + 6 + 1 = 2 * (v + 6 * j) + 7 by omega, zva_hi v L3 j 6 (by omega), zva_hi v L3 j 7 (by omega)]; show ¬ L3.getD (3 * j + 0) 0 = 2 * v + 3 * j + 0; omega
    · rw [if_neg (by omega), show 2 * (v + 6 * j) + 7 - 1 = 2 * (v + 6 * j) + 6 by omega, zva_hi v L3 j 6 (by omega), zva_hi v L3 j 7 (by omega)]; show ¬ 2 * v + 3 * j + 0 = L3.getD (3 * j + 0) 0; omega
    · rw [if_pos (by omega), show 2 * (v + 6 * j) + 8 + 1 = 2 * (v + 6 * j) + 9 by omega, zva_hi v L3 j 8 (by omega), zva_hi v L3 j 9 (by omega)]; show ¬ L3.getD (3 * j + 1) 0 = 2 * v + 3 * j + 1; omega
    · rw [if_neg (by omega), show 2 * (v + 6 * j) + 9 - 1 = 2 * (v + 6 * j) + 8 by omega, zva_hi v L3 j 8 (by omega), zva_hi v L3 j 9 (by omega)]; show ¬ 2 * v + 3 * j + 1 = L3.getD (3 * j + 1) 0; omega
    · rw [if_pos (by omega), show 2 * (v + 6 * j) + 10 + 1 = 2 * (v + 6 * j) + 11 by omega, zva_hi v L3 j 10 (by omega), zva_hi v L3 j 11 (by omega)]; show ¬ L3.getD (3 * j + 2) 0 = 2 * v + 3 * j + 2; omega
    · rw [if_neg (by omega), show 2 * (v + 6 * j) + 11 - 1 = 2 * (v + 6 * j) + 10 by omega, zva_hi v L3 j 10 (by omega), zva_hi v L3 j 11 (by omega)]; show ¬ 2 * v + 3 * j + 2 = L3.getD (3 * j + 2) 0; omega
/-- the reference's roads -/
def zSel (w : Nat → Nat) (ed x : Nat) : Prop := (x % 6 = 0 ∧ zc (zeq w (w (x / 6))) (x / 6) = 0) ∨ (x % 6 = 5 ∧ zc (zeq w (w (x / 6))) (x / 6) + 1 = zc (zeq w (w (x / 6))) (2 * ed))
def zGo (w : Nat → Nat) (x y : Nat) : Prop := (x / 6 = y / 6 ∧ y % 6 = x % 6 + 1) ∨ (¬ x / 6 = y / 6 ∧ x / 6 / 2 = y / 6 / 2 ∧ ((x % 6 = 2 ∧ y % 6 = 0) ∨ (x % 6 = 5 ∧ y % 6 = 3))) ∨ (x % 6 = 5 ∧ y % 6 = 0 ∧ w (y / 6) = w (x / 6) ∧ zc (zeq w (w (x / 6))) (y / 6) = zc (zeq w (w (x / 6))) (x / 6) + 1)
theorem zx1_2 {a b : Nat} : (zx1 a = b) ↔ (¬ a = b ∧ a / 2 = b / 2) := by
  unfold zx1
  split <;> omega
theorem zSel_lead {w : Nat → Nat} {ed x y : Nat} (hy : y < 12 * ed) (hx : 12 * ed ≤ x) : zSel w ed y ↔ zlead w ed x y := by
  have hd : y / 6 < 2 * ed := by omega
  have a := zc_ltW (w := w) hd
  have b := zc_split w (w (y / 6)) (2 * ed)
  unfold zSel zlead zpos
  rw [b]
  generalize zc (zeq w (w (y / 6))) (y / 6) = p at *
  generalize zc (zeq w (w (y / 6))) (2 * ed) = q at *
  generalize zc (zlt w (w (y / 6))) (2 * ed) = r at *
  generalize zc (zlt w (w (y / 6) + 1)) (2 * ed) = s at *
  constructor
  · rintro (⟨h1, h2⟩ | ⟨h1, h2⟩)
    · exact ⟨hy, Or.inl ⟨hx, Or.inl ⟨h1, by omega⟩⟩⟩
    · exact ⟨hy, Or.inl ⟨hx, Or.inr ⟨h1, by omega⟩⟩⟩
  · rintro ⟨-, (⟨-, (⟨h1, h2⟩ | ⟨h1, h2⟩)⟩ | ⟨h, -⟩)⟩
    · exact Or.inl ⟨h1, by omega⟩
    · exact Or.inr ⟨h1, by omega⟩
    · omega
theorem zGo_lead {w : Nat → Nat} {ed x y : Nat} (hw : ∀ d, d < 2 * ed → ¬ w (zx1 d) = w d) (hx : x < 12 * ed) (hy : y < 12 * ed) : zGo w x y ↔ zlead w ed x y := by
  have hd : x / 6 < 2 * ed := by omega
  have hne := hw _ hd
  have z := @zx1_2 (x / 6) (y / 6)
  unfold zGo zlead
  constructor
  · rintro (⟨h1, h2⟩ | ⟨h1, h2, h3⟩ | ⟨h1, h2, h3, h4⟩)
    · exact ⟨hy, Or.inr ⟨hx, Or.inl ⟨h1, h2⟩⟩⟩
    · exact ⟨hy, Or.inr ⟨hx, Or.inr (Or.inl ⟨h1, z.mpr ⟨h1, h2⟩, h3⟩)⟩⟩
    · refine ⟨hy, Or.inr ⟨hx, Or.inr (Or.inr ⟨fun q => ?_, fun q => ?_, h1, h2, h3.symm, ?_⟩)⟩⟩
      · rw [q] at h4
        omega
      · rw [q] at hne
        exact hne h3
      · unfold zpos
        rw [h3]
        omega
  · rintro ⟨-, (⟨h, -⟩ | ⟨-, (⟨h1, h2⟩ | ⟨h1, h2, h3⟩ | ⟨h1, h2, h3, h4, h5, h6⟩)⟩)⟩
    · omega
    · exact Or.inl ⟨h1, h2⟩
    · exact Or.inr (Or.inl ⟨h1, (z.mp h2).2, h3⟩)
    · refine Or.inr (Or.inr ⟨h3, h4, h5.symm, ?_⟩)
      unfold zpos at h6
      rw [← h5] at h6
      omega
theorem zlead_sel {w : Nat → Nat} {ed x y : Nat} (hy : 12 * ed ≤ y) : ¬ zlead w ed x y := fun h => by have := h.1; omega
