/-! HOW MANY: clauses, literals, threes, new variables of a machine, from above. F says what a clause of that many literals counts -/
def zSm (F : Nat → Nat) (Cs : List (List Nat)) : Nat := (Cs.map (fun cl => F cl.length)).sum
theorem zSm_app (F : Nat → Nat) (A B : List (List Nat)) : zSm F (A ++ B) = zSm F A + zSm F B := by simp [zSm]
theorem zSm_nil (F : Nat → Nat) : zSm F [] = 0 := rfl
theorem zSm_cons (F : Nat → Nat) (cl : List Nat) (Cs : List (List Nat)) : zSm F (cl :: Cs) = F cl.length + zSm F Cs := by simp [zSm]
theorem zSm_flat {F : Nat → Nat} {g : Nat → List (List Nat)} {b : Nat} : ∀ n, (∀ i, i < n → zSm F (g i) ≤ b) → zSm F ((List.range n).flatMap g) ≤ n * b
  | 0, _ => by simp [zSm]
  | n + 1, h => by
    have e := zSm_flat n (fun i hi => h i (by omega))
    have q := h n (by omega)
    rw [zrng_succ, zSm_app, Nat.succ_mul]
    omega
theorem zSm_map {F : Nat → Nat} {f : Nat → List Nat} {b : Nat} : ∀ n, (∀ i, i < n → F (f i).length ≤ b) → zSm F ((List.range n).map f) ≤ n * b
  | 0, _ => by simp [zSm]
  | n + 1, h => by
    have e := zSm_map n (fun i hi => h i (by omega))
    have q := h n (by omega)
    rw [zmap_succ, zSm_app, Nat.succ_mul, zSm_cons, zSm_nil]
    omega
theorem zSm_len : ∀ Cs, zSm (fun _ => 1) Cs = Cs.length
  | [] => rfl
  | cl :: Cs => by rw [zSm_cons, zSm_len Cs, List.length_cons]; omega
theorem zSm_flatten : ∀ Cs, zSm (fun n => n) Cs = Cs.flatten.length
  | [] => rfl
  | cl :: Cs => by rw [zSm_cons, zSm_flatten Cs, List.flatten_cons, List.length_append]
theorem zSm_just (F : Nat → Nat) (first n : Nat) (h : n = 2 ∨ n = 3 ∨ n = 4) : zSm F (zjust first n) ≤ F n + 6 * F 2 ∧ (n = 2 → zSm F (zjust first n) ≤ F 2 + F 2) ∧ (n = 3 → zSm F (zjust first n) ≤ F 3 + 3 * F 2) := by
  rcases h with rfl | rfl | rfl
  · have e : zSm F (zjust first 2) = F 2 + F 2 := by
      show zSm F ([zsome first 2] ++ [zpair first 0 0]) = _
      simp [zSm, zsome, zpair]
    rw [e]
    exact ⟨by omega, fun _ => Nat.le_refl _, fun q => by omega⟩
  · have e : zSm F (zjust first 3) = F 3 + 3 * F 2 := by
      show zSm F ([zsome first 3] ++ [zpair first 0 0, zpair first 0 1, zpair first 1 0]) = _
      simp [zSm, zsome, zpair]
      omega
    rw [e]
    exact ⟨by omega, fun q => by omega, fun _ => Nat.le_refl _⟩
  · have e : zSm F (zjust first 4) = F 4 + 6 * F 2 := by
      show zSm F ([zsome first 4] ++ [zpair first 0 0, zpair first 0 1, zpair first 0 2, zpair first 1 0, zpair first 1 1, zpair first 2 0]) = _
      simp [zSm, zsome, zpair]
      omega
    rw [e]
    exact ⟨Nat.le_refl _, fun q => by omega, fun q => by omega⟩
/-- what 'one of n' counts -/
def zJ (F : Nat → Nat) (n : Nat) : Nat := if n = 2 then F 2 + F 2 else if n = 3 then F 3 + 3 * F 2 else F 4 + 6 * F 2
theorem zSm_J (F : Nat → Nat) (first n : Nat) (h : n = 2 ∨ n = 3 ∨ n = 4) : zSm F (zjust first n) ≤ zJ F n := by
  obtain ⟨a, b, d⟩ := zSm_just F first n h
  rcases h with rfl | rfl | rfl
  · exact b rfl
  · exact d rfl
  · exact a
def zNr (F : Nat → Nat) (t g q : Nat) : Nat := (t + 1) * ((t + 1) * zJ F g) + ((t + 1) * zJ F (t + 1) + (t + 1) * zJ F q)
theorem zSm_rows (F : Nat → Nat) {t g q : Nat} (fh fs : Nat) (ht : 1 ≤ t ∧ t ≤ 3) (hg : g = 2 ∨ g = 3) (hq : q = 2 ∨ q = 3) : zSm F (zrowsC t g q fh fs) ≤ zNr F t g q := by
  unfold zrowsC zNr
  rw [zSm_app, zSm_app]
  have a := zSm_flat (F := F) (g := zr1 t g) (t + 1) (fun i _ => zSm_flat (t + 1) (fun y _ => zSm_J F (zcv t g i y 0) g (by omega)))
  have b := zSm_flat (F := F) (g := zr2 fh t) (t + 1) (fun i _ => zSm_J F (zhv fh t i 0) (t + 1) (by omega))
  have d := zSm_flat (F := F) (g := zr3 fs q) (t + 1) (fun i _ => zSm_J F (zsv fs q i 0) q (by omega))
  omega
theorem zSm_ends (F : Nat → Nat) (t g q fh fs : Nat) (tp : Nat → Nat) : zSm F (zendsC t g q fh fs tp) ≤ (t + 1) * F 1 + 3 * F 1 := by
  unfold zendsC
  rw [zSm_app]
  have a := zSm_flat (F := F) (g := ze1 t g tp) (b := F 1) (t + 1) (fun y _ => by simp [ze1, zSm])
  simp only [zSm_cons, zSm_nil, List.length_cons, List.length_nil, Nat.zero_add, Nat.reduceAdd]
  omega
theorem zSm_rule (F : Nat → Nat) (h23 : F 2 ≤ F 3) (t g q fh fs : Nat) (rl : Nat → Nat → Nat) (n i k : Nat) : zSm F (zrule t g q fh fs rl n i k) ≤ 2 * F 2 + (t + 1) * (3 * F 3) := by
  unfold zrule
  rw [zSm_app]
  have a := zSm_flat (F := F) (g := zru1 t g fh rl n i k) (b := 3 * F 3) (t + 1) (fun y _ => by
    unfold zru1 zru3
    simp only [zSm_cons, zSm_nil, List.length_cons, List.length_nil, Nat.zero_add, Nat.reduceAdd]
    split <;> simp only [List.length_cons, List.length_nil, Nat.zero_add, Nat.reduceAdd] <;> omega)
  simp only [zSm_cons, zSm_nil, List.length_cons, List.length_nil, Nat.zero_add, Nat.reduceAdd]
  omega
theorem zSm_rest (F : Nat → Nat) (t g q fh fs n i : Nat) : zSm F (zrest t g q fh fs n i) ≤ 2 * F 2 + (t + 1) * (F 3 + g * F 4) := by
  unfold zrest
  rw [zSm_app]
  have a := zSm_flat (F := F) (g := zre1 t g fh n i) (b := F 3 + g * F 4) (t + 1) (fun y _ => by
    unfold zre1
    rw [zSm_app]
    have e := zSm_map (F := F) (f := zre2 t g fh n i y) (b := F 4) g (fun a _ => Nat.le_refl _)
    simp only [zSm_cons, zSm_nil, List.length_cons, List.length_nil, Nat.zero_add, Nat.reduceAdd]
    omega)
  simp only [zSm_cons, zSm_nil, List.length_cons, List.length_nil, Nat.zero_add, Nat.reduceAdd]
  omega
def zNs (F : Nat → Nat) (t g r : Nat) : Nat := F (r + 1) + (r * (2 * F 2 + (t + 1) * (3 * F 3)) + ((2 * F 2 + (t + 1) * (F 3 + g * F 4)) + (t + 1) * (g * F 3)))
theorem zSm_step (F : Nat → Nat) (h23 : F 2 ≤ F 3) (t g q r fh fs fk : Nat) (rl : Nat → Nat → Nat) (i : Nat) : zSm F (zstepC t g q r fh fs fk rl i) ≤ zNs F t g r := by
  unfold zstepC zNs
  rw [zSm_app, zSm_app, zSm_app]
  have a := zSm_flat (F := F) (g := zrules t g q r fh fs fk rl i) r (fun k _ => zSm_rule F h23 t g q fh fs rl _ i k)
  have b := zSm_rest F t g q fh fs (2 * zkv fk r i r + 1) i
  have d := zSm_flat (F := F) (g := zla1 t g fh i) (b := g * F 3) (t + 1) (fun y _ => zSm_map g (fun a _ => Nat.le_refl _))
  have e : zSm F [zsome (zkv fk r i 0) (r + 1)] = F (r + 1) := by simp [zSm, zsome]
  omega
theorem zSm_all (F : Nat → Nat) (h23 : F 2 ≤ F 3) {t g q : Nat} (r fh fs fk : Nat) (rl : Nat → Nat → Nat) (tp : Nat → Nat) (ht : 1 ≤ t ∧ t ≤ 3) (hg : g = 2 ∨ g = 3) (hq : q = 2 ∨ q = 3) : zSm F (zallC t g q r fh fs fk rl tp) ≤ zNr F t g q + (((t + 1) * F 1 + 3 * F 1) + t * zNs F t g r) := by
  unfold zallC
  rw [zSm_app, zSm_app]
  have a := zSm_rows F fh fs ht hg hq
  have b := zSm_ends F t g q fh fs tp
  have d := zSm_flat (F := F) (g := zstepC t g q r fh fs fk rl) t (fun i _ => zSm_step F h23 t g q r fh fs fk rl i)
  omega
set_option maxRecDepth 100000 in
set_option maxHeartbeats 4000000 in
/-- the numbers of the largest machine are bounds for all -/
theorem zall_bounds {t g q r : Nat} (fh fs fk : Nat) (rl : Nat → Nat → Nat) (tp : Nat → Nat) (ht : 1 ≤ t ∧ t ≤ 3) (hg : g = 2 ∨ g = 3) (hq : q = 2 ∨ q = 3) (hr : r ≤ 8) :
    (zallC t g q r fh fs fk rl tp).flatten.length ≤ 1800 ∧ (zallC t g q r fh fs fk rl tp).length ≤ 544 ∧ zSm (fun n => if n ≤ 3 then 1 else n - 2) (zallC t g q r fh fs fk rl tp) ≤ 602 ∧ zSm (fun n => n - 3) (zallC t g q r fh fs fk rl tp) ≤ 58 := by
  have a := zSm_all (fun n => n) (by decide) r fh fs fk rl tp ht hg hq
  have b := zSm_all (fun _ => 1) (by decide) r fh fs fk rl tp ht hg hq
  have d := zSm_all (fun n => if n ≤ 3 then 1 else n - 2) (by decide) r fh fs fk rl tp ht hg hq
  have e := zSm_all (fun n => n - 3) (by decide) r fh fs fk rl tp ht hg hq
  rw [zSm_flatten] at a
  rw [zSm_len] at b
  have hr2 : (if r + 1 ≤ 3 then 1 else r + 1 - 2) ≤ 7 := by split <;> omega
  generalize (zallC t g q r fh fs fk rl tp).flatten.length = x1 at *
  generalize (zallC t g q r fh fs fk rl tp).length = x2 at *
  generalize zSm (fun n => if n ≤ 3 then 1 else n - 2) (zallC t g q r fh fs fk rl tp) = x3 at *
  generalize zSm (fun n => n - 3) (zallC t g q r fh fs fk rl tp) = x4 at *
  rcases ht with ⟨h1, h3⟩
  rcases (show t = 1 ∨ t = 2 ∨ t = 3 by omega) with rfl | rfl | rfl <;> rcases hg with rfl | rfl <;> rcases hq with rfl | rfl <;>
    (generalize hR : (if r + 1 ≤ 3 then 1 else r + 1 - 2) = y at *
     simp only [zNr, zNs, zJ, hR] at a b d e
     simp at a b d e
     refine ⟨by omega, by omega, by omega, by omega⟩)
