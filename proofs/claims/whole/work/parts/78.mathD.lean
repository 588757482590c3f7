/-! THE LOWEST RUN: by search, and by counting up -/
theorem zfs_no {F : Nat → Option (List Nat)} : ∀ {n : Nat}, (List.range n).findSome? F = none → ∀ k, k < n → F k = none
  | 0, _ => fun k hk => absurd hk (Nat.not_lt_zero _)
  | n + 1, h => by
    rw [List.range_succ, List.findSome?_append] at h
    intro k hk
    cases e : (List.range n).findSome? F with
    | none =>
      rw [e] at h
      by_cases q : k = n
      · subst q
        cases f : F k with
        | none => rfl
        | some L => simp [f] at h
      · exact zfs_no e k (by omega)
    | some L => rw [e] at h; simp at h
theorem zfs_so {F : Nat → Option (List Nat)} {L : List Nat} : ∀ {n : Nat}, (List.range n).findSome? F = some L → ∃ k, k < n ∧ F k = some L ∧ ∀ j, j < k → F j = none
  | 0, h => by simp at h
  | n + 1, h => by
    rw [List.range_succ, List.findSome?_append] at h
    cases e : (List.range n).findSome? F with
    | none =>
      rw [e] at h
      refine ⟨n, Nat.lt_succ_self n, ?_, fun j hj => zfs_no e j hj⟩
      cases f : F n with
      | none => simp [f] at h
      | some M => simp [f] at h; rw [h]
    | some M =>
      rw [e] at h
      have e2 : M = L := by simpa using h
      subst e2
      obtain ⟨k, h1, h2, h3⟩ := zfs_so e
      exact ⟨k, by omega, h2, h3⟩
/-- the choices ch lead in n steps from head h, state u, tape T to ACCEPT -/
def zag (q r t : Nat) (rl : Nat → Nat → Nat) : Nat → Nat → Nat → (Nat → Nat) → (Nat → Nat) → Prop
  | 0, _, u, _, _ => u = q - 1
  | n + 1, h, u, T, ch => zcan q r t rl h u T (ch 0) ∧ zag q r t rl n (znh r rl h (ch 0)) (znu r rl u (ch 0)) (znt r rl h T (ch 0)) (fun j => ch (j + 1))
theorem zcg_sh {r : Nat} {rl : Nat → Nat → Nat} {h u : Nat} {T ch : Nat → Nat} : ∀ j, zcg r rl h u T ch (j + 1) = zcg r rl (znh r rl h (ch 0)) (znu r rl u (ch 0)) (znt r rl h T (ch 0)) (fun j => ch (j + 1)) j
  | 0 => rfl
  | j + 1 => by rw [zcg, zcg_sh j]; rfl
theorem zag_cg {q r t : Nat} {rl : Nat → Nat → Nat} : ∀ (n h u : Nat) (T ch : Nat → Nat), zag q r t rl n h u T ch ↔ (∀ j, j < n → zcan q r t rl (zcg r rl h u T ch j).1 (zcg r rl h u T ch j).2.1 (zcg r rl h u T ch j).2.2 (ch j)) ∧ (zcg r rl h u T ch n).2.1 = q - 1
  | 0, h, u, T, ch => ⟨fun q => ⟨fun j hj => absurd hj (Nat.not_lt_zero _), q⟩, fun q => q.2⟩
  | n + 1, h, u, T, ch => by
    rw [zag, zag_cg n, zcg_sh n]
    constructor
    · rintro ⟨a, b, c⟩
      refine ⟨fun j hj => ?_, c⟩
      cases j with
      | zero => exact a
      | succ j =>
        have := b j (by omega)
        rw [zcg_sh j]
        exact this
    · rintro ⟨a, c⟩
      refine ⟨a 0 (by omega), fun j hj => ?_, c⟩
      have := a (j + 1) (by omega)
      rw [zcg_sh j] at this
      exact this
theorem zcf_cg {r : Nat} {rl : Nat → Nat → Nat} {tp ch : Nat → Nat} : ∀ i, zcf r rl tp ch i = zcg r rl 0 0 tp ch i
  | 0 => rfl
  | i + 1 => by rw [zcf, zcg, zcf_cg i]
theorem zacc_ag {q r t : Nat} {rl : Nat → Nat → Nat} {tp ch : Nat → Nat} : zacc q r t rl tp ch ↔ zag q r t rl t 0 0 tp ch := by
  rw [zag_cg]
  unfold zacc zok
  simp only [zcf_cg]
theorem zval_hd {r : Nat} {ch : Nat → Nat} : ∀ n, zval r ch (n + 1) = ch 0 * (r + 1) ^ n + zval r (fun j => ch (j + 1)) n
  | 0 => by simp [zval]
  | n + 1 => by
    rw [zval, zval_hd n, zval, Nat.add_mul, Nat.pow_succ, Nat.mul_assoc, Nat.add_assoc]
theorem zsr_no {q r t : Nat} {rl : Nat → Nat → Nat} : ∀ {n h u : Nat} {T : Nat → Nat}, zsr q r t rl n h u T = none → ∀ ch, (∀ i, i < n → ch i ≤ r) → ¬ zag q r t rl n h u T ch
  | 0, h, u, T, hs => fun ch _ ha => by
    have ha : u = q - 1 := ha
    unfold zsr at hs
    rw [if_pos ha] at hs
    cases hs
  | n + 1, h, u, T, hs => fun ch hd ha => by
    obtain ⟨a, b⟩ := ha
    have f := zfs_no (F := zsrF q r t rl n h u T) hs (ch 0) (by have := hd 0 (by omega); omega)
    cases e : zsr q r t rl n (znh r rl h (ch 0)) (znu r rl u (ch 0)) (znt r rl h T (ch 0)) with
    | none => exact zsr_no e _ (fun i hi => hd (i + 1) (by omega)) b
    | some L =>
      rw [zsrF_so a e] at f
      cases f
theorem zsr_so {q r t : Nat} {rl : Nat → Nat → Nat} : ∀ {n h u : Nat} {T : Nat → Nat} {L : List Nat}, zsr q r t rl n h u T = some L → (∀ j, j < n → L.getD j 0 ≤ r) ∧ zag q r t rl n h u T (fun j => L.getD j 0) ∧ ∀ ch, (∀ i, i < n → ch i ≤ r) → zag q r t rl n h u T ch → zval r (fun j => L.getD j 0) n ≤ zval r ch n
  | 0, h, u, T, L, hs => by
    unfold zsr at hs
    by_cases e : u = q - 1
    · exact ⟨fun j hj => absurd hj (Nat.not_lt_zero _), e, fun _ _ _ => Nat.le_refl _⟩
    · rw [if_neg e] at hs
      cases hs
  | n + 1, h, u, T, L, hs => by
    obtain ⟨k, hk, hF, hlo⟩ := zfs_so (F := zsrF q r t rl n h u T) hs
    by_cases c : zcan q r t rl h u T k
    · cases e : zsr q r t rl n (znh r rl h k) (znu r rl u k) (znt r rl h T k) with
      | none =>
        rw [zsrF_nn c e] at hF
        cases hF
      | some M =>
        rw [zsrF_so c e] at hF
        have eL : L = k :: M := (Option.some.inj hF).symm
        subst eL
        obtain ⟨d1, d2, d3⟩ := zsr_so e
        refine ⟨fun j hj => ?_, ⟨c, d2⟩, fun ch hd ha => ?_⟩
        · cases j with
          | zero => show k ≤ r; omega
          | succ j => exact d1 j (by omega)
        · obtain ⟨a, b⟩ := ha
          rw [zval_hd, zval_hd]
          show k * (r + 1) ^ n + zval r (fun j => M.getD j 0) n ≤ _
          rcases Nat.lt_trichotomy (ch 0) k with qq | qq | qq
          · have f := hlo (ch 0) qq
            cases e2 : zsr q r t rl n (znh r rl h (ch 0)) (znu r rl u (ch 0)) (znt r rl h T (ch 0)) with
            | none => exact absurd b (zsr_no e2 _ (fun i hi => hd (i + 1) (by omega)))
            | some N =>
              rw [zsrF_so a e2] at f
              cases f
          · rw [qq] at b ⊢
            have := d3 _ (fun i hi => hd (i + 1) (by omega)) b
            omega
          · have m := zval_lt (r := r) (t := n) d1
            have p := Nat.mul_le_mul_right ((r + 1) ^ n) (show k + 1 ≤ ch 0 from qq)
            rw [Nat.add_mul] at p
            omega
    · rw [zsrF_no c] at hF
      cases hF
/-- both searches find the same -/
theorem zsr_ref {q r t : Nat} {rl : Nat → Nat → Nat} {tp ch : Nat → Nat} {L : List Nat} (hs : zsr q r t rl t 0 0 tp = some L) (hd : ∀ i, i < t → ch i ≤ r) (ha : zacc q r t rl tp ch) (hl : zlow q r t rl tp (zval r ch t)) : ∀ i, i < t → L.getD i 0 = ch i := by
  obtain ⟨d1, d2, d3⟩ := zsr_so hs
  have a := d3 ch hd (zacc_ag.mp ha)
  have b : ¬ zval r (fun j => L.getD j 0) t < zval r ch t := fun q => hl _ d1 q (zacc_ag.mpr d2)
  exact zval_inj (ch := fun j => L.getD j 0) d1 hd (by omega)
/-! A TRIP TURNED: places against the row -/
theorem zmd {n x : Nat} (h : x < 2 * n) : x % n = if x < n then x else x - n := by
  by_cases c : x < n
  · rw [if_pos c, Nat.mod_eq_of_lt c]
  · rw [if_neg c, show x = (x - n) + n by omega, Nat.add_mod_right, Nat.mod_eq_of_lt (by omega)]
    omega
theorem zix_inj {n fi dir i j : Nat} (hf : fi < n) (hi : i < n) (hj : j < n) (e : zix n fi dir i = zix n fi dir j) : i = j := by
  unfold zix at e
  by_cases d : dir = 0
  · rw [if_pos d, if_pos d, zmd (by omega), zmd (by omega)] at e
    split at e <;> split at e <;> omega
  · rw [if_neg d, if_neg d] at e
    by_cases a : fi + n - i < 2 * n
    · by_cases b : fi + n - j < 2 * n
      · rw [zmd a, zmd b] at e
        split at e <;> split at e <;> omega
      · omega
    · omega
theorem zix_turn {n fi dir m i : Nat} (hd : dir = 0 ∨ dir = 1) (hf : fi < n) (hm : m < n) (hi : i < n) : zix n (zix n fi dir m) dir i = zix n fi dir ((m + i) % n) := by
  rcases hd with rfl | rfl
  · unfold zix
    simp only [if_true]
    rw [zmd (x := fi + m) (by omega), zmd (x := m + i) (by omega)]
    split <;> split
    · congr 1; omega
    · rw [zmd (by omega), zmd (by omega)]
      split <;> split <;> omega
    · rw [zmd (by omega), zmd (by omega)]
      split <;> split <;> omega
    · rw [zmd (by omega), zmd (by omega)]
      split <;> split <;> omega
  · unfold zix
    simp only [show ¬ (1 : Nat) = 0 by decide, if_false]
    rw [zmd (x := fi + n - m) (by omega), zmd (x := m + i) (by omega)]
    split <;> split
    · rw [zmd (by omega), zmd (by omega)]
      split <;> split <;> omega
    · rw [zmd (by omega), zmd (by omega)]
      split <;> split <;> omega
    · rw [zmd (by omega), zmd (by omega)]
      split <;> split <;> omega
    · rw [zmd (by omega), zmd (by omega)]
      split <;> split <;> omega
theorem zix_rev {n fi dir i : Nat} (hd : dir = 0 ∨ dir = 1) (hf : fi < n) (hi : i < n) : zix n (zix n fi dir (n - 1)) (1 - dir) i = zix n fi dir (n - 1 - i) := by
  rcases hd with rfl | rfl
  · unfold zix
    simp only [if_true, show ¬ 1 - 0 = 0 by decide, if_false]
    rw [zmd (x := fi + (n - 1)) (by omega), zmd (x := fi + (n - 1 - i)) (by omega)]
    split <;> split
    · rw [zmd (by omega)]
      split <;> omega
    · rw [zmd (by omega)]
      split <;> omega
    · rw [zmd (by omega)]
      split <;> omega
    · rw [zmd (by omega)]
      split <;> omega
  · unfold zix
    simp only [show ¬ (1 : Nat) = 0 by decide, if_false, show 1 - 1 = 0 by decide, if_true]
    rw [zmd (x := fi + n - (n - 1)) (by omega), zmd (x := fi + n - (n - 1 - i)) (by omega)]
    split <;> split
    · rw [zmd (by omega)]
      split <;> omega
    · rw [zmd (by omega)]
      split <;> omega
    · rw [zmd (by omega)]
      split <;> omega
    · rw [zmd (by omega)]
      split <;> omega
theorem zix_sur {n fi dir : Nat} (hf : fi < n) : ∀ y, y < n → ∃ i, i < n ∧ zix n fi dir i = y :=
  zpig n (zix n fi dir) (fun i _ => zix_lt (by omega)) (fun i j h1 h2 e => by have := zix_inj hf (by omega) h2 e; omega)
theorem zonce_ix {n fi dir : Nat} {rr : Nat → Nat} (hf : fi < n) : zonce (fun i => rr (zix n fi dir i)) n ↔ zonce rr n := by
  have l : ∀ i, zix n fi dir i < n := fun i => zix_lt (by omega)
  constructor
  · intro h i j h1 h2 e
    obtain ⟨a, a1, a2⟩ := zix_sur (dir := dir) hf i (by omega)
    obtain ⟨b, b1, b2⟩ := zix_sur (dir := dir) hf j h2
    have := zonce_inj h a1 b1 (show rr (zix n fi dir a) = rr (zix n fi dir b) by rw [a2, b2]; exact e)
    subst this
    omega
  · intro h i j h1 h2 e
    have := zonce_inj h (l i) (l j) e
    have := zix_inj hf (by omega) h2 this
    omega
theorem zdist_comm (w : Nat → Nat) (ed x y : Nat) : zdist w ed x y = zdist w ed y x := by
  by_cases e : x = y
  · rw [e]
  · have e' : ¬ y = x := fun q => e q.symm
    by_cases c : zlead w ed x y ∨ zlead w ed y x
    · rw [zdist_1 e c, zdist_1 e' c.symm]
    · rw [zdist_2 e c, zdist_2 e' (fun q => c q.symm)]
theorem zsum_cg' {f g : Nat → Nat} : ∀ {k : Nat}, (∀ i, i < k → f i = g i) → zsum f k = zsum g k
  | 0, _ => rfl
  | k + 1, h => by rw [zsum, zsum, zsum_cg' (fun i hi => h i (by omega)), h k (by omega)]
theorem zsum_h (f : Nat → Nat) : ∀ n, zsum f (n + 1) = f 0 + zsum (fun i => f (i + 1)) n
  | 0 => by simp [zsum]
  | n + 1 => by rw [zsum, zsum_h f n, zsum]; omega
theorem zsum_r1 {f : Nat → Nat} {n : Nat} (hn : 0 < n) : zsum (fun i => f ((i + 1) % n)) n = zsum f n := by
  obtain ⟨m, rfl⟩ : ∃ m, n = m + 1 := ⟨n - 1, by omega⟩
  rw [zsum, zsum_h f m, Nat.mod_self, zsum_cg' (g := fun i => f (i + 1)) (fun i hi => by show f ((i + 1) % (m + 1)) = _; rw [Nat.mod_eq_of_lt (by omega)])]
  omega
theorem zsum_rot {f : Nat → Nat} {n : Nat} (hn : 0 < n) : ∀ a, zsum (fun i => f ((a + i) % n)) n = zsum f n
  | 0 => zsum_cg' (fun i hi => by show f ((0 + i) % n) = _; rw [Nat.zero_add, Nat.mod_eq_of_lt hi])
  | a + 1 => by
    have h := zsum_r1 (f := fun i => f ((a + i) % n)) hn
    refine Eq.trans ?_ (h.trans (zsum_rot hn a))
    refine zsum_cg' (fun i hi => ?_)
    show f ((a + 1 + i) % n) = f ((a + (i + 1) % n) % n)
    rw [Nat.add_mod_mod]
    congr 2
    omega
theorem zsum_rv (f : Nat → Nat) : ∀ n, zsum (fun i => f (n - 1 - i)) n = zsum f n
  | 0 => rfl
  | n + 1 => by
    rw [zsum_h, zsum]
    show f (n + 1 - 1 - 0) + zsum (fun i => f (n + 1 - 1 - (i + 1))) n = _
    rw [zsum_cg' (g := fun i => f (n - 1 - i)) (fun i hi => by show f _ = f _; congr 1; omega), zsum_rv f n, show n + 1 - 1 - 0 = n by omega]
    omega
theorem ztot_ix {w : Nat → Nat} {ed n fi dir : Nat} {rr : Nat → Nat} (hd : dir = 0 ∨ dir = 1) (hf : fi < n) : ztot w ed (fun i => rr (zix n fi dir i)) n = ztot w ed rr n := by
  have hn : 0 < n := by omega
  rw [← zsum_tot hn, ← zsum_tot hn]
  rcases hd with rfl | rfl
  · rw [← zsum_rot (f := fun i => zdist w ed (rr i) (rr ((i + 1) % n))) hn fi]
    refine zsum_cg' (fun i hi => ?_)
    show zdist w ed (rr ((fi + i) % n)) (rr ((fi + (i + 1) % n) % n)) = zdist w ed (rr ((fi + i) % n)) (rr (((fi + i) % n + 1) % n))
    rw [Nat.add_mod_mod, Nat.mod_add_mod, Nat.add_assoc]
  · rw [← zsum_rot (f := fun i => zdist w ed (rr i) (rr ((i + 1) % n))) hn fi]
    refine Eq.trans ?_ (zsum_rv (fun i => zdist w ed (rr ((fi + i) % n)) (rr (((fi + i) % n + 1) % n))) n)
    refine zsum_cg' (fun i hi => ?_)
    show zdist w ed (rr (zix n fi 1 i)) (rr (zix n fi 1 ((i + 1) % n))) = zdist w ed (rr ((fi + (n - 1 - i)) % n)) (rr (((fi + (n - 1 - i)) % n + 1) % n))
    rw [zdist_comm]
    have e1 : zix n fi 1 ((i + 1) % n) = (fi + (n - 1 - i)) % n := by
      unfold zix
      simp only [show ¬ (1 : Nat) = 0 by decide, if_false]
      rw [zmd (x := i + 1) (by omega)]
      split
      · congr 1; omega
      · rw [show fi + n - (i + 1 - n) = fi + (n - 1 - i) + n by omega, Nat.add_mod_right]
    have e2 : zix n fi 1 i = ((fi + (n - 1 - i)) % n + 1) % n := by
      unfold zix
      simp only [show ¬ (1 : Nat) = 0 by decide, if_false]
      rw [Nat.mod_add_mod]
      congr 1; omega
    rw [e1, e2]
