/-! what the laid trip holds; choices that agree; comparing two longs -/
theorem zflat_cg {f g : Nat → List Nat} : ∀ n, (∀ i, i < n → f i = g i) → (List.range n).flatMap f = (List.range n).flatMap g
  | 0, _ => rfl
  | n + 1, h => by
    rw [zrng_succ, zrng_succ, zflat_cg n (fun i hi => h i (by omega)), h n (by omega)]
theorem zcf_le {r t : Nat} {rl : Nat → Nat → Nat} {tp ch ch' : Nat → Nat} (h : ∀ i, i < t → ch i = ch' i) {i : Nat} (hi : i ≤ t) : zcf r rl tp ch i = zcf r rl tp ch' i := zcf_eq (fun j hj => h j (by omega))
theorem zmarks_cg {t g q r : Nat} {rl : Nat → Nat → Nat} {tp ch ch' : Nat → Nat} (h : ∀ i, i < t → ch i = ch' i) : zmarks t g q r (zcf r rl tp ch) ch = zmarks t g q r (zcf r rl tp ch') ch' := by
  have k1 : ∀ i, i < t + 1 → zmkR t g q (zcf r rl tp ch) i = zmkR t g q (zcf r rl tp ch') i := by
    intro i hi
    have e : zcf r rl tp ch i = zcf r rl tp ch' i := zcf_le h (by omega)
    have e2 : zmkC t g (zcf r rl tp ch) i = zmkC t g (zcf r rl tp ch') i := by
      funext y
      unfold zmkC
      rw [e]
    unfold zmkR
    rw [e, e2]
  have k2 : ∀ i, i < t → zmkK t g q r ch i = zmkK t g q r ch' i := by
    intro i hi
    unfold zmkK
    rw [h i hi]
  unfold zmarks
  rw [zflat_cg (t + 1) k1, zflat_cg t k2]
theorem zacc_cg {q r t : Nat} {rl : Nat → Nat → Nat} {tp ch ch' : Nat → Nat} (h : ∀ i, i < t → ch i = ch' i) (ha : zacc q r t rl tp ch) : zacc q r t rl tp ch' := by
  obtain ⟨a, b⟩ := ha
  refine ⟨fun j hj => ?_, ?_⟩
  · rw [← zcf_le h (Nat.le_of_lt hj), ← h j hj]
    exact a j hj
  · rw [← zcf_le h (Nat.le_refl t)]
    exact b
theorem zrun_mem {x n c : Nat} (h : c ∈ zrun x n) : x ≤ c ∧ c < x + n := by
  unfold zrun at h
  obtain ⟨i, hi, rfl⟩ := List.mem_map.mp h
  have := List.mem_range.mp hi
  omega
theorem zlay1_lt {w cov : Nat → Nat} {ed d c : Nat} (hd : d < 2 * ed) (h : c ∈ zlay1 w cov d) : c < 12 * ed := by
  have e := zx1_lt hd
  unfold zlay1 at h
  rcases List.mem_append.mp h with h | h
  · have := zrun_mem h
    omega
  · rcases List.mem_append.mp h with h | h
    · split at h
      · have := zrun_mem h
        omega
      · exact absurd h (List.not_mem_nil)
    · have := zrun_mem h
      omega
theorem zlayT_lt {w cov : Nat → Nat} {ed : Nat} : ∀ k, ∀ c, c ∈ zlayT w cov ed k → c < 12 * ed + zc (zcv1 cov) k
  | 0, c, h => absurd h (List.not_mem_nil)
  | k + 1, c, h => by
    rw [zlayT_S] at h
    rcases List.mem_append.mp h with h | h
    · have q := zlayT_lt k c h
      have : zc (zcv1 cov) k ≤ zc (zcv1 cov) (k + 1) := by
        show _ ≤ zc (zcv1 cov) k + _
        omega
      omega
    · unfold zlayU at h
      split at h
      · next hc =>
        have e : zc (zcv1 cov) (k + 1) = zc (zcv1 cov) k + 1 := by simp [zc, zcv1, hc]
        rcases List.mem_append.mp h with h | h
        · rw [List.mem_singleton] at h
          omega
        · unfold zlayV zlayK at h
          obtain ⟨i, hi, h⟩ := List.mem_flatMap.mp h
          have q := zlay1_lt (zsl_at w k (2 * ed) i (List.mem_range.mp hi)).1 h
          omega
      · exact absurd h (List.not_mem_nil)
/-- FORWARD from choices that accept: the trip has just the cities, each below their count -/
theorem zfw_lay {t g q r : Nat} {rl : Nat → Nat → Nat} {tp ch : Nat → Nat} {Cs : List (List Nat)} {L3 : List Nat} {n3 va ve ed se ci : Nat} (hmk : zMok t g q r rl tp) (eCs : Cs = zallC t g q r (zfh t g) (zfs t g) (zfk t g q) rl tp) (eL3 : L3 = zthL (zpv t g q r) Cs) (hL3 : L3.length = 3 * n3) (eva : va = zthV (zpv t g q r) Cs) (eve : ve = 2 * va + 3 * n3) (eed : ed = va + 6 * n3) (ese : se = va + 2 * n3) (eci : ci = 12 * ed + se) (hd : ∀ i, i < t → ch i ≤ r) (ha : zacc q r t rl tp ch) :
    (zlayT (zva va L3) (zcov (zbb (zmk (zmarks t g q r (zcf r rl tp ch) ch)) (zpv t g q r) Cs) va L3) ed ve).length = ci ∧ zc (zcv1 (zcov (zbb (zmk (zmarks t g q r (zcf r rl tp ch) ch)) (zpv t g q r) Cs) va L3)) ve = se ∧ ∀ i, i < ci → (zlayT (zva va L3) (zcov (zbb (zmk (zmarks t g q r (zcf r rl tp ch) ch)) (zpv t g q r) Cs) va L3) ed ve).getD i 0 < ci := by
  obtain ⟨-, -, -, -, -, -, -, -, -, dL, -, -⟩ := zder_of hmk eCs eL3 hL3 eva
  have hb := zmk_le (zmarks t g q r (zcf r rl tp ch) ch)
  have hbb := zbb_le hb (zpv t g q r) Cs
  have hs := (zsat_all hb).mpr (zrun_fw hmk hd ha)
  rw [← eCs] at hs
  have hk := zMok_ok hmk
  rw [← eCs] at hk
  have h3 := z3_bb hb hbb hk hs
  rw [← eL3] at h3
  have h3' : ∀ j, j < n3 → ∃ i, i < 3 ∧ ztv (zbb (zmk (zmarks t g q r (zcf r rl tp ch) ch)) (zpv t g q r) Cs) (L3.getD (3 * j + i) 0) = 1 := fun j hj => h3 j (by omega)
  have a := zlay_all hbb dL h3'
  have b := zcov_cnt (va := va) hbb h3'
  subst eve eed ese eci
  refine ⟨a, b, fun i hi => ?_⟩
  refine zgetD_lt (fun c hc => ?_) (by omega) i
  have q := zlayT_lt _ _ hc
  rw [b] at q
  exact q
theorem zix_00 {n i : Nat} (h : i < n) : zix n 0 0 i = i := by
  unfold zix
  rw [if_pos rfl, Nat.zero_add, Nat.mod_eq_of_lt h]
theorem zcmpE {x y : Int64} (h : x = y) : lg_cmp x y = nI 0 := by
  subst h
  unfold lg_cmp
  rw [if_neg (show ¬ x > x from Int64.lt_irrefl), if_pos rfl]
  rfl
