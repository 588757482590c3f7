/-! WHAT EVERY CLAUSE IS: one to nine literals, of plain variables -/
def zcok (V : Nat) (cl : List Nat) : Prop := 1 ≤ cl.length ∧ cl.length ≤ 9 ∧ ∀ x ∈ cl, x < 2 * V
def zCok (V : Nat) (Cs : List (List Nat)) : Prop := ∀ cl ∈ Cs, zcok V cl
theorem zCok_app {V : Nat} {A B : List (List Nat)} (a : zCok V A) (b : zCok V B) : zCok V (A ++ B) := fun cl h => (List.mem_append.mp h).elim (a cl) (b cl)
theorem zCok_flat {V : Nat} {g : Nat → List (List Nat)} {n : Nat} (h : ∀ i, i < n → zCok V (g i)) : zCok V ((List.range n).flatMap g) := by
  intro cl hc
  obtain ⟨i, hi, hm⟩ := List.mem_flatMap.mp hc
  exact h i (List.mem_range.mp hi) cl hm
theorem zCok_map {V : Nat} {f : Nat → List Nat} {n : Nat} (h : ∀ i, i < n → zcok V (f i)) : zCok V ((List.range n).map f) := by
  intro cl hc
  obtain ⟨i, hi, rfl⟩ := List.mem_map.mp hc
  exact h i (List.mem_range.mp hi)
theorem zCok_nil (V : Nat) : zCok V [] := fun _ h => absurd h List.not_mem_nil
theorem zCok_cons {V : Nat} {cl : List Nat} {Cs : List (List Nat)} (a : zcok V cl) (b : zCok V Cs) : zCok V (cl :: Cs) := by
  intro d hd
  rcases List.mem_cons.mp hd with rfl | h
  · exact a
  · exact b d h
theorem zcok1 {V a : Nat} (h : a < 2 * V) : zcok V [a] := ⟨by simp, by simp, fun x hx => by rw [List.mem_singleton.mp hx]; exact h⟩
theorem zcok2 {V a b : Nat} (ha : a < 2 * V) (hb : b < 2 * V) : zcok V [a, b] := ⟨by simp, by simp, fun x hx => by
  simp only [List.mem_cons, List.not_mem_nil, or_false] at hx
  rcases hx with rfl | rfl <;> assumption⟩
theorem zcok3 {V a b d : Nat} (ha : a < 2 * V) (hb : b < 2 * V) (hd : d < 2 * V) : zcok V [a, b, d] := ⟨by simp, by simp, fun x hx => by
  simp only [List.mem_cons, List.not_mem_nil, or_false] at hx
  rcases hx with rfl | rfl | rfl <;> assumption⟩
theorem zcok4 {V a b d f : Nat} (ha : a < 2 * V) (hb : b < 2 * V) (hd : d < 2 * V) (hf : f < 2 * V) : zcok V [a, b, d, f] := ⟨by simp, by simp, fun x hx => by
  simp only [List.mem_cons, List.not_mem_nil, or_false] at hx
  rcases hx with rfl | rfl | rfl | rfl <;> assumption⟩
theorem zcok_some {V first n : Nat} (h1 : 1 ≤ n) (h9 : n ≤ 9) (h : first + n ≤ V) : zcok V (zsome first n) := by
  refine ⟨by simpa [zsome] using h1, by simpa [zsome] using h9, fun x hx => ?_⟩
  obtain ⟨i, hi, rfl⟩ := List.mem_map.mp hx
  have := List.mem_range.mp hi
  omega
theorem zCok_just {V first n : Nat} (h1 : 1 ≤ n) (h9 : n ≤ 9) (h : first + n ≤ V) : zCok V (zjust first n) := by
  refine zCok_app (zCok_cons (zcok_some h1 h9 h) (zCok_nil V)) (zCok_flat (fun i hi => zCok_map (fun j hj => zcok2 ?_ ?_)))
  · omega
  · omega
/-- a machine within its bounds: its numbers, its rules, its input -/
def zMok (t g q r : Nat) (rl : Nat → Nat → Nat) (tp : Nat → Nat) : Prop := (1 ≤ t ∧ t ≤ 3) ∧ (g = 2 ∨ g = 3) ∧ (q = 2 ∨ q = 3) ∧ r ≤ 8 ∧ (∀ k, k < r → rl 0 k < q - 1 ∧ rl 1 k < g ∧ rl 2 k < q ∧ rl 3 k < g ∧ rl 4 k ≤ 2) ∧ ∀ y, y ≤ t → tp y < g
theorem zMok_ok {t g q r : Nat} {rl : Nat → Nat → Nat} {tp : Nat → Nat} (h : zMok t g q r rl tp) : zCok (zpv t g q r) (zallC t g q r (zfh t g) (zfs t g) (zfk t g q) rl tp) := by
  obtain ⟨⟨ht1, ht3⟩, hg, hq, hr, hrl, htp⟩ := h
  have l1 := zfs_le t g
  have l2 := zfk_le t g q
  have l3 := zpv_le t g q r
  have cC : ∀ i y a, i ≤ t → y ≤ t → a < g → zcv t g i y a < zpv t g q r := fun i y a h1 h2 h3 => by have := zcv_lt h1 h2 h3; omega
  have cH : ∀ i y, i ≤ t → y ≤ t → zhv (zfh t g) t i y < zpv t g q r := fun i y h1 h2 => by have := zhv_lt (g := g) h1 h2; omega
  have cQ : ∀ i u, i ≤ t → u < q → zsv (zfs t g) q i u < zpv t g q r := fun i u h1 h2 => by have := zsv_lt (t := t) (g := g) h1 h2; omega
  have cK : ∀ i k, i < t → k ≤ r → zkv (zfk t g q) r i k < zpv t g q r := fun i k h1 h2 => zkv_lt h1 h2
  refine zCok_app (zCok_app (zCok_flat fun i hi => zCok_flat fun y hy => ?_) (zCok_app (zCok_flat fun i hi => ?_) (zCok_flat fun i hi => ?_))) (zCok_app (zCok_app (zCok_flat fun y hy => ?_) ?_) (zCok_flat fun i hi => ?_))
  · refine zCok_just (by omega) (by omega) ?_
    have := cC i y (g - 1) (by omega) (by omega) (by omega)
    unfold zcv at *
    omega
  · refine zCok_just (by omega) (by omega) ?_
    have := cH i t (by omega) (by omega)
    unfold zhv at *
    omega
  · refine zCok_just (by omega) (by omega) ?_
    have := cQ i (q - 1) (by omega) (by omega)
    unfold zsv at *
    omega
  · refine zCok_cons (zcok1 ?_) (zCok_nil _)
    have := cC 0 y (tp y) (by omega) (by omega) (htp y (by omega))
    omega
  · have a := cH 0 0 (by omega) (by omega)
    have b := cQ 0 0 (by omega) (by omega)
    have d := cQ t (q - 1) (by omega) (by omega)
    exact zCok_cons (zcok1 (by omega)) (zCok_cons (zcok1 (by omega)) (zCok_cons (zcok1 (by omega)) (zCok_nil _)))
  · refine zCok_app (zCok_cons (zcok_some (by omega) (by omega) ?_) (zCok_nil _)) (zCok_app (zCok_flat fun k hk => ?_) (zCok_app ?_ (zCok_flat fun y hy => zCok_map fun a ha => ?_)))
    · have := cK i r hi (Nat.le_refl _)
      unfold zkv at *
      omega
    · obtain ⟨r0, r1, r2, r3, r4⟩ := hrl k hk
      have n0 := cK i k hi (by omega)
      have a0 := cQ i (rl 0 k) (by omega) (by omega)
      have a2 := cQ (i + 1) (rl 2 k) (by omega) r2
      refine zCok_app (zCok_cons (zcok2 (by omega) (by omega)) (zCok_cons (zcok2 (by omega) (by omega)) (zCok_nil _))) (zCok_flat fun y hy => ?_)
      have b1 := cH i y (by omega) (by omega)
      have b2 := cC i y (rl 1 k) (by omega) (by omega) r1
      have b3 := cC (i + 1) y (rl 3 k) (by omega) (by omega) r3
      refine zCok_cons (zcok3 (by omega) (by omega) (by omega)) (zCok_cons (zcok3 (by omega) (by omega) (by omega)) (zCok_cons ?_ (zCok_nil _)))
      unfold zru3
      split
      · have b4 := cH (i + 1) (y + rl 4 k - 1) (by omega) (by omega)
        exact zcok3 (by omega) (by omega) (by omega)
      · exact zcok2 (by omega) (by omega)
    · have n0 := cK i r hi (Nat.le_refl _)
      have a0 := cQ i (q - 1) (by omega) (by omega)
      have a2 := cQ (i + 1) (q - 1) (by omega) (by omega)
      refine zCok_app (zCok_cons (zcok2 (by omega) (by omega)) (zCok_cons (zcok2 (by omega) (by omega)) (zCok_nil _))) (zCok_flat fun y hy => ?_)
      have b1 := cH i y (by omega) (by omega)
      have b4 := cH (i + 1) y (by omega) (by omega)
      refine zCok_app (zCok_cons (zcok3 (by omega) (by omega) (by omega)) (zCok_nil _)) (zCok_map fun a ha => ?_)
      have b2 := cC i y a (by omega) (by omega) ha
      have b3 := cC (i + 1) y a (by omega) (by omega) ha
      exact zcok4 (by omega) (by omega) (by omega) (by omega)
    · have b1 := cH i y (by omega) (by omega)
      have b2 := cC i y a (by omega) (by omega) ha
      have b3 := cC (i + 1) y a (by omega) (by omega) ha
      exact zcok3 (by omega) (by omega) (by omega)
theorem zgetD_mem {Cs : List (List Nat)} {j : Nat} (h : j < Cs.length) : Cs.getD j [] ∈ Cs := by
  have e : Cs.getD j [] = Cs[j] := by simp [List.getD, h]
  rw [e]
  exact List.getElem_mem h
theorem zCok_len {V : Nat} {Cs : List (List Nat)} (h : zCok V Cs) {j : Nat} (hj : j < Cs.length) : 1 ≤ zlen Cs j ∧ zlen Cs j ≤ 9 := ⟨(h _ (zgetD_mem hj)).1, (h _ (zgetD_mem hj)).2.1⟩
theorem zCok_lit {V : Nat} {Cs : List (List Nat)} (h : zCok V Cs) {j i : Nat} (hj : j < Cs.length) (hi : i < zlen Cs j) : zlit Cs j i < 2 * V := by
  have hm := (h _ (zgetD_mem hj)).2.2
  unfold zlit zlen at *
  revert hm hi
  generalize Cs.getD j [] = cl
  intro hi hm
  have e : cl.getD i 0 = cl[i] := by simp [List.getD, hi]
  rw [e]
  exact hm _ (List.getElem_mem hi)
/-- how long the threes' row is, and how many variables there are -/
theorem zth1_len (v : Nat) {cl : List Nat} (_ : 1 ≤ cl.length) : (zth1 v cl).length = 3 * (if cl.length ≤ 3 then 1 else cl.length - 2) := by
  by_cases e : cl.length ≤ 3
  · rw [zth1_s e, if_pos e]; rfl
  · rw [zth1_l e, if_neg e, zsp_len v (by omega)]
theorem zthL_len {V : Nat} : ∀ {Cs : List (List Nat)} (v : Nat), zCok V Cs → (zthL v Cs).length = 3 * zSm (fun n => if n ≤ 3 then 1 else n - 2) Cs
  | [], v, _ => rfl
  | cl :: Cs, v, h => by
    have e := zthL_len (Cs := Cs) (v + (cl.length - 3)) (fun d hd => h d (List.mem_cons_of_mem _ hd))
    have q := zth1_len v (h cl List.mem_cons_self).1
    rw [zthL, List.length_append, e, q, zSm_cons]
    omega
theorem zthV_eq : ∀ (Cs : List (List Nat)) (v : Nat), zthV v Cs = v + zSm (fun n => n - 3) Cs
  | [], v => rfl
  | cl :: Cs, v => by
    rw [zthV, zthV_eq Cs, zSm_cons]
    omega
theorem zgetD_lt {b : Nat} {L : List Nat} (h : ∀ x ∈ L, x < b) (h0 : 0 < b) (i : Nat) : L.getD i 0 < b := by
  by_cases e : i < L.length
  · have q : L.getD i 0 = L[i] := by simp [List.getD, e]
    rw [q]
    exact h _ (List.getElem_mem e)
  · have q : L.getD i 0 = 0 := by simp [List.getD, List.getElem?_eq_none (show L.length ≤ i by omega)]
    rw [q]
    exact h0
theorem zth1_bd {v b : Nat} {cl : List Nat} (h : ∀ x ∈ cl, x < b) (hb : 2 * (v + (cl.length - 3)) ≤ b) (h0 : 0 < b) : ∀ x ∈ zth1 v cl, x < b := by
  intro x hx
  by_cases e : cl.length ≤ 3
  · rw [zth1_s e] at hx
    simp only [List.mem_cons, List.not_mem_nil, or_false] at hx
    rcases hx with rfl | rfl | rfl <;> exact zgetD_lt h h0 _
  · rw [zth1_l e] at hx
    unfold zsp at hx
    rcases List.mem_append.mp hx with hx | hx
    · simp only [List.mem_cons, List.not_mem_nil, or_false] at hx
      rcases hx with rfl | rfl | rfl
      · exact zgetD_lt h h0 _
      · exact zgetD_lt h h0 _
      · omega
    · rcases List.mem_append.mp hx with hx | hx
      · obtain ⟨i, hi, hm⟩ := List.mem_flatMap.mp hx
        have hi' := List.mem_range.mp hi
        unfold zsp1 at hm
        simp only [List.mem_cons, List.not_mem_nil, or_false] at hm
        rcases hm with rfl | rfl | rfl
        · omega
        · exact zgetD_lt h h0 _
        · omega
      · simp only [List.mem_cons, List.not_mem_nil, or_false] at hx
        rcases hx with rfl | rfl | rfl
        · omega
        · exact zgetD_lt h h0 _
        · exact zgetD_lt h h0 _
theorem zthL_bd {V b : Nat} (hV : 2 * V ≤ b) (h0 : 0 < b) : ∀ (Cs : List (List Nat)) (v : Nat), zCok V Cs → 2 * zthV v Cs ≤ b → ∀ x ∈ zthL v Cs, x < b
  | [], _, _, _, x, hx => absurd hx List.not_mem_nil
  | cl :: Cs, v, h, hb, x, hx => by
    have hle : v + (cl.length - 3) ≤ zthV (v + (cl.length - 3)) Cs := by rw [zthV_eq]; omega
    have hb2 : 2 * zthV (v + (cl.length - 3)) Cs ≤ b := hb
    rcases List.mem_append.mp (show x ∈ zth1 v cl ++ zthL (v + (cl.length - 3)) Cs from hx) with q | q
    · exact zth1_bd (fun y hy => Nat.lt_of_lt_of_le ((h cl List.mem_cons_self).2.2 y hy) hV) (by omega) h0 x q
    · exact zthL_bd hV h0 Cs _ (fun d hd => h d (List.mem_cons_of_mem _ hd)) hb2 x q
theorem znv_all (b : Nat → Nat) (Cs : List (List Nat)) : ∀ j, j ≤ Cs.length → (znv b Cs j).length = zSm (fun n => n - 3) (Cs.take j)
  | 0, _ => by simp [znv, zSm]
  | j + 1, h => by
    rw [znv_len, znv_all b Cs j (by omega), ztake (by omega), zSm_app, zSm_cons, zSm_nil]
    rfl
