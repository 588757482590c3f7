/-! THE CIRCUIT: from a good trip to the picked cover -/
theorem zgd_io {a01 a10 a12 a21 a23 a32 a34 a43 a45 a54 b01 b10 b12 b21 b23 b32 b34 b43 b45 b54 p20 p02 p53 p35 q20 q02 q53 q35 i0 o0 i5 o5 j0 u0 j5 u5 : Prop} (_ : (a01 ∨ q02 ∨ o0) ∧ ¬ (a01 ∧ q02) ∧ ¬ (a01 ∧ o0) ∧ ¬ (q02 ∧ o0)) (_ : (a10 ∨ a12) ∧ ¬ (a10 ∧ a12)) (_ : (a21 ∨ a23 ∨ p20) ∧ ¬ (a21 ∧ a23) ∧ ¬ (a21 ∧ p20) ∧ ¬ (a23 ∧ p20)) (_ : (a32 ∨ a34 ∨ q35) ∧ ¬ (a32 ∧ a34) ∧ ¬ (a32 ∧ q35) ∧ ¬ (a34 ∧ q35)) (_ : (a43 ∨ a45) ∧ ¬ (a43 ∧ a45)) (_ : (a54 ∨ p53 ∨ o5) ∧ ¬ (a54 ∧ p53) ∧ ¬ (a54 ∧ o5) ∧ ¬ (p53 ∧ o5)) (_ : (b01 ∨ p02 ∨ u0) ∧ ¬ (b01 ∧ p02) ∧ ¬ (b01 ∧ u0) ∧ ¬ (p02 ∧ u0)) (_ : (b10 ∨ b12) ∧ ¬ (b10 ∧ b12)) (_ : (b21 ∨ b23 ∨ q20) ∧ ¬ (b21 ∧ b23) ∧ ¬ (b21 ∧ q20) ∧ ¬ (b23 ∧ q20)) (_ : (b32 ∨ b34 ∨ p35) ∧ ¬ (b32 ∧ b34) ∧ ¬ (b32 ∧ p35) ∧ ¬ (b34 ∧ p35)) (_ : (b43 ∨ b45) ∧ ¬ (b43 ∧ b45)) (_ : (b54 ∨ q53 ∨ u5) ∧ ¬ (b54 ∧ q53) ∧ ¬ (b54 ∧ u5) ∧ ¬ (q53 ∧ u5)) (_ : (a10 ∨ q20 ∨ i0) ∧ ¬ (a10 ∧ q20) ∧ ¬ (a10 ∧ i0) ∧ ¬ (q20 ∧ i0)) (_ : (a01 ∨ a21) ∧ ¬ (a01 ∧ a21)) (_ : (a12 ∨ a32 ∨ p02) ∧ ¬ (a12 ∧ a32) ∧ ¬ (a12 ∧ p02) ∧ ¬ (a32 ∧ p02)) (_ : (a23 ∨ a43 ∨ q53) ∧ ¬ (a23 ∧ a43) ∧ ¬ (a23 ∧ q53) ∧ ¬ (a43 ∧ q53)) (_ : (a34 ∨ a54) ∧ ¬ (a34 ∧ a54)) (_ : (a45 ∨ p35 ∨ i5) ∧ ¬ (a45 ∧ p35) ∧ ¬ (a45 ∧ i5) ∧ ¬ (p35 ∧ i5)) (_ : (b10 ∨ p20 ∨ j0) ∧ ¬ (b10 ∧ p20) ∧ ¬ (b10 ∧ j0) ∧ ¬ (p20 ∧ j0)) (_ : (b01 ∨ b21) ∧ ¬ (b01 ∧ b21)) (_ : (b12 ∨ b32 ∨ q02) ∧ ¬ (b12 ∧ b32) ∧ ¬ (b12 ∧ q02) ∧ ¬ (b32 ∧ q02)) (_ : (b23 ∨ b43 ∨ p53) ∧ ¬ (b23 ∧ b43) ∧ ¬ (b23 ∧ p53) ∧ ¬ (b43 ∧ p53)) (_ : (b34 ∨ b54) ∧ ¬ (b34 ∧ b54)) (_ : (b45 ∨ q35 ∨ j5) ∧ ¬ (b45 ∧ q35) ∧ ¬ (b45 ∧ j5) ∧ ¬ (q35 ∧ j5)) (_ : ¬ (a01 ∧ a10) ∧ ¬ (a12 ∧ a21) ∧ ¬ (a23 ∧ a32) ∧ ¬ (a34 ∧ a43) ∧ ¬ (a45 ∧ a54) ∧ ¬ (b01 ∧ b10) ∧ ¬ (b12 ∧ b21) ∧ ¬ (b23 ∧ b32) ∧ ¬ (b34 ∧ b43) ∧ ¬ (b45 ∧ b54) ∧ ¬ (p20 ∧ p02) ∧ ¬ (p53 ∧ p35) ∧ ¬ (q20 ∧ q02) ∧ ¬ (q53 ∧ q35)) (_ : i0) : o5 := by
  grind
theorem zgd_ring {a01 a10 a12 a21 a23 a32 a34 a43 a45 a54 b01 b10 b12 b21 b23 b32 b34 b43 b45 b54 p20 p02 p53 p35 q20 q02 q53 q35 i0 o0 i5 o5 j0 u0 j5 u5 : Prop} (_ : (a01 ∨ q02 ∨ o0) ∧ ¬ (a01 ∧ q02) ∧ ¬ (a01 ∧ o0) ∧ ¬ (q02 ∧ o0)) (_ : (a10 ∨ a12) ∧ ¬ (a10 ∧ a12)) (_ : (a21 ∨ a23 ∨ p20) ∧ ¬ (a21 ∧ a23) ∧ ¬ (a21 ∧ p20) ∧ ¬ (a23 ∧ p20)) (_ : (a32 ∨ a34 ∨ q35) ∧ ¬ (a32 ∧ a34) ∧ ¬ (a32 ∧ q35) ∧ ¬ (a34 ∧ q35)) (_ : (a43 ∨ a45) ∧ ¬ (a43 ∧ a45)) (_ : (a54 ∨ p53 ∨ o5) ∧ ¬ (a54 ∧ p53) ∧ ¬ (a54 ∧ o5) ∧ ¬ (p53 ∧ o5)) (_ : (b01 ∨ p02 ∨ u0) ∧ ¬ (b01 ∧ p02) ∧ ¬ (b01 ∧ u0) ∧ ¬ (p02 ∧ u0)) (_ : (b10 ∨ b12) ∧ ¬ (b10 ∧ b12)) (_ : (b21 ∨ b23 ∨ q20) ∧ ¬ (b21 ∧ b23) ∧ ¬ (b21 ∧ q20) ∧ ¬ (b23 ∧ q20)) (_ : (b32 ∨ b34 ∨ p35) ∧ ¬ (b32 ∧ b34) ∧ ¬ (b32 ∧ p35) ∧ ¬ (b34 ∧ p35)) (_ : (b43 ∨ b45) ∧ ¬ (b43 ∧ b45)) (_ : (b54 ∨ q53 ∨ u5) ∧ ¬ (b54 ∧ q53) ∧ ¬ (b54 ∧ u5) ∧ ¬ (q53 ∧ u5)) (_ : (a10 ∨ q20 ∨ i0) ∧ ¬ (a10 ∧ q20) ∧ ¬ (a10 ∧ i0) ∧ ¬ (q20 ∧ i0)) (_ : (a01 ∨ a21) ∧ ¬ (a01 ∧ a21)) (_ : (a12 ∨ a32 ∨ p02) ∧ ¬ (a12 ∧ a32) ∧ ¬ (a12 ∧ p02) ∧ ¬ (a32 ∧ p02)) (_ : (a23 ∨ a43 ∨ q53) ∧ ¬ (a23 ∧ a43) ∧ ¬ (a23 ∧ q53) ∧ ¬ (a43 ∧ q53)) (_ : (a34 ∨ a54) ∧ ¬ (a34 ∧ a54)) (_ : (a45 ∨ p35 ∨ i5) ∧ ¬ (a45 ∧ p35) ∧ ¬ (a45 ∧ i5) ∧ ¬ (p35 ∧ i5)) (_ : (b10 ∨ p20 ∨ j0) ∧ ¬ (b10 ∧ p20) ∧ ¬ (b10 ∧ j0) ∧ ¬ (p20 ∧ j0)) (_ : (b01 ∨ b21) ∧ ¬ (b01 ∧ b21)) (_ : (b12 ∨ b32 ∨ q02) ∧ ¬ (b12 ∧ b32) ∧ ¬ (b12 ∧ q02) ∧ ¬ (b32 ∧ q02)) (_ : (b23 ∨ b43 ∨ p53) ∧ ¬ (b23 ∧ b43) ∧ ¬ (b23 ∧ p53) ∧ ¬ (b43 ∧ p53)) (_ : (b34 ∨ b54) ∧ ¬ (b34 ∧ b54)) (_ : (b45 ∨ q35 ∨ j5) ∧ ¬ (b45 ∧ q35) ∧ ¬ (b45 ∧ j5) ∧ ¬ (q35 ∧ j5)) (_ : ¬ (a01 ∧ a10) ∧ ¬ (a12 ∧ a21) ∧ ¬ (a23 ∧ a32) ∧ ¬ (a34 ∧ a43) ∧ ¬ (a45 ∧ a54) ∧ ¬ (b01 ∧ b10) ∧ ¬ (b12 ∧ b21) ∧ ¬ (b23 ∧ b32) ∧ ¬ (b34 ∧ b43) ∧ ¬ (b45 ∧ b54) ∧ ¬ (p20 ∧ p02) ∧ ¬ (p53 ∧ p35) ∧ ¬ (q20 ∧ q02) ∧ ¬ (q53 ∧ q35)) (_ : ¬ i0) (_ : ¬ o0) (_ : ¬ j0) (_ : ¬ u0) : (a01 ∧ a12 ∧ p20 ∧ b01 ∧ b12 ∧ q20) ∨ (a10 ∧ q02 ∧ b21 ∧ b10 ∧ p02 ∧ a21) := by
  grind
/-- S: what comes directly behind what, in a round trip of n cities -/
def zCy (S : Nat → Nat → Prop) (n : Nat) : Prop := (∀ x y z, S x y → S x z → y = z) ∧ (∀ x y z, S y x → S z x → y = z) ∧ (∀ x, x < n → ∃ y, S x y) ∧ (∀ x, x < n → ∃ y, S y x) ∧ ∀ x y, S x y → ¬ S y x
theorem zCy_fl {S : Nat → Nat → Prop} {n : Nat} (C : zCy S n) : zCy (fun x y => S y x) n := ⟨C.2.1, C.1, C.2.2.2.1, C.2.2.1, fun x y h q => C.2.2.2.2 y x h q⟩
def zAd (S : Nat → Nat → Prop) (x z : Nat) : Prop := S x z ∨ S z x
theorem zn2 {S : Nat → Nat → Prop} {n c a b : Nat} (C : zCy S n) (hc : c < n) (hab : ¬ a = b) (nb : ∀ z, zAd S c z → z = a ∨ z = b) : (S c a ∨ S c b) ∧ ¬ (S c a ∧ S c b) := by
  obtain ⟨y, hy⟩ := C.2.2.1 c hc
  refine ⟨?_, fun q => hab (C.1 c a b q.1 q.2)⟩
  rcases nb y (Or.inl hy) with rfl | rfl
  · exact Or.inl hy
  · exact Or.inr hy
theorem zn3 {S : Nat → Nat → Prop} {n c a b d : Nat} (C : zCy S n) (hc : c < n) (hab : ¬ a = b) (had : ¬ a = d) (hbd : ¬ b = d) (nb : ∀ z, zAd S c z → z = a ∨ z = b ∨ z = d) : (S c a ∨ S c b ∨ S c d) ∧ ¬ (S c a ∧ S c b) ∧ ¬ (S c a ∧ S c d) ∧ ¬ (S c b ∧ S c d) := by
  obtain ⟨y, hy⟩ := C.2.2.1 c hc
  refine ⟨?_, fun q => hab (C.1 c a b q.1 q.2), fun q => had (C.1 c a d q.1 q.2), fun q => hbd (C.1 c b d q.1 q.2)⟩
  rcases nb y (Or.inl hy) with rfl | rfl | rfl
  · exact Or.inl hy
  · exact Or.inr (Or.inl hy)
  · exact Or.inr (Or.inr hy)
theorem znE {S : Nat → Nat → Prop} {n c a b : Nat} {E : Nat → Prop} (C : zCy S n) (hc : c < n) (hab : ¬ a = b) (ha : ¬ E a) (hb : ¬ E b) (nb : ∀ z, zAd S c z → z = a ∨ z = b ∨ E z) : (S c a ∨ S c b ∨ ∃ z, S c z ∧ E z) ∧ ¬ (S c a ∧ S c b) ∧ ¬ (S c a ∧ ∃ z, S c z ∧ E z) ∧ ¬ (S c b ∧ ∃ z, S c z ∧ E z) := by
  obtain ⟨y, hy⟩ := C.2.2.1 c hc
  refine ⟨?_, fun q => hab (C.1 c a b q.1 q.2), ?_, ?_⟩
  · rcases nb y (Or.inl hy) with rfl | rfl | q
    · exact Or.inl hy
    · exact Or.inr (Or.inl hy)
    · exact Or.inr (Or.inr ⟨y, hy, q⟩)
  · rintro ⟨q, z, q1, q2⟩
    rw [C.1 c z a q1 q] at q2
    exact ha q2
  · rintro ⟨q, z, q1, q2⟩
    rw [C.1 c z b q1 q] at q2
    exact hb q2
theorem zAd_fl {S : Nat → Nat → Prop} {c : Nat} {Q : Nat → Prop} (h : ∀ z, zAd S c z → Q z) : ∀ z, zAd (fun x y => S y x) c z → Q z := fun z q => h z q.symm
/-- the twelve cities of an edge, x of one side, y of the other -/
def zG (S : Nat → Nat → Prop) (n : Nat) (x y : Nat → Nat) (E0 E5 F0 F5 : Nat → Prop) : Prop :=
  (∀ i, i < 6 → x i < n ∧ y i < n) ∧ (∀ i j, i < 6 → j < 6 → (x i = x j → i = j) ∧ (y i = y j → i = j) ∧ ¬ x i = y j) ∧
  ((¬ E0 (x 1) ∧ ¬ E0 (y 2)) ∧ (¬ E5 (x 4) ∧ ¬ E5 (y 3)) ∧ (¬ F0 (y 1) ∧ ¬ F0 (x 2)) ∧ (¬ F5 (y 4) ∧ ¬ F5 (x 3))) ∧
  ((∀ z, zAd S (x 0) z → z = x 1 ∨ z = y 2 ∨ E0 z) ∧ (∀ z, zAd S (x 1) z → z = x 0 ∨ z = x 2) ∧ (∀ z, zAd S (x 2) z → z = x 1 ∨ z = x 3 ∨ z = y 0) ∧ (∀ z, zAd S (x 3) z → z = x 2 ∨ z = x 4 ∨ z = y 5) ∧ (∀ z, zAd S (x 4) z → z = x 3 ∨ z = x 5) ∧ (∀ z, zAd S (x 5) z → z = x 4 ∨ z = y 3 ∨ E5 z)) ∧
  ((∀ z, zAd S (y 0) z → z = y 1 ∨ z = x 2 ∨ F0 z) ∧ (∀ z, zAd S (y 1) z → z = y 0 ∨ z = y 2) ∧ (∀ z, zAd S (y 2) z → z = y 1 ∨ z = y 3 ∨ z = x 0) ∧ (∀ z, zAd S (y 3) z → z = y 2 ∨ z = y 4 ∨ z = x 5) ∧ (∀ z, zAd S (y 4) z → z = y 3 ∨ z = y 5) ∧ (∀ z, zAd S (y 5) z → z = y 4 ∨ z = x 3 ∨ F5 z))
theorem zG_fl {S : Nat → Nat → Prop} {n : Nat} {x y : Nat → Nat} {E0 E5 F0 F5 : Nat → Prop} (g : zG S n x y E0 E5 F0 F5) : zG (fun x y => S y x) n x y E0 E5 F0 F5 := by
  obtain ⟨g1, g2, g3, ⟨a0, a1, a2, a3, a4, a5⟩, ⟨b0, b1, b2, b3, b4, b5⟩⟩ := g
  exact ⟨g1, g2, g3, ⟨zAd_fl a0, zAd_fl a1, zAd_fl a2, zAd_fl a3, zAd_fl a4, zAd_fl a5⟩, ⟨zAd_fl b0, zAd_fl b1, zAd_fl b2, zAd_fl b3, zAd_fl b4, zAd_fl b5⟩⟩
theorem zport_g {S : Nat → Nat → Prop} {n : Nat} {x y : Nat → Nat} {E0 E5 F0 F5 : Nat → Prop} (C : zCy S n) (g : zG S n x y E0 E5 F0 F5) (h : ∃ z, S z (x 0) ∧ E0 z) : ∃ z, S (x 5) z ∧ E5 z := by
  obtain ⟨g1, g2, ⟨e0, e5, f0, f5⟩, ⟨a0, a1, a2, a3, a4, a5⟩, ⟨b0, b1, b2, b3, b4, b5⟩⟩ := g
  have D := zCy_fl C
  exact zgd_io (a01 := S (x 0) (x 1)) (a10 := S (x 1) (x 0)) (a12 := S (x 1) (x 2)) (a21 := S (x 2) (x 1)) (a23 := S (x 2) (x 3)) (a32 := S (x 3) (x 2)) (a34 := S (x 3) (x 4)) (a43 := S (x 4) (x 3)) (a45 := S (x 4) (x 5)) (a54 := S (x 5) (x 4)) (b01 := S (y 0) (y 1)) (b10 := S (y 1) (y 0)) (b12 := S (y 1) (y 2)) (b21 := S (y 2) (y 1)) (b23 := S (y 2) (y 3)) (b32 := S (y 3) (y 2)) (b34 := S (y 3) (y 4)) (b43 := S (y 4) (y 3)) (b45 := S (y 4) (y 5)) (b54 := S (y 5) (y 4)) (p20 := S (x 2) (y 0)) (p02 := S (y 0) (x 2)) (p53 := S (x 5) (y 3)) (p35 := S (y 3) (x 5)) (q20 := S (y 2) (x 0)) (q02 := S (x 0) (y 2)) (q53 := S (y 5) (x 3)) (q35 := S (x 3) (y 5)) (i0 := ∃ z, S z (x 0) ∧ E0 z) (o0 := ∃ z, S (x 0) z ∧ E0 z) (i5 := ∃ z, S z (x 5) ∧ E5 z) (o5 := ∃ z, S (x 5) z ∧ E5 z) (j0 := ∃ z, S z (y 0) ∧ F0 z) (u0 := ∃ z, S (y 0) z ∧ F0 z) (j5 := ∃ z, S z (y 5) ∧ F5 z) (u5 := ∃ z, S (y 5) z ∧ F5 z) (znE C (g1 0 (by decide)).1 (g2 1 2 (by decide) (by decide)).2.2 e0.1 e0.2 a0) (zn2 C (g1 1 (by decide)).1 (fun q9 => absurd ((g2 0 2 (by decide) (by decide)).1 q9) (by decide)) a1) (zn3 C (g1 2 (by decide)).1 (fun q9 => absurd ((g2 1 3 (by decide) (by decide)).1 q9) (by decide)) (g2 1 0 (by decide) (by decide)).2.2 (g2 3 0 (by decide) (by decide)).2.2 a2) (zn3 C (g1 3 (by decide)).1 (fun q9 => absurd ((g2 2 4 (by decide) (by decide)).1 q9) (by decide)) (g2 2 5 (by decide) (by decide)).2.2 (g2 4 5 (by decide) (by decide)).2.2 a3) (zn2 C (g1 4 (by decide)).1 (fun q9 => absurd ((g2 3 5 (by decide) (by decide)).1 q9) (by decide)) a4) (znE C (g1 5 (by decide)).1 (g2 4 3 (by decide) (by decide)).2.2 e5.1 e5.2 a5) (znE C (g1 0 (by decide)).2 (fun q9 => (g2 2 1 (by decide) (by decide)).2.2 q9.symm) f0.1 f0.2 b0) (zn2 C (g1 1 (by decide)).2 (fun q9 => absurd ((g2 0 2 (by decide) (by decide)).2.1 q9) (by decide)) b1) (zn3 C (g1 2 (by decide)).2 (fun q9 => absurd ((g2 1 3 (by decide) (by decide)).2.1 q9) (by decide)) (fun q9 => (g2 0 1 (by decide) (by decide)).2.2 q9.symm) (fun q9 => (g2 0 3 (by decide) (by decide)).2.2 q9.symm) b2) (zn3 C (g1 3 (by decide)).2 (fun q9 => absurd ((g2 2 4 (by decide) (by decide)).2.1 q9) (by decide)) (fun q9 => (g2 5 2 (by decide) (by decide)).2.2 q9.symm) (fun q9 => (g2 5 4 (by decide) (by decide)).2.2 q9.symm) b3) (zn2 C (g1 4 (by decide)).2 (fun q9 => absurd ((g2 3 5 (by decide) (by decide)).2.1 q9) (by decide)) b4) (znE C (g1 5 (by decide)).2 (fun q9 => (g2 3 4 (by decide) (by decide)).2.2 q9.symm) f5.1 f5.2 b5) (znE D (g1 0 (by decide)).1 (g2 1 2 (by decide) (by decide)).2.2 e0.1 e0.2 (zAd_fl a0)) (zn2 D (g1 1 (by decide)).1 (fun q9 => absurd ((g2 0 2 (by decide) (by decide)).1 q9) (by decide)) (zAd_fl a1)) (zn3 D (g1 2 (by decide)).1 (fun q9 => absurd ((g2 1 3 (by decide) (by decide)).1 q9) (by decide)) (g2 1 0 (by decide) (by decide)).2.2 (g2 3 0 (by decide) (by decide)).2.2 (zAd_fl a2)) (zn3 D (g1 3 (by decide)).1 (fun q9 => absurd ((g2 2 4 (by decide) (by decide)).1 q9) (by decide)) (g2 2 5 (by decide) (by decide)).2.2 (g2 4 5 (by decide) (by decide)).2.2 (zAd_fl a3)) (zn2 D (g1 4 (by decide)).1 (fun q9 => absurd ((g2 3 5 (by decide) (by decide)).1 q9) (by decide)) (zAd_fl a4)) (znE D (g1 5 (by decide)).1 (g2 4 3 (by decide) (by decide)).2.2 e5.1 e5.2 (zAd_fl a5)) (znE D (g1 0 (by decide)).2 (fun q9 => (g2 2 1 (by decide) (by decide)).2.2 q9.symm) f0.1 f0.2 (zAd_fl b0)) (zn2 D (g1 1 (by decide)).2 (fun q9 => absurd ((g2 0 2 (by decide) (by decide)).2.1 q9) (by decide)) (zAd_fl b1)) (zn3 D (g1 2 (by decide)).2 (fun q9 => absurd ((g2 1 3 (by decide) (by decide)).2.1 q9) (by decide)) (fun q9 => (g2 0 1 (by decide) (by decide)).2.2 q9.symm) (fun q9 => (g2 0 3 (by decide) (by decide)).2.2 q9.symm) (zAd_fl b2)) (zn3 D (g1 3 (by decide)).2 (fun q9 => absurd ((g2 2 4 (by decide) (by decide)).2.1 q9) (by decide)) (fun q9 => (g2 5 2 (by decide) (by decide)).2.2 q9.symm) (fun q9 => (g2 5 4 (by decide) (by decide)).2.2 q9.symm) (zAd_fl b3)) (zn2 D (g1 4 (by decide)).2 (fun q9 => absurd ((g2 3 5 (by decide) (by decide)).2.1 q9) (by decide)) (zAd_fl b4)) (znE D (g1 5 (by decide)).2 (fun q9 => (g2 3 4 (by decide) (by decide)).2.2 q9.symm) f5.1 f5.2 (zAd_fl b5)) ⟨fun q => C.2.2.2.2 _ _ q.1 q.2, fun q => C.2.2.2.2 _ _ q.1 q.2, fun q => C.2.2.2.2 _ _ q.1 q.2, fun q => C.2.2.2.2 _ _ q.1 q.2, fun q => C.2.2.2.2 _ _ q.1 q.2, fun q => C.2.2.2.2 _ _ q.1 q.2, fun q => C.2.2.2.2 _ _ q.1 q.2, fun q => C.2.2.2.2 _ _ q.1 q.2, fun q => C.2.2.2.2 _ _ q.1 q.2, fun q => C.2.2.2.2 _ _ q.1 q.2, fun q => C.2.2.2.2 _ _ q.1 q.2, fun q => C.2.2.2.2 _ _ q.1 q.2, fun q => C.2.2.2.2 _ _ q.1 q.2, fun q => C.2.2.2.2 _ _ q.1 q.2⟩ h
theorem zring_g {S : Nat → Nat → Prop} {n : Nat} {x y : Nat → Nat} {E0 E5 F0 F5 : Nat → Prop} (C : zCy S n) (g : zG S n x y E0 E5 F0 F5) (h1 : ¬ ∃ z, S z (x 0) ∧ E0 z) (h2 : ¬ ∃ z, S (x 0) z ∧ E0 z) (h3 : ¬ ∃ z, S z (y 0) ∧ F0 z) (h4 : ¬ ∃ z, S (y 0) z ∧ F0 z) : (S (x 0) (x 1) ∧ S (x 1) (x 2) ∧ S (x 2) (y 0) ∧ S (y 0) (y 1) ∧ S (y 1) (y 2) ∧ S (y 2) (x 0)) ∨ (S (x 1) (x 0) ∧ S (x 0) (y 2) ∧ S (y 2) (y 1) ∧ S (y 1) (y 0) ∧ S (y 0) (x 2) ∧ S (x 2) (x 1)) := by
  obtain ⟨g1, g2, ⟨e0, e5, f0, f5⟩, ⟨a0, a1, a2, a3, a4, a5⟩, ⟨b0, b1, b2, b3, b4, b5⟩⟩ := g
  have D := zCy_fl C
  exact zgd_ring (a01 := S (x 0) (x 1)) (a10 := S (x 1) (x 0)) (a12 := S (x 1) (x 2)) (a21 := S (x 2) (x 1)) (a23 := S (x 2) (x 3)) (a32 := S (x 3) (x 2)) (a34 := S (x 3) (x 4)) (a43 := S (x 4) (x 3)) (a45 := S (x 4) (x 5)) (a54 := S (x 5) (x 4)) (b01 := S (y 0) (y 1)) (b10 := S (y 1) (y 0)) (b12 := S (y 1) (y 2)) (b21 := S (y 2) (y 1)) (b23 := S (y 2) (y 3)) (b32 := S (y 3) (y 2)) (b34 := S (y 3) (y 4)) (b43 := S (y 4) (y 3)) (b45 := S (y 4) (y 5)) (b54 := S (y 5) (y 4)) (p20 := S (x 2) (y 0)) (p02 := S (y 0) (x 2)) (p53 := S (x 5) (y 3)) (p35 := S (y 3) (x 5)) (q20 := S (y 2) (x 0)) (q02 := S (x 0) (y 2)) (q53 := S (y 5) (x 3)) (q35 := S (x 3) (y 5)) (i0 := ∃ z, S z (x 0) ∧ E0 z) (o0 := ∃ z, S (x 0) z ∧ E0 z) (i5 := ∃ z, S z (x 5) ∧ E5 z) (o5 := ∃ z, S (x 5) z ∧ E5 z) (j0 := ∃ z, S z (y 0) ∧ F0 z) (u0 := ∃ z, S (y 0) z ∧ F0 z) (j5 := ∃ z, S z (y 5) ∧ F5 z) (u5 := ∃ z, S (y 5) z ∧ F5 z) (znE C (g1 0 (by decide)).1 (g2 1 2 (by decide) (by decide)).2.2 e0.1 e0.2 a0) (zn2 C (g1 1 (by decide)).1 (fun q9 => absurd ((g2 0 2 (by decide) (by decide)).1 q9) (by decide)) a1) (zn3 C (g1 2 (by decide)).1 (fun q9 => absurd ((g2 1 3 (by decide) (by decide)).1 q9) (by decide)) (g2 1 0 (by decide) (by decide)).2.2 (g2 3 0 (by decide) (by decide)).2.2 a2) (zn3 C (g1 3 (by decide)).1 (fun q9 => absurd ((g2 2 4 (by decide) (by decide)).1 q9) (by decide)) (g2 2 5 (by decide) (by decide)).2.2 (g2 4 5 (by decide) (by decide)).2.2 a3) (zn2 C (g1 4 (by decide)).1 (fun q9 => absurd ((g2 3 5 (by decide) (by decide)).1 q9) (by decide)) a4) (znE C (g1 5 (by decide)).1 (g2 4 3 (by decide) (by decide)).2.2 e5.1 e5.2 a5) (znE C (g1 0 (by decide)).2 (fun q9 => (g2 2 1 (by decide) (by decide)).2.2 q9.symm) f0.1 f0.2 b0) (zn2 C (g1 1 (by decide)).2 (fun q9 => absurd ((g2 0 2 (by decide) (by decide)).2.1 q9) (by decide)) b1) (zn3 C (g1 2 (by decide)).2 (fun q9 => absurd ((g2 1 3 (by decide) (by decide)).2.1 q9) (by decide)) (fun q9 => (g2 0 1 (by decide) (by decide)).2.2 q9.symm) (fun q9 => (g2 0 3 (by decide) (by decide)).2.2 q9.symm) b2) (zn3 C (g1 3 (by decide)).2 (fun q9 => absurd ((g2 2 4 (by decide) (by decide)).2.1 q9) (by decide)) (fun q9 => (g2 5 2 (by decide) (by decide)).2.2 q9.symm) (fun q9 => (g2 5 4 (by decide) (by decide)).2.2 q9.symm) b3) (zn2 C (g1 4 (by decide)).2 (fun q9 => absurd ((g2 3 5 (by decide) (by decide)).2.1 q9) (by decide)) b4) (znE C (g1 5 (by decide)).2 (fun q9 => (g2 3 4 (by decide) (by decide)).2.2 q9.symm) f5.1 f5.2 b5) (znE D (g1 0 (by decide)).1 (g2 1 2 (by decide) (by decide)).2.2 e0.1 e0.2 (zAd_fl a0)) (zn2 D (g1 1 (by decide)).1 (fun q9 => absurd ((g2 0 2 (by decide) (by decide)).1 q9) (by decide)) (zAd_fl a1)) (zn3 D (g1 2 (by decide)).1 (fun q9 => absurd ((g2 1 3 (by decide) (by decide)).1 q9) (by decide)) (g2 1 0 (by decide) (by decide)).2.2 (g2 3 0 (by decide) (by decide)).2.2 (zAd_fl a2)) (zn3 D (g1 3 (by decide)).1 (fun q9 => absurd ((g2 2 4 (by decide) (by decide)).1 q9) (by decide)) (g2 2 5 (by decide) (by decide)).2.2 (g2 4 5 (by decide) (by decide)).2.2 (zAd_fl a3)) (zn2 D (g1 4 (by decide)).1 (fun q9 => absurd ((g2 3 5 (by decide) (by decide)).1 q9) (by decide)) (zAd_fl a4)) (znE D (g1 5 (by decide)).1 (g2 4 3 (by decide) (by decide)).2.2 e5.1 e5.2 (zAd_fl a5)) (znE D (g1 0 (by decide)).2 (fun q9 => (g2 2 1 (by decide) (by decide)).2.2 q9.symm) f0.1 f0.2 (zAd_fl b0)) (zn2 D (g1 1 (by decide)).2 (fun q9 => absurd ((g2 0 2 (by decide) (by decide)).2.1 q9) (by decide)) (zAd_fl b1)) (zn3 D (g1 2 (by decide)).2 (fun q9 => absurd ((g2 1 3 (by decide) (by decide)).2.1 q9) (by decide)) (fun q9 => (g2 0 1 (by decide) (by decide)).2.2 q9.symm) (fun q9 => (g2 0 3 (by decide) (by decide)).2.2 q9.symm) (zAd_fl b2)) (zn3 D (g1 3 (by decide)).2 (fun q9 => absurd ((g2 2 4 (by decide) (by decide)).2.1 q9) (by decide)) (fun q9 => (g2 5 2 (by decide) (by decide)).2.2 q9.symm) (fun q9 => (g2 5 4 (by decide) (by decide)).2.2 q9.symm) (zAd_fl b3)) (zn2 D (g1 4 (by decide)).2 (fun q9 => absurd ((g2 3 5 (by decide) (by decide)).2.1 q9) (by decide)) (zAd_fl b4)) (znE D (g1 5 (by decide)).2 (fun q9 => (g2 3 4 (by decide) (by decide)).2.2 q9.symm) f5.1 f5.2 (zAd_fl b5)) ⟨fun q => C.2.2.2.2 _ _ q.1 q.2, fun q => C.2.2.2.2 _ _ q.1 q.2, fun q => C.2.2.2.2 _ _ q.1 q.2, fun q => C.2.2.2.2 _ _ q.1 q.2, fun q => C.2.2.2.2 _ _ q.1 q.2, fun q => C.2.2.2.2 _ _ q.1 q.2, fun q => C.2.2.2.2 _ _ q.1 q.2, fun q => C.2.2.2.2 _ _ q.1 q.2, fun q => C.2.2.2.2 _ _ q.1 q.2, fun q => C.2.2.2.2 _ _ q.1 q.2, fun q => C.2.2.2.2 _ _ q.1 q.2, fun q => C.2.2.2.2 _ _ q.1 q.2, fun q => C.2.2.2.2 _ _ q.1 q.2, fun q => C.2.2.2.2 _ _ q.1 q.2⟩ h1 h2 h3 h4
def zRd (w : Nat → Nat) (ed x y : Nat) : Prop := zlead w ed x y ∨ zlead w ed y x
/-- what lies outside of an edge's cities, at the first and at the last city of side d -/
def zE0 (w : Nat → Nat) (ed d z : Nat) : Prop := (12 * ed ≤ z ∧ zc (zeq w (w d)) d = 0) ∨ (z < 12 * ed ∧ z % 6 = 5 ∧ w (z / 6) = w d ∧ zc (zeq w (w d)) d = zc (zeq w (w d)) (z / 6) + 1)
def zE5 (w : Nat → Nat) (ed d z : Nat) : Prop := (12 * ed ≤ z ∧ zc (zeq w (w d)) d + 1 = zc (zeq w (w d)) (2 * ed)) ∨ (z < 12 * ed ∧ z % 6 = 0 ∧ w (z / 6) = w d ∧ zc (zeq w (w d)) (z / 6) = zc (zeq w (w d)) d + 1)
theorem zRd_nb {w : Nat → Nat} {ed : Nat} (hw : ∀ d, d < 2 * ed → ¬ w (zx1 d) = w d) {d i z : Nat} (hd : d < 2 * ed) (hi : i < 6) (h : zRd w ed (6 * d + i) z) :
    (z = 6 * d + i + 1 ∧ i < 5) ∨ (z + 1 = 6 * d + i ∧ 0 < i) ∨ (z = 6 * zx1 d + 2 ∧ i = 0) ∨ (z = 6 * zx1 d ∧ i = 2) ∨ (z = 6 * zx1 d + 5 ∧ i = 3) ∨ (z = 6 * zx1 d + 3 ∧ i = 5) ∨ (i = 0 ∧ zE0 w ed d z) ∨ (i = 5 ∧ zE5 w ed d z) := by
  have e1 : (6 * d + i) / 6 = d := by omega
  have e2 : (6 * d + i) % 6 = i := by omega
  by_cases hz : 12 * ed ≤ z
  · have h1 : zlead w ed z (6 * d + i) := by
      rcases h with q | q
      · exact absurd q (zlead_sel hz)
      · exact q
    rw [← zSel_lead (by omega) hz] at h1
    unfold zSel at h1
    rw [e1, e2] at h1
    rcases h1 with ⟨q1, q2⟩ | ⟨q1, q2⟩
    · exact Or.inr (Or.inr (Or.inr (Or.inr (Or.inr (Or.inr (Or.inl ⟨q1, Or.inl ⟨hz, q2⟩⟩))))))
    · exact Or.inr (Or.inr (Or.inr (Or.inr (Or.inr (Or.inr (Or.inr ⟨q1, Or.inl ⟨hz, q2⟩⟩))))))
  · have hz' : z < 12 * ed := by omega
    have z1 := @zx1_2 d (z / 6)
    rcases h with q | q
    · rw [← zGo_lead hw (by omega) hz'] at q
      unfold zGo at q
      rw [e1, e2] at q
      rcases q with ⟨q1, q2⟩ | ⟨q1, q2, q3⟩ | ⟨q1, q2, q3, q4⟩
      · exact Or.inl ⟨by omega, by omega⟩
      · have q5 := z1.mpr ⟨q1, q2⟩
        rcases q3 with ⟨q6, q7⟩ | ⟨q6, q7⟩
        · exact Or.inr (Or.inr (Or.inr (Or.inl ⟨by omega, q6⟩)))
        · exact Or.inr (Or.inr (Or.inr (Or.inr (Or.inr (Or.inl ⟨by omega, q6⟩)))))
      · exact Or.inr (Or.inr (Or.inr (Or.inr (Or.inr (Or.inr (Or.inr ⟨q1, Or.inr ⟨hz', q2, q3, q4⟩⟩))))))
    · rw [← zGo_lead hw hz' (by omega)] at q
      unfold zGo at q
      rw [e1, e2] at q
      rcases q with ⟨q1, q2⟩ | ⟨q1, q2, q3⟩ | ⟨q1, q2, q3, q4⟩
      · exact Or.inr (Or.inl ⟨by omega, by omega⟩)
      · have q5 := z1.mpr ⟨fun q => q1 q.symm, q2.symm⟩
        rcases q3 with ⟨q6, q7⟩ | ⟨q6, q7⟩
        · exact Or.inr (Or.inr (Or.inl ⟨by omega, q7⟩))
        · exact Or.inr (Or.inr (Or.inr (Or.inr (Or.inl ⟨by omega, q7⟩))))
      · rw [← q3] at q4
        exact Or.inr (Or.inr (Or.inr (Or.inr (Or.inr (Or.inr (Or.inl ⟨q2, Or.inr ⟨hz', q1, q3.symm, q4⟩⟩))))))
theorem zx1_x1 (d : Nat) : zx1 (zx1 d) = d := by
  unfold zx1
  split <;> split <;> omega
theorem zx1_ne (d : Nat) : ¬ zx1 d = d := by
  unfold zx1
  split <;> omega
theorem zRd_sym {w : Nat → Nat} {ed x y : Nat} (h : zRd w ed x y) : zRd w ed y x := h.symm
/-- the twelve cities at side d, forth -/
theorem zG_f {S : Nat → Nat → Prop} {w : Nat → Nat} {ed n : Nat} (hw : ∀ d, d < 2 * ed → ¬ w (zx1 d) = w d) (hn : 12 * ed ≤ n) (hS : ∀ x y, S x y → zRd w ed x y) {d : Nat} (hd : d < 2 * ed) : zG S n (fun i => 6 * d + i) (fun i => 6 * zx1 d + i) (zE0 w ed d) (zE5 w ed d) (zE0 w ed (zx1 d)) (zE5 w ed (zx1 d)) := by
  have hd' := zx1_lt hd
  have hne := zx1_ne d
  have hwd := hw d hd
  have hR : ∀ x z, zAd S x z → zRd w ed x z := fun x z h => h.elim (hS x z) (fun q => zRd_sym (hS z x q))
  have nbx : ∀ i z, i < 6 → zAd S (6 * d + i) z → _ := fun i z hi h => zRd_nb hw hd hi (hR _ _ h)
  have nby : ∀ i z, i < 6 → zAd S (6 * zx1 d + i) z → _ := fun i z hi h => zRd_nb hw hd' hi (hR _ _ h)
  rw [zx1_x1] at nby
  have k1 : ∀ i, i < 6 → (6 * d + i) / 6 = d := fun i hi => by omega
  have k2 : ∀ i, i < 6 → (6 * zx1 d + i) / 6 = zx1 d := fun i hi => by omega
  refine ⟨fun i hi => ⟨by show 6 * d + i < n; omega, by show 6 * zx1 d + i < n; omega⟩, fun i j hi hj => ⟨fun q => ?_, fun q => ?_, fun q => ?_⟩, ⟨⟨?_, ?_⟩, ⟨?_, ?_⟩, ⟨?_, ?_⟩, ⟨?_, ?_⟩⟩, ⟨?_, ?_, ?_, ?_, ?_, ?_⟩, ⟨?_, ?_, ?_, ?_, ?_, ?_⟩⟩
  · have q : 6 * d + i = 6 * d + j := q
    omega
  · have q : 6 * zx1 d + i = 6 * zx1 d + j := q
    omega
  · have q : 6 * d + i = 6 * zx1 d + j := q
    omega
  · rintro (⟨q, -⟩ | ⟨-, q, -⟩) <;> simp only [] at q <;> omega
  · rintro (⟨q, -⟩ | ⟨-, q, -⟩) <;> simp only [] at q <;> omega
  · rintro (⟨q, -⟩ | ⟨-, q, -⟩) <;> simp only [] at q <;> omega
  · rintro (⟨q, -⟩ | ⟨-, q, -⟩) <;> simp only [] at q <;> omega
  · rintro (⟨q, -⟩ | ⟨-, q, -⟩) <;> simp only [] at q <;> omega
  · rintro (⟨q, -⟩ | ⟨-, q, -⟩) <;> simp only [] at q <;> omega
  · rintro (⟨q, -⟩ | ⟨-, q, -⟩) <;> simp only [] at q <;> omega
  · rintro (⟨q, -⟩ | ⟨-, q, -⟩) <;> simp only [] at q <;> omega
  all_goals intro z h
  · rcases nbx 0 z (by decide) h with q | q | q | q | q | q | q | q
    · exact Or.inl q.1
    · exact absurd q.2 (by decide)
    · exact Or.inr (Or.inl q.1)
    · exact absurd q.2 (by decide)
    · exact absurd q.2 (by decide)
    · exact absurd q.2 (by decide)
    · exact Or.inr (Or.inr q.2)
    · exact absurd q.1 (by decide)
  · rcases nbx 1 z (by decide) h with q | q | q | q | q | q | q | q
    · exact Or.inr q.1
    · exact Or.inl (show z = 6 * d + 0 by have := q.1; omega)
    · exact absurd q.2 (by decide)
    · exact absurd q.2 (by decide)
    · exact absurd q.2 (by decide)
    · exact absurd q.2 (by decide)
    · exact absurd q.1 (by decide)
    · exact absurd q.1 (by decide)
  · rcases nbx 2 z (by decide) h with q | q | q | q | q | q | q | q
    · exact Or.inr (Or.inl q.1)
    · exact Or.inl (show z = 6 * d + 1 by have := q.1; omega)
    · exact absurd q.2 (by decide)
    · exact Or.inr (Or.inr q.1)
    · exact absurd q.2 (by decide)
    · exact absurd q.2 (by decide)
    · exact absurd q.1 (by decide)
    · exact absurd q.1 (by decide)
  · rcases nbx 3 z (by decide) h with q | q | q | q | q | q | q | q
    · exact Or.inr (Or.inl q.1)
    · exact Or.inl (show z = 6 * d + 2 by have := q.1; omega)
    · exact absurd q.2 (by decide)
    · exact absurd q.2 (by decide)
    · exact Or.inr (Or.inr q.1)
    · exact absurd q.2 (by decide)
    · exact absurd q.1 (by decide)
    · exact absurd q.1 (by decide)
  · rcases nbx 4 z (by decide) h with q | q | q | q | q | q | q | q
    · exact Or.inr q.1
    · exact Or.inl (show z = 6 * d + 3 by have := q.1; omega)
    · exact absurd q.2 (by decide)
    · exact absurd q.2 (by decide)
    · exact absurd q.2 (by decide)
    · exact absurd q.2 (by decide)
    · exact absurd q.1 (by decide)
    · exact absurd q.1 (by decide)
  · rcases nbx 5 z (by decide) h with q | q | q | q | q | q | q | q
    · exact absurd q.2 (by decide)
    · exact Or.inl (show z = 6 * d + 4 by have := q.1; omega)
    · exact absurd q.2 (by decide)
    · exact absurd q.2 (by decide)
    · exact absurd q.2 (by decide)
    · exact Or.inr (Or.inl q.1)
    · exact absurd q.1 (by decide)
    · exact Or.inr (Or.inr q.2)
  · rcases nby 0 z (by decide) h with q | q | q | q | q | q | q | q
    · exact Or.inl q.1
    · exact absurd q.2 (by decide)
    · exact Or.inr (Or.inl q.1)
    · exact absurd q.2 (by decide)
    · exact absurd q.2 (by decide)
    · exact absurd q.2 (by decide)
    · exact Or.inr (Or.inr q.2)
    · exact absurd q.1 (by decide)
  · rcases nby 1 z (by decide) h with q | q | q | q | q | q | q | q
    · exact Or.inr q.1
    · exact Or.inl (show z = 6 * zx1 d + 0 by have := q.1; omega)
    · exact absurd q.2 (by decide)
    · exact absurd q.2 (by decide)
    · exact absurd q.2 (by decide)
    · exact absurd q.2 (by decide)
    · exact absurd q.1 (by decide)
    · exact absurd q.1 (by decide)
  · rcases nby 2 z (by decide) h with q | q | q | q | q | q | q | q
    · exact Or.inr (Or.inl q.1)
    · exact Or.inl (show z = 6 * zx1 d + 1 by have := q.1; omega)
    · exact absurd q.2 (by decide)
    · exact Or.inr (Or.inr q.1)
    · exact absurd q.2 (by decide)
    · exact absurd q.2 (by decide)
    · exact absurd q.1 (by decide)
    · exact absurd q.1 (by decide)
  · rcases nby 3 z (by decide) h with q | q | q | q | q | q | q | q
    · exact Or.inr (Or.inl q.1)
    · exact Or.inl (show z = 6 * zx1 d + 2 by have := q.1; omega)
    · exact absurd q.2 (by decide)
    · exact absurd q.2 (by decide)
    · exact Or.inr (Or.inr q.1)
    · exact absurd q.2 (by decide)
    · exact absurd q.1 (by decide)
    · exact absurd q.1 (by decide)
  · rcases nby 4 z (by decide) h with q | q | q | q | q | q | q | q
    · exact Or.inr q.1
    · exact Or.inl (show z = 6 * zx1 d + 3 by have := q.1; omega)
    · exact absurd q.2 (by decide)
    · exact absurd q.2 (by decide)
    · exact absurd q.2 (by decide)
    · exact absurd q.2 (by decide)
    · exact absurd q.1 (by decide)
    · exact absurd q.1 (by decide)
  · rcases nby 5 z (by decide) h with q | q | q | q | q | q | q | q
    · exact absurd q.2 (by decide)
    · exact Or.inl (show z = 6 * zx1 d + 4 by have := q.1; omega)
    · exact absurd q.2 (by decide)
    · exact absurd q.2 (by decide)
    · exact absurd q.2 (by decide)
    · exact Or.inr (Or.inl q.1)
    · exact absurd q.1 (by decide)
    · exact Or.inr (Or.inr q.2)
/-- back -/
theorem zG_m {S : Nat → Nat → Prop} {n : Nat} {x y : Nat → Nat} {E0 E5 F0 F5 : Nat → Prop} (g : zG S n x y E0 E5 F0 F5) : zG S n (fun i => x (5 - i)) (fun i => y (5 - i)) E5 E0 F5 F0 := by
  obtain ⟨g1, g2, ⟨e0, e5, f0, f5⟩, ⟨a0, a1, a2, a3, a4, a5⟩, ⟨b0, b1, b2, b3, b4, b5⟩⟩ := g
  refine ⟨fun i hi => g1 (5 - i) (by omega), fun i j hi hj => ?_, ⟨e5, e0, f5, f0⟩, ⟨a5, fun z h => (a4 z h).symm, fun z h => ?_, fun z h => ?_, fun z h => (a1 z h).symm, a0⟩, ⟨b5, fun z h => (b4 z h).symm, fun z h => ?_, fun z h => ?_, fun z h => (b1 z h).symm, b0⟩⟩
  · obtain ⟨q1, q2, q3⟩ := g2 (5 - i) (5 - j) (by omega) (by omega)
    exact ⟨fun q => by have := q1 q; omega, fun q => by have := q2 q; omega, q3⟩
  · rcases a3 z h with q | q | q
    · exact Or.inr (Or.inl q)
    · exact Or.inl q
    · exact Or.inr (Or.inr q)
  · rcases a2 z h with q | q | q
    · exact Or.inr (Or.inl q)
    · exact Or.inl q
    · exact Or.inr (Or.inr q)
  · rcases b3 z h with q | q | q
    · exact Or.inr (Or.inl q)
    · exact Or.inl q
    · exact Or.inr (Or.inr q)
  · rcases b2 z h with q | q | q
    · exact Or.inr (Or.inl q)
    · exact Or.inl q
    · exact Or.inr (Or.inr q)
theorem zpig : ∀ (n : Nat) (f : Nat → Nat), (∀ i, i < n → f i < n) → (∀ i j, i < j → j < n → f i ≠ f j) → ∀ y, y < n → ∃ i, i < n ∧ f i = y
  | 0, _, _, _ => fun y hy => absurd hy (Nat.not_lt_zero _)
  | n + 1, f, hb, hi => by
    have hb' : ∀ i, i < n → (if f i = n then f n else f i) < n := by
      intro i h
      by_cases e : f i = n
      · rw [if_pos e]
        have := hi i n h (Nat.lt_succ_self n)
        have := hb n (Nat.lt_succ_self n)
        omega
      · rw [if_neg e]
        have := hb i (by omega)
        omega
    have hi' : ∀ i j, i < j → j < n → (if f i = n then f n else f i) ≠ (if f j = n then f n else f j) := by
      intro i j h1 h2 q
      have q1 := hi i j h1 (by omega)
      have q2 := hi i n (by omega) (Nat.lt_succ_self n)
      have q3 := hi j n (by omega) (Nat.lt_succ_self n)
      by_cases e : f i = n
      · by_cases e2 : f j = n
        · omega
        · rw [if_pos e, if_neg e2] at q
          omega
      · by_cases e2 : f j = n
        · rw [if_neg e, if_pos e2] at q
          omega
        · rw [if_neg e, if_neg e2] at q
          omega
    have ih := zpig n _ hb' hi'
    intro y hy
    by_cases e : f n = y
    · exact ⟨n, Nat.lt_succ_self n, e⟩
    · by_cases ey : y = n
      · -- n itself
        have hv := hb n (Nat.lt_succ_self n)
        obtain ⟨i, h1, h2⟩ := ih (f n) (by omega)
        by_cases e3 : f i = n
        · exact ⟨i, by omega, by omega⟩
        · rw [if_neg e3] at h2
          exact absurd h2 (hi i n h1 (Nat.lt_succ_self n))
      · obtain ⟨i, h1, h2⟩ := ih y (by omega)
        by_cases e3 : f i = n
        · rw [if_pos e3] at h2
          exact absurd h2 e
        · rw [if_neg e3] at h2
          exact ⟨i, by omega, h2⟩
theorem zonce_inj {f : Nat → Nat} {n i j : Nat} (h : zonce f n) (hi : i < n) (hj : j < n) (e : f i = f j) : i = j := by
  rcases Nat.lt_trichotomy i j with q | q | q
  · exact absurd e (h i j q hj)
  · exact q
  · exact absurd e.symm (h j i q hi)
def zS2 (tr : Nat → Nat) (n x y : Nat) : Prop := ∃ i, i < n ∧ tr i = x ∧ tr ((i + 1) % n) = y
theorem zmod_inj {n i j : Nat} (hi : i < n) (hj : j < n) (e : (i + 1) % n = (j + 1) % n) : i = j := by
  by_cases q1 : i + 1 = n
  · by_cases q2 : j + 1 = n
    · omega
    · rw [q1, Nat.mod_self, Nat.mod_eq_of_lt (show j + 1 < n by omega)] at e
      omega
  · by_cases q2 : j + 1 = n
    · rw [q2, Nat.mod_self, Nat.mod_eq_of_lt (show i + 1 < n by omega)] at e
      omega
    · rw [Nat.mod_eq_of_lt (show i + 1 < n by omega), Nat.mod_eq_of_lt (show j + 1 < n by omega)] at e
      omega
theorem zS2_nx {tr : Nat → Nat} {n i y : Nat} (h : zonce tr n) (hi : i < n) (q : zS2 tr n (tr i) y) : tr ((i + 1) % n) = y := by
  obtain ⟨j, h1, h2, h3⟩ := q
  rw [zonce_inj h h1 hi h2] at h3
  exact h3
theorem zS2_cy {tr : Nat → Nat} {n : Nat} (hn : 7 ≤ n) (h : zonce tr n) (hb : ∀ i, i < n → tr i < n) : zCy (zS2 tr n) n := by
  refine ⟨?_, ?_, ?_, ?_, ?_⟩
  · rintro x y z ⟨i, h1, rfl, h3⟩ q
    rw [← h3]
    exact zS2_nx h h1 q
  · rintro x y z ⟨i, h1, h2, h3⟩ ⟨j, k1, k2, k3⟩
    have e := zonce_inj h (Nat.mod_lt _ (by omega)) (Nat.mod_lt _ (by omega)) (h3.trans k3.symm)
    rw [← h2, ← k2, zmod_inj h1 k1 e]
  · intro x hx
    obtain ⟨i, h1, h2⟩ := zpig n tr hb h x hx
    exact ⟨_, i, h1, h2, rfl⟩
  · intro x hx
    obtain ⟨i, h1, h2⟩ := zpig n tr hb h x hx
    by_cases e : i = 0
    · exact ⟨_, n - 1, by omega, rfl, by rw [show n - 1 + 1 = n by omega, Nat.mod_self, ← e]; exact h2⟩
    · exact ⟨_, i - 1, by omega, rfl, by rw [show i - 1 + 1 = i by omega, Nat.mod_eq_of_lt h1]; exact h2⟩
  · rintro x y ⟨i, h1, rfl, h3⟩ q
    have l1 : (i + 1) % n < n := Nat.mod_lt _ (by omega)
    rw [← h3] at q
    have e := zS2_nx h l1 q
    have e2 := zonce_inj h (Nat.mod_lt _ (by omega)) h1 e
    rw [Nat.mod_add_mod] at e2
    by_cases c : i + 1 + 1 < n
    · rw [Nat.mod_eq_of_lt c] at e2
      omega
    · rw [show i + 1 + 1 = (i + 1 + 1 - n) + n by omega, Nat.add_mod_right, Nat.mod_eq_of_lt (by omega)] at e2
      omega
theorem zS2_6 {tr : Nat → Nat} {n a b d e f g : Nat} (hn : 7 ≤ n) (h : zonce tr n) (h1 : zS2 tr n a b) (h2 : zS2 tr n b d) (h3 : zS2 tr n d e) (h4 : zS2 tr n e f) (h5 : zS2 tr n f g) (h6 : zS2 tr n g a) : False := by
  obtain ⟨i, hi, rfl, rfl⟩ := h1
  have l : ∀ k, k % n < n := fun k => Nat.mod_lt _ (by omega)
  have q2 := zS2_nx h (l _) h2
  rw [Nat.mod_add_mod] at q2
  rw [← q2] at h3
  have q3 := zS2_nx h (l _) h3
  rw [Nat.mod_add_mod] at q3
  rw [← q3] at h4
  have q4 := zS2_nx h (l _) h4
  rw [Nat.mod_add_mod] at q4
  rw [← q4] at h5
  have q5 := zS2_nx h (l _) h5
  rw [Nat.mod_add_mod] at q5
  rw [← q5] at h6
  have q6 := zS2_nx h (l _) h6
  rw [Nat.mod_add_mod] at q6
  have e2 := zonce_inj h (l _) hi q6
  by_cases c : i + 1 + 1 + 1 + 1 + 1 + 1 < n
  · rw [Nat.mod_eq_of_lt c] at e2
    omega
  · rw [show i + 1 + 1 + 1 + 1 + 1 + 1 = (i + 1 + 1 + 1 + 1 + 1 + 1 - n) + n by omega, Nat.add_mod_right, Nat.mod_eq_of_lt (by omega)] at e2
    omega
theorem zpk_mem {w : Nat → Nat} {ed : Nat} {tr : Nat → Nat} {n u : Nat} : u ∈ zpk w ed tr n n ↔ ∃ x y, zS2 tr n x y ∧ 12 * ed ≤ x ∧ y < 12 * ed ∧ u = w (y / 6) := by
  unfold zpk
  rw [List.mem_flatMap]
  constructor
  · rintro ⟨i, h1, h2⟩
    unfold zpk1 at h2
    by_cases c : 12 * ed ≤ tr i ∧ tr ((i + 1) % n) < 12 * ed
    · rw [if_pos c, List.mem_singleton] at h2
      exact ⟨_, _, ⟨i, List.mem_range.mp h1, rfl, rfl⟩, c.1, c.2, h2⟩
    · rw [if_neg c] at h2
      exact absurd h2 (by simp)
  · rintro ⟨x, y, ⟨i, h1, rfl, rfl⟩, h2, h3, h4⟩
    refine ⟨i, List.mem_range.mpr h1, ?_⟩
    unfold zpk1
    rw [if_pos ⟨h2, h3⟩, List.mem_singleton]
    exact h4
section ZHAM
variable {w : Nat → Nat} {ed n : Nat} {tr : Nat → Nat}
/-- the ways through an edge's twelve cities -/
theorem zthru (hw : ∀ d, d < 2 * ed → ¬ w (zx1 d) = w d) (hn : 12 * ed ≤ n) (h7 : 7 ≤ n) (ho : zonce tr n) (hb : ∀ i, i < n → tr i < n) (hr : ∀ x y, zS2 tr n x y → zRd w ed x y) {d : Nat} (hd : d < 2 * ed) :
    ((∃ z, zS2 tr n (6 * d) z ∧ zE0 w ed d z) → ∃ z, zS2 tr n z (6 * d + 5) ∧ zE5 w ed d z) ∧ ((∃ z, zS2 tr n (6 * d + 5) z ∧ zE5 w ed d z) → ∃ z, zS2 tr n z (6 * d) ∧ zE0 w ed d z) := by
  have C := zS2_cy h7 ho hb
  have g := zG_f hw hn hr hd
  exact ⟨fun h => zport_g (zCy_fl C) (zG_fl g) h, fun h => zport_g (zCy_fl C) (zG_fl (zG_m g)) h⟩
theorem zpick_a (hw : ∀ d, d < 2 * ed → ¬ w (zx1 d) = w d) (hn : 12 * ed ≤ n) (h7 : 7 ≤ n) (ho : zonce tr n) (hb : ∀ i, i < n → tr i < n) (hr : ∀ x y, zS2 tr n x y → zRd w ed x y) : ∀ k d, d < 2 * ed → zc (zeq w (w d)) d = k → (∃ z, zS2 tr n z (6 * d) ∧ zE0 w ed d z) → w d ∈ zpk w ed tr n n
  | k, d, hd, hk, ⟨z, h1, h2⟩ => by
    rcases h2 with ⟨q1, q2⟩ | ⟨q1, q2, q3, q4⟩
    · exact zpk_mem.mpr ⟨z, 6 * d, h1, q1, by omega, by rw [show 6 * d / 6 = d by omega]⟩
    · have hbd : z / 6 < 2 * ed := by omega
      have e : z = 6 * (z / 6) + 5 := by omega
      rw [e] at h1
      have hin := (zthru hw hn h7 ho hb hr hbd).2 ⟨6 * d, h1, Or.inr ⟨by omega, by omega, by rw [show 6 * d / 6 = d by omega, q3], by rw [show 6 * d / 6 = d by omega, q3]; exact q4⟩⟩
      cases k with
      | zero => omega
      | succ k =>
        rw [← q3]
        exact zpick_a hw hn h7 ho hb hr k (z / 6) hbd (by rw [q3]; omega) hin
theorem zpick_b (hw : ∀ d, d < 2 * ed → ¬ w (zx1 d) = w d) (hn : 12 * ed ≤ n) (h7 : 7 ≤ n) (ho : zonce tr n) (hb : ∀ i, i < n → tr i < n) (hr : ∀ x y, zS2 tr n x y → zRd w ed x y) : ∀ k d, d < 2 * ed → zc (zeq w (w d)) d + k = zc (zeq w (w d)) (2 * ed) → (∃ z, zS2 tr n z (6 * d + 5) ∧ zE5 w ed d z) → w d ∈ zpk w ed tr n n
  | k, d, hd, hk, ⟨z, h1, h2⟩ => by
    rcases h2 with ⟨q1, q2⟩ | ⟨q1, q2, q3, q4⟩
    · exact zpk_mem.mpr ⟨z, 6 * d + 5, h1, q1, by omega, by rw [show (6 * d + 5) / 6 = d by omega]⟩
    · have hbd : z / 6 < 2 * ed := by omega
      have e : z = 6 * (z / 6) := by omega
      rw [e] at h1
      have hin := (zthru hw hn h7 ho hb hr hbd).1 ⟨6 * d + 5, h1, Or.inr ⟨by omega, by omega, by rw [show (6 * d + 5) / 6 = d by omega, q3], by rw [show (6 * d + 5) / 6 = d by omega, q3]; exact q4⟩⟩
      have hlt := zc_ltW (w := w) hbd
      rw [q3] at hlt
      cases k with
      | zero => omega
      | succ k =>
        rw [← q3]
        exact zpick_b hw hn h7 ho hb hr k (z / 6) hbd (by rw [q3]; omega) hin
/-- a good trip's picked vertices cover every edge -/
theorem zham_cov (hw : ∀ d, d < 2 * ed → ¬ w (zx1 d) = w d) (hn : 12 * ed ≤ n) (h7 : 7 ≤ n) (ho : zonce tr n) (hb : ∀ i, i < n → tr i < n) (hr : ∀ x y, zS2 tr n x y → zRd w ed x y) {d : Nat} (hd : d < 2 * ed) : w d ∈ zpk w ed tr n n ∨ w (zx1 d) ∈ zpk w ed tr n n := by
  have C := zS2_cy h7 ho hb
  have g := zG_f hw hn hr hd
  have hd' := zx1_lt hd
  have hi : ∀ d, d < 2 * ed → (∃ z, zS2 tr n z (6 * d) ∧ zE0 w ed d z) → w d ∈ zpk w ed tr n n := fun d hd h => zpick_a hw hn h7 ho hb hr _ d hd rfl h
  have hq : ∀ d, d < 2 * ed → (∃ z, zS2 tr n (6 * d) z ∧ zE0 w ed d z) → w d ∈ zpk w ed tr n n := fun d hd h => zpick_b hw hn h7 ho hb hr (zc (zeq w (w d)) (2 * ed) - zc (zeq w (w d)) d) d hd (by have := zc_ltW (w := w) hd; omega) ((zthru hw hn h7 ho hb hr hd).1 h)
  apply Classical.byContradiction
  intro hno
  have n1 : ¬ w d ∈ zpk w ed tr n n := fun q => hno (Or.inl q)
  have n2 : ¬ w (zx1 d) ∈ zpk w ed tr n n := fun q => hno (Or.inr q)
  rcases zring_g C g (fun q => n1 (hi d hd q)) (fun q => n1 (hq d hd q)) (fun q => n2 (hi _ hd' q)) (fun q => n2 (hq _ hd' q)) with ⟨a, b, c, d, e, f⟩ | ⟨a, b, c, d, e, f⟩
  · exact zS2_6 h7 ho a b c d e f
  · exact zS2_6 h7 ho a b c d e f
end ZHAM
theorem zsum_ge {f : Nat → Nat} : ∀ {n : Nat}, (∀ i, i < n → 1 ≤ f i) → n ≤ zsum f n
  | 0, _ => Nat.le_refl _
  | n + 1, h => by
    have a := zsum_ge (f := f) (n := n) (fun i hi => h i (by omega))
    have b := h n (by omega)
    rw [zsum]
    omega
theorem zsum_one {f : Nat → Nat} : ∀ {n : Nat}, (∀ i, i < n → 1 ≤ f i) → zsum f n = n → ∀ i, i < n → f i = 1
  | 0, _, _ => fun i hi => absurd hi (Nat.not_lt_zero _)
  | n + 1, h, e => by
    have a := zsum_ge (f := f) (n := n) (fun i hi => h i (by omega))
    have b := h n (by omega)
    rw [zsum] at e
    intro i hi
    by_cases q : i = n
    · subst q; omega
    · exact zsum_one (n := n) (fun i hi => h i (by omega)) (by omega) i (by omega)
theorem zgood_rd {w : Nat → Nat} {ed n : Nat} {tr : Nat → Nat} (hn : 2 ≤ n) (ho : zonce tr n) (ht : ztot w ed tr n = n) : ∀ x y, zS2 tr n x y → zRd w ed x y := by
  have hne : ∀ i, i < n → ¬ tr i = tr ((i + 1) % n) := by
    intro i hi q
    have e := zonce_inj ho hi (Nat.mod_lt _ (by omega)) q
    by_cases c : i + 1 = n
    · rw [c, Nat.mod_self] at e
      omega
    · rw [Nat.mod_eq_of_lt (by omega)] at e
      omega
  have h1 : ∀ i, i < n → 1 ≤ zdist w ed (tr i) (tr ((i + 1) % n)) := by
    intro i hi
    by_cases c : zlead w ed (tr i) (tr ((i + 1) % n)) ∨ zlead w ed (tr ((i + 1) % n)) (tr i)
    · rw [zdist_1 (hne i hi) c]; exact Nat.le_refl _
    · rw [zdist_2 (hne i hi) c]; decide
  have h2 := zsum_one h1 (by rw [zsum_tot (by omega)]; exact ht)
  rintro x y ⟨i, hi, rfl, rfl⟩
  apply Classical.byContradiction
  intro q
  have e := h2 i hi
  rw [zdist_2 (hne i hi) q] at e
  exact absurd e (by decide)
/-! counting -/
theorem zc_no' {P : Nat → Bool} : ∀ {n : Nat}, (∀ i, i < n → P i = false) → zc P n = 0
  | 0, _ => rfl
  | n + 1, h => by rw [zc, zc_no' (fun i hi => h i (by omega)), h n (by omega)]; rfl
theorem zc_cg {P Q : Nat → Bool} : ∀ {n : Nat}, (∀ i, i < n → P i = Q i) → zc P n = zc Q n
  | 0, _ => rfl
  | n + 1, h => by rw [zc, zc, zc_cg (fun i hi => h i (by omega)), h n (by omega)]
theorem zc_one {f : Nat → Nat} {v : Nat} : ∀ {n : Nat}, zonce f n → zc (fun i => decide (f i = v)) n ≤ 1
  | 0, _ => Nat.zero_le _
  | n + 1, h => by
    rw [zc]
    by_cases e : f n = v
    · rw [zc_no' (fun i hi => by simp only [decide_eq_false_iff_not]; intro q; exact h i n hi (Nat.lt_succ_self n) (q.trans e.symm))]
      split <;> omega
    · have := zc_one (f := f) (v := v) (n := n) (fun i j q1 q2 => h i j q1 (by omega))
      simp only [e, decide_false, Bool.false_eq_true, if_false]
      omega
theorem zc_rng {f : Nat → Nat} {lo n : Nat} (h : zonce f n) : ∀ k, zc (fun i => decide (lo ≤ f i ∧ f i < lo + k)) n ≤ k
  | 0 => by rw [zc_no' (fun i _ => by simp only [decide_eq_false_iff_not]; omega)]; exact Nat.le_refl _
  | k + 1 => by
    have a := zc_rng (lo := lo) h k
    have b := zc_one (v := lo + k) h
    have e := zc_or (P := fun i => decide (lo ≤ f i ∧ f i < lo + k)) (Q := fun i => decide (f i = lo + k)) (S := fun i => decide (lo ≤ f i ∧ f i < lo + (k + 1))) n (fun i _ => by
      simp only [← Bool.decide_or, decide_eq_decide]; omega) (fun i _ q => by
      simp only [decide_eq_true_eq] at q; omega)
    rw [e]
    omega
theorem zpk_len {w : Nat → Nat} {ed : Nat} {tr : Nat → Nat} {n : Nat} : ∀ k, (zpk w ed tr n k).length ≤ zc (fun i => decide (12 * ed ≤ tr i)) k
  | 0 => Nat.le_refl _
  | k + 1 => by
    have a := zpk_len (w := w) (ed := ed) (tr := tr) (n := n) k
    have e : zpk w ed tr n (k + 1) = zpk w ed tr n k ++ zpk1 w ed tr n k := zrng_succ _ k
    rw [e, List.length_append, zc]
    unfold zpk1
    by_cases c : 12 * ed ≤ tr k
    · simp only [c, decide_true, if_true]
      split
      · show _ + 1 ≤ _; omega
      · show _ + 0 ≤ _; omega
    · rw [if_neg (fun q => c q.1)]
      show _ + 0 ≤ _
      omega
theorem zpk_se {w : Nat → Nat} {ed se : Nat} {tr : Nat → Nat} {n : Nat} (hn : n = 12 * ed + se) (h : zonce tr n) (hb : ∀ i, i < n → tr i < n) : (zpk w ed tr n n).length ≤ se := by
  have a := zpk_len (w := w) (ed := ed) (tr := tr) (n := n) n
  have b := zc_rng (lo := 12 * ed) h se
  have e : zc (fun i => decide (12 * ed ≤ tr i)) n = zc (fun i => decide (12 * ed ≤ tr i ∧ tr i < 12 * ed + se)) n := zc_cg (fun i hi => by
    have := hb i hi
    simp only [decide_eq_decide]; omega)
  omega
def zin (L : List Nat) (u : Nat) : Bool := decide (u ∈ L)
theorem zc_eqv {v : Nat} : ∀ N, zc (fun u => decide (u = v)) N ≤ 1 := fun N => zc_one (f := fun u => u) (v := v) (fun i j q _ => Nat.ne_of_lt q)
theorem zin_len : ∀ (L : List Nat) (N : Nat), zc (zin L) N ≤ L.length
  | [], N => by rw [zc_no' (fun i _ => by simp [zin])]; exact Nat.le_refl _
  | a :: L, N => by
    have h := zin_len L N
    have e1 : zc (zin (a :: L)) N ≤ zc (fun u => decide (u = a)) N + zc (zin L) N := by
      induction N with
      | zero => exact Nat.le_refl _
      | succ N ih =>
        have := ih (zin_len L N)
        rw [zc, zc, zc]
        by_cases q1 : N = a
        · simp only [zin, q1, List.mem_cons, true_or, decide_true, if_true] at *
          omega
        · by_cases q2 : N ∈ L
          · simp only [zin, q2, List.mem_cons, or_true, decide_true, if_true] at *
            omega
          · simp only [zin, q1, q2, List.mem_cons, or_false, decide_false] at *
            simp at *
            omega
    have e2 := zc_eqv (v := a) N
    rw [List.length_cons]
    omega
/-- a block of k places from a on holds at least m -/
theorem zc_add (P : Nat → Bool) (a : Nat) : ∀ k, zc P (a + k) = zc P a + zc (fun i => P (a + i)) k
  | 0 => rfl
  | k + 1 => by rw [← Nat.add_assoc, zc, zc, zc_add P a k]; omega
theorem zc_blk {P : Nat → Bool} {a s m : Nat} : ∀ k, (∀ j, j < k → m ≤ zc (fun i => P (a + s * j + i)) s) → zc P a + m * k ≤ zc P (a + s * k)
  | 0, _ => Nat.le_refl _
  | k + 1, h => by
    have x := zc_blk (P := P) (a := a) (s := s) (m := m) k (fun j hj => h j (by omega))
    have y := h k (by omega)
    have e : a + s * (k + 1) = a + s * k + s := by rw [Nat.mul_succ]; omega
    rw [e, zc_add P (a + s * k) s, Nat.mul_succ]
    omega
theorem zc_blk1 {P : Nat → Bool} {a s m j0 : Nat} : ∀ k, j0 < k → (∀ j, j < k → m ≤ zc (fun i => P (a + s * j + i)) s) → m + 1 ≤ zc (fun i => P (a + s * j0 + i)) s → zc P a + m * k + 1 ≤ zc P (a + s * k)
  | 0, hj, _, _ => absurd hj (Nat.not_lt_zero _)
  | k + 1, hj, h, h0 => by
    have e : a + s * (k + 1) = a + s * k + s := by rw [Nat.mul_succ]; omega
    rw [e, zc_add P (a + s * k) s, Nat.mul_succ]
    by_cases q : j0 = k
    · subst q
      have x := zc_blk (P := P) (a := a) (s := s) (m := m) j0 (fun j hj => h j (by omega))
      omega
    · have x := zc_blk1 (P := P) (a := a) (s := s) (m := m) (j0 := j0) k (by omega) (fun j hj => h j (by omega)) h0
      have y := h k (by omega)
      omega
/-- a cover of v + 2 c vertices: just one literal of each variable, just two corners of each three -/
theorem zcov_exact {v n3 : Nat} {L3 PL : List Nat} (hlen : PL.length ≤ v + 2 * n3) (hc : ∀ d, d < 2 * (v + 6 * n3) → zva v L3 d ∈ PL ∨ zva v L3 (zx1 d) ∈ PL) : (∀ x, x < v → ¬ (2 * x ∈ PL ∧ 2 * x + 1 ∈ PL)) ∧ ∀ j, j < n3 → ¬ (2 * v + 3 * j ∈ PL ∧ 2 * v + 3 * j + 1 ∈ PL ∧ 2 * v + 3 * j + 2 ∈ PL) := by
  have z2 : ∀ f : Nat → Bool, zc f 2 = (if f 0 then 1 else 0) + (if f 1 then 1 else 0) := fun f => by simp [zc]
  have z3 : ∀ f : Nat → Bool, zc f 3 = (if f 0 then 1 else 0) + (if f 1 then 1 else 0) + (if f 2 then 1 else 0) := fun f => by simp [zc]
  have hv : ∀ x, x < v → 2 * x ∈ PL ∨ 2 * x + 1 ∈ PL := by
    intro x hx
    have q := hc (2 * x) (by omega)
    rw [show zx1 (2 * x) = 2 * x + 1 by unfold zx1; rw [if_pos (by omega)], zva_lo (by omega), zva_lo (by omega)] at q
    exact q
  have ht : ∀ j, j < n3 → (2 * v + 3 * j ∈ PL ∨ 2 * v + 3 * j + 1 ∈ PL) ∧ (2 * v + 3 * j + 1 ∈ PL ∨ 2 * v + 3 * j + 2 ∈ PL) ∧ (2 * v + 3 * j ∈ PL ∨ 2 * v + 3 * j + 2 ∈ PL) := by
    intro j hj
    have a := hc (2 * (v + 6 * j) + 0) (by omega)
    have b := hc (2 * (v + 6 * j) + 2) (by omega)
    have d := hc (2 * (v + 6 * j) + 4) (by omega)
    have x1 : ∀ k, k % 2 = 0 → zx1 (2 * (v + 6 * j) + k) = 2 * (v + 6 * j) + (k + 1) := fun k hk => by unfold zx1; rw [if_pos (by omega)]; omega
    rw [x1 _ (by decide), zva_hi _ _ _ _ (by decide), zva_hi _ _ _ _ (by decide)] at a b d
    exact ⟨a, b, d⟩
  have bl1 : ∀ x, x < v → 1 ≤ zc (fun i => zin PL (0 + 2 * x + i)) 2 := by
    intro x hx
    rw [z2]
    rcases hv x hx with q | q
    · simp [zin, q]
    · simp [zin, q]
  have bl2 : ∀ j, j < n3 → 2 ≤ zc (fun i => zin PL (2 * v + 3 * j + i)) 3 := by
    intro j hj
    obtain ⟨a, b, d⟩ := ht j hj
    rw [z3]
    by_cases q0 : 2 * v + 3 * j ∈ PL
    · rcases b with q | q
      · simp [zin, q, q0]
      · simp [zin, q, q0]
    · have q1 := a.resolve_left q0
      have q2 := d.resolve_left q0
      simp [zin, q1, q2]
  have tot := zin_len PL (2 * v + 3 * n3)
  have s1 := zc_blk (P := zin PL) (a := 0) (s := 2) (m := 1) v bl1
  have s2 := zc_blk (P := zin PL) (a := 2 * v) (s := 3) (m := 2) n3 bl2
  have zz : zc (zin PL) 0 = 0 := rfl
  rw [Nat.zero_add] at s1
  constructor
  · rintro x hx ⟨q1, q2⟩
    have s3 := zc_blk1 (P := zin PL) (a := 0) (s := 2) (m := 1) (j0 := x) v hx bl1 (by rw [z2]; simp [zin, q1, q2])
    rw [Nat.zero_add (2 * v)] at s3
    omega
  · rintro j hj ⟨q1, q2, q3⟩
    have s3 := zc_blk1 (P := zin PL) (a := 2 * v) (s := 3) (m := 2) (j0 := j) n3 hj bl2 (by rw [z3]; simp [zin, q1, q2, q3])
    omega
/-- .. and its variables make a literal of each three true -/
theorem zcov_sat {v n3 : Nat} {L3 PL : List Nat} (hL : ∀ i, i < 3 * n3 → L3.getD i 0 < 2 * v) (hlen : PL.length ≤ v + 2 * n3) (hc : ∀ d, d < 2 * (v + 6 * n3) → zva v L3 d ∈ PL ∨ zva v L3 (zx1 d) ∈ PL) : ∀ j, j < n3 → ∃ i, i < 3 ∧ ztv (fun x => zmk PL (2 * x)) (L3.getD (3 * j + i) 0) = 1 := by
  intro j hj
  obtain ⟨h1, h2⟩ := zcov_exact hlen hc
  have hex : ∃ i, i < 3 ∧ ¬ 2 * v + 3 * j + i ∈ PL := by
    apply Classical.byContradiction
    intro q
    refine h2 j hj ⟨?_, ?_, ?_⟩
    · exact Classical.byContradiction (fun c => q ⟨0, by decide, c⟩)
    · exact Classical.byContradiction (fun c => q ⟨1, by decide, c⟩)
    · exact Classical.byContradiction (fun c => q ⟨2, by decide, c⟩)
  obtain ⟨i, hi, hni⟩ := hex
  refine ⟨i, hi, ?_⟩
  have a := hc (2 * (v + 6 * j) + (6 + 2 * i)) (by omega)
  have x1 : zx1 (2 * (v + 6 * j) + (6 + 2 * i)) = 2 * (v + 6 * j) + (7 + 2 * i) := by unfold zx1; rw [if_pos (by omega)]; omega
  have e1 : zva v L3 (2 * (v + 6 * j) + (6 + 2 * i)) = 2 * v + 3 * j + i := by
    rw [zva_hi _ _ _ _ (by omega)]
    simp only [show ¬ 6 + 2 * i = 0 by omega, show ¬ 6 + 2 * i = 1 by omega, show ¬ 6 + 2 * i = 2 by omega, show ¬ 6 + 2 * i = 3 by omega, show ¬ 6 + 2 * i = 4 by omega, show ¬ 6 + 2 * i = 5 by omega, show (6 + 2 * i) % 2 = 0 by omega, if_true, if_false]
    omega
  have e2 : zva v L3 (2 * (v + 6 * j) + (7 + 2 * i)) = L3.getD (3 * j + i) 0 := by
    rw [zva_hi _ _ _ _ (by omega)]
    simp only [show ¬ 7 + 2 * i = 0 by omega, show ¬ 7 + 2 * i = 1 by omega, show ¬ 7 + 2 * i = 2 by omega, show ¬ 7 + 2 * i = 3 by omega, show ¬ 7 + 2 * i = 4 by omega, show ¬ 7 + 2 * i = 5 by omega, show ¬ (7 + 2 * i) % 2 = 0 by omega, if_false]
    rw [show (7 + 2 * i) / 2 - 3 = i by omega]
  rw [x1, e1, e2] at a
  have hm := a.resolve_left hni
  have hl := hL (3 * j + i) (by omega)
  generalize L3.getD (3 * j + i) 0 = l at *
  unfold ztv zmk
  rw [if_neg]
  show ¬ (if 2 * (l / 2) ∈ PL then 1 else 0) = l % 2
  by_cases q : l % 2 = 0
  · rw [if_pos (by rw [show 2 * (l / 2) = l by omega]; exact hm)]
    omega
  · rw [if_neg (fun c => h1 (l / 2) (by omega) ⟨c, by rw [show 2 * (l / 2) + 1 = l by omega]; exact hm⟩)]
    omega
