/-! numerals to the base 64, place by place -/
def lxS (x : Nat → Int) : Nat → Nat → Int
  | 0, _ => 0
  | k + 1, i => x i * ((2 ^ (6 * (7 - i)) : Nat) : Int) + lxS x k (i + 1)
theorem lxS_rng {x : Nat → Int} (hx : ∀ i, 0 ≤ x i ∧ x i ≤ 63) : ∀ (k i : Nat), i + k ≤ 8 → 0 ≤ lxS x k i ∧ lxS x k i < ((2 ^ (6 * (8 - i)) : Nat) : Int)
  | 0, i, _ => by
    refine ⟨Int.le_refl _, ?_⟩
    rw [lxS]
    exact Int.ofNat_lt.mpr (Nat.pow_pos (by decide))
  | k + 1, i, h => by
    have ih := lxS_rng hx k (i + 1) (by omega)
    have := hx i
    rw [lxS]
    rcases (show i = 0 ∨ i = 1 ∨ i = 2 ∨ i = 3 ∨ i = 4 ∨ i = 5 ∨ i = 6 ∨ i = 7 by omega) with rfl | rfl | rfl | rfl | rfl | rfl | rfl | rfl <;> simp at ih ⊢ <;> omega
theorem lxS_lt {x y : Nat → Int} (hx : ∀ i, 0 ≤ x i ∧ x i ≤ 63) (hy : ∀ i, 0 ≤ y i ∧ y i ≤ 63) {k i : Nat} (h : i + (k + 1) ≤ 8) : lxS x (k + 1) i < lxS y (k + 1) i ↔ x i < y i ∨ (x i = y i ∧ lxS x k (i + 1) < lxS y k (i + 1)) := by
  have a := lxS_rng hx k (i + 1) (by omega)
  have b := lxS_rng hy k (i + 1) (by omega)
  rw [lxS, lxS]
  generalize lxS x k (i + 1) = u at a ⊢
  generalize lxS y k (i + 1) = w at b ⊢
  generalize x i = p
  generalize y i = q
  rcases (show i = 0 ∨ i = 1 ∨ i = 2 ∨ i = 3 ∨ i = 4 ∨ i = 5 ∨ i = 6 ∨ i = 7 by omega) with rfl | rfl | rfl | rfl | rfl | rfl | rfl | rfl <;> simp at a b ⊢ <;> omega
