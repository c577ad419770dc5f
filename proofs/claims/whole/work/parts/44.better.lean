/-! which PLAN is better: the same order by both sides' marks -/
theorem dig_cmp {a0 a1 a2 a3 a4 b0 b1 b2 b3 b4 : Int} (h0 : 0 ≤ a0 ∧ a0 ≤ 8 ∧ 0 ≤ b0 ∧ b0 ≤ 8) (h1 : 0 ≤ a1 ∧ a1 ≤ 8 ∧ 0 ≤ b1 ∧ b1 ≤ 8) (h2 : 0 ≤ a2 ∧ a2 ≤ 8 ∧ 0 ≤ b2 ∧ b2 ≤ 8) (h3 : 0 ≤ a3 ∧ a3 ≤ 8 ∧ 0 ≤ b3 ∧ b3 ≤ 8) (h4 : 0 ≤ a4 ∧ a4 ≤ 8 ∧ 0 ≤ b4 ∧ b4 ≤ 8) :
    (a0 + 16 * a1 + 256 * a2 + 4096 * a3 + 65536 * a4 < b0 + 16 * b1 + 256 * b2 + 4096 * b3 + 65536 * b4 ↔ a0 + 9 * a1 + 81 * a2 + 729 * a3 + 6561 * a4 < b0 + 9 * b1 + 81 * b2 + 729 * b3 + 6561 * b4) ∧
    (a0 + 16 * a1 + 256 * a2 + 4096 * a3 + 65536 * a4 = b0 + 16 * b1 + 256 * b2 + 4096 * b3 + 65536 * b4 ↔ a0 + 9 * a1 + 81 * a2 + 729 * a3 + 6561 * a4 = b0 + 9 * b1 + 81 * b2 + 729 * b3 + 6561 * b4) := by
  rcases Int.lt_trichotomy a4 b4 with e4 | e4 | e4
  · omega
  · subst e4
    rcases Int.lt_trichotomy a3 b3 with e3 | e3 | e3
    · omega
    · subst e3
      rcases Int.lt_trichotomy a2 b2 with e2 | e2 | e2
      · omega
      · subst e2
        rcases Int.lt_trichotomy a1 b1 with e1 | e1 | e1
        · omega
        · subst e1; omega
        · omega
      · omega
    · omega
  · omega
/-- the pupils of one RANK -/
def rkC (P : SP) (t : Nat → Int) (r : Int) (n : Nat) : Int := (cntF (fun p => P.pr p && decide (P.rk p (t p) = r)) n : Nat)
theorem rkC_s {P : SP} {t : Nat → Int} {r : Int} {n : Nat} : rkC P t r (n + 1) = rkC P t r n + if P.pr n = true ∧ P.rk n (t n) = r then 1 else 0 := by
  unfold rkC
  rw [cntF]
  by_cases h : P.pr n = true ∧ P.rk n (t n) = r
  · rw [if_pos h, if_pos (by simp [h.1, h.2])]; rfl
  · rw [if_neg h, if_neg (by simp; exact fun a b => h ⟨a, b⟩)]; rfl
theorem wF_sum {P : SP} {t : Nat → Int} (v : ∀ p j, 1 ≤ P.rk p j ∧ P.rk p j ≤ 6) : ∀ n, sumN (wF P t) n = rkC P t 2 n + 9 * rkC P t 3 n + 81 * rkC P t 4 n + 729 * rkC P t 5 n + 6561 * rkC P t 6 n
  | 0 => rfl
  | n + 1 => by
    rw [sumN, wF_sum v n, rkC_s, rkC_s, rkC_s, rkC_s, rkC_s, wF]
    by_cases h : P.pr n = true
    · have := v n (t n)
      simp only [h, true_and, if_true]
      rcases (show P.rk n (t n) = 1 ∨ P.rk n (t n) = 2 ∨ P.rk n (t n) = 3 ∨ P.rk n (t n) = 4 ∨ P.rk n (t n) = 5 ∨ P.rk n (t n) = 6 by omega) with e | e | e | e | e | e <;> rw [e] <;> simp [nin] <;> omega
    · simp only [h, false_and, if_false]
      simp
