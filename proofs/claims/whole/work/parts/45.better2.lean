/-! the class's cost, by the model's marks -/
theorem cA_sum {e : Hp} {P : SP} {t : Nat → Int} {mv : Nat → Bool} {n : Nat} (v : ∀ p j, 1 ≤ P.rk p j ∧ P.rk p j ≤ 6) (hp : ∀ p, p < n → isP e p = P.pr p) (hc : ∀ p, p < n → P.pr p = true → e 19 (ixC t p) = cstV (P.rk p (t p)) (P.sc p) + (if mv p = true then 1099511627776 else 0)) : ∀ m, m ≤ n → cA e t m = 32 * sumN (gF P t) m + 1048576 * (rkC P t 2 m + 16 * rkC P t 3 m + 256 * rkC P t 4 m + 4096 * rkC P t 5 m + 65536 * rkC P t 6 m) + 1099511627776 * (cntF (fun p => P.pr p && mv p) m : Nat)
  | 0, _ => rfl
  | m + 1, hm => by
    have ih := cA_sum v hp hc m (by omega)
    rw [cA, ih, hp m (by omega), sumN, rkC_s, rkC_s, rkC_s, rkC_s, rkC_s, cntF, gF]
    by_cases h : P.pr m = true
    · have h6 := v m (t m)
      rw [hc m (by omega) h]
      simp only [h, true_and, if_true, Bool.true_and]
      have hs : ∀ r : Int, cstV r (P.sc m) = r * (P.sc m + 1) * 32 + (if r < 2 then 0 else ((2 ^ (20 + 4 * (r - 2).toNat) : Nat) : Int)) := fun r => rfl
      rw [hs]
      generalize P.rk m (t m) * (P.sc m + 1) = g
      rcases (show P.rk m (t m) = 1 ∨ P.rk m (t m) = 2 ∨ P.rk m (t m) = 3 ∨ P.rk m (t m) = 4 ∨ P.rk m (t m) = 5 ∨ P.rk m (t m) = 6 by omega) with e | e | e | e | e | e <;> rw [e] <;> cases mv m <;> simp <;> omega
    · simp only [h, false_and, if_false, Bool.false_eq_true]
      simp [h]
