/-! a sum over PUPILS as a sum over their places -/
theorem sumN_mul0 {f : Nat → Int} {j : Nat} : ∀ n, sumN (fun i => if i = j then f i else 0) n = if j < n then f j else 0
  | 0 => rfl
  | n + 1 => by
    rw [sumN, sumN_mul0 n]
    by_cases h : n = j
    · subst h; simp
    · rw [if_neg h, Int.add_zero]
      by_cases h2 : j < n
      · rw [if_pos h2, if_pos (by omega)]
      · rw [if_neg h2, if_neg (by omega)]
/-- od and pl are each other's inverse below n -/
theorem sumN_perm {F : Nat → Nat → Int} {od pl : Nat → Nat} {n : Nat} (h1 : ∀ i, i < n → od i < n ∧ pl (od i) = i) (h2 : ∀ p, p < n → pl p < n ∧ od (pl p) = p) : sumN (fun p => F p (pl p)) n = sumN (fun i => F (od i) i) n := by
  have a : sumN (fun p => F p (pl p)) n = sumN (fun p => sumN (fun i => if i = pl p then F p i else 0) n) n := sumN_congr n (fun p hp => by
    rw [sumN_mul0 (f := fun i => F p i), if_pos (h2 p hp).1])
  have b : sumN (fun i => F (od i) i) n = sumN (fun i => sumN (fun p => if p = od i then F p i else 0) n) n := sumN_congr n (fun i hi => by
    rw [sumN_mul0 (f := fun p => F p i), if_pos (h1 i hi).1])
  rw [a, b, sumN_swap]
  refine sumN_congr n (fun i hi => sumN_congr n (fun p hp => ?_))
  by_cases e : i = pl p
  · rw [if_pos e, if_pos (by rw [e, (h2 p hp).2])]
  · rw [if_neg e, if_neg (fun z => e (by rw [z, (h1 i hi).2]))]
theorem lxS_sum {x : Nat → Int} : ∀ (k i : Nat), lxS x k i = sumN (fun j => x (i + j) * ((2 ^ (6 * (7 - (i + j))) : Nat) : Int)) k
  | 0, _ => rfl
  | k + 1, i => by
    have sh : ∀ (f : Nat → Int) (m : Nat), sumN f (m + 1) = f 0 + sumN (fun j => f (j + 1)) m := by
      intro f m
      induction m with
      | zero => simp [sumN]
      | succ m ih => rw [sumN, ih, sumN]; omega
    rw [lxS, lxS_sum k (i + 1), sh, Nat.add_zero]
    congr 1
    exact sumN_congr k (fun j _ => by rw [show i + 1 + j = i + (j + 1) by omega])
