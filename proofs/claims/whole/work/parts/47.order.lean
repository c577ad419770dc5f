/-! the class's friends' pairs are the model's, summed the other way -/
theorem sumN_add {f g : Nat → Int} : ∀ n, sumN (fun i => f i + g i) n = sumN f n + sumN g n
  | 0 => rfl
  | n + 1 => by rw [sumN, sumN, sumN, sumN_add n]; omega
theorem sumN_0 : ∀ n, sumN (fun _ => (0 : Int)) n = 0
  | 0 => rfl
  | n + 1 => by rw [sumN, sumN_0 n]; rfl
theorem sumN_swap {F : Nat → Nat → Int} {m : Nat} : ∀ n, sumN (fun a => sumN (fun b => F a b) m) n = sumN (fun b => sumN (fun a => F a b) n) m
  | 0 => (sumN_0 m).symm
  | n + 1 => by
    rw [sumN, sumN_swap n, ← sumN_add]
    exact sumN_congr m (fun i _ => rfl)
theorem cntF_sum {f : Nat → Bool} : ∀ n, ((cntF f n : Nat) : Int) = sumN (fun i => if f i = true then 1 else 0) n
  | 0 => rfl
  | n + 1 => by
    rw [cntF, sumN, ← cntF_sum n]
    by_cases h : f n = true
    · simp [h]
    · simp [h]
theorem pairs_swap {f : Nat → Nat → Bool} {n : Nat} : sumN (fun a => ((cntF (f a) n : Nat) : Int)) n = sumN (fun b => ((cntF (fun a => f a b) n : Nat) : Int)) n := by
  simp only [cntF_sum]
  exact sumN_swap n
